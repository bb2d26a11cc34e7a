abbrev rmX6_works : Room := { frames := 3, cells := 0, slots := 0, locals := 70 }
theorem hvX6_works : yX6_works.cls = RX6 ∧ yX6_works.cls ≠ "java/lang/invoke/MethodHandle" ∧ yX6_works.cls ≠ "java/lang/invoke/VarHandle" ∧ (parseMethodDescriptor yX6_works.desc).map (fun d => d.parameters.length) = some 1 := by decide +kernel
set_option maxRecDepth 100000 in
set_option maxHeartbeats 4000000 in
theorem kX6_works (Θ : Tht) (F : Nat) (m0 m1 m2 m3 m4 m5 m6 m7 m8 m9 : Nat) (m_now : Nat → Int64) (m_saved : Nat → Int64) (m_aside : Nat → Int64) (m_states : Int32) (m_quiet : Int32) (m_thrown : Int32) (m_tried : Nat → Int32) (m_best : Nat → Int32) (m_touching : Nat → Int32) (m_text : Nat → Int32) (m_length : Int32) (m_at : Int32) (m_verbs : Nat → Int32) (m_told : Nat → Int32) (m_commands : Int32) (a0 : Int32) (o_m_now : Nat → Int64) (hf : fX6_works F m_now a0 = some o_m_now) : Fn Θ yX6_works (Cond.code yX6_works cX6_works 5 none :: GW) rmX6_works [.ref m0, .int a0] (wX6 Θ m0 m1 m2 m3 m4 m5 m6 m7 m8 m9 m_now m_saved m_aside m_states m_quiet m_thrown m_tried m_best m_touching m_text m_length m_at m_verbs m_told m_commands) none (wX6 Θ m0 m1 m2 m3 m4 m5 m6 m7 m8 m9 o_m_now m_saved m_aside m_states m_quiet m_thrown m_tried m_best m_touching m_text m_length m_at m_verbs m_told m_commands) := by
  delta fX6_works at hf
  refine Fn.of (by decide +kernel) rfl (Nat.le_of_ble_eq_true rfl) (fun p e s m args below meth c A Q G K => ?_)
  show sw Θ p e rmX6_works s m args below meth c A Q 5 0 0 0 [(0, .ref m0), (1, .int a0)] [] (wX6 Θ m0 m1 m2 m3 m4 m5 m6 m7 m8 m9 m_now m_saved m_aside m_states m_quiet m_thrown m_tried m_best m_touching m_text m_length m_at m_verbs m_told m_commands)
  refine sw_bipush 0 G (60 : Int32) dX6_works_0 rfl ?_
  refine sw_iconst 2 G (5 : Int32) dX6_works_2 rfl ?_
  refine sw_iload_n 3 G dX6_works_3 1 rfl ?_
  refine sw_imul 4 G dX6_works_4 ?_
  refine sw_iadd 5 G dX6_works_5 ?_
  refine sw_nmi hf (fun v1 hf => ?_)
  refine sw_istore_n 6 G [(2, .int v1), (0, .ref m0), (1, .int a0)] dX6_works_6 (by decide) rfl ?_
  refine sw_aload_n 7 G dX6_works_7 1 rfl ?_
  refine sw_iload_n 8 G dX6_works_8 2 rfl ?_
  obtain ⟨r2, hg, hf⟩ := bd1_some hf
  refine sw_callV 9 G (wX6 Θ m0 m1 m2 m3 m4 m5 m6 m7 m8 m9 m_now m_saved m_aside m_states m_quiet m_thrown m_tried m_best m_touching m_text m_length m_at m_verbs m_told m_commands) [0, 1, 2, 3, 4, 5, 6, 7, 8, 9] [] [0, 1, 2, 3, 4, 5, 6, 7, 8, 9] 1 dX6_works_9 (kX6_opsAt Θ F m0 m1 m2 m3 m4 m5 m6 m7 m8 m9 m_now m_saved m_aside m_states m_quiet m_thrown m_tried m_best m_touching m_text m_length m_at m_verbs m_told m_commands a0 r2 hg) (gwV lk_578fec13 lk_7382132d lk_1149b8cf lk_6d91b6d2 lk_0856693d) rfl hvX6_opsAt ⟨rfl, rfl⟩ ⟨Nat.le_of_ble_eq_true rfl, Nat.le_of_ble_eq_true rfl⟩ ⟨Nat.zero_le _, Nat.zero_le _⟩ rfl rfl (Nat.le_of_ble_eq_true rfl) 0 rfl vc6 rfl rfl rfl rfl (by decide) ?_
  refine sw_istore_n 12 G [(3, .int r2), (2, .int v1), (0, .ref m0), (1, .int a0)] dX6_works_12 (by decide) rfl ?_
  refine sw_iconst 13 G (0 : Int32) dX6_works_13 rfl ?_
  refine sw_istore 14 G [(4, .int (0 : Int32)), (3, .int r2), (2, .int v1), (0, .ref m0), (1, .int a0)] dX6_works_14 (by decide) rfl ?_
  obtain ⟨v3, hl, hf⟩ := bd1_some hf
  have hx16_132 : sw Θ p e rmX6_works s m args below meth c A Q 5 0 0 132 [(0, .ref m0), (2, .int v1), (3, .int r2)] [] (wX6 Θ m0 m1 m2 m3 m4 m5 m6 m7 m8 m9 v3 m_saved m_aside m_states m_quiet m_thrown m_tried m_best m_touching m_text m_length m_at m_verbs m_told m_commands) := by
    refine sw_iload_n 132 G dX6_works_132 2 rfl ?_
    refine sw_if_eq 133 164 G dX6_works_133 rfl hf (fun hf => ?_) (fun hf => ?_)
    · cases hf
      exact sw_vret 164 G dX6_works_164 K
    · refine sw_aload_n 136 G dX6_works_136 0 rfl ?_
      refine sw_get 137 G hnX6 0 0 dX6_works_137 vc6 (by decide) (List.mem_cons_of_mem _ lk_54e63fd8) rfl rfl ?_
      refine sw_iload_n 140 G dX6_works_140 1 rfl ?_
      refine sw_iconst 141 G (3 : Int32) dX6_works_141 rfl ?_
      refine sw_iadd 142 G dX6_works_142 ?_
      refine sw_nmi hf (fun v4 hf => ?_)
      refine sw_lald 143 G 1 dX6_works_143 rfl hf (fun hf => ?_)
      refine sw_aload_n 144 G dX6_works_144 0 rfl ?_
      refine sw_get 145 G hnX6 0 0 dX6_works_145 vc6 (by decide) (List.mem_cons_of_mem _ lk_54e63fd8) rfl rfl ?_
      refine sw_bipush 148 G (7 : Int32) dX6_works_148 rfl ?_
      refine sw_lald 150 G 1 dX6_works_150 rfl hf (fun hf => ?_)
      refine sw_lcmp 151 G dX6_works_151 ?_
      refine sw_if_le 152 164 G dX6_works_152 rfl hf (fun hf => ?_) (fun hf => ?_)
      · cases hf
        exact sw_vret 164 G dX6_works_164 K
      · refine sw_aload_n 155 G dX6_works_155 0 rfl ?_
        refine sw_get 156 G hnX6 0 0 dX6_works_156 vc6 (by decide) (List.mem_cons_of_mem _ lk_54e63fd8) rfl rfl ?_
        refine sw_iload_n 159 G dX6_works_159 1 rfl ?_
        refine sw_iconst 160 G (4 : Int32) dX6_works_160 rfl ?_
        refine sw_iadd 161 G dX6_works_161 ?_
        refine sw_lconst 162 G (1 : Int64) dX6_works_162 rfl ?_
        refine sw_last 163 G 1 (wX6 Θ m0 m1 m2 m3 m4 m5 m6 m7 m8 m9 (vp_updL v3 (v1 + (4 : Int32)).toNatClampNeg (1 : Int64)) m_saved m_aside m_states m_quiet m_thrown m_tried m_best m_touching m_text m_length m_at m_verbs m_told m_commands) dX6_works_163 rfl rfl hf (fun hf => ?_)
        cases hf
        exact sw_vret 164 G dX6_works_164 K
  refine sw_lv [(0, .ref m0), (2, .int v1), (3, .int r2), (4, .int (0 : Int32))] [3, 2, 1, 0] rfl ?_
  refine lp_walk (P := fun (t : Int32 × (Nat → Int64)) => sw Θ p e rmX6_works s m args below meth c A Q 5 0 0 16 [(0, .ref m0), (2, .int v1), (3, .int r2), (4, .int t.1)] [] (wX6 Θ m0 m1 m2 m3 m4 m5 m6 m7 m8 m9 t.2 m_saved m_aside m_states m_quiet m_thrown m_tried m_best m_touching m_text m_length m_at m_verbs m_told m_commands)) hl (fun t16 y16 hf hin16 hex16 => ?_)
  obtain ⟨v5, v6⟩ := t16
  show sw Θ p e rmX6_works s m args below meth c A Q 5 0 0 16 [(0, .ref m0), (2, .int v1), (3, .int r2), (4, .int v5)] [] (wX6 Θ m0 m1 m2 m3 m4 m5 m6 m7 m8 m9 v6 m_saved m_aside m_states m_quiet m_thrown m_tried m_best m_touching m_text m_length m_at m_verbs m_told m_commands)
  have hf := uc2_some (K := _) hf
  refine sw_iload 16 G dX6_works_16 3 rfl ?_
  refine sw_aload_n 18 G dX6_works_18 0 rfl ?_
  refine sw_bipush 19 G (8 : Int32) dX6_works_19 rfl ?_
  obtain ⟨r7, hg, hf⟩ := bd1_some hf
  refine sw_callV 21 G (wX6 Θ m0 m1 m2 m3 m4 m5 m6 m7 m8 m9 v6 m_saved m_aside m_states m_quiet m_thrown m_tried m_best m_touching m_text m_length m_at m_verbs m_told m_commands) [0, 1, 2, 3, 4, 5, 6, 7, 8, 9] [] [0, 1, 2, 3, 4, 5, 6, 7, 8, 9] 1 dX6_works_21 (kX6_many Θ m0 m1 m2 m3 m4 m5 m6 m7 m8 m9 v6 m_saved m_aside m_states m_quiet m_thrown m_tried m_best m_touching m_text m_length m_at m_verbs m_told m_commands (8 : Int32) r7 hg) (gwV lk_184fe921 lk_d689724c lk_b095f72c lk_6d91b6d2 lk_d7f116ea) rfl hvX6_many ⟨rfl, rfl⟩ ⟨Nat.le_of_ble_eq_true rfl, Nat.le_of_ble_eq_true rfl⟩ ⟨Nat.zero_le _, Nat.zero_le _⟩ rfl rfl (Nat.le_of_ble_eq_true rfl) 0 rfl vc6 rfl rfl rfl rfl (by decide) ?_
  refine sw_icmp_ge 24 132 G dX6_works_24 rfl hf (fun hf => ?_) (fun hf => ?_)
  · cases hf
    cases hex16 _ rfl
    exact sw_lv _ [0, 1, 2] rfl hx16_132
  · refine sw_iload_n 27 G dX6_works_27 2 rfl ?_
    refine sw_iload 28 G dX6_works_28 3 rfl ?_
    refine sw_ishr 30 G dX6_works_30 ?_
    refine sw_iconst 31 G (1 : Int32) dX6_works_31 rfl ?_
    refine sw_iand 32 G dX6_works_32 ?_
    refine sw_iconst 33 G (1 : Int32) dX6_works_33 rfl ?_
    obtain ⟨v8, hj, hf⟩ := bd1_some hf
    have hx126 : sw Θ p e rmX6_works s m args below meth c A Q 5 0 0 126 [(0, .ref m0), (2, .int v1), (3, .int r2), (4, .int v5)] [] (wX6 Θ m0 m1 m2 m3 m4 m5 m6 m7 m8 m9 v8 m_saved m_aside m_states m_quiet m_thrown m_tried m_best m_touching m_text m_length m_at m_verbs m_told m_commands) := by
      refine sw_iinc 126 G (v5 + (1 : Int32)) [(4, .int (v5 + (1 : Int32))), (0, .ref m0), (2, .int v1), (3, .int r2)] dX6_works_126 3 rfl rfl (by decide) rfl ?_
      refine sw_goto 129 G 16 dX6_works_129 rfl ?_
      cases hf
      have hb := hin16 _ rfl
      exact sw_lv _ [1, 2, 3, 0] (by rfl) hb
    clear hf
    have hf := hj
    clear hj
    refine sw_icmp_ne 34 66 G dX6_works_34 rfl hf (fun hf => ?_) (fun hf => ?_)
    · refine sw_iload_n 66 G dX6_works_66 2 rfl ?_
      refine sw_iload 67 G dX6_works_67 3 rfl ?_
      refine sw_ishr 69 G dX6_works_69 ?_
      refine sw_iconst 70 G (1 : Int32) dX6_works_70 rfl ?_
      refine sw_iand 71 G dX6_works_71 ?_
      refine sw_iconst 72 G (1 : Int32) dX6_works_72 rfl ?_
      refine sw_icmp_ne 73 126 G dX6_works_73 rfl hf (fun hf => ?_) (fun hf => ?_)
      · cases hf
        exact sw_lv _ [0, 1, 2, 3] rfl hx126
      · refine sw_aload_n 76 G dX6_works_76 0 rfl ?_
        refine sw_get 77 G hnX6 0 0 dX6_works_77 vc6 (by decide) (List.mem_cons_of_mem _ lk_54e63fd8) rfl rfl ?_
        refine sw_bipush 80 G (12 : Int32) dX6_works_80 rfl ?_
        refine sw_dup2_11 82 G dX6_works_82 rfl rfl ?_
        refine sw_lald 83 G 1 dX6_works_83 rfl hf (fun hf => ?_)
        refine sw_aload_n 84 G dX6_works_84 0 rfl ?_
        refine sw_get 85 G hnX6 0 0 dX6_works_85 vc6 (by decide) (List.mem_cons_of_mem _ lk_54e63fd8) rfl rfl ?_
        refine sw_iload_n 88 G dX6_works_88 1 rfl ?_
        refine sw_iconst 89 G (1 : Int32) dX6_works_89 rfl ?_
        refine sw_iadd 90 G dX6_works_90 ?_
        refine sw_nmi hf (fun v9 hf => ?_)
        refine sw_lald 91 G 1 dX6_works_91 rfl hf (fun hf => ?_)
        refine sw_aload_n 92 G dX6_works_92 0 rfl ?_
        refine sw_iload 93 G dX6_works_93 3 rfl ?_
        obtain ⟨r10, hg, hf⟩ := bd1_some hf
        refine sw_callV 95 G (wX6 Θ m0 m1 m2 m3 m4 m5 m6 m7 m8 m9 v6 m_saved m_aside m_states m_quiet m_thrown m_tried m_best m_touching m_text m_length m_at m_verbs m_told m_commands) [0, 1, 2, 3, 4, 5, 6, 7, 8, 9] [] [0, 1, 2, 3, 4, 5, 6, 7, 8, 9] 1 dX6_works_95 (kX6_cellsOf Θ F m0 m1 m2 m3 m4 m5 m6 m7 m8 m9 v6 m_saved m_aside m_states m_quiet m_thrown m_tried m_best m_touching m_text m_length m_at m_verbs m_told m_commands v5 r10 hg) (gwV lk_f806aa0d lk_0baa7f17 lk_5f4f9baa lk_6d91b6d2 lk_2857eee9) rfl hvX6_cellsOf ⟨rfl, rfl⟩ ⟨Nat.le_of_ble_eq_true rfl, Nat.le_of_ble_eq_true rfl⟩ ⟨Nat.zero_le _, Nat.zero_le _⟩ rfl rfl (Nat.le_of_ble_eq_true rfl) 0 rfl vc6 rfl rfl rfl rfl (by decide) ?_
        refine sw_land 98 G dX6_works_98 ?_
        obtain ⟨r11, hg, hf⟩ := bd1_some hf
        refine sw_callS 99 G (wX6 Θ m0 m1 m2 m3 m4 m5 m6 m7 m8 m9 v6 m_saved m_aside m_states m_quiet m_thrown m_tried m_best m_touching m_text m_length m_at m_verbs m_told m_commands) [] [0, 1, 2, 3, 4, 5, 6, 7, 8, 9] [0, 1, 2, 3, 4, 5, 6, 7, 8, 9] 1 dX6_works_99 (kX6_ones Θ F ((v6 v9.toNatClampNeg) &&& r10) r11 hg) (gwS lk_d2b42130 lk_66add976 lk_cff7b874 lk_9c72bac3) rfl hsX6_ones ⟨rfl, rfl⟩ ⟨Nat.le_of_ble_eq_true rfl, Nat.le_of_ble_eq_true rfl⟩ ⟨Nat.zero_le _, Nat.zero_le _⟩ rfl rfl (Nat.le_of_ble_eq_true rfl) rfl rfl rfl (by decide) ?_
        refine sw_i2l 102 G dX6_works_102 ?_
        refine sw_ladd 103 G dX6_works_103 ?_
        refine sw_nml hf (fun v12 hf => ?_)
        refine sw_last 104 G 1 (wX6 Θ m0 m1 m2 m3 m4 m5 m6 m7 m8 m9 (vp_updL v6 (12 : Int32).toNatClampNeg v12) m_saved m_aside m_states m_quiet m_thrown m_tried m_best m_touching m_text m_length m_at m_verbs m_told m_commands) dX6_works_104 rfl rfl hf (fun hf => ?_)
        refine sw_aload_n 105 G dX6_works_105 0 rfl ?_
        refine sw_get 106 G hnX6 0 0 dX6_works_106 vc6 (by decide) (List.mem_cons_of_mem _ lk_54e63fd8) rfl rfl ?_
        refine sw_iload_n 109 G dX6_works_109 1 rfl ?_
        refine sw_iconst 110 G (1 : Int32) dX6_works_110 rfl ?_
        refine sw_iadd 111 G dX6_works_111 ?_
        refine sw_nmi hf (fun v13 hf => ?_)
        refine sw_dup2_11 112 G dX6_works_112 rfl rfl ?_
        refine sw_lald 113 G 1 dX6_works_113 rfl hf (fun hf => ?_)
        refine sw_aload_n 114 G dX6_works_114 0 rfl ?_
        refine sw_iload 115 G dX6_works_115 3 rfl ?_
        obtain ⟨r14, hg, hf⟩ := bd1_some hf
        refine sw_callV 117 G (wX6 Θ m0 m1 m2 m3 m4 m5 m6 m7 m8 m9 (vp_updL v6 (12 : Int32).toNatClampNeg v12) m_saved m_aside m_states m_quiet m_thrown m_tried m_best m_touching m_text m_length m_at m_verbs m_told m_commands) [0, 1, 2, 3, 4, 5, 6, 7, 8, 9] [] [0, 1, 2, 3, 4, 5, 6, 7, 8, 9] 1 dX6_works_117 (kX6_cellsOf Θ F m0 m1 m2 m3 m4 m5 m6 m7 m8 m9 (vp_updL v6 (12 : Int32).toNatClampNeg v12) m_saved m_aside m_states m_quiet m_thrown m_tried m_best m_touching m_text m_length m_at m_verbs m_told m_commands v5 r14 hg) (gwV lk_f806aa0d lk_0baa7f17 lk_5f4f9baa lk_6d91b6d2 lk_2857eee9) rfl hvX6_cellsOf ⟨rfl, rfl⟩ ⟨Nat.le_of_ble_eq_true rfl, Nat.le_of_ble_eq_true rfl⟩ ⟨Nat.zero_le _, Nat.zero_le _⟩ rfl rfl (Nat.le_of_ble_eq_true rfl) 0 rfl vc6 rfl rfl rfl rfl (by decide) ?_
        refine sw_ldc2 120 G (List.mem_cons_of_mem _ lk_e81893dd) dX6_works_120 ?_
        refine sw_lxor 123 G dX6_works_123 ?_
        refine sw_land 124 G dX6_works_124 ?_
        refine sw_nml hf (fun v15 hf => ?_)
        refine sw_last 125 G 1 (wX6 Θ m0 m1 m2 m3 m4 m5 m6 m7 m8 m9 (vp_updL (vp_updL v6 (12 : Int32).toNatClampNeg v12) v13.toNatClampNeg v15) m_saved m_aside m_states m_quiet m_thrown m_tried m_best m_touching m_text m_length m_at m_verbs m_told m_commands) dX6_works_125 rfl rfl hf (fun hf => ?_)
        cases hf
        exact sw_lv _ [0, 1, 2, 3] rfl hx126
    · refine sw_aload_n 37 G dX6_works_37 0 rfl ?_
      refine sw_iload 38 G dX6_works_38 3 rfl ?_
      refine sw_iconst 40 G (0 : Int32) dX6_works_40 rfl ?_
      obtain ⟨r16, hg, hf⟩ := bd1_some hf
      refine sw_callV 41 G (wX6 Θ m0 m1 m2 m3 m4 m5 m6 m7 m8 m9 v6 m_saved m_aside m_states m_quiet m_thrown m_tried m_best m_touching m_text m_length m_at m_verbs m_told m_commands) [0, 1, 2, 3, 4, 5, 6, 7, 8, 9] [] [0, 1, 2, 3, 4, 5, 6, 7, 8, 9] 2 dX6_works_41 (kX6_ofOp Θ m0 m1 m2 m3 m4 m5 m6 m7 m8 m9 v6 m_saved m_aside m_states m_quiet m_thrown m_tried m_best m_touching m_text m_length m_at m_verbs m_told m_commands v5 (0 : Int32) r16 hg) (gwV lk_2264dc2b lk_fffc09d0 lk_e7d0f718 lk_6d91b6d2 lk_229db627) rfl hvX6_ofOp ⟨rfl, rfl⟩ ⟨Nat.le_of_ble_eq_true rfl, Nat.le_of_ble_eq_true rfl⟩ ⟨Nat.zero_le _, Nat.zero_le _⟩ rfl rfl (Nat.le_of_ble_eq_true rfl) 0 rfl vc6 rfl rfl rfl rfl (by decide) ?_
      refine sw_iconst 44 G (1 : Int32) dX6_works_44 rfl ?_
      refine sw_icmp_ne 45 66 G dX6_works_45 rfl hf (fun hf => ?_) (fun hf => ?_)
      · refine sw_iload_n 66 G dX6_works_66 2 rfl ?_
        refine sw_iload 67 G dX6_works_67 3 rfl ?_
        refine sw_ishr 69 G dX6_works_69 ?_
        refine sw_iconst 70 G (1 : Int32) dX6_works_70 rfl ?_
        refine sw_iand 71 G dX6_works_71 ?_
        refine sw_iconst 72 G (1 : Int32) dX6_works_72 rfl ?_
        refine sw_icmp_ne 73 126 G dX6_works_73 rfl hf (fun hf => ?_) (fun hf => ?_)
        · cases hf
          exact sw_lv _ [0, 1, 2, 3] rfl hx126
        · refine sw_aload_n 76 G dX6_works_76 0 rfl ?_
          refine sw_get 77 G hnX6 0 0 dX6_works_77 vc6 (by decide) (List.mem_cons_of_mem _ lk_54e63fd8) rfl rfl ?_
          refine sw_bipush 80 G (12 : Int32) dX6_works_80 rfl ?_
          refine sw_dup2_11 82 G dX6_works_82 rfl rfl ?_
          refine sw_lald 83 G 1 dX6_works_83 rfl hf (fun hf => ?_)
          refine sw_aload_n 84 G dX6_works_84 0 rfl ?_
          refine sw_get 85 G hnX6 0 0 dX6_works_85 vc6 (by decide) (List.mem_cons_of_mem _ lk_54e63fd8) rfl rfl ?_
          refine sw_iload_n 88 G dX6_works_88 1 rfl ?_
          refine sw_iconst 89 G (1 : Int32) dX6_works_89 rfl ?_
          refine sw_iadd 90 G dX6_works_90 ?_
          refine sw_nmi hf (fun v17 hf => ?_)
          refine sw_lald 91 G 1 dX6_works_91 rfl hf (fun hf => ?_)
          refine sw_aload_n 92 G dX6_works_92 0 rfl ?_
          refine sw_iload 93 G dX6_works_93 3 rfl ?_
          obtain ⟨r18, hg, hf⟩ := bd1_some hf
          refine sw_callV 95 G (wX6 Θ m0 m1 m2 m3 m4 m5 m6 m7 m8 m9 v6 m_saved m_aside m_states m_quiet m_thrown m_tried m_best m_touching m_text m_length m_at m_verbs m_told m_commands) [0, 1, 2, 3, 4, 5, 6, 7, 8, 9] [] [0, 1, 2, 3, 4, 5, 6, 7, 8, 9] 1 dX6_works_95 (kX6_cellsOf Θ F m0 m1 m2 m3 m4 m5 m6 m7 m8 m9 v6 m_saved m_aside m_states m_quiet m_thrown m_tried m_best m_touching m_text m_length m_at m_verbs m_told m_commands v5 r18 hg) (gwV lk_f806aa0d lk_0baa7f17 lk_5f4f9baa lk_6d91b6d2 lk_2857eee9) rfl hvX6_cellsOf ⟨rfl, rfl⟩ ⟨Nat.le_of_ble_eq_true rfl, Nat.le_of_ble_eq_true rfl⟩ ⟨Nat.zero_le _, Nat.zero_le _⟩ rfl rfl (Nat.le_of_ble_eq_true rfl) 0 rfl vc6 rfl rfl rfl rfl (by decide) ?_
          refine sw_land 98 G dX6_works_98 ?_
          obtain ⟨r19, hg, hf⟩ := bd1_some hf
          refine sw_callS 99 G (wX6 Θ m0 m1 m2 m3 m4 m5 m6 m7 m8 m9 v6 m_saved m_aside m_states m_quiet m_thrown m_tried m_best m_touching m_text m_length m_at m_verbs m_told m_commands) [] [0, 1, 2, 3, 4, 5, 6, 7, 8, 9] [0, 1, 2, 3, 4, 5, 6, 7, 8, 9] 1 dX6_works_99 (kX6_ones Θ F ((v6 v17.toNatClampNeg) &&& r18) r19 hg) (gwS lk_d2b42130 lk_66add976 lk_cff7b874 lk_9c72bac3) rfl hsX6_ones ⟨rfl, rfl⟩ ⟨Nat.le_of_ble_eq_true rfl, Nat.le_of_ble_eq_true rfl⟩ ⟨Nat.zero_le _, Nat.zero_le _⟩ rfl rfl (Nat.le_of_ble_eq_true rfl) rfl rfl rfl (by decide) ?_
          refine sw_i2l 102 G dX6_works_102 ?_
          refine sw_ladd 103 G dX6_works_103 ?_
          refine sw_nml hf (fun v20 hf => ?_)
          refine sw_last 104 G 1 (wX6 Θ m0 m1 m2 m3 m4 m5 m6 m7 m8 m9 (vp_updL v6 (12 : Int32).toNatClampNeg v20) m_saved m_aside m_states m_quiet m_thrown m_tried m_best m_touching m_text m_length m_at m_verbs m_told m_commands) dX6_works_104 rfl rfl hf (fun hf => ?_)
          refine sw_aload_n 105 G dX6_works_105 0 rfl ?_
          refine sw_get 106 G hnX6 0 0 dX6_works_106 vc6 (by decide) (List.mem_cons_of_mem _ lk_54e63fd8) rfl rfl ?_
          refine sw_iload_n 109 G dX6_works_109 1 rfl ?_
          refine sw_iconst 110 G (1 : Int32) dX6_works_110 rfl ?_
          refine sw_iadd 111 G dX6_works_111 ?_
          refine sw_nmi hf (fun v21 hf => ?_)
          refine sw_dup2_11 112 G dX6_works_112 rfl rfl ?_
          refine sw_lald 113 G 1 dX6_works_113 rfl hf (fun hf => ?_)
          refine sw_aload_n 114 G dX6_works_114 0 rfl ?_
          refine sw_iload 115 G dX6_works_115 3 rfl ?_
          obtain ⟨r22, hg, hf⟩ := bd1_some hf
          refine sw_callV 117 G (wX6 Θ m0 m1 m2 m3 m4 m5 m6 m7 m8 m9 (vp_updL v6 (12 : Int32).toNatClampNeg v20) m_saved m_aside m_states m_quiet m_thrown m_tried m_best m_touching m_text m_length m_at m_verbs m_told m_commands) [0, 1, 2, 3, 4, 5, 6, 7, 8, 9] [] [0, 1, 2, 3, 4, 5, 6, 7, 8, 9] 1 dX6_works_117 (kX6_cellsOf Θ F m0 m1 m2 m3 m4 m5 m6 m7 m8 m9 (vp_updL v6 (12 : Int32).toNatClampNeg v20) m_saved m_aside m_states m_quiet m_thrown m_tried m_best m_touching m_text m_length m_at m_verbs m_told m_commands v5 r22 hg) (gwV lk_f806aa0d lk_0baa7f17 lk_5f4f9baa lk_6d91b6d2 lk_2857eee9) rfl hvX6_cellsOf ⟨rfl, rfl⟩ ⟨Nat.le_of_ble_eq_true rfl, Nat.le_of_ble_eq_true rfl⟩ ⟨Nat.zero_le _, Nat.zero_le _⟩ rfl rfl (Nat.le_of_ble_eq_true rfl) 0 rfl vc6 rfl rfl rfl rfl (by decide) ?_
          refine sw_ldc2 120 G (List.mem_cons_of_mem _ lk_e81893dd) dX6_works_120 ?_
          refine sw_lxor 123 G dX6_works_123 ?_
          refine sw_land 124 G dX6_works_124 ?_
          refine sw_nml hf (fun v23 hf => ?_)
          refine sw_last 125 G 1 (wX6 Θ m0 m1 m2 m3 m4 m5 m6 m7 m8 m9 (vp_updL (vp_updL v6 (12 : Int32).toNatClampNeg v20) v21.toNatClampNeg v23) m_saved m_aside m_states m_quiet m_thrown m_tried m_best m_touching m_text m_length m_at m_verbs m_told m_commands) dX6_works_125 rfl rfl hf (fun hf => ?_)
          cases hf
          exact sw_lv _ [0, 1, 2, 3] rfl hx126
      · refine sw_aload_n 48 G dX6_works_48 0 rfl ?_
        refine sw_get 49 G hnX6 0 0 dX6_works_49 vc6 (by decide) (List.mem_cons_of_mem _ lk_54e63fd8) rfl rfl ?_
        refine sw_iload_n 52 G dX6_works_52 1 rfl ?_
        refine sw_iconst 53 G (2 : Int32) dX6_works_53 rfl ?_
        refine sw_iadd 54 G dX6_works_54 ?_
        refine sw_nmi hf (fun v24 hf => ?_)
        refine sw_dup2_11 55 G dX6_works_55 rfl rfl ?_
        refine sw_lald 56 G 1 dX6_works_56 rfl hf (fun hf => ?_)
        refine sw_lconst 57 G (1 : Int64) dX6_works_57 rfl ?_
        refine sw_iload 58 G dX6_works_58 3 rfl ?_
        refine sw_lshl 60 G dX6_works_60 ?_
        refine sw_lor 61 G dX6_works_61 ?_
        refine sw_nml hf (fun v25 hf => ?_)
        refine sw_last 62 G 1 (wX6 Θ m0 m1 m2 m3 m4 m5 m6 m7 m8 m9 (vp_updL v6 v24.toNatClampNeg v25) m_saved m_aside m_states m_quiet m_thrown m_tried m_best m_touching m_text m_length m_at m_verbs m_told m_commands) dX6_works_62 rfl rfl hf (fun hf => ?_)
        refine sw_goto 63 G 126 dX6_works_63 rfl ?_
        cases hf
        exact sw_lv _ [0, 1, 2, 3] rfl hx126
abbrev rmX6_piloted : Room := { frames := 0, cells := 0, slots := 0, locals := 0 }
theorem hvX6_piloted : yX6_piloted.cls = RX6 ∧ yX6_piloted.cls ≠ "java/lang/invoke/MethodHandle" ∧ yX6_piloted.cls ≠ "java/lang/invoke/VarHandle" ∧ (parseMethodDescriptor yX6_piloted.desc).map (fun d => d.parameters.length) = some 1 := by decide +kernel
set_option maxRecDepth 100000 in
set_option maxHeartbeats 4000000 in
theorem kX6_piloted (Θ : Tht) (m0 m1 m2 m3 m4 m5 m6 m7 m8 m9 : Nat) (m_now : Nat → Int64) (m_saved : Nat → Int64) (m_aside : Nat → Int64) (m_states : Int32) (m_quiet : Int32) (m_thrown : Int32) (m_tried : Nat → Int32) (m_best : Nat → Int32) (m_touching : Nat → Int32) (m_text : Nat → Int32) (m_length : Int32) (m_at : Int32) (m_verbs : Nat → Int32) (m_told : Nat → Int32) (m_commands : Int32) (a0 : Int32) (o_m_now : Nat → Int64) (hf : fX6_piloted m_now a0 = some o_m_now) : Fn Θ yX6_piloted (Cond.code yX6_piloted cX6_piloted 2 none :: GW) rmX6_piloted [.ref m0, .int a0] (wX6 Θ m0 m1 m2 m3 m4 m5 m6 m7 m8 m9 m_now m_saved m_aside m_states m_quiet m_thrown m_tried m_best m_touching m_text m_length m_at m_verbs m_told m_commands) none (wX6 Θ m0 m1 m2 m3 m4 m5 m6 m7 m8 m9 o_m_now m_saved m_aside m_states m_quiet m_thrown m_tried m_best m_touching m_text m_length m_at m_verbs m_told m_commands) := by
  delta fX6_piloted at hf
  refine Fn.of (by decide +kernel) rfl (Nat.le_of_ble_eq_true rfl) (fun p e s m args below meth c A Q G K => ?_)
  show sw Θ p e rmX6_piloted s m args below meth c A Q 2 0 0 0 [(0, .ref m0), (1, .int a0)] [] (wX6 Θ m0 m1 m2 m3 m4 m5 m6 m7 m8 m9 m_now m_saved m_aside m_states m_quiet m_thrown m_tried m_best m_touching m_text m_length m_at m_verbs m_told m_commands)
  refine sw_aload_n 0 G dX6_piloted_0 0 rfl ?_
  refine sw_get 1 G hnX6 0 0 dX6_piloted_1 vc6 (by decide) (List.mem_cons_of_mem _ lk_54e63fd8) rfl rfl ?_
  refine sw_iload_n 4 G dX6_piloted_4 1 rfl ?_
  refine sw_iconst 5 G (3 : Int32) dX6_piloted_5 rfl ?_
  refine sw_iadd 6 G dX6_piloted_6 ?_
  refine sw_nmi hf (fun v1 hf => ?_)
  refine sw_lald 7 G 1 dX6_piloted_7 rfl hf (fun hf => ?_)
  refine sw_aload_n 8 G dX6_piloted_8 0 rfl ?_
  refine sw_get 9 G hnX6 0 0 dX6_piloted_9 vc6 (by decide) (List.mem_cons_of_mem _ lk_54e63fd8) rfl rfl ?_
  refine sw_bipush 12 G (6 : Int32) dX6_piloted_12 rfl ?_
  refine sw_lald 14 G 1 dX6_piloted_14 rfl hf (fun hf => ?_)
  refine sw_lcmp 15 G dX6_piloted_15 ?_
  refine sw_if_gt 16 31 G dX6_piloted_16 rfl hf (fun hf => ?_) (fun hf => ?_)
  · refine sw_aload_n 31 G dX6_piloted_31 0 rfl ?_
    refine sw_get 32 G hnX6 0 0 dX6_piloted_32 vc6 (by decide) (List.mem_cons_of_mem _ lk_54e63fd8) rfl rfl ?_
    refine sw_iload_n 35 G dX6_piloted_35 1 rfl ?_
    refine sw_iconst 36 G (4 : Int32) dX6_piloted_36 rfl ?_
    refine sw_iadd 37 G dX6_piloted_37 ?_
    refine sw_lconst 38 G (1 : Int64) dX6_piloted_38 rfl ?_
    refine sw_last 39 G 1 (wX6 Θ m0 m1 m2 m3 m4 m5 m6 m7 m8 m9 (vp_updL m_now (a0 + (4 : Int32)).toNatClampNeg (1 : Int64)) m_saved m_aside m_states m_quiet m_thrown m_tried m_best m_touching m_text m_length m_at m_verbs m_told m_commands) dX6_piloted_39 rfl rfl hf (fun hf => ?_)
    cases hf
    exact sw_vret 40 G dX6_piloted_40 K
  · refine sw_aload_n 19 G dX6_piloted_19 0 rfl ?_
    refine sw_get 20 G hnX6 0 0 dX6_piloted_20 vc6 (by decide) (List.mem_cons_of_mem _ lk_54e63fd8) rfl rfl ?_
    refine sw_iload_n 23 G dX6_piloted_23 1 rfl ?_
    refine sw_iconst 24 G (3 : Int32) dX6_piloted_24 rfl ?_
    refine sw_iadd 25 G dX6_piloted_25 ?_
    refine sw_lconst 26 G (0 : Int64) dX6_piloted_26 rfl ?_
    refine sw_last 27 G 1 (wX6 Θ m0 m1 m2 m3 m4 m5 m6 m7 m8 m9 (vp_updL m_now (a0 + (3 : Int32)).toNatClampNeg (0 : Int64)) m_saved m_aside m_states m_quiet m_thrown m_tried m_best m_touching m_text m_length m_at m_verbs m_told m_commands) dX6_piloted_27 rfl rfl hf (fun hf => ?_)
    refine sw_goto 28 G 40 dX6_piloted_28 rfl ?_
    cases hf
    exact sw_vret 40 G dX6_piloted_40 K
abbrev rmX6_strokes : Room := { frames := 6, cells := 0, slots := 0, locals := 142 }
theorem hvX6_strokes : yX6_strokes.cls = RX6 ∧ yX6_strokes.cls ≠ "java/lang/invoke/MethodHandle" ∧ yX6_strokes.cls ≠ "java/lang/invoke/VarHandle" ∧ (parseMethodDescriptor yX6_strokes.desc).map (fun d => d.parameters.length) = some 0 := by decide +kernel
set_option maxRecDepth 100000 in
set_option maxHeartbeats 4000000 in
theorem kX6_strokes (Θ : Tht) (F : Nat) (m0 m1 m2 m3 m4 m5 m6 m7 m8 m9 : Nat) (m_now : Nat → Int64) (m_saved : Nat → Int64) (m_aside : Nat → Int64) (m_states : Int32) (m_quiet : Int32) (m_thrown : Int32) (m_tried : Nat → Int32) (m_best : Nat → Int32) (m_touching : Nat → Int32) (m_text : Nat → Int32) (m_length : Int32) (m_at : Int32) (m_verbs : Nat → Int32) (m_told : Nat → Int32) (m_commands : Int32) (ro : Int32) (o_m_now : Nat → Int64) (hf : fX6_strokes F m_now = some (ro, o_m_now)) : Fn Θ yX6_strokes (Cond.code yX6_strokes cX6_strokes 6 (some .int) :: GW) rmX6_strokes [.ref m0] (wX6 Θ m0 m1 m2 m3 m4 m5 m6 m7 m8 m9 m_now m_saved m_aside m_states m_quiet m_thrown m_tried m_best m_touching m_text m_length m_at m_verbs m_told m_commands) (some (.int ro)) (wX6 Θ m0 m1 m2 m3 m4 m5 m6 m7 m8 m9 o_m_now m_saved m_aside m_states m_quiet m_thrown m_tried m_best m_touching m_text m_length m_at m_verbs m_told m_commands) := by
  delta fX6_strokes at hf
  refine Fn.of (by decide +kernel) rfl (Nat.le_of_ble_eq_true rfl) (fun p e s m args below meth c A Q G K => ?_)
  show sw Θ p e rmX6_strokes s m args below meth c A Q 6 0 0 0 [(0, .ref m0)] [] (wX6 Θ m0 m1 m2 m3 m4 m5 m6 m7 m8 m9 m_now m_saved m_aside m_states m_quiet m_thrown m_tried m_best m_touching m_text m_length m_at m_verbs m_told m_commands)
  refine sw_iconst 0 G (0 : Int32) dX6_strokes_0 rfl ?_
  refine sw_istore_n 1 G [(1, .int (0 : Int32)), (0, .ref m0)] dX6_strokes_1 (by decide) rfl ?_
  refine sw_iconst 2 G (0 : Int32) dX6_strokes_2 rfl ?_
  refine sw_istore_n 3 G [(2, .int (0 : Int32)), (1, .int (0 : Int32)), (0, .ref m0)] dX6_strokes_3 (by decide) rfl ?_
  refine sw_aload_n 4 G dX6_strokes_4 2 rfl ?_
  obtain ⟨r1, hg, hf⟩ := bd1_some hf
  refine sw_callV 5 G (wX6 Θ m0 m1 m2 m3 m4 m5 m6 m7 m8 m9 m_now m_saved m_aside m_states m_quiet m_thrown m_tried m_best m_touching m_text m_length m_at m_verbs m_told m_commands) [0, 1, 2, 3, 4, 5, 6, 7, 8, 9] [] [0, 1, 2, 3, 4, 5, 6, 7, 8, 9] 0 dX6_strokes_5 (kX6_stations Θ F m0 m1 m2 m3 m4 m5 m6 m7 m8 m9 m_now m_saved m_aside m_states m_quiet m_thrown m_tried m_best m_touching m_text m_length m_at m_verbs m_told m_commands r1 hg) (gwV lk_77b27923 lk_56fe8223 lk_16c61ef1 lk_6d91b6d2 lk_f876e1d3) rfl hvX6_stations ⟨rfl, rfl⟩ ⟨Nat.le_of_ble_eq_true rfl, Nat.le_of_ble_eq_true rfl⟩ ⟨Nat.zero_le _, Nat.zero_le _⟩ rfl rfl (Nat.le_of_ble_eq_true rfl) 0 rfl vc6 rfl rfl rfl rfl (by decide) ?_
  refine sw_istore_n 8 G [(3, .int r1), (2, .int (0 : Int32)), (1, .int (0 : Int32)), (0, .ref m0)] dX6_strokes_8 (by decide) rfl ?_
  refine sw_aload_n 9 G dX6_strokes_9 3 rfl ?_
  refine sw_get 10 G hnX6 0 0 dX6_strokes_10 vc6 (by decide) (List.mem_cons_of_mem _ lk_54e63fd8) rfl rfl ?_
  refine sw_bipush 13 G (9 : Int32) dX6_strokes_13 rfl ?_
  refine sw_dup2_11 15 G dX6_strokes_15 rfl rfl ?_
  refine sw_lald 16 G 1 dX6_strokes_16 rfl hf (fun hf => ?_)
  refine sw_lconst 17 G (1 : Int64) dX6_strokes_17 rfl ?_
  refine sw_ladd 18 G dX6_strokes_18 ?_
  refine sw_nml hf (fun v2 hf => ?_)
  refine sw_last 19 G 1 (wX6 Θ m0 m1 m2 m3 m4 m5 m6 m7 m8 m9 (vp_updL m_now (9 : Int32).toNatClampNeg v2) m_saved m_aside m_states m_quiet m_thrown m_tried m_best m_touching m_text m_length m_at m_verbs m_told m_commands) dX6_strokes_19 rfl rfl hf (fun hf => ?_)
  refine sw_bipush 20 G (7 : Int32) dX6_strokes_20 rfl ?_
  refine sw_istore 22 G [(4, .int (7 : Int32)), (3, .int r1), (2, .int (0 : Int32)), (1, .int (0 : Int32)), (0, .ref m0)] dX6_strokes_22 (by decide) rfl ?_
  obtain ⟨v3, v4, v5, hl, hf⟩ := bd3_some hf
  have hx24_121 : sw Θ p e rmX6_strokes s m args below meth c A Q 6 0 0 121 [(0, .ref m0), (1, .int v3), (2, .int v4), (3, .int r1)] [] (wX6 Θ m0 m1 m2 m3 m4 m5 m6 m7 m8 m9 v5 m_saved m_aside m_states m_quiet m_thrown m_tried m_best m_touching m_text m_length m_at m_verbs m_told m_commands) := by
    refine sw_bipush 121 G (7 : Int32) dX6_strokes_121 rfl ?_
    refine sw_istore 123 G [(4, .int (7 : Int32)), (0, .ref m0), (1, .int v3), (2, .int v4), (3, .int r1)] dX6_strokes_123 (by decide) rfl ?_
    obtain ⟨v6, hl, hf⟩ := bd1_some hf
    have hx125_183 : sw Θ p e rmX6_strokes s m args below meth c A Q 6 0 0 183 [(0, .ref m0), (1, .int v3), (2, .int v4), (3, .int r1)] [] (wX6 Θ m0 m1 m2 m3 m4 m5 m6 m7 m8 m9 v6 m_saved m_aside m_states m_quiet m_thrown m_tried m_best m_touching m_text m_length m_at m_verbs m_told m_commands) := by
      refine sw_aload_n 183 G dX6_strokes_183 0 rfl ?_
      refine sw_bipush 184 G (60 : Int32) dX6_strokes_184 rfl ?_
      obtain ⟨u7, hg, hf⟩ := bd1_some hf
      refine sw_callV 186 G (wX6 Θ m0 m1 m2 m3 m4 m5 m6 m7 m8 m9 u7 m_saved m_aside m_states m_quiet m_thrown m_tried m_best m_touching m_text m_length m_at m_verbs m_told m_commands) [0, 1, 2, 3, 4, 5, 6, 7, 8, 9] [] [0, 1, 2, 3, 4, 5, 6, 7, 8, 9] 1 dX6_strokes_186 (kX6_empties Θ F m0 m1 m2 m3 m4 m5 m6 m7 m8 m9 v6 m_saved m_aside m_states m_quiet m_thrown m_tried m_best m_touching m_text m_length m_at m_verbs m_told m_commands (60 : Int32) u7 hg) (gwV lk_0d3e3ea3 lk_026ae7eb lk_eca8abcc lk_6d91b6d2 lk_2dc7865b) rfl hvX6_empties ⟨rfl, rfl⟩ ⟨Nat.le_of_ble_eq_true rfl, Nat.le_of_ble_eq_true rfl⟩ ⟨Nat.zero_le _, Nat.zero_le _⟩ rfl rfl (Nat.le_of_ble_eq_true rfl) 0 rfl vc6 rfl rfl rfl rfl (by decide) ?_
      refine sw_aload_n 189 G dX6_strokes_189 0 rfl ?_
      refine sw_get 190 G hnX6 0 0 dX6_strokes_190 vc6 (by decide) (List.mem_cons_of_mem _ lk_54e63fd8) rfl rfl ?_
      refine sw_bipush 193 G (60 : Int32) dX6_strokes_193 rfl ?_
      refine sw_lconst 195 G (1 : Int64) dX6_strokes_195 rfl ?_
      refine sw_last 196 G 1 (wX6 Θ m0 m1 m2 m3 m4 m5 m6 m7 m8 m9 (vp_updL u7 (60 : Int32).toNatClampNeg (1 : Int64)) m_saved m_aside m_states m_quiet m_thrown m_tried m_best m_touching m_text m_length m_at m_verbs m_told m_commands) dX6_strokes_196 rfl rfl hf (fun hf => ?_)
      refine sw_aload_n 197 G dX6_strokes_197 0 rfl ?_
      refine sw_get 198 G hnX6 0 0 dX6_strokes_198 vc6 (by decide) (List.mem_cons_of_mem _ lk_54e63fd8) rfl rfl ?_
      refine sw_bipush 201 G (61 : Int32) dX6_strokes_201 rfl ?_
      refine sw_aload_n 203 G dX6_strokes_203 0 rfl ?_
      obtain ⟨r8, hg, hf⟩ := bd1_some hf
      refine sw_callV 204 G (wX6 Θ m0 m1 m2 m3 m4 m5 m6 m7 m8 m9 (vp_updL u7 (60 : Int32).toNatClampNeg (1 : Int64)) m_saved m_aside m_states m_quiet m_thrown m_tried m_best m_touching m_text m_length m_at m_verbs m_told m_commands) [0, 1, 2, 3, 4, 5, 6, 7, 8, 9] [] [0, 1, 2, 3, 4, 5, 6, 7, 8, 9] 0 dX6_strokes_204 (kX6_all Θ F m0 m1 m2 m3 m4 m5 m6 m7 m8 m9 (vp_updL u7 (60 : Int32).toNatClampNeg (1 : Int64)) m_saved m_aside m_states m_quiet m_thrown m_tried m_best m_touching m_text m_length m_at m_verbs m_told m_commands r8 hg) (gwV lk_8432f7ab lk_bfe085f4 lk_411ab8bc lk_6d91b6d2 lk_7c99059b) rfl hvX6_all ⟨rfl, rfl⟩ ⟨Nat.le_of_ble_eq_true rfl, Nat.le_of_ble_eq_true rfl⟩ ⟨Nat.zero_le _, Nat.zero_le _⟩ rfl rfl (Nat.le_of_ble_eq_true rfl) 0 rfl vc6 rfl rfl rfl rfl (by decide) ?_
      refine sw_last 207 G 1 (wX6 Θ m0 m1 m2 m3 m4 m5 m6 m7 m8 m9 (vp_updL (vp_updL u7 (60 : Int32).toNatClampNeg (1 : Int64)) (61 : Int32).toNatClampNeg r8) m_saved m_aside m_states m_quiet m_thrown m_tried m_best m_touching m_text m_length m_at m_verbs m_told m_commands) dX6_strokes_207 rfl rfl hf (fun hf => ?_)
      refine sw_iload_n 208 G dX6_strokes_208 3 rfl ?_
      obtain ⟨v9, v10, v11, hj, hf⟩ := bd3_some hf
      have hx232 : sw Θ p e rmX6_strokes s m args below meth c A Q 6 0 0 232 [(0, .ref m0), (1, .int v9), (2, .int v10)] [] (wX6 Θ m0 m1 m2 m3 m4 m5 m6 m7 m8 m9 v11 m_saved m_aside m_states m_quiet m_thrown m_tried m_best m_touching m_text m_length m_at m_verbs m_told m_commands) := by
        refine sw_iconst 232 G (0 : Int32) dX6_strokes_232 rfl ?_
        refine sw_istore 233 G [(4, .int (0 : Int32)), (0, .ref m0), (1, .int v9), (2, .int v10)] dX6_strokes_233 (by decide) rfl ?_
        obtain ⟨v16, hl, hf⟩ := bd1_some hf
        have hx235_288 : sw Θ p e rmX6_strokes s m args below meth c A Q 6 0 0 288 [(0, .ref m0), (1, .int v9), (2, .int v10)] [] (wX6 Θ m0 m1 m2 m3 m4 m5 m6 m7 m8 m9 v16 m_saved m_aside m_states m_quiet m_thrown m_tried m_best m_touching m_text m_length m_at m_verbs m_told m_commands) := by
          refine sw_iconst 288 G (0 : Int32) dX6_strokes_288 rfl ?_
          refine sw_istore 289 G [(4, .int (0 : Int32)), (0, .ref m0), (1, .int v9), (2, .int v10)] dX6_strokes_289 (by decide) rfl ?_
          obtain ⟨v17, hl, hf⟩ := bd1_some hf
          have hx291_322 : sw Θ p e rmX6_strokes s m args below meth c A Q 6 0 0 322 [(1, .int v9), (2, .int v10)] [] (wX6 Θ m0 m1 m2 m3 m4 m5 m6 m7 m8 m9 v17 m_saved m_aside m_states m_quiet m_thrown m_tried m_best m_touching m_text m_length m_at m_verbs m_told m_commands) := by
            refine sw_iload_n 322 G dX6_strokes_322 0 rfl ?_
            refine sw_if_ne 323 330 G dX6_strokes_323 rfl hf (fun hf => ?_) (fun hf => ?_)
            · refine sw_iload_n 330 G dX6_strokes_330 0 rfl ?_
              refine sw_iload_n 331 G dX6_strokes_331 1 rfl ?_
              refine sw_icmp_ne 332 339 G dX6_strokes_332 rfl hf (fun hf => ?_) (fun hf => ?_)
              · refine sw_iconst 339 G (2 : Int32) dX6_strokes_339 rfl ?_
                cases hf
                exact sw_iret 340 G dX6_strokes_340 K
              · refine sw_iconst 335 G (1 : Int32) dX6_strokes_335 rfl ?_
                refine sw_goto 336 G 340 dX6_strokes_336 rfl ?_
                cases hf
                exact sw_iret 340 G dX6_strokes_340 K
            · refine sw_iconst 326 G (0 : Int32) dX6_strokes_326 rfl ?_
              refine sw_goto 327 G 340 dX6_strokes_327 rfl ?_
              cases hf
              exact sw_iret 340 G dX6_strokes_340 K
          refine sw_lv [(0, .ref m0), (1, .int v9), (2, .int v10), (4, .int (0 : Int32))] [1, 2, 3, 0] rfl ?_
          refine lp_walk (P := fun (t : Int32 × (Nat → Int64)) => sw Θ p e rmX6_strokes s m args below meth c A Q 6 0 0 291 [(0, .ref m0), (1, .int v9), (2, .int v10), (4, .int t.1)] [] (wX6 Θ m0 m1 m2 m3 m4 m5 m6 m7 m8 m9 t.2 m_saved m_aside m_states m_quiet m_thrown m_tried m_best m_touching m_text m_length m_at m_verbs m_told m_commands)) hl (fun t291 y291 hf hin291 hex291 => ?_)
          obtain ⟨v18, v19⟩ := t291
          show sw Θ p e rmX6_strokes s m args below meth c A Q 6 0 0 291 [(0, .ref m0), (1, .int v9), (2, .int v10), (4, .int v18)] [] (wX6 Θ m0 m1 m2 m3 m4 m5 m6 m7 m8 m9 v19 m_saved m_aside m_states m_quiet m_thrown m_tried m_best m_touching m_text m_length m_at m_verbs m_told m_commands)
          have hf := uc2_some (K := _) hf
          refine sw_iload 291 G dX6_strokes_291 3 rfl ?_
          refine sw_bipush 293 G (8 : Int32) dX6_strokes_293 rfl ?_
          refine sw_icmp_ge 295 322 G dX6_strokes_295 rfl hf (fun hf => ?_) (fun hf => ?_)
          · cases hf
            cases hex291 _ rfl
            exact sw_lv _ [1, 2] rfl hx291_322
          · refine sw_aload_n 298 G dX6_strokes_298 0 rfl ?_
            refine sw_iload 299 G dX6_strokes_299 3 rfl ?_
            refine sw_iconst 301 G (0 : Int32) dX6_strokes_301 rfl ?_
            obtain ⟨r20, hg, hf⟩ := bd1_some hf
            refine sw_callV 302 G (wX6 Θ m0 m1 m2 m3 m4 m5 m6 m7 m8 m9 v19 m_saved m_aside m_states m_quiet m_thrown m_tried m_best m_touching m_text m_length m_at m_verbs m_told m_commands) [0, 1, 2, 3, 4, 5, 6, 7, 8, 9] [] [0, 1, 2, 3, 4, 5, 6, 7, 8, 9] 2 dX6_strokes_302 (kX6_ofPitch Θ m0 m1 m2 m3 m4 m5 m6 m7 m8 m9 v19 m_saved m_aside m_states m_quiet m_thrown m_tried m_best m_touching m_text m_length m_at m_verbs m_told m_commands v18 (0 : Int32) r20 hg) (gwV lk_a40543c5 lk_e7c4f238 lk_d53ce5a7 lk_6d91b6d2 lk_df8fdb45) rfl hvX6_ofPitch ⟨rfl, rfl⟩ ⟨Nat.le_of_ble_eq_true rfl, Nat.le_of_ble_eq_true rfl⟩ ⟨Nat.zero_le _, Nat.zero_le _⟩ rfl rfl (Nat.le_of_ble_eq_true rfl) 0 rfl vc6 rfl rfl rfl rfl (by decide) ?_
            refine sw_lconst 305 G (1 : Int64) dX6_strokes_305 rfl ?_
            refine sw_lcmp 306 G dX6_strokes_306 ?_
            obtain ⟨v21, hj, hf⟩ := bd1_some hf
            have hx316 : sw Θ p e rmX6_strokes s m args below meth c A Q 6 0 0 316 [(0, .ref m0), (1, .int v9), (2, .int v10), (4, .int v18)] [] (wX6 Θ m0 m1 m2 m3 m4 m5 m6 m7 m8 m9 v21 m_saved m_aside m_states m_quiet m_thrown m_tried m_best m_touching m_text m_length m_at m_verbs m_told m_commands) := by
              refine sw_iinc 316 G (v18 + (1 : Int32)) [(4, .int (v18 + (1 : Int32))), (0, .ref m0), (1, .int v9), (2, .int v10)] dX6_strokes_316 3 rfl rfl (by decide) rfl ?_
              refine sw_goto 319 G 291 dX6_strokes_319 rfl ?_
              cases hf
              have hb := hin291 _ rfl
              exact sw_lv _ [1, 2, 3, 0] (by rfl) hb
            clear hf
            have hf := hj
            clear hj
            refine sw_if_ne 307 316 G dX6_strokes_307 rfl hf (fun hf => ?_) (fun hf => ?_)
            · cases hf
              exact sw_lv _ [0, 1, 2, 3] rfl hx316
            · refine sw_aload_n 310 G dX6_strokes_310 0 rfl ?_
              refine sw_iload 311 G dX6_strokes_311 3 rfl ?_
              obtain ⟨u22, hg, hf⟩ := bd1_some hf
              refine sw_callV 313 G (wX6 Θ m0 m1 m2 m3 m4 m5 m6 m7 m8 m9 u22 m_saved m_aside m_states m_quiet m_thrown m_tried m_best m_touching m_text m_length m_at m_verbs m_told m_commands) [0, 1, 2, 3, 4, 5, 6, 7, 8, 9] [] [0, 1, 2, 3, 4, 5, 6, 7, 8, 9] 1 dX6_strokes_313 (kX6_works Θ F m0 m1 m2 m3 m4 m5 m6 m7 m8 m9 v19 m_saved m_aside m_states m_quiet m_thrown m_tried m_best m_touching m_text m_length m_at m_verbs m_told m_commands v18 u22 hg) (gwV lk_23a678e3 lk_348a6801 lk_87984f13 lk_6d91b6d2 lk_84163069) rfl hvX6_works ⟨rfl, rfl⟩ ⟨Nat.le_of_ble_eq_true rfl, Nat.le_of_ble_eq_true rfl⟩ ⟨Nat.zero_le _, Nat.zero_le _⟩ rfl rfl (Nat.le_of_ble_eq_true rfl) 0 rfl vc6 rfl rfl rfl rfl (by decide) ?_
              cases hf
              exact sw_lv _ [0, 1, 2, 3] rfl hx316
        refine sw_lv [(0, .ref m0), (1, .int v9), (2, .int v10), (4, .int (0 : Int32))] [1, 2, 3, 0] rfl ?_
        refine lp_walk (P := fun (t : Int32 × (Nat → Int64)) => sw Θ p e rmX6_strokes s m args below meth c A Q 6 0 0 235 [(0, .ref m0), (1, .int v9), (2, .int v10), (4, .int t.1)] [] (wX6 Θ m0 m1 m2 m3 m4 m5 m6 m7 m8 m9 t.2 m_saved m_aside m_states m_quiet m_thrown m_tried m_best m_touching m_text m_length m_at m_verbs m_told m_commands)) hl (fun t235 y235 hf hin235 hex235 => ?_)
        obtain ⟨v23, v24⟩ := t235
        show sw Θ p e rmX6_strokes s m args below meth c A Q 6 0 0 235 [(0, .ref m0), (1, .int v9), (2, .int v10), (4, .int v23)] [] (wX6 Θ m0 m1 m2 m3 m4 m5 m6 m7 m8 m9 v24 m_saved m_aside m_states m_quiet m_thrown m_tried m_best m_touching m_text m_length m_at m_verbs m_told m_commands)
        have hf := uc2_some (K := _) hf
        refine sw_iload 235 G dX6_strokes_235 3 rfl ?_
        refine sw_bipush 237 G (8 : Int32) dX6_strokes_237 rfl ?_
        refine sw_icmp_ge 239 288 G dX6_strokes_239 rfl hf (fun hf => ?_) (fun hf => ?_)
        · cases hf
          cases hex235 _ rfl
          exact sw_lv _ [0, 1, 2] rfl hx235_288
        · refine sw_aload_n 242 G dX6_strokes_242 0 rfl ?_
          refine sw_iload 243 G dX6_strokes_243 3 rfl ?_
          refine sw_iconst 245 G (0 : Int32) dX6_strokes_245 rfl ?_
          obtain ⟨r25, hg, hf⟩ := bd1_some hf
          refine sw_callV 246 G (wX6 Θ m0 m1 m2 m3 m4 m5 m6 m7 m8 m9 v24 m_saved m_aside m_states m_quiet m_thrown m_tried m_best m_touching m_text m_length m_at m_verbs m_told m_commands) [0, 1, 2, 3, 4, 5, 6, 7, 8, 9] [] [0, 1, 2, 3, 4, 5, 6, 7, 8, 9] 2 dX6_strokes_246 (kX6_ofPitch Θ m0 m1 m2 m3 m4 m5 m6 m7 m8 m9 v24 m_saved m_aside m_states m_quiet m_thrown m_tried m_best m_touching m_text m_length m_at m_verbs m_told m_commands v23 (0 : Int32) r25 hg) (gwV lk_a40543c5 lk_e7c4f238 lk_d53ce5a7 lk_6d91b6d2 lk_df8fdb45) rfl hvX6_ofPitch ⟨rfl, rfl⟩ ⟨Nat.le_of_ble_eq_true rfl, Nat.le_of_ble_eq_true rfl⟩ ⟨Nat.zero_le _, Nat.zero_le _⟩ rfl rfl (Nat.le_of_ble_eq_true rfl) 0 rfl vc6 rfl rfl rfl rfl (by decide) ?_
          refine sw_lconst 249 G (1 : Int64) dX6_strokes_249 rfl ?_
          refine sw_lcmp 250 G dX6_strokes_250 ?_
          obtain ⟨v26, hj, hf⟩ := bd1_some hf
          have hx282 : sw Θ p e rmX6_strokes s m args below meth c A Q 6 0 0 282 [(0, .ref m0), (1, .int v9), (2, .int v10), (4, .int v23)] [] (wX6 Θ m0 m1 m2 m3 m4 m5 m6 m7 m8 m9 v26 m_saved m_aside m_states m_quiet m_thrown m_tried m_best m_touching m_text m_length m_at m_verbs m_told m_commands) := by
            refine sw_iinc 282 G (v23 + (1 : Int32)) [(4, .int (v23 + (1 : Int32))), (0, .ref m0), (1, .int v9), (2, .int v10)] dX6_strokes_282 3 rfl rfl (by decide) rfl ?_
            refine sw_goto 285 G 235 dX6_strokes_285 rfl ?_
            cases hf
            have hb := hin235 _ rfl
            exact sw_lv _ [1, 2, 3, 0] (by rfl) hb
          clear hf
          have hf := hj
          clear hj
          refine sw_if_ne 251 282 G dX6_strokes_251 rfl hf (fun hf => ?_) (fun hf => ?_)
          · cases hf
            exact sw_lv _ [0, 1, 2, 3] rfl hx282
          · refine sw_aload_n 254 G dX6_strokes_254 0 rfl ?_
            refine sw_get 255 G hnX6 0 0 dX6_strokes_255 vc6 (by decide) (List.mem_cons_of_mem _ lk_54e63fd8) rfl rfl ?_
            refine sw_bipush 258 G (13 : Int32) dX6_strokes_258 rfl ?_
            refine sw_lald 260 G 1 dX6_strokes_260 rfl hf (fun hf => ?_)
            refine sw_iload 261 G dX6_strokes_261 3 rfl ?_
            refine sw_lshr 263 G dX6_strokes_263 ?_
            refine sw_lconst 264 G (1 : Int64) dX6_strokes_264 rfl ?_
            refine sw_land 265 G dX6_strokes_265 ?_
            refine sw_lconst 266 G (1 : Int64) dX6_strokes_266 rfl ?_
            refine sw_lcmp 267 G dX6_strokes_267 ?_
            refine sw_if_ne 268 282 G dX6_strokes_268 rfl hf (fun hf => ?_) (fun hf => ?_)
            · cases hf
              exact sw_lv _ [0, 1, 2, 3] rfl hx282
            · refine sw_aload_n 271 G dX6_strokes_271 0 rfl ?_
              refine sw_bipush 272 G (60 : Int32) dX6_strokes_272 rfl ?_
              refine sw_iconst 274 G (5 : Int32) dX6_strokes_274 rfl ?_
              refine sw_iload 275 G dX6_strokes_275 3 rfl ?_
              refine sw_imul 277 G dX6_strokes_277 ?_
              refine sw_iadd 278 G dX6_strokes_278 ?_
              obtain ⟨u27, hg, hf⟩ := bd1_some hf
              refine sw_callV 279 G (wX6 Θ m0 m1 m2 m3 m4 m5 m6 m7 m8 m9 u27 m_saved m_aside m_states m_quiet m_thrown m_tried m_best m_touching m_text m_length m_at m_verbs m_told m_commands) [0, 1, 2, 3, 4, 5, 6, 7, 8, 9] [] [0, 1, 2, 3, 4, 5, 6, 7, 8, 9] 1 dX6_strokes_279 (kX6_piloted Θ m0 m1 m2 m3 m4 m5 m6 m7 m8 m9 v24 m_saved m_aside m_states m_quiet m_thrown m_tried m_best m_touching m_text m_length m_at m_verbs m_told m_commands ((60 : Int32) + ((5 : Int32) * v23)) u27 hg) (gwV lk_7fd8e554 lk_f9e0bc46 lk_e9f64f53 lk_6d91b6d2 lk_61e1f2d7) rfl hvX6_piloted ⟨rfl, rfl⟩ ⟨Nat.le_of_ble_eq_true rfl, Nat.le_of_ble_eq_true rfl⟩ ⟨Nat.zero_le _, Nat.zero_le _⟩ rfl rfl (Nat.le_of_ble_eq_true rfl) 0 rfl vc6 rfl rfl rfl rfl (by decide) ?_
              cases hf
              exact sw_lv _ [0, 1, 2, 3] rfl hx282
      clear hf
      have hf := hj
      clear hj
      refine sw_if_ne 209 232 G dX6_strokes_209 rfl hf (fun hf => ?_) (fun hf => ?_)
      · cases hf
        exact sw_lv _ [0, 1, 2] rfl hx232
      · refine sw_iinc 212 G (v3 + (1 : Int32)) [(1, .int (v3 + (1 : Int32))), (0, .ref m0), (2, .int v4), (3, .int r1)] dX6_strokes_212 1 rfl rfl (by decide) rfl ?_
        refine sw_iload_n 215 G dX6_strokes_215 2 rfl ?_
        refine sw_aload_n 216 G dX6_strokes_216 1 rfl ?_
        refine sw_bipush 217 G (60 : Int32) dX6_strokes_217 rfl ?_
        obtain ⟨r12, u13, hg, hf⟩ := bd2_some hf
        refine sw_callV 219 G (wX6 Θ m0 m1 m2 m3 m4 m5 m6 m7 m8 m9 u13 m_saved m_aside m_states m_quiet m_thrown m_tried m_best m_touching m_text m_length m_at m_verbs m_told m_commands) [0, 1, 2, 3, 4, 5, 6, 7, 8, 9] [] [0, 1, 2, 3, 4, 5, 6, 7, 8, 9] 1 dX6_strokes_219 (kX6_leaves Θ F m0 m1 m2 m3 m4 m5 m6 m7 m8 m9 (vp_updL (vp_updL u7 (60 : Int32).toNatClampNeg (1 : Int64)) (61 : Int32).toNatClampNeg r8) m_saved m_aside m_states m_quiet m_thrown m_tried m_best m_touching m_text m_length m_at m_verbs m_told m_commands (60 : Int32) r12 u13 hg) (gwV lk_4015623c lk_eb3e5a3e lk_97b9dc01 lk_6d91b6d2 lk_2fe2708f) rfl hvX6_leaves ⟨rfl, rfl⟩ ⟨Nat.le_of_ble_eq_true rfl, Nat.le_of_ble_eq_true rfl⟩ ⟨Nat.zero_le _, Nat.zero_le _⟩ rfl rfl (Nat.le_of_ble_eq_true rfl) 0 rfl vc6 rfl rfl rfl rfl (by decide) ?_
        obtain ⟨v14, hj, hf⟩ := bd1_some hf
        have hx230 : sw Θ p e rmX6_strokes s m args below meth c A Q 6 0 0 230 [(0, .ref m0), (1, .int (v3 + (1 : Int32)))] [.int v14, .int v4] (wX6 Θ m0 m1 m2 m3 m4 m5 m6 m7 m8 m9 u13 m_saved m_aside m_states m_quiet m_thrown m_tried m_best m_touching m_text m_length m_at m_verbs m_told m_commands) := by
          refine sw_iadd 230 G dX6_strokes_230 ?_
          refine sw_nmi hf (fun v15 hf => ?_)
          refine sw_istore_n 231 G [(2, .int v15), (0, .ref m0), (1, .int (v3 + (1 : Int32)))] dX6_strokes_231 (by decide) rfl ?_
          cases hf
          exact sw_lv _ [1, 2, 0] rfl hx232
        clear hf
        have hf := hj
        clear hj
        refine sw_if_eq 222 229 G dX6_strokes_222 rfl hf (fun hf => ?_) (fun hf => ?_)
        · refine sw_iconst 229 G (0 : Int32) dX6_strokes_229 rfl ?_
          cases hf
          exact sw_lv _ [1, 0] rfl hx230
        · refine sw_iconst 225 G (1 : Int32) dX6_strokes_225 rfl ?_
          refine sw_goto 226 G 230 dX6_strokes_226 rfl ?_
          cases hf
          exact sw_lv _ [1, 0] rfl hx230
    refine sw_lv [(0, .ref m0), (1, .int v3), (2, .int v4), (3, .int r1), (4, .int (7 : Int32))] [1, 2, 3, 4, 0] rfl ?_
    refine lp_walk (P := fun (t : Int32 × (Nat → Int64)) => sw Θ p e rmX6_strokes s m args below meth c A Q 6 0 0 125 [(0, .ref m0), (1, .int v3), (2, .int v4), (3, .int r1), (4, .int t.1)] [] (wX6 Θ m0 m1 m2 m3 m4 m5 m6 m7 m8 m9 t.2 m_saved m_aside m_states m_quiet m_thrown m_tried m_best m_touching m_text m_length m_at m_verbs m_told m_commands)) hl (fun t125 y125 hf hin125 hex125 => ?_)
    obtain ⟨v28, v29⟩ := t125
    show sw Θ p e rmX6_strokes s m args below meth c A Q 6 0 0 125 [(0, .ref m0), (1, .int v3), (2, .int v4), (3, .int r1), (4, .int v28)] [] (wX6 Θ m0 m1 m2 m3 m4 m5 m6 m7 m8 m9 v29 m_saved m_aside m_states m_quiet m_thrown m_tried m_best m_touching m_text m_length m_at m_verbs m_told m_commands)
    have hf := uc2_some (K := _) hf
    refine sw_iload 125 G dX6_strokes_125 4 rfl ?_
    refine sw_if_le 127 183 G dX6_strokes_127 rfl hf (fun hf => ?_) (fun hf => ?_)
    · cases hf
      cases hex125 _ rfl
      exact sw_lv _ [0, 1, 2, 3] rfl hx125_183
    · refine sw_iconst 130 G (0 : Int32) dX6_strokes_130 rfl ?_
      refine sw_istore 131 G [(5, .int (0 : Int32)), (0, .ref m0), (1, .int v3), (2, .int v4), (3, .int r1), (4, .int v28)] dX6_strokes_131 (by decide) rfl ?_
      obtain ⟨v30, hl, hf⟩ := bd1_some hf
      have hx133_177 : sw Θ p e rmX6_strokes s m args below meth c A Q 6 0 0 177 [(0, .ref m0), (1, .int v3), (2, .int v4), (3, .int r1), (4, .int v28)] [] (wX6 Θ m0 m1 m2 m3 m4 m5 m6 m7 m8 m9 v30 m_saved m_aside m_states m_quiet m_thrown m_tried m_best m_touching m_text m_length m_at m_verbs m_told m_commands) := by
        refine sw_iinc 177 G (v28 + (-1 : Int32)) [(4, .int (v28 + (-1 : Int32))), (0, .ref m0), (1, .int v3), (2, .int v4), (3, .int r1)] dX6_strokes_177 4 rfl rfl (by decide) rfl ?_
        refine sw_goto 180 G 125 dX6_strokes_180 rfl ?_
        cases hf
        have hb := hin125 _ rfl
        exact sw_lv _ [1, 2, 3, 4, 0] (by rfl) hb
      refine sw_lv [(0, .ref m0), (1, .int v3), (2, .int v4), (3, .int r1), (4, .int v28), (5, .int (0 : Int32))] [1, 2, 3, 4, 5, 0] rfl ?_
      refine lp_walk (P := fun (t : Int32 × (Nat → Int64)) => sw Θ p e rmX6_strokes s m args below meth c A Q 6 0 0 133 [(0, .ref m0), (1, .int v3), (2, .int v4), (3, .int r1), (4, .int v28), (5, .int t.1)] [] (wX6 Θ m0 m1 m2 m3 m4 m5 m6 m7 m8 m9 t.2 m_saved m_aside m_states m_quiet m_thrown m_tried m_best m_touching m_text m_length m_at m_verbs m_told m_commands)) hl (fun t133 y133 hf hin133 hex133 => ?_)
      obtain ⟨v31, v32⟩ := t133
      show sw Θ p e rmX6_strokes s m args below meth c A Q 6 0 0 133 [(0, .ref m0), (1, .int v3), (2, .int v4), (3, .int r1), (4, .int v28), (5, .int v31)] [] (wX6 Θ m0 m1 m2 m3 m4 m5 m6 m7 m8 m9 v32 m_saved m_aside m_states m_quiet m_thrown m_tried m_best m_touching m_text m_length m_at m_verbs m_told m_commands)
      have hf := uc2_some (K := _) hf
      refine sw_iload 133 G dX6_strokes_133 5 rfl ?_
      refine sw_iconst 135 G (5 : Int32) dX6_strokes_135 rfl ?_
      refine sw_icmp_ge 136 177 G dX6_strokes_136 rfl hf (fun hf => ?_) (fun hf => ?_)
      · cases hf
        cases hex133 _ rfl
        exact sw_lv _ [0, 1, 2, 3, 4] rfl hx133_177
      · refine sw_aload_n 139 G dX6_strokes_139 0 rfl ?_
        refine sw_get 140 G hnX6 0 0 dX6_strokes_140 vc6 (by decide) (List.mem_cons_of_mem _ lk_54e63fd8) rfl rfl ?_
        refine sw_bipush 143 G (60 : Int32) dX6_strokes_143 rfl ?_
        refine sw_iconst 145 G (5 : Int32) dX6_strokes_145 rfl ?_
        refine sw_iload 146 G dX6_strokes_146 4 rfl ?_
        refine sw_imul 148 G dX6_strokes_148 ?_
        refine sw_iadd 149 G dX6_strokes_149 ?_
        refine sw_nmi hf (fun v33 hf => ?_)
        refine sw_iload 150 G dX6_strokes_150 5 rfl ?_
        refine sw_iadd 152 G dX6_strokes_152 ?_
        refine sw_nmi hf (fun v34 hf => ?_)
        refine sw_aload_n 153 G dX6_strokes_153 0 rfl ?_
        refine sw_get 154 G hnX6 0 0 dX6_strokes_154 vc6 (by decide) (List.mem_cons_of_mem _ lk_54e63fd8) rfl rfl ?_
        refine sw_bipush 157 G (60 : Int32) dX6_strokes_157 rfl ?_
        refine sw_iconst 159 G (5 : Int32) dX6_strokes_159 rfl ?_
        refine sw_iload 160 G dX6_strokes_160 4 rfl ?_
        refine sw_imul 162 G dX6_strokes_162 ?_
        refine sw_iadd 163 G dX6_strokes_163 ?_
        refine sw_iconst 164 G (5 : Int32) dX6_strokes_164 rfl ?_
        refine sw_isub 165 G dX6_strokes_165 ?_
        refine sw_nmi hf (fun v35 hf => ?_)
        refine sw_iload 166 G dX6_strokes_166 5 rfl ?_
        refine sw_iadd 168 G dX6_strokes_168 ?_
        refine sw_nmi hf (fun v36 hf => ?_)
        refine sw_lald 169 G 1 dX6_strokes_169 rfl hf (fun hf => ?_)
        refine sw_nml hf (fun v37 hf => ?_)
        refine sw_last 170 G 1 (wX6 Θ m0 m1 m2 m3 m4 m5 m6 m7 m8 m9 (vp_updL v32 v34.toNatClampNeg v37) m_saved m_aside m_states m_quiet m_thrown m_tried m_best m_touching m_text m_length m_at m_verbs m_told m_commands) dX6_strokes_170 rfl rfl hf (fun hf => ?_)
        refine sw_iinc 171 G (v31 + (1 : Int32)) [(5, .int (v31 + (1 : Int32))), (0, .ref m0), (1, .int v3), (2, .int v4), (3, .int r1), (4, .int v28)] dX6_strokes_171 5 rfl rfl (by decide) rfl ?_
        refine sw_goto 174 G 133 dX6_strokes_174 rfl ?_
        cases hf
        have hb := hin133 _ rfl
        exact sw_lv _ [1, 2, 3, 4, 5, 0] (by rfl) hb
  refine sw_lv [(0, .ref m0), (1, .int (0 : Int32)), (2, .int (0 : Int32)), (3, .int r1), (4, .int (7 : Int32))] [4, 3, 2, 1, 0] rfl ?_
  refine lp_walk (P := fun (t : Int32 × Int32 × Int32 × (Nat → Int64)) => sw Θ p e rmX6_strokes s m args below meth c A Q 6 0 0 24 [(0, .ref m0), (1, .int t.1), (2, .int t.2.1), (3, .int r1), (4, .int t.2.2.1)] [] (wX6 Θ m0 m1 m2 m3 m4 m5 m6 m7 m8 m9 t.2.2.2 m_saved m_aside m_states m_quiet m_thrown m_tried m_best m_touching m_text m_length m_at m_verbs m_told m_commands)) hl (fun t24 y24 hf hin24 hex24 => ?_)
  obtain ⟨v38, v39, v40, v41⟩ := t24
  show sw Θ p e rmX6_strokes s m args below meth c A Q 6 0 0 24 [(0, .ref m0), (1, .int v38), (2, .int v39), (3, .int r1), (4, .int v40)] [] (wX6 Θ m0 m1 m2 m3 m4 m5 m6 m7 m8 m9 v41 m_saved m_aside m_states m_quiet m_thrown m_tried m_best m_touching m_text m_length m_at m_verbs m_told m_commands)
  have hf := uc4_some (K := _) hf
  refine sw_iload 24 G dX6_strokes_24 4 rfl ?_
  refine sw_if_lt 26 121 G dX6_strokes_26 rfl hf (fun hf => ?_) (fun hf => ?_)
  · cases hf
    cases hex24 _ rfl
    exact sw_lv _ [0, 1, 2, 3] rfl hx24_121
  · refine sw_bipush 29 G (60 : Int32) dX6_strokes_29 rfl ?_
    refine sw_iconst 31 G (5 : Int32) dX6_strokes_31 rfl ?_
    refine sw_iload 32 G dX6_strokes_32 4 rfl ?_
    refine sw_imul 34 G dX6_strokes_34 ?_
    refine sw_iadd 35 G dX6_strokes_35 ?_
    refine sw_nmi hf (fun v42 hf => ?_)
    refine sw_istore 36 G [(5, .int v42), (0, .ref m0), (1, .int v38), (2, .int v39), (3, .int r1), (4, .int v40)] dX6_strokes_36 (by decide) rfl ?_
    refine sw_aload_n 38 G dX6_strokes_38 1 rfl ?_
    refine sw_get 39 G hnX6 0 0 dX6_strokes_39 vc6 (by decide) (List.mem_cons_of_mem _ lk_54e63fd8) rfl rfl ?_
    refine sw_iload 42 G dX6_strokes_42 0 rfl ?_
    refine sw_iconst 44 G (3 : Int32) dX6_strokes_44 rfl ?_
    refine sw_iadd 45 G dX6_strokes_45 ?_
    refine sw_nmi hf (fun v43 hf => ?_)
    refine sw_dup2_11 46 G dX6_strokes_46 rfl rfl ?_
    refine sw_lald 47 G 1 dX6_strokes_47 rfl hf (fun hf => ?_)
    refine sw_aload_n 48 G dX6_strokes_48 1 rfl ?_
    refine sw_iload 49 G dX6_strokes_49 5 rfl ?_
    refine sw_iconst 51 G (0 : Int32) dX6_strokes_51 rfl ?_
    obtain ⟨r44, hg, hf⟩ := bd1_some hf
    refine sw_callV 52 G (wX6 Θ m0 m1 m2 m3 m4 m5 m6 m7 m8 m9 v41 m_saved m_aside m_states m_quiet m_thrown m_tried m_best m_touching m_text m_length m_at m_verbs m_told m_commands) [0, 1, 2, 3, 4, 5, 6, 7, 8, 9] [] [0, 1, 2, 3, 4, 5, 6, 7, 8, 9] 2 dX6_strokes_52 (kX6_ofPitch Θ m0 m1 m2 m3 m4 m5 m6 m7 m8 m9 v41 m_saved m_aside m_states m_quiet m_thrown m_tried m_best m_touching m_text m_length m_at m_verbs m_told m_commands v40 (0 : Int32) r44 hg) (gwV lk_a40543c5 lk_e7c4f238 lk_d53ce5a7 lk_6d91b6d2 lk_df8fdb45) rfl hvX6_ofPitch ⟨rfl, rfl⟩ ⟨Nat.le_of_ble_eq_true rfl, Nat.le_of_ble_eq_true rfl⟩ ⟨Nat.zero_le _, Nat.zero_le _⟩ rfl rfl (Nat.le_of_ble_eq_true rfl) 0 rfl vc6 rfl rfl rfl rfl (by decide) ?_
    refine sw_aload_n 55 G dX6_strokes_55 1 rfl ?_
    refine sw_get 56 G hnX6 0 0 dX6_strokes_56 vc6 (by decide) (List.mem_cons_of_mem _ lk_54e63fd8) rfl rfl ?_
    refine sw_iconst 59 G (5 : Int32) dX6_strokes_59 rfl ?_
    refine sw_lald 60 G 1 dX6_strokes_60 rfl hf (fun hf => ?_)
    refine sw_lmul 61 G dX6_strokes_61 ?_
    refine sw_ladd 62 G dX6_strokes_62 ?_
    refine sw_nml hf (fun v45 hf => ?_)
    refine sw_last 63 G 1 (wX6 Θ m0 m1 m2 m3 m4 m5 m6 m7 m8 m9 (vp_updL v41 v43.toNatClampNeg v45) m_saved m_aside m_states m_quiet m_thrown m_tried m_best m_touching m_text m_length m_at m_verbs m_told m_commands) dX6_strokes_63 rfl rfl hf (fun hf => ?_)
    refine sw_aload_n 64 G dX6_strokes_64 1 rfl ?_
    refine sw_iload 65 G dX6_strokes_65 5 rfl ?_
    refine sw_iconst 67 G (0 : Int32) dX6_strokes_67 rfl ?_
    obtain ⟨r46, hg, hf⟩ := bd1_some hf
    refine sw_callV 68 G (wX6 Θ m0 m1 m2 m3 m4 m5 m6 m7 m8 m9 (vp_updL v41 v43.toNatClampNeg v45) m_saved m_aside m_states m_quiet m_thrown m_tried m_best m_touching m_text m_length m_at m_verbs m_told m_commands) [0, 1, 2, 3, 4, 5, 6, 7, 8, 9] [] [0, 1, 2, 3, 4, 5, 6, 7, 8, 9] 2 dX6_strokes_68 (kX6_ofPitch Θ m0 m1 m2 m3 m4 m5 m6 m7 m8 m9 (vp_updL v41 v43.toNatClampNeg v45) m_saved m_aside m_states m_quiet m_thrown m_tried m_best m_touching m_text m_length m_at m_verbs m_told m_commands v40 (0 : Int32) r46 hg) (gwV lk_a40543c5 lk_e7c4f238 lk_d53ce5a7 lk_6d91b6d2 lk_df8fdb45) rfl hvX6_ofPitch ⟨rfl, rfl⟩ ⟨Nat.le_of_ble_eq_true rfl, Nat.le_of_ble_eq_true rfl⟩ ⟨Nat.zero_le _, Nat.zero_le _⟩ rfl rfl (Nat.le_of_ble_eq_true rfl) 0 rfl vc6 rfl rfl rfl rfl (by decide) ?_
    refine sw_lconst 71 G (1 : Int64) dX6_strokes_71 rfl ?_
    refine sw_lcmp 72 G dX6_strokes_72 ?_
    obtain ⟨v47, v48, v49, hj, hf⟩ := bd3_some hf
    have hx115 : sw Θ p e rmX6_strokes s m args below meth c A Q 6 0 0 115 [(0, .ref m0), (1, .int v47), (2, .int v48), (3, .int r1), (4, .int v40)] [] (wX6 Θ m0 m1 m2 m3 m4 m5 m6 m7 m8 m9 v49 m_saved m_aside m_states m_quiet m_thrown m_tried m_best m_touching m_text m_length m_at m_verbs m_told m_commands) := by
      refine sw_iinc 115 G (v40 + (-1 : Int32)) [(4, .int (v40 + (-1 : Int32))), (0, .ref m0), (1, .int v47), (2, .int v48), (3, .int r1)] dX6_strokes_115 4 rfl rfl (by decide) rfl ?_
      refine sw_goto 118 G 24 dX6_strokes_118 rfl ?_
      cases hf
      have hb := hin24 _ rfl
      exact sw_lv _ [1, 2, 3, 4, 0] (by rfl) hb
    clear hf
    have hf := hj
    clear hj
    refine sw_if_ne 73 115 G dX6_strokes_73 rfl hf (fun hf => ?_) (fun hf => ?_)
    · cases hf
      exact sw_lv _ [1, 2, 3, 4, 5] rfl hx115
    · refine sw_iload 76 G dX6_strokes_76 5 rfl ?_
      refine sw_iconst 78 G (1 : Int32) dX6_strokes_78 rfl ?_
      refine sw_iadd 79 G dX6_strokes_79 ?_
      refine sw_iload_n 80 G dX6_strokes_80 4 rfl ?_
      refine sw_bipush 81 G (8 : Int32) dX6_strokes_81 rfl ?_
      obtain ⟨v50, hj, hf⟩ := bd1_some hf
      have hx92 : sw Θ p e rmX6_strokes s m args below meth c A Q 6 0 0 92 [(0, .ref m0), (1, .int v38), (2, .int v39), (3, .int r1), (4, .int v40), (5, .int v42)] [.int v50, .int (v40 + (1 : Int32))] (wX6 Θ m0 m1 m2 m3 m4 m5 m6 m7 m8 m9 (vp_updL v41 v43.toNatClampNeg v45) m_saved m_aside m_states m_quiet m_thrown m_tried m_best m_touching m_text m_length m_at m_verbs m_told m_commands) := by
        refine sw_icmp_lt 92 115 G dX6_strokes_92 rfl hf (fun hf => ?_) (fun hf => ?_)
        · cases hf
          exact sw_lv _ [0, 1, 2, 3, 4] rfl hx115
        · refine sw_iinc 95 G (v38 + (1 : Int32)) [(1, .int (v38 + (1 : Int32))), (0, .ref m0), (2, .int v39), (3, .int r1), (4, .int v40), (5, .int v42)] dX6_strokes_95 1 rfl rfl (by decide) rfl ?_
          refine sw_iload_n 98 G dX6_strokes_98 2 rfl ?_
          refine sw_aload_n 99 G dX6_strokes_99 1 rfl ?_
          refine sw_iload 100 G dX6_strokes_100 5 rfl ?_
          obtain ⟨r51, u52, hg, hf⟩ := bd2_some hf
          refine sw_callV 102 G (wX6 Θ m0 m1 m2 m3 m4 m5 m6 m7 m8 m9 u52 m_saved m_aside m_states m_quiet m_thrown m_tried m_best m_touching m_text m_length m_at m_verbs m_told m_commands) [0, 1, 2, 3, 4, 5, 6, 7, 8, 9] [] [0, 1, 2, 3, 4, 5, 6, 7, 8, 9] 1 dX6_strokes_102 (kX6_leaves Θ F m0 m1 m2 m3 m4 m5 m6 m7 m8 m9 (vp_updL v41 v43.toNatClampNeg v45) m_saved m_aside m_states m_quiet m_thrown m_tried m_best m_touching m_text m_length m_at m_verbs m_told m_commands v42 r51 u52 hg) (gwV lk_4015623c lk_eb3e5a3e lk_97b9dc01 lk_6d91b6d2 lk_2fe2708f) rfl hvX6_leaves ⟨rfl, rfl⟩ ⟨Nat.le_of_ble_eq_true rfl, Nat.le_of_ble_eq_true rfl⟩ ⟨Nat.zero_le _, Nat.zero_le _⟩ rfl rfl (Nat.le_of_ble_eq_true rfl) 0 rfl vc6 rfl rfl rfl rfl (by decide) ?_
          obtain ⟨v53, hj, hf⟩ := bd1_some hf
          have hx113 : sw Θ p e rmX6_strokes s m args below meth c A Q 6 0 0 113 [(0, .ref m0), (1, .int (v38 + (1 : Int32))), (3, .int r1), (4, .int v40)] [.int v53, .int v39] (wX6 Θ m0 m1 m2 m3 m4 m5 m6 m7 m8 m9 u52 m_saved m_aside m_states m_quiet m_thrown m_tried m_best m_touching m_text m_length m_at m_verbs m_told m_commands) := by
            refine sw_iadd 113 G dX6_strokes_113 ?_
            refine sw_nmi hf (fun v54 hf => ?_)
            refine sw_istore_n 114 G [(2, .int v54), (0, .ref m0), (1, .int (v38 + (1 : Int32))), (3, .int r1), (4, .int v40)] dX6_strokes_114 (by decide) rfl ?_
            cases hf
            exact sw_lv _ [1, 2, 0, 3, 4] rfl hx115
          clear hf
          have hf := hj
          clear hj
          refine sw_if_eq 105 112 G dX6_strokes_105 rfl hf (fun hf => ?_) (fun hf => ?_)
          · refine sw_iconst 112 G (0 : Int32) dX6_strokes_112 rfl ?_
            cases hf
            exact sw_lv _ [1, 0, 3, 4] rfl hx113
          · refine sw_iconst 108 G (1 : Int32) dX6_strokes_108 rfl ?_
            refine sw_goto 109 G 113 dX6_strokes_109 rfl ?_
            cases hf
            exact sw_lv _ [1, 0, 3, 4] rfl hx113
      clear hf
      have hf := hj
      clear hj
      refine sw_icmp_le 83 91 G dX6_strokes_83 rfl hf (fun hf => ?_) (fun hf => ?_)
      · refine sw_iload_n 91 G dX6_strokes_91 4 rfl ?_
        cases hf
        exact sw_lv _ [1, 2, 3, 4, 5, 0] rfl hx92
      · refine sw_bipush 86 G (8 : Int32) dX6_strokes_86 rfl ?_
        refine sw_goto 88 G 92 dX6_strokes_88 rfl ?_
        cases hf
        exact sw_lv _ [1, 2, 3, 4, 5, 0] rfl hx92
abbrev rmX6_stroke : Room := { frames := 7, cells := 0, slots := 0, locals := 167 }
theorem hvX6_stroke : yX6_stroke.cls = RX6 ∧ yX6_stroke.cls ≠ "java/lang/invoke/MethodHandle" ∧ yX6_stroke.cls ≠ "java/lang/invoke/VarHandle" ∧ (parseMethodDescriptor yX6_stroke.desc).map (fun d => d.parameters.length) = some 0 := by decide +kernel
set_option maxRecDepth 100000 in
set_option maxHeartbeats 4000000 in
theorem kX6_stroke (Θ : Tht) (F : Nat) (m0 m1 m2 m3 m4 m5 m6 m7 m8 m9 : Nat) (m_now : Nat → Int64) (m_saved : Nat → Int64) (m_aside : Nat → Int64) (m_states : Int32) (m_quiet : Int32) (m_thrown : Int32) (m_tried : Nat → Int32) (m_best : Nat → Int32) (m_touching : Nat → Int32) (m_text : Nat → Int32) (m_length : Int32) (m_at : Int32) (m_verbs : Nat → Int32) (m_told : Nat → Int32) (m_commands : Int32) (ro : Int32) (o_m_now : Nat → Int64) (o_m_saved : Nat → Int64) (o_m_states : Int32) (o_m_thrown : Int32) (hf : fX6_stroke F m_now m_saved m_states m_quiet = some (ro, o_m_now, o_m_saved, o_m_states, o_m_thrown)) : Fn Θ yX6_stroke (Cond.code yX6_stroke cX6_stroke 1 (some .int) :: GW) rmX6_stroke [.ref m0] (wX6 Θ m0 m1 m2 m3 m4 m5 m6 m7 m8 m9 m_now m_saved m_aside m_states m_quiet m_thrown m_tried m_best m_touching m_text m_length m_at m_verbs m_told m_commands) (some (.int ro)) (wX6 Θ m0 m1 m2 m3 m4 m5 m6 m7 m8 m9 o_m_now o_m_saved m_aside o_m_states m_quiet o_m_thrown m_tried m_best m_touching m_text m_length m_at m_verbs m_told m_commands) := by
  delta fX6_stroke at hf
  refine Fn.of (by decide +kernel) rfl (Nat.le_of_ble_eq_true rfl) (fun p e s m args below meth c A Q G K => ?_)
  show sw Θ p e rmX6_stroke s m args below meth c A Q 1 0 0 0 [(0, .ref m0)] [] (wX6 Θ m0 m1 m2 m3 m4 m5 m6 m7 m8 m9 m_now m_saved m_aside m_states m_quiet m_thrown m_tried m_best m_touching m_text m_length m_at m_verbs m_told m_commands)
  refine sw_aload_n 0 G dX6_stroke_0 0 rfl ?_
  refine sw_iconst 1 G (0 : Int32) dX6_stroke_1 rfl ?_
  refine sw_put 2 G hnX6 tyX6_ok nmX6 0 5 (wX6 Θ m0 m1 m2 m3 m4 m5 m6 m7 m8 m9 m_now m_saved m_aside m_states m_quiet (0 : Int32) m_tried m_best m_touching m_text m_length m_at m_verbs m_told m_commands) dX6_stroke_2 vc6 (by decide) (List.mem_cons_of_mem _ lk_fb3e5753) rfl rfl (Nat.le_of_ble_eq_true rfl) (tyX6_ok 5 (by decide)) rfl rfl rfl ?_
  refine sw_aload_n 5 G dX6_stroke_5 0 rfl ?_
  obtain ⟨u1, u2, hg, hf⟩ := bd2_some hf
  refine sw_callV 6 G (wX6 Θ m0 m1 m2 m3 m4 m5 m6 m7 m8 m9 m_now u1 m_aside u2 m_quiet (0 : Int32) m_tried m_best m_touching m_text m_length m_at m_verbs m_told m_commands) [0, 1, 2, 3, 4, 5, 6, 7, 8, 9] [] [0, 1, 2, 3, 4, 5, 6, 7, 8, 9] 0 dX6_stroke_6 (kX6_save Θ F m0 m1 m2 m3 m4 m5 m6 m7 m8 m9 m_now m_saved m_aside m_states m_quiet (0 : Int32) m_tried m_best m_touching m_text m_length m_at m_verbs m_told m_commands u1 u2 hg) (gwV lk_fb398b8d lk_00110175 lk_41f35dad lk_6d91b6d2 lk_436b5259) rfl hvX6_save ⟨rfl, rfl⟩ ⟨Nat.le_of_ble_eq_true rfl, Nat.le_of_ble_eq_true rfl⟩ ⟨Nat.zero_le _, Nat.zero_le _⟩ rfl rfl (Nat.le_of_ble_eq_true rfl) 0 rfl vc6 rfl rfl rfl rfl (by decide) ?_
  refine sw_aload_n 9 G dX6_stroke_9 0 rfl ?_
  obtain ⟨r3, u4, hg, hf⟩ := bd2_some hf
  refine sw_callV 10 G (wX6 Θ m0 m1 m2 m3 m4 m5 m6 m7 m8 m9 u4 u1 m_aside u2 m_quiet (0 : Int32) m_tried m_best m_touching m_text m_length m_at m_verbs m_told m_commands) [0, 1, 2, 3, 4, 5, 6, 7, 8, 9] [] [0, 1, 2, 3, 4, 5, 6, 7, 8, 9] 0 dX6_stroke_10 (kX6_strokes Θ F m0 m1 m2 m3 m4 m5 m6 m7 m8 m9 m_now u1 m_aside u2 m_quiet (0 : Int32) m_tried m_best m_touching m_text m_length m_at m_verbs m_told m_commands r3 u4 hg) (gwV lk_79291226 lk_bdb844a0 lk_c7616fdd lk_6d91b6d2 lk_fcbb8659) rfl hvX6_strokes ⟨rfl, rfl⟩ ⟨Nat.le_of_ble_eq_true rfl, Nat.le_of_ble_eq_true rfl⟩ ⟨Nat.zero_le _, Nat.zero_le _⟩ rfl rfl (Nat.le_of_ble_eq_true rfl) 0 rfl vc6 rfl rfl rfl rfl (by decide) ?_
  cases hf
  exact sw_iret 13 G dX6_stroke_13 K
abbrev rmX6_strokesBy : Room := { frames := 7, cells := 0, slots := 0, locals := 167 }
theorem hvX6_strokesBy : yX6_strokesBy.cls = RX6 ∧ yX6_strokesBy.cls ≠ "java/lang/invoke/MethodHandle" ∧ yX6_strokesBy.cls ≠ "java/lang/invoke/VarHandle" ∧ (parseMethodDescriptor yX6_strokesBy.desc).map (fun d => d.parameters.length) = some 1 := by decide +kernel
set_option maxRecDepth 100000 in
set_option maxHeartbeats 4000000 in
theorem kX6_strokesBy (Θ : Tht) (F : Nat) (m0 m1 m2 m3 m4 m5 m6 m7 m8 m9 : Nat) (m_now : Nat → Int64) (m_saved : Nat → Int64) (m_aside : Nat → Int64) (m_states : Int32) (m_quiet : Int32) (m_thrown : Int32) (m_tried : Nat → Int32) (m_best : Nat → Int32) (m_touching : Nat → Int32) (m_text : Nat → Int32) (m_length : Int32) (m_at : Int32) (m_verbs : Nat → Int32) (m_told : Nat → Int32) (m_commands : Int32) (a0 : Int32) (ro : Int32) (o_m_now : Nat → Int64) (o_m_thrown : Int32) (hf : fX6_strokesBy F m_now a0 = some (ro, o_m_now, o_m_thrown)) : Fn Θ yX6_strokesBy (Cond.code yX6_strokesBy cX6_strokesBy 3 (some .int) :: GW) rmX6_strokesBy [.ref m0, .int a0] (wX6 Θ m0 m1 m2 m3 m4 m5 m6 m7 m8 m9 m_now m_saved m_aside m_states m_quiet m_thrown m_tried m_best m_touching m_text m_length m_at m_verbs m_told m_commands) (some (.int ro)) (wX6 Θ m0 m1 m2 m3 m4 m5 m6 m7 m8 m9 o_m_now m_saved m_aside m_states m_quiet o_m_thrown m_tried m_best m_touching m_text m_length m_at m_verbs m_told m_commands) := by
  delta fX6_strokesBy at hf
  refine Fn.of (by decide +kernel) rfl (Nat.le_of_ble_eq_true rfl) (fun p e s m args below meth c A Q G K => ?_)
  show sw Θ p e rmX6_strokesBy s m args below meth c A Q 3 0 0 0 [(0, .ref m0), (1, .int a0)] [] (wX6 Θ m0 m1 m2 m3 m4 m5 m6 m7 m8 m9 m_now m_saved m_aside m_states m_quiet m_thrown m_tried m_best m_touching m_text m_length m_at m_verbs m_told m_commands)
  refine sw_aload_n 0 G dX6_strokesBy_0 0 rfl ?_
  refine sw_iconst 1 G (0 : Int32) dX6_strokesBy_1 rfl ?_
  refine sw_put 2 G hnX6 tyX6_ok nmX6 0 5 (wX6 Θ m0 m1 m2 m3 m4 m5 m6 m7 m8 m9 m_now m_saved m_aside m_states m_quiet (0 : Int32) m_tried m_best m_touching m_text m_length m_at m_verbs m_told m_commands) dX6_strokesBy_2 vc6 (by decide) (List.mem_cons_of_mem _ lk_fb3e5753) rfl rfl (Nat.le_of_ble_eq_true rfl) (tyX6_ok 5 (by decide)) rfl rfl rfl ?_
  refine sw_iload_n 5 G dX6_strokesBy_5 1 rfl ?_
  refine sw_iconst 6 G (1 : Int32) dX6_strokesBy_6 rfl ?_
  refine sw_bipush 7 G (50 : Int32) dX6_strokesBy_7 rfl ?_
  obtain ⟨r1, hg, hf⟩ := bd1_some hf
  refine sw_callS 9 G (wX6 Θ m0 m1 m2 m3 m4 m5 m6 m7 m8 m9 m_now m_saved m_aside m_states m_quiet (0 : Int32) m_tried m_best m_touching m_text m_length m_at m_verbs m_told m_commands) [] [0, 1, 2, 3, 4, 5, 6, 7, 8, 9] [0, 1, 2, 3, 4, 5, 6, 7, 8, 9] 3 dX6_strokesBy_9 (kX6_in Θ a0 (1 : Int32) (50 : Int32) r1 hg) (gwS lk_739e9842 lk_9ad51b2c lk_59eba9b0 lk_5ad5c33d) rfl hsX6_in ⟨rfl, rfl⟩ ⟨Nat.le_of_ble_eq_true rfl, Nat.le_of_ble_eq_true rfl⟩ ⟨Nat.zero_le _, Nat.zero_le _⟩ rfl rfl (Nat.le_of_ble_eq_true rfl) rfl rfl rfl (by decide) ?_
  refine sw_if_ne 12 21 G dX6_strokesBy_12 rfl hf (fun hf => ?_) (fun hf => ?_)
  · refine sw_iconst 21 G (0 : Int32) dX6_strokesBy_21 rfl ?_
    refine sw_istore_n 22 G [(2, .int (0 : Int32)), (0, .ref m0), (1, .int a0)] dX6_strokesBy_22 (by decide) rfl ?_
    obtain ⟨v2, hl, hf⟩ := bd1_some hf
    have hx23_39 : sw Θ p e rmX6_strokesBy s m args below meth c A Q 3 0 0 39 [(1, .int a0)] [] (wX6 Θ m0 m1 m2 m3 m4 m5 m6 m7 m8 m9 v2 m_saved m_aside m_states m_quiet (0 : Int32) m_tried m_best m_touching m_text m_length m_at m_verbs m_told m_commands) := by
      refine sw_iload_n 39 G dX6_strokesBy_39 0 rfl ?_
      cases hf
      exact sw_iret 40 G dX6_strokesBy_40 K
    refine sw_lv [(0, .ref m0), (1, .int a0), (2, .int (0 : Int32))] [1, 2, 0] rfl ?_
    refine lp_walk (P := fun (t : Int32 × (Nat → Int64)) => sw Θ p e rmX6_strokesBy s m args below meth c A Q 3 0 0 23 [(0, .ref m0), (1, .int a0), (2, .int t.1)] [] (wX6 Θ m0 m1 m2 m3 m4 m5 m6 m7 m8 m9 t.2 m_saved m_aside m_states m_quiet (0 : Int32) m_tried m_best m_touching m_text m_length m_at m_verbs m_told m_commands)) hl (fun t23 y23 hf hin23 hex23 => ?_)
    obtain ⟨v3, v4⟩ := t23
    show sw Θ p e rmX6_strokesBy s m args below meth c A Q 3 0 0 23 [(0, .ref m0), (1, .int a0), (2, .int v3)] [] (wX6 Θ m0 m1 m2 m3 m4 m5 m6 m7 m8 m9 v4 m_saved m_aside m_states m_quiet (0 : Int32) m_tried m_best m_touching m_text m_length m_at m_verbs m_told m_commands)
    have hf := uc2_some (K := _) hf
    refine sw_iload_n 23 G dX6_strokesBy_23 2 rfl ?_
    refine sw_iload_n 24 G dX6_strokesBy_24 1 rfl ?_
    refine sw_icmp_ge 25 39 G dX6_strokesBy_25 rfl hf (fun hf => ?_) (fun hf => ?_)
    · cases hf
      cases hex23 _ rfl
      exact sw_lv _ [1] rfl hx23_39
    · refine sw_aload_n 28 G dX6_strokesBy_28 0 rfl ?_
      obtain ⟨r5, u6, hg, hf⟩ := bd2_some hf
      refine sw_callV 29 G (wX6 Θ m0 m1 m2 m3 m4 m5 m6 m7 m8 m9 u6 m_saved m_aside m_states m_quiet (0 : Int32) m_tried m_best m_touching m_text m_length m_at m_verbs m_told m_commands) [0, 1, 2, 3, 4, 5, 6, 7, 8, 9] [] [0, 1, 2, 3, 4, 5, 6, 7, 8, 9] 0 dX6_strokesBy_29 (kX6_strokes Θ F m0 m1 m2 m3 m4 m5 m6 m7 m8 m9 v4 m_saved m_aside m_states m_quiet (0 : Int32) m_tried m_best m_touching m_text m_length m_at m_verbs m_told m_commands r5 u6 hg) (gwV lk_79291226 lk_bdb844a0 lk_c7616fdd lk_6d91b6d2 lk_fcbb8659) rfl hvX6_strokes ⟨rfl, rfl⟩ ⟨Nat.le_of_ble_eq_true rfl, Nat.le_of_ble_eq_true rfl⟩ ⟨Nat.zero_le _, Nat.zero_le _⟩ rfl rfl (Nat.le_of_ble_eq_true rfl) 0 rfl vc6 rfl rfl rfl rfl (by decide) ?_
      refine sw_pop 32 G dX6_strokesBy_32 rfl ?_
      refine sw_iinc 33 G (v3 + (1 : Int32)) [(2, .int (v3 + (1 : Int32))), (0, .ref m0), (1, .int a0)] dX6_strokesBy_33 2 rfl rfl (by decide) rfl ?_
      refine sw_goto 36 G 23 dX6_strokesBy_36 rfl ?_
      cases hf
      have hb := hin23 _ rfl
      exact sw_lv _ [1, 2, 0] (by rfl) hb
  · refine sw_aload_n 15 G dX6_strokesBy_15 0 rfl ?_
    refine sw_iconst 16 G (1 : Int32) dX6_strokesBy_16 rfl ?_
    obtain ⟨r7, u8, hg, hf⟩ := bd2_some hf
    refine sw_callV 17 G (wX6 Θ m0 m1 m2 m3 m4 m5 m6 m7 m8 m9 m_now m_saved m_aside m_states m_quiet u8 m_tried m_best m_touching m_text m_length m_at m_verbs m_told m_commands) [0, 1, 2, 3, 4, 5, 6, 7, 8, 9] [] [0, 1, 2, 3, 4, 5, 6, 7, 8, 9] 1 dX6_strokesBy_17 (kX6_fails Θ m0 m1 m2 m3 m4 m5 m6 m7 m8 m9 m_now m_saved m_aside m_states m_quiet (0 : Int32) m_tried m_best m_touching m_text m_length m_at m_verbs m_told m_commands (1 : Int32) r7 u8 hg) (gwV lk_c7279fda lk_b9e66eaa lk_2152c894 lk_6d91b6d2 lk_f2d2a162) rfl hvX6_fails ⟨rfl, rfl⟩ ⟨Nat.le_of_ble_eq_true rfl, Nat.le_of_ble_eq_true rfl⟩ ⟨Nat.zero_le _, Nat.zero_le _⟩ rfl rfl (Nat.le_of_ble_eq_true rfl) 0 rfl vc6 rfl rfl rfl rfl (by decide) ?_
    cases hf
    exact sw_iret 20 G dX6_strokesBy_20 K
abbrev rmX6_emptyPress : Room := { frames := 2, cells := 0, slots := 0, locals := 44 }
theorem hvX6_emptyPress : yX6_emptyPress.cls = RX6 ∧ yX6_emptyPress.cls ≠ "java/lang/invoke/MethodHandle" ∧ yX6_emptyPress.cls ≠ "java/lang/invoke/VarHandle" ∧ (parseMethodDescriptor yX6_emptyPress.desc).map (fun d => d.parameters.length) = some 0 := by decide +kernel
set_option maxRecDepth 100000 in
set_option maxHeartbeats 4000000 in
theorem kX6_emptyPress (Θ : Tht) (F : Nat) (m0 m1 m2 m3 m4 m5 m6 m7 m8 m9 : Nat) (m_now : Nat → Int64) (m_saved : Nat → Int64) (m_aside : Nat → Int64) (m_states : Int32) (m_quiet : Int32) (m_thrown : Int32) (m_tried : Nat → Int32) (m_best : Nat → Int32) (m_touching : Nat → Int32) (m_text : Nat → Int32) (m_length : Int32) (m_at : Int32) (m_verbs : Nat → Int32) (m_told : Nat → Int32) (m_commands : Int32) (ro : Int32) (o_m_now : Nat → Int64) (o_m_saved : Nat → Int64) (o_m_states : Int32) (o_m_thrown : Int32) (hf : fX6_emptyPress F m_now m_saved m_states m_quiet = some (ro, o_m_now, o_m_saved, o_m_states, o_m_thrown)) : Fn Θ yX6_emptyPress (Cond.code yX6_emptyPress cX6_emptyPress 3 (some .int) :: GW) rmX6_emptyPress [.ref m0] (wX6 Θ m0 m1 m2 m3 m4 m5 m6 m7 m8 m9 m_now m_saved m_aside m_states m_quiet m_thrown m_tried m_best m_touching m_text m_length m_at m_verbs m_told m_commands) (some (.int ro)) (wX6 Θ m0 m1 m2 m3 m4 m5 m6 m7 m8 m9 o_m_now o_m_saved m_aside o_m_states m_quiet o_m_thrown m_tried m_best m_touching m_text m_length m_at m_verbs m_told m_commands) := by
  delta fX6_emptyPress at hf
  refine Fn.of (by decide +kernel) rfl (Nat.le_of_ble_eq_true rfl) (fun p e s m args below meth c A Q G K => ?_)
  show sw Θ p e rmX6_emptyPress s m args below meth c A Q 3 0 0 0 [(0, .ref m0)] [] (wX6 Θ m0 m1 m2 m3 m4 m5 m6 m7 m8 m9 m_now m_saved m_aside m_states m_quiet m_thrown m_tried m_best m_touching m_text m_length m_at m_verbs m_told m_commands)
  refine sw_aload_n 0 G dX6_emptyPress_0 0 rfl ?_
  refine sw_iconst 1 G (0 : Int32) dX6_emptyPress_1 rfl ?_
  refine sw_put 2 G hnX6 tyX6_ok nmX6 0 5 (wX6 Θ m0 m1 m2 m3 m4 m5 m6 m7 m8 m9 m_now m_saved m_aside m_states m_quiet (0 : Int32) m_tried m_best m_touching m_text m_length m_at m_verbs m_told m_commands) dX6_emptyPress_2 vc6 (by decide) (List.mem_cons_of_mem _ lk_fb3e5753) rfl rfl (Nat.le_of_ble_eq_true rfl) (tyX6_ok 5 (by decide)) rfl rfl rfl ?_
  refine sw_aload_n 5 G dX6_emptyPress_5 0 rfl ?_
  obtain ⟨u1, u2, hg, hf⟩ := bd2_some hf
  refine sw_callV 6 G (wX6 Θ m0 m1 m2 m3 m4 m5 m6 m7 m8 m9 m_now u1 m_aside u2 m_quiet (0 : Int32) m_tried m_best m_touching m_text m_length m_at m_verbs m_told m_commands) [0, 1, 2, 3, 4, 5, 6, 7, 8, 9] [] [0, 1, 2, 3, 4, 5, 6, 7, 8, 9] 0 dX6_emptyPress_6 (kX6_save Θ F m0 m1 m2 m3 m4 m5 m6 m7 m8 m9 m_now m_saved m_aside m_states m_quiet (0 : Int32) m_tried m_best m_touching m_text m_length m_at m_verbs m_told m_commands u1 u2 hg) (gwV lk_fb398b8d lk_00110175 lk_41f35dad lk_6d91b6d2 lk_436b5259) rfl hvX6_save ⟨rfl, rfl⟩ ⟨Nat.le_of_ble_eq_true rfl, Nat.le_of_ble_eq_true rfl⟩ ⟨Nat.zero_le _, Nat.zero_le _⟩ rfl rfl (Nat.le_of_ble_eq_true rfl) 0 rfl vc6 rfl rfl rfl rfl (by decide) ?_
  refine sw_aload_n 9 G dX6_emptyPress_9 0 rfl ?_
  obtain ⟨r3, hg, hf⟩ := bd1_some hf
  refine sw_callV 10 G (wX6 Θ m0 m1 m2 m3 m4 m5 m6 m7 m8 m9 m_now u1 m_aside u2 m_quiet (0 : Int32) m_tried m_best m_touching m_text m_length m_at m_verbs m_told m_commands) [0, 1, 2, 3, 4, 5, 6, 7, 8, 9] [] [0, 1, 2, 3, 4, 5, 6, 7, 8, 9] 0 dX6_emptyPress_10 (kX6_pitches Θ F m0 m1 m2 m3 m4 m5 m6 m7 m8 m9 m_now u1 m_aside u2 m_quiet (0 : Int32) m_tried m_best m_touching m_text m_length m_at m_verbs m_told m_commands r3 hg) (gwV lk_e8b45f90 lk_a2fb680c lk_c732479b lk_6d91b6d2 lk_d59b76ad) rfl hvX6_pitches ⟨rfl, rfl⟩ ⟨Nat.le_of_ble_eq_true rfl, Nat.le_of_ble_eq_true rfl⟩ ⟨Nat.zero_le _, Nat.zero_le _⟩ rfl rfl (Nat.le_of_ble_eq_true rfl) 0 rfl vc6 rfl rfl rfl rfl (by decide) ?_
  refine sw_istore_n 13 G [(1, .int r3), (0, .ref m0)] dX6_emptyPress_13 (by decide) rfl ?_
  refine sw_aload_n 14 G dX6_emptyPress_14 1 rfl ?_
  refine sw_get 15 G hnX6 0 0 dX6_emptyPress_15 vc6 (by decide) (List.mem_cons_of_mem _ lk_54e63fd8) rfl rfl ?_
  refine sw_bipush 18 G (11 : Int32) dX6_emptyPress_18 rfl ?_
  refine sw_dup2_11 20 G dX6_emptyPress_20 rfl rfl ?_
  refine sw_lald 21 G 1 dX6_emptyPress_21 rfl hf (fun hf => ?_)
  refine sw_iload_n 22 G dX6_emptyPress_22 0 rfl ?_
  refine sw_i2l 23 G dX6_emptyPress_23 ?_
  refine sw_ladd 24 G dX6_emptyPress_24 ?_
  refine sw_nml hf (fun v4 hf => ?_)
  refine sw_last 25 G 1 (wX6 Θ m0 m1 m2 m3 m4 m5 m6 m7 m8 m9 (vp_updL m_now (11 : Int32).toNatClampNeg v4) u1 m_aside u2 m_quiet (0 : Int32) m_tried m_best m_touching m_text m_length m_at m_verbs m_told m_commands) dX6_emptyPress_25 rfl rfl hf (fun hf => ?_)
  refine sw_iconst 26 G (0 : Int32) dX6_emptyPress_26 rfl ?_
  refine sw_istore_n 27 G [(2, .int (0 : Int32)), (1, .int r3), (0, .ref m0)] dX6_emptyPress_27 (by decide) rfl ?_
  obtain ⟨v5, hl, hf⟩ := bd1_some hf
  have hx28_50 : sw Θ p e rmX6_emptyPress s m args below meth c A Q 3 0 0 50 [(1, .int r3)] [] (wX6 Θ m0 m1 m2 m3 m4 m5 m6 m7 m8 m9 v5 u1 m_aside u2 m_quiet (0 : Int32) m_tried m_best m_touching m_text m_length m_at m_verbs m_told m_commands) := by
    refine sw_iload_n 50 G dX6_emptyPress_50 0 rfl ?_
    cases hf
    exact sw_iret 51 G dX6_emptyPress_51 K
  refine sw_lv [(0, .ref m0), (1, .int r3), (2, .int (0 : Int32))] [2, 1, 0] rfl ?_
  refine lp_walk (P := fun (t : Int32 × (Nat → Int64)) => sw Θ p e rmX6_emptyPress s m args below meth c A Q 3 0 0 28 [(0, .ref m0), (1, .int r3), (2, .int t.1)] [] (wX6 Θ m0 m1 m2 m3 m4 m5 m6 m7 m8 m9 t.2 u1 m_aside u2 m_quiet (0 : Int32) m_tried m_best m_touching m_text m_length m_at m_verbs m_told m_commands)) hl (fun t28 y28 hf hin28 hex28 => ?_)
  obtain ⟨v6, v7⟩ := t28
  show sw Θ p e rmX6_emptyPress s m args below meth c A Q 3 0 0 28 [(0, .ref m0), (1, .int r3), (2, .int v6)] [] (wX6 Θ m0 m1 m2 m3 m4 m5 m6 m7 m8 m9 v7 u1 m_aside u2 m_quiet (0 : Int32) m_tried m_best m_touching m_text m_length m_at m_verbs m_told m_commands)
  have hf := uc2_some (K := _) hf
  refine sw_iload_n 28 G dX6_emptyPress_28 2 rfl ?_
  refine sw_bipush 29 G (8 : Int32) dX6_emptyPress_29 rfl ?_
  refine sw_icmp_ge 31 50 G dX6_emptyPress_31 rfl hf (fun hf => ?_) (fun hf => ?_)
  · cases hf
    cases hex28 _ rfl
    exact sw_lv _ [1] rfl hx28_50
  · refine sw_aload_n 34 G dX6_emptyPress_34 0 rfl ?_
    refine sw_bipush 35 G (60 : Int32) dX6_emptyPress_35 rfl ?_
    refine sw_iconst 37 G (5 : Int32) dX6_emptyPress_37 rfl ?_
    refine sw_iload_n 38 G dX6_emptyPress_38 2 rfl ?_
    refine sw_imul 39 G dX6_emptyPress_39 ?_
    refine sw_iadd 40 G dX6_emptyPress_40 ?_
    obtain ⟨u8, hg, hf⟩ := bd1_some hf
    refine sw_callV 41 G (wX6 Θ m0 m1 m2 m3 m4 m5 m6 m7 m8 m9 u8 u1 m_aside u2 m_quiet (0 : Int32) m_tried m_best m_touching m_text m_length m_at m_verbs m_told m_commands) [0, 1, 2, 3, 4, 5, 6, 7, 8, 9] [] [0, 1, 2, 3, 4, 5, 6, 7, 8, 9] 1 dX6_emptyPress_41 (kX6_empties Θ F m0 m1 m2 m3 m4 m5 m6 m7 m8 m9 v7 u1 m_aside u2 m_quiet (0 : Int32) m_tried m_best m_touching m_text m_length m_at m_verbs m_told m_commands ((60 : Int32) + ((5 : Int32) * v6)) u8 hg) (gwV lk_0d3e3ea3 lk_026ae7eb lk_eca8abcc lk_6d91b6d2 lk_2dc7865b) rfl hvX6_empties ⟨rfl, rfl⟩ ⟨Nat.le_of_ble_eq_true rfl, Nat.le_of_ble_eq_true rfl⟩ ⟨Nat.zero_le _, Nat.zero_le _⟩ rfl rfl (Nat.le_of_ble_eq_true rfl) 0 rfl vc6 rfl rfl rfl rfl (by decide) ?_
    refine sw_iinc 44 G (v6 + (1 : Int32)) [(2, .int (v6 + (1 : Int32))), (0, .ref m0), (1, .int r3)] dX6_emptyPress_44 2 rfl rfl (by decide) rfl ?_
    refine sw_goto 47 G 28 dX6_emptyPress_47 rfl ?_
    cases hf
    have hb := hin28 _ rfl
    exact sw_lv _ [1, 2, 0] (by rfl) hb
abbrev rmX6_operationOf : Room := { frames := 4, cells := 0, slots := 0, locals := 95 }
theorem hvX6_operationOf : yX6_operationOf.cls = RX6 ∧ yX6_operationOf.cls ≠ "java/lang/invoke/MethodHandle" ∧ yX6_operationOf.cls ≠ "java/lang/invoke/VarHandle" ∧ (parseMethodDescriptor yX6_operationOf.desc).map (fun d => d.parameters.length) = some 2 := by decide +kernel
set_option maxRecDepth 100000 in
set_option maxHeartbeats 4000000 in
theorem kX6_operationOf (Θ : Tht) (F : Nat) (m0 m1 m2 m3 m4 m5 m6 m7 m8 m9 : Nat) (m_now : Nat → Int64) (m_saved : Nat → Int64) (m_aside : Nat → Int64) (m_states : Int32) (m_quiet : Int32) (m_thrown : Int32) (m_tried : Nat → Int32) (m_best : Nat → Int32) (m_touching : Nat → Int32) (m_text : Nat → Int32) (m_length : Int32) (m_at : Int32) (m_verbs : Nat → Int32) (m_told : Nat → Int32) (m_commands : Int32) (a0 : Int32) (a1 : Int32) (ro : Int32) (hf : fX6_operationOf F m_now a0 a1 = some ro) : Fn Θ yX6_operationOf (Cond.code yX6_operationOf cX6_operationOf 3 (some .int) :: GW) rmX6_operationOf [.ref m0, .int a0, .int a1] (wX6 Θ m0 m1 m2 m3 m4 m5 m6 m7 m8 m9 m_now m_saved m_aside m_states m_quiet m_thrown m_tried m_best m_touching m_text m_length m_at m_verbs m_told m_commands) (some (.int ro)) (wX6 Θ m0 m1 m2 m3 m4 m5 m6 m7 m8 m9 m_now m_saved m_aside m_states m_quiet m_thrown m_tried m_best m_touching m_text m_length m_at m_verbs m_told m_commands) := by
  delta fX6_operationOf at hf
  refine Fn.of (by decide +kernel) rfl (Nat.le_of_ble_eq_true rfl) (fun p e s m args below meth c A Q G K => ?_)
  show sw Θ p e rmX6_operationOf s m args below meth c A Q 3 0 0 0 [(0, .ref m0), (1, .int a0), (2, .int a1)] [] (wX6 Θ m0 m1 m2 m3 m4 m5 m6 m7 m8 m9 m_now m_saved m_aside m_states m_quiet m_thrown m_tried m_best m_touching m_text m_length m_at m_verbs m_told m_commands)
  refine sw_iload_n 0 G dX6_operationOf_0 2 rfl ?_
  refine sw_iconst 1 G (5 : Int32) dX6_operationOf_1 rfl ?_
  refine sw_icmp_ge 2 12 G dX6_operationOf_2 rfl hf (fun hf => ?_) (fun hf => ?_)
  · refine sw_iload_n 12 G dX6_operationOf_12 2 rfl ?_
    refine sw_iconst 13 G (5 : Int32) dX6_operationOf_13 rfl ?_
    refine sw_icmp_ne 14 25 G dX6_operationOf_14 rfl hf (fun hf => ?_) (fun hf => ?_)
    · refine sw_iload_n 25 G dX6_operationOf_25 2 rfl ?_
      refine sw_bipush 26 G (6 : Int32) dX6_operationOf_26 rfl ?_
      refine sw_icmp_ne 28 40 G dX6_operationOf_28 rfl hf (fun hf => ?_) (fun hf => ?_)
      · refine sw_aload_n 40 G dX6_operationOf_40 0 rfl ?_
        refine sw_iload_n 41 G dX6_operationOf_41 1 rfl ?_
        obtain ⟨r1, hg, hf⟩ := bd1_some hf
        refine sw_callV 42 G (wX6 Θ m0 m1 m2 m3 m4 m5 m6 m7 m8 m9 m_now m_saved m_aside m_states m_quiet m_thrown m_tried m_best m_touching m_text m_length m_at m_verbs m_told m_commands) [0, 1, 2, 3, 4, 5, 6, 7, 8, 9] [] [0, 1, 2, 3, 4, 5, 6, 7, 8, 9] 1 dX6_operationOf_42 (kX6_touches Θ F m0 m1 m2 m3 m4 m5 m6 m7 m8 m9 m_now m_saved m_aside m_states m_quiet m_thrown m_tried m_best m_touching m_text m_length m_at m_verbs m_told m_commands a0 r1 hg) (gwV lk_b04fa29e lk_3e6a8042 lk_1bb8e9b3 lk_6d91b6d2 lk_10255ca4) rfl hvX6_touches ⟨rfl, rfl⟩ ⟨Nat.le_of_ble_eq_true rfl, Nat.le_of_ble_eq_true rfl⟩ ⟨Nat.zero_le _, Nat.zero_le _⟩ rfl rfl (Nat.le_of_ble_eq_true rfl) 0 rfl vc6 rfl rfl rfl rfl (by decide) ?_
        cases hf
        exact sw_iret 45 G dX6_operationOf_45 K
      · refine sw_aload_n 31 G dX6_operationOf_31 0 rfl ?_
        refine sw_iload_n 32 G dX6_operationOf_32 1 rfl ?_
        refine sw_iconst 33 G (5 : Int32) dX6_operationOf_33 rfl ?_
        obtain ⟨r2, hg, hf⟩ := bd1_some hf
        refine sw_callV 34 G (wX6 Θ m0 m1 m2 m3 m4 m5 m6 m7 m8 m9 m_now m_saved m_aside m_states m_quiet m_thrown m_tried m_best m_touching m_text m_length m_at m_verbs m_told m_commands) [0, 1, 2, 3, 4, 5, 6, 7, 8, 9] [] [0, 1, 2, 3, 4, 5, 6, 7, 8, 9] 2 dX6_operationOf_34 (kX6_ofOp Θ m0 m1 m2 m3 m4 m5 m6 m7 m8 m9 m_now m_saved m_aside m_states m_quiet m_thrown m_tried m_best m_touching m_text m_length m_at m_verbs m_told m_commands a0 (5 : Int32) r2 hg) (gwV lk_2264dc2b lk_fffc09d0 lk_e7d0f718 lk_6d91b6d2 lk_229db627) rfl hvX6_ofOp ⟨rfl, rfl⟩ ⟨Nat.le_of_ble_eq_true rfl, Nat.le_of_ble_eq_true rfl⟩ ⟨Nat.zero_le _, Nat.zero_le _⟩ rfl rfl (Nat.le_of_ble_eq_true rfl) 0 rfl vc6 rfl rfl rfl rfl (by decide) ?_
        refine sw_goto 37 G 45 dX6_operationOf_37 rfl ?_
        cases hf
        exact sw_iret 45 G dX6_operationOf_45 K
    · refine sw_aload_n 17 G dX6_operationOf_17 0 rfl ?_
      refine sw_iload_n 18 G dX6_operationOf_18 1 rfl ?_
      obtain ⟨r3, hg, hf⟩ := bd1_some hf
      refine sw_callV 19 G (wX6 Θ m0 m1 m2 m3 m4 m5 m6 m7 m8 m9 m_now m_saved m_aside m_states m_quiet m_thrown m_tried m_best m_touching m_text m_length m_at m_verbs m_told m_commands) [0, 1, 2, 3, 4, 5, 6, 7, 8, 9] [] [0, 1, 2, 3, 4, 5, 6, 7, 8, 9] 1 dX6_operationOf_19 (kX6_force Θ m0 m1 m2 m3 m4 m5 m6 m7 m8 m9 m_now m_saved m_aside m_states m_quiet m_thrown m_tried m_best m_touching m_text m_length m_at m_verbs m_told m_commands a0 r3 hg) (gwV lk_0bff907f lk_9062df22 lk_a894a032 lk_6d91b6d2 lk_21572795) rfl hvX6_force ⟨rfl, rfl⟩ ⟨Nat.le_of_ble_eq_true rfl, Nat.le_of_ble_eq_true rfl⟩ ⟨Nat.zero_le _, Nat.zero_le _⟩ rfl rfl (Nat.le_of_ble_eq_true rfl) 0 rfl vc6 rfl rfl rfl rfl (by decide) ?_
      refine sw_goto 22 G 45 dX6_operationOf_22 rfl ?_
      cases hf
      exact sw_iret 45 G dX6_operationOf_45 K
  · refine sw_aload_n 5 G dX6_operationOf_5 0 rfl ?_
    refine sw_iload_n 6 G dX6_operationOf_6 1 rfl ?_
    refine sw_iload_n 7 G dX6_operationOf_7 2 rfl ?_
    obtain ⟨r4, hg, hf⟩ := bd1_some hf
    refine sw_callV 8 G (wX6 Θ m0 m1 m2 m3 m4 m5 m6 m7 m8 m9 m_now m_saved m_aside m_states m_quiet m_thrown m_tried m_best m_touching m_text m_length m_at m_verbs m_told m_commands) [0, 1, 2, 3, 4, 5, 6, 7, 8, 9] [] [0, 1, 2, 3, 4, 5, 6, 7, 8, 9] 2 dX6_operationOf_8 (kX6_ofOp Θ m0 m1 m2 m3 m4 m5 m6 m7 m8 m9 m_now m_saved m_aside m_states m_quiet m_thrown m_tried m_best m_touching m_text m_length m_at m_verbs m_told m_commands a0 a1 r4 hg) (gwV lk_2264dc2b lk_fffc09d0 lk_e7d0f718 lk_6d91b6d2 lk_229db627) rfl hvX6_ofOp ⟨rfl, rfl⟩ ⟨Nat.le_of_ble_eq_true rfl, Nat.le_of_ble_eq_true rfl⟩ ⟨Nat.zero_le _, Nat.zero_le _⟩ rfl rfl (Nat.le_of_ble_eq_true rfl) 0 rfl vc6 rfl rfl rfl rfl (by decide) ?_
    cases hf
    exact sw_iret 11 G dX6_operationOf_11 K
abbrev rmX6_operation : Room := { frames := 5, cells := 0, slots := 0, locals := 117 }
theorem hvX6_operation : yX6_operation.cls = RX6 ∧ yX6_operation.cls ≠ "java/lang/invoke/MethodHandle" ∧ yX6_operation.cls ≠ "java/lang/invoke/VarHandle" ∧ (parseMethodDescriptor yX6_operation.desc).map (fun d => d.parameters.length) = some 2 := by decide +kernel
set_option maxRecDepth 100000 in
set_option maxHeartbeats 4000000 in
theorem kX6_operation (Θ : Tht) (F : Nat) (m0 m1 m2 m3 m4 m5 m6 m7 m8 m9 : Nat) (m_now : Nat → Int64) (m_saved : Nat → Int64) (m_aside : Nat → Int64) (m_states : Int32) (m_quiet : Int32) (m_thrown : Int32) (m_tried : Nat → Int32) (m_best : Nat → Int32) (m_touching : Nat → Int32) (m_text : Nat → Int32) (m_length : Int32) (m_at : Int32) (m_verbs : Nat → Int32) (m_told : Nat → Int32) (m_commands : Int32) (a0 : Int32) (a1 : Int32) (ro : Int32) (o_m_thrown : Int32) (hf : fX6_operation F m_now a0 a1 = some (ro, o_m_thrown)) : Fn Θ yX6_operation (Cond.code yX6_operation cX6_operation 3 (some .int) :: GW) rmX6_operation [.ref m0, .int a0, .int a1] (wX6 Θ m0 m1 m2 m3 m4 m5 m6 m7 m8 m9 m_now m_saved m_aside m_states m_quiet m_thrown m_tried m_best m_touching m_text m_length m_at m_verbs m_told m_commands) (some (.int ro)) (wX6 Θ m0 m1 m2 m3 m4 m5 m6 m7 m8 m9 m_now m_saved m_aside m_states m_quiet o_m_thrown m_tried m_best m_touching m_text m_length m_at m_verbs m_told m_commands) := by
  delta fX6_operation at hf
  refine Fn.of (by decide +kernel) rfl (Nat.le_of_ble_eq_true rfl) (fun p e s m args below meth c A Q G K => ?_)
  show sw Θ p e rmX6_operation s m args below meth c A Q 3 0 0 0 [(0, .ref m0), (1, .int a0), (2, .int a1)] [] (wX6 Θ m0 m1 m2 m3 m4 m5 m6 m7 m8 m9 m_now m_saved m_aside m_states m_quiet m_thrown m_tried m_best m_touching m_text m_length m_at m_verbs m_told m_commands)
  refine sw_aload_n 0 G dX6_operation_0 0 rfl ?_
  refine sw_iconst 1 G (0 : Int32) dX6_operation_1 rfl ?_
  refine sw_put 2 G hnX6 tyX6_ok nmX6 0 5 (wX6 Θ m0 m1 m2 m3 m4 m5 m6 m7 m8 m9 m_now m_saved m_aside m_states m_quiet (0 : Int32) m_tried m_best m_touching m_text m_length m_at m_verbs m_told m_commands) dX6_operation_2 vc6 (by decide) (List.mem_cons_of_mem _ lk_fb3e5753) rfl rfl (Nat.le_of_ble_eq_true rfl) (tyX6_ok 5 (by decide)) rfl rfl rfl ?_
  refine sw_aload_n 5 G dX6_operation_5 0 rfl ?_
  refine sw_iload_n 6 G dX6_operation_6 1 rfl ?_
  obtain ⟨r1, hg, hf⟩ := bd1_some hf
  refine sw_callV 7 G (wX6 Θ m0 m1 m2 m3 m4 m5 m6 m7 m8 m9 m_now m_saved m_aside m_states m_quiet (0 : Int32) m_tried m_best m_touching m_text m_length m_at m_verbs m_told m_commands) [0, 1, 2, 3, 4, 5, 6, 7, 8, 9] [] [0, 1, 2, 3, 4, 5, 6, 7, 8, 9] 1 dX6_operation_7 (kX6_isOp Θ m0 m1 m2 m3 m4 m5 m6 m7 m8 m9 m_now m_saved m_aside m_states m_quiet (0 : Int32) m_tried m_best m_touching m_text m_length m_at m_verbs m_told m_commands a0 r1 hg) (gwV lk_5d9a90b0 lk_9ff6988e lk_64f05732 lk_6d91b6d2 lk_a01bf882) rfl hvX6_isOp ⟨rfl, rfl⟩ ⟨Nat.le_of_ble_eq_true rfl, Nat.le_of_ble_eq_true rfl⟩ ⟨Nat.zero_le _, Nat.zero_le _⟩ rfl rfl (Nat.le_of_ble_eq_true rfl) 0 rfl vc6 rfl rfl rfl rfl (by decide) ?_
  refine sw_if_ne 10 19 G dX6_operation_10 rfl hf (fun hf => ?_) (fun hf => ?_)
  · refine sw_iload_n 19 G dX6_operation_19 2 rfl ?_
    refine sw_iconst 20 G (0 : Int32) dX6_operation_20 rfl ?_
    refine sw_bipush 21 G (7 : Int32) dX6_operation_21 rfl ?_
    obtain ⟨r2, hg, hf⟩ := bd1_some hf
    refine sw_callS 23 G (wX6 Θ m0 m1 m2 m3 m4 m5 m6 m7 m8 m9 m_now m_saved m_aside m_states m_quiet (0 : Int32) m_tried m_best m_touching m_text m_length m_at m_verbs m_told m_commands) [] [0, 1, 2, 3, 4, 5, 6, 7, 8, 9] [0, 1, 2, 3, 4, 5, 6, 7, 8, 9] 3 dX6_operation_23 (kX6_in Θ a1 (0 : Int32) (7 : Int32) r2 hg) (gwS lk_739e9842 lk_9ad51b2c lk_59eba9b0 lk_5ad5c33d) rfl hsX6_in ⟨rfl, rfl⟩ ⟨Nat.le_of_ble_eq_true rfl, Nat.le_of_ble_eq_true rfl⟩ ⟨Nat.zero_le _, Nat.zero_le _⟩ rfl rfl (Nat.le_of_ble_eq_true rfl) rfl rfl rfl (by decide) ?_
    refine sw_if_eq 26 38 G dX6_operation_26 rfl hf (fun hf => ?_) (fun hf => ?_)
    · refine sw_aload_n 38 G dX6_operation_38 0 rfl ?_
      refine sw_iconst 39 G (2 : Int32) dX6_operation_39 rfl ?_
      obtain ⟨r3, u4, hg, hf⟩ := bd2_some hf
      refine sw_callV 40 G (wX6 Θ m0 m1 m2 m3 m4 m5 m6 m7 m8 m9 m_now m_saved m_aside m_states m_quiet u4 m_tried m_best m_touching m_text m_length m_at m_verbs m_told m_commands) [0, 1, 2, 3, 4, 5, 6, 7, 8, 9] [] [0, 1, 2, 3, 4, 5, 6, 7, 8, 9] 1 dX6_operation_40 (kX6_fails Θ m0 m1 m2 m3 m4 m5 m6 m7 m8 m9 m_now m_saved m_aside m_states m_quiet (0 : Int32) m_tried m_best m_touching m_text m_length m_at m_verbs m_told m_commands (2 : Int32) r3 u4 hg) (gwV lk_c7279fda lk_b9e66eaa lk_2152c894 lk_6d91b6d2 lk_f2d2a162) rfl hvX6_fails ⟨rfl, rfl⟩ ⟨Nat.le_of_ble_eq_true rfl, Nat.le_of_ble_eq_true rfl⟩ ⟨Nat.zero_le _, Nat.zero_le _⟩ rfl rfl (Nat.le_of_ble_eq_true rfl) 0 rfl vc6 rfl rfl rfl rfl (by decide) ?_
      cases hf
      exact sw_iret 43 G dX6_operation_43 K
    · refine sw_aload_n 29 G dX6_operation_29 0 rfl ?_
      refine sw_iload_n 30 G dX6_operation_30 1 rfl ?_
      refine sw_iload_n 31 G dX6_operation_31 2 rfl ?_
      obtain ⟨r5, hg, hf⟩ := bd1_some hf
      refine sw_callV 32 G (wX6 Θ m0 m1 m2 m3 m4 m5 m6 m7 m8 m9 m_now m_saved m_aside m_states m_quiet (0 : Int32) m_tried m_best m_touching m_text m_length m_at m_verbs m_told m_commands) [0, 1, 2, 3, 4, 5, 6, 7, 8, 9] [] [0, 1, 2, 3, 4, 5, 6, 7, 8, 9] 2 dX6_operation_32 (kX6_operationOf Θ F m0 m1 m2 m3 m4 m5 m6 m7 m8 m9 m_now m_saved m_aside m_states m_quiet (0 : Int32) m_tried m_best m_touching m_text m_length m_at m_verbs m_told m_commands a0 a1 r5 hg) (gwV lk_853aacef lk_0538ec45 lk_477b5f2a lk_6d91b6d2 lk_af1efc47) rfl hvX6_operationOf ⟨rfl, rfl⟩ ⟨Nat.le_of_ble_eq_true rfl, Nat.le_of_ble_eq_true rfl⟩ ⟨Nat.zero_le _, Nat.zero_le _⟩ rfl rfl (Nat.le_of_ble_eq_true rfl) 0 rfl vc6 rfl rfl rfl rfl (by decide) ?_
      refine sw_goto 35 G 43 dX6_operation_35 rfl ?_
      cases hf
      exact sw_iret 43 G dX6_operation_43 K
  · refine sw_aload_n 13 G dX6_operation_13 0 rfl ?_
    refine sw_iconst 14 G (1 : Int32) dX6_operation_14 rfl ?_
    obtain ⟨r6, u7, hg, hf⟩ := bd2_some hf
    refine sw_callV 15 G (wX6 Θ m0 m1 m2 m3 m4 m5 m6 m7 m8 m9 m_now m_saved m_aside m_states m_quiet u7 m_tried m_best m_touching m_text m_length m_at m_verbs m_told m_commands) [0, 1, 2, 3, 4, 5, 6, 7, 8, 9] [] [0, 1, 2, 3, 4, 5, 6, 7, 8, 9] 1 dX6_operation_15 (kX6_fails Θ m0 m1 m2 m3 m4 m5 m6 m7 m8 m9 m_now m_saved m_aside m_states m_quiet (0 : Int32) m_tried m_best m_touching m_text m_length m_at m_verbs m_told m_commands (1 : Int32) r6 u7 hg) (gwV lk_c7279fda lk_b9e66eaa lk_2152c894 lk_6d91b6d2 lk_f2d2a162) rfl hvX6_fails ⟨rfl, rfl⟩ ⟨Nat.le_of_ble_eq_true rfl, Nat.le_of_ble_eq_true rfl⟩ ⟨Nat.zero_le _, Nat.zero_le _⟩ rfl rfl (Nat.le_of_ble_eq_true rfl) 0 rfl vc6 rfl rfl rfl rfl (by decide) ?_
    cases hf
    exact sw_iret 18 G dX6_operation_18 K
abbrev rmX6_stationOf : Room := { frames := 3, cells := 0, slots := 0, locals := 66 }
theorem hvX6_stationOf : yX6_stationOf.cls = RX6 ∧ yX6_stationOf.cls ≠ "java/lang/invoke/MethodHandle" ∧ yX6_stationOf.cls ≠ "java/lang/invoke/VarHandle" ∧ (parseMethodDescriptor yX6_stationOf.desc).map (fun d => d.parameters.length) = some 2 := by decide +kernel
set_option maxRecDepth 100000 in
set_option maxHeartbeats 4000000 in
theorem kX6_stationOf (Θ : Tht) (F : Nat) (m0 m1 m2 m3 m4 m5 m6 m7 m8 m9 : Nat) (m_now : Nat → Int64) (m_saved : Nat → Int64) (m_aside : Nat → Int64) (m_states : Int32) (m_quiet : Int32) (m_thrown : Int32) (m_tried : Nat → Int32) (m_best : Nat → Int32) (m_touching : Nat → Int32) (m_text : Nat → Int32) (m_length : Int32) (m_at : Int32) (m_verbs : Nat → Int32) (m_told : Nat → Int32) (m_commands : Int32) (a0 : Int32) (a1 : Int32) (ro : Int32) (hf : fX6_stationOf F m_now a0 a1 = some ro) : Fn Θ yX6_stationOf (Cond.code yX6_stationOf cX6_stationOf 5 (some .int) :: GW) rmX6_stationOf [.ref m0, .int a0, .int a1] (wX6 Θ m0 m1 m2 m3 m4 m5 m6 m7 m8 m9 m_now m_saved m_aside m_states m_quiet m_thrown m_tried m_best m_touching m_text m_length m_at m_verbs m_told m_commands) (some (.int ro)) (wX6 Θ m0 m1 m2 m3 m4 m5 m6 m7 m8 m9 m_now m_saved m_aside m_states m_quiet m_thrown m_tried m_best m_touching m_text m_length m_at m_verbs m_told m_commands) := by
  delta fX6_stationOf at hf
  refine Fn.of (by decide +kernel) rfl (Nat.le_of_ble_eq_true rfl) (fun p e s m args below meth c A Q G K => ?_)
  show sw Θ p e rmX6_stationOf s m args below meth c A Q 5 0 0 0 [(0, .ref m0), (1, .int a0), (2, .int a1)] [] (wX6 Θ m0 m1 m2 m3 m4 m5 m6 m7 m8 m9 m_now m_saved m_aside m_states m_quiet m_thrown m_tried m_best m_touching m_text m_length m_at m_verbs m_told m_commands)
  refine sw_iload_n 0 G dX6_stationOf_0 2 rfl ?_
  obtain ⟨v1, hj, hf⟩ := bd1_some hf
  have hx21 : sw Θ p e rmX6_stationOf s m args below meth c A Q 5 0 0 21 [(0, .ref m0), (1, .int a0), (2, .int a1)] [.int v1] (wX6 Θ m0 m1 m2 m3 m4 m5 m6 m7 m8 m9 m_now m_saved m_aside m_states m_quiet m_thrown m_tried m_best m_touching m_text m_length m_at m_verbs m_told m_commands) := by
    refine sw_istore_n 21 G [(3, .int v1), (0, .ref m0), (1, .int a0), (2, .int a1)] dX6_stationOf_21 (by decide) rfl ?_
    refine sw_iload_n 22 G dX6_stationOf_22 3 rfl ?_
    refine sw_iconst 23 G (2 : Int32) dX6_stationOf_23 rfl ?_
    obtain ⟨v5, hj, hf⟩ := bd1_some hf
    have hx49 : sw Θ p e rmX6_stationOf s m args below meth c A Q 5 0 0 49 [(2, .int a1), (3, .int v1)] [.int v5] (wX6 Θ m0 m1 m2 m3 m4 m5 m6 m7 m8 m9 m_now m_saved m_aside m_states m_quiet m_thrown m_tried m_best m_touching m_text m_length m_at m_verbs m_told m_commands) := by
      refine sw_istore 49 G [(4, .int v5), (2, .int a1), (3, .int v1)] dX6_stationOf_49 (by decide) rfl ?_
      refine sw_iload_n 51 G dX6_stationOf_51 1 rfl ?_
      refine sw_iconst 52 G (2 : Int32) dX6_stationOf_52 rfl ?_
      refine sw_icmp_ge 53 60 G dX6_stationOf_53 rfl hf (fun hf => ?_) (fun hf => ?_)
      · refine sw_iload 60 G dX6_stationOf_60 0 rfl ?_
        cases hf
        exact sw_iret 62 G dX6_stationOf_62 K
      · refine sw_iload_n 56 G dX6_stationOf_56 2 rfl ?_
        refine sw_goto 57 G 62 dX6_stationOf_57 rfl ?_
        cases hf
        exact sw_iret 62 G dX6_stationOf_62 K
    clear hf
    have hf := hj
    clear hj
    refine sw_icmp_ne 24 42 G dX6_stationOf_24 rfl hf (fun hf => ?_) (fun hf => ?_)
    · refine sw_aload_n 42 G dX6_stationOf_42 1 rfl ?_
      refine sw_iload_n 43 G dX6_stationOf_43 2 rfl ?_
      refine sw_iconst 44 G (0 : Int32) dX6_stationOf_44 rfl ?_
      obtain ⟨r6, hg, hf⟩ := bd1_some hf
      refine sw_callV 45 G (wX6 Θ m0 m1 m2 m3 m4 m5 m6 m7 m8 m9 m_now m_saved m_aside m_states m_quiet m_thrown m_tried m_best m_touching m_text m_length m_at m_verbs m_told m_commands) [0, 1, 2, 3, 4, 5, 6, 7, 8, 9] [] [0, 1, 2, 3, 4, 5, 6, 7, 8, 9] 2 dX6_stationOf_45 (kX6_ofPitch Θ m0 m1 m2 m3 m4 m5 m6 m7 m8 m9 m_now m_saved m_aside m_states m_quiet m_thrown m_tried m_best m_touching m_text m_length m_at m_verbs m_told m_commands a0 (0 : Int32) r6 hg) (gwV lk_a40543c5 lk_e7c4f238 lk_d53ce5a7 lk_6d91b6d2 lk_df8fdb45) rfl hvX6_ofPitch ⟨rfl, rfl⟩ ⟨Nat.le_of_ble_eq_true rfl, Nat.le_of_ble_eq_true rfl⟩ ⟨Nat.zero_le _, Nat.zero_le _⟩ rfl rfl (Nat.le_of_ble_eq_true rfl) 0 rfl vc6 rfl rfl rfl rfl (by decide) ?_
      refine sw_l2i 48 G dX6_stationOf_48 ?_
      cases hf
      exact sw_lv _ [3, 0] rfl hx49
    · refine sw_aload_n 27 G dX6_stationOf_27 1 rfl ?_
      refine sw_get 28 G hnX6 0 0 dX6_stationOf_28 vc6 (by decide) (List.mem_cons_of_mem _ lk_54e63fd8) rfl rfl ?_
      refine sw_bipush 31 G (13 : Int32) dX6_stationOf_31 rfl ?_
      refine sw_lald 33 G 1 dX6_stationOf_33 rfl hf (fun hf => ?_)
      refine sw_iload_n 34 G dX6_stationOf_34 2 rfl ?_
      refine sw_lshr 35 G dX6_stationOf_35 ?_
      refine sw_lconst 36 G (1 : Int64) dX6_stationOf_36 rfl ?_
      refine sw_land 37 G dX6_stationOf_37 ?_
      refine sw_l2i 38 G dX6_stationOf_38 ?_
      refine sw_goto 39 G 49 dX6_stationOf_39 rfl ?_
      cases hf
      exact sw_lv _ [3, 0] rfl hx49
  clear hf
  have hf := hj
  clear hj
  refine sw_if_ne 1 12 G dX6_stationOf_1 rfl hf (fun hf => ?_) (fun hf => ?_)
  · refine sw_aload_n 12 G dX6_stationOf_12 0 rfl ?_
    refine sw_aload_n 13 G dX6_stationOf_13 0 rfl ?_
    refine sw_iload_n 14 G dX6_stationOf_14 1 rfl ?_
    obtain ⟨r2, hg, hf⟩ := bd1_some hf
    refine sw_callV 15 G (wX6 Θ m0 m1 m2 m3 m4 m5 m6 m7 m8 m9 m_now m_saved m_aside m_states m_quiet m_thrown m_tried m_best m_touching m_text m_length m_at m_verbs m_told m_commands) [0, 1, 2, 3, 4, 5, 6, 7, 8, 9] [] [0, 1, 2, 3, 4, 5, 6, 7, 8, 9] 1 dX6_stationOf_15 (kX6_opsAt Θ F m0 m1 m2 m3 m4 m5 m6 m7 m8 m9 m_now m_saved m_aside m_states m_quiet m_thrown m_tried m_best m_touching m_text m_length m_at m_verbs m_told m_commands a0 r2 hg) (gwV lk_578fec13 lk_7382132d lk_1149b8cf lk_6d91b6d2 lk_0856693d) rfl hvX6_opsAt ⟨rfl, rfl⟩ ⟨Nat.le_of_ble_eq_true rfl, Nat.le_of_ble_eq_true rfl⟩ ⟨Nat.zero_le _, Nat.zero_le _⟩ rfl rfl (Nat.le_of_ble_eq_true rfl) 0 rfl vc6 rfl rfl rfl rfl (by decide) ?_
    obtain ⟨r3, hg, hf⟩ := bd1_some hf
    refine sw_callV 18 G (wX6 Θ m0 m1 m2 m3 m4 m5 m6 m7 m8 m9 m_now m_saved m_aside m_states m_quiet m_thrown m_tried m_best m_touching m_text m_length m_at m_verbs m_told m_commands) [0, 1, 2, 3, 4, 5, 6, 7, 8, 9] [] [0, 1, 2, 3, 4, 5, 6, 7, 8, 9] 1 dX6_stationOf_18 (kX6_forces Θ F m0 m1 m2 m3 m4 m5 m6 m7 m8 m9 m_now m_saved m_aside m_states m_quiet m_thrown m_tried m_best m_touching m_text m_length m_at m_verbs m_told m_commands r2 r3 hg) (gwV lk_bd078eb3 lk_a90b1bc1 lk_e6335d5f lk_6d91b6d2 lk_f01f51d3) rfl hvX6_forces ⟨rfl, rfl⟩ ⟨Nat.le_of_ble_eq_true rfl, Nat.le_of_ble_eq_true rfl⟩ ⟨Nat.zero_le _, Nat.zero_le _⟩ rfl rfl (Nat.le_of_ble_eq_true rfl) 0 rfl vc6 rfl rfl rfl rfl (by decide) ?_
    cases hf
    exact sw_lv _ [0, 1, 2] rfl hx21
  · refine sw_aload_n 4 G dX6_stationOf_4 0 rfl ?_
    refine sw_iload_n 5 G dX6_stationOf_5 1 rfl ?_
    obtain ⟨r4, hg, hf⟩ := bd1_some hf
    refine sw_callV 6 G (wX6 Θ m0 m1 m2 m3 m4 m5 m6 m7 m8 m9 m_now m_saved m_aside m_states m_quiet m_thrown m_tried m_best m_touching m_text m_length m_at m_verbs m_told m_commands) [0, 1, 2, 3, 4, 5, 6, 7, 8, 9] [] [0, 1, 2, 3, 4, 5, 6, 7, 8, 9] 1 dX6_stationOf_6 (kX6_opsAt Θ F m0 m1 m2 m3 m4 m5 m6 m7 m8 m9 m_now m_saved m_aside m_states m_quiet m_thrown m_tried m_best m_touching m_text m_length m_at m_verbs m_told m_commands a0 r4 hg) (gwV lk_578fec13 lk_7382132d lk_1149b8cf lk_6d91b6d2 lk_0856693d) rfl hvX6_opsAt ⟨rfl, rfl⟩ ⟨Nat.le_of_ble_eq_true rfl, Nat.le_of_ble_eq_true rfl⟩ ⟨Nat.zero_le _, Nat.zero_le _⟩ rfl rfl (Nat.le_of_ble_eq_true rfl) 0 rfl vc6 rfl rfl rfl rfl (by decide) ?_
    refine sw_goto 9 G 21 dX6_stationOf_9 rfl ?_
    cases hf
    exact sw_lv _ [0, 1, 2] rfl hx21
abbrev rmX6_station : Room := { frames := 4, cells := 0, slots := 0, locals := 90 }
theorem hvX6_station : yX6_station.cls = RX6 ∧ yX6_station.cls ≠ "java/lang/invoke/MethodHandle" ∧ yX6_station.cls ≠ "java/lang/invoke/VarHandle" ∧ (parseMethodDescriptor yX6_station.desc).map (fun d => d.parameters.length) = some 2 := by decide +kernel
set_option maxRecDepth 100000 in
set_option maxHeartbeats 4000000 in
theorem kX6_station (Θ : Tht) (F : Nat) (m0 m1 m2 m3 m4 m5 m6 m7 m8 m9 : Nat) (m_now : Nat → Int64) (m_saved : Nat → Int64) (m_aside : Nat → Int64) (m_states : Int32) (m_quiet : Int32) (m_thrown : Int32) (m_tried : Nat → Int32) (m_best : Nat → Int32) (m_touching : Nat → Int32) (m_text : Nat → Int32) (m_length : Int32) (m_at : Int32) (m_verbs : Nat → Int32) (m_told : Nat → Int32) (m_commands : Int32) (a0 : Int32) (a1 : Int32) (ro : Int32) (o_m_thrown : Int32) (hf : fX6_station F m_now a0 a1 = some (ro, o_m_thrown)) : Fn Θ yX6_station (Cond.code yX6_station cX6_station 3 (some .int) :: GW) rmX6_station [.ref m0, .int a0, .int a1] (wX6 Θ m0 m1 m2 m3 m4 m5 m6 m7 m8 m9 m_now m_saved m_aside m_states m_quiet m_thrown m_tried m_best m_touching m_text m_length m_at m_verbs m_told m_commands) (some (.int ro)) (wX6 Θ m0 m1 m2 m3 m4 m5 m6 m7 m8 m9 m_now m_saved m_aside m_states m_quiet o_m_thrown m_tried m_best m_touching m_text m_length m_at m_verbs m_told m_commands) := by
  delta fX6_station at hf
  refine Fn.of (by decide +kernel) rfl (Nat.le_of_ble_eq_true rfl) (fun p e s m args below meth c A Q G K => ?_)
  show sw Θ p e rmX6_station s m args below meth c A Q 3 0 0 0 [(0, .ref m0), (1, .int a0), (2, .int a1)] [] (wX6 Θ m0 m1 m2 m3 m4 m5 m6 m7 m8 m9 m_now m_saved m_aside m_states m_quiet m_thrown m_tried m_best m_touching m_text m_length m_at m_verbs m_told m_commands)
  refine sw_aload_n 0 G dX6_station_0 0 rfl ?_
  refine sw_iconst 1 G (0 : Int32) dX6_station_1 rfl ?_
  refine sw_put 2 G hnX6 tyX6_ok nmX6 0 5 (wX6 Θ m0 m1 m2 m3 m4 m5 m6 m7 m8 m9 m_now m_saved m_aside m_states m_quiet (0 : Int32) m_tried m_best m_touching m_text m_length m_at m_verbs m_told m_commands) dX6_station_2 vc6 (by decide) (List.mem_cons_of_mem _ lk_fb3e5753) rfl rfl (Nat.le_of_ble_eq_true rfl) (tyX6_ok 5 (by decide)) rfl rfl rfl ?_
  refine sw_iload_n 5 G dX6_station_5 1 rfl ?_
  refine sw_iconst 6 G (0 : Int32) dX6_station_6 rfl ?_
  refine sw_bipush 7 G (7 : Int32) dX6_station_7 rfl ?_
  obtain ⟨r1, hg, hf⟩ := bd1_some hf
  refine sw_callS 9 G (wX6 Θ m0 m1 m2 m3 m4 m5 m6 m7 m8 m9 m_now m_saved m_aside m_states m_quiet (0 : Int32) m_tried m_best m_touching m_text m_length m_at m_verbs m_told m_commands) [] [0, 1, 2, 3, 4, 5, 6, 7, 8, 9] [0, 1, 2, 3, 4, 5, 6, 7, 8, 9] 3 dX6_station_9 (kX6_in Θ a0 (0 : Int32) (7 : Int32) r1 hg) (gwS lk_739e9842 lk_9ad51b2c lk_59eba9b0 lk_5ad5c33d) rfl hsX6_in ⟨rfl, rfl⟩ ⟨Nat.le_of_ble_eq_true rfl, Nat.le_of_ble_eq_true rfl⟩ ⟨Nat.zero_le _, Nat.zero_le _⟩ rfl rfl (Nat.le_of_ble_eq_true rfl) rfl rfl rfl (by decide) ?_
  refine sw_if_eq 12 33 G dX6_station_12 rfl hf (fun hf => ?_) (fun hf => ?_)
  · refine sw_aload_n 33 G dX6_station_33 0 rfl ?_
    refine sw_iconst 34 G (1 : Int32) dX6_station_34 rfl ?_
    obtain ⟨r2, u3, hg, hf⟩ := bd2_some hf
    refine sw_callV 35 G (wX6 Θ m0 m1 m2 m3 m4 m5 m6 m7 m8 m9 m_now m_saved m_aside m_states m_quiet u3 m_tried m_best m_touching m_text m_length m_at m_verbs m_told m_commands) [0, 1, 2, 3, 4, 5, 6, 7, 8, 9] [] [0, 1, 2, 3, 4, 5, 6, 7, 8, 9] 1 dX6_station_35 (kX6_fails Θ m0 m1 m2 m3 m4 m5 m6 m7 m8 m9 m_now m_saved m_aside m_states m_quiet (0 : Int32) m_tried m_best m_touching m_text m_length m_at m_verbs m_told m_commands (1 : Int32) r2 u3 hg) (gwV lk_c7279fda lk_b9e66eaa lk_2152c894 lk_6d91b6d2 lk_f2d2a162) rfl hvX6_fails ⟨rfl, rfl⟩ ⟨Nat.le_of_ble_eq_true rfl, Nat.le_of_ble_eq_true rfl⟩ ⟨Nat.zero_le _, Nat.zero_le _⟩ rfl rfl (Nat.le_of_ble_eq_true rfl) 0 rfl vc6 rfl rfl rfl rfl (by decide) ?_
    cases hf
    exact sw_iret 38 G dX6_station_38 K
  · refine sw_iload_n 15 G dX6_station_15 2 rfl ?_
    refine sw_iconst 16 G (0 : Int32) dX6_station_16 rfl ?_
    refine sw_iconst 17 G (3 : Int32) dX6_station_17 rfl ?_
    obtain ⟨r4, hg, hf⟩ := bd1_some hf
    refine sw_callS 18 G (wX6 Θ m0 m1 m2 m3 m4 m5 m6 m7 m8 m9 m_now m_saved m_aside m_states m_quiet (0 : Int32) m_tried m_best m_touching m_text m_length m_at m_verbs m_told m_commands) [] [0, 1, 2, 3, 4, 5, 6, 7, 8, 9] [0, 1, 2, 3, 4, 5, 6, 7, 8, 9] 3 dX6_station_18 (kX6_in Θ a1 (0 : Int32) (3 : Int32) r4 hg) (gwS lk_739e9842 lk_9ad51b2c lk_59eba9b0 lk_5ad5c33d) rfl hsX6_in ⟨rfl, rfl⟩ ⟨Nat.le_of_ble_eq_true rfl, Nat.le_of_ble_eq_true rfl⟩ ⟨Nat.zero_le _, Nat.zero_le _⟩ rfl rfl (Nat.le_of_ble_eq_true rfl) rfl rfl rfl (by decide) ?_
    refine sw_if_eq 21 33 G dX6_station_21 rfl hf (fun hf => ?_) (fun hf => ?_)
    · refine sw_aload_n 33 G dX6_station_33 0 rfl ?_
      refine sw_iconst 34 G (1 : Int32) dX6_station_34 rfl ?_
      obtain ⟨r5, u6, hg, hf⟩ := bd2_some hf
      refine sw_callV 35 G (wX6 Θ m0 m1 m2 m3 m4 m5 m6 m7 m8 m9 m_now m_saved m_aside m_states m_quiet u6 m_tried m_best m_touching m_text m_length m_at m_verbs m_told m_commands) [0, 1, 2, 3, 4, 5, 6, 7, 8, 9] [] [0, 1, 2, 3, 4, 5, 6, 7, 8, 9] 1 dX6_station_35 (kX6_fails Θ m0 m1 m2 m3 m4 m5 m6 m7 m8 m9 m_now m_saved m_aside m_states m_quiet (0 : Int32) m_tried m_best m_touching m_text m_length m_at m_verbs m_told m_commands (1 : Int32) r5 u6 hg) (gwV lk_c7279fda lk_b9e66eaa lk_2152c894 lk_6d91b6d2 lk_f2d2a162) rfl hvX6_fails ⟨rfl, rfl⟩ ⟨Nat.le_of_ble_eq_true rfl, Nat.le_of_ble_eq_true rfl⟩ ⟨Nat.zero_le _, Nat.zero_le _⟩ rfl rfl (Nat.le_of_ble_eq_true rfl) 0 rfl vc6 rfl rfl rfl rfl (by decide) ?_
      cases hf
      exact sw_iret 38 G dX6_station_38 K
    · refine sw_aload_n 24 G dX6_station_24 0 rfl ?_
      refine sw_iload_n 25 G dX6_station_25 1 rfl ?_
      refine sw_iload_n 26 G dX6_station_26 2 rfl ?_
      obtain ⟨r7, hg, hf⟩ := bd1_some hf
      refine sw_callV 27 G (wX6 Θ m0 m1 m2 m3 m4 m5 m6 m7 m8 m9 m_now m_saved m_aside m_states m_quiet (0 : Int32) m_tried m_best m_touching m_text m_length m_at m_verbs m_told m_commands) [0, 1, 2, 3, 4, 5, 6, 7, 8, 9] [] [0, 1, 2, 3, 4, 5, 6, 7, 8, 9] 2 dX6_station_27 (kX6_stationOf Θ F m0 m1 m2 m3 m4 m5 m6 m7 m8 m9 m_now m_saved m_aside m_states m_quiet (0 : Int32) m_tried m_best m_touching m_text m_length m_at m_verbs m_told m_commands a0 a1 r7 hg) (gwV lk_8b4956e6 lk_06144404 lk_239f2f98 lk_6d91b6d2 lk_92431fb5) rfl hvX6_stationOf ⟨rfl, rfl⟩ ⟨Nat.le_of_ble_eq_true rfl, Nat.le_of_ble_eq_true rfl⟩ ⟨Nat.zero_le _, Nat.zero_le _⟩ rfl rfl (Nat.le_of_ble_eq_true rfl) 0 rfl vc6 rfl rfl rfl rfl (by decide) ?_
      refine sw_goto 30 G 38 dX6_station_30 rfl ?_
      cases hf
      exact sw_iret 38 G dX6_station_38 K
abbrev rmX6_pitchOf : Room := { frames := 1, cells := 0, slots := 0, locals := 23 }
theorem hvX6_pitchOf : yX6_pitchOf.cls = RX6 ∧ yX6_pitchOf.cls ≠ "java/lang/invoke/MethodHandle" ∧ yX6_pitchOf.cls ≠ "java/lang/invoke/VarHandle" ∧ (parseMethodDescriptor yX6_pitchOf.desc).map (fun d => d.parameters.length) = some 2 := by decide +kernel
set_option maxRecDepth 100000 in
set_option maxHeartbeats 4000000 in
theorem kX6_pitchOf (Θ : Tht) (F : Nat) (m0 m1 m2 m3 m4 m5 m6 m7 m8 m9 : Nat) (m_now : Nat → Int64) (m_saved : Nat → Int64) (m_aside : Nat → Int64) (m_states : Int32) (m_quiet : Int32) (m_thrown : Int32) (m_tried : Nat → Int32) (m_best : Nat → Int32) (m_touching : Nat → Int32) (m_text : Nat → Int32) (m_length : Int32) (m_at : Int32) (m_verbs : Nat → Int32) (m_told : Nat → Int32) (m_commands : Int32) (a0 : Int32) (a1 : Int32) (ro : Int32) (hf : fX6_pitchOf F m_now a0 a1 = some ro) : Fn Θ yX6_pitchOf (Cond.code yX6_pitchOf cX6_pitchOf 3 (some .int) :: GW) rmX6_pitchOf [.ref m0, .int a0, .int a1] (wX6 Θ m0 m1 m2 m3 m4 m5 m6 m7 m8 m9 m_now m_saved m_aside m_states m_quiet m_thrown m_tried m_best m_touching m_text m_length m_at m_verbs m_told m_commands) (some (.int ro)) (wX6 Θ m0 m1 m2 m3 m4 m5 m6 m7 m8 m9 m_now m_saved m_aside m_states m_quiet m_thrown m_tried m_best m_touching m_text m_length m_at m_verbs m_told m_commands) := by
  delta fX6_pitchOf at hf
  refine Fn.of (by decide +kernel) rfl (Nat.le_of_ble_eq_true rfl) (fun p e s m args below meth c A Q G K => ?_)
  show sw Θ p e rmX6_pitchOf s m args below meth c A Q 3 0 0 0 [(0, .ref m0), (1, .int a0), (2, .int a1)] [] (wX6 Θ m0 m1 m2 m3 m4 m5 m6 m7 m8 m9 m_now m_saved m_aside m_states m_quiet m_thrown m_tried m_best m_touching m_text m_length m_at m_verbs m_told m_commands)
  refine sw_aload_n 0 G dX6_pitchOf_0 0 rfl ?_
  refine sw_iload_n 1 G dX6_pitchOf_1 1 rfl ?_
  refine sw_iconst 2 G (0 : Int32) dX6_pitchOf_2 rfl ?_
  obtain ⟨r1, hg, hf⟩ := bd1_some hf
  refine sw_callV 3 G (wX6 Θ m0 m1 m2 m3 m4 m5 m6 m7 m8 m9 m_now m_saved m_aside m_states m_quiet m_thrown m_tried m_best m_touching m_text m_length m_at m_verbs m_told m_commands) [0, 1, 2, 3, 4, 5, 6, 7, 8, 9] [] [0, 1, 2, 3, 4, 5, 6, 7, 8, 9] 2 dX6_pitchOf_3 (kX6_ofPitch Θ m0 m1 m2 m3 m4 m5 m6 m7 m8 m9 m_now m_saved m_aside m_states m_quiet m_thrown m_tried m_best m_touching m_text m_length m_at m_verbs m_told m_commands a0 (0 : Int32) r1 hg) (gwV lk_a40543c5 lk_e7c4f238 lk_d53ce5a7 lk_6d91b6d2 lk_df8fdb45) rfl hvX6_ofPitch ⟨rfl, rfl⟩ ⟨Nat.le_of_ble_eq_true rfl, Nat.le_of_ble_eq_true rfl⟩ ⟨Nat.zero_le _, Nat.zero_le _⟩ rfl rfl (Nat.le_of_ble_eq_true rfl) 0 rfl vc6 rfl rfl rfl rfl (by decide) ?_
  refine sw_lconst 6 G (0 : Int64) dX6_pitchOf_6 rfl ?_
  refine sw_lcmp 7 G dX6_pitchOf_7 ?_
  refine sw_if_ne 8 13 G dX6_pitchOf_8 rfl hf (fun hf => ?_) (fun hf => ?_)
  · refine sw_iload_n 13 G dX6_pitchOf_13 2 rfl ?_
    refine sw_iconst 14 G (3 : Int32) dX6_pitchOf_14 rfl ?_
    refine sw_icmp_ne 15 30 G dX6_pitchOf_15 rfl hf (fun hf => ?_) (fun hf => ?_)
    · refine sw_aload_n 30 G dX6_pitchOf_30 0 rfl ?_
      refine sw_iload_n 31 G dX6_pitchOf_31 1 rfl ?_
      refine sw_iconst 32 G (2 : Int32) dX6_pitchOf_32 rfl ?_
      refine sw_iload_n 33 G dX6_pitchOf_33 2 rfl ?_
      refine sw_iadd 34 G dX6_pitchOf_34 ?_
      obtain ⟨r2, hg, hf⟩ := bd1_some hf
      refine sw_callV 35 G (wX6 Θ m0 m1 m2 m3 m4 m5 m6 m7 m8 m9 m_now m_saved m_aside m_states m_quiet m_thrown m_tried m_best m_touching m_text m_length m_at m_verbs m_told m_commands) [0, 1, 2, 3, 4, 5, 6, 7, 8, 9] [] [0, 1, 2, 3, 4, 5, 6, 7, 8, 9] 2 dX6_pitchOf_35 (kX6_ofPitch Θ m0 m1 m2 m3 m4 m5 m6 m7 m8 m9 m_now m_saved m_aside m_states m_quiet m_thrown m_tried m_best m_touching m_text m_length m_at m_verbs m_told m_commands a0 ((2 : Int32) + a1) r2 hg) (gwV lk_a40543c5 lk_e7c4f238 lk_d53ce5a7 lk_6d91b6d2 lk_df8fdb45) rfl hvX6_ofPitch ⟨rfl, rfl⟩ ⟨Nat.le_of_ble_eq_true rfl, Nat.le_of_ble_eq_true rfl⟩ ⟨Nat.zero_le _, Nat.zero_le _⟩ rfl rfl (Nat.le_of_ble_eq_true rfl) 0 rfl vc6 rfl rfl rfl rfl (by decide) ?_
      refine sw_l2i 38 G dX6_pitchOf_38 ?_
      cases hf
      exact sw_iret 39 G dX6_pitchOf_39 K
    · refine sw_aload_n 18 G dX6_pitchOf_18 0 rfl ?_
      refine sw_iload_n 19 G dX6_pitchOf_19 1 rfl ?_
      refine sw_iconst 20 G (1 : Int32) dX6_pitchOf_20 rfl ?_
      obtain ⟨r3, hg, hf⟩ := bd1_some hf
      refine sw_callV 21 G (wX6 Θ m0 m1 m2 m3 m4 m5 m6 m7 m8 m9 m_now m_saved m_aside m_states m_quiet m_thrown m_tried m_best m_touching m_text m_length m_at m_verbs m_told m_commands) [0, 1, 2, 3, 4, 5, 6, 7, 8, 9] [] [0, 1, 2, 3, 4, 5, 6, 7, 8, 9] 2 dX6_pitchOf_21 (kX6_ofPitch Θ m0 m1 m2 m3 m4 m5 m6 m7 m8 m9 m_now m_saved m_aside m_states m_quiet m_thrown m_tried m_best m_touching m_text m_length m_at m_verbs m_told m_commands a0 (1 : Int32) r3 hg) (gwV lk_a40543c5 lk_e7c4f238 lk_d53ce5a7 lk_6d91b6d2 lk_df8fdb45) rfl hvX6_ofPitch ⟨rfl, rfl⟩ ⟨Nat.le_of_ble_eq_true rfl, Nat.le_of_ble_eq_true rfl⟩ ⟨Nat.zero_le _, Nat.zero_le _⟩ rfl rfl (Nat.le_of_ble_eq_true rfl) 0 rfl vc6 rfl rfl rfl rfl (by decide) ?_
      obtain ⟨r4, hg, hf⟩ := bd1_some hf
      refine sw_callS 24 G (wX6 Θ m0 m1 m2 m3 m4 m5 m6 m7 m8 m9 m_now m_saved m_aside m_states m_quiet m_thrown m_tried m_best m_touching m_text m_length m_at m_verbs m_told m_commands) [] [0, 1, 2, 3, 4, 5, 6, 7, 8, 9] [0, 1, 2, 3, 4, 5, 6, 7, 8, 9] 1 dX6_pitchOf_24 (kX6_ones Θ F r3 r4 hg) (gwS lk_d2b42130 lk_66add976 lk_cff7b874 lk_9c72bac3) rfl hsX6_ones ⟨rfl, rfl⟩ ⟨Nat.le_of_ble_eq_true rfl, Nat.le_of_ble_eq_true rfl⟩ ⟨Nat.zero_le _, Nat.zero_le _⟩ rfl rfl (Nat.le_of_ble_eq_true rfl) rfl rfl rfl (by decide) ?_
      refine sw_goto 27 G 39 dX6_pitchOf_27 rfl ?_
      cases hf
      exact sw_iret 39 G dX6_pitchOf_39 K
  · refine sw_iconst 11 G (-1 : Int32) dX6_pitchOf_11 rfl ?_
    cases hf
    exact sw_iret 12 G dX6_pitchOf_12 K
abbrev rmX6_pitch : Room := { frames := 2, cells := 0, slots := 0, locals := 45 }
theorem hvX6_pitch : yX6_pitch.cls = RX6 ∧ yX6_pitch.cls ≠ "java/lang/invoke/MethodHandle" ∧ yX6_pitch.cls ≠ "java/lang/invoke/VarHandle" ∧ (parseMethodDescriptor yX6_pitch.desc).map (fun d => d.parameters.length) = some 2 := by decide +kernel
set_option maxRecDepth 100000 in
set_option maxHeartbeats 4000000 in
theorem kX6_pitch (Θ : Tht) (F : Nat) (m0 m1 m2 m3 m4 m5 m6 m7 m8 m9 : Nat) (m_now : Nat → Int64) (m_saved : Nat → Int64) (m_aside : Nat → Int64) (m_states : Int32) (m_quiet : Int32) (m_thrown : Int32) (m_tried : Nat → Int32) (m_best : Nat → Int32) (m_touching : Nat → Int32) (m_text : Nat → Int32) (m_length : Int32) (m_at : Int32) (m_verbs : Nat → Int32) (m_told : Nat → Int32) (m_commands : Int32) (a0 : Int32) (a1 : Int32) (ro : Int32) (o_m_thrown : Int32) (hf : fX6_pitch F m_now a0 a1 = some (ro, o_m_thrown)) : Fn Θ yX6_pitch (Cond.code yX6_pitch cX6_pitch 3 (some .int) :: GW) rmX6_pitch [.ref m0, .int a0, .int a1] (wX6 Θ m0 m1 m2 m3 m4 m5 m6 m7 m8 m9 m_now m_saved m_aside m_states m_quiet m_thrown m_tried m_best m_touching m_text m_length m_at m_verbs m_told m_commands) (some (.int ro)) (wX6 Θ m0 m1 m2 m3 m4 m5 m6 m7 m8 m9 m_now m_saved m_aside m_states m_quiet o_m_thrown m_tried m_best m_touching m_text m_length m_at m_verbs m_told m_commands) := by
  delta fX6_pitch at hf
  refine Fn.of (by decide +kernel) rfl (Nat.le_of_ble_eq_true rfl) (fun p e s m args below meth c A Q G K => ?_)
  show sw Θ p e rmX6_pitch s m args below meth c A Q 3 0 0 0 [(0, .ref m0), (1, .int a0), (2, .int a1)] [] (wX6 Θ m0 m1 m2 m3 m4 m5 m6 m7 m8 m9 m_now m_saved m_aside m_states m_quiet m_thrown m_tried m_best m_touching m_text m_length m_at m_verbs m_told m_commands)
  refine sw_aload_n 0 G dX6_pitch_0 0 rfl ?_
  refine sw_iconst 1 G (0 : Int32) dX6_pitch_1 rfl ?_
  refine sw_put 2 G hnX6 tyX6_ok nmX6 0 5 (wX6 Θ m0 m1 m2 m3 m4 m5 m6 m7 m8 m9 m_now m_saved m_aside m_states m_quiet (0 : Int32) m_tried m_best m_touching m_text m_length m_at m_verbs m_told m_commands) dX6_pitch_2 vc6 (by decide) (List.mem_cons_of_mem _ lk_fb3e5753) rfl rfl (Nat.le_of_ble_eq_true rfl) (tyX6_ok 5 (by decide)) rfl rfl rfl ?_
  refine sw_iload_n 5 G dX6_pitch_5 1 rfl ?_
  refine sw_iconst 6 G (0 : Int32) dX6_pitch_6 rfl ?_
  refine sw_bipush 7 G (7 : Int32) dX6_pitch_7 rfl ?_
  obtain ⟨r1, hg, hf⟩ := bd1_some hf
  refine sw_callS 9 G (wX6 Θ m0 m1 m2 m3 m4 m5 m6 m7 m8 m9 m_now m_saved m_aside m_states m_quiet (0 : Int32) m_tried m_best m_touching m_text m_length m_at m_verbs m_told m_commands) [] [0, 1, 2, 3, 4, 5, 6, 7, 8, 9] [0, 1, 2, 3, 4, 5, 6, 7, 8, 9] 3 dX6_pitch_9 (kX6_in Θ a0 (0 : Int32) (7 : Int32) r1 hg) (gwS lk_739e9842 lk_9ad51b2c lk_59eba9b0 lk_5ad5c33d) rfl hsX6_in ⟨rfl, rfl⟩ ⟨Nat.le_of_ble_eq_true rfl, Nat.le_of_ble_eq_true rfl⟩ ⟨Nat.zero_le _, Nat.zero_le _⟩ rfl rfl (Nat.le_of_ble_eq_true rfl) rfl rfl rfl (by decide) ?_
  refine sw_if_eq 12 33 G dX6_pitch_12 rfl hf (fun hf => ?_) (fun hf => ?_)
  · refine sw_aload_n 33 G dX6_pitch_33 0 rfl ?_
    refine sw_iconst 34 G (1 : Int32) dX6_pitch_34 rfl ?_
    obtain ⟨r2, u3, hg, hf⟩ := bd2_some hf
    refine sw_callV 35 G (wX6 Θ m0 m1 m2 m3 m4 m5 m6 m7 m8 m9 m_now m_saved m_aside m_states m_quiet u3 m_tried m_best m_touching m_text m_length m_at m_verbs m_told m_commands) [0, 1, 2, 3, 4, 5, 6, 7, 8, 9] [] [0, 1, 2, 3, 4, 5, 6, 7, 8, 9] 1 dX6_pitch_35 (kX6_fails Θ m0 m1 m2 m3 m4 m5 m6 m7 m8 m9 m_now m_saved m_aside m_states m_quiet (0 : Int32) m_tried m_best m_touching m_text m_length m_at m_verbs m_told m_commands (1 : Int32) r2 u3 hg) (gwV lk_c7279fda lk_b9e66eaa lk_2152c894 lk_6d91b6d2 lk_f2d2a162) rfl hvX6_fails ⟨rfl, rfl⟩ ⟨Nat.le_of_ble_eq_true rfl, Nat.le_of_ble_eq_true rfl⟩ ⟨Nat.zero_le _, Nat.zero_le _⟩ rfl rfl (Nat.le_of_ble_eq_true rfl) 0 rfl vc6 rfl rfl rfl rfl (by decide) ?_
    cases hf
    exact sw_iret 38 G dX6_pitch_38 K
  · refine sw_iload_n 15 G dX6_pitch_15 2 rfl ?_
    refine sw_iconst 16 G (0 : Int32) dX6_pitch_16 rfl ?_
    refine sw_iconst 17 G (3 : Int32) dX6_pitch_17 rfl ?_
    obtain ⟨r4, hg, hf⟩ := bd1_some hf
    refine sw_callS 18 G (wX6 Θ m0 m1 m2 m3 m4 m5 m6 m7 m8 m9 m_now m_saved m_aside m_states m_quiet (0 : Int32) m_tried m_best m_touching m_text m_length m_at m_verbs m_told m_commands) [] [0, 1, 2, 3, 4, 5, 6, 7, 8, 9] [0, 1, 2, 3, 4, 5, 6, 7, 8, 9] 3 dX6_pitch_18 (kX6_in Θ a1 (0 : Int32) (3 : Int32) r4 hg) (gwS lk_739e9842 lk_9ad51b2c lk_59eba9b0 lk_5ad5c33d) rfl hsX6_in ⟨rfl, rfl⟩ ⟨Nat.le_of_ble_eq_true rfl, Nat.le_of_ble_eq_true rfl⟩ ⟨Nat.zero_le _, Nat.zero_le _⟩ rfl rfl (Nat.le_of_ble_eq_true rfl) rfl rfl rfl (by decide) ?_
    refine sw_if_eq 21 33 G dX6_pitch_21 rfl hf (fun hf => ?_) (fun hf => ?_)
    · refine sw_aload_n 33 G dX6_pitch_33 0 rfl ?_
      refine sw_iconst 34 G (1 : Int32) dX6_pitch_34 rfl ?_
      obtain ⟨r5, u6, hg, hf⟩ := bd2_some hf
      refine sw_callV 35 G (wX6 Θ m0 m1 m2 m3 m4 m5 m6 m7 m8 m9 m_now m_saved m_aside m_states m_quiet u6 m_tried m_best m_touching m_text m_length m_at m_verbs m_told m_commands) [0, 1, 2, 3, 4, 5, 6, 7, 8, 9] [] [0, 1, 2, 3, 4, 5, 6, 7, 8, 9] 1 dX6_pitch_35 (kX6_fails Θ m0 m1 m2 m3 m4 m5 m6 m7 m8 m9 m_now m_saved m_aside m_states m_quiet (0 : Int32) m_tried m_best m_touching m_text m_length m_at m_verbs m_told m_commands (1 : Int32) r5 u6 hg) (gwV lk_c7279fda lk_b9e66eaa lk_2152c894 lk_6d91b6d2 lk_f2d2a162) rfl hvX6_fails ⟨rfl, rfl⟩ ⟨Nat.le_of_ble_eq_true rfl, Nat.le_of_ble_eq_true rfl⟩ ⟨Nat.zero_le _, Nat.zero_le _⟩ rfl rfl (Nat.le_of_ble_eq_true rfl) 0 rfl vc6 rfl rfl rfl rfl (by decide) ?_
      cases hf
      exact sw_iret 38 G dX6_pitch_38 K
    · refine sw_aload_n 24 G dX6_pitch_24 0 rfl ?_
      refine sw_iload_n 25 G dX6_pitch_25 1 rfl ?_
      refine sw_iload_n 26 G dX6_pitch_26 2 rfl ?_
      obtain ⟨r7, hg, hf⟩ := bd1_some hf
      refine sw_callV 27 G (wX6 Θ m0 m1 m2 m3 m4 m5 m6 m7 m8 m9 m_now m_saved m_aside m_states m_quiet (0 : Int32) m_tried m_best m_touching m_text m_length m_at m_verbs m_told m_commands) [0, 1, 2, 3, 4, 5, 6, 7, 8, 9] [] [0, 1, 2, 3, 4, 5, 6, 7, 8, 9] 2 dX6_pitch_27 (kX6_pitchOf Θ F m0 m1 m2 m3 m4 m5 m6 m7 m8 m9 m_now m_saved m_aside m_states m_quiet (0 : Int32) m_tried m_best m_touching m_text m_length m_at m_verbs m_told m_commands a0 a1 r7 hg) (gwV lk_f1a3a070 lk_1eac23ab lk_3a9f4bf8 lk_6d91b6d2 lk_ebd438ce) rfl hvX6_pitchOf ⟨rfl, rfl⟩ ⟨Nat.le_of_ble_eq_true rfl, Nat.le_of_ble_eq_true rfl⟩ ⟨Nat.zero_le _, Nat.zero_le _⟩ rfl rfl (Nat.le_of_ble_eq_true rfl) 0 rfl vc6 rfl rfl rfl rfl (by decide) ?_
      refine sw_goto 30 G 38 dX6_pitch_30 rfl ?_
      cases hf
      exact sw_iret 38 G dX6_pitch_38 K
abbrev rmX6_left : Room := { frames := 1, cells := 0, slots := 0, locals := 22 }
theorem hvX6_left : yX6_left.cls = RX6 ∧ yX6_left.cls ≠ "java/lang/invoke/MethodHandle" ∧ yX6_left.cls ≠ "java/lang/invoke/VarHandle" ∧ (parseMethodDescriptor yX6_left.desc).map (fun d => d.parameters.length) = some 1 := by decide +kernel
set_option maxRecDepth 100000 in
set_option maxHeartbeats 4000000 in
theorem kX6_left (Θ : Tht) (m0 m1 m2 m3 m4 m5 m6 m7 m8 m9 : Nat) (m_now : Nat → Int64) (m_saved : Nat → Int64) (m_aside : Nat → Int64) (m_states : Int32) (m_quiet : Int32) (m_thrown : Int32) (m_tried : Nat → Int32) (m_best : Nat → Int32) (m_touching : Nat → Int32) (m_text : Nat → Int32) (m_length : Int32) (m_at : Int32) (m_verbs : Nat → Int32) (m_told : Nat → Int32) (m_commands : Int32) (a0 : Int32) (ro : Int64) (o_m_thrown : Int32) (hf : fX6_left m_now a0 = some (ro, o_m_thrown)) : Fn Θ yX6_left (Cond.code yX6_left cX6_left 2 (some .long) :: GW) rmX6_left [.ref m0, .int a0] (wX6 Θ m0 m1 m2 m3 m4 m5 m6 m7 m8 m9 m_now m_saved m_aside m_states m_quiet m_thrown m_tried m_best m_touching m_text m_length m_at m_verbs m_told m_commands) (some (.long ro)) (wX6 Θ m0 m1 m2 m3 m4 m5 m6 m7 m8 m9 m_now m_saved m_aside m_states m_quiet o_m_thrown m_tried m_best m_touching m_text m_length m_at m_verbs m_told m_commands) := by
  delta fX6_left at hf
  refine Fn.of (by decide +kernel) rfl (Nat.le_of_ble_eq_true rfl) (fun p e s m args below meth c A Q G K => ?_)
  show sw Θ p e rmX6_left s m args below meth c A Q 2 0 0 0 [(0, .ref m0), (1, .int a0)] [] (wX6 Θ m0 m1 m2 m3 m4 m5 m6 m7 m8 m9 m_now m_saved m_aside m_states m_quiet m_thrown m_tried m_best m_touching m_text m_length m_at m_verbs m_told m_commands)
  refine sw_aload_n 0 G dX6_left_0 0 rfl ?_
  refine sw_iconst 1 G (0 : Int32) dX6_left_1 rfl ?_
  refine sw_put 2 G hnX6 tyX6_ok nmX6 0 5 (wX6 Θ m0 m1 m2 m3 m4 m5 m6 m7 m8 m9 m_now m_saved m_aside m_states m_quiet (0 : Int32) m_tried m_best m_touching m_text m_length m_at m_verbs m_told m_commands) dX6_left_2 vc6 (by decide) (List.mem_cons_of_mem _ lk_fb3e5753) rfl rfl (Nat.le_of_ble_eq_true rfl) (tyX6_ok 5 (by decide)) rfl rfl rfl ?_
  refine sw_iload_n 5 G dX6_left_5 1 rfl ?_
  refine sw_iconst 6 G (0 : Int32) dX6_left_6 rfl ?_
  refine sw_bipush 7 G (7 : Int32) dX6_left_7 rfl ?_
  obtain ⟨r1, hg, hf⟩ := bd1_some hf
  refine sw_callS 9 G (wX6 Θ m0 m1 m2 m3 m4 m5 m6 m7 m8 m9 m_now m_saved m_aside m_states m_quiet (0 : Int32) m_tried m_best m_touching m_text m_length m_at m_verbs m_told m_commands) [] [0, 1, 2, 3, 4, 5, 6, 7, 8, 9] [0, 1, 2, 3, 4, 5, 6, 7, 8, 9] 3 dX6_left_9 (kX6_in Θ a0 (0 : Int32) (7 : Int32) r1 hg) (gwS lk_739e9842 lk_9ad51b2c lk_59eba9b0 lk_5ad5c33d) rfl hsX6_in ⟨rfl, rfl⟩ ⟨Nat.le_of_ble_eq_true rfl, Nat.le_of_ble_eq_true rfl⟩ ⟨Nat.zero_le _, Nat.zero_le _⟩ rfl rfl (Nat.le_of_ble_eq_true rfl) rfl rfl rfl (by decide) ?_
  refine sw_if_eq 12 24 G dX6_left_12 rfl hf (fun hf => ?_) (fun hf => ?_)
  · refine sw_aload_n 24 G dX6_left_24 0 rfl ?_
    refine sw_iconst 25 G (1 : Int32) dX6_left_25 rfl ?_
    obtain ⟨r2, u3, hg, hf⟩ := bd2_some hf
    refine sw_callV 26 G (wX6 Θ m0 m1 m2 m3 m4 m5 m6 m7 m8 m9 m_now m_saved m_aside m_states m_quiet u3 m_tried m_best m_touching m_text m_length m_at m_verbs m_told m_commands) [0, 1, 2, 3, 4, 5, 6, 7, 8, 9] [] [0, 1, 2, 3, 4, 5, 6, 7, 8, 9] 1 dX6_left_26 (kX6_fails Θ m0 m1 m2 m3 m4 m5 m6 m7 m8 m9 m_now m_saved m_aside m_states m_quiet (0 : Int32) m_tried m_best m_touching m_text m_length m_at m_verbs m_told m_commands (1 : Int32) r2 u3 hg) (gwV lk_c7279fda lk_b9e66eaa lk_2152c894 lk_6d91b6d2 lk_f2d2a162) rfl hvX6_fails ⟨rfl, rfl⟩ ⟨Nat.le_of_ble_eq_true rfl, Nat.le_of_ble_eq_true rfl⟩ ⟨Nat.zero_le _, Nat.zero_le _⟩ rfl rfl (Nat.le_of_ble_eq_true rfl) 0 rfl vc6 rfl rfl rfl rfl (by decide) ?_
    refine sw_i2l 29 G dX6_left_29 ?_
    cases hf
    exact sw_lret 30 G dX6_left_30 K
  · refine sw_aload_n 15 G dX6_left_15 0 rfl ?_
    refine sw_iload_n 16 G dX6_left_16 1 rfl ?_
    refine sw_iconst 17 G (1 : Int32) dX6_left_17 rfl ?_
    obtain ⟨r4, hg, hf⟩ := bd1_some hf
    refine sw_callV 18 G (wX6 Θ m0 m1 m2 m3 m4 m5 m6 m7 m8 m9 m_now m_saved m_aside m_states m_quiet (0 : Int32) m_tried m_best m_touching m_text m_length m_at m_verbs m_told m_commands) [0, 1, 2, 3, 4, 5, 6, 7, 8, 9] [] [0, 1, 2, 3, 4, 5, 6, 7, 8, 9] 2 dX6_left_18 (kX6_ofPitch Θ m0 m1 m2 m3 m4 m5 m6 m7 m8 m9 m_now m_saved m_aside m_states m_quiet (0 : Int32) m_tried m_best m_touching m_text m_length m_at m_verbs m_told m_commands a0 (1 : Int32) r4 hg) (gwV lk_a40543c5 lk_e7c4f238 lk_d53ce5a7 lk_6d91b6d2 lk_df8fdb45) rfl hvX6_ofPitch ⟨rfl, rfl⟩ ⟨Nat.le_of_ble_eq_true rfl, Nat.le_of_ble_eq_true rfl⟩ ⟨Nat.zero_le _, Nat.zero_le _⟩ rfl rfl (Nat.le_of_ble_eq_true rfl) 0 rfl vc6 rfl rfl rfl rfl (by decide) ?_
    refine sw_goto 21 G 30 dX6_left_21 rfl ?_
    cases hf
    exact sw_lret 30 G dX6_left_30 K
