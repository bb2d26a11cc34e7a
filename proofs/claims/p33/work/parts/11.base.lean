abbrev rmX5_copyInts : Room := { frames := 0, cells := 0, slots := 0, locals := 0 }
theorem hsX5_copyInts : yX5_copyInts.cls ≠ "java/lang/invoke/MethodHandle" ∧ yX5_copyInts.cls ≠ "java/lang/invoke/VarHandle" ∧ (parseMethodDescriptor yX5_copyInts.desc).map (fun d => d.parameters.length) = some 2 := by decide +kernel
set_option maxRecDepth 100000 in
set_option maxHeartbeats 4000000 in
theorem kX5_copyInts (Θ : Tht) (F : Nat) (r00 r10 : Nat) (r0_len : Nat) (r1_len : Nat) (r0_row : Nat → Int32) (r1_row : Nat → Int32) (o_r1_row : Nat → Int32) (hf : fX5_copyInts F r0_len r1_len r0_row r1_row = some o_r1_row) : Fn Θ yX5_copyInts (Cond.code yX5_copyInts cX5_copyInts 3 none :: GW) rmX5_copyInts [.ref r00, .ref r10] ([(r00, .inl (Θ.2.2 1, r0_len, .inl r0_row))] ++ [(r10, .inl (Θ.2.2 1, r1_len, .inl r1_row))]) none ([(r00, .inl (Θ.2.2 1, r0_len, .inl r0_row))] ++ [(r10, .inl (Θ.2.2 1, r1_len, .inl o_r1_row))]) := by
  delta fX5_copyInts at hf
  refine Fn.of (by decide +kernel) rfl (Nat.le_of_ble_eq_true rfl) (fun p e s m args below meth c A Q G K => ?_)
  show sw Θ p e rmX5_copyInts s m args below meth c A Q 3 0 0 0 [(0, .ref r00), (1, .ref r10)] [] ([(r00, .inl (Θ.2.2 1, r0_len, .inl r0_row))] ++ [(r10, .inl (Θ.2.2 1, r1_len, .inl r1_row))])
  refine sw_iconst 0 G (0 : Int32) dX5_copyInts_0 rfl ?_
  refine sw_istore_n 1 G [(2, .int (0 : Int32)), (0, .ref r00), (1, .ref r10)] dX5_copyInts_1 (by decide) rfl ?_
  obtain ⟨v1, hl, hf⟩ := bd1_some hf
  have hx2_26 : sw Θ p e rmX5_copyInts s m args below meth c A Q 3 0 0 26 [] [] ([(r00, .inl (Θ.2.2 1, r0_len, .inl r0_row))] ++ [(r10, .inl (Θ.2.2 1, r1_len, .inl v1))]) := by
    cases hf
    exact sw_vret 26 G dX5_copyInts_26 K
  refine sw_lv [(0, .ref r00), (1, .ref r10), (2, .int (0 : Int32))] [1, 2, 0] rfl ?_
  refine lp_walk (P := fun (t : Int32 × (Nat → Int32)) => sw Θ p e rmX5_copyInts s m args below meth c A Q 3 0 0 2 [(0, .ref r00), (1, .ref r10), (2, .int t.1)] [] ([(r00, .inl (Θ.2.2 1, r0_len, .inl r0_row))] ++ [(r10, .inl (Θ.2.2 1, r1_len, .inl t.2))])) hl (fun t2 y2 hf hin2 hex2 => ?_)
  obtain ⟨v2, v3⟩ := t2
  show sw Θ p e rmX5_copyInts s m args below meth c A Q 3 0 0 2 [(0, .ref r00), (1, .ref r10), (2, .int v2)] [] ([(r00, .inl (Θ.2.2 1, r0_len, .inl r0_row))] ++ [(r10, .inl (Θ.2.2 1, r1_len, .inl v3))])
  have hf := uc2_some (K := _) hf
  refine sw_iload_n 2 G dX5_copyInts_2 2 rfl ?_
  refine sw_aload_n 3 G dX5_copyInts_3 0 rfl ?_
  refine sw_alen 4 G 0 1 (Int32.ofNat r0_len) dX5_copyInts_4 rfl rfl rfl ?_
  refine sw_icmp_ge 5 26 G dX5_copyInts_5 rfl hf (fun hf => ?_) (fun hf => ?_)
  · cases hf
    cases hex2 _ rfl
    exact sw_lv _ [] rfl hx2_26
  · refine sw_iload_n 8 G dX5_copyInts_8 2 rfl ?_
    refine sw_aload_n 9 G dX5_copyInts_9 1 rfl ?_
    refine sw_alen 10 G 1 1 (Int32.ofNat r1_len) dX5_copyInts_10 rfl rfl rfl ?_
    refine sw_icmp_ge 11 26 G dX5_copyInts_11 rfl hf (fun hf => ?_) (fun hf => ?_)
    · cases hf
      cases hex2 _ rfl
      exact sw_lv _ [] rfl hx2_26
    · refine sw_aload_n 14 G dX5_copyInts_14 1 rfl ?_
      refine sw_iload_n 15 G dX5_copyInts_15 2 rfl ?_
      refine sw_aload_n 16 G dX5_copyInts_16 0 rfl ?_
      refine sw_iload_n 17 G dX5_copyInts_17 2 rfl ?_
      refine sw_iald 18 G 0 dX5_copyInts_18 rfl hf (fun hf => ?_)
      refine sw_nmi hf (fun v4 hf => ?_)
      refine sw_iast 19 G 1 ([(r00, .inl (Θ.2.2 1, r0_len, .inl r0_row))] ++ [(r10, .inl (Θ.2.2 1, r1_len, .inl (upd v3 v2.toNatClampNeg v4)))]) dX5_copyInts_19 rfl rfl hf (fun hf => ?_)
      refine sw_iinc 20 G (v2 + (1 : Int32)) [(2, .int (v2 + (1 : Int32))), (0, .ref r00), (1, .ref r10)] dX5_copyInts_20 2 rfl rfl (by decide) rfl ?_
      refine sw_goto 23 G 2 dX5_copyInts_23 rfl ?_
      cases hf
      have hb := hin2 _ rfl
      exact sw_lv _ [1, 2, 0] (by rfl) hb
abbrev rmX5_copyLongs : Room := { frames := 0, cells := 0, slots := 0, locals := 0 }
theorem hsX5_copyLongs : yX5_copyLongs.cls ≠ "java/lang/invoke/MethodHandle" ∧ yX5_copyLongs.cls ≠ "java/lang/invoke/VarHandle" ∧ (parseMethodDescriptor yX5_copyLongs.desc).map (fun d => d.parameters.length) = some 2 := by decide +kernel
set_option maxRecDepth 100000 in
set_option maxHeartbeats 4000000 in
theorem kX5_copyLongs (Θ : Tht) (F : Nat) (r00 r10 : Nat) (r0_len : Nat) (r1_len : Nat) (r0_row : Nat → Int64) (r1_row : Nat → Int64) (o_r1_row : Nat → Int64) (hf : fX5_copyLongs F r0_len r1_len r0_row r1_row = some o_r1_row) : Fn Θ yX5_copyLongs (Cond.code yX5_copyLongs cX5_copyLongs 3 none :: GW) rmX5_copyLongs [.ref r00, .ref r10] ([(r00, .inl (Θ.2.2 2, r0_len, .inr (.inl r0_row)))] ++ [(r10, .inl (Θ.2.2 2, r1_len, .inr (.inl r1_row)))]) none ([(r00, .inl (Θ.2.2 2, r0_len, .inr (.inl r0_row)))] ++ [(r10, .inl (Θ.2.2 2, r1_len, .inr (.inl o_r1_row)))]) := by
  delta fX5_copyLongs at hf
  refine Fn.of (by decide +kernel) rfl (Nat.le_of_ble_eq_true rfl) (fun p e s m args below meth c A Q G K => ?_)
  show sw Θ p e rmX5_copyLongs s m args below meth c A Q 3 0 0 0 [(0, .ref r00), (1, .ref r10)] [] ([(r00, .inl (Θ.2.2 2, r0_len, .inr (.inl r0_row)))] ++ [(r10, .inl (Θ.2.2 2, r1_len, .inr (.inl r1_row)))])
  refine sw_iconst 0 G (0 : Int32) dX5_copyLongs_0 rfl ?_
  refine sw_istore_n 1 G [(2, .int (0 : Int32)), (0, .ref r00), (1, .ref r10)] dX5_copyLongs_1 (by decide) rfl ?_
  obtain ⟨v1, hl, hf⟩ := bd1_some hf
  have hx2_26 : sw Θ p e rmX5_copyLongs s m args below meth c A Q 3 0 0 26 [] [] ([(r00, .inl (Θ.2.2 2, r0_len, .inr (.inl r0_row)))] ++ [(r10, .inl (Θ.2.2 2, r1_len, .inr (.inl v1)))]) := by
    cases hf
    exact sw_vret 26 G dX5_copyLongs_26 K
  refine sw_lv [(0, .ref r00), (1, .ref r10), (2, .int (0 : Int32))] [1, 2, 0] rfl ?_
  refine lp_walk (P := fun (t : Int32 × (Nat → Int64)) => sw Θ p e rmX5_copyLongs s m args below meth c A Q 3 0 0 2 [(0, .ref r00), (1, .ref r10), (2, .int t.1)] [] ([(r00, .inl (Θ.2.2 2, r0_len, .inr (.inl r0_row)))] ++ [(r10, .inl (Θ.2.2 2, r1_len, .inr (.inl t.2)))])) hl (fun t2 y2 hf hin2 hex2 => ?_)
  obtain ⟨v2, v3⟩ := t2
  show sw Θ p e rmX5_copyLongs s m args below meth c A Q 3 0 0 2 [(0, .ref r00), (1, .ref r10), (2, .int v2)] [] ([(r00, .inl (Θ.2.2 2, r0_len, .inr (.inl r0_row)))] ++ [(r10, .inl (Θ.2.2 2, r1_len, .inr (.inl v3)))])
  have hf := uc2_some (K := _) hf
  refine sw_iload_n 2 G dX5_copyLongs_2 2 rfl ?_
  refine sw_aload_n 3 G dX5_copyLongs_3 0 rfl ?_
  refine sw_alen 4 G 0 2 (Int32.ofNat r0_len) dX5_copyLongs_4 rfl rfl rfl ?_
  refine sw_icmp_ge 5 26 G dX5_copyLongs_5 rfl hf (fun hf => ?_) (fun hf => ?_)
  · cases hf
    cases hex2 _ rfl
    exact sw_lv _ [] rfl hx2_26
  · refine sw_iload_n 8 G dX5_copyLongs_8 2 rfl ?_
    refine sw_aload_n 9 G dX5_copyLongs_9 1 rfl ?_
    refine sw_alen 10 G 1 2 (Int32.ofNat r1_len) dX5_copyLongs_10 rfl rfl rfl ?_
    refine sw_icmp_ge 11 26 G dX5_copyLongs_11 rfl hf (fun hf => ?_) (fun hf => ?_)
    · cases hf
      cases hex2 _ rfl
      exact sw_lv _ [] rfl hx2_26
    · refine sw_aload_n 14 G dX5_copyLongs_14 1 rfl ?_
      refine sw_iload_n 15 G dX5_copyLongs_15 2 rfl ?_
      refine sw_aload_n 16 G dX5_copyLongs_16 0 rfl ?_
      refine sw_iload_n 17 G dX5_copyLongs_17 2 rfl ?_
      refine sw_lald 18 G 0 dX5_copyLongs_18 rfl hf (fun hf => ?_)
      refine sw_nml hf (fun v4 hf => ?_)
      refine sw_last 19 G 1 ([(r00, .inl (Θ.2.2 2, r0_len, .inr (.inl r0_row)))] ++ [(r10, .inl (Θ.2.2 2, r1_len, .inr (.inl (vp_updL v3 v2.toNatClampNeg v4))))]) dX5_copyLongs_19 rfl rfl hf (fun hf => ?_)
      refine sw_iinc 20 G (v2 + (1 : Int32)) [(2, .int (v2 + (1 : Int32))), (0, .ref r00), (1, .ref r10)] dX5_copyLongs_20 2 rfl rfl (by decide) rfl ?_
      refine sw_goto 23 G 2 dX5_copyLongs_23 rfl ?_
      cases hf
      have hb := hin2 _ rfl
      exact sw_lv _ [1, 2, 0] (by rfl) hb
abbrev rmX5_isIn : Room := { frames := 0, cells := 0, slots := 0, locals := 0 }
theorem hsX5_isIn : yX5_isIn.cls ≠ "java/lang/invoke/MethodHandle" ∧ yX5_isIn.cls ≠ "java/lang/invoke/VarHandle" ∧ (parseMethodDescriptor yX5_isIn.desc).map (fun d => d.parameters.length) = some 2 := by decide +kernel
set_option maxRecDepth 100000 in
set_option maxHeartbeats 4000000 in
theorem kX5_isIn (Θ : Tht) (a0 : Int32) (a1 : Int32) (ro : Int32) (hf : fX5_isIn a0 a1 = some ro) : Fn Θ yX5_isIn (Cond.code yX5_isIn cX5_isIn 2 (some .boolean) :: GW) rmX5_isIn [.int a0, .int a1] ([]) (some (.int ro)) ([]) := by
  delta fX5_isIn at hf
  refine Fn.of (by decide +kernel) rfl (Nat.le_of_ble_eq_true rfl) (fun p e s m args below meth c A Q G K => ?_)
  show sw Θ p e rmX5_isIn s m args below meth c A Q 2 0 0 0 [(0, .int a0), (1, .int a1)] [] ([])
  refine sw_iload_n 0 G dX5_isIn_0 0 rfl ?_
  refine sw_iload_n 1 G dX5_isIn_1 1 rfl ?_
  refine sw_ishr 2 G dX5_isIn_2 ?_
  refine sw_iconst 3 G (1 : Int32) dX5_isIn_3 rfl ?_
  refine sw_iand 4 G dX5_isIn_4 ?_
  refine sw_if_eq 5 12 G dX5_isIn_5 rfl hf (fun hf => ?_) (fun hf => ?_)
  · refine sw_iconst 12 G (0 : Int32) dX5_isIn_12 rfl ?_
    cases hf
    exact sw_zret 13 G dX5_isIn_13 K rfl
  · refine sw_iconst 8 G (1 : Int32) dX5_isIn_8 rfl ?_
    refine sw_goto 9 G 13 dX5_isIn_9 rfl ?_
    cases hf
    exact sw_zret 13 G dX5_isIn_13 K rfl
abbrev rmJ13_bitCount_95d88 : Room := { frames := 0, cells := 0, slots := 0, locals := 0 }
theorem hsJ13_bitCount_95d88 : yJ13_bitCount_95d88.cls ≠ "java/lang/invoke/MethodHandle" ∧ yJ13_bitCount_95d88.cls ≠ "java/lang/invoke/VarHandle" ∧ (parseMethodDescriptor yJ13_bitCount_95d88.desc).map (fun d => d.parameters.length) = some 1 := by decide +kernel
set_option maxRecDepth 100000 in
set_option maxHeartbeats 4000000 in
theorem kJ13_bitCount_95d88 (Θ : Tht) (a0 : Int64) (ro : Int32) (hf : fJ13_bitCount_95d88 a0 = some ro) : Fn Θ yJ13_bitCount_95d88 (Cond.code yJ13_bitCount_95d88 cJ13_bitCount_95d88 2 (some .int) :: GW) rmJ13_bitCount_95d88 [.long a0] ([]) (some (.int ro)) ([]) := by
  delta fJ13_bitCount_95d88 at hf
  refine Fn.of (by decide +kernel) rfl (Nat.le_of_ble_eq_true rfl) (fun p e s m args below meth c A Q G K => ?_)
  show sw Θ p e rmJ13_bitCount_95d88 s m args below meth c A Q 2 0 0 0 [(0, .long a0)] [] ([])
  refine sw_lload_n 0 G dJ13_bitCount_95d88_0 0 rfl ?_
  refine sw_lload_n 1 G dJ13_bitCount_95d88_1 0 rfl ?_
  refine sw_iconst 2 G (1 : Int32) dJ13_bitCount_95d88_2 rfl ?_
  refine sw_lushr 3 G dJ13_bitCount_95d88_3 ?_
  refine sw_ldc2 4 G (List.mem_cons_of_mem _ lk_e18864b1) dJ13_bitCount_95d88_4 ?_
  refine sw_land 7 G dJ13_bitCount_95d88_7 ?_
  refine sw_lsub 8 G dJ13_bitCount_95d88_8 ?_
  refine sw_nml hf (fun v1 hf => ?_)
  refine sw_lstore_n 9 G [(0, .long v1)] dJ13_bitCount_95d88_9 (by decide) rfl ?_
  refine sw_lload_n 10 G dJ13_bitCount_95d88_10 0 rfl ?_
  refine sw_ldc2 11 G (List.mem_cons_of_mem _ lk_9c3f97a8) dJ13_bitCount_95d88_11 ?_
  refine sw_land 14 G dJ13_bitCount_95d88_14 ?_
  refine sw_lload_n 15 G dJ13_bitCount_95d88_15 0 rfl ?_
  refine sw_iconst 16 G (2 : Int32) dJ13_bitCount_95d88_16 rfl ?_
  refine sw_lushr 17 G dJ13_bitCount_95d88_17 ?_
  refine sw_ldc2 18 G (List.mem_cons_of_mem _ lk_9c3f97a8) dJ13_bitCount_95d88_18 ?_
  refine sw_land 21 G dJ13_bitCount_95d88_21 ?_
  refine sw_ladd 22 G dJ13_bitCount_95d88_22 ?_
  refine sw_nml hf (fun v2 hf => ?_)
  refine sw_lstore_n 23 G [(0, .long v2)] dJ13_bitCount_95d88_23 (by decide) rfl ?_
  refine sw_lload_n 24 G dJ13_bitCount_95d88_24 0 rfl ?_
  refine sw_lload_n 25 G dJ13_bitCount_95d88_25 0 rfl ?_
  refine sw_iconst 26 G (4 : Int32) dJ13_bitCount_95d88_26 rfl ?_
  refine sw_lushr 27 G dJ13_bitCount_95d88_27 ?_
  refine sw_ladd 28 G dJ13_bitCount_95d88_28 ?_
  refine sw_ldc2 29 G (List.mem_cons_of_mem _ lk_edb8687a) dJ13_bitCount_95d88_29 ?_
  refine sw_land 32 G dJ13_bitCount_95d88_32 ?_
  refine sw_nml hf (fun v3 hf => ?_)
  refine sw_lstore_n 33 G [(0, .long v3)] dJ13_bitCount_95d88_33 (by decide) rfl ?_
  refine sw_lload_n 34 G dJ13_bitCount_95d88_34 0 rfl ?_
  refine sw_lload_n 35 G dJ13_bitCount_95d88_35 0 rfl ?_
  refine sw_bipush 36 G (8 : Int32) dJ13_bitCount_95d88_36 rfl ?_
  refine sw_lushr 38 G dJ13_bitCount_95d88_38 ?_
  refine sw_ladd 39 G dJ13_bitCount_95d88_39 ?_
  refine sw_nml hf (fun v4 hf => ?_)
  refine sw_lstore_n 40 G [(0, .long v4)] dJ13_bitCount_95d88_40 (by decide) rfl ?_
  refine sw_lload_n 41 G dJ13_bitCount_95d88_41 0 rfl ?_
  refine sw_lload_n 42 G dJ13_bitCount_95d88_42 0 rfl ?_
  refine sw_bipush 43 G (16 : Int32) dJ13_bitCount_95d88_43 rfl ?_
  refine sw_lushr 45 G dJ13_bitCount_95d88_45 ?_
  refine sw_ladd 46 G dJ13_bitCount_95d88_46 ?_
  refine sw_nml hf (fun v5 hf => ?_)
  refine sw_lstore_n 47 G [(0, .long v5)] dJ13_bitCount_95d88_47 (by decide) rfl ?_
  refine sw_lload_n 48 G dJ13_bitCount_95d88_48 0 rfl ?_
  refine sw_lload_n 49 G dJ13_bitCount_95d88_49 0 rfl ?_
  refine sw_bipush 50 G (32 : Int32) dJ13_bitCount_95d88_50 rfl ?_
  refine sw_lushr 52 G dJ13_bitCount_95d88_52 ?_
  refine sw_ladd 53 G dJ13_bitCount_95d88_53 ?_
  refine sw_nml hf (fun v6 hf => ?_)
  refine sw_lstore_n 54 G [(0, .long v6)] dJ13_bitCount_95d88_54 (by decide) rfl ?_
  refine sw_lload_n 55 G dJ13_bitCount_95d88_55 0 rfl ?_
  refine sw_l2i 56 G dJ13_bitCount_95d88_56 ?_
  refine sw_bipush 57 G (127 : Int32) dJ13_bitCount_95d88_57 rfl ?_
  refine sw_iand 59 G dJ13_bitCount_95d88_59 ?_
  cases hf
  exact sw_iret 60 G dJ13_bitCount_95d88_60 K
abbrev rmJ6_bitCount_0f7a4 : Room := { frames := 0, cells := 0, slots := 0, locals := 0 }
theorem hsJ6_bitCount_0f7a4 : yJ6_bitCount_0f7a4.cls ≠ "java/lang/invoke/MethodHandle" ∧ yJ6_bitCount_0f7a4.cls ≠ "java/lang/invoke/VarHandle" ∧ (parseMethodDescriptor yJ6_bitCount_0f7a4.desc).map (fun d => d.parameters.length) = some 1 := by decide +kernel
set_option maxRecDepth 100000 in
set_option maxHeartbeats 4000000 in
theorem kJ6_bitCount_0f7a4 (Θ : Tht) (a0 : Int32) (ro : Int32) (hf : fJ6_bitCount_0f7a4 a0 = some ro) : Fn Θ yJ6_bitCount_0f7a4 (Cond.code yJ6_bitCount_0f7a4 cJ6_bitCount_0f7a4 1 (some .int) :: GW) rmJ6_bitCount_0f7a4 [.int a0] ([]) (some (.int ro)) ([]) := by
  delta fJ6_bitCount_0f7a4 at hf
  refine Fn.of (by decide +kernel) rfl (Nat.le_of_ble_eq_true rfl) (fun p e s m args below meth c A Q G K => ?_)
  show sw Θ p e rmJ6_bitCount_0f7a4 s m args below meth c A Q 1 0 0 0 [(0, .int a0)] [] ([])
  refine sw_iload_n 0 G dJ6_bitCount_0f7a4_0 0 rfl ?_
  refine sw_iload_n 1 G dJ6_bitCount_0f7a4_1 0 rfl ?_
  refine sw_iconst 2 G (1 : Int32) dJ6_bitCount_0f7a4_2 rfl ?_
  refine sw_iushr 3 G dJ6_bitCount_0f7a4_3 ?_
  refine sw_ldcw 4 G (List.mem_cons_of_mem _ lk_72a37177) dJ6_bitCount_0f7a4_4 ?_
  refine sw_iand 7 G dJ6_bitCount_0f7a4_7 ?_
  refine sw_isub 8 G dJ6_bitCount_0f7a4_8 ?_
  refine sw_nmi hf (fun v1 hf => ?_)
  refine sw_istore_n 9 G [(0, .int v1)] dJ6_bitCount_0f7a4_9 (by decide) rfl ?_
  refine sw_iload_n 10 G dJ6_bitCount_0f7a4_10 0 rfl ?_
  refine sw_ldcw 11 G (List.mem_cons_of_mem _ lk_09cd821e) dJ6_bitCount_0f7a4_11 ?_
  refine sw_iand 14 G dJ6_bitCount_0f7a4_14 ?_
  refine sw_iload_n 15 G dJ6_bitCount_0f7a4_15 0 rfl ?_
  refine sw_iconst 16 G (2 : Int32) dJ6_bitCount_0f7a4_16 rfl ?_
  refine sw_iushr 17 G dJ6_bitCount_0f7a4_17 ?_
  refine sw_ldcw 18 G (List.mem_cons_of_mem _ lk_09cd821e) dJ6_bitCount_0f7a4_18 ?_
  refine sw_iand 21 G dJ6_bitCount_0f7a4_21 ?_
  refine sw_iadd 22 G dJ6_bitCount_0f7a4_22 ?_
  refine sw_nmi hf (fun v2 hf => ?_)
  refine sw_istore_n 23 G [(0, .int v2)] dJ6_bitCount_0f7a4_23 (by decide) rfl ?_
  refine sw_iload_n 24 G dJ6_bitCount_0f7a4_24 0 rfl ?_
  refine sw_iload_n 25 G dJ6_bitCount_0f7a4_25 0 rfl ?_
  refine sw_iconst 26 G (4 : Int32) dJ6_bitCount_0f7a4_26 rfl ?_
  refine sw_iushr 27 G dJ6_bitCount_0f7a4_27 ?_
  refine sw_iadd 28 G dJ6_bitCount_0f7a4_28 ?_
  refine sw_ldcw 29 G (List.mem_cons_of_mem _ lk_412cf73e) dJ6_bitCount_0f7a4_29 ?_
  refine sw_iand 32 G dJ6_bitCount_0f7a4_32 ?_
  refine sw_nmi hf (fun v3 hf => ?_)
  refine sw_istore_n 33 G [(0, .int v3)] dJ6_bitCount_0f7a4_33 (by decide) rfl ?_
  refine sw_iload_n 34 G dJ6_bitCount_0f7a4_34 0 rfl ?_
  refine sw_iload_n 35 G dJ6_bitCount_0f7a4_35 0 rfl ?_
  refine sw_bipush 36 G (8 : Int32) dJ6_bitCount_0f7a4_36 rfl ?_
  refine sw_iushr 38 G dJ6_bitCount_0f7a4_38 ?_
  refine sw_iadd 39 G dJ6_bitCount_0f7a4_39 ?_
  refine sw_nmi hf (fun v4 hf => ?_)
  refine sw_istore_n 40 G [(0, .int v4)] dJ6_bitCount_0f7a4_40 (by decide) rfl ?_
  refine sw_iload_n 41 G dJ6_bitCount_0f7a4_41 0 rfl ?_
  refine sw_iload_n 42 G dJ6_bitCount_0f7a4_42 0 rfl ?_
  refine sw_bipush 43 G (16 : Int32) dJ6_bitCount_0f7a4_43 rfl ?_
  refine sw_iushr 45 G dJ6_bitCount_0f7a4_45 ?_
  refine sw_iadd 46 G dJ6_bitCount_0f7a4_46 ?_
  refine sw_nmi hf (fun v5 hf => ?_)
  refine sw_istore_n 47 G [(0, .int v5)] dJ6_bitCount_0f7a4_47 (by decide) rfl ?_
  refine sw_iload_n 48 G dJ6_bitCount_0f7a4_48 0 rfl ?_
  refine sw_bipush 49 G (63 : Int32) dJ6_bitCount_0f7a4_49 rfl ?_
  refine sw_iand 51 G dJ6_bitCount_0f7a4_51 ?_
  cases hf
  exact sw_iret 52 G dJ6_bitCount_0f7a4_52 K
abbrev rmX5_isPitchSize : Room := { frames := 0, cells := 0, slots := 0, locals := 0 }
theorem hsX5_isPitchSize : yX5_isPitchSize.cls ≠ "java/lang/invoke/MethodHandle" ∧ yX5_isPitchSize.cls ≠ "java/lang/invoke/VarHandle" ∧ (parseMethodDescriptor yX5_isPitchSize.desc).map (fun d => d.parameters.length) = some 2 := by decide +kernel
set_option maxRecDepth 100000 in
set_option maxHeartbeats 4000000 in
theorem kX5_isPitchSize (Θ : Tht) (a0 : Int32) (a1 : Int32) (ro : Int32) (hf : fX5_isPitchSize a0 a1 = some ro) : Fn Θ yX5_isPitchSize (Cond.code yX5_isPitchSize cX5_isPitchSize 2 (some .boolean) :: GW) rmX5_isPitchSize [.int a0, .int a1] ([]) (some (.int ro)) ([]) := by
  delta fX5_isPitchSize at hf
  refine Fn.of (by decide +kernel) rfl (Nat.le_of_ble_eq_true rfl) (fun p e s m args below meth c A Q G K => ?_)
  show sw Θ p e rmX5_isPitchSize s m args below meth c A Q 2 0 0 0 [(0, .int a0), (1, .int a1)] [] ([])
  refine sw_iload_n 0 G dX5_isPitchSize_0 0 rfl ?_
  refine sw_iconst 1 G (2 : Int32) dX5_isPitchSize_1 rfl ?_
  refine sw_icmp_lt 2 26 G dX5_isPitchSize_2 rfl hf (fun hf => ?_) (fun hf => ?_)
  · refine sw_iconst 26 G (0 : Int32) dX5_isPitchSize_26 rfl ?_
    cases hf
    exact sw_zret 27 G dX5_isPitchSize_27 K rfl
  · refine sw_iload_n 5 G dX5_isPitchSize_5 0 rfl ?_
    refine sw_bipush 6 G (10 : Int32) dX5_isPitchSize_6 rfl ?_
    refine sw_icmp_gt 8 26 G dX5_isPitchSize_8 rfl hf (fun hf => ?_) (fun hf => ?_)
    · refine sw_iconst 26 G (0 : Int32) dX5_isPitchSize_26 rfl ?_
      cases hf
      exact sw_zret 27 G dX5_isPitchSize_27 K rfl
    · refine sw_iload_n 11 G dX5_isPitchSize_11 1 rfl ?_
      refine sw_iconst 12 G (2 : Int32) dX5_isPitchSize_12 rfl ?_
      refine sw_icmp_lt 13 26 G dX5_isPitchSize_13 rfl hf (fun hf => ?_) (fun hf => ?_)
      · refine sw_iconst 26 G (0 : Int32) dX5_isPitchSize_26 rfl ?_
        cases hf
        exact sw_zret 27 G dX5_isPitchSize_27 K rfl
      · refine sw_iload_n 16 G dX5_isPitchSize_16 1 rfl ?_
        refine sw_bipush 17 G (6 : Int32) dX5_isPitchSize_17 rfl ?_
        refine sw_icmp_gt 19 26 G dX5_isPitchSize_19 rfl hf (fun hf => ?_) (fun hf => ?_)
        · refine sw_iconst 26 G (0 : Int32) dX5_isPitchSize_26 rfl ?_
          cases hf
          exact sw_zret 27 G dX5_isPitchSize_27 K rfl
        · refine sw_iconst 22 G (1 : Int32) dX5_isPitchSize_22 rfl ?_
          refine sw_goto 23 G 27 dX5_isPitchSize_23 rfl ?_
          cases hf
          exact sw_zret 27 G dX5_isPitchSize_27 K rfl
abbrev rmX5_isSettingValue : Room := { frames := 0, cells := 0, slots := 0, locals := 0 }
theorem hsX5_isSettingValue : yX5_isSettingValue.cls ≠ "java/lang/invoke/MethodHandle" ∧ yX5_isSettingValue.cls ≠ "java/lang/invoke/VarHandle" ∧ (parseMethodDescriptor yX5_isSettingValue.desc).map (fun d => d.parameters.length) = some 2 := by decide +kernel
set_option maxRecDepth 100000 in
set_option maxHeartbeats 4000000 in
theorem kX5_isSettingValue (Θ : Tht) (a0 : Int32) (a1 : Int32) (ro : Int32) (hf : fX5_isSettingValue a0 a1 = some ro) : Fn Θ yX5_isSettingValue (Cond.code yX5_isSettingValue cX5_isSettingValue 2 (some .boolean) :: GW) rmX5_isSettingValue [.int a0, .int a1] ([]) (some (.int ro)) ([]) := by
  delta fX5_isSettingValue at hf
  refine Fn.of (by decide +kernel) rfl (Nat.le_of_ble_eq_true rfl) (fun p e s m args below meth c A Q G K => ?_)
  show sw Θ p e rmX5_isSettingValue s m args below meth c A Q 2 0 0 0 [(0, .int a0), (1, .int a1)] [] ([])
  refine sw_iload_n 0 G dX5_isSettingValue_0 0 rfl ?_
  refine sw_tsw 1 101 G dX5_isSettingValue_1 rfl hf (fun hf => ?_) (fun j hj hf => ?_)
  · refine sw_iconst 101 G (0 : Int32) dX5_isSettingValue_101 rfl ?_
    cases hf
    exact sw_zret 102 G dX5_isSettingValue_102 K rfl
  · rcases (show j = 0 ∨ j = 1 ∨ j = 2 ∨ j = 3 ∨ j = 4 by omega) with rfl | rfl | rfl | rfl | rfl
    · refine ⟨35, 36, rfl, rfl, ?_⟩
      have hf := tc_0 hf
      refine sw_iload_n 36 G dX5_isSettingValue_36 1 rfl ?_
      refine sw_iconst 37 G (1 : Int32) dX5_isSettingValue_37 rfl ?_
      refine sw_icmp_lt 38 52 G dX5_isSettingValue_38 rfl hf (fun hf => ?_) (fun hf => ?_)
      · refine sw_iconst 52 G (0 : Int32) dX5_isSettingValue_52 rfl ?_
        cases hf
        exact sw_zret 53 G dX5_isSettingValue_53 K rfl
      · refine sw_iload_n 41 G dX5_isSettingValue_41 1 rfl ?_
        refine sw_sipush 42 G (999 : Int32) dX5_isSettingValue_42 rfl ?_
        refine sw_icmp_gt 45 52 G dX5_isSettingValue_45 rfl hf (fun hf => ?_) (fun hf => ?_)
        · refine sw_iconst 52 G (0 : Int32) dX5_isSettingValue_52 rfl ?_
          cases hf
          exact sw_zret 53 G dX5_isSettingValue_53 K rfl
        · refine sw_iconst 48 G (1 : Int32) dX5_isSettingValue_48 rfl ?_
          refine sw_goto 49 G 53 dX5_isSettingValue_49 rfl ?_
          cases hf
          exact sw_zret 53 G dX5_isSettingValue_53 K rfl
    · refine ⟨53, 54, rfl, rfl, ?_⟩
      have hf := tc_1 hf
      refine sw_iload_n 54 G dX5_isSettingValue_54 1 rfl ?_
      refine sw_if_lt 55 67 G dX5_isSettingValue_55 rfl hf (fun hf => ?_) (fun hf => ?_)
      · refine sw_iconst 67 G (0 : Int32) dX5_isSettingValue_67 rfl ?_
        cases hf
        exact sw_zret 68 G dX5_isSettingValue_68 K rfl
      · refine sw_iload_n 58 G dX5_isSettingValue_58 1 rfl ?_
        refine sw_iconst 59 G (3 : Int32) dX5_isSettingValue_59 rfl ?_
        refine sw_icmp_gt 60 67 G dX5_isSettingValue_60 rfl hf (fun hf => ?_) (fun hf => ?_)
        · refine sw_iconst 67 G (0 : Int32) dX5_isSettingValue_67 rfl ?_
          cases hf
          exact sw_zret 68 G dX5_isSettingValue_68 K rfl
        · refine sw_iconst 63 G (1 : Int32) dX5_isSettingValue_63 rfl ?_
          refine sw_goto 64 G 68 dX5_isSettingValue_64 rfl ?_
          cases hf
          exact sw_zret 68 G dX5_isSettingValue_68 K rfl
    · refine ⟨68, 69, rfl, rfl, ?_⟩
      have hf := tc_2 hf
      refine sw_iload_n 69 G dX5_isSettingValue_69 1 rfl ?_
      refine sw_if_lt 70 83 G dX5_isSettingValue_70 rfl hf (fun hf => ?_) (fun hf => ?_)
      · refine sw_iconst 83 G (0 : Int32) dX5_isSettingValue_83 rfl ?_
        cases hf
        exact sw_zret 84 G dX5_isSettingValue_84 K rfl
      · refine sw_iload_n 73 G dX5_isSettingValue_73 1 rfl ?_
        refine sw_bipush 74 G (9 : Int32) dX5_isSettingValue_74 rfl ?_
        refine sw_icmp_gt 76 83 G dX5_isSettingValue_76 rfl hf (fun hf => ?_) (fun hf => ?_)
        · refine sw_iconst 83 G (0 : Int32) dX5_isSettingValue_83 rfl ?_
          cases hf
          exact sw_zret 84 G dX5_isSettingValue_84 K rfl
        · refine sw_iconst 79 G (1 : Int32) dX5_isSettingValue_79 rfl ?_
          refine sw_goto 80 G 84 dX5_isSettingValue_80 rfl ?_
          cases hf
          exact sw_zret 84 G dX5_isSettingValue_84 K rfl
    · refine ⟨84, 85, rfl, rfl, ?_⟩
      have hf := tc_3 hf
      refine sw_iload_n 85 G dX5_isSettingValue_85 1 rfl ?_
      refine sw_if_lt 86 99 G dX5_isSettingValue_86 rfl hf (fun hf => ?_) (fun hf => ?_)
      · refine sw_iconst 99 G (0 : Int32) dX5_isSettingValue_99 rfl ?_
        cases hf
        exact sw_zret 100 G dX5_isSettingValue_100 K rfl
      · refine sw_iload_n 89 G dX5_isSettingValue_89 1 rfl ?_
        refine sw_bipush 90 G (50 : Int32) dX5_isSettingValue_90 rfl ?_
        refine sw_icmp_gt 92 99 G dX5_isSettingValue_92 rfl hf (fun hf => ?_) (fun hf => ?_)
        · refine sw_iconst 99 G (0 : Int32) dX5_isSettingValue_99 rfl ?_
          cases hf
          exact sw_zret 100 G dX5_isSettingValue_100 K rfl
        · refine sw_iconst 95 G (1 : Int32) dX5_isSettingValue_95 rfl ?_
          refine sw_goto 96 G 100 dX5_isSettingValue_96 rfl ?_
          cases hf
          exact sw_zret 100 G dX5_isSettingValue_100 K rfl
    · refine ⟨84, 85, rfl, rfl, ?_⟩
      have hf := tc_4 hf
      refine sw_iload_n 85 G dX5_isSettingValue_85 1 rfl ?_
      refine sw_if_lt 86 99 G dX5_isSettingValue_86 rfl hf (fun hf => ?_) (fun hf => ?_)
      · refine sw_iconst 99 G (0 : Int32) dX5_isSettingValue_99 rfl ?_
        cases hf
        exact sw_zret 100 G dX5_isSettingValue_100 K rfl
      · refine sw_iload_n 89 G dX5_isSettingValue_89 1 rfl ?_
        refine sw_bipush 90 G (50 : Int32) dX5_isSettingValue_90 rfl ?_
        refine sw_icmp_gt 92 99 G dX5_isSettingValue_92 rfl hf (fun hf => ?_) (fun hf => ?_)
        · refine sw_iconst 99 G (0 : Int32) dX5_isSettingValue_99 rfl ?_
          cases hf
          exact sw_zret 100 G dX5_isSettingValue_100 K rfl
        · refine sw_iconst 95 G (1 : Int32) dX5_isSettingValue_95 rfl ?_
          refine sw_goto 96 G 100 dX5_isSettingValue_96 rfl ?_
          cases hf
          exact sw_zret 100 G dX5_isSettingValue_100 K rfl
abbrev rmX5_isStation : Room := { frames := 0, cells := 0, slots := 0, locals := 0 }
theorem hsX5_isStation : yX5_isStation.cls ≠ "java/lang/invoke/MethodHandle" ∧ yX5_isStation.cls ≠ "java/lang/invoke/VarHandle" ∧ (parseMethodDescriptor yX5_isStation.desc).map (fun d => d.parameters.length) = some 1 := by decide +kernel
set_option maxRecDepth 100000 in
set_option maxHeartbeats 4000000 in
theorem kX5_isStation (Θ : Tht) (a0 : Int32) (ro : Int32) (hf : fX5_isStation a0 = some ro) : Fn Θ yX5_isStation (Cond.code yX5_isStation cX5_isStation 1 (some .boolean) :: GW) rmX5_isStation [.int a0] ([]) (some (.int ro)) ([]) := by
  delta fX5_isStation at hf
  refine Fn.of (by decide +kernel) rfl (Nat.le_of_ble_eq_true rfl) (fun p e s m args below meth c A Q G K => ?_)
  show sw Θ p e rmX5_isStation s m args below meth c A Q 1 0 0 0 [(0, .int a0)] [] ([])
  refine sw_iload_n 0 G dX5_isStation_0 0 rfl ?_
  refine sw_if_lt 1 14 G dX5_isStation_1 rfl hf (fun hf => ?_) (fun hf => ?_)
  · refine sw_iconst 14 G (0 : Int32) dX5_isStation_14 rfl ?_
    cases hf
    exact sw_zret 15 G dX5_isStation_15 K rfl
  · refine sw_iload_n 4 G dX5_isStation_4 0 rfl ?_
    refine sw_bipush 5 G (8 : Int32) dX5_isStation_5 rfl ?_
    refine sw_icmp_ge 7 14 G dX5_isStation_7 rfl hf (fun hf => ?_) (fun hf => ?_)
    · refine sw_iconst 14 G (0 : Int32) dX5_isStation_14 rfl ?_
      cases hf
      exact sw_zret 15 G dX5_isStation_15 K rfl
    · refine sw_iconst 10 G (1 : Int32) dX5_isStation_10 rfl ?_
      refine sw_goto 11 G 15 dX5_isStation_11 rfl ?_
      cases hf
      exact sw_zret 15 G dX5_isStation_15 K rfl
