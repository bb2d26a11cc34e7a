abbrev rmX0_append : Room := { frames := 0, cells := 0, slots := 0, locals := 0 }
theorem hvX0_append : yX0_append.cls = RX0 ∧ yX0_append.cls ≠ "java/lang/invoke/MethodHandle" ∧ yX0_append.cls ≠ "java/lang/invoke/VarHandle" ∧ (parseMethodDescriptor yX0_append.desc).map (fun d => d.parameters.length) = some 1 := by decide +kernel
set_option maxRecDepth 100000 in
set_option maxHeartbeats 4000000 in
theorem kX0_append (Θ : Tht) (c0 c1 c2 : Nat) (c_bytes : Nat → Int32) (c_numbers : Nat → Int32) (c_length : Int32) (c_at : Int32) (c_word : Int32) (a0 : Int32) (o_c_bytes : Nat → Int32) (o_c_length : Int32) (hf : fX0_append c_bytes c_length a0 = some (o_c_bytes, o_c_length)) : Fn Θ yX0_append (Cond.code yX0_append cX0_append 2 none :: GW) rmX0_append [.ref c0, .int a0] (wX0 Θ c0 c1 c2 c_bytes c_numbers c_length c_at c_word) none (wX0 Θ c0 c1 c2 o_c_bytes c_numbers o_c_length c_at c_word) := by
  delta fX0_append at hf
  refine Fn.of (by decide +kernel) rfl (Nat.le_of_ble_eq_true rfl) (fun p e s m args below meth c A Q G K => ?_)
  show sw Θ p e rmX0_append s m args below meth c A Q 2 0 0 0 [(0, .ref c0), (1, .int a0)] [] (wX0 Θ c0 c1 c2 c_bytes c_numbers c_length c_at c_word)
  refine sw_aload_n 0 G dX0_append_0 0 rfl ?_
  refine sw_get 1 G hnX0 0 2 dX0_append_1 vc0 (by decide) (List.mem_cons_of_mem _ lk_7f6c79c9) rfl rfl ?_
  refine sw_if_lt 4 40 G dX0_append_4 rfl hf (fun hf => ?_) (fun hf => ?_)
  · cases hf
    exact sw_vret 40 G dX0_append_40 K
  · refine sw_aload_n 7 G dX0_append_7 0 rfl ?_
    refine sw_get 8 G hnX0 0 2 dX0_append_8 vc0 (by decide) (List.mem_cons_of_mem _ lk_7f6c79c9) rfl rfl ?_
    refine sw_aload_n 11 G dX0_append_11 0 rfl ?_
    refine sw_get 12 G hnX0 0 0 dX0_append_12 vc0 (by decide) (List.mem_cons_of_mem _ lk_33ff841d) rfl rfl ?_
    refine sw_alen 15 G 1 0 (150 : Int32) dX0_append_15 rfl rfl rfl ?_
    refine sw_icmp_ge 16 40 G dX0_append_16 rfl hf (fun hf => ?_) (fun hf => ?_)
    · cases hf
      exact sw_vret 40 G dX0_append_40 K
    · refine sw_aload_n 19 G dX0_append_19 0 rfl ?_
      refine sw_get 20 G hnX0 0 0 dX0_append_20 vc0 (by decide) (List.mem_cons_of_mem _ lk_33ff841d) rfl rfl ?_
      refine sw_aload_n 23 G dX0_append_23 0 rfl ?_
      refine sw_get 24 G hnX0 0 2 dX0_append_24 vc0 (by decide) (List.mem_cons_of_mem _ lk_7f6c79c9) rfl rfl ?_
      refine sw_iload_n 27 G dX0_append_27 1 rfl ?_
      refine sw_i2b 28 G dX0_append_28 ?_
      refine sw_nmi hf (fun v1 hf => ?_)
      refine sw_bast 29 G 1 (wX0 Θ c0 c1 c2 (upd c_bytes c_length.toNatClampNeg (vp_nar .byte v1)) c_numbers c_length c_at c_word) dX0_append_29 rfl rfl hf (fun hf => ?_)
      refine sw_aload_n 30 G dX0_append_30 0 rfl ?_
      refine sw_dup 31 G dX0_append_31 rfl ?_
      refine sw_get 32 G hnX0 0 2 dX0_append_32 vc0 (by decide) (List.mem_cons_of_mem _ lk_7f6c79c9) rfl rfl ?_
      refine sw_iconst 35 G (1 : Int32) dX0_append_35 rfl ?_
      refine sw_iadd 36 G dX0_append_36 ?_
      refine sw_nmi hf (fun v2 hf => ?_)
      refine sw_put 37 G hnX0 tyX0_ok nmX0 0 2 (wX0 Θ c0 c1 c2 (upd c_bytes c_length.toNatClampNeg (vp_nar .byte v1)) c_numbers v2 c_at c_word) dX0_append_37 vc0 (by decide) (List.mem_cons_of_mem _ lk_7f6c79c9) rfl rfl (Nat.le_of_ble_eq_true rfl) (tyX0_ok 2 (by decide)) rfl rfl rfl ?_
      cases hf
      exact sw_vret 40 G dX0_append_40 K
abbrev rmX0_number : Room := { frames := 0, cells := 0, slots := 0, locals := 0 }
theorem hvX0_number : yX0_number.cls = RX0 ∧ yX0_number.cls ≠ "java/lang/invoke/MethodHandle" ∧ yX0_number.cls ≠ "java/lang/invoke/VarHandle" ∧ (parseMethodDescriptor yX0_number.desc).map (fun d => d.parameters.length) = some 1 := by decide +kernel
set_option maxRecDepth 100000 in
set_option maxHeartbeats 4000000 in
theorem kX0_number (Θ : Tht) (c0 c1 c2 : Nat) (c_bytes : Nat → Int32) (c_numbers : Nat → Int32) (c_length : Int32) (c_at : Int32) (c_word : Int32) (a0 : Int32) (ro : Int32) (hf : fX0_number c_numbers a0 = some ro) : Fn Θ yX0_number (Cond.code yX0_number cX0_number 2 (some .int) :: GW) rmX0_number [.ref c0, .int a0] (wX0 Θ c0 c1 c2 c_bytes c_numbers c_length c_at c_word) (some (.int ro)) (wX0 Θ c0 c1 c2 c_bytes c_numbers c_length c_at c_word) := by
  delta fX0_number at hf
  refine Fn.of (by decide +kernel) rfl (Nat.le_of_ble_eq_true rfl) (fun p e s m args below meth c A Q G K => ?_)
  show sw Θ p e rmX0_number s m args below meth c A Q 2 0 0 0 [(0, .ref c0), (1, .int a0)] [] (wX0 Θ c0 c1 c2 c_bytes c_numbers c_length c_at c_word)
  refine sw_iload_n 0 G dX0_number_0 1 rfl ?_
  refine sw_if_lt 1 22 G dX0_number_1 rfl hf (fun hf => ?_) (fun hf => ?_)
  · refine sw_iconst 22 G (0 : Int32) dX0_number_22 rfl ?_
    cases hf
    exact sw_iret 23 G dX0_number_23 K
  · refine sw_iload_n 4 G dX0_number_4 1 rfl ?_
    refine sw_aload_n 5 G dX0_number_5 0 rfl ?_
    refine sw_get 6 G hnX0 0 1 dX0_number_6 vc0 (by decide) (List.mem_cons_of_mem _ lk_34fd5e93) rfl rfl ?_
    refine sw_alen 9 G 2 1 (4 : Int32) dX0_number_9 rfl rfl rfl ?_
    refine sw_icmp_ge 10 22 G dX0_number_10 rfl hf (fun hf => ?_) (fun hf => ?_)
    · refine sw_iconst 22 G (0 : Int32) dX0_number_22 rfl ?_
      cases hf
      exact sw_iret 23 G dX0_number_23 K
    · refine sw_aload_n 13 G dX0_number_13 0 rfl ?_
      refine sw_get 14 G hnX0 0 1 dX0_number_14 vc0 (by decide) (List.mem_cons_of_mem _ lk_34fd5e93) rfl rfl ?_
      refine sw_iload_n 17 G dX0_number_17 1 rfl ?_
      refine sw_iald 18 G 2 dX0_number_18 rfl hf (fun hf => ?_)
      refine sw_goto 19 G 23 dX0_number_19 rfl ?_
      cases hf
      exact sw_iret 23 G dX0_number_23 K
abbrev rmX0_byteAt : Room := { frames := 0, cells := 0, slots := 0, locals := 0 }
theorem hvX0_byteAt : yX0_byteAt.cls = RX0 ∧ yX0_byteAt.cls ≠ "java/lang/invoke/MethodHandle" ∧ yX0_byteAt.cls ≠ "java/lang/invoke/VarHandle" ∧ (parseMethodDescriptor yX0_byteAt.desc).map (fun d => d.parameters.length) = some 1 := by decide +kernel
set_option maxRecDepth 100000 in
set_option maxHeartbeats 4000000 in
theorem kX0_byteAt (Θ : Tht) (c0 c1 c2 : Nat) (c_bytes : Nat → Int32) (c_numbers : Nat → Int32) (c_length : Int32) (c_at : Int32) (c_word : Int32) (a0 : Int32) (ro : Int32) (hf : fX0_byteAt c_bytes c_length a0 = some ro) : Fn Θ yX0_byteAt (Cond.code yX0_byteAt cX0_byteAt 2 (some .int) :: GW) rmX0_byteAt [.ref c0, .int a0] (wX0 Θ c0 c1 c2 c_bytes c_numbers c_length c_at c_word) (some (.int ro)) (wX0 Θ c0 c1 c2 c_bytes c_numbers c_length c_at c_word) := by
  delta fX0_byteAt at hf
  refine Fn.of (by decide +kernel) rfl (Nat.le_of_ble_eq_true rfl) (fun p e s m args below meth c A Q G K => ?_)
  show sw Θ p e rmX0_byteAt s m args below meth c A Q 2 0 0 0 [(0, .ref c0), (1, .int a0)] [] (wX0 Θ c0 c1 c2 c_bytes c_numbers c_length c_at c_word)
  refine sw_iload_n 0 G dX0_byteAt_0 1 rfl ?_
  refine sw_if_lt 1 30 G dX0_byteAt_1 rfl hf (fun hf => ?_) (fun hf => ?_)
  · refine sw_iconst 30 G (-1 : Int32) dX0_byteAt_30 rfl ?_
    cases hf
    exact sw_iret 31 G dX0_byteAt_31 K
  · refine sw_iload_n 4 G dX0_byteAt_4 1 rfl ?_
    refine sw_aload_n 5 G dX0_byteAt_5 0 rfl ?_
    refine sw_get 6 G hnX0 0 2 dX0_byteAt_6 vc0 (by decide) (List.mem_cons_of_mem _ lk_7f6c79c9) rfl rfl ?_
    refine sw_icmp_ge 9 30 G dX0_byteAt_9 rfl hf (fun hf => ?_) (fun hf => ?_)
    · refine sw_iconst 30 G (-1 : Int32) dX0_byteAt_30 rfl ?_
      cases hf
      exact sw_iret 31 G dX0_byteAt_31 K
    · refine sw_iload_n 12 G dX0_byteAt_12 1 rfl ?_
      refine sw_aload_n 13 G dX0_byteAt_13 0 rfl ?_
      refine sw_get 14 G hnX0 0 0 dX0_byteAt_14 vc0 (by decide) (List.mem_cons_of_mem _ lk_33ff841d) rfl rfl ?_
      refine sw_alen 17 G 1 0 (150 : Int32) dX0_byteAt_17 rfl rfl rfl ?_
      refine sw_icmp_ge 18 30 G dX0_byteAt_18 rfl hf (fun hf => ?_) (fun hf => ?_)
      · refine sw_iconst 30 G (-1 : Int32) dX0_byteAt_30 rfl ?_
        cases hf
        exact sw_iret 31 G dX0_byteAt_31 K
      · refine sw_aload_n 21 G dX0_byteAt_21 0 rfl ?_
        refine sw_get 22 G hnX0 0 0 dX0_byteAt_22 vc0 (by decide) (List.mem_cons_of_mem _ lk_33ff841d) rfl rfl ?_
        refine sw_iload_n 25 G dX0_byteAt_25 1 rfl ?_
        refine sw_bald 26 G 1 dX0_byteAt_26 rfl hf (fun hf => ?_)
        refine sw_goto 27 G 31 dX0_byteAt_27 rfl ?_
        cases hf
        exact sw_iret 31 G dX0_byteAt_31 K
abbrev rmX0_skipSpaces : Room := { frames := 1, cells := 0, slots := 0, locals := 21 }
theorem hvX0_skipSpaces : yX0_skipSpaces.cls = RX0 ∧ yX0_skipSpaces.cls ≠ "java/lang/invoke/MethodHandle" ∧ yX0_skipSpaces.cls ≠ "java/lang/invoke/VarHandle" ∧ (parseMethodDescriptor yX0_skipSpaces.desc).map (fun d => d.parameters.length) = some 0 := by decide +kernel
set_option maxRecDepth 100000 in
set_option maxHeartbeats 4000000 in
theorem kX0_skipSpaces (Θ : Tht) (F : Nat) (c0 c1 c2 : Nat) (c_bytes : Nat → Int32) (c_numbers : Nat → Int32) (c_length : Int32) (c_at : Int32) (c_word : Int32) (o_c_at : Int32) (hf : fX0_skipSpaces F c_bytes c_length c_at = some o_c_at) : Fn Θ yX0_skipSpaces (Cond.code yX0_skipSpaces cX0_skipSpaces 1 none :: GW) rmX0_skipSpaces [.ref c0] (wX0 Θ c0 c1 c2 c_bytes c_numbers c_length c_at c_word) none (wX0 Θ c0 c1 c2 c_bytes c_numbers c_length o_c_at c_word) := by
  delta fX0_skipSpaces at hf
  refine Fn.of (by decide +kernel) rfl (Nat.le_of_ble_eq_true rfl) (fun p e s m args below meth c A Q G K => ?_)
  show sw Θ p e rmX0_skipSpaces s m args below meth c A Q 1 0 0 0 [(0, .ref c0)] [] (wX0 Θ c0 c1 c2 c_bytes c_numbers c_length c_at c_word)
  obtain ⟨v1, hl, hf⟩ := bd1_some hf
  have hx0_36 : sw Θ p e rmX0_skipSpaces s m args below meth c A Q 1 0 0 36 [] [] (wX0 Θ c0 c1 c2 c_bytes c_numbers c_length v1 c_word) := by
    cases hf
    exact sw_vret 36 G dX0_skipSpaces_36 K
  refine sw_lv [(0, .ref c0)] [0] rfl ?_
  refine lp_walk (P := fun (t : Int32) => sw Θ p e rmX0_skipSpaces s m args below meth c A Q 1 0 0 0 [(0, .ref c0)] [] (wX0 Θ c0 c1 c2 c_bytes c_numbers c_length t c_word)) hl (fun t0 y0 hf hin0 hex0 => ?_)
  obtain ⟨v2, rfl⟩ : ∃ z, z = t0 := ⟨_, rfl⟩
  show sw Θ p e rmX0_skipSpaces s m args below meth c A Q 1 0 0 0 [(0, .ref c0)] [] (wX0 Θ c0 c1 c2 c_bytes c_numbers c_length v2 c_word)
  have hf := uc1_some (K := _) hf
  refine sw_aload_n 0 G dX0_skipSpaces_0 0 rfl ?_
  refine sw_aload_n 1 G dX0_skipSpaces_1 0 rfl ?_
  refine sw_get 2 G hnX0 0 3 dX0_skipSpaces_2 vc0 (by decide) (List.mem_cons_of_mem _ lk_3fe4df47) rfl rfl ?_
  obtain ⟨r3, hg, hf⟩ := bd1_some hf
  refine sw_callV 5 G (wX0 Θ c0 c1 c2 c_bytes c_numbers c_length v2 c_word) [0, 1, 2] [] [0, 1, 2] 1 dX0_skipSpaces_5 (kX0_byteAt Θ c0 c1 c2 c_bytes c_numbers c_length v2 c_word v2 r3 hg) (gwV lk_766c8e27 lk_dde702c9 lk_c646983f lk_82b0ef51 lk_161114d1) rfl hvX0_byteAt ⟨rfl, rfl⟩ ⟨Nat.le_of_ble_eq_true rfl, Nat.le_of_ble_eq_true rfl⟩ ⟨Nat.zero_le _, Nat.zero_le _⟩ rfl rfl (Nat.le_of_ble_eq_true rfl) 0 rfl vc0 rfl rfl rfl rfl (by decide) ?_
  refine sw_bipush 8 G (32 : Int32) dX0_skipSpaces_8 rfl ?_
  refine sw_icmp_ne 10 36 G dX0_skipSpaces_10 rfl hf (fun hf => ?_) (fun hf => ?_)
  · cases hf
    cases hex0 _ rfl
    exact sw_lv _ [] rfl hx0_36
  · refine sw_aload_n 13 G dX0_skipSpaces_13 0 rfl ?_
    refine sw_get 14 G hnX0 0 3 dX0_skipSpaces_14 vc0 (by decide) (List.mem_cons_of_mem _ lk_3fe4df47) rfl rfl ?_
    refine sw_sipush 17 G (150 : Int32) dX0_skipSpaces_17 rfl ?_
    refine sw_icmp_ge 20 36 G dX0_skipSpaces_20 rfl hf (fun hf => ?_) (fun hf => ?_)
    · cases hf
      cases hex0 _ rfl
      exact sw_lv _ [] rfl hx0_36
    · refine sw_aload_n 23 G dX0_skipSpaces_23 0 rfl ?_
      refine sw_dup 24 G dX0_skipSpaces_24 rfl ?_
      refine sw_get 25 G hnX0 0 3 dX0_skipSpaces_25 vc0 (by decide) (List.mem_cons_of_mem _ lk_3fe4df47) rfl rfl ?_
      refine sw_iconst 28 G (1 : Int32) dX0_skipSpaces_28 rfl ?_
      refine sw_iadd 29 G dX0_skipSpaces_29 ?_
      refine sw_nmi hf (fun v4 hf => ?_)
      refine sw_put 30 G hnX0 tyX0_ok nmX0 0 3 (wX0 Θ c0 c1 c2 c_bytes c_numbers c_length v4 c_word) dX0_skipSpaces_30 vc0 (by decide) (List.mem_cons_of_mem _ lk_3fe4df47) rfl rfl (Nat.le_of_ble_eq_true rfl) (tyX0_ok 3 (by decide)) rfl rfl rfl ?_
      refine sw_goto 33 G 0 dX0_skipSpaces_33 rfl ?_
      cases hf
      have hb := hin0 _ rfl
      exact sw_lv _ [0] (by rfl) hb
abbrev rmX0_isAtEnd : Room := { frames := 2, cells := 0, slots := 0, locals := 41 }
theorem hvX0_isAtEnd : yX0_isAtEnd.cls = RX0 ∧ yX0_isAtEnd.cls ≠ "java/lang/invoke/MethodHandle" ∧ yX0_isAtEnd.cls ≠ "java/lang/invoke/VarHandle" ∧ (parseMethodDescriptor yX0_isAtEnd.desc).map (fun d => d.parameters.length) = some 0 := by decide +kernel
set_option maxRecDepth 100000 in
set_option maxHeartbeats 4000000 in
theorem kX0_isAtEnd (Θ : Tht) (F : Nat) (c0 c1 c2 : Nat) (c_bytes : Nat → Int32) (c_numbers : Nat → Int32) (c_length : Int32) (c_at : Int32) (c_word : Int32) (ro : Int32) (o_c_at : Int32) (hf : fX0_isAtEnd F c_bytes c_length c_at = some (ro, o_c_at)) : Fn Θ yX0_isAtEnd (Cond.code yX0_isAtEnd cX0_isAtEnd 1 (some .boolean) :: GW) rmX0_isAtEnd [.ref c0] (wX0 Θ c0 c1 c2 c_bytes c_numbers c_length c_at c_word) (some (.int ro)) (wX0 Θ c0 c1 c2 c_bytes c_numbers c_length o_c_at c_word) := by
  delta fX0_isAtEnd at hf
  refine Fn.of (by decide +kernel) rfl (Nat.le_of_ble_eq_true rfl) (fun p e s m args below meth c A Q G K => ?_)
  show sw Θ p e rmX0_isAtEnd s m args below meth c A Q 1 0 0 0 [(0, .ref c0)] [] (wX0 Θ c0 c1 c2 c_bytes c_numbers c_length c_at c_word)
  refine sw_aload_n 0 G dX0_isAtEnd_0 0 rfl ?_
  obtain ⟨u1, hg, hf⟩ := bd1_some hf
  refine sw_callV 1 G (wX0 Θ c0 c1 c2 c_bytes c_numbers c_length u1 c_word) [0, 1, 2] [] [0, 1, 2] 0 dX0_isAtEnd_1 (kX0_skipSpaces Θ F c0 c1 c2 c_bytes c_numbers c_length c_at c_word u1 hg) (gwV lk_ca1a7add lk_2bd1c939 lk_6dd08538 lk_82b0ef51 lk_7076a442) rfl hvX0_skipSpaces ⟨rfl, rfl⟩ ⟨Nat.le_of_ble_eq_true rfl, Nat.le_of_ble_eq_true rfl⟩ ⟨Nat.zero_le _, Nat.zero_le _⟩ rfl rfl (Nat.le_of_ble_eq_true rfl) 0 rfl vc0 rfl rfl rfl rfl (by decide) ?_
  refine sw_aload_n 4 G dX0_isAtEnd_4 0 rfl ?_
  refine sw_get 5 G hnX0 0 3 dX0_isAtEnd_5 vc0 (by decide) (List.mem_cons_of_mem _ lk_3fe4df47) rfl rfl ?_
  refine sw_aload_n 8 G dX0_isAtEnd_8 0 rfl ?_
  refine sw_get 9 G hnX0 0 2 dX0_isAtEnd_9 vc0 (by decide) (List.mem_cons_of_mem _ lk_7f6c79c9) rfl rfl ?_
  refine sw_icmp_lt 12 19 G dX0_isAtEnd_12 rfl hf (fun hf => ?_) (fun hf => ?_)
  · refine sw_iconst 19 G (0 : Int32) dX0_isAtEnd_19 rfl ?_
    cases hf
    exact sw_zret 20 G dX0_isAtEnd_20 K rfl
  · refine sw_iconst 15 G (1 : Int32) dX0_isAtEnd_15 rfl ?_
    refine sw_goto 16 G 20 dX0_isAtEnd_16 rfl ?_
    cases hf
    exact sw_zret 20 G dX0_isAtEnd_20 K rfl
abbrev rmX0_isLetter : Room := { frames := 0, cells := 0, slots := 0, locals := 0 }
theorem hsX0_isLetter : yX0_isLetter.cls ≠ "java/lang/invoke/MethodHandle" ∧ yX0_isLetter.cls ≠ "java/lang/invoke/VarHandle" ∧ (parseMethodDescriptor yX0_isLetter.desc).map (fun d => d.parameters.length) = some 1 := by decide +kernel
set_option maxRecDepth 100000 in
set_option maxHeartbeats 4000000 in
theorem kX0_isLetter (Θ : Tht) (a0 : Int32) (ro : Int32) (hf : fX0_isLetter a0 = some ro) : Fn Θ yX0_isLetter (Cond.code yX0_isLetter cX0_isLetter 1 (some .boolean) :: GW) rmX0_isLetter [.int a0] ([]) (some (.int ro)) ([]) := by
  delta fX0_isLetter at hf
  refine Fn.of (by decide +kernel) rfl (Nat.le_of_ble_eq_true rfl) (fun p e s m args below meth c A Q G K => ?_)
  show sw Θ p e rmX0_isLetter s m args below meth c A Q 1 0 0 0 [(0, .int a0)] [] ([])
  refine sw_iload_n 0 G dX0_isLetter_0 0 rfl ?_
  refine sw_bipush 1 G (97 : Int32) dX0_isLetter_1 rfl ?_
  refine sw_icmp_lt 3 16 G dX0_isLetter_3 rfl hf (fun hf => ?_) (fun hf => ?_)
  · refine sw_iconst 16 G (0 : Int32) dX0_isLetter_16 rfl ?_
    cases hf
    exact sw_zret 17 G dX0_isLetter_17 K rfl
  · refine sw_iload_n 6 G dX0_isLetter_6 0 rfl ?_
    refine sw_bipush 7 G (122 : Int32) dX0_isLetter_7 rfl ?_
    refine sw_icmp_gt 9 16 G dX0_isLetter_9 rfl hf (fun hf => ?_) (fun hf => ?_)
    · refine sw_iconst 16 G (0 : Int32) dX0_isLetter_16 rfl ?_
      cases hf
      exact sw_zret 17 G dX0_isLetter_17 K rfl
    · refine sw_iconst 12 G (1 : Int32) dX0_isLetter_12 rfl ?_
      refine sw_goto 13 G 17 dX0_isLetter_13 rfl ?_
      cases hf
      exact sw_zret 17 G dX0_isLetter_17 K rfl
abbrev rmX0_numbersOf : Room := { frames := 0, cells := 0, slots := 0, locals := 0 }
theorem hsX0_numbersOf : yX0_numbersOf.cls ≠ "java/lang/invoke/MethodHandle" ∧ yX0_numbersOf.cls ≠ "java/lang/invoke/VarHandle" ∧ (parseMethodDescriptor yX0_numbersOf.desc).map (fun d => d.parameters.length) = some 1 := by decide +kernel
set_option maxRecDepth 100000 in
set_option maxHeartbeats 4000000 in
theorem kX0_numbersOf (Θ : Tht) (a0 : Int32) (ro : Int32) (hf : fX0_numbersOf a0 = some ro) : Fn Θ yX0_numbersOf (Cond.code yX0_numbersOf cX0_numbersOf 1 (some .int) :: GW) rmX0_numbersOf [.int a0] ([]) (some (.int ro)) ([]) := by
  delta fX0_numbersOf at hf
  refine Fn.of (by decide +kernel) rfl (Nat.le_of_ble_eq_true rfl) (fun p e s m args below meth c A Q G K => ?_)
  show sw Θ p e rmX0_numbersOf s m args below meth c A Q 1 0 0 0 [(0, .int a0)] [] ([])
  refine sw_iload_n 0 G dX0_numbersOf_0 0 rfl ?_
  refine sw_tsw 1 60 G dX0_numbersOf_1 rfl hf (fun hf => ?_) (fun j hj hf => ?_)
  · refine sw_iconst 60 G (0 : Int32) dX0_numbersOf_60 rfl ?_
    cases hf
    exact sw_iret 61 G dX0_numbersOf_61 K
  · rcases (show j = 0 ∨ j = 1 ∨ j = 2 ∨ j = 3 ∨ j = 4 ∨ j = 5 ∨ j = 6 ∨ j = 7 ∨ j = 8 by omega) with rfl | rfl | rfl | rfl | rfl | rfl | rfl | rfl | rfl
    · refine ⟨55, 56, rfl, rfl, ?_⟩
      have hf := tc_0 hf
      refine sw_iconst 56 G (2 : Int32) dX0_numbersOf_56 rfl ?_
      cases hf
      exact sw_iret 57 G dX0_numbersOf_57 K
    · refine ⟨51, 52, rfl, rfl, ?_⟩
      have hf := tc_1 hf
      refine sw_iconst 52 G (4 : Int32) dX0_numbersOf_52 rfl ?_
      cases hf
      exact sw_iret 53 G dX0_numbersOf_53 K
    · refine ⟨51, 52, rfl, rfl, ?_⟩
      have hf := tc_2 hf
      refine sw_iconst 52 G (4 : Int32) dX0_numbersOf_52 rfl ?_
      cases hf
      exact sw_iret 53 G dX0_numbersOf_53 K
    · refine ⟨51, 52, rfl, rfl, ?_⟩
      have hf := tc_3 hf
      refine sw_iconst 52 G (4 : Int32) dX0_numbersOf_52 rfl ?_
      cases hf
      exact sw_iret 53 G dX0_numbersOf_53 K
    · refine ⟨53, 54, rfl, rfl, ?_⟩
      have hf := tc_4 hf
      refine sw_iconst 54 G (3 : Int32) dX0_numbersOf_54 rfl ?_
      cases hf
      exact sw_iret 55 G dX0_numbersOf_55 K
    · refine ⟨55, 56, rfl, rfl, ?_⟩
      have hf := tc_5 hf
      refine sw_iconst 56 G (2 : Int32) dX0_numbersOf_56 rfl ?_
      cases hf
      exact sw_iret 57 G dX0_numbersOf_57 K
    · refine ⟨59, 60, rfl, rfl, ?_⟩
      have hf := tc_6 hf
      refine sw_iconst 60 G (0 : Int32) dX0_numbersOf_60 rfl ?_
      cases hf
      exact sw_iret 61 G dX0_numbersOf_61 K
    · refine ⟨57, 58, rfl, rfl, ?_⟩
      have hf := tc_7 hf
      refine sw_iconst 58 G (1 : Int32) dX0_numbersOf_58 rfl ?_
      cases hf
      exact sw_iret 59 G dX0_numbersOf_59 K
    · refine ⟨57, 58, rfl, rfl, ?_⟩
      have hf := tc_8 hf
      refine sw_iconst 58 G (1 : Int32) dX0_numbersOf_58 rfl ?_
      cases hf
      exact sw_iret 59 G dX0_numbersOf_59 K
abbrev rmX0_isDigit : Room := { frames := 0, cells := 0, slots := 0, locals := 0 }
theorem hsX0_isDigit : yX0_isDigit.cls ≠ "java/lang/invoke/MethodHandle" ∧ yX0_isDigit.cls ≠ "java/lang/invoke/VarHandle" ∧ (parseMethodDescriptor yX0_isDigit.desc).map (fun d => d.parameters.length) = some 1 := by decide +kernel
set_option maxRecDepth 100000 in
set_option maxHeartbeats 4000000 in
theorem kX0_isDigit (Θ : Tht) (a0 : Int32) (ro : Int32) (hf : fX0_isDigit a0 = some ro) : Fn Θ yX0_isDigit (Cond.code yX0_isDigit cX0_isDigit 1 (some .boolean) :: GW) rmX0_isDigit [.int a0] ([]) (some (.int ro)) ([]) := by
  delta fX0_isDigit at hf
  refine Fn.of (by decide +kernel) rfl (Nat.le_of_ble_eq_true rfl) (fun p e s m args below meth c A Q G K => ?_)
  show sw Θ p e rmX0_isDigit s m args below meth c A Q 1 0 0 0 [(0, .int a0)] [] ([])
  refine sw_iload_n 0 G dX0_isDigit_0 0 rfl ?_
  refine sw_bipush 1 G (48 : Int32) dX0_isDigit_1 rfl ?_
  refine sw_icmp_lt 3 16 G dX0_isDigit_3 rfl hf (fun hf => ?_) (fun hf => ?_)
  · refine sw_iconst 16 G (0 : Int32) dX0_isDigit_16 rfl ?_
    cases hf
    exact sw_zret 17 G dX0_isDigit_17 K rfl
  · refine sw_iload_n 6 G dX0_isDigit_6 0 rfl ?_
    refine sw_bipush 7 G (57 : Int32) dX0_isDigit_7 rfl ?_
    refine sw_icmp_gt 9 16 G dX0_isDigit_9 rfl hf (fun hf => ?_) (fun hf => ?_)
    · refine sw_iconst 16 G (0 : Int32) dX0_isDigit_16 rfl ?_
      cases hf
      exact sw_zret 17 G dX0_isDigit_17 K rfl
    · refine sw_iconst 12 G (1 : Int32) dX0_isDigit_12 rfl ?_
      refine sw_goto 13 G 17 dX0_isDigit_13 rfl ?_
      cases hf
      exact sw_zret 17 G dX0_isDigit_17 K rfl
abbrev rmX0_readNumber : Room := { frames := 2, cells := 0, slots := 0, locals := 41 }
theorem hvX0_readNumber : yX0_readNumber.cls = RX0 ∧ yX0_readNumber.cls ≠ "java/lang/invoke/MethodHandle" ∧ yX0_readNumber.cls ≠ "java/lang/invoke/VarHandle" ∧ (parseMethodDescriptor yX0_readNumber.desc).map (fun d => d.parameters.length) = some 1 := by decide +kernel
set_option maxRecDepth 100000 in
set_option maxHeartbeats 4000000 in
theorem kX0_readNumber (Θ : Tht) (F : Nat) (c0 c1 c2 : Nat) (c_bytes : Nat → Int32) (c_numbers : Nat → Int32) (c_length : Int32) (c_at : Int32) (c_word : Int32) (a0 : Int32) (ro : Int32) (o_c_numbers : Nat → Int32) (o_c_at : Int32) (hf : fX0_readNumber F c_bytes c_numbers c_length c_at a0 = some (ro, o_c_numbers, o_c_at)) : Fn Θ yX0_readNumber (Cond.code yX0_readNumber cX0_readNumber 4 (some .boolean) :: GW) rmX0_readNumber [.ref c0, .int a0] (wX0 Θ c0 c1 c2 c_bytes c_numbers c_length c_at c_word) (some (.int ro)) (wX0 Θ c0 c1 c2 c_bytes o_c_numbers c_length o_c_at c_word) := by
  delta fX0_readNumber at hf
  refine Fn.of (by decide +kernel) rfl (Nat.le_of_ble_eq_true rfl) (fun p e s m args below meth c A Q G K => ?_)
  show sw Θ p e rmX0_readNumber s m args below meth c A Q 4 0 0 0 [(0, .ref c0), (1, .int a0)] [] (wX0 Θ c0 c1 c2 c_bytes c_numbers c_length c_at c_word)
  refine sw_aload_n 0 G dX0_readNumber_0 0 rfl ?_
  refine sw_aload_n 1 G dX0_readNumber_1 0 rfl ?_
  refine sw_get 2 G hnX0 0 3 dX0_readNumber_2 vc0 (by decide) (List.mem_cons_of_mem _ lk_3fe4df47) rfl rfl ?_
  obtain ⟨r1, hg, hf⟩ := bd1_some hf
  refine sw_callV 5 G (wX0 Θ c0 c1 c2 c_bytes c_numbers c_length c_at c_word) [0, 1, 2] [] [0, 1, 2] 1 dX0_readNumber_5 (kX0_byteAt Θ c0 c1 c2 c_bytes c_numbers c_length c_at c_word c_at r1 hg) (gwV lk_766c8e27 lk_dde702c9 lk_c646983f lk_82b0ef51 lk_161114d1) rfl hvX0_byteAt ⟨rfl, rfl⟩ ⟨Nat.le_of_ble_eq_true rfl, Nat.le_of_ble_eq_true rfl⟩ ⟨Nat.zero_le _, Nat.zero_le _⟩ rfl rfl (Nat.le_of_ble_eq_true rfl) 0 rfl vc0 rfl rfl rfl rfl (by decide) ?_
  refine sw_bipush 8 G (32 : Int32) dX0_readNumber_8 rfl ?_
  refine sw_icmp_eq 10 15 G dX0_readNumber_10 rfl hf (fun hf => ?_) (fun hf => ?_)
  · refine sw_aload_n 15 G dX0_readNumber_15 0 rfl ?_
    obtain ⟨u2, hg, hf⟩ := bd1_some hf
    refine sw_callV 16 G (wX0 Θ c0 c1 c2 c_bytes c_numbers c_length u2 c_word) [0, 1, 2] [] [0, 1, 2] 0 dX0_readNumber_16 (kX0_skipSpaces Θ F c0 c1 c2 c_bytes c_numbers c_length c_at c_word u2 hg) (gwV lk_ca1a7add lk_2bd1c939 lk_6dd08538 lk_82b0ef51 lk_7076a442) rfl hvX0_skipSpaces ⟨rfl, rfl⟩ ⟨Nat.le_of_ble_eq_true rfl, Nat.le_of_ble_eq_true rfl⟩ ⟨Nat.zero_le _, Nat.zero_le _⟩ rfl rfl (Nat.le_of_ble_eq_true rfl) 0 rfl vc0 rfl rfl rfl rfl (by decide) ?_
    refine sw_aload_n 19 G dX0_readNumber_19 0 rfl ?_
    refine sw_aload_n 20 G dX0_readNumber_20 0 rfl ?_
    refine sw_get 21 G hnX0 0 3 dX0_readNumber_21 vc0 (by decide) (List.mem_cons_of_mem _ lk_3fe4df47) rfl rfl ?_
    obtain ⟨r3, hg, hf⟩ := bd1_some hf
    refine sw_callV 24 G (wX0 Θ c0 c1 c2 c_bytes c_numbers c_length u2 c_word) [0, 1, 2] [] [0, 1, 2] 1 dX0_readNumber_24 (kX0_byteAt Θ c0 c1 c2 c_bytes c_numbers c_length u2 c_word u2 r3 hg) (gwV lk_766c8e27 lk_dde702c9 lk_c646983f lk_82b0ef51 lk_161114d1) rfl hvX0_byteAt ⟨rfl, rfl⟩ ⟨Nat.le_of_ble_eq_true rfl, Nat.le_of_ble_eq_true rfl⟩ ⟨Nat.zero_le _, Nat.zero_le _⟩ rfl rfl (Nat.le_of_ble_eq_true rfl) 0 rfl vc0 rfl rfl rfl rfl (by decide) ?_
    obtain ⟨r4, hg, hf⟩ := bd1_some hf
    refine sw_callS 27 G (wX0 Θ c0 c1 c2 c_bytes c_numbers c_length u2 c_word) [] [0, 1, 2] [0, 1, 2] 1 dX0_readNumber_27 (kX0_isDigit Θ r3 r4 hg) (gwS lk_bb4ddaf1 lk_c8919f97 lk_a5190478 lk_44f7becf) rfl hsX0_isDigit ⟨rfl, rfl⟩ ⟨Nat.le_of_ble_eq_true rfl, Nat.le_of_ble_eq_true rfl⟩ ⟨Nat.zero_le _, Nat.zero_le _⟩ rfl rfl (Nat.le_of_ble_eq_true rfl) rfl rfl rfl (by decide) ?_
    refine sw_if_ne 30 35 G dX0_readNumber_30 rfl hf (fun hf => ?_) (fun hf => ?_)
    · refine sw_iconst 35 G (0 : Int32) dX0_readNumber_35 rfl ?_
      refine sw_istore_n 36 G [(2, .int (0 : Int32)), (0, .ref c0), (1, .int a0)] dX0_readNumber_36 (by decide) rfl ?_
      refine sw_iconst 37 G (0 : Int32) dX0_readNumber_37 rfl ?_
      refine sw_istore_n 38 G [(3, .int (0 : Int32)), (2, .int (0 : Int32)), (0, .ref c0), (1, .int a0)] dX0_readNumber_38 (by decide) rfl ?_
      obtain ⟨v5, v6, hl, hf⟩ := bd2_some hf
      have hx39_91 : sw Θ p e rmX0_readNumber s m args below meth c A Q 4 0 0 91 [(0, .ref c0), (1, .int a0), (2, .int v5)] [] (wX0 Θ c0 c1 c2 c_bytes c_numbers c_length v6 c_word) := by
        refine sw_iload_n 91 G dX0_readNumber_91 1 rfl ?_
        refine sw_if_lt 92 111 G dX0_readNumber_92 rfl hf (fun hf => ?_) (fun hf => ?_)
        · refine sw_iconst 111 G (1 : Int32) dX0_readNumber_111 rfl ?_
          cases hf
          exact sw_zret 112 G dX0_readNumber_112 K rfl
        · refine sw_iload_n 95 G dX0_readNumber_95 1 rfl ?_
          refine sw_aload_n 96 G dX0_readNumber_96 0 rfl ?_
          refine sw_get 97 G hnX0 0 1 dX0_readNumber_97 vc0 (by decide) (List.mem_cons_of_mem _ lk_34fd5e93) rfl rfl ?_
          refine sw_alen 100 G 2 1 (4 : Int32) dX0_readNumber_100 rfl rfl rfl ?_
          refine sw_icmp_ge 101 111 G dX0_readNumber_101 rfl hf (fun hf => ?_) (fun hf => ?_)
          · refine sw_iconst 111 G (1 : Int32) dX0_readNumber_111 rfl ?_
            cases hf
            exact sw_zret 112 G dX0_readNumber_112 K rfl
          · refine sw_aload_n 104 G dX0_readNumber_104 0 rfl ?_
            refine sw_get 105 G hnX0 0 1 dX0_readNumber_105 vc0 (by decide) (List.mem_cons_of_mem _ lk_34fd5e93) rfl rfl ?_
            refine sw_iload_n 108 G dX0_readNumber_108 1 rfl ?_
            refine sw_iload_n 109 G dX0_readNumber_109 2 rfl ?_
            refine sw_iast 110 G 2 (wX0 Θ c0 c1 c2 c_bytes (upd c_numbers a0.toNatClampNeg v5) c_length v6 c_word) dX0_readNumber_110 rfl rfl hf (fun hf => ?_)
            refine sw_iconst 111 G (1 : Int32) dX0_readNumber_111 rfl ?_
            cases hf
            exact sw_zret 112 G dX0_readNumber_112 K rfl
      refine sw_lv [(0, .ref c0), (1, .int a0), (2, .int (0 : Int32)), (3, .int (0 : Int32))] [2, 3, 1, 0] rfl ?_
      refine lp_walk (P := fun (t : Int32 × Int32 × Int32) => sw Θ p e rmX0_readNumber s m args below meth c A Q 4 0 0 39 [(0, .ref c0), (1, .int a0), (2, .int t.1), (3, .int t.2.1)] [] (wX0 Θ c0 c1 c2 c_bytes c_numbers c_length t.2.2 c_word)) hl (fun t39 y39 hf hin39 hex39 => ?_)
      obtain ⟨v7, v8, v9⟩ := t39
      show sw Θ p e rmX0_readNumber s m args below meth c A Q 4 0 0 39 [(0, .ref c0), (1, .int a0), (2, .int v7), (3, .int v8)] [] (wX0 Θ c0 c1 c2 c_bytes c_numbers c_length v9 c_word)
      have hf := uc3_some (K := _) hf
      refine sw_iload_n 39 G dX0_readNumber_39 3 rfl ?_
      refine sw_iconst 40 G (3 : Int32) dX0_readNumber_40 rfl ?_
      refine sw_icmp_ge 41 91 G dX0_readNumber_41 rfl hf (fun hf => ?_) (fun hf => ?_)
      · cases hf
        cases hex39 _ rfl
        exact sw_lv _ [0, 1, 2] rfl hx39_91
      · refine sw_aload_n 44 G dX0_readNumber_44 0 rfl ?_
        refine sw_aload_n 45 G dX0_readNumber_45 0 rfl ?_
        refine sw_get 46 G hnX0 0 3 dX0_readNumber_46 vc0 (by decide) (List.mem_cons_of_mem _ lk_3fe4df47) rfl rfl ?_
        obtain ⟨r10, hg, hf⟩ := bd1_some hf
        refine sw_callV 49 G (wX0 Θ c0 c1 c2 c_bytes c_numbers c_length v9 c_word) [0, 1, 2] [] [0, 1, 2] 1 dX0_readNumber_49 (kX0_byteAt Θ c0 c1 c2 c_bytes c_numbers c_length v9 c_word v9 r10 hg) (gwV lk_766c8e27 lk_dde702c9 lk_c646983f lk_82b0ef51 lk_161114d1) rfl hvX0_byteAt ⟨rfl, rfl⟩ ⟨Nat.le_of_ble_eq_true rfl, Nat.le_of_ble_eq_true rfl⟩ ⟨Nat.zero_le _, Nat.zero_le _⟩ rfl rfl (Nat.le_of_ble_eq_true rfl) 0 rfl vc0 rfl rfl rfl rfl (by decide) ?_
        obtain ⟨r11, hg, hf⟩ := bd1_some hf
        refine sw_callS 52 G (wX0 Θ c0 c1 c2 c_bytes c_numbers c_length v9 c_word) [] [0, 1, 2] [0, 1, 2] 1 dX0_readNumber_52 (kX0_isDigit Θ r10 r11 hg) (gwS lk_bb4ddaf1 lk_c8919f97 lk_a5190478 lk_44f7becf) rfl hsX0_isDigit ⟨rfl, rfl⟩ ⟨Nat.le_of_ble_eq_true rfl, Nat.le_of_ble_eq_true rfl⟩ ⟨Nat.zero_le _, Nat.zero_le _⟩ rfl rfl (Nat.le_of_ble_eq_true rfl) rfl rfl rfl (by decide) ?_
        refine sw_if_eq 55 91 G dX0_readNumber_55 rfl hf (fun hf => ?_) (fun hf => ?_)
        · cases hf
          cases hex39 _ rfl
          exact sw_lv _ [0, 1, 2] rfl hx39_91
        · refine sw_bipush 58 G (10 : Int32) dX0_readNumber_58 rfl ?_
          refine sw_iload_n 60 G dX0_readNumber_60 2 rfl ?_
          refine sw_imul 61 G dX0_readNumber_61 ?_
          refine sw_aload_n 62 G dX0_readNumber_62 0 rfl ?_
          refine sw_aload_n 63 G dX0_readNumber_63 0 rfl ?_
          refine sw_get 64 G hnX0 0 3 dX0_readNumber_64 vc0 (by decide) (List.mem_cons_of_mem _ lk_3fe4df47) rfl rfl ?_
          obtain ⟨r12, hg, hf⟩ := bd1_some hf
          refine sw_callV 67 G (wX0 Θ c0 c1 c2 c_bytes c_numbers c_length v9 c_word) [0, 1, 2] [] [0, 1, 2] 1 dX0_readNumber_67 (kX0_byteAt Θ c0 c1 c2 c_bytes c_numbers c_length v9 c_word v9 r12 hg) (gwV lk_766c8e27 lk_dde702c9 lk_c646983f lk_82b0ef51 lk_161114d1) rfl hvX0_byteAt ⟨rfl, rfl⟩ ⟨Nat.le_of_ble_eq_true rfl, Nat.le_of_ble_eq_true rfl⟩ ⟨Nat.zero_le _, Nat.zero_le _⟩ rfl rfl (Nat.le_of_ble_eq_true rfl) 0 rfl vc0 rfl rfl rfl rfl (by decide) ?_
          refine sw_iadd 70 G dX0_readNumber_70 ?_
          refine sw_bipush 71 G (48 : Int32) dX0_readNumber_71 rfl ?_
          refine sw_isub 73 G dX0_readNumber_73 ?_
          refine sw_nmi hf (fun v13 hf => ?_)
          refine sw_istore_n 74 G [(2, .int v13), (0, .ref c0), (1, .int a0), (3, .int v8)] dX0_readNumber_74 (by decide) rfl ?_
          refine sw_aload_n 75 G dX0_readNumber_75 1 rfl ?_
          refine sw_dup 76 G dX0_readNumber_76 rfl ?_
          refine sw_get 77 G hnX0 0 3 dX0_readNumber_77 vc0 (by decide) (List.mem_cons_of_mem _ lk_3fe4df47) rfl rfl ?_
          refine sw_iconst 80 G (1 : Int32) dX0_readNumber_80 rfl ?_
          refine sw_iadd 81 G dX0_readNumber_81 ?_
          refine sw_nmi hf (fun v14 hf => ?_)
          refine sw_put 82 G hnX0 tyX0_ok nmX0 0 3 (wX0 Θ c0 c1 c2 c_bytes c_numbers c_length v14 c_word) dX0_readNumber_82 vc0 (by decide) (List.mem_cons_of_mem _ lk_3fe4df47) rfl rfl (Nat.le_of_ble_eq_true rfl) (tyX0_ok 3 (by decide)) rfl rfl rfl ?_
          refine sw_iinc 85 G (v8 + (1 : Int32)) [(3, .int (v8 + (1 : Int32))), (2, .int v13), (0, .ref c0), (1, .int a0)] dX0_readNumber_85 3 rfl rfl (by decide) rfl ?_
          refine sw_goto 88 G 39 dX0_readNumber_88 rfl ?_
          cases hf
          have hb := hin39 _ rfl
          exact sw_lv _ [2, 3, 1, 0] (by rfl) hb
    · refine sw_iconst 33 G (0 : Int32) dX0_readNumber_33 rfl ?_
      cases hf
      exact sw_zret 34 G dX0_readNumber_34 K rfl
  · refine sw_iconst 13 G (0 : Int32) dX0_readNumber_13 rfl ?_
    cases hf
    exact sw_zret 14 G dX0_readNumber_14 K rfl
