theorem lk_4978d865 : Cond.initialized yL_punch.cls ∈ GW := GW_of 17 (by decide +kernel) (by decide +kernel)
theorem lk_921064b3 : Cond.initialized yL_bend.cls ∈ GW := GW_of 17 (by decide +kernel) (by decide +kernel)
theorem lk_7304dfb4 : Cond.methodLink RL 104 yL_bend ∈ GW := GW_of 652 (by decide +kernel) (by decide +kernel)
theorem lk_892d769c : Cond.static yL_bend ∈ GW := GW_of 653 (by decide +kernel) (by decide +kernel)
theorem lk_eace6e38 : Cond.codeWith yL_bend cL_bend 5 (some .int) [(0, 7, 8, 15), (0, 7, 13, 21)] ∈ GW := GW_of 654 (by decide +kernel) (by decide +kernel)
theorem lk_9557c4ae : Cond.methodLink RL 108 yL_punch ∈ GW := GW_of 693 (by decide +kernel) (by decide +kernel)
theorem lk_8e76745b : Cond.static yL_punch ∈ GW := GW_of 694 (by decide +kernel) (by decide +kernel)
theorem lk_884edcbb : Cond.codeWith yL_punch cL_punch 6 (some .int) [(0, 9, 10, 15), (0, 9, 15, 21)] ∈ GW := GW_of 695 (by decide +kernel) (by decide +kernel)
abbrev rmL_adds : Room := { frames := 10, cells := 1, slots := 6, locals := 355 }
theorem hsL_adds : yL_adds.cls ≠ "java/lang/invoke/MethodHandle" ∧ yL_adds.cls ≠ "java/lang/invoke/VarHandle" ∧ (parseMethodDescriptor yL_adds.desc).map (fun d => d.parameters.length) = some 3 := by decide +kernel
set_option maxRecDepth 100000 in
set_option maxHeartbeats 4000000 in
theorem kL_adds {Θ : Tht} {KE : (Nat → Nat) × (Nat → Nat)} {ad : Nat → Nat} {F : Nat} {o_c : CSt} {a1 : Int32} {a2 : Int32} {ro : Int32} {c2 : CSt} (hST : Θ.1.stackTraces = false) (hf : fL_adds F o_c a1 a2 = some (ro, c2)) : FC Θ KE 1 6 yL_adds (Cond.code yL_adds cL_adds 9 (some .boolean) :: GW) rmL_adds [.ref (ad 0), .int a1, .int a2] (wC Θ ad o_c) (some (.int ro)) (wC Θ ad c2) := by
  delta fL_adds at hf
  refine FC.ofK (by decide +kernel) rfl (Nat.le_of_ble_eq_true rfl) (fun p e s m args below meth c A Q G K E => ?_)
  show sw Θ p e rmL_adds s m args below meth c A Q 9 0 0 0 [(0, .ref (ad 0)), (1, .int a1), (2, .int a2)] [] (wC Θ ad o_c)
  refine sw_iload_n 0 G dL_adds_0 1 rfl ?_
  refine sw_aload_n 1 G dL_adds_1 0 rfl ?_
  refine sw_iconst 2 G (0 : Int32) dL_adds_2 rfl ?_
  obtain ⟨r1, hg, hf⟩ := bd1_some hf
  refine sw_callVA 3 G E 1 dL_adds_3 (kG_whole hg) (gwV lk_2847ce46 lk_00a700e4 lk_1397dd5c lk_5f14f758 lk_141fdf1b) rfl hvL_whole ⟨rfl, rfl⟩ ⟨Nat.le_of_ble_eq_true rfl, Nat.le_of_ble_eq_true rfl⟩ ⟨Nat.le_of_ble_eq_true rfl, Nat.le_of_ble_eq_true rfl⟩ rfl rfl (Nat.le_of_ble_eq_true rfl) 0 rfl vc5 rfl ?_
  obtain ⟨r2, hg, hf⟩ := bd1_some hf
  refine sw_callSW 6 G 2 dL_adds_6 (Fn.any _ (kL_low Θ a1 r1 r2 hg)) (gwS lk_ec621e3c lk_49b37618 lk_d05d3c57 lk_75682ede) rfl hsL_low ⟨rfl, rfl⟩ ⟨Nat.le_of_ble_eq_true rfl, Nat.le_of_ble_eq_true rfl⟩ ⟨Nat.le_of_ble_eq_true rfl, Nat.le_of_ble_eq_true rfl⟩ rfl rfl (Nat.le_of_ble_eq_true rfl) ?_
  refine sw_istore_n 9 G [(3, .int r2), (0, .ref (ad 0)), (1, .int a1), (2, .int a2)] dL_adds_9 (by decide) rfl ?_
  refine sw_iload_n 10 G dL_adds_10 2 rfl ?_
  refine sw_bipush 11 G (16 : Int32) dL_adds_11 rfl ?_
  refine sw_idiv 13 G dL_adds_13 hf (fun hf => ?_)
  refine sw_aload_n 14 G dL_adds_14 1 rfl ?_
  refine sw_iconst 15 G (1 : Int32) dL_adds_15 rfl ?_
  obtain ⟨r3, hg, hf⟩ := bd1_some hf
  refine sw_callVA 16 G E 1 dL_adds_16 (kG_whole hg) (gwV lk_2847ce46 lk_00a700e4 lk_1397dd5c lk_5f14f758 lk_141fdf1b) rfl hvL_whole ⟨rfl, rfl⟩ ⟨Nat.le_of_ble_eq_true rfl, Nat.le_of_ble_eq_true rfl⟩ ⟨Nat.le_of_ble_eq_true rfl, Nat.le_of_ble_eq_true rfl⟩ rfl rfl (Nat.le_of_ble_eq_true rfl) 0 rfl vc5 rfl ?_
  obtain ⟨r4, hg, hf⟩ := bd1_some hf
  refine sw_callSW 19 G 2 dL_adds_19 (Fn.any _ (kL_low Θ (a1 / (16 : Int32)) r3 r4 hg)) (gwS lk_ec621e3c lk_49b37618 lk_d05d3c57 lk_75682ede) rfl hsL_low ⟨rfl, rfl⟩ ⟨Nat.le_of_ble_eq_true rfl, Nat.le_of_ble_eq_true rfl⟩ ⟨Nat.le_of_ble_eq_true rfl, Nat.le_of_ble_eq_true rfl⟩ rfl rfl (Nat.le_of_ble_eq_true rfl) ?_
  refine sw_istore 22 G [(4, .int r4), (3, .int r2), (0, .ref (ad 0)), (1, .int a1), (2, .int a2)] dL_adds_22 (by decide) rfl ?_
  refine sw_iconst 24 G (1 : Int32) dL_adds_24 rfl ?_
  refine sw_iload_n 25 G dL_adds_25 4 rfl ?_
  refine sw_aload_n 26 G dL_adds_26 2 rfl ?_
  refine sw_iconst 27 G (0 : Int32) dL_adds_27 rfl ?_
  obtain ⟨r5, hg, hf⟩ := bd1_some hf
  refine sw_callVA 28 G E 1 dL_adds_28 (kG_whole hg) (gwV lk_2847ce46 lk_00a700e4 lk_1397dd5c lk_5f14f758 lk_141fdf1b) rfl hvL_whole ⟨rfl, rfl⟩ ⟨Nat.le_of_ble_eq_true rfl, Nat.le_of_ble_eq_true rfl⟩ ⟨Nat.le_of_ble_eq_true rfl, Nat.le_of_ble_eq_true rfl⟩ rfl rfl (Nat.le_of_ble_eq_true rfl) 0 rfl vc5 rfl ?_
  refine sw_iload_n 31 G dL_adds_31 1 rfl ?_
  refine sw_isub 32 G dL_adds_32 ?_
  obtain ⟨r6, hg, hf⟩ := bd1_some hf
  refine sw_callSW 33 G 2 dL_adds_33 (Fn.any _ (kL_low Θ a2 (r5 - r2) r6 hg)) (gwS lk_ec621e3c lk_49b37618 lk_d05d3c57 lk_75682ede) rfl hsL_low ⟨rfl, rfl⟩ ⟨Nat.le_of_ble_eq_true rfl, Nat.le_of_ble_eq_true rfl⟩ ⟨Nat.le_of_ble_eq_true rfl, Nat.le_of_ble_eq_true rfl⟩ rfl rfl (Nat.le_of_ble_eq_true rfl) ?_
  refine sw_iadd 36 G dL_adds_36 ?_
  refine sw_nmi hf (fun v7 hf => ?_)
  refine sw_istore 37 G [(5, .int v7), (4, .int r4), (3, .int r2), (0, .ref (ad 0)), (1, .int a1), (2, .int a2)] dL_adds_37 (by decide) rfl ?_
  refine sw_iconst 39 G (1 : Int32) dL_adds_39 rfl ?_
  refine sw_iload_n 40 G dL_adds_40 5 rfl ?_
  refine sw_bipush 41 G (16 : Int32) dL_adds_41 rfl ?_
  refine sw_idiv 43 G dL_adds_43 hf (fun hf => ?_)
  refine sw_aload_n 44 G dL_adds_44 3 rfl ?_
  refine sw_iconst 45 G (1 : Int32) dL_adds_45 rfl ?_
  obtain ⟨r8, hg, hf⟩ := bd1_some hf
  refine sw_callVA 46 G E 1 dL_adds_46 (kG_whole hg) (gwV lk_2847ce46 lk_00a700e4 lk_1397dd5c lk_5f14f758 lk_141fdf1b) rfl hvL_whole ⟨rfl, rfl⟩ ⟨Nat.le_of_ble_eq_true rfl, Nat.le_of_ble_eq_true rfl⟩ ⟨Nat.le_of_ble_eq_true rfl, Nat.le_of_ble_eq_true rfl⟩ rfl rfl (Nat.le_of_ble_eq_true rfl) 0 rfl vc5 rfl ?_
  refine sw_iload 49 G dL_adds_49 1 rfl ?_
  refine sw_isub 51 G dL_adds_51 ?_
  obtain ⟨r9, hg, hf⟩ := bd1_some hf
  refine sw_callSW 52 G 2 dL_adds_52 (Fn.any _ (kL_low Θ (a2 / (16 : Int32)) (r8 - r4) r9 hg)) (gwS lk_ec621e3c lk_49b37618 lk_d05d3c57 lk_75682ede) rfl hsL_low ⟨rfl, rfl⟩ ⟨Nat.le_of_ble_eq_true rfl, Nat.le_of_ble_eq_true rfl⟩ ⟨Nat.le_of_ble_eq_true rfl, Nat.le_of_ble_eq_true rfl⟩ rfl rfl (Nat.le_of_ble_eq_true rfl) ?_
  refine sw_iadd 55 G dL_adds_55 ?_
  refine sw_nmi hf (fun v10 hf => ?_)
  refine sw_istore 56 G [(6, .int v10), (5, .int v7), (4, .int r4), (3, .int r2), (0, .ref (ad 0)), (1, .int a1), (2, .int a2)] dL_adds_56 (by decide) rfl ?_
  refine sw_iload 58 G dL_adds_58 1 rfl ?_
  refine sw_iconst 60 G (3 : Int32) dL_adds_60 rfl ?_
  obtain ⟨v11, hj, hf⟩ := bd1_some hf
  have hx70 : sw Θ p e rmL_adds s m args below meth c A Q 9 0 0 70 [(0, .ref (ad 0)), (2, .int a2), (3, .int r2), (4, .int r4), (6, .int v10)] [.int v11] (wC Θ ad o_c) := by
    refine sw_istore 70 G [(5, .int v11), (0, .ref (ad 0)), (2, .int a2), (3, .int r2), (4, .int r4), (6, .int v10)] dL_adds_70 (by decide) rfl ?_
    refine sw_iload 72 G dL_adds_72 5 rfl ?_
    refine sw_iconst 74 G (2 : Int32) dL_adds_74 rfl ?_
    obtain ⟨v12, hj, hf⟩ := bd1_some hf
    have hx84 : sw Θ p e rmL_adds s m args below meth c A Q 9 0 0 84 [(0, .ref (ad 0)), (2, .int a2), (3, .int r2), (4, .int r4), (5, .int v11)] [.int v12] (wC Θ ad o_c) := by
      refine sw_istore 84 G [(6, .int v12), (0, .ref (ad 0)), (2, .int a2), (3, .int r2), (4, .int r4), (5, .int v11)] dL_adds_84 (by decide) rfl ?_
      refine sw_aload_n 86 G dL_adds_86 1 rfl ?_
      refine sw_bipush 87 G (8 : Int32) dL_adds_87 rfl ?_
      obtain ⟨r13, hg, hf⟩ := bd1_some hf
      refine sw_callVA 89 G E 1 dL_adds_89 (kG_whole hg) (gwV lk_2847ce46 lk_00a700e4 lk_1397dd5c lk_5f14f758 lk_141fdf1b) rfl hvL_whole ⟨rfl, rfl⟩ ⟨Nat.le_of_ble_eq_true rfl, Nat.le_of_ble_eq_true rfl⟩ ⟨Nat.le_of_ble_eq_true rfl, Nat.le_of_ble_eq_true rfl⟩ rfl rfl (Nat.le_of_ble_eq_true rfl) 0 rfl vc5 rfl ?_
      refine sw_istore 92 G [(7, .int r13), (6, .int v12), (0, .ref (ad 0)), (2, .int a2), (3, .int r2), (4, .int r4), (5, .int v11)] dL_adds_92 (by decide) rfl ?_
      refine sw_iload_n 94 G dL_adds_94 3 rfl ?_
      refine sw_sipush 95 G (256 : Int32) dL_adds_95 rfl ?_
      refine sw_idiv 98 G dL_adds_98 hf (fun hf => ?_)
      refine sw_iconst 99 G (4 : Int32) dL_adds_99 rfl ?_
      obtain ⟨r14, hg, hf⟩ := bd1_some hf
      refine sw_callSW 100 G 2 dL_adds_100 (Fn.any _ (kL_low Θ (a2 / (256 : Int32)) (4 : Int32) r14 hg)) (gwS lk_ec621e3c lk_49b37618 lk_d05d3c57 lk_75682ede) rfl hsL_low ⟨rfl, rfl⟩ ⟨Nat.le_of_ble_eq_true rfl, Nat.le_of_ble_eq_true rfl⟩ ⟨Nat.le_of_ble_eq_true rfl, Nat.le_of_ble_eq_true rfl⟩ rfl rfl (Nat.le_of_ble_eq_true rfl) ?_
      obtain ⟨v15, v16, hj, hf⟩ := bd2_some hf
      have hx129 : sw Θ p e rmL_adds s m args below meth c A Q 9 1 6 129 [(0, .ref (ad 0)), (3, .int r2), (4, .int r4), (5, .int v11), (7, .int r13)] [.int v15] (wC Θ ad v16) := by
        refine sw_istore 129 G [(8, .int v15), (0, .ref (ad 0)), (3, .int r2), (4, .int r4), (5, .int v11), (7, .int r13)] dL_adds_129 (by decide) rfl ?_
        refine sw_iload 131 G dL_adds_131 0 rfl ?_
        refine sw_iload 133 G dL_adds_133 5 rfl ?_
        refine sw_bipush 135 G (6 : Int32) dL_adds_135 rfl ?_
        obtain ⟨v21, hj, hf⟩ := bd1_some hf
        have hx147 : sw Θ p e rmL_adds s m args below meth c A Q 9 1 6 147 [(0, .ref (ad 0)), (3, .int r2), (4, .int r4), (5, .int v11), (7, .int r13)] [.int v21, .int v15] (wC Θ ad v16) := by
          refine sw_icmp_ne 147 208 G dL_adds_147 rfl hf (fun hf => ?_) (fun hf => ?_)
          · refine sw_iconst 208 G (0 : Int32) dL_adds_208 rfl ?_
            cases hf
            exact sw_zretC 209 G dL_adds_209 K rfl (Nat.le_of_ble_eq_true rfl) (Nat.le_of_ble_eq_true rfl)
          · refine sw_iload 150 G dL_adds_150 4 rfl ?_
            refine sw_bipush 152 G (6 : Int32) dL_adds_152 rfl ?_
            refine sw_icmp_eq 154 204 G dL_adds_154 rfl hf (fun hf => ?_) (fun hf => ?_)
            · refine sw_iconst 204 G (1 : Int32) dL_adds_204 rfl ?_
              refine sw_goto 205 G 209 dL_adds_205 rfl ?_
              cases hf
              exact sw_zretC 209 G dL_adds_209 K rfl (Nat.le_of_ble_eq_true rfl) (Nat.le_of_ble_eq_true rfl)
            · refine sw_aload_n 157 G dL_adds_157 0 rfl ?_
              refine sw_iload 158 G dL_adds_158 4 rfl ?_
              refine sw_bipush 160 G (6 : Int32) dL_adds_160 rfl ?_
              obtain ⟨r22, hg, hf⟩ := bd1_some hf
              refine sw_callVA 162 G E 2 dL_adds_162 (kG_operation hg) (gwV lk_d85d951b lk_a2e0504c lk_1df469a9 lk_5f14f758 lk_91b5c7da) rfl hvL_operation ⟨rfl, rfl⟩ ⟨Nat.le_of_ble_eq_true rfl, Nat.le_of_ble_eq_true rfl⟩ ⟨Nat.le_of_ble_eq_true rfl, Nat.le_of_ble_eq_true rfl⟩ rfl rfl (Nat.le_of_ble_eq_true rfl) 0 rfl vc5 rfl ?_
              refine sw_iconst 165 G (-1 : Int32) dL_adds_165 rfl ?_
              refine sw_icmp_ne 166 208 G dL_adds_166 rfl hf (fun hf => ?_) (fun hf => ?_)
              · refine sw_iconst 208 G (0 : Int32) dL_adds_208 rfl ?_
                cases hf
                exact sw_zretC 209 G dL_adds_209 K rfl (Nat.le_of_ble_eq_true rfl) (Nat.le_of_ble_eq_true rfl)
              · refine sw_aload_n 169 G dL_adds_169 0 rfl ?_
                refine sw_iload 170 G dL_adds_170 4 rfl ?_
                refine sw_iconst 172 G (1 : Int32) dL_adds_172 rfl ?_
                obtain ⟨r23, hg, hf⟩ := bd1_some hf
                refine sw_callVA 173 G E 2 dL_adds_173 (kG_operation hg) (gwV lk_d85d951b lk_a2e0504c lk_1df469a9 lk_5f14f758 lk_91b5c7da) rfl hvL_operation ⟨rfl, rfl⟩ ⟨Nat.le_of_ble_eq_true rfl, Nat.le_of_ble_eq_true rfl⟩ ⟨Nat.le_of_ble_eq_true rfl, Nat.le_of_ble_eq_true rfl⟩ rfl rfl (Nat.le_of_ble_eq_true rfl) 0 rfl vc5 rfl ?_
                refine sw_iload_n 176 G dL_adds_176 1 rfl ?_
                refine sw_icmp_ne 177 208 G dL_adds_177 rfl hf (fun hf => ?_) (fun hf => ?_)
                · refine sw_iconst 208 G (0 : Int32) dL_adds_208 rfl ?_
                  cases hf
                  exact sw_zretC 209 G dL_adds_209 K rfl (Nat.le_of_ble_eq_true rfl) (Nat.le_of_ble_eq_true rfl)
                · refine sw_aload_n 180 G dL_adds_180 0 rfl ?_
                  refine sw_iload 181 G dL_adds_181 4 rfl ?_
                  refine sw_iconst 183 G (2 : Int32) dL_adds_183 rfl ?_
                  obtain ⟨r24, hg, hf⟩ := bd1_some hf
                  refine sw_callVA 184 G E 2 dL_adds_184 (kG_operation hg) (gwV lk_d85d951b lk_a2e0504c lk_1df469a9 lk_5f14f758 lk_91b5c7da) rfl hvL_operation ⟨rfl, rfl⟩ ⟨Nat.le_of_ble_eq_true rfl, Nat.le_of_ble_eq_true rfl⟩ ⟨Nat.le_of_ble_eq_true rfl, Nat.le_of_ble_eq_true rfl⟩ rfl rfl (Nat.le_of_ble_eq_true rfl) 0 rfl vc5 rfl ?_
                  refine sw_iload 187 G dL_adds_187 2 rfl ?_
                  refine sw_icmp_ne 189 208 G dL_adds_189 rfl hf (fun hf => ?_) (fun hf => ?_)
                  · refine sw_iconst 208 G (0 : Int32) dL_adds_208 rfl ?_
                    cases hf
                    exact sw_zretC 209 G dL_adds_209 K rfl (Nat.le_of_ble_eq_true rfl) (Nat.le_of_ble_eq_true rfl)
                  · refine sw_aload_n 192 G dL_adds_192 0 rfl ?_
                    refine sw_iload 193 G dL_adds_193 4 rfl ?_
                    refine sw_iconst 195 G (3 : Int32) dL_adds_195 rfl ?_
                    obtain ⟨r25, hg, hf⟩ := bd1_some hf
                    refine sw_callVA 196 G E 2 dL_adds_196 (kG_operation hg) (gwV lk_d85d951b lk_a2e0504c lk_1df469a9 lk_5f14f758 lk_91b5c7da) rfl hvL_operation ⟨rfl, rfl⟩ ⟨Nat.le_of_ble_eq_true rfl, Nat.le_of_ble_eq_true rfl⟩ ⟨Nat.le_of_ble_eq_true rfl, Nat.le_of_ble_eq_true rfl⟩ rfl rfl (Nat.le_of_ble_eq_true rfl) 0 rfl vc5 rfl ?_
                    refine sw_iload 199 G dL_adds_199 3 rfl ?_
                    refine sw_icmp_ne 201 208 G dL_adds_201 rfl hf (fun hf => ?_) (fun hf => ?_)
                    · refine sw_iconst 208 G (0 : Int32) dL_adds_208 rfl ?_
                      cases hf
                      exact sw_zretC 209 G dL_adds_209 K rfl (Nat.le_of_ble_eq_true rfl) (Nat.le_of_ble_eq_true rfl)
                    · refine sw_iconst 204 G (1 : Int32) dL_adds_204 rfl ?_
                      refine sw_goto 205 G 209 dL_adds_205 rfl ?_
                      cases hf
                      exact sw_zretC 209 G dL_adds_209 K rfl (Nat.le_of_ble_eq_true rfl) (Nat.le_of_ble_eq_true rfl)
        clear hf
        have hf := hj
        clear hj
        refine sw_icmp_ne 137 145 G dL_adds_137 rfl hf (fun hf => ?_) (fun hf => ?_)
        · refine sw_iload 145 G dL_adds_145 5 rfl ?_
          cases hf
          exact sw_lv _ [1, 2, 3, 4, 5] rfl hx147
        · refine sw_bipush 140 G (-3 : Int32) dL_adds_140 rfl ?_
          refine sw_goto 142 G 147 dL_adds_142 rfl ?_
          cases hf
          exact sw_lv _ [1, 2, 3, 4, 5] rfl hx147
      clear hf
      have hf := hj
      clear hj
      refine sw_if_ne 103 118 G dL_adds_103 rfl hf (fun hf => ?_) (fun hf => ?_)
      · refine sw_aload_n 118 G dL_adds_118 2 rfl ?_
        refine sw_iload_n 119 G dL_adds_119 4 rfl ?_
        refine sw_iload 120 G dL_adds_120 5 rfl ?_
        refine sw_iload 122 G dL_adds_122 6 rfl ?_
        refine sw_iload 124 G dL_adds_124 1 rfl ?_
        obtain ⟨r17, u18, hg, hf⟩ := bd2_some hf
        refine sw_callSH 126 G E 5 dL_adds_126 (kL_punch hST hg) (gwH lk_9557c4ae lk_8e76745b lk_4978d865 lk_884edcbb) rfl hsL_punch ⟨rfl, rfl⟩ ⟨Nat.le_of_ble_eq_true rfl, Nat.le_of_ble_eq_true rfl⟩ ⟨Nat.le_of_ble_eq_true rfl, Nat.le_of_ble_eq_true rfl⟩ rfl rfl (Nat.le_of_ble_eq_true rfl) ?_
        cases hf
        exact sw_lv _ [2, 4, 5, 6, 0] rfl hx129
      · refine sw_aload_n 106 G dL_adds_106 2 rfl ?_
        refine sw_iload_n 107 G dL_adds_107 4 rfl ?_
        refine sw_iload 108 G dL_adds_108 5 rfl ?_
        refine sw_iload 110 G dL_adds_110 6 rfl ?_
        obtain ⟨r19, u20, hg, hf⟩ := bd2_some hf
        refine sw_callSH 112 G E 4 dL_adds_112 (kL_bend hST hg) (gwH lk_7304dfb4 lk_892d769c lk_921064b3 lk_eace6e38) rfl hsL_bend ⟨rfl, rfl⟩ ⟨Nat.le_of_ble_eq_true rfl, Nat.le_of_ble_eq_true rfl⟩ ⟨Nat.le_of_ble_eq_true rfl, Nat.le_of_ble_eq_true rfl⟩ rfl rfl (Nat.le_of_ble_eq_true rfl) ?_
        refine sw_goto 115 G 129 dL_adds_115 rfl ?_
        cases hf
        exact sw_lv _ [2, 4, 5, 6, 0] rfl hx129
    clear hf
    have hf := hj
    clear hj
    refine sw_icmp_le 75 82 G dL_adds_75 rfl hf (fun hf => ?_) (fun hf => ?_)
    · refine sw_iload 82 G dL_adds_82 5 rfl ?_
      cases hf
      exact sw_lv _ [1, 2, 3, 4, 0] rfl hx84
    · refine sw_iconst 78 G (2 : Int32) dL_adds_78 rfl ?_
      refine sw_goto 79 G 84 dL_adds_79 rfl ?_
      cases hf
      exact sw_lv _ [1, 2, 3, 4, 0] rfl hx84
  clear hf
  have hf := hj
  clear hj
  refine sw_icmp_le 61 68 G dL_adds_61 rfl hf (fun hf => ?_) (fun hf => ?_)
  · refine sw_iload 68 G dL_adds_68 1 rfl ?_
    cases hf
    exact sw_lv _ [4, 6, 3, 2, 0] rfl hx70
  · refine sw_iconst 64 G (3 : Int32) dL_adds_64 rfl ?_
    refine sw_goto 65 G 70 dL_adds_65 rfl ?_
    cases hf
    exact sw_lv _ [4, 6, 3, 2, 0] rfl hx70
