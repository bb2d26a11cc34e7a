theorem lk_bed2f496 : Cond.initialized yL_ones.cls ∈ GW := GW_of 17 (by decide +kernel) (by decide +kernel)
theorem lk_b7b055cd : Cond.initialized yL_bends.cls ∈ GW := GW_of 17 (by decide +kernel) (by decide +kernel)
theorem lk_06d903bd : Cond.methodLink RL 47 yX5_cellSet ∈ GW := GW_of 352 (by decide +kernel) (by decide +kernel)
theorem lk_0c6f94f4 : Cond.instanceMethod yX5_cellSet ∈ GW := GW_of 353 (by decide +kernel) (by decide +kernel)
theorem lk_105ccd88 : Cond.selects RX5 yX5_cellSet yX5_cellSet ∈ GW := GW_of 354 (by decide +kernel) (by decide +kernel)
theorem lk_2d194fb3 : Cond.code yX5_cellSet cX5_cellSet 2 (some .long) ∈ GW := GW_of 355 (by decide +kernel) (by decide +kernel)
theorem lk_3cdd677e : Cond.methodLink RL 51 yL_ones ∈ GW := GW_of 434 (by decide +kernel) (by decide +kernel)
theorem lk_37a662d3 : Cond.static yL_ones ∈ GW := GW_of 435 (by decide +kernel) (by decide +kernel)
theorem lk_98f15b9a : Cond.code yL_ones cL_ones 5 (some .int) ∈ GW := GW_of 436 (by decide +kernel) (by decide +kernel)
theorem lk_1142af91 : Cond.methodLink RL 57 yL_bends ∈ GW := GW_of 437 (by decide +kernel) (by decide +kernel)
theorem lk_4f2e2f06 : Cond.static yL_bends ∈ GW := GW_of 438 (by decide +kernel) (by decide +kernel)
theorem lk_81c45d82 : Cond.code yL_bends cL_bends 5 (some .long) ∈ GW := GW_of 439 (by decide +kernel) (by decide +kernel)
theorem lk_12c44eac : Cond.constantLong RL 61 (-1) ∈ GW := GW_of 470 (by decide +kernel) (by decide +kernel)
theorem lk_760201f3 : Cond.methodLink RL 63 yX5_dieFault ∈ GW := GW_of 471 (by decide +kernel) (by decide +kernel)
theorem lk_c462158b : Cond.instanceMethod yX5_dieFault ∈ GW := GW_of 472 (by decide +kernel) (by decide +kernel)
theorem lk_41251719 : Cond.selects RX5 yX5_dieFault yX5_dieFault ∈ GW := GW_of 473 (by decide +kernel) (by decide +kernel)
theorem lk_f6a455e8 : Cond.code yX5_dieFault cX5_dieFault 1 (some .int) ∈ GW := GW_of 474 (by decide +kernel) (by decide +kernel)
theorem lk_c4f30399 : Cond.methodLink RL 66 yX5_scrap ∈ GW := GW_of 482 (by decide +kernel) (by decide +kernel)
theorem lk_89c46ba6 : Cond.instanceMethod yX5_scrap ∈ GW := GW_of 483 (by decide +kernel) (by decide +kernel)
theorem lk_cc13ca5e : Cond.selects RX5 yX5_scrap yX5_scrap ∈ GW := GW_of 484 (by decide +kernel) (by decide +kernel)
theorem lk_c1d0049b : Cond.code yX5_scrap cX5_scrap 4 (some .int) ∈ GW := GW_of 485 (by decide +kernel) (by decide +kernel)
theorem lk_4e400950 : Cond.methodLink RL 70 yX5_fitsTwice ∈ GW := GW_of 500 (by decide +kernel) (by decide +kernel)
theorem lk_b6d8f630 : Cond.instanceMethod yX5_fitsTwice ∈ GW := GW_of 501 (by decide +kernel) (by decide +kernel)
theorem lk_8f672cea : Cond.selects RX5 yX5_fitsTwice yX5_fitsTwice ∈ GW := GW_of 502 (by decide +kernel) (by decide +kernel)
theorem lk_fc6b1be2 : Cond.code yX5_fitsTwice cX5_fitsTwice 1 (some .int) ∈ GW := GW_of 503 (by decide +kernel) (by decide +kernel)
abbrev rmL_die : Room := { frames := 5, cells := 0, slots := 0, locals := 130 }
theorem hsL_die : yL_die.cls ≠ "java/lang/invoke/MethodHandle" ∧ yL_die.cls ≠ "java/lang/invoke/VarHandle" ∧ (parseMethodDescriptor yL_die.desc).map (fun d => d.parameters.length) = some 1 := by decide +kernel
set_option maxRecDepth 100000 in
set_option maxHeartbeats 4000000 in
theorem kL_die {Θ : Tht} {KE : (Nat → Nat) × (Nat → Nat)} {ad : Nat → Nat} {F : Nat} {o_c : CSt} {ro : Int32} (hf : fL_die F o_c = some ro) : FC Θ KE 0 0 yL_die (Cond.code yL_die cL_die 10 (some .boolean) :: GW) rmL_die [.ref (ad 0)] (wC Θ ad o_c) (some (.int ro)) (wC Θ ad o_c) := by
  delta fL_die at hf
  refine FC.ofK (by decide +kernel) rfl (Nat.le_of_ble_eq_true rfl) (fun p e s m args below meth c A Q G K E => ?_)
  show sw Θ p e rmL_die s m args below meth c A Q 10 0 0 0 [(0, .ref (ad 0))] [] (wC Θ ad o_c)
  refine sw_aload_n 0 G dL_die_0 0 rfl ?_
  refine sw_iconst 1 G (0 : Int32) dL_die_1 rfl ?_
  obtain ⟨r1, hg, hf⟩ := bd1_some hf
  refine sw_callVA 2 G E 1 dL_die_2 (kG_cellSet hg) (gwV lk_06d903bd lk_0c6f94f4 lk_105ccd88 lk_5f14f758 lk_2d194fb3) rfl hvL_cellSet ⟨rfl, rfl⟩ ⟨Nat.le_of_ble_eq_true rfl, Nat.le_of_ble_eq_true rfl⟩ ⟨Nat.le_of_ble_eq_true rfl, Nat.le_of_ble_eq_true rfl⟩ rfl rfl (Nat.le_of_ble_eq_true rfl) 0 rfl vc5 rfl ?_
  refine sw_lstore_n 5 G [(1, .long r1), (0, .ref (ad 0))] dL_die_5 (by decide) rfl ?_
  refine sw_aload_n 6 G dL_die_6 1 rfl ?_
  refine sw_iconst 7 G (1 : Int32) dL_die_7 rfl ?_
  obtain ⟨r2, hg, hf⟩ := bd1_some hf
  refine sw_callVA 8 G E 1 dL_die_8 (kG_cellSet hg) (gwV lk_06d903bd lk_0c6f94f4 lk_105ccd88 lk_5f14f758 lk_2d194fb3) rfl hvL_cellSet ⟨rfl, rfl⟩ ⟨Nat.le_of_ble_eq_true rfl, Nat.le_of_ble_eq_true rfl⟩ ⟨Nat.le_of_ble_eq_true rfl, Nat.le_of_ble_eq_true rfl⟩ rfl rfl (Nat.le_of_ble_eq_true rfl) 0 rfl vc5 rfl ?_
  refine sw_lstore_n 11 G [(3, .long r2), (1, .long r1), (0, .ref (ad 0))] dL_die_11 (by decide) rfl ?_
  refine sw_aload_n 12 G dL_die_12 2 rfl ?_
  refine sw_iconst 13 G (2 : Int32) dL_die_13 rfl ?_
  obtain ⟨r3, hg, hf⟩ := bd1_some hf
  refine sw_callVA 14 G E 1 dL_die_14 (kG_cellSet hg) (gwV lk_06d903bd lk_0c6f94f4 lk_105ccd88 lk_5f14f758 lk_2d194fb3) rfl hvL_cellSet ⟨rfl, rfl⟩ ⟨Nat.le_of_ble_eq_true rfl, Nat.le_of_ble_eq_true rfl⟩ ⟨Nat.le_of_ble_eq_true rfl, Nat.le_of_ble_eq_true rfl⟩ rfl rfl (Nat.le_of_ble_eq_true rfl) 0 rfl vc5 rfl ?_
  refine sw_lstore 17 G [(5, .long r3), (3, .long r2), (1, .long r1), (0, .ref (ad 0))] dL_die_17 (by decide) rfl ?_
  refine sw_aload_n 19 G dL_die_19 3 rfl ?_
  refine sw_iconst 20 G (0 : Int32) dL_die_20 rfl ?_
  obtain ⟨r4, hg, hf⟩ := bd1_some hf
  refine sw_callVA 21 G E 1 dL_die_21 (kG_whole hg) (gwV lk_2847ce46 lk_00a700e4 lk_1397dd5c lk_5f14f758 lk_141fdf1b) rfl hvL_whole ⟨rfl, rfl⟩ ⟨Nat.le_of_ble_eq_true rfl, Nat.le_of_ble_eq_true rfl⟩ ⟨Nat.le_of_ble_eq_true rfl, Nat.le_of_ble_eq_true rfl⟩ rfl rfl (Nat.le_of_ble_eq_true rfl) 0 rfl vc5 rfl ?_
  refine sw_aload_n 24 G dL_die_24 3 rfl ?_
  refine sw_iconst 25 G (1 : Int32) dL_die_25 rfl ?_
  obtain ⟨r5, hg, hf⟩ := bd1_some hf
  refine sw_callVA 26 G E 1 dL_die_26 (kG_whole hg) (gwV lk_2847ce46 lk_00a700e4 lk_1397dd5c lk_5f14f758 lk_141fdf1b) rfl hvL_whole ⟨rfl, rfl⟩ ⟨Nat.le_of_ble_eq_true rfl, Nat.le_of_ble_eq_true rfl⟩ ⟨Nat.le_of_ble_eq_true rfl, Nat.le_of_ble_eq_true rfl⟩ rfl rfl (Nat.le_of_ble_eq_true rfl) 0 rfl vc5 rfl ?_
  refine sw_imul 29 G dL_die_29 ?_
  refine sw_nmi hf (fun v6 hf => ?_)
  refine sw_istore 30 G [(7, .int v6), (5, .long r3), (3, .long r2), (1, .long r1), (0, .ref (ad 0))] dL_die_30 (by decide) rfl ?_
  refine sw_lload_n 32 G dL_die_32 3 rfl ?_
  refine sw_lload_n 33 G dL_die_33 2 rfl ?_
  refine sw_land 34 G dL_die_34 ?_
  refine sw_lconst 35 G (0 : Int64) dL_die_35 rfl ?_
  refine sw_lcmp 36 G dL_die_36 ?_
  obtain ⟨v7, hj, hf⟩ := bd1_some hf
  have hx63 : sw Θ p e rmL_die s m args below meth c A Q 10 0 0 63 [(0, .ref (ad 0)), (1, .long r1), (3, .long r2), (5, .long r3), (7, .int v6)] [.int v7] (wC Θ ad o_c) := by
    refine sw_istore 63 G [(8, .int v7), (0, .ref (ad 0)), (1, .long r1), (3, .long r2), (5, .long r3), (7, .int v6)] dL_die_63 (by decide) rfl ?_
    refine sw_iload 65 G dL_die_65 0 rfl ?_
    obtain ⟨v8, hj, hf⟩ := bd1_some hf
    have hx131 : sw Θ p e rmL_die s m args below meth c A Q 10 0 0 131 [(0, .ref (ad 0)), (1, .long r1), (3, .long r2), (5, .long r3), (7, .int v6)] [.int v8] (wC Θ ad o_c) := by
      refine sw_istore 131 G [(8, .int v8), (0, .ref (ad 0)), (1, .long r1), (3, .long r2), (5, .long r3), (7, .int v6)] dL_die_131 (by decide) rfl ?_
      refine sw_aload_n 133 G dL_die_133 1 rfl ?_
      refine sw_iconst 134 G (4 : Int32) dL_die_134 rfl ?_
      obtain ⟨r15, hg, hf⟩ := bd1_some hf
      refine sw_callVA 135 G E 1 dL_die_135 (kG_cellSet hg) (gwV lk_06d903bd lk_0c6f94f4 lk_105ccd88 lk_5f14f758 lk_2d194fb3) rfl hvL_cellSet ⟨rfl, rfl⟩ ⟨Nat.le_of_ble_eq_true rfl, Nat.le_of_ble_eq_true rfl⟩ ⟨Nat.le_of_ble_eq_true rfl, Nat.le_of_ble_eq_true rfl⟩ rfl rfl (Nat.le_of_ble_eq_true rfl) 0 rfl vc5 rfl ?_
      refine sw_lconst 138 G (0 : Int64) dL_die_138 rfl ?_
      refine sw_lcmp 139 G dL_die_139 ?_
      obtain ⟨v16, hj, hf⟩ := bd1_some hf
      have hx163 : sw Θ p e rmL_die s m args below meth c A Q 10 0 0 163 [(0, .ref (ad 0)), (1, .long r1), (3, .long r2), (5, .long r3), (7, .int v6), (8, .int v8)] [.int v16] (wC Θ ad o_c) := by
        refine sw_istore 163 G [(9, .int v16), (0, .ref (ad 0)), (1, .long r1), (3, .long r2), (5, .long r3), (7, .int v6), (8, .int v8)] dL_die_163 (by decide) rfl ?_
        refine sw_aload_n 165 G dL_die_165 1 rfl ?_
        obtain ⟨r18, hg, hf⟩ := bd1_some hf
        refine sw_callSA 166 G E 1 dL_die_166 (kL_bends hg) (gwS lk_1142af91 lk_4f2e2f06 lk_b7b055cd lk_81c45d82) rfl hsL_bends ⟨rfl, rfl⟩ ⟨Nat.le_of_ble_eq_true rfl, Nat.le_of_ble_eq_true rfl⟩ ⟨Nat.le_of_ble_eq_true rfl, Nat.le_of_ble_eq_true rfl⟩ rfl rfl (Nat.le_of_ble_eq_true rfl) ?_
        refine sw_lload_n 169 G dL_die_169 2 rfl ?_
        refine sw_ldc2 170 G (List.mem_cons_of_mem _ lk_12c44eac) dL_die_170 ?_
        refine sw_lxor 173 G dL_die_173 ?_
        refine sw_land 174 G dL_die_174 ?_
        refine sw_lconst 175 G (0 : Int64) dL_die_175 rfl ?_
        refine sw_lcmp 176 G dL_die_176 ?_
        obtain ⟨v19, hj, hf⟩ := bd1_some hf
        have hx186 : sw Θ p e rmL_die s m args below meth c A Q 10 0 0 186 [(0, .ref (ad 0)), (1, .long r1), (3, .long r2), (5, .long r3), (7, .int v6), (8, .int v8)] [.int v19] (wC Θ ad o_c) := by
          refine sw_istore 186 G [(9, .int v19), (0, .ref (ad 0)), (1, .long r1), (3, .long r2), (5, .long r3), (7, .int v6), (8, .int v8)] dL_die_186 (by decide) rfl ?_
          refine sw_aload_n 188 G dL_die_188 1 rfl ?_
          refine sw_iconst 189 G (3 : Int32) dL_die_189 rfl ?_
          obtain ⟨r20, hg, hf⟩ := bd1_some hf
          refine sw_callVA 190 G E 1 dL_die_190 (kG_cellSet hg) (gwV lk_06d903bd lk_0c6f94f4 lk_105ccd88 lk_5f14f758 lk_2d194fb3) rfl hvL_cellSet ⟨rfl, rfl⟩ ⟨Nat.le_of_ble_eq_true rfl, Nat.le_of_ble_eq_true rfl⟩ ⟨Nat.le_of_ble_eq_true rfl, Nat.le_of_ble_eq_true rfl⟩ rfl rfl (Nat.le_of_ble_eq_true rfl) 0 rfl vc5 rfl ?_
          refine sw_lload 193 G dL_die_193 4 rfl ?_
          refine sw_land 195 G dL_die_195 ?_
          refine sw_lconst 196 G (0 : Int64) dL_die_196 rfl ?_
          refine sw_lcmp 197 G dL_die_197 ?_
          obtain ⟨v21, hj, hf⟩ := bd1_some hf
          have hx207 : sw Θ p e rmL_die s m args below meth c A Q 10 0 0 207 [(0, .ref (ad 0)), (1, .long r1), (3, .long r2), (7, .int v6), (8, .int v8)] [.int v21] (wC Θ ad o_c) := by
            refine sw_istore 207 G [(9, .int v21), (0, .ref (ad 0)), (1, .long r1), (3, .long r2), (7, .int v6), (8, .int v8)] dL_die_207 (by decide) rfl ?_
            refine sw_aload_n 209 G dL_die_209 1 rfl ?_
            refine sw_iconst 210 G (3 : Int32) dL_die_210 rfl ?_
            obtain ⟨r22, hg, hf⟩ := bd1_some hf
            refine sw_callVA 211 G E 1 dL_die_211 (kG_cellSet hg) (gwV lk_06d903bd lk_0c6f94f4 lk_105ccd88 lk_5f14f758 lk_2d194fb3) rfl hvL_cellSet ⟨rfl, rfl⟩ ⟨Nat.le_of_ble_eq_true rfl, Nat.le_of_ble_eq_true rfl⟩ ⟨Nat.le_of_ble_eq_true rfl, Nat.le_of_ble_eq_true rfl⟩ rfl rfl (Nat.le_of_ble_eq_true rfl) 0 rfl vc5 rfl ?_
            refine sw_lload_n 214 G dL_die_214 2 rfl ?_
            refine sw_lload_n 215 G dL_die_215 3 rfl ?_
            refine sw_lor 216 G dL_die_216 ?_
            refine sw_land 217 G dL_die_217 ?_
            refine sw_lconst 218 G (0 : Int64) dL_die_218 rfl ?_
            refine sw_lcmp 219 G dL_die_219 ?_
            obtain ⟨v23, hj, hf⟩ := bd1_some hf
            have hx229 : sw Θ p e rmL_die s m args below meth c A Q 10 0 0 229 [(0, .ref (ad 0)), (1, .long r1), (7, .int v6), (8, .int v8)] [.int v23] (wC Θ ad o_c) := by
              refine sw_istore 229 G [(9, .int v23), (0, .ref (ad 0)), (1, .long r1), (7, .int v6), (8, .int v8)] dL_die_229 (by decide) rfl ?_
              refine sw_lload_n 231 G dL_die_231 2 rfl ?_
              refine sw_lconst 232 G (0 : Int64) dL_die_232 rfl ?_
              refine sw_lcmp 233 G dL_die_233 ?_
              obtain ⟨v24, hj, hf⟩ := bd1_some hf
              have hx243 : sw Θ p e rmL_die s m args below meth c A Q 10 0 0 243 [(0, .ref (ad 0)), (1, .long r1), (7, .int v6), (8, .int v8)] [.int v24] (wC Θ ad o_c) := by
                refine sw_istore 243 G [(9, .int v24), (0, .ref (ad 0)), (1, .long r1), (7, .int v6), (8, .int v8)] dL_die_243 (by decide) rfl ?_
                refine sw_iload 245 G dL_die_245 4 rfl ?_
                obtain ⟨v25, hj, hf⟩ := bd1_some hf
                have hx280 : sw Θ p e rmL_die s m args below meth c A Q 10 0 0 280 [(0, .ref (ad 0)), (1, .long r1), (7, .int v6)] [.int v25] (wC Θ ad o_c) := by
                  refine sw_istore 280 G [(8, .int v25), (0, .ref (ad 0)), (1, .long r1), (7, .int v6)] dL_die_280 (by decide) rfl ?_
                  refine sw_iload 282 G dL_die_282 0 rfl ?_
                  refine sw_if_eq 284 334 G dL_die_284 rfl hf (fun hf => ?_) (fun hf => ?_)
                  · refine sw_iconst 334 G (0 : Int32) dL_die_334 rfl ?_
                    cases hf
                    exact sw_zretC 335 G dL_die_335 K rfl (Nat.le_of_ble_eq_true rfl) (Nat.le_of_ble_eq_true rfl)
                  · refine sw_aload_n 287 G dL_die_287 1 rfl ?_
                    refine sw_iconst 288 G (0 : Int32) dL_die_288 rfl ?_
                    obtain ⟨r28, hg, hf⟩ := bd1_some hf
                    refine sw_callVA 289 G E 1 dL_die_289 (kG_scrap hg) (gwV lk_c4f30399 lk_89c46ba6 lk_cc13ca5e lk_5f14f758 lk_c1d0049b) rfl hvL_scrap ⟨rfl, rfl⟩ ⟨Nat.le_of_ble_eq_true rfl, Nat.le_of_ble_eq_true rfl⟩ ⟨Nat.le_of_ble_eq_true rfl, Nat.le_of_ble_eq_true rfl⟩ rfl rfl (Nat.le_of_ble_eq_true rfl) 0 rfl vc5 rfl ?_
                    refine sw_sipush 292 G (1000 : Int32) dL_die_292 rfl ?_
                    refine sw_iload 295 G dL_die_295 3 rfl ?_
                    refine sw_lload_n 297 G dL_die_297 2 rfl ?_
                    obtain ⟨r29, hg, hf⟩ := bd1_some hf
                    refine sw_callSW 298 G 1 dL_die_298 (Fn.any _ (kL_ones Θ F r1 r29 hg)) (gwS lk_3cdd677e lk_37a662d3 lk_bed2f496 lk_98f15b9a) rfl hsL_ones ⟨rfl, rfl⟩ ⟨Nat.le_of_ble_eq_true rfl, Nat.le_of_ble_eq_true rfl⟩ ⟨Nat.le_of_ble_eq_true rfl, Nat.le_of_ble_eq_true rfl⟩ rfl rfl (Nat.le_of_ble_eq_true rfl) ?_
                    refine sw_isub 301 G dL_die_301 ?_
                    refine sw_imul 302 G dL_die_302 ?_
                    refine sw_iload 303 G dL_die_303 3 rfl ?_
                    refine sw_idiv 305 G dL_die_305 hf (fun hf => ?_)
                    refine sw_icmp_ne 306 334 G dL_die_306 rfl hf (fun hf => ?_) (fun hf => ?_)
                    · refine sw_iconst 334 G (0 : Int32) dL_die_334 rfl ?_
                      cases hf
                      exact sw_zretC 335 G dL_die_335 K rfl (Nat.le_of_ble_eq_true rfl) (Nat.le_of_ble_eq_true rfl)
                    · refine sw_aload_n 309 G dL_die_309 1 rfl ?_
                      obtain ⟨r30, hg, hf⟩ := bd1_some hf
                      refine sw_callVA 310 G E 0 dL_die_310 (kG_fitsTwice hg) (gwV lk_4e400950 lk_b6d8f630 lk_8f672cea lk_5f14f758 lk_fc6b1be2) rfl hvL_fitsTwice ⟨rfl, rfl⟩ ⟨Nat.le_of_ble_eq_true rfl, Nat.le_of_ble_eq_true rfl⟩ ⟨Nat.le_of_ble_eq_true rfl, Nat.le_of_ble_eq_true rfl⟩ rfl rfl (Nat.le_of_ble_eq_true rfl) 0 rfl vc5 rfl ?_
                      refine sw_iconst 313 G (1 : Int32) dL_die_313 rfl ?_
                      refine sw_icmp_eq 314 330 G dL_die_314 rfl hf (fun hf => ?_) (fun hf => ?_)
                      · refine sw_iconst 330 G (1 : Int32) dL_die_330 rfl ?_
                        refine sw_goto 331 G 335 dL_die_331 rfl ?_
                        cases hf
                        exact sw_zretC 335 G dL_die_335 K rfl (Nat.le_of_ble_eq_true rfl) (Nat.le_of_ble_eq_true rfl)
                      · refine sw_aload_n 317 G dL_die_317 1 rfl ?_
                        refine sw_iconst 318 G (1 : Int32) dL_die_318 rfl ?_
                        obtain ⟨r31, hg, hf⟩ := bd1_some hf
                        refine sw_callVA 319 G E 1 dL_die_319 (kG_scrap hg) (gwV lk_c4f30399 lk_89c46ba6 lk_cc13ca5e lk_5f14f758 lk_c1d0049b) rfl hvL_scrap ⟨rfl, rfl⟩ ⟨Nat.le_of_ble_eq_true rfl, Nat.le_of_ble_eq_true rfl⟩ ⟨Nat.le_of_ble_eq_true rfl, Nat.le_of_ble_eq_true rfl⟩ rfl rfl (Nat.le_of_ble_eq_true rfl) 0 rfl vc5 rfl ?_
                        refine sw_aload_n 322 G dL_die_322 1 rfl ?_
                        refine sw_iconst 323 G (0 : Int32) dL_die_323 rfl ?_
                        obtain ⟨r32, hg, hf⟩ := bd1_some hf
                        refine sw_callVA 324 G E 1 dL_die_324 (kG_scrap hg) (gwV lk_c4f30399 lk_89c46ba6 lk_cc13ca5e lk_5f14f758 lk_c1d0049b) rfl hvL_scrap ⟨rfl, rfl⟩ ⟨Nat.le_of_ble_eq_true rfl, Nat.le_of_ble_eq_true rfl⟩ ⟨Nat.le_of_ble_eq_true rfl, Nat.le_of_ble_eq_true rfl⟩ rfl rfl (Nat.le_of_ble_eq_true rfl) 0 rfl vc5 rfl ?_
                        refine sw_icmp_ne 327 334 G dL_die_327 rfl hf (fun hf => ?_) (fun hf => ?_)
                        · refine sw_iconst 334 G (0 : Int32) dL_die_334 rfl ?_
                          cases hf
                          exact sw_zretC 335 G dL_die_335 K rfl (Nat.le_of_ble_eq_true rfl) (Nat.le_of_ble_eq_true rfl)
                        · refine sw_iconst 330 G (1 : Int32) dL_die_330 rfl ?_
                          refine sw_goto 331 G 335 dL_die_331 rfl ?_
                          cases hf
                          exact sw_zretC 335 G dL_die_335 K rfl (Nat.le_of_ble_eq_true rfl) (Nat.le_of_ble_eq_true rfl)
                clear hf
                have hf := hj
                clear hj
                refine sw_if_eq 247 279 G dL_die_247 rfl hf (fun hf => ?_) (fun hf => ?_)
                · refine sw_iconst 279 G (0 : Int32) dL_die_279 rfl ?_
                  cases hf
                  exact sw_lv _ [1, 2, 3] rfl hx280
                · refine sw_aload_n 250 G dL_die_250 1 rfl ?_
                  obtain ⟨r26, hg, hf⟩ := bd1_some hf
                  refine sw_callVA 251 G E 0 dL_die_251 (kG_dieFault hg) (gwV lk_760201f3 lk_c462158b lk_41251719 lk_5f14f758 lk_f6a455e8) rfl hvL_dieFault ⟨rfl, rfl⟩ ⟨Nat.le_of_ble_eq_true rfl, Nat.le_of_ble_eq_true rfl⟩ ⟨Nat.le_of_ble_eq_true rfl, Nat.le_of_ble_eq_true rfl⟩ rfl rfl (Nat.le_of_ble_eq_true rfl) 0 rfl vc5 rfl ?_
                  refine sw_iload 254 G dL_die_254 0 rfl ?_
                  refine sw_icmp_ne 256 279 G dL_die_256 rfl hf (fun hf => ?_) (fun hf => ?_)
                  · refine sw_iconst 279 G (0 : Int32) dL_die_279 rfl ?_
                    cases hf
                    exact sw_lv _ [1, 2, 3] rfl hx280
                  · refine sw_aload_n 259 G dL_die_259 1 rfl ?_
                    refine sw_iconst 260 G (5 : Int32) dL_die_260 rfl ?_
                    obtain ⟨r27, hg, hf⟩ := bd1_some hf
                    refine sw_callVA 261 G E 1 dL_die_261 (kG_cellSet hg) (gwV lk_06d903bd lk_0c6f94f4 lk_105ccd88 lk_5f14f758 lk_2d194fb3) rfl hvL_cellSet ⟨rfl, rfl⟩ ⟨Nat.le_of_ble_eq_true rfl, Nat.le_of_ble_eq_true rfl⟩ ⟨Nat.le_of_ble_eq_true rfl, Nat.le_of_ble_eq_true rfl⟩ rfl rfl (Nat.le_of_ble_eq_true rfl) 0 rfl vc5 rfl ?_
                    refine sw_lload_n 264 G dL_die_264 2 rfl ?_
                    refine sw_ldc2 265 G (List.mem_cons_of_mem _ lk_12c44eac) dL_die_265 ?_
                    refine sw_lxor 268 G dL_die_268 ?_
                    refine sw_land 269 G dL_die_269 ?_
                    refine sw_lconst 270 G (0 : Int64) dL_die_270 rfl ?_
                    refine sw_lcmp 271 G dL_die_271 ?_
                    refine sw_if_ne 272 279 G dL_die_272 rfl hf (fun hf => ?_) (fun hf => ?_)
                    · refine sw_iconst 279 G (0 : Int32) dL_die_279 rfl ?_
                      cases hf
                      exact sw_lv _ [1, 2, 3] rfl hx280
                    · refine sw_iconst 275 G (1 : Int32) dL_die_275 rfl ?_
                      refine sw_goto 276 G 280 dL_die_276 rfl ?_
                      cases hf
                      exact sw_lv _ [1, 2, 3] rfl hx280
              clear hf
              have hf := hj
              clear hj
              refine sw_if_ne 234 241 G dL_die_234 rfl hf (fun hf => ?_) (fun hf => ?_)
              · refine sw_iload 241 G dL_die_241 0 rfl ?_
                cases hf
                exact sw_lv _ [1, 2, 3, 4] rfl hx243
              · refine sw_iconst 237 G (1 : Int32) dL_die_237 rfl ?_
                refine sw_goto 238 G 243 dL_die_238 rfl ?_
                cases hf
                exact sw_lv _ [1, 2, 3, 4] rfl hx243
            clear hf
            have hf := hj
            clear hj
            refine sw_if_eq 220 227 G dL_die_220 rfl hf (fun hf => ?_) (fun hf => ?_)
            · refine sw_iload 227 G dL_die_227 0 rfl ?_
              cases hf
              exact sw_lv _ [1, 2, 4, 5] rfl hx229
            · refine sw_iconst 223 G (2 : Int32) dL_die_223 rfl ?_
              refine sw_goto 224 G 229 dL_die_224 rfl ?_
              cases hf
              exact sw_lv _ [1, 2, 4, 5] rfl hx229
          clear hf
          have hf := hj
          clear hj
          refine sw_if_eq 198 205 G dL_die_198 rfl hf (fun hf => ?_) (fun hf => ?_)
          · refine sw_iload 205 G dL_die_205 0 rfl ?_
            cases hf
            exact sw_lv _ [1, 2, 3, 5, 6] rfl hx207
          · refine sw_iconst 201 G (3 : Int32) dL_die_201 rfl ?_
            refine sw_goto 202 G 207 dL_die_202 rfl ?_
            cases hf
            exact sw_lv _ [1, 2, 3, 5, 6] rfl hx207
        clear hf
        have hf := hj
        clear hj
        refine sw_if_eq 177 184 G dL_die_177 rfl hf (fun hf => ?_) (fun hf => ?_)
        · refine sw_iload 184 G dL_die_184 0 rfl ?_
          cases hf
          exact sw_lv _ [1, 2, 3, 4, 5, 6] rfl hx186
        · refine sw_iconst 180 G (4 : Int32) dL_die_180 rfl ?_
          refine sw_goto 181 G 186 dL_die_181 rfl ?_
          cases hf
          exact sw_lv _ [1, 2, 3, 4, 5, 6] rfl hx186
      clear hf
      have hf := hj
      clear hj
      refine sw_if_eq 140 147 G dL_die_140 rfl hf (fun hf => ?_) (fun hf => ?_)
      · refine sw_aload_n 147 G dL_die_147 1 rfl ?_
        refine sw_iconst 148 G (5 : Int32) dL_die_148 rfl ?_
        obtain ⟨r17, hg, hf⟩ := bd1_some hf
        refine sw_callVA 149 G E 1 dL_die_149 (kG_cellSet hg) (gwV lk_06d903bd lk_0c6f94f4 lk_105ccd88 lk_5f14f758 lk_2d194fb3) rfl hvL_cellSet ⟨rfl, rfl⟩ ⟨Nat.le_of_ble_eq_true rfl, Nat.le_of_ble_eq_true rfl⟩ ⟨Nat.le_of_ble_eq_true rfl, Nat.le_of_ble_eq_true rfl⟩ rfl rfl (Nat.le_of_ble_eq_true rfl) 0 rfl vc5 rfl ?_
        refine sw_lconst 152 G (0 : Int64) dL_die_152 rfl ?_
        refine sw_lcmp 153 G dL_die_153 ?_
        refine sw_if_eq 154 162 G dL_die_154 rfl hf (fun hf => ?_) (fun hf => ?_)
        · refine sw_iconst 162 G (0 : Int32) dL_die_162 rfl ?_
          cases hf
          exact sw_lv _ [1, 2, 3, 4, 5, 0] rfl hx163
        · refine sw_bipush 157 G (6 : Int32) dL_die_157 rfl ?_
          refine sw_goto 159 G 163 dL_die_159 rfl ?_
          cases hf
          exact sw_lv _ [1, 2, 3, 4, 5, 0] rfl hx163
      · refine sw_iconst 143 G (5 : Int32) dL_die_143 rfl ?_
        refine sw_goto 144 G 163 dL_die_144 rfl ?_
        cases hf
        exact sw_lv _ [1, 2, 3, 4, 5, 0] rfl hx163
    clear hf
    have hf := hj
    clear hj
    refine sw_if_eq 67 130 G dL_die_67 rfl hf (fun hf => ?_) (fun hf => ?_)
    · refine sw_iconst 130 G (0 : Int32) dL_die_130 rfl ?_
      cases hf
      exact sw_lv _ [1, 2, 3, 4, 5] rfl hx131
    · refine sw_lload 70 G dL_die_70 4 rfl ?_
      obtain ⟨r9, hg, hf⟩ := bd1_some hf
      refine sw_callSW 72 G 1 dL_die_72 (Fn.any _ (kL_ones Θ F r3 r9 hg)) (gwS lk_3cdd677e lk_37a662d3 lk_bed2f496 lk_98f15b9a) rfl hsL_ones ⟨rfl, rfl⟩ ⟨Nat.le_of_ble_eq_true rfl, Nat.le_of_ble_eq_true rfl⟩ ⟨Nat.le_of_ble_eq_true rfl, Nat.le_of_ble_eq_true rfl⟩ rfl rfl (Nat.le_of_ble_eq_true rfl) ?_
      refine sw_aload_n 75 G dL_die_75 1 rfl ?_
      refine sw_iconst 76 G (2 : Int32) dL_die_76 rfl ?_
      obtain ⟨r10, hg, hf⟩ := bd1_some hf
      refine sw_callVA 77 G E 1 dL_die_77 (kG_whole hg) (gwV lk_2847ce46 lk_00a700e4 lk_1397dd5c lk_5f14f758 lk_141fdf1b) rfl hvL_whole ⟨rfl, rfl⟩ ⟨Nat.le_of_ble_eq_true rfl, Nat.le_of_ble_eq_true rfl⟩ ⟨Nat.le_of_ble_eq_true rfl, Nat.le_of_ble_eq_true rfl⟩ rfl rfl (Nat.le_of_ble_eq_true rfl) 0 rfl vc5 rfl ?_
      refine sw_iconst 80 G (2 : Int32) dL_die_80 rfl ?_
      obtain ⟨v11, hj, hf⟩ := bd1_some hf
      have hx89 : sw Θ p e rmL_die s m args below meth c A Q 10 0 0 89 [(0, .ref (ad 0)), (1, .long r1), (3, .long r2), (5, .long r3), (7, .int v6)] [.int v11, .int r9] (wC Θ ad o_c) := by
        refine sw_aload_n 89 G dL_die_89 0 rfl ?_
        refine sw_iconst 90 G (0 : Int32) dL_die_90 rfl ?_
        obtain ⟨r12, hg, hf⟩ := bd1_some hf
        refine sw_callVA 91 G E 1 dL_die_91 (kG_whole hg) (gwV lk_2847ce46 lk_00a700e4 lk_1397dd5c lk_5f14f758 lk_141fdf1b) rfl hvL_whole ⟨rfl, rfl⟩ ⟨Nat.le_of_ble_eq_true rfl, Nat.le_of_ble_eq_true rfl⟩ ⟨Nat.le_of_ble_eq_true rfl, Nat.le_of_ble_eq_true rfl⟩ rfl rfl (Nat.le_of_ble_eq_true rfl) 0 rfl vc5 rfl ?_
        refine sw_imul 94 G dL_die_94 ?_
        refine sw_icmp_ne 95 130 G dL_die_95 rfl hf (fun hf => ?_) (fun hf => ?_)
        · refine sw_iconst 130 G (0 : Int32) dL_die_130 rfl ?_
          cases hf
          exact sw_lv _ [0, 1, 2, 3, 4] rfl hx131
        · refine sw_lload_n 98 G dL_die_98 1 rfl ?_
          refine sw_lload_n 99 G dL_die_99 2 rfl ?_
          refine sw_lor 100 G dL_die_100 ?_
          refine sw_lload 101 G dL_die_101 3 rfl ?_
          refine sw_lor 103 G dL_die_103 ?_
          refine sw_aload_n 104 G dL_die_104 0 rfl ?_
          refine sw_iconst 105 G (3 : Int32) dL_die_105 rfl ?_
          obtain ⟨r13, hg, hf⟩ := bd1_some hf
          refine sw_callVA 106 G E 1 dL_die_106 (kG_cellSet hg) (gwV lk_06d903bd lk_0c6f94f4 lk_105ccd88 lk_5f14f758 lk_2d194fb3) rfl hvL_cellSet ⟨rfl, rfl⟩ ⟨Nat.le_of_ble_eq_true rfl, Nat.le_of_ble_eq_true rfl⟩ ⟨Nat.le_of_ble_eq_true rfl, Nat.le_of_ble_eq_true rfl⟩ rfl rfl (Nat.le_of_ble_eq_true rfl) 0 rfl vc5 rfl ?_
          refine sw_lor 109 G dL_die_109 ?_
          refine sw_aload_n 110 G dL_die_110 0 rfl ?_
          refine sw_iconst 111 G (4 : Int32) dL_die_111 rfl ?_
          obtain ⟨r14, hg, hf⟩ := bd1_some hf
          refine sw_callVA 112 G E 1 dL_die_112 (kG_cellSet hg) (gwV lk_06d903bd lk_0c6f94f4 lk_105ccd88 lk_5f14f758 lk_2d194fb3) rfl hvL_cellSet ⟨rfl, rfl⟩ ⟨Nat.le_of_ble_eq_true rfl, Nat.le_of_ble_eq_true rfl⟩ ⟨Nat.le_of_ble_eq_true rfl, Nat.le_of_ble_eq_true rfl⟩ rfl rfl (Nat.le_of_ble_eq_true rfl) 0 rfl vc5 rfl ?_
          refine sw_lor 115 G dL_die_115 ?_
          refine sw_lconst 116 G (1 : Int64) dL_die_116 rfl ?_
          refine sw_iload 117 G dL_die_117 4 rfl ?_
          refine sw_lshl 119 G dL_die_119 ?_
          refine sw_lconst 120 G (1 : Int64) dL_die_120 rfl ?_
          refine sw_lsub 121 G dL_die_121 ?_
          refine sw_lcmp 122 G dL_die_122 ?_
          refine sw_if_ne 123 130 G dL_die_123 rfl hf (fun hf => ?_) (fun hf => ?_)
          · refine sw_iconst 130 G (0 : Int32) dL_die_130 rfl ?_
            cases hf
            exact sw_lv _ [0, 1, 2, 3, 4] rfl hx131
          · refine sw_iconst 126 G (1 : Int32) dL_die_126 rfl ?_
            refine sw_goto 127 G 131 dL_die_127 rfl ?_
            cases hf
            exact sw_lv _ [0, 1, 2, 3, 4] rfl hx131
      clear hf
      have hf := hj
      clear hj
      refine sw_icmp_ne 81 88 G dL_die_81 rfl hf (fun hf => ?_) (fun hf => ?_)
      · refine sw_iconst 88 G (1 : Int32) dL_die_88 rfl ?_
        cases hf
        exact sw_lv _ [1, 2, 3, 4, 5] rfl hx89
      · refine sw_iconst 84 G (2 : Int32) dL_die_84 rfl ?_
        refine sw_goto 85 G 89 dL_die_85 rfl ?_
        cases hf
        exact sw_lv _ [1, 2, 3, 4, 5] rfl hx89
  clear hf
  have hf := hj
  clear hj
  refine sw_if_ne 37 62 G dL_die_37 rfl hf (fun hf => ?_) (fun hf => ?_)
  · refine sw_iconst 62 G (0 : Int32) dL_die_62 rfl ?_
    cases hf
    exact sw_lv _ [4, 3, 2, 1, 0] rfl hx63
  · refine sw_lload_n 40 G dL_die_40 3 rfl ?_
    refine sw_lload 41 G dL_die_41 1 rfl ?_
    refine sw_land 43 G dL_die_43 ?_
    refine sw_lconst 44 G (0 : Int64) dL_die_44 rfl ?_
    refine sw_lcmp 45 G dL_die_45 ?_
    refine sw_if_ne 46 62 G dL_die_46 rfl hf (fun hf => ?_) (fun hf => ?_)
    · refine sw_iconst 62 G (0 : Int32) dL_die_62 rfl ?_
      cases hf
      exact sw_lv _ [4, 3, 2, 1, 0] rfl hx63
    · refine sw_lload_n 49 G dL_die_49 2 rfl ?_
      refine sw_lload 50 G dL_die_50 1 rfl ?_
      refine sw_land 52 G dL_die_52 ?_
      refine sw_lconst 53 G (0 : Int64) dL_die_53 rfl ?_
      refine sw_lcmp 54 G dL_die_54 ?_
      refine sw_if_ne 55 62 G dL_die_55 rfl hf (fun hf => ?_) (fun hf => ?_)
      · refine sw_iconst 62 G (0 : Int32) dL_die_62 rfl ?_
        cases hf
        exact sw_lv _ [4, 3, 2, 1, 0] rfl hx63
      · refine sw_iconst 58 G (1 : Int32) dL_die_58 rfl ?_
        refine sw_goto 59 G 63 dL_die_59 rfl ?_
        cases hf
        exact sw_lv _ [4, 3, 2, 1, 0] rfl hx63
