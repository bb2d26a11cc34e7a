theorem lk_29828d51 : Cond.initialized yL_strokes.cls ∈ GW := GW_of 17 (by decide +kernel) (by decide +kernel)
theorem lk_61ff4590 : Cond.initialized yL_undo.cls ∈ GW := GW_of 17 (by decide +kernel) (by decide +kernel)
theorem lk_574aca29 : Cond.initialized yL_usePlan.cls ∈ GW := GW_of 17 (by decide +kernel) (by decide +kernel)
theorem lk_60bdbdd1 : Cond.initialized yL_place.cls ∈ GW := GW_of 17 (by decide +kernel) (by decide +kernel)
theorem lk_58b5b752 : Cond.initialized yL_adds.cls ∈ GW := GW_of 17 (by decide +kernel) (by decide +kernel)
theorem lk_ce95dbe4 : Cond.initialized yL_marks.cls ∈ GW := GW_of 17 (by decide +kernel) (by decide +kernel)
theorem lk_bdfd6b88 : Cond.methodLink RL 118 yL_marks ∈ GW := GW_of 627 (by decide +kernel) (by decide +kernel)
theorem lk_5acea4df : Cond.static yL_marks ∈ GW := GW_of 628 (by decide +kernel) (by decide +kernel)
theorem lk_03270d5a : Cond.code yL_marks cL_marks 9 (some .boolean) ∈ GW := GW_of 629 (by decide +kernel) (by decide +kernel)
theorem lk_7fd5366c : Cond.methodLink RL 122 yL_adds ∈ GW := GW_of 649 (by decide +kernel) (by decide +kernel)
theorem lk_ada2f5c6 : Cond.static yL_adds ∈ GW := GW_of 650 (by decide +kernel) (by decide +kernel)
theorem lk_21505aa2 : Cond.code yL_adds cL_adds 9 (some .boolean) ∈ GW := GW_of 651 (by decide +kernel) (by decide +kernel)
theorem lk_bd0084f9 : Cond.methodLink RL 125 yL_place ∈ GW := GW_of 704 (by decide +kernel) (by decide +kernel)
theorem lk_8caf3755 : Cond.static yL_place ∈ GW := GW_of 705 (by decide +kernel) (by decide +kernel)
theorem lk_45303d9d : Cond.codeWith yL_place cL_place 4 (some .int) [(0, 6, 7, 31), (0, 6, 11, 15)] ∈ GW := GW_of 706 (by decide +kernel) (by decide +kernel)
theorem lk_981e98bb : Cond.methodLink RL 129 yL_usePlan ∈ GW := GW_of 714 (by decide +kernel) (by decide +kernel)
theorem lk_bbb2045f : Cond.static yL_usePlan ∈ GW := GW_of 715 (by decide +kernel) (by decide +kernel)
theorem lk_11a9fc3e : Cond.codeWith yL_usePlan cL_usePlan 2 (some .int) [(0, 4, 5, 21)] ∈ GW := GW_of 716 (by decide +kernel) (by decide +kernel)
theorem lk_776792f9 : Cond.methodLink RL 132 yX5_set ∈ GW := GW_of 727 (by decide +kernel) (by decide +kernel)
theorem lk_2a48d3d5 : Cond.instanceMethod yX5_set ∈ GW := GW_of 728 (by decide +kernel) (by decide +kernel)
theorem lk_d6ab3072 : Cond.selects RX5 yX5_set yX5_set ∈ GW := GW_of 729 (by decide +kernel) (by decide +kernel)
theorem lk_539c27f1 : Cond.code yX5_set cX5_set 4 (some .int) ∈ GW := GW_of 730 (by decide +kernel) (by decide +kernel)
theorem lk_49ad69af : Cond.methodLink RL 135 yX5_setCarrier ∈ GW := GW_of 740 (by decide +kernel) (by decide +kernel)
theorem lk_d2fa5e10 : Cond.instanceMethod yX5_setCarrier ∈ GW := GW_of 741 (by decide +kernel) (by decide +kernel)
theorem lk_cbe52151 : Cond.selects RX5 yX5_setCarrier yX5_setCarrier ∈ GW := GW_of 742 (by decide +kernel) (by decide +kernel)
theorem lk_45df704e : Cond.code yX5_setCarrier cX5_setCarrier 3 (some .int) ∈ GW := GW_of 743 (by decide +kernel) (by decide +kernel)
theorem lk_28eee17b : Cond.methodLink RL 138 yX5_setPilot ∈ GW := GW_of 745 (by decide +kernel) (by decide +kernel)
theorem lk_40f3d831 : Cond.instanceMethod yX5_setPilot ∈ GW := GW_of 746 (by decide +kernel) (by decide +kernel)
theorem lk_07ec6a66 : Cond.selects RX5 yX5_setPilot yX5_setPilot ∈ GW := GW_of 747 (by decide +kernel) (by decide +kernel)
theorem lk_fd75268e : Cond.code yX5_setPilot cX5_setPilot 3 (some .int) ∈ GW := GW_of 748 (by decide +kernel) (by decide +kernel)
theorem lk_e7fc118a : Cond.methodLink RL 142 yL_undo ∈ GW := GW_of 753 (by decide +kernel) (by decide +kernel)
theorem lk_14169585 : Cond.static yL_undo ∈ GW := GW_of 754 (by decide +kernel) (by decide +kernel)
theorem lk_73be2e0f : Cond.codeWith yL_undo cL_undo 2 (some .int) [(0, 4, 5, 21)] ∈ GW := GW_of 755 (by decide +kernel) (by decide +kernel)
theorem lk_4e67c44e : Cond.methodLink RL 144 yX5_dropOperation ∈ GW := GW_of 761 (by decide +kernel) (by decide +kernel)
theorem lk_2996caba : Cond.instanceMethod yX5_dropOperation ∈ GW := GW_of 762 (by decide +kernel) (by decide +kernel)
theorem lk_d1f18657 : Cond.selects RX5 yX5_dropOperation yX5_dropOperation ∈ GW := GW_of 763 (by decide +kernel) (by decide +kernel)
theorem lk_7f6e1b6a : Cond.code yX5_dropOperation cX5_dropOperation 2 (some .int) ∈ GW := GW_of 764 (by decide +kernel) (by decide +kernel)
theorem lk_81e9d973 : Cond.methodLink RL 147 yL_strokes ∈ GW := GW_of 773 (by decide +kernel) (by decide +kernel)
theorem lk_7e8b50ff : Cond.static yL_strokes ∈ GW := GW_of 774 (by decide +kernel) (by decide +kernel)
theorem lk_0ac19ea1 : Cond.code yL_strokes cL_strokes 8 (some .boolean) ∈ GW := GW_of 775 (by decide +kernel) (by decide +kernel)
abbrev rmL_acts : Room := { frames := 11, cells := 3, slots := 18, locals := 384 }
theorem hsL_acts : yL_acts.cls ≠ "java/lang/invoke/MethodHandle" ∧ yL_acts.cls ≠ "java/lang/invoke/VarHandle" ∧ (parseMethodDescriptor yL_acts.desc).map (fun d => d.parameters.length) = some 4 := by decide +kernel
set_option maxRecDepth 100000 in
set_option maxHeartbeats 4000000 in
theorem kL_acts {Θ : Tht} {KE : (Nat → Nat) × (Nat → Nat)} {ad : Nat → Nat} {F : Nat} {o_c : CSt} {a1 : Int32} {a2 : Int32} {a3 : Int32} {ro : Int32} {c2 : CSt} (hST : Θ.1.stackTraces = false) (hf : fL_acts F o_c a1 a2 a3 = some (ro, c2)) : FC Θ KE 3 18 yL_acts (Cond.code yL_acts cL_acts 10 (some .boolean) :: GW) rmL_acts [.ref (ad 0), .int a1, .int a2, .int a3] (wC Θ ad o_c) (some (.int ro)) (wC Θ ad c2) := by
  delta fL_acts at hf
  refine FC.ofK (by decide +kernel) rfl (Nat.le_of_ble_eq_true rfl) (fun p e s m args below meth c A Q G K E => ?_)
  show sw Θ p e rmL_acts s m args below meth c A Q 10 0 0 0 [(0, .ref (ad 0)), (1, .int a1), (2, .int a2), (3, .int a3)] [] (wC Θ ad o_c)
  refine sw_iload_n 0 G dL_acts_0 1 rfl ?_
  refine sw_bipush 1 G (18 : Int32) dL_acts_1 rfl ?_
  obtain ⟨r1, hg, hf⟩ := bd1_some hf
  refine sw_callSW 3 G 2 dL_acts_3 (Fn.any _ (kL_low Θ a1 (18 : Int32) r1 hg)) (gwS lk_ec621e3c lk_49b37618 lk_d05d3c57 lk_75682ede) rfl hsL_low ⟨rfl, rfl⟩ ⟨Nat.le_of_ble_eq_true rfl, Nat.le_of_ble_eq_true rfl⟩ ⟨Nat.le_of_ble_eq_true rfl, Nat.le_of_ble_eq_true rfl⟩ rfl rfl (Nat.le_of_ble_eq_true rfl) ?_
  refine sw_istore 6 G [(4, .int r1), (0, .ref (ad 0)), (1, .int a1), (2, .int a2), (3, .int a3)] dL_acts_6 (by decide) rfl ?_
  refine sw_aload_n 8 G dL_acts_8 1 rfl ?_
  refine sw_bipush 9 G (8 : Int32) dL_acts_9 rfl ?_
  obtain ⟨r2, hg, hf⟩ := bd1_some hf
  refine sw_callVA 11 G E 1 dL_acts_11 (kG_whole hg) (gwV lk_2847ce46 lk_00a700e4 lk_1397dd5c lk_5f14f758 lk_141fdf1b) rfl hvL_whole ⟨rfl, rfl⟩ ⟨Nat.le_of_ble_eq_true rfl, Nat.le_of_ble_eq_true rfl⟩ ⟨Nat.le_of_ble_eq_true rfl, Nat.le_of_ble_eq_true rfl⟩ rfl rfl (Nat.le_of_ble_eq_true rfl) 0 rfl vc5 rfl ?_
  refine sw_istore 14 G [(5, .int r2), (4, .int r1), (0, .ref (ad 0)), (1, .int a1), (2, .int a2), (3, .int a3)] dL_acts_14 (by decide) rfl ?_
  refine sw_iconst 16 G (1 : Int32) dL_acts_16 rfl ?_
  refine sw_istore 17 G [(6, .int (1 : Int32)), (5, .int r2), (4, .int r1), (0, .ref (ad 0)), (1, .int a1), (2, .int a2), (3, .int a3)] dL_acts_17 (by decide) rfl ?_
  refine sw_iload 19 G dL_acts_19 2 rfl ?_
  refine sw_iconst 21 G (3 : Int32) dL_acts_21 rfl ?_
  refine sw_icmp_ge 22 36 G dL_acts_22 rfl hf (fun hf => ?_) (fun hf => ?_)
  · refine sw_iload 36 G dL_acts_36 2 rfl ?_
    refine sw_bipush 38 G (6 : Int32) dL_acts_38 rfl ?_
    refine sw_icmp_ge 40 54 G dL_acts_40 rfl hf (fun hf => ?_) (fun hf => ?_)
    · refine sw_iload 54 G dL_acts_54 2 rfl ?_
      refine sw_bipush 56 G (9 : Int32) dL_acts_56 rfl ?_
      refine sw_icmp_ge 58 140 G dL_acts_58 rfl hf (fun hf => ?_) (fun hf => ?_)
      · refine sw_iload 140 G dL_acts_140 2 rfl ?_
        refine sw_bipush 142 G (9 : Int32) dL_acts_142 rfl ?_
        refine sw_icmp_ne 144 208 G dL_acts_144 rfl hf (fun hf => ?_) (fun hf => ?_)
        · refine sw_iload 208 G dL_acts_208 2 rfl ?_
          refine sw_bipush 210 G (10 : Int32) dL_acts_210 rfl ?_
          refine sw_icmp_ne 212 262 G dL_acts_212 rfl hf (fun hf => ?_) (fun hf => ?_)
          · refine sw_iload 262 G dL_acts_262 2 rfl ?_
            refine sw_bipush 264 G (11 : Int32) dL_acts_264 rfl ?_
            refine sw_icmp_ne 266 304 G dL_acts_266 rfl hf (fun hf => ?_) (fun hf => ?_)
            · refine sw_iload 304 G dL_acts_304 2 rfl ?_
              refine sw_bipush 306 G (12 : Int32) dL_acts_306 rfl ?_
              refine sw_icmp_ne 308 380 G dL_acts_308 rfl hf (fun hf => ?_) (fun hf => ?_)
              · refine sw_iload 380 G dL_acts_380 2 rfl ?_
                refine sw_bipush 382 G (13 : Int32) dL_acts_382 rfl ?_
                refine sw_icmp_ne 384 395 G dL_acts_384 rfl hf (fun hf => ?_) (fun hf => ?_)
                · refine sw_iload 395 G dL_acts_395 2 rfl ?_
                  refine sw_bipush 397 G (14 : Int32) dL_acts_397 rfl ?_
                  refine sw_icmp_ne 399 434 G dL_acts_399 rfl hf (fun hf => ?_) (fun hf => ?_)
                  · refine sw_aload_n 434 G dL_acts_434 3 rfl ?_
                    obtain ⟨r3, u4, hg, hf⟩ := bd2_some hf
                    refine sw_callSA 435 G E 1 dL_acts_435 (kL_strokes hg) (gwS lk_81e9d973 lk_7e8b50ff lk_29828d51 lk_0ac19ea1) rfl hsL_strokes ⟨rfl, rfl⟩ ⟨Nat.le_of_ble_eq_true rfl, Nat.le_of_ble_eq_true rfl⟩ ⟨Nat.le_of_ble_eq_true rfl, Nat.le_of_ble_eq_true rfl⟩ rfl rfl (Nat.le_of_ble_eq_true rfl) ?_
                    refine sw_istore 438 G [(6, .int r3), (5, .int r2), (4, .int r1), (0, .ref (ad 0)), (1, .int a1), (2, .int a2), (3, .int a3)] dL_acts_438 (by decide) rfl ?_
                    refine sw_iload 440 G dL_acts_440 0 rfl ?_
                    obtain ⟨hz, hf⟩ := gb_some hf
                    cases hf
                    exact sw_zretC 442 G dL_acts_442 K hz (Nat.le_of_ble_eq_true rfl) (Nat.le_of_ble_eq_true rfl)
                  · refine sw_iload 402 G dL_acts_402 1 rfl ?_
                    obtain ⟨v5, v6, hj, hf⟩ := bd2_some hf
                    have hx429 : sw Θ p e rmL_acts s m args below meth c A Q 10 0 0 429 [] [.int v5] (wC Θ ad v6) := by
                      refine sw_istore 429 G [(6, .int v5)] dL_acts_429 (by decide) rfl ?_
                      refine sw_goto 431 G 440 dL_acts_431 rfl ?_
                      refine sw_iload 440 G dL_acts_440 0 rfl ?_
                      obtain ⟨hz, hf⟩ := gb_some hf
                      cases hf
                      exact sw_zretC 442 G dL_acts_442 K hz (Nat.le_of_ble_eq_true rfl) (Nat.le_of_ble_eq_true rfl)
                    clear hf
                    have hf := hj
                    clear hj
                    refine sw_if_eq 404 424 G dL_acts_404 rfl hf (fun hf => ?_) (fun hf => ?_)
                    · refine sw_iconst 424 G (1 : Int32) dL_acts_424 rfl ?_
                      refine sw_goto 425 G 429 dL_acts_425 rfl ?_
                      cases hf
                      exact sw_lv _ [] rfl hx429
                    · refine sw_aload_n 407 G dL_acts_407 3 rfl ?_
                      refine sw_iload_n 408 G dL_acts_408 5 rfl ?_
                      refine sw_iload 409 G dL_acts_409 1 rfl ?_
                      obtain ⟨r7, hg, hf⟩ := bd1_some hf
                      refine sw_callSW 411 G 2 dL_acts_411 (Fn.any _ (kL_low Θ a2 r2 r7 hg)) (gwS lk_ec621e3c lk_49b37618 lk_d05d3c57 lk_75682ede) rfl hsL_low ⟨rfl, rfl⟩ ⟨Nat.le_of_ble_eq_true rfl, Nat.le_of_ble_eq_true rfl⟩ ⟨Nat.le_of_ble_eq_true rfl, Nat.le_of_ble_eq_true rfl⟩ rfl rfl (Nat.le_of_ble_eq_true rfl) ?_
                      obtain ⟨r8, u9, hg, hf⟩ := bd2_some hf
                      refine sw_callVA 414 G E 1 dL_acts_414 (kG_dropOperation hg) (gwV lk_4e67c44e lk_2996caba lk_d1f18657 lk_5f14f758 lk_7f6e1b6a) rfl hvL_dropOperation ⟨rfl, rfl⟩ ⟨Nat.le_of_ble_eq_true rfl, Nat.le_of_ble_eq_true rfl⟩ ⟨Nat.le_of_ble_eq_true rfl, Nat.le_of_ble_eq_true rfl⟩ rfl rfl (Nat.le_of_ble_eq_true rfl) 0 rfl vc5 rfl ?_
                      refine sw_iload 417 G dL_acts_417 1 rfl ?_
                      refine sw_iconst 419 G (1 : Int32) dL_acts_419 rfl ?_
                      refine sw_isub 420 G dL_acts_420 ?_
                      refine sw_icmp_ne 421 428 G dL_acts_421 rfl hf (fun hf => ?_) (fun hf => ?_)
                      · refine sw_iconst 428 G (0 : Int32) dL_acts_428 rfl ?_
                        cases hf
                        exact sw_lv _ [] rfl hx429
                      · refine sw_iconst 424 G (1 : Int32) dL_acts_424 rfl ?_
                        refine sw_goto 425 G 429 dL_acts_425 rfl ?_
                        cases hf
                        exact sw_lv _ [] rfl hx429
                · refine sw_aload_n 387 G dL_acts_387 3 rfl ?_
                  obtain ⟨r10, u11, hg, hf⟩ := bd2_some hf
                  refine sw_callSH 388 G E 1 dL_acts_388 (kL_undo hST hg) (gwH lk_e7fc118a lk_14169585 lk_61ff4590 lk_73be2e0f) rfl hsL_undo ⟨rfl, rfl⟩ ⟨Nat.le_of_ble_eq_true rfl, Nat.le_of_ble_eq_true rfl⟩ ⟨Nat.le_of_ble_eq_true rfl, Nat.le_of_ble_eq_true rfl⟩ rfl rfl (Nat.le_of_ble_eq_true rfl) ?_
                  refine sw_pop 391 G dL_acts_391 rfl ?_
                  refine sw_goto 392 G 440 dL_acts_392 rfl ?_
                  refine sw_iload 440 G dL_acts_440 0 rfl ?_
                  cases hf
                  exact sw_zretC 442 G dL_acts_442 K rfl (Nat.le_of_ble_eq_true rfl) (Nat.le_of_ble_eq_true rfl)
              · refine sw_aload_n 311 G dL_acts_311 3 rfl ?_
                refine sw_iload_n 312 G dL_acts_312 5 rfl ?_
                refine sw_bipush 313 G (8 : Int32) dL_acts_313 rfl ?_
                obtain ⟨r12, hg, hf⟩ := bd1_some hf
                refine sw_callSW 315 G 2 dL_acts_315 (Fn.any _ (kL_low Θ a2 (8 : Int32) r12 hg)) (gwS lk_ec621e3c lk_49b37618 lk_d05d3c57 lk_75682ede) rfl hsL_low ⟨rfl, rfl⟩ ⟨Nat.le_of_ble_eq_true rfl, Nat.le_of_ble_eq_true rfl⟩ ⟨Nat.le_of_ble_eq_true rfl, Nat.le_of_ble_eq_true rfl⟩ rfl rfl (Nat.le_of_ble_eq_true rfl) ?_
                refine sw_iload_n 318 G dL_acts_318 6 rfl ?_
                refine sw_iconst 319 G (2 : Int32) dL_acts_319 rfl ?_
                obtain ⟨r13, hg, hf⟩ := bd1_some hf
                refine sw_callSW 320 G 2 dL_acts_320 (Fn.any _ (kL_low Θ a3 (2 : Int32) r13 hg)) (gwS lk_ec621e3c lk_49b37618 lk_d05d3c57 lk_75682ede) rfl hsL_low ⟨rfl, rfl⟩ ⟨Nat.le_of_ble_eq_true rfl, Nat.le_of_ble_eq_true rfl⟩ ⟨Nat.le_of_ble_eq_true rfl, Nat.le_of_ble_eq_true rfl⟩ rfl rfl (Nat.le_of_ble_eq_true rfl) ?_
                obtain ⟨v14, hj, hf⟩ := bd1_some hf
                have hx331 : sw Θ p e rmL_acts s m args below meth c A Q 10 0 0 331 [(0, .ref (ad 0)), (2, .int a2), (3, .int a3)] [.int v14, .int r12, .ref (ad 0)] (wC Θ ad o_c) := by
                  obtain ⟨r15, u16, hg, hf⟩ := bd2_some hf
                  refine sw_callVA 331 G E 2 dL_acts_331 (kG_setPilot hg) (gwV lk_28eee17b lk_40f3d831 lk_07ec6a66 lk_5f14f758 lk_fd75268e) rfl hvL_setPilot ⟨rfl, rfl⟩ ⟨Nat.le_of_ble_eq_true rfl, Nat.le_of_ble_eq_true rfl⟩ ⟨Nat.le_of_ble_eq_true rfl, Nat.le_of_ble_eq_true rfl⟩ rfl rfl (Nat.le_of_ble_eq_true rfl) 0 rfl vc5 rfl ?_
                  refine sw_aload_n 334 G dL_acts_334 0 rfl ?_
                  refine sw_bipush 335 G (15 : Int32) dL_acts_335 rfl ?_
                  obtain ⟨r17, hg, hf⟩ := bd1_some hf
                  refine sw_callVA 337 G E 1 dL_acts_337 (kG_whole hg) (gwV lk_2847ce46 lk_00a700e4 lk_1397dd5c lk_5f14f758 lk_141fdf1b) rfl hvL_whole ⟨rfl, rfl⟩ ⟨Nat.le_of_ble_eq_true rfl, Nat.le_of_ble_eq_true rfl⟩ ⟨Nat.le_of_ble_eq_true rfl, Nat.le_of_ble_eq_true rfl⟩ rfl rfl (Nat.le_of_ble_eq_true rfl) 0 rfl vc5 rfl ?_
                  obtain ⟨v18, hj, hf⟩ := bd1_some hf
                  have hx375 : sw Θ p e rmL_acts s m args below meth c A Q 10 0 0 375 [] [.int v18] (wC Θ ad u16) := by
                    refine sw_istore 375 G [(6, .int v18)] dL_acts_375 (by decide) rfl ?_
                    refine sw_goto 377 G 440 dL_acts_377 rfl ?_
                    refine sw_iload 440 G dL_acts_440 0 rfl ?_
                    obtain ⟨hz, hf⟩ := gb_some hf
                    cases hf
                    exact sw_zretC 442 G dL_acts_442 K hz (Nat.le_of_ble_eq_true rfl) (Nat.le_of_ble_eq_true rfl)
                  clear hf
                  have hf := hj
                  clear hj
                  refine sw_icmp_ne 340 374 G dL_acts_340 rfl hf (fun hf => ?_) (fun hf => ?_)
                  · refine sw_iconst 374 G (0 : Int32) dL_acts_374 rfl ?_
                    cases hf
                    exact sw_lv _ [] rfl hx375
                  · refine sw_aload_n 343 G dL_acts_343 0 rfl ?_
                    refine sw_iload_n 344 G dL_acts_344 1 rfl ?_
                    refine sw_bipush 345 G (8 : Int32) dL_acts_345 rfl ?_
                    obtain ⟨r19, hg, hf⟩ := bd1_some hf
                    refine sw_callSW 347 G 2 dL_acts_347 (Fn.any _ (kL_low Θ a2 (8 : Int32) r19 hg)) (gwS lk_ec621e3c lk_49b37618 lk_d05d3c57 lk_75682ede) rfl hsL_low ⟨rfl, rfl⟩ ⟨Nat.le_of_ble_eq_true rfl, Nat.le_of_ble_eq_true rfl⟩ ⟨Nat.le_of_ble_eq_true rfl, Nat.le_of_ble_eq_true rfl⟩ rfl rfl (Nat.le_of_ble_eq_true rfl) ?_
                    refine sw_iconst 350 G (2 : Int32) dL_acts_350 rfl ?_
                    obtain ⟨r20, hg, hf⟩ := bd1_some hf
                    refine sw_callVA 351 G E 2 dL_acts_351 (kG_station hg) (gwV lk_e5df554d lk_954be666 lk_48b8789b lk_5f14f758 lk_0e1ef4ca) rfl hvL_station ⟨rfl, rfl⟩ ⟨Nat.le_of_ble_eq_true rfl, Nat.le_of_ble_eq_true rfl⟩ ⟨Nat.le_of_ble_eq_true rfl, Nat.le_of_ble_eq_true rfl⟩ rfl rfl (Nat.le_of_ble_eq_true rfl) 0 rfl vc5 rfl ?_
                    refine sw_iload_n 354 G dL_acts_354 2 rfl ?_
                    refine sw_iconst 355 G (2 : Int32) dL_acts_355 rfl ?_
                    obtain ⟨r21, hg, hf⟩ := bd1_some hf
                    refine sw_callSW 356 G 2 dL_acts_356 (Fn.any _ (kL_low Θ a3 (2 : Int32) r21 hg)) (gwS lk_ec621e3c lk_49b37618 lk_d05d3c57 lk_75682ede) rfl hsL_low ⟨rfl, rfl⟩ ⟨Nat.le_of_ble_eq_true rfl, Nat.le_of_ble_eq_true rfl⟩ ⟨Nat.le_of_ble_eq_true rfl, Nat.le_of_ble_eq_true rfl⟩ rfl rfl (Nat.le_of_ble_eq_true rfl) ?_
                    obtain ⟨v22, hj, hf⟩ := bd1_some hf
                    have hx367 : sw Θ p e rmL_acts s m args below meth c A Q 10 0 0 367 [] [.int v22, .int r20] (wC Θ ad u16) := by
                      refine sw_icmp_ne 367 374 G dL_acts_367 rfl hf (fun hf => ?_) (fun hf => ?_)
                      · refine sw_iconst 374 G (0 : Int32) dL_acts_374 rfl ?_
                        cases hf
                        exact sw_lv _ [] rfl hx375
                      · refine sw_iconst 370 G (1 : Int32) dL_acts_370 rfl ?_
                        refine sw_goto 371 G 375 dL_acts_371 rfl ?_
                        cases hf
                        exact sw_lv _ [] rfl hx375
                    clear hf
                    have hf := hj
                    clear hj
                    refine sw_if_ne 359 366 G dL_acts_359 rfl hf (fun hf => ?_) (fun hf => ?_)
                    · refine sw_iconst 366 G (0 : Int32) dL_acts_366 rfl ?_
                      cases hf
                      exact sw_lv _ [] rfl hx367
                    · refine sw_iconst 362 G (1 : Int32) dL_acts_362 rfl ?_
                      refine sw_goto 363 G 367 dL_acts_363 rfl ?_
                      cases hf
                      exact sw_lv _ [] rfl hx367
                clear hf
                have hf := hj
                clear hj
                refine sw_if_ne 323 330 G dL_acts_323 rfl hf (fun hf => ?_) (fun hf => ?_)
                · refine sw_iconst 330 G (0 : Int32) dL_acts_330 rfl ?_
                  cases hf
                  exact sw_lv _ [3, 5, 6] rfl hx331
                · refine sw_iconst 326 G (1 : Int32) dL_acts_326 rfl ?_
                  refine sw_goto 327 G 331 dL_acts_327 rfl ?_
                  cases hf
                  exact sw_lv _ [3, 5, 6] rfl hx331
            · refine sw_aload_n 269 G dL_acts_269 3 rfl ?_
              refine sw_iload_n 270 G dL_acts_270 5 rfl ?_
              refine sw_iconst 271 G (3 : Int32) dL_acts_271 rfl ?_
              obtain ⟨r23, hg, hf⟩ := bd1_some hf
              refine sw_callSW 272 G 2 dL_acts_272 (Fn.any _ (kL_low Θ a2 (3 : Int32) r23 hg)) (gwS lk_ec621e3c lk_49b37618 lk_d05d3c57 lk_75682ede) rfl hsL_low ⟨rfl, rfl⟩ ⟨Nat.le_of_ble_eq_true rfl, Nat.le_of_ble_eq_true rfl⟩ ⟨Nat.le_of_ble_eq_true rfl, Nat.le_of_ble_eq_true rfl⟩ rfl rfl (Nat.le_of_ble_eq_true rfl) ?_
              obtain ⟨r24, u25, hg, hf⟩ := bd2_some hf
              refine sw_callVA 275 G E 1 dL_acts_275 (kG_setCarrier hg) (gwV lk_49ad69af lk_d2fa5e10 lk_cbe52151 lk_5f14f758 lk_45df704e) rfl hvL_setCarrier ⟨rfl, rfl⟩ ⟨Nat.le_of_ble_eq_true rfl, Nat.le_of_ble_eq_true rfl⟩ ⟨Nat.le_of_ble_eq_true rfl, Nat.le_of_ble_eq_true rfl⟩ rfl rfl (Nat.le_of_ble_eq_true rfl) 0 rfl vc5 rfl ?_
              obtain ⟨v26, hj, hf⟩ := bd1_some hf
              have hx299 : sw Θ p e rmL_acts s m args below meth c A Q 10 0 0 299 [] [.int v26] (wC Θ ad u25) := by
                refine sw_istore 299 G [(6, .int v26)] dL_acts_299 (by decide) rfl ?_
                refine sw_goto 301 G 440 dL_acts_301 rfl ?_
                refine sw_iload 440 G dL_acts_440 0 rfl ?_
                obtain ⟨hz, hf⟩ := gb_some hf
                cases hf
                exact sw_zretC 442 G dL_acts_442 K hz (Nat.le_of_ble_eq_true rfl) (Nat.le_of_ble_eq_true rfl)
              clear hf
              have hf := hj
              clear hj
              refine sw_if_lt 278 298 G dL_acts_278 rfl hf (fun hf => ?_) (fun hf => ?_)
              · refine sw_iconst 298 G (0 : Int32) dL_acts_298 rfl ?_
                cases hf
                exact sw_lv _ [] rfl hx299
              · refine sw_aload_n 281 G dL_acts_281 3 rfl ?_
                refine sw_iconst 282 G (2 : Int32) dL_acts_282 rfl ?_
                obtain ⟨r27, hg, hf⟩ := bd1_some hf
                refine sw_callVA 283 G E 1 dL_acts_283 (kG_whole hg) (gwV lk_2847ce46 lk_00a700e4 lk_1397dd5c lk_5f14f758 lk_141fdf1b) rfl hvL_whole ⟨rfl, rfl⟩ ⟨Nat.le_of_ble_eq_true rfl, Nat.le_of_ble_eq_true rfl⟩ ⟨Nat.le_of_ble_eq_true rfl, Nat.le_of_ble_eq_true rfl⟩ rfl rfl (Nat.le_of_ble_eq_true rfl) 0 rfl vc5 rfl ?_
                refine sw_iload_n 286 G dL_acts_286 5 rfl ?_
                refine sw_iconst 287 G (3 : Int32) dL_acts_287 rfl ?_
                obtain ⟨r28, hg, hf⟩ := bd1_some hf
                refine sw_callSW 288 G 2 dL_acts_288 (Fn.any _ (kL_low Θ a2 (3 : Int32) r28 hg)) (gwS lk_ec621e3c lk_49b37618 lk_d05d3c57 lk_75682ede) rfl hsL_low ⟨rfl, rfl⟩ ⟨Nat.le_of_ble_eq_true rfl, Nat.le_of_ble_eq_true rfl⟩ ⟨Nat.le_of_ble_eq_true rfl, Nat.le_of_ble_eq_true rfl⟩ rfl rfl (Nat.le_of_ble_eq_true rfl) ?_
                refine sw_icmp_ne 291 298 G dL_acts_291 rfl hf (fun hf => ?_) (fun hf => ?_)
                · refine sw_iconst 298 G (0 : Int32) dL_acts_298 rfl ?_
                  cases hf
                  exact sw_lv _ [] rfl hx299
                · refine sw_iconst 294 G (1 : Int32) dL_acts_294 rfl ?_
                  refine sw_goto 295 G 299 dL_acts_295 rfl ?_
                  cases hf
                  exact sw_lv _ [] rfl hx299
          · refine sw_aload_n 215 G dL_acts_215 3 rfl ?_
            refine sw_iload_n 216 G dL_acts_216 5 rfl ?_
            refine sw_iconst 217 G (5 : Int32) dL_acts_217 rfl ?_
            obtain ⟨r29, hg, hf⟩ := bd1_some hf
            refine sw_callSW 218 G 2 dL_acts_218 (Fn.any _ (kL_low Θ a2 (5 : Int32) r29 hg)) (gwS lk_ec621e3c lk_49b37618 lk_d05d3c57 lk_75682ede) rfl hsL_low ⟨rfl, rfl⟩ ⟨Nat.le_of_ble_eq_true rfl, Nat.le_of_ble_eq_true rfl⟩ ⟨Nat.le_of_ble_eq_true rfl, Nat.le_of_ble_eq_true rfl⟩ rfl rfl (Nat.le_of_ble_eq_true rfl) ?_
            refine sw_iconst 221 G (1 : Int32) dL_acts_221 rfl ?_
            refine sw_iload_n 222 G dL_acts_222 6 rfl ?_
            refine sw_iconst 223 G (3 : Int32) dL_acts_223 rfl ?_
            obtain ⟨r30, hg, hf⟩ := bd1_some hf
            refine sw_callSW 224 G 2 dL_acts_224 (Fn.any _ (kL_low Θ a3 (3 : Int32) r30 hg)) (gwS lk_ec621e3c lk_49b37618 lk_d05d3c57 lk_75682ede) rfl hsL_low ⟨rfl, rfl⟩ ⟨Nat.le_of_ble_eq_true rfl, Nat.le_of_ble_eq_true rfl⟩ ⟨Nat.le_of_ble_eq_true rfl, Nat.le_of_ble_eq_true rfl⟩ rfl rfl (Nat.le_of_ble_eq_true rfl) ?_
            refine sw_iadd 227 G dL_acts_227 ?_
            obtain ⟨r31, u32, hg, hf⟩ := bd2_some hf
            refine sw_callVA 228 G E 2 dL_acts_228 (kG_set hg) (gwV lk_776792f9 lk_2a48d3d5 lk_d6ab3072 lk_5f14f758 lk_539c27f1) rfl hvL_set ⟨rfl, rfl⟩ ⟨Nat.le_of_ble_eq_true rfl, Nat.le_of_ble_eq_true rfl⟩ ⟨Nat.le_of_ble_eq_true rfl, Nat.le_of_ble_eq_true rfl⟩ rfl rfl (Nat.le_of_ble_eq_true rfl) 0 rfl vc5 rfl ?_
            obtain ⟨v33, v34, hj, hf⟩ := bd2_some hf
            have hx257 : sw Θ p e rmL_acts s m args below meth c A Q 10 0 0 257 [] [.int v33] (wC Θ ad v34) := by
              refine sw_istore 257 G [(6, .int v33)] dL_acts_257 (by decide) rfl ?_
              refine sw_goto 259 G 440 dL_acts_259 rfl ?_
              refine sw_iload 440 G dL_acts_440 0 rfl ?_
              obtain ⟨hz, hf⟩ := gb_some hf
              cases hf
              exact sw_zretC 442 G dL_acts_442 K hz (Nat.le_of_ble_eq_true rfl) (Nat.le_of_ble_eq_true rfl)
            clear hf
            have hf := hj
            clear hj
            refine sw_if_lt 231 256 G dL_acts_231 rfl hf (fun hf => ?_) (fun hf => ?_)
            · refine sw_iconst 256 G (0 : Int32) dL_acts_256 rfl ?_
              cases hf
              exact sw_lv _ [] rfl hx257
            · refine sw_aload_n 234 G dL_acts_234 3 rfl ?_
              refine sw_iconst 235 G (0 : Int32) dL_acts_235 rfl ?_
              refine sw_bipush 236 G (20 : Int32) dL_acts_236 rfl ?_
              refine sw_iload_n 238 G dL_acts_238 5 rfl ?_
              refine sw_bipush 239 G (40 : Int32) dL_acts_239 rfl ?_
              obtain ⟨r35, hg, hf⟩ := bd1_some hf
              refine sw_callSW 241 G 2 dL_acts_241 (Fn.any _ (kL_low Θ a2 (40 : Int32) r35 hg)) (gwS lk_ec621e3c lk_49b37618 lk_d05d3c57 lk_75682ede) rfl hsL_low ⟨rfl, rfl⟩ ⟨Nat.le_of_ble_eq_true rfl, Nat.le_of_ble_eq_true rfl⟩ ⟨Nat.le_of_ble_eq_true rfl, Nat.le_of_ble_eq_true rfl⟩ rfl rfl (Nat.le_of_ble_eq_true rfl) ?_
              refine sw_iadd 244 G dL_acts_244 ?_
              obtain ⟨r36, u37, hg, hf⟩ := bd2_some hf
              refine sw_callVA 245 G E 2 dL_acts_245 (kG_set hg) (gwV lk_776792f9 lk_2a48d3d5 lk_d6ab3072 lk_5f14f758 lk_539c27f1) rfl hvL_set ⟨rfl, rfl⟩ ⟨Nat.le_of_ble_eq_true rfl, Nat.le_of_ble_eq_true rfl⟩ ⟨Nat.le_of_ble_eq_true rfl, Nat.le_of_ble_eq_true rfl⟩ rfl rfl (Nat.le_of_ble_eq_true rfl) 0 rfl vc5 rfl ?_
              refine sw_iconst 248 G (1 : Int32) dL_acts_248 rfl ?_
              refine sw_icmp_lt 249 256 G dL_acts_249 rfl hf (fun hf => ?_) (fun hf => ?_)
              · refine sw_iconst 256 G (0 : Int32) dL_acts_256 rfl ?_
                cases hf
                exact sw_lv _ [] rfl hx257
              · refine sw_iconst 252 G (1 : Int32) dL_acts_252 rfl ?_
                refine sw_goto 253 G 257 dL_acts_253 rfl ?_
                cases hf
                exact sw_lv _ [] rfl hx257
        · refine sw_aload_n 147 G dL_acts_147 3 rfl ?_
          refine sw_iconst 148 G (-1 : Int32) dL_acts_148 rfl ?_
          obtain ⟨r38, u39, hg, hf⟩ := bd2_some hf
          refine sw_callVA 149 G E 1 dL_acts_149 (kG_planned hg) (gwV lk_e7b8798f lk_9ff230cd lk_da1c9664 lk_5f14f758 lk_cb016474) rfl hvL_planned ⟨rfl, rfl⟩ ⟨Nat.le_of_ble_eq_true rfl, Nat.le_of_ble_eq_true rfl⟩ ⟨Nat.le_of_ble_eq_true rfl, Nat.le_of_ble_eq_true rfl⟩ rfl rfl (Nat.le_of_ble_eq_true rfl) 0 rfl vc5 rfl ?_
          refine sw_istore 152 G [(7, .int r38), (6, .int (1 : Int32)), (5, .int r2), (4, .int r1), (0, .ref (ad 0)), (1, .int a1), (2, .int a2), (3, .int a3)] dL_acts_152 (by decide) rfl ?_
          refine sw_aload_n 154 G dL_acts_154 4 rfl ?_
          obtain ⟨r40, u41, hg, hf⟩ := bd2_some hf
          refine sw_callSH 155 G E 1 dL_acts_155 (kL_usePlan hST hg) (gwH lk_981e98bb lk_bbb2045f lk_574aca29 lk_11a9fc3e) rfl hsL_usePlan ⟨rfl, rfl⟩ ⟨Nat.le_of_ble_eq_true rfl, Nat.le_of_ble_eq_true rfl⟩ ⟨Nat.le_of_ble_eq_true rfl, Nat.le_of_ble_eq_true rfl⟩ rfl rfl (Nat.le_of_ble_eq_true rfl) ?_
          refine sw_iload 158 G dL_acts_158 0 rfl ?_
          refine sw_iconst 160 G (-1 : Int32) dL_acts_160 rfl ?_
          obtain ⟨v42, hj, hf⟩ := bd1_some hf
          have hx171 : sw Θ p e rmL_acts s m args below meth c A Q 10 1 6 171 [(0, .ref (ad 0)), (7, .int r38)] [.int v42, .int r40] (wC Θ ad u41) := by
            obtain ⟨v43, hj, hf⟩ := bd1_some hf
            have hx203 : sw Θ p e rmL_acts s m args below meth c A Q 10 1 6 203 [] [.int v43] (wC Θ ad u41) := by
              refine sw_istore 203 G [(6, .int v43)] dL_acts_203 (by decide) rfl ?_
              refine sw_goto 205 G 440 dL_acts_205 rfl ?_
              refine sw_iload 440 G dL_acts_440 0 rfl ?_
              obtain ⟨hz, hf⟩ := gb_some hf
              cases hf
              exact sw_zretC 442 G dL_acts_442 K hz (Nat.le_of_ble_eq_true rfl) (Nat.le_of_ble_eq_true rfl)
            clear hf
            have hf := hj
            clear hj
            refine sw_icmp_ne 171 202 G dL_acts_171 rfl hf (fun hf => ?_) (fun hf => ?_)
            · refine sw_iconst 202 G (0 : Int32) dL_acts_202 rfl ?_
              cases hf
              exact sw_lv _ [] rfl hx203
            · refine sw_iload 174 G dL_acts_174 1 rfl ?_
              refine sw_iconst 176 G (-1 : Int32) dL_acts_176 rfl ?_
              refine sw_icmp_eq 177 198 G dL_acts_177 rfl hf (fun hf => ?_) (fun hf => ?_)
              · refine sw_iconst 198 G (1 : Int32) dL_acts_198 rfl ?_
                refine sw_goto 199 G 203 dL_acts_199 rfl ?_
                cases hf
                exact sw_lv _ [] rfl hx203
              · refine sw_aload_n 180 G dL_acts_180 0 rfl ?_
                obtain ⟨r44, hg, hf⟩ := bd1_some hf
                refine sw_callVA 181 G E 0 dL_acts_181 (kG_planFault hg) (gwV lk_35bf1364 lk_b8b01604 lk_5abe84c7 lk_5f14f758 lk_9caa16e3) rfl hvL_planFault ⟨rfl, rfl⟩ ⟨Nat.le_of_ble_eq_true rfl, Nat.le_of_ble_eq_true rfl⟩ ⟨Nat.le_of_ble_eq_true rfl, Nat.le_of_ble_eq_true rfl⟩ rfl rfl (Nat.le_of_ble_eq_true rfl) 0 rfl vc5 rfl ?_
                refine sw_if_ne 184 202 G dL_acts_184 rfl hf (fun hf => ?_) (fun hf => ?_)
                · refine sw_iconst 202 G (0 : Int32) dL_acts_202 rfl ?_
                  cases hf
                  exact sw_lv _ [] rfl hx203
                · refine sw_aload_n 187 G dL_acts_187 0 rfl ?_
                  refine sw_bipush 188 G (9 : Int32) dL_acts_188 rfl ?_
                  obtain ⟨r45, hg, hf⟩ := bd1_some hf
                  refine sw_callVA 190 G E 1 dL_acts_190 (kG_whole hg) (gwV lk_2847ce46 lk_00a700e4 lk_1397dd5c lk_5f14f758 lk_141fdf1b) rfl hvL_whole ⟨rfl, rfl⟩ ⟨Nat.le_of_ble_eq_true rfl, Nat.le_of_ble_eq_true rfl⟩ ⟨Nat.le_of_ble_eq_true rfl, Nat.le_of_ble_eq_true rfl⟩ rfl rfl (Nat.le_of_ble_eq_true rfl) 0 rfl vc5 rfl ?_
                  refine sw_iload 193 G dL_acts_193 1 rfl ?_
                  refine sw_icmp_ne 195 202 G dL_acts_195 rfl hf (fun hf => ?_) (fun hf => ?_)
                  · refine sw_iconst 202 G (0 : Int32) dL_acts_202 rfl ?_
                    cases hf
                    exact sw_lv _ [] rfl hx203
                  · refine sw_iconst 198 G (1 : Int32) dL_acts_198 rfl ?_
                    refine sw_goto 199 G 203 dL_acts_199 rfl ?_
                    cases hf
                    exact sw_lv _ [] rfl hx203
          clear hf
          have hf := hj
          clear hj
          refine sw_icmp_ne 161 169 G dL_acts_161 rfl hf (fun hf => ?_) (fun hf => ?_)
          · refine sw_iload 169 G dL_acts_169 0 rfl ?_
            cases hf
            exact sw_lv _ [4, 0] rfl hx171
          · refine sw_bipush 164 G (-3 : Int32) dL_acts_164 rfl ?_
            refine sw_goto 166 G 171 dL_acts_166 rfl ?_
            cases hf
            exact sw_lv _ [4, 0] rfl hx171
      · refine sw_iload_n 61 G dL_acts_61 5 rfl ?_
        refine sw_bipush 62 G (7 : Int32) dL_acts_62 rfl ?_
        obtain ⟨r46, hg, hf⟩ := bd1_some hf
        refine sw_callSW 64 G 2 dL_acts_64 (Fn.any _ (kL_low Θ a2 (7 : Int32) r46 hg)) (gwS lk_ec621e3c lk_49b37618 lk_d05d3c57 lk_75682ede) rfl hsL_low ⟨rfl, rfl⟩ ⟨Nat.le_of_ble_eq_true rfl, Nat.le_of_ble_eq_true rfl⟩ ⟨Nat.le_of_ble_eq_true rfl, Nat.le_of_ble_eq_true rfl⟩ rfl rfl (Nat.le_of_ble_eq_true rfl) ?_
        refine sw_istore 67 G [(7, .int r46), (6, .int (1 : Int32)), (5, .int r2), (4, .int r1), (0, .ref (ad 0)), (1, .int a1), (2, .int a2), (3, .int a3)] dL_acts_67 (by decide) rfl ?_
        refine sw_iload_n 69 G dL_acts_69 7 rfl ?_
        refine sw_bipush 70 G (9 : Int32) dL_acts_70 rfl ?_
        obtain ⟨r47, hg, hf⟩ := bd1_some hf
        refine sw_callSW 72 G 2 dL_acts_72 (Fn.any _ (kL_low Θ a3 (9 : Int32) r47 hg)) (gwS lk_ec621e3c lk_49b37618 lk_d05d3c57 lk_75682ede) rfl hsL_low ⟨rfl, rfl⟩ ⟨Nat.le_of_ble_eq_true rfl, Nat.le_of_ble_eq_true rfl⟩ ⟨Nat.le_of_ble_eq_true rfl, Nat.le_of_ble_eq_true rfl⟩ rfl rfl (Nat.le_of_ble_eq_true rfl) ?_
        refine sw_iconst 75 G (1 : Int32) dL_acts_75 rfl ?_
        refine sw_isub 76 G dL_acts_76 ?_
        refine sw_nmi hf (fun v48 hf => ?_)
        refine sw_istore 77 G [(8, .int v48), (7, .int r46), (6, .int (1 : Int32)), (5, .int r2), (4, .int r1), (0, .ref (ad 0)), (1, .int a1), (2, .int a2), (3, .int a3)] dL_acts_77 (by decide) rfl ?_
        refine sw_aload_n 79 G dL_acts_79 5 rfl ?_
        refine sw_iload 80 G dL_acts_80 1 rfl ?_
        refine sw_iload 82 G dL_acts_82 0 rfl ?_
        obtain ⟨r49, u50, hg, hf⟩ := bd2_some hf
        refine sw_callSH 84 G E 3 dL_acts_84 (kL_place hST hg) (gwH lk_bd0084f9 lk_8caf3755 lk_60bdbdd1 lk_45303d9d) rfl hsL_place ⟨rfl, rfl⟩ ⟨Nat.le_of_ble_eq_true rfl, Nat.le_of_ble_eq_true rfl⟩ ⟨Nat.le_of_ble_eq_true rfl, Nat.le_of_ble_eq_true rfl⟩ rfl rfl (Nat.le_of_ble_eq_true rfl) ?_
        refine sw_istore 87 G [(9, .int r49), (8, .int v48), (7, .int r46), (6, .int (1 : Int32)), (5, .int r2), (4, .int r1), (0, .ref (ad 0)), (1, .int a1), (2, .int a2), (3, .int a3)] dL_acts_87 (by decide) rfl ?_
        refine sw_iload 89 G dL_acts_89 2 rfl ?_
        refine sw_iload 91 G dL_acts_91 4 rfl ?_
        obtain ⟨v51, hj, hf⟩ := bd1_some hf
        have hx135 : sw Θ p e rmL_acts s m args below meth c A Q 10 1 6 135 [] [.int v51] (wC Θ ad u50) := by
          refine sw_istore 135 G [(6, .int v51)] dL_acts_135 (by decide) rfl ?_
          refine sw_goto 137 G 440 dL_acts_137 rfl ?_
          refine sw_iload 440 G dL_acts_440 0 rfl ?_
          obtain ⟨hz, hf⟩ := gb_some hf
          cases hf
          exact sw_zretC 442 G dL_acts_442 K hz (Nat.le_of_ble_eq_true rfl) (Nat.le_of_ble_eq_true rfl)
        clear hf
        have hf := hj
        clear hj
        refine sw_icmp_lt 93 111 G dL_acts_93 rfl hf (fun hf => ?_) (fun hf => ?_)
        · refine sw_iload 111 G dL_acts_111 0 rfl ?_
          refine sw_iconst 113 G (-1 : Int32) dL_acts_113 rfl ?_
          refine sw_icmp_lt 114 134 G dL_acts_114 rfl hf (fun hf => ?_) (fun hf => ?_)
          · refine sw_iconst 134 G (0 : Int32) dL_acts_134 rfl ?_
            cases hf
            exact sw_lv _ [] rfl hx135
          · refine sw_aload_n 117 G dL_acts_117 6 rfl ?_
            refine sw_iload 118 G dL_acts_118 2 rfl ?_
            refine sw_bipush 120 G (6 : Int32) dL_acts_120 rfl ?_
            obtain ⟨r52, hg, hf⟩ := bd1_some hf
            refine sw_callVA 122 G E 2 dL_acts_122 (kG_operation hg) (gwV lk_d85d951b lk_a2e0504c lk_1df469a9 lk_5f14f758 lk_91b5c7da) rfl hvL_operation ⟨rfl, rfl⟩ ⟨Nat.le_of_ble_eq_true rfl, Nat.le_of_ble_eq_true rfl⟩ ⟨Nat.le_of_ble_eq_true rfl, Nat.le_of_ble_eq_true rfl⟩ rfl rfl (Nat.le_of_ble_eq_true rfl) 0 rfl vc5 rfl ?_
            refine sw_iload 125 G dL_acts_125 1 rfl ?_
            refine sw_icmp_ne 127 134 G dL_acts_127 rfl hf (fun hf => ?_) (fun hf => ?_)
            · refine sw_iconst 134 G (0 : Int32) dL_acts_134 rfl ?_
              cases hf
              exact sw_lv _ [] rfl hx135
            · refine sw_iconst 130 G (1 : Int32) dL_acts_130 rfl ?_
              refine sw_goto 131 G 135 dL_acts_131 rfl ?_
              cases hf
              exact sw_lv _ [] rfl hx135
        · refine sw_iload 96 G dL_acts_96 0 rfl ?_
          refine sw_bipush 98 G (-4 : Int32) dL_acts_98 rfl ?_
          refine sw_icmp_ne 100 107 G dL_acts_100 rfl hf (fun hf => ?_) (fun hf => ?_)
          · refine sw_iconst 107 G (0 : Int32) dL_acts_107 rfl ?_
            refine sw_goto 108 G 135 dL_acts_108 rfl ?_
            cases hf
            exact sw_lv _ [] rfl hx135
          · refine sw_iconst 103 G (1 : Int32) dL_acts_103 rfl ?_
            refine sw_goto 104 G 135 dL_acts_104 rfl ?_
            cases hf
            exact sw_lv _ [] rfl hx135
    · refine sw_aload_n 43 G dL_acts_43 3 rfl ?_
      refine sw_iload_n 44 G dL_acts_44 5 rfl ?_
      refine sw_iload_n 45 G dL_acts_45 6 rfl ?_
      obtain ⟨r53, u54, hg, hf⟩ := bd2_some hf
      refine sw_callSA 46 G E 3 dL_acts_46 (kL_adds hST hg) (gwS lk_7fd5366c lk_ada2f5c6 lk_58b5b752 lk_21505aa2) rfl hsL_adds ⟨rfl, rfl⟩ ⟨Nat.le_of_ble_eq_true rfl, Nat.le_of_ble_eq_true rfl⟩ ⟨Nat.le_of_ble_eq_true rfl, Nat.le_of_ble_eq_true rfl⟩ rfl rfl (Nat.le_of_ble_eq_true rfl) ?_
      refine sw_istore 49 G [(6, .int r53), (5, .int r2), (4, .int r1), (0, .ref (ad 0)), (1, .int a1), (2, .int a2), (3, .int a3)] dL_acts_49 (by decide) rfl ?_
      refine sw_goto 51 G 440 dL_acts_51 rfl ?_
      refine sw_iload 440 G dL_acts_440 0 rfl ?_
      obtain ⟨hz, hf⟩ := gb_some hf
      cases hf
      exact sw_zretC 442 G dL_acts_442 K hz (Nat.le_of_ble_eq_true rfl) (Nat.le_of_ble_eq_true rfl)
  · refine sw_aload_n 25 G dL_acts_25 3 rfl ?_
    refine sw_iload_n 26 G dL_acts_26 5 rfl ?_
    refine sw_iload_n 27 G dL_acts_27 6 rfl ?_
    obtain ⟨r55, u56, hg, hf⟩ := bd2_some hf
    refine sw_callSA 28 G E 3 dL_acts_28 (kL_marks hST hg) (gwS lk_bdfd6b88 lk_5acea4df lk_ce95dbe4 lk_03270d5a) rfl hsL_marks ⟨rfl, rfl⟩ ⟨Nat.le_of_ble_eq_true rfl, Nat.le_of_ble_eq_true rfl⟩ ⟨Nat.le_of_ble_eq_true rfl, Nat.le_of_ble_eq_true rfl⟩ rfl rfl (Nat.le_of_ble_eq_true rfl) ?_
    refine sw_istore 31 G [(6, .int r55), (5, .int r2), (4, .int r1), (0, .ref (ad 0)), (1, .int a1), (2, .int a2), (3, .int a3)] dL_acts_31 (by decide) rfl ?_
    refine sw_goto 33 G 440 dL_acts_33 rfl ?_
    refine sw_iload 440 G dL_acts_440 0 rfl ?_
    obtain ⟨hz, hf⟩ := gb_some hf
    cases hf
    exact sw_zretC 442 G dL_acts_442 K hz (Nat.le_of_ble_eq_true rfl) (Nat.le_of_ble_eq_true rfl)
