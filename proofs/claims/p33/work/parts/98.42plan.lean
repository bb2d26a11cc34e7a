theorem lk_e5df554d : Cond.methodLink RL 73 yX5_station ∈ GW := GW_of 507 (by decide +kernel) (by decide +kernel)
theorem lk_954be666 : Cond.instanceMethod yX5_station ∈ GW := GW_of 508 (by decide +kernel) (by decide +kernel)
theorem lk_48b8789b : Cond.selects RX5 yX5_station yX5_station ∈ GW := GW_of 509 (by decide +kernel) (by decide +kernel)
theorem lk_0e1ef4ca : Cond.code yX5_station cX5_station 3 (some .int) ∈ GW := GW_of 510 (by decide +kernel) (by decide +kernel)
theorem lk_35bf1364 : Cond.methodLink RL 76 yX5_planFault ∈ GW := GW_of 536 (by decide +kernel) (by decide +kernel)
theorem lk_b8b01604 : Cond.instanceMethod yX5_planFault ∈ GW := GW_of 537 (by decide +kernel) (by decide +kernel)
theorem lk_5abe84c7 : Cond.selects RX5 yX5_planFault yX5_planFault ∈ GW := GW_of 538 (by decide +kernel) (by decide +kernel)
theorem lk_9caa16e3 : Cond.code yX5_planFault cX5_planFault 1 (some .int) ∈ GW := GW_of 539 (by decide +kernel) (by decide +kernel)
theorem lk_e7b8798f : Cond.methodLink RL 79 yX5_planned ∈ GW := GW_of 551 (by decide +kernel) (by decide +kernel)
theorem lk_9ff230cd : Cond.instanceMethod yX5_planned ∈ GW := GW_of 552 (by decide +kernel) (by decide +kernel)
theorem lk_da1c9664 : Cond.selects RX5 yX5_planned yX5_planned ∈ GW := GW_of 553 (by decide +kernel) (by decide +kernel)
theorem lk_cb016474 : Cond.code yX5_planned cX5_planned 3 (some .int) ∈ GW := GW_of 554 (by decide +kernel) (by decide +kernel)
abbrev rmL_plan : Room := { frames := 6, cells := 0, slots := 0, locals := 150 }
theorem hsL_plan : yL_plan.cls ≠ "java/lang/invoke/MethodHandle" ∧ yL_plan.cls ≠ "java/lang/invoke/VarHandle" ∧ (parseMethodDescriptor yL_plan.desc).map (fun d => d.parameters.length) = some 1 := by decide +kernel
set_option maxRecDepth 100000 in
set_option maxHeartbeats 4000000 in
theorem kL_plan {Θ : Tht} {KE : (Nat → Nat) × (Nat → Nat)} {ad : Nat → Nat} {F : Nat} {o_c : CSt} {ro : Int32} {c2 : CSt} (hf : fL_plan F o_c = some (ro, c2)) : FC Θ KE 0 0 yL_plan (Cond.code yL_plan cL_plan 13 (some .boolean) :: GW) rmL_plan [.ref (ad 0)] (wC Θ ad o_c) (some (.int ro)) (wC Θ ad c2) := by
  delta fL_plan at hf
  refine FC.ofK (by decide +kernel) rfl (Nat.le_of_ble_eq_true rfl) (fun p e s m args below meth c A Q G K E => ?_)
  show sw Θ p e rmL_plan s m args below meth c A Q 13 0 0 0 [(0, .ref (ad 0))] [] (wC Θ ad o_c)
  refine sw_aload_n 0 G dL_plan_0 0 rfl ?_
  refine sw_bipush 1 G (8 : Int32) dL_plan_1 rfl ?_
  obtain ⟨r1, hg, hf⟩ := bd1_some hf
  refine sw_callVA 3 G E 1 dL_plan_3 (kG_whole hg) (gwV lk_2847ce46 lk_00a700e4 lk_1397dd5c lk_5f14f758 lk_141fdf1b) rfl hvL_whole ⟨rfl, rfl⟩ ⟨Nat.le_of_ble_eq_true rfl, Nat.le_of_ble_eq_true rfl⟩ ⟨Nat.le_of_ble_eq_true rfl, Nat.le_of_ble_eq_true rfl⟩ rfl rfl (Nat.le_of_ble_eq_true rfl) 0 rfl vc5 rfl ?_
  refine sw_istore_n 6 G [(1, .int r1), (0, .ref (ad 0))] dL_plan_6 (by decide) rfl ?_
  refine sw_iconst 7 G (-1 : Int32) dL_plan_7 rfl ?_
  refine sw_istore_n 8 G [(2, .int (-1 : Int32)), (1, .int r1), (0, .ref (ad 0))] dL_plan_8 (by decide) rfl ?_
  refine sw_iconst 9 G (0 : Int32) dL_plan_9 rfl ?_
  refine sw_istore_n 10 G [(3, .int (0 : Int32)), (2, .int (-1 : Int32)), (1, .int r1), (0, .ref (ad 0))] dL_plan_10 (by decide) rfl ?_
  refine sw_iconst 11 G (0 : Int32) dL_plan_11 rfl ?_
  refine sw_istore 12 G [(4, .int (0 : Int32)), (3, .int (0 : Int32)), (2, .int (-1 : Int32)), (1, .int r1), (0, .ref (ad 0))] dL_plan_12 (by decide) rfl ?_
  refine sw_iconst 14 G (0 : Int32) dL_plan_14 rfl ?_
  refine sw_istore 15 G [(5, .int (0 : Int32)), (4, .int (0 : Int32)), (3, .int (0 : Int32)), (2, .int (-1 : Int32)), (1, .int r1), (0, .ref (ad 0))] dL_plan_15 (by decide) rfl ?_
  refine sw_iconst 17 G (0 : Int32) dL_plan_17 rfl ?_
  refine sw_istore 18 G [(6, .int (0 : Int32)), (5, .int (0 : Int32)), (4, .int (0 : Int32)), (3, .int (0 : Int32)), (2, .int (-1 : Int32)), (1, .int r1), (0, .ref (ad 0))] dL_plan_18 (by decide) rfl ?_
  refine sw_iload_n 20 G dL_plan_20 5 rfl ?_
  refine sw_bipush 21 G (6 : Int32) dL_plan_21 rfl ?_
  obtain ⟨v2, hj, hf⟩ := bd1_some hf
  have hx31 : sw Θ p e rmL_plan s m args below meth c A Q 13 0 0 31 [(0, .ref (ad 0)), (1, .int r1), (2, .int (-1 : Int32)), (3, .int (0 : Int32)), (4, .int (0 : Int32)), (5, .int (0 : Int32)), (6, .int (0 : Int32))] [.int v2] (wC Θ ad o_c) := by
    refine sw_istore 31 G [(7, .int v2), (0, .ref (ad 0)), (1, .int r1), (2, .int (-1 : Int32)), (3, .int (0 : Int32)), (4, .int (0 : Int32)), (5, .int (0 : Int32)), (6, .int (0 : Int32))] dL_plan_31 (by decide) rfl ?_
    refine sw_iconst 33 G (0 : Int32) dL_plan_33 rfl ?_
    refine sw_istore 34 G [(8, .int (0 : Int32)), (7, .int v2), (0, .ref (ad 0)), (1, .int r1), (2, .int (-1 : Int32)), (3, .int (0 : Int32)), (4, .int (0 : Int32)), (5, .int (0 : Int32)), (6, .int (0 : Int32))] dL_plan_34 (by decide) rfl ?_
    obtain ⟨v3, v4, v5, v6, v7, hl, hf⟩ := bd5_some hf
    have hx36_298 : sw Θ p e rmL_plan s m args below meth c A Q 13 0 0 298 [(0, .ref (ad 0)), (1, .int r1), (2, .int v3), (3, .int v4), (4, .int v5), (5, .int v6), (6, .int (0 : Int32)), (7, .int v7)] [] (wC Θ ad o_c) := by
      refine sw_iconst 298 G (0 : Int32) dL_plan_298 rfl ?_
      refine sw_istore 299 G [(8, .int (0 : Int32)), (0, .ref (ad 0)), (1, .int r1), (2, .int v3), (3, .int v4), (4, .int v5), (5, .int v6), (6, .int (0 : Int32)), (7, .int v7)] dL_plan_299 (by decide) rfl ?_
      obtain ⟨v8, v9, hl, hf⟩ := bd2_some hf
      have hx301_403 : sw Θ p e rmL_plan s m args below meth c A Q 13 0 0 403 [(0, .ref (ad 0)), (2, .int v3), (3, .int v4), (4, .int v5), (5, .int v6), (6, .int v8), (7, .int v9)] [] (wC Θ ad o_c) := by
        refine sw_iload_n 403 G dL_plan_403 2 rfl ?_
        obtain ⟨v10, hj, hf⟩ := bd1_some hf
        have hx439 : sw Θ p e rmL_plan s m args below meth c A Q 13 0 0 439 [(0, .ref (ad 0)), (2, .int v3), (7, .int v9)] [.int v10] (wC Θ ad o_c) := by
          refine sw_istore 439 G [(8, .int v10), (0, .ref (ad 0)), (2, .int v3), (7, .int v9)] dL_plan_439 (by decide) rfl ?_
          refine sw_iload 441 G dL_plan_441 3 rfl ?_
          refine sw_if_eq 443 496 G dL_plan_443 rfl hf (fun hf => ?_) (fun hf => ?_)
          · refine sw_iconst 496 G (0 : Int32) dL_plan_496 rfl ?_
            cases hf
            exact sw_zretC 497 G dL_plan_497 K rfl (Nat.le_of_ble_eq_true rfl) (Nat.le_of_ble_eq_true rfl)
          · refine sw_aload_n 446 G dL_plan_446 1 rfl ?_
            refine sw_bipush 447 G (9 : Int32) dL_plan_447 rfl ?_
            obtain ⟨r11, hg, hf⟩ := bd1_some hf
            refine sw_callVA 449 G E 1 dL_plan_449 (kG_whole hg) (gwV lk_2847ce46 lk_00a700e4 lk_1397dd5c lk_5f14f758 lk_141fdf1b) rfl hvL_whole ⟨rfl, rfl⟩ ⟨Nat.le_of_ble_eq_true rfl, Nat.le_of_ble_eq_true rfl⟩ ⟨Nat.le_of_ble_eq_true rfl, Nat.le_of_ble_eq_true rfl⟩ rfl rfl (Nat.le_of_ble_eq_true rfl) 0 rfl vc5 rfl ?_
            refine sw_iload_n 452 G dL_plan_452 2 rfl ?_
            refine sw_iconst 453 G (1 : Int32) dL_plan_453 rfl ?_
            refine sw_iadd 454 G dL_plan_454 ?_
            refine sw_icmp_ne 455 496 G dL_plan_455 rfl hf (fun hf => ?_) (fun hf => ?_)
            · refine sw_iconst 496 G (0 : Int32) dL_plan_496 rfl ?_
              cases hf
              exact sw_zretC 497 G dL_plan_497 K rfl (Nat.le_of_ble_eq_true rfl) (Nat.le_of_ble_eq_true rfl)
            · refine sw_aload_n 458 G dL_plan_458 1 rfl ?_
              obtain ⟨r12, hg, hf⟩ := bd1_some hf
              refine sw_callVA 459 G E 0 dL_plan_459 (kG_planFault hg) (gwV lk_35bf1364 lk_b8b01604 lk_5abe84c7 lk_5f14f758 lk_9caa16e3) rfl hvL_planFault ⟨rfl, rfl⟩ ⟨Nat.le_of_ble_eq_true rfl, Nat.le_of_ble_eq_true rfl⟩ ⟨Nat.le_of_ble_eq_true rfl, Nat.le_of_ble_eq_true rfl⟩ rfl rfl (Nat.le_of_ble_eq_true rfl) 0 rfl vc5 rfl ?_
              refine sw_iload 462 G dL_plan_462 0 rfl ?_
              refine sw_icmp_ne 464 496 G dL_plan_464 rfl hf (fun hf => ?_) (fun hf => ?_)
              · refine sw_iconst 496 G (0 : Int32) dL_plan_496 rfl ?_
                cases hf
                exact sw_zretC 497 G dL_plan_497 K rfl (Nat.le_of_ble_eq_true rfl) (Nat.le_of_ble_eq_true rfl)
              · refine sw_iload 467 G dL_plan_467 0 rfl ?_
                refine sw_if_ne 469 492 G dL_plan_469 rfl hf (fun hf => ?_) (fun hf => ?_)
                · refine sw_iconst 492 G (1 : Int32) dL_plan_492 rfl ?_
                  refine sw_goto 493 G 497 dL_plan_493 rfl ?_
                  cases hf
                  exact sw_zretC 497 G dL_plan_497 K rfl (Nat.le_of_ble_eq_true rfl) (Nat.le_of_ble_eq_true rfl)
                · refine sw_aload_n 472 G dL_plan_472 1 rfl ?_
                  refine sw_iconst 473 G (-1 : Int32) dL_plan_473 rfl ?_
                  obtain ⟨r13, u14, hg, hf⟩ := bd2_some hf
                  refine sw_callVA 474 G E 1 dL_plan_474 (kG_planned hg) (gwV lk_e7b8798f lk_9ff230cd lk_da1c9664 lk_5f14f758 lk_cb016474) rfl hvL_planned ⟨rfl, rfl⟩ ⟨Nat.le_of_ble_eq_true rfl, Nat.le_of_ble_eq_true rfl⟩ ⟨Nat.le_of_ble_eq_true rfl, Nat.le_of_ble_eq_true rfl⟩ rfl rfl (Nat.le_of_ble_eq_true rfl) 0 rfl vc5 rfl ?_
                  refine sw_iconst 477 G (-1 : Int32) dL_plan_477 rfl ?_
                  refine sw_icmp_eq 478 496 G dL_plan_478 rfl hf (fun hf => ?_) (fun hf => ?_)
                  · refine sw_iconst 496 G (0 : Int32) dL_plan_496 rfl ?_
                    cases hf
                    exact sw_zretC 497 G dL_plan_497 K rfl (Nat.le_of_ble_eq_true rfl) (Nat.le_of_ble_eq_true rfl)
                  · refine sw_aload_n 481 G dL_plan_481 1 rfl ?_
                    refine sw_iconst 482 G (-1 : Int32) dL_plan_482 rfl ?_
                    obtain ⟨r15, u16, hg, hf⟩ := bd2_some hf
                    refine sw_callVA 483 G E 1 dL_plan_483 (kG_planned hg) (gwV lk_e7b8798f lk_9ff230cd lk_da1c9664 lk_5f14f758 lk_cb016474) rfl hvL_planned ⟨rfl, rfl⟩ ⟨Nat.le_of_ble_eq_true rfl, Nat.le_of_ble_eq_true rfl⟩ ⟨Nat.le_of_ble_eq_true rfl, Nat.le_of_ble_eq_true rfl⟩ rfl rfl (Nat.le_of_ble_eq_true rfl) 0 rfl vc5 rfl ?_
                    refine sw_iload_n 486 G dL_plan_486 2 rfl ?_
                    refine sw_iconst 487 G (1 : Int32) dL_plan_487 rfl ?_
                    refine sw_iadd 488 G dL_plan_488 ?_
                    refine sw_icmp_gt 489 496 G dL_plan_489 rfl hf (fun hf => ?_) (fun hf => ?_)
                    · refine sw_iconst 496 G (0 : Int32) dL_plan_496 rfl ?_
                      cases hf
                      exact sw_zretC 497 G dL_plan_497 K rfl (Nat.le_of_ble_eq_true rfl) (Nat.le_of_ble_eq_true rfl)
                    · refine sw_iconst 492 G (1 : Int32) dL_plan_492 rfl ?_
                      refine sw_goto 493 G 497 dL_plan_493 rfl ?_
                      cases hf
                      exact sw_zretC 497 G dL_plan_497 K rfl (Nat.le_of_ble_eq_true rfl) (Nat.le_of_ble_eq_true rfl)
        clear hf
        have hf := hj
        clear hj
        refine sw_if_eq 404 411 G dL_plan_404 rfl hf (fun hf => ?_) (fun hf => ?_)
        · refine sw_iload 411 G dL_plan_411 5 rfl ?_
          refine sw_if_eq 413 420 G dL_plan_413 rfl hf (fun hf => ?_) (fun hf => ?_)
          · refine sw_iload 420 G dL_plan_420 3 rfl ?_
            refine sw_if_eq 422 429 G dL_plan_422 rfl hf (fun hf => ?_) (fun hf => ?_)
            · refine sw_iload 429 G dL_plan_429 4 rfl ?_
              refine sw_if_eq 431 438 G dL_plan_431 rfl hf (fun hf => ?_) (fun hf => ?_)
              · refine sw_iconst 438 G (0 : Int32) dL_plan_438 rfl ?_
                cases hf
                exact sw_lv _ [0, 1, 6] rfl hx439
              · refine sw_iconst 434 G (4 : Int32) dL_plan_434 rfl ?_
                refine sw_goto 435 G 439 dL_plan_435 rfl ?_
                cases hf
                exact sw_lv _ [0, 1, 6] rfl hx439
            · refine sw_iconst 425 G (3 : Int32) dL_plan_425 rfl ?_
              refine sw_goto 426 G 439 dL_plan_426 rfl ?_
              cases hf
              exact sw_lv _ [0, 1, 6] rfl hx439
          · refine sw_iconst 416 G (2 : Int32) dL_plan_416 rfl ?_
            refine sw_goto 417 G 439 dL_plan_417 rfl ?_
            cases hf
            exact sw_lv _ [0, 1, 6] rfl hx439
        · refine sw_iconst 407 G (1 : Int32) dL_plan_407 rfl ?_
          refine sw_goto 408 G 439 dL_plan_408 rfl ?_
          cases hf
          exact sw_lv _ [0, 1, 6] rfl hx439
      refine sw_lv [(0, .ref (ad 0)), (1, .int r1), (2, .int v3), (3, .int v4), (4, .int v5), (5, .int v6), (6, .int (0 : Int32)), (7, .int v7), (8, .int (0 : Int32))] [1, 2, 3, 4, 5, 6, 7, 8, 0] rfl ?_
      refine lp_walk (P := fun (t : Int32 × Int32 × Int32) => sw Θ p e rmL_plan s m args below meth c A Q 13 0 0 301 [(0, .ref (ad 0)), (1, .int r1), (2, .int v3), (3, .int v4), (4, .int v5), (5, .int v6), (6, .int t.1), (7, .int t.2.1), (8, .int t.2.2)] [] (wC Θ ad o_c)) hl (fun t301 y301 hf hin301 hex301 => ?_)
      obtain ⟨v17, v18, v19⟩ := t301
      show sw Θ p e rmL_plan s m args below meth c A Q 13 0 0 301 [(0, .ref (ad 0)), (1, .int r1), (2, .int v3), (3, .int v4), (4, .int v5), (5, .int v6), (6, .int v17), (7, .int v18), (8, .int v19)] [] (wC Θ ad o_c)
      have hf := uc3_some (K := _) hf
      refine sw_iload 301 G dL_plan_301 8 rfl ?_
      refine sw_bipush 303 G (8 : Int32) dL_plan_303 rfl ?_
      refine sw_icmp_ge 305 403 G dL_plan_305 rfl hf (fun hf => ?_) (fun hf => ?_)
      · cases hf
        cases hex301 _ rfl
        exact sw_lv _ [0, 2, 3, 4, 5, 6, 7] rfl hx301_403
      · refine sw_iload 308 G dL_plan_308 7 rfl ?_
        refine sw_if_eq 310 403 G dL_plan_310 rfl hf (fun hf => ?_) (fun hf => ?_)
        · cases hf
          cases hex301 _ rfl
          exact sw_lv _ [0, 2, 3, 4, 5, 6, 7] rfl hx301_403
        · refine sw_iconst 313 G (0 : Int32) dL_plan_313 rfl ?_
          refine sw_istore 314 G [(9, .int (0 : Int32)), (0, .ref (ad 0)), (1, .int r1), (2, .int v3), (3, .int v4), (4, .int v5), (5, .int v6), (6, .int v17), (7, .int v18), (8, .int v19)] dL_plan_314 (by decide) rfl ?_
          refine sw_iconst 316 G (0 : Int32) dL_plan_316 rfl ?_
          refine sw_istore 317 G [(10, .int (0 : Int32)), (9, .int (0 : Int32)), (0, .ref (ad 0)), (1, .int r1), (2, .int v3), (3, .int v4), (4, .int v5), (5, .int v6), (6, .int v17), (7, .int v18), (8, .int v19)] dL_plan_317 (by decide) rfl ?_
          obtain ⟨v20, hl, hf⟩ := bd1_some hf
          have hx319_356 : sw Θ p e rmL_plan s m args below meth c A Q 13 0 0 356 [(0, .ref (ad 0)), (1, .int r1), (2, .int v3), (3, .int v4), (4, .int v5), (5, .int v6), (6, .int v17), (8, .int v19), (9, .int v20)] [] (wC Θ ad o_c) := by
            refine sw_aload_n 356 G dL_plan_356 0 rfl ?_
            refine sw_iload 357 G dL_plan_357 7 rfl ?_
            refine sw_iconst 359 G (1 : Int32) dL_plan_359 rfl ?_
            obtain ⟨r21, hg, hf⟩ := bd1_some hf
            refine sw_callVA 360 G E 2 dL_plan_360 (kG_station hg) (gwV lk_e5df554d lk_954be666 lk_48b8789b lk_5f14f758 lk_0e1ef4ca) rfl hvL_station ⟨rfl, rfl⟩ ⟨Nat.le_of_ble_eq_true rfl, Nat.le_of_ble_eq_true rfl⟩ ⟨Nat.le_of_ble_eq_true rfl, Nat.le_of_ble_eq_true rfl⟩ rfl rfl (Nat.le_of_ble_eq_true rfl) 0 rfl vc5 rfl ?_
            refine sw_iload 363 G dL_plan_363 8 rfl ?_
            obtain ⟨v22, hj, hf⟩ := bd1_some hf
            have hx373 : sw Θ p e rmL_plan s m args below meth c A Q 13 0 0 373 [(0, .ref (ad 0)), (1, .int r1), (2, .int v3), (3, .int v4), (4, .int v5), (5, .int v6), (6, .int v17), (8, .int v19), (9, .int v20)] [.int v22] (wC Θ ad o_c) := by
              refine sw_istore 373 G [(7, .int v22), (0, .ref (ad 0)), (1, .int r1), (2, .int v3), (3, .int v4), (4, .int v5), (5, .int v6), (6, .int v17), (8, .int v19), (9, .int v20)] dL_plan_373 (by decide) rfl ?_
              refine sw_iload 375 G dL_plan_375 7 rfl ?_
              obtain ⟨v23, hj, hf⟩ := bd1_some hf
              have hx395 : sw Θ p e rmL_plan s m args below meth c A Q 13 0 0 395 [(0, .ref (ad 0)), (1, .int r1), (2, .int v3), (3, .int v4), (4, .int v5), (5, .int v6), (7, .int v22), (8, .int v19)] [.int v23] (wC Θ ad o_c) := by
                refine sw_istore 395 G [(6, .int v23), (0, .ref (ad 0)), (1, .int r1), (2, .int v3), (3, .int v4), (4, .int v5), (5, .int v6), (7, .int v22), (8, .int v19)] dL_plan_395 (by decide) rfl ?_
                refine sw_iinc 397 G (v19 + (1 : Int32)) [(8, .int (v19 + (1 : Int32))), (6, .int v23), (0, .ref (ad 0)), (1, .int r1), (2, .int v3), (3, .int v4), (4, .int v5), (5, .int v6), (7, .int v22)] dL_plan_397 8 rfl rfl (by decide) rfl ?_
                refine sw_goto 400 G 301 dL_plan_400 rfl ?_
                cases hf
                have hb := hin301 _ rfl
                exact sw_lv _ [2, 3, 4, 5, 6, 7, 1, 8, 0] (by rfl) hb
              clear hf
              have hf := hj
              clear hj
              refine sw_if_ne 377 390 G dL_plan_377 rfl hf (fun hf => ?_) (fun hf => ?_)
              · refine sw_iconst 390 G (1 : Int32) dL_plan_390 rfl ?_
                refine sw_goto 391 G 395 dL_plan_391 rfl ?_
                cases hf
                exact sw_lv _ [1, 2, 3, 4, 5, 6, 0, 8] rfl hx395
              · refine sw_iload 380 G dL_plan_380 9 rfl ?_
                refine sw_aload_n 382 G dL_plan_382 1 rfl ?_
                refine sw_iconst 383 G (3 : Int32) dL_plan_383 rfl ?_
                obtain ⟨r24, hg, hf⟩ := bd1_some hf
                refine sw_callVA 384 G E 1 dL_plan_384 (kG_whole hg) (gwV lk_2847ce46 lk_00a700e4 lk_1397dd5c lk_5f14f758 lk_141fdf1b) rfl hvL_whole ⟨rfl, rfl⟩ ⟨Nat.le_of_ble_eq_true rfl, Nat.le_of_ble_eq_true rfl⟩ ⟨Nat.le_of_ble_eq_true rfl, Nat.le_of_ble_eq_true rfl⟩ rfl rfl (Nat.le_of_ble_eq_true rfl) 0 rfl vc5 rfl ?_
                refine sw_icmp_le 387 394 G dL_plan_387 rfl hf (fun hf => ?_) (fun hf => ?_)
                · refine sw_iconst 394 G (0 : Int32) dL_plan_394 rfl ?_
                  cases hf
                  exact sw_lv _ [1, 2, 3, 4, 5, 6, 0, 8] rfl hx395
                · refine sw_iconst 390 G (1 : Int32) dL_plan_390 rfl ?_
                  refine sw_goto 391 G 395 dL_plan_391 rfl ?_
                  cases hf
                  exact sw_lv _ [1, 2, 3, 4, 5, 6, 0, 8] rfl hx395
            clear hf
            have hf := hj
            clear hj
            refine sw_icmp_ne 365 372 G dL_plan_365 rfl hf (fun hf => ?_) (fun hf => ?_)
            · refine sw_iconst 372 G (0 : Int32) dL_plan_372 rfl ?_
              cases hf
              exact sw_lv _ [0, 1, 2, 3, 4, 5, 6, 7, 8] rfl hx373
            · refine sw_iconst 368 G (1 : Int32) dL_plan_368 rfl ?_
              refine sw_goto 369 G 373 dL_plan_369 rfl ?_
              cases hf
              exact sw_lv _ [0, 1, 2, 3, 4, 5, 6, 7, 8] rfl hx373
          refine sw_lv [(0, .ref (ad 0)), (1, .int r1), (2, .int v3), (3, .int v4), (4, .int v5), (5, .int v6), (6, .int v17), (8, .int v19), (9, .int (0 : Int32)), (10, .int (0 : Int32))] [2, 3, 4, 5, 6, 7, 8, 10, 1, 0] rfl ?_
          refine lp_walk (P := fun (t : Int32 × Int32) => sw Θ p e rmL_plan s m args below meth c A Q 13 0 0 319 [(0, .ref (ad 0)), (1, .int r1), (2, .int v3), (3, .int v4), (4, .int v5), (5, .int v6), (6, .int v17), (8, .int v19), (9, .int t.1), (10, .int t.2)] [] (wC Θ ad o_c)) hl (fun t319 y319 hf hin319 hex319 => ?_)
          obtain ⟨v25, v26⟩ := t319
          show sw Θ p e rmL_plan s m args below meth c A Q 13 0 0 319 [(0, .ref (ad 0)), (1, .int r1), (2, .int v3), (3, .int v4), (4, .int v5), (5, .int v6), (6, .int v17), (8, .int v19), (9, .int v25), (10, .int v26)] [] (wC Θ ad o_c)
          have hf := uc2_some (K := _) hf
          refine sw_iload 319 G dL_plan_319 9 rfl ?_
          refine sw_iload_n 321 G dL_plan_321 1 rfl ?_
          refine sw_icmp_ge 322 356 G dL_plan_322 rfl hf (fun hf => ?_) (fun hf => ?_)
          · cases hf
            cases hex319 _ rfl
            exact sw_lv _ [0, 1, 2, 3, 4, 5, 6, 7, 8] rfl hx319_356
          · refine sw_iload 325 G dL_plan_325 8 rfl ?_
            refine sw_aload_n 327 G dL_plan_327 0 rfl ?_
            refine sw_iload 328 G dL_plan_328 7 rfl ?_
            refine sw_iconst 330 G (0 : Int32) dL_plan_330 rfl ?_
            obtain ⟨r27, hg, hf⟩ := bd1_some hf
            refine sw_callVA 331 G E 2 dL_plan_331 (kG_station hg) (gwV lk_e5df554d lk_954be666 lk_48b8789b lk_5f14f758 lk_0e1ef4ca) rfl hvL_station ⟨rfl, rfl⟩ ⟨Nat.le_of_ble_eq_true rfl, Nat.le_of_ble_eq_true rfl⟩ ⟨Nat.le_of_ble_eq_true rfl, Nat.le_of_ble_eq_true rfl⟩ rfl rfl (Nat.le_of_ble_eq_true rfl) 0 rfl vc5 rfl ?_
            refine sw_iload 334 G dL_plan_334 9 rfl ?_
            refine sw_ishr 336 G dL_plan_336 ?_
            refine sw_iconst 337 G (1 : Int32) dL_plan_337 rfl ?_
            refine sw_iand 338 G dL_plan_338 ?_
            refine sw_aload_n 339 G dL_plan_339 0 rfl ?_
            refine sw_iload 340 G dL_plan_340 9 rfl ?_
            refine sw_iconst 342 G (5 : Int32) dL_plan_342 rfl ?_
            obtain ⟨r28, hg, hf⟩ := bd1_some hf
            refine sw_callVA 343 G E 2 dL_plan_343 (kG_operation hg) (gwV lk_d85d951b lk_a2e0504c lk_1df469a9 lk_5f14f758 lk_91b5c7da) rfl hvL_operation ⟨rfl, rfl⟩ ⟨Nat.le_of_ble_eq_true rfl, Nat.le_of_ble_eq_true rfl⟩ ⟨Nat.le_of_ble_eq_true rfl, Nat.le_of_ble_eq_true rfl⟩ rfl rfl (Nat.le_of_ble_eq_true rfl) 0 rfl vc5 rfl ?_
            refine sw_imul 346 G dL_plan_346 ?_
            refine sw_iadd 347 G dL_plan_347 ?_
            refine sw_nmi hf (fun v29 hf => ?_)
            refine sw_istore 348 G [(9, .int v29), (0, .ref (ad 0)), (1, .int r1), (2, .int v3), (3, .int v4), (4, .int v5), (5, .int v6), (6, .int v17), (8, .int v19), (10, .int v26)] dL_plan_348 (by decide) rfl ?_
            refine sw_iinc 350 G (v26 + (1 : Int32)) [(10, .int (v26 + (1 : Int32))), (9, .int v29), (0, .ref (ad 0)), (1, .int r1), (2, .int v3), (3, .int v4), (4, .int v5), (5, .int v6), (6, .int v17), (8, .int v19)] dL_plan_350 9 rfl rfl (by decide) rfl ?_
            refine sw_goto 353 G 319 dL_plan_353 rfl ?_
            cases hf
            have hb := hin319 _ rfl
            exact sw_lv _ [2, 3, 4, 5, 6, 7, 8, 9, 1, 0] (by rfl) hb
    refine sw_lv [(0, .ref (ad 0)), (1, .int r1), (2, .int (-1 : Int32)), (3, .int (0 : Int32)), (4, .int (0 : Int32)), (5, .int (0 : Int32)), (6, .int (0 : Int32)), (7, .int v2), (8, .int (0 : Int32))] [2, 3, 4, 5, 6, 7, 8, 1, 0] rfl ?_
    refine lp_walk (P := fun (t : Int32 × Int32 × Int32 × Int32 × Int32 × Int32) => sw Θ p e rmL_plan s m args below meth c A Q 13 0 0 36 [(0, .ref (ad 0)), (1, .int r1), (2, .int t.1), (3, .int t.2.1), (4, .int t.2.2.1), (5, .int t.2.2.2.1), (6, .int (0 : Int32)), (7, .int t.2.2.2.2.1), (8, .int t.2.2.2.2.2)] [] (wC Θ ad o_c)) hl (fun t36 y36 hf hin36 hex36 => ?_)
    obtain ⟨v30, v31, v32, v33, v34, v35⟩ := t36
    show sw Θ p e rmL_plan s m args below meth c A Q 13 0 0 36 [(0, .ref (ad 0)), (1, .int r1), (2, .int v30), (3, .int v31), (4, .int v32), (5, .int v33), (6, .int (0 : Int32)), (7, .int v34), (8, .int v35)] [] (wC Θ ad o_c)
    have hf := uc6_some (K := _) hf
    refine sw_iload 36 G dL_plan_36 8 rfl ?_
    refine sw_iload_n 38 G dL_plan_38 1 rfl ?_
    refine sw_icmp_ge 39 298 G dL_plan_39 rfl hf (fun hf => ?_) (fun hf => ?_)
    · cases hf
      cases hex36 _ rfl
      exact sw_lv _ [0, 1, 2, 3, 4, 5, 6, 7] rfl hx36_298
    · refine sw_iload 42 G dL_plan_42 7 rfl ?_
      refine sw_if_eq 44 298 G dL_plan_44 rfl hf (fun hf => ?_) (fun hf => ?_)
      · cases hf
        cases hex36 _ rfl
        exact sw_lv _ [0, 1, 2, 3, 4, 5, 6, 7] rfl hx36_298
      · refine sw_aload_n 47 G dL_plan_47 0 rfl ?_
        refine sw_iload 48 G dL_plan_48 8 rfl ?_
        refine sw_bipush 50 G (6 : Int32) dL_plan_50 rfl ?_
        obtain ⟨r36, hg, hf⟩ := bd1_some hf
        refine sw_callVA 52 G E 2 dL_plan_52 (kG_operation hg) (gwV lk_d85d951b lk_a2e0504c lk_1df469a9 lk_5f14f758 lk_91b5c7da) rfl hvL_operation ⟨rfl, rfl⟩ ⟨Nat.le_of_ble_eq_true rfl, Nat.le_of_ble_eq_true rfl⟩ ⟨Nat.le_of_ble_eq_true rfl, Nat.le_of_ble_eq_true rfl⟩ rfl rfl (Nat.le_of_ble_eq_true rfl) 0 rfl vc5 rfl ?_
        refine sw_istore 55 G [(9, .int r36), (0, .ref (ad 0)), (1, .int r1), (2, .int v30), (3, .int v31), (4, .int v32), (5, .int v33), (6, .int (0 : Int32)), (7, .int v34), (8, .int v35)] dL_plan_55 (by decide) rfl ?_
        refine sw_iload 57 G dL_plan_57 0 rfl ?_
        refine sw_iload_n 59 G dL_plan_59 3 rfl ?_
        obtain ⟨v37, hj, hf⟩ := bd1_some hf
        have hx69 : sw Θ p e rmL_plan s m args below meth c A Q 13 0 0 69 [(0, .ref (ad 0)), (1, .int r1), (3, .int v31), (4, .int v32), (5, .int v33), (6, .int (0 : Int32)), (8, .int v35), (9, .int r36)] [.int v37] (wC Θ ad o_c) := by
          refine sw_istore_n 69 G [(2, .int v37), (0, .ref (ad 0)), (1, .int r1), (3, .int v31), (4, .int v32), (5, .int v33), (6, .int (0 : Int32)), (8, .int v35), (9, .int r36)] dL_plan_69 (by decide) rfl ?_
          refine sw_iload_n 70 G dL_plan_70 3 rfl ?_
          obtain ⟨v38, hj, hf⟩ := bd1_some hf
          have hx85 : sw Θ p e rmL_plan s m args below meth c A Q 13 0 0 85 [(0, .ref (ad 0)), (1, .int r1), (2, .int v37), (4, .int v32), (5, .int v33), (6, .int (0 : Int32)), (8, .int v35), (9, .int r36)] [.int v38] (wC Θ ad o_c) := by
            refine sw_istore_n 85 G [(3, .int v38), (0, .ref (ad 0)), (1, .int r1), (2, .int v37), (4, .int v32), (5, .int v33), (6, .int (0 : Int32)), (8, .int v35), (9, .int r36)] dL_plan_85 (by decide) rfl ?_
            refine sw_iload 86 G dL_plan_86 8 rfl ?_
            refine sw_iconst 88 G (-1 : Int32) dL_plan_88 rfl ?_
            obtain ⟨v39, hj, hf⟩ := bd1_some hf
            have hx113 : sw Θ p e rmL_plan s m args below meth c A Q 13 0 0 113 [(0, .ref (ad 0)), (1, .int r1), (2, .int v37), (3, .int v38), (4, .int v32), (5, .int v33), (6, .int (0 : Int32)), (8, .int v35), (9, .int r36)] [.int v39] (wC Θ ad o_c) := by
              refine sw_istore 113 G [(7, .int v39), (0, .ref (ad 0)), (1, .int r1), (2, .int v37), (3, .int v38), (4, .int v32), (5, .int v33), (6, .int (0 : Int32)), (8, .int v35), (9, .int r36)] dL_plan_113 (by decide) rfl ?_
              refine sw_iconst 115 G (0 : Int32) dL_plan_115 rfl ?_
              refine sw_istore 116 G [(10, .int (0 : Int32)), (7, .int v39), (0, .ref (ad 0)), (1, .int r1), (2, .int v37), (3, .int v38), (4, .int v32), (5, .int v33), (6, .int (0 : Int32)), (8, .int v35), (9, .int r36)] dL_plan_116 (by decide) rfl ?_
              obtain ⟨v41, v42, v43, hl, hf⟩ := bd3_some hf
              have hx118_292 : sw Θ p e rmL_plan s m args below meth c A Q 13 0 0 292 [(0, .ref (ad 0)), (1, .int r1), (2, .int v37), (3, .int v38), (4, .int v41), (5, .int v42), (6, .int (0 : Int32)), (7, .int v43), (8, .int v35)] [] (wC Θ ad o_c) := by
                refine sw_iinc 292 G (v35 + (1 : Int32)) [(8, .int (v35 + (1 : Int32))), (0, .ref (ad 0)), (1, .int r1), (2, .int v37), (3, .int v38), (4, .int v41), (5, .int v42), (6, .int (0 : Int32)), (7, .int v43)] dL_plan_292 8 rfl rfl (by decide) rfl ?_
                refine sw_goto 295 G 36 dL_plan_295 rfl ?_
                cases hf
                have hb := hin36 _ rfl
                exact sw_lv _ [1, 2, 3, 4, 5, 6, 7, 8, 0] (by rfl) hb
              refine sw_lv [(0, .ref (ad 0)), (1, .int r1), (2, .int v37), (3, .int v38), (4, .int v32), (5, .int v33), (6, .int (0 : Int32)), (7, .int v39), (8, .int v35), (9, .int r36), (10, .int (0 : Int32))] [2, 3, 4, 5, 6, 7, 8, 1, 9, 10, 0] rfl ?_
              refine lp_walk (P := fun (t : Int32 × Int32 × Int32 × Int32) => sw Θ p e rmL_plan s m args below meth c A Q 13 0 0 118 [(0, .ref (ad 0)), (1, .int r1), (2, .int v37), (3, .int v38), (4, .int t.1), (5, .int t.2.1), (6, .int (0 : Int32)), (7, .int t.2.2.1), (8, .int v35), (9, .int r36), (10, .int t.2.2.2)] [] (wC Θ ad o_c)) hl (fun t118 y118 hf hin118 hex118 => ?_)
              obtain ⟨v44, v45, v46, v47⟩ := t118
              show sw Θ p e rmL_plan s m args below meth c A Q 13 0 0 118 [(0, .ref (ad 0)), (1, .int r1), (2, .int v37), (3, .int v38), (4, .int v44), (5, .int v45), (6, .int (0 : Int32)), (7, .int v46), (8, .int v35), (9, .int r36), (10, .int v47)] [] (wC Θ ad o_c)
              have hf := uc4_some (K := _) hf
              refine sw_iload 118 G dL_plan_118 10 rfl ?_
              refine sw_iload_n 120 G dL_plan_120 1 rfl ?_
              refine sw_icmp_ge 121 292 G dL_plan_121 rfl hf (fun hf => ?_) (fun hf => ?_)
              · cases hf
                cases hex118 _ rfl
                exact sw_lv _ [0, 1, 2, 3, 4, 5, 6, 7, 8] rfl hx118_292
              · refine sw_iload 124 G dL_plan_124 7 rfl ?_
                refine sw_if_eq 126 292 G dL_plan_126 rfl hf (fun hf => ?_) (fun hf => ?_)
                · cases hf
                  cases hex118 _ rfl
                  exact sw_lv _ [0, 1, 2, 3, 4, 5, 6, 7, 8] rfl hx118_292
                · refine sw_aload_n 129 G dL_plan_129 0 rfl ?_
                  refine sw_iload 130 G dL_plan_130 8 rfl ?_
                  refine sw_bipush 132 G (7 : Int32) dL_plan_132 rfl ?_
                  obtain ⟨r48, hg, hf⟩ := bd1_some hf
                  refine sw_callVA 134 G E 2 dL_plan_134 (kG_operation hg) (gwV lk_d85d951b lk_a2e0504c lk_1df469a9 lk_5f14f758 lk_91b5c7da) rfl hvL_operation ⟨rfl, rfl⟩ ⟨Nat.le_of_ble_eq_true rfl, Nat.le_of_ble_eq_true rfl⟩ ⟨Nat.le_of_ble_eq_true rfl, Nat.le_of_ble_eq_true rfl⟩ rfl rfl (Nat.le_of_ble_eq_true rfl) 0 rfl vc5 rfl ?_
                  refine sw_iload 137 G dL_plan_137 10 rfl ?_
                  refine sw_ishr 139 G dL_plan_139 ?_
                  refine sw_iconst 140 G (1 : Int32) dL_plan_140 rfl ?_
                  refine sw_iand 141 G dL_plan_141 ?_
                  refine sw_iconst 142 G (1 : Int32) dL_plan_142 rfl ?_
                  obtain ⟨v49, hj, hf⟩ := bd1_some hf
                  have hx151 : sw Θ p e rmL_plan s m args below meth c A Q 13 0 0 151 [(0, .ref (ad 0)), (1, .int r1), (2, .int v37), (3, .int v38), (4, .int v44), (5, .int v45), (6, .int (0 : Int32)), (8, .int v35), (9, .int r36), (10, .int v47)] [.int v49] (wC Θ ad o_c) := by
                    refine sw_istore 151 G [(11, .int v49), (0, .ref (ad 0)), (1, .int r1), (2, .int v37), (3, .int v38), (4, .int v44), (5, .int v45), (6, .int (0 : Int32)), (8, .int v35), (9, .int r36), (10, .int v47)] dL_plan_151 (by decide) rfl ?_
                    refine sw_aload_n 153 G dL_plan_153 1 rfl ?_
                    refine sw_iload 154 G dL_plan_154 10 rfl ?_
                    refine sw_bipush 156 G (6 : Int32) dL_plan_156 rfl ?_
                    obtain ⟨r50, hg, hf⟩ := bd1_some hf
                    refine sw_callVA 158 G E 2 dL_plan_158 (kG_operation hg) (gwV lk_d85d951b lk_a2e0504c lk_1df469a9 lk_5f14f758 lk_91b5c7da) rfl hvL_operation ⟨rfl, rfl⟩ ⟨Nat.le_of_ble_eq_true rfl, Nat.le_of_ble_eq_true rfl⟩ ⟨Nat.le_of_ble_eq_true rfl, Nat.le_of_ble_eq_true rfl⟩ rfl rfl (Nat.le_of_ble_eq_true rfl) 0 rfl vc5 rfl ?_
                    refine sw_istore 161 G [(12, .int r50), (11, .int v49), (0, .ref (ad 0)), (1, .int r1), (2, .int v37), (3, .int v38), (4, .int v44), (5, .int v45), (6, .int (0 : Int32)), (8, .int v35), (9, .int r36), (10, .int v47)] dL_plan_161 (by decide) rfl ?_
                    refine sw_iload 163 G dL_plan_163 1 rfl ?_
                    refine sw_aload_n 165 G dL_plan_165 2 rfl ?_
                    refine sw_iload 166 G dL_plan_166 11 rfl ?_
                    refine sw_bipush 168 G (7 : Int32) dL_plan_168 rfl ?_
                    obtain ⟨r51, hg, hf⟩ := bd1_some hf
                    refine sw_callVA 170 G E 2 dL_plan_170 (kG_operation hg) (gwV lk_d85d951b lk_a2e0504c lk_1df469a9 lk_5f14f758 lk_91b5c7da) rfl hvL_operation ⟨rfl, rfl⟩ ⟨Nat.le_of_ble_eq_true rfl, Nat.le_of_ble_eq_true rfl⟩ ⟨Nat.le_of_ble_eq_true rfl, Nat.le_of_ble_eq_true rfl⟩ rfl rfl (Nat.le_of_ble_eq_true rfl) 0 rfl vc5 rfl ?_
                    refine sw_iload 173 G dL_plan_173 9 rfl ?_
                    refine sw_ishr 175 G dL_plan_175 ?_
                    refine sw_iconst 176 G (1 : Int32) dL_plan_176 rfl ?_
                    refine sw_iand 177 G dL_plan_177 ?_
                    refine sw_iconst 178 G (1 : Int32) dL_plan_178 rfl ?_
                    obtain ⟨v52, hj, hf⟩ := bd1_some hf
                    have hx187 : sw Θ p e rmL_plan s m args below meth c A Q 13 0 0 187 [(0, .ref (ad 0)), (1, .int r1), (2, .int v37), (3, .int v38), (4, .int v44), (5, .int v45), (6, .int (0 : Int32)), (8, .int v35), (9, .int r36), (10, .int v47), (11, .int v49), (12, .int r50)] [.int v52, .int v49] (wC Θ ad o_c) := by
                      obtain ⟨v53, hj, hf⟩ := bd1_some hf
                      have hx207 : sw Θ p e rmL_plan s m args below meth c A Q 13 0 0 207 [(0, .ref (ad 0)), (1, .int r1), (2, .int v37), (3, .int v38), (4, .int v44), (5, .int v45), (6, .int (0 : Int32)), (8, .int v35), (9, .int r36), (10, .int v47), (11, .int v49), (12, .int r50)] [.int v53] (wC Θ ad o_c) := by
                        refine sw_istore 207 G [(7, .int v53), (0, .ref (ad 0)), (1, .int r1), (2, .int v37), (3, .int v38), (4, .int v44), (5, .int v45), (6, .int (0 : Int32)), (8, .int v35), (9, .int r36), (10, .int v47), (11, .int v49), (12, .int r50)] dL_plan_207 (by decide) rfl ?_
                        refine sw_iload 209 G dL_plan_209 5 rfl ?_
                        obtain ⟨v54, hj, hf⟩ := bd1_some hf
                        have hx231 : sw Θ p e rmL_plan s m args below meth c A Q 13 0 0 231 [(0, .ref (ad 0)), (1, .int r1), (2, .int v37), (3, .int v38), (5, .int v45), (6, .int (0 : Int32)), (7, .int v53), (8, .int v35), (9, .int r36), (10, .int v47), (11, .int v49), (12, .int r50)] [.int v54] (wC Θ ad o_c) := by
                          refine sw_istore 231 G [(4, .int v54), (0, .ref (ad 0)), (1, .int r1), (2, .int v37), (3, .int v38), (5, .int v45), (6, .int (0 : Int32)), (7, .int v53), (8, .int v35), (9, .int r36), (10, .int v47), (11, .int v49), (12, .int r50)] dL_plan_231 (by decide) rfl ?_
                          refine sw_iload 233 G dL_plan_233 5 rfl ?_
                          obtain ⟨v55, hj, hf⟩ := bd1_some hf
                          have hx284 : sw Θ p e rmL_plan s m args below meth c A Q 13 0 0 284 [(0, .ref (ad 0)), (1, .int r1), (2, .int v37), (3, .int v38), (4, .int v54), (6, .int (0 : Int32)), (7, .int v53), (8, .int v35), (9, .int r36), (10, .int v47)] [.int v55] (wC Θ ad o_c) := by
                            refine sw_istore 284 G [(5, .int v55), (0, .ref (ad 0)), (1, .int r1), (2, .int v37), (3, .int v38), (4, .int v54), (6, .int (0 : Int32)), (7, .int v53), (8, .int v35), (9, .int r36), (10, .int v47)] dL_plan_284 (by decide) rfl ?_
                            refine sw_iinc 286 G (v47 + (1 : Int32)) [(10, .int (v47 + (1 : Int32))), (5, .int v55), (0, .ref (ad 0)), (1, .int r1), (2, .int v37), (3, .int v38), (4, .int v54), (6, .int (0 : Int32)), (7, .int v53), (8, .int v35), (9, .int r36)] dL_plan_286 10 rfl rfl (by decide) rfl ?_
                            refine sw_goto 289 G 118 dL_plan_289 rfl ?_
                            cases hf
                            have hb := hin118 _ rfl
                            exact sw_lv _ [2, 3, 4, 5, 6, 1, 7, 8, 9, 10, 0] (by rfl) hb
                          clear hf
                          have hf := hj
                          clear hj
                          refine sw_if_ne 235 279 G dL_plan_235 rfl hf (fun hf => ?_) (fun hf => ?_)
                          · refine sw_iconst 279 G (1 : Int32) dL_plan_279 rfl ?_
                            refine sw_goto 280 G 284 dL_plan_280 rfl ?_
                            cases hf
                            exact sw_lv _ [1, 2, 3, 4, 0, 6, 7, 8, 9, 10] rfl hx284
                          · refine sw_iload 238 G dL_plan_238 11 rfl ?_
                            refine sw_if_eq 240 283 G dL_plan_240 rfl hf (fun hf => ?_) (fun hf => ?_)
                            · refine sw_iconst 283 G (0 : Int32) dL_plan_283 rfl ?_
                              cases hf
                              exact sw_lv _ [1, 2, 3, 4, 0, 6, 7, 8, 9, 10] rfl hx284
                            · refine sw_aload_n 243 G dL_plan_243 1 rfl ?_
                              refine sw_iload 244 G dL_plan_244 8 rfl ?_
                              refine sw_iconst 246 G (0 : Int32) dL_plan_246 rfl ?_
                              obtain ⟨r56, hg, hf⟩ := bd1_some hf
                              refine sw_callVA 247 G E 2 dL_plan_247 (kG_operation hg) (gwV lk_d85d951b lk_a2e0504c lk_1df469a9 lk_5f14f758 lk_91b5c7da) rfl hvL_operation ⟨rfl, rfl⟩ ⟨Nat.le_of_ble_eq_true rfl, Nat.le_of_ble_eq_true rfl⟩ ⟨Nat.le_of_ble_eq_true rfl, Nat.le_of_ble_eq_true rfl⟩ rfl rfl (Nat.le_of_ble_eq_true rfl) 0 rfl vc5 rfl ?_
                              refine sw_iconst 250 G (1 : Int32) dL_plan_250 rfl ?_
                              refine sw_icmp_ne 251 283 G dL_plan_251 rfl hf (fun hf => ?_) (fun hf => ?_)
                              · refine sw_iconst 283 G (0 : Int32) dL_plan_283 rfl ?_
                                cases hf
                                exact sw_lv _ [1, 2, 3, 4, 0, 6, 7, 8, 9, 10] rfl hx284
                              · refine sw_aload_n 254 G dL_plan_254 1 rfl ?_
                                refine sw_iload 255 G dL_plan_255 10 rfl ?_
                                refine sw_iconst 257 G (0 : Int32) dL_plan_257 rfl ?_
                                obtain ⟨r57, hg, hf⟩ := bd1_some hf
                                refine sw_callVA 258 G E 2 dL_plan_258 (kG_operation hg) (gwV lk_d85d951b lk_a2e0504c lk_1df469a9 lk_5f14f758 lk_91b5c7da) rfl hvL_operation ⟨rfl, rfl⟩ ⟨Nat.le_of_ble_eq_true rfl, Nat.le_of_ble_eq_true rfl⟩ ⟨Nat.le_of_ble_eq_true rfl, Nat.le_of_ble_eq_true rfl⟩ rfl rfl (Nat.le_of_ble_eq_true rfl) 0 rfl vc5 rfl ?_
                                refine sw_if_ne 261 283 G dL_plan_261 rfl hf (fun hf => ?_) (fun hf => ?_)
                                · refine sw_iconst 283 G (0 : Int32) dL_plan_283 rfl ?_
                                  cases hf
                                  exact sw_lv _ [1, 2, 3, 4, 0, 6, 7, 8, 9, 10] rfl hx284
                                · refine sw_iload 264 G dL_plan_264 9 rfl ?_
                                  refine sw_iload 266 G dL_plan_266 12 rfl ?_
                                  refine sw_isub 268 G dL_plan_268 ?_
                                  refine sw_iconst 269 G (1 : Int32) dL_plan_269 rfl ?_
                                  refine sw_aload_n 270 G dL_plan_270 1 rfl ?_
                                  refine sw_iconst 271 G (4 : Int32) dL_plan_271 rfl ?_
                                  obtain ⟨r58, hg, hf⟩ := bd1_some hf
                                  refine sw_callVA 272 G E 1 dL_plan_272 (kG_whole hg) (gwV lk_2847ce46 lk_00a700e4 lk_1397dd5c lk_5f14f758 lk_141fdf1b) rfl hvL_whole ⟨rfl, rfl⟩ ⟨Nat.le_of_ble_eq_true rfl, Nat.le_of_ble_eq_true rfl⟩ ⟨Nat.le_of_ble_eq_true rfl, Nat.le_of_ble_eq_true rfl⟩ rfl rfl (Nat.le_of_ble_eq_true rfl) 0 rfl vc5 rfl ?_
                                  refine sw_iadd 275 G dL_plan_275 ?_
                                  refine sw_icmp_ge 276 283 G dL_plan_276 rfl hf (fun hf => ?_) (fun hf => ?_)
                                  · refine sw_iconst 283 G (0 : Int32) dL_plan_283 rfl ?_
                                    cases hf
                                    exact sw_lv _ [1, 2, 3, 4, 0, 6, 7, 8, 9, 10] rfl hx284
                                  · refine sw_iconst 279 G (1 : Int32) dL_plan_279 rfl ?_
                                    refine sw_goto 280 G 284 dL_plan_280 rfl ?_
                                    cases hf
                                    exact sw_lv _ [1, 2, 3, 4, 0, 6, 7, 8, 9, 10] rfl hx284
                        clear hf
                        have hf := hj
                        clear hj
                        refine sw_if_ne 211 226 G dL_plan_211 rfl hf (fun hf => ?_) (fun hf => ?_)
                        · refine sw_iconst 226 G (1 : Int32) dL_plan_226 rfl ?_
                          refine sw_goto 227 G 231 dL_plan_227 rfl ?_
                          cases hf
                          exact sw_lv _ [1, 2, 3, 4, 6, 7, 0, 8, 9, 10, 11, 12] rfl hx231
                        · refine sw_iload 214 G dL_plan_214 11 rfl ?_
                          refine sw_if_eq 216 230 G dL_plan_216 rfl hf (fun hf => ?_) (fun hf => ?_)
                          · refine sw_iconst 230 G (0 : Int32) dL_plan_230 rfl ?_
                            cases hf
                            exact sw_lv _ [1, 2, 3, 4, 6, 7, 0, 8, 9, 10, 11, 12] rfl hx231
                          · refine sw_iload 219 G dL_plan_219 9 rfl ?_
                            refine sw_iload 221 G dL_plan_221 12 rfl ?_
                            refine sw_icmp_ne 223 230 G dL_plan_223 rfl hf (fun hf => ?_) (fun hf => ?_)
                            · refine sw_iconst 230 G (0 : Int32) dL_plan_230 rfl ?_
                              cases hf
                              exact sw_lv _ [1, 2, 3, 4, 6, 7, 0, 8, 9, 10, 11, 12] rfl hx231
                            · refine sw_iconst 226 G (1 : Int32) dL_plan_226 rfl ?_
                              refine sw_goto 227 G 231 dL_plan_227 rfl ?_
                              cases hf
                              exact sw_lv _ [1, 2, 3, 4, 6, 7, 0, 8, 9, 10, 11, 12] rfl hx231
                      clear hf
                      have hf := hj
                      clear hj
                      refine sw_icmp_ne 187 206 G dL_plan_187 rfl hf (fun hf => ?_) (fun hf => ?_)
                      · refine sw_iconst 206 G (0 : Int32) dL_plan_206 rfl ?_
                        cases hf
                        exact sw_lv _ [0, 1, 2, 3, 4, 5, 6, 7, 8, 9, 10, 11] rfl hx207
                      · refine sw_iload 190 G dL_plan_190 7 rfl ?_
                        refine sw_iload 192 G dL_plan_192 9 rfl ?_
                        refine sw_icmp_ne 194 202 G dL_plan_194 rfl hf (fun hf => ?_) (fun hf => ?_)
                        · refine sw_iconst 202 G (1 : Int32) dL_plan_202 rfl ?_
                          refine sw_goto 203 G 207 dL_plan_203 rfl ?_
                          cases hf
                          exact sw_lv _ [0, 1, 2, 3, 4, 5, 6, 7, 8, 9, 10, 11] rfl hx207
                        · refine sw_iload 197 G dL_plan_197 10 rfl ?_
                          refine sw_if_ne 199 206 G dL_plan_199 rfl hf (fun hf => ?_) (fun hf => ?_)
                          · refine sw_iconst 206 G (0 : Int32) dL_plan_206 rfl ?_
                            cases hf
                            exact sw_lv _ [0, 1, 2, 3, 4, 5, 6, 7, 8, 9, 10, 11] rfl hx207
                          · refine sw_iconst 202 G (1 : Int32) dL_plan_202 rfl ?_
                            refine sw_goto 203 G 207 dL_plan_203 rfl ?_
                            cases hf
                            exact sw_lv _ [0, 1, 2, 3, 4, 5, 6, 7, 8, 9, 10, 11] rfl hx207
                    clear hf
                    have hf := hj
                    clear hj
                    refine sw_icmp_ne 179 186 G dL_plan_179 rfl hf (fun hf => ?_) (fun hf => ?_)
                    · refine sw_iconst 186 G (0 : Int32) dL_plan_186 rfl ?_
                      cases hf
                      exact sw_lv _ [2, 3, 4, 5, 6, 7, 8, 9, 10, 11, 1, 0] rfl hx187
                    · refine sw_iconst 182 G (1 : Int32) dL_plan_182 rfl ?_
                      refine sw_goto 183 G 187 dL_plan_183 rfl ?_
                      cases hf
                      exact sw_lv _ [2, 3, 4, 5, 6, 7, 8, 9, 10, 11, 1, 0] rfl hx187
                  clear hf
                  have hf := hj
                  clear hj
                  refine sw_icmp_ne 143 150 G dL_plan_143 rfl hf (fun hf => ?_) (fun hf => ?_)
                  · refine sw_iconst 150 G (0 : Int32) dL_plan_150 rfl ?_
                    cases hf
                    exact sw_lv _ [0, 1, 2, 3, 4, 5, 6, 8, 9, 10] rfl hx151
                  · refine sw_iconst 146 G (1 : Int32) dL_plan_146 rfl ?_
                    refine sw_goto 147 G 151 dL_plan_147 rfl ?_
                    cases hf
                    exact sw_lv _ [0, 1, 2, 3, 4, 5, 6, 8, 9, 10] rfl hx151
            clear hf
            have hf := hj
            clear hj
            refine sw_icmp_eq 89 108 G dL_plan_89 rfl hf (fun hf => ?_) (fun hf => ?_)
            · refine sw_iconst 108 G (1 : Int32) dL_plan_108 rfl ?_
              refine sw_goto 109 G 113 dL_plan_109 rfl ?_
              cases hf
              exact sw_lv _ [1, 2, 3, 0, 4, 5, 6, 7, 8] rfl hx113
            · refine sw_aload_n 92 G dL_plan_92 1 rfl ?_
              refine sw_iload 93 G dL_plan_93 8 rfl ?_
              refine sw_iconst 95 G (0 : Int32) dL_plan_95 rfl ?_
              obtain ⟨r40, hg, hf⟩ := bd1_some hf
              refine sw_callVA 96 G E 2 dL_plan_96 (kG_station hg) (gwV lk_e5df554d lk_954be666 lk_48b8789b lk_5f14f758 lk_0e1ef4ca) rfl hvL_station ⟨rfl, rfl⟩ ⟨Nat.le_of_ble_eq_true rfl, Nat.le_of_ble_eq_true rfl⟩ ⟨Nat.le_of_ble_eq_true rfl, Nat.le_of_ble_eq_true rfl⟩ rfl rfl (Nat.le_of_ble_eq_true rfl) 0 rfl vc5 rfl ?_
              refine sw_iload 99 G dL_plan_99 7 rfl ?_
              refine sw_ishr 101 G dL_plan_101 ?_
              refine sw_iconst 102 G (1 : Int32) dL_plan_102 rfl ?_
              refine sw_iand 103 G dL_plan_103 ?_
              refine sw_iconst 104 G (1 : Int32) dL_plan_104 rfl ?_
              refine sw_icmp_ne 105 112 G dL_plan_105 rfl hf (fun hf => ?_) (fun hf => ?_)
              · refine sw_iconst 112 G (0 : Int32) dL_plan_112 rfl ?_
                cases hf
                exact sw_lv _ [1, 2, 3, 0, 4, 5, 6, 7, 8] rfl hx113
              · refine sw_iconst 108 G (1 : Int32) dL_plan_108 rfl ?_
                refine sw_goto 109 G 113 dL_plan_109 rfl ?_
                cases hf
                exact sw_lv _ [1, 2, 3, 0, 4, 5, 6, 7, 8] rfl hx113
          clear hf
          have hf := hj
          clear hj
          refine sw_if_ne 71 80 G dL_plan_71 rfl hf (fun hf => ?_) (fun hf => ?_)
          · refine sw_iconst 80 G (1 : Int32) dL_plan_80 rfl ?_
            refine sw_goto 81 G 85 dL_plan_81 rfl ?_
            cases hf
            exact sw_lv _ [1, 2, 0, 4, 5, 6, 7, 8] rfl hx85
          · refine sw_iload 74 G dL_plan_74 8 rfl ?_
            refine sw_iconst 76 G (-1 : Int32) dL_plan_76 rfl ?_
            refine sw_icmp_ne 77 84 G dL_plan_77 rfl hf (fun hf => ?_) (fun hf => ?_)
            · refine sw_iconst 84 G (0 : Int32) dL_plan_84 rfl ?_
              cases hf
              exact sw_lv _ [1, 2, 0, 4, 5, 6, 7, 8] rfl hx85
            · refine sw_iconst 80 G (1 : Int32) dL_plan_80 rfl ?_
              refine sw_goto 81 G 85 dL_plan_81 rfl ?_
              cases hf
              exact sw_lv _ [1, 2, 0, 4, 5, 6, 7, 8] rfl hx85
        clear hf
        have hf := hj
        clear hj
        refine sw_icmp_le 60 68 G dL_plan_60 rfl hf (fun hf => ?_) (fun hf => ?_)
        · refine sw_iload_n 68 G dL_plan_68 3 rfl ?_
          cases hf
          exact sw_lv _ [1, 2, 4, 5, 6, 7, 9, 0] rfl hx69
        · refine sw_iload 63 G dL_plan_63 0 rfl ?_
          refine sw_goto 65 G 69 dL_plan_65 rfl ?_
          cases hf
          exact sw_lv _ [1, 2, 4, 5, 6, 7, 9, 0] rfl hx69
  clear hf
  have hf := hj
  clear hj
  refine sw_icmp_gt 23 30 G dL_plan_23 rfl hf (fun hf => ?_) (fun hf => ?_)
  · refine sw_iconst 30 G (0 : Int32) dL_plan_30 rfl ?_
    cases hf
    exact sw_lv _ [6, 5, 4, 3, 2, 1, 0] rfl hx31
  · refine sw_iconst 26 G (1 : Int32) dL_plan_26 rfl ?_
    refine sw_goto 27 G 31 dL_plan_27 rfl ?_
    cases hf
    exact sw_lv _ [6, 5, 4, 3, 2, 1, 0] rfl hx31
