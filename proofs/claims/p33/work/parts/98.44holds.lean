theorem lk_3f2a4eb6 : Cond.initialized yL_die.cls ∈ GW := GW_of 17 (by decide +kernel) (by decide +kernel)
theorem lk_5c976644 : Cond.initialized yL_plan.cls ∈ GW := GW_of 17 (by decide +kernel) (by decide +kernel)
theorem lk_57b4a957 : Cond.initialized yL_press.cls ∈ GW := GW_of 17 (by decide +kernel) (by decide +kernel)
theorem lk_be8c8800 : Cond.methodLink RL 88 yL_die ∈ GW := GW_of 349 (by decide +kernel) (by decide +kernel)
theorem lk_3aa9ba8c : Cond.static yL_die ∈ GW := GW_of 350 (by decide +kernel) (by decide +kernel)
theorem lk_f8891e58 : Cond.code yL_die cL_die 10 (some .boolean) ∈ GW := GW_of 351 (by decide +kernel) (by decide +kernel)
theorem lk_8077e834 : Cond.methodLink RL 92 yL_plan ∈ GW := GW_of 504 (by decide +kernel) (by decide +kernel)
theorem lk_0735b764 : Cond.static yL_plan ∈ GW := GW_of 505 (by decide +kernel) (by decide +kernel)
theorem lk_788c184e : Cond.code yL_plan cL_plan 13 (some .boolean) ∈ GW := GW_of 506 (by decide +kernel) (by decide +kernel)
theorem lk_02de9f86 : Cond.methodLink RL 95 yL_press ∈ GW := GW_of 597 (by decide +kernel) (by decide +kernel)
theorem lk_361bd814 : Cond.static yL_press ∈ GW := GW_of 598 (by decide +kernel) (by decide +kernel)
theorem lk_e9759eff : Cond.code yL_press cL_press 5 (some .boolean) ∈ GW := GW_of 599 (by decide +kernel) (by decide +kernel)
abbrev rmL_holds : Room := { frames := 7, cells := 0, slots := 0, locals := 182 }
theorem hsL_holds : yL_holds.cls ≠ "java/lang/invoke/MethodHandle" ∧ yL_holds.cls ≠ "java/lang/invoke/VarHandle" ∧ (parseMethodDescriptor yL_holds.desc).map (fun d => d.parameters.length) = some 1 := by decide +kernel
set_option maxRecDepth 100000 in
set_option maxHeartbeats 4000000 in
theorem kL_holds {Θ : Tht} {KE : (Nat → Nat) × (Nat → Nat)} {ad : Nat → Nat} {F : Nat} {o_c : CSt} {ro : Int32} {c2 : CSt} (hf : fL_holds F o_c = some (ro, c2)) : FC Θ KE 0 0 yL_holds (Cond.code yL_holds cL_holds 1 (some .boolean) :: GW) rmL_holds [.ref (ad 0)] (wC Θ ad o_c) (some (.int ro)) (wC Θ ad c2) := by
  delta fL_holds at hf
  refine FC.ofK (by decide +kernel) rfl (Nat.le_of_ble_eq_true rfl) (fun p e s m args below meth c A Q G K E => ?_)
  show sw Θ p e rmL_holds s m args below meth c A Q 1 0 0 0 [(0, .ref (ad 0))] [] (wC Θ ad o_c)
  refine sw_aload_n 0 G dL_holds_0 0 rfl ?_
  obtain ⟨r1, hg, hf⟩ := bd1_some hf
  refine sw_callSA 1 G E 1 dL_holds_1 (kL_die hg) (gwS lk_be8c8800 lk_3aa9ba8c lk_3f2a4eb6 lk_f8891e58) rfl hsL_die ⟨rfl, rfl⟩ ⟨Nat.le_of_ble_eq_true rfl, Nat.le_of_ble_eq_true rfl⟩ ⟨Nat.le_of_ble_eq_true rfl, Nat.le_of_ble_eq_true rfl⟩ rfl rfl (Nat.le_of_ble_eq_true rfl) ?_
  refine sw_if_eq 4 25 G dL_holds_4 rfl hf (fun hf => ?_) (fun hf => ?_)
  · refine sw_iconst 25 G (0 : Int32) dL_holds_25 rfl ?_
    cases hf
    exact sw_zretC 26 G dL_holds_26 K rfl (Nat.le_of_ble_eq_true rfl) (Nat.le_of_ble_eq_true rfl)
  · refine sw_aload_n 7 G dL_holds_7 0 rfl ?_
    obtain ⟨r2, u3, hg, hf⟩ := bd2_some hf
    refine sw_callSA 8 G E 1 dL_holds_8 (kL_plan hg) (gwS lk_8077e834 lk_0735b764 lk_5c976644 lk_788c184e) rfl hsL_plan ⟨rfl, rfl⟩ ⟨Nat.le_of_ble_eq_true rfl, Nat.le_of_ble_eq_true rfl⟩ ⟨Nat.le_of_ble_eq_true rfl, Nat.le_of_ble_eq_true rfl⟩ rfl rfl (Nat.le_of_ble_eq_true rfl) ?_
    refine sw_if_eq 11 25 G dL_holds_11 rfl hf (fun hf => ?_) (fun hf => ?_)
    · refine sw_iconst 25 G (0 : Int32) dL_holds_25 rfl ?_
      cases hf
      exact sw_zretC 26 G dL_holds_26 K rfl (Nat.le_of_ble_eq_true rfl) (Nat.le_of_ble_eq_true rfl)
    · refine sw_aload_n 14 G dL_holds_14 0 rfl ?_
      obtain ⟨r4, hg, hf⟩ := bd1_some hf
      refine sw_callSA 15 G E 1 dL_holds_15 (kL_press hg) (gwS lk_02de9f86 lk_361bd814 lk_57b4a957 lk_e9759eff) rfl hsL_press ⟨rfl, rfl⟩ ⟨Nat.le_of_ble_eq_true rfl, Nat.le_of_ble_eq_true rfl⟩ ⟨Nat.le_of_ble_eq_true rfl, Nat.le_of_ble_eq_true rfl⟩ rfl rfl (Nat.le_of_ble_eq_true rfl) ?_
      refine sw_if_eq 18 25 G dL_holds_18 rfl hf (fun hf => ?_) (fun hf => ?_)
      · refine sw_iconst 25 G (0 : Int32) dL_holds_25 rfl ?_
        cases hf
        exact sw_zretC 26 G dL_holds_26 K rfl (Nat.le_of_ble_eq_true rfl) (Nat.le_of_ble_eq_true rfl)
      · refine sw_iconst 21 G (1 : Int32) dL_holds_21 rfl ?_
        refine sw_goto 22 G 26 dL_holds_22 rfl ?_
        cases hf
        exact sw_zretC 26 G dL_holds_26 K rfl (Nat.le_of_ble_eq_true rfl) (Nat.le_of_ble_eq_true rfl)
