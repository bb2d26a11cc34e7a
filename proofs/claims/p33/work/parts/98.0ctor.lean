theorem lk_c62f90aa : Cond.methodLink RX5 3 Lib.objectInit ∈ GW := GW_of 38 (by decide +kernel) (by decide +kernel)
theorem lk_3569d951 : Cond.classLink RX5 9 RX4 ∈ GW := GW_of 41 (by decide +kernel) (by decide +kernel)
theorem lk_4a363a8b : Cond.instantiable RX4 2 ∈ GW := GW_of 42 (by decide +kernel) (by decide +kernel)
theorem lk_996262bb : Cond.initialized RX4 ∈ GW := GW_of 19 (by decide +kernel) (by decide +kernel)
theorem lk_314ab3b3 : Cond.code yX4_init cX4_init 1 none ∈ GW := GW_of 45 (by decide +kernel) (by decide +kernel)
theorem lk_0e35d3db : Cond.initialized yX4_init.cls ∈ GW := GW_of 19 (by decide +kernel) (by decide +kernel)
theorem lk_f051ca4f : Cond.instanceMethod yX4_init ∈ GW := GW_of 44 (by decide +kernel) (by decide +kernel)
theorem lk_bc080bf4 : Cond.classLink RX5 9 sSt ∈ GW := GW_of 41 (by decide +kernel) (by decide +kernel)
theorem lk_59f5a224 : Cond.classLink RX5 20 RX3 ∈ GW := GW_of 138 (by decide +kernel) (by decide +kernel)
theorem lk_f71d846e : Cond.classLink RX5 27 RX2 ∈ GW := GW_of 140 (by decide +kernel) (by decide +kernel)
theorem lk_9f9ca0e4 : Cond.instantiable RX2 8 ∈ GW := GW_of 141 (by decide +kernel) (by decide +kernel)
theorem lk_b1b7b17a : Cond.initialized RX2 ∈ GW := GW_of 22 (by decide +kernel) (by decide +kernel)
theorem lk_ae997536 : Cond.code yX2_init cX2_init 1 none ∈ GW := GW_of 144 (by decide +kernel) (by decide +kernel)
theorem lk_66e2ee8f : Cond.initialized yX2_init.cls ∈ GW := GW_of 22 (by decide +kernel) (by decide +kernel)
theorem lk_9290cce5 : Cond.instanceMethod yX2_init ∈ GW := GW_of 143 (by decide +kernel) (by decide +kernel)
theorem lk_7ea1fff7 : Cond.classLink RX5 34 RX0 ∈ GW := GW_of 171 (by decide +kernel) (by decide +kernel)
theorem lk_940351ca : Cond.instantiable RX0 5 ∈ GW := GW_of 172 (by decide +kernel) (by decide +kernel)
theorem lk_332be7fe : Cond.initialized RX0 ∈ GW := GW_of 23 (by decide +kernel) (by decide +kernel)
theorem lk_3d373296 : Cond.code yX0_init cX0_init 1 none ∈ GW := GW_of 175 (by decide +kernel) (by decide +kernel)
theorem lk_da3bded3 : Cond.initialized yX0_init.cls ∈ GW := GW_of 23 (by decide +kernel) (by decide +kernel)
theorem lk_9d7360aa : Cond.instanceMethod yX0_init ∈ GW := GW_of 174 (by decide +kernel) (by decide +kernel)
/-! StripDie's constructor -/
theorem arr4 {C : ClassId} {f g : Nat → Option Nat} (h : ∀ j, j < 4 → f j = g j) : vp_cell C (4, .inr (.inr (.inr (.inr f)))) = vp_cell C (4, .inr (.inr (.inr (.inr g)))) := by
  rw [vp_cell_q, vp_cell_q]
  unfold arrV
  exact congrArg (fun z : Fin 4 → Value => ({ cls := C, slots := Array.ofFn z, vm := .none } : Cell)) (funext fun j => congrArg va_rf (h j.1 j.2))
theorem sw_ar4 {Θ : Tht} {p : Program} {e : Env} {R : Room} {s : State} {m : MethodId} {args : Array Value} {below : List Frame} {meth : Method} {c : Code} {A : Nat → Prop} {Q : State → Prop} {nL k n : Nat} {pc q : Nat} {C : ClassId} {f : Nat → Option Nat} {lv : List (Nat × Value)} {st : List Value} (g : Nat → Option Nat) (pre post : va_W) (h : ∀ j, j < 4 → f j = g j) (kk : sw Θ p e R s m args below meth c A Q nL k n pc lv st (pre ++ ([(q, .inl (C, 4, .inr (.inr (.inr (.inr g)))))] ++ post))) : sw Θ p e R s m args below meth c A Q nL k n pc lv st (pre ++ ([(q, .inl (C, 4, .inr (.inr (.inr (.inr f)))))] ++ post)) := by
  intro H locs ls hP hD hS hl
  refine kk H locs ls (va_P_mem.mpr fun x hx => ?_) (va_D_nd.mpr ?_) hS hl
  · rw [List.mem_append, List.mem_append, List.mem_singleton] at hx
    rcases hx with hx | rfl | hx
    · exact va_P_mem.mp hP x (List.mem_append_left _ hx)
    · have h1 := va_P_mem.mp hP (q, .inl (C, 4, .inr (.inr (.inr (.inr f))))) (List.mem_append_right _ (List.mem_append_left _ (List.mem_singleton.mpr rfl)))
      exact Eq.trans h1 (congrArg some (arr4 h))
    · exact va_P_mem.mp hP x (List.mem_append_right _ (List.mem_append_right _ hx))
  · obtain ⟨h1, h2⟩ := va_D_nd.mp hD
    refine ⟨?_, fun x hx => ?_⟩
    · simpa only [List.map_append, List.map_cons, List.map_nil] using h1
    · rw [List.mem_append, List.mem_append, List.mem_singleton] at hx
      rcases hx with hx | rfl | hx
      · exact h2 x (List.mem_append_left _ hx)
      · exact h2 (q, .inl (C, 4, .inr (.inr (.inr (.inr f))))) (List.mem_append_right _ (List.mem_append_left _ (List.mem_singleton.mpr rfl)))
      · exact h2 x (List.mem_append_right _ (List.mem_append_right _ hx))
theorem sh_c5 (A N S B1 B2 B3 B4 T P X : va_W) : A ++ N ++ S ++ B1 ++ B2 ++ B3 ++ B4 ++ T ++ P ++ X = A ++ N ++ (S ++ (B1 ++ (B2 ++ (B3 ++ (B4 ++ (T ++ (P ++ X))))))) := by simp only [List.append_assoc]
theorem pm_c5 (A N D Pr S B1 B2 B3 B4 T P X : va_W) : (A ++ (N ++ D ++ Pr) ++ (S ++ (B1 ++ (B2 ++ (B3 ++ (B4 ++ (T ++ (P ++ X)))))))).Perm (A ++ N ++ D ++ Pr ++ T ++ P ++ X ++ (S ++ B1 ++ B2 ++ B3 ++ B4)) := by
  haveI : DecidableEq (Nat × va_E) := fun a b => Classical.propDecidable (a = b)
  rw [List.perm_iff_count]
  intro a
  simp only [List.count_append] <;> omega
abbrev c0 : CSt := (0, 0, snap0, fun _ => snap0, (0, 0, fun _ => 0, fun _ => 0, fun _ => 0, 0, 0, 0, 0), (0, 0, 0, 0, 0, fun _ => 0, fun _ => 0, fun _ => 0), (fun _ => 0, fun _ => 0, 0, 0, 0))
abbrev rmX5_init : Room := { frames := 3, cells := 57, slots := 730, locals := 64 }
set_option maxRecDepth 100000 in
set_option maxHeartbeats 4000000 in
theorem kX5_init (Θ : Tht) (z0 : Nat) : FN Θ 57 730 yX5_init (Cond.code yX5_init cX5_init 2 none :: GW) rmX5_init z0 [(z0, .inr (5, [.null, .null, .int 0, .int 0, .null, .null, .null]))] (fun ad => wC Θ (fun j => if j = 0 then z0 else ad j) c0) := by
  refine FN.of (by decide +kernel) rfl rfl (Nat.le_of_ble_eq_true rfl) (fun p e s m args below meth c A Q G KK hAO hin => ?_)
  refine sw_aload_n 0 G dX5_init_0 0 rfl ?_
  refine sw_objInit 1 G dX5_init_1 (List.mem_cons_of_mem _ lk_c62f90aa) (List.mem_cons_of_mem _ lk_4bdbcb66) (List.mem_cons_of_mem _ lk_1fb87d8f) (Nat.le_of_ble_eq_true rfl) (Nat.le_of_ble_eq_true rfl) ?_
  refine sw_aload_n 4 G dX5_init_4 0 rfl ?_
  refine sw_new 5 G hnX4 tyX4_ok dX5_init_5 (List.mem_cons_of_mem _ lk_3569d951) (List.mem_cons_of_mem _ lk_4a363a8b) (List.mem_cons_of_mem _ lk_996262bb) vc4 dfX4 ⟨Nat.le_of_ble_eq_true rfl, Nat.le_of_ble_eq_true rfl⟩ (fun q1 => ?_)
  refine sw_dup 8 G dX5_init_8 rfl ?_
  refine sw_initN 9 G hAO dX5_init_9 (kX4_init Θ q1) (gwN lk_314ab3b3) (List.mem_of_getElem? (i := 0) rfl) (List.mem_cons_of_mem _ lk_0e35d3db) (List.mem_cons_of_mem _ lk_f051ca4f) rfl rfl hsX4_init ⟨rfl, rfl⟩ ⟨Nat.le_of_ble_eq_true rfl, Nat.le_of_ble_eq_true rfl⟩ ⟨Nat.le_of_ble_eq_true rfl, Nat.le_of_ble_eq_true rfl⟩ (Nat.le_of_ble_eq_true rfl) (fun u9 => ?_)
  refine sw_putF 12 G hnX5 tyX5_ok nmX5 0 0 ([(z0, .inr (5, [.ref q1, .null, .int 0, .int 0, .null, .null, .null]))] ++ (blkW Θ q1 (u9 0) (u9 1) (u9 2) (u9 3) (u9 4) (u9 5) (u9 6) (u9 7) snap0)) dX5_init_12 vc5 (by decide) (List.mem_cons_of_mem _ lk_c6576e33) rfl hin rfl rfl (Nat.le_of_ble_eq_true rfl) (tyX5_ok 0 (by decide)) rfl rfl rfl ?_
  refine sw_aload_n 15 G dX5_init_15 0 rfl ?_
  refine sw_iconst 16 G (4 : Int32) dX5_init_16 rfl ?_
  refine sw_newq 17 G dX5_init_17 (List.mem_cons_of_mem _ lk_bc080bf4) hAO (N := 4) (by decide) (by decide) (by decide) ⟨Nat.le_of_ble_eq_true rfl, Nat.le_of_ble_eq_true rfl⟩ (fun q2 => ?_)
  refine sw_putF 20 G hnX5 tyX5_ok nmX5 0 1 ([(z0, .inr (5, [.ref q1, .ref q2, .int 0, .int 0, .null, .null, .null]))] ++ (blkW Θ q1 (u9 0) (u9 1) (u9 2) (u9 3) (u9 4) (u9 5) (u9 6) (u9 7) snap0) ++ [(q2, .inl (Θ.2.2 3, 4, .inr (.inr (.inr (.inr (fun _ => none))))))]) dX5_init_20 vc5 (by decide) (List.mem_cons_of_mem _ lk_06157066) rfl hin rfl rfl (Nat.le_of_ble_eq_true rfl) (tyX5_ok 1 (by decide)) rfl rfl rfl ?_
  refine sw_iconst 23 G (0 : Int32) dX5_init_23 rfl ?_
  refine sw_istore_n 24 G [(1, .int 0), (0, .ref z0)] dX5_init_24 (by decide) rfl ?_
  refine sw_iload_n 25 G dX5_init_25 0 rfl ?_
  refine sw_aload_n 26 G dX5_init_26 1 rfl ?_
  refine sw_get 27 G hnX5 0 1 dX5_init_27 vc5 (by decide) (List.mem_cons_of_mem _ lk_06157066) rfl rfl ?_
  refine sw_alen 30 G 10 3 (4 : Int32) dX5_init_30 rfl rfl rfl ?_
  refine sw_Ige 31 53 G dX5_init_31 rfl (fun h => absurd h (by decide)) (fun _ => ?_)
  refine sw_aload_n 34 G dX5_init_34 1 rfl ?_
  refine sw_get 35 G hnX5 0 1 dX5_init_35 vc5 (by decide) (List.mem_cons_of_mem _ lk_06157066) rfl rfl ?_
  refine sw_iload_n 38 G dX5_init_38 0 rfl ?_
  refine sw_new 39 G hnX4 tyX4_ok dX5_init_39 (List.mem_cons_of_mem _ lk_3569d951) (List.mem_cons_of_mem _ lk_4a363a8b) (List.mem_cons_of_mem _ lk_996262bb) vc4 dfX4 ⟨Nat.le_of_ble_eq_true rfl, Nat.le_of_ble_eq_true rfl⟩ (fun q3 => ?_)
  refine sw_dup 42 G dX5_init_42 rfl ?_
  refine sw_initN 43 G hAO dX5_init_43 (kX4_init Θ q3) (gwN lk_314ab3b3) (List.mem_of_getElem? (i := 0) rfl) (List.mem_cons_of_mem _ lk_0e35d3db) (List.mem_cons_of_mem _ lk_f051ca4f) rfl rfl hsX4_init ⟨rfl, rfl⟩ ⟨Nat.le_of_ble_eq_true rfl, Nat.le_of_ble_eq_true rfl⟩ ⟨Nat.le_of_ble_eq_true rfl, Nat.le_of_ble_eq_true rfl⟩ (Nat.le_of_ble_eq_true rfl) (fun u43 => ?_)
  refine sw_astq 46 G 10 11 ([(z0, .inr (5, [.ref q1, .ref q2, .int 0, .int 0, .null, .null, .null]))] ++ (blkW Θ q1 (u9 0) (u9 1) (u9 2) (u9 3) (u9 4) (u9 5) (u9 6) (u9 7) snap0) ++ [(q2, .inl (Θ.2.2 3, 4, .inr (.inr (.inr (.inr (va_up (fun _ => none) (0 : Int32).toNatClampNeg (some q3)))))))] ++ (blkW Θ q3 (u43 0) (u43 1) (u43 2) (u43 3) (u43 4) (u43 5) (u43 6) (u43 7) snap0)) dX5_init_46 rfl rfl (show ¬ ((0 : Int32) < 0 ∨ 4 ≤ (0 : Int32).toNatClampNeg) by decide) rfl ?_
  refine sw_iinc 47 G (1 : Int32) [(1, .int 1), (0, .ref z0)] dX5_init_47 0 rfl (by decide) (by decide) rfl ?_
  refine sw_goto 50 G 25 dX5_init_50 rfl ?_
  refine sw_iload_n 25 G dX5_init_25 0 rfl ?_
  refine sw_aload_n 26 G dX5_init_26 1 rfl ?_
  refine sw_get 27 G hnX5 0 1 dX5_init_27 vc5 (by decide) (List.mem_cons_of_mem _ lk_06157066) rfl rfl ?_
  refine sw_alen 30 G 10 3 (4 : Int32) dX5_init_30 rfl rfl rfl ?_
  refine sw_Ige 31 53 G dX5_init_31 rfl (fun h => absurd h (by decide)) (fun _ => ?_)
  refine sw_aload_n 34 G dX5_init_34 1 rfl ?_
  refine sw_get 35 G hnX5 0 1 dX5_init_35 vc5 (by decide) (List.mem_cons_of_mem _ lk_06157066) rfl rfl ?_
  refine sw_iload_n 38 G dX5_init_38 0 rfl ?_
  refine sw_new 39 G hnX4 tyX4_ok dX5_init_39 (List.mem_cons_of_mem _ lk_3569d951) (List.mem_cons_of_mem _ lk_4a363a8b) (List.mem_cons_of_mem _ lk_996262bb) vc4 dfX4 ⟨Nat.le_of_ble_eq_true rfl, Nat.le_of_ble_eq_true rfl⟩ (fun q4 => ?_)
  refine sw_dup 42 G dX5_init_42 rfl ?_
  refine sw_initN 43 G hAO dX5_init_43 (kX4_init Θ q4) (gwN lk_314ab3b3) (List.mem_of_getElem? (i := 0) rfl) (List.mem_cons_of_mem _ lk_0e35d3db) (List.mem_cons_of_mem _ lk_f051ca4f) rfl rfl hsX4_init ⟨rfl, rfl⟩ ⟨Nat.le_of_ble_eq_true rfl, Nat.le_of_ble_eq_true rfl⟩ ⟨Nat.le_of_ble_eq_true rfl, Nat.le_of_ble_eq_true rfl⟩ (Nat.le_of_ble_eq_true rfl) (fun u43_1 => ?_)
  refine sw_astq 46 G 10 20 ([(z0, .inr (5, [.ref q1, .ref q2, .int 0, .int 0, .null, .null, .null]))] ++ (blkW Θ q1 (u9 0) (u9 1) (u9 2) (u9 3) (u9 4) (u9 5) (u9 6) (u9 7) snap0) ++ [(q2, .inl (Θ.2.2 3, 4, .inr (.inr (.inr (.inr (va_up (va_up (fun _ => none) (0 : Int32).toNatClampNeg (some q3)) (1 : Int32).toNatClampNeg (some q4)))))))] ++ (blkW Θ q3 (u43 0) (u43 1) (u43 2) (u43 3) (u43 4) (u43 5) (u43 6) (u43 7) snap0) ++ (blkW Θ q4 (u43_1 0) (u43_1 1) (u43_1 2) (u43_1 3) (u43_1 4) (u43_1 5) (u43_1 6) (u43_1 7) snap0)) dX5_init_46 rfl rfl (show ¬ ((1 : Int32) < 0 ∨ 4 ≤ (1 : Int32).toNatClampNeg) by decide) rfl ?_
  refine sw_iinc 47 G (2 : Int32) [(1, .int 2), (0, .ref z0)] dX5_init_47 0 rfl (by decide) (by decide) rfl ?_
  refine sw_goto 50 G 25 dX5_init_50 rfl ?_
  refine sw_iload_n 25 G dX5_init_25 0 rfl ?_
  refine sw_aload_n 26 G dX5_init_26 1 rfl ?_
  refine sw_get 27 G hnX5 0 1 dX5_init_27 vc5 (by decide) (List.mem_cons_of_mem _ lk_06157066) rfl rfl ?_
  refine sw_alen 30 G 10 3 (4 : Int32) dX5_init_30 rfl rfl rfl ?_
  refine sw_Ige 31 53 G dX5_init_31 rfl (fun h => absurd h (by decide)) (fun _ => ?_)
  refine sw_aload_n 34 G dX5_init_34 1 rfl ?_
  refine sw_get 35 G hnX5 0 1 dX5_init_35 vc5 (by decide) (List.mem_cons_of_mem _ lk_06157066) rfl rfl ?_
  refine sw_iload_n 38 G dX5_init_38 0 rfl ?_
  refine sw_new 39 G hnX4 tyX4_ok dX5_init_39 (List.mem_cons_of_mem _ lk_3569d951) (List.mem_cons_of_mem _ lk_4a363a8b) (List.mem_cons_of_mem _ lk_996262bb) vc4 dfX4 ⟨Nat.le_of_ble_eq_true rfl, Nat.le_of_ble_eq_true rfl⟩ (fun q5 => ?_)
  refine sw_dup 42 G dX5_init_42 rfl ?_
  refine sw_initN 43 G hAO dX5_init_43 (kX4_init Θ q5) (gwN lk_314ab3b3) (List.mem_of_getElem? (i := 0) rfl) (List.mem_cons_of_mem _ lk_0e35d3db) (List.mem_cons_of_mem _ lk_f051ca4f) rfl rfl hsX4_init ⟨rfl, rfl⟩ ⟨Nat.le_of_ble_eq_true rfl, Nat.le_of_ble_eq_true rfl⟩ ⟨Nat.le_of_ble_eq_true rfl, Nat.le_of_ble_eq_true rfl⟩ (Nat.le_of_ble_eq_true rfl) (fun u43_2 => ?_)
  refine sw_astq 46 G 10 29 ([(z0, .inr (5, [.ref q1, .ref q2, .int 0, .int 0, .null, .null, .null]))] ++ (blkW Θ q1 (u9 0) (u9 1) (u9 2) (u9 3) (u9 4) (u9 5) (u9 6) (u9 7) snap0) ++ [(q2, .inl (Θ.2.2 3, 4, .inr (.inr (.inr (.inr (va_up (va_up (va_up (fun _ => none) (0 : Int32).toNatClampNeg (some q3)) (1 : Int32).toNatClampNeg (some q4)) (2 : Int32).toNatClampNeg (some q5)))))))] ++ (blkW Θ q3 (u43 0) (u43 1) (u43 2) (u43 3) (u43 4) (u43 5) (u43 6) (u43 7) snap0) ++ (blkW Θ q4 (u43_1 0) (u43_1 1) (u43_1 2) (u43_1 3) (u43_1 4) (u43_1 5) (u43_1 6) (u43_1 7) snap0) ++ (blkW Θ q5 (u43_2 0) (u43_2 1) (u43_2 2) (u43_2 3) (u43_2 4) (u43_2 5) (u43_2 6) (u43_2 7) snap0)) dX5_init_46 rfl rfl (show ¬ ((2 : Int32) < 0 ∨ 4 ≤ (2 : Int32).toNatClampNeg) by decide) rfl ?_
  refine sw_iinc 47 G (3 : Int32) [(1, .int 3), (0, .ref z0)] dX5_init_47 0 rfl (by decide) (by decide) rfl ?_
  refine sw_goto 50 G 25 dX5_init_50 rfl ?_
  refine sw_iload_n 25 G dX5_init_25 0 rfl ?_
  refine sw_aload_n 26 G dX5_init_26 1 rfl ?_
  refine sw_get 27 G hnX5 0 1 dX5_init_27 vc5 (by decide) (List.mem_cons_of_mem _ lk_06157066) rfl rfl ?_
  refine sw_alen 30 G 10 3 (4 : Int32) dX5_init_30 rfl rfl rfl ?_
  refine sw_Ige 31 53 G dX5_init_31 rfl (fun h => absurd h (by decide)) (fun _ => ?_)
  refine sw_aload_n 34 G dX5_init_34 1 rfl ?_
  refine sw_get 35 G hnX5 0 1 dX5_init_35 vc5 (by decide) (List.mem_cons_of_mem _ lk_06157066) rfl rfl ?_
  refine sw_iload_n 38 G dX5_init_38 0 rfl ?_
  refine sw_new 39 G hnX4 tyX4_ok dX5_init_39 (List.mem_cons_of_mem _ lk_3569d951) (List.mem_cons_of_mem _ lk_4a363a8b) (List.mem_cons_of_mem _ lk_996262bb) vc4 dfX4 ⟨Nat.le_of_ble_eq_true rfl, Nat.le_of_ble_eq_true rfl⟩ (fun q6 => ?_)
  refine sw_dup 42 G dX5_init_42 rfl ?_
  refine sw_initN 43 G hAO dX5_init_43 (kX4_init Θ q6) (gwN lk_314ab3b3) (List.mem_of_getElem? (i := 0) rfl) (List.mem_cons_of_mem _ lk_0e35d3db) (List.mem_cons_of_mem _ lk_f051ca4f) rfl rfl hsX4_init ⟨rfl, rfl⟩ ⟨Nat.le_of_ble_eq_true rfl, Nat.le_of_ble_eq_true rfl⟩ ⟨Nat.le_of_ble_eq_true rfl, Nat.le_of_ble_eq_true rfl⟩ (Nat.le_of_ble_eq_true rfl) (fun u43_3 => ?_)
  refine sw_astq 46 G 10 38 ([(z0, .inr (5, [.ref q1, .ref q2, .int 0, .int 0, .null, .null, .null]))] ++ (blkW Θ q1 (u9 0) (u9 1) (u9 2) (u9 3) (u9 4) (u9 5) (u9 6) (u9 7) snap0) ++ [(q2, .inl (Θ.2.2 3, 4, .inr (.inr (.inr (.inr (va_up (va_up (va_up (va_up (fun _ => none) (0 : Int32).toNatClampNeg (some q3)) (1 : Int32).toNatClampNeg (some q4)) (2 : Int32).toNatClampNeg (some q5)) (3 : Int32).toNatClampNeg (some q6)))))))] ++ (blkW Θ q3 (u43 0) (u43 1) (u43 2) (u43 3) (u43 4) (u43 5) (u43 6) (u43 7) snap0) ++ (blkW Θ q4 (u43_1 0) (u43_1 1) (u43_1 2) (u43_1 3) (u43_1 4) (u43_1 5) (u43_1 6) (u43_1 7) snap0) ++ (blkW Θ q5 (u43_2 0) (u43_2 1) (u43_2 2) (u43_2 3) (u43_2 4) (u43_2 5) (u43_2 6) (u43_2 7) snap0) ++ (blkW Θ q6 (u43_3 0) (u43_3 1) (u43_3 2) (u43_3 3) (u43_3 4) (u43_3 5) (u43_3 6) (u43_3 7) snap0)) dX5_init_46 rfl rfl (show ¬ ((3 : Int32) < 0 ∨ 4 ≤ (3 : Int32).toNatClampNeg) by decide) rfl ?_
  refine sw_iinc 47 G (4 : Int32) [(1, .int 4), (0, .ref z0)] dX5_init_47 0 rfl (by decide) (by decide) rfl ?_
  refine sw_goto 50 G 25 dX5_init_50 rfl ?_
  refine sw_iload_n 25 G dX5_init_25 0 rfl ?_
  refine sw_aload_n 26 G dX5_init_26 1 rfl ?_
  refine sw_get 27 G hnX5 0 1 dX5_init_27 vc5 (by decide) (List.mem_cons_of_mem _ lk_06157066) rfl rfl ?_
  refine sw_alen 30 G 10 3 (4 : Int32) dX5_init_30 rfl rfl rfl ?_
  refine sw_Ige 31 53 G dX5_init_31 rfl (fun _ => ?_) (fun h => absurd (by decide) h)
  refine sw_aload_n 53 G dX5_init_53 1 rfl ?_
  refine sw_new 54 G hnX3 tyX3_ok dX5_init_54 (List.mem_cons_of_mem _ lk_59f5a224) (List.mem_cons_of_mem _ lk_8d695e84) (List.mem_cons_of_mem _ lk_a4db81f1) vc3 dfX3 ⟨Nat.le_of_ble_eq_true rfl, Nat.le_of_ble_eq_true rfl⟩ (fun q7 => ?_)
  refine sw_dup 57 G dX5_init_57 rfl ?_
  refine sw_initN 58 G hAO dX5_init_58 (kX3_init Θ q7) (gwN lk_27610bcb) (List.mem_of_getElem? (i := 3) rfl) (List.mem_cons_of_mem _ lk_f86f7e06) (List.mem_cons_of_mem _ lk_80120fb8) rfl rfl hsX3_init ⟨rfl, rfl⟩ ⟨Nat.le_of_ble_eq_true rfl, Nat.le_of_ble_eq_true rfl⟩ ⟨Nat.le_of_ble_eq_true rfl, Nat.le_of_ble_eq_true rfl⟩ (Nat.le_of_ble_eq_true rfl) (fun u58 => ?_)
  refine sw_putF 61 G hnX5 tyX5_ok nmX5 0 4 ([(z0, .inr (5, [.ref q1, .ref q2, .int 0, .int 0, .ref q7, .null, .null]))] ++ (blkW Θ q1 (u9 0) (u9 1) (u9 2) (u9 3) (u9 4) (u9 5) (u9 6) (u9 7) snap0) ++ [(q2, .inl (Θ.2.2 3, 4, .inr (.inr (.inr (.inr (va_up (va_up (va_up (va_up (fun _ => none) (0 : Int32).toNatClampNeg (some q3)) (1 : Int32).toNatClampNeg (some q4)) (2 : Int32).toNatClampNeg (some q5)) (3 : Int32).toNatClampNeg (some q6)))))))] ++ (blkW Θ q3 (u43 0) (u43 1) (u43 2) (u43 3) (u43 4) (u43 5) (u43 6) (u43 7) snap0) ++ (blkW Θ q4 (u43_1 0) (u43_1 1) (u43_1 2) (u43_1 3) (u43_1 4) (u43_1 5) (u43_1 6) (u43_1 7) snap0) ++ (blkW Θ q5 (u43_2 0) (u43_2 1) (u43_2 2) (u43_2 3) (u43_2 4) (u43_2 5) (u43_2 6) (u43_2 7) snap0) ++ (blkW Θ q6 (u43_3 0) (u43_3 1) (u43_3 2) (u43_3 3) (u43_3 4) (u43_3 5) (u43_3 6) (u43_3 7) snap0) ++ (wX3 Θ q7 (u58 0) (u58 1) (u58 2) 0 0 (fun _ => 0) (fun _ => 0) (fun _ => 0) 0 0 0 0)) dX5_init_61 vc5 (by decide) (List.mem_cons_of_mem _ lk_e93b6007) rfl hin rfl rfl (Nat.le_of_ble_eq_true rfl) (tyX5_ok 4 (by decide)) rfl rfl rfl ?_
  refine sw_aload_n 64 G dX5_init_64 1 rfl ?_
  refine sw_new 65 G hnX2 tyX2_ok dX5_init_65 (List.mem_cons_of_mem _ lk_f71d846e) (List.mem_cons_of_mem _ lk_9f9ca0e4) (List.mem_cons_of_mem _ lk_b1b7b17a) vc2 dfX2 ⟨Nat.le_of_ble_eq_true rfl, Nat.le_of_ble_eq_true rfl⟩ (fun q8 => ?_)
  refine sw_dup 68 G dX5_init_68 rfl ?_
  refine sw_initN 69 G hAO dX5_init_69 (kX2_init Θ q8) (gwN lk_ae997536) (List.mem_of_getElem? (i := 4) rfl) (List.mem_cons_of_mem _ lk_66e2ee8f) (List.mem_cons_of_mem _ lk_9290cce5) rfl rfl hsX2_init ⟨rfl, rfl⟩ ⟨Nat.le_of_ble_eq_true rfl, Nat.le_of_ble_eq_true rfl⟩ ⟨Nat.le_of_ble_eq_true rfl, Nat.le_of_ble_eq_true rfl⟩ (Nat.le_of_ble_eq_true rfl) (fun u69 => ?_)
  refine sw_putF 72 G hnX5 tyX5_ok nmX5 0 5 ([(z0, .inr (5, [.ref q1, .ref q2, .int 0, .int 0, .ref q7, .ref q8, .null]))] ++ (blkW Θ q1 (u9 0) (u9 1) (u9 2) (u9 3) (u9 4) (u9 5) (u9 6) (u9 7) snap0) ++ [(q2, .inl (Θ.2.2 3, 4, .inr (.inr (.inr (.inr (va_up (va_up (va_up (va_up (fun _ => none) (0 : Int32).toNatClampNeg (some q3)) (1 : Int32).toNatClampNeg (some q4)) (2 : Int32).toNatClampNeg (some q5)) (3 : Int32).toNatClampNeg (some q6)))))))] ++ (blkW Θ q3 (u43 0) (u43 1) (u43 2) (u43 3) (u43 4) (u43 5) (u43 6) (u43 7) snap0) ++ (blkW Θ q4 (u43_1 0) (u43_1 1) (u43_1 2) (u43_1 3) (u43_1 4) (u43_1 5) (u43_1 6) (u43_1 7) snap0) ++ (blkW Θ q5 (u43_2 0) (u43_2 1) (u43_2 2) (u43_2 3) (u43_2 4) (u43_2 5) (u43_2 6) (u43_2 7) snap0) ++ (blkW Θ q6 (u43_3 0) (u43_3 1) (u43_3 2) (u43_3 3) (u43_3 4) (u43_3 5) (u43_3 6) (u43_3 7) snap0) ++ (wX3 Θ q7 (u58 0) (u58 1) (u58 2) 0 0 (fun _ => 0) (fun _ => 0) (fun _ => 0) 0 0 0 0) ++ (wX2 Θ q8 (u69 0) (u69 1) (u69 2) 0 0 0 0 0 (fun _ => 0) (fun _ => 0) (fun _ => 0))) dX5_init_72 vc5 (by decide) (List.mem_cons_of_mem _ lk_a45d4547) rfl hin rfl rfl (Nat.le_of_ble_eq_true rfl) (tyX5_ok 5 (by decide)) rfl rfl rfl ?_
  refine sw_aload_n 75 G dX5_init_75 1 rfl ?_
  refine sw_new 76 G hnX0 tyX0_ok dX5_init_76 (List.mem_cons_of_mem _ lk_7ea1fff7) (List.mem_cons_of_mem _ lk_940351ca) (List.mem_cons_of_mem _ lk_332be7fe) vc0 dfX0 ⟨Nat.le_of_ble_eq_true rfl, Nat.le_of_ble_eq_true rfl⟩ (fun q9 => ?_)
  refine sw_dup 79 G dX5_init_79 rfl ?_
  refine sw_initN 80 G hAO dX5_init_80 (kX0_init Θ q9) (gwN lk_3d373296) (List.mem_of_getElem? (i := 5) rfl) (List.mem_cons_of_mem _ lk_da3bded3) (List.mem_cons_of_mem _ lk_9d7360aa) rfl rfl hsX0_init ⟨rfl, rfl⟩ ⟨Nat.le_of_ble_eq_true rfl, Nat.le_of_ble_eq_true rfl⟩ ⟨Nat.le_of_ble_eq_true rfl, Nat.le_of_ble_eq_true rfl⟩ (Nat.le_of_ble_eq_true rfl) (fun u80 => ?_)
  refine sw_putF 83 G hnX5 tyX5_ok nmX5 0 6 ([(z0, .inr (5, [.ref q1, .ref q2, .int 0, .int 0, .ref q7, .ref q8, .ref q9]))] ++ (blkW Θ q1 (u9 0) (u9 1) (u9 2) (u9 3) (u9 4) (u9 5) (u9 6) (u9 7) snap0) ++ [(q2, .inl (Θ.2.2 3, 4, .inr (.inr (.inr (.inr (va_up (va_up (va_up (va_up (fun _ => none) (0 : Int32).toNatClampNeg (some q3)) (1 : Int32).toNatClampNeg (some q4)) (2 : Int32).toNatClampNeg (some q5)) (3 : Int32).toNatClampNeg (some q6)))))))] ++ (blkW Θ q3 (u43 0) (u43 1) (u43 2) (u43 3) (u43 4) (u43 5) (u43 6) (u43 7) snap0) ++ (blkW Θ q4 (u43_1 0) (u43_1 1) (u43_1 2) (u43_1 3) (u43_1 4) (u43_1 5) (u43_1 6) (u43_1 7) snap0) ++ (blkW Θ q5 (u43_2 0) (u43_2 1) (u43_2 2) (u43_2 3) (u43_2 4) (u43_2 5) (u43_2 6) (u43_2 7) snap0) ++ (blkW Θ q6 (u43_3 0) (u43_3 1) (u43_3 2) (u43_3 3) (u43_3 4) (u43_3 5) (u43_3 6) (u43_3 7) snap0) ++ (wX3 Θ q7 (u58 0) (u58 1) (u58 2) 0 0 (fun _ => 0) (fun _ => 0) (fun _ => 0) 0 0 0 0) ++ (wX2 Θ q8 (u69 0) (u69 1) (u69 2) 0 0 0 0 0 (fun _ => 0) (fun _ => 0) (fun _ => 0)) ++ (wX0 Θ q9 (u80 0) (u80 1) (fun _ => 0) (fun _ => 0) 0 0 0)) dX5_init_83 vc5 (by decide) (List.mem_cons_of_mem _ lk_0b6ebd02) rfl hin rfl rfl (Nat.le_of_ble_eq_true rfl) (tyX5_ok 6 (by decide)) rfl rfl rfl ?_
  refine sw_eqw _ (sh_c5 _ _ _ _ _ _ _ _ _ _) ?_
  refine sw_ar4 (fun j => some (if j = 0 then q3 else if j = 1 then q4 else if j = 2 then q5 else q6)) _ _ (fun j hj => ?_) ?_
  · rcases (show j = 0 ∨ j = 1 ∨ j = 2 ∨ j = 3 by omega) with rfl | rfl | rfl | rfl <;> rfl
  exact sw_retN 86 G (fun j => ([z0, q1, (u9 0), (u9 1), (u9 2), (u9 3), (u9 4), (u9 5), (u9 6), (u9 7), q7, (u58 0), (u58 1), (u58 2), q8, (u69 0), (u69 1), (u69 2), q9, (u80 0), (u80 1), q2, q3, (u43 0), (u43 1), (u43 2), (u43 3), (u43 4), (u43 5), (u43 6), (u43 7), q4, (u43_1 0), (u43_1 1), (u43_1 2), (u43_1 3), (u43_1 4), (u43_1 5), (u43_1 6), (u43_1 7), q5, (u43_2 0), (u43_2 1), (u43_2 2), (u43_2 3), (u43_2 4), (u43_2 5), (u43_2 6), (u43_2 7), q6, (u43_3 0), (u43_3 1), (u43_3 2), (u43_3 3), (u43_3 4), (u43_3 5), (u43_3 6), (u43_3 7)] : List Nat).getD j 0) (pm_c5 _ _ _ _ _ _ _ _ _ _ _ _) dX5_init_86 KK (by decide) (by decide)
