theorem lk_33ff841d : Cond.fieldLink RX0 9 "StripDie$CommandText" "bytes" "[B" ∈ GW := GW_of 177 (by decide +kernel) (by decide +kernel)
theorem lk_34fd5e93 : Cond.fieldLink RX0 15 "StripDie$CommandText" "numbers" "[I" ∈ GW := GW_of 178 (by decide +kernel) (by decide +kernel)
theorem lk_809e3ddf : Cond.methodLink RX0 3 Lib.objectInit ∈ GW := GW_of 176 (by decide +kernel) (by decide +kernel)
theorem lk_4bdbcb66 : Cond.instanceMethod Lib.objectInit ∈ GW := GW_of 39 (by decide +kernel) (by decide +kernel)
theorem lk_1fb87d8f : Cond.code Lib.objectInit ⟨#[0xb1]⟩ 1 none ∈ GW := GW_of 40 (by decide +kernel) (by decide +kernel)
theorem lk_892b85a1 : Cond.arrayClass .byte ∈ GW := GW_of 191 (by decide +kernel) (by decide +kernel)
theorem lk_fac3222c : Cond.arrayClass .int ∈ GW := GW_of 91 (by decide +kernel) (by decide +kernel)
theorem lk_8d2acf5f : Cond.methodLink RX1 3 Lib.objectInit ∈ GW := GW_of 52 (by decide +kernel) (by decide +kernel)
theorem lk_f516dc54 : Cond.arrayClass .long ∈ GW := GW_of 92 (by decide +kernel) (by decide +kernel)
theorem lk_4146c757 : Cond.methodLink RX2 3 Lib.objectInit ∈ GW := GW_of 145 (by decide +kernel) (by decide +kernel)
theorem lk_ae123177 : Cond.methodLink RX3 3 Lib.objectInit ∈ GW := GW_of 98 (by decide +kernel) (by decide +kernel)
theorem lk_2b12d754 : Cond.methodLink RX4 1 Lib.objectInit ∈ GW := GW_of 46 (by decide +kernel) (by decide +kernel)
theorem lk_ede6ca60 : Cond.classLink RX4 7 RX1 ∈ GW := GW_of 47 (by decide +kernel) (by decide +kernel)
theorem lk_254619b7 : Cond.instantiable RX1 10 ∈ GW := GW_of 48 (by decide +kernel) (by decide +kernel)
theorem lk_31b4a827 : Cond.initialized RX1 ∈ GW := GW_of 20 (by decide +kernel) (by decide +kernel)
theorem lk_49fb2c64 : Cond.code yX1_init cX1_init 1 none ∈ GW := GW_of 51 (by decide +kernel) (by decide +kernel)
theorem lk_46649b01 : Cond.initialized yX1_init.cls ∈ GW := GW_of 20 (by decide +kernel) (by decide +kernel)
theorem lk_c654225c : Cond.instanceMethod yX1_init ∈ GW := GW_of 50 (by decide +kernel) (by decide +kernel)
theorem lk_8ca2b0ef : Cond.classLink RX4 16 RX3 ∈ GW := GW_of 93 (by decide +kernel) (by decide +kernel)
theorem lk_8d695e84 : Cond.instantiable RX3 9 ∈ GW := GW_of 94 (by decide +kernel) (by decide +kernel)
theorem lk_a4db81f1 : Cond.initialized RX3 ∈ GW := GW_of 21 (by decide +kernel) (by decide +kernel)
theorem lk_27610bcb : Cond.code yX3_init cX3_init 1 none ∈ GW := GW_of 97 (by decide +kernel) (by decide +kernel)
theorem lk_f86f7e06 : Cond.initialized yX3_init.cls ∈ GW := GW_of 21 (by decide +kernel) (by decide +kernel)
theorem lk_80120fb8 : Cond.instanceMethod yX3_init ∈ GW := GW_of 96 (by decide +kernel) (by decide +kernel)
/-! the constructors -/
def set0 : Nat → Int32 := upd (upd (upd (upd (upd (fun _ => 0) (0 : Int32).toNatClampNeg 30) (1 : Int32).toNatClampNeg 0) (2 : Int32).toNatClampNeg 1) (3 : Int32).toNatClampNeg 5) (4 : Int32).toNatClampNeg 2
def snap0 : Snap := (6, 4, 0, 0, 0, 0, 0, set0, fun _ => 0, fun _ => 0, 0, 0, fun _ => 0, fun _ => 0, fun _ => 0, 0, 0, 0, 0)
theorem dfX0 : ∀ j, j < 5 → defaultValue (tyX0 j) = vp_V [.null, .null, .int 0, .int 0, .int 0] j := fun j hj => match j, hj with
  | 0, _ => rfl
  | 1, _ => rfl
  | 2, _ => rfl
  | 3, _ => rfl
  | 4, _ => rfl
  | (j + 5), h => absurd h (by omega)
theorem hsX0_init : yX0_init.cls ≠ "java/lang/invoke/MethodHandle" ∧ yX0_init.cls ≠ "java/lang/invoke/VarHandle" ∧ (parseMethodDescriptor yX0_init.desc).map (fun d => d.parameters.length) = some 0 := by decide +kernel
theorem dfX1 : ∀ j, j < 10 → defaultValue (tyX1 j) = vp_V [.int 0, .int 0, .int 0, .long 0, .long 0, .int 0, .int 0, .null, .null, .null] j := fun j hj => match j, hj with
  | 0, _ => rfl
  | 1, _ => rfl
  | 2, _ => rfl
  | 3, _ => rfl
  | 4, _ => rfl
  | 5, _ => rfl
  | 6, _ => rfl
  | 7, _ => rfl
  | 8, _ => rfl
  | 9, _ => rfl
  | (j + 10), h => absurd h (by omega)
theorem hsX1_init : yX1_init.cls ≠ "java/lang/invoke/MethodHandle" ∧ yX1_init.cls ≠ "java/lang/invoke/VarHandle" ∧ (parseMethodDescriptor yX1_init.desc).map (fun d => d.parameters.length) = some 0 := by decide +kernel
theorem dfX2 : ∀ j, j < 8 → defaultValue (tyX2 j) = vp_V [.int 0, .int 0, .int 0, .int 0, .int 0, .null, .null, .null] j := fun j hj => match j, hj with
  | 0, _ => rfl
  | 1, _ => rfl
  | 2, _ => rfl
  | 3, _ => rfl
  | 4, _ => rfl
  | 5, _ => rfl
  | 6, _ => rfl
  | 7, _ => rfl
  | (j + 8), h => absurd h (by omega)
theorem hsX2_init : yX2_init.cls ≠ "java/lang/invoke/MethodHandle" ∧ yX2_init.cls ≠ "java/lang/invoke/VarHandle" ∧ (parseMethodDescriptor yX2_init.desc).map (fun d => d.parameters.length) = some 0 := by decide +kernel
theorem dfX3 : ∀ j, j < 9 → defaultValue (tyX3 j) = vp_V [.int 0, .int 0, .null, .null, .null, .int 0, .int 0, .int 0, .int 0] j := fun j hj => match j, hj with
  | 0, _ => rfl
  | 1, _ => rfl
  | 2, _ => rfl
  | 3, _ => rfl
  | 4, _ => rfl
  | 5, _ => rfl
  | 6, _ => rfl
  | 7, _ => rfl
  | 8, _ => rfl
  | (j + 9), h => absurd h (by omega)
theorem hsX3_init : yX3_init.cls ≠ "java/lang/invoke/MethodHandle" ∧ yX3_init.cls ≠ "java/lang/invoke/VarHandle" ∧ (parseMethodDescriptor yX3_init.desc).map (fun d => d.parameters.length) = some 0 := by decide +kernel
theorem dfX4 : ∀ j, j < 2 → defaultValue (tyX4 j) = vp_V [.null, .null] j := fun j hj => match j, hj with
  | 0, _ => rfl
  | 1, _ => rfl
  | (j + 2), h => absurd h (by omega)
theorem hsX4_init : yX4_init.cls ≠ "java/lang/invoke/MethodHandle" ∧ yX4_init.cls ≠ "java/lang/invoke/VarHandle" ∧ (parseMethodDescriptor yX4_init.desc).map (fun d => d.parameters.length) = some 0 := by decide +kernel
theorem dfX5 : ∀ j, j < 7 → defaultValue (tyX5 j) = vp_V [.null, .null, .int 0, .int 0, .null, .null, .null] j := fun j hj => match j, hj with
  | 0, _ => rfl
  | 1, _ => rfl
  | 2, _ => rfl
  | 3, _ => rfl
  | 4, _ => rfl
  | 5, _ => rfl
  | 6, _ => rfl
  | (j + 7), h => absurd h (by omega)
theorem hsX5_init : yX5_init.cls ≠ "java/lang/invoke/MethodHandle" ∧ yX5_init.cls ≠ "java/lang/invoke/VarHandle" ∧ (parseMethodDescriptor yX5_init.desc).map (fun d => d.parameters.length) = some 0 := by decide +kernel
theorem gd_0_5 : gd (0 : Int32) 5 (some ()) = some () := by decide +kernel
theorem gd_1_5 : gd (1 : Int32) 5 (some ()) = some () := by decide +kernel
theorem gd_2_5 : gd (2 : Int32) 5 (some ()) = some () := by decide +kernel
theorem gd_3_5 : gd (3 : Int32) 5 (some ()) = some () := by decide +kernel
theorem gd_4_5 : gd (4 : Int32) 5 (some ()) = some () := by decide +kernel
abbrev rmX0_init : Room := { frames := 1, cells := 2, slots := 154, locals := 12 }
theorem kX0_init (Θ : Tht) (z0 : Nat) : FN Θ 2 154 yX0_init (Cond.code yX0_init cX0_init 1 none :: GW) rmX0_init z0 [(z0, .inr (0, [.null, .null, .int 0, .int 0, .int 0]))] (fun ad => wX0 Θ z0 (ad 0) (ad 1) (fun _ => 0) (fun _ => 0) 0 0 0) := by
  refine FN.of (by decide +kernel) rfl rfl (Nat.le_of_ble_eq_true rfl) (fun p e s m args below meth c A Q G KK hAO hin => ?_)
  refine sw_aload_n 0 G dX0_init_0 0 rfl ?_
  refine sw_objInit 1 G dX0_init_1 (List.mem_cons_of_mem _ lk_809e3ddf) (List.mem_cons_of_mem _ lk_4bdbcb66) (List.mem_cons_of_mem _ lk_1fb87d8f) (Nat.le_of_ble_eq_true rfl) (Nat.le_of_ble_eq_true rfl) ?_
  refine sw_aload_n 4 G dX0_init_4 0 rfl ?_
  refine sw_sipush 5 G (150 : Int32) dX0_init_5 (by decide) ?_
  refine sw_newa 8 G (ty := .byte) (N := 150) (a0 := (150, .inl (fun _ => 0))) 0 rfl dX0_init_8 (List.mem_cons_of_mem _ lk_892b85a1) rfl (fun _ => rfl) (by decide) (by decide) (by decide) ⟨Nat.le_of_ble_eq_true rfl, Nat.le_of_ble_eq_true rfl⟩ (fun q1 => ?_)
  refine sw_putF 10 G hnX0 tyX0_ok nmX0 0 0 ([(z0, .inr (0, [.ref q1, .null, .int 0, .int 0, .int 0]))] ++ [(q1, .inl (Θ.2.2 0, 150, .inl (fun _ => 0)))]) dX0_init_10 vc0 (by decide) (List.mem_cons_of_mem _ lk_33ff841d) rfl hin rfl rfl (Nat.le_of_ble_eq_true rfl) (tyX0_ok 0 (by decide)) rfl rfl rfl ?_
  refine sw_aload_n 13 G dX0_init_13 0 rfl ?_
  refine sw_iconst 14 G (4 : Int32) dX0_init_14 rfl ?_
  refine sw_newa 15 G (ty := .int) (N := 4) (a0 := (4, .inl (fun _ => 0))) 1 rfl dX0_init_15 (List.mem_cons_of_mem _ lk_fac3222c) rfl (fun _ => rfl) (by decide) (by decide) (by decide) ⟨Nat.le_of_ble_eq_true rfl, Nat.le_of_ble_eq_true rfl⟩ (fun q2 => ?_)
  refine sw_putF 17 G hnX0 tyX0_ok nmX0 0 1 ([(z0, .inr (0, [.ref q1, .ref q2, .int 0, .int 0, .int 0]))] ++ [(q1, .inl (Θ.2.2 0, 150, .inl (fun _ => 0)))] ++ [(q2, .inl (Θ.2.2 1, 4, .inl (fun _ => 0)))]) dX0_init_17 vc0 (by decide) (List.mem_cons_of_mem _ lk_34fd5e93) rfl hin rfl rfl (Nat.le_of_ble_eq_true rfl) (tyX0_ok 1 (by decide)) rfl rfl rfl ?_
  exact sw_retN 20 G (fun j => ([q1, q2] : List Nat).getD j 0) (List.Perm.refl _) dX0_init_20 KK (by decide) (by decide)
abbrev rmX1_init : Room := { frames := 1, cells := 3, slots := 53, locals := 12 }
theorem kX1_init (Θ : Tht) (z0 : Nat) : FN Θ 3 53 yX1_init (Cond.code yX1_init cX1_init 1 none :: GW) rmX1_init z0 [(z0, .inr (1, [.int 0, .int 0, .int 0, .long 0, .long 0, .int 0, .int 0, .null, .null, .null]))] (fun ad => wX1 Θ z0 (ad 0) (ad 1) (ad 2) 6 4 0 0 0 0 0 set0 (fun _ => 0) (fun _ => 0)) := by
  refine FN.of (by decide +kernel) rfl rfl (Nat.le_of_ble_eq_true rfl) (fun p e s m args below meth c A Q G KK hAO hin => ?_)
  refine sw_aload_n 0 G dX1_init_0 0 rfl ?_
  refine sw_objInit 1 G dX1_init_1 (List.mem_cons_of_mem _ lk_8d2acf5f) (List.mem_cons_of_mem _ lk_4bdbcb66) (List.mem_cons_of_mem _ lk_1fb87d8f) (Nat.le_of_ble_eq_true rfl) (Nat.le_of_ble_eq_true rfl) ?_
  refine sw_aload_n 4 G dX1_init_4 0 rfl ?_
  refine sw_bipush 5 G (6 : Int32) dX1_init_5 (by decide) ?_
  refine sw_put 7 G hnX1 tyX1_ok nmX1 0 0 ([(z0, .inr (1, [.int 6, .int 0, .int 0, .long 0, .long 0, .int 0, .int 0, .null, .null, .null]))]) dX1_init_7 vc1 (by decide) (List.mem_cons_of_mem _ lk_c5f4e1a9) rfl rfl (Nat.le_of_ble_eq_true rfl) (tyX1_ok 0 (by decide)) rfl rfl rfl ?_
  refine sw_aload_n 10 G dX1_init_10 0 rfl ?_
  refine sw_iconst 11 G (4 : Int32) dX1_init_11 rfl ?_
  refine sw_put 12 G hnX1 tyX1_ok nmX1 0 1 ([(z0, .inr (1, [.int 6, .int 4, .int 0, .long 0, .long 0, .int 0, .int 0, .null, .null, .null]))]) dX1_init_12 vc1 (by decide) (List.mem_cons_of_mem _ lk_2d45b2b9) rfl rfl (Nat.le_of_ble_eq_true rfl) (tyX1_ok 1 (by decide)) rfl rfl rfl ?_
  refine sw_aload_n 15 G dX1_init_15 0 rfl ?_
  refine sw_iconst 16 G (5 : Int32) dX1_init_16 rfl ?_
  refine sw_newa 17 G (ty := .int) (N := 5) (a0 := (5, .inl (fun _ => 0))) 1 rfl dX1_init_17 (List.mem_cons_of_mem _ lk_fac3222c) rfl (fun _ => rfl) (by decide) (by decide) (by decide) ⟨Nat.le_of_ble_eq_true rfl, Nat.le_of_ble_eq_true rfl⟩ (fun q1 => ?_)
  refine sw_dup 19 G dX1_init_19 rfl ?_
  refine sw_iconst 20 G (0 : Int32) dX1_init_20 rfl ?_
  refine sw_bipush 21 G (30 : Int32) dX1_init_21 (by decide) ?_
  refine sw_iast 23 G 1 ([(z0, .inr (1, [.int 6, .int 4, .int 0, .long 0, .long 0, .int 0, .int 0, .null, .null, .null]))] ++ [(q1, .inl (Θ.2.2 1, 5, .inl (upd (fun _ => 0) (0 : Int32).toNatClampNeg 30)))]) dX1_init_23 rfl rfl gd_0_5 (fun _ => ?_)
  refine sw_dup 24 G dX1_init_24 rfl ?_
  refine sw_iconst 25 G (1 : Int32) dX1_init_25 rfl ?_
  refine sw_iconst 26 G (0 : Int32) dX1_init_26 rfl ?_
  refine sw_iast 27 G 1 ([(z0, .inr (1, [.int 6, .int 4, .int 0, .long 0, .long 0, .int 0, .int 0, .null, .null, .null]))] ++ [(q1, .inl (Θ.2.2 1, 5, .inl (upd (upd (fun _ => 0) (0 : Int32).toNatClampNeg 30) (1 : Int32).toNatClampNeg 0)))]) dX1_init_27 rfl rfl gd_1_5 (fun _ => ?_)
  refine sw_dup 28 G dX1_init_28 rfl ?_
  refine sw_iconst 29 G (2 : Int32) dX1_init_29 rfl ?_
  refine sw_iconst 30 G (1 : Int32) dX1_init_30 rfl ?_
  refine sw_iast 31 G 1 ([(z0, .inr (1, [.int 6, .int 4, .int 0, .long 0, .long 0, .int 0, .int 0, .null, .null, .null]))] ++ [(q1, .inl (Θ.2.2 1, 5, .inl (upd (upd (upd (fun _ => 0) (0 : Int32).toNatClampNeg 30) (1 : Int32).toNatClampNeg 0) (2 : Int32).toNatClampNeg 1)))]) dX1_init_31 rfl rfl gd_2_5 (fun _ => ?_)
  refine sw_dup 32 G dX1_init_32 rfl ?_
  refine sw_iconst 33 G (3 : Int32) dX1_init_33 rfl ?_
  refine sw_iconst 34 G (5 : Int32) dX1_init_34 rfl ?_
  refine sw_iast 35 G 1 ([(z0, .inr (1, [.int 6, .int 4, .int 0, .long 0, .long 0, .int 0, .int 0, .null, .null, .null]))] ++ [(q1, .inl (Θ.2.2 1, 5, .inl (upd (upd (upd (upd (fun _ => 0) (0 : Int32).toNatClampNeg 30) (1 : Int32).toNatClampNeg 0) (2 : Int32).toNatClampNeg 1) (3 : Int32).toNatClampNeg 5)))]) dX1_init_35 rfl rfl gd_3_5 (fun _ => ?_)
  refine sw_dup 36 G dX1_init_36 rfl ?_
  refine sw_iconst 37 G (4 : Int32) dX1_init_37 rfl ?_
  refine sw_iconst 38 G (2 : Int32) dX1_init_38 rfl ?_
  refine sw_iast 39 G 1 ([(z0, .inr (1, [.int 6, .int 4, .int 0, .long 0, .long 0, .int 0, .int 0, .null, .null, .null]))] ++ [(q1, .inl (Θ.2.2 1, 5, .inl (upd (upd (upd (upd (upd (fun _ => 0) (0 : Int32).toNatClampNeg 30) (1 : Int32).toNatClampNeg 0) (2 : Int32).toNatClampNeg 1) (3 : Int32).toNatClampNeg 5) (4 : Int32).toNatClampNeg 2)))]) dX1_init_39 rfl rfl gd_4_5 (fun _ => ?_)
  refine sw_putF 40 G hnX1 tyX1_ok nmX1 0 7 ([(z0, .inr (1, [.int 6, .int 4, .int 0, .long 0, .long 0, .int 0, .int 0, .ref q1, .null, .null]))] ++ [(q1, .inl (Θ.2.2 1, 5, .inl (upd (upd (upd (upd (upd (fun _ => 0) (0 : Int32).toNatClampNeg 30) (1 : Int32).toNatClampNeg 0) (2 : Int32).toNatClampNeg 1) (3 : Int32).toNatClampNeg 5) (4 : Int32).toNatClampNeg 2)))]) dX1_init_40 vc1 (by decide) (List.mem_cons_of_mem _ lk_81f95497) rfl hin rfl rfl (Nat.le_of_ble_eq_true rfl) (tyX1_ok 7 (by decide)) rfl rfl rfl ?_
  refine sw_aload_n 43 G dX1_init_43 0 rfl ?_
  refine sw_bipush 44 G (42 : Int32) dX1_init_44 (by decide) ?_
  refine sw_newa 46 G (ty := .int) (N := 42) (a0 := (42, .inl (fun _ => 0))) 1 rfl dX1_init_46 (List.mem_cons_of_mem _ lk_fac3222c) rfl (fun _ => rfl) (by decide) (by decide) (by decide) ⟨Nat.le_of_ble_eq_true rfl, Nat.le_of_ble_eq_true rfl⟩ (fun q2 => ?_)
  refine sw_putF 48 G hnX1 tyX1_ok nmX1 0 8 ([(z0, .inr (1, [.int 6, .int 4, .int 0, .long 0, .long 0, .int 0, .int 0, .ref q1, .ref q2, .null]))] ++ [(q1, .inl (Θ.2.2 1, 5, .inl (upd (upd (upd (upd (upd (fun _ => 0) (0 : Int32).toNatClampNeg 30) (1 : Int32).toNatClampNeg 0) (2 : Int32).toNatClampNeg 1) (3 : Int32).toNatClampNeg 5) (4 : Int32).toNatClampNeg 2)))] ++ [(q2, .inl (Θ.2.2 1, 42, .inl (fun _ => 0)))]) dX1_init_48 vc1 (by decide) (List.mem_cons_of_mem _ lk_d228bcbb) rfl hin rfl rfl (Nat.le_of_ble_eq_true rfl) (tyX1_ok 8 (by decide)) rfl rfl rfl ?_
  refine sw_aload_n 51 G dX1_init_51 0 rfl ?_
  refine sw_bipush 52 G (6 : Int32) dX1_init_52 (by decide) ?_
  refine sw_newa 54 G (ty := .long) (N := 6) (a0 := (6, .inr (.inl (fun _ => 0)))) 2 rfl dX1_init_54 (List.mem_cons_of_mem _ lk_f516dc54) rfl (fun _ => rfl) (by decide) (by decide) (by decide) ⟨Nat.le_of_ble_eq_true rfl, Nat.le_of_ble_eq_true rfl⟩ (fun q3 => ?_)
  refine sw_putF 56 G hnX1 tyX1_ok nmX1 0 9 ([(z0, .inr (1, [.int 6, .int 4, .int 0, .long 0, .long 0, .int 0, .int 0, .ref q1, .ref q2, .ref q3]))] ++ [(q1, .inl (Θ.2.2 1, 5, .inl (upd (upd (upd (upd (upd (fun _ => 0) (0 : Int32).toNatClampNeg 30) (1 : Int32).toNatClampNeg 0) (2 : Int32).toNatClampNeg 1) (3 : Int32).toNatClampNeg 5) (4 : Int32).toNatClampNeg 2)))] ++ [(q2, .inl (Θ.2.2 1, 42, .inl (fun _ => 0)))] ++ [(q3, .inl (Θ.2.2 2, 6, .inr (.inl (fun _ => 0))))]) dX1_init_56 vc1 (by decide) (List.mem_cons_of_mem _ lk_7d3903e7) rfl hin rfl rfl (Nat.le_of_ble_eq_true rfl) (tyX1_ok 9 (by decide)) rfl rfl rfl ?_
  exact sw_retN 59 G (fun j => ([q1, q2, q3] : List Nat).getD j 0) (List.Perm.refl _) dX1_init_59 KK (by decide) (by decide)
abbrev rmX2_init : Room := { frames := 1, cells := 3, slots := 18, locals := 12 }
theorem kX2_init (Θ : Tht) (z0 : Nat) : FN Θ 3 18 yX2_init (Cond.code yX2_init cX2_init 1 none :: GW) rmX2_init z0 [(z0, .inr (2, [.int 0, .int 0, .int 0, .int 0, .int 0, .null, .null, .null]))] (fun ad => wX2 Θ z0 (ad 0) (ad 1) (ad 2) 0 0 0 0 0 (fun _ => 0) (fun _ => 0) (fun _ => 0)) := by
  refine FN.of (by decide +kernel) rfl rfl (Nat.le_of_ble_eq_true rfl) (fun p e s m args below meth c A Q G KK hAO hin => ?_)
  refine sw_aload_n 0 G dX2_init_0 0 rfl ?_
  refine sw_objInit 1 G dX2_init_1 (List.mem_cons_of_mem _ lk_4146c757) (List.mem_cons_of_mem _ lk_4bdbcb66) (List.mem_cons_of_mem _ lk_1fb87d8f) (Nat.le_of_ble_eq_true rfl) (Nat.le_of_ble_eq_true rfl) ?_
  refine sw_aload_n 4 G dX2_init_4 0 rfl ?_
  refine sw_bipush 5 G (6 : Int32) dX2_init_5 (by decide) ?_
  refine sw_newa 7 G (ty := .int) (N := 6) (a0 := (6, .inl (fun _ => 0))) 1 rfl dX2_init_7 (List.mem_cons_of_mem _ lk_fac3222c) rfl (fun _ => rfl) (by decide) (by decide) (by decide) ⟨Nat.le_of_ble_eq_true rfl, Nat.le_of_ble_eq_true rfl⟩ (fun q1 => ?_)
  refine sw_putF 9 G hnX2 tyX2_ok nmX2 0 5 ([(z0, .inr (2, [.int 0, .int 0, .int 0, .int 0, .int 0, .ref q1, .null, .null]))] ++ [(q1, .inl (Θ.2.2 1, 6, .inl (fun _ => 0)))]) dX2_init_9 vc2 (by decide) (List.mem_cons_of_mem _ lk_f2d20713) rfl hin rfl rfl (Nat.le_of_ble_eq_true rfl) (tyX2_ok 5 (by decide)) rfl rfl rfl ?_
  refine sw_aload_n 12 G dX2_init_12 0 rfl ?_
  refine sw_bipush 13 G (6 : Int32) dX2_init_13 (by decide) ?_
  refine sw_newa 15 G (ty := .int) (N := 6) (a0 := (6, .inl (fun _ => 0))) 1 rfl dX2_init_15 (List.mem_cons_of_mem _ lk_fac3222c) rfl (fun _ => rfl) (by decide) (by decide) (by decide) ⟨Nat.le_of_ble_eq_true rfl, Nat.le_of_ble_eq_true rfl⟩ (fun q2 => ?_)
  refine sw_putF 17 G hnX2 tyX2_ok nmX2 0 6 ([(z0, .inr (2, [.int 0, .int 0, .int 0, .int 0, .int 0, .ref q1, .ref q2, .null]))] ++ [(q1, .inl (Θ.2.2 1, 6, .inl (fun _ => 0)))] ++ [(q2, .inl (Θ.2.2 1, 6, .inl (fun _ => 0)))]) dX2_init_17 vc2 (by decide) (List.mem_cons_of_mem _ lk_e4aeaa24) rfl hin rfl rfl (Nat.le_of_ble_eq_true rfl) (tyX2_ok 6 (by decide)) rfl rfl rfl ?_
  refine sw_aload_n 20 G dX2_init_20 0 rfl ?_
  refine sw_bipush 21 G (6 : Int32) dX2_init_21 (by decide) ?_
  refine sw_newa 23 G (ty := .int) (N := 6) (a0 := (6, .inl (fun _ => 0))) 1 rfl dX2_init_23 (List.mem_cons_of_mem _ lk_fac3222c) rfl (fun _ => rfl) (by decide) (by decide) (by decide) ⟨Nat.le_of_ble_eq_true rfl, Nat.le_of_ble_eq_true rfl⟩ (fun q3 => ?_)
  refine sw_putF 25 G hnX2 tyX2_ok nmX2 0 7 ([(z0, .inr (2, [.int 0, .int 0, .int 0, .int 0, .int 0, .ref q1, .ref q2, .ref q3]))] ++ [(q1, .inl (Θ.2.2 1, 6, .inl (fun _ => 0)))] ++ [(q2, .inl (Θ.2.2 1, 6, .inl (fun _ => 0)))] ++ [(q3, .inl (Θ.2.2 1, 6, .inl (fun _ => 0)))]) dX2_init_25 vc2 (by decide) (List.mem_cons_of_mem _ lk_2a83af4d) rfl hin rfl rfl (Nat.le_of_ble_eq_true rfl) (tyX2_ok 7 (by decide)) rfl rfl rfl ?_
  exact sw_retN 28 G (fun j => ([q1, q2, q3] : List Nat).getD j 0) (List.Perm.refl _) dX2_init_28 KK (by decide) (by decide)
abbrev rmX3_init : Room := { frames := 1, cells := 3, slots := 27, locals := 12 }
theorem kX3_init (Θ : Tht) (z0 : Nat) : FN Θ 3 27 yX3_init (Cond.code yX3_init cX3_init 1 none :: GW) rmX3_init z0 [(z0, .inr (3, [.int 0, .int 0, .null, .null, .null, .int 0, .int 0, .int 0, .int 0]))] (fun ad => wX3 Θ z0 (ad 0) (ad 1) (ad 2) 0 0 (fun _ => 0) (fun _ => 0) (fun _ => 0) 0 0 0 0) := by
  refine FN.of (by decide +kernel) rfl rfl (Nat.le_of_ble_eq_true rfl) (fun p e s m args below meth c A Q G KK hAO hin => ?_)
  refine sw_aload_n 0 G dX3_init_0 0 rfl ?_
  refine sw_objInit 1 G dX3_init_1 (List.mem_cons_of_mem _ lk_ae123177) (List.mem_cons_of_mem _ lk_4bdbcb66) (List.mem_cons_of_mem _ lk_1fb87d8f) (Nat.le_of_ble_eq_true rfl) (Nat.le_of_ble_eq_true rfl) ?_
  refine sw_aload_n 4 G dX3_init_4 0 rfl ?_
  refine sw_bipush 5 G (9 : Int32) dX3_init_5 (by decide) ?_
  refine sw_newa 7 G (ty := .long) (N := 9) (a0 := (9, .inr (.inl (fun _ => 0)))) 2 rfl dX3_init_7 (List.mem_cons_of_mem _ lk_f516dc54) rfl (fun _ => rfl) (by decide) (by decide) (by decide) ⟨Nat.le_of_ble_eq_true rfl, Nat.le_of_ble_eq_true rfl⟩ (fun q1 => ?_)
  refine sw_putF 9 G hnX3 tyX3_ok nmX3 0 2 ([(z0, .inr (3, [.int 0, .int 0, .ref q1, .null, .null, .int 0, .int 0, .int 0, .int 0]))] ++ [(q1, .inl (Θ.2.2 2, 9, .inr (.inl (fun _ => 0))))]) dX3_init_9 vc3 (by decide) (List.mem_cons_of_mem _ lk_6e4be49b) rfl hin rfl rfl (Nat.le_of_ble_eq_true rfl) (tyX3_ok 2 (by decide)) rfl rfl rfl ?_
  refine sw_aload_n 12 G dX3_init_12 0 rfl ?_
  refine sw_bipush 13 G (9 : Int32) dX3_init_13 (by decide) ?_
  refine sw_newa 15 G (ty := .int) (N := 9) (a0 := (9, .inl (fun _ => 0))) 1 rfl dX3_init_15 (List.mem_cons_of_mem _ lk_fac3222c) rfl (fun _ => rfl) (by decide) (by decide) (by decide) ⟨Nat.le_of_ble_eq_true rfl, Nat.le_of_ble_eq_true rfl⟩ (fun q2 => ?_)
  refine sw_putF 17 G hnX3 tyX3_ok nmX3 0 3 ([(z0, .inr (3, [.int 0, .int 0, .ref q1, .ref q2, .null, .int 0, .int 0, .int 0, .int 0]))] ++ [(q1, .inl (Θ.2.2 2, 9, .inr (.inl (fun _ => 0))))] ++ [(q2, .inl (Θ.2.2 1, 9, .inl (fun _ => 0)))]) dX3_init_17 vc3 (by decide) (List.mem_cons_of_mem _ lk_9393079b) rfl hin rfl rfl (Nat.le_of_ble_eq_true rfl) (tyX3_ok 3 (by decide)) rfl rfl rfl ?_
  refine sw_aload_n 20 G dX3_init_20 0 rfl ?_
  refine sw_bipush 21 G (9 : Int32) dX3_init_21 (by decide) ?_
  refine sw_newa 23 G (ty := .int) (N := 9) (a0 := (9, .inl (fun _ => 0))) 1 rfl dX3_init_23 (List.mem_cons_of_mem _ lk_fac3222c) rfl (fun _ => rfl) (by decide) (by decide) (by decide) ⟨Nat.le_of_ble_eq_true rfl, Nat.le_of_ble_eq_true rfl⟩ (fun q3 => ?_)
  refine sw_putF 25 G hnX3 tyX3_ok nmX3 0 4 ([(z0, .inr (3, [.int 0, .int 0, .ref q1, .ref q2, .ref q3, .int 0, .int 0, .int 0, .int 0]))] ++ [(q1, .inl (Θ.2.2 2, 9, .inr (.inl (fun _ => 0))))] ++ [(q2, .inl (Θ.2.2 1, 9, .inl (fun _ => 0)))] ++ [(q3, .inl (Θ.2.2 1, 9, .inl (fun _ => 0)))]) dX3_init_25 vc3 (by decide) (List.mem_cons_of_mem _ lk_bcc7f147) rfl hin rfl rfl (Nat.le_of_ble_eq_true rfl) (tyX3_ok 4 (by decide)) rfl rfl rfl ?_
  exact sw_retN 28 G (fun j => ([q1, q2, q3] : List Nat).getD j 0) (List.Perm.refl _) dX3_init_28 KK (by decide) (by decide)
abbrev rmX4_init : Room := { frames := 2, cells := 8, slots := 99, locals := 34 }
theorem kX4_init (Θ : Tht) (z0 : Nat) : FN Θ 8 99 yX4_init (Cond.code yX4_init cX4_init 1 none :: GW) rmX4_init z0 [(z0, .inr (4, [.null, .null]))] (fun ad => blkW Θ z0 (ad 0) (ad 1) (ad 2) (ad 3) (ad 4) (ad 5) (ad 6) (ad 7) snap0) := by
  refine FN.of (by decide +kernel) rfl rfl (Nat.le_of_ble_eq_true rfl) (fun p e s m args below meth c A Q G KK hAO hin => ?_)
  refine sw_aload_n 0 G dX4_init_0 0 rfl ?_
  refine sw_objInit 1 G dX4_init_1 (List.mem_cons_of_mem _ lk_2b12d754) (List.mem_cons_of_mem _ lk_4bdbcb66) (List.mem_cons_of_mem _ lk_1fb87d8f) (Nat.le_of_ble_eq_true rfl) (Nat.le_of_ble_eq_true rfl) ?_
  refine sw_aload_n 4 G dX4_init_4 0 rfl ?_
  refine sw_new 5 G hnX1 tyX1_ok dX4_init_5 (List.mem_cons_of_mem _ lk_ede6ca60) (List.mem_cons_of_mem _ lk_254619b7) (List.mem_cons_of_mem _ lk_31b4a827) vc1 dfX1 ⟨Nat.le_of_ble_eq_true rfl, Nat.le_of_ble_eq_true rfl⟩ (fun q1 => ?_)
  refine sw_dup 8 G dX4_init_8 rfl ?_
  refine sw_initN 9 G hAO dX4_init_9 (kX1_init Θ q1) (gwN lk_49fb2c64) (List.mem_of_getElem? (i := 1) rfl) (List.mem_cons_of_mem _ lk_46649b01) (List.mem_cons_of_mem _ lk_c654225c) rfl rfl hsX1_init ⟨rfl, rfl⟩ ⟨Nat.le_of_ble_eq_true rfl, Nat.le_of_ble_eq_true rfl⟩ ⟨Nat.le_of_ble_eq_true rfl, Nat.le_of_ble_eq_true rfl⟩ (Nat.le_of_ble_eq_true rfl) (fun u9 => ?_)
  refine sw_putF 12 G hnX4 tyX4_ok nmX4 0 0 ([(z0, .inr (4, [.ref q1, .null]))] ++ (wX1 Θ q1 (u9 0) (u9 1) (u9 2) 6 4 0 0 0 0 0 set0 (fun _ => 0) (fun _ => 0))) dX4_init_12 vc4 (by decide) (List.mem_cons_of_mem _ lk_0f75c8f8) rfl hin rfl rfl (Nat.le_of_ble_eq_true rfl) (tyX4_ok 0 (by decide)) rfl rfl rfl ?_
  refine sw_aload_n 15 G dX4_init_15 0 rfl ?_
  refine sw_new 16 G hnX3 tyX3_ok dX4_init_16 (List.mem_cons_of_mem _ lk_8ca2b0ef) (List.mem_cons_of_mem _ lk_8d695e84) (List.mem_cons_of_mem _ lk_a4db81f1) vc3 dfX3 ⟨Nat.le_of_ble_eq_true rfl, Nat.le_of_ble_eq_true rfl⟩ (fun q2 => ?_)
  refine sw_dup 19 G dX4_init_19 rfl ?_
  refine sw_initN 20 G hAO dX4_init_20 (kX3_init Θ q2) (gwN lk_27610bcb) (List.mem_of_getElem? (i := 2) rfl) (List.mem_cons_of_mem _ lk_f86f7e06) (List.mem_cons_of_mem _ lk_80120fb8) rfl rfl hsX3_init ⟨rfl, rfl⟩ ⟨Nat.le_of_ble_eq_true rfl, Nat.le_of_ble_eq_true rfl⟩ ⟨Nat.le_of_ble_eq_true rfl, Nat.le_of_ble_eq_true rfl⟩ (Nat.le_of_ble_eq_true rfl) (fun u20 => ?_)
  refine sw_putF 23 G hnX4 tyX4_ok nmX4 0 1 ([(z0, .inr (4, [.ref q1, .ref q2]))] ++ (wX1 Θ q1 (u9 0) (u9 1) (u9 2) 6 4 0 0 0 0 0 set0 (fun _ => 0) (fun _ => 0)) ++ (wX3 Θ q2 (u20 0) (u20 1) (u20 2) 0 0 (fun _ => 0) (fun _ => 0) (fun _ => 0) 0 0 0 0)) dX4_init_23 vc4 (by decide) (List.mem_cons_of_mem _ lk_23ab8fcd) rfl hin rfl rfl (Nat.le_of_ble_eq_true rfl) (tyX4_ok 1 (by decide)) rfl rfl rfl ?_
  exact sw_retN 26 G (fun j => ([q1, (u9 0), (u9 1), (u9 2), q2, (u20 0), (u20 1), (u20 2)] : List Nat).getD j 0) (List.Perm.refl _) dX4_init_26 KK (by decide) (by decide)
