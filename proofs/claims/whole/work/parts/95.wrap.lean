theorem lk_d6e0805d : Cond.instanceMethod yX5_begin ∈ GW := GW_of 938 (by decide +kernel) (by decide +kernel)
theorem lk_40c13d4e : Cond.selects RX5 yX5_begin yX5_begin ∈ GW := GW_of 939 (by decide +kernel) (by decide +kernel)
theorem lk_15261f5d : Cond.code yX5_begin cX5_begin 4 (some .int) ∈ GW := GW_of 940 (by decide +kernel) (by decide +kernel)
theorem lk_64583575 : Cond.instanceMethod yX5_mark ∈ GW := GW_of 946 (by decide +kernel) (by decide +kernel)
theorem lk_8ed26829 : Cond.selects RX5 yX5_mark yX5_mark ∈ GW := GW_of 947 (by decide +kernel) (by decide +kernel)
theorem lk_dba0d6d6 : Cond.code yX5_mark cX5_mark 6 (some .int) ∈ GW := GW_of 948 (by decide +kernel) (by decide +kernel)
theorem lk_d2fa5e10 : Cond.instanceMethod yX5_setCarrier ∈ GW := GW_of 954 (by decide +kernel) (by decide +kernel)
theorem lk_cbe52151 : Cond.selects RX5 yX5_setCarrier yX5_setCarrier ∈ GW := GW_of 955 (by decide +kernel) (by decide +kernel)
theorem lk_45df704e : Cond.code yX5_setCarrier cX5_setCarrier 3 (some .int) ∈ GW := GW_of 956 (by decide +kernel) (by decide +kernel)
theorem lk_2a48d3d5 : Cond.instanceMethod yX5_set ∈ GW := GW_of 962 (by decide +kernel) (by decide +kernel)
theorem lk_d6ab3072 : Cond.selects RX5 yX5_set yX5_set ∈ GW := GW_of 963 (by decide +kernel) (by decide +kernel)
theorem lk_539c27f1 : Cond.code yX5_set cX5_set 4 (some .int) ∈ GW := GW_of 964 (by decide +kernel) (by decide +kernel)
theorem lk_dd6a62aa : Cond.instanceMethod yX5_addPunch ∈ GW := GW_of 979 (by decide +kernel) (by decide +kernel)
theorem lk_80ed0630 : Cond.selects RX5 yX5_addPunch yX5_addPunch ∈ GW := GW_of 980 (by decide +kernel) (by decide +kernel)
theorem lk_477a5b19 : Cond.code yX5_addPunch cX5_addPunch 5 (some .int) ∈ GW := GW_of 981 (by decide +kernel) (by decide +kernel)
theorem lk_112a04e2 : Cond.instanceMethod yX5_addBend ∈ GW := GW_of 1003 (by decide +kernel) (by decide +kernel)
theorem lk_6450d612 : Cond.selects RX5 yX5_addBend yX5_addBend ∈ GW := GW_of 1004 (by decide +kernel) (by decide +kernel)
theorem lk_8a5534ad : Cond.code yX5_addBend cX5_addBend 4 (some .int) ∈ GW := GW_of 1005 (by decide +kernel) (by decide +kernel)
theorem lk_2996caba : Cond.instanceMethod yX5_dropOperation ∈ GW := GW_of 1012 (by decide +kernel) (by decide +kernel)
theorem lk_d1f18657 : Cond.selects RX5 yX5_dropOperation yX5_dropOperation ∈ GW := GW_of 1013 (by decide +kernel) (by decide +kernel)
theorem lk_7f6e1b6a : Cond.code yX5_dropOperation cX5_dropOperation 2 (some .int) ∈ GW := GW_of 1014 (by decide +kernel) (by decide +kernel)
theorem lk_0816f013 : Cond.instanceMethod yX5_setStation ∈ GW := GW_of 1027 (by decide +kernel) (by decide +kernel)
theorem lk_5853afe0 : Cond.selects RX5 yX5_setStation yX5_setStation ∈ GW := GW_of 1028 (by decide +kernel) (by decide +kernel)
theorem lk_ed57f710 : Cond.code yX5_setStation cX5_setStation 4 (some .int) ∈ GW := GW_of 1029 (by decide +kernel) (by decide +kernel)
theorem lk_16b02793 : Cond.instanceMethod yX5_usePlan ∈ GW := GW_of 1035 (by decide +kernel) (by decide +kernel)
theorem lk_f1ea793d : Cond.selects RX5 yX5_usePlan yX5_usePlan ∈ GW := GW_of 1036 (by decide +kernel) (by decide +kernel)
theorem lk_2c765084 : Cond.code yX5_usePlan cX5_usePlan 2 (some .int) ∈ GW := GW_of 1037 (by decide +kernel) (by decide +kernel)
theorem lk_40f3d831 : Cond.instanceMethod yX5_setPilot ∈ GW := GW_of 1043 (by decide +kernel) (by decide +kernel)
theorem lk_07ec6a66 : Cond.selects RX5 yX5_setPilot yX5_setPilot ∈ GW := GW_of 1044 (by decide +kernel) (by decide +kernel)
theorem lk_fd75268e : Cond.code yX5_setPilot cX5_setPilot 3 (some .int) ∈ GW := GW_of 1045 (by decide +kernel) (by decide +kernel)
theorem lk_80a23638 : Cond.instanceMethod yX5_type ∈ GW := GW_of 1078 (by decide +kernel) (by decide +kernel)
theorem lk_607ae46c : Cond.selects RX5 yX5_type yX5_type ∈ GW := GW_of 1079 (by decide +kernel) (by decide +kernel)
theorem lk_c15f6366 : Cond.code yX5_type cX5_type 2 (some .int) ∈ GW := GW_of 1080 (by decide +kernel) (by decide +kernel)
theorem lk_3a1ef0a1 : Cond.instanceMethod yX5_undo ∈ GW := GW_of 1091 (by decide +kernel) (by decide +kernel)
theorem lk_9dfc2243 : Cond.selects RX5 yX5_undo yX5_undo ∈ GW := GW_of 1092 (by decide +kernel) (by decide +kernel)
theorem lk_3aafc518 : Cond.code yX5_undo cX5_undo 2 (some .int) ∈ GW := GW_of 1093 (by decide +kernel) (by decide +kernel)
theorem lk_b1518760 : Cond.methodLink RL 7 yX5_begin ∈ GW := GW_of 937 (by decide +kernel) (by decide +kernel)
theorem lk_1dfa06ab : Cond.classLink RL 13 eIA ∈ GW := GW_of 936 (by decide +kernel) (by decide +kernel)
theorem lk_00506084 : Cond.methodLink RL 15 yX5_mark ∈ GW := GW_of 945 (by decide +kernel) (by decide +kernel)
theorem lk_3e8ba020 : Cond.methodLink RL 19 yX5_setCarrier ∈ GW := GW_of 953 (by decide +kernel) (by decide +kernel)
theorem lk_27196128 : Cond.methodLink RL 23 yX5_set ∈ GW := GW_of 961 (by decide +kernel) (by decide +kernel)
theorem lk_637ec80b : Cond.methodLink RL 26 yX5_addPunch ∈ GW := GW_of 978 (by decide +kernel) (by decide +kernel)
theorem lk_6e631457 : Cond.classLink RL 30 eIS ∈ GW := GW_of 977 (by decide +kernel) (by decide +kernel)
theorem lk_23fa58b0 : Cond.methodLink RL 32 yX5_addBend ∈ GW := GW_of 1002 (by decide +kernel) (by decide +kernel)
theorem lk_4495fb04 : Cond.methodLink RL 36 yX5_dropOperation ∈ GW := GW_of 1011 (by decide +kernel) (by decide +kernel)
theorem lk_f2a532f1 : Cond.classLink RL 39 eIB ∈ GW := GW_of 1010 (by decide +kernel) (by decide +kernel)
theorem lk_3a969db5 : Cond.methodLink RL 41 yX5_setStation ∈ GW := GW_of 1026 (by decide +kernel) (by decide +kernel)
theorem lk_61c3e9e5 : Cond.methodLink RL 44 yX5_usePlan ∈ GW := GW_of 1034 (by decide +kernel) (by decide +kernel)
theorem lk_4846537a : Cond.methodLink RL 48 yX5_setPilot ∈ GW := GW_of 1042 (by decide +kernel) (by decide +kernel)
theorem lk_c9543ff7 : Cond.methodLink RL 52 yX5_cellSet ∈ GW := GW_of 1049 (by decide +kernel) (by decide +kernel)
theorem lk_a8627d7c : Cond.methodLink RL 56 yX5_operation ∈ GW := GW_of 1053 (by decide +kernel) (by decide +kernel)
theorem lk_35dcbefd : Cond.methodLink RL 59 yX5_station ∈ GW := GW_of 1057 (by decide +kernel) (by decide +kernel)
theorem lk_30884cf9 : Cond.methodLink RL 62 yX5_pitch ∈ GW := GW_of 1061 (by decide +kernel) (by decide +kernel)
theorem lk_92f6207a : Cond.methodLink RL 65 yX5_left ∈ GW := GW_of 1065 (by decide +kernel) (by decide +kernel)
theorem lk_b655eef4 : Cond.methodLink RL 68 yX5_whole ∈ GW := GW_of 1069 (by decide +kernel) (by decide +kernel)
theorem lk_9bd26691 : Cond.methodLink RL 71 yX5_planned ∈ GW := GW_of 1073 (by decide +kernel) (by decide +kernel)
theorem lk_e925e2e2 : Cond.methodLink RL 74 yX5_type ∈ GW := GW_of 1077 (by decide +kernel) (by decide +kernel)
theorem lk_420ce3e5 : Cond.methodLink RL 77 yX5_undo ∈ GW := GW_of 1090 (by decide +kernel) (by decide +kernel)
/-! the law's own methods: one call each, caught -/
abbrev rmW : Room := { frames := 11, cells := 1, slots := 6, locals := 330 }
def wO (Θ : Tht) (q : Nat) (f : Nat → Int64) : va_W := [(q, .inl (Θ.2.2 2, 1, .inr (.inl f)))]
theorem gd0 : gd (0 : Int32) 1 (some ()) = some () := by decide +kernel
def exn (s h t : Nat) (e : Nat) : ExceptionTableEntry := { startPc := s, endPc := e, handlerPc := h, catchType := t }
theorem ev_cast {K : (Nat → Nat) × (Nat → Nat)} {A : Nat → Prop} {U : State} {H : Heap} {args : Array Value} (E : Ev K A U H) {e : String} (he : Cond.castable e e ∈ evB) : (Cond.castable e e).before args U = true := va_Nw.use (evB_tab he) (E.2.2.2.2.2.2.2.1 _ he)
theorem evA_in : Cond.castable eIA eIA ∈ evB := List.mem_of_getElem? (i := 0) rfl
theorem evS_in : Cond.castable eIS eIS ∈ evB := List.mem_of_getElem? (i := 1) rfl
theorem evBB_in : Cond.castable eIB eIB ∈ evB := List.mem_of_getElem? (i := 2) rfl
theorem hvL_begin : yX5_begin.cls = RX5 ∧ yX5_begin.cls ≠ "java/lang/invoke/MethodHandle" ∧ yX5_begin.cls ≠ "java/lang/invoke/VarHandle" ∧ (parseMethodDescriptor yX5_begin.desc).map (fun d => d.parameters.length) = some 2 := by decide +kernel
theorem hsL_begin : yL_begin.cls ≠ "java/lang/invoke/MethodHandle" ∧ yL_begin.cls ≠ "java/lang/invoke/VarHandle" ∧ (parseMethodDescriptor yL_begin.desc).map (fun d => d.parameters.length) = some 4 := by decide +kernel
theorem hvL_mark : yX5_mark.cls = RX5 ∧ yX5_mark.cls ≠ "java/lang/invoke/MethodHandle" ∧ yX5_mark.cls ≠ "java/lang/invoke/VarHandle" ∧ (parseMethodDescriptor yX5_mark.desc).map (fun d => d.parameters.length) = some 5 := by decide +kernel
theorem hsL_mark : yL_mark.cls ≠ "java/lang/invoke/MethodHandle" ∧ yL_mark.cls ≠ "java/lang/invoke/VarHandle" ∧ (parseMethodDescriptor yL_mark.desc).map (fun d => d.parameters.length) = some 7 := by decide +kernel
theorem hvL_setCarrier : yX5_setCarrier.cls = RX5 ∧ yX5_setCarrier.cls ≠ "java/lang/invoke/MethodHandle" ∧ yX5_setCarrier.cls ≠ "java/lang/invoke/VarHandle" ∧ (parseMethodDescriptor yX5_setCarrier.desc).map (fun d => d.parameters.length) = some 1 := by decide +kernel
theorem hsL_setCarrier : yL_setCarrier.cls ≠ "java/lang/invoke/MethodHandle" ∧ yL_setCarrier.cls ≠ "java/lang/invoke/VarHandle" ∧ (parseMethodDescriptor yL_setCarrier.desc).map (fun d => d.parameters.length) = some 3 := by decide +kernel
theorem hvL_set : yX5_set.cls = RX5 ∧ yX5_set.cls ≠ "java/lang/invoke/MethodHandle" ∧ yX5_set.cls ≠ "java/lang/invoke/VarHandle" ∧ (parseMethodDescriptor yX5_set.desc).map (fun d => d.parameters.length) = some 2 := by decide +kernel
theorem hsL_set : yL_set.cls ≠ "java/lang/invoke/MethodHandle" ∧ yL_set.cls ≠ "java/lang/invoke/VarHandle" ∧ (parseMethodDescriptor yL_set.desc).map (fun d => d.parameters.length) = some 4 := by decide +kernel
theorem hvL_addPunch : yX5_addPunch.cls = RX5 ∧ yX5_addPunch.cls ≠ "java/lang/invoke/MethodHandle" ∧ yX5_addPunch.cls ≠ "java/lang/invoke/VarHandle" ∧ (parseMethodDescriptor yX5_addPunch.desc).map (fun d => d.parameters.length) = some 4 := by decide +kernel
theorem hsL_addPunch : yL_addPunch.cls ≠ "java/lang/invoke/MethodHandle" ∧ yL_addPunch.cls ≠ "java/lang/invoke/VarHandle" ∧ (parseMethodDescriptor yL_addPunch.desc).map (fun d => d.parameters.length) = some 6 := by decide +kernel
theorem hvL_addBend : yX5_addBend.cls = RX5 ∧ yX5_addBend.cls ≠ "java/lang/invoke/MethodHandle" ∧ yX5_addBend.cls ≠ "java/lang/invoke/VarHandle" ∧ (parseMethodDescriptor yX5_addBend.desc).map (fun d => d.parameters.length) = some 3 := by decide +kernel
theorem hsL_addBend : yL_addBend.cls ≠ "java/lang/invoke/MethodHandle" ∧ yL_addBend.cls ≠ "java/lang/invoke/VarHandle" ∧ (parseMethodDescriptor yL_addBend.desc).map (fun d => d.parameters.length) = some 5 := by decide +kernel
theorem hvL_dropOperation : yX5_dropOperation.cls = RX5 ∧ yX5_dropOperation.cls ≠ "java/lang/invoke/MethodHandle" ∧ yX5_dropOperation.cls ≠ "java/lang/invoke/VarHandle" ∧ (parseMethodDescriptor yX5_dropOperation.desc).map (fun d => d.parameters.length) = some 1 := by decide +kernel
theorem hsL_dropOperation : yL_dropOperation.cls ≠ "java/lang/invoke/MethodHandle" ∧ yL_dropOperation.cls ≠ "java/lang/invoke/VarHandle" ∧ (parseMethodDescriptor yL_dropOperation.desc).map (fun d => d.parameters.length) = some 3 := by decide +kernel
theorem hvL_setStation : yX5_setStation.cls = RX5 ∧ yX5_setStation.cls ≠ "java/lang/invoke/MethodHandle" ∧ yX5_setStation.cls ≠ "java/lang/invoke/VarHandle" ∧ (parseMethodDescriptor yX5_setStation.desc).map (fun d => d.parameters.length) = some 2 := by decide +kernel
theorem hsL_setStation : yL_setStation.cls ≠ "java/lang/invoke/MethodHandle" ∧ yL_setStation.cls ≠ "java/lang/invoke/VarHandle" ∧ (parseMethodDescriptor yL_setStation.desc).map (fun d => d.parameters.length) = some 4 := by decide +kernel
theorem hvL_usePlan : yX5_usePlan.cls = RX5 ∧ yX5_usePlan.cls ≠ "java/lang/invoke/MethodHandle" ∧ yX5_usePlan.cls ≠ "java/lang/invoke/VarHandle" ∧ (parseMethodDescriptor yX5_usePlan.desc).map (fun d => d.parameters.length) = some 0 := by decide +kernel
theorem hsL_usePlan : yL_usePlan.cls ≠ "java/lang/invoke/MethodHandle" ∧ yL_usePlan.cls ≠ "java/lang/invoke/VarHandle" ∧ (parseMethodDescriptor yL_usePlan.desc).map (fun d => d.parameters.length) = some 2 := by decide +kernel
theorem hvL_setPilot : yX5_setPilot.cls = RX5 ∧ yX5_setPilot.cls ≠ "java/lang/invoke/MethodHandle" ∧ yX5_setPilot.cls ≠ "java/lang/invoke/VarHandle" ∧ (parseMethodDescriptor yX5_setPilot.desc).map (fun d => d.parameters.length) = some 2 := by decide +kernel
theorem hsL_setPilot : yL_setPilot.cls ≠ "java/lang/invoke/MethodHandle" ∧ yL_setPilot.cls ≠ "java/lang/invoke/VarHandle" ∧ (parseMethodDescriptor yL_setPilot.desc).map (fun d => d.parameters.length) = some 4 := by decide +kernel
theorem hvL_cellSet : yX5_cellSet.cls = RX5 ∧ yX5_cellSet.cls ≠ "java/lang/invoke/MethodHandle" ∧ yX5_cellSet.cls ≠ "java/lang/invoke/VarHandle" ∧ (parseMethodDescriptor yX5_cellSet.desc).map (fun d => d.parameters.length) = some 1 := by decide +kernel
theorem hsL_cellSet : yL_cellSet.cls ≠ "java/lang/invoke/MethodHandle" ∧ yL_cellSet.cls ≠ "java/lang/invoke/VarHandle" ∧ (parseMethodDescriptor yL_cellSet.desc).map (fun d => d.parameters.length) = some 3 := by decide +kernel
theorem hvL_operation : yX5_operation.cls = RX5 ∧ yX5_operation.cls ≠ "java/lang/invoke/MethodHandle" ∧ yX5_operation.cls ≠ "java/lang/invoke/VarHandle" ∧ (parseMethodDescriptor yX5_operation.desc).map (fun d => d.parameters.length) = some 2 := by decide +kernel
theorem hsL_operation : yL_operation.cls ≠ "java/lang/invoke/MethodHandle" ∧ yL_operation.cls ≠ "java/lang/invoke/VarHandle" ∧ (parseMethodDescriptor yL_operation.desc).map (fun d => d.parameters.length) = some 4 := by decide +kernel
theorem hvL_station : yX5_station.cls = RX5 ∧ yX5_station.cls ≠ "java/lang/invoke/MethodHandle" ∧ yX5_station.cls ≠ "java/lang/invoke/VarHandle" ∧ (parseMethodDescriptor yX5_station.desc).map (fun d => d.parameters.length) = some 2 := by decide +kernel
theorem hsL_station : yL_station.cls ≠ "java/lang/invoke/MethodHandle" ∧ yL_station.cls ≠ "java/lang/invoke/VarHandle" ∧ (parseMethodDescriptor yL_station.desc).map (fun d => d.parameters.length) = some 4 := by decide +kernel
theorem hvL_pitch : yX5_pitch.cls = RX5 ∧ yX5_pitch.cls ≠ "java/lang/invoke/MethodHandle" ∧ yX5_pitch.cls ≠ "java/lang/invoke/VarHandle" ∧ (parseMethodDescriptor yX5_pitch.desc).map (fun d => d.parameters.length) = some 2 := by decide +kernel
theorem hsL_pitch : yL_pitch.cls ≠ "java/lang/invoke/MethodHandle" ∧ yL_pitch.cls ≠ "java/lang/invoke/VarHandle" ∧ (parseMethodDescriptor yL_pitch.desc).map (fun d => d.parameters.length) = some 4 := by decide +kernel
theorem hvL_left : yX5_left.cls = RX5 ∧ yX5_left.cls ≠ "java/lang/invoke/MethodHandle" ∧ yX5_left.cls ≠ "java/lang/invoke/VarHandle" ∧ (parseMethodDescriptor yX5_left.desc).map (fun d => d.parameters.length) = some 1 := by decide +kernel
theorem hsL_left : yL_left.cls ≠ "java/lang/invoke/MethodHandle" ∧ yL_left.cls ≠ "java/lang/invoke/VarHandle" ∧ (parseMethodDescriptor yL_left.desc).map (fun d => d.parameters.length) = some 3 := by decide +kernel
theorem hvL_whole : yX5_whole.cls = RX5 ∧ yX5_whole.cls ≠ "java/lang/invoke/MethodHandle" ∧ yX5_whole.cls ≠ "java/lang/invoke/VarHandle" ∧ (parseMethodDescriptor yX5_whole.desc).map (fun d => d.parameters.length) = some 1 := by decide +kernel
theorem hsL_whole : yL_whole.cls ≠ "java/lang/invoke/MethodHandle" ∧ yL_whole.cls ≠ "java/lang/invoke/VarHandle" ∧ (parseMethodDescriptor yL_whole.desc).map (fun d => d.parameters.length) = some 3 := by decide +kernel
theorem hvL_planned : yX5_planned.cls = RX5 ∧ yX5_planned.cls ≠ "java/lang/invoke/MethodHandle" ∧ yX5_planned.cls ≠ "java/lang/invoke/VarHandle" ∧ (parseMethodDescriptor yX5_planned.desc).map (fun d => d.parameters.length) = some 1 := by decide +kernel
theorem hsL_planned : yL_planned.cls ≠ "java/lang/invoke/MethodHandle" ∧ yL_planned.cls ≠ "java/lang/invoke/VarHandle" ∧ (parseMethodDescriptor yL_planned.desc).map (fun d => d.parameters.length) = some 3 := by decide +kernel
theorem hvL_type : yX5_type.cls = RX5 ∧ yX5_type.cls ≠ "java/lang/invoke/MethodHandle" ∧ yX5_type.cls ≠ "java/lang/invoke/VarHandle" ∧ (parseMethodDescriptor yX5_type.desc).map (fun d => d.parameters.length) = some 1 := by decide +kernel
theorem hsL_type : yL_type.cls ≠ "java/lang/invoke/MethodHandle" ∧ yL_type.cls ≠ "java/lang/invoke/VarHandle" ∧ (parseMethodDescriptor yL_type.desc).map (fun d => d.parameters.length) = some 3 := by decide +kernel
theorem hvL_undo : yX5_undo.cls = RX5 ∧ yX5_undo.cls ≠ "java/lang/invoke/MethodHandle" ∧ yX5_undo.cls ≠ "java/lang/invoke/VarHandle" ∧ (parseMethodDescriptor yX5_undo.desc).map (fun d => d.parameters.length) = some 0 := by decide +kernel
theorem hsL_undo : yL_undo.cls ≠ "java/lang/invoke/MethodHandle" ∧ yL_undo.cls ≠ "java/lang/invoke/VarHandle" ∧ (parseMethodDescriptor yL_undo.desc).map (fun d => d.parameters.length) = some 2 := by decide +kernel
theorem kL_begin {Θ : Tht} {K : (Nat → Nat) × (Nat → Nat)} {a0 a1 : Int32} {b q : Nat} {f : Nat → Int64} {wc wc2 : va_W} {fs : List Value} {v : Int32} (hb : wc[0]? = some (b, .inr (5, fs))) (h : FC Θ K 0 0 yX5_begin (Cond.code yX5_begin cX5_begin 4 (some .int) :: GW) rmX5_begin [.ref b, .int a0, .int a1] wc (some (.int v)) wc2) : FC Θ K 1 6 yL_begin (Cond.codeWith yL_begin cL_begin 5 (some .int) [(0, 10, 13, 13)] :: GW) rmW [.ref b, .int a0, .int a1, .ref q] (wO Θ q f ++ wc) (some (.int 0)) (wO Θ q (vp_updL f (0 : Int32).toNatClampNeg (v.toInt64)) ++ wc2) := by
  refine FC.ofH (by decide +kernel) rfl (Nat.le_of_ble_eq_true rfl) (fun p e s m args below meth c A Q G KK E ht => ?_)
  show sw Θ p e rmW s m args below meth c A Q 5 0 0 0 [(0, .ref b), (1, .int a0), (2, .int a1), (3, .ref q)] [] (wO Θ q f ++ wc)
  refine sw_aload_n 0 G dL_begin_0 3 rfl ?_
  refine sw_iconst 1 G (0 : Int32) dL_begin_1 rfl ?_
  refine sw_aload_n 2 G dL_begin_2 0 rfl ?_
  refine sw_iload_n 3 G dL_begin_3 1 rfl ?_
  refine sw_iload_n 4 G dL_begin_4 2 rfl ?_
  refine sw_callVA 5 G E 2 dL_begin_5 (FC.head (wO Θ q f) h) (gwV lk_b1518760 lk_d6e0805d lk_40c13d4e lk_5f14f758 lk_15261f5d) rfl hvL_begin ⟨rfl, rfl⟩ ⟨Nat.le_of_ble_eq_true rfl, Nat.le_of_ble_eq_true rfl⟩ ⟨Nat.le_of_ble_eq_true rfl, Nat.le_of_ble_eq_true rfl⟩ rfl rfl (Nat.le_of_ble_eq_true rfl) 1 hb vc5 rfl ?_
  refine sw_i2l 8 G dL_begin_8 ?_
  refine sw_last 9 G 0 (wO Θ q (vp_updL f (0 : Int32).toNatClampNeg (v.toInt64)) ++ wc2) dL_begin_9 rfl rfl gd0 (fun _ => ?_)
  refine sw_goto 10 G 17 dL_begin_10 rfl ?_
  refine sw_iconst 17 G (0 : Int32) dL_begin_17 rfl ?_
  exact sw_iretC 18 G dL_begin_18 KK (by decide) (by decide)
theorem kL_begin_xA {Θ : Tht} {K : (Nat → Nat) × (Nat → Nat)} {a0 a1 : Int32} {b q : Nat} {f : Nat → Int64} {wc wc2 : va_W} {fs : List Value} (hb : wc[0]? = some (b, .inr (5, fs))) (h : FX Θ K yX5_begin (Cond.code yX5_begin cX5_begin 4 (some .int) :: GW) rmXX [.ref b, .int a0, .int a1] wc eIA wc2) : FC Θ K 1 6 yL_begin (Cond.codeWith yL_begin cL_begin 5 (some .int) [(0, 10, 13, 13)] :: GW) rmW [.ref b, .int a0, .int a1, .ref q] (wO Θ q f ++ wc) (some (.int 1)) (wO Θ q f ++ wc2) := by
  refine FC.ofH (by decide +kernel) rfl (Nat.le_of_ble_eq_true rfl) (fun p e s m args below meth c A Q G KK E ht => ?_)
  show sw Θ p e rmW s m args below meth c A Q 5 0 0 0 [(0, .ref b), (1, .int a0), (2, .int a1), (3, .ref q)] [] (wO Θ q f ++ wc)
  refine sw_aload_n 0 G dL_begin_0 3 rfl ?_
  refine sw_iconst 1 G (0 : Int32) dL_begin_1 rfl ?_
  refine sw_aload_n 2 G dL_begin_2 0 rfl ?_
  refine sw_iload_n 3 G dL_begin_3 1 rfl ?_
  refine sw_iload_n 4 G dL_begin_4 2 rfl ?_
  refine sw_callVX 5 G E (name := eIA) 2 dL_begin_5 (FX.head (wO Θ q f) h) (gwV lk_b1518760 lk_d6e0805d lk_40c13d4e lk_5f14f758 lk_15261f5d) rfl hvL_begin ⟨rfl, rfl⟩ ⟨Nat.le_of_ble_eq_true rfl, Nat.le_of_ble_eq_true rfl⟩ ⟨Nat.le_of_ble_eq_true rfl, Nat.le_of_ble_eq_true rfl⟩ rfl rfl (Nat.le_of_ble_eq_true rfl) 1 hb vc5 rfl [] (exn 0 13 13 10) [] (ht.trans rfl) (fun z hz => absurd hz List.not_mem_nil) (by decide) (by decide) (G.2.2.2.2.1 _ (List.mem_cons_of_mem _ lk_1dfa06ab)) (ev_cast E evA_in) (fun q9 => ?_)
  refine sw_astore 13 G _ dL_begin_13 (by decide) rfl ?_
  refine sw_iconst 15 G (1 : Int32) dL_begin_15 rfl ?_
  exact sw_iretC 16 G dL_begin_16 KK (by decide) (by decide)
theorem kL_mark {Θ : Tht} {K : (Nat → Nat) × (Nat → Nat)} {a0 a1 a2 a3 a4 : Int32} {b q : Nat} {f : Nat → Int64} {wc wc2 : va_W} {fs : List Value} {v : Int32} (hb : wc[0]? = some (b, .inr (5, fs))) (h : FC Θ K 0 0 yX5_mark (Cond.code yX5_mark cX5_mark 6 (some .int) :: GW) rmX5_mark [.ref b, .int a0, .int a1, .int a2, .int a3, .int a4] wc (some (.int v)) wc2) : FC Θ K 1 6 yL_mark (Cond.codeWith yL_mark cL_mark 8 (some .int) [(0, 16, 19, 13)] :: GW) rmW [.ref b, .int a0, .int a1, .int a2, .int a3, .int a4, .ref q] (wO Θ q f ++ wc) (some (.int 0)) (wO Θ q (vp_updL f (0 : Int32).toNatClampNeg (v.toInt64)) ++ wc2) := by
  refine FC.ofH (by decide +kernel) rfl (Nat.le_of_ble_eq_true rfl) (fun p e s m args below meth c A Q G KK E ht => ?_)
  show sw Θ p e rmW s m args below meth c A Q 8 0 0 0 [(0, .ref b), (1, .int a0), (2, .int a1), (3, .int a2), (4, .int a3), (5, .int a4), (6, .ref q)] [] (wO Θ q f ++ wc)
  refine sw_aload 0 G dL_mark_0 6 rfl ?_
  refine sw_iconst 2 G (0 : Int32) dL_mark_2 rfl ?_
  refine sw_aload_n 3 G dL_mark_3 0 rfl ?_
  refine sw_iload_n 4 G dL_mark_4 1 rfl ?_
  refine sw_iload_n 5 G dL_mark_5 2 rfl ?_
  refine sw_iload_n 6 G dL_mark_6 3 rfl ?_
  refine sw_iload 7 G dL_mark_7 4 rfl ?_
  refine sw_iload 9 G dL_mark_9 5 rfl ?_
  refine sw_callVA 11 G E 5 dL_mark_11 (FC.head (wO Θ q f) h) (gwV lk_00506084 lk_64583575 lk_8ed26829 lk_5f14f758 lk_dba0d6d6) rfl hvL_mark ⟨rfl, rfl⟩ ⟨Nat.le_of_ble_eq_true rfl, Nat.le_of_ble_eq_true rfl⟩ ⟨Nat.le_of_ble_eq_true rfl, Nat.le_of_ble_eq_true rfl⟩ rfl rfl (Nat.le_of_ble_eq_true rfl) 1 hb vc5 rfl ?_
  refine sw_i2l 14 G dL_mark_14 ?_
  refine sw_last 15 G 0 (wO Θ q (vp_updL f (0 : Int32).toNatClampNeg (v.toInt64)) ++ wc2) dL_mark_15 rfl rfl gd0 (fun _ => ?_)
  refine sw_goto 16 G 23 dL_mark_16 rfl ?_
  refine sw_iconst 23 G (0 : Int32) dL_mark_23 rfl ?_
  exact sw_iretC 24 G dL_mark_24 KK (by decide) (by decide)
theorem kL_mark_xA {Θ : Tht} {K : (Nat → Nat) × (Nat → Nat)} {a0 a1 a2 a3 a4 : Int32} {b q : Nat} {f : Nat → Int64} {wc wc2 : va_W} {fs : List Value} (hb : wc[0]? = some (b, .inr (5, fs))) (h : FX Θ K yX5_mark (Cond.code yX5_mark cX5_mark 6 (some .int) :: GW) rmXX [.ref b, .int a0, .int a1, .int a2, .int a3, .int a4] wc eIA wc2) : FC Θ K 1 6 yL_mark (Cond.codeWith yL_mark cL_mark 8 (some .int) [(0, 16, 19, 13)] :: GW) rmW [.ref b, .int a0, .int a1, .int a2, .int a3, .int a4, .ref q] (wO Θ q f ++ wc) (some (.int 1)) (wO Θ q f ++ wc2) := by
  refine FC.ofH (by decide +kernel) rfl (Nat.le_of_ble_eq_true rfl) (fun p e s m args below meth c A Q G KK E ht => ?_)
  show sw Θ p e rmW s m args below meth c A Q 8 0 0 0 [(0, .ref b), (1, .int a0), (2, .int a1), (3, .int a2), (4, .int a3), (5, .int a4), (6, .ref q)] [] (wO Θ q f ++ wc)
  refine sw_aload 0 G dL_mark_0 6 rfl ?_
  refine sw_iconst 2 G (0 : Int32) dL_mark_2 rfl ?_
  refine sw_aload_n 3 G dL_mark_3 0 rfl ?_
  refine sw_iload_n 4 G dL_mark_4 1 rfl ?_
  refine sw_iload_n 5 G dL_mark_5 2 rfl ?_
  refine sw_iload_n 6 G dL_mark_6 3 rfl ?_
  refine sw_iload 7 G dL_mark_7 4 rfl ?_
  refine sw_iload 9 G dL_mark_9 5 rfl ?_
  refine sw_callVX 11 G E (name := eIA) 5 dL_mark_11 (FX.head (wO Θ q f) h) (gwV lk_00506084 lk_64583575 lk_8ed26829 lk_5f14f758 lk_dba0d6d6) rfl hvL_mark ⟨rfl, rfl⟩ ⟨Nat.le_of_ble_eq_true rfl, Nat.le_of_ble_eq_true rfl⟩ ⟨Nat.le_of_ble_eq_true rfl, Nat.le_of_ble_eq_true rfl⟩ rfl rfl (Nat.le_of_ble_eq_true rfl) 1 hb vc5 rfl [] (exn 0 19 13 16) [] (ht.trans rfl) (fun z hz => absurd hz List.not_mem_nil) (by decide) (by decide) (G.2.2.2.2.1 _ (List.mem_cons_of_mem _ lk_1dfa06ab)) (ev_cast E evA_in) (fun q9 => ?_)
  refine sw_astore 19 G _ dL_mark_19 (by decide) rfl ?_
  refine sw_iconst 21 G (1 : Int32) dL_mark_21 rfl ?_
  exact sw_iretC 22 G dL_mark_22 KK (by decide) (by decide)
theorem kL_setCarrier {Θ : Tht} {K : (Nat → Nat) × (Nat → Nat)} {a0 : Int32} {b q : Nat} {f : Nat → Int64} {wc wc2 : va_W} {fs : List Value} {v : Int32} (hb : wc[0]? = some (b, .inr (5, fs))) (h : FC Θ K 0 0 yX5_setCarrier (Cond.code yX5_setCarrier cX5_setCarrier 3 (some .int) :: GW) rmX5_setCarrier [.ref b, .int a0] wc (some (.int v)) wc2) : FC Θ K 1 6 yL_setCarrier (Cond.codeWith yL_setCarrier cL_setCarrier 4 (some .int) [(0, 9, 12, 13)] :: GW) rmW [.ref b, .int a0, .ref q] (wO Θ q f ++ wc) (some (.int 0)) (wO Θ q (vp_updL f (0 : Int32).toNatClampNeg (v.toInt64)) ++ wc2) := by
  refine FC.ofH (by decide +kernel) rfl (Nat.le_of_ble_eq_true rfl) (fun p e s m args below meth c A Q G KK E ht => ?_)
  show sw Θ p e rmW s m args below meth c A Q 4 0 0 0 [(0, .ref b), (1, .int a0), (2, .ref q)] [] (wO Θ q f ++ wc)
  refine sw_aload_n 0 G dL_setCarrier_0 2 rfl ?_
  refine sw_iconst 1 G (0 : Int32) dL_setCarrier_1 rfl ?_
  refine sw_aload_n 2 G dL_setCarrier_2 0 rfl ?_
  refine sw_iload_n 3 G dL_setCarrier_3 1 rfl ?_
  refine sw_callVA 4 G E 1 dL_setCarrier_4 (FC.head (wO Θ q f) h) (gwV lk_3e8ba020 lk_d2fa5e10 lk_cbe52151 lk_5f14f758 lk_45df704e) rfl hvL_setCarrier ⟨rfl, rfl⟩ ⟨Nat.le_of_ble_eq_true rfl, Nat.le_of_ble_eq_true rfl⟩ ⟨Nat.le_of_ble_eq_true rfl, Nat.le_of_ble_eq_true rfl⟩ rfl rfl (Nat.le_of_ble_eq_true rfl) 1 hb vc5 rfl ?_
  refine sw_i2l 7 G dL_setCarrier_7 ?_
  refine sw_last 8 G 0 (wO Θ q (vp_updL f (0 : Int32).toNatClampNeg (v.toInt64)) ++ wc2) dL_setCarrier_8 rfl rfl gd0 (fun _ => ?_)
  refine sw_goto 9 G 15 dL_setCarrier_9 rfl ?_
  refine sw_iconst 15 G (0 : Int32) dL_setCarrier_15 rfl ?_
  exact sw_iretC 16 G dL_setCarrier_16 KK (by decide) (by decide)
theorem kL_setCarrier_xA {Θ : Tht} {K : (Nat → Nat) × (Nat → Nat)} {a0 : Int32} {b q : Nat} {f : Nat → Int64} {wc wc2 : va_W} {fs : List Value} (hb : wc[0]? = some (b, .inr (5, fs))) (h : FX Θ K yX5_setCarrier (Cond.code yX5_setCarrier cX5_setCarrier 3 (some .int) :: GW) rmXX [.ref b, .int a0] wc eIA wc2) : FC Θ K 1 6 yL_setCarrier (Cond.codeWith yL_setCarrier cL_setCarrier 4 (some .int) [(0, 9, 12, 13)] :: GW) rmW [.ref b, .int a0, .ref q] (wO Θ q f ++ wc) (some (.int 1)) (wO Θ q f ++ wc2) := by
  refine FC.ofH (by decide +kernel) rfl (Nat.le_of_ble_eq_true rfl) (fun p e s m args below meth c A Q G KK E ht => ?_)
  show sw Θ p e rmW s m args below meth c A Q 4 0 0 0 [(0, .ref b), (1, .int a0), (2, .ref q)] [] (wO Θ q f ++ wc)
  refine sw_aload_n 0 G dL_setCarrier_0 2 rfl ?_
  refine sw_iconst 1 G (0 : Int32) dL_setCarrier_1 rfl ?_
  refine sw_aload_n 2 G dL_setCarrier_2 0 rfl ?_
  refine sw_iload_n 3 G dL_setCarrier_3 1 rfl ?_
  refine sw_callVX 4 G E (name := eIA) 1 dL_setCarrier_4 (FX.head (wO Θ q f) h) (gwV lk_3e8ba020 lk_d2fa5e10 lk_cbe52151 lk_5f14f758 lk_45df704e) rfl hvL_setCarrier ⟨rfl, rfl⟩ ⟨Nat.le_of_ble_eq_true rfl, Nat.le_of_ble_eq_true rfl⟩ ⟨Nat.le_of_ble_eq_true rfl, Nat.le_of_ble_eq_true rfl⟩ rfl rfl (Nat.le_of_ble_eq_true rfl) 1 hb vc5 rfl [] (exn 0 12 13 9) [] (ht.trans rfl) (fun z hz => absurd hz List.not_mem_nil) (by decide) (by decide) (G.2.2.2.2.1 _ (List.mem_cons_of_mem _ lk_1dfa06ab)) (ev_cast E evA_in) (fun q9 => ?_)
  refine sw_astore_n 12 G _ dL_setCarrier_12 (by decide) rfl ?_
  refine sw_iconst 13 G (1 : Int32) dL_setCarrier_13 rfl ?_
  exact sw_iretC 14 G dL_setCarrier_14 KK (by decide) (by decide)
theorem kL_set {Θ : Tht} {K : (Nat → Nat) × (Nat → Nat)} {a0 a1 : Int32} {b q : Nat} {f : Nat → Int64} {wc wc2 : va_W} {fs : List Value} {v : Int32} (hb : wc[0]? = some (b, .inr (5, fs))) (h : FC Θ K 0 0 yX5_set (Cond.code yX5_set cX5_set 4 (some .int) :: GW) rmX5_set [.ref b, .int a0, .int a1] wc (some (.int v)) wc2) : FC Θ K 1 6 yL_set (Cond.codeWith yL_set cL_set 5 (some .int) [(0, 10, 13, 13)] :: GW) rmW [.ref b, .int a0, .int a1, .ref q] (wO Θ q f ++ wc) (some (.int 0)) (wO Θ q (vp_updL f (0 : Int32).toNatClampNeg (v.toInt64)) ++ wc2) := by
  refine FC.ofH (by decide +kernel) rfl (Nat.le_of_ble_eq_true rfl) (fun p e s m args below meth c A Q G KK E ht => ?_)
  show sw Θ p e rmW s m args below meth c A Q 5 0 0 0 [(0, .ref b), (1, .int a0), (2, .int a1), (3, .ref q)] [] (wO Θ q f ++ wc)
  refine sw_aload_n 0 G dL_set_0 3 rfl ?_
  refine sw_iconst 1 G (0 : Int32) dL_set_1 rfl ?_
  refine sw_aload_n 2 G dL_set_2 0 rfl ?_
  refine sw_iload_n 3 G dL_set_3 1 rfl ?_
  refine sw_iload_n 4 G dL_set_4 2 rfl ?_
  refine sw_callVA 5 G E 2 dL_set_5 (FC.head (wO Θ q f) h) (gwV lk_27196128 lk_2a48d3d5 lk_d6ab3072 lk_5f14f758 lk_539c27f1) rfl hvL_set ⟨rfl, rfl⟩ ⟨Nat.le_of_ble_eq_true rfl, Nat.le_of_ble_eq_true rfl⟩ ⟨Nat.le_of_ble_eq_true rfl, Nat.le_of_ble_eq_true rfl⟩ rfl rfl (Nat.le_of_ble_eq_true rfl) 1 hb vc5 rfl ?_
  refine sw_i2l 8 G dL_set_8 ?_
  refine sw_last 9 G 0 (wO Θ q (vp_updL f (0 : Int32).toNatClampNeg (v.toInt64)) ++ wc2) dL_set_9 rfl rfl gd0 (fun _ => ?_)
  refine sw_goto 10 G 17 dL_set_10 rfl ?_
  refine sw_iconst 17 G (0 : Int32) dL_set_17 rfl ?_
  exact sw_iretC 18 G dL_set_18 KK (by decide) (by decide)
theorem kL_set_xA {Θ : Tht} {K : (Nat → Nat) × (Nat → Nat)} {a0 a1 : Int32} {b q : Nat} {f : Nat → Int64} {wc wc2 : va_W} {fs : List Value} (hb : wc[0]? = some (b, .inr (5, fs))) (h : FX Θ K yX5_set (Cond.code yX5_set cX5_set 4 (some .int) :: GW) rmXX [.ref b, .int a0, .int a1] wc eIA wc2) : FC Θ K 1 6 yL_set (Cond.codeWith yL_set cL_set 5 (some .int) [(0, 10, 13, 13)] :: GW) rmW [.ref b, .int a0, .int a1, .ref q] (wO Θ q f ++ wc) (some (.int 1)) (wO Θ q f ++ wc2) := by
  refine FC.ofH (by decide +kernel) rfl (Nat.le_of_ble_eq_true rfl) (fun p e s m args below meth c A Q G KK E ht => ?_)
  show sw Θ p e rmW s m args below meth c A Q 5 0 0 0 [(0, .ref b), (1, .int a0), (2, .int a1), (3, .ref q)] [] (wO Θ q f ++ wc)
  refine sw_aload_n 0 G dL_set_0 3 rfl ?_
  refine sw_iconst 1 G (0 : Int32) dL_set_1 rfl ?_
  refine sw_aload_n 2 G dL_set_2 0 rfl ?_
  refine sw_iload_n 3 G dL_set_3 1 rfl ?_
  refine sw_iload_n 4 G dL_set_4 2 rfl ?_
  refine sw_callVX 5 G E (name := eIA) 2 dL_set_5 (FX.head (wO Θ q f) h) (gwV lk_27196128 lk_2a48d3d5 lk_d6ab3072 lk_5f14f758 lk_539c27f1) rfl hvL_set ⟨rfl, rfl⟩ ⟨Nat.le_of_ble_eq_true rfl, Nat.le_of_ble_eq_true rfl⟩ ⟨Nat.le_of_ble_eq_true rfl, Nat.le_of_ble_eq_true rfl⟩ rfl rfl (Nat.le_of_ble_eq_true rfl) 1 hb vc5 rfl [] (exn 0 13 13 10) [] (ht.trans rfl) (fun z hz => absurd hz List.not_mem_nil) (by decide) (by decide) (G.2.2.2.2.1 _ (List.mem_cons_of_mem _ lk_1dfa06ab)) (ev_cast E evA_in) (fun q9 => ?_)
  refine sw_astore 13 G _ dL_set_13 (by decide) rfl ?_
  refine sw_iconst 15 G (1 : Int32) dL_set_15 rfl ?_
  exact sw_iretC 16 G dL_set_16 KK (by decide) (by decide)
theorem kL_addPunch {Θ : Tht} {K : (Nat → Nat) × (Nat → Nat)} {a0 a1 a2 a3 : Int32} {b q : Nat} {f : Nat → Int64} {wc wc2 : va_W} {fs : List Value} {v : Int32} (hb : wc[0]? = some (b, .inr (5, fs))) (h : FC Θ K 0 0 yX5_addPunch (Cond.code yX5_addPunch cX5_addPunch 5 (some .int) :: GW) rmX5_addPunch [.ref b, .int a0, .int a1, .int a2, .int a3] wc (some (.int v)) wc2) : FC Θ K 1 6 yL_addPunch (Cond.codeWith yL_addPunch cL_addPunch 7 (some .int) [(0, 14, 17, 13), (0, 14, 21, 30)] :: GW) rmW [.ref b, .int a0, .int a1, .int a2, .int a3, .ref q] (wO Θ q f ++ wc) (some (.int 0)) (wO Θ q (vp_updL f (0 : Int32).toNatClampNeg (v.toInt64)) ++ wc2) := by
  refine FC.ofH (by decide +kernel) rfl (Nat.le_of_ble_eq_true rfl) (fun p e s m args below meth c A Q G KK E ht => ?_)
  show sw Θ p e rmW s m args below meth c A Q 7 0 0 0 [(0, .ref b), (1, .int a0), (2, .int a1), (3, .int a2), (4, .int a3), (5, .ref q)] [] (wO Θ q f ++ wc)
  refine sw_aload 0 G dL_addPunch_0 5 rfl ?_
  refine sw_iconst 2 G (0 : Int32) dL_addPunch_2 rfl ?_
  refine sw_aload_n 3 G dL_addPunch_3 0 rfl ?_
  refine sw_iload_n 4 G dL_addPunch_4 1 rfl ?_
  refine sw_iload_n 5 G dL_addPunch_5 2 rfl ?_
  refine sw_iload_n 6 G dL_addPunch_6 3 rfl ?_
  refine sw_iload 7 G dL_addPunch_7 4 rfl ?_
  refine sw_callVA 9 G E 4 dL_addPunch_9 (FC.head (wO Θ q f) h) (gwV lk_637ec80b lk_dd6a62aa lk_80ed0630 lk_5f14f758 lk_477a5b19) rfl hvL_addPunch ⟨rfl, rfl⟩ ⟨Nat.le_of_ble_eq_true rfl, Nat.le_of_ble_eq_true rfl⟩ ⟨Nat.le_of_ble_eq_true rfl, Nat.le_of_ble_eq_true rfl⟩ rfl rfl (Nat.le_of_ble_eq_true rfl) 1 hb vc5 rfl ?_
  refine sw_i2l 12 G dL_addPunch_12 ?_
  refine sw_last 13 G 0 (wO Θ q (vp_updL f (0 : Int32).toNatClampNeg (v.toInt64)) ++ wc2) dL_addPunch_13 rfl rfl gd0 (fun _ => ?_)
  refine sw_goto 14 G 25 dL_addPunch_14 rfl ?_
  refine sw_iconst 25 G (0 : Int32) dL_addPunch_25 rfl ?_
  exact sw_iretC 26 G dL_addPunch_26 KK (by decide) (by decide)
theorem kL_addPunch_xA {Θ : Tht} {K : (Nat → Nat) × (Nat → Nat)} {a0 a1 a2 a3 : Int32} {b q : Nat} {f : Nat → Int64} {wc wc2 : va_W} {fs : List Value} (hb : wc[0]? = some (b, .inr (5, fs))) (h : FX Θ K yX5_addPunch (Cond.code yX5_addPunch cX5_addPunch 5 (some .int) :: GW) rmXX [.ref b, .int a0, .int a1, .int a2, .int a3] wc eIA wc2) : FC Θ K 1 6 yL_addPunch (Cond.codeWith yL_addPunch cL_addPunch 7 (some .int) [(0, 14, 17, 13), (0, 14, 21, 30)] :: GW) rmW [.ref b, .int a0, .int a1, .int a2, .int a3, .ref q] (wO Θ q f ++ wc) (some (.int 1)) (wO Θ q f ++ wc2) := by
  refine FC.ofH (by decide +kernel) rfl (Nat.le_of_ble_eq_true rfl) (fun p e s m args below meth c A Q G KK E ht => ?_)
  show sw Θ p e rmW s m args below meth c A Q 7 0 0 0 [(0, .ref b), (1, .int a0), (2, .int a1), (3, .int a2), (4, .int a3), (5, .ref q)] [] (wO Θ q f ++ wc)
  refine sw_aload 0 G dL_addPunch_0 5 rfl ?_
  refine sw_iconst 2 G (0 : Int32) dL_addPunch_2 rfl ?_
  refine sw_aload_n 3 G dL_addPunch_3 0 rfl ?_
  refine sw_iload_n 4 G dL_addPunch_4 1 rfl ?_
  refine sw_iload_n 5 G dL_addPunch_5 2 rfl ?_
  refine sw_iload_n 6 G dL_addPunch_6 3 rfl ?_
  refine sw_iload 7 G dL_addPunch_7 4 rfl ?_
  refine sw_callVX 9 G E (name := eIA) 4 dL_addPunch_9 (FX.head (wO Θ q f) h) (gwV lk_637ec80b lk_dd6a62aa lk_80ed0630 lk_5f14f758 lk_477a5b19) rfl hvL_addPunch ⟨rfl, rfl⟩ ⟨Nat.le_of_ble_eq_true rfl, Nat.le_of_ble_eq_true rfl⟩ ⟨Nat.le_of_ble_eq_true rfl, Nat.le_of_ble_eq_true rfl⟩ rfl rfl (Nat.le_of_ble_eq_true rfl) 1 hb vc5 rfl [] (exn 0 17 13 14) [exn 0 21 30 14] (ht.trans rfl) (fun z hz => absurd hz List.not_mem_nil) (by decide) (by decide) (G.2.2.2.2.1 _ (List.mem_cons_of_mem _ lk_1dfa06ab)) (ev_cast E evA_in) (fun q9 => ?_)
  refine sw_astore 17 G _ dL_addPunch_17 (by decide) rfl ?_
  refine sw_iconst 19 G (1 : Int32) dL_addPunch_19 rfl ?_
  exact sw_iretC 20 G dL_addPunch_20 KK (by decide) (by decide)
theorem kL_addPunch_xS {Θ : Tht} {K : (Nat → Nat) × (Nat → Nat)} {a0 a1 a2 a3 : Int32} {b q : Nat} {f : Nat → Int64} {wc wc2 : va_W} {fs : List Value} (hb : wc[0]? = some (b, .inr (5, fs))) (h : FX Θ K yX5_addPunch (Cond.code yX5_addPunch cX5_addPunch 5 (some .int) :: GW) rmXX [.ref b, .int a0, .int a1, .int a2, .int a3] wc eIS wc2) : FC Θ K 1 6 yL_addPunch (Cond.codeWith yL_addPunch cL_addPunch 7 (some .int) [(0, 14, 17, 13), (0, 14, 21, 30)] :: GW) rmW [.ref b, .int a0, .int a1, .int a2, .int a3, .ref q] (wO Θ q f ++ wc) (some (.int 2)) (wO Θ q f ++ wc2) := by
  refine FC.ofH (by decide +kernel) rfl (Nat.le_of_ble_eq_true rfl) (fun p e s m args below meth c A Q G KK E ht => ?_)
  show sw Θ p e rmW s m args below meth c A Q 7 0 0 0 [(0, .ref b), (1, .int a0), (2, .int a1), (3, .int a2), (4, .int a3), (5, .ref q)] [] (wO Θ q f ++ wc)
  refine sw_aload 0 G dL_addPunch_0 5 rfl ?_
  refine sw_iconst 2 G (0 : Int32) dL_addPunch_2 rfl ?_
  refine sw_aload_n 3 G dL_addPunch_3 0 rfl ?_
  refine sw_iload_n 4 G dL_addPunch_4 1 rfl ?_
  refine sw_iload_n 5 G dL_addPunch_5 2 rfl ?_
  refine sw_iload_n 6 G dL_addPunch_6 3 rfl ?_
  refine sw_iload 7 G dL_addPunch_7 4 rfl ?_
  refine sw_callVX 9 G E (name := eIS) 4 dL_addPunch_9 (FX.head (wO Θ q f) h) (gwV lk_637ec80b lk_dd6a62aa lk_80ed0630 lk_5f14f758 lk_477a5b19) rfl hvL_addPunch ⟨rfl, rfl⟩ ⟨Nat.le_of_ble_eq_true rfl, Nat.le_of_ble_eq_true rfl⟩ ⟨Nat.le_of_ble_eq_true rfl, Nat.le_of_ble_eq_true rfl⟩ rfl rfl (Nat.le_of_ble_eq_true rfl) 1 hb vc5 rfl [exn 0 17 13 14] (exn 0 21 30 14) [] (ht.trans rfl) (fun z hz => by rw [List.mem_singleton.mp hz]; exact Or.inr ⟨by decide, eIA, G.2.2.2.2.1 _ (List.mem_cons_of_mem _ lk_1dfa06ab), E.2.2.2.2.2.2.2.2.1⟩) (by decide) (by decide) (G.2.2.2.2.1 _ (List.mem_cons_of_mem _ lk_6e631457)) (ev_cast E evS_in) (fun q9 => ?_)
  refine sw_astore 21 G _ dL_addPunch_21 (by decide) rfl ?_
  refine sw_iconst 23 G (2 : Int32) dL_addPunch_23 rfl ?_
  exact sw_iretC 24 G dL_addPunch_24 KK (by decide) (by decide)
theorem kL_addBend {Θ : Tht} {K : (Nat → Nat) × (Nat → Nat)} {a0 a1 a2 : Int32} {b q : Nat} {f : Nat → Int64} {wc wc2 : va_W} {fs : List Value} {v : Int32} (hb : wc[0]? = some (b, .inr (5, fs))) (h : FC Θ K 0 0 yX5_addBend (Cond.code yX5_addBend cX5_addBend 4 (some .int) :: GW) rmX5_addBend [.ref b, .int a0, .int a1, .int a2] wc (some (.int v)) wc2) : FC Θ K 1 6 yL_addBend (Cond.codeWith yL_addBend cL_addBend 6 (some .int) [(0, 12, 15, 13), (0, 12, 19, 30)] :: GW) rmW [.ref b, .int a0, .int a1, .int a2, .ref q] (wO Θ q f ++ wc) (some (.int 0)) (wO Θ q (vp_updL f (0 : Int32).toNatClampNeg (v.toInt64)) ++ wc2) := by
  refine FC.ofH (by decide +kernel) rfl (Nat.le_of_ble_eq_true rfl) (fun p e s m args below meth c A Q G KK E ht => ?_)
  show sw Θ p e rmW s m args below meth c A Q 6 0 0 0 [(0, .ref b), (1, .int a0), (2, .int a1), (3, .int a2), (4, .ref q)] [] (wO Θ q f ++ wc)
  refine sw_aload 0 G dL_addBend_0 4 rfl ?_
  refine sw_iconst 2 G (0 : Int32) dL_addBend_2 rfl ?_
  refine sw_aload_n 3 G dL_addBend_3 0 rfl ?_
  refine sw_iload_n 4 G dL_addBend_4 1 rfl ?_
  refine sw_iload_n 5 G dL_addBend_5 2 rfl ?_
  refine sw_iload_n 6 G dL_addBend_6 3 rfl ?_
  refine sw_callVA 7 G E 3 dL_addBend_7 (FC.head (wO Θ q f) h) (gwV lk_23fa58b0 lk_112a04e2 lk_6450d612 lk_5f14f758 lk_8a5534ad) rfl hvL_addBend ⟨rfl, rfl⟩ ⟨Nat.le_of_ble_eq_true rfl, Nat.le_of_ble_eq_true rfl⟩ ⟨Nat.le_of_ble_eq_true rfl, Nat.le_of_ble_eq_true rfl⟩ rfl rfl (Nat.le_of_ble_eq_true rfl) 1 hb vc5 rfl ?_
  refine sw_i2l 10 G dL_addBend_10 ?_
  refine sw_last 11 G 0 (wO Θ q (vp_updL f (0 : Int32).toNatClampNeg (v.toInt64)) ++ wc2) dL_addBend_11 rfl rfl gd0 (fun _ => ?_)
  refine sw_goto 12 G 23 dL_addBend_12 rfl ?_
  refine sw_iconst 23 G (0 : Int32) dL_addBend_23 rfl ?_
  exact sw_iretC 24 G dL_addBend_24 KK (by decide) (by decide)
theorem kL_addBend_xA {Θ : Tht} {K : (Nat → Nat) × (Nat → Nat)} {a0 a1 a2 : Int32} {b q : Nat} {f : Nat → Int64} {wc wc2 : va_W} {fs : List Value} (hb : wc[0]? = some (b, .inr (5, fs))) (h : FX Θ K yX5_addBend (Cond.code yX5_addBend cX5_addBend 4 (some .int) :: GW) rmXX [.ref b, .int a0, .int a1, .int a2] wc eIA wc2) : FC Θ K 1 6 yL_addBend (Cond.codeWith yL_addBend cL_addBend 6 (some .int) [(0, 12, 15, 13), (0, 12, 19, 30)] :: GW) rmW [.ref b, .int a0, .int a1, .int a2, .ref q] (wO Θ q f ++ wc) (some (.int 1)) (wO Θ q f ++ wc2) := by
  refine FC.ofH (by decide +kernel) rfl (Nat.le_of_ble_eq_true rfl) (fun p e s m args below meth c A Q G KK E ht => ?_)
  show sw Θ p e rmW s m args below meth c A Q 6 0 0 0 [(0, .ref b), (1, .int a0), (2, .int a1), (3, .int a2), (4, .ref q)] [] (wO Θ q f ++ wc)
  refine sw_aload 0 G dL_addBend_0 4 rfl ?_
  refine sw_iconst 2 G (0 : Int32) dL_addBend_2 rfl ?_
  refine sw_aload_n 3 G dL_addBend_3 0 rfl ?_
  refine sw_iload_n 4 G dL_addBend_4 1 rfl ?_
  refine sw_iload_n 5 G dL_addBend_5 2 rfl ?_
  refine sw_iload_n 6 G dL_addBend_6 3 rfl ?_
  refine sw_callVX 7 G E (name := eIA) 3 dL_addBend_7 (FX.head (wO Θ q f) h) (gwV lk_23fa58b0 lk_112a04e2 lk_6450d612 lk_5f14f758 lk_8a5534ad) rfl hvL_addBend ⟨rfl, rfl⟩ ⟨Nat.le_of_ble_eq_true rfl, Nat.le_of_ble_eq_true rfl⟩ ⟨Nat.le_of_ble_eq_true rfl, Nat.le_of_ble_eq_true rfl⟩ rfl rfl (Nat.le_of_ble_eq_true rfl) 1 hb vc5 rfl [] (exn 0 15 13 12) [exn 0 19 30 12] (ht.trans rfl) (fun z hz => absurd hz List.not_mem_nil) (by decide) (by decide) (G.2.2.2.2.1 _ (List.mem_cons_of_mem _ lk_1dfa06ab)) (ev_cast E evA_in) (fun q9 => ?_)
  refine sw_astore 15 G _ dL_addBend_15 (by decide) rfl ?_
  refine sw_iconst 17 G (1 : Int32) dL_addBend_17 rfl ?_
  exact sw_iretC 18 G dL_addBend_18 KK (by decide) (by decide)
theorem kL_addBend_xS {Θ : Tht} {K : (Nat → Nat) × (Nat → Nat)} {a0 a1 a2 : Int32} {b q : Nat} {f : Nat → Int64} {wc wc2 : va_W} {fs : List Value} (hb : wc[0]? = some (b, .inr (5, fs))) (h : FX Θ K yX5_addBend (Cond.code yX5_addBend cX5_addBend 4 (some .int) :: GW) rmXX [.ref b, .int a0, .int a1, .int a2] wc eIS wc2) : FC Θ K 1 6 yL_addBend (Cond.codeWith yL_addBend cL_addBend 6 (some .int) [(0, 12, 15, 13), (0, 12, 19, 30)] :: GW) rmW [.ref b, .int a0, .int a1, .int a2, .ref q] (wO Θ q f ++ wc) (some (.int 2)) (wO Θ q f ++ wc2) := by
  refine FC.ofH (by decide +kernel) rfl (Nat.le_of_ble_eq_true rfl) (fun p e s m args below meth c A Q G KK E ht => ?_)
  show sw Θ p e rmW s m args below meth c A Q 6 0 0 0 [(0, .ref b), (1, .int a0), (2, .int a1), (3, .int a2), (4, .ref q)] [] (wO Θ q f ++ wc)
  refine sw_aload 0 G dL_addBend_0 4 rfl ?_
  refine sw_iconst 2 G (0 : Int32) dL_addBend_2 rfl ?_
  refine sw_aload_n 3 G dL_addBend_3 0 rfl ?_
  refine sw_iload_n 4 G dL_addBend_4 1 rfl ?_
  refine sw_iload_n 5 G dL_addBend_5 2 rfl ?_
  refine sw_iload_n 6 G dL_addBend_6 3 rfl ?_
  refine sw_callVX 7 G E (name := eIS) 3 dL_addBend_7 (FX.head (wO Θ q f) h) (gwV lk_23fa58b0 lk_112a04e2 lk_6450d612 lk_5f14f758 lk_8a5534ad) rfl hvL_addBend ⟨rfl, rfl⟩ ⟨Nat.le_of_ble_eq_true rfl, Nat.le_of_ble_eq_true rfl⟩ ⟨Nat.le_of_ble_eq_true rfl, Nat.le_of_ble_eq_true rfl⟩ rfl rfl (Nat.le_of_ble_eq_true rfl) 1 hb vc5 rfl [exn 0 15 13 12] (exn 0 19 30 12) [] (ht.trans rfl) (fun z hz => by rw [List.mem_singleton.mp hz]; exact Or.inr ⟨by decide, eIA, G.2.2.2.2.1 _ (List.mem_cons_of_mem _ lk_1dfa06ab), E.2.2.2.2.2.2.2.2.1⟩) (by decide) (by decide) (G.2.2.2.2.1 _ (List.mem_cons_of_mem _ lk_6e631457)) (ev_cast E evS_in) (fun q9 => ?_)
  refine sw_astore 19 G _ dL_addBend_19 (by decide) rfl ?_
  refine sw_iconst 21 G (2 : Int32) dL_addBend_21 rfl ?_
  exact sw_iretC 22 G dL_addBend_22 KK (by decide) (by decide)
theorem kL_dropOperation {Θ : Tht} {K : (Nat → Nat) × (Nat → Nat)} {a0 : Int32} {b q : Nat} {f : Nat → Int64} {wc wc2 : va_W} {fs : List Value} {v : Int32} (hb : wc[0]? = some (b, .inr (5, fs))) (h : FC Θ K 0 0 yX5_dropOperation (Cond.code yX5_dropOperation cX5_dropOperation 2 (some .int) :: GW) rmX5_dropOperation [.ref b, .int a0] wc (some (.int v)) wc2) : FC Θ K 1 6 yL_dropOperation (Cond.codeWith yL_dropOperation cL_dropOperation 4 (some .int) [(0, 9, 12, 39)] :: GW) rmW [.ref b, .int a0, .ref q] (wO Θ q f ++ wc) (some (.int 0)) (wO Θ q (vp_updL f (0 : Int32).toNatClampNeg (v.toInt64)) ++ wc2) := by
  refine FC.ofH (by decide +kernel) rfl (Nat.le_of_ble_eq_true rfl) (fun p e s m args below meth c A Q G KK E ht => ?_)
  show sw Θ p e rmW s m args below meth c A Q 4 0 0 0 [(0, .ref b), (1, .int a0), (2, .ref q)] [] (wO Θ q f ++ wc)
  refine sw_aload_n 0 G dL_dropOperation_0 2 rfl ?_
  refine sw_iconst 1 G (0 : Int32) dL_dropOperation_1 rfl ?_
  refine sw_aload_n 2 G dL_dropOperation_2 0 rfl ?_
  refine sw_iload_n 3 G dL_dropOperation_3 1 rfl ?_
  refine sw_callVA 4 G E 1 dL_dropOperation_4 (FC.head (wO Θ q f) h) (gwV lk_4495fb04 lk_2996caba lk_d1f18657 lk_5f14f758 lk_7f6e1b6a) rfl hvL_dropOperation ⟨rfl, rfl⟩ ⟨Nat.le_of_ble_eq_true rfl, Nat.le_of_ble_eq_true rfl⟩ ⟨Nat.le_of_ble_eq_true rfl, Nat.le_of_ble_eq_true rfl⟩ rfl rfl (Nat.le_of_ble_eq_true rfl) 1 hb vc5 rfl ?_
  refine sw_i2l 7 G dL_dropOperation_7 ?_
  refine sw_last 8 G 0 (wO Θ q (vp_updL f (0 : Int32).toNatClampNeg (v.toInt64)) ++ wc2) dL_dropOperation_8 rfl rfl gd0 (fun _ => ?_)
  refine sw_goto 9 G 15 dL_dropOperation_9 rfl ?_
  refine sw_iconst 15 G (0 : Int32) dL_dropOperation_15 rfl ?_
  exact sw_iretC 16 G dL_dropOperation_16 KK (by decide) (by decide)
theorem kL_dropOperation_xB {Θ : Tht} {K : (Nat → Nat) × (Nat → Nat)} {a0 : Int32} {b q : Nat} {f : Nat → Int64} {wc wc2 : va_W} {fs : List Value} (hb : wc[0]? = some (b, .inr (5, fs))) (h : FX Θ K yX5_dropOperation (Cond.code yX5_dropOperation cX5_dropOperation 2 (some .int) :: GW) rmXX [.ref b, .int a0] wc eIB wc2) : FC Θ K 1 6 yL_dropOperation (Cond.codeWith yL_dropOperation cL_dropOperation 4 (some .int) [(0, 9, 12, 39)] :: GW) rmW [.ref b, .int a0, .ref q] (wO Θ q f ++ wc) (some (.int 1)) (wO Θ q f ++ wc2) := by
  refine FC.ofH (by decide +kernel) rfl (Nat.le_of_ble_eq_true rfl) (fun p e s m args below meth c A Q G KK E ht => ?_)
  show sw Θ p e rmW s m args below meth c A Q 4 0 0 0 [(0, .ref b), (1, .int a0), (2, .ref q)] [] (wO Θ q f ++ wc)
  refine sw_aload_n 0 G dL_dropOperation_0 2 rfl ?_
  refine sw_iconst 1 G (0 : Int32) dL_dropOperation_1 rfl ?_
  refine sw_aload_n 2 G dL_dropOperation_2 0 rfl ?_
  refine sw_iload_n 3 G dL_dropOperation_3 1 rfl ?_
  refine sw_callVX 4 G E (name := eIB) 1 dL_dropOperation_4 (FX.head (wO Θ q f) h) (gwV lk_4495fb04 lk_2996caba lk_d1f18657 lk_5f14f758 lk_7f6e1b6a) rfl hvL_dropOperation ⟨rfl, rfl⟩ ⟨Nat.le_of_ble_eq_true rfl, Nat.le_of_ble_eq_true rfl⟩ ⟨Nat.le_of_ble_eq_true rfl, Nat.le_of_ble_eq_true rfl⟩ rfl rfl (Nat.le_of_ble_eq_true rfl) 1 hb vc5 rfl [] (exn 0 12 39 9) [] (ht.trans rfl) (fun z hz => absurd hz List.not_mem_nil) (by decide) (by decide) (G.2.2.2.2.1 _ (List.mem_cons_of_mem _ lk_f2a532f1)) (ev_cast E evBB_in) (fun q9 => ?_)
  refine sw_astore_n 12 G _ dL_dropOperation_12 (by decide) rfl ?_
  refine sw_iconst 13 G (1 : Int32) dL_dropOperation_13 rfl ?_
  exact sw_iretC 14 G dL_dropOperation_14 KK (by decide) (by decide)
theorem kL_setStation {Θ : Tht} {K : (Nat → Nat) × (Nat → Nat)} {a0 a1 : Int32} {b q : Nat} {f : Nat → Int64} {wc wc2 : va_W} {fs : List Value} {v : Int32} (hb : wc[0]? = some (b, .inr (5, fs))) (h : FC Θ K 0 0 yX5_setStation (Cond.code yX5_setStation cX5_setStation 4 (some .int) :: GW) rmX5_setStation [.ref b, .int a0, .int a1] wc (some (.int v)) wc2) : FC Θ K 1 6 yL_setStation (Cond.codeWith yL_setStation cL_setStation 5 (some .int) [(0, 10, 13, 39), (0, 10, 17, 13)] :: GW) rmW [.ref b, .int a0, .int a1, .ref q] (wO Θ q f ++ wc) (some (.int 0)) (wO Θ q (vp_updL f (0 : Int32).toNatClampNeg (v.toInt64)) ++ wc2) := by
  refine FC.ofH (by decide +kernel) rfl (Nat.le_of_ble_eq_true rfl) (fun p e s m args below meth c A Q G KK E ht => ?_)
  show sw Θ p e rmW s m args below meth c A Q 5 0 0 0 [(0, .ref b), (1, .int a0), (2, .int a1), (3, .ref q)] [] (wO Θ q f ++ wc)
  refine sw_aload_n 0 G dL_setStation_0 3 rfl ?_
  refine sw_iconst 1 G (0 : Int32) dL_setStation_1 rfl ?_
  refine sw_aload_n 2 G dL_setStation_2 0 rfl ?_
  refine sw_iload_n 3 G dL_setStation_3 1 rfl ?_
  refine sw_iload_n 4 G dL_setStation_4 2 rfl ?_
  refine sw_callVA 5 G E 2 dL_setStation_5 (FC.head (wO Θ q f) h) (gwV lk_3a969db5 lk_0816f013 lk_5853afe0 lk_5f14f758 lk_ed57f710) rfl hvL_setStation ⟨rfl, rfl⟩ ⟨Nat.le_of_ble_eq_true rfl, Nat.le_of_ble_eq_true rfl⟩ ⟨Nat.le_of_ble_eq_true rfl, Nat.le_of_ble_eq_true rfl⟩ rfl rfl (Nat.le_of_ble_eq_true rfl) 1 hb vc5 rfl ?_
  refine sw_i2l 8 G dL_setStation_8 ?_
  refine sw_last 9 G 0 (wO Θ q (vp_updL f (0 : Int32).toNatClampNeg (v.toInt64)) ++ wc2) dL_setStation_9 rfl rfl gd0 (fun _ => ?_)
  refine sw_goto 10 G 21 dL_setStation_10 rfl ?_
  refine sw_iconst 21 G (0 : Int32) dL_setStation_21 rfl ?_
  exact sw_iretC 22 G dL_setStation_22 KK (by decide) (by decide)
theorem kL_setStation_xB {Θ : Tht} {K : (Nat → Nat) × (Nat → Nat)} {a0 a1 : Int32} {b q : Nat} {f : Nat → Int64} {wc wc2 : va_W} {fs : List Value} (hb : wc[0]? = some (b, .inr (5, fs))) (h : FX Θ K yX5_setStation (Cond.code yX5_setStation cX5_setStation 4 (some .int) :: GW) rmXX [.ref b, .int a0, .int a1] wc eIB wc2) : FC Θ K 1 6 yL_setStation (Cond.codeWith yL_setStation cL_setStation 5 (some .int) [(0, 10, 13, 39), (0, 10, 17, 13)] :: GW) rmW [.ref b, .int a0, .int a1, .ref q] (wO Θ q f ++ wc) (some (.int 1)) (wO Θ q f ++ wc2) := by
  refine FC.ofH (by decide +kernel) rfl (Nat.le_of_ble_eq_true rfl) (fun p e s m args below meth c A Q G KK E ht => ?_)
  show sw Θ p e rmW s m args below meth c A Q 5 0 0 0 [(0, .ref b), (1, .int a0), (2, .int a1), (3, .ref q)] [] (wO Θ q f ++ wc)
  refine sw_aload_n 0 G dL_setStation_0 3 rfl ?_
  refine sw_iconst 1 G (0 : Int32) dL_setStation_1 rfl ?_
  refine sw_aload_n 2 G dL_setStation_2 0 rfl ?_
  refine sw_iload_n 3 G dL_setStation_3 1 rfl ?_
  refine sw_iload_n 4 G dL_setStation_4 2 rfl ?_
  refine sw_callVX 5 G E (name := eIB) 2 dL_setStation_5 (FX.head (wO Θ q f) h) (gwV lk_3a969db5 lk_0816f013 lk_5853afe0 lk_5f14f758 lk_ed57f710) rfl hvL_setStation ⟨rfl, rfl⟩ ⟨Nat.le_of_ble_eq_true rfl, Nat.le_of_ble_eq_true rfl⟩ ⟨Nat.le_of_ble_eq_true rfl, Nat.le_of_ble_eq_true rfl⟩ rfl rfl (Nat.le_of_ble_eq_true rfl) 1 hb vc5 rfl [] (exn 0 13 39 10) [exn 0 17 13 10] (ht.trans rfl) (fun z hz => absurd hz List.not_mem_nil) (by decide) (by decide) (G.2.2.2.2.1 _ (List.mem_cons_of_mem _ lk_f2a532f1)) (ev_cast E evBB_in) (fun q9 => ?_)
  refine sw_astore 13 G _ dL_setStation_13 (by decide) rfl ?_
  refine sw_iconst 15 G (1 : Int32) dL_setStation_15 rfl ?_
  exact sw_iretC 16 G dL_setStation_16 KK (by decide) (by decide)
theorem kL_setStation_xA {Θ : Tht} {K : (Nat → Nat) × (Nat → Nat)} {a0 a1 : Int32} {b q : Nat} {f : Nat → Int64} {wc wc2 : va_W} {fs : List Value} (hb : wc[0]? = some (b, .inr (5, fs))) (h : FX Θ K yX5_setStation (Cond.code yX5_setStation cX5_setStation 4 (some .int) :: GW) rmXX [.ref b, .int a0, .int a1] wc eIA wc2) : FC Θ K 1 6 yL_setStation (Cond.codeWith yL_setStation cL_setStation 5 (some .int) [(0, 10, 13, 39), (0, 10, 17, 13)] :: GW) rmW [.ref b, .int a0, .int a1, .ref q] (wO Θ q f ++ wc) (some (.int 2)) (wO Θ q f ++ wc2) := by
  refine FC.ofH (by decide +kernel) rfl (Nat.le_of_ble_eq_true rfl) (fun p e s m args below meth c A Q G KK E ht => ?_)
  show sw Θ p e rmW s m args below meth c A Q 5 0 0 0 [(0, .ref b), (1, .int a0), (2, .int a1), (3, .ref q)] [] (wO Θ q f ++ wc)
  refine sw_aload_n 0 G dL_setStation_0 3 rfl ?_
  refine sw_iconst 1 G (0 : Int32) dL_setStation_1 rfl ?_
  refine sw_aload_n 2 G dL_setStation_2 0 rfl ?_
  refine sw_iload_n 3 G dL_setStation_3 1 rfl ?_
  refine sw_iload_n 4 G dL_setStation_4 2 rfl ?_
  refine sw_callVX 5 G E (name := eIA) 2 dL_setStation_5 (FX.head (wO Θ q f) h) (gwV lk_3a969db5 lk_0816f013 lk_5853afe0 lk_5f14f758 lk_ed57f710) rfl hvL_setStation ⟨rfl, rfl⟩ ⟨Nat.le_of_ble_eq_true rfl, Nat.le_of_ble_eq_true rfl⟩ ⟨Nat.le_of_ble_eq_true rfl, Nat.le_of_ble_eq_true rfl⟩ rfl rfl (Nat.le_of_ble_eq_true rfl) 1 hb vc5 rfl [exn 0 13 39 10] (exn 0 17 13 10) [] (ht.trans rfl) (fun z hz => by rw [List.mem_singleton.mp hz]; exact Or.inr ⟨by decide, eIB, G.2.2.2.2.1 _ (List.mem_cons_of_mem _ lk_f2a532f1), E.2.2.2.2.2.2.2.2.2⟩) (by decide) (by decide) (G.2.2.2.2.1 _ (List.mem_cons_of_mem _ lk_1dfa06ab)) (ev_cast E evA_in) (fun q9 => ?_)
  refine sw_astore 17 G _ dL_setStation_17 (by decide) rfl ?_
  refine sw_iconst 19 G (2 : Int32) dL_setStation_19 rfl ?_
  exact sw_iretC 20 G dL_setStation_20 KK (by decide) (by decide)
theorem kL_usePlan {Θ : Tht} {K : (Nat → Nat) × (Nat → Nat)} {b q : Nat} {f : Nat → Int64} {wc wc2 : va_W} {fs : List Value} {v : Int32} (hb : wc[0]? = some (b, .inr (5, fs))) (h : FC Θ K 0 0 yX5_usePlan (Cond.code yX5_usePlan cX5_usePlan 2 (some .int) :: GW) rmX5_usePlan [.ref b] wc (some (.int v)) wc2) : FC Θ K 1 6 yL_usePlan (Cond.codeWith yL_usePlan cL_usePlan 3 (some .int) [(0, 8, 11, 30)] :: GW) rmW [.ref b, .ref q] (wO Θ q f ++ wc) (some (.int 0)) (wO Θ q (vp_updL f (0 : Int32).toNatClampNeg (v.toInt64)) ++ wc2) := by
  refine FC.ofH (by decide +kernel) rfl (Nat.le_of_ble_eq_true rfl) (fun p e s m args below meth c A Q G KK E ht => ?_)
  show sw Θ p e rmW s m args below meth c A Q 3 0 0 0 [(0, .ref b), (1, .ref q)] [] (wO Θ q f ++ wc)
  refine sw_aload_n 0 G dL_usePlan_0 1 rfl ?_
  refine sw_iconst 1 G (0 : Int32) dL_usePlan_1 rfl ?_
  refine sw_aload_n 2 G dL_usePlan_2 0 rfl ?_
  refine sw_callVA 3 G E 0 dL_usePlan_3 (FC.head (wO Θ q f) h) (gwV lk_61c3e9e5 lk_16b02793 lk_f1ea793d lk_5f14f758 lk_2c765084) rfl hvL_usePlan ⟨rfl, rfl⟩ ⟨Nat.le_of_ble_eq_true rfl, Nat.le_of_ble_eq_true rfl⟩ ⟨Nat.le_of_ble_eq_true rfl, Nat.le_of_ble_eq_true rfl⟩ rfl rfl (Nat.le_of_ble_eq_true rfl) 1 hb vc5 rfl ?_
  refine sw_i2l 6 G dL_usePlan_6 ?_
  refine sw_last 7 G 0 (wO Θ q (vp_updL f (0 : Int32).toNatClampNeg (v.toInt64)) ++ wc2) dL_usePlan_7 rfl rfl gd0 (fun _ => ?_)
  refine sw_goto 8 G 14 dL_usePlan_8 rfl ?_
  refine sw_iconst 14 G (0 : Int32) dL_usePlan_14 rfl ?_
  exact sw_iretC 15 G dL_usePlan_15 KK (by decide) (by decide)
theorem kL_usePlan_xS {Θ : Tht} {K : (Nat → Nat) × (Nat → Nat)} {b q : Nat} {f : Nat → Int64} {wc wc2 : va_W} {fs : List Value} (hb : wc[0]? = some (b, .inr (5, fs))) (h : FX Θ K yX5_usePlan (Cond.code yX5_usePlan cX5_usePlan 2 (some .int) :: GW) rmXX [.ref b] wc eIS wc2) : FC Θ K 1 6 yL_usePlan (Cond.codeWith yL_usePlan cL_usePlan 3 (some .int) [(0, 8, 11, 30)] :: GW) rmW [.ref b, .ref q] (wO Θ q f ++ wc) (some (.int 1)) (wO Θ q f ++ wc2) := by
  refine FC.ofH (by decide +kernel) rfl (Nat.le_of_ble_eq_true rfl) (fun p e s m args below meth c A Q G KK E ht => ?_)
  show sw Θ p e rmW s m args below meth c A Q 3 0 0 0 [(0, .ref b), (1, .ref q)] [] (wO Θ q f ++ wc)
  refine sw_aload_n 0 G dL_usePlan_0 1 rfl ?_
  refine sw_iconst 1 G (0 : Int32) dL_usePlan_1 rfl ?_
  refine sw_aload_n 2 G dL_usePlan_2 0 rfl ?_
  refine sw_callVX 3 G E (name := eIS) 0 dL_usePlan_3 (FX.head (wO Θ q f) h) (gwV lk_61c3e9e5 lk_16b02793 lk_f1ea793d lk_5f14f758 lk_2c765084) rfl hvL_usePlan ⟨rfl, rfl⟩ ⟨Nat.le_of_ble_eq_true rfl, Nat.le_of_ble_eq_true rfl⟩ ⟨Nat.le_of_ble_eq_true rfl, Nat.le_of_ble_eq_true rfl⟩ rfl rfl (Nat.le_of_ble_eq_true rfl) 1 hb vc5 rfl [] (exn 0 11 30 8) [] (ht.trans rfl) (fun z hz => absurd hz List.not_mem_nil) (by decide) (by decide) (G.2.2.2.2.1 _ (List.mem_cons_of_mem _ lk_6e631457)) (ev_cast E evS_in) (fun q9 => ?_)
  refine sw_astore_n 11 G _ dL_usePlan_11 (by decide) rfl ?_
  refine sw_iconst 12 G (1 : Int32) dL_usePlan_12 rfl ?_
  exact sw_iretC 13 G dL_usePlan_13 KK (by decide) (by decide)
theorem kL_setPilot {Θ : Tht} {K : (Nat → Nat) × (Nat → Nat)} {a0 a1 : Int32} {b q : Nat} {f : Nat → Int64} {wc wc2 : va_W} {fs : List Value} {v : Int32} (hb : wc[0]? = some (b, .inr (5, fs))) (h : FC Θ K 0 0 yX5_setPilot (Cond.code yX5_setPilot cX5_setPilot 3 (some .int) :: GW) rmX5_setPilot [.ref b, .int a0, .int a1] wc (some (.int v)) wc2) : FC Θ K 1 6 yL_setPilot (Cond.codeWith yL_setPilot cL_setPilot 5 (some .int) [(0, 10, 13, 13)] :: GW) rmW [.ref b, .int a0, .int a1, .ref q] (wO Θ q f ++ wc) (some (.int 0)) (wO Θ q (vp_updL f (0 : Int32).toNatClampNeg (v.toInt64)) ++ wc2) := by
  refine FC.ofH (by decide +kernel) rfl (Nat.le_of_ble_eq_true rfl) (fun p e s m args below meth c A Q G KK E ht => ?_)
  show sw Θ p e rmW s m args below meth c A Q 5 0 0 0 [(0, .ref b), (1, .int a0), (2, .int a1), (3, .ref q)] [] (wO Θ q f ++ wc)
  refine sw_aload_n 0 G dL_setPilot_0 3 rfl ?_
  refine sw_iconst 1 G (0 : Int32) dL_setPilot_1 rfl ?_
  refine sw_aload_n 2 G dL_setPilot_2 0 rfl ?_
  refine sw_iload_n 3 G dL_setPilot_3 1 rfl ?_
  refine sw_iload_n 4 G dL_setPilot_4 2 rfl ?_
  refine sw_callVA 5 G E 2 dL_setPilot_5 (FC.head (wO Θ q f) h) (gwV lk_4846537a lk_40f3d831 lk_07ec6a66 lk_5f14f758 lk_fd75268e) rfl hvL_setPilot ⟨rfl, rfl⟩ ⟨Nat.le_of_ble_eq_true rfl, Nat.le_of_ble_eq_true rfl⟩ ⟨Nat.le_of_ble_eq_true rfl, Nat.le_of_ble_eq_true rfl⟩ rfl rfl (Nat.le_of_ble_eq_true rfl) 1 hb vc5 rfl ?_
  refine sw_i2l 8 G dL_setPilot_8 ?_
  refine sw_last 9 G 0 (wO Θ q (vp_updL f (0 : Int32).toNatClampNeg (v.toInt64)) ++ wc2) dL_setPilot_9 rfl rfl gd0 (fun _ => ?_)
  refine sw_goto 10 G 17 dL_setPilot_10 rfl ?_
  refine sw_iconst 17 G (0 : Int32) dL_setPilot_17 rfl ?_
  exact sw_iretC 18 G dL_setPilot_18 KK (by decide) (by decide)
theorem kL_setPilot_xA {Θ : Tht} {K : (Nat → Nat) × (Nat → Nat)} {a0 a1 : Int32} {b q : Nat} {f : Nat → Int64} {wc wc2 : va_W} {fs : List Value} (hb : wc[0]? = some (b, .inr (5, fs))) (h : FX Θ K yX5_setPilot (Cond.code yX5_setPilot cX5_setPilot 3 (some .int) :: GW) rmXX [.ref b, .int a0, .int a1] wc eIA wc2) : FC Θ K 1 6 yL_setPilot (Cond.codeWith yL_setPilot cL_setPilot 5 (some .int) [(0, 10, 13, 13)] :: GW) rmW [.ref b, .int a0, .int a1, .ref q] (wO Θ q f ++ wc) (some (.int 1)) (wO Θ q f ++ wc2) := by
  refine FC.ofH (by decide +kernel) rfl (Nat.le_of_ble_eq_true rfl) (fun p e s m args below meth c A Q G KK E ht => ?_)
  show sw Θ p e rmW s m args below meth c A Q 5 0 0 0 [(0, .ref b), (1, .int a0), (2, .int a1), (3, .ref q)] [] (wO Θ q f ++ wc)
  refine sw_aload_n 0 G dL_setPilot_0 3 rfl ?_
  refine sw_iconst 1 G (0 : Int32) dL_setPilot_1 rfl ?_
  refine sw_aload_n 2 G dL_setPilot_2 0 rfl ?_
  refine sw_iload_n 3 G dL_setPilot_3 1 rfl ?_
  refine sw_iload_n 4 G dL_setPilot_4 2 rfl ?_
  refine sw_callVX 5 G E (name := eIA) 2 dL_setPilot_5 (FX.head (wO Θ q f) h) (gwV lk_4846537a lk_40f3d831 lk_07ec6a66 lk_5f14f758 lk_fd75268e) rfl hvL_setPilot ⟨rfl, rfl⟩ ⟨Nat.le_of_ble_eq_true rfl, Nat.le_of_ble_eq_true rfl⟩ ⟨Nat.le_of_ble_eq_true rfl, Nat.le_of_ble_eq_true rfl⟩ rfl rfl (Nat.le_of_ble_eq_true rfl) 1 hb vc5 rfl [] (exn 0 13 13 10) [] (ht.trans rfl) (fun z hz => absurd hz List.not_mem_nil) (by decide) (by decide) (G.2.2.2.2.1 _ (List.mem_cons_of_mem _ lk_1dfa06ab)) (ev_cast E evA_in) (fun q9 => ?_)
  refine sw_astore 13 G _ dL_setPilot_13 (by decide) rfl ?_
  refine sw_iconst 15 G (1 : Int32) dL_setPilot_15 rfl ?_
  exact sw_iretC 16 G dL_setPilot_16 KK (by decide) (by decide)
theorem kL_cellSet {Θ : Tht} {K : (Nat → Nat) × (Nat → Nat)} {a0 : Int32} {b q : Nat} {f : Nat → Int64} {wc wc2 : va_W} {fs : List Value} {v : Int64} (hb : wc[0]? = some (b, .inr (5, fs))) (h : FC Θ K 0 0 yX5_cellSet (Cond.code yX5_cellSet cX5_cellSet 2 (some .long) :: GW) rmX5_cellSet [.ref b, .int a0] wc (some (.long v)) wc2) : FC Θ K 1 6 yL_cellSet (Cond.codeWith yL_cellSet cL_cellSet 4 (some .int) [(0, 8, 11, 13)] :: GW) rmW [.ref b, .int a0, .ref q] (wO Θ q f ++ wc) (some (.int 0)) (wO Θ q (vp_updL f (0 : Int32).toNatClampNeg (v)) ++ wc2) := by
  refine FC.ofH (by decide +kernel) rfl (Nat.le_of_ble_eq_true rfl) (fun p e s m args below meth c A Q G KK E ht => ?_)
  show sw Θ p e rmW s m args below meth c A Q 4 0 0 0 [(0, .ref b), (1, .int a0), (2, .ref q)] [] (wO Θ q f ++ wc)
  refine sw_aload_n 0 G dL_cellSet_0 2 rfl ?_
  refine sw_iconst 1 G (0 : Int32) dL_cellSet_1 rfl ?_
  refine sw_aload_n 2 G dL_cellSet_2 0 rfl ?_
  refine sw_iload_n 3 G dL_cellSet_3 1 rfl ?_
  refine sw_callVA 4 G E 1 dL_cellSet_4 (FC.head (wO Θ q f) h) (gwV lk_c9543ff7 lk_0c6f94f4 lk_105ccd88 lk_5f14f758 lk_2d194fb3) rfl hvL_cellSet ⟨rfl, rfl⟩ ⟨Nat.le_of_ble_eq_true rfl, Nat.le_of_ble_eq_true rfl⟩ ⟨Nat.le_of_ble_eq_true rfl, Nat.le_of_ble_eq_true rfl⟩ rfl rfl (Nat.le_of_ble_eq_true rfl) 1 hb vc5 rfl ?_
  refine sw_last 7 G 0 (wO Θ q (vp_updL f (0 : Int32).toNatClampNeg (v)) ++ wc2) dL_cellSet_7 rfl rfl gd0 (fun _ => ?_)
  refine sw_goto 8 G 14 dL_cellSet_8 rfl ?_
  refine sw_iconst 14 G (0 : Int32) dL_cellSet_14 rfl ?_
  exact sw_iretC 15 G dL_cellSet_15 KK (by decide) (by decide)
theorem kL_cellSet_xA {Θ : Tht} {K : (Nat → Nat) × (Nat → Nat)} {a0 : Int32} {b q : Nat} {f : Nat → Int64} {wc wc2 : va_W} {fs : List Value} (hb : wc[0]? = some (b, .inr (5, fs))) (h : FX Θ K yX5_cellSet (Cond.code yX5_cellSet cX5_cellSet 2 (some .long) :: GW) rmXX [.ref b, .int a0] wc eIA wc2) : FC Θ K 1 6 yL_cellSet (Cond.codeWith yL_cellSet cL_cellSet 4 (some .int) [(0, 8, 11, 13)] :: GW) rmW [.ref b, .int a0, .ref q] (wO Θ q f ++ wc) (some (.int 1)) (wO Θ q f ++ wc2) := by
  refine FC.ofH (by decide +kernel) rfl (Nat.le_of_ble_eq_true rfl) (fun p e s m args below meth c A Q G KK E ht => ?_)
  show sw Θ p e rmW s m args below meth c A Q 4 0 0 0 [(0, .ref b), (1, .int a0), (2, .ref q)] [] (wO Θ q f ++ wc)
  refine sw_aload_n 0 G dL_cellSet_0 2 rfl ?_
  refine sw_iconst 1 G (0 : Int32) dL_cellSet_1 rfl ?_
  refine sw_aload_n 2 G dL_cellSet_2 0 rfl ?_
  refine sw_iload_n 3 G dL_cellSet_3 1 rfl ?_
  refine sw_callVX 4 G E (name := eIA) 1 dL_cellSet_4 (FX.head (wO Θ q f) h) (gwV lk_c9543ff7 lk_0c6f94f4 lk_105ccd88 lk_5f14f758 lk_2d194fb3) rfl hvL_cellSet ⟨rfl, rfl⟩ ⟨Nat.le_of_ble_eq_true rfl, Nat.le_of_ble_eq_true rfl⟩ ⟨Nat.le_of_ble_eq_true rfl, Nat.le_of_ble_eq_true rfl⟩ rfl rfl (Nat.le_of_ble_eq_true rfl) 1 hb vc5 rfl [] (exn 0 11 13 8) [] (ht.trans rfl) (fun z hz => absurd hz List.not_mem_nil) (by decide) (by decide) (G.2.2.2.2.1 _ (List.mem_cons_of_mem _ lk_1dfa06ab)) (ev_cast E evA_in) (fun q9 => ?_)
  refine sw_astore_n 11 G _ dL_cellSet_11 (by decide) rfl ?_
  refine sw_iconst 12 G (1 : Int32) dL_cellSet_12 rfl ?_
  exact sw_iretC 13 G dL_cellSet_13 KK (by decide) (by decide)
theorem kL_operation {Θ : Tht} {K : (Nat → Nat) × (Nat → Nat)} {a0 a1 : Int32} {b q : Nat} {f : Nat → Int64} {wc wc2 : va_W} {fs : List Value} {v : Int32} (hb : wc[0]? = some (b, .inr (5, fs))) (h : FC Θ K 0 0 yX5_operation (Cond.code yX5_operation cX5_operation 3 (some .int) :: GW) rmX5_operation [.ref b, .int a0, .int a1] wc (some (.int v)) wc2) : FC Θ K 1 6 yL_operation (Cond.codeWith yL_operation cL_operation 5 (some .int) [(0, 10, 13, 39), (0, 10, 17, 13)] :: GW) rmW [.ref b, .int a0, .int a1, .ref q] (wO Θ q f ++ wc) (some (.int 0)) (wO Θ q (vp_updL f (0 : Int32).toNatClampNeg (v.toInt64)) ++ wc2) := by
  refine FC.ofH (by decide +kernel) rfl (Nat.le_of_ble_eq_true rfl) (fun p e s m args below meth c A Q G KK E ht => ?_)
  show sw Θ p e rmW s m args below meth c A Q 5 0 0 0 [(0, .ref b), (1, .int a0), (2, .int a1), (3, .ref q)] [] (wO Θ q f ++ wc)
  refine sw_aload_n 0 G dL_operation_0 3 rfl ?_
  refine sw_iconst 1 G (0 : Int32) dL_operation_1 rfl ?_
  refine sw_aload_n 2 G dL_operation_2 0 rfl ?_
  refine sw_iload_n 3 G dL_operation_3 1 rfl ?_
  refine sw_iload_n 4 G dL_operation_4 2 rfl ?_
  refine sw_callVA 5 G E 2 dL_operation_5 (FC.head (wO Θ q f) h) (gwV lk_a8627d7c lk_a2e0504c lk_1df469a9 lk_5f14f758 lk_91b5c7da) rfl hvL_operation ⟨rfl, rfl⟩ ⟨Nat.le_of_ble_eq_true rfl, Nat.le_of_ble_eq_true rfl⟩ ⟨Nat.le_of_ble_eq_true rfl, Nat.le_of_ble_eq_true rfl⟩ rfl rfl (Nat.le_of_ble_eq_true rfl) 1 hb vc5 rfl ?_
  refine sw_i2l 8 G dL_operation_8 ?_
  refine sw_last 9 G 0 (wO Θ q (vp_updL f (0 : Int32).toNatClampNeg (v.toInt64)) ++ wc2) dL_operation_9 rfl rfl gd0 (fun _ => ?_)
  refine sw_goto 10 G 21 dL_operation_10 rfl ?_
  refine sw_iconst 21 G (0 : Int32) dL_operation_21 rfl ?_
  exact sw_iretC 22 G dL_operation_22 KK (by decide) (by decide)
theorem kL_operation_xB {Θ : Tht} {K : (Nat → Nat) × (Nat → Nat)} {a0 a1 : Int32} {b q : Nat} {f : Nat → Int64} {wc wc2 : va_W} {fs : List Value} (hb : wc[0]? = some (b, .inr (5, fs))) (h : FX Θ K yX5_operation (Cond.code yX5_operation cX5_operation 3 (some .int) :: GW) rmXX [.ref b, .int a0, .int a1] wc eIB wc2) : FC Θ K 1 6 yL_operation (Cond.codeWith yL_operation cL_operation 5 (some .int) [(0, 10, 13, 39), (0, 10, 17, 13)] :: GW) rmW [.ref b, .int a0, .int a1, .ref q] (wO Θ q f ++ wc) (some (.int 1)) (wO Θ q f ++ wc2) := by
  refine FC.ofH (by decide +kernel) rfl (Nat.le_of_ble_eq_true rfl) (fun p e s m args below meth c A Q G KK E ht => ?_)
  show sw Θ p e rmW s m args below meth c A Q 5 0 0 0 [(0, .ref b), (1, .int a0), (2, .int a1), (3, .ref q)] [] (wO Θ q f ++ wc)
  refine sw_aload_n 0 G dL_operation_0 3 rfl ?_
  refine sw_iconst 1 G (0 : Int32) dL_operation_1 rfl ?_
  refine sw_aload_n 2 G dL_operation_2 0 rfl ?_
  refine sw_iload_n 3 G dL_operation_3 1 rfl ?_
  refine sw_iload_n 4 G dL_operation_4 2 rfl ?_
  refine sw_callVX 5 G E (name := eIB) 2 dL_operation_5 (FX.head (wO Θ q f) h) (gwV lk_a8627d7c lk_a2e0504c lk_1df469a9 lk_5f14f758 lk_91b5c7da) rfl hvL_operation ⟨rfl, rfl⟩ ⟨Nat.le_of_ble_eq_true rfl, Nat.le_of_ble_eq_true rfl⟩ ⟨Nat.le_of_ble_eq_true rfl, Nat.le_of_ble_eq_true rfl⟩ rfl rfl (Nat.le_of_ble_eq_true rfl) 1 hb vc5 rfl [] (exn 0 13 39 10) [exn 0 17 13 10] (ht.trans rfl) (fun z hz => absurd hz List.not_mem_nil) (by decide) (by decide) (G.2.2.2.2.1 _ (List.mem_cons_of_mem _ lk_f2a532f1)) (ev_cast E evBB_in) (fun q9 => ?_)
  refine sw_astore 13 G _ dL_operation_13 (by decide) rfl ?_
  refine sw_iconst 15 G (1 : Int32) dL_operation_15 rfl ?_
  exact sw_iretC 16 G dL_operation_16 KK (by decide) (by decide)
theorem kL_operation_xA {Θ : Tht} {K : (Nat → Nat) × (Nat → Nat)} {a0 a1 : Int32} {b q : Nat} {f : Nat → Int64} {wc wc2 : va_W} {fs : List Value} (hb : wc[0]? = some (b, .inr (5, fs))) (h : FX Θ K yX5_operation (Cond.code yX5_operation cX5_operation 3 (some .int) :: GW) rmXX [.ref b, .int a0, .int a1] wc eIA wc2) : FC Θ K 1 6 yL_operation (Cond.codeWith yL_operation cL_operation 5 (some .int) [(0, 10, 13, 39), (0, 10, 17, 13)] :: GW) rmW [.ref b, .int a0, .int a1, .ref q] (wO Θ q f ++ wc) (some (.int 2)) (wO Θ q f ++ wc2) := by
  refine FC.ofH (by decide +kernel) rfl (Nat.le_of_ble_eq_true rfl) (fun p e s m args below meth c A Q G KK E ht => ?_)
  show sw Θ p e rmW s m args below meth c A Q 5 0 0 0 [(0, .ref b), (1, .int a0), (2, .int a1), (3, .ref q)] [] (wO Θ q f ++ wc)
  refine sw_aload_n 0 G dL_operation_0 3 rfl ?_
  refine sw_iconst 1 G (0 : Int32) dL_operation_1 rfl ?_
  refine sw_aload_n 2 G dL_operation_2 0 rfl ?_
  refine sw_iload_n 3 G dL_operation_3 1 rfl ?_
  refine sw_iload_n 4 G dL_operation_4 2 rfl ?_
  refine sw_callVX 5 G E (name := eIA) 2 dL_operation_5 (FX.head (wO Θ q f) h) (gwV lk_a8627d7c lk_a2e0504c lk_1df469a9 lk_5f14f758 lk_91b5c7da) rfl hvL_operation ⟨rfl, rfl⟩ ⟨Nat.le_of_ble_eq_true rfl, Nat.le_of_ble_eq_true rfl⟩ ⟨Nat.le_of_ble_eq_true rfl, Nat.le_of_ble_eq_true rfl⟩ rfl rfl (Nat.le_of_ble_eq_true rfl) 1 hb vc5 rfl [exn 0 13 39 10] (exn 0 17 13 10) [] (ht.trans rfl) (fun z hz => by rw [List.mem_singleton.mp hz]; exact Or.inr ⟨by decide, eIB, G.2.2.2.2.1 _ (List.mem_cons_of_mem _ lk_f2a532f1), E.2.2.2.2.2.2.2.2.2⟩) (by decide) (by decide) (G.2.2.2.2.1 _ (List.mem_cons_of_mem _ lk_1dfa06ab)) (ev_cast E evA_in) (fun q9 => ?_)
  refine sw_astore 17 G _ dL_operation_17 (by decide) rfl ?_
  refine sw_iconst 19 G (2 : Int32) dL_operation_19 rfl ?_
  exact sw_iretC 20 G dL_operation_20 KK (by decide) (by decide)
theorem kL_station {Θ : Tht} {K : (Nat → Nat) × (Nat → Nat)} {a0 a1 : Int32} {b q : Nat} {f : Nat → Int64} {wc wc2 : va_W} {fs : List Value} {v : Int32} (hb : wc[0]? = some (b, .inr (5, fs))) (h : FC Θ K 0 0 yX5_station (Cond.code yX5_station cX5_station 3 (some .int) :: GW) rmX5_station [.ref b, .int a0, .int a1] wc (some (.int v)) wc2) : FC Θ K 1 6 yL_station (Cond.codeWith yL_station cL_station 5 (some .int) [(0, 10, 13, 13)] :: GW) rmW [.ref b, .int a0, .int a1, .ref q] (wO Θ q f ++ wc) (some (.int 0)) (wO Θ q (vp_updL f (0 : Int32).toNatClampNeg (v.toInt64)) ++ wc2) := by
  refine FC.ofH (by decide +kernel) rfl (Nat.le_of_ble_eq_true rfl) (fun p e s m args below meth c A Q G KK E ht => ?_)
  show sw Θ p e rmW s m args below meth c A Q 5 0 0 0 [(0, .ref b), (1, .int a0), (2, .int a1), (3, .ref q)] [] (wO Θ q f ++ wc)
  refine sw_aload_n 0 G dL_station_0 3 rfl ?_
  refine sw_iconst 1 G (0 : Int32) dL_station_1 rfl ?_
  refine sw_aload_n 2 G dL_station_2 0 rfl ?_
  refine sw_iload_n 3 G dL_station_3 1 rfl ?_
  refine sw_iload_n 4 G dL_station_4 2 rfl ?_
  refine sw_callVA 5 G E 2 dL_station_5 (FC.head (wO Θ q f) h) (gwV lk_35dcbefd lk_954be666 lk_48b8789b lk_5f14f758 lk_0e1ef4ca) rfl hvL_station ⟨rfl, rfl⟩ ⟨Nat.le_of_ble_eq_true rfl, Nat.le_of_ble_eq_true rfl⟩ ⟨Nat.le_of_ble_eq_true rfl, Nat.le_of_ble_eq_true rfl⟩ rfl rfl (Nat.le_of_ble_eq_true rfl) 1 hb vc5 rfl ?_
  refine sw_i2l 8 G dL_station_8 ?_
  refine sw_last 9 G 0 (wO Θ q (vp_updL f (0 : Int32).toNatClampNeg (v.toInt64)) ++ wc2) dL_station_9 rfl rfl gd0 (fun _ => ?_)
  refine sw_goto 10 G 17 dL_station_10 rfl ?_
  refine sw_iconst 17 G (0 : Int32) dL_station_17 rfl ?_
  exact sw_iretC 18 G dL_station_18 KK (by decide) (by decide)
theorem kL_station_xA {Θ : Tht} {K : (Nat → Nat) × (Nat → Nat)} {a0 a1 : Int32} {b q : Nat} {f : Nat → Int64} {wc wc2 : va_W} {fs : List Value} (hb : wc[0]? = some (b, .inr (5, fs))) (h : FX Θ K yX5_station (Cond.code yX5_station cX5_station 3 (some .int) :: GW) rmXX [.ref b, .int a0, .int a1] wc eIA wc2) : FC Θ K 1 6 yL_station (Cond.codeWith yL_station cL_station 5 (some .int) [(0, 10, 13, 13)] :: GW) rmW [.ref b, .int a0, .int a1, .ref q] (wO Θ q f ++ wc) (some (.int 1)) (wO Θ q f ++ wc2) := by
  refine FC.ofH (by decide +kernel) rfl (Nat.le_of_ble_eq_true rfl) (fun p e s m args below meth c A Q G KK E ht => ?_)
  show sw Θ p e rmW s m args below meth c A Q 5 0 0 0 [(0, .ref b), (1, .int a0), (2, .int a1), (3, .ref q)] [] (wO Θ q f ++ wc)
  refine sw_aload_n 0 G dL_station_0 3 rfl ?_
  refine sw_iconst 1 G (0 : Int32) dL_station_1 rfl ?_
  refine sw_aload_n 2 G dL_station_2 0 rfl ?_
  refine sw_iload_n 3 G dL_station_3 1 rfl ?_
  refine sw_iload_n 4 G dL_station_4 2 rfl ?_
  refine sw_callVX 5 G E (name := eIA) 2 dL_station_5 (FX.head (wO Θ q f) h) (gwV lk_35dcbefd lk_954be666 lk_48b8789b lk_5f14f758 lk_0e1ef4ca) rfl hvL_station ⟨rfl, rfl⟩ ⟨Nat.le_of_ble_eq_true rfl, Nat.le_of_ble_eq_true rfl⟩ ⟨Nat.le_of_ble_eq_true rfl, Nat.le_of_ble_eq_true rfl⟩ rfl rfl (Nat.le_of_ble_eq_true rfl) 1 hb vc5 rfl [] (exn 0 13 13 10) [] (ht.trans rfl) (fun z hz => absurd hz List.not_mem_nil) (by decide) (by decide) (G.2.2.2.2.1 _ (List.mem_cons_of_mem _ lk_1dfa06ab)) (ev_cast E evA_in) (fun q9 => ?_)
  refine sw_astore 13 G _ dL_station_13 (by decide) rfl ?_
  refine sw_iconst 15 G (1 : Int32) dL_station_15 rfl ?_
  exact sw_iretC 16 G dL_station_16 KK (by decide) (by decide)
theorem kL_pitch {Θ : Tht} {K : (Nat → Nat) × (Nat → Nat)} {a0 a1 : Int32} {b q : Nat} {f : Nat → Int64} {wc wc2 : va_W} {fs : List Value} {v : Int32} (hb : wc[0]? = some (b, .inr (5, fs))) (h : FC Θ K 0 0 yX5_pitch (Cond.code yX5_pitch cX5_pitch 3 (some .int) :: GW) rmX5_pitch [.ref b, .int a0, .int a1] wc (some (.int v)) wc2) : FC Θ K 1 6 yL_pitch (Cond.codeWith yL_pitch cL_pitch 5 (some .int) [(0, 10, 13, 13)] :: GW) rmW [.ref b, .int a0, .int a1, .ref q] (wO Θ q f ++ wc) (some (.int 0)) (wO Θ q (vp_updL f (0 : Int32).toNatClampNeg (v.toInt64)) ++ wc2) := by
  refine FC.ofH (by decide +kernel) rfl (Nat.le_of_ble_eq_true rfl) (fun p e s m args below meth c A Q G KK E ht => ?_)
  show sw Θ p e rmW s m args below meth c A Q 5 0 0 0 [(0, .ref b), (1, .int a0), (2, .int a1), (3, .ref q)] [] (wO Θ q f ++ wc)
  refine sw_aload_n 0 G dL_pitch_0 3 rfl ?_
  refine sw_iconst 1 G (0 : Int32) dL_pitch_1 rfl ?_
  refine sw_aload_n 2 G dL_pitch_2 0 rfl ?_
  refine sw_iload_n 3 G dL_pitch_3 1 rfl ?_
  refine sw_iload_n 4 G dL_pitch_4 2 rfl ?_
  refine sw_callVA 5 G E 2 dL_pitch_5 (FC.head (wO Θ q f) h) (gwV lk_30884cf9 lk_ad536863 lk_540372d4 lk_5f14f758 lk_2b94d3f7) rfl hvL_pitch ⟨rfl, rfl⟩ ⟨Nat.le_of_ble_eq_true rfl, Nat.le_of_ble_eq_true rfl⟩ ⟨Nat.le_of_ble_eq_true rfl, Nat.le_of_ble_eq_true rfl⟩ rfl rfl (Nat.le_of_ble_eq_true rfl) 1 hb vc5 rfl ?_
  refine sw_i2l 8 G dL_pitch_8 ?_
  refine sw_last 9 G 0 (wO Θ q (vp_updL f (0 : Int32).toNatClampNeg (v.toInt64)) ++ wc2) dL_pitch_9 rfl rfl gd0 (fun _ => ?_)
  refine sw_goto 10 G 17 dL_pitch_10 rfl ?_
  refine sw_iconst 17 G (0 : Int32) dL_pitch_17 rfl ?_
  exact sw_iretC 18 G dL_pitch_18 KK (by decide) (by decide)
theorem kL_pitch_xA {Θ : Tht} {K : (Nat → Nat) × (Nat → Nat)} {a0 a1 : Int32} {b q : Nat} {f : Nat → Int64} {wc wc2 : va_W} {fs : List Value} (hb : wc[0]? = some (b, .inr (5, fs))) (h : FX Θ K yX5_pitch (Cond.code yX5_pitch cX5_pitch 3 (some .int) :: GW) rmXX [.ref b, .int a0, .int a1] wc eIA wc2) : FC Θ K 1 6 yL_pitch (Cond.codeWith yL_pitch cL_pitch 5 (some .int) [(0, 10, 13, 13)] :: GW) rmW [.ref b, .int a0, .int a1, .ref q] (wO Θ q f ++ wc) (some (.int 1)) (wO Θ q f ++ wc2) := by
  refine FC.ofH (by decide +kernel) rfl (Nat.le_of_ble_eq_true rfl) (fun p e s m args below meth c A Q G KK E ht => ?_)
  show sw Θ p e rmW s m args below meth c A Q 5 0 0 0 [(0, .ref b), (1, .int a0), (2, .int a1), (3, .ref q)] [] (wO Θ q f ++ wc)
  refine sw_aload_n 0 G dL_pitch_0 3 rfl ?_
  refine sw_iconst 1 G (0 : Int32) dL_pitch_1 rfl ?_
  refine sw_aload_n 2 G dL_pitch_2 0 rfl ?_
  refine sw_iload_n 3 G dL_pitch_3 1 rfl ?_
  refine sw_iload_n 4 G dL_pitch_4 2 rfl ?_
  refine sw_callVX 5 G E (name := eIA) 2 dL_pitch_5 (FX.head (wO Θ q f) h) (gwV lk_30884cf9 lk_ad536863 lk_540372d4 lk_5f14f758 lk_2b94d3f7) rfl hvL_pitch ⟨rfl, rfl⟩ ⟨Nat.le_of_ble_eq_true rfl, Nat.le_of_ble_eq_true rfl⟩ ⟨Nat.le_of_ble_eq_true rfl, Nat.le_of_ble_eq_true rfl⟩ rfl rfl (Nat.le_of_ble_eq_true rfl) 1 hb vc5 rfl [] (exn 0 13 13 10) [] (ht.trans rfl) (fun z hz => absurd hz List.not_mem_nil) (by decide) (by decide) (G.2.2.2.2.1 _ (List.mem_cons_of_mem _ lk_1dfa06ab)) (ev_cast E evA_in) (fun q9 => ?_)
  refine sw_astore 13 G _ dL_pitch_13 (by decide) rfl ?_
  refine sw_iconst 15 G (1 : Int32) dL_pitch_15 rfl ?_
  exact sw_iretC 16 G dL_pitch_16 KK (by decide) (by decide)
theorem kL_left {Θ : Tht} {K : (Nat → Nat) × (Nat → Nat)} {a0 : Int32} {b q : Nat} {f : Nat → Int64} {wc wc2 : va_W} {fs : List Value} {v : Int64} (hb : wc[0]? = some (b, .inr (5, fs))) (h : FC Θ K 0 0 yX5_left (Cond.code yX5_left cX5_left 2 (some .long) :: GW) rmX5_left [.ref b, .int a0] wc (some (.long v)) wc2) : FC Θ K 1 6 yL_left (Cond.codeWith yL_left cL_left 4 (some .int) [(0, 8, 11, 13)] :: GW) rmW [.ref b, .int a0, .ref q] (wO Θ q f ++ wc) (some (.int 0)) (wO Θ q (vp_updL f (0 : Int32).toNatClampNeg (v)) ++ wc2) := by
  refine FC.ofH (by decide +kernel) rfl (Nat.le_of_ble_eq_true rfl) (fun p e s m args below meth c A Q G KK E ht => ?_)
  show sw Θ p e rmW s m args below meth c A Q 4 0 0 0 [(0, .ref b), (1, .int a0), (2, .ref q)] [] (wO Θ q f ++ wc)
  refine sw_aload_n 0 G dL_left_0 2 rfl ?_
  refine sw_iconst 1 G (0 : Int32) dL_left_1 rfl ?_
  refine sw_aload_n 2 G dL_left_2 0 rfl ?_
  refine sw_iload_n 3 G dL_left_3 1 rfl ?_
  refine sw_callVA 4 G E 1 dL_left_4 (FC.head (wO Θ q f) h) (gwV lk_92f6207a lk_cb7a7b42 lk_2e1ae927 lk_5f14f758 lk_525c92fb) rfl hvL_left ⟨rfl, rfl⟩ ⟨Nat.le_of_ble_eq_true rfl, Nat.le_of_ble_eq_true rfl⟩ ⟨Nat.le_of_ble_eq_true rfl, Nat.le_of_ble_eq_true rfl⟩ rfl rfl (Nat.le_of_ble_eq_true rfl) 1 hb vc5 rfl ?_
  refine sw_last 7 G 0 (wO Θ q (vp_updL f (0 : Int32).toNatClampNeg (v)) ++ wc2) dL_left_7 rfl rfl gd0 (fun _ => ?_)
  refine sw_goto 8 G 14 dL_left_8 rfl ?_
  refine sw_iconst 14 G (0 : Int32) dL_left_14 rfl ?_
  exact sw_iretC 15 G dL_left_15 KK (by decide) (by decide)
theorem kL_left_xA {Θ : Tht} {K : (Nat → Nat) × (Nat → Nat)} {a0 : Int32} {b q : Nat} {f : Nat → Int64} {wc wc2 : va_W} {fs : List Value} (hb : wc[0]? = some (b, .inr (5, fs))) (h : FX Θ K yX5_left (Cond.code yX5_left cX5_left 2 (some .long) :: GW) rmXX [.ref b, .int a0] wc eIA wc2) : FC Θ K 1 6 yL_left (Cond.codeWith yL_left cL_left 4 (some .int) [(0, 8, 11, 13)] :: GW) rmW [.ref b, .int a0, .ref q] (wO Θ q f ++ wc) (some (.int 1)) (wO Θ q f ++ wc2) := by
  refine FC.ofH (by decide +kernel) rfl (Nat.le_of_ble_eq_true rfl) (fun p e s m args below meth c A Q G KK E ht => ?_)
  show sw Θ p e rmW s m args below meth c A Q 4 0 0 0 [(0, .ref b), (1, .int a0), (2, .ref q)] [] (wO Θ q f ++ wc)
  refine sw_aload_n 0 G dL_left_0 2 rfl ?_
  refine sw_iconst 1 G (0 : Int32) dL_left_1 rfl ?_
  refine sw_aload_n 2 G dL_left_2 0 rfl ?_
  refine sw_iload_n 3 G dL_left_3 1 rfl ?_
  refine sw_callVX 4 G E (name := eIA) 1 dL_left_4 (FX.head (wO Θ q f) h) (gwV lk_92f6207a lk_cb7a7b42 lk_2e1ae927 lk_5f14f758 lk_525c92fb) rfl hvL_left ⟨rfl, rfl⟩ ⟨Nat.le_of_ble_eq_true rfl, Nat.le_of_ble_eq_true rfl⟩ ⟨Nat.le_of_ble_eq_true rfl, Nat.le_of_ble_eq_true rfl⟩ rfl rfl (Nat.le_of_ble_eq_true rfl) 1 hb vc5 rfl [] (exn 0 11 13 8) [] (ht.trans rfl) (fun z hz => absurd hz List.not_mem_nil) (by decide) (by decide) (G.2.2.2.2.1 _ (List.mem_cons_of_mem _ lk_1dfa06ab)) (ev_cast E evA_in) (fun q9 => ?_)
  refine sw_astore_n 11 G _ dL_left_11 (by decide) rfl ?_
  refine sw_iconst 12 G (1 : Int32) dL_left_12 rfl ?_
  exact sw_iretC 13 G dL_left_13 KK (by decide) (by decide)
theorem kL_whole {Θ : Tht} {K : (Nat → Nat) × (Nat → Nat)} {a0 : Int32} {b q : Nat} {f : Nat → Int64} {wc wc2 : va_W} {fs : List Value} {v : Int32} (hb : wc[0]? = some (b, .inr (5, fs))) (h : FC Θ K 0 0 yX5_whole (Cond.code yX5_whole cX5_whole 2 (some .int) :: GW) rmX5_whole [.ref b, .int a0] wc (some (.int v)) wc2) : FC Θ K 1 6 yL_whole (Cond.codeWith yL_whole cL_whole 4 (some .int) [(0, 9, 12, 13)] :: GW) rmW [.ref b, .int a0, .ref q] (wO Θ q f ++ wc) (some (.int 0)) (wO Θ q (vp_updL f (0 : Int32).toNatClampNeg (v.toInt64)) ++ wc2) := by
  refine FC.ofH (by decide +kernel) rfl (Nat.le_of_ble_eq_true rfl) (fun p e s m args below meth c A Q G KK E ht => ?_)
  show sw Θ p e rmW s m args below meth c A Q 4 0 0 0 [(0, .ref b), (1, .int a0), (2, .ref q)] [] (wO Θ q f ++ wc)
  refine sw_aload_n 0 G dL_whole_0 2 rfl ?_
  refine sw_iconst 1 G (0 : Int32) dL_whole_1 rfl ?_
  refine sw_aload_n 2 G dL_whole_2 0 rfl ?_
  refine sw_iload_n 3 G dL_whole_3 1 rfl ?_
  refine sw_callVA 4 G E 1 dL_whole_4 (FC.head (wO Θ q f) h) (gwV lk_b655eef4 lk_00a700e4 lk_1397dd5c lk_5f14f758 lk_141fdf1b) rfl hvL_whole ⟨rfl, rfl⟩ ⟨Nat.le_of_ble_eq_true rfl, Nat.le_of_ble_eq_true rfl⟩ ⟨Nat.le_of_ble_eq_true rfl, Nat.le_of_ble_eq_true rfl⟩ rfl rfl (Nat.le_of_ble_eq_true rfl) 1 hb vc5 rfl ?_
  refine sw_i2l 7 G dL_whole_7 ?_
  refine sw_last 8 G 0 (wO Θ q (vp_updL f (0 : Int32).toNatClampNeg (v.toInt64)) ++ wc2) dL_whole_8 rfl rfl gd0 (fun _ => ?_)
  refine sw_goto 9 G 15 dL_whole_9 rfl ?_
  refine sw_iconst 15 G (0 : Int32) dL_whole_15 rfl ?_
  exact sw_iretC 16 G dL_whole_16 KK (by decide) (by decide)
theorem kL_whole_xA {Θ : Tht} {K : (Nat → Nat) × (Nat → Nat)} {a0 : Int32} {b q : Nat} {f : Nat → Int64} {wc wc2 : va_W} {fs : List Value} (hb : wc[0]? = some (b, .inr (5, fs))) (h : FX Θ K yX5_whole (Cond.code yX5_whole cX5_whole 2 (some .int) :: GW) rmXX [.ref b, .int a0] wc eIA wc2) : FC Θ K 1 6 yL_whole (Cond.codeWith yL_whole cL_whole 4 (some .int) [(0, 9, 12, 13)] :: GW) rmW [.ref b, .int a0, .ref q] (wO Θ q f ++ wc) (some (.int 1)) (wO Θ q f ++ wc2) := by
  refine FC.ofH (by decide +kernel) rfl (Nat.le_of_ble_eq_true rfl) (fun p e s m args below meth c A Q G KK E ht => ?_)
  show sw Θ p e rmW s m args below meth c A Q 4 0 0 0 [(0, .ref b), (1, .int a0), (2, .ref q)] [] (wO Θ q f ++ wc)
  refine sw_aload_n 0 G dL_whole_0 2 rfl ?_
  refine sw_iconst 1 G (0 : Int32) dL_whole_1 rfl ?_
  refine sw_aload_n 2 G dL_whole_2 0 rfl ?_
  refine sw_iload_n 3 G dL_whole_3 1 rfl ?_
  refine sw_callVX 4 G E (name := eIA) 1 dL_whole_4 (FX.head (wO Θ q f) h) (gwV lk_b655eef4 lk_00a700e4 lk_1397dd5c lk_5f14f758 lk_141fdf1b) rfl hvL_whole ⟨rfl, rfl⟩ ⟨Nat.le_of_ble_eq_true rfl, Nat.le_of_ble_eq_true rfl⟩ ⟨Nat.le_of_ble_eq_true rfl, Nat.le_of_ble_eq_true rfl⟩ rfl rfl (Nat.le_of_ble_eq_true rfl) 1 hb vc5 rfl [] (exn 0 12 13 9) [] (ht.trans rfl) (fun z hz => absurd hz List.not_mem_nil) (by decide) (by decide) (G.2.2.2.2.1 _ (List.mem_cons_of_mem _ lk_1dfa06ab)) (ev_cast E evA_in) (fun q9 => ?_)
  refine sw_astore_n 12 G _ dL_whole_12 (by decide) rfl ?_
  refine sw_iconst 13 G (1 : Int32) dL_whole_13 rfl ?_
  exact sw_iretC 14 G dL_whole_14 KK (by decide) (by decide)
theorem kL_planned {Θ : Tht} {K : (Nat → Nat) × (Nat → Nat)} {a0 : Int32} {b q : Nat} {f : Nat → Int64} {wc wc2 : va_W} {fs : List Value} {v : Int32} (hb : wc[0]? = some (b, .inr (5, fs))) (h : FC Θ K 0 0 yX5_planned (Cond.code yX5_planned cX5_planned 3 (some .int) :: GW) rmX5_planned [.ref b, .int a0] wc (some (.int v)) wc2) : FC Θ K 1 6 yL_planned (Cond.codeWith yL_planned cL_planned 4 (some .int) [(0, 9, 12, 39)] :: GW) rmW [.ref b, .int a0, .ref q] (wO Θ q f ++ wc) (some (.int 0)) (wO Θ q (vp_updL f (0 : Int32).toNatClampNeg (v.toInt64)) ++ wc2) := by
  refine FC.ofH (by decide +kernel) rfl (Nat.le_of_ble_eq_true rfl) (fun p e s m args below meth c A Q G KK E ht => ?_)
  show sw Θ p e rmW s m args below meth c A Q 4 0 0 0 [(0, .ref b), (1, .int a0), (2, .ref q)] [] (wO Θ q f ++ wc)
  refine sw_aload_n 0 G dL_planned_0 2 rfl ?_
  refine sw_iconst 1 G (0 : Int32) dL_planned_1 rfl ?_
  refine sw_aload_n 2 G dL_planned_2 0 rfl ?_
  refine sw_iload_n 3 G dL_planned_3 1 rfl ?_
  refine sw_callVA 4 G E 1 dL_planned_4 (FC.head (wO Θ q f) h) (gwV lk_9bd26691 lk_9ff230cd lk_da1c9664 lk_5f14f758 lk_cb016474) rfl hvL_planned ⟨rfl, rfl⟩ ⟨Nat.le_of_ble_eq_true rfl, Nat.le_of_ble_eq_true rfl⟩ ⟨Nat.le_of_ble_eq_true rfl, Nat.le_of_ble_eq_true rfl⟩ rfl rfl (Nat.le_of_ble_eq_true rfl) 1 hb vc5 rfl ?_
  refine sw_i2l 7 G dL_planned_7 ?_
  refine sw_last 8 G 0 (wO Θ q (vp_updL f (0 : Int32).toNatClampNeg (v.toInt64)) ++ wc2) dL_planned_8 rfl rfl gd0 (fun _ => ?_)
  refine sw_goto 9 G 15 dL_planned_9 rfl ?_
  refine sw_iconst 15 G (0 : Int32) dL_planned_15 rfl ?_
  exact sw_iretC 16 G dL_planned_16 KK (by decide) (by decide)
theorem kL_planned_xB {Θ : Tht} {K : (Nat → Nat) × (Nat → Nat)} {a0 : Int32} {b q : Nat} {f : Nat → Int64} {wc wc2 : va_W} {fs : List Value} (hb : wc[0]? = some (b, .inr (5, fs))) (h : FX Θ K yX5_planned (Cond.code yX5_planned cX5_planned 3 (some .int) :: GW) rmXX [.ref b, .int a0] wc eIB wc2) : FC Θ K 1 6 yL_planned (Cond.codeWith yL_planned cL_planned 4 (some .int) [(0, 9, 12, 39)] :: GW) rmW [.ref b, .int a0, .ref q] (wO Θ q f ++ wc) (some (.int 1)) (wO Θ q f ++ wc2) := by
  refine FC.ofH (by decide +kernel) rfl (Nat.le_of_ble_eq_true rfl) (fun p e s m args below meth c A Q G KK E ht => ?_)
  show sw Θ p e rmW s m args below meth c A Q 4 0 0 0 [(0, .ref b), (1, .int a0), (2, .ref q)] [] (wO Θ q f ++ wc)
  refine sw_aload_n 0 G dL_planned_0 2 rfl ?_
  refine sw_iconst 1 G (0 : Int32) dL_planned_1 rfl ?_
  refine sw_aload_n 2 G dL_planned_2 0 rfl ?_
  refine sw_iload_n 3 G dL_planned_3 1 rfl ?_
  refine sw_callVX 4 G E (name := eIB) 1 dL_planned_4 (FX.head (wO Θ q f) h) (gwV lk_9bd26691 lk_9ff230cd lk_da1c9664 lk_5f14f758 lk_cb016474) rfl hvL_planned ⟨rfl, rfl⟩ ⟨Nat.le_of_ble_eq_true rfl, Nat.le_of_ble_eq_true rfl⟩ ⟨Nat.le_of_ble_eq_true rfl, Nat.le_of_ble_eq_true rfl⟩ rfl rfl (Nat.le_of_ble_eq_true rfl) 1 hb vc5 rfl [] (exn 0 12 39 9) [] (ht.trans rfl) (fun z hz => absurd hz List.not_mem_nil) (by decide) (by decide) (G.2.2.2.2.1 _ (List.mem_cons_of_mem _ lk_f2a532f1)) (ev_cast E evBB_in) (fun q9 => ?_)
  refine sw_astore_n 12 G _ dL_planned_12 (by decide) rfl ?_
  refine sw_iconst 13 G (1 : Int32) dL_planned_13 rfl ?_
  exact sw_iretC 14 G dL_planned_14 KK (by decide) (by decide)
theorem kL_type {Θ : Tht} {K : (Nat → Nat) × (Nat → Nat)} {a0 : Int32} {b q : Nat} {f : Nat → Int64} {wc wc2 : va_W} {fs : List Value} {v : Int32} (hb : wc[0]? = some (b, .inr (5, fs))) (h : FC Θ K 0 0 yX5_type (Cond.code yX5_type cX5_type 2 (some .int) :: GW) rmX5_type [.ref b, .int a0] wc (some (.int v)) wc2) : FC Θ K 1 6 yL_type (Cond.codeWith yL_type cL_type 4 (some .int) [(0, 9, 12, 13), (0, 9, 15, 30)] :: GW) rmW [.ref b, .int a0, .ref q] (wO Θ q f ++ wc) (some (.int 0)) (wO Θ q (vp_updL f (0 : Int32).toNatClampNeg (v.toInt64)) ++ wc2) := by
  refine FC.ofH (by decide +kernel) rfl (Nat.le_of_ble_eq_true rfl) (fun p e s m args below meth c A Q G KK E ht => ?_)
  show sw Θ p e rmW s m args below meth c A Q 4 0 0 0 [(0, .ref b), (1, .int a0), (2, .ref q)] [] (wO Θ q f ++ wc)
  refine sw_aload_n 0 G dL_type_0 2 rfl ?_
  refine sw_iconst 1 G (0 : Int32) dL_type_1 rfl ?_
  refine sw_aload_n 2 G dL_type_2 0 rfl ?_
  refine sw_iload_n 3 G dL_type_3 1 rfl ?_
  refine sw_callVA 4 G E 1 dL_type_4 (FC.head (wO Θ q f) h) (gwV lk_e925e2e2 lk_80a23638 lk_607ae46c lk_5f14f758 lk_c15f6366) rfl hvL_type ⟨rfl, rfl⟩ ⟨Nat.le_of_ble_eq_true rfl, Nat.le_of_ble_eq_true rfl⟩ ⟨Nat.le_of_ble_eq_true rfl, Nat.le_of_ble_eq_true rfl⟩ rfl rfl (Nat.le_of_ble_eq_true rfl) 1 hb vc5 rfl ?_
  refine sw_i2l 7 G dL_type_7 ?_
  refine sw_last 8 G 0 (wO Θ q (vp_updL f (0 : Int32).toNatClampNeg (v.toInt64)) ++ wc2) dL_type_8 rfl rfl gd0 (fun _ => ?_)
  refine sw_goto 9 G 18 dL_type_9 rfl ?_
  refine sw_iconst 18 G (0 : Int32) dL_type_18 rfl ?_
  exact sw_iretC 19 G dL_type_19 KK (by decide) (by decide)
theorem kL_type_xA {Θ : Tht} {K : (Nat → Nat) × (Nat → Nat)} {a0 : Int32} {b q : Nat} {f : Nat → Int64} {wc wc2 : va_W} {fs : List Value} (hb : wc[0]? = some (b, .inr (5, fs))) (h : FX Θ K yX5_type (Cond.code yX5_type cX5_type 2 (some .int) :: GW) rmXX [.ref b, .int a0] wc eIA wc2) : FC Θ K 1 6 yL_type (Cond.codeWith yL_type cL_type 4 (some .int) [(0, 9, 12, 13), (0, 9, 15, 30)] :: GW) rmW [.ref b, .int a0, .ref q] (wO Θ q f ++ wc) (some (.int 1)) (wO Θ q f ++ wc2) := by
  refine FC.ofH (by decide +kernel) rfl (Nat.le_of_ble_eq_true rfl) (fun p e s m args below meth c A Q G KK E ht => ?_)
  show sw Θ p e rmW s m args below meth c A Q 4 0 0 0 [(0, .ref b), (1, .int a0), (2, .ref q)] [] (wO Θ q f ++ wc)
  refine sw_aload_n 0 G dL_type_0 2 rfl ?_
  refine sw_iconst 1 G (0 : Int32) dL_type_1 rfl ?_
  refine sw_aload_n 2 G dL_type_2 0 rfl ?_
  refine sw_iload_n 3 G dL_type_3 1 rfl ?_
  refine sw_callVX 4 G E (name := eIA) 1 dL_type_4 (FX.head (wO Θ q f) h) (gwV lk_e925e2e2 lk_80a23638 lk_607ae46c lk_5f14f758 lk_c15f6366) rfl hvL_type ⟨rfl, rfl⟩ ⟨Nat.le_of_ble_eq_true rfl, Nat.le_of_ble_eq_true rfl⟩ ⟨Nat.le_of_ble_eq_true rfl, Nat.le_of_ble_eq_true rfl⟩ rfl rfl (Nat.le_of_ble_eq_true rfl) 1 hb vc5 rfl [] (exn 0 12 13 9) [exn 0 15 30 9] (ht.trans rfl) (fun z hz => absurd hz List.not_mem_nil) (by decide) (by decide) (G.2.2.2.2.1 _ (List.mem_cons_of_mem _ lk_1dfa06ab)) (ev_cast E evA_in) (fun q9 => ?_)
  refine sw_astore_n 12 G _ dL_type_12 (by decide) rfl ?_
  refine sw_iconst 13 G (1 : Int32) dL_type_13 rfl ?_
  exact sw_iretC 14 G dL_type_14 KK (by decide) (by decide)
theorem kL_type_xS {Θ : Tht} {K : (Nat → Nat) × (Nat → Nat)} {a0 : Int32} {b q : Nat} {f : Nat → Int64} {wc wc2 : va_W} {fs : List Value} (hb : wc[0]? = some (b, .inr (5, fs))) (h : FX Θ K yX5_type (Cond.code yX5_type cX5_type 2 (some .int) :: GW) rmXX [.ref b, .int a0] wc eIS wc2) : FC Θ K 1 6 yL_type (Cond.codeWith yL_type cL_type 4 (some .int) [(0, 9, 12, 13), (0, 9, 15, 30)] :: GW) rmW [.ref b, .int a0, .ref q] (wO Θ q f ++ wc) (some (.int 2)) (wO Θ q f ++ wc2) := by
  refine FC.ofH (by decide +kernel) rfl (Nat.le_of_ble_eq_true rfl) (fun p e s m args below meth c A Q G KK E ht => ?_)
  show sw Θ p e rmW s m args below meth c A Q 4 0 0 0 [(0, .ref b), (1, .int a0), (2, .ref q)] [] (wO Θ q f ++ wc)
  refine sw_aload_n 0 G dL_type_0 2 rfl ?_
  refine sw_iconst 1 G (0 : Int32) dL_type_1 rfl ?_
  refine sw_aload_n 2 G dL_type_2 0 rfl ?_
  refine sw_iload_n 3 G dL_type_3 1 rfl ?_
  refine sw_callVX 4 G E (name := eIS) 1 dL_type_4 (FX.head (wO Θ q f) h) (gwV lk_e925e2e2 lk_80a23638 lk_607ae46c lk_5f14f758 lk_c15f6366) rfl hvL_type ⟨rfl, rfl⟩ ⟨Nat.le_of_ble_eq_true rfl, Nat.le_of_ble_eq_true rfl⟩ ⟨Nat.le_of_ble_eq_true rfl, Nat.le_of_ble_eq_true rfl⟩ rfl rfl (Nat.le_of_ble_eq_true rfl) 1 hb vc5 rfl [exn 0 12 13 9] (exn 0 15 30 9) [] (ht.trans rfl) (fun z hz => by rw [List.mem_singleton.mp hz]; exact Or.inr ⟨by decide, eIA, G.2.2.2.2.1 _ (List.mem_cons_of_mem _ lk_1dfa06ab), E.2.2.2.2.2.2.2.2.1⟩) (by decide) (by decide) (G.2.2.2.2.1 _ (List.mem_cons_of_mem _ lk_6e631457)) (ev_cast E evS_in) (fun q9 => ?_)
  refine sw_astore_n 15 G _ dL_type_15 (by decide) rfl ?_
  refine sw_iconst 16 G (2 : Int32) dL_type_16 rfl ?_
  exact sw_iretC 17 G dL_type_17 KK (by decide) (by decide)
theorem kL_undo {Θ : Tht} {K : (Nat → Nat) × (Nat → Nat)} {b q : Nat} {f : Nat → Int64} {wc wc2 : va_W} {fs : List Value} {v : Int32} (hb : wc[0]? = some (b, .inr (5, fs))) (h : FC Θ K 0 0 yX5_undo (Cond.code yX5_undo cX5_undo 2 (some .int) :: GW) rmX5_undo [.ref b] wc (some (.int v)) wc2) : FC Θ K 1 6 yL_undo (Cond.codeWith yL_undo cL_undo 3 (some .int) [(0, 8, 11, 30)] :: GW) rmW [.ref b, .ref q] (wO Θ q f ++ wc) (some (.int 0)) (wO Θ q (vp_updL f (0 : Int32).toNatClampNeg (v.toInt64)) ++ wc2) := by
  refine FC.ofH (by decide +kernel) rfl (Nat.le_of_ble_eq_true rfl) (fun p e s m args below meth c A Q G KK E ht => ?_)
  show sw Θ p e rmW s m args below meth c A Q 3 0 0 0 [(0, .ref b), (1, .ref q)] [] (wO Θ q f ++ wc)
  refine sw_aload_n 0 G dL_undo_0 1 rfl ?_
  refine sw_iconst 1 G (0 : Int32) dL_undo_1 rfl ?_
  refine sw_aload_n 2 G dL_undo_2 0 rfl ?_
  refine sw_callVA 3 G E 0 dL_undo_3 (FC.head (wO Θ q f) h) (gwV lk_420ce3e5 lk_3a1ef0a1 lk_9dfc2243 lk_5f14f758 lk_3aafc518) rfl hvL_undo ⟨rfl, rfl⟩ ⟨Nat.le_of_ble_eq_true rfl, Nat.le_of_ble_eq_true rfl⟩ ⟨Nat.le_of_ble_eq_true rfl, Nat.le_of_ble_eq_true rfl⟩ rfl rfl (Nat.le_of_ble_eq_true rfl) 1 hb vc5 rfl ?_
  refine sw_i2l 6 G dL_undo_6 ?_
  refine sw_last 7 G 0 (wO Θ q (vp_updL f (0 : Int32).toNatClampNeg (v.toInt64)) ++ wc2) dL_undo_7 rfl rfl gd0 (fun _ => ?_)
  refine sw_goto 8 G 14 dL_undo_8 rfl ?_
  refine sw_iconst 14 G (0 : Int32) dL_undo_14 rfl ?_
  exact sw_iretC 15 G dL_undo_15 KK (by decide) (by decide)
theorem kL_undo_xS {Θ : Tht} {K : (Nat → Nat) × (Nat → Nat)} {b q : Nat} {f : Nat → Int64} {wc wc2 : va_W} {fs : List Value} (hb : wc[0]? = some (b, .inr (5, fs))) (h : FX Θ K yX5_undo (Cond.code yX5_undo cX5_undo 2 (some .int) :: GW) rmXX [.ref b] wc eIS wc2) : FC Θ K 1 6 yL_undo (Cond.codeWith yL_undo cL_undo 3 (some .int) [(0, 8, 11, 30)] :: GW) rmW [.ref b, .ref q] (wO Θ q f ++ wc) (some (.int 1)) (wO Θ q f ++ wc2) := by
  refine FC.ofH (by decide +kernel) rfl (Nat.le_of_ble_eq_true rfl) (fun p e s m args below meth c A Q G KK E ht => ?_)
  show sw Θ p e rmW s m args below meth c A Q 3 0 0 0 [(0, .ref b), (1, .ref q)] [] (wO Θ q f ++ wc)
  refine sw_aload_n 0 G dL_undo_0 1 rfl ?_
  refine sw_iconst 1 G (0 : Int32) dL_undo_1 rfl ?_
  refine sw_aload_n 2 G dL_undo_2 0 rfl ?_
  refine sw_callVX 3 G E (name := eIS) 0 dL_undo_3 (FX.head (wO Θ q f) h) (gwV lk_420ce3e5 lk_3a1ef0a1 lk_9dfc2243 lk_5f14f758 lk_3aafc518) rfl hvL_undo ⟨rfl, rfl⟩ ⟨Nat.le_of_ble_eq_true rfl, Nat.le_of_ble_eq_true rfl⟩ ⟨Nat.le_of_ble_eq_true rfl, Nat.le_of_ble_eq_true rfl⟩ rfl rfl (Nat.le_of_ble_eq_true rfl) 1 hb vc5 rfl [] (exn 0 11 30 8) [] (ht.trans rfl) (fun z hz => absurd hz List.not_mem_nil) (by decide) (by decide) (G.2.2.2.2.1 _ (List.mem_cons_of_mem _ lk_6e631457)) (ev_cast E evS_in) (fun q9 => ?_)
  refine sw_astore_n 11 G _ dL_undo_11 (by decide) rfl ?_
  refine sw_iconst 12 G (1 : Int32) dL_undo_12 rfl ?_
  exact sw_iretC 13 G dL_undo_13 KK (by decide) (by decide)
