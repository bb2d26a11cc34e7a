theorem lk_849dcc63 : Cond.constant RL 7 (2147483647) ∈ GW := GW_of 341 (by decide +kernel) (by decide +kernel)
theorem lk_d94bbf8c : Cond.classLink RL 15 eIA ∈ GW := GW_of 633 (by decide +kernel) (by decide +kernel)
theorem lk_c4e9aa5f : Cond.methodLink RL 9 yX5_mark ∈ GW := GW_of 634 (by decide +kernel) (by decide +kernel)
theorem lk_64583575 : Cond.instanceMethod yX5_mark ∈ GW := GW_of 635 (by decide +kernel) (by decide +kernel)
theorem lk_8ed26829 : Cond.selects RX5 yX5_mark yX5_mark ∈ GW := GW_of 636 (by decide +kernel) (by decide +kernel)
theorem lk_dba0d6d6 : Cond.code yX5_mark cX5_mark 6 (some .int) ∈ GW := GW_of 637 (by decide +kernel) (by decide +kernel)
theorem lk_a2c8ec38 : Cond.classLink RL 21 eIS ∈ GW := GW_of 655 (by decide +kernel) (by decide +kernel)
theorem lk_bd9bac0f : Cond.methodLink RL 23 yX5_addBend ∈ GW := GW_of 656 (by decide +kernel) (by decide +kernel)
theorem lk_112a04e2 : Cond.instanceMethod yX5_addBend ∈ GW := GW_of 657 (by decide +kernel) (by decide +kernel)
theorem lk_6450d612 : Cond.selects RX5 yX5_addBend yX5_addBend ∈ GW := GW_of 658 (by decide +kernel) (by decide +kernel)
theorem lk_8a5534ad : Cond.code yX5_addBend cX5_addBend 4 (some .int) ∈ GW := GW_of 659 (by decide +kernel) (by decide +kernel)
theorem lk_bb95f562 : Cond.methodLink RL 17 yX5_addPunch ∈ GW := GW_of 696 (by decide +kernel) (by decide +kernel)
theorem lk_dd6a62aa : Cond.instanceMethod yX5_addPunch ∈ GW := GW_of 697 (by decide +kernel) (by decide +kernel)
theorem lk_80ed0630 : Cond.selects RX5 yX5_addPunch yX5_addPunch ∈ GW := GW_of 698 (by decide +kernel) (by decide +kernel)
theorem lk_477a5b19 : Cond.code yX5_addPunch cX5_addPunch 5 (some .int) ∈ GW := GW_of 699 (by decide +kernel) (by decide +kernel)
theorem lk_75db54d9 : Cond.classLink RL 31 eIB ∈ GW := GW_of 707 (by decide +kernel) (by decide +kernel)
theorem lk_94df5269 : Cond.methodLink RL 27 yX5_setStation ∈ GW := GW_of 708 (by decide +kernel) (by decide +kernel)
theorem lk_0816f013 : Cond.instanceMethod yX5_setStation ∈ GW := GW_of 709 (by decide +kernel) (by decide +kernel)
theorem lk_5853afe0 : Cond.selects RX5 yX5_setStation yX5_setStation ∈ GW := GW_of 710 (by decide +kernel) (by decide +kernel)
theorem lk_ed57f710 : Cond.code yX5_setStation cX5_setStation 4 (some .int) ∈ GW := GW_of 711 (by decide +kernel) (by decide +kernel)
theorem lk_ea5acfc1 : Cond.methodLink RL 33 yX5_usePlan ∈ GW := GW_of 717 (by decide +kernel) (by decide +kernel)
theorem lk_16b02793 : Cond.instanceMethod yX5_usePlan ∈ GW := GW_of 718 (by decide +kernel) (by decide +kernel)
theorem lk_f1ea793d : Cond.selects RX5 yX5_usePlan yX5_usePlan ∈ GW := GW_of 719 (by decide +kernel) (by decide +kernel)
theorem lk_2c765084 : Cond.code yX5_usePlan cX5_usePlan 2 (some .int) ∈ GW := GW_of 720 (by decide +kernel) (by decide +kernel)
theorem lk_900c9f4e : Cond.methodLink RL 37 yX5_undo ∈ GW := GW_of 756 (by decide +kernel) (by decide +kernel)
theorem lk_3a1ef0a1 : Cond.instanceMethod yX5_undo ∈ GW := GW_of 757 (by decide +kernel) (by decide +kernel)
theorem lk_9dfc2243 : Cond.selects RX5 yX5_undo yX5_undo ∈ GW := GW_of 758 (by decide +kernel) (by decide +kernel)
theorem lk_3aafc518 : Cond.code yX5_undo cX5_undo 2 (some .int) ∈ GW := GW_of 759 (by decide +kernel) (by decide +kernel)
/-! frame of the law's own methods -/
abbrev rmW : Room := { frames := 9, cells := 1, slots := 6, locals := 330 }
theorem FC.ofK {Θ : Tht} {K : (Nat → Nat) × (Nat → Nat)} {mc ms : Nat} {y : MethodName} {ws ws' : List Cond} {rm : Room} {as : List Value} {w0 w1 : va_W} {o : Option Value} {cc : ByteArray} {maxL : Nat} {ret : Option FieldType} (hy : plainName y.cls = true) (hw : ws = Cond.code y cc maxL ret :: ws') (hlen : (lg_sl as).length ≤ maxL)
    (body : ∀ (p : Program) (e : Env) (s : State) (m : MethodId) (args : Array Value) (below : List Frame) (meth : Method) (c : Code) (A : Nat → Prop) (Q : State → Prop), okG Θ p s m args c A maxL cc y.cls ws → okRC Θ rm s args below meth A Q w0 w1 o ret mc ms → Ev K A s s.heap → sw Θ p e rm s m args below meth c A Q maxL 0 0 0 (lv_args 0 as) [] w0) : FC Θ K mc ms y ws rm as w0 o w1 := by
  intro sz
  refine Met.ofW (cc := cc) (maxL := maxL) (ret := ret) hy hw ?_
  intro p e s m args below meth c s₁ B hml hv
  obtain ⟨rfl, ⟨hsz, hP, hK, hD0, hN⟩, hE⟩ := hv
  subst hsz
  have hts := atoms_spec (ws := ws) B.pre
  have hown : s.vm.findClass y.cls = some m.cls := findClass_of_methodNamed B.named
  have hl := lv_entry as (n := maxL) hlen
  rw [lg_entry_eq]
  exact body p e s m _ below meth c _ _ ⟨B.exec, B.bytes, hml, hown, hts, hK, fun q h => Or.inr h, hN⟩ ⟨rfl, rfl, B.returns, B.notSynchronized⟩ hE s.heap [] _ hP (hD0.self) va_S.rf hl
theorem Fn.any {Θ : Tht} {y : MethodName} {wsY : List Cond} {rm : Room} {as : List Value} {o : Option Value} (W : va_W) (h : Fn Θ y wsY rm as [] o []) : Fn Θ y wsY rm as W o W := Fn.tail W h
theorem gwH {cw : Cond} {own : String} {ix : Nat} {y : MethodName} {bytes : ByteArray} {maxL : Nat} {ret : Option FieldType} {hh : List (Nat × Nat × Nat × Nat)} (h1 : Cond.methodLink own ix y ∈ GW) (h2 : Cond.static y ∈ GW) (h4 : Cond.initialized y.cls ∈ GW) (h5 : Cond.codeWith y bytes maxL ret hh ∈ GW) : GoodIn (cw :: GW) (va_wsS own ix y (Cond.codeWith y bytes maxL ret hh :: GW)) := by
  intro w hw
  have g : ∀ w ∈ GW, w ∈ (cw :: GW) ∧ ((w.onTables && w.keeps) = true ∨ ∃ ty, w = .arrayClass ty) := fun w hw => ⟨List.mem_cons_of_mem _ hw, good_of_word (List.mem_filter.mp hw).2⟩
  simp only [va_wsS, List.cons_append, List.nil_append, List.mem_cons] at hw
  rcases hw with rfl | rfl | rfl | rfl | hw
  · exact g _ h1
  · exact g _ h2
  · exact g _ h4
  · exact g _ h5
  · exact g _ hw
section SW9
variable {Θ : Tht} {p : Program} {e : Env} {R : Room} {s : State} {m : MethodId} {args : Array Value} {below : List Frame} {meth : Method} {c : Code} {A : Nat → Prop} {Q : State → Prop} {nL k n : Nat} {cc : ByteArray} {own : String} {Ts : List Cond}
theorem sw_wd {k2 n2 pc : Nat} {lv : List (Nat × Value)} {st : List Value} {ws : va_W} (h1 : k ≤ k2) (h2 : n ≤ n2) (kk : sw Θ p e R s m args below meth c A Q nL k2 n2 pc lv st ws) : sw Θ p e R s m args below meth c A Q nL k n pc lv st ws := fun H locs ls hP hD hS hl => W.widen h1 h2 (kk H locs ls hP hD hS hl)
theorem sw_zretC (pc : Nat) (G : okG Θ p s m args c A nL cc own Ts) {mc ms : Nat} {w0 w1 : va_W} {v : Int32} {lv : List (Nat × Value)} (hd : decode cc pc = .ok (.ireturn, 1)) (KK : okRC Θ R s args below meth A Q w0 w1 (some (.int v)) (some .boolean) mc ms) (hv : narrow .boolean (.int v) = .int v) (h1 : k ≤ mc) (h2 : n ≤ ms) : sw Θ p e R s m args below meth c A Q nL k n pc lv [.int v] w1 := by
  intro H locs ls hP hD hS hl
  obtain ⟨rfl, rfl, hr, hlk⟩ := KK
  exact W.widen h1 h2 (W.zret G.1 G.2.1 hr hv (fun t ht hW => ⟨rfl, by rw [ht]; exact hP, hD, hS.F ht⟩) hS.2.2 hd hlk)
theorem sw_lretC (pc : Nat) (G : okG Θ p s m args c A nL cc own Ts) {mc ms : Nat} {w0 w1 : va_W} {v : Int64} {lv : List (Nat × Value)} (hd : decode cc pc = .ok (.lreturn, 1)) (KK : okRC Θ R s args below meth A Q w0 w1 (some (.long v)) (some .long) mc ms) (h1 : k ≤ mc) (h2 : n ≤ ms) : sw Θ p e R s m args below meth c A Q nL k n pc lv [.long v] w1 := by
  intro H locs ls hP hD hS hl
  obtain ⟨rfl, rfl, hr, hlk⟩ := KK
  exact W.widen h1 h2 (W.lret G.1 G.2.1 hr (fun t ht hW => ⟨rfl, by rw [ht]; exact hP, hD, hS.F ht⟩) hS.2.2 hd hlk)
end SW9
def exn (s h t : Nat) (e : Nat) : ExceptionTableEntry := { startPc := s, endPc := e, handlerPc := h, catchType := t }
theorem ev_cast {K : (Nat → Nat) × (Nat → Nat)} {A : Nat → Prop} {U : State} {H : Heap} {args : Array Value} (E : Ev K A U H) {e : String} (he : Cond.castable e e ∈ evB) : (Cond.castable e e).before args U = true := va_Nw.use (evB_tab he) (E.2.2.2.2.2.2.2.1 _ he)
theorem evA_in : Cond.castable eIA eIA ∈ evB := List.mem_of_getElem? (i := 0) rfl
theorem evS_in : Cond.castable eIS eIS ∈ evB := List.mem_of_getElem? (i := 1) rfl
theorem evBB_in : Cond.castable eIB eIB ∈ evB := List.mem_of_getElem? (i := 2) rfl
abbrev rmL_low : Room := { frames := 0, cells := 0, slots := 0, locals := 0 }
theorem hsL_low : yL_low.cls ≠ "java/lang/invoke/MethodHandle" ∧ yL_low.cls ≠ "java/lang/invoke/VarHandle" ∧ (parseMethodDescriptor yL_low.desc).map (fun d => d.parameters.length) = some 2 := by decide +kernel
set_option maxRecDepth 100000 in
set_option maxHeartbeats 4000000 in
theorem kL_low (Θ : Tht) (a0 : Int32) (a1 : Int32) (ro : Int32) (hf : fL_low a0 a1 = some ro) : Fn Θ yL_low (Cond.code yL_low cL_low 2 (some .int) :: GW) rmL_low [.int a0, .int a1] ([]) (some (.int ro)) ([]) := by
  delta fL_low at hf
  refine Fn.of (by decide +kernel) rfl (Nat.le_of_ble_eq_true rfl) (fun p e s m args below meth c A Q G K => ?_)
  show sw Θ p e rmL_low s m args below meth c A Q 2 0 0 0 [(0, .int a0), (1, .int a1)] [] ([])
  refine sw_iload_n 0 G dL_low_0 0 rfl ?_
  refine sw_ldc 1 G (List.mem_cons_of_mem _ lk_849dcc63) dL_low_1 ?_
  refine sw_iand 3 G dL_low_3 ?_
  refine sw_iload_n 4 G dL_low_4 1 rfl ?_
  refine sw_irem 5 G dL_low_5 hf (fun hf => ?_)
  cases hf
  exact sw_iret 6 G dL_low_6 K
abbrev rmL_ones : Room := { frames := 0, cells := 0, slots := 0, locals := 0 }
theorem hsL_ones : yL_ones.cls ≠ "java/lang/invoke/MethodHandle" ∧ yL_ones.cls ≠ "java/lang/invoke/VarHandle" ∧ (parseMethodDescriptor yL_ones.desc).map (fun d => d.parameters.length) = some 1 := by decide +kernel
set_option maxRecDepth 100000 in
set_option maxHeartbeats 4000000 in
theorem kL_ones (Θ : Tht) (F : Nat) (a0 : Int64) (ro : Int32) (hf : fL_ones F a0 = some ro) : Fn Θ yL_ones (Cond.code yL_ones cL_ones 5 (some .int) :: GW) rmL_ones [.long a0] ([]) (some (.int ro)) ([]) := by
  delta fL_ones at hf
  refine Fn.of (by decide +kernel) rfl (Nat.le_of_ble_eq_true rfl) (fun p e s m args below meth c A Q G K => ?_)
  show sw Θ p e rmL_ones s m args below meth c A Q 5 0 0 0 [(0, .long a0)] [] ([])
  refine sw_iconst 0 G (0 : Int32) dL_ones_0 rfl ?_
  refine sw_istore_n 1 G [(2, .int (0 : Int32)), (0, .long a0)] dL_ones_1 (by decide) rfl ?_
  refine sw_lload_n 2 G dL_ones_2 1 rfl ?_
  refine sw_lstore_n 3 G [(3, .long a0), (2, .int (0 : Int32)), (0, .long a0)] dL_ones_3 (by decide) rfl ?_
  obtain ⟨v1, hl, hf⟩ := bd1_some hf
  have hx4_22 : sw Θ p e rmL_ones s m args below meth c A Q 5 0 0 22 [(2, .int v1)] [] ([]) := by
    refine sw_iload_n 22 G dL_ones_22 0 rfl ?_
    cases hf
    exact sw_iret 23 G dL_ones_23 K
  refine sw_lv [(2, .int (0 : Int32)), (3, .long a0)] [1, 0] rfl ?_
  refine lp_walk (P := fun (t : Int32 × Int64) => sw Θ p e rmL_ones s m args below meth c A Q 5 0 0 4 [(2, .int t.1), (3, .long t.2)] [] ([])) hl (fun t4 y4 hf hin4 hex4 => ?_)
  obtain ⟨v2, v3⟩ := t4
  show sw Θ p e rmL_ones s m args below meth c A Q 5 0 0 4 [(2, .int v2), (3, .long v3)] [] ([])
  have hf := uc2_some (K := _) hf
  refine sw_lload_n 4 G dL_ones_4 1 rfl ?_
  refine sw_lconst 5 G (0 : Int64) dL_ones_5 rfl ?_
  refine sw_lcmp 6 G dL_ones_6 ?_
  refine sw_if_eq 7 22 G dL_ones_7 rfl hf (fun hf => ?_) (fun hf => ?_)
  · cases hf
    cases hex4 _ rfl
    exact sw_lv _ [0] rfl hx4_22
  · refine sw_iinc 10 G (v2 + (1 : Int32)) [(2, .int (v2 + (1 : Int32))), (3, .long v3)] dL_ones_10 0 rfl rfl (by decide) rfl ?_
    refine sw_lload_n 13 G dL_ones_13 1 rfl ?_
    refine sw_lload_n 14 G dL_ones_14 1 rfl ?_
    refine sw_lconst 15 G (1 : Int64) dL_ones_15 rfl ?_
    refine sw_lsub 16 G dL_ones_16 ?_
    refine sw_land 17 G dL_ones_17 ?_
    refine sw_nml hf (fun v4 hf => ?_)
    refine sw_lstore_n 18 G [(3, .long v4), (2, .int (v2 + (1 : Int32)))] dL_ones_18 (by decide) rfl ?_
    refine sw_goto 19 G 4 dL_ones_19 rfl ?_
    cases hf
    have hb := hin4 _ rfl
    exact sw_lv _ [1, 0] (by rfl) hb
theorem hvL_whole : yX5_whole.cls = RX5 ∧ yX5_whole.cls ≠ "java/lang/invoke/MethodHandle" ∧ yX5_whole.cls ≠ "java/lang/invoke/VarHandle" ∧ (parseMethodDescriptor yX5_whole.desc).map (fun d => d.parameters.length) = some 1 := by decide +kernel
theorem hvL_operation : yX5_operation.cls = RX5 ∧ yX5_operation.cls ≠ "java/lang/invoke/MethodHandle" ∧ yX5_operation.cls ≠ "java/lang/invoke/VarHandle" ∧ (parseMethodDescriptor yX5_operation.desc).map (fun d => d.parameters.length) = some 2 := by decide +kernel
theorem hvL_cellSet : yX5_cellSet.cls = RX5 ∧ yX5_cellSet.cls ≠ "java/lang/invoke/MethodHandle" ∧ yX5_cellSet.cls ≠ "java/lang/invoke/VarHandle" ∧ (parseMethodDescriptor yX5_cellSet.desc).map (fun d => d.parameters.length) = some 1 := by decide +kernel
theorem hvL_dieFault : yX5_dieFault.cls = RX5 ∧ yX5_dieFault.cls ≠ "java/lang/invoke/MethodHandle" ∧ yX5_dieFault.cls ≠ "java/lang/invoke/VarHandle" ∧ (parseMethodDescriptor yX5_dieFault.desc).map (fun d => d.parameters.length) = some 0 := by decide +kernel
theorem hvL_scrap : yX5_scrap.cls = RX5 ∧ yX5_scrap.cls ≠ "java/lang/invoke/MethodHandle" ∧ yX5_scrap.cls ≠ "java/lang/invoke/VarHandle" ∧ (parseMethodDescriptor yX5_scrap.desc).map (fun d => d.parameters.length) = some 1 := by decide +kernel
theorem hvL_fitsTwice : yX5_fitsTwice.cls = RX5 ∧ yX5_fitsTwice.cls ≠ "java/lang/invoke/MethodHandle" ∧ yX5_fitsTwice.cls ≠ "java/lang/invoke/VarHandle" ∧ (parseMethodDescriptor yX5_fitsTwice.desc).map (fun d => d.parameters.length) = some 0 := by decide +kernel
theorem hvL_station : yX5_station.cls = RX5 ∧ yX5_station.cls ≠ "java/lang/invoke/MethodHandle" ∧ yX5_station.cls ≠ "java/lang/invoke/VarHandle" ∧ (parseMethodDescriptor yX5_station.desc).map (fun d => d.parameters.length) = some 2 := by decide +kernel
theorem hvL_planFault : yX5_planFault.cls = RX5 ∧ yX5_planFault.cls ≠ "java/lang/invoke/MethodHandle" ∧ yX5_planFault.cls ≠ "java/lang/invoke/VarHandle" ∧ (parseMethodDescriptor yX5_planFault.desc).map (fun d => d.parameters.length) = some 0 := by decide +kernel
theorem hvL_planned : yX5_planned.cls = RX5 ∧ yX5_planned.cls ≠ "java/lang/invoke/MethodHandle" ∧ yX5_planned.cls ≠ "java/lang/invoke/VarHandle" ∧ (parseMethodDescriptor yX5_planned.desc).map (fun d => d.parameters.length) = some 1 := by decide +kernel
theorem hvL_pitch : yX5_pitch.cls = RX5 ∧ yX5_pitch.cls ≠ "java/lang/invoke/MethodHandle" ∧ yX5_pitch.cls ≠ "java/lang/invoke/VarHandle" ∧ (parseMethodDescriptor yX5_pitch.desc).map (fun d => d.parameters.length) = some 2 := by decide +kernel
theorem hvL_left : yX5_left.cls = RX5 ∧ yX5_left.cls ≠ "java/lang/invoke/MethodHandle" ∧ yX5_left.cls ≠ "java/lang/invoke/VarHandle" ∧ (parseMethodDescriptor yX5_left.desc).map (fun d => d.parameters.length) = some 1 := by decide +kernel
theorem hvL_strokesToGood : yX5_strokesToGood.cls = RX5 ∧ yX5_strokesToGood.cls ≠ "java/lang/invoke/MethodHandle" ∧ yX5_strokesToGood.cls ≠ "java/lang/invoke/VarHandle" ∧ (parseMethodDescriptor yX5_strokesToGood.desc).map (fun d => d.parameters.length) = some 0 := by decide +kernel
theorem hvL_stroke : yX5_stroke.cls = RX5 ∧ yX5_stroke.cls ≠ "java/lang/invoke/MethodHandle" ∧ yX5_stroke.cls ≠ "java/lang/invoke/VarHandle" ∧ (parseMethodDescriptor yX5_stroke.desc).map (fun d => d.parameters.length) = some 0 := by decide +kernel
theorem hvL_dropOperation : yX5_dropOperation.cls = RX5 ∧ yX5_dropOperation.cls ≠ "java/lang/invoke/MethodHandle" ∧ yX5_dropOperation.cls ≠ "java/lang/invoke/VarHandle" ∧ (parseMethodDescriptor yX5_dropOperation.desc).map (fun d => d.parameters.length) = some 1 := by decide +kernel
theorem hvL_setPilot : yX5_setPilot.cls = RX5 ∧ yX5_setPilot.cls ≠ "java/lang/invoke/MethodHandle" ∧ yX5_setPilot.cls ≠ "java/lang/invoke/VarHandle" ∧ (parseMethodDescriptor yX5_setPilot.desc).map (fun d => d.parameters.length) = some 2 := by decide +kernel
theorem hvL_setCarrier : yX5_setCarrier.cls = RX5 ∧ yX5_setCarrier.cls ≠ "java/lang/invoke/MethodHandle" ∧ yX5_setCarrier.cls ≠ "java/lang/invoke/VarHandle" ∧ (parseMethodDescriptor yX5_setCarrier.desc).map (fun d => d.parameters.length) = some 1 := by decide +kernel
theorem hvL_set : yX5_set.cls = RX5 ∧ yX5_set.cls ≠ "java/lang/invoke/MethodHandle" ∧ yX5_set.cls ≠ "java/lang/invoke/VarHandle" ∧ (parseMethodDescriptor yX5_set.desc).map (fun d => d.parameters.length) = some 2 := by decide +kernel
theorem hvL_mark : yX5_mark.cls = RX5 ∧ yX5_mark.cls ≠ "java/lang/invoke/MethodHandle" ∧ yX5_mark.cls ≠ "java/lang/invoke/VarHandle" ∧ (parseMethodDescriptor yX5_mark.desc).map (fun d => d.parameters.length) = some 5 := by decide +kernel
theorem hvL_addPunch : yX5_addPunch.cls = RX5 ∧ yX5_addPunch.cls ≠ "java/lang/invoke/MethodHandle" ∧ yX5_addPunch.cls ≠ "java/lang/invoke/VarHandle" ∧ (parseMethodDescriptor yX5_addPunch.desc).map (fun d => d.parameters.length) = some 4 := by decide +kernel
theorem hvL_addBend : yX5_addBend.cls = RX5 ∧ yX5_addBend.cls ≠ "java/lang/invoke/MethodHandle" ∧ yX5_addBend.cls ≠ "java/lang/invoke/VarHandle" ∧ (parseMethodDescriptor yX5_addBend.desc).map (fun d => d.parameters.length) = some 3 := by decide +kernel
theorem hvL_setStation : yX5_setStation.cls = RX5 ∧ yX5_setStation.cls ≠ "java/lang/invoke/MethodHandle" ∧ yX5_setStation.cls ≠ "java/lang/invoke/VarHandle" ∧ (parseMethodDescriptor yX5_setStation.desc).map (fun d => d.parameters.length) = some 2 := by decide +kernel
theorem hvL_usePlan : yX5_usePlan.cls = RX5 ∧ yX5_usePlan.cls ≠ "java/lang/invoke/MethodHandle" ∧ yX5_usePlan.cls ≠ "java/lang/invoke/VarHandle" ∧ (parseMethodDescriptor yX5_usePlan.desc).map (fun d => d.parameters.length) = some 0 := by decide +kernel
theorem hvL_undo : yX5_undo.cls = RX5 ∧ yX5_undo.cls ≠ "java/lang/invoke/MethodHandle" ∧ yX5_undo.cls ≠ "java/lang/invoke/VarHandle" ∧ (parseMethodDescriptor yX5_undo.desc).map (fun d => d.parameters.length) = some 0 := by decide +kernel
theorem hsL_mark : yL_mark.cls ≠ "java/lang/invoke/MethodHandle" ∧ yL_mark.cls ≠ "java/lang/invoke/VarHandle" ∧ (parseMethodDescriptor yL_mark.desc).map (fun d => d.parameters.length) = some 6 := by decide +kernel
theorem kL_mark {Θ : Tht} {KE : (Nat → Nat) × (Nat → Nat)} {ad : Nat → Nat} {F : Nat} {o_c : CSt} {a0 : Int32} {a1 : Int32} {a2 : Int32} {a3 : Int32} {a4 : Int32} {ro : Int32} {c2 : CSt} (hST : Θ.1.stackTraces = false) (hf : fL_mark F o_c a0 a1 a2 a3 a4 = some (ro, c2)) : FC Θ KE 1 6 yL_mark (Cond.codeWith yL_mark cL_mark 7 (some .int) [(0, 11, 12, 15)] :: GW) rmW [.ref (ad 0), .int a0, .int a1, .int a2, .int a3, .int a4] (wC Θ ad o_c) (some (.int ro)) (wC Θ ad c2) := by
  unfold fL_mark at hf
  split at hf
  · next r hr =>
    cases hf
    refine FC.ofH (by decide +kernel) rfl (Nat.le_of_ble_eq_true rfl) (fun p e s m args below meth c A Q G KK E ht => ?_)
    show sw Θ p e rmW s m args below meth c A Q 7 0 0 0 [(0, .ref (ad 0)), (1, .int a0), (2, .int a1), (3, .int a2), (4, .int a3), (5, .int a4)] [] (wC Θ ad o_c)
    refine sw_aload_n 0 G dL_mark_0 0 rfl ?_
    refine sw_iload_n 1 G dL_mark_1 1 rfl ?_
    refine sw_iload_n 2 G dL_mark_2 2 rfl ?_
    refine sw_iload_n 3 G dL_mark_3 3 rfl ?_
    refine sw_iload 4 G dL_mark_4 4 rfl ?_
    refine sw_iload 6 G dL_mark_6 5 rfl ?_
    refine sw_callVA 8 G E 5 dL_mark_8 (kG_mark hr) (gwV lk_c4e9aa5f lk_64583575 lk_8ed26829 lk_5f14f758 lk_dba0d6d6) rfl hvL_mark ⟨rfl, rfl⟩ ⟨Nat.le_of_ble_eq_true rfl, Nat.le_of_ble_eq_true rfl⟩ ⟨Nat.le_of_ble_eq_true rfl, Nat.le_of_ble_eq_true rfl⟩ rfl rfl (Nat.le_of_ble_eq_true rfl) 0 rfl vc5 rfl ?_
    exact sw_iretC 11 G dL_mark_11 KK (by decide) (by decide)
  · obtain ⟨c3, hr, hf⟩ := bd1_some hf
    cases hf
    refine FC.ofH (by decide +kernel) rfl (Nat.le_of_ble_eq_true rfl) (fun p e s m args below meth c A Q G KK E ht => ?_)
    show sw Θ p e rmW s m args below meth c A Q 7 0 0 0 [(0, .ref (ad 0)), (1, .int a0), (2, .int a1), (3, .int a2), (4, .int a3), (5, .int a4)] [] (wC Θ ad o_c)
    refine sw_aload_n 0 G dL_mark_0 0 rfl ?_
    refine sw_iload_n 1 G dL_mark_1 1 rfl ?_
    refine sw_iload_n 2 G dL_mark_2 2 rfl ?_
    refine sw_iload_n 3 G dL_mark_3 3 rfl ?_
    refine sw_iload 4 G dL_mark_4 4 rfl ?_
    refine sw_iload 6 G dL_mark_6 5 rfl ?_
    refine sw_callVX 8 G E (name := eIA) 5 dL_mark_8 (kGx_mark hST hr) (gwV lk_c4e9aa5f lk_64583575 lk_8ed26829 lk_5f14f758 lk_dba0d6d6) rfl hvL_mark ⟨rfl, rfl⟩ ⟨Nat.le_of_ble_eq_true rfl, Nat.le_of_ble_eq_true rfl⟩ ⟨Nat.le_of_ble_eq_true rfl, Nat.le_of_ble_eq_true rfl⟩ rfl rfl (Nat.le_of_ble_eq_true rfl) 0 rfl vc5 rfl [] (exn 0 12 15 11) [] (ht.trans rfl) (fun z hz => absurd hz List.not_mem_nil) (by decide) (by decide) (G.2.2.2.2.1 _ (List.mem_cons_of_mem _ lk_d94bbf8c)) (ev_cast E evA_in) (fun q9 => ?_)
    refine sw_astore 12 G _ dL_mark_12 (by decide) rfl ?_
    refine sw_bipush 14 G (-2 : Int32) dL_mark_14 rfl ?_
    exact sw_iretC 16 G dL_mark_16 KK (by decide) (by decide)
theorem hsL_punch : yL_punch.cls ≠ "java/lang/invoke/MethodHandle" ∧ yL_punch.cls ≠ "java/lang/invoke/VarHandle" ∧ (parseMethodDescriptor yL_punch.desc).map (fun d => d.parameters.length) = some 5 := by decide +kernel
theorem kL_punch {Θ : Tht} {KE : (Nat → Nat) × (Nat → Nat)} {ad : Nat → Nat} {F : Nat} {o_c : CSt} {a0 : Int32} {a1 : Int32} {a2 : Int32} {a3 : Int32} {ro : Int32} {c2 : CSt} (hST : Θ.1.stackTraces = false) (hf : fL_punch F o_c a0 a1 a2 a3 = some (ro, c2)) : FC Θ KE 1 6 yL_punch (Cond.codeWith yL_punch cL_punch 6 (some .int) [(0, 9, 10, 15), (0, 9, 15, 21)] :: GW) rmW [.ref (ad 0), .int a0, .int a1, .int a2, .int a3] (wC Θ ad o_c) (some (.int ro)) (wC Θ ad c2) := by
  unfold fL_punch at hf
  split at hf
  · next r hr =>
    cases hf
    refine FC.ofH (by decide +kernel) rfl (Nat.le_of_ble_eq_true rfl) (fun p e s m args below meth c A Q G KK E ht => ?_)
    show sw Θ p e rmW s m args below meth c A Q 6 0 0 0 [(0, .ref (ad 0)), (1, .int a0), (2, .int a1), (3, .int a2), (4, .int a3)] [] (wC Θ ad o_c)
    refine sw_aload_n 0 G dL_punch_0 0 rfl ?_
    refine sw_iload_n 1 G dL_punch_1 1 rfl ?_
    refine sw_iload_n 2 G dL_punch_2 2 rfl ?_
    refine sw_iload_n 3 G dL_punch_3 3 rfl ?_
    refine sw_iload 4 G dL_punch_4 4 rfl ?_
    refine sw_callVA 6 G E 4 dL_punch_6 (kG_addPunch hr) (gwV lk_bb95f562 lk_dd6a62aa lk_80ed0630 lk_5f14f758 lk_477a5b19) rfl hvL_addPunch ⟨rfl, rfl⟩ ⟨Nat.le_of_ble_eq_true rfl, Nat.le_of_ble_eq_true rfl⟩ ⟨Nat.le_of_ble_eq_true rfl, Nat.le_of_ble_eq_true rfl⟩ rfl rfl (Nat.le_of_ble_eq_true rfl) 0 rfl vc5 rfl ?_
    exact sw_iretC 9 G dL_punch_9 KK (by decide) (by decide)
  · obtain ⟨c3, hr, hf⟩ := bd1_some hf
    cases hf
    refine FC.ofH (by decide +kernel) rfl (Nat.le_of_ble_eq_true rfl) (fun p e s m args below meth c A Q G KK E ht => ?_)
    show sw Θ p e rmW s m args below meth c A Q 6 0 0 0 [(0, .ref (ad 0)), (1, .int a0), (2, .int a1), (3, .int a2), (4, .int a3)] [] (wC Θ ad o_c)
    refine sw_aload_n 0 G dL_punch_0 0 rfl ?_
    refine sw_iload_n 1 G dL_punch_1 1 rfl ?_
    refine sw_iload_n 2 G dL_punch_2 2 rfl ?_
    refine sw_iload_n 3 G dL_punch_3 3 rfl ?_
    refine sw_iload 4 G dL_punch_4 4 rfl ?_
    refine sw_callVX 6 G E (name := eIS) 4 dL_punch_6 (kGx_addPunch hST hr) (gwV lk_bb95f562 lk_dd6a62aa lk_80ed0630 lk_5f14f758 lk_477a5b19) rfl hvL_addPunch ⟨rfl, rfl⟩ ⟨Nat.le_of_ble_eq_true rfl, Nat.le_of_ble_eq_true rfl⟩ ⟨Nat.le_of_ble_eq_true rfl, Nat.le_of_ble_eq_true rfl⟩ rfl rfl (Nat.le_of_ble_eq_true rfl) 0 rfl vc5 rfl [exn 0 10 15 9] (exn 0 15 21 9) [] (ht.trans rfl) (fun z hz => by rw [List.mem_singleton.mp hz]; exact Or.inr ⟨by decide, eIA, G.2.2.2.2.1 _ (List.mem_cons_of_mem _ lk_d94bbf8c), E.2.2.2.2.2.2.2.2.1⟩) (by decide) (by decide) (G.2.2.2.2.1 _ (List.mem_cons_of_mem _ lk_a2c8ec38)) (ev_cast E evS_in) (fun q9 => ?_)
    refine sw_astore 15 G _ dL_punch_15 (by decide) rfl ?_
    refine sw_bipush 17 G (-3 : Int32) dL_punch_17 rfl ?_
    exact sw_iretC 19 G dL_punch_19 KK (by decide) (by decide)
theorem hsL_bend : yL_bend.cls ≠ "java/lang/invoke/MethodHandle" ∧ yL_bend.cls ≠ "java/lang/invoke/VarHandle" ∧ (parseMethodDescriptor yL_bend.desc).map (fun d => d.parameters.length) = some 4 := by decide +kernel
theorem kL_bend {Θ : Tht} {KE : (Nat → Nat) × (Nat → Nat)} {ad : Nat → Nat} {F : Nat} {o_c : CSt} {a0 : Int32} {a1 : Int32} {a2 : Int32} {ro : Int32} {c2 : CSt} (hST : Θ.1.stackTraces = false) (hf : fL_bend F o_c a0 a1 a2 = some (ro, c2)) : FC Θ KE 1 6 yL_bend (Cond.codeWith yL_bend cL_bend 5 (some .int) [(0, 7, 8, 15), (0, 7, 13, 21)] :: GW) rmW [.ref (ad 0), .int a0, .int a1, .int a2] (wC Θ ad o_c) (some (.int ro)) (wC Θ ad c2) := by
  unfold fL_bend at hf
  split at hf
  · next r hr =>
    cases hf
    refine FC.ofH (by decide +kernel) rfl (Nat.le_of_ble_eq_true rfl) (fun p e s m args below meth c A Q G KK E ht => ?_)
    show sw Θ p e rmW s m args below meth c A Q 5 0 0 0 [(0, .ref (ad 0)), (1, .int a0), (2, .int a1), (3, .int a2)] [] (wC Θ ad o_c)
    refine sw_aload_n 0 G dL_bend_0 0 rfl ?_
    refine sw_iload_n 1 G dL_bend_1 1 rfl ?_
    refine sw_iload_n 2 G dL_bend_2 2 rfl ?_
    refine sw_iload_n 3 G dL_bend_3 3 rfl ?_
    refine sw_callVA 4 G E 3 dL_bend_4 (kG_addBend hr) (gwV lk_bd9bac0f lk_112a04e2 lk_6450d612 lk_5f14f758 lk_8a5534ad) rfl hvL_addBend ⟨rfl, rfl⟩ ⟨Nat.le_of_ble_eq_true rfl, Nat.le_of_ble_eq_true rfl⟩ ⟨Nat.le_of_ble_eq_true rfl, Nat.le_of_ble_eq_true rfl⟩ rfl rfl (Nat.le_of_ble_eq_true rfl) 0 rfl vc5 rfl ?_
    exact sw_iretC 7 G dL_bend_7 KK (by decide) (by decide)
  · obtain ⟨c3, hr, hf⟩ := bd1_some hf
    cases hf
    refine FC.ofH (by decide +kernel) rfl (Nat.le_of_ble_eq_true rfl) (fun p e s m args below meth c A Q G KK E ht => ?_)
    show sw Θ p e rmW s m args below meth c A Q 5 0 0 0 [(0, .ref (ad 0)), (1, .int a0), (2, .int a1), (3, .int a2)] [] (wC Θ ad o_c)
    refine sw_aload_n 0 G dL_bend_0 0 rfl ?_
    refine sw_iload_n 1 G dL_bend_1 1 rfl ?_
    refine sw_iload_n 2 G dL_bend_2 2 rfl ?_
    refine sw_iload_n 3 G dL_bend_3 3 rfl ?_
    refine sw_callVX 4 G E (name := eIS) 3 dL_bend_4 (kGx_addBend hST hr) (gwV lk_bd9bac0f lk_112a04e2 lk_6450d612 lk_5f14f758 lk_8a5534ad) rfl hvL_addBend ⟨rfl, rfl⟩ ⟨Nat.le_of_ble_eq_true rfl, Nat.le_of_ble_eq_true rfl⟩ ⟨Nat.le_of_ble_eq_true rfl, Nat.le_of_ble_eq_true rfl⟩ rfl rfl (Nat.le_of_ble_eq_true rfl) 0 rfl vc5 rfl [exn 0 8 15 7] (exn 0 13 21 7) [] (ht.trans rfl) (fun z hz => by rw [List.mem_singleton.mp hz]; exact Or.inr ⟨by decide, eIA, G.2.2.2.2.1 _ (List.mem_cons_of_mem _ lk_d94bbf8c), E.2.2.2.2.2.2.2.2.1⟩) (by decide) (by decide) (G.2.2.2.2.1 _ (List.mem_cons_of_mem _ lk_a2c8ec38)) (ev_cast E evS_in) (fun q9 => ?_)
    refine sw_astore 13 G _ dL_bend_13 (by decide) rfl ?_
    refine sw_bipush 15 G (-3 : Int32) dL_bend_15 rfl ?_
    exact sw_iretC 17 G dL_bend_17 KK (by decide) (by decide)
theorem hsL_place : yL_place.cls ≠ "java/lang/invoke/MethodHandle" ∧ yL_place.cls ≠ "java/lang/invoke/VarHandle" ∧ (parseMethodDescriptor yL_place.desc).map (fun d => d.parameters.length) = some 3 := by decide +kernel
theorem kL_place {Θ : Tht} {KE : (Nat → Nat) × (Nat → Nat)} {ad : Nat → Nat} {F : Nat} {o_c : CSt} {a0 : Int32} {a1 : Int32} {ro : Int32} {c2 : CSt} (hST : Θ.1.stackTraces = false) (hf : fL_place F o_c a0 a1 = some (ro, c2)) : FC Θ KE 1 6 yL_place (Cond.codeWith yL_place cL_place 4 (some .int) [(0, 6, 7, 31), (0, 6, 11, 15)] :: GW) rmW [.ref (ad 0), .int a0, .int a1] (wC Θ ad o_c) (some (.int ro)) (wC Θ ad c2) := by
  unfold fL_place at hf
  split at hf
  · next r hr =>
    cases hf
    refine FC.ofH (by decide +kernel) rfl (Nat.le_of_ble_eq_true rfl) (fun p e s m args below meth c A Q G KK E ht => ?_)
    show sw Θ p e rmW s m args below meth c A Q 4 0 0 0 [(0, .ref (ad 0)), (1, .int a0), (2, .int a1)] [] (wC Θ ad o_c)
    refine sw_aload_n 0 G dL_place_0 0 rfl ?_
    refine sw_iload_n 1 G dL_place_1 1 rfl ?_
    refine sw_iload_n 2 G dL_place_2 2 rfl ?_
    refine sw_callVA 3 G E 2 dL_place_3 (kG_setStation hr) (gwV lk_94df5269 lk_0816f013 lk_5853afe0 lk_5f14f758 lk_ed57f710) rfl hvL_setStation ⟨rfl, rfl⟩ ⟨Nat.le_of_ble_eq_true rfl, Nat.le_of_ble_eq_true rfl⟩ ⟨Nat.le_of_ble_eq_true rfl, Nat.le_of_ble_eq_true rfl⟩ rfl rfl (Nat.le_of_ble_eq_true rfl) 0 rfl vc5 rfl ?_
    exact sw_iretC 6 G dL_place_6 KK (by decide) (by decide)
  · obtain ⟨c3, hr, hf⟩ := bd1_some hf
    cases hf
    refine FC.ofH (by decide +kernel) rfl (Nat.le_of_ble_eq_true rfl) (fun p e s m args below meth c A Q G KK E ht => ?_)
    show sw Θ p e rmW s m args below meth c A Q 4 0 0 0 [(0, .ref (ad 0)), (1, .int a0), (2, .int a1)] [] (wC Θ ad o_c)
    refine sw_aload_n 0 G dL_place_0 0 rfl ?_
    refine sw_iload_n 1 G dL_place_1 1 rfl ?_
    refine sw_iload_n 2 G dL_place_2 2 rfl ?_
    refine sw_callVX 3 G E (name := eIB) 2 dL_place_3 (kGx_setStation hST hr) (gwV lk_94df5269 lk_0816f013 lk_5853afe0 lk_5f14f758 lk_ed57f710) rfl hvL_setStation ⟨rfl, rfl⟩ ⟨Nat.le_of_ble_eq_true rfl, Nat.le_of_ble_eq_true rfl⟩ ⟨Nat.le_of_ble_eq_true rfl, Nat.le_of_ble_eq_true rfl⟩ rfl rfl (Nat.le_of_ble_eq_true rfl) 0 rfl vc5 rfl [] (exn 0 7 31 6) [exn 0 11 15 6] (ht.trans rfl) (fun z hz => absurd hz List.not_mem_nil) (by decide) (by decide) (G.2.2.2.2.1 _ (List.mem_cons_of_mem _ lk_75db54d9)) (ev_cast E evBB_in) (fun q9 => ?_)
    refine sw_astore_n 7 G _ dL_place_7 (by decide) rfl ?_
    refine sw_bipush 8 G (-4 : Int32) dL_place_8 rfl ?_
    exact sw_iretC 10 G dL_place_10 KK (by decide) (by decide)
theorem hsL_usePlan : yL_usePlan.cls ≠ "java/lang/invoke/MethodHandle" ∧ yL_usePlan.cls ≠ "java/lang/invoke/VarHandle" ∧ (parseMethodDescriptor yL_usePlan.desc).map (fun d => d.parameters.length) = some 1 := by decide +kernel
theorem kL_usePlan {Θ : Tht} {KE : (Nat → Nat) × (Nat → Nat)} {ad : Nat → Nat} {F : Nat} {o_c : CSt} {ro : Int32} {c2 : CSt} (hST : Θ.1.stackTraces = false) (hf : fL_usePlan F o_c = some (ro, c2)) : FC Θ KE 1 6 yL_usePlan (Cond.codeWith yL_usePlan cL_usePlan 2 (some .int) [(0, 4, 5, 21)] :: GW) rmW [.ref (ad 0)] (wC Θ ad o_c) (some (.int ro)) (wC Θ ad c2) := by
  unfold fL_usePlan at hf
  split at hf
  · next r hr =>
    cases hf
    refine FC.ofH (by decide +kernel) rfl (Nat.le_of_ble_eq_true rfl) (fun p e s m args below meth c A Q G KK E ht => ?_)
    show sw Θ p e rmW s m args below meth c A Q 2 0 0 0 [(0, .ref (ad 0))] [] (wC Θ ad o_c)
    refine sw_aload_n 0 G dL_usePlan_0 0 rfl ?_
    refine sw_callVA 1 G E 0 dL_usePlan_1 (kG_usePlan hr) (gwV lk_ea5acfc1 lk_16b02793 lk_f1ea793d lk_5f14f758 lk_2c765084) rfl hvL_usePlan ⟨rfl, rfl⟩ ⟨Nat.le_of_ble_eq_true rfl, Nat.le_of_ble_eq_true rfl⟩ ⟨Nat.le_of_ble_eq_true rfl, Nat.le_of_ble_eq_true rfl⟩ rfl rfl (Nat.le_of_ble_eq_true rfl) 0 rfl vc5 rfl ?_
    exact sw_iretC 4 G dL_usePlan_4 KK (by decide) (by decide)
  · obtain ⟨c3, hr, hf⟩ := bd1_some hf
    cases hf
    refine FC.ofH (by decide +kernel) rfl (Nat.le_of_ble_eq_true rfl) (fun p e s m args below meth c A Q G KK E ht => ?_)
    show sw Θ p e rmW s m args below meth c A Q 2 0 0 0 [(0, .ref (ad 0))] [] (wC Θ ad o_c)
    refine sw_aload_n 0 G dL_usePlan_0 0 rfl ?_
    refine sw_callVX 1 G E (name := eIS) 0 dL_usePlan_1 (kGx_usePlan hST hr) (gwV lk_ea5acfc1 lk_16b02793 lk_f1ea793d lk_5f14f758 lk_2c765084) rfl hvL_usePlan ⟨rfl, rfl⟩ ⟨Nat.le_of_ble_eq_true rfl, Nat.le_of_ble_eq_true rfl⟩ ⟨Nat.le_of_ble_eq_true rfl, Nat.le_of_ble_eq_true rfl⟩ rfl rfl (Nat.le_of_ble_eq_true rfl) 0 rfl vc5 rfl [] (exn 0 5 21 4) [] (ht.trans rfl) (fun z hz => absurd hz List.not_mem_nil) (by decide) (by decide) (G.2.2.2.2.1 _ (List.mem_cons_of_mem _ lk_a2c8ec38)) (ev_cast E evS_in) (fun q9 => ?_)
    refine sw_astore_n 5 G _ dL_usePlan_5 (by decide) rfl ?_
    refine sw_bipush 6 G (-3 : Int32) dL_usePlan_6 rfl ?_
    exact sw_iretC 8 G dL_usePlan_8 KK (by decide) (by decide)
theorem hsL_undo : yL_undo.cls ≠ "java/lang/invoke/MethodHandle" ∧ yL_undo.cls ≠ "java/lang/invoke/VarHandle" ∧ (parseMethodDescriptor yL_undo.desc).map (fun d => d.parameters.length) = some 1 := by decide +kernel
theorem kL_undo {Θ : Tht} {KE : (Nat → Nat) × (Nat → Nat)} {ad : Nat → Nat} {F : Nat} {o_c : CSt} {ro : Int32} {c2 : CSt} (hST : Θ.1.stackTraces = false) (hf : fL_undo F o_c = some (ro, c2)) : FC Θ KE 1 6 yL_undo (Cond.codeWith yL_undo cL_undo 2 (some .int) [(0, 4, 5, 21)] :: GW) rmW [.ref (ad 0)] (wC Θ ad o_c) (some (.int ro)) (wC Θ ad c2) := by
  unfold fL_undo at hf
  split at hf
  · next r hr =>
    cases hf
    refine FC.ofH (by decide +kernel) rfl (Nat.le_of_ble_eq_true rfl) (fun p e s m args below meth c A Q G KK E ht => ?_)
    show sw Θ p e rmW s m args below meth c A Q 2 0 0 0 [(0, .ref (ad 0))] [] (wC Θ ad o_c)
    refine sw_aload_n 0 G dL_undo_0 0 rfl ?_
    refine sw_callVA 1 G E 0 dL_undo_1 (kG_undo hr) (gwV lk_900c9f4e lk_3a1ef0a1 lk_9dfc2243 lk_5f14f758 lk_3aafc518) rfl hvL_undo ⟨rfl, rfl⟩ ⟨Nat.le_of_ble_eq_true rfl, Nat.le_of_ble_eq_true rfl⟩ ⟨Nat.le_of_ble_eq_true rfl, Nat.le_of_ble_eq_true rfl⟩ rfl rfl (Nat.le_of_ble_eq_true rfl) 0 rfl vc5 rfl ?_
    exact sw_iretC 4 G dL_undo_4 KK (by decide) (by decide)
  · obtain ⟨c3, hr, hf⟩ := bd1_some hf
    cases hf
    refine FC.ofH (by decide +kernel) rfl (Nat.le_of_ble_eq_true rfl) (fun p e s m args below meth c A Q G KK E ht => ?_)
    show sw Θ p e rmW s m args below meth c A Q 2 0 0 0 [(0, .ref (ad 0))] [] (wC Θ ad o_c)
    refine sw_aload_n 0 G dL_undo_0 0 rfl ?_
    refine sw_callVX 1 G E (name := eIS) 0 dL_undo_1 (kGx_undo hST hr) (gwV lk_900c9f4e lk_3a1ef0a1 lk_9dfc2243 lk_5f14f758 lk_3aafc518) rfl hvL_undo ⟨rfl, rfl⟩ ⟨Nat.le_of_ble_eq_true rfl, Nat.le_of_ble_eq_true rfl⟩ ⟨Nat.le_of_ble_eq_true rfl, Nat.le_of_ble_eq_true rfl⟩ rfl rfl (Nat.le_of_ble_eq_true rfl) 0 rfl vc5 rfl [] (exn 0 5 21 4) [] (ht.trans rfl) (fun z hz => absurd hz List.not_mem_nil) (by decide) (by decide) (G.2.2.2.2.1 _ (List.mem_cons_of_mem _ lk_a2c8ec38)) (ev_cast E evS_in) (fun q9 => ?_)
    refine sw_astore_n 5 G _ dL_undo_5 (by decide) rfl ?_
    refine sw_bipush 6 G (-3 : Int32) dL_undo_6 rfl ?_
    exact sw_iretC 8 G dL_undo_8 KK (by decide) (by decide)
