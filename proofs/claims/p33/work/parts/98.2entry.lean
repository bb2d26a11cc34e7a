/-! what stands at the law's entry -/
def nar : List Cond := flatC (Jvm.Cond.and given_1 narrow_1)
abbrev AE (s : State) : Nat → Prop := fun q => s.heap.size ≤ q
theorem AE_no {s : State} : ∀ a : Nat, a < s.heap.size → ¬ AE s a := fun a h h2 => by
  have h2 : s.heap.size ≤ a := h2
  omega
theorem va_T.ext {ty : FieldType} {t N : Nat} {f g : Nat → Value} {A : Nat → Prop} {U : State} {H : Heap} (h : va_T ty t N f A U H) (e : ∀ j, j < N → f j = g j) : va_T ty t N g A U H := by
  obtain ⟨cell, h1, h2, h3, h4, h5, h6, h7⟩ := h
  exact ⟨cell, h1, h2, h3, h4, h5, fun j hj => by rw [← e j hj]; exact h6 j hj, h7⟩
section ENT
variable {args : Array Value} {s : State}
theorem th_at (hts : ∀ w ∈ lw_tbl, w.before args s = true) {c5 : ClassId} (h5 : s.vm.findClass RX5 = some c5) : ∀ q ∈ thL, ∃ sa, vk_R RX5 q.1 q.2 sa s := by
  have hin : ∀ q ∈ thL, Cond.stringRef RX5 q.1 q.2 ∈ lw_tbl := by decide +kernel
  intro q hq
  have h := hts _ (hin q hq)
  obtain ⟨_, _, _, a, _, _, _, _, _, he⟩ := Cond.stringRef_spec (args := args) (first := s) (o := none) (s := s) (idx := []) h5 h
  exact ⟨a, vk_R.of h he⟩
theorem prim_K {ty : FieldType} (h : (Cond.arrayClass ty).before args s = true) (hp : ∀ cA : ClassId, s.vm.findClass ("[" ++ ty.toString) = some cA → va_RA s cA ty) : ∃ cA, ArrOfT s cA ty ∧ va_RA s cA ty := by
  obtain ⟨cA, k, comp, h1, h2, h3⟩ := Cond.arrayClass_spec (args := args) (first := s) (o := none) (s := s) (idx := []) h
  exact ⟨cA, fun N z => ⟨(fun k h => by cases h), k, h2, comp, h3⟩, hp cA h1⟩
theorem entry_K (hts : ∀ w ∈ lw_tbl, w.before args s = true) (l : Launch) : ∃ (D : va_G) (tC : Nat → ClassId), va_K D vwCl (tyw (l, D, tC)) s := by
  obtain ⟨c0, i0, k0⟩ := u_known hts (fun w hw => GW_tbl (gnX0 w hw)) (hts (Cond.instantiable RX0 5) (List.mem_of_getElem? (i := 172) (by decide +kernel)))
  obtain ⟨c1, i1, k1⟩ := u_known hts (fun w hw => GW_tbl (gnX1 w hw)) (hts (Cond.instantiable RX1 10) (List.mem_of_getElem? (i := 48) (by decide +kernel)))
  obtain ⟨c2, i2, k2⟩ := u_known hts (fun w hw => GW_tbl (gnX2 w hw)) (hts (Cond.instantiable RX2 8) (List.mem_of_getElem? (i := 141) (by decide +kernel)))
  obtain ⟨c3, i3, k3⟩ := u_known hts (fun w hw => GW_tbl (gnX3 w hw)) (hts (Cond.instantiable RX3 9) (List.mem_of_getElem? (i := 94) (by decide +kernel)))
  obtain ⟨c4, i4, k4⟩ := u_known hts (fun w hw => GW_tbl (gnX4 w hw)) (hts (Cond.instantiable RX4 2) (List.mem_of_getElem? (i := 42) (by decide +kernel)))
  obtain ⟨c5, i5, k5⟩ := u_known hts (fun w hw => GW_tbl (gnX5 w hw)) (hts (Cond.instantiable RX5 7) (List.mem_of_getElem? (i := 34) (by decide +kernel)))
  obtain ⟨t0, a0, r0⟩ := prim_K (hts (Cond.arrayClass .byte) (List.mem_of_getElem? (i := 191) (by decide +kernel))) (fun cA h => h)
  obtain ⟨t1, a1, r1⟩ := prim_K (hts (Cond.arrayClass .int) (List.mem_of_getElem? (i := 91) (by decide +kernel))) (fun cA h => h)
  obtain ⟨t2, a2, r2⟩ := prim_K (hts (Cond.arrayClass .long) (List.mem_of_getElem? (i := 92) (by decide +kernel))) (fun cA h => h)
  obtain ⟨comp, t3, kA, h1, h2, h3, h4, h5⟩ := Cond.arrayOver_spec (args := args) (first := s) (o := none) (s := s) (idx := []) (hts (Cond.arrayOver (.object sSt)) (List.mem_of_getElem? (i := 137) (by decide +kernel)))
  refine ⟨(fun c => [c0, c1, c2, c3, c4, c5].getD c 0, fun c => [i0, i1, i2, i3, i4, i5].getD c i0), fun t => [t0, t1, t2, t3].getD t 0, fun c q hq => ?_, fun k q hk => ?_⟩
  · have hc : c < 6 := (List.getElem?_eq_some_iff.mp hq).1
    rcases (show c = 0 ∨ c = 1 ∨ c = 2 ∨ c = 3 ∨ c = 4 ∨ c = 5 by omega) with rfl | rfl | rfl | rfl | rfl | rfl <;> cases hq
    · exact k0
    · exact k1
    · exact k2
    · exact k3
    · exact k4
    · exact k5
  · have hc : k < 4 := (List.getElem?_eq_some_iff.mp hk).1
    rcases (show k = 0 ∨ k = 1 ∨ k = 2 ∨ k = 3 by omega) with rfl | rfl | rfl | rfl <;> cases hk
    · exact ⟨a0, r0⟩
    · exact ⟨a1, r1⟩
    · exact ⟨a2, r2⟩
    · exact ⟨fun N z => ⟨(fun k h => by cases h), kA, h3, comp, h4⟩, kA, comp, h3, h4, h1, h5⟩
theorem entry_E (hts : ∀ w ∈ lw_tbl, w.before args s = true) (hn : ∀ w ∈ nar, w.before args s = true) {c5 : ClassId} (h5 : s.vm.findClass RX5 = some c5) : ∃ K : (Nat → Nat) × (Nat → Nat), Ev K (AE s) s s.heap := by
  refine ⟨(fun _ => 0, fun _ => 0), trivial, trivial, ?_, ?_, trivial, trivial, th_at hts h5, ?_, ?_, ?_⟩
  · exact vx_Zqof (hts (Cond.laysStatic "java/lang/Throwable" "UNASSIGNED_STACK" "[Ljava/lang/StackTraceElement;") (List.mem_of_getElem? (i := 248) (by decide +kernel))) (hts (Cond.initialized "java/lang/Throwable") (List.mem_of_getElem? (i := 24) (by decide +kernel))) (hn (Cond.isRef (Term.static "java/lang/Throwable" "UNASSIGNED_STACK" "[Ljava/lang/StackTraceElement;")) (List.mem_of_getElem? (i := 4) (by decide +kernel))) AE_no
  · exact vx_Zqof (hts (Cond.laysStatic "java/lang/Throwable" "SUPPRESSED_SENTINEL" "Ljava/util/List;") (List.mem_of_getElem? (i := 250) (by decide +kernel))) (hts (Cond.initialized "java/lang/Throwable") (List.mem_of_getElem? (i := 24) (by decide +kernel))) (hn (Cond.isRef (Term.static "java/lang/Throwable" "SUPPRESSED_SENTINEL" "Ljava/util/List;")) (List.mem_of_getElem? (i := 5) (by decide +kernel))) AE_no
  · exact fun w hw => va_Nw.of (evB_tab hw) (hts w ((by decide +kernel : ∀ w ∈ evB, w ∈ lw_tbl) w hw))
  · exact va_Nc.of (hn (Cond.not (.castable eIS eIA)) (List.mem_of_getElem? (i := 13) (by decide +kernel)))
  · exact va_Nc.of (hn (Cond.not (.castable eIA eIB)) (List.mem_of_getElem? (i := 28) (by decide +kernel)))
theorem entry_N (hts : ∀ w ∈ lw_tbl, w.before args s = true) : nwOK s := by
  have hin : ∀ q ∈ nwL, Cond.methodLinkNest q.1 q.2.1 q.2.2.1 q.2.2.2 ∈ lw_tbl := by decide +kernel
  exact fun q hq => va_Nw.of rfl (hts _ (hin q hq))
theorem entry_AO (hts : ∀ w ∈ lw_tbl, w.before args s = true) : va_AO sSt s := va_AO.of (hts (Cond.arrayOver (.object sSt)) (List.mem_of_getElem? (i := 137) (by decide +kernel)))
end ENT
