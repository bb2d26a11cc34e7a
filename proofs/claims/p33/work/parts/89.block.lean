/-! calls by blocks: worlds in another order -/
theorem va_P_mem {D : va_G} {cl : List vw_C} {ws : va_W} {H : Heap} : va_P D cl ws H ↔ ∀ q ∈ ws, va_at D cl q H := ⟨fun h q hq => by
  obtain ⟨k, hk⟩ := List.getElem?_of_mem hq
  exact h k q hk, fun h k q hk => h q (List.mem_of_getElem? hk)⟩
theorem va_P_perm {D : va_G} {cl : List vw_C} {ws ws' : va_W} {H : Heap} (hp : ws.Perm ws') (h : va_P D cl ws H) : va_P D cl ws' H := va_P_mem.mpr fun q hq => va_P_mem.mp h q (hp.mem_iff.mpr hq)
theorem va_A_perm {ws ws' : va_W} (hp : ws.Perm ws') {sz q : Nat} (h : va_A ws sz q) : va_A ws' sz q := by
  rcases h with ⟨k, e, hk⟩ | h
  · obtain ⟨j, hj⟩ := List.getElem?_of_mem (hp.mem_iff.mp (List.mem_of_getElem? hk))
    exact Or.inl ⟨j, e, hj⟩
  · exact Or.inr h
theorem va_D_nd {A : Nat → Prop} {ws : va_W} : va_D A ws ↔ (ws.map Prod.fst).Nodup ∧ ∀ q ∈ ws, A q.1 := by
  constructor
  · intro h
    refine ⟨?_, fun q hq => ?_⟩
    · rw [List.Nodup, List.pairwise_iff_getElem]
      intro i j hi hj hij e
      rw [List.length_map] at hi hj
      rw [List.getElem_map, List.getElem_map] at e
      have := h.1 i j _ _ (List.getElem?_eq_getElem hi) (List.getElem?_eq_getElem hj) e
      omega
    · obtain ⟨k, hk⟩ := List.getElem?_of_mem hq
      exact h.2 k q hk
  · intro h
    refine ⟨fun i j p q hi hj e => ?_, fun k q hk => h.2 q (List.mem_of_getElem? hk)⟩
    have hi' := (List.getElem?_eq_some_iff.mp hi)
    have hj' := (List.getElem?_eq_some_iff.mp hj)
    obtain ⟨hi1, hi2⟩ := hi'
    obtain ⟨hj1, hj2⟩ := hj'
    have nd := h.1
    rw [List.Nodup, List.pairwise_iff_getElem] at nd
    rcases Nat.lt_trichotomy i j with z | z | z
    · exact absurd (by rw [List.getElem_map, List.getElem_map, hi2, hj2]; exact e) (nd i j (by rw [List.length_map]; exact hi1) (by rw [List.length_map]; exact hj1) z)
    · exact z
    · exact absurd (by rw [List.getElem_map, List.getElem_map, hi2, hj2]; exact e.symm) (nd j i (by rw [List.length_map]; exact hj1) (by rw [List.length_map]; exact hi1) z)
theorem va_D_perm {A : Nat → Prop} {ws ws' : va_W} (hp : ws.Perm ws') (h : va_D A ws) : va_D A ws' := by
  rw [va_D_nd] at h ⊢
  exact ⟨(hp.map Prod.fst).nodup_iff.mp h.1, fun q hq => h.2 q (hp.mem_iff.mpr hq)⟩
theorem Fn.eqv {Θ : Tht} {y : MethodName} {wsY : List Cond} {rm : Room} {as : List Value} {w0 w1 ws ws2 : va_W} {o : Option Value} (hp : ws.Perm w0) (hp1 : w1.Perm ws2) (h : Fn Θ y wsY rm as w0 o w1) : Fn Θ y wsY rm as ws o ws2 := by
  intro sz p e hl hc hk s m args below hf hS hP hK
  obtain ⟨ha, hsz, hP, hKt, hD, hN⟩ := hP
  obtain ⟨n, oc, h1, h2, h3, ⟨q1, q2, q3, q4⟩, L, h5, h6⟩ := h sz p e hl hc hk s m args below hf hS ⟨ha, hsz, va_P_perm hp hP, hKt, va_D_perm hp hD, hN⟩ hK
  have hA : ∀ q, va_A w0 sz q → va_A ws sz q := fun q hq => va_A_perm hp.symm hq
  have hD1 := va_D_perm hp1 q3
  exact ⟨n, oc, h1, h2, h3, ⟨q1, va_P_perm hp1 q2, ⟨hD1.1, fun k q hq => hA _ (hD1.2 k q hq)⟩, q4.1, fun q a b => q4.2 q a (fun z => b (hA q z))⟩, L, h5, fun q hq => hA _ (h6 q hq)⟩
theorem FC.eqv {Θ : Tht} {K : (Nat → Nat) × (Nat → Nat)} {mc ms : Nat} {y : MethodName} {wsY : List Cond} {rm : Room} {as : List Value} {w0 w1 ws ws2 : va_W} {o : Option Value} (hp : ws.Perm w0) (hp1 : w1.Perm ws2) (h : FC Θ K mc ms y wsY rm as w0 o w1) : FC Θ K mc ms y wsY rm as ws o ws2 := by
  intro sz p e hl hc hk s m args below hf hS hP hK
  obtain ⟨ha, ⟨hsz, hP, hKt, hD, hN⟩, hE⟩ := hP
  have hA : ∀ q, va_A w0 sz q → va_A ws sz q := fun q hq => va_A_perm hp.symm hq
  obtain ⟨n, oc, h1, h2, h3, ⟨q1, q2, q3, q4⟩, L, h5, h6⟩ := h sz p e hl hc hk s m args below hf hS ⟨ha, ⟨hsz, va_P_perm hp hP, hKt, va_D_perm hp hD, hN⟩, hE.narrow hA⟩ hK
  have hD1 := va_D_perm hp1 q3
  exact ⟨n, oc, h1, h2, h3, ⟨q1, va_P_perm hp1 q2, ⟨hD1.1, fun k q hq => hA _ (hD1.2 k q hq)⟩, q4.1, fun q a b => q4.2 q a (fun z => b (hA q z))⟩, L, h5, fun q hq => hA _ (h6 q hq)⟩
theorem Fn.tail {Θ : Tht} {y : MethodName} {wsY : List Cond} {rm : Room} {as : List Value} {w0 w1 : va_W} {o : Option Value} (wr : va_W) (h : Fn Θ y wsY rm as w0 o w1) : Fn Θ y wsY rm as (w0 ++ wr) o (w1 ++ wr) :=
  Fn.sub (wr := wr) (List.range' 0 w0.length) (List.range' w0.length wr.length) (List.range' wr.length w1.length ++ List.range' 0 wr.length) (rg_L _ _) (rg_R _ _) (rg_swap _ _) (by
    rw [nd_range', nd_range', nd_app _ _ (nd_range' _ _) (nd_range' _ _) (fun i hi hj => by rw [List.mem_range'_1] at hi hj; omega), rg_dis _ _ _ _ (by omega)]
    rfl) h
section SW6
variable {Θ : Tht} {p : Program} {e : Env} {R : Room} {s : State} {m : MethodId} {args : Array Value} {below : List Frame} {meth : Method} {c : Code} {A : Nat → Prop} {Q : State → Prop} {nL k n : Nat} {cc : ByteArray} {own : String} {Ts : List Cond}
theorem wh_C (ws : va_W) : (List.range' 0 ws.length).map (fun i => ws[i]?) = ws.map some := rg_at (a := []) (b := ws) (c := []) (List.append_nil _).symm
theorem wh_n (a b : Nat) : (va_nd (List.range' 0 a) && va_nd [] && va_nd (List.range' 0 b) && ([] : List Nat).all (fun i => !(List.range' 0 a).contains i)) = true := by
  rw [nd_range', nd_range']
  rfl
theorem sw_callVW (pc : Nat) (G : okG Θ p s m args c A nL cc own Ts) {ix : Nat} {C : String} {y : MethodName} {bytes : ByteArray} {maxL : Nat} {ret : Option FieldType} {wsY ws' : List Cond} {rm : Room} {as rest st0 : List Value} {o : Option Value} {b : Nat} {w1 ws : va_W} {lv : List (Nat × Value)} (N : Nat)
    (hd : decode cc pc = .ok (.invokevirtual ix, 3)) (hM : Fn Θ y wsY rm (.ref b :: as) ws o w1) (hT : GoodIn Ts (wsV own ix C y wsY)) (hw : wsY = Cond.code y bytes maxL ret :: ws') (hdy : y.cls = C ∧ y.cls ≠ "java/lang/invoke/MethodHandle" ∧ y.cls ≠ "java/lang/invoke/VarHandle" ∧ (parseMethodDescriptor y.desc).map (fun d => d.parameters.length) = some N)
    (hrc : rm.cells = 0 ∧ rm.slots = 0) (hR : rm.frames + 1 ≤ R.frames ∧ 8 + (maxL + 11) + rm.locals ≤ R.locals) (hk : k ≤ R.cells ∧ n ≤ R.slots) (hst : st0 = as.reverse ++ .ref b :: rest) (hN : as.length = N) (hcat : (rest.map fun v => v.category).sum ≤ 8)
    {ci : Nat} {fs : List Value} {q : vw_C} (q0 : Nat) (he : ws[q0]? = some (b, .inr (ci, fs))) (hc : vwCl[ci]? = some q) (hq : q.1 = C)
    (kk : sw Θ p e R s m args below meth c A Q nL k n (pc + 3) lv (o.toList ++ rest) w1) : sw Θ p e R s m args below meth c A Q nL k n pc lv st0 ws :=
  sw_callV pc G w1 (List.range' 0 ws.length) [] (List.range' 0 w1.length) N hd hM hT hw hdy hrc hR hk hst hN hcat q0 he hc hq (wh_C ws) rfl (wh_C w1) (wh_n _ _) kk
theorem sw_callSW (pc : Nat) (G : okG Θ p s m args c A nL cc own Ts) {ix : Nat} {y : MethodName} {bytes : ByteArray} {maxL : Nat} {ret : Option FieldType} {wsY ws' : List Cond} {rm : Room} {as rest st0 : List Value} {o : Option Value} {w1 ws : va_W} {lv : List (Nat × Value)} (N : Nat)
    (hd : decode cc pc = .ok (.invokestatic ix, 3)) (hM : Fn Θ y wsY rm as ws o w1) (hT : GoodIn Ts (va_wsS own ix y wsY)) (hw : wsY = Cond.code y bytes maxL ret :: ws') (hdy : y.cls ≠ "java/lang/invoke/MethodHandle" ∧ y.cls ≠ "java/lang/invoke/VarHandle" ∧ (parseMethodDescriptor y.desc).map (fun d => d.parameters.length) = some N)
    (hrc : rm.cells = 0 ∧ rm.slots = 0) (hR : rm.frames + 1 ≤ R.frames ∧ 8 + (maxL + 11) + rm.locals ≤ R.locals) (hk : k ≤ R.cells ∧ n ≤ R.slots) (hst : st0 = as.reverse ++ rest) (hN : as.length = N) (hcat : (rest.map fun v => v.category).sum ≤ 8)
    (kk : sw Θ p e R s m args below meth c A Q nL k n (pc + 3) lv (o.toList ++ rest) w1) : sw Θ p e R s m args below meth c A Q nL k n pc lv st0 ws :=
  sw_callS pc G w1 (List.range' 0 ws.length) [] (List.range' 0 w1.length) N hd hM hT hw hdy hrc hR hk hst hN hcat (wh_C ws) rfl (wh_C w1) (wh_n _ _) kk
theorem sw_callNW (pc : Nat) (G : okG Θ p s m args c A nL cc own Ts) {ix : Nat} {host : String} {y : MethodName} {bytes : ByteArray} {maxL : Nat} {ret : Option FieldType} {wsY ws' : List Cond} {rm : Room} {as rest st0 : List Value} {o : Option Value} {w1 ws : va_W} {lv : List (Nat × Value)} (N : Nat)
    (hd : decode cc pc = .ok (.invokestatic ix, 3)) (hM : Fn Θ y wsY rm as ws o w1) (hT : GoodIn Ts wsY) (hl : (own, ix, y, host) ∈ nwL) (hstat : Cond.static y ∈ Ts) (hini : Cond.initialized y.cls ∈ Ts) (hw : wsY = Cond.code y bytes maxL ret :: ws') (hdy : y.cls ≠ "java/lang/invoke/MethodHandle" ∧ y.cls ≠ "java/lang/invoke/VarHandle" ∧ (parseMethodDescriptor y.desc).map (fun d => d.parameters.length) = some N)
    (hrc : rm.cells = 0 ∧ rm.slots = 0) (hR : rm.frames + 1 ≤ R.frames ∧ 8 + (maxL + 11) + rm.locals ≤ R.locals) (hk : k ≤ R.cells ∧ n ≤ R.slots) (hst : st0 = as.reverse ++ rest) (hN : as.length = N) (hcat : (rest.map fun v => v.category).sum ≤ 8)
    (kk : sw Θ p e R s m args below meth c A Q nL k n (pc + 3) lv (o.toList ++ rest) w1) : sw Θ p e R s m args below meth c A Q nL k n pc lv st0 ws :=
  sw_callSN pc G w1 (List.range' 0 ws.length) [] (List.range' 0 w1.length) N hd hM hT hl hstat hini hw hdy hrc hR hk hst hN hcat (wh_C ws) rfl (wh_C w1) (wh_n _ _) kk
end SW6
theorem Fn.q_xndpls_ld {Θ : Tht} {y : MethodName} {wsY : List Cond} {rm : Room} {as : List Value} {o : Option Value} (X0 N0 D0 P0 L0 S0 L1 D1 : va_W) (h : Fn Θ y wsY rm as (L0 ++ D0) o (L1 ++ D1)) : Fn Θ y wsY rm as (X0 ++ N0 ++ D0 ++ P0 ++ L0 ++ S0) o (X0 ++ N0 ++ D1 ++ P0 ++ L1 ++ S0) := by
  refine Fn.eqv ?_ ?_ (Fn.tail (X0 ++ N0 ++ P0 ++ S0) h)
  · haveI : DecidableEq (Nat × va_E) := fun a b => Classical.propDecidable (a = b)
    rw [List.perm_iff_count]
    intro a
    simp only [List.count_append, List.count_nil] <;> omega
  · haveI : DecidableEq (Nat × va_E) := fun a b => Classical.propDecidable (a = b)
    rw [List.perm_iff_count]
    intro a
    simp only [List.count_append, List.count_nil] <;> omega
theorem Fn.q_xndpls_xndps {Θ : Tht} {y : MethodName} {wsY : List Cond} {rm : Room} {as : List Value} {o : Option Value} (X0 N0 D0 P0 L0 S0 X1 N1 D1 P1 S1 : va_W) (h : Fn Θ y wsY rm as (X0 ++ N0 ++ D0 ++ P0 ++ S0) o (X1 ++ N1 ++ D1 ++ P1 ++ S1)) : Fn Θ y wsY rm as (X0 ++ N0 ++ D0 ++ P0 ++ L0 ++ S0) o (X1 ++ N1 ++ D1 ++ P1 ++ L0 ++ S1) := by
  refine Fn.eqv ?_ ?_ (Fn.tail (L0) h)
  · haveI : DecidableEq (Nat × va_E) := fun a b => Classical.propDecidable (a = b)
    rw [List.perm_iff_count]
    intro a
    simp only [List.count_append, List.count_nil] <;> omega
  · haveI : DecidableEq (Nat × va_E) := fun a b => Classical.propDecidable (a = b)
    rw [List.perm_iff_count]
    intro a
    simp only [List.count_append, List.count_nil] <;> omega
theorem Fn.q_xndps_ {Θ : Tht} {y : MethodName} {wsY : List Cond} {rm : Room} {as : List Value} {o : Option Value} (X0 N0 D0 P0 S0 : va_W) (h : Fn Θ y wsY rm as ([]) o ([])) : Fn Θ y wsY rm as (X0 ++ N0 ++ D0 ++ P0 ++ S0) o (X0 ++ N0 ++ D0 ++ P0 ++ S0) := by
  refine Fn.eqv ?_ ?_ (Fn.tail (X0 ++ N0 ++ D0 ++ P0 ++ S0) h)
  · haveI : DecidableEq (Nat × va_E) := fun a b => Classical.propDecidable (a = b)
    rw [List.perm_iff_count]
    intro a
    simp only [List.count_append, List.count_nil] <;> omega
  · haveI : DecidableEq (Nat × va_E) := fun a b => Classical.propDecidable (a = b)
    rw [List.perm_iff_count]
    intro a
    simp only [List.count_append, List.count_nil] <;> omega
theorem Fn.q_xndps_d {Θ : Tht} {y : MethodName} {wsY : List Cond} {rm : Room} {as : List Value} {o : Option Value} (X0 N0 D0 P0 S0 D1 : va_W) (h : Fn Θ y wsY rm as (D0) o (D1)) : Fn Θ y wsY rm as (X0 ++ N0 ++ D0 ++ P0 ++ S0) o (X0 ++ N0 ++ D1 ++ P0 ++ S0) := by
  refine Fn.eqv ?_ ?_ (Fn.tail (X0 ++ N0 ++ P0 ++ S0) h)
  · haveI : DecidableEq (Nat × va_E) := fun a b => Classical.propDecidable (a = b)
    rw [List.perm_iff_count]
    intro a
    simp only [List.count_append, List.count_nil] <;> omega
  · haveI : DecidableEq (Nat × va_E) := fun a b => Classical.propDecidable (a = b)
    rw [List.perm_iff_count]
    intro a
    simp only [List.count_append, List.count_nil] <;> omega
theorem Fn.q_xndps_p {Θ : Tht} {y : MethodName} {wsY : List Cond} {rm : Room} {as : List Value} {o : Option Value} (X0 N0 D0 P0 S0 P1 : va_W) (h : Fn Θ y wsY rm as (P0) o (P1)) : Fn Θ y wsY rm as (X0 ++ N0 ++ D0 ++ P0 ++ S0) o (X0 ++ N0 ++ D0 ++ P1 ++ S0) := by
  refine Fn.eqv ?_ ?_ (Fn.tail (X0 ++ N0 ++ D0 ++ S0) h)
  · haveI : DecidableEq (Nat × va_E) := fun a b => Classical.propDecidable (a = b)
    rw [List.perm_iff_count]
    intro a
    simp only [List.count_append, List.count_nil] <;> omega
  · haveI : DecidableEq (Nat × va_E) := fun a b => Classical.propDecidable (a = b)
    rw [List.perm_iff_count]
    intro a
    simp only [List.count_append, List.count_nil] <;> omega
theorem Fn.q_xndps_pd {Θ : Tht} {y : MethodName} {wsY : List Cond} {rm : Room} {as : List Value} {o : Option Value} (X0 N0 D0 P0 S0 P1 D1 : va_W) (h : Fn Θ y wsY rm as (P0 ++ D0) o (P1 ++ D1)) : Fn Θ y wsY rm as (X0 ++ N0 ++ D0 ++ P0 ++ S0) o (X0 ++ N0 ++ D1 ++ P1 ++ S0) := by
  refine Fn.eqv ?_ ?_ (Fn.tail (X0 ++ N0 ++ S0) h)
  · haveI : DecidableEq (Nat × va_E) := fun a b => Classical.propDecidable (a = b)
    rw [List.perm_iff_count]
    intro a
    simp only [List.count_append, List.count_nil] <;> omega
  · haveI : DecidableEq (Nat × va_E) := fun a b => Classical.propDecidable (a = b)
    rw [List.perm_iff_count]
    intro a
    simp only [List.count_append, List.count_nil] <;> omega
theorem Fn.q_xndps_xndp {Θ : Tht} {y : MethodName} {wsY : List Cond} {rm : Room} {as : List Value} {o : Option Value} (X0 N0 D0 P0 S0 X1 N1 D1 P1 : va_W) (h : Fn Θ y wsY rm as (X0 ++ N0 ++ D0 ++ P0) o (X1 ++ N1 ++ D1 ++ P1)) : Fn Θ y wsY rm as (X0 ++ N0 ++ D0 ++ P0 ++ S0) o (X1 ++ N1 ++ D1 ++ P1 ++ S0) := by
  refine Fn.eqv ?_ ?_ (Fn.tail (S0) h)
  · haveI : DecidableEq (Nat × va_E) := fun a b => Classical.propDecidable (a = b)
    rw [List.perm_iff_count]
    intro a
    simp only [List.count_append, List.count_nil] <;> omega
  · haveI : DecidableEq (Nat × va_E) := fun a b => Classical.propDecidable (a = b)
    rw [List.perm_iff_count]
    intro a
    simp only [List.count_append, List.count_nil] <;> omega
theorem Fn.q_xndps_xndps {Θ : Tht} {y : MethodName} {wsY : List Cond} {rm : Room} {as : List Value} {o : Option Value} (X0 N0 D0 P0 S0 X1 N1 D1 P1 S1 : va_W) (h : Fn Θ y wsY rm as (X0 ++ N0 ++ D0 ++ P0 ++ S0) o (X1 ++ N1 ++ D1 ++ P1 ++ S1)) : Fn Θ y wsY rm as (X0 ++ N0 ++ D0 ++ P0 ++ S0) o (X1 ++ N1 ++ D1 ++ P1 ++ S1) := by
  refine Fn.eqv ?_ ?_ (Fn.tail ([]) h)
  · haveI : DecidableEq (Nat × va_E) := fun a b => Classical.propDecidable (a = b)
    rw [List.perm_iff_count]
    intro a
    simp only [List.count_append, List.count_nil] <;> omega
  · haveI : DecidableEq (Nat × va_E) := fun a b => Classical.propDecidable (a = b)
    rw [List.perm_iff_count]
    intro a
    simp only [List.count_append, List.count_nil] <;> omega
