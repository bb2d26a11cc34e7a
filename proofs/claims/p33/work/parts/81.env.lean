/-! what the heap holds beside the worlds: strings, statics; contracts that need it, contracts of throwing methods; calls over the whole world -/
def wtx (i : Nat) : String := match i with
  | 0 => "pitch"
  | 1 => "part"
  | 2 => "link"
  | 3 => "punch"
  | 4 => "bend"
  | 5 => "place"
  | 6 => "plan"
  | 7 => "pilot"
  | 8 => "stroke"
  | _ => ""
def thL : List (Nat × String) := [(47, "columns are 2 to 10, rows 2 to 6"), (73, "no such rectangle or mark"), (83, "carrier is 0 to 2"), (91, "no such setting or value"), (100, "no such rectangle"), (108, "there are 6 operations"), (115, "no such piece of a row"), (123, "no such operation"), (139, "station is 0 to 7, or NONE"), (153, "there is no best plan"), (159, "station is 0 to 7"), (203, "what is 0 to 5"), (205, "what is 0 to 7"), (222, "what is 0 to 3"), (224, "station is 0 to 7, what is 0 to 3"), (232, "what is 0 to 16"), (298, "the undo stack is empty")]
abbrev eIA : String := "java/lang/IllegalArgumentException"
abbrev eIS : String := "java/lang/IllegalStateException"
abbrev eIB : String := "java/lang/IndexOutOfBoundsException"
abbrev eNm : List String := ["java/lang/RuntimeException", "java/lang/Exception"]
def evB : List Cond := [.castable eIA eIA, .castable eIS eIS, .castable eIB eIB, .declares (Bundle.initS "java/lang/RuntimeException"), .declares (Bundle.initS "java/lang/Exception"), .declares (Bundle.initS Bundle.tN)]
theorem warmD {x : MethodName} {s U : State} (hW : s.WarmedH U.vm) (hZ : va_Nw (.declares x) s) : va_Nw (.declares x) U := va_tabs rfl (rfl : (s.setVm U.vm).vm = U.vm) (by rw [Cond.declares_setVm hW.alike]; exact hZ)
theorem evB_warm {s U : State} (hW : s.WarmedH U.vm) {w : Cond} (hw : w ∈ evB) (hZ : va_Nw w s) : va_Nw w U := by
  simp only [evB, List.mem_cons, List.not_mem_nil, or_false] at hw
  rcases hw with rfl | rfl | rfl | rfl | rfl | rfl
  · exact va_Nw.warmC hW hZ
  · exact va_Nw.warmC hW hZ
  · exact va_Nw.warmC hW hZ
  · exact warmD hW hZ
  · exact warmD hW hZ
  · exact warmD hW hZ
theorem evB_tab {w : Cond} (hw : w ∈ evB) : w.onTables = true := List.all_eq_true.mp (show evB.all Cond.onTables = true by decide) w hw
def Ev (_ : (Nat → Nat) × (Nat → Nat)) (A : Nat → Prop) (U : State) (H : Heap) : Prop :=
  True ∧ True ∧
  vx_Zq Bundle.tN "UNASSIGNED_STACK" Bundle.steD A U H ∧ vx_Zq Bundle.tN "SUPPRESSED_SENTINEL" Bundle.listD A U H ∧
  True ∧ True ∧ (∀ q ∈ thL, ∃ sa, vk_R RX5 q.1 q.2 sa U) ∧
  (∀ w ∈ evB, va_Nw w U) ∧ va_Nc eIS eIA U ∧ va_Nc eIA eIB U
theorem Ev.warm {K : (Nat → Nat) × (Nat → Nat)} {A : Nat → Prop} {u U : State} {H : Heap} (hW : u.WarmedH U.vm) (h : Ev K A u H) : Ev K A U H := by
  obtain ⟨h1, h2, h3, h4, h5, h6, h7, a, d, e⟩ := h
  refine ⟨h1, h2, vx_Zq.moved hW.alike h3, vx_Zq.moved hW.alike h4, h5, h6, fun q hq => ?_, fun w hw => evB_warm hW hw (a w hw), va_Nc.moved hW.alike d, va_Nc.moved hW.alike e⟩
  · obtain ⟨sa, hsa⟩ := h7 q hq
    exact ⟨sa, vk_R.warm hW hsa⟩
theorem Ev.kept {K : (Nat → Nat) × (Nat → Nat)} {A : Nat → Prop} {U : State} {H H1 : Heap} (h : Ev K A U H) (hq : ∀ a : Nat, a < H.size → ¬ A a → H1[a]? = H[a]?) : Ev K A U H1 := by
  obtain ⟨h1, h2, h3, h4, h5, h6⟩ := h
  exact ⟨h1, h2, h3.kept hq, h4.kept hq, h5, h6⟩
theorem Ev.narrow {K : (Nat → Nat) × (Nat → Nat)} {A B : Nat → Prop} {U : State} {H : Heap} (h : Ev K A U H) (hAB : ∀ q, B q → A q) : Ev K B U H := by
  obtain ⟨h1, h2, h3, h4, h5, h6⟩ := h
  exact ⟨h1, h2, h3.narrow hAB, h4.narrow hAB, h5, h6⟩
def PreE (Θ : Tht) (K : (Nat → Nat) × (Nat → Nat)) (w0 : va_W) (sz : Nat) (U : State) : Prop := Pre Θ w0 sz U ∧ Ev K (va_A w0 sz) U U.heap
theorem PreE.blind {Θ : Tht} {K : (Nat → Nat) × (Nat → Nat)} {as : List Value} {w0 : va_W} {sz : Nat} : FrameBlind (va_Pc as (PreE Θ K w0 sz)) := fun a U g mk q =>
  have r := Pre.blind a U g mk (⟨q.1, q.2.1⟩ : va_Pc as (Pre Θ w0 sz) a U)
  ⟨r.1, r.2, Ev.warm (u := U) (U := U.calling g mk a) (State.WarmedH.refl U) q.2.2⟩
/-- returns, with mc cells of ms slots made -/
def FC (Θ : Tht) (K : (Nat → Nat) × (Nat → Nat)) (mc ms : Nat) (y : MethodName) (ws : List Cond) (rm : Room) (as : List Value) (w0 : va_W) (o : Option Value) (w1 : va_W) : Prop :=
  ∀ sz : Nat, Met Θ.1 y ws rm (va_Pc as (PreE Θ K w0 sz)) (Pst Θ w0 w1 o sz) mc ms (va_A w0 sz)
def XE (Θ : Tht) (w0 w1 : va_W) (E : String) (sz : Nat) : String → State → State → Prop := fun E' st t => E' = E ∧ va_P Θ.2.1 vwCl w1 t.heap ∧ va_D (va_A w0 sz) w1 ∧ va_F (va_A w0 sz) st t
/-- throws E -/
def FX (Θ : Tht) (K : (Nat → Nat) × (Nat → Nat)) (y : MethodName) (ws : List Cond) (rm : Room) (as : List Value) (w0 : va_W) (E : String) (w1 : va_W) : Prop :=
  ∀ sz : Nat, vx_Met Θ.1 y ws rm (va_Pc as (PreE Θ K w0 sz)) (fun _ _ _ _ => False) (XE Θ w0 w1 E sz) 1 6 (va_A w0 sz)
theorem Fn.toC {Θ : Tht} {K : (Nat → Nat) × (Nat → Nat)} {y : MethodName} {ws : List Cond} {rm : Room} {as : List Value} {w0 w1 : va_W} {o : Option Value} (h : Fn Θ y ws rm as w0 o w1) : FC Θ K 0 0 y ws rm as w0 o w1 :=
  fun sz p e hl hc hk s m args below hf hS hP hK => h sz p e hl hc hk s m args below hf hS ⟨hP.1, hP.2.1⟩ hK
/-! frames of contracts -/
theorem FC.sub {Θ : Tht} {K : (Nat → Nat) × (Nat → Nat)} {mc ms : Nat} {y : MethodName} {wsY : List Cond} {rm : Room} {as : List Value} {w0 w1 ws ws2 wr : va_W} {o : Option Value} (isC isR isB : List Nat) (hC : isC.map (fun i => ws[i]?) = w0.map some) (hR : isR.map (fun i => ws[i]?) = wr.map some) (hB : isB.map (fun i => (wr ++ w1)[i]?) = ws2.map some) (hn : (va_nd isC && va_nd isR && va_nd isB && isR.all (fun i => !isC.contains i)) = true) (h : FC Θ K mc ms y wsY rm as w0 o w1) : FC Θ K mc ms y wsY rm as ws o ws2 := by
  intro sz p e hl hc hk s m args below hf hS hP hK
  simp only [Bool.and_eq_true] at hn
  obtain ⟨⟨⟨hn1, hn2⟩, hn3⟩, hn4⟩ := hn
  obtain ⟨ha, ⟨hsz, hP, hKt, hD, hN⟩, hE⟩ := hP
  have hdis : ∀ i ∈ isR, i ∉ isC := fun i hi hc => by
    have h1 := List.all_eq_true.mp hn4 i hi
    simp [List.contains_iff_mem, hc] at h1
  have hDA : va_D (va_A ws sz) ws := ⟨hD.1, fun k q hq => Or.inl ⟨k, q.2, hq⟩⟩
  have r := h sz p e hl hc hk s m args below hf hS ⟨ha, ⟨hsz, hP.sub isC (fm_of_map hC), hKt, hD.sub isC hn1 hC, hN⟩, hE.narrow (fun q hq => va_A_sub hC hq)⟩ hK
  obtain ⟨n, oc, h1, h2, h3, ⟨q1, q2, q3, q4⟩, L, h5, h6⟩ := r
  have hkk : ∀ q : Nat, q < s.heap.size → ¬ va_A w0 s.heap.size q → (stepsAlone p.tables e n s).heap[q]? = s.heap[q]? := fun q a b => q4.2 q a (by rw [hsz] at b; exact b)
  obtain ⟨hP1, hD1⟩ := va_join (A0 := va_A ws sz) (wr := wr) (w1 := w1) hP hDA isC isR hC hR hn2 hdis hkk (fun q hq => by rw [hsz] at hq; exact va_A_sub hC hq) q2 (by rw [hsz]; exact q3)
  exact ⟨n, oc, h1, h2, h3, ⟨q1, hP1.sub isB (fm_of_map hB), hD1.sub isB hn3 hB, q4.1, fun q a b => q4.2 q a (fun z => b (va_A_sub hC z))⟩, L, h5, fun q hq => va_A_sub hC (h6 q hq)⟩
theorem FX.sub {Θ : Tht} {K : (Nat → Nat) × (Nat → Nat)} {y : MethodName} {wsY : List Cond} {rm : Room} {as : List Value} {w0 w1 ws ws2 wr : va_W} {E : String} (isC isR isB : List Nat) (hC : isC.map (fun i => ws[i]?) = w0.map some) (hR : isR.map (fun i => ws[i]?) = wr.map some) (hB : isB.map (fun i => (wr ++ w1)[i]?) = ws2.map some) (hn : (va_nd isC && va_nd isR && va_nd isB && isR.all (fun i => !isC.contains i)) = true) (h : FX Θ K y wsY rm as w0 E w1) : FX Θ K y wsY rm as ws E ws2 := by
  intro sz p e hl hc hk s m args below hf hS hP hK
  simp only [Bool.and_eq_true] at hn
  obtain ⟨⟨⟨hn1, hn2⟩, hn3⟩, hn4⟩ := hn
  obtain ⟨ha, ⟨hsz, hP, hKt, hD, hN⟩, hE⟩ := hP
  have hdis : ∀ i ∈ isR, i ∉ isC := fun i hi hc => by
    have h1 := List.all_eq_true.mp hn4 i hi
    simp [List.contains_iff_mem, hc] at h1
  have hDA : va_D (va_A ws sz) ws := ⟨hD.1, fun k q hq => Or.inl ⟨k, q.2, hq⟩⟩
  have r := h sz p e hl hc hk s m args below hf hS ⟨ha, ⟨hsz, hP.sub isC (fm_of_map hC), hKt, hD.sub isC hn1 hC, hN⟩, hE.narrow (fun q hq => va_A_sub hC hq)⟩ hK
  obtain ⟨n, oc, h1, h2, h3, h4⟩ := r
  rcases h4 with ⟨h4, -⟩ | ⟨q, e1, E', ce, L, ⟨x1, x2, x3, x4⟩, e2, e3, e4, e5, e6, e7⟩
  · exact absurd h4 (fun z => z)
  · have hkk : ∀ q : Nat, q < s.heap.size → ¬ va_A w0 s.heap.size q → (stepsAlone p.tables e n s).heap[q]? = s.heap[q]? := fun q a b => x4.2 q a (by rw [hsz] at b; exact b)
    obtain ⟨hP1, hD1⟩ := va_join (A0 := va_A ws sz) (wr := wr) (w1 := w1) hP hDA isC isR hC hR hn2 hdis hkk (fun q hq => by rw [hsz] at hq; exact va_A_sub hC hq) x2 (by rw [hsz]; exact x3)
    exact ⟨n, oc, h1, h2, h3, Or.inr ⟨q, e1, E', ce, L, ⟨x1, hP1.sub isB (fm_of_map hB), hD1.sub isB hn3 hB, x4.1, fun q a b => x4.2 q a (fun z => b (va_A_sub hC z))⟩, e2, e3, e4, e5, e6, fun z hz => va_A_sub hC (e7 z hz)⟩⟩
theorem nd_range' : ∀ n a, va_nd (List.range' a n) = true
  | 0, a => rfl
  | n + 1, a => by
    rw [List.range'_succ]
    show (decide (a ∉ List.range' (a + 1) n) && va_nd (List.range' (a + 1) n)) = true
    rw [nd_range' n (a + 1), Bool.and_true, decide_eq_true_iff, List.mem_range'_1]
    omega
theorem rg_map {α : Type} (a b c : List α) : (List.range' a.length b.length).map (fun i => (a ++ b ++ c)[i]?) = b.map some := by
  refine List.ext_getElem (by simp) fun i h1 h2 => ?_
  simp only [List.length_map, List.length_range'] at h1
  rw [List.getElem_map, List.getElem_map, List.getElem_range', List.append_assoc, List.getElem?_append_right (by omega), show a.length + 1 * i - a.length = i from by omega, List.getElem?_append_left h1, List.getElem?_eq_getElem h1]
theorem rg_L {α : Type} (b c : List α) : (List.range' 0 b.length).map (fun i => (b ++ c)[i]?) = b.map some := rg_map [] b c
theorem rg_R {α : Type} (a b : List α) : (List.range' a.length b.length).map (fun i => (a ++ b)[i]?) = b.map some := by
  have h := rg_map a b []
  rw [List.append_nil] at h
  exact h
theorem nd_app : ∀ (a b : List Nat), va_nd a = true → va_nd b = true → (∀ i ∈ a, i ∉ b) → va_nd (a ++ b) = true
  | [], _, _, h, _ => h
  | x :: a, b, h1, h2, h3 => by
    have h1 : (decide (x ∉ a) && va_nd a) = true := h1
    rw [Bool.and_eq_true, decide_eq_true_iff] at h1
    show (decide (x ∉ a ++ b) && va_nd (a ++ b)) = true
    rw [nd_app a b h1.2 h2 (fun i hi => h3 i (List.mem_cons_of_mem _ hi)), Bool.and_true, decide_eq_true_iff, List.mem_append]
    rintro (z | z)
    · exact h1.1 z
    · exact h3 x List.mem_cons_self z
theorem rg_dis (a n b m : Nat) (h : a + n ≤ b ∨ b + m ≤ a) : (List.range' b m).all (fun i => !(List.range' a n).contains i) = true := by
  rw [List.all_eq_true]
  intro i hi
  rw [List.mem_range'_1] at hi
  rw [Bool.not_eq_true', Bool.eq_false_iff]
  intro z
  rw [List.contains_iff_mem, List.mem_range'_1] at z
  omega
theorem rg_swap {α : Type} (w1 wr : List α) : (List.range' wr.length w1.length ++ List.range' 0 wr.length).map (fun i => (wr ++ w1)[i]?) = (w1 ++ wr).map some := by
  rw [List.map_append, rg_R, rg_L, List.map_append]
theorem FC.tail {Θ : Tht} {K : (Nat → Nat) × (Nat → Nat)} {mc ms : Nat} {y : MethodName} {wsY : List Cond} {rm : Room} {as : List Value} {w0 w1 : va_W} {o : Option Value} (wr : va_W) (h : FC Θ K mc ms y wsY rm as w0 o w1) : FC Θ K mc ms y wsY rm as (w0 ++ wr) o (w1 ++ wr) :=
  FC.sub (wr := wr) (List.range' 0 w0.length) (List.range' w0.length wr.length) (List.range' wr.length w1.length ++ List.range' 0 wr.length) (rg_L _ _) (rg_R _ _) (rg_swap _ _) (by
    rw [nd_range', nd_range', nd_app _ _ (nd_range' _ _) (nd_range' _ _) (fun i hi hj => by rw [List.mem_range'_1] at hi hj; omega), rg_dis _ _ _ _ (by omega)]
    rfl) h
theorem FC.head {Θ : Tht} {K : (Nat → Nat) × (Nat → Nat)} {mc ms : Nat} {y : MethodName} {wsY : List Cond} {rm : Room} {as : List Value} {w0 w1 : va_W} {o : Option Value} (wr : va_W) (h : FC Θ K mc ms y wsY rm as w0 o w1) : FC Θ K mc ms y wsY rm as (wr ++ w0) o (wr ++ w1) :=
  FC.sub (wr := wr) (List.range' wr.length w0.length) (List.range' 0 wr.length) (List.range' 0 (wr ++ w1).length) (rg_R _ _) (rg_L _ _) (by have h := rg_L (wr ++ w1) []; rw [List.append_nil] at h; exact h) (by
    rw [nd_range', nd_range', nd_range', rg_dis _ _ _ _ (by omega)]
    rfl) h
theorem FX.tail {Θ : Tht} {K : (Nat → Nat) × (Nat → Nat)} {y : MethodName} {wsY : List Cond} {rm : Room} {as : List Value} {w0 w1 : va_W} {E : String} (wr : va_W) (h : FX Θ K y wsY rm as w0 E w1) : FX Θ K y wsY rm as (w0 ++ wr) E (w1 ++ wr) :=
  FX.sub (wr := wr) (List.range' 0 w0.length) (List.range' w0.length wr.length) (List.range' wr.length w1.length ++ List.range' 0 wr.length) (rg_L _ _) (rg_R _ _) (rg_swap _ _) (by
    rw [nd_range', nd_range', nd_app _ _ (nd_range' _ _) (nd_range' _ _) (fun i hi hj => by rw [List.mem_range'_1] at hi hj; omega), rg_dis _ _ _ _ (by omega)]
    rfl) h
theorem FX.head {Θ : Tht} {K : (Nat → Nat) × (Nat → Nat)} {y : MethodName} {wsY : List Cond} {rm : Room} {as : List Value} {w0 w1 : va_W} {E : String} (wr : va_W) (h : FX Θ K y wsY rm as w0 E w1) : FX Θ K y wsY rm as (wr ++ w0) E (wr ++ w1) :=
  FX.sub (wr := wr) (List.range' wr.length w0.length) (List.range' 0 wr.length) (List.range' 0 (wr ++ w1).length) (rg_R _ _) (rg_L _ _) (by have h := rg_L (wr ++ w1) []; rw [List.append_nil] at h; exact h) (by
    rw [nd_range', nd_range', nd_range', rg_dis _ _ _ _ (by omega)]
    rfl) h
/-! bodies -/
def okRC (Θ : Tht) (R : Room) (s : State) (args : Array Value) (below : List Frame) (meth : Method) (A : Nat → Prop) (Q : State → Prop) (w0 w1 : va_W) (o : Option Value) (ret : Option FieldType) (mc ms : Nat) : Prop :=
  Q = MQ below (Pst Θ w0 w1 o s.heap.size) args s mc ms A ∧ A = va_A w0 s.heap.size ∧ meth.sig.returnType = ret ∧ meth.locks = false
def okRX (Θ : Tht) (s : State) (args : Array Value) (below : List Frame) (meth : Method) (c : Code) (A : Nat → Prop) (Q : State → Prop) (w0 w1 : va_W) (E : String) : Prop :=
  Q = vx_MQ below (fun _ _ _ _ => False) (XE Θ w0 w1 E s.heap.size) args s 1 6 A ∧ A = va_A w0 s.heap.size ∧ meth.locks = false ∧ ∀ x ∈ c.exceptionTable.toList, False
theorem okRC.z {Θ : Tht} {R : Room} {s : State} {args : Array Value} {below : List Frame} {meth : Method} {A : Nat → Prop} {Q : State → Prop} {w0 w1 : va_W} {o : Option Value} {ret : Option FieldType} (h : okRC Θ R s args below meth A Q w0 w1 o ret 0 0) : okR Θ R s args below meth A Q w0 w1 o ret := h
theorem FC.of {Θ : Tht} {K : (Nat → Nat) × (Nat → Nat)} {y : MethodName} {ws ws' : List Cond} {rm : Room} {as : List Value} {w0 w1 : va_W} {o : Option Value} {cc : ByteArray} {maxL : Nat} {ret : Option FieldType} (hy : plainName y.cls = true) (hw : ws = Cond.code y cc maxL ret :: ws') (hlen : (lg_sl as).length ≤ maxL)
    (body : ∀ (p : Program) (e : Env) (s : State) (m : MethodId) (args : Array Value) (below : List Frame) (meth : Method) (c : Code) (A : Nat → Prop) (Q : State → Prop), okG Θ p s m args c A maxL cc y.cls ws → okR Θ rm s args below meth A Q w0 w1 o ret → Ev K A s s.heap → sw Θ p e rm s m args below meth c A Q maxL 0 0 0 (lv_args 0 as) [] w0) : FC Θ K 0 0 y ws rm as w0 o w1 := by
  intro sz
  refine Met.ofW (cc := cc) (maxL := maxL) (ret := ret) hy hw ?_
  intro p e s m args below meth c s₁ B hml hv
  obtain ⟨rfl, ⟨hsz, hP, hK, hD0, hN⟩, hE⟩ := hv
  subst hsz
  have hts := atoms_spec (ws := ws) B.pre
  have hown : s.vm.findClass y.cls = some m.cls := findClass_of_methodNamed B.named
  have hl := lv_entry as (n := maxL) hlen
  rw [lg_entry_eq]
  exact body p e s m _ below meth c _ _ ⟨B.exec, B.bytes, hml, hown, hts, hK, fun q h => Or.inr h, hN⟩ ⟨rfl, rfl, B.returns, B.notSynchronized⟩ hE s.heap [] _ hP (hD0.self) va_S.rf hl
theorem FC.ofH {Θ : Tht} {K : (Nat → Nat) × (Nat → Nat)} {mc ms : Nat} {y : MethodName} {ws ws' : List Cond} {rm : Room} {as : List Value} {w0 w1 : va_W} {o : Option Value} {cc : ByteArray} {maxL : Nat} {ret : Option FieldType} {hh : List (Nat × Nat × Nat × Nat)} (hy : plainName y.cls = true) (hw : ws = Cond.codeWith y cc maxL ret hh :: ws') (hlen : (lg_sl as).length ≤ maxL)
    (body : ∀ (p : Program) (e : Env) (s : State) (m : MethodId) (args : Array Value) (below : List Frame) (meth : Method) (c : Code) (A : Nat → Prop) (Q : State → Prop), okG Θ p s m args c A maxL cc y.cls ws → okRC Θ rm s args below meth A Q w0 w1 o ret mc ms → Ev K A s s.heap → c.exceptionTable.toList = tableOf hh → sw Θ p e rm s m args below meth c A Q maxL 0 0 0 (lv_args 0 as) [] w0) : FC Θ K mc ms y ws rm as w0 o w1 := by
  intro sz
  refine va_MetW (cc := cc) (maxL := maxL) (ret := ret) (hh := hh) hy hw ?_
  intro p e s m args below meth c s₁ B hml hv
  obtain ⟨rfl, ⟨hsz, hP, hK, hD0, hN⟩, hE⟩ := hv
  subst hsz
  have hts := atoms_spec (ws := ws) B.pre
  have hown : s.vm.findClass y.cls = some m.cls := findClass_of_methodNamed B.named
  have hl := lv_entry as (n := maxL) hlen
  have ht := vx_table (x := y) B (hts (Cond.codeWith y cc maxL ret hh) (by rw [hw]; exact List.mem_cons_self))
  rw [lg_entry_eq]
  exact body p e s m _ below meth c _ _ ⟨B.exec, B.bytes, hml, hown, hts, hK, fun q h => Or.inr h, hN⟩ ⟨rfl, rfl, B.returns, B.notSynchronized⟩ hE ht s.heap [] _ hP (hD0.self) va_S.rf hl
theorem FX.of {Θ : Tht} {K : (Nat → Nat) × (Nat → Nat)} {y : MethodName} {ws ws' : List Cond} {rm : Room} {as : List Value} {w0 w1 : va_W} {E : String} {cc : ByteArray} {maxL : Nat} {ret : Option FieldType} (hy : plainName y.cls = true) (hw : ws = Cond.code y cc maxL ret :: ws') (hlen : (lg_sl as).length ≤ maxL)
    (body : ∀ (p : Program) (e : Env) (s : State) (m : MethodId) (args : Array Value) (below : List Frame) (meth : Method) (c : Code) (A : Nat → Prop) (Q : State → Prop), okG Θ p s m args c A maxL cc y.cls ws → okRX Θ s args below meth c A Q w0 w1 E → Ev K A s s.heap → sw Θ p e rm s m args below meth c A Q maxL 0 0 0 (lv_args 0 as) [] w0) : FX Θ K y ws rm as w0 E w1 := by
  intro sz
  refine vx_ofW (cc := cc) (maxL := maxL) (ret := ret) hy hw ?_
  intro p e s m args below meth c s₁ B hml hno hv
  obtain ⟨rfl, ⟨hsz, hP, hK, hD0, hN⟩, hE⟩ := hv
  subst hsz
  have hts := atoms_spec (ws := ws) B.pre
  have hown : s.vm.findClass y.cls = some m.cls := findClass_of_methodNamed B.named
  have hl := lv_entry as (n := maxL) hlen
  rw [lg_entry_eq]
  exact body p e s m _ below meth c _ _ ⟨B.exec, B.bytes, hml, hown, hts, hK, fun q h => Or.inr h, hN⟩ ⟨rfl, rfl, B.notSynchronized, hno⟩ hE s.heap [] _ hP (hD0.self) va_S.rf hl
section SW4
variable {Θ : Tht} {K : (Nat → Nat) × (Nat → Nat)} {p : Program} {e : Env} {R : Room} {s : State} {m : MethodId} {args : Array Value} {below : List Frame} {meth : Method} {c : Code} {A : Nat → Prop} {Q : State → Prop} {nL k n : Nat} {cc : ByteArray} {own : String} {Ts : List Cond}
theorem sw_iretC (pc : Nat) (G : okG Θ p s m args c A nL cc own Ts) {mc ms : Nat} {w0 w1 : va_W} {v : Int32} {lv : List (Nat × Value)} (hd : decode cc pc = .ok (.ireturn, 1)) (KK : okRC Θ R s args below meth A Q w0 w1 (some (.int v)) (some .int) mc ms) (h1 : k ≤ mc) (h2 : n ≤ ms) : sw Θ p e R s m args below meth c A Q nL k n pc lv [.int v] w1 := by
  intro H locs ls hP hD hS hl
  obtain ⟨rfl, rfl, hr, hlk⟩ := KK
  exact W.widen h1 h2 (W.iret G.1 G.2.1 hr (fun t ht hW => ⟨rfl, by rw [ht]; exact hP, hD, hS.F ht⟩) hS.2.2 hd hlk)
theorem allA {ws : va_W} {H : Heap} {locs : List Loc} (hD : va_D A ws) (hS : va_S A s.heap H locs) (hA : ∀ q : Nat, s.heap.size ≤ q → A q) : ∀ q, va_A ws H.size q → A q := fun q h => h.elim (fun ⟨k, e, h⟩ => hD.2 k _ h) (fun h => hA q (Nat.le_trans hS.1 h))
/-- a call over the whole world -/
theorem sw_runA {pc : Nat} {st0 rest : List Value} {lv : List (Nat × Value)} {ws : va_W} (G : okG Θ p s m args c A nL cc own Ts) (E : Ev K A s s.heap) {as : Array Value} {o : Option Value} {w1 : va_W} {mc ms : Nat}
    (hr : ∀ (H : Heap) (locs : List Loc) (ls : Array Slot), lv_has ls nL lv → va_P Θ.2.1 vwCl ws H → va_D (fun _ => True) ws → Ev K (va_A ws H.size) s H → va_Run p Θ.1 e R s m args below meth c H locs k n mc ms (F0 m pc ls st0) rest (Pst Θ ws w1 o H.size as) (va_A ws H.size))
    (kk : sw Θ p e R s m args below meth c A Q nL (k + mc) (n + ms) (pc + 3) lv (o.toList ++ rest) w1) : sw Θ p e R s m args below meth c A Q nL k n pc lv st0 ws := by
  intro H locs ls hP hD hS hl
  have hFc := allA hD hS G.2.2.2.2.2.2.1
  intro T hT X
  obtain ⟨v, st₀, t, T', L, e0, X', hL, e1, e2, ⟨h1, h2, h3, h4⟩, st⟩ := hr H locs ls hl hP (hD.weaken (fun _ _ _ _ => trivial)) ((E.kept hS.2.1).narrow hFc) T hT X
  cases h1
  obtain ⟨k1, k2⟩ := h4
  have hk : ∀ q : Nat, q < H.size → ¬ va_A ws H.size q → T'.heap[q]? = H[q]? := fun q hq hA => by
    rw [e1, ← e0]; exact k2 q (by rw [e0]; exact hq) hA
  rw [← e1] at h2
  have hz : H.size ≤ T'.heap.size := by rw [e1, ← e0]; exact k1
  have hS1 : va_S A s.heap T'.heap (locs ++ L) := ⟨Nat.le_trans hS.1 hz, fun q hq hA => (hk q (Nat.lt_of_lt_of_le hq hS.1) (fun h => hA (hFc q h))).trans (hS.2.1 q hq hA), fun z hz => (List.mem_append.mp hz).elim (fun h => hS.2.2 z h) (fun h => hFc _ (hL z h))⟩
  obtain ⟨w, a, b⟩ := kk T'.heap (locs ++ L) ls h2 ⟨h3.1, fun i q hq => hFc _ (h3.2 i q hq)⟩ hS1 hl T' rfl X'
  exact ⟨w, st w a, b⟩
theorem preE_of {H : Heap} {ws : va_W} {as : List Value} (G : okG Θ p s m args c A nL cc own Ts) (hP : va_P Θ.2.1 vwCl ws H) (hD : va_D (fun _ => True) ws) (hE : Ev K (va_A ws H.size) s H) : ∀ U : State, U.heap = H → s.WarmedH U.vm → va_Pc as (PreE Θ K ws H.size) as.toArray U := fun U hU hW =>
  ⟨rfl, ⟨by rw [hU], by rw [hU]; exact hP, va_K.moved hW.alike G.2.2.2.2.2.1, hD, G.2.2.2.2.2.2.2.warm hW⟩, by rw [hU]; exact hE.warm hW⟩
theorem sw_callVR (pc : Nat) (G : okG Θ p s m args c A nL cc own Ts) (E : Ev K A s s.heap) {mc ms ix : Nat} {C : String} {y : MethodName} {bytes : ByteArray} {maxL : Nat} {ret : Option FieldType} {wsY ws' : List Cond} {rm : Room} {as rest st0 : List Value} {o : Option Value} {b : Nat} {w1 ws : va_W} {lv : List (Nat × Value)} (N : Nat)
    (hd : decode cc pc = .ok (.invokevirtual ix, 3)) (hM : FC Θ K mc ms y wsY rm (.ref b :: as) ws o w1) (hT : GoodIn Ts (wsV own ix C y wsY)) (hw : wsY = Cond.code y bytes maxL ret :: ws') (hdy : y.cls = C ∧ y.cls ≠ "java/lang/invoke/MethodHandle" ∧ y.cls ≠ "java/lang/invoke/VarHandle" ∧ (parseMethodDescriptor y.desc).map (fun d => d.parameters.length) = some N)
    (hrc : rm.cells = mc ∧ rm.slots = ms) (hR : rm.frames + 1 ≤ R.frames ∧ 8 + (maxL + 11) + rm.locals ≤ R.locals) (hk : k + mc ≤ R.cells ∧ n + ms ≤ R.slots) (hst : st0 = as.reverse ++ .ref b :: rest) (hN : as.length = N) (hcat : (rest.map fun v => v.category).sum ≤ 8)
    (hrv : ∀ H : Heap, va_P Θ.2.1 vwCl ws H → Ev K (va_A ws H.size) s H → ∃ cellB : Cell, H[b]? = some cellB ∧ cellB.vm.isStatics = false ∧ s.vm.findClass C = some cellB.cls)
    (kk : sw Θ p e R s m args below meth c A Q nL (k + mc) (n + ms) (pc + 3) lv (o.toList ++ rest) w1) : sw Θ p e R s m args below meth c A Q nL k n pc lv st0 ws := by
  refine sw_runA (as := (Value.ref b :: as).toArray) G E (fun H locs ls hl hP hD hE => ?_) kk
  exact va_runV (Ts := Ts) (own := own) (nL := nL) (cc := cc) (As := as) (rest := rest) ⟨G.1, G.2.1, G.2.2.1, G.2.2.2.1, G.2.2.2.2.1⟩ (hM H.size) (cwV N G.2.2.2.2.1 hT hw hrc.1 hrc.2 hdy hR) ⟨PreE.blind, hrv H hP hE, preE_of G hP hD hE⟩ rfl hN hl.1 hst (lv_room hcat) hd hk
theorem sw_callVA (pc : Nat) (G : okG Θ p s m args c A nL cc own Ts) (E : Ev K A s s.heap) {mc ms ix : Nat} {C : String} {y : MethodName} {bytes : ByteArray} {maxL : Nat} {ret : Option FieldType} {wsY ws' : List Cond} {rm : Room} {as rest st0 : List Value} {o : Option Value} {b : Nat} {w1 ws : va_W} {lv : List (Nat × Value)} (N : Nat)
    (hd : decode cc pc = .ok (.invokevirtual ix, 3)) (hM : FC Θ K mc ms y wsY rm (.ref b :: as) ws o w1) (hT : GoodIn Ts (wsV own ix C y wsY)) (hw : wsY = Cond.code y bytes maxL ret :: ws') (hdy : y.cls = C ∧ y.cls ≠ "java/lang/invoke/MethodHandle" ∧ y.cls ≠ "java/lang/invoke/VarHandle" ∧ (parseMethodDescriptor y.desc).map (fun d => d.parameters.length) = some N)
    (hrc : rm.cells = mc ∧ rm.slots = ms) (hR : rm.frames + 1 ≤ R.frames ∧ 8 + (maxL + 11) + rm.locals ≤ R.locals) (hk : k + mc ≤ R.cells ∧ n + ms ≤ R.slots) (hst : st0 = as.reverse ++ .ref b :: rest) (hN : as.length = N) (hcat : (rest.map fun v => v.category).sum ≤ 8)
    {ci : Nat} {fs : List Value} {q : vw_C} (q0 : Nat) (he : ws[q0]? = some (b, .inr (ci, fs))) (hc : vwCl[ci]? = some q) (hq : q.1 = C)
    (kk : sw Θ p e R s m args below meth c A Q nL (k + mc) (n + ms) (pc + 3) lv (o.toList ++ rest) w1) : sw Θ p e R s m args below meth c A Q nL k n pc lv st0 ws :=
  sw_callVR pc G E N hd hM hT hw hdy hrc hR hk hst hN hcat (fun H hP _ => by subst hq; exact va_recv G.2.2.2.2.2.1 hP hc he) kk
theorem sw_callVC (pc : Nat) (G : okG Θ p s m args c A nL cc own Ts) (E : Ev K A s s.heap) {mc ms ix : Nat} {C : String} {y : MethodName} {bytes : ByteArray} {maxL : Nat} {ret : Option FieldType} {wsY ws' : List Cond} {rm : Room} {as rest st0 : List Value} {o : Option Value} {b : Nat} {wc w1 ws : va_W} {lv : List (Nat × Value)} (ws2 : va_W) (isC isR isB : List Nat) (N : Nat)
    (hd : decode cc pc = .ok (.invokevirtual ix, 3)) (hM : FC Θ K mc ms y wsY rm (.ref b :: as) wc o w1) (hT : GoodIn Ts (wsV own ix C y wsY)) (hw : wsY = Cond.code y bytes maxL ret :: ws') (hdy : y.cls = C ∧ y.cls ≠ "java/lang/invoke/MethodHandle" ∧ y.cls ≠ "java/lang/invoke/VarHandle" ∧ (parseMethodDescriptor y.desc).map (fun d => d.parameters.length) = some N)
    (hrc : rm.cells = mc ∧ rm.slots = ms) (hR : rm.frames + 1 ≤ R.frames ∧ 8 + (maxL + 11) + rm.locals ≤ R.locals) (hk : k + mc ≤ R.cells ∧ n + ms ≤ R.slots) (hst : st0 = as.reverse ++ .ref b :: rest) (hN : as.length = N) (hcat : (rest.map fun v => v.category).sum ≤ 8)
    {ci : Nat} {fs : List Value} {q : vw_C} (q0 : Nat) (he : ws[q0]? = some (b, .inr (ci, fs))) (hc : vwCl[ci]? = some q) (hq : q.1 = C)
    (hC : isC.map (fun i => ws[i]?) = wc.map some) (hRr : isR.map (fun i => ws[i]?) = (va_pk ws isR).map some) (hB : isB.map (fun i => (va_pk ws isR ++ w1)[i]?) = ws2.map some) (hn : (va_nd isC && va_nd isR && va_nd isB && isR.all (fun i => !isC.contains i)) = true)
    (kk : sw Θ p e R s m args below meth c A Q nL (k + mc) (n + ms) (pc + 3) lv (o.toList ++ rest) ws2) : sw Θ p e R s m args below meth c A Q nL k n pc lv st0 ws :=
  sw_callVA pc G E N hd (FC.sub isC isR isB hC hRr hB hn hM) hT hw hdy hrc hR hk hst hN hcat q0 he hc hq kk
theorem sw_callSA (pc : Nat) (G : okG Θ p s m args c A nL cc own Ts) (E : Ev K A s s.heap) {mc ms ix : Nat} {y : MethodName} {bytes : ByteArray} {maxL : Nat} {ret : Option FieldType} {wsY ws' : List Cond} {rm : Room} {as rest st0 : List Value} {o : Option Value} {w1 ws : va_W} {lv : List (Nat × Value)} (N : Nat)
    (hd : decode cc pc = .ok (.invokestatic ix, 3)) (hM : FC Θ K mc ms y wsY rm as ws o w1) (hT : GoodIn Ts (va_wsS own ix y wsY)) (hw : wsY = Cond.code y bytes maxL ret :: ws') (hdy : y.cls ≠ "java/lang/invoke/MethodHandle" ∧ y.cls ≠ "java/lang/invoke/VarHandle" ∧ (parseMethodDescriptor y.desc).map (fun d => d.parameters.length) = some N)
    (hrc : rm.cells = mc ∧ rm.slots = ms) (hR : rm.frames + 1 ≤ R.frames ∧ 8 + (maxL + 11) + rm.locals ≤ R.locals) (hk : k + mc ≤ R.cells ∧ n + ms ≤ R.slots) (hst : st0 = as.reverse ++ rest) (hN : as.length = N) (hcat : (rest.map fun v => v.category).sum ≤ 8)
    (kk : sw Θ p e R s m args below meth c A Q nL (k + mc) (n + ms) (pc + 3) lv (o.toList ++ rest) w1) : sw Θ p e R s m args below meth c A Q nL k n pc lv st0 ws := by
  have ok : ∀ w ∈ va_wsS own ix y wsY, w.before args s = true := fun w h => G.2.2.2.2.1 w (hT w h).1
  have hT2 : GoodIn Ts wsY := fun w h => hT w (by unfold va_wsS; exact List.mem_append_right _ h)
  refine sw_runA (as := as.toArray) G E (fun H locs ls hl' hP hD hE => ?_) kk
  exact va_runS (Ts := Ts) (own := own) (nL := nL) (cc := cc) (As := as) (rest := rest) ⟨G.1, G.2.1, G.2.2.1, G.2.2.2.1, G.2.2.2.2.1⟩ (hM H.size) ⟨callB_of N G.2.2.2.2.1 hT2 hw hrc.1 hrc.2 (ok _ (by simp [va_wsS])) (ok _ (by simp [va_wsS])) hdy hR, ok _ (by simp [va_wsS])⟩ ⟨PreE.blind, preE_of G hP hD hE⟩ rfl hN hl'.1 hst (lv_room hcat) hd hk
/-- a static method with handlers -/
theorem sw_callSH (pc : Nat) (G : okG Θ p s m args c A nL cc own Ts) (E : Ev K A s s.heap) {mc ms ix : Nat} {y : MethodName} {bytes : ByteArray} {maxL : Nat} {ret : Option FieldType} {hh : List (Nat × Nat × Nat × Nat)} {wsY ws' : List Cond} {rm : Room} {as rest st0 : List Value} {o : Option Value} {w1 ws : va_W} {lv : List (Nat × Value)} (N : Nat)
    (hd : decode cc pc = .ok (.invokestatic ix, 3)) (hM : FC Θ K mc ms y wsY rm as ws o w1) (hT : GoodIn Ts (va_wsS own ix y wsY)) (hw : wsY = Cond.codeWith y bytes maxL ret hh :: ws') (hdy : y.cls ≠ "java/lang/invoke/MethodHandle" ∧ y.cls ≠ "java/lang/invoke/VarHandle" ∧ (parseMethodDescriptor y.desc).map (fun d => d.parameters.length) = some N)
    (hrc : rm.cells = mc ∧ rm.slots = ms) (hR : rm.frames + 1 ≤ R.frames ∧ 8 + (maxL + 11) + rm.locals ≤ R.locals) (hk : k + mc ≤ R.cells ∧ n + ms ≤ R.slots) (hst : st0 = as.reverse ++ rest) (hN : as.length = N) (hcat : (rest.map fun v => v.category).sum ≤ 8)
    (kk : sw Θ p e R s m args below meth c A Q nL (k + mc) (n + ms) (pc + 3) lv (o.toList ++ rest) w1) : sw Θ p e R s m args below meth c A Q nL k n pc lv st0 ws := by
  refine sw_runA (as := as.toArray) G E (fun H locs ls hl' hP hD hE => ?_) kk
  exact vx_runSW (Ts := Ts) (own := own) (nL := nL) (cc := cc) (As := as) (rest := rest) ⟨G.1, G.2.1, G.2.2.1, G.2.2.2.1, G.2.2.2.2.1⟩ (hM H.size) (vx_cwSW N G.2.2.2.2.1 hT hw hrc.1 hrc.2 hdy hR) ⟨PreE.blind, preE_of G hP hD hE⟩ rfl hN hl'.1 hst (lv_room hcat) hd hk
/-- a call that throws, caught here -/
theorem sw_callVX (pc : Nat) (G : okG Θ p s m args c A nL cc own Ts) (E : Ev K A s s.heap) {ix : Nat} {C : String} {y : MethodName} {bytes : ByteArray} {maxL : Nat} {ret : Option FieldType} {wsY ws' : List Cond} {rm : Room} {as rest st0 : List Value} {b : Nat} {w1 ws : va_W} {lv : List (Nat × Value)} {Ex name : String} (N : Nat)
    (hd : decode cc pc = .ok (.invokevirtual ix, 3)) (hM : FX Θ K y wsY rm (.ref b :: as) ws Ex w1) (hT : GoodIn Ts (wsV own ix C y wsY)) (hw : wsY = Cond.code y bytes maxL ret :: ws') (hdy : y.cls = C ∧ y.cls ≠ "java/lang/invoke/MethodHandle" ∧ y.cls ≠ "java/lang/invoke/VarHandle" ∧ (parseMethodDescriptor y.desc).map (fun d => d.parameters.length) = some N)
    (hrc : rm.cells = 1 ∧ rm.slots = 6) (hR : rm.frames + 1 ≤ R.frames ∧ 8 + (maxL + 11) + rm.locals ≤ R.locals) (hk : k + 1 ≤ R.cells ∧ n + 6 ≤ R.slots) (hst : st0 = as.reverse ++ .ref b :: rest) (hN : as.length = N) (hcat : (rest.map fun v => v.category).sum ≤ 8)
    {ci : Nat} {fs : List Value} {q : vw_C} (q0 : Nat) (he : ws[q0]? = some (b, .inr (ci, fs))) (hc : vwCl[ci]? = some q) (hq : q.1 = C)
    (pre : List ExceptionTableEntry) (x : ExceptionTableEntry) (suf : List ExceptionTableEntry) (hsplit : c.exceptionTable.toList = pre ++ x :: suf)
    (hpass : ∀ z ∈ pre, covers z pc = false ∨ (z.catchType ≠ 0 ∧ ∃ nm : String, (Cond.classLink own z.catchType nm).before args s = true ∧ va_Nc Ex nm s)) (hx : covers x pc = true) (h0 : x.catchType ≠ 0)
    (hlink : (Cond.classLink own x.catchType name).before args s = true) (hcast : (Cond.castable Ex name).before args s = true)
    (kk : ∀ q9 : Nat, sw Θ p e R s m args below meth c A Q nL (k + 1) (n + 6) x.handlerPc lv [.ref q9] w1) : sw Θ p e R s m args below meth c A Q nL k n pc lv st0 ws := by
  intro H locs ls hP hD hS hl
  have hFc := allA hD hS G.2.2.2.2.2.2.1
  have hE := (E.kept hS.2.1).narrow hFc
  intro T0 hT0 X
  subst hq
  have hr := vx_runV (l := Θ.1) (p := p) (e := e) (R := R) (s := s) (m := m) (args := args) (below := below) (meth := meth) (c := c) (H := H) (locs := locs) (cells := k) (slots := n) (Ts := Ts) (own := own) (nL := nL) (cc := cc) (As := as) (rest := rest) (g := F0 m pc ls st0) ⟨G.1, G.2.1, G.2.2.1, G.2.2.2.1, G.2.2.2.2.1⟩ (hM H.size) (cwV N G.2.2.2.2.1 hT hw hrc.1 hrc.2 hdy hR) ⟨PreE.blind, va_recv G.2.2.2.2.2.1 hP hc he, preE_of G hP (hD.weaken (fun _ _ _ _ => trivial)) hE⟩ rfl hN hl.1 hst (lv_room hcat) hd hk
  rcases hr T0 hT0 X with ⟨v, st₀, t, T', L, -, -, -, -, -, hf, -⟩ | ⟨q, st₀, t, T', L, E', ce, e0, X', hL, e1, e2, ⟨x1, x2, x3, x4⟩, hce, hcv, hcl, st⟩
  · exact absurd hf (fun z => z)
  · subst x1
    obtain ⟨k1, k2⟩ := x4
    have hk9 : ∀ q : Nat, q < H.size → ¬ va_A ws H.size q → T'.heap[q]? = H[q]? := fun q hq hA => by
      rw [e1, ← e0]; exact k2 q (by rw [e0]; exact hq) hA
    rw [← e1] at x2 hce
    have hz : H.size ≤ T'.heap.size := by rw [e1, ← e0]; exact k1
    have hS1 : va_S A s.heap T'.heap (locs ++ L) := ⟨Nat.le_trans hS.1 hz, fun q hq hA => (hk9 q (Nat.lt_of_lt_of_le hq hS.1) (fun h => hA (hFc q h))).trans (hS.2.1 q hq hA), fun z hz => (List.mem_append.mp hz).elim (fun h => hS.2.2 z h) (fun h => hFc _ (hL z h))⟩
    obtain ⟨w, a, b⟩ := vx_catch (own := own) (rest := rest) (ls := ls) (pc := pc) (Q := Q) (l := Θ.1) (p := p) (e := e) (R := R) (s := s) (m := m) (args := args) (below := below) (meth := meth) (c := c) (H := T'.heap) (locs := locs ++ L) (cells := k + 1) (slots := n + 6) G.2.2.2.1 pre x suf hsplit hpass hx h0 hlink hcast hce hcv hcl (kk q T'.heap (locs ++ L) ls x2 ⟨x3.1, fun i q hq => hFc _ (x3.2 i q hq)⟩ hS1 hl) T' rfl X'
    exact ⟨w, st.trans a, b⟩
/-- new E(text), thrown -/
theorem throw_out {H : Heap} {locs : List Loc} {w0 w1 : va_W} {Ex : String} (hP : va_P Θ.2.1 vwCl w1 H) (hD : va_D (va_A w0 s.heap.size) w1) (hS : va_S (va_A w0 s.heap.size) s.heap H locs) : ∀ t : State, s.vm.Alike t.vm → H.size ≤ t.heap.size → (∀ q : Nat, q < H.size → t.heap[q]? = H[q]?) → XE Θ w0 w1 Ex s.heap.size Ex s t := fun t _ h1 h2 =>
  ⟨rfl, hP.kept (fun k q hk => h2 _ (hP k q hk).lt), hD, Nat.le_trans hS.1 h1, fun q hq hA => (h2 q (Nat.lt_of_lt_of_le hq hS.1)).trans (hS.2.1 q hq hA)⟩
theorem sw_throwS (pc : Nat) (G : okG Θ p s m args c A nL cc own Ts) (E : Ev K A s s.heap) (hl : Θ.1.stackTraces = false) {ik is ic : Nat} {text Ex : String} {w0 w1 : va_W} {lv : List (Nat × Value)} {rest : List Value} (KX : okRX Θ s args below meth c A Q w0 w1 Ex)
    (hfit : Bundle.fit Ex = true) (hk : Cond.classLink own ik Ex ∈ Ts) (hini : Cond.initialized Ex ∈ Ts) (hstr : (is, text) ∈ thL) (ho : own = RX5) (hat : ∀ w ∈ (vx_atS own ic Ex eNm).filter goodWord, w ∈ Ts) (hbad : ∀ w ∈ (vx_atS own ic Ex eNm).filter (fun w => !goodWord w), w ∈ evB)
    (hgood : ∀ w ∈ Cond.classLink own ik Ex :: Cond.initialized Ex :: vx_atS own ic Ex eNm, vx_ot w = true)
    (d0 : decode cc pc = .ok (.new ik, 3)) (d3 : decode cc (pc + 3) = .ok (.dup, 1)) (d4 : decode cc (pc + 4) = .ok (.ldc is, 2)) (d6 : decode cc (pc + 6) = .ok (.invokespecial ic, 3)) (d9 : decode cc (pc + 9) = .ok (.athrow, 1))
    (hRf : 6 ≤ R.frames) (hRl : (rest.map fun v => v.category).sum + 82 ≤ R.locals) (hRc : 1 ≤ R.cells) (hRs : 6 ≤ R.slots) : sw Θ p e R s m args below meth c A Q nL 0 0 pc lv rest w1 := by
  intro H locs ls hP hD hS hlv
  obtain ⟨rfl, rfl, hlk, hno⟩ := KX
  obtain ⟨sa, hsa⟩ := E.2.2.2.2.2.2.1 _ hstr
  subst ho
  exact vx_throwS (sa := sa) (text := text) (names := eNm) (A := va_A w0 s.heap.size) G.1 G.2.1 hl G.2.2.2.1 hfit (by decide) (G.2.2.2.2.1 _ hk) (G.2.2.2.2.1 _ hini) hsa
    (vx_hat (B := evB) (fun w hw => G.2.2.2.2.1 w (hat w hw)) hbad (fun w hw => va_Nw.use (evB_tab hw) (E.2.2.2.2.2.2.2.1 w hw))) hgood E.2.2.1 E.2.2.2.1 hS (hlv.1.trans G.2.2.1.symm) d0 d3 d4 d6 d9 (fun x hx => absurd (hno x hx) (fun z => z)) (by show 2 + 3 < R.frames; omega) hRl (by omega) (by omega) hlk (throw_out hP hD hS) hS.2.2 (Nat.le_refl _) (Nat.le_refl _)
theorem sw_throwSW (pc : Nat) (G : okG Θ p s m args c A nL cc own Ts) (E : Ev K A s s.heap) (hl : Θ.1.stackTraces = false) {ik is ic : Nat} {text Ex : String} {w0 w1 : va_W} {lv : List (Nat × Value)} {rest : List Value} (KX : okRX Θ s args below meth c A Q w0 w1 Ex)
    (hfit : Bundle.fit Ex = true) (hk : Cond.classLink own ik Ex ∈ Ts) (hini : Cond.initialized Ex ∈ Ts) (hstr : (is, text) ∈ thL) (ho : own = RX5) (hat : ∀ w ∈ (vx_atS own ic Ex eNm).filter goodWord, w ∈ Ts) (hbad : ∀ w ∈ (vx_atS own ic Ex eNm).filter (fun w => !goodWord w), w ∈ evB)
    (hgood : ∀ w ∈ Cond.classLink own ik Ex :: Cond.initialized Ex :: vx_atS own ic Ex eNm, vx_ot w = true)
    (d0 : decode cc pc = .ok (.new ik, 3)) (d3 : decode cc (pc + 3) = .ok (.dup, 1)) (d4 : decode cc (pc + 4) = .ok (.ldc_w is, 3)) (d7 : decode cc (pc + 7) = .ok (.invokespecial ic, 3)) (d10 : decode cc (pc + 10) = .ok (.athrow, 1))
    (hRf : 6 ≤ R.frames) (hRl : (rest.map fun v => v.category).sum + 82 ≤ R.locals) (hRc : 1 ≤ R.cells) (hRs : 6 ≤ R.slots) : sw Θ p e R s m args below meth c A Q nL 0 0 pc lv rest w1 := by
  intro H locs ls hP hD hS hlv
  obtain ⟨rfl, rfl, hlk, hno⟩ := KX
  obtain ⟨sa, hsa⟩ := E.2.2.2.2.2.2.1 _ hstr
  subst ho
  exact vx_throwSW (sa := sa) (text := text) (names := eNm) (A := va_A w0 s.heap.size) G.1 G.2.1 hl G.2.2.2.1 hfit (by decide) (G.2.2.2.2.1 _ hk) (G.2.2.2.2.1 _ hini) hsa
    (vx_hat (B := evB) (fun w hw => G.2.2.2.2.1 w (hat w hw)) hbad (fun w hw => va_Nw.use (evB_tab hw) (E.2.2.2.2.2.2.2.1 w hw))) hgood E.2.2.1 E.2.2.2.1 hS (hlv.1.trans G.2.2.1.symm) d0 d3 d4 d7 d10 (fun x hx => absurd (hno x hx) (fun z => z)) (by show 2 + 3 < R.frames; omega) hRl (by omega) (by omega) hlk (throw_out hP hD hS) hS.2.2 (Nat.le_refl _) (Nat.le_refl _)
end SW4
theorem exA_in : ∀ w ∈ (vx_atS RX5 49 eIA eNm).filter goodWord, w ∈ GW := fun w h => List.mem_filter.mpr ⟨(show ∀ w ∈ (vx_atS RX5 49 eIA eNm).filter goodWord, w ∈ lw_tbl by decide +kernel) w h, (List.mem_filter.mp h).2⟩
theorem exS_in : ∀ w ∈ (vx_atS RX5 110 eIS eNm).filter goodWord, w ∈ GW := fun w h => List.mem_filter.mpr ⟨(show ∀ w ∈ (vx_atS RX5 110 eIS eNm).filter goodWord, w ∈ lw_tbl by decide +kernel) w h, (List.mem_filter.mp h).2⟩
theorem exB_in : ∀ w ∈ (vx_atS RX5 125 eIB eNm).filter goodWord, w ∈ GW := fun w h => List.mem_filter.mpr ⟨(show ∀ w ∈ (vx_atS RX5 125 eIB eNm).filter goodWord, w ∈ lw_tbl by decide +kernel) w h, (List.mem_filter.mp h).2⟩
theorem exA_bad : ∀ w ∈ (vx_atS RX5 49 eIA eNm).filter (fun w => !goodWord w), w ∈ evB := by decide +kernel
theorem exS_bad : ∀ w ∈ (vx_atS RX5 110 eIS eNm).filter (fun w => !goodWord w), w ∈ evB := by decide +kernel
theorem exB_bad : ∀ w ∈ (vx_atS RX5 125 eIB eNm).filter (fun w => !goodWord w), w ∈ evB := by decide +kernel
