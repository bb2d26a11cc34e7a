/-! new objects and arrays; constructors: contracts of methods that make cells, where the new addresses come with the answer -/
theorem ra_one {U : State} {cA cB : ClassId} {ty : FieldType} (h1 : va_RA U cA ty) (h2 : va_RA U cB ty) : cA = cB := by
  cases ty with
  | object C =>
    obtain ⟨_, _, _, _, _, e1⟩ := h1
    obtain ⟨_, _, _, _, _, e2⟩ := h2
    exact Option.some.inj (e1.symm.trans e2)
  | _ => exact Option.some.inj (Eq.trans (Eq.symm h1) h2)
abbrev sSt : String := "StripDie$State"
def PreN (Θ : Tht) (w0 : va_W) (sz : Nat) (U : State) : Prop := Pre Θ w0 sz U ∧ va_AO sSt U
theorem PreN.blind {Θ : Tht} {as : List Value} {w0 : va_W} {sz : Nat} : FrameBlind (va_Pc as (PreN Θ w0 sz)) := fun a U g mk q =>
  have r := Pre.blind a U g mk (⟨q.1, q.2.1⟩ : va_Pc as (Pre Θ w0 sz) a U)
  ⟨r.1, r.2, va_AO.moved (u := U) (U := U.calling g mk a) (Vm.Alike.refl U.vm) q.2.2⟩
def PstN (Θ : Tht) (w0 : va_W) (w1 : (Nat → Nat) → va_W) (sz : Nat) : Array Value → State → Outcome → State → Prop := fun _ st oc t =>
  oc = .returned none ∧ ∃ ad : Nat → Nat, va_P Θ.2.1 vwCl (w1 ad) t.heap ∧ va_D (va_A w0 sz) (w1 ad) ∧ va_F (va_A w0 sz) st t
/-- a constructor: mc cells of ms slots are made -/
def FN (Θ : Tht) (mc ms : Nat) (y : MethodName) (ws : List Cond) (rm : Room) (b : Nat) (w0 : va_W) (w1 : (Nat → Nat) → va_W) : Prop :=
  ∀ sz : Nat, Met Θ.1 y ws rm (va_Pc [.ref b] (PreN Θ w0 sz)) (PstN Θ w0 w1 sz) mc ms (va_A w0 sz)
def okN (Θ : Tht) (s : State) (args : Array Value) (below : List Frame) (meth : Method) (A : Nat → Prop) (Q : State → Prop) (w0 : va_W) (w1 : (Nat → Nat) → va_W) (mc ms : Nat) : Prop :=
  Q = MQ below (PstN Θ w0 w1 s.heap.size) args s mc ms A ∧ A = va_A w0 s.heap.size ∧ meth.sig.returnType = none ∧ meth.locks = false
theorem FN.of {Θ : Tht} {mc ms : Nat} {y : MethodName} {ws ws' : List Cond} {rm : Room} {b : Nat} {w0 : va_W} {w1 : (Nat → Nat) → va_W} {cc : ByteArray} {maxL : Nat} (hy : plainName y.cls = true) (hw : ws = Cond.code y cc maxL none :: ws') (hnm : y.name = "<init>") (hlen : 1 ≤ maxL)
    (body : ∀ (p : Program) (e : Env) (s : State) (m : MethodId) (args : Array Value) (below : List Frame) (meth : Method) (c : Code) (A : Nat → Prop) (Q : State → Prop), okG Θ p s m args c A maxL cc y.cls ws → okN Θ s args below meth A Q w0 w1 mc ms → va_AO sSt s → meth.name = "<init>" → sw Θ p e rm s m args below meth c A Q maxL 0 0 0 [(0, .ref b)] [] w0) : FN Θ mc ms y ws rm b w0 w1 := by
  intro sz
  refine Met.ofW (cc := cc) (maxL := maxL) (ret := none) hy hw ?_
  intro p e s m args below meth c s₁ B hml hv
  obtain ⟨rfl, ⟨hsz, hP, hK, hD0, hN⟩, hAO⟩ := hv
  subst hsz
  have hts := atoms_spec (ws := ws) B.pre
  have hown : s.vm.findClass y.cls = some m.cls := findClass_of_methodNamed B.named
  have hin : meth.name = "<init>" := (name_of_methodNamed B.named B.method).1.trans hnm
  have hl := lv_entry ([.ref b] : List Value) (n := maxL) hlen
  rw [lg_entry_eq]
  exact body p e s m _ below meth c _ _ ⟨B.exec, B.bytes, hml, hown, hts, hK, fun q h => Or.inr h, hN⟩ ⟨rfl, rfl, B.returns, B.notSynchronized⟩ hAO hin s.heap [] _ hP (hD0.self) va_S.rf hl
section SW7
variable {Θ : Tht} {p : Program} {e : Env} {R : Room} {s : State} {m : MethodId} {args : Array Value} {below : List Frame} {meth : Method} {c : Code} {A : Nat → Prop} {Q : State → Prop} {nL k n : Nat} {cc : ByteArray} {own : String} {Ts : List Cond}
theorem sw_objInit (pc : Nat) (G : okG Θ p s m args c A nL cc own Ts) {ix a : Nat} {rest : List Value} {lv : List (Nat × Value)} {ws : va_W} (hd : decode cc pc = .ok (.invokespecial ix, 3)) (h1 : Cond.methodLink own ix Lib.objectInit ∈ Ts) (h2 : Cond.instanceMethod Lib.objectInit ∈ Ts) (h3 : Cond.code Lib.objectInit ⟨#[0xb1]⟩ 1 none ∈ Ts) (hfr : 1 ≤ R.frames) (hlo : (rest.map fun v => v.category).sum + 12 ≤ R.locals) (kk : sw Θ p e R s m args below meth c A Q nL k n (pc + 3) lv rest ws) : sw Θ p e R s m args below meth c A Q nL k n pc lv (.ref a :: rest) ws := by
  intro H locs ls hP hD hS hl
  refine W.objInit G.1 G.2.1 G.2.2.2.1 (G.2.2.2.2.1 _ h1) (G.2.2.2.2.1 _ h2) (G.2.2.2.2.1 _ h3) rfl (hl.1.trans G.2.2.1.symm) rfl hd hfr (by show 2 * 0 + (rest.map fun v => v.category).sum + 12 ≤ R.locals; omega) ?_
  exact W.eq (g2 := F0 m (pc + 3) ls rest) rfl (kk H locs ls hP hD hS hl)
theorem sw_new (pc : Nat) (G : okG Θ p s m args c A nL cc own Ts) {C : String} {T : u_T} {N ci ix : Nat} {fs : List Value} {st : List Value} {lv : List (Nat × Value)} {ws : va_W} (hin : ∀ w ∈ u_ws C T N, w ∈ Ts) {ty : Nat → FieldType} (hty : ∀ k, k < N → parseFieldDescriptor (T k).2.2.1 = some (ty k)) (hd : decode cc pc = .ok (.new ix, 3)) (h1 : Cond.classLink own ix C ∈ Ts) (h2 : Cond.instantiable C N ∈ Ts) (h3 : Cond.initialized C ∈ Ts) (hc : vwCl[ci]? = some (C, T, N)) (hfs : ∀ j, j < N → defaultValue (ty j) = vp_V fs j) (hk : k + 1 ≤ R.cells ∧ n + N ≤ R.slots)
    (kk : ∀ q9 : Nat, sw Θ p e R s m args below meth c A Q nL (k + 1) (n + N) (pc + 3) lv (.ref q9 :: st) (ws ++ [(q9, .inr (ci, fs))])) : sw Θ p e R s m args below meth c A Q nL k n pc lv st ws := by
  intro H locs ls hP hD hS hl
  exact va_new G.1 G.2.1 G.2.2.2.2.1 hin ty hty G.2.2.2.1 (G.2.2.2.2.1 _ h1) (G.2.2.2.2.1 _ h2) (G.2.2.2.2.1 _ h3) G.2.2.2.2.2.1 hP hD hS G.2.2.2.2.2.2.1 hc hfs hk.1 hk.2 hd (fun q H1 hP1 hD1 hS1 => kk q H1 locs ls hP1 hD1 hS1 hl)
theorem sw_newa (pc : Nat) (G : okG Θ p s m args c A nL cc own Ts) {atype : ArrayType} {ty : FieldType} {N : Nat} {z : Int32} {a0 : vp_A} {st : List Value} {lv : List (Nat × Value)} {ws : va_W} {cB : ClassId} (t0 : Nat) (ht : (tyw Θ)[t0]? = some (cB, ty)) (hd : decode cc pc = .ok (.newarray atype, 2)) (h1 : Cond.arrayClass (newarray.typeOf atype) ∈ Ts) (hty : newarray.typeOf atype = ty) (ha : ∀ cA : ClassId, vp_cell cA a0 = arrV cA N (fun _ => defaultValue ty)) (hn : ¬ z < 0) (hN : z.toNatClampNeg = N) (hb : N * componentBytes ty ≤ 536870912) (hk : k + 1 ≤ R.cells ∧ n + N ≤ R.slots)
    (kk : ∀ q9 : Nat, sw Θ p e R s m args below meth c A Q nL (k + 1) (n + N) (pc + 2) lv (.ref q9 :: st) (ws ++ [(q9, .inl (cB, a0))])) : sw Θ p e R s m args below meth c A Q nL k n pc lv (.int z :: st) ws := by
  intro H locs ls hP hD hS hl
  exact va_newa G.1 G.2.1 (G.2.2.2.2.1 _ h1) hty G.2.2.2.2.2.1 hP hD hS G.2.2.2.2.2.2.1 ha hn hN hb hk.1 hk.2 hd (fun q cA H1 hK1 hP1 hD1 hS1 => by
    have e1 : cA = cB := ra_one (hK1.2 4 (cA, ty) rfl).2 (G.2.2.2.2.2.1.2 t0 _ ht).2
    subst e1
    exact kk q H1 locs ls hP1 hD1 hS1 hl)
theorem sw_newq (pc : Nat) (G : okG Θ p s m args c A nL cc own Ts) {ix N : Nat} {z : Int32} {st : List Value} {lv : List (Nat × Value)} {ws : va_W} (hd : decode cc pc = .ok (.anewarray ix, 3)) (h1 : Cond.classLink own ix sSt ∈ Ts) (hAO : va_AO sSt s) (hn : ¬ z < 0) (hN : z.toNatClampNeg = N) (hb : N * 4 ≤ 536870912) (hk : k + 1 ≤ R.cells ∧ n + N ≤ R.slots)
    (kk : ∀ q9 : Nat, sw Θ p e R s m args below meth c A Q nL (k + 1) (n + N) (pc + 3) lv (.ref q9 :: st) (ws ++ [(q9, .inl (Θ.2.2 3, N, .inr (.inr (.inr (.inr (fun _ => none))))))])) : sw Θ p e R s m args below meth c A Q nL k n pc lv (.int z :: st) ws := by
  intro H locs ls hP hD hS hl
  exact va_newq G.1 G.2.1 G.2.2.2.1 (G.2.2.2.2.1 _ h1) hAO G.2.2.2.2.2.1 hP hD hS G.2.2.2.2.2.2.1 hn hN hb hk.1 hk.2 hd (fun q cA H1 hK1 hP1 hD1 hS1 => by
    have e1 : cA = Θ.2.2 3 := ra_one (hK1.2 4 (cA, .object sSt) rfl).2 (G.2.2.2.2.2.1.2 3 _ rfl).2
    subst e1
    exact kk q H1 locs ls hP1 hD1 hS1 hl)
theorem sw_astq (pc : Nat) (G : okG Θ p s m args c A nL cc own Ts) (q0 qk : Nat) {a N v : Nat} {vs : List Value} {f : Nat → Option Nat} {i : Int32} {st : List Value} {lv : List (Nat × Value)} {ws : va_W} (ws2 : va_W) (hd : decode cc pc = .ok (.aastore, 1)) (ha : ws[q0]? = some (a, .inl (Θ.2.2 3, N, .inr (.inr (.inr (.inr f)))))) (hv : ws[qk]? = some (v, .inr (4, vs))) (hin : vp_in i N) (hw : ws.set q0 (a, .inl (Θ.2.2 3, N, .inr (.inr (.inr (.inr (va_up f i.toNatClampNeg (some v))))))) = ws2)
    (kk : sw Θ p e R s m args below meth c A Q nL k n (pc + 1) lv st ws2) : sw Θ p e R s m args below meth c A Q nL k n pc lv (.ref v :: .int i :: .ref a :: st) ws := by
  intro H locs ls hP hD hS hl
  exact va_astq G.1 G.2.1 G.2.2.2.2.2.1 hP hD hS q0 3 qk 4 ha (r := (RX4, TX4, 2)) rfl hv vc4 hin hd (fun H1 locs1 hP1 hD1 hS1 => kk H1 locs1 ls (hw ▸ hP1) (hw ▸ hD1) hS1 hl)
theorem sw_putF (pc : Nat) (G : okG Θ p s m args c A nL cc own Ts) {C : String} {T : u_T} {N ci ix : Nat} (hin : ∀ w ∈ u_ws C T N, w ∈ Ts) {ty0 : Nat → FieldType} (hty : ∀ k, k < N → parseFieldDescriptor (T k).2.2.1 = some (ty0 k)) (hnm : ∀ a, a < N → ∀ b, b < N → a ≠ b → (T a).2.1 ≠ (T b).2.1) (q0 fk : Nat) {a : Nat} {fs : List Value} {v : Value} {ty : FieldType} {lv : List (Nat × Value)} {st : List Value} {ws : va_W} (ws2 : va_W) (hd : decode cc pc = .ok (.putfield ix, 3)) (hc : vwCl[ci]? = some (C, T, N)) (hk : fk < N) (hlink : Cond.fieldLink own ix (T fk).1 (T fk).2.1 (T fk).2.2.1 ∈ Ts) (hfin : (T fk).2.2.2 = true) (hin2 : meth.name = "<init>") (hdecl : (T fk).1 = own) (he : ws[q0]? = some (a, .inr (ci, fs))) (hl0 : fk < fs.length) (hdd : parseFieldDescriptor (T fk).2.2.1 = some ty) (hn : narrow ty v = v) (hfit : fits ty v = true) (hw : ws.set q0 (a, .inr (ci, fs.set fk v)) = ws2) (kk : sw Θ p e R s m args below meth c A Q nL k n (pc + 3) lv st ws2) : sw Θ p e R s m args below meth c A Q nL k n pc lv (v :: .ref a :: st) ws := by
  intro H locs ls hP hD hS hl
  exact va_putF G.1 G.2.1 G.2.2.2.2.1 hin ty0 hty hnm G.2.2.2.1 G.2.2.2.2.2.1 hP hD hS q0 he hc fk hk (G.2.2.2.2.1 _ hlink) (fun _ h => h) hfin hin2 hdecl hdd hn hfit hl0 hd (fun H1 locs1 hP1 hD1 hS1 => kk H1 locs1 ls (hw ▸ hP1) (hw ▸ hD1) hS1 hl)
/-- behind a constructor's call -/
theorem sw_runN {pc : Nat} {st0 rest : List Value} {lv : List (Nat × Value)} (G : okG Θ p s m args c A nL cc own Ts) {as : Array Value} {wr w0 : va_W} {w1 : (Nat → Nat) → va_W} {mc ms : Nat}
    (hr : ∀ (H : Heap) (locs : List Loc) (ls : Array Slot), lv_has ls nL lv → va_P Θ.2.1 vwCl w0 H → va_D (fun _ => True) w0 → va_Run p Θ.1 e R s m args below meth c H locs k n mc ms (F0 m pc ls st0) rest (PstN Θ w0 w1 H.size as) (va_A w0 H.size))
    (kk : ∀ ad : Nat → Nat, sw Θ p e R s m args below meth c A Q nL (k + mc) (n + ms) (pc + 3) lv rest (wr ++ w1 ad)) : sw Θ p e R s m args below meth c A Q nL k n pc lv st0 (wr ++ w0) := by
  intro H locs ls hP hD hS hl
  have hC := rg_R wr w0
  have hFc : ∀ q, va_A w0 H.size q → A q := va_free hD hS G.2.2.2.2.2.2.1 _ hC
  have hPc := hP.sub _ (fm_of_map hC)
  have hDc : va_D A w0 := hD.sub _ (nd_range' _ _) hC
  intro T hT X
  obtain ⟨v, st₀, t, T', L, e0, X', hL, e1, e2, ⟨h1, ad, h2, h3, h4⟩, st⟩ := hr H locs ls hl hPc (hDc.weaken (fun _ _ _ _ => trivial)) T hT X
  cases h1
  obtain ⟨k1, k2⟩ := h4
  have hk : ∀ q : Nat, q < H.size → ¬ va_A w0 H.size q → T'.heap[q]? = H[q]? := fun q hq hA => by
    rw [e1, ← e0]; exact k2 q (by rw [e0]; exact hq) hA
  rw [← e1] at h2
  obtain ⟨hP1, hD1⟩ := va_join (wr := wr) (w1 := w1 ad) hP hD _ _ hC (rg_L wr w0) (nd_range' _ _) (fun i hi hj => by rw [List.mem_range'_1] at hi hj; omega) hk hFc h2 h3
  have hz : H.size ≤ T'.heap.size := by rw [e1, ← e0]; exact k1
  have hS1 : va_S A s.heap T'.heap (locs ++ L) := ⟨Nat.le_trans hS.1 hz, fun q hq hA => (hk q (Nat.lt_of_lt_of_le hq hS.1) (fun h => hA (hFc q h))).trans (hS.2.1 q hq hA), fun z hz => (List.mem_append.mp hz).elim (fun h => hS.2.2 z h) (fun h => hFc _ (hL z h))⟩
  obtain ⟨w, a, b⟩ := kk ad T'.heap (locs ++ L) ls hP1 hD1 hS1 hl T' rfl X'
  exact ⟨w, st w a, b⟩
theorem preN_of {H : Heap} {ws : va_W} {as : List Value} (G : okG Θ p s m args c A nL cc own Ts) (hAO : va_AO sSt s) (hP : va_P Θ.2.1 vwCl ws H) (hD : va_D (fun _ => True) ws) : ∀ U : State, U.heap = H → s.WarmedH U.vm → va_Pc as (PreN Θ ws H.size) as.toArray U := fun U hU hW =>
  ⟨rfl, ⟨by rw [hU], by rw [hU]; exact hP, va_K.moved hW.alike G.2.2.2.2.2.1, hD, G.2.2.2.2.2.2.2.warm hW⟩, va_AO.moved hW.alike hAO⟩
/-- a nest mate's constructor -/
theorem sw_initN (pc : Nat) (G : okG Θ p s m args c A nL cc own Ts) (hAO : va_AO sSt s) {mc ms ix : Nat} {host : String} {y : MethodName} {bytes : ByteArray} {maxL : Nat} {wsY ws' : List Cond} {rm : Room} {b : Nat} {rest : List Value} {wr w0 : va_W} {w1 : (Nat → Nat) → va_W} {lv : List (Nat × Value)}
    (hd : decode cc pc = .ok (.invokespecial ix, 3)) (hM : FN Θ mc ms y wsY rm b w0 w1) (hT : GoodIn Ts wsY) (hl : (own, ix, y, host) ∈ nwL) (hini : Cond.initialized y.cls ∈ Ts) (hinst : Cond.instanceMethod y ∈ Ts) (hw : wsY = Cond.code y bytes maxL none :: ws') (hy1 : y.name = "<init>") (hdy : y.cls ≠ "java/lang/invoke/MethodHandle" ∧ y.cls ≠ "java/lang/invoke/VarHandle" ∧ (parseMethodDescriptor y.desc).map (fun d => d.parameters.length) = some 0)
    (hrc : rm.cells = mc ∧ rm.slots = ms) (hR : rm.frames + 1 ≤ R.frames ∧ 8 + (maxL + 11) + rm.locals ≤ R.locals) (hk : k + mc ≤ R.cells ∧ n + ms ≤ R.slots) (hcat : (rest.map fun v => v.category).sum ≤ 8)
    (kk : ∀ ad : Nat → Nat, sw Θ p e R s m args below meth c A Q nL (k + mc) (n + ms) (pc + 3) lv rest (wr ++ w1 ad)) : sw Θ p e R s m args below meth c A Q nL k n pc lv (.ref b :: rest) (wr ++ w0) := by
  refine sw_runN (as := (Value.ref b :: ([] : List Value)).toArray) G (fun H locs ls hl' hP hD => ?_) kk
  exact va_runIN (Ts := Ts) (own := own) (nL := nL) (cc := cc) (As := []) (rest := rest) ⟨G.1, G.2.1, G.2.2.1, G.2.2.2.1, G.2.2.2.2.1⟩ (hM H.size) ⟨va_cnB 0 G.2.2.2.2.1 hT hw hrc.1 hrc.2 (G.2.2.2.2.2.2.2 _ hl) (G.2.2.2.2.1 _ hini) hdy hR, hy1, G.2.2.2.2.1 _ hinst⟩ ⟨PreN.blind, preN_of G hAO hP hD⟩ rfl rfl hl'.1 rfl (lv_room hcat) hd hk
/-- a constructor, by its link -/
theorem sw_initC (pc : Nat) (G : okG Θ p s m args c A nL cc own Ts) (hAO : va_AO sSt s) {mc ms ix : Nat} {y : MethodName} {bytes : ByteArray} {maxL : Nat} {wsY ws' : List Cond} {rm : Room} {b : Nat} {rest : List Value} {wr w0 : va_W} {w1 : (Nat → Nat) → va_W} {lv : List (Nat × Value)}
    (hd : decode cc pc = .ok (.invokespecial ix, 3)) (hM : FN Θ mc ms y wsY rm b w0 w1) (hT : GoodIn Ts wsY) (hl : Cond.methodLink own ix y ∈ Ts) (hini : Cond.initialized y.cls ∈ Ts) (hinst : Cond.instanceMethod y ∈ Ts) (hw : wsY = Cond.code y bytes maxL none :: ws') (hy1 : y.name = "<init>") (hdy : y.cls ≠ "java/lang/invoke/MethodHandle" ∧ y.cls ≠ "java/lang/invoke/VarHandle" ∧ (parseMethodDescriptor y.desc).map (fun d => d.parameters.length) = some 0)
    (hrc : rm.cells = mc ∧ rm.slots = ms) (hR : rm.frames + 1 ≤ R.frames ∧ 8 + (maxL + 11) + rm.locals ≤ R.locals) (hk : k + mc ≤ R.cells ∧ n + ms ≤ R.slots) (hcat : (rest.map fun v => v.category).sum ≤ 8)
    (kk : ∀ ad : Nat → Nat, sw Θ p e R s m args below meth c A Q nL (k + mc) (n + ms) (pc + 3) lv rest (wr ++ w1 ad)) : sw Θ p e R s m args below meth c A Q nL k n pc lv (.ref b :: rest) (wr ++ w0) := by
  refine sw_runN (as := (Value.ref b :: ([] : List Value)).toArray) G (fun H locs ls hl' hP hD => ?_) kk
  exact va_runI (Ts := Ts) (own := own) (nL := nL) (cc := cc) (As := []) (rest := rest) ⟨G.1, G.2.1, G.2.2.1, G.2.2.2.1, G.2.2.2.2.1⟩ (hM H.size) (cwI 0 G.2.2.2.2.1 hT hw hrc.1 hrc.2 (G.2.2.2.2.1 _ hini) (G.2.2.2.2.1 _ hl) (G.2.2.2.2.1 _ hinst) hy1 hdy hR) ⟨PreN.blind, preN_of G hAO hP hD⟩ rfl rfl hl'.1 rfl (lv_room hcat) hd hk
/-- another order of the world -/
theorem sw_perm {pc : Nat} {lv : List (Nat × Value)} {st : List Value} {ws ws' : va_W} (hp : ws.Perm ws') (kk : sw Θ p e R s m args below meth c A Q nL k n pc lv st ws') : sw Θ p e R s m args below meth c A Q nL k n pc lv st ws := fun H locs ls hP hD hS hl => kk H locs ls (va_P_perm hp hP) (va_D_perm hp hD) hS hl
theorem sw_eqw {pc : Nat} {lv : List (Nat × Value)} {st : List Value} {ws : va_W} (ws' : va_W) (h : ws = ws') (kk : sw Θ p e R s m args below meth c A Q nL k n pc lv st ws') : sw Θ p e R s m args below meth c A Q nL k n pc lv st ws := h ▸ kk
theorem sw_retN (pc : Nat) (G : okG Θ p s m args c A nL cc own Ts) {mc ms : Nat} {w0 ws : va_W} {w1 : (Nat → Nat) → va_W} {lv : List (Nat × Value)} (ad : Nat → Nat) (hp : ws.Perm (w1 ad)) (hd : decode cc pc = .ok (.return_, 1)) (KK : okN Θ s args below meth A Q w0 w1 mc ms) (h1 : k ≤ mc) (h2 : n ≤ ms) : sw Θ p e R s m args below meth c A Q nL k n pc lv [] ws := by
  intro H locs ls hP hD hS hl
  obtain ⟨rfl, rfl, hr, hlk⟩ := KK
  exact W.widen h1 h2 (W.vret G.1 G.2.1 hr (fun t ht hW => ⟨rfl, ad, by rw [ht]; exact va_P_perm hp hP, va_D_perm hp hD, hS.F ht⟩) hS.2.2 hd hlk)
end SW7
