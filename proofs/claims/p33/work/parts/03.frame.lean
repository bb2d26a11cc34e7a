abbrev vwCl : List vw_C := [(RX0, TX0, 5), (RX1, TX1, 10), (RX2, TX2, 8), (RX3, TX3, 9), (RX4, TX4, 2), (RX5, TX5, 7)]
def nwL : List (String × Nat × MethodName × String) := [("StripDie", 11, ⟨"StripDie$State", "<init>", "()V"⟩, "StripDie"), ("StripDie$State", 9, ⟨"StripDie$Die", "<init>", "()V"⟩, "StripDie"), ("StripDie$State", 18, ⟨"StripDie$Press", "<init>", "()V"⟩, "StripDie"), ("StripDie", 22, ⟨"StripDie$Press", "<init>", "()V"⟩, "StripDie"), ("StripDie", 29, ⟨"StripDie$Planner", "<init>", "()V"⟩, "StripDie"), ("StripDie", 36, ⟨"StripDie$CommandText", "<init>", "()V"⟩, "StripDie"), ("StripDie$Die", 45, ⟨"StripDie", "copyInts", "([I[I)V"⟩, "StripDie"), ("StripDie$Die", 49, ⟨"StripDie", "copyLongs", "([J[J)V"⟩, "StripDie"), ("StripDie$Press", 29, ⟨"StripDie", "copyLongs", "([J[J)V"⟩, "StripDie"), ("StripDie$Press", 33, ⟨"StripDie", "copyInts", "([I[I)V"⟩, "StripDie"), ("StripDie$Die", 53, ⟨"StripDie", "isIn", "(II)Z"⟩, "StripDie"), ("StripDie$Press", 59, ⟨"StripDie", "isIn", "(II)Z"⟩, "StripDie"), ("StripDie$Planner", 77, ⟨"StripDie", "isIn", "(II)Z"⟩, "StripDie")]
/-! THE FRAME: a method's walk as 'sw' (pc, locals, stack, world), its contract as 'Fn' (arguments, world, answer, world). Written by wip/gen/frame.py -/
abbrev Tht : Type := Launch × va_G × (Nat → ClassId)
def tyw (Θ : Tht) : List (ClassId × FieldType) := [(Θ.2.2 0, .byte), (Θ.2.2 1, .int), (Θ.2.2 2, .long), (Θ.2.2 3, .object "StripDie$State")]
def nwOK (U : State) : Prop := ∀ q ∈ nwL, va_Nw (.methodLinkNest q.1 q.2.1 q.2.2.1 q.2.2.2) U
theorem nwOK.same {u U : State} (h : u.vm = U.vm) (H : nwOK u) : nwOK U := fun q hq => va_Nw.same rfl h (H q hq)
theorem nwOK.warm {s U : State} (hW : s.WarmedH U.vm) (H : nwOK s) : nwOK U := fun q hq => va_Nw.warmM hW (H q hq)
def Pst (Θ : Tht) (w0 w1 : va_W) (o : Option Value) (sz : Nat) : Array Value → State → Outcome → State → Prop := fun _ st oc t =>
  oc = .returned o ∧ va_P Θ.2.1 vwCl w1 t.heap ∧ va_D (va_A w0 sz) w1 ∧ va_F (va_A w0 sz) st t
def Pre (Θ : Tht) (w0 : va_W) (sz : Nat) (U : State) : Prop := U.heap.size = sz ∧ va_P Θ.2.1 vwCl w0 U.heap ∧ va_K Θ.2.1 vwCl (tyw Θ) U ∧ va_D (fun _ => True) w0 ∧ nwOK U
def Fn (Θ : Tht) (y : MethodName) (ws : List Cond) (rm : Room) (as : List Value) (w0 : va_W) (o : Option Value) (w1 : va_W) : Prop :=
  ∀ sz : Nat, Met Θ.1 y ws rm (va_Pc as (Pre Θ w0 sz)) (Pst Θ w0 w1 o sz) 0 0 (va_A w0 sz)
section SW
variable {Θ : Tht} {p : Program} {e : Env} {R : Room} {s : State} {m : MethodId} {args : Array Value} {below : List Frame} {meth : Method} {c : Code} {A : Nat → Prop} {Q : State → Prop} {nL k n : Nat} {cc : ByteArray} {own : String} {Ts : List Cond}
def sw (Θ : Tht) (p : Program) (e : Env) (R : Room) (s : State) (m : MethodId) (args : Array Value) (below : List Frame) (meth : Method) (c : Code) (A : Nat → Prop) (Q : State → Prop) (nL k n : Nat) (pc : Nat) (lv : List (Nat × Value)) (st : List Value) (ws : va_W) : Prop :=
  ∀ (H : Heap) (locs : List Loc) (ls : Array Slot), va_P Θ.2.1 vwCl ws H → va_D A ws → va_S A s.heap H locs → lv_has ls nL lv → W p Θ.1 e R s m args below meth c H locs k n Q (F0 m pc ls st)
def okG (Θ : Tht) (p : Program) (s : State) (m : MethodId) (args : Array Value) (c : Code) (A : Nat → Prop) (nL : Nat) (cc : ByteArray) (own : String) (Ts : List Cond) : Prop :=
  p.tables.exec = Jvm.exec ∧ c.code = cc ∧ c.maxLocals = nL ∧ s.vm.findClass own = some m.cls ∧ (∀ w ∈ Ts, w.before args s = true) ∧ va_K Θ.2.1 vwCl (tyw Θ) s ∧ (∀ q : Nat, s.heap.size ≤ q → A q) ∧ nwOK s
/-- the end of a method: what Q asks -/
def okR (Θ : Tht) (R : Room) (s : State) (args : Array Value) (below : List Frame) (meth : Method) (A : Nat → Prop) (Q : State → Prop) (w0 w1 : va_W) (o : Option Value) (ret : Option FieldType) : Prop :=
  Q = MQ below (Pst Θ w0 w1 o s.heap.size) args s 0 0 A ∧ A = va_A w0 s.heap.size ∧ meth.sig.returnType = ret ∧ meth.locks = false

theorem sw_iconst (pc : Nat) (G : okG Θ p s m args c A nL cc own Ts) {z : Int} (v : Int32) {lv : List (Nat × Value)} {st : List Value} {ws : va_W} (hd : decode cc pc = .ok (.iconst z, 1)) (hv : Int32.ofInt z = v) (kk : sw Θ p e R s m args below meth c A Q nL k n (pc + 1) lv (.int v :: st) ws) : sw Θ p e R s m args below meth c A Q nL k n pc lv st ws := by
  intro H locs ls hP hD hS hl
  exact lv_iconst G.1 G.2.1 hd hv (kk H locs ls hP hD hS hl)
theorem sw_bipush (pc : Nat) (G : okG Θ p s m args c A nL cc own Ts) {z : Int} (v : Int32) {lv : List (Nat × Value)} {st : List Value} {ws : va_W} (hd : decode cc pc = .ok (.bipush z, 2)) (hv : (Int8.ofInt z).toInt32 = v) (kk : sw Θ p e R s m args below meth c A Q nL k n (pc + 2) lv (.int v :: st) ws) : sw Θ p e R s m args below meth c A Q nL k n pc lv st ws := by
  intro H locs ls hP hD hS hl
  exact lv_bipush G.1 G.2.1 hd hv (kk H locs ls hP hD hS hl)
theorem sw_sipush (pc : Nat) (G : okG Θ p s m args c A nL cc own Ts) {z : Int} (v : Int32) {lv : List (Nat × Value)} {st : List Value} {ws : va_W} (hd : decode cc pc = .ok (.sipush z, 3)) (hv : (Int16.ofInt z).toInt32 = v) (kk : sw Θ p e R s m args below meth c A Q nL k n (pc + 3) lv (.int v :: st) ws) : sw Θ p e R s m args below meth c A Q nL k n pc lv st ws := by
  intro H locs ls hP hD hS hl
  exact lv_sipush G.1 G.2.1 hd hv (kk H locs ls hP hD hS hl)
theorem sw_lconst (pc : Nat) (G : okG Θ p s m args c A nL cc own Ts) {z : Fin 2} (v : Int64) {lv : List (Nat × Value)} {st : List Value} {ws : va_W} (hd : decode cc pc = .ok (.lconst z, 1)) (hv : Int64.ofNat (z : Nat) = v) (kk : sw Θ p e R s m args below meth c A Q nL k n (pc + 1) lv (.long v :: st) ws) : sw Θ p e R s m args below meth c A Q nL k n pc lv st ws := by
  intro H locs ls hP hD hS hl
  exact lv_lconst G.1 G.2.1 hd hv (kk H locs ls hP hD hS hl)
theorem sw_ldc (pc : Nat) (G : okG Θ p s m args c A nL cc own Ts) {ix : Nat} {v : Int32} {lv : List (Nat × Value)} {st : List Value} {ws : va_W} (hc : Cond.constant own ix v ∈ Ts) (hd : decode cc pc = .ok (.ldc ix, 2)) (kk : sw Θ p e R s m args below meth c A Q nL k n (pc + 2) lv (.int v :: st) ws) : sw Θ p e R s m args below meth c A Q nL k n pc lv st ws := by
  intro H locs ls hP hD hS hl
  exact lv_ldc G.1 G.2.1 G.2.2.2.1 (G.2.2.2.2.1 _ hc) hd (kk H locs ls hP hD hS hl)
theorem sw_ldc2 (pc : Nat) (G : okG Θ p s m args c A nL cc own Ts) {ix : Nat} {v : Int64} {lv : List (Nat × Value)} {st : List Value} {ws : va_W} (hc : Cond.constantLong own ix v ∈ Ts) (hd : decode cc pc = .ok (.ldc2_w ix, 3)) (kk : sw Θ p e R s m args below meth c A Q nL k n (pc + 3) lv (.long v :: st) ws) : sw Θ p e R s m args below meth c A Q nL k n pc lv st ws := by
  intro H locs ls hP hD hS hl
  exact lv_ldc2 G.1 G.2.1 G.2.2.2.1 (G.2.2.2.2.1 _ hc) hd (kk H locs ls hP hD hS hl)
theorem sw_iload (pc : Nat) (G : okG Θ p s m args c A nL cc own Ts) {i : Nat} {x : Int32} {lv : List (Nat × Value)} {st : List Value} {ws : va_W} (hd : decode cc pc = .ok (.iload i, 2)) (q : Nat) (hq : lv[q]? = some (i, .int x)) (kk : sw Θ p e R s m args below meth c A Q nL k n (pc + 2) lv (.int x :: st) ws) : sw Θ p e R s m args below meth c A Q nL k n pc lv st ws := by
  intro H locs ls hP hD hS hl
  exact lv_iload G.1 G.2.1 hd (lv_at hl q hq) (kk H locs ls hP hD hS hl)
theorem sw_iload_n (pc : Nat) (G : okG Θ p s m args c A nL cc own Ts) {i : Fin 4} {x : Int32} {lv : List (Nat × Value)} {st : List Value} {ws : va_W} (hd : decode cc pc = .ok (.iload_n i, 1)) (q : Nat) (hq : lv[q]? = some ((i : Nat), .int x)) (kk : sw Θ p e R s m args below meth c A Q nL k n (pc + 1) lv (.int x :: st) ws) : sw Θ p e R s m args below meth c A Q nL k n pc lv st ws := by
  intro H locs ls hP hD hS hl
  exact lv_iload_n G.1 G.2.1 hd rfl (lv_at hl q hq) (kk H locs ls hP hD hS hl)
theorem sw_lload (pc : Nat) (G : okG Θ p s m args c A nL cc own Ts) {i : Nat} {x : Int64} {lv : List (Nat × Value)} {st : List Value} {ws : va_W} (hd : decode cc pc = .ok (.lload i, 2)) (q : Nat) (hq : lv[q]? = some (i, .long x)) (kk : sw Θ p e R s m args below meth c A Q nL k n (pc + 2) lv (.long x :: st) ws) : sw Θ p e R s m args below meth c A Q nL k n pc lv st ws := by
  intro H locs ls hP hD hS hl
  exact lv_lload G.1 G.2.1 hd (lv_at hl q hq) (kk H locs ls hP hD hS hl)
theorem sw_lload_n (pc : Nat) (G : okG Θ p s m args c A nL cc own Ts) {i : Fin 4} {x : Int64} {lv : List (Nat × Value)} {st : List Value} {ws : va_W} (hd : decode cc pc = .ok (.lload_n i, 1)) (q : Nat) (hq : lv[q]? = some ((i : Nat), .long x)) (kk : sw Θ p e R s m args below meth c A Q nL k n (pc + 1) lv (.long x :: st) ws) : sw Θ p e R s m args below meth c A Q nL k n pc lv st ws := by
  intro H locs ls hP hD hS hl
  exact lv_lload_n G.1 G.2.1 hd rfl (lv_at hl q hq) (kk H locs ls hP hD hS hl)
theorem sw_aload (pc : Nat) (G : okG Θ p s m args c A nL cc own Ts) {i : Nat} {x : Nat} {lv : List (Nat × Value)} {st : List Value} {ws : va_W} (hd : decode cc pc = .ok (.aload i, 2)) (q : Nat) (hq : lv[q]? = some (i, .ref x)) (kk : sw Θ p e R s m args below meth c A Q nL k n (pc + 2) lv (.ref x :: st) ws) : sw Θ p e R s m args below meth c A Q nL k n pc lv st ws := by
  intro H locs ls hP hD hS hl
  exact lv_aload G.1 G.2.1 hd (lv_at hl q hq) (kk H locs ls hP hD hS hl)
theorem sw_aload_n (pc : Nat) (G : okG Θ p s m args c A nL cc own Ts) {i : Fin 4} {x : Nat} {lv : List (Nat × Value)} {st : List Value} {ws : va_W} (hd : decode cc pc = .ok (.aload_n i, 1)) (q : Nat) (hq : lv[q]? = some ((i : Nat), .ref x)) (kk : sw Θ p e R s m args below meth c A Q nL k n (pc + 1) lv (.ref x :: st) ws) : sw Θ p e R s m args below meth c A Q nL k n pc lv st ws := by
  intro H locs ls hP hD hS hl
  exact lv_aload_n G.1 G.2.1 hd rfl (lv_at hl q hq) (kk H locs ls hP hD hS hl)
theorem sw_istore (pc : Nat) (G : okG Θ p s m args c A nL cc own Ts) {i : Nat} {x : Int32} (lv2 : List (Nat × Value)) {lv : List (Nat × Value)} {st : List Value} {ws : va_W} (hd : decode cc pc = .ok (.istore i, 2)) (hn : i < nL) (hq : (i, Value.int x) :: lv.filter (fun q => !(q.1 == i) && !(q.1 + 1 == i && q.2.category == 2)) = lv2) (kk : sw Θ p e R s m args below meth c A Q nL k n (pc + 2) lv2 st ws) : sw Θ p e R s m args below meth c A Q nL k n pc lv (.int x :: st) ws := by
  intro H locs ls hP hD hS hl
  exact lv_istore G.1 G.2.1 hd hl hn hq (fun ls2 hl2 => kk H locs ls2 hP hD hS hl2)
theorem sw_istore_n (pc : Nat) (G : okG Θ p s m args c A nL cc own Ts) {i : Fin 4} {x : Int32} (lv2 : List (Nat × Value)) {lv : List (Nat × Value)} {st : List Value} {ws : va_W} (hd : decode cc pc = .ok (.istore_n i, 1)) (hn : (i : Nat) < nL) (hq : ((i : Nat), Value.int x) :: lv.filter (fun q => !(q.1 == (i : Nat)) && !(q.1 + 1 == (i : Nat) && q.2.category == 2)) = lv2) (kk : sw Θ p e R s m args below meth c A Q nL k n (pc + 1) lv2 st ws) : sw Θ p e R s m args below meth c A Q nL k n pc lv (.int x :: st) ws := by
  intro H locs ls hP hD hS hl
  exact lv_istore_n G.1 G.2.1 hd rfl hl hn hq (fun ls2 hl2 => kk H locs ls2 hP hD hS hl2)
theorem sw_lstore (pc : Nat) (G : okG Θ p s m args c A nL cc own Ts) {i : Nat} {x : Int64} (lv2 : List (Nat × Value)) {lv : List (Nat × Value)} {st : List Value} {ws : va_W} (hd : decode cc pc = .ok (.lstore i, 2)) (hn : i + 1 < nL) (hq : (i, Value.long x) :: lv.filter (fun q => !(q.1 == i) && (!(q.1 == i + 1) && !(q.1 + 1 == i && q.2.category == 2))) = lv2) (kk : sw Θ p e R s m args below meth c A Q nL k n (pc + 2) lv2 st ws) : sw Θ p e R s m args below meth c A Q nL k n pc lv (.long x :: st) ws := by
  intro H locs ls hP hD hS hl
  exact lv_lstore G.1 G.2.1 hd hl hn hq (fun ls2 hl2 => kk H locs ls2 hP hD hS hl2)
theorem sw_lstore_n (pc : Nat) (G : okG Θ p s m args c A nL cc own Ts) {i : Fin 4} {x : Int64} (lv2 : List (Nat × Value)) {lv : List (Nat × Value)} {st : List Value} {ws : va_W} (hd : decode cc pc = .ok (.lstore_n i, 1)) (hn : (i : Nat) + 1 < nL) (hq : ((i : Nat), Value.long x) :: lv.filter (fun q => !(q.1 == (i : Nat)) && (!(q.1 == (i : Nat) + 1) && !(q.1 + 1 == (i : Nat) && q.2.category == 2))) = lv2) (kk : sw Θ p e R s m args below meth c A Q nL k n (pc + 1) lv2 st ws) : sw Θ p e R s m args below meth c A Q nL k n pc lv (.long x :: st) ws := by
  intro H locs ls hP hD hS hl
  exact lv_lstore_n G.1 G.2.1 hd rfl hl hn hq (fun ls2 hl2 => kk H locs ls2 hP hD hS hl2)
theorem sw_astore (pc : Nat) (G : okG Θ p s m args c A nL cc own Ts) {i : Nat} {x : Nat} (lv2 : List (Nat × Value)) {lv : List (Nat × Value)} {st : List Value} {ws : va_W} (hd : decode cc pc = .ok (.astore i, 2)) (hn : i < nL) (hq : (i, Value.ref x) :: lv.filter (fun q => !(q.1 == i) && !(q.1 + 1 == i && q.2.category == 2)) = lv2) (kk : sw Θ p e R s m args below meth c A Q nL k n (pc + 2) lv2 st ws) : sw Θ p e R s m args below meth c A Q nL k n pc lv (.ref x :: st) ws := by
  intro H locs ls hP hD hS hl
  exact lv_astore G.1 G.2.1 hd hl hn hq (fun ls2 hl2 => kk H locs ls2 hP hD hS hl2)
theorem sw_astore_n (pc : Nat) (G : okG Θ p s m args c A nL cc own Ts) {i : Fin 4} {x : Nat} (lv2 : List (Nat × Value)) {lv : List (Nat × Value)} {st : List Value} {ws : va_W} (hd : decode cc pc = .ok (.astore_n i, 1)) (hn : (i : Nat) < nL) (hq : ((i : Nat), Value.ref x) :: lv.filter (fun q => !(q.1 == (i : Nat)) && !(q.1 + 1 == (i : Nat) && q.2.category == 2)) = lv2) (kk : sw Θ p e R s m args below meth c A Q nL k n (pc + 1) lv2 st ws) : sw Θ p e R s m args below meth c A Q nL k n pc lv (.ref x :: st) ws := by
  intro H locs ls hP hD hS hl
  exact lv_astore_n G.1 G.2.1 hd rfl hl hn hq (fun ls2 hl2 => kk H locs ls2 hP hD hS hl2)
theorem sw_iinc (pc : Nat) (G : okG Θ p s m args c A nL cc own Ts) {i : Nat} {z : Int} {x : Int32} (v : Int32) (lv2 : List (Nat × Value)) {lv : List (Nat × Value)} {st : List Value} {ws : va_W} (hd : decode cc pc = .ok (.iinc i z, 3)) (q : Nat) (hq : lv[q]? = some (i, .int x)) (hv : x + Int32.ofInt z = v) (hn : i < nL) (hq2 : (i, Value.int v) :: lv.filter (fun q => !(q.1 == i) && !(q.1 + 1 == i && q.2.category == 2)) = lv2) (kk : sw Θ p e R s m args below meth c A Q nL k n (pc + 3) lv2 st ws) : sw Θ p e R s m args below meth c A Q nL k n pc lv st ws := by
  intro H locs ls hP hD hS hl
  exact lv_iinc G.1 G.2.1 hd hl hq hv hn hq2 (fun ls2 hl2 => kk H locs ls2 hP hD hS hl2)
theorem sw_iadd (pc : Nat) (G : okG Θ p s m args c A nL cc own Ts) {x y : Int32} {lv : List (Nat × Value)} {st : List Value} {ws : va_W} (hd : decode cc pc = .ok (.iadd, 1)) (kk : sw Θ p e R s m args below meth c A Q nL k n (pc + 1) lv (.int (x + y) :: st) ws) : sw Θ p e R s m args below meth c A Q nL k n pc lv (.int y :: .int x :: st) ws := by
  intro H locs ls hP hD hS hl
  exact lv_iadd G.1 G.2.1 hd (kk H locs ls hP hD hS hl)
theorem sw_ladd (pc : Nat) (G : okG Θ p s m args c A nL cc own Ts) {x y : Int64} {lv : List (Nat × Value)} {st : List Value} {ws : va_W} (hd : decode cc pc = .ok (.ladd, 1)) (kk : sw Θ p e R s m args below meth c A Q nL k n (pc + 1) lv (.long (x + y) :: st) ws) : sw Θ p e R s m args below meth c A Q nL k n pc lv (.long y :: .long x :: st) ws := by
  intro H locs ls hP hD hS hl
  exact lv_ladd G.1 G.2.1 hd (kk H locs ls hP hD hS hl)
theorem sw_isub (pc : Nat) (G : okG Θ p s m args c A nL cc own Ts) {x y : Int32} {lv : List (Nat × Value)} {st : List Value} {ws : va_W} (hd : decode cc pc = .ok (.isub, 1)) (kk : sw Θ p e R s m args below meth c A Q nL k n (pc + 1) lv (.int (x - y) :: st) ws) : sw Θ p e R s m args below meth c A Q nL k n pc lv (.int y :: .int x :: st) ws := by
  intro H locs ls hP hD hS hl
  exact lv_isub G.1 G.2.1 hd (kk H locs ls hP hD hS hl)
theorem sw_lsub (pc : Nat) (G : okG Θ p s m args c A nL cc own Ts) {x y : Int64} {lv : List (Nat × Value)} {st : List Value} {ws : va_W} (hd : decode cc pc = .ok (.lsub, 1)) (kk : sw Θ p e R s m args below meth c A Q nL k n (pc + 1) lv (.long (x - y) :: st) ws) : sw Θ p e R s m args below meth c A Q nL k n pc lv (.long y :: .long x :: st) ws := by
  intro H locs ls hP hD hS hl
  exact lv_lsub G.1 G.2.1 hd (kk H locs ls hP hD hS hl)
theorem sw_imul (pc : Nat) (G : okG Θ p s m args c A nL cc own Ts) {x y : Int32} {lv : List (Nat × Value)} {st : List Value} {ws : va_W} (hd : decode cc pc = .ok (.imul, 1)) (kk : sw Θ p e R s m args below meth c A Q nL k n (pc + 1) lv (.int (x * y) :: st) ws) : sw Θ p e R s m args below meth c A Q nL k n pc lv (.int y :: .int x :: st) ws := by
  intro H locs ls hP hD hS hl
  exact lv_imul G.1 G.2.1 hd (kk H locs ls hP hD hS hl)
theorem sw_lmul (pc : Nat) (G : okG Θ p s m args c A nL cc own Ts) {x y : Int64} {lv : List (Nat × Value)} {st : List Value} {ws : va_W} (hd : decode cc pc = .ok (.lmul, 1)) (kk : sw Θ p e R s m args below meth c A Q nL k n (pc + 1) lv (.long (x * y) :: st) ws) : sw Θ p e R s m args below meth c A Q nL k n pc lv (.long y :: .long x :: st) ws := by
  intro H locs ls hP hD hS hl
  exact lv_lmul G.1 G.2.1 hd (kk H locs ls hP hD hS hl)
theorem sw_iand (pc : Nat) (G : okG Θ p s m args c A nL cc own Ts) {x y : Int32} {lv : List (Nat × Value)} {st : List Value} {ws : va_W} (hd : decode cc pc = .ok (.iand, 1)) (kk : sw Θ p e R s m args below meth c A Q nL k n (pc + 1) lv (.int (x &&& y) :: st) ws) : sw Θ p e R s m args below meth c A Q nL k n pc lv (.int y :: .int x :: st) ws := by
  intro H locs ls hP hD hS hl
  exact lv_iand G.1 G.2.1 hd (kk H locs ls hP hD hS hl)
theorem sw_land (pc : Nat) (G : okG Θ p s m args c A nL cc own Ts) {x y : Int64} {lv : List (Nat × Value)} {st : List Value} {ws : va_W} (hd : decode cc pc = .ok (.land, 1)) (kk : sw Θ p e R s m args below meth c A Q nL k n (pc + 1) lv (.long (x &&& y) :: st) ws) : sw Θ p e R s m args below meth c A Q nL k n pc lv (.long y :: .long x :: st) ws := by
  intro H locs ls hP hD hS hl
  exact lv_land G.1 G.2.1 hd (kk H locs ls hP hD hS hl)
theorem sw_ior (pc : Nat) (G : okG Θ p s m args c A nL cc own Ts) {x y : Int32} {lv : List (Nat × Value)} {st : List Value} {ws : va_W} (hd : decode cc pc = .ok (.ior, 1)) (kk : sw Θ p e R s m args below meth c A Q nL k n (pc + 1) lv (.int (x ||| y) :: st) ws) : sw Θ p e R s m args below meth c A Q nL k n pc lv (.int y :: .int x :: st) ws := by
  intro H locs ls hP hD hS hl
  exact lv_ior G.1 G.2.1 hd (kk H locs ls hP hD hS hl)
theorem sw_lor (pc : Nat) (G : okG Θ p s m args c A nL cc own Ts) {x y : Int64} {lv : List (Nat × Value)} {st : List Value} {ws : va_W} (hd : decode cc pc = .ok (.lor, 1)) (kk : sw Θ p e R s m args below meth c A Q nL k n (pc + 1) lv (.long (x ||| y) :: st) ws) : sw Θ p e R s m args below meth c A Q nL k n pc lv (.long y :: .long x :: st) ws := by
  intro H locs ls hP hD hS hl
  exact lv_lor G.1 G.2.1 hd (kk H locs ls hP hD hS hl)
theorem sw_ixor (pc : Nat) (G : okG Θ p s m args c A nL cc own Ts) {x y : Int32} {lv : List (Nat × Value)} {st : List Value} {ws : va_W} (hd : decode cc pc = .ok (.ixor, 1)) (kk : sw Θ p e R s m args below meth c A Q nL k n (pc + 1) lv (.int (x ^^^ y) :: st) ws) : sw Θ p e R s m args below meth c A Q nL k n pc lv (.int y :: .int x :: st) ws := by
  intro H locs ls hP hD hS hl
  exact lv_ixor G.1 G.2.1 hd (kk H locs ls hP hD hS hl)
theorem sw_lxor (pc : Nat) (G : okG Θ p s m args c A nL cc own Ts) {x y : Int64} {lv : List (Nat × Value)} {st : List Value} {ws : va_W} (hd : decode cc pc = .ok (.lxor, 1)) (kk : sw Θ p e R s m args below meth c A Q nL k n (pc + 1) lv (.long (x ^^^ y) :: st) ws) : sw Θ p e R s m args below meth c A Q nL k n pc lv (.long y :: .long x :: st) ws := by
  intro H locs ls hP hD hS hl
  exact lv_lxor G.1 G.2.1 hd (kk H locs ls hP hD hS hl)
theorem sw_ishl (pc : Nat) (G : okG Θ p s m args c A nL cc own Ts) {x y : Int32} {lv : List (Nat × Value)} {st : List Value} {ws : va_W} (hd : decode cc pc = .ok (.ishl, 1)) (kk : sw Θ p e R s m args below meth c A Q nL k n (pc + 1) lv (.int (x <<< (y &&& 31)) :: st) ws) : sw Θ p e R s m args below meth c A Q nL k n pc lv (.int y :: .int x :: st) ws := by
  intro H locs ls hP hD hS hl
  exact lv_ishl G.1 G.2.1 hd (kk H locs ls hP hD hS hl)
theorem sw_lshl (pc : Nat) (G : okG Θ p s m args c A nL cc own Ts) {x : Int64} {y : Int32} {lv : List (Nat × Value)} {st : List Value} {ws : va_W} (hd : decode cc pc = .ok (.lshl, 1)) (kk : sw Θ p e R s m args below meth c A Q nL k n (pc + 1) lv (.long (x <<< (y.toInt64 &&& 63)) :: st) ws) : sw Θ p e R s m args below meth c A Q nL k n pc lv (.int y :: .long x :: st) ws := by
  intro H locs ls hP hD hS hl
  exact lv_lshl G.1 G.2.1 hd rfl (kk H locs ls hP hD hS hl)
theorem sw_ishr (pc : Nat) (G : okG Θ p s m args c A nL cc own Ts) {x y : Int32} {lv : List (Nat × Value)} {st : List Value} {ws : va_W} (hd : decode cc pc = .ok (.ishr, 1)) (kk : sw Θ p e R s m args below meth c A Q nL k n (pc + 1) lv (.int (x >>> (y &&& 31)) :: st) ws) : sw Θ p e R s m args below meth c A Q nL k n pc lv (.int y :: .int x :: st) ws := by
  intro H locs ls hP hD hS hl
  exact lv_ishr G.1 G.2.1 hd (kk H locs ls hP hD hS hl)
theorem sw_lshr (pc : Nat) (G : okG Θ p s m args c A nL cc own Ts) {x : Int64} {y : Int32} {lv : List (Nat × Value)} {st : List Value} {ws : va_W} (hd : decode cc pc = .ok (.lshr, 1)) (kk : sw Θ p e R s m args below meth c A Q nL k n (pc + 1) lv (.long (x >>> (y.toInt64 &&& 63)) :: st) ws) : sw Θ p e R s m args below meth c A Q nL k n pc lv (.int y :: .long x :: st) ws := by
  intro H locs ls hP hD hS hl
  exact lv_lshr G.1 G.2.1 hd rfl (kk H locs ls hP hD hS hl)
def iush (x y : Int32) : Int32 := (x.toUInt32 >>> (y.toUInt32 &&& Int32.toUInt32 31)).toInt32
def lush (x : Int64) (y : Int32) : Int64 := (x.toUInt64 >>> (y.toInt64.toUInt64 &&& Int64.toUInt64 63)).toInt64
theorem sw_iushr (pc : Nat) (G : okG Θ p s m args c A nL cc own Ts) {x y : Int32} {lv : List (Nat × Value)} {st : List Value} {ws : va_W} (hd : decode cc pc = .ok (.iushr, 1)) (kk : sw Θ p e R s m args below meth c A Q nL k n (pc + 1) lv (.int (iush x y) :: st) ws) : sw Θ p e R s m args below meth c A Q nL k n pc lv (.int y :: .int x :: st) ws := by
  intro H locs ls hP hD hS hl
  exact lv_iushr G.1 G.2.1 hd rfl (kk H locs ls hP hD hS hl)
theorem sw_lushr (pc : Nat) (G : okG Θ p s m args c A nL cc own Ts) {x : Int64} {y : Int32} {lv : List (Nat × Value)} {st : List Value} {ws : va_W} (hd : decode cc pc = .ok (.lushr, 1)) (kk : sw Θ p e R s m args below meth c A Q nL k n (pc + 1) lv (.long (lush x y) :: st) ws) : sw Θ p e R s m args below meth c A Q nL k n pc lv (.int y :: .long x :: st) ws := by
  intro H locs ls hP hD hS hl
  exact lv_lushr G.1 G.2.1 hd rfl (kk H locs ls hP hD hS hl)
theorem sw_ineg (pc : Nat) (G : okG Θ p s m args c A nL cc own Ts) {x : Int32} {lv : List (Nat × Value)} {st : List Value} {ws : va_W} (hd : decode cc pc = .ok (.ineg, 1)) (kk : sw Θ p e R s m args below meth c A Q nL k n (pc + 1) lv (.int (-x) :: st) ws) : sw Θ p e R s m args below meth c A Q nL k n pc lv (.int x :: st) ws := by
  intro H locs ls hP hD hS hl
  exact lv_ineg G.1 G.2.1 hd (kk H locs ls hP hD hS hl)
theorem sw_i2l (pc : Nat) (G : okG Θ p s m args c A nL cc own Ts) {x : Int32} {lv : List (Nat × Value)} {st : List Value} {ws : va_W} (hd : decode cc pc = .ok (.i2l, 1)) (kk : sw Θ p e R s m args below meth c A Q nL k n (pc + 1) lv (.long x.toInt64 :: st) ws) : sw Θ p e R s m args below meth c A Q nL k n pc lv (.int x :: st) ws := by
  intro H locs ls hP hD hS hl
  exact lv_i2l G.1 G.2.1 hd rfl (kk H locs ls hP hD hS hl)
theorem sw_l2i (pc : Nat) (G : okG Θ p s m args c A nL cc own Ts) {x : Int64} {lv : List (Nat × Value)} {st : List Value} {ws : va_W} (hd : decode cc pc = .ok (.l2i, 1)) (kk : sw Θ p e R s m args below meth c A Q nL k n (pc + 1) lv (.int x.toInt32 :: st) ws) : sw Θ p e R s m args below meth c A Q nL k n pc lv (.long x :: st) ws := by
  intro H locs ls hP hD hS hl
  exact lv_l2i G.1 G.2.1 hd rfl (kk H locs ls hP hD hS hl)
theorem sw_i2b (pc : Nat) (G : okG Θ p s m args c A nL cc own Ts) {x : Int32} {lv : List (Nat × Value)} {st : List Value} {ws : va_W} (hd : decode cc pc = .ok (.i2b, 1)) (kk : sw Θ p e R s m args below meth c A Q nL k n (pc + 1) lv (.int x.toInt8.toInt32 :: st) ws) : sw Θ p e R s m args below meth c A Q nL k n pc lv (.int x :: st) ws := by
  intro H locs ls hP hD hS hl
  exact lv_i2b G.1 G.2.1 hd rfl (kk H locs ls hP hD hS hl)
theorem sw_lcmp (pc : Nat) (G : okG Θ p s m args c A nL cc own Ts) {x y : Int64} {lv : List (Nat × Value)} {st : List Value} {ws : va_W} (hd : decode cc pc = .ok (.lcmp, 1)) (kk : sw Θ p e R s m args below meth c A Q nL k n (pc + 1) lv (.int (lg_cmp x y) :: st) ws) : sw Θ p e R s m args below meth c A Q nL k n pc lv (.long y :: .long x :: st) ws := by
  intro H locs ls hP hD hS hl
  exact W.lcmp G.1 G.2.1 hd (kk H locs ls hP hD hS hl)
theorem sw_dup (pc : Nat) (G : okG Θ p s m args c A nL cc own Ts) {v : Value} {lv : List (Nat × Value)} {st : List Value} {ws : va_W} (hd : decode cc pc = .ok (.dup, 1)) (hv : v.category = 1) (kk : sw Θ p e R s m args below meth c A Q nL k n (pc + 1) lv (v :: v :: st) ws) : sw Θ p e R s m args below meth c A Q nL k n pc lv (v :: st) ws := by
  intro H locs ls hP hD hS hl
  exact lv_dup G.1 G.2.1 hd hv (kk H locs ls hP hD hS hl)
theorem sw_pop (pc : Nat) (G : okG Θ p s m args c A nL cc own Ts) {v : Value} {lv : List (Nat × Value)} {st : List Value} {ws : va_W} (hd : decode cc pc = .ok (.pop, 1)) (hv : v.category = 1) (kk : sw Θ p e R s m args below meth c A Q nL k n (pc + 1) lv st ws) : sw Θ p e R s m args below meth c A Q nL k n pc lv (v :: st) ws := by
  intro H locs ls hP hD hS hl
  exact lv_pop G.1 G.2.1 hd hv (kk H locs ls hP hD hS hl)
theorem sw_goto (pc : Nat) (G : okG Θ p s m args c A nL cc own Ts) {off : Int} (tgt : Nat) {lv : List (Nat × Value)} {st : List Value} {ws : va_W} (hd : decode cc pc = .ok (.goto off, 3)) (ht : (pc : Int) + off = (tgt : Int)) (kk : sw Θ p e R s m args below meth c A Q nL k n tgt lv st ws) : sw Θ p e R s m args below meth c A Q nL k n pc lv st ws := by
  intro H locs ls hP hD hS hl
  exact lv_goto G.1 G.2.1 hd ht (kk H locs ls hP hD hS hl)
variable {ρ : Type} {r : Option ρ}
theorem sw_if_eq (pc tgt : Nat) (G : okG Θ p s m args c A nL cc own Ts) {off : Int} {x : Int32} {lv : List (Nat × Value)} {st : List Value} {ws : va_W} (hd : decode cc pc = .ok (.ifCond .eq off, 3)) (ht : (pc : Int) + off = (tgt : Int)) {X Y : Option ρ} (hf : (if x = 0 then X else Y) = r) (kt : X = r → sw Θ p e R s m args below meth c A Q nL k n tgt lv st ws) (kf : Y = r → sw Θ p e R s m args below meth c A Q nL k n (pc + 3) lv st ws) : sw Θ p e R s m args below meth c A Q nL k n pc lv (.int x :: st) ws := by
  intro H locs ls hP hD hS hl
  exact lv_if_eq G.1 G.2.1 hd ht (fun h => kt (by rw [if_pos h] at hf; exact hf) H locs ls hP hD hS hl) (fun h => kf (by rw [if_neg h] at hf; exact hf) H locs ls hP hD hS hl)
theorem sw_icmp_eq (pc tgt : Nat) (G : okG Θ p s m args c A nL cc own Ts) {off : Int} {x y : Int32} {lv : List (Nat × Value)} {st : List Value} {ws : va_W} (hd : decode cc pc = .ok (.if_icmp .eq off, 3)) (ht : (pc : Int) + off = (tgt : Int)) {X Y : Option ρ} (hf : (if x = y then X else Y) = r) (kt : X = r → sw Θ p e R s m args below meth c A Q nL k n tgt lv st ws) (kf : Y = r → sw Θ p e R s m args below meth c A Q nL k n (pc + 3) lv st ws) : sw Θ p e R s m args below meth c A Q nL k n pc lv (.int y :: .int x :: st) ws := by
  intro H locs ls hP hD hS hl
  exact lv_icmp_eq G.1 G.2.1 hd ht (fun h => kt (by rw [if_pos h] at hf; exact hf) H locs ls hP hD hS hl) (fun h => kf (by rw [if_neg h] at hf; exact hf) H locs ls hP hD hS hl)
theorem sw_if_ne (pc tgt : Nat) (G : okG Θ p s m args c A nL cc own Ts) {off : Int} {x : Int32} {lv : List (Nat × Value)} {st : List Value} {ws : va_W} (hd : decode cc pc = .ok (.ifCond .ne off, 3)) (ht : (pc : Int) + off = (tgt : Int)) {X Y : Option ρ} (hf : (if ¬ x = 0 then X else Y) = r) (kt : X = r → sw Θ p e R s m args below meth c A Q nL k n tgt lv st ws) (kf : Y = r → sw Θ p e R s m args below meth c A Q nL k n (pc + 3) lv st ws) : sw Θ p e R s m args below meth c A Q nL k n pc lv (.int x :: st) ws := by
  intro H locs ls hP hD hS hl
  exact lv_if_ne G.1 G.2.1 hd ht (fun h => kt (by rw [if_pos h] at hf; exact hf) H locs ls hP hD hS hl) (fun h => kf (by rw [if_neg (fun q => q h)] at hf; exact hf) H locs ls hP hD hS hl)
theorem sw_icmp_ne (pc tgt : Nat) (G : okG Θ p s m args c A nL cc own Ts) {off : Int} {x y : Int32} {lv : List (Nat × Value)} {st : List Value} {ws : va_W} (hd : decode cc pc = .ok (.if_icmp .ne off, 3)) (ht : (pc : Int) + off = (tgt : Int)) {X Y : Option ρ} (hf : (if ¬ x = y then X else Y) = r) (kt : X = r → sw Θ p e R s m args below meth c A Q nL k n tgt lv st ws) (kf : Y = r → sw Θ p e R s m args below meth c A Q nL k n (pc + 3) lv st ws) : sw Θ p e R s m args below meth c A Q nL k n pc lv (.int y :: .int x :: st) ws := by
  intro H locs ls hP hD hS hl
  exact lv_icmp_ne G.1 G.2.1 hd ht (fun h => kt (by rw [if_pos h] at hf; exact hf) H locs ls hP hD hS hl) (fun h => kf (by rw [if_neg (fun q => q h)] at hf; exact hf) H locs ls hP hD hS hl)
theorem sw_if_lt (pc tgt : Nat) (G : okG Θ p s m args c A nL cc own Ts) {off : Int} {x : Int32} {lv : List (Nat × Value)} {st : List Value} {ws : va_W} (hd : decode cc pc = .ok (.ifCond .lt off, 3)) (ht : (pc : Int) + off = (tgt : Int)) {X Y : Option ρ} (hf : (if x < 0 then X else Y) = r) (kt : X = r → sw Θ p e R s m args below meth c A Q nL k n tgt lv st ws) (kf : Y = r → sw Θ p e R s m args below meth c A Q nL k n (pc + 3) lv st ws) : sw Θ p e R s m args below meth c A Q nL k n pc lv (.int x :: st) ws := by
  intro H locs ls hP hD hS hl
  exact lv_if_lt G.1 G.2.1 hd ht (fun h => kt (by rw [if_pos h] at hf; exact hf) H locs ls hP hD hS hl) (fun h => kf (by rw [if_neg h] at hf; exact hf) H locs ls hP hD hS hl)
theorem sw_icmp_lt (pc tgt : Nat) (G : okG Θ p s m args c A nL cc own Ts) {off : Int} {x y : Int32} {lv : List (Nat × Value)} {st : List Value} {ws : va_W} (hd : decode cc pc = .ok (.if_icmp .lt off, 3)) (ht : (pc : Int) + off = (tgt : Int)) {X Y : Option ρ} (hf : (if x < y then X else Y) = r) (kt : X = r → sw Θ p e R s m args below meth c A Q nL k n tgt lv st ws) (kf : Y = r → sw Θ p e R s m args below meth c A Q nL k n (pc + 3) lv st ws) : sw Θ p e R s m args below meth c A Q nL k n pc lv (.int y :: .int x :: st) ws := by
  intro H locs ls hP hD hS hl
  exact lv_icmp_lt G.1 G.2.1 hd ht (fun h => kt (by rw [if_pos h] at hf; exact hf) H locs ls hP hD hS hl) (fun h => kf (by rw [if_neg h] at hf; exact hf) H locs ls hP hD hS hl)
theorem sw_if_ge (pc tgt : Nat) (G : okG Θ p s m args c A nL cc own Ts) {off : Int} {x : Int32} {lv : List (Nat × Value)} {st : List Value} {ws : va_W} (hd : decode cc pc = .ok (.ifCond .ge off, 3)) (ht : (pc : Int) + off = (tgt : Int)) {X Y : Option ρ} (hf : (if 0 ≤ x then X else Y) = r) (kt : X = r → sw Θ p e R s m args below meth c A Q nL k n tgt lv st ws) (kf : Y = r → sw Θ p e R s m args below meth c A Q nL k n (pc + 3) lv st ws) : sw Θ p e R s m args below meth c A Q nL k n pc lv (.int x :: st) ws := by
  intro H locs ls hP hD hS hl
  exact lv_if_ge G.1 G.2.1 hd ht (fun h => kt (by rw [if_pos h] at hf; exact hf) H locs ls hP hD hS hl) (fun h => kf (by rw [if_neg h] at hf; exact hf) H locs ls hP hD hS hl)
theorem sw_icmp_ge (pc tgt : Nat) (G : okG Θ p s m args c A nL cc own Ts) {off : Int} {x y : Int32} {lv : List (Nat × Value)} {st : List Value} {ws : va_W} (hd : decode cc pc = .ok (.if_icmp .ge off, 3)) (ht : (pc : Int) + off = (tgt : Int)) {X Y : Option ρ} (hf : (if y ≤ x then X else Y) = r) (kt : X = r → sw Θ p e R s m args below meth c A Q nL k n tgt lv st ws) (kf : Y = r → sw Θ p e R s m args below meth c A Q nL k n (pc + 3) lv st ws) : sw Θ p e R s m args below meth c A Q nL k n pc lv (.int y :: .int x :: st) ws := by
  intro H locs ls hP hD hS hl
  exact lv_icmp_ge G.1 G.2.1 hd ht (fun h => kt (by rw [if_pos h] at hf; exact hf) H locs ls hP hD hS hl) (fun h => kf (by rw [if_neg h] at hf; exact hf) H locs ls hP hD hS hl)
theorem sw_if_gt (pc tgt : Nat) (G : okG Θ p s m args c A nL cc own Ts) {off : Int} {x : Int32} {lv : List (Nat × Value)} {st : List Value} {ws : va_W} (hd : decode cc pc = .ok (.ifCond .gt off, 3)) (ht : (pc : Int) + off = (tgt : Int)) {X Y : Option ρ} (hf : (if 0 < x then X else Y) = r) (kt : X = r → sw Θ p e R s m args below meth c A Q nL k n tgt lv st ws) (kf : Y = r → sw Θ p e R s m args below meth c A Q nL k n (pc + 3) lv st ws) : sw Θ p e R s m args below meth c A Q nL k n pc lv (.int x :: st) ws := by
  intro H locs ls hP hD hS hl
  exact lv_if_gt G.1 G.2.1 hd ht (fun h => kt (by rw [if_pos h] at hf; exact hf) H locs ls hP hD hS hl) (fun h => kf (by rw [if_neg h] at hf; exact hf) H locs ls hP hD hS hl)
theorem sw_icmp_gt (pc tgt : Nat) (G : okG Θ p s m args c A nL cc own Ts) {off : Int} {x y : Int32} {lv : List (Nat × Value)} {st : List Value} {ws : va_W} (hd : decode cc pc = .ok (.if_icmp .gt off, 3)) (ht : (pc : Int) + off = (tgt : Int)) {X Y : Option ρ} (hf : (if y < x then X else Y) = r) (kt : X = r → sw Θ p e R s m args below meth c A Q nL k n tgt lv st ws) (kf : Y = r → sw Θ p e R s m args below meth c A Q nL k n (pc + 3) lv st ws) : sw Θ p e R s m args below meth c A Q nL k n pc lv (.int y :: .int x :: st) ws := by
  intro H locs ls hP hD hS hl
  exact lv_icmp_gt G.1 G.2.1 hd ht (fun h => kt (by rw [if_pos h] at hf; exact hf) H locs ls hP hD hS hl) (fun h => kf (by rw [if_neg h] at hf; exact hf) H locs ls hP hD hS hl)
theorem sw_if_le (pc tgt : Nat) (G : okG Θ p s m args c A nL cc own Ts) {off : Int} {x : Int32} {lv : List (Nat × Value)} {st : List Value} {ws : va_W} (hd : decode cc pc = .ok (.ifCond .le off, 3)) (ht : (pc : Int) + off = (tgt : Int)) {X Y : Option ρ} (hf : (if x ≤ 0 then X else Y) = r) (kt : X = r → sw Θ p e R s m args below meth c A Q nL k n tgt lv st ws) (kf : Y = r → sw Θ p e R s m args below meth c A Q nL k n (pc + 3) lv st ws) : sw Θ p e R s m args below meth c A Q nL k n pc lv (.int x :: st) ws := by
  intro H locs ls hP hD hS hl
  exact lv_if_le G.1 G.2.1 hd ht (fun h => kt (by rw [if_pos h] at hf; exact hf) H locs ls hP hD hS hl) (fun h => kf (by rw [if_neg h] at hf; exact hf) H locs ls hP hD hS hl)
theorem sw_icmp_le (pc tgt : Nat) (G : okG Θ p s m args c A nL cc own Ts) {off : Int} {x y : Int32} {lv : List (Nat × Value)} {st : List Value} {ws : va_W} (hd : decode cc pc = .ok (.if_icmp .le off, 3)) (ht : (pc : Int) + off = (tgt : Int)) {X Y : Option ρ} (hf : (if x ≤ y then X else Y) = r) (kt : X = r → sw Θ p e R s m args below meth c A Q nL k n tgt lv st ws) (kf : Y = r → sw Θ p e R s m args below meth c A Q nL k n (pc + 3) lv st ws) : sw Θ p e R s m args below meth c A Q nL k n pc lv (.int y :: .int x :: st) ws := by
  intro H locs ls hP hD hS hl
  exact lv_icmp_le G.1 G.2.1 hd ht (fun h => kt (by rw [if_pos h] at hf; exact hf) H locs ls hP hD hS hl) (fun h => kf (by rw [if_neg h] at hf; exact hf) H locs ls hP hD hS hl)
def gd {ρ : Type} (i : Int32) (N : Nat) (X : Option ρ) : Option ρ := if i < 0 ∨ N ≤ i.toNatClampNeg then none else X
def gz {ρ : Type} (y : Int32) (X : Option ρ) : Option ρ := if y = 0 then none else X
def nm {α ρ : Type} (v : α) (X : α → Option ρ) : Option ρ := X v
theorem gd_some {i : Int32} {N : Nat} {X : Option ρ} {z : ρ} (h : gd i N X = some z) : vp_in i N ∧ X = some z := by
  unfold gd at h
  split at h
  · cases h
  · next q => exact ⟨q, h⟩
theorem gz_some {y : Int32} {X : Option ρ} {z : ρ} (h : gz y X = some z) : ¬ y = 0 ∧ X = some z := by
  unfold gz at h
  split at h
  · cases h
  · next q => exact ⟨q, h⟩
theorem bd_some {α ρ : Type} {X : Option α} {K : α → Option ρ} {z : ρ} (h : X.bind K = some z) : ∃ a, X = some a ∧ K a = some z := by
  cases X with
  | none => cases h
  | some a => exact ⟨a, rfl, h⟩
/-- a loop: body gives the next state or what stands behind the loop -/
def lp {σ α : Type} (body : σ → Option (σ ⊕ α)) : Nat → σ → Option α
  | 0, _ => none
  | n + 1, x => match body x with
    | none => none
    | some (.inl x') => lp body n x'
    | some (.inr a) => some a
theorem lp_ind {σ α : Type} {body : σ → Option (σ ⊕ α)} {P : σ → Prop} {a : α} (hs : ∀ x, (∀ x', body x = some (.inl x') → P x') → ((body x = some (.inr a)) ∨ ∃ x', body x = some (.inl x')) → P x) : ∀ (n : Nat) (x : σ), lp body n x = some a → P x := by
  intro n
  induction n with
  | zero => intro x h; cases h
  | succ n ih =>
    intro x h
    unfold lp at h
    cases hb : body x with
    | none => rw [hb] at h; cases h
    | some y =>
      rw [hb] at h
      cases y with
      | inl x' => exact hs x (fun x2 h2 => by rw [hb] at h2; cases h2; exact ih x' h) (Or.inr ⟨x', hb⟩)
      | inr a' => cases h; exact hs x (fun x2 h2 => by rw [hb] at h2; cases h2) (Or.inl hb)
/-- the walk of a loop: P x = 'sw' at its head. One turn: from body x = some y, with the head for the next states and the exit -/
theorem lp_walk {σ α : Type} {body : σ → Option (σ ⊕ α)} (P : σ → Prop) {a : α} {F : Nat} {x0 : σ} (h0 : lp body F x0 = some a) (turn : ∀ x y, body x = some y → (∀ x', y = .inl x' → P x') → (∀ a', y = .inr a' → a' = a) → P x) : P x0 := by
  refine lp_ind (body := body) (a := a) (P := P) (fun x h1 h2 => ?_) F x0 h0
  rcases h2 with h2 | ⟨x', h2⟩
  · exact turn x _ h2 (fun x' h => by cases h) (fun a' h => by cases h; rfl)
  · exact turn x _ h2 (fun x2 h => by cases h; exact h1 _ h2) (fun a' h => by cases h)
variable {z : ρ}
theorem sw_nmi {pc : Nat} {x : Int32} {lv : List (Nat × Value)} {st : List Value} {ws : va_W} {K : Int32 → Option ρ} (hf : nm x K = some z) (kk : ∀ x : Int32, K x = some z → sw Θ p e R s m args below meth c A Q nL k n pc lv (.int x :: st) ws) : sw Θ p e R s m args below meth c A Q nL k n pc lv (.int x :: st) ws := kk x hf
theorem sw_nml {pc : Nat} {x : Int64} {lv : List (Nat × Value)} {st : List Value} {ws : va_W} {K : Int64 → Option ρ} (hf : nm x K = some z) (kk : ∀ x : Int64, K x = some z → sw Θ p e R s m args below meth c A Q nL k n pc lv (.long x :: st) ws) : sw Θ p e R s m args below meth c A Q nL k n pc lv (.long x :: st) ws := kk x hf
theorem sw_idiv (pc : Nat) (G : okG Θ p s m args c A nL cc own Ts) {x y : Int32} {lv : List (Nat × Value)} {st : List Value} {ws : va_W} (hd : decode cc pc = .ok (.idiv, 1)) {X : Option ρ} (hf : gz y X = some z) (kk : X = some z → sw Θ p e R s m args below meth c A Q nL k n (pc + 1) lv (.int (x / y) :: st) ws) : sw Θ p e R s m args below meth c A Q nL k n pc lv (.int y :: .int x :: st) ws := by
  intro H locs ls hP hD hS hl
  exact lv_idiv G.1 G.2.1 hd (gz_some hf).1 (kk (gz_some hf).2 H locs ls hP hD hS hl)
theorem sw_irem (pc : Nat) (G : okG Θ p s m args c A nL cc own Ts) {x y : Int32} {lv : List (Nat × Value)} {st : List Value} {ws : va_W} (hd : decode cc pc = .ok (.irem, 1)) {X : Option ρ} (hf : gz y X = some z) (kk : X = some z → sw Θ p e R s m args below meth c A Q nL k n (pc + 1) lv (.int (x - x / y * y) :: st) ws) : sw Θ p e R s m args below meth c A Q nL k n pc lv (.int y :: .int x :: st) ws := by
  intro H locs ls hP hD hS hl
  exact lv_irem G.1 G.2.1 hd (gz_some hf).1 (kk (gz_some hf).2 H locs ls hP hD hS hl)
theorem sw_iald (pc : Nat) (G : okG Θ p s m args c A nL cc own Ts) (q0 : Nat) {a : Nat} {N : Nat} {f : Nat → Int32} {i : Int32} {lv : List (Nat × Value)} {st : List Value} {ws : va_W} (hd : decode cc pc = .ok (.iaload, 1)) (ha : ws[q0]? = some (a, .inl (Θ.2.2 1, N, .inl f))) {X : Option ρ} (hf : gd i N X = some z) (kk : X = some z → sw Θ p e R s m args below meth c A Q nL k n (pc + 1) lv (.int (f i.toNatClampNeg) :: st) ws) : sw Θ p e R s m args below meth c A Q nL k n pc lv (.int i :: .ref a :: st) ws := by
  intro H locs ls hP hD hS hl
  exact va_iald G.1 G.2.1 G.2.2.2.2.2.1 hP q0 1 ha rfl (gd_some hf).1 hd (kk (gd_some hf).2 H locs ls hP hD hS hl)
theorem sw_iast (pc : Nat) (G : okG Θ p s m args c A nL cc own Ts) (q0 : Nat) {a : Nat} {N : Nat} {f : Nat → Int32} {i : Int32} {x : Int32} {lv : List (Nat × Value)} {st : List Value} {ws : va_W} (ws2 : va_W) (hd : decode cc pc = .ok (.iastore, 1)) (ha : ws[q0]? = some (a, .inl (Θ.2.2 1, N, .inl f))) (hw : ws.set q0 (a, .inl (Θ.2.2 1, N, .inl (upd f i.toNatClampNeg x))) = ws2) {X : Option ρ} (hf : gd i N X = some z) (kk : X = some z → sw Θ p e R s m args below meth c A Q nL k n (pc + 1) lv st ws2) : sw Θ p e R s m args below meth c A Q nL k n pc lv (.int x :: .int i :: .ref a :: st) ws := by
  intro H locs ls hP hD hS hl
  exact va_iast G.1 G.2.1 G.2.2.2.2.2.1 hP hD hS q0 1 ha rfl (gd_some hf).1 hd (fun H1 locs1 hP1 hD1 hS1 => kk (gd_some hf).2 H1 locs1 ls (hw ▸ hP1) (hw ▸ hD1) hS1 hl)
theorem sw_lald (pc : Nat) (G : okG Θ p s m args c A nL cc own Ts) (q0 : Nat) {a : Nat} {N : Nat} {f : Nat → Int64} {i : Int32} {lv : List (Nat × Value)} {st : List Value} {ws : va_W} (hd : decode cc pc = .ok (.laload, 1)) (ha : ws[q0]? = some (a, .inl (Θ.2.2 2, N, .inr (.inl f)))) {X : Option ρ} (hf : gd i N X = some z) (kk : X = some z → sw Θ p e R s m args below meth c A Q nL k n (pc + 1) lv (.long (f i.toNatClampNeg) :: st) ws) : sw Θ p e R s m args below meth c A Q nL k n pc lv (.int i :: .ref a :: st) ws := by
  intro H locs ls hP hD hS hl
  exact va_lald G.1 G.2.1 G.2.2.2.2.2.1 hP q0 2 ha rfl (gd_some hf).1 hd (kk (gd_some hf).2 H locs ls hP hD hS hl)
theorem sw_last (pc : Nat) (G : okG Θ p s m args c A nL cc own Ts) (q0 : Nat) {a : Nat} {N : Nat} {f : Nat → Int64} {i : Int32} {x : Int64} {lv : List (Nat × Value)} {st : List Value} {ws : va_W} (ws2 : va_W) (hd : decode cc pc = .ok (.lastore, 1)) (ha : ws[q0]? = some (a, .inl (Θ.2.2 2, N, .inr (.inl f)))) (hw : ws.set q0 (a, .inl (Θ.2.2 2, N, .inr (.inl (vp_updL f i.toNatClampNeg x)))) = ws2) {X : Option ρ} (hf : gd i N X = some z) (kk : X = some z → sw Θ p e R s m args below meth c A Q nL k n (pc + 1) lv st ws2) : sw Θ p e R s m args below meth c A Q nL k n pc lv (.long x :: .int i :: .ref a :: st) ws := by
  intro H locs ls hP hD hS hl
  exact va_last G.1 G.2.1 G.2.2.2.2.2.1 hP hD hS q0 2 ha rfl (gd_some hf).1 hd (fun H1 locs1 hP1 hD1 hS1 => kk (gd_some hf).2 H1 locs1 ls (hw ▸ hP1) (hw ▸ hD1) hS1 hl)
theorem sw_bald (pc : Nat) (G : okG Θ p s m args c A nL cc own Ts) (q0 : Nat) {a : Nat} {N : Nat} {f : Nat → Int32} {i : Int32} {lv : List (Nat × Value)} {st : List Value} {ws : va_W} (hd : decode cc pc = .ok (.baload, 1)) (ha : ws[q0]? = some (a, .inl (Θ.2.2 0, N, .inl f))) {X : Option ρ} (hf : gd i N X = some z) (kk : X = some z → sw Θ p e R s m args below meth c A Q nL k n (pc + 1) lv (.int (f i.toNatClampNeg) :: st) ws) : sw Θ p e R s m args below meth c A Q nL k n pc lv (.int i :: .ref a :: st) ws := by
  intro H locs ls hP hD hS hl
  exact va_bald G.1 G.2.1 G.2.2.2.2.2.1 hP q0 0 ha rfl (gd_some hf).1 hd (kk (gd_some hf).2 H locs ls hP hD hS hl)
theorem sw_bast (pc : Nat) (G : okG Θ p s m args c A nL cc own Ts) (q0 : Nat) {a : Nat} {N : Nat} {f : Nat → Int32} {i : Int32} {x : Int32} {lv : List (Nat × Value)} {st : List Value} {ws : va_W} (ws2 : va_W) (hd : decode cc pc = .ok (.bastore, 1)) (ha : ws[q0]? = some (a, .inl (Θ.2.2 0, N, .inl f))) (hw : ws.set q0 (a, .inl (Θ.2.2 0, N, .inl (upd f i.toNatClampNeg (vp_nar .byte x)))) = ws2) {X : Option ρ} (hf : gd i N X = some z) (kk : X = some z → sw Θ p e R s m args below meth c A Q nL k n (pc + 1) lv st ws2) : sw Θ p e R s m args below meth c A Q nL k n pc lv (.int x :: .int i :: .ref a :: st) ws := by
  intro H locs ls hP hD hS hl
  exact va_bast G.1 G.2.1 G.2.2.2.2.2.1 hP hD hS q0 0 ha rfl (gd_some hf).1 hd (fun H1 locs1 hP1 hD1 hS1 => kk (gd_some hf).2 H1 locs1 ls (hw ▸ hP1) (hw ▸ hD1) hS1 hl)
theorem sw_alen (pc : Nat) (G : okG Θ p s m args c A nL cc own Ts) (q0 t0 : Nat) {a N : Nat} {x : (Nat → Int32) ⊕ (Nat → Int64) ⊕ (Nat → UInt32) ⊕ (Nat → UInt64) ⊕ (Nat → Option Nat)} {ty : FieldType} (v : Int32) {lv : List (Nat × Value)} {st : List Value} {ws : va_W} {cA : ClassId} (hd : decode cc pc = .ok (.arraylength, 1)) (ha : ws[q0]? = some (a, .inl (cA, N, x))) (ht : (tyw Θ)[t0]? = some (cA, ty)) (hv : Int32.ofNat N = v) (kk : sw Θ p e R s m args below meth c A Q nL k n (pc + 1) lv (.int v :: st) ws) : sw Θ p e R s m args below meth c A Q nL k n pc lv (.ref a :: st) ws := by
  intro H locs ls hP hD hS hl
  exact va_alen G.1 G.2.1 G.2.2.2.2.2.1 hP q0 t0 ha ht hv hd (kk H locs ls hP hD hS hl)
theorem sw_mmax (pc : Nat) (G : okG Θ p s m args c A nL cc own Ts) {ix : Nat} {x y : Int32} {lv : List (Nat × Value)} {st : List Value} {ws : va_W} (hd : decode cc pc = .ok (.invokestatic ix, 3)) (h1 : Cond.methodLink own ix Lib.Math.max.name ∈ Ts) (h2 : Cond.static Lib.Math.max.name ∈ Ts) (h3 : Cond.initialized "java/lang/Math" ∈ Ts) (h4 : Cond.code Lib.Math.max.name Lib.Math.max.code 2 (some .int) ∈ Ts) (hfr : 1 ≤ R.frames) (hlo : (st.map fun v => v.category).sum + 13 ≤ R.locals) (hk : k ≤ R.cells ∧ n ≤ R.slots) (kk : sw Θ p e R s m args below meth c A Q nL k n (pc + 3) lv (.int (if x < y then y else x) :: st) ws) : sw Θ p e R s m args below meth c A Q nL k n pc lv (.int y :: .int x :: st) ws := by
  intro H locs ls hP hD hS hl
  exact va_mmax G.1 G.2.1 (by rw [hl.1]; exact G.2.2.1) G.2.2.2.1 (G.2.2.2.2.1 _ h1) (G.2.2.2.2.1 _ h2) (G.2.2.2.2.1 _ h3) (G.2.2.2.2.1 _ h4) hfr hlo hk.1 hk.2 hd (kk H locs ls hP hD hS hl)
theorem sw_mmin (pc : Nat) (G : okG Θ p s m args c A nL cc own Ts) {ix : Nat} {x y : Int32} {lv : List (Nat × Value)} {st : List Value} {ws : va_W} (hd : decode cc pc = .ok (.invokestatic ix, 3)) (h1 : Cond.methodLink own ix Lib.Math.min.name ∈ Ts) (h2 : Cond.static Lib.Math.min.name ∈ Ts) (h3 : Cond.initialized "java/lang/Math" ∈ Ts) (h4 : Cond.code Lib.Math.min.name Lib.Math.min.code 2 (some .int) ∈ Ts) (hfr : 1 ≤ R.frames) (hlo : (st.map fun v => v.category).sum + 13 ≤ R.locals) (hk : k ≤ R.cells ∧ n ≤ R.slots) (kk : sw Θ p e R s m args below meth c A Q nL k n (pc + 3) lv (.int (if y < x then y else x) :: st) ws) : sw Θ p e R s m args below meth c A Q nL k n pc lv (.int y :: .int x :: st) ws := by
  intro H locs ls hP hD hS hl
  exact va_mmin G.1 G.2.1 (by rw [hl.1]; exact G.2.2.1) G.2.2.2.1 (G.2.2.2.2.1 _ h1) (G.2.2.2.2.1 _ h2) (G.2.2.2.2.1 _ h3) (G.2.2.2.2.1 _ h4) hfr hlo hk.1 hk.2 hd (kk H locs ls hP hD hS hl)
theorem sw_lv {pc : Nat} {lv : List (Nat × Value)} {st : List Value} {ws : va_W} (lv2 : List (Nat × Value)) (ks : List Nat) (h : lv_pick lv ks = lv2) (kk : sw Θ p e R s m args below meth c A Q nL k n pc lv2 st ws) : sw Θ p e R s m args below meth c A Q nL k n pc lv st ws := fun H locs ls hP hD hS hl => kk H locs ls hP hD hS (lv_sub hl ks h)
def tsw {ρ : Type} (x : Int32) (lo hi : Int) (X : Nat → Option ρ) (D : Option ρ) : Option ρ := if x.toInt < lo ∨ hi < x.toInt then D else X (x.toInt - lo).toNat
theorem sw_tsw (pc dt : Nat) (G : okG Θ p s m args c A nL cc own Ts) {dflt lo hi : Int} {offs : Array Int} {len : Nat} {x : Int32} {lv : List (Nat × Value)} {st : List Value} {ws : va_W} (hd : decode cc pc = .ok (.tableswitch dflt lo hi offs, len)) (ht : (pc : Int) + dflt = (dt : Int)) {X : Nat → Option ρ} {D : Option ρ} (hf : tsw x lo hi X D = r) (kd : D = r → sw Θ p e R s m args below meth c A Q nL k n dt lv st ws) (ki : ∀ j : Nat, (j : Int) ≤ hi - lo → X j = r → ∃ (off : Int) (tgt : Nat), offs[j]? = some off ∧ (pc : Int) + off = (tgt : Int) ∧ sw Θ p e R s m args below meth c A Q nL k n tgt lv st ws) : sw Θ p e R s m args below meth c A Q nL k n pc lv (.int x :: st) ws := by
  intro H locs ls hP hD hS hl
  unfold tsw at hf
  by_cases h : x.toInt < lo ∨ hi < x.toInt
  · rw [if_pos h] at hf
    exact lv_tableOut G.1 G.2.1 hd h ht (kd hf H locs ls hP hD hS hl)
  · rw [if_neg h] at hf
    obtain ⟨off, tgt, h1, h2, h3⟩ := ki _ (by omega) hf
    exact lv_tableIn G.1 G.2.1 hd (by omega) (by omega) h1 h2 (h3 H locs ls hP hD hS hl)
theorem sw_dup2_11 (pc : Nat) (G : okG Θ p s m args c A nL cc own Ts) {va vb : Value} {lv : List (Nat × Value)} {st : List Value} {ws : va_W} (hd : decode cc pc = .ok (.dup2, 1)) (hva : va.category = 1) (hvb : vb.category = 1) (kk : sw Θ p e R s m args below meth c A Q nL k n (pc + 1) lv (vb :: va :: vb :: va :: st) ws) : sw Θ p e R s m args below meth c A Q nL k n pc lv (vb :: va :: st) ws := by
  intro H locs ls hP hD hS hl
  exact lv_dup2_11 G.1 G.2.1 hd hvb hva (kk H locs ls hP hD hS hl)
theorem sw_get (pc : Nat) (G : okG Θ p s m args c A nL cc own Ts) {C : String} {T : u_T} {N ci ix : Nat} (hin : ∀ w ∈ u_ws C T N, w ∈ Ts) (q0 fk : Nat) {a : Nat} {fs : List Value} {v : Value} {lv : List (Nat × Value)} {st : List Value} {ws : va_W} (hd : decode cc pc = .ok (.getfield ix, 3)) (hc : vwCl[ci]? = some (C, T, N)) (hk : fk < N) (hlink : Cond.fieldLink own ix (T fk).1 (T fk).2.1 (T fk).2.2.1 ∈ Ts) (he : ws[q0]? = some (a, .inr (ci, fs))) (hv : fs[fk]? = some v) (kk : sw Θ p e R s m args below meth c A Q nL k n (pc + 3) lv (v :: st) ws) : sw Θ p e R s m args below meth c A Q nL k n pc lv (.ref a :: st) ws := by
  intro H locs ls hP hD hS hl
  exact va_get G.1 G.2.1 G.2.2.2.2.1 hin G.2.2.2.1 G.2.2.2.2.2.1 hP q0 he hc fk hk (G.2.2.2.2.1 _ hlink) (fun _ h => h) hv hd (kk H locs ls hP hD hS hl)
theorem sw_put (pc : Nat) (G : okG Θ p s m args c A nL cc own Ts) {C : String} {T : u_T} {N ci ix : Nat} (hin : ∀ w ∈ u_ws C T N, w ∈ Ts) {ty0 : Nat → FieldType} (hty : ∀ k, k < N → parseFieldDescriptor (T k).2.2.1 = some (ty0 k)) (hnm : ∀ a, a < N → ∀ b, b < N → a ≠ b → (T a).2.1 ≠ (T b).2.1) (q0 fk : Nat) {a : Nat} {fs : List Value} {v : Value} {ty : FieldType} {lv : List (Nat × Value)} {st : List Value} {ws : va_W} (ws2 : va_W) (hd : decode cc pc = .ok (.putfield ix, 3)) (hc : vwCl[ci]? = some (C, T, N)) (hk : fk < N) (hlink : Cond.fieldLink own ix (T fk).1 (T fk).2.1 (T fk).2.2.1 ∈ Ts) (hfin : (T fk).2.2.2 = false) (he : ws[q0]? = some (a, .inr (ci, fs))) (hl0 : fk < fs.length) (hdd : parseFieldDescriptor (T fk).2.2.1 = some ty) (hn : narrow ty v = v) (hfit : fits ty v = true) (hw : ws.set q0 (a, .inr (ci, fs.set fk v)) = ws2) (kk : sw Θ p e R s m args below meth c A Q nL k n (pc + 3) lv st ws2) : sw Θ p e R s m args below meth c A Q nL k n pc lv (v :: .ref a :: st) ws := by
  intro H locs ls hP hD hS hl
  exact va_put G.1 G.2.1 G.2.2.2.2.1 hin ty0 hty hnm G.2.2.2.1 G.2.2.2.2.2.1 hP hD hS q0 he hc fk hk (G.2.2.2.2.1 _ hlink) (fun _ h => h) hfin hdd hn hfit hl0 hd (fun H1 locs1 hP1 hD1 hS1 => kk H1 locs1 ls (hw ▸ hP1) (hw ▸ hD1) hS1 hl)
def va_pk (ws : va_W) (is : List Nat) : va_W := is.filterMap (fun i => ws[i]?)
theorem fm_of_map {α : Type} {is : List Nat} {w w' : List α} (h : is.map (fun i => w[i]?) = w'.map some) : is.filterMap (fun i => w[i]?) = w' := by
  have h2 : is.filterMap (fun i => w[i]?) = (is.map (fun i => w[i]?)).filterMap id := by simp [List.filterMap_map]
  rw [h2, h, List.filterMap_map]
  simp
theorem Pre.blind {as : List Value} {w0 : va_W} {sz : Nat} : FrameBlind (va_Pc as (Pre Θ w0 sz)) := fun a U g mk q => by
  obtain ⟨q0, q1, qP, qK, qD, qN⟩ := q
  exact ⟨q0, q1, qP, va_K.moved (u := U) (U := U.calling g mk a) (Vm.Alike.refl U.vm) qK, qD, qN.same rfl⟩

theorem sw_run {pc : Nat} {st0 rest : List Value} {lv : List (Nat × Value)} {ws : va_W} (G : okG Θ p s m args c A nL cc own Ts) {as : Array Value} {o : Option Value} {wc wr w1 : va_W} (ws2 : va_W) (isC isR isB : List Nat)
    (hC : isC.map (fun i => ws[i]?) = wc.map some) (hR : isR.map (fun i => ws[i]?) = wr.map some) (hB : isB.map (fun i => (wr ++ w1)[i]?) = ws2.map some) (hn : (va_nd isC && va_nd isR && va_nd isB && isR.all (fun i => !isC.contains i)) = true)
    (hr : ∀ (H : Heap) (locs : List Loc) (ls : Array Slot), lv_has ls nL lv → va_P Θ.2.1 vwCl ws H → va_P Θ.2.1 vwCl wc H → va_D (fun _ => True) wc → va_Run p Θ.1 e R s m args below meth c H locs k n 0 0 (F0 m pc ls st0) rest (Pst Θ wc w1 o H.size as) (va_A wc H.size))
    (kk : sw Θ p e R s m args below meth c A Q nL k n (pc + 3) lv (o.toList ++ rest) ws2) : sw Θ p e R s m args below meth c A Q nL k n pc lv st0 ws := by
  intro H locs ls hP hD hS hl
  simp only [Bool.and_eq_true] at hn
  obtain ⟨⟨⟨hn1, hn2⟩, hn3⟩, hn4⟩ := hn
  have hFc : ∀ q, va_A wc H.size q → A q := va_free hD hS G.2.2.2.2.2.2.1 isC hC
  have hPc := hP.sub isC (fm_of_map hC)
  have hDc : va_D A wc := hD.sub isC hn1 hC
  have hdis : ∀ i ∈ isR, i ∉ isC := fun i hi hc => by
    have h1 := List.all_eq_true.mp hn4 i hi
    simp [List.contains_iff_mem, hc] at h1
  intro T hT X
  obtain ⟨v, st₀, t, T', L, e0, X', hL, e1, e2, ⟨h1, h2, h3, h4⟩, st⟩ := hr H locs ls hl hP hPc (hDc.weaken (fun _ _ _ _ => trivial)) T hT X
  cases h1
  obtain ⟨k1, k2⟩ := h4
  have hk : ∀ q : Nat, q < H.size → ¬ va_A wc H.size q → T'.heap[q]? = H[q]? := fun q hq hA => by
    rw [e1, ← e0]; exact k2 q (by rw [e0]; exact hq) hA
  rw [← e1] at h2
  obtain ⟨hP1, hD1⟩ := va_join (wr := wr) (w1 := w1) hP hD isC isR hC hR hn2 hdis hk hFc h2 h3
  have hz : H.size ≤ T'.heap.size := by rw [e1, ← e0]; exact k1
  have hS1 : va_S A s.heap T'.heap (locs ++ L) := ⟨Nat.le_trans hS.1 hz, fun q hq hA => (hk q (Nat.lt_of_lt_of_le hq hS.1) (fun h => hA (hFc q h))).trans (hS.2.1 q hq hA), fun z hz => (List.mem_append.mp hz).elim (fun h => hS.2.2 z h) (fun h => hFc _ (hL z h))⟩
  obtain ⟨w, a, b⟩ := kk T'.heap (locs ++ L) ls (hP1.sub isB (fm_of_map hB)) (hD1.sub isB hn3 hB) hS1 hl T' rfl X'
  exact ⟨w, st w a, b⟩
/-- a call of an instance method by its class (own private ones too) -/
theorem sw_callV (pc : Nat) (G : okG Θ p s m args c A nL cc own Ts) {ix : Nat} {C : String} {y : MethodName} {bytes : ByteArray} {maxL : Nat} {ret : Option FieldType} {wsY ws' : List Cond} {rm : Room} {as rest st0 : List Value} {o : Option Value} {b : Nat} {wc w1 ws : va_W} {lv : List (Nat × Value)} (ws2 : va_W) (isC isR isB : List Nat) (N : Nat)
    (hd : decode cc pc = .ok (.invokevirtual ix, 3)) (hM : Fn Θ y wsY rm (.ref b :: as) wc o w1) (hT : GoodIn Ts (wsV own ix C y wsY)) (hw : wsY = Cond.code y bytes maxL ret :: ws') (hdy : y.cls = C ∧ y.cls ≠ "java/lang/invoke/MethodHandle" ∧ y.cls ≠ "java/lang/invoke/VarHandle" ∧ (parseMethodDescriptor y.desc).map (fun d => d.parameters.length) = some N)
    (hrc : rm.cells = 0 ∧ rm.slots = 0) (hR : rm.frames + 1 ≤ R.frames ∧ 8 + (maxL + 11) + rm.locals ≤ R.locals) (hk : k ≤ R.cells ∧ n ≤ R.slots) (hst : st0 = as.reverse ++ .ref b :: rest) (hN : as.length = N) (hcat : (rest.map fun v => v.category).sum ≤ 8)
    {ci : Nat} {fs : List Value} {q : vw_C} (q0 : Nat) (he : wc[q0]? = some (b, .inr (ci, fs))) (hc : vwCl[ci]? = some q) (hq : q.1 = C)
    (hC : isC.map (fun i => ws[i]?) = wc.map some) (hRr : isR.map (fun i => ws[i]?) = (va_pk ws isR).map some) (hB : isB.map (fun i => (va_pk ws isR ++ w1)[i]?) = ws2.map some) (hn : (va_nd isC && va_nd isR && va_nd isB && isR.all (fun i => !isC.contains i)) = true)
    (kk : sw Θ p e R s m args below meth c A Q nL k n (pc + 3) lv (o.toList ++ rest) ws2) : sw Θ p e R s m args below meth c A Q nL k n pc lv st0 ws := by
  refine sw_run (as := (Value.ref b :: as).toArray) G ws2 isC isR isB hC hRr hB hn (fun H locs ls hl hP hPc hDc => ?_) kk
  subst hq
  exact va_runV (Ts := Ts) (own := own) (nL := nL) (cc := cc) (As := as) (rest := rest) ⟨G.1, G.2.1, G.2.2.1, G.2.2.2.1, G.2.2.2.2.1⟩ (hM H.size) (cwV N G.2.2.2.2.1 hT hw hrc.1 hrc.2 hdy hR) ⟨Pre.blind, va_recv G.2.2.2.2.2.1 hPc hc he, fun U hU hW => ⟨rfl, by rw [hU], by rw [hU]; exact hPc, va_K.moved hW.alike G.2.2.2.2.2.1, hDc, G.2.2.2.2.2.2.2.warm hW⟩⟩ rfl hN hl.1 hst (lv_room hcat) hd ⟨hk.1, hk.2⟩
/-- a call of a static method -/
theorem sw_callS (pc : Nat) (G : okG Θ p s m args c A nL cc own Ts) {ix : Nat} {y : MethodName} {bytes : ByteArray} {maxL : Nat} {ret : Option FieldType} {wsY ws' : List Cond} {rm : Room} {as rest st0 : List Value} {o : Option Value} {wc w1 ws : va_W} {lv : List (Nat × Value)} (ws2 : va_W) (isC isR isB : List Nat) (N : Nat)
    (hd : decode cc pc = .ok (.invokestatic ix, 3)) (hM : Fn Θ y wsY rm as wc o w1) (hT : GoodIn Ts (va_wsS own ix y wsY)) (hw : wsY = Cond.code y bytes maxL ret :: ws') (hdy : y.cls ≠ "java/lang/invoke/MethodHandle" ∧ y.cls ≠ "java/lang/invoke/VarHandle" ∧ (parseMethodDescriptor y.desc).map (fun d => d.parameters.length) = some N)
    (hrc : rm.cells = 0 ∧ rm.slots = 0) (hR : rm.frames + 1 ≤ R.frames ∧ 8 + (maxL + 11) + rm.locals ≤ R.locals) (hk : k ≤ R.cells ∧ n ≤ R.slots) (hst : st0 = as.reverse ++ rest) (hN : as.length = N) (hcat : (rest.map fun v => v.category).sum ≤ 8)
    (hC : isC.map (fun i => ws[i]?) = wc.map some) (hRr : isR.map (fun i => ws[i]?) = (va_pk ws isR).map some) (hB : isB.map (fun i => (va_pk ws isR ++ w1)[i]?) = ws2.map some) (hn : (va_nd isC && va_nd isR && va_nd isB && isR.all (fun i => !isC.contains i)) = true)
    (kk : sw Θ p e R s m args below meth c A Q nL k n (pc + 3) lv (o.toList ++ rest) ws2) : sw Θ p e R s m args below meth c A Q nL k n pc lv st0 ws := by
  have ok : ∀ w ∈ va_wsS own ix y wsY, w.before args s = true := fun w h => G.2.2.2.2.1 w (hT w h).1
  have hT2 : GoodIn Ts wsY := fun w h => hT w (by unfold va_wsS; exact List.mem_append_right _ h)
  refine sw_run (as := as.toArray) G ws2 isC isR isB hC hRr hB hn (fun H locs ls hl' hP hPc hDc => ?_) kk
  exact va_runS (Ts := Ts) (own := own) (nL := nL) (cc := cc) (As := as) (rest := rest) ⟨G.1, G.2.1, G.2.2.1, G.2.2.2.1, G.2.2.2.2.1⟩ (hM H.size) ⟨callB_of N G.2.2.2.2.1 hT2 hw hrc.1 hrc.2 (ok _ (by simp [va_wsS])) (ok _ (by simp [va_wsS])) hdy hR, ok _ (by simp [va_wsS])⟩ ⟨Pre.blind, fun U hU hW => ⟨rfl, by rw [hU], by rw [hU]; exact hPc, va_K.moved hW.alike G.2.2.2.2.2.1, hDc, G.2.2.2.2.2.2.2.warm hW⟩⟩ rfl hN hl'.1 hst (lv_room hcat) hd ⟨hk.1, hk.2⟩
/-- a call of a nest mate's private static method -/
theorem sw_callSN (pc : Nat) (G : okG Θ p s m args c A nL cc own Ts) {ix : Nat} {host : String} {y : MethodName} {bytes : ByteArray} {maxL : Nat} {ret : Option FieldType} {wsY ws' : List Cond} {rm : Room} {as rest st0 : List Value} {o : Option Value} {wc w1 ws : va_W} {lv : List (Nat × Value)} (ws2 : va_W) (isC isR isB : List Nat) (N : Nat)
    (hd : decode cc pc = .ok (.invokestatic ix, 3)) (hM : Fn Θ y wsY rm as wc o w1) (hT : GoodIn Ts wsY) (hl : (own, ix, y, host) ∈ nwL) (hstat : Cond.static y ∈ Ts) (hini : Cond.initialized y.cls ∈ Ts) (hw : wsY = Cond.code y bytes maxL ret :: ws') (hdy : y.cls ≠ "java/lang/invoke/MethodHandle" ∧ y.cls ≠ "java/lang/invoke/VarHandle" ∧ (parseMethodDescriptor y.desc).map (fun d => d.parameters.length) = some N)
    (hrc : rm.cells = 0 ∧ rm.slots = 0) (hR : rm.frames + 1 ≤ R.frames ∧ 8 + (maxL + 11) + rm.locals ≤ R.locals) (hk : k ≤ R.cells ∧ n ≤ R.slots) (hst : st0 = as.reverse ++ rest) (hN : as.length = N) (hcat : (rest.map fun v => v.category).sum ≤ 8)
    (hC : isC.map (fun i => ws[i]?) = wc.map some) (hRr : isR.map (fun i => ws[i]?) = (va_pk ws isR).map some) (hB : isB.map (fun i => (va_pk ws isR ++ w1)[i]?) = ws2.map some) (hn : (va_nd isC && va_nd isR && va_nd isB && isR.all (fun i => !isC.contains i)) = true)
    (kk : sw Θ p e R s m args below meth c A Q nL k n (pc + 3) lv (o.toList ++ rest) ws2) : sw Θ p e R s m args below meth c A Q nL k n pc lv st0 ws := by
  refine sw_run (as := as.toArray) G ws2 isC isR isB hC hRr hB hn (fun H locs ls hl' hP hPc hDc => ?_) kk
  exact va_runSN (Ts := Ts) (own := own) (nL := nL) (cc := cc) (As := as) (rest := rest) ⟨G.1, G.2.1, G.2.2.1, G.2.2.2.1, G.2.2.2.2.1⟩ (hM H.size) ⟨va_cnB N G.2.2.2.2.1 hT hw hrc.1 hrc.2 (G.2.2.2.2.2.2.2 _ hl) (G.2.2.2.2.1 _ hini) hdy hR, G.2.2.2.2.1 _ hstat, trivial⟩ ⟨Pre.blind, fun U hU hW => ⟨rfl, by rw [hU], by rw [hU]; exact hPc, va_K.moved hW.alike G.2.2.2.2.2.1, hDc, G.2.2.2.2.2.2.2.warm hW⟩⟩ rfl hN hl'.1 hst (lv_room hcat) hd ⟨hk.1, hk.2⟩

theorem sw_iret (pc : Nat) (G : okG Θ p s m args c A nL cc own Ts) {w0 w1 : va_W} {v : Int32} {lv : List (Nat × Value)} (hd : decode cc pc = .ok (.ireturn, 1)) (K : okR Θ R s args below meth A Q w0 w1 (some (.int v)) (some .int)) : sw Θ p e R s m args below meth c A Q nL 0 0 pc lv [.int v] w1 := by
  intro H locs ls hP hD hS hl
  obtain ⟨rfl, rfl, hr, hlk⟩ := K
  exact W.iret G.1 G.2.1 hr (fun t ht hW => ⟨rfl, by rw [ht]; exact hP, hD, hS.F ht⟩) hS.2.2 hd hlk
theorem sw_lret (pc : Nat) (G : okG Θ p s m args c A nL cc own Ts) {w0 w1 : va_W} {v : Int64} {lv : List (Nat × Value)} (hd : decode cc pc = .ok (.lreturn, 1)) (K : okR Θ R s args below meth A Q w0 w1 (some (.long v)) (some .long)) : sw Θ p e R s m args below meth c A Q nL 0 0 pc lv [.long v] w1 := by
  intro H locs ls hP hD hS hl
  obtain ⟨rfl, rfl, hr, hlk⟩ := K
  exact W.lret G.1 G.2.1 hr (fun t ht hW => ⟨rfl, by rw [ht]; exact hP, hD, hS.F ht⟩) hS.2.2 hd hlk
theorem sw_zret (pc : Nat) (G : okG Θ p s m args c A nL cc own Ts) {w0 w1 : va_W} {v : Int32} {lv : List (Nat × Value)} (hd : decode cc pc = .ok (.ireturn, 1)) (K : okR Θ R s args below meth A Q w0 w1 (some (.int v)) (some .boolean)) (hv : narrow .boolean (.int v) = .int v) : sw Θ p e R s m args below meth c A Q nL 0 0 pc lv [.int v] w1 := by
  intro H locs ls hP hD hS hl
  obtain ⟨rfl, rfl, hr, hlk⟩ := K
  exact W.zret G.1 G.2.1 hr hv (fun t ht hW => ⟨rfl, by rw [ht]; exact hP, hD, hS.F ht⟩) hS.2.2 hd hlk
theorem sw_vret (pc : Nat) (G : okG Θ p s m args c A nL cc own Ts) {w0 w1 : va_W} {lv : List (Nat × Value)} (hd : decode cc pc = .ok (.return_, 1)) (K : okR Θ R s args below meth A Q w0 w1 none none) : sw Θ p e R s m args below meth c A Q nL 0 0 pc lv [] w1 := by
  intro H locs ls hP hD hS hl
  obtain ⟨rfl, rfl, hr, hlk⟩ := K
  exact W.vret G.1 G.2.1 hr (fun t ht hW => ⟨rfl, by rw [ht]; exact hP, hD, hS.F ht⟩) hS.2.2 hd hlk
end SW
theorem Fn.of {Θ : Tht} {y : MethodName} {ws ws' : List Cond} {rm : Room} {as : List Value} {w0 w1 : va_W} {o : Option Value} {cc : ByteArray} {maxL : Nat} {ret : Option FieldType} (hy : plainName y.cls = true) (hw : ws = Cond.code y cc maxL ret :: ws') (hlen : (lg_sl as).length ≤ maxL)
    (body : ∀ (p : Program) (e : Env) (s : State) (m : MethodId) (args : Array Value) (below : List Frame) (meth : Method) (c : Code) (A : Nat → Prop) (Q : State → Prop), okG Θ p s m args c A maxL cc y.cls ws → okR Θ rm s args below meth A Q w0 w1 o ret → sw Θ p e rm s m args below meth c A Q maxL 0 0 0 (lv_args 0 as) [] w0) : Fn Θ y ws rm as w0 o w1 := by
  intro sz
  refine Met.ofW (cc := cc) (maxL := maxL) (ret := ret) hy hw ?_
  intro p e s m args below meth c s₁ B hml hv
  obtain ⟨rfl, hsz, hP, hK, hD0, hN⟩ := hv
  subst hsz
  have hts := atoms_spec (ws := ws) B.pre
  have hown : s.vm.findClass y.cls = some m.cls := findClass_of_methodNamed B.named
  have hl := lv_entry as (n := maxL) hlen
  rw [lg_entry_eq]
  exact body p e s m _ below meth c _ _ ⟨B.exec, B.bytes, hml, hown, hts, hK, fun q h => Or.inr h, hN⟩ ⟨rfl, rfl, B.returns, B.notSynchronized⟩ s.heap [] _ hP (hD0.self) va_S.rf hl

theorem vc0 : vwCl[0]? = some (RX0, TX0, 5) := rfl
theorem vc1 : vwCl[1]? = some (RX1, TX1, 10) := rfl
theorem vc2 : vwCl[2]? = some (RX2, TX2, 8) := rfl
theorem vc3 : vwCl[3]? = some (RX3, TX3, 9) := rfl
theorem vc4 : vwCl[4]? = some (RX4, TX4, 2) := rfl
theorem vc5 : vwCl[5]? = some (RX5, TX5, 7) := rfl
def GW : List Cond := lw_tbl.filter goodWord
theorem GW_of {w : Cond} (i : Nat) (h : lw_tbl[i]? = some w) (hg : goodWord w = true) : w ∈ GW := List.mem_filter.mpr ⟨List.mem_of_getElem? h, hg⟩
theorem GW_tbl {w : Cond} (h : w ∈ GW) : w ∈ lw_tbl := (List.mem_filter.mp h).1
theorem gw_in {big : List Cond} (h : ∀ w ∈ GW, w ∈ big) {cw : Cond} (hc : cw ∈ GW) : GoodIn big (cw :: GW) := fun w hw => (List.mem_cons.mp hw).elim (fun e => by rw [e]; exact ⟨h _ hc, good_of_word ((List.mem_filter.mp hc).2)⟩) (fun hw => ⟨h _ hw, good_of_word (List.mem_filter.mp hw).2⟩)
theorem gw_V {big : List Cond} (h : ∀ w ∈ GW, w ∈ big) {own C : String} {ix : Nat} {y : MethodName} {bytes : ByteArray} {maxL : Nat} {ret : Option FieldType} (h1 : Cond.methodLink own ix y ∈ GW) (h2 : Cond.instanceMethod y ∈ GW) (h3 : Cond.selects C y y ∈ GW) (h4 : Cond.initialized C ∈ GW) (h5 : Cond.code y bytes maxL ret ∈ GW) : GoodIn big (wsV own ix C y (Cond.code y bytes maxL ret :: GW)) := by
  intro w hw
  have g : ∀ w ∈ GW, w ∈ big ∧ ((w.onTables && w.keeps) = true ∨ ∃ ty, w = .arrayClass ty) := fun w hw => ⟨h _ hw, good_of_word (List.mem_filter.mp hw).2⟩
  simp only [wsV, List.cons_append, List.nil_append, List.mem_cons] at hw
  rcases hw with rfl | rfl | rfl | rfl | rfl | hw
  · exact g _ h1
  · exact g _ h2
  · exact g _ h3
  · exact g _ h4
  · exact g _ h5
  · exact g _ hw
theorem gw_S {big : List Cond} (h : ∀ w ∈ GW, w ∈ big) {own : String} {ix : Nat} {y : MethodName} {bytes : ByteArray} {maxL : Nat} {ret : Option FieldType} (h1 : Cond.methodLink own ix y ∈ GW) (h2 : Cond.static y ∈ GW) (h4 : Cond.initialized y.cls ∈ GW) (h5 : Cond.code y bytes maxL ret ∈ GW) : GoodIn big (va_wsS own ix y (Cond.code y bytes maxL ret :: GW)) := by
  intro w hw
  have g : ∀ w ∈ GW, w ∈ big ∧ ((w.onTables && w.keeps) = true ∨ ∃ ty, w = .arrayClass ty) := fun w hw => ⟨h _ hw, good_of_word (List.mem_filter.mp hw).2⟩
  simp only [va_wsS, List.cons_append, List.nil_append, List.mem_cons] at hw
  rcases hw with rfl | rfl | rfl | rfl | hw
  · exact g _ h1
  · exact g _ h2
  · exact g _ h4
  · exact g _ h5
  · exact g _ hw
theorem gwV {cw : Cond} {own C : String} {ix : Nat} {y : MethodName} {bytes : ByteArray} {maxL : Nat} {ret : Option FieldType} (h1 : Cond.methodLink own ix y ∈ GW) (h2 : Cond.instanceMethod y ∈ GW) (h3 : Cond.selects C y y ∈ GW) (h4 : Cond.initialized C ∈ GW) (h5 : Cond.code y bytes maxL ret ∈ GW) : GoodIn (cw :: GW) (wsV own ix C y (Cond.code y bytes maxL ret :: GW)) := gw_V (fun _ h => List.mem_cons_of_mem _ h) h1 h2 h3 h4 h5
theorem gwS {cw : Cond} {own : String} {ix : Nat} {y : MethodName} {bytes : ByteArray} {maxL : Nat} {ret : Option FieldType} (h1 : Cond.methodLink own ix y ∈ GW) (h2 : Cond.static y ∈ GW) (h4 : Cond.initialized y.cls ∈ GW) (h5 : Cond.code y bytes maxL ret ∈ GW) : GoodIn (cw :: GW) (va_wsS own ix y (Cond.code y bytes maxL ret :: GW)) := gw_S (fun _ h => List.mem_cons_of_mem _ h) h1 h2 h4 h5
theorem gwN {cw : Cond} {y : MethodName} {bytes : ByteArray} {maxL : Nat} {ret : Option FieldType} (h5 : Cond.code y bytes maxL ret ∈ GW) : GoodIn (cw :: GW) (Cond.code y bytes maxL ret :: GW) := gw_in (fun _ h => List.mem_cons_of_mem _ h) h5

theorem gnX0 : ∀ w ∈ wsX00, w ∈ GW := by decide +kernel
theorem hnX0 {cw : Cond} : ∀ w ∈ wsX00, w ∈ cw :: GW := fun w h => List.mem_cons_of_mem _ (gnX0 w h)
theorem gnX1 : ∀ w ∈ wsX10, w ∈ GW := by decide +kernel
theorem hnX1 {cw : Cond} : ∀ w ∈ wsX10, w ∈ cw :: GW := fun w h => List.mem_cons_of_mem _ (gnX1 w h)
theorem gnX2 : ∀ w ∈ wsX20, w ∈ GW := by decide +kernel
theorem hnX2 {cw : Cond} : ∀ w ∈ wsX20, w ∈ cw :: GW := fun w h => List.mem_cons_of_mem _ (gnX2 w h)
theorem gnX3 : ∀ w ∈ wsX30, w ∈ GW := by decide +kernel
theorem hnX3 {cw : Cond} : ∀ w ∈ wsX30, w ∈ cw :: GW := fun w h => List.mem_cons_of_mem _ (gnX3 w h)
theorem gnX4 : ∀ w ∈ wsX40, w ∈ GW := by decide +kernel
theorem hnX4 {cw : Cond} : ∀ w ∈ wsX40, w ∈ cw :: GW := fun w h => List.mem_cons_of_mem _ (gnX4 w h)
theorem gnX5 : ∀ w ∈ wsX50, w ∈ GW := by decide +kernel
theorem hnX5 {cw : Cond} : ∀ w ∈ wsX50, w ∈ cw :: GW := fun w h => List.mem_cons_of_mem _ (gnX5 w h)
