/-! the worlds of both sides, whole -/
abbrev CSt : Type := Int32 × Int32 × Snap × (Nat → Snap) × (Int32 × Int32 × (Nat → Int64) × (Nat → Int32) × (Nat → Int32) × Int32 × Int32 × Int32 × Int32) × (Int32 × Int32 × Int32 × Int32 × Int32 × (Nat → Int32) × (Nat → Int32) × (Nat → Int32)) × ((Nat → Int32) × (Nat → Int32) × Int32 × Int32 × Int32)
abbrev wC (Θ : Tht) (ad : Nat → Nat) (c : CSt) : va_W := [(ad 0, .inr (5, [.ref (ad 1), .ref (ad 21), .int c.1, .int c.2.1, .ref (ad 10), .ref (ad 14), .ref (ad 18)]))] ++ [(ad 1, .inr (4, [.ref (ad 2), .ref (ad 6)]))] ++ wX1 Θ (ad 2) (ad 3) (ad 4) (ad 5) c.2.2.1.1 c.2.2.1.2.1 c.2.2.1.2.2.1 c.2.2.1.2.2.2.1 c.2.2.1.2.2.2.2.1 c.2.2.1.2.2.2.2.2.1 c.2.2.1.2.2.2.2.2.2.1 c.2.2.1.2.2.2.2.2.2.2.1 c.2.2.1.2.2.2.2.2.2.2.2.1 c.2.2.1.2.2.2.2.2.2.2.2.2.1 ++ wX3 Θ (ad 6) (ad 7) (ad 8) (ad 9) c.2.2.1.2.2.2.2.2.2.2.2.2.2.1 c.2.2.1.2.2.2.2.2.2.2.2.2.2.2.1 c.2.2.1.2.2.2.2.2.2.2.2.2.2.2.2.1 c.2.2.1.2.2.2.2.2.2.2.2.2.2.2.2.2.1 c.2.2.1.2.2.2.2.2.2.2.2.2.2.2.2.2.2.1 c.2.2.1.2.2.2.2.2.2.2.2.2.2.2.2.2.2.2.1 c.2.2.1.2.2.2.2.2.2.2.2.2.2.2.2.2.2.2.2.1 c.2.2.1.2.2.2.2.2.2.2.2.2.2.2.2.2.2.2.2.2.1 c.2.2.1.2.2.2.2.2.2.2.2.2.2.2.2.2.2.2.2.2.2 ++ wX3 Θ (ad 10) (ad 11) (ad 12) (ad 13) c.2.2.2.2.1.1 c.2.2.2.2.1.2.1 c.2.2.2.2.1.2.2.1 c.2.2.2.2.1.2.2.2.1 c.2.2.2.2.1.2.2.2.2.1 c.2.2.2.2.1.2.2.2.2.2.1 c.2.2.2.2.1.2.2.2.2.2.2.1 c.2.2.2.2.1.2.2.2.2.2.2.2.1 c.2.2.2.2.1.2.2.2.2.2.2.2.2 ++ wX2 Θ (ad 14) (ad 15) (ad 16) (ad 17) c.2.2.2.2.2.1.1 c.2.2.2.2.2.1.2.1 c.2.2.2.2.2.1.2.2.1 c.2.2.2.2.2.1.2.2.2.1 c.2.2.2.2.2.1.2.2.2.2.1 c.2.2.2.2.2.1.2.2.2.2.2.1 c.2.2.2.2.2.1.2.2.2.2.2.2.1 c.2.2.2.2.2.1.2.2.2.2.2.2.2 ++ wX0 Θ (ad 18) (ad 19) (ad 20) c.2.2.2.2.2.2.1 c.2.2.2.2.2.2.2.1 c.2.2.2.2.2.2.2.2.1 c.2.2.2.2.2.2.2.2.2.1 c.2.2.2.2.2.2.2.2.2.2 ++ wSV Θ (ad 21) (ad 22) (ad 23) (ad 24) (ad 25) (ad 26) (ad 27) (ad 28) (ad 29) (ad 30) (ad 31) (ad 32) (ad 33) (ad 34) (ad 35) (ad 36) (ad 37) (ad 38) (ad 39) (ad 40) (ad 41) (ad 42) (ad 43) (ad 44) (ad 45) (ad 46) (ad 47) (ad 48) (ad 49) (ad 50) (ad 51) (ad 52) (ad 53) (ad 54) (ad 55) (ad 56) (ad 57) c.2.2.2.1
theorem rg_at {α : Type} {w a b c : List α} (e : w = a ++ b ++ c) : (List.range' a.length b.length).map (fun i => w[i]?) = b.map some := by
  rw [e]
  exact rg_map a b c
theorem mid_C {α : Type} (A0 R B0 : List α) : (List.range' 0 A0.length ++ List.range' (A0 ++ R).length B0.length).map (fun i => (A0 ++ R ++ B0)[i]?) = (A0 ++ B0).map some := by
  rw [List.map_append, List.map_append, rg_at (w := A0 ++ R ++ B0) (a := A0 ++ R) (b := B0) (c := []) (List.append_nil _).symm]
  exact congrArg (· ++ _) (rg_at (w := A0 ++ R ++ B0) (a := []) (b := A0) (c := R ++ B0) (List.append_assoc _ _ _))
theorem mid_B {α : Type} (A1 R B1 : List α) : (List.range' R.length A1.length ++ List.range' 0 R.length ++ List.range' (R ++ A1).length B1.length).map (fun i => (R ++ (A1 ++ B1))[i]?) = (A1 ++ R ++ B1).map some := by
  rw [List.map_append, List.map_append, List.map_append, List.map_append, rg_at (w := R ++ (A1 ++ B1)) (a := R ++ A1) (b := B1) (c := []) (by rw [List.append_nil, List.append_assoc]), rg_at (w := R ++ (A1 ++ B1)) (a := R) (b := A1) (c := B1) (List.append_assoc _ _ _).symm]
  exact congrArg (fun z => _ ++ z ++ _) (rg_at (w := R ++ (A1 ++ B1)) (a := []) (b := R) (c := A1 ++ B1) rfl)
theorem mid_n {α : Type} (A0 R B0 A1 B1 : List α) : (va_nd (List.range' 0 A0.length ++ List.range' (A0 ++ R).length B0.length) && va_nd (List.range' A0.length R.length) && va_nd (List.range' R.length A1.length ++ List.range' 0 R.length ++ List.range' (R ++ A1).length B1.length) && (List.range' A0.length R.length).all (fun i => !(List.range' 0 A0.length ++ List.range' (A0 ++ R).length B0.length).contains i)) = true := by
  have h1 := List.length_append (as := A0) (bs := R)
  have h2 := List.length_append (as := R) (bs := A1)
  rw [nd_range', nd_app _ _ (nd_range' _ _) (nd_range' _ _) (fun i hi hj => by rw [List.mem_range'_1] at hi hj; omega), nd_app _ _ (nd_app _ _ (nd_range' _ _) (nd_range' _ _) (fun i hi hj => by rw [List.mem_range'_1] at hi hj; omega)) (nd_range' _ _) (fun i hi hj => by rw [List.mem_append, List.mem_range'_1, List.mem_range'_1] at hi; rw [List.mem_range'_1] at hj; omega)]
  rw [Bool.true_and, Bool.true_and, Bool.true_and, List.all_eq_true]
  intro i hi
  rw [List.mem_range'_1] at hi
  rw [Bool.not_eq_true', Bool.eq_false_iff]
  intro z
  rw [List.contains_iff_mem, List.mem_append, List.mem_range'_1, List.mem_range'_1] at z
  omega
theorem FC.mid {Θ : Tht} {K : (Nat → Nat) × (Nat → Nat)} {mc ms : Nat} {y : MethodName} {wsY : List Cond} {rm : Room} {as : List Value} {A0 B0 A1 B1 : va_W} {o : Option Value} (R : va_W) (h : FC Θ K mc ms y wsY rm as (A0 ++ B0) o (A1 ++ B1)) : FC Θ K mc ms y wsY rm as (A0 ++ R ++ B0) o (A1 ++ R ++ B1) :=
  FC.sub (wr := R) _ _ _ (mid_C A0 R B0) (rg_at rfl) (mid_B A1 R B1) (mid_n A0 R B0 A1 B1) h
theorem FX.mid {Θ : Tht} {K : (Nat → Nat) × (Nat → Nat)} {y : MethodName} {wsY : List Cond} {rm : Room} {as : List Value} {A0 B0 A1 B1 : va_W} {E : String} (R : va_W) (h : FX Θ K y wsY rm as (A0 ++ B0) E (A1 ++ B1)) : FX Θ K y wsY rm as (A0 ++ R ++ B0) E (A1 ++ R ++ B1) :=
  FX.sub (wr := R) _ _ _ (mid_C A0 R B0) (rg_at rfl) (mid_B A1 R B1) (mid_n A0 R B0 A1 B1) h
theorem FC.p_x {Θ : Tht} {K : (Nat → Nat) × (Nat → Nat)} {mc ms : Nat} {y : MethodName} {wsY : List Cond} {rm : Room} {as : List Value} {o : Option Value} (X0 N0 D0 P0 T0 L0 C0 S0 X1 : va_W) (h : FC Θ K mc ms y wsY rm as (X0) o (X1)) : FC Θ K mc ms y wsY rm as (X0 ++ N0 ++ D0 ++ P0 ++ T0 ++ L0 ++ C0 ++ S0) o (X1 ++ N0 ++ D0 ++ P0 ++ T0 ++ L0 ++ C0 ++ S0) := by
  have h := FC.tail N0 h
  have h := FC.tail D0 h
  have h := FC.tail P0 h
  have h := FC.tail T0 h
  have h := FC.tail L0 h
  have h := FC.tail C0 h
  have h := FC.tail S0 h
  exact h
theorem FX.p_x {Θ : Tht} {K : (Nat → Nat) × (Nat → Nat)} {y : MethodName} {wsY : List Cond} {rm : Room} {as : List Value} {o : String} (X0 N0 D0 P0 T0 L0 C0 S0 X1 : va_W) (h : FX Θ K y wsY rm as (X0) o (X1)) : FX Θ K y wsY rm as (X0 ++ N0 ++ D0 ++ P0 ++ T0 ++ L0 ++ C0 ++ S0) o (X1 ++ N0 ++ D0 ++ P0 ++ T0 ++ L0 ++ C0 ++ S0) := by
  have h := FX.tail N0 h
  have h := FX.tail D0 h
  have h := FX.tail P0 h
  have h := FX.tail T0 h
  have h := FX.tail L0 h
  have h := FX.tail C0 h
  have h := FX.tail S0 h
  exact h
theorem FC.p_xnd {Θ : Tht} {K : (Nat → Nat) × (Nat → Nat)} {mc ms : Nat} {y : MethodName} {wsY : List Cond} {rm : Room} {as : List Value} {o : Option Value} (X0 N0 D0 P0 T0 L0 C0 S0 X1 N1 D1 : va_W) (h : FC Θ K mc ms y wsY rm as (X0 ++ N0 ++ D0) o (X1 ++ N1 ++ D1)) : FC Θ K mc ms y wsY rm as (X0 ++ N0 ++ D0 ++ P0 ++ T0 ++ L0 ++ C0 ++ S0) o (X1 ++ N1 ++ D1 ++ P0 ++ T0 ++ L0 ++ C0 ++ S0) := by
  have h := FC.tail P0 h
  have h := FC.tail T0 h
  have h := FC.tail L0 h
  have h := FC.tail C0 h
  have h := FC.tail S0 h
  exact h
theorem FX.p_xnd {Θ : Tht} {K : (Nat → Nat) × (Nat → Nat)} {y : MethodName} {wsY : List Cond} {rm : Room} {as : List Value} {o : String} (X0 N0 D0 P0 T0 L0 C0 S0 X1 N1 D1 : va_W) (h : FX Θ K y wsY rm as (X0 ++ N0 ++ D0) o (X1 ++ N1 ++ D1)) : FX Θ K y wsY rm as (X0 ++ N0 ++ D0 ++ P0 ++ T0 ++ L0 ++ C0 ++ S0) o (X1 ++ N1 ++ D1 ++ P0 ++ T0 ++ L0 ++ C0 ++ S0) := by
  have h := FX.tail P0 h
  have h := FX.tail T0 h
  have h := FX.tail L0 h
  have h := FX.tail C0 h
  have h := FX.tail S0 h
  exact h
theorem FC.p_xndl {Θ : Tht} {K : (Nat → Nat) × (Nat → Nat)} {mc ms : Nat} {y : MethodName} {wsY : List Cond} {rm : Room} {as : List Value} {o : Option Value} (X0 N0 D0 P0 T0 L0 C0 S0 X1 N1 D1 L1 : va_W) (h : FC Θ K mc ms y wsY rm as (X0 ++ N0 ++ D0 ++ L0) o (X1 ++ N1 ++ D1 ++ L1)) : FC Θ K mc ms y wsY rm as (X0 ++ N0 ++ D0 ++ P0 ++ T0 ++ L0 ++ C0 ++ S0) o (X1 ++ N1 ++ D1 ++ P0 ++ T0 ++ L1 ++ C0 ++ S0) := by
  have h : FC Θ K mc ms y wsY rm as (X0 ++ N0 ++ D0 ++ P0 ++ L0) o (X1 ++ N1 ++ D1 ++ P0 ++ L1) := by
    have h2 := FC.mid (A0 := X0 ++ N0 ++ D0) (A1 := X1 ++ N1 ++ D1) (B0 := L0) (B1 := L1) P0 (by simpa only [List.append_assoc] using h)
    simpa only [List.append_assoc] using h2
  have h : FC Θ K mc ms y wsY rm as (X0 ++ N0 ++ D0 ++ P0 ++ T0 ++ L0) o (X1 ++ N1 ++ D1 ++ P0 ++ T0 ++ L1) := by
    have h2 := FC.mid (A0 := X0 ++ N0 ++ D0 ++ P0) (A1 := X1 ++ N1 ++ D1 ++ P0) (B0 := L0) (B1 := L1) T0 (by simpa only [List.append_assoc] using h)
    simpa only [List.append_assoc] using h2
  have h := FC.tail C0 h
  have h := FC.tail S0 h
  exact h
theorem FX.p_xndl {Θ : Tht} {K : (Nat → Nat) × (Nat → Nat)} {y : MethodName} {wsY : List Cond} {rm : Room} {as : List Value} {o : String} (X0 N0 D0 P0 T0 L0 C0 S0 X1 N1 D1 L1 : va_W) (h : FX Θ K y wsY rm as (X0 ++ N0 ++ D0 ++ L0) o (X1 ++ N1 ++ D1 ++ L1)) : FX Θ K y wsY rm as (X0 ++ N0 ++ D0 ++ P0 ++ T0 ++ L0 ++ C0 ++ S0) o (X1 ++ N1 ++ D1 ++ P0 ++ T0 ++ L1 ++ C0 ++ S0) := by
  have h : FX Θ K y wsY rm as (X0 ++ N0 ++ D0 ++ P0 ++ L0) o (X1 ++ N1 ++ D1 ++ P0 ++ L1) := by
    have h2 := FX.mid (A0 := X0 ++ N0 ++ D0) (A1 := X1 ++ N1 ++ D1) (B0 := L0) (B1 := L1) P0 (by simpa only [List.append_assoc] using h)
    simpa only [List.append_assoc] using h2
  have h : FX Θ K y wsY rm as (X0 ++ N0 ++ D0 ++ P0 ++ T0 ++ L0) o (X1 ++ N1 ++ D1 ++ P0 ++ T0 ++ L1) := by
    have h2 := FX.mid (A0 := X0 ++ N0 ++ D0 ++ P0) (A1 := X1 ++ N1 ++ D1 ++ P0) (B0 := L0) (B1 := L1) T0 (by simpa only [List.append_assoc] using h)
    simpa only [List.append_assoc] using h2
  have h := FX.tail C0 h
  have h := FX.tail S0 h
  exact h
theorem FC.p_xndp {Θ : Tht} {K : (Nat → Nat) × (Nat → Nat)} {mc ms : Nat} {y : MethodName} {wsY : List Cond} {rm : Room} {as : List Value} {o : Option Value} (X0 N0 D0 P0 T0 L0 C0 S0 X1 N1 D1 P1 : va_W) (h : FC Θ K mc ms y wsY rm as (X0 ++ N0 ++ D0 ++ P0) o (X1 ++ N1 ++ D1 ++ P1)) : FC Θ K mc ms y wsY rm as (X0 ++ N0 ++ D0 ++ P0 ++ T0 ++ L0 ++ C0 ++ S0) o (X1 ++ N1 ++ D1 ++ P1 ++ T0 ++ L0 ++ C0 ++ S0) := by
  have h := FC.tail T0 h
  have h := FC.tail L0 h
  have h := FC.tail C0 h
  have h := FC.tail S0 h
  exact h
theorem FX.p_xndp {Θ : Tht} {K : (Nat → Nat) × (Nat → Nat)} {y : MethodName} {wsY : List Cond} {rm : Room} {as : List Value} {o : String} (X0 N0 D0 P0 T0 L0 C0 S0 X1 N1 D1 P1 : va_W) (h : FX Θ K y wsY rm as (X0 ++ N0 ++ D0 ++ P0) o (X1 ++ N1 ++ D1 ++ P1)) : FX Θ K y wsY rm as (X0 ++ N0 ++ D0 ++ P0 ++ T0 ++ L0 ++ C0 ++ S0) o (X1 ++ N1 ++ D1 ++ P1 ++ T0 ++ L0 ++ C0 ++ S0) := by
  have h := FX.tail T0 h
  have h := FX.tail L0 h
  have h := FX.tail C0 h
  have h := FX.tail S0 h
  exact h
theorem FC.p_xndpc {Θ : Tht} {K : (Nat → Nat) × (Nat → Nat)} {mc ms : Nat} {y : MethodName} {wsY : List Cond} {rm : Room} {as : List Value} {o : Option Value} (X0 N0 D0 P0 T0 L0 C0 S0 X1 N1 D1 P1 C1 : va_W) (h : FC Θ K mc ms y wsY rm as (X0 ++ N0 ++ D0 ++ P0 ++ C0) o (X1 ++ N1 ++ D1 ++ P1 ++ C1)) : FC Θ K mc ms y wsY rm as (X0 ++ N0 ++ D0 ++ P0 ++ T0 ++ L0 ++ C0 ++ S0) o (X1 ++ N1 ++ D1 ++ P1 ++ T0 ++ L0 ++ C1 ++ S0) := by
  have h : FC Θ K mc ms y wsY rm as (X0 ++ N0 ++ D0 ++ P0 ++ T0 ++ C0) o (X1 ++ N1 ++ D1 ++ P1 ++ T0 ++ C1) := by
    have h2 := FC.mid (A0 := X0 ++ N0 ++ D0 ++ P0) (A1 := X1 ++ N1 ++ D1 ++ P1) (B0 := C0) (B1 := C1) T0 (by simpa only [List.append_assoc] using h)
    simpa only [List.append_assoc] using h2
  have h : FC Θ K mc ms y wsY rm as (X0 ++ N0 ++ D0 ++ P0 ++ T0 ++ L0 ++ C0) o (X1 ++ N1 ++ D1 ++ P1 ++ T0 ++ L0 ++ C1) := by
    have h2 := FC.mid (A0 := X0 ++ N0 ++ D0 ++ P0 ++ T0) (A1 := X1 ++ N1 ++ D1 ++ P1 ++ T0) (B0 := C0) (B1 := C1) L0 (by simpa only [List.append_assoc] using h)
    simpa only [List.append_assoc] using h2
  have h := FC.tail S0 h
  exact h
theorem FX.p_xndpc {Θ : Tht} {K : (Nat → Nat) × (Nat → Nat)} {y : MethodName} {wsY : List Cond} {rm : Room} {as : List Value} {o : String} (X0 N0 D0 P0 T0 L0 C0 S0 X1 N1 D1 P1 C1 : va_W) (h : FX Θ K y wsY rm as (X0 ++ N0 ++ D0 ++ P0 ++ C0) o (X1 ++ N1 ++ D1 ++ P1 ++ C1)) : FX Θ K y wsY rm as (X0 ++ N0 ++ D0 ++ P0 ++ T0 ++ L0 ++ C0 ++ S0) o (X1 ++ N1 ++ D1 ++ P1 ++ T0 ++ L0 ++ C1 ++ S0) := by
  have h : FX Θ K y wsY rm as (X0 ++ N0 ++ D0 ++ P0 ++ T0 ++ C0) o (X1 ++ N1 ++ D1 ++ P1 ++ T0 ++ C1) := by
    have h2 := FX.mid (A0 := X0 ++ N0 ++ D0 ++ P0) (A1 := X1 ++ N1 ++ D1 ++ P1) (B0 := C0) (B1 := C1) T0 (by simpa only [List.append_assoc] using h)
    simpa only [List.append_assoc] using h2
  have h : FX Θ K y wsY rm as (X0 ++ N0 ++ D0 ++ P0 ++ T0 ++ L0 ++ C0) o (X1 ++ N1 ++ D1 ++ P1 ++ T0 ++ L0 ++ C1) := by
    have h2 := FX.mid (A0 := X0 ++ N0 ++ D0 ++ P0 ++ T0) (A1 := X1 ++ N1 ++ D1 ++ P1 ++ T0) (B0 := C0) (B1 := C1) L0 (by simpa only [List.append_assoc] using h)
    simpa only [List.append_assoc] using h2
  have h := FX.tail S0 h
  exact h
theorem FC.p_xndpls {Θ : Tht} {K : (Nat → Nat) × (Nat → Nat)} {mc ms : Nat} {y : MethodName} {wsY : List Cond} {rm : Room} {as : List Value} {o : Option Value} (X0 N0 D0 P0 T0 L0 C0 S0 X1 N1 D1 P1 L1 S1 : va_W) (h : FC Θ K mc ms y wsY rm as (X0 ++ N0 ++ D0 ++ P0 ++ L0 ++ S0) o (X1 ++ N1 ++ D1 ++ P1 ++ L1 ++ S1)) : FC Θ K mc ms y wsY rm as (X0 ++ N0 ++ D0 ++ P0 ++ T0 ++ L0 ++ C0 ++ S0) o (X1 ++ N1 ++ D1 ++ P1 ++ T0 ++ L1 ++ C0 ++ S1) := by
  have h : FC Θ K mc ms y wsY rm as (X0 ++ N0 ++ D0 ++ P0 ++ T0 ++ L0 ++ S0) o (X1 ++ N1 ++ D1 ++ P1 ++ T0 ++ L1 ++ S1) := by
    have h2 := FC.mid (A0 := X0 ++ N0 ++ D0 ++ P0) (A1 := X1 ++ N1 ++ D1 ++ P1) (B0 := L0 ++ S0) (B1 := L1 ++ S1) T0 (by simpa only [List.append_assoc] using h)
    simpa only [List.append_assoc] using h2
  have h : FC Θ K mc ms y wsY rm as (X0 ++ N0 ++ D0 ++ P0 ++ T0 ++ L0 ++ C0 ++ S0) o (X1 ++ N1 ++ D1 ++ P1 ++ T0 ++ L1 ++ C0 ++ S1) := by
    have h2 := FC.mid (A0 := X0 ++ N0 ++ D0 ++ P0 ++ T0 ++ L0) (A1 := X1 ++ N1 ++ D1 ++ P1 ++ T0 ++ L1) (B0 := S0) (B1 := S1) C0 (by simpa only [List.append_assoc] using h)
    simpa only [List.append_assoc] using h2
  exact h
theorem FX.p_xndpls {Θ : Tht} {K : (Nat → Nat) × (Nat → Nat)} {y : MethodName} {wsY : List Cond} {rm : Room} {as : List Value} {o : String} (X0 N0 D0 P0 T0 L0 C0 S0 X1 N1 D1 P1 L1 S1 : va_W) (h : FX Θ K y wsY rm as (X0 ++ N0 ++ D0 ++ P0 ++ L0 ++ S0) o (X1 ++ N1 ++ D1 ++ P1 ++ L1 ++ S1)) : FX Θ K y wsY rm as (X0 ++ N0 ++ D0 ++ P0 ++ T0 ++ L0 ++ C0 ++ S0) o (X1 ++ N1 ++ D1 ++ P1 ++ T0 ++ L1 ++ C0 ++ S1) := by
  have h : FX Θ K y wsY rm as (X0 ++ N0 ++ D0 ++ P0 ++ T0 ++ L0 ++ S0) o (X1 ++ N1 ++ D1 ++ P1 ++ T0 ++ L1 ++ S1) := by
    have h2 := FX.mid (A0 := X0 ++ N0 ++ D0 ++ P0) (A1 := X1 ++ N1 ++ D1 ++ P1) (B0 := L0 ++ S0) (B1 := L1 ++ S1) T0 (by simpa only [List.append_assoc] using h)
    simpa only [List.append_assoc] using h2
  have h : FX Θ K y wsY rm as (X0 ++ N0 ++ D0 ++ P0 ++ T0 ++ L0 ++ C0 ++ S0) o (X1 ++ N1 ++ D1 ++ P1 ++ T0 ++ L1 ++ C0 ++ S1) := by
    have h2 := FX.mid (A0 := X0 ++ N0 ++ D0 ++ P0 ++ T0 ++ L0) (A1 := X1 ++ N1 ++ D1 ++ P1 ++ T0 ++ L1) (B0 := S0) (B1 := S1) C0 (by simpa only [List.append_assoc] using h)
    simpa only [List.append_assoc] using h2
  exact h
theorem FC.p_xndps {Θ : Tht} {K : (Nat → Nat) × (Nat → Nat)} {mc ms : Nat} {y : MethodName} {wsY : List Cond} {rm : Room} {as : List Value} {o : Option Value} (X0 N0 D0 P0 T0 L0 C0 S0 X1 N1 D1 P1 S1 : va_W) (h : FC Θ K mc ms y wsY rm as (X0 ++ N0 ++ D0 ++ P0 ++ S0) o (X1 ++ N1 ++ D1 ++ P1 ++ S1)) : FC Θ K mc ms y wsY rm as (X0 ++ N0 ++ D0 ++ P0 ++ T0 ++ L0 ++ C0 ++ S0) o (X1 ++ N1 ++ D1 ++ P1 ++ T0 ++ L0 ++ C0 ++ S1) := by
  have h : FC Θ K mc ms y wsY rm as (X0 ++ N0 ++ D0 ++ P0 ++ T0 ++ S0) o (X1 ++ N1 ++ D1 ++ P1 ++ T0 ++ S1) := by
    have h2 := FC.mid (A0 := X0 ++ N0 ++ D0 ++ P0) (A1 := X1 ++ N1 ++ D1 ++ P1) (B0 := S0) (B1 := S1) T0 (by simpa only [List.append_assoc] using h)
    simpa only [List.append_assoc] using h2
  have h : FC Θ K mc ms y wsY rm as (X0 ++ N0 ++ D0 ++ P0 ++ T0 ++ L0 ++ S0) o (X1 ++ N1 ++ D1 ++ P1 ++ T0 ++ L0 ++ S1) := by
    have h2 := FC.mid (A0 := X0 ++ N0 ++ D0 ++ P0 ++ T0) (A1 := X1 ++ N1 ++ D1 ++ P1 ++ T0) (B0 := S0) (B1 := S1) L0 (by simpa only [List.append_assoc] using h)
    simpa only [List.append_assoc] using h2
  have h : FC Θ K mc ms y wsY rm as (X0 ++ N0 ++ D0 ++ P0 ++ T0 ++ L0 ++ C0 ++ S0) o (X1 ++ N1 ++ D1 ++ P1 ++ T0 ++ L0 ++ C0 ++ S1) := by
    have h2 := FC.mid (A0 := X0 ++ N0 ++ D0 ++ P0 ++ T0 ++ L0) (A1 := X1 ++ N1 ++ D1 ++ P1 ++ T0 ++ L0) (B0 := S0) (B1 := S1) C0 (by simpa only [List.append_assoc] using h)
    simpa only [List.append_assoc] using h2
  exact h
theorem FX.p_xndps {Θ : Tht} {K : (Nat → Nat) × (Nat → Nat)} {y : MethodName} {wsY : List Cond} {rm : Room} {as : List Value} {o : String} (X0 N0 D0 P0 T0 L0 C0 S0 X1 N1 D1 P1 S1 : va_W) (h : FX Θ K y wsY rm as (X0 ++ N0 ++ D0 ++ P0 ++ S0) o (X1 ++ N1 ++ D1 ++ P1 ++ S1)) : FX Θ K y wsY rm as (X0 ++ N0 ++ D0 ++ P0 ++ T0 ++ L0 ++ C0 ++ S0) o (X1 ++ N1 ++ D1 ++ P1 ++ T0 ++ L0 ++ C0 ++ S1) := by
  have h : FX Θ K y wsY rm as (X0 ++ N0 ++ D0 ++ P0 ++ T0 ++ S0) o (X1 ++ N1 ++ D1 ++ P1 ++ T0 ++ S1) := by
    have h2 := FX.mid (A0 := X0 ++ N0 ++ D0 ++ P0) (A1 := X1 ++ N1 ++ D1 ++ P1) (B0 := S0) (B1 := S1) T0 (by simpa only [List.append_assoc] using h)
    simpa only [List.append_assoc] using h2
  have h : FX Θ K y wsY rm as (X0 ++ N0 ++ D0 ++ P0 ++ T0 ++ L0 ++ S0) o (X1 ++ N1 ++ D1 ++ P1 ++ T0 ++ L0 ++ S1) := by
    have h2 := FX.mid (A0 := X0 ++ N0 ++ D0 ++ P0 ++ T0) (A1 := X1 ++ N1 ++ D1 ++ P1 ++ T0) (B0 := S0) (B1 := S1) L0 (by simpa only [List.append_assoc] using h)
    simpa only [List.append_assoc] using h2
  have h : FX Θ K y wsY rm as (X0 ++ N0 ++ D0 ++ P0 ++ T0 ++ L0 ++ C0 ++ S0) o (X1 ++ N1 ++ D1 ++ P1 ++ T0 ++ L0 ++ C0 ++ S1) := by
    have h2 := FX.mid (A0 := X0 ++ N0 ++ D0 ++ P0 ++ T0 ++ L0) (A1 := X1 ++ N1 ++ D1 ++ P1 ++ T0 ++ L0) (B0 := S0) (B1 := S1) C0 (by simpa only [List.append_assoc] using h)
    simpa only [List.append_assoc] using h2
  exact h
theorem FC.p_xndpt {Θ : Tht} {K : (Nat → Nat) × (Nat → Nat)} {mc ms : Nat} {y : MethodName} {wsY : List Cond} {rm : Room} {as : List Value} {o : Option Value} (X0 N0 D0 P0 T0 L0 C0 S0 X1 N1 D1 P1 T1 : va_W) (h : FC Θ K mc ms y wsY rm as (X0 ++ N0 ++ D0 ++ P0 ++ T0) o (X1 ++ N1 ++ D1 ++ P1 ++ T1)) : FC Θ K mc ms y wsY rm as (X0 ++ N0 ++ D0 ++ P0 ++ T0 ++ L0 ++ C0 ++ S0) o (X1 ++ N1 ++ D1 ++ P1 ++ T1 ++ L0 ++ C0 ++ S0) := by
  have h := FC.tail L0 h
  have h := FC.tail C0 h
  have h := FC.tail S0 h
  exact h
theorem FX.p_xndpt {Θ : Tht} {K : (Nat → Nat) × (Nat → Nat)} {y : MethodName} {wsY : List Cond} {rm : Room} {as : List Value} {o : String} (X0 N0 D0 P0 T0 L0 C0 S0 X1 N1 D1 P1 T1 : va_W) (h : FX Θ K y wsY rm as (X0 ++ N0 ++ D0 ++ P0 ++ T0) o (X1 ++ N1 ++ D1 ++ P1 ++ T1)) : FX Θ K y wsY rm as (X0 ++ N0 ++ D0 ++ P0 ++ T0 ++ L0 ++ C0 ++ S0) o (X1 ++ N1 ++ D1 ++ P1 ++ T1 ++ L0 ++ C0 ++ S0) := by
  have h := FX.tail L0 h
  have h := FX.tail C0 h
  have h := FX.tail S0 h
  exact h
theorem FC.p_xnp {Θ : Tht} {K : (Nat → Nat) × (Nat → Nat)} {mc ms : Nat} {y : MethodName} {wsY : List Cond} {rm : Room} {as : List Value} {o : Option Value} (X0 N0 D0 P0 T0 L0 C0 S0 X1 N1 P1 : va_W) (h : FC Θ K mc ms y wsY rm as (X0 ++ N0 ++ P0) o (X1 ++ N1 ++ P1)) : FC Θ K mc ms y wsY rm as (X0 ++ N0 ++ D0 ++ P0 ++ T0 ++ L0 ++ C0 ++ S0) o (X1 ++ N1 ++ D0 ++ P1 ++ T0 ++ L0 ++ C0 ++ S0) := by
  have h : FC Θ K mc ms y wsY rm as (X0 ++ N0 ++ D0 ++ P0) o (X1 ++ N1 ++ D0 ++ P1) := by
    have h2 := FC.mid (A0 := X0 ++ N0) (A1 := X1 ++ N1) (B0 := P0) (B1 := P1) D0 (by simpa only [List.append_assoc] using h)
    simpa only [List.append_assoc] using h2
  have h := FC.tail T0 h
  have h := FC.tail L0 h
  have h := FC.tail C0 h
  have h := FC.tail S0 h
  exact h
theorem FX.p_xnp {Θ : Tht} {K : (Nat → Nat) × (Nat → Nat)} {y : MethodName} {wsY : List Cond} {rm : Room} {as : List Value} {o : String} (X0 N0 D0 P0 T0 L0 C0 S0 X1 N1 P1 : va_W) (h : FX Θ K y wsY rm as (X0 ++ N0 ++ P0) o (X1 ++ N1 ++ P1)) : FX Θ K y wsY rm as (X0 ++ N0 ++ D0 ++ P0 ++ T0 ++ L0 ++ C0 ++ S0) o (X1 ++ N1 ++ D0 ++ P1 ++ T0 ++ L0 ++ C0 ++ S0) := by
  have h : FX Θ K y wsY rm as (X0 ++ N0 ++ D0 ++ P0) o (X1 ++ N1 ++ D0 ++ P1) := by
    have h2 := FX.mid (A0 := X0 ++ N0) (A1 := X1 ++ N1) (B0 := P0) (B1 := P1) D0 (by simpa only [List.append_assoc] using h)
    simpa only [List.append_assoc] using h2
  have h := FX.tail T0 h
  have h := FX.tail L0 h
  have h := FX.tail C0 h
  have h := FX.tail S0 h
  exact h
