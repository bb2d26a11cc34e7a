theorem lk_4a79a622 : Cond.selects RX5 yX5_savedState yX5_savedState ∈ GW := GW_of 2 (by decide +kernel) (by decide +kernel)
theorem lk_5f14f758 : Cond.initialized RX5 ∈ GW := GW_of 18 (by decide +kernel) (by decide +kernel)
theorem lk_2b384744 : Cond.initialized RX4 ∈ GW := GW_of 19 (by decide +kernel) (by decide +kernel)
theorem lk_06157066 : Cond.fieldLink RX5 16 "StripDie" "saved" "[LStripDie$State;" ∈ GW := GW_of 193 (by decide +kernel) (by decide +kernel)
theorem lk_27565f3f : Cond.methodLink RX5 300 yX5_savedState ∈ GW := GW_of 292 (by decide +kernel) (by decide +kernel)
theorem lk_509a9220 : Cond.instanceMethod yX5_savedState ∈ GW := GW_of 294 (by decide +kernel) (by decide +kernel)
theorem lk_5ab82a3e : Cond.code yX5_savedState cX5_savedState 3 (some (.object "StripDie$State")) ∈ GW := GW_of 295 (by decide +kernel) (by decide +kernel)
theorem lk_03d51b00 : Cond.methodLink RX5 304 yX4_copyFrom ∈ GW := GW_of 296 (by decide +kernel) (by decide +kernel)
theorem lk_51161368 : Cond.instanceMethod yX4_copyFrom ∈ GW := GW_of 297 (by decide +kernel) (by decide +kernel)
theorem lk_3e6912f7 : Cond.selects RX4 yX4_copyFrom yX4_copyFrom ∈ GW := GW_of 298 (by decide +kernel) (by decide +kernel)
theorem lk_9203add7 : Cond.code yX4_copyFrom cX4_copyFrom 2 none ∈ GW := GW_of 299 (by decide +kernel) (by decide +kernel)
section SW3
variable {Θ : Tht} {p : Program} {e : Env} {R : Room} {s : State} {m : MethodId} {args : Array Value} {below : List Frame} {meth : Method} {c : Code} {A : Nat → Prop} {Q : State → Prop} {nL k n : Nat} {cc : ByteArray} {own : String} {Ts : List Cond} {ρ : Type} {z : ρ}
theorem sw_aald (pc : Nat) (G : okG Θ p s m args c A nL cc own Ts) (q0 : Nat) {a : Nat} {N : Nat} {f : Nat → Option Nat} {i : Int32} {lv : List (Nat × Value)} {st : List Value} {ws : va_W} (hd : decode cc pc = .ok (.aaload, 1)) (ha : ws[q0]? = some (a, .inl (Θ.2.2 3, N, .inr (.inr (.inr (.inr f)))))) {X : Option ρ} (hf : gd i N X = some z) (kk : X = some z → sw Θ p e R s m args below meth c A Q nL k n (pc + 1) lv (va_rf (f i.toNatClampNeg) :: st) ws) : sw Θ p e R s m args below meth c A Q nL k n pc lv (.int i :: .ref a :: st) ws := by
  intro H locs ls hP hD hS hl
  exact va_aldq G.1 G.2.1 G.2.2.2.2.2.1 hP q0 3 ha rfl (gd_some hf).1 hd (kk (gd_some hf).2 H locs ls hP hD hS hl)
theorem sw_aret (pc : Nat) (G : okG Θ p s m args c A nL cc own Ts) {w0 w1 : va_W} {a : Nat} {C : String} {lv : List (Nat × Value)} (hd : decode cc pc = .ok (.areturn, 1)) (K : okR Θ R s args below meth A Q w0 w1 (some (.ref a)) (some (.object C))) : sw Θ p e R s m args below meth c A Q nL 0 0 pc lv [.ref a] w1 := by
  intro H locs ls hP hD hS hl
  obtain ⟨rfl, rfl, hr, hlk⟩ := K
  exact W.aret G.1 G.2.1 hr (Or.inl ⟨_, rfl⟩) (Or.inr ⟨_, rfl⟩) (fun t ht hW => ⟨rfl, by rw [ht]; exact hP, hD, hS.F ht⟩) hS.2.2 hd hlk
theorem sw_ifnullR (pc : Nat) (G : okG Θ p s m args c A nL cc own Ts) {off : Int} {x : Nat} {lv : List (Nat × Value)} {st : List Value} {ws : va_W} (hd : decode cc pc = .ok (.ifnull off, 3)) (kk : sw Θ p e R s m args below meth c A Q nL k n (pc + 3) lv st ws) : sw Θ p e R s m args below meth c A Q nL k n pc lv (.ref x :: st) ws := by
  intro H locs ls hP hD hS hl
  exact lv_ifnull G.1 G.2.1 hd (kk H locs ls hP hD hS hl)
end SW3
abbrev wSA (Θ : Tht) (v0 r0 r1 r2 r3 : Nat) : va_W := [(v0, .inl (Θ.2.2 3, 4, .inr (.inr (.inr (.inr (fun j => some (if j = 0 then r0 else if j = 1 then r1 else if j = 2 then r2 else r3)))))))]
def fX5_savedState (o a : Int32) : Option Int32 :=
  gz (4 : Int32) (nm ((o + a) - (o + a) / (4 : Int32) * (4 : Int32)) fun v1 => if v1 < 0 then none else if (4 : Int32) ≤ v1 then none else gd v1 4 (some v1))
def selK {ρ : Type} (K : Nat) (r : Option Int32) (X : Option ρ) : Option ρ := if r = some (nI K) then X else none
theorem selK_some {ρ : Type} {K : Nat} {r : Option Int32} {X : Option ρ} {z : ρ} (h : selK K r X = some z) : r = some (nI K) ∧ X = some z := by
  unfold selK at h
  split at h
  · next q => exact ⟨q, h⟩
  · cases h
abbrev rmX5_savedState : Room := { frames := 0, cells := 0, slots := 0, locals := 0 }
theorem hvX5_savedState : yX5_savedState.cls = RX5 ∧ yX5_savedState.cls ≠ "java/lang/invoke/MethodHandle" ∧ yX5_savedState.cls ≠ "java/lang/invoke/VarHandle" ∧ (parseMethodDescriptor yX5_savedState.desc).map (fun d => d.parameters.length) = some 1 := by decide +kernel
set_option maxRecDepth 100000 in
set_option maxHeartbeats 4000000 in
theorem kX5_savedState (Θ : Tht) (x0 n0 v0 t0 l0 c0 : Nat) (x_old x_st : Int32) (r0 r1 r2 r3 : Nat) (a0 ro : Int32) (hf : fX5_savedState x_old a0 = some ro) : Fn Θ yX5_savedState (Cond.code yX5_savedState cX5_savedState 3 (some (.object "StripDie$State")) :: GW) rmX5_savedState [.ref x0, .int a0] ([(x0, .inr (5, [.ref n0, .ref v0, .int x_old, .int x_st, .ref t0, .ref l0, .ref c0]))] ++ wSA Θ v0 r0 r1 r2 r3) (some (.ref (if ro.toNatClampNeg = 0 then r0 else if ro.toNatClampNeg = 1 then r1 else if ro.toNatClampNeg = 2 then r2 else r3))) ([(x0, .inr (5, [.ref n0, .ref v0, .int x_old, .int x_st, .ref t0, .ref l0, .ref c0]))] ++ wSA Θ v0 r0 r1 r2 r3) := by
  delta fX5_savedState at hf
  refine Fn.of (by decide +kernel) rfl (Nat.le_of_ble_eq_true rfl) (fun p e s m args below meth c A Q G K => ?_)
  show sw Θ p e rmX5_savedState s m args below meth c A Q 3 0 0 0 [(0, .ref x0), (1, .int a0)] [] ([(x0, .inr (5, [.ref n0, .ref v0, .int x_old, .int x_st, .ref t0, .ref l0, .ref c0]))] ++ wSA Θ v0 r0 r1 r2 r3)
  refine sw_aload_n 0 G dX5_savedState_0 0 rfl ?_
  refine sw_get 1 G hnX5 0 2 dX5_savedState_1 vc5 (by decide) (List.mem_cons_of_mem _ lk_b504acfc) rfl rfl ?_
  refine sw_iload_n 4 G dX5_savedState_4 1 rfl ?_
  refine sw_iadd 5 G dX5_savedState_5 ?_
  refine sw_iconst 6 G (4 : Int32) dX5_savedState_6 rfl ?_
  refine sw_irem 7 G dX5_savedState_7 hf (fun hf => ?_)
  refine sw_nmi hf (fun v1 hf => ?_)
  refine sw_istore_n 8 G [(2, .int v1), (0, .ref x0), (1, .int a0)] dX5_savedState_8 (by decide) rfl ?_
  refine sw_iload_n 9 G dX5_savedState_9 0 rfl ?_
  refine sw_if_lt 10 31 G dX5_savedState_10 rfl hf (fun hf => by cases hf) (fun hf => ?_)
  refine sw_iload_n 13 G dX5_savedState_13 0 rfl ?_
  refine sw_aload_n 14 G dX5_savedState_14 1 rfl ?_
  refine sw_get 15 G hnX5 0 1 dX5_savedState_15 vc5 (by decide) (List.mem_cons_of_mem _ lk_06157066) rfl rfl ?_
  refine sw_alen 18 G 1 3 (4 : Int32) dX5_savedState_18 rfl rfl rfl ?_
  refine sw_icmp_ge 19 31 G dX5_savedState_19 rfl hf (fun hf => by cases hf) (fun hf => ?_)
  refine sw_aload_n 22 G dX5_savedState_22 1 rfl ?_
  refine sw_get 23 G hnX5 0 1 dX5_savedState_23 vc5 (by decide) (List.mem_cons_of_mem _ lk_06157066) rfl rfl ?_
  refine sw_iload_n 26 G dX5_savedState_26 0 rfl ?_
  refine sw_aald 27 G 1 dX5_savedState_27 rfl hf (fun hf => ?_)
  refine sw_goto 28 G 32 dX5_savedState_28 rfl ?_
  cases hf
  exact sw_aret 32 G dX5_savedState_32 K
theorem kX5_savedState_0 (Θ : Tht) (x0 n0 v0 t0 l0 c0 : Nat) (x_old x_st : Int32) (r0 r1 r2 r3 : Nat) (a0 : Int32) (hf : fX5_savedState x_old a0 = some (nI 0)) : Fn Θ yX5_savedState (Cond.code yX5_savedState cX5_savedState 3 (some (.object "StripDie$State")) :: GW) rmX5_savedState [.ref x0, .int a0] ([(x0, .inr (5, [.ref n0, .ref v0, .int x_old, .int x_st, .ref t0, .ref l0, .ref c0]))] ++ wSA Θ v0 r0 r1 r2 r3) (some (.ref r0)) ([(x0, .inr (5, [.ref n0, .ref v0, .int x_old, .int x_st, .ref t0, .ref l0, .ref c0]))] ++ wSA Θ v0 r0 r1 r2 r3) := by
  have h := kX5_savedState Θ x0 n0 v0 t0 l0 c0 x_old x_st r0 r1 r2 r3 a0 (nI 0) hf
  rw [show (nI 0).toNatClampNeg = 0 from nI_clamp (by omega)] at h
  exact h
theorem kX5_savedState_1 (Θ : Tht) (x0 n0 v0 t0 l0 c0 : Nat) (x_old x_st : Int32) (r0 r1 r2 r3 : Nat) (a0 : Int32) (hf : fX5_savedState x_old a0 = some (nI 1)) : Fn Θ yX5_savedState (Cond.code yX5_savedState cX5_savedState 3 (some (.object "StripDie$State")) :: GW) rmX5_savedState [.ref x0, .int a0] ([(x0, .inr (5, [.ref n0, .ref v0, .int x_old, .int x_st, .ref t0, .ref l0, .ref c0]))] ++ wSA Θ v0 r0 r1 r2 r3) (some (.ref r1)) ([(x0, .inr (5, [.ref n0, .ref v0, .int x_old, .int x_st, .ref t0, .ref l0, .ref c0]))] ++ wSA Θ v0 r0 r1 r2 r3) := by
  have h := kX5_savedState Θ x0 n0 v0 t0 l0 c0 x_old x_st r0 r1 r2 r3 a0 (nI 1) hf
  rw [show (nI 1).toNatClampNeg = 1 from nI_clamp (by omega)] at h
  exact h
theorem kX5_savedState_2 (Θ : Tht) (x0 n0 v0 t0 l0 c0 : Nat) (x_old x_st : Int32) (r0 r1 r2 r3 : Nat) (a0 : Int32) (hf : fX5_savedState x_old a0 = some (nI 2)) : Fn Θ yX5_savedState (Cond.code yX5_savedState cX5_savedState 3 (some (.object "StripDie$State")) :: GW) rmX5_savedState [.ref x0, .int a0] ([(x0, .inr (5, [.ref n0, .ref v0, .int x_old, .int x_st, .ref t0, .ref l0, .ref c0]))] ++ wSA Θ v0 r0 r1 r2 r3) (some (.ref r2)) ([(x0, .inr (5, [.ref n0, .ref v0, .int x_old, .int x_st, .ref t0, .ref l0, .ref c0]))] ++ wSA Θ v0 r0 r1 r2 r3) := by
  have h := kX5_savedState Θ x0 n0 v0 t0 l0 c0 x_old x_st r0 r1 r2 r3 a0 (nI 2) hf
  rw [show (nI 2).toNatClampNeg = 2 from nI_clamp (by omega)] at h
  exact h
theorem kX5_savedState_3 (Θ : Tht) (x0 n0 v0 t0 l0 c0 : Nat) (x_old x_st : Int32) (r0 r1 r2 r3 : Nat) (a0 : Int32) (hf : fX5_savedState x_old a0 = some (nI 3)) : Fn Θ yX5_savedState (Cond.code yX5_savedState cX5_savedState 3 (some (.object "StripDie$State")) :: GW) rmX5_savedState [.ref x0, .int a0] ([(x0, .inr (5, [.ref n0, .ref v0, .int x_old, .int x_st, .ref t0, .ref l0, .ref c0]))] ++ wSA Θ v0 r0 r1 r2 r3) (some (.ref r3)) ([(x0, .inr (5, [.ref n0, .ref v0, .int x_old, .int x_st, .ref t0, .ref l0, .ref c0]))] ++ wSA Θ v0 r0 r1 r2 r3) := by
  have h := kX5_savedState Θ x0 n0 v0 t0 l0 c0 x_old x_st r0 r1 r2 r3 a0 (nI 3) hf
  rw [show (nI 3).toNatClampNeg = 3 from nI_clamp (by omega)] at h
  exact h

