theorem lk_756ceae3 : Cond.initialized yL_cell.cls ∈ GW := GW_of 17 (by decide +kernel) (by decide +kernel)
theorem lk_d97cdeab : Cond.initialized yL_holds.cls ∈ GW := GW_of 17 (by decide +kernel) (by decide +kernel)
theorem lk_42098771 : Cond.initialized yL_acts.cls ∈ GW := GW_of 17 (by decide +kernel) (by decide +kernel)
theorem lk_f3392c63 : Cond.initialized RL ∈ GW := GW_of 17 (by decide +kernel) (by decide +kernel)
theorem lk_f5b9f328 : Cond.initialized RX5 ∈ GW := GW_of 18 (by decide +kernel) (by decide +kernel)
theorem lk_2bbb8b2f : Cond.initialized yX5_init.cls ∈ GW := GW_of 18 (by decide +kernel) (by decide +kernel)
theorem lk_090c7340 : Cond.classLink RL 10 RX5 ∈ GW := GW_of 33 (by decide +kernel) (by decide +kernel)
theorem lk_cab4b419 : Cond.instantiable RX5 7 ∈ GW := GW_of 34 (by decide +kernel) (by decide +kernel)
theorem lk_5d76ca59 : Cond.methodLink RL 150 yX5_init ∈ GW := GW_of 35 (by decide +kernel) (by decide +kernel)
theorem lk_4ecec165 : Cond.instanceMethod yX5_init ∈ GW := GW_of 36 (by decide +kernel) (by decide +kernel)
theorem lk_5c6113cb : Cond.code yX5_init cX5_init 2 none ∈ GW := GW_of 37 (by decide +kernel) (by decide +kernel)
theorem lk_6b5a5365 : Cond.methodLink RL 155 yX5_begin ∈ GW := GW_of 214 (by decide +kernel) (by decide +kernel)
theorem lk_d6e0805d : Cond.instanceMethod yX5_begin ∈ GW := GW_of 215 (by decide +kernel) (by decide +kernel)
theorem lk_40c13d4e : Cond.selects RX5 yX5_begin yX5_begin ∈ GW := GW_of 216 (by decide +kernel) (by decide +kernel)
theorem lk_15261f5d : Cond.code yX5_begin cX5_begin 4 (some .int) ∈ GW := GW_of 217 (by decide +kernel) (by decide +kernel)
theorem lk_738564ac : Cond.methodLink RL 151 yL_cell ∈ GW := GW_of 342 (by decide +kernel) (by decide +kernel)
theorem lk_f5e87b2b : Cond.static yL_cell ∈ GW := GW_of 343 (by decide +kernel) (by decide +kernel)
theorem lk_87627867 : Cond.code yL_cell cL_cell 2 (some .int) ∈ GW := GW_of 344 (by decide +kernel) (by decide +kernel)
theorem lk_6e36b363 : Cond.constant RL 8 (40503) ∈ GW := GW_of 345 (by decide +kernel) (by decide +kernel)
theorem lk_6214371a : Cond.methodLink RL 158 yL_holds ∈ GW := GW_of 346 (by decide +kernel) (by decide +kernel)
theorem lk_c701b7b2 : Cond.static yL_holds ∈ GW := GW_of 347 (by decide +kernel) (by decide +kernel)
theorem lk_10b90553 : Cond.code yL_holds cL_holds 1 (some .boolean) ∈ GW := GW_of 348 (by decide +kernel) (by decide +kernel)
theorem lk_5296fa83 : Cond.methodLink RL 161 yL_acts ∈ GW := GW_of 701 (by decide +kernel) (by decide +kernel)
theorem lk_7902459b : Cond.static yL_acts ∈ GW := GW_of 702 (by decide +kernel) (by decide +kernel)
theorem lk_3a571cb6 : Cond.code yL_acts cL_acts 10 (some .boolean) ∈ GW := GW_of 703 (by decide +kernel) (by decide +kernel)
/-! the law: its script, its loops, its end -/
abbrev lwT : List Cond := Cond.initialized RL :: GW
def PreC (Θ : Tht) (b L : Nat) (xs : Nat → Int32) (sz : Nat) (U : State) : Prop := Pre Θ [] sz U ∧ va_X b L xs U U.heap ∧ b < sz
theorem PreC.blind {Θ : Tht} {b L : Nat} {xs : Nat → Int32} {as : List Value} {sz : Nat} : FrameBlind (va_Pc as (PreC Θ b L xs sz)) := fun a U g mk q =>
  have r := Pre.blind a U g mk (⟨q.1, q.2.1⟩ : va_Pc as (Pre Θ [] sz) a U)
  ⟨r.1, r.2, va_X.moved (u := U) (U := U.calling g mk a) (Vm.Alike.refl U.vm) q.2.2.1, q.2.2.2⟩
theorem A_nil {sz q : Nat} (h : va_A [] sz q) : sz ≤ q := h.elim (fun ⟨k, e, h⟩ => by cases h) id
def celV (xs : Nat → Int32) (L j : Nat) : Int32 := if j < L then xs j else (40503 : Int32) * nI j + (977 : Int32)
section SWC
variable {Θ : Tht} {K : (Nat → Nat) × (Nat → Nat)} {p : Program} {e : Env} {R : Room} {s : State} {m : MethodId} {args : Array Value} {below : List Frame} {meth : Method} {c : Code} {A : Nat → Prop} {Q : State → Prop} {nL k n : Nat} {cc : ByteArray} {own : String} {Ts : List Cond} {b L : Nat} {xs : Nat → Int32}
theorem vinN {a L : Nat} (h : a < L) (hL : L ≤ 260) : vp_in (nI a) L := by
  rintro (h1 | h1)
  · exact absurd h1 (nI_pos (by omega))
  · rw [nI_clamp (by omega)] at h1
    omega
theorem sw_sld (pc : Nat) (G : okG Θ p s m args c A nL cc own Ts) (hX : va_X b L xs s s.heap) (hbl : b < s.heap.size) (hbA : ¬ A b) (hL : L ≤ 260) (j : Nat) {i : Int32} {lv : List (Nat × Value)} {st : List Value} {ws : va_W} (hi : i = nI j) (hj : j < L) (hd : decode cc pc = .ok (.iaload, 1)) (kk : sw Θ p e R s m args below meth c A Q nL k n (pc + 1) lv (.int (xs j) :: st) ws) : sw Θ p e R s m args below meth c A Q nL k n pc lv (.int i :: .ref b :: st) ws := by
  intro H locs ls hP hD hS hl
  subst hi
  refine va_sld G.1 G.2.1 hX hbl hbA hS (vinN hj hL) hd ?_
  rw [nI_clamp (by omega)]
  exact kk H locs ls hP hD hS hl
theorem sw_slen (pc : Nat) (G : okG Θ p s m args c A nL cc own Ts) (hX : va_X b L xs s s.heap) (hbl : b < s.heap.size) (hbA : ¬ A b) {lv : List (Nat × Value)} {st : List Value} {ws : va_W} (hd : decode cc pc = .ok (.arraylength, 1)) (kk : sw Θ p e R s m args below meth c A Q nL k n (pc + 1) lv (.int (Int32.ofNat L) :: st) ws) : sw Θ p e R s m args below meth c A Q nL k n pc lv (.ref b :: st) ws := by
  intro H locs ls hP hD hS hl
  exact va_slen G.1 G.2.1 hX hbl hbA hS hd (kk H locs ls hP hD hS hl)
end SWC
abbrev rmL_cell : Room := { frames := 0, cells := 0, slots := 0, locals := 0 }
theorem hsL_cell : yL_cell.cls ≠ "java/lang/invoke/MethodHandle" ∧ yL_cell.cls ≠ "java/lang/invoke/VarHandle" ∧ (parseMethodDescriptor yL_cell.desc).map (fun d => d.parameters.length) = some 2 := by decide +kernel
theorem kL_cell {Θ : Tht} {b L : Nat} {xs : Nat → Int32} (hL : L ≤ 260) {j : Nat} (hj : j < 2 ^ 31) (sz : Nat) : Met Θ.1 yL_cell (Cond.code yL_cell cL_cell 2 (some .int) :: GW) rmL_cell (va_Pc [.ref b, .int (nI j)] (PreC Θ b L xs sz)) (Pst Θ [] [] (some (.int (celV xs L j))) sz) 0 0 (va_A [] sz) := by
  refine Met.ofW (cc := cL_cell) (maxL := 2) (ret := some .int) (by decide +kernel) rfl ?_
  intro p e s m args below meth c s₁ B hml hv
  obtain ⟨rfl, ⟨hsz, hP, hK, hD0, hN⟩, hX, hb⟩ := hv
  subst hsz
  have hts := atoms_spec (ws := Cond.code yL_cell cL_cell 2 (some .int) :: GW) B.pre
  have hown : s.vm.findClass yL_cell.cls = some m.cls := findClass_of_methodNamed B.named
  have hl := lv_entry ([.ref b, .int (nI j)] : List Value) (n := 2) (Nat.le_of_ble_eq_true rfl)
  have hbA : ¬ va_A [] s.heap.size b := fun z => by have := A_nil z; omega
  have G : okG Θ p s m (([.ref b, .int (nI j)] : List Value).toArray) c (va_A [] s.heap.size) 2 cL_cell RL (Cond.code yL_cell cL_cell 2 (some .int) :: GW) := ⟨B.exec, B.bytes, hml, hown, hts, hK, fun q h => Or.inr h, hN⟩
  have KK : okR Θ rmL_cell s (([.ref b, .int (nI j)] : List Value).toArray) below meth (va_A [] s.heap.size) (MQ below (Pst Θ [] [] (some (.int (celV xs L j))) s.heap.size) (([.ref b, .int (nI j)] : List Value).toArray) s 0 0 (va_A [] s.heap.size)) [] [] (some (.int (celV xs L j))) (some .int) := ⟨rfl, rfl, B.returns, B.notSynchronized⟩
  have walk : sw Θ p e rmL_cell s m (([.ref b, .int (nI j)] : List Value).toArray) below meth c (va_A [] s.heap.size) (MQ below (Pst Θ [] [] (some (.int (celV xs L j))) s.heap.size) (([.ref b, .int (nI j)] : List Value).toArray) s 0 0 (va_A [] s.heap.size)) 2 0 0 0 [(0, .ref b), (1, .int (nI j))] [] [] := by
    refine sw_iload_n 0 G dL_cell_0 1 rfl ?_
    refine sw_aload_n 1 G dL_cell_1 0 rfl ?_
    refine sw_slen 2 G hX hb hbA dL_cell_2 ?_
    refine sw_Ige 3 12 G dL_cell_3 rfl (fun h => ?_) (fun h => ?_)
    · have hn : ¬ j < L := fun z => nI_ge z (by omega) h
      have ev : celV xs L j = (40503 : Int32) * nI j + (977 : Int32) := if_neg hn
      rw [ev] at KK
      refine sw_ldc 12 G (List.mem_cons_of_mem _ lk_6e36b363) dL_cell_12 ?_
      refine sw_iload_n 14 G dL_cell_14 1 rfl ?_
      refine sw_imul 15 G dL_cell_15 ?_
      refine sw_sipush 16 G (977 : Int32) dL_cell_16 (by decide) ?_
      refine sw_iadd 19 G dL_cell_19 ?_
      rw [ev]
      exact sw_iret 20 G dL_cell_20 KK
    · have hn : j < L := by
        by_cases z : j < L
        · exact z
        · exact absurd (nI_le (by omega) (by omega)) h
      have ev : celV xs L j = xs j := if_pos hn
      rw [ev] at KK
      refine sw_aload_n 6 G dL_cell_6 0 rfl ?_
      refine sw_iload_n 7 G dL_cell_7 1 rfl ?_
      refine sw_sld 8 G hX hb hbA hL j rfl hn dL_cell_8 ?_
      refine sw_goto 9 G 20 dL_cell_9 rfl ?_
      rw [ev]
      exact sw_iret 20 G dL_cell_20 KK
  rw [lg_entry_eq]
  exact walk s.heap [] _ hP hD0.self va_S.rf hl
section SWD
variable {Θ : Tht} {K : (Nat → Nat) × (Nat → Nat)} {p : Program} {e : Env} {R : Room} {s : State} {m : MethodId} {args : Array Value} {below : List Frame} {meth : Method} {c : Code} {A : Nat → Prop} {Q : State → Prop} {nL k n : Nat} {cc : ByteArray} {own : String} {Ts : List Cond} {b L : Nat} {xs : Nat → Int32}
theorem sw_cell (pc : Nat) (G : okG Θ p s m args c A nL cc RL lwT) (hX : va_X b L xs s s.heap) (hbl : b < s.heap.size) (hbA : ¬ A b) (hL : L ≤ 260) (j : Nat) {v : Int32} {rest : List Value} {lv : List (Nat × Value)} {ws : va_W} (hv : v = nI j) (hj : j < 2 ^ 31) (hd : decode cc pc = .ok (.invokestatic 151, 3))
    (hR : 1 ≤ R.frames ∧ 21 ≤ R.locals) (hk : k ≤ R.cells ∧ n ≤ R.slots) (hcat : (rest.map fun v => v.category).sum ≤ 8)
    (kk : sw Θ p e R s m args below meth c A Q nL k n (pc + 3) lv (.int (celV xs L j) :: rest) ws) : sw Θ p e R s m args below meth c A Q nL k n pc lv (.int v :: .ref b :: rest) ws := by
  subst hv
  intro H locs ls hP hD hS hl
  have hXH : va_X b L xs s H := hX.kept (hS.2.1 b hbl hbA)
  have hbH : b < H.size := Nat.lt_of_lt_of_le hbl hS.1
  have hT : GoodIn lwT (va_wsS RL 151 yL_cell (Cond.code yL_cell cL_cell 2 (some .int) :: GW)) := (gwS lk_738564ac lk_f5e87b2b lk_756ceae3 lk_87627867)
  have ok : ∀ w ∈ va_wsS RL 151 yL_cell (Cond.code yL_cell cL_cell 2 (some .int) :: GW), w.before args s = true := fun w h => G.2.2.2.2.1 w (hT w h).1
  have hT2 : GoodIn lwT (Cond.code yL_cell cL_cell 2 (some .int) :: GW) := fun w h => hT w (by unfold va_wsS; exact List.mem_append_right _ h)
  have run : va_Run p Θ.1 e R s m args below meth c H locs k n 0 0 (F0 m pc ls (.int (nI j) :: .ref b :: rest)) rest (Pst Θ [] [] (some (.int (celV xs L j))) H.size ([Value.ref b, .int (nI j)]).toArray) (va_A [] H.size) :=
    va_runS (Ts := lwT) (own := RL) (nL := nL) (cc := cc) (As := [.ref b, .int (nI j)]) (rest := rest) ⟨G.1, G.2.1, G.2.2.1, G.2.2.2.1, G.2.2.2.2.1⟩ (kL_cell hL hj H.size) ⟨callB_of 2 G.2.2.2.2.1 hT2 rfl rfl rfl (ok _ (by simp [va_wsS])) (ok _ (by simp [va_wsS])) hsL_cell ⟨hR.1, hR.2⟩, ok _ (by simp [va_wsS])⟩ ⟨PreC.blind, fun U hU hW => ⟨rfl, ⟨by rw [hU], fun k q h => (by cases h), va_K.moved hW.alike G.2.2.2.2.2.1, ⟨fun i j p q h => (by cases h), fun k q h => (by cases h)⟩, G.2.2.2.2.2.2.2.warm hW⟩, by rw [hU]; exact va_X.moved hW.alike hXH, hbH⟩⟩ rfl rfl hl.1 rfl (lv_room hcat) hd hk
  intro T hT0 X
  obtain ⟨v, st₀, t, T', Lc, e0, X', hLc, e1, e2, ⟨h1, h2, h3, h4⟩, st⟩ := run T hT0 X
  cases h1
  obtain ⟨k1, k2⟩ := h4
  have hk9 : ∀ q : Nat, q < H.size → T'.heap[q]? = H[q]? := fun q hq => by
    rw [e1, ← e0]; exact k2 q (by rw [e0]; exact hq) (fun hA => by have := A_nil hA; omega)
  have hz : H.size ≤ T'.heap.size := by rw [e1, ← e0]; exact k1
  have hS1 : va_S A s.heap T'.heap (locs ++ Lc) := ⟨Nat.le_trans hS.1 hz, fun q hq hA => (hk9 q (Nat.lt_of_lt_of_le hq hS.1)).trans (hS.2.1 q hq hA), fun z hz => (List.mem_append.mp hz).elim (fun h => hS.2.2 z h) (fun h => G.2.2.2.2.2.2.1 _ (Nat.le_trans hS.1 (A_nil (hLc z h))))⟩
  obtain ⟨w, a, b⟩ := kk T'.heap (locs ++ Lc) ls (hP.kept (fun i q hi => hk9 _ (hP i q hi).lt)) hD hS1 hl T' rfl X'
  exact ⟨w, st w a, b⟩
end SWD
abbrev lvB (b : Nat) (ad : Nat → Nat) (j : Nat) : List (Nat × Value) := [(3, .int (nI j)), (2, .int (1 : Int32)), (1, .ref (ad 0)), (0, .ref b)]
abbrev FL : Nat := 1000001
theorem hFL : 1000000 < FL := Nat.le_of_ble_eq_true rfl
theorem hvL_begin : yX5_begin.cls = RX5 ∧ yX5_begin.cls ≠ "java/lang/invoke/MethodHandle" ∧ yX5_begin.cls ≠ "java/lang/invoke/VarHandle" ∧ (parseMethodDescriptor yX5_begin.desc).map (fun d => d.parameters.length) = some 2 := by decide +kernel
section LAWZ
variable {Θ : Tht} {K : (Nat → Nat) × (Nat → Nat)} {p : Program} {e : Env} {s : State} {m : MethodId} {args : Array Value} {below : List Frame} {meth : Method} {c : Code} {A : Nat → Prop} {Q : State → Prop} {b L : Nat} {xs : Nat → Int32} {ad : Nat → Nat}
theorem lp_two (G : okG Θ p s m args c A 4 cL_law RL lwT) (E : Ev K A s s.heap) (hST : Θ.1.stackTraces = false) (hX : va_X b L xs s s.heap) (hbl : b < s.heap.size) (hbA : ¬ A b) (hL : L ≤ 260)
    (hend : ∀ (k2 n2 : Nat) (lv : List (Nat × Value)) (ws : va_W), k2 ≤ 600086 → n2 ≤ 7301442 → sw Θ p e room_1 s m args below meth c A Q 4 k2 n2 180 lv [.int (1 : Int32)] ws) :
    ∀ (d j : Nat) (cs : CSt) (N : Nat → Nat) (k n : Nat), j + d = 30 → I3 (20 * j) cs N → k ≤ 200 + 3 * j → n ≤ 2000 + 18 * j → sw Θ p e room_1 s m args below meth c A Q 4 k n 118 (lvB b ad j) [] (wC Θ ad cs)
  | 0, j, cs, N, k, n, hd, _, hk, hn => by
    refine sw_iload_n 118 G dL_law_118 0 rfl ?_
    refine sw_bipush 119 G (30 : Int32) dL_law_119 (by decide) ?_
    refine sw_Ige 121 179 G dL_law_121 rfl (fun _ => ?_) (fun h => absurd (show (30 : Int32) ≤ nI j from nI_le (a := 30) (by omega) (by omega)) h)
    refine sw_iload_n 179 G dL_law_179 1 rfl ?_
    exact hend _ _ _ _ (by omega) (by omega)
  | d + 1, j, cs, N, k, n, hd, i, hk, hn => by
    obtain ⟨c2, N2, e2, i2⟩ := acts_s (F := FL) hFL (show 20 * j + 20 < 2 ^ 30 by omega) i (celV xs L (3 * j)) (celV xs L (3 * j + 1)) (celV xs L (3 * j + 2))
    obtain ⟨c3, e3, i3⟩ := holds_s (F := FL) hFL i2
    refine sw_iload_n 118 G dL_law_118 0 rfl ?_
    refine sw_bipush 119 G (30 : Int32) dL_law_119 (by decide) ?_
    refine sw_Ige 121 179 G dL_law_121 rfl (fun h => absurd h (nI_ge (b := 30) (by omega) (by omega))) (fun _ => ?_)
    refine sw_iload_n 124 G dL_law_124 1 rfl ?_
    refine sw_Beq 125 179 G dL_law_125 rfl (fun h => absurd h (by decide)) (fun _ => ?_)
    refine sw_aload_n 128 G dL_law_128 2 rfl ?_
    refine sw_aload_n 129 G dL_law_129 3 rfl ?_
    refine sw_iconst 130 G (3 : Int32) dL_law_130 rfl ?_
    refine sw_iload_n 131 G dL_law_131 0 rfl ?_
    refine sw_imul 132 G dL_law_132 ?_
    refine sw_cell 133 G hX hbl hbA hL (3 * j) (pk_mul 3 j) (by omega) dL_law_133 ⟨Nat.le_of_ble_eq_true rfl, Nat.le_of_ble_eq_true rfl⟩ ⟨by show k ≤ 600086; omega, by show n ≤ 7301442; omega⟩ (Nat.le_of_ble_eq_true rfl) ?_
    refine sw_aload_n 136 G dL_law_136 3 rfl ?_
    refine sw_iconst 137 G (3 : Int32) dL_law_137 rfl ?_
    refine sw_iload_n 138 G dL_law_138 0 rfl ?_
    refine sw_imul 139 G dL_law_139 ?_
    refine sw_iconst 140 G (1 : Int32) dL_law_140 rfl ?_
    refine sw_iadd 141 G dL_law_141 ?_
    refine sw_cell 142 G hX hbl hbA hL (3 * j + 1) (show (3 : Int32) * nI j + (1 : Int32) = nI (3 * j + 1) from by rw [il_3, pk_mul, il_1, nI_add]) (by omega) dL_law_142 ⟨Nat.le_of_ble_eq_true rfl, Nat.le_of_ble_eq_true rfl⟩ ⟨by show k ≤ 600086; omega, by show n ≤ 7301442; omega⟩ (Nat.le_of_ble_eq_true rfl) ?_
    refine sw_aload_n 145 G dL_law_145 3 rfl ?_
    refine sw_iconst 146 G (3 : Int32) dL_law_146 rfl ?_
    refine sw_iload_n 147 G dL_law_147 0 rfl ?_
    refine sw_imul 148 G dL_law_148 ?_
    refine sw_iconst 149 G (2 : Int32) dL_law_149 rfl ?_
    refine sw_iadd 150 G dL_law_150 ?_
    refine sw_cell 151 G hX hbl hbA hL (3 * j + 2) (show (3 : Int32) * nI j + (2 : Int32) = nI (3 * j + 2) from by rw [il_3, pk_mul, il_2, nI_add]) (by omega) dL_law_151 ⟨Nat.le_of_ble_eq_true rfl, Nat.le_of_ble_eq_true rfl⟩ ⟨by show k ≤ 600086; omega, by show n ≤ 7301442; omega⟩ (Nat.le_of_ble_eq_true rfl) ?_
    refine sw_callSA 154 G E 4 dL_law_154 (kL_acts hST e2) (gwS lk_5296fa83 lk_7902459b lk_42098771 lk_3a571cb6) rfl hsL_acts ⟨rfl, rfl⟩ ⟨Nat.le_of_ble_eq_true rfl, Nat.le_of_ble_eq_true rfl⟩ ⟨by show k + 3 ≤ 600086; omega, by show n + 18 ≤ 7301442; omega⟩ rfl rfl (Nat.le_of_ble_eq_true rfl) ?_
    refine sw_Beq 157 171 G dL_law_157 rfl (fun h => absurd h (by decide)) (fun _ => ?_)
    refine sw_aload_n 160 G dL_law_160 2 rfl ?_
    refine sw_callSA 161 G E 1 dL_law_161 (kL_holds e3) (gwS lk_6214371a lk_c701b7b2 lk_d97cdeab lk_10b90553) rfl hsL_holds ⟨rfl, rfl⟩ ⟨Nat.le_of_ble_eq_true rfl, Nat.le_of_ble_eq_true rfl⟩ ⟨by show k + 3 ≤ 600086; omega, by show n + 18 ≤ 7301442; omega⟩ rfl rfl (Nat.le_of_ble_eq_true rfl) ?_
    refine sw_Beq 164 171 G dL_law_164 rfl (fun h => absurd h (by decide)) (fun _ => ?_)
    refine sw_iconst 167 G (1 : Int32) dL_law_167 rfl ?_
    refine sw_goto 168 G 172 dL_law_168 rfl ?_
    refine sw_istore_n 172 G [(2, .int (1 : Int32)), (3, .int (nI j)), (1, .ref (ad 0)), (0, .ref b)] dL_law_172 (by decide) rfl ?_
    refine sw_iinc 173 G (nI (j + 1)) (lvB b ad (j + 1)) dL_law_173 1 rfl ?_ (by decide) rfl ?_
    · exact nI_add j 1
    refine sw_goto 176 G 118 dL_law_176 rfl ?_
    exact lp_two G E hST hX hbl hbA hL hend d (j + 1) c3 N2 _ _ (by omega) (i3.mono (by omega)) (by omega) (by omega)
theorem lp_one (G : okG Θ p s m args c A 4 cL_law RL lwT) (E : Ev K A s s.heap) (hST : Θ.1.stackTraces = false) (hX : va_X b L xs s s.heap) (hbl : b < s.heap.size) (hbA : ¬ A b) (hL : L ≤ 260)
    (hend : ∀ (k2 n2 : Nat) (lv : List (Nat × Value)) (ws : va_W), k2 ≤ 600086 → n2 ≤ 7301442 → sw Θ p e room_1 s m args below meth c A Q 4 k2 n2 180 lv [.int (1 : Int32)] ws) :
    ∀ (d j : Nat) (cs : CSt) (N : Nat → Nat) (k n : Nat), j + d = 6 → I3 0 cs N → k ≤ 100 + 3 * j → n ≤ 1000 + 18 * j → sw Θ p e room_1 s m args below meth c A Q 4 k n 47 (lvB b ad j) [] (wC Θ ad cs)
  | 0, j, cs, N, k, n, hd, i, hk, hn => by
    refine sw_iload_n 47 G dL_law_47 0 rfl ?_
    refine sw_bipush 48 G (6 : Int32) dL_law_48 (by decide) ?_
    refine sw_Ige 50 116 G dL_law_50 rfl (fun _ => ?_) (fun h => absurd (show (6 : Int32) ≤ nI j from nI_le (a := 6) (by omega) (by omega)) h)
    refine sw_iconst 116 G (nI 0) dL_law_116 rfl ?_
    refine sw_istore_n 117 G (lvB b ad 0) dL_law_117 (by decide) rfl ?_
    exact lp_two G E hST hX hbl hbA hL hend 30 0 cs N k n (by omega) i (by omega) (by omega)
  | d + 1, j, cs, N, k, n, hd, i, hk, hn => by
    have fin : ∀ (c2 : CSt) (N2 : Nat → Nat), I3 0 c2 N2 → ∀ (k2 n2 : Nat), k2 ≤ k + 3 → n2 ≤ n + 18 → sw Θ p e room_1 s m args below meth c A Q 4 k2 n2 109 (lvB b ad j) [.int (1 : Int32)] (wC Θ ad c2) := by
      intro c2 N2 i2 k2 n2 h1 h2
      refine sw_istore_n 109 G [(2, .int (1 : Int32)), (3, .int (nI j)), (1, .ref (ad 0)), (0, .ref b)] dL_law_109 (by decide) rfl ?_
      refine sw_iinc 110 G (nI (j + 1)) (lvB b ad (j + 1)) dL_law_110 1 rfl ?_ (by decide) rfl ?_
      · exact nI_add j 1
      refine sw_goto 113 G 47 dL_law_113 rfl ?_
      exact lp_one G E hST hX hbl hbA hL hend d (j + 1) c2 N2 k2 n2 (by omega) i2 (by omega) (by omega)
    refine sw_iload_n 47 G dL_law_47 0 rfl ?_
    refine sw_bipush 48 G (6 : Int32) dL_law_48 (by decide) ?_
    refine sw_Ige 50 116 G dL_law_50 rfl (fun h => absurd h (nI_ge (b := 6) (by omega) (by omega))) (fun _ => ?_)
    refine sw_iload_n 53 G dL_law_53 1 rfl ?_
    refine sw_Beq 54 116 G dL_law_54 rfl (fun h => absurd h (by decide)) (fun _ => ?_)
    refine sw_iload_n 57 G dL_law_57 0 rfl ?_
    refine sw_iconst 58 G (3 : Int32) dL_law_58 rfl ?_
    refine sw_Ige 59 87 G dL_law_59 rfl (fun _ => ?_) (fun _ => ?_)
    · obtain ⟨c2, N2, e2, i2⟩ := adds_s (F := FL) hFL i (celV xs L (200 + j)) (celV xs L (220 + j))
      refine sw_aload_n 87 G dL_law_87 2 rfl ?_
      refine sw_aload_n 88 G dL_law_88 3 rfl ?_
      refine sw_sipush 89 G (200 : Int32) dL_law_89 (by decide) ?_
      refine sw_iload_n 92 G dL_law_92 0 rfl ?_
      refine sw_iadd 93 G dL_law_93 ?_
      refine sw_cell 94 G hX hbl hbA hL (200 + j) (nI_add 200 j) (by omega) dL_law_94 ⟨Nat.le_of_ble_eq_true rfl, Nat.le_of_ble_eq_true rfl⟩ ⟨by show k ≤ 600086; omega, by show n ≤ 7301442; omega⟩ (Nat.le_of_ble_eq_true rfl) ?_
      refine sw_aload_n 97 G dL_law_97 3 rfl ?_
      refine sw_sipush 98 G (220 : Int32) dL_law_98 (by decide) ?_
      refine sw_iload_n 101 G dL_law_101 0 rfl ?_
      refine sw_iadd 102 G dL_law_102 ?_
      refine sw_cell 103 G hX hbl hbA hL (220 + j) (nI_add 220 j) (by omega) dL_law_103 ⟨Nat.le_of_ble_eq_true rfl, Nat.le_of_ble_eq_true rfl⟩ ⟨by show k ≤ 600086; omega, by show n ≤ 7301442; omega⟩ (Nat.le_of_ble_eq_true rfl) ?_
      refine sw_callSA 106 G E 3 dL_law_106 (kL_adds hST e2) (gwS lk_7fd5366c lk_ada2f5c6 lk_58b5b752 lk_21505aa2) rfl hsL_adds ⟨rfl, rfl⟩ ⟨Nat.le_of_ble_eq_true rfl, Nat.le_of_ble_eq_true rfl⟩ ⟨by show k + 1 ≤ 600086; omega, by show n + 6 ≤ 7301442; omega⟩ rfl rfl (Nat.le_of_ble_eq_true rfl) ?_
      exact fin c2 N2 i2 _ _ (by omega) (by omega)
    · obtain ⟨c2, N2, e2, i2⟩ := marks_s (F := FL) hFL i (celV xs L (200 + j)) (celV xs L (220 + j))
      refine sw_aload_n 62 G dL_law_62 2 rfl ?_
      refine sw_aload_n 63 G dL_law_63 3 rfl ?_
      refine sw_sipush 64 G (200 : Int32) dL_law_64 (by decide) ?_
      refine sw_iload_n 67 G dL_law_67 0 rfl ?_
      refine sw_iadd 68 G dL_law_68 ?_
      refine sw_cell 69 G hX hbl hbA hL (200 + j) (nI_add 200 j) (by omega) dL_law_69 ⟨Nat.le_of_ble_eq_true rfl, Nat.le_of_ble_eq_true rfl⟩ ⟨by show k ≤ 600086; omega, by show n ≤ 7301442; omega⟩ (Nat.le_of_ble_eq_true rfl) ?_
      refine sw_aload_n 72 G dL_law_72 3 rfl ?_
      refine sw_sipush 73 G (220 : Int32) dL_law_73 (by decide) ?_
      refine sw_iload_n 76 G dL_law_76 0 rfl ?_
      refine sw_iadd 77 G dL_law_77 ?_
      refine sw_cell 78 G hX hbl hbA hL (220 + j) (nI_add 220 j) (by omega) dL_law_78 ⟨Nat.le_of_ble_eq_true rfl, Nat.le_of_ble_eq_true rfl⟩ ⟨by show k ≤ 600086; omega, by show n ≤ 7301442; omega⟩ (Nat.le_of_ble_eq_true rfl) ?_
      refine sw_callSA 81 G E 3 dL_law_81 (kL_marks hST e2) (gwS lk_bdfd6b88 lk_5acea4df lk_ce95dbe4 lk_03270d5a) rfl hsL_marks ⟨rfl, rfl⟩ ⟨Nat.le_of_ble_eq_true rfl, Nat.le_of_ble_eq_true rfl⟩ ⟨by show k + 3 ≤ 600086; omega, by show n + 18 ≤ 7301442; omega⟩ rfl rfl (Nat.le_of_ble_eq_true rfl) ?_
      refine sw_goto 84 G 109 dL_law_84 rfl ?_
      exact fin c2 N2 i2 _ _ (by omega) (by omega)
theorem law_body (G : okG Θ p s m args c A 4 cL_law RL lwT) (E : Ev K A s s.heap) (hAO : va_AO sSt s) (hST : Θ.1.stackTraces = false) (hX : va_X b L xs s s.heap) (hbl : b < s.heap.size) (hbA : ¬ A b) (hL : L ≤ 260)
    (hend : ∀ (k2 n2 : Nat) (lv : List (Nat × Value)) (ws : va_W), k2 ≤ 600086 → n2 ≤ 7301442 → sw Θ p e room_1 s m args below meth c A Q 4 k2 n2 180 lv [.int (1 : Int32)] ws) : sw Θ p e room_1 s m args below meth c A Q 4 0 0 0 [(0, .ref b)] [] [] := by
  obtain ⟨x, hx, ex⟩ := low_s (celV xs L 190) (k := 6) (by omega) (by omega)
  obtain ⟨y, hy, ey⟩ := low_s (celV xs L 191) (k := 4) (by omega) (by omega)
  obtain ⟨c1, e1, i1⟩ := ga_begin (F := FL) (C := 2 + x) (R := 2 + y) hFL i0 (by omega) (by omega)
  have e1 : g_begin FL c0 ((2 : Int32) + nI x) ((2 : Int32) + nI y) = some (nI (N0 8), c1) := by
    rw [show (2 : Int32) + nI x = nI (2 + x) from nI_add 2 x, show (2 : Int32) + nI y = nI (2 + y) from nI_add 2 y]
    exact e1
  obtain ⟨c2, e2, i2⟩ := holds_s (F := FL) hFL i1
  refine sw_new 0 G hnX5 tyX5_ok dL_law_0 (List.mem_cons_of_mem _ lk_090c7340) (List.mem_cons_of_mem _ lk_cab4b419) (List.mem_cons_of_mem _ lk_f5b9f328) vc5 dfX5 ⟨Nat.le_of_ble_eq_true rfl, Nat.le_of_ble_eq_true rfl⟩ (fun z0 => ?_)
  refine sw_dup 3 G dL_law_3 rfl ?_
  refine sw_initC 4 G hAO dL_law_4 (kX5_init Θ z0) (gwN lk_5c6113cb) (List.mem_cons_of_mem _ lk_5d76ca59) (List.mem_cons_of_mem _ lk_2bbb8b2f) (List.mem_cons_of_mem _ lk_4ecec165) rfl rfl hsX5_init ⟨rfl, rfl⟩ ⟨Nat.le_of_ble_eq_true rfl, Nat.le_of_ble_eq_true rfl⟩ ⟨Nat.le_of_ble_eq_true rfl, Nat.le_of_ble_eq_true rfl⟩ (Nat.le_of_ble_eq_true rfl) (fun u => ?_)
  refine sw_eqw (wC Θ (fun j => if j = 0 then z0 else u j) c0) (List.nil_append _) ?_
  refine sw_astore_n 7 G [(1, .ref z0), (0, .ref b)] dL_law_7 (by decide) rfl ?_
  refine sw_aload_n 8 G dL_law_8 0 rfl ?_
  refine sw_iconst 9 G (2 : Int32) dL_law_9 rfl ?_
  refine sw_aload_n 10 G dL_law_10 1 rfl ?_
  refine sw_sipush 11 G (190 : Int32) dL_law_11 (by decide) ?_
  refine sw_cell 14 G hX hbl hbA hL (190) rfl (by omega) dL_law_14 ⟨Nat.le_of_ble_eq_true rfl, Nat.le_of_ble_eq_true rfl⟩ ⟨Nat.le_of_ble_eq_true rfl, Nat.le_of_ble_eq_true rfl⟩ (Nat.le_of_ble_eq_true rfl) ?_
  refine sw_bipush 17 G (6 : Int32) dL_law_17 (by decide) ?_
  refine sw_callSW 19 G 2 dL_law_19 (Fn.any _ (kL_low Θ (celV xs L 190) (6 : Int32) (nI x) ex)) (gwS lk_ec621e3c lk_49b37618 lk_d05d3c57 lk_75682ede) rfl hsL_low ⟨rfl, rfl⟩ ⟨Nat.le_of_ble_eq_true rfl, Nat.le_of_ble_eq_true rfl⟩ ⟨Nat.le_of_ble_eq_true rfl, Nat.le_of_ble_eq_true rfl⟩ rfl rfl (Nat.le_of_ble_eq_true rfl) ?_
  refine sw_iadd 22 G dL_law_22 ?_
  refine sw_iconst 23 G (2 : Int32) dL_law_23 rfl ?_
  refine sw_aload_n 24 G dL_law_24 1 rfl ?_
  refine sw_sipush 25 G (191 : Int32) dL_law_25 (by decide) ?_
  refine sw_cell 28 G hX hbl hbA hL (191) rfl (by omega) dL_law_28 ⟨Nat.le_of_ble_eq_true rfl, Nat.le_of_ble_eq_true rfl⟩ ⟨Nat.le_of_ble_eq_true rfl, Nat.le_of_ble_eq_true rfl⟩ (Nat.le_of_ble_eq_true rfl) ?_
  refine sw_iconst 31 G (4 : Int32) dL_law_31 rfl ?_
  refine sw_callSW 32 G 2 dL_law_32 (Fn.any _ (kL_low Θ (celV xs L 191) (4 : Int32) (nI y) ey)) (gwS lk_ec621e3c lk_49b37618 lk_d05d3c57 lk_75682ede) rfl hsL_low ⟨rfl, rfl⟩ ⟨Nat.le_of_ble_eq_true rfl, Nat.le_of_ble_eq_true rfl⟩ ⟨Nat.le_of_ble_eq_true rfl, Nat.le_of_ble_eq_true rfl⟩ rfl rfl (Nat.le_of_ble_eq_true rfl) ?_
  refine sw_iadd 35 G dL_law_35 ?_
  refine sw_callVA 36 G E 2 dL_law_36 (kG_begin e1) (gwV lk_6b5a5365 lk_d6e0805d lk_40c13d4e lk_5f14f758 lk_15261f5d) rfl hvL_begin ⟨rfl, rfl⟩ ⟨Nat.le_of_ble_eq_true rfl, Nat.le_of_ble_eq_true rfl⟩ ⟨Nat.le_of_ble_eq_true rfl, Nat.le_of_ble_eq_true rfl⟩ rfl rfl (Nat.le_of_ble_eq_true rfl) 0 rfl vc5 rfl ?_
  refine sw_pop 39 G dL_law_39 rfl ?_
  refine sw_aload_n 40 G dL_law_40 0 rfl ?_
  refine sw_callSA 41 G E 1 dL_law_41 (kL_holds e2) (gwS lk_6214371a lk_c701b7b2 lk_d97cdeab lk_10b90553) rfl hsL_holds ⟨rfl, rfl⟩ ⟨Nat.le_of_ble_eq_true rfl, Nat.le_of_ble_eq_true rfl⟩ ⟨Nat.le_of_ble_eq_true rfl, Nat.le_of_ble_eq_true rfl⟩ rfl rfl (Nat.le_of_ble_eq_true rfl) ?_
  refine sw_istore_n 44 G [(2, .int (1 : Int32)), (1, .ref z0), (0, .ref b)] dL_law_44 (by decide) rfl ?_
  refine sw_iconst 45 G (nI 0) dL_law_45 rfl ?_
  refine sw_istore_n 46 G (lvB b (fun j => if j = 0 then z0 else u j) 0) dL_law_46 (by decide) rfl ?_
  exact lp_one G E hST hX hbl hbA hL hend 6 0 c2 _ _ _ (by omega) i2 (by decide) (by decide)
end LAWZ
/-- from the law's entry to its end -/
theorem whole_start {p : Program} {e : Env} {s : State} {m : MethodId} {below : List Frame} {meth : Method} {c : Code} (l : Launch) (hflags : l.flags = flags0) {b L : Nat} {xs : Nat → Int32} (hL : L ≤ 260) (C0 : lw_At p s m meth c b L xs) : W p l e room_1 s m #[Value.ref b] below meth c s.heap [] 0 0 (lw_Z below #[Value.ref b] s) (entryFrame m ([Value.ref b] : List Value).toArray 4) := by
  obtain ⟨hx, hb, hr, hml, hown, hts, hX, hbl, hlk, hgv⟩ := C0
  have hn : ∀ w ∈ nar, w.before #[Value.ref b] s = true := flat_of_before _ hgv
  obtain ⟨D, tC, hK⟩ := entry_K hts l
  obtain ⟨K, hE⟩ := entry_E hts hn (hK.1 5 (RX5, TX5, 7) rfl).2.1
  have hST : l.stackTraces = false := by
    unfold Launch.stackTraces
    rw [hflags]
    decide +kernel
  have G : okG (l, D, tC) p s m #[Value.ref b] c (AE s) 4 cL_law RL lwT := ⟨hx, hb, hml, hown, List.forall_mem_cons.mpr ⟨hts _ (GW_tbl lk_f3392c63), fun w hw => hts w (GW_tbl hw)⟩, hK, fun q h => h, entry_N hts⟩
  have hl := lv_entry ([Value.ref b] : List Value) (n := 4) (Nat.le_of_ble_eq_true rfl)
  rw [lg_entry_eq]
  refine law_body G hE (entry_AO hts) hST hX hbl (AE_no b hbl) hL (fun k2 n2 lv ws h1 h2 => ?_) s.heap [] _ (fun k q h => (by cases h)) ⟨fun i j p q h => (by cases h), fun k q h => (by cases h)⟩ va_S.rf hl
  intro H locs ls hP hD hS hl2
  refine W.widen (k := 600086) (n := 7301442) h1 h2 ?_
  refine va_forget (fun q hq => hS.2.2 q hq) ?_
  exact lw_ret hx hb hr hlk dL_law_180
