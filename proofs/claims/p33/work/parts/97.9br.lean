section SW5
variable {Θ : Tht} {K : (Nat → Nat) × (Nat → Nat)} {p : Program} {e : Env} {R : Room} {s : State} {m : MethodId} {args : Array Value} {below : List Frame} {meth : Method} {c : Code} {A : Nat → Prop} {Q : State → Prop} {nL k n : Nat} {cc : ByteArray} {own : String} {Ts : List Cond}
theorem sw_Beq (pc tgt : Nat) (G : okG Θ p s m args c A nL cc own Ts) {off : Int} {x : Int32} {lv : List (Nat × Value)} {st : List Value} {ws : va_W} (hd : decode cc pc = .ok (.ifCond .eq off, 3)) (ht : (pc : Int) + off = (tgt : Int)) (kt : x = 0 → sw Θ p e R s m args below meth c A Q nL k n tgt lv st ws) (kf : ¬ x = 0 → sw Θ p e R s m args below meth c A Q nL k n (pc + 3) lv st ws) : sw Θ p e R s m args below meth c A Q nL k n pc lv (.int x :: st) ws := by
  intro H locs ls hP hD hS hl
  exact lv_if_eq G.1 G.2.1 hd ht (fun h => kt h H locs ls hP hD hS hl) (fun h => kf h H locs ls hP hD hS hl)
theorem sw_Bne (pc tgt : Nat) (G : okG Θ p s m args c A nL cc own Ts) {off : Int} {x : Int32} {lv : List (Nat × Value)} {st : List Value} {ws : va_W} (hd : decode cc pc = .ok (.ifCond .ne off, 3)) (ht : (pc : Int) + off = (tgt : Int)) (kt : ¬ x = 0 → sw Θ p e R s m args below meth c A Q nL k n tgt lv st ws) (kf : x = 0 → sw Θ p e R s m args below meth c A Q nL k n (pc + 3) lv st ws) : sw Θ p e R s m args below meth c A Q nL k n pc lv (.int x :: st) ws := by
  intro H locs ls hP hD hS hl
  exact lv_if_ne G.1 G.2.1 hd ht (fun h => kt h H locs ls hP hD hS hl) (fun h => kf h H locs ls hP hD hS hl)
theorem sw_Blt (pc tgt : Nat) (G : okG Θ p s m args c A nL cc own Ts) {off : Int} {x : Int32} {lv : List (Nat × Value)} {st : List Value} {ws : va_W} (hd : decode cc pc = .ok (.ifCond .lt off, 3)) (ht : (pc : Int) + off = (tgt : Int)) (kt : x < 0 → sw Θ p e R s m args below meth c A Q nL k n tgt lv st ws) (kf : ¬ x < 0 → sw Θ p e R s m args below meth c A Q nL k n (pc + 3) lv st ws) : sw Θ p e R s m args below meth c A Q nL k n pc lv (.int x :: st) ws := by
  intro H locs ls hP hD hS hl
  exact lv_if_lt G.1 G.2.1 hd ht (fun h => kt h H locs ls hP hD hS hl) (fun h => kf h H locs ls hP hD hS hl)
theorem sw_Ieq (pc tgt : Nat) (G : okG Θ p s m args c A nL cc own Ts) {off : Int} {x y : Int32} {lv : List (Nat × Value)} {st : List Value} {ws : va_W} (hd : decode cc pc = .ok (.if_icmp .eq off, 3)) (ht : (pc : Int) + off = (tgt : Int)) (kt : x = y → sw Θ p e R s m args below meth c A Q nL k n tgt lv st ws) (kf : ¬ x = y → sw Θ p e R s m args below meth c A Q nL k n (pc + 3) lv st ws) : sw Θ p e R s m args below meth c A Q nL k n pc lv (.int y :: .int x :: st) ws := by
  intro H locs ls hP hD hS hl
  exact lv_icmp_eq G.1 G.2.1 hd ht (fun h => kt h H locs ls hP hD hS hl) (fun h => kf h H locs ls hP hD hS hl)
theorem sw_Ige (pc tgt : Nat) (G : okG Θ p s m args c A nL cc own Ts) {off : Int} {x y : Int32} {lv : List (Nat × Value)} {st : List Value} {ws : va_W} (hd : decode cc pc = .ok (.if_icmp .ge off, 3)) (ht : (pc : Int) + off = (tgt : Int)) (kt : y ≤ x → sw Θ p e R s m args below meth c A Q nL k n tgt lv st ws) (kf : ¬ y ≤ x → sw Θ p e R s m args below meth c A Q nL k n (pc + 3) lv st ws) : sw Θ p e R s m args below meth c A Q nL k n pc lv (.int y :: .int x :: st) ws := by
  intro H locs ls hP hD hS hl
  exact lv_icmp_ge G.1 G.2.1 hd ht (fun h => kt h H locs ls hP hD hS hl) (fun h => kf h H locs ls hP hD hS hl)
theorem sw_Ilt (pc tgt : Nat) (G : okG Θ p s m args c A nL cc own Ts) {off : Int} {x y : Int32} {lv : List (Nat × Value)} {st : List Value} {ws : va_W} (hd : decode cc pc = .ok (.if_icmp .lt off, 3)) (ht : (pc : Int) + off = (tgt : Int)) (kt : x < y → sw Θ p e R s m args below meth c A Q nL k n tgt lv st ws) (kf : ¬ x < y → sw Θ p e R s m args below meth c A Q nL k n (pc + 3) lv st ws) : sw Θ p e R s m args below meth c A Q nL k n pc lv (.int y :: .int x :: st) ws := by
  intro H locs ls hP hD hS hl
  exact lv_icmp_lt G.1 G.2.1 hd ht (fun h => kt h H locs ls hP hD hS hl) (fun h => kf h H locs ls hP hD hS hl)
theorem sw_Ine (pc tgt : Nat) (G : okG Θ p s m args c A nL cc own Ts) {off : Int} {x y : Int32} {lv : List (Nat × Value)} {st : List Value} {ws : va_W} (hd : decode cc pc = .ok (.if_icmp .ne off, 3)) (ht : (pc : Int) + off = (tgt : Int)) (kt : ¬ x = y → sw Θ p e R s m args below meth c A Q nL k n tgt lv st ws) (kf : x = y → sw Θ p e R s m args below meth c A Q nL k n (pc + 3) lv st ws) : sw Θ p e R s m args below meth c A Q nL k n pc lv (.int y :: .int x :: st) ws := by
  intro H locs ls hP hD hS hl
  exact lv_icmp_ne G.1 G.2.1 hd ht (fun h => kt h H locs ls hP hD hS hl) (fun h => kf h H locs ls hP hD hS hl)
end SW5
