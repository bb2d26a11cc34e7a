theorem lk_699480a8 : Cond.selects RX0 yX0_isWord yX0_isWord ∈ GW := GW_of 18 (by decide +kernel) (by decide +kernel)
theorem lk_9b5621bf : Cond.initialized yX0_nameOf.cls ∈ GW := GW_of 88 (by decide +kernel) (by decide +kernel)
theorem lk_42356d0c : Cond.initialized RJ0 ∈ GW := GW_of 99 (by decide +kernel) (by decide +kernel)
theorem lk_a8ddde0b : Cond.initialized yJ0_checkIndex_df160.cls ∈ GW := GW_of 99 (by decide +kernel) (by decide +kernel)
theorem lk_49552000 : Cond.initialized yJ1_charAt_3b067.cls ∈ GW := GW_of 100 (by decide +kernel) (by decide +kernel)
theorem lk_08397399 : Cond.initialized yJ3_checkIndex_8e157.cls ∈ GW := GW_of 101 (by decide +kernel) (by decide +kernel)
theorem lk_9e1c7edb : Cond.methodLink RX0 61 yX0_nameOf ∈ GW := GW_of 600 (by decide +kernel) (by decide +kernel)
theorem lk_a986966b : Cond.static yX0_nameOf ∈ GW := GW_of 601 (by decide +kernel) (by decide +kernel)
theorem lk_9b325589 : Cond.code yX0_nameOf cX0_nameOf 1 (some (.object "java/lang/String")) ∈ GW := GW_of 602 (by decide +kernel) (by decide +kernel)
theorem lk_15403c72 : Cond.methodLink RX0 65 yX0_isWord ∈ GW := GW_of 613 (by decide +kernel) (by decide +kernel)
theorem lk_6fee9db2 : Cond.instanceMethod yX0_isWord ∈ GW := GW_of 615 (by decide +kernel) (by decide +kernel)
theorem lk_bbe00e27 : Cond.code yX0_isWord cX0_isWord 5 (some .boolean) ∈ GW := GW_of 616 (by decide +kernel) (by decide +kernel)
theorem lk_a99ab0a8 : Cond.methodLink RX0 69 yJ0_length_8abf5 ∈ GW := GW_of 617 (by decide +kernel) (by decide +kernel)
theorem lk_d6a1d8c3 : Cond.instanceMethod yJ0_length_8abf5 ∈ GW := GW_of 618 (by decide +kernel) (by decide +kernel)
theorem lk_0608aaf0 : Cond.selects RJ0 yJ0_length_8abf5 yJ0_length_8abf5 ∈ GW := GW_of 619 (by decide +kernel) (by decide +kernel)
theorem lk_13e1fe3f : Cond.code yJ0_length_8abf5 cJ0_length_8abf5 1 (some .int) ∈ GW := GW_of 620 (by decide +kernel) (by decide +kernel)
theorem lk_070bdb5a : Cond.methodLink RJ0 335 yJ0_coder_7d493 ∈ GW := GW_of 621 (by decide +kernel) (by decide +kernel)
theorem lk_09341180 : Cond.instanceMethod yJ0_coder_7d493 ∈ GW := GW_of 622 (by decide +kernel) (by decide +kernel)
theorem lk_16150090 : Cond.selects RJ0 yJ0_coder_7d493 yJ0_coder_7d493 ∈ GW := GW_of 623 (by decide +kernel) (by decide +kernel)
theorem lk_d594614d : Cond.code yJ0_coder_7d493 cJ0_coder_7d493 1 (some .byte) ∈ GW := GW_of 624 (by decide +kernel) (by decide +kernel)
theorem lk_aa9e9e2e : Cond.fieldLink RJ0 38 "java/lang/String" "COMPACT_STRINGS" "Z" ∈ GW := GW_of 625 (by decide +kernel) (by decide +kernel)
theorem lk_e75e605d : Cond.methodLink RX0 73 yJ0_charAt_5068e ∈ GW := GW_of 627 (by decide +kernel) (by decide +kernel)
theorem lk_42fd42f1 : Cond.instanceMethod yJ0_charAt_5068e ∈ GW := GW_of 628 (by decide +kernel) (by decide +kernel)
theorem lk_4156266c : Cond.selects RJ0 yJ0_charAt_5068e yJ0_charAt_5068e ∈ GW := GW_of 629 (by decide +kernel) (by decide +kernel)
theorem lk_38c7e2c1 : Cond.code yJ0_charAt_5068e cJ0_charAt_5068e 2 (some .char) ∈ GW := GW_of 630 (by decide +kernel) (by decide +kernel)
theorem lk_cc9e28d2 : Cond.methodLink RJ0 492 yJ0_isLatin1_aae02 ∈ GW := GW_of 631 (by decide +kernel) (by decide +kernel)
theorem lk_d286286a : Cond.instanceMethod yJ0_isLatin1_aae02 ∈ GW := GW_of 632 (by decide +kernel) (by decide +kernel)
theorem lk_ee0b7ded : Cond.selects RJ0 yJ0_isLatin1_aae02 yJ0_isLatin1_aae02 ∈ GW := GW_of 633 (by decide +kernel) (by decide +kernel)
theorem lk_9ae97218 : Cond.code yJ0_isLatin1_aae02 cJ0_isLatin1_aae02 1 (some .boolean) ∈ GW := GW_of 634 (by decide +kernel) (by decide +kernel)
theorem lk_3aaa1cd3 : Cond.methodLink RJ0 495 yJ1_charAt_3b067 ∈ GW := GW_of 635 (by decide +kernel) (by decide +kernel)
theorem lk_0843b919 : Cond.static yJ1_charAt_3b067 ∈ GW := GW_of 636 (by decide +kernel) (by decide +kernel)
theorem lk_60a9de1f : Cond.code yJ1_charAt_3b067 cJ1_charAt_3b067 2 (some .char) ∈ GW := GW_of 637 (by decide +kernel) (by decide +kernel)
theorem lk_73bb8fd9 : Cond.methodLink RJ1 9 yJ0_checkIndex_df160 ∈ GW := GW_of 638 (by decide +kernel) (by decide +kernel)
theorem lk_de61e6ea : Cond.static yJ0_checkIndex_df160 ∈ GW := GW_of 639 (by decide +kernel) (by decide +kernel)
theorem lk_471107bd : Cond.code yJ0_checkIndex_df160 cJ0_checkIndex_df160 2 none ∈ GW := GW_of 640 (by decide +kernel) (by decide +kernel)
theorem lk_948fd561 : Cond.fieldLink RJ0 1053 "jdk/internal/util/Preconditions" "SIOOBE_FORMATTER" "Ljava/util/function/BiFunction;" ∈ GW := GW_of 641 (by decide +kernel) (by decide +kernel)
theorem lk_6c487e87 : Cond.methodLink RJ0 1059 yJ3_checkIndex_8e157 ∈ GW := GW_of 643 (by decide +kernel) (by decide +kernel)
theorem lk_d971544e : Cond.static yJ3_checkIndex_8e157 ∈ GW := GW_of 644 (by decide +kernel) (by decide +kernel)
theorem lk_d1a29281 : Cond.code yJ3_checkIndex_8e157 cJ3_checkIndex_8e157 3 (some .int) ∈ GW := GW_of 645 (by decide +kernel) (by decide +kernel)
theorem lk_c1e2a654 : Cond.fieldLink RJ0 9 "java/lang/String" "value" "[B" ∈ GW := GW_of 1517 (by decide +kernel) (by decide +kernel)
theorem lk_e5e4c2c3 : Cond.fieldLink RJ0 15 "java/lang/String" "coder" "B" ∈ GW := GW_of 1518 (by decide +kernel) (by decide +kernel)
section SW5
variable {Θ : Tht} {K : (Nat → Nat) × (Nat → Nat)} {p : Program} {e : Env} {R : Room} {s : State} {m : MethodId} {args : Array Value} {below : List Frame} {meth : Method} {c : Code} {A : Nat → Prop} {Q : State → Prop} {nL k n : Nat} {cc : ByteArray} {own : String} {Ts : List Cond}
theorem sw_Beq (pc tgt : Nat) (G : okG Θ p s m args c A nL cc own Ts) {off : Int} {x : Int32} {lv : List (Nat × Value)} {st : List Value} {ws : va_W} (hd : decode cc pc = .ok (.ifCond .eq off, 3)) (ht : (pc : Int) + off = (tgt : Int)) (kt : x = 0 → sw Θ p e R s m args below meth c A Q nL k n tgt lv st ws) (kf : ¬ x = 0 → sw Θ p e R s m args below meth c A Q nL k n (pc + 3) lv st ws) : sw Θ p e R s m args below meth c A Q nL k n pc lv (.int x :: st) ws := by
  intro H locs ls hP hD hS hl
  exact lv_if_eq G.1 G.2.1 hd ht (fun h => kt h H locs ls hP hD hS hl) (fun h => kf h H locs ls hP hD hS hl)
theorem sw_Bne (pc tgt : Nat) (G : okG Θ p s m args c A nL cc own Ts) {off : Int} {x : Int32} {lv : List (Nat × Value)} {st : List Value} {ws : va_W} (hd : decode cc pc = .ok (.ifCond .ne off, 3)) (ht : (pc : Int) + off = (tgt : Int)) (kt : ¬ x = 0 → sw Θ p e R s m args below meth c A Q nL k n tgt lv st ws) (kf : x = 0 → sw Θ p e R s m args below meth c A Q nL k n (pc + 3) lv st ws) : sw Θ p e R s m args below meth c A Q nL k n pc lv (.int x :: st) ws := by
  intro H locs ls hP hD hS hl
  exact lv_if_ne G.1 G.2.1 hd ht (fun h => kt h H locs ls hP hD hS hl) (fun h => kf h H locs ls hP hD hS hl)
theorem sw_Blt (pc tgt : Nat) (G : okG Θ p s m args c A nL cc own Ts) {off : Int} {x : Int32} {lv : List (Nat × Value)} {st : List Value} {ws : va_W} (hd : decode cc pc = .ok (.ifCond .lt off, 3)) (ht : (pc : Int) + off = (tgt : Int)) (kt : x < 0 → sw Θ p e R s m args below meth c A Q nL k n tgt lv st ws) (kf : ¬ x < 0 → sw Θ p e R s m args below meth c A Q nL k n (pc + 3) lv st ws) : sw Θ p e R s m args below meth c A Q nL k n pc lv (.int x :: st) ws := by
  intro H locs ls hP hD hS hl
  exact lv_if_lt G.1 G.2.1 hd ht (fun h => kt h H locs ls hP hD hS hl) (fun h => kf h H locs ls hP hD hS hl)
theorem sw_Ieq (pc tgt : Nat) (G : okG Θ p s m args c A nL cc own Ts) {off : Int} {x y : Int32} {lv : List (Nat × Value)} {st : List Value} {ws : va_W} (hd : decode cc pc = .ok (.if_icmp .eq off, 3)) (ht : (pc : Int) + off = (tgt : Int)) (kt : x = y → sw Θ p e R s m args below meth c A Q nL k n tgt lv st ws) (kf : ¬ x = y → sw Θ p e R s m args below meth c A Q nL k n (pc + 3) lv st ws) : sw Θ p e R s m args below meth c A Q nL k n pc lv (.int y :: .int x :: st) ws := by
  intro H locs ls hP hD hS hl
  exact lv_icmp_eq G.1 G.2.1 hd ht (fun h => kt h H locs ls hP hD hS hl) (fun h => kf h H locs ls hP hD hS hl)
theorem sw_Ige (pc tgt : Nat) (G : okG Θ p s m args c A nL cc own Ts) {off : Int} {x y : Int32} {lv : List (Nat × Value)} {st : List Value} {ws : va_W} (hd : decode cc pc = .ok (.if_icmp .ge off, 3)) (ht : (pc : Int) + off = (tgt : Int)) (kt : y ≤ x → sw Θ p e R s m args below meth c A Q nL k n tgt lv st ws) (kf : ¬ y ≤ x → sw Θ p e R s m args below meth c A Q nL k n (pc + 3) lv st ws) : sw Θ p e R s m args below meth c A Q nL k n pc lv (.int y :: .int x :: st) ws := by
  intro H locs ls hP hD hS hl
  exact lv_icmp_ge G.1 G.2.1 hd ht (fun h => kt h H locs ls hP hD hS hl) (fun h => kf h H locs ls hP hD hS hl)
theorem sw_Ilt (pc tgt : Nat) (G : okG Θ p s m args c A nL cc own Ts) {off : Int} {x y : Int32} {lv : List (Nat × Value)} {st : List Value} {ws : va_W} (hd : decode cc pc = .ok (.if_icmp .lt off, 3)) (ht : (pc : Int) + off = (tgt : Int)) (kt : x < y → sw Θ p e R s m args below meth c A Q nL k n tgt lv st ws) (kf : ¬ x < y → sw Θ p e R s m args below meth c A Q nL k n (pc + 3) lv st ws) : sw Θ p e R s m args below meth c A Q nL k n pc lv (.int y :: .int x :: st) ws := by
  intro H locs ls hP hD hS hl
  exact lv_icmp_lt G.1 G.2.1 hd ht (fun h => kt h H locs ls hP hD hS hl) (fun h => kf h H locs ls hP hD hS hl)
theorem sw_Ine (pc tgt : Nat) (G : okG Θ p s m args c A nL cc own Ts) {off : Int} {x y : Int32} {lv : List (Nat × Value)} {st : List Value} {ws : va_W} (hd : decode cc pc = .ok (.if_icmp .ne off, 3)) (ht : (pc : Int) + off = (tgt : Int)) (kt : ¬ x = y → sw Θ p e R s m args below meth c A Q nL k n tgt lv st ws) (kf : x = y → sw Θ p e R s m args below meth c A Q nL k n (pc + 3) lv st ws) : sw Θ p e R s m args below meth c A Q nL k n pc lv (.int y :: .int x :: st) ws := by
  intro H locs ls hP hD hS hl
  exact lv_icmp_ne G.1 G.2.1 hd ht (fun h => kt h H locs ls hP hD hS hl) (fun h => kf h H locs ls hP hD hS hl)
theorem sw_getZ (pc : Nat) (G : okG Θ p s m args c A nL cc own Ts) {C n0 d0 : String} {ix : Nat} {v : Value} {lv : List (Nat × Value)} {st : List Value} {ws : va_W} (hZ : va_Z C n0 d0 v A s s.heap) (hlink : Cond.fieldLink own ix C n0 d0 ∈ Ts) (hd : decode cc pc = .ok (.getstatic ix, 3)) (kk : sw Θ p e R s m args below meth c A Q nL k n (pc + 3) lv (v :: st) ws) : sw Θ p e R s m args below meth c A Q nL k n pc lv st ws := by
  intro H locs ls hP hD hS hl
  exact va_gets G.1 G.2.1 hZ hS G.2.2.2.1 (G.2.2.2.2.1 _ hlink) (fun _ h => h) hd (kk H locs ls hP hD hS hl)
theorem sw_getOF (pc : Nat) (G : okG Θ p s m args c A nL cc own Ts) {C n0 d0 : String} {ix q : Nat} {v : Value} {lv : List (Nat × Value)} {st : List Value} {ws : va_W} (hZ : va_OF C n0 d0 v q A s s.heap) (hlink : Cond.fieldLink own ix C n0 d0 ∈ Ts) (hd : decode cc pc = .ok (.getfield ix, 3)) (kk : sw Θ p e R s m args below meth c A Q nL k n (pc + 3) lv (v :: st) ws) : sw Θ p e R s m args below meth c A Q nL k n pc lv (.ref q :: st) ws := by
  intro H locs ls hP hD hS hl
  exact vk_getf G.1 G.2.1 hZ hS G.2.2.2.1 (G.2.2.2.2.1 _ hlink) (fun _ h => h) hd (kk H locs ls hP hD hS hl)
theorem sw_tlen (pc : Nat) (G : okG Θ p s m args c A nL cc own Ts) {ty : FieldType} {t N : Nat} {f : Nat → Value} {lv : List (Nat × Value)} {st : List Value} {ws : va_W} (hT : va_T ty t N f A s s.heap) (hd : decode cc pc = .ok (.arraylength, 1)) (kk : sw Θ p e R s m args below meth c A Q nL k n (pc + 1) lv (.int (nI N) :: st) ws) : sw Θ p e R s m args below meth c A Q nL k n pc lv (.ref t :: st) ws := by
  intro H locs ls hP hD hS hl
  exact va_tlen G.1 G.2.1 hT hS rfl hd (kk H locs ls hP hD hS hl)
theorem sw_tb (pc : Nat) (G : okG Θ p s m args c A nL cc own Ts) {t N : Nat} {f : Nat → Value} {i : Int32} {v : Value} {lv : List (Nat × Value)} {st : List Value} {ws : va_W} (hT : va_T .byte t N f A s s.heap) (hin : vp_in i N) (hv : f i.toNatClampNeg = v) (hd : decode cc pc = .ok (.baload, 1)) (kk : sw Θ p e R s m args below meth c A Q nL k n (pc + 1) lv (v :: st) ws) : sw Θ p e R s m args below meth c A Q nL k n pc lv (.int i :: .ref t :: st) ws := by
  intro H locs ls hP hD hS hl
  exact va_tb G.1 G.2.1 hT hS hin hv hd (kk H locs ls hP hD hS hl)
theorem sw_i2c (pc : Nat) (G : okG Θ p s m args c A nL cc own Ts) {x v : Int32} {lv : List (Nat × Value)} {st : List Value} {ws : va_W} (hd : decode cc pc = .ok (.i2c, 1)) (hv : (x.toUInt32 % 65536).toInt32 = v) (kk : sw Θ p e R s m args below meth c A Q nL k n (pc + 1) lv (.int v :: st) ws) : sw Θ p e R s m args below meth c A Q nL k n pc lv (.int x :: st) ws := by
  intro H locs ls hP hD hS hl
  exact lv_i2c G.1 G.2.1 hd hv (kk H locs ls hP hD hS hl)
theorem sw_nret (pc : Nat) (G : okG Θ p s m args c A nL cc own Ts) {w0 w1 : va_W} {v : Int32} {ty : FieldType} {lv : List (Nat × Value)} (hd : decode cc pc = .ok (.ireturn, 1)) (KK : okR Θ R s args below meth A Q w0 w1 (some (.int v)) (some ty)) (hv : narrow ty (.int v) = .int v) : sw Θ p e R s m args below meth c A Q nL 0 0 pc lv [.int v] w1 := by
  intro H locs ls hP hD hS hl
  obtain ⟨rfl, rfl, hr, hlk⟩ := KK
  exact W.zret G.1 G.2.1 hr hv (fun t ht hW => ⟨rfl, by rw [ht]; exact hP, hD, hS.F ht⟩) hS.2.2 hd hlk
theorem sw_ldcS (pc : Nat) (G : okG Θ p s m args c A nL cc own Ts) {ix q : Nat} {tx : String} {lv : List (Nat × Value)} {st : List Value} {ws : va_W} (hZ : vk_R own ix tx q s) (hd : decode cc pc = .ok (.ldc ix, 2)) (kk : sw Θ p e R s m args below meth c A Q nL k n (pc + 2) lv (.ref q :: st) ws) : sw Θ p e R s m args below meth c A Q nL k n pc lv st ws := by
  intro H locs ls hP hD hS hl
  exact va_ldcS G.1 G.2.1 G.2.2.2.1 hZ hd (kk H locs ls hP hD hS hl)
theorem sw_tin (pc tgt : Nat) (G : okG Θ p s m args c A nL cc own Ts) {dflt lo hi off : Int} {offs : Array Int} {len : Nat} {x : Int32} {lv : List (Nat × Value)} {st : List Value} {ws : va_W} (hd : decode cc pc = .ok (.tableswitch dflt lo hi offs, len)) (h1 : ¬ x.toInt < lo) (h2 : ¬ hi < x.toInt) (ho : offs[(x.toInt - lo).toNat]? = some off) (ht : (pc : Int) + off = (tgt : Int)) (kk : sw Θ p e R s m args below meth c A Q nL k n tgt lv st ws) : sw Θ p e R s m args below meth c A Q nL k n pc lv (.int x :: st) ws := by
  intro H locs ls hP hD hS hl
  exact lv_tableIn G.1 G.2.1 hd h1 h2 ho ht (kk H locs ls hP hD hS hl)
theorem Ev.recv {i : Nat} (hi : i < 9) {B : Nat → Prop} {H : Heap} (h : Ev K B s H) : ∃ cellB : Cell, H[K.1 i]? = some cellB ∧ cellB.vm.isStatics = false ∧ s.vm.findClass RJ0 = some cellB.cls := by
  obtain ⟨cell, a, b, d, -⟩ := (h.2.2.2.2.1 i hi).1
  exact ⟨cell, a, b, d⟩
end SW5
theorem FC.nil {Θ : Tht} {K : (Nat → Nat) × (Nat → Nat)} {mc ms : Nat} {y : MethodName} {wsY : List Cond} {rm : Room} {as : List Value} {o : Option Value} (h : FC Θ K mc ms y wsY rm as [] o []) (ws : va_W) : FC Θ K mc ms y wsY rm as ws o ws := FC.tail ws h
theorem wn_sh : ∀ i, i < 9 → nI (wnm i).length >>> ((0 : Int32) &&& 31) = nI (wnm i).length := by decide +kernel
theorem wn_ch : ∀ x, x < 128 → ((nI x &&& (255 : Int32)).toUInt32 % 65536).toInt32 = nI x := by decide +kernel
theorem nar_char (x : Int32) : narrow .char (.int x) = .int (x.toUInt32 % 65536).toInt32 := rfl
theorem wn_nar : ∀ x, x < 128 → ((nI x).toUInt32 % 65536).toInt32 = nI x := by decide +kernel
abbrev rmJ0_coder_7d493 : Room := { frames := 0, cells := 0, slots := 0, locals := 0 }
abbrev rmJ0_length_8abf5 : Room := { frames := 1, cells := 0, slots := 0, locals := 20 }
abbrev rmJ0_isLatin1_aae02 : Room := { frames := 0, cells := 0, slots := 0, locals := 0 }
abbrev rmJ3_checkIndex_8e157 : Room := { frames := 0, cells := 0, slots := 0, locals := 0 }
abbrev rmJ0_checkIndex_df160 : Room := { frames := 1, cells := 0, slots := 0, locals := 22 }
abbrev rmJ1_charAt_3b067 : Room := { frames := 2, cells := 0, slots := 0, locals := 43 }
abbrev rmJ0_charAt_5068e : Room := { frames := 3, cells := 0, slots := 0, locals := 64 }
abbrev rmX0_nameOf : Room := { frames := 0, cells := 0, slots := 0, locals := 0 }
abbrev rmX0_isWord : Room := { frames := 4, cells := 0, slots := 0, locals := 90 }
abbrev rmX0_findWord : Room := { frames := 8, cells := 0, slots := 0, locals := 160 }
theorem hvJ0_coder_7d493 : yJ0_coder_7d493.cls = RJ0 ∧ yJ0_coder_7d493.cls ≠ "java/lang/invoke/MethodHandle" ∧ yJ0_coder_7d493.cls ≠ "java/lang/invoke/VarHandle" ∧ (parseMethodDescriptor yJ0_coder_7d493.desc).map (fun d => d.parameters.length) = some 0 := by decide +kernel
theorem hvJ0_length_8abf5 : yJ0_length_8abf5.cls = RJ0 ∧ yJ0_length_8abf5.cls ≠ "java/lang/invoke/MethodHandle" ∧ yJ0_length_8abf5.cls ≠ "java/lang/invoke/VarHandle" ∧ (parseMethodDescriptor yJ0_length_8abf5.desc).map (fun d => d.parameters.length) = some 0 := by decide +kernel
theorem hvJ0_isLatin1_aae02 : yJ0_isLatin1_aae02.cls = RJ0 ∧ yJ0_isLatin1_aae02.cls ≠ "java/lang/invoke/MethodHandle" ∧ yJ0_isLatin1_aae02.cls ≠ "java/lang/invoke/VarHandle" ∧ (parseMethodDescriptor yJ0_isLatin1_aae02.desc).map (fun d => d.parameters.length) = some 0 := by decide +kernel
theorem hvJ0_charAt_5068e : yJ0_charAt_5068e.cls = RJ0 ∧ yJ0_charAt_5068e.cls ≠ "java/lang/invoke/MethodHandle" ∧ yJ0_charAt_5068e.cls ≠ "java/lang/invoke/VarHandle" ∧ (parseMethodDescriptor yJ0_charAt_5068e.desc).map (fun d => d.parameters.length) = some 1 := by decide +kernel
theorem hvX0_isWord : yX0_isWord.cls = RX0 ∧ yX0_isWord.cls ≠ "java/lang/invoke/MethodHandle" ∧ yX0_isWord.cls ≠ "java/lang/invoke/VarHandle" ∧ (parseMethodDescriptor yX0_isWord.desc).map (fun d => d.parameters.length) = some 3 := by decide +kernel
theorem hvX0_findWord : yX0_findWord.cls = RX0 ∧ yX0_findWord.cls ≠ "java/lang/invoke/MethodHandle" ∧ yX0_findWord.cls ≠ "java/lang/invoke/VarHandle" ∧ (parseMethodDescriptor yX0_findWord.desc).map (fun d => d.parameters.length) = some 2 := by decide +kernel
theorem hsJ3_checkIndex_8e157 : yJ3_checkIndex_8e157.cls ≠ "java/lang/invoke/MethodHandle" ∧ yJ3_checkIndex_8e157.cls ≠ "java/lang/invoke/VarHandle" ∧ (parseMethodDescriptor yJ3_checkIndex_8e157.desc).map (fun d => d.parameters.length) = some 3 := by decide +kernel
theorem hsJ0_checkIndex_df160 : yJ0_checkIndex_df160.cls ≠ "java/lang/invoke/MethodHandle" ∧ yJ0_checkIndex_df160.cls ≠ "java/lang/invoke/VarHandle" ∧ (parseMethodDescriptor yJ0_checkIndex_df160.desc).map (fun d => d.parameters.length) = some 2 := by decide +kernel
theorem hsJ1_charAt_3b067 : yJ1_charAt_3b067.cls ≠ "java/lang/invoke/MethodHandle" ∧ yJ1_charAt_3b067.cls ≠ "java/lang/invoke/VarHandle" ∧ (parseMethodDescriptor yJ1_charAt_3b067.desc).map (fun d => d.parameters.length) = some 2 := by decide +kernel
theorem hsX0_nameOf : yX0_nameOf.cls ≠ "java/lang/invoke/MethodHandle" ∧ yX0_nameOf.cls ≠ "java/lang/invoke/VarHandle" ∧ (parseMethodDescriptor yX0_nameOf.desc).map (fun d => d.parameters.length) = some 1 := by decide +kernel
set_option maxRecDepth 100000 in
set_option maxHeartbeats 4000000 in
theorem kJ0_coder_7d493 (Θ : Tht) (K : (Nat → Nat) × (Nat → Nat)) {i : Nat} (hi : i < 9) : FC Θ K 0 0 yJ0_coder_7d493 (Cond.code yJ0_coder_7d493 cJ0_coder_7d493 1 (some .byte) :: GW) rmJ0_coder_7d493 [.ref (K.1 i)] [] (some (.int 0)) [] := by
  refine FC.of (by decide +kernel) rfl (Nat.le_of_ble_eq_true rfl) (fun p e s m args below meth c A Q G KK E => ?_)
  show sw Θ p e rmJ0_coder_7d493 s m args below meth c A Q 1 0 0 0 [(0, .ref (K.1 i))] [] []
  refine sw_getZ 0 G E.1 (List.mem_cons_of_mem _ lk_aa9e9e2e) dJ0_coder_7d493_0 ?_
  refine sw_Beq 3 13 G dJ0_coder_7d493_3 rfl (fun h => absurd h (by decide)) (fun _ => ?_)
  refine sw_aload_n 6 G dJ0_coder_7d493_6 0 rfl ?_
  refine sw_getOF 7 G (E.2.2.2.2.1 i hi).2.1 (List.mem_cons_of_mem _ lk_e5e4c2c3) dJ0_coder_7d493_7 ?_
  refine sw_goto 10 G 14 dJ0_coder_7d493_10 rfl ?_
  exact sw_nret 14 G dJ0_coder_7d493_14 KK rfl
set_option maxRecDepth 100000 in
set_option maxHeartbeats 4000000 in
theorem kJ0_length_8abf5 (Θ : Tht) (K : (Nat → Nat) × (Nat → Nat)) {i : Nat} (hi : i < 9) : FC Θ K 0 0 yJ0_length_8abf5 (Cond.code yJ0_length_8abf5 cJ0_length_8abf5 1 (some .int) :: GW) rmJ0_length_8abf5 [.ref (K.1 i)] [] (some (.int (nI (wnm i).length))) [] := by
  refine FC.of (by decide +kernel) rfl (Nat.le_of_ble_eq_true rfl) (fun p e s m args below meth c A Q G KK E => ?_)
  show sw Θ p e rmJ0_length_8abf5 s m args below meth c A Q 1 0 0 0 [(0, .ref (K.1 i))] [] []
  refine sw_aload_n 0 G dJ0_length_8abf5_0 0 rfl ?_
  refine sw_getOF 1 G (E.2.2.2.2.1 i hi).2.2.1 (List.mem_cons_of_mem _ lk_c1e2a654) dJ0_length_8abf5_1 ?_
  refine sw_tlen 4 G (E.2.2.2.2.1 i hi).2.2.2 dJ0_length_8abf5_4 ?_
  refine sw_aload_n 5 G dJ0_length_8abf5_5 0 rfl ?_
  refine sw_callVR 6 G E 0 dJ0_length_8abf5_6 (kJ0_coder_7d493 Θ K hi) (gwV lk_070bdb5a lk_09341180 lk_16150090 lk_42356d0c lk_d594614d) rfl hvJ0_coder_7d493 ⟨rfl, rfl⟩ ⟨Nat.le_of_ble_eq_true rfl, Nat.le_of_ble_eq_true rfl⟩ ⟨Nat.zero_le _, Nat.zero_le _⟩ rfl rfl (Nat.le_of_ble_eq_true rfl) (fun H _ hE => hE.recv hi) ?_
  refine sw_ishr 9 G dJ0_length_8abf5_9 ?_
  rw [wn_sh i hi]
  exact sw_iret 10 G dJ0_length_8abf5_10 KK
set_option maxRecDepth 100000 in
set_option maxHeartbeats 4000000 in
theorem kJ0_isLatin1_aae02 (Θ : Tht) (K : (Nat → Nat) × (Nat → Nat)) {i : Nat} (hi : i < 9) : FC Θ K 0 0 yJ0_isLatin1_aae02 (Cond.code yJ0_isLatin1_aae02 cJ0_isLatin1_aae02 1 (some .boolean) :: GW) rmJ0_isLatin1_aae02 [.ref (K.1 i)] [] (some (.int 1)) [] := by
  refine FC.of (by decide +kernel) rfl (Nat.le_of_ble_eq_true rfl) (fun p e s m args below meth c A Q G KK E => ?_)
  show sw Θ p e rmJ0_isLatin1_aae02 s m args below meth c A Q 1 0 0 0 [(0, .ref (K.1 i))] [] []
  refine sw_getZ 0 G E.1 (List.mem_cons_of_mem _ lk_aa9e9e2e) dJ0_isLatin1_aae02_0 ?_
  refine sw_Beq 3 17 G dJ0_isLatin1_aae02_3 rfl (fun h => absurd h (by decide)) (fun _ => ?_)
  refine sw_aload_n 6 G dJ0_isLatin1_aae02_6 0 rfl ?_
  refine sw_getOF 7 G (E.2.2.2.2.1 i hi).2.1 (List.mem_cons_of_mem _ lk_e5e4c2c3) dJ0_isLatin1_aae02_7 ?_
  refine sw_Bne 10 17 G dJ0_isLatin1_aae02_10 rfl (fun h => absurd rfl h) (fun _ => ?_)
  refine sw_iconst 13 G (1 : Int32) dJ0_isLatin1_aae02_13 rfl ?_
  refine sw_goto 14 G 18 dJ0_isLatin1_aae02_14 rfl ?_
  exact sw_zret 18 G dJ0_isLatin1_aae02_18 KK rfl
set_option maxRecDepth 100000 in
set_option maxHeartbeats 4000000 in
theorem kJ3_checkIndex_8e157 (Θ : Tht) (K : (Nat → Nat) × (Nat → Nat)) {j N : Nat} (hj : j < N) (hN : N < 2 ^ 31) (v : Value) (hcat : v = .null ∨ ∃ q, v = .ref q) : FC Θ K 0 0 yJ3_checkIndex_8e157 (Cond.code yJ3_checkIndex_8e157 cJ3_checkIndex_8e157 3 (some .int) :: GW) rmJ3_checkIndex_8e157 [.int (nI j), .int (nI N), v] [] (some (.int (nI j))) [] := by
  have hlen : (lg_sl [.int (nI j), .int (nI N), v]).length ≤ 3 := by rcases hcat with rfl | ⟨q, rfl⟩ <;> exact Nat.le_of_ble_eq_true rfl
  refine FC.of (by decide +kernel) rfl hlen (fun p e s m args below meth c A Q G KK E => ?_)
  have body : sw Θ p e rmJ3_checkIndex_8e157 s m args below meth c A Q 3 0 0 0 [(0, .int (nI j)), (1, .int (nI N))] [] [] := by
    refine sw_iload_n 0 G dJ3_checkIndex_8e157_0 0 rfl ?_
    refine sw_Blt 1 9 G dJ3_checkIndex_8e157_1 rfl (fun h => absurd h (nI_pos (by omega))) (fun _ => ?_)
    refine sw_iload_n 4 G dJ3_checkIndex_8e157_4 0 rfl ?_
    refine sw_iload_n 5 G dJ3_checkIndex_8e157_5 1 rfl ?_
    refine sw_Ilt 6 16 G dJ3_checkIndex_8e157_6 rfl (fun _ => ?_) (fun h => absurd (nI_lt hj hN) h)
    refine sw_iload_n 16 G dJ3_checkIndex_8e157_16 0 rfl ?_
    exact sw_iret 17 G dJ3_checkIndex_8e157_17 KK
  rcases hcat with rfl | ⟨q, rfl⟩
  · show sw Θ p e rmJ3_checkIndex_8e157 s m args below meth c A Q 3 0 0 0 [(0, .int (nI j)), (1, .int (nI N)), (2, .null)] [] []
    exact sw_lv _ [0, 1] rfl body
  · show sw Θ p e rmJ3_checkIndex_8e157 s m args below meth c A Q 3 0 0 0 [(0, .int (nI j)), (1, .int (nI N)), (2, .ref q)] [] []
    exact sw_lv _ [0, 1] rfl body
set_option maxRecDepth 100000 in
set_option maxHeartbeats 4000000 in
theorem kJ0_checkIndex_df160 (Θ : Tht) (K : (Nat → Nat) × (Nat → Nat)) {j N : Nat} (hj : j < N) (hN : N < 2 ^ 31) : FC Θ K 0 0 yJ0_checkIndex_df160 (Cond.code yJ0_checkIndex_df160 cJ0_checkIndex_df160 2 none :: GW) rmJ0_checkIndex_df160 [.int (nI j), .int (nI N)] [] none [] := by
  refine FC.of (by decide +kernel) rfl (Nat.le_of_ble_eq_true rfl) (fun p e s m args below meth c A Q G KK E => ?_)
  show sw Θ p e rmJ0_checkIndex_df160 s m args below meth c A Q 2 0 0 0 [(0, .int (nI j)), (1, .int (nI N))] [] []
  obtain ⟨v, hv, hZ⟩ : ∃ v : Value, (v = .null ∨ ∃ q, v = .ref q) ∧ va_Z "jdk/internal/util/Preconditions" "SIOOBE_FORMATTER" "Ljava/util/function/BiFunction;" v A s s.heap := by
    rcases E.2.1 with h | ⟨q, h⟩
    · exact ⟨_, Or.inl rfl, h⟩
    · exact ⟨_, Or.inr ⟨q, rfl⟩, h⟩
  refine sw_iload_n 0 G dJ0_checkIndex_df160_0 0 rfl ?_
  refine sw_iload_n 1 G dJ0_checkIndex_df160_1 1 rfl ?_
  refine sw_getZ 2 G hZ (List.mem_cons_of_mem _ lk_948fd561) dJ0_checkIndex_df160_2 ?_
  refine sw_callSA 5 G E 3 dJ0_checkIndex_df160_5 (kJ3_checkIndex_8e157 Θ K hj hN v hv) (gwS lk_6c487e87 lk_d971544e lk_08397399 lk_d1a29281) rfl hsJ3_checkIndex_8e157 ⟨rfl, rfl⟩ ⟨Nat.le_of_ble_eq_true rfl, Nat.le_of_ble_eq_true rfl⟩ ⟨Nat.zero_le _, Nat.zero_le _⟩ rfl rfl (Nat.le_of_ble_eq_true rfl) ?_
  refine sw_pop 8 G dJ0_checkIndex_df160_8 rfl ?_
  exact sw_vret 9 G dJ0_checkIndex_df160_9 KK
set_option maxRecDepth 100000 in
set_option maxHeartbeats 4000000 in
theorem kJ1_charAt_3b067 (Θ : Tht) (K : (Nat → Nat) × (Nat → Nat)) {i j : Nat} (hi : i < 9) (hj : j < (wnm i).length) : FC Θ K 0 0 yJ1_charAt_3b067 (Cond.code yJ1_charAt_3b067 cJ1_charAt_3b067 2 (some .char) :: GW) rmJ1_charAt_3b067 [.ref (K.2 i), .int (nI j)] [] (some (.int (nI ((wnm i).getD j 0)))) [] := by
  obtain ⟨w1, w2, w3⟩ := wnm_ok i hi
  have w4 := (w3 j hj).2
  refine FC.of (by decide +kernel) rfl (Nat.le_of_ble_eq_true rfl) (fun p e s m args below meth c A Q G KK E => ?_)
  show sw Θ p e rmJ1_charAt_3b067 s m args below meth c A Q 2 0 0 0 [(0, .ref (K.2 i)), (1, .int (nI j))] [] []
  refine sw_iload_n 0 G dJ1_charAt_3b067_0 1 rfl ?_
  refine sw_aload_n 1 G dJ1_charAt_3b067_1 0 rfl ?_
  refine sw_tlen 2 G (E.2.2.2.2.1 i hi).2.2.2 dJ1_charAt_3b067_2 ?_
  refine sw_callSA 3 G E 2 dJ1_charAt_3b067_3 (kJ0_checkIndex_df160 Θ K hj (by omega)) (gwS lk_73bb8fd9 lk_de61e6ea lk_a8ddde0b lk_471107bd) rfl hsJ0_checkIndex_df160 ⟨rfl, rfl⟩ ⟨Nat.le_of_ble_eq_true rfl, Nat.le_of_ble_eq_true rfl⟩ ⟨Nat.zero_le _, Nat.zero_le _⟩ rfl rfl (Nat.le_of_ble_eq_true rfl) ?_
  refine sw_aload_n 6 G dJ1_charAt_3b067_6 0 rfl ?_
  refine sw_iload_n 7 G dJ1_charAt_3b067_7 1 rfl ?_
  refine sw_tb 8 G (E.2.2.2.2.1 i hi).2.2.2 (vp_in_nI hj (by omega)) rfl dJ1_charAt_3b067_8 ?_
  refine sw_sipush 9 G (255 : Int32) dJ1_charAt_3b067_9 rfl ?_
  rw [nI_clamp (show j < 2 ^ 31 by omega)]
  refine sw_iand 12 G dJ1_charAt_3b067_12 ?_
  refine sw_i2c 13 G dJ1_charAt_3b067_13 (wn_ch _ (by omega)) ?_
  exact sw_nret 14 G dJ1_charAt_3b067_14 KK (by rw [nar_char, wn_nar _ (by omega)])
set_option maxRecDepth 100000 in
set_option maxHeartbeats 4000000 in
theorem kJ0_charAt_5068e (Θ : Tht) (K : (Nat → Nat) × (Nat → Nat)) {i j : Nat} (hi : i < 9) (hj : j < (wnm i).length) : FC Θ K 0 0 yJ0_charAt_5068e (Cond.code yJ0_charAt_5068e cJ0_charAt_5068e 2 (some .char) :: GW) rmJ0_charAt_5068e [.ref (K.1 i), .int (nI j)] [] (some (.int (nI ((wnm i).getD j 0)))) [] := by
  obtain ⟨w1, w2, w3⟩ := wnm_ok i hi
  have w4 := (w3 j hj).2
  refine FC.of (by decide +kernel) rfl (Nat.le_of_ble_eq_true rfl) (fun p e s m args below meth c A Q G KK E => ?_)
  show sw Θ p e rmJ0_charAt_5068e s m args below meth c A Q 2 0 0 0 [(0, .ref (K.1 i)), (1, .int (nI j))] [] []
  refine sw_aload_n 0 G dJ0_charAt_5068e_0 0 rfl ?_
  refine sw_callVR 1 G E 0 dJ0_charAt_5068e_1 (kJ0_isLatin1_aae02 Θ K hi) (gwV lk_cc9e28d2 lk_d286286a lk_ee0b7ded lk_42356d0c lk_9ae97218) rfl hvJ0_isLatin1_aae02 ⟨rfl, rfl⟩ ⟨Nat.le_of_ble_eq_true rfl, Nat.le_of_ble_eq_true rfl⟩ ⟨Nat.zero_le _, Nat.zero_le _⟩ rfl rfl (Nat.le_of_ble_eq_true rfl) (fun H _ hE => hE.recv hi) ?_
  refine sw_Beq 4 16 G dJ0_charAt_5068e_4 rfl (fun h => absurd h (by decide)) (fun _ => ?_)
  refine sw_aload_n 7 G dJ0_charAt_5068e_7 0 rfl ?_
  refine sw_getOF 8 G (E.2.2.2.2.1 i hi).2.2.1 (List.mem_cons_of_mem _ lk_c1e2a654) dJ0_charAt_5068e_8 ?_
  refine sw_iload_n 11 G dJ0_charAt_5068e_11 1 rfl ?_
  refine sw_callSA 12 G E 2 dJ0_charAt_5068e_12 (kJ1_charAt_3b067 Θ K hi hj) (gwS lk_3aaa1cd3 lk_0843b919 lk_49552000 lk_60a9de1f) rfl hsJ1_charAt_3b067 ⟨rfl, rfl⟩ ⟨Nat.le_of_ble_eq_true rfl, Nat.le_of_ble_eq_true rfl⟩ ⟨Nat.zero_le _, Nat.zero_le _⟩ rfl rfl (Nat.le_of_ble_eq_true rfl) ?_
  exact sw_nret 15 G dJ0_charAt_5068e_15 KK (by rw [nar_char, wn_nar _ (by omega)])
set_option maxRecDepth 100000 in
set_option maxHeartbeats 4000000 in
theorem kX0_nameOf (Θ : Tht) (K : (Nat → Nat) × (Nat → Nat)) {i : Nat} (hi : i < 9) : FC Θ K 0 0 yX0_nameOf (Cond.code yX0_nameOf cX0_nameOf 1 (some (.object "java/lang/String")) :: GW) rmX0_nameOf [.int (nI i)] [] (some (.ref (K.1 i))) [] := by
  refine FC.of (by decide +kernel) rfl (Nat.le_of_ble_eq_true rfl) (fun p e s m args below meth c A Q G KK E => ?_)
  show sw Θ p e rmX0_nameOf s m args below meth c A Q 1 0 0 0 [(0, .int (nI i))] [] []
  refine sw_iload_n 0 G dX0_nameOf_0 0 rfl ?_
  have hc : i = 0 ∨ i = 1 ∨ i = 2 ∨ i = 3 ∨ i = 4 ∨ i = 5 ∨ i = 6 ∨ i = 7 ∨ i = 8 := by omega
  have hR := E.2.2.2.2.2.1
  rcases hc with rfl | rfl | rfl | rfl | rfl | rfl | rfl | rfl | rfl
  · refine sw_tin 1 52 G (off := 51) dX0_nameOf_1 (by decide) (by decide) (by decide) rfl ?_
    refine sw_ldcS 52 G (hR 0 (by omega)) dX0_nameOf_52 ?_
    exact sw_aret 54 G dX0_nameOf_54 KK
  · refine sw_tin 1 55 G (off := 54) dX0_nameOf_1 (by decide) (by decide) (by decide) rfl ?_
    refine sw_ldcS 55 G (hR 1 (by omega)) dX0_nameOf_55 ?_
    exact sw_aret 57 G dX0_nameOf_57 KK
  · refine sw_tin 1 58 G (off := 57) dX0_nameOf_1 (by decide) (by decide) (by decide) rfl ?_
    refine sw_ldcS 58 G (hR 2 (by omega)) dX0_nameOf_58 ?_
    exact sw_aret 60 G dX0_nameOf_60 KK
  · refine sw_tin 1 61 G (off := 60) dX0_nameOf_1 (by decide) (by decide) (by decide) rfl ?_
    refine sw_ldcS 61 G (hR 3 (by omega)) dX0_nameOf_61 ?_
    exact sw_aret 63 G dX0_nameOf_63 KK
  · refine sw_tin 1 64 G (off := 63) dX0_nameOf_1 (by decide) (by decide) (by decide) rfl ?_
    refine sw_ldcS 64 G (hR 4 (by omega)) dX0_nameOf_64 ?_
    exact sw_aret 66 G dX0_nameOf_66 KK
  · refine sw_tin 1 67 G (off := 66) dX0_nameOf_1 (by decide) (by decide) (by decide) rfl ?_
    refine sw_ldcS 67 G (hR 5 (by omega)) dX0_nameOf_67 ?_
    exact sw_aret 69 G dX0_nameOf_69 KK
  · refine sw_tin 1 70 G (off := 69) dX0_nameOf_1 (by decide) (by decide) (by decide) rfl ?_
    refine sw_ldcS 70 G (hR 6 (by omega)) dX0_nameOf_70 ?_
    exact sw_aret 72 G dX0_nameOf_72 KK
  · refine sw_tin 1 73 G (off := 72) dX0_nameOf_1 (by decide) (by decide) (by decide) rfl ?_
    refine sw_ldcS 73 G (hR 7 (by omega)) dX0_nameOf_73 ?_
    exact sw_aret 75 G dX0_nameOf_75 KK
  · refine sw_tin 1 76 G (off := 75) dX0_nameOf_1 (by decide) (by decide) (by decide) rfl ?_
    refine sw_ldcS 76 G (hR 8 (by omega)) dX0_nameOf_76 ?_
    exact sw_aret 78 G dX0_nameOf_78 KK
theorem x0_byV (b : Nat → Int32) (len k : Int32) : fX0_byteAt b len k = some (byV b len k) := by
  unfold fX0_byteAt byV
  by_cases h1 : k < 0
  · rw [if_pos h1, if_pos h1]
  · rw [if_neg h1, if_neg h1]
    by_cases h2 : len ≤ k
    · rw [if_pos h2, if_pos h2]
    · rw [if_neg h2, if_neg h2]
      by_cases h3 : (150 : Int32) ≤ k
      · rw [if_pos h3, if_pos h3]
      · rw [if_neg h3, if_neg h3]
        obtain ⟨j, hj, rfl⟩ := nI_of h1
        rw [gd_nI _ (by omega)]
        rcases Nat.lt_or_ge j 150 with q | q
        · exact q
        · exact absurd (nI_le (a := 150) q hj) h3
set_option maxRecDepth 100000 in
set_option maxHeartbeats 4000000 in
theorem kX0_isWord (Θ : Tht) (K : (Nat → Nat) × (Nat → Nat)) {c0 c1 c2 : Nat} {c_bytes c_numbers : Nat → Int32} {c_length c_at c_word : Int32} {i : Nat} (hi : i < 9) (start letters : Int32) : FC Θ K 0 0 yX0_isWord (Cond.code yX0_isWord cX0_isWord 5 (some .boolean) :: GW) rmX0_isWord [.ref c0, .ref (K.1 i), .int start, .int letters] (wX0 Θ c0 c1 c2 c_bytes c_numbers c_length c_at c_word) (some (.int (bI (isWd c_bytes c_length start letters (wnm i))))) (wX0 Θ c0 c1 c2 c_bytes c_numbers c_length c_at c_word) := by
  obtain ⟨w1, w2, w3⟩ := wnm_ok i hi
  refine FC.of (by decide +kernel) rfl (Nat.le_of_ble_eq_true rfl) (fun p e s m args below meth c A Q G KK E => ?_)
  show sw Θ p e rmX0_isWord s m args below meth c A Q 5 0 0 0 [(0, .ref c0), (1, .ref (K.1 i)), (2, .int start), (3, .int letters)] [] (wX0 Θ c0 c1 c2 c_bytes c_numbers c_length c_at c_word)
  refine sw_aload_n 0 G dX0_isWord_0 1 rfl ?_
  refine sw_callVR 1 G E 0 dX0_isWord_1 (FC.nil (kJ0_length_8abf5 Θ K hi) (wX0 Θ c0 c1 c2 c_bytes c_numbers c_length c_at c_word)) (gwV lk_a99ab0a8 lk_d6a1d8c3 lk_0608aaf0 lk_42356d0c lk_13e1fe3f) rfl hvJ0_length_8abf5 ⟨rfl, rfl⟩ ⟨Nat.le_of_ble_eq_true rfl, Nat.le_of_ble_eq_true rfl⟩ ⟨Nat.zero_le _, Nat.zero_le _⟩ rfl rfl (Nat.le_of_ble_eq_true rfl) (fun H _ hE => hE.recv hi) ?_
  refine sw_iload_n 4 G dX0_isWord_4 3 rfl ?_
  refine sw_Ieq 5 10 G dX0_isWord_5 rfl (fun he => ?_) (fun he => ?_)
  · have loop : ∀ d j, j + d = (wnm i).length → (∀ a, a < j → nI ((wnm i).getD a 0) = byV c_bytes c_length (start + nI a)) → sw Θ p e rmX0_isWord s m args below meth c A Q 5 0 0 13 [(4, .int (nI j)), (0, .ref c0), (1, .ref (K.1 i)), (2, .int start), (3, .int letters)] [] (wX0 Θ c0 c1 c2 c_bytes c_numbers c_length c_at c_word) := by
      intro d
      induction d with
      | zero =>
        intro j hj hall
        refine sw_iload 13 G dX0_isWord_13 0 rfl ?_
        refine sw_aload_n 15 G dX0_isWord_15 2 rfl ?_
        refine sw_callVR 16 G E 0 dX0_isWord_16 (FC.nil (kJ0_length_8abf5 Θ K hi) (wX0 Θ c0 c1 c2 c_bytes c_numbers c_length c_at c_word)) (gwV lk_a99ab0a8 lk_d6a1d8c3 lk_0608aaf0 lk_42356d0c lk_13e1fe3f) rfl hvJ0_length_8abf5 ⟨rfl, rfl⟩ ⟨Nat.le_of_ble_eq_true rfl, Nat.le_of_ble_eq_true rfl⟩ ⟨Nat.zero_le _, Nat.zero_le _⟩ rfl rfl (Nat.le_of_ble_eq_true rfl) (fun H _ hE => hE.recv hi) ?_
        refine sw_Ige 19 47 G dX0_isWord_19 rfl (fun _ => ?_) (fun h => absurd (nI_le (by omega) (by omega)) h)
        refine sw_iconst 47 G (1 : Int32) dX0_isWord_47 rfl ?_
        have hv : isWd c_bytes c_length start letters (wnm i) = true := by
          unfold isWd
          rw [decide_eq_true he, Bool.true_and, List.all_eq_true]
          exact fun a ha => decide_eq_true (hall a (by have := List.mem_range.mp ha; omega))
        rw [hv] at KK
        exact sw_zret 48 G dX0_isWord_48 KK rfl
      | succ d ih =>
        intro j hj hall
        refine sw_iload 13 G dX0_isWord_13 0 rfl ?_
        refine sw_aload_n 15 G dX0_isWord_15 2 rfl ?_
        refine sw_callVR 16 G E 0 dX0_isWord_16 (FC.nil (kJ0_length_8abf5 Θ K hi) (wX0 Θ c0 c1 c2 c_bytes c_numbers c_length c_at c_word)) (gwV lk_a99ab0a8 lk_d6a1d8c3 lk_0608aaf0 lk_42356d0c lk_13e1fe3f) rfl hvJ0_length_8abf5 ⟨rfl, rfl⟩ ⟨Nat.le_of_ble_eq_true rfl, Nat.le_of_ble_eq_true rfl⟩ ⟨Nat.zero_le _, Nat.zero_le _⟩ rfl rfl (Nat.le_of_ble_eq_true rfl) (fun H _ hE => hE.recv hi) ?_
        refine sw_Ige 19 47 G dX0_isWord_19 rfl (fun h => absurd h (nI_ge (by omega) (by omega))) (fun _ => ?_)
        refine sw_aload_n 22 G dX0_isWord_22 2 rfl ?_
        refine sw_iload 23 G dX0_isWord_23 0 rfl ?_
        refine sw_callVR 25 G E 1 dX0_isWord_25 (FC.nil (kJ0_charAt_5068e Θ K hi (show j < (wnm i).length by omega)) (wX0 Θ c0 c1 c2 c_bytes c_numbers c_length c_at c_word)) (gwV lk_e75e605d lk_42fd42f1 lk_4156266c lk_42356d0c lk_38c7e2c1) rfl hvJ0_charAt_5068e ⟨rfl, rfl⟩ ⟨Nat.le_of_ble_eq_true rfl, Nat.le_of_ble_eq_true rfl⟩ ⟨Nat.zero_le _, Nat.zero_le _⟩ rfl rfl (Nat.le_of_ble_eq_true rfl) (fun H _ hE => hE.recv hi) ?_
        refine sw_aload_n 28 G dX0_isWord_28 1 rfl ?_
        refine sw_iload_n 29 G dX0_isWord_29 3 rfl ?_
        refine sw_iload 30 G dX0_isWord_30 0 rfl ?_
        refine sw_iadd 32 G dX0_isWord_32 ?_
        refine sw_callVA 33 G E 1 dX0_isWord_33 (Fn.toC (kX0_byteAt Θ c0 c1 c2 c_bytes c_numbers c_length c_at c_word (start + nI j) _ (x0_byV c_bytes c_length (start + nI j)))) (gwV lk_766c8e27 lk_dde702c9 lk_c646983f lk_82b0ef51 lk_161114d1) rfl hvX0_byteAt ⟨rfl, rfl⟩ ⟨Nat.le_of_ble_eq_true rfl, Nat.le_of_ble_eq_true rfl⟩ ⟨Nat.zero_le _, Nat.zero_le _⟩ rfl rfl (Nat.le_of_ble_eq_true rfl) 0 rfl vc0 rfl ?_
        refine sw_Ieq 36 41 G dX0_isWord_36 rfl (fun h => ?_) (fun h => ?_)
        · refine sw_iinc 41 G (nI j + (1 : Int32)) [(4, .int (nI j + (1 : Int32))), (0, .ref c0), (1, .ref (K.1 i)), (2, .int start), (3, .int letters)] dX0_isWord_41 0 rfl rfl (by decide) rfl ?_
          refine sw_goto 44 G 13 dX0_isWord_44 rfl ?_
          rw [nI_1]
          exact ih (j + 1) (by omega) (fun a ha => by
            by_cases q : a = j
            · rw [q]; exact h
            · exact hall a (by omega))
        · refine sw_iconst 39 G (0 : Int32) dX0_isWord_39 rfl ?_
          have hv : isWd c_bytes c_length start letters (wnm i) = false := by
            unfold isWd
            rw [Bool.and_eq_false_iff]
            right
            rw [Bool.eq_false_iff]
            intro z
            exact h (of_decide_eq_true (List.all_eq_true.mp z j (List.mem_range.mpr (by omega))))
          rw [hv] at KK
          exact sw_zret 40 G dX0_isWord_40 KK rfl
    refine sw_iconst 10 G (0 : Int32) dX0_isWord_10 rfl ?_
    refine sw_istore 11 G [(4, .int (0 : Int32)), (0, .ref c0), (1, .ref (K.1 i)), (2, .int start), (3, .int letters)] dX0_isWord_11 (by decide) rfl ?_
    exact loop (wnm i).length 0 (Nat.zero_add _) (fun a ha => by omega)
  · refine sw_iconst 8 G (0 : Int32) dX0_isWord_8 rfl ?_
    have hv : isWd c_bytes c_length start letters (wnm i) = false := by
      unfold isWd
      rw [decide_eq_false he]
      rfl
    rw [hv] at KK
    exact sw_zret 9 G dX0_isWord_9 KK rfl
set_option maxRecDepth 100000 in
set_option maxHeartbeats 4000000 in
theorem kX0_findWord (Θ : Tht) (K : (Nat → Nat) × (Nat → Nat)) (c0 c1 c2 : Nat) (c_bytes c_numbers : Nat → Int32) (c_length c_at c_word : Int32) (a0 a1 ro : Int32) (hf : fX0_findWord c_bytes c_length a0 a1 = some ro) : FC Θ K 0 0 yX0_findWord (Cond.code yX0_findWord cX0_findWord 4 (some .int) :: GW) rmX0_findWord [.ref c0, .int a0, .int a1] (wX0 Θ c0 c1 c2 c_bytes c_numbers c_length c_at c_word) (some (.int ro)) (wX0 Θ c0 c1 c2 c_bytes c_numbers c_length c_at c_word) := by
  unfold fX0_findWord at hf
  cases hf
  refine FC.of (by decide +kernel) rfl (Nat.le_of_ble_eq_true rfl) (fun p e s m args below meth c A Q G KK E => ?_)
  show sw Θ p e rmX0_findWord s m args below meth c A Q 4 0 0 0 [(0, .ref c0), (1, .int a0), (2, .int a1)] [] (wX0 Θ c0 c1 c2 c_bytes c_numbers c_length c_at c_word)
  have loop : ∀ d j, j + d = 9 → wdS c_bytes c_length a0 a1 9 = wdS c_bytes c_length a0 a1 d → sw Θ p e rmX0_findWord s m args below meth c A Q 4 0 0 2 [(3, .int (nI j)), (0, .ref c0), (1, .int a0), (2, .int a1)] [] (wX0 Θ c0 c1 c2 c_bytes c_numbers c_length c_at c_word) := by
    intro d
    induction d with
    | zero =>
      intro j hj he
      refine sw_iload_n 2 G dX0_findWord_2 0 rfl ?_
      refine sw_bipush 3 G (9 : Int32) dX0_findWord_3 rfl ?_
      refine sw_Ige 5 29 G dX0_findWord_5 rfl (fun _ => ?_) (fun h => absurd (nI_le (a := 9) (by omega) (by omega)) h)
      refine sw_iconst 29 G (-1 : Int32) dX0_findWord_29 rfl ?_
      have hv : nI (wdS c_bytes c_length a0 a1 9) - nI 1 = (-1 : Int32) := by
        rw [he, show wdS c_bytes c_length a0 a1 0 = 0 from rfl]
        decide
      rw [hv] at KK
      exact sw_iret 30 G dX0_findWord_30 KK
    | succ d ih =>
      intro j hj he
      have hjd : j = 8 - d := by omega
      have hstep : wdS c_bytes c_length a0 a1 (d + 1) = if isWd c_bytes c_length a0 a1 (wnm j) = true then j + 1 else wdS c_bytes c_length a0 a1 d := by
        rw [hjd]
        rfl
      refine sw_iload_n 2 G dX0_findWord_2 0 rfl ?_
      refine sw_bipush 3 G (9 : Int32) dX0_findWord_3 rfl ?_
      refine sw_Ige 5 29 G dX0_findWord_5 rfl (fun h => absurd h (nI_ge (b := 9) (by omega) (by omega))) (fun _ => ?_)
      refine sw_aload_n 8 G dX0_findWord_8 1 rfl ?_
      refine sw_iload_n 9 G dX0_findWord_9 0 rfl ?_
      refine sw_callSA 10 G E 1 dX0_findWord_10 (FC.nil (kX0_nameOf Θ K (show j < 9 by omega)) (wX0 Θ c0 c1 c2 c_bytes c_numbers c_length c_at c_word)) (gwS lk_9e1c7edb lk_a986966b lk_9b5621bf lk_9b325589) rfl hsX0_nameOf ⟨rfl, rfl⟩ ⟨Nat.le_of_ble_eq_true rfl, Nat.le_of_ble_eq_true rfl⟩ ⟨Nat.zero_le _, Nat.zero_le _⟩ rfl rfl (Nat.le_of_ble_eq_true rfl) ?_
      refine sw_iload_n 13 G dX0_findWord_13 2 rfl ?_
      refine sw_iload_n 14 G dX0_findWord_14 3 rfl ?_
      refine sw_callVA 15 G E 3 dX0_findWord_15 (kX0_isWord Θ K (show j < 9 by omega) a0 a1) (gwV lk_15403c72 lk_6fee9db2 lk_699480a8 lk_82b0ef51 lk_bbe00e27) rfl hvX0_isWord ⟨rfl, rfl⟩ ⟨Nat.le_of_ble_eq_true rfl, Nat.le_of_ble_eq_true rfl⟩ ⟨Nat.zero_le _, Nat.zero_le _⟩ rfl rfl (Nat.le_of_ble_eq_true rfl) 0 rfl vc0 rfl ?_
      refine sw_Beq 18 23 G dX0_findWord_18 rfl (fun h => ?_) (fun h => ?_)
      · refine sw_iinc 23 G (nI j + (1 : Int32)) [(3, .int (nI j + (1 : Int32))), (0, .ref c0), (1, .int a0), (2, .int a1)] dX0_findWord_23 0 rfl rfl (by decide) rfl ?_
        refine sw_goto 26 G 2 dX0_findWord_26 rfl ?_
        rw [nI_1]
        refine ih (j + 1) (by omega) ?_
        rw [he, hstep, if_neg (fun z => by rw [z] at h; exact absurd h (by decide))]
      · refine sw_iload_n 21 G dX0_findWord_21 0 rfl ?_
        have hw : isWd c_bytes c_length a0 a1 (wnm j) = true := by
          cases q : isWd c_bytes c_length a0 a1 (wnm j) with
          | true => rfl
          | false => rw [q] at h; exact absurd rfl h
        have hv : nI (wdS c_bytes c_length a0 a1 9) - nI 1 = nI j := by
          rw [he, hstep, if_pos hw]
          exact nI_pred j
        rw [hv] at KK
        exact sw_iret 22 G dX0_findWord_22 KK
  refine sw_iconst 0 G (0 : Int32) dX0_findWord_0 rfl ?_
  refine sw_istore_n 1 G [(3, .int (0 : Int32)), (0, .ref c0), (1, .int a0), (2, .int a1)] dX0_findWord_1 (by decide) rfl ?_
  exact loop 9 0 rfl rfl

