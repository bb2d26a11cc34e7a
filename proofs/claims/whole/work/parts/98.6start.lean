theorem lk_ce5ca95f : Cond.classLink RL 8 RX5 ∈ GW := GW_of 103 (by decide +kernel) (by decide +kernel)
theorem lk_87cdbc94 : Cond.instantiable RX5 7 ∈ GW := GW_of 104 (by decide +kernel) (by decide +kernel)
theorem lk_b4937d1d : Cond.initialized RX5 ∈ GW := GW_of 83 (by decide +kernel) (by decide +kernel)
theorem lk_2a336cc3 : Cond.code yX5_init cX5_init 2 none ∈ GW := GW_of 107 (by decide +kernel) (by decide +kernel)
theorem lk_d2b048cd : Cond.methodLink RL 80 yX5_init ∈ GW := GW_of 105 (by decide +kernel) (by decide +kernel)
theorem lk_dbc8ce9c : Cond.initialized yX5_init.cls ∈ GW := GW_of 83 (by decide +kernel) (by decide +kernel)
theorem lk_8afface9 : Cond.instanceMethod yX5_init ∈ GW := GW_of 106 (by decide +kernel) (by decide +kernel)
theorem lk_5d439bc1 : Cond.classLink RL 81 RX6 ∈ GW := GW_of 1095 (by decide +kernel) (by decide +kernel)
theorem lk_d0efbea2 : Cond.instantiable RX6 15 ∈ GW := GW_of 1096 (by decide +kernel) (by decide +kernel)
theorem lk_2fc03471 : Cond.initialized RX6 ∈ GW := GW_of 89 (by decide +kernel) (by decide +kernel)
theorem lk_45b65de3 : Cond.code yX6_init cX6_init 1 none ∈ GW := GW_of 1099 (by decide +kernel) (by decide +kernel)
theorem lk_3822eccf : Cond.methodLink RL 83 yX6_init ∈ GW := GW_of 1097 (by decide +kernel) (by decide +kernel)
theorem lk_2a148167 : Cond.initialized yX6_init.cls ∈ GW := GW_of 89 (by decide +kernel) (by decide +kernel)
theorem lk_765ce10e : Cond.instanceMethod yX6_init ∈ GW := GW_of 1098 (by decide +kernel) (by decide +kernel)
theorem lk_5d0056b7 : Cond.arrayClass .long ∈ GW := GW_of 162 (by decide +kernel) (by decide +kernel)
theorem lk_db5af660 : Cond.initialized RL ∈ GW := GW_of 82 (by decide +kernel) (by decide +kernel)
/-! the law's loop and its start -/
theorem Inv.mono {B B' : Nat} {c : CSt} {μ : MSt} (h : Inv B c μ) (hb : B ≤ B') : Inv B' c μ := by
  obtain ⟨N, S, t, o, st, len, set, fac, dce, pm, sm, cel, ben, off, SS, tr, pl, cb, u, cat, wd, asd, th, w1, w2, w3, mt, mat, vb, td, cm, h1, h2, r, g, b10, b11, tx, tc, tm⟩ := h
  exact ⟨N, S, t, o, st, len, set, fac, dce, pm, sm, cel, ben, off, SS, tr, pl, cb, u, cat, wd, asd, th, w1, w2, w3, mt, mat, vb, td, cm, h1, h2, r, g.mono hb, Nat.le_trans b10 hb, Nat.le_trans b11 hb, tx, tc, tm⟩
theorem len6a : ∀ a, a < 49 → ∀ b, b < 64 → (Int32.ofNat (64 * a + b) - (6 : Int32)).toInt = ((64 * a + b : Nat) : Int) - 6 := by decide +kernel
theorem len6 (L : Nat) (h : L < 3073) : (Int32.ofNat L - (6 : Int32)).toInt = (L : Int) - 6 := by
  have h1 := len6a (L / 64) (by omega) (L % 64) (by omega)
  rw [Nat.div_add_mod] at h1
  exact h1
theorem lim6 {L a : Nat} (hL : L ≤ 3072) (ha : a < 2 ^ 31) : Int32.ofNat L - (6 : Int32) < nI a ↔ L < a + 6 := by
  rw [fa_lt, len6 L (by omega), nI_toInt ha]
  omega
theorem tsw_any (x : Int32) (lo hi : Int) : tsw x lo hi (fun _ => some ()) (some ()) = some () := by
  unfold tsw
  split <;> rfl
theorem pm3 (C M O : va_W) : ((C ++ M) ++ O).Perm (M ++ (O ++ C)) := by
  haveI : DecidableEq (Nat × va_E) := fun a b => Classical.propDecidable (a = b)
  rw [List.perm_iff_count]
  intro a
  simp only [List.count_append] <;> omega
section LAW3
variable {Θ : Tht} {K : (Nat → Nat) × (Nat → Nat)} {p : Program} {e : Env} {s : State} {m : MethodId} {args : Array Value} {below : List Frame} {meth : Method} {c : Code} {A : Nat → Prop} {Q : State → Prop} {b L : Nat} {xs : Nat → Int32} {ad am : Nat → Nat} {q : Nat}
theorem lp_law (G : okG Θ p s m args c A 8 cL_law RL lwT) (E : Ev K A s s.heap) (hST : Θ.1.stackTraces = false) (hX : va_X b L xs s s.heap) (hbl : b < s.heap.size) (hbA : ¬ A b) (hL : L ≤ 3072)
    (hend : ∀ (k2 n2 : Nat) (lv : List (Nat × Value)) (ws : va_W), k2 ≤ 601024 → n2 ≤ 7293034 → sw Θ p e room_1 s m args below meth c A Q 8 k2 n2 1600 lv [] ws) :
    ∀ (d j : Nat) (cs : CSt) (μ : MSt) (f : Nat → Int64) (k n : Nat), 512 < j + d → j ≤ 512 → Inv (20000 * j) cs μ → k ≤ 100 + j → n ≤ 2000 + 6 * j → sw Θ p e room_1 s m args below meth c A Q 8 k n 23 (lvB b ad am q (6 * j)) [] (wL Θ ad am q f cs μ)
  | 0, j, cs, μ, f, k, n, hd, hj, _, _, _ => absurd hd (by omega)
  | d + 1, j, cs, μ, f, k, n, hd, hj, inv, hk, hn => by
    refine sw_iload 23 G dL_law_23 0 rfl ?_
    refine sw_aload_n 25 G dL_law_25 4 rfl ?_
    refine sw_slen 26 G hX hbl hbA dL_law_26 ?_
    refine sw_bipush 27 G (6 : Int32) dL_law_27 (by decide) ?_
    refine sw_isub 29 G dL_law_29 ?_
    by_cases hs : L < 6 * j + 6
    · refine sw_icmp_gt 30 1600 G dL_law_30 rfl (X := some ()) (Y := none) (r := some ()) (if_pos ((lim6 hL (by omega)).mpr hs)) (fun _ => ?_) (fun h => by cases h)
      exact hend _ _ _ _ (by omega) (by omega)
    · refine sw_icmp_gt 30 1600 G dL_law_30 rfl (X := none) (Y := some ()) (r := some ()) (if_neg (fun z => hs ((lim6 hL (by omega)).mp z))) (fun h => by cases h) (fun _ => ?_)
      have hj2 : j ≤ 511 := by omega
      have hi : 6 * j + 5 < L := by omega
      have hB : 20000 * j < 2 ^ 30 := by omega
      have hk2 : k + 1 ≤ 601024 ∧ n + 6 ≤ 7293034 := by omega
      have NX : ∀ (c2 : CSt) (μ2 : MSt) (f2 : Nat → Int64) (k2 n2 : Nat), Inv (20000 * j + 20000) c2 μ2 → k2 ≤ k + 1 → n2 ≤ n + 6 → sw Θ p e room_1 s m args below meth c A Q 8 k2 n2 1594 (lvB b ad am q (6 * j)) [] (wL Θ ad am q f2 c2 μ2) := by
        intro c2 μ2 f2 k2 n2 hI h1 h2
        refine sw_iinc 1594 G (nI (6 * (j + 1))) (lvB b ad am q (6 * (j + 1))) dL_law_1594 0 rfl ?_ (by decide) rfl ?_
        · rw [show Int32.ofInt 6 = nI 6 by decide]
          exact nI_add _ _
        · refine sw_goto 1597 G 23 dL_law_1597 rfl ?_
          exact lp_law G E hST hX hbl hbA hL hend d (j + 1) c2 μ2 f2 k2 n2 (by omega) (by omega) (hI.mono (by omega)) (by omega) (by omega)
      refine sw_aload_n 33 G dL_law_33 4 rfl ?_
      refine sw_iload 34 G dL_law_34 0 rfl ?_
      refine sw_sld 36 G hX hbl hbA hL (6 * j) rfl (by omega) dL_law_36 ?_
      refine sw_bipush 37 G (31 : Int32) dL_law_37 (by decide) ?_
      refine sw_iand 39 G dL_law_39 ?_
      refine sw_tsw 40 1594 G dL_law_40 rfl (X := fun _ => some ()) (D := some ()) (r := some ()) (tsw_any _ _ _) (fun _ => NX cs μ f k n (inv.mono (by omega)) (by omega) (by omega)) (fun t ht _ => ?_)
      exact match t, ht with
        | 0, _ => ⟨136, 176, rfl, rfl, st_begin G E hST hX hbl hbA hL hi hB inv f hk2 NX⟩
        | 1, _ => ⟨204, 244, rfl, rfl, st_mark G E hST hX hbl hbA hL hi hB inv f hk2 NX⟩
        | 2, _ => ⟨308, 348, rfl, rfl, st_setCarrier G E hST hX hbl hbA hL hi hB inv f hk2 NX⟩
        | 3, _ => ⟨364, 404, rfl, rfl, st_set G E hST hX hbl hbA hL hi hB inv f hk2 NX⟩
        | 4, _ => ⟨432, 472, rfl, rfl, st_addPunch G E hST hX hbl hbA hL hi hB inv f hk2 NX⟩
        | 5, _ => ⟨524, 564, rfl, rfl, st_addBend G E hST hX hbl hbA hL hi hB inv f hk2 NX⟩
        | 6, _ => ⟨604, 644, rfl, rfl, st_dropOperation G E hST hX hbl hbA hL hi hB inv f hk2 NX⟩
        | 7, _ => ⟨660, 700, rfl, rfl, st_setStation G E hST hX hbl hbA hL hi hB inv f hk2 NX⟩
        | 8, _ => ⟨728, 768, rfl, rfl, st_usePlan G E hST hX hbl hbA hL hi hB inv f hk2 NX⟩
        | 9, _ => ⟨772, 812, rfl, rfl, st_setPilot G E hST hX hbl hbA hL hi hB inv f hk2 NX⟩
        | 10, _ => ⟨856, 896, rfl, rfl, st_stroke G E hST hX hbl hbA hL hi hB inv f hk2 NX⟩
        | 11, _ => ⟨869, 909, rfl, rfl, st_emptyPress G E hST hX hbl hbA hL hi hB inv f hk2 NX⟩
        | 12, _ => ⟨882, 922, rfl, rfl, st_cellSet G E hST hX hbl hbA hL hi hB inv f hk2 NX⟩
        | 13, _ => ⟨937, 977, rfl, rfl, st_operation G E hST hX hbl hbA hL hi hB inv f hk2 NX⟩
        | 14, _ => ⟨1005, 1045, rfl, rfl, st_station G E hST hX hbl hbA hL hi hB inv f hk2 NX⟩
        | 15, _ => ⟨1073, 1113, rfl, rfl, st_pitch G E hST hX hbl hbA hL hi hB inv f hk2 NX⟩
        | 16, _ => ⟨1141, 1181, rfl, rfl, st_left G E hST hX hbl hbA hL hi hB inv f hk2 NX⟩
        | 17, _ => ⟨1196, 1236, rfl, rfl, st_whole G E hST hX hbl hbA hL hi hB inv f hk2 NX⟩
        | 18, _ => ⟨1252, 1292, rfl, rfl, st_dieFault G E hST hX hbl hbA hL hi hB inv f hk2 NX⟩
        | 19, _ => ⟨1265, 1305, rfl, rfl, st_planFault G E hST hX hbl hbA hL hi hB inv f hk2 NX⟩
        | 20, _ => ⟨1278, 1318, rfl, rfl, st_planned G E hST hX hbl hbA hL hi hB inv f hk2 NX⟩
        | 21, _ => ⟨1334, 1374, rfl, rfl, st_leastLimit G E hST hX hbl hbA hL hi hB inv f hk2 NX⟩
        | 22, _ => ⟨1347, 1387, rfl, rfl, st_fitsTwice G E hST hX hbl hbA hL hi hB inv f hk2 NX⟩
        | 23, _ => ⟨1360, 1400, rfl, rfl, st_scrap G E hST hX hbl hbA hL hi hB inv f hk2 NX⟩
        | 24, _ => ⟨1401, 1441, rfl, rfl, st_strokesToGood G E hST hX hbl hbA hL hi hB inv f hk2 NX⟩
        | 25, _ => ⟨1414, 1454, rfl, rfl, st_type G E hST hX hbl hbA hL hi hB inv f hk2 NX⟩
        | 26, _ => ⟨1470, 1510, rfl, rfl, st_clearCommands G E hST hX hbl hbA hL hi hB inv f hk2 NX⟩
        | 27, _ => ⟨1483, 1523, rfl, rfl, st_runCommands G E hST hX hbl hbA hL hi hB inv f hk2 NX⟩
        | 28, _ => ⟨1496, 1536, rfl, rfl, st_undo G E hST hX hbl hbA hL hi hB inv f hk2 NX⟩
        | 29, _ => ⟨1540, 1580, rfl, rfl, st_digest G E hST hX hbl hbA hL hi hB inv f hk2 NX⟩
        | (t + 30), h => absurd h (by omega)
theorem law_body (G : okG Θ p s m args c A 8 cL_law RL lwT) (E : Ev K A s s.heap) (hAO : va_AO sSt s) (hST : Θ.1.stackTraces = false) (hX : va_X b L xs s s.heap) (hbl : b < s.heap.size) (hbA : ¬ A b) (hL : L ≤ 3072)
    (hend : ∀ (k2 n2 : Nat) (lv : List (Nat × Value)) (ws : va_W), k2 ≤ 601024 → n2 ≤ 7293034 → sw Θ p e room_1 s m args below meth c A Q 8 k2 n2 1600 lv [] ws) : sw Θ p e room_1 s m args below meth c A Q 8 0 0 0 [(0, .ref b)] [] [] := by
  refine sw_new 0 G hnX5 tyX5_ok dL_law_0 (List.mem_cons_of_mem _ lk_ce5ca95f) (List.mem_cons_of_mem _ lk_87cdbc94) (List.mem_cons_of_mem _ lk_b4937d1d) vc5 dfX5 ⟨Nat.le_of_ble_eq_true rfl, Nat.le_of_ble_eq_true rfl⟩ (fun z0 => ?_)
  refine sw_dup 3 G dL_law_3 rfl ?_
  refine sw_initC 4 G hAO dL_law_4 (kX5_init Θ z0) (gwN lk_2a336cc3) (List.mem_cons_of_mem _ lk_d2b048cd) (List.mem_cons_of_mem _ lk_dbc8ce9c) (List.mem_cons_of_mem _ lk_8afface9) rfl rfl hsX5_init ⟨rfl, rfl⟩ ⟨Nat.le_of_ble_eq_true rfl, Nat.le_of_ble_eq_true rfl⟩ ⟨Nat.le_of_ble_eq_true rfl, Nat.le_of_ble_eq_true rfl⟩ (Nat.le_of_ble_eq_true rfl) (fun u => ?_)
  refine sw_astore_n 7 G [(1, .ref z0), (0, .ref b)] dL_law_7 (by decide) rfl ?_
  refine sw_new 8 G hnX6 tyX6_ok dL_law_8 (List.mem_cons_of_mem _ lk_5d439bc1) (List.mem_cons_of_mem _ lk_d0efbea2) (List.mem_cons_of_mem _ lk_2fc03471) vc6 dfX6 ⟨Nat.le_of_ble_eq_true rfl, Nat.le_of_ble_eq_true rfl⟩ (fun z1 => ?_)
  refine sw_dup 11 G dL_law_11 rfl ?_
  refine sw_initC 12 G hAO dL_law_12 (kX6_init Θ z1) (gwN lk_45b65de3) (List.mem_cons_of_mem _ lk_3822eccf) (List.mem_cons_of_mem _ lk_2a148167) (List.mem_cons_of_mem _ lk_765ce10e) rfl rfl hsX6_init ⟨rfl, rfl⟩ ⟨Nat.le_of_ble_eq_true rfl, Nat.le_of_ble_eq_true rfl⟩ ⟨Nat.le_of_ble_eq_true rfl, Nat.le_of_ble_eq_true rfl⟩ (Nat.le_of_ble_eq_true rfl) (fun v => ?_)
  refine sw_astore_n 15 G [(2, .ref z1), (1, .ref z0), (0, .ref b)] dL_law_15 (by decide) rfl ?_
  refine sw_iconst 16 G (1 : Int32) dL_law_16 rfl ?_
  refine sw_newa 17 G (ty := .long) (N := 1) (a0 := (1, .inr (.inl (fun _ => 0)))) 2 rfl dL_law_17 (List.mem_cons_of_mem _ lk_5d0056b7) rfl (fun _ => rfl) (by decide) (by decide) (by decide) ⟨Nat.le_of_ble_eq_true rfl, Nat.le_of_ble_eq_true rfl⟩ (fun q => ?_)
  refine sw_astore_n 19 G [(3, .ref q), (2, .ref z1), (1, .ref z0), (0, .ref b)] dL_law_19 (by decide) rfl ?_
  refine sw_iconst 20 G (nI (6 * 0)) dL_law_20 rfl ?_
  refine sw_istore 21 G (lvB b (fun j => if j = 0 then z0 else u j) (fun j => if j = 0 then z1 else v (j - 1)) q (6 * 0)) dL_law_21 (by decide) rfl ?_
  refine sw_perm (ws' := wL Θ (fun j => if j = 0 then z0 else u j) (fun j => if j = 0 then z1 else v (j - 1)) q (fun _ => 0) c0 μ0) (pm3 _ _ _) ?_
  exact lp_law G E hST hX hbl hbA hL hend 600 0 c0 μ0 (fun _ => 0) _ _ (by omega) (by omega) inv0 (by decide) (by decide)
end LAW3
/-- from the law's entry to its end -/
theorem whole_start {p : Program} {e : Env} {s : State} {m : MethodId} {below : List Frame} {meth : Method} {c : Code} (l : Launch) (hflags : l.flags = flags0) {b L : Nat} {xs : Nat → Int32} (hL : L ≤ 3072) (C0 : lw_At p s m meth c b L xs) : W p l e room_1 s m #[Value.ref b] below meth c s.heap [] 0 0 (lw_Z below #[Value.ref b] s) (entryFrame m ([Value.ref b] : List Value).toArray 8) := by
  obtain ⟨hx, hb, hr, hml, hown, hts, hX, hbl, hlk, hgv⟩ := C0
  have hn : ∀ w ∈ nar, w.before #[Value.ref b] s = true := flat_of_before _ hgv
  obtain ⟨D, tC, hK⟩ := entry_K hts l
  obtain ⟨K, hE⟩ := entry_E hts hn (hK.1 5 (RX5, TX5, 7) rfl).2.1
  have hST : l.stackTraces = false := by
    unfold Launch.stackTraces
    rw [hflags]
    decide +kernel
  have G : okG (l, D, tC) p s m #[Value.ref b] c (AE s) 8 cL_law RL lwT := ⟨hx, hb, hml, hown, List.forall_mem_cons.mpr ⟨hts _ (GW_tbl lk_db5af660), fun w hw => hts w (GW_tbl hw)⟩, hK, fun q h => h, entry_N hts⟩
  have hl := lv_entry ([Value.ref b] : List Value) (n := 8) (Nat.le_of_ble_eq_true rfl)
  rw [lg_entry_eq]
  refine law_body G hE (entry_AO hts) hST hX hbl (AE_no b hbl) hL (fun k2 n2 lv ws h1 h2 => ?_) s.heap [] _ (fun k q h => (by cases h)) ⟨fun i j p q h => (by cases h), fun k q h => (by cases h)⟩ va_S.rf hl
  intro H locs ls hP hD hS hl2
  refine W.widen (k := 601024) (n := 7293034) h1 h2 ?_
  refine va_forget (fun q hq => hS.2.2 q hq) ?_
  refine lv_iconst (v := 1) hx hb dL_law_1600 rfl ?_
  exact lw_ret hx hb hr hlk dL_law_1601
