theorem lk_6e2069b8 : Cond.initialized "java/lang/IllegalArgumentException" ∈ GW := GW_of 27 (by decide +kernel) (by decide +kernel)
theorem lk_09a086a1 : Cond.initialized "java/lang/IndexOutOfBoundsException" ∈ GW := GW_of 30 (by decide +kernel) (by decide +kernel)
theorem lk_ded3b8f3 : Cond.initialized "java/lang/IllegalStateException" ∈ GW := GW_of 32 (by decide +kernel) (by decide +kernel)
theorem lk_5b8e3070 : Cond.classLink RX5 45 "java/lang/IllegalArgumentException" ∈ GW := GW_of 221 (by decide +kernel) (by decide +kernel)
theorem lk_fc313c61 : Cond.classLink RX5 121 "java/lang/IndexOutOfBoundsException" ∈ GW := GW_of 448 (by decide +kernel) (by decide +kernel)
theorem lk_e82ee64b : Cond.classLink RX5 106 "java/lang/IllegalStateException" ∈ GW := GW_of 665 (by decide +kernel) (by decide +kernel)
abbrev rmXX : Room := { frames := 8, cells := 1, slots := 6, locals := 300 }
theorem exA_ot : ∀ w ∈ Cond.classLink RX5 45 eIA :: Cond.initialized eIA :: vx_atS RX5 49 eIA eNm, vx_ot w = true := by decide +kernel
theorem exA_fit : Bundle.fit eIA = true := by decide +kernel
theorem exS_ot : ∀ w ∈ Cond.classLink RX5 106 eIS :: Cond.initialized eIS :: vx_atS RX5 110 eIS eNm, vx_ot w = true := by decide +kernel
theorem exS_fit : Bundle.fit eIS = true := by decide +kernel
theorem exB_ot : ∀ w ∈ Cond.classLink RX5 121 eIB :: Cond.initialized eIB :: vx_atS RX5 125 eIB eNm, vx_ot w = true := by decide +kernel
theorem exB_fit : Bundle.fit eIB = true := by decide +kernel
def fX5_mark_xA (d_columns : Int32) (d_rows : Int32) (a0 : Int32) (a1 : Int32) (a2 : Int32) (a3 : Int32) (a4 : Int32) : Option Unit :=
  bd1 (fX1_holds d_columns d_rows a0 a1 a2 a3) fun r1 =>
  if r1 = 0 then (
    some ()) else (
    if a4 < 0 then (
      some ()) else (
      if a4 ≤ (2 : Int32) then (
        none) else (
        some ())))
set_option maxRecDepth 100000 in
set_option maxHeartbeats 4000000 in
theorem kX5_mark_xA (Θ : Tht) (KE : (Nat → Nat) × (Nat → Nat)) (hST : Θ.1.stackTraces = false) (x0 n0 d0 d1 d2 d3 v0 t0 l0 c0 p0 : Nat) (x_oldestSaved : Int32) (x_savedStates : Int32) (d_columns : Int32) (d_rows : Int32) (d_carrier : Int32) (d_partMarks : Int64) (d_linkMarks : Int64) (d_operations : Int32) (d_pilots : Int32) (d_settings : Nat → Int32) (d_facts : Nat → Int32) (d_cells : Nat → Int64) (a0 : Int32) (a1 : Int32) (a2 : Int32) (a3 : Int32) (a4 : Int32) (hf : fX5_mark_xA d_columns d_rows a0 a1 a2 a3 a4 = some ()) : FX Θ KE yX5_mark (Cond.code yX5_mark cX5_mark 6 (some .int) :: GW) rmXX [.ref x0, .int a0, .int a1, .int a2, .int a3, .int a4] ([(x0, .inr (5, [.ref n0, .ref v0, .int x_oldestSaved, .int x_savedStates, .ref t0, .ref l0, .ref c0]))] ++ [(n0, .inr (4, [.ref d0, .ref p0]))] ++ wX1 Θ d0 d1 d2 d3 d_columns d_rows d_carrier d_partMarks d_linkMarks d_operations d_pilots d_settings d_facts d_cells) eIA ([(x0, .inr (5, [.ref n0, .ref v0, .int x_oldestSaved, .int x_savedStates, .ref t0, .ref l0, .ref c0]))] ++ [(n0, .inr (4, [.ref d0, .ref p0]))] ++ wX1 Θ d0 d1 d2 d3 d_columns d_rows d_carrier d_partMarks d_linkMarks d_operations d_pilots d_settings d_facts d_cells) := by
  delta fX5_mark_xA at hf
  refine FX.of (by decide +kernel) rfl (Nat.le_of_ble_eq_true rfl) (fun p e s m args below meth c A Q G K E => ?_)
  show sw Θ p e rmXX s m args below meth c A Q 6 0 0 0 [(0, .ref x0), (1, .int a0), (2, .int a1), (3, .int a2), (4, .int a3), (5, .int a4)] [] ([(x0, .inr (5, [.ref n0, .ref v0, .int x_oldestSaved, .int x_savedStates, .ref t0, .ref l0, .ref c0]))] ++ [(n0, .inr (4, [.ref d0, .ref p0]))] ++ wX1 Θ d0 d1 d2 d3 d_columns d_rows d_carrier d_partMarks d_linkMarks d_operations d_pilots d_settings d_facts d_cells)
  refine sw_aload_n 0 G dX5_mark_0 0 rfl ?_
  refine sw_get 1 G hnX5 0 0 dX5_mark_1 vc5 (by decide) (List.mem_cons_of_mem _ lk_c6576e33) rfl rfl ?_
  refine sw_get 4 G hnX4 1 0 dX5_mark_4 vc4 (by decide) (List.mem_cons_of_mem _ lk_b490f9e6) rfl rfl ?_
  refine sw_iload_n 7 G dX5_mark_7 1 rfl ?_
  refine sw_iload_n 8 G dX5_mark_8 2 rfl ?_
  refine sw_iload_n 9 G dX5_mark_9 3 rfl ?_
  refine sw_iload 10 G dX5_mark_10 4 rfl ?_
  obtain ⟨r1, hg, hf⟩ := bd1_some hf
  refine sw_callV 12 G ([(x0, .inr (5, [.ref n0, .ref v0, .int x_oldestSaved, .int x_savedStates, .ref t0, .ref l0, .ref c0]))] ++ [(n0, .inr (4, [.ref d0, .ref p0]))] ++ wX1 Θ d0 d1 d2 d3 d_columns d_rows d_carrier d_partMarks d_linkMarks d_operations d_pilots d_settings d_facts d_cells) [2, 3, 4, 5] [0, 1] [0, 1, 2, 3, 4, 5] 4 dX5_mark_12 (kX1_holds Θ d0 d1 d2 d3 d_columns d_rows d_carrier d_partMarks d_linkMarks d_operations d_pilots d_settings d_facts d_cells a0 a1 a2 a3 r1 hg) (gwV lk_4fc8583b lk_c194ca58 lk_2d7f3b82 lk_cf66e99d lk_e79936af) rfl hvX1_holds ⟨rfl, rfl⟩ ⟨Nat.le_of_ble_eq_true rfl, Nat.le_of_ble_eq_true rfl⟩ ⟨Nat.zero_le _, Nat.zero_le _⟩ rfl rfl (Nat.le_of_ble_eq_true rfl) 0 rfl vc1 rfl rfl rfl rfl (by decide) ?_
  refine sw_if_eq 15 29 G dX5_mark_15 rfl hf (fun hf => ?_) (fun hf => ?_)
  · cases hf
    exact sw_throwS 29 G E hST K exA_fit (List.mem_cons_of_mem _ lk_5b8e3070) (List.mem_cons_of_mem _ lk_6e2069b8) (List.mem_of_getElem? (i := 1) rfl) rfl (fun w h => List.mem_cons_of_mem _ (exA_in w h)) exA_bad exA_ot dX5_mark_29 dX5_mark_32 dX5_mark_33 dX5_mark_35 dX5_mark_38 (Nat.le_of_ble_eq_true rfl) (Nat.le_of_ble_eq_true rfl) (Nat.le_of_ble_eq_true rfl) (Nat.le_of_ble_eq_true rfl)
  · refine sw_iload 18 G dX5_mark_18 5 rfl ?_
    refine sw_if_lt 20 29 G dX5_mark_20 rfl hf (fun hf => ?_) (fun hf => ?_)
    · cases hf
      exact sw_throwS 29 G E hST K exA_fit (List.mem_cons_of_mem _ lk_5b8e3070) (List.mem_cons_of_mem _ lk_6e2069b8) (List.mem_of_getElem? (i := 1) rfl) rfl (fun w h => List.mem_cons_of_mem _ (exA_in w h)) exA_bad exA_ot dX5_mark_29 dX5_mark_32 dX5_mark_33 dX5_mark_35 dX5_mark_38 (Nat.le_of_ble_eq_true rfl) (Nat.le_of_ble_eq_true rfl) (Nat.le_of_ble_eq_true rfl) (Nat.le_of_ble_eq_true rfl)
    · refine sw_iload 23 G dX5_mark_23 5 rfl ?_
      refine sw_iconst 25 G (2 : Int32) dX5_mark_25 rfl ?_
      refine sw_icmp_le 26 39 G dX5_mark_26 rfl hf (fun hf => ?_) (fun hf => ?_)
      · cases hf
      · cases hf
        exact sw_throwS 29 G E hST K exA_fit (List.mem_cons_of_mem _ lk_5b8e3070) (List.mem_cons_of_mem _ lk_6e2069b8) (List.mem_of_getElem? (i := 1) rfl) rfl (fun w h => List.mem_cons_of_mem _ (exA_in w h)) exA_bad exA_ot dX5_mark_29 dX5_mark_32 dX5_mark_33 dX5_mark_35 dX5_mark_38 (Nat.le_of_ble_eq_true rfl) (Nat.le_of_ble_eq_true rfl) (Nat.le_of_ble_eq_true rfl) (Nat.le_of_ble_eq_true rfl)
def fX5_addPunch_xS (d_columns : Int32) (d_rows : Int32) (d_operations : Int32) (a0 : Int32) (a1 : Int32) (a2 : Int32) (a3 : Int32) : Option Unit :=
  bd1 (fX1_holds d_columns d_rows a0 a1 a2 a3) fun r1 =>
  if ¬ r1 = 0 then (
    bd1 (fX1_isFull d_operations) fun r2 =>
    if r2 = 0 then (
      none) else (
      some ())) else (
    none)
set_option maxRecDepth 100000 in
set_option maxHeartbeats 4000000 in
theorem kX5_addPunch_xS (Θ : Tht) (KE : (Nat → Nat) × (Nat → Nat)) (hST : Θ.1.stackTraces = false) (x0 n0 d0 d1 d2 d3 v0 t0 l0 c0 p0 : Nat) (x_oldestSaved : Int32) (x_savedStates : Int32) (d_columns : Int32) (d_rows : Int32) (d_carrier : Int32) (d_partMarks : Int64) (d_linkMarks : Int64) (d_operations : Int32) (d_pilots : Int32) (d_settings : Nat → Int32) (d_facts : Nat → Int32) (d_cells : Nat → Int64) (a0 : Int32) (a1 : Int32) (a2 : Int32) (a3 : Int32) (hf : fX5_addPunch_xS d_columns d_rows d_operations a0 a1 a2 a3 = some ()) : FX Θ KE yX5_addPunch (Cond.code yX5_addPunch cX5_addPunch 5 (some .int) :: GW) rmXX [.ref x0, .int a0, .int a1, .int a2, .int a3] ([(x0, .inr (5, [.ref n0, .ref v0, .int x_oldestSaved, .int x_savedStates, .ref t0, .ref l0, .ref c0]))] ++ [(n0, .inr (4, [.ref d0, .ref p0]))] ++ wX1 Θ d0 d1 d2 d3 d_columns d_rows d_carrier d_partMarks d_linkMarks d_operations d_pilots d_settings d_facts d_cells) eIS ([(x0, .inr (5, [.ref n0, .ref v0, .int x_oldestSaved, .int x_savedStates, .ref t0, .ref l0, .ref c0]))] ++ [(n0, .inr (4, [.ref d0, .ref p0]))] ++ wX1 Θ d0 d1 d2 d3 d_columns d_rows d_carrier d_partMarks d_linkMarks d_operations d_pilots d_settings d_facts d_cells) := by
  delta fX5_addPunch_xS at hf
  refine FX.of (by decide +kernel) rfl (Nat.le_of_ble_eq_true rfl) (fun p e s m args below meth c A Q G K E => ?_)
  show sw Θ p e rmXX s m args below meth c A Q 5 0 0 0 [(0, .ref x0), (1, .int a0), (2, .int a1), (3, .int a2), (4, .int a3)] [] ([(x0, .inr (5, [.ref n0, .ref v0, .int x_oldestSaved, .int x_savedStates, .ref t0, .ref l0, .ref c0]))] ++ [(n0, .inr (4, [.ref d0, .ref p0]))] ++ wX1 Θ d0 d1 d2 d3 d_columns d_rows d_carrier d_partMarks d_linkMarks d_operations d_pilots d_settings d_facts d_cells)
  refine sw_aload_n 0 G dX5_addPunch_0 0 rfl ?_
  refine sw_get 1 G hnX5 0 0 dX5_addPunch_1 vc5 (by decide) (List.mem_cons_of_mem _ lk_c6576e33) rfl rfl ?_
  refine sw_get 4 G hnX4 1 0 dX5_addPunch_4 vc4 (by decide) (List.mem_cons_of_mem _ lk_b490f9e6) rfl rfl ?_
  refine sw_iload_n 7 G dX5_addPunch_7 1 rfl ?_
  refine sw_iload_n 8 G dX5_addPunch_8 2 rfl ?_
  refine sw_iload_n 9 G dX5_addPunch_9 3 rfl ?_
  refine sw_iload 10 G dX5_addPunch_10 4 rfl ?_
  obtain ⟨r1, hg, hf⟩ := bd1_some hf
  refine sw_callV 12 G ([(x0, .inr (5, [.ref n0, .ref v0, .int x_oldestSaved, .int x_savedStates, .ref t0, .ref l0, .ref c0]))] ++ [(n0, .inr (4, [.ref d0, .ref p0]))] ++ wX1 Θ d0 d1 d2 d3 d_columns d_rows d_carrier d_partMarks d_linkMarks d_operations d_pilots d_settings d_facts d_cells) [2, 3, 4, 5] [0, 1] [0, 1, 2, 3, 4, 5] 4 dX5_addPunch_12 (kX1_holds Θ d0 d1 d2 d3 d_columns d_rows d_carrier d_partMarks d_linkMarks d_operations d_pilots d_settings d_facts d_cells a0 a1 a2 a3 r1 hg) (gwV lk_4fc8583b lk_c194ca58 lk_2d7f3b82 lk_cf66e99d lk_e79936af) rfl hvX1_holds ⟨rfl, rfl⟩ ⟨Nat.le_of_ble_eq_true rfl, Nat.le_of_ble_eq_true rfl⟩ ⟨Nat.zero_le _, Nat.zero_le _⟩ rfl rfl (Nat.le_of_ble_eq_true rfl) 0 rfl vc1 rfl rfl rfl rfl (by decide) ?_
  refine sw_if_ne 15 28 G dX5_addPunch_15 rfl hf (fun hf => ?_) (fun hf => ?_)
  · refine sw_aload_n 28 G dX5_addPunch_28 0 rfl ?_
    refine sw_get 29 G hnX5 0 0 dX5_addPunch_29 vc5 (by decide) (List.mem_cons_of_mem _ lk_c6576e33) rfl rfl ?_
    refine sw_get 32 G hnX4 1 0 dX5_addPunch_32 vc4 (by decide) (List.mem_cons_of_mem _ lk_b490f9e6) rfl rfl ?_
    obtain ⟨r2, hg, hf⟩ := bd1_some hf
    refine sw_callV 35 G ([(x0, .inr (5, [.ref n0, .ref v0, .int x_oldestSaved, .int x_savedStates, .ref t0, .ref l0, .ref c0]))] ++ [(n0, .inr (4, [.ref d0, .ref p0]))] ++ wX1 Θ d0 d1 d2 d3 d_columns d_rows d_carrier d_partMarks d_linkMarks d_operations d_pilots d_settings d_facts d_cells) [2, 3, 4, 5] [0, 1] [0, 1, 2, 3, 4, 5] 0 dX5_addPunch_35 (kX1_isFull Θ d0 d1 d2 d3 d_columns d_rows d_carrier d_partMarks d_linkMarks d_operations d_pilots d_settings d_facts d_cells r2 hg) (gwV lk_4c281b6e lk_ec5cdf02 lk_5fba3b54 lk_cf66e99d lk_9c153725) rfl hvX1_isFull ⟨rfl, rfl⟩ ⟨Nat.le_of_ble_eq_true rfl, Nat.le_of_ble_eq_true rfl⟩ ⟨Nat.zero_le _, Nat.zero_le _⟩ rfl rfl (Nat.le_of_ble_eq_true rfl) 0 rfl vc1 rfl rfl rfl rfl (by decide) ?_
    refine sw_if_eq 38 51 G dX5_addPunch_38 rfl hf (fun hf => ?_) (fun hf => ?_)
    · cases hf
    · cases hf
      exact sw_throwS 41 G E hST K exS_fit (List.mem_cons_of_mem _ lk_e82ee64b) (List.mem_cons_of_mem _ lk_ded3b8f3) (List.mem_of_getElem? (i := 5) rfl) rfl (fun w h => List.mem_cons_of_mem _ (exS_in w h)) exS_bad exS_ot dX5_addPunch_41 dX5_addPunch_44 dX5_addPunch_45 dX5_addPunch_47 dX5_addPunch_50 (Nat.le_of_ble_eq_true rfl) (Nat.le_of_ble_eq_true rfl) (Nat.le_of_ble_eq_true rfl) (Nat.le_of_ble_eq_true rfl)
  · cases hf
def fX5_addBend_xS (d_columns : Int32) (d_rows : Int32) (d_operations : Int32) (a0 : Int32) (a1 : Int32) (a2 : Int32) : Option Unit :=
  bd1 (fX1_holds d_columns d_rows a0 a1 a2 (1 : Int32)) fun r1 =>
  if ¬ r1 = 0 then (
    bd1 (fX1_isFull d_operations) fun r2 =>
    if r2 = 0 then (
      none) else (
      some ())) else (
    none)
set_option maxRecDepth 100000 in
set_option maxHeartbeats 4000000 in
theorem kX5_addBend_xS (Θ : Tht) (KE : (Nat → Nat) × (Nat → Nat)) (hST : Θ.1.stackTraces = false) (x0 n0 d0 d1 d2 d3 v0 t0 l0 c0 p0 : Nat) (x_oldestSaved : Int32) (x_savedStates : Int32) (d_columns : Int32) (d_rows : Int32) (d_carrier : Int32) (d_partMarks : Int64) (d_linkMarks : Int64) (d_operations : Int32) (d_pilots : Int32) (d_settings : Nat → Int32) (d_facts : Nat → Int32) (d_cells : Nat → Int64) (a0 : Int32) (a1 : Int32) (a2 : Int32) (hf : fX5_addBend_xS d_columns d_rows d_operations a0 a1 a2 = some ()) : FX Θ KE yX5_addBend (Cond.code yX5_addBend cX5_addBend 4 (some .int) :: GW) rmXX [.ref x0, .int a0, .int a1, .int a2] ([(x0, .inr (5, [.ref n0, .ref v0, .int x_oldestSaved, .int x_savedStates, .ref t0, .ref l0, .ref c0]))] ++ [(n0, .inr (4, [.ref d0, .ref p0]))] ++ wX1 Θ d0 d1 d2 d3 d_columns d_rows d_carrier d_partMarks d_linkMarks d_operations d_pilots d_settings d_facts d_cells) eIS ([(x0, .inr (5, [.ref n0, .ref v0, .int x_oldestSaved, .int x_savedStates, .ref t0, .ref l0, .ref c0]))] ++ [(n0, .inr (4, [.ref d0, .ref p0]))] ++ wX1 Θ d0 d1 d2 d3 d_columns d_rows d_carrier d_partMarks d_linkMarks d_operations d_pilots d_settings d_facts d_cells) := by
  delta fX5_addBend_xS at hf
  refine FX.of (by decide +kernel) rfl (Nat.le_of_ble_eq_true rfl) (fun p e s m args below meth c A Q G K E => ?_)
  show sw Θ p e rmXX s m args below meth c A Q 4 0 0 0 [(0, .ref x0), (1, .int a0), (2, .int a1), (3, .int a2)] [] ([(x0, .inr (5, [.ref n0, .ref v0, .int x_oldestSaved, .int x_savedStates, .ref t0, .ref l0, .ref c0]))] ++ [(n0, .inr (4, [.ref d0, .ref p0]))] ++ wX1 Θ d0 d1 d2 d3 d_columns d_rows d_carrier d_partMarks d_linkMarks d_operations d_pilots d_settings d_facts d_cells)
  refine sw_aload_n 0 G dX5_addBend_0 0 rfl ?_
  refine sw_get 1 G hnX5 0 0 dX5_addBend_1 vc5 (by decide) (List.mem_cons_of_mem _ lk_c6576e33) rfl rfl ?_
  refine sw_get 4 G hnX4 1 0 dX5_addBend_4 vc4 (by decide) (List.mem_cons_of_mem _ lk_b490f9e6) rfl rfl ?_
  refine sw_iload_n 7 G dX5_addBend_7 1 rfl ?_
  refine sw_iload_n 8 G dX5_addBend_8 2 rfl ?_
  refine sw_iload_n 9 G dX5_addBend_9 3 rfl ?_
  refine sw_iconst 10 G (1 : Int32) dX5_addBend_10 rfl ?_
  obtain ⟨r1, hg, hf⟩ := bd1_some hf
  refine sw_callV 11 G ([(x0, .inr (5, [.ref n0, .ref v0, .int x_oldestSaved, .int x_savedStates, .ref t0, .ref l0, .ref c0]))] ++ [(n0, .inr (4, [.ref d0, .ref p0]))] ++ wX1 Θ d0 d1 d2 d3 d_columns d_rows d_carrier d_partMarks d_linkMarks d_operations d_pilots d_settings d_facts d_cells) [2, 3, 4, 5] [0, 1] [0, 1, 2, 3, 4, 5] 4 dX5_addBend_11 (kX1_holds Θ d0 d1 d2 d3 d_columns d_rows d_carrier d_partMarks d_linkMarks d_operations d_pilots d_settings d_facts d_cells a0 a1 a2 (1 : Int32) r1 hg) (gwV lk_4fc8583b lk_c194ca58 lk_2d7f3b82 lk_cf66e99d lk_e79936af) rfl hvX1_holds ⟨rfl, rfl⟩ ⟨Nat.le_of_ble_eq_true rfl, Nat.le_of_ble_eq_true rfl⟩ ⟨Nat.zero_le _, Nat.zero_le _⟩ rfl rfl (Nat.le_of_ble_eq_true rfl) 0 rfl vc1 rfl rfl rfl rfl (by decide) ?_
  refine sw_if_ne 14 27 G dX5_addBend_14 rfl hf (fun hf => ?_) (fun hf => ?_)
  · refine sw_aload_n 27 G dX5_addBend_27 0 rfl ?_
    refine sw_get 28 G hnX5 0 0 dX5_addBend_28 vc5 (by decide) (List.mem_cons_of_mem _ lk_c6576e33) rfl rfl ?_
    refine sw_get 31 G hnX4 1 0 dX5_addBend_31 vc4 (by decide) (List.mem_cons_of_mem _ lk_b490f9e6) rfl rfl ?_
    obtain ⟨r2, hg, hf⟩ := bd1_some hf
    refine sw_callV 34 G ([(x0, .inr (5, [.ref n0, .ref v0, .int x_oldestSaved, .int x_savedStates, .ref t0, .ref l0, .ref c0]))] ++ [(n0, .inr (4, [.ref d0, .ref p0]))] ++ wX1 Θ d0 d1 d2 d3 d_columns d_rows d_carrier d_partMarks d_linkMarks d_operations d_pilots d_settings d_facts d_cells) [2, 3, 4, 5] [0, 1] [0, 1, 2, 3, 4, 5] 0 dX5_addBend_34 (kX1_isFull Θ d0 d1 d2 d3 d_columns d_rows d_carrier d_partMarks d_linkMarks d_operations d_pilots d_settings d_facts d_cells r2 hg) (gwV lk_4c281b6e lk_ec5cdf02 lk_5fba3b54 lk_cf66e99d lk_9c153725) rfl hvX1_isFull ⟨rfl, rfl⟩ ⟨Nat.le_of_ble_eq_true rfl, Nat.le_of_ble_eq_true rfl⟩ ⟨Nat.zero_le _, Nat.zero_le _⟩ rfl rfl (Nat.le_of_ble_eq_true rfl) 0 rfl vc1 rfl rfl rfl rfl (by decide) ?_
    refine sw_if_eq 37 50 G dX5_addBend_37 rfl hf (fun hf => ?_) (fun hf => ?_)
    · cases hf
    · cases hf
      exact sw_throwS 40 G E hST K exS_fit (List.mem_cons_of_mem _ lk_e82ee64b) (List.mem_cons_of_mem _ lk_ded3b8f3) (List.mem_of_getElem? (i := 5) rfl) rfl (fun w h => List.mem_cons_of_mem _ (exS_in w h)) exS_bad exS_ot dX5_addBend_40 dX5_addBend_43 dX5_addBend_44 dX5_addBend_46 dX5_addBend_49 (Nat.le_of_ble_eq_true rfl) (Nat.le_of_ble_eq_true rfl) (Nat.le_of_ble_eq_true rfl) (Nat.le_of_ble_eq_true rfl)
  · cases hf
def fX5_setStation_xB (d_operations : Int32) (a0 : Int32) (a1 : Int32) : Option Unit :=
  bd1 (fX1_hasOperation d_operations a0) fun r1 =>
  if ¬ r1 = 0 then (
    none) else (
    some ())
set_option maxRecDepth 100000 in
set_option maxHeartbeats 4000000 in
theorem kX5_setStation_xB (Θ : Tht) (KE : (Nat → Nat) × (Nat → Nat)) (hST : Θ.1.stackTraces = false) (x0 n0 d0 d1 d2 d3 v0 t0 l0 c0 p0 : Nat) (x_oldestSaved : Int32) (x_savedStates : Int32) (d_columns : Int32) (d_rows : Int32) (d_carrier : Int32) (d_partMarks : Int64) (d_linkMarks : Int64) (d_operations : Int32) (d_pilots : Int32) (d_settings : Nat → Int32) (d_facts : Nat → Int32) (d_cells : Nat → Int64) (a0 : Int32) (a1 : Int32) (hf : fX5_setStation_xB d_operations a0 a1 = some ()) : FX Θ KE yX5_setStation (Cond.code yX5_setStation cX5_setStation 4 (some .int) :: GW) rmXX [.ref x0, .int a0, .int a1] ([(x0, .inr (5, [.ref n0, .ref v0, .int x_oldestSaved, .int x_savedStates, .ref t0, .ref l0, .ref c0]))] ++ [(n0, .inr (4, [.ref d0, .ref p0]))] ++ wX1 Θ d0 d1 d2 d3 d_columns d_rows d_carrier d_partMarks d_linkMarks d_operations d_pilots d_settings d_facts d_cells) eIB ([(x0, .inr (5, [.ref n0, .ref v0, .int x_oldestSaved, .int x_savedStates, .ref t0, .ref l0, .ref c0]))] ++ [(n0, .inr (4, [.ref d0, .ref p0]))] ++ wX1 Θ d0 d1 d2 d3 d_columns d_rows d_carrier d_partMarks d_linkMarks d_operations d_pilots d_settings d_facts d_cells) := by
  delta fX5_setStation_xB at hf
  refine FX.of (by decide +kernel) rfl (Nat.le_of_ble_eq_true rfl) (fun p e s m args below meth c A Q G K E => ?_)
  show sw Θ p e rmXX s m args below meth c A Q 4 0 0 0 [(0, .ref x0), (1, .int a0), (2, .int a1)] [] ([(x0, .inr (5, [.ref n0, .ref v0, .int x_oldestSaved, .int x_savedStates, .ref t0, .ref l0, .ref c0]))] ++ [(n0, .inr (4, [.ref d0, .ref p0]))] ++ wX1 Θ d0 d1 d2 d3 d_columns d_rows d_carrier d_partMarks d_linkMarks d_operations d_pilots d_settings d_facts d_cells)
  refine sw_aload_n 0 G dX5_setStation_0 0 rfl ?_
  refine sw_get 1 G hnX5 0 0 dX5_setStation_1 vc5 (by decide) (List.mem_cons_of_mem _ lk_c6576e33) rfl rfl ?_
  refine sw_get 4 G hnX4 1 0 dX5_setStation_4 vc4 (by decide) (List.mem_cons_of_mem _ lk_b490f9e6) rfl rfl ?_
  refine sw_iload_n 7 G dX5_setStation_7 1 rfl ?_
  obtain ⟨r1, hg, hf⟩ := bd1_some hf
  refine sw_callV 8 G ([(x0, .inr (5, [.ref n0, .ref v0, .int x_oldestSaved, .int x_savedStates, .ref t0, .ref l0, .ref c0]))] ++ [(n0, .inr (4, [.ref d0, .ref p0]))] ++ wX1 Θ d0 d1 d2 d3 d_columns d_rows d_carrier d_partMarks d_linkMarks d_operations d_pilots d_settings d_facts d_cells) [2, 3, 4, 5] [0, 1] [0, 1, 2, 3, 4, 5] 1 dX5_setStation_8 (kX1_hasOperation Θ d0 d1 d2 d3 d_columns d_rows d_carrier d_partMarks d_linkMarks d_operations d_pilots d_settings d_facts d_cells a0 r1 hg) (gwV lk_02fe585c lk_bab4024f lk_df64b95a lk_cf66e99d lk_740542d2) rfl hvX1_hasOperation ⟨rfl, rfl⟩ ⟨Nat.le_of_ble_eq_true rfl, Nat.le_of_ble_eq_true rfl⟩ ⟨Nat.zero_le _, Nat.zero_le _⟩ rfl rfl (Nat.le_of_ble_eq_true rfl) 0 rfl vc1 rfl rfl rfl rfl (by decide) ?_
  refine sw_if_ne 11 24 G dX5_setStation_11 rfl hf (fun hf => ?_) (fun hf => ?_)
  · cases hf
  · cases hf
    exact sw_throwS 14 G E hST K exB_fit (List.mem_cons_of_mem _ lk_fc313c61) (List.mem_cons_of_mem _ lk_09a086a1) (List.mem_of_getElem? (i := 7) rfl) rfl (fun w h => List.mem_cons_of_mem _ (exB_in w h)) exB_bad exB_ot dX5_setStation_14 dX5_setStation_17 dX5_setStation_18 dX5_setStation_20 dX5_setStation_23 (Nat.le_of_ble_eq_true rfl) (Nat.le_of_ble_eq_true rfl) (Nat.le_of_ble_eq_true rfl) (Nat.le_of_ble_eq_true rfl)
def fX5_usePlan_xS (F : Nat) (d_columns : Int32) (d_rows : Int32) (d_operations : Int32) (d_settings : Nat → Int32) (d_facts : Nat → Int32) (d_cells : Nat → Int64) (l_chosen : Nat → Int32) (l_touching : Nat → Int32) (l_forces : Nat → Int32) : Option (Int32 × Int32 × Int32 × Int32 × Int32 × (Nat → Int32) × (Nat → Int32) × (Nat → Int32)) :=
  bd9 (fX2_findBest F l_chosen l_touching l_forces d_columns d_rows d_operations d_settings d_facts d_cells) fun r1 u2 u3 u4 u5 u6 u7 u8 u9 =>
  if ¬ r1 = (-1 : Int32) then (
    none) else (
    some (u2, u3, u4, u5, u6, u7, u8, u9))
set_option maxRecDepth 100000 in
set_option maxHeartbeats 4000000 in
theorem kX5_usePlan_xS (Θ : Tht) (KE : (Nat → Nat) × (Nat → Nat)) (hST : Θ.1.stackTraces = false) (F : Nat) (x0 n0 d0 d1 d2 d3 l0 l1 l2 l3 v0 t0 c0 p0 : Nat) (x_oldestSaved : Int32) (x_savedStates : Int32) (d_columns : Int32) (d_rows : Int32) (d_carrier : Int32) (d_partMarks : Int64) (d_linkMarks : Int64) (d_operations : Int32) (d_pilots : Int32) (d_settings : Nat → Int32) (d_facts : Nat → Int32) (d_cells : Nat → Int64) (l_operations : Int32) (l_limit : Int32) (l_gap : Int32) (l_bends : Int32) (l_greatestForce : Int32) (l_chosen : Nat → Int32) (l_touching : Nat → Int32) (l_forces : Nat → Int32) (o_l_operations : Int32) (o_l_limit : Int32) (o_l_gap : Int32) (o_l_bends : Int32) (o_l_greatestForce : Int32) (o_l_chosen : Nat → Int32) (o_l_touching : Nat → Int32) (o_l_forces : Nat → Int32) (hf : fX5_usePlan_xS F d_columns d_rows d_operations d_settings d_facts d_cells l_chosen l_touching l_forces = some (o_l_operations, o_l_limit, o_l_gap, o_l_bends, o_l_greatestForce, o_l_chosen, o_l_touching, o_l_forces)) : FX Θ KE yX5_usePlan (Cond.code yX5_usePlan cX5_usePlan 2 (some .int) :: GW) rmXX [.ref x0] ([(x0, .inr (5, [.ref n0, .ref v0, .int x_oldestSaved, .int x_savedStates, .ref t0, .ref l0, .ref c0]))] ++ [(n0, .inr (4, [.ref d0, .ref p0]))] ++ wX1 Θ d0 d1 d2 d3 d_columns d_rows d_carrier d_partMarks d_linkMarks d_operations d_pilots d_settings d_facts d_cells ++ wX2 Θ l0 l1 l2 l3 l_operations l_limit l_gap l_bends l_greatestForce l_chosen l_touching l_forces) eIS ([(x0, .inr (5, [.ref n0, .ref v0, .int x_oldestSaved, .int x_savedStates, .ref t0, .ref l0, .ref c0]))] ++ [(n0, .inr (4, [.ref d0, .ref p0]))] ++ wX1 Θ d0 d1 d2 d3 d_columns d_rows d_carrier d_partMarks d_linkMarks d_operations d_pilots d_settings d_facts d_cells ++ wX2 Θ l0 l1 l2 l3 o_l_operations o_l_limit o_l_gap o_l_bends o_l_greatestForce o_l_chosen o_l_touching o_l_forces) := by
  delta fX5_usePlan_xS at hf
  refine FX.of (by decide +kernel) rfl (Nat.le_of_ble_eq_true rfl) (fun p e s m args below meth c A Q G K E => ?_)
  show sw Θ p e rmXX s m args below meth c A Q 2 0 0 0 [(0, .ref x0)] [] ([(x0, .inr (5, [.ref n0, .ref v0, .int x_oldestSaved, .int x_savedStates, .ref t0, .ref l0, .ref c0]))] ++ [(n0, .inr (4, [.ref d0, .ref p0]))] ++ wX1 Θ d0 d1 d2 d3 d_columns d_rows d_carrier d_partMarks d_linkMarks d_operations d_pilots d_settings d_facts d_cells ++ wX2 Θ l0 l1 l2 l3 l_operations l_limit l_gap l_bends l_greatestForce l_chosen l_touching l_forces)
  refine sw_aload_n 0 G dX5_usePlan_0 0 rfl ?_
  refine sw_get 1 G hnX5 0 5 dX5_usePlan_1 vc5 (by decide) (List.mem_cons_of_mem _ lk_a45d4547) rfl rfl ?_
  refine sw_aload_n 4 G dX5_usePlan_4 0 rfl ?_
  refine sw_get 5 G hnX5 0 0 dX5_usePlan_5 vc5 (by decide) (List.mem_cons_of_mem _ lk_c6576e33) rfl rfl ?_
  refine sw_get 8 G hnX4 1 0 dX5_usePlan_8 vc4 (by decide) (List.mem_cons_of_mem _ lk_b490f9e6) rfl rfl ?_
  obtain ⟨r1, u2, u3, u4, u5, u6, u7, u8, u9, hg, hf⟩ := bd9_some hf
  refine sw_callV 11 G ([(x0, .inr (5, [.ref n0, .ref v0, .int x_oldestSaved, .int x_savedStates, .ref t0, .ref l0, .ref c0]))] ++ [(n0, .inr (4, [.ref d0, .ref p0]))] ++ wX1 Θ d0 d1 d2 d3 d_columns d_rows d_carrier d_partMarks d_linkMarks d_operations d_pilots d_settings d_facts d_cells ++ wX2 Θ l0 l1 l2 l3 u2 u3 u4 u5 u6 u7 u8 u9) [6, 7, 8, 9, 2, 3, 4, 5] [0, 1] [0, 1, 6, 7, 8, 9, 2, 3, 4, 5] 1 dX5_usePlan_11 (kX2_findBest Θ F l0 l1 l2 l3 d0 d1 d2 d3 l_operations l_limit l_gap l_bends l_greatestForce l_chosen l_touching l_forces d_columns d_rows d_carrier d_partMarks d_linkMarks d_operations d_pilots d_settings d_facts d_cells r1 u2 u3 u4 u5 u6 u7 u8 u9 hg) (gwV lk_86176403 lk_2e86f8d8 lk_ce5cd719 lk_d27e9d3e lk_1f104a63) rfl hvX2_findBest ⟨rfl, rfl⟩ ⟨Nat.le_of_ble_eq_true rfl, Nat.le_of_ble_eq_true rfl⟩ ⟨Nat.zero_le _, Nat.zero_le _⟩ rfl rfl (Nat.le_of_ble_eq_true rfl) 0 rfl vc2 rfl rfl rfl rfl (by decide) ?_
  refine sw_istore_n 14 G [(1, .int r1), (0, .ref x0)] dX5_usePlan_14 (by decide) rfl ?_
  refine sw_iload_n 15 G dX5_usePlan_15 0 rfl ?_
  refine sw_iconst 16 G (-1 : Int32) dX5_usePlan_16 rfl ?_
  refine sw_icmp_ne 17 30 G dX5_usePlan_17 rfl hf (fun hf => ?_) (fun hf => ?_)
  · cases hf
  · cases hf
    exact sw_throwS 20 G E hST K exS_fit (List.mem_cons_of_mem _ lk_e82ee64b) (List.mem_cons_of_mem _ lk_ded3b8f3) (List.mem_of_getElem? (i := 9) rfl) rfl (fun w h => List.mem_cons_of_mem _ (exS_in w h)) exS_bad exS_ot dX5_usePlan_20 dX5_usePlan_23 dX5_usePlan_24 dX5_usePlan_26 dX5_usePlan_29 (Nat.le_of_ble_eq_true rfl) (Nat.le_of_ble_eq_true rfl) (Nat.le_of_ble_eq_true rfl) (Nat.le_of_ble_eq_true rfl)
def fX5_undo_xS (x_savedStates : Int32) : Option Unit :=
  if (1 : Int32) ≤ x_savedStates then (
    none) else (
    some ())
set_option maxRecDepth 100000 in
set_option maxHeartbeats 4000000 in
theorem kX5_undo_xS (Θ : Tht) (KE : (Nat → Nat) × (Nat → Nat)) (hST : Θ.1.stackTraces = false) (x0 n0 v0 t0 l0 c0 : Nat) (x_oldestSaved : Int32) (x_savedStates : Int32) (hf : fX5_undo_xS x_savedStates = some ()) : FX Θ KE yX5_undo (Cond.code yX5_undo cX5_undo 2 (some .int) :: GW) rmXX [.ref x0] ([(x0, .inr (5, [.ref n0, .ref v0, .int x_oldestSaved, .int x_savedStates, .ref t0, .ref l0, .ref c0]))]) eIS ([(x0, .inr (5, [.ref n0, .ref v0, .int x_oldestSaved, .int x_savedStates, .ref t0, .ref l0, .ref c0]))]) := by
  delta fX5_undo_xS at hf
  refine FX.of (by decide +kernel) rfl (Nat.le_of_ble_eq_true rfl) (fun p e s m args below meth c A Q G K E => ?_)
  show sw Θ p e rmXX s m args below meth c A Q 2 0 0 0 [(0, .ref x0)] [] ([(x0, .inr (5, [.ref n0, .ref v0, .int x_oldestSaved, .int x_savedStates, .ref t0, .ref l0, .ref c0]))])
  refine sw_aload_n 0 G dX5_undo_0 0 rfl ?_
  refine sw_get 1 G hnX5 0 3 dX5_undo_1 vc5 (by decide) (List.mem_cons_of_mem _ lk_0c8c23a2) rfl rfl ?_
  refine sw_iconst 4 G (1 : Int32) dX5_undo_4 rfl ?_
  refine sw_icmp_ge 5 19 G dX5_undo_5 rfl hf (fun hf => ?_) (fun hf => ?_)
  · cases hf
  · cases hf
    exact sw_throwSW 8 G E hST K exS_fit (List.mem_cons_of_mem _ lk_e82ee64b) (List.mem_cons_of_mem _ lk_ded3b8f3) (List.mem_of_getElem? (i := 16) rfl) rfl (fun w h => List.mem_cons_of_mem _ (exS_in w h)) exS_bad exS_ot dX5_undo_8 dX5_undo_11 dX5_undo_12 dX5_undo_15 dX5_undo_18 (Nat.le_of_ble_eq_true rfl) (Nat.le_of_ble_eq_true rfl) (Nat.le_of_ble_eq_true rfl) (Nat.le_of_ble_eq_true rfl)
