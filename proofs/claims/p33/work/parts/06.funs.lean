def fX0_append (c_bytes : Nat → Int32) (c_length : Int32) (a0 : Int32) : Option ((Nat → Int32) × Int32) :=
  if c_length < 0 then (
    some (c_bytes, c_length)) else (
    if (150 : Int32) ≤ c_length then (
      some (c_bytes, c_length)) else (
      nm (a0.toInt8.toInt32) fun v1 =>
      gd c_length 150 (
        nm (c_length + (1 : Int32)) fun v2 =>
        some (upd c_bytes c_length.toNatClampNeg (vp_nar .byte v1), v2))))
def fX0_number (c_numbers : Nat → Int32) (a0 : Int32) : Option Int32 :=
  if a0 < 0 then (
    some (0 : Int32)) else (
    if (4 : Int32) ≤ a0 then (
      some (0 : Int32)) else (
      gd a0 4 (
        some (c_numbers a0.toNatClampNeg))))
def fX0_byteAt (c_bytes : Nat → Int32) (c_length : Int32) (a0 : Int32) : Option Int32 :=
  if a0 < 0 then (
    some (-1 : Int32)) else (
    if c_length ≤ a0 then (
      some (-1 : Int32)) else (
      if (150 : Int32) ≤ a0 then (
        some (-1 : Int32)) else (
        gd a0 150 (
          some (c_bytes a0.toNatClampNeg)))))
def fX0_skipSpaces_l0 (c_bytes : Nat → Int32) (c_length : Int32) : Int32 → Option (Int32 ⊕ Int32) := uc1 fun v2 =>
  bd1 (fX0_byteAt c_bytes c_length v2) fun r3 =>
  if ¬ r3 = (32 : Int32) then (
    some (.inr v2)) else (
    if (150 : Int32) ≤ v2 then (
      some (.inr v2)) else (
      nm (v2 + (1 : Int32)) fun v4 =>
      some (.inl v4)))
def fX0_skipSpaces (F : Nat) (c_bytes : Nat → Int32) (c_length : Int32) (c_at : Int32) : Option Int32 :=
  bd1 (lp (fX0_skipSpaces_l0 c_bytes c_length) F c_at) fun v1 =>
  some v1
def fX0_isAtEnd (F : Nat) (c_bytes : Nat → Int32) (c_length : Int32) (c_at : Int32) : Option (Int32 × Int32) :=
  bd1 (fX0_skipSpaces F c_bytes c_length c_at) fun u1 =>
  if u1 < c_length then (
    some ((0 : Int32), u1)) else (
    some ((1 : Int32), u1))
def fX0_isLetter (a0 : Int32) : Option Int32 :=
  if a0 < (97 : Int32) then (
    some (0 : Int32)) else (
    if (122 : Int32) < a0 then (
      some (0 : Int32)) else (
      some (1 : Int32)))
def fX0_numbersOf (a0 : Int32) : Option Int32 :=
  tsw a0 0 8 (fun j => tc j 0 (
    some (2 : Int32)) <| tc j 1 (
    some (4 : Int32)) <| tc j 2 (
    some (4 : Int32)) <| tc j 3 (
    some (4 : Int32)) <| tc j 4 (
    some (3 : Int32)) <| tc j 5 (
    some (2 : Int32)) <| tc j 6 (
    some (0 : Int32)) <| tc j 7 (
    some (1 : Int32)) <| tc j 8 (
    some (1 : Int32)) <| none) (
    some (0 : Int32))
def fX0_isDigit (a0 : Int32) : Option Int32 :=
  if a0 < (48 : Int32) then (
    some (0 : Int32)) else (
    if (57 : Int32) < a0 then (
      some (0 : Int32)) else (
      some (1 : Int32)))
def fX0_readNumber_l39 (c_bytes : Nat → Int32) (c_length : Int32) : (Int32 × Int32 × Int32) → Option ((Int32 × Int32 × Int32) ⊕ (Int32 × Int32)) := uc3 fun v7 v8 v9 =>
  if (3 : Int32) ≤ v8 then (
    some (.inr (v7, v9))) else (
    bd1 (fX0_byteAt c_bytes c_length v9) fun r10 =>
    bd1 (fX0_isDigit r10) fun r11 =>
    if r11 = 0 then (
      some (.inr (v7, v9))) else (
      bd1 (fX0_byteAt c_bytes c_length v9) fun r12 =>
      nm ((((10 : Int32) * v7) + r12) - (48 : Int32)) fun v13 =>
      nm (v9 + (1 : Int32)) fun v14 =>
      some (.inl (v13, v8 + (1 : Int32), v14))))
def fX0_readNumber (F : Nat) (c_bytes : Nat → Int32) (c_numbers : Nat → Int32) (c_length : Int32) (c_at : Int32) (a0 : Int32) : Option (Int32 × (Nat → Int32) × Int32) :=
  bd1 (fX0_byteAt c_bytes c_length c_at) fun r1 =>
  if r1 = (32 : Int32) then (
    bd1 (fX0_skipSpaces F c_bytes c_length c_at) fun u2 =>
    bd1 (fX0_byteAt c_bytes c_length u2) fun r3 =>
    bd1 (fX0_isDigit r3) fun r4 =>
    if ¬ r4 = 0 then (
      bd2 (lp (fX0_readNumber_l39 c_bytes c_length) F ((0 : Int32), (0 : Int32), u2)) fun v5 v6 =>
      if a0 < 0 then (
        some ((1 : Int32), c_numbers, v6)) else (
        if (4 : Int32) ≤ a0 then (
          some ((1 : Int32), c_numbers, v6)) else (
          gd a0 4 (
            some ((1 : Int32), upd c_numbers a0.toNatClampNeg v5, v6))))) else (
      some ((0 : Int32), c_numbers, u2))) else (
    some ((0 : Int32), c_numbers, c_at))
def fX5_copyInts_l2 (r0_len : Nat) (r1_len : Nat) (r0_row : Nat → Int32) : (Int32 × (Nat → Int32)) → Option ((Int32 × (Nat → Int32)) ⊕ (Nat → Int32)) := uc2 fun v2 v3 =>
  if Int32.ofNat r0_len ≤ v2 then (
    some (.inr v3)) else (
    if Int32.ofNat r1_len ≤ v2 then (
      some (.inr v3)) else (
      gd v2 r0_len (
        nm (r0_row v2.toNatClampNeg) fun v4 =>
        gd v2 r1_len (
          some (.inl (v2 + (1 : Int32), upd v3 v2.toNatClampNeg v4))))))
def fX5_copyInts (F : Nat) (r0_len : Nat) (r1_len : Nat) (r0_row : Nat → Int32) (r1_row : Nat → Int32) : Option (Nat → Int32) :=
  bd1 (lp (fX5_copyInts_l2 r0_len r1_len r0_row) F ((0 : Int32), r1_row)) fun v1 =>
  some v1
def fX5_copyLongs_l2 (r0_len : Nat) (r1_len : Nat) (r0_row : Nat → Int64) : (Int32 × (Nat → Int64)) → Option ((Int32 × (Nat → Int64)) ⊕ (Nat → Int64)) := uc2 fun v2 v3 =>
  if Int32.ofNat r0_len ≤ v2 then (
    some (.inr v3)) else (
    if Int32.ofNat r1_len ≤ v2 then (
      some (.inr v3)) else (
      gd v2 r0_len (
        nm (r0_row v2.toNatClampNeg) fun v4 =>
        gd v2 r1_len (
          some (.inl (v2 + (1 : Int32), vp_updL v3 v2.toNatClampNeg v4))))))
def fX5_copyLongs (F : Nat) (r0_len : Nat) (r1_len : Nat) (r0_row : Nat → Int64) (r1_row : Nat → Int64) : Option (Nat → Int64) :=
  bd1 (lp (fX5_copyLongs_l2 r0_len r1_len r0_row) F ((0 : Int32), r1_row)) fun v1 =>
  some v1
def fX1_copyFrom (F : Nat) (d_settings : Nat → Int32) (d_facts : Nat → Int32) (d_cells : Nat → Int64) (o_columns : Int32) (o_rows : Int32) (o_carrier : Int32) (o_partMarks : Int64) (o_linkMarks : Int64) (o_operations : Int32) (o_pilots : Int32) (o_settings : Nat → Int32) (o_facts : Nat → Int32) (o_cells : Nat → Int64) : Option (Int32 × Int32 × Int32 × Int64 × Int64 × Int32 × Int32 × (Nat → Int32) × (Nat → Int32) × (Nat → Int64)) :=
  bd1 (fX5_copyInts F 5 5 o_settings d_settings) fun u1 =>
  bd1 (fX5_copyInts F 42 42 o_facts d_facts) fun u2 =>
  bd1 (fX5_copyLongs F 6 6 o_cells d_cells) fun u3 =>
  some (o_columns, o_rows, o_carrier, o_partMarks, o_linkMarks, o_operations, o_pilots, u1, u2, u3)
def fX1_startOver (a0 : Int32) (a1 : Int32) : Option (Int32 × Int32 × Int64 × Int64 × Int32 × Int32) :=
  some (a0, a1, (0 : Int64), (0 : Int64), (0 : Int32), (0 : Int32))
def fX1_setting (d_settings : Nat → Int32) (a0 : Int32) : Option Int32 :=
  if a0 < 0 then (
    some (0 : Int32)) else (
    if (5 : Int32) ≤ a0 then (
      some (0 : Int32)) else (
      gd a0 5 (
        some (d_settings a0.toNatClampNeg))))
def fX1_changeSetting (d_settings : Nat → Int32) (a0 : Int32) (a1 : Int32) : Option (Nat → Int32) :=
  if a0 < 0 then (
    some d_settings) else (
    if (5 : Int32) ≤ a0 then (
      some d_settings) else (
      gd a0 5 (
        some (upd d_settings a0.toNatClampNeg a1))))
def fX5_isIn (a0 : Int32) (a1 : Int32) : Option Int32 :=
  if (a0 >>> (a1 &&& 31)) &&& (1 : Int32) = 0 then (
    some (0 : Int32)) else (
    some (1 : Int32))
def fX1_hasPilot (d_pilots : Int32) (a0 : Int32) : Option Int32 :=
  bd1 (fX5_isIn d_pilots a0) fun r1 =>
  gb r1 (
    some r1)
def fX1_changePilot (d_pilots : Int32) (a0 : Int32) (a1 : Int32) : Option Int32 :=
  bd1 (
    if a1 = 0 then (
      some (d_pilots &&& (((1 : Int32) <<< (a0 &&& 31)) ^^^ (-1 : Int32)))) else (
      some (d_pilots ||| ((1 : Int32) <<< (a0 &&& 31))))) fun v1 =>
  some v1
def fX1_fact (d_facts : Nat → Int32) (a0 : Int32) (a1 : Int32) : Option Int32 :=
  nm ((a0 * (7 : Int32)) + a1) fun v1 =>
  if v1 < 0 then (
    some (0 : Int32)) else (
    if (42 : Int32) ≤ v1 then (
      some (0 : Int32)) else (
      gd v1 42 (
        some (d_facts v1.toNatClampNeg))))
def fX1_planStations_l4 (d_operations : Int32) (d_facts : Nat → Int32) : (Int32 × Int32) → Option ((Int32 × Int32) ⊕ Int32) := uc2 fun v2 v3 =>
  if d_operations ≤ v3 then (
    some (.inr v2)) else (
    bd1 (fX1_fact d_facts v3 (6 : Int32)) fun r4 =>
    nm (if v2 < r4 then r4 else v2) fun v5 =>
    some (.inl (v5, v3 + (1 : Int32))))
def fX1_planStations (F : Nat) (d_operations : Int32) (d_facts : Nat → Int32) : Option Int32 :=
  bd1 (lp (fX1_planStations_l4 d_operations d_facts) F ((-1 : Int32), (0 : Int32))) fun v1 =>
  some (v1 + (1 : Int32))
def fX1_wholeValue (F : Nat) (d_columns : Int32) (d_rows : Int32) (d_carrier : Int32) (d_operations : Int32) (d_settings : Nat → Int32) (d_facts : Nat → Int32) (a0 : Int32) : Option Int32 :=
  tsw a0 0 9 (fun j => tc j 0 (
    some d_columns) <| tc j 1 (
    some d_rows) <| tc j 2 (
    some d_carrier) <| tc j 3 (
    bd1 (fX1_setting d_settings (a0 - (3 : Int32))) fun r2 =>
    some r2) <| tc j 4 (
    bd1 (fX1_setting d_settings (a0 - (3 : Int32))) fun r3 =>
    some r3) <| tc j 5 (
    bd1 (fX1_setting d_settings (a0 - (3 : Int32))) fun r4 =>
    some r4) <| tc j 6 (
    bd1 (fX1_setting d_settings (a0 - (3 : Int32))) fun r5 =>
    some r5) <| tc j 7 (
    bd1 (fX1_setting d_settings (a0 - (3 : Int32))) fun r6 =>
    some r6) <| tc j 8 (
    some d_operations) <| tc j 9 (
    bd1 (fX1_planStations F d_operations d_facts) fun r7 =>
    some r7) <| none) (
    bd1 (fX1_setting d_settings (a0 - (3 : Int32))) fun r1 =>
    some r1)
def fX1_holds (d_columns : Int32) (d_rows : Int32) (a0 : Int32) (a1 : Int32) (a2 : Int32) (a3 : Int32) : Option Int32 :=
  if a2 < (1 : Int32) then (
    some (0 : Int32)) else (
    if d_columns < a2 then (
      some (0 : Int32)) else (
      if a3 < (1 : Int32) then (
        some (0 : Int32)) else (
        if d_rows < a3 then (
          some (0 : Int32)) else (
          if a0 < 0 then (
            some (0 : Int32)) else (
            if d_columns - a2 < a0 then (
              some (0 : Int32)) else (
              if a1 < 0 then (
                some (0 : Int32)) else (
                if d_rows - a3 < a1 then (
                  some (0 : Int32)) else (
                  some (1 : Int32)))))))))
def fX1_rectangle_l15 (d_columns : Int32) (d_rows : Int32) (a1 : Int32) (a3 : Int32) (v1 : Int64) : (Int64 × Int32) → Option ((Int64 × Int32) ⊕ Int64) := uc2 fun v3 v4 =>
  if a3 ≤ v4 then (
    some (.inr v3)) else (
    if d_rows ≤ v4 then (
      some (.inr v3)) else (
      nm (v3 ||| (v1 <<< (((a1 + v4) * d_columns).toInt64 &&& 63))) fun v5 =>
      some (.inl (v5, v4 + (1 : Int32)))))
def fX1_rectangle (F : Nat) (d_columns : Int32) (d_rows : Int32) (a0 : Int32) (a1 : Int32) (a2 : Int32) (a3 : Int32) : Option Int64 :=
  nm ((((1 : Int64) <<< (a2.toInt64 &&& 63)) - (1 : Int64)) <<< (a0.toInt64 &&& 63)) fun v1 =>
  bd1 (lp (fX1_rectangle_l15 d_columns d_rows a1 a3 v1) F ((0 : Int64), (0 : Int32))) fun v2 =>
  some v2
def fX1_allCells (d_columns : Int32) (d_rows : Int32) : Option Int64 :=
  some (((1 : Int64) <<< ((d_columns * d_rows).toInt64 &&& 63)) - (1 : Int64))
def fJ13_bitCount_95d88 (a0 : Int64) : Option Int32 :=
  nm (a0 - ((lush a0 (1 : Int32)) &&& (6148914691236517205 : Int64))) fun v1 =>
  nm ((v1 &&& (3689348814741910323 : Int64)) + ((lush v1 (2 : Int32)) &&& (3689348814741910323 : Int64))) fun v2 =>
  nm ((v2 + (lush v2 (4 : Int32))) &&& (1085102592571150095 : Int64)) fun v3 =>
  nm (v3 + (lush v3 (8 : Int32))) fun v4 =>
  nm (v4 + (lush v4 (16 : Int32))) fun v5 =>
  nm (v5 + (lush v5 (32 : Int32))) fun v6 =>
  some (v6.toInt32 &&& (127 : Int32))
def fX1_markCells (d_partMarks : Int64) (d_linkMarks : Int64) (a0 : Int64) (a1 : Int32) : Option (Int32 × Int64 × Int64) :=
  bd1 (
    if ¬ a1 = (1 : Int32) then (
      some (d_partMarks &&& (a0 ^^^ (-1 : Int64)))) else (
      some (d_partMarks ||| a0))) fun v1 =>
  bd1 (
    if ¬ a1 = (2 : Int32) then (
      some (d_linkMarks &&& (a0 ^^^ (-1 : Int64)))) else (
      some (d_linkMarks ||| a0))) fun v2 =>
  nm ((v1 ^^^ d_partMarks) ||| (v2 ^^^ d_linkMarks)) fun v3 =>
  bd1 (fJ13_bitCount_95d88 v3) fun r4 =>
  some (r4, v1, v2)
def fX1_carrierCells (d_columns : Int32) (d_rows : Int32) (d_carrier : Int32) : Option Int64 :=
  nm (((1 : Int64) <<< (d_columns.toInt64 &&& 63)) - (1 : Int64)) fun v1 =>
  nm (v1 <<< (((d_rows - (1 : Int32)) * d_columns).toInt64 &&& 63)) fun v2 =>
  if ¬ d_carrier = (2 : Int32) then (
    if ¬ d_carrier = 0 then (
      some v2) else (
      some v1)) else (
    some (v1 ||| v2))
def fX1_partCells (d_columns : Int32) (d_rows : Int32) (d_carrier : Int32) (d_partMarks : Int64) : Option Int64 :=
  bd1 (fX1_carrierCells d_columns d_rows d_carrier) fun r1 =>
  some (d_partMarks &&& (r1 ^^^ (-1 : Int64)))
def fX1_linkCells (d_columns : Int32) (d_rows : Int32) (d_carrier : Int32) (d_linkMarks : Int64) : Option Int64 :=
  bd1 (fX1_carrierCells d_columns d_rows d_carrier) fun r1 =>
  some (d_linkMarks &&& (r1 ^^^ (-1 : Int64)))
def fX1_wasteCells (d_columns : Int32) (d_rows : Int32) (d_carrier : Int32) (d_partMarks : Int64) (d_linkMarks : Int64) : Option Int64 :=
  bd1 (fX1_allCells d_columns d_rows) fun r1 =>
  bd1 (fX1_carrierCells d_columns d_rows d_carrier) fun r2 =>
  some (r1 &&& (((d_partMarks ||| d_linkMarks) ||| r2) ^^^ (-1 : Int64)))
def fX1_cellsOf (d_cells : Nat → Int64) (a0 : Int32) : Option Int64 :=
  if a0 < 0 then (
    some (0 : Int64)) else (
    if (6 : Int32) ≤ a0 then (
      some (0 : Int64)) else (
      gd a0 6 (
        some (d_cells a0.toNatClampNeg))))
def fX1_cellsOfKind_l5 (d_operations : Int32) (d_facts : Nat → Int32) (d_cells : Nat → Int64) (a0 : Int32) : (Int64 × Int32) → Option ((Int64 × Int32) ⊕ Int64) := uc2 fun v2 v3 =>
  if d_operations ≤ v3 then (
    some (.inr v2)) else (
    bd1 (fX1_fact d_facts v3 (0 : Int32)) fun r4 =>
    bd1 (
      if ¬ r4 = a0 then (
        some v2) else (
        bd1 (fX1_cellsOf d_cells v3) fun r6 =>
        nm (v2 ||| r6) fun v7 =>
        some v7)) fun v5 =>
    some (.inl (v5, v3 + (1 : Int32))))
def fX1_cellsOfKind (F : Nat) (d_operations : Int32) (d_facts : Nat → Int32) (d_cells : Nat → Int64) (a0 : Int32) : Option Int64 :=
  bd1 (lp (fX1_cellsOfKind_l5 d_operations d_facts d_cells a0) F ((0 : Int64), (0 : Int32))) fun v1 =>
  some v1
def fX1_forgottenCells (F : Nat) (d_columns : Int32) (d_rows : Int32) (d_carrier : Int32) (d_partMarks : Int64) (d_linkMarks : Int64) (d_operations : Int32) (d_facts : Nat → Int32) (d_cells : Nat → Int64) : Option Int64 :=
  bd1 (fX1_wasteCells d_columns d_rows d_carrier d_partMarks d_linkMarks) fun r1 =>
  bd1 (fX1_cellsOfKind F d_operations d_facts d_cells (0 : Int32)) fun r2 =>
  some (r1 &&& (r2 ^^^ (-1 : Int64)))
def fX1_neighbors (F : Nat) (d_columns : Int32) (d_rows : Int32) (a0 : Int64) : Option Int64 :=
  bd1 (fX1_rectangle F d_columns d_rows (0 : Int32) (0 : Int32) (1 : Int32) d_rows) fun r1 =>
  nm (r1 <<< ((d_columns - (1 : Int32)).toInt64 &&& 63)) fun v2 =>
  nm (((a0 &&& (v2 ^^^ (-1 : Int64))) <<< ((1 : Int32).toInt64 &&& 63)) ||| (lush (a0 &&& (r1 ^^^ (-1 : Int64))) (1 : Int32))) fun v3 =>
  nm ((a0 <<< (d_columns.toInt64 &&& 63)) ||| (lush a0 d_columns)) fun v4 =>
  bd1 (fX1_allCells d_columns d_rows) fun r5 =>
  some ((v3 ||| v4) &&& r5)
def fX1_looseCells_l20 (F : Nat) (d_columns : Int32) (d_rows : Int32) (v2 : Int64) : (Int64 × Int32) → Option ((Int64 × Int32) ⊕ Int64) := uc2 fun v5 v6 =>
  if (60 : Int32) ≤ v6 then (
    some (.inr v5)) else (
    bd1 (fX1_neighbors F d_columns d_rows v5) fun r7 =>
    nm (v5 ||| (r7 &&& v2)) fun v8 =>
    if ¬ lg_cmp v8 v5 = 0 then (
      some (.inl (v8, v6 + (1 : Int32)))) else (
      some (.inr v5)))
def fX1_looseCells (F : Nat) (d_columns : Int32) (d_rows : Int32) (d_carrier : Int32) (d_partMarks : Int64) (d_linkMarks : Int64) : Option Int64 :=
  bd1 (fX1_carrierCells d_columns d_rows d_carrier) fun r1 =>
  nm ((d_partMarks ||| d_linkMarks) ||| r1) fun v2 =>
  bd1 (lp (fX1_looseCells_l20 F d_columns d_rows v2) F (r1, (0 : Int32))) fun v3 =>
  bd1 (fX1_partCells d_columns d_rows d_carrier d_partMarks) fun r4 =>
  some (r4 &&& (v3 ^^^ (-1 : Int64)))
def fX1_halfTurned_l18 (a0 : Int64) (v1 : Int32) : (Int64 × Int32) → Option ((Int64 × Int32) ⊕ Int64) := uc2 fun v3 v4 =>
  if v1 < v4 then (
    some (.inr v3)) else (
    nm (v3 ||| (((lush a0 v4) &&& (1 : Int64)) <<< ((v1 - v4).toInt64 &&& 63))) fun v5 =>
    some (.inl (v5, v4 + (1 : Int32))))
def fX1_halfTurned (F : Nat) (d_columns : Int32) (d_rows : Int32) (a0 : Int64) : Option Int64 :=
  nm ((d_columns * d_rows) - (1 : Int32)) fun v1 =>
  bd1 (lp (fX1_halfTurned_l18 a0 v1) F ((0 : Int64), (0 : Int32))) fun v2 =>
  some v2
def fX1_hasPlaceForSecond (F : Nat) (d_columns : Int32) (d_rows : Int32) (d_carrier : Int32) (d_partMarks : Int64) : Option Int32 :=
  bd1 (fX1_partCells d_columns d_rows d_carrier d_partMarks) fun r1 =>
  bd1 (fX1_halfTurned F d_columns d_rows r1) fun r2 =>
  if lg_cmp r1 (0 : Int64) = 0 then (
    some (0 : Int32)) else (
    bd1 (fX1_carrierCells d_columns d_rows d_carrier) fun r3 =>
    bd1 (fX1_neighbors F d_columns d_rows r1) fun r4 =>
    if ¬ lg_cmp (r2 &&& ((r3 ||| r1) ||| r4)) (0 : Int64) = 0 then (
      some (0 : Int32)) else (
      some (1 : Int32)))
def fX1_faultOfDie (F : Nat) (d_columns : Int32) (d_rows : Int32) (d_carrier : Int32) (d_partMarks : Int64) (d_linkMarks : Int64) (d_operations : Int32) (d_facts : Nat → Int32) (d_cells : Nat → Int64) : Option Int32 :=
  bd1 (fX1_partCells d_columns d_rows d_carrier d_partMarks) fun r1 =>
  bd1 (fX1_cellsOfKind F d_operations d_facts d_cells (0 : Int32)) fun r2 =>
  if ¬ lg_cmp r1 (0 : Int64) = 0 then (
    bd1 (fX1_linkCells d_columns d_rows d_carrier d_linkMarks) fun r3 =>
    if lg_cmp (r2 &&& (r1 ||| r3)) (0 : Int64) = 0 then (
      bd1 (fX1_carrierCells d_columns d_rows d_carrier) fun r4 =>
      if lg_cmp (r2 &&& r4) (0 : Int64) = 0 then (
        bd1 (fX1_cellsOfKind F d_operations d_facts d_cells (1 : Int32)) fun r5 =>
        if lg_cmp (r5 &&& (r1 ^^^ (-1 : Int64))) (0 : Int64) = 0 then (
          bd1 (fX1_forgottenCells F d_columns d_rows d_carrier d_partMarks d_linkMarks d_operations d_facts d_cells) fun r6 =>
          if lg_cmp r6 (0 : Int64) = 0 then (
            bd1 (fX1_looseCells F d_columns d_rows d_carrier d_partMarks d_linkMarks) fun r7 =>
            if lg_cmp r7 (0 : Int64) = 0 then (
              some (0 : Int32)) else (
              some (6 : Int32))) else (
            some (5 : Int32))) else (
          some (4 : Int32))) else (
        some (3 : Int32))) else (
      some (2 : Int32))) else (
    some (1 : Int32))
def fX1_isFull (d_operations : Int32) : Option Int32 :=
  if d_operations < (6 : Int32) then (
    some (0 : Int32)) else (
    some (1 : Int32))
def fX1_hasOperation (d_operations : Int32) (a0 : Int32) : Option Int32 :=
  if a0 < 0 then (
    some (0 : Int32)) else (
    if d_operations ≤ a0 then (
      some (0 : Int32)) else (
      some (1 : Int32)))
def fX1_changeFact (d_facts : Nat → Int32) (a0 : Int32) (a1 : Int32) (a2 : Int32) : Option (Nat → Int32) :=
  nm ((a0 * (7 : Int32)) + a1) fun v1 =>
  if v1 < 0 then (
    some d_facts) else (
    if (42 : Int32) ≤ v1 then (
      some d_facts) else (
      gd v1 42 (
        some (upd d_facts v1.toNatClampNeg a2))))
def fX1_changeCells (d_cells : Nat → Int64) (a0 : Int32) (a1 : Int64) : Option (Nat → Int64) :=
  if a0 < 0 then (
    some d_cells) else (
    if (6 : Int32) ≤ a0 then (
      some d_cells) else (
      gd a0 6 (
        some (vp_updL d_cells a0.toNatClampNeg a1))))
def fX1_append (F : Nat) (d_columns : Int32) (d_rows : Int32) (d_operations : Int32) (d_facts : Nat → Int32) (d_cells : Nat → Int64) (a0 : Int32) (a1 : Int32) (a2 : Int32) (a3 : Int32) (a4 : Int32) : Option (Int32 × Int32 × (Nat → Int32) × (Nat → Int64)) :=
  bd1 (fX1_changeFact d_facts d_operations (0 : Int32) a0) fun u1 =>
  bd1 (fX1_changeFact u1 d_operations (1 : Int32) a1) fun u2 =>
  bd1 (fX1_changeFact u2 d_operations (2 : Int32) a2) fun u3 =>
  bd1 (fX1_changeFact u3 d_operations (3 : Int32) a3) fun u4 =>
  bd1 (fX1_changeFact u4 d_operations (4 : Int32) a4) fun u5 =>
  bd1 (
    if ¬ a0 = 0 then (
      some a3) else (
      some ((2 : Int32) * (a3 + a4)))) fun v6 =>
  bd1 (fX1_changeFact u5 d_operations (5 : Int32) v6) fun u7 =>
  bd1 (fX1_changeFact u7 d_operations (6 : Int32) (-1 : Int32)) fun u8 =>
  bd1 (fX1_rectangle F d_columns d_rows a1 a2 a3 a4) fun r9 =>
  bd1 (fX1_changeCells d_cells d_operations r9) fun u10 =>
  nm (d_operations + (1 : Int32)) fun v11 =>
  some (d_operations, v11, u8, u10)
def fX1_remove_l14 (v4 : Int32) : (Int32 × (Nat → Int32)) → Option ((Int32 × (Nat → Int32)) ⊕ (Nat → Int32)) := uc2 fun v10 v11 =>
  if (7 : Int32) ≤ v10 then (
    some (.inr v11)) else (
    bd1 (fX1_fact v11 (v4 + (1 : Int32)) v10) fun r12 =>
    bd1 (fX1_changeFact v11 v4 v10 r12) fun u13 =>
    some (.inl (v10 + (1 : Int32), u13)))
def fX1_remove_l2 (F : Nat) (d_operations : Int32) : (Int32 × (Nat → Int32) × (Nat → Int64)) → Option ((Int32 × (Nat → Int32) × (Nat → Int64)) ⊕ ((Nat → Int32) × (Nat → Int64))) := uc3 fun v4 v5 v6 =>
  if d_operations - (1 : Int32) ≤ v4 then (
    some (.inr (v5, v6))) else (
    bd1 (lp (fX1_remove_l14 v4) F ((0 : Int32), v5)) fun v7 =>
    bd1 (fX1_cellsOf v6 (v4 + (1 : Int32))) fun r8 =>
    bd1 (fX1_changeCells v6 v4 r8) fun u9 =>
    some (.inl (v4 + (1 : Int32), v7, u9)))
def fX1_remove (F : Nat) (d_operations : Int32) (d_facts : Nat → Int32) (d_cells : Nat → Int64) (a0 : Int32) : Option (Int32 × (Nat → Int32) × (Nat → Int64)) :=
  bd2 (lp (fX1_remove_l2 F d_operations) F (a0, d_facts, d_cells)) fun v1 v2 =>
  nm (d_operations - (1 : Int32)) fun v3 =>
  some (v3, v1, v2)
def fX1_touching_l22 (d_operations : Int32) (d_cells : Nat → Int64) (a0 : Int32) (v4 : Int64) : (Int32 × Int32) → Option ((Int32 × Int32) ⊕ Int32) := uc2 fun v6 v7 =>
  if d_operations ≤ v7 then (
    some (.inr v6)) else (
    bd1 (
      if v7 = a0 then (
        some v6) else (
        bd1 (fX1_cellsOf d_cells v7) fun r9 =>
        if lg_cmp (v4 &&& r9) (0 : Int64) = 0 then (
          some v6) else (
          nm (v6 ||| ((1 : Int32) <<< (v7 &&& 31))) fun v10 =>
          some v10))) fun v8 =>
    some (.inl (v8, v7 + (1 : Int32))))
def fX1_touching (F : Nat) (d_columns : Int32) (d_rows : Int32) (d_operations : Int32) (d_cells : Nat → Int64) (a0 : Int32) : Option Int32 :=
  bd1 (fX1_cellsOf d_cells a0) fun r1 =>
  bd1 (fX1_cellsOf d_cells a0) fun r2 =>
  bd1 (fX1_neighbors F d_columns d_rows r2) fun r3 =>
  nm (r1 ||| r3) fun v4 =>
  bd1 (lp (fX1_touching_l22 d_operations d_cells a0 v4) F ((0 : Int32), (0 : Int32))) fun v5 =>
  some v5
def fX1_operationsAt_l4 (d_operations : Int32) (d_facts : Nat → Int32) (a0 : Int32) : (Int32 × Int32) → Option ((Int32 × Int32) ⊕ Int32) := uc2 fun v2 v3 =>
  if d_operations ≤ v3 then (
    some (.inr v2)) else (
    bd1 (fX1_fact d_facts v3 (6 : Int32)) fun r4 =>
    bd1 (
      if ¬ r4 = a0 then (
        some v2) else (
        nm (v2 ||| ((1 : Int32) <<< (v3 &&& 31))) fun v6 =>
        some v6)) fun v5 =>
    some (.inl (v5, v3 + (1 : Int32))))
def fX1_operationsAt (F : Nat) (d_operations : Int32) (d_facts : Nat → Int32) (a0 : Int32) : Option Int32 :=
  bd1 (lp (fX1_operationsAt_l4 d_operations d_facts a0) F ((0 : Int32), (0 : Int32))) fun v1 =>
  some v1
def fX1_forceAt_l4 (d_operations : Int32) (d_facts : Nat → Int32) (a0 : Int32) : (Int32 × Int32) → Option ((Int32 × Int32) ⊕ Int32) := uc2 fun v2 v3 =>
  if d_operations ≤ v3 then (
    some (.inr v2)) else (
    bd1 (fX1_fact d_facts v3 (6 : Int32)) fun r4 =>
    bd1 (
      if ¬ r4 = a0 then (
        some v2) else (
        bd1 (fX1_fact d_facts v3 (5 : Int32)) fun r6 =>
        nm (v2 + r6) fun v7 =>
        some v7)) fun v5 =>
    some (.inl (v5, v3 + (1 : Int32))))
def fX1_forceAt (F : Nat) (d_operations : Int32) (d_facts : Nat → Int32) (a0 : Int32) : Option Int32 :=
  bd1 (lp (fX1_forceAt_l4 d_operations d_facts a0) F ((0 : Int32), (0 : Int32))) fun v1 =>
  some v1
def fX1_isTooEarly_l8 (d_operations : Int32) (d_settings : Nat → Int32) (d_facts : Nat → Int32) (a0 : Int32) (r1 : Int32) : Int32 → Option (Int32 ⊕ (Unit ⊕ Unit)) := uc1 fun v2 =>
  if d_operations ≤ v2 then (
    some (.inr (.inr (())))) else (
    bd1 (fX5_isIn r1 v2) fun r3 =>
    bd1 (
      if r3 = 0 then (
        some (0 : Int32)) else (
        bd1 (fX1_fact d_facts v2 (0 : Int32)) fun r5 =>
        if ¬ r5 = 0 then (
          some (0 : Int32)) else (
          some (1 : Int32)))) fun v4 =>
    if v4 = 0 then (
      some (.inl (v2 + (1 : Int32)))) else (
      bd1 (fX1_fact d_facts a0 (6 : Int32)) fun r6 =>
      bd1 (fX1_fact d_facts v2 (6 : Int32)) fun r7 =>
      bd1 (fX1_setting d_settings (1 : Int32)) fun r8 =>
      if (r7 + (1 : Int32)) + r8 ≤ r6 then (
        some (.inl (v2 + (1 : Int32)))) else (
        some (.inr (.inl ())))))
def fX1_isTooEarly (F : Nat) (d_columns : Int32) (d_rows : Int32) (d_operations : Int32) (d_settings : Nat → Int32) (d_facts : Nat → Int32) (d_cells : Nat → Int64) (a0 : Int32) : Option Int32 :=
  bd1 (fX1_touching F d_columns d_rows d_operations d_cells a0) fun r1 =>
  bdS2 (lp (fX1_isTooEarly_l8 d_operations d_settings d_facts a0 r1) F (0 : Int32)) (uc0 (
    some (1 : Int32))) (uc0 (
    some (0 : Int32)))
def fX1_faultOfPlan_l79 (F : Nat) (d_columns : Int32) (d_rows : Int32) (d_operations : Int32) (d_settings : Nat → Int32) (d_facts : Nat → Int32) (d_cells : Nat → Int64) : Int32 → Option (Int32 ⊕ (Unit ⊕ Unit)) := uc1 fun v2 =>
  if d_operations ≤ v2 then (
    some (.inr (.inr (())))) else (
    bd1 (fX1_fact d_facts v2 (0 : Int32)) fun r3 =>
    if ¬ r3 = (1 : Int32) then (
      some (.inl (v2 + (1 : Int32)))) else (
      bd1 (fX1_isTooEarly F d_columns d_rows d_operations d_settings d_facts d_cells v2) fun r4 =>
      if r4 = 0 then (
        some (.inl (v2 + (1 : Int32)))) else (
        some (.inr (.inl ())))))
def fX1_faultOfPlan_l41 (F : Nat) (d_columns : Int32) (d_rows : Int32) (d_operations : Int32) (d_facts : Nat → Int32) (d_cells : Nat → Int64) : Int32 → Option (Int32 ⊕ (Unit ⊕ Unit)) := uc1 fun v5 =>
  if d_operations ≤ v5 then (
    some (.inr (.inr (())))) else (
    bd1 (fX1_touching F d_columns d_rows d_operations d_cells v5) fun r6 =>
    bd1 (fX1_fact d_facts v5 (6 : Int32)) fun r7 =>
    bd1 (fX1_operationsAt F d_operations d_facts r7) fun r8 =>
    if r6 &&& r8 = 0 then (
      some (.inl (v5 + (1 : Int32)))) else (
      some (.inr (.inl ()))))
def fX1_faultOfPlan_l12 (F : Nat) (d_operations : Int32) (d_settings : Nat → Int32) (d_facts : Nat → Int32) : Int32 → Option (Int32 ⊕ (Unit ⊕ Unit)) := uc1 fun v9 =>
  if (8 : Int32) ≤ v9 then (
    some (.inr (.inr (())))) else (
    bd1 (fX1_forceAt F d_operations d_facts v9) fun r10 =>
    bd1 (fX1_setting d_settings (0 : Int32)) fun r11 =>
    if r10 ≤ r11 then (
      some (.inl (v9 + (1 : Int32)))) else (
      some (.inr (.inl ()))))
def fX1_faultOfPlan (F : Nat) (d_columns : Int32) (d_rows : Int32) (d_operations : Int32) (d_settings : Nat → Int32) (d_facts : Nat → Int32) (d_cells : Nat → Int64) : Option Int32 :=
  bd1 (fX1_operationsAt F d_operations d_facts (-1 : Int32)) fun r1 =>
  if r1 = 0 then (
    bdS2 (lp (fX1_faultOfPlan_l12 F d_operations d_settings d_facts) F (0 : Int32)) (uc0 (
      some (2 : Int32))) (uc0 (
      bdS2 (lp (fX1_faultOfPlan_l41 F d_columns d_rows d_operations d_facts d_cells) F (0 : Int32)) (uc0 (
        some (3 : Int32))) (uc0 (
        bdS2 (lp (fX1_faultOfPlan_l79 F d_columns d_rows d_operations d_settings d_facts d_cells) F (0 : Int32)) (uc0 (
          some (4 : Int32))) (uc0 (
          some (0 : Int32)))))))) else (
    some (1 : Int32))
def fX2_prepare_l34 (F : Nat) (d_columns : Int32) (d_rows : Int32) (d_operations : Int32) (d_facts : Nat → Int32) (d_cells : Nat → Int64) (v1 : Int32) : (Int32 × Int32 × Int32 × (Nat → Int32) × (Nat → Int32)) → Option ((Int32 × Int32 × Int32 × (Nat → Int32) × (Nat → Int32)) ⊕ (Int32 × Int32 × (Nat → Int32) × (Nat → Int32))) := uc5 fun v7 v8 v9 v10 v11 =>
  if v1 ≤ v7 then (
    some (.inr (v8, v9, v10, v11))) else (
    if (6 : Int32) ≤ v7 then (
      some (.inr (v8, v9, v10, v11))) else (
      if (6 : Int32) ≤ v7 then (
        some (.inr (v8, v9, v10, v11))) else (
        bd1 (fX1_touching F d_columns d_rows d_operations d_cells v7) fun r12 =>
        gd v7 6 (
          bd1 (fX1_fact d_facts v7 (5 : Int32)) fun r13 =>
          gd v7 6 (
            gd v7 6 (
              nm (if v9 < (upd v11 v7.toNatClampNeg r13) v7.toNatClampNeg then (upd v11 v7.toNatClampNeg r13) v7.toNatClampNeg else v9) fun v14 =>
              bd1 (fX1_fact d_facts v7 (0 : Int32)) fun r15 =>
              bd1 (
                if ¬ r15 = (1 : Int32) then (
                  some v8) else (
                  nm (v8 ||| ((1 : Int32) <<< (v7 &&& 31))) fun v17 =>
                  some v17)) fun v16 =>
              some (.inl (v7 + (1 : Int32), v16, v14, upd v10 v7.toNatClampNeg r12, upd v11 v7.toNatClampNeg r13))))))))
def fX2_prepare (F : Nat) (l_touching : Nat → Int32) (l_forces : Nat → Int32) (d_columns : Int32) (d_rows : Int32) (d_operations : Int32) (d_settings : Nat → Int32) (d_facts : Nat → Int32) (d_cells : Nat → Int64) : Option (Int32 × Int32 × Int32 × Int32 × (Nat → Int32) × (Nat → Int32)) :=
  nm (if (6 : Int32) < d_operations then (6 : Int32) else d_operations) fun v1 =>
  bd1 (fX1_setting d_settings (1 : Int32)) fun r2 =>
  bd4 (lp (fX2_prepare_l34 F d_columns d_rows d_operations d_facts d_cells v1) F ((0 : Int32), (0 : Int32), (0 : Int32), l_touching, l_forces)) fun v3 v4 v5 v6 =>
  some (v1, r2, v3, v4, v5, v6)
def fX2_touchingOf (l_touching : Nat → Int32) (a0 : Int32) : Option Int32 :=
  if a0 < 0 then (
    some (0 : Int32)) else (
    if (6 : Int32) ≤ a0 then (
      some (0 : Int32)) else (
      gd a0 6 (
        some (l_touching a0.toNatClampNeg))))
def fX2_chosenFor (l_chosen : Nat → Int32) (a0 : Int32) : Option Int32 :=
  if a0 < 0 then (
    some (-1 : Int32)) else (
    if (6 : Int32) ≤ a0 then (
      some (-1 : Int32)) else (
      gd a0 6 (
        some (l_chosen a0.toNatClampNeg))))
def fX2_forceOf (l_forces : Nat → Int32) (a0 : Int32) : Option Int32 :=
  if a0 < 0 then (
    some (0 : Int32)) else (
    if (6 : Int32) ≤ a0 then (
      some (0 : Int32)) else (
      gd a0 6 (
        some (l_forces a0.toNatClampNeg))))
def fX2_fits_l19 (l_gap : Int32) (l_bends : Int32) (l_chosen : Nat → Int32) (l_touching : Nat → Int32) (l_forces : Nat → Int32) (a0 : Int32) (a1 : Int32) (r2 : Int32) : (Int32 × Int32) → Option ((Int32 × Int32) ⊕ (Unit ⊕ Int32)) := uc2 fun v4 v5 =>
  if a0 ≤ v5 then (
    some (.inr (.inr (v4)))) else (
    bd1 (fX2_chosenFor l_chosen v5) fun r6 =>
    nm (a1 - r6) fun v7 =>
    bd1 (fX5_isIn l_bends v5) fun r8 =>
    bd1 (
      if ¬ r2 = r8 then (
        bd1 (
          if r2 = 0 then (
            some (-v7)) else (
            some v7)) fun v10 =>
        if (1 : Int32) + l_gap ≤ v10 then (
          some (0 : Int32)) else (
          some (1 : Int32))) else (
        if ¬ v7 = 0 then (
          some (0 : Int32)) else (
          some (1 : Int32)))) fun v9 =>
    if v9 = 0 then (
      bd1 (
        if ¬ v7 = 0 then (
          some v4) else (
          bd1 (fX2_forceOf l_forces v5) fun r12 =>
          nm (v4 + r12) fun v13 =>
          some v13)) fun v11 =>
      some (.inl (v11, v5 + (1 : Int32)))) else (
      bd1 (fX2_touchingOf l_touching a0) fun r14 =>
      bd1 (fX5_isIn r14 v5) fun r15 =>
      if r15 = 0 then (
        bd1 (
          if ¬ v7 = 0 then (
            some v4) else (
            bd1 (fX2_forceOf l_forces v5) fun r17 =>
            nm (v4 + r17) fun v18 =>
            some v18)) fun v16 =>
        some (.inl (v16, v5 + (1 : Int32)))) else (
        some (.inr (.inl ())))))
def fX2_fits (F : Nat) (l_limit : Int32) (l_gap : Int32) (l_bends : Int32) (l_chosen : Nat → Int32) (l_touching : Nat → Int32) (l_forces : Nat → Int32) (a0 : Int32) (a1 : Int32) : Option Int32 :=
  bd1 (fX2_forceOf l_forces a0) fun r1 =>
  bd1 (fX5_isIn l_bends a0) fun r2 =>
  bdS2 (lp (fX2_fits_l19 l_gap l_bends l_chosen l_touching l_forces a0 a1 r2) F (r1, (0 : Int32))) (uc0 (
    some (0 : Int32))) (uc1 fun v3 =>
    if l_limit < v3 then (
      some (0 : Int32)) else (
      some (1 : Int32)))
def fX2_nextStation_l98 (F : Nat) (l_limit : Int32) (l_gap : Int32) (l_bends : Int32) (l_chosen : Nat → Int32) (l_touching : Nat → Int32) (l_forces : Nat → Int32) (a0 : Int32) (v8 : Int32) : Int32 → Option (Int32 ⊕ (Int32 ⊕ Unit)) := uc1 fun v13 =>
  if v8 ≤ v13 then (
    some (.inr (.inr (())))) else (
    bd1 (fX2_fits F l_limit l_gap l_bends l_chosen l_touching l_forces a0 v13) fun r14 =>
    if r14 = 0 then (
      some (.inl (v13 + (1 : Int32)))) else (
      some (.inr (.inl v13))))
def fX2_nextStation (F : Nat) (l_limit : Int32) (l_gap : Int32) (l_bends : Int32) (l_chosen : Nat → Int32) (l_touching : Nat → Int32) (l_forces : Nat → Int32) (a0 : Int32) (a1 : Int32) : Option Int32 :=
  bd1 (fX5_isIn l_bends a0) fun r1 =>
  bd1 (fX2_touchingOf l_touching a0) fun r2 =>
  bd1 (
    if r1 = 0 then (
      some l_bends) else (
      some (l_bends ^^^ (-1 : Int32)))) fun v3 =>
  bd1 (
    if r2 &&& v3 = 0 then (
      some (0 : Int32)) else (
      some (1 : Int32))) fun v4 =>
  bd1 (fX2_chosenFor l_chosen a0) fun r5 =>
  nm (r5 + (1 : Int32)) fun v6 =>
  bd2 (
    if v4 = 0 then (
      if v4 = 0 then (
        some (v6, a1)) else (
        nm ((a1 - (1 : Int32)) - l_gap) fun v9 =>
        some (v6, v9))) else (
      if r1 = 0 then (
        if v4 = 0 then (
          some (v6, a1)) else (
          nm ((a1 - (1 : Int32)) - l_gap) fun v10 =>
          some (v6, v10))) else (
        nm (if v6 < (1 : Int32) + l_gap then (1 : Int32) + l_gap else v6) fun v11 =>
        some (v11, a1)))) fun v7 v8 =>
  bdS2 (lp (fX2_nextStation_l98 F l_limit l_gap l_bends l_chosen l_touching l_forces a0 v8) F v7) (uc1 fun v12 =>
    some v12) (uc0 (
    some (-1 : Int32)))
def fX2_findWithin_l28 (F : Nat) (l_operations : Int32) (l_limit : Int32) (l_gap : Int32) (l_bends : Int32) (l_touching : Nat → Int32) (l_forces : Nat → Int32) (a0 : Int32) : (Int32 × Int32 × (Nat → Int32)) → Option ((Int32 × Int32 × (Nat → Int32)) ⊕ (Int32 × (Nat → Int32))) := uc3 fun v4 v5 v6 =>
  if (1000000 : Int32) ≤ v5 then (
    some (.inr (v4, v6))) else (
    if v4 < 0 then (
      some (.inr (v4, v6))) else (
      if l_operations ≤ v4 then (
        some (.inr (v4, v6))) else (
        if (6 : Int32) ≤ v4 then (
          some (.inr (v4, v6))) else (
          bd1 (fX2_nextStation F l_limit l_gap l_bends v6 l_touching l_forces v4 a0) fun r7 =>
          gd v4 6 (
            gd v4 6 (
              bd1 (
                if ¬ (upd v6 v4.toNatClampNeg r7) v4.toNatClampNeg = (-1 : Int32) then (
                  some (v4 + (1 : Int32))) else (
                  some (v4 - (1 : Int32)))) fun v8 =>
              some (.inl (v8, v5 + (1 : Int32), upd v6 v4.toNatClampNeg r7))))))))
def fX2_findWithin_l2 : (Int32 × (Nat → Int32)) → Option ((Int32 × (Nat → Int32)) ⊕ (Nat → Int32)) := uc2 fun v9 v10 =>
  if (6 : Int32) ≤ v9 then (
    some (.inr v10)) else (
    gd v9 6 (
      some (.inl (v9 + (1 : Int32), upd v10 v9.toNatClampNeg (-1 : Int32)))))
def fX2_findWithin (F : Nat) (l_operations : Int32) (l_limit : Int32) (l_gap : Int32) (l_bends : Int32) (l_chosen : Nat → Int32) (l_touching : Nat → Int32) (l_forces : Nat → Int32) (a0 : Int32) : Option (Int32 × (Nat → Int32)) :=
  bd1 (lp (fX2_findWithin_l2) F ((0 : Int32), l_chosen)) fun v1 =>
  bd2 (lp (fX2_findWithin_l28 F l_operations l_limit l_gap l_bends l_touching l_forces a0) F ((0 : Int32), (0 : Int32), v1)) fun v2 v3 =>
  if v2 < l_operations then (
    some ((0 : Int32), v3)) else (
    some ((1 : Int32), v3))
def fX2_findBest_l29 (F : Nat) (u1 : Int32) (u2 : Int32) (u3 : Int32) (u5 : Nat → Int32) (u6 : Nat → Int32) (r7 : Int32) : (Int32 × (Nat → Int32)) → Option ((Int32 × (Nat → Int32)) ⊕ ((Int32 × (Nat → Int32)) ⊕ (Nat → Int32))) := uc2 fun v11 v12 =>
  if (8 : Int32) < v11 then (
    some (.inr (.inr (v12)))) else (
    bd2 (fX2_findWithin F u1 r7 u2 u3 v12 u5 u6 v11) fun r13 u14 =>
    if r13 = 0 then (
      some (.inl (v11 + (1 : Int32), u14))) else (
      some (.inr (.inl (v11, u14)))))
def fX2_findBest (F : Nat) (l_chosen : Nat → Int32) (l_touching : Nat → Int32) (l_forces : Nat → Int32) (d_columns : Int32) (d_rows : Int32) (d_operations : Int32) (d_settings : Nat → Int32) (d_facts : Nat → Int32) (d_cells : Nat → Int64) : Option (Int32 × Int32 × Int32 × Int32 × Int32 × Int32 × (Nat → Int32) × (Nat → Int32) × (Nat → Int32)) :=
  bd6 (fX2_prepare F l_touching l_forces d_columns d_rows d_operations d_settings d_facts d_cells) fun u1 u2 u3 u4 u5 u6 =>
  bd1 (fX1_setting d_settings (0 : Int32)) fun r7 =>
  if u4 ≤ r7 then (
    bdS2 (lp (fX2_findBest_l29 F u1 u2 u3 u5 u6 r7) F ((0 : Int32), l_chosen)) (uc2 fun v8 v9 =>
      some (v8, u1, r7, u2, u3, u4, v9, u5, u6)) (uc1 fun v10 =>
      some ((-1 : Int32), u1, r7, u2, u3, u4, v10, u5, u6))) else (
    some ((-1 : Int32), u1, r7, u2, u3, u4, l_chosen, u5, u6))
def fX2_findLeastLimit_l39 (F : Nat) (u1 : Int32) (u2 : Int32) (u3 : Int32) (u5 : Nat → Int32) (u6 : Nat → Int32) : (Int32 × Int32 × Int32 × Int32 × (Nat → Int32)) → Option ((Int32 × Int32 × Int32 × Int32 × (Nat → Int32)) ⊕ (Int32 × Int32 × (Nat → Int32))) := uc5 fun v13 v14 v15 v16 v17 =>
  if (999 : Int32) ≤ v15 then (
    some (.inr (v13, v16, v17))) else (
    if v14 ≤ v13 then (
      some (.inr (v13, v16, v17))) else (
      gz (2 : Int32) (
        nm ((v13 + v14) / (2 : Int32)) fun v18 =>
        bd2 (fX2_findWithin F u1 v18 u2 u3 v17 u5 u6 (8 : Int32)) fun r19 u20 =>
        bd2 (
          if r19 = 0 then (
            nm (v18 + (1 : Int32)) fun v23 =>
            some (v23, v14)) else (
            some (v13, v18))) fun v21 v22 =>
        some (.inl (v21, v22, v15 + (1 : Int32), v18, u20)))))
def fX2_findLeastLimit (F : Nat) (l_chosen : Nat → Int32) (l_touching : Nat → Int32) (l_forces : Nat → Int32) (d_columns : Int32) (d_rows : Int32) (d_operations : Int32) (d_settings : Nat → Int32) (d_facts : Nat → Int32) (d_cells : Nat → Int64) : Option (Int32 × Int32 × Int32 × Int32 × Int32 × Int32 × (Nat → Int32) × (Nat → Int32) × (Nat → Int32)) :=
  bd6 (fX2_prepare F l_touching l_forces d_columns d_rows d_operations d_settings d_facts d_cells) fun u1 u2 u3 u4 u5 u6 =>
  bd2 (fX2_findWithin F u1 (999 : Int32) u2 u3 l_chosen u5 u6 (8 : Int32)) fun r7 u8 =>
  if ¬ r7 = 0 then (
    nm (if (1 : Int32) < u4 then u4 else (1 : Int32)) fun v9 =>
    bd3 (lp (fX2_findLeastLimit_l39 F u1 u2 u3 u5 u6) F (v9, (999 : Int32), (0 : Int32), (999 : Int32), u8)) fun v10 v11 v12 =>
    some (v10, u1, v11, u2, u3, u4, v12, u5, u6)) else (
    some ((-1 : Int32), u1, (999 : Int32), u2, u3, u4, u8, u5, u6))
def fX2_putInto_l2 (l_chosen : Nat → Int32) (d_operations : Int32) : (Int32 × (Nat → Int32)) → Option ((Int32 × (Nat → Int32)) ⊕ (Nat → Int32)) := uc2 fun v2 v3 =>
  if d_operations ≤ v2 then (
    some (.inr v3)) else (
    bd1 (fX2_chosenFor l_chosen v2) fun r4 =>
    bd1 (fX1_changeFact v3 v2 (6 : Int32) r4) fun u5 =>
    some (.inl (v2 + (1 : Int32), u5)))
def fX2_putInto (F : Nat) (l_chosen : Nat → Int32) (d_operations : Int32) (d_facts : Nat → Int32) : Option (Nat → Int32) :=
  bd1 (lp (fX2_putInto_l2 l_chosen d_operations) F ((0 : Int32), d_facts)) fun v1 =>
  some v1
def fX3_copyFrom (F : Nat) (p_cells : Nat → Int64) (p_bends : Nat → Int32) (p_offsets : Nat → Int32) (o_pitches : Int32) (o_spoiled : Int32) (o_cells : Nat → Int64) (o_bends : Nat → Int32) (o_offsets : Nat → Int32) (o_strokes : Int32) (o_goodParts : Int32) (o_badParts : Int32) (o_slugs : Int32) : Option (Int32 × Int32 × (Nat → Int64) × (Nat → Int32) × (Nat → Int32) × Int32 × Int32 × Int32 × Int32) :=
  bd1 (fX5_copyLongs F 9 9 o_cells p_cells) fun u1 =>
  bd1 (fX5_copyInts F 9 9 o_bends p_bends) fun u2 =>
  bd1 (fX5_copyInts F 9 9 o_offsets p_offsets) fun u3 =>
  some (o_pitches, o_spoiled, u1, u2, u3, o_strokes, o_goodParts, o_badParts, o_slugs)
def fJ6_bitCount_0f7a4 (a0 : Int32) : Option Int32 :=
  nm (a0 - ((iush a0 (1 : Int32)) &&& (1431655765 : Int32))) fun v1 =>
  nm ((v1 &&& (858993459 : Int32)) + ((iush v1 (2 : Int32)) &&& (858993459 : Int32))) fun v2 =>
  nm ((v2 + (iush v2 (4 : Int32))) &&& (252645135 : Int32)) fun v3 =>
  nm (v3 + (iush v3 (8 : Int32))) fun v4 =>
  nm (v4 + (iush v4 (16 : Int32))) fun v5 =>
  some (v5 &&& (63 : Int32))
def fX3_clearPitches (p_pitches : Int32) : Option (Int32 × Int32 × Int32) :=
  bd1 (fJ6_bitCount_0f7a4 p_pitches) fun r1 =>
  some (r1, (0 : Int32), (0 : Int32))
def fX3_startOver (p_pitches : Int32) : Option (Int32 × Int32 × Int32 × Int32 × Int32 × Int32) :=
  bd3 (fX3_clearPitches p_pitches) fun r1 u2 u3 =>
  some (u2, u3, (0 : Int32), (0 : Int32), (0 : Int32), (0 : Int32))
def fX3_hasPitch (p_pitches : Int32) (a0 : Int32) : Option Int32 :=
  bd1 (fX5_isIn p_pitches a0) fun r1 =>
  gb r1 (
    some r1)
def fX3_cellsAt (p_cells : Nat → Int64) (a0 : Int32) : Option Int64 :=
  if a0 < 0 then (
    some (0 : Int64)) else (
    if (9 : Int32) ≤ a0 then (
      some (0 : Int64)) else (
      gd a0 9 (
        some (p_cells a0.toNatClampNeg))))
def fX3_bendsAt (p_bends : Nat → Int32) (a0 : Int32) : Option Int32 :=
  if a0 < 0 then (
    some (0 : Int32)) else (
    if (9 : Int32) ≤ a0 then (
      some (0 : Int32)) else (
      gd a0 9 (
        some (p_bends a0.toNatClampNeg))))
def fX3_offsetAt (p_offsets : Nat → Int32) (a0 : Int32) : Option Int32 :=
  if a0 < 0 then (
    some (0 : Int32)) else (
    if (9 : Int32) ≤ a0 then (
      some (0 : Int32)) else (
      gd a0 9 (
        some (p_offsets a0.toNatClampNeg))))
def fX3_changePitch (p_cells : Nat → Int64) (p_bends : Nat → Int32) (p_offsets : Nat → Int32) (a0 : Int32) (a1 : Int64) (a2 : Int32) (a3 : Int32) : Option ((Nat → Int64) × (Nat → Int32) × (Nat → Int32)) :=
  if a0 < 0 then (
    some (p_cells, p_bends, p_offsets)) else (
    if (9 : Int32) ≤ a0 then (
      some (p_cells, p_bends, p_offsets)) else (
      if (9 : Int32) ≤ a0 then (
        some (p_cells, p_bends, p_offsets)) else (
        if (9 : Int32) ≤ a0 then (
          some (p_cells, p_bends, p_offsets)) else (
          gd a0 9 (
            gd a0 9 (
              gd a0 9 (
                some (vp_updL p_cells a0.toNatClampNeg a1, upd p_bends a0.toNatClampNeg a2, upd p_offsets a0.toNatClampNeg a3))))))))
def fX3_valueOf (p_spoiled : Int32) (p_cells : Nat → Int64) (p_bends : Nat → Int32) (p_offsets : Nat → Int32) (a0 : Int32) (a1 : Int32) : Option Int32 :=
  tsw a1 0 2 (fun j => tc j 0 (
    bd1 (fX3_bendsAt p_bends a0) fun r3 =>
    some r3) <| tc j 1 (
    bd1 (fX3_offsetAt p_offsets a0) fun r4 =>
    some r4) <| tc j 2 (
    bd1 (fX5_isIn p_spoiled a0) fun r5 =>
    if r5 = 0 then (
      some (0 : Int32)) else (
      some (1 : Int32))) <| none) (
    bd1 (fX3_cellsAt p_cells a0) fun r1 =>
    bd1 (fJ13_bitCount_95d88 r1) fun r2 =>
    some r2)
def fX3_wholeValue (p_pitches : Int32) (p_strokes : Int32) (p_goodParts : Int32) (p_badParts : Int32) (p_slugs : Int32) (a0 : Int32) : Option Int32 :=
  tsw a0 10 13 (fun j => tc j 0 (
    bd1 (fJ6_bitCount_0f7a4 p_pitches) fun r1 =>
    some r1) <| tc j 1 (
    some p_strokes) <| tc j 2 (
    some p_goodParts) <| tc j 3 (
    some p_badParts) <| none) (
    some p_slugs)
def fX3_forgetBend_l8 (v1 : Int32) : (Int32 × (Nat → Int32)) → Option ((Int32 × (Nat → Int32)) ⊕ (Nat → Int32)) := uc2 fun v3 v4 =>
  if (9 : Int32) ≤ v3 then (
    some (.inr v4)) else (
    gd v3 9 (
      gd v3 9 (
        nm (((v4 v3.toNatClampNeg) &&& v1) ||| (((v4 v3.toNatClampNeg) >>> ((1 : Int32) &&& 31)) &&& (v1 ^^^ (-1 : Int32)))) fun v5 =>
        gd v3 9 (
          some (.inl (v3 + (1 : Int32), upd v4 v3.toNatClampNeg v5))))))
def fX3_forgetBend (F : Nat) (p_bends : Nat → Int32) (a0 : Int32) : Option (Nat → Int32) :=
  nm (((1 : Int32) <<< (a0 &&& 31)) - (1 : Int32)) fun v1 =>
  bd1 (lp (fX3_forgetBend_l8 v1) F ((0 : Int32), p_bends)) fun v2 =>
  some v2
def fX3_moveOn_l3 (d_settings : Nat → Int32) : (Int32 × (Nat → Int64) × (Nat → Int32) × (Nat → Int32)) → Option ((Int32 × (Nat → Int64) × (Nat → Int32) × (Nat → Int32)) ⊕ ((Nat → Int64) × (Nat → Int32) × (Nat → Int32))) := uc4 fun v10 v11 v12 v13 =>
  if v10 < (1 : Int32) then (
    some (.inr (v11, v12, v13))) else (
    bd1 (fX3_cellsAt v11 (v10 - (1 : Int32))) fun r14 =>
    bd1 (fX3_bendsAt v12 (v10 - (1 : Int32))) fun r15 =>
    bd1 (fX3_offsetAt v13 (v10 - (1 : Int32))) fun r16 =>
    bd1 (fX1_setting d_settings (2 : Int32)) fun r17 =>
    bd3 (fX3_changePitch v11 v12 v13 v10 r14 r15 (r16 + r17)) fun u18 u19 u20 =>
    some (.inl (v10 + (-1 : Int32), u18, u19, u20)))
def fX3_moveOn (F : Nat) (p_pitches : Int32) (p_spoiled : Int32) (p_cells : Nat → Int64) (p_bends : Nat → Int32) (p_offsets : Nat → Int32) (d_columns : Int32) (d_rows : Int32) (d_settings : Nat → Int32) : Option (Int32 × Int32 × (Nat → Int64) × (Nat → Int32) × (Nat → Int32)) :=
  bd3 (lp (fX3_moveOn_l3 d_settings) F ((8 : Int32), p_cells, p_bends, p_offsets)) fun v1 v2 v3 =>
  bd1 (fX1_allCells d_columns d_rows) fun r4 =>
  bd3 (fX3_changePitch v1 v2 v3 (0 : Int32) r4 (0 : Int32) (0 : Int32)) fun u5 u6 u7 =>
  nm ((p_pitches <<< ((1 : Int32) &&& 31)) ||| (1 : Int32)) fun v8 =>
  nm (p_spoiled <<< ((1 : Int32) &&& 31)) fun v9 =>
  some (v8, v9, u5, u6, u7)
def fX3_hasAllBends_l2 (p_bends : Nat → Int32) (d_operations : Int32) (d_facts : Nat → Int32) (a1 : Int32) : Int32 → Option (Int32 ⊕ (Unit ⊕ Unit)) := uc1 fun v1 =>
  if d_operations ≤ v1 then (
    some (.inr (.inr (())))) else (
    bd1 (fX1_fact d_facts v1 (0 : Int32)) fun r2 =>
    if ¬ r2 = (1 : Int32) then (
      some (.inl (v1 + (1 : Int32)))) else (
      bd1 (fX3_bendsAt p_bends a1) fun r3 =>
      bd1 (fX5_isIn r3 v1) fun r4 =>
      if ¬ r4 = 0 then (
        some (.inl (v1 + (1 : Int32)))) else (
        some (.inr (.inl ())))))
def fX3_hasAllBends (F : Nat) (p_bends : Nat → Int32) (d_operations : Int32) (d_facts : Nat → Int32) (a1 : Int32) : Option Int32 :=
  bdS2 (lp (fX3_hasAllBends_l2 p_bends d_operations d_facts a1) F (0 : Int32)) (uc0 (
    some (0 : Int32))) (uc0 (
    some (1 : Int32)))
def fX3_cutOff_l17 (F : Nat) (p_cells : Nat → Int64) (p_bends : Nat → Int32) (d_operations : Int32) (d_facts : Nat → Int32) (r1 : Int64) (r2 : Int64) : (Int32 × Int32 × Int32 × Int32 × Int32) → Option ((Int32 × Int32 × Int32 × Int32 × Int32) ⊕ (Int32 × Int32 × Int32 × Int32)) := uc5 fun v8 v9 v10 v11 v12 =>
  if (9 : Int32) ≤ v8 then (
    some (.inr (v9, v10, v11, v12))) else (
    bd1 (fX3_hasPitch v9 v8) fun r13 =>
    bd4 (
      if r13 = 0 then (
        some (v9, v10, v11, v12)) else (
        bd1 (fX3_cellsAt p_cells v8) fun r18 =>
        bd1 (
          if ¬ lg_cmp (r18 &&& (r1 ||| r2)) r1 = 0 then (
            some (0 : Int32)) else (
            some (1 : Int32))) fun v19 =>
        bd2 (
          if v19 = 0 then (
            nm (v12 + (1 : Int32)) fun v22 =>
            some (v11, v22)) else (
            bd1 (fX3_hasAllBends F p_bends d_operations d_facts v8) fun r23 =>
            if r23 = 0 then (
              nm (v12 + (1 : Int32)) fun v24 =>
              some (v11, v24)) else (
              bd1 (fX5_isIn v10 v8) fun r25 =>
              if ¬ r25 = 0 then (
                nm (v12 + (1 : Int32)) fun v26 =>
                some (v11, v26)) else (
                nm (v11 + (1 : Int32)) fun v27 =>
                some (v27, v12))))) fun v20 v21 =>
        nm (v9 &&& (((1 : Int32) <<< (v8 &&& 31)) ^^^ (-1 : Int32))) fun v28 =>
        nm (v10 &&& (((1 : Int32) <<< (v8 &&& 31)) ^^^ (-1 : Int32))) fun v29 =>
        some (v28, v29, v20, v21))) fun v14 v15 v16 v17 =>
    some (.inl (v8 + (1 : Int32), v14, v15, v16, v17)))
def fX3_cutOff (F : Nat) (p_pitches : Int32) (p_spoiled : Int32) (p_cells : Nat → Int64) (p_bends : Nat → Int32) (p_goodParts : Int32) (p_badParts : Int32) (d_columns : Int32) (d_rows : Int32) (d_carrier : Int32) (d_partMarks : Int64) (d_linkMarks : Int64) (d_operations : Int32) (d_facts : Nat → Int32) : Option (Int32 × Int32 × Int32 × Int32) :=
  bd1 (fX1_partCells d_columns d_rows d_carrier d_partMarks) fun r1 =>
  bd1 (fX1_wasteCells d_columns d_rows d_carrier d_partMarks d_linkMarks) fun r2 =>
  bd1 (fX1_planStations F d_operations d_facts) fun r3 =>
  bd4 (lp (fX3_cutOff_l17 F p_cells p_bends d_operations d_facts r1 r2) F (r3, p_pitches, p_spoiled, p_goodParts, p_badParts)) fun v4 v5 v6 v7 =>
  some (v4, v5, v6, v7)
def fX3_catchDrift_l2 (p_pitches : Int32) (d_pilots : Int32) (d_settings : Nat → Int32) : (Int32 × Int32 × (Nat → Int64) × (Nat → Int32) × (Nat → Int32)) → Option ((Int32 × Int32 × (Nat → Int64) × (Nat → Int32) × (Nat → Int32)) ⊕ (Int32 × (Nat → Int64) × (Nat → Int32) × (Nat → Int32))) := uc5 fun v5 v6 v7 v8 v9 =>
  if (8 : Int32) ≤ v5 then (
    some (.inr (v6, v7, v8, v9))) else (
    bd1 (fX3_hasPitch p_pitches v5) fun r10 =>
    bd4 (
      if r10 = 0 then (
        some (v6, v7, v8, v9)) else (
        bd1 (fX1_hasPilot d_pilots v5) fun r15 =>
        if r15 = 0 then (
          some (v6, v7, v8, v9)) else (
          bd1 (fX3_offsetAt v9 v5) fun r16 =>
          bd1 (fX1_setting d_settings (3 : Int32)) fun r17 =>
          if r17 < r16 then (
            nm (v6 ||| ((1 : Int32) <<< (v5 &&& 31))) fun v18 =>
            some (v18, v7, v8, v9)) else (
            bd1 (fX3_cellsAt v7 v5) fun r19 =>
            bd1 (fX3_bendsAt v8 v5) fun r20 =>
            bd3 (fX3_changePitch v7 v8 v9 v5 r19 r20 (0 : Int32)) fun u21 u22 u23 =>
            some (v6, u21, u22, u23))))) fun v11 v12 v13 v14 =>
    some (.inl (v5 + (1 : Int32), v11, v12, v13, v14)))
def fX3_catchDrift (F : Nat) (p_pitches : Int32) (p_spoiled : Int32) (p_cells : Nat → Int64) (p_bends : Nat → Int32) (p_offsets : Nat → Int32) (d_pilots : Int32) (d_settings : Nat → Int32) : Option (Int32 × (Nat → Int64) × (Nat → Int32) × (Nat → Int32)) :=
  bd4 (lp (fX3_catchDrift_l2 p_pitches d_pilots d_settings) F ((0 : Int32), p_spoiled, p_cells, p_bends, p_offsets)) fun v1 v2 v3 v4 =>
  some (v1, v2, v3, v4)
def fX3_doOperation (p_spoiled : Int32) (p_cells : Nat → Int64) (p_bends : Nat → Int32) (p_offsets : Nat → Int32) (p_slugs : Int32) (d_settings : Nat → Int32) (d_facts : Nat → Int32) (d_cells : Nat → Int64) (a1 : Int32) (a2 : Int32) : Option (Int32 × (Nat → Int64) × (Nat → Int32) × (Nat → Int32) × Int32) :=
  bd1 (fX1_fact d_facts a1 (0 : Int32)) fun r1 =>
  bd4 (
    if ¬ r1 = 0 then (
      bd1 (fX3_cellsAt p_cells a2) fun r6 =>
      bd1 (fX3_bendsAt p_bends a2) fun r7 =>
      bd1 (fX3_offsetAt p_offsets a2) fun r8 =>
      bd3 (fX3_changePitch p_cells p_bends p_offsets a2 r6 (r7 ||| ((1 : Int32) <<< (a1 &&& 31))) r8) fun u9 u10 u11 =>
      some (u9, u10, u11, p_slugs)) else (
      bd1 (fX3_cellsAt p_cells a2) fun r12 =>
      bd1 (fX1_cellsOf d_cells a1) fun r13 =>
      nm (r12 &&& r13) fun v14 =>
      bd1 (fJ13_bitCount_95d88 v14) fun r15 =>
      nm (p_slugs + r15) fun v16 =>
      bd1 (fX3_cellsAt p_cells a2) fun r17 =>
      bd1 (fX3_bendsAt p_bends a2) fun r18 =>
      bd1 (fX3_offsetAt p_offsets a2) fun r19 =>
      bd3 (fX3_changePitch p_cells p_bends p_offsets a2 (r17 &&& (v14 ^^^ (-1 : Int64))) r18 r19) fun u20 u21 u22 =>
      some (u20, u21, u22, v16))) fun v2 v3 v4 v5 =>
  bd1 (fX3_offsetAt v4 a2) fun r23 =>
  bd1 (fX1_setting d_settings (4 : Int32)) fun r24 =>
  if r23 ≤ r24 then (
    some (p_spoiled, v2, v3, v4, v5)) else (
    nm (p_spoiled ||| ((1 : Int32) <<< (a2 &&& 31))) fun v25 =>
    some (v25, v2, v3, v4, v5))
def fX3_work_l2 (p_pitches : Int32) (d_operations : Int32) (d_settings : Nat → Int32) (d_facts : Nat → Int32) (d_cells : Nat → Int64) : (Int32 × Int32 × (Nat → Int64) × (Nat → Int32) × (Nat → Int32) × Int32) → Option ((Int32 × Int32 × (Nat → Int64) × (Nat → Int32) × (Nat → Int32) × Int32) ⊕ (Int32 × (Nat → Int64) × (Nat → Int32) × (Nat → Int32) × Int32)) := uc6 fun v6 v7 v8 v9 v10 v11 =>
  if d_operations ≤ v6 then (
    some (.inr (v7, v8, v9, v10, v11))) else (
    bd1 (fX1_fact d_facts v6 (6 : Int32)) fun r12 =>
    bd5 (
      if r12 = (-1 : Int32) then (
        some (v7, v8, v9, v10, v11)) else (
        bd1 (fX3_hasPitch p_pitches r12) fun r18 =>
        if r18 = 0 then (
          some (v7, v8, v9, v10, v11)) else (
          bd5 (fX3_doOperation v7 v8 v9 v10 v11 d_settings d_facts d_cells v6 r12) fun u19 u20 u21 u22 u23 =>
          some (u19, u20, u21, u22, u23)))) fun v13 v14 v15 v16 v17 =>
    some (.inl (v6 + (1 : Int32), v13, v14, v15, v16, v17)))
def fX3_work (F : Nat) (p_pitches : Int32) (p_spoiled : Int32) (p_cells : Nat → Int64) (p_bends : Nat → Int32) (p_offsets : Nat → Int32) (p_slugs : Int32) (d_operations : Int32) (d_settings : Nat → Int32) (d_facts : Nat → Int32) (d_cells : Nat → Int64) : Option (Int32 × (Nat → Int64) × (Nat → Int32) × (Nat → Int32) × Int32) :=
  bd5 (lp (fX3_work_l2 p_pitches d_operations d_settings d_facts d_cells) F ((0 : Int32), p_spoiled, p_cells, p_bends, p_offsets, p_slugs)) fun v1 v2 v3 v4 v5 =>
  some (v1, v2, v3, v4, v5)
def fX3_feed (F : Nat) (p_pitches : Int32) (p_spoiled : Int32) (p_cells : Nat → Int64) (p_bends : Nat → Int32) (p_offsets : Nat → Int32) (p_strokes : Int32) (p_goodParts : Int32) (p_badParts : Int32) (p_slugs : Int32) (d_columns : Int32) (d_rows : Int32) (d_carrier : Int32) (d_partMarks : Int64) (d_linkMarks : Int64) (d_operations : Int32) (d_pilots : Int32) (d_settings : Nat → Int32) (d_facts : Nat → Int32) (d_cells : Nat → Int64) : Option (Int32 × Int32 × Int32 × (Nat → Int64) × (Nat → Int32) × (Nat → Int32) × Int32 × Int32 × Int32 × Int32) :=
  nm (p_strokes + (1 : Int32)) fun v1 =>
  bd5 (fX3_moveOn F p_pitches p_spoiled p_cells p_bends p_offsets d_columns d_rows d_settings) fun u2 u3 u4 u5 u6 =>
  bd4 (fX3_cutOff F u2 u3 u4 u5 p_goodParts p_badParts d_columns d_rows d_carrier d_partMarks d_linkMarks d_operations d_facts) fun u7 u8 u9 u10 =>
  bd4 (fX3_catchDrift F u7 u8 u4 u5 u6 d_pilots d_settings) fun u11 u12 u13 u14 =>
  bd5 (fX3_work F u7 u11 u12 u13 u14 p_slugs d_operations d_settings d_facts d_cells) fun u15 u16 u17 u18 u19 =>
  if u10 ≤ p_badParts then (
    if u9 ≤ p_goodParts then (
      some ((0 : Int32), u7, u15, u16, u17, u18, v1, u9, u10, u19)) else (
      some ((1 : Int32), u7, u15, u16, u17, u18, v1, u9, u10, u19))) else (
    some ((2 : Int32), u7, u15, u16, u17, u18, v1, u9, u10, u19))
def fX4_copyFrom (F : Nat) (d_settings : Nat → Int32) (d_facts : Nat → Int32) (d_cells : Nat → Int64) (p_cells : Nat → Int64) (p_bends : Nat → Int32) (p_offsets : Nat → Int32) (od_columns : Int32) (od_rows : Int32) (od_carrier : Int32) (od_partMarks : Int64) (od_linkMarks : Int64) (od_operations : Int32) (od_pilots : Int32) (od_settings : Nat → Int32) (od_facts : Nat → Int32) (od_cells : Nat → Int64) (op_pitches : Int32) (op_spoiled : Int32) (op_cells : Nat → Int64) (op_bends : Nat → Int32) (op_offsets : Nat → Int32) (op_strokes : Int32) (op_goodParts : Int32) (op_badParts : Int32) (op_slugs : Int32) : Option (Int32 × Int32 × Int32 × Int64 × Int64 × Int32 × Int32 × (Nat → Int32) × (Nat → Int32) × (Nat → Int64) × Int32 × Int32 × (Nat → Int64) × (Nat → Int32) × (Nat → Int32) × Int32 × Int32 × Int32 × Int32) :=
  bd10 (fX1_copyFrom F d_settings d_facts d_cells od_columns od_rows od_carrier od_partMarks od_linkMarks od_operations od_pilots od_settings od_facts od_cells) fun u1 u2 u3 u4 u5 u6 u7 u8 u9 u10 =>
  bd9 (fX3_copyFrom F p_cells p_bends p_offsets op_pitches op_spoiled op_cells op_bends op_offsets op_strokes op_goodParts op_badParts op_slugs) fun u11 u12 u13 u14 u15 u16 u17 u18 u19 =>
  some (u1, u2, u3, u4, u5, u6, u7, u8, u9, u10, u11, u12, u13, u14, u15, u16, u17, u18, u19)
def fX5_isPitchSize (a0 : Int32) (a1 : Int32) : Option Int32 :=
  if a0 < (2 : Int32) then (
    some (0 : Int32)) else (
    if (10 : Int32) < a0 then (
      some (0 : Int32)) else (
      if a1 < (2 : Int32) then (
        some (0 : Int32)) else (
        if (6 : Int32) < a1 then (
          some (0 : Int32)) else (
          some (1 : Int32)))))
def fX5_startOver (p_pitches : Int32) (a0 : Int32) (a1 : Int32) : Option (Int32 × Int32 × Int64 × Int64 × Int32 × Int32 × Int32 × Int32 × Int32 × Int32 × Int32 × Int32) :=
  bd6 (fX1_startOver a0 a1) fun u1 u2 u3 u4 u5 u6 =>
  bd6 (fX3_startOver p_pitches) fun u7 u8 u9 u10 u11 u12 =>
  some (u1, u2, u3, u4, u5, u6, u7, u8, u9, u10, u11, u12)
def fX5_isSettingValue (a0 : Int32) (a1 : Int32) : Option Int32 :=
  tsw a0 0 4 (fun j => tc j 0 (
    if a1 < (1 : Int32) then (
      some (0 : Int32)) else (
      if (999 : Int32) < a1 then (
        some (0 : Int32)) else (
        some (1 : Int32)))) <| tc j 1 (
    if a1 < 0 then (
      some (0 : Int32)) else (
      if (3 : Int32) < a1 then (
        some (0 : Int32)) else (
        some (1 : Int32)))) <| tc j 2 (
    if a1 < 0 then (
      some (0 : Int32)) else (
      if (9 : Int32) < a1 then (
        some (0 : Int32)) else (
        some (1 : Int32)))) <| tc j 3 (
    if a1 < 0 then (
      some (0 : Int32)) else (
      if (50 : Int32) < a1 then (
        some (0 : Int32)) else (
        some (1 : Int32)))) <| tc j 4 (
    if a1 < 0 then (
      some (0 : Int32)) else (
      if (50 : Int32) < a1 then (
        some (0 : Int32)) else (
        some (1 : Int32)))) <| none) (
    some (0 : Int32))
def fX5_isStation (a0 : Int32) : Option Int32 :=
  if a0 < 0 then (
    some (0 : Int32)) else (
    if (8 : Int32) ≤ a0 then (
      some (0 : Int32)) else (
      some (1 : Int32)))
def fX5_dieFault (F : Nat) (d_columns : Int32) (d_rows : Int32) (d_carrier : Int32) (d_partMarks : Int64) (d_linkMarks : Int64) (d_operations : Int32) (d_facts : Nat → Int32) (d_cells : Nat → Int64) : Option Int32 :=
  bd1 (fX1_faultOfDie F d_columns d_rows d_carrier d_partMarks d_linkMarks d_operations d_facts d_cells) fun r1 =>
  some r1
def fX5_planFault (F : Nat) (d_columns : Int32) (d_rows : Int32) (d_operations : Int32) (d_settings : Nat → Int32) (d_facts : Nat → Int32) (d_cells : Nat → Int64) : Option Int32 :=
  bd1 (fX1_faultOfPlan F d_columns d_rows d_operations d_settings d_facts d_cells) fun r1 =>
  some r1
def fX5_leastLimit (F : Nat) (d_columns : Int32) (d_rows : Int32) (d_operations : Int32) (d_settings : Nat → Int32) (d_facts : Nat → Int32) (d_cells : Nat → Int64) (l_chosen : Nat → Int32) (l_touching : Nat → Int32) (l_forces : Nat → Int32) : Option (Int32 × Int32 × Int32 × Int32 × Int32 × Int32 × (Nat → Int32) × (Nat → Int32) × (Nat → Int32)) :=
  bd9 (fX2_findLeastLimit F l_chosen l_touching l_forces d_columns d_rows d_operations d_settings d_facts d_cells) fun r1 u2 u3 u4 u5 u6 u7 u8 u9 =>
  some (r1, u2, u3, u4, u5, u6, u7, u8, u9)
def fX5_fitsTwice (F : Nat) (d_columns : Int32) (d_rows : Int32) (d_carrier : Int32) (d_partMarks : Int64) : Option Int32 :=
  bd1 (fX1_hasPlaceForSecond F d_columns d_rows d_carrier d_partMarks) fun r1 =>
  if r1 = 0 then (
    some (0 : Int32)) else (
    some (1 : Int32))
def fX5_scrap (F : Nat) (d_columns : Int32) (d_rows : Int32) (d_carrier : Int32) (d_partMarks : Int64) (a0 : Int32) : Option Int32 :=
  nm (d_columns * d_rows) fun v1 =>
  if (1 : Int32) ≤ v1 then (
    bd1 (fX1_partCells d_columns d_rows d_carrier d_partMarks) fun r2 =>
    bd1 (fJ13_bitCount_95d88 r2) fun r3 =>
    bd1 (
      if a0 = 0 then (
        some r3) else (
        bd1 (fX1_hasPlaceForSecond F d_columns d_rows d_carrier d_partMarks) fun r5 =>
        if r5 = 0 then (
          some r3) else (
          nm ((2 : Int32) * r3) fun v6 =>
          some v6))) fun v4 =>
    gz v1 (
      some (((1000 : Int32) * (v1 - v4)) / v1))) else (
    some (0 : Int32))
def fX5_strokesToGood_l16 (F : Nat) (d_columns : Int32) (d_rows : Int32) (d_carrier : Int32) (d_partMarks : Int64) (d_linkMarks : Int64) (d_operations : Int32) (d_pilots : Int32) (d_settings : Nat → Int32) (d_facts : Nat → Int32) (d_cells : Nat → Int64) : (Int32 × Int32 × Int32 × (Nat → Int64) × (Nat → Int32) × (Nat → Int32) × Int32 × Int32 × Int32 × Int32) → Option ((Int32 × Int32 × Int32 × (Nat → Int64) × (Nat → Int32) × (Nat → Int32) × Int32 × Int32 × Int32 × Int32) ⊕ ((Int32 × Int32 × Int32 × (Nat → Int64) × (Nat → Int32) × (Nat → Int32) × Int32 × Int32 × Int32 × Int32) ⊕ (Int32 × Int32 × (Nat → Int64) × (Nat → Int32) × (Nat → Int32) × Int32 × Int32 × Int32 × Int32))) := uc10 fun v29 v30 v31 v32 v33 v34 v35 v36 v37 v38 =>
  if (60 : Int32) < v29 then (
    some (.inr (.inr ((v30, v31, v32, v33, v34, v35, v36, v37, v38))))) else (
    bd10 (fX3_feed F v30 v31 v32 v33 v34 v35 v36 v37 v38 d_columns d_rows d_carrier d_partMarks d_linkMarks d_operations d_pilots d_settings d_facts d_cells) fun r39 u40 u41 u42 u43 u44 u45 u46 u47 u48 =>
    if u46 ≤ v36 then (
      some (.inl (v29 + (1 : Int32), u40, u41, u42, u43, u44, u45, u46, u47, u48))) else (
      some (.inr (.inl (v29, u40, u41, u42, u43, u44, u45, u46, u47, u48)))))
def fX5_strokesToGood (F : Nat) (d_columns : Int32) (d_rows : Int32) (d_carrier : Int32) (d_partMarks : Int64) (d_linkMarks : Int64) (d_operations : Int32) (d_pilots : Int32) (d_settings : Nat → Int32) (d_facts : Nat → Int32) (d_cells : Nat → Int64) (p_pitches : Int32) (p_spoiled : Int32) (p_cells : Nat → Int64) (p_bends : Nat → Int32) (p_offsets : Nat → Int32) (p_strokes : Int32) (p_goodParts : Int32) (p_badParts : Int32) (p_slugs : Int32) (t_cells : Nat → Int64) (t_bends : Nat → Int32) (t_offsets : Nat → Int32) : Option (Int32 × Int32 × Int32 × (Nat → Int64) × (Nat → Int32) × (Nat → Int32) × Int32 × Int32 × Int32 × Int32) :=
  bd9 (fX3_copyFrom F t_cells t_bends t_offsets p_pitches p_spoiled p_cells p_bends p_offsets p_strokes p_goodParts p_badParts p_slugs) fun u1 u2 u3 u4 u5 u6 u7 u8 u9 =>
  bdS2 (lp (fX5_strokesToGood_l16 F d_columns d_rows d_carrier d_partMarks d_linkMarks d_operations d_pilots d_settings d_facts d_cells) F ((1 : Int32), u1, u2, u3, u4, u5, u6, u7, u8, u9)) (uc10 fun v10 v11 v12 v13 v14 v15 v16 v17 v18 v19 =>
    some (v10, v11, v12, v13, v14, v15, v16, v17, v18, v19)) (uc9 fun v20 v21 v22 v23 v24 v25 v26 v27 v28 =>
    some ((-1 : Int32), v20, v21, v22, v23, v24, v25, v26, v27, v28))
def fX5_clearCommands (c_length : Int32) : Option (Int32 × Int32) :=
  some (c_length, (0 : Int32))
def fX5_carryOutPitch (d_columns : Int32) (d_rows : Int32) (d_partMarks : Int64) (d_linkMarks : Int64) (d_operations : Int32) (d_pilots : Int32) (p_pitches : Int32) (p_spoiled : Int32) (p_strokes : Int32) (p_goodParts : Int32) (p_badParts : Int32) (p_slugs : Int32) (a0 : Int32) (a1 : Int32) : Option (Int32 × Int32 × Int32 × Int64 × Int64 × Int32 × Int32 × Int32 × Int32 × Int32 × Int32 × Int32 × Int32) :=
  bd1 (fX5_isPitchSize a0 a1) fun r1 =>
  if ¬ r1 = 0 then (
    bd12 (fX5_startOver p_pitches a0 a1) fun u2 u3 u4 u5 u6 u7 u8 u9 u10 u11 u12 u13 =>
    some ((1 : Int32), u2, u3, u4, u5, u6, u7, u8, u9, u10, u11, u12, u13)) else (
    some ((0 : Int32), d_columns, d_rows, d_partMarks, d_linkMarks, d_operations, d_pilots, p_pitches, p_spoiled, p_strokes, p_goodParts, p_badParts, p_slugs))
def fX5_carryOutMark (F : Nat) (d_columns : Int32) (d_rows : Int32) (d_partMarks : Int64) (d_linkMarks : Int64) (a0 : Int32) (a1 : Int32) (a2 : Int32) (a3 : Int32) (a4 : Int32) : Option (Int32 × Int64 × Int64) :=
  bd1 (fX1_holds d_columns d_rows a0 a1 a2 a3) fun r1 =>
  if ¬ r1 = 0 then (
    bd1 (fX1_rectangle F d_columns d_rows a0 a1 a2 a3) fun r2 =>
    bd3 (fX1_markCells d_partMarks d_linkMarks r2 a4) fun r3 u4 u5 =>
    some ((1 : Int32), u4, u5)) else (
    some ((0 : Int32), d_partMarks, d_linkMarks))
def fX5_carryOutAdd (F : Nat) (d_columns : Int32) (d_rows : Int32) (d_operations : Int32) (d_facts : Nat → Int32) (d_cells : Nat → Int64) (a0 : Int32) (a1 : Int32) (a2 : Int32) (a3 : Int32) (a4 : Int32) : Option (Int32 × Int32 × (Nat → Int32) × (Nat → Int64)) :=
  bd1 (fX1_holds d_columns d_rows a1 a2 a3 a4) fun r1 =>
  if r1 = 0 then (
    some ((0 : Int32), d_operations, d_facts, d_cells)) else (
    bd1 (fX1_isFull d_operations) fun r2 =>
    if r2 = 0 then (
      bd4 (fX1_append F d_columns d_rows d_operations d_facts d_cells a0 a1 a2 a3 a4) fun r3 u4 u5 u6 =>
      some ((1 : Int32), u4, u5, u6)) else (
      some ((0 : Int32), d_operations, d_facts, d_cells)))
def fX5_carryOutPlace (d_operations : Int32) (d_facts : Nat → Int32) (a0 : Int32) (a1 : Int32) : Option (Int32 × (Nat → Int32)) :=
  bd1 (fX1_hasOperation d_operations a0) fun r1 =>
  if r1 = 0 then (
    some ((0 : Int32), d_facts)) else (
    bd1 (fX5_isStation a1) fun r2 =>
    if ¬ r2 = 0 then (
      bd1 (fX1_changeFact d_facts a0 (6 : Int32) a1) fun u3 =>
      some ((1 : Int32), u3)) else (
      some ((0 : Int32), d_facts)))
def fX5_carryOutPlan (F : Nat) (d_operations : Int32) (d_facts : Nat → Int32) (l_chosen : Nat → Int32) (a0 : Int32) : Option (Int32 × (Nat → Int32)) :=
  if ¬ a0 = (-1 : Int32) then (
    bd1 (fX2_putInto F l_chosen d_operations d_facts) fun u1 =>
    some ((1 : Int32), u1)) else (
    some ((0 : Int32), d_facts))
def fX5_carryOutPilot (d_pilots : Int32) (a0 : Int32) : Option (Int32 × Int32) :=
  bd1 (fX5_isStation a0) fun r1 =>
  if ¬ r1 = 0 then (
    bd1 (fX1_changePilot d_pilots a0 (1 : Int32)) fun u2 =>
    some ((1 : Int32), u2)) else (
    some ((0 : Int32), d_pilots))
def fX5_carryOutStrokes_l15 (F : Nat) (d_columns : Int32) (d_rows : Int32) (d_carrier : Int32) (d_partMarks : Int64) (d_linkMarks : Int64) (d_operations : Int32) (d_pilots : Int32) (d_settings : Nat → Int32) (d_facts : Nat → Int32) (d_cells : Nat → Int64) (a0 : Int32) : (Int32 × Int32 × Int32 × (Nat → Int64) × (Nat → Int32) × (Nat → Int32) × Int32 × Int32 × Int32 × Int32) → Option ((Int32 × Int32 × Int32 × (Nat → Int64) × (Nat → Int32) × (Nat → Int32) × Int32 × Int32 × Int32 × Int32) ⊕ (Int32 × Int32 × (Nat → Int64) × (Nat → Int32) × (Nat → Int32) × Int32 × Int32 × Int32 × Int32)) := uc10 fun v10 v11 v12 v13 v14 v15 v16 v17 v18 v19 =>
  if a0 ≤ v10 then (
    some (.inr (v11, v12, v13, v14, v15, v16, v17, v18, v19))) else (
    bd10 (fX3_feed F v11 v12 v13 v14 v15 v16 v17 v18 v19 d_columns d_rows d_carrier d_partMarks d_linkMarks d_operations d_pilots d_settings d_facts d_cells) fun r20 u21 u22 u23 u24 u25 u26 u27 u28 u29 =>
    some (.inl (v10 + (1 : Int32), u21, u22, u23, u24, u25, u26, u27, u28, u29)))
def fX5_carryOutStrokes (F : Nat) (d_columns : Int32) (d_rows : Int32) (d_carrier : Int32) (d_partMarks : Int64) (d_linkMarks : Int64) (d_operations : Int32) (d_pilots : Int32) (d_settings : Nat → Int32) (d_facts : Nat → Int32) (d_cells : Nat → Int64) (p_pitches : Int32) (p_spoiled : Int32) (p_cells : Nat → Int64) (p_bends : Nat → Int32) (p_offsets : Nat → Int32) (p_strokes : Int32) (p_goodParts : Int32) (p_badParts : Int32) (p_slugs : Int32) (a0 : Int32) : Option (Int32 × Int32 × Int32 × (Nat → Int64) × (Nat → Int32) × (Nat → Int32) × Int32 × Int32 × Int32 × Int32) :=
  if a0 < (1 : Int32) then (
    some ((0 : Int32), p_pitches, p_spoiled, p_cells, p_bends, p_offsets, p_strokes, p_goodParts, p_badParts, p_slugs)) else (
    if a0 ≤ (50 : Int32) then (
      bd9 (lp (fX5_carryOutStrokes_l15 F d_columns d_rows d_carrier d_partMarks d_linkMarks d_operations d_pilots d_settings d_facts d_cells a0) F ((0 : Int32), p_pitches, p_spoiled, p_cells, p_bends, p_offsets, p_strokes, p_goodParts, p_badParts, p_slugs)) fun v1 v2 v3 v4 v5 v6 v7 v8 v9 =>
      some ((1 : Int32), v1, v2, v3, v4, v5, v6, v7, v8, v9)) else (
      some ((0 : Int32), p_pitches, p_spoiled, p_cells, p_bends, p_offsets, p_strokes, p_goodParts, p_badParts, p_slugs)))
def fX5_carryOut (F : Nat) (d_columns : Int32) (d_rows : Int32) (d_carrier : Int32) (d_partMarks : Int64) (d_linkMarks : Int64) (d_operations : Int32) (d_pilots : Int32) (d_settings : Nat → Int32) (d_facts : Nat → Int32) (d_cells : Nat → Int64) (p_pitches : Int32) (p_spoiled : Int32) (p_cells : Nat → Int64) (p_bends : Nat → Int32) (p_offsets : Nat → Int32) (p_strokes : Int32) (p_goodParts : Int32) (p_badParts : Int32) (p_slugs : Int32) (l_operations : Int32) (l_limit : Int32) (l_gap : Int32) (l_bends : Int32) (l_greatestForce : Int32) (l_chosen : Nat → Int32) (l_touching : Nat → Int32) (l_forces : Nat → Int32) (c_numbers : Nat → Int32) (c_word : Int32) : Option (Int32 × Int32 × Int32 × Int64 × Int64 × Int32 × Int32 × (Nat → Int32) × (Nat → Int64) × Int32 × Int32 × (Nat → Int64) × (Nat → Int32) × (Nat → Int32) × Int32 × Int32 × Int32 × Int32 × Int32 × Int32 × Int32 × Int32 × Int32 × (Nat → Int32) × (Nat → Int32) × (Nat → Int32)) :=
  bd1 (fX0_number c_numbers (0 : Int32)) fun r1 =>
  bd1 (fX0_number c_numbers (1 : Int32)) fun r2 =>
  bd1 (fX0_number c_numbers (2 : Int32)) fun r3 =>
  bd1 (fX0_number c_numbers (3 : Int32)) fun r4 =>
  tsw c_word 0 8 (fun j => tc j 0 (
    bd13 (fX5_carryOutPitch d_columns d_rows d_partMarks d_linkMarks d_operations d_pilots p_pitches p_spoiled p_strokes p_goodParts p_badParts p_slugs r1 r2) fun r5 u6 u7 u8 u9 u10 u11 u12 u13 u14 u15 u16 u17 =>
    gb r5 (
      some (r5, u6, u7, u8, u9, u10, u11, d_facts, d_cells, u12, u13, p_cells, p_bends, p_offsets, u14, u15, u16, u17, l_operations, l_limit, l_gap, l_bends, l_greatestForce, l_chosen, l_touching, l_forces))) <| tc j 1 (
    bd3 (fX5_carryOutMark F d_columns d_rows d_partMarks d_linkMarks r1 r2 r3 r4 (1 : Int32)) fun r18 u19 u20 =>
    gb r18 (
      some (r18, d_columns, d_rows, u19, u20, d_operations, d_pilots, d_facts, d_cells, p_pitches, p_spoiled, p_cells, p_bends, p_offsets, p_strokes, p_goodParts, p_badParts, p_slugs, l_operations, l_limit, l_gap, l_bends, l_greatestForce, l_chosen, l_touching, l_forces))) <| tc j 2 (
    bd3 (fX5_carryOutMark F d_columns d_rows d_partMarks d_linkMarks r1 r2 r3 r4 (2 : Int32)) fun r21 u22 u23 =>
    gb r21 (
      some (r21, d_columns, d_rows, u22, u23, d_operations, d_pilots, d_facts, d_cells, p_pitches, p_spoiled, p_cells, p_bends, p_offsets, p_strokes, p_goodParts, p_badParts, p_slugs, l_operations, l_limit, l_gap, l_bends, l_greatestForce, l_chosen, l_touching, l_forces))) <| tc j 3 (
    bd4 (fX5_carryOutAdd F d_columns d_rows d_operations d_facts d_cells (0 : Int32) r1 r2 r3 r4) fun r24 u25 u26 u27 =>
    gb r24 (
      some (r24, d_columns, d_rows, d_partMarks, d_linkMarks, u25, d_pilots, u26, u27, p_pitches, p_spoiled, p_cells, p_bends, p_offsets, p_strokes, p_goodParts, p_badParts, p_slugs, l_operations, l_limit, l_gap, l_bends, l_greatestForce, l_chosen, l_touching, l_forces))) <| tc j 4 (
    bd4 (fX5_carryOutAdd F d_columns d_rows d_operations d_facts d_cells (1 : Int32) r1 r2 r3 (1 : Int32)) fun r28 u29 u30 u31 =>
    gb r28 (
      some (r28, d_columns, d_rows, d_partMarks, d_linkMarks, u29, d_pilots, u30, u31, p_pitches, p_spoiled, p_cells, p_bends, p_offsets, p_strokes, p_goodParts, p_badParts, p_slugs, l_operations, l_limit, l_gap, l_bends, l_greatestForce, l_chosen, l_touching, l_forces))) <| tc j 5 (
    bd2 (fX5_carryOutPlace d_operations d_facts r1 r2) fun r32 u33 =>
    gb r32 (
      some (r32, d_columns, d_rows, d_partMarks, d_linkMarks, d_operations, d_pilots, u33, d_cells, p_pitches, p_spoiled, p_cells, p_bends, p_offsets, p_strokes, p_goodParts, p_badParts, p_slugs, l_operations, l_limit, l_gap, l_bends, l_greatestForce, l_chosen, l_touching, l_forces))) <| tc j 6 (
    bd9 (fX2_findBest F l_chosen l_touching l_forces d_columns d_rows d_operations d_settings d_facts d_cells) fun r34 u35 u36 u37 u38 u39 u40 u41 u42 =>
    bd2 (fX5_carryOutPlan F d_operations d_facts u40 r34) fun r43 u44 =>
    gb r43 (
      some (r43, d_columns, d_rows, d_partMarks, d_linkMarks, d_operations, d_pilots, u44, d_cells, p_pitches, p_spoiled, p_cells, p_bends, p_offsets, p_strokes, p_goodParts, p_badParts, p_slugs, u35, u36, u37, u38, u39, u40, u41, u42))) <| tc j 7 (
    bd2 (fX5_carryOutPilot d_pilots r1) fun r45 u46 =>
    gb r45 (
      some (r45, d_columns, d_rows, d_partMarks, d_linkMarks, d_operations, u46, d_facts, d_cells, p_pitches, p_spoiled, p_cells, p_bends, p_offsets, p_strokes, p_goodParts, p_badParts, p_slugs, l_operations, l_limit, l_gap, l_bends, l_greatestForce, l_chosen, l_touching, l_forces))) <| tc j 8 (
    bd10 (fX5_carryOutStrokes F d_columns d_rows d_carrier d_partMarks d_linkMarks d_operations d_pilots d_settings d_facts d_cells p_pitches p_spoiled p_cells p_bends p_offsets p_strokes p_goodParts p_badParts p_slugs r1) fun r47 u48 u49 u50 u51 u52 u53 u54 u55 u56 =>
    gb r47 (
      some (r47, d_columns, d_rows, d_partMarks, d_linkMarks, d_operations, d_pilots, d_facts, d_cells, u48, u49, u50, u51, u52, u53, u54, u55, u56, l_operations, l_limit, l_gap, l_bends, l_greatestForce, l_chosen, l_touching, l_forces))) <| none) (
    some ((0 : Int32), d_columns, d_rows, d_partMarks, d_linkMarks, d_operations, d_pilots, d_facts, d_cells, p_pitches, p_spoiled, p_cells, p_bends, p_offsets, p_strokes, p_goodParts, p_badParts, p_slugs, l_operations, l_limit, l_gap, l_bends, l_greatestForce, l_chosen, l_touching, l_forces))
def fX6_thrown (m_thrown : Int32) : Option Int32 :=
  some m_thrown
def fX6_fails (a0 : Int32) : Option (Int32 × Int32) :=
  some ((0 : Int32), a0)
def fX6_in (a0 : Int32) (a1 : Int32) (a2 : Int32) : Option Int32 :=
  if a0 < a1 then (
    some (0 : Int32)) else (
    if a2 < a0 then (
      some (0 : Int32)) else (
      some (1 : Int32)))
def fX6_many (m_now : Nat → Int64) (a0 : Int32) : Option Int32 :=
  gd a0 100 (
    some ((m_now a0.toNatClampNeg).toInt32))
def fX6_setting (m_now : Nat → Int64) (a0 : Int32) : Option Int32 :=
  nm ((3 : Int32) + a0) fun v1 =>
  gd v1 100 (
    some ((m_now v1.toNatClampNeg).toInt32))
def fX6_ofOp (m_now : Nat → Int64) (a0 : Int32) (a1 : Int32) : Option Int32 :=
  nm ((20 : Int32) + ((6 : Int32) * a0)) fun v1 =>
  nm (v1 + a1) fun v2 =>
  gd v2 100 (
    some ((m_now v2.toNatClampNeg).toInt32))
def fX6_isOp (m_now : Nat → Int64) (a0 : Int32) : Option Int32 :=
  bd1 (fX6_many m_now (8 : Int32)) fun r1 =>
  bd1 (fX6_in a0 (0 : Int32) (r1 - (1 : Int32))) fun r2 =>
  gb r2 (
    some r2)
def fX6_ofPitch (m_now : Nat → Int64) (a0 : Int32) (a1 : Int32) : Option Int64 :=
  nm ((60 : Int32) + ((5 : Int32) * a0)) fun v1 =>
  nm (v1 + a1) fun v2 =>
  gd v2 100 (
    some (m_now v2.toNatClampNeg))
def fX6_ones_l4 (a0 : Int64) : (Int32 × Int32) → Option ((Int32 × Int32) ⊕ Int32) := uc2 fun v2 v3 =>
  if (60 : Int32) ≤ v3 then (
    some (.inr v2)) else (
    nm (v2 + (((a0 >>> (v3.toInt64 &&& 63)) &&& (1 : Int64)).toInt32)) fun v4 =>
    some (.inl (v4, v3 + (1 : Int32))))
def fX6_ones (F : Nat) (a0 : Int64) : Option Int32 :=
  bd1 (lp (fX6_ones_l4 a0) F ((0 : Int32), (0 : Int32))) fun v1 =>
  some v1
def fX6_save_l18 : (Int32 × (Nat → Int64)) → Option ((Int32 × (Nat → Int64)) ⊕ (Nat → Int64)) := uc2 fun v5 v6 =>
  if (300 : Int32) ≤ v5 then (
    some (.inr v6)) else (
    nm (v5 + (100 : Int32)) fun v7 =>
    gd v7 400 (
      nm (v6 v7.toNatClampNeg) fun v8 =>
      gd v5 400 (
        some (.inl (v5 + (1 : Int32), vp_updL v6 v5.toNatClampNeg v8)))))
def fX6_save_l58 (m_now : Nat → Int64) (v2 : Int32) : (Int32 × (Nat → Int64)) → Option ((Int32 × (Nat → Int64)) ⊕ (Nat → Int64)) := uc2 fun v11 v12 =>
  if (100 : Int32) ≤ v11 then (
    some (.inr v12)) else (
    nm ((100 : Int32) * v2) fun v13 =>
    nm (v13 + v11) fun v14 =>
    gd v11 100 (
      nm (m_now v11.toNatClampNeg) fun v15 =>
      gd v14 400 (
        some (.inl (v11 + (1 : Int32), vp_updL v12 v14.toNatClampNeg v15)))))
def fX6_save (F : Nat) (m_now : Nat → Int64) (m_saved : Nat → Int64) (m_states : Int32) (m_quiet : Int32) : Option ((Nat → Int64) × Int32) :=
  if m_quiet = 0 then (
    bd2 (
      if ¬ m_states = (4 : Int32) then (
        some (m_saved, m_states)) else (
        bd1 (lp (fX6_save_l18) F ((0 : Int32), m_saved)) fun v3 =>
        nm (m_states - (1 : Int32)) fun v4 =>
        some (v3, v4))) fun v1 v2 =>
    bd1 (lp (fX6_save_l58 m_now v2) F ((0 : Int32), v1)) fun v9 =>
    nm (v2 + (1 : Int32)) fun v10 =>
    some (v9, v10)) else (
    some (m_saved, m_states))
def fX6_isRectangle (m_now : Nat → Int64) (a0 : Int32) (a1 : Int32) (a2 : Int32) (a3 : Int32) : Option Int32 :=
  bd1 (fX6_many m_now (0 : Int32)) fun r1 =>
  bd1 (fX6_in a0 (0 : Int32) (r1 - (1 : Int32))) fun r2 =>
  if r2 = 0 then (
    some (0 : Int32)) else (
    bd1 (fX6_many m_now (1 : Int32)) fun r3 =>
    bd1 (fX6_in a1 (0 : Int32) (r3 - (1 : Int32))) fun r4 =>
    if r4 = 0 then (
      some (0 : Int32)) else (
      bd1 (fX6_many m_now (0 : Int32)) fun r5 =>
      bd1 (fX6_in a2 (1 : Int32) (r5 - a0)) fun r6 =>
      if r6 = 0 then (
        some (0 : Int32)) else (
        bd1 (fX6_many m_now (1 : Int32)) fun r7 =>
        bd1 (fX6_in a3 (1 : Int32) (r7 - a1)) fun r8 =>
        if r8 = 0 then (
          some (0 : Int32)) else (
          some (1 : Int32)))))
def fX6_rectangle_l18 (m_now : Nat → Int64) (a0 : Int32) (a2 : Int32) (v3 : Int32) : (Int64 × Int32) → Option ((Int64 × Int32) ⊕ Int64) := uc2 fun v5 v6 =>
  if a0 + a2 ≤ v6 then (
    some (.inr v5)) else (
    bd1 (fX6_many m_now (0 : Int32)) fun r7 =>
    nm (v5 ||| ((1 : Int64) <<< (((v3 * r7) + v6).toInt64 &&& 63))) fun v8 =>
    some (.inl (v8, v6 + (1 : Int32))))
def fX6_rectangle_l6 (F : Nat) (m_now : Nat → Int64) (a0 : Int32) (a1 : Int32) (a2 : Int32) (a3 : Int32) : (Int64 × Int32) → Option ((Int64 × Int32) ⊕ Int64) := uc2 fun v2 v3 =>
  if a1 + a3 ≤ v3 then (
    some (.inr v2)) else (
    bd1 (lp (fX6_rectangle_l18 m_now a0 a2 v3) F (v2, a0)) fun v4 =>
    some (.inl (v4, v3 + (1 : Int32))))
def fX6_rectangle (F : Nat) (m_now : Nat → Int64) (a0 : Int32) (a1 : Int32) (a2 : Int32) (a3 : Int32) : Option Int64 :=
  bd1 (lp (fX6_rectangle_l6 F m_now a0 a1 a2 a3) F ((0 : Int64), a1)) fun v1 =>
  some v1
def fX6_all (F : Nat) (m_now : Nat → Int64) : Option Int64 :=
  bd1 (fX6_many m_now (0 : Int32)) fun r1 =>
  bd1 (fX6_many m_now (1 : Int32)) fun r2 =>
  bd1 (fX6_rectangle F m_now (0 : Int32) (0 : Int32) r1 r2) fun r3 =>
  some r3
def fX6_carrier (F : Nat) (m_now : Nat → Int64) : Option Int64 :=
  bd1 (fX6_many m_now (0 : Int32)) fun r1 =>
  bd1 (fX6_rectangle F m_now (0 : Int32) (0 : Int32) r1 (1 : Int32)) fun r2 =>
  bd1 (fX6_many m_now (1 : Int32)) fun r3 =>
  bd1 (fX6_many m_now (0 : Int32)) fun r4 =>
  bd1 (fX6_rectangle F m_now (0 : Int32) (r3 - (1 : Int32)) r4 (1 : Int32)) fun r5 =>
  gd (2 : Int32) 100 (
    if ¬ lg_cmp (m_now (2 : Int32).toNatClampNeg) (0 : Int64) = 0 then (
      gd (2 : Int32) 100 (
        if ¬ lg_cmp (m_now (2 : Int32).toNatClampNeg) (1 : Int64) = 0 then (
          some (r2 ||| r5)) else (
          some r5))) else (
      some r2))
def fX6_part (F : Nat) (m_now : Nat → Int64) : Option Int64 :=
  gd (14 : Int32) 100 (
    bd1 (fX6_carrier F m_now) fun r1 =>
    some ((m_now (14 : Int32).toNatClampNeg) &&& (r1 ^^^ (-1 : Int64))))
def fX6_links (F : Nat) (m_now : Nat → Int64) : Option Int64 :=
  gd (15 : Int32) 100 (
    bd1 (fX6_carrier F m_now) fun r1 =>
    some ((m_now (15 : Int32).toNatClampNeg) &&& (r1 ^^^ (-1 : Int64))))
def fX6_grown_l18 (m_now : Nat → Int64) (a0 : Int64) (v3 : Int32) : (Int64 × Int32) → Option ((Int64 × Int32) ⊕ Int64) := uc2 fun v5 v6 =>
  if v3 ≤ v6 then (
    some (.inr v5)) else (
    bd1 (
      if ¬ lg_cmp ((a0 >>> (v6.toInt64 &&& 63)) &&& (1 : Int64)) (1 : Int64) = 0 then (
        some v5) else (
        bd1 (fX6_many m_now (0 : Int32)) fun r8 =>
        gz r8 (
          nm (v6 - v6 / r8 * r8) fun v9 =>
          bd1 (
            if v9 ≤ 0 then (
              some (0 : Int64)) else (
              some ((1 : Int64) <<< ((v6 - (1 : Int32)).toInt64 &&& 63)))) fun v10 =>
          nm (v5 ||| v10) fun v11 =>
          bd1 (fX6_many m_now (0 : Int32)) fun r12 =>
          bd1 (
            if r12 - (1 : Int32) ≤ v9 then (
              some (0 : Int64)) else (
              some ((1 : Int64) <<< ((v6 + (1 : Int32)).toInt64 &&& 63)))) fun v13 =>
          nm (v11 ||| v13) fun v14 =>
          bd1 (fX6_many m_now (0 : Int32)) fun r15 =>
          bd1 (
            if v6 < r15 then (
              some (0 : Int64)) else (
              bd1 (fX6_many m_now (0 : Int32)) fun r17 =>
              some ((1 : Int64) <<< ((v6 - r17).toInt64 &&& 63)))) fun v16 =>
          nm (v14 ||| v16) fun v18 =>
          bd1 (fX6_many m_now (0 : Int32)) fun r19 =>
          bd1 (
            if v3 ≤ v6 + r19 then (
              some (0 : Int64)) else (
              bd1 (fX6_many m_now (0 : Int32)) fun r21 =>
              some ((1 : Int64) <<< ((v6 + r21).toInt64 &&& 63)))) fun v20 =>
          nm (v18 ||| v20) fun v22 =>
          some v22))) fun v7 =>
    some (.inl (v7, v6 + (1 : Int32))))
def fX6_grown (F : Nat) (m_now : Nat → Int64) (a0 : Int64) : Option Int64 :=
  bd1 (fX6_many m_now (0 : Int32)) fun r1 =>
  bd1 (fX6_many m_now (1 : Int32)) fun r2 =>
  nm (r1 * r2) fun v3 =>
  bd1 (lp (fX6_grown_l18 m_now a0 v3) F (a0, (0 : Int32))) fun v4 =>
  some v4
def fX6_cellsOf (F : Nat) (m_now : Nat → Int64) (a0 : Int32) : Option Int64 :=
  bd1 (fX6_ofOp m_now a0 (1 : Int32)) fun r1 =>
  bd1 (fX6_ofOp m_now a0 (2 : Int32)) fun r2 =>
  bd1 (fX6_ofOp m_now a0 (3 : Int32)) fun r3 =>
  bd1 (fX6_ofOp m_now a0 (4 : Int32)) fun r4 =>
  bd1 (fX6_rectangle F m_now r1 r2 r3 r4) fun r5 =>
  some r5
def fX6_takenBy_l5 (F : Nat) (m_now : Nat → Int64) (a0 : Int32) : (Int64 × Int32) → Option ((Int64 × Int32) ⊕ Int64) := uc2 fun v2 v3 =>
  bd1 (fX6_many m_now (8 : Int32)) fun r4 =>
  if r4 ≤ v3 then (
    some (.inr v2)) else (
    bd1 (fX6_ofOp m_now v3 (0 : Int32)) fun r5 =>
    bd1 (
      if ¬ r5 = a0 then (
        some (0 : Int64)) else (
        bd1 (fX6_cellsOf F m_now v3) fun r7 =>
        some r7)) fun v6 =>
    nm (v2 ||| v6) fun v8 =>
    some (.inl (v8, v3 + (1 : Int32))))
def fX6_takenBy (F : Nat) (m_now : Nat → Int64) (a0 : Int32) : Option Int64 :=
  bd1 (lp (fX6_takenBy_l5 F m_now a0) F ((0 : Int64), (0 : Int32))) fun v1 =>
  some v1
def fX6_loose_l23 (F : Nat) (m_now : Nat → Int64) (v4 : Int64) : (Int64 × Int64) → Option ((Int64 × Int64) ⊕ Int64) := uc2 fun v8 v9 =>
  if lg_cmp v9 v8 = 0 then (
    some (.inr v8)) else (
    bd1 (fX6_grown F m_now v8) fun r10 =>
    nm (r10 &&& v4) fun v11 =>
    some (.inl (v11, v8)))
def fX6_loose (F : Nat) (m_now : Nat → Int64) : Option Int64 :=
  bd1 (fX6_part F m_now) fun r1 =>
  bd1 (fX6_links F m_now) fun r2 =>
  bd1 (fX6_carrier F m_now) fun r3 =>
  nm ((r1 ||| r2) ||| r3) fun v4 =>
  bd1 (fX6_carrier F m_now) fun r5 =>
  bd1 (lp (fX6_loose_l23 F m_now v4) F (r5, (0 : Int64))) fun v6 =>
  bd1 (fX6_part F m_now) fun r7 =>
  some (r7 &&& (v6 ^^^ (-1 : Int64)))
def fX6_standing (F : Nat) (m_now : Nat → Int64) : Option Int64 :=
  bd1 (fX6_all F m_now) fun r1 =>
  bd1 (fX6_part F m_now) fun r2 =>
  bd1 (fX6_links F m_now) fun r3 =>
  bd1 (fX6_carrier F m_now) fun r4 =>
  bd1 (fX6_takenBy F m_now (0 : Int32)) fun r5 =>
  some ((((r1 &&& (r2 ^^^ (-1 : Int64))) &&& (r3 ^^^ (-1 : Int64))) &&& (r4 ^^^ (-1 : Int64))) &&& (r5 ^^^ (-1 : Int64)))
def fX6_setOf (F : Nat) (m_now : Nat → Int64) (a0 : Int32) : Option Int64 :=
  if (3 : Int32) ≤ a0 then (
    if ¬ a0 = (3 : Int32) then (
      if ¬ a0 = (4 : Int32) then (
        bd1 (fX6_loose F m_now) fun r1 =>
        some r1) else (
        bd1 (fX6_standing F m_now) fun r2 =>
        some r2)) else (
      bd1 (fX6_takenBy F m_now (0 : Int32)) fun r3 =>
      some r3)) else (
    if ¬ a0 = 0 then (
      if ¬ a0 = (1 : Int32) then (
        bd1 (fX6_carrier F m_now) fun r4 =>
        some r4) else (
        bd1 (fX6_links F m_now) fun r5 =>
        some r5)) else (
      bd1 (fX6_part F m_now) fun r6 =>
      some r6))
def fX6_cellSet (F : Nat) (m_now : Nat → Int64) (a0 : Int32) : Option (Int64 × Int32) :=
  bd1 (fX6_in a0 (0 : Int32) (5 : Int32)) fun r1 =>
  if r1 = 0 then (
    bd2 (fX6_fails (1 : Int32)) fun r2 u3 =>
    some (r2.toInt64, u3)) else (
    bd1 (fX6_setOf F m_now a0) fun r4 =>
    some (r4, (0 : Int32)))
def fX6_begin_l62 : (Int32 × (Nat → Int64)) → Option ((Int32 × (Nat → Int64)) ⊕ (Nat → Int64)) := uc2 fun v11 v12 =>
  if (100 : Int32) ≤ v11 then (
    some (.inr v12)) else (
    gd v11 100 (
      some (.inl (v11 + (1 : Int32), vp_updL v12 v11.toNatClampNeg (0 : Int64)))))
def fX6_begin (F : Nat) (m_now : Nat → Int64) (m_saved : Nat → Int64) (m_states : Int32) (m_quiet : Int32) (a0 : Int32) (a1 : Int32) : Option (Int32 × (Nat → Int64) × (Nat → Int64) × Int32 × Int32) :=
  bd1 (fX6_in a0 (2 : Int32) (10 : Int32)) fun r1 =>
  if r1 = 0 then (
    bd2 (fX6_fails (1 : Int32)) fun r2 u3 =>
    some (r2, m_now, m_saved, m_states, u3)) else (
    bd1 (fX6_in a1 (2 : Int32) (6 : Int32)) fun r4 =>
    if ¬ r4 = 0 then (
      bd2 (fX6_save F m_now m_saved m_states m_quiet) fun u5 u6 =>
      bd1 (fX6_many m_now (8 : Int32)) fun r7 =>
      nm (a0.toInt64) fun v8 =>
      gd (0 : Int32) 100 (
        nm (a1.toInt64) fun v9 =>
        gd (1 : Int32) 100 (
          bd1 (lp (fX6_begin_l62) F ((8 : Int32), vp_updL (vp_updL m_now (0 : Int32).toNatClampNeg v8) (1 : Int32).toNatClampNeg v9)) fun v10 =>
          some (r7, v10, u5, u6, (0 : Int32))))) else (
      bd2 (fX6_fails (1 : Int32)) fun r13 u14 =>
      some (r13, m_now, m_saved, m_states, u14)))
def fX6_mark (F : Nat) (m_now : Nat → Int64) (m_saved : Nat → Int64) (m_states : Int32) (m_quiet : Int32) (a0 : Int32) (a1 : Int32) (a2 : Int32) (a3 : Int32) (a4 : Int32) : Option (Int32 × (Nat → Int64) × (Nat → Int64) × Int32 × Int32) :=
  bd1 (fX6_isRectangle m_now a0 a1 a2 a3) fun r1 =>
  if r1 = 0 then (
    bd2 (fX6_fails (1 : Int32)) fun r2 u3 =>
    some (r2, m_now, m_saved, m_states, u3)) else (
    bd1 (fX6_in a4 (0 : Int32) (2 : Int32)) fun r4 =>
    if ¬ r4 = 0 then (
      bd2 (fX6_save F m_now m_saved m_states m_quiet) fun u5 u6 =>
      bd1 (fX6_rectangle F m_now a0 a1 a2 a3) fun r7 =>
      bd1 (
        if ¬ a4 = (1 : Int32) then (
          if ¬ a4 = (2 : Int32) then (
            gd (14 : Int32) 100 (
              gd (15 : Int32) 100 (
                some (((m_now (14 : Int32).toNatClampNeg) ^^^ (-1 : Int64)) &&& ((m_now (15 : Int32).toNatClampNeg) ^^^ (-1 : Int64)))))) else (
            gd (15 : Int32) 100 (
              some (m_now (15 : Int32).toNatClampNeg)))) else (
          gd (14 : Int32) 100 (
            some (m_now (14 : Int32).toNatClampNeg)))) fun v8 =>
      bd1 (
        if ¬ a4 = (1 : Int32) then (
          gd (14 : Int32) 100 (
            some ((m_now (14 : Int32).toNatClampNeg) &&& (r7 ^^^ (-1 : Int64))))) else (
          gd (14 : Int32) 100 (
            some ((m_now (14 : Int32).toNatClampNeg) ||| r7)))) fun v9 =>
      gd (14 : Int32) 100 (
        bd1 (
          if ¬ a4 = (2 : Int32) then (
            gd (15 : Int32) 100 (
              some (((vp_updL m_now (14 : Int32).toNatClampNeg v9) (15 : Int32).toNatClampNeg) &&& (r7 ^^^ (-1 : Int64))))) else (
            gd (15 : Int32) 100 (
              some (((vp_updL m_now (14 : Int32).toNatClampNeg v9) (15 : Int32).toNatClampNeg) ||| r7)))) fun v10 =>
        gd (15 : Int32) 100 (
          bd1 (fX6_ones F (r7 &&& (v8 ^^^ (-1 : Int64)))) fun r11 =>
          some (r11, vp_updL (vp_updL m_now (14 : Int32).toNatClampNeg v9) (15 : Int32).toNatClampNeg v10, u5, u6, (0 : Int32))))) else (
      bd2 (fX6_fails (1 : Int32)) fun r12 u13 =>
      some (r12, m_now, m_saved, m_states, u13)))
def fX6_setCarrier (F : Nat) (m_now : Nat → Int64) (m_saved : Nat → Int64) (m_states : Int32) (m_quiet : Int32) (a0 : Int32) : Option (Int32 × (Nat → Int64) × (Nat → Int64) × Int32 × Int32) :=
  bd1 (fX6_in a0 (0 : Int32) (2 : Int32)) fun r1 =>
  if ¬ r1 = 0 then (
    bd2 (fX6_save F m_now m_saved m_states m_quiet) fun u2 u3 =>
    bd1 (fX6_many m_now (2 : Int32)) fun r4 =>
    nm (a0.toInt64) fun v5 =>
    gd (2 : Int32) 100 (
      some (r4, vp_updL m_now (2 : Int32).toNatClampNeg v5, u2, u3, (0 : Int32)))) else (
    bd2 (fX6_fails (1 : Int32)) fun r6 u7 =>
    some (r6, m_now, m_saved, m_states, u7))
def fX6_isSetting (a0 : Int32) (a1 : Int32) : Option Int32 :=
  if ¬ a0 = 0 then (
    bd1 (fX6_in a0 (1 : Int32) (4 : Int32)) fun r1 =>
    if r1 = 0 then (
      some (0 : Int32)) else (
      bd1 (
        if ¬ a0 = (1 : Int32) then (
          if ¬ a0 = (2 : Int32) then (
            some (50 : Int32)) else (
            some (9 : Int32))) else (
          some (3 : Int32))) fun v2 =>
      bd1 (fX6_in a1 (0 : Int32) v2) fun r3 =>
      if r3 = 0 then (
        some (0 : Int32)) else (
        some (1 : Int32)))) else (
    bd1 (fX6_in a1 (1 : Int32) (999 : Int32)) fun r4 =>
    gb r4 (
      some r4))
def fX6_set (F : Nat) (m_now : Nat → Int64) (m_saved : Nat → Int64) (m_states : Int32) (m_quiet : Int32) (a0 : Int32) (a1 : Int32) : Option (Int32 × (Nat → Int64) × (Nat → Int64) × Int32 × Int32) :=
  bd1 (fX6_isSetting a0 a1) fun r1 =>
  if ¬ r1 = 0 then (
    bd2 (fX6_save F m_now m_saved m_states m_quiet) fun u2 u3 =>
    bd1 (fX6_setting m_now a0) fun r4 =>
    nm ((3 : Int32) + a0) fun v5 =>
    nm (a1.toInt64) fun v6 =>
    gd v5 100 (
      some (r4, vp_updL m_now v5.toNatClampNeg v6, u2, u3, (0 : Int32)))) else (
    bd2 (fX6_fails (1 : Int32)) fun r7 u8 =>
    some (r7, m_now, m_saved, m_states, u8))
def fX6_adds (F : Nat) (m_now : Nat → Int64) (m_saved : Nat → Int64) (m_states : Int32) (m_quiet : Int32) (m_thrown : Int32) (a0 : Int32) (a1 : Int32) (a2 : Int32) (a3 : Int32) (a4 : Int32) : Option (Int32 × (Nat → Int64) × (Nat → Int64) × Int32 × Int32) :=
  bd1 (fX6_isRectangle m_now a1 a2 a3 a4) fun r1 =>
  if ¬ r1 = 0 then (
    gd (8 : Int32) 100 (
      if ¬ lg_cmp (m_now (8 : Int32).toNatClampNeg) (6 : Int64) = 0 then (
        bd2 (fX6_save F m_now m_saved m_states m_quiet) fun u2 u3 =>
        bd1 (fX6_many m_now (8 : Int32)) fun r4 =>
        nm ((20 : Int32) + ((6 : Int32) * r4)) fun v5 =>
        nm (v5 + (0 : Int32)) fun v6 =>
        nm (a0.toInt64) fun v7 =>
        gd v6 100 (
          nm (v5 + (1 : Int32)) fun v8 =>
          nm (a1.toInt64) fun v9 =>
          gd v8 100 (
            nm (v5 + (2 : Int32)) fun v10 =>
            nm (a2.toInt64) fun v11 =>
            gd v10 100 (
              nm (v5 + (3 : Int32)) fun v12 =>
              nm (a3.toInt64) fun v13 =>
              gd v12 100 (
                nm (v5 + (4 : Int32)) fun v14 =>
                nm (a4.toInt64) fun v15 =>
                gd v14 100 (
                  gd (v5 + (5 : Int32)) 100 (
                    gd (8 : Int32) 100 (
                      nm (((vp_updL (vp_updL (vp_updL (vp_updL (vp_updL (vp_updL m_now v6.toNatClampNeg v7) v8.toNatClampNeg v9) v10.toNatClampNeg v11) v12.toNatClampNeg v13) v14.toNatClampNeg v15) (v5 + (5 : Int32)).toNatClampNeg (-1 : Int64)) (8 : Int32).toNatClampNeg) + (1 : Int64)) fun v16 =>
                      gd (8 : Int32) 100 (
                        bd1 (fX6_many (vp_updL (vp_updL (vp_updL (vp_updL (vp_updL (vp_updL (vp_updL m_now v6.toNatClampNeg v7) v8.toNatClampNeg v9) v10.toNatClampNeg v11) v12.toNatClampNeg v13) v14.toNatClampNeg v15) (v5 + (5 : Int32)).toNatClampNeg (-1 : Int64)) (8 : Int32).toNatClampNeg v16) (8 : Int32)) fun r17 =>
                        some (r17 - (1 : Int32), vp_updL (vp_updL (vp_updL (vp_updL (vp_updL (vp_updL (vp_updL m_now v6.toNatClampNeg v7) v8.toNatClampNeg v9) v10.toNatClampNeg v11) v12.toNatClampNeg v13) v14.toNatClampNeg v15) (v5 + (5 : Int32)).toNatClampNeg (-1 : Int64)) (8 : Int32).toNatClampNeg v16, u2, u3, m_thrown)))))))))) else (
        bd2 (fX6_fails (2 : Int32)) fun r18 u19 =>
        some (r18, m_now, m_saved, m_states, u19)))) else (
    bd2 (fX6_fails (1 : Int32)) fun r20 u21 =>
    some (r20, m_now, m_saved, m_states, u21))
def fX6_addPunch (F : Nat) (m_now : Nat → Int64) (m_saved : Nat → Int64) (m_states : Int32) (m_quiet : Int32) (a0 : Int32) (a1 : Int32) (a2 : Int32) (a3 : Int32) : Option (Int32 × (Nat → Int64) × (Nat → Int64) × Int32 × Int32) :=
  bd5 (fX6_adds F m_now m_saved m_states m_quiet (0 : Int32) (0 : Int32) a0 a1 a2 a3) fun r1 u2 u3 u4 u5 =>
  some (r1, u2, u3, u4, u5)
def fX6_addBend (F : Nat) (m_now : Nat → Int64) (m_saved : Nat → Int64) (m_states : Int32) (m_quiet : Int32) (a0 : Int32) (a1 : Int32) (a2 : Int32) : Option (Int32 × (Nat → Int64) × (Nat → Int64) × Int32 × Int32) :=
  bd5 (fX6_adds F m_now m_saved m_states m_quiet (0 : Int32) (1 : Int32) a0 a1 a2 (1 : Int32)) fun r1 u2 u3 u4 u5 =>
  some (r1, u2, u3, u4, u5)
def fX6_dropOperation_l60 (a0 : Int32) : (Int32 × (Nat → Int64)) → Option ((Int32 × (Nat → Int64)) ⊕ (Nat → Int64)) := uc2 fun v9 v10 =>
  if (8 : Int32) ≤ v9 then (
    some (.inr v10)) else (
    bd1 (fX6_ofPitch v10 v9 (2 : Int32)) fun r11 =>
    nm (r11 &&& (((1 : Int64) <<< (a0.toInt64 &&& 63)) - (1 : Int64))) fun v12 =>
    nm (((60 : Int32) + ((5 : Int32) * v9)) + (2 : Int32)) fun v13 =>
    nm (v12 ||| ((r11 >>> ((a0 + (1 : Int32)).toInt64 &&& 63)) <<< (a0.toInt64 &&& 63))) fun v14 =>
    gd v13 100 (
      some (.inl (v9 + (1 : Int32), vp_updL v10 v13.toNatClampNeg v14))))
def fX6_dropOperation_l31 : (Int32 × (Nat → Int64)) → Option ((Int32 × (Nat → Int64)) ⊕ (Nat → Int64)) := uc2 fun v15 v16 =>
  if (50 : Int32) ≤ v15 then (
    some (.inr v16)) else (
    nm (v15 + (6 : Int32)) fun v17 =>
    gd v17 100 (
      nm (v16 v17.toNatClampNeg) fun v18 =>
      gd v15 100 (
        some (.inl (v15 + (1 : Int32), vp_updL v16 v15.toNatClampNeg v18)))))
def fX6_dropOperation (F : Nat) (m_now : Nat → Int64) (m_saved : Nat → Int64) (m_states : Int32) (m_quiet : Int32) (a0 : Int32) : Option (Int32 × (Nat → Int64) × (Nat → Int64) × Int32 × Int32) :=
  bd1 (fX6_isOp m_now a0) fun r1 =>
  if ¬ r1 = 0 then (
    bd2 (fX6_save F m_now m_saved m_states m_quiet) fun u2 u3 =>
    nm ((20 : Int32) + ((6 : Int32) * a0)) fun v4 =>
    bd1 (lp (fX6_dropOperation_l31) F (v4, m_now)) fun v5 =>
    bd1 (lp (fX6_dropOperation_l60 a0) F ((0 : Int32), v5)) fun v6 =>
    gd (8 : Int32) 100 (
      nm ((v6 (8 : Int32).toNatClampNeg) - (1 : Int64)) fun v7 =>
      gd (8 : Int32) 100 (
        bd1 (fX6_many (vp_updL v6 (8 : Int32).toNatClampNeg v7) (8 : Int32)) fun r8 =>
        some (r8, vp_updL v6 (8 : Int32).toNatClampNeg v7, u2, u3, (0 : Int32))))) else (
    bd2 (fX6_fails (1 : Int32)) fun r19 u20 =>
    some (r19, m_now, m_saved, m_states, u20))
def fX6_force (m_now : Nat → Int64) (a0 : Int32) : Option Int32 :=
  bd1 (fX6_ofOp m_now a0 (0 : Int32)) fun r1 =>
  if ¬ r1 = 0 then (
    bd1 (fX6_ofOp m_now a0 (3 : Int32)) fun r2 =>
    some r2) else (
    bd1 (fX6_ofOp m_now a0 (3 : Int32)) fun r3 =>
    bd1 (fX6_ofOp m_now a0 (4 : Int32)) fun r4 =>
    some ((2 : Int32) * (r3 + r4)))
def fX6_touches_l16 (F : Nat) (m_now : Nat → Int64) (a0 : Int32) (r2 : Int64) : (Int32 × Int32) → Option ((Int32 × Int32) ⊕ Int32) := uc2 fun v4 v5 =>
  bd1 (fX6_many m_now (8 : Int32)) fun r6 =>
  if r6 ≤ v5 then (
    some (.inr v4)) else (
    bd1 (
      if v5 = a0 then (
        some (0 : Int32)) else (
        bd1 (fX6_cellsOf F m_now v5) fun r8 =>
        if lg_cmp (r2 &&& r8) (0 : Int64) = 0 then (
          some (0 : Int32)) else (
          some ((1 : Int32) <<< (v5 &&& 31))))) fun v7 =>
    nm (v4 ||| v7) fun v9 =>
    some (.inl (v9, v5 + (1 : Int32))))
def fX6_touches (F : Nat) (m_now : Nat → Int64) (a0 : Int32) : Option Int32 :=
  bd1 (fX6_cellsOf F m_now a0) fun r1 =>
  bd1 (fX6_grown F m_now r1) fun r2 =>
  bd1 (lp (fX6_touches_l16 F m_now a0 r2) F ((0 : Int32), (0 : Int32))) fun v3 =>
  some v3
def fX6_opsAt_l4 (m_now : Nat → Int64) (a0 : Int32) : (Int32 × Int32) → Option ((Int32 × Int32) ⊕ Int32) := uc2 fun v2 v3 =>
  bd1 (fX6_many m_now (8 : Int32)) fun r4 =>
  if r4 ≤ v3 then (
    some (.inr v2)) else (
    bd1 (fX6_ofOp m_now v3 (5 : Int32)) fun r5 =>
    bd1 (
      if ¬ r5 = a0 then (
        some (0 : Int32)) else (
        some ((1 : Int32) <<< (v3 &&& 31)))) fun v6 =>
    nm (v2 ||| v6) fun v7 =>
    some (.inl (v7, v3 + (1 : Int32))))
def fX6_opsAt (F : Nat) (m_now : Nat → Int64) (a0 : Int32) : Option Int32 :=
  bd1 (lp (fX6_opsAt_l4 m_now a0) F ((0 : Int32), (0 : Int32))) fun v1 =>
  some v1
def fX6_forces_l4 (m_now : Nat → Int64) (a0 : Int32) : (Int32 × Int32) → Option ((Int32 × Int32) ⊕ Int32) := uc2 fun v2 v3 =>
  bd1 (fX6_many m_now (8 : Int32)) fun r4 =>
  if r4 ≤ v3 then (
    some (.inr v2)) else (
    bd1 (
      if ¬ (a0 >>> (v3 &&& 31)) &&& (1 : Int32) = (1 : Int32) then (
        some (0 : Int32)) else (
        bd1 (fX6_force m_now v3) fun r6 =>
        some r6)) fun v5 =>
    nm (v2 + v5) fun v7 =>
    some (.inl (v7, v3 + (1 : Int32))))
def fX6_forces (F : Nat) (m_now : Nat → Int64) (a0 : Int32) : Option Int32 :=
  bd1 (lp (fX6_forces_l4 m_now a0) F ((0 : Int32), (0 : Int32))) fun v1 =>
  some v1
def fX6_stations_l4 (m_now : Nat → Int64) : (Int32 × Int32) → Option ((Int32 × Int32) ⊕ Int32) := uc2 fun v2 v3 =>
  bd1 (fX6_many m_now (8 : Int32)) fun r4 =>
  if r4 ≤ v3 then (
    some (.inr v2)) else (
    bd1 (fX6_ofOp m_now v3 (5 : Int32)) fun r5 =>
    bd1 (
      if r5 ≤ v2 then (
        some v2) else (
        bd1 (fX6_ofOp m_now v3 (5 : Int32)) fun r7 =>
        some r7)) fun v6 =>
    some (.inl (v6, v3 + (1 : Int32))))
def fX6_stations (F : Nat) (m_now : Nat → Int64) : Option Int32 :=
  bd1 (lp (fX6_stations_l4 m_now) F ((-1 : Int32), (0 : Int32))) fun v1 =>
  some (v1 + (1 : Int32))
def fX6_isEarly (m_now : Nat → Int64) (a0 : Int32) (a1 : Int32) (a2 : Int32) (a3 : Int32) : Option Int32 :=
  bd1 (fX6_ofOp m_now a0 (0 : Int32)) fun r1 =>
  bd1 (fX6_ofOp m_now a2 (0 : Int32)) fun r2 =>
  if ¬ r1 = r2 then (
    bd1 (fX6_ofOp m_now a0 (0 : Int32)) fun r3 =>
    bd1 (
      if ¬ r3 = (1 : Int32) then (
        some (a3 - a1)) else (
        some (a1 - a3))) fun v4 =>
    bd1 (fX6_setting m_now (1 : Int32)) fun r5 =>
    if (1 : Int32) + r5 ≤ v4 then (
      some (0 : Int32)) else (
      some (1 : Int32))) else (
    some (0 : Int32))
def fX6_faultOfPlan_l93 (m_now : Nat → Int64) (v9 : Int32) (r11 : Int32) (r12 : Int32) : (Int32 × Int32 × Int32) → Option ((Int32 × Int32 × Int32) ⊕ (Int32 × Int32)) := uc3 fun v20 v21 v22 =>
  bd1 (fX6_many m_now (8 : Int32)) fun r23 =>
  if r23 ≤ v22 then (
    some (.inr (v20, v21))) else (
    bd1 (
      if ¬ (r12 >>> (v22 &&& 31)) &&& (1 : Int32) = (1 : Int32) then (
        some (0 : Int32)) else (
        some (1 : Int32))) fun v24 =>
    bd1 (
      if ¬ v20 = 0 then (
        some (1 : Int32)) else (
        if v24 = 0 then (
          some (0 : Int32)) else (
          bd1 (fX6_ofOp m_now v22 (5 : Int32)) fun r26 =>
          if ¬ r26 = r11 then (
            some (0 : Int32)) else (
            some (1 : Int32))))) fun v25 =>
    bd1 (
      if ¬ v21 = 0 then (
        some (1 : Int32)) else (
        if v24 = 0 then (
          some (0 : Int32)) else (
          bd1 (fX6_ofOp m_now v22 (5 : Int32)) fun r28 =>
          bd1 (fX6_isEarly m_now v9 r11 v22 r28) fun r29 =>
          if r29 = 0 then (
            some (0 : Int32)) else (
            some (1 : Int32))))) fun v27 =>
    some (.inl (v25, v27, v22 + (1 : Int32))))
def fX6_faultOfPlan_l12 (F : Nat) (m_now : Nat → Int64) : (Int32 × Int32 × Int32 × Int32 × Int32) → Option ((Int32 × Int32 × Int32 × Int32 × Int32) ⊕ (Int32 × Int32 × Int32 × Int32)) := uc5 fun v5 v6 v7 v8 v9 =>
  bd1 (fX6_many m_now (8 : Int32)) fun r10 =>
  if r10 ≤ v9 then (
    some (.inr (v5, v6, v7, v8))) else (
    bd1 (fX6_ofOp m_now v9 (5 : Int32)) fun r11 =>
    bd1 (fX6_touches F m_now v9) fun r12 =>
    bd1 (
      if ¬ v5 = 0 then (
        some (1 : Int32)) else (
        if ¬ r11 = (-1 : Int32) then (
          some (0 : Int32)) else (
          some (1 : Int32)))) fun v13 =>
    bd1 (
      if ¬ v6 = 0 then (
        some (1 : Int32)) else (
        if r11 = (-1 : Int32) then (
          some (0 : Int32)) else (
          bd1 (fX6_opsAt F m_now r11) fun r15 =>
          bd1 (fX6_forces F m_now r15) fun r16 =>
          bd1 (fX6_setting m_now (0 : Int32)) fun r17 =>
          if r16 ≤ r17 then (
            some (0 : Int32)) else (
            some (1 : Int32))))) fun v14 =>
    bd2 (lp (fX6_faultOfPlan_l93 m_now v9 r11 r12) F (v7, v8, (0 : Int32))) fun v18 v19 =>
    some (.inl (v13, v14, v18, v19, v9 + (1 : Int32))))
def fX6_faultOfPlan (F : Nat) (m_now : Nat → Int64) : Option Int32 :=
  bd4 (lp (fX6_faultOfPlan_l12 F m_now) F ((0 : Int32), (0 : Int32), (0 : Int32), (0 : Int32), (0 : Int32))) fun v1 v2 v3 v4 =>
  if v1 = 0 then (
    if v2 = 0 then (
      if v3 = 0 then (
        if v4 = 0 then (
          some (0 : Int32)) else (
          some (4 : Int32))) else (
        some (3 : Int32))) else (
      some (2 : Int32))) else (
    some (1 : Int32))
def fX6_may_l12 (m_now : Nat → Int64) (m_tried : Nat → Int32) (m_touching : Nat → Int32) (a0 : Int32) : (Int32 × Int32 × Int32) → Option ((Int32 × Int32 × Int32) ⊕ (Int32 × Int32)) := uc3 fun v4 v5 v6 =>
  if a0 ≤ v6 then (
    some (.inr (v4, v5))) else (
    gd a0 6 (
      bd1 (
        if ¬ ((m_touching a0.toNatClampNeg) >>> (v6 &&& 31)) &&& (1 : Int32) = (1 : Int32) then (
          some (0 : Int32)) else (
          some (1 : Int32))) fun v7 =>
      gd v6 6 (
        gd a0 6 (
          bd1 (
            if ¬ m_tried v6.toNatClampNeg = m_tried a0.toNatClampNeg then (
              some (0 : Int32)) else (
              bd1 (fX6_force m_now v6) fun r9 =>
              some r9)) fun v8 =>
          nm (v4 + v8) fun v10 =>
          bd1 (
            if v5 = 0 then (
              some (0 : Int32)) else (
              if v7 = 0 then (
                some (1 : Int32)) else (
                gd v6 6 (
                  gd a0 6 (
                    if m_tried v6.toNatClampNeg = m_tried a0.toNatClampNeg then (
                      some (0 : Int32)) else (
                      gd v6 6 (
                        gd a0 6 (
                          bd1 (fX6_isEarly m_now v6 (m_tried v6.toNatClampNeg) a0 (m_tried a0.toNatClampNeg)) fun r12 =>
                          if ¬ r12 = 0 then (
                            some (0 : Int32)) else (
                            some (1 : Int32)))))))))) fun v11 =>
          some (.inl (v10, v11, v6 + (1 : Int32)))))))
def fX6_may (F : Nat) (m_now : Nat → Int64) (m_tried : Nat → Int32) (m_touching : Nat → Int32) (a0 : Int32) (a1 : Int32) : Option Int32 :=
  bd1 (fX6_force m_now a0) fun r1 =>
  bd2 (lp (fX6_may_l12 m_now m_tried m_touching a0) F (r1, (1 : Int32), (0 : Int32))) fun v2 v3 =>
  if v3 = 0 then (
    some (0 : Int32)) else (
    if a1 < v2 then (
      some (0 : Int32)) else (
      some (1 : Int32)))
def fX6_seeks_l89 (r1 : Int32) (v3 : Nat → Int32) : (Int32 × (Nat → Int32)) → Option ((Int32 × (Nat → Int32)) ⊕ (Nat → Int32)) := uc2 fun v5 v6 =>
  if r1 ≤ v5 then (
    some (.inr v6)) else (
    gd v5 6 (
      nm (v3 v5.toNatClampNeg) fun v7 =>
      gd v5 6 (
        some (.inl (v5 + (1 : Int32), upd v6 v5.toNatClampNeg v7)))))
def fX6_seeks_l17 (F : Nat) (m_now : Nat → Int64) (m_touching : Nat → Int32) (a0 : Int32) (a1 : Int32) (r1 : Int32) : (Int32 × (Nat → Int32)) → Option ((Int32 × (Nat → Int32)) ⊕ (Int32 × (Nat → Int32))) := uc2 fun v8 v9 =>
  if v8 < 0 then (
    some (.inr (v8, v9))) else (
    if r1 ≤ v8 then (
      some (.inr (v8, v9))) else (
      gd v8 6 (
        nm ((v9 v8.toNatClampNeg) + (1 : Int32)) fun v10 =>
        gd v8 6 (
          gd v8 6 (
            if (upd v9 v8.toNatClampNeg v10) v8.toNatClampNeg < a0 then (
              bd1 (fX6_may F m_now (upd v9 v8.toNatClampNeg v10) m_touching v8 a1) fun r11 =>
              if r11 = 0 then (
                some (.inl (v8, upd v9 v8.toNatClampNeg v10))) else (
                if r1 ≤ v8 + (1 : Int32) then (
                  some (.inl (v8 + (1 : Int32), upd v9 v8.toNatClampNeg v10))) else (
                  gd (v8 + (1 : Int32)) 6 (
                    some (.inl (v8 + (1 : Int32), upd (upd v9 v8.toNatClampNeg v10) (v8 + (1 : Int32)).toNatClampNeg (-1 : Int32))))))) else (
              some (.inl (v8 + (-1 : Int32), upd v9 v8.toNatClampNeg v10))))))))
def fX6_seeks (F : Nat) (m_now : Nat → Int64) (m_tried : Nat → Int32) (m_best : Nat → Int32) (m_touching : Nat → Int32) (a0 : Int32) (a1 : Int32) : Option (Int32 × (Nat → Int32) × (Nat → Int32)) :=
  bd1 (fX6_many m_now (8 : Int32)) fun r1 =>
  gd (0 : Int32) 6 (
    bd2 (lp (fX6_seeks_l17 F m_now m_touching a0 a1 r1) F ((0 : Int32), upd m_tried (0 : Int32).toNatClampNeg (-1 : Int32))) fun v2 v3 =>
    bd1 (lp (fX6_seeks_l89 r1 v3) F ((0 : Int32), m_best)) fun v4 =>
    if ¬ v2 = r1 then (
      some ((0 : Int32), v3, v4)) else (
      some ((1 : Int32), v3, v4)))
def fX6_plans_l31 (F : Nat) (m_now : Nat → Int64) (a0 : Int32) (v1 : Nat → Int32) : (Int32 × (Nat → Int32) × (Nat → Int32)) → Option ((Int32 × (Nat → Int32) × (Nat → Int32)) ⊕ ((Int32 × (Nat → Int32) × (Nat → Int32)) ⊕ ((Nat → Int32) × (Nat → Int32)))) := uc3 fun v7 v8 v9 =>
  if (8 : Int32) < v7 then (
    some (.inr (.inr ((v8, v9))))) else (
    bd3 (fX6_seeks F m_now v8 v9 v1 v7 a0) fun r10 u11 u12 =>
    if r10 = 0 then (
      some (.inl (v7 + (1 : Int32), u11, u12))) else (
      some (.inr (.inl (v7, u11, u12)))))
def fX6_plans_l2 (F : Nat) (m_now : Nat → Int64) : (Int32 × (Nat → Int32)) → Option ((Int32 × (Nat → Int32)) ⊕ (Nat → Int32)) := uc2 fun v13 v14 =>
  bd1 (fX6_many m_now (8 : Int32)) fun r15 =>
  if r15 ≤ v13 then (
    some (.inr v14)) else (
    bd1 (fX6_touches F m_now v13) fun r16 =>
    gd v13 6 (
      some (.inl (v13 + (1 : Int32), upd v14 v13.toNatClampNeg r16))))
def fX6_plans (F : Nat) (m_now : Nat → Int64) (m_tried : Nat → Int32) (m_best : Nat → Int32) (m_touching : Nat → Int32) (a0 : Int32) : Option (Int32 × (Nat → Int32) × (Nat → Int32) × (Nat → Int32)) :=
  bd1 (lp (fX6_plans_l2 F m_now) F ((0 : Int32), m_touching)) fun v1 =>
  bdS2 (lp (fX6_plans_l31 F m_now a0 v1) F ((0 : Int32), m_tried, m_best)) (uc3 fun v2 v3 v4 =>
    some (v2, v3, v4, v1)) (uc2 fun v5 v6 =>
    some ((-1 : Int32), v5, v6, v1))
def fX6_setStation (F : Nat) (m_now : Nat → Int64) (m_saved : Nat → Int64) (m_states : Int32) (m_quiet : Int32) (a0 : Int32) (a1 : Int32) : Option (Int32 × (Nat → Int64) × (Nat → Int64) × Int32 × Int32) :=
  bd1 (fX6_isOp m_now a0) fun r1 =>
  if ¬ r1 = 0 then (
    bd1 (fX6_in a1 (-1 : Int32) (7 : Int32)) fun r2 =>
    if ¬ r2 = 0 then (
      bd2 (fX6_save F m_now m_saved m_states m_quiet) fun u3 u4 =>
      bd1 (fX6_ofOp m_now a0 (5 : Int32)) fun r5 =>
      nm (((20 : Int32) + ((6 : Int32) * a0)) + (5 : Int32)) fun v6 =>
      nm (a1.toInt64) fun v7 =>
      gd v6 100 (
        some (r5, vp_updL m_now v6.toNatClampNeg v7, u3, u4, (0 : Int32)))) else (
      bd2 (fX6_fails (2 : Int32)) fun r8 u9 =>
      some (r8, m_now, m_saved, m_states, u9))) else (
    bd2 (fX6_fails (1 : Int32)) fun r10 u11 =>
    some (r10, m_now, m_saved, m_states, u11))
def fX6_usePlan_l32 (u4 : Nat → Int32) : (Int32 × (Nat → Int64)) → Option ((Int32 × (Nat → Int64)) ⊕ (Nat → Int64)) := uc2 fun v9 v10 =>
  bd1 (fX6_many v10 (8 : Int32)) fun r11 =>
  if r11 ≤ v9 then (
    some (.inr v10)) else (
    nm (((20 : Int32) + ((6 : Int32) * v9)) + (5 : Int32)) fun v12 =>
    gd v9 6 (
      nm ((u4 v9.toNatClampNeg).toInt64) fun v13 =>
      gd v12 100 (
        some (.inl (v9 + (1 : Int32), vp_updL v10 v12.toNatClampNeg v13)))))
def fX6_usePlan (F : Nat) (m_now : Nat → Int64) (m_saved : Nat → Int64) (m_states : Int32) (m_quiet : Int32) (m_tried : Nat → Int32) (m_best : Nat → Int32) (m_touching : Nat → Int32) : Option (Int32 × (Nat → Int64) × (Nat → Int64) × Int32 × Int32 × (Nat → Int32) × (Nat → Int32) × (Nat → Int32)) :=
  bd1 (fX6_setting m_now (0 : Int32)) fun r1 =>
  bd4 (fX6_plans F m_now m_tried m_best m_touching r1) fun r2 u3 u4 u5 =>
  if ¬ r2 = (-1 : Int32) then (
    bd2 (fX6_save F m_now m_saved m_states m_quiet) fun u6 u7 =>
    bd1 (lp (fX6_usePlan_l32 u4) F ((0 : Int32), m_now)) fun v8 =>
    some (r2, v8, u6, u7, (0 : Int32), u3, u4, u5)) else (
    bd2 (fX6_fails (1 : Int32)) fun r14 u15 =>
    some (r14, m_now, m_saved, m_states, u15, u3, u4, u5))
def fX6_setPilot (F : Nat) (m_now : Nat → Int64) (m_saved : Nat → Int64) (m_states : Int32) (m_quiet : Int32) (a0 : Int32) (a1 : Int32) : Option (Int32 × (Nat → Int64) × (Nat → Int64) × Int32 × Int32) :=
  bd1 (fX6_in a0 (0 : Int32) (7 : Int32)) fun r1 =>
  if ¬ r1 = 0 then (
    bd2 (fX6_save F m_now m_saved m_states m_quiet) fun u2 u3 =>
    bd1 (
      if a1 = 0 then (
        gd (13 : Int32) 100 (
          some ((m_now (13 : Int32).toNatClampNeg) &&& (((1 : Int64) <<< (a0.toInt64 &&& 63)) ^^^ (-1 : Int64))))) else (
        gd (13 : Int32) 100 (
          some ((m_now (13 : Int32).toNatClampNeg) ||| ((1 : Int64) <<< (a0.toInt64 &&& 63)))))) fun v4 =>
    gd (13 : Int32) 100 (
      gd (13 : Int32) 100 (
        bd1 (fX6_ones F ((vp_updL m_now (13 : Int32).toNatClampNeg v4) (13 : Int32).toNatClampNeg)) fun r5 =>
        some (r5, vp_updL m_now (13 : Int32).toNatClampNeg v4, u2, u3, (0 : Int32))))) else (
    bd2 (fX6_fails (1 : Int32)) fun r6 u7 =>
    some (r6, m_now, m_saved, m_states, u7))
def fX6_pitches_l4 (m_now : Nat → Int64) : (Int32 × Int32) → Option ((Int32 × Int32) ⊕ Int32) := uc2 fun v2 v3 =>
  if (8 : Int32) ≤ v3 then (
    some (.inr v2)) else (
    bd1 (fX6_ofPitch m_now v3 (0 : Int32)) fun r4 =>
    nm (v2 + r4.toInt32) fun v5 =>
    some (.inl (v5, v3 + (1 : Int32))))
def fX6_pitches (F : Nat) (m_now : Nat → Int64) : Option Int32 :=
  bd1 (lp (fX6_pitches_l4 m_now) F ((0 : Int32), (0 : Int32))) fun v1 =>
  some v1
def fX6_isGood_l41 (m_now : Nat → Int64) : (Int32 × Int32) → Option ((Int32 × Int32) ⊕ Int32) := uc2 fun v12 v13 =>
  bd1 (fX6_many m_now (8 : Int32)) fun r14 =>
  if r14 ≤ v13 then (
    some (.inr v12)) else (
    bd1 (fX6_ofOp m_now v13 (0 : Int32)) fun r15 =>
    bd1 (
      if ¬ r15 = (1 : Int32) then (
        some (0 : Int32)) else (
        some ((1 : Int32) <<< (v13 &&& 31)))) fun v16 =>
    nm (v12 ||| v16) fun v17 =>
    some (.inl (v17, v13 + (1 : Int32))))
def fX6_isGood (F : Nat) (m_now : Nat → Int64) (a0 : Int32) : Option Int32 :=
  bd1 (fX6_part F m_now) fun r1 =>
  bd1 (fX6_all F m_now) fun r2 =>
  bd1 (fX6_links F m_now) fun r3 =>
  bd1 (fX6_carrier F m_now) fun r4 =>
  nm (((r2 &&& (r1 ^^^ (-1 : Int64))) &&& (r3 ^^^ (-1 : Int64))) &&& (r4 ^^^ (-1 : Int64))) fun v5 =>
  bd1 (lp (fX6_isGood_l41 m_now) F ((0 : Int32), (0 : Int32))) fun v6 =>
  nm (a0 + (1 : Int32)) fun v7 =>
  gd v7 100 (
    bd1 (
      if ¬ lg_cmp (r1 &&& ((m_now v7.toNatClampNeg) ^^^ (-1 : Int64))) (0 : Int64) = 0 then (
        some (0 : Int32)) else (
        nm (a0 + (1 : Int32)) fun v9 =>
        gd v9 100 (
          if ¬ lg_cmp (v5 &&& (m_now v9.toNatClampNeg)) (0 : Int64) = 0 then (
            some (0 : Int32)) else (
            some (1 : Int32))))) fun v8 =>
    nm (a0 + (4 : Int32)) fun v10 =>
    gd v10 100 (
      if ¬ lg_cmp (m_now v10.toNatClampNeg) (0 : Int64) = 0 then (
        some (0 : Int32)) else (
        if v8 = 0 then (
          some (0 : Int32)) else (
          nm (a0 + (2 : Int32)) fun v11 =>
          gd v11 100 (
            if ¬ lg_cmp (v6.toInt64 &&& ((m_now v11.toNatClampNeg) ^^^ (-1 : Int64))) (0 : Int64) = 0 then (
              some (0 : Int32)) else (
              some (1 : Int32)))))))
def fX6_empties_l2 (a0 : Int32) : (Int32 × (Nat → Int64)) → Option ((Int32 × (Nat → Int64)) ⊕ (Nat → Int64)) := uc2 fun v2 v3 =>
  if (5 : Int32) ≤ v2 then (
    some (.inr v3)) else (
    gd (a0 + v2) 100 (
      some (.inl (v2 + (1 : Int32), vp_updL v3 (a0 + v2).toNatClampNeg (0 : Int64)))))
def fX6_empties (F : Nat) (m_now : Nat → Int64) (a0 : Int32) : Option (Nat → Int64) :=
  bd1 (lp (fX6_empties_l2 a0) F ((0 : Int32), m_now)) fun v1 =>
  some v1
def fX6_leaves (F : Nat) (m_now : Nat → Int64) (a0 : Int32) : Option (Int32 × (Nat → Int64)) :=
  bd1 (fX6_isGood F m_now a0) fun r1 =>
  bd1 (
    if r1 = 0 then (
      some (11 : Int32)) else (
      some (10 : Int32))) fun v2 =>
  gd v2 100 (
    nm ((m_now v2.toNatClampNeg) + (1 : Int64)) fun v3 =>
    gd v2 100 (
      bd1 (fX6_empties F (vp_updL m_now v2.toNatClampNeg v3) a0) fun u4 =>
      gb r1 (
        some (r1, u4))))
def fX6_works_l16 (F : Nat) (v1 : Int32) (r2 : Int32) : (Int32 × (Nat → Int64)) → Option ((Int32 × (Nat → Int64)) ⊕ (Nat → Int64)) := uc2 fun v5 v6 =>
  bd1 (fX6_many v6 (8 : Int32)) fun r7 =>
  if r7 ≤ v5 then (
    some (.inr v6)) else (
    bd1 (
      if ¬ (r2 >>> (v5 &&& 31)) &&& (1 : Int32) = (1 : Int32) then (
        if ¬ (r2 >>> (v5 &&& 31)) &&& (1 : Int32) = (1 : Int32) then (
          some v6) else (
          gd (12 : Int32) 100 (
            nm (v1 + (1 : Int32)) fun v9 =>
            gd v9 100 (
              bd1 (fX6_cellsOf F v6 v5) fun r10 =>
              bd1 (fX6_ones F ((v6 v9.toNatClampNeg) &&& r10)) fun r11 =>
              nm ((v6 (12 : Int32).toNatClampNeg) + r11.toInt64) fun v12 =>
              gd (12 : Int32) 100 (
                nm (v1 + (1 : Int32)) fun v13 =>
                gd v13 100 (
                  bd1 (fX6_cellsOf F (vp_updL v6 (12 : Int32).toNatClampNeg v12) v5) fun r14 =>
                  nm (((vp_updL v6 (12 : Int32).toNatClampNeg v12) v13.toNatClampNeg) &&& (r14 ^^^ (-1 : Int64))) fun v15 =>
                  gd v13 100 (
                    some (vp_updL (vp_updL v6 (12 : Int32).toNatClampNeg v12) v13.toNatClampNeg v15)))))))) else (
        bd1 (fX6_ofOp v6 v5 (0 : Int32)) fun r16 =>
        if ¬ r16 = (1 : Int32) then (
          if ¬ (r2 >>> (v5 &&& 31)) &&& (1 : Int32) = (1 : Int32) then (
            some v6) else (
            gd (12 : Int32) 100 (
              nm (v1 + (1 : Int32)) fun v17 =>
              gd v17 100 (
                bd1 (fX6_cellsOf F v6 v5) fun r18 =>
                bd1 (fX6_ones F ((v6 v17.toNatClampNeg) &&& r18)) fun r19 =>
                nm ((v6 (12 : Int32).toNatClampNeg) + r19.toInt64) fun v20 =>
                gd (12 : Int32) 100 (
                  nm (v1 + (1 : Int32)) fun v21 =>
                  gd v21 100 (
                    bd1 (fX6_cellsOf F (vp_updL v6 (12 : Int32).toNatClampNeg v20) v5) fun r22 =>
                    nm (((vp_updL v6 (12 : Int32).toNatClampNeg v20) v21.toNatClampNeg) &&& (r22 ^^^ (-1 : Int64))) fun v23 =>
                    gd v21 100 (
                      some (vp_updL (vp_updL v6 (12 : Int32).toNatClampNeg v20) v21.toNatClampNeg v23)))))))) else (
          nm (v1 + (2 : Int32)) fun v24 =>
          gd v24 100 (
            nm ((v6 v24.toNatClampNeg) ||| ((1 : Int64) <<< (v5.toInt64 &&& 63))) fun v25 =>
            gd v24 100 (
              some (vp_updL v6 v24.toNatClampNeg v25)))))) fun v8 =>
    some (.inl (v5 + (1 : Int32), v8)))
def fX6_works (F : Nat) (m_now : Nat → Int64) (a0 : Int32) : Option (Nat → Int64) :=
  nm ((60 : Int32) + ((5 : Int32) * a0)) fun v1 =>
  bd1 (fX6_opsAt F m_now a0) fun r2 =>
  bd1 (lp (fX6_works_l16 F v1 r2) F ((0 : Int32), m_now)) fun v3 =>
  if r2 = 0 then (
    some v3) else (
    nm (v1 + (3 : Int32)) fun v4 =>
    gd v4 100 (
      gd (7 : Int32) 100 (
        if lg_cmp (v3 v4.toNatClampNeg) (v3 (7 : Int32).toNatClampNeg) ≤ 0 then (
          some v3) else (
          gd (v1 + (4 : Int32)) 100 (
            some (vp_updL v3 (v1 + (4 : Int32)).toNatClampNeg (1 : Int64)))))))
def fX6_piloted (m_now : Nat → Int64) (a0 : Int32) : Option (Nat → Int64) :=
  nm (a0 + (3 : Int32)) fun v1 =>
  gd v1 100 (
    gd (6 : Int32) 100 (
      if 0 < lg_cmp (m_now v1.toNatClampNeg) (m_now (6 : Int32).toNatClampNeg) then (
        gd (a0 + (4 : Int32)) 100 (
          some (vp_updL m_now (a0 + (4 : Int32)).toNatClampNeg (1 : Int64)))) else (
        gd (a0 + (3 : Int32)) 100 (
          some (vp_updL m_now (a0 + (3 : Int32)).toNatClampNeg (0 : Int64))))))
def fX6_strokes_l291 (F : Nat) : (Int32 × (Nat → Int64)) → Option ((Int32 × (Nat → Int64)) ⊕ (Nat → Int64)) := uc2 fun v18 v19 =>
  if (8 : Int32) ≤ v18 then (
    some (.inr v19)) else (
    bd1 (fX6_ofPitch v19 v18 (0 : Int32)) fun r20 =>
    bd1 (
      if ¬ lg_cmp r20 (1 : Int64) = 0 then (
        some v19) else (
        bd1 (fX6_works F v19 v18) fun u22 =>
        some u22)) fun v21 =>
    some (.inl (v18 + (1 : Int32), v21)))
def fX6_strokes_l235 : (Int32 × (Nat → Int64)) → Option ((Int32 × (Nat → Int64)) ⊕ (Nat → Int64)) := uc2 fun v23 v24 =>
  if (8 : Int32) ≤ v23 then (
    some (.inr v24)) else (
    bd1 (fX6_ofPitch v24 v23 (0 : Int32)) fun r25 =>
    bd1 (
      if ¬ lg_cmp r25 (1 : Int64) = 0 then (
        some v24) else (
        gd (13 : Int32) 100 (
          if ¬ lg_cmp (((v24 (13 : Int32).toNatClampNeg) >>> (v23.toInt64 &&& 63)) &&& (1 : Int64)) (1 : Int64) = 0 then (
            some v24) else (
            bd1 (fX6_piloted v24 ((60 : Int32) + ((5 : Int32) * v23))) fun u27 =>
            some u27)))) fun v26 =>
    some (.inl (v23 + (1 : Int32), v26)))
def fX6_strokes_l133 (v28 : Int32) : (Int32 × (Nat → Int64)) → Option ((Int32 × (Nat → Int64)) ⊕ (Nat → Int64)) := uc2 fun v31 v32 =>
  if (5 : Int32) ≤ v31 then (
    some (.inr v32)) else (
    nm ((60 : Int32) + ((5 : Int32) * v28)) fun v33 =>
    nm (v33 + v31) fun v34 =>
    nm (((60 : Int32) + ((5 : Int32) * v28)) - (5 : Int32)) fun v35 =>
    nm (v35 + v31) fun v36 =>
    gd v36 100 (
      nm (v32 v36.toNatClampNeg) fun v37 =>
      gd v34 100 (
        some (.inl (v31 + (1 : Int32), vp_updL v32 v34.toNatClampNeg v37)))))
def fX6_strokes_l125 (F : Nat) : (Int32 × (Nat → Int64)) → Option ((Int32 × (Nat → Int64)) ⊕ (Nat → Int64)) := uc2 fun v28 v29 =>
  if v28 ≤ 0 then (
    some (.inr v29)) else (
    bd1 (lp (fX6_strokes_l133 v28) F ((0 : Int32), v29)) fun v30 =>
    some (.inl (v28 + (-1 : Int32), v30)))
def fX6_strokes_l24 (F : Nat) (r1 : Int32) : (Int32 × Int32 × Int32 × (Nat → Int64)) → Option ((Int32 × Int32 × Int32 × (Nat → Int64)) ⊕ (Int32 × Int32 × (Nat → Int64))) := uc4 fun v38 v39 v40 v41 =>
  if v40 < 0 then (
    some (.inr (v38, v39, v41))) else (
    nm ((60 : Int32) + ((5 : Int32) * v40)) fun v42 =>
    nm (v42 + (3 : Int32)) fun v43 =>
    gd v43 100 (
      bd1 (fX6_ofPitch v41 v40 (0 : Int32)) fun r44 =>
      gd (5 : Int32) 100 (
        nm ((v41 v43.toNatClampNeg) + (r44 * (v41 (5 : Int32).toNatClampNeg))) fun v45 =>
        gd v43 100 (
          bd1 (fX6_ofPitch (vp_updL v41 v43.toNatClampNeg v45) v40 (0 : Int32)) fun r46 =>
          bd3 (
            if ¬ lg_cmp r46 (1 : Int64) = 0 then (
              some (v38, v39, vp_updL v41 v43.toNatClampNeg v45)) else (
              bd1 (
                if r1 ≤ (8 : Int32) then (
                  some r1) else (
                  some (8 : Int32))) fun v50 =>
              if v40 + (1 : Int32) < v50 then (
                some (v38, v39, vp_updL v41 v43.toNatClampNeg v45)) else (
                bd2 (fX6_leaves F (vp_updL v41 v43.toNatClampNeg v45) v42) fun r51 u52 =>
                bd1 (
                  if r51 = 0 then (
                    some (0 : Int32)) else (
                    some (1 : Int32))) fun v53 =>
                nm (v39 + v53) fun v54 =>
                some (v38 + (1 : Int32), v54, u52)))) fun v47 v48 v49 =>
          some (.inl (v47, v48, v40 + (-1 : Int32), v49))))))
def fX6_strokes (F : Nat) (m_now : Nat → Int64) : Option (Int32 × (Nat → Int64)) :=
  bd1 (fX6_stations F m_now) fun r1 =>
  gd (9 : Int32) 100 (
    nm ((m_now (9 : Int32).toNatClampNeg) + (1 : Int64)) fun v2 =>
    gd (9 : Int32) 100 (
      bd3 (lp (fX6_strokes_l24 F r1) F ((0 : Int32), (0 : Int32), (7 : Int32), vp_updL m_now (9 : Int32).toNatClampNeg v2)) fun v3 v4 v5 =>
      bd1 (lp (fX6_strokes_l125 F) F ((7 : Int32), v5)) fun v6 =>
      bd1 (fX6_empties F v6 (60 : Int32)) fun u7 =>
      gd (60 : Int32) 100 (
        bd1 (fX6_all F (vp_updL u7 (60 : Int32).toNatClampNeg (1 : Int64))) fun r8 =>
        gd (61 : Int32) 100 (
          bd3 (
            if ¬ r1 = 0 then (
              some (v3, v4, vp_updL (vp_updL u7 (60 : Int32).toNatClampNeg (1 : Int64)) (61 : Int32).toNatClampNeg r8)) else (
              bd2 (fX6_leaves F (vp_updL (vp_updL u7 (60 : Int32).toNatClampNeg (1 : Int64)) (61 : Int32).toNatClampNeg r8) (60 : Int32)) fun r12 u13 =>
              bd1 (
                if r12 = 0 then (
                  some (0 : Int32)) else (
                  some (1 : Int32))) fun v14 =>
              nm (v4 + v14) fun v15 =>
              some (v3 + (1 : Int32), v15, u13))) fun v9 v10 v11 =>
          bd1 (lp (fX6_strokes_l235) F ((0 : Int32), v11)) fun v16 =>
          bd1 (lp (fX6_strokes_l291 F) F ((0 : Int32), v16)) fun v17 =>
          if ¬ v9 = 0 then (
            if ¬ v9 = v10 then (
              some ((2 : Int32), v17)) else (
              some ((1 : Int32), v17))) else (
            some ((0 : Int32), v17))))))
def fX6_stroke (F : Nat) (m_now : Nat → Int64) (m_saved : Nat → Int64) (m_states : Int32) (m_quiet : Int32) : Option (Int32 × (Nat → Int64) × (Nat → Int64) × Int32 × Int32) :=
  bd2 (fX6_save F m_now m_saved m_states m_quiet) fun u1 u2 =>
  bd2 (fX6_strokes F m_now) fun r3 u4 =>
  some (r3, u4, u1, u2, (0 : Int32))
def fX6_strokesBy_l23 (F : Nat) (a0 : Int32) : (Int32 × (Nat → Int64)) → Option ((Int32 × (Nat → Int64)) ⊕ (Nat → Int64)) := uc2 fun v3 v4 =>
  if a0 ≤ v3 then (
    some (.inr v4)) else (
    bd2 (fX6_strokes F v4) fun r5 u6 =>
    some (.inl (v3 + (1 : Int32), u6)))
def fX6_strokesBy (F : Nat) (m_now : Nat → Int64) (a0 : Int32) : Option (Int32 × (Nat → Int64) × Int32) :=
  bd1 (fX6_in a0 (1 : Int32) (50 : Int32)) fun r1 =>
  if ¬ r1 = 0 then (
    bd1 (lp (fX6_strokesBy_l23 F a0) F ((0 : Int32), m_now)) fun v2 =>
    some (a0, v2, (0 : Int32))) else (
    bd2 (fX6_fails (1 : Int32)) fun r7 u8 =>
    some (r7, m_now, u8))
def fX6_emptyPress_l28 (F : Nat) : (Int32 × (Nat → Int64)) → Option ((Int32 × (Nat → Int64)) ⊕ (Nat → Int64)) := uc2 fun v6 v7 =>
  if (8 : Int32) ≤ v6 then (
    some (.inr v7)) else (
    bd1 (fX6_empties F v7 ((60 : Int32) + ((5 : Int32) * v6))) fun u8 =>
    some (.inl (v6 + (1 : Int32), u8)))
def fX6_emptyPress (F : Nat) (m_now : Nat → Int64) (m_saved : Nat → Int64) (m_states : Int32) (m_quiet : Int32) : Option (Int32 × (Nat → Int64) × (Nat → Int64) × Int32 × Int32) :=
  bd2 (fX6_save F m_now m_saved m_states m_quiet) fun u1 u2 =>
  bd1 (fX6_pitches F m_now) fun r3 =>
  gd (11 : Int32) 100 (
    nm ((m_now (11 : Int32).toNatClampNeg) + r3.toInt64) fun v4 =>
    gd (11 : Int32) 100 (
      bd1 (lp (fX6_emptyPress_l28 F) F ((0 : Int32), vp_updL m_now (11 : Int32).toNatClampNeg v4)) fun v5 =>
      some (r3, v5, u1, u2, (0 : Int32))))
def fX6_operationOf (F : Nat) (m_now : Nat → Int64) (a0 : Int32) (a1 : Int32) : Option Int32 :=
  if (5 : Int32) ≤ a1 then (
    if ¬ a1 = (5 : Int32) then (
      if ¬ a1 = (6 : Int32) then (
        bd1 (fX6_touches F m_now a0) fun r1 =>
        some r1) else (
        bd1 (fX6_ofOp m_now a0 (5 : Int32)) fun r2 =>
        some r2)) else (
      bd1 (fX6_force m_now a0) fun r3 =>
      some r3)) else (
    bd1 (fX6_ofOp m_now a0 a1) fun r4 =>
    some r4)
def fX6_operation (F : Nat) (m_now : Nat → Int64) (a0 : Int32) (a1 : Int32) : Option (Int32 × Int32) :=
  bd1 (fX6_isOp m_now a0) fun r1 =>
  if ¬ r1 = 0 then (
    bd1 (fX6_in a1 (0 : Int32) (7 : Int32)) fun r2 =>
    if r2 = 0 then (
      bd2 (fX6_fails (2 : Int32)) fun r3 u4 =>
      some (r3, u4)) else (
      bd1 (fX6_operationOf F m_now a0 a1) fun r5 =>
      some (r5, (0 : Int32)))) else (
    bd2 (fX6_fails (1 : Int32)) fun r6 u7 =>
    some (r6, u7))
def fX6_stationOf (F : Nat) (m_now : Nat → Int64) (a0 : Int32) (a1 : Int32) : Option Int32 :=
  bd1 (
    if ¬ a1 = 0 then (
      bd1 (fX6_opsAt F m_now a0) fun r2 =>
      bd1 (fX6_forces F m_now r2) fun r3 =>
      some r3) else (
      bd1 (fX6_opsAt F m_now a0) fun r4 =>
      some r4)) fun v1 =>
  bd1 (
    if ¬ a1 = (2 : Int32) then (
      bd1 (fX6_ofPitch m_now a0 (0 : Int32)) fun r6 =>
      some r6.toInt32) else (
      gd (13 : Int32) 100 (
        some ((((m_now (13 : Int32).toNatClampNeg) >>> (a0.toInt64 &&& 63)) &&& (1 : Int64)).toInt32)))) fun v5 =>
  if (2 : Int32) ≤ a1 then (
    some v5) else (
    some v1)
def fX6_station (F : Nat) (m_now : Nat → Int64) (a0 : Int32) (a1 : Int32) : Option (Int32 × Int32) :=
  bd1 (fX6_in a0 (0 : Int32) (7 : Int32)) fun r1 =>
  if r1 = 0 then (
    bd2 (fX6_fails (1 : Int32)) fun r2 u3 =>
    some (r2, u3)) else (
    bd1 (fX6_in a1 (0 : Int32) (3 : Int32)) fun r4 =>
    if r4 = 0 then (
      bd2 (fX6_fails (1 : Int32)) fun r5 u6 =>
      some (r5, u6)) else (
      bd1 (fX6_stationOf F m_now a0 a1) fun r7 =>
      some (r7, (0 : Int32))))
def fX6_pitchOf (F : Nat) (m_now : Nat → Int64) (a0 : Int32) (a1 : Int32) : Option Int32 :=
  bd1 (fX6_ofPitch m_now a0 (0 : Int32)) fun r1 =>
  if ¬ lg_cmp r1 (0 : Int64) = 0 then (
    if ¬ a1 = (3 : Int32) then (
      bd1 (fX6_ofPitch m_now a0 ((2 : Int32) + a1)) fun r2 =>
      some r2.toInt32) else (
      bd1 (fX6_ofPitch m_now a0 (1 : Int32)) fun r3 =>
      bd1 (fX6_ones F r3) fun r4 =>
      some r4)) else (
    some (-1 : Int32))
def fX6_pitch (F : Nat) (m_now : Nat → Int64) (a0 : Int32) (a1 : Int32) : Option (Int32 × Int32) :=
  bd1 (fX6_in a0 (0 : Int32) (7 : Int32)) fun r1 =>
  if r1 = 0 then (
    bd2 (fX6_fails (1 : Int32)) fun r2 u3 =>
    some (r2, u3)) else (
    bd1 (fX6_in a1 (0 : Int32) (3 : Int32)) fun r4 =>
    if r4 = 0 then (
      bd2 (fX6_fails (1 : Int32)) fun r5 u6 =>
      some (r5, u6)) else (
      bd1 (fX6_pitchOf F m_now a0 a1) fun r7 =>
      some (r7, (0 : Int32))))
def fX6_left (m_now : Nat → Int64) (a0 : Int32) : Option (Int64 × Int32) :=
  bd1 (fX6_in a0 (0 : Int32) (7 : Int32)) fun r1 =>
  if r1 = 0 then (
    bd2 (fX6_fails (1 : Int32)) fun r2 u3 =>
    some (r2.toInt64, u3)) else (
    bd1 (fX6_ofPitch m_now a0 (1 : Int32)) fun r4 =>
    some (r4, (0 : Int32)))
def fX6_wholeOf (F : Nat) (m_now : Nat → Int64) (m_length : Int32) (a0 : Int32) : Option Int32 :=
  if (9 : Int32) ≤ a0 then (
    if (11 : Int32) ≤ a0 then (
      if (15 : Int32) ≤ a0 then (
        if ¬ a0 = (15 : Int32) then (
          some m_length) else (
          gd (13 : Int32) 100 (
            bd1 (fX6_ones F (m_now (13 : Int32).toNatClampNeg)) fun r1 =>
            some r1))) else (
        bd1 (fX6_many m_now (a0 - (2 : Int32))) fun r2 =>
        some r2)) else (
      if ¬ a0 = (9 : Int32) then (
        bd1 (fX6_pitches F m_now) fun r3 =>
        some r3) else (
        bd1 (fX6_stations F m_now) fun r4 =>
        some r4))) else (
    bd1 (fX6_many m_now a0) fun r5 =>
    some r5)
def fX6_whole (F : Nat) (m_now : Nat → Int64) (m_length : Int32) (a0 : Int32) : Option (Int32 × Int32) :=
  bd1 (fX6_in a0 (0 : Int32) (16 : Int32)) fun r1 =>
  if r1 = 0 then (
    bd2 (fX6_fails (1 : Int32)) fun r2 u3 =>
    some (r2, u3)) else (
    bd1 (fX6_wholeOf F m_now m_length a0) fun r4 =>
    some (r4, (0 : Int32)))
def fX6_faultOfDie (F : Nat) (m_now : Nat → Int64) : Option Int32 :=
  bd1 (fX6_part F m_now) fun r1 =>
  if ¬ lg_cmp r1 (0 : Int64) = 0 then (
    bd1 (fX6_takenBy F m_now (0 : Int32)) fun r2 =>
    bd1 (fX6_part F m_now) fun r3 =>
    bd1 (fX6_links F m_now) fun r4 =>
    if lg_cmp (r2 &&& (r3 ||| r4)) (0 : Int64) = 0 then (
      bd1 (fX6_takenBy F m_now (0 : Int32)) fun r5 =>
      bd1 (fX6_carrier F m_now) fun r6 =>
      if lg_cmp (r5 &&& r6) (0 : Int64) = 0 then (
        bd1 (fX6_takenBy F m_now (1 : Int32)) fun r7 =>
        bd1 (fX6_part F m_now) fun r8 =>
        if lg_cmp (r7 &&& (r8 ^^^ (-1 : Int64))) (0 : Int64) = 0 then (
          bd1 (fX6_standing F m_now) fun r9 =>
          if lg_cmp r9 (0 : Int64) = 0 then (
            bd1 (fX6_loose F m_now) fun r10 =>
            if lg_cmp r10 (0 : Int64) = 0 then (
              some (0 : Int32)) else (
              some (6 : Int32))) else (
            some (5 : Int32))) else (
          some (4 : Int32))) else (
        some (3 : Int32))) else (
      some (2 : Int32))) else (
    some (1 : Int32))
def fX6_dieFault (F : Nat) (m_now : Nat → Int64) : Option (Int32 × Int32) :=
  bd1 (fX6_faultOfDie F m_now) fun r1 =>
  some (r1, (0 : Int32))
def fX6_planFault (F : Nat) (m_now : Nat → Int64) : Option (Int32 × Int32) :=
  bd1 (fX6_faultOfPlan F m_now) fun r1 =>
  some (r1, (0 : Int32))
def fX6_planned (F : Nat) (m_now : Nat → Int64) (m_tried : Nat → Int32) (m_best : Nat → Int32) (m_touching : Nat → Int32) (a0 : Int32) : Option (Int32 × Int32 × (Nat → Int32) × (Nat → Int32) × (Nat → Int32)) :=
  if a0 = (-1 : Int32) then (
    bd1 (fX6_setting m_now (0 : Int32)) fun r1 =>
    bd4 (fX6_plans F m_now m_tried m_best m_touching r1) fun r2 u3 u4 u5 =>
    if r2 = (-1 : Int32) then (
      some (r2, (0 : Int32), u3, u4, u5)) else (
      if ¬ a0 = (-1 : Int32) then (
        gd a0 6 (
          some (u4 a0.toNatClampNeg, (0 : Int32), u3, u4, u5))) else (
        some (r2, (0 : Int32), u3, u4, u5)))) else (
    bd1 (fX6_isOp m_now a0) fun r6 =>
    if ¬ r6 = 0 then (
      bd1 (fX6_setting m_now (0 : Int32)) fun r7 =>
      bd4 (fX6_plans F m_now m_tried m_best m_touching r7) fun r8 u9 u10 u11 =>
      if r8 = (-1 : Int32) then (
        some (r8, (0 : Int32), u9, u10, u11)) else (
        if ¬ a0 = (-1 : Int32) then (
          gd a0 6 (
            some (u10 a0.toNatClampNeg, (0 : Int32), u9, u10, u11))) else (
          some (r8, (0 : Int32), u9, u10, u11)))) else (
      bd2 (fX6_fails (1 : Int32)) fun r12 u13 =>
      some (r12, u13, m_tried, m_best, m_touching)))
def fX6_leastLimit_l24 (F : Nat) (m_now : Nat → Int64) : (Int32 × Int32 × (Nat → Int32) × (Nat → Int32) × (Nat → Int32)) → Option ((Int32 × Int32 × (Nat → Int32) × (Nat → Int32) × (Nat → Int32)) ⊕ (Int32 × (Nat → Int32) × (Nat → Int32) × (Nat → Int32))) := uc5 fun v9 v10 v11 v12 v13 =>
  if v10 ≤ v9 then (
    some (.inr (v9, v11, v12, v13))) else (
    gz (2 : Int32) (
      nm ((v9 + v10) / (2 : Int32)) fun v14 =>
      bd4 (fX6_plans F m_now v11 v12 v13 v14) fun r15 u16 u17 u18 =>
      bd2 (
        if ¬ r15 = (-1 : Int32) then (
          some (v9, v14)) else (
          nm (v14 + (1 : Int32)) fun v21 =>
          some (v21, v10))) fun v19 v20 =>
      some (.inl (v19, v20, u16, u17, u18))))
def fX6_leastLimit (F : Nat) (m_now : Nat → Int64) (m_tried : Nat → Int32) (m_best : Nat → Int32) (m_touching : Nat → Int32) : Option (Int32 × Int32 × (Nat → Int32) × (Nat → Int32) × (Nat → Int32)) :=
  bd4 (fX6_plans F m_now m_tried m_best m_touching (999 : Int32)) fun r1 u2 u3 u4 =>
  if ¬ r1 = (-1 : Int32) then (
    bd4 (lp (fX6_leastLimit_l24 F m_now) F ((1 : Int32), (999 : Int32), u2, u3, u4)) fun v5 v6 v7 v8 =>
    some (v5, (0 : Int32), v6, v7, v8)) else (
    some ((-1 : Int32), (0 : Int32), u2, u3, u4))
def fX6_fits_l23 (r1 : Int64) (v4 : Int32) : (Int64 × Int32) → Option ((Int64 × Int32) ⊕ Int64) := uc2 fun v8 v9 =>
  if v4 ≤ v9 then (
    some (.inr v8)) else (
    bd1 (
      if ¬ lg_cmp ((r1 >>> (v9.toInt64 &&& 63)) &&& (1 : Int64)) (1 : Int64) = 0 then (
        some (0 : Int64)) else (
        some ((1 : Int64) <<< (((v4 - (1 : Int32)) - v9).toInt64 &&& 63)))) fun v10 =>
    nm (v8 ||| v10) fun v11 =>
    some (.inl (v11, v9 + (1 : Int32))))
def fX6_fits (F : Nat) (m_now : Nat → Int64) : Option Int32 :=
  bd1 (fX6_part F m_now) fun r1 =>
  bd1 (fX6_many m_now (0 : Int32)) fun r2 =>
  bd1 (fX6_many m_now (1 : Int32)) fun r3 =>
  nm (r2 * r3) fun v4 =>
  bd1 (lp (fX6_fits_l23 r1 v4) F ((0 : Int64), (0 : Int32))) fun v5 =>
  if lg_cmp r1 (0 : Int64) = 0 then (
    some (0 : Int32)) else (
    bd1 (fX6_carrier F m_now) fun r6 =>
    bd1 (fX6_grown F m_now r1) fun r7 =>
    if ¬ lg_cmp (v5 &&& (r6 ||| r7)) (0 : Int64) = 0 then (
      some (0 : Int32)) else (
      some (1 : Int32)))
def fX6_fitsTwice (F : Nat) (m_now : Nat → Int64) : Option (Int32 × Int32) :=
  bd1 (fX6_fits F m_now) fun r1 =>
  some (r1, (0 : Int32))
def fX6_scrapOf (F : Nat) (m_now : Nat → Int64) (a0 : Int32) : Option Int32 :=
  bd1 (fX6_many m_now (0 : Int32)) fun r1 =>
  bd1 (fX6_many m_now (1 : Int32)) fun r2 =>
  nm (r1 * r2) fun v3 =>
  bd1 (
    if a0 = 0 then (
      bd1 (fX6_part F m_now) fun r5 =>
      bd1 (fX6_ones F r5) fun r6 =>
      some r6) else (
      bd1 (fX6_fits F m_now) fun r7 =>
      if ¬ r7 = (1 : Int32) then (
        bd1 (fX6_part F m_now) fun r8 =>
        bd1 (fX6_ones F r8) fun r9 =>
        some r9) else (
        bd1 (fX6_part F m_now) fun r10 =>
        bd1 (fX6_ones F r10) fun r11 =>
        some ((2 : Int32) * r11)))) fun v4 =>
  gz v3 (
    some (((1000 : Int32) * (v3 - v4)) / v3))
def fX6_scrap (F : Nat) (m_now : Nat → Int64) (a0 : Int32) : Option (Int32 × Int32) :=
  bd1 (fX6_scrapOf F m_now a0) fun r1 =>
  some (r1, (0 : Int32))
def fX6_strokesToGood_l83 (v1 : Nat → Int64) : (Int32 × (Nat → Int64)) → Option ((Int32 × (Nat → Int64)) ⊕ (Nat → Int64)) := uc2 fun v5 v6 =>
  if (100 : Int32) ≤ v5 then (
    some (.inr v6)) else (
    gd v5 100 (
      nm (v1 v5.toNatClampNeg) fun v7 =>
      gd v5 100 (
        some (.inl (v5 + (1 : Int32), vp_updL v6 v5.toNatClampNeg v7)))))
def fX6_strokesToGood_l35 (F : Nat) (v1 : Nat → Int64) : (Int32 × Int32 × (Nat → Int64)) → Option ((Int32 × Int32 × (Nat → Int64)) ⊕ (Int32 × (Nat → Int64))) := uc3 fun v8 v9 v10 =>
  if (60 : Int32) < v9 then (
    some (.inr (v8, v10))) else (
    if ¬ v8 = (-1 : Int32) then (
      some (.inr (v8, v10))) else (
      bd2 (fX6_strokes F v10) fun r11 u12 =>
      gd (10 : Int32) 100 (
        gd (10 : Int32) 100 (
          bd1 (
            if lg_cmp (u12 (10 : Int32).toNatClampNeg) (v1 (10 : Int32).toNatClampNeg) ≤ 0 then (
              some (-1 : Int32)) else (
              some v9)) fun v13 =>
          some (.inl (v13, v9 + (1 : Int32), u12))))))
def fX6_strokesToGood_l7 (m_now : Nat → Int64) : (Int32 × (Nat → Int64)) → Option ((Int32 × (Nat → Int64)) ⊕ (Nat → Int64)) := uc2 fun v14 v15 =>
  if (100 : Int32) ≤ v14 then (
    some (.inr v15)) else (
    gd v14 100 (
      nm (m_now v14.toNatClampNeg) fun v16 =>
      gd v14 100 (
        some (.inl (v14 + (1 : Int32), vp_updL v15 v14.toNatClampNeg v16)))))
def fX6_strokesToGood (F : Nat) (m_now : Nat → Int64) (m_aside : Nat → Int64) : Option (Int32 × (Nat → Int64) × (Nat → Int64) × Int32) :=
  bd1 (lp (fX6_strokesToGood_l7 m_now) F ((0 : Int32), m_aside)) fun v1 =>
  bd2 (lp (fX6_strokesToGood_l35 F v1) F ((-1 : Int32), (1 : Int32), m_now)) fun v2 v3 =>
  bd1 (lp (fX6_strokesToGood_l83 v1) F ((0 : Int32), v3)) fun v4 =>
  some (v2, v4, v1, (0 : Int32))
def fX6_type (m_text : Nat → Int32) (m_length : Int32) (a0 : Int32) : Option (Int32 × Int32 × (Nat → Int32) × Int32) :=
  bd1 (fX6_in a0 (0 : Int32) (127 : Int32)) fun r1 =>
  if ¬ r1 = 0 then (
    if ¬ m_length = (150 : Int32) then (
      gd m_length 150 (
        nm (m_length + (1 : Int32)) fun v2 =>
        some (v2, (0 : Int32), upd m_text m_length.toNatClampNeg a0, v2))) else (
      bd2 (fX6_fails (2 : Int32)) fun r3 u4 =>
      some (r3, u4, m_text, m_length))) else (
    bd2 (fX6_fails (1 : Int32)) fun r5 u6 =>
    some (r5, u6, m_text, m_length))
def fX6_clearCommands (m_length : Int32) : Option (Int32 × Int32 × Int32) :=
  some (m_length, (0 : Int32), (0 : Int32))
def fX6_isAt (m_text : Nat → Int32) (m_length : Int32) (m_at : Int32) (a0 : Int32) (a1 : Int32) : Option Int32 :=
  if m_length ≤ m_at then (
    some (0 : Int32)) else (
    gd m_at 150 (
      bd1 (fX6_in (m_text m_at.toNatClampNeg) a0 a1) fun r1 =>
      if r1 = 0 then (
        some (0 : Int32)) else (
        some (1 : Int32))))
def fX6_skips_l0 (m_text : Nat → Int32) (m_length : Int32) : Int32 → Option (Int32 ⊕ Int32) := uc1 fun v2 =>
  bd1 (fX6_isAt m_text m_length v2 (32 : Int32) (32 : Int32)) fun r3 =>
  if r3 = 0 then (
    some (.inr v2)) else (
    nm (v2 + (1 : Int32)) fun v4 =>
    some (.inl v4))
def fX6_skips (F : Nat) (m_text : Nat → Int32) (m_length : Int32) (m_at : Int32) : Option Int32 :=
  bd1 (lp (fX6_skips_l0 m_text m_length) F m_at) fun v1 =>
  some v1
def fX6_verbOf (a0 : Int64) : Option Int32 :=
  if lg_cmp a0 (17092712 : Int64) = 0 then (
    if ¬ lg_cmp a0 (17092712 : Int64) = 0 then (
      if ¬ lg_cmp a0 (525908 : Int64) = 0 then (
        some (2 : Int32)) else (
        some (1 : Int32))) else (
      some (0 : Int32))) else (
    if lg_cmp a0 (525908 : Int64) = 0 then (
      if ¬ lg_cmp a0 (17092712 : Int64) = 0 then (
        if ¬ lg_cmp a0 (525908 : Int64) = 0 then (
          some (2 : Int32)) else (
          some (1 : Int32))) else (
        some (0 : Int32))) else (
      if ¬ lg_cmp a0 (402891 : Int64) = 0 then (
        if lg_cmp a0 (17479784 : Int64) = 0 then (
          if ¬ lg_cmp a0 (17479784 : Int64) = 0 then (
            if ¬ lg_cmp a0 (71108 : Int64) = 0 then (
              some (5 : Int32)) else (
              some (4 : Int32))) else (
            some (3 : Int32))) else (
          if lg_cmp a0 (71108 : Int64) = 0 then (
            if ¬ lg_cmp a0 (17479784 : Int64) = 0 then (
              if ¬ lg_cmp a0 (71108 : Int64) = 0 then (
                some (5 : Int32)) else (
                some (4 : Int32))) else (
              some (3 : Int32))) else (
            if ¬ lg_cmp a0 (17171557 : Int64) = 0 then (
              if lg_cmp a0 (536622 : Int64) = 0 then (
                if ¬ lg_cmp a0 (536622 : Int64) = 0 then (
                  some (7 : Int32)) else (
                  some (6 : Int32))) else (
                if ¬ lg_cmp a0 (17084916 : Int64) = 0 then (
                  if ¬ lg_cmp a0 (659111269 : Int64) = 0 then (
                    some (-1 : Int32)) else (
                    some (8 : Int32))) else (
                  if ¬ lg_cmp a0 (536622 : Int64) = 0 then (
                    some (7 : Int32)) else (
                    some (6 : Int32))))) else (
              if ¬ lg_cmp a0 (17479784 : Int64) = 0 then (
                if ¬ lg_cmp a0 (71108 : Int64) = 0 then (
                  some (5 : Int32)) else (
                  some (4 : Int32))) else (
                some (3 : Int32)))))) else (
        if ¬ lg_cmp a0 (17092712 : Int64) = 0 then (
          if ¬ lg_cmp a0 (525908 : Int64) = 0 then (
            some (2 : Int32)) else (
            some (1 : Int32))) else (
          some (0 : Int32)))))
def fX6_verb_l7 (m_text : Nat → Int32) (m_length : Int32) (m_at : Int32) : (Int64 × Int32) → Option ((Int64 × Int32) ⊕ (Int64 × Int32)) := uc2 fun v6 v7 =>
  bd1 (fX6_isAt m_text m_length v7 (97 : Int32) (122 : Int32)) fun r8 =>
  if r8 = 0 then (
    some (.inr (v6, v7))) else (
    bd1 (
      if (6 : Int32) ≤ v7 - m_at then (
        some (-1 : Int64)) else (
        gd v7 150 (
          some ((((32 : Int64) * v6) + ((m_text v7.toNatClampNeg).toInt64)) - (96 : Int64))))) fun v9 =>
    nm (v7 + (1 : Int32)) fun v10 =>
    some (.inl (v9, v10)))
def fX6_verb (F : Nat) (m_text : Nat → Int32) (m_length : Int32) (m_at : Int32) : Option (Int32 × Int32) :=
  bd2 (lp (fX6_verb_l7 m_text m_length m_at) F ((0 : Int64), m_at)) fun v1 v2 =>
  bd1 (
    if v2 - m_at ≤ (6 : Int32) then (
      bd1 (fX6_verbOf v1) fun r4 =>
      some r4) else (
      some (-1 : Int32))) fun v3 =>
  bd1 (
    if ¬ v3 = (-1 : Int32) then (
      some v2) else (
      some m_at)) fun v5 =>
  some (v3, v5)
def fX6_numbersOf (a0 : Int32) : Option Int32 :=
  if a0 = (1 : Int32) then (
    some (4 : Int32)) else (
    if a0 = (2 : Int32) then (
      some (4 : Int32)) else (
      if ¬ a0 = (3 : Int32) then (
        if ¬ a0 = (4 : Int32) then (
          if a0 = 0 then (
            some (2 : Int32)) else (
            if ¬ a0 = (5 : Int32) then (
              if ¬ a0 = (6 : Int32) then (
                some (1 : Int32)) else (
                some (0 : Int32))) else (
              some (2 : Int32)))) else (
          some (3 : Int32))) else (
        some (4 : Int32))))
def fX6_number_l26 (m_text : Nat → Int32) (m_length : Int32) (a0 : Int32) : (Int32 × Int32 × (Nat → Int32)) → Option ((Int32 × Int32 × (Nat → Int32)) ⊕ (Int32 × Int32 × (Nat → Int32))) := uc3 fun v7 v8 v9 =>
  if (3 : Int32) ≤ v7 then (
    some (.inr (v7, v8, v9))) else (
    bd1 (fX6_isAt m_text m_length v8 (48 : Int32) (57 : Int32)) fun r10 =>
    if r10 = 0 then (
      some (.inr (v7, v8, v9))) else (
      gd a0 160 (
        gd v8 150 (
          nm ((((10 : Int32) * (v9 a0.toNatClampNeg)) + (m_text v8.toNatClampNeg)) - (48 : Int32)) fun v11 =>
          gd a0 160 (
            nm (v8 + (1 : Int32)) fun v12 =>
            some (.inl (v7 + (1 : Int32), v12, upd v9 a0.toNatClampNeg v11)))))))
def fX6_number (F : Nat) (m_text : Nat → Int32) (m_length : Int32) (m_at : Int32) (m_told : Nat → Int32) (a0 : Int32) : Option (Int32 × Int32 × (Nat → Int32)) :=
  bd1 (fX6_isAt m_text m_length m_at (32 : Int32) (32 : Int32)) fun r1 =>
  if ¬ r1 = 0 then (
    bd1 (fX6_skips F m_text m_length m_at) fun u2 =>
    gd a0 160 (
      bd3 (lp (fX6_number_l26 m_text m_length a0) F ((0 : Int32), u2, upd m_told a0.toNatClampNeg (0 : Int32))) fun v3 v4 v5 =>
      if v3 ≤ 0 then (
        some ((0 : Int32), v4, v5)) else (
        bd1 (fX6_isAt m_text m_length v4 (48 : Int32) (57 : Int32)) fun r6 =>
        if ¬ r6 = 0 then (
          some ((0 : Int32), v4, v5)) else (
          some ((1 : Int32), v4, v5))))) else (
    some ((0 : Int32), m_at, m_told))
def fX6_reads_l49 (F : Nat) (m_text : Nat → Int32) (m_length : Int32) (v21 : Int32) (r22 : Int32) : (Int32 × Int32 × (Nat → Int32)) → Option ((Int32 × Int32 × (Nat → Int32)) ⊕ ((Int32 × (Nat → Int32)) ⊕ (Int32 × (Nat → Int32)))) := uc3 fun v33 v34 v35 =>
  bd1 (fX6_numbersOf r22) fun r36 =>
  if r36 ≤ v33 then (
    some (.inr (.inr ((v34, v35))))) else (
    bd3 (fX6_number F m_text m_length v34 v35 (((4 : Int32) * v21) + v33)) fun r37 u38 u39 =>
    if ¬ r37 = 0 then (
      some (.inl (v33 + (1 : Int32), u38, u39))) else (
      some (.inr (.inl (u38, u39)))))
def fX6_reads_l14 (F : Nat) (m_text : Nat → Int32) (m_length : Int32) : (Int32 × (Nat → Int32) × (Nat → Int32) × Int32) → Option ((Int32 × (Nat → Int32) × (Nat → Int32) × Int32) ⊕ ((Int32 × (Nat → Int32) × (Nat → Int32) × Int32) ⊕ (Int32 × (Nat → Int32) × (Nat → Int32) × Int32) ⊕ (Int32 × (Nat → Int32) × (Nat → Int32) × Int32) ⊕ (Int32 × (Nat → Int32) × (Nat → Int32) × Int32))) := uc4 fun v18 v19 v20 v21 =>
  if m_length ≤ v18 then (
    some (.inr (.inr (.inr (.inr ((v18, v19, v20, v21))))))) else (
    bd2 (fX6_verb F m_text m_length v18) fun r22 u23 =>
    if ¬ r22 = (-1 : Int32) then (
      gd v21 40 (
        bdS2 (lp (fX6_reads_l49 F m_text m_length v21 r22) F ((0 : Int32), u23, v20)) (uc2 fun v24 v25 =>
          some (.inr (.inr (.inl (v24, upd v19 v21.toNatClampNeg r22, v25, v21))))) (uc2 fun v26 v27 =>
          bd1 (fX6_skips F m_text m_length v26) fun u28 =>
          bd1 (fX6_isAt m_text m_length u28 (59 : Int32) (59 : Int32)) fun r29 =>
          if ¬ r29 = 0 then (
            nm (u28 + (1 : Int32)) fun v30 =>
            nm (v21 + (1 : Int32)) fun v31 =>
            bd1 (fX6_skips F m_text m_length v30) fun u32 =>
            some (.inl (u32, upd v19 v21.toNatClampNeg r22, v27, v31))) else (
            some (.inr (.inr (.inr (.inl (u28, upd v19 v21.toNatClampNeg r22, v27, v21))))))))) else (
      some (.inr (.inl (u23, v19, v20, v21)))))
def fX6_reads (F : Nat) (m_text : Nat → Int32) (m_length : Int32) (m_verbs : Nat → Int32) (m_told : Nat → Int32) : Option (Int32 × Int32 × (Nat → Int32) × (Nat → Int32) × Int32) :=
  bd1 (fX6_skips F m_text m_length (0 : Int32)) fun u1 =>
  bdS4 (lp (fX6_reads_l14 F m_text m_length) F (u1, m_verbs, m_told, (0 : Int32))) (uc4 fun v2 v3 v4 v5 =>
    some ((0 : Int32), v2, v3, v4, v5)) (uc4 fun v6 v7 v8 v9 =>
    some ((0 : Int32), v6, v7, v8, v9)) (uc4 fun v10 v11 v12 v13 =>
    some ((0 : Int32), v10, v11, v12, v13)) (uc4 fun v14 v15 v16 v17 =>
    some ((1 : Int32), v14, v15, v16, v17))
def fX6_carriesOut (F : Nat) (m_now : Nat → Int64) (m_saved : Nat → Int64) (m_states : Int32) (m_quiet : Int32) (m_tried : Nat → Int32) (m_best : Nat → Int32) (m_touching : Nat → Int32) (m_verbs : Nat → Int32) (m_told : Nat → Int32) (a0 : Int32) : Option ((Nat → Int64) × (Nat → Int64) × Int32 × Int32 × (Nat → Int32) × (Nat → Int32) × (Nat → Int32)) :=
  nm ((4 : Int32) * a0) fun v1 =>
  gd v1 160 (
    nm (m_told v1.toNatClampNeg) fun v2 =>
    nm (((4 : Int32) * a0) + (1 : Int32)) fun v3 =>
    gd v3 160 (
      nm (m_told v3.toNatClampNeg) fun v4 =>
      nm (((4 : Int32) * a0) + (2 : Int32)) fun v5 =>
      gd v5 160 (
        nm (m_told v5.toNatClampNeg) fun v6 =>
        nm (((4 : Int32) * a0) + (3 : Int32)) fun v7 =>
        gd v7 160 (
          nm (m_told v7.toNatClampNeg) fun v8 =>
          gd a0 40 (
            tsw (m_verbs a0.toNatClampNeg) 0 7 (fun j => tc j 0 (
              bd5 (fX6_begin F m_now m_saved m_states m_quiet v2 v4) fun r12 u13 u14 u15 u16 =>
              some (u13, u14, u15, u16, m_tried, m_best, m_touching)) <| tc j 1 (
              bd5 (fX6_mark F m_now m_saved m_states m_quiet v2 v4 v6 v8 (1 : Int32)) fun r17 u18 u19 u20 u21 =>
              some (u18, u19, u20, u21, m_tried, m_best, m_touching)) <| tc j 2 (
              bd5 (fX6_mark F m_now m_saved m_states m_quiet v2 v4 v6 v8 (2 : Int32)) fun r22 u23 u24 u25 u26 =>
              some (u23, u24, u25, u26, m_tried, m_best, m_touching)) <| tc j 3 (
              bd5 (fX6_addPunch F m_now m_saved m_states m_quiet v2 v4 v6 v8) fun r27 u28 u29 u30 u31 =>
              some (u28, u29, u30, u31, m_tried, m_best, m_touching)) <| tc j 4 (
              bd5 (fX6_addBend F m_now m_saved m_states m_quiet v2 v4 v6) fun r32 u33 u34 u35 u36 =>
              some (u33, u34, u35, u36, m_tried, m_best, m_touching)) <| tc j 5 (
              bd5 (fX6_setStation F m_now m_saved m_states m_quiet v2 v4) fun r37 u38 u39 u40 u41 =>
              some (u38, u39, u40, u41, m_tried, m_best, m_touching)) <| tc j 6 (
              bd8 (fX6_usePlan F m_now m_saved m_states m_quiet m_tried m_best m_touching) fun r42 u43 u44 u45 u46 u47 u48 u49 =>
              some (u43, u44, u45, u46, u47, u48, u49)) <| tc j 7 (
              bd5 (fX6_setPilot F m_now m_saved m_states m_quiet v2 (1 : Int32)) fun r50 u51 u52 u53 u54 =>
              some (u51, u52, u53, u54, m_tried, m_best, m_touching)) <| none) (
              bd3 (fX6_strokesBy F m_now v2) fun r9 u10 u11 =>
              some (u10, m_saved, m_states, u11, m_tried, m_best, m_touching)))))))
def fX6_runCommands_l33 (F : Nat) (u3 : Nat → Int32) (u4 : Nat → Int32) (u5 : Int32) : (Int32 × Int32 × (Nat → Int64) × (Nat → Int64) × Int32 × Int32 × (Nat → Int32) × (Nat → Int32) × (Nat → Int32)) → Option ((Int32 × Int32 × (Nat → Int64) × (Nat → Int64) × Int32 × Int32 × (Nat → Int32) × (Nat → Int32) × (Nat → Int32)) ⊕ (Int32 × (Nat → Int64) × (Nat → Int64) × Int32 × Int32 × (Nat → Int32) × (Nat → Int32) × (Nat → Int32))) := uc9 fun v16 v17 v18 v19 v20 v21 v22 v23 v24 =>
  if u5 ≤ v17 then (
    some (.inr (v16, v18, v19, v20, v21, v22, v23, v24))) else (
    if ¬ v21 = 0 then (
      some (.inr (v16, v18, v19, v20, v21, v22, v23, v24))) else (
      bd7 (fX6_carriesOut F v18 v19 v20 (1 : Int32) v22 v23 v24 u3 u4 v17) fun u25 u26 u27 u28 u29 u30 u31 =>
      bd1 (
        if ¬ u28 = 0 then (
          some (0 : Int32)) else (
          some (1 : Int32))) fun v32 =>
      nm (v16 + v32) fun v33 =>
      some (.inl (v33, v17 + (1 : Int32), u25, u26, u27, u28, u29, u30, u31))))
def fX6_runCommands (F : Nat) (m_now : Nat → Int64) (m_saved : Nat → Int64) (m_states : Int32) (m_quiet : Int32) (m_tried : Nat → Int32) (m_best : Nat → Int32) (m_touching : Nat → Int32) (m_text : Nat → Int32) (m_length : Int32) (m_verbs : Nat → Int32) (m_told : Nat → Int32) : Option (Int32 × (Nat → Int64) × (Nat → Int64) × Int32 × Int32 × Int32 × (Nat → Int32) × (Nat → Int32) × (Nat → Int32) × Int32 × (Nat → Int32) × (Nat → Int32) × Int32) :=
  bd5 (fX6_reads F m_text m_length m_verbs m_told) fun r1 u2 u3 u4 u5 =>
  if ¬ r1 = 0 then (
    bd2 (fX6_save F m_now m_saved m_states m_quiet) fun u6 u7 =>
    bd8 (lp (fX6_runCommands_l33 F u3 u4 u5) F ((0 : Int32), (0 : Int32), m_now, u6, u7, (0 : Int32), m_tried, m_best, m_touching)) fun v8 v9 v10 v11 v12 v13 v14 v15 =>
    some (v8, v9, v10, v11, (0 : Int32), (0 : Int32), v13, v14, v15, u2, u3, u4, u5)) else (
    some ((-10 : Int32) - u2, m_now, m_saved, m_states, m_quiet, (0 : Int32), m_tried, m_best, m_touching, u2, u3, u4, u5))
def fX6_undo_l30 (m_saved : Nat → Int64) (v1 : Int32) : (Int32 × (Nat → Int64)) → Option ((Int32 × (Nat → Int64)) ⊕ (Nat → Int64)) := uc2 fun v3 v4 =>
  if (100 : Int32) ≤ v3 then (
    some (.inr v4)) else (
    nm ((100 : Int32) * v1) fun v5 =>
    nm (v5 + v3) fun v6 =>
    gd v6 400 (
      nm (m_saved v6.toNatClampNeg) fun v7 =>
      gd v3 100 (
        some (.inl (v3 + (1 : Int32), vp_updL v4 v3.toNatClampNeg v7)))))
def fX6_undo (F : Nat) (m_now : Nat → Int64) (m_saved : Nat → Int64) (m_states : Int32) : Option (Int32 × (Nat → Int64) × Int32 × Int32) :=
  if ¬ m_states = 0 then (
    nm (m_states - (1 : Int32)) fun v1 =>
    bd1 (lp (fX6_undo_l30 m_saved v1) F ((0 : Int32), m_now)) fun v2 =>
    some (v1, v2, v1, (0 : Int32))) else (
    bd2 (fX6_fails (1 : Int32)) fun r8 u9 =>
    some (r8, m_now, m_states, u9))
def fX6_digest_l158 (F : Nat) (m_now : Nat → Int64) (v19 : Int32) : (Int64 × Int32) → Option ((Int64 × Int32) ⊕ Int64) := uc2 fun v24 v25 =>
  if (4 : Int32) ≤ v25 then (
    some (.inr v24)) else (
    bd1 (fX6_pitchOf F m_now v19 v25) fun r26 =>
    nm (((31 : Int64) * v24) + r26.toInt64) fun v27 =>
    some (.inl (v27, v25 + (1 : Int32))))
def fX6_digest_l128 (F : Nat) (m_now : Nat → Int64) (v19 : Int32) : (Int64 × Int32) → Option ((Int64 × Int32) ⊕ Int64) := uc2 fun v28 v29 =>
  if (4 : Int32) ≤ v29 then (
    some (.inr v28)) else (
    bd1 (fX6_stationOf F m_now v19 v29) fun r30 =>
    nm (((31 : Int64) * v28) + r30.toInt64) fun v31 =>
    some (.inl (v31, v29 + (1 : Int32))))
def fX6_digest_l119 (F : Nat) (m_now : Nat → Int64) : (Int64 × Int32) → Option ((Int64 × Int32) ⊕ Int64) := uc2 fun v18 v19 =>
  if (8 : Int32) ≤ v19 then (
    some (.inr v18)) else (
    bd1 (lp (fX6_digest_l128 F m_now v19) F (v18, (0 : Int32))) fun v20 =>
    bd1 (lp (fX6_digest_l158 F m_now v19) F (v20, (0 : Int32))) fun v21 =>
    bd1 (fX6_ofPitch m_now v19 (1 : Int32)) fun r22 =>
    nm (((31 : Int64) * v21) + r22) fun v23 =>
    some (.inl (v23, v19 + (1 : Int32))))
def fX6_digest_l83 (F : Nat) (m_now : Nat → Int64) (v33 : Int32) : (Int64 × Int32) → Option ((Int64 × Int32) ⊕ Int64) := uc2 fun v36 v37 =>
  if (8 : Int32) ≤ v37 then (
    some (.inr v36)) else (
    bd1 (fX6_operationOf F m_now v33 v37) fun r38 =>
    nm (((31 : Int64) * v36) + r38.toInt64) fun v39 =>
    some (.inl (v39, v37 + (1 : Int32))))
def fX6_digest_l70 (F : Nat) (m_now : Nat → Int64) : (Int64 × Int32) → Option ((Int64 × Int32) ⊕ Int64) := uc2 fun v32 v33 =>
  bd1 (fX6_many m_now (8 : Int32)) fun r34 =>
  if r34 ≤ v33 then (
    some (.inr v32)) else (
    bd1 (lp (fX6_digest_l83 F m_now v33) F (v32, (0 : Int32))) fun v35 =>
    some (.inl (v35, v33 + (1 : Int32))))
def fX6_digest_l44 (F : Nat) (m_now : Nat → Int64) : (Int64 × Int32) → Option ((Int64 × Int32) ⊕ Int64) := uc2 fun v40 v41 =>
  if (6 : Int32) ≤ v41 then (
    some (.inr v40)) else (
    bd1 (fX6_setOf F m_now v41) fun r42 =>
    nm (((31 : Int64) * v40) + r42) fun v43 =>
    some (.inl (v43, v41 + (1 : Int32))))
def fX6_digest_l17 (F : Nat) (m_now : Nat → Int64) (m_length : Int32) : (Int64 × Int32) → Option ((Int64 × Int32) ⊕ Int64) := uc2 fun v44 v45 =>
  if (17 : Int32) ≤ v45 then (
    some (.inr v44)) else (
    bd1 (fX6_wholeOf F m_now m_length v45) fun r46 =>
    nm (((31 : Int64) * v44) + r46.toInt64) fun v47 =>
    some (.inl (v47, v45 + (1 : Int32))))
def fX6_digest (F : Nat) (m_now : Nat → Int64) (m_states : Int32) (m_tried : Nat → Int32) (m_best : Nat → Int32) (m_touching : Nat → Int32) (m_length : Int32) : Option (Int64 × Int32 × (Nat → Int32) × (Nat → Int32) × (Nat → Int32)) :=
  nm ((401698 : Int64) + m_states.toInt64) fun v1 =>
  bd1 (lp (fX6_digest_l17 F m_now m_length) F (v1, (0 : Int32))) fun v2 =>
  bd1 (lp (fX6_digest_l44 F m_now) F (v2, (0 : Int32))) fun v3 =>
  bd1 (lp (fX6_digest_l70 F m_now) F (v3, (0 : Int32))) fun v4 =>
  bd1 (lp (fX6_digest_l119 F m_now) F (v4, (0 : Int32))) fun v5 =>
  bd1 (fX6_faultOfDie F m_now) fun r6 =>
  bd1 (fX6_faultOfPlan F m_now) fun r7 =>
  nm (((31 : Int64) * (((31 : Int64) * v5) + r6.toInt64)) + r7.toInt64) fun v8 =>
  bd1 (fX6_setting m_now (0 : Int32)) fun r9 =>
  bd4 (fX6_plans F m_now m_tried m_best m_touching r9) fun r10 u11 u12 u13 =>
  bd1 (fX6_fits F m_now) fun r14 =>
  nm (((31 : Int64) * (((31 : Int64) * v8) + r10.toInt64)) + r14.toInt64) fun v15 =>
  bd1 (fX6_scrapOf F m_now (0 : Int32)) fun r16 =>
  bd1 (fX6_scrapOf F m_now (1 : Int32)) fun r17 =>
  some (((31 : Int64) * (((31 : Int64) * v15) + r16.toInt64)) + r17.toInt64, (0 : Int32), u11, u12, u13)
