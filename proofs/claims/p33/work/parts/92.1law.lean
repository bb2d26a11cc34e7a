/-! the law's own methods as programs -/
def fL_low (a0 : Int32) (a1 : Int32) : Option Int32 :=
  gz a1 (
    some ((a0 &&& (2147483647 : Int32)) - (a0 &&& (2147483647 : Int32)) / a1 * a1))
def fL_ones_l4 : (Int32 × Int64) → Option ((Int32 × Int64) ⊕ Int32) := uc2 fun v2 v3 =>
  if lg_cmp v3 (0 : Int64) = 0 then (
    some (.inr v2)) else (
    nm (v3 &&& (v3 - (1 : Int64))) fun v4 =>
    some (.inl (v2 + (1 : Int32), v4)))
def fL_ones (F : Nat) (a0 : Int64) : Option Int32 :=
  bd1 (lp (fL_ones_l4) F ((0 : Int32), a0)) fun v1 =>
  some v1
def fL_bends_l17 (F : Nat) (o_c : CSt) (v3 : Int32) : (Int64 × Int32) → Option ((Int64 × Int32) ⊕ Int64) := uc2 fun v6 v7 =>
  bd1 (g_operation F o_c v3 (3 : Int32)) fun r8 =>
  if r8 ≤ v7 then (
    some (.inr v6)) else (
    bd1 (g_operation F o_c v3 (0 : Int32)) fun r9 =>
    if ¬ r9 = (1 : Int32) then (
      some (.inr v6)) else (
      bd1 (g_operation F o_c v3 (2 : Int32)) fun r10 =>
      bd1 (g_whole F o_c (0 : Int32)) fun r11 =>
      bd1 (g_operation F o_c v3 (1 : Int32)) fun r12 =>
      nm (v6 ||| ((1 : Int64) <<< ((((r10 * r11) + r12) + v7).toInt64 &&& 63))) fun v13 =>
      some (.inl (v13, v7 + (1 : Int32)))))
def fL_bends_l4 (F : Nat) (o_c : CSt) : (Int64 × Int32) → Option ((Int64 × Int32) ⊕ Int64) := uc2 fun v2 v3 =>
  bd1 (g_whole F o_c (8 : Int32)) fun r4 =>
  if r4 ≤ v3 then (
    some (.inr v2)) else (
    bd1 (lp (fL_bends_l17 F o_c v3) F (v2, (0 : Int32))) fun v5 =>
    some (.inl (v5, v3 + (1 : Int32))))
def fL_bends (F : Nat) (o_c : CSt) : Option Int64 :=
  bd1 (lp (fL_bends_l4 F o_c) F ((0 : Int64), (0 : Int32))) fun v1 =>
  some v1
def fL_die (F : Nat) (o_c : CSt) : Option Int32 :=
  bd1 (g_cellSet F o_c (0 : Int32)) fun r1 =>
  bd1 (g_cellSet F o_c (1 : Int32)) fun r2 =>
  bd1 (g_cellSet F o_c (2 : Int32)) fun r3 =>
  bd1 (g_whole F o_c (0 : Int32)) fun r4 =>
  bd1 (g_whole F o_c (1 : Int32)) fun r5 =>
  nm (r4 * r5) fun v6 =>
  bd1 (
    if ¬ lg_cmp (r1 &&& r2) (0 : Int64) = 0 then (
      some (0 : Int32)) else (
      if ¬ lg_cmp (r1 &&& r3) (0 : Int64) = 0 then (
        some (0 : Int32)) else (
        if ¬ lg_cmp (r2 &&& r3) (0 : Int64) = 0 then (
          some (0 : Int32)) else (
          some (1 : Int32))))) fun v7 =>
  bd1 (
    if v7 = 0 then (
      some (0 : Int32)) else (
      bd1 (fL_ones F r3) fun r9 =>
      bd1 (g_whole F o_c (2 : Int32)) fun r10 =>
      bd1 (
        if ¬ r10 = (2 : Int32) then (
          some (1 : Int32)) else (
          some (2 : Int32))) fun v11 =>
      bd1 (g_whole F o_c (0 : Int32)) fun r12 =>
      if ¬ r9 = v11 * r12 then (
        some (0 : Int32)) else (
        bd1 (g_cellSet F o_c (3 : Int32)) fun r13 =>
        bd1 (g_cellSet F o_c (4 : Int32)) fun r14 =>
        if ¬ lg_cmp ((((r1 ||| r2) ||| r3) ||| r13) ||| r14) (((1 : Int64) <<< (v6.toInt64 &&& 63)) - (1 : Int64)) = 0 then (
          some (0 : Int32)) else (
          some (1 : Int32))))) fun v8 =>
  bd1 (g_cellSet F o_c (4 : Int32)) fun r15 =>
  bd1 (
    if lg_cmp r15 (0 : Int64) = 0 then (
      bd1 (g_cellSet F o_c (5 : Int32)) fun r17 =>
      if lg_cmp r17 (0 : Int64) = 0 then (
        some (0 : Int32)) else (
        some (6 : Int32))) else (
      some (5 : Int32))) fun v16 =>
  bd1 (fL_bends F o_c) fun r18 =>
  bd1 (
    if lg_cmp (r18 &&& (r1 ^^^ (-1 : Int64))) (0 : Int64) = 0 then (
      some v16) else (
      some (4 : Int32))) fun v19 =>
  bd1 (g_cellSet F o_c (3 : Int32)) fun r20 =>
  bd1 (
    if lg_cmp (r20 &&& r3) (0 : Int64) = 0 then (
      some v19) else (
      some (3 : Int32))) fun v21 =>
  bd1 (g_cellSet F o_c (3 : Int32)) fun r22 =>
  bd1 (
    if lg_cmp (r22 &&& (r1 ||| r2)) (0 : Int64) = 0 then (
      some v21) else (
      some (2 : Int32))) fun v23 =>
  bd1 (
    if ¬ lg_cmp r1 (0 : Int64) = 0 then (
      some v23) else (
      some (1 : Int32))) fun v24 =>
  bd1 (
    if v8 = 0 then (
      some (0 : Int32)) else (
      bd1 (g_dieFault F o_c) fun r26 =>
      if ¬ r26 = v24 then (
        some (0 : Int32)) else (
        bd1 (g_cellSet F o_c (5 : Int32)) fun r27 =>
        if ¬ lg_cmp (r27 &&& (r1 ^^^ (-1 : Int64))) (0 : Int64) = 0 then (
          some (0 : Int32)) else (
          some (1 : Int32))))) fun v25 =>
  if v25 = 0 then (
    some (0 : Int32)) else (
    bd1 (g_scrap F o_c (0 : Int32)) fun r28 =>
    bd1 (fL_ones F r1) fun r29 =>
    gz v6 (
      if ¬ r28 = ((1000 : Int32) * (v6 - r29)) / v6 then (
        some (0 : Int32)) else (
        bd1 (g_fitsTwice F o_c) fun r30 =>
        if r30 = (1 : Int32) then (
          some (1 : Int32)) else (
          bd1 (g_scrap F o_c (1 : Int32)) fun r31 =>
          bd1 (g_scrap F o_c (0 : Int32)) fun r32 =>
          if ¬ r31 = r32 then (
            some (0 : Int32)) else (
            some (1 : Int32))))))
def fL_plan_l319 (F : Nat) (o_c : CSt) (r1 : Int32) (v19 : Int32) : (Int32 × Int32) → Option ((Int32 × Int32) ⊕ Int32) := uc2 fun v25 v26 =>
  if r1 ≤ v26 then (
    some (.inr v25)) else (
    bd1 (g_station F o_c v19 (0 : Int32)) fun r27 =>
    bd1 (g_operation F o_c v26 (5 : Int32)) fun r28 =>
    nm (v25 + (((r27 >>> (v26 &&& 31)) &&& (1 : Int32)) * r28)) fun v29 =>
    some (.inl (v29, v26 + (1 : Int32))))
def fL_plan_l301 (F : Nat) (o_c : CSt) (r1 : Int32) : (Int32 × Int32 × Int32) → Option ((Int32 × Int32 × Int32) ⊕ (Int32 × Int32)) := uc3 fun v17 v18 v19 =>
  if (8 : Int32) ≤ v19 then (
    some (.inr (v17, v18))) else (
    if v18 = 0 then (
      some (.inr (v17, v18))) else (
      bd1 (lp (fL_plan_l319 F o_c r1 v19) F ((0 : Int32), (0 : Int32))) fun v20 =>
      bd1 (g_station F o_c v19 (1 : Int32)) fun r21 =>
      bd1 (
        if ¬ r21 = v20 then (
          some (0 : Int32)) else (
          some (1 : Int32))) fun v22 =>
      bd1 (
        if ¬ v17 = 0 then (
          some (1 : Int32)) else (
          bd1 (g_whole F o_c (3 : Int32)) fun r24 =>
          if v20 ≤ r24 then (
            some (0 : Int32)) else (
            some (1 : Int32)))) fun v23 =>
      some (.inl (v23, v22, v19 + (1 : Int32)))))
def fL_plan_l118 (F : Nat) (o_c : CSt) (r1 : Int32) (v35 : Int32) (r36 : Int32) : (Int32 × Int32 × Int32 × Int32) → Option ((Int32 × Int32 × Int32 × Int32) ⊕ (Int32 × Int32 × Int32)) := uc4 fun v44 v45 v46 v47 =>
  if r1 ≤ v47 then (
    some (.inr (v44, v45, v46))) else (
    if v46 = 0 then (
      some (.inr (v44, v45, v46))) else (
      bd1 (g_operation F o_c v35 (7 : Int32)) fun r48 =>
      bd1 (
        if ¬ (r48 >>> (v47 &&& 31)) &&& (1 : Int32) = (1 : Int32) then (
          some (0 : Int32)) else (
          some (1 : Int32))) fun v49 =>
      bd1 (g_operation F o_c v47 (6 : Int32)) fun r50 =>
      bd1 (g_operation F o_c v47 (7 : Int32)) fun r51 =>
      bd1 (
        if ¬ (r51 >>> (v35 &&& 31)) &&& (1 : Int32) = (1 : Int32) then (
          some (0 : Int32)) else (
          some (1 : Int32))) fun v52 =>
      bd1 (
        if ¬ v49 = v52 then (
          some (0 : Int32)) else (
          if ¬ v35 = v47 then (
            some (1 : Int32)) else (
            if ¬ v49 = 0 then (
              some (0 : Int32)) else (
              some (1 : Int32))))) fun v53 =>
      bd1 (
        if ¬ v44 = 0 then (
          some (1 : Int32)) else (
          if v49 = 0 then (
            some (0 : Int32)) else (
            if ¬ r36 = r50 then (
              some (0 : Int32)) else (
              some (1 : Int32))))) fun v54 =>
      bd1 (
        if ¬ v45 = 0 then (
          some (1 : Int32)) else (
          if v49 = 0 then (
            some (0 : Int32)) else (
            bd1 (g_operation F o_c v35 (0 : Int32)) fun r56 =>
            if ¬ r56 = (1 : Int32) then (
              some (0 : Int32)) else (
              bd1 (g_operation F o_c v47 (0 : Int32)) fun r57 =>
              if ¬ r57 = 0 then (
                some (0 : Int32)) else (
                bd1 (g_whole F o_c (4 : Int32)) fun r58 =>
                if (1 : Int32) + r58 ≤ r36 - r50 then (
                  some (0 : Int32)) else (
                  some (1 : Int32))))))) fun v55 =>
      some (.inl (v54, v55, v53, v47 + (1 : Int32)))))
def fL_plan_l36 (F : Nat) (o_c : CSt) (r1 : Int32) : (Int32 × Int32 × Int32 × Int32 × Int32 × Int32) → Option ((Int32 × Int32 × Int32 × Int32 × Int32 × Int32) ⊕ (Int32 × Int32 × Int32 × Int32 × Int32)) := uc6 fun v30 v31 v32 v33 v34 v35 =>
  if r1 ≤ v35 then (
    some (.inr (v30, v31, v32, v33, v34))) else (
    if v34 = 0 then (
      some (.inr (v30, v31, v32, v33, v34))) else (
      bd1 (g_operation F o_c v35 (6 : Int32)) fun r36 =>
      bd1 (
        if r36 ≤ v30 then (
          some v30) else (
          some r36)) fun v37 =>
      bd1 (
        if ¬ v31 = 0 then (
          some (1 : Int32)) else (
          if ¬ r36 = (-1 : Int32) then (
            some (0 : Int32)) else (
            some (1 : Int32)))) fun v38 =>
      bd1 (
        if r36 = (-1 : Int32) then (
          some (1 : Int32)) else (
          bd1 (g_station F o_c r36 (0 : Int32)) fun r40 =>
          if ¬ (r40 >>> (v35 &&& 31)) &&& (1 : Int32) = (1 : Int32) then (
            some (0 : Int32)) else (
            some (1 : Int32)))) fun v39 =>
      bd3 (lp (fL_plan_l118 F o_c r1 v35 r36) F (v32, v33, v39, (0 : Int32))) fun v41 v42 v43 =>
      some (.inl (v37, v38, v41, v42, v43, v35 + (1 : Int32)))))
def fL_plan (F : Nat) (o_c : CSt) : Option (Int32 × CSt) :=
  bd1 (g_whole F o_c (8 : Int32)) fun r1 =>
  bd1 (
    if (6 : Int32) < r1 then (
      some (0 : Int32)) else (
      some (1 : Int32))) fun v2 =>
  bd5 (lp (fL_plan_l36 F o_c r1) F ((-1 : Int32), (0 : Int32), (0 : Int32), (0 : Int32), v2, (0 : Int32))) fun v3 v4 v5 v6 v7 =>
  bd2 (lp (fL_plan_l301 F o_c r1) F ((0 : Int32), v7, (0 : Int32))) fun v8 v9 =>
  bd1 (
    if v4 = 0 then (
      if v8 = 0 then (
        if v5 = 0 then (
          if v6 = 0 then (
            some (0 : Int32)) else (
            some (4 : Int32))) else (
          some (3 : Int32))) else (
        some (2 : Int32))) else (
      some (1 : Int32))) fun v10 =>
  if v9 = 0 then (
    some ((0 : Int32), o_c)) else (
    bd1 (g_whole F o_c (9 : Int32)) fun r11 =>
    if ¬ r11 = v3 + (1 : Int32) then (
      some ((0 : Int32), o_c)) else (
      bd1 (g_planFault F o_c) fun r12 =>
      if ¬ r12 = v10 then (
        some ((0 : Int32), o_c)) else (
        if ¬ v10 = 0 then (
          some ((1 : Int32), o_c)) else (
          bd2 (g_planned F o_c (-1 : Int32)) fun r13 u14 =>
          if r13 = (-1 : Int32) then (
            some ((0 : Int32), u14)) else (
            bd2 (g_planned F u14 (-1 : Int32)) fun r15 u16 =>
            if v3 + (1 : Int32) < r15 then (
              some ((0 : Int32), u16)) else (
              some ((1 : Int32), u16)))))))
def fL_press_l6 (F : Nat) (o_c : CSt) : (Int32 × Int32 × Int32) → Option ((Int32 × Int32 × Int32) ⊕ (Int32 × Int32)) := uc3 fun v7 v8 v9 =>
  if (8 : Int32) ≤ v9 then (
    some (.inr (v7, v8))) else (
    if v8 = 0 then (
      some (.inr (v7, v8))) else (
      bd1 (g_station F o_c v9 (3 : Int32)) fun r10 =>
      nm (v7 + r10) fun v11 =>
      bd1 (
        if ¬ r10 = 0 then (
          bd1 (g_pitch F o_c v9 (3 : Int32)) fun r13 =>
          bd1 (g_left F o_c v9) fun r14 =>
          bd1 (fL_ones F r14) fun r15 =>
          if ¬ r13 = r15 then (
            some (0 : Int32)) else (
            bd1 (g_pitch F o_c v9 (1 : Int32)) fun r16 =>
            if r16 < 0 then (
              some (0 : Int32)) else (
              some (1 : Int32)))) else (
          bd1 (g_left F o_c v9) fun r17 =>
          if ¬ lg_cmp r17 (0 : Int64) = 0 then (
            some (0 : Int32)) else (
            bd1 (g_pitch F o_c v9 (0 : Int32)) fun r18 =>
            if ¬ r18 = (-1 : Int32) then (
              some (0 : Int32)) else (
              some (1 : Int32))))) fun v12 =>
      some (.inl (v11, v12, v9 + (1 : Int32)))))
def fL_press (F : Nat) (o_c : CSt) : Option Int32 :=
  bd2 (lp (fL_press_l6 F o_c) F ((0 : Int32), (1 : Int32), (0 : Int32))) fun v1 v2 =>
  if v2 = 0 then (
    some (0 : Int32)) else (
    bd1 (g_whole F o_c (10 : Int32)) fun r3 =>
    if ¬ v1 = r3 then (
      some (0 : Int32)) else (
      bd1 (g_whole F o_c (12 : Int32)) fun r4 =>
      bd1 (g_whole F o_c (13 : Int32)) fun r5 =>
      bd1 (g_whole F o_c (11 : Int32)) fun r6 =>
      if ¬ (r4 + r5) + v1 = r6 then (
        some (0 : Int32)) else (
        some (1 : Int32))))
def fL_holds (F : Nat) (o_c : CSt) : Option (Int32 × CSt) :=
  bd1 (fL_die F o_c) fun r1 =>
  if r1 = 0 then (
    some ((0 : Int32), o_c)) else (
    bd2 (fL_plan F o_c) fun r2 u3 =>
    if r2 = 0 then (
      some ((0 : Int32), u3)) else (
      bd1 (fL_press F u3) fun r4 =>
      if r4 = 0 then (
        some ((0 : Int32), u3)) else (
        some ((1 : Int32), u3))))
def fL_marks (F : Nat) (o_c : CSt) (a1 : Int32) (a2 : Int32) : Option (Int32 × CSt) :=
  bd1 (g_whole F o_c (0 : Int32)) fun r1 =>
  bd1 (fL_low a1 r1) fun r2 =>
  gz (16 : Int32) (
    bd1 (g_whole F o_c (1 : Int32)) fun r3 =>
    bd1 (fL_low (a1 / (16 : Int32)) r3) fun r4 =>
    bd1 (g_whole F o_c (0 : Int32)) fun r5 =>
    bd1 (fL_low a2 (r5 - r2)) fun r6 =>
    nm ((1 : Int32) + r6) fun v7 =>
    gz (16 : Int32) (
      bd1 (g_whole F o_c (1 : Int32)) fun r8 =>
      bd1 (fL_low (a2 / (16 : Int32)) (r8 - r4)) fun r9 =>
      nm ((1 : Int32) + r9) fun v10 =>
      gz (256 : Int32) (
        bd1 (fL_low (a2 / (256 : Int32)) (3 : Int32)) fun r11 =>
        bd2 (fL_mark F o_c r2 r4 v7 v10 r11) fun r12 u13 =>
        if r12 < 0 then (
          some ((0 : Int32), u13)) else (
          if v7 * v10 < r12 then (
            some ((0 : Int32), u13)) else (
            bd2 (fL_mark F u13 r2 r4 v7 v10 r11) fun r14 u15 =>
            if ¬ r14 = 0 then (
              some ((0 : Int32), u15)) else (
              bd1 (g_whole F u15 (0 : Int32)) fun r16 =>
              bd2 (fL_mark F u15 r2 r4 (v7 + r16) v10 r11) fun r17 u18 =>
              if ¬ r17 = (-2 : Int32) then (
                some ((0 : Int32), u18)) else (
                some ((1 : Int32), u18))))))))
def fL_adds (F : Nat) (o_c : CSt) (a1 : Int32) (a2 : Int32) : Option (Int32 × CSt) :=
  bd1 (g_whole F o_c (0 : Int32)) fun r1 =>
  bd1 (fL_low a1 r1) fun r2 =>
  gz (16 : Int32) (
    bd1 (g_whole F o_c (1 : Int32)) fun r3 =>
    bd1 (fL_low (a1 / (16 : Int32)) r3) fun r4 =>
    bd1 (g_whole F o_c (0 : Int32)) fun r5 =>
    bd1 (fL_low a2 (r5 - r2)) fun r6 =>
    nm ((1 : Int32) + r6) fun v7 =>
    gz (16 : Int32) (
      bd1 (g_whole F o_c (1 : Int32)) fun r8 =>
      bd1 (fL_low (a2 / (16 : Int32)) (r8 - r4)) fun r9 =>
      nm ((1 : Int32) + r9) fun v10 =>
      bd1 (
        if v7 ≤ (3 : Int32) then (
          some v7) else (
          some (3 : Int32))) fun v11 =>
      bd1 (
        if v10 ≤ (2 : Int32) then (
          some v10) else (
          some (2 : Int32))) fun v12 =>
      bd1 (g_whole F o_c (8 : Int32)) fun r13 =>
      gz (256 : Int32) (
        bd1 (fL_low (a2 / (256 : Int32)) (4 : Int32)) fun r14 =>
        bd2 (
          if ¬ r14 = 0 then (
            bd2 (fL_punch F o_c r2 r4 v11 v12) fun r17 u18 =>
            some (r17, u18)) else (
            bd2 (fL_bend F o_c r2 r4 v11) fun r19 u20 =>
            some (r19, u20))) fun v15 v16 =>
        bd1 (
          if ¬ r13 = (6 : Int32) then (
            some r13) else (
            some (-3 : Int32))) fun v21 =>
        if ¬ v15 = v21 then (
          some ((0 : Int32), v16)) else (
          if r13 = (6 : Int32) then (
            some ((1 : Int32), v16)) else (
            bd1 (g_operation F v16 r13 (6 : Int32)) fun r22 =>
            if ¬ r22 = (-1 : Int32) then (
              some ((0 : Int32), v16)) else (
              bd1 (g_operation F v16 r13 (1 : Int32)) fun r23 =>
              if ¬ r23 = r2 then (
                some ((0 : Int32), v16)) else (
                bd1 (g_operation F v16 r13 (2 : Int32)) fun r24 =>
                if ¬ r24 = r4 then (
                  some ((0 : Int32), v16)) else (
                  bd1 (g_operation F v16 r13 (3 : Int32)) fun r25 =>
                  if ¬ r25 = v11 then (
                    some ((0 : Int32), v16)) else (
                    some ((1 : Int32), v16))))))))))
def fL_strokes (F : Nat) (o_c : CSt) : Option (Int32 × CSt) :=
  bd2 (g_strokesToGood F o_c) fun r1 u2 =>
  bd1 (g_whole F u2 (12 : Int32)) fun r3 =>
  bd1 (g_whole F u2 (13 : Int32)) fun r4 =>
  bd2 (g_stroke F u2) fun r5 u6 =>
  bd1 (g_whole F u6 (12 : Int32)) fun r7 =>
  nm (r7 - r3) fun v8 =>
  bd1 (g_whole F u6 (13 : Int32)) fun r9 =>
  nm (r9 - r4) fun v10 =>
  bd1 (
    if ¬ v8 + v10 = 0 then (
      if ¬ v10 = 0 then (
        some (2 : Int32)) else (
        some (1 : Int32))) else (
      some (0 : Int32))) fun v11 =>
  bd1 (
    if ¬ r5 = v11 then (
      some (0 : Int32)) else (
      bd1 (
        if ¬ r1 = (1 : Int32) then (
          some (0 : Int32)) else (
          some (1 : Int32))) fun v13 =>
      bd1 (
        if v8 ≤ 0 then (
          some (0 : Int32)) else (
          some (1 : Int32))) fun v14 =>
      if ¬ v13 = v14 then (
        some (0 : Int32)) else (
        some (1 : Int32)))) fun v12 =>
  if v12 = 0 then (
    some ((0 : Int32), u6)) else (
    if r1 < (2 : Int32) then (
      some ((1 : Int32), u6)) else (
      bd2 (g_strokesToGood F u6) fun r15 u16 =>
      if ¬ r15 = r1 - (1 : Int32) then (
        some ((0 : Int32), u16)) else (
        some ((1 : Int32), u16))))
def fL_acts (F : Nat) (o_c : CSt) (a1 : Int32) (a2 : Int32) (a3 : Int32) : Option (Int32 × CSt) :=
  bd1 (fL_low a1 (18 : Int32)) fun r1 =>
  bd1 (g_whole F o_c (8 : Int32)) fun r2 =>
  if (3 : Int32) ≤ r1 then (
    if (6 : Int32) ≤ r1 then (
      if (9 : Int32) ≤ r1 then (
        if ¬ r1 = (9 : Int32) then (
          if ¬ r1 = (10 : Int32) then (
            if ¬ r1 = (11 : Int32) then (
              if ¬ r1 = (12 : Int32) then (
                if ¬ r1 = (13 : Int32) then (
                  if ¬ r1 = (14 : Int32) then (
                    bd2 (fL_strokes F o_c) fun r3 u4 =>
                    gb r3 (
                      some (r3, u4))) else (
                    bd2 (
                      if r2 = 0 then (
                        some ((1 : Int32), o_c)) else (
                        bd1 (fL_low a2 r2) fun r7 =>
                        bd2 (g_dropOperation F o_c r7) fun r8 u9 =>
                        if ¬ r8 = r2 - (1 : Int32) then (
                          some ((0 : Int32), u9)) else (
                          some ((1 : Int32), u9)))) fun v5 v6 =>
                    gb v5 (
                      some (v5, v6)))) else (
                  bd2 (fL_undo F o_c) fun r10 u11 =>
                  some ((1 : Int32), u11))) else (
                bd1 (fL_low a2 (8 : Int32)) fun r12 =>
                bd1 (fL_low a3 (2 : Int32)) fun r13 =>
                bd1 (
                  if ¬ r13 = 0 then (
                    some (0 : Int32)) else (
                    some (1 : Int32))) fun v14 =>
                bd2 (g_setPilot F o_c r12 v14) fun r15 u16 =>
                bd1 (g_whole F u16 (15 : Int32)) fun r17 =>
                bd1 (
                  if ¬ r15 = r17 then (
                    some (0 : Int32)) else (
                    bd1 (fL_low a2 (8 : Int32)) fun r19 =>
                    bd1 (g_station F u16 r19 (2 : Int32)) fun r20 =>
                    bd1 (fL_low a3 (2 : Int32)) fun r21 =>
                    bd1 (
                      if ¬ r21 = 0 then (
                        some (0 : Int32)) else (
                        some (1 : Int32))) fun v22 =>
                    if ¬ r20 = v22 then (
                      some (0 : Int32)) else (
                      some (1 : Int32)))) fun v18 =>
                gb v18 (
                  some (v18, u16)))) else (
              bd1 (fL_low a2 (3 : Int32)) fun r23 =>
              bd2 (g_setCarrier F o_c r23) fun r24 u25 =>
              bd1 (
                if r24 < 0 then (
                  some (0 : Int32)) else (
                  bd1 (g_whole F u25 (2 : Int32)) fun r27 =>
                  bd1 (fL_low a2 (3 : Int32)) fun r28 =>
                  if ¬ r27 = r28 then (
                    some (0 : Int32)) else (
                    some (1 : Int32)))) fun v26 =>
              gb v26 (
                some (v26, u25)))) else (
            bd1 (fL_low a2 (5 : Int32)) fun r29 =>
            bd1 (fL_low a3 (3 : Int32)) fun r30 =>
            bd2 (g_set F o_c r29 ((1 : Int32) + r30)) fun r31 u32 =>
            bd2 (
              if r31 < 0 then (
                some ((0 : Int32), u32)) else (
                bd1 (fL_low a2 (40 : Int32)) fun r35 =>
                bd2 (g_set F u32 (0 : Int32) ((20 : Int32) + r35)) fun r36 u37 =>
                if r36 < (1 : Int32) then (
                  some ((0 : Int32), u37)) else (
                  some ((1 : Int32), u37)))) fun v33 v34 =>
            gb v33 (
              some (v33, v34)))) else (
          bd2 (g_planned F o_c (-1 : Int32)) fun r38 u39 =>
          bd2 (fL_usePlan F u39) fun r40 u41 =>
          bd1 (
            if ¬ r38 = (-1 : Int32) then (
              some r38) else (
              some (-3 : Int32))) fun v42 =>
          bd1 (
            if ¬ r40 = v42 then (
              some (0 : Int32)) else (
              if r38 = (-1 : Int32) then (
                some (1 : Int32)) else (
                bd1 (g_planFault F u41) fun r44 =>
                if ¬ r44 = 0 then (
                  some (0 : Int32)) else (
                  bd1 (g_whole F u41 (9 : Int32)) fun r45 =>
                  if ¬ r45 = r38 then (
                    some (0 : Int32)) else (
                    some (1 : Int32)))))) fun v43 =>
          gb v43 (
            some (v43, u41)))) else (
        bd1 (fL_low a2 (7 : Int32)) fun r46 =>
        bd1 (fL_low a3 (9 : Int32)) fun r47 =>
        nm (r47 - (1 : Int32)) fun v48 =>
        bd2 (fL_place F o_c r46 v48) fun r49 u50 =>
        bd1 (
          if r46 < r2 then (
            if r49 < (-1 : Int32) then (
              some (0 : Int32)) else (
              bd1 (g_operation F u50 r46 (6 : Int32)) fun r52 =>
              if ¬ r52 = v48 then (
                some (0 : Int32)) else (
                some (1 : Int32)))) else (
            if ¬ r49 = (-4 : Int32) then (
              some (0 : Int32)) else (
              some (1 : Int32)))) fun v51 =>
        gb v51 (
          some (v51, u50)))) else (
      bd2 (fL_adds F o_c a2 a3) fun r53 u54 =>
      gb r53 (
        some (r53, u54)))) else (
    bd2 (fL_marks F o_c a2 a3) fun r55 u56 =>
    gb r55 (
      some (r55, u56)))
