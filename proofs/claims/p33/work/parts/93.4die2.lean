section DIE2
variable {F B : Nat} {c : CSt} {N : Nat → Nat}
theorem vA {a b d : Nat} (ha : a < 2 ^ 60) (hb : b < 2 ^ 60) (hd : d < 2 ^ 60) (h1 : a &&& b = 0) (h2 : a &&& d = 0) (h3 : b &&& d = 0) : (if ¬ lg_cmp (lN a &&& lN b) (0 : Int64) = 0 then some (0 : Int32) else (if ¬ lg_cmp (lN a &&& lN d) (0 : Int64) = 0 then some (0 : Int32) else (if ¬ lg_cmp (lN b &&& lN d) (0 : Int64) = 0 then some (0 : Int32) else some (1 : Int32)))) = some (1 : Int32) := by
  rw [fb_andL, fb_andL, fb_andL, ll_0, h1, h2, h3, ifn0 z60 z60 rfl, ifn0 z60 z60 rfl, ifn0 z60 z60 rfl]
def fl16 (N : Nat → Nat) : Nat := if stS N = 0 then (if loS N = 0 then 0 else 6) else 5
def fl19 (N : Nat → Nat) : Nat := if sdf (tkS N 1) (paS N) = 0 then fl16 N else 4
def fl21 (N : Nat → Nat) : Nat := if tkS N 0 &&& crS N = 0 then fl19 N else 3
def fl23 (N : Nat → Nat) : Nat := if tkS N 0 &&& (paS N ||| liS N) = 0 then fl21 N else 2
theorem fl24 (N : Nat → Nat) : (if ¬ paS N = 0 then fl23 N else 1) = fdS N := by
  unfold fdS fl23 fl21 fl19 fl16
  by_cases q1 : paS N = 0
  · rw [if_neg (nn q1), if_pos q1]
  rw [if_pos q1, if_neg q1]
  by_cases q2 : tkS N 0 &&& (paS N ||| liS N) = 0
  · rw [if_pos q2, if_neg (nn q2)]
    by_cases q3 : tkS N 0 &&& crS N = 0
    · rw [if_pos q3, if_neg (nn q3)]
      by_cases q4 : sdf (tkS N 1) (paS N) = 0
      · rw [if_pos q4, if_neg (nn q4)]
        by_cases q5 : stS N = 0
        · rw [if_pos q5, if_neg (nn q5)]
          by_cases q6 : loS N = 0
          · rw [if_pos q6, if_neg (nn q6)]
          · rw [if_neg q6, if_pos q6]
        · rw [if_neg q5, if_pos q5]
      · rw [if_neg q4, if_pos q4]
    · rw [if_neg q3, if_pos q3]
  · rw [if_neg q2, if_pos q2]
theorem vB {a x y : Nat} (ha : a < 2 ^ 60) : (if lg_cmp (lN a) (0 : Int64) = 0 then some (nI x) else some (nI y)) = some (nI (if a = 0 then x else y)) := by
  rw [ll_0]
  by_cases q : a = 0
  · rw [ifc0 ha z60 q, if_pos q]
  · rw [ifc1 ha z60 q, if_neg q]
theorem vBn {a x y : Nat} (ha : a < 2 ^ 60) : (if ¬ lg_cmp (lN a) (0 : Int64) = 0 then some (nI x) else some (nI y)) = some (nI (if ¬ a = 0 then x else y)) := by
  rw [ll_0]
  by_cases q : a = 0
  · rw [ifn0 ha z60 q, if_neg (nn q)]
  · rw [ifn1 ha z60 q, if_pos q]
theorem nIx_0 : (0 : Int32) = nI 0 := rfl
theorem die_s (hF : 1000000 < F) (i : I3 B c N) : fL_die F c = some (1 : Int32) := by
  obtain ⟨d, w, dj, gn, -, -⟩ := i.dw
  obtain ⟨c1, c2, r1, r2, k2⟩ := d.1
  have hp := lt60 d (pa_lt d)
  have hl := lt60 d (li_lt d)
  have hc := lt60 d (car_in d)
  have ht := lt60 d (tk_lt d 0)
  have ht1 := lt60 d (tk_lt d 1)
  have hs := lt60 d (st_lt N)
  have hlo := lt60 d (lo_lt d)
  have hA := cr60 c2 r2
  have hA4 : 2 * 2 ≤ N 0 * N 1 := Nat.mul_le_mul c1 r1
  have F100 : 100 < F := by omega
  have e11 : (if ¬ nI (N 2) = (2 : Int32) then some (1 : Int32) else some (2 : Int32)) = some (nI (if N 2 = 2 then 2 else 1)) := by
    by_cases q : N 2 = 2
    · rw [q, if_neg (nn (show nI 2 = (2 : Int32) from rfl)), if_pos rfl]; rfl
    · rw [if_pos (show ¬ nI (N 2) = (2 : Int32) from fun z => q ((nI_eq (b := 2) (by omega) (by omega)).mp z)), if_neg q]; rfl
  have e8 : (if (1 : Int32) = 0 then some (0 : Int32) else bd1 (fL_ones F (lN (crS N))) fun r9 => bd1 (g_whole F c (2 : Int32)) fun r10 => bd1 (if ¬ r10 = (2 : Int32) then some (1 : Int32) else some (2 : Int32)) fun v11 => bd1 (g_whole F c (0 : Int32)) fun r12 => if ¬ r9 = v11 * r12 then some (0 : Int32) else bd1 (g_cellSet F c (3 : Int32)) fun r13 => bd1 (g_cellSet F c (4 : Int32)) fun r14 => if ¬ lg_cmp ((((lN (paS N) ||| lN (liS N)) ||| lN (crS N)) ||| r13) ||| r14) (((1 : Int64) <<< ((nI (N 0 * N 1)).toInt64 &&& 63)) - (1 : Int64)) = 0 then some (0 : Int32) else some (1 : Int32)) = some (1 : Int32) := by
    rw [b1_0, bd1_e (ones_s F100 hc), bd1_e (gw2 hF i), bd1_e e11, bd1_e (gw0 hF i), pk_mul, if_neg (nn (congrArg nI (cr_pc d))), bd1_e (gc3 hF i), bd1_e (gc4 hF i), fb_orL, fb_orL, fb_orL, fb_orL, one_shl_m1 (by omega), ds_all d]
    have h2 : 2 ^ (N 0 * N 1) - 1 < 2 ^ 60 := al_lt c2 r2
    rw [ifn0 h2 h2 rfl]
  have e16 : (if lg_cmp (lN (stS N)) (0 : Int64) = 0 then bd1 (g_cellSet F c (5 : Int32)) fun r17 => if lg_cmp r17 (0 : Int64) = 0 then some (0 : Int32) else some (6 : Int32) else some (5 : Int32)) = some (nI (fl16 N)) := by
    rw [bd1_e (gc5 hF i), show (if lg_cmp (lN (loS N)) (0 : Int64) = 0 then some (0 : Int32) else some (6 : Int32)) = _ from vB (x := 0) (y := 6) hlo, show (if lg_cmp (lN (stS N)) (0 : Int64) = 0 then some (nI (if loS N = 0 then 0 else 6)) else some (5 : Int32)) = _ from vB (y := 5) hs]
    rfl
  have e25 : (if (1 : Int32) = 0 then some (0 : Int32) else bd1 (g_dieFault F c) fun r26 => if ¬ r26 = nI (fdS N) then some (0 : Int32) else bd1 (g_cellSet F c (5 : Int32)) fun r27 => if ¬ lg_cmp (r27 &&& (lN (paS N) ^^^ (-1 : Int64))) (0 : Int64) = 0 then some (0 : Int32) else some (1 : Int32)) = some (1 : Int32) := by
    rw [b1_0, bd1_e (gv_dieFault hF i), if_neg (nn rfl), bd1_e (gc5 hF i), lN_sdf, ll_0, show sdf (loS N) (paS N) = 0 from sdf_sub (lt64 hp), ifn0 z60 z60 rfl]
  unfold fL_die
  rw [bd1_e (gc0 hF i), bd1_e (gc1 hF i), bd1_e (gc2 hF i), bd1_e (gw0 hF i), bd1_e (gw1 hF i), pk_mul, nm_s, bd1_e (vA hp hl hc (ds_pl d dj) (ds_pc d) (ds_lc d)), bd1_e e8, bd1_e (gc4 hF i), bd1_e e16, bd1_e (bends_s hF i), lN_sdf, bd1_e (show (if lg_cmp (lN (sdf (tkS N 1) (paS N))) (0 : Int64) = 0 then some (nI (fl16 N)) else some (4 : Int32)) = some (nI (fl19 N)) from vB (y := 4) (sdf_lt _ ht1)), bd1_e (gc3 hF i), fb_andL, bd1_e (show (if lg_cmp (lN (tkS N 0 &&& crS N)) (0 : Int64) = 0 then some (nI (fl19 N)) else some (3 : Int32)) = some (nI (fl21 N)) from vB (y := 3) (and_lt_l ht)), bd1_e (gc3 hF i), fb_orL, fb_andL, bd1_e (show (if lg_cmp (lN (tkS N 0 &&& (paS N ||| liS N))) (0 : Int64) = 0 then some (nI (fl21 N)) else some (2 : Int32)) = some (nI (fl23 N)) from vB (y := 2) (and_lt_l ht)), bd1_e (show (if ¬ lg_cmp (lN (paS N)) (0 : Int64) = 0 then some (nI (fl23 N)) else some (1 : Int32)) = some (nI (fdS N)) from (vBn (y := 1) hp).trans (congrArg (fun z => some (nI z)) (fl24 N))), bd1_e e25, b1_0, bd1_e (show g_scrap F c (0 : Int32) = _ from gv_scrap hF i false), bd1_e (ones_s F100 hp), gz_nI (by omega) (by omega), if_neg (nn (show scR N false = ((1000 : Int32) * (nI (N 0 * N 1) - nI (pcS (paS N)))) / nI (N 0 * N 1) from rfl)), bd1_e (gv_fits hF i)]
  by_cases q : fiS N = true
  · rw [q, if_pos (show bI true = (1 : Int32) from rfl)]
  · rw [Bool.eq_false_iff.mpr q, if_neg (show ¬ bI false = (1 : Int32) by decide), bd1_e (show g_scrap F c (1 : Int32) = _ from gv_scrap hF i true), bd1_e (show g_scrap F c (0 : Int32) = _ from gv_scrap hF i false)]
    have e : scR N true = scR N false := by unfold scR; rw [Bool.eq_false_iff.mpr q]; rfl
    rw [e, if_neg (nn rfl)]
end DIE2
