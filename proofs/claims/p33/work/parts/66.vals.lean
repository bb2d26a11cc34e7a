theorem tsw2 {ρ : Type} {k : Nat} {X : Nat → Option ρ} {D : Option ρ} (h : k ≤ 2) : tsw (nI k) 0 2 X D = X k := tswN (n := 2) (by omega) h
theorem tsw2o {ρ : Type} {X : Nat → Option ρ} {D : Option ρ} : tsw (nI 3) 0 2 X D = D := tsw_out (by omega) (by omega)
theorem tsw9 {ρ : Type} {k : Nat} {X : Nat → Option ρ} {D : Option ρ} (h : k ≤ 9) : tsw (nI k) 0 9 X D = X k := tswN (n := 9) (by omega) h
/-! values of operations -/
def opV (N : Nat → Nat) (o k : Nat) : Int32 := if k = 7 then nI (tcS N o) else if k = 6 then eN (spN N o) else if k = 5 then nI (foS N o) else nI (N (20 + 6 * o + k))
theorem x6_opof {F : Nat} {N : Nat → Nat} (hF : 1000 < F) (h : DW N) {o k : Nat} (ho : o < N 8) (hk : k ≤ 7) : fX6_operationOf F (lA N) (nI o) (nI k) = some (opV N o k) := by
  have h8 := h.2.2.2.1.1
  unfold fX6_operationOf opV
  by_cases q5 : k < 5
  · rw [if_neg (show ¬ 5 ≤ nI k from nI_ge (b := 5) q5 (by omega)), bd1_e (ofOp_s (by omega)), if_neg (by omega), if_neg (by omega), if_neg (by omega)]
  · rw [if_pos (show 5 ≤ nI k from nI_le (a := 5) (by omega) (by omega))]
    have k3 : k = 5 ∨ k = 6 ∨ k = 7 := by omega
    rcases k3 with rfl | rfl | rfl
    · rw [if_neg (nn (show nI 5 = 5 from rfl)), bd1_e (m_fo h ho)]
      rfl
    · rw [if_pos (show ¬ nI 6 = 5 by decide +kernel), if_neg (nn (show nI 6 = 6 from rfl)), bd1_e (m_st h ho)]
      rfl
    · rw [if_pos (show ¬ nI 7 = 5 by decide +kernel), if_pos (show ¬ nI 7 = 6 by decide +kernel), bd1_e (x6_tc (by omega) h ho)]
      rfl
theorem x6_oper {F : Nat} {N : Nat → Nat} (hF : 1000 < F) (h : DW N) {o k : Nat} (ho : o < N 8) (hk : k ≤ 7) : fX6_operation F (lA N) (nI o) (nI k) = some (opV N o k, 0) := by
  unfold fX6_operation
  rw [bd1_e (isop_y h.2.2.2.1.1 ho), if_pos (show ¬ nI 1 = 0 by decide +kernel), bd1_e (show fX6_in (nI k) 0 7 = some (nI 1) from in_y (b := 0) (c := 7) (by omega) hk (by omega)), if_neg (show ¬ nI 1 = 0 by decide +kernel), bd1_e (x6_opof hF h ho hk)]
theorem x6_oper_no {F : Nat} {N : Nat → Nat} {a b : Int32} (h8 : N 8 ≤ 6) (ho : ¬ (0 ≤ a.toInt ∧ a.toInt < (N 8 : Int))) : fX6_operation F (lA N) a b = some (0, 1) := by
  unfold fX6_operation
  rw [bd1_e (isop_no h8 ho), if_neg (nn (show nI 0 = 0 from rfl))]
  rfl
theorem x6_oper_no2 {F : Nat} {N : Nat → Nat} {o : Nat} {b : Int32} (h8 : N 8 ≤ 6) (ho : o < N 8) (hb : ¬ (0 ≤ b.toInt ∧ b.toInt ≤ 7)) : fX6_operation F (lA N) (nI o) b = some (0, 2) := by
  unfold fX6_operation
  rw [bd1_e (isop_y h8 ho), if_pos (show ¬ nI 1 = 0 by decide +kernel), bd1_e (show fX6_in b 0 7 = some (nI 0) from in_no (b := 0) (c := 7) (by omega) (by omega) hb), if_pos (show nI 0 = 0 from rfl)]
  rfl
theorem x1_fact7 {N : Nat → Nat} {set fac : Nat → Int32} {dce : Nat → Int64} (h : DW N) (c : CD N set fac dce) {o k : Nat} (ho : o < N 8) (hk : k < 7) : fX1_fact fac (nI o) (nI k) = some (opV N o k) := by
  have h8 := h.2.2.2.1.1
  rw [fact_s (by omega)]
  congr 1
  unfold opV
  rw [if_neg (by omega)]
  by_cases q6 : k = 6
  · rw [if_pos q6, q6, (c.2 o ho).2.2.1, st_N h ho]
  · rw [if_neg q6]
    by_cases q5 : k = 5
    · rw [if_pos q5, q5, (c.2 o ho).2.1]
    · rw [if_neg q5, (c.2 o ho).1 k (by omega)]
/-! values of stations -/
def saV (N : Nat → Nat) (s k : Nat) : Int32 := if k = 0 then nI (oaS N (s + 1)) else if k = 1 then nI (fsS N (s + 1)) else if k = 2 then bI ((N 13).testBit s) else nI (N (60 + 5 * s + 0))
theorem bitL {a s : Nat} (ha : a < 2 ^ 62) (hs : s < 63) : ((lN a >>> ((nI s).toInt64 &&& 63)) &&& (1 : Int64)).toInt32 = bI (a.testBit s) := by
  rw [lshr_N ha (by omega), show (1 : Int64) = lN 1 from rfl, fb_andL, lN_i, Nat.and_one_is_mod]
  by_cases q : a.testBit s = true
  · have : a / 2 ^ s % 2 = 1 := by simpa [Nat.testBit_eq_decide_div_mod_eq] using q
    rw [this, q]; rfl
  · have : a / 2 ^ s % 2 = 0 := by
      have := mt (fun q => by simpa [Nat.testBit_eq_decide_div_mod_eq] using q : a / 2 ^ s % 2 = 1 → a.testBit s = true) q
      omega
    rw [this, Bool.eq_false_iff.mpr q]; rfl
theorem x6_statof {F : Nat} {N : Nat → Nat} (hF : 1000 < F) (h : DW N) {s k : Nat} (hs : s < 8) (hk : k ≤ 3) : fX6_stationOf F (lA N) (nI s) (nI k) = some (saV N s k) := by
  unfold fX6_stationOf saV
  have h13 := h.2.2.2.1.2
  have a0 := x6_oas (F := F) (by omega) h (s := s) (by omega)
  have f0 := x6_fs (F := F) (by omega) h (p := s + 1)
  have p0 : fX6_ofPitch (lA N) (nI s) 0 = some (lN (N (60 + 5 * s + 0))) := ofPitch_s (j := 0) (by omega)
  have k4 : k = 0 ∨ k = 1 ∨ k = 2 ∨ k = 3 := by omega
  rcases k4 with rfl | rfl | rfl | rfl
  · rw [if_neg (nn (show nI 0 = 0 from rfl)), bd1_e a0, bd1_s, if_pos (show ¬ nI 0 = 2 by decide +kernel), bd1_e p0, bd1_s, if_neg (show ¬ (2 : Int32) ≤ nI 0 by decide +kernel), if_pos rfl]
  · rw [if_pos (show ¬ nI 1 = 0 by decide +kernel), bd1_e a0, bd1_e f0, bd1_s, if_pos (show ¬ nI 1 = 2 by decide +kernel), bd1_e p0, bd1_s, if_neg (show ¬ (2 : Int32) ≤ nI 1 by decide +kernel), if_neg (by omega), if_pos rfl]
  · rw [if_pos (show ¬ nI 2 = 0 by decide +kernel), bd1_e a0, bd1_e f0, bd1_s, if_neg (nn (show nI 2 = 2 from rfl)), il_13, gd_lit (by omega), nI_clamp (by omega), lA_at, bitL (by omega) (by omega), bd1_s, if_pos (show (2 : Int32) ≤ nI 2 by decide +kernel), if_neg (by omega), if_neg (by omega), if_pos rfl]
  · rw [if_pos (show ¬ nI 3 = 0 by decide +kernel), bd1_e a0, bd1_e f0, bd1_s, if_pos (show ¬ nI 3 = 2 by decide +kernel), bd1_e p0, bd1_s, if_pos (show (2 : Int32) ≤ nI 3 by decide +kernel), if_neg (by omega), if_neg (by omega), if_neg (by omega), lN_i]
theorem x6_stat {F : Nat} {N : Nat → Nat} (hF : 1000 < F) (h : DW N) {s k : Nat} (hs : s < 8) (hk : k ≤ 3) : fX6_station F (lA N) (nI s) (nI k) = some (saV N s k, 0) := by
  unfold fX6_station
  rw [bd1_e (show fX6_in (nI s) 0 7 = some (nI 1) from in_y (b := 0) (c := 7) (by omega) (by omega) (by omega)), if_neg (show ¬ nI 1 = 0 by decide +kernel), bd1_e (show fX6_in (nI k) 0 3 = some (nI 1) from in_y (b := 0) (c := 3) (by omega) hk (by omega)), if_neg (show ¬ nI 1 = 0 by decide +kernel), bd1_e (x6_statof hF h hs hk)]
theorem x6_stat_no {F : Nat} {m : Nat → Int64} {a b : Int32} (h : ¬ ((0 ≤ a.toInt ∧ a.toInt ≤ 7) ∧ (0 ≤ b.toInt ∧ b.toInt ≤ 3))) : fX6_station F m a b = some (0, 1) := by
  unfold fX6_station
  by_cases q : (0 : Int) ≤ a.toInt ∧ a.toInt ≤ 7
  · rw [bd1_e (show fX6_in a 0 7 = some (nI 1) from in_yi (b := 0) (c := 7) (by omega) (by omega) q), if_neg (show ¬ nI 1 = 0 by decide +kernel), bd1_e (show fX6_in b 0 3 = some (nI 0) from in_no (b := 0) (c := 3) (by omega) (by omega) (by omega)), if_pos (show nI 0 = 0 from rfl)]
    rfl
  · rw [bd1_e (show fX6_in a 0 7 = some (nI 0) from in_no (b := 0) (c := 7) (by omega) (by omega) q), if_pos (show nI 0 = 0 from rfl)]
    rfl
theorem x1_pilot {N : Nat → Nat} (h : DW N) {s : Nat} (hs : s < 8) : fX1_hasPilot (nI (N 13)) (nI s) = some (bI ((N 13).testBit s)) := by
  unfold fX1_hasPilot
  have h13 := h.2.2.2.1.2
  rw [bd1_e (isInN (by omega) (by omega)), gbB]
  rfl
theorem x3_has {N : Nat → Nat} {pm sm : Nat} {cel : Nat → Int64} {ben off : Nat → Int32} (w : PW N) (p : PC N pm sm cel ben off) {s : Nat} (hs : s < 8) : fX3_hasPitch (nI pm) (nI s) = some (nI (N (60 + 5 * s + 0))) := by
  unfold fX3_hasPitch
  have h1 := p.1
  rw [bd1_e (isInN (by omega) (by omega)), gbB, (p.2.2.2 s hs).1]
  have := (w s hs).1
  by_cases e : N (60 + 5 * s + 0) = 1
  · rw [decide_eq_true e, e]; rfl
  · rw [decide_eq_false e, show N (60 + 5 * s + 0) = 0 by omega]; rfl
/-! values of pitches -/
def ptV (N : Nat → Nat) (s k : Nat) : Int32 := if N (60 + 5 * s + 0) = 0 then eN 0 else if k = 3 then nI (pcS (N (60 + 5 * s + 1))) else nI (N (60 + 5 * s + (2 + k)))
theorem x6_ptof {F : Nat} {N : Nat → Nat} (hF : 1000 < F) (h : DW N) (w : PW N) {s k : Nat} (hs : s < 8) (hk : k ≤ 3) : fX6_pitchOf F (lA N) (nI s) (nI k) = some (ptV N s k) := by
  unfold fX6_pitchOf ptV
  have g := w s hs
  rw [bd1_e (show fX6_ofPitch (lA N) (nI s) 0 = _ from ofPitch_s (j := 0) (by omega))]
  by_cases e : N (60 + 5 * s + 0) = 0
  · rw [if_pos e, if_neg (nn (show lg_cmp (lN (N (60 + 5 * s + 0))) 0 = 0 from (cmp0 (b := 0) (by omega) (by omega)).mpr e)), eN_0]
  · rw [if_neg e, if_pos (show ¬ lg_cmp (lN (N (60 + 5 * s + 0))) 0 = 0 from fun z => e ((cmp0 (b := 0) (by omega) (by omega)).mp z))]
    by_cases q : k = 3
    · rw [if_pos q, if_neg (nn (show nI k = 3 from by rw [q]; rfl)), bd1_e (show fX6_ofPitch (lA N) (nI s) 1 = _ from ofPitch_s (j := 1) (by omega)), bd1_e (x6_ones (by omega) (lt60 h g.2.1))]
    · rw [if_neg q, if_pos (show ¬ nI k = 3 from fun z => q ((nI_eq (b := 3) (by omega) (by omega)).mp z)), il_2, nI_add, bd1_e (ofPitch_s (by omega)), lN_i]
theorem x6_pitch {F : Nat} {N : Nat → Nat} (hF : 1000 < F) (h : DW N) (w : PW N) {s k : Nat} (hs : s < 8) (hk : k ≤ 3) : fX6_pitch F (lA N) (nI s) (nI k) = some (ptV N s k, 0) := by
  unfold fX6_pitch
  rw [bd1_e (show fX6_in (nI s) 0 7 = some (nI 1) from in_y (b := 0) (c := 7) (by omega) (by omega) (by omega)), if_neg (show ¬ nI 1 = 0 by decide +kernel), bd1_e (show fX6_in (nI k) 0 3 = some (nI 1) from in_y (b := 0) (c := 3) (by omega) hk (by omega)), if_neg (show ¬ nI 1 = 0 by decide +kernel), bd1_e (x6_ptof hF h w hs hk)]
theorem x6_pitch_no {F : Nat} {m : Nat → Int64} {a b : Int32} (h : ¬ ((0 ≤ a.toInt ∧ a.toInt ≤ 7) ∧ (0 ≤ b.toInt ∧ b.toInt ≤ 3))) : fX6_pitch F m a b = some (0, 1) := by
  unfold fX6_pitch
  by_cases q : (0 : Int) ≤ a.toInt ∧ a.toInt ≤ 7
  · rw [bd1_e (show fX6_in a 0 7 = some (nI 1) from in_yi (b := 0) (c := 7) (by omega) (by omega) q), if_neg (show ¬ nI 1 = 0 by decide +kernel), bd1_e (show fX6_in b 0 3 = some (nI 0) from in_no (b := 0) (c := 3) (by omega) (by omega) (by omega)), if_pos (show nI 0 = 0 from rfl)]
    rfl
  · rw [bd1_e (show fX6_in a 0 7 = some (nI 0) from in_no (b := 0) (c := 7) (by omega) (by omega) q), if_pos (show nI 0 = 0 from rfl)]
    rfl
theorem x3_val {N : Nat → Nat} {pm sm : Nat} {cel : Nat → Int64} {ben off : Nat → Int32} (h : DW N) (w : PW N) (p : PC N pm sm cel ben off) {s k : Nat} (hs : s < 8) (hk : k ≤ 3) (e : ¬ N (60 + 5 * s + 0) = 0) : fX3_valueOf (nI sm) cel ben off (nI s) (nI k) = some (ptV N s k) := by
  unfold fX3_valueOf ptV
  have g := w s hs
  have e1 : N (60 + 5 * s + 0) = 1 := by omega
  obtain ⟨p1, p2, p3, p4⟩ := (p.2.2.2 s hs).2 e1
  have k4 : k = 0 ∨ k = 1 ∨ k = 2 ∨ k = 3 := by omega
  rw [if_neg e]
  rcases k4 with rfl | rfl | rfl | rfl
  · rw [tsw2 (by omega), tc_eq, bd1_e (bendsAt_s (by omega)), p2, if_neg (by omega)]
  · rw [tsw2 (by omega), tc_ne _ _ (by decide), tc_eq, bd1_e (offsetAt_s (by omega)), p3, if_neg (by omega)]
  · have := p.2.1
    rw [tsw2 (by omega), tc_ne _ _ (by decide), tc_ne _ _ (by decide), tc_eq, bd1_e (isInN (by omega) (by omega)), p4]
    have := g.2.2.2.2.1
    by_cases e4 : N (60 + 5 * s + 4) = 1
    · rw [decide_eq_true e4, if_pos rfl, if_neg (show ¬ nI 1 = 0 by decide +kernel), if_neg (show ¬ 2 = 3 by omega), show 60 + 5 * s + (2 + 2) = 60 + 5 * s + 4 by omega, e4]
      rfl
    · rw [decide_eq_false e4, if_neg (show ¬ false = true by decide), if_pos (show nI 0 = 0 from rfl), if_neg (show ¬ 2 = 3 by omega), show 60 + 5 * s + (2 + 2) = 60 + 5 * s + 4 by omega, show N (60 + 5 * s + 4) = 0 by omega]
      rfl
  · rw [tsw2o, bd1_e (cellsAt_s (by omega)), p1, bd1_e (x_cnt (lt60 h g.2.1)), if_pos rfl]
/-! left -/
theorem x6_left {N : Nat → Nat} {s : Nat} (hs : s < 8) : fX6_left (lA N) (nI s) = some (lN (N (60 + 5 * s + 1)), 0) := by
  unfold fX6_left
  rw [bd1_e (show fX6_in (nI s) 0 7 = some (nI 1) from in_y (b := 0) (c := 7) (by omega) (by omega) (by omega)), if_neg (show ¬ nI 1 = 0 by decide +kernel), bd1_e (show fX6_ofPitch (lA N) (nI s) 1 = _ from ofPitch_s (j := 1) (by omega))]
theorem x6_left_no {m : Nat → Int64} {a : Int32} (h : ¬ (0 ≤ a.toInt ∧ a.toInt ≤ 7)) : fX6_left m a = some (0, 1) := by
  unfold fX6_left
  rw [bd1_e (show fX6_in a 0 7 = some (nI 0) from in_no (b := 0) (c := 7) (by omega) (by omega) h), if_pos (show nI 0 = 0 from rfl)]
  rfl
/-! whole values -/
def whV (N : Nat → Nat) (len k : Nat) : Int32 := if k = 16 then nI len else if k = 15 then nI (pcS (N 13)) else if 11 ≤ k then nI (N (k - 2)) else if k = 10 then nI (ptS N) else if k = 9 then nI (psS N (N 8)) else nI (N k)
theorem x6_whof {F : Nat} {N : Nat → Nat} {len k : Nat} (hF : 1000 < F) (h : DW N) (hk : k ≤ 16) : fX6_wholeOf F (lA N) (nI len) (nI k) = some (whV N len k) := by
  unfold fX6_wholeOf whV
  have h13 := h.2.2.2.1.2
  by_cases q9 : k < 9
  · rw [if_neg (show ¬ 9 ≤ nI k from nI_ge (b := 9) q9 (by omega)), bd1_e (many_s (by omega)), if_neg (by omega), if_neg (by omega), if_neg (by omega), if_neg (by omega), if_neg (by omega)]
  rw [if_pos (show 9 ≤ nI k from nI_le (a := 9) (by omega) (by omega))]
  by_cases q11 : k < 11
  · rw [if_neg (show ¬ 11 ≤ nI k from nI_ge (b := 11) q11 (by omega)), if_neg (show ¬ k = 16 by omega), if_neg (show ¬ k = 15 by omega), if_neg (show ¬ 11 ≤ k by omega)]
    by_cases e : k = 9
    · rw [if_neg (nn (show nI k = 9 from by rw [e]; rfl)), bd1_e (x6_ps (by omega) h), if_neg (show ¬ k = 10 by omega), if_pos e]
    · rw [if_pos (show ¬ nI k = 9 from fun z => e ((nI_eq (b := 9) (by omega) (by omega)).mp z)), bd1_e (x6_pts (by omega)), if_pos (show k = 10 by omega)]
  rw [if_pos (show 11 ≤ nI k from nI_le (a := 11) (by omega) (by omega))]
  by_cases q15 : k < 15
  · rw [if_neg (show ¬ 15 ≤ nI k from nI_ge (b := 15) q15 (by omega)), il_2, pk_sub (by omega), bd1_e (many_s (by omega)), if_neg (show ¬ k = 16 by omega), if_neg (show ¬ k = 15 by omega), if_pos (show 11 ≤ k by omega)]
  rw [if_pos (show 15 ≤ nI k from nI_le (a := 15) (by omega) (by omega))]
  by_cases e : k = 15
  · rw [if_neg (nn (show nI k = 15 from by rw [e]; rfl)), il_13, gd_lit (by omega), nI_clamp (by omega), lA_at, bd1_e (x6_ones (by omega) (Nat.lt_of_lt_of_le h13 (by decide))), if_neg (show ¬ k = 16 by omega), if_pos e]
  · rw [if_pos (show ¬ nI k = 15 from fun z => e ((nI_eq (b := 15) (by omega) (by omega)).mp z)), if_pos (show k = 16 by omega)]
theorem x6_whole {F : Nat} {N : Nat → Nat} {len k : Nat} (hF : 1000 < F) (h : DW N) (hk : k ≤ 16) : fX6_whole F (lA N) (nI len) (nI k) = some (whV N len k, 0) := by
  unfold fX6_whole
  rw [bd1_e (show fX6_in (nI k) 0 16 = some (nI 1) from in_y (b := 0) (c := 16) (by omega) hk (by omega)), if_neg (show ¬ nI 1 = 0 by decide +kernel), bd1_e (x6_whof hF h hk)]
theorem x6_whole_no {F : Nat} {m : Nat → Int64} {l a : Int32} (h : ¬ (0 ≤ a.toInt ∧ a.toInt ≤ 16)) : fX6_whole F m l a = some (0, 1) := by
  unfold fX6_whole
  rw [bd1_e (show fX6_in a 0 16 = some (nI 0) from in_no (b := 0) (c := 16) (by omega) (by omega) h), if_pos (show nI 0 = 0 from rfl)]
  rfl
theorem x1_whole {F : Nat} {N : Nat → Nat} {set fac : Nat → Int32} {dce : Nat → Int64} {len k : Nat} (hF : 1000 < F) (h : DW N) (c : CD N set fac dce) (hk : k ≤ 9) : fX1_wholeValue F (nI (N 0)) (nI (N 1)) (nI (N 2)) (nI (N 8)) set fac (nI k) = some (whV N len k) := by
  unfold fX1_wholeValue whV
  rw [if_neg (show ¬ k = 16 by omega), if_neg (show ¬ k = 15 by omega), if_neg (show ¬ 11 ≤ k by omega), if_neg (show ¬ k = 10 by omega)]
  have st : 3 ≤ k → k ≤ 7 → fX1_setting set (nI k - 3) = some (nI (N k)) := fun a b => by
    rw [il_3, pk_sub a, setting_s (by omega), c.1 _ (by omega), show 3 + (k - 3) = k by omega]
  have kk : k = 0 ∨ k = 1 ∨ k = 2 ∨ k = 3 ∨ k = 4 ∨ k = 5 ∨ k = 6 ∨ k = 7 ∨ k = 8 ∨ k = 9 := by omega
  rcases kk with e | e | e | e | e | e | e | e | e | e
  · subst e; rw [tsw9 (by omega), tc_eq]; rfl
  · subst e; rw [tsw9 (by omega), tc_ne _ _ (by decide), tc_eq]; rfl
  · subst e; rw [tsw9 (by omega), tc_ne _ _ (by decide), tc_ne _ _ (by decide), tc_eq]; rfl
  · have st := st (by omega) (by omega); subst e; rw [tsw9 (by omega), tc_ne _ _ (by decide), tc_ne _ _ (by decide), tc_ne _ _ (by decide), tc_eq, bd1_e st]; rfl
  · have st := st (by omega) (by omega); subst e; rw [tsw9 (by omega), tc_ne _ _ (by decide), tc_ne _ _ (by decide), tc_ne _ _ (by decide), tc_ne _ _ (by decide), tc_eq, bd1_e st]; rfl
  · have st := st (by omega) (by omega); subst e; rw [tsw9 (by omega), tc_ne _ _ (by decide), tc_ne _ _ (by decide), tc_ne _ _ (by decide), tc_ne _ _ (by decide), tc_ne _ _ (by decide), tc_eq, bd1_e st]; rfl
  · have st := st (by omega) (by omega); subst e; rw [tsw9 (by omega), tc_ne _ _ (by decide), tc_ne _ _ (by decide), tc_ne _ _ (by decide), tc_ne _ _ (by decide), tc_ne _ _ (by decide), tc_ne _ _ (by decide), tc_eq, bd1_e st]; rfl
  · have st := st (by omega) (by omega); subst e; rw [tsw9 (by omega), tc_ne _ _ (by decide), tc_ne _ _ (by decide), tc_ne _ _ (by decide), tc_ne _ _ (by decide), tc_ne _ _ (by decide), tc_ne _ _ (by decide), tc_ne _ _ (by decide), tc_eq, bd1_e st]; rfl
  · subst e; rw [tsw9 (by omega), tc_ne _ _ (by decide), tc_ne _ _ (by decide), tc_ne _ _ (by decide), tc_ne _ _ (by decide), tc_ne _ _ (by decide), tc_ne _ _ (by decide), tc_ne _ _ (by decide), tc_ne _ _ (by decide), tc_eq]; rfl
  · subst e; rw [tsw9 (by omega), tc_ne _ _ (by decide), tc_ne _ _ (by decide), tc_ne _ _ (by decide), tc_ne _ _ (by decide), tc_ne _ _ (by decide), tc_ne _ _ (by decide), tc_ne _ _ (by decide), tc_ne _ _ (by decide), tc_ne _ _ (by decide), tc_eq, bd1_e (x1_ps (by omega) h c)]; rfl
theorem x3_whole {N : Nat → Nat} {pm sm len k : Nat} {cel : Nat → Int64} {ben off : Nat → Int32} (w : PW N) (p : PC N pm sm cel ben off) (h1 : 10 ≤ k) (h2 : k ≤ 14) : fX3_wholeValue (nI pm) (nI (N 9)) (nI (N 10)) (nI (N 11)) (nI (N 12)) (nI k) = some (whV N len k) := by
  unfold fX3_wholeValue whV
  have kk : k = 10 ∨ k = 11 ∨ k = 12 ∨ k = 13 ∨ k = 14 := by omega
  have e0 : ((10 : Nat) : Int) - 10 = 0 := by omega
  have tw : ∀ {X : Nat → Option Int32} {D : Option Int32} (j : Nat), j ≤ 3 → tsw (nI (10 + j)) 10 13 X D = X j := fun j hj => by
    rw [tsw_in (by omega) (by omega) (by omega)]
    congr 1
    omega
  rcases kk with rfl | rfl | rfl | rfl | rfl
  · rw [tw 0 (by omega), tc_eq, bd1_e (x_cnt8 p.1), pts_pc w p]; rfl
  · rw [tw 1 (by omega), tc_ne _ _ (by decide), tc_eq]; rfl
  · rw [tw 2 (by omega), tc_ne _ _ (by decide), tc_ne _ _ (by decide), tc_eq]; rfl
  · rw [tw 3 (by omega), tc_ne _ _ (by decide), tc_ne _ _ (by decide), tc_ne _ _ (by decide), tc_eq]; rfl
  · rw [tsw_out (by omega) (by omega)]; rfl
/-! sets of cells -/
def csV (N : Nat → Nat) (k : Nat) : Nat := if k = 0 then paS N else if k = 1 then liS N else if k = 2 then crS N else if k = 3 then tkS N 0 else if k = 4 then stS N else loS N
theorem x6_setof {F : Nat} {N : Nat → Nat} (hF : 1000 < F) (h : DW N) {k : Nat} (hk : k ≤ 5) : fX6_setOf F (lA N) (nI k) = some (lN (csV N k)) := by
  unfold fX6_setOf csV
  have t0 : fX6_takenBy F (lA N) 0 = some (lN (tkS N 0)) := x6_taken (k := 0) (by omega) h (by omega)
  have kk : k = 0 ∨ k = 1 ∨ k = 2 ∨ k = 3 ∨ k = 4 ∨ k = 5 := by omega
  rcases kk with rfl | rfl | rfl | rfl | rfl | rfl
  · rw [if_neg (show ¬ (3 : Int32) ≤ nI 0 by decide +kernel), if_neg (nn (show nI 0 = 0 from rfl)), bd1_e (x6_part (by omega) h)]; rfl
  · rw [if_neg (show ¬ (3 : Int32) ≤ nI 1 by decide +kernel), if_pos (show ¬ nI 1 = 0 by decide +kernel), if_neg (nn (show nI 1 = 1 from rfl)), bd1_e (x6_links (by omega) h)]; rfl
  · rw [if_neg (show ¬ (3 : Int32) ≤ nI 2 by decide +kernel), if_pos (show ¬ nI 2 = 0 by decide +kernel), if_pos (show ¬ nI 2 = 1 by decide +kernel), bd1_e (x6_car (by omega) h)]; rfl
  · rw [if_pos (show (3 : Int32) ≤ nI 3 by decide +kernel), if_neg (nn (show nI 3 = 3 from rfl)), bd1_e t0]; rfl
  · rw [if_pos (show (3 : Int32) ≤ nI 4 by decide +kernel), if_pos (show ¬ nI 4 = 3 by decide +kernel), if_neg (nn (show nI 4 = 4 from rfl)), bd1_e (x6_stand (by omega) h)]; rfl
  · rw [if_pos (show (3 : Int32) ≤ nI 5 by decide +kernel), if_pos (show ¬ nI 5 = 3 by decide +kernel), if_pos (show ¬ nI 5 = 4 by decide +kernel), bd1_e (x6_loose (by omega) h)]; rfl
theorem x6_cells {F : Nat} {N : Nat → Nat} (hF : 1000 < F) (h : DW N) {k : Nat} (hk : k ≤ 5) : fX6_cellSet F (lA N) (nI k) = some (lN (csV N k), 0) := by
  unfold fX6_cellSet
  rw [bd1_e (show fX6_in (nI k) 0 5 = some (nI 1) from in_y (b := 0) (c := 5) (by omega) hk (by omega)), if_neg (show ¬ nI 1 = 0 by decide +kernel), bd1_e (x6_setof hF h hk)]
theorem x6_cells_no {F : Nat} {m : Nat → Int64} {a : Int32} (h : ¬ (0 ≤ a.toInt ∧ a.toInt ≤ 5)) : fX6_cellSet F m a = some (0, 1) := by
  unfold fX6_cellSet
  rw [bd1_e (show fX6_in a 0 5 = some (nI 0) from in_no (b := 0) (c := 5) (by omega) (by omega) h), if_pos (show nI 0 = 0 from rfl)]
  rfl
/-! scrap -/
def scR (N : Nat → Nat) (tw : Bool) : Int32 := ((1000 : Int32) * (nI (N 0 * N 1) - (if (tw && fiS N) = true then nI (2 * pcS (paS N)) else nI (pcS (paS N))))) / nI (N 0 * N 1)
theorem pa60 {N : Nat → Nat} (h : DW N) : paS N < 2 ^ 60 := sdf_lt _ (lt60 h h.2.1.1)
theorem x6_scrap {F : Nat} {N : Nat → Nat} (hF : 1000 < F) (h : DW N) (tw : Bool) : fX6_scrap F (lA N) (bI tw) = some (scR N tw, 0) := by
  obtain ⟨h1, h2, h3, h4, h5⟩ := h.1
  have c60 := cr60 h2 h4
  have c4 : 2 * 2 ≤ N 0 * N 1 := Nat.mul_le_mul h1 h3
  have p := x6_part (F := F) (by omega) h
  have o := x6_ones (F := F) (by omega) (pa60 h)
  have e : fX6_scrapOf F (lA N) (bI tw) = some (scR N tw) := by
    unfold fX6_scrapOf scR
    rw [bd1_e (show fX6_many (lA N) 0 = _ from many_s (k := 0) (by omega)), bd1_e (show fX6_many (lA N) 1 = _ from many_s (k := 1) (by omega)), pk_mul, nm_s]
    cases tw
    · rw [if_pos (show bI false = 0 from rfl), bd1_e p, bd1_e o, bd1_s, gz_nI (by omega) (by omega)]
      rfl
    · rw [if_neg (show ¬ bI true = 0 by decide +kernel), bd1_e (x6_fits (by omega) h)]
      by_cases q : fiS N = true
      · rw [if_pos q, if_neg (nn (show nI 1 = 1 from rfl)), bd1_e p, bd1_e o, il_2, pk_mul, bd1_s, gz_nI (by omega) (by omega), q]
        rfl
      · rw [if_neg q, if_pos (show ¬ nI 0 = 1 by decide +kernel), bd1_e p, bd1_e o, bd1_s, gz_nI (by omega) (by omega), Bool.eq_false_iff.mpr q]
        rfl
  unfold fX6_scrap
  rw [bd1_e e]
theorem x5_scrap {F : Nat} {N : Nat → Nat} (hF : 1000 < F) (h : DW N) (tw : Bool) : fX5_scrap F (nI (N 0)) (nI (N 1)) (nI (N 2)) (lN (N 14)) (bI tw) = some (scR N tw) := by
  obtain ⟨h1, h2, h3, h4, h5⟩ := h.1
  have c60 := cr60 h2 h4
  have c4 : 2 * 2 ≤ N 0 * N 1 := Nat.mul_le_mul h1 h3
  unfold fX5_scrap scR
  rw [pk_mul, nm_s, if_pos (show 1 ≤ nI (N 0 * N 1) from nI_le (a := 1) (by omega) (by omega)), bd1_e (x1_part h), bd1_e (x_cnt (pa60 h))]
  cases tw
  · rw [if_pos (show bI false = 0 from rfl), bd1_s, gz_nI (by omega) (by omega)]
    rfl
  · rw [if_neg (show ¬ bI true = 0 by decide +kernel), bd1_e (x1_second (by omega) h)]
    by_cases q : fiS N = true
    · rw [if_pos q, if_neg (show ¬ nI 1 = 0 by decide +kernel), il_2, pk_mul, nm_s, bd1_s, gz_nI (by omega) (by omega), q]
      rfl
    · rw [if_neg q, if_pos (show nI 0 = 0 from rfl), bd1_s, gz_nI (by omega) (by omega), Bool.eq_false_iff.mpr q]
      rfl
/-! planned -/
theorem x6_planN {F : Nat} {N : Nat → Nat} {tr be tou : Nat → Int32} (hF : 1000000 < F) (h : DW N) : ∃ r tr' be' tou', fX6_planned F (lA N) tr be tou (-1) = some (r, 0, tr', be', tou') ∧ PlanRes N (N 3) r be' := by
  obtain ⟨r, tr', be', tou', e, pr⟩ := x6_plans (tr := tr) (be := be) (tou := tou) hF h (L := N 3) (by have := h.2.2.1; omega)
  refine ⟨r, tr', be', tou', ?_, pr⟩
  unfold fX6_planned
  rw [if_pos rfl, bd1_e (show fX6_setting (lA N) 0 = some (nI (N 3)) from mset_s (k := 0) (by omega)), bd4_e e]
  by_cases z : r = -1
  · rw [if_pos z]
  · rw [if_neg z, if_neg (nn (rfl : (-1 : Int32) = -1))]
theorem x6_planO {F : Nat} {N : Nat → Nat} {tr be tou : Nat → Int32} {o : Nat} (hF : 1000000 < F) (h : DW N) (ho : o < N 8) : ∃ r tr' be' tou', fX6_planned F (lA N) tr be tou (nI o) = some (if r = eN 0 then r else be' o, 0, tr', be', tou') ∧ PlanRes N (N 3) r be' := by
  obtain ⟨r, tr', be', tou', e, pr⟩ := x6_plans (tr := tr) (be := be) (tou := tou) hF h (L := N 3) (by have := h.2.2.1; omega)
  have h8 := h.2.2.2.1.1
  have n1 : ¬ nI o = -1 := by rw [eN_0]; exact eN0_n (by omega)
  refine ⟨r, tr', be', tou', ?_, pr⟩
  unfold fX6_planned
  rw [if_neg n1, bd1_e (isop_y h8 ho), if_pos (show ¬ nI 1 = 0 by decide +kernel), bd1_e (show fX6_setting (lA N) 0 = some (nI (N 3)) from mset_s (k := 0) (by omega)), bd4_e e, eN_0]
  by_cases z : r = eN 0
  · rw [if_pos z, if_pos z]
  · rw [if_neg z, if_neg z, if_pos (show ¬ nI o = eN 0 from eN0_n (by omega)), gd_nI (by omega) (by omega), nI_clamp (by omega)]
theorem x6_plan_no {F : Nat} {N : Nat → Nat} {tr be tou : Nat → Int32} {a : Int32} (h8 : N 8 ≤ 6) (h1 : ¬ a = -1) (ho : ¬ (0 ≤ a.toInt ∧ a.toInt < (N 8 : Int))) : fX6_planned F (lA N) tr be tou a = some (0, 1, tr, be, tou) := by
  unfold fX6_planned
  rw [if_neg h1, bd1_e (isop_no h8 ho), if_neg (nn (show nI 0 = 0 from rfl))]
  rfl
