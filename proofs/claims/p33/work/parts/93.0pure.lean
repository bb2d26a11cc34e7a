/-! rows of the proof of all answers that this one uses too -/
theorem bI_t : bI true = nI 1 := rfl
theorem bI_f : bI false = nI 0 := rfl
theorem nn1 : ¬ nI 1 = 0 := nI_ne0 (by omega) (by omega)
theorem gbBI {ρ : Type} (b : Bool) (X : Option ρ) : gb (bI b) X = X := by cases b <;> rfl
theorem x5_over {N : Nat → Nat} {pm sm C R : Nat} {cel : Nat → Int64} {ben off : Nat → Int32} (w : PW N) (p : PC N pm sm cel ben off) : fX5_startOver (nI pm) (nI C) (nI R) = some (nI C, nI R, 0, 0, 0, 0, 0, 0, 0, 0, 0, 0) := by
  unfold fX5_startOver
  rw [show fX1_startOver (nI C) (nI R) = some (nI C, nI R, 0, 0, 0, 0) from rfl, bd6_s, bd6_e (x3_start w p)]
theorem ad_o {N : Nat → Nat} {k x y w g j : Nat} (h : j < 20) (h8 : j ≠ 8) : adN N k x y w g j = N j := by
  unfold adN
  rw [if_neg h8, if_neg (by omega), if_neg (by omega), if_neg (by omega), if_neg (by omega), if_neg (by omega), if_neg (by omega)]
theorem us_o {N c : Nat → Nat} {j : Nat} (h : j < 20) : usN N c j = N j := by
  unfold usN
  rw [if_neg (by omega)]
theorem x5_saveN {o st : Nat} {N : Nat → Nat} {set fac : Nat → Int32} {dce : Nat → Int64} {pm sm : Nat} {cel : Nat → Int64} {ben off : Nat → Int32} {SS : Nat → Snap} (ho : o < 4) (hst : st ≤ 4) : fX5_save (nI o) (nI st) (nI (N 0)) (nI (N 1)) (nI (N 2)) (lN (N 14)) (lN (N 15)) (nI (N 8)) (nI (N 13)) set fac dce (nI pm) (nI sm) cel ben off (nI (N 9)) (nI (N 10)) (nI (N 11)) (nI (N 12)) SS = some (nI (svO o st), nI (svT st), svF o st (snp N set fac dce pm sm cel ben off) SS) := x5_save ho hst
theorem bI_ne (b : Bool) : (¬ bI b = 0) ↔ b = true := by cases b <;> decide +kernel

theorem x5_rng {v : Int32} {lo hi : Nat} (h1 : lo < 2 ^ 31) (h2 : hi < 2 ^ 31) : (if v < nI lo then some (0 : Int32) else (if nI hi < v then some (0 : Int32) else some (1 : Int32))) = some (bI (decide ((lo : Int) ≤ v.toInt ∧ v.toInt ≤ (hi : Int)))) := by
  by_cases q : v < nI lo
  · rw [if_pos q]
    rw [lt_i h1] at q
    rw [decide_eq_false (by omega)]
    rfl
  · rw [if_neg q]
    rw [lt_i h1] at q
    by_cases q2 : nI hi < v
    · rw [if_pos q2]
      rw [gt_i h2] at q2
      rw [decide_eq_false (by omega)]
      rfl
    · rw [if_neg q2]
      rw [gt_i h2] at q2
      rw [decide_eq_true (by omega)]
      rfl
theorem x5_isset {a v : Int32} (h : setOKi a.toInt v.toInt) : fX5_isSettingValue a v = some (nI 1) := by
  obtain ⟨k, hk, rfl⟩ := i_nat (a := a) (by unfold setOKi at h; omega)
  unfold setOKi at h
  rw [nI_toInt hk] at h
  have hk4 : k = 0 ∨ k = 1 ∨ k = 2 ∨ k = 3 ∨ k = 4 := by omega
  unfold fX5_isSettingValue
  rw [show (4 : Int) = ((4 : Nat) : Int) from rfl, tswN (n := 4) hk (by omega)]
  rcases hk4 with rfl | rfl | rfl | rfl | rfl
  · rw [tc_eq, show (1 : Int32) = nI 1 from rfl, il_999]
    refine (x5_rng (lo := 1) (hi := 999) (by omega) (by omega)).trans ?_
    rw [decide_eq_true (by omega)]; rfl
  · rw [tc_ne _ _ (by decide), tc_eq, il_3]
    refine (x5_rng (lo := 0) (hi := 3) (by omega) (by omega)).trans ?_
    rw [decide_eq_true (by omega)]; rfl
  · rw [tc_ne _ _ (by decide), tc_ne _ _ (by decide), tc_eq, il_9]
    refine (x5_rng (lo := 0) (hi := 9) (by omega) (by omega)).trans ?_
    rw [decide_eq_true (by omega)]; rfl
  · rw [tc_ne _ _ (by decide), tc_ne _ _ (by decide), tc_ne _ _ (by decide), tc_eq, il_50]
    refine (x5_rng (lo := 0) (hi := 50) (by omega) (by omega)).trans ?_
    rw [decide_eq_true (by omega)]; rfl
  · rw [tc_ne _ _ (by decide), tc_ne _ _ (by decide), tc_ne _ _ (by decide), tc_ne _ _ (by decide), tc_eq, il_50]
    refine (x5_rng (lo := 0) (hi := 50) (by omega) (by omega)).trans ?_
    rw [decide_eq_true (by omega)]; rfl
theorem x5_isset_no {a v : Int32} (h : ¬ setOKi a.toInt v.toInt) : fX5_isSettingValue a v = some (nI 0) := by
  unfold setOKi at h
  by_cases q : a.toInt < 0 ∨ 4 < a.toInt
  · unfold fX5_isSettingValue tsw
    rw [if_pos q]
    rfl
  · obtain ⟨k, hk, rfl⟩ := i_nat (a := a) (by omega)
    rw [nI_toInt hk] at h q
    have hk4 : k = 0 ∨ k = 1 ∨ k = 2 ∨ k = 3 ∨ k = 4 := by omega
    unfold fX5_isSettingValue
    rw [show (4 : Int) = ((4 : Nat) : Int) from rfl, tswN (n := 4) hk (by omega)]
    rcases hk4 with rfl | rfl | rfl | rfl | rfl
    · rw [tc_eq, show (1 : Int32) = nI 1 from rfl, il_999]
      refine (x5_rng (lo := 1) (hi := 999) (by omega) (by omega)).trans ?_
      rw [decide_eq_false (by omega)]; rfl
    · rw [tc_ne _ _ (by decide), tc_eq, il_3]
      refine (x5_rng (lo := 0) (hi := 3) (by omega) (by omega)).trans ?_
      rw [decide_eq_false (by omega)]; rfl
    · rw [tc_ne _ _ (by decide), tc_ne _ _ (by decide), tc_eq, il_9]
      refine (x5_rng (lo := 0) (hi := 9) (by omega) (by omega)).trans ?_
      rw [decide_eq_false (by omega)]; rfl
    · rw [tc_ne _ _ (by decide), tc_ne _ _ (by decide), tc_ne _ _ (by decide), tc_eq, il_50]
      refine (x5_rng (lo := 0) (hi := 50) (by omega) (by omega)).trans ?_
      rw [decide_eq_false (by omega)]; rfl
    · rw [tc_ne _ _ (by decide), tc_ne _ _ (by decide), tc_ne _ _ (by decide), tc_ne _ _ (by decide), tc_eq, il_50]
      refine (x5_rng (lo := 0) (hi := 50) (by omega) (by omega)).trans ?_
      rw [decide_eq_false (by omega)]; rfl
theorem x1_setn {N : Nat → Nat} {set fac : Nat → Int32} {dce : Nat → Int64} (cd : CD N set fac dce) {k : Nat} (hk : k < 5) : fX1_setting set (nI k) = some (nI (N (3 + k))) := by
  unfold fX1_setting
  rw [if_neg (nI_pos (by omega)), il_5, if_neg (nI_ge hk (by omega)), gd_nI hk (by omega), nI_clamp (by omega), cd.1 k hk]
theorem dr_o {N : Nat → Nat} {a j : Nat} (h : j < 20) (h8 : j ≠ 8) : drN N a j = N j := by
  unfold drN
  rw [if_neg h8, if_neg (by omega), if_neg (by omega)]
theorem x1_f6 {N : Nat → Nat} {set fac : Nat → Int32} {dce : Nat → Int64} (h : DW N) (cd : CD N set fac dce) {o : Nat} (ho : o < N 8) : fX1_fact fac (nI o) (6 : Int32) = some (eN (spN N o)) := x1_fact7 (k := 6) h cd ho (by omega)
theorem c5_cells {F : Nat} {N : Nat → Nat} {set fac : Nat → Int32} {dce : Nat → Int64} {pm sm : Nat} {cel : Nat → Int64} {ben off : Nat → Int32} (hF : 100 < F) (r : RelS N set fac dce pm sm cel ben off) {k : Nat} (hk : k ≤ 5) : fX5_cellSet F (nI (N 0)) (nI (N 1)) (nI (N 2)) (lN (N 14)) (lN (N 15)) (nI (N 8)) fac dce (nI k) = some (lN (csV N k)) := by
  have hk6 : k = 0 ∨ k = 1 ∨ k = 2 ∨ k = 3 ∨ k = 4 ∨ k = 5 := by omega
  unfold fX5_cellSet
  rw [show (5 : Int) = ((5 : Nat) : Int) from rfl, tswN (n := 5) (by omega) hk]
  rcases hk6 with rfl | rfl | rfl | rfl | rfl | rfl
  · rw [tc_eq, bd1_e (x1_part r.1)]; rfl
  · rw [tc_ne _ _ (by decide), tc_eq, bd1_e (x1_link r.1)]; rfl
  · rw [tc_ne _ _ (by decide), tc_ne _ _ (by decide), tc_eq, bd1_e (x1_car r.1)]; rfl
  · rw [tc_ne _ _ (by decide), tc_ne _ _ (by decide), tc_ne _ _ (by decide), tc_eq, bd1_e (show fX1_cellsOfKind F (nI (N 8)) fac dce 0 = _ from x1_kind (k := 0) hF r.1 r.2.2.1 (by omega))]; rfl
  · rw [tc_ne _ _ (by decide), tc_ne _ _ (by decide), tc_ne _ _ (by decide), tc_ne _ _ (by decide), tc_eq, bd1_e (x1_forgot hF r.1 r.2.2.1)]; rfl
  · rw [tc_ne _ _ (by decide), tc_ne _ _ (by decide), tc_ne _ _ (by decide), tc_ne _ _ (by decide), tc_ne _ _ (by decide), tc_eq, bd1_e (x1_loose hF r.1)]; rfl
theorem c5_oper {F : Nat} {N : Nat → Nat} {set fac : Nat → Int32} {dce : Nat → Int64} {pm sm : Nat} {cel : Nat → Int64} {ben off : Nat → Int32} (hF : 100 < F) (r : RelS N set fac dce pm sm cel ben off) {o k : Nat} (ho : o < N 8) (hk : k ≤ 7) : fX5_operation F (nI (N 0)) (nI (N 1)) (nI (N 8)) fac dce (nI o) (nI k) = some (opV N o k) := by
  have h8 := r.1.2.2.2.1.1
  unfold fX5_operation
  rw [bd1_e (x1_hasop h8), decide_eq_true (by rw [nI_toInt (by omega)]; omega), bI_t, if_pos nn1, if_neg (nI_pos (by omega)), il_7, if_pos (nI_le hk (by omega))]
  by_cases q : k = 7
  · subst q
    rw [if_neg (fun z => z rfl), bd1_e (x1_tc hF r.1 r.2.2.1 ho)]
    rfl
  · rw [if_pos (fun z => q ((nI_eq (by omega) (by omega)).mp z)), bd1_e (x1_fact7 r.1 r.2.2.1 ho (by omega))]
theorem c5_stat {F : Nat} {N : Nat → Nat} {set fac : Nat → Int32} {dce : Nat → Int64} {pm sm : Nat} {cel : Nat → Int64} {ben off : Nat → Int32} (hF : 100 < F) (r : RelS N set fac dce pm sm cel ben off) {s k : Nat} (hs : s < 8) (hk : k ≤ 3) : fX5_station F (nI (N 8)) (nI (N 13)) fac (nI pm) (nI s) (nI k) = some (saV N s k) := by
  have hk4 : k = 0 ∨ k = 1 ∨ k = 2 ∨ k = 3 := by omega
  unfold fX5_station
  rw [bd1_e x5_stat, decide_eq_true (by rw [nI_toInt (by omega)]; omega), bI_t, if_pos nn1, show (3 : Int) = ((3 : Nat) : Int) from rfl, tswN (n := 3) (by omega) hk]
  rcases hk4 with rfl | rfl | rfl | rfl
  · rw [tc_eq, bd1_e (x1_oas hF r.1 r.2.2.1 (by omega))]; rfl
  · rw [tc_ne _ _ (by decide), tc_eq, bd1_e (x1_fas hF r.1 r.2.2.1 (by omega))]; rfl
  · rw [tc_ne _ _ (by decide), tc_ne _ _ (by decide), tc_eq, bd1_e (x1_pilot r.1 hs)]
    show _ = some (bI ((N 13).testBit s))
    cases (N 13).testBit s with
    | true => rw [bI_t, if_neg nn1]; rfl
    | false => rw [bI_f, if_pos nI_0]; rfl
  · rw [tc_ne _ _ (by decide), tc_ne _ _ (by decide), tc_ne _ _ (by decide), tc_eq, bd1_e (x3_has r.2.1 r.2.2.2.1 hs)]
    show _ = some (nI (N (60 + 5 * s + 0)))
    have := (r.2.1 s hs).1
    by_cases e : N (60 + 5 * s + 0) = 0
    · rw [e, if_pos nI_0]; rfl
    · rw [show N (60 + 5 * s + 0) = 1 by omega, if_neg nn1]; rfl
theorem c5_pitch {N : Nat → Nat} {set fac : Nat → Int32} {dce : Nat → Int64} {pm sm : Nat} {cel : Nat → Int64} {ben off : Nat → Int32} (r : RelS N set fac dce pm sm cel ben off) {s k : Nat} (hs : s < 8) (hk : k ≤ 3) : fX5_pitch (nI pm) (nI sm) cel ben off (nI s) (nI k) = some (ptV N s k) := by
  unfold fX5_pitch
  rw [bd1_e x5_stat, decide_eq_true (by rw [nI_toInt (by omega)]; omega), bI_t, if_neg nn1, if_neg (nI_pos (by omega)), il_3, if_pos (nI_le hk (by omega)), bd1_e (x3_has r.2.1 r.2.2.2.1 hs)]
  have := (r.2.1 s hs).1
  by_cases e : N (60 + 5 * s + 0) = 0
  · rw [e, if_pos nI_0]
    unfold ptV
    rw [if_pos e, eN_0]
  · rw [if_neg (nI_ne0 (by omega) (by omega)), bd1_e (x3_val r.1 r.2.1 r.2.2.2.1 hs hk e)]
theorem c5_left {N : Nat → Nat} {set fac : Nat → Int32} {dce : Nat → Int64} {pm sm : Nat} {cel : Nat → Int64} {ben off : Nat → Int32} (r : RelS N set fac dce pm sm cel ben off) {s : Nat} (hs : s < 8) : fX5_left (nI pm) cel (nI s) = some (lN (N (60 + 5 * s + 1))) := by
  unfold fX5_left
  rw [bd1_e x5_stat, decide_eq_true (by rw [nI_toInt (by omega)]; omega), bI_t, if_pos nn1, bd1_e (x3_has r.2.1 r.2.2.2.1 hs)]
  have := (r.2.1 s hs).1
  by_cases e : N (60 + 5 * s + 0) = 0
  · rw [e, if_pos nI_0, (r.2.1 s hs).2.2.2.2.2 e 1 (by omega)]
    rfl
  · rw [if_neg (nI_ne0 (by omega) (by omega)), bd1_e (cellsAt_s (by omega)), ((r.2.2.2.1.2.2.2 s hs).2 (by omega)).1]
theorem c5_whole {F : Nat} {N : Nat → Nat} {set fac : Nat → Int32} {dce : Nat → Int64} {pm sm : Nat} {cel : Nat → Int64} {ben off : Nat → Int32} (hF : 1000 < F) (r : RelS N set fac dce pm sm cel ben off) {len k : Nat} (hk : k ≤ 16) : fX5_whole F (nI (N 0)) (nI (N 1)) (nI (N 2)) (nI (N 8)) (nI (N 13)) set fac (nI pm) (nI (N 9)) (nI (N 10)) (nI (N 11)) (nI (N 12)) (nI len) (nI k) = some (whV N len k) := by
  unfold fX5_whole
  rw [if_neg (nI_pos (by omega)), il_16, if_pos (nI_le hk (by omega)), il_10]
  by_cases q : 10 ≤ k
  · rw [if_pos (nI_le q (by omega)), il_15]
    by_cases q15 : k = 15
    · subst q15
      rw [if_neg (fun z => z rfl), bd1_e (x_cnt8 r.1.2.2.2.1.2)]
      rfl
    · rw [if_pos (fun z => q15 ((nI_eq (by omega) (by omega)).mp z))]
      by_cases q16 : k = 16
      · subst q16
        rw [if_neg (fun z => z rfl)]
        rfl
      · rw [if_pos (fun z => q16 ((nI_eq (by omega) (by omega)).mp z)), bd1_e (x3_whole (len := len) r.2.1 r.2.2.2.1 q (by omega))]
  · rw [if_neg (nI_ge (by omega) (by omega)), bd1_e (x1_whole (len := len) hF r.1 r.2.2.1 (by omega))]
theorem c5_fits {F : Nat} {N : Nat → Nat} {set fac : Nat → Int32} {dce : Nat → Int64} {pm sm : Nat} {cel : Nat → Int64} {ben off : Nat → Int32} (hF : 100 < F) (r : RelS N set fac dce pm sm cel ben off) : fX5_fitsTwice F (nI (N 0)) (nI (N 1)) (nI (N 2)) (lN (N 14)) = some (if fiS N = true then nI 1 else nI 0) := by
  unfold fX5_fitsTwice
  rw [bd1_e (x1_second hF r.1)]
  by_cases q : fiS N = true
  · rw [if_pos q, if_neg nn1]; rfl
  · rw [if_neg q, if_pos nI_0]; rfl
theorem c5_planN {F : Nat} {N : Nat → Nat} {set fac : Nat → Int32} {dce : Nat → Int64} {pm sm : Nat} {cel : Nat → Int64} {ben off : Nat → Int32} {ch tou frc : Nat → Int32} (hF : 1000000 < F) (r : RelS N set fac dce pm sm cel ben off) : ∃ rr u1 u2 u3 u4 u5 ch' u7 u8, fX5_planned F (nI (N 0)) (nI (N 1)) (nI (N 8)) set fac dce ch tou frc (-1) = some (rr, u1, u2, u3, u4, u5, ch', u7, u8) ∧ PlanRes N (N 3) rr ch' := by
  obtain ⟨rr, u1, u2, u3, u4, u5, ch', u7, u8, e, pr⟩ := x2_best (ch := ch) (tou := tou) (frc := frc) hF r.1 r.2.2.1
  refine ⟨rr, u1, u2, u3, u4, u5, ch', u7, u8, ?_, pr⟩
  unfold fX5_planned
  rw [if_pos rfl, bd9_e e]
  by_cases z : rr = -1
  · rw [if_pos z]
  · rw [if_neg z, if_neg (nn (rfl : (-1 : Int32) = -1))]
theorem c5_planO {F : Nat} {N : Nat → Nat} {set fac : Nat → Int32} {dce : Nat → Int64} {pm sm : Nat} {cel : Nat → Int64} {ben off : Nat → Int32} {ch tou frc : Nat → Int32} {o : Nat} (hF : 1000000 < F) (r : RelS N set fac dce pm sm cel ben off) (ho : o < N 8) : ∃ rr u1 u2 u3 u4 u5 ch' u7 u8, fX5_planned F (nI (N 0)) (nI (N 1)) (nI (N 8)) set fac dce ch tou frc (nI o) = some (if rr = eN 0 then rr else ch' o, u1, u2, u3, u4, u5, ch', u7, u8) ∧ PlanRes N (N 3) rr ch' := by
  have h8 := r.1.2.2.2.1.1
  obtain ⟨rr, u1, u2, u3, u4, u5, ch', u7, u8, e, pr⟩ := x2_best (ch := ch) (tou := tou) (frc := frc) hF r.1 r.2.2.1
  refine ⟨rr, u1, u2, u3, u4, u5, ch', u7, u8, ?_, pr⟩
  have n1 : ¬ nI o = eN 0 := eN0_n (by omega)
  unfold fX5_planned
  rw [eN_0, if_neg n1, bd1_e (x1_hasop h8), decide_eq_true (by rw [nI_toInt (by omega)]; omega), bI_t, if_pos nn1, bd9_e e]
  by_cases z : rr = eN 0
  · rw [if_pos z, if_pos z]
  · rw [if_neg z, if_neg z, if_pos n1, bd1_e (chosen_s (by omega))]
