theorem tsw8 {ρ : Type} {k : Nat} {X : Nat → Option ρ} {D : Option ρ} (h : k ≤ 8) : tsw (nI k) 0 8 X D = X k := tswN (n := 8) (by omega) h
theorem tsw7 {ρ : Type} {k : Nat} {X : Nat → Option ρ} {D : Option ρ} (h : k ≤ 7) : tsw (nI k) 0 7 X D = X k := tswN (n := 7) (by omega) h
theorem tsw7o {ρ : Type} {X : Nat → Option ρ} {D : Option ρ} : tsw (nI 8) 0 7 X D = D := tsw_out (by omega) (by omega)
theorem gbBI {ρ : Type} (b : Bool) (X : Option ρ) : gb (bI b) X = X := by cases b <;> rfl
theorem num_s {f : Nat → Int32} {i : Nat} (h : i < 4) : fX0_number f (nI i) = some (f i) := by
  unfold fX0_number
  rw [if_neg (nI_pos (by omega)), il_4, if_neg (nI_ge h (by omega)), gd_nI h (by omega), nI_clamp (by omega)]
def CmdOK (F : Nat) (N S : Nat → Nat) (st : Nat) (tr be tou vb td : Nat → Int32) (a0 : Nat) (set fac : Nat → Int32) (dce : Nat → Int64) (pm sm : Nat) (cel : Nat → Int64) (ben off : Nat → Int32) (l1 l2 l3 l4 l5 : Int32) (lc lt lf num : Nat → Int32) (W : Nat) : Prop :=
  ∃ (N' : Nat → Nat) (th : Nat) (tr' be' tou' : Nat → Int32) (fl : Bool) (fac' : Nat → Int32) (dce' : Nat → Int64) (pm' sm' : Nat) (cel' : Nat → Int64) (ben' off' : Nat → Int32) (k1 k2 k3 k4 k5 : Int32) (lc' lt' lf' : Nat → Int32),
    fX6_carriesOut F (lA N) (lA S) (nI st) (nI 1) tr be tou vb td (nI a0) = some (lA N', lA S, nI st, nI th, tr', be', tou') ∧
    fX5_carryOut F (nI (N 0)) (nI (N 1)) (nI (N 2)) (lN (N 14)) (lN (N 15)) (nI (N 8)) (nI (N 13)) set fac dce (nI pm) (nI sm) cel ben off (nI (N 9)) (nI (N 10)) (nI (N 11)) (nI (N 12)) l1 l2 l3 l4 l5 lc lt lf num (nI W) = some (bI fl, nI (N' 0), nI (N' 1), lN (N' 14), lN (N' 15), nI (N' 8), nI (N' 13), fac', dce', nI pm', nI sm', cel', ben', off', nI (N' 9), nI (N' 10), nI (N' 11), nI (N' 12), k1, k2, k3, k4, k5, lc', lt', lf') ∧
    RelS N' set fac' dce' pm' sm' cel' ben' off' ∧ (fl = true ↔ th = 0) ∧ th ≤ 2 ∧ N' 2 = N 2 ∧ N' 10 ≤ N 10 + 450 ∧ N' 11 ≤ N 11 + 450
theorem x5_over {N : Nat → Nat} {pm sm C R : Nat} {cel : Nat → Int64} {ben off : Nat → Int32} (w : PW N) (p : PC N pm sm cel ben off) : fX5_startOver (nI pm) (nI C) (nI R) = some (nI C, nI R, 0, 0, 0, 0, 0, 0, 0, 0, 0, 0) := by
  unfold fX5_startOver
  rw [show fX1_startOver (nI C) (nI R) = some (nI C, nI R, 0, 0, 0, 0) from rfl, bd6_s, bd6_e (x3_start w p)]
theorem cmd0 {F a0 st : Nat} {N S : Nat → Nat} {tr be tou vb td : Nat → Int32} {set fac : Nat → Int32} {dce : Nat → Int64} {pm sm : Nat} {cel : Nat → Int64} {ben off : Nat → Int32} {l1 l2 l3 l4 l5 : Int32} {lc lt lf num : Nat → Int32} {n0 n1 : Nat} (hF : 1000000 < F) (r : RelS N set fac dce pm sm cel ben off) (hg : N 10 + 1000 < 2 ^ 31) (hb : N 11 + 1000 < 2 ^ 31) (ha : a0 < 40) (hv : vb a0 = nI 0) (t0 : td (4 * a0) = nI n0) (u0 : num 0 = nI n0) (b0 : n0 < 1000) (t1 : td (4 * a0 + 1) = nI n1) (u1 : num 1 = nI n1) (b1 : n1 < 1000) : CmdOK F N S st tr be tou vb td a0 set fac dce pm sm cel ben off l1 l2 l3 l4 l5 lc lt lf num 0 := by
  have ti0 := nI_toInt (n := n0) (by omega)
  have ti1 := nI_toInt (n := n1) (by omega)
  by_cases q : (2 ≤ n0 ∧ n0 ≤ 10) ∧ (2 ≤ n1 ∧ n1 ≤ 6)
  · refine ⟨begN N n0 n1, 0, tr, be, tou, true, fac, dce, 0, 0, cel, ben, off, l1, l2, l3, l4, l5, lc, lt, lf, ?_, ?_, ?_, ?_, ?_, ?_, ?_, ?_⟩
    · unfold fX6_carriesOut
      rw [il_4, pk_mul, nm_s, gd_nI (by omega) (by omega), nI_clamp (by omega), nm_s, il_1, nI_add, nm_s, gd_nI (by omega) (by omega), nI_clamp (by omega), nm_s, il_2, nI_add, nm_s, gd_nI (by omega) (by omega), nI_clamp (by omega), nm_s, il_3, nI_add, nm_s, gd_nI (by omega) (by omega), nI_clamp (by omega), nm_s, gd_nI ha (by omega), nI_clamp (by omega), hv, tsw7 (by omega), tc_eq, t0, t1, bd5_e (show fX6_begin F (lA N) (lA S) (nI st) (nI 1) (nI n0) (nI n1) = _ from x6_begin (q := true) (F := F) (by omega) q.1 q.2 (SV.quiet F N S st))]
      rfl
    · unfold fX5_carryOut
      rw [bd1_e (show fX0_number num 0 = _ from num_s (i := 0) (by omega)), bd1_e (show fX0_number num 1 = _ from num_s (i := 1) (by omega)), bd1_e (show fX0_number num 2 = _ from num_s (i := 2) (by omega)), bd1_e (show fX0_number num 3 = _ from num_s (i := 3) (by omega)), tsw8 (by omega), tc_eq, u0, u1]
      unfold fX5_carryOutPitch
      rw [bd1_e x5_size, ti0, ti1, decide_eq_true (by omega), if_pos (show ¬ bI true = 0 by decide +kernel), bd12_e (x5_over r.2.1 r.2.2.2.1), bd13_s]
      rfl
    · exact rl_begin q.1 q.2 r
    · exact ⟨fun _ => rfl, fun _ => rfl⟩
    · omega
    · rfl
    · show 0 ≤ _; omega
    · show 0 ≤ _; omega
  · refine ⟨N, 1, tr, be, tou, false, fac, dce, pm, sm, cel, ben, off, l1, l2, l3, l4, l5, lc, lt, lf, ?_, ?_, ?_, ?_, ?_, ?_, ?_, ?_⟩
    · unfold fX6_carriesOut
      rw [il_4, pk_mul, nm_s, gd_nI (by omega) (by omega), nI_clamp (by omega), nm_s, il_1, nI_add, nm_s, gd_nI (by omega) (by omega), nI_clamp (by omega), nm_s, il_2, nI_add, nm_s, gd_nI (by omega) (by omega), nI_clamp (by omega), nm_s, il_3, nI_add, nm_s, gd_nI (by omega) (by omega), nI_clamp (by omega), nm_s, gd_nI ha (by omega), nI_clamp (by omega), hv, tsw7 (by omega), tc_eq, t0, t1, bd5_e (x6_begin_no (by rw [ti0, ti1]; omega))]
      rfl
    · unfold fX5_carryOut
      rw [bd1_e (show fX0_number num 0 = _ from num_s (i := 0) (by omega)), bd1_e (show fX0_number num 1 = _ from num_s (i := 1) (by omega)), bd1_e (show fX0_number num 2 = _ from num_s (i := 2) (by omega)), bd1_e (show fX0_number num 3 = _ from num_s (i := 3) (by omega)), tsw8 (by omega), tc_eq, u0, u1]
      unfold fX5_carryOutPitch
      rw [bd1_e x5_size, ti0, ti1, decide_eq_false (by omega), if_neg (nn (show bI false = 0 from rfl)), bd13_s]
      rfl
    · exact r
    · exact ⟨fun z => absurd z (by decide), fun z => absurd z (by decide)⟩
    · omega
    · rfl
    · omega
    · omega
theorem x6_mark_no {F : Nat} {N : Nat → Nat} {s : Nat → Int64} {st q x y w g m : Int32} (h : fX6_isRectangle (lA N) x y w g = some (nI 0)) : fX6_mark F (lA N) s st q x y w g m = some (0, lA N, s, st, 1) := by
  unfold fX6_mark
  rw [bd1_e h, if_pos (show nI 0 = 0 from rfl)]
  rfl
theorem rcI_n {C R x y w g : Nat} (hx : x < 1000) (hy : y < 1000) (hw : w < 1000) (hg : g < 1000) : RcI C R (nI x).toInt (nI y).toInt (nI w).toInt (nI g).toInt ↔ (1 ≤ w ∧ 1 ≤ g ∧ x + w ≤ C ∧ y + g ≤ R) := by
  unfold RcI
  rw [nI_toInt (by omega), nI_toInt (by omega), nI_toInt (by omega), nI_toInt (by omega)]
  omega
theorem cmd1 {F a0 st : Nat} {N S : Nat → Nat} {tr be tou vb td : Nat → Int32} {set fac : Nat → Int32} {dce : Nat → Int64} {pm sm : Nat} {cel : Nat → Int64} {ben off : Nat → Int32} {l1 l2 l3 l4 l5 : Int32} {lc lt lf num : Nat → Int32} {n0 n1 n2 n3 : Nat} (hF : 1000000 < F) (r : RelS N set fac dce pm sm cel ben off) (hg : N 10 + 1000 < 2 ^ 31) (hb : N 11 + 1000 < 2 ^ 31) (ha : a0 < 40) (hv : vb a0 = nI 1) (t0 : td (4 * a0) = nI n0) (u0 : num 0 = nI n0) (b0 : n0 < 1000) (t1 : td (4 * a0 + 1) = nI n1) (u1 : num 1 = nI n1) (b1 : n1 < 1000) (t2 : td (4 * a0 + 2) = nI n2) (u2 : num 2 = nI n2) (b2 : n2 < 1000) (t3 : td (4 * a0 + 3) = nI n3) (u3 : num 3 = nI n3) (b3 : n3 < 1000) : CmdOK F N S st tr be tou vb td a0 set fac dce pm sm cel ben off l1 l2 l3 l4 l5 lc lt lf num 1 := by
  have h1 := r.1.1.2.1
  have h2 := r.1.1.2.2.2.1
  by_cases q : 1 ≤ n2 ∧ 1 ≤ n3 ∧ n0 + n2 ≤ N 0 ∧ n1 + n3 ≤ N 1
  · refine ⟨mkN N (rcS (N 0) n0 n1 n2 n3) 1, 0, tr, be, tou, true, fac, dce, pm, sm, cel, ben, off, l1, l2, l3, l4, l5, lc, lt, lf, ?_, ?_, ?_, ?_, ?_, ?_, ?_, ?_⟩
    · unfold fX6_carriesOut
      rw [il_4, pk_mul, nm_s, gd_nI (by omega) (by omega), nI_clamp (by omega), nm_s, il_1, nI_add, nm_s, gd_nI (by omega) (by omega), nI_clamp (by omega), nm_s, il_2, nI_add, nm_s, gd_nI (by omega) (by omega), nI_clamp (by omega), nm_s, il_3, nI_add, nm_s, gd_nI (by omega) (by omega), nI_clamp (by omega), nm_s, gd_nI ha (by omega), nI_clamp (by omega), hv, tsw7 (by omega), tc_ne _ _ (by decide), tc_eq, t0, t1, t2, t3, bd5_e (show fX6_mark F (lA N) (lA S) (nI st) (nI 1) (nI n0) (nI n1) (nI n2) (nI n3) (nI 1) = _ from x6_mark (q := true) (m := 1) (F := F) (by omega) r.1 r.2.2.2.2 (by omega) q.1 q.2.1 q.2.2.1 q.2.2.2 (SV.quiet F N S st))]
      rfl
    · unfold fX5_carryOut
      rw [bd1_e (show fX0_number num 0 = _ from num_s (i := 0) (by omega)), bd1_e (show fX0_number num 1 = _ from num_s (i := 1) (by omega)), bd1_e (show fX0_number num 2 = _ from num_s (i := 2) (by omega)), bd1_e (show fX0_number num 3 = _ from num_s (i := 3) (by omega)), tsw8 (by omega), tc_ne _ _ (by decide), tc_eq, u0, u1, u2, u3]
      unfold fX5_carryOutMark
      rw [bd1_e (x1_holds_y h1 h2 q.1 q.2.1 q.2.2.1 q.2.2.2), if_pos (show ¬ nI 1 = 0 by decide +kernel), bd1_e (x1_rect (by omega) r.1.1.1 h1 h2 q.2.2.1 q.2.2.2), bd3_e (show fX1_markCells _ _ _ 1 = _ from x1_mark r.1 (m := 1) (rc_in r.1.1.1 q.2.2.1 q.2.2.2) (by omega)), bd3_s]
      rfl
    · exact rl_mark (rc_in r.1.1.1 q.2.2.1 q.2.2.2) r
    · exact ⟨fun _ => rfl, fun _ => rfl⟩
    · omega
    · rfl
    · show N 10 ≤ _; omega
    · show N 11 ≤ _; omega
  · refine ⟨N, 1, tr, be, tou, false, fac, dce, pm, sm, cel, ben, off, l1, l2, l3, l4, l5, lc, lt, lf, ?_, ?_, ?_, ?_, ?_, ?_, ?_, ?_⟩
    · unfold fX6_carriesOut
      rw [il_4, pk_mul, nm_s, gd_nI (by omega) (by omega), nI_clamp (by omega), nm_s, il_1, nI_add, nm_s, gd_nI (by omega) (by omega), nI_clamp (by omega), nm_s, il_2, nI_add, nm_s, gd_nI (by omega) (by omega), nI_clamp (by omega), nm_s, il_3, nI_add, nm_s, gd_nI (by omega) (by omega), nI_clamp (by omega), nm_s, gd_nI ha (by omega), nI_clamp (by omega), hv, tsw7 (by omega), tc_ne _ _ (by decide), tc_eq, t0, t1, t2, t3, bd5_e (x6_mark_no (x6_isrec_no r.1 (by rw [rcI_n b0 b1 b2 b3]; exact q)))]
      rfl
    · unfold fX5_carryOut
      rw [bd1_e (show fX0_number num 0 = _ from num_s (i := 0) (by omega)), bd1_e (show fX0_number num 1 = _ from num_s (i := 1) (by omega)), bd1_e (show fX0_number num 2 = _ from num_s (i := 2) (by omega)), bd1_e (show fX0_number num 3 = _ from num_s (i := 3) (by omega)), tsw8 (by omega), tc_ne _ _ (by decide), tc_eq, u0, u1, u2, u3]
      unfold fX5_carryOutMark
      rw [bd1_e (x1_holds_no h1 h2 (by rw [rcI_n b0 b1 b2 b3]; exact q)), if_neg (nn (show nI 0 = 0 from rfl)), bd3_s]
      rfl
    · exact r
    · exact ⟨fun z => absurd z (by decide), fun z => absurd z (by decide)⟩
    · omega
    · rfl
    · omega
    · omega
theorem cmd2 {F a0 st : Nat} {N S : Nat → Nat} {tr be tou vb td : Nat → Int32} {set fac : Nat → Int32} {dce : Nat → Int64} {pm sm : Nat} {cel : Nat → Int64} {ben off : Nat → Int32} {l1 l2 l3 l4 l5 : Int32} {lc lt lf num : Nat → Int32} {n0 n1 n2 n3 : Nat} (hF : 1000000 < F) (r : RelS N set fac dce pm sm cel ben off) (hg : N 10 + 1000 < 2 ^ 31) (hb : N 11 + 1000 < 2 ^ 31) (ha : a0 < 40) (hv : vb a0 = nI 2) (t0 : td (4 * a0) = nI n0) (u0 : num 0 = nI n0) (b0 : n0 < 1000) (t1 : td (4 * a0 + 1) = nI n1) (u1 : num 1 = nI n1) (b1 : n1 < 1000) (t2 : td (4 * a0 + 2) = nI n2) (u2 : num 2 = nI n2) (b2 : n2 < 1000) (t3 : td (4 * a0 + 3) = nI n3) (u3 : num 3 = nI n3) (b3 : n3 < 1000) : CmdOK F N S st tr be tou vb td a0 set fac dce pm sm cel ben off l1 l2 l3 l4 l5 lc lt lf num 2 := by
  have h1 := r.1.1.2.1
  have h2 := r.1.1.2.2.2.1
  by_cases q : 1 ≤ n2 ∧ 1 ≤ n3 ∧ n0 + n2 ≤ N 0 ∧ n1 + n3 ≤ N 1
  · refine ⟨mkN N (rcS (N 0) n0 n1 n2 n3) 2, 0, tr, be, tou, true, fac, dce, pm, sm, cel, ben, off, l1, l2, l3, l4, l5, lc, lt, lf, ?_, ?_, ?_, ?_, ?_, ?_, ?_, ?_⟩
    · unfold fX6_carriesOut
      rw [il_4, pk_mul, nm_s, gd_nI (by omega) (by omega), nI_clamp (by omega), nm_s, il_1, nI_add, nm_s, gd_nI (by omega) (by omega), nI_clamp (by omega), nm_s, il_2, nI_add, nm_s, gd_nI (by omega) (by omega), nI_clamp (by omega), nm_s, il_3, nI_add, nm_s, gd_nI (by omega) (by omega), nI_clamp (by omega), nm_s, gd_nI ha (by omega), nI_clamp (by omega), hv, tsw7 (by omega), tc_ne _ _ (by decide), tc_ne _ _ (by decide), tc_eq, t0, t1, t2, t3, bd5_e (show fX6_mark F (lA N) (lA S) (nI st) (nI 1) (nI n0) (nI n1) (nI n2) (nI n3) (nI 2) = _ from x6_mark (q := true) (m := 2) (F := F) (by omega) r.1 r.2.2.2.2 (by omega) q.1 q.2.1 q.2.2.1 q.2.2.2 (SV.quiet F N S st))]
      rfl
    · unfold fX5_carryOut
      rw [bd1_e (show fX0_number num 0 = _ from num_s (i := 0) (by omega)), bd1_e (show fX0_number num 1 = _ from num_s (i := 1) (by omega)), bd1_e (show fX0_number num 2 = _ from num_s (i := 2) (by omega)), bd1_e (show fX0_number num 3 = _ from num_s (i := 3) (by omega)), tsw8 (by omega), tc_ne _ _ (by decide), tc_ne _ _ (by decide), tc_eq, u0, u1, u2, u3]
      unfold fX5_carryOutMark
      rw [bd1_e (x1_holds_y h1 h2 q.1 q.2.1 q.2.2.1 q.2.2.2), if_pos (show ¬ nI 1 = 0 by decide +kernel), bd1_e (x1_rect (by omega) r.1.1.1 h1 h2 q.2.2.1 q.2.2.2), bd3_e (show fX1_markCells _ _ _ 2 = _ from x1_mark r.1 (m := 2) (rc_in r.1.1.1 q.2.2.1 q.2.2.2) (by omega)), bd3_s]
      rfl
    · exact rl_mark (rc_in r.1.1.1 q.2.2.1 q.2.2.2) r
    · exact ⟨fun _ => rfl, fun _ => rfl⟩
    · omega
    · rfl
    · show N 10 ≤ _; omega
    · show N 11 ≤ _; omega
  · refine ⟨N, 1, tr, be, tou, false, fac, dce, pm, sm, cel, ben, off, l1, l2, l3, l4, l5, lc, lt, lf, ?_, ?_, ?_, ?_, ?_, ?_, ?_, ?_⟩
    · unfold fX6_carriesOut
      rw [il_4, pk_mul, nm_s, gd_nI (by omega) (by omega), nI_clamp (by omega), nm_s, il_1, nI_add, nm_s, gd_nI (by omega) (by omega), nI_clamp (by omega), nm_s, il_2, nI_add, nm_s, gd_nI (by omega) (by omega), nI_clamp (by omega), nm_s, il_3, nI_add, nm_s, gd_nI (by omega) (by omega), nI_clamp (by omega), nm_s, gd_nI ha (by omega), nI_clamp (by omega), hv, tsw7 (by omega), tc_ne _ _ (by decide), tc_ne _ _ (by decide), tc_eq, t0, t1, t2, t3, bd5_e (x6_mark_no (x6_isrec_no r.1 (by rw [rcI_n b0 b1 b2 b3]; exact q)))]
      rfl
    · unfold fX5_carryOut
      rw [bd1_e (show fX0_number num 0 = _ from num_s (i := 0) (by omega)), bd1_e (show fX0_number num 1 = _ from num_s (i := 1) (by omega)), bd1_e (show fX0_number num 2 = _ from num_s (i := 2) (by omega)), bd1_e (show fX0_number num 3 = _ from num_s (i := 3) (by omega)), tsw8 (by omega), tc_ne _ _ (by decide), tc_ne _ _ (by decide), tc_eq, u0, u1, u2, u3]
      unfold fX5_carryOutMark
      rw [bd1_e (x1_holds_no h1 h2 (by rw [rcI_n b0 b1 b2 b3]; exact q)), if_neg (nn (show nI 0 = 0 from rfl)), bd3_s]
      rfl
    · exact r
    · exact ⟨fun z => absurd z (by decide), fun z => absurd z (by decide)⟩
    · omega
    · rfl
    · omega
    · omega
theorem ad_o {N : Nat → Nat} {k x y w g j : Nat} (h : j < 20) (h8 : j ≠ 8) : adN N k x y w g j = N j := by
  unfold adN
  rw [if_neg h8, if_neg (by omega), if_neg (by omega), if_neg (by omega), if_neg (by omega), if_neg (by omega), if_neg (by omega)]
theorem cmd3 {F a0 st : Nat} {N S : Nat → Nat} {tr be tou vb td : Nat → Int32} {set fac : Nat → Int32} {dce : Nat → Int64} {pm sm : Nat} {cel : Nat → Int64} {ben off : Nat → Int32} {l1 l2 l3 l4 l5 : Int32} {lc lt lf num : Nat → Int32} {n0 n1 n2 n3 : Nat} (hF : 1000000 < F) (r : RelS N set fac dce pm sm cel ben off) (hg : N 10 + 1000 < 2 ^ 31) (hb : N 11 + 1000 < 2 ^ 31) (ha : a0 < 40) (hv : vb a0 = nI 3) (t0 : td (4 * a0) = nI n0) (u0 : num 0 = nI n0) (b0 : n0 < 1000) (t1 : td (4 * a0 + 1) = nI n1) (u1 : num 1 = nI n1) (b1 : n1 < 1000) (t2 : td (4 * a0 + 2) = nI n2) (u2 : num 2 = nI n2) (b2 : n2 < 1000) (t3 : td (4 * a0 + 3) = nI n3) (u3 : num 3 = nI n3) (b3 : n3 < 1000) : CmdOK F N S st tr be tou vb td a0 set fac dce pm sm cel ben off l1 l2 l3 l4 l5 lc lt lf num 3 := by
  have h1 := r.1.1.2.1
  have h2 := r.1.1.2.2.2.1
  have h8 := r.1.2.2.2.1.1
  by_cases q : 1 ≤ n2 ∧ 1 ≤ n3 ∧ n0 + n2 ≤ N 0 ∧ n1 + n3 ≤ N 1
  · by_cases q6 : N 8 < 6
    · refine ⟨adN N 0 n0 n1 n2 n3, 0, tr, be, tou, true, adF fac (N 8) 0 n0 n1 n2 n3, vp_updL dce (N 8) (lN (rcS (N 0) n0 n1 n2 n3)), pm, sm, cel, ben, off, l1, l2, l3, l4, l5, lc, lt, lf, ?_, ?_, ?_, ?_, ?_, ?_, ?_, ?_⟩
      · unfold fX6_carriesOut
        rw [il_4, pk_mul, nm_s, gd_nI (by omega) (by omega), nI_clamp (by omega), nm_s, il_1, nI_add, nm_s, gd_nI (by omega) (by omega), nI_clamp (by omega), nm_s, il_2, nI_add, nm_s, gd_nI (by omega) (by omega), nI_clamp (by omega), nm_s, il_3, nI_add, nm_s, gd_nI (by omega) (by omega), nI_clamp (by omega), nm_s, gd_nI ha (by omega), nI_clamp (by omega), hv, tsw7 (by omega), tc_ne _ _ (by decide), tc_ne _ _ (by decide), tc_ne _ _ (by decide), tc_eq, t0, t1, t2, t3]
        have e : fX6_addPunch F (lA N) (lA S) (nI st) (nI 1) (nI n0) (nI n1) (nI n2) (nI n3) = some (nI (N 8), lA (adN N 0 n0 n1 n2 n3), lA S, nI st, 0) := by
          unfold fX6_addPunch
          rw [bd5_e (show fX6_adds F (lA N) (lA S) (nI st) (nI 1) 0 0 (nI n0) (nI n1) (nI n2) (nI n3) = _ from x6_adds (q := true) (k := 0) (g := n3) r.1 q6 (by omega) q.1 q.2.1 q.2.2.1 q.2.2.2 (SV.quiet F N S st))]
        rw [bd5_e e]
        rfl
      · unfold fX5_carryOut
        rw [bd1_e (show fX0_number num 0 = _ from num_s (i := 0) (by omega)), bd1_e (show fX0_number num 1 = _ from num_s (i := 1) (by omega)), bd1_e (show fX0_number num 2 = _ from num_s (i := 2) (by omega)), bd1_e (show fX0_number num 3 = _ from num_s (i := 3) (by omega)), tsw8 (by omega), tc_ne _ _ (by decide), tc_ne _ _ (by decide), tc_ne _ _ (by decide), tc_eq, u0, u1, u2, u3]
        unfold fX5_carryOutAdd
        rw [bd1_e (show fX1_holds (nI (N 0)) (nI (N 1)) (nI n0) (nI n1) (nI n2) (nI n3) = _ from x1_holds_y (g := n3) h1 h2 q.1 q.2.1 q.2.2.1 q.2.2.2), if_neg (show ¬ nI 1 = 0 by decide +kernel), bd1_e (x1_full h8), decide_eq_false (by omega), if_pos (show bI false = 0 from rfl), bd4_e (show fX1_append F (nI (N 0)) (nI (N 1)) (nI (N 8)) fac dce 0 (nI n0) (nI n1) (nI n2) (nI n3) = _ from x1_append (k := 0) (g := n3) (by omega) r.1 q6 (by omega) q.2.2.1 q.2.2.2), bd4_s]
        rw [ad_o (j := 0) (by omega) (by omega), ad_o (j := 1) (by omega) (by omega), ad_o (j := 9) (by omega) (by omega), ad_o (j := 10) (by omega) (by omega), ad_o (j := 11) (by omega) (by omega), ad_o (j := 12) (by omega) (by omega), ad_o (j := 13) (by omega) (by omega), ad_o (j := 14) (by omega) (by omega), ad_o (j := 15) (by omega) (by omega)]
        rfl
      · exact rl_adds q6 (by omega) q.1 q.2.1 q.2.2.1 q.2.2.2 r
      · exact ⟨fun _ => rfl, fun _ => rfl⟩
      · omega
      · exact ad_o (by omega) (by omega)
      · rw [ad_o (by omega) (by omega)]; omega
      · rw [ad_o (by omega) (by omega)]; omega
    · refine ⟨N, 2, tr, be, tou, false, fac, dce, pm, sm, cel, ben, off, l1, l2, l3, l4, l5, lc, lt, lf, ?_, ?_, ?_, ?_, ?_, ?_, ?_, ?_⟩
      · unfold fX6_carriesOut
        rw [il_4, pk_mul, nm_s, gd_nI (by omega) (by omega), nI_clamp (by omega), nm_s, il_1, nI_add, nm_s, gd_nI (by omega) (by omega), nI_clamp (by omega), nm_s, il_2, nI_add, nm_s, gd_nI (by omega) (by omega), nI_clamp (by omega), nm_s, il_3, nI_add, nm_s, gd_nI (by omega) (by omega), nI_clamp (by omega), nm_s, gd_nI ha (by omega), nI_clamp (by omega), hv, tsw7 (by omega), tc_ne _ _ (by decide), tc_ne _ _ (by decide), tc_ne _ _ (by decide), tc_eq, t0, t1, t2, t3]
        have e : fX6_addPunch F (lA N) (lA S) (nI st) (nI 1) (nI n0) (nI n1) (nI n2) (nI n3) = some (0, lA N, lA S, nI st, 2) := by
          unfold fX6_addPunch
          rw [bd5_e (x6_adds_no2 (show fX6_isRectangle (lA N) (nI n0) (nI n1) (nI n2) (nI n3) = _ from x6_isrec_y (g := n3) r.1 q.1 q.2.1 q.2.2.1 q.2.2.2) (by omega))]
        rw [bd5_e e]
        rfl
      · unfold fX5_carryOut
        rw [bd1_e (show fX0_number num 0 = _ from num_s (i := 0) (by omega)), bd1_e (show fX0_number num 1 = _ from num_s (i := 1) (by omega)), bd1_e (show fX0_number num 2 = _ from num_s (i := 2) (by omega)), bd1_e (show fX0_number num 3 = _ from num_s (i := 3) (by omega)), tsw8 (by omega), tc_ne _ _ (by decide), tc_ne _ _ (by decide), tc_ne _ _ (by decide), tc_eq, u0, u1, u2, u3]
        unfold fX5_carryOutAdd
        rw [bd1_e (show fX1_holds (nI (N 0)) (nI (N 1)) (nI n0) (nI n1) (nI n2) (nI n3) = _ from x1_holds_y (g := n3) h1 h2 q.1 q.2.1 q.2.2.1 q.2.2.2), if_neg (show ¬ nI 1 = 0 by decide +kernel), bd1_e (x1_full h8), decide_eq_true (by omega), if_neg (show ¬ bI true = 0 by decide +kernel), bd4_s]
        rfl
      · exact r
      · exact ⟨fun z => absurd z (by decide), fun z => absurd z (by decide)⟩
      · omega
      · rfl
      · omega
      · omega
  · refine ⟨N, 1, tr, be, tou, false, fac, dce, pm, sm, cel, ben, off, l1, l2, l3, l4, l5, lc, lt, lf, ?_, ?_, ?_, ?_, ?_, ?_, ?_, ?_⟩
    · unfold fX6_carriesOut
      rw [il_4, pk_mul, nm_s, gd_nI (by omega) (by omega), nI_clamp (by omega), nm_s, il_1, nI_add, nm_s, gd_nI (by omega) (by omega), nI_clamp (by omega), nm_s, il_2, nI_add, nm_s, gd_nI (by omega) (by omega), nI_clamp (by omega), nm_s, il_3, nI_add, nm_s, gd_nI (by omega) (by omega), nI_clamp (by omega), nm_s, gd_nI ha (by omega), nI_clamp (by omega), hv, tsw7 (by omega), tc_ne _ _ (by decide), tc_ne _ _ (by decide), tc_ne _ _ (by decide), tc_eq, t0, t1, t2, t3]
      have e : fX6_addPunch F (lA N) (lA S) (nI st) (nI 1) (nI n0) (nI n1) (nI n2) (nI n3) = some (0, lA N, lA S, nI st, 1) := by
        unfold fX6_addPunch
        rw [bd5_e (x6_adds_no (show fX6_isRectangle (lA N) (nI n0) (nI n1) (nI n2) (nI n3) = _ from x6_isrec_no (g := nI n3) r.1 (by rw [rcI_n b0 b1 b2 b3]; exact q)))]
      rw [bd5_e e]
      rfl
    · unfold fX5_carryOut
      rw [bd1_e (show fX0_number num 0 = _ from num_s (i := 0) (by omega)), bd1_e (show fX0_number num 1 = _ from num_s (i := 1) (by omega)), bd1_e (show fX0_number num 2 = _ from num_s (i := 2) (by omega)), bd1_e (show fX0_number num 3 = _ from num_s (i := 3) (by omega)), tsw8 (by omega), tc_ne _ _ (by decide), tc_ne _ _ (by decide), tc_ne _ _ (by decide), tc_eq, u0, u1, u2, u3]
      unfold fX5_carryOutAdd
      rw [bd1_e (show fX1_holds (nI (N 0)) (nI (N 1)) (nI n0) (nI n1) (nI n2) (nI n3) = _ from x1_holds_no (g := nI n3) h1 h2 (by rw [rcI_n b0 b1 b2 b3]; exact q)), if_pos (show nI 0 = 0 from rfl), bd4_s]
      rfl
    · exact r
    · exact ⟨fun z => absurd z (by decide), fun z => absurd z (by decide)⟩
    · omega
    · rfl
    · omega
    · omega
theorem cmd4 {F a0 st : Nat} {N S : Nat → Nat} {tr be tou vb td : Nat → Int32} {set fac : Nat → Int32} {dce : Nat → Int64} {pm sm : Nat} {cel : Nat → Int64} {ben off : Nat → Int32} {l1 l2 l3 l4 l5 : Int32} {lc lt lf num : Nat → Int32} {n0 n1 n2 : Nat} (hF : 1000000 < F) (r : RelS N set fac dce pm sm cel ben off) (hg : N 10 + 1000 < 2 ^ 31) (hb : N 11 + 1000 < 2 ^ 31) (ha : a0 < 40) (hv : vb a0 = nI 4) (t0 : td (4 * a0) = nI n0) (u0 : num 0 = nI n0) (b0 : n0 < 1000) (t1 : td (4 * a0 + 1) = nI n1) (u1 : num 1 = nI n1) (b1 : n1 < 1000) (t2 : td (4 * a0 + 2) = nI n2) (u2 : num 2 = nI n2) (b2 : n2 < 1000) : CmdOK F N S st tr be tou vb td a0 set fac dce pm sm cel ben off l1 l2 l3 l4 l5 lc lt lf num 4 := by
  have h1 := r.1.1.2.1
  have h2 := r.1.1.2.2.2.1
  have h8 := r.1.2.2.2.1.1
  by_cases q : 1 ≤ n2 ∧ 1 ≤ 1 ∧ n0 + n2 ≤ N 0 ∧ n1 + 1 ≤ N 1
  · by_cases q6 : N 8 < 6
    · refine ⟨adN N 1 n0 n1 n2 1, 0, tr, be, tou, true, adF fac (N 8) 1 n0 n1 n2 1, vp_updL dce (N 8) (lN (rcS (N 0) n0 n1 n2 1)), pm, sm, cel, ben, off, l1, l2, l3, l4, l5, lc, lt, lf, ?_, ?_, ?_, ?_, ?_, ?_, ?_, ?_⟩
      · unfold fX6_carriesOut
        rw [il_4, pk_mul, nm_s, gd_nI (by omega) (by omega), nI_clamp (by omega), nm_s, il_1, nI_add, nm_s, gd_nI (by omega) (by omega), nI_clamp (by omega), nm_s, il_2, nI_add, nm_s, gd_nI (by omega) (by omega), nI_clamp (by omega), nm_s, il_3, nI_add, nm_s, gd_nI (by omega) (by omega), nI_clamp (by omega), nm_s, gd_nI ha (by omega), nI_clamp (by omega), hv, tsw7 (by omega), tc_ne _ _ (by decide), tc_ne _ _ (by decide), tc_ne _ _ (by decide), tc_ne _ _ (by decide), tc_eq, t0, t1, t2]
        have e : fX6_addBend F (lA N) (lA S) (nI st) (nI 1) (nI n0) (nI n1) (nI n2) = some (nI (N 8), lA (adN N 1 n0 n1 n2 1), lA S, nI st, 0) := by
          unfold fX6_addBend
          rw [bd5_e (show fX6_adds F (lA N) (lA S) (nI st) (nI 1) 0 1 (nI n0) (nI n1) (nI n2) 1 = _ from x6_adds (q := true) (k := 1) (g := 1) r.1 q6 (by omega) q.1 q.2.1 q.2.2.1 q.2.2.2 (SV.quiet F N S st))]
        rw [bd5_e e]
        rfl
      · unfold fX5_carryOut
        rw [bd1_e (show fX0_number num 0 = _ from num_s (i := 0) (by omega)), bd1_e (show fX0_number num 1 = _ from num_s (i := 1) (by omega)), bd1_e (show fX0_number num 2 = _ from num_s (i := 2) (by omega)), bd1_e (show fX0_number num 3 = _ from num_s (i := 3) (by omega)), tsw8 (by omega), tc_ne _ _ (by decide), tc_ne _ _ (by decide), tc_ne _ _ (by decide), tc_ne _ _ (by decide), tc_eq, u0, u1, u2]
        unfold fX5_carryOutAdd
        rw [bd1_e (show fX1_holds (nI (N 0)) (nI (N 1)) (nI n0) (nI n1) (nI n2) 1 = _ from x1_holds_y (g := 1) h1 h2 q.1 q.2.1 q.2.2.1 q.2.2.2), if_neg (show ¬ nI 1 = 0 by decide +kernel), bd1_e (x1_full h8), decide_eq_false (by omega), if_pos (show bI false = 0 from rfl), bd4_e (show fX1_append F (nI (N 0)) (nI (N 1)) (nI (N 8)) fac dce 1 (nI n0) (nI n1) (nI n2) 1 = _ from x1_append (k := 1) (g := 1) (by omega) r.1 q6 (by omega) q.2.2.1 q.2.2.2), bd4_s]
        rw [ad_o (j := 0) (by omega) (by omega), ad_o (j := 1) (by omega) (by omega), ad_o (j := 9) (by omega) (by omega), ad_o (j := 10) (by omega) (by omega), ad_o (j := 11) (by omega) (by omega), ad_o (j := 12) (by omega) (by omega), ad_o (j := 13) (by omega) (by omega), ad_o (j := 14) (by omega) (by omega), ad_o (j := 15) (by omega) (by omega)]
        rfl
      · exact rl_adds q6 (by omega) q.1 q.2.1 q.2.2.1 q.2.2.2 r
      · exact ⟨fun _ => rfl, fun _ => rfl⟩
      · omega
      · exact ad_o (by omega) (by omega)
      · rw [ad_o (by omega) (by omega)]; omega
      · rw [ad_o (by omega) (by omega)]; omega
    · refine ⟨N, 2, tr, be, tou, false, fac, dce, pm, sm, cel, ben, off, l1, l2, l3, l4, l5, lc, lt, lf, ?_, ?_, ?_, ?_, ?_, ?_, ?_, ?_⟩
      · unfold fX6_carriesOut
        rw [il_4, pk_mul, nm_s, gd_nI (by omega) (by omega), nI_clamp (by omega), nm_s, il_1, nI_add, nm_s, gd_nI (by omega) (by omega), nI_clamp (by omega), nm_s, il_2, nI_add, nm_s, gd_nI (by omega) (by omega), nI_clamp (by omega), nm_s, il_3, nI_add, nm_s, gd_nI (by omega) (by omega), nI_clamp (by omega), nm_s, gd_nI ha (by omega), nI_clamp (by omega), hv, tsw7 (by omega), tc_ne _ _ (by decide), tc_ne _ _ (by decide), tc_ne _ _ (by decide), tc_ne _ _ (by decide), tc_eq, t0, t1, t2]
        have e : fX6_addBend F (lA N) (lA S) (nI st) (nI 1) (nI n0) (nI n1) (nI n2) = some (0, lA N, lA S, nI st, 2) := by
          unfold fX6_addBend
          rw [bd5_e (x6_adds_no2 (show fX6_isRectangle (lA N) (nI n0) (nI n1) (nI n2) 1 = _ from x6_isrec_y (g := 1) r.1 q.1 q.2.1 q.2.2.1 q.2.2.2) (by omega))]
        rw [bd5_e e]
        rfl
      · unfold fX5_carryOut
        rw [bd1_e (show fX0_number num 0 = _ from num_s (i := 0) (by omega)), bd1_e (show fX0_number num 1 = _ from num_s (i := 1) (by omega)), bd1_e (show fX0_number num 2 = _ from num_s (i := 2) (by omega)), bd1_e (show fX0_number num 3 = _ from num_s (i := 3) (by omega)), tsw8 (by omega), tc_ne _ _ (by decide), tc_ne _ _ (by decide), tc_ne _ _ (by decide), tc_ne _ _ (by decide), tc_eq, u0, u1, u2]
        unfold fX5_carryOutAdd
        rw [bd1_e (show fX1_holds (nI (N 0)) (nI (N 1)) (nI n0) (nI n1) (nI n2) 1 = _ from x1_holds_y (g := 1) h1 h2 q.1 q.2.1 q.2.2.1 q.2.2.2), if_neg (show ¬ nI 1 = 0 by decide +kernel), bd1_e (x1_full h8), decide_eq_true (by omega), if_neg (show ¬ bI true = 0 by decide +kernel), bd4_s]
        rfl
      · exact r
      · exact ⟨fun z => absurd z (by decide), fun z => absurd z (by decide)⟩
      · omega
      · rfl
      · omega
      · omega
  · refine ⟨N, 1, tr, be, tou, false, fac, dce, pm, sm, cel, ben, off, l1, l2, l3, l4, l5, lc, lt, lf, ?_, ?_, ?_, ?_, ?_, ?_, ?_, ?_⟩
    · unfold fX6_carriesOut
      rw [il_4, pk_mul, nm_s, gd_nI (by omega) (by omega), nI_clamp (by omega), nm_s, il_1, nI_add, nm_s, gd_nI (by omega) (by omega), nI_clamp (by omega), nm_s, il_2, nI_add, nm_s, gd_nI (by omega) (by omega), nI_clamp (by omega), nm_s, il_3, nI_add, nm_s, gd_nI (by omega) (by omega), nI_clamp (by omega), nm_s, gd_nI ha (by omega), nI_clamp (by omega), hv, tsw7 (by omega), tc_ne _ _ (by decide), tc_ne _ _ (by decide), tc_ne _ _ (by decide), tc_ne _ _ (by decide), tc_eq, t0, t1, t2]
      have e : fX6_addBend F (lA N) (lA S) (nI st) (nI 1) (nI n0) (nI n1) (nI n2) = some (0, lA N, lA S, nI st, 1) := by
        unfold fX6_addBend
        rw [bd5_e (x6_adds_no (show fX6_isRectangle (lA N) (nI n0) (nI n1) (nI n2) 1 = _ from x6_isrec_no (g := nI 1) r.1 (by rw [rcI_n b0 b1 b2 (by omega)]; exact q)))]
      rw [bd5_e e]
      rfl
    · unfold fX5_carryOut
      rw [bd1_e (show fX0_number num 0 = _ from num_s (i := 0) (by omega)), bd1_e (show fX0_number num 1 = _ from num_s (i := 1) (by omega)), bd1_e (show fX0_number num 2 = _ from num_s (i := 2) (by omega)), bd1_e (show fX0_number num 3 = _ from num_s (i := 3) (by omega)), tsw8 (by omega), tc_ne _ _ (by decide), tc_ne _ _ (by decide), tc_ne _ _ (by decide), tc_ne _ _ (by decide), tc_eq, u0, u1, u2]
      unfold fX5_carryOutAdd
      rw [bd1_e (show fX1_holds (nI (N 0)) (nI (N 1)) (nI n0) (nI n1) (nI n2) 1 = _ from x1_holds_no (g := nI 1) h1 h2 (by rw [rcI_n b0 b1 b2 (by omega)]; exact q)), if_pos (show nI 0 = 0 from rfl), bd4_s]
      rfl
    · exact r
    · exact ⟨fun z => absurd z (by decide), fun z => absurd z (by decide)⟩
    · omega
    · rfl
    · omega
    · omega
theorem cmd5 {F a0 st : Nat} {N S : Nat → Nat} {tr be tou vb td : Nat → Int32} {set fac : Nat → Int32} {dce : Nat → Int64} {pm sm : Nat} {cel : Nat → Int64} {ben off : Nat → Int32} {l1 l2 l3 l4 l5 : Int32} {lc lt lf num : Nat → Int32} {n0 n1 : Nat} (hF : 1000000 < F) (r : RelS N set fac dce pm sm cel ben off) (hg : N 10 + 1000 < 2 ^ 31) (hb : N 11 + 1000 < 2 ^ 31) (ha : a0 < 40) (hv : vb a0 = nI 5) (t0 : td (4 * a0) = nI n0) (u0 : num 0 = nI n0) (b0 : n0 < 1000) (t1 : td (4 * a0 + 1) = nI n1) (u1 : num 1 = nI n1) (b1 : n1 < 1000) : CmdOK F N S st tr be tou vb td a0 set fac dce pm sm cel ben off l1 l2 l3 l4 l5 lc lt lf num 5 := by
  have h8 := r.1.2.2.2.1.1
  have ti0 := nI_toInt (n := n0) (by omega)
  have ti1 := nI_toInt (n := n1) (by omega)
  by_cases q : n0 < N 8
  · by_cases q2 : n1 ≤ 7
    · refine ⟨upN N (20 + 6 * n0 + 5) (stV (n1 + 1)), 0, tr, be, tou, true, upd fac (7 * n0 + 6) (eN (n1 + 1)), dce, pm, sm, cel, ben, off, l1, l2, l3, l4, l5, lc, lt, lf, ?_, ?_, ?_, ?_, ?_, ?_, ?_, ?_⟩
      · unfold fX6_carriesOut
        rw [il_4, pk_mul, nm_s, gd_nI (by omega) (by omega), nI_clamp (by omega), nm_s, il_1, nI_add, nm_s, gd_nI (by omega) (by omega), nI_clamp (by omega), nm_s, il_2, nI_add, nm_s, gd_nI (by omega) (by omega), nI_clamp (by omega), nm_s, il_3, nI_add, nm_s, gd_nI (by omega) (by omega), nI_clamp (by omega), nm_s, gd_nI ha (by omega), nI_clamp (by omega), hv, tsw7 (by omega), tc_ne _ _ (by decide), tc_ne _ _ (by decide), tc_ne _ _ (by decide), tc_ne _ _ (by decide), tc_ne _ _ (by decide), tc_eq, t0, t1, eN_s n1, bd5_e (show fX6_setStation F (lA N) (lA S) (nI st) (nI 1) (nI n0) (eN (n1 + 1)) = _ from x6_setst (q := true) r.1 q (by omega) (SV.quiet F N S st))]
        rfl
      · unfold fX5_carryOut
        rw [bd1_e (show fX0_number num 0 = _ from num_s (i := 0) (by omega)), bd1_e (show fX0_number num 1 = _ from num_s (i := 1) (by omega)), bd1_e (show fX0_number num 2 = _ from num_s (i := 2) (by omega)), bd1_e (show fX0_number num 3 = _ from num_s (i := 3) (by omega)), tsw8 (by omega), tc_ne _ _ (by decide), tc_ne _ _ (by decide), tc_ne _ _ (by decide), tc_ne _ _ (by decide), tc_ne _ _ (by decide), tc_eq, u0, u1]
        unfold fX5_carryOutPlace
        rw [bd1_e (x1_hasop h8), ti0, decide_eq_true (by omega), if_neg (show ¬ bI true = 0 by decide +kernel), bd1_e x5_stat, ti1, decide_eq_true (by omega), if_pos (show ¬ bI true = 0 by decide +kernel), bd1_e (show fX1_changeFact fac (nI n0) 6 (nI n1) = _ from fac_at (j := 6) (by omega)), bd2_s, eN_s n1]
        rw [upN_n (by omega), upN_n (by omega), upN_n (by omega), upN_n (by omega), upN_n (by omega), upN_n (by omega), upN_n (by omega), upN_n (by omega), upN_n (by omega), upN_n (by omega)]
        rfl
      · exact rl_setst q (by omega) r
      · exact ⟨fun _ => rfl, fun _ => rfl⟩
      · omega
      · exact upN_n (by omega)
      · rw [upN_n (by omega)]; omega
      · rw [upN_n (by omega)]; omega
    · refine ⟨N, 2, tr, be, tou, false, fac, dce, pm, sm, cel, ben, off, l1, l2, l3, l4, l5, lc, lt, lf, ?_, ?_, ?_, ?_, ?_, ?_, ?_, ?_⟩
      · unfold fX6_carriesOut
        rw [il_4, pk_mul, nm_s, gd_nI (by omega) (by omega), nI_clamp (by omega), nm_s, il_1, nI_add, nm_s, gd_nI (by omega) (by omega), nI_clamp (by omega), nm_s, il_2, nI_add, nm_s, gd_nI (by omega) (by omega), nI_clamp (by omega), nm_s, il_3, nI_add, nm_s, gd_nI (by omega) (by omega), nI_clamp (by omega), nm_s, gd_nI ha (by omega), nI_clamp (by omega), hv, tsw7 (by omega), tc_ne _ _ (by decide), tc_ne _ _ (by decide), tc_ne _ _ (by decide), tc_ne _ _ (by decide), tc_ne _ _ (by decide), tc_eq, t0, t1, bd5_e (x6_setst_no2 h8 q (by rw [ti1]; omega))]
        rfl
      · unfold fX5_carryOut
        rw [bd1_e (show fX0_number num 0 = _ from num_s (i := 0) (by omega)), bd1_e (show fX0_number num 1 = _ from num_s (i := 1) (by omega)), bd1_e (show fX0_number num 2 = _ from num_s (i := 2) (by omega)), bd1_e (show fX0_number num 3 = _ from num_s (i := 3) (by omega)), tsw8 (by omega), tc_ne _ _ (by decide), tc_ne _ _ (by decide), tc_ne _ _ (by decide), tc_ne _ _ (by decide), tc_ne _ _ (by decide), tc_eq, u0, u1]
        unfold fX5_carryOutPlace
        rw [bd1_e (x1_hasop h8), ti0, decide_eq_true (by omega), if_neg (show ¬ bI true = 0 by decide +kernel), bd1_e x5_stat, ti1, decide_eq_false (by omega), if_neg (nn (show bI false = 0 from rfl)), bd2_s]
        rfl
      · exact r
      · exact ⟨fun z => absurd z (by decide), fun z => absurd z (by decide)⟩
      · omega
      · rfl
      · omega
      · omega
  · refine ⟨N, 1, tr, be, tou, false, fac, dce, pm, sm, cel, ben, off, l1, l2, l3, l4, l5, lc, lt, lf, ?_, ?_, ?_, ?_, ?_, ?_, ?_, ?_⟩
    · unfold fX6_carriesOut
      rw [il_4, pk_mul, nm_s, gd_nI (by omega) (by omega), nI_clamp (by omega), nm_s, il_1, nI_add, nm_s, gd_nI (by omega) (by omega), nI_clamp (by omega), nm_s, il_2, nI_add, nm_s, gd_nI (by omega) (by omega), nI_clamp (by omega), nm_s, il_3, nI_add, nm_s, gd_nI (by omega) (by omega), nI_clamp (by omega), nm_s, gd_nI ha (by omega), nI_clamp (by omega), hv, tsw7 (by omega), tc_ne _ _ (by decide), tc_ne _ _ (by decide), tc_ne _ _ (by decide), tc_ne _ _ (by decide), tc_ne _ _ (by decide), tc_eq, t0, t1, bd5_e (x6_setst_no h8 (by rw [ti0]; omega))]
      rfl
    · unfold fX5_carryOut
      rw [bd1_e (show fX0_number num 0 = _ from num_s (i := 0) (by omega)), bd1_e (show fX0_number num 1 = _ from num_s (i := 1) (by omega)), bd1_e (show fX0_number num 2 = _ from num_s (i := 2) (by omega)), bd1_e (show fX0_number num 3 = _ from num_s (i := 3) (by omega)), tsw8 (by omega), tc_ne _ _ (by decide), tc_ne _ _ (by decide), tc_ne _ _ (by decide), tc_ne _ _ (by decide), tc_ne _ _ (by decide), tc_eq, u0, u1]
      unfold fX5_carryOutPlace
      rw [bd1_e (x1_hasop h8), ti0, decide_eq_false (by omega), if_pos (show bI false = 0 from rfl), bd2_s]
      rfl
    · exact r
    · exact ⟨fun z => absurd z (by decide), fun z => absurd z (by decide)⟩
    · omega
    · rfl
    · omega
    · omega
theorem us_o {N c : Nat → Nat} {j : Nat} (h : j < 20) : usN N c j = N j := by
  unfold usN
  rw [if_neg (by omega)]
theorem cmd6 {F a0 st : Nat} {N S : Nat → Nat} {tr be tou vb td : Nat → Int32} {set fac : Nat → Int32} {dce : Nat → Int64} {pm sm : Nat} {cel : Nat → Int64} {ben off : Nat → Int32} {l1 l2 l3 l4 l5 : Int32} {lc lt lf num : Nat → Int32} (hF : 1000000 < F) (r : RelS N set fac dce pm sm cel ben off) (hg : N 10 + 1000 < 2 ^ 31) (hb : N 11 + 1000 < 2 ^ 31) (ha : a0 < 40) (hv : vb a0 = nI 6) : CmdOK F N S st tr be tou vb td a0 set fac dce pm sm cel ben off l1 l2 l3 l4 l5 lc lt lf num 6 := by
  have h8 := r.1.2.2.2.1.1
  obtain ⟨rr, w1, w2, w3, w4, w5, ch', w7, w8, e5, p5⟩ := x2_best (F := F) (ch := lc) (tou := lt) (frc := lf) hF r.1 r.2.2.1
  obtain ⟨r6, tr', be', tou', p6, alt⟩ := x6_use (F := F) (q := true) (tr := tr) (be := be) (tou := tou) hF r.1 (SV.quiet F N S st)
  obtain ⟨er, ec⟩ := PlanRes.one p5 p6
  rcases alt with ⟨z, e6⟩ | ⟨z, c, hc, e6⟩
  · refine ⟨N, 1, tr', be', tou', false, fac, dce, pm, sm, cel, ben, off, w1, w2, w3, w4, w5, ch', w7, w8, ?_, ?_, ?_, ?_, ?_, ?_, ?_, ?_⟩
    · unfold fX6_carriesOut
      rw [il_4, pk_mul, nm_s, gd_nI (by omega) (by omega), nI_clamp (by omega), nm_s, il_1, nI_add, nm_s, gd_nI (by omega) (by omega), nI_clamp (by omega), nm_s, il_2, nI_add, nm_s, gd_nI (by omega) (by omega), nI_clamp (by omega), nm_s, il_3, nI_add, nm_s, gd_nI (by omega) (by omega), nI_clamp (by omega), nm_s, gd_nI ha (by omega), nI_clamp (by omega), hv, tsw7 (by omega), tc_ne _ _ (by decide), tc_ne _ _ (by decide), tc_ne _ _ (by decide), tc_ne _ _ (by decide), tc_ne _ _ (by decide), tc_ne _ _ (by decide), tc_eq, bd8_e (show fX6_usePlan F (lA N) (lA S) (nI st) (nI 1) tr be tou = _ from e6)]
      rfl
    · unfold fX5_carryOut
      rw [bd1_e (show fX0_number num 0 = _ from num_s (i := 0) (by omega)), bd1_e (show fX0_number num 1 = _ from num_s (i := 1) (by omega)), bd1_e (show fX0_number num 2 = _ from num_s (i := 2) (by omega)), bd1_e (show fX0_number num 3 = _ from num_s (i := 3) (by omega)), tsw8 (by omega), tc_ne _ _ (by decide), tc_ne _ _ (by decide), tc_ne _ _ (by decide), tc_ne _ _ (by decide), tc_ne _ _ (by decide), tc_ne _ _ (by decide), tc_eq, bd9_e e5]
      unfold fX5_carryOutPlan
      rw [if_neg (nn (show rr = -1 by rw [er, z, eN_0])), bd2_s]
      rfl
    · exact r
    · exact ⟨fun z => absurd z (by decide), fun z => absurd z (by decide)⟩
    · omega
    · rfl
    · omega
    · omega
  · refine ⟨usN N c, 0, tr', be', tou', true, puF fac ch' (N 8), dce, pm, sm, cel, ben, off, w1, w2, w3, w4, w5, ch', w7, w8, ?_, ?_, ?_, ?_, ?_, ?_, ?_, ?_⟩
    · unfold fX6_carriesOut
      rw [il_4, pk_mul, nm_s, gd_nI (by omega) (by omega), nI_clamp (by omega), nm_s, il_1, nI_add, nm_s, gd_nI (by omega) (by omega), nI_clamp (by omega), nm_s, il_2, nI_add, nm_s, gd_nI (by omega) (by omega), nI_clamp (by omega), nm_s, il_3, nI_add, nm_s, gd_nI (by omega) (by omega), nI_clamp (by omega), nm_s, gd_nI ha (by omega), nI_clamp (by omega), hv, tsw7 (by omega), tc_ne _ _ (by decide), tc_ne _ _ (by decide), tc_ne _ _ (by decide), tc_ne _ _ (by decide), tc_ne _ _ (by decide), tc_ne _ _ (by decide), tc_eq, bd8_e (show fX6_usePlan F (lA N) (lA S) (nI st) (nI 1) tr be tou = _ from e6)]
      rfl
    · unfold fX5_carryOut
      rw [bd1_e (show fX0_number num 0 = _ from num_s (i := 0) (by omega)), bd1_e (show fX0_number num 1 = _ from num_s (i := 1) (by omega)), bd1_e (show fX0_number num 2 = _ from num_s (i := 2) (by omega)), bd1_e (show fX0_number num 3 = _ from num_s (i := 3) (by omega)), tsw8 (by omega), tc_ne _ _ (by decide), tc_ne _ _ (by decide), tc_ne _ _ (by decide), tc_ne _ _ (by decide), tc_ne _ _ (by decide), tc_ne _ _ (by decide), tc_eq, bd9_e e5]
      unfold fX5_carryOutPlan
      rw [if_pos (show ¬ rr = -1 by rw [er, eN_0]; exact z), bd1_e (x2_put (by omega) h8), bd2_s]
      rw [us_o (by omega), us_o (by omega), us_o (by omega), us_o (by omega), us_o (by omega), us_o (by omega), us_o (by omega), us_o (by omega), us_o (by omega), us_o (by omega)]
      rfl
    · exact rl_use (fun j hj => by rw [ec (by rw [er]; exact z) j hj]; exact hc j hj) r
    · exact ⟨fun _ => rfl, fun _ => rfl⟩
    · omega
    · exact us_o (by omega)
    · rw [us_o (by omega)]; omega
    · rw [us_o (by omega)]; omega
theorem cmd7 {F a0 st : Nat} {N S : Nat → Nat} {tr be tou vb td : Nat → Int32} {set fac : Nat → Int32} {dce : Nat → Int64} {pm sm : Nat} {cel : Nat → Int64} {ben off : Nat → Int32} {l1 l2 l3 l4 l5 : Int32} {lc lt lf num : Nat → Int32} {n0 : Nat} (hF : 1000000 < F) (r : RelS N set fac dce pm sm cel ben off) (hg : N 10 + 1000 < 2 ^ 31) (hb : N 11 + 1000 < 2 ^ 31) (ha : a0 < 40) (hv : vb a0 = nI 7) (t0 : td (4 * a0) = nI n0) (u0 : num 0 = nI n0) (b0 : n0 < 1000) : CmdOK F N S st tr be tou vb td a0 set fac dce pm sm cel ben off l1 l2 l3 l4 l5 lc lt lf num 7 := by
  have ti0 := nI_toInt (n := n0) (by omega)
  by_cases q : n0 < 8
  · refine ⟨upN N 13 (piS N n0 true), 0, tr, be, tou, true, fac, dce, pm, sm, cel, ben, off, l1, l2, l3, l4, l5, lc, lt, lf, ?_, ?_, ?_, ?_, ?_, ?_, ?_, ?_⟩
    · unfold fX6_carriesOut
      rw [il_4, pk_mul, nm_s, gd_nI (by omega) (by omega), nI_clamp (by omega), nm_s, il_1, nI_add, nm_s, gd_nI (by omega) (by omega), nI_clamp (by omega), nm_s, il_2, nI_add, nm_s, gd_nI (by omega) (by omega), nI_clamp (by omega), nm_s, il_3, nI_add, nm_s, gd_nI (by omega) (by omega), nI_clamp (by omega), nm_s, gd_nI ha (by omega), nI_clamp (by omega), hv, tsw7 (by omega), tc_ne _ _ (by decide), tc_ne _ _ (by decide), tc_ne _ _ (by decide), tc_ne _ _ (by decide), tc_ne _ _ (by decide), tc_ne _ _ (by decide), tc_ne _ _ (by decide), tc_eq, t0, bd5_e (show fX6_setPilot F (lA N) (lA S) (nI st) (nI 1) (nI n0) (nI 1) = _ from x6_setpil (q := true) (b := true) (by omega) r.1 q (SV.quiet F N S st))]
      rfl
    · unfold fX5_carryOut
      rw [bd1_e (show fX0_number num 0 = _ from num_s (i := 0) (by omega)), bd1_e (show fX0_number num 1 = _ from num_s (i := 1) (by omega)), bd1_e (show fX0_number num 2 = _ from num_s (i := 2) (by omega)), bd1_e (show fX0_number num 3 = _ from num_s (i := 3) (by omega)), tsw8 (by omega), tc_ne _ _ (by decide), tc_ne _ _ (by decide), tc_ne _ _ (by decide), tc_ne _ _ (by decide), tc_ne _ _ (by decide), tc_ne _ _ (by decide), tc_ne _ _ (by decide), tc_eq, u0]
      unfold fX5_carryOutPilot
      rw [bd1_e x5_stat, ti0, decide_eq_true (by omega), if_pos (show ¬ bI true = 0 by decide +kernel), bd1_e (show fX1_changePilot (nI (N 13)) (nI n0) 1 = _ from x1_pil (b := true) r.1 q), bd2_s]
      rfl
    · exact rl_pil q true r
    · exact ⟨fun _ => rfl, fun _ => rfl⟩
    · omega
    · rfl
    · show N 10 ≤ _; omega
    · show N 11 ≤ _; omega
  · refine ⟨N, 1, tr, be, tou, false, fac, dce, pm, sm, cel, ben, off, l1, l2, l3, l4, l5, lc, lt, lf, ?_, ?_, ?_, ?_, ?_, ?_, ?_, ?_⟩
    · unfold fX6_carriesOut
      rw [il_4, pk_mul, nm_s, gd_nI (by omega) (by omega), nI_clamp (by omega), nm_s, il_1, nI_add, nm_s, gd_nI (by omega) (by omega), nI_clamp (by omega), nm_s, il_2, nI_add, nm_s, gd_nI (by omega) (by omega), nI_clamp (by omega), nm_s, il_3, nI_add, nm_s, gd_nI (by omega) (by omega), nI_clamp (by omega), nm_s, gd_nI ha (by omega), nI_clamp (by omega), hv, tsw7 (by omega), tc_ne _ _ (by decide), tc_ne _ _ (by decide), tc_ne _ _ (by decide), tc_ne _ _ (by decide), tc_ne _ _ (by decide), tc_ne _ _ (by decide), tc_ne _ _ (by decide), tc_eq, t0, bd5_e (x6_setpil_no (by rw [ti0]; omega))]
      rfl
    · unfold fX5_carryOut
      rw [bd1_e (show fX0_number num 0 = _ from num_s (i := 0) (by omega)), bd1_e (show fX0_number num 1 = _ from num_s (i := 1) (by omega)), bd1_e (show fX0_number num 2 = _ from num_s (i := 2) (by omega)), bd1_e (show fX0_number num 3 = _ from num_s (i := 3) (by omega)), tsw8 (by omega), tc_ne _ _ (by decide), tc_ne _ _ (by decide), tc_ne _ _ (by decide), tc_ne _ _ (by decide), tc_ne _ _ (by decide), tc_ne _ _ (by decide), tc_ne _ _ (by decide), tc_eq, u0]
      unfold fX5_carryOutPilot
      rw [bd1_e x5_stat, ti0, decide_eq_false (by omega), if_neg (nn (show bI false = 0 from rfl)), bd2_s]
      rfl
    · exact r
    · exact ⟨fun z => absurd z (by decide), fun z => absurd z (by decide)⟩
    · omega
    · rfl
    · omega
    · omega
theorem cmd8 {F a0 st : Nat} {N S : Nat → Nat} {tr be tou vb td : Nat → Int32} {set fac : Nat → Int32} {dce : Nat → Int64} {pm sm : Nat} {cel : Nat → Int64} {ben off : Nat → Int32} {l1 l2 l3 l4 l5 : Int32} {lc lt lf num : Nat → Int32} {n0 : Nat} (hF : 1000000 < F) (r : RelS N set fac dce pm sm cel ben off) (hg : N 10 + 1000 < 2 ^ 31) (hb : N 11 + 1000 < 2 ^ 31) (ha : a0 < 40) (hv : vb a0 = nI 8) (t0 : td (4 * a0) = nI n0) (u0 : num 0 = nI n0) (b0 : n0 < 1000) : CmdOK F N S st tr be tou vb td a0 set fac dce pm sm cel ben off l1 l2 l3 l4 l5 lc lt lf num 8 := by
  have ti0 := nI_toInt (n := n0) (by omega)
  by_cases q : 1 ≤ n0 ∧ n0 ≤ 50
  · obtain ⟨pm', sm', cel', ben', off', e5, r'⟩ := x5_by (F := F) (by omega) r q.1 q.2 hg hb
    have ok := nxk_ok (F := F) (by omega) r.1 r.2.1 n0
    refine ⟨nxk F N n0, 0, tr, be, tou, true, fac, dce, pm', sm', cel', ben', off', l1, l2, l3, l4, l5, lc, lt, lf, ?_, ?_, ?_, ?_, ?_, ?_, ?_, ?_⟩
    · unfold fX6_carriesOut
      rw [il_4, pk_mul, nm_s, gd_nI (by omega) (by omega), nI_clamp (by omega), nm_s, il_1, nI_add, nm_s, gd_nI (by omega) (by omega), nI_clamp (by omega), nm_s, il_2, nI_add, nm_s, gd_nI (by omega) (by omega), nI_clamp (by omega), nm_s, il_3, nI_add, nm_s, gd_nI (by omega) (by omega), nI_clamp (by omega), nm_s, gd_nI ha (by omega), nI_clamp (by omega), hv, tsw7o, t0, bd3_e (x6_by (F := F) (by omega) r.1 r.2.1 q.1 q.2)]
      rfl
    · unfold fX5_carryOut
      rw [bd1_e (show fX0_number num 0 = _ from num_s (i := 0) (by omega)), bd1_e (show fX0_number num 1 = _ from num_s (i := 1) (by omega)), bd1_e (show fX0_number num 2 = _ from num_s (i := 2) (by omega)), bd1_e (show fX0_number num 3 = _ from num_s (i := 3) (by omega)), tsw8 (by omega), tc_ne _ _ (by decide), tc_ne _ _ (by decide), tc_ne _ _ (by decide), tc_ne _ _ (by decide), tc_ne _ _ (by decide), tc_ne _ _ (by decide), tc_ne _ _ (by decide), tc_ne _ _ (by decide), tc_eq, u0, bd10_e e5]
      rw [e_i ok.2.2.1 (j := 0) (by omega) (by omega), e_i ok.2.2.1 (j := 1) (by omega) (by omega), e_i ok.2.2.1 (j := 14) (by omega) (by omega), e_i ok.2.2.1 (j := 15) (by omega) (by omega), e_i ok.2.2.1 (j := 8) (by omega) (by omega), e_i ok.2.2.1 (j := 13) (by omega) (by omega)]
      rfl
    · exact r'
    · exact ⟨fun _ => rfl, fun _ => rfl⟩
    · omega
    · exact e_i ok.2.2.1 (by omega) (by omega)
    · omega
    · omega
  · refine ⟨N, 1, tr, be, tou, false, fac, dce, pm, sm, cel, ben, off, l1, l2, l3, l4, l5, lc, lt, lf, ?_, ?_, ?_, ?_, ?_, ?_, ?_, ?_⟩
    · unfold fX6_carriesOut
      rw [il_4, pk_mul, nm_s, gd_nI (by omega) (by omega), nI_clamp (by omega), nm_s, il_1, nI_add, nm_s, gd_nI (by omega) (by omega), nI_clamp (by omega), nm_s, il_2, nI_add, nm_s, gd_nI (by omega) (by omega), nI_clamp (by omega), nm_s, il_3, nI_add, nm_s, gd_nI (by omega) (by omega), nI_clamp (by omega), nm_s, gd_nI ha (by omega), nI_clamp (by omega), hv, tsw7o, t0, bd3_e (x6_by_no (by rw [ti0]; omega))]
      rfl
    · unfold fX5_carryOut
      rw [bd1_e (show fX0_number num 0 = _ from num_s (i := 0) (by omega)), bd1_e (show fX0_number num 1 = _ from num_s (i := 1) (by omega)), bd1_e (show fX0_number num 2 = _ from num_s (i := 2) (by omega)), bd1_e (show fX0_number num 3 = _ from num_s (i := 3) (by omega)), tsw8 (by omega), tc_ne _ _ (by decide), tc_ne _ _ (by decide), tc_ne _ _ (by decide), tc_ne _ _ (by decide), tc_ne _ _ (by decide), tc_ne _ _ (by decide), tc_ne _ _ (by decide), tc_ne _ _ (by decide), tc_eq, u0]
      unfold fX5_carryOutStrokes
      by_cases q1 : n0 < 1
      · rw [if_pos (show nI n0 < 1 from nI_lt (b := 1) q1 (by omega)), bd10_s]
        rfl
      · rw [if_neg (show ¬ nI n0 < 1 by rw [show (1 : Int32) = nI 1 from rfl, fa_lt, nI_toInt (by omega), nI_toInt (by omega)]; omega), if_neg (show ¬ nI n0 ≤ 50 by rw [show (50 : Int32) = nI 50 from rfl, fa_le, nI_toInt (by omega), nI_toInt (by omega)]; omega), bd10_s]
        rfl
    · exact r
    · exact ⟨fun z => absurd z (by decide), fun z => absurd z (by decide)⟩
    · omega
    · rfl
    · omega
    · omega
