/-! values of both sides -/
theorem c5_cells {F : Nat} {N : Nat → Nat} {set fac : Nat → Int32} {dce : Nat → Int64} {pm sm : Nat} {cel : Nat → Int64} {ben off : Nat → Int32} (hF : 100 < F) (r : RelS N set fac dce pm sm cel ben off) {k : Nat} (hk : k ≤ 5) : fX5_cellSet F (nI (N 0)) (nI (N 1)) (nI (N 2)) (lN (N 14)) (lN (N 15)) (nI (N 8)) fac dce (nI k) = some (lN (csV N k)) := by
  have hk6 : k = 0 ∨ k = 1 ∨ k = 2 ∨ k = 3 ∨ k = 4 ∨ k = 5 := by omega
  unfold fX5_cellSet
  rw [show (5 : Int) = ((5 : Nat) : Int) from rfl, tswN (n := 5) (by omega) hk]
  rcases hk6 with rfl | rfl | rfl | rfl | rfl | rfl
  · rw [tc_eq, bd1_e (x1_part r.1)]; rfl
  · rw [tc_ne _ _ (by decide), tc_eq, bd1_e (x1_link r.1)]; rfl
  · rw [tc_ne _ _ (by decide), tc_ne _ _ (by decide), tc_eq, bd1_e (x1_car r.1)]; rfl
  · rw [tc_ne _ _ (by decide), tc_ne _ _ (by decide), tc_ne _ _ (by decide), tc_eq, bd1_e (show fX1_cellsOfKind F (nI (N 8)) fac dce 0 = _ from x1_kind (k := 0) hF r.1 r.2.2.1 (by omega))]; rfl
  · rw [tc_ne _ _ (by decide), tc_ne _ _ (by decide), tc_ne _ _ (by decide), tc_ne _ _ (by decide), tc_eq, bd1_e (x1_forgot hF r.1 r.2.2.1)]; rfl
  · rw [tc_ne _ _ (by decide), tc_ne _ _ (by decide), tc_ne _ _ (by decide), tc_ne _ _ (by decide), tc_ne _ _ (by decide), tc_eq, bd1_e (x1_loose hF r.1)]; rfl
theorem c5_oper {F : Nat} {N : Nat → Nat} {set fac : Nat → Int32} {dce : Nat → Int64} {pm sm : Nat} {cel : Nat → Int64} {ben off : Nat → Int32} (hF : 100 < F) (r : RelS N set fac dce pm sm cel ben off) {o k : Nat} (ho : o < N 8) (hk : k ≤ 7) : fX5_operation F (nI (N 0)) (nI (N 1)) (nI (N 8)) fac dce (nI o) (nI k) = some (opV N o k) := by
  have h8 := r.1.2.2.2.1.1
  unfold fX5_operation
  rw [bd1_e (x1_hasop h8), decide_eq_true (by rw [nI_toInt (by omega)]; omega), bI_t, if_pos nn1, if_neg (nI_pos (by omega)), il_7, if_pos (nI_le hk (by omega))]
  by_cases q : k = 7
  · subst q
    rw [if_neg (fun z => z rfl), bd1_e (x1_tc hF r.1 r.2.2.1 ho)]
    rfl
  · rw [if_pos (fun z => q ((nI_eq (by omega) (by omega)).mp z)), bd1_e (x1_fact7 r.1 r.2.2.1 ho (by omega))]
theorem c5_stat {F : Nat} {N : Nat → Nat} {set fac : Nat → Int32} {dce : Nat → Int64} {pm sm : Nat} {cel : Nat → Int64} {ben off : Nat → Int32} (hF : 100 < F) (r : RelS N set fac dce pm sm cel ben off) {s k : Nat} (hs : s < 8) (hk : k ≤ 3) : fX5_station F (nI (N 8)) (nI (N 13)) fac (nI pm) (nI s) (nI k) = some (saV N s k) := by
  have hk4 : k = 0 ∨ k = 1 ∨ k = 2 ∨ k = 3 := by omega
  unfold fX5_station
  rw [bd1_e x5_stat, decide_eq_true (by rw [nI_toInt (by omega)]; omega), bI_t, if_pos nn1, show (3 : Int) = ((3 : Nat) : Int) from rfl, tswN (n := 3) (by omega) hk]
  rcases hk4 with rfl | rfl | rfl | rfl
  · rw [tc_eq, bd1_e (x1_oas hF r.1 r.2.2.1 (by omega))]; rfl
  · rw [tc_ne _ _ (by decide), tc_eq, bd1_e (x1_fas hF r.1 r.2.2.1 (by omega))]; rfl
  · rw [tc_ne _ _ (by decide), tc_ne _ _ (by decide), tc_eq, bd1_e (x1_pilot r.1 hs)]
    show _ = some (bI ((N 13).testBit s))
    cases (N 13).testBit s with
    | true => rw [bI_t, if_neg nn1]; rfl
    | false => rw [bI_f, if_pos nI_0]; rfl
  · rw [tc_ne _ _ (by decide), tc_ne _ _ (by decide), tc_ne _ _ (by decide), tc_eq, bd1_e (x3_has r.2.1 r.2.2.2.1 hs)]
    show _ = some (nI (N (60 + 5 * s + 0)))
    have := (r.2.1 s hs).1
    by_cases e : N (60 + 5 * s + 0) = 0
    · rw [e, if_pos nI_0]; rfl
    · rw [show N (60 + 5 * s + 0) = 1 by omega, if_neg nn1]; rfl
theorem c5_pitch {N : Nat → Nat} {set fac : Nat → Int32} {dce : Nat → Int64} {pm sm : Nat} {cel : Nat → Int64} {ben off : Nat → Int32} (r : RelS N set fac dce pm sm cel ben off) {s k : Nat} (hs : s < 8) (hk : k ≤ 3) : fX5_pitch (nI pm) (nI sm) cel ben off (nI s) (nI k) = some (ptV N s k) := by
  unfold fX5_pitch
  rw [bd1_e x5_stat, decide_eq_true (by rw [nI_toInt (by omega)]; omega), bI_t, if_neg nn1, if_neg (nI_pos (by omega)), il_3, if_pos (nI_le hk (by omega)), bd1_e (x3_has r.2.1 r.2.2.2.1 hs)]
  have := (r.2.1 s hs).1
  by_cases e : N (60 + 5 * s + 0) = 0
  · rw [e, if_pos nI_0]
    unfold ptV
    rw [if_pos e, eN_0]
  · rw [if_neg (nI_ne0 (by omega) (by omega)), bd1_e (x3_val r.1 r.2.1 r.2.2.2.1 hs hk e)]
theorem c5_left {N : Nat → Nat} {set fac : Nat → Int32} {dce : Nat → Int64} {pm sm : Nat} {cel : Nat → Int64} {ben off : Nat → Int32} (r : RelS N set fac dce pm sm cel ben off) {s : Nat} (hs : s < 8) : fX5_left (nI pm) cel (nI s) = some (lN (N (60 + 5 * s + 1))) := by
  unfold fX5_left
  rw [bd1_e x5_stat, decide_eq_true (by rw [nI_toInt (by omega)]; omega), bI_t, if_pos nn1, bd1_e (x3_has r.2.1 r.2.2.2.1 hs)]
  have := (r.2.1 s hs).1
  by_cases e : N (60 + 5 * s + 0) = 0
  · rw [e, if_pos nI_0, (r.2.1 s hs).2.2.2.2.2 e 1 (by omega)]
    rfl
  · rw [if_neg (nI_ne0 (by omega) (by omega)), bd1_e (cellsAt_s (by omega)), ((r.2.2.2.1.2.2.2 s hs).2 (by omega)).1]
theorem c5_whole {F : Nat} {N : Nat → Nat} {set fac : Nat → Int32} {dce : Nat → Int64} {pm sm : Nat} {cel : Nat → Int64} {ben off : Nat → Int32} (hF : 1000 < F) (r : RelS N set fac dce pm sm cel ben off) {len k : Nat} (hk : k ≤ 16) : fX5_whole F (nI (N 0)) (nI (N 1)) (nI (N 2)) (nI (N 8)) (nI (N 13)) set fac (nI pm) (nI (N 9)) (nI (N 10)) (nI (N 11)) (nI (N 12)) (nI len) (nI k) = some (whV N len k) := by
  unfold fX5_whole
  rw [if_neg (nI_pos (by omega)), il_16, if_pos (nI_le hk (by omega)), il_10]
  by_cases q : 10 ≤ k
  · rw [if_pos (nI_le q (by omega)), il_15]
    by_cases q15 : k = 15
    · subst q15
      rw [if_neg (fun z => z rfl), bd1_e (x_cnt8 r.1.2.2.2.1.2)]
      rfl
    · rw [if_pos (fun z => q15 ((nI_eq (by omega) (by omega)).mp z))]
      by_cases q16 : k = 16
      · subst q16
        rw [if_neg (fun z => z rfl)]
        rfl
      · rw [if_pos (fun z => q16 ((nI_eq (by omega) (by omega)).mp z)), bd1_e (x3_whole (len := len) r.2.1 r.2.2.2.1 q (by omega))]
  · rw [if_neg (nI_ge (by omega) (by omega)), bd1_e (x1_whole (len := len) hF r.1 r.2.2.1 (by omega))]
theorem c5_fits {F : Nat} {N : Nat → Nat} {set fac : Nat → Int32} {dce : Nat → Int64} {pm sm : Nat} {cel : Nat → Int64} {ben off : Nat → Int32} (hF : 100 < F) (r : RelS N set fac dce pm sm cel ben off) : fX5_fitsTwice F (nI (N 0)) (nI (N 1)) (nI (N 2)) (lN (N 14)) = some (if fiS N = true then nI 1 else nI 0) := by
  unfold fX5_fitsTwice
  rw [bd1_e (x1_second hF r.1)]
  by_cases q : fiS N = true
  · rw [if_pos q, if_neg nn1]; rfl
  · rw [if_neg q, if_pos nI_0]; rfl
theorem c5_planN {F : Nat} {N : Nat → Nat} {set fac : Nat → Int32} {dce : Nat → Int64} {pm sm : Nat} {cel : Nat → Int64} {ben off : Nat → Int32} {ch tou frc : Nat → Int32} (hF : 1000000 < F) (r : RelS N set fac dce pm sm cel ben off) : ∃ rr u1 u2 u3 u4 u5 ch' u7 u8, fX5_planned F (nI (N 0)) (nI (N 1)) (nI (N 8)) set fac dce ch tou frc (-1) = some (rr, u1, u2, u3, u4, u5, ch', u7, u8) ∧ PlanRes N (N 3) rr ch' := by
  obtain ⟨rr, u1, u2, u3, u4, u5, ch', u7, u8, e, pr⟩ := x2_best (ch := ch) (tou := tou) (frc := frc) hF r.1 r.2.2.1
  refine ⟨rr, u1, u2, u3, u4, u5, ch', u7, u8, ?_, pr⟩
  unfold fX5_planned
  rw [if_pos rfl, bd9_e e]
  by_cases z : rr = -1
  · rw [if_pos z]
  · rw [if_neg z, if_neg (nn (rfl : (-1 : Int32) = -1))]
theorem c5_planO {F : Nat} {N : Nat → Nat} {set fac : Nat → Int32} {dce : Nat → Int64} {pm sm : Nat} {cel : Nat → Int64} {ben off : Nat → Int32} {ch tou frc : Nat → Int32} {o : Nat} (hF : 1000000 < F) (r : RelS N set fac dce pm sm cel ben off) (ho : o < N 8) : ∃ rr u1 u2 u3 u4 u5 ch' u7 u8, fX5_planned F (nI (N 0)) (nI (N 1)) (nI (N 8)) set fac dce ch tou frc (nI o) = some (if rr = eN 0 then rr else ch' o, u1, u2, u3, u4, u5, ch', u7, u8) ∧ PlanRes N (N 3) rr ch' := by
  have h8 := r.1.2.2.2.1.1
  obtain ⟨rr, u1, u2, u3, u4, u5, ch', u7, u8, e, pr⟩ := x2_best (ch := ch) (tou := tou) (frc := frc) hF r.1 r.2.2.1
  refine ⟨rr, u1, u2, u3, u4, u5, ch', u7, u8, ?_, pr⟩
  have n1 : ¬ nI o = eN 0 := eN0_n (by omega)
  unfold fX5_planned
  rw [eN_0, if_neg n1, bd1_e (x1_hasop h8), decide_eq_true (by rw [nI_toInt (by omega)]; omega), bI_t, if_pos nn1, bd9_e e]
  by_cases z : rr = eN 0
  · rw [if_pos z, if_pos z]
  · rw [if_neg z, if_neg z, if_pos n1, bd1_e (chosen_s (by omega))]
theorem cs_cellSet (Θ : Tht) {K : (Nat → Nat) × (Nat → Nat)} {ad am : Nat → Nat} {F : Nat} (hF : 1000000 < F) (hST : Θ.1.stackTraces = false) {B : Nat} {c : CSt} {μ : MSt} (inv : Inv B c μ) (a : Int32) : CaseL Θ K ad am yX5_cellSet (Cond.code yX5_cellSet cX5_cellSet 2 (some .long) :: GW) rmX5_cellSet [.ref (ad 0), .int a] yX6_cellSet (Cond.code yX6_cellSet cX6_cellSet 2 (some .long) :: GW) rmX6_cellSet [.ref (am 0), .int a] eA B c μ := by
  obtain ⟨N, S, t, o, st, len, set, fac, dce, pm, sm, cel, ben, off, SS, tr, pl, cb, u, cat, wd, asd, th, w1, w2, w3, mt, mat, vb, td, cm, rfl, rfl, r, g, b10, b11, tx, tc, tm⟩ := inv
  obtain ⟨t1, t2, t3, t4, t5, t6, t7, t8, t9⟩ := tr
  obtain ⟨p1, p2, p3, p4, p5, p6, p7, p8⟩ := pl
  have ho := g.1
  have hst := g.2.1
  have h1000 : 1000 < F := by omega
  have sv : SV F N S st false (svS S st N) (svT st) := SV.loud h1000 hst
  have g' := (ring_save g ⟨_, _, _, _, _, _, _, _, rfl, r⟩ b10 b11).mono (Nat.le_add_right B 20000)
  have g0 := g.mono (Nat.le_add_right B 20000)
  have h0 := r.1.1.2.1
  have h1 := r.1.1.2.2.2.1
  have h8 := r.1.2.2.2.1.1
  by_cases q : 0 ≤ a.toInt ∧ a.toInt ≤ 5
  · obtain ⟨a, ha, rfl⟩ := i_nat (a := a) (by omega)
    rw [nI_toInt ha] at q
    exact ⟨0, _, _, _, (by first | exact ⟨by omega, fun h => absurd h (by omega)⟩ | exact ⟨by omega, fun _ => by decide +kernel⟩), Or.inl ⟨rfl, kC_cellSet (c5_cells (F := F) (by omega) r (show a ≤ 5 by omega))⟩, kM_cellSet (x6_cells h1000 r.1 (show a ≤ 5 by omega)), rfl, Inv.mk (N := N) (S := S) (t := t) rfl r g0 (up20 b10) (up20 b11) tx tc tm⟩
  · have hc : fX5_cellSet_xA a = some () := by
      unfold fX5_cellSet_xA tsw
      rw [if_pos (by omega)]
    exact ⟨1, _, _, _, (by first | exact ⟨by omega, fun h => absurd h (by omega)⟩ | exact ⟨by omega, fun _ => by decide +kernel⟩), Or.inr ⟨by omega, kC_cellSet_xA hST hc⟩, kM_cellSet (F := F) (x6_cells_no q), rfl, Inv.mk (N := N) (S := S) (t := t) rfl r g0 (up20 b10) (up20 b11) tx tc tm⟩
theorem cs_operation (Θ : Tht) {K : (Nat → Nat) × (Nat → Nat)} {ad am : Nat → Nat} {F : Nat} (hF : 1000000 < F) (hST : Θ.1.stackTraces = false) {B : Nat} {c : CSt} {μ : MSt} (inv : Inv B c μ) (a b : Int32) : CaseI Θ K ad am yX5_operation (Cond.code yX5_operation cX5_operation 3 (some .int) :: GW) rmX5_operation [.ref (ad 0), .int a, .int b] yX6_operation (Cond.code yX6_operation cX6_operation 3 (some .int) :: GW) rmX6_operation [.ref (am 0), .int a, .int b] eBA B c μ := by
  obtain ⟨N, S, t, o, st, len, set, fac, dce, pm, sm, cel, ben, off, SS, tr, pl, cb, u, cat, wd, asd, th, w1, w2, w3, mt, mat, vb, td, cm, rfl, rfl, r, g, b10, b11, tx, tc, tm⟩ := inv
  obtain ⟨t1, t2, t3, t4, t5, t6, t7, t8, t9⟩ := tr
  obtain ⟨p1, p2, p3, p4, p5, p6, p7, p8⟩ := pl
  have ho := g.1
  have hst := g.2.1
  have h1000 : 1000 < F := by omega
  have sv : SV F N S st false (svS S st N) (svT st) := SV.loud h1000 hst
  have g' := (ring_save g ⟨_, _, _, _, _, _, _, _, rfl, r⟩ b10 b11).mono (Nat.le_add_right B 20000)
  have g0 := g.mono (Nat.le_add_right B 20000)
  have h0 := r.1.1.2.1
  have h1 := r.1.1.2.2.2.1
  have h8 := r.1.2.2.2.1.1
  by_cases q : 0 ≤ a.toInt ∧ a.toInt < (N 8 : Int)
  · have q0 := q
    obtain ⟨a, ha, rfl⟩ := i_nat (a := a) (by omega)
    rw [nI_toInt ha] at q
    by_cases qb : 0 ≤ b.toInt ∧ b.toInt ≤ 7
    · obtain ⟨b, hb, rfl⟩ := i_nat (a := b) (by omega)
      rw [nI_toInt hb] at qb
      exact ⟨0, _, _, _, (by first | exact ⟨by omega, fun h => absurd h (by omega)⟩ | exact ⟨by omega, fun _ => by decide +kernel⟩), Or.inl ⟨rfl, kC_operation (c5_oper (F := F) (by omega) r (show a < N 8 by omega) (show b ≤ 7 by omega))⟩, kM_operation (x6_oper h1000 r.1 (show a < N 8 by omega) (show b ≤ 7 by omega)), rfl, Inv.mk (N := N) (S := S) (t := t) rfl r g0 (up20 b10) (up20 b11) tx tc tm⟩
    · have hc : fX5_operation_xA (nI (N 8)) (nI a) b = some () := by
        unfold fX5_operation_xA
        rw [bd1_e (x1_hasop h8), decide_eq_true q0, bI_t, if_pos nn1]
        by_cases z : b < 0
        · rw [if_pos z]
        · rw [if_neg z, if_neg (fun y => qb ⟨by rw [fa_lt] at z; exact Int.not_lt.mp z, by rw [il_7, fa_le, nI_toInt (by omega)] at y; exact y⟩)]
      exact ⟨2, _, _, _, (by first | exact ⟨by omega, fun h => absurd h (by omega)⟩ | exact ⟨by omega, fun _ => by decide +kernel⟩), Or.inr ⟨by omega, kC_operation_xA hST hc⟩, kM_operation (F := F) (x6_oper_no2 h8 (show a < N 8 by omega) qb), rfl, Inv.mk (N := N) (S := S) (t := t) rfl r g0 (up20 b10) (up20 b11) tx tc tm⟩
  · have hc : fX5_operation_xB (nI (N 8)) a b = some () := by
      unfold fX5_operation_xB
      rw [bd1_e (x1_hasop h8), decide_eq_false q, bI_f, if_neg (fun z => z nI_0)]
    exact ⟨1, _, _, _, (by first | exact ⟨by omega, fun h => absurd h (by omega)⟩ | exact ⟨by omega, fun _ => by decide +kernel⟩), Or.inr ⟨by omega, kC_operation_xB hST hc⟩, kM_operation (F := F) (x6_oper_no h8 q), rfl, Inv.mk (N := N) (S := S) (t := t) rfl r g0 (up20 b10) (up20 b11) tx tc tm⟩
theorem cs_station (Θ : Tht) {K : (Nat → Nat) × (Nat → Nat)} {ad am : Nat → Nat} {F : Nat} (hF : 1000000 < F) (hST : Θ.1.stackTraces = false) {B : Nat} {c : CSt} {μ : MSt} (inv : Inv B c μ) (a b : Int32) : CaseI Θ K ad am yX5_station (Cond.code yX5_station cX5_station 3 (some .int) :: GW) rmX5_station [.ref (ad 0), .int a, .int b] yX6_station (Cond.code yX6_station cX6_station 3 (some .int) :: GW) rmX6_station [.ref (am 0), .int a, .int b] eA B c μ := by
  obtain ⟨N, S, t, o, st, len, set, fac, dce, pm, sm, cel, ben, off, SS, tr, pl, cb, u, cat, wd, asd, th, w1, w2, w3, mt, mat, vb, td, cm, rfl, rfl, r, g, b10, b11, tx, tc, tm⟩ := inv
  obtain ⟨t1, t2, t3, t4, t5, t6, t7, t8, t9⟩ := tr
  obtain ⟨p1, p2, p3, p4, p5, p6, p7, p8⟩ := pl
  have ho := g.1
  have hst := g.2.1
  have h1000 : 1000 < F := by omega
  have sv : SV F N S st false (svS S st N) (svT st) := SV.loud h1000 hst
  have g' := (ring_save g ⟨_, _, _, _, _, _, _, _, rfl, r⟩ b10 b11).mono (Nat.le_add_right B 20000)
  have g0 := g.mono (Nat.le_add_right B 20000)
  have h0 := r.1.1.2.1
  have h1 := r.1.1.2.2.2.1
  have h8 := r.1.2.2.2.1.1
  by_cases q : (0 ≤ a.toInt ∧ a.toInt ≤ 7) ∧ (0 ≤ b.toInt ∧ b.toInt ≤ 3)
  · obtain ⟨a, ha, rfl⟩ := i_nat (a := a) (by omega)
    obtain ⟨b, hb, rfl⟩ := i_nat (a := b) (by omega)
    rw [nI_toInt ha, nI_toInt hb] at q
    exact ⟨0, _, _, _, (by first | exact ⟨by omega, fun h => absurd h (by omega)⟩ | exact ⟨by omega, fun _ => by decide +kernel⟩), Or.inl ⟨rfl, kC_station (c5_stat (F := F) (by omega) r (show a < 8 by omega) (show b ≤ 3 by omega))⟩, kM_station (x6_stat h1000 r.1 (show a < 8 by omega) (show b ≤ 3 by omega)), rfl, Inv.mk (N := N) (S := S) (t := t) rfl r g0 (up20 b10) (up20 b11) tx tc tm⟩
  · have hc : fX5_station_xA a b = some () := by
      unfold fX5_station_xA
      rw [bd1_e x5_stat]
      by_cases z : 0 ≤ a.toInt ∧ a.toInt ≤ 7
      · rw [decide_eq_true z, bI_t, if_pos nn1]
        unfold tsw
        rw [if_pos (by omega)]
      · rw [decide_eq_false z, bI_f, if_neg (fun z => z nI_0)]
    exact ⟨1, _, _, _, (by first | exact ⟨by omega, fun h => absurd h (by omega)⟩ | exact ⟨by omega, fun _ => by decide +kernel⟩), Or.inr ⟨by omega, kC_station_xA hST hc⟩, kM_station (F := F) (x6_stat_no q), rfl, Inv.mk (N := N) (S := S) (t := t) rfl r g0 (up20 b10) (up20 b11) tx tc tm⟩
theorem cs_pitch (Θ : Tht) {K : (Nat → Nat) × (Nat → Nat)} {ad am : Nat → Nat} {F : Nat} (hF : 1000000 < F) (hST : Θ.1.stackTraces = false) {B : Nat} {c : CSt} {μ : MSt} (inv : Inv B c μ) (a b : Int32) : CaseI Θ K ad am yX5_pitch (Cond.code yX5_pitch cX5_pitch 3 (some .int) :: GW) rmX5_pitch [.ref (ad 0), .int a, .int b] yX6_pitch (Cond.code yX6_pitch cX6_pitch 3 (some .int) :: GW) rmX6_pitch [.ref (am 0), .int a, .int b] eA B c μ := by
  obtain ⟨N, S, t, o, st, len, set, fac, dce, pm, sm, cel, ben, off, SS, tr, pl, cb, u, cat, wd, asd, th, w1, w2, w3, mt, mat, vb, td, cm, rfl, rfl, r, g, b10, b11, tx, tc, tm⟩ := inv
  obtain ⟨t1, t2, t3, t4, t5, t6, t7, t8, t9⟩ := tr
  obtain ⟨p1, p2, p3, p4, p5, p6, p7, p8⟩ := pl
  have ho := g.1
  have hst := g.2.1
  have h1000 : 1000 < F := by omega
  have sv : SV F N S st false (svS S st N) (svT st) := SV.loud h1000 hst
  have g' := (ring_save g ⟨_, _, _, _, _, _, _, _, rfl, r⟩ b10 b11).mono (Nat.le_add_right B 20000)
  have g0 := g.mono (Nat.le_add_right B 20000)
  have h0 := r.1.1.2.1
  have h1 := r.1.1.2.2.2.1
  have h8 := r.1.2.2.2.1.1
  by_cases q : (0 ≤ a.toInt ∧ a.toInt ≤ 7) ∧ (0 ≤ b.toInt ∧ b.toInt ≤ 3)
  · obtain ⟨a, ha, rfl⟩ := i_nat (a := a) (by omega)
    obtain ⟨b, hb, rfl⟩ := i_nat (a := b) (by omega)
    rw [nI_toInt ha, nI_toInt hb] at q
    exact ⟨0, _, _, _, (by first | exact ⟨by omega, fun h => absurd h (by omega)⟩ | exact ⟨by omega, fun _ => by decide +kernel⟩), Or.inl ⟨rfl, kC_pitch (c5_pitch r (show a < 8 by omega) (show b ≤ 3 by omega))⟩, kM_pitch (x6_pitch h1000 r.1 r.2.1 (show a < 8 by omega) (show b ≤ 3 by omega)), rfl, Inv.mk (N := N) (S := S) (t := t) rfl r g0 (up20 b10) (up20 b11) tx tc tm⟩
  · have hc : fX5_pitch_xA a b = some () := by
      unfold fX5_pitch_xA
      rw [bd1_e x5_stat]
      by_cases z : 0 ≤ a.toInt ∧ a.toInt ≤ 7
      · rw [decide_eq_true z, bI_t, if_neg nn1]
        by_cases y : b < 0
        · rw [if_pos y]
        · rw [if_neg y, if_neg (fun x => q ⟨z, by rw [fa_lt] at y; exact Int.not_lt.mp y, by rw [il_3, fa_le, nI_toInt (by omega)] at x; exact x⟩)]
      · rw [decide_eq_false z, bI_f, if_pos nI_0]
    exact ⟨1, _, _, _, (by first | exact ⟨by omega, fun h => absurd h (by omega)⟩ | exact ⟨by omega, fun _ => by decide +kernel⟩), Or.inr ⟨by omega, kC_pitch_xA hST hc⟩, kM_pitch (F := F) (x6_pitch_no q), rfl, Inv.mk (N := N) (S := S) (t := t) rfl r g0 (up20 b10) (up20 b11) tx tc tm⟩
theorem cs_left (Θ : Tht) {K : (Nat → Nat) × (Nat → Nat)} {ad am : Nat → Nat} {F : Nat} (hF : 1000000 < F) (hST : Θ.1.stackTraces = false) {B : Nat} {c : CSt} {μ : MSt} (inv : Inv B c μ) (a : Int32) : CaseL Θ K ad am yX5_left (Cond.code yX5_left cX5_left 2 (some .long) :: GW) rmX5_left [.ref (ad 0), .int a] yX6_left (Cond.code yX6_left cX6_left 2 (some .long) :: GW) rmX6_left [.ref (am 0), .int a] eA B c μ := by
  obtain ⟨N, S, t, o, st, len, set, fac, dce, pm, sm, cel, ben, off, SS, tr, pl, cb, u, cat, wd, asd, th, w1, w2, w3, mt, mat, vb, td, cm, rfl, rfl, r, g, b10, b11, tx, tc, tm⟩ := inv
  obtain ⟨t1, t2, t3, t4, t5, t6, t7, t8, t9⟩ := tr
  obtain ⟨p1, p2, p3, p4, p5, p6, p7, p8⟩ := pl
  have ho := g.1
  have hst := g.2.1
  have h1000 : 1000 < F := by omega
  have sv : SV F N S st false (svS S st N) (svT st) := SV.loud h1000 hst
  have g' := (ring_save g ⟨_, _, _, _, _, _, _, _, rfl, r⟩ b10 b11).mono (Nat.le_add_right B 20000)
  have g0 := g.mono (Nat.le_add_right B 20000)
  have h0 := r.1.1.2.1
  have h1 := r.1.1.2.2.2.1
  have h8 := r.1.2.2.2.1.1
  by_cases q : 0 ≤ a.toInt ∧ a.toInt ≤ 7
  · obtain ⟨a, ha, rfl⟩ := i_nat (a := a) (by omega)
    rw [nI_toInt ha] at q
    exact ⟨0, _, _, _, (by first | exact ⟨by omega, fun h => absurd h (by omega)⟩ | exact ⟨by omega, fun _ => by decide +kernel⟩), Or.inl ⟨rfl, kC_left (c5_left r (show a < 8 by omega))⟩, kM_left (x6_left (show a < 8 by omega)), rfl, Inv.mk (N := N) (S := S) (t := t) rfl r g0 (up20 b10) (up20 b11) tx tc tm⟩
  · have hc : fX5_left_xA a = some () := by
      unfold fX5_left_xA
      rw [bd1_e x5_stat, decide_eq_false q, bI_f, if_neg (fun z => z nI_0)]
    exact ⟨1, _, _, _, (by first | exact ⟨by omega, fun h => absurd h (by omega)⟩ | exact ⟨by omega, fun _ => by decide +kernel⟩), Or.inr ⟨by omega, kC_left_xA hST hc⟩, kM_left (x6_left_no q), rfl, Inv.mk (N := N) (S := S) (t := t) rfl r g0 (up20 b10) (up20 b11) tx tc tm⟩
theorem cs_whole (Θ : Tht) {K : (Nat → Nat) × (Nat → Nat)} {ad am : Nat → Nat} {F : Nat} (hF : 1000000 < F) (hST : Θ.1.stackTraces = false) {B : Nat} {c : CSt} {μ : MSt} (inv : Inv B c μ) (a : Int32) : CaseI Θ K ad am yX5_whole (Cond.code yX5_whole cX5_whole 2 (some .int) :: GW) rmX5_whole [.ref (ad 0), .int a] yX6_whole (Cond.code yX6_whole cX6_whole 2 (some .int) :: GW) rmX6_whole [.ref (am 0), .int a] eA B c μ := by
  obtain ⟨N, S, t, o, st, len, set, fac, dce, pm, sm, cel, ben, off, SS, tr, pl, cb, u, cat, wd, asd, th, w1, w2, w3, mt, mat, vb, td, cm, rfl, rfl, r, g, b10, b11, tx, tc, tm⟩ := inv
  obtain ⟨t1, t2, t3, t4, t5, t6, t7, t8, t9⟩ := tr
  obtain ⟨p1, p2, p3, p4, p5, p6, p7, p8⟩ := pl
  have ho := g.1
  have hst := g.2.1
  have h1000 : 1000 < F := by omega
  have sv : SV F N S st false (svS S st N) (svT st) := SV.loud h1000 hst
  have g' := (ring_save g ⟨_, _, _, _, _, _, _, _, rfl, r⟩ b10 b11).mono (Nat.le_add_right B 20000)
  have g0 := g.mono (Nat.le_add_right B 20000)
  have h0 := r.1.1.2.1
  have h1 := r.1.1.2.2.2.1
  have h8 := r.1.2.2.2.1.1
  by_cases q : 0 ≤ a.toInt ∧ a.toInt ≤ 16
  · obtain ⟨a, ha, rfl⟩ := i_nat (a := a) (by omega)
    rw [nI_toInt ha] at q
    exact ⟨0, _, _, _, (by first | exact ⟨by omega, fun h => absurd h (by omega)⟩ | exact ⟨by omega, fun _ => by decide +kernel⟩), Or.inl ⟨rfl, kC_whole (c5_whole h1000 r (show a ≤ 16 by omega))⟩, kM_whole (x6_whole h1000 r.1 (show a ≤ 16 by omega)), rfl, Inv.mk (N := N) (S := S) (t := t) rfl r g0 (up20 b10) (up20 b11) tx tc tm⟩
  · have hc : fX5_whole_xA a = some () := by
      unfold fX5_whole_xA
      by_cases z : a < 0
      · rw [if_pos z]
      · rw [if_neg z, if_neg (fun y => q ⟨by rw [fa_lt] at z; exact Int.not_lt.mp z, by rw [il_16, fa_le, nI_toInt (by omega)] at y; exact y⟩)]
    exact ⟨1, _, _, _, (by first | exact ⟨by omega, fun h => absurd h (by omega)⟩ | exact ⟨by omega, fun _ => by decide +kernel⟩), Or.inr ⟨by omega, kC_whole_xA hST hc⟩, kM_whole (F := F) (x6_whole_no q), rfl, Inv.mk (N := N) (S := S) (t := t) rfl r g0 (up20 b10) (up20 b11) tx tc tm⟩
theorem cs_planned (Θ : Tht) {K : (Nat → Nat) × (Nat → Nat)} {ad am : Nat → Nat} {F : Nat} (hF : 1000000 < F) (hST : Θ.1.stackTraces = false) {B : Nat} {c : CSt} {μ : MSt} (inv : Inv B c μ) (a : Int32) : CaseI Θ K ad am yX5_planned (Cond.code yX5_planned cX5_planned 3 (some .int) :: GW) rmX5_planned [.ref (ad 0), .int a] yX6_planned (Cond.code yX6_planned cX6_planned 3 (some .int) :: GW) rmX6_planned [.ref (am 0), .int a] eB B c μ := by
  obtain ⟨N, S, t, o, st, len, set, fac, dce, pm, sm, cel, ben, off, SS, tr, pl, cb, u, cat, wd, asd, th, w1, w2, w3, mt, mat, vb, td, cm, rfl, rfl, r, g, b10, b11, tx, tc, tm⟩ := inv
  obtain ⟨t1, t2, t3, t4, t5, t6, t7, t8, t9⟩ := tr
  obtain ⟨p1, p2, p3, p4, p5, p6, p7, p8⟩ := pl
  have ho := g.1
  have hst := g.2.1
  have h1000 : 1000 < F := by omega
  have sv : SV F N S st false (svS S st N) (svT st) := SV.loud h1000 hst
  have g' := (ring_save g ⟨_, _, _, _, _, _, _, _, rfl, r⟩ b10 b11).mono (Nat.le_add_right B 20000)
  have g0 := g.mono (Nat.le_add_right B 20000)
  have h0 := r.1.1.2.1
  have h1 := r.1.1.2.2.2.1
  have h8 := r.1.2.2.2.1.1
  by_cases q1 : a = -1
  · subst q1
    obtain ⟨rr, x1, x2, x3, x4, x5, ch', x7, x8, e1, r1⟩ := c5_planN (ch := p6) (tou := p7) (frc := p8) hF r
    obtain ⟨r2, tr', be', tou', e2, r3⟩ := x6_planN (F := F) (tr := w1) (be := w2) (tou := w3) hF r.1
    obtain ⟨er, -⟩ := PlanRes.one r1 r3
    subst er
    exact ⟨0, _, _, _, (by first | exact ⟨by omega, fun h => absurd h (by omega)⟩ | exact ⟨by omega, fun _ => by decide +kernel⟩), Or.inl ⟨rfl, kC_planned e1⟩, kM_planned e2, rfl, Inv.mk (N := N) (S := S) (t := t) rfl r g0 (up20 b10) (up20 b11) tx tc tm⟩
  · by_cases q : 0 ≤ a.toInt ∧ a.toInt < (N 8 : Int)
    · obtain ⟨a, ha, rfl⟩ := i_nat (a := a) (by omega)
      rw [nI_toInt ha] at q
      have qa : a < N 8 := by omega
      obtain ⟨rr, x1, x2, x3, x4, x5, ch', x7, x8, e1, r1⟩ := c5_planO (ch := p6) (tou := p7) (frc := p8) hF r qa
      obtain ⟨r2, tr', be', tou', e2, r3⟩ := x6_planO (F := F) (tr := w1) (be := w2) (tou := w3) hF r.1 qa
      obtain ⟨er, ec⟩ := PlanRes.one r1 r3
      subst er
      have ev : (if rr = eN 0 then rr else ch' a) = (if rr = eN 0 then rr else be' a) := by
        by_cases z : rr = eN 0
        · rw [if_pos z, if_pos z]
        · rw [if_neg z, if_neg z, ec z a qa]
      rw [ev] at e1
      exact ⟨0, _, _, _, (by first | exact ⟨by omega, fun h => absurd h (by omega)⟩ | exact ⟨by omega, fun _ => by decide +kernel⟩), Or.inl ⟨rfl, kC_planned e1⟩, kM_planned e2, rfl, Inv.mk (N := N) (S := S) (t := t) rfl r g0 (up20 b10) (up20 b11) tx tc tm⟩
    · have hc : fX5_planned_xB (nI (N 8)) a = some () := by
        unfold fX5_planned_xB
        rw [if_neg q1, bd1_e (x1_hasop h8), decide_eq_false q, bI_f, if_neg (fun z => z nI_0)]
      exact ⟨1, _, _, _, (by first | exact ⟨by omega, fun h => absurd h (by omega)⟩ | exact ⟨by omega, fun _ => by decide +kernel⟩), Or.inr ⟨by omega, kC_planned_xB hST hc⟩, kM_planned (F := F) (x6_plan_no h8 q1 q), rfl, Inv.mk (N := N) (S := S) (t := t) rfl r g0 (up20 b10) (up20 b11) tx tc tm⟩
theorem cs_dieFault (Θ : Tht) {K : (Nat → Nat) × (Nat → Nat)} {ad am : Nat → Nat} {F : Nat} (hF : 1000000 < F) {B : Nat} (hB : B < 2 ^ 30) {c : CSt} {μ : MSt} (inv : Inv B c μ)  : ∃ v c' μ', CaseV Θ K ad am yX5_dieFault (Cond.code yX5_dieFault cX5_dieFault 1 (some .int) :: GW) rmX5_dieFault [.ref (ad 0)] yX6_dieFault (Cond.code yX6_dieFault cX6_dieFault 1 (some .int) :: GW) rmX6_dieFault [.ref (am 0)] (.int v) B c c' μ μ' := by
  obtain ⟨N, S, t, o, st, len, set, fac, dce, pm, sm, cel, ben, off, SS, tr, pl, cb, u, cat, wd, asd, th, w1, w2, w3, mt, mat, vb, td, cm, rfl, rfl, r, g, b10, b11, tx, tc, tm⟩ := inv
  obtain ⟨t1, t2, t3, t4, t5, t6, t7, t8, t9⟩ := tr
  obtain ⟨p1, p2, p3, p4, p5, p6, p7, p8⟩ := pl
  have ho := g.1
  have hst := g.2.1
  have h1000 : 1000 < F := by omega
  have sv : SV F N S st false (svS S st N) (svT st) := SV.loud h1000 hst
  have g' := (ring_save g ⟨_, _, _, _, _, _, _, _, rfl, r⟩ b10 b11).mono (Nat.le_add_right B 20000)
  have g0 := g.mono (Nat.le_add_right B 20000)
  have h0 := r.1.1.2.1
  have h1 := r.1.1.2.2.2.1
  have h8 := r.1.2.2.2.1.1
  have hc : fX5_dieFault F (nI (N 0)) (nI (N 1)) (nI (N 2)) (lN (N 14)) (lN (N 15)) (nI (N 8)) fac dce = some (nI (fdS N)) := by
    unfold fX5_dieFault
    rw [bd1_e (x1_fdie (by omega) r.1 r.2.2.1)]
  have hm : fX6_dieFault F (lA N) = some (nI (fdS N), 0) := by
    unfold fX6_dieFault
    rw [bd1_e (x6_fdie (by omega) r.1)]
  exact ⟨_, _, _, kC_dieFault hc, kM_dieFault hm, Inv.mk (N := N) (S := S) (t := t) rfl r g0 (up20 b10) (up20 b11) tx tc tm⟩
theorem cs_planFault (Θ : Tht) {K : (Nat → Nat) × (Nat → Nat)} {ad am : Nat → Nat} {F : Nat} (hF : 1000000 < F) {B : Nat} (hB : B < 2 ^ 30) {c : CSt} {μ : MSt} (inv : Inv B c μ)  : ∃ v c' μ', CaseV Θ K ad am yX5_planFault (Cond.code yX5_planFault cX5_planFault 1 (some .int) :: GW) rmX5_planFault [.ref (ad 0)] yX6_planFault (Cond.code yX6_planFault cX6_planFault 1 (some .int) :: GW) rmX6_planFault [.ref (am 0)] (.int v) B c c' μ μ' := by
  obtain ⟨N, S, t, o, st, len, set, fac, dce, pm, sm, cel, ben, off, SS, tr, pl, cb, u, cat, wd, asd, th, w1, w2, w3, mt, mat, vb, td, cm, rfl, rfl, r, g, b10, b11, tx, tc, tm⟩ := inv
  obtain ⟨t1, t2, t3, t4, t5, t6, t7, t8, t9⟩ := tr
  obtain ⟨p1, p2, p3, p4, p5, p6, p7, p8⟩ := pl
  have ho := g.1
  have hst := g.2.1
  have h1000 : 1000 < F := by omega
  have sv : SV F N S st false (svS S st N) (svT st) := SV.loud h1000 hst
  have g' := (ring_save g ⟨_, _, _, _, _, _, _, _, rfl, r⟩ b10 b11).mono (Nat.le_add_right B 20000)
  have g0 := g.mono (Nat.le_add_right B 20000)
  have h0 := r.1.1.2.1
  have h1 := r.1.1.2.2.2.1
  have h8 := r.1.2.2.2.1.1
  have hc : fX5_planFault F (nI (N 0)) (nI (N 1)) (nI (N 8)) set fac dce = some (nI (pfS N)) := by
    unfold fX5_planFault
    rw [bd1_e (x1_pf (by omega) r.1 r.2.2.1)]
  have hm : fX6_planFault F (lA N) = some (nI (pfS N), 0) := by
    unfold fX6_planFault
    rw [bd1_e (x6_pf (by omega) r.1)]
  exact ⟨_, _, _, kC_planFault hc, kM_planFault hm, Inv.mk (N := N) (S := S) (t := t) rfl r g0 (up20 b10) (up20 b11) tx tc tm⟩
theorem cs_leastLimit (Θ : Tht) {K : (Nat → Nat) × (Nat → Nat)} {ad am : Nat → Nat} {F : Nat} (hF : 1000000 < F) {B : Nat} (hB : B < 2 ^ 30) {c : CSt} {μ : MSt} (inv : Inv B c μ)  : ∃ v c' μ', CaseV Θ K ad am yX5_leastLimit (Cond.code yX5_leastLimit cX5_leastLimit 1 (some .int) :: GW) rmX5_leastLimit [.ref (ad 0)] yX6_leastLimit (Cond.code yX6_leastLimit cX6_leastLimit 4 (some .int) :: GW) rmX6_leastLimit [.ref (am 0)] (.int v) B c c' μ μ' := by
  obtain ⟨N, S, t, o, st, len, set, fac, dce, pm, sm, cel, ben, off, SS, tr, pl, cb, u, cat, wd, asd, th, w1, w2, w3, mt, mat, vb, td, cm, rfl, rfl, r, g, b10, b11, tx, tc, tm⟩ := inv
  obtain ⟨t1, t2, t3, t4, t5, t6, t7, t8, t9⟩ := tr
  obtain ⟨p1, p2, p3, p4, p5, p6, p7, p8⟩ := pl
  have ho := g.1
  have hst := g.2.1
  have h1000 : 1000 < F := by omega
  have sv : SV F N S st false (svS S st N) (svT st) := SV.loud h1000 hst
  have g' := (ring_save g ⟨_, _, _, _, _, _, _, _, rfl, r⟩ b10 b11).mono (Nat.le_add_right B 20000)
  have g0 := g.mono (Nat.le_add_right B 20000)
  have h0 := r.1.1.2.1
  have h1 := r.1.1.2.2.2.1
  have h8 := r.1.2.2.2.1.1
  obtain ⟨rr, x1, x2, x3, x4, x5, ch', x7, x8, e1, r1⟩ := x2_least (F := F) (ch := p6) (tou := p7) (frc := p8) hF r.1 r.2.2.1
  obtain ⟨r2, tr', be', tou', e2, r3⟩ := x6_least (F := F) (tr := w1) (be := w2) (tou := w3) hF r.1
  have er := LeastRes.one r1 r3
  subst er
  have hc : fX5_leastLimit F (nI (N 0)) (nI (N 1)) (nI (N 8)) set fac dce p6 p7 p8 = some (rr, x1, x2, x3, x4, x5, ch', x7, x8) := by
    unfold fX5_leastLimit
    rw [bd9_e e1]
  exact ⟨_, _, _, kC_leastLimit hc, kM_leastLimit e2, Inv.mk (N := N) (S := S) (t := t) rfl r g0 (up20 b10) (up20 b11) tx tc tm⟩
theorem cs_fitsTwice (Θ : Tht) {K : (Nat → Nat) × (Nat → Nat)} {ad am : Nat → Nat} {F : Nat} (hF : 1000000 < F) {B : Nat} (hB : B < 2 ^ 30) {c : CSt} {μ : MSt} (inv : Inv B c μ)  : ∃ v c' μ', CaseV Θ K ad am yX5_fitsTwice (Cond.code yX5_fitsTwice cX5_fitsTwice 1 (some .int) :: GW) rmX5_fitsTwice [.ref (ad 0)] yX6_fitsTwice (Cond.code yX6_fitsTwice cX6_fitsTwice 1 (some .int) :: GW) rmX6_fitsTwice [.ref (am 0)] (.int v) B c c' μ μ' := by
  obtain ⟨N, S, t, o, st, len, set, fac, dce, pm, sm, cel, ben, off, SS, tr, pl, cb, u, cat, wd, asd, th, w1, w2, w3, mt, mat, vb, td, cm, rfl, rfl, r, g, b10, b11, tx, tc, tm⟩ := inv
  obtain ⟨t1, t2, t3, t4, t5, t6, t7, t8, t9⟩ := tr
  obtain ⟨p1, p2, p3, p4, p5, p6, p7, p8⟩ := pl
  have ho := g.1
  have hst := g.2.1
  have h1000 : 1000 < F := by omega
  have sv : SV F N S st false (svS S st N) (svT st) := SV.loud h1000 hst
  have g' := (ring_save g ⟨_, _, _, _, _, _, _, _, rfl, r⟩ b10 b11).mono (Nat.le_add_right B 20000)
  have g0 := g.mono (Nat.le_add_right B 20000)
  have h0 := r.1.1.2.1
  have h1 := r.1.1.2.2.2.1
  have h8 := r.1.2.2.2.1.1
  have hm : fX6_fitsTwice F (lA N) = some ((if fiS N = true then nI 1 else nI 0), 0) := by
    unfold fX6_fitsTwice
    rw [bd1_e (x6_fits (by omega) r.1)]
  exact ⟨_, _, _, kC_fitsTwice (c5_fits (F := F) (by omega) r), kM_fitsTwice hm, Inv.mk (N := N) (S := S) (t := t) rfl r g0 (up20 b10) (up20 b11) tx tc tm⟩
theorem cs_scrap (Θ : Tht) {K : (Nat → Nat) × (Nat → Nat)} {ad am : Nat → Nat} {F : Nat} (hF : 1000000 < F) {B : Nat} (hB : B < 2 ^ 30) {c : CSt} {μ : MSt} (inv : Inv B c μ) (b : Bool) : ∃ v c' μ', CaseV Θ K ad am yX5_scrap (Cond.code yX5_scrap cX5_scrap 4 (some .int) :: GW) rmX5_scrap [.ref (ad 0), .int (bI b)] yX6_scrap (Cond.code yX6_scrap cX6_scrap 2 (some .int) :: GW) rmX6_scrap [.ref (am 0), .int (bI b)] (.int v) B c c' μ μ' := by
  obtain ⟨N, S, t, o, st, len, set, fac, dce, pm, sm, cel, ben, off, SS, tr, pl, cb, u, cat, wd, asd, th, w1, w2, w3, mt, mat, vb, td, cm, rfl, rfl, r, g, b10, b11, tx, tc, tm⟩ := inv
  obtain ⟨t1, t2, t3, t4, t5, t6, t7, t8, t9⟩ := tr
  obtain ⟨p1, p2, p3, p4, p5, p6, p7, p8⟩ := pl
  have ho := g.1
  have hst := g.2.1
  have h1000 : 1000 < F := by omega
  have sv : SV F N S st false (svS S st N) (svT st) := SV.loud h1000 hst
  have g' := (ring_save g ⟨_, _, _, _, _, _, _, _, rfl, r⟩ b10 b11).mono (Nat.le_add_right B 20000)
  have g0 := g.mono (Nat.le_add_right B 20000)
  have h0 := r.1.1.2.1
  have h1 := r.1.1.2.2.2.1
  have h8 := r.1.2.2.2.1.1
  exact ⟨_, _, _, kC_scrap (x5_scrap h1000 r.1 b), kM_scrap (x6_scrap h1000 r.1 b), Inv.mk (N := N) (S := S) (t := t) rfl r g0 (up20 b10) (up20 b11) tx tc tm⟩
theorem cs_strokesToGood (Θ : Tht) {K : (Nat → Nat) × (Nat → Nat)} {ad am : Nat → Nat} {F : Nat} (hF : 1000000 < F) {B : Nat} (hB : B < 2 ^ 30) {c : CSt} {μ : MSt} (inv : Inv B c μ)  : ∃ v c' μ', CaseV Θ K ad am yX5_strokesToGood (Cond.code yX5_strokesToGood cX5_strokesToGood 3 (some .int) :: GW) rmX5_strokesToGood [.ref (ad 0)] yX6_strokesToGood (Cond.code yX6_strokesToGood cX6_strokesToGood 3 (some .int) :: GW) rmX6_strokesToGood [.ref (am 0)] (.int v) B c c' μ μ' := by
  obtain ⟨N, S, t, o, st, len, set, fac, dce, pm, sm, cel, ben, off, SS, tr, pl, cb, u, cat, wd, asd, th, w1, w2, w3, mt, mat, vb, td, cm, rfl, rfl, r, g, b10, b11, tx, tc, tm⟩ := inv
  obtain ⟨t1, t2, t3, t4, t5, t6, t7, t8, t9⟩ := tr
  obtain ⟨p1, p2, p3, p4, p5, p6, p7, p8⟩ := pl
  have ho := g.1
  have hst := g.2.1
  have h1000 : 1000 < F := by omega
  have sv : SV F N S st false (svS S st N) (svT st) := SV.loud h1000 hst
  have g' := (ring_save g ⟨_, _, _, _, _, _, _, _, rfl, r⟩ b10 b11).mono (Nat.le_add_right B 20000)
  have g0 := g.mono (Nat.le_add_right B 20000)
  have h0 := r.1.1.2.1
  have h1 := r.1.1.2.2.2.1
  have h8 := r.1.2.2.2.1.1
  obtain ⟨M, hM, e2⟩ := x6_tg (F := F) (as := asd) h1000 r.1 r.2.1 (by omega)
  obtain ⟨a1, a2, a3, a4, a5, a6, a7, a8, a9, e1⟩ := x5_tg (F := F) (tc := t3) (tb := t4) (to := t5) h1000 r (by omega) (by omega)
  exact ⟨_, _, _, kC_strokesToGood e1, kM_strokesToGood e2, Inv.mk (N := M) (S := S) (t := t) (by unfold snp; rw [hM 0 (by omega), hM 1 (by omega), hM 2 (by omega), hM 14 (by omega), hM 15 (by omega), hM 8 (by omega), hM 13 (by omega), hM 9 (by omega), hM 10 (by omega), hM 11 (by omega), hM 12 (by omega)]) (rel_100 hM r) g0 (by rw [hM 10 (by omega)]; exact up20 b10) (by rw [hM 11 (by omega)]; exact up20 b11) tx tc tm⟩
theorem by_nar : ∀ a, a < 128 → vp_nar .byte (nI a).toInt8.toInt32 = nI a := by decide +kernel
theorem tx_app {t : Nat → Nat} {len a : Nat} (h : TX t len) (hl : len < 150) (ha : a < 128) : TX (fun j => if j = len then a else t j) (len + 1) := ⟨by omega, fun j hj => by
  by_cases q : j = len
  · show (if j = len then a else t j) < 128
    rw [if_pos q]; exact ha
  · show (if j = len then a else t j) < 128
    rw [if_neg q]; exact h.2 j (by omega)⟩
theorem tb_app {t : Nat → Nat} {len a : Nat} {f : Nat → Int32} (h : TB t len f) : TB (fun j => if j = len then a else t j) (len + 1) (upd f len (nI a)) := fun j hj => by
  by_cases q : j = len
  · show upd f len (nI a) j = nI (if j = len then a else t j)
    rw [if_pos q, q, upd_s]
  · show upd f len (nI a) j = nI (if j = len then a else t j)
    rw [if_neg q, upd_n q]; exact h j (by omega)
theorem cs_type (Θ : Tht) {K : (Nat → Nat) × (Nat → Nat)} {ad am : Nat → Nat} {F : Nat} (hF : 1000000 < F) (hST : Θ.1.stackTraces = false) {B : Nat} {c : CSt} {μ : MSt} (inv : Inv B c μ) (a : Int32) : CaseI Θ K ad am yX5_type (Cond.code yX5_type cX5_type 2 (some .int) :: GW) rmX5_type [.ref (ad 0), .int a] yX6_type (Cond.code yX6_type cX6_type 2 (some .int) :: GW) rmX6_type [.ref (am 0), .int a] eAS B c μ := by
  obtain ⟨N, S, t, o, st, len, set, fac, dce, pm, sm, cel, ben, off, SS, tr, pl, cb, u, cat, wd, asd, th, w1, w2, w3, mt, mat, vb, td, cm, rfl, rfl, r, g, b10, b11, tx, tc, tm⟩ := inv
  obtain ⟨t1, t2, t3, t4, t5, t6, t7, t8, t9⟩ := tr
  obtain ⟨p1, p2, p3, p4, p5, p6, p7, p8⟩ := pl
  have ho := g.1
  have hst := g.2.1
  have h1000 : 1000 < F := by omega
  have sv : SV F N S st false (svS S st N) (svT st) := SV.loud h1000 hst
  have g' := (ring_save g ⟨_, _, _, _, _, _, _, _, rfl, r⟩ b10 b11).mono (Nat.le_add_right B 20000)
  have g0 := g.mono (Nat.le_add_right B 20000)
  have h0 := r.1.1.2.1
  have h1 := r.1.1.2.2.2.1
  have h8 := r.1.2.2.2.1.1
  have hl := tx.1
  by_cases q : 0 ≤ a.toInt ∧ a.toInt ≤ 127
  · obtain ⟨a, ha, rfl⟩ := i_nat (a := a) (by omega)
    rw [nI_toInt ha] at q
    have qa : a < 128 := by omega
    have hin : fX6_in (nI a) 0 127 = some (nI 1) := in_y (b := 0) (c := 127) (by omega) (by omega) (by omega)
    by_cases ql : len < 150
    · have hc : fX5_type cb (nI len) (nI a) = some (nI (len + 1), upd cb len (nI a), nI (len + 1)) := by
        unfold fX5_type
        rw [if_neg (nI_pos (by omega)), il_127, if_pos (nI_le (by omega) (by omega)), il_150, if_pos (nI_lt ql (by omega))]
        have ha2 : fX0_append cb (nI len) (nI a) = some (upd cb len (nI a), nI (len + 1)) := by
          unfold fX0_append
          rw [if_neg (nI_pos (by omega)), il_150, if_neg (nI_ge ql (by omega)), nm_s, gd_nI ql (by omega), nm_s, nI_clamp (by omega), by_nar a qa, nI_1]
        rw [bd2_e ha2]
      have hm : fX6_type mt (nI len) (nI a) = some (nI (len + 1), 0, upd mt len (nI a), nI (len + 1)) := by
        unfold fX6_type
        rw [bd1_e hin, if_pos nn1, il_150, if_pos (fun z => by rw [nI_eq (by omega) (by omega)] at z; omega), gd_nI ql (by omega), nm_s, nI_clamp (by omega), nI_1]
      exact ⟨0, _, _, _, (by first | exact ⟨by omega, fun h => absurd h (by omega)⟩ | exact ⟨by omega, fun _ => by decide +kernel⟩), Or.inl ⟨rfl, kC_type hc⟩, kM_type hm, rfl, Inv.mk (N := N) (S := S) (t := fun j => if j = len then a else t j) rfl r g0 (up20 b10) (up20 b11) (tx_app tx ql qa) (tb_app tc) (tb_app tm)⟩
    · have hl2 : len = 150 := by omega
      have hc : fX5_type_xS (nI len) (nI a) = some () := by
        unfold fX5_type_xS
        rw [if_neg (nI_pos (by omega)), il_127, if_pos (nI_le (by omega) (by omega)), il_150, if_neg (nI_nlt (by omega) (by omega))]
      have hm : fX6_type mt (nI len) (nI a) = some (0, 2, mt, nI len) := by
        unfold fX6_type
        rw [bd1_e hin, if_pos nn1, il_150, if_neg (fun z => z (by rw [hl2]))]
        rfl
      exact ⟨2, _, _, _, (by first | exact ⟨by omega, fun h => absurd h (by omega)⟩ | exact ⟨by omega, fun _ => by decide +kernel⟩), Or.inr ⟨by omega, kC_type_xS hST hc⟩, kM_type hm, rfl, Inv.mk (N := N) (S := S) (t := t) rfl r g0 (up20 b10) (up20 b11) tx tc tm⟩
  · have hc : fX5_type_xA a = some () := by
      unfold fX5_type_xA
      by_cases z : a < 0
      · rw [if_pos z]
      · rw [if_neg z, if_neg (fun y => q ⟨by rw [fa_lt] at z; exact Int.not_lt.mp z, by rw [il_127, fa_le, nI_toInt (by omega)] at y; exact y⟩)]
    have hm : fX6_type mt (nI len) a = some (0, 1, mt, nI len) := by
      unfold fX6_type
      rw [bd1_e (show fX6_in a 0 127 = _ from in_no (b := 0) (c := 127) (by omega) (by omega) q), if_neg (fun z => z nI_0)]
      rfl
    exact ⟨1, _, _, _, (by first | exact ⟨by omega, fun h => absurd h (by omega)⟩ | exact ⟨by omega, fun _ => by decide +kernel⟩), Or.inr ⟨by omega, kC_type_xA hST hc⟩, kM_type hm, rfl, Inv.mk (N := N) (S := S) (t := t) rfl r g0 (up20 b10) (up20 b11) tx tc tm⟩
theorem cs_clearCommands (Θ : Tht) {K : (Nat → Nat) × (Nat → Nat)} {ad am : Nat → Nat} {F : Nat} (hF : 1000000 < F) {B : Nat} (hB : B < 2 ^ 30) {c : CSt} {μ : MSt} (inv : Inv B c μ)  : ∃ v c' μ', CaseV Θ K ad am yX5_clearCommands (Cond.code yX5_clearCommands cX5_clearCommands 2 (some .int) :: GW) rmX5_clearCommands [.ref (ad 0)] yX6_clearCommands (Cond.code yX6_clearCommands cX6_clearCommands 2 (some .int) :: GW) rmX6_clearCommands [.ref (am 0)] (.int v) B c c' μ μ' := by
  obtain ⟨N, S, t, o, st, len, set, fac, dce, pm, sm, cel, ben, off, SS, tr, pl, cb, u, cat, wd, asd, th, w1, w2, w3, mt, mat, vb, td, cm, rfl, rfl, r, g, b10, b11, tx, tc, tm⟩ := inv
  obtain ⟨t1, t2, t3, t4, t5, t6, t7, t8, t9⟩ := tr
  obtain ⟨p1, p2, p3, p4, p5, p6, p7, p8⟩ := pl
  have ho := g.1
  have hst := g.2.1
  have h1000 : 1000 < F := by omega
  have sv : SV F N S st false (svS S st N) (svT st) := SV.loud h1000 hst
  have g' := (ring_save g ⟨_, _, _, _, _, _, _, _, rfl, r⟩ b10 b11).mono (Nat.le_add_right B 20000)
  have g0 := g.mono (Nat.le_add_right B 20000)
  have h0 := r.1.1.2.1
  have h1 := r.1.1.2.2.2.1
  have h8 := r.1.2.2.2.1.1
  exact ⟨nI len, _, _, kC_clearCommands (show fX5_clearCommands (nI len) = some (nI len, nI 0) from rfl), kM_clearCommands (show fX6_clearCommands (nI len) = some (nI len, 0, nI 0) from rfl), Inv.mk (N := N) (S := S) (t := t) rfl r g0 (up20 b10) (up20 b11) ⟨by omega, fun j hj => by omega⟩ (fun j hj => by omega) (fun j hj => by omega)⟩
theorem Inv.mkS {B : Nat} {N S t : Nat → Nat} {o st len : Nat} {SS : Nat → Snap} {tr : Int32 × Int32 × (Nat → Int64) × (Nat → Int32) × (Nat → Int32) × Int32 × Int32 × Int32 × Int32} {pl : Int32 × Int32 × Int32 × Int32 × Int32 × (Nat → Int32) × (Nat → Int32) × (Nat → Int32)} {cb u : Nat → Int32} {cat wd : Int32} {asd : Nat → Int64} {th : Int32} {w1 w2 w3 mt : Nat → Int32} {mat : Int32} {vb td : Nat → Int32} {cm : Int32} {q : Snap} (hq : SnR q N) (g : Ring o st SS S B) (b10 : N 10 ≤ B) (b11 : N 11 ≤ B) (tx : TX t len) (tc : TB t len cb) (tm : TB t len mt) : Inv B (nI o, nI st, q, SS, tr, pl, (cb, u, nI len, cat, wd)) (lA N, lA S, asd, nI st, bI false, th, w1, w2, w3, mt, nI len, mat, vb, td, cm) := by
  obtain ⟨set, fac, dce, pm, sm, cel, ben, off, e, r⟩ := hq
  exact Inv.mk (set := set) (fac := fac) (dce := dce) (pm := pm) (sm := sm) (cel := cel) (ben := ben) (off := off) e r g b10 b11 tx tc tm
theorem cs_undo (Θ : Tht) {K : (Nat → Nat) × (Nat → Nat)} {ad am : Nat → Nat} {F : Nat} (hF : 1000000 < F) (hST : Θ.1.stackTraces = false) {B : Nat} {c : CSt} {μ : MSt} (inv : Inv B c μ)  : CaseI Θ K ad am yX5_undo (Cond.code yX5_undo cX5_undo 2 (some .int) :: GW) rmX5_undo [.ref (ad 0)] yX6_undo (Cond.code yX6_undo cX6_undo 2 (some .int) :: GW) rmX6_undo [.ref (am 0)] eS B c μ := by
  obtain ⟨N, S, t, o, st, len, set, fac, dce, pm, sm, cel, ben, off, SS, tr, pl, cb, u, cat, wd, asd, th, w1, w2, w3, mt, mat, vb, td, cm, rfl, rfl, r, g, b10, b11, tx, tc, tm⟩ := inv
  obtain ⟨t1, t2, t3, t4, t5, t6, t7, t8, t9⟩ := tr
  obtain ⟨p1, p2, p3, p4, p5, p6, p7, p8⟩ := pl
  have ho := g.1
  have hst := g.2.1
  have h1000 : 1000 < F := by omega
  have sv : SV F N S st false (svS S st N) (svT st) := SV.loud h1000 hst
  have g' := (ring_save g ⟨_, _, _, _, _, _, _, _, rfl, r⟩ b10 b11).mono (Nat.le_add_right B 20000)
  have g0 := g.mono (Nat.le_add_right B 20000)
  have h0 := r.1.1.2.1
  have h1 := r.1.1.2.2.2.1
  have h8 := r.1.2.2.2.1.1
  by_cases q : st = 0
  · subst q
    have hc : fX5_undo_xS (nI 0) = some () := by
      unfold fX5_undo_xS
      rw [if_neg (show ¬ (1 : Int32) ≤ nI 0 from nI_ge (a := 0) (b := 1) (by omega) (by omega))]
    exact ⟨1, _, _, _, (by first | exact ⟨by omega, fun h => absurd h (by omega)⟩ | exact ⟨by omega, fun _ => by decide +kernel⟩), Or.inr ⟨by omega, kC_undo_xS hST hc⟩, kM_undo (x6_undo0 F (lA N) (lA S)), rfl, Inv.mk (N := N) (S := S) (t := t) rfl r g0 (up20 b10) (up20 b11) tx tc tm⟩
  · obtain ⟨s, rfl⟩ : ∃ s, st = s + 1 := ⟨st - 1, by omega⟩
    obtain ⟨gs, gb, gc⟩ := g.2.2 s (by omega)
    have hk : (o + s) % 4 < 4 := Nat.mod_lt _ (by omega)
    have ha : nI (s + 1) - (1 : Int32) = nI s := nI_pred s
    have hfc := kC_undo (Θ := Θ) (KE := K) (ad := ad) (d_columns := nI (N 0)) (d_rows := nI (N 1)) (d_carrier := nI (N 2)) (d_partMarks := lN (N 14)) (d_linkMarks := lN (N 15)) (d_operations := nI (N 8)) (d_pilots := nI (N 13)) (d_settings := set) (d_facts := fac) (d_cells := dce) (p_pitches := nI pm) (p_spoiled := nI sm) (p_cells := cel) (p_bends := ben) (p_offsets := off) (p_strokes := nI (N 9)) (p_goodParts := nI (N 10)) (p_badParts := nI (N 11)) (p_slugs := nI (N 12)) (s_S := SS) (t_pitches := t1) (t_spoiled := t2) (t_cells := t3) (t_bends := t4) (t_offsets := t5) (t_strokes := t6) (t_goodParts := t7) (t_badParts := t8) (t_slugs := t9) (l_operations := p1) (l_limit := p2) (l_gap := p3) (l_bends := p4) (l_greatestForce := p5) (l_chosen := p6) (l_touching := p7) (l_forces := p8) (c_bytes := cb) (c_numbers := u) (c_length := nI len) (c_at := cat) (c_word := wd) hk (show (1 : Int32) ≤ nI (s + 1) from nI_le (a := 1) (by omega) (by omega)) ha (x5_svd (o := o) (a := s) ho (by omega))
    have hcong : ∀ j, j < 100 → (fun j => if j < 100 then S (100 * s + j) else N j) j = (fun j => S (100 * s + j)) j := fun j hj => if_pos hj
    exact ⟨0, _, _, _, (by first | exact ⟨by omega, fun h => absurd h (by omega)⟩ | exact ⟨by omega, fun _ => by decide +kernel⟩), Or.inl ⟨rfl, hfc⟩, kM_undo (x6_undo h1000 (show s < 4 by omega)), rfl, Inv.mkS (N := fun j => if j < 100 then S (100 * s + j) else N j) (S := S) (t := t) (SnR.cong hcong (gs.cp (snp N set fac dce pm sm cel ben off))) ⟨ho, by omega, fun a ha => g0.2.2 a (by omega)⟩ (by show S (100 * s + 10) ≤ _; exact up20 gb) (by show S (100 * s + 11) ≤ _; exact up20 gc) tx tc tm⟩
theorem cs_runCommands (Θ : Tht) {K : (Nat → Nat) × (Nat → Nat)} {ad am : Nat → Nat} {F : Nat} (hF : 1000000 < F) {B : Nat} (hB : B < 2 ^ 30) {c : CSt} {μ : MSt} (inv : Inv B c μ)  : ∃ v c' μ', CaseV Θ K ad am yX5_runCommands (Cond.code yX5_runCommands cX5_runCommands 3 (some .int) :: GW) rmX5_runCommands [.ref (ad 0)] yX6_runCommands (Cond.code yX6_runCommands cX6_runCommands 3 (some .int) :: GW) rmX6_runCommands [.ref (am 0)] (.int v) B c c' μ μ' := by
  obtain ⟨N, S, t, o, st, len, set, fac, dce, pm, sm, cel, ben, off, SS, tr, pl, cb, u, cat, wd, asd, th, w1, w2, w3, mt, mat, vb, td, cm, rfl, rfl, r, g, b10, b11, tx, tc, tm⟩ := inv
  obtain ⟨t1, t2, t3, t4, t5, t6, t7, t8, t9⟩ := tr
  obtain ⟨p1, p2, p3, p4, p5, p6, p7, p8⟩ := pl
  have ho := g.1
  have hst := g.2.1
  have h1000 : 1000 < F := by omega
  have sv : SV F N S st false (svS S st N) (svT st) := SV.loud h1000 hst
  have g' := (ring_save g ⟨_, _, _, _, _, _, _, _, rfl, r⟩ b10 b11).mono (Nat.le_add_right B 20000)
  have g0 := g.mono (Nat.le_add_right B 20000)
  have h0 := r.1.1.2.1
  have h1 := r.1.1.2.2.2.1
  have h8 := r.1.2.2.2.1.1
  have hl := tx.1
  obtain ⟨u', at', wd', e1⟩ := c_find (F' := F) tx tc h1000 31 0 0 u wd F (by omega) (by omega) (by omega) (by omega)
  obtain ⟨x, cc, vb', td', e2, e3, hcc, -, -, e4⟩ := m_read (F' := F) tx tm h1000 31 0 0 vb td F (by omega) (by omega) (by omega) (by omega)
  have hreads : fX6_reads F mt (nI len) vb td = rdK x := by
    unfold fX6_reads
    rw [bd1_e (show fX6_skips F mt (nI len) 0 = _ from m_skips tx tm (Nat.zero_le _) h1000), show lp (fX6_reads_l14 F mt (nI len)) F (nI (skp t len 0), vb, td, (0 : Int32)) = _ from e2]
    rfl
  obtain ⟨l1, l2⟩ := rdQ_lt (t := t) (len := len) 31 0 (Nat.zero_le _)
  cases hq : rdQ t len 31 0 with
  | inl f =>
    have hf := l1 f hq
    rw [hq] at e1 e3
    have hc1 : fX0_findFault F cb u (nI len) wd = some (nI f, u', at', wd') := by
      unfold fX0_findFault
      rw [show lp (fX0_findFault_l7 F cb (nI len)) F ((0 : Int32), u, (0 : Int32), wd) = _ from e1]
      rfl
    have hc : fX5_runCommands F (nI o) (nI st) (nI (N 0)) (nI (N 1)) (nI (N 2)) (lN (N 14)) (lN (N 15)) (nI (N 8)) (nI (N 13)) set fac dce (nI pm) (nI sm) cel ben off (nI (N 9)) (nI (N 10)) (nI (N 11)) (nI (N 12)) p1 p2 p3 p4 p5 p6 p7 p8 cb u (nI len) wd SS = some ((-10 : Int32) - nI f, nI o, nI st, nI (N 0), nI (N 1), lN (N 14), lN (N 15), nI (N 8), nI (N 13), fac, dce, nI pm, nI sm, cel, ben, off, nI (N 9), nI (N 10), nI (N 11), nI (N 12), p1, p2, p3, p4, p5, p6, p7, p8, u', at', wd', SS) := by
      unfold fX5_runCommands
      rw [bd4_e hc1, if_neg (fun z => by rw [eN_0, eN_s, eN_eq (by omega) (by omega)] at z; omega)]
    have hm : fX6_runCommands F (lA N) (lA S) (nI st) (bI false) w1 w2 w3 mt (nI len) vb td = some ((-10 : Int32) - nI f, lA N, lA S, nI st, bI false, 0, w1, w2, w3, nI f, vb', td', nI cc) := by
      unfold fX6_runCommands
      rw [hreads, bd5_e e3, if_neg (fun z => z nI_0)]
    exact ⟨_, _, _, kC_runCommands hc, kM_runCommands hm, Inv.mk (N := N) (S := S) (t := t) rfl r g0 (up20 b10) (up20 b11) tx tc tm⟩
  | inr m =>
    have hm5 := l2 m hq
    have hm30 : m ≤ 30 := by omega
    have hm450 : 450 * m ≤ 13500 := Nat.le_trans (Nat.mul_le_mul_left 450 hm30) (by decide)
    rw [hq] at e1 e3
    have hc1 : fX0_findFault F cb u (nI len) wd = some (-1, u', at', wd') := by
      unfold fX0_findFault
      rw [show lp (fX0_findFault_l7 F cb (nI len)) F ((0 : Int32), u, (0 : Int32), wd) = _ from e1]
      rfl
    have bnd1 : N 10 + 450 * m + 1000 < 2 ^ 31 := by omega
    have bnd2 : N 11 + 450 * m + 1000 < 2 ^ 31 := by omega
    obtain ⟨d, N', th', tr', be', tou', fac', dce', pm', sm', cel', ben', off', k1, k2, k3, k4, k5, lc', lt', lf', num', at2, wd2, r1, r2, r3, r4, r5, r6⟩ := run_b (F' := F) (S := svS S st N) (st := svT st) (m := m) (c2 := N 2) tx tc hF m 31 0 0 F N w1 w2 w3 fac dce pm sm cel ben off p1 p2 p3 p4 p5 p6 p7 p8 u' wd' (Nat.zero_add m) (by omega) (Nat.zero_le _) (by omega) (by omega) hq (e4 m hq) r rfl bnd1 bnd2
    have hc : fX5_runCommands F (nI o) (nI st) (nI (N 0)) (nI (N 1)) (nI (N 2)) (lN (N 14)) (lN (N 15)) (nI (N 8)) (nI (N 13)) set fac dce (nI pm) (nI sm) cel ben off (nI (N 9)) (nI (N 10)) (nI (N 11)) (nI (N 12)) p1 p2 p3 p4 p5 p6 p7 p8 cb u (nI len) wd SS = some (nI d, nI (svO o st), nI (svT st), nI (N' 0), nI (N' 1), lN (N' 14), lN (N' 15), nI (N' 8), nI (N' 13), fac', dce', nI pm', nI sm', cel', ben', off', nI (N' 9), nI (N' 10), nI (N' 11), nI (N' 12), k1, k2, k3, k4, k5, lc', lt', lf', num', at2, wd2, svF o st (snp N set fac dce pm sm cel ben off) SS) := by
      unfold fX5_runCommands
      rw [bd4_e hc1, if_pos rfl, bd3_e (x5_saveN ho hst), show lp (fX5_runCommands_l32 F (nI (N 2)) set cb (nI len)) F ((0 : Int32), nI (N 0), nI (N 1), lN (N 14), lN (N 15), nI (N 8), nI (N 13), fac, dce, nI pm, nI sm, cel, ben, off, nI (N 9), nI (N 10), nI (N 11), nI (N 12), p1, p2, p3, p4, p5, p6, p7, p8, u', (0 : Int32), wd') = _ from r2, bdS2_1, uc29_s]
    have hm : fX6_runCommands F (lA N) (lA S) (nI st) (bI false) w1 w2 w3 mt (nI len) vb td = some (nI d, lA N', lA (svS S st N), nI (svT st), bI false, 0, tr', be', tou', nI len, vb', td', nI (0 + m)) := by
      unfold fX6_runCommands
      rw [hreads, bd5_e e3, if_pos nn1, bd2_e sv]
      rw [show lp (fX6_runCommands_l33 F vb' td' (nI (0 + m))) F ((0 : Int32), (0 : Int32), lA N, lA (svS S st N), nI (svT st), (0 : Int32), w1, w2, w3) = some (nI d, lA N', lA (svS S st N), nI (svT st), nI th', tr', be', tou') by rw [Nat.zero_add]; exact r1, bd8_s]
      rfl
    have q10 : N' 10 ≤ B + 20000 := Nat.le_trans r5 (by omega)
    have q11 : N' 11 ≤ B + 20000 := Nat.le_trans r6 (by omega)
    exact ⟨_, _, _, kC_runCommands hc, kM_runCommands hm, Inv.mk (N := N') (S := svS S st N) (t := t) (by unfold snp; rw [r4]) r3 g' q10 q11 tx tc tm⟩
/-! the checksum -/
def hsh (h : Int64) (f : Nat → Int64) : Nat → Int64
  | 0 => h
  | n + 1 => (31 : Int64) * hsh h f n + f n
theorem lp_hsh {body : (Int64 × Int32) → Option ((Int64 × Int32) ⊕ Int64)} (f : Nat → Int64) (n : Nat) {h : Int64} {F : Nat} (hF : n < F) (hs : ∀ j x, j < n → body (x, nI j) = some (.inl ((31 : Int64) * x + f j, nI (j + 1)))) (he : ∀ x, body (x, nI n) = some (.inr x)) : lp body F (h, (0 : Int32)) = some (hsh h f n) :=
  lp_seqE (fun j => (hsh h f j, nI j)) rfl n (fun j hj => hs j _ hj) (he _) hF
def hop (N : Nat → Nat) (h : Int64) : Nat → Int64
  | 0 => h
  | o + 1 => hsh (hop N h o) (fun k => (opV N o k).toInt64) 8
def hst9 (N : Nat → Nat) (h : Int64) : Nat → Int64
  | 0 => h
  | s + 1 => (31 : Int64) * hsh (hsh (hst9 N h s) (fun k => (saV N s k).toInt64) 4) (fun k => (ptV N s k).toInt64) 4 + lN (N (60 + 5 * s + 1))
def hd5 (N : Nat → Nat) (st len : Nat) : Int64 := hst9 N (hop N (hsh (hsh ((401698 : Int64) + (nI st).toInt64) (fun k => (whV N len k).toInt64) 17) (fun k => lN (csV N k)) 6) (N 8)) 8
theorem bd1_inv {α : Type} {X : Option α} {v : α} (h : bd1 X (fun r => some (r, (0 : Int32))) = some (v, 0)) : X = some v := by
  cases X with
  | none => cases h
  | some a => cases h; rfl
theorem x6_scrapOf {F : Nat} {N : Nat → Nat} (hF : 1000 < F) (h : DW N) (tw : Bool) : fX6_scrapOf F (lA N) (bI tw) = some (scR N tw) := bd1_inv (x6_scrap hF h tw)
theorem c5_with {F : Nat} {N : Nat → Nat} {set fac : Nat → Int32} {dce : Nat → Int64} {pm sm : Nat} {cel : Nat → Int64} {ben off : Nat → Int32} (hF : 1000 < F) (r : RelS N set fac dce pm sm cel ben off) {s : Nat} (hs : s < 8) (h : Int64) : fX5_withStation F (nI (N 8)) (nI (N 13)) fac (nI pm) (nI sm) cel ben off h (nI s) = some ((31 : Int64) * hsh (hsh h (fun k => (saV N s k).toInt64) 4) (fun k => (ptV N s k).toInt64) 4 + lN (N (60 + 5 * s + 1))) := by
  unfold fX5_withStation
  rw [bd1_e (lp_hsh (F := F) (fun k => (saV N s k).toInt64) 4 (by omega) (fun j x hj => by
    unfold fX5_withStation_l6
    rw [uc2_s, il_3, if_neg (nI_nlt (by omega) (by omega)), bd1_e (c5_stat (F := F) (by omega) r hs (by omega)), nm_s, nI_1]) (fun x => by
    unfold fX5_withStation_l6
    rw [uc2_s, il_3, if_pos (nI_lt (by omega) (by omega))]))]
  rw [bd1_e (lp_hsh (F := F) (fun k => (ptV N s k).toInt64) 4 (by omega) (fun j x hj => by
    unfold fX5_withStation_l38
    rw [uc2_s, il_3, if_neg (nI_nlt (by omega) (by omega)), bd1_e (c5_pitch r hs (by omega)), nm_s, nI_1]) (fun x => by
    unfold fX5_withStation_l38
    rw [uc2_s, il_3, if_pos (nI_lt (by omega) (by omega))]))]
  rw [bd1_e (c5_left r hs)]
theorem c5_lops {F : Nat} {N : Nat → Nat} {set fac : Nat → Int32} {dce : Nat → Int64} {pm sm : Nat} {cel : Nat → Int64} {ben off : Nat → Int32} (hF : 1000 < F) (r : RelS N set fac dce pm sm cel ben off) (h : Int64) : lp (fX5_digest_l64 F (nI (N 0)) (nI (N 1)) (nI (N 8)) fac dce) F (h, (0 : Int32)) = some (hop N h (N 8)) := by
  have h8 := r.1.2.2.2.1.1
  exact lp_seqE (F := F) (fun o => (hop N h o, nI o)) rfl (N 8) (fun o ho => by
    unfold fX5_digest_l64
    rw [uc2_s, if_neg (nI_ge ho (by omega)), bd1_e (lp_hsh (fun k => (opV N o k).toInt64) 8 (by omega) (fun j x hj => by
      unfold fX5_digest_l81
      rw [uc2_s, il_7, if_neg (nI_nlt (by omega) (by omega)), bd1_e (c5_oper (F := F) (by omega) r ho (by omega)), nm_s, nI_1]) (fun x => by
      unfold fX5_digest_l81
      rw [uc2_s, il_7, if_pos (nI_lt (by omega) (by omega))])), nI_1]
    rfl) (by
    unfold fX5_digest_l64
    rw [uc2_s, if_pos (nI_le (Nat.le_refl _) (by omega))]) (by omega)
theorem c5_lsts {F : Nat} {N : Nat → Nat} {set fac : Nat → Int32} {dce : Nat → Int64} {pm sm : Nat} {cel : Nat → Int64} {ben off : Nat → Int32} (hF : 1000 < F) (r : RelS N set fac dce pm sm cel ben off) (h : Int64) : lp (fX5_digest_l117 F (nI (N 8)) (nI (N 13)) fac (nI pm) (nI sm) cel ben off) F (h, (0 : Int32)) = some (hst9 N h 8) := by
  exact lp_seqE (F := F) (fun s => (hst9 N h s, nI s)) rfl 8 (fun s hs => by
    unfold fX5_digest_l117
    rw [uc2_s, il_8, if_neg (nI_ge hs (by omega)), bd1_e (c5_with hF r hs _), nI_1]
    rfl) (by
    unfold fX5_digest_l117
    rw [uc2_s, il_8, if_pos (nI_le (Nat.le_refl _) (by omega))]) (by omega)
theorem x6_lops {F : Nat} {N : Nat → Nat} (h1000 : 1000 < F) (r : DW N) (h8 : N 8 ≤ 6) (h : Int64) : lp (fX6_digest_l70 F (lA N)) F (h, (0 : Int32)) = some (hop N h (N 8)) := by
  exact lp_seqE (F := F) (fun o => (hop N h o, nI o)) rfl (N 8) (fun o ho => by
    unfold fX6_digest_l70
    rw [uc2_s, bd1_e (many_8 N), if_neg (nI_ge ho (by omega)), bd1_e (lp_hsh (fun k => (opV N o k).toInt64) 8 (by omega) (fun j x hj => by
      unfold fX6_digest_l83
      rw [uc2_s, il_8, if_neg (nI_ge hj (by omega)), bd1_e (x6_opof h1000 r ho (by omega)), nm_s, nI_1]) (fun x => by
      unfold fX6_digest_l83
      rw [uc2_s, il_8, if_pos (nI_le (Nat.le_refl _) (by omega))])), nI_1]
    rfl) (by
    unfold fX6_digest_l70
    rw [uc2_s, bd1_e (many_8 N), if_pos (nI_le (Nat.le_refl _) (by omega))]) (by omega)
theorem x6_lsts {F : Nat} {N : Nat → Nat} (h1000 : 1000 < F) (r : DW N) (r2 : PW N) (h : Int64) : lp (fX6_digest_l119 F (lA N)) F (h, (0 : Int32)) = some (hst9 N h 8) := by
  exact lp_seqE (F := F) (fun s => (hst9 N h s, nI s)) rfl 8 (fun s hs => by
    unfold fX6_digest_l119
    rw [uc2_s, il_8, if_neg (nI_ge hs (by omega)), bd1_e (lp_hsh (fun k => (saV N s k).toInt64) 4 (by omega) (fun j x hj => by
      unfold fX6_digest_l128
      rw [uc2_s, il_4, if_neg (nI_ge hj (by omega)), bd1_e (x6_statof h1000 r hs (by omega)), nm_s, nI_1]) (fun x => by
      unfold fX6_digest_l128
      rw [uc2_s, il_4, if_pos (nI_le (Nat.le_refl _) (by omega))])), bd1_e (lp_hsh (fun k => (ptV N s k).toInt64) 4 (by omega) (fun j x hj => by
      unfold fX6_digest_l158
      rw [uc2_s, il_4, if_neg (nI_ge hj (by omega)), bd1_e (x6_ptof h1000 r r2 hs (by omega)), nm_s, nI_1]) (fun x => by
      unfold fX6_digest_l158
      rw [uc2_s, il_4, if_pos (nI_le (Nat.le_refl _) (by omega))])), bd1_e (show fX6_ofPitch (lA N) (nI s) 1 = _ from ofPitch_s (j := 1) (by omega)), nm_s, nI_1]
    rfl) (by
    unfold fX6_digest_l119
    rw [uc2_s, il_8, if_pos (nI_le (Nat.le_refl _) (by omega))]) (by omega)
theorem cs_digest (Θ : Tht) {K : (Nat → Nat) × (Nat → Nat)} {ad am : Nat → Nat} {F : Nat} (hF : 1000000 < F) {B : Nat} (hB : B < 2 ^ 30) {c : CSt} {μ : MSt} (inv : Inv B c μ)  : ∃ v c' μ', CaseV Θ K ad am yX5_digest (Cond.code yX5_digest cX5_digest 5 (some .long) :: GW) rmX5_digest [.ref (ad 0)] yX6_digest (Cond.code yX6_digest cX6_digest 5 (some .long) :: GW) rmX6_digest [.ref (am 0)] (.long v) B c c' μ μ' := by
  obtain ⟨N, S, t, o, st, len, set, fac, dce, pm, sm, cel, ben, off, SS, tr, pl, cb, u, cat, wd, asd, th, w1, w2, w3, mt, mat, vb, td, cm, rfl, rfl, r, g, b10, b11, tx, tc, tm⟩ := inv
  obtain ⟨t1, t2, t3, t4, t5, t6, t7, t8, t9⟩ := tr
  obtain ⟨p1, p2, p3, p4, p5, p6, p7, p8⟩ := pl
  have ho := g.1
  have hst := g.2.1
  have h1000 : 1000 < F := by omega
  have sv : SV F N S st false (svS S st N) (svT st) := SV.loud h1000 hst
  have g' := (ring_save g ⟨_, _, _, _, _, _, _, _, rfl, r⟩ b10 b11).mono (Nat.le_add_right B 20000)
  have g0 := g.mono (Nat.le_add_right B 20000)
  have h0 := r.1.1.2.1
  have h1 := r.1.1.2.2.2.1
  have h8 := r.1.2.2.2.1.1
  obtain ⟨rr, x1, x2, x3, x4, x5, ch', x7, x8, e1, r1⟩ := c5_planN (ch := p6) (tou := p7) (frc := p8) hF r
  obtain ⟨r2, tr', be', tou', e2, r3⟩ := x6_plans (F := F) (tr := w1) (be := w2) (tou := w3) hF r.1 (L := N 3) (by have := r.1.2.2.1; omega)
  obtain ⟨er, -⟩ := PlanRes.one r1 r3
  subst er
  have hfit := c5_fits (F := F) (by omega) r
  have hc : ∃ v, fX5_digest F (nI st) (nI (N 0)) (nI (N 1)) (nI (N 2)) (lN (N 14)) (lN (N 15)) (nI (N 8)) (nI (N 13)) set fac dce (nI pm) (nI sm) cel ben off (nI (N 9)) (nI (N 10)) (nI (N 11)) (nI (N 12)) p6 p7 p8 (nI len) = some (v, x1, x2, x3, x4, x5, ch', x7, x8) ∧ v = (31 : Int64) * ((31 : Int64) * ((31 : Int64) * ((31 : Int64) * ((31 : Int64) * ((31 : Int64) * hd5 N st len + (nI (fdS N)).toInt64) + (nI (pfS N)).toInt64) + rr.toInt64) + (if fiS N = true then nI 1 else nI 0).toInt64) + (scR N false).toInt64) + (scR N true).toInt64 := by
    refine ⟨_, ?_, rfl⟩
    unfold fX5_digest
    rw [nm_s]
    rw [bd1_e (lp_hsh (fun k => (whV N len k).toInt64) 17 (by omega) (fun j x hj => by
      unfold fX5_digest_l12
      rw [uc2_s, il_16, if_neg (nI_nlt (by omega) (by omega)), bd1_e (c5_whole h1000 r (by omega)), nm_s, nI_1]) (fun x => by
      unfold fX5_digest_l12
      rw [uc2_s, il_16, if_pos (nI_lt (by omega) (by omega))]))]
    rw [bd1_e (lp_hsh (fun k => lN (csV N k)) 6 (by omega) (fun j x hj => by
      unfold fX5_digest_l39
      rw [uc2_s, il_5, if_neg (nI_nlt (by omega) (by omega)), bd1_e (c5_cells (F := F) (by omega) r (by omega)), nm_s, nI_1]) (fun x => by
      unfold fX5_digest_l39
      rw [uc2_s, il_5, if_pos (nI_lt (by omega) (by omega))]))]
    rw [bd1_e (c5_lops (F := F) (by omega) r _)]
    rw [bd1_e (c5_lsts (F := F) h1000 r _)]
    unfold fX5_dieFault fX5_planFault
    rw [bd1_e (x1_fdie (by omega) r.1 r.2.2.1), bd1_s, nm_s, bd1_e (x1_pf (by omega) r.1 r.2.2.1), bd1_s, nm_s, bd9_e e1, nm_s, bd1_e hfit, nm_s, bd1_e (show fX5_scrap F (nI (N 0)) (nI (N 1)) (nI (N 2)) (lN (N 14)) (0 : Int32) = _ from x5_scrap h1000 r.1 false), nm_s, bd1_e (show fX5_scrap F (nI (N 0)) (nI (N 1)) (nI (N 2)) (lN (N 14)) (1 : Int32) = _ from x5_scrap h1000 r.1 true)]
    rfl
  have hm : ∃ v, fX6_digest F (lA N) (nI st) w1 w2 w3 (nI len) = some (v, 0, tr', be', tou') ∧ v = (31 : Int64) * ((31 : Int64) * ((31 : Int64) * ((31 : Int64) * ((31 : Int64) * ((31 : Int64) * hd5 N st len + (nI (fdS N)).toInt64) + (nI (pfS N)).toInt64) + rr.toInt64) + (if fiS N = true then nI 1 else nI 0).toInt64) + (scR N false).toInt64) + (scR N true).toInt64 := by
    refine ⟨_, ?_, rfl⟩
    unfold fX6_digest
    rw [nm_s]
    rw [bd1_e (lp_hsh (fun k => (whV N len k).toInt64) 17 (by omega) (fun j x hj => by
      unfold fX6_digest_l17
      rw [uc2_s, il_17, if_neg (nI_ge hj (by omega)), bd1_e (x6_whof h1000 r.1 (by omega)), nm_s, nI_1]) (fun x => by
      unfold fX6_digest_l17
      rw [uc2_s, il_17, if_pos (nI_le (Nat.le_refl _) (by omega))]))]
    rw [bd1_e (lp_hsh (fun k => lN (csV N k)) 6 (by omega) (fun j x hj => by
      unfold fX6_digest_l44
      rw [uc2_s, il_6, if_neg (nI_ge hj (by omega)), bd1_e (x6_setof h1000 r.1 (by omega)), nm_s, nI_1]) (fun x => by
      unfold fX6_digest_l44
      rw [uc2_s, il_6, if_pos (nI_le (Nat.le_refl _) (by omega))]))]
    rw [bd1_e (x6_lops (F := F) h1000 r.1 h8 _)]
    rw [bd1_e (x6_lsts (F := F) h1000 r.1 r.2.1 _)]
    rw [bd1_e (x6_fdie (by omega) r.1), bd1_e (x6_pf (by omega) r.1), nm_s, bd1_e (mset_0 N), bd4_e e2, bd1_e (x6_fits (by omega) r.1), nm_s, bd1_e (show fX6_scrapOf F (lA N) (0 : Int32) = _ from x6_scrapOf h1000 r.1 false), bd1_e (show fX6_scrapOf F (lA N) (1 : Int32) = _ from x6_scrapOf h1000 r.1 true)]
    rfl
  obtain ⟨v, hc, rfl⟩ := hc
  obtain ⟨v2, hm, rfl⟩ := hm
  exact ⟨_, _, _, kC_digest hc, kM_digest hm, Inv.mk (N := N) (S := S) (t := t) rfl r g0 (up20 b10) (up20 b11) tx tc tm⟩
