theorem cs_begin (Θ : Tht) {K : (Nat → Nat) × (Nat → Nat)} {ad am : Nat → Nat} {F : Nat} (hF : 1000000 < F) (hST : Θ.1.stackTraces = false) {B : Nat} {c : CSt} {μ : MSt} (inv : Inv B c μ) (a b : Int32) : CaseI Θ K ad am yX5_begin (Cond.code yX5_begin cX5_begin 4 (some .int) :: GW) rmX5_begin [.ref (ad 0), .int a, .int b] yX6_begin (Cond.code yX6_begin cX6_begin 5 (some .int) :: GW) rmX6_begin [.ref (am 0), .int a, .int b] eA B c μ := by
  obtain ⟨N, S, t, o, st, len, set, fac, dce, pm, sm, cel, ben, off, SS, tr, pl, cb, u, cat, wd, asd, th, w1, w2, w3, mt, mat, vb, td, cm, rfl, rfl, r, g, b10, b11, tx, tc, tm⟩ := inv
  obtain ⟨t1, t2, t3, t4, t5, t6, t7, t8, t9⟩ := tr
  obtain ⟨p1, p2, p3, p4, p5, p6, p7, p8⟩ := pl
  have ho := g.1
  have hst := g.2.1
  have h1000 : 1000 < F := by omega
  have sv : SV F N S st false (svS S st N) (svT st) := SV.loud h1000 hst
  have g' := (ring_save g ⟨_, _, _, _, _, _, _, _, rfl, r⟩ b10 b11).mono (Nat.le_add_right B 20000)
  have g0 := g.mono (Nat.le_add_right B 20000)
  have h0 := r.1.1.2.1
  have h1 := r.1.1.2.2.2.1
  have h8 := r.1.2.2.2.1.1
  by_cases q : 2 ≤ a.toInt ∧ a.toInt ≤ 10 ∧ 2 ≤ b.toInt ∧ b.toInt ≤ 6
  · obtain ⟨C, hC, rfl⟩ := i_nat (a := a) (by omega)
    obtain ⟨R, hR, rfl⟩ := i_nat (a := b) (by omega)
    have q0 := q
    rw [nI_toInt hC, nI_toInt hR] at q
    have qC : 2 ≤ C ∧ C ≤ 10 := by omega
    have qR : 2 ≤ R ∧ R ≤ 6 := by omega
    have hc : fX5_begin (nI o) (nI st) (nI (N 0)) (nI (N 1)) (nI (N 2)) (lN (N 14)) (lN (N 15)) (nI (N 8)) (nI (N 13)) set fac dce (nI pm) (nI sm) cel ben off (nI (N 9)) (nI (N 10)) (nI (N 11)) (nI (N 12)) SS (nI C) (nI R) = some (nI (N 8), nI (svO o st), nI (svT st), nI C, nI R, 0, 0, 0, 0, 0, 0, 0, 0, 0, 0, svF o st (snp N set fac dce pm sm cel ben off) SS) := by
      unfold fX5_begin
      rw [bd1_e x5_size, decide_eq_true q0, bI_t, if_pos nn1, bd3_e (x5_saveN ho hst), bd12_e (x5_over r.2.1 r.2.2.2.1)]
    exact ⟨0, _, _, _, (by first | exact ⟨by omega, fun h => absurd h (by omega)⟩ | exact ⟨by omega, fun _ => by decide +kernel⟩), Or.inl ⟨rfl, kC_begin hc⟩, kM_begin (x6_begin h1000 qC qR sv), rfl, Inv.mk (N := begN N C R) (S := svS S st N) (t := t) (rfl) (rl_begin qC qR r) g' (Nat.zero_le _) (Nat.zero_le _) tx tc tm⟩
  · have hc : fX5_begin_xA a b = some () := by
      unfold fX5_begin_xA
      rw [bd1_e x5_size, decide_eq_false q, bI_f, if_neg (fun z => z nI_0)]
    exact ⟨1, _, _, _, (by first | exact ⟨by omega, fun h => absurd h (by omega)⟩ | exact ⟨by omega, fun _ => by decide +kernel⟩), Or.inr ⟨by omega, kC_begin_xA hST hc⟩, kM_begin (F := F) (x6_begin_no q), rfl, Inv.mk (N := N) (S := S) (t := t) rfl r g0 (up20 b10) (up20 b11) tx tc tm⟩
theorem x6_mark_no2 {F : Nat} {N : Nat → Nat} {s : Nat → Int64} {st q x y w g m : Int32} (h : fX6_isRectangle (lA N) x y w g = some (nI 1)) (hm : ¬ (0 ≤ m.toInt ∧ m.toInt ≤ 2)) : fX6_mark F (lA N) s st q x y w g m = some (0, lA N, s, st, 1) := by
  unfold fX6_mark
  rw [bd1_e h, if_neg nn1, bd1_e (show fX6_in m 0 2 = _ from in_no (b := 0) (c := 2) (by omega) (by omega) hm), if_neg (fun z => z nI_0)]
  rfl
theorem cs_mark (Θ : Tht) {K : (Nat → Nat) × (Nat → Nat)} {ad am : Nat → Nat} {F : Nat} (hF : 1000000 < F) (hST : Θ.1.stackTraces = false) {B : Nat} {c : CSt} {μ : MSt} (inv : Inv B c μ) (x y w h m : Int32) : CaseI Θ K ad am yX5_mark (Cond.code yX5_mark cX5_mark 6 (some .int) :: GW) rmX5_mark [.ref (ad 0), .int x, .int y, .int w, .int h, .int m] yX6_mark (Cond.code yX6_mark cX6_mark 10 (some .int) :: GW) rmX6_mark [.ref (am 0), .int x, .int y, .int w, .int h, .int m] eA B c μ := by
  obtain ⟨N, S, t, o, st, len, set, fac, dce, pm, sm, cel, ben, off, SS, tr, pl, cb, u, cat, wd, asd, th, w1, w2, w3, mt, mat, vb, td, cm, rfl, rfl, r, g, b10, b11, tx, tc, tm⟩ := inv
  obtain ⟨t1, t2, t3, t4, t5, t6, t7, t8, t9⟩ := tr
  obtain ⟨p1, p2, p3, p4, p5, p6, p7, p8⟩ := pl
  have ho := g.1
  have hst := g.2.1
  have h1000 : 1000 < F := by omega
  have sv : SV F N S st false (svS S st N) (svT st) := SV.loud h1000 hst
  have g' := (ring_save g ⟨_, _, _, _, _, _, _, _, rfl, r⟩ b10 b11).mono (Nat.le_add_right B 20000)
  have g0 := g.mono (Nat.le_add_right B 20000)
  have h0 := r.1.1.2.1
  have h1 := r.1.1.2.2.2.1
  have h8 := r.1.2.2.2.1.1
  by_cases q : RcI (N 0) (N 1) x.toInt y.toInt w.toInt h.toInt
  · obtain ⟨x, y, w, h, rfl, rfl, rfl, rfl, qw, qh, qx, qy⟩ := RcI_nat h0 h1 q
    have hh : fX1_holds (nI (N 0)) (nI (N 1)) (nI x) (nI y) (nI w) (nI h) = some (nI 1) := x1_holds_y h0 h1 qw qh qx qy
    by_cases qm : 0 ≤ m.toInt ∧ m.toInt ≤ 2
    · obtain ⟨m, hm, rfl⟩ := i_nat (a := m) (by omega)
      rw [nI_toInt hm] at qm
      have hm2 : m ≤ 2 := by omega
      have hc : fX5_mark F (nI o) (nI st) (nI (N 0)) (nI (N 1)) (nI (N 2)) (lN (N 14)) (lN (N 15)) (nI (N 8)) (nI (N 13)) set fac dce (nI pm) (nI sm) cel ben off (nI (N 9)) (nI (N 10)) (nI (N 11)) (nI (N 12)) SS (nI x) (nI y) (nI w) (nI h) (nI m) = some (nI (mkC N (rcS (N 0) x y w h) m), nI (svO o st), nI (svT st), lN (mkP N (rcS (N 0) x y w h) m), lN (mkL N (rcS (N 0) x y w h) m), svF o st (snp N set fac dce pm sm cel ben off) SS) := by
        unfold fX5_mark
        rw [bd1_e hh, if_neg nn1, if_neg (nI_pos (by omega)), il_2, if_pos (nI_le hm2 (by omega)), bd3_e (x5_saveN ho hst), bd1_e (x1_rect (by omega) r.1.1.1 h0 h1 qx qy), bd3_e (x1_mark r.1 (rc_in r.1.1.1 qx qy) hm2)]
      exact ⟨0, _, _, _, (by first | exact ⟨by omega, fun h => absurd h (by omega)⟩ | exact ⟨by omega, fun _ => by decide +kernel⟩), Or.inl ⟨rfl, kC_mark hc⟩, kM_mark (x6_mark h1000 r.1 r.2.2.2.2 hm2 qw qh qx qy sv), rfl, Inv.mk (N := mkN N (rcS (N 0) x y w h) m) (S := svS S st N) (t := t) (rfl) (rl_mark (rc_in r.1.1.1 qx qy) r) g' (up20 b10) (up20 b11) tx tc tm⟩
    · have hc : fX5_mark_xA (nI (N 0)) (nI (N 1)) (nI x) (nI y) (nI w) (nI h) m = some () := by
        unfold fX5_mark_xA
        rw [bd1_e hh, if_neg nn1]
        by_cases z : m < 0
        · rw [if_pos z]
        · rw [if_neg z, if_neg (fun y => qm ⟨by rw [fa_lt] at z; exact Int.not_lt.mp z, by rw [il_2, fa_le, nI_toInt (by omega)] at y; exact y⟩)]
      exact ⟨1, _, _, _, (by first | exact ⟨by omega, fun h => absurd h (by omega)⟩ | exact ⟨by omega, fun _ => by decide +kernel⟩), Or.inr ⟨by omega, kC_mark_xA hST hc⟩, kM_mark (F := F) (x6_mark_no2 (x6_isrec_y r.1 qw qh qx qy) qm), rfl, Inv.mk (N := N) (S := S) (t := t) rfl r g0 (up20 b10) (up20 b11) tx tc tm⟩
  · have hc : fX5_mark_xA (nI (N 0)) (nI (N 1)) x y w h m = some () := by
      unfold fX5_mark_xA
      rw [bd1_e (x1_holds_no h0 h1 q), if_pos nI_0]
    exact ⟨1, _, _, _, (by first | exact ⟨by omega, fun h => absurd h (by omega)⟩ | exact ⟨by omega, fun _ => by decide +kernel⟩), Or.inr ⟨by omega, kC_mark_xA hST hc⟩, kM_mark (F := F) (x6_mark_no (x6_isrec_no r.1 q)), rfl, Inv.mk (N := N) (S := S) (t := t) rfl r g0 (up20 b10) (up20 b11) tx tc tm⟩
theorem cs_setCarrier (Θ : Tht) {K : (Nat → Nat) × (Nat → Nat)} {ad am : Nat → Nat} {F : Nat} (hF : 1000000 < F) (hST : Θ.1.stackTraces = false) {B : Nat} {c : CSt} {μ : MSt} (inv : Inv B c μ) (a : Int32) : CaseI Θ K ad am yX5_setCarrier (Cond.code yX5_setCarrier cX5_setCarrier 3 (some .int) :: GW) rmX5_setCarrier [.ref (ad 0), .int a] yX6_setCarrier (Cond.code yX6_setCarrier cX6_setCarrier 3 (some .int) :: GW) rmX6_setCarrier [.ref (am 0), .int a] eA B c μ := by
  obtain ⟨N, S, t, o, st, len, set, fac, dce, pm, sm, cel, ben, off, SS, tr, pl, cb, u, cat, wd, asd, th, w1, w2, w3, mt, mat, vb, td, cm, rfl, rfl, r, g, b10, b11, tx, tc, tm⟩ := inv
  obtain ⟨t1, t2, t3, t4, t5, t6, t7, t8, t9⟩ := tr
  obtain ⟨p1, p2, p3, p4, p5, p6, p7, p8⟩ := pl
  have ho := g.1
  have hst := g.2.1
  have h1000 : 1000 < F := by omega
  have sv : SV F N S st false (svS S st N) (svT st) := SV.loud h1000 hst
  have g' := (ring_save g ⟨_, _, _, _, _, _, _, _, rfl, r⟩ b10 b11).mono (Nat.le_add_right B 20000)
  have g0 := g.mono (Nat.le_add_right B 20000)
  have h0 := r.1.1.2.1
  have h1 := r.1.1.2.2.2.1
  have h8 := r.1.2.2.2.1.1
  by_cases q : 0 ≤ a.toInt ∧ a.toInt ≤ 2
  · obtain ⟨m, hm, rfl⟩ := i_nat (a := a) (by omega)
    rw [nI_toInt hm] at q
    have hm2 : m ≤ 2 := by omega
    have hc : fX5_setCarrier (nI o) (nI st) (nI (N 0)) (nI (N 1)) (nI (N 2)) (lN (N 14)) (lN (N 15)) (nI (N 8)) (nI (N 13)) set fac dce (nI pm) (nI sm) cel ben off (nI (N 9)) (nI (N 10)) (nI (N 11)) (nI (N 12)) SS (nI m) = some (nI (N 2), nI (svO o st), nI (svT st), nI m, svF o st (snp N set fac dce pm sm cel ben off) SS) := by
      unfold fX5_setCarrier
      rw [if_neg (nI_pos (by omega)), il_2, if_pos (nI_le hm2 (by omega)), bd3_e (x5_saveN ho hst)]
    exact ⟨0, _, _, _, (by first | exact ⟨by omega, fun h => absurd h (by omega)⟩ | exact ⟨by omega, fun _ => by decide +kernel⟩), Or.inl ⟨rfl, kC_setCarrier hc⟩, kM_setCarrier (x6_carr hm2 sv), rfl, Inv.mk (N := upN N 2 m) (S := svS S st N) (t := t) (rfl) (rl_carr hm2 r) g' (up20 b10) (up20 b11) tx tc tm⟩
  · have hc : fX5_setCarrier_xA a = some () := by
      unfold fX5_setCarrier_xA
      by_cases z : a < 0
      · rw [if_pos z]
      · rw [if_neg z, if_neg (fun y => q ⟨by rw [fa_lt] at z; exact Int.not_lt.mp z, by rw [il_2, fa_le, nI_toInt (by omega)] at y; exact y⟩)]
    exact ⟨1, _, _, _, (by first | exact ⟨by omega, fun h => absurd h (by omega)⟩ | exact ⟨by omega, fun _ => by decide +kernel⟩), Or.inr ⟨by omega, kC_setCarrier_xA hST hc⟩, kM_setCarrier (F := F) (x6_carr_no q), rfl, Inv.mk (N := N) (S := S) (t := t) rfl r g0 (up20 b10) (up20 b11) tx tc tm⟩
theorem x5_rng {v : Int32} {lo hi : Nat} (h1 : lo < 2 ^ 31) (h2 : hi < 2 ^ 31) : (if v < nI lo then some (0 : Int32) else (if nI hi < v then some (0 : Int32) else some (1 : Int32))) = some (bI (decide ((lo : Int) ≤ v.toInt ∧ v.toInt ≤ (hi : Int)))) := by
  by_cases q : v < nI lo
  · rw [if_pos q]
    rw [lt_i h1] at q
    rw [decide_eq_false (by omega)]
    rfl
  · rw [if_neg q]
    rw [lt_i h1] at q
    by_cases q2 : nI hi < v
    · rw [if_pos q2]
      rw [gt_i h2] at q2
      rw [decide_eq_false (by omega)]
      rfl
    · rw [if_neg q2]
      rw [gt_i h2] at q2
      rw [decide_eq_true (by omega)]
      rfl
theorem x5_isset {a v : Int32} (h : setOKi a.toInt v.toInt) : fX5_isSettingValue a v = some (nI 1) := by
  obtain ⟨k, hk, rfl⟩ := i_nat (a := a) (by unfold setOKi at h; omega)
  unfold setOKi at h
  rw [nI_toInt hk] at h
  have hk4 : k = 0 ∨ k = 1 ∨ k = 2 ∨ k = 3 ∨ k = 4 := by omega
  unfold fX5_isSettingValue
  rw [show (4 : Int) = ((4 : Nat) : Int) from rfl, tswN (n := 4) hk (by omega)]
  rcases hk4 with rfl | rfl | rfl | rfl | rfl
  · rw [tc_eq, show (1 : Int32) = nI 1 from rfl, il_999]
    refine (x5_rng (lo := 1) (hi := 999) (by omega) (by omega)).trans ?_
    rw [decide_eq_true (by omega)]; rfl
  · rw [tc_ne _ _ (by decide), tc_eq, il_3]
    refine (x5_rng (lo := 0) (hi := 3) (by omega) (by omega)).trans ?_
    rw [decide_eq_true (by omega)]; rfl
  · rw [tc_ne _ _ (by decide), tc_ne _ _ (by decide), tc_eq, il_9]
    refine (x5_rng (lo := 0) (hi := 9) (by omega) (by omega)).trans ?_
    rw [decide_eq_true (by omega)]; rfl
  · rw [tc_ne _ _ (by decide), tc_ne _ _ (by decide), tc_ne _ _ (by decide), tc_eq, il_50]
    refine (x5_rng (lo := 0) (hi := 50) (by omega) (by omega)).trans ?_
    rw [decide_eq_true (by omega)]; rfl
  · rw [tc_ne _ _ (by decide), tc_ne _ _ (by decide), tc_ne _ _ (by decide), tc_ne _ _ (by decide), tc_eq, il_50]
    refine (x5_rng (lo := 0) (hi := 50) (by omega) (by omega)).trans ?_
    rw [decide_eq_true (by omega)]; rfl
theorem x5_isset_no {a v : Int32} (h : ¬ setOKi a.toInt v.toInt) : fX5_isSettingValue a v = some (nI 0) := by
  unfold setOKi at h
  by_cases q : a.toInt < 0 ∨ 4 < a.toInt
  · unfold fX5_isSettingValue tsw
    rw [if_pos q]
    rfl
  · obtain ⟨k, hk, rfl⟩ := i_nat (a := a) (by omega)
    rw [nI_toInt hk] at h q
    have hk4 : k = 0 ∨ k = 1 ∨ k = 2 ∨ k = 3 ∨ k = 4 := by omega
    unfold fX5_isSettingValue
    rw [show (4 : Int) = ((4 : Nat) : Int) from rfl, tswN (n := 4) hk (by omega)]
    rcases hk4 with rfl | rfl | rfl | rfl | rfl
    · rw [tc_eq, show (1 : Int32) = nI 1 from rfl, il_999]
      refine (x5_rng (lo := 1) (hi := 999) (by omega) (by omega)).trans ?_
      rw [decide_eq_false (by omega)]; rfl
    · rw [tc_ne _ _ (by decide), tc_eq, il_3]
      refine (x5_rng (lo := 0) (hi := 3) (by omega) (by omega)).trans ?_
      rw [decide_eq_false (by omega)]; rfl
    · rw [tc_ne _ _ (by decide), tc_ne _ _ (by decide), tc_eq, il_9]
      refine (x5_rng (lo := 0) (hi := 9) (by omega) (by omega)).trans ?_
      rw [decide_eq_false (by omega)]; rfl
    · rw [tc_ne _ _ (by decide), tc_ne _ _ (by decide), tc_ne _ _ (by decide), tc_eq, il_50]
      refine (x5_rng (lo := 0) (hi := 50) (by omega) (by omega)).trans ?_
      rw [decide_eq_false (by omega)]; rfl
    · rw [tc_ne _ _ (by decide), tc_ne _ _ (by decide), tc_ne _ _ (by decide), tc_ne _ _ (by decide), tc_eq, il_50]
      refine (x5_rng (lo := 0) (hi := 50) (by omega) (by omega)).trans ?_
      rw [decide_eq_false (by omega)]; rfl
theorem x1_setn {N : Nat → Nat} {set fac : Nat → Int32} {dce : Nat → Int64} (cd : CD N set fac dce) {k : Nat} (hk : k < 5) : fX1_setting set (nI k) = some (nI (N (3 + k))) := by
  unfold fX1_setting
  rw [if_neg (nI_pos (by omega)), il_5, if_neg (nI_ge hk (by omega)), gd_nI hk (by omega), nI_clamp (by omega), cd.1 k hk]
theorem cs_set (Θ : Tht) {K : (Nat → Nat) × (Nat → Nat)} {ad am : Nat → Nat} {F : Nat} (hF : 1000000 < F) (hST : Θ.1.stackTraces = false) {B : Nat} {c : CSt} {μ : MSt} (inv : Inv B c μ) (a v : Int32) : CaseI Θ K ad am yX5_set (Cond.code yX5_set cX5_set 4 (some .int) :: GW) rmX5_set [.ref (ad 0), .int a, .int v] yX6_set (Cond.code yX6_set cX6_set 4 (some .int) :: GW) rmX6_set [.ref (am 0), .int a, .int v] eA B c μ := by
  obtain ⟨N, S, t, o, st, len, set, fac, dce, pm, sm, cel, ben, off, SS, tr, pl, cb, u, cat, wd, asd, th, w1, w2, w3, mt, mat, vb, td, cm, rfl, rfl, r, g, b10, b11, tx, tc, tm⟩ := inv
  obtain ⟨t1, t2, t3, t4, t5, t6, t7, t8, t9⟩ := tr
  obtain ⟨p1, p2, p3, p4, p5, p6, p7, p8⟩ := pl
  have ho := g.1
  have hst := g.2.1
  have h1000 : 1000 < F := by omega
  have sv : SV F N S st false (svS S st N) (svT st) := SV.loud h1000 hst
  have g' := (ring_save g ⟨_, _, _, _, _, _, _, _, rfl, r⟩ b10 b11).mono (Nat.le_add_right B 20000)
  have g0 := g.mono (Nat.le_add_right B 20000)
  have h0 := r.1.1.2.1
  have h1 := r.1.1.2.2.2.1
  have h8 := r.1.2.2.2.1.1
  by_cases q : setOKi a.toInt v.toInt
  · have q0 := q
    unfold setOKi at q
    obtain ⟨a, ha, rfl⟩ := i_nat (a := a) (by omega)
    obtain ⟨v, hv, rfl⟩ := i_nat (a := v) (by omega)
    rw [nI_toInt ha, nI_toInt hv] at q
    have qs : setOK a v := by unfold setOK; omega
    have ha5 : a < 5 := by omega
    have hc : fX5_set (nI o) (nI st) (nI (N 0)) (nI (N 1)) (nI (N 2)) (lN (N 14)) (lN (N 15)) (nI (N 8)) (nI (N 13)) set fac dce (nI pm) (nI sm) cel ben off (nI (N 9)) (nI (N 10)) (nI (N 11)) (nI (N 12)) SS (nI a) (nI v) = some (nI (N (3 + a)), nI (svO o st), nI (svT st), upd set a (nI v), svF o st (snp N set fac dce pm sm cel ben off) SS) := by
      unfold fX5_set
      rw [bd1_e (x5_isset q0), if_pos nn1, bd3_e (x5_saveN ho hst), bd1_e (x1_setn r.2.2.1 ha5), bd1_e (x1_chset ha5)]
    exact ⟨0, _, _, _, (by first | exact ⟨by omega, fun h => absurd h (by omega)⟩ | exact ⟨by omega, fun _ => by decide +kernel⟩), Or.inl ⟨rfl, kC_set hc⟩, kM_set (x6_set qs sv), rfl, Inv.mk (N := upN N (3 + a) (v)) (S := svS S st N) (t := t) (by unfold snp; rw [upN_n (by omega), upN_n (by omega), upN_n (by omega), upN_n (by omega), upN_n (by omega), upN_n (by omega), upN_n (by omega), upN_n (by omega), upN_n (by omega), upN_n (by omega), upN_n (by omega)]) (rl_set qs r) g' (by rw [upN_n (by omega)]; exact up20 b10) (by rw [upN_n (by omega)]; exact up20 b11) tx tc tm⟩
  · have hc : fX5_set_xA a v = some () := by
      unfold fX5_set_xA
      rw [bd1_e (x5_isset_no q), if_neg (fun z => z nI_0)]
    exact ⟨1, _, _, _, (by first | exact ⟨by omega, fun h => absurd h (by omega)⟩ | exact ⟨by omega, fun _ => by decide +kernel⟩), Or.inr ⟨by omega, kC_set_xA hST hc⟩, kM_set (F := F) (x6_set_no q), rfl, Inv.mk (N := N) (S := S) (t := t) rfl r g0 (up20 b10) (up20 b11) tx tc tm⟩
theorem cs_addPunch (Θ : Tht) {K : (Nat → Nat) × (Nat → Nat)} {ad am : Nat → Nat} {F : Nat} (hF : 1000000 < F) (hST : Θ.1.stackTraces = false) {B : Nat} {c : CSt} {μ : MSt} (inv : Inv B c μ) (x y w h : Int32) : CaseI Θ K ad am yX5_addPunch (Cond.code yX5_addPunch cX5_addPunch 5 (some .int) :: GW) rmX5_addPunch [.ref (ad 0), .int x, .int y, .int w, .int h] yX6_addPunch (Cond.code yX6_addPunch cX6_addPunch 5 (some .int) :: GW) rmX6_addPunch [.ref (am 0), .int x, .int y, .int w, .int h] eAS B c μ := by
  obtain ⟨N, S, t, o, st, len, set, fac, dce, pm, sm, cel, ben, off, SS, tr, pl, cb, u, cat, wd, asd, th, w1, w2, w3, mt, mat, vb, td, cm, rfl, rfl, r, g, b10, b11, tx, tc, tm⟩ := inv
  obtain ⟨t1, t2, t3, t4, t5, t6, t7, t8, t9⟩ := tr
  obtain ⟨p1, p2, p3, p4, p5, p6, p7, p8⟩ := pl
  have ho := g.1
  have hst := g.2.1
  have h1000 : 1000 < F := by omega
  have sv : SV F N S st false (svS S st N) (svT st) := SV.loud h1000 hst
  have g' := (ring_save g ⟨_, _, _, _, _, _, _, _, rfl, r⟩ b10 b11).mono (Nat.le_add_right B 20000)
  have g0 := g.mono (Nat.le_add_right B 20000)
  have h0 := r.1.1.2.1
  have h1 := r.1.1.2.2.2.1
  have h8 := r.1.2.2.2.1.1
  by_cases q : RcI (N 0) (N 1) x.toInt y.toInt w.toInt h.toInt
  · obtain ⟨x, y, w, h, rfl, rfl, rfl, rfl, qw, qh, qx, qy⟩ := RcI_nat h0 h1 q
    have hh : fX1_holds (nI (N 0)) (nI (N 1)) (nI x) (nI y) (nI w) (nI h) = some (nI 1) := x1_holds_y h0 h1 qw qh qx qy
    by_cases q6 : N 8 < 6
    · have hc : fX5_addPunch F (nI o) (nI st) (nI (N 0)) (nI (N 1)) (nI (N 2)) (lN (N 14)) (lN (N 15)) (nI (N 8)) (nI (N 13)) set fac dce (nI pm) (nI sm) cel ben off (nI (N 9)) (nI (N 10)) (nI (N 11)) (nI (N 12)) SS (nI x) (nI y) (nI w) (nI h) = some (nI (N 8), nI (svO o st), nI (svT st), nI (N 8 + 1), adF fac (N 8) 0 x y w h, vp_updL dce (N 8) (lN (rcS (N 0) x y w h)), svF o st (snp N set fac dce pm sm cel ben off) SS) := by
        unfold fX5_addPunch
        rw [bd1_e hh, if_pos nn1, bd1_e (x1_full h8), decide_eq_false (by omega), bI_f, if_pos nI_0, bd3_e (x5_saveN ho hst), bd4_e (show fX1_append F (nI (N 0)) (nI (N 1)) (nI (N 8)) fac dce (0 : Int32) (nI x) (nI y) (nI w) (nI h) = _ from x1_append (k := 0) (g := h) h1000 r.1 q6 (by omega) qx qy)]
      have hm : fX6_addPunch F (lA N) (lA S) (nI st) (bI false) (nI x) (nI y) (nI w) (nI h) = some (nI (N 8), lA (adN N 0 x y w h), lA (svS S st N), nI (svT st), 0) := by
        unfold fX6_addPunch
        rw [bd5_e (show fX6_adds F (lA N) (lA S) (nI st) (bI false) 0 (0 : Int32) (nI x) (nI y) (nI w) (nI h) = _ from x6_adds (q := false) (k := 0) (g := h) r.1 q6 (by omega) qw qh qx qy sv)]
      exact ⟨0, _, _, _, (by first | exact ⟨by omega, fun h => absurd h (by omega)⟩ | exact ⟨by omega, fun _ => by decide +kernel⟩), Or.inl ⟨rfl, kC_addPunch hc⟩, kM_addPunch hm, rfl, Inv.mk (N := adN N 0 x y w h) (S := svS S st N) (t := t) (by unfold snp; rw [ad_o (j := 0) (by omega) (by omega), ad_o (j := 1) (by omega) (by omega), ad_o (j := 2) (by omega) (by omega), ad_o (j := 14) (by omega) (by omega), ad_o (j := 15) (by omega) (by omega), ad_o (j := 13) (by omega) (by omega), ad_o (j := 9) (by omega) (by omega), ad_o (j := 10) (by omega) (by omega), ad_o (j := 11) (by omega) (by omega), ad_o (j := 12) (by omega) (by omega)]; rfl) (rl_adds q6 (by omega) qw qh qx qy r) g' (by rw [ad_o (by omega) (by omega)]; exact up20 b10) (by rw [ad_o (by omega) (by omega)]; exact up20 b11) tx tc tm⟩
    · have hc : fX5_addPunch_xS (nI (N 0)) (nI (N 1)) (nI (N 8)) (nI x) (nI y) (nI w) (nI h) = some () := by
        unfold fX5_addPunch_xS
        rw [bd1_e hh, if_pos nn1, bd1_e (x1_full h8), decide_eq_true (by omega), bI_t, if_neg nn1]
      have hm : fX6_addPunch F (lA N) (lA S) (nI st) (bI false) (nI x) (nI y) (nI w) (nI h) = some (0, lA N, lA S, nI st, 2) := by
        unfold fX6_addPunch
        rw [bd5_e (x6_adds_no2 (show fX6_isRectangle (lA N) (nI x) (nI y) (nI w) (nI h) = _ from x6_isrec_y (g := h) r.1 qw qh qx qy) (by omega))]
      exact ⟨2, _, _, _, (by first | exact ⟨by omega, fun h => absurd h (by omega)⟩ | exact ⟨by omega, fun _ => by decide +kernel⟩), Or.inr ⟨by omega, kC_addPunch_xS hST hc⟩, kM_addPunch hm, rfl, Inv.mk (N := N) (S := S) (t := t) rfl r g0 (up20 b10) (up20 b11) tx tc tm⟩
  · have hc : fX5_addPunch_xA (nI (N 0)) (nI (N 1)) x y w h = some () := by
      unfold fX5_addPunch_xA
      rw [bd1_e (x1_holds_no h0 h1 q), if_neg (fun z => z nI_0)]
    have hm : fX6_addPunch F (lA N) (lA S) (nI st) (bI false) x y w h = some (0, lA N, lA S, nI st, 1) := by
      unfold fX6_addPunch
      rw [bd5_e (x6_adds_no (x6_isrec_no r.1 q))]
    exact ⟨1, _, _, _, (by first | exact ⟨by omega, fun h => absurd h (by omega)⟩ | exact ⟨by omega, fun _ => by decide +kernel⟩), Or.inr ⟨by omega, kC_addPunch_xA hST hc⟩, kM_addPunch hm, rfl, Inv.mk (N := N) (S := S) (t := t) rfl r g0 (up20 b10) (up20 b11) tx tc tm⟩
theorem cs_addBend (Θ : Tht) {K : (Nat → Nat) × (Nat → Nat)} {ad am : Nat → Nat} {F : Nat} (hF : 1000000 < F) (hST : Θ.1.stackTraces = false) {B : Nat} {c : CSt} {μ : MSt} (inv : Inv B c μ) (x y w : Int32) : CaseI Θ K ad am yX5_addBend (Cond.code yX5_addBend cX5_addBend 4 (some .int) :: GW) rmX5_addBend [.ref (ad 0), .int x, .int y, .int w] yX6_addBend (Cond.code yX6_addBend cX6_addBend 4 (some .int) :: GW) rmX6_addBend [.ref (am 0), .int x, .int y, .int w] eAS B c μ := by
  obtain ⟨N, S, t, o, st, len, set, fac, dce, pm, sm, cel, ben, off, SS, tr, pl, cb, u, cat, wd, asd, th, w1, w2, w3, mt, mat, vb, td, cm, rfl, rfl, r, g, b10, b11, tx, tc, tm⟩ := inv
  obtain ⟨t1, t2, t3, t4, t5, t6, t7, t8, t9⟩ := tr
  obtain ⟨p1, p2, p3, p4, p5, p6, p7, p8⟩ := pl
  have ho := g.1
  have hst := g.2.1
  have h1000 : 1000 < F := by omega
  have sv : SV F N S st false (svS S st N) (svT st) := SV.loud h1000 hst
  have g' := (ring_save g ⟨_, _, _, _, _, _, _, _, rfl, r⟩ b10 b11).mono (Nat.le_add_right B 20000)
  have g0 := g.mono (Nat.le_add_right B 20000)
  have h0 := r.1.1.2.1
  have h1 := r.1.1.2.2.2.1
  have h8 := r.1.2.2.2.1.1
  by_cases q : RcI (N 0) (N 1) x.toInt y.toInt w.toInt (1 : Int32).toInt
  · obtain ⟨x, y, w, h, rfl, rfl, rfl, e1, qw, qh, qx, qy⟩ := RcI_nat h0 h1 q
    have e1 : h = 1 := by
      have := congrArg Int32.toInt e1
      rw [nI_toInt (show h < 2 ^ 31 by omega)] at this
      have e2 : (1 : Int32).toInt = 1 := by decide
      omega
    subst e1
    have hh : fX1_holds (nI (N 0)) (nI (N 1)) (nI x) (nI y) (nI w) (1 : Int32) = some (nI 1) := x1_holds_y h0 h1 qw qh qx qy
    by_cases q6 : N 8 < 6
    · have hc : fX5_addBend F (nI o) (nI st) (nI (N 0)) (nI (N 1)) (nI (N 2)) (lN (N 14)) (lN (N 15)) (nI (N 8)) (nI (N 13)) set fac dce (nI pm) (nI sm) cel ben off (nI (N 9)) (nI (N 10)) (nI (N 11)) (nI (N 12)) SS (nI x) (nI y) (nI w) = some (nI (N 8), nI (svO o st), nI (svT st), nI (N 8 + 1), adF fac (N 8) 1 x y w 1, vp_updL dce (N 8) (lN (rcS (N 0) x y w 1)), svF o st (snp N set fac dce pm sm cel ben off) SS) := by
        unfold fX5_addBend
        rw [bd1_e hh, if_pos nn1, bd1_e (x1_full h8), decide_eq_false (by omega), bI_f, if_pos nI_0, bd3_e (x5_saveN ho hst), bd4_e (show fX1_append F (nI (N 0)) (nI (N 1)) (nI (N 8)) fac dce (1 : Int32) (nI x) (nI y) (nI w) (1 : Int32) = _ from x1_append (k := 1) (g := 1) h1000 r.1 q6 (by omega) qx qy)]
      have hm : fX6_addBend F (lA N) (lA S) (nI st) (bI false) (nI x) (nI y) (nI w) = some (nI (N 8), lA (adN N 1 x y w 1), lA (svS S st N), nI (svT st), 0) := by
        unfold fX6_addBend
        rw [bd5_e (show fX6_adds F (lA N) (lA S) (nI st) (bI false) 0 (1 : Int32) (nI x) (nI y) (nI w) (1 : Int32) = _ from x6_adds (q := false) (k := 1) (g := 1) r.1 q6 (by omega) qw qh qx qy sv)]
      exact ⟨0, _, _, _, (by first | exact ⟨by omega, fun h => absurd h (by omega)⟩ | exact ⟨by omega, fun _ => by decide +kernel⟩), Or.inl ⟨rfl, kC_addBend hc⟩, kM_addBend hm, rfl, Inv.mk (N := adN N 1 x y w 1) (S := svS S st N) (t := t) (by unfold snp; rw [ad_o (j := 0) (by omega) (by omega), ad_o (j := 1) (by omega) (by omega), ad_o (j := 2) (by omega) (by omega), ad_o (j := 14) (by omega) (by omega), ad_o (j := 15) (by omega) (by omega), ad_o (j := 13) (by omega) (by omega), ad_o (j := 9) (by omega) (by omega), ad_o (j := 10) (by omega) (by omega), ad_o (j := 11) (by omega) (by omega), ad_o (j := 12) (by omega) (by omega)]; rfl) (rl_adds q6 (by omega) qw qh qx qy r) g' (by rw [ad_o (by omega) (by omega)]; exact up20 b10) (by rw [ad_o (by omega) (by omega)]; exact up20 b11) tx tc tm⟩
    · have hc : fX5_addBend_xS (nI (N 0)) (nI (N 1)) (nI (N 8)) (nI x) (nI y) (nI w) = some () := by
        unfold fX5_addBend_xS
        rw [bd1_e hh, if_pos nn1, bd1_e (x1_full h8), decide_eq_true (by omega), bI_t, if_neg nn1]
      have hm : fX6_addBend F (lA N) (lA S) (nI st) (bI false) (nI x) (nI y) (nI w) = some (0, lA N, lA S, nI st, 2) := by
        unfold fX6_addBend
        rw [bd5_e (x6_adds_no2 (show fX6_isRectangle (lA N) (nI x) (nI y) (nI w) (1 : Int32) = _ from x6_isrec_y (g := 1) r.1 qw qh qx qy) (by omega))]
      exact ⟨2, _, _, _, (by first | exact ⟨by omega, fun h => absurd h (by omega)⟩ | exact ⟨by omega, fun _ => by decide +kernel⟩), Or.inr ⟨by omega, kC_addBend_xS hST hc⟩, kM_addBend hm, rfl, Inv.mk (N := N) (S := S) (t := t) rfl r g0 (up20 b10) (up20 b11) tx tc tm⟩
  · have hc : fX5_addBend_xA (nI (N 0)) (nI (N 1)) x y w = some () := by
      unfold fX5_addBend_xA
      rw [bd1_e (x1_holds_no h0 h1 q), if_neg (fun z => z nI_0)]
    have hm : fX6_addBend F (lA N) (lA S) (nI st) (bI false) x y w = some (0, lA N, lA S, nI st, 1) := by
      unfold fX6_addBend
      rw [bd5_e (x6_adds_no (x6_isrec_no r.1 q))]
    exact ⟨1, _, _, _, (by first | exact ⟨by omega, fun h => absurd h (by omega)⟩ | exact ⟨by omega, fun _ => by decide +kernel⟩), Or.inr ⟨by omega, kC_addBend_xA hST hc⟩, kM_addBend hm, rfl, Inv.mk (N := N) (S := S) (t := t) rfl r g0 (up20 b10) (up20 b11) tx tc tm⟩
theorem dr_o {N : Nat → Nat} {a j : Nat} (h : j < 20) (h8 : j ≠ 8) : drN N a j = N j := by
  unfold drN
  rw [if_neg h8, if_neg (by omega), if_neg (by omega)]
theorem cs_dropOperation (Θ : Tht) {K : (Nat → Nat) × (Nat → Nat)} {ad am : Nat → Nat} {F : Nat} (hF : 1000000 < F) (hST : Θ.1.stackTraces = false) {B : Nat} {c : CSt} {μ : MSt} (inv : Inv B c μ) (a : Int32) : CaseI Θ K ad am yX5_dropOperation (Cond.code yX5_dropOperation cX5_dropOperation 2 (some .int) :: GW) rmX5_dropOperation [.ref (ad 0), .int a] yX6_dropOperation (Cond.code yX6_dropOperation cX6_dropOperation 7 (some .int) :: GW) rmX6_dropOperation [.ref (am 0), .int a] eB B c μ := by
  obtain ⟨N, S, t, o, st, len, set, fac, dce, pm, sm, cel, ben, off, SS, tr, pl, cb, u, cat, wd, asd, th, w1, w2, w3, mt, mat, vb, td, cm, rfl, rfl, r, g, b10, b11, tx, tc, tm⟩ := inv
  obtain ⟨t1, t2, t3, t4, t5, t6, t7, t8, t9⟩ := tr
  obtain ⟨p1, p2, p3, p4, p5, p6, p7, p8⟩ := pl
  have ho := g.1
  have hst := g.2.1
  have h1000 : 1000 < F := by omega
  have sv : SV F N S st false (svS S st N) (svT st) := SV.loud h1000 hst
  have g' := (ring_save g ⟨_, _, _, _, _, _, _, _, rfl, r⟩ b10 b11).mono (Nat.le_add_right B 20000)
  have g0 := g.mono (Nat.le_add_right B 20000)
  have h0 := r.1.1.2.1
  have h1 := r.1.1.2.2.2.1
  have h8 := r.1.2.2.2.1.1
  by_cases q : 0 ≤ a.toInt ∧ a.toInt < (N 8 : Int)
  · have q0 := q
    obtain ⟨a, ha, rfl⟩ := i_nat (a := a) (by omega)
    rw [nI_toInt ha] at q
    have qa : a < N 8 := by omega
    have hc : fX5_dropOperation F (nI o) (nI st) (nI (N 0)) (nI (N 1)) (nI (N 2)) (lN (N 14)) (lN (N 15)) (nI (N 8)) (nI (N 13)) set fac dce (nI pm) (nI sm) cel ben off (nI (N 9)) (nI (N 10)) (nI (N 11)) (nI (N 12)) SS (nI a) = some (nI (N 8 - 1), nI (svO o st), nI (svT st), nI (N 8 - 1), rmF 7 fac a (N 8 - 1), rmF 1 dce a (N 8 - 1), fgF ben a, svF o st (snp N set fac dce pm sm cel ben off) SS) := by
      unfold fX5_dropOperation
      rw [bd1_e (x1_hasop h8), decide_eq_true q0, bI_t, if_pos nn1, bd3_e (x5_saveN ho hst), bd3_e (x1_remove h1000 h8 qa), bd1_e (x3_forget h1000 (by omega))]
    exact ⟨0, _, _, _, (by first | exact ⟨by omega, fun h => absurd h (by omega)⟩ | exact ⟨by omega, fun _ => by decide +kernel⟩), Or.inl ⟨rfl, kC_dropOperation hc⟩, kM_dropOperation (x6_drop h1000 r.1 r.2.1 qa sv), rfl, Inv.mk (N := drN N a) (S := svS S st N) (t := t) (by unfold snp; rw [dr_o (j := 0) (by omega) (by omega), dr_o (j := 1) (by omega) (by omega), dr_o (j := 2) (by omega) (by omega), dr_o (j := 14) (by omega) (by omega), dr_o (j := 15) (by omega) (by omega), dr_o (j := 13) (by omega) (by omega), dr_o (j := 9) (by omega) (by omega), dr_o (j := 10) (by omega) (by omega), dr_o (j := 11) (by omega) (by omega), dr_o (j := 12) (by omega) (by omega)]; rfl) (rl_drop qa r) g' (by rw [dr_o (by omega) (by omega)]; exact up20 b10) (by rw [dr_o (by omega) (by omega)]; exact up20 b11) tx tc tm⟩
  · have hc : fX5_dropOperation_xB (nI (N 8)) a = some () := by
      unfold fX5_dropOperation_xB
      rw [bd1_e (x1_hasop h8), decide_eq_false q, bI_f, if_neg (fun z => z nI_0)]
    exact ⟨1, _, _, _, (by first | exact ⟨by omega, fun h => absurd h (by omega)⟩ | exact ⟨by omega, fun _ => by decide +kernel⟩), Or.inr ⟨by omega, kC_dropOperation_xB hST hc⟩, kM_dropOperation (F := F) (x6_drop_no h8 q), rfl, Inv.mk (N := N) (S := S) (t := t) rfl r g0 (up20 b10) (up20 b11) tx tc tm⟩
theorem x1_f6 {N : Nat → Nat} {set fac : Nat → Int32} {dce : Nat → Int64} (h : DW N) (cd : CD N set fac dce) {o : Nat} (ho : o < N 8) : fX1_fact fac (nI o) (6 : Int32) = some (eN (spN N o)) := x1_fact7 (k := 6) h cd ho (by omega)
theorem cs_setStation (Θ : Tht) {K : (Nat → Nat) × (Nat → Nat)} {ad am : Nat → Nat} {F : Nat} (hF : 1000000 < F) (hST : Θ.1.stackTraces = false) {B : Nat} {c : CSt} {μ : MSt} (inv : Inv B c μ) (a b : Int32) : CaseI Θ K ad am yX5_setStation (Cond.code yX5_setStation cX5_setStation 4 (some .int) :: GW) rmX5_setStation [.ref (ad 0), .int a, .int b] yX6_setStation (Cond.code yX6_setStation cX6_setStation 4 (some .int) :: GW) rmX6_setStation [.ref (am 0), .int a, .int b] eBA B c μ := by
  obtain ⟨N, S, t, o, st, len, set, fac, dce, pm, sm, cel, ben, off, SS, tr, pl, cb, u, cat, wd, asd, th, w1, w2, w3, mt, mat, vb, td, cm, rfl, rfl, r, g, b10, b11, tx, tc, tm⟩ := inv
  obtain ⟨t1, t2, t3, t4, t5, t6, t7, t8, t9⟩ := tr
  obtain ⟨p1, p2, p3, p4, p5, p6, p7, p8⟩ := pl
  have ho := g.1
  have hst := g.2.1
  have h1000 : 1000 < F := by omega
  have sv : SV F N S st false (svS S st N) (svT st) := SV.loud h1000 hst
  have g' := (ring_save g ⟨_, _, _, _, _, _, _, _, rfl, r⟩ b10 b11).mono (Nat.le_add_right B 20000)
  have g0 := g.mono (Nat.le_add_right B 20000)
  have h0 := r.1.1.2.1
  have h1 := r.1.1.2.2.2.1
  have h8 := r.1.2.2.2.1.1
  by_cases q : 0 ≤ a.toInt ∧ a.toInt < (N 8 : Int)
  · have q0 := q
    obtain ⟨a, ha, rfl⟩ := i_nat (a := a) (by omega)
    rw [nI_toInt ha] at q
    have qa : a < N 8 := by omega
    by_cases qb : -1 ≤ b.toInt ∧ b.toInt ≤ 7
    · obtain ⟨p, hp, rfl⟩ : ∃ p, p ≤ 8 ∧ b = eN p := by
        by_cases z : b.toInt = -1
        · exact ⟨0, by omega, by rw [fa_eq, eN_int (by omega), z]; rfl⟩
        · obtain ⟨k, hk, rfl⟩ := i_nat (a := b) (by omega)
          rw [nI_toInt hk] at qb
          exact ⟨k + 1, by omega, eN_s k⟩
      have hc : fX5_setStation (nI o) (nI st) (nI (N 0)) (nI (N 1)) (nI (N 2)) (lN (N 14)) (lN (N 15)) (nI (N 8)) (nI (N 13)) set fac dce (nI pm) (nI sm) cel ben off (nI (N 9)) (nI (N 10)) (nI (N 11)) (nI (N 12)) SS (nI a) (eN p) = some (eN (spN N a), nI (svO o st), nI (svT st), upd fac (7 * a + 6) (eN p), svF o st (snp N set fac dce pm sm cel ben off) SS) := by
        unfold fX5_setStation
        rw [bd1_e (x1_hasop h8), decide_eq_true q0, bI_t, if_pos nn1]
        by_cases z : p = 0
        · rw [if_pos (by rw [z, eN_0]), bd3_e (x5_saveN ho hst), bd1_e (x1_f6 r.1 r.2.2.1 qa), bd1_e (show fX1_changeFact fac (nI a) 6 (eN p) = _ from fac_at (j := 6) (by omega))]
        · rw [if_neg (fun y => z (by rw [eN_0, eN_eq (by omega) (by omega)] at y; exact y)), bd1_e x5_stat, decide_eq_true (by rw [eN_int (by omega)]; omega), bI_t, if_pos nn1, bd3_e (x5_saveN ho hst), bd1_e (x1_f6 r.1 r.2.2.1 qa), bd1_e (show fX1_changeFact fac (nI a) 6 (eN p) = _ from fac_at (j := 6) (by omega))]
      exact ⟨0, _, _, _, (by first | exact ⟨by omega, fun h => absurd h (by omega)⟩ | exact ⟨by omega, fun _ => by decide +kernel⟩), Or.inl ⟨rfl, kC_setStation hc⟩, kM_setStation (F := F) (x6_setst r.1 qa hp sv), rfl, Inv.mk (N := upN N (20 + 6 * a + 5) (stV p)) (S := svS S st N) (t := t) (by unfold snp; rw [upN_n (by omega), upN_n (by omega), upN_n (by omega), upN_n (by omega), upN_n (by omega), upN_n (by omega), upN_n (by omega), upN_n (by omega), upN_n (by omega), upN_n (by omega), upN_n (by omega)]) (rl_setst qa hp r) g' (by rw [upN_n (by omega)]; exact up20 b10) (by rw [upN_n (by omega)]; exact up20 b11) tx tc tm⟩
    · have hc : fX5_setStation_xA (nI (N 8)) (nI a) b = some () := by
        unfold fX5_setStation_xA
        rw [bd1_e (x1_hasop h8), decide_eq_true q0, bI_t, if_pos nn1, if_neg (fun z => qb (by rw [z]; decide)), bd1_e x5_stat, decide_eq_false (by omega), bI_f, if_neg (fun z => z nI_0)]
      exact ⟨2, _, _, _, (by first | exact ⟨by omega, fun h => absurd h (by omega)⟩ | exact ⟨by omega, fun _ => by decide +kernel⟩), Or.inr ⟨by omega, kC_setStation_xA hST hc⟩, kM_setStation (F := F) (x6_setst_no2 h8 qa qb), rfl, Inv.mk (N := N) (S := S) (t := t) rfl r g0 (up20 b10) (up20 b11) tx tc tm⟩
  · have hc : fX5_setStation_xB (nI (N 8)) a b = some () := by
      unfold fX5_setStation_xB
      rw [bd1_e (x1_hasop h8), decide_eq_false q, bI_f, if_neg (fun z => z nI_0)]
    exact ⟨1, _, _, _, (by first | exact ⟨by omega, fun h => absurd h (by omega)⟩ | exact ⟨by omega, fun _ => by decide +kernel⟩), Or.inr ⟨by omega, kC_setStation_xB hST hc⟩, kM_setStation (F := F) (x6_setst_no h8 q), rfl, Inv.mk (N := N) (S := S) (t := t) rfl r g0 (up20 b10) (up20 b11) tx tc tm⟩
theorem cs_usePlan (Θ : Tht) {K : (Nat → Nat) × (Nat → Nat)} {ad am : Nat → Nat} {F : Nat} (hF : 1000000 < F) (hST : Θ.1.stackTraces = false) {B : Nat} {c : CSt} {μ : MSt} (inv : Inv B c μ)  : CaseI Θ K ad am yX5_usePlan (Cond.code yX5_usePlan cX5_usePlan 2 (some .int) :: GW) rmX5_usePlan [.ref (ad 0)] yX6_usePlan (Cond.code yX6_usePlan cX6_usePlan 3 (some .int) :: GW) rmX6_usePlan [.ref (am 0)] eS B c μ := by
  obtain ⟨N, S, t, o, st, len, set, fac, dce, pm, sm, cel, ben, off, SS, tr, pl, cb, u, cat, wd, asd, th, w1, w2, w3, mt, mat, vb, td, cm, rfl, rfl, r, g, b10, b11, tx, tc, tm⟩ := inv
  obtain ⟨t1, t2, t3, t4, t5, t6, t7, t8, t9⟩ := tr
  obtain ⟨p1, p2, p3, p4, p5, p6, p7, p8⟩ := pl
  have ho := g.1
  have hst := g.2.1
  have h1000 : 1000 < F := by omega
  have sv : SV F N S st false (svS S st N) (svT st) := SV.loud h1000 hst
  have g' := (ring_save g ⟨_, _, _, _, _, _, _, _, rfl, r⟩ b10 b11).mono (Nat.le_add_right B 20000)
  have g0 := g.mono (Nat.le_add_right B 20000)
  have h0 := r.1.1.2.1
  have h1 := r.1.1.2.2.2.1
  have h8 := r.1.2.2.2.1.1
  obtain ⟨rr, x1, x2, x3, x4, x5, ch', x7, x8, e5, q5⟩ := x2_best (F := F) (ch := p6) (tou := p7) (frc := p8) hF r.1 r.2.2.1
  obtain ⟨r6, tr', be', tou', q6, alt⟩ := x6_use (F := F) (q := false) (tr := w1) (be := w2) (tou := w3) hF r.1 sv
  obtain ⟨er, ec⟩ := PlanRes.one q5 q6
  rcases alt with ⟨z, e6⟩ | ⟨z, cc, hcc, e6⟩
  · have hc : fX5_usePlan_xS F (nI (N 0)) (nI (N 1)) (nI (N 8)) set fac dce p6 p7 p8 = some (x1, x2, x3, x4, x5, ch', x7, x8) := by
      unfold fX5_usePlan_xS
      rw [bd9_e e5, if_neg (nn (show rr = -1 by rw [er, z, eN_0]))]
    exact ⟨1, _, _, _, (by first | exact ⟨by omega, fun h => absurd h (by omega)⟩ | exact ⟨by omega, fun _ => by decide +kernel⟩), Or.inr ⟨by omega, kC_usePlan_xS hST hc⟩, kM_usePlan e6, rfl, Inv.mk (N := N) (S := S) (t := t) rfl r g0 (up20 b10) (up20 b11) tx tc tm⟩
  · have hc : fX5_usePlan F (nI o) (nI st) (nI (N 0)) (nI (N 1)) (nI (N 2)) (lN (N 14)) (lN (N 15)) (nI (N 8)) (nI (N 13)) set fac dce (nI pm) (nI sm) cel ben off (nI (N 9)) (nI (N 10)) (nI (N 11)) (nI (N 12)) p6 p7 p8 SS = some (rr, nI (svO o st), nI (svT st), puF fac ch' (N 8), x1, x2, x3, x4, x5, ch', x7, x8, svF o st (snp N set fac dce pm sm cel ben off) SS) := by
      unfold fX5_usePlan
      rw [bd9_e e5, if_pos (show ¬ rr = -1 by rw [er, eN_0]; exact z), bd3_e (x5_saveN ho hst), bd1_e (x2_put h1000 h8)]
    rw [er] at hc
    exact ⟨0, _, _, _, (by first | exact ⟨by omega, fun h => absurd h (by omega)⟩ | exact ⟨by omega, fun _ => by decide +kernel⟩), Or.inl ⟨rfl, kC_usePlan hc⟩, kM_usePlan e6, rfl, Inv.mk (N := usN N cc) (S := svS S st N) (t := t) (by unfold snp; rw [us_o (by omega), us_o (by omega), us_o (by omega), us_o (by omega), us_o (by omega), us_o (by omega), us_o (by omega), us_o (by omega), us_o (by omega), us_o (by omega), us_o (by omega)]) (rl_use (fun j hj => by rw [ec (by rw [er]; exact z) j hj]; exact hcc j hj) r) g' (by rw [us_o (by omega)]; exact up20 b10) (by rw [us_o (by omega)]; exact up20 b11) tx tc tm⟩
theorem cs_setPilot (Θ : Tht) {K : (Nat → Nat) × (Nat → Nat)} {ad am : Nat → Nat} {F : Nat} (hF : 1000000 < F) (hST : Θ.1.stackTraces = false) {B : Nat} {c : CSt} {μ : MSt} (inv : Inv B c μ) (a : Int32) (b : Bool) : CaseI Θ K ad am yX5_setPilot (Cond.code yX5_setPilot cX5_setPilot 3 (some .int) :: GW) rmX5_setPilot [.ref (ad 0), .int a, .int (bI b)] yX6_setPilot (Cond.code yX6_setPilot cX6_setPilot 3 (some .int) :: GW) rmX6_setPilot [.ref (am 0), .int a, .int (bI b)] eA B c μ := by
  obtain ⟨N, S, t, o, st, len, set, fac, dce, pm, sm, cel, ben, off, SS, tr, pl, cb, u, cat, wd, asd, th, w1, w2, w3, mt, mat, vb, td, cm, rfl, rfl, r, g, b10, b11, tx, tc, tm⟩ := inv
  obtain ⟨t1, t2, t3, t4, t5, t6, t7, t8, t9⟩ := tr
  obtain ⟨p1, p2, p3, p4, p5, p6, p7, p8⟩ := pl
  have ho := g.1
  have hst := g.2.1
  have h1000 : 1000 < F := by omega
  have sv : SV F N S st false (svS S st N) (svT st) := SV.loud h1000 hst
  have g' := (ring_save g ⟨_, _, _, _, _, _, _, _, rfl, r⟩ b10 b11).mono (Nat.le_add_right B 20000)
  have g0 := g.mono (Nat.le_add_right B 20000)
  have h0 := r.1.1.2.1
  have h1 := r.1.1.2.2.2.1
  have h8 := r.1.2.2.2.1.1
  by_cases q : 0 ≤ a.toInt ∧ a.toInt ≤ 7
  · have q0 := q
    obtain ⟨a, ha, rfl⟩ := i_nat (a := a) (by omega)
    rw [nI_toInt ha] at q
    have qa : a < 8 := by omega
    have hc : fX5_setPilot (nI o) (nI st) (nI (N 0)) (nI (N 1)) (nI (N 2)) (lN (N 14)) (lN (N 15)) (nI (N 8)) (nI (N 13)) set fac dce (nI pm) (nI sm) cel ben off (nI (N 9)) (nI (N 10)) (nI (N 11)) (nI (N 12)) SS (nI a) (bI b) = some (nI (pcS (piS N a b)), nI (svO o st), nI (svT st), nI (piS N a b), svF o st (snp N set fac dce pm sm cel ben off) SS) := by
      unfold fX5_setPilot
      rw [bd1_e x5_stat, decide_eq_true q0, bI_t, if_pos nn1, bd3_e (x5_saveN ho hst), bd1_e (x1_pil r.1 qa b), bd1_e (x_cnt8 (pi_lt r.1 qa b))]
    exact ⟨0, _, _, _, (by first | exact ⟨by omega, fun h => absurd h (by omega)⟩ | exact ⟨by omega, fun _ => by decide +kernel⟩), Or.inl ⟨rfl, kC_setPilot hc⟩, kM_setPilot (x6_setpil h1000 r.1 qa sv), rfl, Inv.mk (N := upN N 13 (piS N a b)) (S := svS S st N) (t := t) (rfl) (rl_pil qa b r) g' (up20 b10) (up20 b11) tx tc tm⟩
  · have hc : fX5_setPilot_xA a (bI b) = some () := by
      unfold fX5_setPilot_xA
      rw [bd1_e x5_stat, decide_eq_false q, bI_f, if_neg (fun z => z nI_0)]
    exact ⟨1, _, _, _, (by first | exact ⟨by omega, fun h => absurd h (by omega)⟩ | exact ⟨by omega, fun _ => by decide +kernel⟩), Or.inr ⟨by omega, kC_setPilot_xA hST hc⟩, kM_setPilot (F := F) (x6_setpil_no q), rfl, Inv.mk (N := N) (S := S) (t := t) rfl r g0 (up20 b10) (up20 b11) tx tc tm⟩
theorem cs_stroke (Θ : Tht) {K : (Nat → Nat) × (Nat → Nat)} {ad am : Nat → Nat} {F : Nat} (hF : 1000000 < F) {B : Nat} (hB : B < 2 ^ 30) {c : CSt} {μ : MSt} (inv : Inv B c μ)  : ∃ v c' μ', CaseV Θ K ad am yX5_stroke (Cond.code yX5_stroke cX5_stroke 1 (some .int) :: GW) rmX5_stroke [.ref (ad 0)] yX6_stroke (Cond.code yX6_stroke cX6_stroke 1 (some .int) :: GW) rmX6_stroke [.ref (am 0)] (.int v) B c c' μ μ' := by
  obtain ⟨N, S, t, o, st, len, set, fac, dce, pm, sm, cel, ben, off, SS, tr, pl, cb, u, cat, wd, asd, th, w1, w2, w3, mt, mat, vb, td, cm, rfl, rfl, r, g, b10, b11, tx, tc, tm⟩ := inv
  obtain ⟨t1, t2, t3, t4, t5, t6, t7, t8, t9⟩ := tr
  obtain ⟨p1, p2, p3, p4, p5, p6, p7, p8⟩ := pl
  have ho := g.1
  have hst := g.2.1
  have h1000 : 1000 < F := by omega
  have sv : SV F N S st false (svS S st N) (svT st) := SV.loud h1000 hst
  have g' := (ring_save g ⟨_, _, _, _, _, _, _, _, rfl, r⟩ b10 b11).mono (Nat.le_add_right B 20000)
  have g0 := g.mono (Nat.le_add_right B 20000)
  have h0 := r.1.1.2.1
  have h1 := r.1.1.2.2.2.1
  have h8 := r.1.2.2.2.1.1
  obtain ⟨pm', sm', cel', ben', off', e1, r'⟩ := rl_stroke (F := F) h1000 r (by omega) (by omega)
  have e2 := nx_s (F := F) (by omega) r.1 r.2.1
  have ed := e2.2.1
  have hcn := st_cnt e2.2
  have hc : fX5_stroke F (nI o) (nI st) (nI (N 0)) (nI (N 1)) (nI (N 2)) (lN (N 14)) (lN (N 15)) (nI (N 8)) (nI (N 13)) set fac dce (nI pm) (nI sm) cel ben off (nI (N 9)) (nI (N 10)) (nI (N 11)) (nI (N 12)) SS = some (nI (strokeR N), nI (svO o st), nI (svT st), nI pm', nI sm', cel', ben', off', nI (nx F N 9), nI (nx F N 10), nI (nx F N 11), nI (nx F N 12), svF o st (snp N set fac dce pm sm cel ben off) SS) := by
    unfold fX5_stroke
    rw [bd3_e (x5_saveN ho hst), bd10_e e1]
  exact ⟨_, _, _, kC_stroke hc, kM_stroke (x6_stroke h1000 r.1 r.2.1 sv), Inv.mk (N := nx F N) (S := svS S st N) (t := t) (by unfold snp; rw [e_i ed (j := 0) (by omega) (by omega), e_i ed (j := 1) (by omega) (by omega), e_i ed (j := 2) (by omega) (by omega), e_i ed (j := 14) (by omega) (by omega), e_i ed (j := 15) (by omega) (by omega), e_i ed (j := 8) (by omega) (by omega), e_i ed (j := 13) (by omega) (by omega)]) (r') g' (by omega) (by omega) tx tc tm⟩
theorem cs_emptyPress (Θ : Tht) {K : (Nat → Nat) × (Nat → Nat)} {ad am : Nat → Nat} {F : Nat} (hF : 1000000 < F) {B : Nat} (hB : B < 2 ^ 30) {c : CSt} {μ : MSt} (inv : Inv B c μ)  : ∃ v c' μ', CaseV Θ K ad am yX5_emptyPress (Cond.code yX5_emptyPress cX5_emptyPress 2 (some .int) :: GW) rmX5_emptyPress [.ref (ad 0)] yX6_emptyPress (Cond.code yX6_emptyPress cX6_emptyPress 3 (some .int) :: GW) rmX6_emptyPress [.ref (am 0)] (.int v) B c c' μ μ' := by
  obtain ⟨N, S, t, o, st, len, set, fac, dce, pm, sm, cel, ben, off, SS, tr, pl, cb, u, cat, wd, asd, th, w1, w2, w3, mt, mat, vb, td, cm, rfl, rfl, r, g, b10, b11, tx, tc, tm⟩ := inv
  obtain ⟨t1, t2, t3, t4, t5, t6, t7, t8, t9⟩ := tr
  obtain ⟨p1, p2, p3, p4, p5, p6, p7, p8⟩ := pl
  have ho := g.1
  have hst := g.2.1
  have h1000 : 1000 < F := by omega
  have sv : SV F N S st false (svS S st N) (svT st) := SV.loud h1000 hst
  have g' := (ring_save g ⟨_, _, _, _, _, _, _, _, rfl, r⟩ b10 b11).mono (Nat.le_add_right B 20000)
  have g0 := g.mono (Nat.le_add_right B 20000)
  have h0 := r.1.1.2.1
  have h1 := r.1.1.2.2.2.1
  have h8 := r.1.2.2.2.1.1
  have hp8 := pts_le r.2.1
  have hc : fX5_emptyPress (nI o) (nI st) (nI (N 0)) (nI (N 1)) (nI (N 2)) (lN (N 14)) (lN (N 15)) (nI (N 8)) (nI (N 13)) set fac dce (nI pm) (nI sm) cel ben off (nI (N 9)) (nI (N 10)) (nI (N 11)) (nI (N 12)) SS = some (nI (ptS N), nI (svO o st), nI (svT st), 0, 0, nI (N 11 + ptS N), svF o st (snp N set fac dce pm sm cel ben off) SS) := by
    unfold fX5_emptyPress
    rw [bd3_e (x5_saveN ho hst), bd3_e (x3_clear r.2.1 r.2.2.2.1), nm_s, nI_add]
  exact ⟨_, _, _, kC_emptyPress hc, kM_emptyPress (x6_empty h1000 r.2.1 sv), Inv.mk (N := emN N) (S := svS S st N) (t := t) (rfl) (rl_empty r) g' (up20 b10) (by show N 11 + ptS N ≤ B + 20000; omega) tx tc tm⟩
