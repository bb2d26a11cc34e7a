def sgO (N : Nat → Nat) (o : Nat) : Nat := if spN N o ≠ 0 ∧ tB N (spN N o - 1) = true then sgS N (spN N o - 1) o else 0
theorem sm_one (v a : Nat) : ∀ n, fb_sm (fun s => if a = s + 1 then v else 0) n = if a ≠ 0 ∧ a ≤ n then v else 0
  | 0 => by
    show 0 = _
    rw [if_neg (by omega)]
  | n + 1 => by
    rw [fb_sm_succ, sm_one v a n]
    by_cases q : a = n + 1
    · rw [if_pos q, if_neg (by omega), if_pos (by omega), Nat.zero_add]
    · rw [if_neg q, Nat.add_zero]
      by_cases q2 : a ≠ 0 ∧ a ≤ n
      · rw [if_pos q2, if_pos (by omega)]
      · rw [if_neg q2, if_neg (by omega)]
theorem slug_eq (N : Nat → Nat) : slugS N 8 = fb_sm (sgO N) (N 8) := by
  have key : ∀ n, fb_sm (fun s => if tB N s = true then fb_sm (sgS N s) n else 0) 8 = fb_sm (sgO N) n := by
    intro n
    induction n with
    | zero =>
      have : fb_sm (fun s => if tB N s = true then fb_sm (sgS N s) 0 else 0) 8 = fb_sm (fun _ => 0) 8 := fb_sm_cong (fun k _ => by
        show (if tB N k = true then 0 else 0) = 0
        split <;> rfl)
      rw [this, fb_sm_const]; rfl
    | succ n ih =>
      have e : fb_sm (fun s => if tB N s = true then fb_sm (sgS N s) (n + 1) else 0) 8 = fb_sm (fun s => (if tB N s = true then fb_sm (sgS N s) n else 0) + (if spN N n = s + 1 then (if tB N (spN N n - 1) = true then sgS N (spN N n - 1) n else 0) else 0)) 8 := fb_sm_cong (fun s _ => by
        show (if tB N s = true then fb_sm (sgS N s) n + sgS N s n else 0) = _
        by_cases q : spN N n = s + 1
        · rw [if_pos q, show spN N n - 1 = s by omega]
          by_cases z : tB N s = true
          · rw [if_pos z, if_pos z, if_pos z]
          · rw [if_neg z, if_neg z, if_neg z]
        · rw [if_neg q, Nat.add_zero]
          have : sgS N s n = 0 := by unfold sgS; rw [if_neg (fun y => q y.1)]
          rw [this, Nat.add_zero])
      rw [e, fb_sm_add, ih, sm_one, fb_sm_succ]
      congr 1
      have sl := spN_le N n
      unfold sgO
      by_cases q : spN N n = 0
      · rw [if_neg (by omega), if_neg (by omega)]
      · rw [if_pos ⟨q, sl⟩]
        by_cases z : tB N (spN N n - 1) = true
        · rw [if_pos z, if_pos ⟨q, z⟩]
        · rw [if_neg z, if_neg (fun y => z y.2)]
  exact key (N 8)
/-- some operation ahead of o has the station of code p -/
def anB (N : Nat → Nat) (p o : Nat) : Bool := exB (fun j => decide (spN N j = p)) o
/-- the press behind the first o operations -/
def AW (N : Nat → Nat) (o sm : Nat) (cel : Nat → Int64) (ben off : Nat → Int32) : Prop := ∀ s, s < 8 → tB N s = true → cel s = lN (sdf (mvS N s 1) (puS N (s + 1) o)) ∧ ben s = nI (mvS N s 2 ||| beS N (s + 1) o) ∧ off s = nI (of1 N s) ∧ sm.testBit s = (decide (sp1 N s = 1) || (anB N (s + 1) o && decide (N 7 < of1 N s)))
theorem of_le {N : Nat → Nat} (w : PW N) (h : DW N) {s : Nat} (hs : s < 8) : of1 N s ≤ 9 * s ∧ sp1 N s ≤ 1 := by
  have mv := al_tw w h hs
  unfold of1 sp1
  constructor
  · split <;> omega
  · split <;> omega
theorem x3_work {F : Nat} {N : Nat → Nat} {set fac : Nat → Int32} {dce : Nat → Int64} {pm sm : Nat} {cel : Nat → Int64} {ben off : Nat → Int32} (hF : 100 < F) (h : DW N) (c : CD N set fac dce) (w : PW N) (hp : pm < 256) (hs : sm < 256) (hsub : ∀ s, sm.testBit s = true → pm.testBit s = true) (hb : ∀ s, s < 8 → pm.testBit s = tB N s) (a : AW N 0 sm cel ben off) : ∃ sm' cel' ben' off', fX3_work F (nI pm) (nI sm) cel ben off (nI (N 12)) (nI (N 8)) set fac dce = some (nI sm', cel', ben', off', nI (N 12 + fb_sm (sgO N) (N 8))) ∧ sm' < 256 ∧ (∀ s, sm'.testBit s = true → pm.testBit s = true) ∧ AW N (N 8) sm' cel' ben' off' := by
  have h8 := h.2.2.2.1.1
  have g7 : N 7 ≤ 50 := h.2.2.1.2.2.2.2.2
  unfold fX3_work
  have L : ∃ x, lp (fX3_work_l2 (nI pm) (nI (N 8)) set fac dce) F (nI 0, nI sm, cel, ben, off, nI (N 12)) = some x ∧ ∃ sm' cel' ben' off', x = (nI sm', cel', ben', off', nI (N 12 + fb_sm (sgO N) (N 8))) ∧ sm' < 256 ∧ (∀ s, sm'.testBit s = true → pm.testBit s = true) ∧ AW N (N 8) sm' cel' ben' off' := by
    refine lp_cnt (fun o x => ∃ sm' cel' ben' off', x = (nI o, nI sm', cel', ben', off', nI (N 12 + fb_sm (sgO N) o)) ∧ sm' < 256 ∧ (∀ s, sm'.testBit s = true → pm.testBit s = true) ∧ AW N o sm' cel' ben' off') (N 8) _ ?_ ?_ ⟨sm, cel, ben, off, rfl, hs, hsub, a⟩ (by omega)
    · rintro o ho _ ⟨s1, c1, b1, o1, rfl, q1, q2, aw⟩
      have e : nI o + (1 : Int32) = nI (o + 1) := by rw [il_1, nI_add]
      have sl := spN_le N o
      have sg : fb_sm (sgO N) (o + 1) = fb_sm (sgO N) o + sgO N o := rfl
      have kk := kd_le h ho
      have far : ∀ s, spN N o ≠ s + 1 → puS N (s + 1) (o + 1) = puS N (s + 1) o ∧ beS N (s + 1) (o + 1) = beS N (s + 1) o ∧ anB N (s + 1) (o + 1) = anB N (s + 1) o := fun s y => by
        refine ⟨?_, ?_, ?_⟩
        · show _ ||| (if spN N o = s + 1 ∧ kd N o = 0 then opS N o else 0) = _
          rw [if_neg (fun z => y z.1), Nat.or_zero]; rfl
        · show _ ||| (if spN N o = s + 1 ∧ kd N o = 1 then 2 ^ o else 0) = _
          rw [if_neg (fun z => y z.1), Nat.or_zero]; rfl
        · show (_ || decide (spN N o = s + 1)) = _
          rw [decide_eq_false y, Bool.or_false]; rfl
      have skip : (∀ s, s < 8 → tB N s = true → spN N o ≠ s + 1) → AW N (o + 1) s1 c1 b1 o1 := fun z s hs8 t => by
        have f := far s (z s hs8 t)
        rw [f.1, f.2.1, f.2.2]
        exact aw s hs8 t
      by_cases y0 : spN N o = 0
      · refine ⟨(nI (o + 1), nI s1, c1, b1, o1, nI (N 12 + fb_sm (sgO N) (o + 1))), ?_, s1, c1, b1, o1, rfl, q1, q2, skip (fun s _ _ => by omega)⟩
        unfold fX3_work_l2
        rw [uc6_s, if_neg (nI_ge ho (by omega)), bd1_e (fac_st h c ho), eN_0, if_pos ((eN_eq (by omega) (by omega)).mpr y0), bd5_s, e, sg]
        unfold sgO
        rw [if_neg (fun z => z.1 y0)]; rfl
      · obtain ⟨s, hss⟩ : ∃ s, spN N o = s + 1 := ⟨spN N o - 1, by omega⟩
        have hs8 : s < 8 := by omega
        have pre : fX3_work_l2 (nI pm) (nI (N 8)) set fac dce (nI o, nI s1, c1, b1, o1, nI (N 12 + fb_sm (sgO N) o)) = bd5 (if bI (tB N s) = 0 then some (nI s1, c1, b1, o1, nI (N 12 + fb_sm (sgO N) o)) else bd5 (fX3_doOperation (nI s1) c1 b1 o1 (nI (N 12 + fb_sm (sgO N) o)) set fac dce (nI o) (nI s)) fun u19 u20 u21 u22 u23 => some (u19, u20, u21, u22, u23)) fun v13 v14 v15 v16 v17 => some (.inl (nI (o + 1), v13, v14, v15, v16, v17)) := by
          unfold fX3_work_l2
          rw [uc6_s, if_neg (nI_ge ho (by omega)), bd1_e (fac_st h c ho), hss, ← eN_s, if_neg (show ¬ nI s = -1 from fun z => by rw [eN_0, eN_s s, eN_eq (by omega) (by omega)] at z; omega), bd1_e (has_s (by omega) (by omega)), hb s hs8, e]
        by_cases t : tB N s = true
        · have aq := aw s hs8 t
          have mv := al_tw w h hs8
          have ol := of_le w h hs8
          have l60 : mvS N s 1 < 2 ^ 60 := lt60 h mv.1
          rw [t, if_neg (show ¬ bI true = 0 by decide +kernel)] at pre
          have sgo : sgO N o = sgS N s o := by
            unfold sgO
            rw [hss, show s + 1 - 1 = s by omega, if_pos ⟨by omega, t⟩]
          -- the operation itself
          have doo : ∃ s2, fX3_doOperation (nI s1) c1 b1 o1 (nI (N 12 + fb_sm (sgO N) o)) set fac dce (nI o) (nI s) = some (nI s2, vp_updL c1 s (lN (sdf (mvS N s 1) (puS N (s + 1) (o + 1)))), upd b1 s (nI (mvS N s 2 ||| beS N (s + 1) (o + 1))), upd o1 s (nI (of1 N s)), nI (N 12 + fb_sm (sgO N) (o + 1))) ∧ s2 = (if N 7 < of1 N s then s1 ||| 2 ^ s else s1) := by
            refine ⟨_, ?_, rfl⟩
            unfold fX3_doOperation
            rw [bd1_e (fac_k h c ho)]
            have tail : ∀ (C : Nat → Int64) (B O : Nat → Int32) (S : Int32), O s = nI (of1 N s) → (bd1 (fX3_offsetAt O (nI s)) fun r23 => bd1 (fX1_setting set 4) fun r24 => if r23 ≤ r24 then some (nI s1, C, B, O, S) else nm (nI s1 ||| ((1 : Int32) <<< (nI s &&& 31))) fun v25 => some (v25, C, B, O, S)) = some (nI (if N 7 < of1 N s then s1 ||| 2 ^ s else s1), C, B, O, S) := by
              intro C B O S hO
              rw [bd1_e (offsetAt_s (by omega)), bd1_e (set_4 c), hO]
              by_cases z : N 7 < of1 N s
              · rw [if_neg (nI_ge z (by omega)), if_pos z, one_shlI s (by omega), fa_or, nm_s]
              · rw [if_pos (nI_le (by omega) (by omega)), if_neg z]
            have pu : puS N (s + 1) (o + 1) = puS N (s + 1) o ||| (if spN N o = s + 1 ∧ kd N o = 0 then opS N o else 0) := rfl
            have be : beS N (s + 1) (o + 1) = beS N (s + 1) o ||| (if spN N o = s + 1 ∧ kd N o = 1 then 2 ^ o else 0) := rfl
            by_cases z : kd N o = 0
            · have pu' : puS N (s + 1) (o + 1) = puS N (s + 1) o ||| opS N o := by rw [pu, if_pos ⟨hss, z⟩]
              have be' : beS N (s + 1) (o + 1) = beS N (s + 1) o := by rw [be, if_neg (fun y => by omega), Nat.or_zero]
              have sg' : sgS N s o = pcS (sdf (mvS N s 1) (puS N (s + 1) o) &&& opS N o) := by unfold sgS; rw [if_pos ⟨hss, z⟩]
              rw [if_neg (nn (show nI (N (20 + 6 * o + 0)) = 0 from by rw [show N (20 + 6 * o + 0) = 0 from z]; rfl)), bd1_e (cellsAt_s (by omega)), bd1_e (cellsOf_s (by omega)), (c.2 o ho).2.2.2, aq.1, fb_andL, nm_s, bd1_e (x_cnt (and_lt_l (sdf_lt _ l60))), nI_add, nm_s, bd1_e (cellsAt_s (by omega)), bd1_e (bendsAt_s (by omega)), bd1_e (offsetAt_s (by omega)), aq.1, lN_sdf, bd3_e (change_s (by omega)), bd4_s, tail _ _ _ _ (by rw [upd_s]; exact aq.2.2.1), pu', be', aq.2.1, aq.2.2.1, sg, sgo, sg', Nat.add_assoc]
              have e2 : sdf (sdf (mvS N s 1) (puS N (s + 1) o)) (sdf (mvS N s 1) (puS N (s + 1) o) &&& opS N o) = sdf (mvS N s 1) (puS N (s + 1) o ||| opS N o) := by
                rw [← sdf_or _ _ (lt64 l60)]
                apply Nat.eq_of_testBit_eq
                intro i
                rw [sdf_tb _ _ (sdf_lt _ (lt64 l60)), sdf_tb _ _ (sdf_lt _ (lt64 l60)), Nat.testBit_and]
                cases (sdf (mvS N s 1) (puS N (s + 1) o)).testBit i <;> simp
              rw [e2]
            · have pu' : puS N (s + 1) (o + 1) = puS N (s + 1) o := by rw [pu, if_neg (fun y => z y.2), Nat.or_zero]
              have be' : beS N (s + 1) (o + 1) = beS N (s + 1) o ||| 2 ^ o := by rw [be, if_pos ⟨hss, by omega⟩]
              have sg' : sgS N s o = 0 := by unfold sgS; rw [if_neg (fun y => z y.2)]
              rw [if_pos (show ¬ nI (N (20 + 6 * o + 0)) = 0 from nI_ne0 (show 0 < kd N o by omega) (show kd N o < 2 ^ 31 by omega)), bd1_e (cellsAt_s (by omega)), bd1_e (bendsAt_s (by omega)), bd1_e (offsetAt_s (by omega)), one_shlI o (by omega), aq.2.1, fa_or, bd3_e (change_s (by omega)), bd4_s, tail _ _ _ _ (by rw [upd_s]; exact aq.2.2.1), pu', be', aq.1, aq.2.2.1, sg, sgo, sg', Nat.or_assoc]
              rfl
          obtain ⟨s2, d1, d2⟩ := doo
          rw [bd5_e d1, bd5_s] at pre
          refine ⟨_, pre, s2, _, _, _, rfl, ?_, fun s' x => ?_, fun s' hs' t' => ?_⟩
          · rw [d2]; split
            · exact setb_lt q1 hs8
            · exact q1
          · rw [d2] at x
            split at x
            · rw [setb_tb, Bool.or_eq_true, decide_eq_true_eq] at x
              rcases x with x | x
              · exact q2 s' x
              · subst x; rw [hb s hs8]; exact t
            · exact q2 s' x
          · by_cases z : s' = s
            · subst z
              rw [updL_s, upd_s, upd_s]
              refine ⟨rfl, rfl, rfl, ?_⟩
              have an : anB N (s' + 1) (o + 1) = true := by
                show (_ || decide (spN N o = s' + 1)) = true
                rw [decide_eq_true hss, Bool.or_true]
              rw [an, Bool.true_and, d2]
              by_cases v : N 7 < of1 N s'
              · rw [if_pos v, setb_tb, decide_eq_true v]; simp
              · rw [if_neg v, decide_eq_false v, aq.2.2.2, decide_eq_false v, Bool.and_false]
            · have f := far s' (by omega)
              rw [updL_n z, upd_n z, upd_n z, f.1, f.2.1, f.2.2]
              have ar := aw s' hs' t'
              refine ⟨ar.1, ar.2.1, ar.2.2.1, ?_⟩
              rw [d2, ← ar.2.2.2]
              split
              · rw [setb_tb, decide_eq_false (show ¬ s = s' from fun x => z x.symm), Bool.or_false]
              · rfl
        · have tf := Bool.eq_false_iff.mpr t
          rw [tf, if_pos (show bI false = 0 from rfl), bd5_s] at pre
          refine ⟨_, pre, s1, c1, b1, o1, ?_, q1, q2, skip (fun s' _ t' y => ?_)⟩
          · rw [sg]
            unfold sgO
            rw [hss, show s + 1 - 1 = s by omega, if_neg (fun z => t z.2)]; rfl
          · obtain rfl : s' = s := by omega
            exact t t'
    · rintro _ ⟨s1, c1, b1, o1, rfl, q1, q2, aw⟩
      refine ⟨_, ?_, s1, c1, b1, o1, rfl, q1, q2, aw⟩
      unfold fX3_work_l2
      rw [uc6_s, if_pos (nI_le (Nat.le_refl _) (by omega))]
  obtain ⟨_, l1, s1, c1, b1, o1, rfl, q1, q2, aw⟩ := L
  exact ⟨s1, c1, b1, o1, (bd5_e l1).trans rfl, q1, q2, aw⟩
theorem an_oa {N : Nat → Nat} (p : Nat) : anB N p (N 8) = true ↔ oaS N p ≠ 0 := by
  have := orb_z (fun k => decide (spN N k = p)) (N 8)
  unfold anB oaS
  rw [ne_eq, this]
  simp
theorem x3_feed {F : Nat} {N M : Nat → Nat} {set fac : Nat → Int32} {dce : Nat → Int64} {pm sm : Nat} {cel : Nat → Int64} {ben off : Nat → Int32} (hF : 100 < F) (h : DW N) (c : CD N set fac dce) (w : PW N) (p : PC N pm sm cel ben off) (hg : N 10 + 20 < 2 ^ 31) (hbd : N 11 + 20 < 2 ^ 31) (sf : StrokeF N M) : ∃ pm' sm' cel' ben' off', fX3_feed F (nI pm) (nI sm) cel ben off (nI (N 9)) (nI (N 10)) (nI (N 11)) (nI (N 12)) (nI (N 0)) (nI (N 1)) (nI (N 2)) (lN (N 14)) (lN (N 15)) (nI (N 8)) (nI (N 13)) set fac dce = some (nI (strokeR N), nI pm', nI sm', cel', ben', off', nI (M 9), nI (M 10), nI (M 11), nI (M 12)) ∧ PC M pm' sm' cel' ben' off' := by
  obtain ⟨f1, f2, f3, f4, f5, f6⟩ := sf
  obtain ⟨c1, b1, o1, m1, am⟩ := x3_move (F := F) hF h c w p
  obtain ⟨p1, p2, p3, p4⟩ := p
  have sub1 : ∀ s, (2 * sm).testBit s = true → (2 * pm + 1).testBit s = true := by
    intro s q
    rcases Nat.eq_zero_or_pos s with z | z
    · subst z; rw [Nat.testBit_zero] at q; simp at q
    · obtain ⟨k, rfl⟩ : ∃ k, s = k + 1 := ⟨s - 1, by omega⟩
      rw [Nat.testBit_add_one, show 2 * sm / 2 = sm by omega] at q
      rw [Nat.testBit_add_one, show (2 * pm + 1) / 2 = pm by omega]
      exact p3 k q
  obtain ⟨p5, s5, k1, k2, k3, k4, k5⟩ := x3_cut (F := F) (off := o1) hF h c w (by omega) (by omega) sub1 am
  have ap0 : AP N 0 s5 c1 b1 o1 := fun s hs t => by
    have tm : tM N s = true := by
      unfold tB at t
      unfold tM
      by_cases y : s = 0
      · rw [if_pos y]
      · rw [if_neg y] at t ⊢
        rw [Bool.and_eq_true] at t
        exact t.1
    have am := (am s (by omega)).2 tm
    rw [if_neg (by omega), if_neg (by omega), (k5 s hs).2 t]
    exact am
  obtain ⟨s6, c6, b6, o6, j1, j2, j3, ap8⟩ := x3_catch (F := F) hF h c w k2 k3 k4 (fun s hs => (k5 s hs).1) ap0
  have aw0 : AW N 0 s6 c6 b6 o6 := fun s hs t => by
    have a := ap8 s hs t
    rw [if_pos hs, if_pos hs] at a
    have l60 : mvS N s 1 < 2 ^ 60 := lt60 h (al_tw w h hs).1
    refine ⟨?_, ?_, a.2.2.1, ?_⟩
    · show _ = lN (sdf _ 0)
      rw [sdf_0 (lt64 l60)]; exact a.1
    · show _ = nI (_ ||| 0)
      rw [Nat.or_zero]; exact a.2.1
    · rw [a.2.2.2]
      show _ = (_ || (false && _))
      simp
  obtain ⟨s7, c7, b7, o7, i1, i2, i3, aw⟩ := x3_work (F := F) hF h c w k2 j2 j3 (fun s hs => (k5 s hs).1) aw0
  have G1 := gc_le N 8
  have G2 := bc_le N 8
  have G3 : ogS N ≤ 1 := by unfold ogS; split <;> (try split) <;> omega
  have G4 : obS N ≤ 1 := by unfold obS; split <;> (try split) <;> omega
  refine ⟨p5, s7, c7, b7, o7, ?_, k2, i2, i3, fun s hs => ?_⟩
  · unfold fX3_feed
    rw [show nI (N 9) + (1 : Int32) = nI (N 9 + 1) by rw [il_1, nI_add], nm_s, bd5_e m1, bd4_e k1, bd4_e j1, bd5_e i1, ← slug_eq, ga_eq, ba_eq, f2, f3, f4, f5]
    unfold strokeR
    by_cases y1 : bcS N 8 + obS N = 0
    · rw [if_pos (nI_le (by omega) (by omega)), if_pos y1]
      by_cases y2 : gcS N 8 + ogS N = 0
      · rw [if_pos (nI_le (by omega) (by omega)), if_pos y2]; rfl
      · rw [if_neg (nI_ge (by omega) (by omega)), if_neg y2]; rfl
    · rw [if_neg (nI_ge (by omega) (by omega)), if_neg y1]; rfl
  · have f := f6 s hs
    have k := (k5 s hs).1
    by_cases t : tB N s = true
    · have ft := f.1 t
      have a := aw s hs t
      have ol := of_le w h hs
      refine ⟨by rw [k, t, ft.1]; rfl, fun _ => ⟨by rw [ft.2.1]; exact a.1, by rw [ft.2.2.1]; exact a.2.1, by rw [ft.2.2.2.1]; exact a.2.2.1, ?_⟩⟩
      rw [ft.2.2.2.2, a.2.2.2]
      have ao := an_oa (N := N) (s + 1)
      by_cases y : oaS N (s + 1) ≠ 0 ∧ N 7 < of1 N s
      · rw [if_pos y, ao.mpr y.1, decide_eq_true y.2]; simp
      · rw [if_neg y]
        by_cases z : anB N (s + 1) (N 8) = true
        · rw [decide_eq_false (show ¬ N 7 < of1 N s from fun x => y ⟨ao.mp z, x⟩), Bool.and_false, Bool.or_false]
        · rw [Bool.eq_false_iff.mpr z, Bool.false_and, Bool.or_false]
    · have tf := Bool.eq_false_iff.mpr t
      have ft := f.2 tf 0 (by omega)
      exact ⟨by rw [k, tf, ft]; rfl, fun z => by rw [ft] at z; omega⟩
