theorem x3_cut {F : Nat} {N : Nat → Nat} {set fac : Nat → Int32} {dce : Nat → Int64} {pm sm : Nat} {cel : Nat → Int64} {ben off : Nat → Int32} (hF : 100 < F) (h : DW N) (c : CD N set fac dce) (w : PW N) (hp : pm < 512) (hs : sm < 512) (hsub : ∀ s, sm.testBit s = true → pm.testBit s = true) (a : AM N pm sm cel ben off) : ∃ pm' sm', fX3_cutOff F (nI pm) (nI sm) cel ben (nI (N 10)) (nI (N 11)) (nI (N 0)) (nI (N 1)) (nI (N 2)) (lN (N 14)) (lN (N 15)) (nI (N 8)) fac = some (nI pm', nI sm', nI (N 10 + gaS N 9), nI (N 11 + baS N 9)) ∧ pm' < 256 ∧ sm' < 256 ∧ (∀ s, sm'.testBit s = true → pm'.testBit s = true) ∧ ∀ s, s < 8 → pm'.testBit s = tB N s ∧ (tB N s = true → sm'.testBit s = sm.testBit s) := by
  have h8 := h.2.2.2.1.1
  have pl := ps_le N (N 8)
  unfold fX3_cutOff
  rw [bd1_e (x1_part h), bd1_e (x1_waste h), bd1_e (x1_ps hF h c)]
  have L : ∃ x, lp (fX3_cutOff_l17 F cel ben (nI (N 8)) fac (lN (paS N)) (lN (waS N))) F (nI (psS N (N 8)), nI pm, nI sm, nI (N 10), nI (N 11)) = some x ∧ ∃ pm' sm', x = (nI pm', nI sm', nI (N 10 + gaS N 9), nI (N 11 + baS N 9)) ∧ (∀ i, pm'.testBit i = (pm.testBit i && !(decide (psS N (N 8) ≤ i) && decide (i < 9)))) ∧ ∀ i, sm'.testBit i = (sm.testBit i && !(decide (psS N (N 8) ≤ i) && decide (i < 9))) := by
    refine lp_cnt (fun t x => ∃ pt st, x = (nI (psS N (N 8) + t), nI pt, nI st, nI (N 10 + gaS N (psS N (N 8) + t)), nI (N 11 + baS N (psS N (N 8) + t))) ∧ pt < 512 ∧ st < 512 ∧ (∀ i, pt.testBit i = (pm.testBit i && !(decide (psS N (N 8) ≤ i) && decide (i < psS N (N 8) + t)))) ∧ ∀ i, st.testBit i = (sm.testBit i && !(decide (psS N (N 8) ≤ i) && decide (i < psS N (N 8) + t)))) (9 - psS N (N 8)) _ ?_ ?_ ⟨pm, sm, ?_, hp, hs, fun i => ?_, fun i => ?_⟩ (by omega)
    · rintro t ht _ ⟨pt, st, rfl, b1, b2, b3, b4⟩
      generalize hss : psS N (N 8) + t = s at *
      have hs9 : s < 9 := by omega
      have as := a s hs9
      have ga1 : gaS N (s + 1) = gaS N s + if decide (psS N (N 8) ≤ s) && tM N s && gM N s then 1 else 0 := rfl
      have ba1 : baS N (s + 1) = baS N s + if decide (psS N (N 8) ≤ s) && tM N s && !gM N s then 1 else 0 := rfl
      rw [decide_eq_true (show psS N (N 8) ≤ s by omega), Bool.true_and] at ga1 ba1
      have pbit : pt.testBit s = tM N s := by
        rw [b3, as.1, decide_eq_false (show ¬ s < s by omega), Bool.and_false, Bool.not_false, Bool.and_true]
      have pre : fX3_cutOff_l17 F cel ben (nI (N 8)) fac (lN (paS N)) (lN (waS N)) (nI s, nI pt, nI st, nI (N 10 + gaS N s), nI (N 11 + baS N s)) = bd4 (if bI (tM N s) = 0 then some (nI pt, nI st, nI (N 10 + gaS N s), nI (N 11 + baS N s)) else bd1 (if ¬ lg_cmp (cel s &&& (lN (paS N) ||| lN (waS N))) (lN (paS N)) = 0 then some (0 : Int32) else some (1 : Int32)) fun v19 => bd2 (if v19 = 0 then (nm (nI (N 11 + baS N s) + (1 : Int32)) fun v22 => some (nI (N 10 + gaS N s), v22)) else bd1 (fX3_hasAllBends F ben (nI (N 8)) fac (nI s)) fun r23 => if r23 = 0 then (nm (nI (N 11 + baS N s) + (1 : Int32)) fun v24 => some (nI (N 10 + gaS N s), v24)) else bd1 (fX5_isIn (nI st) (nI s)) fun r25 => if ¬ r25 = 0 then (nm (nI (N 11 + baS N s) + (1 : Int32)) fun v26 => some (nI (N 10 + gaS N s), v26)) else (nm (nI (N 10 + gaS N s) + (1 : Int32)) fun v27 => some (v27, nI (N 11 + baS N s)))) fun v20 v21 => some (nI (pt &&& (2 ^ s ^^^ 4294967295)), nI (st &&& (2 ^ s ^^^ 4294967295)), v20, v21)) fun v14 v15 v16 v17 => some (.inl (nI (s + 1), v14, v15, v16, v17)) := by
        unfold fX3_cutOff_l17
        rw [uc5_s, il_9, if_neg (nI_ge hs9 (by omega)), bd1_e (has_s (by omega) (by omega)), pbit, clr_I hs9, clr_I hs9]
        have e : nI s + (1 : Int32) = nI (s + 1) := by rw [il_1, nI_add]
        rw [e]
        by_cases q : tM N s = true
        · rw [q, if_neg (show ¬ bI true = 0 by decide +kernel), if_neg (show ¬ bI true = 0 by decide +kernel), bd1_e (cellsAt_s hs9)]
          rfl
        · rw [Bool.eq_false_iff.mpr q, if_pos (show bI false = 0 from rfl), if_pos (show bI false = 0 from rfl)]
      by_cases q : tM N s = true
      · have mv : mvS N s 1 < 2 ^ (N 0 * N 1) ∧ mvS N s 2 < 64 ∧ mvS N s 4 ≤ 1 := by
          rcases Nat.lt_or_ge s 8 with y | y
          · have := al_tw w h y; exact ⟨this.1, this.2.1, this.2.2.2⟩
          · obtain rfl : s = 8 := by omega
            have := w 7 (by omega)
            exact ⟨by unfold mvS; simpa using this.2.1, by unfold mvS; simpa using this.2.2.1, by unfold mvS; simpa using this.2.2.2.2.1⟩
        have aq := as.2 q
        have sbit : st.testBit s = decide (mvS N s 4 = 1) := by
          rw [b4, aq.2.2.2, decide_eq_false (show ¬ s < s by omega), Bool.and_false, Bool.not_false, Bool.and_true]
        rw [q, if_neg (show ¬ bI true = 0 by decide +kernel), aq.1, fb_orL, fb_andL, bd1_e (x3_bends hF h c hs9 aq.2.1 mv.2.1), bd1_e (in_bI (by omega) (by omega)), sbit, il_1, nI_add, nI_add] at pre
        simp only [nm_s] at pre
        rw [q, Bool.true_and] at ga1 ba1
        have lt1 : mvS N s 1 &&& (paS N ||| waS N) < 2 ^ 60 := lt60 h (and_lt_l mv.1)
        have rc := right_cells h (lf := mvS N s 1)
        have gm : gM N s = (decide (mvS N s 4 = 0) && (decide (sdf (paS N) (mvS N s 1) = 0) && decide (waS N &&& mvS N s 1 = 0) && decide (sdf (bnS N (N 8)) (mvS N s 2) = 0))) := rfl
        have fin : fX3_cutOff_l17 F cel ben (nI (N 8)) fac (lN (paS N)) (lN (waS N)) (nI s, nI pt, nI st, nI (N 10 + gaS N s), nI (N 11 + baS N s)) = some (.inl (nI (s + 1), nI (pt &&& (2 ^ s ^^^ 4294967295)), nI (st &&& (2 ^ s ^^^ 4294967295)), nI (N 10 + gaS N (s + 1)), nI (N 11 + baS N (s + 1)))) := by
          rw [pre, ga1, ba1]
          by_cases y1 : mvS N s 1 &&& (paS N ||| waS N) = paS N
          · have y := rc.mp y1
            rw [ifn0 lt1 (lt60 h (pa_lt h)) y1, bd1_s, if_neg (show ¬ nI 1 = 0 by decide +kernel)]
            rw [y.1, y.2] at gm
            by_cases y2 : sdf (bnS N (N 8)) (mvS N s 2) = 0
            · rw [y2] at gm ⊢
              rw [decide_eq_true rfl, if_neg (show ¬ bI true = 0 by decide +kernel)]
              by_cases y3 : mvS N s 4 = 1
              · rw [decide_eq_true y3, if_pos (show ¬ bI true = 0 by decide +kernel)]
                rw [y3] at gm
                rw [gm]; rfl
              · rw [decide_eq_false y3, if_neg (nn (show bI false = 0 from rfl))]
                rw [show mvS N s 4 = 0 by omega] at gm
                rw [gm]; rfl
            · rw [decide_eq_false y2, if_pos (show bI false = 0 from rfl)]
              rw [decide_eq_false y2, Bool.and_false, Bool.and_false] at gm
              rw [gm]; rfl
          · rw [ifn1 lt1 (lt60 h (pa_lt h)) y1, bd1_s, if_pos (show (0 : Int32) = 0 from rfl)]
            have g0 : gM N s = false := by
              rw [gm]
              by_cases z1 : sdf (paS N) (mvS N s 1) = 0
              · rw [decide_eq_false (fun z2 => y1 (rc.mpr ⟨z1, z2⟩) : ¬ waS N &&& mvS N s 1 = 0), Bool.and_false, Bool.false_and, Bool.and_false]
              · rw [decide_eq_false z1, Bool.false_and, Bool.false_and, Bool.and_false]
            rw [g0]; rfl
        refine ⟨_, fin, pt &&& (2 ^ s ^^^ 4294967295), st &&& (2 ^ s ^^^ 4294967295), ?_, and_lt_l (n := 9) b1, and_lt_l (n := 9) b2, fun i => ?_, fun i => ?_⟩
        · rw [show psS N (N 8) + (t + 1) = s + 1 by omega]
        · rw [clr_tb b1 hs9, b3, show psS N (N 8) + (t + 1) = s + 1 by omega]
          by_cases y : i = s
          · subst y
            rw [decide_eq_true (show psS N (N 8) ≤ i by omega), decide_eq_true (show i < i + 1 by omega)]; simp
          · by_cases y2 : i < s
            · rw [decide_eq_true y2, decide_eq_true (show i < s + 1 by omega), decide_eq_true (show i ≠ s from y), Bool.and_true]
            · rw [decide_eq_false y2, decide_eq_false (show ¬ i < s + 1 by omega), decide_eq_true (show i ≠ s from y), Bool.and_true]
        · rw [clr_tb b2 hs9, b4, show psS N (N 8) + (t + 1) = s + 1 by omega]
          by_cases y : i = s
          · subst y
            rw [decide_eq_true (show psS N (N 8) ≤ i by omega), decide_eq_true (show i < i + 1 by omega)]; simp
          · by_cases y2 : i < s
            · rw [decide_eq_true y2, decide_eq_true (show i < s + 1 by omega), decide_eq_true (show i ≠ s from y), Bool.and_true]
            · rw [decide_eq_false y2, decide_eq_false (show ¬ i < s + 1 by omega), decide_eq_true (show i ≠ s from y), Bool.and_true]
      · have q := Bool.eq_false_iff.mpr q
        rw [q, if_pos (show bI false = 0 from rfl), bd4_s] at pre
        rw [q, Bool.false_and, if_neg (by simp)] at ga1 ba1
        have pz : pm.testBit s = false := by rw [as.1]; exact q
        have sz : sm.testBit s = false := by
          rw [Bool.eq_false_iff]
          intro y
          rw [hsub s y] at pz
          cases pz
        refine ⟨_, pre, pt, st, ?_, b1, b2, fun i => ?_, fun i => ?_⟩
        · rw [show psS N (N 8) + (t + 1) = s + 1 by omega, ga1, ba1]; rfl
        · rw [b3, show psS N (N 8) + (t + 1) = s + 1 by omega]
          by_cases y : i = s
          · subst y; rw [pz]; rfl
          · by_cases y2 : i < s
            · rw [decide_eq_true y2, decide_eq_true (show i < s + 1 by omega)]
            · rw [decide_eq_false y2, decide_eq_false (show ¬ i < s + 1 by omega)]
        · rw [b4, show psS N (N 8) + (t + 1) = s + 1 by omega]
          by_cases y : i = s
          · subst y; rw [sz]; rfl
          · by_cases y2 : i < s
            · rw [decide_eq_true y2, decide_eq_true (show i < s + 1 by omega)]
            · rw [decide_eq_false y2, decide_eq_false (show ¬ i < s + 1 by omega)]
    · rintro _ ⟨pt, st, rfl, b1, b2, b3, b4⟩
      rw [show psS N (N 8) + (9 - psS N (N 8)) = 9 by omega] at b3 b4 ⊢
      refine ⟨_, ?_, pt, st, rfl, b3, b4⟩
      unfold fX3_cutOff_l17
      rw [uc5_s, il_9, if_pos (nI_le (Nat.le_refl _) (by omega))]
    · have z : ∀ f : Nat → Bool, fb_sm (fun i => if decide (psS N (N 8) ≤ i) && tM N i && f i then 1 else 0) (psS N (N 8)) = 0 := fun f => by
        have : fb_sm (fun i => if decide (psS N (N 8) ≤ i) && tM N i && f i then 1 else 0) (psS N (N 8)) = fb_sm (fun _ => 0) (psS N (N 8)) := fb_sm_cong (fun k hk => by
          rw [decide_eq_false (show ¬ psS N (N 8) ≤ k by omega)]; rfl)
        rw [this, fb_sm_const]; rfl
      have z1 : gaS N (psS N (N 8) + 0) = 0 := z (gM N)
      have z2 : baS N (psS N (N 8) + 0) = 0 := z (fun i => !gM N i)
      rw [z1, z2]; rfl
    · rw [Nat.add_zero]
      by_cases y : psS N (N 8) ≤ i
      · rw [decide_eq_false (show ¬ i < psS N (N 8) by omega)]; simp
      · rw [decide_eq_false y]; simp
    · rw [Nat.add_zero]
      by_cases y : psS N (N 8) ≤ i
      · rw [decide_eq_false (show ¬ i < psS N (N 8) by omega)]; simp
      · rw [decide_eq_false y]; simp
  obtain ⟨_, l1, pm', sm', rfl, t1, t2⟩ := L
  refine ⟨pm', sm', (bd4_e l1).trans rfl, ?_, ?_, fun s q => ?_, fun s hs8 => ⟨?_, fun q => ?_⟩⟩
  · apply Nat.lt_pow_two_of_testBit (n := 8)
    intro i hi
    rw [t1]
    rcases Nat.lt_or_ge i 9 with y | y
    · rw [decide_eq_true (show psS N (N 8) ≤ i by omega), decide_eq_true y]; simp
    · rw [tb_big (n := 9) hp y]; rfl
  · apply Nat.lt_pow_two_of_testBit (n := 8)
    intro i hi
    rw [t2]
    rcases Nat.lt_or_ge i 9 with y | y
    · rw [decide_eq_true (show psS N (N 8) ≤ i by omega), decide_eq_true y]; simp
    · rw [tb_big (n := 9) hs y]; rfl
  · rw [t2, Bool.and_eq_true] at q
    rw [t1, hsub s q.1, q.2]; rfl
  · rw [t1, (a s (by omega)).1, decide_eq_true (show s < 9 by omega), Bool.and_true]
    unfold tB tM
    by_cases y : s = 0
    · subst y
      by_cases z : psS N (N 8) = 0
      · simp [z]
      · simp [z]
    · rw [if_neg y, if_neg y]
      by_cases z : psS N (N 8) ≤ s
      · rw [decide_eq_true z, decide_eq_false (show ¬ s < psS N (N 8) by omega)]; rfl
      · rw [decide_eq_false z, decide_eq_true (show s < psS N (N 8) by omega)]; rfl
  · have : ¬ psS N (N 8) ≤ s := by
      unfold tB at q
      by_cases y : s = 0
      · subst y; rw [if_pos rfl, decide_eq_true_eq] at q; omega
      · rw [if_neg y, Bool.and_eq_true, decide_eq_true_eq, decide_eq_true_eq] at q; omega
    rw [t2, decide_eq_false this, Bool.false_and, Bool.not_false, Bool.and_true]
/-- the press behind the pilots of the first t stations -/
def AP (N : Nat → Nat) (t sm : Nat) (cel : Nat → Int64) (ben off : Nat → Int32) : Prop := ∀ s, s < 8 → tB N s = true → cel s = lN (mvS N s 1) ∧ ben s = nI (mvS N s 2) ∧ off s = nI (if s < t then of1 N s else mvS N s 3) ∧ sm.testBit s = decide ((if s < t then sp1 N s else mvS N s 4) = 1)
theorem setb_tb {a s i : Nat} : (a ||| 2 ^ s).testBit i = (a.testBit i || decide (s = i)) := by rw [Nat.testBit_or, Nat.testBit_two_pow]
theorem setb_lt {a s : Nat} (ha : a < 256) (hs : s < 8) : a ||| 2 ^ s < 256 := Nat.or_lt_two_pow (n := 8) ha (Nat.pow_lt_pow_right (by decide) hs)
theorem x3_catch {F : Nat} {N : Nat → Nat} {set fac : Nat → Int32} {dce : Nat → Int64} {pm sm : Nat} {cel : Nat → Int64} {ben off : Nat → Int32} (hF : 100 < F) (h : DW N) (c : CD N set fac dce) (w : PW N) (hp : pm < 256) (hs : sm < 256) (hsub : ∀ s, sm.testBit s = true → pm.testBit s = true) (hb : ∀ s, s < 8 → pm.testBit s = tB N s) (a : AP N 0 sm cel ben off) : ∃ sm' cel' ben' off', fX3_catchDrift F (nI pm) (nI sm) cel ben off (nI (N 13)) set = some (nI sm', cel', ben', off') ∧ sm' < 256 ∧ (∀ s, sm'.testBit s = true → pm.testBit s = true) ∧ AP N 8 sm' cel' ben' off' := by
  have g6 : N 6 ≤ 50 := h.2.2.1.2.2.2.2.1
  have g13 : N 13 < 256 := h.2.2.2.1.2
  unfold fX3_catchDrift
  have L : ∃ x, lp (fX3_catchDrift_l2 (nI pm) (nI (N 13)) set) F (nI 0, nI sm, cel, ben, off) = some x ∧ ∃ sm' cel' ben' off', x = (nI sm', cel', ben', off') ∧ sm' < 256 ∧ (∀ s, sm'.testBit s = true → pm.testBit s = true) ∧ AP N 8 sm' cel' ben' off' := by
    refine lp_cnt (fun t x => ∃ sm' cel' ben' off', x = (nI t, nI sm', cel', ben', off') ∧ sm' < 256 ∧ (∀ s, sm'.testBit s = true → pm.testBit s = true) ∧ AP N t sm' cel' ben' off') 8 _ ?_ ?_ ⟨sm, cel, ben, off, rfl, hs, hsub, a⟩ (by omega)
    · rintro s hs8 _ ⟨s1, c1, b1, o1, rfl, q1, q2, ap⟩
      have mv := al_tw w h hs8
      have same : (tB N s = true → of1 N s = mvS N s 3 ∧ sp1 N s = mvS N s 4) → AP N (s + 1) s1 c1 b1 o1 := by
        intro z s' hs' t'
        have aq := ap s' hs' t'
        by_cases y : s' < s
        · rw [if_pos y, if_pos y] at aq
          rw [if_pos (by omega), if_pos (by omega)]; exact aq
        · rw [if_neg y, if_neg y] at aq
          by_cases y2 : s' = s
          · subst y2
            rw [if_pos (by omega), if_pos (by omega), (z t').1, (z t').2]; exact aq
          · rw [if_neg (by omega), if_neg (by omega)]; exact aq
      have e : nI s + (1 : Int32) = nI (s + 1) := by rw [il_1, nI_add]
      by_cases t : tB N s = true
      · have aq := ap s hs8 t
        rw [if_neg (by omega), if_neg (by omega)] at aq
        by_cases pb : pilB N s = true
        · have pb' : (N 13).testBit s = true := pb
          by_cases y : mvS N s 3 ≤ N 6
          · refine ⟨(nI (s + 1), nI s1, vp_updL c1 s (c1 s), upd b1 s (b1 s), upd o1 s (nI 0)), ?_, s1, _, _, _, rfl, q1, q2, fun s' hs' t' => ?_⟩
            · unfold fX3_catchDrift_l2
              rw [uc5_s, il_8, if_neg (nI_ge hs8 (by omega)), bd1_e (has_s (by omega) (by omega)), hb s hs8, t, if_neg (show ¬ bI true = 0 by decide +kernel), bd1_e (pil_s (by omega) (by omega)), pb', if_neg (show ¬ bI true = 0 by decide +kernel), bd1_e (offsetAt_s (by omega)), bd1_e (set_3 c), aq.2.2.1, if_neg (nI_nlt y (by omega)), bd1_e (cellsAt_s (by omega)), bd1_e (bendsAt_s (by omega)), bd3_e (change_s (by omega)), bd4_s, e]
              rfl
            · have ar := ap s' hs' t'
              by_cases z : s' = s
              · subst z
                rw [updL_s, upd_s, upd_s, if_pos (by omega), if_pos (by omega)]
                rw [if_neg (by omega)] at ar
                refine ⟨ar.1, ar.2.1, ?_, ?_⟩
                · unfold of1; rw [if_pos ⟨pb, y⟩]
                · unfold sp1; rw [if_neg (fun x => x.2 y)]; exact aq.2.2.2
              · rw [updL_n z, upd_n z, upd_n z]
                by_cases z2 : s' < s
                · rw [if_pos z2, if_pos z2] at ar
                  rw [if_pos (by omega), if_pos (by omega)]; exact ar
                · rw [if_neg z2, if_neg z2] at ar
                  rw [if_neg (by omega), if_neg (by omega)]; exact ar
          · refine ⟨(nI (s + 1), nI (s1 ||| 2 ^ s), c1, b1, o1), ?_, s1 ||| 2 ^ s, _, _, _, rfl, setb_lt q1 hs8, fun s' x => ?_, fun s' hs' t' => ?_⟩
            · unfold fX3_catchDrift_l2
              rw [uc5_s, il_8, if_neg (nI_ge hs8 (by omega)), bd1_e (has_s (by omega) (by omega)), hb s hs8, t, if_neg (show ¬ bI true = 0 by decide +kernel), bd1_e (pil_s (by omega) (by omega)), pb', if_neg (show ¬ bI true = 0 by decide +kernel), bd1_e (offsetAt_s (by omega)), bd1_e (set_3 c), aq.2.2.1, if_pos (nI_lt (by omega) (by omega)), one_shlI s (by omega), fa_or, nm_s, bd4_s, e]
            · rw [setb_tb, Bool.or_eq_true, decide_eq_true_eq] at x
              rcases x with x | x
              · exact q2 s' x
              · subst x; rw [hb s hs8]; exact t
            · have ar := ap s' hs' t'
              by_cases z : s' = s
              · subst z
                rw [if_pos (by omega), if_pos (by omega), setb_tb]
                refine ⟨ar.1, ar.2.1, ?_, ?_⟩
                · unfold of1; rw [if_neg (fun x => y x.2)]; exact aq.2.2.1
                · unfold sp1; rw [if_pos ⟨pb, y⟩]; simp
              · rw [setb_tb, decide_eq_false (show ¬ s = s' from fun x => z x.symm), Bool.or_false]
                by_cases z2 : s' < s
                · rw [if_pos z2, if_pos z2] at ar
                  rw [if_pos (by omega), if_pos (by omega)]; exact ar
                · rw [if_neg z2, if_neg z2] at ar
                  rw [if_neg (by omega), if_neg (by omega)]; exact ar
        · have pb' : (N 13).testBit s = false := Bool.eq_false_iff.mpr pb
          refine ⟨(nI (s + 1), nI s1, c1, b1, o1), ?_, s1, c1, b1, o1, rfl, q1, q2, same (fun _ => ⟨?_, ?_⟩)⟩
          · unfold fX3_catchDrift_l2
            rw [uc5_s, il_8, if_neg (nI_ge hs8 (by omega)), bd1_e (has_s (by omega) (by omega)), hb s hs8, t, if_neg (show ¬ bI true = 0 by decide +kernel), bd1_e (pil_s (by omega) (by omega)), pb', if_pos (show bI false = 0 from rfl), bd4_s, e]
          · unfold of1; rw [if_neg (fun x => pb x.1)]
          · unfold sp1; rw [if_neg (fun x => pb x.1)]
      · have t := Bool.eq_false_iff.mpr t
        refine ⟨(nI (s + 1), nI s1, c1, b1, o1), ?_, s1, c1, b1, o1, rfl, q1, q2, same (fun z => by rw [t] at z; cases z)⟩
        unfold fX3_catchDrift_l2
        rw [uc5_s, il_8, if_neg (nI_ge hs8 (by omega)), bd1_e (has_s (by omega) (by omega)), hb s hs8, t, if_pos (show bI false = 0 from rfl), bd4_s, e]
    · rintro _ ⟨s1, c1, b1, o1, rfl, q1, q2, ap⟩
      refine ⟨_, ?_, s1, c1, b1, o1, rfl, q1, q2, ap⟩
      unfold fX3_catchDrift_l2
      rw [uc5_s, il_8, if_pos (nI_le (Nat.le_refl _) (by omega))]
  obtain ⟨_, l1, s1, c1, b1, o1, rfl, q1, q2, ap⟩ := L
  exact ⟨s1, c1, b1, o1, (bd4_e l1).trans rfl, q1, q2, ap⟩
