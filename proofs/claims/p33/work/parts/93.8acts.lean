/-! strokes; all that the law does in a turn -/
theorem nxk_shift (F : Nat) (N : Nat → Nat) : ∀ k, nxk F (nx F N) k = nxk F N (k + 1)
  | 0 => rfl
  | k + 1 => congrArg (nx F) (nxk_shift F N k)
theorem fgK_one {g : Nat → Bool} {n v : Nat} (h1 : 1 ≤ v) (h2 : v ≤ n) (h3 : g v = true) (h4 : ∀ k, 1 ≤ k → k < v → g k = false) : fgK g n = v := by
  rcases fgK_ok g n with ⟨-, h⟩ | ⟨a1, a2, a3, a4⟩
  · rw [h v h1 h2] at h3
    cases h3
  · rcases Nat.lt_trichotomy (fgK g n) v with q | q | q
    · rw [h4 _ a1 q] at a3
      cases a3
    · exact q
    · rw [a4 _ h1 q] at h3
      cases h3
section ACTS
variable {F B : Nat} {c : CSt} {N : Nat → Nat}
theorem strokes_s (hF : 1000000 < F) (hB : B + 20 < 2 ^ 30) (i : I3 B c N) : ∃ c2 N2, fL_strokes F c = some ((1 : Int32), c2) ∧ I3 (B + 20) c2 N2 := by
  obtain ⟨d, w, -, gn, b10, b11⟩ := i.dw
  obtain ⟨c2, e2, i2⟩ := gv_soon hF (by omega) i
  obtain ⟨c3, e3, i3⟩ := ga_stroke hF i2 (by omega)
  obtain ⟨c4, e4, i4⟩ := gv_soon hF (by omega) i3
  have sf := (nx_s (F := F) (by omega) d w).2
  have n10 := sf.2.2.2.1
  have n11 := sf.2.2.2.2.1
  have cn := st_cnt sf
  obtain ⟨G, hG⟩ : ∃ G, G = gcS N 8 + ogS N := ⟨_, rfl⟩
  obtain ⟨D, hD⟩ : ∃ D, D = bcS N 8 + obS N := ⟨_, rfl⟩
  rw [← hG] at n10
  rw [← hD] at n11
  have er : strokeR N = if D = 0 then (if G = 0 then 0 else 1) else 2 := by
    unfold strokeR
    rw [hG, hD]
  have v8 : nI (nx F N 10) - nI (N 10) = nI G := by rw [pk_sub (by omega), n10]; exact congrArg nI (by omega)
  have v10 : nI (nx F N 11) - nI (N 11) = nI D := by rw [pk_sub (by omega), n11]; exact congrArg nI (by omega)
  have z : ∀ k : Nat, k < 2 ^ 31 → (nI k = (0 : Int32) ↔ k = 0) := fun k hk => nI_eq (b := 0) hk (by omega)
  have e11 : (if ¬ nI G + nI D = 0 then (if ¬ nI D = 0 then some (2 : Int32) else some (1 : Int32)) else some (0 : Int32)) = some (nI (strokeR N)) := by
    rw [nI_add, er]
    by_cases qd : D = 0
    · by_cases qg : G = 0
      · rw [if_neg (nn ((z _ (by omega)).mpr (by omega))), if_pos qd, if_pos qg]; rfl
      · rw [if_pos (fun h => qg (by have := (z _ (by omega)).mp h; omega)), if_neg (nn ((z _ (by omega)).mpr qd)), if_pos qd, if_neg qg]; rfl
    · rw [if_pos (fun h => qd (by have := (z _ (by omega)).mp h; omega)), if_pos (fun h => qd ((z _ (by omega)).mp h)), if_neg qd]; rfl
  have g1 : gK F N 1 = decide (0 < G) := by
    show decide (N 10 < nx F N 10) = _
    rw [n10]
    by_cases q : 0 < G
    · rw [decide_eq_true q, decide_eq_true (by omega)]
    · rw [decide_eq_false q, decide_eq_false (by omega)]
  have ok := fgK_ok (gK F N) 60
  have soon1 : tgR F N = (1 : Int32) ↔ 0 < G := by
    unfold tgR
    constructor
    · intro h
      by_cases q : fgK (gK F N) 60 = 0
      · rw [if_pos q] at h
        exact absurd h (by decide)
      · rw [if_neg q] at h
        rcases ok with ⟨h1, -⟩ | ⟨h1, h2, h3, h4⟩
        · exact absurd h1 q
        · have e := (nI_eq (b := 1) (by omega) (by omega)).mp h
          rw [e, g1] at h3
          exact of_decide_eq_true h3
    · intro h
      rw [fgK_one (g := gK F N) (n := 60) (v := 1) (by omega) (by omega) (by rw [g1]; exact decide_eq_true h) (fun k a b => absurd b (by omega)), if_neg (by omega)]
      rfl
  have e12 : (if ¬ nI (strokeR N) = nI (strokeR N) then some (0 : Int32) else bd1 (if ¬ tgR F N = (1 : Int32) then some (0 : Int32) else some (1 : Int32)) fun v13 => bd1 (if nI G ≤ 0 then some (0 : Int32) else some (1 : Int32)) fun v14 => if ¬ v13 = v14 then some (0 : Int32) else some (1 : Int32)) = some (1 : Int32) := by
    rw [if_neg (nn rfl)]
    by_cases q : 0 < G
    · rw [if_neg (nn (soon1.mpr q)), bd1_s, if_neg (show ¬ nI G ≤ 0 from nI_ge (a := 0) q (by omega)), bd1_s, if_neg (nn rfl)]
    · rw [if_pos (fun h => q (soon1.mp h)), bd1_s, if_pos (show nI G ≤ 0 from nI_le (b := 0) (by omega) (by omega)), bd1_s, if_neg (nn rfl)]
  unfold fL_strokes
  rw [bd2_e e2, bd1_e (gw12 hF i2), bd1_e (gw13 hF i2), bd2_e e3, bd1_e (gw12 hF i3), v8, nm_s, bd1_e (gw13 hF i3), v10, nm_s, bd1_e e11, bd1_e e12, b1_0]
  by_cases q : tgR F N < (2 : Int32)
  · rw [if_pos q]
    exact ⟨c3, _, rfl, i3⟩
  · rw [if_neg q, bd2_e e4]
    have et : tgR F (nx F N) = tgR F N - (1 : Int32) := by
      unfold tgR at q ⊢
      by_cases q0 : fgK (gK F N) 60 = 0
      · rw [if_pos q0] at q
        exact absurd (by decide) q
      · rw [if_neg q0] at q ⊢
        rcases ok with ⟨h1, -⟩ | ⟨h1, h2, h3, h4⟩
        · exact absurd h1 q0
        · obtain ⟨f, hf⟩ : ∃ f, f = fgK (gK F N) 60 := ⟨_, rfl⟩
          rw [← hf] at q h1 h2 h3 h4 ⊢
          have f2 : 2 ≤ f := by
            by_cases q2 : 2 ≤ f
            · exact q2
            · have : f = 1 := by omega
              rw [this] at q
              exact absurd (by decide) q
          have G0 : G = 0 := by
            have := h4 1 (by omega) (by omega)
            rw [g1] at this
            have := of_decide_eq_false this
            omega
          have gg : ∀ k, gK F (nx F N) k = gK F N (k + 1) := fun k => by
            show decide (nx F N 10 < nxk F (nx F N) k 10) = decide (N 10 < nxk F N (k + 1) 10)
            rw [nxk_shift, n10, G0, Nat.add_zero]
          rw [fgK_one (g := gK F (nx F N)) (n := 60) (v := f - 1) (by omega) (by omega) (by rw [gg, show f - 1 + 1 = f by omega]; exact h3) (fun k a b => by rw [gg]; exact h4 (k + 1) (by omega) (by omega)), if_neg (by omega), il_1, pk_sub (by omega)]
    rw [et, if_neg (nn rfl)]
    exact ⟨c4, _, rfl, i4⟩
theorem us_sp {N cc : Nat → Nat} (h : ∀ j, j < N 8 → cc j < 8) {o : Nat} (ho : o < N 8) : spN (usN N cc) o = cc o + 1 := by
  have e : usN N cc (20 + 6 * o + 5) = cc o := by
    unfold usN
    rw [if_pos (by omega)]
    exact congrArg cc (by omega)
  unfold spN
  rw [e]
  unfold sp
  rw [if_pos (h o ho)]
/-- the best plan, put in, is without fault, and as long as it was told -/
theorem use_ok {N cc : Nat → Nat} {m : Nat} (d : DW N) (hm : m ≤ 8) (hno : ∀ m', m' < m → NoSol N (N 3) m') (lx : LexMin (N 8) (candM N (N 3) m) cc) (hc : ∀ j, j < N 8 → cc j < 8) : pfS (usN N cc) = 0 ∧ psS (usN N cc) (usN N cc 8) = m := by
  have sol := lx.1
  have h8 := d.2.2.2.1.1
  have e : ∀ j, ¬ (20 ≤ j ∧ j < 20 + 6 * N 8 ∧ (j - 20) % 6 = 5) → usN N cc j = N j := fun j h => if_neg h
  have u8 : usN N cc 8 = N 8 := e 8 (by omega)
  have sp1 : ∀ o, o < N 8 → spN (usN N cc) o = cc o + 1 := fun o ho => us_sp hc ho
  have op : ∀ o, o < 6 → opS (usN N cc) o = opS N o := fun o ho => by
    unfold opS
    rw [e 0 (by omega), e _ (by omega), e _ (by omega), e _ (by omega), e _ (by omega)]
  have nb : ∀ S, nbS (usN N cc) S = nbS N S := fun S => by
    unfold nbS
    rw [e 0 (by omega), e 1 (by omega)]
  have tc : ∀ o k, o < 6 → k < 6 → tcB (usN N cc) o k = tcB N o k := fun o k ho hk => by
    unfold tcB
    rw [op o ho, op k hk, nb]
  have fo : ∀ o, o < 6 → foS (usN N cc) o = foS N o := fun o ho => by
    unfold foS
    rw [e _ (by omega), e _ (by omega), e _ (by omega)]
  have lt : ∀ o, o < N 8 → cc o < m := fun o ho => by
    have := sol o ho
    unfold candM at this
    rw [Bool.and_eq_true] at this
    exact of_decide_eq_true this.1
  have tst : ∀ o, o < N 8 → tstS N (N 3) o cc (cc o) = true := fun o ho => by
    have := sol o ho
    unfold candM at this
    rw [Bool.and_eq_true] at this
    exact this.2
  have apart : ∀ a b, a < N 8 → b < a → tcB N a b = true → cc b ≠ cc a := fun a b ha hb t z => by
    have h := tst_conf (tst a ha) hb
    unfold conf earlyC at h
    rw [t, Bool.true_and] at h
    by_cases q : kd N a = kd N b
    · rw [if_pos q, decide_eq_true z] at h
      cases h
    · rw [if_neg q] at h
      by_cases q1 : kd N a = 1
      · rw [if_pos q1] at h
        have := of_decide_eq_false h
        omega
      · rw [if_neg q1] at h
        have := of_decide_eq_false h
        omega
  have heavy : ∀ s n, n ≤ N 8 → suS N cc s n ≤ N 3 := fun s n => by
    induction n with
    | zero => intro _; exact Nat.zero_le _
    | succ n ih =>
      intro hn
      have i1 := ih (by omega)
      unfold suS at i1 ⊢
      rw [fb_sm_succ]
      by_cases q : cc n = s
      · have := tst n (by omega)
        unfold tstS at this
        rw [Bool.and_eq_true] at this
        have := of_decide_eq_true this.2
        unfold suS at this
        rw [q] at this
        rw [if_pos q]
        omega
      · rw [if_neg q]
        exact i1
  constructor
  · refine pf_0.mpr ⟨?_, ?_, ?_, ?_⟩
    · rw [u8]
      refine exB_no fun o ho => ?_
      unfold lackP
      rw [sp1 o ho]
      exact decide_eq_false (by omega)
    · refine exB_no fun s hs => ?_
      unfold heavyA
      rw [e 3 (by omega)]
      have e1 : fsS (usN N cc) (s + 1) = suS N cc s (N 8) := by
        unfold fsS suS
        rw [u8]
        refine fb_sm_cong fun o ho => ?_
        rw [sp1 o ho, fo o (by omega)]
        by_cases q : cc o = s
        · rw [if_pos q, if_pos (by omega)]
        · rw [if_neg q, if_neg (by omega)]
      rw [e1]
      have := heavy s (N 8) (Nat.le_refl _)
      exact decide_eq_false (by omega)
    · rw [u8]
      refine exB_no fun o ho => ?_
      unfold closeA
      rw [u8]
      refine exB_no fun k hk => ?_
      unfold closeB
      rw [tc o k (by omega) (by omega), sp1 o ho, sp1 k hk]
      cases t : tcB N o k with
      | false => rfl
      | true =>
        rw [Bool.true_and]
        refine decide_eq_false ?_
        rcases Nat.lt_trichotomy k o with q | q | q
        · have := apart o k ho q t
          omega
        · subst q
          rw [tc_self] at t
          cases t
        · have := apart k o hk q (by rw [tcB_sym d hk ho]; exact t)
          omega
    · rw [u8]
      refine exB_no fun o ho => ?_
      unfold earlyA
      rw [u8]
      refine exB_no fun k hk => ?_
      unfold early
      rw [e (20 + 6 * o + 0) (by omega), e (20 + 6 * k + 0) (by omega), e 4 (by omega), tc o k (by omega) (by omega), sp1 o ho, sp1 k hk]
      refine decide_eq_false fun ⟨q1, q2, q3, q4⟩ => ?_
      have := sol_gap d sol ho hk q1 q2 q3
      omega
  · rw [u8]
    have up : ∀ n, n ≤ N 8 → psS (usN N cc) n ≤ m := fun n => by
      induction n with
      | zero => intro _; exact Nat.zero_le _
      | succ n ih =>
        intro hn
        have i1 := ih (by omega)
        have h2 := sp1 n (by omega)
        have h3 := lt n (by omega)
        rw [psS]
        split <;> omega
    have hi := up (N 8) (Nat.le_refl _)
    by_cases q : psS (usN N cc) (N 8) < m
    · refine absurd ?_ (hno _ q cc)
      intro k hk
      have h2 := ps_ge (usN N cc) (N 8) k hk
      rw [sp1 k hk] at h2
      unfold candM
      rw [tst k hk, decide_eq_true (by omega)]
      rfl
    · omega
theorem sp_stV {q : Nat} (h : q ≤ 8) : sp (stV q) = q := by
  unfold sp stV
  by_cases z : q = 0
  · subst z
    decide
  · rw [if_neg z, if_pos (by omega)]
    omega
theorem pi_tb {N : Nat → Nat} (d : DW N) {s : Nat} (b : Bool) : (piS N s b).testBit s = b := by
  unfold piS
  cases b with
  | true => rw [if_pos rfl, Nat.testBit_or, tb_pow_iff, decide_eq_true rfl, Bool.or_true]
  | false => rw [if_neg (by decide), sdf_tb _ _ (Nat.lt_trans d.2.2.2.1.2 (by decide)), tb_pow_iff, decide_eq_true rfl, Bool.not_true, Bool.and_false]
theorem kI {k : Nat} {t : Nat} (hk : k < 100) (ht : t < 100) : (nI k ≤ nI t ↔ k ≤ t) ∧ (nI t = nI k ↔ t = k) := ⟨by rw [fa_le, nI_toInt (by omega), nI_toInt (by omega)]; omega, nI_eq (by omega) (by omega)⟩
theorem act_place (hF : 1000000 < F) (i : I3 B c N) {p q : Nat} (hp : p < 7) (hq : q < 9) : ∃ c2 N2, (bd2 (fL_place F c (nI p) (eN q)) fun r49 u50 => bd1 (if nI p < nI (N 8) then (if r49 < (-1 : Int32) then some (0 : Int32) else bd1 (g_operation F u50 (nI p) (6 : Int32)) fun r52 => if ¬ r52 = eN q then some (0 : Int32) else some (1 : Int32)) else (if ¬ r49 = (-4 : Int32) then some (0 : Int32) else some (1 : Int32))) fun v51 => gb v51 (some (v51, u50))) = some ((1 : Int32), c2) ∧ I3 B c2 N2 := by
  obtain ⟨d, -⟩ := i.dw
  have h8 := d.2.2.2.1.1
  by_cases z : p < N 8
  · obtain ⟨c2, e2, i2⟩ := ga_setStation hF i z (show q ≤ 8 by omega)
    have e : fL_place F c (nI p) (eN q) = some (eN (spN N p), c2) := by
      unfold fL_place
      rw [e2]
    have n8 : upN N (20 + 6 * p + 5) (stV q) 8 = N 8 := upN_n (by omega)
    have es : spN (upN N (20 + 6 * p + 5) (stV q)) p = q := by
      unfold spN
      rw [upN_s]
      exact sp_stV (by omega)
    have hs := spN_le N p
    refine ⟨c2, _, ?_, i2⟩
    rw [bd2_e e, if_pos (by rw [fa_lt, nI_toInt (by omega), nI_toInt (by omega)]; omega), eN_0, if_neg (show ¬ eN (spN N p) < eN 0 from fun y => by rw [eN_lt (by omega) (by omega)] at y; omega), bd1_e (go6 hF i2 (by rw [n8]; exact z)), es, if_neg (nn rfl), bd1_s]
    rfl
  · obtain ⟨g1, g2⟩ := gx_place_no (F := F) (b := eN q) i z (by omega)
    have e : fL_place F c (nI p) (eN q) = some (-4, c) := by
      unfold fL_place
      rw [g1]
      show bd1 (gx_setStation F c (nI p) (eN q)) _ = _
      rw [bd1_e g2]
    refine ⟨c, N, ?_, i⟩
    rw [bd2_e e, if_neg (fun y => by rw [fa_lt, nI_toInt (by omega), nI_toInt (by omega)] at y; omega), if_neg (nn rfl), bd1_s]
    rfl
theorem act_plan (hF : 1000000 < F) (i : I3 B c N) : ∃ c2 N2, (bd2 (g_planned F c (-1 : Int32)) fun r38 u39 => bd2 (fL_usePlan F u39) fun r40 u41 => bd1 (if ¬ r38 = (-1 : Int32) then some r38 else some (-3 : Int32)) fun v42 => bd1 (if ¬ r40 = v42 then some (0 : Int32) else (if r38 = (-1 : Int32) then some (1 : Int32) else bd1 (g_planFault F u41) fun r44 => if ¬ r44 = 0 then some (0 : Int32) else bd1 (g_whole F u41 (9 : Int32)) fun r45 => if ¬ r45 = r38 then some (0 : Int32) else some (1 : Int32))) fun v43 => gb v43 (some (v43, u41))) = some ((1 : Int32), c2) ∧ I3 B c2 N2 := by
  obtain ⟨d, -⟩ := i.dw
  obtain ⟨rr, ch, c2, e1, r1, i2⟩ := gv_planned hF i
  obtain ⟨rr2, ch2, r2, alt⟩ := ga_usePlan hF i2
  have er := (PlanRes.one r1 r2).1
  rcases alt with ⟨z, g1, c3, g2, i3⟩ | ⟨m, cc, hm, z, hno, lx, hc, c3, g1, i3⟩
  · have e : fL_usePlan F c2 = some (-3, c3) := by
      unfold fL_usePlan
      rw [g1]
      show bd1 (gx_usePlan F c2) _ = _
      rw [bd1_e g2]
    refine ⟨c3, N, ?_, i3⟩
    rw [bd2_e e1, bd2_e e, er, z, eN_0, if_neg (nn rfl), bd1_s, if_neg (nn rfl), if_pos rfl, bd1_s]
    rfl
  · have e : fL_usePlan F c2 = some (nI m, c3) := by
      unfold fL_usePlan
      rw [g1]
    obtain ⟨p0, pm⟩ := use_ok d hm hno lx hc
    have hn : ¬ nI m = (-1 : Int32) := by rw [eN_s, eN_0, eN_eq (by omega) (by omega)]; omega
    refine ⟨c3, _, ?_, i3⟩
    rw [bd2_e e1, bd2_e e, er, z, if_pos hn, bd1_s, if_neg (nn rfl), if_neg hn, bd1_e (gv_planFault hF i3), p0, if_neg (nn (show nI 0 = (0 : Int32) from rfl)), bd1_e (gw9 hF i3), pm, if_neg (nn rfl), bd1_s]
    rfl
end ACTS
