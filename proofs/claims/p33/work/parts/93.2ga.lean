/-! the calls that change the state -/
theorem GN.cong {M N : Nat → Nat} (h : ∀ j, j < 100 → j ≠ 12 → M j = N j) (h8 : N 8 ≤ 6) (g : GN N) : GN M := by
  refine ⟨?_, fun o ho hk => ?_⟩
  · rw [h 9 (by omega) (by omega), h 10 (by omega) (by omega), h 11 (by omega) (by omega), g.1]
    refine congrArg _ (fb_sm_cong fun s hs => ?_)
    exact (h _ (by omega) (by omega)).symm
  · rw [h 8 (by omega) (by omega)] at ho
    rw [h _ (by omega) (by omega)] at hk ⊢
    exact g.2 o ho hk
/-- the die's other numbers changed -/
theorem GN.die {M N : Nat → Nat} (h : ∀ j, (9 ≤ j ∧ j ≤ 11) ∨ (60 ≤ j ∧ j < 100) → M j = N j) (h8 : M 8 = N 8) (hk : ∀ o, o < N 8 → M (20 + 6 * o + 0) = N (20 + 6 * o + 0) ∧ M (20 + 6 * o + 4) = N (20 + 6 * o + 4)) (g : GN N) : GN M := by
  refine ⟨?_, fun o ho hq => ?_⟩
  · rw [h 9 (by omega), h 10 (by omega), h 11 (by omega), g.1]
    refine congrArg _ (fb_sm_cong fun s hs => ?_)
    exact (h _ (by omega)).symm
  · rw [h8] at ho
    rw [(hk o ho).1] at hq
    rw [(hk o ho).2]
    exact g.2 o ho hq
theorem rgn_save {N S : Nat → Nat} {st : Nat} (hst : st ≤ 4) (h8 : N 8 ≤ 6) (h8s : ∀ a, a < st → S (100 * a + 8) ≤ 6) (gn : GN N) (rg : RGN st S) : RGN (svT st) (svS S st N) := by
  intro a ha
  by_cases q4 : st = 4
  · subst q4
    have ha : a < 4 := ha
    by_cases q3 : a = 3
    · subst q3
      refine GN.cong (fun j hj _ => ?_) h8 gn
      show svS S 4 N (100 * 3 + j) = N j
      unfold svS
      rw [if_pos rfl, if_neg (by omega), if_pos (by omega)]
      exact congrArg _ (by omega)
    · refine GN.cong (N := fun j => S (100 * (a + 1) + j)) (fun j hj _ => ?_) (h8s (a + 1) (by omega)) (rg (a + 1) (by omega))
      show svS S 4 N (100 * a + j) = S (100 * (a + 1) + j)
      unfold svS
      rw [if_pos rfl, if_pos (by omega)]
      exact congrArg _ (by omega)
  · have e2 : svT st = st + 1 := if_neg q4
    rw [e2] at ha
    by_cases q3 : a = st
    · subst q3
      refine GN.cong (fun j hj _ => ?_) h8 gn
      show svS S a N (100 * a + j) = N j
      unfold svS
      rw [if_neg q4, if_pos (by omega)]
      exact congrArg _ (by omega)
    · refine GN.cong (N := fun j => S (100 * a + j)) (fun j hj _ => ?_) (h8s a (by omega)) (rg a (by omega))
      show svS S st N (100 * a + j) = S (100 * a + j)
      unfold svS
      rw [if_neg q4, if_neg (by omega)]
theorem ring_8 {o st B : Nat} {SS : Nat → Snap} {S : Nat → Nat} (h : Ring o st SS S B) : ∀ a, a < st → S (100 * a + 8) ≤ 6 := fun a ha => by
  obtain ⟨set, fac, dce, pm, sm, cel, ben, off, -, r⟩ := (h.2.2 a ha).1
  exact r.1.2.2.2.1.1
theorem gn_beg (N : Nat → Nat) (C R : Nat) : GN (begN N C R) := by
  have z : ∀ j, 8 ≤ j → j < 100 → begN N C R j = 0 := fun j h1 h2 => by
    unfold begN
    rw [if_neg (by omega), if_neg (by omega), if_neg (by omega), if_pos h2]
  refine ⟨?_, fun o ho => absurd ho (by rw [z 8 (by omega) (by omega)]; omega)⟩
  rw [z 9 (by omega) (by omega), z 10 (by omega) (by omega), z 11 (by omega) (by omega)]
  have : ptS (begN N C R) ≤ 8 * 0 := fb_sm_bound (c := 0) (n := 8) fun s hs => by rw [z _ (by omega) (by omega)]; exact Nat.le_refl 0
  omega
theorem gn_up {N : Nat → Nat} {k v : Nat} (hk : k < 8 ∨ (12 ≤ k ∧ k < 20)) (g : GN N) : GN (upN N k v) := g.die (fun j hj => upN_n (by omega)) (upN_n (by omega)) (fun o ho => ⟨upN_n (by omega), upN_n (by omega)⟩)
theorem gn_mk {N : Nat → Nat} (S m : Nat) (g : GN N) : GN (mkN N S m) := gn_up (by omega) (gn_up (by omega) g)
theorem gn_st {N : Nat → Nat} {a v : Nat} (ha : a < 6) (g : GN N) : GN (upN N (20 + 6 * a + 5) v) := g.die (fun j hj => upN_n (by omega)) (upN_n (by omega)) (fun o ho => ⟨upN_n (by omega), upN_n (by omega)⟩)
theorem gn_ad {N : Nat → Nat} {k x y w h : Nat} (h8 : N 8 < 6) (hk : k = 1 → h = 1) (g : GN N) : GN (adN N k x y w h) := by
  refine ⟨?_, fun o ho hq => ?_⟩
  · rw [ad_o (j := 9) (by omega) (by omega), ad_o (j := 10) (by omega) (by omega), ad_o (j := 11) (by omega) (by omega), g.1]
    refine congrArg _ (fb_sm_cong fun s hs => ?_)
    unfold adN
    rw [if_neg (by omega), if_neg (by omega), if_neg (by omega), if_neg (by omega), if_neg (by omega), if_neg (by omega), if_neg (by omega)]
  · have e8 : adN N k x y w h 8 = N 8 + 1 := if_pos rfl
    rw [e8] at ho
    by_cases z : o = N 8
    · subst z
      unfold adN at hq ⊢
      rw [if_neg (by omega), if_neg (by omega), if_neg (by omega), if_neg (by omega), if_neg (by omega), if_neg (by omega), if_pos rfl] at hq
      rw [if_neg (by omega), if_neg (by omega), if_pos rfl]
      exact hk hq
    · unfold adN at hq ⊢
      rw [if_neg (by omega), if_neg (by omega), if_neg (by omega), if_neg (by omega), if_neg (by omega), if_neg (by omega), if_neg (by omega)] at hq ⊢
      exact g.2 o (by omega) hq
theorem gn_dr {N : Nat → Nat} {a : Nat} (h8 : N 8 ≤ 6) (ha : a < N 8) (g : GN N) : GN (drN N a) := by
  refine ⟨?_, fun o ho hq => ?_⟩
  · rw [dr_o (j := 9) (by omega) (by omega), dr_o (j := 10) (by omega) (by omega), dr_o (j := 11) (by omega) (by omega), g.1]
    refine congrArg _ (fb_sm_cong fun s hs => ?_)
    unfold drN
    rw [if_neg (by omega), if_neg (by omega), if_neg (by omega)]
  · have e8 : drN N a 8 = N 8 - 1 := if_pos rfl
    rw [e8] at ho
    by_cases z : o < a
    · unfold drN at hq ⊢
      rw [if_neg (by omega), if_neg (by omega), if_neg (by omega)] at hq ⊢
      exact g.2 o (by omega) hq
    · unfold drN at hq ⊢
      rw [if_neg (by omega), if_pos (by omega)] at hq ⊢
      have := g.2 (o + 1) (by omega) (by rw [← hq]; exact congrArg N (by omega))
      rw [← this]
      exact congrArg N (by omega)
theorem gn_us {N c : Nat → Nat} (h8 : N 8 ≤ 6) (g : GN N) : GN (usN N c) := by
  have e : ∀ j, ¬ (20 ≤ j ∧ j < 20 + 6 * N 8 ∧ (j - 20) % 6 = 5) → usN N c j = N j := fun j h => if_neg h
  exact g.die (fun j hj => e j (by omega)) (e 8 (by omega)) (fun o ho => ⟨e _ (by omega), e _ (by omega)⟩)
theorem gc_bc (N : Nat → Nat) : ∀ t, gcS N t + bcS N t = fb_sm (fun i => if cutB N (7 - i) = true then 1 else 0) t
  | 0 => rfl
  | t + 1 => by
    have h := gc_bc N t
    unfold gcS bcS at h ⊢
    rw [fb_sm_succ, fb_sm_succ, fb_sm_succ, ← h]
    cases cutB N (7 - t) <;> cases godB N (7 - t) <;> simp <;> omega
theorem go_bo (N : Nat → Nat) : ogS N + obS N = if psS N (N 8) = 0 then 1 else 0 := by
  unfold ogS obS
  by_cases z : psS N (N 8) = 0
  · rw [if_pos z, if_pos z, if_pos z]
    cases gdS N (alS N) 0 0 <;> rfl
  · rw [if_neg z, if_neg z, if_neg z]
theorem one_if {b : Bool} : (if b = true then 1 else 0) ≤ 1 := by cases b <;> decide
theorem pt_nx {F : Nat} {N M : Nat → Nat} (w : PW N) (sf : StrokeF N M) : ptS M = fb_sm (fun s => if tB N s = true then 1 else 0) 8 := fb_sm_cong fun s hs => by
  have h := sf.2.2.2.2.2 s hs
  cases z : tB N s with
  | true => rw [if_pos rfl]; exact (h.1 z).1
  | false => rw [if_neg (by decide)]; exact h.2 z 0 (by omega)
theorem t_step {N : Nat → Nat} (w : PW N) {s : Nat} (hs : s < 8) : N (60 + 5 * s + 0) = (if cutB N s = true then 1 else 0) + (if (decide (N (60 + 5 * s + 0) = 1) && decide (s + 1 < psS N (N 8))) = true then 1 else 0) := by
  have h := (w s hs).1
  unfold cutB
  rcases (show N (60 + 5 * s + 0) = 0 ∨ N (60 + 5 * s + 0) = 1 by omega) with z | z
  · rw [z]; simp
  · rw [z]
    by_cases q : psS N (N 8) ≤ s + 1
    · rw [decide_eq_true q, decide_eq_false (show ¬ s + 1 < psS N (N 8) by omega)]; rfl
    · rw [decide_eq_false q, decide_eq_true (show s + 1 < psS N (N 8) by omega)]; rfl
theorem pt_sum {N : Nat → Nat} (w : PW N) : ptS N + 1 = (gcS N 8 + bcS N 8) + (ogS N + obS N) + fb_sm (fun s => if tB N s = true then 1 else 0) 8 := by
  have e1 : ptS N = fb_sm (fun s => (if cutB N s = true then 1 else 0) + (if (decide (N (60 + 5 * s + 0) = 1) && decide (s + 1 < psS N (N 8))) = true then 1 else 0)) 8 := fb_sm_cong fun s hs => t_step w hs
  have e2 := rev8 (fun i => if cutB N i = true then 1 else 0)
  have e3 := fb_sm_split (fun s => if tB N s = true then 1 else 0) 1 7
  have e4 : fb_sm (fun s => if (decide (N (60 + 5 * s + 0) = 1) && decide (s + 1 < psS N (N 8))) = true then 1 else 0) 8 = fb_sm (fun k => if tB N (1 + k) = true then 1 else 0) 7 + (if (decide (N (60 + 5 * 7 + 0) = 1) && decide (7 + 1 < psS N (N 8))) = true then 1 else 0) := by
    rw [fb_sm_succ]
    refine congrArg (· + _) (fb_sm_cong fun s hs => ?_)
    have q : tB N (1 + s) = (decide (N (60 + 5 * s + 0) = 1) && decide (s + 1 < psS N (N 8))) := by
      unfold tB
      rw [if_neg (show ¬ 1 + s = 0 by omega), show 1 + s - 1 = s by omega, Nat.add_comm 1 s]
    rw [q]
  have e5 : (if (decide (N (60 + 5 * 7 + 0) = 1) && decide (7 + 1 < psS N (N 8))) = true then 1 else 0) = 0 := by
    rw [decide_eq_false (show ¬ 7 + 1 < psS N (N 8) by have := ps_le N (N 8); omega), Bool.and_false]
    rfl
  have e6 : fb_sm (fun s => if tB N s = true then 1 else 0) 1 = if psS N (N 8) = 0 then 0 else 1 := by
    show 0 + (if tB N 0 = true then 1 else 0) = _
    unfold tB
    rw [if_pos rfl]
    by_cases z : psS N (N 8) = 0
    · rw [if_pos z, decide_eq_false (fun h => h z)]; rfl
    · rw [if_neg z, decide_eq_true z]; rfl
  have e7 := gc_bc N 8
  have e8 := go_bo N
  rw [fb_sm_add] at e1
  rw [show (1 : Nat) + 7 = 8 from rfl] at e3
  rw [e2] at e7
  by_cases z : psS N (N 8) = 0
  · rw [if_pos z] at e6 e8
    omega
  · rw [if_neg z] at e6 e8
    omega
theorem gn_nx {N M : Nat → Nat} (h : DW N) (w : PW N) (sf : StrokeF N M) (g : GN N) : GN M := by
  have e := sf.1
  have p1 := pt_nx (F := 0) w sf
  have p2 := pt_sum w
  refine ⟨?_, fun o ho hq => ?_⟩
  · have h1 := sf.2.1
    have h2 := sf.2.2.2.1
    have h3 := sf.2.2.2.2.1
    have h4 := g.1
    rw [h1, h2, h3, p1]
    omega
  · have h8 := h.2.2.2.1.1
    rw [e_8 e] at ho
    rw [e_i e (by omega) (by omega)] at hq ⊢
    exact g.2 o ho hq
theorem bd5_n {A1 A2 A3 A4 A5 ρ : Type} {X : Option (A1 × A2 × A3 × A4 × A5)} {K : A1 → A2 → A3 → A4 → A5 → Option ρ} (h : X = none) : bd5 X K = none := by rw [h]; rfl
theorem bd7_n {A1 A2 A3 A4 A5 A6 A7 ρ : Type} {X : Option (A1 × A2 × A3 × A4 × A5 × A6 × A7)} {K : A1 → A2 → A3 → A4 → A5 → A6 → A7 → Option ρ} (h : X = none) : bd7 X K = none := by rw [h]; rfl
theorem bd13_n {A1 A2 A3 A4 A5 A6 A7 A8 A9 A10 A11 A12 A13 ρ : Type} {X : Option (A1 × A2 × A3 × A4 × A5 × A6 × A7 × A8 × A9 × A10 × A11 × A12 × A13)} {K : A1 → A2 → A3 → A4 → A5 → A6 → A7 → A8 → A9 → A10 → A11 → A12 → A13 → Option ρ} (h : X = none) : bd13 X K = none := by rw [h]; rfl
section GA
variable {F B : Nat} {c : CSt} {N : Nat → Nat}
theorem ga_begin (hF : 1000000 < F) (i : I3 B c N) {C R : Nat} (qC : 2 ≤ C ∧ C ≤ 10) (qR : 2 ≤ R ∧ R ≤ 6) : ∃ c2, g_begin F c (nI C) (nI R) = some (nI (N 8), c2) ∧ I3 B c2 (begN N C R) := by
  obtain ⟨S, o, st, len, set, fac, dce, pm, sm, cel, ben, off, SS, tr, pl, cb, u, cat, wd, rfl, r, g, b10, b11, gn, rg⟩ := i
  obtain ⟨t1, t2, t3, t4, t5, t6, t7, t8, t9⟩ := tr
  obtain ⟨p1, p2, p3, p4, p5, p6, p7, p8⟩ := pl
  have ho := g.1
  have hst := g.2.1
  have h1000 : 1000 < F := by omega
  have g' := ring_save g ⟨_, _, _, _, _, _, _, _, rfl, r⟩ b10 b11
  have h0 := r.1.1.2.1
  have h1 := r.1.1.2.2.2.1
  have h8 := r.1.2.2.2.1.1
  have rg' := rgn_save hst h8 (ring_8 g) gn rg
  have q0 : 2 ≤ (nI C).toInt ∧ (nI C).toInt ≤ 10 ∧ 2 ≤ (nI R).toInt ∧ (nI R).toInt ≤ 6 := by rw [nI_toInt (by omega), nI_toInt (by omega)]; omega
  have hc : fX5_begin (nI o) (nI st) (nI (N 0)) (nI (N 1)) (nI (N 2)) (lN (N 14)) (lN (N 15)) (nI (N 8)) (nI (N 13)) set fac dce (nI pm) (nI sm) cel ben off (nI (N 9)) (nI (N 10)) (nI (N 11)) (nI (N 12)) SS (nI C) (nI R) = some (nI (N 8), nI (svO o st), nI (svT st), nI C, nI R, 0, 0, 0, 0, 0, 0, 0, 0, 0, 0, svF o st (snp N set fac dce pm sm cel ben off) SS) := by
    unfold fX5_begin
    rw [bd1_e x5_size, decide_eq_true q0, bI_t, if_pos nn1, bd3_e (x5_saveN ho hst), bd12_e (x5_over r.2.1 r.2.2.2.1)]
  exact ⟨_, bd16_e hc, I3.mk (N := begN N C R) (S := svS S st N) rfl (rl_begin qC qR r) g' (Nat.zero_le _) (Nat.zero_le _) (gn_beg N C R) rg'⟩
theorem ga_mark (hF : 1000000 < F) (i : I3 B c N) {x y w h m : Nat} (qw : 1 ≤ w) (qh : 1 ≤ h) (qx : x + w ≤ N 0) (qy : y + h ≤ N 1) (hm2 : m ≤ 2) : ∃ c2, g_mark F c (nI x) (nI y) (nI w) (nI h) (nI m) = some (nI (mkC N (rcS (N 0) x y w h) m), c2) ∧ I3 B c2 (mkN N (rcS (N 0) x y w h) m) := by
  obtain ⟨S, o, st, len, set, fac, dce, pm, sm, cel, ben, off, SS, tr, pl, cb, u, cat, wd, rfl, r, g, b10, b11, gn, rg⟩ := i
  obtain ⟨t1, t2, t3, t4, t5, t6, t7, t8, t9⟩ := tr
  obtain ⟨p1, p2, p3, p4, p5, p6, p7, p8⟩ := pl
  have ho := g.1
  have hst := g.2.1
  have h1000 : 1000 < F := by omega
  have g' := ring_save g ⟨_, _, _, _, _, _, _, _, rfl, r⟩ b10 b11
  have h0 := r.1.1.2.1
  have h1 := r.1.1.2.2.2.1
  have h8 := r.1.2.2.2.1.1
  have rg' := rgn_save hst h8 (ring_8 g) gn rg
  have hh : fX1_holds (nI (N 0)) (nI (N 1)) (nI x) (nI y) (nI w) (nI h) = some (nI 1) := x1_holds_y h0 h1 qw qh qx qy
  have hc : fX5_mark F (nI o) (nI st) (nI (N 0)) (nI (N 1)) (nI (N 2)) (lN (N 14)) (lN (N 15)) (nI (N 8)) (nI (N 13)) set fac dce (nI pm) (nI sm) cel ben off (nI (N 9)) (nI (N 10)) (nI (N 11)) (nI (N 12)) SS (nI x) (nI y) (nI w) (nI h) (nI m) = some (nI (mkC N (rcS (N 0) x y w h) m), nI (svO o st), nI (svT st), lN (mkP N (rcS (N 0) x y w h) m), lN (mkL N (rcS (N 0) x y w h) m), svF o st (snp N set fac dce pm sm cel ben off) SS) := by
    unfold fX5_mark
    rw [bd1_e hh, if_neg nn1, if_neg (nI_pos (by omega)), il_2, if_pos (nI_le hm2 (by omega)), bd3_e (x5_saveN ho hst), bd1_e (x1_rect (by omega) r.1.1.1 h0 h1 qx qy), bd3_e (x1_mark r.1 (rc_in r.1.1.1 qx qy) hm2)]
  exact ⟨_, bd6_e hc, I3.mk (N := mkN N (rcS (N 0) x y w h) m) (S := svS S st N) rfl (rl_mark (rc_in r.1.1.1 qx qy) r) g' b10 b11 (gn_mk _ _ gn) rg'⟩
theorem ga_setCarrier (hF : 1000000 < F) (i : I3 B c N) {m : Nat} (hm2 : m ≤ 2) : ∃ c2, g_setCarrier F c (nI m) = some (nI (N 2), c2) ∧ I3 B c2 (upN N 2 m) := by
  obtain ⟨S, o, st, len, set, fac, dce, pm, sm, cel, ben, off, SS, tr, pl, cb, u, cat, wd, rfl, r, g, b10, b11, gn, rg⟩ := i
  obtain ⟨t1, t2, t3, t4, t5, t6, t7, t8, t9⟩ := tr
  obtain ⟨p1, p2, p3, p4, p5, p6, p7, p8⟩ := pl
  have ho := g.1
  have hst := g.2.1
  have h1000 : 1000 < F := by omega
  have g' := ring_save g ⟨_, _, _, _, _, _, _, _, rfl, r⟩ b10 b11
  have h0 := r.1.1.2.1
  have h1 := r.1.1.2.2.2.1
  have h8 := r.1.2.2.2.1.1
  have rg' := rgn_save hst h8 (ring_8 g) gn rg
  have hc : fX5_setCarrier (nI o) (nI st) (nI (N 0)) (nI (N 1)) (nI (N 2)) (lN (N 14)) (lN (N 15)) (nI (N 8)) (nI (N 13)) set fac dce (nI pm) (nI sm) cel ben off (nI (N 9)) (nI (N 10)) (nI (N 11)) (nI (N 12)) SS (nI m) = some (nI (N 2), nI (svO o st), nI (svT st), nI m, svF o st (snp N set fac dce pm sm cel ben off) SS) := by
    unfold fX5_setCarrier
    rw [if_neg (nI_pos (by omega)), il_2, if_pos (nI_le hm2 (by omega)), bd3_e (x5_saveN ho hst)]
  exact ⟨_, bd5_e hc, I3.mk (N := upN N 2 m) (S := svS S st N) rfl (rl_carr hm2 r) g' b10 b11 (gn_up (by omega) gn) rg'⟩
theorem ga_set (hF : 1000000 < F) (i : I3 B c N) {a v : Nat} (qs : setOK a v) : ∃ c2, g_set F c (nI a) (nI v) = some (nI (N (3 + a)), c2) ∧ I3 B c2 (upN N (3 + a) v) := by
  obtain ⟨S, o, st, len, set, fac, dce, pm, sm, cel, ben, off, SS, tr, pl, cb, u, cat, wd, rfl, r, g, b10, b11, gn, rg⟩ := i
  obtain ⟨t1, t2, t3, t4, t5, t6, t7, t8, t9⟩ := tr
  obtain ⟨p1, p2, p3, p4, p5, p6, p7, p8⟩ := pl
  have ho := g.1
  have hst := g.2.1
  have h1000 : 1000 < F := by omega
  have g' := ring_save g ⟨_, _, _, _, _, _, _, _, rfl, r⟩ b10 b11
  have h0 := r.1.1.2.1
  have h1 := r.1.1.2.2.2.1
  have h8 := r.1.2.2.2.1.1
  have rg' := rgn_save hst h8 (ring_8 g) gn rg
  have ha5 : a < 5 := by unfold setOK at qs; omega
  have q0 : setOKi (nI a).toInt (nI v).toInt := by unfold setOK at qs; rw [nI_toInt (by omega), nI_toInt (by omega)]; unfold setOKi; omega
  have hc : fX5_set (nI o) (nI st) (nI (N 0)) (nI (N 1)) (nI (N 2)) (lN (N 14)) (lN (N 15)) (nI (N 8)) (nI (N 13)) set fac dce (nI pm) (nI sm) cel ben off (nI (N 9)) (nI (N 10)) (nI (N 11)) (nI (N 12)) SS (nI a) (nI v) = some (nI (N (3 + a)), nI (svO o st), nI (svT st), upd set a (nI v), svF o st (snp N set fac dce pm sm cel ben off) SS) := by
    unfold fX5_set
    rw [bd1_e (x5_isset q0), if_pos nn1, bd3_e (x5_saveN ho hst), bd1_e (x1_setn r.2.2.1 ha5), bd1_e (x1_chset ha5)]
  exact ⟨_, bd5_e hc, I3.mk (N := upN N (3 + a) v) (S := svS S st N) (by unfold snp; rw [upN_n (by omega), upN_n (by omega), upN_n (by omega), upN_n (by omega), upN_n (by omega), upN_n (by omega), upN_n (by omega), upN_n (by omega), upN_n (by omega), upN_n (by omega), upN_n (by omega)]) (rl_set qs r) g' (by rw [upN_n (by omega)]; exact b10) (by rw [upN_n (by omega)]; exact b11) (gn_up (by omega) gn) rg'⟩
theorem ga_addPunch (hF : 1000000 < F) (i : I3 B c N) {x y w h : Nat} (q6 : N 8 < 6) (qw : 1 ≤ w) (qh : 1 ≤ h) (qx : x + w ≤ N 0) (qy : y + h ≤ N 1) : ∃ c2, g_addPunch F c (nI x) (nI y) (nI w) (nI h) = some (nI (N 8), c2) ∧ I3 B c2 (adN N 0 x y w h) := by
  obtain ⟨S, o, st, len, set, fac, dce, pm, sm, cel, ben, off, SS, tr, pl, cb, u, cat, wd, rfl, r, g, b10, b11, gn, rg⟩ := i
  obtain ⟨t1, t2, t3, t4, t5, t6, t7, t8, t9⟩ := tr
  obtain ⟨p1, p2, p3, p4, p5, p6, p7, p8⟩ := pl
  have ho := g.1
  have hst := g.2.1
  have h1000 : 1000 < F := by omega
  have g' := ring_save g ⟨_, _, _, _, _, _, _, _, rfl, r⟩ b10 b11
  have h0 := r.1.1.2.1
  have h1 := r.1.1.2.2.2.1
  have h8 := r.1.2.2.2.1.1
  have rg' := rgn_save hst h8 (ring_8 g) gn rg
  have hh : fX1_holds (nI (N 0)) (nI (N 1)) (nI x) (nI y) (nI w) (nI h) = some (nI 1) := x1_holds_y (g := h) h0 h1 qw qh qx qy
  have hc : fX5_addPunch F (nI o) (nI st) (nI (N 0)) (nI (N 1)) (nI (N 2)) (lN (N 14)) (lN (N 15)) (nI (N 8)) (nI (N 13)) set fac dce (nI pm) (nI sm) cel ben off (nI (N 9)) (nI (N 10)) (nI (N 11)) (nI (N 12)) SS (nI x) (nI y) (nI w) (nI h) = some (nI (N 8), nI (svO o st), nI (svT st), nI (N 8 + 1), adF fac (N 8) 0 x y w h, vp_updL dce (N 8) (lN (rcS (N 0) x y w h)), svF o st (snp N set fac dce pm sm cel ben off) SS) := by
    unfold fX5_addPunch
    rw [bd1_e hh, if_pos nn1, bd1_e (x1_full h8), decide_eq_false (by omega), bI_f, if_pos nI_0, bd3_e (x5_saveN ho hst), bd4_e (show fX1_append F (nI (N 0)) (nI (N 1)) (nI (N 8)) fac dce (0 : Int32) (nI x) (nI y) (nI w) (nI h) = _ from x1_append (k := 0) (g := h) h1000 r.1 q6 (by omega) qx qy)]
  exact ⟨_, bd7_e hc, I3.mk (N := adN N 0 x y w h) (S := svS S st N) (by unfold snp; rw [ad_o (j := 0) (by omega) (by omega), ad_o (j := 1) (by omega) (by omega), ad_o (j := 2) (by omega) (by omega), ad_o (j := 14) (by omega) (by omega), ad_o (j := 15) (by omega) (by omega), ad_o (j := 13) (by omega) (by omega), ad_o (j := 9) (by omega) (by omega), ad_o (j := 10) (by omega) (by omega), ad_o (j := 11) (by omega) (by omega), ad_o (j := 12) (by omega) (by omega)]; rfl) (rl_adds q6 (by omega) qw qh qx qy r) g' (by rw [ad_o (by omega) (by omega)]; exact b10) (by rw [ad_o (by omega) (by omega)]; exact b11) (gn_ad q6 (fun h => absurd h (by omega)) gn) rg'⟩
theorem gx_addPunch_6 (i : I3 B c N) {x y w h : Nat} (q6 : N 8 = 6) (qw : 1 ≤ w) (qh : 1 ≤ h) (qx : x + w ≤ N 0) (qy : y + h ≤ N 1) : g_addPunch F c (nI x) (nI y) (nI w) (nI h) = none ∧ gx_addPunch F c (nI x) (nI y) (nI w) (nI h) = some c := by
  obtain ⟨S, o, st, len, set, fac, dce, pm, sm, cel, ben, off, SS, tr, pl, cb, u, cat, wd, rfl, r, g, b10, b11, gn, rg⟩ := i
  have h0 := r.1.1.2.1
  have h1 := r.1.1.2.2.2.1
  have h8 := r.1.2.2.2.1.1
  have hh : fX1_holds (nI (N 0)) (nI (N 1)) (nI x) (nI y) (nI w) (nI h) = some (nI 1) := x1_holds_y (g := h) h0 h1 qw qh qx qy
  have hc : fX5_addPunch F (nI o) (nI st) (nI (N 0)) (nI (N 1)) (nI (N 2)) (lN (N 14)) (lN (N 15)) (nI (N 8)) (nI (N 13)) set fac dce (nI pm) (nI sm) cel ben off (nI (N 9)) (nI (N 10)) (nI (N 11)) (nI (N 12)) SS (nI x) (nI y) (nI w) (nI h) = none := by
    unfold fX5_addPunch
    rw [bd1_e hh, if_pos nn1, bd1_e (x1_full h8), decide_eq_true q6, bI_t, if_neg nn1]
  have hx : fX5_addPunch_xS (nI (N 0)) (nI (N 1)) (nI (N 8)) (nI x) (nI y) (nI w) (nI h) = some () := by
    unfold fX5_addPunch_xS
    rw [bd1_e hh, if_pos nn1, bd1_e (x1_full h8), decide_eq_true q6, bI_t, if_neg nn1]
  exact ⟨bd7_n hc, bd1_e hx⟩
theorem ga_addBend (hF : 1000000 < F) (i : I3 B c N) {x y w : Nat} (q6 : N 8 < 6) (qw : 1 ≤ w) (qx : x + w ≤ N 0) (qy : y + 1 ≤ N 1) : ∃ c2, g_addBend F c (nI x) (nI y) (nI w) = some (nI (N 8), c2) ∧ I3 B c2 (adN N 1 x y w 1) := by
  obtain ⟨S, o, st, len, set, fac, dce, pm, sm, cel, ben, off, SS, tr, pl, cb, u, cat, wd, rfl, r, g, b10, b11, gn, rg⟩ := i
  obtain ⟨t1, t2, t3, t4, t5, t6, t7, t8, t9⟩ := tr
  obtain ⟨p1, p2, p3, p4, p5, p6, p7, p8⟩ := pl
  have ho := g.1
  have hst := g.2.1
  have h1000 : 1000 < F := by omega
  have g' := ring_save g ⟨_, _, _, _, _, _, _, _, rfl, r⟩ b10 b11
  have h0 := r.1.1.2.1
  have h1 := r.1.1.2.2.2.1
  have h8 := r.1.2.2.2.1.1
  have rg' := rgn_save hst h8 (ring_8 g) gn rg
  have hh : fX1_holds (nI (N 0)) (nI (N 1)) (nI x) (nI y) (nI w) (1 : Int32) = some (nI 1) := x1_holds_y (g := 1) h0 h1 qw (Nat.le_refl 1) qx qy
  have hc : fX5_addBend F (nI o) (nI st) (nI (N 0)) (nI (N 1)) (nI (N 2)) (lN (N 14)) (lN (N 15)) (nI (N 8)) (nI (N 13)) set fac dce (nI pm) (nI sm) cel ben off (nI (N 9)) (nI (N 10)) (nI (N 11)) (nI (N 12)) SS (nI x) (nI y) (nI w) = some (nI (N 8), nI (svO o st), nI (svT st), nI (N 8 + 1), adF fac (N 8) 1 x y w 1, vp_updL dce (N 8) (lN (rcS (N 0) x y w 1)), svF o st (snp N set fac dce pm sm cel ben off) SS) := by
    unfold fX5_addBend
    rw [bd1_e hh, if_pos nn1, bd1_e (x1_full h8), decide_eq_false (by omega), bI_f, if_pos nI_0, bd3_e (x5_saveN ho hst), bd4_e (show fX1_append F (nI (N 0)) (nI (N 1)) (nI (N 8)) fac dce (1 : Int32) (nI x) (nI y) (nI w) (1 : Int32) = _ from x1_append (k := 1) (g := 1) h1000 r.1 q6 (by omega) qx qy)]
  exact ⟨_, bd7_e hc, I3.mk (N := adN N 1 x y w 1) (S := svS S st N) (by unfold snp; rw [ad_o (j := 0) (by omega) (by omega), ad_o (j := 1) (by omega) (by omega), ad_o (j := 2) (by omega) (by omega), ad_o (j := 14) (by omega) (by omega), ad_o (j := 15) (by omega) (by omega), ad_o (j := 13) (by omega) (by omega), ad_o (j := 9) (by omega) (by omega), ad_o (j := 10) (by omega) (by omega), ad_o (j := 11) (by omega) (by omega), ad_o (j := 12) (by omega) (by omega)]; rfl) (rl_adds q6 (by omega) qw (Nat.le_refl 1) qx qy r) g' (by rw [ad_o (by omega) (by omega)]; exact b10) (by rw [ad_o (by omega) (by omega)]; exact b11) (gn_ad q6 (fun h => rfl) gn) rg'⟩
theorem gx_addBend_6 (i : I3 B c N) {x y w : Nat} (q6 : N 8 = 6) (qw : 1 ≤ w) (qx : x + w ≤ N 0) (qy : y + 1 ≤ N 1) : g_addBend F c (nI x) (nI y) (nI w) = none ∧ gx_addBend F c (nI x) (nI y) (nI w) = some c := by
  obtain ⟨S, o, st, len, set, fac, dce, pm, sm, cel, ben, off, SS, tr, pl, cb, u, cat, wd, rfl, r, g, b10, b11, gn, rg⟩ := i
  have h0 := r.1.1.2.1
  have h1 := r.1.1.2.2.2.1
  have h8 := r.1.2.2.2.1.1
  have hh : fX1_holds (nI (N 0)) (nI (N 1)) (nI x) (nI y) (nI w) (1 : Int32) = some (nI 1) := x1_holds_y (g := 1) h0 h1 qw (Nat.le_refl 1) qx qy
  have hc : fX5_addBend F (nI o) (nI st) (nI (N 0)) (nI (N 1)) (nI (N 2)) (lN (N 14)) (lN (N 15)) (nI (N 8)) (nI (N 13)) set fac dce (nI pm) (nI sm) cel ben off (nI (N 9)) (nI (N 10)) (nI (N 11)) (nI (N 12)) SS (nI x) (nI y) (nI w) = none := by
    unfold fX5_addBend
    rw [bd1_e hh, if_pos nn1, bd1_e (x1_full h8), decide_eq_true q6, bI_t, if_neg nn1]
  have hx : fX5_addBend_xS (nI (N 0)) (nI (N 1)) (nI (N 8)) (nI x) (nI y) (nI w) = some () := by
    unfold fX5_addBend_xS
    rw [bd1_e hh, if_pos nn1, bd1_e (x1_full h8), decide_eq_true q6, bI_t, if_neg nn1]
  exact ⟨bd7_n hc, bd1_e hx⟩
theorem ga_dropOperation (hF : 1000000 < F) (i : I3 B c N) {a : Nat} (qa : a < N 8) : ∃ c2, g_dropOperation F c (nI a) = some (nI (N 8 - 1), c2) ∧ I3 B c2 (drN N a) := by
  obtain ⟨S, o, st, len, set, fac, dce, pm, sm, cel, ben, off, SS, tr, pl, cb, u, cat, wd, rfl, r, g, b10, b11, gn, rg⟩ := i
  obtain ⟨t1, t2, t3, t4, t5, t6, t7, t8, t9⟩ := tr
  obtain ⟨p1, p2, p3, p4, p5, p6, p7, p8⟩ := pl
  have ho := g.1
  have hst := g.2.1
  have h1000 : 1000 < F := by omega
  have g' := ring_save g ⟨_, _, _, _, _, _, _, _, rfl, r⟩ b10 b11
  have h0 := r.1.1.2.1
  have h1 := r.1.1.2.2.2.1
  have h8 := r.1.2.2.2.1.1
  have rg' := rgn_save hst h8 (ring_8 g) gn rg
  have q0 : 0 ≤ (nI a).toInt ∧ (nI a).toInt < (N 8 : Int) := by rw [nI_toInt (by omega)]; omega
  have hc : fX5_dropOperation F (nI o) (nI st) (nI (N 0)) (nI (N 1)) (nI (N 2)) (lN (N 14)) (lN (N 15)) (nI (N 8)) (nI (N 13)) set fac dce (nI pm) (nI sm) cel ben off (nI (N 9)) (nI (N 10)) (nI (N 11)) (nI (N 12)) SS (nI a) = some (nI (N 8 - 1), nI (svO o st), nI (svT st), nI (N 8 - 1), rmF 7 fac a (N 8 - 1), rmF 1 dce a (N 8 - 1), fgF ben a, svF o st (snp N set fac dce pm sm cel ben off) SS) := by
    unfold fX5_dropOperation
    rw [bd1_e (x1_hasop h8), decide_eq_true q0, bI_t, if_pos nn1, bd3_e (x5_saveN ho hst), bd3_e (x1_remove h1000 h8 qa), bd1_e (x3_forget h1000 (by omega))]
  exact ⟨_, bd8_e hc, I3.mk (N := drN N a) (S := svS S st N) (by unfold snp; rw [dr_o (j := 0) (by omega) (by omega), dr_o (j := 1) (by omega) (by omega), dr_o (j := 2) (by omega) (by omega), dr_o (j := 14) (by omega) (by omega), dr_o (j := 15) (by omega) (by omega), dr_o (j := 13) (by omega) (by omega), dr_o (j := 9) (by omega) (by omega), dr_o (j := 10) (by omega) (by omega), dr_o (j := 11) (by omega) (by omega), dr_o (j := 12) (by omega) (by omega)]; rfl) (rl_drop qa r) g' (by rw [dr_o (by omega) (by omega)]; exact b10) (by rw [dr_o (by omega) (by omega)]; exact b11) (gn_dr h8 qa gn) rg'⟩
theorem ga_setStation (hF : 1000000 < F) (i : I3 B c N) {a p : Nat} (qa : a < N 8) (hp : p ≤ 8) : ∃ c2, g_setStation F c (nI a) (eN p) = some (eN (spN N a), c2) ∧ I3 B c2 (upN N (20 + 6 * a + 5) (stV p)) := by
  obtain ⟨S, o, st, len, set, fac, dce, pm, sm, cel, ben, off, SS, tr, pl, cb, u, cat, wd, rfl, r, g, b10, b11, gn, rg⟩ := i
  obtain ⟨t1, t2, t3, t4, t5, t6, t7, t8, t9⟩ := tr
  obtain ⟨p1, p2, p3, p4, p5, p6, p7, p8⟩ := pl
  have ho := g.1
  have hst := g.2.1
  have h1000 : 1000 < F := by omega
  have g' := ring_save g ⟨_, _, _, _, _, _, _, _, rfl, r⟩ b10 b11
  have h0 := r.1.1.2.1
  have h1 := r.1.1.2.2.2.1
  have h8 := r.1.2.2.2.1.1
  have rg' := rgn_save hst h8 (ring_8 g) gn rg
  have q0 : 0 ≤ (nI a).toInt ∧ (nI a).toInt < (N 8 : Int) := by rw [nI_toInt (by omega)]; omega
  have hc : fX5_setStation (nI o) (nI st) (nI (N 0)) (nI (N 1)) (nI (N 2)) (lN (N 14)) (lN (N 15)) (nI (N 8)) (nI (N 13)) set fac dce (nI pm) (nI sm) cel ben off (nI (N 9)) (nI (N 10)) (nI (N 11)) (nI (N 12)) SS (nI a) (eN p) = some (eN (spN N a), nI (svO o st), nI (svT st), upd fac (7 * a + 6) (eN p), svF o st (snp N set fac dce pm sm cel ben off) SS) := by
    unfold fX5_setStation
    rw [bd1_e (x1_hasop h8), decide_eq_true q0, bI_t, if_pos nn1]
    by_cases z : p = 0
    · rw [if_pos (by rw [z, eN_0]), bd3_e (x5_saveN ho hst), bd1_e (x1_f6 r.1 r.2.2.1 qa), bd1_e (show fX1_changeFact fac (nI a) 6 (eN p) = _ from fac_at (j := 6) (by omega))]
    · rw [if_neg (fun y => z (by rw [eN_0, eN_eq (by omega) (by omega)] at y; exact y)), bd1_e x5_stat, decide_eq_true (by rw [eN_int (by omega)]; omega), bI_t, if_pos nn1, bd3_e (x5_saveN ho hst), bd1_e (x1_f6 r.1 r.2.2.1 qa), bd1_e (show fX1_changeFact fac (nI a) 6 (eN p) = _ from fac_at (j := 6) (by omega))]
  exact ⟨_, bd5_e hc, I3.mk (N := upN N (20 + 6 * a + 5) (stV p)) (S := svS S st N) (by unfold snp; rw [upN_n (by omega), upN_n (by omega), upN_n (by omega), upN_n (by omega), upN_n (by omega), upN_n (by omega), upN_n (by omega), upN_n (by omega), upN_n (by omega), upN_n (by omega), upN_n (by omega)]) (rl_setst qa hp r) g' (by rw [upN_n (by omega)]; exact b10) (by rw [upN_n (by omega)]; exact b11) (gn_st (by omega) gn) rg'⟩
theorem gx_place_no (i : I3 B c N) {a : Nat} {b : Int32} (qa : ¬ a < N 8) (ha : a < 100) : g_setStation F c (nI a) b = none ∧ gx_setStation F c (nI a) b = some c := by
  obtain ⟨S, o, st, len, set, fac, dce, pm, sm, cel, ben, off, SS, tr, pl, cb, u, cat, wd, rfl, r, g, b10, b11, gn, rg⟩ := i
  have h8 := r.1.2.2.2.1.1
  have q : ¬ (0 ≤ (nI a).toInt ∧ (nI a).toInt < (N 8 : Int)) := by rw [nI_toInt (by omega)]; omega
  have hc : fX5_setStation (nI o) (nI st) (nI (N 0)) (nI (N 1)) (nI (N 2)) (lN (N 14)) (lN (N 15)) (nI (N 8)) (nI (N 13)) set fac dce (nI pm) (nI sm) cel ben off (nI (N 9)) (nI (N 10)) (nI (N 11)) (nI (N 12)) SS (nI a) b = none := by
    unfold fX5_setStation
    rw [bd1_e (x1_hasop h8), decide_eq_false q, bI_f, if_neg (fun z => z nI_0)]
  have hx : fX5_setStation_xB (nI (N 8)) (nI a) b = some () := by
    unfold fX5_setStation_xB
    rw [bd1_e (x1_hasop h8), decide_eq_false q, bI_f, if_neg (fun z => z nI_0)]
  exact ⟨bd5_n hc, bd1_e hx⟩
theorem ga_usePlan (hF : 1000000 < F) (i : I3 B c N) : ∃ rr ch, PlanRes N (N 3) rr ch ∧ ((rr = eN 0 ∧ g_usePlan F c = none ∧ ∃ c2, gx_usePlan F c = some c2 ∧ I3 B c2 N) ∨ ∃ m cc, m ≤ 8 ∧ rr = nI m ∧ (∀ m', m' < m → NoSol N (N 3) m') ∧ LexMin (N 8) (candM N (N 3) m) cc ∧ (∀ j, j < N 8 → cc j < 8) ∧ ∃ c2, g_usePlan F c = some (nI m, c2) ∧ I3 B c2 (usN N cc)) := by
  obtain ⟨S, o, st, len, set, fac, dce, pm, sm, cel, ben, off, SS, tr, pl, cb, u, cat, wd, rfl, r, g, b10, b11, gn, rg⟩ := i
  obtain ⟨t1, t2, t3, t4, t5, t6, t7, t8, t9⟩ := tr
  obtain ⟨p1, p2, p3, p4, p5, p6, p7, p8⟩ := pl
  have ho := g.1
  have hst := g.2.1
  have h1000 : 1000 < F := by omega
  have g' := ring_save g ⟨_, _, _, _, _, _, _, _, rfl, r⟩ b10 b11
  have h0 := r.1.1.2.1
  have h1 := r.1.1.2.2.2.1
  have h8 := r.1.2.2.2.1.1
  have rg' := rgn_save hst h8 (ring_8 g) gn rg
  obtain ⟨rr, x1, x2, x3, x4, x5, ch', x7, x8, e5, q5⟩ := x2_best (F := F) (ch := p6) (tou := p7) (frc := p8) hF r.1 r.2.2.1
  refine ⟨rr, ch', q5, ?_⟩
  rcases q5 with ⟨z, -⟩ | ⟨m, cc, hm, z, hno, lx, hcc⟩
  · have hc : fX5_usePlan F (nI o) (nI st) (nI (N 0)) (nI (N 1)) (nI (N 2)) (lN (N 14)) (lN (N 15)) (nI (N 8)) (nI (N 13)) set fac dce (nI pm) (nI sm) cel ben off (nI (N 9)) (nI (N 10)) (nI (N 11)) (nI (N 12)) p6 p7 p8 SS = none := by
      unfold fX5_usePlan
      rw [bd9_e e5, if_neg (nn (show rr = -1 by rw [z, eN_0]))]
    have hx : fX5_usePlan_xS F (nI (N 0)) (nI (N 1)) (nI (N 8)) set fac dce p6 p7 p8 = some (x1, x2, x3, x4, x5, ch', x7, x8) := by
      unfold fX5_usePlan_xS
      rw [bd9_e e5, if_neg (nn (show rr = -1 by rw [z, eN_0]))]
    exact Or.inl ⟨z, bd13_n hc, _, bd8_e hx, I3.mk rfl r g b10 b11 gn rg⟩
  · have hn : ¬ rr = -1 := by rw [z, eN_s, eN_0, eN_eq (by omega) (by omega)]; omega
    have hc : fX5_usePlan F (nI o) (nI st) (nI (N 0)) (nI (N 1)) (nI (N 2)) (lN (N 14)) (lN (N 15)) (nI (N 8)) (nI (N 13)) set fac dce (nI pm) (nI sm) cel ben off (nI (N 9)) (nI (N 10)) (nI (N 11)) (nI (N 12)) p6 p7 p8 SS = some (nI m, nI (svO o st), nI (svT st), puF fac ch' (N 8), x1, x2, x3, x4, x5, ch', x7, x8, svF o st (snp N set fac dce pm sm cel ben off) SS) := by
      unfold fX5_usePlan
      rw [bd9_e e5, if_pos hn, bd3_e (x5_saveN ho hst), bd1_e (x2_put h1000 h8), z]
    exact Or.inr ⟨m, cc, hm, z, hno, lx, fun j hj => (hcc j hj).2, _, bd13_e hc, I3.mk (N := usN N cc) (S := svS S st N) (by unfold snp; rw [us_o (by omega), us_o (by omega), us_o (by omega), us_o (by omega), us_o (by omega), us_o (by omega), us_o (by omega), us_o (by omega), us_o (by omega), us_o (by omega), us_o (by omega)]) (rl_use hcc r) g' (by rw [us_o (by omega)]; exact b10) (by rw [us_o (by omega)]; exact b11) (gn_us h8 gn) rg'⟩
theorem ga_setPilot (hF : 1000000 < F) (i : I3 B c N) {a : Nat} (b : Bool) (qa : a < 8) : ∃ c2, g_setPilot F c (nI a) (bI b) = some (nI (pcS (piS N a b)), c2) ∧ I3 B c2 (upN N 13 (piS N a b)) := by
  obtain ⟨S, o, st, len, set, fac, dce, pm, sm, cel, ben, off, SS, tr, pl, cb, u, cat, wd, rfl, r, g, b10, b11, gn, rg⟩ := i
  obtain ⟨t1, t2, t3, t4, t5, t6, t7, t8, t9⟩ := tr
  obtain ⟨p1, p2, p3, p4, p5, p6, p7, p8⟩ := pl
  have ho := g.1
  have hst := g.2.1
  have h1000 : 1000 < F := by omega
  have g' := ring_save g ⟨_, _, _, _, _, _, _, _, rfl, r⟩ b10 b11
  have h0 := r.1.1.2.1
  have h1 := r.1.1.2.2.2.1
  have h8 := r.1.2.2.2.1.1
  have rg' := rgn_save hst h8 (ring_8 g) gn rg
  have q0 : 0 ≤ (nI a).toInt ∧ (nI a).toInt ≤ 7 := by rw [nI_toInt (by omega)]; omega
  have hc : fX5_setPilot (nI o) (nI st) (nI (N 0)) (nI (N 1)) (nI (N 2)) (lN (N 14)) (lN (N 15)) (nI (N 8)) (nI (N 13)) set fac dce (nI pm) (nI sm) cel ben off (nI (N 9)) (nI (N 10)) (nI (N 11)) (nI (N 12)) SS (nI a) (bI b) = some (nI (pcS (piS N a b)), nI (svO o st), nI (svT st), nI (piS N a b), svF o st (snp N set fac dce pm sm cel ben off) SS) := by
    unfold fX5_setPilot
    rw [bd1_e x5_stat, decide_eq_true q0, bI_t, if_pos nn1, bd3_e (x5_saveN ho hst), bd1_e (x1_pil r.1 qa b), bd1_e (x_cnt8 (pi_lt r.1 qa b))]
  exact ⟨_, bd5_e hc, I3.mk (N := upN N 13 (piS N a b)) (S := svS S st N) rfl (rl_pil qa b r) g' b10 b11 (gn_up (by omega) gn) rg'⟩
theorem ga_stroke (hF : 1000000 < F) (i : I3 B c N) (hB : B < 2 ^ 30) : ∃ c2, g_stroke F c = some (nI (strokeR N), c2) ∧ I3 (B + 20) c2 (nx F N) := by
  obtain ⟨S, o, st, len, set, fac, dce, pm, sm, cel, ben, off, SS, tr, pl, cb, u, cat, wd, rfl, r, g, b10, b11, gn, rg⟩ := i
  obtain ⟨t1, t2, t3, t4, t5, t6, t7, t8, t9⟩ := tr
  obtain ⟨p1, p2, p3, p4, p5, p6, p7, p8⟩ := pl
  have ho := g.1
  have hst := g.2.1
  have h1000 : 1000 < F := by omega
  have g' := ring_save g ⟨_, _, _, _, _, _, _, _, rfl, r⟩ b10 b11
  have h0 := r.1.1.2.1
  have h1 := r.1.1.2.2.2.1
  have h8 := r.1.2.2.2.1.1
  have rg' := rgn_save hst h8 (ring_8 g) gn rg
  obtain ⟨pm', sm', cel', ben', off', e1, r'⟩ := rl_stroke (F := F) h1000 r (by omega) (by omega)
  have e2 := nx_s (F := F) (by omega) r.1 r.2.1
  have ed := e2.2.1
  have hcn := st_cnt e2.2
  have hc : fX5_stroke F (nI o) (nI st) (nI (N 0)) (nI (N 1)) (nI (N 2)) (lN (N 14)) (lN (N 15)) (nI (N 8)) (nI (N 13)) set fac dce (nI pm) (nI sm) cel ben off (nI (N 9)) (nI (N 10)) (nI (N 11)) (nI (N 12)) SS = some (nI (strokeR N), nI (svO o st), nI (svT st), nI pm', nI sm', cel', ben', off', nI (nx F N 9), nI (nx F N 10), nI (nx F N 11), nI (nx F N 12), svF o st (snp N set fac dce pm sm cel ben off) SS) := by
    unfold fX5_stroke
    rw [bd3_e (x5_saveN ho hst), bd10_e e1]
  exact ⟨_, bd13_e hc, I3.mk (N := nx F N) (S := svS S st N) (by unfold snp; rw [e_i ed (j := 0) (by omega) (by omega), e_i ed (j := 1) (by omega) (by omega), e_i ed (j := 2) (by omega) (by omega), e_i ed (j := 14) (by omega) (by omega), e_i ed (j := 15) (by omega) (by omega), e_i ed (j := 8) (by omega) (by omega), e_i ed (j := 13) (by omega) (by omega)]) r' (g'.mono (by omega)) (by omega) (by omega) (gn_nx r.1 r.2.1 e2.2 gn) rg'⟩
theorem ga_undo (i : I3 B c N) : (g_undo F c = none ∧ gx_undo F c = some c) ∨ ∃ v c2 N2, g_undo F c = some (v, c2) ∧ I3 B c2 N2 := by
  obtain ⟨S, o, st, len, set, fac, dce, pm, sm, cel, ben, off, SS, tr, pl, cb, u, cat, wd, rfl, r, g, b10, b11, gn, rg⟩ := i
  obtain ⟨t1, t2, t3, t4, t5, t6, t7, t8, t9⟩ := tr
  obtain ⟨p1, p2, p3, p4, p5, p6, p7, p8⟩ := pl
  have ho := g.1
  have hst := g.2.1
  by_cases q : st = 0
  · subst q
    refine Or.inl ⟨?_, ?_⟩
    · unfold g_undo
      exact if_pos (show (nI 0 : Int32) < 1 by decide)
    · have hx : fX5_undo_xS (nI 0) = some () := by
        unfold fX5_undo_xS
        rw [if_neg (show ¬ (1 : Int32) ≤ nI 0 from nI_ge (a := 0) (b := 1) (by omega) (by omega))]
      exact bd1_e hx
  · obtain ⟨s, rfl⟩ : ∃ s, st = s + 1 := ⟨st - 1, by omega⟩
    obtain ⟨gs, gb, gc⟩ := g.2.2 s (by omega)
    have hk : (o + s) % 4 < 4 := Nat.mod_lt _ (by omega)
    have ha : nI (s + 1) - (1 : Int32) = nI s := nI_pred s
    have hv : fX5_savedState (nI o) (nI s) = some (nI ((o + s) % 4)) := x5_svd (o := o) (a := s) ho (by omega)
    have h1 : ¬ (nI (s + 1) : Int32) < 1 := fun z => by rw [il_1, fa_lt, nI_toInt (by omega), nI_toInt (by omega)] at z; omega
    have gs2 := gs.cp (snp N set fac dce pm sm cel ben off)
    have gn2 := rg s (by omega)
    have rg2 : RGN s S := fun a ha => rg a (by omega)
    have rr2 : Ring o s SS S B := ⟨ho, by omega, fun a ha => g.2.2 a (by omega)⟩
    refine Or.inr ⟨nI s, undoC (nI o, nI (s + 1), snp N set fac dce pm sm cel ben off, SS, (t1, t2, t3, t4, t5, t6, t7, t8, t9), (p1, p2, p3, p4, p5, p6, p7, p8), (cb, u, nI len, cat, wd)) (nI s) ((o + s) % 4), fun j => S (100 * s + j), ?_, ?_⟩
    · unfold g_undo
      rw [if_neg h1]
      show nm (nI (s + 1) - (1 : Int32)) _ = _
      rw [ha, nm_s]
      show (if fX5_savedState (nI o) (nI s) = some (nI 0) then _ else _) = _
      have k4 : (o + s) % 4 = 0 ∨ (o + s) % 4 = 1 ∨ (o + s) % 4 = 2 ∨ (o + s) % 4 = 3 := by omega
      rcases k4 with z | z | z | z <;> rw [z] at hv ⊢
      · exact if_pos hv
      · rw [if_neg (by rw [hv]; decide)]
        exact if_pos hv
      · rw [if_neg (by rw [hv]; decide), if_neg (by rw [hv]; decide)]
        exact if_pos hv
      · rw [if_neg (by rw [hv]; decide), if_neg (by rw [hv]; decide), if_neg (by rw [hv]; decide)]
        exact if_pos hv
    · obtain ⟨set', fac', dce', pm', sm', cel', ben', off', e, r'⟩ := gs2
      exact I3.mk (N := fun j => S (100 * s + j)) (S := S) e r' rr2 gb gc gn2 rg2
end GA
