theorem lN_toI (n : Nat) : (lN n).toInt32 = nI n := by
  have h := many_s (N := fun _ => n) (k := 0) (by omega)
  unfold fX6_many at h
  rw [gd_lit (by omega)] at h
  exact Option.some.inj h
def usN (N c : Nat → Nat) : Nat → Nat := fun j => if 20 ≤ j ∧ j < 20 + 6 * N 8 ∧ (j - 20) % 6 = 5 then c ((j - 20) / 6) else N j
theorem x6_put {F : Nat} {N c : Nat → Nat} {be : Nat → Int32} (hF : 1000 < F) (h8 : N 8 ≤ 6) (hc : ∀ j, j < N 8 → be j = eN (c j + 1) ∧ c j < 8) : lp (fX6_usePlan_l32 be) F (nI 0, lA N) = some (lA (usN N c)) := by
  refine lp_seqE (S := fun t => (nI t, lA (fun j => if 20 ≤ j ∧ j < 20 + 6 * t ∧ (j - 20) % 6 = 5 then c ((j - 20) / 6) else N j))) (by
    congr 1
    apply congrArg
    funext j
    exact (if_neg (by omega)).symm) (n := N 8) (F := F) (fun t ht => ?_) ?_ (by omega)
  · show fX6_usePlan_l32 be (nI t, lA (fun j => if 20 ≤ j ∧ j < 20 + 6 * t ∧ (j - 20) % 6 = 5 then c ((j - 20) / 6) else N j)) = some (.inl (nI (t + 1), lA (fun j => if 20 ≤ j ∧ j < 20 + 6 * (t + 1) ∧ (j - 20) % 6 = 5 then c ((j - 20) / 6) else N j)))
    unfold fX6_usePlan_l32
    have hq := hc t ht
    have e8 : fX6_many (lA (fun j => if 20 ≤ j ∧ j < 20 + 6 * t ∧ (j - 20) % 6 = 5 then c ((j - 20) / 6) else N j)) 8 = some (nI (N 8)) := by
      have := many_s (N := fun j => if 20 ≤ j ∧ j < 20 + 6 * t ∧ (j - 20) % 6 = 5 then c ((j - 20) / 6) else N j) (k := 8) (by omega)
      rw [if_neg (by omega)] at this
      exact this
    rw [uc2_s, bd1_e e8, if_neg (nI_ge ht (by omega)), il_20, il_6, il_5, pk_mul, nI_add, nI_add, nm_s, gd_nI (by omega) (by omega), nI_clamp (by omega), hq.1, ← eN_s, nI_l (by omega), nm_s, gd_lit (by omega), nI_clamp (by omega), vp1, il_1, nI_add]
    congr 4
    funext j
    show (if j = 20 + 6 * t + 5 then c t else if 20 ≤ j ∧ j < 20 + 6 * t ∧ (j - 20) % 6 = 5 then c ((j - 20) / 6) else N j) = if 20 ≤ j ∧ j < 20 + 6 * (t + 1) ∧ (j - 20) % 6 = 5 then c ((j - 20) / 6) else N j
    by_cases q : j = 20 + 6 * t + 5
    · rw [if_pos q, if_pos (by omega), show (j - 20) / 6 = t by omega]
    · rw [if_neg q]
      by_cases q2 : 20 ≤ j ∧ j < 20 + 6 * t ∧ (j - 20) % 6 = 5
      · rw [if_pos q2, if_pos (by omega)]
      · rw [if_neg q2, if_neg (by omega)]
  · show fX6_usePlan_l32 be (nI (N 8), lA (fun j => if 20 ≤ j ∧ j < 20 + 6 * (N 8) ∧ (j - 20) % 6 = 5 then c ((j - 20) / 6) else N j)) = _
    unfold fX6_usePlan_l32
    have e8 : fX6_many (lA (fun j => if 20 ≤ j ∧ j < 20 + 6 * (N 8) ∧ (j - 20) % 6 = 5 then c ((j - 20) / 6) else N j)) 8 = some (nI (N 8)) := by
      have := many_s (N := fun j => if 20 ≤ j ∧ j < 20 + 6 * (N 8) ∧ (j - 20) % 6 = 5 then c ((j - 20) / 6) else N j) (k := 8) (by omega)
      rw [if_neg (by omega)] at this
      exact this
    rw [uc2_s, bd1_e e8, if_pos (nI_le (Nat.le_refl _) (by omega))]
    rfl
theorem x6_use {F : Nat} {N S S' : Nat → Nat} {st st' : Nat} {q : Bool} {tr be tou : Nat → Int32} (hF : 1000000 < F) (h : DW N) (sv : SV F N S st q S' st') : ∃ r tr' be' tou', PlanRes N (N 3) r be' ∧ ((r = eN 0 ∧ fX6_usePlan F (lA N) (lA S) (nI st) (bI q) tr be tou = some (0, lA N, lA S, nI st, 1, tr', be', tou')) ∨ (r ≠ eN 0 ∧ ∃ c, (∀ j, j < N 8 → be' j = eN (c j + 1) ∧ c j < 8) ∧ fX6_usePlan F (lA N) (lA S) (nI st) (bI q) tr be tou = some (r, lA (usN N c), lA S', nI st', 0, tr', be', tou'))) := by
  obtain ⟨r, tr', be', tou', e, pr⟩ := x6_plans (tr := tr) (be := be) (tou := tou) hF h (L := N 3) (by have := h.2.2.1; omega)
  refine ⟨r, tr', be', tou', pr, ?_⟩
  unfold fX6_usePlan
  have i1 : fX6_setting (lA N) 0 = some (nI (N 3)) := mset_s (k := 0) (by omega)
  rw [bd1_e i1, bd4_e e, eN_0]
  by_cases z : r = eN 0
  · left
    refine ⟨z, ?_⟩
    rw [if_neg (nn z)]
    rfl
  · right
    refine ⟨z, ?_⟩
    rcases pr with ⟨e0, -⟩ | ⟨m, c, h1, h2, h3, h4, h5⟩
    · exact absurd e0 z
    · refine ⟨c, h5, ?_⟩
      rw [if_pos z, bd2_e sv, show (0 : Int32) = nI 0 from rfl, bd1_e (x6_put (by omega) h.2.2.2.1.1 h5)]
def puF (f ch : Nat → Int32) (n : Nat) : Nat → Int32 := fun i => if i < 7 * n ∧ i % 7 = 6 then ch (i / 7) else f i
theorem x2_put {F n : Nat} {fac ch : Nat → Int32} (hF : 1000 < F) (hn : n ≤ 6) : fX2_putInto F ch (nI n) fac = some (puF fac ch n) := by
  unfold fX2_putInto
  have L := lp_seqE (body := fX2_putInto_l2 ch (nI n)) (S := fun t => (nI t, puF fac ch t)) (x0 := (nI 0, fac)) (by
      congr 1) (n := n) (a := puF fac ch n) (F := F) (fun t ht => by
      show fX2_putInto_l2 ch (nI n) (nI t, puF fac ch t) = some (.inl (nI (t + 1), puF fac ch (t + 1)))
      unfold fX2_putInto_l2
      rw [uc2_s, if_neg (nI_ge ht (by omega)), bd1_e (chosen_s (by omega)), bd1_e (show fX1_changeFact _ (nI t) 6 _ = _ from fac_at (j := 6) (by omega)), il_1, nI_add]
      congr 3
      funext i
      show (if i = 7 * t + 6 then ch t else if i < 7 * t ∧ i % 7 = 6 then ch (i / 7) else fac i) = if i < 7 * (t + 1) ∧ i % 7 = 6 then ch (i / 7) else fac i
      by_cases q : i = 7 * t + 6
      · rw [if_pos q, if_pos (by omega), show i / 7 = t by omega]
      · rw [if_neg q]
        by_cases q2 : i < 7 * t ∧ i % 7 = 6
        · rw [if_pos q2, if_pos (by omega)]
        · rw [if_neg q2, if_neg (by omega)]) (by
      show fX2_putInto_l2 ch (nI n) (nI n, puF fac ch n) = _
      unfold fX2_putInto_l2
      rw [uc2_s, if_pos (nI_le (Nat.le_refl _) (by omega))]) (by omega)
  rw [show (0 : Int32) = nI 0 from rfl, bd1_e L]
theorem rl_use {N c : Nat → Nat} {set fac ch : Nat → Int32} {dce : Nat → Int64} {pm sm : Nat} {cel : Nat → Int64} {ben off : Nat → Int32} (hc : ∀ j, j < N 8 → ch j = eN (c j + 1) ∧ c j < 8) (r : RelS N set fac dce pm sm cel ben off) : RelS (usN N c) set (puF fac ch (N 8)) dce pm sm cel ben off := by
  have h8 := r.1.2.2.2.1.1
  have v : ∀ o, o < N 8 → usN N c (20 + 6 * o + 5) = c o := fun o ho => by
    unfold usN
    rw [if_pos (by omega), show (20 + 6 * o + 5 - 20) / 6 = o by omega]
  refine rl_st (fun j hj => ?_) (fun o ho => by rw [v o ho]; exact Or.inl (hc o ho).2) (fun o ho => ⟨fun j hj => ?_, ?_⟩) r
  · unfold usN
    rw [if_neg (fun z => hj ((j - 20) / 6) (by omega) (by omega))]
  · unfold puF
    rw [if_neg (by omega)]
  · unfold puF
    rw [v o ho, if_pos (by omega), show (7 * o + 6) / 7 = o by omega, (hc o ho).1, ← eN_s]
/-! empty the press -/
def ptS (N : Nat → Nat) : Nat := fb_sm (fun s => N (60 + 5 * s + 0)) 8
theorem x6_pts {F : Nat} {N : Nat → Nat} (hF : 100 < F) : fX6_pitches F (lA N) = some (nI (ptS N)) := by
  unfold fX6_pitches
  have L := lp_seqE (body := fX6_pitches_l4 (lA N)) (S := fun t => (nI (fb_sm (fun s => N (60 + 5 * s + 0)) t), nI t)) (x0 := (nI 0, nI 0)) (by rfl) (n := 8) (a := nI (ptS N)) (F := F) (fun t ht => by
      show fX6_pitches_l4 (lA N) (nI (fb_sm (fun s => N (60 + 5 * s + 0)) t), nI t) = some (.inl (nI (fb_sm (fun s => N (60 + 5 * s + 0)) t + N (60 + 5 * t + 0)), nI (t + 1)))
      unfold fX6_pitches_l4
      rw [uc2_s, il_8, if_neg (nI_ge ht (by omega)), show (0 : Int32) = nI 0 from rfl, bd1_e (ofPitch_s (by omega)), lN_toI, nI_add, nm_s, il_1, nI_add]) (by
      show fX6_pitches_l4 (lA N) (_, nI 8) = _
      unfold fX6_pitches_l4
      rw [uc2_s, il_8, if_pos (nI_le (Nat.le_refl _) (by omega))]
      rfl) (by omega)
  rw [show (0 : Int32) = nI 0 from rfl, bd1_e L]
theorem pts_le {N : Nat → Nat} (w : PW N) : ptS N ≤ 8 := fb_sm_bound (c := 1) (n := 8) fun s hs => (w s hs).1
theorem pts_pc {N : Nat → Nat} {pm sm : Nat} {cel : Nat → Int64} {ben off : Nat → Int32} (w : PW N) (p : PC N pm sm cel ben off) : pcS pm = ptS N := by
  unfold pcS ptS
  rw [show 60 = 8 + 52 from rfl, fb_ct_split]
  have z : fb_ct (fun j => pm.testBit (8 + j)) 52 = 0 := fb_ct_zero.mpr (fun j _ => tb_big (n := 8) p.1 (by omega))
  rw [z, Nat.add_zero]
  have key : ∀ n, n ≤ 8 → fb_ct pm.testBit n = fb_sm (fun s => N (60 + 5 * s + 0)) n := by
    intro n
    induction n with
    | zero => intro _; rfl
    | succ n ih =>
      intro hn
      rw [fb_ct_succ, fb_sm_succ, ih (by omega), (p.2.2.2 n (by omega)).1]
      have := (w n (by omega)).1
      by_cases e : N (60 + 5 * n + 0) = 1
      · rw [decide_eq_true e, if_pos rfl, e]
      · rw [decide_eq_false e, if_neg (by decide)]
        omega
  exact key 8 (by omega)
theorem x3_clear {N : Nat → Nat} {pm sm : Nat} {cel : Nat → Int64} {ben off : Nat → Int32} (w : PW N) (p : PC N pm sm cel ben off) : fX3_clearPitches (nI pm) = some (nI (ptS N), 0, 0) := by
  unfold fX3_clearPitches
  rw [bd1_e (x_cnt8 p.1), pts_pc w p]
theorem x3_start {N : Nat → Nat} {pm sm : Nat} {cel : Nat → Int64} {ben off : Nat → Int32} (w : PW N) (p : PC N pm sm cel ben off) : fX3_startOver (nI pm) = some (0, 0, 0, 0, 0, 0) := by
  unfold fX3_startOver
  rw [bd3_e (x3_clear w p)]
def emN (N : Nat → Nat) : Nat → Nat := fun j => if 60 ≤ j ∧ j < 100 then 0 else if j = 11 then N 11 + ptS N else N j
theorem x6_empty {F : Nat} {N S S' : Nat → Nat} {st st' : Nat} {q : Bool} (hF : 1000 < F) (w : PW N) (sv : SV F N S st q S' st') : fX6_emptyPress F (lA N) (lA S) (nI st) (bI q) = some (nI (ptS N), lA (emN N), lA S', nI st', 0) := by
  unfold fX6_emptyPress
  have p8 := pts_le w
  have L := lp_seqE (body := fX6_emptyPress_l28 F) (S := fun t => (nI t, lA (fun j => if 60 ≤ j ∧ j < 60 + 5 * t then 0 else upN N 11 (N 11 + ptS N) j))) (x0 := (nI 0, lA (upN N 11 (N 11 + ptS N)))) (by
      congr 1
      apply congrArg
      funext j
      exact (if_neg (by omega)).symm) (n := 8) (a := lA (emN N)) (F := F) (fun t ht => by
      show fX6_emptyPress_l28 F (nI t, lA (fun j => if 60 ≤ j ∧ j < 60 + 5 * t then 0 else upN N 11 (N 11 + ptS N) j)) = some (.inl (nI (t + 1), lA (fun j => if 60 ≤ j ∧ j < 60 + 5 * (t + 1) then 0 else upN N 11 (N 11 + ptS N) j)))
      unfold fX6_emptyPress_l28
      rw [uc2_s, il_8, if_neg (nI_ge ht (by omega)), il_60, il_5, pk_mul, nI_add, bd1_e (x6_emp (by omega) (by omega)), il_1, nI_add]
      congr 4
      funext j
      show (if 60 + 5 * t ≤ j ∧ j < 60 + 5 * t + 5 then 0 else if 60 ≤ j ∧ j < 60 + 5 * t then 0 else upN N 11 (N 11 + ptS N) j) = if 60 ≤ j ∧ j < 60 + 5 * (t + 1) then 0 else upN N 11 (N 11 + ptS N) j
      by_cases q : 60 + 5 * t ≤ j ∧ j < 60 + 5 * t + 5
      · rw [if_pos q, if_pos (by omega)]
      · rw [if_neg q]
        by_cases q2 : 60 ≤ j ∧ j < 60 + 5 * t
        · rw [if_pos q2, if_pos (by omega)]
        · rw [if_neg q2, if_neg (by omega)]) (by
      show fX6_emptyPress_l28 F (nI 8, _) = _
      unfold fX6_emptyPress_l28
      rw [uc2_s, il_8, if_pos (nI_le (Nat.le_refl _) (by omega))]
      rfl) (by omega)
  rw [bd2_e sv, bd1_e (x6_pts (by omega)), il_11, nI_clamp (by omega), gd_lit (by omega), lA_at, nI_l (by omega), lN_add, nm_s, gd_lit (by omega), vp1, show (0 : Int32) = nI 0 from rfl, bd1_e L]
theorem e_CD {M N : Nat → Nat} {set fac : Nat → Int32} {dce : Nat → Int64} (e : EqD M N) (h8 : N 8 ≤ 6) (c : CD N set fac dce) : CD M set fac dce := by
  refine ⟨fun k hk => by rw [e_i e (by omega) (by omega)]; exact c.1 k hk, fun o ho => ?_⟩
  rw [e_8 e] at ho
  have co := c.2 o ho
  refine ⟨fun j hj => by rw [e_i e (by omega) (by omega)]; exact co.1 j hj, ?_, by rw [e_i e (by omega) (by omega)]; exact co.2.2.1, by rw [e_op e (by omega)]; exact co.2.2.2⟩
  unfold foS
  rw [e_i e (by omega) (by omega), e_i e (by omega) (by omega), e_i e (by omega) (by omega)]
  exact co.2.1
theorem e_DJ {M N : Nat → Nat} (e : EqD M N) (h : DJ N) : DJ M := by
  unfold DJ
  rw [e_i e (by omega) (by omega), e_i e (by omega) (by omega)]
  exact h
theorem em_e (N : Nat → Nat) : EqD (emN N) N := fun j h1 h9 h10 h11 h12 => by
  unfold emN
  rw [if_neg (by omega), if_neg h11]
theorem em_z {N : Nat → Nat} {j : Nat} (h1 : 60 ≤ j) (h2 : j < 100) : emN N j = 0 := if_pos ⟨h1, h2⟩
theorem rl_empty {N : Nat → Nat} {set fac : Nat → Int32} {dce : Nat → Int64} {pm sm : Nat} {cel : Nat → Int64} {ben off : Nat → Int32} (r : RelS N set fac dce pm sm cel ben off) : RelS (emN N) set fac dce 0 0 cel ben off := by
  obtain ⟨d, w, c, p, dj⟩ := r
  have e := em_e N
  refine ⟨e_DW e d, fun s hs => ?_, e_CD e d.2.2.2.1.1 c, ⟨by omega, by omega, fun s q => by simp at q, fun s hs => ?_⟩, e_DJ e dj⟩
  · rw [em_z (j := 60 + 5 * s + 0) (by omega) (by omega), em_z (j := 60 + 5 * s + 1) (by omega) (by omega), em_z (j := 60 + 5 * s + 2) (by omega) (by omega), em_z (j := 60 + 5 * s + 3) (by omega) (by omega), em_z (j := 60 + 5 * s + 4) (by omega) (by omega)]
    exact ⟨by omega, Nat.two_pow_pos _, by omega, by omega, by omega, fun _ i hi => em_z (by omega) (by omega)⟩
  · rw [em_z (j := 60 + 5 * s + 0) (by omega) (by omega)]
    exact ⟨by simp, fun q => by omega⟩
