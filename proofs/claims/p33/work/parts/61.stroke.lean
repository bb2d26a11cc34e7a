theorem og_le (N : Nat → Nat) : ogS N ≤ 1 := by unfold ogS; split <;> (try split) <;> omega
theorem ob_le (N : Nat → Nat) : obS N ≤ 1 := by unfold obS; split <;> (try split) <;> omega
theorem mv1_lt {N : Nat → Nat} (w : PW N) {s : Nat} (hs : s < 8) : mvS N s 1 < 2 ^ (N 0 * N 1) := by
  unfold mvS
  by_cases e : s = 0
  · rw [if_pos e, if_pos rfl]
    unfold alS
    have := Nat.two_pow_pos (N 0 * N 1)
    omega
  · rw [if_neg e, if_neg (by omega)]
    exact (w (s - 1) (by omega)).2.1
theorem mv2_lt {N : Nat → Nat} (w : PW N) {s : Nat} (hs : s < 8) : mvS N s 2 < 2 ^ 6 := by
  unfold mvS
  by_cases e : s = 0
  · rw [if_pos e, if_neg (by omega)]; omega
  · rw [if_neg e, if_neg (by omega)]
    exact (w (s - 1) (by omega)).2.2.1
theorem mv3_le {N : Nat → Nat} (h : DW N) (w : PW N) {s : Nat} (hs : s < 8) : mvS N s 3 ≤ 9 * s := by
  unfold mvS
  have h5 := h.2.2.1.2.2.2.1
  by_cases e : s = 0
  · rw [if_pos e, if_neg (by omega)]; omega
  · rw [if_neg e, if_pos rfl]
    have := (w (s - 1) (by omega)).2.2.2.1
    omega
theorem mv4_le {N : Nat → Nat} (w : PW N) {s : Nat} (hs : s < 8) : mvS N s 4 ≤ 1 := by
  unfold mvS
  by_cases e : s = 0
  · rw [if_pos e, if_neg (by omega)]; omega
  · rw [if_neg e, if_neg (by omega)]
    exact (w (s - 1) (by omega)).2.2.2.2.1
theorem st_pw {N M : Nat → Nat} (h : DW N) (w : PW N) (sf : StrokeF N M) : PW M := fun s hs => by
  obtain ⟨e, -, -, -, -, f⟩ := sf
  have f := f s hs
  rw [e_i e (j := 0) (by omega) (by omega), e_i e (j := 1) (by omega) (by omega)]
  by_cases q : tB N s = true
  · obtain ⟨a, b, c, d, g⟩ := f.1 q
    rw [a, b, c, d, g]
    refine ⟨by omega, sdf_lt _ (mv1_lt w hs), Nat.or_lt_two_pow (n := 6) (mv2_lt w hs) (be_lt _ h.2.2.2.1.1), ?_, ?_, fun z => by omega⟩
    · have := mv3_le h w hs
      unfold of1
      split <;> omega
    · have := mv4_le w hs
      unfold sp1
      split
      · omega
      · split <;> omega
  · have z := f.2 (Bool.eq_false_iff.mpr q)
    rw [z 0 (by omega), z 1 (by omega), z 2 (by omega), z 3 (by omega), z 4 (by omega)]
    exact ⟨by omega, Nat.two_pow_pos _, by omega, by omega, by omega, fun _ => z⟩
theorem st_cnt {N M : Nat → Nat} (sf : StrokeF N M) : M 10 ≤ N 10 + 9 ∧ M 11 ≤ N 11 + 9 := by
  obtain ⟨-, -, -, a, b, -⟩ := sf
  have := gc_le N 8; have := bc_le N 8; have := og_le N; have := ob_le N
  omega
theorem nx_ex (F : Nat) (N : Nat → Nat) : ∃ M, (∃ K, fX6_strokes F (lA N) = some (nI (strokeR N), lA K) ∧ StrokeF N K) → fX6_strokes F (lA N) = some (nI (strokeR N), lA M) ∧ StrokeF N M := by
  by_cases h : ∃ K, fX6_strokes F (lA N) = some (nI (strokeR N), lA K) ∧ StrokeF N K
  · obtain ⟨K, hK⟩ := h
    exact ⟨K, fun _ => hK⟩
  · exact ⟨N, fun z => absurd z h⟩
/-- the state behind a stroke, as the model goes on with it -/
noncomputable def nx (F : Nat) (N : Nat → Nat) : Nat → Nat := Classical.choose (nx_ex F N)
theorem nx_s {F : Nat} {N : Nat → Nat} (hF : 100 < F) (h : DW N) (w : PW N) : fX6_strokes F (lA N) = some (nI (strokeR N), lA (nx F N)) ∧ StrokeF N (nx F N) := by
  exact Classical.choose_spec (nx_ex F N) (x6_strokes hF h w)
theorem x6_stroke {F : Nat} {N S S' : Nat → Nat} {st st' : Nat} {q : Bool} (hF : 1000 < F) (h : DW N) (w : PW N) (sv : SV F N S st q S' st') : fX6_stroke F (lA N) (lA S) (nI st) (bI q) = some (nI (strokeR N), lA (nx F N), lA S', nI st', 0) := by
  unfold fX6_stroke
  rw [bd2_e sv, bd2_e (nx_s (by omega) h w).1]
theorem rl_stroke {F : Nat} {N : Nat → Nat} {set fac : Nat → Int32} {dce : Nat → Int64} {pm sm : Nat} {cel : Nat → Int64} {ben off : Nat → Int32} (hF : 1000 < F) (r : RelS N set fac dce pm sm cel ben off) (hg : N 10 + 20 < 2 ^ 31) (hb : N 11 + 20 < 2 ^ 31) : ∃ pm' sm' cel' ben' off', fX3_feed F (nI pm) (nI sm) cel ben off (nI (N 9)) (nI (N 10)) (nI (N 11)) (nI (N 12)) (nI (N 0)) (nI (N 1)) (nI (N 2)) (lN (N 14)) (lN (N 15)) (nI (N 8)) (nI (N 13)) set fac dce = some (nI (strokeR N), nI pm', nI sm', cel', ben', off', nI (nx F N 9), nI (nx F N 10), nI (nx F N 11), nI (nx F N 12)) ∧ RelS (nx F N) set fac dce pm' sm' cel' ben' off' := by
  obtain ⟨d, w, c, p, dj⟩ := r
  have sf := (nx_s (F := F) (by omega) d w).2
  obtain ⟨pm', sm', cel', ben', off', e, p'⟩ := x3_feed (F := F) (by omega) d c w p hg hb sf
  exact ⟨pm', sm', cel', ben', off', e, e_DW sf.1 d, st_pw d w sf, e_CD sf.1 d.2.2.2.1.1 c, p', e_DJ sf.1 dj⟩
/-- the state behind k strokes -/
noncomputable def nxk (F : Nat) (N : Nat → Nat) : Nat → Nat → Nat
  | 0 => N
  | k + 1 => nx F (nxk F N k)
theorem nxk_ok {F : Nat} {N : Nat → Nat} (hF : 100 < F) (h : DW N) (w : PW N) : ∀ k, DW (nxk F N k) ∧ PW (nxk F N k) ∧ EqD (nxk F N k) N ∧ nxk F N k 10 ≤ N 10 + 9 * k ∧ nxk F N k 11 ≤ N 11 + 9 * k
  | 0 => ⟨h, w, EqD.rf N, by show N 10 ≤ _; omega, by show N 11 ≤ _; omega⟩
  | k + 1 => by
    obtain ⟨a, b, c, d, e⟩ := nxk_ok hF h w k
    have sf := (nx_s hF a b).2
    have g := st_cnt sf
    refine ⟨e_DW sf.1 a, st_pw a b sf, sf.1.tr c, ?_, ?_⟩
    · show nx F (nxk F N k) 10 ≤ _
      omega
    · show nx F (nxk F N k) 11 ≤ _
      omega
theorem x6_by {F : Nat} {N : Nat → Nat} {k : Nat} (hF : 1000 < F) (h : DW N) (w : PW N) (h1 : 1 ≤ k) (h2 : k ≤ 50) : fX6_strokesBy F (lA N) (nI k) = some (nI k, lA (nxk F N k), 0) := by
  unfold fX6_strokesBy
  have L := lp_seqE (body := fX6_strokesBy_l23 F (nI k)) (S := fun t => (nI t, lA (nxk F N t))) (x0 := (nI 0, lA N)) rfl (n := k) (a := lA (nxk F N k)) (F := F) (fun t ht => by
      show fX6_strokesBy_l23 F (nI k) (nI t, lA (nxk F N t)) = some (.inl (nI (t + 1), lA (nxk F N (t + 1))))
      unfold fX6_strokesBy_l23
      have ok := nxk_ok (F := F) (by omega) h w t
      rw [uc2_s, if_neg (nI_ge ht (by omega)), bd2_e (nx_s (by omega) ok.1 ok.2.1).1, il_1, nI_add]
      rfl) (by
      show fX6_strokesBy_l23 F (nI k) (nI k, _) = _
      unfold fX6_strokesBy_l23
      rw [uc2_s, if_pos (nI_le (Nat.le_refl _) (by omega))]) (by omega)
  rw [bd1_e (show fX6_in (nI k) 1 50 = some (nI 1) from in_y (b := 1) (c := 50) h1 h2 (by omega)), if_pos (show ¬ nI 1 = 0 by decide +kernel), show (0 : Int32) = nI 0 from rfl, bd1_e L]
theorem x6_by_no {F : Nat} {m : Nat → Int64} {a : Int32} (h : ¬ (1 ≤ a.toInt ∧ a.toInt ≤ 50)) : fX6_strokesBy F m a = some (0, m, 1) := by
  unfold fX6_strokesBy
  rw [bd1_e (show fX6_in a 1 50 = some (nI 0) from in_no (b := 1) (c := 50) (by omega) (by omega) h), if_neg (nn (show nI 0 = 0 from rfl))]
  rfl
/-- one stroke of the class from a state that agrees with N on the die -/
theorem feed_k {F : Nat} {N : Nat → Nat} {set fac : Nat → Int32} {dce : Nat → Int64} {pm sm k : Nat} {cel : Nat → Int64} {ben off : Nat → Int32} (hF : 1000 < F) (h : DW N) (w : PW N) (r : RelS (nxk F N k) set fac dce pm sm cel ben off) (hk : k < 100) (hg : N 10 + 1000 < 2 ^ 31) (hb : N 11 + 1000 < 2 ^ 31) : ∃ pm' sm' cel' ben' off', fX3_feed F (nI pm) (nI sm) cel ben off (nI (nxk F N k 9)) (nI (nxk F N k 10)) (nI (nxk F N k 11)) (nI (nxk F N k 12)) (nI (N 0)) (nI (N 1)) (nI (N 2)) (lN (N 14)) (lN (N 15)) (nI (N 8)) (nI (N 13)) set fac dce = some (nI (strokeR (nxk F N k)), nI pm', nI sm', cel', ben', off', nI (nxk F N (k + 1) 9), nI (nxk F N (k + 1) 10), nI (nxk F N (k + 1) 11), nI (nxk F N (k + 1) 12)) ∧ RelS (nxk F N (k + 1)) set fac dce pm' sm' cel' ben' off' := by
  obtain ⟨-, -, e, a, b⟩ := nxk_ok (F := F) (by omega) h w k
  have g := rl_stroke (F := F) hF r (by omega) (by omega)
  rw [e_i e (j := 0) (by omega) (by omega), e_i e (j := 1) (by omega) (by omega), e_i e (j := 2) (by omega) (by omega), e_i e (j := 14) (by omega) (by omega), e_i e (j := 15) (by omega) (by omega), e_i e (j := 8) (by omega) (by omega), e_i e (j := 13) (by omega) (by omega)] at g
  exact g
theorem x5_by {F : Nat} {N : Nat → Nat} {set fac : Nat → Int32} {dce : Nat → Int64} {pm sm k : Nat} {cel : Nat → Int64} {ben off : Nat → Int32} (hF : 1000 < F) (r : RelS N set fac dce pm sm cel ben off) (h1 : 1 ≤ k) (h2 : k ≤ 50) (hg : N 10 + 1000 < 2 ^ 31) (hb : N 11 + 1000 < 2 ^ 31) : ∃ pm' sm' cel' ben' off', fX5_carryOutStrokes F (nI (N 0)) (nI (N 1)) (nI (N 2)) (lN (N 14)) (lN (N 15)) (nI (N 8)) (nI (N 13)) set fac dce (nI pm) (nI sm) cel ben off (nI (N 9)) (nI (N 10)) (nI (N 11)) (nI (N 12)) (nI k) = some (1, nI pm', nI sm', cel', ben', off', nI (nxk F N k 9), nI (nxk F N k 10), nI (nxk F N k 11), nI (nxk F N k 12)) ∧ RelS (nxk F N k) set fac dce pm' sm' cel' ben' off' := by
  have L := lp_cnt (body := fX5_carryOutStrokes_l15 F (nI (N 0)) (nI (N 1)) (nI (N 2)) (lN (N 14)) (lN (N 15)) (nI (N 8)) (nI (N 13)) set fac dce (nI k)) (fun t x => ∃ pm' sm' cel' ben' off', x = (nI t, nI pm', nI sm', cel', ben', off', nI (nxk F N t 9), nI (nxk F N t 10), nI (nxk F N t 11), nI (nxk F N t 12)) ∧ RelS (nxk F N t) set fac dce pm' sm' cel' ben' off') k (fun a => ∃ pm' sm' cel' ben' off', a = (nI pm', nI sm', cel', ben', off', nI (nxk F N k 9), nI (nxk F N k 10), nI (nxk F N k 11), nI (nxk F N k 12)) ∧ RelS (nxk F N k) set fac dce pm' sm' cel' ben' off') (by
      rintro t ht x ⟨pm', sm', cel', ben', off', rfl, r'⟩
      obtain ⟨p2, s2, c2, b2, o2, e, r2⟩ := feed_k hF r.1 r.2.1 r' (by omega) hg hb
      refine ⟨_, ?_, p2, s2, c2, b2, o2, rfl, r2⟩
      unfold fX5_carryOutStrokes_l15
      rw [uc10_s, if_neg (nI_ge ht (by omega)), bd10_e e, il_1, nI_add]) (by
      rintro x ⟨pm', sm', cel', ben', off', rfl, r'⟩
      refine ⟨_, ?_, pm', sm', cel', ben', off', rfl, r'⟩
      unfold fX5_carryOutStrokes_l15
      rw [uc10_s, if_pos (nI_le (Nat.le_refl _) (by omega))]) (x0 := (nI 0, nI pm, nI sm, cel, ben, off, nI (N 9), nI (N 10), nI (N 11), nI (N 12))) ⟨pm, sm, cel, ben, off, rfl, r⟩ (F := F) (by omega)
  obtain ⟨a, e, pm', sm', cel', ben', off', rfl, r'⟩ := L
  refine ⟨pm', sm', cel', ben', off', ?_, r'⟩
  unfold fX5_carryOutStrokes
  rw [if_neg (show ¬ nI k < 1 from nI_nlt h1 (by omega)), if_pos (show nI k ≤ 50 from nI_le (b := 50) h2 (by omega)), show (0 : Int32) = nI 0 from rfl, bd9_e e]
