theorem e_gd {M N : Nat → Nat} (e : EqD M N) (h8 : N 8 ≤ 6) (a b c : Nat) : gdS M a b c = gdS N a b c := by
  unfold gdS
  rw [e_pa e, e_wa e, e_bn e h8]
theorem x6_leaves {F : Nat} {N M : Nat → Nat} (hF : 100 < F) (h : DW N) (e : EqD M N) {a : Nat} (ha0 : 60 ≤ a) (ha : a + 5 ≤ 100) (hlf : M (a + 1) < 2 ^ (N 0 * N 1)) (hbn : M (a + 2) < 64) (hsp : M (a + 4) < 2) : ∃ M', fX6_leaves F (lA M) (nI a) = some (bI (gdS N (M (a + 1)) (M (a + 2)) (M (a + 4))), lA M') ∧ EqD M' N ∧ M' 9 = M 9 ∧ M' 12 = M 12 ∧ M' 10 = M 10 + (if gdS N (M (a + 1)) (M (a + 2)) (M (a + 4)) = true then 1 else 0) ∧ M' 11 = M 11 + (if gdS N (M (a + 1)) (M (a + 2)) (M (a + 4)) = true then 0 else 1) ∧ (∀ j, a ≤ j → j < a + 5 → M' j = 0) ∧ (∀ j, 60 ≤ j → ¬ (a ≤ j ∧ j < a + 5) → M' j = M j) := by
  have h8 := h.2.2.2.1.1
  have hM := e_DW e h
  have g := x6_good (F := F) hF hM (a := a) ha (by rw [e_i e (j := 0) (by omega) (by omega), e_i e (j := 1) (by omega) (by omega)]; exact hlf) hbn hsp
  rw [e_gd e h8] at g
  unfold fX6_leaves
  rw [bd1_e g]
  cases q : gdS N (M (a + 1)) (M (a + 2)) (M (a + 4))
  · rw [if_pos (show bI false = 0 from rfl), bd1_s, il_11, gd_lit (by omega), nI_clamp (by omega), lA_at, ll_1, lN_add, nm_s, gd_lit (by omega), vp1, bd1_e (x6_emp hF ha)]
    refine ⟨_, rfl, fun j b1 b2 b3 b4 b5 => ?_, ?_, ?_, ?_, ?_, fun j b1 b2 => if_pos ⟨b1, b2⟩, fun j b1 b2 => ?_⟩
    · show (if a ≤ j ∧ j < a + 5 then 0 else upN M 11 (M 11 + 1) j) = N j
      rw [if_neg (by omega), upN_n (by omega)]
      exact e j b1 b2 b3 b4 b5
    all_goals show (if _ then _ else _) = _
    · rw [if_neg (by omega), upN_n (by omega)]
    · rw [if_neg (by omega), upN_n (by omega)]
    · rw [if_neg (by omega), upN_n (by omega)]; simp
    · rw [if_neg (by omega), upN_s]; simp
    · rw [if_neg b2, upN_n (by omega)]
  · rw [if_neg (show ¬ bI true = 0 by decide +kernel), bd1_s, il_10, gd_lit (by omega), nI_clamp (by omega), lA_at, ll_1, lN_add, nm_s, gd_lit (by omega), vp1, bd1_e (x6_emp hF ha)]
    refine ⟨_, rfl, fun j b1 b2 b3 b4 b5 => ?_, ?_, ?_, ?_, ?_, fun j b1 b2 => if_pos ⟨b1, b2⟩, fun j b1 b2 => ?_⟩
    · show (if a ≤ j ∧ j < a + 5 then 0 else upN M 10 (M 10 + 1) j) = N j
      rw [if_neg (by omega), upN_n (by omega)]
      exact e j b1 b2 b3 b4 b5
    all_goals show (if _ then _ else _) = _
    · rw [if_neg (by omega), upN_n (by omega)]
    · rw [if_neg (by omega), upN_n (by omega)]
    · rw [if_neg (by omega), upN_s]; simp
    · rw [if_neg (by omega), upN_n (by omega)]; simp
    · rw [if_neg b2, upN_n (by omega)]
/-- the press' part of the model's state, well formed -/
def PW (N : Nat → Nat) : Prop := ∀ s, s < 8 → N (60 + 5 * s + 0) ≤ 1 ∧ N (60 + 5 * s + 1) < 2 ^ (N 0 * N 1) ∧ N (60 + 5 * s + 2) < 64 ∧ N (60 + 5 * s + 3) ≤ 9 * s ∧ N (60 + 5 * s + 4) ≤ 1 ∧ (N (60 + 5 * s + 0) = 0 → ∀ i, i < 5 → N (60 + 5 * s + i) = 0)
def cutB (N : Nat → Nat) (s : Nat) : Bool := decide (N (60 + 5 * s + 0) = 1) && decide (psS N (N 8) ≤ s + 1)
def godB (N : Nat → Nat) (s : Nat) : Bool := gdS N (N (60 + 5 * s + 1)) (N (60 + 5 * s + 2)) (N (60 + 5 * s + 4))
def gcS (N : Nat → Nat) (t : Nat) : Nat := fb_sm (fun i => if cutB N (7 - i) && godB N (7 - i) then 1 else 0) t
def bcS (N : Nat → Nat) (t : Nat) : Nat := fb_sm (fun i => if cutB N (7 - i) && !godB N (7 - i) then 1 else 0) t
theorem gc_le (N : Nat → Nat) (t : Nat) : gcS N t ≤ t * 1 := fb_sm_bound (fun k _ => by split <;> omega)
theorem bc_le (N : Nat → Nat) (t : Nat) : bcS N t ≤ t * 1 := fb_sm_bound (fun k _ => by split <;> omega)
/-- the slot behind the move and the cut, still at its old place -/
def slB (N : Nat → Nat) (s i : Nat) : Nat := if cutB N s then 0 else if i = 3 then N (60 + 5 * s + 3) + N (60 + 5 * s + 0) * N 5 else N (60 + 5 * s + i)
def CutP (N : Nat → Nat) (t : Nat) (x : Int32 × Int32 × Int32 × (Nat → Int64)) : Prop := x.1 = nI (gcS N t + bcS N t) ∧ x.2.1 = nI (gcS N t) ∧ x.2.2.1 = eN (8 - t) ∧ ∃ M, x.2.2.2 = lA M ∧ EqD M N ∧ M 9 = N 9 + 1 ∧ M 12 = N 12 ∧ M 10 = N 10 + gcS N t ∧ M 11 = N 11 + bcS N t ∧ (∀ s i, s < 8 → i < 5 → M (60 + 5 * s + i) = if 8 - t ≤ s then slB N s i else N (60 + 5 * s + i))
theorem x6_cut {F : Nat} {N : Nat → Nat} (hF : 100 < F) (h : DW N) (w : PW N) : ∃ a, lp (fX6_strokes_l24 F (nI (psS N (N 8)))) F (nI 0, nI 0, nI 7, lA (upN N 9 (N 9 + 1))) = some a ∧ (a.1 = nI (gcS N 8 + bcS N 8) ∧ a.2.1 = nI (gcS N 8) ∧ ∃ M, a.2.2 = lA M ∧ EqD M N ∧ M 9 = N 9 + 1 ∧ M 12 = N 12 ∧ M 10 = N 10 + gcS N 8 ∧ M 11 = N 11 + bcS N 8 ∧ ∀ s i, s < 8 → i < 5 → M (60 + 5 * s + i) = slB N s i) := by
  have h8 := h.2.2.2.1.1
  refine lp_cnt (CutP N) 8 _ ?_ ?_ ?_ (by omega)
  · rintro t ht ⟨v38, v39, v40, now⟩ ⟨e1, e2, e3, M, e4, eM, m9, m12, m10, m11, sl⟩
    have e1 : v38 = nI (gcS N t + bcS N t) := e1
    have e2 : v39 = nI (gcS N t) := e2
    have e3 : v40 = eN (8 - t) := e3
    have e4 : now = lA M := e4
    subst e1 e2 e3 e4
    have hs : 7 - t < 8 := by omega
    rw [show 8 - t = (7 - t) + 1 by omega]
    have ws := w (7 - t) hs
    have s0 := sl (7 - t) 0 hs (by omega)
    have s1 := sl (7 - t) 1 hs (by omega)
    have s2 := sl (7 - t) 2 hs (by omega)
    have s3 := sl (7 - t) 3 hs (by omega)
    have s4 := sl (7 - t) 4 hs (by omega)
    rw [if_neg (by omega)] at s0 s1 s2 s3 s4
    generalize hk : 7 - t = k at *
    have m5 : M 5 = N 5 := e_i eM (by omega) (by omega)
    have eM2 : EqD (upN M (60 + 5 * k + 3) (N (60 + 5 * k + 3) + N (60 + 5 * k + 0) * N 5)) N := fun j b1 b2 b3 b4 b5 => by rw [upN_n (by omega)]; exact eM j b1 b2 b3 b4 b5
    have pl := ps_le N (N 8)
    have pre : fX6_strokes_l24 F (nI (psS N (N 8))) (nI (gcS N t + bcS N t), nI (gcS N t), eN (k + 1), lA M) = bd3 (if ¬ lg_cmp (lN (N (60 + 5 * k + 0))) (lN 1) = nI 0 then some (nI (gcS N t + bcS N t), nI (gcS N t), lA (upN M (60 + 5 * k + 3) (N (60 + 5 * k + 3) + N (60 + 5 * k + 0) * N 5))) else if nI (k + 1) < nI (psS N (N 8)) then some (nI (gcS N t + bcS N t), nI (gcS N t), lA (upN M (60 + 5 * k + 3) (N (60 + 5 * k + 3) + N (60 + 5 * k + 0) * N 5))) else bd2 (fX6_leaves F (lA (upN M (60 + 5 * k + 3) (N (60 + 5 * k + 3) + N (60 + 5 * k + 0) * N 5))) (nI (60 + 5 * k))) fun r51 u52 => bd1 (if r51 = nI 0 then some (nI 0) else some (nI 1)) fun v53 => nm (nI (gcS N t) + v53) fun v54 => some (nI (gcS N t + bcS N t + 1), v54, u52)) fun v47 v48 v49 => some (.inl (v47, v48, eN k, v49)) := by
      unfold fX6_strokes_l24
      rw [uc4_s, ← eN_s, if_neg (nI_pos (by omega))]
      have r0 : fX6_ofPitch (lA M) (nI k) 0 = some (lN (N (60 + 5 * k + 0))) := by
        rw [il_0, ofPitch_s (by omega), s0]
      rw [il_60, il_5, pk_mul, nI_add, nm_s, il_3, nI_add, nm_s, gd_lit (by omega), bd1_e r0, gd_lit (by omega), nI_clamp (by omega), nI_clamp (by omega), lA_at, lA_at, s3, m5, lN_mul, lN_add, nm_s, gd_lit (by omega), vp1]
      have r1 : fX6_ofPitch (lA (upN M (60 + 5 * k + 3) (N (60 + 5 * k + 3) + N (60 + 5 * k + 0) * N 5))) (nI k) 0 = some (lN (N (60 + 5 * k + 0))) := by
        rw [il_0, ofPitch_s (by omega), upN_n (by omega), s0]
      rw [bd1_e r1, il_8, if_pos (nI_le pl (by omega)), bd1_s, il_1, ll_1, nI_add, nI_add, show nI k + -nI 1 = eN k from eN_dn k]
      rfl
    have l4 : N (60 + 5 * k + 0) < 2 ^ 60 := Nat.lt_of_le_of_lt ws.1 (by decide)
    have sl2 : ∀ s i, s < 8 → i < 5 → cutB N k = false → upN M (60 + 5 * k + 3) (N (60 + 5 * k + 3) + N (60 + 5 * k + 0) * N 5) (60 + 5 * s + i) = if 8 - (t + 1) ≤ s then slB N s i else N (60 + 5 * s + i) := by
      intro s i b1 b2 b3
      rw [show 8 - (t + 1) = k by omega]
      by_cases q : s = k
      · subst q
        rw [if_pos (Nat.le_refl _)]
        unfold slB
        rw [b3]
        by_cases q2 : i = 3
        · subst q2
          rw [upN_s]; simp
        · rw [upN_n (by omega), sl s i b1 b2, if_neg (by omega)]; simp [q2]
      · rw [upN_n (by omega), sl s i b1 b2]
        by_cases q2 : k ≤ s
        · rw [if_pos q2, if_pos (by omega)]
        · rw [if_neg q2, if_neg (by omega)]
    have g1 : gcS N (t + 1) = gcS N t + if cutB N k && godB N k then 1 else 0 := by rw [← hk]; rfl
    have b1' : bcS N (t + 1) = bcS N t + if cutB N k && !godB N k then 1 else 0 := by rw [← hk]; rfl
    have m10' : upN M (60 + 5 * k + 3) (N (60 + 5 * k + 3) + N (60 + 5 * k + 0) * N 5) 10 = M 10 := upN_n (by omega)
    have m11' : upN M (60 + 5 * k + 3) (N (60 + 5 * k + 3) + N (60 + 5 * k + 0) * N 5) 11 = M 11 := upN_n (by omega)
    have m9' : upN M (60 + 5 * k + 3) (N (60 + 5 * k + 3) + N (60 + 5 * k + 0) * N 5) 9 = M 9 := upN_n (by omega)
    have m12' : upN M (60 + 5 * k + 3) (N (60 + 5 * k + 3) + N (60 + 5 * k + 0) * N 5) 12 = M 12 := upN_n (by omega)
    have stay : cutB N k = false → CutP N (t + 1) (nI (gcS N t + bcS N t), nI (gcS N t), eN k, lA (upN M (60 + 5 * k + 3) (N (60 + 5 * k + 3) + N (60 + 5 * k + 0) * N 5))) := by
      intro q
      rw [q] at g1 b1'
      simp only [Bool.false_and, Bool.false_eq_true, if_false, Nat.add_zero] at g1 b1'
      refine ⟨by rw [g1, b1'], by rw [g1], by show eN k = _; rw [show 8 - (t + 1) = k by omega], _, rfl, eM2, by rw [m9', m9], by rw [m12', m12], by rw [m10', m10, g1], by rw [m11', m11, b1'], fun s i c1 c2 => sl2 s i c1 c2 q⟩
    by_cases q1 : N (60 + 5 * k + 0) = 1
    · rw [show (if ¬ lg_cmp (lN (N (60 + 5 * k + 0))) (lN 1) = nI 0 then some (nI (gcS N t + bcS N t), nI (gcS N t), lA (upN M (60 + 5 * k + 3) (N (60 + 5 * k + 3) + N (60 + 5 * k + 0) * N 5))) else _) = _ from ifn0 l4 (by decide) q1] at pre
      by_cases q2 : k + 1 < psS N (N 8)
      · rw [if_pos (nI_lt q2 (by omega)), bd3_s] at pre
        have q : cutB N k = false := by unfold cutB; rw [decide_eq_false (show ¬ psS N (N 8) ≤ k + 1 by omega), Bool.and_false]
        exact ⟨_, pre, stay q⟩
      · have q : cutB N k = true := by unfold cutB; rw [decide_eq_true q1, decide_eq_true (show psS N (N 8) ≤ k + 1 by omega)]; rfl
        rw [q] at g1 b1'
        obtain ⟨M', c1, c2, c3, c4, c5, c6, c7, c8⟩ := x6_leaves (F := F) hF h eM2 (a := 60 + 5 * k) (by omega) (by omega) (by rw [upN_n (by omega), s1]; exact ws.2.1) (by rw [upN_n (by omega), s2]; exact ws.2.2.1) (by rw [upN_n (by omega), s4]; have := ws.2.2.2.2.1; omega)
        have eg : gdS N (upN M (60 + 5 * k + 3) (N (60 + 5 * k + 3) + N (60 + 5 * k + 0) * N 5) (60 + 5 * k + 1)) (upN M (60 + 5 * k + 3) (N (60 + 5 * k + 3) + N (60 + 5 * k + 0) * N 5) (60 + 5 * k + 2)) (upN M (60 + 5 * k + 3) (N (60 + 5 * k + 3) + N (60 + 5 * k + 0) * N 5) (60 + 5 * k + 4)) = godB N k := by
          rw [upN_n (by omega), upN_n (by omega), upN_n (by omega), s1, s2, s4]; rfl
        rw [eg] at c1 c5 c6
        rw [if_neg (nI_nlt (by omega) (by omega)), bd2_e c1] at pre
        have fin : fX6_strokes_l24 F (nI (psS N (N 8))) (nI (gcS N t + bcS N t), nI (gcS N t), eN (k + 1), lA M) = some (.inl (nI (gcS N t + bcS N t + 1), nI (gcS N t + if godB N k then 1 else 0), eN k, lA M')) := by
          rw [pre]
          cases godB N k
          · rw [if_pos (show bI false = nI 0 from rfl), bd1_s, nI_add, nm_s]; rfl
          · rw [if_neg (show ¬ bI true = nI 0 by decide +kernel), bd1_s, nI_add, nm_s]; rfl
        refine ⟨_, fin, ?_, ?_, ?_, M', rfl, c2, by rw [c3, m9', m9], by rw [c4, m12', m12], ?_, ?_, fun s i d1 d2 => ?_⟩
        · show nI _ = nI _
          rw [g1, b1']
          congr 1
          cases godB N k <;> simp <;> omega
        · show nI _ = nI _
          rw [g1]; simp
        · show eN k = _
          rw [show 8 - (t + 1) = k by omega]
        · rw [c5, m10', m10, g1]
          cases godB N k <;> simp <;> omega
        · rw [c6, m11', m11, b1']
          cases godB N k <;> simp <;> omega
        · rw [show 8 - (t + 1) = k by omega]
          by_cases q3 : s = k
          · subst q3
            rw [if_pos (Nat.le_refl _), c7 _ (by omega) (by omega)]
            unfold slB
            rw [q]; rfl
          · rw [c8 _ (by omega) (by omega), upN_n (by omega), sl s i d1 d2]
            by_cases q4 : k ≤ s
            · rw [if_pos q4, if_pos (by omega)]
            · rw [if_neg q4, if_neg (by omega)]
    · rw [show (if ¬ lg_cmp (lN (N (60 + 5 * k + 0))) (lN 1) = nI 0 then some (nI (gcS N t + bcS N t), nI (gcS N t), lA (upN M (60 + 5 * k + 3) (N (60 + 5 * k + 3) + N (60 + 5 * k + 0) * N 5))) else _) = _ from ifn1 l4 (by decide) q1, bd3_s] at pre
      have q : cutB N k = false := by unfold cutB; rw [decide_eq_false q1]; rfl
      exact ⟨_, pre, stay q⟩
  · rintro ⟨v38, v39, v40, now⟩ ⟨e1, e2, e3, M, e4, eM, m9, m12, m10, m11, sl⟩
    have e3 : v40 = eN (8 - 8) := e3
    refine ⟨(v38, v39, now), ?_, e1, e2, M, e4, eM, m9, m12, m10, m11, fun s i b1 b2 => by rw [sl s i b1 b2, if_pos (by omega)]⟩
    unfold fX6_strokes_l24
    rw [uc4_s, e3, if_pos (show eN (8 - 8) < 0 by decide +kernel)]
  · refine ⟨rfl, rfl, eN_s 7, _, rfl, fun j b1 b2 b3 b4 b5 => upN_n b2, upN_s _ _ _, upN_n (by omega), ?_, ?_, fun s i b1 b2 => ?_⟩
    · rw [upN_n (by omega)]; rfl
    · rw [upN_n (by omega)]; rfl
    · rw [upN_n (by omega), if_neg (by omega)]
