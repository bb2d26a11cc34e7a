theorem x6_works {F : Nat} {N M : Nat → Nat} (hF : 100 < F) (h : DW N) (w : PW N) (e : EqD M N) {s : Nat} (hs : s < 8) (m1 : M (60 + 5 * s + 1) = mvS N s 1) (m2 : M (60 + 5 * s + 2) = mvS N s 2) (m3 : M (60 + 5 * s + 3) = of1 N s) (m4 : M (60 + 5 * s + 4) = sp1 N s) : ∃ M', fX6_works F (lA M) (nI s) = some (lA M') ∧ EqD M' N ∧ M' 9 = M 9 ∧ M' 10 = M 10 ∧ M' 11 = M 11 ∧ M' 12 = M 12 + fb_sm (sgS N s) (N 8) ∧ M' (60 + 5 * s + 0) = M (60 + 5 * s + 0) ∧ M' (60 + 5 * s + 1) = sdf (mvS N s 1) (puS N (s + 1) (N 8)) ∧ M' (60 + 5 * s + 2) = (mvS N s 2 ||| beS N (s + 1) (N 8)) ∧ M' (60 + 5 * s + 3) = of1 N s ∧ M' (60 + 5 * s + 4) = (if oaS N (s + 1) ≠ 0 ∧ N 7 < of1 N s then 1 else sp1 N s) ∧ (∀ j, 60 ≤ j → ¬ (60 + 5 * s ≤ j ∧ j < 60 + 5 * s + 5) → M' j = M j) := by
  have h8 := h.2.2.2.1.1
  have mv := al_tw w h hs
  have l60 : mvS N s 1 < 2 ^ 60 := lt60 h mv.1
  have hM := e_DW e h
  unfold fX6_works
  have oa := x6_oas (F := F) hF hM (s := s) (by omega)
  rw [e_oa e h8] at oa
  have ol := oa_lt h (s + 1)
  rw [il_60, il_5, pk_mul, nI_add, nm_s, bd1_e oa]
  have L : ∃ a, lp (fX6_works_l16 F (nI (60 + 5 * s)) (nI (oaS N (s + 1)))) F (nI 0, lA M) = some a ∧ ∃ M', a = lA M' ∧ EqD M' N ∧ M' 12 = M 12 + fb_sm (sgS N s) (N 8) ∧ M' (60 + 5 * s + 1) = sdf (mvS N s 1) (puS N (s + 1) (N 8)) ∧ M' (60 + 5 * s + 2) = (mvS N s 2 ||| beS N (s + 1) (N 8)) ∧ ∀ j, j ≠ 12 → j ≠ 60 + 5 * s + 1 → j ≠ 60 + 5 * s + 2 → M' j = M j := by
    refine lp_cnt (fun o x => x.1 = nI o ∧ ∃ M', x.2 = lA M' ∧ EqD M' N ∧ M' 12 = M 12 + fb_sm (sgS N s) o ∧ M' (60 + 5 * s + 1) = sdf (mvS N s 1) (puS N (s + 1) o) ∧ M' (60 + 5 * s + 2) = (mvS N s 2 ||| beS N (s + 1) o) ∧ ∀ j, j ≠ 12 → j ≠ 60 + 5 * s + 1 → j ≠ 60 + 5 * s + 2 → M' j = M j) (N 8) _ ?_ ?_ ⟨rfl, M, rfl, e, by simp [fb_sm], ?_, ?_, fun _ _ _ _ => rfl⟩ (by omega)
    · rintro o ho ⟨v5, v6⟩ ⟨e1, M1, e2, eD, q12, q1, q2, qj⟩
      have e1 : v5 = nI o := e1
      have e2 : v6 = lA M1 := e2
      subst e1 e2
      have h1 := e_DW eD h
      have n8 : M1 8 = N 8 := e_8 eD
      have kk := kd_le h ho
      have bit : (oaS N (s + 1)).testBit o = decide (spN N o = s + 1) := by rw [oaS, orb_tb, decide_eq_true ho, Bool.true_and]
      have pl := lt64 (lt60 h (pu_lt h (s + 1) (show o ≤ N 8 by omega)))
      have fs : fb_sm (sgS N s) (o + 1) = fb_sm (sgS N s) o + sgS N s o := rfl
      have fp : puS N (s + 1) (o + 1) = puS N (s + 1) o ||| if spN N o = s + 1 ∧ kd N o = 0 then opS N o else 0 := rfl
      have fb : beS N (s + 1) (o + 1) = beS N (s + 1) o ||| if spN N o = s + 1 ∧ kd N o = 1 then 2 ^ o else 0 := rfl
      by_cases y : spN N o = s + 1
      · have b1 : nI (oaS N (s + 1)) >>> (nI o &&& 31) &&& (1 : Int32) = nI 1 := by rw [sh1 (by omega), bit, if_pos (decide_eq_true y)]
        by_cases z : kd N o = 1
        · have mk : fX6_ofOp (lA M1) (nI o) 0 = some (nI 1) := by
            rw [m_k h1 (by rw [n8]; exact ho)]
            show some (nI (kd M1 o)) = _
            rw [e_kd eD (by omega), z]
          refine ⟨(nI (o + 1), lA (upN M1 (60 + 5 * s + 2) (mvS N s 2 ||| beS N (s + 1) o ||| 2 ^ o))), ?_, rfl, _, rfl, fun j c1 c2 c3 c4 c5 => by rw [upN_n (by omega)]; exact eD j c1 c2 c3 c4 c5, ?_, ?_, ?_, fun j c1 c2 c3 => by rw [upN_n c3]; exact qj j c1 c2 c3⟩
          · unfold fX6_works_l16
            rw [uc2_s, bd1_e (many_8 M1), n8, if_neg (nI_ge ho (by omega)), b1, if_neg (nn (show nI 1 = 1 from rfl)), bd1_e mk, if_neg (nn (show nI 1 = 1 from rfl)), il_2, nI_add, nm_s, gd_lit (by omega), nI_clamp (by omega), lA_at, q2, one_shl (by omega), fb_orL, nm_s, gd_lit (by omega), vp1, bd1_s, il_1, nI_add]
          · rw [upN_n (by omega), q12, fs]
            unfold sgS
            rw [if_neg (fun c => by omega)]; rfl
          · rw [upN_n (by omega), q1, fp, if_neg (fun c => by omega), Nat.or_zero]
          · rw [upN_s, fb, if_pos ⟨y, z⟩, Nat.or_assoc]
        · have z0 : kd N o = 0 := by omega
          have mk : fX6_ofOp (lA M1) (nI o) 0 = some (nI 0) := by
            rw [m_k h1 (by rw [n8]; exact ho)]
            show some (nI (kd M1 o)) = _
            rw [e_kd eD (by omega), z0]
          have op1 : fX6_cellsOf F (lA M1) (nI o) = some (lN (opS N o)) := by
            rw [x6_op hF h1 (by rw [n8]; exact ho), e_op eD (by omega)]
          have cn := pc_le (sdf (mvS N s 1) (puS N (s + 1) o) &&& opS N o)
          have on := x6_ones (F := F) (S := sdf (mvS N s 1) (puS N (s + 1) o) &&& opS N o) hF (and_lt_l (sdf_lt _ l60))
          have eD2 : EqD (upN M1 12 (M1 12 + pcS (sdf (mvS N s 1) (puS N (s + 1) o) &&& opS N o))) N := fun j c1 c2 c3 c4 c5 => by rw [upN_n c5]; exact eD j c1 c2 c3 c4 c5
          have op2 : fX6_cellsOf F (lA (upN M1 12 (M1 12 + pcS (sdf (mvS N s 1) (puS N (s + 1) o) &&& opS N o)))) (nI o) = some (lN (opS N o)) := by
            rw [x6_op hF (e_DW eD2 h) (by rw [e_8 eD2]; exact ho), e_op eD2 (by omega)]
          refine ⟨(nI (o + 1), lA (upN (upN M1 12 (M1 12 + pcS (sdf (mvS N s 1) (puS N (s + 1) o) &&& opS N o))) (60 + 5 * s + 1) (sdf (sdf (mvS N s 1) (puS N (s + 1) o)) (opS N o)))), ?_, rfl, _, rfl, fun j c1 c2 c3 c4 c5 => by rw [upN_n (by omega)]; exact eD2 j c1 c2 c3 c4 c5, ?_, ?_, ?_, fun j c1 c2 c3 => by rw [upN_n c2, upN_n c1]; exact qj j c1 c2 c3⟩
          · unfold fX6_works_l16
            rw [uc2_s, bd1_e (many_8 M1), n8, if_neg (nI_ge ho (by omega)), b1, if_neg (nn (show nI 1 = 1 from rfl)), bd1_e mk, if_pos (show ¬ nI 0 = 1 by decide +kernel), if_neg (nn (show nI 1 = 1 from rfl)), il_12, gd_lit (by omega), il_1, nI_add, nm_s, gd_lit (by omega), bd1_e op1, nI_clamp (by omega), lA_at, q1, fb_andL, bd1_e on, nI_clamp (by omega), lA_at, nI_l (by omega), lN_add, nm_s, gd_lit (by omega), nm_s, gd_lit (by omega), vp1, bd1_e op2, nI_clamp (by omega), lA_at, upN_n (by omega), q1, lN_sdf, nm_s, gd_lit (by omega), vp1, bd1_s, nI_add]
          · rw [upN_n (by omega), upN_s, q12, fs]
            unfold sgS
            rw [if_pos ⟨y, z0⟩, Nat.add_assoc]
          · rw [upN_s, fp, if_pos ⟨y, z0⟩, sdf_or _ _ (lt64 l60)]
          · rw [upN_n (by omega), upN_n (by omega), q2, fb, if_neg (fun c => by omega), Nat.or_zero]
      · have b0 : nI (oaS N (s + 1)) >>> (nI o &&& 31) &&& (1 : Int32) = nI 0 := by rw [sh1 (by omega), bit, if_neg (fun c => y (of_decide_eq_true c))]
        refine ⟨(nI (o + 1), lA M1), ?_, rfl, M1, rfl, eD, ?_, ?_, ?_, qj⟩
        · unfold fX6_works_l16
          rw [uc2_s, bd1_e (many_8 M1), n8, if_neg (nI_ge ho (by omega)), b0, if_pos (show ¬ nI 0 = 1 by decide +kernel), if_pos (show ¬ nI 0 = 1 by decide +kernel), bd1_s, il_1, nI_add]
        · rw [q12, fs]
          unfold sgS
          rw [if_neg (fun c => y c.1)]; rfl
        · rw [q1, fp, if_neg (fun c => y c.1), Nat.or_zero]
        · rw [q2, fb, if_neg (fun c => y c.1), Nat.or_zero]
    · rintro ⟨v5, v6⟩ ⟨e1, M1, e2, eD, rest⟩
      have e1 : v5 = nI (N 8) := e1
      have e2 : v6 = lA M1 := e2
      subst e1 e2
      refine ⟨lA M1, ?_, M1, rfl, eD, rest⟩
      unfold fX6_works_l16
      rw [uc2_s, bd1_e (many_8 M1), e_8 eD, if_pos (nI_le (Nat.le_refl _) (by omega))]
    · show M _ = sdf _ 0
      rw [m1, sdf_0 (lt64 l60)]
    · show M _ = _ ||| 0
      rw [m2, Nat.or_zero]
  obtain ⟨_, l1, M1, rfl, eD, q12, q1, q2, qj⟩ := L
  rw [show ((0 : Int32), lA M) = (nI 0, lA M) from rfl, bd1_e l1]
  have g7 : N 7 ≤ 50 := h.2.2.1.2.2.2.2.2
  have o72 : of1 N s ≤ 72 := by unfold of1; split <;> omega
  have f3 : M1 (60 + 5 * s + 3) = of1 N s := by rw [qj _ (by omega) (by omega) (by omega), m3]
  have f4 : M1 (60 + 5 * s + 4) = sp1 N s := by rw [qj _ (by omega) (by omega) (by omega), m4]
  have base : ∀ (c : Prop) [Decidable c], c → M1 (60 + 5 * s + 4) = (if c then M1 (60 + 5 * s + 4) else 0) := fun c _ hc => by rw [if_pos hc]
  have stay : (¬ (oaS N (s + 1) ≠ 0 ∧ N 7 < of1 N s)) → EqD M1 N ∧ M1 9 = M 9 ∧ M1 10 = M 10 ∧ M1 11 = M 11 ∧ M1 12 = M 12 + fb_sm (sgS N s) (N 8) ∧ M1 (60 + 5 * s + 0) = M (60 + 5 * s + 0) ∧ M1 (60 + 5 * s + 1) = sdf (mvS N s 1) (puS N (s + 1) (N 8)) ∧ M1 (60 + 5 * s + 2) = (mvS N s 2 ||| beS N (s + 1) (N 8)) ∧ M1 (60 + 5 * s + 3) = of1 N s ∧ M1 (60 + 5 * s + 4) = (if oaS N (s + 1) ≠ 0 ∧ N 7 < of1 N s then 1 else sp1 N s) ∧ (∀ j, 60 ≤ j → ¬ (60 + 5 * s ≤ j ∧ j < 60 + 5 * s + 5) → M1 j = M j) := by
    intro y
    refine ⟨eD, qj 9 (by omega) (by omega) (by omega), qj 10 (by omega) (by omega) (by omega), qj 11 (by omega) (by omega) (by omega), q12, qj _ (by omega) (by omega) (by omega), q1, q2, f3, by rw [if_neg y, f4], fun j c1 c2 => qj j (by omega) (by omega) (by omega)⟩
  by_cases y : oaS N (s + 1) = 0
  · rw [if_pos ((nI_z (by omega)).mpr y)]
    exact ⟨M1, rfl, stay (fun c => c.1 y)⟩
  · rw [if_neg (fun c => y ((nI_z (by omega)).mp c)), il_3, nI_add, nm_s, gd_lit (by omega), il_7, gd_lit (by omega), nI_clamp (by omega), nI_clamp (by omega), lA_at, lA_at, f3, e_i eD (j := 7) (by omega) (by omega)]
    by_cases z : N 7 < of1 N s
    · rw [if_neg (fun c => absurd ((lcmp_le (by omega) (by omega)).mp c) (by omega)), il_4, nI_add, gd_lit (by omega), nI_clamp (by omega), ll_1, vp1]
      refine ⟨_, rfl, fun j c1 c2 c3 c4 c5 => by rw [upN_n (by omega)]; exact eD j c1 c2 c3 c4 c5, ?_, ?_, ?_, ?_, ?_, ?_, ?_, ?_, ?_, fun j c1 c2 => by rw [upN_n (by omega)]; exact qj j (by omega) (by omega) (by omega)⟩
      · rw [upN_n (by omega)]; exact qj 9 (by omega) (by omega) (by omega)
      · rw [upN_n (by omega)]; exact qj 10 (by omega) (by omega) (by omega)
      · rw [upN_n (by omega)]; exact qj 11 (by omega) (by omega) (by omega)
      · rw [upN_n (by omega)]; exact q12
      · rw [upN_n (by omega)]; exact qj _ (by omega) (by omega) (by omega)
      · rw [upN_n (by omega)]; exact q1
      · rw [upN_n (by omega)]; exact q2
      · rw [upN_n (by omega)]; exact f3
      · rw [upN_s, if_pos ⟨y, z⟩]
    · rw [if_pos ((lcmp_le (by omega) (by omega)).mpr (by omega))]
      exact ⟨M1, rfl, stay (fun c => z c.2)⟩
def slugS (N : Nat → Nat) (t : Nat) : Nat := fb_sm (fun s => if tB N s = true then fb_sm (sgS N s) (N 8) else 0) t
/-- a slot at the end of a stroke -/
def SlotF (N M : Nat → Nat) (s : Nat) : Prop := (tB N s = true → M (60 + 5 * s + 0) = 1 ∧ M (60 + 5 * s + 1) = sdf (mvS N s 1) (puS N (s + 1) (N 8)) ∧ M (60 + 5 * s + 2) = (mvS N s 2 ||| beS N (s + 1) (N 8)) ∧ M (60 + 5 * s + 3) = of1 N s ∧ M (60 + 5 * s + 4) = (if oaS N (s + 1) ≠ 0 ∧ N 7 < of1 N s then 1 else sp1 N s)) ∧ (tB N s = false → ∀ i, i < 5 → M (60 + 5 * s + i) = 0)
/-- the state behind a stroke -/
def StrokeF (N M : Nat → Nat) : Prop := EqD M N ∧ M 9 = N 9 + 1 ∧ M 12 = N 12 + slugS N 8 ∧ M 10 = N 10 + (gcS N 8 + ogS N) ∧ M 11 = N 11 + (bcS N 8 + obS N) ∧ ∀ s, s < 8 → SlotF N M s
theorem x6_wk {F : Nat} {N M : Nat → Nat} (hF : 100 < F) (h : DW N) (w : PW N) (m : MP N 8 M) : ∃ a, lp (fX6_strokes_l291 F) F (nI 0, lA M) = some a ∧ ∃ M', a = lA M' ∧ StrokeF N M' := by
  obtain ⟨a, b, c, d, e, f⟩ := m
  refine lp_cnt (fun t x => x.1 = nI t ∧ ∃ M', x.2 = lA M' ∧ EqD M' N ∧ M' 9 = N 9 + 1 ∧ M' 12 = N 12 + slugS N t ∧ M' 10 = N 10 + (gcS N 8 + ogS N) ∧ M' 11 = N 11 + (bcS N 8 + obS N) ∧ (∀ s, s < t → SlotF N M' s) ∧ ∀ s, t ≤ s → s < 8 → ∀ i, i < 5 → M' (60 + 5 * s + i) = M (60 + 5 * s + i)) 8 _ ?_ ?_ ⟨rfl, M, rfl, a, b, by rw [c]; rfl, d, e, fun s hs => by omega, fun _ _ _ _ _ => rfl⟩ (by omega)
  · rintro s hs ⟨v18, v19⟩ ⟨e1, M1, e2, a1, b1, c1, d1, g1, lo, hi⟩
    have e1 : v18 = nI s := e1
    have e2 : v19 = lA M1 := e2
    subst e1 e2
    have fs := f s hs
    have sg : slugS N (s + 1) = slugS N s + if tB N s = true then fb_sm (sgS N s) (N 8) else 0 := rfl
    by_cases q : tB N s = true
    · have fq := fs.1 q
      rw [if_pos hs, if_pos hs] at fq
      have h0 := hi s (Nat.le_refl _) hs 0 (by omega)
      have h1 := hi s (Nat.le_refl _) hs 1 (by omega)
      have h2 := hi s (Nat.le_refl _) hs 2 (by omega)
      have h3 := hi s (Nat.le_refl _) hs 3 (by omega)
      have h4 := hi s (Nat.le_refl _) hs 4 (by omega)
      obtain ⟨M', k0, k1, k2, k3, k4, k5, k6, k7, k8, k9, k10, k11⟩ := x6_works (F := F) hF h w a1 hs (by rw [h1, fq.2.1]) (by rw [h2, fq.2.2.1]) (by rw [h3, fq.2.2.2.1]) (by rw [h4, fq.2.2.2.2])
      refine ⟨(nI (s + 1), lA M'), ?_, rfl, M', rfl, k1, by rw [k2, b1], by rw [k5, c1, sg, if_pos q, Nat.add_assoc], by rw [k3, d1], by rw [k4, g1], fun s' hs' => ?_, fun s' b2 b3 i hi2 => ?_⟩
      · unfold fX6_strokes_l291
        have r0 : fX6_ofPitch (lA M1) (nI s) 0 = some (lN 1) := by rw [il_0, ofPitch_s (by omega), h0, fq.1]
        rw [uc2_s, il_8, if_neg (nI_ge hs (by omega)), bd1_e r0, ll_1, ifn0 (by decide) (by decide) rfl, bd1_e k0, bd1_s, il_1, nI_add]
      · by_cases y : s' = s
        · subst y
          exact ⟨fun _ => ⟨by rw [k6, h0, fq.1], k7, k8, k9, k10⟩, fun z => by rw [q] at z; cases z⟩
        · have lo := lo s' (by omega)
          unfold SlotF at lo ⊢
          rw [k11 (60 + 5 * s' + 0) (by omega) (by omega), k11 (60 + 5 * s' + 1) (by omega) (by omega), k11 (60 + 5 * s' + 2) (by omega) (by omega), k11 (60 + 5 * s' + 3) (by omega) (by omega), k11 (60 + 5 * s' + 4) (by omega) (by omega)]
          exact ⟨lo.1, fun z i hi => by rw [k11 _ (by omega) (by omega)]; exact lo.2 z i hi⟩
      · rw [k11 _ (by omega) (by omega)]
        exact hi s' (by omega) b3 i hi2
    · have q := Bool.eq_false_iff.mpr q
      have fq := fs.2 q
      have h0 := hi s (Nat.le_refl _) hs
      refine ⟨(nI (s + 1), lA M1), ?_, rfl, M1, rfl, a1, b1, by rw [c1, sg, if_neg (by rw [q]; simp)]; rfl, d1, g1, fun s' hs' => ?_, fun s' b2 b3 => hi s' (by omega) b3⟩
      · unfold fX6_strokes_l291
        have r0 : fX6_ofPitch (lA M1) (nI s) 0 = some (lN 0) := by rw [il_0, ofPitch_s (by omega), h0 0 (by omega), fq 0 (by omega)]
        rw [uc2_s, il_8, if_neg (nI_ge hs (by omega)), bd1_e r0, ll_1, ifn1 (by decide) (by decide) (by decide), bd1_s, il_1, nI_add]
      · by_cases y : s' = s
        · subst y
          exact ⟨fun z => (by rw [q] at z; cases z), fun _ i hi2 => by rw [h0 i hi2]; exact fq i hi2⟩
        · exact lo s' (by omega)
  · rintro ⟨v18, v19⟩ ⟨e1, M1, e2, a1, b1, c1, d1, g1, lo, hi⟩
    have e1 : v18 = nI 8 := e1
    subst e1
    refine ⟨v19, ?_, M1, e2, a1, b1, c1, d1, g1, lo⟩
    unfold fX6_strokes_l291
    rw [uc2_s, il_8, if_pos (nI_le (Nat.le_refl _) (by omega))]
def strokeR (N : Nat → Nat) : Nat := if bcS N 8 + obS N = 0 then (if gcS N 8 + ogS N = 0 then 0 else 1) else 2
theorem x6_strokes {F : Nat} {N : Nat → Nat} (hF : 100 < F) (h : DW N) (w : PW N) : ∃ M, fX6_strokes F (lA N) = some (nI (strokeR N), lA M) ∧ StrokeF N M := by
  have h8 := h.2.2.2.1.1
  have g1 := gc_le N 8
  have g2 := bc_le N 8
  have g3 : ogS N ≤ 1 := by unfold ogS; split <;> (try split) <;> omega
  have g4 : obS N ≤ 1 := by unfold obS; split <;> (try split) <;> omega
  unfold fX6_strokes
  rw [bd1_e (x6_ps hF h), il_9, gd_lit (by omega), nI_clamp (by omega), lA_at, ll_1, lN_add, nm_s, gd_lit (by omega), vp1]
  obtain ⟨M1, mc, eq⟩ := x6_mc hF h w (fun v9 v10 v11 => bd1 (lp (fX6_strokes_l235) F (nI 0, v11)) fun v16 => bd1 (lp (fX6_strokes_l291 F) F (nI 0, v16)) fun v17 => if ¬ v9 = nI 0 then (if ¬ v9 = v10 then some ((2 : Int32), v17) else some ((1 : Int32), v17)) else some (nI 0, v17))
  obtain ⟨_, l1, M2, rfl, mp⟩ := x6_pil hF h w mc
  obtain ⟨_, l2, M3, rfl, sf⟩ := x6_wk hF h w mp
  refine ⟨M3, eq.trans ?_, sf⟩
  rw [bd1_e l1, bd1_e l2]
  unfold strokeR
  by_cases q1 : bcS N 8 + obS N = 0
  · rw [if_pos q1]
    by_cases q2 : gcS N 8 + ogS N = 0
    · rw [if_pos q2, if_neg (nn (show nI (gcS N 8 + ogS N + (bcS N 8 + obS N)) = nI 0 from by rw [q1, q2]))]
    · rw [if_neg q2, if_pos (show ¬ nI (gcS N 8 + ogS N + (bcS N 8 + obS N)) = nI 0 from nI_ne0 (by omega) (by omega)), if_neg (nn (show nI (gcS N 8 + ogS N + (bcS N 8 + obS N)) = nI (gcS N 8 + ogS N) from by rw [q1]; rfl))]; rfl
  · rw [if_neg q1, if_pos (show ¬ nI (gcS N 8 + ogS N + (bcS N 8 + obS N)) = nI 0 from nI_ne0 (by omega) (by omega)), if_pos (show ¬ nI (gcS N 8 + ogS N + (bcS N 8 + obS N)) = nI (gcS N 8 + ogS N) from fun z => by have := (nI_eq (by omega) (by omega)).mp z; omega)]; rfl
