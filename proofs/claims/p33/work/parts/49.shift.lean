theorem x6_shift {F : Nat} {M : Nat → Nat} (hF : 100 < F) : lp (fX6_strokes_l125 F) F (nI 7, lA M) = some (lA (fun j => if 65 ≤ j ∧ j < 100 then M (j - 5) else M j)) := by
  refine lp_seqE (S := fun t => (nI (7 - t), lA (fun j => if 60 + 5 * (8 - t) ≤ j ∧ j < 100 then M (j - 5) else M j))) (by
    congr 1
    funext j
    show lN (M j) = lN (if 60 + 5 * (8 - 0) ≤ j ∧ j < 100 then M (j - 5) else M j)
    rw [if_neg (by omega)]) (n := 7) (a := lA (fun j => if 65 ≤ j ∧ j < 100 then M (j - 5) else M j)) (F := F) (fun t ht => ?_) ?_ (by omega)
  · show fX6_strokes_l125 F (nI (7 - t), lA (fun j => if 60 + 5 * (8 - t) ≤ j ∧ j < 100 then M (j - 5) else M j)) = some (.inl (nI (7 - (t + 1)), lA (fun j => if 60 + 5 * (8 - (t + 1)) ≤ j ∧ j < 100 then M (j - 5) else M j)))
    unfold fX6_strokes_l125
    generalize hk : 7 - t = k at *
    have hk1 : 1 ≤ k ∧ k ≤ 7 := by omega
    rw [show 8 - t = k + 1 by omega, show 7 - (t + 1) = k - 1 by omega, show 8 - (t + 1) = k by omega]
    have L1 := lp_seqE (body := fX6_strokes_l133 (nI k)) (S := fun u => (nI u, lA (fun j => if (60 + 5 * (k + 1) ≤ j ∧ j < 100) ∨ (60 + 5 * k ≤ j ∧ j < 60 + 5 * k + u) then M (j - 5) else M j))) (x0 := (nI 0, lA (fun j => if 60 + 5 * (k + 1) ≤ j ∧ j < 100 then M (j - 5) else M j))) (by
      congr 1
      funext j
      show lN (if 60 + 5 * (k + 1) ≤ j ∧ j < 100 then M (j - 5) else M j) = lN (if (60 + 5 * (k + 1) ≤ j ∧ j < 100) ∨ (60 + 5 * k ≤ j ∧ j < 60 + 5 * k + 0) then M (j - 5) else M j)
      by_cases q : 60 + 5 * (k + 1) ≤ j ∧ j < 100
      · rw [if_pos q, if_pos (Or.inl q)]
      · rw [if_neg q, if_neg (by omega)]) (n := 5) (a := lA (fun j => if 60 + 5 * k ≤ j ∧ j < 100 then M (j - 5) else M j)) (F := F) (fun u hu => by
      show fX6_strokes_l133 (nI k) (nI u, lA (fun j => if (60 + 5 * (k + 1) ≤ j ∧ j < 100) ∨ (60 + 5 * k ≤ j ∧ j < 60 + 5 * k + u) then M (j - 5) else M j)) = some (.inl (nI (u + 1), lA (fun j => if (60 + 5 * (k + 1) ≤ j ∧ j < 100) ∨ (60 + 5 * k ≤ j ∧ j < 60 + 5 * k + (u + 1)) then M (j - 5) else M j)))
      unfold fX6_strokes_l133
      rw [uc2_s, il_5, if_neg (nI_ge hu (by omega)), il_60, pk_mul, nI_add, nm_s, nI_add, nm_s, pk_sub (by omega), nm_s, nI_add, nm_s, gd_lit (by omega), nI_clamp (by omega), nI_clamp (by omega), lA_at, nm_s, gd_lit (by omega), vp1, il_1, nI_add]
      congr 4
      funext j
      show (if j = 60 + 5 * k + u then (if (60 + 5 * (k + 1) ≤ 60 + 5 * k - 5 + u ∧ 60 + 5 * k - 5 + u < 100) ∨ (60 + 5 * k ≤ 60 + 5 * k - 5 + u ∧ 60 + 5 * k - 5 + u < 60 + 5 * k + u) then M (60 + 5 * k - 5 + u - 5) else M (60 + 5 * k - 5 + u)) else if (60 + 5 * (k + 1) ≤ j ∧ j < 100) ∨ (60 + 5 * k ≤ j ∧ j < 60 + 5 * k + u) then M (j - 5) else M j) = if (60 + 5 * (k + 1) ≤ j ∧ j < 100) ∨ (60 + 5 * k ≤ j ∧ j < 60 + 5 * k + (u + 1)) then M (j - 5) else M j
      by_cases q : j = 60 + 5 * k + u
      · rw [if_pos q, if_neg (by omega), if_pos (by omega)]
        congr 1; omega
      · rw [if_neg q]
        by_cases q2 : (60 + 5 * (k + 1) ≤ j ∧ j < 100) ∨ (60 + 5 * k ≤ j ∧ j < 60 + 5 * k + u)
        · rw [if_pos q2, if_pos (by omega)]
        · rw [if_neg q2, if_neg (by omega)]) (by
      show fX6_strokes_l133 (nI k) (nI 5, lA (fun j => if (60 + 5 * (k + 1) ≤ j ∧ j < 100) ∨ (60 + 5 * k ≤ j ∧ j < 60 + 5 * k + 5) then M (j - 5) else M j)) = _
      unfold fX6_strokes_l133
      rw [uc2_s, il_5, if_pos (nI_le (Nat.le_refl _) (by omega))]
      congr 3
      funext j
      congr 1
      apply propext
      omega) (by omega)
    rw [uc2_s, if_neg (show ¬ nI k ≤ 0 from nI_nle (by omega) (by omega))]
    refine (bd1_e L1).trans ?_
    rw [show nI k + (-1 : Int32) = eN k from eN_dn k, show k = (k - 1) + 1 by omega, ← eN_s]
    rfl
  · show fX6_strokes_l125 F (nI (7 - 7), lA (fun j => if 60 + 5 * (8 - 7) ≤ j ∧ j < 100 then M (j - 5) else M j)) = _
    unfold fX6_strokes_l125
    rw [uc2_s, if_pos (show nI (7 - 7) ≤ 0 by decide +kernel)]
/-- is there a pitch at s behind the move and the cut -/
def tB (N : Nat → Nat) (s : Nat) : Bool := if s = 0 then decide (psS N (N 8) ≠ 0) else decide (N (60 + 5 * (s - 1) + 0) = 1) && decide (s < psS N (N 8))
/-- what a pitch at s has behind the move: 1 left, 2 bends, 3 offset, 4 spoiled -/
def mvS (N : Nat → Nat) (s i : Nat) : Nat := if s = 0 then (if i = 1 then alS N else 0) else if i = 3 then N (60 + 5 * (s - 1) + 3) + N 5 else N (60 + 5 * (s - 1) + i)
def ogS (N : Nat → Nat) : Nat := if psS N (N 8) = 0 then (if gdS N (alS N) 0 0 then 1 else 0) else 0
def obS (N : Nat → Nat) : Nat := if psS N (N 8) = 0 then (if gdS N (alS N) 0 0 then 0 else 1) else 0
/-- the state behind move and cut -/
def MC (N M : Nat → Nat) : Prop := EqD M N ∧ M 9 = N 9 + 1 ∧ M 12 = N 12 ∧ M 10 = N 10 + (gcS N 8 + ogS N) ∧ M 11 = N 11 + (bcS N 8 + obS N) ∧ ∀ s, s < 8 → (tB N s = true → M (60 + 5 * s + 0) = 1 ∧ ∀ i, 1 ≤ i → i < 5 → M (60 + 5 * s + i) = mvS N s i) ∧ (tB N s = false → ∀ i, i < 5 → M (60 + 5 * s + i) = 0)
theorem x6_mc {F : Nat} {N : Nat → Nat} (hF : 100 < F) (h : DW N) (w : PW N) {ρ : Type} (K : Int32 → Int32 → (Nat → Int64) → Option ρ) : ∃ M, MC N M ∧ (bd3 (lp (fX6_strokes_l24 F (nI (psS N (N 8)))) F (nI 0, nI 0, nI 7, lA (upN N 9 (N 9 + 1)))) fun v3 v4 v5 => bd1 (lp (fX6_strokes_l125 F) F (nI 7, v5)) fun v6 => bd1 (fX6_empties F v6 (nI 60)) fun u7 => gd (nI 60) 100 (bd1 (fX6_all F (vp_updL u7 (nI 60).toNatClampNeg (lN 1))) fun r8 => gd (nI 61) 100 (bd3 (if ¬ nI (psS N (N 8)) = nI 0 then some (v3, v4, vp_updL (vp_updL u7 (nI 60).toNatClampNeg (lN 1)) (nI 61).toNatClampNeg r8) else bd2 (fX6_leaves F (vp_updL (vp_updL u7 (nI 60).toNatClampNeg (lN 1)) (nI 61).toNatClampNeg r8) (nI 60)) fun r12 u13 => bd1 (if r12 = nI 0 then some (nI 0) else some (nI 1)) fun v14 => nm (v4 + v14) fun v15 => some (v3 + nI 1, v15, u13)) K))) = K (nI (gcS N 8 + ogS N + (bcS N 8 + obS N))) (nI (gcS N 8 + ogS N)) (lA M) := by
  have h8 := h.2.2.2.1.1
  obtain ⟨⟨v3, v4, v5⟩, l1, e3, e4, M, e5, eM, m9, m12, m10, m11, sl⟩ := x6_cut hF h w
  have e3 : v3 = nI (gcS N 8 + bcS N 8) := e3
  have e4 : v4 = nI (gcS N 8) := e4
  have e5 : v5 = lA M := e5
  subst e3 e4 e5
  rw [bd3_e l1, bd1_e (x6_shift hF), bd1_e (x6_emp hF (by omega)), gd_lit (by omega), nI_clamp (by omega), nI_clamp (by omega), vp1]
  generalize hM2 : upN (fun j => if 60 ≤ j ∧ j < 60 + 5 then 0 else if 65 ≤ j ∧ j < 100 then M (j - 5) else M j) 60 1 = M2
  have v2 : ∀ j, M2 j = if j = 60 then 1 else if 60 ≤ j ∧ j < 65 then 0 else if 65 ≤ j ∧ j < 100 then M (j - 5) else M j := fun j => by rw [← hM2]; rfl
  have d2 : EqD M2 N := fun j b1 b2 b3 b4 b5 => by
    rw [v2, if_neg (by omega), if_neg (by omega), if_neg (by omega)]
    exact eM j b1 b2 b3 b4 b5
  have al := x6_all hF (e_DW d2 h)
  rw [e_al d2] at al
  rw [bd1_e al, gd_lit (by omega), vp1]
  generalize hM3 : upN M2 61 (alS N) = M3
  have v3' : ∀ j, M3 j = if j = 61 then alS N else M2 j := fun j => by rw [← hM3]; rfl
  have d3 : EqD M3 N := fun j b1 b2 b3 b4 b5 => by
    rw [v3', if_neg (by omega)]
    exact d2 j b1 b2 b3 b4 b5
  have c3 : ∀ j, j < 60 → M3 j = M j := fun j hj => by
    rw [v3', if_neg (by omega), v2, if_neg (by omega), if_neg (by omega), if_neg (by omega)]
  have s3 : ∀ s i, 1 ≤ s → s < 8 → i < 5 → M3 (60 + 5 * s + i) = slB N (s - 1) i := fun s i b1 b2 b3 => by
    rw [v3', if_neg (by omega), v2, if_neg (by omega), if_neg (by omega), if_pos (by omega), ← sl (s - 1) i (by omega) b3]
    congr 1; omega
  have pl := ps_le N (N 8)
  have rest : ∀ s, 1 ≤ s → s < 8 → (tB N s = true → M3 (60 + 5 * s + 0) = 1 ∧ ∀ i, 1 ≤ i → i < 5 → M3 (60 + 5 * s + i) = mvS N s i) ∧ (tB N s = false → ∀ i, i < 5 → M3 (60 + 5 * s + i) = 0) := by
    intro s b1 b2
    have ws := w (s - 1) (by omega)
    constructor
    · intro q
      unfold tB at q
      rw [if_neg (by omega), Bool.and_eq_true, decide_eq_true_eq, decide_eq_true_eq] at q
      have nc : cutB N (s - 1) = false := by unfold cutB; rw [decide_eq_false (show ¬ psS N (N 8) ≤ s - 1 + 1 by omega), Bool.and_false]
      refine ⟨?_, fun i c1 c2 => ?_⟩
      · rw [s3 s 0 b1 b2 (by omega)]; unfold slB; rw [nc]; exact q.1
      · rw [s3 s i b1 b2 c2]
        unfold slB mvS
        rw [nc, if_neg (show ¬ s = 0 by omega)]
        by_cases z : i = 3
        · have q1' : N (60 + 5 * (s - 1)) = 1 := q.1
          simp [z, q1']
        · simp [z]
    · intro q i c2
      rw [s3 s i b1 b2 c2]
      unfold slB
      unfold tB at q
      rw [if_neg (by omega), Bool.and_eq_false_iff, decide_eq_false_iff_not, decide_eq_false_iff_not] at q
      by_cases z : N (60 + 5 * (s - 1) + 0) = 1
      · have nc : cutB N (s - 1) = true := by unfold cutB; rw [decide_eq_true z, decide_eq_true (show psS N (N 8) ≤ s - 1 + 1 by omega)]; rfl
        rw [nc]; rfl
      · have z0 : N (60 + 5 * (s - 1) + 0) = 0 := by omega
        have nc : cutB N (s - 1) = false := by unfold cutB; rw [decide_eq_false z]; rfl
        rw [nc]
        have zz := ws.2.2.2.2.2 z0
        by_cases y : i = 3
        · have := zz 3 (by omega)
          have z0' : N (60 + 5 * (s - 1)) = 0 := z0
          simp [y, this, z0']
        · have := zz i c2
          simp [y, this]
  have t0 : M3 60 = 1 ∧ M3 61 = alS N ∧ M3 62 = 0 ∧ M3 63 = 0 ∧ M3 64 = 0 := by
    refine ⟨?_, ?_, ?_, ?_, ?_⟩ <;> (rw [v3', v2]; simp)
  by_cases q : psS N (N 8) = 0
  · rw [if_neg (nn (show nI (psS N (N 8)) = nI 0 from by rw [q]))]
    obtain ⟨M', l2, f2, f3, f4, f5, f6, f7, f8⟩ := x6_leaves (F := F) hF h d3 (a := 60) (by omega) (by omega) (by rw [show M3 (60 + 1) = alS N from t0.2.1]; exact al_lt2 N) (by rw [show M3 (60 + 2) = 0 from t0.2.2.1]; omega) (by rw [show M3 (60 + 4) = 0 from t0.2.2.2.2]; omega)
    rw [show M3 (60 + 1) = alS N from t0.2.1, show M3 (60 + 2) = 0 from t0.2.2.1, show M3 (60 + 4) = 0 from t0.2.2.2.2] at l2 f5 f6
    refine ⟨M', ⟨f2, by rw [f3, c3 9 (by omega), m9], by rw [f4, c3 12 (by omega), m12], ?_, ?_, fun s hs => ?_⟩, ?_⟩
    · rw [f5, c3 10 (by omega), m10, ogS, if_pos q, Nat.add_assoc]
    · rw [f6, c3 11 (by omega), m11, obS, if_pos q, Nat.add_assoc]
    · rcases Nat.eq_zero_or_pos s with z | z
      · subst z
        refine ⟨fun y => ?_, fun _ i hi => f7 _ (by omega) (by omega)⟩
        unfold tB at y
        rw [if_pos rfl, decide_eq_true_eq] at y
        exact absurd q y
      · have r := rest s z hs
        refine ⟨fun y => ?_, fun y i hi => by rw [f8 _ (by omega) (by omega)]; exact r.2 y i hi⟩
        have r := r.1 y
        exact ⟨by rw [f8 _ (by omega) (by omega)]; exact r.1, fun i c1 c2 => by rw [f8 _ (by omega) (by omega)]; exact r.2 i c1 c2⟩
    · rw [bd2_e l2]
      unfold ogS obS
      rw [if_pos q, if_pos q]
      cases gdS N (alS N) 0 0
      · rw [if_pos (show bI false = nI 0 from rfl), bd1_s, nI_add, nm_s, nI_add, bd3_s]
        congr 2 <;> simp <;> omega
      · rw [if_neg (show ¬ bI true = nI 0 by decide +kernel), bd1_s, nI_add, nm_s, nI_add, bd3_s]
        congr 2 <;> simp <;> omega
  · rw [if_pos (show ¬ nI (psS N (N 8)) = nI 0 from fun z => q ((nI_eq (by omega) (by omega)).mp z)), bd3_s]
    refine ⟨M3, ⟨d3, by rw [c3 9 (by omega), m9], by rw [c3 12 (by omega), m12], ?_, ?_, fun s hs => ?_⟩, ?_⟩
    · rw [c3 10 (by omega), m10, ogS, if_neg q]; rfl
    · rw [c3 11 (by omega), m11, obS, if_neg q]; rfl
    · rcases Nat.eq_zero_or_pos s with z | z
      · subst z
        refine ⟨fun _ => ⟨t0.1, fun i c1 c2 => ?_⟩, fun y => ?_⟩
        · have hi : i = 1 ∨ i = 2 ∨ i = 3 ∨ i = 4 := by omega
          unfold mvS
          rcases hi with rfl | rfl | rfl | rfl
          · exact t0.2.1
          · exact t0.2.2.1
          · exact t0.2.2.2.1
          · exact t0.2.2.2.2
        · unfold tB at y
          rw [if_pos rfl, decide_eq_false_iff_not] at y
          exact absurd q y
      · exact rest s z hs
    · unfold ogS obS
      rw [if_neg q, if_neg q]
      rfl
