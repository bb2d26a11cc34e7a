theorem m_early {N : Nat → Nat} (h : DW N) {o k : Nat} (ho : o < N 8) (hk : k < N 8) {p q : Nat} (hp : p ≤ 9) (hq : q ≤ 9) : fX6_isEarly (lA N) (nI o) (eN p) (nI k) (eN q) = some (if N (20 + 6 * o + 0) ≠ N (20 + 6 * k + 0) ∧ (if N (20 + 6 * o + 0) = 1 then p < q + 1 + N 4 else q < p + 1 + N 4) then nI 1 else nI 0) := by
  have h8 := h.2.2.2.1.1
  have r1 := h.2.2.2.2 o ho
  have r2 := h.2.2.2.2 k hk
  have g3 : N 4 ≤ 3 := h.2.2.1.2.2.1
  unfold fX6_isEarly
  rw [bd1_e (m_k h ho), bd1_e (m_k h hk)]
  by_cases q1 : N (20 + 6 * o + 0) = N (20 + 6 * k + 0)
  · rw [if_neg (nn ((nI_eq (by omega) (by omega)).mpr q1)), if_neg (fun z => z.1 q1)]; rfl
  rw [if_pos (show ¬ nI (N (20 + 6 * o + 0)) = nI (N (20 + 6 * k + 0)) from fun z => q1 ((nI_eq (by omega) (by omega)).mp z)), bd1_e (m_k h ho)]
  have e : ∀ a b : Nat, a ≤ 9 → b ≤ 9 → ((nI 1 + nI (N 4) ≤ eN a - eN b) ↔ b + 1 + N 4 ≤ a) := fun a b ha hb => by
    have i1 := eN_int (p := a) (by omega)
    have i2 := eN_int (p := b) (by omega)
    rw [fa_le, nI_add, nI_toInt (by omega), fb_subI (by omega) (by omega)]
    omega
  by_cases q2 : N (20 + 6 * o + 0) = 1
  · rw [il_1, if_neg (nn (show nI (N (20 + 6 * o + 0)) = nI 1 from by rw [q2])), bd1_s, ← il_1, bd1_e (mset_1 N), il_1]
    by_cases q3 : p < q + 1 + N 4
    · rw [if_neg (fun z => absurd ((e p q hp hq).mp z) (by omega)), if_pos ⟨q1, by rw [if_pos q2]; exact q3⟩]
    · rw [if_pos ((e p q hp hq).mpr (by omega)), if_neg (fun z => q3 (by have z := z.2; rw [if_pos q2] at z; exact z))]; rfl
  · rw [il_1, if_pos (show ¬ nI (N (20 + 6 * o + 0)) = nI 1 from fun z => q2 ((nI_eq (by omega) (by omega)).mp z)), bd1_s, ← il_1, bd1_e (mset_1 N), il_1]
    by_cases q3 : q < p + 1 + N 4
    · rw [if_neg (fun z => absurd ((e q p hq hp).mp z) (by omega)), if_pos ⟨q1, by rw [if_neg q2]; exact q3⟩]
    · rw [if_pos ((e q p hq hp).mpr (by omega)), if_neg (fun z => q3 (by have z := z.2; rw [if_neg q2] at z; exact z))]; rfl
def earlyM (N : Nat → Nat) (o k : Nat) : Bool := tcB N o k && decide (N (20 + 6 * o + 0) ≠ N (20 + 6 * k + 0) ∧ (if N (20 + 6 * o + 0) = 1 then spN N o < spN N k + 1 + N 4 else spN N k < spN N o + 1 + N 4))
def bI (b : Bool) : Int32 := if b = true then nI 1 else nI 0
theorem bI_0 (b : Bool) : bI b = 0 ↔ b = false := by cases b <;> decide +kernel
theorem bI_or {b c : Bool} {ρ : Type} {K : Int32 → Option ρ} : bd1 (if ¬ bI b = 0 then some (1 : Int32) else (if c = true then some (1 : Int32) else some (0 : Int32))) K = K (bI (b || c)) := by cases b <;> cases c <;> rfl
theorem pf_inner {F : Nat} {N : Nat → Nat} (hF : 100 < F) (h : DW N) {o : Nat} (ho : o < N 8) (a b : Bool) : lp (fX6_faultOfPlan_l93 (lA N) (nI o) (eN (spN N o)) (nI (tcS N o))) F (bI a, bI b, nI 0) = some (bI (a || exB (closeB N o) (N 8)), bI (b || exB (earlyM N o) (N 8))) := by
  have h8 := h.2.2.2.1.1
  have t64 := tc_lt h o
  refine lp_seqE (S := fun j => (bI (a || exB (closeB N o) j), bI (b || exB (earlyM N o) j), nI j)) (by simp [exB]) (n := N 8) (a := (bI (a || exB (closeB N o) (N 8)), bI (b || exB (earlyM N o) (N 8)))) (F := F) (fun k hk => ?_) ?_ (by omega)
  · show fX6_faultOfPlan_l93 (lA N) (nI o) (eN (spN N o)) (nI (tcS N o)) (bI (a || exB (closeB N o) k), bI (b || exB (earlyM N o) k), nI k) = some (.inl (bI (a || (exB (closeB N o) k || closeB N o k)), bI (b || (exB (earlyM N o) k || earlyM N o k)), nI (k + 1)))
    unfold fX6_faultOfPlan_l93
    have b1 := spN_le N o
    have b2 := spN_le N k
    rw [uc3_s, bd1_e (many_8 N), if_neg (nI_ge hk (by omega)), sh1 (by omega), tc_tb, decide_eq_true hk, Bool.true_and]
    rw [← Bool.or_assoc, ← Bool.or_assoc]
    generalize (a || exB (closeB N o) k) = A
    generalize (b || exB (earlyM N o) k) = B
    unfold closeB earlyM
    by_cases q1 : tcB N o k = true
    · rw [if_pos q1, il_1, if_neg (nn rfl), bd1_s, q1, Bool.true_and, Bool.true_and, if_neg (show ¬ nI 1 = 0 by decide +kernel), bd1_e (m_st h hk), if_neg (show ¬ nI 1 = 0 by decide +kernel), bd1_e (m_st h hk), bd1_e (m_early h ho hk (by omega) (by omega))]
      have e1 : (if ¬ eN (spN N k) = eN (spN N o) then some (0 : Int32) else some (nI 1)) = if decide (spN N k = spN N o) = true then some (1 : Int32) else some (0 : Int32) := by
        by_cases z : spN N k = spN N o
        · rw [if_neg (nn ((eN_eq (by omega) (by omega)).mpr z)), if_pos (decide_eq_true z)]; rfl
        · rw [if_pos (show ¬ eN (spN N k) = eN (spN N o) from fun y => z ((eN_eq (by omega) (by omega)).mp y)), if_neg (fun y => z (of_decide_eq_true y))]
      have e2 : (if (if N (20 + 6 * o + 0) ≠ N (20 + 6 * k + 0) ∧ (if N (20 + 6 * o + 0) = 1 then spN N o < spN N k + 1 + N 4 else spN N k < spN N o + 1 + N 4) then nI 1 else nI 0) = 0 then some (0 : Int32) else some (nI 1)) = if decide (N (20 + 6 * o + 0) ≠ N (20 + 6 * k + 0) ∧ (if N (20 + 6 * o + 0) = 1 then spN N o < spN N k + 1 + N 4 else spN N k < spN N o + 1 + N 4)) = true then some (1 : Int32) else some (0 : Int32) := by
        by_cases z : N (20 + 6 * o + 0) ≠ N (20 + 6 * k + 0) ∧ (if N (20 + 6 * o + 0) = 1 then spN N o < spN N k + 1 + N 4 else spN N k < spN N o + 1 + N 4)
        · rw [if_pos z, if_neg (show ¬ nI 1 = 0 by decide +kernel), if_pos (decide_eq_true z)]; rfl
        · rw [if_neg z, if_pos (show nI 0 = 0 from rfl), if_neg (fun y => z (of_decide_eq_true y))]
      rw [e1, e2]
      refine bI_or.trans ?_
      refine bI_or.trans ?_
      rw [nI_add]
    · rw [if_neg q1, if_pos (show ¬ nI 0 = 1 by decide +kernel), bd1_s, if_pos rfl, if_pos rfl, Bool.eq_false_iff.mpr q1, Bool.false_and, Bool.false_and]
      refine (bI_or (c := false)).trans ?_
      refine (bI_or (c := false)).trans ?_
      rw [il_1, nI_add]
  · show fX6_faultOfPlan_l93 (lA N) (nI o) (eN (spN N o)) (nI (tcS N o)) (bI (a || exB (closeB N o) (N 8)), bI (b || exB (earlyM N o) (N 8)), nI (N 8)) = _
    unfold fX6_faultOfPlan_l93
    rw [uc3_s, bd1_e (many_8 N), if_pos (nI_le (Nat.le_refl _) (by omega))]
def heavyM (N : Nat → Nat) (o : Nat) : Bool := decide (spN N o ≠ 0) && decide (N 3 < fsS N (spN N o))
def lackB (N : Nat → Nat) (o : Nat) : Bool := decide (spN N o = 0)
theorem x6_pf0 {F : Nat} {N : Nat → Nat} (hF : 100 < F) (h : DW N) : fX6_faultOfPlan F (lA N) = some (nI (if exB (lackB N) (N 8) = true then 1 else if exB (heavyM N) (N 8) = true then 2 else if exB (fun o => exB (closeB N o) (N 8)) (N 8) = true then 3 else if exB (fun o => exB (earlyM N o) (N 8)) (N 8) = true then 4 else 0)) := by
  have h8 := h.2.2.2.1.1
  unfold fX6_faultOfPlan
  have L := lp_seqE (body := fX6_faultOfPlan_l12 F (lA N)) (S := fun j => (bI (exB (lackB N) j), bI (exB (heavyM N) j), bI (exB (fun o => exB (closeB N o) (N 8)) j), bI (exB (fun o => exB (earlyM N o) (N 8)) j), nI j)) (x0 := (nI 0, nI 0, nI 0, nI 0, nI 0)) rfl (n := N 8) (a := (bI (exB (lackB N) (N 8)), bI (exB (heavyM N) (N 8)), bI (exB (fun o => exB (closeB N o) (N 8)) (N 8)), bI (exB (fun o => exB (earlyM N o) (N 8)) (N 8)))) (F := F) (fun o ho => by
      show fX6_faultOfPlan_l12 F (lA N) (bI (exB (lackB N) o), bI (exB (heavyM N) o), bI (exB (fun o => exB (closeB N o) (N 8)) o), bI (exB (fun o => exB (earlyM N o) (N 8)) o), nI o) = some (.inl (bI (exB (lackB N) o || lackB N o), bI (exB (heavyM N) o || heavyM N o), bI (exB (fun o => exB (closeB N o) (N 8)) o || exB (closeB N o) (N 8)), bI (exB (fun o => exB (earlyM N o) (N 8)) o || exB (earlyM N o) (N 8)), nI (o + 1)))
      unfold fX6_faultOfPlan_l12
      have b1 := spN_le N o
      have f1 := fs_le h (spN N o)
      have g3 : N 3 ≤ 999 := h.2.2.1.2.1
      rw [uc5_s, bd1_e (many_8 N), if_neg (nI_ge ho (by omega)), bd1_e (m_st h ho), bd1_e (x6_tc hF h ho)]
      generalize exB (lackB N) o = A
      generalize exB (heavyM N) o = B
      have e1 : (if ¬ eN (spN N o) = -1 then some (0 : Int32) else some (1 : Int32)) = if lackB N o = true then some (1 : Int32) else some (0 : Int32) := by
        unfold lackB
        rw [eN_0]
        by_cases z : spN N o = 0
        · rw [if_neg (nn ((eN_eq (by omega) (by omega)).mpr z)), if_pos (decide_eq_true z)]
        · rw [if_pos (show ¬ eN (spN N o) = eN 0 from fun y => z ((eN_eq (by omega) (by omega)).mp y)), if_neg (fun y => z (of_decide_eq_true y))]
      have e2 : (if eN (spN N o) = -1 then some (0 : Int32) else bd1 (fX6_opsAt F (lA N) (eN (spN N o))) fun r15 => bd1 (fX6_forces F (lA N) r15) fun r16 => bd1 (fX6_setting (lA N) 0) fun r17 => if r16 ≤ r17 then some (0 : Int32) else some (1 : Int32)) = if heavyM N o = true then some (1 : Int32) else some (0 : Int32) := by
        unfold heavyM
        rw [eN_0]
        by_cases z : spN N o = 0
        · rw [if_pos ((eN_eq (by omega) (by omega)).mpr z), if_neg (by rw [z]; simp)]
        · rw [if_neg (fun y => z ((eN_eq (by omega) (by omega)).mp y)), bd1_e (x6_oa hF h (by omega)), bd1_e (x6_fs hF h), bd1_e (mset_0 N), decide_eq_true (show spN N o ≠ 0 from z), Bool.true_and]
          by_cases y : N 3 < fsS N (spN N o)
          · rw [if_neg (nI_ge y (by omega)), if_pos (decide_eq_true y)]
          · rw [if_pos (nI_le (by omega) (by omega)), if_neg (fun x => y (of_decide_eq_true x))]
      rw [e1, e2]
      refine bI_or.trans ?_
      refine bI_or.trans ?_
      rw [il_0, bd2_e (pf_inner hF h ho _ _), il_1, nI_add]) (by
      show fX6_faultOfPlan_l12 F (lA N) (bI (exB (lackB N) (N 8)), bI (exB (heavyM N) (N 8)), bI (exB (fun o => exB (closeB N o) (N 8)) (N 8)), bI (exB (fun o => exB (earlyM N o) (N 8)) (N 8)), nI (N 8)) = _
      unfold fX6_faultOfPlan_l12
      rw [uc5_s, bd1_e (many_8 N), if_pos (nI_le (Nat.le_refl _) (by omega))]) (by omega)
  refine (bd4_e L).trans ?_
  cases exB (lackB N) (N 8) <;> cases exB (heavyM N) (N 8) <;> cases exB (fun o => exB (closeB N o) (N 8)) (N 8) <;> cases exB (fun o => exB (earlyM N o) (N 8)) (N 8) <;> rfl
theorem x6_pf {F : Nat} {N : Nat → Nat} (hF : 100 < F) (h : DW N) : fX6_faultOfPlan F (lA N) = some (nI (pfS N)) := by
  rw [x6_pf0 hF h]
  have h8 := h.2.2.2.1.1
  congr 2
  unfold pfS
  show (if exB (lackB N) (N 8) = true then 1 else _) = if exB (lackB N) (N 8) = true then 1 else _
  by_cases q1 : exB (lackB N) (N 8) = true
  · rw [if_pos q1, if_pos q1]
  rw [if_neg q1, if_neg q1]
  have hl : ∀ o, o < N 8 → spN N o ≠ 0 := fun o ho z => q1 ((exB_iff _ _).mpr ⟨o, ho, decide_eq_true z⟩)
  have e2 : exB (heavyM N) (N 8) = exB (fun s => decide (N 3 < fsS N (s + 1))) 8 := by
    rw [Bool.eq_iff_iff, exB_iff, exB_iff]
    constructor
    · rintro ⟨o, ho, z⟩
      unfold heavyM at z
      rw [Bool.and_eq_true, decide_eq_true_eq, decide_eq_true_eq] at z
      have := spN_le N o
      exact ⟨spN N o - 1, by omega, decide_eq_true (by rw [show spN N o - 1 + 1 = spN N o by omega]; exact z.2)⟩
    · rintro ⟨s, hs, z⟩
      have z := of_decide_eq_true z
      by_cases hx : ∃ o, o < N 8 ∧ spN N o = s + 1
      · obtain ⟨o, ho, e⟩ := hx
        refine ⟨o, ho, ?_⟩
        unfold heavyM
        rw [e, Bool.and_eq_true, decide_eq_true_eq, decide_eq_true_eq]
        exact ⟨by omega, z⟩
      · exfalso
        have : fsS N (s + 1) = 0 := by
          have e0 : fsS N (s + 1) = fb_sm (fun _ => 0) (N 8) := fb_sm_cong (fun k hk => if_neg (fun y => hx ⟨k, hk, y⟩))
          rw [e0, fb_sm_const]; rfl
        omega
  rw [e2]
  split
  · rfl
  split
  · rfl
  have e4 : exB (fun o => exB (earlyM N o) (N 8)) (N 8) = exB (fun o => exB (early N o) (N 8)) (N 8) := by
    rw [Bool.eq_iff_iff, exB_iff, exB_iff]
    constructor
    · rintro ⟨o, ho, z⟩
      obtain ⟨k, hk, z⟩ := (exB_iff _ _).mp z
      unfold earlyM at z
      rw [Bool.and_eq_true, decide_eq_true_eq] at z
      obtain ⟨t, z1, z2⟩ := z
      have r1 := (h.2.2.2.2 o ho).1
      have r2 := (h.2.2.2.2 k hk).1
      by_cases y : N (20 + 6 * o + 0) = 1
      · rw [if_pos y] at z2
        exact ⟨o, ho, (exB_iff _ _).mpr ⟨k, hk, (early_iff N o k).mpr ⟨y, by omega, t, z2⟩⟩⟩
      · rw [if_neg y] at z2
        exact ⟨k, hk, (exB_iff _ _).mpr ⟨o, ho, (early_iff N k o).mpr ⟨by omega, by omega, by rw [tcB_sym h hk ho]; exact t, z2⟩⟩⟩
    · rintro ⟨o, ho, z⟩
      obtain ⟨k, hk, z⟩ := (exB_iff _ _).mp z
      obtain ⟨z1, z2, t, z3⟩ := (early_iff N o k).mp z
      refine ⟨o, ho, (exB_iff _ _).mpr ⟨k, hk, ?_⟩⟩
      unfold earlyM
      rw [Bool.and_eq_true, decide_eq_true_eq, if_pos z1]
      exact ⟨t, by omega, z3⟩
  rw [e4]
