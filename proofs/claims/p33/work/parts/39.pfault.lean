theorem x1_fas {F : Nat} {N : Nat → Nat} {set fac : Nat → Int32} {cel : Nat → Int64} (hF : 100 < F) (h : DW N) (c : CD N set fac cel) {s : Nat} (hs : s ≤ 8) : fX1_forceAt F (nI (N 8)) fac (nI s) = some (nI (fsS N (s + 1))) := by
  rw [eN_s s]
  exact x1_fa hF h c (by omega)
theorem x1_oas {F : Nat} {N : Nat → Nat} {set fac : Nat → Int32} {cel : Nat → Int64} (hF : 100 < F) (h : DW N) (c : CD N set fac cel) {s : Nat} (hs : s ≤ 8) : fX1_operationsAt F (nI (N 8)) fac (nI s) = some (nI (oaS N (s + 1))) := by
  rw [eN_s s]
  exact x1_oa hF h c (by omega)
theorem x6_oas {F : Nat} {N : Nat → Nat} (hF : 100 < F) (h : DW N) {s : Nat} (hs : s ≤ 8) : fX6_opsAt F (lA N) (nI s) = some (nI (oaS N (s + 1))) := by
  rw [eN_s s]
  exact x6_oa hF h (by omega)
def early (N : Nat → Nat) (o k : Nat) : Bool := decide (N (20 + 6 * o + 0) = 1 ∧ N (20 + 6 * k + 0) = 0 ∧ tcB N o k = true ∧ spN N o < spN N k + 1 + N 4)
theorem early_iff (N : Nat → Nat) (o k : Nat) : early N o k = true ↔ N (20 + 6 * o + 0) = 1 ∧ N (20 + 6 * k + 0) = 0 ∧ tcB N o k = true ∧ spN N o < spN N k + 1 + N 4 := decide_eq_true_iff
def closeB (N : Nat → Nat) (o k : Nat) : Bool := tcB N o k && decide (spN N k = spN N o)
def pfS (N : Nat → Nat) : Nat :=
  if exB (fun o => decide (spN N o = 0)) (N 8) = true then 1 else
  if exB (fun s => decide (N 3 < fsS N (s + 1))) 8 = true then 2 else
  if exB (fun o => exB (closeB N o) (N 8)) (N 8) = true then 3 else
  if exB (fun o => exB (early N o) (N 8)) (N 8) = true then 4 else 0
theorem set_s {N : Nat → Nat} {set fac : Nat → Int32} {cel : Nat → Int64} (c : CD N set fac cel) {k : Nat} (hk : k < 5) : fX1_setting set (nI k) = some (nI (N (3 + k))) := by
  rw [setting_s hk, c.1 k hk]
theorem set_0 {N : Nat → Nat} {set fac : Nat → Int32} {cel : Nat → Int64} (c : CD N set fac cel) : fX1_setting set 0 = some (nI (N 3)) := set_s (k := 0) c (by omega)
theorem set_1 {N : Nat → Nat} {set fac : Nat → Int32} {cel : Nat → Int64} (c : CD N set fac cel) : fX1_setting set 1 = some (nI (N 4)) := set_s (k := 1) c (by omega)
theorem set_2 {N : Nat → Nat} {set fac : Nat → Int32} {cel : Nat → Int64} (c : CD N set fac cel) : fX1_setting set 2 = some (nI (N 5)) := set_s (k := 2) c (by omega)
theorem set_3 {N : Nat → Nat} {set fac : Nat → Int32} {cel : Nat → Int64} (c : CD N set fac cel) : fX1_setting set 3 = some (nI (N 6)) := set_s (k := 3) c (by omega)
theorem set_4 {N : Nat → Nat} {set fac : Nat → Int32} {cel : Nat → Int64} (c : CD N set fac cel) : fX1_setting set 4 = some (nI (N 7)) := set_s (k := 4) c (by omega)
theorem mset_0 (N : Nat → Nat) : fX6_setting (lA N) 0 = some (nI (N 3)) := mset_s (k := 0) (by omega)
theorem mset_1 (N : Nat → Nat) : fX6_setting (lA N) 1 = some (nI (N 4)) := mset_s (k := 1) (by omega)
theorem x1_early {F : Nat} {N : Nat → Nat} {set fac : Nat → Int32} {cel : Nat → Int64} (hF : 100 < F) (h : DW N) (c : CD N set fac cel) {o : Nat} (ho : o < N 8) (hkind : N (20 + 6 * o + 0) = 1) : fX1_isTooEarly F (nI (N 0)) (nI (N 1)) (nI (N 8)) set fac cel (nI o) = some (if exB (early N o) (N 8) = true then nI 1 else nI 0) := by
  have h8 := h.2.2.2.1.1
  unfold fX1_isTooEarly
  rw [bd1_e (x1_tc hF h c ho)]
  have t64 := tc_lt h o
  have hb : ∀ k, k < N 8 → fX1_isTooEarly_l8 (nI (N 8)) set fac (nI o) (nI (tcS N o)) (nI k) = if early N o k = true then some (.inr (.inl ())) else some (.inl (nI (k + 1))) := by
    intro k hk
    unfold fX1_isTooEarly_l8
    have q := h.2.2.2.2 k hk
    have b1 := spN_le N o
    have b2 := spN_le N k
    have g3 : N 4 ≤ 3 := h.2.2.1.2.2.1
    rw [uc1_s, if_neg (nI_ge hk (by omega)), bd1_e (isInN (by omega) (by omega)), tc_tb, decide_eq_true hk, Bool.true_and]
    by_cases q1 : tcB N o k = true
    · rw [if_pos q1, if_neg (show ¬ nI 1 = 0 by decide +kernel), bd1_e (fac_k h c hk)]
      by_cases q2 : N (20 + 6 * k + 0) = 0
      · rw [if_neg (nn (show nI (N (20 + 6 * k + 0)) = 0 from by rw [q2]; rfl)), bd1_s, if_neg (show ¬ (1 : Int32) = 0 by decide +kernel), bd1_e (fac_st h c ho), bd1_e (fac_st h c hk), bd1_e (set_1 c), eN_up, nI_add, eN_s]
        by_cases q3 : spN N o < spN N k + 1 + N 4
        · rw [if_neg (fun z => absurd ((eN_le (by omega) (by omega)).mp z) (by omega)), if_pos ((early_iff N o k).mpr ⟨hkind, q2, q1, q3⟩)]
        · rw [if_pos ((eN_le (by omega) (by omega)).mpr (by omega)), if_neg (fun z => q3 ((early_iff N o k).mp z).2.2.2), il_1, nI_add]
      · rw [if_pos (show ¬ nI (N (20 + 6 * k + 0)) = 0 from nI_ne0 (by omega) (by omega)), bd1_s, if_pos rfl, if_neg (fun z => q2 ((early_iff N o k).mp z).2.1), il_1, nI_add]
    · rw [if_neg q1, if_pos (show nI 0 = 0 from rfl), bd1_s, if_pos rfl, if_neg (fun z => q1 ((early_iff N o k).mp z).2.2.1), il_1, nI_add]
  refine (bdS2_if (a := ()) (b := ()) (lp_find (F := F) (early N o) (N 8) (fun k hk q => ?_) (fun k hk q => ?_) ?_ (by omega))).trans (by split <;> rfl)
  · rw [hb k hk, if_neg (by rw [q]; simp)]
  · rw [hb k hk, if_pos q]
  · unfold fX1_isTooEarly_l8
    rw [uc1_s, if_pos (nI_le (Nat.le_refl _) (by omega))]
theorem meet0 {A B : Nat} : A &&& B = 0 ↔ ¬ ∃ i, A.testBit i = true ∧ B.testBit i = true := by
  rw [← meet]
  constructor
  · exact fun h z => z h
  · intro h
    rcases Nat.eq_zero_or_pos (A &&& B) with e | e
    · exact e
    · exact absurd (show A &&& B ≠ 0 by omega) h
theorem nI_z {x : Nat} (h : x < 2 ^ 31) : nI x = 0 ↔ x = 0 := nI_eq (b := 0) h (by omega)
theorem orb_z (c : Nat → Bool) (n : Nat) : orS (fun k => if c k = true then 2 ^ k else 0) n = 0 ↔ ¬ exB c n = true := by
  rw [exB_iff]
  constructor
  · rintro h ⟨k, h1, h2⟩
    have := orb_tb c n k
    rw [h, h2, decide_eq_true h1] at this
    simp at this
  · intro h
    apply Nat.eq_of_testBit_eq
    intro i
    rw [orb_tb, Nat.zero_testBit, Bool.and_eq_false_iff]
    by_cases q : i < n
    · right
      rw [Bool.eq_false_iff]
      exact fun z => h ⟨i, q, z⟩
    · left; exact decide_eq_false q
theorem oa_z {N : Nat → Nat} (h : DW N) : nI (oaS N 0) = 0 ↔ ¬ exB (fun o => decide (spN N o = 0)) (N 8) = true := by
  have ol := oa_lt h 0
  rw [nI_z (by omega)]
  exact orb_z _ _
theorem x1_pf {F : Nat} {N : Nat → Nat} {set fac : Nat → Int32} {cel : Nat → Int64} (hF : 100 < F) (h : DW N) (c : CD N set fac cel) : fX1_faultOfPlan F (nI (N 0)) (nI (N 1)) (nI (N 8)) set fac cel = some (nI (pfS N)) := by
  have h8 := h.2.2.2.1.1
  unfold fX1_faultOfPlan pfS
  rw [eN_0, bd1_e (x1_oa hF h c (by omega))]
  have ol := oa_lt h 0
  by_cases q1 : exB (fun o => decide (spN N o = 0)) (N 8) = true
  · rw [if_pos q1, if_neg (fun z => (oa_z h).mp z q1)]; rfl
  rw [if_neg q1, if_pos ((oa_z h).mpr q1)]
  have L1 : lp (fX1_faultOfPlan_l12 F (nI (N 8)) set fac) F 0 = some (if exB (fun s => decide (N 3 < fsS N (s + 1))) 8 = true then .inl () else .inr ()) := by
    refine lp_find (F := F) (fun s => decide (N 3 < fsS N (s + 1))) 8 (fun s hs q => ?_) (fun s hs q => ?_) ?_ (by omega)
    all_goals unfold fX1_faultOfPlan_l12
    · have f1 := fs_le h (s + 1)
      have g3 : N 3 ≤ 999 := h.2.2.1.2.1
      have q := of_decide_eq_false q
      rw [uc1_s, il_8, if_neg (nI_ge hs (by omega)), bd1_e (x1_fas hF h c (by omega)), bd1_e (set_0 c), if_pos (nI_le (by omega) (by omega)), il_1, nI_add]
    · have f1 := fs_le h (s + 1)
      have g3 : N 3 ≤ 999 := h.2.2.1.2.1
      have q := of_decide_eq_true q
      rw [uc1_s, il_8, if_neg (nI_ge hs (by omega)), bd1_e (x1_fas hF h c (by omega)), bd1_e (set_0 c), if_neg (nI_ge (by omega) (by omega))]
    · rw [uc1_s, il_8, if_pos (nI_le (Nat.le_refl _) (by omega))]
  refine (bdS2_if L1).trans ?_
  by_cases q2 : exB (fun s => decide (N 3 < fsS N (s + 1))) 8 = true
  · rw [if_pos q2, if_pos q2]; rfl
  rw [if_neg q2, if_neg q2, uc0_s]
  have L2 : lp (fX1_faultOfPlan_l41 F (nI (N 0)) (nI (N 1)) (nI (N 8)) fac cel) F 0 = some (if exB (fun o => exB (closeB N o) (N 8)) (N 8) = true then .inl () else .inr ()) := by
    have key : ∀ o, o < N 8 → ((nI (tcS N o) &&& nI (oaS N (spN N o)) = 0) ↔ ¬ exB (closeB N o) (N 8) = true) := fun o ho => by
      have t64 := tc_lt h o
      rw [fa_and, nI_z (Nat.lt_of_le_of_lt Nat.and_le_left (by omega)), meet0, exB_iff]
      apply not_congr
      constructor
      · rintro ⟨i, a1, a2⟩
        rw [tc_tb, Bool.and_eq_true, decide_eq_true_eq] at a1
        rw [oaS, orb_tb, Bool.and_eq_true] at a2
        exact ⟨i, a1.1, by rw [closeB, a1.2, a2.2]; rfl⟩
      · rintro ⟨i, a1, a2⟩
        rw [closeB, Bool.and_eq_true] at a2
        exact ⟨i, by rw [tc_tb, a2.1, decide_eq_true a1]; rfl, by rw [oaS, orb_tb, a2.2, decide_eq_true a1]; rfl⟩
    refine lp_find (F := F) (fun o => exB (closeB N o) (N 8)) (N 8) (fun o ho q => ?_) (fun o ho q => ?_) ?_ (by omega)
    all_goals unfold fX1_faultOfPlan_l41
    · have := spN_le N o
      rw [uc1_s, if_neg (nI_ge ho (by omega)), bd1_e (x1_tc hF h c ho), bd1_e (fac_st h c ho), bd1_e (x1_oa hF h c (by omega)), if_pos ((key o ho).mpr (by rw [q]; simp)), il_1, nI_add]
    · have := spN_le N o
      rw [uc1_s, if_neg (nI_ge ho (by omega)), bd1_e (x1_tc hF h c ho), bd1_e (fac_st h c ho), bd1_e (x1_oa hF h c (by omega)), if_neg (fun z => (key o ho).mp z q)]
    · rw [uc1_s, if_pos (nI_le (Nat.le_refl _) (by omega))]
  refine (bdS2_if L2).trans ?_
  by_cases q3 : exB (fun o => exB (closeB N o) (N 8)) (N 8) = true
  · rw [if_pos q3, if_pos q3]; rfl
  rw [if_neg q3, if_neg q3, uc0_s]
  have L3 : lp (fX1_faultOfPlan_l79 F (nI (N 0)) (nI (N 1)) (nI (N 8)) set fac cel) F 0 = some (if exB (fun o => exB (early N o) (N 8)) (N 8) = true then .inl () else .inr ()) := by
    have nok : ∀ o, o < N 8 → ¬ N (20 + 6 * o + 0) = 1 → exB (early N o) (N 8) = false := fun o ho q => by
      rw [Bool.eq_false_iff]
      intro z
      obtain ⟨k, _, z⟩ := (exB_iff _ _).mp z
      exact q ((early_iff N o k).mp z).1
    refine lp_find (F := F) (fun o => exB (early N o) (N 8)) (N 8) (fun o ho q => ?_) (fun o ho q => ?_) ?_ (by omega)
    all_goals unfold fX1_faultOfPlan_l79
    · have hq := h.2.2.2.2 o ho
      rw [uc1_s, if_neg (nI_ge ho (by omega)), bd1_e (fac_k h c ho), il_1, nI_add]
      by_cases k1 : N (20 + 6 * o + 0) = 1
      · rw [if_neg (nn (show nI (N (20 + 6 * o + 0)) = nI 1 from by rw [k1])), bd1_e (x1_early hF h c ho k1), if_pos (show (if exB (early N o) (N 8) = true then nI 1 else nI 0) = 0 from by rw [if_neg (by rw [q]; simp)]; rfl)]
      · rw [if_pos (show ¬ nI (N (20 + 6 * o + 0)) = nI 1 from fun z => k1 ((nI_eq (by omega) (by omega)).mp z))]
    · have hq := h.2.2.2.2 o ho
      have k1 : N (20 + 6 * o + 0) = 1 := by
        by_cases k1 : N (20 + 6 * o + 0) = 1
        · exact k1
        · rw [nok o ho k1] at q; cases q
      rw [uc1_s, if_neg (nI_ge ho (by omega)), bd1_e (fac_k h c ho), il_1, if_neg (nn (show nI (N (20 + 6 * o + 0)) = nI 1 from by rw [k1])), bd1_e (x1_early hF h c ho k1), if_neg (show ¬ (if exB (early N o) (N 8) = true then nI 1 else nI 0) = 0 from by rw [if_pos q]; decide +kernel)]
    · rw [uc1_s, if_pos (nI_le (Nat.le_refl _) (by omega))]
  refine (bdS2_if L3).trans ?_
  split <;> rfl
