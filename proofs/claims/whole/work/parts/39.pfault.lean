def early (N : Nat → Nat) (o k : Nat) : Bool := decide (N (20 + 6 * o + 0) = 1) && decide (N (20 + 6 * k + 0) = 0) && tcB N o k && decide (spN N o < spN N k + 1 + N 4)
def pfS (N : Nat → Nat) : Nat :=
  if exB (fun o => decide (spN N o = 0)) (N 8) = true then 1 else
  if exB (fun s => decide (N 3 < fsS N (s + 1))) 8 = true then 2 else
  if exB (fun o => exB (fun k => tcB N o k && decide (spN N k = spN N o)) (N 8)) (N 8) = true then 3 else
  if exB (fun o => exB (fun k => early N o k) (N 8)) (N 8) = true then 4 else 0
theorem set_s {N : Nat → Nat} {set fac : Nat → Int32} {cel : Nat → Int64} (c : CD N set fac cel) {k : Nat} (hk : k < 5) : fX1_setting set (nI k) = some (nI (N (3 + k))) := by
  rw [setting_s hk, c.1 k hk]
theorem x1_early {F : Nat} {N : Nat → Nat} {set fac : Nat → Int32} {cel : Nat → Int64} (hF : 100 < F) (h : DW N) (c : CD N set fac cel) {o : Nat} (ho : o < N 8) (hk : N (20 + 6 * o + 0) = 1) : fX1_isTooEarly F (nI (N 0)) (nI (N 1)) (nI (N 8)) set fac cel (nI o) = some (if exB (fun k => early N o k) (N 8) = true then nI 1 else nI 0) := by
  have h8 := h.2.2.2.1.1
  unfold fX1_isTooEarly
  rw [bd1_e (x1_tc hF h c ho)]
  have t64 := tc_lt h o
  have hb : ∀ k, k < N 8 → ∀ (X Y : Option (Int32 ⊕ (Unit ⊕ Unit))), fX1_isTooEarly_l8 (nI (N 8)) set fac (nI o) (nI (tcS N o)) (nI k) = if early N o k = true then some (.inr (.inl ())) else some (.inl (nI (k + 1))) := by
    intro k hk X Y
    unfold fX1_isTooEarly_l8
    have q := h.2.2.2.2 k hk
    have b1 := spN_le N o
    have b2 := spN_le N k
    have g3 : N 4 ≤ 3 := h.2.2.1.2.2.1
    rw [uc1_s, if_neg (nI_ge hk (by omega)), bd1_e (isInN (by omega) (by omega)), tc_tb, decide_eq_true hk, Bool.true_and]
    by_cases q1 : tcB N o k = true
    · rw [if_pos q1, if_neg (show ¬ nI 1 = 0 by decide +kernel), bd1_e (fac_k h c hk)]
      by_cases q2 : N (20 + 6 * k + 0) = 0
      · rw [if_neg (nn (show nI (N (20 + 6 * k + 0)) = 0 from by rw [q2]; rfl)), bd1_s, if_neg (show ¬ (1 : Int32) = 0 by decide +kernel), bd1_e (fac_st h c ho), bd1_e (fac_st h c hk), il_1, bd1_e (set_s (k := 1) c (by omega)), show eN (spN N k) + nI 1 = nI (spN N k) from eN_up _, nI_add, eN_s]
        by_cases q3 : spN N o < spN N k + 1 + N 4
        · rw [if_neg (fun z => absurd ((eN_le (by omega) (by omega)).mp z) (by have : N (3 + 1) = N 4 := rfl; omega)), if_pos (by simp [early, hk, q1, q2, q3]; exact ‹_›)]
        · rw [if_pos ((eN_le (by omega) (by omega)).mpr (by have : N (3 + 1) = N 4 := rfl; omega)), if_neg (by simp [early, q3]), nI_add]
      · rw [if_pos (show ¬ nI (N (20 + 6 * k + 0)) = 0 from nI_ne0 (by omega) (by omega)), bd1_s, if_pos rfl, if_neg (by simp [early, q2]), il_1, nI_add]
    · rw [if_neg q1, if_pos rfl, bd1_s, if_pos rfl, if_neg (by simp [early, q1]), il_1, nI_add]
  refine (bdS2_if (lp_find (F := F) (fun k => early N o k) (N 8) (fun k hk q => ?_) (fun k hk q => ?_) ?_ (by omega))).trans rfl
  · rw [hb k hk none none, if_neg (by rw [q]; simp)]
  · rw [hb k hk none none, if_pos q]
  · unfold fX1_isTooEarly_l8
    rw [uc1_s, if_pos (nI_le (Nat.le_refl _) (by omega))]
