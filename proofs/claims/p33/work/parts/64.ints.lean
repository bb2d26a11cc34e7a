theorem lt_i {a : Int32} {k : Nat} (hk : k < 2 ^ 31) : a < nI k ↔ a.toInt < (k : Int) := by rw [fa_lt, nI_toInt hk]
theorem gt_i {a : Int32} {k : Nat} (hk : k < 2 ^ 31) : nI k < a ↔ (k : Int) < a.toInt := by rw [fa_lt, nI_toInt hk]
theorem ge_i {a : Int32} {k : Nat} (hk : k < 2 ^ 31) : nI k ≤ a ↔ (k : Int) ≤ a.toInt := by rw [fa_le, nI_toInt hk]
theorem i_nat {a : Int32} (h : 0 ≤ a.toInt) : ∃ k, k < 2 ^ 31 ∧ a = nI k := by
  have h2 := Int32.toInt_lt a
  refine ⟨a.toInt.toNat, by omega, ?_⟩
  rw [fa_eq, nI_toInt (by omega)]
  omega
theorem in_yi {a : Int32} {b c : Nat} (hb : b < 2 ^ 31) (hc : c < 2 ^ 31) (h : (b : Int) ≤ a.toInt ∧ a.toInt ≤ (c : Int)) : fX6_in a (nI b) (nI c) = some (nI 1) := by
  unfold fX6_in
  rw [if_neg (fun z => by have := (lt_i hb).mp z; omega), if_neg (fun z => by have := (gt_i hc).mp z; omega)]
  rfl
theorem x6_begin_no {F : Nat} {m s : Nat → Int64} {st q a b : Int32} (h : ¬ (2 ≤ a.toInt ∧ a.toInt ≤ 10 ∧ 2 ≤ b.toInt ∧ b.toInt ≤ 6)) : fX6_begin F m s st q a b = some (0, m, s, st, 1) := by
  unfold fX6_begin
  by_cases q1 : (2 : Int) ≤ a.toInt ∧ a.toInt ≤ 10
  · rw [bd1_e (show fX6_in a 2 10 = some (nI 1) from in_yi (b := 2) (c := 10) (by omega) (by omega) q1), if_neg (show ¬ nI 1 = 0 by decide +kernel), bd1_e (show fX6_in b 2 6 = some (nI 0) from in_no (b := 2) (c := 6) (by omega) (by omega) (by omega)), if_neg (nn (show nI 0 = 0 from rfl))]
    rfl
  · rw [bd1_e (show fX6_in a 2 10 = some (nI 0) from in_no (b := 2) (c := 10) (by omega) (by omega) q1), if_pos (show nI 0 = 0 from rfl)]
    rfl
/-- a rectangle that fits, of ints -/
def RcI (C R : Nat) (x y w g : Int) : Prop := 1 ≤ w ∧ 1 ≤ g ∧ 0 ≤ x ∧ 0 ≤ y ∧ x + w ≤ (C : Int) ∧ y + g ≤ (R : Int)
theorem x6_isrec_no {N : Nat → Nat} (d : DW N) {x y w g : Int32} (h : ¬ RcI (N 0) (N 1) x.toInt y.toInt w.toInt g.toInt) : fX6_isRectangle (lA N) x y w g = some (nI 0) := by
  obtain ⟨⟨h1, h2, h3, h4, h5⟩, -⟩ := d
  unfold RcI at h
  unfold fX6_isRectangle
  rw [bd1_e (show fX6_many (lA N) 0 = some (nI (N 0)) from many_s (k := 0) (by omega)), il_1, pk_sub (by omega)]
  by_cases q1 : (0 : Int) ≤ x.toInt ∧ x.toInt ≤ ((N 0 - 1 : Nat) : Int)
  · obtain ⟨x', hx, rfl⟩ := i_nat q1.1
    rw [nI_toInt hx] at q1 h
    rw [bd1_e (show fX6_in (nI x') 0 (nI (N 0 - 1)) = some (nI 1) from in_y (b := 0) (by omega) (by omega) (by omega)), if_neg (show ¬ nI 1 = 0 by decide +kernel), bd1_e (show fX6_many (lA N) (nI 1) = some (nI (N 1)) from many_s (k := 1) (by omega)), pk_sub (by omega)]
    by_cases q2 : (0 : Int) ≤ y.toInt ∧ y.toInt ≤ ((N 1 - 1 : Nat) : Int)
    · obtain ⟨y', hy, rfl⟩ := i_nat q2.1
      rw [nI_toInt hy] at q2 h
      rw [bd1_e (show fX6_in (nI y') 0 (nI (N 1 - 1)) = some (nI 1) from in_y (b := 0) (by omega) (by omega) (by omega)), if_neg (show ¬ nI 1 = 0 by decide +kernel), bd1_e (show fX6_many (lA N) 0 = some (nI (N 0)) from many_s (k := 0) (by omega)), pk_sub (by omega)]
      by_cases q3 : ((1 : Nat) : Int) ≤ w.toInt ∧ w.toInt ≤ ((N 0 - x' : Nat) : Int)
      · rw [bd1_e (in_yi (by omega) (by omega) q3), if_neg (show ¬ nI 1 = 0 by decide +kernel), bd1_e (show fX6_many (lA N) (nI 1) = some (nI (N 1)) from many_s (k := 1) (by omega)), pk_sub (by omega), bd1_e (in_no (by omega) (by omega) (by omega)), if_pos (show nI 0 = 0 from rfl)]
        rfl
      · rw [bd1_e (in_no (by omega) (by omega) q3), if_pos (show nI 0 = 0 from rfl)]
        rfl
    · rw [bd1_e (show fX6_in y 0 (nI (N 1 - 1)) = some (nI 0) from in_no (b := 0) (by omega) (by omega) q2), if_pos (show nI 0 = 0 from rfl)]
      rfl
  · rw [bd1_e (show fX6_in x 0 (nI (N 0 - 1)) = some (nI 0) from in_no (b := 0) (by omega) (by omega) q1), if_pos (show nI 0 = 0 from rfl)]
    rfl
theorem x6_isrec_y {N : Nat → Nat} (h : DW N) {x y w g : Nat} (hw : 1 ≤ w) (hg : 1 ≤ g) (hx : x + w ≤ N 0) (hy : y + g ≤ N 1) : fX6_isRectangle (lA N) (nI x) (nI y) (nI w) (nI g) = some (nI 1) := by
  have d := h.1
  rw [x6_isrec h (by omega) (by omega) (by omega) (by omega), if_pos ⟨hw, hg, hx, hy⟩]
theorem RcI_nat {C R : Nat} (hC : C ≤ 10) (hR : R ≤ 6) {x y w g : Int32} (h : RcI C R x.toInt y.toInt w.toInt g.toInt) : ∃ x' y' w' g', x = nI x' ∧ y = nI y' ∧ w = nI w' ∧ g = nI g' ∧ 1 ≤ w' ∧ 1 ≤ g' ∧ x' + w' ≤ C ∧ y' + g' ≤ R := by
  obtain ⟨a, b, c, d, e, f⟩ := h
  obtain ⟨x', hx, rfl⟩ := i_nat c
  obtain ⟨y', hy, rfl⟩ := i_nat d
  obtain ⟨w', hw, rfl⟩ := i_nat (a := w) (by omega)
  obtain ⟨g', hg, rfl⟩ := i_nat (a := g) (by omega)
  rw [nI_toInt hx, nI_toInt hw] at e
  rw [nI_toInt hy, nI_toInt hg] at f
  rw [nI_toInt hw] at a
  rw [nI_toInt hg] at b
  exact ⟨x', y', w', g', rfl, rfl, rfl, rfl, by omega, by omega, by omega, by omega⟩
theorem x1_holds_no {C R : Nat} (hC : C ≤ 10) (hR : R ≤ 6) {x y w g : Int32} (h : ¬ RcI C R x.toInt y.toInt w.toInt g.toInt) : fX1_holds (nI C) (nI R) x y w g = some (nI 0) := by
  unfold RcI at h
  unfold fX1_holds
  rw [il_1]
  by_cases q1 : w < nI 1
  · rw [if_pos q1]; rfl
  rw [if_neg q1]
  by_cases q2 : nI C < w
  · rw [if_pos q2]; rfl
  rw [if_neg q2]
  by_cases q3 : g < nI 1
  · rw [if_pos q3]; rfl
  rw [if_neg q3]
  by_cases q4 : nI R < g
  · rw [if_pos q4]; rfl
  rw [if_neg q4]
  by_cases q5 : x < 0
  · rw [if_pos q5]; rfl
  rw [if_neg q5]
  rw [lt_i (by omega)] at q1 q3
  rw [gt_i (by omega)] at q2 q4
  rw [il_0, lt_i (by omega)] at q5
  obtain ⟨w', hw, rfl⟩ := i_nat (a := w) (by omega)
  obtain ⟨g', hg, rfl⟩ := i_nat (a := g) (by omega)
  rw [nI_toInt hw] at q1 q2 h
  rw [nI_toInt hg] at q3 q4 h
  rw [pk_sub (by omega)]
  by_cases q6 : nI (C - w') < x
  · rw [if_pos q6]; rfl
  rw [if_neg q6]
  rw [gt_i (by omega)] at q6
  by_cases q7 : y < 0
  · rw [if_pos q7]; rfl
  rw [if_neg q7]
  rw [il_0, lt_i (by omega)] at q7
  rw [pk_sub (by omega), if_pos (show nI (R - g') < y by rw [gt_i (by omega)]; omega)]
  rfl
theorem x1_holds_y {C R x y w g : Nat} (hC : C ≤ 10) (hR : R ≤ 6) (hw : 1 ≤ w) (hg : 1 ≤ g) (hx : x + w ≤ C) (hy : y + g ≤ R) : fX1_holds (nI C) (nI R) (nI x) (nI y) (nI w) (nI g) = some (nI 1) := by
  rw [x1_holds hC hR (by omega) (by omega) (by omega) (by omega), if_pos ⟨hw, hg, hx, hy⟩]
theorem x5_size {a b : Int32} : fX5_isPitchSize a b = some (bI (decide (2 ≤ a.toInt ∧ a.toInt ≤ 10 ∧ 2 ≤ b.toInt ∧ b.toInt ≤ 6))) := by
  unfold fX5_isPitchSize
  rw [il_2, il_6, il_10]
  by_cases q1 : a < nI 2
  · rw [if_pos q1]; rw [lt_i (by omega)] at q1; rw [decide_eq_false (by omega)]; rfl
  rw [if_neg q1]
  rw [lt_i (by omega)] at q1
  by_cases q2 : nI 10 < a
  · rw [if_pos q2]; rw [gt_i (by omega)] at q2; rw [decide_eq_false (by omega)]; rfl
  rw [if_neg q2]
  rw [gt_i (by omega)] at q2
  by_cases q3 : b < nI 2
  · rw [if_pos q3]; rw [lt_i (by omega)] at q3; rw [decide_eq_false (by omega)]; rfl
  rw [if_neg q3]
  rw [lt_i (by omega)] at q3
  by_cases q4 : nI 6 < b
  · rw [if_pos q4]; rw [gt_i (by omega)] at q4; rw [decide_eq_false (by omega)]; rfl
  rw [if_neg q4]
  rw [gt_i (by omega)] at q4
  rw [decide_eq_true (by omega)]; rfl
theorem x5_stat {a : Int32} : fX5_isStation a = some (bI (decide (0 ≤ a.toInt ∧ a.toInt ≤ 7))) := by
  unfold fX5_isStation
  rw [il_8, il_0]
  by_cases q1 : a < nI 0
  · rw [if_pos q1]; rw [lt_i (by omega)] at q1; rw [decide_eq_false (by omega)]; rfl
  rw [if_neg q1]
  rw [lt_i (by omega)] at q1
  by_cases q2 : nI 8 ≤ a
  · rw [if_pos q2]; rw [ge_i (by omega)] at q2; rw [decide_eq_false (by omega)]; rfl
  rw [if_neg q2]
  rw [ge_i (by omega)] at q2
  rw [decide_eq_true (by omega)]; rfl
theorem x1_hasop {n : Nat} (hn : n ≤ 6) {a : Int32} : fX1_hasOperation (nI n) a = some (bI (decide (0 ≤ a.toInt ∧ a.toInt < (n : Int)))) := by
  unfold fX1_hasOperation
  rw [il_0]
  by_cases q1 : a < nI 0
  · rw [if_pos q1]; rw [lt_i (by omega)] at q1; rw [decide_eq_false (by omega)]; rfl
  rw [if_neg q1]
  rw [lt_i (by omega)] at q1
  by_cases q2 : nI n ≤ a
  · rw [if_pos q2]; rw [ge_i (by omega)] at q2; rw [decide_eq_false (by omega)]; rfl
  rw [if_neg q2]
  rw [ge_i (by omega)] at q2
  rw [decide_eq_true (by omega)]; rfl
theorem x1_full {n : Nat} (hn : n ≤ 6) : fX1_isFull (nI n) = some (bI (decide (n = 6))) := by
  unfold fX1_isFull
  by_cases q : n = 6
  · subst q; decide +kernel
  · rw [il_6, if_pos (nI_lt (by omega) (by omega)), decide_eq_false q]; rfl
