theorem bd1_if {A ρ : Type} {c : Prop} [Decidable c] (a b : A) (K : A → Option ρ) : bd1 (if c then some a else some b) K = K (if c then a else b) := by split <;> rfl
theorem lN_if {c : Prop} [Decidable c] (a b : Nat) : (if c then lN a else lN b) = lN (if c then a else b) := by split <;> rfl
theorem nI_if {c : Prop} [Decidable c] (a b : Nat) : (if c then nI a else nI b) = nI (if c then a else b) := by split <;> rfl
theorem nI_none : nI 18446744073709551615 = -(nI 1) := by decide +kernel
def alS (N : Nat → Nat) : Nat := 2 ^ (N 0 * N 1) - 1
def crS (N : Nat → Nat) : Nat := if N 2 = 0 then rcS (N 0) 0 0 (N 0) 1 else if N 2 = 1 then rcS (N 0) 0 (N 1 - 1) (N 0) 1 else rcS (N 0) 0 0 (N 0) 1 ||| rcS (N 0) 0 (N 1 - 1) (N 0) 1
def paS (N : Nat → Nat) : Nat := sdf (N 14) (crS N)
def liS (N : Nat → Nat) : Nat := sdf (N 15) (crS N)
def waS (N : Nat → Nat) : Nat := sdf (alS N) ((N 14 ||| N 15) ||| crS N)
def opS (N : Nat → Nat) (o : Nat) : Nat := rcS (N 0) (N (20 + 6 * o + 1)) (N (20 + 6 * o + 2)) (N (20 + 6 * o + 3)) (N (20 + 6 * o + 4))
def foS (N : Nat → Nat) (o : Nat) : Nat := if N (20 + 6 * o + 0) = 0 then 2 * (N (20 + 6 * o + 3) + N (20 + 6 * o + 4)) else N (20 + 6 * o + 3)
/-- the die's part of the model's state, well formed -/
def DW (N : Nat → Nat) : Prop :=
  (2 ≤ N 0 ∧ N 0 ≤ 10 ∧ 2 ≤ N 1 ∧ N 1 ≤ 6 ∧ N 2 ≤ 2) ∧ (N 14 < 2 ^ (N 0 * N 1) ∧ N 15 < 2 ^ (N 0 * N 1)) ∧ (1 ≤ N 3 ∧ N 3 ≤ 999 ∧ N 4 ≤ 3 ∧ N 5 ≤ 9 ∧ N 6 ≤ 50 ∧ N 7 ≤ 50) ∧ (N 8 ≤ 6 ∧ N 13 < 256) ∧
  ∀ o, o < N 8 → N (20 + 6 * o + 0) ≤ 1 ∧ 1 ≤ N (20 + 6 * o + 3) ∧ N (20 + 6 * o + 1) + N (20 + 6 * o + 3) ≤ N 0 ∧ 1 ≤ N (20 + 6 * o + 4) ∧ N (20 + 6 * o + 2) + N (20 + 6 * o + 4) ≤ N 1 ∧ (N (20 + 6 * o + 5) < 8 ∨ N (20 + 6 * o + 5) = 18446744073709551615)
/-- the class's die holds what the model's state tells -/
def CD (N : Nat → Nat) (set fac : Nat → Int32) (cel : Nat → Int64) : Prop :=
  (∀ k, k < 5 → set k = nI (N (3 + k))) ∧ ∀ o, o < N 8 → (∀ j, j < 5 → fac (7 * o + j) = nI (N (20 + 6 * o + j))) ∧ fac (7 * o + 5) = nI (foS N o) ∧ fac (7 * o + 6) = nI (N (20 + 6 * o + 5)) ∧ cel o = lN (opS N o)
theorem cr60 {C R : Nat} (hC : C ≤ 10) (hR : R ≤ 6) : C * R ≤ 60 := Nat.mul_le_mul hC hR
theorem rc_lt (C x y w h : Nat) : rcS C x y w h < 2 ^ 60 := bs_lt _ _
theorem al_tb (N : Nat → Nat) (i : Nat) : (alS N).testBit i = decide (i < N 0 * N 1) := Nat.testBit_two_pow_sub_one _ _
theorem al_lt {N : Nat → Nat} (hC : N 0 ≤ 10) (hR : N 1 ≤ 6) : alS N < 2 ^ 60 := by
  unfold alS
  have h1 : 2 ^ (N 0 * N 1) ≤ 2 ^ 60 := Nat.pow_le_pow_right (by decide) (cr60 hC hR)
  have h2 := Nat.two_pow_pos (N 0 * N 1)
  omega
theorem cr_lt (N : Nat → Nat) : crS N < 2 ^ 60 := by
  unfold crS
  split
  · exact rc_lt _ _ _ _ _
  · split
    · exact rc_lt _ _ _ _ _
    · exact Nat.or_lt_two_pow (rc_lt _ _ _ _ _) (rc_lt _ _ _ _ _)
theorem rc_row {C R y : Nat} (hC : 2 ≤ C) (hC2 : C ≤ 10) (hR : R ≤ 6) (hy : y + 1 ≤ R) : (2 ^ C - 1) * 2 ^ (y * C) = rcS C 0 y C 1 := by
  rw [← rc_or (C := C) (R := R) (x := 0) (y := y) (w := C) (h := 1) (by omega) hC2 hR (by omega) hy]
  simp [orS]
theorem x1_all {C R : Nat} (hC : C ≤ 10) (hR : R ≤ 6) : fX1_allCells (nI C) (nI R) = some (lN (2 ^ (C * R) - 1)) := by
  unfold fX1_allCells
  have := cr60 hC hR
  rw [pk_mul, one_shl_m1 (by omega)]
theorem x1_car {N : Nat → Nat} (h : DW N) : fX1_carrierCells (nI (N 0)) (nI (N 1)) (nI (N 2)) = some (lN (crS N)) := by
  obtain ⟨⟨h1, h2, h3, h4, h5⟩, -⟩ := h
  unfold fX1_carrierCells
  have hk := mul_le60 (a := N 1 - 1) (b := 0) (C := N 0) (R := N 1) (by omega) h2 h4 (by omega)
  have e1 : (1 : Int64) <<< ((nI (N 0)).toInt64 &&& 63) - (1 : Int64) = lN (rcS (N 0) 0 0 (N 0) 1) := by
    rw [one_shl_m1 (by omega), ← rc_row (R := N 1) h1 h2 h4 (by omega)]; simp
  have e2 : lN (rcS (N 0) 0 0 (N 0) 1) <<< (((nI (N 1) - (1 : Int32)) * nI (N 0)).toInt64 &&& 63) = lN (rcS (N 0) 0 (N 1 - 1) (N 0) 1) := by
    rw [il_1, pk_sub (by omega), pk_mul, wb_shl _ (by omega), ← rc_row (R := N 1) h1 h2 h4 (by omega), ← rc_row (R := N 1) h1 h2 h4 (by omega)]
    simp
  rw [nm_s, e1, nm_s, e2]
  unfold crS
  have hK : N 2 = 0 ∨ N 2 = 1 ∨ N 2 = 2 := by omega
  rcases hK with e | e | e <;> (rw [e]; simp (disch := omega) only [il_0, il_1, il_2, il_3, il_4, il_5, il_6, il_7, il_8, il_9, il_10, il_11, il_12, il_13, il_14, il_15, il_16, il_17, il_18, il_19, il_20, il_21, il_22, il_23, il_24, il_25, il_26, il_27, il_28, il_29, il_30, il_31, il_32, il_39, il_40, il_42, il_48, il_50, il_52, il_57, il_59, il_60, il_61, il_63, il_64, il_96, il_97, il_99, il_100, il_122, il_127, il_150, il_160, il_300, il_400, il_999, il_1000, il_1000000, nI_ltI, nI_leI, nI_eq, nI_add, pk_mul, pk_sub, nI_clamp, gd_nI, gz_nI, if_pos, if_neg, neI, neI2, gbN0, gbN1, Nat.reduceAdd, Nat.reduceMul, Nat.zero_add, Nat.add_zero, not_true_eq_false, not_false_eq_true, if_true, if_false, ite_true, ite_false, ll_0, ll_1, ll_2, ll_3, ll_4, ll_5, ll_6, ll_7, ll_8, ll_31, ll_32, ll_63, ll_96, ll_401698, ll_17092712, ll_525908, ll_402891, ll_17479784, ll_71108, ll_17171557, ll_536622, ll_17084916, ll_659111269, fb_andL, fb_orL, fb_xorL, sdL, shL, lush_N, Nat.one_mul])
theorem x6_car {F : Nat} {N : Nat → Nat} (hF : 100 < F) (h : DW N) : fX6_carrier F (lA N) = some (lN (crS N)) := by
  obtain ⟨⟨h1, h2, h3, h4, h5⟩, -⟩ := h
  unfold fX6_carrier
  simp (disch := omega) only [bd1_s, bd2_s, bd3_s, bd4_s, bd5_s, bd6_s, bd7_s, bd8_s, bd9_s, bd10_s, bd11_s, bd12_s, bd13_s, uc0_s, uc1_s, uc2_s, uc3_s, uc4_s, uc5_s, uc6_s, uc7_s, uc8_s, uc9_s, uc10_s, uc11_s, uc12_s, uc13_s, nm_s, bdS2_1, bdS2_2, gb_0, gb_1, il_0, il_1, il_2, il_3, il_4, il_5, il_6, il_7, il_8, il_9, il_10, il_11, il_12, il_13, il_14, il_15, il_16, il_17, il_18, il_19, il_20, il_21, il_22, il_23, il_24, il_25, il_26, il_27, il_28, il_29, il_30, il_31, il_32, il_39, il_40, il_42, il_48, il_50, il_52, il_57, il_59, il_60, il_61, il_63, il_64, il_96, il_97, il_99, il_100, il_122, il_127, il_150, il_160, il_300, il_400, il_999, il_1000, il_1000000, nI_ltI, nI_leI, nI_eq, nI_add, pk_mul, pk_sub, nI_clamp, gd_nI, gz_nI, if_pos, if_neg, neI, neI2, gbN0, gbN1, Nat.reduceAdd, Nat.reduceMul, Nat.zero_add, Nat.add_zero, not_true_eq_false, not_false_eq_true, if_true, if_false, ite_true, ite_false, ll_0, ll_1, ll_2, ll_3, ll_4, ll_5, ll_6, ll_7, ll_8, ll_31, ll_32, ll_63, ll_96, ll_401698, ll_17092712, ll_525908, ll_402891, ll_17479784, ll_71108, ll_17171557, ll_536622, ll_17084916, ll_659111269, many_s, lA_at]
  rw [bd1_e (x6_rect (C := N 0) (R := N 1) rfl hF h1 h2 h4 (by omega) (by omega)), bd1_e (x6_rect (C := N 0) (R := N 1) rfl hF h1 h2 h4 (by omega) (by omega))]
  unfold crS
  have hK : N 2 = 0 ∨ N 2 = 1 ∨ N 2 = 2 := by omega
  rcases hK with e | e | e <;> (rw [e]; simp (disch := omega) only [cmpL, il_0, il_1, il_2, il_3, il_4, il_5, il_6, il_7, il_8, il_9, il_10, il_11, il_12, il_13, il_14, il_15, il_16, il_17, il_18, il_19, il_20, il_21, il_22, il_23, il_24, il_25, il_26, il_27, il_28, il_29, il_30, il_31, il_32, il_39, il_40, il_42, il_48, il_50, il_52, il_57, il_59, il_60, il_61, il_63, il_64, il_96, il_97, il_99, il_100, il_122, il_127, il_150, il_160, il_300, il_400, il_999, il_1000, il_1000000, nI_ltI, nI_leI, nI_eq, nI_add, pk_mul, pk_sub, nI_clamp, gd_nI, gz_nI, if_pos, if_neg, neI, neI2, gbN0, gbN1, Nat.reduceAdd, Nat.reduceMul, Nat.zero_add, Nat.add_zero, not_true_eq_false, not_false_eq_true, if_true, if_false, ite_true, ite_false, ll_0, ll_1, ll_2, ll_3, ll_4, ll_5, ll_6, ll_7, ll_8, ll_31, ll_32, ll_63, ll_96, ll_401698, ll_17092712, ll_525908, ll_402891, ll_17479784, ll_71108, ll_17171557, ll_536622, ll_17084916, ll_659111269, fb_andL, fb_orL, fb_xorL, sdL, shL, lush_N, Nat.one_mul])
theorem x6_all {F : Nat} {N : Nat → Nat} (hF : 100 < F) (h : DW N) : fX6_all F (lA N) = some (lN (alS N)) := by
  obtain ⟨⟨h1, h2, h3, h4, h5⟩, -⟩ := h
  unfold fX6_all
  simp (disch := omega) only [bd1_s, bd2_s, bd3_s, bd4_s, bd5_s, bd6_s, bd7_s, bd8_s, bd9_s, bd10_s, bd11_s, bd12_s, bd13_s, uc0_s, uc1_s, uc2_s, uc3_s, uc4_s, uc5_s, uc6_s, uc7_s, uc8_s, uc9_s, uc10_s, uc11_s, uc12_s, uc13_s, nm_s, bdS2_1, bdS2_2, gb_0, gb_1, il_0, il_1, il_2, il_3, il_4, il_5, il_6, il_7, il_8, il_9, il_10, il_11, il_12, il_13, il_14, il_15, il_16, il_17, il_18, il_19, il_20, il_21, il_22, il_23, il_24, il_25, il_26, il_27, il_28, il_29, il_30, il_31, il_32, il_39, il_40, il_42, il_48, il_50, il_52, il_57, il_59, il_60, il_61, il_63, il_64, il_96, il_97, il_99, il_100, il_122, il_127, il_150, il_160, il_300, il_400, il_999, il_1000, il_1000000, nI_ltI, nI_leI, nI_eq, nI_add, pk_mul, pk_sub, nI_clamp, gd_nI, gz_nI, if_pos, if_neg, neI, neI2, gbN0, gbN1, Nat.reduceAdd, Nat.reduceMul, Nat.zero_add, Nat.add_zero, not_true_eq_false, not_false_eq_true, if_true, if_false, ite_true, ite_false, many_s]
  rw [bd1_e (x6_rect (C := N 0) (R := N 1) rfl hF h1 h2 h4 (by omega) (by omega))]
  congr 2
  apply Nat.eq_of_testBit_eq
  intro i
  have h60 := cr60 h2 h4
  rw [rcS, bs_tb, al_tb, Bool.eq_iff_iff]
  simp only [Bool.and_eq_true, decide_eq_true_eq]
  have hm : i % N 0 < N 0 := Nat.mod_lt _ (by omega)
  have hd : i / N 0 < N 1 ↔ i < N 0 * N 1 := by rw [Nat.div_lt_iff_lt_mul (by omega), Nat.mul_comm]
  generalize i / N 0 = q at *
  generalize i % N 0 = r at *
  omega
theorem x1_part {N : Nat → Nat} (h : DW N) : fX1_partCells (nI (N 0)) (nI (N 1)) (nI (N 2)) (lN (N 14)) = some (lN (paS N)) := by
  unfold fX1_partCells
  rw [bd1_e (x1_car h), lN_sdf]; rfl
theorem x1_link {N : Nat → Nat} (h : DW N) : fX1_linkCells (nI (N 0)) (nI (N 1)) (nI (N 2)) (lN (N 15)) = some (lN (liS N)) := by
  unfold fX1_linkCells
  rw [bd1_e (x1_car h), lN_sdf]; rfl
theorem x1_waste {N : Nat → Nat} (h : DW N) : fX1_wasteCells (nI (N 0)) (nI (N 1)) (nI (N 2)) (lN (N 14)) (lN (N 15)) = some (lN (waS N)) := by
  unfold fX1_wasteCells
  rw [bd1_e (x1_all h.1.2.1 h.1.2.2.2.1), bd1_e (x1_car h), fb_orL, fb_orL, lN_sdf]; rfl
theorem x6_part {F : Nat} {N : Nat → Nat} (hF : 100 < F) (h : DW N) : fX6_part F (lA N) = some (lN (paS N)) := by
  unfold fX6_part
  rw [il_14, gd_nI (by omega) (by omega), bd1_e (x6_car hF h), nI_clamp (by omega), lA_at, lN_sdf]; rfl
theorem x6_links {F : Nat} {N : Nat → Nat} (hF : 100 < F) (h : DW N) : fX6_links F (lA N) = some (lN (liS N)) := by
  unfold fX6_links
  rw [il_15, gd_nI (by omega) (by omega), bd1_e (x6_car hF h), nI_clamp (by omega), lA_at, lN_sdf]; rfl
theorem lt60 {N : Nat → Nat} (h : DW N) {x : Nat} (hx : x < 2 ^ (N 0 * N 1)) : x < 2 ^ 60 := Nat.lt_of_lt_of_le hx (Nat.pow_le_pow_right (by decide) (cr60 h.1.2.1 h.1.2.2.2.1))
theorem lt64 {x : Nat} (hx : x < 2 ^ 60) : x < 2 ^ 64 := Nat.lt_trans hx (by decide)
theorem lt63 {x : Nat} (hx : x < 2 ^ 60) : x < 2 ^ 63 := Nat.lt_trans hx (by decide)
theorem lt62 {x : Nat} (hx : x < 2 ^ 60) : x < 2 ^ 62 := Nat.lt_trans hx (by decide)
theorem pa_lt {N : Nat → Nat} (h : DW N) : paS N < 2 ^ (N 0 * N 1) := sdf_lt _ h.2.1.1
theorem li_lt {N : Nat → Nat} (h : DW N) : liS N < 2 ^ (N 0 * N 1) := sdf_lt _ h.2.1.2
theorem al_lt2 (N : Nat → Nat) : alS N < 2 ^ (N 0 * N 1) := by
  unfold alS
  have h2 := Nat.two_pow_pos (N 0 * N 1)
  omega
theorem ws_lt (N : Nat → Nat) : waS N < 2 ^ (N 0 * N 1) := sdf_lt _ (al_lt2 N)
theorem pa_tb {N : Nat → Nat} (h : DW N) (i : Nat) : (paS N).testBit i = ((N 14).testBit i && !(crS N).testBit i) := sdf_tb _ _ (lt64 (lt60 h h.2.1.1))
theorem li_tb {N : Nat → Nat} (h : DW N) (i : Nat) : (liS N).testBit i = ((N 15).testBit i && !(crS N).testBit i) := sdf_tb _ _ (lt64 (lt60 h h.2.1.2))
theorem ws_tb {N : Nat → Nat} (h : DW N) (i : Nat) : (waS N).testBit i = (decide (i < N 0 * N 1) && !((N 14).testBit i || (N 15).testBit i || (crS N).testBit i)) := by
  rw [waS, sdf_tb _ _ (lt64 (al_lt h.1.2.1 h.1.2.2.2.1)), al_tb, Nat.testBit_or, Nat.testBit_or]
theorem ws_eq {N : Nat → Nat} (h : DW N) : sdf (sdf (sdf (alS N) (paS N)) (liS N)) (crS N) = waS N := by
  have ha := lt64 (al_lt h.1.2.1 h.1.2.2.2.1)
  apply Nat.eq_of_testBit_eq
  intro i
  rw [sdf_tb _ _ (sdf_lt _ (sdf_lt _ ha)), sdf_tb _ _ (sdf_lt _ ha), sdf_tb _ _ ha, ws_tb h, pa_tb h, li_tb h, al_tb]
  cases (N 14).testBit i <;> cases (N 15).testBit i <;> cases (crS N).testBit i <;> simp
theorem car_in {N : Nat → Nat} (h : DW N) : crS N < 2 ^ (N 0 * N 1) := by
  obtain ⟨⟨h1, h2, h3, h4, h5⟩, -⟩ := h
  have key : ∀ y, y + 1 ≤ N 1 → rcS (N 0) 0 y (N 0) 1 < 2 ^ (N 0 * N 1) := by
    intro y hy
    apply Nat.lt_pow_two_of_testBit
    intro i hi
    rw [rcS, bs_tb, Bool.and_eq_false_iff]
    right
    rw [decide_eq_false_iff_not]
    rintro ⟨_, _, _, h6⟩
    have : N 1 ≤ i / N 0 := (Nat.le_div_iff_mul_le (by omega)).mpr (by rw [Nat.mul_comm]; exact hi)
    omega
  unfold crS
  split
  · exact key _ (by omega)
  · split
    · exact key _ (by omega)
    · exact Nat.or_lt_two_pow (key _ (by omega)) (key _ (by omega))
theorem car_ne {N : Nat → Nat} (h : DW N) : crS N ≠ 0 := by
  obtain ⟨⟨h1, h2, h3, h4, h5⟩, -⟩ := h
  have key : ∀ y, y + 1 ≤ N 1 → (rcS (N 0) 0 y (N 0) 1).testBit (y * N 0) = true := by
    intro y hy
    have hk := mul_le60 (a := y) (b := 2) (C := N 0) (R := N 1) hy h2 h4 h1
    have d := dm_of (C := N 0) (q := y) (r := 0) (by omega)
    rw [Nat.add_zero] at d
    rw [rcS, bs_tb, d.1, d.2]
    simp only [Bool.and_eq_true, decide_eq_true_eq]
    omega
  intro e
  unfold crS at e
  split at e
  · have := key 0 (by omega); rw [e] at this; simp at this
  · split at e
    · have := key (N 1 - 1) (by omega); rw [e] at this; simp at this
    · have := key 0 (by omega)
      rw [(Nat.or_eq_zero_iff.mp e).1] at this; simp at this
