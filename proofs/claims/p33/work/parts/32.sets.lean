theorem lp_seqE {σ α : Type} {body : σ → Option (σ ⊕ α)} (S : Nat → σ) {x0 : σ} (h0 : x0 = S 0) {a : α} (n : Nat) (hs : ∀ j, j < n → body (S j) = some (.inl (S (j + 1)))) (he : body (S n) = some (.inr a)) {F : Nat} (hF : n < F) : lp body F x0 = some a := by
  rw [h0]
  exact lp_seq S n hs he hF
def orS (f : Nat → Nat) : Nat → Nat
  | 0 => 0
  | n + 1 => orS f n ||| f n
theorem orS_tb (f : Nat → Nat) (i : Nat) : ∀ n, (orS f n).testBit i = true ↔ ∃ b, b < n ∧ (f b).testBit i = true
  | 0 => by simp [orS]
  | n + 1 => by
    rw [orS, Nat.testBit_or, Bool.or_eq_true, orS_tb f i n]
    constructor
    · rintro (⟨b, h1, h2⟩ | h)
      · exact ⟨b, by omega, h2⟩
      · exact ⟨n, by omega, h⟩
    · rintro ⟨b, h1, h2⟩
      rcases Nat.lt_or_ge b n with q | q
      · exact Or.inl ⟨b, q, h2⟩
      · have e : b = n := by omega
        subst e; exact Or.inr h2
theorem many_s {N : Nat → Nat} {k : Nat} (h : k < 100) : fX6_many (lA N) (nI k) = some (nI (N k)) := by
  unfold fX6_many
  rw [gd_nI h (by omega), nI_clamp (by omega), lA_at, lN_i]
theorem mset_s {N : Nat → Nat} {k : Nat} (h : 3 + k < 100) : fX6_setting (lA N) (nI k) = some (nI (N (3 + k))) := by
  unfold fX6_setting
  rw [nm_s, il_3, nI_add, gd_nI h (by omega), nI_clamp (by omega), lA_at, lN_i]
theorem ofOp_s {N : Nat → Nat} {o j : Nat} (h : 20 + 6 * o + j < 100) : fX6_ofOp (lA N) (nI o) (nI j) = some (nI (N (20 + 6 * o + j))) := by
  unfold fX6_ofOp
  rw [nm_s, nm_s, il_20, il_6, pk_mul, nI_add, nI_add, gd_nI h (by omega), nI_clamp (by omega), lA_at, lN_i]
theorem ofPitch_s {N : Nat → Nat} {s j : Nat} (h : 60 + 5 * s + j < 100) : fX6_ofPitch (lA N) (nI s) (nI j) = some (lN (N (60 + 5 * s + j))) := by
  unfold fX6_ofPitch
  rw [nm_s, nm_s, il_60, il_5, pk_mul, nI_add, nI_add, gd_nI h (by omega), nI_clamp (by omega), lA_at]
theorem in_s {a b c : Nat} (ha : a < 2 ^ 31) (hb : b < 2 ^ 31) (hc : c < 2 ^ 31) : fX6_in (nI a) (nI b) (nI c) = some (if b ≤ a ∧ a ≤ c then nI 1 else nI 0) := by
  unfold fX6_in
  simp only [nI_ltI ha hb, nI_ltI hc ha]
  by_cases h1 : a < b
  · rw [if_pos h1, if_neg (by omega)]; rfl
  · rw [if_neg h1]
    by_cases h2 : c < a
    · rw [if_pos h2, if_neg (by omega)]; rfl
    · rw [if_neg h2, if_pos (by omega)]; rfl
theorem fact_s {f : Nat → Int32} {o j : Nat} (h : 7 * o + j < 42) : fX1_fact f (nI o) (nI j) = some (f (7 * o + j)) := by
  unfold fX1_fact
  rw [nm_s, il_7, pk_mul, nI_add, Nat.mul_comm o 7, if_neg (nI_pos (by omega)), il_42, if_neg (nI_ge h (by omega)), gd_nI h (by omega), nI_clamp (by omega)]
theorem setting_s {f : Nat → Int32} {k : Nat} (h : k < 5) : fX1_setting f (nI k) = some (f k) := by
  unfold fX1_setting
  rw [if_neg (nI_pos (by omega)), il_5, if_neg (nI_ge h (by omega)), gd_nI h (by omega), nI_clamp (by omega)]
theorem cellsOf_s {f : Nat → Int64} {o : Nat} (h : o < 6) : fX1_cellsOf f (nI o) = some (f o) := by
  unfold fX1_cellsOf
  rw [if_neg (nI_pos (by omega)), il_6, if_neg (nI_ge h (by omega)), gd_nI h (by omega), nI_clamp (by omega)]
/-! cells of a rectangle -/
def rcS (C x y w h : Nat) : Nat := bs (fun i => decide (x ≤ i % C ∧ i % C < x + w ∧ y ≤ i / C ∧ i / C < y + h)) 60
theorem dm_of {C q r : Nat} (h : r < C) : (q * C + r) / C = q ∧ (q * C + r) % C = r := by
  have hC : 0 < C := by omega
  constructor
  · rw [Nat.add_comm, Nat.add_mul_div_right _ _ hC, Nat.div_eq_of_lt h, Nat.zero_add]
  · rw [Nat.add_comm, Nat.add_mul_mod_self_right, Nat.mod_eq_of_lt h]
theorem rc_bit {C x y w h i : Nat} (hC : 0 < C) (hx : x + w ≤ C) : (x ≤ i % C ∧ i % C < x + w ∧ y ≤ i / C ∧ i / C < y + h) ↔ ∃ b, b < h ∧ (y + b) * C + x ≤ i ∧ i < (y + b) * C + x + w := by
  constructor
  · rintro ⟨h1, h2, h3, h4⟩
    refine ⟨i / C - y, by omega, ?_⟩
    have e : y + (i / C - y) = i / C := by omega
    have d := Nat.div_add_mod i C
    rw [Nat.mul_comm] at d
    rw [e]
    omega
  · rintro ⟨b, h1, h2, h3⟩
    have e : i = (y + b) * C + (i - (y + b) * C) := by omega
    have d := dm_of (C := C) (q := y + b) (r := i - (y + b) * C) (by omega)
    rw [← e] at d
    rw [d.1, d.2]
    omega
theorem row_bit {w x k i : Nat} : ((2 ^ w - 1) * 2 ^ x * 2 ^ k).testBit i = true ↔ k + x ≤ i ∧ i < k + x + w := by
  rw [Nat.testBit_mul_two_pow, Nat.testBit_mul_two_pow, Nat.testBit_two_pow_sub_one]
  simp only [Bool.and_eq_true, decide_eq_true_eq]
  omega
theorem mul_le60 {a b C R : Nat} (h : a + 1 ≤ R) (hC : C ≤ 10) (hR : R ≤ 6) (hb : b ≤ C) : a * C + b ≤ 60 := by
  have h1 : a * C ≤ 5 * C := Nat.mul_le_mul (by omega) (Nat.le_refl _)
  omega
theorem rc_or {C R x y w h : Nat} (hC : 0 < C) (hC2 : C ≤ 10) (hR : R ≤ 6) (hx : x + w ≤ C) (hy : y + h ≤ R) : orS (fun b => (2 ^ w - 1) * 2 ^ x * 2 ^ ((y + b) * C)) h = rcS C x y w h := by
  apply Nat.eq_of_testBit_eq
  intro i
  rw [Bool.eq_iff_iff, orS_tb, rcS, bs_tb, Bool.and_eq_true, decide_eq_true_eq, decide_eq_true_eq, rc_bit hC hx]
  simp only [row_bit]
  constructor
  · rintro ⟨b, h1, h2, h3⟩
    have := mul_le60 (a := y + b) (b := x + w) (C := C) (R := R) (by omega) hC2 hR hx
    exact ⟨by omega, b, h1, h2, h3⟩
  · rintro ⟨_, b, h1, h2, h3⟩
    exact ⟨b, h1, h2, h3⟩
set_option maxRecDepth 4000 in
theorem x1_rect {F C R x y w h : Nat} (hF : 100 < F) (hC : 2 ≤ C) (hC2 : C ≤ 10) (hR : R ≤ 6) (hx : x + w ≤ C) (hy : y + h ≤ R) : fX1_rectangle F (nI C) (nI R) (nI x) (nI y) (nI w) (nI h) = some (lN (rcS C x y w h)) := by
  unfold fX1_rectangle
  have e : ((((1 : Int64) <<< ((nI w).toInt64 &&& 63)) - (1 : Int64)) <<< ((nI x).toInt64 &&& 63)) = lN ((2 ^ w - 1) * 2 ^ x) := by
    rw [one_shl_m1 (by omega), wb_shl _ (by omega)]
  rw [nm_s, e]
  have L := lp_seq (body := fX1_rectangle_l15 (nI C) (nI R) (nI y) (nI h) (lN ((2 ^ w - 1) * 2 ^ x))) (S := fun j => (lN (orS (fun b => (2 ^ w - 1) * 2 ^ x * 2 ^ ((y + b) * C)) j), nI j)) (n := h) (a := lN (orS (fun b => (2 ^ w - 1) * 2 ^ x * 2 ^ ((y + b) * C)) h)) (F := F) (by
      intro j hj
      unfold fX1_rectangle_l15
      have hk := mul_le60 (a := y + j) (b := 0) (C := C) (R := R) (by omega) hC2 hR (by omega)
      simp (disch := omega) only [bd1_s, bd2_s, bd3_s, bd4_s, bd5_s, bd6_s, bd7_s, bd8_s, bd9_s, bd10_s, bd11_s, bd12_s, bd13_s, uc0_s, uc1_s, uc2_s, uc3_s, uc4_s, uc5_s, uc6_s, uc7_s, uc8_s, uc9_s, uc10_s, uc11_s, uc12_s, uc13_s, nm_s, bdS2_1, bdS2_2, gb_0, gb_1, il_0, il_1, il_2, il_3, il_4, il_5, il_6, il_7, il_8, il_9, il_10, il_11, il_12, il_13, il_14, il_15, il_16, il_17, il_18, il_19, il_20, il_21, il_22, il_23, il_24, il_25, il_26, il_27, il_28, il_29, il_30, il_31, il_32, il_39, il_40, il_42, il_48, il_50, il_52, il_57, il_59, il_60, il_61, il_63, il_64, il_96, il_97, il_99, il_100, il_122, il_127, il_150, il_160, il_300, il_400, il_999, il_1000, il_1000000, nI_ltI, nI_leI, nI_eq, nI_add, pk_mul, pk_sub, nI_clamp, gd_nI, gz_nI, if_pos, if_neg, neI, neI2, gbN0, gbN1, Nat.reduceAdd, Nat.reduceMul, Nat.zero_add, Nat.add_zero, not_true_eq_false, not_false_eq_true, if_true, if_false, ite_true, ite_false, ll_0, ll_1, ll_2, ll_3, ll_4, ll_5, ll_6, ll_7, ll_8, ll_31, ll_32, ll_63, ll_96, ll_401698, ll_17092712, ll_525908, ll_402891, ll_17479784, ll_71108, ll_17171557, ll_536622, ll_17084916, ll_659111269, fb_andL, fb_orL, fb_xorL, sdL, shL, lush_N, Nat.one_mul]
      rfl) (by
      unfold fX1_rectangle_l15
      simp (disch := omega) only [bd1_s, bd2_s, bd3_s, bd4_s, bd5_s, bd6_s, bd7_s, bd8_s, bd9_s, bd10_s, bd11_s, bd12_s, bd13_s, uc0_s, uc1_s, uc2_s, uc3_s, uc4_s, uc5_s, uc6_s, uc7_s, uc8_s, uc9_s, uc10_s, uc11_s, uc12_s, uc13_s, nm_s, bdS2_1, bdS2_2, gb_0, gb_1, il_0, il_1, il_2, il_3, il_4, il_5, il_6, il_7, il_8, il_9, il_10, il_11, il_12, il_13, il_14, il_15, il_16, il_17, il_18, il_19, il_20, il_21, il_22, il_23, il_24, il_25, il_26, il_27, il_28, il_29, il_30, il_31, il_32, il_39, il_40, il_42, il_48, il_50, il_52, il_57, il_59, il_60, il_61, il_63, il_64, il_96, il_97, il_99, il_100, il_122, il_127, il_150, il_160, il_300, il_400, il_999, il_1000, il_1000000, nI_ltI, nI_leI, nI_eq, nI_add, pk_mul, pk_sub, nI_clamp, gd_nI, gz_nI, if_pos, if_neg, neI, neI2, gbN0, gbN1, Nat.reduceAdd, Nat.reduceMul, Nat.zero_add, Nat.add_zero, not_true_eq_false, not_false_eq_true, if_true, if_false, ite_true, ite_false]) (by omega)
  refine (bd1_e L).trans ?_
  rw [rc_or (by omega) hC2 hR hx hy]
theorem x6_row {F C x w b A : Nat} {N : Nat → Nat} (hN : N 0 = C) (hF : 100 < F) (hC2 : C ≤ 10) (hx : x + w ≤ C) (hb : b ≤ 5) : lp (fX6_rectangle_l18 (lA N) (nI x) (nI w) (nI b)) F (lN A, nI x) = some (lN (A ||| orS (fun a => 2 ^ (b * C + (x + a))) w)) := by
  have hk : b * C ≤ 50 := by
    have := Nat.mul_le_mul hb hC2
    omega
  refine lp_seqE (S := fun j => (lN (A ||| orS (fun a => 2 ^ (b * C + (x + a))) j), nI (x + j))) (by simp [orS]) (n := w) (a := lN (A ||| orS (fun a => 2 ^ (b * C + (x + a))) w)) (F := F) (fun j hj => ?_) ?_ (show w < F by omega)
  · unfold fX6_rectangle_l18
    simp (disch := omega) only [bd1_s, bd2_s, bd3_s, bd4_s, bd5_s, bd6_s, bd7_s, bd8_s, bd9_s, bd10_s, bd11_s, bd12_s, bd13_s, uc0_s, uc1_s, uc2_s, uc3_s, uc4_s, uc5_s, uc6_s, uc7_s, uc8_s, uc9_s, uc10_s, uc11_s, uc12_s, uc13_s, nm_s, bdS2_1, bdS2_2, gb_0, gb_1, il_0, il_1, il_2, il_3, il_4, il_5, il_6, il_7, il_8, il_9, il_10, il_11, il_12, il_13, il_14, il_15, il_16, il_17, il_18, il_19, il_20, il_21, il_22, il_23, il_24, il_25, il_26, il_27, il_28, il_29, il_30, il_31, il_32, il_39, il_40, il_42, il_48, il_50, il_52, il_57, il_59, il_60, il_61, il_63, il_64, il_96, il_97, il_99, il_100, il_122, il_127, il_150, il_160, il_300, il_400, il_999, il_1000, il_1000000, nI_ltI, nI_leI, nI_eq, nI_add, pk_mul, pk_sub, nI_clamp, gd_nI, gz_nI, if_pos, if_neg, neI, neI2, gbN0, gbN1, Nat.reduceAdd, Nat.reduceMul, Nat.zero_add, Nat.add_zero, not_true_eq_false, not_false_eq_true, if_true, if_false, ite_true, ite_false, ll_0, ll_1, ll_2, ll_3, ll_4, ll_5, ll_6, ll_7, ll_8, ll_31, ll_32, ll_63, ll_96, ll_401698, ll_17092712, ll_525908, ll_402891, ll_17479784, ll_71108, ll_17171557, ll_536622, ll_17084916, ll_659111269, fb_andL, fb_orL, fb_xorL, sdL, shL, lush_N, Nat.one_mul, many_s, hN]
    rw [orS, Nat.or_assoc, Nat.add_assoc]
  · unfold fX6_rectangle_l18
    simp (disch := omega) only [bd1_s, bd2_s, bd3_s, bd4_s, bd5_s, bd6_s, bd7_s, bd8_s, bd9_s, bd10_s, bd11_s, bd12_s, bd13_s, uc0_s, uc1_s, uc2_s, uc3_s, uc4_s, uc5_s, uc6_s, uc7_s, uc8_s, uc9_s, uc10_s, uc11_s, uc12_s, uc13_s, nm_s, bdS2_1, bdS2_2, gb_0, gb_1, il_0, il_1, il_2, il_3, il_4, il_5, il_6, il_7, il_8, il_9, il_10, il_11, il_12, il_13, il_14, il_15, il_16, il_17, il_18, il_19, il_20, il_21, il_22, il_23, il_24, il_25, il_26, il_27, il_28, il_29, il_30, il_31, il_32, il_39, il_40, il_42, il_48, il_50, il_52, il_57, il_59, il_60, il_61, il_63, il_64, il_96, il_97, il_99, il_100, il_122, il_127, il_150, il_160, il_300, il_400, il_999, il_1000, il_1000000, nI_ltI, nI_leI, nI_eq, nI_add, pk_mul, pk_sub, nI_clamp, gd_nI, gz_nI, if_pos, if_neg, neI, neI2, gbN0, gbN1, Nat.reduceAdd, Nat.reduceMul, Nat.zero_add, Nat.add_zero, not_true_eq_false, not_false_eq_true, if_true, if_false, ite_true, ite_false]
theorem rc_or2 {C R x y w h : Nat} (hC : 0 < C) (hC2 : C ≤ 10) (hR : R ≤ 6) (hx : x + w ≤ C) (hy : y + h ≤ R) : orS (fun b => orS (fun a => 2 ^ ((y + b) * C + (x + a))) w) h = rcS C x y w h := by
  rw [← rc_or hC hC2 hR hx hy]
  apply Nat.eq_of_testBit_eq
  intro i
  rw [Bool.eq_iff_iff, orS_tb, orS_tb]
  simp only [row_bit, orS_tb, Nat.testBit_two_pow, decide_eq_true_eq]
  constructor
  · rintro ⟨b, h1, a, h2, h3⟩
    exact ⟨b, h1, by omega, by omega⟩
  · rintro ⟨b, h1, h2, h3⟩
    exact ⟨b, h1, i - ((y + b) * C + x), by omega, by omega⟩
theorem x6_rect {F C R x y w h : Nat} {N : Nat → Nat} (hN : N 0 = C) (hF : 100 < F) (hC : 2 ≤ C) (hC2 : C ≤ 10) (hR : R ≤ 6) (hx : x + w ≤ C) (hy : y + h ≤ R) : fX6_rectangle F (lA N) (nI x) (nI y) (nI w) (nI h) = some (lN (rcS C x y w h)) := by
  unfold fX6_rectangle
  have L := lp_seq (body := fX6_rectangle_l6 F (lA N) (nI x) (nI y) (nI w) (nI h)) (S := fun j => (lN (orS (fun b => orS (fun a => 2 ^ ((y + b) * C + (x + a))) w) j), nI (y + j))) (n := h) (a := lN (orS (fun b => orS (fun a => 2 ^ ((y + b) * C + (x + a))) w) h)) (F := F) (by
      intro j hj
      unfold fX6_rectangle_l6
      rw [uc2_s, nI_add, if_neg (nI_ge (by omega) (by omega))]
      refine (bd1_e (x6_row hN hF hC2 hx (by omega))).trans ?_
      simp (disch := omega) only [il_0, il_1, il_2, il_3, il_4, il_5, il_6, il_7, il_8, il_9, il_10, il_11, il_12, il_13, il_14, il_15, il_16, il_17, il_18, il_19, il_20, il_21, il_22, il_23, il_24, il_25, il_26, il_27, il_28, il_29, il_30, il_31, il_32, il_39, il_40, il_42, il_48, il_50, il_52, il_57, il_59, il_60, il_61, il_63, il_64, il_96, il_97, il_99, il_100, il_122, il_127, il_150, il_160, il_300, il_400, il_999, il_1000, il_1000000, nI_ltI, nI_leI, nI_eq, nI_add, pk_mul, pk_sub, nI_clamp, gd_nI, gz_nI, if_pos, if_neg, neI, neI2, gbN0, gbN1, Nat.reduceAdd, Nat.reduceMul, Nat.zero_add, Nat.add_zero, not_true_eq_false, not_false_eq_true, if_true, if_false, ite_true, ite_false]
      rfl) (by
      unfold fX6_rectangle_l6
      simp (disch := omega) only [bd1_s, bd2_s, bd3_s, bd4_s, bd5_s, bd6_s, bd7_s, bd8_s, bd9_s, bd10_s, bd11_s, bd12_s, bd13_s, uc0_s, uc1_s, uc2_s, uc3_s, uc4_s, uc5_s, uc6_s, uc7_s, uc8_s, uc9_s, uc10_s, uc11_s, uc12_s, uc13_s, nm_s, bdS2_1, bdS2_2, gb_0, gb_1, il_0, il_1, il_2, il_3, il_4, il_5, il_6, il_7, il_8, il_9, il_10, il_11, il_12, il_13, il_14, il_15, il_16, il_17, il_18, il_19, il_20, il_21, il_22, il_23, il_24, il_25, il_26, il_27, il_28, il_29, il_30, il_31, il_32, il_39, il_40, il_42, il_48, il_50, il_52, il_57, il_59, il_60, il_61, il_63, il_64, il_96, il_97, il_99, il_100, il_122, il_127, il_150, il_160, il_300, il_400, il_999, il_1000, il_1000000, nI_ltI, nI_leI, nI_eq, nI_add, pk_mul, pk_sub, nI_clamp, gd_nI, gz_nI, if_pos, if_neg, neI, neI2, gbN0, gbN1, Nat.reduceAdd, Nat.reduceMul, Nat.zero_add, Nat.add_zero, not_true_eq_false, not_false_eq_true, if_true, if_false, ite_true, ite_false]) (by omega)
  refine (bd1_e L).trans ?_
  rw [rc_or2 (by omega) hC2 hR hx hy]
