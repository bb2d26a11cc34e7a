/-- neighbors of the cells of a set -/
def nbS (N : Nat → Nat) (S : Nat) : Nat := bs (fun i => (decide (i % N 0 ≠ 0) && S.testBit (i - 1)) || (decide (i % N 0 ≠ N 0 - 1) && S.testBit (i + 1)) || (decide (N 0 ≤ i) && S.testBit (i - N 0)) || S.testBit (i + N 0)) (N 0 * N 1)
theorem nb_lt (N : Nat → Nat) (S : Nat) : nbS N S < 2 ^ (N 0 * N 1) := bs_lt _ _
theorem nb_tb (N : Nat → Nat) (S i : Nat) : (nbS N S).testBit i = (decide (i < N 0 * N 1) && ((decide (i % N 0 ≠ 0) && S.testBit (i - 1)) || (decide (i % N 0 ≠ N 0 - 1) && S.testBit (i + 1)) || (decide (N 0 ≤ i) && S.testBit (i - N 0)) || S.testBit (i + N 0))) := bs_tb _ _ _
theorem tb_of {S n i : Nat} (h : S < 2 ^ n) (hb : S.testBit i = true) : i < n := by
  rcases Nat.lt_or_ge i n with q | q
  · exact q
  · rw [tb_big h q] at hb; cases hb
theorem mod_up {C i : Nat} (hC : 2 ≤ C) (hC2 : C ≤ 10) : ((i + 1) % C = 0 ↔ i % C = C - 1) ∧ (C ≤ i → (i - C) % C = i % C) ∧ (1 ≤ i → ((i - 1) % C = C - 1 ↔ i % C = 0)) ∧ (i + C) % C = i % C := by
  have hc : C = 2 ∨ C = 3 ∨ C = 4 ∨ C = 5 ∨ C = 6 ∨ C = 7 ∨ C = 8 ∨ C = 9 ∨ C = 10 := by omega
  rcases hc with e | e | e | e | e | e | e | e | e <;> (subst e; refine ⟨?_, ?_, ?_, ?_⟩ <;> omega)
theorem col0 {C R j : Nat} (hC : 2 ≤ C) (hC2 : C ≤ 10) (hR : R ≤ 6) (hj : j < C * R) : (rcS C 0 0 1 R).testBit j = decide (j % C = 0) := by
  have h60 := cr60 hC2 hR
  rw [rcS, bs_tb, Bool.eq_iff_iff]
  simp only [Bool.and_eq_true, decide_eq_true_eq]
  have hd : j / C < R := by rw [Nat.div_lt_iff_lt_mul (by omega), Nat.mul_comm]; exact hj
  generalize j / C = q at *
  generalize j % C = r at *
  omega
theorem x1_nb {F : Nat} {N : Nat → Nat} {S : Nat} (hF : 100 < F) (h : DW N) (hS : S < 2 ^ (N 0 * N 1)) : fX1_neighbors F (nI (N 0)) (nI (N 1)) (lN S) = some (lN (nbS N S)) := by
  have h60 := lt60 h hS
  obtain ⟨⟨h1, h2, h3, h4, h5⟩, -⟩ := h
  unfold fX1_neighbors
  rw [il_0, il_1, bd1_e (x1_rect (C := N 0) (R := N 1) hF h1 h2 h4 (by omega) (by omega)), nm_s, pk_sub (by omega), wb_shl _ (by omega), lN_sdf, wb_shl _ (by omega), lN_sdf, lush_N (sdf_lt _ (lt64 h60)) (by omega), nm_s, fb_orL, wb_shl _ (by omega), lush_N (lt64 h60) (by omega), fb_orL, nm_s, bd1_e (x1_all h2 h4), fb_orL, fb_andL]
  congr 2
  apply tb_ext (n := N 0 * N 1) (Nat.and_lt_two_pow _ (al_lt2 N)) (nb_lt N S)
  intro i hi
  have h60' := cr60 h2 h4
  rw [nb_tb, Nat.testBit_and, al_tb, Nat.testBit_or, Nat.testBit_or, Nat.testBit_or, Nat.testBit_mul_two_pow, Nat.testBit_mul_two_pow, Nat.testBit_div_two_pow, Nat.testBit_div_two_pow, sdf_tb _ _ (lt64 h60), sdf_tb _ _ (lt64 h60), Nat.testBit_mul_two_pow]
  have m := mod_up (i := i) h1 h2
  have mm : i % N 0 < N 0 := Nat.mod_lt _ (by omega)
  have a1 : (decide (1 ≤ i) && (S.testBit (i - 1) && !(decide (N 0 - 1 ≤ i - 1) && (rcS (N 0) 0 0 1 (N 1)).testBit (i - 1 - (N 0 - 1))))) = (decide (i % N 0 ≠ 0) && S.testBit (i - 1)) := by
    by_cases hi1 : 1 ≤ i
    · by_cases hC : N 0 ≤ i
      · rw [show i - 1 - (N 0 - 1) = i - N 0 by omega, col0 h1 h2 h4 (by omega), m.2.1 hC, decide_eq_true hi1, decide_eq_true (show N 0 - 1 ≤ i - 1 by omega)]
        cases S.testBit (i - 1) <;> simp
      · have : i % N 0 = i := Nat.mod_eq_of_lt (by omega)
        rw [this, decide_eq_true hi1, decide_eq_false (show ¬ N 0 - 1 ≤ i - 1 by omega), decide_eq_true (show i ≠ 0 by omega)]
        simp
    · have : i = 0 := by omega
      subst this
      simp
  have a2 : (S.testBit (i + 1) && !(rcS (N 0) 0 0 1 (N 1)).testBit (i + 1)) = (decide (i % N 0 ≠ N 0 - 1) && S.testBit (i + 1)) := by
    by_cases hb : S.testBit (i + 1) = true
    · rw [hb, col0 h1 h2 h4 (tb_of hS hb), Bool.eq_iff_iff]
      simp only [Bool.true_and, Bool.and_true, Bool.not_eq_true', decide_eq_true_eq, decide_eq_false_iff_not]
      rw [m.1]
    · rw [Bool.eq_false_iff.mpr hb]; simp
  rw [a1, a2, decide_eq_true hi, Bool.true_and, Bool.and_true, Bool.or_assoc, Bool.or_assoc, Bool.or_assoc]
def gacc (C n S : Nat) : Nat → Nat
  | 0 => S
  | k + 1 => if S.testBit k then (((gacc C n S k ||| (if k % C ≤ 0 then 0 else 2 ^ (k - 1))) ||| (if C - 1 ≤ k % C then 0 else 2 ^ (k + 1))) ||| (if k < C then 0 else 2 ^ (k - C))) ||| (if n ≤ k + C then 0 else 2 ^ (k + C)) else gacc C n S k
theorem bit_one {S k : Nat} : S / 2 ^ k &&& 1 = if S.testBit k then 1 else 0 := by
  rw [Nat.and_one_is_mod, ← Nat.toNat_testBit]
  cases S.testBit k <;> rfl
theorem if_tb {c : Prop} [Decidable c] (k i : Nat) : (if c then 0 else 2 ^ k).testBit i = (decide (¬ c) && decide (k = i)) := by
  by_cases h : c
  · rw [if_pos h]; simp [h]
  · rw [if_neg h, Nat.testBit_two_pow]; simp [h]
theorem gacc_tb {C n S : Nat} (i : Nat) : ∀ m, (gacc C n S m).testBit i = true ↔ S.testBit i = true ∨ ∃ k, k < m ∧ S.testBit k = true ∧ ((¬ k % C ≤ 0 ∧ k - 1 = i) ∨ (¬ C - 1 ≤ k % C ∧ k + 1 = i) ∨ (¬ k < C ∧ k - C = i) ∨ (¬ n ≤ k + C ∧ k + C = i))
  | 0 => by simp [gacc]
  | m + 1 => by
    by_cases hb : S.testBit m = true
    · rw [gacc, if_pos hb, Nat.testBit_or, Nat.testBit_or, Nat.testBit_or, Nat.testBit_or, if_tb, if_tb, if_tb, if_tb]
      simp only [Bool.or_eq_true, Bool.and_eq_true, decide_eq_true_eq]
      rw [gacc_tb i m]
      constructor
      · rintro (((((h | ⟨k, h1, h2, h3⟩) | h) | h) | h) | h)
        · exact Or.inl h
        · exact Or.inr ⟨k, by omega, h2, h3⟩
        · exact Or.inr ⟨m, by omega, hb, Or.inl h⟩
        · exact Or.inr ⟨m, by omega, hb, Or.inr (Or.inl h)⟩
        · exact Or.inr ⟨m, by omega, hb, Or.inr (Or.inr (Or.inl h))⟩
        · exact Or.inr ⟨m, by omega, hb, Or.inr (Or.inr (Or.inr h))⟩
      · rintro (h | ⟨k, h1, h2, h3⟩)
        · exact Or.inl (Or.inl (Or.inl (Or.inl (Or.inl h))))
        · rcases Nat.lt_or_ge k m with q | q
          · exact Or.inl (Or.inl (Or.inl (Or.inl (Or.inr ⟨k, q, h2, h3⟩))))
          · have e : k = m := by omega
            subst e
            rcases h3 with h | h | h | h
            · exact Or.inl (Or.inl (Or.inl (Or.inr h)))
            · exact Or.inl (Or.inl (Or.inr h))
            · exact Or.inl (Or.inr h)
            · exact Or.inr h
    · rw [gacc, if_neg hb, gacc_tb i m]
      constructor
      · rintro (h | ⟨k, h1, h2, h3⟩)
        · exact Or.inl h
        · exact Or.inr ⟨k, by omega, h2, h3⟩
      · rintro (h | ⟨k, h1, h2, h3⟩)
        · exact Or.inl h
        · refine Or.inr ⟨k, ?_, h2, h3⟩
          rcases Nat.lt_or_ge k m with q | q
          · exact q
          · have e : k = m := by omega
            subst e; exact absurd h2 hb
theorem gacc_eq {N : Nat → Nat} {S : Nat} (h : DW N) (hS : S < 2 ^ (N 0 * N 1)) : gacc (N 0) (N 0 * N 1) S (N 0 * N 1) = S ||| nbS N S := by
  obtain ⟨⟨h1, h2, h3, h4, h5⟩, -⟩ := h
  apply Nat.eq_of_testBit_eq
  intro i
  rw [Bool.eq_iff_iff, gacc_tb, Nat.testBit_or, nb_tb]
  simp only [Bool.or_eq_true, Bool.and_eq_true, decide_eq_true_eq]
  have m := mod_up (i := i) h1 h2
  have m1 := mod_up (i := i + 1) h1 h2
  constructor
  · rintro (h | ⟨k, hk, hb, h⟩)
    · exact Or.inl h
    · refine Or.inr ?_
      rcases h with ⟨q1, q2⟩ | ⟨q1, q2⟩ | ⟨q1, q2⟩ | ⟨q1, q2⟩
      · have e : k = i + 1 := by
          rcases Nat.eq_zero_or_pos k with z | z
          · subst z; rw [Nat.zero_mod] at q1; omega
          · omega
        subst e
        exact ⟨by omega, Or.inl (Or.inl (Or.inr ⟨fun e => by have := m.1.mpr e; omega, hb⟩))⟩
      · subst q2
        have mk := mod_up (i := k) h1 h2
        refine ⟨?_, Or.inl (Or.inl (Or.inl ⟨fun e => by have := mk.1.mp e; omega, hb⟩))⟩
        rcases Nat.lt_or_ge (k + 1) (N 0 * N 1) with q | q
        · exact q
        · exfalso
          have e : k + 1 = N 0 * N 1 := by omega
          have : (k + 1) % N 0 = 0 := by rw [e, Nat.mul_mod_right]
          have := mk.1.mp this
          omega
      · have e : k = i + N 0 := by omega
        subst e
        exact ⟨by omega, Or.inr hb⟩
      · subst q2
        refine ⟨by omega, Or.inl (Or.inr ⟨by omega, ?_⟩)⟩
        rw [Nat.add_sub_cancel]; exact hb
  · rintro (h | ⟨hi, h⟩)
    · exact Or.inl h
    · refine Or.inr ?_
      rcases h with ((⟨q1, q2⟩ | ⟨q1, q2⟩) | ⟨q1, q2⟩) | q2
      · have hi1 : 1 ≤ i := by
          rcases Nat.eq_zero_or_pos i with z | z
          · subst z; rw [Nat.zero_mod] at q1; exact absurd rfl q1
          · exact z
        refine ⟨i - 1, tb_of hS q2, q2, Or.inr (Or.inl ⟨fun e => ?_, by omega⟩)⟩
        have hm : (i - 1) % N 0 < N 0 := Nat.mod_lt _ (by omega)
        have := (m.2.2.1 hi1).mp (by omega)
        exact q1 this
      · exact ⟨i + 1, tb_of hS q2, q2, Or.inl ⟨fun e => q1 (m.1.mp (by omega)), by omega⟩⟩
      · exact ⟨i - N 0, by omega, q2, Or.inr (Or.inr (Or.inr ⟨by omega, by omega⟩))⟩
      · exact ⟨i + N 0, tb_of hS q2, q2, Or.inr (Or.inr (Or.inl ⟨by omega, by omega⟩))⟩
theorem x6_grow {F : Nat} {N : Nat → Nat} {S : Nat} (hF : 100 < F) (h : DW N) (hS : S < 2 ^ (N 0 * N 1)) : fX6_grown F (lA N) (lN S) = some (lN (S ||| nbS N S)) := by
  have hg := gacc_eq h hS
  have h60 := lt60 h hS
  obtain ⟨⟨h1, h2, h3, h4, h5⟩, -⟩ := h
  have hn := cr60 h2 h4
  unfold fX6_grown
  rw [il_0, bd1_e (many_s (by omega)), il_1, bd1_e (many_s (by omega)), pk_mul, nm_s]
  rw [← hg]
  have L := lp_seqE (body := fX6_grown_l18 (lA N) (lN S) (nI (N 0 * N 1))) (S := fun j => (lN (gacc (N 0) (N 0 * N 1) S j), nI j)) (x0 := (lN S, nI 0)) rfl (n := N 0 * N 1) (a := lN (gacc (N 0) (N 0 * N 1) S (N 0 * N 1))) (F := F) (fun k hk => ?_) ?_ (by omega)
  · exact (bd1_e L).trans rfl
  · show fX6_grown_l18 (lA N) (lN S) (nI (N 0 * N 1)) (lN (gacc (N 0) (N 0 * N 1) S k), nI k) = some (.inl (lN (gacc (N 0) (N 0 * N 1) S (k + 1)), nI (k + 1)))
    unfold fX6_grown_l18
    rw [uc2_s, if_neg (nI_ge hk (by omega)), ll_1, ll_63, srL (lt62 h60) (by omega), fb_andL, bit_one, gacc]
    by_cases hb : S.testBit k = true
    · rw [if_pos hb, if_pos hb]
      have mm : k % N 0 < N 0 := Nat.mod_lt _ (by omega)
      have mk : k % N 0 ≤ k := Nat.mod_le _ _
      by_cases q1 : k % N 0 ≤ 0 <;> by_cases q2 : N 0 - 1 ≤ k % N 0 <;> by_cases q3 : k < N 0 <;> by_cases q4 : N 0 * N 1 ≤ k + N 0 <;> first | (exfalso; omega) | simp (disch := omega) only [cmpL, bd1_s, bd2_s, bd3_s, bd4_s, bd5_s, bd6_s, bd7_s, bd8_s, bd9_s, bd10_s, bd11_s, bd12_s, bd13_s, uc0_s, uc1_s, uc2_s, uc3_s, uc4_s, uc5_s, uc6_s, uc7_s, uc8_s, uc9_s, uc10_s, uc11_s, uc12_s, uc13_s, nm_s, bdS2_1, bdS2_2, gb_0, gb_1, il_0, il_1, il_2, il_3, il_4, il_5, il_6, il_7, il_8, il_9, il_10, il_11, il_12, il_13, il_14, il_15, il_16, il_17, il_18, il_19, il_20, il_21, il_22, il_23, il_24, il_25, il_26, il_27, il_28, il_29, il_30, il_31, il_32, il_39, il_40, il_42, il_48, il_50, il_52, il_57, il_59, il_60, il_61, il_63, il_64, il_96, il_97, il_99, il_100, il_122, il_127, il_150, il_160, il_300, il_400, il_999, il_1000, il_1000000, nI_ltI, nI_leI, nI_eq, nI_add, pk_mul, pk_sub, nI_clamp, gd_nI, gz_nI, if_pos, if_neg, neI, neI2, gbN0, gbN1, Nat.reduceAdd, Nat.reduceMul, Nat.zero_add, Nat.add_zero, not_true_eq_false, not_false_eq_true, if_true, if_false, ite_true, ite_false, ll_0, ll_1, ll_2, ll_3, ll_4, ll_5, ll_6, ll_7, ll_8, ll_31, ll_32, ll_63, ll_96, ll_401698, ll_17092712, ll_525908, ll_402891, ll_17479784, ll_71108, ll_17171557, ll_536622, ll_17084916, ll_659111269, fb_andL, fb_orL, fb_xorL, sdL, shL, lush_N, Nat.one_mul, many_s, pk_rem]
    · rw [if_neg hb, if_neg hb]
      simp (disch := omega) only [cmpL, bd1_s, bd2_s, bd3_s, bd4_s, bd5_s, bd6_s, bd7_s, bd8_s, bd9_s, bd10_s, bd11_s, bd12_s, bd13_s, uc0_s, uc1_s, uc2_s, uc3_s, uc4_s, uc5_s, uc6_s, uc7_s, uc8_s, uc9_s, uc10_s, uc11_s, uc12_s, uc13_s, nm_s, bdS2_1, bdS2_2, gb_0, gb_1, il_0, il_1, il_2, il_3, il_4, il_5, il_6, il_7, il_8, il_9, il_10, il_11, il_12, il_13, il_14, il_15, il_16, il_17, il_18, il_19, il_20, il_21, il_22, il_23, il_24, il_25, il_26, il_27, il_28, il_29, il_30, il_31, il_32, il_39, il_40, il_42, il_48, il_50, il_52, il_57, il_59, il_60, il_61, il_63, il_64, il_96, il_97, il_99, il_100, il_122, il_127, il_150, il_160, il_300, il_400, il_999, il_1000, il_1000000, nI_ltI, nI_leI, nI_eq, nI_add, pk_mul, pk_sub, nI_clamp, gd_nI, gz_nI, if_pos, if_neg, neI, neI2, gbN0, gbN1, Nat.reduceAdd, Nat.reduceMul, Nat.zero_add, Nat.add_zero, not_true_eq_false, not_false_eq_true, if_true, if_false, ite_true, ite_false]
  · show fX6_grown_l18 (lA N) (lN S) (nI (N 0 * N 1)) (lN (gacc (N 0) (N 0 * N 1) S (N 0 * N 1)), nI (N 0 * N 1)) = _
    unfold fX6_grown_l18
    rw [uc2_s, if_pos (nI_le (Nat.le_refl _) (by omega))]
