theorem ifc0 {ρ : Type} {X Y : ρ} {a b : Nat} (ha : a < 2 ^ 60) (hb : b < 2 ^ 60) (q : a = b) : (if lg_cmp (lN a) (lN b) = 0 then X else Y) = X := if_pos ((cmp0 (lt63 ha) (lt63 hb)).mpr q)
theorem ifc1 {ρ : Type} {X Y : ρ} {a b : Nat} (ha : a < 2 ^ 60) (hb : b < 2 ^ 60) (q : ¬ a = b) : (if lg_cmp (lN a) (lN b) = 0 then X else Y) = Y := if_neg (fun h => q ((cmp0 (lt63 ha) (lt63 hb)).mp h))
theorem ifn0 {ρ : Type} {X Y : ρ} {a b : Nat} (ha : a < 2 ^ 60) (hb : b < 2 ^ 60) (q : a = b) : (if ¬ lg_cmp (lN a) (lN b) = 0 then X else Y) = Y := if_neg (fun h => h ((cmp0 (lt63 ha) (lt63 hb)).mpr q))
theorem ifn1 {ρ : Type} {X Y : ρ} {a b : Nat} (ha : a < 2 ^ 60) (hb : b < 2 ^ 60) (q : ¬ a = b) : (if ¬ lg_cmp (lN a) (lN b) = 0 then X else Y) = X := if_pos (fun h => q ((cmp0 (lt63 ha) (lt63 hb)).mp h))
theorem many_0 (N : Nat → Nat) : fX6_many (lA N) 0 = some (nI (N 0)) := many_s (k := 0) (by omega)
theorem many_1 (N : Nat → Nat) : fX6_many (lA N) 1 = some (nI (N 1)) := many_s (k := 1) (by omega)
theorem many_8 (N : Nat → Nat) : fX6_many (lA N) 8 = some (nI (N 8)) := many_s (k := 8) (by omega)
theorem z60 : (0 : Nat) < 2 ^ 60 := by decide
/-- the cells that hold, and one step from a set within them -/
def hoS (N : Nat → Nat) : Nat := (N 14 ||| N 15) ||| crS N
def itS (N : Nat → Nat) (S : Nat) : Nat := S ||| (nbS N S &&& hoS N)
def itn (N : Nat → Nat) : Nat → Nat
  | 0 => crS N
  | j + 1 => itS N (itn N j)
theorem and_lt_l {a b n : Nat} (h : a < 2 ^ n) : a &&& b < 2 ^ n := by rw [Nat.and_comm]; exact Nat.and_lt_two_pow _ h
theorem ho_lt {N : Nat → Nat} (h : DW N) : hoS N < 2 ^ (N 0 * N 1) := Nat.or_lt_two_pow (Nat.or_lt_two_pow h.2.1.1 h.2.1.2) (car_in h)
theorem it_lt {N : Nat → Nat} {S : Nat} (hS : S < 2 ^ (N 0 * N 1)) : itS N S < 2 ^ (N 0 * N 1) := Nat.or_lt_two_pow hS (and_lt_l (nb_lt N S))
theorem itn_lt {N : Nat → Nat} (h : DW N) : ∀ j, itn N j < 2 ^ (N 0 * N 1)
  | 0 => car_in h
  | j + 1 => it_lt (itn_lt h j)
theorem it_tb (N : Nat → Nat) (S i : Nat) : (itS N S).testBit i = (S.testBit i || ((nbS N S).testBit i && (hoS N).testBit i)) := by rw [itS, Nat.testBit_or, Nat.testBit_and]
theorem itn_in {N : Nat → Nat} : ∀ j i, (itn N j).testBit i = true → (hoS N).testBit i = true
  | 0, i => fun q => by
    have q : (crS N).testBit i = true := q
    rw [hoS, Nat.testBit_or, q, Bool.or_true]
  | j + 1, i => fun q => by
    rw [itn, it_tb, Bool.or_eq_true, Bool.and_eq_true] at q
    rcases q with q | q
    · exact itn_in j i q
    · exact q.2
theorem itn_fix {N : Nat → Nat} {j : Nat} (h : itn N (j + 1) = itn N j) : ∀ d, itn N (j + d) = itn N j
  | 0 => rfl
  | d + 1 => by
    rw [← Nat.add_assoc, itn, itn_fix h d]
    exact h
theorem ct_grow {S T : Nat} (h1 : ∀ i, S.testBit i = true → T.testBit i = true) (h2 : S ≠ T) (hT : T < 2 ^ 60) : fb_ct S.testBit 60 < fb_ct T.testBit 60 := by
  obtain ⟨i, hi⟩ := Nat.exists_testBit_ne_of_ne h2
  have ha : S.testBit i = false := by
    cases e : S.testBit i with
    | false => rfl
    | true => exact absurd (e.trans (h1 i e).symm) hi
  have hb : T.testBit i = true := by
    cases e : T.testBit i with
    | true => rfl
    | false => exact absurd (ha.trans e.symm) hi
  have hi60 : i < 60 := tb_of hT hb
  have e1 : fb_ct T.testBit 60 = fb_ct (fun k => S.testBit k || (T.testBit k && !S.testBit k)) 60 := fb_ct_cong (fun k _ => by
    cases e : S.testBit k with
    | false => simp
    | true => simp [h1 k e])
  rw [e1, fb_ct_or (fun k _ => by cases S.testBit k <;> simp)]
  have : 0 < fb_ct (fun k => T.testBit k && !S.testBit k) 60 := fb_ct_pos.mpr ⟨i, hi60, by simp [ha, hb]⟩
  omega
theorem itn_stop {N : Nat → Nat} (h : DW N) : ∃ j, j < 61 ∧ itn N (j + 1) = itn N j := by
  by_cases hx : ∃ j, j < 61 ∧ itn N (j + 1) = itn N j
  · exact hx
  · exfalso
    have hne : ∀ j, j < 61 → itn N (j + 1) ≠ itn N j := fun j hj e => hx ⟨j, hj, e⟩
    have key : ∀ j, j ≤ 61 → j ≤ fb_ct (itn N j).testBit 60 := by
      intro j
      induction j with
      | zero => intro _; omega
      | succ j ih =>
        intro hj
        have h1 := ih (by omega)
        have h2 := ct_grow (S := itn N j) (T := itn N (j + 1)) (fun i q => by rw [itn, it_tb, q, Bool.true_or]) (fun e => hne j (by omega) e.symm) (lt60 h (itn_lt h _))
        omega
    have h1 := key 61 (Nat.le_refl _)
    have h2 := fb_ct_le (itn N 61).testBit 60
    omega
theorem itn_first {N : Nat → Nat} (h : DW N) : ∃ j, j < 61 ∧ itn N (j + 1) = itn N j ∧ ∀ i, i < j → ¬ itn N (i + 1) = itn N i := fb_first (p := fun j => itn N (j + 1) = itn N j) (itn_stop h)
def loS (N : Nat → Nat) : Nat := sdf (paS N) (itn N 61)
theorem lo_lt {N : Nat → Nat} (h : DW N) : loS N < 2 ^ (N 0 * N 1) := sdf_lt _ (pa_lt h)
theorem itn_61 {N : Nat → Nat} {j : Nat} (hj : j < 61) (e : itn N (j + 1) = itn N j) : itn N j = itn N 61 := by
  have := itn_fix e (61 - j)
  rw [show j + (61 - j) = 61 by omega] at this
  exact this.symm
theorem x1_loose {F : Nat} {N : Nat → Nat} (hF : 100 < F) (h : DW N) : fX1_looseCells F (nI (N 0)) (nI (N 1)) (nI (N 2)) (lN (N 14)) (lN (N 15)) = some (lN (loS N)) := by
  unfold fX1_looseCells
  rw [bd1_e (x1_car h), nm_s, fb_orL, fb_orL]
  obtain ⟨n, hn, e, hne⟩ := itn_first h
  have L := lp_seqE (body := fX1_looseCells_l20 F (nI (N 0)) (nI (N 1)) (lN (hoS N))) (S := fun j => (lN (itn N j), nI j)) (x0 := (lN (crS N), nI 0)) rfl (n := n) (a := lN (itn N n)) (F := F) (fun j hj => by
      show fX1_looseCells_l20 F (nI (N 0)) (nI (N 1)) (lN (hoS N)) (lN (itn N j), nI j) = _
      unfold fX1_looseCells_l20
      rw [uc2_s, il_60, if_neg (nI_ge (by omega) (by omega)), bd1_e (x1_nb hF h (itn_lt h j)), nm_s, fb_andL, fb_orL]
      exact (ifn1 (a := itn N (j + 1)) (lt60 h (itn_lt h (j + 1))) (lt60 h (itn_lt h j)) (hne j hj)).trans (by rw [il_1, nI_add]; rfl)) (by
      show fX1_looseCells_l20 F (nI (N 0)) (nI (N 1)) (lN (hoS N)) (lN (itn N n), nI n) = _
      unfold fX1_looseCells_l20
      rw [uc2_s, il_60]
      by_cases q : 60 ≤ n
      · rw [if_pos (nI_le q (by omega))]
      · rw [if_neg (nI_ge (by omega) (by omega)), bd1_e (x1_nb hF h (itn_lt h n)), nm_s, fb_andL, fb_orL]
        exact ifn0 (a := itn N (n + 1)) (lt60 h (itn_lt h (n + 1))) (lt60 h (itn_lt h n)) e) (by omega)
  refine (bd1_e L).trans ?_
  rw [bd1_e (x1_part h), lN_sdf, itn_61 hn e]
  rfl
theorem ho_eq {N : Nat → Nat} (h : DW N) : (paS N ||| liS N) ||| crS N = hoS N := by
  apply Nat.eq_of_testBit_eq
  intro i
  rw [hoS, Nat.testBit_or, Nat.testBit_or, Nat.testBit_or, Nat.testBit_or, pa_tb h, li_tb h]
  cases (N 14).testBit i <;> cases (N 15).testBit i <;> cases (crS N).testBit i <;> simp
theorem it_eq {N : Nat → Nat} (j : Nat) : (itn N j ||| nbS N (itn N j)) &&& hoS N = itn N (j + 1) := by
  apply Nat.eq_of_testBit_eq
  intro i
  rw [itn, it_tb, Nat.testBit_and, Nat.testBit_or]
  cases e : (itn N j).testBit i with
  | false => simp
  | true => simp [itn_in j i e]
theorem x6_loose {F : Nat} {N : Nat → Nat} (hF : 100 < F) (h : DW N) : fX6_loose F (lA N) = some (lN (loS N)) := by
  unfold fX6_loose
  rw [bd1_e (x6_part hF h), bd1_e (x6_links hF h), bd1_e (x6_car hF h), nm_s, fb_orL, fb_orL, ho_eq h, bd1_e (x6_car hF h)]
  obtain ⟨n, hn, e, hne⟩ := itn_first h
  have L := lp_seqE (body := fX6_loose_l23 F (lA N) (lN (hoS N))) (S := fun j => (lN (itn N j), lN (if j = 0 then 0 else itn N (j - 1)))) (x0 := (lN (crS N), lN 0)) rfl (n := n + 1) (a := lN (itn N (n + 1))) (F := F) (fun j hj => by
      show fX6_loose_l23 F (lA N) (lN (hoS N)) (lN (itn N j), lN (if j = 0 then 0 else itn N (j - 1))) = some (.inl (lN (itn N (j + 1)), lN (itn N j)))
      unfold fX6_loose_l23
      have hc : ¬ lg_cmp (lN (if j = 0 then 0 else itn N (j - 1))) (lN (itn N j)) = 0 := by
        by_cases q : j = 0
        · subst q
          rw [if_pos rfl]
          intro q2
          exact car_ne h ((cmpL (by decide) (lt63 (lt60 h (itn_lt h 0)))).mp q2).symm
        · rw [if_neg q]
          intro q2
          have q3 := (cmpL (lt63 (lt60 h (itn_lt h (j - 1)))) (lt63 (lt60 h (itn_lt h j)))).mp q2
          exact hne (j - 1) (by omega) (by rw [show j - 1 + 1 = j by omega]; exact q3.symm)
      rw [uc2_s, if_neg hc, bd1_e (x6_grow hF h (itn_lt h j)), nm_s, fb_andL, it_eq]) (by
      show fX6_loose_l23 F (lA N) (lN (hoS N)) (lN (itn N (n + 1)), lN (itn N n)) = _
      unfold fX6_loose_l23
      rw [uc2_s, ifc0 (lt60 h (itn_lt h n)) (lt60 h (itn_lt h (n + 1))) e.symm]) (by omega)
  refine (bd1_e L).trans ?_
  rw [bd1_e (x6_part hF h), lN_sdf, e, itn_61 hn e]
  rfl
/-! turned by half a turn -/
def htS (N : Nat → Nat) (S : Nat) : Nat := orS (fun k => if S.testBit k then 2 ^ (N 0 * N 1 - 1 - k) else 0) (N 0 * N 1)
theorem ht_lt (N : Nat → Nat) (S : Nat) : htS N S < 2 ^ (N 0 * N 1) := by
  apply Nat.lt_pow_two_of_testBit
  intro i hi
  rw [Bool.eq_false_iff]
  intro q
  obtain ⟨b, h1, h2⟩ := (orS_tb _ _ _).mp q
  split at h2
  · rw [Nat.testBit_two_pow] at h2
    have := of_decide_eq_true h2
    omega
  · simp at h2
theorem x1_half {F : Nat} {N : Nat → Nat} {S : Nat} (hF : 100 < F) (h : DW N) (hS : S < 2 ^ (N 0 * N 1)) : fX1_halfTurned F (nI (N 0)) (nI (N 1)) (lN S) = some (lN (htS N S)) := by
  have h60 := lt60 h hS
  obtain ⟨⟨h1, h2, h3, h4, h5⟩, -⟩ := h
  have hn := cr60 h2 h4
  have hn1 : 1 ≤ N 0 * N 1 := Nat.mul_pos (by omega) (by omega)
  unfold fX1_halfTurned
  rw [pk_mul, il_1, pk_sub hn1, nm_s]
  have L := lp_seqE (body := fX1_halfTurned_l18 (lN S) (nI (N 0 * N 1 - 1))) (S := fun j => (lN (orS (fun k => if S.testBit k then 2 ^ (N 0 * N 1 - 1 - k) else 0) j), nI j)) (x0 := (lN 0, nI 0)) rfl (n := N 0 * N 1) (a := lN (htS N S)) (F := F) (fun k hk => by
      show fX1_halfTurned_l18 (lN S) (nI (N 0 * N 1 - 1)) (lN (orS (fun k => if S.testBit k then 2 ^ (N 0 * N 1 - 1 - k) else 0) k), nI k) = _
      unfold fX1_halfTurned_l18
      rw [uc2_s, if_neg (nI_nlt (by omega) (by omega)), lush_N (lt64 h60) (by omega), ll_1, fb_andL, bit_one, pk_sub (by omega), wb_shl _ (by omega), fb_orL, nm_s, il_1, nI_add]
      show some (Sum.inl (lN (_ ||| (if S.testBit k then 1 else 0) * _), nI (k + 1))) = some (Sum.inl (lN (_ ||| if S.testBit k then _ else 0), nI (k + 1)))
      by_cases q : S.testBit k = true
      · rw [if_pos q, if_pos q, Nat.one_mul]
      · rw [if_neg q, if_neg q, Nat.zero_mul]) (by
      show fX1_halfTurned_l18 (lN S) (nI (N 0 * N 1 - 1)) (lN (htS N S), nI (N 0 * N 1)) = _
      unfold fX1_halfTurned_l18
      rw [uc2_s, if_pos (nI_lt (by omega) (by omega))]) (by omega)
  exact (bd1_e L).trans rfl
def fiS (N : Nat → Nat) : Bool := decide (paS N ≠ 0) && decide (htS N (paS N) &&& ((crS N ||| paS N) ||| nbS N (paS N)) = 0)
theorem x1_second {F : Nat} {N : Nat → Nat} (hF : 100 < F) (h : DW N) : fX1_hasPlaceForSecond F (nI (N 0)) (nI (N 1)) (nI (N 2)) (lN (N 14)) = some (if fiS N = true then nI 1 else nI 0) := by
  unfold fX1_hasPlaceForSecond
  rw [bd1_e (x1_part h), bd1_e (x1_half hF h (pa_lt h)), ll_0]
  by_cases q : paS N = 0
  · rw [ifc0 (lt60 h (pa_lt h)) z60 q, if_neg (by simp [fiS, q])]; rfl
  · rw [ifc1 (lt60 h (pa_lt h)) z60 q, bd1_e (x1_car h), bd1_e (x1_nb hF h (pa_lt h)), fb_orL, fb_orL, fb_andL]
    have hl : htS N (paS N) &&& ((crS N ||| paS N) ||| nbS N (paS N)) < 2 ^ 60 := lt60 h (and_lt_l (ht_lt N _))
    by_cases q2 : htS N (paS N) &&& ((crS N ||| paS N) ||| nbS N (paS N)) = 0
    · rw [ifn0 hl z60 q2, if_pos (by simp [fiS, q, q2])]; rfl
    · rw [ifn1 hl z60 q2, if_neg (by simp [fiS, q2])]; rfl
theorem x6_fits {F : Nat} {N : Nat → Nat} (hF : 100 < F) (h : DW N) : fX6_fits F (lA N) = some (if fiS N = true then nI 1 else nI 0) := by
  unfold fX6_fits
  have h60 := lt60 h (pa_lt h)
  have hn := cr60 h.1.2.1 h.1.2.2.2.1
  have hn1 : 1 ≤ N 0 * N 1 := Nat.mul_pos (by have := h.1.1; omega) (by have := h.1.2.2.1; omega)
  rw [bd1_e (x6_part hF h), bd1_e (many_0 N), bd1_e (many_1 N), pk_mul, nm_s]
  have L := lp_seqE (body := fX6_fits_l23 (lN (paS N)) (nI (N 0 * N 1))) (S := fun j => (lN (orS (fun k => if (paS N).testBit k then 2 ^ (N 0 * N 1 - 1 - k) else 0) j), nI j)) (x0 := (lN 0, nI 0)) rfl (n := N 0 * N 1) (a := lN (htS N (paS N))) (F := F) (fun k hk => by
      show fX6_fits_l23 (lN (paS N)) (nI (N 0 * N 1)) (lN (orS (fun k => if (paS N).testBit k then 2 ^ (N 0 * N 1 - 1 - k) else 0) k), nI k) = _
      unfold fX6_fits_l23
      rw [uc2_s, if_neg (nI_ge hk (by omega)), ll_1, ll_63, srL (lt62 h60) (by omega), fb_andL, bit_one]
      show _ = some (Sum.inl (lN (_ ||| if (paS N).testBit k then _ else 0), nI (k + 1)))
      by_cases q : (paS N).testBit k = true
      · rw [if_pos q, if_pos q]
        simp (disch := omega) only [cmpL, bd1_s, bd2_s, bd3_s, bd4_s, bd5_s, bd6_s, bd7_s, bd8_s, bd9_s, bd10_s, bd11_s, bd12_s, bd13_s, uc0_s, uc1_s, uc2_s, uc3_s, uc4_s, uc5_s, uc6_s, uc7_s, uc8_s, uc9_s, uc10_s, uc11_s, uc12_s, uc13_s, nm_s, bdS2_1, bdS2_2, gb_0, gb_1, il_0, il_1, il_2, il_3, il_4, il_5, il_6, il_7, il_8, il_9, il_10, il_11, il_12, il_13, il_14, il_15, il_16, il_17, il_18, il_19, il_20, il_21, il_22, il_23, il_24, il_25, il_26, il_27, il_28, il_29, il_30, il_31, il_32, il_39, il_40, il_42, il_48, il_50, il_52, il_57, il_59, il_60, il_61, il_63, il_64, il_96, il_97, il_99, il_100, il_122, il_127, il_150, il_160, il_300, il_400, il_999, il_1000, il_1000000, nI_ltI, nI_leI, nI_eq, nI_add, pk_mul, pk_sub, nI_clamp, gd_nI, gz_nI, if_pos, if_neg, neI, neI2, gbN0, gbN1, Nat.reduceAdd, Nat.reduceMul, Nat.zero_add, Nat.add_zero, not_true_eq_false, not_false_eq_true, if_true, if_false, ite_true, ite_false, ll_0, ll_1, ll_2, ll_3, ll_4, ll_5, ll_6, ll_7, ll_8, ll_31, ll_32, ll_63, ll_96, ll_401698, ll_17092712, ll_525908, ll_402891, ll_17479784, ll_71108, ll_17171557, ll_536622, ll_17084916, ll_659111269, fb_andL, fb_orL, fb_xorL, sdL, shL, lush_N, Nat.one_mul]
      · rw [if_neg q, if_neg q]
        simp (disch := omega) only [cmpL, bd1_s, bd2_s, bd3_s, bd4_s, bd5_s, bd6_s, bd7_s, bd8_s, bd9_s, bd10_s, bd11_s, bd12_s, bd13_s, uc0_s, uc1_s, uc2_s, uc3_s, uc4_s, uc5_s, uc6_s, uc7_s, uc8_s, uc9_s, uc10_s, uc11_s, uc12_s, uc13_s, nm_s, bdS2_1, bdS2_2, gb_0, gb_1, il_0, il_1, il_2, il_3, il_4, il_5, il_6, il_7, il_8, il_9, il_10, il_11, il_12, il_13, il_14, il_15, il_16, il_17, il_18, il_19, il_20, il_21, il_22, il_23, il_24, il_25, il_26, il_27, il_28, il_29, il_30, il_31, il_32, il_39, il_40, il_42, il_48, il_50, il_52, il_57, il_59, il_60, il_61, il_63, il_64, il_96, il_97, il_99, il_100, il_122, il_127, il_150, il_160, il_300, il_400, il_999, il_1000, il_1000000, nI_ltI, nI_leI, nI_eq, nI_add, pk_mul, pk_sub, nI_clamp, gd_nI, gz_nI, if_pos, if_neg, neI, neI2, gbN0, gbN1, Nat.reduceAdd, Nat.reduceMul, Nat.zero_add, Nat.add_zero, not_true_eq_false, not_false_eq_true, if_true, if_false, ite_true, ite_false, ll_0, ll_1, ll_2, ll_3, ll_4, ll_5, ll_6, ll_7, ll_8, ll_31, ll_32, ll_63, ll_96, ll_401698, ll_17092712, ll_525908, ll_402891, ll_17479784, ll_71108, ll_17171557, ll_536622, ll_17084916, ll_659111269, fb_andL, fb_orL, fb_xorL, sdL, shL, lush_N, Nat.one_mul]) (by
      show fX6_fits_l23 (lN (paS N)) (nI (N 0 * N 1)) (lN (htS N (paS N)), nI (N 0 * N 1)) = _
      unfold fX6_fits_l23
      rw [uc2_s, if_pos (nI_le (Nat.le_refl _) (by omega))]) (by omega)
  refine (bd1_e L).trans ?_
  rw [ll_0]
  by_cases q : paS N = 0
  · rw [ifc0 h60 z60 q, if_neg (by simp [fiS, q])]; rfl
  · rw [ifc1 h60 z60 q, bd1_e (x6_car hF h), bd1_e (x6_grow hF h (pa_lt h)), fb_orL, fb_andL, ← Nat.or_assoc]
    have hl : htS N (paS N) &&& ((crS N ||| paS N) ||| nbS N (paS N)) < 2 ^ 60 := lt60 h (and_lt_l (ht_lt N _))
    by_cases q2 : htS N (paS N) &&& ((crS N ||| paS N) ||| nbS N (paS N)) = 0
    · rw [ifn0 hl z60 q2, if_pos (by simp [fiS, q, q2])]; rfl
    · rw [ifn1 hl z60 q2, if_neg (by simp [fiS, q2])]; rfl
