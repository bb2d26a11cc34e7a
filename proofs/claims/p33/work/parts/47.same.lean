theorem lp_cnt {σ α : Type} {body : σ → Option (σ ⊕ α)} (P : Nat → σ → Prop) (n : Nat) (Q : α → Prop) (hs : ∀ j, j < n → ∀ x, P j x → ∃ x', body x = some (.inl x') ∧ P (j + 1) x') (he : ∀ x, P n x → ∃ a, body x = some (.inr a) ∧ Q a) {x0 : σ} (h0 : P 0 x0) {F : Nat} (hF : n < F) : ∃ a, lp body F x0 = some a ∧ Q a := by
  have key : ∀ (d m F : Nat) (x : σ), m + d = n → d < F → P m x → ∃ a, lp body F x = some a ∧ Q a := by
    intro d
    induction d with
    | zero =>
      intro m F x h hF hp
      have e : m = n := by omega
      subst e
      obtain ⟨a, h1, h2⟩ := he x hp
      cases F with
      | zero => omega
      | succ F => exact ⟨a, by unfold lp; rw [h1], h2⟩
    | succ d ih =>
      intro m F x h hF hp
      obtain ⟨x', h1, h2⟩ := hs m (by omega) x hp
      cases F with
      | zero => omega
      | succ F =>
        obtain ⟨a, h3, h4⟩ := ih (m + 1) F x' (by omega) (by omega) h2
        exact ⟨a, by unfold lp; rw [h1]; exact h3, h4⟩
  exact key n 0 F x0 (by omega) hF h0
/-- the same die -/
def EqD (M N : Nat → Nat) : Prop := ∀ j, j < 60 → j ≠ 9 → j ≠ 10 → j ≠ 11 → j ≠ 12 → M j = N j
theorem EqD.rf (N : Nat → Nat) : EqD N N := fun _ _ _ _ _ _ => rfl
theorem EqD.tr {A B C : Nat → Nat} (h : EqD A B) (g : EqD B C) : EqD A C := fun j a b c d e => (h j a b c d e).trans (g j a b c d e)
theorem orS_cong {f g : Nat → Nat} : ∀ {n : Nat}, (∀ k, k < n → f k = g k) → orS f n = orS g n
  | 0, _ => rfl
  | n + 1, h => by rw [orS, orS, orS_cong (fun k hk => h k (by omega)), h n (by omega)]
section
variable {M N : Nat → Nat} (e : EqD M N) (h8 : N 8 ≤ 6)
theorem e_i (e : EqD M N) {j : Nat} (h1 : j < 60) (h2 : j < 9 ∨ 13 ≤ j) : M j = N j := e j h1 (by omega) (by omega) (by omega) (by omega)
theorem e_cr (e : EqD M N) : crS M = crS N := by
  unfold crS
  rw [e_i e (j := 0) (by omega) (by omega), e_i e (j := 1) (by omega) (by omega), e_i e (j := 2) (by omega) (by omega)]
theorem e_al (e : EqD M N) : alS M = alS N := by
  unfold alS
  rw [e_i e (j := 0) (by omega) (by omega), e_i e (j := 1) (by omega) (by omega)]
theorem e_pa (e : EqD M N) : paS M = paS N := by
  unfold paS
  rw [e_i e (j := 14) (by omega) (by omega), e_cr e]
theorem e_li (e : EqD M N) : liS M = liS N := by
  unfold liS
  rw [e_i e (j := 15) (by omega) (by omega), e_cr e]
theorem e_wa (e : EqD M N) : waS M = waS N := by
  unfold waS
  rw [e_i e (j := 14) (by omega) (by omega), e_i e (j := 15) (by omega) (by omega), e_cr e, e_al e]
theorem e_op (e : EqD M N) {o : Nat} (ho : o < 6) : opS M o = opS N o := by
  unfold opS
  rw [e_i e (j := 0) (by omega) (by omega), e_i e (j := 20 + 6 * o + 1) (by omega) (by omega), e_i e (j := 20 + 6 * o + 2) (by omega) (by omega), e_i e (j := 20 + 6 * o + 3) (by omega) (by omega), e_i e (j := 20 + 6 * o + 4) (by omega) (by omega)]
theorem e_kd (e : EqD M N) {o : Nat} (ho : o < 6) : kd M o = kd N o := e_i e (j := 20 + 6 * o + 0) (by omega) (by omega)
theorem e_sp (e : EqD M N) {o : Nat} (ho : o < 6) : spN M o = spN N o := by
  unfold spN
  rw [e_i e (j := 20 + 6 * o + 5) (by omega) (by omega)]
theorem e_8 (e : EqD M N) : M 8 = N 8 := e_i e (by omega) (by omega)
theorem e_bn (e : EqD M N) (h8 : N 8 ≤ 6) : bnS M (M 8) = bnS N (N 8) := by
  unfold bnS
  rw [e_8 e]
  exact orS_cong (fun k hk => by rw [e_kd e (by omega)])
theorem e_oa (e : EqD M N) (h8 : N 8 ≤ 6) (p : Nat) : oaS M p = oaS N p := by
  unfold oaS
  rw [e_8 e]
  exact orS_cong (fun k hk => by rw [e_sp e (by omega)])
theorem e_ps (e : EqD M N) : ∀ n, n ≤ 6 → psS M n = psS N n
  | 0, _ => rfl
  | n + 1, h => by rw [psS, psS, e_ps e n (by omega), e_sp e (by omega)]
theorem e_DW (e : EqD M N) (h : DW N) : DW M := by
  have h8 := h.2.2.2.1.1
  unfold DW
  rw [e_i e (j := 0) (by omega) (by omega), e_i e (j := 1) (by omega) (by omega), e_i e (j := 2) (by omega) (by omega), e_i e (j := 3) (by omega) (by omega), e_i e (j := 4) (by omega) (by omega), e_i e (j := 5) (by omega) (by omega), e_i e (j := 6) (by omega) (by omega), e_i e (j := 7) (by omega) (by omega), e_i e (j := 8) (by omega) (by omega), e_i e (j := 13) (by omega) (by omega), e_i e (j := 14) (by omega) (by omega), e_i e (j := 15) (by omega) (by omega)]
  refine ⟨h.1, h.2.1, h.2.2.1, h.2.2.2.1, fun o ho => ?_⟩
  rw [e_i e (j := 20 + 6 * o + 0) (by omega) (by omega), e_i e (j := 20 + 6 * o + 1) (by omega) (by omega), e_i e (j := 20 + 6 * o + 2) (by omega) (by omega), e_i e (j := 20 + 6 * o + 3) (by omega) (by omega), e_i e (j := 20 + 6 * o + 4) (by omega) (by omega), e_i e (j := 20 + 6 * o + 5) (by omega) (by omega)]
  exact h.2.2.2.2 o ho
end
/-- a pitch is good: cells left, bends, spoiled -/
def gdS (N : Nat → Nat) (lf bn sl : Nat) : Bool := decide (sl = 0) && (decide (sdf (paS N) lf = 0) && decide (waS N &&& lf = 0) && decide (sdf (bnS N (N 8)) bn = 0))
theorem sdf_z {a b : Nat} (ha : a < 2 ^ 64) : sdf a b = 0 ↔ ∀ i, a.testBit i = true → b.testBit i = true := by
  constructor
  · intro h i hi
    have := sdf_tb b i ha
    rw [h, hi, Nat.zero_testBit] at this
    cases q : b.testBit i with
    | true => rfl
    | false => rw [q] at this; simp at this
  · intro h
    apply Nat.eq_of_testBit_eq
    intro i
    rw [sdf_tb b i ha, Nat.zero_testBit]
    cases q : a.testBit i with
    | false => rfl
    | true => rw [h i q]; rfl
theorem right_cells {N : Nat → Nat} (h : DW N) {lf : Nat} : (lf &&& (paS N ||| waS N) = paS N) ↔ (sdf (paS N) lf = 0 ∧ waS N &&& lf = 0) := by
  rw [sdf_z (lt64 (lt60 h (pa_lt h)))]
  have dj : ∀ i, (paS N).testBit i = true → (waS N).testBit i = true → False := fun i a b => by
    rw [pa_tb h, Bool.and_eq_true] at a
    rw [ws_tb h, a.1] at b
    simp at b
  constructor
  · intro q
    have q2 : ∀ i, (lf.testBit i && ((paS N).testBit i || (waS N).testBit i)) = (paS N).testBit i := fun i => by
      rw [← Nat.testBit_or, ← Nat.testBit_and, q]
    refine ⟨fun i hi => ?_, ?_⟩
    · have := q2 i
      rw [hi] at this
      cases z : lf.testBit i with
      | true => rfl
      | false => rw [z] at this; simp at this
    · rw [meet0]
      rintro ⟨i, a, b⟩
      have := q2 i
      rw [a, b] at this
      simp at this
      exact dj i this a
  · rintro ⟨q1, q2⟩
    rw [meet0] at q2
    apply Nat.eq_of_testBit_eq
    intro i
    rw [Nat.testBit_and, Nat.testBit_or]
    cases a : (paS N).testBit i with
    | true => rw [q1 i a]; rfl
    | false =>
      cases b : (waS N).testBit i with
      | false => simp
      | true =>
        cases c : lf.testBit i with
        | false => rfl
        | true => exact absurd ⟨i, b, c⟩ q2
theorem vp1 (N : Nat → Nat) (k : Nat) (v : Nat) : vp_updL (lA N) k (lN v) = lA (upN N k v) := lA_upd N k v
theorem gd_lit {ρ : Type} {k : Nat} {X : Option ρ} (h : k < 100) : gd (nI k) 100 X = X := gd_nI h (by omega)
theorem x6_good {F : Nat} {N : Nat → Nat} (hF : 100 < F) (h : DW N) {a : Nat} (ha : a + 5 ≤ 100) (hlf : N (a + 1) < 2 ^ (N 0 * N 1)) (hbn : N (a + 2) < 64) (hsp : N (a + 4) < 2) : fX6_isGood F (lA N) (nI a) = some (bI (gdS N (N (a + 1)) (N (a + 2)) (N (a + 4)))) := by
  have h8 := h.2.2.2.1.1
  unfold fX6_isGood
  rw [bd1_e (x6_part hF h), bd1_e (x6_all hF h), bd1_e (x6_links hF h), bd1_e (x6_car hF h), lN_sdf, lN_sdf, lN_sdf, ws_eq h, nm_s]
  have L1 := lp_seqE (body := fX6_isGood_l41 (lA N)) (S := fun j => (nI (bnS N j), nI j)) (x0 := (nI 0, nI 0)) rfl (n := N 8) (a := nI (bnS N (N 8))) (F := F) (fun o ho => by
      show fX6_isGood_l41 (lA N) (nI (bnS N o), nI o) = some (.inl (nI (bnS N o ||| if decide (kd N o = 1) = true then 2 ^ o else 0), nI (o + 1)))
      unfold fX6_isGood_l41
      have k1 := kd_le h ho
      rw [uc2_s, bd1_e (many_8 N), if_neg (nI_ge ho (by omega)), bd1_e (m_k h ho), il_1, nI_add]
      show bd1 (if ¬ nI (kd N o) = nI 1 then _ else _) _ = _
      by_cases q : kd N o = 1
      · rw [if_neg (nn (show nI (kd N o) = nI 1 from by rw [q])), if_pos (decide_eq_true q), bd1_s, show nI 1 <<< (nI o &&& 31) = nI (2 ^ o) from one_shlI o (by omega), fa_or, nm_s]
      · rw [if_pos (show ¬ nI (kd N o) = nI 1 from fun z => q ((nI_eq (by omega) (by omega)).mp z)), if_neg (fun z => q (of_decide_eq_true z)), bd1_s, il_0, fa_or, nm_s]) (by
      show fX6_isGood_l41 (lA N) (nI (bnS N (N 8)), nI (N 8)) = _
      unfold fX6_isGood_l41
      rw [uc2_s, bd1_e (many_8 N), if_pos (nI_le (Nat.le_refl _) (by omega))]) (by omega)
  refine (bd1_e L1).trans ?_
  have bl := bn_lt h
  simp (disch := omega) only [bd1_s, bd2_s, bd3_s, bd4_s, bd5_s, bd6_s, bd7_s, bd8_s, bd9_s, bd10_s, bd11_s, bd12_s, bd13_s, uc0_s, uc1_s, uc2_s, uc3_s, uc4_s, uc5_s, uc6_s, uc7_s, uc8_s, uc9_s, uc10_s, uc11_s, uc12_s, uc13_s, nm_s, bdS2_1, bdS2_2, gb_0, gb_1, il_0, il_1, il_2, il_3, il_4, il_5, il_6, il_7, il_8, il_9, il_10, il_11, il_12, il_13, il_14, il_15, il_16, il_17, il_18, il_19, il_20, il_21, il_22, il_23, il_24, il_25, il_26, il_27, il_28, il_29, il_30, il_31, il_32, il_39, il_40, il_42, il_48, il_50, il_52, il_57, il_59, il_60, il_61, il_63, il_64, il_96, il_97, il_99, il_100, il_122, il_127, il_150, il_160, il_300, il_400, il_999, il_1000, il_1000000, nI_ltI, nI_leI, nI_eq, nI_add, pk_mul, pk_sub, nI_clamp, gd_nI, gz_nI, if_pos, if_neg, neI, neI2, gbN0, gbN1, Nat.reduceAdd, Nat.reduceMul, Nat.zero_add, Nat.add_zero, not_true_eq_false, not_false_eq_true, if_true, if_false, ite_true, ite_false, ll_0, ll_1, ll_2, ll_3, ll_4, ll_5, ll_6, ll_7, ll_8, ll_31, ll_32, ll_63, ll_96, ll_401698, ll_17092712, ll_525908, ll_402891, ll_17479784, ll_71108, ll_17171557, ll_536622, ll_17084916, ll_659111269, lA_at, sdL, fb_andL, nI_l]
  have l1 : sdf (paS N) (N (a + 1)) < 2 ^ 60 := lt60 h (sdf_lt _ (pa_lt h))
  have l2 : waS N &&& N (a + 1) < 2 ^ 60 := lt60 h (and_lt_l (ws_lt N))
  have l3 : sdf (bnS N (N 8)) (N (a + 2)) < 2 ^ 60 := sdf_lt _ (Nat.lt_trans bl (by decide))
  have l4 : N (a + 4) < 2 ^ 60 := Nat.lt_trans hsp (by decide)
  unfold gdS
  have h10 : ¬ nI 1 = nI 0 := by decide +kernel
  have e0 : ∀ {X Y : Option Int32} {x : Nat}, x < 2 ^ 60 → (if ¬ lg_cmp (lN x) (lN 0) = nI 0 then X else Y) = if x = 0 then Y else X := by
    intro X Y x hx
    by_cases q : x = 0
    · rw [if_pos q]; exact ifn0 hx z60 q
    · rw [if_neg q]; exact ifn1 hx z60 q
  simp only [e0 l1, e0 l2, e0 l4, e0 l3]
  by_cases q1 : N (a + 4) = 0
  · by_cases q2 : sdf (paS N) (N (a + 1)) = 0
    · by_cases q3 : waS N &&& N (a + 1) = 0
      · by_cases q4 : sdf (bnS N (N 8)) (N (a + 2)) = 0
        · simp [q1, q2, q3, q4, bd1_s, bI, h10]
        · simp [q1, q2, q3, q4, bd1_s, bI, h10]
      · simp [q1, q2, q3, bd1_s, bI]
    · simp [q1, q2, bd1_s, bI]
  · by_cases q2 : sdf (paS N) (N (a + 1)) = 0 <;> by_cases q3 : waS N &&& N (a + 1) = 0 <;> simp [q1, q2, q3, bd1_s, bI]
theorem up_far {N : Nat → Nat} {k v j : Nat} (h : j ≠ k) : upN N k v j = N j := upN_n h
theorem x6_emp {F : Nat} {N : Nat → Nat} (hF : 100 < F) {a : Nat} (ha : a + 5 ≤ 100) : fX6_empties F (lA N) (nI a) = some (lA (fun j => if a ≤ j ∧ j < a + 5 then 0 else N j)) := by
  unfold fX6_empties
  have L1 := lp_seqE (body := fX6_empties_l2 (nI a)) (S := fun t => (nI t, lA (fun j => if a ≤ j ∧ j < a + t then 0 else N j))) (x0 := (nI 0, lA N)) (by
      congr 1
      funext j
      show lN (N j) = lN (if a ≤ j ∧ j < a + 0 then 0 else N j)
      rw [if_neg (by omega)]) (n := 5) (a := lA (fun j => if a ≤ j ∧ j < a + 5 then 0 else N j)) (F := F) (fun t ht => by
      show fX6_empties_l2 (nI a) (nI t, lA (fun j => if a ≤ j ∧ j < a + t then 0 else N j)) = some (.inl (nI (t + 1), lA (fun j => if a ≤ j ∧ j < a + (t + 1) then 0 else N j)))
      unfold fX6_empties_l2
      rw [uc2_s, il_5, if_neg (nI_ge ht (by omega)), nI_add, gd_lit (by omega), nI_clamp (by omega), ll_0, vp1, il_1, nI_add]
      congr 4
      funext j
      show (if j = a + t then 0 else if a ≤ j ∧ j < a + t then 0 else N j) = if a ≤ j ∧ j < a + (t + 1) then 0 else N j
      by_cases q : j = a + t
      · rw [if_pos q, if_pos (by omega)]
      · rw [if_neg q]
        by_cases q2 : a ≤ j ∧ j < a + t
        · rw [if_pos q2, if_pos (by omega)]
        · rw [if_neg q2, if_neg (by omega)]) (by
      show fX6_empties_l2 (nI a) (nI 5, lA (fun j => if a ≤ j ∧ j < a + 5 then 0 else N j)) = _
      unfold fX6_empties_l2
      rw [uc2_s, il_5, if_pos (nI_le (Nat.le_refl _) (by omega))]) (by omega)
  exact (bd1_e L1).trans rfl
