def kd (N : Nat → Nat) (o : Nat) : Nat := N (20 + 6 * o + 0)
theorem kd_le {N : Nat → Nat} (h : DW N) {o : Nat} (ho : o < N 8) : kd N o ≤ 1 := (h.2.2.2.2 o ho).1
def earlyC (N : Nat → Nat) (k s j cj : Nat) : Bool := if kd N k = kd N j then decide (cj = s) else if kd N k = 1 then decide (s < cj + 1 + N 4) else decide (cj < s + 1 + N 4)
def conf (N : Nat → Nat) (k s j cj : Nat) : Bool := tcB N k j && earlyC N k s j cj
def suS (N : Nat → Nat) (c : Nat → Nat) (s k : Nat) : Nat := fb_sm (fun j => if c j = s then foS N j else 0) k
def tstS (N : Nat → Nat) (L k : Nat) (c : Nat → Nat) (s : Nat) : Bool := !(exB (fun j => conf N k s j (c j)) k) && decide (foS N k + suS N c s k ≤ L)
theorem tst_cong (N : Nat → Nat) (L k : Nat) {c c' : Nat → Nat} (s : Nat) (h : ∀ i, i < k → c i = c' i) : tstS N L k c s = tstS N L k c' s := by
  unfold tstS suS
  rw [exB_cong (q := fun j => conf N k s j (c' j)) (fun j hj => by show conf N k s j (c j) = _; rw [h j hj]), fb_sm_cong (g := fun j => if c' j = s then foS N j else 0) (fun j hj => by show (if c j = s then _ else _) = _; rw [h j hj])]
theorem su_le {N : Nat → Nat} (h : DW N) (c : Nat → Nat) (s : Nat) {k : Nat} (hk : k ≤ N 8) : suS N c s k ≤ 192 := by
  have h8 := h.2.2.2.1.1
  have := fb_sm_bound (f := fun j => if c j = s then foS N j else 0) (c := 32) (n := k) (fun j hj => by
    have := fo_le h (show j < N 8 by omega)
    show (if c j = s then foS N j else 0) ≤ 32
    split <;> omega)
  unfold suS
  omega
theorem lp_find2 {σ A B : Type} {body : σ → Option (σ ⊕ (A ⊕ B))} (S : Nat → σ) {x0 : σ} (h0 : x0 = S 0) (p : Nat → Bool) (n : Nat) {a : A} {b : B} (hs : ∀ j, j < n → p j = false → body (S j) = some (.inl (S (j + 1)))) (hh : ∀ j, j < n → p j = true → body (S j) = some (.inr (.inl a))) (he : body (S n) = some (.inr (.inr b))) {F : Nat} (hF : n < F) : lp body F x0 = some (if exB p n = true then .inl a else .inr b) := by
  subst h0
  by_cases h : exB p n = true
  · rw [if_pos h]
    obtain ⟨m, h1, h2, h3⟩ := fb_first (p := fun k => p k = true) ((exB_iff p n).mp h)
    exact lp_seq S m (fun j hj => hs j (by omega) (Bool.eq_false_iff.mpr (h3 j hj))) (hh m h1 h2) (by omega)
  · rw [if_neg h]
    exact lp_seq S n (fun j hj => hs j hj (by
      cases q : p j with
      | false => rfl
      | true => exact absurd ((exB_iff p n).mpr ⟨j, hj, q⟩) h)) he hF
theorem chosen_s {f : Nat → Int32} {o : Nat} (h : o < 6) : fX2_chosenFor f (nI o) = some (f o) := by
  unfold fX2_chosenFor
  rw [if_neg (nI_pos (by omega)), il_6, if_neg (nI_ge h (by omega)), gd_nI h (by omega), nI_clamp (by omega)]
theorem touchOf_s {f : Nat → Int32} {o : Nat} (h : o < 6) : fX2_touchingOf f (nI o) = some (f o) := by
  unfold fX2_touchingOf
  rw [if_neg (nI_pos (by omega)), il_6, if_neg (nI_ge h (by omega)), gd_nI h (by omega), nI_clamp (by omega)]
theorem forceOf_s {f : Nat → Int32} {o : Nat} (h : o < 6) : fX2_forceOf f (nI o) = some (f o) := by
  unfold fX2_forceOf
  rw [if_neg (nI_pos (by omega)), il_6, if_neg (nI_ge h (by omega)), gd_nI h (by omega), nI_clamp (by omega)]
def bnS (N : Nat → Nat) (n : Nat) : Nat := orS (fun k => if decide (kd N k = 1) = true then 2 ^ k else 0) n
theorem bn_lt {N : Nat → Nat} (h : DW N) : bnS N (N 8) < 64 := pow6 h.2.2.2.1.1 (orb_lt _ _)
theorem bn_in {N : Nat → Nat} (h : DW N) {o : Nat} (ho : o < N 8) : fX5_isIn (nI (bnS N (N 8))) (nI o) = some (nI (kd N o)) := by
  have h8 := h.2.2.2.1.1
  have b := bn_lt h
  have k := kd_le h ho
  rw [isInN (by omega) (by omega), bnS, orb_tb, decide_eq_true ho, Bool.true_and]
  by_cases q : kd N o = 1
  · rw [if_pos (decide_eq_true q), q]
  · rw [if_neg (fun z => q (of_decide_eq_true z)), show kd N o = 0 by omega]
theorem tc_in {N : Nat → Nat} (h : DW N) {k o : Nat} (ho : o < N 8) : fX5_isIn (nI (tcS N k)) (nI o) = some (bI (tcB N k o)) := by
  have h8 := h.2.2.2.1.1
  have b := tc_lt h k
  rw [isInN (by omega) (by omega), tc_tb, decide_eq_true ho, Bool.true_and]
  rfl
theorem ahead {s cj : Nat} (hs : s ≤ 8) (hc : cj ≤ 8) : (nI s - eN (cj + 1)).toInt = (s : Int) - cj := by
  have i2 := eN_int (p := cj + 1) (by omega)
  have i1 := nI_toInt (n := s) (by omega)
  rw [fb_subI (by omega) (by omega)]
  omega
theorem x2_early {N : Nat → Nat} (h : DW N) {k j s cj : Nat} (hk : k < N 8) (hj : j < N 8) (hs : s ≤ 8) (hc : cj ≤ 8) {ρ : Type} {K : Int32 → Option ρ} : bd1 (if ¬ nI (kd N k) = nI (kd N j) then (bd1 (if nI (kd N k) = 0 then some (-(nI s - eN (cj + 1))) else some (nI s - eN (cj + 1))) fun v10 => if (1 : Int32) + nI (N 4) ≤ v10 then some (0 : Int32) else some (1 : Int32)) else (if ¬ nI s - eN (cj + 1) = 0 then some (0 : Int32) else some (1 : Int32))) K = K (bI (earlyC N k s j cj)) := by
  have a := ahead hs hc
  have k1 := kd_le h hk
  have k2 := kd_le h hj
  have g3 : N 4 ≤ 3 := h.2.2.1.2.2.1
  have z0 : (0 : Int32).toInt = 0 := rfl
  unfold earlyC
  by_cases q1 : kd N k = kd N j
  · rw [if_neg (nn (by rw [q1])), if_pos q1]
    by_cases q2 : cj = s
    · rw [if_neg (nn (by rw [fa_eq, a, z0]; omega)), decide_eq_true q2]; rfl
    · rw [if_pos (show ¬ nI s - eN (cj + 1) = 0 from by rw [fa_eq, a, z0]; omega), decide_eq_false q2]; rfl
  · rw [if_pos (show ¬ nI (kd N k) = nI (kd N j) from fun z => q1 ((nI_eq (by omega) (by omega)).mp z)), if_neg q1, il_1, nI_add]
    by_cases q2 : kd N k = 1
    · rw [if_neg (show ¬ nI (kd N k) = 0 from nI_ne0 (by omega) (by omega)), bd1_s, if_pos q2]
      by_cases q3 : s < cj + 1 + N 4
      · rw [if_neg (show ¬ nI (1 + N 4) ≤ _ from by rw [fa_le, a, nI_toInt (by omega)]; omega), decide_eq_true q3]; rfl
      · rw [if_pos (show nI (1 + N 4) ≤ _ from by rw [fa_le, a, nI_toInt (by omega)]; omega), decide_eq_false q3]; rfl
    · rw [if_pos (show nI (kd N k) = 0 from by rw [show kd N k = 0 by omega]; rfl), bd1_s, if_neg q2]
      have ng : (-(nI s - eN (cj + 1))).toInt = (cj : Int) - s := by
        rw [fb_negI (by omega), a]; omega
      by_cases q3 : cj < s + 1 + N 4
      · rw [if_neg (show ¬ nI (1 + N 4) ≤ _ from by rw [fa_le, ng, nI_toInt (by omega)]; omega), decide_eq_true q3]; rfl
      · rw [if_pos (show nI (1 + N 4) ≤ _ from by rw [fa_le, ng, nI_toInt (by omega)]; omega), decide_eq_false q3]; rfl
/-- the planner's rows hold what the die tells -/
def PR (N : Nat → Nat) (tou frc : Nat → Int32) : Prop := ∀ o, o < N 8 → tou o = nI (tcS N o) ∧ frc o = nI (foS N o)
def ChP (k : Nat) (ch : Nat → Int32) (p : Nat → Nat) : Prop := ∀ j, j < k → 1 ≤ p j ∧ p j ≤ 8 ∧ ch j = eN (p j)
theorem x2_fits {F : Nat} {N : Nat → Nat} {ch tou frc : Nat → Int32} {p : Nat → Nat} {L k s : Nat} (hF : 100 < F) (h : DW N) (r : PR N tou frc) (hk : k < N 8) (hs : s ≤ 8) (hp : ChP k ch p) (hL : L < 2 ^ 30) : fX2_fits F (nI L) (nI (N 4)) (nI (bnS N (N 8))) ch tou frc (nI k) (nI s) = some (bI (tstS N L k (fun i => p i - 1) s)) := by
  have h8 := h.2.2.2.1.1
  unfold fX2_fits
  rw [bd1_e (forceOf_s (by omega)), (r k hk).2, bd1_e (bn_in h hk)]
  have L1 := lp_find2 (body := fX2_fits_l19 (nI (N 4)) (nI (bnS N (N 8))) ch tou frc (nI k) (nI s) (nI (kd N k))) (S := fun j => (nI (foS N k + suS N (fun i => p i - 1) s j), nI j)) (x0 := (nI (foS N k), nI 0)) rfl (fun j => conf N k s j (p j - 1)) k (a := ()) (b := nI (foS N k + suS N (fun i => p i - 1) s k)) (F := F) ?_ ?_ ?_ (by omega)
  · refine (bdS2_if L1).trans ?_
    unfold tstS
    have a1 := fo_le h hk
    have a2 := su_le h (fun i => p i - 1) s (show k ≤ N 8 by omega)
    by_cases q : exB (fun j => conf N k s j (p j - 1)) k = true
    · rw [if_pos q, q]; rfl
    · rw [if_neg q, uc1_s]
      rw [show exB (fun j => conf N k s j ((fun i => p i - 1) j)) k = false from Bool.eq_false_iff.mpr q, Bool.not_false, Bool.true_and]
      by_cases q2 : foS N k + suS N (fun i => p i - 1) s k ≤ L
      · rw [if_neg (nI_nlt q2 (by omega)), decide_eq_true q2]; rfl
      · rw [if_pos (nI_lt (by omega) (by omega)), decide_eq_false q2]; rfl
  all_goals
    have key : ∀ j, j < k → fX2_fits_l19 (nI (N 4)) (nI (bnS N (N 8))) ch tou frc (nI k) (nI s) (nI (kd N k)) (nI (foS N k + suS N (fun i => p i - 1) s j), nI j) = if conf N k s j (p j - 1) = true then some (.inr (.inl ())) else some (.inl (nI (foS N k + suS N (fun i => p i - 1) s (j + 1)), nI (j + 1))) := by
      intro j hj
      unfold fX2_fits_l19
      obtain ⟨p1, p2, p3⟩ := hp j hj
      have e : eN (p j) = eN ((p j - 1) + 1) := by rw [show p j - 1 + 1 = p j by omega]
      have ah := ahead (s := s) (cj := p j - 1) hs (by omega)
      have z0 : (0 : Int32).toInt = 0 := rfl
      rw [uc2_s, if_neg (nI_ge hj (by omega)), bd1_e (chosen_s (by omega)), p3, e, nm_s, bd1_e (bn_in h (show j < N 8 by omega)), x2_early h hk (by omega) hs (by omega)]
      have acc : ∀ {ρ : Type} (K : Int32 → Option ρ), bd1 (if ¬ nI s - eN (p j - 1 + 1) = 0 then some (nI (foS N k + suS N (fun i => p i - 1) s j)) else bd1 (fX2_forceOf frc (nI j)) fun r12 => nm (nI (foS N k + suS N (fun i => p i - 1) s j) + r12) fun v13 => some v13) K = K (nI (foS N k + suS N (fun i => p i - 1) s (j + 1))) := by
        intro ρ K
        have es : suS N (fun i => p i - 1) s (j + 1) = suS N (fun i => p i - 1) s j + if p j - 1 = s then foS N j else 0 := rfl
        by_cases q : p j - 1 = s
        · rw [if_neg (nn (show nI s - eN (p j - 1 + 1) = 0 from by rw [fa_eq, ah, z0]; omega)), bd1_e (forceOf_s (by omega)), (r j (by omega)).2, nI_add, nm_s, bd1_s, es, if_pos q, Nat.add_assoc]
        · rw [if_pos (show ¬ nI s - eN (p j - 1 + 1) = 0 from by rw [fa_eq, ah, z0]; omega), bd1_s, es, if_neg q]; rfl
      rw [il_1]
      unfold conf
      by_cases q1 : earlyC N k s j (p j - 1) = true
      · rw [q1, if_neg (show ¬ bI true = 0 by decide +kernel), bd1_e (touchOf_s (by omega)), (r k hk).1, bd1_e (tc_in h (by omega)), Bool.and_true]
        by_cases q2 : tcB N k j = true
        · rw [q2, if_neg (show ¬ bI true = 0 by decide +kernel), if_pos rfl]
        · rw [Bool.eq_false_iff.mpr q2, if_pos (show bI false = 0 from rfl), acc, nI_add, if_neg (by simp)]
      · rw [Bool.eq_false_iff.mpr q1, if_pos (show bI false = 0 from rfl), acc, nI_add, if_neg (by simp)]
  · intro j hj q
    show fX2_fits_l19 _ _ _ _ _ _ _ _ (nI (foS N k + suS N (fun i => p i - 1) s j), nI j) = _
    rw [key j hj, if_neg (by rw [q]; simp)]
  · intro j hj q
    show fX2_fits_l19 _ _ _ _ _ _ _ _ (nI (foS N k + suS N (fun i => p i - 1) s j), nI j) = _
    rw [key j hj, if_pos q]
  · show fX2_fits_l19 _ _ _ _ _ _ _ _ (nI (foS N k + suS N (fun i => p i - 1) s k), nI k) = _
    unfold fX2_fits_l19
    rw [uc2_s, if_pos (nI_le (Nat.le_refl _) (by omega))]
theorem x6_may {F : Nat} {N : Nat → Nat} {tr tou : Nat → Int32} {p : Nat → Nat} {L k s : Nat} (hF : 100 < F) (h : DW N) (r : ∀ o, o < N 8 → tou o = nI (tcS N o)) (hk : k < N 8) (hs : s < 8) (hp : ChP k tr p) (hk2 : tr k = eN (s + 1)) (hL : L < 2 ^ 30) : fX6_may F (lA N) tr tou (nI k) (nI L) = some (bI (tstS N L k (fun i => p i - 1) s)) := by
  have h8 := h.2.2.2.1.1
  have g3 : N 4 ≤ 3 := h.2.2.1.2.2.1
  unfold fX6_may
  rw [bd1_e (m_fo h hk)]
  have L1 := lp_seqE (body := fX6_may_l12 (lA N) tr tou (nI k)) (S := fun j => (nI (foS N k + suS N (fun i => p i - 1) s j), bI (!(exB (fun j => conf N k s j (p j - 1)) j)), nI j)) (x0 := (nI (foS N k), nI 1, nI 0)) rfl (n := k) (a := (nI (foS N k + suS N (fun i => p i - 1) s k), bI (!(exB (fun j => conf N k s j (p j - 1)) k)))) (F := F) ?_ ?_ (by omega)
  · refine (bd2_e L1).trans ?_
    unfold tstS
    have a1 := fo_le h hk
    have a2 := su_le h (fun i => p i - 1) s (show k ≤ N 8 by omega)
    cases q : exB (fun j => conf N k s j (p j - 1)) k
    · rw [Bool.not_false, if_neg (show ¬ bI true = 0 by decide +kernel), Bool.true_and]
      by_cases q2 : foS N k + suS N (fun i => p i - 1) s k ≤ L
      · rw [if_neg (nI_nlt q2 (by omega)), decide_eq_true q2]; rfl
      · rw [if_pos (nI_lt (by omega) (by omega)), decide_eq_false q2]; rfl
    · rw [Bool.not_true, if_pos (show bI false = 0 from rfl)]; rfl
  · intro j hj
    show fX6_may_l12 (lA N) tr tou (nI k) (nI (foS N k + suS N (fun i => p i - 1) s j), bI (!(exB (fun j => conf N k s j (p j - 1)) j)), nI j) = some (.inl (nI (foS N k + (suS N (fun i => p i - 1) s j + if p j - 1 = s then foS N j else 0)), bI (!(exB (fun j => conf N k s j (p j - 1)) j || conf N k s j (p j - 1))), nI (j + 1)))
    unfold fX6_may_l12
    obtain ⟨p1, p2, p3⟩ := hp j hj
    have tb := tc_lt h k
    have eq1 : (tr j = tr k) ↔ p j - 1 = s := by rw [p3, hk2, eN_eq (by omega) (by omega)]; omega
    have k1 := kd_le h hk
    have k2 := kd_le h (show j < N 8 by omega)
    rw [uc3_s, if_neg (nI_ge hj (by omega)), gd_nI (by omega) (by omega), nI_clamp (by omega), nI_clamp (by omega), r k hk, sh1 (by omega), tc_tb, decide_eq_true (show j < N 8 by omega), Bool.true_and, gd_nI (by omega) (by omega), gd_nI (by omega) (by omega), gd_nI (by omega) (by omega)]
    have acc : ∀ {ρ : Type} (K : Int32 → Option ρ), bd1 (if ¬ tr j = tr k then some (0 : Int32) else bd1 (fX6_force (lA N) (nI j)) fun r9 => some r9) (fun v8 => nm (nI (foS N k + suS N (fun i => p i - 1) s j) + v8) K) = K (nI (foS N k + (suS N (fun i => p i - 1) s j + if p j - 1 = s then foS N j else 0))) := by
      intro ρ K
      by_cases q : p j - 1 = s
      · rw [if_neg (nn (eq1.mpr q)), bd1_e (m_fo h (by omega)), bd1_s, nI_add, nm_s, if_pos q, Nat.add_assoc]
      · rw [if_pos (show ¬ tr j = tr k from fun z => q (eq1.mp z)), bd1_s, il_0, nI_add, nm_s, if_neg q]; rfl
    generalize exB (fun j => conf N k s j (p j - 1)) j = A
    have near : ∀ {ρ : Type} (K : Int32 → Option ρ), bd1 (if ¬ (if tcB N k j = true then nI 1 else nI 0) = 1 then some (0 : Int32) else some (1 : Int32)) K = K (bI (tcB N k j)) := by
      intro ρ K
      cases tcB N k j <;> rfl
    rw [near, acc, il_1, nI_add]
    have me := m_early h (o := j) (k := k) (show j < N 8 by omega) hk (p := p j) (q := s + 1) (by omega) (by omega)
    have may : ∀ {ρ : Type} (K : Int32 → Option ρ), bd1 (if bI (!A) = 0 then some (0 : Int32) else if bI (tcB N k j) = 0 then some (nI 1) else if tr j = tr k then some (0 : Int32) else bd1 (fX6_isEarly (lA N) (nI j) (tr j) (nI k) (tr k)) fun r12 => if ¬ r12 = 0 then some (0 : Int32) else some (nI 1)) K = K (bI (!(A || conf N k s j (p j - 1)))) := by
      intro ρ K
      unfold conf earlyC
      cases A
      · rw [Bool.not_false, if_neg (show ¬ bI true = 0 by decide +kernel), Bool.false_or]
        cases tcB N k j
        · rw [if_pos (show bI false = 0 from rfl), Bool.false_and]; rfl
        · rw [if_neg (show ¬ bI true = 0 by decide +kernel), Bool.true_and]
          by_cases q : p j - 1 = s
          · rw [if_pos (eq1.mpr q)]
            have : (if kd N k = kd N j then decide (p j - 1 = s) else if kd N k = 1 then decide (s < p j - 1 + 1 + N 4) else decide (p j - 1 < s + 1 + N 4)) = true := by
              split
              · exact decide_eq_true q
              · split
                · exact decide_eq_true (by omega)
                · exact decide_eq_true (by omega)
            rw [this]; rfl
          · rw [if_neg (fun z => q (eq1.mp z)), p3, hk2, bd1_e me]
            show bd1 (if ¬ (if kd N j ≠ kd N k ∧ (if kd N j = 1 then p j < s + 1 + 1 + N 4 else s + 1 < p j + 1 + N 4) then nI 1 else nI 0) = 0 then some 0 else some (nI 1)) K = _
            by_cases q2 : kd N k = kd N j
            · rw [if_pos q2, if_neg (show ¬ (kd N j ≠ kd N k ∧ (if kd N j = 1 then p j < s + 1 + 1 + N 4 else s + 1 < p j + 1 + N 4)) from fun z => z.1 q2.symm), if_neg (nn (show nI 0 = 0 from rfl)), decide_eq_false q]; rfl
            · rw [if_neg q2]
              by_cases q3 : kd N k = 1
              · rw [if_pos q3]
                have nj : ¬ kd N j = 1 := by omega
                by_cases q4 : s < p j - 1 + 1 + N 4
                · rw [if_pos (show kd N j ≠ kd N k ∧ (if kd N j = 1 then p j < s + 1 + 1 + N 4 else s + 1 < p j + 1 + N 4) from ⟨fun z => q2 z.symm, by rw [if_neg nj]; omega⟩), if_pos (show ¬ nI 1 = 0 by decide +kernel), decide_eq_true q4]; rfl
                · rw [if_neg (show ¬ (kd N j ≠ kd N k ∧ (if kd N j = 1 then p j < s + 1 + 1 + N 4 else s + 1 < p j + 1 + N 4)) from fun z => by have z := z.2; rw [if_neg nj] at z; omega), if_neg (nn (show nI 0 = 0 from rfl)), decide_eq_false q4]; rfl
              · rw [if_neg q3]
                have nj : kd N j = 1 := by omega
                by_cases q4 : p j - 1 < s + 1 + N 4
                · rw [if_pos (show kd N j ≠ kd N k ∧ (if kd N j = 1 then p j < s + 1 + 1 + N 4 else s + 1 < p j + 1 + N 4) from ⟨fun z => q2 z.symm, by rw [if_pos nj]; omega⟩), if_pos (show ¬ nI 1 = 0 by decide +kernel), decide_eq_true q4]; rfl
                · rw [if_neg (show ¬ (kd N j ≠ kd N k ∧ (if kd N j = 1 then p j < s + 1 + 1 + N 4 else s + 1 < p j + 1 + N 4)) from fun z => by have z := z.2; rw [if_pos nj] at z; omega), if_neg (nn (show nI 0 = 0 from rfl)), decide_eq_false q4]; rfl
      · rw [Bool.not_true, if_pos (show bI false = 0 from rfl)]; rfl
    simp only [gd_nI (show j < 6 by omega) (show 6 < 2 ^ 31 by omega), gd_nI (show k < 6 by omega) (show 6 < 2 ^ 31 by omega), nI_clamp (show k < 2 ^ 31 by omega), nI_clamp (show j < 2 ^ 31 by omega)]
    exact may _
  · show fX6_may_l12 (lA N) tr tou (nI k) (nI (foS N k + suS N (fun i => p i - 1) s k), bI (!(exB (fun j => conf N k s j (p j - 1)) k)), nI k) = _
    unfold fX6_may_l12
    rw [uc3_s, if_pos (nI_le (Nat.le_refl _) (by omega))]
