/-! a search by steps back: codes p j = station + 1, 0 untried -/
def SolB (n : Nat) (cand : Nat → (Nat → Nat) → Nat → Bool) (b : Nat → Nat) : Prop := ∀ k, k < n → cand k b (b k) = true
def Bel (k : Nat) (p b : Nat → Nat) : Prop := (∃ j, j < k ∧ (∀ i, i < j → b i + 1 = p i) ∧ b j + 1 < p j) ∨ ((∀ i, i < k → b i + 1 = p i) ∧ b k + 1 ≤ p k)
def LexMin (n : Nat) (cand : Nat → (Nat → Nat) → Nat → Bool) (c : Nat → Nat) : Prop := SolB n cand c ∧ ∀ b, SolB n cand b → ¬ ∃ j, j < n ∧ (∀ i, i < j → b i = c i) ∧ b j < c j
theorem LexMin.one {n : Nat} {cand cand' : Nat → (Nat → Nat) → Nat → Bool} (hs : ∀ b, SolB n cand b ↔ SolB n cand' b) {c c' : Nat → Nat} (h : LexMin n cand c) (h' : LexMin n cand' c') : ∀ i, i < n → c i = c' i := by
  have key : ∀ d, d ≤ n → ∀ i, i < d → c i = c' i := by
    intro d
    induction d with
    | zero => intro _ i hi; omega
    | succ d ih =>
      intro hd i hi
      have ih := ih (by omega)
      rcases Nat.lt_or_ge i d with q | q
      · exact ih i q
      · have e : i = d := by omega
        subst e
        rcases Nat.lt_trichotomy (c i) (c' i) with z | z | z
        · exact absurd ⟨i, by omega, ih, z⟩ (h'.2 c ((hs c).mp h.1))
        · exact z
        · exact absurd ⟨i, by omega, fun j hj => (ih j hj).symm, z⟩ (h.2 c' ((hs c').mpr h'.1))
  exact key n (Nat.le_refl n)
def Cong (cand : Nat → (Nat → Nat) → Nat → Bool) : Prop := ∀ k b b' s, (∀ i, i < k → b i = b' i) → cand k b s = cand k b' s
/-- the invariant at k (k ≤ n) -/
def SInv (n : Nat) (cand : Nat → (Nat → Nat) → Nat → Bool) (k : Nat) (p : Nat → Nat) : Prop :=
  k ≤ n ∧ (∀ j, j < k → 1 ≤ p j ∧ p j ≤ 8 ∧ cand j (fun i => p i - 1) (p j - 1) = true) ∧ (k < n → p k ≤ 8) ∧ ∀ b, SolB n cand b → ¬ (∃ j, j < k ∧ (∀ i, i < j → b i + 1 = p i) ∧ b j + 1 < p j) ∧ (k < n → ¬ ((∀ i, i < k → b i + 1 = p i) ∧ b k + 1 ≤ p k))
theorem s_next {n : Nat} {cand : Nat → (Nat → Nat) → Nat → Bool} (hc : Cong cand) {k : Nat} {p p' : Nat → Nat} (h : SInv n cand k p) (hk : k < n) {s : Nat} (h8 : s < 8) (hs : p k ≤ s) (hy : cand k (fun i => p i - 1) s = true) (hno : ∀ s', p k ≤ s' → s' < s → cand k (fun i => p i - 1) s' = false) (e1 : ∀ i, i < k → p' i = p i) (e2 : p' k = s + 1) (e3 : k + 1 < n → p' (k + 1) = 0) : SInv n cand (k + 1) p' := by
  obtain ⟨h1, h2, h3, h4⟩ := h
  refine ⟨by omega, fun j hj => ?_, fun q => by rw [e3 q]; omega, fun b hb => ⟨?_, fun q => ?_⟩⟩
  · rcases Nat.lt_or_ge j k with q | q
    · have := h2 j q
      rw [e1 j q]
      exact ⟨this.1, this.2.1, by rw [hc j _ (fun i => p i - 1) _ (fun i hi => by show p' i - 1 = p i - 1; rw [e1 i (by omega)])]; exact this.2.2⟩
    · have e : j = k := by omega
      subst e
      rw [e2]
      exact ⟨by omega, by omega, by rw [hc j _ (fun i => p i - 1) _ (fun i hi => by show p' i - 1 = p i - 1; rw [e1 i hi])]; exact hy⟩
  · rintro ⟨j, hj, a1, a2⟩
    rcases Nat.lt_or_ge j k with q | q
    · exact (h4 b hb).1 ⟨j, q, fun i hi => by rw [a1 i hi, e1 i (by omega)], by rw [← e1 j q]; exact a2⟩
    · have e : j = k := by omega
      subst e
      rw [e2] at a2
      have a1 : ∀ i, i < j → b i + 1 = p i := fun i hi => by rw [a1 i hi, e1 i hi]
      rcases Nat.lt_or_ge (b j) (p j) with z | z
      · exact (h4 b hb).2 hk ⟨a1, z⟩
      · have := hno (b j) z (by omega)
        rw [hc j _ b _ (fun i hi => by show p i - 1 = b i; have := a1 i hi; omega), hb j hk] at this
        cases this
  · rintro ⟨_, a2⟩
    rw [e3 q] at a2
    omega
theorem s_stay {n : Nat} {cand : Nat → (Nat → Nat) → Nat → Bool} (hc : Cong cand) {k : Nat} {p p' : Nat → Nat} (h : SInv n cand k p) (hk : k < n) (h8 : p k < 8) (hno : cand k (fun i => p i - 1) (p k) = false) (e1 : ∀ i, i < k → p' i = p i) (e2 : p' k = p k + 1) : SInv n cand k p' := by
  obtain ⟨h1, h2, h3, h4⟩ := h
  refine ⟨h1, fun j hj => ?_, fun q => by rw [e2]; omega, fun b hb => ⟨?_, fun q => ?_⟩⟩
  · have := h2 j hj
    rw [e1 j hj]
    exact ⟨this.1, this.2.1, by rw [hc j _ (fun i => p i - 1) _ (fun i hi => by show p' i - 1 = p i - 1; rw [e1 i (by omega)])]; exact this.2.2⟩
  · rintro ⟨j, hj, a1, a2⟩
    exact (h4 b hb).1 ⟨j, hj, fun i hi => by rw [a1 i hi, e1 i (by omega)], by rw [← e1 j hj]; exact a2⟩
  · rintro ⟨a1, a2⟩
    rw [e2] at a2
    have a1 : ∀ i, i < k → b i + 1 = p i := fun i hi => by rw [a1 i hi, e1 i hi]
    rcases Nat.lt_or_ge (b k) (p k) with z | z
    · exact (h4 b hb).2 hk ⟨a1, z⟩
    · have e : b k = p k := by omega
      have : cand k (fun i => p i - 1) (b k) = false := by rw [e]; exact hno
      rw [hc k _ b _ (fun i hi => by show p i - 1 = b i; have := a1 i hi; omega), hb k hk] at this
      cases this
theorem s_back {n : Nat} {cand : Nat → (Nat → Nat) → Nat → Bool} (hc : Cong cand) {k : Nat} {p p' : Nat → Nat} (h : SInv n cand (k + 1) p) (hk : k + 1 < n) (hno : ∀ s', p (k + 1) ≤ s' → cand (k + 1) (fun i => p i - 1) s' = false) (e1 : ∀ i, i ≤ k → p' i = p i) : SInv n cand k p' := by
  obtain ⟨h1, h2, h3, h4⟩ := h
  refine ⟨by omega, fun j hj => ?_, fun q => by rw [e1 k (Nat.le_refl k)]; exact (h2 k (by omega)).2.1, fun b hb => ⟨?_, fun q => ?_⟩⟩
  · have := h2 j (by omega)
    rw [e1 j (by omega)]
    exact ⟨this.1, this.2.1, by rw [hc j _ (fun i => p i - 1) _ (fun i hi => by show p' i - 1 = p i - 1; rw [e1 i (by omega)])]; exact this.2.2⟩
  · rintro ⟨j, hj, a1, a2⟩
    exact (h4 b hb).1 ⟨j, by omega, fun i hi => by rw [a1 i hi, e1 i (by omega)], by rw [← e1 j (by omega)]; exact a2⟩
  · rintro ⟨a1, a2⟩
    rw [e1 k (Nat.le_refl k)] at a2
    have a1 : ∀ i, i < k → b i + 1 = p i := fun i hi => by rw [a1 i hi, e1 i (by omega)]
    rcases Nat.lt_or_ge (b k + 1) (p k) with z | z
    · exact (h4 b hb).1 ⟨k, by omega, a1, z⟩
    · have a3 : ∀ i, i < k + 1 → b i + 1 = p i := fun i hi => by
        rcases Nat.lt_or_ge i k with y | y
        · exact a1 i y
        · have e : i = k := by omega
          subst e; omega
      rcases Nat.lt_or_ge (b (k + 1)) (p (k + 1)) with y | y
      · exact (h4 b hb).2 hk ⟨a3, y⟩
      · have := hno (b (k + 1)) y
        rw [hc (k + 1) _ b _ (fun i hi => by show p i - 1 = b i; have := a3 i hi; omega), hb (k + 1) hk] at this
        cases this
theorem s_none {n : Nat} {cand : Nat → (Nat → Nat) → Nat → Bool} (hc : Cong cand) {p : Nat → Nat} (h : SInv n cand 0 p) (hk : 0 < n) (hno : ∀ s', p 0 ≤ s' → cand 0 (fun i => p i - 1) s' = false) : ∀ b, ¬ SolB n cand b := by
  intro b hb
  obtain ⟨h1, h2, h3, h4⟩ := h
  rcases Nat.lt_or_ge (b 0) (p 0) with z | z
  · exact (h4 b hb).2 hk ⟨fun i hi => by omega, z⟩
  · have := hno (b 0) z
    rw [hc 0 _ b _ (fun i hi => by omega), hb 0 hk] at this
    cases this
theorem s_end {n : Nat} {cand : Nat → (Nat → Nat) → Nat → Bool} {p : Nat → Nat} (h : SInv n cand n p) : LexMin n cand (fun i => p i - 1) := by
  obtain ⟨h1, h2, h3, h4⟩ := h
  refine ⟨fun k hk => (h2 k hk).2.2, fun b hb => ?_⟩
  rintro ⟨j, hj, a1, a2⟩
  refine (h4 b hb).1 ⟨j, hj, fun i hi => ?_, ?_⟩
  · have := a1 i hi
    have := (h2 i (by omega)).1
    show b i + 1 = p i
    have e : b i = p i - 1 := a1 i hi
    omega
  · have a2 : b j < p j - 1 := a2
    omega
theorem s_start {n : Nat} {cand : Nat → (Nat → Nat) → Nat → Bool} {p : Nat → Nat} (h : 0 < n → p 0 = 0) : SInv n cand 0 p := by
  refine ⟨Nat.zero_le _, fun j hj => by omega, fun q => by rw [h q]; omega, fun b hb => ⟨?_, fun q => ?_⟩⟩
  · rintro ⟨j, hj, _⟩; omega
  · rintro ⟨_, a2⟩
    rw [h q] at a2
    omega
/-- how many steps at most -/
def TT (d : Nat) : Nat := match d with
  | 0 => 0
  | d + 1 => 8 * (1 + TT d) + 1
theorem TT_6 : ∀ d, d < 7 → TT d ≤ 337041 := by decide +kernel
def muS (n : Nat) (p : Nat → Nat) (k : Nat) : Nat := fb_sm (fun j => (8 - p j) * (1 + TT (n - j - 1)) + 1) k
theorem mu_cong {n : Nat} {p p' : Nat → Nat} {k : Nat} (h : ∀ i, i < k → p' i = p i) : muS n p' k = muS n p k := fb_sm_cong (fun j hj => by rw [h j hj])
theorem mu_next {n : Nat} {p p' : Nat → Nat} {k s : Nat} (hk : k < n) (h8 : s < 8) (hs : p k ≤ s) (e1 : ∀ i, i < k → p' i = p i) (e2 : p' k = s + 1) (e3 : k + 1 < n → p' (k + 1) = 0) : (if k + 1 < n then muS n p' (k + 2) else muS n p' (k + 1) - 1) < muS n p (k + 1) := by
  have e := mu_cong (n := n) e1
  have a1 : muS n p (k + 1) = muS n p k + ((8 - p k) * (1 + TT (n - k - 1)) + 1) := rfl
  have a2 : muS n p' (k + 1) = muS n p' k + ((8 - p' k) * (1 + TT (n - k - 1)) + 1) := rfl
  rw [e2, e] at a2
  have m : (8 - (s + 1)) * (1 + TT (n - k - 1)) + (1 + TT (n - k - 1)) ≤ (8 - p k) * (1 + TT (n - k - 1)) := by
    have : (8 - (s + 1)) + 1 ≤ 8 - p k := by omega
    have := Nat.mul_le_mul_right (1 + TT (n - k - 1)) this
    rw [Nat.add_mul, Nat.one_mul] at this
    exact this
  by_cases q : k + 1 < n
  · rw [if_pos q]
    have a3 : muS n p' (k + 2) = muS n p' (k + 1) + ((8 - p' (k + 1)) * (1 + TT (n - (k + 1) - 1)) + 1) := rfl
    have t : TT (n - k - 1) = 8 * (1 + TT (n - (k + 1) - 1)) + 1 := by
      rw [show n - k - 1 = (n - (k + 1) - 1) + 1 by omega]; rfl
    rw [e3 q] at a3
    generalize (8 - p k) * (1 + TT (n - k - 1)) = X at *
    generalize (8 - (s + 1)) * (1 + TT (n - k - 1)) = Y at *
    generalize TT (n - (k + 1) - 1) = Z at *
    generalize TT (n - k - 1) = Z2 at *
    omega
  · rw [if_neg q]
    generalize (8 - p k) * (1 + TT (n - k - 1)) = X at *
    generalize (8 - (s + 1)) * (1 + TT (n - k - 1)) = Y at *
    generalize TT (n - k - 1) = Z2 at *
    omega
theorem mu_stay {n : Nat} {p p' : Nat → Nat} {k : Nat} (h8 : p k < 8) (e1 : ∀ i, i < k → p' i = p i) (e2 : p' k = p k + 1) : muS n p' (k + 1) < muS n p (k + 1) := by
  have e := mu_cong (n := n) e1
  have a1 : muS n p (k + 1) = muS n p k + ((8 - p k) * (1 + TT (n - k - 1)) + 1) := rfl
  have a2 : muS n p' (k + 1) = muS n p' k + ((8 - p' k) * (1 + TT (n - k - 1)) + 1) := rfl
  rw [e2, e] at a2
  have m : (8 - (p k + 1)) * (1 + TT (n - k - 1)) + (1 + TT (n - k - 1)) ≤ (8 - p k) * (1 + TT (n - k - 1)) := by
    have : (8 - (p k + 1)) + 1 ≤ 8 - p k := by omega
    have := Nat.mul_le_mul_right (1 + TT (n - k - 1)) this
    rw [Nat.add_mul, Nat.one_mul] at this
    exact this
  generalize (8 - p k) * (1 + TT (n - k - 1)) = X at *
  generalize (8 - (p k + 1)) * (1 + TT (n - k - 1)) = Y at *
  omega
theorem mu_back {n : Nat} {p p' : Nat → Nat} {k : Nat} (e1 : ∀ i, i < k → p' i = p i) : muS n p' k < muS n p (k + 1) := by
  have e := mu_cong (n := n) e1
  have a1 : muS n p (k + 1) = muS n p k + ((8 - p k) * (1 + TT (n - k - 1)) + 1) := rfl
  omega
theorem mu_start {n : Nat} {p : Nat → Nat} (h : p 0 = 0) (hn : n < 7) : muS n p 1 ≤ 337042 := by
  have a1 : muS n p 1 = 0 + ((8 - p 0) * (1 + TT (n - 0 - 1)) + 1) := rfl
  rw [h] at a1
  rcases Nat.eq_zero_or_pos n with q | q
  · subst q
    rw [a1]; decide
  · have t := TT_6 n hn
    have e : TT n = 8 * (1 + TT (n - 0 - 1)) + 1 := by
      have : n = (n - 0 - 1) + 1 := by omega
      rw [this]; rfl
    omega
