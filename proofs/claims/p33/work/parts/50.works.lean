def pilB (N : Nat → Nat) (s : Nat) : Bool := (N 13).testBit s
/-- offset and spoiled behind the pilots -/
def of1 (N : Nat → Nat) (s : Nat) : Nat := if pilB N s = true ∧ mvS N s 3 ≤ N 6 then 0 else mvS N s 3
def sp1 (N : Nat → Nat) (s : Nat) : Nat := if pilB N s = true ∧ ¬ mvS N s 3 ≤ N 6 then 1 else mvS N s 4
theorem al_tw {N : Nat → Nat} (h : PW N) (hd : DW N) {s : Nat} (hs : s < 8) : mvS N s 1 < 2 ^ (N 0 * N 1) ∧ mvS N s 2 < 64 ∧ mvS N s 3 ≤ 9 * s ∧ mvS N s 4 ≤ 1 := by
  have g5 : N 5 ≤ 9 := hd.2.2.1.2.2.2.1
  unfold mvS
  by_cases q : s = 0
  · subst q
    simp [al_lt2 N]
  · have w := h (s - 1) (by omega)
    simp only [if_neg q]
    refine ⟨by simpa using w.2.1, by simpa using w.2.2.1, ?_, by simpa using w.2.2.2.2.1⟩
    have := w.2.2.2.1
    simp only [if_true]
    omega
/-- the state behind the pilots of the first t stations -/
def MP (N : Nat → Nat) (t : Nat) (M : Nat → Nat) : Prop := EqD M N ∧ M 9 = N 9 + 1 ∧ M 12 = N 12 ∧ M 10 = N 10 + (gcS N 8 + ogS N) ∧ M 11 = N 11 + (bcS N 8 + obS N) ∧ ∀ s, s < 8 → (tB N s = true → M (60 + 5 * s + 0) = 1 ∧ M (60 + 5 * s + 1) = mvS N s 1 ∧ M (60 + 5 * s + 2) = mvS N s 2 ∧ M (60 + 5 * s + 3) = (if s < t then of1 N s else mvS N s 3) ∧ M (60 + 5 * s + 4) = (if s < t then sp1 N s else mvS N s 4)) ∧ (tB N s = false → ∀ i, i < 5 → M (60 + 5 * s + i) = 0)
theorem mp_0 {N M : Nat → Nat} (h : MC N M) : MP N 0 M := by
  obtain ⟨a, b, c, d, e, f⟩ := h
  refine ⟨a, b, c, d, e, fun s hs => ⟨fun q => ?_, (f s hs).2⟩⟩
  have g := (f s hs).1 q
  refine ⟨g.1, g.2 1 (by omega) (by omega), g.2 2 (by omega) (by omega), ?_, ?_⟩
  · rw [if_neg (by omega)]; exact g.2 3 (by omega) (by omega)
  · rw [if_neg (by omega)]; exact g.2 4 (by omega) (by omega)
theorem lcmp_gt {a b : Nat} (ha : a < 2 ^ 31) (hb : b < 2 ^ 31) : (0 < lg_cmp (lN a) (lN b)) ↔ b < a := by rw [lg_cmp_gt, lN_lt hb ha]
theorem lcmp_le {a b : Nat} (ha : a < 2 ^ 31) (hb : b < 2 ^ 31) : (lg_cmp (lN a) (lN b) ≤ 0) ↔ a ≤ b := by rw [lg_cmp_le, lN_le ha hb]
theorem x6_pil {F : Nat} {N M : Nat → Nat} (hF : 100 < F) (h : DW N) (w : PW N) (m : MC N M) : ∃ a, lp (fX6_strokes_l235) F (nI 0, lA M) = some a ∧ ∃ M', a = lA M' ∧ MP N 8 M' := by
  refine lp_cnt (fun t x => x.1 = nI t ∧ ∃ M', x.2 = lA M' ∧ MP N t M') 8 _ ?_ ?_ ⟨rfl, M, rfl, mp_0 m⟩ (by omega)
  · rintro s hs ⟨v23, v24⟩ ⟨e1, M1, e2, p⟩
    have e1 : v23 = nI s := e1
    have e2 : v24 = lA M1 := e2
    subst e1 e2
    obtain ⟨a, b, c, d, e, f⟩ := p
    have g6 : N 6 ≤ 50 := h.2.2.1.2.2.2.2.1
    have g13 : N 13 < 256 := h.2.2.2.1.2
    have mv := al_tw w h hs
    have m13 : M1 13 = N 13 := e_i a (by omega) (by omega)
    have m6 : M1 6 = N 6 := e_i a (by omega) (by omega)
    have other : ∀ (k v : Nat), (k = 60 + 5 * s + 3 ∨ k = 60 + 5 * s + 4) → ∀ s', s' < 8 → s' ≠ s → (tB N s' = true → upN M1 k v (60 + 5 * s' + 0) = 1 ∧ upN M1 k v (60 + 5 * s' + 1) = mvS N s' 1 ∧ upN M1 k v (60 + 5 * s' + 2) = mvS N s' 2 ∧ upN M1 k v (60 + 5 * s' + 3) = (if s' < s + 1 then of1 N s' else mvS N s' 3) ∧ upN M1 k v (60 + 5 * s' + 4) = (if s' < s + 1 then sp1 N s' else mvS N s' 4)) ∧ (tB N s' = false → ∀ i, i < 5 → upN M1 k v (60 + 5 * s' + i) = 0) := by
      intro k v hk s' b1 b2
      have f := f s' b1
      refine ⟨fun q => ?_, fun q i hi => by rw [upN_n (by omega)]; exact f.2 q i hi⟩
      have f := f.1 q
      rw [upN_n (by omega), upN_n (by omega), upN_n (by omega), upN_n (by omega), upN_n (by omega)]
      by_cases y : s' < s
      · rw [if_pos y, if_pos y] at f
        rw [if_pos (by omega), if_pos (by omega)]; exact f
      · rw [if_neg y, if_neg y] at f
        rw [if_neg (by omega), if_neg (by omega)]; exact f
    have same : (tB N s = true → of1 N s = mvS N s 3 ∧ sp1 N s = mvS N s 4) → MP N (s + 1) M1 := by
      intro z
      refine ⟨a, b, c, d, e, fun s' b1 => ⟨fun q => ?_, (f s' b1).2⟩⟩
      have fq := (f s' b1).1 q
      by_cases y : s' < s
      · rw [if_pos y, if_pos y] at fq
        rw [if_pos (by omega), if_pos (by omega)]; exact fq
      · rw [if_neg y, if_neg y] at fq
        by_cases y2 : s' = s
        · subst y2
          have z := z q
          rw [if_pos (by omega), if_pos (by omega), z.1, z.2]; exact fq
        · rw [if_neg (by omega), if_neg (by omega)]; exact fq
    have fs := f s hs
    by_cases q : tB N s = true
    · have fs := fs.1 q
      rw [if_neg (by omega), if_neg (by omega)] at fs
      have pre : fX6_strokes_l235 (nI s, lA M1) = bd1 (if ¬ lg_cmp (lN (N 13 / 2 ^ s &&& 1)) (lN 1) = 0 then some (lA M1) else bd1 (fX6_piloted (lA M1) (nI (60 + 5 * s))) fun u27 => some u27) fun v26 => some (.inl (nI (s + 1), v26)) := by
        unfold fX6_strokes_l235
        have r0 : fX6_ofPitch (lA M1) (nI s) 0 = some (lN 1) := by rw [il_0, ofPitch_s (by omega), fs.1]
        rw [uc2_s, il_8, if_neg (nI_ge hs (by omega)), bd1_e r0, ll_1, ifn0 (by decide) (by decide) rfl, il_13, gd_lit (by omega), nI_clamp (by omega), lA_at, m13, ll_63, srL (Nat.lt_trans g13 (by decide)) (by omega), fb_andL, il_60, il_5, pk_mul, nI_add, il_1, nI_add]
      rw [bit_one] at pre
      by_cases q2 : (N 13).testBit s = true
      · rw [if_pos q2, ifn0 (by decide) (by decide) rfl] at pre
        have pb : pilB N s = true := q2
        by_cases q3 : mvS N s 3 ≤ N 6
        · have pp : fX6_piloted (lA M1) (nI (60 + 5 * s)) = some (lA (upN M1 (60 + 5 * s + 3) 0)) := by
            unfold fX6_piloted
            rw [il_3, nI_add, nm_s, gd_lit (by omega), il_6, gd_lit (by omega), nI_clamp (by omega), nI_clamp (by omega), lA_at, lA_at, fs.2.2.2.1, m6, if_neg (fun z => absurd ((lcmp_gt (by omega) (by omega)).mp z) (by omega)), gd_lit (by omega), ll_0, vp1]
          rw [bd1_e pp, bd1_s] at pre
          refine ⟨_, pre, rfl, _, rfl, fun j b1 b2 b3 b4 b5 => by rw [upN_n (by omega)]; exact a j b1 b2 b3 b4 b5, by rw [upN_n (by omega)]; exact b, by rw [upN_n (by omega)]; exact c, by rw [upN_n (by omega)]; exact d, by rw [upN_n (by omega)]; exact e, fun s' b1 => ?_⟩
          by_cases y : s' = s
          · subst y
            refine ⟨fun _ => ?_, fun z => by rw [q] at z; cases z⟩
            rw [upN_n (by omega), upN_n (by omega), upN_n (by omega), upN_s, upN_n (by omega), if_pos (by omega), if_pos (by omega)]
            refine ⟨fs.1, fs.2.1, fs.2.2.1, ?_, ?_⟩
            · unfold of1; rw [if_pos ⟨pb, q3⟩]
            · unfold sp1; rw [if_neg (fun z => z.2 q3)]; exact fs.2.2.2.2
          · exact other _ _ (Or.inl rfl) s' b1 y
        · have pp : fX6_piloted (lA M1) (nI (60 + 5 * s)) = some (lA (upN M1 (60 + 5 * s + 4) 1)) := by
            unfold fX6_piloted
            rw [il_3, nI_add, nm_s, gd_lit (by omega), il_6, gd_lit (by omega), nI_clamp (by omega), nI_clamp (by omega), lA_at, lA_at, fs.2.2.2.1, m6, if_pos ((lcmp_gt (by omega) (by omega)).mpr (by omega)), il_4, nI_add, gd_lit (by omega), nI_clamp (by omega), ll_1, vp1]
          rw [bd1_e pp, bd1_s] at pre
          refine ⟨_, pre, rfl, _, rfl, fun j b1 b2 b3 b4 b5 => by rw [upN_n (by omega)]; exact a j b1 b2 b3 b4 b5, by rw [upN_n (by omega)]; exact b, by rw [upN_n (by omega)]; exact c, by rw [upN_n (by omega)]; exact d, by rw [upN_n (by omega)]; exact e, fun s' b1 => ?_⟩
          by_cases y : s' = s
          · subst y
            refine ⟨fun _ => ?_, fun z => by rw [q] at z; cases z⟩
            rw [upN_n (by omega), upN_n (by omega), upN_n (by omega), upN_n (by omega), upN_s, if_pos (by omega), if_pos (by omega)]
            refine ⟨fs.1, fs.2.1, fs.2.2.1, ?_, ?_⟩
            · unfold of1; rw [if_neg (fun z => q3 z.2)]; exact fs.2.2.2.1
            · unfold sp1; rw [if_pos ⟨pb, q3⟩]
          · exact other _ _ (Or.inr rfl) s' b1 y
      · rw [if_neg q2, ifn1 (by decide) (by decide) (by decide), bd1_s] at pre
        have pb : ¬ pilB N s = true := q2
        refine ⟨_, pre, rfl, M1, rfl, same (fun _ => ⟨?_, ?_⟩)⟩
        · unfold of1; rw [if_neg (fun z => pb z.1)]
        · unfold sp1; rw [if_neg (fun z => pb z.1)]
    · have q := Bool.eq_false_iff.mpr q
      have fs := fs.2 q
      refine ⟨(nI (s + 1), lA M1), ?_, rfl, M1, rfl, same (fun z => by rw [q] at z; cases z)⟩
      unfold fX6_strokes_l235
      have r0 : fX6_ofPitch (lA M1) (nI s) 0 = some (lN 0) := by rw [il_0, ofPitch_s (by omega), fs 0 (by omega)]
      rw [uc2_s, il_8, if_neg (nI_ge hs (by omega)), bd1_e r0, ll_1, ifn1 (by decide) (by decide) (by decide), bd1_s, il_1, nI_add]
  · rintro ⟨v23, v24⟩ ⟨e1, M1, e2, p⟩
    have e1 : v23 = nI 8 := e1
    subst e1
    refine ⟨v24, ?_, M1, e2, p⟩
    unfold fX6_strokes_l235
    rw [uc2_s, il_8, if_pos (nI_le (Nat.le_refl _) (by omega))]
/-- cells that the punches of a station take, and bends that are done there, by the first n operations -/
def puS (N : Nat → Nat) (p n : Nat) : Nat := orS (fun o => if spN N o = p ∧ kd N o = 0 then opS N o else 0) n
def beS (N : Nat → Nat) (p n : Nat) : Nat := orS (fun o => if spN N o = p ∧ kd N o = 1 then 2 ^ o else 0) n
def sgS (N : Nat → Nat) (s o : Nat) : Nat := if spN N o = s + 1 ∧ kd N o = 0 then pcS (sdf (mvS N s 1) (puS N (s + 1) o) &&& opS N o) else 0
theorem sdf_0 {a : Nat} (h : a < 2 ^ 64) : sdf a 0 = a := by
  apply Nat.eq_of_testBit_eq
  intro i
  rw [sdf_tb _ _ h]; simp
theorem sdf_or {a : Nat} (b c : Nat) (h : a < 2 ^ 64) : sdf (sdf a b) c = sdf a (b ||| c) := by
  apply Nat.eq_of_testBit_eq
  intro i
  rw [sdf_tb _ _ (sdf_lt _ h), sdf_tb _ _ h, sdf_tb _ _ h, Nat.testBit_or]
  cases a.testBit i <;> cases b.testBit i <;> cases c.testBit i <;> rfl
theorem pu_lt {N : Nat → Nat} (h : DW N) (p : Nat) {n : Nat} (hn : n ≤ N 8) : puS N p n < 2 ^ (N 0 * N 1) := orS_lt _ _ (fun o ho => by
  split
  · exact op_lt h (by omega)
  · exact Nat.two_pow_pos _)
theorem be_lt {N : Nat → Nat} (p : Nat) {n : Nat} (hn : n ≤ 6) : beS N p n < 2 ^ 6 := orS_lt _ _ (fun o ho => by
  split
  · exact Nat.pow_lt_pow_right (by decide) (by omega)
  · exact Nat.two_pow_pos _)
