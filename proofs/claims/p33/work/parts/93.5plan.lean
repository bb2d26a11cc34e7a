/-! the law's look at the plan -/
section PLAN
variable {F B : Nat} {c : CSt} {N : Nat → Nat}
theorem gs0 (hF : 1000000 < F) (i : I3 B c N) {s : Nat} (hs : s < 8) : g_station F c (nI s) (0 : Int32) = some (nI (oaS N (s + 1))) := gv_stat (k := 0) hF i hs (by omega)
theorem gs1 (hF : 1000000 < F) (i : I3 B c N) {s : Nat} (hs : s < 8) : g_station F c (nI s) (1 : Int32) = some (nI (fsS N (s + 1))) := gv_stat (k := 1) hF i hs (by omega)
theorem gs2 (hF : 1000000 < F) (i : I3 B c N) {s : Nat} (hs : s < 8) : g_station F c (nI s) (2 : Int32) = some (bI ((N 13).testBit s)) := gv_stat (k := 2) hF i hs (by omega)
theorem gs3 (hF : 1000000 < F) (i : I3 B c N) {s : Nat} (hs : s < 8) : g_station F c (nI s) (3 : Int32) = some (nI (N (60 + 5 * s + 0))) := gv_stat (k := 3) hF i hs (by omega)
theorem bit1 {t b : Nat} (hb : b < 31) : (if ¬ (nI t >>> (nI b &&& 31)) &&& (1 : Int32) = (1 : Int32) then some (0 : Int32) else some (1 : Int32)) = some (bI (t.testBit b)) := by
  rw [sh1 hb]
  cases t.testBit b with
  | true => rw [if_pos rfl, if_neg (nn (show nI 1 = (1 : Int32) from rfl))]; rfl
  | false => rw [if_neg (show ¬ false = true by decide), if_pos (show ¬ nI 0 = (1 : Int32) by decide)]; rfl
theorem bI_one (b : Bool) : (bI b = (1 : Int32)) ↔ b = true := by cases b <;> decide
theorem tc_self (N : Nat → Nat) (a : Nat) : tcB N a a = false := by
  unfold tcB
  rw [decide_eq_false (fun h => h rfl), Bool.false_and]
theorem exB_s (p : Nat → Bool) (n : Nat) : exB p (n + 1) = (exB p n || p n) := rfl
theorem cl_or (x : Bool) {b : Bool} {u v : Nat} (hu : u ≤ 8) (hv : v ≤ 8) : (if ¬ bI x = 0 then some (1 : Int32) else if bI b = 0 then some (0 : Int32) else if ¬ eN u = eN v then some (0 : Int32) else some (1 : Int32)) = some (bI (x || (b && decide (v = u)))) := by
  cases x with
  | true => rw [if_pos (show ¬ bI true = 0 by decide)]; rfl
  | false =>
    rw [if_neg (nn (show bI false = 0 from rfl))]
    cases b with
    | false => rw [if_pos (show bI false = 0 from rfl)]; rfl
    | true =>
      rw [if_neg (show ¬ bI true = 0 by decide)]
      by_cases q : v = u
      · rw [q, if_neg (nn rfl), decide_eq_true rfl]; rfl
      · rw [if_pos (show ¬ eN u = eN v from fun z => q ((eN_eq (by omega) (by omega)).mp z).symm), decide_eq_false q]; rfl
theorem ea_cmp {u v g : Nat} (hu : u ≤ 8) (hv : v ≤ 8) (hg : g ≤ 3) : ((1 : Int32) + nI g ≤ eN u - eN v) ↔ ¬ u < v + 1 + g := by
  rw [il_1, nI_add, fa_le, nI_toInt (by omega)]
  have h1 := eN_int (p := u) (by omega)
  have h2 := eN_int (p := v) (by omega)
  rw [fb_subI (by omega) (by omega), h1, h2]
  omega
theorem plan_in (hF : 1000000 < F) (i : I3 B c N) {a : Nat} (ha : a < N 8) (x y : Bool) : lp (fL_plan_l118 F c (nI (N 8)) (nI a) (eN (spN N a))) F (bI x, bI y, (1 : Int32), (0 : Int32)) = some (bI (x || exB (closeB N a) (N 8)), bI (y || exB (early N a) (N 8)), (1 : Int32)) := by
  obtain ⟨d, -, -, gn, -, -⟩ := i.dw
  have h8 := d.2.2.2.1.1
  have hg := d.2.2.1.2.2.1
  refine lp_seqE (fun j => (bI (x || exB (closeB N a) j), bI (y || exB (early N a) j), (1 : Int32), nI j)) (by rw [exB, exB, Bool.or_false, Bool.or_false]; rfl) (N 8) (fun b hb => ?_) ?_ (by omega)
  · have kb := (d.2.2.2.2 b hb).1
    have ka := (d.2.2.2.2 a ha).1
    have e1 : (tcS N a).testBit b = tcB N a b := by rw [tc_tb, decide_eq_true hb, Bool.true_and]
    have e2 : (tcS N b).testBit a = tcB N a b := by rw [tc_tb, decide_eq_true ha, Bool.true_and, tcB_sym d hb ha]
    have e53 : (if ¬ bI (tcB N a b) = bI (tcB N a b) then some (0 : Int32) else if ¬ nI a = nI b then some (1 : Int32) else if ¬ bI (tcB N a b) = 0 then some (0 : Int32) else some (1 : Int32)) = some (1 : Int32) := by
      rw [if_neg (nn rfl)]
      by_cases q : a = b
      · subst q
        rw [if_neg (nn rfl), tc_self, if_neg (nn (show bI false = 0 from rfl))]
      · rw [if_pos (show ¬ nI a = nI b from fun z => q ((nI_eq (by omega) (by omega)).mp z))]
    have e55 : (if ¬ bI (y || exB (early N a) b) = 0 then some (1 : Int32) else if bI (tcB N a b) = 0 then some (0 : Int32) else bd1 (g_operation F c (nI a) (0 : Int32)) fun r56 => if ¬ r56 = (1 : Int32) then some (0 : Int32) else bd1 (g_operation F c (nI b) (0 : Int32)) fun r57 => if ¬ r57 = 0 then some (0 : Int32) else bd1 (g_whole F c (4 : Int32)) fun r58 => if (1 : Int32) + r58 ≤ eN (spN N a) - eN (spN N b) then some (0 : Int32) else some (1 : Int32)) = some (bI (y || exB (early N a) (b + 1))) := by
      rw [exB_s, ← Bool.or_assoc]
      cases hx : (y || exB (early N a) b) with
      | true => rw [if_pos (show ¬ bI true = 0 by decide)]; rfl
      | false =>
        rw [if_neg (nn (show bI false = 0 from rfl)), Bool.false_or]
        cases ht : tcB N a b with
        | false =>
          rw [if_pos (show bI false = 0 from rfl), Bool.eq_false_iff.mpr (show early N a b ≠ true from fun z => by rw [early_iff, ht] at z; cases z.2.2.1)]
          rfl
        | true =>
          rw [if_neg (show ¬ bI true = 0 by decide), bd1_e (go0 hF i ha)]
          by_cases q1 : N (20 + 6 * a + 0) = 1
          · rw [q1, if_neg (nn (show nI 1 = (1 : Int32) from rfl)), bd1_e (go0 hF i hb)]
            by_cases q2 : N (20 + 6 * b + 0) = 0
            · rw [q2, if_neg (nn (show nI 0 = (0 : Int32) from rfl)), bd1_e (gw4 hF i)]
              by_cases q3 : spN N a < spN N b + 1 + N 4
              · rw [if_neg (show ¬ (1 : Int32) + nI (N 4) ≤ eN (spN N a) - eN (spN N b) from fun z => (ea_cmp (spN_le N a) (spN_le N b) hg).mp z q3), (early_iff N a b).mpr ⟨q1, q2, ht, q3⟩]
                rfl
              · rw [if_pos ((ea_cmp (spN_le N a) (spN_le N b) hg).mpr q3), Bool.eq_false_iff.mpr (show early N a b ≠ true from fun z => q3 ((early_iff N a b).mp z).2.2.2)]
                rfl
            · rw [if_pos (show ¬ nI (N (20 + 6 * b + 0)) = 0 from fun z => q2 ((nI_eq (b := 0) (by omega) (by omega)).mp z)), Bool.eq_false_iff.mpr (show early N a b ≠ true from fun z => q2 ((early_iff N a b).mp z).2.1)]
              rfl
          · rw [if_pos (show ¬ nI (N (20 + 6 * a + 0)) = (1 : Int32) from fun z => q1 ((nI_eq (b := 1) (by omega) (by omega)).mp z)), Bool.eq_false_iff.mpr (show early N a b ≠ true from fun z => q1 ((early_iff N a b).mp z).1)]
            rfl
    show fL_plan_l118 F c (nI (N 8)) (nI a) (eN (spN N a)) (bI (x || exB (closeB N a) b), bI (y || exB (early N a) b), (1 : Int32), nI b) = _
    unfold fL_plan_l118
    rw [uc4_s, if_neg (nI_ge hb (by omega)), b1_0, bd1_e (go7 hF i ha), bd1_e (bit1 (by omega)), bd1_e (go6 hF i hb), bd1_e (go7 hF i hb), bd1_e (bit1 (by omega)), e1, e2, bd1_e e53, bd1_e (cl_or _ (spN_le N a) (spN_le N b)), bd1_e e55, il_1, nI_add, show (x || exB (closeB N a) (b + 1)) = ((x || exB (closeB N a) b) || (tcB N a b && decide (spN N b = spN N a))) from by rw [exB_s, ← Bool.or_assoc]; rfl]
  · unfold fL_plan_l118
    rw [uc4_s, if_pos (nI_le (Nat.le_refl _) (by omega))]
theorem oa_tb (N : Nat → Nat) (p a : Nat) : (oaS N p).testBit a = (decide (a < N 8) && decide (spN N a = p)) := orb_tb _ _ _
def lackP (N : Nat → Nat) (o : Nat) : Bool := decide (spN N o = 0)
def closeA (N : Nat → Nat) (o : Nat) : Bool := exB (closeB N o) (N 8)
def earlyA (N : Nat → Nat) (o : Nat) : Bool := exB (early N o) (N 8)
def heavyA (N : Nat → Nat) (s : Nat) : Bool := decide (N 3 < fsS N (s + 1))
theorem plan_out (hF : 1000000 < F) (i : I3 B c N) : lp (fL_plan_l36 F c (nI (N 8))) F ((-1 : Int32), (0 : Int32), (0 : Int32), (0 : Int32), (1 : Int32), (0 : Int32)) = some (eN (psS N (N 8)), bI (exB (lackP N) (N 8)), bI (exB (closeA N) (N 8)), bI (exB (earlyA N) (N 8)), (1 : Int32)) := by
  obtain ⟨d, -, -, gn, -, -⟩ := i.dw
  have h8 := d.2.2.2.1.1
  refine lp_seqE (fun j => (eN (psS N j), bI (exB (lackP N) j), bI (exB (closeA N) j), bI (exB (earlyA N) j), (1 : Int32), nI j)) (by rw [eN_0]; rfl) (N 8) (fun a ha => ?_) ?_ (by omega)
  · have hs := spN_le N a
    have hps := ps_le N a
    have e37 : (if eN (spN N a) ≤ eN (psS N a) then some (eN (psS N a)) else some (eN (spN N a))) = some (eN (psS N (a + 1))) := by
      rw [psS]
      by_cases q : psS N a < spN N a
      · rw [if_neg (show ¬ eN (spN N a) ≤ eN (psS N a) from fun z => by rw [eN_le (by omega) (by omega)] at z; omega), if_pos q]
      · rw [if_pos ((eN_le (by omega) (by omega)).mpr (by omega)), if_neg q]
    have e38 : (if ¬ bI (exB (lackP N) a) = 0 then some (1 : Int32) else if ¬ eN (spN N a) = (-1 : Int32) then some (0 : Int32) else some (1 : Int32)) = some (bI (exB (lackP N) (a + 1))) := by
      rw [exB_s, eN_0]
      cases exB (lackP N) a with
      | true => rw [if_pos (show ¬ bI true = 0 by decide)]; rfl
      | false =>
        rw [if_neg (nn (show bI false = 0 from rfl)), Bool.false_or]
        unfold lackP
        by_cases q : spN N a = 0
        · rw [q, if_neg (nn rfl), decide_eq_true rfl]; rfl
        · rw [if_pos (show ¬ eN (spN N a) = eN 0 from fun z => q ((eN_eq (by omega) (by omega)).mp z)), decide_eq_false q]; rfl
    have e39 : (if eN (spN N a) = (-1 : Int32) then some (1 : Int32) else bd1 (g_station F c (eN (spN N a)) (0 : Int32)) fun r40 => if ¬ (r40 >>> (nI a &&& 31)) &&& (1 : Int32) = (1 : Int32) then some (0 : Int32) else some (1 : Int32)) = some (1 : Int32) := by
      rw [eN_0]
      by_cases q : spN N a = 0
      · rw [q, if_pos rfl]
      · obtain ⟨s, hs1⟩ : ∃ s, spN N a = s + 1 := ⟨spN N a - 1, by omega⟩
        have hb : (oaS N (s + 1)).testBit a = true := by rw [oa_tb, decide_eq_true ha, decide_eq_true hs1]; rfl
        rw [if_neg (show ¬ eN (spN N a) = eN 0 from fun z => q ((eN_eq (by omega) (by omega)).mp z)), hs1, ← eN_s, bd1_e (gs0 hF i (by omega)), bit1 (by omega), hb]
        rfl
    show fL_plan_l36 F c (nI (N 8)) (eN (psS N a), bI (exB (lackP N) a), bI (exB (closeA N) a), bI (exB (earlyA N) a), (1 : Int32), nI a) = _
    unfold fL_plan_l36
    rw [uc6_s, if_neg (nI_ge ha (by omega)), b1_0, bd1_e (go6 hF i ha), bd1_e e37, bd1_e e38, bd1_e e39, bd3_e (plan_in hF i ha _ _), il_1, nI_add]
    rfl
  · unfold fL_plan_l36
    rw [uc6_s, if_pos (nI_le (Nat.le_refl _) (by omega))]
theorem plan_sum (hF : 1000000 < F) (i : I3 B c N) {s : Nat} (hs : s < 8) : lp (fL_plan_l319 F c (nI (N 8)) (nI s)) F ((0 : Int32), (0 : Int32)) = some (nI (fsS N (s + 1))) := by
  obtain ⟨d, -, -, gn, -, -⟩ := i.dw
  have h8 := d.2.2.2.1.1
  refine lp_seqE (fun j => (nI (fb_sm (fun o => if spN N o = s + 1 then foS N o else 0) j), nI j)) rfl (N 8) (fun a ha => ?_) ?_ (by omega)
  · unfold fL_plan_l319
    rw [uc2_s, if_neg (nI_ge ha (by omega)), bd1_e (gs0 hF i hs), bd1_e (go5 hF i ha), sh1 (by omega), oa_tb, decide_eq_true ha, Bool.true_and, fb_sm_succ, nI_if, pk_mul, nI_add, nm_s, il_1, nI_add]
    have e : (if decide (spN N a = s + 1) = true then 1 else 0) * foS N a = if spN N a = s + 1 then foS N a else 0 := by
      by_cases q : spN N a = s + 1
      · rw [decide_eq_true q, if_pos rfl, if_pos q, Nat.one_mul]
      · rw [decide_eq_false q, if_neg (by decide), if_neg q, Nat.zero_mul]
    rw [e]
  · unfold fL_plan_l319
    rw [uc2_s, if_pos (nI_le (Nat.le_refl _) (by omega))]
    rfl
theorem plan_heavy (hF : 1000000 < F) (i : I3 B c N) : lp (fL_plan_l301 F c (nI (N 8))) F ((0 : Int32), (1 : Int32), (0 : Int32)) = some (bI (exB (heavyA N) 8), (1 : Int32)) := by
  obtain ⟨d, -, -, gn, -, -⟩ := i.dw
  refine lp_seqE (fun j => (bI (exB (heavyA N) j), (1 : Int32), nI j)) rfl 8 (fun s hs => ?_) ?_ (by omega)
  · have hf := fs_le d (s + 1)
    have h3 := d.2.2.1.2.1
    have e23 : (if ¬ bI (exB (heavyA N) s) = 0 then some (1 : Int32) else bd1 (g_whole F c (3 : Int32)) fun r24 => if nI (fsS N (s + 1)) ≤ r24 then some (0 : Int32) else some (1 : Int32)) = some (bI (exB (heavyA N) (s + 1))) := by
      rw [exB_s]
      cases exB (heavyA N) s with
      | true => rw [if_pos (show ¬ bI true = 0 by decide)]; rfl
      | false =>
        rw [if_neg (nn (show bI false = 0 from rfl)), Bool.false_or, bd1_e (gw3 hF i)]
        unfold heavyA
        by_cases q : N 3 < fsS N (s + 1)
        · rw [if_neg (nI_ge q (by omega)), decide_eq_true q]; rfl
        · rw [if_pos (nI_le (by omega) (by omega)), decide_eq_false q]; rfl
    unfold fL_plan_l301
    rw [uc3_s, il_8, if_neg (nI_ge hs (by omega)), b1_0, bd1_e (plan_sum hF i hs), bd1_e (gs1 hF i hs), if_neg (nn rfl), bd1_s, bd1_e e23, il_1, nI_add]
  · unfold fL_plan_l301
    rw [uc3_s, if_pos (show (8 : Int32) ≤ nI 8 by decide)]
theorem pf_eq (N : Nat → Nat) : (if bI (exB (lackP N) (N 8)) = 0 then (if bI (exB (heavyA N) 8) = 0 then (if bI (exB (closeA N) (N 8)) = 0 then (if bI (exB (earlyA N) (N 8)) = 0 then some (0 : Int32) else some (4 : Int32)) else some (3 : Int32)) else some (2 : Int32)) else some (1 : Int32)) = some (nI (pfS N)) := by
  have e : pfS N = if exB (lackP N) (N 8) = true then 1 else if exB (heavyA N) 8 = true then 2 else if exB (closeA N) (N 8) = true then 3 else if exB (earlyA N) (N 8) = true then 4 else 0 := rfl
  rw [e]
  cases exB (lackP N) (N 8) <;> cases exB (heavyA N) 8 <;> cases exB (closeA N) (N 8) <;> cases exB (earlyA N) (N 8) <;> rfl
/-! a plan without fault, and the search -/
theorem ps_ge (N : Nat → Nat) : ∀ n k, k < n → spN N k ≤ psS N n
  | 0, k, h => absurd h (by omega)
  | n + 1, k, h => by
    rw [psS]
    by_cases q : k = n
    · subst q
      split <;> omega
    · have := ps_ge N n k (by omega)
      split <;> omega
theorem exB_no {p : Nat → Bool} {n : Nat} (h : ∀ k, k < n → p k = false) : exB p n = false := Bool.eq_false_iff.mpr fun z => by
  obtain ⟨k, hk, q⟩ := (exB_iff p n).mp z
  rw [h k hk] at q
  cases q
theorem exB_at {p : Nat → Bool} {n k : Nat} (h : exB p n = false) (hk : k < n) : p k = false := Bool.eq_false_iff.mpr fun z => by
  rw [(exB_iff p n).mpr ⟨k, hk, z⟩] at h
  cases h
theorem pf_0 {N : Nat → Nat} : pfS N = 0 ↔ exB (lackP N) (N 8) = false ∧ exB (heavyA N) 8 = false ∧ exB (closeA N) (N 8) = false ∧ exB (earlyA N) (N 8) = false := by
  have e : pfS N = if exB (lackP N) (N 8) = true then 1 else if exB (heavyA N) 8 = true then 2 else if exB (closeA N) (N 8) = true then 3 else if exB (earlyA N) (N 8) = true then 4 else 0 := rfl
  rw [e]
  cases exB (lackP N) (N 8) <;> cases exB (heavyA N) 8 <;> cases exB (closeA N) (N 8) <;> cases exB (earlyA N) (N 8) <;> decide
/-- the plan itself is a solution -/
theorem pf_sol {N : Nat → Nat} (d : DW N) (h : pfS N = 0) : SolB (N 8) (candM N (N 3) (psS N (N 8))) (fun o => spN N o - 1) := by
  obtain ⟨h1, h2, h3, h4⟩ := pf_0.mp h
  have pos : ∀ o, o < N 8 → 1 ≤ spN N o := fun o ho => by
    have := exB_at h1 ho
    unfold lackP at this
    have := of_decide_eq_false this
    omega
  have cl : ∀ a b, a < N 8 → b < N 8 → tcB N a b = true → spN N b ≠ spN N a := fun a b ha hb t z => by
    have h5 : exB (closeB N a) (N 8) = false := exB_at (p := closeA N) h3 ha
    have := exB_at h5 hb
    unfold closeB at this
    rw [t, decide_eq_true z] at this
    cases this
  have ea : ∀ a b, a < N 8 → b < N 8 → tcB N a b = true → kd N a = 1 → kd N b = 0 → spN N b + 1 + N 4 ≤ spN N a := fun a b ha hb t ka kb => by
    have h5 : exB (early N a) (N 8) = false := exB_at (p := earlyA N) h4 ha
    have := exB_at h5 hb
    by_cases q : spN N a < spN N b + 1 + N 4
    · rw [(early_iff N a b).mpr ⟨ka, kb, t, q⟩] at this
      cases this
    · omega
  intro k hk
  have hp := pos k hk
  have hps := ps_ge N (N 8) k hk
  have hle := spN_le N k
  have kk := kd_le d hk
  show (decide (spN N k - 1 < psS N (N 8)) && tstS N (N 3) k (fun o => spN N o - 1) (spN N k - 1)) = true
  rw [decide_eq_true (by omega), Bool.true_and]
  unfold tstS
  rw [Bool.and_eq_true, Bool.not_eq_true']
  constructor
  · refine exB_no fun j hj => ?_
    have hj8 : j < N 8 := by omega
    have pj := pos j hj8
    have kj := kd_le d hj8
    unfold conf
    cases t : tcB N k j with
    | false => rfl
    | true =>
      rw [Bool.true_and]
      have c1 := cl k j hk hj8 t
      show (if kd N k = kd N j then decide (spN N j - 1 = spN N k - 1) else if kd N k = 1 then decide (spN N k - 1 < spN N j - 1 + 1 + N 4) else decide (spN N j - 1 < spN N k - 1 + 1 + N 4)) = false
      by_cases q : kd N k = kd N j
      · rw [if_pos q]
        exact decide_eq_false (by omega)
      · rw [if_neg q]
        by_cases q1 : kd N k = 1
        · rw [if_pos q1]
          have := ea k j hk hj8 t q1 (by omega)
          exact decide_eq_false (by omega)
        · rw [if_neg q1]
          have t2 : tcB N j k = true := by rw [tcB_sym d hj8 hk]; exact t
          have := ea j k hj8 hk t2 (by omega) (by omega)
          exact decide_eq_false (by omega)
  · refine decide_eq_true ?_
    have hh := exB_at (k := spN N k - 1) h2 (by omega)
    unfold heavyA at hh
    have hh := of_decide_eq_false hh
    rw [show spN N k - 1 + 1 = spN N k by omega] at hh
    have pt := fb_sm_part (fun o => if spN N o = spN N k then foS N o else 0) hk
    have e1 : suS N (fun o => spN N o - 1) (spN N k - 1) k = fb_sm (fun o => if spN N o = spN N k then foS N o else 0) k := by
      unfold suS
      refine fb_sm_cong fun j hj => ?_
      have pj := pos j (by omega)
      by_cases q : spN N j = spN N k
      · rw [if_pos (show spN N j - 1 = spN N k - 1 by omega), if_pos q]
      · rw [if_neg (show ¬ spN N j - 1 = spN N k - 1 by omega), if_neg q]
    rw [if_pos rfl] at pt
    have e2 : fsS N (spN N k) = fb_sm (fun o => if spN N o = spN N k then foS N o else 0) (N 8) := rfl
    omega
theorem plan_res {N : Nat → Nat} (d : DW N) {rr : Int32} {ch : Nat → Int32} (h : pfS N = 0) (r : PlanRes N (N 3) rr ch) : ∃ m, rr = nI m ∧ m ≤ psS N (N 8) := by
  have s := pf_sol d h
  rcases r with ⟨-, r2⟩ | ⟨m, cc, hm, r1, r2, -⟩
  · exact absurd s (r2 _ (ps_le N (N 8)) _)
  · refine ⟨m, r1, ?_⟩
    by_cases q : psS N (N 8) < m
    · exact absurd s (r2 _ q _)
    · omega
theorem plan_s (hF : 1000000 < F) (i : I3 B c N) : ∃ c2, fL_plan F c = some ((1 : Int32), c2) ∧ I3 B c2 N := by
  obtain ⟨d, -, -, gn, -, -⟩ := i.dw
  have h8 := d.2.2.2.1.1
  have hps := ps_le N (N 8)
  have hpf : pfS N ≤ 4 := by
    unfold pfS
    repeat' split
    all_goals omega
  have e0 : (if (6 : Int32) < nI (N 8) then some (0 : Int32) else some (1 : Int32)) = some (1 : Int32) := if_neg (fun z => by rw [il_6, fa_lt, nI_toInt (by omega), nI_toInt (by omega)] at z; omega)
  unfold fL_plan
  rw [bd1_e (gw8 hF i), bd1_e e0, bd5_e (plan_out hF i), bd2_e (plan_heavy hF i), bd1_e (pf_eq N), b1_0, bd1_e (gw9 hF i), if_neg (nn (show nI (psS N (N 8)) = eN (psS N (N 8)) + 1 from (eN_up _).symm)), bd1_e (gv_planFault hF i), if_neg (nn rfl)]
  by_cases q : pfS N = 0
  · rw [q, if_neg (nn (show nI 0 = (0 : Int32) from rfl))]
    obtain ⟨rr, ch, c2, e1, r1, i2⟩ := gv_planned hF i
    obtain ⟨rr2, ch2, c3, e2, r2, i3⟩ := gv_planned hF i2
    obtain ⟨m, em, hm⟩ := plan_res d q r1
    obtain ⟨m2, em2, hm2⟩ := plan_res d q r2
    refine ⟨c3, ?_, i3⟩
    rw [bd2_e e1, if_neg (show ¬ rr = -1 by rw [em, eN_s, eN_0, eN_eq (by omega) (by omega)]; omega), bd2_e e2, eN_up, em2, if_neg (show ¬ nI (psS N (N 8)) < nI m2 from fun z => by rw [fa_lt, nI_toInt (by omega), nI_toInt (by omega)] at z; omega)]
  · exact ⟨c, if_pos (show ¬ nI (pfS N) = 0 from fun z => q ((nI_eq (b := 0) (by omega) (by omega)).mp z)), i⟩
end PLAN
