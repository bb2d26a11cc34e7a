def Feas (N : Nat → Nat) (L : Nat) : Prop := ∃ b, SolB (N 8) (candM N L 8) b
theorem sol_up {N : Nat → Nat} {L L' m m' : Nat} (hL : L ≤ L') (hm : m ≤ m') {b : Nat → Nat} (hb : SolB (N 8) (candM N L m) b) : SolB (N 8) (candM N L' m') b := fun k hk => by
  have z := hb k hk
  unfold candM tstS at *
  rw [Bool.and_eq_true, Bool.and_eq_true, decide_eq_true_eq, decide_eq_true_eq] at *
  exact ⟨by omega, z.2.1, by omega⟩
theorem feas_up {N : Nat → Nat} {L L' : Nat} (hL : L ≤ L') (h : Feas N L) : Feas N L' := by
  obtain ⟨b, hb⟩ := h
  exact ⟨b, sol_up hL (Nat.le_refl 8) hb⟩
theorem plan_feas {N : Nat → Nat} {L : Nat} {r : Int32} {ch : Nat → Int32} (h : PlanRes N L r ch) : (r = eN 0 ∧ ¬ Feas N L) ∨ (r ≠ eN 0 ∧ Feas N L) := by
  rcases h with ⟨a1, a2⟩ | ⟨m, c, a1, a2, a3, a4, a5⟩
  · exact Or.inl ⟨a1, fun ⟨b, hb⟩ => a2 8 (Nat.le_refl 8) b hb⟩
  · refine Or.inr ⟨?_, c, sol_up (Nat.le_refl L) a1 a4.1⟩
    rw [a2, eN_s]
    intro z
    rw [eN_eq (by omega) (by omega)] at z
    omega
def LeastRes (N : Nat → Nat) (r : Int32) : Prop := (r = eN 0 ∧ ¬ Feas N 999) ∨ ∃ L, 1 ≤ L ∧ L ≤ 999 ∧ r = nI L ∧ Feas N L ∧ ∀ L', 1 ≤ L' → L' < L → ¬ Feas N L'
theorem LeastRes.one {N : Nat → Nat} {r r' : Int32} (h : LeastRes N r) (h' : LeastRes N r') : r = r' := by
  rcases h with ⟨a1, a2⟩ | ⟨L, a1, a2, a3, a4, a5⟩
  · rcases h' with ⟨b1, b2⟩ | ⟨L', b1, b2, b3, b4, b5⟩
    · rw [a1, b1]
    · exact absurd (feas_up b2 b4) a2
  · rcases h' with ⟨b1, b2⟩ | ⟨L', b1, b2, b3, b4, b5⟩
    · exact absurd (feas_up a2 a4) b2
    · rcases Nat.lt_trichotomy L L' with z | z | z
      · exact absurd a4 (b5 L a1 z)
      · rw [a3, b3, z]
      · exact absurd b4 (a5 L' b1 z)
theorem half {a b : Nat} (ha : a ≤ 999) (hb : b ≤ 999) : (nI a + nI b) / (2 : Int32) = nI ((a + b) / 2) := by
  rw [nI_add, il_2, pk_div (by omega) (by omega) (by omega)]
theorem x2_least {F : Nat} {N : Nat → Nat} {set fac ch tou frc : Nat → Int32} {cel : Nat → Int64} (hF : 1000000 < F) (h : DW N) (c : CD N set fac cel) : ∃ r u1 u2 u3 u4 u5 ch' u7 u8, fX2_findLeastLimit F ch tou frc (nI (N 0)) (nI (N 1)) (nI (N 8)) set fac cel = some (r, u1, u2, u3, u4, u5, ch', u7, u8) ∧ LeastRes N r := by
  have h8 := h.2.2.2.1.1
  obtain ⟨tou', frc', e, pr⟩ := x2_prep (F := F) (tou := tou) (frc := frc) hF h c
  unfold fX2_findLeastLimit
  rw [bd6_e e]
  have gl := gf_le h
  obtain ⟨rr, ch2, w1, w2⟩ := x2_within (F := F) (ch := ch) (L := 999) hF h pr (m := 8) (by omega) (by omega)
  rw [show (999 : Int32) = nI 999 from rfl, show (8 : Int32) = nI 8 from rfl, bd2_e w1]
  rcases w2 with ⟨a1, a2⟩ | ⟨a1, cc, a2, a3⟩
  · subst a1
    rw [if_neg (nn (show nI 0 = 0 from rfl))]
    exact ⟨-1, _, _, _, _, _, ch2, _, _, rfl, Or.inl ⟨eN_0, fun ⟨b, hb⟩ => nos_CM h a2 b hb⟩⟩
  · subst a1
    rw [if_pos (show ¬ nI 1 = 0 by decide +kernel)]
    have e1 : (if (1 : Int32) < nI (gfS N (N 8)) then nI (gfS N (N 8)) else (1 : Int32)) = nI (if 1 < gfS N (N 8) then gfS N (N 8) else 1) := by
      rw [il_1]
      by_cases z : 1 < gfS N (N 8)
      · rw [if_pos (nI_lt z (by omega)), if_pos z]
      · rw [if_neg (nI_nlt (by omega) (by omega)), if_neg z]
    rw [e1, nm_s]
    have low0 : ∀ L', 1 ≤ L' → L' < (if 1 < gfS N (N 8) then gfS N (N 8) else 1) → ¬ Feas N L' := by
      rintro L' b1 b2 ⟨b, hb⟩
      have := (gf_iff N L' (N 8)).mpr (fun o ho => sol_force hb ho)
      split at b2 <;> omega
    have le0 : 1 ≤ (if 1 < gfS N (N 8) then gfS N (N 8) else 1) ∧ (if 1 < gfS N (N 8) then gfS N (N 8) else 1) ≤ 32 := by split <;> omega
    generalize (if 1 < gfS N (N 8) then gfS N (N 8) else 1) = low at *
    have step : ∀ x : Int32 × Int32 × Int32 × Int32 × (Nat → Int32), (∃ lo hi st, x.1 = nI lo ∧ x.2.1 = nI hi ∧ x.2.2.1 = nI st ∧ 1 ≤ lo ∧ lo ≤ hi ∧ hi ≤ 999 ∧ st + (hi - lo) ≤ 998 ∧ Feas N hi ∧ ∀ L', 1 ≤ L' → L' < lo → ¬ Feas N L') → (∃ x', fX2_findLeastLimit_l39 F (nI (N 8)) (nI (N 4)) (nI (bnS N (N 8))) tou' frc' x = some (.inl x') ∧ (∃ lo hi st, x'.1 = nI lo ∧ x'.2.1 = nI hi ∧ x'.2.2.1 = nI st ∧ 1 ≤ lo ∧ lo ≤ hi ∧ hi ≤ 999 ∧ st + (hi - lo) ≤ 998 ∧ Feas N hi ∧ ∀ L', 1 ≤ L' → L' < lo → ¬ Feas N L') ∧ 2000 - x'.2.2.1.toNatClampNeg < 2000 - x.2.2.1.toNatClampNeg) ∨ (∃ a, fX2_findLeastLimit_l39 F (nI (N 8)) (nI (N 4)) (nI (bnS N (N 8))) tou' frc' x = some (.inr a) ∧ LeastRes N a.1) := by
      rintro ⟨v13, v14, v15, v16, v17⟩ ⟨lo, hi, st, e1, e2, e3, b1, b2, b3, b4, b5, b6⟩
      have e1 : v13 = nI lo := e1
      have e2 : v14 = nI hi := e2
      have e3 : v15 = nI st := e3
      subst e1 e2 e3
      by_cases z : hi ≤ lo
      · obtain rfl : hi = lo := by omega
        refine Or.inr ⟨(nI hi, v16, v17), ?_, Or.inr ⟨hi, b1, b3, rfl, b5, b6⟩⟩
        unfold fX2_findLeastLimit_l39
        rw [uc5_s, il_999, if_neg (nI_ge (by omega) (by omega)), if_pos (nI_le (by omega) (by omega))]
      · have hm : lo ≤ (lo + hi) / 2 ∧ (lo + hi) / 2 < hi := by omega
        obtain ⟨rr, ch3, w3, w4⟩ := x2_within (F := F) (ch := v17) (L := (lo + hi) / 2) hF h pr (m := 8) (by omega) (by omega)
        have pre : fX2_findLeastLimit_l39 F (nI (N 8)) (nI (N 4)) (nI (bnS N (N 8))) tou' frc' (nI lo, nI hi, nI st, v16, v17) = bd2 (if rr = 0 then (nm (nI ((lo + hi) / 2) + (1 : Int32)) fun v23 => some (v23, nI hi)) else some (nI lo, nI ((lo + hi) / 2))) fun v21 v22 => some (.inl (v21, v22, nI (st + 1), nI ((lo + hi) / 2), ch3)) := by
          unfold fX2_findLeastLimit_l39
          rw [uc5_s, il_999, if_neg (nI_ge (by omega) (by omega)), if_neg (nI_ge (by omega) (by omega)), show gz (2 : Int32) = gz (nI 2) from rfl, gz_nI (by omega) (by omega), half (by omega) (by omega), nm_s, show (8 : Int32) = nI 8 from rfl, bd2_e w3, il_1, nI_add, nI_add]
        rcases w4 with ⟨c1, c2⟩ | ⟨c1, cc, c2, c3⟩
        · rw [c1, if_pos (show nI 0 = 0 from rfl), nm_s, il_1, nI_add, bd2_s] at pre
          refine Or.inl ⟨_, pre, ⟨(lo + hi) / 2 + 1, hi, st + 1, rfl, rfl, rfl, by omega, by omega, b3, by omega, b5, fun L' y1 y2 => ?_⟩, ?_⟩
          · intro fe
            exact (fun ⟨b, hb⟩ => nos_CM h c2 b hb : ¬ Feas N ((lo + hi) / 2)) (feas_up (by omega) fe)
          · show 2000 - (nI (st + 1)).toNatClampNeg < 2000 - (nI st).toNatClampNeg
            rw [nI_clamp (by omega), nI_clamp (by omega)]; omega
        · rw [c1, if_neg (show ¬ nI 1 = 0 by decide +kernel), bd2_s] at pre
          refine Or.inl ⟨_, pre, ⟨lo, (lo + hi) / 2, st + 1, rfl, rfl, rfl, b1, by omega, by omega, by omega, ⟨cc, (lex_CM h c2).1⟩, b6⟩, ?_⟩
          show 2000 - (nI (st + 1)).toNatClampNeg < 2000 - (nI st).toNatClampNeg
          rw [nI_clamp (by omega), nI_clamp (by omega)]; omega
    obtain ⟨⟨v10, v11, v12⟩, g1, g2⟩ := lp_run _ (fun x : Int32 × Int32 × Int32 × Int32 × (Nat → Int32) => 2000 - x.2.2.1.toNatClampNeg) _ step (F := F) (x := (nI low, nI 999, nI 0, nI 999, ch2)) ⟨low, 999, 0, rfl, rfl, rfl, by omega, by omega, by omega, by omega, ⟨cc, (lex_CM h a2).1⟩, low0⟩ (by show 2000 - _ < F; omega)
    rw [show (nI low, nI 999, (0 : Int32), nI 999, ch2) = (nI low, nI 999, nI 0, nI 999, ch2) from rfl, bd3_e g1]
    exact ⟨v10, _, _, _, _, _, v12, _, _, rfl, g2⟩
theorem x6_least {F : Nat} {N : Nat → Nat} {tr be tou : Nat → Int32} (hF : 1000000 < F) (h : DW N) : ∃ r tr' be' tou', fX6_leastLimit F (lA N) tr be tou = some (r, 0, tr', be', tou') ∧ LeastRes N r := by
  unfold fX6_leastLimit
  obtain ⟨rr, tr1, be1, tou1, w1, w2⟩ := x6_plans (F := F) (tr := tr) (be := be) (tou := tou) (L := 999) hF h (by omega)
  rw [show (999 : Int32) = nI 999 from rfl, bd4_e w1, eN_0]
  rcases plan_feas w2 with ⟨a1, a2⟩ | ⟨a1, a2⟩
  · rw [if_neg (nn a1)]
    exact ⟨_, _, _, _, rfl, Or.inl ⟨rfl, a2⟩⟩
  · rw [if_pos a1]
    have step : ∀ x : Int32 × Int32 × (Nat → Int32) × (Nat → Int32) × (Nat → Int32), (∃ lo hi, x.1 = nI lo ∧ x.2.1 = nI hi ∧ 1 ≤ lo ∧ lo ≤ hi ∧ hi ≤ 999 ∧ Feas N hi ∧ ∀ L', 1 ≤ L' → L' < lo → ¬ Feas N L') → (∃ x', fX6_leastLimit_l24 F (lA N) x = some (.inl x') ∧ (∃ lo hi, x'.1 = nI lo ∧ x'.2.1 = nI hi ∧ 1 ≤ lo ∧ lo ≤ hi ∧ hi ≤ 999 ∧ Feas N hi ∧ ∀ L', 1 ≤ L' → L' < lo → ¬ Feas N L') ∧ x'.2.1.toNatClampNeg - x'.1.toNatClampNeg < x.2.1.toNatClampNeg - x.1.toNatClampNeg) ∨ (∃ a, fX6_leastLimit_l24 F (lA N) x = some (.inr a) ∧ LeastRes N a.1) := by
      rintro ⟨v9, v10, v11, v12, v13⟩ ⟨lo, hi, e1, e2, b1, b2, b3, b5, b6⟩
      have e1 : v9 = nI lo := e1
      have e2 : v10 = nI hi := e2
      subst e1 e2
      by_cases z : hi ≤ lo
      · obtain rfl : hi = lo := by omega
        refine Or.inr ⟨(nI hi, v11, v12, v13), ?_, Or.inr ⟨hi, b1, b3, rfl, b5, b6⟩⟩
        unfold fX6_leastLimit_l24
        rw [uc5_s, if_pos (nI_le (by omega) (by omega))]
      · have hm : lo ≤ (lo + hi) / 2 ∧ (lo + hi) / 2 < hi := by omega
        obtain ⟨r2, tr2, be2, tou2, w3, w4⟩ := x6_plans (F := F) (tr := v11) (be := v12) (tou := v13) (L := (lo + hi) / 2) hF h (by omega)
        have pre : fX6_leastLimit_l24 F (lA N) (nI lo, nI hi, v11, v12, v13) = bd2 (if ¬ r2 = eN 0 then some (nI lo, nI ((lo + hi) / 2)) else (nm (nI ((lo + hi) / 2) + (1 : Int32)) fun v21 => some (v21, nI hi))) fun v19 v20 => some (.inl (v19, v20, tr2, be2, tou2)) := by
          unfold fX6_leastLimit_l24
          rw [uc5_s, if_neg (nI_ge (by omega) (by omega)), show gz (2 : Int32) = gz (nI 2) from rfl, gz_nI (by omega) (by omega), half (by omega) (by omega), nm_s, bd4_e w3, eN_0]
        rcases plan_feas w4 with ⟨c1, c2⟩ | ⟨c1, c2⟩
        · rw [if_neg (nn c1), nm_s, il_1, nI_add, bd2_s] at pre
          refine Or.inl ⟨_, pre, ⟨(lo + hi) / 2 + 1, hi, rfl, rfl, by omega, by omega, b3, b5, fun L' y1 y2 fe => c2 (feas_up (by omega) fe)⟩, ?_⟩
          show (nI hi).toNatClampNeg - (nI ((lo + hi) / 2 + 1)).toNatClampNeg < (nI hi).toNatClampNeg - (nI lo).toNatClampNeg
          rw [nI_clamp (by omega), nI_clamp (by omega), nI_clamp (by omega)]; omega
        · rw [if_pos c1, bd2_s] at pre
          refine Or.inl ⟨_, pre, ⟨lo, (lo + hi) / 2, rfl, rfl, b1, by omega, by omega, c2, b6⟩, ?_⟩
          show (nI ((lo + hi) / 2)).toNatClampNeg - (nI lo).toNatClampNeg < (nI hi).toNatClampNeg - (nI lo).toNatClampNeg
          rw [nI_clamp (by omega), nI_clamp (by omega), nI_clamp (by omega)]; omega
    obtain ⟨⟨v5, v6, v7, v8⟩, g1, g2⟩ := lp_run _ (fun x : Int32 × Int32 × (Nat → Int32) × (Nat → Int32) × (Nat → Int32) => x.2.1.toNatClampNeg - x.1.toNatClampNeg) _ step (F := F) (x := (nI 1, nI 999, tr1, be1, tou1)) ⟨1, 999, rfl, rfl, by omega, by omega, by omega, a2, fun L' y1 y2 => by omega⟩ (by show (nI 999).toNatClampNeg - (nI 1).toNatClampNeg < F; rw [nI_clamp (by omega), nI_clamp (by omega)]; omega)
    rw [show ((1 : Int32), nI 999, tr1, be1, tou1) = (nI 1, nI 999, tr1, be1, tou1) from rfl, bd4_e g1]
    exact ⟨v5, _, _, _, rfl, g2⟩
