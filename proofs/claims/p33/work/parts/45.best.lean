def NoSol (N : Nat → Nat) (L m : Nat) : Prop := ∀ b, ¬ SolB (N 8) (candM N L m) b
def PlanRes (N : Nat → Nat) (L : Nat) (r : Int32) (ch : Nat → Int32) : Prop := (r = eN 0 ∧ ∀ m, m ≤ 8 → NoSol N L m) ∨ (∃ m c, m ≤ 8 ∧ r = nI m ∧ (∀ m', m' < m → NoSol N L m') ∧ LexMin (N 8) (candM N L m) c ∧ ∀ j, j < N 8 → ch j = eN (c j + 1) ∧ c j < 8)
theorem PlanRes.one {N : Nat → Nat} {L : Nat} {r r' : Int32} {ch ch' : Nat → Int32} (h : PlanRes N L r ch) (h' : PlanRes N L r' ch') : r = r' ∧ (r ≠ eN 0 → ∀ j, j < N 8 → ch j = ch' j) := by
  rcases h with ⟨a1, a2⟩ | ⟨m, c, a1, a2, a3, a4, a5⟩
  · rcases h' with ⟨b1, b2⟩ | ⟨m', c', b1, b2, b3, b4, b5⟩
    · exact ⟨by rw [a1, b1], fun z => absurd a1 z⟩
    · exact absurd b4.1 (a2 m' b1 c')
  · rcases h' with ⟨b1, b2⟩ | ⟨m', c', b1, b2, b3, b4, b5⟩
    · exact absurd a4.1 (b2 m a1 c)
    · have e : m = m' := by
        rcases Nat.lt_trichotomy m m' with z | z | z
        · exact absurd a4.1 (b3 m z c)
        · exact z
        · exact absurd b4.1 (a3 m' z c')
      subst e
      refine ⟨by rw [a2, b2], fun _ j hj => ?_⟩
      rw [(a5 j hj).1, (b5 j hj).1, LexMin.one (fun _ => Iff.rfl) a4 b4 j hj]
theorem lex_CM {N : Nat → Nat} (h : DW N) {L m : Nat} {c : Nat → Nat} (l : LexMin (N 8) (candC N L m) c) : LexMin (N 8) (candM N L m) c := ⟨(sol_eq h L m c).mp l.1, fun b hb => l.2 b ((sol_eq h L m b).mpr hb)⟩
theorem nos_CM {N : Nat → Nat} (h : DW N) {L m : Nat} (l : ∀ b, ¬ SolB (N 8) (candC N L m) b) : NoSol N L m := fun b hb => l b ((sol_eq h L m b).mpr hb)
theorem sol_force {N : Nat → Nat} {L m : Nat} {b : Nat → Nat} (hb : SolB (N 8) (candM N L m) b) {o : Nat} (ho : o < N 8) : foS N o ≤ L := by
  have z := hb o ho
  unfold candM tstS at z
  rw [Bool.and_eq_true, Bool.and_eq_true, decide_eq_true_eq, decide_eq_true_eq] at z
  omega
def gfS (N : Nat → Nat) : Nat → Nat
  | 0 => 0
  | j + 1 => if gfS N j < foS N j then foS N j else gfS N j
theorem gf_iff (N : Nat → Nat) (L : Nat) : ∀ n, gfS N n ≤ L ↔ ∀ o, o < n → foS N o ≤ L
  | 0 => by simp [gfS]
  | n + 1 => by
    have ih := gf_iff N L n
    rw [gfS]
    constructor
    · intro z o ho
      rcases Nat.lt_or_ge o n with q | q
      · exact ih.mp (by split at z <;> omega) o q
      · have e : o = n := by omega
        subst e
        split at z <;> omega
    · intro z
      have a := ih.mpr (fun o ho => z o (by omega))
      have b := z n (by omega)
      split <;> omega
theorem gf_le {N : Nat → Nat} (h : DW N) : gfS N (N 8) ≤ 32 := (gf_iff N 32 (N 8)).mpr (fun _ ho => (fo_le h ho).2)
theorem x2_prep {F : Nat} {N : Nat → Nat} {set fac tou frc : Nat → Int32} {cel : Nat → Int64} (hF : 1000000 < F) (h : DW N) (c : CD N set fac cel) : ∃ tou' frc', fX2_prepare F tou frc (nI (N 0)) (nI (N 1)) (nI (N 8)) set fac cel = some (nI (N 8), nI (N 4), nI (bnS N (N 8)), nI (gfS N (N 8)), tou', frc') ∧ PR N tou' frc' := by
  have h8 := h.2.2.2.1.1
  unfold fX2_prepare
  have e1 : (if (6 : Int32) < nI (N 8) then (6 : Int32) else nI (N 8)) = nI (N 8) := by rw [il_6, if_neg (nI_nlt h8 (by omega))]
  rw [e1, nm_s, bd1_e (set_1 c)]
  refine ⟨fa_fill (fun o => nI (tcS N o)) tou (N 8), fa_fill (fun o => nI (foS N o)) frc (N 8), ?_, fun o ho => ⟨fa_fill_in ho, fa_fill_in ho⟩⟩
  have L1 := lp_seqE (body := fX2_prepare_l34 F (nI (N 0)) (nI (N 1)) (nI (N 8)) fac cel (nI (N 8))) (S := fun j => (nI j, nI (bnS N j), nI (gfS N j), fa_fill (fun o => nI (tcS N o)) tou j, fa_fill (fun o => nI (foS N o)) frc j)) (x0 := (nI 0, nI 0, nI 0, tou, frc)) (by rw [fa_fill_0, fa_fill_0]; rfl) (n := N 8) (a := (nI (bnS N (N 8)), nI (gfS N (N 8)), fa_fill (fun o => nI (tcS N o)) tou (N 8), fa_fill (fun o => nI (foS N o)) frc (N 8))) (F := F) (fun o ho => by
      show fX2_prepare_l34 F (nI (N 0)) (nI (N 1)) (nI (N 8)) fac cel (nI (N 8)) (nI o, nI (bnS N o), nI (gfS N o), fa_fill (fun o => nI (tcS N o)) tou o, fa_fill (fun o => nI (foS N o)) frc o) = some (.inl (nI (o + 1), nI (bnS N o ||| if decide (kd N o = 1) = true then 2 ^ o else 0), nI (if gfS N o < foS N o then foS N o else gfS N o), fa_fill (fun o => nI (tcS N o)) tou (o + 1), fa_fill (fun o => nI (foS N o)) frc (o + 1)))
      unfold fX2_prepare_l34
      have gl : gfS N o ≤ 32 := (gf_iff N 32 o).mpr (fun j hj => (fo_le h (by omega)).2)
      have fl := fo_le h ho
      have k1 := kd_le h ho
      rw [uc5_s, if_neg (nI_ge ho (by omega)), il_6, if_neg (nI_ge (by omega) (by omega)), if_neg (nI_ge (by omega) (by omega)), bd1_e (x1_tc (by omega) h c ho), gd_nI (by omega) (by omega), bd1_e (fac_fo h c ho), gd_nI (by omega) (by omega), gd_nI (by omega) (by omega), nI_clamp (by omega), upd_s]
      have e2 : (if nI (gfS N o) < nI (foS N o) then nI (foS N o) else nI (gfS N o)) = nI (if gfS N o < foS N o then foS N o else gfS N o) := by
        by_cases z : gfS N o < foS N o
        · rw [if_pos (nI_lt z (by omega)), if_pos z]
        · rw [if_neg (nI_nlt (by omega) (by omega)), if_neg z]
      rw [e2, nm_s, bd1_e (fac_k h c ho), ← fa_fill_succ, ← fa_fill_succ, il_1, nI_add]
      show bd1 (if ¬ nI (kd N o) = nI 1 then _ else _) _ = _
      by_cases z : kd N o = 1
      · rw [if_neg (nn (show nI (kd N o) = nI 1 from by rw [z])), if_pos (decide_eq_true z), show nI 1 <<< (nI o &&& 31) = nI (2 ^ o) from one_shlI o (by omega), fa_or, nm_s, bd1_s]
      · rw [if_pos (show ¬ nI (kd N o) = nI 1 from fun y => z ((nI_eq (by omega) (by omega)).mp y)), if_neg (fun y => z (of_decide_eq_true y)), bd1_s, Nat.or_zero]) (by
      show fX2_prepare_l34 F (nI (N 0)) (nI (N 1)) (nI (N 8)) fac cel (nI (N 8)) (nI (N 8), nI (bnS N (N 8)), nI (gfS N (N 8)), fa_fill (fun o => nI (tcS N o)) tou (N 8), fa_fill (fun o => nI (foS N o)) frc (N 8)) = _
      unfold fX2_prepare_l34
      rw [uc5_s, if_pos (nI_le (Nat.le_refl _) (by omega))]) (by omega)
  exact (bd4_e L1).trans rfl
theorem x2_best {F : Nat} {N : Nat → Nat} {set fac ch tou frc : Nat → Int32} {cel : Nat → Int64} (hF : 1000000 < F) (h : DW N) (c : CD N set fac cel) : ∃ r u1 u2 u3 u4 u5 ch' u7 u8, fX2_findBest F ch tou frc (nI (N 0)) (nI (N 1)) (nI (N 8)) set fac cel = some (r, u1, u2, u3, u4, u5, ch', u7, u8) ∧ PlanRes N (N 3) r ch' := by
  have h8 := h.2.2.2.1.1
  have g3 : N 3 ≤ 999 := h.2.2.1.2.1
  obtain ⟨tou', frc', e, pr⟩ := x2_prep (F := F) (tou := tou) (frc := frc) hF h c
  unfold fX2_findBest
  rw [bd6_e e, bd1_e (set_0 c)]
  have gl := gf_le h
  by_cases q : gfS N (N 8) ≤ N 3
  · rw [if_pos (nI_le q (by omega))]
    have step : ∀ x : Int32 × (Nat → Int32), (∃ m, x.1 = nI m ∧ m ≤ 9 ∧ ∀ m', m' < m → NoSol N (N 3) m') → (∃ x', fX2_findBest_l29 F (nI (N 8)) (nI (N 4)) (nI (bnS N (N 8))) tou' frc' (nI (N 3)) x = some (.inl x') ∧ (∃ m, x'.1 = nI m ∧ m ≤ 9 ∧ ∀ m', m' < m → NoSol N (N 3) m') ∧ 20 - x'.1.toNatClampNeg < 20 - x.1.toNatClampNeg) ∨ (∃ a, fX2_findBest_l29 F (nI (N 8)) (nI (N 4)) (nI (bnS N (N 8))) tou' frc' (nI (N 3)) x = some (.inr a) ∧ ((∃ r ch', a = .inl (r, ch') ∧ PlanRes N (N 3) r ch') ∨ (∃ ch', a = .inr ch' ∧ PlanRes N (N 3) (eN 0) ch'))) := by
      rintro ⟨v11, v12⟩ ⟨m, e1, hm, hn⟩
      have e1 : v11 = nI m := e1
      subst e1
      by_cases z : m ≤ 8
      · obtain ⟨rr, ch2, w1, w2⟩ := x2_within (F := F) (ch := v12) (L := N 3) hF h pr z (by omega)
        rcases w2 with ⟨a1, a2⟩ | ⟨a1, cc, a2, a3⟩
        · refine Or.inl ⟨(nI (m + 1), ch2), ?_, ⟨m + 1, rfl, by omega, fun m' hm' => ?_⟩, ?_⟩
          · unfold fX2_findBest_l29
            rw [uc2_s, il_8, if_neg (nI_nlt z (by omega)), bd2_e w1, a1, if_pos (show nI 0 = 0 from rfl), il_1, nI_add]
          · rcases Nat.lt_or_ge m' m with y | y
            · exact hn m' y
            · obtain rfl : m' = m := by omega
              exact nos_CM h a2
          · show 20 - (nI (m + 1)).toNatClampNeg < 20 - (nI m).toNatClampNeg
            rw [nI_clamp (by omega), nI_clamp (by omega)]; omega
        · refine Or.inr ⟨.inl (nI m, ch2), ?_, Or.inl ⟨nI m, ch2, rfl, Or.inr ⟨m, cc, z, rfl, hn, lex_CM h a2, a3⟩⟩⟩
          unfold fX2_findBest_l29
          rw [uc2_s, il_8, if_neg (nI_nlt z (by omega)), bd2_e w1, a1, if_neg (show ¬ nI 1 = 0 by decide +kernel)]
      · refine Or.inr ⟨.inr v12, ?_, Or.inr ⟨v12, rfl, Or.inl ⟨rfl, fun m' hm' => hn m' (by omega)⟩⟩⟩
        unfold fX2_findBest_l29
        rw [uc2_s, il_8, if_pos (nI_lt (by omega) (by omega))]
    obtain ⟨a, g1, g2⟩ := lp_run _ (fun x : Int32 × (Nat → Int32) => 20 - x.1.toNatClampNeg) _ step (F := F) (x := (nI 0, ch)) ⟨0, rfl, by omega, fun m' hm' => by omega⟩ (by show 20 - _ < F; omega)
    rw [show ((0 : Int32), ch) = (nI 0, ch) from rfl, g1]
    rcases g2 with ⟨r, ch', rfl, g⟩ | ⟨ch', rfl, g⟩
    · exact ⟨r, _, _, _, _, _, ch', _, _, rfl, g⟩
    · exact ⟨-1, _, _, _, _, _, ch', _, _, rfl, g⟩
  · rw [if_neg (nI_ge (by omega) (by omega))]
    refine ⟨-1, _, _, _, _, _, ch, _, _, rfl, Or.inl ⟨eN_0, fun m hm b hb => q ((gf_iff N (N 3) (N 8)).mpr (fun o ho => sol_force hb ho))⟩⟩
theorem x6_fillt {F : Nat} {N : Nat → Nat} {tou : Nat → Int32} (hF : 1000000 < F) (h : DW N) : lp (fX6_plans_l2 F (lA N)) F (nI 0, tou) = some (fa_fill (fun o => nI (tcS N o)) tou (N 8)) := by
  have h8 := h.2.2.2.1.1
  exact lp_seqE (body := fX6_plans_l2 F (lA N)) (S := fun j => (nI j, fa_fill (fun o => nI (tcS N o)) tou j)) (x0 := (nI 0, tou)) (by rw [fa_fill_0]) (n := N 8) (a := fa_fill (fun o => nI (tcS N o)) tou (N 8)) (F := F) (fun o ho => by
      show fX6_plans_l2 F (lA N) (nI o, fa_fill (fun o => nI (tcS N o)) tou o) = some (.inl (nI (o + 1), fa_fill (fun o => nI (tcS N o)) tou (o + 1)))
      unfold fX6_plans_l2
      rw [uc2_s, bd1_e (many_8 N), if_neg (nI_ge ho (by omega)), bd1_e (x6_tc (by omega) h ho), gd_nI (by omega) (by omega), nI_clamp (by omega), il_1, nI_add, ← fa_fill_succ]) (by
      show fX6_plans_l2 F (lA N) (nI (N 8), fa_fill (fun o => nI (tcS N o)) tou (N 8)) = _
      unfold fX6_plans_l2
      rw [uc2_s, bd1_e (many_8 N), if_pos (nI_le (Nat.le_refl _) (by omega))]) (by omega)
theorem x6_plans {F : Nat} {N : Nat → Nat} {tr be tou : Nat → Int32} {L : Nat} (hF : 1000000 < F) (h : DW N) (hL : L < 2 ^ 30) : ∃ r tr' be' tou', fX6_plans F (lA N) tr be tou (nI L) = some (r, tr', be', tou') ∧ PlanRes N L r be' := by
  have h8 := h.2.2.2.1.1
  unfold fX6_plans
  rw [show ((0 : Int32), tou) = (nI 0, tou) from rfl, bd1_e (x6_fillt hF h)]
  have pr : ∀ o, o < N 8 → fa_fill (fun o => nI (tcS N o)) tou (N 8) o = nI (tcS N o) := fun o ho => fa_fill_in ho
  generalize fa_fill (fun o => nI (tcS N o)) tou (N 8) = tou' at *
  have step : ∀ x : Int32 × (Nat → Int32) × (Nat → Int32), (∃ m, x.1 = nI m ∧ m ≤ 9 ∧ ∀ m', m' < m → NoSol N L m') → (∃ x', fX6_plans_l31 F (lA N) (nI L) tou' x = some (.inl x') ∧ (∃ m, x'.1 = nI m ∧ m ≤ 9 ∧ ∀ m', m' < m → NoSol N L m') ∧ 20 - x'.1.toNatClampNeg < 20 - x.1.toNatClampNeg) ∨ (∃ a, fX6_plans_l31 F (lA N) (nI L) tou' x = some (.inr a) ∧ ((∃ r tr' be', a = .inl (r, tr', be') ∧ PlanRes N L r be') ∨ (∃ tr' be', a = .inr (tr', be') ∧ PlanRes N L (eN 0) be'))) := by
    rintro ⟨v7, v8, v9⟩ ⟨m, e1, hm, hn⟩
    have e1 : v7 = nI m := e1
    subst e1
    by_cases z : m ≤ 8
    · obtain ⟨rr, tr2, be2, w1, w2⟩ := x6_seeks (F := F) (tr := v8) (be := v9) (L := L) hF h pr z hL
      rcases w2 with ⟨a1, a2⟩ | ⟨a1, cc, a2, a3⟩
      · refine Or.inl ⟨(nI (m + 1), tr2, be2), ?_, ⟨m + 1, rfl, by omega, fun m' hm' => ?_⟩, ?_⟩
        · unfold fX6_plans_l31
          rw [uc3_s, il_8, if_neg (nI_nlt z (by omega)), bd3_e w1, a1, if_pos (show nI 0 = 0 from rfl), il_1, nI_add]
        · rcases Nat.lt_or_ge m' m with y | y
          · exact hn m' y
          · obtain rfl : m' = m := by omega
            exact a2
        · show 20 - (nI (m + 1)).toNatClampNeg < 20 - (nI m).toNatClampNeg
          rw [nI_clamp (by omega), nI_clamp (by omega)]; omega
      · refine Or.inr ⟨.inl (nI m, tr2, be2), ?_, Or.inl ⟨nI m, tr2, be2, rfl, Or.inr ⟨m, cc, z, rfl, hn, a2, a3⟩⟩⟩
        unfold fX6_plans_l31
        rw [uc3_s, il_8, if_neg (nI_nlt z (by omega)), bd3_e w1, a1, if_neg (show ¬ nI 1 = 0 by decide +kernel)]
    · refine Or.inr ⟨.inr (v8, v9), ?_, Or.inr ⟨v8, v9, rfl, Or.inl ⟨rfl, fun m' hm' => hn m' (by omega)⟩⟩⟩
      unfold fX6_plans_l31
      rw [uc3_s, il_8, if_pos (nI_lt (by omega) (by omega))]
  obtain ⟨a, g1, g2⟩ := lp_run _ (fun x : Int32 × (Nat → Int32) × (Nat → Int32) => 20 - x.1.toNatClampNeg) _ step (F := F) (x := (nI 0, tr, be)) ⟨0, rfl, by omega, fun m' hm' => by omega⟩ (by show 20 - _ < F; omega)
  rw [show ((0 : Int32), tr, be) = (nI 0, tr, be) from rfl, g1]
  rcases g2 with ⟨r, tr', be', rfl, g⟩ | ⟨tr', be', rfl, g⟩
  · exact ⟨r, tr', be', _, rfl, g⟩
  · exact ⟨-1, tr', be', _, rfl, g⟩
