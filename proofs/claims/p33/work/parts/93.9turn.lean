section TURN
variable {F B : Nat} {c : CSt} {N : Nat → Nat}
theorem act_set (hF : 1000000 < F) (i : I3 B c N) (a b : Int32) : ∃ c2 N2, (bd1 (fL_low a (5 : Int32)) fun r29 => bd1 (fL_low b (3 : Int32)) fun r30 => bd2 (g_set F c r29 ((1 : Int32) + r30)) fun r31 u32 => bd2 (if r31 < 0 then some ((0 : Int32), u32) else bd1 (fL_low a (40 : Int32)) fun r35 => bd2 (g_set F u32 (0 : Int32) ((20 : Int32) + r35)) fun r36 u37 => if r36 < (1 : Int32) then some ((0 : Int32), u37) else some ((1 : Int32), u37)) fun v33 v34 => gb v33 (some (v33, v34))) = some ((1 : Int32), c2) ∧ I3 B c2 N2 := by
  obtain ⟨d, -⟩ := i.dw
  obtain ⟨s, hs, es⟩ := low_s a (k := 5) (by omega) (by omega)
  obtain ⟨v, hv, ev⟩ := low_s b (k := 3) (by omega) (by omega)
  obtain ⟨t, ht, et⟩ := low_s a (k := 40) (by omega) (by omega)
  obtain ⟨c2, e2, i2⟩ := ga_set hF i (a := s) (v := 1 + v) (by unfold setOK; omega)
  obtain ⟨d2, -⟩ := i2.dw
  obtain ⟨c3, e3, i3⟩ := ga_set hF i2 (a := 0) (v := 20 + t) (by unfold setOK; omega)
  have b1 : N (3 + s) < 2 ^ 31 := by
    have := d.2.2.1
    rcases (show s = 0 ∨ s = 1 ∨ s = 2 ∨ s = 3 ∨ s = 4 by omega) with rfl | rfl | rfl | rfl | rfl
    · show N 3 < _; omega
    · show N 4 < _; omega
    · show N 5 < _; omega
    · show N 6 < _; omega
    · show N 7 < _; omega
  have b2 := d2.2.2.1
  refine ⟨c3, _, ?_, i3⟩
  rw [bd1_e (show fL_low a (5 : Int32) = _ from es), bd1_e (show fL_low b (3 : Int32) = _ from ev), one_add, bd2_e e2, if_neg (nI_pos b1), bd1_e (show fL_low a (40 : Int32) = _ from et), show (20 : Int32) + nI t = nI (20 + t) from nI_add 20 t, bd2_e (show g_set F c2 (0 : Int32) (nI (20 + t)) = _ from e3), if_neg (show ¬ nI (upN N (3 + s) (1 + v) (3 + 0)) < (1 : Int32) from fun z => by
    rw [il_1, fa_lt, nI_toInt (by show upN N (3 + s) (1 + v) 3 < _; omega), nI_toInt (by omega)] at z
    have b3 : 1 ≤ upN N (3 + s) (1 + v) (3 + 0) := b2.1
    omega), bd2_s]
  rfl
theorem act_carrier (hF : 1000000 < F) (i : I3 B c N) (a : Int32) : ∃ c2 N2, (bd1 (fL_low a (3 : Int32)) fun r23 => bd2 (g_setCarrier F c r23) fun r24 u25 => bd1 (if r24 < 0 then some (0 : Int32) else bd1 (g_whole F u25 (2 : Int32)) fun r27 => bd1 (fL_low a (3 : Int32)) fun r28 => if ¬ r27 = r28 then some (0 : Int32) else some (1 : Int32)) fun v26 => gb v26 (some (v26, u25))) = some ((1 : Int32), c2) ∧ I3 B c2 N2 := by
  obtain ⟨d, -⟩ := i.dw
  obtain ⟨s, hs, es⟩ := low_s a (k := 3) (by omega) (by omega)
  have es : fL_low a (3 : Int32) = some (nI s) := es
  obtain ⟨c2, e2, i2⟩ := ga_setCarrier hF i (m := s) (by omega)
  have k2 := d.1.2.2.2.2
  refine ⟨c2, _, ?_, i2⟩
  rw [bd1_e es, bd2_e e2, if_neg (nI_pos (by omega)), bd1_e (gw2 hF i2), upN_s, bd1_e es, if_neg (nn rfl), bd1_s]
  rfl
theorem act_pilot (hF : 1000000 < F) (i : I3 B c N) (a b : Int32) : ∃ c2 N2, (bd1 (fL_low a (8 : Int32)) fun r12 => bd1 (fL_low b (2 : Int32)) fun r13 => bd1 (if ¬ r13 = 0 then some (0 : Int32) else some (1 : Int32)) fun v14 => bd2 (g_setPilot F c r12 v14) fun r15 u16 => bd1 (g_whole F u16 (15 : Int32)) fun r17 => bd1 (if ¬ r15 = r17 then some (0 : Int32) else bd1 (fL_low a (8 : Int32)) fun r19 => bd1 (g_station F u16 r19 (2 : Int32)) fun r20 => bd1 (fL_low b (2 : Int32)) fun r21 => bd1 (if ¬ r21 = 0 then some (0 : Int32) else some (1 : Int32)) fun v22 => if ¬ r20 = v22 then some (0 : Int32) else some (1 : Int32)) fun v18 => gb v18 (some (v18, u16))) = some ((1 : Int32), c2) ∧ I3 B c2 N2 := by
  obtain ⟨d, -⟩ := i.dw
  obtain ⟨p, hp, ep⟩ := low_s a (k := 8) (by omega) (by omega)
  obtain ⟨q, hq, eq⟩ := low_s b (k := 2) (by omega) (by omega)
  have ep : fL_low a (8 : Int32) = some (nI p) := ep
  have eq : fL_low b (2 : Int32) = some (nI q) := eq
  have e14 : (if ¬ nI q = 0 then some (0 : Int32) else some (1 : Int32)) = some (bI (decide (q = 0))) := by
    by_cases z : q = 0
    · subst z
      rw [if_neg (nn (show nI 0 = (0 : Int32) from rfl))]; rfl
    · rw [if_pos (show ¬ nI q = 0 from fun y => z ((nI_eq (b := 0) (by omega) (by omega)).mp y)), decide_eq_false z]; rfl
  obtain ⟨c2, e2, i2⟩ := ga_setPilot hF i (a := p) (decide (q = 0)) hp
  refine ⟨c2, _, ?_, i2⟩
  rw [bd1_e ep, bd1_e eq, bd1_e e14, bd2_e e2, bd1_e (gw15 hF i2), upN_s, if_neg (nn rfl), bd1_e ep, bd1_e (gs2 hF i2 hp), upN_s, pi_tb d, bd1_e eq, bd1_e e14, if_neg (nn rfl), bd1_s]
  rfl
theorem act_undo (i : I3 B c N) : ∃ c2 N2, (bd2 (fL_undo F c) fun r10 u11 => some ((1 : Int32), u11)) = some ((1 : Int32), c2) ∧ I3 B c2 N2 := by
  rcases ga_undo (F := F) i with ⟨g1, g2⟩ | ⟨v, c2, N2, g1, i2⟩
  · have e : fL_undo F c = some (-3, c) := by
      unfold fL_undo
      rw [g1]
      show bd1 (gx_undo F c) _ = _
      rw [bd1_e g2]
    exact ⟨c, N, bd2_e e, i⟩
  · have e : fL_undo F c = some (v, c2) := by
      unfold fL_undo
      rw [g1]
    exact ⟨c2, N2, bd2_e e, i2⟩
theorem act_drop (hF : 1000000 < F) (i : I3 B c N) (a : Int32) : ∃ c2 N2, (bd2 (if nI (N 8) = 0 then some ((1 : Int32), c) else bd1 (fL_low a (nI (N 8))) fun r7 => bd2 (g_dropOperation F c r7) fun r8 u9 => if ¬ r8 = nI (N 8) - (1 : Int32) then some ((0 : Int32), u9) else some ((1 : Int32), u9)) fun v5 v6 => gb v5 (some (v5, v6))) = some ((1 : Int32), c2) ∧ I3 B c2 N2 := by
  obtain ⟨d, -⟩ := i.dw
  have h8 := d.2.2.2.1.1
  by_cases z : N 8 = 0
  · refine ⟨c, N, ?_, i⟩
    rw [if_pos (show nI (N 8) = 0 by rw [z]; rfl), bd2_s]
    rfl
  · obtain ⟨k, hk, ek⟩ := low_s a (k := N 8) (by omega) (by omega)
    obtain ⟨c2, e2, i2⟩ := ga_dropOperation hF i hk
    refine ⟨c2, _, ?_, i2⟩
    rw [if_neg (show ¬ nI (N 8) = 0 from fun y => z ((nI_eq (b := 0) (by omega) (by omega)).mp y)), bd1_e ek, bd2_e e2, il_1, pk_sub (by omega), if_neg (nn rfl), bd2_s]
    rfl
theorem acts_s (hF : 1000000 < F) (hB : B + 20 < 2 ^ 30) (i : I3 B c N) (a b d : Int32) : ∃ c2 N2, fL_acts F c a b d = some ((1 : Int32), c2) ∧ I3 (B + 20) c2 N2 := by
  have up : ∀ {X : Option (Int32 × CSt)}, (∃ c2 N2, X = some ((1 : Int32), c2) ∧ I3 B c2 N2) → ∃ c2 N2, X = some ((1 : Int32), c2) ∧ I3 (B + 20) c2 N2 := fun ⟨c2, N2, e, j⟩ => ⟨c2, N2, e, j.mono (by omega)⟩
  have h8 := i.dw.1.2.2.2.1.1
  obtain ⟨t, ht, et⟩ := low_s a (k := 18) (by omega) (by omega)
  unfold fL_acts
  rw [bd1_e (show fL_low a (18 : Int32) = _ from et), bd1_e (gw8 hF i)]
  have le : ∀ k, k < 100 → (nI k ≤ nI t ↔ k ≤ t) := fun k hk => (kI hk (by omega)).1
  have eq : ∀ k, k < 100 → (nI t = nI k ↔ t = k) := fun k hk => (kI hk (by omega)).2
  by_cases q3 : 3 ≤ t
  · rw [if_pos (show (3 : Int32) ≤ nI t from (le 3 (by omega)).mpr q3)]
    by_cases q6 : 6 ≤ t
    · rw [if_pos (show (6 : Int32) ≤ nI t from (le 6 (by omega)).mpr q6)]
      by_cases q9 : 9 ≤ t
      · rw [if_pos (show (9 : Int32) ≤ nI t from (le 9 (by omega)).mpr q9)]
        by_cases r9 : t = 9
        · rw [if_neg (nn (show nI t = (9 : Int32) from (eq 9 (by omega)).mpr r9))]
          exact up (act_plan hF i)
        rw [if_pos (show ¬ nI t = (9 : Int32) from fun z => r9 ((eq 9 (by omega)).mp z))]
        by_cases r10 : t = 10
        · rw [if_neg (nn (show nI t = (10 : Int32) from (eq 10 (by omega)).mpr r10))]
          exact up (act_set hF i b d)
        rw [if_pos (show ¬ nI t = (10 : Int32) from fun z => r10 ((eq 10 (by omega)).mp z))]
        by_cases r11 : t = 11
        · rw [if_neg (nn (show nI t = (11 : Int32) from (eq 11 (by omega)).mpr r11))]
          exact up (act_carrier hF i b)
        rw [if_pos (show ¬ nI t = (11 : Int32) from fun z => r11 ((eq 11 (by omega)).mp z))]
        by_cases r12 : t = 12
        · rw [if_neg (nn (show nI t = (12 : Int32) from (eq 12 (by omega)).mpr r12))]
          exact up (act_pilot hF i b d)
        rw [if_pos (show ¬ nI t = (12 : Int32) from fun z => r12 ((eq 12 (by omega)).mp z))]
        by_cases r13 : t = 13
        · rw [if_neg (nn (show nI t = (13 : Int32) from (eq 13 (by omega)).mpr r13))]
          exact up (act_undo i)
        rw [if_pos (show ¬ nI t = (13 : Int32) from fun z => r13 ((eq 13 (by omega)).mp z))]
        by_cases r14 : t = 14
        · rw [if_neg (nn (show nI t = (14 : Int32) from (eq 14 (by omega)).mpr r14))]
          exact up (act_drop hF i b)
        rw [if_pos (show ¬ nI t = (14 : Int32) from fun z => r14 ((eq 14 (by omega)).mp z))]
        obtain ⟨c2, N2, e2, i2⟩ := strokes_s hF hB i
        exact ⟨c2, N2, by rw [bd2_e e2]; rfl, i2⟩
      · rw [if_neg (show ¬ (9 : Int32) ≤ nI t from fun z => q9 ((le 9 (by omega)).mp z))]
        obtain ⟨p, hp, ep⟩ := low_s b (k := 7) (by omega) (by omega)
        obtain ⟨q, hq, eq2⟩ := low_s d (k := 9) (by omega) (by omega)
        rw [bd1_e (show fL_low b (7 : Int32) = _ from ep), bd1_e (show fL_low d (9 : Int32) = _ from eq2), nm_s]
        exact up (act_place hF i hp hq)
    · rw [if_neg (show ¬ (6 : Int32) ≤ nI t from fun z => q6 ((le 6 (by omega)).mp z))]
      obtain ⟨c2, N2, e2, i2⟩ := adds_s hF i b d
      exact up ⟨c2, N2, by rw [bd2_e e2]; rfl, i2⟩
  · rw [if_neg (show ¬ (3 : Int32) ≤ nI t from fun z => q3 ((le 3 (by omega)).mp z))]
    obtain ⟨c2, N2, e2, i2⟩ := marks_s hF i b d
    exact up ⟨c2, N2, by rw [bd2_e e2]; rfl, i2⟩
end TURN
