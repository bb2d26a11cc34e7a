/-! the saved states, both sides -/
theorem rel_100 {M N : Nat → Nat} {set fac : Nat → Int32} {dce : Nat → Int64} {pm sm : Nat} {cel : Nat → Int64} {ben off : Nat → Int32} (h : ∀ j, j < 100 → M j = N j) (r : RelS N set fac dce pm sm cel ben off) : RelS M set fac dce pm sm cel ben off := by
  have e : EqD M N := fun j hj _ _ _ _ => h j (by omega)
  have p : EqP M N := ⟨fun s i hs hi => h _ (by omega), h 0 (by omega), h 1 (by omega)⟩
  exact ⟨e_DW e r.1, p.pw r.2.1, e_CD e r.1.2.2.2.1.1 r.2.2.1, p.pc r.2.2.2.1, e_DJ e r.2.2.2.2⟩
def snp (N : Nat → Nat) (set fac : Nat → Int32) (dce : Nat → Int64) (pm sm : Nat) (cel : Nat → Int64) (ben off : Nat → Int32) : Snap := (nI (N 0), nI (N 1), nI (N 2), lN (N 14), lN (N 15), nI (N 8), nI (N 13), set, fac, dce, nI pm, nI sm, cel, ben, off, nI (N 9), nI (N 10), nI (N 11), nI (N 12))
def SnR (q : Snap) (N : Nat → Nat) : Prop := ∃ (set fac : Nat → Int32) (dce : Nat → Int64) (pm sm : Nat) (cel : Nat → Int64) (ben off : Nat → Int32), q = snp N set fac dce pm sm cel ben off ∧ RelS N set fac dce pm sm cel ben off
theorem SnR.cong {q : Snap} {M N : Nat → Nat} (h : ∀ j, j < 100 → M j = N j) (r : SnR q N) : SnR q M := by
  obtain ⟨set, fac, dce, pm, sm, cel, ben, off, rfl, r⟩ := r
  refine ⟨set, fac, dce, pm, sm, cel, ben, off, ?_, rel_100 h r⟩
  unfold snp
  rw [h 0 (by omega), h 1 (by omega), h 2 (by omega), h 14 (by omega), h 15 (by omega), h 8 (by omega), h 13 (by omega), h 9 (by omega), h 10 (by omega), h 11 (by omega), h 12 (by omega)]
/-- a copy of a state over an old one: the rows' ends stay -/
def cpS (q z : Snap) : Snap := (q.1, q.2.1, q.2.2.1, q.2.2.2.1, q.2.2.2.2.1, q.2.2.2.2.2.1, q.2.2.2.2.2.2.1, cpF 5 q.2.2.2.2.2.2.2.1 z.2.2.2.2.2.2.2.1, cpF 42 q.2.2.2.2.2.2.2.2.1 z.2.2.2.2.2.2.2.2.1, cpF 6 q.2.2.2.2.2.2.2.2.2.1 z.2.2.2.2.2.2.2.2.2.1, q.2.2.2.2.2.2.2.2.2.2.1, q.2.2.2.2.2.2.2.2.2.2.2.1, cpF 9 q.2.2.2.2.2.2.2.2.2.2.2.2.1 z.2.2.2.2.2.2.2.2.2.2.2.2.1, cpF 9 q.2.2.2.2.2.2.2.2.2.2.2.2.2.1 z.2.2.2.2.2.2.2.2.2.2.2.2.2.1, cpF 9 q.2.2.2.2.2.2.2.2.2.2.2.2.2.2.1 z.2.2.2.2.2.2.2.2.2.2.2.2.2.2.1, q.2.2.2.2.2.2.2.2.2.2.2.2.2.2.2.1, q.2.2.2.2.2.2.2.2.2.2.2.2.2.2.2.2.1, q.2.2.2.2.2.2.2.2.2.2.2.2.2.2.2.2.2.1, q.2.2.2.2.2.2.2.2.2.2.2.2.2.2.2.2.2.2)
theorem SnR.cp {q : Snap} {N : Nat → Nat} (z : Snap) (r : SnR q N) : SnR (cpS q z) N := by
  obtain ⟨set, fac, dce, pm, sm, cel, ben, off, rfl, r⟩ := r
  exact ⟨_, _, _, _, _, _, _, _, rfl, r.1, r.2.1, cd_cls r.1.2.2.2.1.1 (fun k hk => cp_lo hk) (fun k hk => cp_lo hk) (fun k hk => cp_lo hk) r.2.2.1, pc_cls (fun s hs => cp_lo (by omega)) (fun s hs => cp_lo (by omega)) (fun s hs => cp_lo (by omega)) r.2.2.2.1, r.2.2.2.2⟩
def svO (o st : Nat) : Nat := if st = 4 then (o + 1) % 4 else o
def svT (st : Nat) : Nat := if st = 4 then 4 else st + 1
def svK (o st : Nat) : Nat := (svO o st + (svT st - 1)) % 4
def svF (o st : Nat) (q : Snap) (S : Nat → Snap) : Nat → Snap := fun j => if j = svK o st then cpS q (S (svK o st)) else S j
theorem x5_save {o st : Nat} {d_columns : Int32} {d_rows : Int32} {d_carrier : Int32} {d_partMarks : Int64} {d_linkMarks : Int64} {d_operations : Int32} {d_pilots : Int32} {d_settings : Nat → Int32} {d_facts : Nat → Int32} {d_cells : Nat → Int64} {p_pitches : Int32} {p_spoiled : Int32} {p_cells : Nat → Int64} {p_bends : Nat → Int32} {p_offsets : Nat → Int32} {p_strokes : Int32} {p_goodParts : Int32} {p_badParts : Int32} {p_slugs : Int32} {S : Nat → Snap} (ho : o < 4) (hst : st ≤ 4) : fX5_save (nI o) (nI st) d_columns d_rows d_carrier d_partMarks d_linkMarks d_operations d_pilots d_settings d_facts d_cells p_pitches p_spoiled p_cells p_bends p_offsets p_strokes p_goodParts p_badParts p_slugs S = some (nI (svO o st), nI (svT st), svF o st (d_columns, d_rows, d_carrier, d_partMarks, d_linkMarks, d_operations, d_pilots, d_settings, d_facts, d_cells, p_pitches, p_spoiled, p_cells, p_bends, p_offsets, p_strokes, p_goodParts, p_badParts, p_slugs) S) := by
  have e1 : (if (4 : Int32) ≤ nI st then (nI o + (1 : Int32)) - (nI o + (1 : Int32)) / (4 : Int32) * (4 : Int32) else nI o) = nI (svO o st) := by
    unfold svO
    rw [il_4, nI_1]
    by_cases q : st = 4
    · rw [if_pos (nI_le (by omega) (by omega)), if_pos q, pk_rem (by omega) (by omega) (by omega)]
    · rw [if_neg (nI_ge (by omega) (by omega)), if_neg q]
  have e2 : (if (4 : Int32) ≤ nI st then nI st - (1 : Int32) else nI st) = nI (svT st - 1) := by
    unfold svT
    rw [il_4, il_1]
    by_cases q : st = 4
    · rw [if_pos (nI_le (by omega) (by omega)), if_pos q, pk_sub (by omega), q]
    · rw [if_neg (nI_ge (by omega) (by omega)), if_neg q, Nat.add_sub_cancel]
  have h4 : svO o st < 4 := by unfold svO; split <;> omega
  have h5 : 1 ≤ svT st ∧ svT st ≤ 4 := by unfold svT; split <;> omega
  have e3 : (nI (svO o st) + nI (svT st - 1)) - (nI (svO o st) + nI (svT st - 1)) / (4 : Int32) * (4 : Int32) = nI (svK o st) := by
    unfold svK
    rw [il_4, nI_add, pk_rem (by omega) (by omega) (by omega)]
  have h6 : svK o st < 4 := Nat.mod_lt _ (by omega)
  unfold fX5_save
  rw [e1, nm_s, e2, nm_s, e3, nm_s, gd_nI h6 (by omega), nm_s, nI_clamp (by omega), nI_1, show svT st - 1 + 1 = svT st from by omega]
  rfl
theorem x5_svd {o a : Nat} (ho : o < 4) (ha : a < 4) : fX5_savedState (nI o) (nI a) = some (nI ((o + a) % 4)) := by
  unfold fX5_savedState
  have h6 : (o + a) % 4 < 4 := Nat.mod_lt _ (by omega)
  rw [il_4, gz_nI (by omega) (by omega), nI_add, pk_rem (by omega) (by omega) (by omega), nm_s, if_neg (nI_pos (by omega)), if_neg (nI_ge h6 (by omega)), gd_nI h6 (by omega)]
def Ring (o st : Nat) (SS : Nat → Snap) (S : Nat → Nat) (B : Nat) : Prop := o < 4 ∧ st ≤ 4 ∧ ∀ a, a < st → SnR (SS ((o + a) % 4)) (fun j => S (100 * a + j)) ∧ S (100 * a + 10) ≤ B ∧ S (100 * a + 11) ≤ B
theorem Ring.mono {o st B B' : Nat} {SS : Nat → Snap} {S : Nat → Nat} (h : Ring o st SS S B) (hb : B ≤ B') : Ring o st SS S B' := ⟨h.1, h.2.1, fun a ha => ⟨(h.2.2 a ha).1, Nat.le_trans (h.2.2 a ha).2.1 hb, Nat.le_trans (h.2.2 a ha).2.2 hb⟩⟩
theorem ring_save {o st B : Nat} {SS : Nat → Snap} {S N : Nat → Nat} {q : Snap} (h : Ring o st SS S B) (r : SnR q N) (h10 : N 10 ≤ B) (h11 : N 11 ≤ B) : Ring (svO o st) (svT st) (svF o st q SS) (svS S st N) B := by
  obtain ⟨ho, hst, h⟩ := h
  refine ⟨by unfold svO; split <;> omega, by unfold svT; split <;> omega, fun a ha => ?_⟩
  by_cases q4 : st = 4
  · subst q4
    have e1 : svO o 4 = (o + 1) % 4 := rfl
    have e2 : svT 4 = 4 := rfl
    rw [e2] at ha
    by_cases q3 : a = 3
    · subst q3
      have e3 : (svO o 4 + 3) % 4 = svK o 4 := rfl
      have e4 : ∀ j, j < 100 → svS S 4 N (100 * 3 + j) = N j := fun j hj => by
        unfold svS
        rw [if_pos rfl, if_neg (by omega), if_pos (by omega)]
        exact congrArg _ (by omega)
      refine ⟨?_, by rw [e4 10 (by omega)]; exact h10, by rw [e4 11 (by omega)]; exact h11⟩
      rw [e3]
      unfold svF
      rw [if_pos rfl]
      exact SnR.cong e4 (r.cp _)
    · have e3 : ¬ (svO o 4 + a) % 4 = svK o 4 := by unfold svK; rw [e1, e2]; omega
      have e4 : (svO o 4 + a) % 4 = (o + (a + 1)) % 4 := by rw [e1]; omega
      have e5 : ∀ j, j < 100 → svS S 4 N (100 * a + j) = S (100 * (a + 1) + j) := fun j hj => by
        unfold svS
        rw [if_pos rfl, if_pos (by omega)]
        exact congrArg _ (by omega)
      have g := h (a + 1) (by omega)
      refine ⟨?_, by rw [e5 10 (by omega)]; exact g.2.1, by rw [e5 11 (by omega)]; exact g.2.2⟩
      unfold svF
      rw [if_neg e3, e4]
      exact SnR.cong e5 g.1
  · have e1 : svO o st = o := if_neg q4
    have e2 : svT st = st + 1 := if_neg q4
    rw [e2] at ha
    by_cases q3 : a = st
    · subst q3
      have e3 : (svO o a + a) % 4 = svK o a := by unfold svK; rw [e2, Nat.add_sub_cancel]
      have e4 : ∀ j, j < 100 → svS S a N (100 * a + j) = N j := fun j hj => by
        unfold svS
        rw [if_neg q4, if_pos (by omega)]
        exact congrArg _ (by omega)
      refine ⟨?_, by rw [e4 10 (by omega)]; exact h10, by rw [e4 11 (by omega)]; exact h11⟩
      rw [e3]
      unfold svF
      rw [if_pos rfl]
      exact SnR.cong e4 (r.cp _)
    · have e3 : ¬ (svO o st + a) % 4 = svK o st := by unfold svK; rw [e1, e2]; omega
      have e5 : ∀ j, j < 100 → svS S st N (100 * a + j) = S (100 * a + j) := fun j hj => by
        unfold svS
        rw [if_neg q4, if_neg (by omega)]
      have g := h a (by omega)
      refine ⟨?_, by rw [e5 10 (by omega)]; exact g.2.1, by rw [e5 11 (by omega)]; exact g.2.2⟩
      unfold svF
      rw [if_neg e3, e1]
      exact SnR.cong e5 g.1
