theorem fac_at {f : Nat → Int32} {o j : Nat} {v : Int32} (h : 7 * o + j < 42) : fX1_changeFact f (nI o) (nI j) v = some (upd f (7 * o + j) v) := by
  unfold fX1_changeFact
  rw [nm_s, il_7, pk_mul, nI_add, Nat.mul_comm o 7, if_neg (nI_pos (by omega)), il_42, if_neg (nI_ge h (by omega)), gd_nI h (by omega), nI_clamp (by omega)]
theorem cel_at {f : Nat → Int64} {o : Nat} {v : Int64} (h : o < 6) : fX1_changeCells f (nI o) v = some (vp_updL f o v) := by
  unfold fX1_changeCells
  rw [if_neg (nI_pos (by omega)), il_6, if_neg (nI_ge h (by omega)), gd_nI h (by omega), nI_clamp (by omega)]
/-- what is outside the die's and the press' own places doesn't matter; here: PW, PC under the same press -/
def EqP (M N : Nat → Nat) : Prop := (∀ s i, s < 8 → i < 5 → M (60 + 5 * s + i) = N (60 + 5 * s + i)) ∧ M 0 = N 0 ∧ M 1 = N 1
theorem EqP.pw {M N : Nat → Nat} (e : EqP M N) (w : PW N) : PW M := fun s hs => by
  have h := w s hs
  rw [e.1 s 0 hs (by omega), e.1 s 1 hs (by omega), e.1 s 2 hs (by omega), e.1 s 3 hs (by omega), e.1 s 4 hs (by omega), e.2.1, e.2.2]
  exact ⟨h.1, h.2.1, h.2.2.1, h.2.2.2.1, h.2.2.2.2.1, fun z i hi => by rw [e.1 s i hs hi]; exact h.2.2.2.2.2 z i hi⟩
theorem EqP.pc {M N : Nat → Nat} {pm sm : Nat} {cel : Nat → Int64} {ben off : Nat → Int32} (e : EqP M N) (p : PC N pm sm cel ben off) : PC M pm sm cel ben off := ⟨p.1, p.2.1, p.2.2.1, fun s hs => by
  have h := p.2.2.2 s hs
  rw [e.1 s 0 hs (by omega), e.1 s 1 hs (by omega), e.1 s 2 hs (by omega), e.1 s 3 hs (by omega), e.1 s 4 hs (by omega)]
  exact h⟩
theorem EqP.up {N : Nat → Nat} {k v : Nat} (h1 : 2 ≤ k) (h2 : k < 60) : EqP (upN N k v) N := ⟨fun s i hs hi => upN_n (by omega), upN_n (by omega), upN_n (by omega)⟩
theorem EqP.tr {A B C : Nat → Nat} (e : EqP A B) (g : EqP B C) : EqP A C := ⟨fun s i hs hi => (e.1 s i hs hi).trans (g.1 s i hs hi), e.2.1.trans g.2.1, e.2.2.trans g.2.2⟩
/-! marks -/
def mkP (N : Nat → Nat) (S m : Nat) : Nat := if m = 1 then N 14 ||| S else sdf (N 14) S
def mkL (N : Nat → Nat) (S m : Nat) : Nat := if m = 2 then N 15 ||| S else sdf (N 15) S
def mkN (N : Nat → Nat) (S m : Nat) : Nat → Nat := upN (upN N 14 (mkP N S m)) 15 (mkL N S m)
def mkC (N : Nat → Nat) (S m : Nat) : Nat := pcS ((mkP N S m ^^^ N 14) ||| (mkL N S m ^^^ N 15))
theorem mk_lt {N : Nat → Nat} (h : DW N) {S m : Nat} (hS : S < 2 ^ (N 0 * N 1)) : mkP N S m < 2 ^ (N 0 * N 1) ∧ mkL N S m < 2 ^ (N 0 * N 1) := by
  unfold mkP mkL
  constructor
  · split
    · exact Nat.or_lt_two_pow h.2.1.1 hS
    · exact sdf_lt _ h.2.1.1
  · split
    · exact Nat.or_lt_two_pow h.2.1.2 hS
    · exact sdf_lt _ h.2.1.2
theorem x1_mark {N : Nat → Nat} (h : DW N) {S m : Nat} (hS : S < 2 ^ (N 0 * N 1)) (hm : m ≤ 2) : fX1_markCells (lN (N 14)) (lN (N 15)) (lN S) (nI m) = some (nI (mkC N S m), lN (mkP N S m), lN (mkL N S m)) := by
  unfold fX1_markCells
  have e1 : (if ¬ nI m = 1 then some (lN (N 14) &&& (lN S ^^^ (-1 : Int64))) else some (lN (N 14) ||| lN S)) = some (lN (mkP N S m)) := by
    unfold mkP
    by_cases q : m = 1
    · rw [if_neg (nn (show nI m = 1 from by rw [q]; rfl)), if_pos q, fb_orL]
    · rw [if_pos (show ¬ nI m = 1 from fun z => q ((nI_eq (b := 1) (by omega) (by omega)).mp z)), if_neg q, lN_sdf]
  have e2 : (if ¬ nI m = 2 then some (lN (N 15) &&& (lN S ^^^ (-1 : Int64))) else some (lN (N 15) ||| lN S)) = some (lN (mkL N S m)) := by
    unfold mkL
    by_cases q : m = 2
    · rw [if_neg (nn (show nI m = 2 from by rw [q]; rfl)), if_pos q, fb_orL]
    · rw [if_pos (show ¬ nI m = 2 from fun z => q ((nI_eq (b := 2) (by omega) (by omega)).mp z)), if_neg q, lN_sdf]
  have l := mk_lt h hS (m := m)
  have hx : (mkP N S m ^^^ N 14) ||| (mkL N S m ^^^ N 15) < 2 ^ 60 := lt60 h (Nat.or_lt_two_pow (Nat.xor_lt_two_pow l.1 h.2.1.1) (Nat.xor_lt_two_pow l.2 h.2.1.2))
  rw [e1, bd1_s, e2, bd1_s, fb_xorL, fb_xorL, fb_orL, nm_s, bd1_e (x_cnt hx)]
  rfl
theorem x1_holds {C R x y w g : Nat} (hC : C ≤ 10) (hR : R ≤ 6) (hx : x < 2 ^ 31) (hy : y < 2 ^ 31) (hw : w < 2 ^ 31) (hg : g < 2 ^ 31) : fX1_holds (nI C) (nI R) (nI x) (nI y) (nI w) (nI g) = some (if 1 ≤ w ∧ 1 ≤ g ∧ x + w ≤ C ∧ y + g ≤ R then nI 1 else nI 0) := by
  unfold fX1_holds
  rw [il_1, il_0]
  by_cases q1 : w < 1
  · rw [if_pos (nI_lt q1 (by omega)), if_neg (by omega)]
  rw [if_neg (nI_nlt (by omega) (by omega))]
  by_cases q2 : C < w
  · rw [if_pos (nI_lt q2 (by omega)), if_neg (by omega)]
  rw [if_neg (nI_nlt (by omega) (by omega))]
  by_cases q3 : g < 1
  · rw [if_pos (nI_lt q3 (by omega)), if_neg (by omega)]
  rw [if_neg (nI_nlt (by omega) (by omega))]
  by_cases q4 : R < g
  · rw [if_pos (nI_lt q4 (by omega)), if_neg (by omega)]
  rw [if_neg (nI_nlt (by omega) (by omega)), show (nI 0 : Int32) = 0 from rfl, if_neg (nI_pos hx), pk_sub (by omega)]
  by_cases q5 : C - w < x
  · rw [if_pos (nI_lt q5 (by omega)), if_neg (by omega)]
  rw [if_neg (nI_nlt (by omega) (by omega)), if_neg (nI_pos hy), pk_sub (by omega)]
  by_cases q6 : R - g < y
  · rw [if_pos (nI_lt q6 (by omega)), if_neg (by omega)]
  rw [if_neg (nI_nlt (by omega) (by omega)), if_pos (by omega)]
theorem rc_in {C R x y w g : Nat} (hC : 2 ≤ C) (hx : x + w ≤ C) (hy : y + g ≤ R) : rcS C x y w g < 2 ^ (C * R) := by
  apply Nat.lt_pow_two_of_testBit
  intro i hi
  rw [rcS, bs_tb, Bool.and_eq_false_iff]
  right
  rw [decide_eq_false_iff_not]
  rintro ⟨_, _, _, h6⟩
  have : R ≤ i / C := (Nat.le_div_iff_mul_le (by omega)).mpr (by rw [Nat.mul_comm]; exact hi)
  omega
theorem x6_isrec {N : Nat → Nat} (h : DW N) {x y w g : Nat} (hx : x < 2 ^ 31) (hy : y < 2 ^ 31) (hw : w < 2 ^ 31) (hg : g < 2 ^ 31) : fX6_isRectangle (lA N) (nI x) (nI y) (nI w) (nI g) = some (if 1 ≤ w ∧ 1 ≤ g ∧ x + w ≤ N 0 ∧ y + g ≤ N 1 then nI 1 else nI 0) := by
  obtain ⟨⟨h1, h2, h3, h4, h5⟩, -⟩ := h
  unfold fX6_isRectangle
  rw [bd1_e (many_0 N), il_0, il_1, pk_sub (by omega), bd1_e (in_s hx (by omega) (by omega))]
  by_cases q1 : 0 ≤ x ∧ x ≤ N 0 - 1
  · rw [if_pos q1, if_neg (show ¬ nI 1 = nI 0 by decide +kernel), show nI 1 = (1 : Int32) from rfl, bd1_e (many_1 N), il_1, pk_sub (by omega), bd1_e (in_s hy (by omega) (by omega))]
    by_cases q2 : 0 ≤ y ∧ y ≤ N 1 - 1
    · rw [if_pos q2, if_neg (show ¬ nI 1 = nI 0 by decide +kernel), show nI 0 = (0 : Int32) from rfl, bd1_e (many_0 N), pk_sub (by omega), bd1_e (in_s hw (by omega) (by omega))]
      by_cases q3 : 1 ≤ w ∧ w ≤ N 0 - x
      · rw [if_pos q3, if_neg (show ¬ nI 1 = 0 by decide +kernel), show nI 1 = (1 : Int32) from rfl, bd1_e (many_1 N), pk_sub (by omega), il_1, bd1_e (in_s hg (by omega) (by omega))]
        by_cases q4 : 1 ≤ g ∧ g ≤ N 1 - y
        · rw [if_pos q4, if_neg (show ¬ nI 1 = 0 by decide +kernel), if_pos (by omega)]
        · rw [if_neg q4, if_pos (show nI 0 = 0 from rfl), if_neg (by omega)]
      · rw [if_neg q3, if_pos (show nI 0 = 0 from rfl), if_neg (by omega)]
    · rw [if_neg q2, if_pos rfl, if_neg (by omega)]
  · rw [if_neg q1, if_pos rfl, if_neg (by omega)]
theorem dj_mark {N : Nat → Nat} {S m : Nat} (d : DW N) (hS : S < 2 ^ 60) (h : DJ N) : DJ (mkN N S m) := by
  have v14 : mkN N S m 14 = mkP N S m := by unfold mkN; rw [upN_n (by omega), upN_s]
  have v15 : mkN N S m 15 = mkL N S m := by unfold mkN; rw [upN_s]
  have h14 := lt64 (lt60 d d.2.1.1)
  have h15 := lt64 (lt60 d d.2.1.2)
  refine dj_of fun i => ?_
  have hb := h.tb i
  rw [v14, v15]
  unfold mkP mkL
  by_cases q : m = 1
  · rw [if_pos q, if_neg (by omega), Nat.testBit_or, sdf_tb _ _ h15]
    revert hb
    cases S.testBit i <;> cases (N 14).testBit i <;> cases (N 15).testBit i <;> decide
  · rw [if_neg q, sdf_tb _ _ h14]
    by_cases q2 : m = 2
    · rw [if_pos q2, Nat.testBit_or]
      revert hb
      cases S.testBit i <;> cases (N 14).testBit i <;> cases (N 15).testBit i <;> decide
    · rw [if_neg q2, sdf_tb _ _ h15]
      revert hb
      cases S.testBit i <;> cases (N 14).testBit i <;> cases (N 15).testBit i <;> decide
theorem rl_mark {N : Nat → Nat} {set fac : Nat → Int32} {dce : Nat → Int64} {pm sm S m : Nat} {cel : Nat → Int64} {ben off : Nat → Int32} (hS : S < 2 ^ (N 0 * N 1)) (r : RelS N set fac dce pm sm cel ben off) : RelS (mkN N S m) set fac dce pm sm cel ben off := by
  obtain ⟨d, w, c, p, dj⟩ := r
  have l := mk_lt d hS (m := m)
  have e : EqP (mkN N S m) N := (EqP.up (by omega) (by omega)).tr (EqP.up (by omega) (by omega))
  have s : ∀ j, j ≠ 14 → j ≠ 15 → mkN N S m j = N j := fun j a b => by unfold mkN; rw [upN_n b, upN_n a]
  have v14 : mkN N S m 14 = mkP N S m := by unfold mkN; rw [upN_n (by omega), upN_s]
  have v15 : mkN N S m 15 = mkL N S m := by unfold mkN; rw [upN_s]
  refine ⟨?_, e.pw w, ⟨fun k hk => ?_, fun o ho => ?_⟩, e.pc p, dj_mark d (lt60 d hS) dj⟩
  · unfold DW
    rw [s 0 (by omega) (by omega), s 1 (by omega) (by omega), s 2 (by omega) (by omega), s 3 (by omega) (by omega), s 4 (by omega) (by omega), s 5 (by omega) (by omega), s 6 (by omega) (by omega), s 7 (by omega) (by omega), s 8 (by omega) (by omega), s 13 (by omega) (by omega), v14, v15]
    refine ⟨d.1, l, d.2.2.1, d.2.2.2.1, fun o ho => ?_⟩
    rw [s _ (by omega) (by omega), s _ (by omega) (by omega), s _ (by omega) (by omega), s _ (by omega) (by omega), s _ (by omega) (by omega), s _ (by omega) (by omega)]
    exact d.2.2.2.2 o ho
  · rw [s _ (by omega) (by omega)]; exact c.1 k hk
  · rw [s 8 (by omega) (by omega)] at ho
    have co := c.2 o ho
    refine ⟨fun j hj => by rw [s _ (by omega) (by omega)]; exact co.1 j hj, ?_, by rw [s _ (by omega) (by omega)]; exact co.2.2.1, ?_⟩
    · unfold foS
      rw [s _ (by omega) (by omega), s _ (by omega) (by omega), s _ (by omega) (by omega)]
      exact co.2.1
    · unfold opS
      rw [s 0 (by omega) (by omega), s _ (by omega) (by omega), s _ (by omega) (by omega), s _ (by omega) (by omega), s _ (by omega) (by omega)]
      exact co.2.2.2
theorem x6_mark {F : Nat} {N S S' : Nat → Nat} {st st' x y w g m : Nat} {q : Bool} (hF : 1000 < F) (h : DW N) (dj : DJ N) (hm : m ≤ 2) (hw : 1 ≤ w) (hg : 1 ≤ g) (hx : x + w ≤ N 0) (hy : y + g ≤ N 1) (sv : SV F N S st q S' st') : fX6_mark F (lA N) (lA S) (nI st) (bI q) (nI x) (nI y) (nI w) (nI g) (nI m) = some (nI (mkC N (rcS (N 0) x y w g) m), lA (mkN N (rcS (N 0) x y w g) m), lA S', nI st', 0) := by
  obtain ⟨h1, h2, h3, h4, h5⟩ := h.1
  have hS := rc_in (C := N 0) (R := N 1) h1 hx hy
  have hS60 := lt60 h hS
  unfold fX6_mark
  rw [bd1_e (x6_isrec h (by omega) (by omega) (by omega) (by omega)), if_pos (show 1 ≤ w ∧ 1 ≤ g ∧ x + w ≤ N 0 ∧ y + g ≤ N 1 from ⟨hw, hg, hx, hy⟩), if_neg (show ¬ nI 1 = 0 by decide +kernel), il_0, il_2, bd1_e (in_s (a := m) (b := 0) (c := 2) (by omega) (by omega) (by omega)), if_pos (show 0 ≤ m ∧ m ≤ 2 by omega), if_pos (show ¬ nI 1 = nI 0 by decide +kernel), bd2_e sv, bd1_e (x6_rect (C := N 0) (R := N 1) rfl (by omega) h1 h2 h4 hx hy), il_14, il_15, nI_clamp (by omega), nI_clamp (by omega)]
  simp only [gd_lit (show 14 < 100 by omega), gd_lit (show 15 < 100 by omega), lA_at]
  have h14 := lt64 (lt60 h h.2.1.1)
  have h15 := lt64 (lt60 h h.2.1.2)
  -- the three marks
  have fin : ∀ (had : Nat), (∀ i, i < 60 → ((rcS (N 0) x y w g).testBit i && !had.testBit i) = ((mkP N (rcS (N 0) x y w g) m ^^^ N 14) ||| (mkL N (rcS (N 0) x y w g) m ^^^ N 15)).testBit i) → fX6_ones F (lN (rcS (N 0) x y w g) &&& (lN had ^^^ (-1 : Int64))) = some (nI (mkC N (rcS (N 0) x y w g) m)) := by
    intro had hh
    rw [lN_sdf, x6_ones (by omega) (sdf_lt _ hS60)]
    unfold mkC pcS
    congr 2
    exact fb_ct_cong (fun k hk => by rw [sdf_tb _ _ (lt64 hS60)]; exact hh k hk)
  have hm3 : m = 0 ∨ m = 1 ∨ m = 2 := by omega
  rcases hm3 with rfl | rfl | rfl
  · rw [if_pos (show ¬ nI 0 = 1 by decide +kernel), if_pos (show ¬ nI 0 = nI 2 by decide +kernel), bd1_s, if_pos (show ¬ nI 0 = 1 by decide +kernel), bd1_s, lN_sdf (N 14), vp1, if_pos (show ¬ nI 0 = nI 2 by decide +kernel), lA_at, upN_n (by omega), bd1_s, lN_sdf (N 15), vp1, m1_L, fb_xorL, fb_xorL, fb_andL, ← m1_L]
    rw [bd1_e (fin _ (fun i hi => ?_))]
    · rfl
    · unfold mkP mkL
      rw [if_neg (by omega), if_neg (by omega), Nat.testBit_and, Nat.testBit_xor, Nat.testBit_xor, Nat.testBit_or, Nat.testBit_xor, Nat.testBit_xor, sdf_tb _ _ h14, sdf_tb _ _ h15, show (18446744073709551615 : Nat) = 2 ^ 64 - 1 from rfl, Nat.testBit_two_pow_sub_one, decide_eq_true (show i < 64 by omega)]
      cases (rcS (N 0) x y w g).testBit i <;> cases (N 14).testBit i <;> cases (N 15).testBit i <;> rfl
  · rw [if_neg (nn (show nI 1 = 1 from rfl)), bd1_s, if_neg (nn (show nI 1 = 1 from rfl)), bd1_s, fb_orL, vp1, if_pos (show ¬ nI 1 = nI 2 by decide +kernel), lA_at, upN_n (by omega), bd1_s, lN_sdf (N 15), vp1]
    rw [bd1_e (fin _ (fun i hi => ?_))]
    · rfl
    · unfold mkP mkL
      have hb := dj.tb i
      rw [if_pos rfl, if_neg (by omega), Nat.testBit_or, Nat.testBit_xor, Nat.testBit_xor, Nat.testBit_or, sdf_tb _ _ h15]
      revert hb
      cases (rcS (N 0) x y w g).testBit i <;> cases (N 14).testBit i <;> cases (N 15).testBit i <;> decide
  · rw [if_pos (show ¬ nI 2 = 1 by decide +kernel), if_neg (nn (show nI 2 = nI 2 from rfl)), bd1_s, if_pos (show ¬ nI 2 = 1 by decide +kernel), bd1_s, lN_sdf (N 14), vp1, if_neg (nn (show nI 2 = nI 2 from rfl)), lA_at, upN_n (by omega), bd1_s, fb_orL, vp1]
    rw [bd1_e (fin _ (fun i hi => ?_))]
    · rfl
    · unfold mkP mkL
      have hb := dj.tb i
      rw [if_neg (by omega), if_pos rfl, Nat.testBit_or, Nat.testBit_xor, Nat.testBit_xor, Nat.testBit_or, sdf_tb _ _ h14]
      revert hb
      cases (rcS (N 0) x y w g).testBit i <;> cases (N 14).testBit i <;> cases (N 15).testBit i <;> decide
