/-! cells marked, operations added -/
theorem ct_iv {p : Nat → Bool} {a w : Nat} (h : ∀ i, p i = true → a ≤ i ∧ i < a + w) : ∀ n, fb_ct p n ≤ n - a ∧ fb_ct p n ≤ w
  | 0 => ⟨Nat.zero_le _, Nat.zero_le _⟩
  | n + 1 => by
    have ih := ct_iv h n
    rw [fb_ct_succ]
    by_cases q : p n = true
    · have := h n q
      rw [if_pos q]
      omega
    · rw [if_neg q]
      omega
theorem pc_or (A B : Nat) : ∀ n, fb_ct (A ||| B).testBit n ≤ fb_ct A.testBit n + fb_ct B.testBit n
  | 0 => Nat.zero_le _
  | n + 1 => by
    have ih := pc_or A B n
    rw [fb_ct_succ, fb_ct_succ, fb_ct_succ, Nat.testBit_or]
    cases A.testBit n <;> cases B.testBit n <;> simp <;> omega
theorem pc_orS (f : Nat → Nat) (k : Nat) : ∀ n, (∀ j, j < n → pcS (f j) ≤ k) → pcS (orS f n) ≤ n * k
  | 0, _ => by
    show pcS 0 ≤ 0 * k
    rw [pc_0]
    exact Nat.zero_le _
  | n + 1, h => by
    have ih := pc_orS f k n (fun j hj => h j (by omega))
    have h1 := h n (by omega)
    have h2 : pcS (orS f n ||| f n) ≤ pcS (orS f n) + pcS (f n) := pc_or _ _ 60
    rw [orS, Nat.succ_mul]
    omega
theorem pc_rc {C R x y w h : Nat} (hC : 0 < C) (hC2 : C ≤ 10) (hR : R ≤ 6) (hx : x + w ≤ C) (hy : y + h ≤ R) : pcS (rcS C x y w h) ≤ h * w := by
  rw [← rc_or hC hC2 hR hx hy]
  refine pc_orS _ w h fun b hb => ?_
  have h1 : ∀ i, ((2 ^ w - 1) * 2 ^ x * 2 ^ ((y + b) * C)).testBit i = true → (y + b) * C + x ≤ i ∧ i < (y + b) * C + x + w := fun i hi => row_bit.mp hi
  exact (ct_iv h1 60).2
theorem mkC_le {N : Nat → Nat} (d : DW N) {S m : Nat} (hS : S < 2 ^ 60) : mkC N S m ≤ pcS S := by
  refine fb_ct_sub fun i hi q => ?_
  have h14 := lt64 (lt60 d d.2.1.1)
  have h15 := lt64 (lt60 d d.2.1.2)
  unfold mkP mkL at q
  rw [Nat.testBit_or, Nat.testBit_xor, Nat.testBit_xor] at q
  cases z : S.testBit i with
  | true => rfl
  | false =>
    by_cases q1 : m = 1
    · rw [if_pos q1, if_neg (by omega), Nat.testBit_or, sdf_tb _ _ h15, z] at q
      revert q
      cases (N 14).testBit i <;> cases (N 15).testBit i <;> decide
    · rw [if_neg q1, sdf_tb _ _ h14, z] at q
      by_cases q2 : m = 2
      · rw [if_pos q2, Nat.testBit_or, z] at q
        revert q
        cases (N 14).testBit i <;> cases (N 15).testBit i <;> decide
      · rw [if_neg q2, sdf_tb _ _ h15, z] at q
        revert q
        cases (N 14).testBit i <;> cases (N 15).testBit i <;> decide
theorem mk_14 (N : Nat → Nat) (S m : Nat) : mkN N S m 14 = mkP N S m := by
  unfold mkN
  rw [upN_n (by omega), upN_s]
theorem mk_15 (N : Nat → Nat) (S m : Nat) : mkN N S m 15 = mkL N S m := by
  unfold mkN
  rw [upN_s]
theorem or_or (a b : Nat) : (a ||| b) ||| b = a ||| b := by rw [Nat.or_assoc, Nat.or_self]
theorem sdf_sdf {a b : Nat} (ha : a < 2 ^ 64) : sdf (sdf a b) b = sdf a b := by
  refine Nat.eq_of_testBit_eq fun i => ?_
  rw [sdf_tb _ _ (sdf_lt _ ha), sdf_tb _ _ ha]
  cases a.testBit i <;> cases b.testBit i <;> rfl
theorem mkC_2 {N : Nat → Nat} (d : DW N) (S m : Nat) : mkC (mkN N S m) S m = 0 := by
  have h14 := lt64 (lt60 d d.2.1.1)
  have h15 := lt64 (lt60 d d.2.1.2)
  have e1 : mkP (mkN N S m) S m = mkN N S m 14 := by
    rw [mk_14]
    unfold mkP
    rw [mk_14]
    unfold mkP
    by_cases q : m = 1
    · rw [if_pos q, if_pos q, or_or]
    · rw [if_neg q, if_neg q, sdf_sdf h14]
  have e2 : mkL (mkN N S m) S m = mkN N S m 15 := by
    rw [mk_15]
    unfold mkL
    rw [mk_15]
    unfold mkL
    by_cases q : m = 2
    · rw [if_pos q, if_pos q, or_or]
    · rw [if_neg q, if_neg q, sdf_sdf h15]
  unfold mkC
  rw [e1, e2, Nat.xor_self, Nat.xor_self]
  exact pc_0
section MARKS
variable {F B : Nat} {c : CSt} {N : Nat → Nat}
theorem mark_y (hF : 1000000 < F) (i : I3 B c N) {x y w h m : Nat} (qw : 1 ≤ w) (qh : 1 ≤ h) (qx : x + w ≤ N 0) (qy : y + h ≤ N 1) (hm2 : m ≤ 2) : ∃ c2, fL_mark F c (nI x) (nI y) (nI w) (nI h) (nI m) = some (nI (mkC N (rcS (N 0) x y w h) m), c2) ∧ I3 B c2 (mkN N (rcS (N 0) x y w h) m) := by
  obtain ⟨c2, e, i2⟩ := ga_mark hF i qw qh qx qy hm2
  refine ⟨c2, ?_, i2⟩
  unfold fL_mark
  rw [e]
theorem bd6_n {A1 A2 A3 A4 A5 A6 ρ : Type} {X : Option (A1 × A2 × A3 × A4 × A5 × A6)} {K : A1 → A2 → A3 → A4 → A5 → A6 → Option ρ} (h : X = none) : bd6 X K = none := by rw [h]; rfl
theorem mark_n (i : I3 B c N) {x y w h m : Int32} (q : ¬ RcI (N 0) (N 1) x.toInt y.toInt w.toInt h.toInt) : fL_mark F c x y w h m = some (-2, c) := by
  have gg : g_mark F c x y w h m = none ∧ gx_mark F c x y w h m = some c := by
    obtain ⟨S, o, st, len, set, fac, dce, pm, sm, cel, ben, off, SS, tr, pl, cb, u, cat, wd, rfl, r, g, b10, b11, gn, rg⟩ := i
    have h0 := r.1.1.2.1
    have h1 := r.1.1.2.2.2.1
    have hc : fX5_mark F (nI o) (nI st) (nI (N 0)) (nI (N 1)) (nI (N 2)) (lN (N 14)) (lN (N 15)) (nI (N 8)) (nI (N 13)) set fac dce (nI pm) (nI sm) cel ben off (nI (N 9)) (nI (N 10)) (nI (N 11)) (nI (N 12)) SS x y w h m = none := by
      unfold fX5_mark
      rw [bd1_e (x1_holds_no h0 h1 q), if_pos nI_0]
    have hx : fX5_mark_xA (nI (N 0)) (nI (N 1)) x y w h m = some () := by
      unfold fX5_mark_xA
      rw [bd1_e (x1_holds_no h0 h1 q), if_pos nI_0]
    exact ⟨bd6_n hc, bd1_e hx⟩
  unfold fL_mark
  rw [gg.1]
  show bd1 (gx_mark F c x y w h m) _ = _
  rw [bd1_e gg.2]
theorem gz16 {ρ : Type} (X : Option ρ) : gz (16 : Int32) X = X := gz_nI (k := 16) (by omega) (by omega)
theorem gz256 {ρ : Type} (X : Option ρ) : gz (256 : Int32) X = X := gz_nI (k := 256) (by omega) (by omega)
theorem one_add (k : Nat) : (1 : Int32) + nI k = nI (1 + k) := nI_add 1 k
theorem marks_s (hF : 1000000 < F) (i : I3 B c N) (a b : Int32) : ∃ c2 N2, fL_marks F c a b = some ((1 : Int32), c2) ∧ I3 B c2 N2 := by
  obtain ⟨d, w, -, gn, -, -⟩ := i.dw
  obtain ⟨c1, c2, r1, r2, k2⟩ := d.1
  obtain ⟨x, hx, ex⟩ := low_s a (k := N 0) (by omega) (by omega)
  obtain ⟨y, hy, ey⟩ := low_s (a / 16) (k := N 1) (by omega) (by omega)
  obtain ⟨w', hw, ew⟩ := low_s b (k := N 0 - x) (by omega) (by omega)
  obtain ⟨h', hh, eh⟩ := low_s (b / 16) (k := N 1 - y) (by omega) (by omega)
  obtain ⟨m, hm, em⟩ := low_s (b / 256) (k := 3) (by omega) (by omega)
  obtain ⟨k1, e1, i1⟩ := mark_y hF i (x := x) (y := y) (w := 1 + w') (h := 1 + h') (m := m) (by omega) (by omega) (by omega) (by omega) (by omega)
  have n0 : mkN N (rcS (N 0) x y (1 + w') (1 + h')) m 0 = N 0 := by
    unfold mkN
    rw [upN_n (by omega), upN_n (by omega)]
  have n1 : mkN N (rcS (N 0) x y (1 + w') (1 + h')) m 1 = N 1 := by
    unfold mkN
    rw [upN_n (by omega), upN_n (by omega)]
  obtain ⟨k2', e2, i2⟩ := mark_y hF i1 (x := x) (y := y) (w := 1 + w') (h := 1 + h') (m := m) (by omega) (by omega) (by omega) (by omega) (by omega)
  rw [n0, mkC_2 d] at e2
  rw [n0] at i2
  have n02 : mkN (mkN N (rcS (N 0) x y (1 + w') (1 + h')) m) (rcS (N 0) x y (1 + w') (1 + h')) m 0 = N 0 := by
    unfold mkN
    rw [upN_n (by omega), upN_n (by omega), upN_n (by omega), upN_n (by omega)]
  have e3 : fL_mark F k2' (nI x) (nI y) (nI (1 + w' + N 0)) (nI (1 + h')) (nI m) = some (-2, k2') := mark_n i2 (fun z => by
    unfold RcI at z
    rw [n02, nI_toInt (by omega), nI_toInt (by omega), nI_toInt (by omega), nI_toInt (by omega)] at z
    omega)
  have hle : mkC N (rcS (N 0) x y (1 + w') (1 + h')) m ≤ (1 + w') * (1 + h') := by
    have g1 := mkC_le d (m := m) (rc_lt (N 0) x y (1 + w') (1 + h'))
    have g2 := pc_rc (C := N 0) (R := N 1) (x := x) (y := y) (w := 1 + w') (h := 1 + h') (by omega) c2 r2 (by omega) (by omega)
    rw [Nat.mul_comm] at g2
    omega
  have hsm : (1 + w') * (1 + h') ≤ 60 := Nat.le_trans (Nat.mul_le_mul (show 1 + w' ≤ 10 by omega) (show 1 + h' ≤ 6 by omega)) (by decide)
  refine ⟨k2', _, ?_, i2⟩
  unfold fL_marks
  rw [bd1_e (gw0 hF i), bd1_e ex, gz16, bd1_e (gw1 hF i), bd1_e ey, bd1_e (gw0 hF i), pk_sub (by omega), bd1_e ew, one_add, nm_s, gz16, bd1_e (gw1 hF i), pk_sub (by omega), bd1_e eh, one_add, nm_s, gz256, bd1_e (show fL_low (b / 256) (3 : Int32) = _ from em), bd2_e e1, if_neg (nI_pos (by omega)), pk_mul, if_neg (show ¬ nI ((1 + w') * (1 + h')) < nI (mkC N (rcS (N 0) x y (1 + w') (1 + h')) m) from fun z => by rw [fa_lt, nI_toInt (by omega), nI_toInt (by omega)] at z; omega), bd2_e e2, if_neg (nn (show nI 0 = (0 : Int32) from rfl)), bd1_e (gw0 hF i2), n02, nI_add, bd2_e e3, if_neg (nn rfl)]
theorem ad_at {N : Nat → Nat} {k x y w g : Nat} (h8 : N 8 < 6) : adN N k x y w g 8 = N 8 + 1 ∧ adN N k x y w g (20 + 6 * N 8 + 1) = x ∧ adN N k x y w g (20 + 6 * N 8 + 2) = y ∧ adN N k x y w g (20 + 6 * N 8 + 3) = w ∧ spN (adN N k x y w g) (N 8) = 0 := by
  refine ⟨if_pos rfl, ?_, ?_, ?_, ?_⟩
  · unfold adN
    rw [if_neg (by omega), if_neg (by omega), if_neg (by omega), if_neg (by omega), if_neg (by omega), if_pos rfl]
  · unfold adN
    rw [if_neg (by omega), if_neg (by omega), if_neg (by omega), if_neg (by omega), if_pos rfl]
  · unfold adN
    rw [if_neg (by omega), if_neg (by omega), if_neg (by omega), if_pos rfl]
  · unfold spN adN
    rw [if_neg (by omega), if_pos rfl]
    decide
theorem clip {w k : Nat} (hw : w < 100) (hk : k < 100) : (if nI w ≤ nI k then some (nI w) else some (nI k)) = some (nI (if w ≤ k then w else k)) := by
  by_cases q : w ≤ k
  · rw [if_pos (nI_le q (by omega)), if_pos q]
  · rw [if_neg (nI_ge (by omega) (by omega)), if_neg q]
theorem adds_s (hF : 1000000 < F) (i : I3 B c N) (a b : Int32) : ∃ c2 N2, fL_adds F c a b = some ((1 : Int32), c2) ∧ I3 B c2 N2 := by
  obtain ⟨d, w, -, gn, -, -⟩ := i.dw
  obtain ⟨c1, c2, r1, r2, k2⟩ := d.1
  have h8 := d.2.2.2.1.1
  obtain ⟨x, hx, ex⟩ := low_s a (k := N 0) (by omega) (by omega)
  obtain ⟨y, hy, ey⟩ := low_s (a / 16) (k := N 1) (by omega) (by omega)
  obtain ⟨w', hw, ew⟩ := low_s b (k := N 0 - x) (by omega) (by omega)
  obtain ⟨h', hh, eh⟩ := low_s (b / 16) (k := N 1 - y) (by omega) (by omega)
  obtain ⟨t, ht, et⟩ := low_s (b / 256) (k := 4) (by omega) (by omega)
  obtain ⟨wd, ewd⟩ : ∃ wd, wd = if 1 + w' ≤ 3 then 1 + w' else 3 := ⟨_, rfl⟩
  obtain ⟨hd, ehd⟩ : ∃ hd, hd = if 1 + h' ≤ 2 then 1 + h' else 2 := ⟨_, rfl⟩
  have wb : 1 ≤ wd ∧ x + wd ≤ N 0 := by rw [ewd]; split <;> omega
  have hb : 1 ≤ hd ∧ y + hd ≤ N 1 := by rw [ehd]; split <;> omega
  have e11 : (if nI (1 + w') ≤ (3 : Int32) then some (nI (1 + w')) else some (3 : Int32)) = some (nI wd) := by
    rw [ewd]
    exact clip (k := 3) (by omega) (by omega)
  have e12 : (if nI (1 + h') ≤ (2 : Int32) then some (nI (1 + h')) else some (2 : Int32)) = some (nI hd) := by
    rw [ehd]
    exact clip (k := 2) (by omega) (by omega)
  unfold fL_adds
  rw [bd1_e (gw0 hF i), bd1_e ex, gz16, bd1_e (gw1 hF i), bd1_e ey, bd1_e (gw0 hF i), pk_sub (by omega), bd1_e ew, one_add, nm_s, gz16, bd1_e (gw1 hF i), pk_sub (by omega), bd1_e eh, one_add, nm_s, bd1_e e11, bd1_e e12, bd1_e (gw8 hF i), gz256, bd1_e (show fL_low (b / 256) (4 : Int32) = _ from et)]
  have go : ∃ c3 N3, (if ¬ nI t = 0 then bd2 (fL_punch F c (nI x) (nI y) (nI wd) (nI hd)) fun r17 u18 => some (r17, u18) else bd2 (fL_bend F c (nI x) (nI y) (nI wd)) fun r19 u20 => some (r19, u20)) = some (if N 8 = 6 then (-3 : Int32) else nI (N 8), c3) ∧ I3 B c3 N3 ∧ (N 8 < 6 → N3 8 = N 8 + 1 ∧ N3 (20 + 6 * N 8 + 1) = x ∧ N3 (20 + 6 * N 8 + 2) = y ∧ N3 (20 + 6 * N 8 + 3) = wd ∧ spN N3 (N 8) = 0) := by
    by_cases qt : t = 0
    · subst qt
      rw [if_neg (nn (show nI 0 = (0 : Int32) from rfl))]
      by_cases q6 : N 8 = 6
      · obtain ⟨g1, g2⟩ := gx_addBend_6 (F := F) i (x := x) (y := y) (w := wd) q6 wb.1 wb.2 (by omega)
        have e : fL_bend F c (nI x) (nI y) (nI wd) = some (-3, c) := by
          unfold fL_bend
          rw [g1]
          show bd1 (gx_addBend F c (nI x) (nI y) (nI wd)) _ = _
          rw [bd1_e g2]
        refine ⟨c, N, ?_, i, fun h => absurd h (by omega)⟩
        rw [bd2_e e, if_pos q6]
      · obtain ⟨c3, e3, i3⟩ := ga_addBend hF i (x := x) (y := y) (w := wd) (by omega) wb.1 wb.2 (by omega)
        have e : fL_bend F c (nI x) (nI y) (nI wd) = some (nI (N 8), c3) := by
          unfold fL_bend
          rw [e3]
        refine ⟨c3, _, ?_, i3, fun h => ad_at h⟩
        rw [bd2_e e, if_neg q6]
    · rw [if_pos (show ¬ nI t = 0 from fun z => qt ((nI_eq (b := 0) (by omega) (by omega)).mp z))]
      by_cases q6 : N 8 = 6
      · obtain ⟨g1, g2⟩ := gx_addPunch_6 (F := F) i (x := x) (y := y) (w := wd) (h := hd) q6 wb.1 hb.1 wb.2 hb.2
        have e : fL_punch F c (nI x) (nI y) (nI wd) (nI hd) = some (-3, c) := by
          unfold fL_punch
          rw [g1]
          show bd1 (gx_addPunch F c (nI x) (nI y) (nI wd) (nI hd)) _ = _
          rw [bd1_e g2]
        refine ⟨c, N, ?_, i, fun h => absurd h (by omega)⟩
        rw [bd2_e e, if_pos q6]
      · obtain ⟨c3, e3, i3⟩ := ga_addPunch hF i (x := x) (y := y) (w := wd) (h := hd) (by omega) wb.1 hb.1 wb.2 hb.2
        have e : fL_punch F c (nI x) (nI y) (nI wd) (nI hd) = some (nI (N 8), c3) := by
          unfold fL_punch
          rw [e3]
        refine ⟨c3, _, ?_, i3, fun h => ad_at h⟩
        rw [bd2_e e, if_neg q6]
  obtain ⟨c3, N3, e3, i3, at3⟩ := go
  refine ⟨c3, N3, ?_, i3⟩
  rw [bd2_e e3]
  by_cases q6 : N 8 = 6
  · rw [if_pos q6, q6, if_neg (nn (show nI 6 = (6 : Int32) from rfl)), bd1_s, if_neg (nn rfl), if_pos (show nI 6 = (6 : Int32) from rfl)]
  · have n6 : ¬ nI (N 8) = (6 : Int32) := fun z => q6 ((nI_eq (b := 6) (by omega) (by omega)).mp z)
    obtain ⟨a1, a2, a3, a4, a5⟩ := at3 (by omega)
    have lt : N 8 < N3 8 := by omega
    rw [if_neg q6, if_pos n6, bd1_s, if_neg (nn rfl), if_neg n6, bd1_e (go6 hF i3 lt), a5, eN_0, if_neg (nn rfl), bd1_e (go1 hF i3 lt), a2, if_neg (nn rfl), bd1_e (go2 hF i3 lt), a3, if_neg (nn rfl), bd1_e (go3 hF i3 lt), a4, if_neg (nn rfl)]
end MARKS
