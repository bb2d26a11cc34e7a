theorem isop_y {N : Nat → Nat} {o : Nat} (h8 : N 8 ≤ 6) (ho : o < N 8) : fX6_isOp (lA N) (nI o) = some (nI 1) := by
  unfold fX6_isOp
  rw [bd1_e (show fX6_many (lA N) 8 = some (nI (N 8)) from many_s (k := 8) (by omega)), il_1, pk_sub (by omega), bd1_e (show fX6_in (nI o) 0 (nI (N 8 - 1)) = some (nI 1) from in_y (b := 0) (c := N 8 - 1) (by omega) (by omega) (by omega)), gbN1]
theorem isop_no {N : Nat → Nat} {a : Int32} (h8 : N 8 ≤ 6) (ho : ¬ (0 ≤ a.toInt ∧ a.toInt < (N 8 : Int))) : fX6_isOp (lA N) a = some (nI 0) := by
  unfold fX6_isOp
  have i1 : fX6_in a 0 (nI (N 8) - 1) = some (nI 0) := by
    unfold fX6_in
    by_cases q : a < 0
    · rw [if_pos q]; rfl
    · rw [if_neg q]
      rw [show (0 : Int32) = nI 0 from rfl, fa_lt, nI_toInt (by omega)] at q
      rw [if_pos (show nI (N 8) - 1 < a by rw [il_1, fa_lt, pk_sub_toInt (by omega) (by omega)]; omega)]
      rfl
  rw [bd1_e (show fX6_many (lA N) 8 = some (nI (N 8)) from many_s (k := 8) (by omega)), bd1_e i1, gbN0]
/-- stations change; the rest stands -/
theorem rl_st {M N : Nat → Nat} {set fac fac' : Nat → Int32} {dce : Nat → Int64} {pm sm : Nat} {cel : Nat → Int64} {ben off : Nat → Int32} (s : ∀ j, (∀ o, o < 6 → j ≠ 20 + 6 * o + 5) → M j = N j) (hst : ∀ o, o < N 8 → stOK (M (20 + 6 * o + 5))) (hf : ∀ o, o < N 8 → (∀ j, j < 6 → fac' (7 * o + j) = fac (7 * o + j)) ∧ fac' (7 * o + 6) = nI (M (20 + 6 * o + 5))) (r : RelS N set fac dce pm sm cel ben off) : RelS M set fac' dce pm sm cel ben off := by
  obtain ⟨d, w, c, p, dj⟩ := r
  have e : EqP M N := ⟨fun t i ht hi => s _ (by omega), s 0 (by omega), s 1 (by omega)⟩
  refine ⟨?_, e.pw w, ⟨fun k hk => by rw [s _ (by omega)]; exact c.1 k hk, fun o ho => ?_⟩, e.pc p, ?_⟩
  · unfold DW
    rw [s 0 (by omega), s 1 (by omega), s 2 (by omega), s 3 (by omega), s 4 (by omega), s 5 (by omega), s 6 (by omega), s 7 (by omega), s 8 (by omega), s 13 (by omega), s 14 (by omega), s 15 (by omega)]
    refine ⟨d.1, d.2.1, d.2.2.1, d.2.2.2.1, fun o ho => ?_⟩
    have g := d.2.2.2.2 o ho
    rw [s (20 + 6 * o + 0) (by omega), s (20 + 6 * o + 1) (by omega), s (20 + 6 * o + 2) (by omega), s (20 + 6 * o + 3) (by omega), s (20 + 6 * o + 4) (by omega)]
    exact ⟨g.1, g.2.1, g.2.2.1, g.2.2.2.1, g.2.2.2.2.1, hst o ho⟩
  · rw [s 8 (by omega)] at ho
    have co := c.2 o ho
    have f := hf o ho
    refine ⟨fun j hj => by rw [f.1 j (by omega), s _ (by omega)]; exact co.1 j hj, ?_, f.2, ?_⟩
    · rw [f.1 5 (by omega)]
      unfold foS
      rw [s _ (by omega), s _ (by omega), s _ (by omega)]
      exact co.2.1
    · unfold opS
      rw [s 0 (by omega), s _ (by omega), s _ (by omega), s _ (by omega), s _ (by omega)]
      exact co.2.2.2
  · unfold DJ
    rw [s 14 (by omega), s 15 (by omega)]
    exact dj
/-- a station, or none, as a row of longs keeps it -/
def stV (p : Nat) : Nat := if p = 0 then 18446744073709551615 else p - 1
theorem stV_ok {p : Nat} (h : p ≤ 8) : stOK (stV p) := by unfold stV stOK; split <;> omega
theorem stV_I {p : Nat} : nI (stV p) = eN p := by
  unfold stV
  by_cases q : p = 0
  · rw [if_pos q, q, nI_none]; rfl
  · rw [if_neg q, eN_s, show p - 1 + 1 = p by omega]
theorem stV_L : ∀ p, p < 9 → (eN p).toInt64 = lN (stV p) := by decide +kernel
theorem st_in {p : Nat} (h : p ≤ 8) : fX6_in (eN p) (-1 : Int32) 7 = some (nI 1) := by
  unfold fX6_in
  have h1 := eN_int (p := p) (by omega)
  rw [if_neg (show ¬ eN p < -1 by rw [fa_lt, h1, show (-1 : Int32).toInt = -1 from by decide +kernel]; omega), if_neg (show ¬ 7 < eN p by rw [fa_lt, h1, show (7 : Int32) = nI 7 from rfl, nI_toInt (by omega)]; omega)]
  rfl
theorem st_in_no {a : Int32} (h : ¬ (-1 ≤ a.toInt ∧ a.toInt ≤ 7)) : fX6_in a (-1 : Int32) 7 = some (nI 0) := by
  unfold fX6_in
  by_cases q : a < -1
  · rw [if_pos q]; rfl
  · rw [if_neg q]
    rw [fa_lt, show (-1 : Int32).toInt = -1 from by decide +kernel] at q
    rw [if_pos (show 7 < a by rw [fa_lt, show (7 : Int32) = nI 7 from rfl, nI_toInt (by omega)]; omega)]
    rfl
theorem x6_setst {F : Nat} {N S S' : Nat → Nat} {st st' o p : Nat} {q : Bool} (h : DW N) (ho : o < N 8) (hp : p ≤ 8) (sv : SV F N S st q S' st') : fX6_setStation F (lA N) (lA S) (nI st) (bI q) (nI o) (eN p) = some (eN (spN N o), lA (upN N (20 + 6 * o + 5) (stV p)), lA S', nI st', 0) := by
  unfold fX6_setStation
  have h8 := h.2.2.2.1.1
  rw [bd1_e (isop_y h8 ho), if_pos (show ¬ nI 1 = 0 by decide +kernel), bd1_e (st_in hp), if_pos (show ¬ nI 1 = 0 by decide +kernel), bd2_e sv, bd1_e (m_st h ho), il_20, il_6, il_5, pk_mul, nI_add, nI_add, nm_s, stV_L p (by omega), nm_s, gd_lit (by omega), nI_clamp (by omega), vp1]
theorem x6_setst_no {F : Nat} {N : Nat → Nat} {s : Nat → Int64} {st q a b : Int32} (h8 : N 8 ≤ 6) (ho : ¬ (0 ≤ a.toInt ∧ a.toInt < (N 8 : Int))) : fX6_setStation F (lA N) s st q a b = some (0, lA N, s, st, 1) := by
  unfold fX6_setStation
  rw [bd1_e (isop_no h8 ho), if_neg (nn (show nI 0 = 0 from rfl))]
  rfl
theorem x6_setst_no2 {F : Nat} {N : Nat → Nat} {s : Nat → Int64} {st q b : Int32} {o : Nat} (h8 : N 8 ≤ 6) (ho : o < N 8) (h : ¬ (-1 ≤ b.toInt ∧ b.toInt ≤ 7)) : fX6_setStation F (lA N) s st q (nI o) b = some (0, lA N, s, st, 2) := by
  unfold fX6_setStation
  rw [bd1_e (isop_y h8 ho), if_pos (show ¬ nI 1 = 0 by decide +kernel), bd1_e (st_in_no h), if_neg (nn (show nI 0 = 0 from rfl))]
  rfl
theorem rl_setst {N : Nat → Nat} {set fac : Nat → Int32} {dce : Nat → Int64} {pm sm o p : Nat} {cel : Nat → Int64} {ben off : Nat → Int32} (ho : o < N 8) (hp : p ≤ 8) (r : RelS N set fac dce pm sm cel ben off) : RelS (upN N (20 + 6 * o + 5) (stV p)) set (upd fac (7 * o + 6) (eN p)) dce pm sm cel ben off := by
  have d := r.1
  have h8 := d.2.2.2.1.1
  refine rl_st (fun j hj => upN_n (hj o (by omega))) (fun k hk => ?_) (fun k hk => ⟨fun j hj => ?_, ?_⟩) r
  · by_cases e : k = o
    · rw [e, upN_s]; exact stV_ok hp
    · rw [upN_n (by omega)]; exact (d.2.2.2.2 k hk).2.2.2.2.2
  · show (if 7 * k + j = 7 * o + 6 then eN p else fac (7 * k + j)) = _
    rw [if_neg (by omega)]
  · show (if 7 * k + 6 = 7 * o + 6 then eN p else fac (7 * k + 6)) = _
    by_cases e : k = o
    · rw [e, if_pos rfl, upN_s, stV_I]
    · rw [if_neg (by omega), upN_n (by omega)]; exact (r.2.2.1.2 k hk).2.2.1
/-! adds -/
def adN (N : Nat → Nat) (k x y w g : Nat) : Nat → Nat := fun j => if j = 8 then N 8 + 1 else if j = 20 + 6 * N 8 + 5 then 18446744073709551615 else if j = 20 + 6 * N 8 + 4 then g else if j = 20 + 6 * N 8 + 3 then w else if j = 20 + 6 * N 8 + 2 then y else if j = 20 + 6 * N 8 + 1 then x else if j = 20 + 6 * N 8 + 0 then k else N j
theorem x6_adds {F : Nat} {N S S' : Nat → Nat} {st st' k x y w g : Nat} {q : Bool} {t : Int32} (h : DW N) (h6 : N 8 < 6) (hk : k ≤ 1) (hw : 1 ≤ w) (hg : 1 ≤ g) (hx : x + w ≤ N 0) (hy : y + g ≤ N 1) (sv : SV F N S st q S' st') : fX6_adds F (lA N) (lA S) (nI st) (bI q) t (nI k) (nI x) (nI y) (nI w) (nI g) = some (nI (N 8), lA (adN N k x y w g), lA S', nI st', t) := by
  obtain ⟨h1, h2, h3, h4, h5⟩ := h.1
  unfold fX6_adds
  rw [bd1_e (x6_isrec h (by omega) (by omega) (by omega) (by omega)), if_pos (show 1 ≤ w ∧ 1 ≤ g ∧ x + w ≤ N 0 ∧ y + g ≤ N 1 from ⟨hw, hg, hx, hy⟩), if_pos (show ¬ nI 1 = 0 by decide +kernel), il_8, nI_clamp (by omega)]
  simp only [gd_lit (show 8 < 100 by omega), lA_at]
  rw [if_pos (show ¬ lg_cmp (lN (N 8)) 6 = 0 from fun z => absurd ((cmp0 (b := 6) (by omega) (by omega)).mp z) (by omega)), bd2_e sv, bd1_e (many_s (k := 8) (by omega)), il_20, il_6, pk_mul, nI_add, nm_s, il_0, nI_add, nm_s, nI_l (by omega), nm_s, gd_lit (by omega), il_1, nI_add, nm_s, nI_l (by omega), nm_s, gd_lit (by omega), il_2, nI_add, nm_s, nI_l (by omega), nm_s, gd_lit (by omega), il_3, nI_add, nm_s, nI_l (by omega), nm_s, gd_lit (by omega), il_4, nI_add, nm_s, nI_l (by omega), nm_s, gd_lit (by omega), il_5, nI_add, gd_lit (by omega), nI_clamp (by omega), nI_clamp (by omega), nI_clamp (by omega), nI_clamp (by omega), nI_clamp (by omega), nI_clamp (by omega), m1_L]
  simp only [vp1, lA_at]
  rw [upN_n (by omega), upN_n (by omega), upN_n (by omega), upN_n (by omega), upN_n (by omega), upN_n (by omega), ll_1, lN_add, nm_s]
  simp only [vp1]
  rw [bd1_e (many_s (k := 8) (by omega)), upN_s, pk_sub (by omega), Nat.add_sub_cancel]
  rfl
theorem x6_adds_no {F : Nat} {N : Nat → Nat} {s : Nat → Int64} {st q t k x y w g : Int32} (h : fX6_isRectangle (lA N) x y w g = some (nI 0)) : fX6_adds F (lA N) s st q t k x y w g = some (0, lA N, s, st, 1) := by
  unfold fX6_adds
  rw [bd1_e h, if_neg (nn (show nI 0 = 0 from rfl))]
  rfl
theorem x6_adds_no2 {F : Nat} {N : Nat → Nat} {s : Nat → Int64} {st q t k x y w g : Int32} (h : fX6_isRectangle (lA N) x y w g = some (nI 1)) (h6 : N 8 = 6) : fX6_adds F (lA N) s st q t k x y w g = some (0, lA N, s, st, 2) := by
  unfold fX6_adds
  rw [bd1_e h, if_pos (show ¬ nI 1 = 0 by decide +kernel), il_8, nI_clamp (by omega), gd_lit (by omega), lA_at, h6, if_neg (nn (show lg_cmp (lN 6) 6 = 0 by decide +kernel))]
  rfl
/-- the class's row of facts behind an operation that came -/
def adF (f : Nat → Int32) (n k x y w g : Nat) : Nat → Int32 := upd (upd (upd (upd (upd (upd (upd f (7 * n + 0) (nI k)) (7 * n + 1) (nI x)) (7 * n + 2) (nI y)) (7 * n + 3) (nI w)) (7 * n + 4) (nI g)) (7 * n + 5) (nI (if k = 0 then 2 * (w + g) else w))) (7 * n + 6) (-1)
theorem x1_append {F : Nat} {N : Nat → Nat} {fac : Nat → Int32} {dce : Nat → Int64} {k x y w g : Nat} (hF : 1000 < F) (h : DW N) (h6 : N 8 < 6) (hk : k ≤ 1) (hx : x + w ≤ N 0) (hy : y + g ≤ N 1) : fX1_append F (nI (N 0)) (nI (N 1)) (nI (N 8)) fac dce (nI k) (nI x) (nI y) (nI w) (nI g) = some (nI (N 8), nI (N 8 + 1), adF fac (N 8) k x y w g, vp_updL dce (N 8) (lN (rcS (N 0) x y w g))) := by
  obtain ⟨h1, h2, h3, h4, h5⟩ := h.1
  unfold fX1_append
  have ef : (if ¬ nI k = 0 then some (nI w) else some ((2 : Int32) * (nI w + nI g))) = some (nI (if k = 0 then 2 * (w + g) else w)) := by
    by_cases e : k = 0
    · rw [if_neg (nn (show nI k = 0 from by rw [e]; rfl)), if_pos e, nI_add, il_2, pk_mul]
    · rw [if_pos (show ¬ nI k = 0 from nI_ne0 (by omega) (by omega)), if_neg e]
  rw [bd1_e (show fX1_changeFact fac (nI (N 8)) 0 (nI k) = _ from fac_at (j := 0) (by omega)), bd1_e (show fX1_changeFact _ (nI (N 8)) 1 (nI x) = _ from fac_at (j := 1) (by omega)), bd1_e (show fX1_changeFact _ (nI (N 8)) 2 (nI y) = _ from fac_at (j := 2) (by omega)), bd1_e (show fX1_changeFact _ (nI (N 8)) 3 (nI w) = _ from fac_at (j := 3) (by omega)), bd1_e (show fX1_changeFact _ (nI (N 8)) 4 (nI g) = _ from fac_at (j := 4) (by omega)), bd1_e ef, bd1_e (show fX1_changeFact _ (nI (N 8)) 5 _ = _ from fac_at (j := 5) (by omega)), bd1_e (show fX1_changeFact _ (nI (N 8)) 6 (-1) = _ from fac_at (j := 6) (by omega)), bd1_e (x1_rect (by omega) h1 h2 h4 hx hy), bd1_e (cel_at h6), il_1, nI_add, nm_s]
  rfl
theorem rl_adds {N : Nat → Nat} {set fac : Nat → Int32} {dce : Nat → Int64} {pm sm k x y w g : Nat} {cel : Nat → Int64} {ben off : Nat → Int32} (h6 : N 8 < 6) (hk : k ≤ 1) (hw : 1 ≤ w) (hg : 1 ≤ g) (hx : x + w ≤ N 0) (hy : y + g ≤ N 1) (r : RelS N set fac dce pm sm cel ben off) : RelS (adN N k x y w g) set (adF fac (N 8) k x y w g) (vp_updL dce (N 8) (lN (rcS (N 0) x y w g))) pm sm cel ben off := by
  obtain ⟨d, v, c, p, dj⟩ := r
  generalize hM : adN N k x y w g = M
  have s : ∀ j, j ≠ 8 → (j < 20 + 6 * N 8 ∨ 20 + 6 * N 8 + 6 ≤ j) → M j = N j := fun j a b => by
    rw [← hM]; unfold adN
    rw [if_neg a, if_neg (by omega), if_neg (by omega), if_neg (by omega), if_neg (by omega), if_neg (by omega), if_neg (by omega)]
  have v8 : M 8 = N 8 + 1 := by rw [← hM]; exact if_pos rfl
  have v0 : M (20 + 6 * N 8 + 0) = k := by
    rw [← hM]; unfold adN
    rw [if_neg (by omega), if_neg (by omega), if_neg (by omega), if_neg (by omega), if_neg (by omega), if_neg (by omega), if_pos rfl]
  have v1 : M (20 + 6 * N 8 + 1) = x := by
    rw [← hM]; unfold adN
    rw [if_neg (by omega), if_neg (by omega), if_neg (by omega), if_neg (by omega), if_neg (by omega), if_pos rfl]
  have v2 : M (20 + 6 * N 8 + 2) = y := by
    rw [← hM]; unfold adN
    rw [if_neg (by omega), if_neg (by omega), if_neg (by omega), if_neg (by omega), if_pos rfl]
  have v3 : M (20 + 6 * N 8 + 3) = w := by
    rw [← hM]; unfold adN
    rw [if_neg (by omega), if_neg (by omega), if_neg (by omega), if_pos rfl]
  have v4 : M (20 + 6 * N 8 + 4) = g := by
    rw [← hM]; unfold adN
    rw [if_neg (by omega), if_neg (by omega), if_pos rfl]
  have v5 : M (20 + 6 * N 8 + 5) = 18446744073709551615 := by
    rw [← hM]; unfold adN
    rw [if_neg (by omega), if_pos rfl]
  have e : EqP M N := ⟨fun t i ht hi => s _ (by omega) (by omega), s 0 (by omega) (by omega), s 1 (by omega) (by omega)⟩
  have old : ∀ o, o < N 8 → ∀ j, j < 6 → M (20 + 6 * o + j) = N (20 + 6 * o + j) := fun o ho j hj => s _ (by omega) (by omega)
  have fo : ∀ o, o < N 8 → ∀ j, j < 7 → adF fac (N 8) k x y w g (7 * o + j) = fac (7 * o + j) := fun o ho j hj => by
    unfold adF upd
    rw [if_neg (by omega), if_neg (by omega), if_neg (by omega), if_neg (by omega), if_neg (by omega), if_neg (by omega), if_neg (by omega)]
  refine ⟨?_, e.pw v, ⟨fun i hi => by rw [s _ (by omega) (by omega)]; exact c.1 i hi, fun o ho => ?_⟩, e.pc p, ?_⟩
  · unfold DW
    rw [s 0 (by omega) (by omega), s 1 (by omega) (by omega), s 2 (by omega) (by omega), s 3 (by omega) (by omega), s 4 (by omega) (by omega), s 5 (by omega) (by omega), s 6 (by omega) (by omega), s 7 (by omega) (by omega), v8, s 13 (by omega) (by omega), s 14 (by omega) (by omega), s 15 (by omega) (by omega)]
    refine ⟨d.1, d.2.1, d.2.2.1, ⟨by omega, d.2.2.2.1.2⟩, fun o ho => ?_⟩
    by_cases e : o = N 8
    · rw [e, v0, v1, v2, v3, v4, v5]
      exact ⟨hk, hw, hx, hg, hy, Or.inr rfl⟩
    · have ho : o < N 8 := by omega
      rw [old o ho 0 (by omega), old o ho 1 (by omega), old o ho 2 (by omega), old o ho 3 (by omega), old o ho 4 (by omega), old o ho 5 (by omega)]
      exact d.2.2.2.2 o ho
  · rw [v8] at ho
    by_cases e : o = N 8
    · subst e
      refine ⟨fun j hj => ?_, ?_, ?_, ?_⟩
      · have j5 : j = 0 ∨ j = 1 ∨ j = 2 ∨ j = 3 ∨ j = 4 := by omega
        rcases j5 with rfl | rfl | rfl | rfl | rfl
        · rw [v0]; unfold adF upd
          rw [if_neg (by omega), if_neg (by omega), if_neg (by omega), if_neg (by omega), if_neg (by omega), if_neg (by omega), if_pos rfl]
        · rw [v1]; unfold adF upd
          rw [if_neg (by omega), if_neg (by omega), if_neg (by omega), if_neg (by omega), if_neg (by omega), if_pos rfl]
        · rw [v2]; unfold adF upd
          rw [if_neg (by omega), if_neg (by omega), if_neg (by omega), if_neg (by omega), if_pos rfl]
        · rw [v3]; unfold adF upd
          rw [if_neg (by omega), if_neg (by omega), if_neg (by omega), if_pos rfl]
        · rw [v4]; unfold adF upd
          rw [if_neg (by omega), if_neg (by omega), if_pos rfl]
      · unfold foS
        rw [v0, v3, v4]
        unfold adF upd
        rw [if_neg (by omega), if_pos rfl]
      · rw [v5, nI_none]
        unfold adF upd
        rw [if_pos rfl]
        decide +kernel
      · unfold opS
        rw [s 0 (by omega) (by omega), v1, v2, v3, v4]
        exact if_pos rfl
    · have ho : o < N 8 := by omega
      have co := c.2 o ho
      refine ⟨fun j hj => by rw [fo o ho j (by omega), old o ho j (by omega)]; exact co.1 j hj, ?_, ?_, ?_⟩
      · rw [fo o ho 5 (by omega)]
        unfold foS
        rw [old o ho 0 (by omega), old o ho 3 (by omega), old o ho 4 (by omega)]
        exact co.2.1
      · rw [fo o ho 6 (by omega), old o ho 5 (by omega)]
        exact co.2.2.1
      · unfold opS
        rw [s 0 (by omega) (by omega), old o ho 1 (by omega), old o ho 2 (by omega), old o ho 3 (by omega), old o ho 4 (by omega)]
        exact (if_neg (show ¬ o = N 8 by omega)).trans co.2.2.2
  · unfold DJ
    rw [s 14 (by omega) (by omega), s 15 (by omega) (by omega)]
    exact dj
