theorem in_y {a b c : Nat} (h1 : b ≤ a) (h2 : a ≤ c) (hc : c < 2 ^ 31) : fX6_in (nI a) (nI b) (nI c) = some (nI 1) := by
  rw [in_s (by omega) (by omega) hc, if_pos ⟨h1, h2⟩]
theorem in_no {a : Int32} {b c : Nat} (hb : b < 2 ^ 31) (hc : c < 2 ^ 31) (h : ¬ ((b : Int) ≤ a.toInt ∧ a.toInt ≤ (c : Int))) : fX6_in a (nI b) (nI c) = some (nI 0) := by
  unfold fX6_in
  by_cases q : a < nI b
  · rw [if_pos q]; rfl
  · rw [if_neg q]
    rw [fa_lt, nI_toInt hb] at q
    rw [if_pos (show nI c < a by rw [fa_lt, nI_toInt hc]; omega)]
    rfl
/-- settings, carrier and pilots change; the rest stands -/
theorem rl_up {M N : Nat → Nat} {set set' fac : Nat → Int32} {dce : Nat → Int64} {pm sm : Nat} {cel : Nat → Int64} {ben off : Nat → Int32} (s : ∀ j, (j = 0 ∨ j = 1 ∨ j = 8 ∨ 14 ≤ j) → M j = N j) (h2 : M 2 ≤ 2) (hs : 1 ≤ M 3 ∧ M 3 ≤ 999 ∧ M 4 ≤ 3 ∧ M 5 ≤ 9 ∧ M 6 ≤ 50 ∧ M 7 ≤ 50) (h13 : M 13 < 256) (cs : ∀ k, k < 5 → set' k = nI (M (3 + k))) (r : RelS N set fac dce pm sm cel ben off) : RelS M set' fac dce pm sm cel ben off := by
  obtain ⟨d, w, c, p, dj⟩ := r
  have e : EqP M N := ⟨fun t i ht hi => s _ (by omega), s 0 (by omega), s 1 (by omega)⟩
  refine ⟨?_, e.pw w, ⟨cs, fun o ho => ?_⟩, e.pc p, ?_⟩
  · unfold DW
    rw [s 0 (by omega), s 1 (by omega), s 8 (by omega), s 14 (by omega), s 15 (by omega)]
    refine ⟨⟨d.1.1, d.1.2.1, d.1.2.2.1, d.1.2.2.2.1, h2⟩, d.2.1, hs, ⟨d.2.2.2.1.1, h13⟩, fun o ho => ?_⟩
    rw [s _ (by omega), s _ (by omega), s _ (by omega), s _ (by omega), s _ (by omega), s _ (by omega)]
    exact d.2.2.2.2 o ho
  · rw [s 8 (by omega)] at ho
    have co := c.2 o ho
    refine ⟨fun j hj => by rw [s _ (by omega)]; exact co.1 j hj, ?_, by rw [s _ (by omega)]; exact co.2.2.1, ?_⟩
    · unfold foS
      rw [s _ (by omega), s _ (by omega), s _ (by omega)]
      exact co.2.1
    · unfold opS
      rw [s 0 (by omega), s _ (by omega), s _ (by omega), s _ (by omega), s _ (by omega)]
      exact co.2.2.2
  · unfold DJ
    rw [s 14 (by omega), s 15 (by omega)]
    exact dj
/-! carrier -/
theorem x6_carr {F : Nat} {N S S' : Nat → Nat} {st st' c : Nat} {q : Bool} (hc : c ≤ 2) (sv : SV F N S st q S' st') : fX6_setCarrier F (lA N) (lA S) (nI st) (bI q) (nI c) = some (nI (N 2), lA (upN N 2 c), lA S', nI st', 0) := by
  unfold fX6_setCarrier
  have i1 : fX6_in (nI c) 0 2 = some (nI 1) := in_y (b := 0) (c := 2) (by omega) hc (by omega)
  have i2 : fX6_many (lA N) 2 = some (nI (N 2)) := many_s (k := 2) (by omega)
  rw [bd1_e i1, if_pos (show ¬ nI 1 = 0 by decide +kernel), bd2_e sv, bd1_e i2, nI_l (by omega), nm_s, il_2, gd_lit (by omega), nI_clamp (by omega), vp1]
theorem x6_carr_no {F : Nat} {m s : Nat → Int64} {st q a : Int32} (h : ¬ (0 ≤ a.toInt ∧ a.toInt ≤ 2)) : fX6_setCarrier F m s st q a = some (0, m, s, st, 1) := by
  unfold fX6_setCarrier
  have i1 : fX6_in a 0 2 = some (nI 0) := in_no (b := 0) (c := 2) (by omega) (by omega) h
  rw [bd1_e i1, if_neg (nn (show nI 0 = 0 from rfl))]
  rfl
theorem rl_carr {N : Nat → Nat} {set fac : Nat → Int32} {dce : Nat → Int64} {pm sm c : Nat} {cel : Nat → Int64} {ben off : Nat → Int32} (hc : c ≤ 2) (r : RelS N set fac dce pm sm cel ben off) : RelS (upN N 2 c) set fac dce pm sm cel ben off := by
  have d := r.1
  refine rl_up (fun j hj => upN_n (by omega)) (by rw [upN_s]; exact hc) ?_ (by rw [upN_n (by omega)]; exact d.2.2.2.1.2) (fun k hk => by rw [upN_n (by omega)]; exact r.2.2.1.1 k hk) r
  rw [upN_n (by omega), upN_n (by omega), upN_n (by omega), upN_n (by omega), upN_n (by omega)]
  exact d.2.2.1
/-! settings -/
def setOK (a v : Nat) : Prop := (a = 0 ∧ 1 ≤ v ∧ v ≤ 999) ∨ (a = 1 ∧ v ≤ 3) ∨ (a = 2 ∧ v ≤ 9) ∨ ((a = 3 ∨ a = 4) ∧ v ≤ 50)
theorem x6_isset {a v : Nat} (h : setOK a v) : fX6_isSetting (nI a) (nI v) = some (nI 1) := by
  unfold fX6_isSetting
  rcases h with ⟨rfl, h1, h2⟩ | ⟨rfl, h1⟩ | ⟨rfl, h1⟩ | ⟨h0, h1⟩
  · rw [if_neg (nn (show nI 0 = 0 from rfl)), bd1_e (show fX6_in (nI v) 1 999 = some (nI 1) from in_y (b := 1) (c := 999) h1 h2 (by omega)), gbN1]
  · rw [if_pos (show ¬ nI 1 = 0 by decide +kernel), bd1_e (show fX6_in (nI 1) 1 4 = some (nI 1) from in_y (b := 1) (c := 4) (by omega) (by omega) (by omega)), if_neg (show ¬ nI 1 = 0 by decide +kernel), if_neg (nn (show nI 1 = 1 from rfl)), bd1_s, bd1_e (show fX6_in (nI v) 0 3 = some (nI 1) from in_y (b := 0) (c := 3) (by omega) h1 (by omega)), if_neg (show ¬ nI 1 = 0 by decide +kernel)]
    rfl
  · rw [if_pos (show ¬ nI 2 = 0 by decide +kernel), bd1_e (show fX6_in (nI 2) 1 4 = some (nI 1) from in_y (b := 1) (c := 4) (by omega) (by omega) (by omega)), if_neg (show ¬ nI 1 = 0 by decide +kernel), if_pos (show ¬ nI 2 = 1 by decide +kernel), if_neg (nn (show nI 2 = 2 from rfl)), bd1_s, bd1_e (show fX6_in (nI v) 0 9 = some (nI 1) from in_y (b := 0) (c := 9) (by omega) h1 (by omega)), if_neg (show ¬ nI 1 = 0 by decide +kernel)]
    rfl
  · rw [if_pos (show ¬ nI a = 0 from nI_ne0 (by omega) (by omega)), bd1_e (show fX6_in (nI a) 1 4 = some (nI 1) from in_y (b := 1) (c := 4) (by omega) (by omega) (by omega)), if_neg (show ¬ nI 1 = 0 by decide +kernel), if_pos (show ¬ nI a = 1 from fun z => absurd ((nI_eq (b := 1) (by omega) (by omega)).mp z) (by omega)), if_pos (show ¬ nI a = 2 from fun z => absurd ((nI_eq (b := 2) (by omega) (by omega)).mp z) (by omega)), bd1_s, bd1_e (show fX6_in (nI v) 0 50 = some (nI 1) from in_y (b := 0) (c := 50) (by omega) h1 (by omega)), if_neg (show ¬ nI 1 = 0 by decide +kernel)]
    rfl
def setOKi (a v : Int) : Prop := (a = 0 ∧ 1 ≤ v ∧ v ≤ 999) ∨ (a = 1 ∧ 0 ≤ v ∧ v ≤ 3) ∨ (a = 2 ∧ 0 ≤ v ∧ v ≤ 9) ∨ ((a = 3 ∨ a = 4) ∧ 0 ≤ v ∧ v ≤ 50)
theorem x6_isset_no {a v : Int32} (h : ¬ setOKi a.toInt v.toInt) : fX6_isSetting a v = some (nI 0) := by
  unfold fX6_isSetting
  unfold setOKi at h
  have lit : ∀ k, k < 2 ^ 31 → (a = nI k ↔ a.toInt = (k : Int)) := fun k hk => by rw [fa_eq, nI_toInt hk]
  by_cases q0 : a = 0
  · have := (lit 0 (by omega)).mp q0
    rw [if_neg (nn q0), bd1_e (show fX6_in v 1 999 = some (nI 0) from in_no (b := 1) (c := 999) (by omega) (by omega) (by omega)), gbN0]
  · have n0 := mt (lit 0 (by omega)).mpr q0
    rw [if_pos q0]
    by_cases q : (1 : Int) ≤ a.toInt ∧ a.toInt ≤ 4
    · have i1 : fX6_in a 1 4 = some (nI 1) := by
        unfold fX6_in
        rw [if_neg (show ¬ a < 1 by rw [fa_lt, show (1 : Int32) = nI 1 from rfl, nI_toInt (by omega)]; omega), if_neg (show ¬ 4 < a by rw [fa_lt, show (4 : Int32) = nI 4 from rfl, nI_toInt (by omega)]; omega)]
        rfl
      rw [bd1_e i1, if_neg (show ¬ nI 1 = 0 by decide +kernel)]
      by_cases q1 : a = 1
      · have := (lit 1 (by omega)).mp q1
        rw [if_neg (nn q1), bd1_s, bd1_e (show fX6_in v 0 3 = some (nI 0) from in_no (b := 0) (c := 3) (by omega) (by omega) (by omega)), if_pos (show nI 0 = 0 from rfl)]
        rfl
      · have n1 := mt (lit 1 (by omega)).mpr q1
        rw [if_pos q1]
        by_cases q2 : a = 2
        · have := (lit 2 (by omega)).mp q2
          rw [if_neg (nn q2), bd1_s, bd1_e (show fX6_in v 0 9 = some (nI 0) from in_no (b := 0) (c := 9) (by omega) (by omega) (by omega)), if_pos (show nI 0 = 0 from rfl)]
          rfl
        · have n2 := mt (lit 2 (by omega)).mpr q2
          rw [if_pos q2, bd1_s, bd1_e (show fX6_in v 0 50 = some (nI 0) from in_no (b := 0) (c := 50) (by omega) (by omega) (by omega)), if_pos (show nI 0 = 0 from rfl)]
          rfl
    · rw [bd1_e (show fX6_in a 1 4 = some (nI 0) from in_no (b := 1) (c := 4) (by omega) (by omega) q), if_pos (show nI 0 = 0 from rfl)]
      rfl
theorem x6_set {F : Nat} {N S S' : Nat → Nat} {st st' a v : Nat} {q : Bool} (h : setOK a v) (sv : SV F N S st q S' st') : fX6_set F (lA N) (lA S) (nI st) (bI q) (nI a) (nI v) = some (nI (N (3 + a)), lA (upN N (3 + a) v), lA S', nI st', 0) := by
  unfold fX6_set
  have h5 : a ≤ 4 ∧ v ≤ 999 := by unfold setOK at h; omega
  rw [bd1_e (x6_isset h), if_pos (show ¬ nI 1 = 0 by decide +kernel), bd2_e sv, bd1_e (mset_s (by omega)), il_3, nI_add, nm_s, nI_l (by omega), nm_s, gd_lit (by omega), nI_clamp (by omega), vp1]
theorem x6_set_no {F : Nat} {m s : Nat → Int64} {st q a v : Int32} (h : ¬ setOKi a.toInt v.toInt) : fX6_set F m s st q a v = some (0, m, s, st, 1) := by
  unfold fX6_set
  rw [bd1_e (x6_isset_no h), if_neg (nn (show nI 0 = 0 from rfl))]
  rfl
theorem x1_chset {f : Nat → Int32} {k : Nat} {v : Int32} (h : k < 5) : fX1_changeSetting f (nI k) v = some (upd f k v) := by
  unfold fX1_changeSetting
  rw [if_neg (nI_pos (by omega)), il_5, if_neg (nI_ge h (by omega)), gd_nI h (by omega), nI_clamp (by omega)]
theorem rl_set {N : Nat → Nat} {set fac : Nat → Int32} {dce : Nat → Int64} {pm sm a v : Nat} {cel : Nat → Int64} {ben off : Nat → Int32} (h : setOK a v) (r : RelS N set fac dce pm sm cel ben off) : RelS (upN N (3 + a) v) (upd set a (nI v)) fac dce pm sm cel ben off := by
  have d := r.1
  have h5 : a ≤ 4 := by unfold setOK at h; omega
  refine rl_up (fun j hj => upN_n (by omega)) (by rw [upN_n (by omega)]; exact d.1.2.2.2.2) ?_ (by rw [upN_n (by omega)]; exact d.2.2.2.1.2) (fun k hk => ?_) r
  · have g := d.2.2.1
    unfold upN
    unfold setOK at h
    rcases h with ⟨rfl, h1, h2⟩ | ⟨rfl, h1⟩ | ⟨rfl, h1⟩ | ⟨rfl | rfl, h1⟩ <;> simp <;> omega
  · unfold upd upN
    by_cases e : k = a
    · rw [if_pos e, if_pos (by omega)]
    · rw [if_neg e, if_neg (by omega)]; exact r.2.2.1.1 k hk
/-! pilots -/
def piS (N : Nat → Nat) (s : Nat) (b : Bool) : Nat := if b = true then N 13 ||| 2 ^ s else sdf (N 13) (2 ^ s)
theorem pi_lt {N : Nat → Nat} (h : DW N) {s : Nat} (hs : s < 8) (b : Bool) : piS N s b < 256 := by
  unfold piS
  have h1 := h.2.2.2.1.2
  have h2 : 2 ^ s < 2 ^ 8 := Nat.pow_lt_pow_right (by decide) hs
  split
  · exact Nat.or_lt_two_pow (n := 8) h1 h2
  · exact sdf_lt (n := 8) _ h1
theorem x6_setpil {F : Nat} {N S S' : Nat → Nat} {st st' s : Nat} {q b : Bool} (hF : 1000 < F) (h : DW N) (hs : s < 8) (sv : SV F N S st q S' st') : fX6_setPilot F (lA N) (lA S) (nI st) (bI q) (nI s) (bI b) = some (nI (pcS (piS N s b)), lA (upN N 13 (piS N s b)), lA S', nI st', 0) := by
  unfold fX6_setPilot
  have i1 : fX6_in (nI s) 0 7 = some (nI 1) := in_y (b := 0) (c := 7) (by omega) (by omega) (by omega)
  have l := pi_lt h hs b
  have one : fX6_ones F (lN (piS N s b)) = some (nI (pcS (piS N s b))) := x6_ones (by omega) (Nat.lt_of_lt_of_le l (by decide))
  rw [bd1_e i1, if_pos (show ¬ nI 1 = 0 by decide +kernel), bd2_e sv, il_13, nI_clamp (by omega)]
  simp only [gd_lit (show 13 < 100 by omega), lA_at]
  rw [one_shl (by omega)]
  cases b
  · rw [if_pos (show bI false = 0 from rfl), lN_sdf, bd1_s, vp1, lA_at, upN_s]
    rw [bd1_e (show fX6_ones F (lN (sdf (N 13) (2 ^ s))) = _ from one)]
    rfl
  · rw [if_neg (show ¬ bI true = 0 by decide +kernel), fb_orL, bd1_s, vp1, lA_at, upN_s]
    rw [bd1_e (show fX6_ones F (lN (N 13 ||| 2 ^ s)) = _ from one)]
    rfl
theorem x6_setpil_no {F : Nat} {m s : Nat → Int64} {st q a b : Int32} (h : ¬ (0 ≤ a.toInt ∧ a.toInt ≤ 7)) : fX6_setPilot F m s st q a b = some (0, m, s, st, 1) := by
  unfold fX6_setPilot
  have i1 : fX6_in a 0 7 = some (nI 0) := in_no (b := 0) (c := 7) (by omega) (by omega) h
  rw [bd1_e i1, if_neg (nn (show nI 0 = 0 from rfl))]
  rfl
theorem nI_sdf8 : ∀ s, s < 8 → (nI (2 ^ s)) ^^^ (-1 : Int32) = nI (2 ^ s ^^^ 4294967295) := by decide +kernel
theorem x1_pil {N : Nat → Nat} (h : DW N) {s : Nat} (hs : s < 8) (b : Bool) : fX1_changePilot (nI (N 13)) (nI s) (bI b) = some (nI (piS N s b)) := by
  unfold fX1_changePilot
  have h1 := h.2.2.2.1.2
  rw [one_shlI s (by omega)]
  cases b
  · rw [if_pos (show bI false = 0 from rfl), bd1_s, nI_sdf8 s hs, fa_and]
    have : N 13 &&& (2 ^ s ^^^ 4294967295) = piS N s false := by
      apply Nat.eq_of_testBit_eq
      intro i
      unfold piS
      rw [if_neg (by decide), sdf_tb _ _ (show N 13 < 2 ^ 64 by omega), Nat.testBit_and, Nat.testBit_xor, show (4294967295 : Nat) = 2 ^ 32 - 1 from rfl, Nat.testBit_two_pow_sub_one]
      by_cases q : i < 32
      · simp [q]
      · rw [tb_big (show N 13 < 2 ^ 8 from h1) (by omega)]; simp
    rw [this]
  · rw [if_neg (show ¬ bI true = 0 by decide +kernel), bd1_s, fa_or]
    rfl
theorem rl_pil {N : Nat → Nat} {set fac : Nat → Int32} {dce : Nat → Int64} {pm sm s : Nat} {cel : Nat → Int64} {ben off : Nat → Int32} (hs : s < 8) (b : Bool) (r : RelS N set fac dce pm sm cel ben off) : RelS (upN N 13 (piS N s b)) set fac dce pm sm cel ben off := by
  have d := r.1
  refine rl_up (fun j hj => upN_n (by omega)) (by rw [upN_n (by omega)]; exact d.1.2.2.2.2) ?_ (by rw [upN_s]; exact pi_lt d hs b) (fun k hk => by rw [upN_n (by omega)]; exact r.2.2.1.1 k hk) r
  rw [upN_n (by omega), upN_n (by omega), upN_n (by omega), upN_n (by omega), upN_n (by omega)]
  exact d.2.2.1
