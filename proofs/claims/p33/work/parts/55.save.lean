/-- the saved rows behind a save -/
def svS (S : Nat → Nat) (st : Nat) (N : Nat → Nat) : Nat → Nat := fun j => if st = 4 then (if j < 300 then S (j + 100) else if j < 400 then N (j - 300) else S j) else if 100 * st ≤ j ∧ j < 100 * st + 100 then N (j - 100 * st) else S j
theorem x6_save {F : Nat} {N S : Nat → Nat} {st : Nat} (hF : 1000 < F) (hst : st ≤ 4) : fX6_save F (lA N) (lA S) (nI st) 0 = some (lA (svS S st N), nI (if st = 4 then 4 else st + 1)) := by
  unfold fX6_save
  rw [if_pos rfl]
  have fill : ∀ (T : Nat → Nat) (u : Nat), u ≤ 3 → lp (fX6_save_l58 (lA N) (nI u)) F (nI 0, lA T) = some (lA (fun j => if 100 * u ≤ j ∧ j < 100 * u + 100 then N (j - 100 * u) else T j)) := by
    intro T u hu
    refine lp_seqE (S := fun k => (nI k, lA (fun j => if 100 * u ≤ j ∧ j < 100 * u + k then N (j - 100 * u) else T j))) (by
      congr 1
      funext j
      show lN (T j) = lN (if 100 * u ≤ j ∧ j < 100 * u + 0 then N (j - 100 * u) else T j)
      rw [if_neg (by omega)]) (n := 100) (a := lA (fun j => if 100 * u ≤ j ∧ j < 100 * u + 100 then N (j - 100 * u) else T j)) (F := F) (fun k hk => ?_) ?_ (by omega)
    · show fX6_save_l58 (lA N) (nI u) (nI k, lA (fun j => if 100 * u ≤ j ∧ j < 100 * u + k then N (j - 100 * u) else T j)) = some (.inl (nI (k + 1), lA (fun j => if 100 * u ≤ j ∧ j < 100 * u + (k + 1) then N (j - 100 * u) else T j)))
      unfold fX6_save_l58
      rw [uc2_s, il_100, if_neg (nI_ge hk (by omega)), pk_mul, nm_s, nI_add, nm_s, gd_nI hk (by omega), nI_clamp (by omega), lA_at, nm_s, gd_nI (by omega) (by omega), nI_clamp (by omega), vp1, il_1, nI_add]
      congr 4
      funext j
      show (if j = 100 * u + k then N k else if 100 * u ≤ j ∧ j < 100 * u + k then N (j - 100 * u) else T j) = if 100 * u ≤ j ∧ j < 100 * u + (k + 1) then N (j - 100 * u) else T j
      by_cases q : j = 100 * u + k
      · rw [if_pos q, if_pos (by omega)]; congr 1; omega
      · rw [if_neg q]
        by_cases q2 : 100 * u ≤ j ∧ j < 100 * u + k
        · rw [if_pos q2, if_pos (by omega)]
        · rw [if_neg q2, if_neg (by omega)]
    · show fX6_save_l58 (lA N) (nI u) (nI 100, _) = _
      unfold fX6_save_l58
      rw [uc2_s, il_100, if_pos (nI_le (Nat.le_refl _) (by omega))]
  by_cases q : st = 4
  · subst q
    have sh : lp (fX6_save_l18) F (nI 0, lA S) = some (lA (fun j => if j < 300 then S (j + 100) else S j)) := by
      refine lp_seqE (S := fun k => (nI k, lA (fun j => if j < k then S (j + 100) else S j))) (by
        congr 1) (n := 300) (a := lA (fun j => if j < 300 then S (j + 100) else S j)) (F := F) (fun k hk => ?_) ?_ (by omega)
      · show fX6_save_l18 (nI k, lA (fun j => if j < k then S (j + 100) else S j)) = some (.inl (nI (k + 1), lA (fun j => if j < k + 1 then S (j + 100) else S j)))
        unfold fX6_save_l18
        rw [uc2_s, il_300, if_neg (nI_ge hk (by omega)), il_100, nI_add, nm_s, gd_nI (by omega) (by omega), nI_clamp (by omega), lA_at, nm_s, gd_nI (by omega) (by omega), nI_clamp (by omega), vp1, il_1, nI_add]
        congr 4
        funext j
        show (if j = k then (if k + 100 < k then S (k + 100 + 100) else S (k + 100)) else if j < k then S (j + 100) else S j) = if j < k + 1 then S (j + 100) else S j
        by_cases q : j = k
        · rw [if_pos q, if_neg (by omega), if_pos (by omega), q]
        · rw [if_neg q]
          by_cases q2 : j < k
          · rw [if_pos q2, if_pos (by omega)]
          · rw [if_neg q2, if_neg (by omega)]
      · show fX6_save_l18 (nI 300, _) = _
        unfold fX6_save_l18
        rw [uc2_s, il_300, if_pos (nI_le (Nat.le_refl _) (by omega))]
    rw [if_neg (nn (show nI 4 = 4 from rfl)), show ((0 : Int32), lA S) = (nI 0, lA S) from rfl, bd1_e sh, il_1, show nI 4 - nI 1 = nI 3 from nI_pred 3, nm_s, bd2_s, show (0 : Int32) = nI 0 from rfl, bd1_e (fill _ 3 (by omega)), nI_add, nm_s, if_pos rfl]
    congr 2
    apply congrArg
    funext j
    unfold svS
    rw [if_pos rfl]
    by_cases q : j < 300
    · rw [if_neg (by omega), if_pos q, if_pos q]
    · rw [if_neg q]
      by_cases q2 : j < 400
      · rw [if_pos (by omega), if_neg q, if_pos q2]
      · rw [if_neg (by omega), if_neg q, if_neg q2]
  · rw [if_pos (show ¬ nI st = 4 from fun z => q ((nI_eq (b := 4) (by omega) (by omega)).mp z)), bd2_s, show (0 : Int32) = nI 0 from rfl, bd1_e (fill _ st (by omega)), il_1, nI_add, nm_s, if_neg q]
    congr 2
    apply congrArg
    funext j
    unfold svS
    rw [if_neg q]
theorem x6_quiet (F : Nat) (a b : Nat → Int64) (st : Int32) : fX6_save F a b st 1 = some (b, st) := by
  unfold fX6_save
  rw [if_neg (show ¬ (1 : Int32) = 0 by decide +kernel)]
theorem x6_undo {F : Nat} {N S : Nat → Nat} {st : Nat} (hF : 1000 < F) (hst : st < 4) : fX6_undo F (lA N) (lA S) (nI (st + 1)) = some (nI st, lA (fun j => if j < 100 then S (100 * st + j) else N j), nI st, 0) := by
  unfold fX6_undo
  rw [if_pos (show ¬ nI (st + 1) = 0 from nI_ne0 (by omega) (by omega)), il_1, show nI (st + 1) - nI 1 = nI st from nI_pred st, nm_s]
  have L := lp_seqE (body := fX6_undo_l30 (lA S) (nI st)) (S := fun k => (nI k, lA (fun j => if j < k then S (100 * st + j) else N j))) (x0 := (nI 0, lA N)) (by congr 1) (n := 100) (a := lA (fun j => if j < 100 then S (100 * st + j) else N j)) (F := F) (fun k hk => by
      show fX6_undo_l30 (lA S) (nI st) (nI k, lA (fun j => if j < k then S (100 * st + j) else N j)) = some (.inl (nI (k + 1), lA (fun j => if j < k + 1 then S (100 * st + j) else N j)))
      unfold fX6_undo_l30
      rw [uc2_s, il_100, if_neg (nI_ge hk (by omega)), pk_mul, nm_s, nI_add, nm_s, gd_nI (by omega) (by omega), nI_clamp (by omega), lA_at, nm_s, gd_nI hk (by omega), nI_clamp (by omega), vp1, il_1, nI_add]
      congr 4
      funext j
      show (if j = k then S (100 * st + k) else if j < k then S (100 * st + j) else N j) = if j < k + 1 then S (100 * st + j) else N j
      by_cases q : j = k
      · rw [if_pos q, if_pos (by omega), q]
      · rw [if_neg q]
        by_cases q2 : j < k
        · rw [if_pos q2, if_pos (by omega)]
        · rw [if_neg q2, if_neg (by omega)]) (by
      show fX6_undo_l30 (lA S) (nI st) (nI 100, _) = _
      unfold fX6_undo_l30
      rw [uc2_s, il_100, if_pos (nI_le (Nat.le_refl _) (by omega))]) (by omega)
  rw [show ((0 : Int32), lA N) = (nI 0, lA N) from rfl, bd1_e L]
theorem x6_undo0 (F : Nat) (a b : Nat → Int64) : fX6_undo F a b (nI 0) = some (0, a, nI 0, 1) := by
  unfold fX6_undo
  rw [if_neg (nn (show nI 0 = 0 from rfl))]
  rfl
/-- part and link marks don't meet -/
def DJ (N : Nat → Nat) : Prop := N 14 &&& N 15 = 0
theorem DJ.tb {N : Nat → Nat} (h : DJ N) (i : Nat) : ((N 14).testBit i && (N 15).testBit i) = false := by
  rw [← Nat.testBit_and, h, Nat.zero_testBit]
theorem dj_of {N : Nat → Nat} (h : ∀ i, ((N 14).testBit i && (N 15).testBit i) = false) : DJ N := Nat.eq_of_testBit_eq fun i => by rw [Nat.testBit_and, h i, Nat.zero_testBit]
/-- model and class, die and press together -/
def RelS (N : Nat → Nat) (set fac : Nat → Int32) (dce : Nat → Int64) (pm sm : Nat) (cel : Nat → Int64) (ben off : Nat → Int32) : Prop := DW N ∧ PW N ∧ CD N set fac dce ∧ PC N pm sm cel ben off ∧ DJ N
/-- a save as the quiet flag has it -/
def SV (F : Nat) (N S : Nat → Nat) (st : Nat) (q : Bool) (S' : Nat → Nat) (st' : Nat) : Prop := fX6_save F (lA N) (lA S) (nI st) (bI q) = some (lA S', nI st')
theorem SV.loud {F : Nat} {N S : Nat → Nat} {st : Nat} (hF : 1000 < F) (hst : st ≤ 4) : SV F N S st false (svS S st N) (if st = 4 then 4 else st + 1) := x6_save hF hst
theorem SV.quiet (F : Nat) (N S : Nat → Nat) (st : Nat) : SV F N S st true S st := x6_quiet F (lA N) (lA S) (nI st)
/-! begin -/
def begN (N : Nat → Nat) (C R : Nat) : Nat → Nat := fun j => if j = 0 then C else if j = 1 then R else if j < 8 then N j else if j < 100 then 0 else N j
theorem x6_begin {F : Nat} {N S S' : Nat → Nat} {st st' C R : Nat} {q : Bool} (hF : 1000 < F) (hC : 2 ≤ C ∧ C ≤ 10) (hR : 2 ≤ R ∧ R ≤ 6) (sv : SV F N S st q S' st') : fX6_begin F (lA N) (lA S) (nI st) (bI q) (nI C) (nI R) = some (nI (N 8), lA (begN N C R), lA S', nI st', 0) := by
  unfold fX6_begin
  have i1 := in_s (a := C) (b := 2) (c := 10) (by omega) (by omega) (by omega)
  have i2 := in_s (a := R) (b := 2) (c := 6) (by omega) (by omega) (by omega)
  rw [show (2 : Int32) = nI 2 from rfl, show (10 : Int32) = nI 10 from rfl, show (6 : Int32) = nI 6 from rfl, bd1_e i1, if_pos hC, if_neg (show ¬ nI 1 = 0 by decide +kernel), bd1_e i2, if_pos hR, if_pos (show ¬ nI 1 = 0 by decide +kernel), bd2_e sv, bd1_e (many_8 N), nI_l (by omega), nm_s, il_0, gd_lit (by omega), nI_l (by omega), nm_s, il_1, gd_lit (by omega), nI_clamp (by omega), nI_clamp (by omega), vp1, vp1]
  have L := lp_seqE (body := fX6_begin_l62) (S := fun t => (nI (8 + t), lA (fun j => if j = 1 then R else if j = 0 then C else if 8 ≤ j ∧ j < 8 + t then 0 else N j))) (x0 := (nI 8, lA (upN (upN N 0 C) 1 R))) (by
      congr 1
      funext j
      show lN (if j = 1 then R else if j = 0 then C else N j) = lN (if j = 1 then R else if j = 0 then C else if 8 ≤ j ∧ j < 8 + 0 then 0 else N j)
      rw [if_neg (show ¬ (8 ≤ j ∧ j < 8 + 0) by omega)]) (n := 92) (a := lA (begN N C R)) (F := F) (fun t ht => by
      show fX6_begin_l62 (nI (8 + t), lA (fun j => if j = 1 then R else if j = 0 then C else if 8 ≤ j ∧ j < 8 + t then 0 else N j)) = some (.inl (nI (8 + (t + 1)), lA (fun j => if j = 1 then R else if j = 0 then C else if 8 ≤ j ∧ j < 8 + (t + 1) then 0 else N j)))
      unfold fX6_begin_l62
      rw [uc2_s, il_100, if_neg (nI_ge (by omega) (by omega)), gd_lit (by omega), nI_clamp (by omega), ll_0, vp1, il_1, nI_add]
      congr 4
      funext j
      show (if j = 8 + t then 0 else if j = 1 then R else if j = 0 then C else if 8 ≤ j ∧ j < 8 + t then 0 else N j) = if j = 1 then R else if j = 0 then C else if 8 ≤ j ∧ j < 8 + (t + 1) then 0 else N j
      by_cases q1 : j = 8 + t
      · rw [if_pos q1, if_neg (by omega), if_neg (by omega), if_pos (by omega)]
      · rw [if_neg q1]
        by_cases q2 : 8 ≤ j ∧ j < 8 + t
        · rw [if_pos q2, if_pos (show 8 ≤ j ∧ j < 8 + (t + 1) by omega)]
        · rw [if_neg q2, if_neg (show ¬ (8 ≤ j ∧ j < 8 + (t + 1)) by omega)]) (by
      show fX6_begin_l62 (nI (8 + 92), lA (fun j => if j = 1 then R else if j = 0 then C else if 8 ≤ j ∧ j < 8 + 92 then 0 else N j)) = _
      unfold fX6_begin_l62
      rw [uc2_s, il_100, if_pos (nI_le (by omega) (by omega))]
      congr 3
      funext j
      unfold begN
      by_cases q1 : j = 1
      · rw [if_pos q1, if_neg (by omega), if_pos q1]
      · rw [if_neg q1]
        by_cases q2 : j = 0
        · rw [if_pos q2, if_pos q2]
        · rw [if_neg q2, if_neg q2, if_neg q1]
          by_cases q3 : j < 8
          · rw [if_neg (by omega), if_pos q3]
          · rw [if_neg q3]
            by_cases q4 : j < 100
            · rw [if_pos (by omega), if_pos q4]
            · rw [if_neg (by omega), if_neg q4]) (by omega)
  rw [show (8 : Int32) = nI 8 from rfl, bd1_e L]
theorem rl_begin {N : Nat → Nat} {set fac : Nat → Int32} {dce : Nat → Int64} {pm sm C R : Nat} {cel : Nat → Int64} {ben off : Nat → Int32} (hC : 2 ≤ C ∧ C ≤ 10) (hR : 2 ≤ R ∧ R ≤ 6) (r : RelS N set fac dce pm sm cel ben off) : RelS (begN N C R) set fac dce 0 0 cel ben off := by
  obtain ⟨d, w, c, p, dj⟩ := r
  have z : ∀ j, 8 ≤ j → j < 100 → begN N C R j = 0 := fun j a b => by
    unfold begN
    rw [if_neg (by omega), if_neg (by omega), if_neg (by omega), if_pos b]
  have s : ∀ j, 2 ≤ j → j < 8 → begN N C R j = N j := fun j a b => by
    unfold begN
    rw [if_neg (by omega), if_neg (by omega), if_pos b]
  have e0 : begN N C R 0 = C := rfl
  have e1 : begN N C R 1 = R := rfl
  refine ⟨⟨?_, ?_, ?_, ?_, fun o ho => ?_⟩, fun s hs => ?_, ⟨fun k hk => ?_, fun o ho => ?_⟩, ⟨by omega, by omega, fun s q => by simp at q, fun s hs => ?_⟩, by unfold DJ; rw [z 14 (by omega) (by omega), z 15 (by omega) (by omega)]; rfl⟩
  · rw [e0, e1, s 2 (by omega) (by omega)]; exact ⟨hC.1, hC.2, hR.1, hR.2, d.1.2.2.2.2⟩
  · rw [z 14 (by omega) (by omega), z 15 (by omega) (by omega)]; exact ⟨Nat.two_pow_pos _, Nat.two_pow_pos _⟩
  · rw [s 3 (by omega) (by omega), s 4 (by omega) (by omega), s 5 (by omega) (by omega), s 6 (by omega) (by omega), s 7 (by omega) (by omega)]; exact d.2.2.1
  · rw [z 8 (by omega) (by omega), z 13 (by omega) (by omega)]; omega
  · rw [z 8 (by omega) (by omega)] at ho; omega
  · rw [z (60 + 5 * s + 0) (by omega) (by omega), z (60 + 5 * s + 1) (by omega) (by omega), z (60 + 5 * s + 2) (by omega) (by omega), z (60 + 5 * s + 3) (by omega) (by omega), z (60 + 5 * s + 4) (by omega) (by omega)]
    exact ⟨by omega, Nat.two_pow_pos _, by omega, by omega, by omega, fun _ i hi => z _ (by omega) (by omega)⟩
  · rw [s _ (by omega) (by omega)]; exact c.1 k hk
  · rw [z 8 (by omega) (by omega)] at ho; omega
  · rw [z _ (by omega) (by omega)]
    exact ⟨by simp, fun q => by omega⟩
