theorem sh1 {a b : Nat} (hb : b < 31) : nI a >>> (nI b &&& 31) &&& (1 : Int32) = if a.testBit b then nI 1 else nI 0 := by
  have hn : ∀ (n j : Nat), j < 32 → bt (nI n) j = n.testBit j := fun n j hj => by
    show (BitVec.ofNat 32 n).getLsbD j = _
    rw [BitVec.getLsbD_ofNat]; simp [hj]
  have h1b : ∀ i, i < 32 → bt (if a.testBit b then nI 1 else nI 0) i = (decide (i = 0) && a.testBit b) := fun i hi => by
    have h0 : bt (nI 0) i = false := by rw [hn _ _ hi]; simp
    have h1 : bt (nI 1) i = decide (i = 0) := by
      rw [hn _ _ hi, show (1 : Nat) = 2 ^ 0 from rfl, Nat.testBit_two_pow]
      simp only [eq_comm]
    cases q : a.testBit b with
    | false => simp [h0]
    | true => simp [h1]
  apply b_ext
  intro i hi
  rw [h1b i hi, b_and, b_sshr b (by omega) _ hi, show (1 : Int32) = nI 1 from rfl, hn 1 i hi]
  by_cases e : i = 0
  · subst e
    rw [if_pos (by omega), hn _ _ (by omega)]
    simp
  · have : Nat.testBit 1 i = false := by
      rw [show (1 : Nat) = 2 ^ 0 from rfl, Nat.testBit_two_pow]
      simp; omega
    rw [this]; simp [e]
def exB (p : Nat → Bool) : Nat → Bool
  | 0 => false
  | n + 1 => exB p n || p n
theorem exB_iff (p : Nat → Bool) : ∀ n, exB p n = true ↔ ∃ k, k < n ∧ p k = true
  | 0 => by simp [exB]
  | n + 1 => by
    rw [exB, Bool.or_eq_true, exB_iff p n]
    constructor
    · rintro (⟨k, h1, h2⟩ | h)
      · exact ⟨k, by omega, h2⟩
      · exact ⟨n, by omega, h⟩
    · rintro ⟨k, h1, h2⟩
      rcases Nat.lt_or_ge k n with q | q
      · exact Or.inl ⟨k, q, h2⟩
      · have e : k = n := by omega
        subst e; exact Or.inr h2
theorem exB_cong {p q : Nat → Bool} {n : Nat} (h : ∀ k, k < n → p k = q k) : exB p n = exB q n := by
  rw [Bool.eq_iff_iff, exB_iff, exB_iff]
  constructor
  · rintro ⟨k, h1, h2⟩; exact ⟨k, h1, by rw [← h k h1]; exact h2⟩
  · rintro ⟨k, h1, h2⟩; exact ⟨k, h1, by rw [h k h1]; exact h2⟩
/-- a loop over nI 0 .. that leaves at the first hit -/
theorem lp_find {A B : Type} {body : Int32 → Option (Int32 ⊕ (A ⊕ B))} (p : Nat → Bool) (n : Nat) {a : A} {b : B} (hs : ∀ j, j < n → p j = false → body (nI j) = some (.inl (nI (j + 1)))) (hh : ∀ j, j < n → p j = true → body (nI j) = some (.inr (.inl a))) (he : body (nI n) = some (.inr (.inr b))) {F : Nat} (hF : n < F) : lp body F (nI 0) = some (if exB p n = true then .inl a else .inr b) := by
  by_cases h : exB p n = true
  · rw [if_pos h]
    obtain ⟨m, h1, h2, h3⟩ := fb_first (p := fun k => p k = true) ((exB_iff p n).mp h)
    exact lp_seq (fun j => nI j) m (fun j hj => hs j (by omega) (Bool.eq_false_iff.mpr (h3 j hj))) (hh m h1 h2) (by omega)
  · rw [if_neg h]
    exact lp_seq (fun j => nI j) n (fun j hj => hs j hj (by
      cases q : p j with
      | false => rfl
      | true => exact absurd ((exB_iff p n).mpr ⟨j, hj, q⟩) h)) he hF
theorem bdS2_if {A B ρ : Type} {c : Prop} [Decidable c] {a : A} {b : B} {K1 : A → Option ρ} {K2 : B → Option ρ} {X : Option (A ⊕ B)} (h : X = some (if c then .inl a else .inr b)) : bdS2 X K1 K2 = if c then K1 a else K2 b := by
  rw [h]
  split <;> rfl
theorem op_lt {N : Nat → Nat} (h : DW N) {o : Nat} (ho : o < N 8) : opS N o < 2 ^ (N 0 * N 1) := by
  obtain ⟨⟨h1, h2, h3, h4, h5⟩, -, -, -, hop⟩ := h
  have q := hop o ho
  apply Nat.lt_pow_two_of_testBit
  intro i hi
  rw [opS, rcS, bs_tb, Bool.and_eq_false_iff]
  right
  rw [decide_eq_false_iff_not]
  rintro ⟨_, _, _, h6⟩
  have : N 1 ≤ i / N 0 := (Nat.le_div_iff_mul_le (by omega)).mpr (by rw [Nat.mul_comm]; exact hi)
  omega
theorem x6_op {F : Nat} {N : Nat → Nat} (hF : 100 < F) (h : DW N) {o : Nat} (ho : o < N 8) : fX6_cellsOf F (lA N) (nI o) = some (lN (opS N o)) := by
  obtain ⟨⟨h1, h2, h3, h4, h5⟩, -, -, h8, hop⟩ := h
  have q := hop o ho
  unfold fX6_cellsOf
  rw [il_1, bd1_e (ofOp_s (by omega)), il_2, bd1_e (ofOp_s (by omega)), il_3, bd1_e (ofOp_s (by omega)), il_4, bd1_e (ofOp_s (by omega)), bd1_e (x6_rect (C := N 0) (R := N 1) rfl hF h1 h2 h4 (by omega) (by omega))]
  rfl
def tkS (N : Nat → Nat) (k : Nat) : Nat := orS (fun o => if N (20 + 6 * o + 0) = k then opS N o else 0) (N 8)
theorem orS_lt (f : Nat → Nat) {m : Nat} : ∀ n, (∀ k, k < n → f k < 2 ^ m) → orS f n < 2 ^ m
  | 0, _ => Nat.two_pow_pos m
  | n + 1, h => Nat.or_lt_two_pow (orS_lt f n (fun k hk => h k (by omega))) (h n (by omega))
theorem tk_lt {N : Nat → Nat} (h : DW N) (k : Nat) : tkS N k < 2 ^ (N 0 * N 1) := orS_lt _ _ (fun o ho => by
  split
  · exact op_lt h ho
  · exact Nat.two_pow_pos _)
theorem x1_kind {F : Nat} {N : Nat → Nat} {set fac : Nat → Int32} {cel : Nat → Int64} (hF : 100 < F) (h : DW N) (c : CD N set fac cel) {k : Nat} (hk : k ≤ 1) : fX1_cellsOfKind F (nI (N 8)) fac cel (nI k) = some (lN (tkS N k)) := by
  obtain ⟨⟨h1, h2, h3, h4, h5⟩, -, -, h8, hop⟩ := h
  unfold fX1_cellsOfKind
  have L := lp_seqE (body := fX1_cellsOfKind_l5 (nI (N 8)) fac cel (nI k)) (S := fun j => (lN (orS (fun o => if N (20 + 6 * o + 0) = k then opS N o else 0) j), nI j)) (x0 := (lN 0, nI 0)) rfl (n := N 8) (a := lN (tkS N k)) (F := F) (fun o ho => by
      show fX1_cellsOfKind_l5 (nI (N 8)) fac cel (nI k) (lN (orS (fun o => if N (20 + 6 * o + 0) = k then opS N o else 0) o), nI o) = some (.inl (lN (_ ||| if N (20 + 6 * o + 0) = k then opS N o else 0), nI (o + 1)))
      unfold fX1_cellsOfKind_l5
      have q := hop o ho
      have e := (c.2 o ho).1 0 (by omega)
      have e2 := (c.2 o ho).2.2.2
      rw [uc2_s, if_neg (nI_ge ho (by omega)), il_0, bd1_e (fact_s (by omega)), e]
      by_cases q2 : N (20 + 6 * o + 0) = k
      · rw [if_neg (fun z => z ((nI_eq (by omega) (by omega)).mpr q2)), if_pos q2, bd1_e (cellsOf_s (by omega)), e2, fb_orL, nm_s, bd1_s, il_1, nI_add]
      · rw [if_pos (fun z => q2 ((nI_eq (by omega) (by omega)).mp z)), if_neg q2, bd1_s, il_1, nI_add, Nat.or_zero]) (by
      show fX1_cellsOfKind_l5 (nI (N 8)) fac cel (nI k) (lN (tkS N k), nI (N 8)) = _
      unfold fX1_cellsOfKind_l5
      rw [uc2_s, if_pos (nI_le (Nat.le_refl _) (by omega))]) (by omega)
  exact (bd1_e L).trans rfl
theorem x6_taken {F : Nat} {N : Nat → Nat} (hF : 100 < F) (h : DW N) {k : Nat} (hk : k ≤ 1) : fX6_takenBy F (lA N) (nI k) = some (lN (tkS N k)) := by
  have h8 := h.2.2.2.1.1
  have hop := h.2.2.2.2
  unfold fX6_takenBy
  have L := lp_seqE (body := fX6_takenBy_l5 F (lA N) (nI k)) (S := fun j => (lN (orS (fun o => if N (20 + 6 * o + 0) = k then opS N o else 0) j), nI j)) (x0 := (lN 0, nI 0)) rfl (n := N 8) (a := lN (tkS N k)) (F := F) (fun o ho => by
      show fX6_takenBy_l5 F (lA N) (nI k) (lN (orS (fun o => if N (20 + 6 * o + 0) = k then opS N o else 0) o), nI o) = some (.inl (lN (_ ||| if N (20 + 6 * o + 0) = k then opS N o else 0), nI (o + 1)))
      unfold fX6_takenBy_l5
      have q := hop o ho
      rw [uc2_s, bd1_e (many_8 N), if_neg (nI_ge ho (by omega)), il_0, bd1_e (ofOp_s (by omega))]
      by_cases q2 : N (20 + 6 * o + 0) = k
      · rw [if_neg (fun z => z ((nI_eq (by omega) (by omega)).mpr q2)), if_pos q2, bd1_e (x6_op hF h ho), bd1_s, fb_orL, nm_s, il_1, nI_add]
      · rw [if_pos (fun z => q2 ((nI_eq (by omega) (by omega)).mp z)), if_neg q2, bd1_s, ll_0, fb_orL, nm_s, il_1, nI_add]) (by
      show fX6_takenBy_l5 F (lA N) (nI k) (lN (tkS N k), nI (N 8)) = _
      unfold fX6_takenBy_l5
      rw [uc2_s, bd1_e (many_8 N), if_pos (nI_le (Nat.le_refl _) (by omega))]) (by omega)
  exact (bd1_e L).trans rfl
def stS (N : Nat → Nat) : Nat := sdf (waS N) (tkS N 0)
theorem st_lt (N : Nat → Nat) : stS N < 2 ^ (N 0 * N 1) := sdf_lt _ (ws_lt N)
theorem x1_forgot {F : Nat} {N : Nat → Nat} {set fac : Nat → Int32} {cel : Nat → Int64} (hF : 100 < F) (h : DW N) (c : CD N set fac cel) : fX1_forgottenCells F (nI (N 0)) (nI (N 1)) (nI (N 2)) (lN (N 14)) (lN (N 15)) (nI (N 8)) fac cel = some (lN (stS N)) := by
  unfold fX1_forgottenCells
  rw [bd1_e (x1_waste h), il_0, bd1_e (x1_kind hF h c (by omega)), lN_sdf]
  rfl
theorem x6_stand {F : Nat} {N : Nat → Nat} (hF : 100 < F) (h : DW N) : fX6_standing F (lA N) = some (lN (stS N)) := by
  unfold fX6_standing
  rw [bd1_e (x6_all hF h), bd1_e (x6_part hF h), bd1_e (x6_links hF h), bd1_e (x6_car hF h), il_0, bd1_e (x6_taken hF h (by omega)), lN_sdf, lN_sdf, lN_sdf, lN_sdf, ws_eq h]
  rfl
theorem nn {p : Prop} (h : p) : ¬ ¬ p := fun z => z h
def fdS (N : Nat → Nat) : Nat := if paS N = 0 then 1 else if ¬ tkS N 0 &&& (paS N ||| liS N) = 0 then 2 else if ¬ tkS N 0 &&& crS N = 0 then 3 else if ¬ sdf (tkS N 1) (paS N) = 0 then 4 else if ¬ stS N = 0 then 5 else if ¬ loS N = 0 then 6 else 0
theorem x1_fdie {F : Nat} {N : Nat → Nat} {set fac : Nat → Int32} {cel : Nat → Int64} (hF : 100 < F) (h : DW N) (c : CD N set fac cel) : fX1_faultOfDie F (nI (N 0)) (nI (N 1)) (nI (N 2)) (lN (N 14)) (lN (N 15)) (nI (N 8)) fac cel = some (nI (fdS N)) := by
  unfold fX1_faultOfDie fdS
  rw [bd1_e (x1_part h), il_0, bd1_e (x1_kind hF h c (by omega)), ll_0]
  by_cases q1 : paS N = 0
  · rw [if_pos q1, show ((nI 0) : Int32) = 0 from rfl, ifn0 (lt60 h (pa_lt h)) z60 q1]; rfl
  rw [if_neg q1, show ((nI 0) : Int32) = 0 from rfl, ifn1 (lt60 h (pa_lt h)) z60 q1, bd1_e (x1_link h), fb_orL, fb_andL]
  by_cases q2 : tkS N 0 &&& (paS N ||| liS N) = 0
  · rw [if_neg (nn q2), ifc0 (lt60 h (and_lt_l (tk_lt h 0))) z60 q2, bd1_e (x1_car h), fb_andL]
    by_cases q3 : tkS N 0 &&& crS N = 0
    · rw [if_neg (nn q3), ifc0 (lt60 h (and_lt_l (tk_lt h 0))) z60 q3, il_1, bd1_e (x1_kind hF h c (by omega)), lN_sdf]
      by_cases q4 : sdf (tkS N 1) (paS N) = 0
      · rw [if_neg (nn q4), ifc0 (lt60 h (sdf_lt _ (tk_lt h 1))) z60 q4, bd1_e (x1_forgot hF h c)]
        by_cases q5 : stS N = 0
        · rw [if_neg (nn q5), ifc0 (lt60 h (st_lt N)) z60 q5, bd1_e (x1_loose hF h)]
          by_cases q6 : loS N = 0
          · rw [if_neg (nn q6), ifc0 (lt60 h (lo_lt h)) z60 q6]; rfl
          · rw [if_pos q6, ifc1 (lt60 h (lo_lt h)) z60 q6]; rfl
        · rw [if_pos q5, ifc1 (lt60 h (st_lt N)) z60 q5]; rfl
      · rw [if_pos q4, ifc1 (lt60 h (sdf_lt _ (tk_lt h 1))) z60 q4]; rfl
    · rw [if_pos q3, ifc1 (lt60 h (and_lt_l (tk_lt h 0))) z60 q3]; rfl
  · rw [if_pos q2, ifc1 (lt60 h (and_lt_l (tk_lt h 0))) z60 q2]; rfl
theorem x6_fdie {F : Nat} {N : Nat → Nat} (hF : 100 < F) (h : DW N) : fX6_faultOfDie F (lA N) = some (nI (fdS N)) := by
  unfold fX6_faultOfDie fdS
  rw [bd1_e (x6_part hF h), ll_0]
  by_cases q1 : paS N = 0
  · rw [if_pos q1, ifn0 (lt60 h (pa_lt h)) z60 q1]; rfl
  have t0 : fX6_takenBy F (lA N) 0 = some (lN (tkS N 0)) := x6_taken (k := 0) hF h (by omega)
  have t1 : fX6_takenBy F (lA N) 1 = some (lN (tkS N 1)) := x6_taken (k := 1) hF h (by omega)
  rw [if_neg q1, ifn1 (lt60 h (pa_lt h)) z60 q1, bd1_e t0, bd1_e (x6_part hF h), bd1_e (x6_links hF h), fb_orL, fb_andL]
  by_cases q2 : tkS N 0 &&& (paS N ||| liS N) = 0
  · rw [if_neg (nn q2), ifc0 (lt60 h (and_lt_l (tk_lt h 0))) z60 q2, bd1_e t0, bd1_e (x6_car hF h), fb_andL]
    by_cases q3 : tkS N 0 &&& crS N = 0
    · rw [if_neg (nn q3), ifc0 (lt60 h (and_lt_l (tk_lt h 0))) z60 q3, bd1_e t1, bd1_e (x6_part hF h), lN_sdf]
      by_cases q4 : sdf (tkS N 1) (paS N) = 0
      · rw [if_neg (nn q4), ifc0 (lt60 h (sdf_lt _ (tk_lt h 1))) z60 q4, bd1_e (x6_stand hF h)]
        by_cases q5 : stS N = 0
        · rw [if_neg (nn q5), ifc0 (lt60 h (st_lt N)) z60 q5, bd1_e (x6_loose hF h)]
          by_cases q6 : loS N = 0
          · rw [if_neg (nn q6), ifc0 (lt60 h (lo_lt h)) z60 q6]; rfl
          · rw [if_pos q6, ifc1 (lt60 h (lo_lt h)) z60 q6]; rfl
        · rw [if_pos q5, ifc1 (lt60 h (st_lt N)) z60 q5]; rfl
      · rw [if_pos q4, ifc1 (lt60 h (sdf_lt _ (tk_lt h 1))) z60 q4]; rfl
    · rw [if_pos q3, ifc1 (lt60 h (and_lt_l (tk_lt h 0))) z60 q3]; rfl
  · rw [if_pos q2, ifc1 (lt60 h (and_lt_l (tk_lt h 0))) z60 q2]; rfl
def scS (N : Nat → Nat) (tw : Bool) : Nat := 1000 * (N 0 * N 1 - (if tw && fiS N then 2 * pcS (paS N) else pcS (paS N))) / (N 0 * N 1)
