def stOK (x : Nat) : Prop := x < 8 ∨ x = 18446744073709551615
def sp (x : Nat) : Nat := if x < 8 then x + 1 else 0
def eN (p : Nat) : Int32 := nI p - nI 1
theorem eN_0 : (-1 : Int32) = eN 0 := by decide +kernel
theorem eN_s (p : Nat) : nI p = eN (p + 1) := (nI_pred p).symm
theorem eN_up (p : Nat) : eN p + 1 = nI p := by
  unfold eN
  rw [il_1]
  exact Int32.sub_add_cancel _ _
theorem st_e {x : Nat} (h : stOK x) : nI x = eN (sp x) := by
  rcases h with h | h
  · rw [sp, if_pos h, ← eN_s]
  · rw [h, nI_none, sp, if_neg (by omega)]
    decide +kernel
theorem sp_le (x : Nat) : sp x ≤ 8 := by unfold sp; split <;> omega
theorem eN_int {p : Nat} (h : p < 2 ^ 30) : (eN p).toInt = (p : Int) - 1 := pk_sub_toInt h (by omega)
theorem eN_eq {p q : Nat} (hp : p < 2 ^ 30) (hq : q < 2 ^ 30) : eN p = eN q ↔ p = q := by
  rw [fa_eq, eN_int hp, eN_int hq]; omega
theorem eN_le {p q : Nat} (hp : p < 2 ^ 30) (hq : q < 2 ^ 30) : eN p ≤ eN q ↔ p ≤ q := by
  rw [fa_le, eN_int hp, eN_int hq]; omega
theorem eN_lt {p q : Nat} (hp : p < 2 ^ 30) (hq : q < 2 ^ 30) : eN p < eN q ↔ p < q := by
  rw [fa_lt, eN_int hp, eN_int hq]; omega
def spN (N : Nat → Nat) (o : Nat) : Nat := sp (N (20 + 6 * o + 5))
theorem spN_le (N : Nat → Nat) (o : Nat) : spN N o ≤ 8 := sp_le _
theorem st_N {N : Nat → Nat} (h : DW N) {o : Nat} (ho : o < N 8) : nI (N (20 + 6 * o + 5)) = eN (spN N o) := st_e (h.2.2.2.2 o ho).2.2.2.2.2
theorem fac_st {N : Nat → Nat} {set fac : Nat → Int32} {cel : Nat → Int64} (h : DW N) (c : CD N set fac cel) {o : Nat} (ho : o < N 8) : fX1_fact fac (nI o) 6 = some (eN (spN N o)) := by
  have h8 := h.2.2.2.1.1
  have e := fact_s (f := fac) (o := o) (j := 6) (by omega)
  rw [(c.2 o ho).2.2.1, st_N h ho] at e
  exact e
theorem fac_fo {N : Nat → Nat} {set fac : Nat → Int32} {cel : Nat → Int64} (h : DW N) (c : CD N set fac cel) {o : Nat} (ho : o < N 8) : fX1_fact fac (nI o) 5 = some (nI (foS N o)) := by
  have h8 := h.2.2.2.1.1
  have e := fact_s (f := fac) (o := o) (j := 5) (by omega)
  rw [(c.2 o ho).2.1] at e
  exact e
theorem fac_k {N : Nat → Nat} {set fac : Nat → Int32} {cel : Nat → Int64} (h : DW N) (c : CD N set fac cel) {o : Nat} (ho : o < N 8) : fX1_fact fac (nI o) 0 = some (nI (N (20 + 6 * o + 0))) := by
  have h8 := h.2.2.2.1.1
  have e := fact_s (f := fac) (o := o) (j := 0) (by omega)
  rw [(c.2 o ho).1 0 (by omega)] at e
  exact e
theorem m_st {N : Nat → Nat} (h : DW N) {o : Nat} (ho : o < N 8) : fX6_ofOp (lA N) (nI o) 5 = some (eN (spN N o)) := by
  have h8 := h.2.2.2.1.1
  have e := ofOp_s (N := N) (o := o) (j := 5) (by omega)
  rw [st_N h ho] at e
  exact e
theorem m_k {N : Nat → Nat} (h : DW N) {o : Nat} (ho : o < N 8) : fX6_ofOp (lA N) (nI o) 0 = some (nI (N (20 + 6 * o + 0))) := by
  have h8 := h.2.2.2.1.1
  exact ofOp_s (N := N) (o := o) (j := 0) (by omega)
theorem m_fo {N : Nat → Nat} (h : DW N) {o : Nat} (ho : o < N 8) : fX6_force (lA N) (nI o) = some (nI (foS N o)) := by
  have h8 := h.2.2.2.1.1
  have q := h.2.2.2.2 o ho
  unfold fX6_force foS
  rw [bd1_e (m_k h ho)]
  by_cases e : N (20 + 6 * o + 0) = 0
  · rw [if_neg (nn (show nI (N (20 + 6 * o + 0)) = 0 from by rw [e]; rfl)), if_pos e, il_3, bd1_e (ofOp_s (by omega)), il_4, bd1_e (ofOp_s (by omega)), il_2, nI_add, pk_mul]
  · rw [if_pos (show ¬ nI (N (20 + 6 * o + 0)) = 0 from nI_ne0 (by omega) (by omega)), if_neg e, il_3, bd1_e (ofOp_s (by omega))]
theorem fo_le {N : Nat → Nat} (h : DW N) {o : Nat} (ho : o < N 8) : 1 ≤ foS N o ∧ foS N o ≤ 32 := by
  have q := h.2.2.2.2 o ho
  have := h.1
  unfold foS
  split <;> omega
def psS (N : Nat → Nat) : Nat → Nat
  | 0 => 0
  | j + 1 => if psS N j < spN N j then spN N j else psS N j
theorem ps_le (N : Nat → Nat) : ∀ j, psS N j ≤ 8
  | 0 => Nat.zero_le _
  | j + 1 => by
    have := ps_le N j
    have := spN_le N j
    rw [psS]
    split <;> omega
theorem x1_ps {F : Nat} {N : Nat → Nat} {set fac : Nat → Int32} {cel : Nat → Int64} (hF : 100 < F) (h : DW N) (c : CD N set fac cel) : fX1_planStations F (nI (N 8)) fac = some (nI (psS N (N 8))) := by
  have h8 := h.2.2.2.1.1
  unfold fX1_planStations
  have L := lp_seqE (body := fX1_planStations_l4 (nI (N 8)) fac) (S := fun j => (eN (psS N j), nI j)) (x0 := ((-1 : Int32), nI 0)) (by rw [eN_0]; rfl) (n := N 8) (a := eN (psS N (N 8))) (F := F) (fun o ho => by
      show fX1_planStations_l4 (nI (N 8)) fac (eN (psS N o), nI o) = some (.inl (eN (if psS N o < spN N o then spN N o else psS N o), nI (o + 1)))
      unfold fX1_planStations_l4
      have a1 := ps_le N o
      have a2 := spN_le N o
      rw [uc2_s, if_neg (nI_ge ho (by omega)), bd1_e (fac_st h c ho), nm_s, il_1, nI_add]
      by_cases q : psS N o < spN N o
      · rw [if_pos q, if_pos ((eN_lt (by omega) (by omega)).mpr q)]
      · rw [if_neg q, if_neg (fun z => q ((eN_lt (by omega) (by omega)).mp z))]) (by
      show fX1_planStations_l4 (nI (N 8)) fac (eN (psS N (N 8)), nI (N 8)) = _
      unfold fX1_planStations_l4
      rw [uc2_s, if_pos (nI_le (Nat.le_refl _) (by omega))]) (by omega)
  refine (bd1_e L).trans ?_
  rw [eN_up]
theorem x6_ps {F : Nat} {N : Nat → Nat} (hF : 100 < F) (h : DW N) : fX6_stations F (lA N) = some (nI (psS N (N 8))) := by
  have h8 := h.2.2.2.1.1
  unfold fX6_stations
  have L := lp_seqE (body := fX6_stations_l4 (lA N)) (S := fun j => (eN (psS N j), nI j)) (x0 := ((-1 : Int32), nI 0)) (by rw [eN_0]; rfl) (n := N 8) (a := eN (psS N (N 8))) (F := F) (fun o ho => by
      show fX6_stations_l4 (lA N) (eN (psS N o), nI o) = some (.inl (eN (if psS N o < spN N o then spN N o else psS N o), nI (o + 1)))
      unfold fX6_stations_l4
      have a1 := ps_le N o
      have a2 := spN_le N o
      rw [uc2_s, bd1_e (many_8 N), if_neg (nI_ge ho (by omega)), bd1_e (m_st h ho), il_1, nI_add]
      by_cases q : psS N o < spN N o
      · rw [if_pos q, if_neg (fun z => absurd ((eN_le (by omega) (by omega)).mp z) (by omega)), bd1_e (m_st h ho), bd1_s]
      · rw [if_neg q, if_pos ((eN_le (by omega) (by omega)).mpr (by omega)), bd1_s]) (by
      show fX6_stations_l4 (lA N) (eN (psS N (N 8)), nI (N 8)) = _
      unfold fX6_stations_l4
      rw [uc2_s, bd1_e (many_8 N), if_pos (nI_le (Nat.le_refl _) (by omega))]) (by omega)
  refine (bd1_e L).trans ?_
  rw [eN_up]
theorem orb_tb (c : Nat → Bool) (n k : Nat) : (orS (fun k => if c k = true then 2 ^ k else 0) n).testBit k = (decide (k < n) && c k) := by
  rw [Bool.eq_iff_iff, orS_tb, Bool.and_eq_true, decide_eq_true_eq]
  constructor
  · rintro ⟨b, h1, h2⟩
    split at h2
    · next q =>
      rw [Nat.testBit_two_pow, decide_eq_true_eq] at h2
      subst h2; exact ⟨h1, q⟩
    · simp at h2
  · rintro ⟨h1, h2⟩
    exact ⟨k, h1, by rw [if_pos h2, Nat.testBit_two_pow]; simp⟩
theorem orb_lt (c : Nat → Bool) (n : Nat) : orS (fun k => if c k = true then 2 ^ k else 0) n < 2 ^ n := by
  apply Nat.lt_pow_two_of_testBit
  intro i hi
  rw [orb_tb, decide_eq_false (by omega)]; rfl
def oaS (N : Nat → Nat) (p : Nat) : Nat := orS (fun k => if decide (spN N k = p) = true then 2 ^ k else 0) (N 8)
theorem pow6 {n x : Nat} (hn : n ≤ 6) (h : x < 2 ^ n) : x < 64 := Nat.lt_of_lt_of_le h (Nat.pow_le_pow_right (by decide) hn)
theorem oa_lt {N : Nat → Nat} (h : DW N) (p : Nat) : oaS N p < 64 := pow6 h.2.2.2.1.1 (orb_lt _ _)
theorem x1_oa {F : Nat} {N : Nat → Nat} {set fac : Nat → Int32} {cel : Nat → Int64} (hF : 100 < F) (h : DW N) (c : CD N set fac cel) {p : Nat} (hp : p ≤ 9) : fX1_operationsAt F (nI (N 8)) fac (eN p) = some (nI (oaS N p)) := by
  have h8 := h.2.2.2.1.1
  unfold fX1_operationsAt
  have L := lp_seqE (body := fX1_operationsAt_l4 (nI (N 8)) fac (eN p)) (S := fun j => (nI (orS (fun k => if decide (spN N k = p) = true then 2 ^ k else 0) j), nI j)) (x0 := (nI 0, nI 0)) rfl (n := N 8) (a := nI (oaS N p)) (F := F) (fun o ho => by
      show fX1_operationsAt_l4 (nI (N 8)) fac (eN p) (nI (orS (fun k => if decide (spN N k = p) = true then 2 ^ k else 0) o), nI o) = some (.inl (nI (_ ||| if decide (spN N o = p) = true then 2 ^ o else 0), nI (o + 1)))
      unfold fX1_operationsAt_l4
      have a2 := spN_le N o
      rw [uc2_s, if_neg (nI_ge ho (by omega)), bd1_e (fac_st h c ho), il_1, nI_add]
      by_cases q : spN N o = p
      · rw [if_neg (nn ((eN_eq (by omega) (by omega)).mpr q)), if_pos (decide_eq_true q), show nI 1 <<< (nI o &&& 31) = nI (2 ^ o) from one_shlI o (by omega), fa_or, nm_s, bd1_s]
      · rw [if_pos (show ¬ eN (spN N o) = eN p from fun z => q ((eN_eq (by omega) (by omega)).mp z)), if_neg (show ¬ decide (spN N o = p) = true from fun z => q (of_decide_eq_true z)), bd1_s, Nat.or_zero]) (by
      show fX1_operationsAt_l4 (nI (N 8)) fac (eN p) (nI (oaS N p), nI (N 8)) = _
      unfold fX1_operationsAt_l4
      rw [uc2_s, if_pos (nI_le (Nat.le_refl _) (by omega))]) (by omega)
  exact (bd1_e L).trans rfl
theorem x6_oa {F : Nat} {N : Nat → Nat} (hF : 100 < F) (h : DW N) {p : Nat} (hp : p ≤ 9) : fX6_opsAt F (lA N) (eN p) = some (nI (oaS N p)) := by
  have h8 := h.2.2.2.1.1
  unfold fX6_opsAt
  have L := lp_seqE (body := fX6_opsAt_l4 (lA N) (eN p)) (S := fun j => (nI (orS (fun k => if decide (spN N k = p) = true then 2 ^ k else 0) j), nI j)) (x0 := (nI 0, nI 0)) rfl (n := N 8) (a := nI (oaS N p)) (F := F) (fun o ho => by
      show fX6_opsAt_l4 (lA N) (eN p) (nI (orS (fun k => if decide (spN N k = p) = true then 2 ^ k else 0) o), nI o) = some (.inl (nI (_ ||| if decide (spN N o = p) = true then 2 ^ o else 0), nI (o + 1)))
      unfold fX6_opsAt_l4
      have a2 := spN_le N o
      rw [uc2_s, bd1_e (many_8 N), if_neg (nI_ge ho (by omega)), bd1_e (m_st h ho), il_1, nI_add]
      by_cases q : spN N o = p
      · rw [if_neg (nn ((eN_eq (by omega) (by omega)).mpr q)), if_pos (decide_eq_true q)]
        rw [show nI 1 <<< (nI o &&& 31) = nI (2 ^ o) from one_shlI o (by omega), bd1_s, fa_or, nm_s]
      · rw [if_pos (show ¬ eN (spN N o) = eN p from fun z => q ((eN_eq (by omega) (by omega)).mp z)), if_neg (show ¬ decide (spN N o = p) = true from fun z => q (of_decide_eq_true z)), bd1_s, il_0, fa_or, nm_s]) (by
      show fX6_opsAt_l4 (lA N) (eN p) (nI (oaS N p), nI (N 8)) = _
      unfold fX6_opsAt_l4
      rw [uc2_s, bd1_e (many_8 N), if_pos (nI_le (Nat.le_refl _) (by omega))]) (by omega)
  exact (bd1_e L).trans rfl
def fsS (N : Nat → Nat) (p : Nat) : Nat := fb_sm (fun o => if spN N o = p then foS N o else 0) (N 8)
theorem fs_le {N : Nat → Nat} (h : DW N) (p : Nat) : fsS N p ≤ 192 := by
  have h8 := h.2.2.2.1.1
  have := fb_sm_bound (f := fun o => if spN N o = p then foS N o else 0) (c := 32) (n := N 8) (fun k hk => by
    have := fo_le h hk
    show (if spN N k = p then foS N k else 0) ≤ 32
    split <;> omega)
  unfold fsS
  omega
theorem x1_fa {F : Nat} {N : Nat → Nat} {set fac : Nat → Int32} {cel : Nat → Int64} (hF : 100 < F) (h : DW N) (c : CD N set fac cel) {p : Nat} (hp : p ≤ 9) : fX1_forceAt F (nI (N 8)) fac (eN p) = some (nI (fsS N p)) := by
  have h8 := h.2.2.2.1.1
  unfold fX1_forceAt
  have L := lp_seqE (body := fX1_forceAt_l4 (nI (N 8)) fac (eN p)) (S := fun j => (nI (fb_sm (fun o => if spN N o = p then foS N o else 0) j), nI j)) (x0 := (nI 0, nI 0)) rfl (n := N 8) (a := nI (fsS N p)) (F := F) (fun o ho => by
      show fX1_forceAt_l4 (nI (N 8)) fac (eN p) (nI (fb_sm (fun o => if spN N o = p then foS N o else 0) o), nI o) = some (.inl (nI (_ + if spN N o = p then foS N o else 0), nI (o + 1)))
      unfold fX1_forceAt_l4
      have a2 := spN_le N o
      rw [uc2_s, if_neg (nI_ge ho (by omega)), bd1_e (fac_st h c ho), il_1, nI_add]
      by_cases q : spN N o = p
      · rw [if_neg (nn ((eN_eq (by omega) (by omega)).mpr q)), if_pos q, bd1_e (fac_fo h c ho), nI_add, nm_s, bd1_s]
      · rw [if_pos (show ¬ eN (spN N o) = eN p from fun z => q ((eN_eq (by omega) (by omega)).mp z)), if_neg q, bd1_s]
        rfl) (by
      show fX1_forceAt_l4 (nI (N 8)) fac (eN p) (nI (fsS N p), nI (N 8)) = _
      unfold fX1_forceAt_l4
      rw [uc2_s, if_pos (nI_le (Nat.le_refl _) (by omega))]) (by omega)
  exact (bd1_e L).trans rfl
theorem x6_fs {F : Nat} {N : Nat → Nat} (hF : 100 < F) (h : DW N) {p : Nat} : fX6_forces F (lA N) (nI (oaS N p)) = some (nI (fsS N p)) := by
  have h8 := h.2.2.2.1.1
  unfold fX6_forces
  have L := lp_seqE (body := fX6_forces_l4 (lA N) (nI (oaS N p))) (S := fun j => (nI (fb_sm (fun o => if spN N o = p then foS N o else 0) j), nI j)) (x0 := (nI 0, nI 0)) rfl (n := N 8) (a := nI (fsS N p)) (F := F) (fun o ho => by
      show fX6_forces_l4 (lA N) (nI (oaS N p)) (nI (fb_sm (fun o => if spN N o = p then foS N o else 0) o), nI o) = some (.inl (nI (_ + if spN N o = p then foS N o else 0), nI (o + 1)))
      unfold fX6_forces_l4
      have a2 := spN_le N o
      rw [uc2_s, bd1_e (many_8 N), if_neg (nI_ge ho (by omega)), sh1 (by omega), oaS, orb_tb, decide_eq_true ho, Bool.true_and, il_1, nI_add]
      by_cases q : spN N o = p
      · rw [if_pos (decide_eq_true q), if_neg (nn rfl), if_pos q, bd1_e (m_fo h ho), bd1_s, nI_add, nm_s]
      · rw [if_neg (show ¬ decide (spN N o = p) = true from fun z => q (of_decide_eq_true z)), if_pos (show ¬ nI 0 = nI 1 from by decide +kernel), if_neg q, bd1_s, il_0, nI_add, nm_s]) (by
      show fX6_forces_l4 (lA N) (nI (oaS N p)) (nI (fsS N p), nI (N 8)) = _
      unfold fX6_forces_l4
      rw [uc2_s, bd1_e (many_8 N), if_pos (nI_le (Nat.le_refl _) (by omega))]) (by omega)
  exact (bd1_e L).trans rfl
def tcB (N : Nat → Nat) (o k : Nat) : Bool := decide (k ≠ o) && decide ((opS N o ||| nbS N (opS N o)) &&& opS N k ≠ 0)
def tcS (N : Nat → Nat) (o : Nat) : Nat := orS (fun k => if tcB N o k = true then 2 ^ k else 0) (N 8)
theorem tc_lt {N : Nat → Nat} (h : DW N) (o : Nat) : tcS N o < 64 := pow6 h.2.2.2.1.1 (orb_lt _ _)
theorem tc_tb (N : Nat → Nat) (o k : Nat) : (tcS N o).testBit k = (decide (k < N 8) && tcB N o k) := orb_tb _ _ _
theorem x1_tc {F : Nat} {N : Nat → Nat} {set fac : Nat → Int32} {cel : Nat → Int64} (hF : 100 < F) (h : DW N) (c : CD N set fac cel) {o : Nat} (ho : o < N 8) : fX1_touching F (nI (N 0)) (nI (N 1)) (nI (N 8)) cel (nI o) = some (nI (tcS N o)) := by
  have h8 := h.2.2.2.1.1
  have e : ∀ k, k < N 8 → fX1_cellsOf cel (nI k) = some (lN (opS N k)) := fun k hk => by
    rw [cellsOf_s (by omega), (c.2 k hk).2.2.2]
  unfold fX1_touching
  rw [bd1_e (e o ho), bd1_e (e o ho), bd1_e (x1_nb hF h (op_lt h ho)), fb_orL, nm_s]
  have hl : ∀ k, k < N 8 → (opS N o ||| nbS N (opS N o)) &&& opS N k < 2 ^ 60 := fun k hk => lt60 h (Nat.and_lt_two_pow _ (op_lt h hk))
  have L := lp_seqE (body := fX1_touching_l22 (nI (N 8)) cel (nI o) (lN (opS N o ||| nbS N (opS N o)))) (S := fun j => (nI (orS (fun k => if tcB N o k = true then 2 ^ k else 0) j), nI j)) (x0 := (nI 0, nI 0)) rfl (n := N 8) (a := nI (tcS N o)) (F := F) (fun k hk => by
      show fX1_touching_l22 (nI (N 8)) cel (nI o) (lN (opS N o ||| nbS N (opS N o))) (nI (orS (fun k => if tcB N o k = true then 2 ^ k else 0) k), nI k) = some (.inl (nI (_ ||| if tcB N o k = true then 2 ^ k else 0), nI (k + 1)))
      unfold fX1_touching_l22
      rw [uc2_s, if_neg (nI_ge hk (by omega)), il_1, nI_add]
      by_cases q : k = o
      · subst q
        rw [if_pos rfl, if_neg (show ¬ tcB N k k = true from by simp [tcB]), bd1_s, Nat.or_zero]
      · rw [if_neg (fun z => q ((nI_eq (by omega) (by omega)).mp z)), bd1_e (e k hk), fb_andL, ll_0]
        by_cases q2 : (opS N o ||| nbS N (opS N o)) &&& opS N k = 0
        · rw [ifc0 (hl k hk) z60 q2, if_neg (show ¬ tcB N o k = true from by simp [tcB, q2]), bd1_s, Nat.or_zero]
        · rw [ifc1 (hl k hk) z60 q2, if_pos (show tcB N o k = true from by simp [tcB, q, q2]), show nI 1 <<< (nI k &&& 31) = nI (2 ^ k) from one_shlI k (by omega), fa_or, nm_s, bd1_s]) (by
      show fX1_touching_l22 (nI (N 8)) cel (nI o) (lN (opS N o ||| nbS N (opS N o))) (nI (tcS N o), nI (N 8)) = _
      unfold fX1_touching_l22
      rw [uc2_s, if_pos (nI_le (Nat.le_refl _) (by omega))]) (by omega)
  exact (bd1_e L).trans rfl
theorem x6_tc {F : Nat} {N : Nat → Nat} (hF : 100 < F) (h : DW N) {o : Nat} (ho : o < N 8) : fX6_touches F (lA N) (nI o) = some (nI (tcS N o)) := by
  have h8 := h.2.2.2.1.1
  unfold fX6_touches
  rw [bd1_e (x6_op hF h ho), bd1_e (x6_grow hF h (op_lt h ho))]
  have hl : ∀ k, k < N 8 → (opS N o ||| nbS N (opS N o)) &&& opS N k < 2 ^ 60 := fun k hk => lt60 h (Nat.and_lt_two_pow _ (op_lt h hk))
  have L := lp_seqE (body := fX6_touches_l16 F (lA N) (nI o) (lN (opS N o ||| nbS N (opS N o)))) (S := fun j => (nI (orS (fun k => if tcB N o k = true then 2 ^ k else 0) j), nI j)) (x0 := (nI 0, nI 0)) rfl (n := N 8) (a := nI (tcS N o)) (F := F) (fun k hk => by
      show fX6_touches_l16 F (lA N) (nI o) (lN (opS N o ||| nbS N (opS N o))) (nI (orS (fun k => if tcB N o k = true then 2 ^ k else 0) k), nI k) = some (.inl (nI (_ ||| if tcB N o k = true then 2 ^ k else 0), nI (k + 1)))
      unfold fX6_touches_l16
      rw [uc2_s, bd1_e (many_8 N), if_neg (nI_ge hk (by omega)), il_1, nI_add]
      by_cases q : k = o
      · subst q
        rw [if_pos rfl, if_neg (show ¬ tcB N k k = true from by simp [tcB]), bd1_s, il_0, fa_or, nm_s]
      · rw [if_neg (fun z => q ((nI_eq (by omega) (by omega)).mp z)), bd1_e (x6_op hF h hk), fb_andL, ll_0]
        by_cases q2 : (opS N o ||| nbS N (opS N o)) &&& opS N k = 0
        · rw [ifc0 (hl k hk) z60 q2, if_neg (show ¬ tcB N o k = true from by simp [tcB, q2]), bd1_s, il_0, fa_or, nm_s]
        · rw [ifc1 (hl k hk) z60 q2, if_pos (show tcB N o k = true from by simp [tcB, q, q2]), show nI 1 <<< (nI k &&& 31) = nI (2 ^ k) from one_shlI k (by omega), bd1_s, fa_or, nm_s]) (by
      show fX6_touches_l16 F (lA N) (nI o) (lN (opS N o ||| nbS N (opS N o))) (nI (tcS N o), nI (N 8)) = _
      unfold fX6_touches_l16
      rw [uc2_s, bd1_e (many_8 N), if_pos (nI_le (Nat.le_refl _) (by omega))]) (by omega)
  exact (bd1_e L).trans rfl
theorem meet {A B : Nat} : A &&& B ≠ 0 ↔ ∃ i, A.testBit i = true ∧ B.testBit i = true := by
  constructor
  · intro h
    obtain ⟨i, hi⟩ := Nat.exists_testBit_of_ne_zero h
    rw [Nat.testBit_and, Bool.and_eq_true] at hi
    exact ⟨i, hi⟩
  · rintro ⟨i, h1, h2⟩ e
    have : (A &&& B).testBit i = true := by rw [Nat.testBit_and, h1, h2]; rfl
    rw [e] at this
    simp at this
theorem near_sym {N : Nat → Nat} (h : DW N) {A B : Nat} (hA : A < 2 ^ (N 0 * N 1)) (hB : B < 2 ^ (N 0 * N 1)) (q : (A ||| nbS N A) &&& B ≠ 0) : (B ||| nbS N B) &&& A ≠ 0 := by
  obtain ⟨⟨h1, h2, h3, h4, h5⟩, -⟩ := h
  obtain ⟨i, q1, q2⟩ := meet.mp q
  rw [Nat.testBit_or, Bool.or_eq_true] at q1
  refine meet.mpr ?_
  have hi := tb_of hB q2
  have m := mod_up (i := i) h1 h2
  rcases q1 with q1 | q1
  · exact ⟨i, by rw [Nat.testBit_or, q2, Bool.true_or], q1⟩
  · rw [nb_tb] at q1
    simp only [Bool.or_eq_true, Bool.and_eq_true, decide_eq_true_eq] at q1
    obtain ⟨-, ((⟨a1, a2⟩ | ⟨a1, a2⟩) | ⟨a1, a2⟩) | a2⟩ := q1
    · refine ⟨i - 1, ?_, a2⟩
      rw [Nat.testBit_or, nb_tb]
      simp only [Bool.or_eq_true, Bool.and_eq_true, decide_eq_true_eq]
      have hi1 : 1 ≤ i := by
        rcases Nat.eq_zero_or_pos i with z | z
        · subst z; rw [Nat.zero_mod] at a1; exact absurd rfl a1
        · exact z
      refine Or.inr ⟨by omega, Or.inl (Or.inl (Or.inr ⟨fun e => a1 ((m.2.2.1 hi1).mp e), ?_⟩))⟩
      rw [show i - 1 + 1 = i by omega]; exact q2
    · refine ⟨i + 1, ?_, a2⟩
      rw [Nat.testBit_or, nb_tb]
      simp only [Bool.or_eq_true, Bool.and_eq_true, decide_eq_true_eq]
      refine Or.inr ⟨tb_of hA a2, Or.inl (Or.inl (Or.inl ⟨fun e => a1 (m.1.mp e), ?_⟩))⟩
      rw [Nat.add_sub_cancel]; exact q2
    · refine ⟨i - N 0, ?_, a2⟩
      rw [Nat.testBit_or, nb_tb]
      simp only [Bool.or_eq_true, Bool.and_eq_true, decide_eq_true_eq]
      refine Or.inr ⟨by omega, Or.inr ?_⟩
      rw [show i - N 0 + N 0 = i by omega]; exact q2
    · refine ⟨i + N 0, ?_, a2⟩
      rw [Nat.testBit_or, nb_tb]
      simp only [Bool.or_eq_true, Bool.and_eq_true, decide_eq_true_eq]
      refine Or.inr ⟨tb_of hA a2, Or.inl (Or.inr ⟨by omega, ?_⟩)⟩
      rw [Nat.add_sub_cancel]; exact q2
theorem tcB_sym {N : Nat → Nat} (h : DW N) {o k : Nat} (ho : o < N 8) (hk : k < N 8) : tcB N o k = tcB N k o := by
  have key : ∀ o k, o < N 8 → k < N 8 → tcB N o k = true → tcB N k o = true := fun o k ho hk q => by
    unfold tcB at *
    rw [Bool.and_eq_true, decide_eq_true_eq, decide_eq_true_eq] at *
    exact ⟨fun e => q.1 e.symm, near_sym h (op_lt h ho) (op_lt h hk) q.2⟩
  rw [Bool.eq_iff_iff]
  exact ⟨key o k ho hk, key k o hk ho⟩
