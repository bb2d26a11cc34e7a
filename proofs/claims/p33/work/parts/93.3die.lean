/-! the law's look at the die -/
theorem low_bit : ∀ y : Nat, y ≠ 0 → ∃ j, y.testBit j = true ∧ ∀ i, (y &&& (y - 1)).testBit i = (y.testBit i && decide (i ≠ j)) := by
  have dec : ∀ y : Nat, y ≠ 0 → ∃ j z, y = 2 ^ j * (2 * z + 1) := by
    intro y
    induction y using Nat.strongRecOn with
    | ind y ih =>
      intro hy
      by_cases q : y % 2 = 1
      · exact ⟨0, y / 2, by omega⟩
      · obtain ⟨j, z, e⟩ := ih (y / 2) (by omega) (by omega)
        refine ⟨j + 1, z, ?_⟩
        rw [Nat.pow_succ, Nat.mul_comm (2 ^ j) 2, Nat.mul_assoc, ← e]
        omega
  intro y hy
  obtain ⟨j, z, rfl⟩ := dec y hy
  have hp : 0 < 2 ^ j := Nat.two_pow_pos j
  have e1 : ∀ i, (2 ^ j * (2 * z + 1)).testBit i = if i < j then false else (2 * z + 1).testBit (i - j) := fun i => by
    have h := Nat.testBit_two_pow_mul_add (2 * z + 1) (b := 0) hp i
    rw [Nat.add_zero, Nat.zero_testBit] at h
    exact h
  have e2 : 2 ^ j * (2 * z + 1) - 1 = 2 ^ (j + 1) * z + (2 ^ j - 1) := by
    rw [Nat.pow_succ, Nat.mul_add, Nat.mul_one, Nat.mul_assoc]
    omega
  have h2 : 2 ^ j - 1 < 2 ^ (j + 1) := by rw [Nat.pow_succ]; omega
  have odd : ∀ k, (2 * z + 1).testBit k = if k = 0 then true else z.testBit (k - 1) := fun k => by
    cases k with
    | zero => rw [Nat.testBit_zero, if_pos rfl]; exact decide_eq_true (by omega)
    | succ k => rw [Nat.testBit_succ, if_neg (by omega), show (2 * z + 1) / 2 = z by omega]; rfl
  refine ⟨j, ?_, fun i => ?_⟩
  · rw [e1, if_neg (by omega), odd, if_pos (by omega)]
  · rw [Nat.testBit_and, e1, e2, Nat.testBit_two_pow_mul_add z h2 i, Nat.testBit_two_pow_sub_one, odd]
    rcases Nat.lt_trichotomy i j with q | q | q
    · rw [if_pos q]; rfl
    · subst q
      rw [if_neg (by omega), if_pos (by omega), decide_eq_false (show ¬ i < i by omega), if_pos (show i < i + 1 by omega), decide_eq_false (fun h => h rfl)]
    · rw [if_neg (by omega), if_neg (by omega), if_neg (by omega), decide_eq_true (show i ≠ j by omega), Bool.and_true, show i - j - 1 = i - (j + 1) by omega, Bool.and_self]
theorem pc_down {y : Nat} (h0 : y ≠ 0) (hy : y < 2 ^ 60) : pcS (y &&& (y - 1)) + 1 = pcS y := by
  obtain ⟨j, hj, h⟩ := low_bit y h0
  have hj60 := tb_of hy hj
  have e := fb_ct_upd y.testBit false hj60
  unfold pcS
  rw [hj] at e
  have e3 : fb_ct (y &&& (y - 1)).testBit 60 = fb_ct (fun k => if k = j then false else y.testBit k) 60 := fb_ct_cong fun k hk => by
    rw [h k]
    by_cases q : k = j
    · rw [if_pos q, decide_eq_false (fun z => z q), Bool.and_false]
    · rw [if_neg q, decide_eq_true q, Bool.and_true]
  rw [e3]
  exact e
theorem pc_0 : pcS 0 = 0 := by decide +kernel
theorem ones_s {F x : Nat} (hF : 100 < F) (hx : x < 2 ^ 60) : fL_ones F (lN x) = some (nI (pcS x)) := by
  have key := lp_run (body := fL_ones_l4) (fun t => ∃ k y, t = (nI k, lN y) ∧ y < 2 ^ 60 ∧ k + pcS y = pcS x)
  have run : ∀ (n k y : Nat), y < 2 ^ 60 → pcS y = n → k + n = pcS x → ∀ F, n < F → lp fL_ones_l4 F (nI k, lN y) = some (nI (pcS x)) := by
    intro n
    induction n with
    | zero =>
      intro k y hy hp hk F hF
      have y0 : y = 0 := by
        by_cases q : y = 0
        · exact q
        · have := pc_down q hy
          omega
      subst y0
      obtain ⟨G, rfl⟩ : ∃ G, F = G + 1 := ⟨F - 1, by omega⟩
      rw [lp]
      have hb : fL_ones_l4 (nI k, lN 0) = some (.inr (nI k)) := by
        unfold fL_ones_l4
        rw [uc2_s, ll_0, ifc0 z60 z60 rfl]
      rw [hb]
      show some (nI k) = some (nI (pcS x))
      rw [show k = pcS x by omega]
    | succ n ih =>
      intro k y hy hp hk F hF
      have y0 : y ≠ 0 := fun q => by rw [q, pc_0] at hp; omega
      have hd := pc_down y0 hy
      obtain ⟨G, rfl⟩ : ∃ G, F = G + 1 := ⟨F - 1, by omega⟩
      rw [lp]
      have hb : fL_ones_l4 (nI k, lN y) = some (.inl (nI (k + 1), lN (y &&& (y - 1)))) := by
        unfold fL_ones_l4
        rw [uc2_s, ll_0, ifc1 hy z60 y0, ll_1, subL1 (by omega), fb_andL, nm_s, il_1, nI_add]
      rw [hb]
      exact ih (k + 1) _ (and_lt_l hy) (by omega) (by omega) G (by omega)
  unfold fL_ones
  rw [il_0, bd1_e (run (pcS x) 0 x hx rfl (by omega) F (by have := pc_le x; omega))]
theorem cr_tab : ∀ C, C < 11 → ∀ R, R < 7 → ∀ k, k < 3 → 2 ≤ C → 2 ≤ R → pcS (if k = 0 then rcS C 0 0 C 1 else if k = 1 then rcS C 0 (R - 1) C 1 else rcS C 0 0 C 1 ||| rcS C 0 (R - 1) C 1) = (if k = 2 then 2 else 1) * C := by decide +kernel
theorem cr_pc {N : Nat → Nat} (h : DW N) : pcS (crS N) = (if N 2 = 2 then 2 else 1) * N 0 := cr_tab (N 0) (by have := h.1; omega) (N 1) (by have := h.1; omega) (N 2) (by have := h.1; omega) h.1.1 h.1.2.2.1
section DIE
variable {F B : Nat} {c : CSt} {N : Nat → Nat}
theorem gw0 (hF : 1000000 < F) (i : I3 B c N) : g_whole F c (0 : Int32) = some (nI (N 0)) := gv_whole (k := 0) hF i (by omega)
theorem gw1 (hF : 1000000 < F) (i : I3 B c N) : g_whole F c (1 : Int32) = some (nI (N 1)) := gv_whole (k := 1) hF i (by omega)
theorem gw2 (hF : 1000000 < F) (i : I3 B c N) : g_whole F c (2 : Int32) = some (nI (N 2)) := gv_whole (k := 2) hF i (by omega)
theorem gw3 (hF : 1000000 < F) (i : I3 B c N) : g_whole F c (3 : Int32) = some (nI (N 3)) := gv_whole (k := 3) hF i (by omega)
theorem gw4 (hF : 1000000 < F) (i : I3 B c N) : g_whole F c (4 : Int32) = some (nI (N 4)) := gv_whole (k := 4) hF i (by omega)
theorem gw8 (hF : 1000000 < F) (i : I3 B c N) : g_whole F c (8 : Int32) = some (nI (N 8)) := gv_whole (k := 8) hF i (by omega)
theorem gw9 (hF : 1000000 < F) (i : I3 B c N) : g_whole F c (9 : Int32) = some (nI (psS N (N 8))) := gv_whole (k := 9) hF i (by omega)
theorem gw10 (hF : 1000000 < F) (i : I3 B c N) : g_whole F c (10 : Int32) = some (nI (ptS N)) := gv_whole (k := 10) hF i (by omega)
theorem gw11 (hF : 1000000 < F) (i : I3 B c N) : g_whole F c (11 : Int32) = some (nI (N 9)) := gv_whole (k := 11) hF i (by omega)
theorem gw12 (hF : 1000000 < F) (i : I3 B c N) : g_whole F c (12 : Int32) = some (nI (N 10)) := gv_whole (k := 12) hF i (by omega)
theorem gw13 (hF : 1000000 < F) (i : I3 B c N) : g_whole F c (13 : Int32) = some (nI (N 11)) := gv_whole (k := 13) hF i (by omega)
theorem gw15 (hF : 1000000 < F) (i : I3 B c N) : g_whole F c (15 : Int32) = some (nI (pcS (N 13))) := gv_whole (k := 15) hF i (by omega)
theorem gc0 (hF : 1000000 < F) (i : I3 B c N) : g_cellSet F c (0 : Int32) = some (lN (paS N)) := gv_cells (k := 0) hF i (by omega)
theorem gc1 (hF : 1000000 < F) (i : I3 B c N) : g_cellSet F c (1 : Int32) = some (lN (liS N)) := gv_cells (k := 1) hF i (by omega)
theorem gc2 (hF : 1000000 < F) (i : I3 B c N) : g_cellSet F c (2 : Int32) = some (lN (crS N)) := gv_cells (k := 2) hF i (by omega)
theorem gc3 (hF : 1000000 < F) (i : I3 B c N) : g_cellSet F c (3 : Int32) = some (lN (tkS N 0)) := gv_cells (k := 3) hF i (by omega)
theorem gc4 (hF : 1000000 < F) (i : I3 B c N) : g_cellSet F c (4 : Int32) = some (lN (stS N)) := gv_cells (k := 4) hF i (by omega)
theorem gc5 (hF : 1000000 < F) (i : I3 B c N) : g_cellSet F c (5 : Int32) = some (lN (loS N)) := gv_cells (k := 5) hF i (by omega)
theorem go0 (hF : 1000000 < F) (i : I3 B c N) {a : Nat} (ha : a < N 8) : g_operation F c (nI a) (0 : Int32) = some (nI (N (20 + 6 * a + 0))) := gv_oper (k := 0) hF i ha (by omega)
theorem go1 (hF : 1000000 < F) (i : I3 B c N) {a : Nat} (ha : a < N 8) : g_operation F c (nI a) (1 : Int32) = some (nI (N (20 + 6 * a + 1))) := gv_oper (k := 1) hF i ha (by omega)
theorem go2 (hF : 1000000 < F) (i : I3 B c N) {a : Nat} (ha : a < N 8) : g_operation F c (nI a) (2 : Int32) = some (nI (N (20 + 6 * a + 2))) := gv_oper (k := 2) hF i ha (by omega)
theorem go3 (hF : 1000000 < F) (i : I3 B c N) {a : Nat} (ha : a < N 8) : g_operation F c (nI a) (3 : Int32) = some (nI (N (20 + 6 * a + 3))) := gv_oper (k := 3) hF i ha (by omega)
theorem go5 (hF : 1000000 < F) (i : I3 B c N) {a : Nat} (ha : a < N 8) : g_operation F c (nI a) (5 : Int32) = some (nI (foS N a)) := gv_oper (k := 5) hF i ha (by omega)
theorem go6 (hF : 1000000 < F) (i : I3 B c N) {a : Nat} (ha : a < N 8) : g_operation F c (nI a) (6 : Int32) = some (eN (spN N a)) := gv_oper (k := 6) hF i ha (by omega)
theorem go7 (hF : 1000000 < F) (i : I3 B c N) {a : Nat} (ha : a < N 8) : g_operation F c (nI a) (7 : Int32) = some (nI (tcS N a)) := gv_oper (k := 7) hF i ha (by omega)
theorem ds_pl {N : Nat → Nat} (h : DW N) (d : DJ N) : paS N &&& liS N = 0 := meet0.mpr fun ⟨i, h1, h2⟩ => by
  rw [pa_tb h, Bool.and_eq_true] at h1
  rw [li_tb h, Bool.and_eq_true] at h2
  have := d.tb i
  rw [h1.1, h2.1] at this
  cases this
theorem ds_pc {N : Nat → Nat} (h : DW N) : paS N &&& crS N = 0 := meet0.mpr fun ⟨i, h1, h2⟩ => by
  rw [pa_tb h, h2, Bool.not_true, Bool.and_false] at h1
  cases h1
theorem ds_lc {N : Nat → Nat} (h : DW N) : liS N &&& crS N = 0 := meet0.mpr fun ⟨i, h1, h2⟩ => by
  rw [li_tb h, h2, Bool.not_true, Bool.and_false] at h1
  cases h1
theorem ds_all {N : Nat → Nat} (h : DW N) : (((paS N ||| liS N) ||| crS N) ||| tkS N 0) ||| stS N = 2 ^ (N 0 * N 1) - 1 := by
  have hp := Nat.two_pow_pos (N 0 * N 1)
  refine tb_ext (n := N 0 * N 1) (Nat.or_lt_two_pow (Nat.or_lt_two_pow (Nat.or_lt_two_pow (Nat.or_lt_two_pow (pa_lt h) (li_lt h)) (car_in h)) (tk_lt h 0)) (st_lt N)) (by omega) fun i hi => ?_
  rw [Nat.testBit_two_pow_sub_one, decide_eq_true hi, Nat.testBit_or, Nat.testBit_or, Nat.testBit_or, Nat.testBit_or, pa_tb h, li_tb h]
  have e : (stS N).testBit i = ((waS N).testBit i && !(tkS N 0).testBit i) := sdf_tb _ _ (lt64 (lt60 h (ws_lt N)))
  rw [e, ws_tb h, decide_eq_true hi]
  cases (N 14).testBit i <;> cases (N 15).testBit i <;> cases (crS N).testBit i <;> cases (tkS N 0).testBit i <;> rfl
theorem sdf_sub {a b : Nat} (ha : a < 2 ^ 64) : sdf (sdf a b) a = 0 := by
  refine Nat.eq_of_testBit_eq fun i => ?_
  have h2 : sdf a b < 2 ^ 64 := sdf_lt _ ha
  rw [sdf_tb _ _ h2, sdf_tb _ _ ha, Nat.zero_testBit]
  cases a.testBit i <;> cases b.testBit i <;> rfl
/-- a bend's cells, one by one -/
theorem row_or {C x y w : Nat} (hC : 0 < C) (hC2 : C ≤ 10) (hR : y + 1 ≤ 6) (hx : x + w ≤ C) : orS (fun a => 2 ^ (y * C + x + a)) w = rcS C x y w 1 := by
  have h := rc_or2 (R := 6) hC hC2 (by omega) hx (show y + 1 ≤ 6 from hR)
  rw [← h, orS, orS, Nat.zero_or, Nat.add_zero]
  exact orS_cong fun k _ => by rw [Nat.add_assoc]
theorem bends_in {F B : Nat} {c : CSt} {N : Nat → Nat} (hF : 1000000 < F) (i : I3 B c N) {a : Nat} (ha : a < N 8) (A : Nat) : lp (fL_bends_l17 F c (nI a)) F (lN A, (0 : Int32)) = some (lN (A ||| (if N (20 + 6 * a + 0) = 1 then opS N a else 0))) := by
  obtain ⟨d, -, -, gn, -, -⟩ := i.dw
  obtain ⟨k1, k3, kx, k4, ky, -⟩ := d.2.2.2.2 a ha
  obtain ⟨c1, c2, r1, r2, -⟩ := d.1
  by_cases q : N (20 + 6 * a + 0) = 1
  · have h4 := gn.2 a ha q
    rw [if_pos q]
    have e : opS N a = orS (fun b => 2 ^ (N (20 + 6 * a + 2) * N 0 + N (20 + 6 * a + 1) + b)) (N (20 + 6 * a + 3)) := by
      rw [row_or (by omega) c2 (by omega) kx]
      unfold opS
      rw [h4]
    rw [e]
    refine lp_seqE (fun j => (lN (A ||| orS (fun b => 2 ^ (N (20 + 6 * a + 2) * N 0 + N (20 + 6 * a + 1) + b)) j), nI j)) (by rw [orS, Nat.or_zero]; rfl) (N (20 + 6 * a + 3)) (fun j hj => ?_) ?_ (by omega)
    · have hm : N (20 + 6 * a + 2) * N 0 + N 0 ≤ 60 := mul_le60 (R := N 1) (by omega) c2 r2 (Nat.le_refl _)
      unfold fL_bends_l17
      rw [uc2_s, bd1_e (go3 hF i ha), if_neg (nI_ge hj (by omega)), bd1_e (go0 hF i ha), q, if_neg (nn (show nI 1 = (1 : Int32) from rfl)), bd1_e (go2 hF i ha), bd1_e (gw0 hF i), bd1_e (go1 hF i ha), pk_mul, nI_add, nI_add, one_shl (by omega), fb_orL, nm_s, il_1, nI_add, orS, Nat.or_assoc]
    · unfold fL_bends_l17
      rw [uc2_s, bd1_e (go3 hF i ha), if_pos (nI_le (Nat.le_refl _) (by omega))]
  · rw [if_neg q, Nat.or_zero]
    refine lp_seqE (fun _ => (lN A, nI 0)) rfl 0 (fun j hj => absurd hj (by omega)) ?_ (by omega)
    unfold fL_bends_l17
    rw [uc2_s, bd1_e (go3 hF i ha), if_neg (nI_ge (by omega) (by omega)), bd1_e (go0 hF i ha), if_pos (show ¬ nI (N (20 + 6 * a + 0)) = (1 : Int32) from fun z => q ((nI_eq (b := 1) (by omega) (by omega)).mp z))]
theorem bends_s {F B : Nat} {c : CSt} {N : Nat → Nat} (hF : 1000000 < F) (i : I3 B c N) : fL_bends F c = some (lN (tkS N 1)) := by
  obtain ⟨d, -, -, gn, -, -⟩ := i.dw
  have h8 := d.2.2.2.1.1
  unfold fL_bends
  refine (bd1_e (lp_seqE (a := lN (tkS N 1)) (fun j => (lN (orS (fun o => if N (20 + 6 * o + 0) = 1 then opS N o else 0) j), nI j)) rfl (N 8) (fun j hj => ?_) ?_ (by omega))).trans rfl
  · unfold fL_bends_l4
    rw [uc2_s, bd1_e (gw8 hF i), if_neg (nI_ge hj (by omega)), bd1_e (bends_in hF i hj _), il_1, nI_add, orS]
  · unfold fL_bends_l4
    rw [uc2_s, bd1_e (gw8 hF i), if_pos (nI_le (Nat.le_refl _) (by omega))]
    rfl
theorem b1_0 {ρ : Type} {X Y : ρ} : (if (1 : Int32) = 0 then X else Y) = Y := if_neg (by decide)
end DIE
