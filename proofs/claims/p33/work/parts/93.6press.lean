/-! the law's look at the press; all three; small numbers -/
section PRESS
variable {F B : Nat} {c : CSt} {N : Nat → Nat}
theorem press_s (hF : 1000000 < F) (i : I3 B c N) : fL_press F c = some (1 : Int32) := by
  obtain ⟨d, w, -, gn, -, -⟩ := i.dw
  have F100 : 100 < F := by omega
  have key : lp (fL_press_l6 F c) F ((0 : Int32), (1 : Int32), (0 : Int32)) = some (nI (ptS N), (1 : Int32)) := by
    refine lp_seqE (fun j => (nI (fb_sm (fun s => N (60 + 5 * s + 0)) j), (1 : Int32), nI j)) rfl 8 (fun s hs => ?_) ?_ (by omega)
    · obtain ⟨w0, w1, w2, w3, w4, w5⟩ := w s hs
      have hl := lt60 d w1
      unfold fL_press_l6
      rw [uc3_s, il_8, if_neg (nI_ge hs (by omega)), b1_0, bd1_e (gs3 hF i hs), nI_add, nm_s, fb_sm_succ]
      by_cases q : N (60 + 5 * s + 0) = 0
      · have e1 : N (60 + 5 * s + 1) = 0 := w5 q 1 (by omega)
        have e2 : ptV N s 0 = eN 0 := if_pos q
        rw [if_neg (nn (show nI (N (60 + 5 * s + 0)) = (0 : Int32) by rw [q]; rfl)), bd1_e (gv_left hF i hs), e1, ll_0, ifn0 z60 z60 rfl, bd1_e (show g_pitch F c (nI s) (0 : Int32) = _ from gv_pitch (k := 0) hF i hs (by omega)), e2, eN_0, if_neg (nn rfl), bd1_s, il_1, nI_add]
      · have e2 : ptV N s 3 = nI (pcS (N (60 + 5 * s + 1))) := by unfold ptV; rw [if_neg q, if_pos rfl]
        have e3 : ptV N s 1 = nI (N (60 + 5 * s + 3)) := by unfold ptV; rw [if_neg q, if_neg (by omega)]
        rw [if_pos (show ¬ nI (N (60 + 5 * s + 0)) = (0 : Int32) from fun z => q ((nI_eq (b := 0) (by omega) (by omega)).mp z)), bd1_e (show g_pitch F c (nI s) (3 : Int32) = _ from gv_pitch (k := 3) hF i hs (by omega)), bd1_e (gv_left hF i hs), bd1_e (ones_s F100 hl), e2, if_neg (nn rfl), bd1_e (show g_pitch F c (nI s) (1 : Int32) = _ from gv_pitch (k := 1) hF i hs (by omega)), e3, if_neg (nI_pos (by omega)), bd1_s, il_1, nI_add]
    · unfold fL_press_l6
      rw [uc3_s, if_pos (show (8 : Int32) ≤ nI 8 by decide)]
      rfl
  unfold fL_press
  rw [bd2_e key, b1_0, bd1_e (gw10 hF i), if_neg (nn rfl), bd1_e (gw12 hF i), bd1_e (gw13 hF i), bd1_e (gw11 hF i), nI_add, nI_add, ← gn.1, if_neg (nn rfl)]
theorem holds_s (hF : 1000000 < F) (i : I3 B c N) : ∃ c2, fL_holds F c = some ((1 : Int32), c2) ∧ I3 B c2 N := by
  obtain ⟨c2, e, i2⟩ := plan_s hF i
  refine ⟨c2, ?_, i2⟩
  unfold fL_holds
  rw [bd1_e (die_s hF i), b1_0, bd2_e e, b1_0, bd1_e (press_s hF i2), b1_0]
end PRESS
theorem i_all (a : Int32) : a = nI a.toBitVec.toNat := by
  refine Int32.toBitVec_inj.mp (BitVec.eq_of_toNat_eq ?_)
  show a.toBitVec.toNat = (BitVec.ofNat 32 a.toBitVec.toNat).toNat
  rw [BitVec.toNat_ofNat, Nat.mod_eq_of_lt a.toBitVec.isLt]
theorem low_s (v : Int32) {k : Nat} (h1 : 1 ≤ k) (h2 : k < 2 ^ 31) : ∃ r, r < k ∧ fL_low v (nI k) = some (nI r) := by
  refine ⟨(v.toBitVec.toNat % 2 ^ 31) % k, Nat.mod_lt _ (by omega), ?_⟩
  have e : v &&& (2147483647 : Int32) = nI (v.toBitVec.toNat % 2 ^ 31) := by
    have h := fa_mask v.toBitVec.toNat 31
    rw [← i_all v] at h
    exact h
  unfold fL_low
  rw [gz_nI (by omega) h2, e, pk_rem (Nat.mod_lt _ (by omega)) (by omega) h2]
