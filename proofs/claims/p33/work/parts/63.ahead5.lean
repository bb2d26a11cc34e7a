theorem nxk_up {F : Nat} {N : Nat → Nat} (hF : 100 < F) (h : DW N) (w : PW N) : ∀ k, N 10 ≤ nxk F N k 10
  | 0 => Nat.le_refl _
  | k + 1 => by
    have ok := nxk_ok hF h w k
    have sf := (nx_s hF ok.1 ok.2.1).2
    have := nxk_up hF h w k
    have e : nx F (nxk F N k) 10 = nxk F N k 10 + (gcS (nxk F N k) 8 + ogS (nxk F N k)) := sf.2.2.2.1
    show N 10 ≤ nx F (nxk F N k) 10
    omega
theorem gK_no {F : Nat} {N : Nat → Nat} {k : Nat} (h : gK F N k = false) : nxk F N k 10 ≤ N 10 := by
  have := of_decide_eq_false h
  omega
theorem gK_yes {F : Nat} {N : Nat → Nat} {k : Nat} (h : gK F N k = true) : N 10 < nxk F N k 10 := of_decide_eq_true h
theorem x5_tg {F : Nat} {N : Nat → Nat} {set fac : Nat → Int32} {dce tc : Nat → Int64} {pm sm : Nat} {cel : Nat → Int64} {ben off tb to : Nat → Int32} (hF : 1000 < F) (r : RelS N set fac dce pm sm cel ben off) (hg : N 10 + 1000 < 2 ^ 31) (hb : N 11 + 1000 < 2 ^ 31) : ∃ a1 a2 a3 a4 a5 a6 a7 a8 a9, fX5_strokesToGood F (nI (N 0)) (nI (N 1)) (nI (N 2)) (lN (N 14)) (lN (N 15)) (nI (N 8)) (nI (N 13)) set fac dce (nI pm) (nI sm) cel ben off (nI (N 9)) (nI (N 10)) (nI (N 11)) (nI (N 12)) tc tb to = some (tgR F N, a1, a2, a3, a4, a5, a6, a7, a8, a9) := by
  obtain ⟨d, w, c, p, dj⟩ := r
  have r0 : RelS N set fac dce pm sm (cpF 9 cel tc) (cpF 9 ben tb) (cpF 9 off to) := ⟨d, w, c, pc_cls (fun s hs => cp_lo (by omega)) (fun s hs => cp_lo (by omega)) (fun s hs => cp_lo (by omega)) p, dj⟩
  obtain ⟨t1, t2, t3, t4⟩ := tg_lo F N
  have nf : ¬ gK F N (tgN F N) = true → tgN F N = 60 := fun z => by
    unfold tgN at z ⊢
    rcases fgK_ok (gK F N) 60 with ⟨h1, h2⟩ | ⟨h1, h2, h3, h4⟩
    · rw [if_pos h1]
    · rw [if_neg (by omega)] at z
      exact absurd h3 z
  generalize tgN F N = n at t1 t2 t3 t4 nf
  have stepv : ∀ t, t < 60 → gK F N (t + 1) = false → nI (nxk F N (t + 1) 10) ≤ nI (nxk F N t 10) := fun t ht z => by
    have a := gK_no z
    have b := nxk_up (F := F) (by omega) d w t
    have ok := nxk_ok (F := F) (by omega) d w t
    exact nI_le (by omega) (by omega)
  have L := lp_cnt (body := fX5_strokesToGood_l16 F (nI (N 0)) (nI (N 1)) (nI (N 2)) (lN (N 14)) (lN (N 15)) (nI (N 8)) (nI (N 13)) set fac dce) (fun t x => ∃ pm' sm' cel' ben' off', x = (nI (t + 1), nI pm', nI sm', cel', ben', off', nI (nxk F N t 9), nI (nxk F N t 10), nI (nxk F N t 11), nI (nxk F N t 12)) ∧ RelS (nxk F N t) set fac dce pm' sm' cel' ben' off') (if gK F N n = true then n - 1 else 60) (fun a => (∃ a1 a2 a3 a4 a5 a6 a7 a8 a9, a = .inl (tgR F N, a1, a2, a3, a4, a5, a6, a7, a8, a9)) ∨ (tgR F N = eN 0 ∧ ∃ a1 a2 a3 a4 a5 a6 a7 a8 a9, a = .inr (a1, a2, a3, a4, a5, a6, a7, a8, a9))) (by
      rintro t ht x ⟨pm', sm', cel', ben', off', rfl, r'⟩
      have ht60 : t < 60 := by
        by_cases z : gK F N n = true
        · rw [if_pos z] at ht; omega
        · rw [if_neg z] at ht; exact ht
      have g1 : gK F N (t + 1) = false := by
        by_cases z : gK F N n = true
        · rw [if_pos z] at ht; exact t3 (t + 1) (by omega) (by omega)
        · have n60 := nf z
          rw [if_neg z] at ht
          by_cases y : t + 1 = n
          · rw [y]; exact Bool.eq_false_iff.mpr z
          · exact t3 (t + 1) (by omega) (by omega)
      obtain ⟨p2, s2, c2, b2, o2, e, r2⟩ := feed_k hF d w r' (by omega) hg hb
      refine ⟨_, ?_, p2, s2, c2, b2, o2, rfl, r2⟩
      unfold fX5_strokesToGood_l16
      rw [uc10_s, il_60, if_neg (nI_nlt (by omega) (by omega)), bd10_e e, if_pos (stepv t ht60 g1), il_1, nI_add]) (by
      rintro x ⟨pm', sm', cel', ben', off', rfl, r'⟩
      by_cases z : gK F N n = true
      · rw [if_pos z] at r' ⊢
        have n1 : n - 1 + 1 = n := by omega
        obtain ⟨p2, s2, c2, b2, o2, e, r2⟩ := feed_k hF d w r' (by omega) hg hb
        refine ⟨_, ?_, Or.inl ⟨nI p2, nI s2, c2, b2, o2, nI (nxk F N (n - 1 + 1) 9), nI (nxk F N (n - 1 + 1) 10), nI (nxk F N (n - 1 + 1) 11), nI (nxk F N (n - 1 + 1) 12), rfl⟩⟩
        have b1 : nxk F N (n - 1) 10 ≤ N 10 := by
          by_cases y : n - 1 = 0
          · rw [y]; exact Nat.le_refl _
          · exact gK_no (t3 (n - 1) (by omega) (by omega))
        have b2 : N 10 < nxk F N (n - 1 + 1) 10 := by rw [n1]; exact gK_yes z
        have ok := nxk_ok (F := F) (by omega) d w (n - 1 + 1)
        unfold fX5_strokesToGood_l16
        rw [uc10_s, il_60, if_neg (nI_nlt (by omega) (by omega)), bd10_e e, if_neg (nI_ge (by omega) (by omega)), t4, if_pos z]
        rw [n1]
      · rw [if_neg z] at r' ⊢
        refine ⟨_, ?_, Or.inr ⟨by rw [t4, if_neg z], nI pm', nI sm', cel', ben', off', nI (nxk F N 60 9), nI (nxk F N 60 10), nI (nxk F N 60 11), nI (nxk F N 60 12), rfl⟩⟩
        unfold fX5_strokesToGood_l16
        rw [uc10_s, il_60, if_pos (nI_lt (by omega) (by omega))]) (x0 := (nI 1, nI pm, nI sm, cpF 9 cel tc, cpF 9 ben tb, cpF 9 off to, nI (N 9), nI (N 10), nI (N 11), nI (N 12))) ⟨pm, sm, _, _, _, rfl, r0⟩ (F := F) (by split <;> omega)
  obtain ⟨a, e, q⟩ := L
  unfold fX5_strokesToGood
  rw [bd9_e (x3_copy hF), eN_0, show (1 : Int32) = nI 1 from rfl, e]
  rcases q with ⟨a1, a2, a3, a4, a5, a6, a7, a8, a9, rfl⟩ | ⟨z, a1, a2, a3, a4, a5, a6, a7, a8, a9, rfl⟩
  · exact ⟨a1, a2, a3, a4, a5, a6, a7, a8, a9, by rw [bdS2_1, uc10_s]⟩
  · exact ⟨a1, a2, a3, a4, a5, a6, a7, a8, a9, by rw [bdS2_2, uc9_s, z]⟩
