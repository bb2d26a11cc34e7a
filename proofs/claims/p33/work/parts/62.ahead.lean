def cpF {α : Type} (n : Nat) (f g : Nat → α) : Nat → α := fun j => if j < n then f j else g j
theorem x5_copyI {F n : Nat} {f g : Nat → Int32} (hn : n < 2 ^ 31) (hF : n < F) : fX5_copyInts F n n f g = some (cpF n f g) := by
  unfold fX5_copyInts
  have L := lp_seqE (body := fX5_copyInts_l2 n n f) (S := fun t => (nI t, cpF t f g)) (x0 := (nI 0, g)) (by congr 1) (n := n) (a := cpF n f g) (F := F) (fun t ht => by
      show fX5_copyInts_l2 n n f (nI t, cpF t f g) = some (.inl (nI (t + 1), cpF (t + 1) f g))
      unfold fX5_copyInts_l2
      rw [uc2_s, if_neg (show ¬ Int32.ofNat n ≤ nI t from nI_ge ht hn), if_neg (show ¬ Int32.ofNat n ≤ nI t from nI_ge ht hn), gd_nI ht hn, nm_s, gd_nI ht hn, nI_clamp (by omega), il_1, nI_add]
      congr 3
      funext j
      unfold upd cpF
      by_cases q : j = t
      · rw [if_pos q, if_pos (by omega), q]
      · rw [if_neg q]
        by_cases q2 : j < t
        · rw [if_pos q2, if_pos (by omega)]
        · rw [if_neg q2, if_neg (by omega)]) (by
      show fX5_copyInts_l2 n n f (nI n, cpF n f g) = _
      unfold fX5_copyInts_l2
      rw [uc2_s, if_pos (show Int32.ofNat n ≤ nI n from nI_le (Nat.le_refl _) hn)]) hF
  rw [show (0 : Int32) = nI 0 from rfl, bd1_e L]
theorem x5_copyL {F n : Nat} {f g : Nat → Int64} (hn : n < 2 ^ 31) (hF : n < F) : fX5_copyLongs F n n f g = some (cpF n f g) := by
  unfold fX5_copyLongs
  have L := lp_seqE (body := fX5_copyLongs_l2 n n f) (S := fun t => (nI t, cpF t f g)) (x0 := (nI 0, g)) (by congr 1) (n := n) (a := cpF n f g) (F := F) (fun t ht => by
      show fX5_copyLongs_l2 n n f (nI t, cpF t f g) = some (.inl (nI (t + 1), cpF (t + 1) f g))
      unfold fX5_copyLongs_l2
      rw [uc2_s, if_neg (show ¬ Int32.ofNat n ≤ nI t from nI_ge ht hn), if_neg (show ¬ Int32.ofNat n ≤ nI t from nI_ge ht hn), gd_nI ht hn, nm_s, gd_nI ht hn, nI_clamp (by omega), il_1, nI_add]
      congr 3
      funext j
      unfold vp_updL cpF
      by_cases q : j = t
      · rw [if_pos q, if_pos (by omega), q]
      · rw [if_neg q]
        by_cases q2 : j < t
        · rw [if_pos q2, if_pos (by omega)]
        · rw [if_neg q2, if_neg (by omega)]) (by
      show fX5_copyLongs_l2 n n f (nI n, cpF n f g) = _
      unfold fX5_copyLongs_l2
      rw [uc2_s, if_pos (show Int32.ofNat n ≤ nI n from nI_le (Nat.le_refl _) hn)]) hF
  rw [show (0 : Int32) = nI 0 from rfl, bd1_e L]
theorem cp_lo {α : Type} {n j : Nat} {f g : Nat → α} (h : j < n) : cpF n f g j = f j := if_pos h
/-- RelS looks at the places in use alone -/
theorem pc_cls {N : Nat → Nat} {pm sm : Nat} {cel cel' : Nat → Int64} {ben ben' off off' : Nat → Int32} (h1 : ∀ s, s < 8 → cel' s = cel s) (h2 : ∀ s, s < 8 → ben' s = ben s) (h3 : ∀ s, s < 8 → off' s = off s) (p : PC N pm sm cel ben off) : PC N pm sm cel' ben' off' := ⟨p.1, p.2.1, p.2.2.1, fun s hs => by rw [h1 s hs, h2 s hs, h3 s hs]; exact p.2.2.2 s hs⟩
theorem cd_cls {N : Nat → Nat} {set set' fac fac' : Nat → Int32} {dce dce' : Nat → Int64} (h8 : N 8 ≤ 6) (h1 : ∀ k, k < 5 → set' k = set k) (h2 : ∀ k, k < 42 → fac' k = fac k) (h3 : ∀ k, k < 6 → dce' k = dce k) (c : CD N set fac dce) : CD N set' fac' dce' := ⟨fun k hk => by rw [h1 k hk]; exact c.1 k hk, fun o ho => by
  have co := c.2 o ho
  exact ⟨fun j hj => by rw [h2 _ (by omega)]; exact co.1 j hj, by rw [h2 _ (by omega)]; exact co.2.1, by rw [h2 _ (by omega)]; exact co.2.2.1, by rw [h3 _ (by omega)]; exact co.2.2.2⟩⟩
theorem x3_copy {F : Nat} {tc oc : Nat → Int64} {tb ob to oo : Nat → Int32} {a b c d e f : Int32} (hF : 1000 < F) : fX3_copyFrom F tc tb to a b oc ob oo c d e f = some (a, b, cpF 9 oc tc, cpF 9 ob tb, cpF 9 oo to, c, d, e, f) := by
  unfold fX3_copyFrom
  rw [bd1_e (x5_copyL (by omega) (by omega)), bd1_e (x5_copyI (by omega) (by omega)), bd1_e (x5_copyI (by omega) (by omega))]
/-! the first good part -/
def fgK (g : Nat → Bool) : Nat → Nat
  | 0 => 0
  | n + 1 => if fgK g n = 0 then (if g (n + 1) = true then n + 1 else 0) else fgK g n
theorem fgK_ok (g : Nat → Bool) : ∀ n, (fgK g n = 0 ∧ ∀ k, 1 ≤ k → k ≤ n → g k = false) ∨ (1 ≤ fgK g n ∧ fgK g n ≤ n ∧ g (fgK g n) = true ∧ ∀ k, 1 ≤ k → k < fgK g n → g k = false)
  | 0 => Or.inl ⟨rfl, fun k h1 h2 => by omega⟩
  | n + 1 => by
    rcases fgK_ok g n with ⟨h1, h2⟩ | ⟨h1, h2, h3, h4⟩
    · by_cases q : g (n + 1) = true
      · have e : fgK g (n + 1) = n + 1 := by rw [fgK, if_pos h1, if_pos q]
        exact Or.inr (by rw [e]; exact ⟨by omega, by omega, q, fun k a b => h2 k a (by omega)⟩)
      · have e : fgK g (n + 1) = 0 := by rw [fgK, if_pos h1, if_neg q]
        refine Or.inl ⟨e, fun k a b => ?_⟩
        by_cases r : k = n + 1
        · rw [r]; exact Bool.eq_false_iff.mpr q
        · exact h2 k a (by omega)
    · have e : fgK g (n + 1) = fgK g n := by rw [fgK, if_neg (by omega)]
      exact Or.inr (by rw [e]; exact ⟨h1, by omega, h3, h4⟩)
noncomputable def gK (F : Nat) (N : Nat → Nat) (k : Nat) : Bool := decide (N 10 < nxk F N k 10)
noncomputable def tgR (F : Nat) (N : Nat → Nat) : Int32 := if fgK (gK F N) 60 = 0 then eN 0 else nI (fgK (gK F N) 60)
/-- how many strokes are looked at -/
noncomputable def tgN (F : Nat) (N : Nat → Nat) : Nat := if fgK (gK F N) 60 = 0 then 60 else fgK (gK F N) 60
theorem tg_lo (F : Nat) (N : Nat → Nat) : 1 ≤ tgN F N ∧ tgN F N ≤ 60 ∧ (∀ k, 1 ≤ k → k < tgN F N → gK F N k = false) ∧ tgR F N = (if gK F N (tgN F N) = true then nI (tgN F N) else eN 0) := by
  unfold tgN tgR
  rcases fgK_ok (gK F N) 60 with ⟨h1, h2⟩ | ⟨h1, h2, h3, h4⟩
  · rw [if_pos h1, if_pos h1]
    exact ⟨by omega, by omega, fun k a b => h2 k a (by omega), by rw [h2 60 (by omega) (by omega), if_neg (by decide)]⟩
  · rw [if_neg (by omega), if_neg (by omega)]
    exact ⟨h1, h2, h4, by rw [if_pos h3]⟩
theorem eN0_n {k : Nat} (h : k < 1000) : ¬ nI k = eN 0 := by rw [eN_s, eN_eq (by omega) (by omega)]; omega
theorem x6_tg {F : Nat} {N : Nat → Nat} {as : Nat → Int64} (hF : 1000 < F) (h : DW N) (w : PW N) (hg : N 10 + 1000 < 2 ^ 31) : ∃ M, (∀ j, j < 100 → M j = N j) ∧ fX6_strokesToGood F (lA N) as = some (tgR F N, lA M, cpF 100 (lA N) as, 0) := by
  obtain ⟨t1, t2, t3, t4⟩ := tg_lo F N
  generalize hn : tgN F N = n at t1 t2 t3 t4
  have L1 := lp_seqE (body := fX6_strokesToGood_l7 (lA N)) (S := fun t => (nI t, cpF t (lA N) as)) (x0 := (nI 0, as)) (by congr 1) (n := 100) (a := cpF 100 (lA N) as) (F := F) (fun t ht => by
      show fX6_strokesToGood_l7 (lA N) (nI t, cpF t (lA N) as) = some (.inl (nI (t + 1), cpF (t + 1) (lA N) as))
      unfold fX6_strokesToGood_l7
      rw [uc2_s, il_100, if_neg (nI_ge ht (by omega)), gd_lit ht, nm_s, gd_lit ht, nI_clamp (by omega), il_1, nI_add]
      refine congrArg (fun z => some (Sum.inl (nI (t + 1), z))) (funext fun j => ?_)
      unfold vp_updL cpF
      by_cases q : j = t
      · rw [if_pos q, if_pos (by omega), q]
      · rw [if_neg q]
        by_cases q2 : j < t
        · rw [if_pos q2, if_pos (by omega)]
        · rw [if_neg q2, if_neg (by omega)]) (by
      show fX6_strokesToGood_l7 (lA N) (nI 100, _) = _
      unfold fX6_strokesToGood_l7
      rw [uc2_s, il_100, if_pos (nI_le (Nat.le_refl _) (by omega))]) (by omega)
  have L2 := lp_seqE (body := fX6_strokesToGood_l35 F (cpF 100 (lA N) as)) (S := fun t => (if 1 ≤ t ∧ gK F N t = true then nI t else eN 0, nI (t + 1), lA (nxk F N t))) (x0 := (eN 0, nI 1, lA N)) (by
      show _ = (_, nI (0 + 1), lA (nxk F N 0))
      rw [if_neg (by omega)]
      rfl) (n := n) (a := (tgR F N, lA (nxk F N n))) (F := F) (fun t ht => by
      show fX6_strokesToGood_l35 F (cpF 100 (lA N) as) (if 1 ≤ t ∧ gK F N t = true then nI t else eN 0, nI (t + 1), lA (nxk F N t)) = some (.inl (if 1 ≤ t + 1 ∧ gK F N (t + 1) = true then nI (t + 1) else eN 0, nI (t + 1 + 1), lA (nxk F N (t + 1))))
      have ok := nxk_ok (F := F) (by omega) h w t
      have ok2 := nxk_ok (F := F) (by omega) h w (t + 1)
      have ng : ¬ (1 ≤ t ∧ gK F N t = true) := fun z => by
        have := t3 t z.1 ht
        rw [z.2] at this
        cases this
      unfold fX6_strokesToGood_l35
      rw [if_neg ng, uc3_s, il_60, if_neg (nI_nlt (by omega) (by omega)), eN_0, if_neg (nn rfl), bd2_e (nx_s (by omega) ok.1 ok.2.1).1, il_10, gd_lit (by omega), gd_lit (by omega), nI_clamp (by omega), cp_lo (by omega), lA_at, lA_at, il_1, nI_add]
      have key : (if lg_cmp (lN (nx F (nxk F N t) 10)) (lN (N 10)) ≤ 0 then some (eN 0) else some (nI (t + 1))) = some (if 1 ≤ t + 1 ∧ gK F N (t + 1) = true then nI (t + 1) else eN 0) := by
        have b : nx F (nxk F N t) 10 ≤ N 10 + 9 * (t + 1) := ok2.2.2.2.1
        by_cases q : nx F (nxk F N t) 10 ≤ N 10
        · rw [if_pos ((lcmp_le (by omega) (by omega)).mpr q), if_neg]
          rintro ⟨-, z⟩
          have z : N 10 < nx F (nxk F N t) 10 := of_decide_eq_true z
          omega
        · rw [if_neg (fun z => q ((lcmp_le (by omega) (by omega)).mp z)), if_pos]
          exact ⟨by omega, decide_eq_true (show N 10 < nx F (nxk F N t) 10 by omega)⟩
      rw [bd1_e key]
      rfl) (by
      show fX6_strokesToGood_l35 F (cpF 100 (lA N) as) (if 1 ≤ n ∧ gK F N n = true then nI n else eN 0, nI (n + 1), lA (nxk F N n)) = _
      unfold fX6_strokesToGood_l35
      rw [uc3_s, il_60, eN_0, t4]
      by_cases q : 60 < n + 1
      · rw [if_pos (nI_lt q (by omega))]
        by_cases z : gK F N n = true
        · rw [if_pos (show 1 ≤ n ∧ gK F N n = true from ⟨t1, z⟩), if_pos z]
        · rw [if_neg (show ¬ (1 ≤ n ∧ gK F N n = true) from fun y => z y.2), if_neg z]
      · rw [if_neg (nI_nlt (by omega) (by omega))]
        have z : gK F N n = true := by
          rw [← hn]
          unfold tgN at hn ⊢
          rcases fgK_ok (gK F N) 60 with ⟨h1, h2⟩ | ⟨h1, h2, h3, h4⟩
          · rw [if_pos h1] at hn; omega
          · rw [if_neg (by omega)]; exact h3
        rw [if_pos (show 1 ≤ n ∧ gK F N n = true from ⟨t1, z⟩), if_pos z, if_pos (show ¬ nI n = eN 0 from eN0_n (by omega))]) (by omega)
  have L3 := lp_seqE (body := fX6_strokesToGood_l83 (cpF 100 (lA N) as)) (S := fun t => (nI t, lA (cpF t N (nxk F N n)))) (x0 := (nI 0, lA (nxk F N n))) (by congr 1) (n := 100) (a := lA (cpF 100 N (nxk F N n))) (F := F) (fun t ht => by
      show fX6_strokesToGood_l83 (cpF 100 (lA N) as) (nI t, lA (cpF t N (nxk F N n))) = some (.inl (nI (t + 1), lA (cpF (t + 1) N (nxk F N n))))
      unfold fX6_strokesToGood_l83
      rw [uc2_s, il_100, if_neg (nI_ge ht (by omega)), gd_lit ht, nI_clamp (by omega), cp_lo ht, lA_at, nm_s, gd_lit ht, vp1, il_1, nI_add]
      refine congrArg (fun z => some (Sum.inl (nI (t + 1), lA z))) (funext fun j => ?_)
      unfold upN cpF
      by_cases q : j = t
      · rw [if_pos q, if_pos (by omega), q]
      · rw [if_neg q]
        by_cases q2 : j < t
        · rw [if_pos q2, if_pos (by omega)]
        · rw [if_neg q2, if_neg (by omega)]) (by
      show fX6_strokesToGood_l83 (cpF 100 (lA N) as) (nI 100, _) = _
      unfold fX6_strokesToGood_l83
      rw [uc2_s, il_100, if_pos (nI_le (Nat.le_refl _) (by omega))]) (by omega)
  refine ⟨cpF 100 N (nxk F N n), fun j hj => cp_lo hj, ?_⟩
  unfold fX6_strokesToGood
  rw [show (0 : Int32) = nI 0 from rfl, show (-1 : Int32) = eN 0 from eN_0, show (1 : Int32) = nI 1 from rfl, bd1_e L1, bd2_e L2, bd1_e L3]
