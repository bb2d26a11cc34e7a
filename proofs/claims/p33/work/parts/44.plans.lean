def RunC (N : Nat → Nat) (L m : Nat) (x : Int32 × Int32 × (Nat → Int32)) : Prop := ∃ (κ st : Nat) (p : Nat → Nat), κ ≤ N 8 + 1 ∧ x.1 = eN κ ∧ x.2.1 = nI st ∧ (∀ j, j < 6 → x.2.2 j = eN (p j) ∧ p j ≤ 8) ∧ (κ = 0 → 0 < N 8 ∧ st ≤ 337043 ∧ ∀ b, ¬ SolB (N 8) (candC N L m) b) ∧ (∀ k, κ = k + 1 → SInv (N 8) (candC N L m) k p ∧ (∀ j, k ≤ j → k + 1 ≤ j ∨ N 8 ≤ k → j < 6 → j < N 8 → p j = 0) ∧ st + (if k < N 8 then muS (N 8) p (k + 1) else 0) ≤ 337043)
theorem eN_dn (k : Nat) : nI k + (-1 : Int32) = eN k := by
  unfold eN
  rw [Int32.sub_eq_add_neg]
  rfl
theorem upd_s (f : Nat → Int32) (k : Nat) (x : Int32) : upd f k x k = x := pk_us
theorem upd_n {f : Nat → Int32} {k j : Nat} {x : Int32} (h : j ≠ k) : upd f k x j = f j := pk_un h
theorem chp_of {n : Nat} {cand : Nat → (Nat → Nat) → Nat → Bool} {k : Nat} {p : Nat → Nat} {ch : Nat → Int32} (h : SInv n cand k p) (hn : n ≤ 6) (hc : ∀ j, j < 6 → ch j = eN (p j) ∧ p j ≤ 8) : ChP k ch p := fun j hj => ⟨(h.2.1 j hj).1, (h.2.1 j hj).2.1, (hc j (by have := h.1; omega)).1⟩
theorem x2_within {F : Nat} {N : Nat → Nat} {ch tou frc : Nat → Int32} {L m : Nat} (hF : 1000000 < F) (h : DW N) (r : PR N tou frc) (hm : m ≤ 8) (hL : L < 2 ^ 30) : ∃ rr ch', fX2_findWithin F (nI (N 8)) (nI L) (nI (N 4)) (nI (bnS N (N 8))) ch tou frc (nI m) = some (rr, ch') ∧ ((rr = nI 0 ∧ ∀ b, ¬ SolB (N 8) (candC N L m) b) ∨ (rr = nI 1 ∧ ∃ c, LexMin (N 8) (candC N L m) c ∧ ∀ j, j < N 8 → ch' j = eN (c j + 1) ∧ c j < 8)) := by
  have h8 := h.2.2.2.1.1
  unfold fX2_findWithin
  have L0 := lp_seqE (body := fX2_findWithin_l2) (S := fun j => (nI j, fa_fill (fun _ => eN 0) ch j)) (x0 := (nI 0, ch)) (by rw [fa_fill_0]) (n := 6) (a := fa_fill (fun _ => eN 0) ch 6) (F := F) (fun j hj => by
      show fX2_findWithin_l2 (nI j, fa_fill (fun _ => eN 0) ch j) = some (.inl (nI (j + 1), fa_fill (fun _ => eN 0) ch (j + 1)))
      unfold fX2_findWithin_l2
      rw [uc2_s, il_6, if_neg (nI_ge hj (by omega)), gd_nI hj (by omega), nI_clamp (by omega), il_1, nI_add, ← fa_fill_succ]
      congr 4) (by
      show fX2_findWithin_l2 (nI 6, fa_fill (fun _ => eN 0) ch 6) = _
      unfold fX2_findWithin_l2
      rw [uc2_s, il_6, if_pos (nI_le (Nat.le_refl _) (by omega))]) (by omega)
  rw [show ((0 : Int32), ch) = (nI 0, ch) from rfl, bd1_e L0]
  have step : ∀ x, RunC N L m x → (∃ x', fX2_findWithin_l28 F (nI (N 8)) (nI L) (nI (N 4)) (nI (bnS N (N 8))) tou frc (nI m) x = some (.inl x') ∧ RunC N L m x' ∧ 400000 - x'.2.1.toNatClampNeg < 400000 - x.2.1.toNatClampNeg) ∨ (∃ a, fX2_findWithin_l28 F (nI (N 8)) (nI L) (nI (N 4)) (nI (bnS N (N 8))) tou frc (nI m) x = some (.inr a) ∧ ((a.1 = eN 0 ∧ 0 < N 8 ∧ ∀ b, ¬ SolB (N 8) (candC N L m) b) ∨ (a.1 = nI (N 8) ∧ ∃ c, LexMin (N 8) (candC N L m) c ∧ ∀ j, j < N 8 → a.2 j = eN (c j + 1) ∧ c j < 8))) := by
    rintro ⟨v4, v5, v6⟩ ⟨κ, st, p, hκ, e1, e2, hc, h0, h1⟩
    have e1 : v4 = eN κ := e1
    have e2 : v5 = nI st := e2
    have hc : ∀ j, j < 6 → v6 j = eN (p j) ∧ p j ≤ 8 := hc
    subst e1 e2
    have hst : st ≤ 337043 := by
      rcases Nat.eq_zero_or_pos κ with z | z
      · exact (h0 z).2.1
      · have := (h1 (κ - 1) (by omega)).2.2
        omega
    rcases Nat.eq_zero_or_pos κ with z | z
    · subst z
      refine Or.inr ⟨(eN 0, v6), ?_, Or.inl ⟨rfl, (h0 rfl).1, (h0 rfl).2.2⟩⟩
      unfold fX2_findWithin_l28
      rw [uc3_s, il_1000000, if_neg (nI_ge (by omega) (by omega)), if_pos (show eN 0 < 0 by decide +kernel)]
    · obtain ⟨k, rfl⟩ : ∃ k, κ = k + 1 := ⟨κ - 1, by omega⟩
      obtain ⟨inv, hz, hmu⟩ := h1 k rfl
      rw [← eN_s]
      by_cases q : N 8 ≤ k
      · have ek : k = N 8 := by have := inv.1; omega
        subst ek
        refine Or.inr ⟨(nI (N 8), v6), ?_, Or.inr ⟨rfl, _, s_end inv, fun j hj => ?_⟩⟩
        · unfold fX2_findWithin_l28
          rw [uc3_s, il_1000000, if_neg (nI_ge (by omega) (by omega)), if_neg (nI_pos (by omega)), if_pos (nI_le (Nat.le_refl _) (by omega))]
        · have a := inv.2.1 j hj
          show v6 j = eN (p j - 1 + 1) ∧ p j - 1 < 8
          rw [show p j - 1 + 1 = p j by omega]
          exact ⟨(hc j (by omega)).1, by omega⟩
      · have hk : k < N 8 := by omega
        rw [if_pos hk] at hmu
        obtain ⟨qq, n1, n2⟩ := x2_next (F := F) (ch := v6) (by omega) h r hk hm (chp_of inv h8 hc) (hc k (by omega)).2 (hc k (by omega)).1 hL
        have body : fX2_findWithin_l28 F (nI (N 8)) (nI L) (nI (N 4)) (nI (bnS N (N 8))) tou frc (nI m) (nI k, nI st, v6) = some (.inl (if qq = 0 then eN k else nI (k + 1), nI (st + 1), upd v6 k (eN qq))) := by
          unfold fX2_findWithin_l28
          rw [uc3_s, il_1000000, if_neg (nI_ge (by omega) (by omega)), if_neg (nI_pos (by omega)), if_neg (nI_ge hk (by omega)), il_6, if_neg (nI_ge (by omega) (by omega)), bd1_e n1, gd_nI (by omega) (by omega), gd_nI (by omega) (by omega), nI_clamp (by omega), upd_s, eN_0, il_1, nI_add, nI_add]
          by_cases y : qq = 0
          · subst y
            rw [if_neg (nn rfl), if_pos rfl]; rfl
          · rw [if_neg y, if_pos (show ¬ eN qq = eN 0 from fun w => y ((eN_eq (by rcases n2 with ⟨a, _⟩ | ⟨s, a, b, _⟩ <;> omega) (by omega)).mp w))]; rfl
        refine Or.inl ⟨_, body, ?_, ?_⟩
        · rcases n2 with ⟨a1, a2⟩ | ⟨s, a1, a2, a3, a4, a5⟩
          · subst a1
            rw [if_pos rfl]
            refine ⟨k, st + 1, fun j => if j = k then 0 else p j, by omega, rfl, rfl, fun j hj => ?_, fun e => ?_, fun k' e => ?_⟩
            · show upd v6 k (eN 0) j = eN (if j = k then 0 else p j) ∧ (if j = k then 0 else p j) ≤ 8
              by_cases y : j = k
              · subst y; rw [upd_s, if_pos rfl]; exact ⟨rfl, by omega⟩
              · rw [upd_n y, if_neg y]; exact hc j hj
            · subst e
              refine ⟨hk, ?_, s_none (congC N L m) inv hk a2⟩
              have : 1 ≤ muS (N 8) p (0 + 1) := by
                have := mu_back (n := N 8) (p := p) (p' := p) (k := 0) (fun i hi => rfl)
                omega
              omega
            · subst e
              refine ⟨s_back (congC N L m) inv hk a2 (fun i hi => if_neg (by omega)), fun j b1 b2 b3 b4 => ?_, ?_⟩
              · show (if j = k' + 1 then 0 else p j) = 0
                by_cases y : j = k' + 1
                · rw [if_pos y]
                · rw [if_neg y]; exact hz j (by omega) (by omega) b3 b4
              · rw [if_pos (by omega)]
                have := mu_back (n := N 8) (p := p) (p' := fun j => if j = k' + 1 then 0 else p j) (k := k' + 1) (fun i hi => if_neg (by omega))
                omega
          · rw [if_neg (by omega)]
            have zk : k + 1 < N 8 → p (k + 1) = 0 := fun y => hz (k + 1) (by omega) (by omega) (by omega) y
            refine ⟨k + 2, st + 1, fun j => if j = k then s + 1 else p j, by omega, by rw [eN_s], rfl, fun j hj => ?_, fun e => by omega, fun k' e => ?_⟩
            · show upd v6 k (eN qq) j = eN (if j = k then s + 1 else p j) ∧ (if j = k then s + 1 else p j) ≤ 8
              by_cases y : j = k
              · subst y; rw [upd_s, if_pos rfl, a1]; exact ⟨rfl, by omega⟩
              · rw [upd_n y, if_neg y]; exact hc j hj
            · obtain rfl : k' = k + 1 := by omega
              refine ⟨s_next (congC N L m) inv hk a2 a3 a4 a5 (fun i hi => if_neg (by omega)) (if_pos rfl) (fun y => by show (if k + 1 = k then s + 1 else p (k + 1)) = 0; rw [if_neg (by omega)]; exact zk y), fun j b1 b2 b3 b4 => ?_, ?_⟩
              · show (if j = k then s + 1 else p j) = 0
                rw [if_neg (by omega)]
                exact hz j (by omega) (by omega) b3 b4
              · have := mu_next (n := N 8) (p := p) (p' := fun j => if j = k then s + 1 else p j) hk a2 a3 (fun i hi => if_neg (by omega)) (if_pos rfl) (fun y => by show (if k + 1 = k then s + 1 else p (k + 1)) = 0; rw [if_neg (by omega)]; exact zk y)
                by_cases y : k + 1 < N 8
                · rw [if_pos y] at this ⊢
                  show st + 1 + muS (N 8) _ (k + 2) ≤ _
                  omega
                · rw [if_neg y] at this ⊢
                  omega
        · show 400000 - (nI (st + 1)).toNatClampNeg < 400000 - (nI st).toNatClampNeg
          rw [nI_clamp (by omega), nI_clamp (by omega)]
          omega
  have start : RunC N L m (nI 0, nI 0, fa_fill (fun _ => eN 0) ch 6) := by
    refine ⟨1, 0, fun _ => 0, by omega, by rw [eN_s], rfl, fun j hj => by
      show fa_fill (fun _ => eN 0) ch 6 j = eN 0 ∧ (0 : Nat) ≤ 8
      exact ⟨fa_fill_in hj, Nat.zero_le _⟩, fun e => by omega, fun k e => ?_⟩
    obtain rfl : k = 0 := by omega
    refine ⟨s_start (fun _ => rfl), fun _ _ _ _ _ => rfl, ?_⟩
    have z : muS (N 8) (fun _ => 0) (0 + 1) ≤ 337042 := mu_start (n := N 8) (p := fun _ => 0) rfl (by omega)
    split <;> omega
  obtain ⟨⟨v2, v3⟩, g1, g2⟩ := lp_run (RunC N L m) (fun x => 400000 - x.2.1.toNatClampNeg) _ step (F := F) start (by show 400000 - (nI 0).toNatClampNeg < F; omega)
  rw [show ((0 : Int32), (0 : Int32), fa_fill (fun _ => eN 0) ch 6) = (nI 0, nI 0, fa_fill (fun _ => eN 0) ch 6) from rfl, bd2_e g1]
  rcases g2 with ⟨a1, a2, a3⟩ | ⟨a1, c, a2, a3⟩
  · have a1 : v2 = eN 0 := a1
    subst a1
    refine ⟨nI 0, v3, ?_, Or.inl ⟨rfl, a3⟩⟩
    rw [eN_s (N 8), if_pos ((eN_lt (by omega) (by omega)).mpr (by omega))]; rfl
  · have a1 : v2 = nI (N 8) := a1
    subst a1
    refine ⟨nI 1, v3, ?_, Or.inr ⟨rfl, c, a2, a3⟩⟩
    rw [if_neg (nI_nlt (Nat.le_refl _) (by omega))]; rfl
def RunM (N : Nat → Nat) (L m : Nat) (x : Int32 × (Nat → Int32)) : Prop := ∃ (κ : Nat) (p : Nat → Nat), κ ≤ N 8 + 1 ∧ x.1 = eN κ ∧ (∀ j, j < κ → j < N 8 → x.2 j = eN (p j) ∧ p j ≤ 8) ∧ (κ = 0 → 0 < N 8 ∧ ∀ b, ¬ SolB (N 8) (candM N L m) b) ∧ (∀ k, κ = k + 1 → SInv (N 8) (candM N L m) k p)
def muX (n : Nat) (x : Int32 × (Nat → Int32)) : Nat := if dec x.1 ≤ n then muS n (fun j => dec (x.2 j)) (dec x.1) else 0
theorem muX_e {n κ : Nat} {v : Nat → Int32} {p : Nat → Nat} (hn : n ≤ 6) (hκ : κ ≤ n) (h : ∀ j, j < κ → v j = eN (p j) ∧ p j ≤ 9) : muX n (eN κ, v) = muS n p κ := by
  unfold muX
  rw [dec_e (by omega), if_pos hκ]
  exact mu_cong (fun i hi => by show dec (v i) = p i; rw [(h i hi).1, dec_e (by have := (h i hi).2; omega)])
theorem muX_n {n : Nat} {v : Nat → Int32} (hn : n ≤ 6) : muX n (eN (n + 1), v) = 0 := by
  unfold muX
  rw [dec_e (by omega), if_neg (by omega)]
theorem x6_seeks {F : Nat} {N : Nat → Nat} {tr be tou : Nat → Int32} {L m : Nat} (hF : 1000000 < F) (h : DW N) (r : ∀ o, o < N 8 → tou o = nI (tcS N o)) (hm : m ≤ 8) (hL : L < 2 ^ 30) : ∃ rr tr' be', fX6_seeks F (lA N) tr be tou (nI m) (nI L) = some (rr, tr', be') ∧ ((rr = nI 0 ∧ ∀ b, ¬ SolB (N 8) (candM N L m) b) ∨ (rr = nI 1 ∧ ∃ c, LexMin (N 8) (candM N L m) c ∧ ∀ j, j < N 8 → be' j = eN (c j + 1) ∧ c j < 8)) := by
  have h8 := h.2.2.2.1.1
  unfold fX6_seeks
  rw [bd1_e (many_8 N), il_0, gd_nI (by omega) (by omega), nI_clamp (by omega), eN_0]
  have step : ∀ x, RunM N L m x → (∃ x', fX6_seeks_l17 F (lA N) tou (nI m) (nI L) (nI (N 8)) x = some (.inl x') ∧ RunM N L m x' ∧ muX (N 8) x' < muX (N 8) x) ∨ (∃ a, fX6_seeks_l17 F (lA N) tou (nI m) (nI L) (nI (N 8)) x = some (.inr a) ∧ ((a.1 = eN 0 ∧ 0 < N 8 ∧ ∀ b, ¬ SolB (N 8) (candM N L m) b) ∨ (a.1 = nI (N 8) ∧ ∃ c, LexMin (N 8) (candM N L m) c ∧ ∀ j, j < N 8 → a.2 j = eN (c j + 1) ∧ c j < 8))) := by
    rintro ⟨v8, v9⟩ ⟨κ, p, hκ, e1, hc, h0, h1⟩
    have e1 : v8 = eN κ := e1
    have hc : ∀ j, j < κ → j < N 8 → v9 j = eN (p j) ∧ p j ≤ 8 := hc
    subst e1
    rcases Nat.eq_zero_or_pos κ with z | z
    · subst z
      refine Or.inr ⟨(eN 0, v9), ?_, Or.inl ⟨rfl, (h0 rfl).1, (h0 rfl).2⟩⟩
      unfold fX6_seeks_l17
      rw [uc2_s, if_pos (show eN 0 < 0 by decide +kernel)]
    · obtain ⟨k, rfl⟩ : ∃ k, κ = k + 1 := ⟨κ - 1, by omega⟩
      have inv := h1 k rfl
      by_cases q : N 8 ≤ k
      · have ek : k = N 8 := by have := inv.1; omega
        subst ek
        rw [← eN_s]
        refine Or.inr ⟨(nI (N 8), v9), ?_, Or.inr ⟨rfl, _, s_end inv, fun j hj => ?_⟩⟩
        · unfold fX6_seeks_l17
          rw [uc2_s, if_neg (nI_pos (by omega)), if_pos (nI_le (Nat.le_refl _) (by omega))]
        · have a := inv.2.1 j hj
          show v9 j = eN (p j - 1 + 1) ∧ p j - 1 < 8
          rw [show p j - 1 + 1 = p j by omega]
          exact ⟨(hc j (by omega) hj).1, by omega⟩
      · have hk : k < N 8 := by omega
        obtain ⟨ck, pk⟩ : v9 k = eN (p k) ∧ p k ≤ 8 := hc k (by omega) hk
        have m0 : muX (N 8) (eN (k + 1), v9) = muS (N 8) p (k + 1) := muX_e h8 hk (fun j hj => by have := hc j hj (by omega); exact ⟨this.1, by omega⟩)
        have u1 : v9 k + 1 = eN (p k + 1) := by rw [ck, eN_up, eN_s]
        have uo : ∀ j, j < k → upd v9 k (eN (p k + 1)) j = eN (p j) ∧ p j ≤ 8 := fun j hj => by rw [upd_n (by omega)]; exact hc j (by omega) (by omega)
        have pre : fX6_seeks_l17 F (lA N) tou (nI m) (nI L) (nI (N 8)) (eN (k + 1), v9) = if eN (p k + 1) < nI m then (bd1 (fX6_may F (lA N) (upd v9 k (eN (p k + 1))) tou (nI k) (nI L)) fun r11 => if r11 = 0 then some (.inl (nI k, upd v9 k (eN (p k + 1)))) else if nI (N 8) ≤ nI (k + 1) then some (.inl (nI (k + 1), upd v9 k (eN (p k + 1)))) else gd (nI (k + 1)) 6 (some (.inl (nI (k + 1), upd (upd v9 k (eN (p k + 1))) (nI (k + 1)).toNatClampNeg (eN 0))))) else some (.inl (eN k, upd v9 k (eN (p k + 1)))) := by
          unfold fX6_seeks_l17
          rw [← eN_s, uc2_s, if_neg (nI_pos (by omega)), if_neg (nI_ge hk (by omega)), gd_nI (by omega) (by omega), nI_clamp (by omega), u1, nm_s, gd_nI (by omega) (by omega), gd_nI (by omega) (by omega), upd_s, show nI k + (-1 : Int32) = eN k from eN_dn k, eN_0, il_1, nI_add]
        by_cases y : p k < m
        · have chp : ChP k (upd v9 k (eN (p k + 1))) p := fun j hj => ⟨(inv.2.1 j hj).1, (uo j hj).2, (uo j hj).1⟩
          have mm := x6_may (F := F) (tr := upd v9 k (eN (p k + 1))) (tou := tou) (s := p k) (by omega) h r hk (by omega) chp (upd_s _ _ _) hL
          have lt : eN (p k + 1) < nI m := by rw [← eN_s]; exact nI_lt y (by omega)
          rw [if_pos lt, bd1_e mm] at pre
          cases t : tstS N L k (fun i => p i - 1) (p k)
          · rw [t, if_pos (show bI false = 0 from rfl)] at pre
            have cf : candM N L m k (fun i => p i - 1) (p k) = false := by unfold candM; rw [t, Bool.and_false]
            refine Or.inl ⟨_, pre, ⟨k + 1, fun j => if j = k then p k + 1 else p j, by omega, eN_s k, fun j b1 b2 => ?_, fun e => by omega, fun k' e => ?_⟩, ?_⟩
            · show upd v9 k (eN (p k + 1)) j = eN (if j = k then p k + 1 else p j) ∧ (if j = k then p k + 1 else p j) ≤ 8
              by_cases w : j = k
              · subst w; rw [upd_s, if_pos rfl]; exact ⟨rfl, by omega⟩
              · rw [if_neg w]; exact uo j (by omega)
            · obtain rfl : k' = k := by omega
              exact s_stay (congM N L m) inv hk (by omega) cf (fun i hi => if_neg (by omega)) (if_pos rfl)
            · rw [m0, eN_s, muX_e (p := fun j => if j = k then p k + 1 else p j) h8 hk (fun j hj => by
                show upd v9 k (eN (p k + 1)) j = eN (if j = k then p k + 1 else p j) ∧ (if j = k then p k + 1 else p j) ≤ 9
                by_cases w : j = k
                · subst w; rw [upd_s, if_pos rfl]; exact ⟨rfl, by omega⟩
                · rw [if_neg w]; have := uo j (by omega); exact ⟨this.1, by omega⟩)]
              exact mu_stay (by omega) (fun i hi => if_neg (by omega)) (if_pos rfl)
          · rw [t, if_neg (show ¬ bI true = 0 by decide +kernel)] at pre
            have ct : candM N L m k (fun i => p i - 1) (p k) = true := by unfold candM; rw [t, decide_eq_true y]; rfl
            by_cases w : k + 1 < N 8
            · rw [if_neg (nI_ge w (by omega)), gd_nI (by omega) (by omega), nI_clamp (by omega)] at pre
              have pp : ∀ j, j < k + 2 → upd (upd v9 k (eN (p k + 1))) (k + 1) (eN 0) j = eN (if j = k then p k + 1 else if j = k + 1 then 0 else p j) ∧ (if j = k then p k + 1 else if j = k + 1 then 0 else p j) ≤ 8 := fun j hj => by
                by_cases w1 : j = k + 1
                · subst w1; rw [upd_s, if_neg (by omega), if_pos rfl]; exact ⟨rfl, by omega⟩
                · rw [upd_n w1]
                  by_cases w2 : j = k
                  · subst w2; rw [upd_s, if_pos rfl]; exact ⟨rfl, by omega⟩
                  · rw [if_neg w2, if_neg w1]; exact uo j (by omega)
              refine Or.inl ⟨_, pre, ⟨k + 2, fun j => if j = k then p k + 1 else if j = k + 1 then 0 else p j, by omega, eN_s (k + 1), fun j b1 b2 => pp j (by omega), fun e => by omega, fun k' e => ?_⟩, ?_⟩
              · obtain rfl : k' = k + 1 := by omega
                exact s_next (congM N L m) inv hk (by omega) (Nat.le_refl _) ct (fun s' b1 b2 => by omega) (fun i hi => by show (if i = k then p k + 1 else if i = k + 1 then 0 else p i) = p i; rw [if_neg (by omega), if_neg (by omega)]) (if_pos rfl) (fun _ => by show (if k + 1 = k then p k + 1 else if k + 1 = k + 1 then 0 else p (k + 1)) = 0; rw [if_neg (by omega), if_pos rfl])
              · rw [m0, eN_s, muX_e (p := fun j => if j = k then p k + 1 else if j = k + 1 then 0 else p j) h8 (by omega) (fun j hj => by have := pp j hj; exact ⟨this.1, by omega⟩)]
                have := mu_next (n := N 8) (p := p) (p' := fun j => if j = k then p k + 1 else if j = k + 1 then 0 else p j) hk (s := p k) (by omega) (Nat.le_refl _) (fun i hi => by show (if i = k then p k + 1 else if i = k + 1 then 0 else p i) = p i; rw [if_neg (by omega), if_neg (by omega)]) (if_pos rfl) (fun _ => by show (if k + 1 = k then p k + 1 else if k + 1 = k + 1 then 0 else p (k + 1)) = 0; rw [if_neg (by omega), if_pos rfl])
                rw [if_pos w] at this
                exact this
            · rw [if_pos (nI_le (by omega) (by omega))] at pre
              refine Or.inl ⟨_, pre, ⟨k + 2, fun j => if j = k then p k + 1 else p j, by omega, eN_s (k + 1), fun j b1 b2 => ?_, fun e => by omega, fun k' e => ?_⟩, ?_⟩
              · show upd v9 k (eN (p k + 1)) j = eN (if j = k then p k + 1 else p j) ∧ (if j = k then p k + 1 else p j) ≤ 8
                by_cases w1 : j = k
                · subst w1; rw [upd_s, if_pos rfl]; exact ⟨rfl, by omega⟩
                · rw [if_neg w1]; exact uo j (by omega)
              · obtain rfl : k' = k + 1 := by omega
                exact s_next (congM N L m) inv hk (by omega) (Nat.le_refl _) ct (fun s' b1 b2 => by omega) (fun i hi => if_neg (by omega)) (if_pos rfl) (fun b => absurd b w)
              · obtain e : k + 1 = N 8 := by omega
                rw [m0, e, eN_s (N 8), muX_n h8]
                have := mu_back (n := N 8) (p := p) (p' := p) (k := k) (fun i hi => rfl)
                rw [e] at this
                omega
        · have nlt : ¬ eN (p k + 1) < nI m := by rw [← eN_s]; exact nI_nlt (by omega) (by omega)
          rw [if_neg nlt] at pre
          have cf : ∀ s', p k ≤ s' → candM N L m k (fun i => p i - 1) s' = false := fun s' b => by
            unfold candM
            rw [decide_eq_false (by omega)]; rfl
          refine Or.inl ⟨_, pre, ⟨k, p, by omega, rfl, fun j b1 b2 => uo j b1, fun e => ?_, fun k' e => ?_⟩, ?_⟩
          · subst e
            exact ⟨hk, s_none (congM N L m) inv hk cf⟩
          · subst e
            exact s_back (congM N L m) inv hk cf (fun i hi => rfl)
          · rw [m0, muX_e (p := p) h8 (by omega) (fun j hj => by have := uo j hj; exact ⟨this.1, by omega⟩)]
            exact mu_back (fun i hi => rfl)
  have start : RunM N L m (nI 0, upd tr 0 (eN 0)) := by
    refine ⟨1, fun _ => 0, by omega, by rw [eN_s], fun j b1 b2 => ?_, fun e => by omega, fun k e => ?_⟩
    · obtain rfl : j = 0 := by omega
      show upd tr 0 (eN 0) 0 = eN 0 ∧ (0 : Nat) ≤ 8
      exact ⟨upd_s _ _ _, Nat.zero_le _⟩
    · obtain rfl : k = 0 := by omega
      exact s_start (fun _ => rfl)
  have smu : muX (N 8) (nI 0, upd tr 0 (eN 0)) < F := by
    rcases Nat.eq_zero_or_pos (N 8) with z | z
    · have : muX (N 8) (nI 0, upd tr 0 (eN 0)) = 0 := by
        rw [eN_s]
        have := muX_n (n := N 8) (v := upd tr 0 (eN 0)) h8
        rw [z] at this ⊢
        exact this
      omega
    · rw [eN_s, muX_e (p := fun _ => 0) h8 z (fun j hj => by
        obtain rfl : j = 0 := by omega
        exact ⟨upd_s _ _ _, Nat.zero_le _⟩)]
      have z : muS (N 8) (fun _ => 0) (0 + 1) ≤ 337042 := mu_start (n := N 8) (p := fun _ => 0) rfl (by omega)
      exact Nat.lt_of_le_of_lt z (by omega)
  obtain ⟨⟨v2, v3⟩, g1, g2⟩ := lp_run (RunM N L m) (muX (N 8)) _ step (F := F) start smu
  rw [bd2_e g1]
  have Lc := lp_seqE (body := fX6_seeks_l89 (nI (N 8)) v3) (S := fun j => (nI j, fa_fill v3 be j)) (x0 := (nI 0, be)) (by rw [fa_fill_0]) (n := N 8) (a := fa_fill v3 be (N 8)) (F := F) (fun j hj => by
      show fX6_seeks_l89 (nI (N 8)) v3 (nI j, fa_fill v3 be j) = some (.inl (nI (j + 1), fa_fill v3 be (j + 1)))
      unfold fX6_seeks_l89
      rw [uc2_s, if_neg (nI_ge hj (by omega)), gd_nI (by omega) (by omega), nI_clamp (by omega), nm_s, gd_nI (by omega) (by omega), il_1, nI_add, fa_fill_succ]) (by
      show fX6_seeks_l89 (nI (N 8)) v3 (nI (N 8), fa_fill v3 be (N 8)) = _
      unfold fX6_seeks_l89
      rw [uc2_s, if_pos (nI_le (Nat.le_refl _) (by omega))]) (by omega)
  rw [bd1_e Lc]
  rcases g2 with ⟨a1, a2, a3⟩ | ⟨a1, c, a2, a3⟩
  · have a1 : v2 = eN 0 := a1
    subst a1
    refine ⟨nI 0, v3, fa_fill v3 be (N 8), ?_, Or.inl ⟨rfl, a3⟩⟩
    rw [if_pos (show ¬ eN 0 = nI (N 8) from fun z => by rw [eN_s, eN_eq (by omega) (by omega)] at z; omega)]
  · have a1 : v2 = nI (N 8) := a1
    subst a1
    refine ⟨nI 1, v3, fa_fill v3 be (N 8), ?_, Or.inr ⟨rfl, c, a2, fun j hj => by rw [fa_fill_in hj]; exact a3 j hj⟩⟩
    rw [if_neg (nn rfl)]; rfl
