def dec (v : Int32) : Nat := (v + 1).toNatClampNeg
theorem dec_e {p : Nat} (h : p < 2 ^ 31) : dec (eN p) = p := by
  unfold dec
  rw [eN_up, nI_clamp h]
def candM (N : Nat → Nat) (L m k : Nat) (c : Nat → Nat) (s : Nat) : Bool := decide (s < m) && tstS N L k c s
def waitB (N : Nat → Nat) (k : Nat) : Bool := exB (fun j => tcB N k j && decide (kd N j ≠ kd N k)) (N 8)
def loW (N : Nat → Nat) (k : Nat) : Nat := if waitB N k = true ∧ kd N k = 1 then 1 + N 4 else 0
def hiW (N : Nat → Nat) (m k : Nat) : Nat := if waitB N k = true ∧ ¬ kd N k = 1 then m - (1 + N 4) else m
def candC (N : Nat → Nat) (L m k : Nat) (c : Nat → Nat) (s : Nat) : Bool := (decide (loW N k ≤ s) && decide (s < hiW N m k)) && tstS N L k c s
theorem congM (N : Nat → Nat) (L m : Nat) : Cong (candM N L m) := fun k b b' s h => by
  unfold candM
  rw [tst_cong N L k s h]
theorem congC (N : Nat → Nat) (L m : Nat) : Cong (candC N L m) := fun k b b' s h => by
  unfold candC
  rw [tst_cong N L k s h]
theorem tst_conf {N : Nat → Nat} {L k : Nat} {c : Nat → Nat} {s j : Nat} (h : tstS N L k c s = true) (hj : j < k) : conf N k s j (c j) = false := by
  unfold tstS at h
  rw [Bool.and_eq_true, Bool.not_eq_true'] at h
  rw [Bool.eq_false_iff]
  intro z
  have := (exB_iff (fun j => conf N k s j (c j)) k).mpr ⟨j, hj, z⟩
  rw [h.1] at this
  cases this
/-- a bend waits for the punch that it touches -/
theorem sol_gap {N : Nat → Nat} (h : DW N) {L m : Nat} {b : Nat → Nat} (hb : SolB (N 8) (candM N L m) b) {x y : Nat} (hx : x < N 8) (hy : y < N 8) (kx : kd N x = 1) (ky : kd N y = 0) (t : tcB N x y = true) : b y + 1 + N 4 ≤ b x := by
  have ex := hb x hx
  have ey := hb y hy
  unfold candM at ex ey
  rw [Bool.and_eq_true] at ex ey
  rcases Nat.lt_trichotomy x y with q | q | q
  · have z := tst_conf ey.2 q
    unfold conf earlyC at z
    rw [tcB_sym h hy hx, t, Bool.true_and, if_neg (by omega), if_neg (by omega)] at z
    have := of_decide_eq_false z
    omega
  · subst q; omega
  · have z := tst_conf ex.2 q
    unfold conf earlyC at z
    rw [t, Bool.true_and, if_neg (by omega), if_pos kx] at z
    have := of_decide_eq_false z
    omega
theorem sol_eq {N : Nat → Nat} (h : DW N) (L m : Nat) (b : Nat → Nat) : SolB (N 8) (candC N L m) b ↔ SolB (N 8) (candM N L m) b := by
  constructor
  · intro hb k hk
    have z := hb k hk
    unfold candC at z
    rw [Bool.and_eq_true, Bool.and_eq_true, decide_eq_true_eq, decide_eq_true_eq] at z
    unfold candM
    rw [Bool.and_eq_true, decide_eq_true_eq]
    refine ⟨?_, z.2⟩
    have := z.1.2
    unfold hiW at this
    split at this <;> omega
  · intro hb k hk
    have z := hb k hk
    unfold candM at z
    rw [Bool.and_eq_true, decide_eq_true_eq] at z
    unfold candC
    rw [Bool.and_eq_true, Bool.and_eq_true, decide_eq_true_eq, decide_eq_true_eq]
    refine ⟨?_, z.2⟩
    by_cases w : waitB N k = true
    · obtain ⟨j, hj, t⟩ := (exB_iff _ _).mp w
      rw [Bool.and_eq_true, decide_eq_true_eq] at t
      have k1 := kd_le h hk
      have k2 := kd_le h hj
      unfold loW hiW
      by_cases q : kd N k = 1
      · have := sol_gap h hb hk hj q (by omega) t.1
        rw [if_pos ⟨w, q⟩, if_neg (fun z => z.2 q)]
        omega
      · have := sol_gap h hb hj hk (by omega) (by omega) (by rw [tcB_sym h hj hk]; exact t.1)
        have zj := hb j hj
        unfold candM at zj
        rw [Bool.and_eq_true, decide_eq_true_eq] at zj
        rw [if_neg (fun z => q z.2), if_pos ⟨w, q⟩]
        omega
    · unfold loW hiW
      rw [if_neg (fun z => w z.1), if_neg (fun z => w z.1)]
      omega
theorem wait_z {N : Nat → Nat} (h : DW N) {k : Nat} (hk : k < N 8) {ρ : Type} {K : Int32 → Option ρ} : bd1 (bd1 (if nI (kd N k) = 0 then some (nI (bnS N (N 8))) else some (nI (bnS N (N 8)) ^^^ (-1 : Int32))) fun v3 => if nI (tcS N k) &&& v3 = 0 then some (0 : Int32) else some (1 : Int32)) K = K (bI (waitB N k)) := by
  have h8 := h.2.2.2.1.1
  have k1 := kd_le h hk
  have tb := tc_lt h k
  have key : ∀ (x : Nat), (∀ j, j < N 8 → (x.testBit j = true ↔ kd N j ≠ kd N k)) → ((nI (tcS N k) &&& nI x = 0) ↔ ¬ waitB N k = true) := by
    intro x hx
    rw [fa_and, nI_z (Nat.lt_of_le_of_lt Nat.and_le_left (by omega)), meet0, waitB, exB_iff]
    apply not_congr
    constructor
    · rintro ⟨j, a1, a2⟩
      rw [tc_tb, Bool.and_eq_true, decide_eq_true_eq] at a1
      exact ⟨j, a1.1, by rw [a1.2, Bool.true_and]; exact decide_eq_true ((hx j a1.1).mp a2)⟩
    · rintro ⟨j, a1, a2⟩
      rw [Bool.and_eq_true, decide_eq_true_eq] at a2
      exact ⟨j, by rw [tc_tb, a2.1, decide_eq_true a1]; rfl, (hx j a1).mpr a2.2⟩
  have fin : ∀ (x : Nat), (∀ j, j < N 8 → (x.testBit j = true ↔ kd N j ≠ kd N k)) → bd1 (if nI (tcS N k) &&& nI x = 0 then some (0 : Int32) else some (1 : Int32)) K = K (bI (waitB N k)) := by
    intro x hx
    cases q : waitB N k
    · rw [if_pos ((key x hx).mpr (by rw [q]; simp))]; rfl
    · rw [if_neg (fun z => (key x hx).mp z q)]; rfl
  by_cases q : kd N k = 0
  · rw [if_pos (show nI (kd N k) = 0 from by rw [q]; rfl), bd1_s]
    apply fin
    intro j hj
    have := kd_le h hj
    rw [bnS, orb_tb, decide_eq_true hj, Bool.true_and, decide_eq_true_eq]
    omega
  · rw [if_neg (show ¬ nI (kd N k) = 0 from nI_ne0 (by omega) (by omega)), bd1_s, m1_I, fb_xorI]
    apply fin
    intro j hj
    have := kd_le h hj
    rw [Nat.testBit_xor, bnS, orb_tb, decide_eq_true hj, Bool.true_and, show (4294967295 : Nat) = 2 ^ 32 - 1 from rfl, Nat.testBit_two_pow_sub_one, decide_eq_true (show j < 32 by omega), Bool.xor_true, Bool.not_eq_true', decide_eq_false_iff_not]
    omega
def NextR (cand : Nat → (Nat → Nat) → Nat → Bool) (k t : Nat) (p : Nat → Nat) (q : Nat) : Prop := (q = 0 ∧ ∀ s', t ≤ s' → cand k (fun i => p i - 1) s' = false) ∨ ∃ s, q = s + 1 ∧ s < 8 ∧ t ≤ s ∧ cand k (fun i => p i - 1) s = true ∧ ∀ s', t ≤ s' → s' < s → cand k (fun i => p i - 1) s' = false
theorem x2_next {F : Nat} {N : Nat → Nat} {ch tou frc : Nat → Int32} {p : Nat → Nat} {L k m : Nat} (hF : 100 < F) (h : DW N) (r : PR N tou frc) (hk : k < N 8) (hm : m ≤ 8) (hp : ChP k ch p) (hpk : p k ≤ 8) (hck : ch k = eN (p k)) (hL : L < 2 ^ 30) : ∃ q, fX2_nextStation F (nI L) (nI (N 4)) (nI (bnS N (N 8))) ch tou frc (nI k) (nI m) = some (eN q) ∧ NextR (candC N L m) k (p k) p q := by
  have h8 := h.2.2.2.1.1
  have g3 : N 4 ≤ 3 := h.2.2.1.2.2.1
  have k1 := kd_le h hk
  unfold fX2_nextStation
  rw [bd1_e (bn_in h hk), bd1_e (touchOf_s (by omega)), (r k hk).1]
  have ws : ∀ {ρ : Type} (K : Int32 → Option ρ), (bd1 (if nI (kd N k) = 0 then some (nI (bnS N (N 8))) else some (nI (bnS N (N 8)) ^^^ (-1 : Int32))) fun v3 => bd1 (if nI (tcS N k) &&& v3 = 0 then some (0 : Int32) else some (1 : Int32)) K) = K (bI (waitB N k)) := by
    intro ρ K
    rw [← wait_z h hk (K := K)]
    by_cases q : nI (kd N k) = 0
    · rw [if_pos q, bd1_s, bd1_s]
    · rw [if_neg q, bd1_s, bd1_s]
  rw [ws, bd1_e (chosen_s (by omega)), hck, eN_up, nm_s]
  -- the loop from f0, below hi
  have lp : ∀ (f0 : Nat) (e : Int32), f0 ≤ 20 → (∀ s, s ≤ 30 → ((e ≤ nI s) ↔ ¬ s < hiW N m k)) → f0 = (if loW N k ≤ p k then p k else loW N k) → ∃ q, bdS2 (lp (fX2_nextStation_l98 F (nI L) (nI (N 4)) (nI (bnS N (N 8))) ch tou frc (nI k) e) F (nI f0)) (uc1 fun v12 => some v12) (uc0 (some (-1 : Int32))) = some (eN q) ∧ NextR (candC N L m) k (p k) p q := by
    intro f0 e hf he e0
    have hh : hiW N m k ≤ 8 := by unfold hiW; split <;> omega
    have body : ∀ s, s < hiW N m k → fX2_nextStation_l98 F (nI L) (nI (N 4)) (nI (bnS N (N 8))) ch tou frc (nI k) e (nI s) = if tstS N L k (fun i => p i - 1) s = true then some (.inr (.inl (nI s))) else some (.inl (nI (s + 1))) := by
      intro s hs
      unfold fX2_nextStation_l98
      rw [uc1_s, if_neg (fun z => (he s (by omega)).mp z hs), bd1_e (x2_fits hF h r hk (by omega) hp hL), il_1, nI_add]
      cases tstS N L k (fun i => p i - 1) s <;> rfl
    have lo1 : loW N k ≤ f0 := by rw [e0]; split <;> omega
    have lo2 : p k ≤ f0 := by rw [e0]; split <;> omega
    have lo3 : ∀ s', p k ≤ s' → s' < f0 → candC N L m k (fun i => p i - 1) s' = false := by
      intro s' a1 a2
      have : ¬ loW N k ≤ s' := by
        rw [e0] at a2
        split at a2 <;> omega
      unfold candC
      rw [decide_eq_false this]; rfl
    have ex : fX2_nextStation_l98 F (nI L) (nI (N 4)) (nI (bnS N (N 8))) ch tou frc (nI k) e (nI (if f0 ≤ hiW N m k then hiW N m k else f0)) = some (.inr (.inr ())) := by
      unfold fX2_nextStation_l98
      rw [uc1_s, if_pos ((he _ (by split <;> omega)).mpr (by split <;> omega))]
    by_cases q : ∃ d, d < hiW N m k - f0 ∧ tstS N L k (fun i => p i - 1) (f0 + d) = true
    · obtain ⟨d, d1, d2, d3⟩ := fb_first (p := fun d => tstS N L k (fun i => p i - 1) (f0 + d) = true) q
      have Lq := lp_seqE (body := fX2_nextStation_l98 F (nI L) (nI (N 4)) (nI (bnS N (N 8))) ch tou frc (nI k) e) (S := fun j => nI (f0 + j)) (x0 := nI f0) rfl (n := d) (a := .inl (nI (f0 + d))) (F := F) (fun j hj => by
        show _ = some (Sum.inl (nI (f0 + j + 1)))
        rw [body _ (by omega), if_neg (d3 j hj)]) (by
        show fX2_nextStation_l98 F (nI L) (nI (N 4)) (nI (bnS N (N 8))) ch tou frc (nI k) e (nI (f0 + d)) = _
        rw [body _ (by omega), if_pos d2]) (by omega)
      refine ⟨f0 + d + 1, ?_, Or.inr ⟨f0 + d, rfl, by omega, by omega, ?_, ?_⟩⟩
      · rw [Lq, bdS2_1, uc1_s, ← eN_s]
      · unfold candC
        rw [d2, decide_eq_true (show loW N k ≤ f0 + d by omega), decide_eq_true (show f0 + d < hiW N m k by omega)]; rfl
      · intro s' a1 a2
        rcases Nat.lt_or_ge s' f0 with z | z
        · exact lo3 s' a1 z
        · have := d3 (s' - f0) (by omega)
          rw [show f0 + (s' - f0) = s' by omega] at this
          unfold candC
          rw [Bool.eq_false_iff.mpr this, Bool.and_false]
    · have Lq := lp_seqE (body := fX2_nextStation_l98 F (nI L) (nI (N 4)) (nI (bnS N (N 8))) ch tou frc (nI k) e) (S := fun j => nI (f0 + j)) (x0 := nI f0) rfl (n := hiW N m k - f0) (a := .inr ()) (F := F) (fun j hj => by
        show _ = some (Sum.inl (nI (f0 + j + 1)))
        rw [body _ (by omega), if_neg (fun z => q ⟨j, hj, z⟩)]) (by
        show fX2_nextStation_l98 F (nI L) (nI (N 4)) (nI (bnS N (N 8))) ch tou frc (nI k) e (nI (f0 + (hiW N m k - f0))) = _
        rw [← ex]
        congr 2
        split <;> omega) (by omega)
      refine ⟨0, ?_, Or.inl ⟨rfl, ?_⟩⟩
      · rw [Lq, bdS2_2, uc0_s, eN_0]
      · intro s' a1
        rcases Nat.lt_or_ge s' f0 with z | z
        · exact lo3 s' a1 z
        · unfold candC
          by_cases y : s' < hiW N m k
          · have : ¬ tstS N L k (fun i => p i - 1) s' = true := fun x => q ⟨s' - f0, by omega, by rw [show f0 + (s' - f0) = s' by omega]; exact x⟩
            rw [Bool.eq_false_iff.mpr this, Bool.and_false]
          · rw [decide_eq_false y, Bool.and_false]; rfl
  by_cases w : waitB N k = true
  · rw [w]
    by_cases q : kd N k = 1
    · rw [if_neg (show ¬ bI true = 0 by decide +kernel), if_neg (show ¬ nI (kd N k) = 0 from nI_ne0 (by omega) (by omega)), nm_s, bd2_s]
      have e1 : (if nI (p k) < (1 : Int32) + nI (N 4) then (1 : Int32) + nI (N 4) else nI (p k)) = nI (if p k < 1 + N 4 then 1 + N 4 else p k) := by
        rw [il_1, nI_add]
        by_cases z : p k < 1 + N 4
        · rw [if_pos (nI_lt z (by omega)), if_pos z]
        · rw [if_neg (nI_nlt (by omega) (by omega)), if_neg z]
      rw [e1]
      refine lp _ _ (by split <;> omega) (fun s hs => ?_) ?_
      · unfold hiW
        rw [if_neg (fun z => z.2 q), nI_leI (by omega) (by omega)]
        omega
      · have lo : loW N k = 1 + N 4 := by unfold loW; rw [if_pos ⟨w, q⟩]
        rw [lo]
        split <;> split <;> omega
    · rw [if_neg (show ¬ bI true = 0 by decide +kernel), if_pos (show nI (kd N k) = 0 from by rw [show kd N k = 0 by omega]; rfl), if_neg (show ¬ bI true = 0 by decide +kernel), nm_s, bd2_s]
      refine lp _ _ (by omega) (fun s hs => ?_) ?_
      · unfold hiW
        rw [if_pos ⟨w, q⟩, fa_le, il_1, nI_toInt (show s < 2 ^ 31 by omega)]
        have i1 := nI_toInt (n := m) (by omega)
        have i2 := nI_toInt (n := 1) (by omega)
        have i3 := nI_toInt (n := N 4) (by omega)
        have i4 : (nI m - nI 1).toInt = (m : Int) - 1 := by rw [fb_subI (by omega) (by omega)]; omega
        rw [fb_subI (by omega) (by omega)]
        omega
      · have lo : loW N k = 0 := by unfold loW; rw [if_neg (fun z => q z.2)]
        rw [lo, if_pos (Nat.zero_le _)]
  · rw [Bool.eq_false_iff.mpr w, if_pos (show bI false = 0 from rfl), if_pos (show bI false = 0 from rfl), bd2_s]
    refine lp _ _ (by omega) (fun s hs => ?_) ?_
    · unfold hiW
      rw [if_neg (fun z => w z.1), nI_leI (by omega) (by omega)]
      omega
    · have lo : loW N k = 0 := by unfold loW; rw [if_neg (fun z => w z.1)]
      rw [lo, if_pos (Nat.zero_le _)]
