theorem cellsAt_s {f : Nat → Int64} {k : Nat} (h : k < 9) : fX3_cellsAt f (nI k) = some (f k) := by
  unfold fX3_cellsAt
  rw [if_neg (nI_pos (by omega)), il_9, if_neg (nI_ge h (by omega)), gd_nI h (by omega), nI_clamp (by omega)]
theorem bendsAt_s {f : Nat → Int32} {k : Nat} (h : k < 9) : fX3_bendsAt f (nI k) = some (f k) := by
  unfold fX3_bendsAt
  rw [if_neg (nI_pos (by omega)), il_9, if_neg (nI_ge h (by omega)), gd_nI h (by omega), nI_clamp (by omega)]
theorem offsetAt_s {f : Nat → Int32} {k : Nat} (h : k < 9) : fX3_offsetAt f (nI k) = some (f k) := by
  unfold fX3_offsetAt
  rw [if_neg (nI_pos (by omega)), il_9, if_neg (nI_ge h (by omega)), gd_nI h (by omega), nI_clamp (by omega)]
theorem change_s {c : Nat → Int64} {b o : Nat → Int32} {k : Nat} {x : Int64} {y z : Int32} (h : k < 9) : fX3_changePitch c b o (nI k) x y z = some (vp_updL c k x, upd b k y, upd o k z) := by
  unfold fX3_changePitch
  rw [if_neg (nI_pos (by omega)), il_9, if_neg (nI_ge h (by omega)), if_neg (nI_ge h (by omega)), if_neg (nI_ge h (by omega)), gd_nI h (by omega), gd_nI h (by omega), gd_nI h (by omega), nI_clamp (by omega)]
theorem updL_s (f : Nat → Int64) (k : Nat) (x : Int64) : vp_updL f k x k = x := pk_uLs
theorem updL_n {f : Nat → Int64} {k j : Nat} {x : Int64} (h : j ≠ k) : vp_updL f k x j = f j := pk_uLn h
theorem has_s {p s : Nat} (hp : p < 2 ^ 31) (hs : s < 31) : fX3_hasPitch (nI p) (nI s) = some (bI (p.testBit s)) := by
  unfold fX3_hasPitch
  rw [bd1_e (isInN hp hs)]
  exact gbB _
theorem pil_s {p s : Nat} (hp : p < 2 ^ 31) (hs : s < 31) : fX1_hasPilot (nI p) (nI s) = some (bI (p.testBit s)) := by
  unfold fX1_hasPilot
  rw [bd1_e (isInN hp hs)]
  exact gbB _
theorem in_bI {p s : Nat} (hp : p < 2 ^ 31) (hs : s < 31) : fX5_isIn (nI p) (nI s) = some (bI (p.testBit s)) := isInN hp hs
/-- the class's press holds what the model's state tells -/
def PC (N : Nat → Nat) (pm sm : Nat) (cel : Nat → Int64) (ben off : Nat → Int32) : Prop := pm < 256 ∧ sm < 256 ∧ (∀ s, sm.testBit s = true → pm.testBit s = true) ∧ ∀ s, s < 8 → pm.testBit s = decide (N (60 + 5 * s + 0) = 1) ∧ (N (60 + 5 * s + 0) = 1 → cel s = lN (N (60 + 5 * s + 1)) ∧ ben s = nI (N (60 + 5 * s + 2)) ∧ off s = nI (N (60 + 5 * s + 3)) ∧ sm.testBit s = decide (N (60 + 5 * s + 4) = 1))
theorem shl_1 : ∀ a, a < 256 → (nI a <<< ((1 : Int32) &&& 31)) ||| (1 : Int32) = nI (2 * a + 1) := by decide +kernel
theorem shl_0 : ∀ a, a < 256 → nI a <<< ((1 : Int32) &&& 31) = nI (2 * a) := by decide +kernel
/-- present behind the move -/
def tM (N : Nat → Nat) (s : Nat) : Bool := if s = 0 then true else decide (N (60 + 5 * (s - 1) + 0) = 1)
def AM (N : Nat → Nat) (pm sm : Nat) (cel : Nat → Int64) (ben off : Nat → Int32) : Prop := ∀ s, s < 9 → pm.testBit s = tM N s ∧ (tM N s = true → cel s = lN (mvS N s 1) ∧ ben s = nI (mvS N s 2) ∧ off s = nI (mvS N s 3) ∧ sm.testBit s = decide (mvS N s 4 = 1))
theorem x3_move {F : Nat} {N : Nat → Nat} {set fac : Nat → Int32} {dce : Nat → Int64} {pm sm : Nat} {cel : Nat → Int64} {ben off : Nat → Int32} (hF : 100 < F) (h : DW N) (c : CD N set fac dce) (w : PW N) (p : PC N pm sm cel ben off) : ∃ cel' ben' off', fX3_moveOn F (nI pm) (nI sm) cel ben off (nI (N 0)) (nI (N 1)) set = some (nI (2 * pm + 1), nI (2 * sm), cel', ben', off') ∧ AM N (2 * pm + 1) (2 * sm) cel' ben' off' := by
  obtain ⟨p1, p2, p3, p4⟩ := p
  unfold fX3_moveOn
  have L : ∃ a, lp (fX3_moveOn_l3 set) F (nI 8, cel, ben, off) = some a ∧ ∀ j, 1 ≤ j → j ≤ 8 → a.1 j = cel (j - 1) ∧ a.2.1 j = ben (j - 1) ∧ a.2.2 j = off (j - 1) + nI (N 5) := by
    refine lp_cnt (fun t x => x.1 = nI (8 - t) ∧ (∀ j, 8 - t < j → j ≤ 8 → x.2.1 j = cel (j - 1) ∧ x.2.2.1 j = ben (j - 1) ∧ x.2.2.2 j = off (j - 1) + nI (N 5)) ∧ ∀ j, j ≤ 8 - t → x.2.1 j = cel j ∧ x.2.2.1 j = ben j ∧ x.2.2.2 j = off j) 8 _ ?_ ?_ ⟨rfl, fun j b1 b2 => by omega, fun _ _ => ⟨rfl, rfl, rfl⟩⟩ (by omega)
    · rintro t ht ⟨v10, v11, v12, v13⟩ ⟨e1, a, b⟩
      have e1 : v10 = nI (8 - t) := e1
      subst e1
      obtain ⟨k, hk⟩ : ∃ k, 8 - t = k + 1 := ⟨7 - t, by omega⟩
      rw [hk] at a b ⊢
      have bk := b k (by omega)
      have bk : v11 k = cel k ∧ v12 k = ben k ∧ v13 k = off k := bk
      refine ⟨(nI k, vp_updL v11 (k + 1) (cel k), upd v12 (k + 1) (ben k), upd v13 (k + 1) (off k + nI (N 5))), ?_, by show nI k = nI (8 - (t + 1)); congr 1; omega, fun j b1 b2 => ?_, fun j b1 => ?_⟩
      · unfold fX3_moveOn_l3
        rw [uc4_s, il_1, if_neg (nI_nlt (by omega) (by omega)), show nI (k + 1) - nI 1 = nI k from nI_pred k, bd1_e (cellsAt_s (by omega)), bd1_e (bendsAt_s (by omega)), bd1_e (offsetAt_s (by omega)), bd1_e (set_2 c), bd3_e (change_s (by omega)), bk.1, bk.2.1, bk.2.2, show nI (k + 1) + -nI 1 = nI k from pk_m1 k]
      · show vp_updL v11 (k + 1) (cel k) j = _ ∧ upd v12 (k + 1) (ben k) j = _ ∧ upd v13 (k + 1) (off k + nI (N 5)) j = _
        by_cases y : j = k + 1
        · subst y; rw [updL_s, upd_s, upd_s]; exact ⟨rfl, rfl, rfl⟩
        · rw [updL_n y, upd_n y, upd_n y]; exact a j (by omega) b2
      · show vp_updL v11 (k + 1) (cel k) j = _ ∧ upd v12 (k + 1) (ben k) j = _ ∧ upd v13 (k + 1) (off k + nI (N 5)) j = _
        rw [updL_n (by omega), upd_n (by omega), upd_n (by omega)]
        exact b j (by omega)
    · rintro ⟨v10, v11, v12, v13⟩ ⟨e1, a, b⟩
      have e1 : v10 = nI 0 := e1
      subst e1
      refine ⟨(v11, v12, v13), ?_, fun j b1 b2 => a j (by omega) b2⟩
      unfold fX3_moveOn_l3
      rw [uc4_s, if_pos (show nI 0 < 1 by decide +kernel)]
  obtain ⟨⟨c1, c2, c3⟩, l1, lc⟩ := L
  have lc : ∀ j, 1 ≤ j → j ≤ 8 → c1 j = cel (j - 1) ∧ c2 j = ben (j - 1) ∧ c3 j = off (j - 1) + nI (N 5) := lc
  have ch := change_s (c := c1) (b := c2) (o := c3) (k := 0) (x := lN (alS N)) (y := nI 0) (z := nI 0) (by omega)
  have al : fX1_allCells (nI (N 0)) (nI (N 1)) = some (lN (alS N)) := x1_all h.1.2.1 h.1.2.2.2.1
  rw [show (8 : Int32) = nI 8 from rfl, bd3_e l1, bd1_e al, show ((0 : Int32)) = nI 0 from rfl, bd3_e ch, shl_1 pm p1, nm_s, shl_0 sm p2, nm_s]
  refine ⟨_, _, _, rfl, fun s hs => ?_⟩
  have g5 : N 5 ≤ 9 := h.2.2.1.2.2.2.1
  rcases Nat.eq_zero_or_pos s with z | z
  · subst z
    refine ⟨?_, fun _ => ⟨updL_s _ _ _, upd_s _ _ _, upd_s _ _ _, ?_⟩⟩
    · rw [Nat.testBit_zero]; simp [tM]
    · rw [Nat.testBit_zero]; simp [mvS]
  · obtain ⟨k, rfl⟩ : ∃ k, s = k + 1 := ⟨s - 1, by omega⟩
    have tm : tM N (k + 1) = decide (N (60 + 5 * k + 0) = 1) := by unfold tM; rw [if_neg (by omega)]; rfl
    have pk := p4 k (by omega)
    have wk := w k (by omega)
    refine ⟨?_, fun q => ?_⟩
    · rw [tm, Nat.testBit_add_one, show (2 * pm + 1) / 2 = pm by omega]
      exact pk.1
    · rw [tm, decide_eq_true_eq] at q
      have pq := pk.2 q
      have l := lc (k + 1) (by omega) (by omega)
      rw [show k + 1 - 1 = k by omega] at l
      have m1 : mvS N (k + 1) 1 = N (60 + 5 * k + 1) := by unfold mvS; rw [if_neg (by omega), if_neg (by omega)]; rfl
      have m2 : mvS N (k + 1) 2 = N (60 + 5 * k + 2) := by unfold mvS; rw [if_neg (by omega), if_neg (by omega)]; rfl
      have m3 : mvS N (k + 1) 3 = N (60 + 5 * k + 3) + N 5 := by unfold mvS; rw [if_neg (by omega), if_pos rfl]; rfl
      have m4 : mvS N (k + 1) 4 = N (60 + 5 * k + 4) := by unfold mvS; rw [if_neg (by omega), if_neg (by omega)]; rfl
      rw [updL_n (by omega), upd_n (by omega), upd_n (by omega), m1, m2, m3, m4, l.1, l.2.1, l.2.2, pq.1, pq.2.1, pq.2.2.1, nI_add]
      refine ⟨rfl, rfl, rfl, ?_⟩
      rw [Nat.testBit_add_one, show 2 * sm / 2 = sm by omega]
      exact pq.2.2.2
theorem x3_bends {F : Nat} {N : Nat → Nat} {set fac : Nat → Int32} {dce : Nat → Int64} {ben : Nat → Int32} {s b : Nat} (hF : 100 < F) (h : DW N) (c : CD N set fac dce) (hs : s < 9) (hb : ben s = nI b) (hb2 : b < 64) : fX3_hasAllBends F ben (nI (N 8)) fac (nI s) = some (bI (decide (sdf (bnS N (N 8)) b = 0))) := by
  have h8 := h.2.2.2.1.1
  unfold fX3_hasAllBends
  have L := lp_find (body := fX3_hasAllBends_l2 ben (nI (N 8)) fac (nI s)) (fun o => decide (kd N o = 1) && !b.testBit o) (N 8) (a := ()) (b := ()) (F := F) ?_ ?_ ?_ (by omega)
  · refine (bdS2_if L).trans ?_
    have e : decide (sdf (bnS N (N 8)) b = 0) = !exB (fun o => decide (kd N o = 1) && !b.testBit o) (N 8) := by
      rw [Bool.eq_iff_iff, decide_eq_true_eq, Bool.not_eq_true', Bool.eq_false_iff, ne_eq, exB_iff, sdf_z (Nat.lt_trans (bn_lt h) (by decide))]
      constructor
      · rintro z ⟨o, ho, y⟩
        rw [Bool.and_eq_true, decide_eq_true_eq, Bool.not_eq_true'] at y
        have := z o (by rw [bnS, orb_tb, decide_eq_true ho, y.1]; rfl)
        rw [y.2] at this
        cases this
      · intro z i hi
        rw [bnS, orb_tb, Bool.and_eq_true, decide_eq_true_eq, decide_eq_true_eq] at hi
        cases y : b.testBit i with
        | true => rfl
        | false => exact absurd ⟨i, hi.1, by rw [hi.2, y]; rfl⟩ z
    rw [e]
    cases exB (fun o => decide (kd N o = 1) && !b.testBit o) (N 8) <;> rfl
  all_goals
    have key : ∀ o, o < N 8 → fX3_hasAllBends_l2 ben (nI (N 8)) fac (nI s) (nI o) = if (decide (kd N o = 1) && !b.testBit o) = true then some (.inr (.inl ())) else some (.inl (nI (o + 1))) := by
      intro o ho
      have kk := kd_le h ho
      unfold fX3_hasAllBends_l2
      rw [uc1_s, if_neg (nI_ge ho (by omega)), bd1_e (fac_k h c ho)]
      show (if ¬ nI (kd N o) = 1 then _ else _) = _
      by_cases y : kd N o = 1
      · rw [if_neg (nn (show nI (kd N o) = 1 from by rw [y]; rfl)), bd1_e (bendsAt_s hs), hb, bd1_e (in_bI (by omega) (by omega)), decide_eq_true y]
        cases b.testBit o
        · rw [if_neg (nn (show bI false = 0 from rfl))]; rfl
        · rw [if_pos (show ¬ bI true = 0 by decide +kernel), il_1, nI_add]; rfl
      · rw [if_pos (show ¬ nI (kd N o) = 1 from fun z => y ((nI_eq (b := 1) (by omega) (by omega)).mp z)), decide_eq_false y, il_1, nI_add]; rfl
  · intro o ho q
    rw [key o ho, if_neg (by rw [q]; simp)]
  · intro o ho q
    rw [key o ho, if_pos q]
  · unfold fX3_hasAllBends_l2
    rw [uc1_s, if_pos (nI_le (Nat.le_refl _) (by omega))]
def gM (N : Nat → Nat) (s : Nat) : Bool := gdS N (mvS N s 1) (mvS N s 2) (mvS N s 4)
def gaS (N : Nat → Nat) (s : Nat) : Nat := fb_sm (fun i => if decide (psS N (N 8) ≤ i) && tM N i && gM N i then 1 else 0) s
def baS (N : Nat → Nat) (s : Nat) : Nat := fb_sm (fun i => if decide (psS N (N 8) ≤ i) && tM N i && !gM N i then 1 else 0) s
theorem rev8 (f : Nat → Nat) : fb_sm (fun i => f (7 - i)) 8 = fb_sm f 8 := by
  simp only [fb_sm, Nat.reduceSub]
  omega
theorem ga_eq {N : Nat → Nat} : gaS N 9 = gcS N 8 + ogS N := by
  have e1 : gcS N 8 = fb_sm (fun s => if cutB N s && godB N s then 1 else 0) 8 := rev8 (fun s => if cutB N s && godB N s then 1 else 0)
  have e2 : gaS N 9 = fb_sm (fun i => if decide (psS N (N 8) ≤ i) && tM N i && gM N i then 1 else 0) 1 + fb_sm (fun k => if decide (psS N (N 8) ≤ 1 + k) && tM N (1 + k) && gM N (1 + k) then 1 else 0) 8 := fb_sm_split _ 1 8
  have e3 : fb_sm (fun k => if decide (psS N (N 8) ≤ 1 + k) && tM N (1 + k) && gM N (1 + k) then 1 else 0) 8 = fb_sm (fun s => if cutB N s && godB N s then 1 else 0) 8 := fb_sm_cong (fun k hk => by
    have t : tM N (1 + k) = decide (N (60 + 5 * k + 0) = 1) := by unfold tM; rw [if_neg (by omega), show 1 + k - 1 = k by omega]
    have g : gM N (1 + k) = godB N k := by
      unfold gM godB mvS
      rw [if_neg (by omega), if_neg (by omega), if_neg (by omega), if_neg (by omega), if_neg (by omega), if_neg (by omega), show 1 + k - 1 = k by omega]
    rw [t, g]
    unfold cutB
    rw [Bool.and_comm (decide (psS N (N 8) ≤ 1 + k)), Nat.add_comm 1 k])
  have e4 : fb_sm (fun i => if decide (psS N (N 8) ≤ i) && tM N i && gM N i then 1 else 0) 1 = ogS N := by
    show 0 + (if decide (psS N (N 8) ≤ 0) && tM N 0 && gM N 0 then 1 else 0) = ogS N
    unfold ogS gM tM mvS
    by_cases q : psS N (N 8) = 0
    · simp [q]
    · simp [q]
  rw [e2, e3, e4, e1, Nat.add_comm]
theorem ba_eq {N : Nat → Nat} : baS N 9 = bcS N 8 + obS N := by
  have e1 : bcS N 8 = fb_sm (fun s => if cutB N s && !godB N s then 1 else 0) 8 := rev8 (fun s => if cutB N s && !godB N s then 1 else 0)
  have e2 : baS N 9 = fb_sm (fun i => if decide (psS N (N 8) ≤ i) && tM N i && !gM N i then 1 else 0) 1 + fb_sm (fun k => if decide (psS N (N 8) ≤ 1 + k) && tM N (1 + k) && !gM N (1 + k) then 1 else 0) 8 := fb_sm_split _ 1 8
  have e3 : fb_sm (fun k => if decide (psS N (N 8) ≤ 1 + k) && tM N (1 + k) && !gM N (1 + k) then 1 else 0) 8 = fb_sm (fun s => if cutB N s && !godB N s then 1 else 0) 8 := fb_sm_cong (fun k hk => by
    have t : tM N (1 + k) = decide (N (60 + 5 * k + 0) = 1) := by unfold tM; rw [if_neg (by omega), show 1 + k - 1 = k by omega]
    have g : gM N (1 + k) = godB N k := by
      unfold gM godB mvS
      rw [if_neg (by omega), if_neg (by omega), if_neg (by omega), if_neg (by omega), if_neg (by omega), if_neg (by omega), show 1 + k - 1 = k by omega]
    rw [t, g]
    unfold cutB
    rw [Bool.and_comm (decide (psS N (N 8) ≤ 1 + k)), Nat.add_comm 1 k])
  have e4 : fb_sm (fun i => if decide (psS N (N 8) ≤ i) && tM N i && !gM N i then 1 else 0) 1 = obS N := by
    show 0 + (if decide (psS N (N 8) ≤ 0) && tM N 0 && !gM N 0 then 1 else 0) = obS N
    unfold obS gM tM mvS
    by_cases q : psS N (N 8) = 0
    · simp [q]
      cases gdS N (alS N) 0 0 <;> rfl
    · simp [q]
  rw [e2, e3, e4, e1, Nat.add_comm]
theorem clr_tb {a s i : Nat} (ha : a < 512) (hs : s < 9) : (a &&& (2 ^ s ^^^ 4294967295)).testBit i = (a.testBit i && decide (i ≠ s)) := by
  rw [Nat.testBit_and, Nat.testBit_xor, Nat.testBit_two_pow, show (4294967295 : Nat) = 2 ^ 32 - 1 from rfl, Nat.testBit_two_pow_sub_one]
  rcases Nat.lt_or_ge i 9 with q | q
  · rw [decide_eq_true (show i < 32 by omega), Bool.xor_true]
    congr 1
    by_cases z : s = i
    · simp [z]
    · simp [z]; omega
  · rw [tb_big (n := 9) ha q]; rfl
theorem clr_I {a s : Nat} (hs : s < 9) : nI a &&& (((1 : Int32) <<< (nI s &&& 31)) ^^^ (-1 : Int32)) = nI (a &&& (2 ^ s ^^^ 4294967295)) := by
  rw [one_shlI s (by omega), m1_I, fb_xorI, fa_and]
