/-! the command text: what is read where, both sides -/
def TX (t : Nat → Nat) (len : Nat) : Prop := len ≤ 150 ∧ ∀ j, j < len → t j < 128
def TB (t : Nat → Nat) (len : Nat) (f : Nat → Int32) : Prop := ∀ j, j < len → f j = nI (t j)
def pI (t : Nat → Nat) (len lo hi a : Nat) : Bool := decide (a < len) && (decide (lo ≤ t a) && decide (t a ≤ hi))
theorem pI_y {t : Nat → Nat} {len lo hi a : Nat} : pI t len lo hi a = true ↔ a < len ∧ lo ≤ t a ∧ t a ≤ hi := by
  unfold pI
  rw [Bool.and_eq_true, Bool.and_eq_true, decide_eq_true_iff, decide_eq_true_iff, decide_eq_true_iff]
theorem pI_n {t : Nat → Nat} {len lo hi a : Nat} : pI t len lo hi a = false ↔ ¬ (a < len ∧ lo ≤ t a ∧ t a ≤ hi) := by
  rw [← pI_y]
  cases pI t len lo hi a <;> simp
theorem pI_ge {t : Nat → Nat} {len lo hi a : Nat} (h : len ≤ a) : pI t len lo hi a = false := pI_n.mpr fun z => by omega
theorem bI_t : bI true = nI 1 := rfl
theorem bI_f : bI false = nI 0 := rfl
theorem nn1 : ¬ nI 1 = 0 := nI_ne0 (by omega) (by omega)
theorem m_isAt {t : Nat → Nat} {len a lo hi : Nat} {mt : Nat → Int32} (h : TX t len) (hm : TB t len mt) (ha : a < 1000) (hlo : lo < 1000) (hhi : hi < 1000) : fX6_isAt mt (nI len) (nI a) (nI lo) (nI hi) = some (bI (pI t len lo hi a)) := by
  have hl := h.1
  unfold fX6_isAt
  by_cases q : a < len
  · rw [if_neg (nI_ge q (by omega)), gd_nI (by omega) (by omega), nI_clamp (by omega), hm a q]
    have := h.2 a q
    by_cases q1 : lo ≤ t a ∧ t a ≤ hi
    · rw [bd1_e (in_y q1.1 q1.2 (by omega)), if_neg nn1, pI_y.mpr ⟨q, q1⟩]; rfl
    · rw [bd1_e (in_no (by omega) (by omega) (by rw [nI_toInt (by omega)]; omega)), if_pos nI_0, pI_n.mpr fun z => q1 z.2]; rfl
  · rw [if_pos (nI_le (by omega) (by omega)), pI_ge (by omega)]; rfl
def byI (t : Nat → Nat) (len a : Nat) : Int32 := if a < len then nI (t a) else (-1 : Int32)
theorem c_byte {t : Nat → Nat} {len a : Nat} {cb : Nat → Int32} (h : TX t len) (hb : TB t len cb) (ha : a < 1000) : fX0_byteAt cb (nI len) (nI a) = some (byI t len a) := by
  have hl := h.1
  unfold fX0_byteAt byI
  rw [if_neg (nI_pos (by omega))]
  by_cases q : a < len
  · rw [if_neg (nI_ge q (by omega)), il_150, if_neg (nI_ge (by omega) (by omega)), gd_nI (by omega) (by omega), nI_clamp (by omega), hb a q, if_pos q]
  · rw [if_pos (nI_le (by omega) (by omega)), if_neg q]
theorem by_eq {t : Nat → Nat} {len a c : Nat} (h : TX t len) (hc : c < 1000) : byI t len a = nI c ↔ pI t len c c a = true := by
  unfold byI
  rw [pI_y]
  by_cases q : a < len
  · have := h.2 a q
    rw [if_pos q, nI_eq (by omega) (by omega)]
    omega
  · rw [if_neg q, eN_0, eN_s, eN_eq (by omega) (by omega)]
    omega
theorem c_let {t : Nat → Nat} {len a : Nat} (h : TX t len) : fX0_isLetter (byI t len a) = some (bI (pI t len 97 122 a)) := by
  unfold fX0_isLetter byI
  by_cases q : a < len
  · have := h.2 a q
    rw [if_pos q, il_97, il_122]
    by_cases q1 : t a < 97
    · rw [if_pos (nI_lt q1 (by omega)), pI_n.mpr (by omega)]; rfl
    · rw [if_neg (nI_nlt (by omega) (by omega))]
      by_cases q2 : 122 < t a
      · rw [if_pos (nI_lt q2 (by omega)), pI_n.mpr (by omega)]; rfl
      · rw [if_neg (nI_nlt (by omega) (by omega)), pI_y.mpr (by omega)]; rfl
  · rw [if_neg q, if_pos (by decide), pI_ge (by omega)]; rfl
theorem c_dig {t : Nat → Nat} {len a : Nat} (h : TX t len) : fX0_isDigit (byI t len a) = some (bI (pI t len 48 57 a)) := by
  unfold fX0_isDigit byI
  by_cases q : a < len
  · have := h.2 a q
    rw [if_pos q, il_48, il_57]
    by_cases q1 : t a < 48
    · rw [if_pos (nI_lt q1 (by omega)), pI_n.mpr (by omega)]; rfl
    · rw [if_neg (nI_nlt (by omega) (by omega))]
      by_cases q2 : 57 < t a
      · rw [if_pos (nI_lt q2 (by omega)), pI_n.mpr (by omega)]; rfl
      · rw [if_neg (nI_nlt (by omega) (by omega)), pI_y.mpr (by omega)]; rfl
  · rw [if_neg q, if_pos (by decide), pI_ge (by omega)]; rfl
/-- as far as p holds -/
def adv (p : Nat → Bool) : Nat → Nat → Nat
  | 0, a => a
  | n + 1, a => if p a = true then adv p n (a + 1) else a
theorem adv_ge (p : Nat → Bool) : ∀ n a, a ≤ adv p n a
  | 0, a => Nat.le_refl a
  | n + 1, a => by
    unfold adv
    split
    · have := adv_ge p n (a + 1); omega
    · exact Nat.le_refl a
theorem adv_in (p : Nat → Bool) : ∀ n a j, a ≤ j → j < adv p n a → p j = true
  | 0, a, j, h1, h2 => by unfold adv at h2; omega
  | n + 1, a, j, h1, h2 => by
    unfold adv at h2
    split at h2
    · next q =>
      by_cases e : j = a
      · rw [e]; exact q
      · exact adv_in p n (a + 1) j (by omega) h2
    · omega
theorem adv_end (p : Nat → Bool) {L : Nat} (hp : ∀ j, L ≤ j → p j = false) : ∀ n a, L < a + n → p (adv p n a) = false
  | 0, a, h => by unfold adv; exact hp a (by omega)
  | n + 1, a, h => by
    unfold adv
    split
    · exact adv_end p hp n (a + 1) (by omega)
    · next q => exact Bool.eq_false_iff.mpr q
theorem adv_le (p : Nat → Bool) {L : Nat} (hp : ∀ j, L ≤ j → p j = false) {n a : Nat} (ha : a ≤ L) : adv p n a ≤ L := by
  rcases Nat.lt_or_ge L (adv p n a) with h | h
  · have h1 := adv_in p n a L ha h
    rw [hp L (Nat.le_refl L)] at h1
    cases h1
  · exact h
theorem adv_no {p : Nat → Bool} {n a : Nat} (h : p a = false) : adv p n a = a := by
  cases n with
  | zero => rfl
  | succ n => unfold adv; rw [if_neg (by rw [h]; exact Bool.false_ne_true)]
theorem lp_adv {body : Int32 → Option (Int32 ⊕ Int32)} {p : Nat → Bool} {L a F : Nat} (hp : ∀ j, L ≤ j → p j = false) (hL : L ≤ 150) (ha : a ≤ L) (hs : ∀ j, j < 1000 → p j = true → body (nI j) = some (.inl (nI (j + 1)))) (he : ∀ j, j < 1000 → p j = false → body (nI j) = some (.inr (nI j))) (hF : 1000 < F) : lp body F (nI a) = some (nI (adv p 200 a)) := by
  have h1 := adv_ge p 200 a
  have h2 := adv_le p hp (n := 200) ha
  refine lp_seqE (fun j => nI (a + j)) rfl (adv p 200 a - a) (fun j hj => ?_) ?_ (by omega)
  · exact hs (a + j) (by omega) (adv_in p 200 a _ (by omega) (by omega))
  · show body (nI (a + (adv p 200 a - a))) = _
    rw [show a + (adv p 200 a - a) = adv p 200 a from by omega]
    exact he _ (by omega) (adv_end p hp 200 a (by omega))
def skp (t : Nat → Nat) (len a : Nat) : Nat := adv (pI t len 32 32) 200 a
def ltr (t : Nat → Nat) (len a : Nat) : Nat := adv (pI t len 97 122) 200 a
theorem skp_le {t : Nat → Nat} {len a : Nat} (h : a ≤ len) : skp t len a ≤ len := adv_le _ (fun _ => pI_ge) h
theorem ltr_le {t : Nat → Nat} {len a : Nat} (h : a ≤ len) : ltr t len a ≤ len := adv_le _ (fun _ => pI_ge) h
theorem skp_ge (t : Nat → Nat) (len a : Nat) : a ≤ skp t len a := adv_ge _ _ _
theorem ltr_ge (t : Nat → Nat) (len a : Nat) : a ≤ ltr t len a := adv_ge _ _ _
theorem m_skips {t : Nat → Nat} {len a F : Nat} {mt : Nat → Int32} (h : TX t len) (hm : TB t len mt) (ha : a ≤ len) (hF : 1000 < F) : fX6_skips F mt (nI len) (nI a) = some (nI (skp t len a)) := by
  unfold fX6_skips
  rw [bd1_e (lp_adv (p := pI t len 32 32) (fun _ => pI_ge) h.1 ha (fun j hj hp => ?_) (fun j hj hp => ?_) hF)]
  · rfl
  · unfold fX6_skips_l0
    rw [uc1_s, il_32, bd1_e (m_isAt h hm hj (by omega) (by omega)), hp, bI_t, if_neg nn1, nm_s, nI_1]
  · unfold fX6_skips_l0
    rw [uc1_s, il_32, bd1_e (m_isAt h hm hj (by omega) (by omega)), hp, bI_f, if_pos nI_0]
theorem c_skips {t : Nat → Nat} {len a F : Nat} {cb : Nat → Int32} (h : TX t len) (hb : TB t len cb) (ha : a ≤ len) (hF : 1000 < F) : fX0_skipSpaces F cb (nI len) (nI a) = some (nI (skp t len a)) := by
  have hl := h.1
  unfold fX0_skipSpaces
  rw [bd1_e (lp_adv (p := pI t len 32 32) (fun _ => pI_ge) h.1 ha (fun j hj hp => ?_) (fun j hj hp => ?_) hF)]
  · rfl
  · have := (pI_y.mp hp).1
    unfold fX0_skipSpaces_l0
    rw [uc1_s, bd1_e (c_byte h hb hj), il_32, if_neg (fun z => z ((by_eq h (by omega)).mpr hp)), il_150, if_neg (nI_ge (by omega) (by omega)), nm_s, nI_1]
  · unfold fX0_skipSpaces_l0
    rw [uc1_s, bd1_e (c_byte h hb hj), il_32, if_pos (fun z => by rw [(by_eq h (by omega)).mp z] at hp; cases hp)]
theorem c_end {t : Nat → Nat} {len a F : Nat} {cb : Nat → Int32} (h : TX t len) (hb : TB t len cb) (ha : a ≤ len) (hF : 1000 < F) : fX0_isAtEnd F cb (nI len) (nI a) = some (bI (!decide (skp t len a < len)), nI (skp t len a)) := by
  have hl := h.1
  have h1 := skp_le (t := t) ha
  unfold fX0_isAtEnd
  rw [bd1_e (c_skips h hb ha hF)]
  by_cases q : skp t len a < len
  · rw [if_pos (nI_lt q (by omega)), decide_eq_true q]; rfl
  · rw [if_neg (nI_nlt (by omega) (by omega)), decide_eq_false q]; rfl
theorem c_ltrs {t : Nat → Nat} {len a F : Nat} {cb : Nat → Int32} (h : TX t len) (hb : TB t len cb) (ha : a ≤ len) (hF : 1000 < F) : lp (fX0_readCommand_l5 cb (nI len)) F (nI a) = some (nI (ltr t len a)) := by
  have hl := h.1
  refine lp_adv (p := pI t len 97 122) (fun _ => pI_ge) h.1 ha (fun j hj hp => ?_) (fun j hj hp => ?_) hF
  · have := (pI_y.mp hp).1
    unfold fX0_readCommand_l5
    rw [uc1_s, bd1_e (c_byte h hb hj), bd1_e (c_let h), hp, bI_t, if_neg nn1, il_150, if_neg (nI_ge (by omega) (by omega)), nm_s, nI_1]
  · unfold fX0_readCommand_l5
    rw [uc1_s, bd1_e (c_byte h hb hj), bd1_e (c_let h), hp, bI_f, if_pos nI_0]
/-! words: their letters to base 32 -/
def vlF (f : Nat → Nat) : Nat → Nat
  | 0 => 0
  | n + 1 => 32 * vlF f n + (f n - 96)
theorem vl_inj {f g : Nat → Nat} : ∀ n m, (∀ i, i < n → 97 ≤ f i ∧ f i ≤ 122) → (∀ i, i < m → 97 ≤ g i ∧ g i ≤ 122) → vlF f n = vlF g m → n = m ∧ ∀ i, i < n → f i = g i
  | 0, 0, _, _, _ => ⟨rfl, fun i h => by omega⟩
  | 0, m + 1, _, hg, h => by
    have := hg m (by omega)
    unfold vlF at h
    omega
  | n + 1, 0, hf, _, h => by
    have := hf n (by omega)
    unfold vlF at h
    omega
  | n + 1, m + 1, hf, hg, h => by
    have h1 := hf n (by omega)
    have h2 := hg m (by omega)
    unfold vlF at h
    obtain ⟨e, q⟩ := vl_inj n m (fun i hi => hf i (by omega)) (fun i hi => hg i (by omega)) (by omega)
    refine ⟨by omega, fun i hi => ?_⟩
    by_cases z : i = n
    · subst z; subst e; omega
    · exact q i (by omega)
theorem vl_cong {f g : Nat → Nat} : ∀ n, (∀ i, i < n → f i = g i) → vlF f n = vlF g n
  | 0, _ => rfl
  | n + 1, h => by
    unfold vlF
    rw [vl_cong n (fun i hi => h i (by omega)), h n (by omega)]
theorem vl_lt {f : Nat → Nat} : ∀ n, n ≤ 6 → (∀ i, i < n → f i ≤ 122) → vlF f n < 32 ^ n
  | 0, _, _ => by unfold vlF; exact Nat.one_pos
  | n + 1, h, hf => by
    have h1 := hf n (by omega)
    have h2 := vl_lt n (by omega) (fun i hi => hf i (by omega))
    unfold vlF
    rw [Nat.pow_succ]
    omega
def cwN (w : Nat) : Nat := vlF (fun i => (wnm w).getD i 0) (wnm w).length
theorem wnm_ok : ∀ w, w < 9 → 4 ≤ (wnm w).length ∧ (wnm w).length ≤ 6 ∧ ∀ i, i < (wnm w).length → 97 ≤ (wnm w).getD i 0 ∧ (wnm w).getD i 0 ≤ 122 := by decide
def vbN (v : Nat) : Nat := if v = cwN 0 then 1 else if v = cwN 1 then 2 else if v = cwN 2 then 3 else if v = cwN 3 then 4 else if v = cwN 4 then 5 else if v = cwN 5 then 6 else if v = cwN 6 then 7 else if v = cwN 7 then 8 else if v = cwN 8 then 9 else 0
def wdN (t : Nat → Nat) (a n : Nat) : Nat := if n ≤ 6 then vbN (vlF (fun i => t (a + i)) n) else 0
theorem vb_le (v : Nat) : vbN v ≤ 9 := by
  unfold vbN
  repeat' split
  all_goals omega
theorem wd_le (t : Nat → Nat) (a n : Nat) : wdN t a n ≤ 9 := by
  unfold wdN
  split
  · exact vb_le _
  · omega
theorem vb_0 : vbN 0 = 0 := by decide +kernel
theorem byV_at {t : Nat → Nat} {len a : Nat} {cb : Nat → Int32} (h : TX t len) (hb : TB t len cb) (ha : a < len) : byV cb (nI len) (nI a) = nI (t a) := by
  have hl := h.1
  unfold byV
  rw [if_neg (nI_pos (by omega)), if_neg (nI_ge ha (by omega)), il_150, if_neg (nI_ge (by omega) (by omega)), nI_clamp (by omega), hb a ha]
theorem isWd_eq {t : Nat → Nat} {len a n w : Nat} {cb : Nat → Int32} (h : TX t len) (hb : TB t len cb) (hn : a + n ≤ len) (hlt : ∀ j, a ≤ j → j < a + n → 97 ≤ t j ∧ t j ≤ 122) (h6 : n ≤ 6) (hw : w < 9) : isWd cb (nI len) (nI a) (nI n) (wnm w) = decide (vlF (fun i => t (a + i)) n = cwN w) := by
  have hl := h.1
  obtain ⟨w1, w2, w3⟩ := wnm_ok w hw
  rw [Bool.eq_iff_iff, decide_eq_true_iff]
  unfold isWd
  rw [Bool.and_eq_true, decide_eq_true_iff, nI_eq (by omega) (by omega), List.all_eq_true]
  constructor
  · rintro ⟨e, q⟩
    unfold cwN
    rw [e]
    refine vl_cong n fun i hi => ?_
    have q1 := of_decide_eq_true (q i (List.mem_range.mpr (by omega)))
    rw [nI_add, byV_at h hb (by omega)] at q1
    have := w3 i (by omega)
    have := h.2 (a + i) (by omega)
    exact ((nI_eq (by omega) (by omega)).mp q1).symm
  · intro e
    unfold cwN at e
    obtain ⟨e1, e2⟩ := vl_inj n _ (fun i hi => hlt (a + i) (by omega) (by omega)) w3 e
    refine ⟨e1.symm, fun i hi => decide_eq_true ?_⟩
    have := List.mem_range.mp hi
    rw [nI_add, byV_at h hb (by omega), e2 i (by omega)]
theorem isWd_no {t : Nat → Nat} {len a n w : Nat} {cb : Nat → Int32} (hn : n < 1000) (h6 : ¬ n ≤ 6) (hw : w < 9) : isWd cb (nI len) (nI a) (nI n) (wnm w) = false := by
  obtain ⟨w1, w2, w3⟩ := wnm_ok w hw
  unfold isWd
  rw [decide_eq_false (fun z => by rw [nI_eq (by omega) (by omega)] at z; omega)]
  rfl
theorem c_word {t : Nat → Nat} {len a n : Nat} {cb : Nat → Int32} (h : TX t len) (hb : TB t len cb) (hn : a + n ≤ len) (hlt : ∀ j, a ≤ j → j < a + n → 97 ≤ t j ∧ t j ≤ 122) : fX0_findWord cb (nI len) (nI a) (nI n) = some (eN (wdN t a n)) := by
  have hl := h.1
  unfold fX0_findWord wdN eN
  by_cases h6 : n ≤ 6
  · rw [if_pos h6]
    unfold vbN
    have e := fun w (hw : w < 9) => isWd_eq (w := w) h hb hn hlt h6 hw
    simp only [wdS, Nat.sub_zero, Nat.reduceSub, Nat.reduceAdd, e 0 (by omega), e 1 (by omega), e 2 (by omega), e 3 (by omega), e 4 (by omega), e 5 (by omega), e 6 (by omega), e 7 (by omega), e 8 (by omega), decide_eq_true_eq]
  · rw [if_neg h6]
    have e := fun w (hw : w < 9) => isWd_no (t := t) (len := len) (a := a) (cb := cb) (w := w) (show n < 1000 by omega) h6 hw
    simp only [wdS, Nat.sub_zero, Nat.reduceSub, Nat.reduceAdd, e 0 (by omega), e 1 (by omega), e 2 (by omega), e 3 (by omega), e 4 (by omega), e 5 (by omega), e 6 (by omega), e 7 (by omega), e 8 (by omega), Bool.false_eq_true, if_false]
theorem cw_s : cwN 0 = 17092712 ∧ cwN 1 = 525908 ∧ cwN 2 = 402891 ∧ cwN 3 = 17479784 ∧ cwN 4 = 71108 ∧ cwN 5 = 17171557 ∧ cwN 6 = 536622 ∧ cwN 7 = 17084916 ∧ cwN 8 = 659111269 := by decide +kernel
theorem m_vb {v : Nat} (hv : v < 2 ^ 60) : fX6_verbOf (lN v) = some (eN (vbN v)) := by
  have q : ∀ c, c < 2 ^ 60 → (lg_cmp (lN v) (lN c) = 0 ↔ v = c) := fun c hc => cmp0 (by omega) (by omega)
  by_cases h0 : v = 17092712
  · subst h0; decide +kernel
  by_cases h1 : v = 525908
  · subst h1; decide +kernel
  by_cases h2 : v = 402891
  · subst h2; decide +kernel
  by_cases h3 : v = 17479784
  · subst h3; decide +kernel
  by_cases h4 : v = 71108
  · subst h4; decide +kernel
  by_cases h5 : v = 17171557
  · subst h5; decide +kernel
  by_cases h6 : v = 536622
  · subst h6; decide +kernel
  by_cases h7 : v = 17084916
  · subst h7; decide +kernel
  by_cases h8 : v = 659111269
  · subst h8; decide +kernel
  have e : vbN v = 0 := by
    obtain ⟨c0, c1, c2, c3, c4, c5, c6, c7, c8⟩ := cw_s
    unfold vbN
    rw [c0, c1, c2, c3, c4, c5, c6, c7, c8, if_neg h0, if_neg h1, if_neg h2, if_neg h3, if_neg h4, if_neg h5, if_neg h6, if_neg h7, if_neg h8]
  have g : ∀ c, c < 2 ^ 60 → ¬ v = c → ¬ lg_cmp (lN v) (lN c) = 0 := fun c hc z y => z ((q c hc).mp y)
  have g0 : ¬ lg_cmp (lN v) (17092712 : Int64) = 0 := g 17092712 (by omega) h0
  have g1 : ¬ lg_cmp (lN v) (525908 : Int64) = 0 := g 525908 (by omega) h1
  have g2 : ¬ lg_cmp (lN v) (402891 : Int64) = 0 := g 402891 (by omega) h2
  have g3 : ¬ lg_cmp (lN v) (17479784 : Int64) = 0 := g 17479784 (by omega) h3
  have g4 : ¬ lg_cmp (lN v) (71108 : Int64) = 0 := g 71108 (by omega) h4
  have g5 : ¬ lg_cmp (lN v) (17171557 : Int64) = 0 := g 17171557 (by omega) h5
  have g6 : ¬ lg_cmp (lN v) (536622 : Int64) = 0 := g 536622 (by omega) h6
  have g7 : ¬ lg_cmp (lN v) (17084916 : Int64) = 0 := g 17084916 (by omega) h7
  have g8 : ¬ lg_cmp (lN v) (659111269 : Int64) = 0 := g 659111269 (by omega) h8
  rw [e, ← eN_0]
  unfold fX6_verbOf
  rw [if_neg g0, if_neg g1, if_pos g2, if_neg g3, if_neg g4, if_pos g5, if_neg g6, if_pos g7, if_pos g8]
theorem m_vb1 : fX6_verbOf (-1) = some (eN 0) := by decide +kernel
/-- the value that the model holds behind j letters -/
def vlI (t : Nat → Nat) (a : Nat) : Nat → Int64
  | 0 => 0
  | j + 1 => if 6 ≤ j then -1 else (32 : Int64) * vlI t a j + (nI (t (a + j))).toInt64 - (96 : Int64)
theorem vlI_n {t : Nat → Nat} {a : Nat} : ∀ j, j ≤ 6 → (∀ i, i < j → 97 ≤ t (a + i) ∧ t (a + i) ≤ 122) → vlI t a j = lN (vlF (fun i => t (a + i)) j)
  | 0, _, _ => rfl
  | j + 1, h, hl => by
    have h1 := hl j (by omega)
    unfold vlI vlF
    rw [if_neg (by omega), vlI_n j (by omega) (fun i hi => hl i (by omega)), show (32 : Int64) = lN 32 from rfl, show (96 : Int64) = lN 96 from rfl, nI_l (by omega), lN_mul, lN_add, lN_sub (by omega)]
    congr 1
    show 32 * vlF (fun i => t (a + i)) j + t (a + j) - 96 = 32 * vlF (fun i => t (a + i)) j + (t (a + j) - 96)
    omega
theorem m_verb {t : Nat → Nat} {len a F : Nat} {mt : Nat → Int32} (h : TX t len) (hm : TB t len mt) (ha : a ≤ len) (hF : 1000 < F) : fX6_verb F mt (nI len) (nI a) = some (eN (wdN t a (ltr t len a - a)), nI (if wdN t a (ltr t len a - a) = 0 then a else ltr t len a)) := by
  have hl := h.1
  have h1 := ltr_ge t len a
  have h2 := ltr_le (t := t) ha
  have hin : ∀ j, a ≤ j → j < ltr t len a → 97 ≤ t j ∧ t j ≤ 122 := fun j z y => (pI_y.mp (adv_in (pI t len 97 122) 200 a j z y)).2
  have hlp : lp (fX6_verb_l7 mt (nI len) (nI a)) F ((0 : Int64), nI a) = some (vlI t a (ltr t len a - a), nI (ltr t len a)) := by
    refine lp_seqE (fun j => (vlI t a j, nI (a + j))) rfl (ltr t len a - a) (fun j hj => ?_) ?_ (by omega)
    · have hp : pI t len 97 122 (a + j) = true := adv_in (pI t len 97 122) 200 a _ (by omega) (by show a + j < ltr t len a; omega)
      unfold fX6_verb_l7
      rw [uc2_s, il_97, il_122, bd1_e (m_isAt h hm (by omega) (by omega) (by omega)), hp, bI_t, if_neg nn1, pk_sub (by omega), show a + j - a = j from by omega, il_6]
      by_cases q : 6 ≤ j
      · rw [if_pos (nI_le q (by omega)), bd1_s, nm_s]
        show some (Sum.inl ((-1 : Int64), nI (a + j) + 1)) = some (Sum.inl (vlI t a (j + 1), nI (a + (j + 1))))
        unfold vlI
        rw [if_pos q, nI_1]
        rfl
      · rw [if_neg (nI_ge (by omega) (by omega)), gd_nI (by omega) (by omega), bd1_s, nm_s, nI_clamp (by omega), hm (a + j) (by omega)]
        show some (Sum.inl (_, nI (a + j) + 1)) = some (Sum.inl (vlI t a (j + 1), nI (a + (j + 1))))
        conv => rhs; unfold vlI
        rw [if_neg q, nI_1]
        rfl
    · have hp : pI t len 97 122 (ltr t len a) = false := adv_end (pI t len 97 122) (L := len) (fun _ => pI_ge) 200 a (by omega)
      show fX6_verb_l7 mt (nI len) (nI a) (vlI t a (ltr t len a - a), nI (a + (ltr t len a - a))) = _
      rw [show a + (ltr t len a - a) = ltr t len a from by omega]
      unfold fX6_verb_l7
      rw [uc2_s, il_97, il_122, bd1_e (m_isAt h hm (by omega) (by omega) (by omega)), hp, bI_f, if_pos nI_0]
  unfold fX6_verb
  rw [bd2_e hlp, pk_sub h1, il_6]
  have key : ∀ w : Nat, w ≤ 9 → bd1 (if ¬ eN w = (-1 : Int32) then some (nI (ltr t len a)) else some (nI a)) (fun v5 => some (eN w, v5)) = some (eN w, nI (if w = 0 then a else ltr t len a)) := fun w hw => by
    by_cases q : w = 0
    · rw [if_neg (fun z => z (by rw [q, eN_0])), if_pos q]; rfl
    · rw [if_pos (fun z => q ((eN_eq (by omega) (by omega)).mp (by rw [← eN_0]; exact z))), if_neg q]; rfl
  by_cases q : ltr t len a - a ≤ 6
  · rw [if_pos (nI_le q (by omega)), vlI_n _ q (fun i hi => hin (a + i) (by omega) (by omega))]
    have hv : vlF (fun i => t (a + i)) (ltr t len a - a) < 2 ^ 60 := Nat.lt_of_lt_of_le (vl_lt _ q (fun i hi => (hin (a + i) (by omega) (by omega)).2)) (Nat.le_trans (Nat.pow_le_pow_right (by decide) q) (by decide))
    rw [bd1_e (m_vb hv), bd1_s]
    have e : wdN t a (ltr t len a - a) = vbN (vlF (fun i => t (a + i)) (ltr t len a - a)) := if_pos q
    rw [e]
    exact key _ (vb_le _)
  · rw [if_neg (nI_ge (by omega) (by omega)), bd1_s]
    have e : wdN t a (ltr t len a - a) = 0 := if_neg q
    rw [e, eN_0]
    have := key 0 (by omega)
    rw [eN_0] at this
    exact this
