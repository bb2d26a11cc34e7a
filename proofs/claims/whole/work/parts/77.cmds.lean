/-! numbers and commands of the text, both sides -/
theorem lp_in {σ α : Type} {body : σ → Option (σ ⊕ α)} {x x' : σ} {F : Nat} (h : body x = some (.inl x')) : lp body (F + 1) x = lp body F x' := by
  show (match body x with | none => none | some (.inl x') => lp body F x' | some (.inr a) => some a) = _
  rw [h]
theorem lp_out {σ α : Type} {body : σ → Option (σ ⊕ α)} {x : σ} {a : α} {F : Nat} (h : body x = some (.inr a)) : lp body (F + 1) x = some a := by
  show (match body x with | none => none | some (.inl x') => lp body F x' | some (.inr a) => some a) = _
  rw [h]
def dE (t : Nat → Nat) (len : Nat) : Nat → Nat → Nat
  | 0, b => b
  | n + 1, b => if pI t len 48 57 b = true then dE t len n (b + 1) else b
def dV (t : Nat → Nat) (len : Nat) : Nat → Nat → Nat → Nat
  | 0, _, v => v
  | n + 1, b, v => if pI t len 48 57 b = true then dV t len n (b + 1) (10 * v + (t b - 48)) else v
theorem dE_ge (t : Nat → Nat) (len : Nat) : ∀ n b, b ≤ dE t len n b
  | 0, b => Nat.le_refl b
  | n + 1, b => by
    unfold dE
    split
    · have := dE_ge t len n (b + 1); omega
    · exact Nat.le_refl b
theorem dE_le (t : Nat → Nat) (len : Nat) : ∀ n b, b ≤ len → dE t len n b ≤ len
  | 0, b, h => h
  | n + 1, b, h => by
    unfold dE
    split
    · next q => exact dE_le t len n (b + 1) (by have := (pI_y.mp q).1; omega)
    · exact h
theorem dV_lt (t : Nat → Nat) (len : Nat) : ∀ n i b v, n + i = 3 → v < 10 ^ i → dV t len n b v < 1000
  | 0, i, b, v, h, hv => by
    have : i = 3 := by omega
    subst this
    exact hv
  | n + 1, i, b, v, h, hv => by
    unfold dV
    split
    · next q =>
      have := pI_y.mp q
      exact dV_lt t len n (i + 1) (b + 1) _ (by omega) (by rw [Nat.pow_succ]; omega)
    · exact Nat.lt_of_lt_of_le hv (Nat.le_trans (Nat.pow_le_pow_right (by decide) (show i ≤ 3 by omega)) (by decide))
def dgE (t : Nat → Nat) (len b : Nat) : Nat := dE t len 3 b
def nvN (t : Nat → Nat) (len b : Nat) : Nat := dV t len 3 b 0
theorem nv_lt (t : Nat → Nat) (len b : Nat) : nvN t len b < 1000 := dV_lt t len 3 0 b 0 rfl (by decide)
theorem dgE_le {t : Nat → Nat} {len b : Nat} (h : b ≤ len) : dgE t len b ≤ len := dE_le t len 3 b h
theorem dgE_gt {t : Nat → Nat} {len b : Nat} (h : pI t len 48 57 b = true) : b < dgE t len b := by
  unfold dgE dE
  rw [if_pos h]
  exact Nat.lt_of_lt_of_le (Nat.lt_succ_self b) (dE_ge t len 2 (b + 1))
theorem c_digs {t : Nat → Nat} {len : Nat} {cb : Nat → Int32} (h : TX t len) (hb : TB t len cb) : ∀ n i b v F, n + i = 3 → n < F → b ≤ len → lp (fX0_readNumber_l39 cb (nI len)) F (nI v, nI i, nI b) = some (nI (dV t len n b v), nI (dE t len n b)) := by
  have hl := h.1
  intro n
  induction n with
  | zero =>
    intro i b v F hi hF hbl
    obtain ⟨G, rfl⟩ : ∃ G, F = G + 1 := ⟨F - 1, by omega⟩
    refine lp_out ?_
    unfold fX0_readNumber_l39
    rw [uc3_s, il_3, if_pos (nI_le (by omega) (by omega))]
    rfl
  | succ n ih =>
    intro i b v F hi hF hbl
    obtain ⟨G, rfl⟩ : ∃ G, F = G + 1 := ⟨F - 1, by omega⟩
    by_cases q : pI t len 48 57 b = true
    · have q1 := pI_y.mp q
      have e1 : byI t len b = nI (t b) := if_pos q1.1
      have step : fX0_readNumber_l39 cb (nI len) (nI v, nI i, nI b) = some (.inl (nI (10 * v + (t b - 48)), nI (i + 1), nI (b + 1))) := by
        unfold fX0_readNumber_l39
        rw [uc3_s, il_3, if_neg (nI_ge (by omega) (by omega)), bd1_e (c_byte h hb (by omega)), bd1_e (c_dig h), q, bI_t, if_neg nn1, bd1_e (c_byte h hb (by omega)), e1, nm_s, nm_s, il_10, il_48, pk_mul, nI_add, pk_sub (by omega), show 10 * v + t b - 48 = 10 * v + (t b - 48) from by omega, nI_1, nI_1]
      rw [lp_in step, ih (i + 1) (b + 1) _ G (by omega) (by omega) (by omega)]
      conv => rhs; unfold dV dE
      rw [if_pos q, if_pos q]
    · have q0 := Bool.eq_false_iff.mpr q
      have step : fX0_readNumber_l39 cb (nI len) (nI v, nI i, nI b) = some (.inr (nI v, nI b)) := by
        unfold fX0_readNumber_l39
        rw [uc3_s, il_3, if_neg (nI_ge (by omega) (by omega)), bd1_e (c_byte h hb (by omega)), bd1_e (c_dig h), q0, bI_f, if_pos nI_0]
      rw [lp_out step]
      conv => rhs; unfold dV dE
      rw [if_neg q, if_neg q]
theorem upd_u (f : Nat → Int32) (k : Nat) (x y : Int32) : upd (upd f k x) k y = upd f k y := by
  funext j
  unfold upd
  by_cases q : j = k
  · rw [if_pos q, if_pos q]
  · rw [if_neg q, if_neg q, if_neg q]
theorem m_digs {t : Nat → Nat} {len : Nat} {mt td : Nat → Int32} {to : Nat} (h : TX t len) (hm : TB t len mt) (hto : to < 160) : ∀ n i b v F, n + i = 3 → n < F → b ≤ len → lp (fX6_number_l26 mt (nI len) (nI to)) F (nI i, nI b, upd td to (nI v)) = some (nI (i + (dE t len n b - b)), nI (dE t len n b), upd td to (nI (dV t len n b v))) := by
  have hl := h.1
  intro n
  induction n with
  | zero =>
    intro i b v F hi hF hbl
    obtain ⟨G, rfl⟩ : ∃ G, F = G + 1 := ⟨F - 1, by omega⟩
    refine lp_out ?_
    unfold fX6_number_l26
    rw [uc3_s, il_3, if_pos (nI_le (by omega) (by omega))]
    show some (Sum.inr (nI i, nI b, upd td to (nI v))) = some (Sum.inr (nI (i + (b - b)), nI b, upd td to (nI v)))
    rw [Nat.sub_self, Nat.add_zero]
  | succ n ih =>
    intro i b v F hi hF hbl
    obtain ⟨G, rfl⟩ : ∃ G, F = G + 1 := ⟨F - 1, by omega⟩
    by_cases q : pI t len 48 57 b = true
    · have q1 := pI_y.mp q
      have step : fX6_number_l26 mt (nI len) (nI to) (nI i, nI b, upd td to (nI v)) = some (.inl (nI (i + 1), nI (b + 1), upd td to (nI (10 * v + (t b - 48))))) := by
        unfold fX6_number_l26
        rw [uc3_s, il_3, if_neg (nI_ge (by omega) (by omega)), il_48, il_57, bd1_e (m_isAt h hm (by omega) (by omega) (by omega)), q, bI_t, if_neg nn1, gd_nI hto (by omega), gd_nI (by omega) (by omega), nI_clamp (by omega), nI_clamp (by omega), upd_s, hm b q1.1, nm_s, gd_nI hto (by omega), nm_s, il_10, pk_mul, nI_add, pk_sub (by omega), show 10 * v + t b - 48 = 10 * v + (t b - 48) from by omega, upd_u, nI_1, nI_1]
      rw [lp_in step, ih (i + 1) (b + 1) _ G (by omega) (by omega) (by omega)]
      conv => rhs; unfold dV dE
      rw [if_pos q, if_pos q, show i + 1 + (dE t len n (b + 1) - (b + 1)) = i + (dE t len n (b + 1) - b) from by have := dE_ge t len n (b + 1); omega]
    · have q0 := Bool.eq_false_iff.mpr q
      have step : fX6_number_l26 mt (nI len) (nI to) (nI i, nI b, upd td to (nI v)) = some (.inr (nI i, nI b, upd td to (nI v))) := by
        unfold fX6_number_l26
        rw [uc3_s, il_3, if_neg (nI_ge (by omega) (by omega)), il_48, il_57, bd1_e (m_isAt h hm (by omega) (by omega) (by omega)), q0, bI_f, if_pos nI_0]
      rw [lp_out step]
      conv => rhs; unfold dV dE
      rw [if_neg q, if_neg q, Nat.sub_self, Nat.add_zero]
theorem c_num0 {t : Nat → Nat} {len a k F : Nat} {cb u : Nat → Int32} (h : TX t len) (hb : TB t len cb) (ha : a ≤ len) (q : pI t len 32 32 a = false) : fX0_readNumber F cb u (nI len) (nI a) (nI k) = some (nI 0, u, nI a) := by
  have hl := h.1
  unfold fX0_readNumber
  rw [bd1_e (c_byte h hb (by omega)), il_32, if_neg (fun z => by rw [(by_eq h (by omega)).mp z] at q; cases q)]
  rfl
theorem c_num1 {t : Nat → Nat} {len a k F : Nat} {cb u : Nat → Int32} (h : TX t len) (hb : TB t len cb) (ha : a ≤ len) (hF : 1000 < F) (q : pI t len 32 32 a = true) (q2 : pI t len 48 57 (skp t len a) = false) : fX0_readNumber F cb u (nI len) (nI a) (nI k) = some (nI 0, u, nI (skp t len a)) := by
  have hl := h.1
  have h1 := skp_le (t := t) ha
  unfold fX0_readNumber
  rw [bd1_e (c_byte h hb (by omega)), il_32, if_pos ((by_eq h (by omega)).mpr q), bd1_e (c_skips h hb ha hF), bd1_e (c_byte h hb (by omega)), bd1_e (c_dig h), q2, bI_f, if_neg (fun z => z nI_0)]
  rfl
theorem c_num2 {t : Nat → Nat} {len a k F : Nat} {cb u : Nat → Int32} (h : TX t len) (hb : TB t len cb) (ha : a ≤ len) (hF : 1000 < F) (hk : k < 4) (q : pI t len 32 32 a = true) (q2 : pI t len 48 57 (skp t len a) = true) : fX0_readNumber F cb u (nI len) (nI a) (nI k) = some (nI 1, upd u k (nI (nvN t len (skp t len a))), nI (dgE t len (skp t len a))) := by
  have hl := h.1
  have h1 := skp_le (t := t) ha
  have e := c_digs h hb 3 0 (skp t len a) 0 F (by omega) (by omega) h1
  unfold fX0_readNumber
  rw [bd1_e (c_byte h hb (by omega)), il_32, if_pos ((by_eq h (by omega)).mpr q), bd1_e (c_skips h hb ha hF), bd1_e (c_byte h hb (by omega)), bd1_e (c_dig h), q2, bI_t, if_pos nn1, bd2_e (show lp _ F ((0 : Int32), (0 : Int32), _) = _ from e), if_neg (nI_pos (by omega)), il_4, if_neg (nI_ge hk (by omega)), gd_nI hk (by omega), nI_clamp (by omega)]
  rfl
theorem m_num0 {t : Nat → Nat} {len a to F : Nat} {mt td : Nat → Int32} (h : TX t len) (hm : TB t len mt) (ha : a ≤ len) (q : pI t len 32 32 a = false) : fX6_number F mt (nI len) (nI a) td (nI to) = some (nI 0, nI a, td) := by
  have hl := h.1
  unfold fX6_number
  rw [il_32, bd1_e (m_isAt h hm (by omega) (by omega) (by omega)), q, bI_f, if_neg (fun z => z nI_0)]
  rfl
theorem m_num1 {t : Nat → Nat} {len a to F : Nat} {mt td : Nat → Int32} (h : TX t len) (hm : TB t len mt) (ha : a ≤ len) (hto : to < 160) (hF : 1000 < F) (q : pI t len 32 32 a = true) (q2 : pI t len 48 57 (skp t len a) = false) : fX6_number F mt (nI len) (nI a) td (nI to) = some (nI 0, nI (skp t len a), upd td to (nI 0)) := by
  have hl := h.1
  have h1 := skp_le (t := t) ha
  have e := m_digs (td := td) h hm hto 3 0 (skp t len a) 0 F (by omega) (by omega) h1
  have e2 : dE t len 3 (skp t len a) = skp t len a := by unfold dE; rw [if_neg (by rw [q2]; exact Bool.false_ne_true)]
  have e3 : dV t len 3 (skp t len a) 0 = 0 := by unfold dV; rw [if_neg (by rw [q2]; exact Bool.false_ne_true)]
  rw [e2, e3, Nat.sub_self, Nat.add_zero] at e
  unfold fX6_number
  rw [il_32, bd1_e (m_isAt h hm (by omega) (by omega) (by omega)), q, bI_t, if_pos nn1, bd1_e (m_skips h hm ha hF), gd_nI hto (by omega), nI_clamp (by omega), bd3_e (show lp _ F ((0 : Int32), _, upd td to (0 : Int32)) = _ from e), if_pos (show nI 0 ≤ 0 from nI_le (a := 0) (b := 0) (by omega) (by omega))]
  rfl
theorem m_num2 {t : Nat → Nat} {len a to F : Nat} {mt td : Nat → Int32} (h : TX t len) (hm : TB t len mt) (ha : a ≤ len) (hto : to < 160) (hF : 1000 < F) (q : pI t len 32 32 a = true) (q2 : pI t len 48 57 (skp t len a) = true) : fX6_number F mt (nI len) (nI a) td (nI to) = some (bI (!pI t len 48 57 (dgE t len (skp t len a))), nI (dgE t len (skp t len a)), upd td to (nI (nvN t len (skp t len a)))) := by
  have hl := h.1
  have h1 := skp_le (t := t) ha
  have h2 := dgE_gt q2
  have h3 := dgE_le (t := t) h1
  have e := m_digs (td := td) h hm hto 3 0 (skp t len a) 0 F (by omega) (by omega) h1
  unfold fX6_number
  rw [il_32, bd1_e (m_isAt h hm (by omega) (by omega) (by omega)), q, bI_t, if_pos nn1, bd1_e (m_skips h hm ha hF), gd_nI hto (by omega), nI_clamp (by omega), bd3_e (show lp _ F ((0 : Int32), _, upd td to (0 : Int32)) = _ from e), Nat.zero_add]
  rw [if_neg (show ¬ nI (dE t len 3 (skp t len a) - skp t len a) ≤ 0 from nI_nle (by unfold dgE at h2; omega) (by unfold dgE at h3; omega)), il_48, il_57]
  rw [show dE t len 3 (skp t len a) = dgE t len (skp t len a) from rfl, show dV t len 3 (skp t len a) 0 = nvN t len (skp t len a) from rfl, bd1_e (m_isAt h hm (by omega) (by omega) (by omega))]
  cases pI t len 48 57 (dgE t len (skp t len a)) with
  | true => rw [bI_t, if_pos nn1]; rfl
  | false => rw [bI_f, if_neg (fun z => z nI_0)]; rfl
/-! the numbers of a command -/
def pk (t : Nat → Nat) (len p : Nat) : Nat → Nat
  | 0 => p
  | k + 1 => dgE t len (skp t len (pk t len p k))
def nmV (t : Nat → Nat) (len p k : Nat) : Nat := nvN t len (skp t len (pk t len p k))
theorem pk_sh (t : Nat → Nat) (len p : Nat) : ∀ k, pk t len (dgE t len (skp t len p)) k = pk t len p (k + 1)
  | 0 => rfl
  | k + 1 => by
    conv => lhs; unfold pk
    rw [pk_sh t len p k]
    rfl
theorem nmV_sh (t : Nat → Nat) (len p k : Nat) : nmV t len (dgE t len (skp t len p)) k = nmV t len p (k + 1) := by
  unfold nmV
  rw [pk_sh]
def nmQ (t : Nat → Nat) (len : Nat) : Nat → Nat → Nat ⊕ Nat
  | 0, p => .inr p
  | n + 1, p => if pI t len 32 32 p = true then (if pI t len 48 57 (skp t len p) = true then nmQ t len n (dgE t len (skp t len p)) else .inl (skp t len p)) else .inl p
def nmM (t : Nat → Nat) (len : Nat) : Nat → Nat → Nat ⊕ Nat
  | 0, p => .inr p
  | n + 1, p => if pI t len 32 32 p = true then (if pI t len 48 57 (skp t len p) = true then (if pI t len 48 57 (dgE t len (skp t len p)) = true then .inl (dgE t len (skp t len p)) else nmM t len n (dgE t len (skp t len p))) else .inl (skp t len p)) else .inl p
def pst (t : Nat → Nat) (len : Nat) (x : Nat ⊕ Nat) : Nat ⊕ Nat := match x with
  | .inl q => .inl q
  | .inr q => if pI t len 59 59 (skp t len q) = true then .inr (skp t len q + 1) else .inl (skp t len q)
theorem nmQ_dig {t : Nat → Nat} {len q : Nat} (h : pI t len 48 57 q = true) : ∀ n, pst t len (nmQ t len n q) = .inl q := by
  have h1 := pI_y.mp h
  have e : pI t len 32 32 q = false := pI_n.mpr (by omega)
  intro n
  cases n with
  | zero =>
    show (if pI t len 59 59 (skp t len q) = true then Sum.inr (skp t len q + 1) else Sum.inl (skp t len q)) = Sum.inl q
    rw [show skp t len q = q from adv_no e, if_neg (by rw [pI_n.mpr (by omega)]; exact Bool.false_ne_true)]
  | succ n => unfold nmQ; rw [if_neg (by rw [e]; exact Bool.false_ne_true)]; rfl
theorem nm_same (t : Nat → Nat) (len : Nat) : ∀ n p, pst t len (nmM t len n p) = pst t len (nmQ t len n p)
  | 0, p => rfl
  | n + 1, p => by
    unfold nmM nmQ
    split
    · split
      · split
        · next q => rw [nmQ_dig q]; rfl
        · exact nm_same t len n _
      · rfl
    · rfl
theorem nmQ_le {t : Nat → Nat} {len : Nat} : ∀ n p, p ≤ len → (∀ q, nmQ t len n p = .inr q → p ≤ q ∧ q ≤ len) ∧ ∀ q, nmQ t len n p = .inl q → q ≤ len
  | 0, p, h => ⟨fun q e => by cases e; exact ⟨Nat.le_refl _, h⟩, fun q e => by cases e⟩
  | n + 1, p, h => by
    have h1 := skp_ge t len p
    have h2 := skp_le (t := t) h
    unfold nmQ
    split
    · split
      · next z y =>
        have h3 := dgE_gt y
        have h4 := nmQ_le (t := t) n (dgE t len (skp t len p)) (dgE_le h2)
        exact ⟨fun q e => ⟨by have := (h4.1 q e).1; omega, (h4.1 q e).2⟩, h4.2⟩
      · exact ⟨fun q e => (by cases e), fun q e => by cases e; exact h2⟩
    · exact ⟨fun q e => (by cases e), fun q e => by cases e; exact h⟩
def ncN (w : Nat) : Nat := if w = 1 then 2 else if w ≤ 4 then 4 else if w = 5 then 3 else if w = 6 then 2 else if w = 7 then 0 else 1
theorem nc_c : ∀ w, w < 10 → 1 ≤ w → fX0_numbersOf (eN w) = some (nI (ncN w)) := by decide +kernel
theorem nc_m : ∀ w, w < 10 → 1 ≤ w → fX6_numbersOf (eN w) = some (nI (ncN w)) := by decide +kernel
theorem nc_le (w : Nat) : ncN w ≤ 4 := by
  unfold ncN
  repeat' split
  all_goals omega
def smU {α : Type} (x : Nat ⊕ Nat) (u : α) : (α × Int32) ⊕ (α × Int32) := match x with
  | .inl q => .inl (u, nI q)
  | .inr q => .inr (u, nI q)
theorem c_nums {t : Nat → Nat} {len w F' : Nat} {cb : Nat → Int32} (h : TX t len) (hb : TB t len cb) (hF : 1000 < F') (hw : w < 10) (hw1 : 1 ≤ w) : ∀ n k p u F, n + k = ncN w → n < F → p ≤ len → ∃ u', lp (fX0_readCommand_l82 F' cb (nI len) (eN w)) F (nI k, u, nI p) = some (smU (nmQ t len n p) u') ∧ ((∃ q, nmQ t len n p = .inr q) → (∀ i, i < k → u' i = u i) ∧ ∀ i, i < n → u' (k + i) = nI (nmV t len p i)) := by
  have hl := h.1
  have hc := nc_le w
  intro n
  induction n with
  | zero =>
    intro k p u F hk hF hp
    obtain ⟨G, rfl⟩ : ∃ G, F = G + 1 := ⟨F - 1, by omega⟩
    refine ⟨u, lp_out ?_, fun _ => ⟨fun _ _ => rfl, fun i hi => by omega⟩⟩
    unfold fX0_readCommand_l82
    rw [uc3_s, bd1_e (nc_c w hw hw1), if_pos (nI_le (by omega) (by omega))]
    rfl
  | succ n ih =>
    intro k p u F hk hF hp
    obtain ⟨G, rfl⟩ : ∃ G, F = G + 1 := ⟨F - 1, by omega⟩
    have h2 := skp_le (t := t) hp
    by_cases q : pI t len 32 32 p = true
    · by_cases q2 : pI t len 48 57 (skp t len p) = true
      · have step : fX0_readCommand_l82 F' cb (nI len) (eN w) (nI k, u, nI p) = some (.inl (nI (k + 1), upd u k (nI (nvN t len (skp t len p))), nI (dgE t len (skp t len p)))) := by
          unfold fX0_readCommand_l82
          rw [uc3_s, bd1_e (nc_c w hw hw1), if_neg (nI_ge (by omega) (by omega)), bd3_e (c_num2 h hb hp (by omega) (by omega) q q2), if_pos nn1, nI_1]
        obtain ⟨u', e1, e2⟩ := ih (k + 1) (dgE t len (skp t len p)) (upd u k (nI (nvN t len (skp t len p)))) G (by omega) (by omega) (dgE_le h2)
        have eq : nmQ t len (n + 1) p = nmQ t len n (dgE t len (skp t len p)) := by
          conv => lhs; unfold nmQ
          rw [if_pos q, if_pos q2]
        refine ⟨u', by rw [lp_in step, e1, eq], fun hq => ?_⟩
        rw [eq] at hq
        obtain ⟨g1, g2⟩ := e2 hq
        refine ⟨fun i hi => by rw [g1 i (by omega), upd_n (by omega)], fun i hi => ?_⟩
        cases i with
        | zero => rw [Nat.add_zero, g1 k (by omega), upd_s]; rfl
        | succ i =>
          have := g2 i (by omega)
          rw [nmV_sh] at this
          rw [show k + (i + 1) = k + 1 + i from by omega]
          exact this
      · have q0 := Bool.eq_false_iff.mpr q2
        have eq : nmQ t len (n + 1) p = .inl (skp t len p) := by
          unfold nmQ
          rw [if_pos q, if_neg q2]
        refine ⟨u, ?_, fun ⟨z, hz⟩ => by rw [eq] at hz; cases hz⟩
        rw [eq]
        refine lp_out ?_
        unfold fX0_readCommand_l82
        rw [uc3_s, bd1_e (nc_c w hw hw1), if_neg (nI_ge (by omega) (by omega)), bd3_e (c_num1 h hb hp (by omega) q q0), if_neg (fun z => z nI_0)]
        rfl
    · have q0 := Bool.eq_false_iff.mpr q
      have eq : nmQ t len (n + 1) p = .inl p := by
        unfold nmQ
        rw [if_neg q]
      refine ⟨u, ?_, fun ⟨z, hz⟩ => by rw [eq] at hz; cases hz⟩
      rw [eq]
      refine lp_out ?_
      unfold fX0_readCommand_l82
      rw [uc3_s, bd1_e (nc_c w hw hw1), if_neg (nI_ge (by omega) (by omega)), bd3_e (c_num0 h hb hp q0), if_neg (fun z => z nI_0)]
      rfl
def smV {α : Type} (x : Nat ⊕ Nat) (u : α) : (Int32 × α) ⊕ (Int32 × α) := match x with
  | .inl q => .inl (nI q, u)
  | .inr q => .inr (nI q, u)
theorem m_nums {t : Nat → Nat} {len w F' c : Nat} {mt : Nat → Int32} (h : TX t len) (hm : TB t len mt) (hF : 1000 < F') (hw : w < 10) (hw1 : 1 ≤ w) (hc : c < 40) : ∀ n k p td F, n + k = ncN w → n < F → p ≤ len → ∃ td', lp (fX6_reads_l49 F' mt (nI len) (nI c) (eN w)) F (nI k, nI p, td) = some (smV (nmM t len n p) td') ∧ (∀ j, j < 4 * c + k → td' j = td j) ∧ ((∃ q, nmM t len n p = .inr q) → ∀ i, i < n → td' (4 * c + k + i) = nI (nmV t len p i)) := by
  have hl := h.1
  have hcc := nc_le w
  intro n
  induction n with
  | zero =>
    intro k p td F hk hF hp
    obtain ⟨G, rfl⟩ : ∃ G, F = G + 1 := ⟨F - 1, by omega⟩
    refine ⟨td, lp_out ?_, fun _ _ => rfl, fun _ i hi => by omega⟩
    unfold fX6_reads_l49
    rw [uc3_s, bd1_e (nc_m w hw hw1), if_pos (nI_le (by omega) (by omega))]
    rfl
  | succ n ih =>
    intro k p td F hk hF hp
    obtain ⟨G, rfl⟩ : ∃ G, F = G + 1 := ⟨F - 1, by omega⟩
    have h2 := skp_le (t := t) hp
    have ix : (4 : Int32) * nI c + nI k = nI (4 * c + k) := by rw [il_4, pk_mul, nI_add]
    by_cases q : pI t len 32 32 p = true
    · by_cases q2 : pI t len 48 57 (skp t len p) = true
      · by_cases q3 : pI t len 48 57 (dgE t len (skp t len p)) = true
        · have eq : nmM t len (n + 1) p = .inl (dgE t len (skp t len p)) := by
            unfold nmM
            rw [if_pos q, if_pos q2, if_pos q3]
          refine ⟨upd td (4 * c + k) (nI (nvN t len (skp t len p))), ?_, fun j hj => upd_n (by omega), fun ⟨z, hz⟩ => by rw [eq] at hz; cases hz⟩
          rw [eq]
          refine lp_out ?_
          unfold fX6_reads_l49
          rw [uc3_s, bd1_e (nc_m w hw hw1), if_neg (nI_ge (by omega) (by omega)), ix, bd3_e (m_num2 h hm hp (by omega) (by omega) q q2), q3, if_neg (fun z => z (show bI (!true) = 0 from nI_0))]
          rfl
        · have q0 := Bool.eq_false_iff.mpr q3
          have step : fX6_reads_l49 F' mt (nI len) (nI c) (eN w) (nI k, nI p, td) = some (.inl (nI (k + 1), nI (dgE t len (skp t len p)), upd td (4 * c + k) (nI (nvN t len (skp t len p))))) := by
            unfold fX6_reads_l49
            rw [uc3_s, bd1_e (nc_m w hw hw1), if_neg (nI_ge (by omega) (by omega)), ix, bd3_e (m_num2 h hm hp (by omega) (by omega) q q2), q0, if_pos (show ¬ bI (!false) = 0 from nn1), nI_1]
          obtain ⟨u', e1, e3, e2⟩ := ih (k + 1) (dgE t len (skp t len p)) (upd td (4 * c + k) (nI (nvN t len (skp t len p)))) G (by omega) (by omega) (dgE_le h2)
          have eq : nmM t len (n + 1) p = nmM t len n (dgE t len (skp t len p)) := by
            conv => lhs; unfold nmM
            rw [if_pos q, if_pos q2, if_neg q3]
          refine ⟨u', by rw [lp_in step, e1, eq], fun j hj => by rw [e3 j (by omega), upd_n (by omega)], fun hq i hi => ?_⟩
          rw [eq] at hq
          cases i with
          | zero => rw [Nat.add_zero, e3 _ (by omega), upd_s]; rfl
          | succ i =>
            have := e2 hq i (by omega)
            rw [nmV_sh] at this
            rw [show 4 * c + k + (i + 1) = 4 * c + (k + 1) + i from by omega]
            exact this
      · have q0 := Bool.eq_false_iff.mpr q2
        have eq : nmM t len (n + 1) p = .inl (skp t len p) := by
          unfold nmM
          rw [if_pos q, if_neg q2]
        refine ⟨upd td (4 * c + k) (nI 0), ?_, fun j hj => upd_n (by omega), fun ⟨z, hz⟩ => by rw [eq] at hz; cases hz⟩
        rw [eq]
        refine lp_out ?_
        unfold fX6_reads_l49
        rw [uc3_s, bd1_e (nc_m w hw hw1), if_neg (nI_ge (by omega) (by omega)), ix, bd3_e (m_num1 h hm hp (by omega) (by omega) q q0), if_neg (fun z => z nI_0)]
        rfl
    · have q0 := Bool.eq_false_iff.mpr q
      have eq : nmM t len (n + 1) p = .inl p := by
        unfold nmM
        rw [if_neg q]
      refine ⟨td, ?_, fun _ _ => rfl, fun ⟨z, hz⟩ => by rw [eq] at hz; cases hz⟩
      rw [eq]
      refine lp_out ?_
      unfold fX6_reads_l49
      rw [uc3_s, bd1_e (nc_m w hw hw1), if_neg (nI_ge (by omega) (by omega)), ix, bd3_e (m_num0 h hm hp q0), if_neg (fun z => z nI_0)]
      rfl
/-! a command -/
def cmW (t : Nat → Nat) (len a : Nat) : Nat := wdN t a (ltr t len a - a)
def cmQ (t : Nat → Nat) (len a : Nat) : Nat ⊕ Nat := if cmW t len a = 0 then .inl a else pst t len (nmQ t len (ncN (cmW t len a)) (ltr t len a))
theorem vb_cw {v : Nat} (h : vbN v ≠ 0) : ∃ w, w < 9 ∧ v = cwN w := by
  by_cases h0 : v = cwN 0
  · exact ⟨0, by omega, h0⟩
  by_cases h1 : v = cwN 1
  · exact ⟨1, by omega, h1⟩
  by_cases h2 : v = cwN 2
  · exact ⟨2, by omega, h2⟩
  by_cases h3 : v = cwN 3
  · exact ⟨3, by omega, h3⟩
  by_cases h4 : v = cwN 4
  · exact ⟨4, by omega, h4⟩
  by_cases h5 : v = cwN 5
  · exact ⟨5, by omega, h5⟩
  by_cases h6 : v = cwN 6
  · exact ⟨6, by omega, h6⟩
  by_cases h7 : v = cwN 7
  · exact ⟨7, by omega, h7⟩
  by_cases h8 : v = cwN 8
  · exact ⟨8, by omega, h8⟩
  unfold vbN at h
  rw [if_neg h0, if_neg h1, if_neg h2, if_neg h3, if_neg h4, if_neg h5, if_neg h6, if_neg h7, if_neg h8] at h
  exact absurd rfl h
theorem cmW_4 {t : Nat → Nat} {len a : Nat} (ha : a ≤ len) (h : cmW t len a ≠ 0) : a + 4 ≤ ltr t len a := by
  unfold cmW wdN at h
  split at h
  · next q =>
    obtain ⟨w, hw, e⟩ := vb_cw h
    obtain ⟨w1, w2, w3⟩ := wnm_ok w hw
    unfold cwN at e
    have := (vl_inj _ _ (fun i hi => (pI_y.mp (adv_in (pI t len 97 122) 200 a (a + i) (by omega) (by unfold ltr at hi; omega))).2) w3 e).1
    have := ltr_ge t len a
    omega
  · exact absurd rfl h
theorem cmQ_ok {t : Nat → Nat} {len a : Nat} (ha : a ≤ len) : (∀ b, cmQ t len a = .inr b → a + 5 ≤ b ∧ b ≤ len ∧ 1 ≤ cmW t len a) ∧ ∀ f, cmQ t len a = .inl f → f ≤ len := by
  have h1 := ltr_le (t := t) ha
  unfold cmQ
  split
  · exact ⟨fun b e => (by cases e), fun f e => by cases e; exact ha⟩
  · next q =>
    have h2 := cmW_4 ha q
    obtain ⟨g1, g2⟩ := nmQ_le (t := t) (ncN (cmW t len a)) (ltr t len a) h1
    cases e : nmQ t len (ncN (cmW t len a)) (ltr t len a) with
    | inl x => exact ⟨fun b e => (by cases e), fun f z => by cases z; exact g2 _ e⟩
    | inr x =>
      obtain ⟨g3, g4⟩ := g1 x e
      have g5 := skp_le (t := t) g4
      have g6 := skp_ge t len x
      unfold pst
      dsimp only
      split
      · next y =>
        have := (pI_y.mp y).1
        exact ⟨fun b z => by cases z; exact ⟨by omega, by omega, by omega⟩, fun f z => by cases z⟩
      · exact ⟨fun b e => (by cases e), fun f z => by cases z; exact g5⟩
theorem c_cmd {t : Nat → Nat} {len a F : Nat} {cb u : Nat → Int32} {wd : Int32} (h : TX t len) (hb : TB t len cb) (ha : a ≤ len) (hF : 1000 < F) : ∃ r u' at' w', fX0_readCommand F cb u (nI len) (nI a) wd = some (r, u', at', w') ∧ (∀ f, cmQ t len a = .inl f → r = nI f) ∧ (∀ b, cmQ t len a = .inr b → r = (-1 : Int32) ∧ at' = nI b ∧ w' = eN (cmW t len a) ∧ ∀ i, i < ncN (cmW t len a) → u' i = nI (nmV t len (ltr t len a) i)) := by
  have hl := h.1
  have h1 := ltr_le (t := t) ha
  have h0 := ltr_ge t len a
  have hin : ∀ j, a ≤ j → j < a + (ltr t len a - a) → 97 ≤ t j ∧ t j ≤ 122 := fun j z y => (pI_y.mp (adv_in (pI t len 97 122) 200 a j z (by unfold ltr at y; unfold ltr at h0; omega))).2
  unfold fX0_readCommand
  rw [bd1_e (c_ltrs h hb ha hF)]
  by_cases q : ltr t len a = a
  · have e : cmW t len a = 0 := by
      unfold cmW wdN
      rw [q, Nat.sub_self, if_pos (by omega)]
      exact vb_0
    rw [q, if_neg (fun z => z rfl)]
    refine ⟨_, _, _, _, rfl, fun f hf => ?_, fun b hf => ?_⟩
    · unfold cmQ at hf; rw [if_pos e] at hf; cases hf; rfl
    · unfold cmQ at hf; rw [if_pos e] at hf; cases hf
  · rw [if_pos (fun z => q ((nI_eq (by omega) (by omega)).mp z)), pk_sub h0, bd1_e (c_word h hb (n := ltr t len a - a) (by omega) hin)]
    have hw9 := wd_le t a (ltr t len a - a)
    rw [show wdN t a (ltr t len a - a) = cmW t len a from rfl] at hw9 ⊢
    by_cases e : cmW t len a = 0
    · rw [e, if_neg (fun z => z eN_0.symm)]
      refine ⟨_, _, _, _, rfl, fun f hf => ?_, fun b hf => ?_⟩
      · unfold cmQ at hf; rw [if_pos e] at hf; cases hf; rfl
      · unfold cmQ at hf; rw [if_pos e] at hf; cases hf
    · rw [if_pos (fun z => e ((eN_eq (by omega) (by omega)).mp (by rw [← eN_0]; exact z)))]
      obtain ⟨u', e1, e2⟩ := c_nums (F' := F) h hb hF (show cmW t len a < 10 by omega) (by omega) (ncN (cmW t len a)) 0 (ltr t len a) u F (by omega) (by have := nc_le (cmW t len a); omega) h1
      obtain ⟨g1, g2⟩ := nmQ_le (t := t) (ncN (cmW t len a)) (ltr t len a) h1
      have ecm : cmQ t len a = pst t len (nmQ t len (ncN (cmW t len a)) (ltr t len a)) := if_neg e
      rw [ecm, show lp (fX0_readCommand_l82 F cb (nI len) (eN (cmW t len a))) F ((0 : Int32), u, nI (ltr t len a)) = _ from e1]
      cases hq : nmQ t len (ncN (cmW t len a)) (ltr t len a) with
      | inl x =>
        refine ⟨_, _, _, _, rfl, fun f hf => ?_, fun b hf => ?_⟩
        · cases hf; rfl
        · cases hf
      | inr x =>
        obtain ⟨g3, g4⟩ := g1 x hq
        have g5 := skp_le (t := t) g4
        obtain ⟨-, k2⟩ := e2 ⟨x, hq⟩
        show ∃ r u2 at' w', bdS2 (some (Sum.inr (u', nI x))) _ _ = some (r, u2, at', w') ∧ _
        rw [bdS2_2, uc2_s, bd1_e (c_skips h hb g4 hF), bd1_e (c_byte h hb (by omega)), il_59]
        by_cases y : pI t len 59 59 (skp t len x) = true
        · rw [if_pos ((by_eq h (by omega)).mpr y), nm_s]
          refine ⟨_, _, _, _, rfl, fun f hf => ?_, fun b hf => ?_⟩
          · unfold pst at hf; dsimp only at hf; rw [if_pos y] at hf; cases hf
          · unfold pst at hf; dsimp only at hf; rw [if_pos y] at hf; cases hf
            exact ⟨rfl, nI_1 _, rfl, fun i hi => by have := k2 i hi; rw [Nat.zero_add] at this; exact this⟩
        · rw [if_neg (fun z => y ((by_eq h (by omega)).mp z))]
          refine ⟨_, _, _, _, rfl, fun f hf => ?_, fun b hf => ?_⟩
          · unfold pst at hf; dsimp only at hf; rw [if_neg y] at hf; cases hf; rfl
          · unfold pst at hf; dsimp only at hf; rw [if_neg y] at hf; cases hf
