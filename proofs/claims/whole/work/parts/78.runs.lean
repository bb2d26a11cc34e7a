/-! the whole text read, and its commands carried out, both sides -/
def rdQ (t : Nat → Nat) (len : Nat) : Nat → Nat → Nat ⊕ Nat
  | 0, _ => .inr 0
  | n + 1, a => if skp t len a < len then (match cmQ t len (skp t len a) with
    | .inl f => .inl f
    | .inr b => match rdQ t len n b with
      | .inl f => .inl f
      | .inr c => .inr (c + 1)) else .inr 0
theorem rdQ_0 {t : Nat → Nat} {len n a : Nat} (h : ¬ skp t len a < len) : rdQ t len n a = .inr 0 := by
  cases n with
  | zero => rfl
  | succ n => unfold rdQ; rw [if_neg h]
theorem rdQ_f {t : Nat → Nat} {len n a f : Nat} (h : skp t len a < len) (e : cmQ t len (skp t len a) = .inl f) : rdQ t len (n + 1) a = .inl f := by
  unfold rdQ
  rw [if_pos h, e]
theorem rdQ_s {t : Nat → Nat} {len n a b : Nat} (h : skp t len a < len) (e : cmQ t len (skp t len a) = .inr b) : rdQ t len (n + 1) a = (match rdQ t len n b with | .inl f => .inl f | .inr c => .inr (c + 1)) := by
  conv => lhs; unfold rdQ
  rw [if_pos h, e]
theorem c_find {t : Nat → Nat} {len F' : Nat} {cb : Nat → Int32} (h : TX t len) (hb : TB t len cb) (hF : 1000 < F') : ∀ n i a u wd F, 5 * i ≤ a → a ≤ len → 150 < a + 5 * n → n < F → ∃ u' at' w', lp (fX0_findFault_l7 F' cb (nI len)) F (nI i, u, nI a, wd) = some (match rdQ t len n a with | .inl f => .inr (.inl (nI f, u', at', w')) | .inr _ => .inl (u', at', w')) := by
  have hl := h.1
  intro n
  induction n with
  | zero => intro i a u wd F h1 h2 h3; omega
  | succ n ih =>
    intro i a u wd F h1 h2 h3 hn
    obtain ⟨G, rfl⟩ : ∃ G, F = G + 1 := ⟨F - 1, by omega⟩
    have g1 := skp_le (t := t) h2
    have g2 := skp_ge t len a
    by_cases q : skp t len a < len
    · obtain ⟨r, u1, at1, w1, e1, e2, e3⟩ := c_cmd (u := u) (wd := wd) h hb g1 hF
      obtain ⟨k1, k2⟩ := cmQ_ok (t := t) g1
      cases e : cmQ t len (skp t len a) with
      | inl f =>
        have hr := e2 f e
        have hf := k2 f e
        refine ⟨u1, at1, w1, ?_⟩
        rw [rdQ_f q e]
        refine lp_out ?_
        unfold fX0_findFault_l7
        rw [uc4_s, il_150, if_neg (nI_ge (by omega) (by omega)), bd2_e (c_end h hb h2 hF), decide_eq_true q, if_pos (show bI (!true) = 0 from nI_0), bd4_e e1, hr, if_neg (fun z => by rw [eN_0, eN_s, eN_eq (by omega) (by omega)] at z; omega)]
      | inr b =>
        obtain ⟨k3, k4, -⟩ := k1 b e
        obtain ⟨hr, hat, -, -⟩ := e3 b e
        have step : fX0_findFault_l7 F' cb (nI len) (nI i, u, nI a, wd) = some (.inl (nI (i + 1), u1, nI b, w1)) := by
          unfold fX0_findFault_l7
          rw [uc4_s, il_150, if_neg (nI_ge (by omega) (by omega)), bd2_e (c_end h hb h2 hF), decide_eq_true q, if_pos (show bI (!true) = 0 from nI_0), bd4_e e1, hr, if_pos rfl, hat, nI_1]
        obtain ⟨u2, at2, w2, e4⟩ := ih (i + 1) b u1 w1 G (by omega) k4 (by omega) (by omega)
        refine ⟨u2, at2, w2, ?_⟩
        rw [lp_in step, e4, rdQ_s q e]
        cases rdQ t len n b <;> rfl
    · refine ⟨u, nI (skp t len a), wd, ?_⟩
      rw [rdQ_0 q]
      refine lp_out ?_
      unfold fX0_findFault_l7
      rw [uc4_s, il_150, if_neg (nI_ge (by omega) (by omega)), bd2_e (c_end h hb h2 hF), decide_eq_false q, if_neg (show ¬ bI (!false) = 0 from nn1)]
def nxt (t : Nat → Nat) (len a : Nat) : Nat := match cmQ t len a with
  | .inl f => f
  | .inr b => b
def apos (t : Nat → Nat) (len a : Nat) : Nat → Nat
  | 0 => skp t len a
  | i + 1 => skp t len (nxt t len (apos t len a i))
theorem nxt_e {t : Nat → Nat} {len a b : Nat} (e : cmQ t len a = .inr b) : nxt t len a = b := by
  unfold nxt
  rw [e]
theorem apos_s {t : Nat → Nat} {len a b : Nat} (e : cmQ t len (skp t len a) = .inr b) : ∀ i, apos t len b i = apos t len a (i + 1)
  | 0 => by
    show skp t len b = skp t len (nxt t len (skp t len a))
    rw [nxt_e e]
  | i + 1 => by
    conv => lhs; unfold apos
    rw [apos_s e i]
    rfl
def rdK (x : (Int32 × (Nat → Int32) × (Nat → Int32) × Int32) ⊕ (Int32 × (Nat → Int32) × (Nat → Int32) × Int32) ⊕ (Int32 × (Nat → Int32) × (Nat → Int32) × Int32) ⊕ (Int32 × (Nat → Int32) × (Nat → Int32) × Int32)) : Option (Int32 × Int32 × (Nat → Int32) × (Nat → Int32) × Int32) := bdS4 (some x) (uc4 fun v2 v3 v4 v5 =>
    some ((0 : Int32), v2, v3, v4, v5)) (uc4 fun v6 v7 v8 v9 =>
    some ((0 : Int32), v6, v7, v8, v9)) (uc4 fun v10 v11 v12 v13 =>
    some ((0 : Int32), v10, v11, v12, v13)) (uc4 fun v14 v15 v16 v17 =>
    some ((1 : Int32), v14, v15, v16, v17))
def VbOK (t : Nat → Nat) (len a c m : Nat) (vb td : Nat → Int32) : Prop := ∀ i, i < m → vb (c + i) = eN (cmW t len (apos t len a i)) ∧ ∀ k, k < ncN (cmW t len (apos t len a i)) → td (4 * (c + i) + k) = nI (nmV t len (ltr t len (apos t len a i)) k)
theorem m_read {t : Nat → Nat} {len F' : Nat} {mt : Nat → Int32} (h : TX t len) (hm : TB t len mt) (hF : 1000 < F') : ∀ n c a vb td F, 5 * c ≤ a → a ≤ len → 150 < a + 5 * n → n < F → ∃ x cc vb' td', lp (fX6_reads_l14 F' mt (nI len)) F (nI (skp t len a), vb, td, nI c) = some x ∧ rdK x = some (match rdQ t len n a with | .inl f => (nI 0, nI f, vb', td', nI cc) | .inr m => (nI 1, nI len, vb', td', nI (c + m))) ∧ cc < 40 ∧ (∀ j, j < c → vb' j = vb j) ∧ (∀ j, j < 4 * c → td' j = td j) ∧ ∀ m, rdQ t len n a = .inr m → VbOK t len a c m vb' td' := by
  have hl := h.1
  intro n
  induction n with
  | zero => intro c a vb td F h1 h2 h3; omega
  | succ n ih =>
    intro c a vb td F h1 h2 h3 hn
    obtain ⟨G, rfl⟩ : ∃ G, F = G + 1 := ⟨F - 1, by omega⟩
    have g1 := skp_le (t := t) h2
    have g2 := skp_ge t len a
    by_cases q : skp t len a < len
    · obtain ⟨k1, k2⟩ := cmQ_ok (t := t) g1
      have z1 := ltr_le (t := t) g1
      have hw9 := wd_le t (skp t len a) (ltr t len (skp t len a) - skp t len a)
      rw [show wdN t (skp t len a) (ltr t len (skp t len a) - skp t len a) = cmW t len (skp t len a) from rfl] at hw9
      have hv := m_verb h hm g1 hF
      rw [show wdN t (skp t len a) (ltr t len (skp t len a) - skp t len a) = cmW t len (skp t len a) from rfl] at hv
      by_cases e : cmW t len (skp t len a) = 0
      · have ecm : cmQ t len (skp t len a) = .inl (skp t len a) := if_pos e
        rw [e, if_pos rfl] at hv
        refine ⟨_, c, vb, td, lp_out (a := .inl (nI (skp t len a), vb, td, nI c)) ?_, ?_, by omega, fun _ _ => rfl, fun _ _ => rfl, fun m hm => by rw [rdQ_f q ecm] at hm; cases hm⟩
        · unfold fX6_reads_l14
          rw [uc4_s, if_neg (nI_ge q (by omega)), bd2_e hv, if_neg (fun z => z eN_0.symm)]
        · rw [rdQ_f q ecm]; rfl
      · rw [if_neg e] at hv
        have ecm : cmQ t len (skp t len a) = pst t len (nmQ t len (ncN (cmW t len (skp t len a))) (ltr t len (skp t len a))) := if_neg e
        rw [← nm_same] at ecm
        obtain ⟨td1, e1, e2, e3⟩ := m_nums (F' := F') (c := c) h hm hF (show cmW t len (skp t len a) < 10 by omega) (by omega) (by omega) (ncN (cmW t len (skp t len a))) 0 (ltr t len (skp t len a)) td F' (by omega) (by have := nc_le (cmW t len (skp t len a)); omega) z1
        have base : ∀ K1 K2, bdS2 (lp (fX6_reads_l49 F' mt (nI len) (nI c) (eN (cmW t len (skp t len a)))) F' ((0 : Int32), nI (ltr t len (skp t len a)), td)) K1 K2 = (bdS2 (some (smV (nmM t len (ncN (cmW t len (skp t len a))) (ltr t len (skp t len a))) td1)) K1 K2 : Option ((Int32 × (Nat → Int32) × (Nat → Int32) × Int32) ⊕ ((Int32 × (Nat → Int32) × (Nat → Int32) × Int32) ⊕ (Int32 × (Nat → Int32) × (Nat → Int32) × Int32) ⊕ (Int32 × (Nat → Int32) × (Nat → Int32) × Int32) ⊕ (Int32 × (Nat → Int32) × (Nat → Int32) × Int32)))) := fun K1 K2 => by
          rw [show lp (fX6_reads_l49 F' mt (nI len) (nI c) (eN (cmW t len (skp t len a)))) F' ((0 : Int32), nI (ltr t len (skp t len a)), td) = _ from e1]
        cases hq : nmM t len (ncN (cmW t len (skp t len a))) (ltr t len (skp t len a)) with
        | inl f =>
          rw [hq] at ecm base
          have ecm : cmQ t len (skp t len a) = .inl f := ecm
          refine ⟨_, c, upd vb c (eN (cmW t len (skp t len a))), td1, lp_out (a := .inr (.inl (nI f, upd vb c (eN (cmW t len (skp t len a))), td1, nI c))) ?_, ?_, by omega, fun j hj => upd_n (by omega), fun j hj => e2 j (by omega), fun m hm => by rw [rdQ_f q ecm] at hm; cases hm⟩
          · unfold fX6_reads_l14
            rw [uc4_s, if_neg (nI_ge q (by omega)), bd2_e hv, if_pos (fun z => e ((eN_eq (by omega) (by omega)).mp (by rw [← eN_0]; exact z))), gd_nI (by omega) (by omega), base, nI_clamp (by omega)]
            rfl
          · rw [rdQ_f q ecm]; rfl
        | inr p =>
          rw [hq] at ecm base
          have hp : p ≤ len := by
            have h9 := nm_same t len (ncN (cmW t len (skp t len a))) (ltr t len (skp t len a))
            obtain ⟨y1, y2⟩ := nmQ_le (t := t) (ncN (cmW t len (skp t len a))) (ltr t len (skp t len a)) z1
            rw [hq] at h9
            cases hz : nmQ t len (ncN (cmW t len (skp t len a))) (ltr t len (skp t len a)) with
            | inr p' =>
              rw [hz] at h9
              have k3 := (y1 p' hz).2
              have s1 := skp_ge t len p
              unfold pst at h9
              dsimp only at h9
              have s2 := skp_le (t := t) k3
              split at h9 <;> split at h9
              · have := Sum.inr.inj h9; omega
              · cases h9
              · cases h9
              · have := Sum.inl.inj h9; omega
            | inl f =>
              rw [hz] at h9
              have k3 := y2 f hz
              have s1 := skp_ge t len p
              unfold pst at h9
              dsimp only at h9
              split at h9
              · cases h9
              · have := Sum.inl.inj h9; omega
          have s2 := skp_le (t := t) hp
          by_cases y : pI t len 59 59 (skp t len p) = true
          · have y1 := (pI_y.mp y).1
            have ecm : cmQ t len (skp t len a) = .inr (skp t len p + 1) := by
              rw [ecm]; unfold pst; dsimp only; rw [if_pos y]
            obtain ⟨k3, k4, k5⟩ := k1 _ ecm
            have step : fX6_reads_l14 F' mt (nI len) (nI (skp t len a), vb, td, nI c) = some (.inl (nI (skp t len (skp t len p + 1)), upd vb c (eN (cmW t len (skp t len a))), td1, nI (c + 1))) := by
              unfold fX6_reads_l14
              rw [uc4_s, if_neg (nI_ge q (by omega)), bd2_e hv, if_pos (fun z => e ((eN_eq (by omega) (by omega)).mp (by rw [← eN_0]; exact z))), gd_nI (by omega) (by omega), base, nI_clamp (by omega)]
              show bd1 (fX6_skips F' mt (nI len) (nI p)) _ = _
              rw [bd1_e (m_skips h hm hp hF), il_59, bd1_e (m_isAt h hm (by omega) (by omega) (by omega)), y, bI_t, if_pos nn1, nm_s, nm_s, nI_1, bd1_e (m_skips h hm k4 hF), nI_1]
            obtain ⟨x, cc, vb2, td2, f1, f2, f3, f4, f5, f6⟩ := ih (c + 1) (skp t len p + 1) (upd vb c (eN (cmW t len (skp t len a)))) td1 G (by omega) k4 (by omega) (by omega)
            refine ⟨x, cc, vb2, td2, by rw [lp_in step, f1], ?_, f3, fun j hj => by rw [f4 j (by omega), upd_n (by omega)], fun j hj => by rw [f5 j (by omega), e2 j (by omega)], fun m hm => ?_⟩
            · rw [f2, rdQ_s q ecm]
              cases rdQ t len n (skp t len p + 1) with
              | inl f => rfl
              | inr m => show some (nI 1, nI len, vb2, td2, nI (c + 1 + m)) = some (nI 1, nI len, vb2, td2, nI (c + (m + 1))); rw [show c + 1 + m = c + (m + 1) from by omega]
            · rw [rdQ_s q ecm] at hm
              cases hz : rdQ t len n (skp t len p + 1) with
              | inl f => rw [hz] at hm; cases hm
              | inr m' =>
                rw [hz] at hm
                have hm : m' + 1 = m := Sum.inr.inj hm
                have f7 := f6 m' hz
                intro i hi
                cases i with
                | zero =>
                  refine ⟨by rw [Nat.add_zero, f4 c (by omega), upd_s]; rfl, fun k hk => ?_⟩
                  have hk : k < ncN (cmW t len (skp t len a)) := hk
                  have hk4 := nc_le (cmW t len (skp t len a))
                  rw [Nat.add_zero, f5 _ (by omega)]
                  have := e3 ⟨p, hq⟩ k hk
                  rw [Nat.add_zero] at this
                  exact this
                | succ i =>
                  have f8 := f7 i (by omega)
                  rw [apos_s ecm] at f8
                  rw [show c + (i + 1) = c + 1 + i from by omega]
                  exact f8
          · have ecm : cmQ t len (skp t len a) = .inl (skp t len p) := by
              rw [ecm]; unfold pst; dsimp only; rw [if_neg y]
            refine ⟨_, c, upd vb c (eN (cmW t len (skp t len a))), td1, lp_out (a := .inr (.inr (.inl (nI (skp t len p), upd vb c (eN (cmW t len (skp t len a))), td1, nI c)))) ?_, ?_, by omega, fun j hj => upd_n (by omega), fun j hj => e2 j (by omega), fun m hm => by rw [rdQ_f q ecm] at hm; cases hm⟩
            · unfold fX6_reads_l14
              rw [uc4_s, if_neg (nI_ge q (by omega)), bd2_e hv, if_pos (fun z => e ((eN_eq (by omega) (by omega)).mp (by rw [← eN_0]; exact z))), gd_nI (by omega) (by omega), base, nI_clamp (by omega)]
              show bd1 (fX6_skips F' mt (nI len) (nI p)) _ = _
              rw [bd1_e (m_skips h hm hp hF), il_59, bd1_e (m_isAt h hm (by omega) (by omega) (by omega)), Bool.eq_false_iff.mpr y, bI_f, if_neg (fun z => z nI_0)]
            · rw [rdQ_f q ecm]; rfl
    · refine ⟨_, 0, vb, td, lp_out (a := .inr (.inr (.inr (nI (skp t len a), vb, td, nI c)))) ?_, ?_, by omega, fun _ _ => rfl, fun _ _ => rfl, fun m hm i hi => ?_⟩
      · unfold fX6_reads_l14
        rw [uc4_s, if_pos (nI_le (by omega) (by omega))]
      · rw [rdQ_0 q, show skp t len a = len from by omega]; rfl
      · rw [rdQ_0 q] at hm
        have := Sum.inr.inj hm
        omega
theorem rdQ_lt {t : Nat → Nat} {len : Nat} : ∀ n a, a ≤ len → (∀ f, rdQ t len n a = .inl f → f ≤ len) ∧ ∀ m, rdQ t len n a = .inr m → a + 5 * m ≤ len
  | 0, a, h => ⟨fun f e => (by cases e), fun m e => by cases e; omega⟩
  | n + 1, a, h => by
    have g1 := skp_le (t := t) h
    have g2 := skp_ge t len a
    obtain ⟨k1, k2⟩ := cmQ_ok (t := t) g1
    by_cases q : skp t len a < len
    · cases e : cmQ t len (skp t len a) with
      | inl f => rw [rdQ_f q e]; exact ⟨fun f z => (by cases z; exact k2 _ e), fun m z => by cases z⟩
      | inr b =>
        obtain ⟨k3, k4, -⟩ := k1 b e
        obtain ⟨z1, z2⟩ := rdQ_lt (t := t) n b k4
        rw [rdQ_s q e]
        cases hz : rdQ t len n b with
        | inl f => exact ⟨fun f z => (by cases z; exact z1 _ hz), fun m z => by cases z⟩
        | inr m' => exact ⟨fun f z => (by cases z), fun m z => by cases z; have := z2 m' hz; omega⟩
    · rw [rdQ_0 q]
      exact ⟨fun f z => (by cases z), fun m z => by cases z; omega⟩
theorem le450 {a b r : Nat} (h : a ≤ b + 450) : a ≤ b + 450 * (r + 1) := Nat.le_trans h (Nat.add_le_add_left (Nat.le_mul_of_pos_right 450 (Nat.succ_pos r)) b)
theorem cmd_any {F a0 st w : Nat} {N S : Nat → Nat} {tr be tou vb td : Nat → Int32} {set fac : Nat → Int32} {dce : Nat → Int64} {pm sm : Nat} {cel : Nat → Int64} {ben off : Nat → Int32} {l1 l2 l3 l4 l5 : Int32} {lc lt lf num : Nat → Int32} (hF : 1000000 < F) (r : RelS N set fac dce pm sm cel ben off) (hg : N 10 + 1000 < 2 ^ 31) (hb : N 11 + 1000 < 2 ^ 31) (ha : a0 < 40) (hw1 : 1 ≤ w) (hw9 : w ≤ 9) (hv : vb a0 = eN w) (hn : ∀ k, k < ncN w → ∃ n, n < 1000 ∧ td (4 * a0 + k) = nI n ∧ num k = nI n) : CmdOK F N S st tr be tou vb td a0 set fac dce pm sm cel ben off l1 l2 l3 l4 l5 lc lt lf num (w - 1) := by
  obtain ⟨v, rfl⟩ : ∃ v, w = v + 1 := ⟨w - 1, by omega⟩
  rw [← eN_s] at hv
  rw [Nat.add_sub_cancel]
  have hc : v = 0 ∨ v = 1 ∨ v = 2 ∨ v = 3 ∨ v = 4 ∨ v = 5 ∨ v = 6 ∨ v = 7 ∨ v = 8 := by omega
  rcases hc with rfl | rfl | rfl | rfl | rfl | rfl | rfl | rfl | rfl
  · obtain ⟨n0, b0, t0, u0⟩ := hn 0 (by decide)
    obtain ⟨n1, b1, t1, u1⟩ := hn 1 (by decide)
    exact cmd0 hF r hg hb ha hv t0 u0 b0 t1 u1 b1
  · obtain ⟨n0, b0, t0, u0⟩ := hn 0 (by decide)
    obtain ⟨n1, b1, t1, u1⟩ := hn 1 (by decide)
    obtain ⟨n2, b2, t2, u2⟩ := hn 2 (by decide)
    obtain ⟨n3, b3, t3, u3⟩ := hn 3 (by decide)
    exact cmd1 hF r hg hb ha hv t0 u0 b0 t1 u1 b1 t2 u2 b2 t3 u3 b3
  · obtain ⟨n0, b0, t0, u0⟩ := hn 0 (by decide)
    obtain ⟨n1, b1, t1, u1⟩ := hn 1 (by decide)
    obtain ⟨n2, b2, t2, u2⟩ := hn 2 (by decide)
    obtain ⟨n3, b3, t3, u3⟩ := hn 3 (by decide)
    exact cmd2 hF r hg hb ha hv t0 u0 b0 t1 u1 b1 t2 u2 b2 t3 u3 b3
  · obtain ⟨n0, b0, t0, u0⟩ := hn 0 (by decide)
    obtain ⟨n1, b1, t1, u1⟩ := hn 1 (by decide)
    obtain ⟨n2, b2, t2, u2⟩ := hn 2 (by decide)
    obtain ⟨n3, b3, t3, u3⟩ := hn 3 (by decide)
    exact cmd3 hF r hg hb ha hv t0 u0 b0 t1 u1 b1 t2 u2 b2 t3 u3 b3
  · obtain ⟨n0, b0, t0, u0⟩ := hn 0 (by decide)
    obtain ⟨n1, b1, t1, u1⟩ := hn 1 (by decide)
    obtain ⟨n2, b2, t2, u2⟩ := hn 2 (by decide)
    exact cmd4 hF r hg hb ha hv t0 u0 b0 t1 u1 b1 t2 u2 b2
  · obtain ⟨n0, b0, t0, u0⟩ := hn 0 (by decide)
    obtain ⟨n1, b1, t1, u1⟩ := hn 1 (by decide)
    exact cmd5 hF r hg hb ha hv t0 u0 b0 t1 u1 b1
  · exact cmd6 hF r hg hb ha hv
  · obtain ⟨n0, b0, t0, u0⟩ := hn 0 (by decide)
    exact cmd7 hF r hg hb ha hv t0 u0 b0
  · obtain ⟨n0, b0, t0, u0⟩ := hn 0 (by decide)
    exact cmd8 hF r hg hb ha hv t0 u0 b0
def RunB (F' : Nat) (t : Nat → Nat) (len : Nat) (cb vb td : Nat → Int32) (m c2 : Nat) (S : Nat → Nat) (st F n i a r : Nat) (N : Nat → Nat) (tr be tou : Nat → Int32) (set fac : Nat → Int32) (dce : Nat → Int64) (pm sm : Nat) (cel : Nat → Int64) (ben off : Nat → Int32) (l1 l2 l3 l4 l5 : Int32) (lc lt lf num : Nat → Int32) (wd : Int32) : Prop :=
  ∃ (d : Nat) (N' : Nat → Nat) (th : Nat) (tr' be' tou' : Nat → Int32) (fac' : Nat → Int32) (dce' : Nat → Int64) (pm' sm' : Nat) (cel' : Nat → Int64) (ben' off' : Nat → Int32) (k1 k2 k3 k4 k5 : Int32) (lc' lt' lf' num' : Nat → Int32) (at' wd' : Int32),
    lp (fX6_runCommands_l33 F' vb td (nI m)) F (nI i, nI i, lA N, lA S, nI st, nI 0, tr, be, tou) = some (nI d, lA N', lA S, nI st, nI th, tr', be', tou') ∧
    lp (fX5_runCommands_l32 F' (nI c2) set cb (nI len)) F (nI i, nI (N 0), nI (N 1), lN (N 14), lN (N 15), nI (N 8), nI (N 13), fac, dce, nI pm, nI sm, cel, ben, off, nI (N 9), nI (N 10), nI (N 11), nI (N 12), l1, l2, l3, l4, l5, lc, lt, lf, num, nI a, wd) = some (.inl (nI d, nI (N' 0), nI (N' 1), lN (N' 14), lN (N' 15), nI (N' 8), nI (N' 13), fac', dce', nI pm', nI sm', cel', ben', off', nI (N' 9), nI (N' 10), nI (N' 11), nI (N' 12), k1, k2, k3, k4, k5, lc', lt', lf', num', at', wd')) ∧
    RelS N' set fac' dce' pm' sm' cel' ben' off' ∧ N' 2 = c2 ∧ N' 10 ≤ N 10 + 450 * r ∧ N' 11 ≤ N 11 + 450 * r
theorem run_b {t : Nat → Nat} {len F' : Nat} {cb vb td : Nat → Int32} {m c2 : Nat} {S : Nat → Nat} {st : Nat} {set : Nat → Int32} (h : TX t len) (hb : TB t len cb) (hF : 1000000 < F') : ∀ r n i a F N tr be tou fac dce pm sm cel ben off l1 l2 l3 l4 l5 lc lt lf num wd, i + r = m → 5 * i ≤ a → a ≤ len → 150 < a + 5 * n → n < F → rdQ t len n a = .inr r → VbOK t len a i r vb td → RelS N set fac dce pm sm cel ben off → N 2 = c2 → N 10 + 450 * r + 1000 < 2 ^ 31 → N 11 + 450 * r + 1000 < 2 ^ 31 → RunB F' t len cb vb td m c2 S st F n i a r N tr be tou set fac dce pm sm cel ben off l1 l2 l3 l4 l5 lc lt lf num wd := by
  have hl := h.1
  intro r
  induction r with
  | zero =>
    intro n i a F N tr be tou fac dce pm sm cel ben off l1 l2 l3 l4 l5 lc lt lf num wd hi h5 ha hn hnF hq hv hR h2 hg hbd
    obtain ⟨G, rfl⟩ : ∃ G, F = G + 1 := ⟨F - 1, by omega⟩
    obtain ⟨n', rfl⟩ : ∃ n', n = n' + 1 := ⟨n - 1, by omega⟩
    have g1 := skp_le (t := t) ha
    have q : ¬ skp t len a < len := fun q => by
      cases e : cmQ t len (skp t len a) with
      | inl f => rw [rdQ_f q e] at hq; cases hq
      | inr b =>
        rw [rdQ_s q e] at hq
        cases hz : rdQ t len n' b with
        | inl f => rw [hz] at hq; cases hq
        | inr c => rw [hz] at hq; have := Sum.inr.inj hq; omega
    refine ⟨i, N, 0, tr, be, tou, fac, dce, pm, sm, cel, ben, off, l1, l2, l3, l4, l5, lc, lt, lf, num, nI (skp t len a), wd, lp_out ?_, lp_out ?_, hR, h2, by omega, by omega⟩
    · unfold fX6_runCommands_l33
      rw [uc9_s, if_pos (nI_le (by omega) (by omega))]
    · unfold fX5_runCommands_l32
      rw [uc29_s, il_150, if_neg (nI_ge (by omega) (by omega)), bd2_e (c_end h hb ha (by omega)), decide_eq_false q, if_pos (show ¬ bI (!false) = 0 from nn1)]
  | succ r ih =>
    intro n i a F N tr be tou fac dce pm sm cel ben off l1 l2 l3 l4 l5 lc lt lf num wd hi h5 ha hn hnF hq hv hR h2 hg hbd
    obtain ⟨G, rfl⟩ : ∃ G, F = G + 1 := ⟨F - 1, by omega⟩
    obtain ⟨n', rfl⟩ : ∃ n', n = n' + 1 := ⟨n - 1, by omega⟩
    have g1 := skp_le (t := t) ha
    have g2 := skp_ge t len a
    obtain ⟨k1, k2⟩ := cmQ_ok (t := t) g1
    by_cases q : skp t len a < len
    · cases e : cmQ t len (skp t len a) with
      | inl f => rw [rdQ_f q e] at hq; cases hq
      | inr b =>
        obtain ⟨k3, k4, k5⟩ := k1 b e
        rw [rdQ_s q e] at hq
        cases hz : rdQ t len n' b with
        | inl f => rw [hz] at hq; cases hq
        | inr c =>
          rw [hz] at hq
          have hc : c = r := by have := Sum.inr.inj hq; omega
          subst hc
          have hw9 := wd_le t (skp t len a) (ltr t len (skp t len a) - skp t len a)
          rw [show wdN t (skp t len a) (ltr t len (skp t len a) - skp t len a) = cmW t len (skp t len a) from rfl] at hw9
          obtain ⟨rr, num1, at1, w1, e1, -, e3⟩ := c_cmd (F := F') (u := num) (wd := wd) h hb g1 (by omega)
          obtain ⟨e4, e5, e6, e7⟩ := e3 b e
          obtain ⟨v1, v2⟩ := hv 0 (by omega)
          have v1 : vb i = eN (cmW t len (skp t len a)) := v1
          have v2 : ∀ k, k < ncN (cmW t len (skp t len a)) → td (4 * i + k) = nI (nmV t len (ltr t len (skp t len a)) k) := v2
          obtain ⟨N1, th, tr1, be1, tou1, fl, fac1, dce1, pm1, sm1, cel1, ben1, off1, j1, j2, j3, j4, j5, lc1, lt1, lf1, d1, d2, d3, d4, d5, d6, d7, d8⟩ := cmd_any (F := F') (S := S) (st := st) (tr := tr) (be := be) (tou := tou) (num := num1) (l1 := l1) (l2 := l2) (l3 := l3) (l4 := l4) (l5 := l5) (lc := lc) (lt := lt) (lf := lf) hF hR (by omega) (by omega) (show i < 40 by omega) k5 hw9 v1 (fun k hk => ⟨_, nv_lt _ _ _, v2 k hk, e7 k hk⟩)
          have ew : w1 = nI (cmW t len (skp t len a) - 1) := by
            rw [e6, eN_s, show cmW t len (skp t len a) - 1 + 1 = cmW t len (skp t len a) from by omega]
          rw [e4, e5, ew] at e1
          rw [h2] at d2
          have hv' : VbOK t len b (i + 1) c vb td := fun j hj => by
            have := hv (j + 1) (by omega)
            rw [apos_s e, show i + 1 + j = i + (j + 1) from by omega]
            exact this
          cases fl with
          | true =>
            have hth : th = 0 := d4.mp rfl
            subst hth
            have s1 : fX6_runCommands_l33 F' vb td (nI m) (nI i, nI i, lA N, lA S, nI st, nI 0, tr, be, tou) = some (.inl (nI (i + 1), nI (i + 1), lA N1, lA S, nI st, nI 0, tr1, be1, tou1)) := by
              unfold fX6_runCommands_l33
              rw [uc9_s, if_neg (nI_ge (by omega) (by omega)), if_neg (fun z => z nI_0), il_1, bd7_e d1, if_neg (fun z => z nI_0), bd1_s, nm_s, nI_add]
            have s2 : fX5_runCommands_l32 F' (nI c2) set cb (nI len) (nI i, nI (N 0), nI (N 1), lN (N 14), lN (N 15), nI (N 8), nI (N 13), fac, dce, nI pm, nI sm, cel, ben, off, nI (N 9), nI (N 10), nI (N 11), nI (N 12), l1, l2, l3, l4, l5, lc, lt, lf, num, nI a, wd) = some (.inl (nI (i + 1), nI (N1 0), nI (N1 1), lN (N1 14), lN (N1 15), nI (N1 8), nI (N1 13), fac1, dce1, nI pm1, nI sm1, cel1, ben1, off1, nI (N1 9), nI (N1 10), nI (N1 11), nI (N1 12), j1, j2, j3, j4, j5, lc1, lt1, lf1, num1, nI b, nI (cmW t len (skp t len a) - 1))) := by
              unfold fX5_runCommands_l32
              rw [uc29_s, il_150, if_neg (nI_ge (by omega) (by omega)), bd2_e (c_end h hb ha (by omega)), decide_eq_true q, if_neg (fun z => z (show bI (!true) = 0 from nI_0)), bd4_e e1, if_neg (fun z => z rfl), bd26_e d2, bI_t, if_pos nn1, nI_1]
            obtain ⟨d, N', th', tr', be', tou', fac', dce', pm', sm', cel', ben', off', q1, q2, q3, q4, q5, lc', lt', lf', num', at', wd', r1, r2, r3, r4, r5, r6⟩ := ih n' (i + 1) b G N1 tr1 be1 tou1 fac1 dce1 pm1 sm1 cel1 ben1 off1 j1 j2 j3 j4 j5 lc1 lt1 lf1 num1 (nI (cmW t len (skp t len a) - 1)) (by omega) (by omega) k4 (by omega) (by omega) hz hv' d3 (by omega) (by omega) (by omega)
            exact ⟨d, N', th', tr', be', tou', fac', dce', pm', sm', cel', ben', off', q1, q2, q3, q4, q5, lc', lt', lf', num', at', wd', by rw [lp_in s1, r1], by rw [lp_in s2, r2], r3, r4, by omega, by omega⟩
          | false =>
            have hth : ¬ th = 0 := fun z => by have := d4.mpr z; cases this
            have s1 : fX6_runCommands_l33 F' vb td (nI m) (nI i, nI i, lA N, lA S, nI st, nI 0, tr, be, tou) = some (.inl (nI i, nI (i + 1), lA N1, lA S, nI st, nI th, tr1, be1, tou1)) := by
              unfold fX6_runCommands_l33
              rw [uc9_s, if_neg (nI_ge (by omega) (by omega)), if_neg (fun z => z nI_0), il_1, bd7_e d1, if_pos (nI_ne0 (by omega) (by omega)), bd1_s, nm_s, il_0, nI_add, nI_add]
              rfl
            obtain ⟨G', rfl⟩ : ∃ G', G = G' + 1 := ⟨G - 1, by omega⟩
            have s3 : fX6_runCommands_l33 F' vb td (nI m) (nI i, nI (i + 1), lA N1, lA S, nI st, nI th, tr1, be1, tou1) = some (.inr (nI i, lA N1, lA S, nI st, nI th, tr1, be1, tou1)) := by
              unfold fX6_runCommands_l33
              rw [uc9_s]
              by_cases y : m ≤ i + 1
              · rw [if_pos (nI_le y (by omega))]
              · rw [if_neg (nI_ge (by omega) (by omega)), if_pos (nI_ne0 (by omega) (by omega))]
            refine ⟨i, N1, th, tr1, be1, tou1, fac1, dce1, pm1, sm1, cel1, ben1, off1, j1, j2, j3, j4, j5, lc1, lt1, lf1, num1, nI b, nI (cmW t len (skp t len a) - 1), (lp_in s1).trans (lp_out s3), lp_out ?_, d3, by omega, le450 d7, le450 d8⟩
            unfold fX5_runCommands_l32
            rw [uc29_s, il_150, if_neg (nI_ge (by omega) (by omega)), bd2_e (c_end h hb ha (by omega)), decide_eq_true q, if_neg (fun z => z (show bI (!true) = 0 from nI_0)), bd4_e e1, if_neg (fun z => z rfl), bd26_e d2, bI_f, if_neg (fun z => z nI_0)]
    · rw [rdQ_0 q] at hq
      have := Sum.inr.inj hq
      omega
