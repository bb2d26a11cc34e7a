/-! what holds between two calls of the law -/
def GN (N : Nat → Nat) : Prop := N 9 = N 10 + N 11 + ptS N ∧ ∀ o, o < N 8 → N (20 + 6 * o + 0) = 1 → N (20 + 6 * o + 4) = 1
def RGN (st : Nat) (S : Nat → Nat) : Prop := ∀ a, a < st → GN (fun j => S (100 * a + j))
def I3 (B : Nat) (c : CSt) (N : Nat → Nat) : Prop := ∃ (S : Nat → Nat) (o st len : Nat) (set fac : Nat → Int32) (dce : Nat → Int64) (pm sm : Nat) (cel : Nat → Int64) (ben off : Nat → Int32) (SS : Nat → Snap) (tr : Int32 × Int32 × (Nat → Int64) × (Nat → Int32) × (Nat → Int32) × Int32 × Int32 × Int32 × Int32) (pl : Int32 × Int32 × Int32 × Int32 × Int32 × (Nat → Int32) × (Nat → Int32) × (Nat → Int32)) (cb u : Nat → Int32) (cat wd : Int32), c = (nI o, nI st, snp N set fac dce pm sm cel ben off, SS, tr, pl, (cb, u, nI len, cat, wd)) ∧ RelS N set fac dce pm sm cel ben off ∧ Ring o st SS S B ∧ N 10 ≤ B ∧ N 11 ≤ B ∧ GN N ∧ RGN st S
theorem I3.mk {B : Nat} {N : Nat → Nat} {S : Nat → Nat} {o st len : Nat} {set fac : Nat → Int32} {dce : Nat → Int64} {pm sm : Nat} {cel : Nat → Int64} {ben off : Nat → Int32} {SS : Nat → Snap} {tr : Int32 × Int32 × (Nat → Int64) × (Nat → Int32) × (Nat → Int32) × Int32 × Int32 × Int32 × Int32} {pl : Int32 × Int32 × Int32 × Int32 × Int32 × (Nat → Int32) × (Nat → Int32) × (Nat → Int32)} {cb u : Nat → Int32} {cat wd : Int32} {q : Snap} (hq : q = snp N set fac dce pm sm cel ben off) (r : RelS N set fac dce pm sm cel ben off) (g : Ring o st SS S B) (b10 : N 10 ≤ B) (b11 : N 11 ≤ B) (gn : GN N) (rg : RGN st S) : I3 B (nI o, nI st, q, SS, tr, pl, (cb, u, nI len, cat, wd)) N := by
  subst hq
  exact ⟨S, o, st, len, set, fac, dce, pm, sm, cel, ben, off, SS, tr, pl, cb, u, cat, wd, rfl, r, g, b10, b11, gn, rg⟩
theorem I3.mono {B B' : Nat} {c : CSt} {N : Nat → Nat} (h : I3 B c N) (hb : B ≤ B') : I3 B' c N := by
  obtain ⟨S, o, st, len, set, fac, dce, pm, sm, cel, ben, off, SS, tr, pl, cb, u, cat, wd, rfl, r, g, b10, b11, gn, rg⟩ := h
  exact ⟨S, o, st, len, set, fac, dce, pm, sm, cel, ben, off, SS, tr, pl, cb, u, cat, wd, rfl, r, g.mono hb, Nat.le_trans b10 hb, Nat.le_trans b11 hb, gn, rg⟩
theorem I3.dw {B : Nat} {c : CSt} {N : Nat → Nat} (h : I3 B c N) : DW N ∧ PW N ∧ DJ N ∧ GN N ∧ N 10 ≤ B ∧ N 11 ≤ B := by
  obtain ⟨S, o, st, len, set, fac, dce, pm, sm, cel, ben, off, SS, tr, pl, cb, u, cat, wd, rfl, r, g, b10, b11, gn, rg⟩ := h
  exact ⟨r.1, r.2.1, r.2.2.2.2, gn, b10, b11⟩
section GV
variable {F B : Nat} {c : CSt} {N : Nat → Nat}
theorem gv_whole (hF : 1000000 < F) (i : I3 B c N) {k : Nat} (hk : k ≤ 15) : g_whole F c (nI k) = some (whV N 0 k) := by
  obtain ⟨S, o, st, len, set, fac, dce, pm, sm, cel, ben, off, SS, tr, pl, cb, u, cat, wd, rfl, r, g, b10, b11, gn, rg⟩ := i
  refine Eq.trans (c5_whole (len := len) (by omega) r (show k ≤ 16 by omega)) ?_
  unfold whV
  rw [if_neg (show ¬ k = 16 by omega), if_neg (show ¬ k = 16 by omega)]
theorem gv_cells (hF : 1000000 < F) (i : I3 B c N) {k : Nat} (hk : k ≤ 5) : g_cellSet F c (nI k) = some (lN (csV N k)) := by
  obtain ⟨S, o, st, len, set, fac, dce, pm, sm, cel, ben, off, SS, tr, pl, cb, u, cat, wd, rfl, r, g, b10, b11, gn, rg⟩ := i
  exact c5_cells (by omega) r hk
theorem gv_oper (hF : 1000000 < F) (i : I3 B c N) {a k : Nat} (ho : a < N 8) (hk : k ≤ 7) : g_operation F c (nI a) (nI k) = some (opV N a k) := by
  obtain ⟨S, o, st, len, set, fac, dce, pm, sm, cel, ben, off, SS, tr, pl, cb, u, cat, wd, rfl, r, g, b10, b11, gn, rg⟩ := i
  exact c5_oper (by omega) r ho hk
theorem gv_stat (hF : 1000000 < F) (i : I3 B c N) {s k : Nat} (hs : s < 8) (hk : k ≤ 3) : g_station F c (nI s) (nI k) = some (saV N s k) := by
  obtain ⟨S, o, st, len, set, fac, dce, pm, sm, cel, ben, off, SS, tr, pl, cb, u, cat, wd, rfl, r, g, b10, b11, gn, rg⟩ := i
  exact c5_stat (by omega) r hs hk
theorem gv_pitch (hF : 1000000 < F) (i : I3 B c N) {s k : Nat} (hs : s < 8) (hk : k ≤ 3) : g_pitch F c (nI s) (nI k) = some (ptV N s k) := by
  obtain ⟨S, o, st, len, set, fac, dce, pm, sm, cel, ben, off, SS, tr, pl, cb, u, cat, wd, rfl, r, g, b10, b11, gn, rg⟩ := i
  exact c5_pitch r hs hk
theorem gv_left (hF : 1000000 < F) (i : I3 B c N) {s : Nat} (hs : s < 8) : g_left F c (nI s) = some (lN (N (60 + 5 * s + 1))) := by
  obtain ⟨S, o, st, len, set, fac, dce, pm, sm, cel, ben, off, SS, tr, pl, cb, u, cat, wd, rfl, r, g, b10, b11, gn, rg⟩ := i
  exact c5_left r hs
theorem gv_dieFault (hF : 1000000 < F) (i : I3 B c N) : g_dieFault F c = some (nI (fdS N)) := by
  obtain ⟨S, o, st, len, set, fac, dce, pm, sm, cel, ben, off, SS, tr, pl, cb, u, cat, wd, rfl, r, g, b10, b11, gn, rg⟩ := i
  show fX5_dieFault F (nI (N 0)) (nI (N 1)) (nI (N 2)) (lN (N 14)) (lN (N 15)) (nI (N 8)) fac dce = some (nI (fdS N))
  unfold fX5_dieFault
  rw [bd1_e (x1_fdie (by omega) r.1 r.2.2.1)]
theorem gv_planFault (hF : 1000000 < F) (i : I3 B c N) : g_planFault F c = some (nI (pfS N)) := by
  obtain ⟨S, o, st, len, set, fac, dce, pm, sm, cel, ben, off, SS, tr, pl, cb, u, cat, wd, rfl, r, g, b10, b11, gn, rg⟩ := i
  show fX5_planFault F (nI (N 0)) (nI (N 1)) (nI (N 8)) set fac dce = some (nI (pfS N))
  unfold fX5_planFault
  rw [bd1_e (x1_pf (by omega) r.1 r.2.2.1)]
theorem gv_fits (hF : 1000000 < F) (i : I3 B c N) : g_fitsTwice F c = some (bI (fiS N)) := by
  obtain ⟨S, o, st, len, set, fac, dce, pm, sm, cel, ben, off, SS, tr, pl, cb, u, cat, wd, rfl, r, g, b10, b11, gn, rg⟩ := i
  exact c5_fits (F := F) (by omega) r
theorem gv_scrap (hF : 1000000 < F) (i : I3 B c N) (b : Bool) : g_scrap F c (bI b) = some (scR N b) := by
  obtain ⟨S, o, st, len, set, fac, dce, pm, sm, cel, ben, off, SS, tr, pl, cb, u, cat, wd, rfl, r, g, b10, b11, gn, rg⟩ := i
  exact x5_scrap (by omega) r.1 b
theorem gv_planned (hF : 1000000 < F) (i : I3 B c N) : ∃ rr ch c2, g_planned F c (-1) = some (rr, c2) ∧ PlanRes N (N 3) rr ch ∧ I3 B c2 N := by
  obtain ⟨S, o, st, len, set, fac, dce, pm, sm, cel, ben, off, SS, tr, pl, cb, u, cat, wd, rfl, r, g, b10, b11, gn, rg⟩ := i
  obtain ⟨p1, p2, p3, p4, p5, p6, p7, p8⟩ := pl
  obtain ⟨rr, x1, x2, x3, x4, x5, ch', x7, x8, e1, r1⟩ := c5_planN (ch := p6) (tou := p7) (frc := p8) hF r
  exact ⟨rr, ch', _, bd9_e e1, r1, I3.mk rfl r g b10 b11 gn rg⟩
theorem gv_soon (hF : 1000000 < F) (hB : B < 2 ^ 30) (i : I3 B c N) : ∃ c2, g_strokesToGood F c = some (tgR F N, c2) ∧ I3 B c2 N := by
  obtain ⟨S, o, st, len, set, fac, dce, pm, sm, cel, ben, off, SS, tr, pl, cb, u, cat, wd, rfl, r, g, b10, b11, gn, rg⟩ := i
  obtain ⟨t1, t2, t3, t4, t5, t6, t7, t8, t9⟩ := tr
  obtain ⟨a1, a2, a3, a4, a5, a6, a7, a8, a9, e1⟩ := x5_tg (F := F) (tc := t3) (tb := t4) (to := t5) (by omega) r (by omega) (by omega)
  exact ⟨_, bd10_e e1, I3.mk rfl r g b10 b11 gn rg⟩
end GV
