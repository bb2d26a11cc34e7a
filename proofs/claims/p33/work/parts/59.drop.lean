/-- bits of bends when operation a goes -/
def rbS (b a : Nat) : Nat := (b &&& (2 ^ a - 1)) ||| (b / 2 ^ (a + 1) * 2 ^ a)
theorem rb_lt : ∀ a, a < 6 → ∀ b, b < 64 → rbS b a < 64 := by decide +kernel
theorem rb_0 (a : Nat) : rbS 0 a = 0 := by unfold rbS; simp
theorem rb_cls : ∀ a, a < 6 → ∀ b, b < 64 → (nI b &&& nI (2 ^ a - 1)) ||| ((nI b >>> ((1 : Int32) &&& 31)) &&& (nI (2 ^ a - 1) ^^^ (-1 : Int32))) = nI (rbS b a) := by decide +kernel
def drN (N : Nat → Nat) (a : Nat) : Nat → Nat := fun j => if j = 8 then N 8 - 1 else if 20 + 6 * a ≤ j ∧ j < 50 then N (j + 6) else if 60 ≤ j ∧ j < 100 ∧ (j - 60) % 5 = 2 then rbS (N j) a else N j
theorem x6_drop {F : Nat} {N S S' : Nat → Nat} {st st' a : Nat} {q : Bool} (hF : 1000 < F) (h : DW N) (w : PW N) (ha : a < N 8) (sv : SV F N S st q S' st') : fX6_dropOperation F (lA N) (lA S) (nI st) (bI q) (nI a) = some (nI (N 8 - 1), lA (drN N a), lA S', nI st', 0) := by
  unfold fX6_dropOperation
  have h8 := h.2.2.2.1.1
  have L1 := lp_seqE (body := fX6_dropOperation_l31) (S := fun t => (nI (20 + 6 * a + t), lA (fun j => if 20 + 6 * a ≤ j ∧ j < 20 + 6 * a + t then N (j + 6) else N j))) (x0 := (nI (20 + 6 * a), lA N)) (by
      congr 1
      apply congrArg
      funext j
      exact (if_neg (by omega)).symm) (n := 50 - (20 + 6 * a)) (a := lA (fun j => if 20 + 6 * a ≤ j ∧ j < 50 then N (j + 6) else N j)) (F := F) (fun t ht => by
      show fX6_dropOperation_l31 (nI (20 + 6 * a + t), lA (fun j => if 20 + 6 * a ≤ j ∧ j < 20 + 6 * a + t then N (j + 6) else N j)) = some (.inl (nI (20 + 6 * a + (t + 1)), lA (fun j => if 20 + 6 * a ≤ j ∧ j < 20 + 6 * a + (t + 1) then N (j + 6) else N j)))
      unfold fX6_dropOperation_l31
      rw [uc2_s, il_50, if_neg (nI_ge (by omega) (by omega)), il_6, nI_add, nm_s, gd_lit (by omega), nI_clamp (by omega), lA_at, nm_s, gd_lit (by omega), nI_clamp (by omega), vp1, il_1, nI_add]
      congr 4
      funext j
      show (if j = 20 + 6 * a + t then (if 20 + 6 * a ≤ 20 + 6 * a + t + 6 ∧ 20 + 6 * a + t + 6 < 20 + 6 * a + t then N (20 + 6 * a + t + 6 + 6) else N (20 + 6 * a + t + 6)) else if 20 + 6 * a ≤ j ∧ j < 20 + 6 * a + t then N (j + 6) else N j) = if 20 + 6 * a ≤ j ∧ j < 20 + 6 * a + (t + 1) then N (j + 6) else N j
      by_cases q : j = 20 + 6 * a + t
      · rw [if_pos q, if_neg (by omega), if_pos (by omega), q]
      · rw [if_neg q]
        by_cases q2 : 20 + 6 * a ≤ j ∧ j < 20 + 6 * a + t
        · rw [if_pos q2, if_pos (by omega)]
        · rw [if_neg q2, if_neg (by omega)]) (by
      show fX6_dropOperation_l31 (nI (20 + 6 * a + (50 - (20 + 6 * a))), lA (fun j => if 20 + 6 * a ≤ j ∧ j < 20 + 6 * a + (50 - (20 + 6 * a)) then N (j + 6) else N j)) = _
      unfold fX6_dropOperation_l31
      rw [show 20 + 6 * a + (50 - (20 + 6 * a)) = 50 by omega, uc2_s, il_50, if_pos (nI_le (Nat.le_refl _) (by omega))]) (by omega)
  have L2 := lp_seqE (body := fX6_dropOperation_l60 (nI a)) (S := fun t => (nI t, lA (fun j => if 60 ≤ j ∧ j < 60 + 5 * t ∧ (j - 60) % 5 = 2 then rbS (N j) a else if 20 + 6 * a ≤ j ∧ j < 50 then N (j + 6) else N j))) (x0 := (nI 0, lA (fun j => if 20 + 6 * a ≤ j ∧ j < 50 then N (j + 6) else N j))) (by
      congr 1
      apply congrArg
      funext j
      exact (if_neg (by omega)).symm) (n := 8) (a := lA (fun j => if 60 ≤ j ∧ j < 100 ∧ (j - 60) % 5 = 2 then rbS (N j) a else if 20 + 6 * a ≤ j ∧ j < 50 then N (j + 6) else N j)) (F := F) (fun t ht => by
      show fX6_dropOperation_l60 (nI a) (nI t, lA (fun j => if 60 ≤ j ∧ j < 60 + 5 * t ∧ (j - 60) % 5 = 2 then rbS (N j) a else if 20 + 6 * a ≤ j ∧ j < 50 then N (j + 6) else N j)) = some (.inl (nI (t + 1), lA (fun j => if 60 ≤ j ∧ j < 60 + 5 * (t + 1) ∧ (j - 60) % 5 = 2 then rbS (N j) a else if 20 + 6 * a ≤ j ∧ j < 50 then N (j + 6) else N j)))
      unfold fX6_dropOperation_l60
      have b64 : N (60 + 5 * t + 2) < 64 := (w t ht).2.2.1
      rw [uc2_s, il_8, if_neg (nI_ge (by omega) (by omega)), il_2, bd1_e (ofPitch_s (by omega)), one_shl_m1 (by omega), il_1, nI_add, lshr_N (a := (if 60 ≤ 60 + 5 * t + 2 ∧ 60 + 5 * t + 2 < 60 + 5 * t ∧ (60 + 5 * t + 2 - 60) % 5 = 2 then rbS (N (60 + 5 * t + 2)) a else if 20 + 6 * a ≤ 60 + 5 * t + 2 ∧ 60 + 5 * t + 2 < 50 then N (60 + 5 * t + 2 + 6) else N (60 + 5 * t + 2))) (by rw [if_neg (by omega), if_neg (by omega)]; omega) (by omega), wb_shl _ (by omega), fb_andL, nm_s, il_60, il_5, pk_mul, nI_add, nI_add, nm_s, fb_orL, nm_s, gd_lit (by omega), nI_clamp (by omega), vp1, nI_add]
      congr 4
      funext j
      rw [if_neg (show ¬ (60 ≤ 60 + 5 * t + 2 ∧ 60 + 5 * t + 2 < 60 + 5 * t ∧ (60 + 5 * t + 2 - 60) % 5 = 2) by omega), if_neg (show ¬ (20 + 6 * a ≤ 60 + 5 * t + 2 ∧ 60 + 5 * t + 2 < 50) by omega)]
      show (if j = 60 + 5 * t + 2 then rbS (N (60 + 5 * t + 2)) a else if 60 ≤ j ∧ j < 60 + 5 * t ∧ (j - 60) % 5 = 2 then rbS (N j) a else if 20 + 6 * a ≤ j ∧ j < 50 then N (j + 6) else N j) = if 60 ≤ j ∧ j < 60 + 5 * (t + 1) ∧ (j - 60) % 5 = 2 then rbS (N j) a else if 20 + 6 * a ≤ j ∧ j < 50 then N (j + 6) else N j
      by_cases q : j = 60 + 5 * t + 2
      · rw [if_pos q, if_pos (by omega), q]
      · rw [if_neg q]
        by_cases q2 : 60 ≤ j ∧ j < 60 + 5 * t ∧ (j - 60) % 5 = 2
        · rw [if_pos q2, if_pos (by omega)]
        · rw [if_neg q2, if_neg (show ¬ (60 ≤ j ∧ j < 60 + 5 * (t + 1) ∧ (j - 60) % 5 = 2) by omega)]) (by
      show fX6_dropOperation_l60 (nI a) (nI 8, _) = _
      unfold fX6_dropOperation_l60
      rw [uc2_s, il_8, if_pos (nI_le (Nat.le_refl _) (by omega))]) (by omega)
  rw [bd1_e (isop_y h8 ha), if_pos (show ¬ nI 1 = 0 by decide +kernel), bd2_e sv, il_20, il_6, pk_mul, nI_add, nm_s, bd1_e L1, show (0 : Int32) = nI 0 from rfl, bd1_e L2, il_8, nI_clamp (by omega), gd_lit (by omega), lA_at, if_neg (by omega), if_neg (by omega), ll_1, lN_sub (by omega), nm_s, gd_lit (by omega), vp1, bd1_e (many_s (k := 8) (by omega)), upN_s]
  congr 2
  apply congrArg (fun x => (lA x, lA S', nI st', nI 0))
  funext j
  unfold upN drN
  dsimp only
  by_cases q1 : j = 8
  · rw [if_pos q1, if_pos q1]
  · rw [if_neg q1, if_neg q1]
    by_cases q2 : 20 + 6 * a ≤ j ∧ j < 50
    · rw [if_neg (by omega), if_pos q2, if_pos q2]
    · rw [if_neg q2]
      by_cases q3 : 60 ≤ j ∧ j < 100 ∧ (j - 60) % 5 = 2
      · rw [if_pos q3, if_neg q2]
      · rw [if_neg q3, if_neg q2]
theorem x6_drop_no {F : Nat} {N : Nat → Nat} {s : Nat → Int64} {st q a : Int32} (h8 : N 8 ≤ 6) (ho : ¬ (0 ≤ a.toInt ∧ a.toInt < (N 8 : Int))) : fX6_dropOperation F (lA N) s st q a = some (0, lA N, s, st, 1) := by
  unfold fX6_dropOperation
  rw [bd1_e (isop_no h8 ho), if_neg (nn (show nI 0 = 0 from rfl))]
  rfl
/-! the class: remove, forgetBend -/
def rmF {α : Type} (k : Nat) (f : Nat → α) (a n : Nat) : Nat → α := fun i => if k * a ≤ i ∧ i < k * n then f (i + k) else f i
theorem x1_remove {F : Nat} {fac : Nat → Int32} {dce : Nat → Int64} {n a : Nat} (hF : 1000 < F) (hn : n ≤ 6) (ha : a < n) : fX1_remove F (nI n) fac dce (nI a) = some (nI (n - 1), rmF 7 fac a (n - 1), rmF 1 dce a (n - 1)) := by
  unfold fX1_remove
  have inner : ∀ (g : Nat → Int32) (o : Nat), o < 5 → lp (fX1_remove_l14 (nI o)) F (nI 0, g) = some (rmF 7 g o (o + 1)) := by
    intro g o ho
    refine lp_seqE (S := fun u => (nI u, fun i => if 7 * o ≤ i ∧ i < 7 * o + u then g (i + 7) else g i)) (by
      congr 1
      funext i
      exact (if_neg (by omega)).symm) (n := 7) (F := F) (fun u hu => ?_) ?_ (by omega)
    · show fX1_remove_l14 (nI o) (nI u, fun i => if 7 * o ≤ i ∧ i < 7 * o + u then g (i + 7) else g i) = some (.inl (nI (u + 1), fun i => if 7 * o ≤ i ∧ i < 7 * o + (u + 1) then g (i + 7) else g i))
      unfold fX1_remove_l14
      rw [uc2_s, il_7, if_neg (nI_ge hu (by omega)), il_1, nI_add, bd1_e (fact_s (o := o + 1) (j := u) (by omega)), bd1_e (fac_at (o := o) (j := u) (by omega)), nI_add]
      congr 3
      funext i
      show (if i = 7 * o + u then (if 7 * o ≤ 7 * (o + 1) + u ∧ 7 * (o + 1) + u < 7 * o + u then g (7 * (o + 1) + u + 7) else g (7 * (o + 1) + u)) else if 7 * o ≤ i ∧ i < 7 * o + u then g (i + 7) else g i) = if 7 * o ≤ i ∧ i < 7 * o + (u + 1) then g (i + 7) else g i
      by_cases q : i = 7 * o + u
      · rw [if_pos q, if_neg (by omega), if_pos (by omega), q, show 7 * (o + 1) + u = 7 * o + u + 7 by omega]
      · rw [if_neg q]
        by_cases q2 : 7 * o ≤ i ∧ i < 7 * o + u
        · rw [if_pos q2, if_pos (by omega)]
        · rw [if_neg q2, if_neg (by omega)]
    · show fX1_remove_l14 (nI o) (nI 7, fun i => if 7 * o ≤ i ∧ i < 7 * o + 7 then g (i + 7) else g i) = _
      unfold fX1_remove_l14
      rw [uc2_s, il_7, if_pos (nI_le (Nat.le_refl _) (by omega))]
      unfold rmF
      rw [show 7 * (o + 1) = 7 * o + 7 by omega]
  have L := lp_seqE (body := fX1_remove_l2 F (nI n)) (S := fun t => (nI (a + t), rmF 7 fac a (a + t), rmF 1 dce a (a + t))) (x0 := (nI a, fac, dce)) (by
      unfold rmF
      congr 2
      · funext i; exact (if_neg (by omega)).symm
      · funext i; exact (if_neg (by omega)).symm) (n := n - 1 - a) (a := (rmF 7 fac a (n - 1), rmF 1 dce a (n - 1))) (F := F) (fun t ht => by
      show fX1_remove_l2 F (nI n) (nI (a + t), rmF 7 fac a (a + t), rmF 1 dce a (a + t)) = some (.inl (nI (a + (t + 1)), rmF 7 fac a (a + (t + 1)), rmF 1 dce a (a + (t + 1))))
      unfold fX1_remove_l2
      rw [uc3_s, il_1, pk_sub (by omega), if_neg (nI_ge (by omega) (by omega)), show (0 : Int32) = nI 0 from rfl, bd1_e (inner _ (a + t) (by omega)), nI_add, bd1_e (cellsOf_s (by omega)), bd1_e (cel_at (by omega)), ← Nat.add_assoc]
      congr 3
      congr 1
      · funext i
        unfold rmF
        by_cases q : 7 * (a + t) ≤ i ∧ i < 7 * (a + t + 1)
        · rw [if_pos q, if_neg (by omega), if_pos (by omega)]
        · rw [if_neg q]
          by_cases q2 : 7 * a ≤ i ∧ i < 7 * (a + t)
          · rw [if_pos q2, if_pos (by omega)]
          · rw [if_neg q2, if_neg (by omega)]
      · funext i
        unfold rmF vp_updL
        dsimp only
        by_cases q : i = a + t
        · rw [if_pos q, if_neg (by omega), if_pos (by omega), q]
        · rw [if_neg q]
          by_cases q2 : 1 * a ≤ i ∧ i < 1 * (a + t)
          · rw [if_pos q2, if_pos (by omega)]
          · rw [if_neg q2, if_neg (by omega)]) (by
      show fX1_remove_l2 F (nI n) (nI (a + (n - 1 - a)), rmF 7 fac a (a + (n - 1 - a)), rmF 1 dce a (a + (n - 1 - a))) = _
      unfold fX1_remove_l2
      rw [show a + (n - 1 - a) = n - 1 by omega, uc3_s, il_1, pk_sub (by omega), if_pos (nI_le (Nat.le_refl _) (by omega))]) (by omega)
  rw [bd2_e L, il_1, pk_sub (by omega), nm_s]
def fgF (ben : Nat → Int32) (a : Nat) : Nat → Int32 := fun s => if s < 9 then (ben s &&& nI (2 ^ a - 1)) ||| ((ben s >>> ((1 : Int32) &&& 31)) &&& (nI (2 ^ a - 1) ^^^ (-1 : Int32))) else ben s
theorem sub1I : ∀ a, a < 6 → (1 : Int32) <<< (nI a &&& 31) - 1 = nI (2 ^ a - 1) := by decide +kernel
theorem x3_forget {F : Nat} {ben : Nat → Int32} {a : Nat} (hF : 1000 < F) (ha : a < 6) : fX3_forgetBend F ben (nI a) = some (fgF ben a) := by
  unfold fX3_forgetBend
  have L := lp_seqE (body := fX3_forgetBend_l8 (nI (2 ^ a - 1))) (S := fun t => (nI t, fun s => if s < t then (ben s &&& nI (2 ^ a - 1)) ||| ((ben s >>> ((1 : Int32) &&& 31)) &&& (nI (2 ^ a - 1) ^^^ (-1 : Int32))) else ben s)) (x0 := (nI 0, ben)) (by
      congr 1) (n := 9) (a := fgF ben a) (F := F) (fun t ht => by
      show fX3_forgetBend_l8 (nI (2 ^ a - 1)) (nI t, fun s => if s < t then (ben s &&& nI (2 ^ a - 1)) ||| ((ben s >>> ((1 : Int32) &&& 31)) &&& (nI (2 ^ a - 1) ^^^ (-1 : Int32))) else ben s) = some (.inl (nI (t + 1), fun s => if s < t + 1 then (ben s &&& nI (2 ^ a - 1)) ||| ((ben s >>> ((1 : Int32) &&& 31)) &&& (nI (2 ^ a - 1) ^^^ (-1 : Int32))) else ben s))
      unfold fX3_forgetBend_l8
      rw [uc2_s, il_9, if_neg (nI_ge ht (by omega)), gd_nI ht (by omega), gd_nI ht (by omega), nm_s, gd_nI ht (by omega), nI_clamp (by omega), il_1, nI_add]
      congr 3
      funext s
      unfold upd
      dsimp only
      by_cases q : s = t
      · rw [if_pos q, if_neg (by omega), if_pos (by omega), q]
      · rw [if_neg q]
        by_cases q2 : s < t
        · rw [if_pos q2, if_pos (by omega)]
        · rw [if_neg q2, if_neg (by omega)]) (by
      show fX3_forgetBend_l8 (nI (2 ^ a - 1)) (nI 9, _) = _
      unfold fX3_forgetBend_l8
      rw [uc2_s, il_9, if_pos (nI_le (Nat.le_refl _) (by omega))]
      rfl) (by omega)
  rw [sub1I a ha, nm_s, show (0 : Int32) = nI 0 from rfl, bd1_e L]
theorem rl_drop {N : Nat → Nat} {set fac : Nat → Int32} {dce : Nat → Int64} {pm sm a : Nat} {cel : Nat → Int64} {ben off : Nat → Int32} (ha : a < N 8) (r : RelS N set fac dce pm sm cel ben off) : RelS (drN N a) set (rmF 7 fac a (N 8 - 1)) (rmF 1 dce a (N 8 - 1)) pm sm cel (fgF ben a) off := by
  obtain ⟨d, w, c, p, dj⟩ := r
  have h8 := d.2.2.2.1.1
  generalize hM : drN N a = M
  have s : ∀ j, j < 20 → j ≠ 8 → M j = N j := fun j u v => by
    rw [← hM]; unfold drN
    rw [if_neg v, if_neg (by omega), if_neg (by omega)]
  have v8 : M 8 = N 8 - 1 := by rw [← hM]; exact if_pos rfl
  have lo : ∀ o, o < a → ∀ j, j < 6 → M (20 + 6 * o + j) = N (20 + 6 * o + j) := fun o ho j hj => by
    rw [← hM]; unfold drN
    rw [if_neg (by omega), if_neg (by omega), if_neg (by omega)]
  have hi : ∀ o, a ≤ o → o < N 8 - 1 → ∀ j, j < 6 → M (20 + 6 * o + j) = N (20 + 6 * (o + 1) + j) := fun o ho ho2 j hj => by
    rw [← hM]; unfold drN
    rw [if_neg (by omega), if_pos (by omega), show 20 + 6 * o + j + 6 = 20 + 6 * (o + 1) + j by omega]
  have pb : ∀ t, t < 8 → M (60 + 5 * t + 2) = rbS (N (60 + 5 * t + 2)) a := fun t ht => by
    rw [← hM]; unfold drN
    rw [if_neg (by omega), if_neg (by omega), if_pos (by omega)]
  have po : ∀ t i, t < 8 → i < 5 → i ≠ 2 → M (60 + 5 * t + i) = N (60 + 5 * t + i) := fun t i ht hi h2 => by
    rw [← hM]; unfold drN
    rw [if_neg (by omega), if_neg (by omega), if_neg (by omega)]
  have ops : ∀ o, o < N 8 - 1 → ∃ o', o' < N 8 ∧ (∀ j, j < 6 → M (20 + 6 * o + j) = N (20 + 6 * o' + j)) ∧ (∀ j, j < 7 → rmF 7 fac a (N 8 - 1) (7 * o + j) = fac (7 * o' + j)) ∧ rmF 1 dce a (N 8 - 1) o = dce o' := fun o ho => by
    by_cases q : o < a
    · refine ⟨o, by omega, lo o q, fun j hj => ?_, ?_⟩
      · unfold rmF; rw [if_neg (by omega)]
      · unfold rmF; rw [if_neg (by omega)]
    · refine ⟨o + 1, by omega, hi o (by omega) ho, fun j hj => ?_, ?_⟩
      · unfold rmF; rw [if_pos (by omega), show 7 * o + j + 7 = 7 * (o + 1) + j by omega]
      · unfold rmF; rw [if_pos (by omega)]
  refine ⟨?_, fun t ht => ?_, ⟨fun i hi => by rw [s _ (by omega) (by omega)]; exact c.1 i hi, fun o ho => ?_⟩, ⟨p.1, p.2.1, p.2.2.1, fun t ht => ?_⟩, ?_⟩
  · unfold DW
    rw [s 0 (by omega) (by omega), s 1 (by omega) (by omega), s 2 (by omega) (by omega), s 3 (by omega) (by omega), s 4 (by omega) (by omega), s 5 (by omega) (by omega), s 6 (by omega) (by omega), s 7 (by omega) (by omega), v8, s 13 (by omega) (by omega), s 14 (by omega) (by omega), s 15 (by omega) (by omega)]
    refine ⟨d.1, d.2.1, d.2.2.1, ⟨by omega, d.2.2.2.1.2⟩, fun o ho => ?_⟩
    obtain ⟨o', g1, g2, -, -⟩ := ops o ho
    rw [g2 0 (by omega), g2 1 (by omega), g2 2 (by omega), g2 3 (by omega), g2 4 (by omega), g2 5 (by omega)]
    exact d.2.2.2.2 o' g1
  · have g := w t ht
    rw [po t 0 ht (by omega) (by omega), po t 1 ht (by omega) (by omega), pb t ht, po t 3 ht (by omega) (by omega), po t 4 ht (by omega) (by omega), s 0 (by omega) (by omega), s 1 (by omega) (by omega)]
    refine ⟨g.1, g.2.1, rb_lt a (by omega) _ g.2.2.1, g.2.2.2.1, g.2.2.2.2.1, fun z i hi => ?_⟩
    by_cases e : i = 2
    · rw [e, pb t ht, g.2.2.2.2.2 z 2 (by omega), rb_0]
    · rw [po t i ht hi e]; exact g.2.2.2.2.2 z i hi
  · rw [v8] at ho
    obtain ⟨o', g1, g2, g3, g4⟩ := ops o ho
    have co := c.2 o' g1
    refine ⟨fun j hj => by rw [g3 j (by omega), g2 j (by omega)]; exact co.1 j hj, ?_, ?_, ?_⟩
    · rw [g3 5 (by omega)]
      unfold foS
      rw [g2 0 (by omega), g2 3 (by omega), g2 4 (by omega)]
      exact co.2.1
    · rw [g3 6 (by omega), g2 5 (by omega)]
      exact co.2.2.1
    · rw [g4]
      unfold opS
      rw [s 0 (by omega) (by omega), g2 1 (by omega), g2 2 (by omega), g2 3 (by omega), g2 4 (by omega)]
      exact co.2.2.2
  · have g := p.2.2.2 t ht
    rw [po t 0 ht (by omega) (by omega), po t 1 ht (by omega) (by omega), pb t ht, po t 3 ht (by omega) (by omega), po t 4 ht (by omega) (by omega)]
    refine ⟨g.1, fun z => ?_⟩
    have g2 := g.2 z
    refine ⟨g2.1, ?_, g2.2.2⟩
    show (if t < 9 then _ else ben t) = _
    rw [if_pos (by omega), g2.2.1]
    exact rb_cls a (by omega) _ (w t ht).2.2.1
  · unfold DJ
    rw [s 14 (by omega) (by omega), s 15 (by omega) (by omega)]
    exact dj
