/-! what both sides hold at first -/
def N0 : Nat → Nat := fun j => if j = 7 then 2 else if j = 6 then 5 else if j = 5 then 1 else if j = 3 then 30 else if j = 1 then 4 else if j = 0 then 6 else 0
theorem N0_hi {j : Nat} (h : 8 ≤ j) : N0 j = 0 := by
  unfold N0
  rw [if_neg (by omega), if_neg (by omega), if_neg (by omega), if_neg (by omega), if_neg (by omega), if_neg (by omega)]
theorem lA_N0 : now0 = lA N0 := by
  funext j
  show (if j = 7 then (2 : Int64) else if j = 6 then 5 else if j = 5 then 1 else if j = 3 then 30 else if j = 1 then 4 else if j = 0 then 6 else 0) = lN (N0 j)
  unfold N0
  repeat' split
  all_goals rfl
theorem rel0 : RelS N0 set0 (fun _ => 0) (fun _ => 0) 0 0 (fun _ => 0) (fun _ => 0) (fun _ => 0) := by
  refine ⟨?_, ?_, ?_, ?_, ?_⟩
  · exact ⟨by decide, by decide, by decide, by decide, fun o ho => absurd ho (by rw [N0_hi (by omega)]; omega)⟩
  · intro s hs
    have h2 : 0 < 2 ^ (N0 0 * N0 1) := Nat.two_pow_pos _
    refine ⟨?_, ?_, ?_, ?_, ?_, fun _ i hi => N0_hi (by omega)⟩
    · rw [N0_hi (by omega)]; omega
    · rw [N0_hi (by omega)]; exact h2
    · rw [N0_hi (by omega)]; omega
    · rw [N0_hi (by omega)]; omega
    · rw [N0_hi (by omega)]; omega
  · refine ⟨fun k hk => ?_, fun o ho => absurd ho (by rw [N0_hi (by omega)]; omega)⟩
    rcases (show k = 0 ∨ k = 1 ∨ k = 2 ∨ k = 3 ∨ k = 4 by omega) with rfl | rfl | rfl | rfl | rfl <;> decide
  · refine ⟨by decide, by decide, fun s h => absurd h (by rw [Nat.zero_testBit]; decide), fun s hs => ⟨?_, fun h => ?_⟩⟩
    · rw [Nat.zero_testBit, N0_hi (by omega)]; rfl
    · rw [N0_hi (by omega)] at h; omega
  · show N0 14 &&& N0 15 = 0
    decide
theorem inv0 : Inv 0 c0 μ0 := by
  have h := Inv.mk (B := 0) (N := N0) (S := fun _ => 0) (t := fun _ => 0) (o := 0) (st := 0) (len := 0) (set := set0) (fac := fun _ => 0) (dce := fun _ => 0) (pm := 0) (sm := 0) (cel := fun _ => 0) (ben := fun _ => 0) (off := fun _ => 0) (SS := fun _ => snap0) (tr := (0, 0, fun _ => 0, fun _ => 0, fun _ => 0, 0, 0, 0, 0)) (pl := (0, 0, 0, 0, 0, fun _ => 0, fun _ => 0, fun _ => 0)) (cb := fun _ => 0) (u := fun _ => 0) (cat := 0) (wd := 0) (asd := fun _ => 0) (th := 0) (w1 := fun _ => 0) (w2 := fun _ => 0) (w3 := fun _ => 0) (mt := fun _ => 0) (mat := 0) (vb := fun _ => 0) (td := fun _ => 0) (cm := 0) (q := snap0) rfl rel0 ⟨by omega, by omega, fun a ha => absurd ha (by omega)⟩ (Nat.le_of_eq (N0_hi (by omega))) (Nat.le_of_eq (N0_hi (by omega))) ⟨by omega, fun j hj => absurd hj (by omega)⟩ (fun j hj => absurd hj (by omega)) (fun j hj => absurd hj (by omega))
  rw [← lA_N0] at h
  exact h
