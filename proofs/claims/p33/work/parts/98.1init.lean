/-! what holds at first -/
def N0 : Nat → Nat := fun j => if j = 7 then 2 else if j = 6 then 5 else if j = 5 then 1 else if j = 3 then 30 else if j = 1 then 4 else if j = 0 then 6 else 0
theorem N0_hi {j : Nat} (h : 8 ≤ j) : N0 j = 0 := by
  unfold N0
  rw [if_neg (by omega), if_neg (by omega), if_neg (by omega), if_neg (by omega), if_neg (by omega), if_neg (by omega)]
theorem rel0 : RelS N0 set0 (fun _ => 0) (fun _ => 0) 0 0 (fun _ => 0) (fun _ => 0) (fun _ => 0) := by
  refine ⟨?_, ?_, ?_, ?_, ?_⟩
  · exact ⟨by decide, by decide, by decide, by decide, fun o ho => absurd ho (by rw [N0_hi (by omega)]; omega)⟩
  · intro s hs
    have h2 : 0 < 2 ^ (N0 0 * N0 1) := Nat.two_pow_pos _
    refine ⟨?_, ?_, ?_, ?_, ?_, fun _ i hi => N0_hi (by omega)⟩
    · rw [N0_hi (by omega)]; omega
    · rw [N0_hi (by omega)]; exact h2
    · rw [N0_hi (by omega)]; omega
    · rw [N0_hi (by omega)]; omega
    · rw [N0_hi (by omega)]; omega
  · refine ⟨fun k hk => ?_, fun o ho => absurd ho (by rw [N0_hi (by omega)]; omega)⟩
    rcases (show k = 0 ∨ k = 1 ∨ k = 2 ∨ k = 3 ∨ k = 4 by omega) with rfl | rfl | rfl | rfl | rfl <;> decide
  · refine ⟨by decide, by decide, fun s h => absurd h (by rw [Nat.zero_testBit]; decide), fun s hs => ⟨?_, fun h => ?_⟩⟩
    · rw [Nat.zero_testBit, N0_hi (by omega)]; rfl
    · rw [N0_hi (by omega)] at h; omega
  · show N0 14 &&& N0 15 = 0
    decide
theorem i0 : I3 0 c0 N0 := by
  have z : ∀ j, 8 ≤ j → N0 j = 0 := fun j h => N0_hi h
  refine I3.mk (S := fun _ => 0) (o := 0) (st := 0) (len := 0) (set := set0) (fac := fun _ => 0) (dce := fun _ => 0) (pm := 0) (sm := 0) (cel := fun _ => 0) (ben := fun _ => 0) (off := fun _ => 0) (SS := fun _ => snap0) (tr := (0, 0, fun _ => 0, fun _ => 0, fun _ => 0, 0, 0, 0, 0)) (pl := (0, 0, 0, 0, 0, fun _ => 0, fun _ => 0, fun _ => 0)) (cb := fun _ => 0) (u := fun _ => 0) (cat := 0) (wd := 0) (q := snap0) rfl rel0 ⟨by omega, by omega, fun a ha => absurd ha (by omega)⟩ (Nat.le_of_eq (z 10 (by omega))) (Nat.le_of_eq (z 11 (by omega))) ⟨?_, fun o ho => absurd ho (by rw [z 8 (by omega)]; omega)⟩ (fun a ha => absurd ha (by omega))
  rw [z 9 (by omega), z 10 (by omega), z 11 (by omega)]
  have : ptS N0 ≤ 8 * 0 := fb_sm_bound (c := 0) (n := 8) fun s hs => by rw [z _ (by omega)]; exact Nat.le_refl 0
  omega
