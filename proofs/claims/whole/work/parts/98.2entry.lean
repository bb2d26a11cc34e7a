/-! what stands at the law's entry -/
def nar : List Cond := flatC (Jvm.Cond.and given_1 narrow_1)
abbrev AE (s : State) : Nat → Prop := fun q => s.heap.size ≤ q
theorem AE_no {s : State} : ∀ a : Nat, a < s.heap.size → ¬ AE s a := fun a h h2 => by
  have h2 : s.heap.size ≤ a := h2
  omega
def wAt (i a v : Nat) (s : State) : Prop := (va_O "java/lang/String" a (AE s) s s.heap ∧ va_OF "java/lang/String" "coder" "B" (.int 0) a (AE s) s s.heap ∧ va_OF "java/lang/String" "value" "[B" (.ref v) a (AE s) s s.heap ∧ va_T .byte v (wnm i).length (fun j => .int (nI ((wnm i).getD j 0))) (AE s) s s.heap) ∧ vk_R RX0 (77 + 2 * i) (wtx i) a s
theorem va_T.ext {ty : FieldType} {t N : Nat} {f g : Nat → Value} {A : Nat → Prop} {U : State} {H : Heap} (h : va_T ty t N f A U H) (e : ∀ j, j < N → f j = g j) : va_T ty t N g A U H := by
  obtain ⟨cell, h1, h2, h3, h4, h5, h6, h7⟩ := h
  exact ⟨cell, h1, h2, h3, h4, h5, fun j hj => by rw [← e j hj]; exact h6 j hj, h7⟩
section ENT
variable {args : Array Value} {s : State}
theorem wAt_0 (hts : ∀ w ∈ lw_tbl, w.before args s = true) (hn : ∀ w ∈ nar, w.before args s = true) : ∃ a v, wAt 0 a v s := by
  obtain ⟨adK, adV, h1, h2⟩ := vk_Sof (args := args) (s := s) (N := 1) (tm := fun _ => Term.string "StripDie$CommandText" 77) (len := [5]) (byt := [[112, 105, 116, 99, 104]]) (A := AE s)
    (fun i hi => by rcases (show i = 0 by omega) with rfl; decide)
    (fun _ _ => (hn (Cond.exactly (Term.string "StripDie$CommandText" 77) "java/lang/String") (List.mem_of_getElem? (i := 38) (by decide +kernel))))
    (fun _ _ => (hn (Cond.eq (.field (Term.string "StripDie$CommandText" 77) "java/lang/String" "coder" "B") (.int 0)) (List.mem_of_getElem? (i := 39) (by decide +kernel))))
    (fun _ _ => (hn (Cond.arrayOf (.field (Term.string "StripDie$CommandText" 77) "java/lang/String" "value" "[B") .byte) (List.mem_of_getElem? (i := 40) (by decide +kernel))))
    (fun i hi => by rcases (show i = 0 by omega) with rfl; exact (hn (Cond.eq (.length (.field (Term.string "StripDie$CommandText" 77) "java/lang/String" "value" "[B")) (.int 5)) (List.mem_of_getElem? (i := 41) (by decide +kernel))))
    (fun i hi j hj => by
      rcases (show i = 0 by omega) with rfl
      have hj : j < 5 := hj
      rcases (show j = 0 ∨ j = 1 ∨ j = 2 ∨ j = 3 ∨ j = 4 by omega) with rfl | rfl | rfl | rfl | rfl
      · exact (hn (Cond.eq (.elem (.field (Term.string "StripDie$CommandText" 77) "java/lang/String" "value" "[B") (.int 0)) (.int 112)) (List.mem_of_getElem? (i := 42) (by decide +kernel)))
      · exact (hn (Cond.eq (.elem (.field (Term.string "StripDie$CommandText" 77) "java/lang/String" "value" "[B") (.int 1)) (.int 105)) (List.mem_of_getElem? (i := 43) (by decide +kernel)))
      · exact (hn (Cond.eq (.elem (.field (Term.string "StripDie$CommandText" 77) "java/lang/String" "value" "[B") (.int 2)) (.int 116)) (List.mem_of_getElem? (i := 44) (by decide +kernel)))
      · exact (hn (Cond.eq (.elem (.field (Term.string "StripDie$CommandText" 77) "java/lang/String" "value" "[B") (.int 3)) (.int 99)) (List.mem_of_getElem? (i := 45) (by decide +kernel)))
      · exact (hn (Cond.eq (.elem (.field (Term.string "StripDie$CommandText" 77) "java/lang/String" "value" "[B") (.int 4)) (.int 104)) (List.mem_of_getElem? (i := 46) (by decide +kernel))))
    (fun i j hi hj hij => absurd (by omega) hij) AE_no
  obtain ⟨g1, g2, g3, g4⟩ := h1.1 0 (by omega)
  refine ⟨adK 0, adV 0, ⟨g1, g2, g3, va_T.ext (N := 5) g4 (fun j hj => ?_)⟩, vk_R.of (hts (Cond.stringRef RX0 77 "pitch") (List.mem_of_getElem? (i := 603) (by decide +kernel))) (h2 0 (by omega))⟩
  rcases (show j = 0 ∨ j = 1 ∨ j = 2 ∨ j = 3 ∨ j = 4 by omega) with rfl | rfl | rfl | rfl | rfl <;> rfl
theorem wAt_1 (hts : ∀ w ∈ lw_tbl, w.before args s = true) (hn : ∀ w ∈ nar, w.before args s = true) : ∃ a v, wAt 1 a v s := by
  obtain ⟨adK, adV, h1, h2⟩ := vk_Sof (args := args) (s := s) (N := 1) (tm := fun _ => Term.string "StripDie$CommandText" 79) (len := [4]) (byt := [[112, 97, 114, 116]]) (A := AE s)
    (fun i hi => by rcases (show i = 0 by omega) with rfl; decide)
    (fun _ _ => (hn (Cond.exactly (Term.string "StripDie$CommandText" 79) "java/lang/String") (List.mem_of_getElem? (i := 47) (by decide +kernel))))
    (fun _ _ => (hn (Cond.eq (.field (Term.string "StripDie$CommandText" 79) "java/lang/String" "coder" "B") (.int 0)) (List.mem_of_getElem? (i := 48) (by decide +kernel))))
    (fun _ _ => (hn (Cond.arrayOf (.field (Term.string "StripDie$CommandText" 79) "java/lang/String" "value" "[B") .byte) (List.mem_of_getElem? (i := 49) (by decide +kernel))))
    (fun i hi => by rcases (show i = 0 by omega) with rfl; exact (hn (Cond.eq (.length (.field (Term.string "StripDie$CommandText" 79) "java/lang/String" "value" "[B")) (.int 4)) (List.mem_of_getElem? (i := 50) (by decide +kernel))))
    (fun i hi j hj => by
      rcases (show i = 0 by omega) with rfl
      have hj : j < 4 := hj
      rcases (show j = 0 ∨ j = 1 ∨ j = 2 ∨ j = 3 by omega) with rfl | rfl | rfl | rfl
      · exact (hn (Cond.eq (.elem (.field (Term.string "StripDie$CommandText" 79) "java/lang/String" "value" "[B") (.int 0)) (.int 112)) (List.mem_of_getElem? (i := 51) (by decide +kernel)))
      · exact (hn (Cond.eq (.elem (.field (Term.string "StripDie$CommandText" 79) "java/lang/String" "value" "[B") (.int 1)) (.int 97)) (List.mem_of_getElem? (i := 52) (by decide +kernel)))
      · exact (hn (Cond.eq (.elem (.field (Term.string "StripDie$CommandText" 79) "java/lang/String" "value" "[B") (.int 2)) (.int 114)) (List.mem_of_getElem? (i := 53) (by decide +kernel)))
      · exact (hn (Cond.eq (.elem (.field (Term.string "StripDie$CommandText" 79) "java/lang/String" "value" "[B") (.int 3)) (.int 116)) (List.mem_of_getElem? (i := 54) (by decide +kernel))))
    (fun i j hi hj hij => absurd (by omega) hij) AE_no
  obtain ⟨g1, g2, g3, g4⟩ := h1.1 0 (by omega)
  refine ⟨adK 0, adV 0, ⟨g1, g2, g3, va_T.ext (N := 4) g4 (fun j hj => ?_)⟩, vk_R.of (hts (Cond.stringRef RX0 79 "part") (List.mem_of_getElem? (i := 604) (by decide +kernel))) (h2 0 (by omega))⟩
  rcases (show j = 0 ∨ j = 1 ∨ j = 2 ∨ j = 3 by omega) with rfl | rfl | rfl | rfl <;> rfl
theorem wAt_2 (hts : ∀ w ∈ lw_tbl, w.before args s = true) (hn : ∀ w ∈ nar, w.before args s = true) : ∃ a v, wAt 2 a v s := by
  obtain ⟨adK, adV, h1, h2⟩ := vk_Sof (args := args) (s := s) (N := 1) (tm := fun _ => Term.string "StripDie$CommandText" 81) (len := [4]) (byt := [[108, 105, 110, 107]]) (A := AE s)
    (fun i hi => by rcases (show i = 0 by omega) with rfl; decide)
    (fun _ _ => (hn (Cond.exactly (Term.string "StripDie$CommandText" 81) "java/lang/String") (List.mem_of_getElem? (i := 55) (by decide +kernel))))
    (fun _ _ => (hn (Cond.eq (.field (Term.string "StripDie$CommandText" 81) "java/lang/String" "coder" "B") (.int 0)) (List.mem_of_getElem? (i := 56) (by decide +kernel))))
    (fun _ _ => (hn (Cond.arrayOf (.field (Term.string "StripDie$CommandText" 81) "java/lang/String" "value" "[B") .byte) (List.mem_of_getElem? (i := 57) (by decide +kernel))))
    (fun i hi => by rcases (show i = 0 by omega) with rfl; exact (hn (Cond.eq (.length (.field (Term.string "StripDie$CommandText" 81) "java/lang/String" "value" "[B")) (.int 4)) (List.mem_of_getElem? (i := 58) (by decide +kernel))))
    (fun i hi j hj => by
      rcases (show i = 0 by omega) with rfl
      have hj : j < 4 := hj
      rcases (show j = 0 ∨ j = 1 ∨ j = 2 ∨ j = 3 by omega) with rfl | rfl | rfl | rfl
      · exact (hn (Cond.eq (.elem (.field (Term.string "StripDie$CommandText" 81) "java/lang/String" "value" "[B") (.int 0)) (.int 108)) (List.mem_of_getElem? (i := 59) (by decide +kernel)))
      · exact (hn (Cond.eq (.elem (.field (Term.string "StripDie$CommandText" 81) "java/lang/String" "value" "[B") (.int 1)) (.int 105)) (List.mem_of_getElem? (i := 60) (by decide +kernel)))
      · exact (hn (Cond.eq (.elem (.field (Term.string "StripDie$CommandText" 81) "java/lang/String" "value" "[B") (.int 2)) (.int 110)) (List.mem_of_getElem? (i := 61) (by decide +kernel)))
      · exact (hn (Cond.eq (.elem (.field (Term.string "StripDie$CommandText" 81) "java/lang/String" "value" "[B") (.int 3)) (.int 107)) (List.mem_of_getElem? (i := 62) (by decide +kernel))))
    (fun i j hi hj hij => absurd (by omega) hij) AE_no
  obtain ⟨g1, g2, g3, g4⟩ := h1.1 0 (by omega)
  refine ⟨adK 0, adV 0, ⟨g1, g2, g3, va_T.ext (N := 4) g4 (fun j hj => ?_)⟩, vk_R.of (hts (Cond.stringRef RX0 81 "link") (List.mem_of_getElem? (i := 605) (by decide +kernel))) (h2 0 (by omega))⟩
  rcases (show j = 0 ∨ j = 1 ∨ j = 2 ∨ j = 3 by omega) with rfl | rfl | rfl | rfl <;> rfl
theorem wAt_3 (hts : ∀ w ∈ lw_tbl, w.before args s = true) (hn : ∀ w ∈ nar, w.before args s = true) : ∃ a v, wAt 3 a v s := by
  obtain ⟨adK, adV, h1, h2⟩ := vk_Sof (args := args) (s := s) (N := 1) (tm := fun _ => Term.string "StripDie$CommandText" 83) (len := [5]) (byt := [[112, 117, 110, 99, 104]]) (A := AE s)
    (fun i hi => by rcases (show i = 0 by omega) with rfl; decide)
    (fun _ _ => (hn (Cond.exactly (Term.string "StripDie$CommandText" 83) "java/lang/String") (List.mem_of_getElem? (i := 63) (by decide +kernel))))
    (fun _ _ => (hn (Cond.eq (.field (Term.string "StripDie$CommandText" 83) "java/lang/String" "coder" "B") (.int 0)) (List.mem_of_getElem? (i := 64) (by decide +kernel))))
    (fun _ _ => (hn (Cond.arrayOf (.field (Term.string "StripDie$CommandText" 83) "java/lang/String" "value" "[B") .byte) (List.mem_of_getElem? (i := 65) (by decide +kernel))))
    (fun i hi => by rcases (show i = 0 by omega) with rfl; exact (hn (Cond.eq (.length (.field (Term.string "StripDie$CommandText" 83) "java/lang/String" "value" "[B")) (.int 5)) (List.mem_of_getElem? (i := 66) (by decide +kernel))))
    (fun i hi j hj => by
      rcases (show i = 0 by omega) with rfl
      have hj : j < 5 := hj
      rcases (show j = 0 ∨ j = 1 ∨ j = 2 ∨ j = 3 ∨ j = 4 by omega) with rfl | rfl | rfl | rfl | rfl
      · exact (hn (Cond.eq (.elem (.field (Term.string "StripDie$CommandText" 83) "java/lang/String" "value" "[B") (.int 0)) (.int 112)) (List.mem_of_getElem? (i := 67) (by decide +kernel)))
      · exact (hn (Cond.eq (.elem (.field (Term.string "StripDie$CommandText" 83) "java/lang/String" "value" "[B") (.int 1)) (.int 117)) (List.mem_of_getElem? (i := 68) (by decide +kernel)))
      · exact (hn (Cond.eq (.elem (.field (Term.string "StripDie$CommandText" 83) "java/lang/String" "value" "[B") (.int 2)) (.int 110)) (List.mem_of_getElem? (i := 69) (by decide +kernel)))
      · exact (hn (Cond.eq (.elem (.field (Term.string "StripDie$CommandText" 83) "java/lang/String" "value" "[B") (.int 3)) (.int 99)) (List.mem_of_getElem? (i := 70) (by decide +kernel)))
      · exact (hn (Cond.eq (.elem (.field (Term.string "StripDie$CommandText" 83) "java/lang/String" "value" "[B") (.int 4)) (.int 104)) (List.mem_of_getElem? (i := 71) (by decide +kernel))))
    (fun i j hi hj hij => absurd (by omega) hij) AE_no
  obtain ⟨g1, g2, g3, g4⟩ := h1.1 0 (by omega)
  refine ⟨adK 0, adV 0, ⟨g1, g2, g3, va_T.ext (N := 5) g4 (fun j hj => ?_)⟩, vk_R.of (hts (Cond.stringRef RX0 83 "punch") (List.mem_of_getElem? (i := 606) (by decide +kernel))) (h2 0 (by omega))⟩
  rcases (show j = 0 ∨ j = 1 ∨ j = 2 ∨ j = 3 ∨ j = 4 by omega) with rfl | rfl | rfl | rfl | rfl <;> rfl
theorem wAt_4 (hts : ∀ w ∈ lw_tbl, w.before args s = true) (hn : ∀ w ∈ nar, w.before args s = true) : ∃ a v, wAt 4 a v s := by
  obtain ⟨adK, adV, h1, h2⟩ := vk_Sof (args := args) (s := s) (N := 1) (tm := fun _ => Term.string "StripDie$CommandText" 85) (len := [4]) (byt := [[98, 101, 110, 100]]) (A := AE s)
    (fun i hi => by rcases (show i = 0 by omega) with rfl; decide)
    (fun _ _ => (hn (Cond.exactly (Term.string "StripDie$CommandText" 85) "java/lang/String") (List.mem_of_getElem? (i := 72) (by decide +kernel))))
    (fun _ _ => (hn (Cond.eq (.field (Term.string "StripDie$CommandText" 85) "java/lang/String" "coder" "B") (.int 0)) (List.mem_of_getElem? (i := 73) (by decide +kernel))))
    (fun _ _ => (hn (Cond.arrayOf (.field (Term.string "StripDie$CommandText" 85) "java/lang/String" "value" "[B") .byte) (List.mem_of_getElem? (i := 74) (by decide +kernel))))
    (fun i hi => by rcases (show i = 0 by omega) with rfl; exact (hn (Cond.eq (.length (.field (Term.string "StripDie$CommandText" 85) "java/lang/String" "value" "[B")) (.int 4)) (List.mem_of_getElem? (i := 75) (by decide +kernel))))
    (fun i hi j hj => by
      rcases (show i = 0 by omega) with rfl
      have hj : j < 4 := hj
      rcases (show j = 0 ∨ j = 1 ∨ j = 2 ∨ j = 3 by omega) with rfl | rfl | rfl | rfl
      · exact (hn (Cond.eq (.elem (.field (Term.string "StripDie$CommandText" 85) "java/lang/String" "value" "[B") (.int 0)) (.int 98)) (List.mem_of_getElem? (i := 76) (by decide +kernel)))
      · exact (hn (Cond.eq (.elem (.field (Term.string "StripDie$CommandText" 85) "java/lang/String" "value" "[B") (.int 1)) (.int 101)) (List.mem_of_getElem? (i := 77) (by decide +kernel)))
      · exact (hn (Cond.eq (.elem (.field (Term.string "StripDie$CommandText" 85) "java/lang/String" "value" "[B") (.int 2)) (.int 110)) (List.mem_of_getElem? (i := 78) (by decide +kernel)))
      · exact (hn (Cond.eq (.elem (.field (Term.string "StripDie$CommandText" 85) "java/lang/String" "value" "[B") (.int 3)) (.int 100)) (List.mem_of_getElem? (i := 79) (by decide +kernel))))
    (fun i j hi hj hij => absurd (by omega) hij) AE_no
  obtain ⟨g1, g2, g3, g4⟩ := h1.1 0 (by omega)
  refine ⟨adK 0, adV 0, ⟨g1, g2, g3, va_T.ext (N := 4) g4 (fun j hj => ?_)⟩, vk_R.of (hts (Cond.stringRef RX0 85 "bend") (List.mem_of_getElem? (i := 607) (by decide +kernel))) (h2 0 (by omega))⟩
  rcases (show j = 0 ∨ j = 1 ∨ j = 2 ∨ j = 3 by omega) with rfl | rfl | rfl | rfl <;> rfl
theorem wAt_5 (hts : ∀ w ∈ lw_tbl, w.before args s = true) (hn : ∀ w ∈ nar, w.before args s = true) : ∃ a v, wAt 5 a v s := by
  obtain ⟨adK, adV, h1, h2⟩ := vk_Sof (args := args) (s := s) (N := 1) (tm := fun _ => Term.string "StripDie$CommandText" 87) (len := [5]) (byt := [[112, 108, 97, 99, 101]]) (A := AE s)
    (fun i hi => by rcases (show i = 0 by omega) with rfl; decide)
    (fun _ _ => (hn (Cond.exactly (Term.string "StripDie$CommandText" 87) "java/lang/String") (List.mem_of_getElem? (i := 80) (by decide +kernel))))
    (fun _ _ => (hn (Cond.eq (.field (Term.string "StripDie$CommandText" 87) "java/lang/String" "coder" "B") (.int 0)) (List.mem_of_getElem? (i := 81) (by decide +kernel))))
    (fun _ _ => (hn (Cond.arrayOf (.field (Term.string "StripDie$CommandText" 87) "java/lang/String" "value" "[B") .byte) (List.mem_of_getElem? (i := 82) (by decide +kernel))))
    (fun i hi => by rcases (show i = 0 by omega) with rfl; exact (hn (Cond.eq (.length (.field (Term.string "StripDie$CommandText" 87) "java/lang/String" "value" "[B")) (.int 5)) (List.mem_of_getElem? (i := 83) (by decide +kernel))))
    (fun i hi j hj => by
      rcases (show i = 0 by omega) with rfl
      have hj : j < 5 := hj
      rcases (show j = 0 ∨ j = 1 ∨ j = 2 ∨ j = 3 ∨ j = 4 by omega) with rfl | rfl | rfl | rfl | rfl
      · exact (hn (Cond.eq (.elem (.field (Term.string "StripDie$CommandText" 87) "java/lang/String" "value" "[B") (.int 0)) (.int 112)) (List.mem_of_getElem? (i := 84) (by decide +kernel)))
      · exact (hn (Cond.eq (.elem (.field (Term.string "StripDie$CommandText" 87) "java/lang/String" "value" "[B") (.int 1)) (.int 108)) (List.mem_of_getElem? (i := 85) (by decide +kernel)))
      · exact (hn (Cond.eq (.elem (.field (Term.string "StripDie$CommandText" 87) "java/lang/String" "value" "[B") (.int 2)) (.int 97)) (List.mem_of_getElem? (i := 86) (by decide +kernel)))
      · exact (hn (Cond.eq (.elem (.field (Term.string "StripDie$CommandText" 87) "java/lang/String" "value" "[B") (.int 3)) (.int 99)) (List.mem_of_getElem? (i := 87) (by decide +kernel)))
      · exact (hn (Cond.eq (.elem (.field (Term.string "StripDie$CommandText" 87) "java/lang/String" "value" "[B") (.int 4)) (.int 101)) (List.mem_of_getElem? (i := 88) (by decide +kernel))))
    (fun i j hi hj hij => absurd (by omega) hij) AE_no
  obtain ⟨g1, g2, g3, g4⟩ := h1.1 0 (by omega)
  refine ⟨adK 0, adV 0, ⟨g1, g2, g3, va_T.ext (N := 5) g4 (fun j hj => ?_)⟩, vk_R.of (hts (Cond.stringRef RX0 87 "place") (List.mem_of_getElem? (i := 608) (by decide +kernel))) (h2 0 (by omega))⟩
  rcases (show j = 0 ∨ j = 1 ∨ j = 2 ∨ j = 3 ∨ j = 4 by omega) with rfl | rfl | rfl | rfl | rfl <;> rfl
theorem wAt_6 (hts : ∀ w ∈ lw_tbl, w.before args s = true) (hn : ∀ w ∈ nar, w.before args s = true) : ∃ a v, wAt 6 a v s := by
  obtain ⟨adK, adV, h1, h2⟩ := vk_Sof (args := args) (s := s) (N := 1) (tm := fun _ => Term.string "StripDie$CommandText" 89) (len := [4]) (byt := [[112, 108, 97, 110]]) (A := AE s)
    (fun i hi => by rcases (show i = 0 by omega) with rfl; decide)
    (fun _ _ => (hn (Cond.exactly (Term.string "StripDie$CommandText" 89) "java/lang/String") (List.mem_of_getElem? (i := 89) (by decide +kernel))))
    (fun _ _ => (hn (Cond.eq (.field (Term.string "StripDie$CommandText" 89) "java/lang/String" "coder" "B") (.int 0)) (List.mem_of_getElem? (i := 90) (by decide +kernel))))
    (fun _ _ => (hn (Cond.arrayOf (.field (Term.string "StripDie$CommandText" 89) "java/lang/String" "value" "[B") .byte) (List.mem_of_getElem? (i := 91) (by decide +kernel))))
    (fun i hi => by rcases (show i = 0 by omega) with rfl; exact (hn (Cond.eq (.length (.field (Term.string "StripDie$CommandText" 89) "java/lang/String" "value" "[B")) (.int 4)) (List.mem_of_getElem? (i := 92) (by decide +kernel))))
    (fun i hi j hj => by
      rcases (show i = 0 by omega) with rfl
      have hj : j < 4 := hj
      rcases (show j = 0 ∨ j = 1 ∨ j = 2 ∨ j = 3 by omega) with rfl | rfl | rfl | rfl
      · exact (hn (Cond.eq (.elem (.field (Term.string "StripDie$CommandText" 89) "java/lang/String" "value" "[B") (.int 0)) (.int 112)) (List.mem_of_getElem? (i := 93) (by decide +kernel)))
      · exact (hn (Cond.eq (.elem (.field (Term.string "StripDie$CommandText" 89) "java/lang/String" "value" "[B") (.int 1)) (.int 108)) (List.mem_of_getElem? (i := 94) (by decide +kernel)))
      · exact (hn (Cond.eq (.elem (.field (Term.string "StripDie$CommandText" 89) "java/lang/String" "value" "[B") (.int 2)) (.int 97)) (List.mem_of_getElem? (i := 95) (by decide +kernel)))
      · exact (hn (Cond.eq (.elem (.field (Term.string "StripDie$CommandText" 89) "java/lang/String" "value" "[B") (.int 3)) (.int 110)) (List.mem_of_getElem? (i := 96) (by decide +kernel))))
    (fun i j hi hj hij => absurd (by omega) hij) AE_no
  obtain ⟨g1, g2, g3, g4⟩ := h1.1 0 (by omega)
  refine ⟨adK 0, adV 0, ⟨g1, g2, g3, va_T.ext (N := 4) g4 (fun j hj => ?_)⟩, vk_R.of (hts (Cond.stringRef RX0 89 "plan") (List.mem_of_getElem? (i := 609) (by decide +kernel))) (h2 0 (by omega))⟩
  rcases (show j = 0 ∨ j = 1 ∨ j = 2 ∨ j = 3 by omega) with rfl | rfl | rfl | rfl <;> rfl
theorem wAt_7 (hts : ∀ w ∈ lw_tbl, w.before args s = true) (hn : ∀ w ∈ nar, w.before args s = true) : ∃ a v, wAt 7 a v s := by
  obtain ⟨adK, adV, h1, h2⟩ := vk_Sof (args := args) (s := s) (N := 1) (tm := fun _ => Term.string "StripDie$CommandText" 91) (len := [5]) (byt := [[112, 105, 108, 111, 116]]) (A := AE s)
    (fun i hi => by rcases (show i = 0 by omega) with rfl; decide)
    (fun _ _ => (hn (Cond.exactly (Term.string "StripDie$CommandText" 91) "java/lang/String") (List.mem_of_getElem? (i := 97) (by decide +kernel))))
    (fun _ _ => (hn (Cond.eq (.field (Term.string "StripDie$CommandText" 91) "java/lang/String" "coder" "B") (.int 0)) (List.mem_of_getElem? (i := 98) (by decide +kernel))))
    (fun _ _ => (hn (Cond.arrayOf (.field (Term.string "StripDie$CommandText" 91) "java/lang/String" "value" "[B") .byte) (List.mem_of_getElem? (i := 99) (by decide +kernel))))
    (fun i hi => by rcases (show i = 0 by omega) with rfl; exact (hn (Cond.eq (.length (.field (Term.string "StripDie$CommandText" 91) "java/lang/String" "value" "[B")) (.int 5)) (List.mem_of_getElem? (i := 100) (by decide +kernel))))
    (fun i hi j hj => by
      rcases (show i = 0 by omega) with rfl
      have hj : j < 5 := hj
      rcases (show j = 0 ∨ j = 1 ∨ j = 2 ∨ j = 3 ∨ j = 4 by omega) with rfl | rfl | rfl | rfl | rfl
      · exact (hn (Cond.eq (.elem (.field (Term.string "StripDie$CommandText" 91) "java/lang/String" "value" "[B") (.int 0)) (.int 112)) (List.mem_of_getElem? (i := 101) (by decide +kernel)))
      · exact (hn (Cond.eq (.elem (.field (Term.string "StripDie$CommandText" 91) "java/lang/String" "value" "[B") (.int 1)) (.int 105)) (List.mem_of_getElem? (i := 102) (by decide +kernel)))
      · exact (hn (Cond.eq (.elem (.field (Term.string "StripDie$CommandText" 91) "java/lang/String" "value" "[B") (.int 2)) (.int 108)) (List.mem_of_getElem? (i := 103) (by decide +kernel)))
      · exact (hn (Cond.eq (.elem (.field (Term.string "StripDie$CommandText" 91) "java/lang/String" "value" "[B") (.int 3)) (.int 111)) (List.mem_of_getElem? (i := 104) (by decide +kernel)))
      · exact (hn (Cond.eq (.elem (.field (Term.string "StripDie$CommandText" 91) "java/lang/String" "value" "[B") (.int 4)) (.int 116)) (List.mem_of_getElem? (i := 105) (by decide +kernel))))
    (fun i j hi hj hij => absurd (by omega) hij) AE_no
  obtain ⟨g1, g2, g3, g4⟩ := h1.1 0 (by omega)
  refine ⟨adK 0, adV 0, ⟨g1, g2, g3, va_T.ext (N := 5) g4 (fun j hj => ?_)⟩, vk_R.of (hts (Cond.stringRef RX0 91 "pilot") (List.mem_of_getElem? (i := 610) (by decide +kernel))) (h2 0 (by omega))⟩
  rcases (show j = 0 ∨ j = 1 ∨ j = 2 ∨ j = 3 ∨ j = 4 by omega) with rfl | rfl | rfl | rfl | rfl <;> rfl
theorem wAt_8 (hts : ∀ w ∈ lw_tbl, w.before args s = true) (hn : ∀ w ∈ nar, w.before args s = true) : ∃ a v, wAt 8 a v s := by
  obtain ⟨adK, adV, h1, h2⟩ := vk_Sof (args := args) (s := s) (N := 1) (tm := fun _ => Term.string "StripDie$CommandText" 93) (len := [6]) (byt := [[115, 116, 114, 111, 107, 101]]) (A := AE s)
    (fun i hi => by rcases (show i = 0 by omega) with rfl; decide)
    (fun _ _ => (hn (Cond.exactly (Term.string "StripDie$CommandText" 93) "java/lang/String") (List.mem_of_getElem? (i := 106) (by decide +kernel))))
    (fun _ _ => (hn (Cond.eq (.field (Term.string "StripDie$CommandText" 93) "java/lang/String" "coder" "B") (.int 0)) (List.mem_of_getElem? (i := 107) (by decide +kernel))))
    (fun _ _ => (hn (Cond.arrayOf (.field (Term.string "StripDie$CommandText" 93) "java/lang/String" "value" "[B") .byte) (List.mem_of_getElem? (i := 108) (by decide +kernel))))
    (fun i hi => by rcases (show i = 0 by omega) with rfl; exact (hn (Cond.eq (.length (.field (Term.string "StripDie$CommandText" 93) "java/lang/String" "value" "[B")) (.int 6)) (List.mem_of_getElem? (i := 109) (by decide +kernel))))
    (fun i hi j hj => by
      rcases (show i = 0 by omega) with rfl
      have hj : j < 6 := hj
      rcases (show j = 0 ∨ j = 1 ∨ j = 2 ∨ j = 3 ∨ j = 4 ∨ j = 5 by omega) with rfl | rfl | rfl | rfl | rfl | rfl
      · exact (hn (Cond.eq (.elem (.field (Term.string "StripDie$CommandText" 93) "java/lang/String" "value" "[B") (.int 0)) (.int 115)) (List.mem_of_getElem? (i := 110) (by decide +kernel)))
      · exact (hn (Cond.eq (.elem (.field (Term.string "StripDie$CommandText" 93) "java/lang/String" "value" "[B") (.int 1)) (.int 116)) (List.mem_of_getElem? (i := 111) (by decide +kernel)))
      · exact (hn (Cond.eq (.elem (.field (Term.string "StripDie$CommandText" 93) "java/lang/String" "value" "[B") (.int 2)) (.int 114)) (List.mem_of_getElem? (i := 112) (by decide +kernel)))
      · exact (hn (Cond.eq (.elem (.field (Term.string "StripDie$CommandText" 93) "java/lang/String" "value" "[B") (.int 3)) (.int 111)) (List.mem_of_getElem? (i := 113) (by decide +kernel)))
      · exact (hn (Cond.eq (.elem (.field (Term.string "StripDie$CommandText" 93) "java/lang/String" "value" "[B") (.int 4)) (.int 107)) (List.mem_of_getElem? (i := 114) (by decide +kernel)))
      · exact (hn (Cond.eq (.elem (.field (Term.string "StripDie$CommandText" 93) "java/lang/String" "value" "[B") (.int 5)) (.int 101)) (List.mem_of_getElem? (i := 115) (by decide +kernel))))
    (fun i j hi hj hij => absurd (by omega) hij) AE_no
  obtain ⟨g1, g2, g3, g4⟩ := h1.1 0 (by omega)
  refine ⟨adK 0, adV 0, ⟨g1, g2, g3, va_T.ext (N := 6) g4 (fun j hj => ?_)⟩, vk_R.of (hts (Cond.stringRef RX0 93 "stroke") (List.mem_of_getElem? (i := 611) (by decide +kernel))) (h2 0 (by omega))⟩
  rcases (show j = 0 ∨ j = 1 ∨ j = 2 ∨ j = 3 ∨ j = 4 ∨ j = 5 by omega) with rfl | rfl | rfl | rfl | rfl | rfl <;> rfl
theorem th_at (hts : ∀ w ∈ lw_tbl, w.before args s = true) {c5 : ClassId} (h5 : s.vm.findClass RX5 = some c5) : ∀ q ∈ thL, ∃ sa, vk_R RX5 q.1 q.2 sa s := by
  have hin : ∀ q ∈ thL, Cond.stringRef RX5 q.1 q.2 ∈ lw_tbl := by decide +kernel
  intro q hq
  have h := hts _ (hin q hq)
  obtain ⟨_, _, _, a, _, _, _, _, _, he⟩ := Cond.stringRef_spec (args := args) (first := s) (o := none) (s := s) (idx := []) h5 h
  exact ⟨a, vk_R.of h he⟩
theorem prim_K {ty : FieldType} (h : (Cond.arrayClass ty).before args s = true) (hp : ∀ cA : ClassId, s.vm.findClass ("[" ++ ty.toString) = some cA → va_RA s cA ty) : ∃ cA, ArrOfT s cA ty ∧ va_RA s cA ty := by
  obtain ⟨cA, k, comp, h1, h2, h3⟩ := Cond.arrayClass_spec (args := args) (first := s) (o := none) (s := s) (idx := []) h
  exact ⟨cA, fun N z => ⟨(fun k h => by cases h), k, h2, comp, h3⟩, hp cA h1⟩
theorem entry_K (hts : ∀ w ∈ lw_tbl, w.before args s = true) (l : Launch) : ∃ (D : va_G) (tC : Nat → ClassId), va_K D vwCl (tyw (l, D, tC)) s := by
  obtain ⟨c0, i0, k0⟩ := u_known hts (fun w hw => GW_tbl (gnX0 w hw)) (hts (Cond.instantiable RX0 5) (List.mem_of_getElem? (i := 243) (by decide +kernel)))
  obtain ⟨c1, i1, k1⟩ := u_known hts (fun w hw => GW_tbl (gnX1 w hw)) (hts (Cond.instantiable RX1 10) (List.mem_of_getElem? (i := 118) (by decide +kernel)))
  obtain ⟨c2, i2, k2⟩ := u_known hts (fun w hw => GW_tbl (gnX2 w hw)) (hts (Cond.instantiable RX2 8) (List.mem_of_getElem? (i := 212) (by decide +kernel)))
  obtain ⟨c3, i3, k3⟩ := u_known hts (fun w hw => GW_tbl (gnX3 w hw)) (hts (Cond.instantiable RX3 9) (List.mem_of_getElem? (i := 164) (by decide +kernel)))
  obtain ⟨c4, i4, k4⟩ := u_known hts (fun w hw => GW_tbl (gnX4 w hw)) (hts (Cond.instantiable RX4 2) (List.mem_of_getElem? (i := 112) (by decide +kernel)))
  obtain ⟨c5, i5, k5⟩ := u_known hts (fun w hw => GW_tbl (gnX5 w hw)) (hts (Cond.instantiable RX5 7) (List.mem_of_getElem? (i := 104) (by decide +kernel)))
  obtain ⟨c6, i6, k6⟩ := u_known hts (fun w hw => GW_tbl (gnX6 w hw)) (hts (Cond.instantiable RX6 15) (List.mem_of_getElem? (i := 1096) (by decide +kernel)))
  obtain ⟨t0, a0, r0⟩ := prim_K (hts (Cond.arrayClass .byte) (List.mem_of_getElem? (i := 267) (by decide +kernel))) (fun cA h => h)
  obtain ⟨t1, a1, r1⟩ := prim_K (hts (Cond.arrayClass .int) (List.mem_of_getElem? (i := 161) (by decide +kernel))) (fun cA h => h)
  obtain ⟨t2, a2, r2⟩ := prim_K (hts (Cond.arrayClass .long) (List.mem_of_getElem? (i := 162) (by decide +kernel))) (fun cA h => h)
  obtain ⟨comp, t3, kA, h1, h2, h3, h4, h5⟩ := Cond.arrayOver_spec (args := args) (first := s) (o := none) (s := s) (idx := []) (hts (Cond.arrayOver (.object sSt)) (List.mem_of_getElem? (i := 208) (by decide +kernel)))
  refine ⟨(fun c => [c0, c1, c2, c3, c4, c5, c6].getD c 0, fun c => [i0, i1, i2, i3, i4, i5, i6].getD c i0), fun t => [t0, t1, t2, t3].getD t 0, fun c q hq => ?_, fun k q hk => ?_⟩
  · have hc : c < 7 := (List.getElem?_eq_some_iff.mp hq).1
    rcases (show c = 0 ∨ c = 1 ∨ c = 2 ∨ c = 3 ∨ c = 4 ∨ c = 5 ∨ c = 6 by omega) with rfl | rfl | rfl | rfl | rfl | rfl | rfl <;> cases hq
    · exact k0
    · exact k1
    · exact k2
    · exact k3
    · exact k4
    · exact k5
    · exact k6
  · have hc : k < 4 := (List.getElem?_eq_some_iff.mp hk).1
    rcases (show k = 0 ∨ k = 1 ∨ k = 2 ∨ k = 3 by omega) with rfl | rfl | rfl | rfl <;> cases hk
    · exact ⟨a0, r0⟩
    · exact ⟨a1, r1⟩
    · exact ⟨a2, r2⟩
    · exact ⟨fun N z => ⟨(fun k h => by cases h), kA, h3, comp, h4⟩, kA, comp, h3, h4, h1, h5⟩
theorem entry_E (hts : ∀ w ∈ lw_tbl, w.before args s = true) (hn : ∀ w ∈ nar, w.before args s = true) {c5 : ClassId} (h5 : s.vm.findClass RX5 = some c5) : ∃ K : (Nat → Nat) × (Nat → Nat), Ev K (AE s) s s.heap := by
  obtain ⟨a0, v0, w0⟩ := wAt_0 hts hn
  obtain ⟨a1, v1, w1⟩ := wAt_1 hts hn
  obtain ⟨a2, v2, w2⟩ := wAt_2 hts hn
  obtain ⟨a3, v3, w3⟩ := wAt_3 hts hn
  obtain ⟨a4, v4, w4⟩ := wAt_4 hts hn
  obtain ⟨a5, v5, w5⟩ := wAt_5 hts hn
  obtain ⟨a6, v6, w6⟩ := wAt_6 hts hn
  obtain ⟨a7, v7, w7⟩ := wAt_7 hts hn
  obtain ⟨a8, v8, w8⟩ := wAt_8 hts hn
  refine ⟨(fun i => [a0, a1, a2, a3, a4, a5, a6, a7, a8].getD i 0, fun i => [v0, v1, v2, v3, v4, v5, v6, v7, v8].getD i 0), ?_, ?_, ?_, ?_, ?_, ?_, th_at hts h5, ?_, ?_, ?_⟩
  · exact va_Zof (hts (Cond.laysStatic "java/lang/String" "COMPACT_STRINGS" "Z") (List.mem_of_getElem? (i := 626) (by decide +kernel))) (hts (Cond.initialized "java/lang/String") (List.mem_of_getElem? (i := 99) (by decide +kernel))) (va_eqt (hn (Cond.eq (Term.static "java/lang/String" "COMPACT_STRINGS" "Z") (.int 1)) (List.mem_of_getElem? (i := 4) (by decide +kernel)))) AE_no
  · exact va_Zqof (hts (Cond.laysStatic "jdk/internal/util/Preconditions" "SIOOBE_FORMATTER" "Ljava/util/function/BiFunction;") (List.mem_of_getElem? (i := 642) (by decide +kernel))) (hts (Cond.initialized "jdk/internal/util/Preconditions") (List.mem_of_getElem? (i := 101) (by decide +kernel))) (hn (Cond.isRef (Term.static "jdk/internal/util/Preconditions" "SIOOBE_FORMATTER" "Ljava/util/function/BiFunction;")) (List.mem_of_getElem? (i := 5) (by decide +kernel))) AE_no
  · exact vx_Zqof (hts (Cond.laysStatic "java/lang/Throwable" "UNASSIGNED_STACK" "[Ljava/lang/StackTraceElement;") (List.mem_of_getElem? (i := 813) (by decide +kernel))) (hts (Cond.initialized "java/lang/Throwable") (List.mem_of_getElem? (i := 90) (by decide +kernel))) (hn (Cond.isRef (Term.static "java/lang/Throwable" "UNASSIGNED_STACK" "[Ljava/lang/StackTraceElement;")) (List.mem_of_getElem? (i := 9) (by decide +kernel))) AE_no
  · exact vx_Zqof (hts (Cond.laysStatic "java/lang/Throwable" "SUPPRESSED_SENTINEL" "Ljava/util/List;") (List.mem_of_getElem? (i := 815) (by decide +kernel))) (hts (Cond.initialized "java/lang/Throwable") (List.mem_of_getElem? (i := 90) (by decide +kernel))) (hn (Cond.isRef (Term.static "java/lang/Throwable" "SUPPRESSED_SENTINEL" "Ljava/util/List;")) (List.mem_of_getElem? (i := 10) (by decide +kernel))) AE_no
  · intro i hi
    rcases (show i = 0 ∨ i = 1 ∨ i = 2 ∨ i = 3 ∨ i = 4 ∨ i = 5 ∨ i = 6 ∨ i = 7 ∨ i = 8 by omega) with rfl | rfl | rfl | rfl | rfl | rfl | rfl | rfl | rfl
    · exact w0.1
    · exact w1.1
    · exact w2.1
    · exact w3.1
    · exact w4.1
    · exact w5.1
    · exact w6.1
    · exact w7.1
    · exact w8.1
  · intro i hi
    rcases (show i = 0 ∨ i = 1 ∨ i = 2 ∨ i = 3 ∨ i = 4 ∨ i = 5 ∨ i = 6 ∨ i = 7 ∨ i = 8 by omega) with rfl | rfl | rfl | rfl | rfl | rfl | rfl | rfl | rfl
    · exact w0.2
    · exact w1.2
    · exact w2.2
    · exact w3.2
    · exact w4.2
    · exact w5.2
    · exact w6.2
    · exact w7.2
    · exact w8.2
  · exact fun w hw => va_Nw.of (evB_tab hw) (hts w ((by decide +kernel : ∀ w ∈ evB, w ∈ lw_tbl) w hw))
  · exact va_Nc.of (hn (Cond.not (.castable eIS eIA)) (List.mem_of_getElem? (i := 18) (by decide +kernel)))
  · exact va_Nc.of (hn (Cond.not (.castable eIA eIB)) (List.mem_of_getElem? (i := 36) (by decide +kernel)))
theorem entry_N (hts : ∀ w ∈ lw_tbl, w.before args s = true) : nwOK s := by
  have hin : ∀ q ∈ nwL, Cond.methodLinkNest q.1 q.2.1 q.2.2.1 q.2.2.2 ∈ lw_tbl := by decide +kernel
  exact fun q hq => va_Nw.of rfl (hts _ (hin q hq))
theorem entry_AO (hts : ∀ w ∈ lw_tbl, w.before args s = true) : va_AO sSt s := va_AO.of (hts (Cond.arrayOver (.object sSt)) (List.mem_of_getElem? (i := 208) (by decide +kernel)))
end ENT
