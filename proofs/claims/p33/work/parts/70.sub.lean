theorem va_A_sub {ws wc : va_W} {isC : List Nat} (hC : isC.map (fun i => ws[i]?) = wc.map some) {sz q : Nat} (h : va_A wc sz q) : va_A ws sz q := by
  rcases h with ⟨k, e, h⟩ | h
  · left
    have h1 : (isC.map (fun i => ws[i]?))[k]? = some (some (q, e)) := by rw [hC, List.getElem?_map, h]; rfl
    rw [List.getElem?_map] at h1
    cases hk : isC[k]? with
    | none => rw [hk] at h1; cases h1
    | some i => rw [hk] at h1; exact ⟨i, e, Option.some.inj h1⟩
  · exact Or.inr h
/-- a contract over a larger world: the rest stands -/
theorem Fn.sub {Θ : Tht} {y : MethodName} {wsY : List Cond} {rm : Room} {as : List Value} {w0 w1 ws ws2 wr : va_W} {o : Option Value} (isC isR isB : List Nat) (hC : isC.map (fun i => ws[i]?) = w0.map some) (hR : isR.map (fun i => ws[i]?) = wr.map some) (hB : isB.map (fun i => (wr ++ w1)[i]?) = ws2.map some) (hn : (va_nd isC && va_nd isR && va_nd isB && isR.all (fun i => !isC.contains i)) = true) (h : Fn Θ y wsY rm as w0 o w1) : Fn Θ y wsY rm as ws o ws2 := by
  intro sz p e hl hc hk s m args below hf hS hP hK
  simp only [Bool.and_eq_true] at hn
  obtain ⟨⟨⟨hn1, hn2⟩, hn3⟩, hn4⟩ := hn
  obtain ⟨ha, hsz, hP, hKt, hD, hN⟩ := hP
  have hdis : ∀ i ∈ isR, i ∉ isC := fun i hi hc => by
    have h1 := List.all_eq_true.mp hn4 i hi
    simp [List.contains_iff_mem, hc] at h1
  have hDA : va_D (va_A ws sz) ws := ⟨hD.1, fun k q hq => Or.inl ⟨k, q.2, hq⟩⟩
  have r := h sz p e hl hc hk s m args below hf hS ⟨ha, hsz, hP.sub isC (fm_of_map hC), hKt, hD.sub isC hn1 hC, hN⟩ hK
  obtain ⟨n, oc, h1, h2, h3, ⟨q1, q2, q3, q4⟩, L, h5, h6⟩ := r
  have hkk : ∀ q : Nat, q < s.heap.size → ¬ va_A w0 s.heap.size q → (stepsAlone p.tables e n s).heap[q]? = s.heap[q]? := fun q a b => q4.2 q a (by rw [hsz] at b; exact b)
  obtain ⟨hP1, hD1⟩ := va_join (A0 := va_A ws sz) (wr := wr) (w1 := w1) hP hDA isC isR hC hR hn2 hdis hkk (fun q hq => by rw [hsz] at hq; exact va_A_sub hC hq) q2 (by rw [hsz]; exact q3)
  refine ⟨n, oc, h1, h2, h3, ⟨q1, hP1.sub isB (fm_of_map hB), hD1.sub isB hn3 hB, q4.1, fun q a b => q4.2 q a (fun z => b (va_A_sub hC z))⟩, L, h5, fun q hq => va_A_sub hC (h6 q hq)⟩
