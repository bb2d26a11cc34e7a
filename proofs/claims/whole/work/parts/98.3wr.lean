/-! the law's own methods beside the model's -/
def WrI (Θ : Tht) (K : (Nat → Nat) × (Nat → Nat)) (ad am : Nat → Nat) (q : Nat) (f : Nat → Int64) (yL : MethodName) (wsL : List Cond) (asL : List Value) (y6 : MethodName) (ws6 : List Cond) (rm6 : Room) (as6 : List Value) (B : Nat) (c : CSt) (μ : MSt) : Prop :=
  ∃ (kk : Nat) (r : Int32) (c' : CSt) (μ' : MSt) (f' : Nat → Int64), kk ≤ 2 ∧ (kk = 0 → f' (0 : Int32).toNatClampNeg = r.toInt64) ∧ FC Θ K 1 6 yL wsL rmW asL (wO Θ q f ++ wC Θ ad c) (some (.int (nI kk))) (wO Θ q f' ++ wC Θ ad c') ∧ FC Θ K 0 0 y6 ws6 rm6 as6 (wM Θ am μ) (some (.int r)) (wM Θ am μ') ∧ thr μ' = nI kk ∧ Inv (B + 20000) c' μ'
def WrL (Θ : Tht) (K : (Nat → Nat) × (Nat → Nat)) (ad am : Nat → Nat) (q : Nat) (f : Nat → Int64) (yL : MethodName) (wsL : List Cond) (asL : List Value) (y6 : MethodName) (ws6 : List Cond) (rm6 : Room) (as6 : List Value) (B : Nat) (c : CSt) (μ : MSt) : Prop :=
  ∃ (kk : Nat) (r : Int64) (c' : CSt) (μ' : MSt) (f' : Nat → Int64), kk ≤ 2 ∧ (kk = 0 → f' (0 : Int32).toNatClampNeg = r) ∧ FC Θ K 1 6 yL wsL rmW asL (wO Θ q f ++ wC Θ ad c) (some (.int (nI kk))) (wO Θ q f' ++ wC Θ ad c') ∧ FC Θ K 0 0 y6 ws6 rm6 as6 (wM Θ am μ) (some (.long r)) (wM Θ am μ') ∧ thr μ' = nI kk ∧ Inv (B + 20000) c' μ'
theorem updL_0 (f : Nat → Int64) (x : Int64) : vp_updL f (0 : Int32).toNatClampNeg x (0 : Int32).toNatClampNeg = x := by
  unfold vp_updL
  rw [if_pos rfl]
theorem kM_thr {Θ : Tht} {K : (Nat → Nat) × (Nat → Nat)} {am : Nat → Nat} (μ : MSt) : FC Θ K 0 0 yX6_thrown (Cond.code yX6_thrown cX6_thrown 1 (some .int) :: GW) rmX6_thrown [.ref (am 0)] (wM Θ am μ) (some (.int (thr μ))) (wM Θ am μ) := by
  obtain ⟨a1, a2, a3, a4, a5, a6, a7, a8, a9, a10, a11, a12, a13, a14, a15⟩ := μ
  exact kM_thrown rfl
theorem wr_begin (Θ : Tht) {K : (Nat → Nat) × (Nat → Nat)} {ad am : Nat → Nat} (q : Nat) (f : Nat → Int64) (hST : Θ.1.stackTraces = false) {B : Nat} {c : CSt} {μ : MSt} (inv : Inv B c μ) (a0 : Int32) (a1 : Int32) : WrI Θ K ad am q f yL_begin (Cond.codeWith yL_begin cL_begin 5 (some .int) [(0, 10, 13, 13)] :: GW) [.ref (ad 0), .int a0, .int a1, .ref q] yX6_begin (Cond.code yX6_begin cX6_begin 5 (some .int) :: GW) rmX6_begin [.ref (am 0), .int a0, .int a1] B c μ := by
  obtain ⟨kk, r, c', μ', hkk, hc, hm, hth, hI⟩ := cs_begin (K := K) (ad := ad) (am := am) (F := 1000001) Θ (by omega) hST inv a0 a1
  rcases hc with ⟨rfl, hc⟩ | ⟨h1, hc⟩
  · exact ⟨0, r, c', μ', _, by omega, fun _ => updL_0 f _, kL_begin rfl hc, hm, hth, hI⟩
  · have h2 : kk = 1 ∨ kk = 2 := by have := hkk.1; omega
    rcases h2 with rfl | rfl
    · exact ⟨1, r, c', μ', f, by omega, fun h => absurd h (by omega), kL_begin_xA rfl hc, hm, hth, hI⟩
    · exact absurd rfl (hkk.2 rfl)
theorem wr_mark (Θ : Tht) {K : (Nat → Nat) × (Nat → Nat)} {ad am : Nat → Nat} (q : Nat) (f : Nat → Int64) (hST : Θ.1.stackTraces = false) {B : Nat} {c : CSt} {μ : MSt} (inv : Inv B c μ) (a0 : Int32) (a1 : Int32) (a2 : Int32) (a3 : Int32) (a4 : Int32) : WrI Θ K ad am q f yL_mark (Cond.codeWith yL_mark cL_mark 8 (some .int) [(0, 16, 19, 13)] :: GW) [.ref (ad 0), .int a0, .int a1, .int a2, .int a3, .int a4, .ref q] yX6_mark (Cond.code yX6_mark cX6_mark 10 (some .int) :: GW) rmX6_mark [.ref (am 0), .int a0, .int a1, .int a2, .int a3, .int a4] B c μ := by
  obtain ⟨kk, r, c', μ', hkk, hc, hm, hth, hI⟩ := cs_mark (K := K) (ad := ad) (am := am) (F := 1000001) Θ (by omega) hST inv a0 a1 a2 a3 a4
  rcases hc with ⟨rfl, hc⟩ | ⟨h1, hc⟩
  · exact ⟨0, r, c', μ', _, by omega, fun _ => updL_0 f _, kL_mark rfl hc, hm, hth, hI⟩
  · have h2 : kk = 1 ∨ kk = 2 := by have := hkk.1; omega
    rcases h2 with rfl | rfl
    · exact ⟨1, r, c', μ', f, by omega, fun h => absurd h (by omega), kL_mark_xA rfl hc, hm, hth, hI⟩
    · exact absurd rfl (hkk.2 rfl)
theorem wr_setCarrier (Θ : Tht) {K : (Nat → Nat) × (Nat → Nat)} {ad am : Nat → Nat} (q : Nat) (f : Nat → Int64) (hST : Θ.1.stackTraces = false) {B : Nat} {c : CSt} {μ : MSt} (inv : Inv B c μ) (a0 : Int32) : WrI Θ K ad am q f yL_setCarrier (Cond.codeWith yL_setCarrier cL_setCarrier 4 (some .int) [(0, 9, 12, 13)] :: GW) [.ref (ad 0), .int a0, .ref q] yX6_setCarrier (Cond.code yX6_setCarrier cX6_setCarrier 3 (some .int) :: GW) rmX6_setCarrier [.ref (am 0), .int a0] B c μ := by
  obtain ⟨kk, r, c', μ', hkk, hc, hm, hth, hI⟩ := cs_setCarrier (K := K) (ad := ad) (am := am) (F := 1000001) Θ (by omega) hST inv a0
  rcases hc with ⟨rfl, hc⟩ | ⟨h1, hc⟩
  · exact ⟨0, r, c', μ', _, by omega, fun _ => updL_0 f _, kL_setCarrier rfl hc, hm, hth, hI⟩
  · have h2 : kk = 1 ∨ kk = 2 := by have := hkk.1; omega
    rcases h2 with rfl | rfl
    · exact ⟨1, r, c', μ', f, by omega, fun h => absurd h (by omega), kL_setCarrier_xA rfl hc, hm, hth, hI⟩
    · exact absurd rfl (hkk.2 rfl)
theorem wr_set (Θ : Tht) {K : (Nat → Nat) × (Nat → Nat)} {ad am : Nat → Nat} (q : Nat) (f : Nat → Int64) (hST : Θ.1.stackTraces = false) {B : Nat} {c : CSt} {μ : MSt} (inv : Inv B c μ) (a0 : Int32) (a1 : Int32) : WrI Θ K ad am q f yL_set (Cond.codeWith yL_set cL_set 5 (some .int) [(0, 10, 13, 13)] :: GW) [.ref (ad 0), .int a0, .int a1, .ref q] yX6_set (Cond.code yX6_set cX6_set 4 (some .int) :: GW) rmX6_set [.ref (am 0), .int a0, .int a1] B c μ := by
  obtain ⟨kk, r, c', μ', hkk, hc, hm, hth, hI⟩ := cs_set (K := K) (ad := ad) (am := am) (F := 1000001) Θ (by omega) hST inv a0 a1
  rcases hc with ⟨rfl, hc⟩ | ⟨h1, hc⟩
  · exact ⟨0, r, c', μ', _, by omega, fun _ => updL_0 f _, kL_set rfl hc, hm, hth, hI⟩
  · have h2 : kk = 1 ∨ kk = 2 := by have := hkk.1; omega
    rcases h2 with rfl | rfl
    · exact ⟨1, r, c', μ', f, by omega, fun h => absurd h (by omega), kL_set_xA rfl hc, hm, hth, hI⟩
    · exact absurd rfl (hkk.2 rfl)
theorem wr_addPunch (Θ : Tht) {K : (Nat → Nat) × (Nat → Nat)} {ad am : Nat → Nat} (q : Nat) (f : Nat → Int64) (hST : Θ.1.stackTraces = false) {B : Nat} {c : CSt} {μ : MSt} (inv : Inv B c μ) (a0 : Int32) (a1 : Int32) (a2 : Int32) (a3 : Int32) : WrI Θ K ad am q f yL_addPunch (Cond.codeWith yL_addPunch cL_addPunch 7 (some .int) [(0, 14, 17, 13), (0, 14, 21, 30)] :: GW) [.ref (ad 0), .int a0, .int a1, .int a2, .int a3, .ref q] yX6_addPunch (Cond.code yX6_addPunch cX6_addPunch 5 (some .int) :: GW) rmX6_addPunch [.ref (am 0), .int a0, .int a1, .int a2, .int a3] B c μ := by
  obtain ⟨kk, r, c', μ', hkk, hc, hm, hth, hI⟩ := cs_addPunch (K := K) (ad := ad) (am := am) (F := 1000001) Θ (by omega) hST inv a0 a1 a2 a3
  rcases hc with ⟨rfl, hc⟩ | ⟨h1, hc⟩
  · exact ⟨0, r, c', μ', _, by omega, fun _ => updL_0 f _, kL_addPunch rfl hc, hm, hth, hI⟩
  · have h2 : kk = 1 ∨ kk = 2 := by have := hkk.1; omega
    rcases h2 with rfl | rfl
    · exact ⟨1, r, c', μ', f, by omega, fun h => absurd h (by omega), kL_addPunch_xA rfl hc, hm, hth, hI⟩
    · exact ⟨2, r, c', μ', f, by omega, fun h => absurd h (by omega), kL_addPunch_xS rfl hc, hm, hth, hI⟩
theorem wr_addBend (Θ : Tht) {K : (Nat → Nat) × (Nat → Nat)} {ad am : Nat → Nat} (q : Nat) (f : Nat → Int64) (hST : Θ.1.stackTraces = false) {B : Nat} {c : CSt} {μ : MSt} (inv : Inv B c μ) (a0 : Int32) (a1 : Int32) (a2 : Int32) : WrI Θ K ad am q f yL_addBend (Cond.codeWith yL_addBend cL_addBend 6 (some .int) [(0, 12, 15, 13), (0, 12, 19, 30)] :: GW) [.ref (ad 0), .int a0, .int a1, .int a2, .ref q] yX6_addBend (Cond.code yX6_addBend cX6_addBend 4 (some .int) :: GW) rmX6_addBend [.ref (am 0), .int a0, .int a1, .int a2] B c μ := by
  obtain ⟨kk, r, c', μ', hkk, hc, hm, hth, hI⟩ := cs_addBend (K := K) (ad := ad) (am := am) (F := 1000001) Θ (by omega) hST inv a0 a1 a2
  rcases hc with ⟨rfl, hc⟩ | ⟨h1, hc⟩
  · exact ⟨0, r, c', μ', _, by omega, fun _ => updL_0 f _, kL_addBend rfl hc, hm, hth, hI⟩
  · have h2 : kk = 1 ∨ kk = 2 := by have := hkk.1; omega
    rcases h2 with rfl | rfl
    · exact ⟨1, r, c', μ', f, by omega, fun h => absurd h (by omega), kL_addBend_xA rfl hc, hm, hth, hI⟩
    · exact ⟨2, r, c', μ', f, by omega, fun h => absurd h (by omega), kL_addBend_xS rfl hc, hm, hth, hI⟩
theorem wr_dropOperation (Θ : Tht) {K : (Nat → Nat) × (Nat → Nat)} {ad am : Nat → Nat} (q : Nat) (f : Nat → Int64) (hST : Θ.1.stackTraces = false) {B : Nat} {c : CSt} {μ : MSt} (inv : Inv B c μ) (a0 : Int32) : WrI Θ K ad am q f yL_dropOperation (Cond.codeWith yL_dropOperation cL_dropOperation 4 (some .int) [(0, 9, 12, 39)] :: GW) [.ref (ad 0), .int a0, .ref q] yX6_dropOperation (Cond.code yX6_dropOperation cX6_dropOperation 7 (some .int) :: GW) rmX6_dropOperation [.ref (am 0), .int a0] B c μ := by
  obtain ⟨kk, r, c', μ', hkk, hc, hm, hth, hI⟩ := cs_dropOperation (K := K) (ad := ad) (am := am) (F := 1000001) Θ (by omega) hST inv a0
  rcases hc with ⟨rfl, hc⟩ | ⟨h1, hc⟩
  · exact ⟨0, r, c', μ', _, by omega, fun _ => updL_0 f _, kL_dropOperation rfl hc, hm, hth, hI⟩
  · have h2 : kk = 1 ∨ kk = 2 := by have := hkk.1; omega
    rcases h2 with rfl | rfl
    · exact ⟨1, r, c', μ', f, by omega, fun h => absurd h (by omega), kL_dropOperation_xB rfl hc, hm, hth, hI⟩
    · exact absurd rfl (hkk.2 rfl)
theorem wr_setStation (Θ : Tht) {K : (Nat → Nat) × (Nat → Nat)} {ad am : Nat → Nat} (q : Nat) (f : Nat → Int64) (hST : Θ.1.stackTraces = false) {B : Nat} {c : CSt} {μ : MSt} (inv : Inv B c μ) (a0 : Int32) (a1 : Int32) : WrI Θ K ad am q f yL_setStation (Cond.codeWith yL_setStation cL_setStation 5 (some .int) [(0, 10, 13, 39), (0, 10, 17, 13)] :: GW) [.ref (ad 0), .int a0, .int a1, .ref q] yX6_setStation (Cond.code yX6_setStation cX6_setStation 4 (some .int) :: GW) rmX6_setStation [.ref (am 0), .int a0, .int a1] B c μ := by
  obtain ⟨kk, r, c', μ', hkk, hc, hm, hth, hI⟩ := cs_setStation (K := K) (ad := ad) (am := am) (F := 1000001) Θ (by omega) hST inv a0 a1
  rcases hc with ⟨rfl, hc⟩ | ⟨h1, hc⟩
  · exact ⟨0, r, c', μ', _, by omega, fun _ => updL_0 f _, kL_setStation rfl hc, hm, hth, hI⟩
  · have h2 : kk = 1 ∨ kk = 2 := by have := hkk.1; omega
    rcases h2 with rfl | rfl
    · exact ⟨1, r, c', μ', f, by omega, fun h => absurd h (by omega), kL_setStation_xB rfl hc, hm, hth, hI⟩
    · exact ⟨2, r, c', μ', f, by omega, fun h => absurd h (by omega), kL_setStation_xA rfl hc, hm, hth, hI⟩
theorem wr_usePlan (Θ : Tht) {K : (Nat → Nat) × (Nat → Nat)} {ad am : Nat → Nat} (q : Nat) (f : Nat → Int64) (hST : Θ.1.stackTraces = false) {B : Nat} {c : CSt} {μ : MSt} (inv : Inv B c μ)  : WrI Θ K ad am q f yL_usePlan (Cond.codeWith yL_usePlan cL_usePlan 3 (some .int) [(0, 8, 11, 30)] :: GW) [.ref (ad 0), .ref q] yX6_usePlan (Cond.code yX6_usePlan cX6_usePlan 3 (some .int) :: GW) rmX6_usePlan [.ref (am 0)] B c μ := by
  obtain ⟨kk, r, c', μ', hkk, hc, hm, hth, hI⟩ := cs_usePlan (K := K) (ad := ad) (am := am) (F := 1000001) Θ (by omega) hST inv
  rcases hc with ⟨rfl, hc⟩ | ⟨h1, hc⟩
  · exact ⟨0, r, c', μ', _, by omega, fun _ => updL_0 f _, kL_usePlan rfl hc, hm, hth, hI⟩
  · have h2 : kk = 1 ∨ kk = 2 := by have := hkk.1; omega
    rcases h2 with rfl | rfl
    · exact ⟨1, r, c', μ', f, by omega, fun h => absurd h (by omega), kL_usePlan_xS rfl hc, hm, hth, hI⟩
    · exact absurd rfl (hkk.2 rfl)
theorem wr_setPilot (Θ : Tht) {K : (Nat → Nat) × (Nat → Nat)} {ad am : Nat → Nat} (q : Nat) (f : Nat → Int64) (hST : Θ.1.stackTraces = false) {B : Nat} {c : CSt} {μ : MSt} (inv : Inv B c μ) (a0 : Int32) (a1 : Bool) : WrI Θ K ad am q f yL_setPilot (Cond.codeWith yL_setPilot cL_setPilot 5 (some .int) [(0, 10, 13, 13)] :: GW) [.ref (ad 0), .int a0, .int (bI a1), .ref q] yX6_setPilot (Cond.code yX6_setPilot cX6_setPilot 3 (some .int) :: GW) rmX6_setPilot [.ref (am 0), .int a0, .int (bI a1)] B c μ := by
  obtain ⟨kk, r, c', μ', hkk, hc, hm, hth, hI⟩ := cs_setPilot (K := K) (ad := ad) (am := am) (F := 1000001) Θ (by omega) hST inv a0 a1
  rcases hc with ⟨rfl, hc⟩ | ⟨h1, hc⟩
  · exact ⟨0, r, c', μ', _, by omega, fun _ => updL_0 f _, kL_setPilot rfl hc, hm, hth, hI⟩
  · have h2 : kk = 1 ∨ kk = 2 := by have := hkk.1; omega
    rcases h2 with rfl | rfl
    · exact ⟨1, r, c', μ', f, by omega, fun h => absurd h (by omega), kL_setPilot_xA rfl hc, hm, hth, hI⟩
    · exact absurd rfl (hkk.2 rfl)
theorem wr_cellSet (Θ : Tht) {K : (Nat → Nat) × (Nat → Nat)} {ad am : Nat → Nat} (q : Nat) (f : Nat → Int64) (hST : Θ.1.stackTraces = false) {B : Nat} {c : CSt} {μ : MSt} (inv : Inv B c μ) (a0 : Int32) : WrL Θ K ad am q f yL_cellSet (Cond.codeWith yL_cellSet cL_cellSet 4 (some .int) [(0, 8, 11, 13)] :: GW) [.ref (ad 0), .int a0, .ref q] yX6_cellSet (Cond.code yX6_cellSet cX6_cellSet 2 (some .long) :: GW) rmX6_cellSet [.ref (am 0), .int a0] B c μ := by
  obtain ⟨kk, r, c', μ', hkk, hc, hm, hth, hI⟩ := cs_cellSet (K := K) (ad := ad) (am := am) (F := 1000001) Θ (by omega) hST inv a0
  rcases hc with ⟨rfl, hc⟩ | ⟨h1, hc⟩
  · exact ⟨0, r, c', μ', _, by omega, fun _ => updL_0 f _, kL_cellSet rfl hc, hm, hth, hI⟩
  · have h2 : kk = 1 ∨ kk = 2 := by have := hkk.1; omega
    rcases h2 with rfl | rfl
    · exact ⟨1, r, c', μ', f, by omega, fun h => absurd h (by omega), kL_cellSet_xA rfl hc, hm, hth, hI⟩
    · exact absurd rfl (hkk.2 rfl)
theorem wr_operation (Θ : Tht) {K : (Nat → Nat) × (Nat → Nat)} {ad am : Nat → Nat} (q : Nat) (f : Nat → Int64) (hST : Θ.1.stackTraces = false) {B : Nat} {c : CSt} {μ : MSt} (inv : Inv B c μ) (a0 : Int32) (a1 : Int32) : WrI Θ K ad am q f yL_operation (Cond.codeWith yL_operation cL_operation 5 (some .int) [(0, 10, 13, 39), (0, 10, 17, 13)] :: GW) [.ref (ad 0), .int a0, .int a1, .ref q] yX6_operation (Cond.code yX6_operation cX6_operation 3 (some .int) :: GW) rmX6_operation [.ref (am 0), .int a0, .int a1] B c μ := by
  obtain ⟨kk, r, c', μ', hkk, hc, hm, hth, hI⟩ := cs_operation (K := K) (ad := ad) (am := am) (F := 1000001) Θ (by omega) hST inv a0 a1
  rcases hc with ⟨rfl, hc⟩ | ⟨h1, hc⟩
  · exact ⟨0, r, c', μ', _, by omega, fun _ => updL_0 f _, kL_operation rfl hc, hm, hth, hI⟩
  · have h2 : kk = 1 ∨ kk = 2 := by have := hkk.1; omega
    rcases h2 with rfl | rfl
    · exact ⟨1, r, c', μ', f, by omega, fun h => absurd h (by omega), kL_operation_xB rfl hc, hm, hth, hI⟩
    · exact ⟨2, r, c', μ', f, by omega, fun h => absurd h (by omega), kL_operation_xA rfl hc, hm, hth, hI⟩
theorem wr_station (Θ : Tht) {K : (Nat → Nat) × (Nat → Nat)} {ad am : Nat → Nat} (q : Nat) (f : Nat → Int64) (hST : Θ.1.stackTraces = false) {B : Nat} {c : CSt} {μ : MSt} (inv : Inv B c μ) (a0 : Int32) (a1 : Int32) : WrI Θ K ad am q f yL_station (Cond.codeWith yL_station cL_station 5 (some .int) [(0, 10, 13, 13)] :: GW) [.ref (ad 0), .int a0, .int a1, .ref q] yX6_station (Cond.code yX6_station cX6_station 3 (some .int) :: GW) rmX6_station [.ref (am 0), .int a0, .int a1] B c μ := by
  obtain ⟨kk, r, c', μ', hkk, hc, hm, hth, hI⟩ := cs_station (K := K) (ad := ad) (am := am) (F := 1000001) Θ (by omega) hST inv a0 a1
  rcases hc with ⟨rfl, hc⟩ | ⟨h1, hc⟩
  · exact ⟨0, r, c', μ', _, by omega, fun _ => updL_0 f _, kL_station rfl hc, hm, hth, hI⟩
  · have h2 : kk = 1 ∨ kk = 2 := by have := hkk.1; omega
    rcases h2 with rfl | rfl
    · exact ⟨1, r, c', μ', f, by omega, fun h => absurd h (by omega), kL_station_xA rfl hc, hm, hth, hI⟩
    · exact absurd rfl (hkk.2 rfl)
theorem wr_pitch (Θ : Tht) {K : (Nat → Nat) × (Nat → Nat)} {ad am : Nat → Nat} (q : Nat) (f : Nat → Int64) (hST : Θ.1.stackTraces = false) {B : Nat} {c : CSt} {μ : MSt} (inv : Inv B c μ) (a0 : Int32) (a1 : Int32) : WrI Θ K ad am q f yL_pitch (Cond.codeWith yL_pitch cL_pitch 5 (some .int) [(0, 10, 13, 13)] :: GW) [.ref (ad 0), .int a0, .int a1, .ref q] yX6_pitch (Cond.code yX6_pitch cX6_pitch 3 (some .int) :: GW) rmX6_pitch [.ref (am 0), .int a0, .int a1] B c μ := by
  obtain ⟨kk, r, c', μ', hkk, hc, hm, hth, hI⟩ := cs_pitch (K := K) (ad := ad) (am := am) (F := 1000001) Θ (by omega) hST inv a0 a1
  rcases hc with ⟨rfl, hc⟩ | ⟨h1, hc⟩
  · exact ⟨0, r, c', μ', _, by omega, fun _ => updL_0 f _, kL_pitch rfl hc, hm, hth, hI⟩
  · have h2 : kk = 1 ∨ kk = 2 := by have := hkk.1; omega
    rcases h2 with rfl | rfl
    · exact ⟨1, r, c', μ', f, by omega, fun h => absurd h (by omega), kL_pitch_xA rfl hc, hm, hth, hI⟩
    · exact absurd rfl (hkk.2 rfl)
theorem wr_left (Θ : Tht) {K : (Nat → Nat) × (Nat → Nat)} {ad am : Nat → Nat} (q : Nat) (f : Nat → Int64) (hST : Θ.1.stackTraces = false) {B : Nat} {c : CSt} {μ : MSt} (inv : Inv B c μ) (a0 : Int32) : WrL Θ K ad am q f yL_left (Cond.codeWith yL_left cL_left 4 (some .int) [(0, 8, 11, 13)] :: GW) [.ref (ad 0), .int a0, .ref q] yX6_left (Cond.code yX6_left cX6_left 2 (some .long) :: GW) rmX6_left [.ref (am 0), .int a0] B c μ := by
  obtain ⟨kk, r, c', μ', hkk, hc, hm, hth, hI⟩ := cs_left (K := K) (ad := ad) (am := am) (F := 1000001) Θ (by omega) hST inv a0
  rcases hc with ⟨rfl, hc⟩ | ⟨h1, hc⟩
  · exact ⟨0, r, c', μ', _, by omega, fun _ => updL_0 f _, kL_left rfl hc, hm, hth, hI⟩
  · have h2 : kk = 1 ∨ kk = 2 := by have := hkk.1; omega
    rcases h2 with rfl | rfl
    · exact ⟨1, r, c', μ', f, by omega, fun h => absurd h (by omega), kL_left_xA rfl hc, hm, hth, hI⟩
    · exact absurd rfl (hkk.2 rfl)
theorem wr_whole (Θ : Tht) {K : (Nat → Nat) × (Nat → Nat)} {ad am : Nat → Nat} (q : Nat) (f : Nat → Int64) (hST : Θ.1.stackTraces = false) {B : Nat} {c : CSt} {μ : MSt} (inv : Inv B c μ) (a0 : Int32) : WrI Θ K ad am q f yL_whole (Cond.codeWith yL_whole cL_whole 4 (some .int) [(0, 9, 12, 13)] :: GW) [.ref (ad 0), .int a0, .ref q] yX6_whole (Cond.code yX6_whole cX6_whole 2 (some .int) :: GW) rmX6_whole [.ref (am 0), .int a0] B c μ := by
  obtain ⟨kk, r, c', μ', hkk, hc, hm, hth, hI⟩ := cs_whole (K := K) (ad := ad) (am := am) (F := 1000001) Θ (by omega) hST inv a0
  rcases hc with ⟨rfl, hc⟩ | ⟨h1, hc⟩
  · exact ⟨0, r, c', μ', _, by omega, fun _ => updL_0 f _, kL_whole rfl hc, hm, hth, hI⟩
  · have h2 : kk = 1 ∨ kk = 2 := by have := hkk.1; omega
    rcases h2 with rfl | rfl
    · exact ⟨1, r, c', μ', f, by omega, fun h => absurd h (by omega), kL_whole_xA rfl hc, hm, hth, hI⟩
    · exact absurd rfl (hkk.2 rfl)
theorem wr_planned (Θ : Tht) {K : (Nat → Nat) × (Nat → Nat)} {ad am : Nat → Nat} (q : Nat) (f : Nat → Int64) (hST : Θ.1.stackTraces = false) {B : Nat} {c : CSt} {μ : MSt} (inv : Inv B c μ) (a0 : Int32) : WrI Θ K ad am q f yL_planned (Cond.codeWith yL_planned cL_planned 4 (some .int) [(0, 9, 12, 39)] :: GW) [.ref (ad 0), .int a0, .ref q] yX6_planned (Cond.code yX6_planned cX6_planned 3 (some .int) :: GW) rmX6_planned [.ref (am 0), .int a0] B c μ := by
  obtain ⟨kk, r, c', μ', hkk, hc, hm, hth, hI⟩ := cs_planned (K := K) (ad := ad) (am := am) (F := 1000001) Θ (by omega) hST inv a0
  rcases hc with ⟨rfl, hc⟩ | ⟨h1, hc⟩
  · exact ⟨0, r, c', μ', _, by omega, fun _ => updL_0 f _, kL_planned rfl hc, hm, hth, hI⟩
  · have h2 : kk = 1 ∨ kk = 2 := by have := hkk.1; omega
    rcases h2 with rfl | rfl
    · exact ⟨1, r, c', μ', f, by omega, fun h => absurd h (by omega), kL_planned_xB rfl hc, hm, hth, hI⟩
    · exact absurd rfl (hkk.2 rfl)
theorem wr_type (Θ : Tht) {K : (Nat → Nat) × (Nat → Nat)} {ad am : Nat → Nat} (q : Nat) (f : Nat → Int64) (hST : Θ.1.stackTraces = false) {B : Nat} {c : CSt} {μ : MSt} (inv : Inv B c μ) (a0 : Int32) : WrI Θ K ad am q f yL_type (Cond.codeWith yL_type cL_type 4 (some .int) [(0, 9, 12, 13), (0, 9, 15, 30)] :: GW) [.ref (ad 0), .int a0, .ref q] yX6_type (Cond.code yX6_type cX6_type 2 (some .int) :: GW) rmX6_type [.ref (am 0), .int a0] B c μ := by
  obtain ⟨kk, r, c', μ', hkk, hc, hm, hth, hI⟩ := cs_type (K := K) (ad := ad) (am := am) (F := 1000001) Θ (by omega) hST inv a0
  rcases hc with ⟨rfl, hc⟩ | ⟨h1, hc⟩
  · exact ⟨0, r, c', μ', _, by omega, fun _ => updL_0 f _, kL_type rfl hc, hm, hth, hI⟩
  · have h2 : kk = 1 ∨ kk = 2 := by have := hkk.1; omega
    rcases h2 with rfl | rfl
    · exact ⟨1, r, c', μ', f, by omega, fun h => absurd h (by omega), kL_type_xA rfl hc, hm, hth, hI⟩
    · exact ⟨2, r, c', μ', f, by omega, fun h => absurd h (by omega), kL_type_xS rfl hc, hm, hth, hI⟩
theorem wr_undo (Θ : Tht) {K : (Nat → Nat) × (Nat → Nat)} {ad am : Nat → Nat} (q : Nat) (f : Nat → Int64) (hST : Θ.1.stackTraces = false) {B : Nat} {c : CSt} {μ : MSt} (inv : Inv B c μ)  : WrI Θ K ad am q f yL_undo (Cond.codeWith yL_undo cL_undo 3 (some .int) [(0, 8, 11, 30)] :: GW) [.ref (ad 0), .ref q] yX6_undo (Cond.code yX6_undo cX6_undo 2 (some .int) :: GW) rmX6_undo [.ref (am 0)] B c μ := by
  obtain ⟨kk, r, c', μ', hkk, hc, hm, hth, hI⟩ := cs_undo (K := K) (ad := ad) (am := am) (F := 1000001) Θ (by omega) hST inv
  rcases hc with ⟨rfl, hc⟩ | ⟨h1, hc⟩
  · exact ⟨0, r, c', μ', _, by omega, fun _ => updL_0 f _, kL_undo rfl hc, hm, hth, hI⟩
  · have h2 : kk = 1 ∨ kk = 2 := by have := hkk.1; omega
    rcases h2 with rfl | rfl
    · exact ⟨1, r, c', μ', f, by omega, fun h => absurd h (by omega), kL_undo_xS rfl hc, hm, hth, hI⟩
    · exact absurd rfl (hkk.2 rfl)
