/-- how many cells a set has -/
def pcS (S : Nat) : Nat := fb_ct S.testBit 60
theorem pc_le (S : Nat) : pcS S ≤ 60 := fb_ct_le _ _
theorem x6_ones {F : Nat} {S : Nat} (hF : 100 < F) (hS : S < 2 ^ 60) : fX6_ones F (lN S) = some (nI (pcS S)) := by
  unfold fX6_ones
  have L := lp_seqE (body := fX6_ones_l4 (lN S)) (S := fun j => (nI (fb_ct S.testBit j), nI j)) (x0 := (nI 0, nI 0)) rfl (n := 60) (a := nI (pcS S)) (F := F) (fun k hk => by
      show fX6_ones_l4 (lN S) (nI (fb_ct S.testBit k), nI k) = some (.inl (nI (fb_ct S.testBit k + if S.testBit k then 1 else 0), nI (k + 1)))
      unfold fX6_ones_l4
      rw [uc2_s, il_60, if_neg (nI_ge hk (by omega)), ll_63, srL (lt62 hS) (by omega), ll_1, fb_andL, bit_one, lN_i, nI_add, nm_s, il_1, nI_add]) (by
      show fX6_ones_l4 (lN S) (nI (fb_ct S.testBit 60), nI 60) = _
      unfold fX6_ones_l4
      rw [uc2_s, il_60, if_pos (nI_le (Nat.le_refl _) (by omega))]
      rfl) (by omega)
  exact (bd1_e L).trans rfl
def dg (b : Nat → Nat) : Nat → Nat
  | 0 => 0
  | n + 1 => dg (fun i => b (i + 1)) n * 256 + b 0
theorem dg_lt : ∀ (n : Nat) (b : Nat → Nat), (∀ i, i < n → b i < 256) → dg b n < 256 ^ n
  | 0, b, _ => by simp [dg]
  | n + 1, b, h => by
    have h1 := dg_lt n (fun i => b (i + 1)) (fun i hi => h (i + 1) (by omega))
    have h2 := h 0 (by omega)
    rw [dg, Nat.pow_succ]
    omega
theorem land_split {A B C D : Nat} (hB : B < 256) (hD : D < 256) : (A * 256 + B) &&& (C * 256 + D) = (A &&& C) * 256 + (B &&& D) := by
  apply Nat.eq_of_testBit_eq
  intro i
  have hBD : B &&& D < 2 ^ 8 := and_lt_l hB
  have e : ∀ (X Y : Nat), Y < 2 ^ 8 → (X * 256 + Y).testBit i = if i < 8 then Y.testBit i else X.testBit (i - 8) := fun X Y hY => by
    rw [show X * 256 = 2 ^ 8 * X by rw [Nat.mul_comm], Nat.testBit_two_pow_mul_add X hY i]
  rw [Nat.testBit_and, e A B hB, e C D hD, e _ _ hBD, Nat.testBit_and]
  split
  · rfl
  · rw [Nat.testBit_and]
def s1 (l : Nat) : Nat := l - (l / 2 &&& 85)
def s2 (l : Nat) : Nat := (l &&& 51) + (l / 4 &&& 51)
def s3 (l : Nat) : Nat := l % 16 + l / 16
theorem s1_low : ∀ b, b < 2 → ∀ l, l < 256 → ((b * 128 + l / 2) &&& 85) = (l / 2 &&& 85) ∧ b * 128 + l / 2 < 256 := by decide +kernel
theorem s2_low : ∀ b, b < 4 → ∀ l, l < 256 → ((b * 64 + l / 4) &&& 51) = (l / 4 &&& 51) ∧ b * 64 + l / 4 < 256 := by decide +kernel
theorem s3_low : ∀ c, c < 256 → c &&& 15 = c % 16 := by decide +kernel
theorem s1_lt : ∀ l, l < 256 → s1 l < 256 ∧ s2 (s1 l) < 256 ∧ s2 (s1 l) % 16 ≤ 4 ∧ s2 (s1 l) / 16 ≤ 4 ∧ s3 (s2 (s1 l)) = fb_ct l.testBit 8 ∧ s3 (s2 (s1 l)) ≤ 8 := by decide +kernel
theorem st1 : ∀ (n : Nat) (b : Nat → Nat), (∀ i, i < n → b i < 256) → dg b n - (dg b n / 2 &&& dg (fun _ => 85) n) = dg (fun i => s1 (b i)) n ∧ (dg b n / 2 &&& dg (fun _ => 85) n) ≤ dg b n
  | 0, b, _ => by simp [dg]
  | n + 1, b, h => by
    obtain ⟨h1, h2⟩ := st1 n (fun i => b (i + 1)) (fun i hi => h (i + 1) (by omega))
    have hb := h 0 (by omega)
    have q := s1_low (dg (fun i => b (i + 1)) n % 2) (Nat.mod_lt _ (by omega)) (b 0) hb
    have l1 : (b 0 / 2 &&& 85) ≤ b 0 := Nat.le_trans Nat.and_le_left (Nat.div_le_self _ _)
    simp only [dg]
    have e : (dg (fun i => b (i + 1)) n * 256 + b 0) / 2 = dg (fun i => b (i + 1)) n / 2 * 256 + (dg (fun i => b (i + 1)) n % 2 * 128 + b 0 / 2) := by omega
    rw [e, land_split q.2 (by omega), q.1]
    generalize (dg (fun i => b (i + 1)) n / 2 &&& dg (fun i => 85) n) = x at *
    rw [← h1]
    unfold s1
    generalize (b 0 / 2 &&& 85) = y at *
    omega
theorem st2 : ∀ (n : Nat) (b : Nat → Nat), (∀ i, i < n → b i < 256) → (dg b n &&& dg (fun _ => 51) n) + (dg b n / 4 &&& dg (fun _ => 51) n) = dg (fun i => s2 (b i)) n
  | 0, b, _ => by simp [dg]
  | n + 1, b, h => by
    have h1 := st2 n (fun i => b (i + 1)) (fun i hi => h (i + 1) (by omega))
    have hb := h 0 (by omega)
    have q := s2_low (dg (fun i => b (i + 1)) n % 4) (Nat.mod_lt _ (by omega)) (b 0) hb
    simp only [dg]
    have e : (dg (fun i => b (i + 1)) n * 256 + b 0) / 4 = dg (fun i => b (i + 1)) n / 4 * 256 + (dg (fun i => b (i + 1)) n % 4 * 64 + b 0 / 4) := by omega
    rw [e, land_split q.2 (by omega), land_split hb (by omega), q.1, ← h1]
    unfold s2
    omega
theorem dg_mod : ∀ (n : Nat) (c : Nat → Nat), (∀ i, i < n → c i % 16 ≤ 4) → dg c n % 16 ≤ 4
  | 0, c, _ => by simp [dg]
  | n + 1, c, h => by
    have := h 0 (by omega)
    rw [dg]
    omega
theorem st3 : ∀ (n : Nat) (c : Nat → Nat), (∀ i, i < n → c i % 16 ≤ 4 ∧ c i / 16 ≤ 4) → (dg c n + dg c n / 16) &&& dg (fun _ => 15) n = dg (fun i => s3 (c i)) n
  | 0, c, _ => by simp [dg]
  | n + 1, c, h => by
    have h1 := st3 n (fun i => c (i + 1)) (fun i hi => h (i + 1) (by omega))
    have hc := h 0 (by omega)
    have hm := dg_mod n (fun i => c (i + 1)) (fun i hi => (h (i + 1) (by omega)).1)
    simp only [dg]
    have e : dg (fun i => c (i + 1)) n * 256 + c 0 + (dg (fun i => c (i + 1)) n * 256 + c 0) / 16 = (dg (fun i => c (i + 1)) n + dg (fun i => c (i + 1)) n / 16) * 256 + (c 0 + dg (fun i => c (i + 1)) n % 16 * 16 + c 0 / 16) := by omega
    have l : c 0 + dg (fun i => c (i + 1)) n % 16 * 16 + c 0 / 16 < 256 := by omega
    rw [e, land_split l (by omega), s3_low _ l, h1]
    unfold s3
    generalize dg (fun i => c (i + 1) % 16 + c (i + 1) / 16) n = X
    generalize dg (fun i => c (i + 1)) n % 16 = z at *
    generalize c 0 = y at *
    congr 1
    omega
theorem dg_ct : ∀ (n : Nat) (b : Nat → Nat), (∀ i, i < n → b i < 256) → fb_ct (dg b n).testBit (8 * n) = fb_sm (fun i => fb_ct (b i).testBit 8) n
  | 0, b, _ => rfl
  | n + 1, b, h => by
    have h1 := dg_ct n (fun i => b (i + 1)) (fun i hi => h (i + 1) (by omega))
    have hb : b 0 < 2 ^ 8 := h 0 (by omega)
    have e : ∀ i, (dg b (n + 1)).testBit i = if i < 8 then (b 0).testBit i else (dg (fun i => b (i + 1)) n).testBit (i - 8) := fun i => by
      rw [dg, show dg (fun i => b (i + 1)) n * 256 = 2 ^ 8 * dg (fun i => b (i + 1)) n by rw [Nat.mul_comm], Nat.testBit_two_pow_mul_add _ hb i]
    rw [show 8 * (n + 1) = 8 + 8 * n by omega, fb_ct_split]
    have e1 : fb_ct (dg b (n + 1)).testBit 8 = fb_ct (b 0).testBit 8 := fb_ct_cong (fun k hk => by rw [e, if_pos hk])
    have e2 : fb_ct (fun k => (dg b (n + 1)).testBit (8 + k)) (8 * n) = fb_ct (dg (fun i => b (i + 1)) n).testBit (8 * n) := fb_ct_cong (fun k hk => by rw [e, if_neg (by omega), Nat.add_sub_cancel_left])
    rw [e1, e2, h1, Nat.add_comm n 1, fb_sm_split]
    simp only [Nat.add_comm 1]
    show _ = 0 + _ + _
    rw [Nat.zero_add]
theorem dg_of : ∀ (n x : Nat), x < 256 ^ n → dg (fun i => x / 256 ^ i % 256) n = x
  | 0, x, h => by simp [dg] at *; omega
  | n + 1, x, h => by
    have h1 := dg_of n (x / 256) (by rw [Nat.pow_succ] at h; exact Nat.div_lt_of_lt_mul (by rw [Nat.mul_comm]; exact h))
    have e : (fun i => x / 256 ^ (i + 1) % 256) = fun i => x / 256 / 256 ^ i % 256 := by
      funext i
      rw [Nat.div_div_eq_div_mul, Nat.pow_succ, Nat.mul_comm 256]
    rw [dg, e, h1, Nat.pow_zero, Nat.div_one]
    omega
theorem f8_d {a B C : Nat} (e : B = C * 256 + a) (ha : a ≤ 255) : B / 256 = C := by omega
theorem f8_d2 {a b B C D : Nat} (e : B = C * 256 + a) (e2 : C = D * 256 + b) (ha : a ≤ 255) (hb : b ≤ 255) : B / 65536 = D := by
  have h1 := f8_d e ha
  have h2 := f8_d e2 hb
  omega
theorem f8_d4 {a b c d B C D E G : Nat} (e : B = C * 256 + a) (e2 : C = D * 256 + b) (e3 : D = E * 256 + c) (e4 : E = G * 256 + d) (ha : a ≤ 255) (hb : b ≤ 255) (hc : c ≤ 255) (hd : d ≤ 255) : B / 4294967296 = G := by
  have h1 := f8_d2 e e2 ha hb
  have h2 := f8_d2 e3 e4 hc hd
  omega
theorem f8_add {a b B C B' C' : Nat} (e : B = C * 256 + a) (e2 : B' = C' * 256 + b) : B + B' = (C + C') * 256 + (a + b) := by omega
theorem f8_b {a B C m : Nat} (e : B = C * 256 + a) (ha : a ≤ 8) (hC : C ≤ m) : B ≤ m * 256 + 8 := by omega
theorem f8_f {Z a0 a1 a2 a3 a4 a5 a6 a7 : Nat} (h0 : a0 ≤ 8) (h1 : a1 ≤ 8) (h2 : a2 ≤ 8) (h3 : a3 ≤ 8) (h4 : a4 ≤ 8) (h5 : a5 ≤ 8) (h6 : a6 ≤ 8) (h7 : a7 ≤ 8) : (Z * 256 + (a0 + a1 + (a2 + a3) + (a4 + a5 + (a6 + a7)))) % 2 ^ 7 = a0 + a1 + a2 + a3 + a4 + a5 + a6 + a7 := by omega
theorem f8_l {B0 B1 B2 B3 : Nat} (h0 : B0 < 2 ^ 62) (h1 : B1 < 2 ^ 60) (h2 : B2 < 2 ^ 60) (h3 : B3 < 2 ^ 60) : B0 < 2 ^ 64 ∧ B0 + B1 < 2 ^ 64 ∧ B0 + B1 + (B2 + B3) < 2 ^ 64 := by omega
set_option maxRecDepth 4000 in
theorem fin8 (p : Nat → Nat) (h : ∀ i, i < 8 → p i ≤ 8) : dg p 8 < 2 ^ 64 ∧ dg p 8 + dg p 8 / 2 ^ 8 < 2 ^ 64 ∧ (dg p 8 + dg p 8 / 2 ^ 8) + (dg p 8 + dg p 8 / 2 ^ 8) / 2 ^ 16 < 2 ^ 64 ∧ (((dg p 8 + dg p 8 / 2 ^ 8) + (dg p 8 + dg p 8 / 2 ^ 8) / 2 ^ 16) + ((dg p 8 + dg p 8 / 2 ^ 8) + (dg p 8 + dg p 8 / 2 ^ 8) / 2 ^ 16) / 2 ^ 32) % 2 ^ 7 = fb_sm p 8 := by
  have h0 := h 0 (by omega)
  have h1 := h 1 (by omega)
  have h2 := h 2 (by omega)
  have h3 := h 3 (by omega)
  have h4 := h 4 (by omega)
  have h5 := h 5 (by omega)
  have h6 := h 6 (by omega)
  have h7 := h 7 (by omega)
  have e2 : fb_sm p 8 = p 0 + p 1 + p 2 + p 3 + p 4 + p 5 + p 6 + p 7 := by
    simp only [fb_sm, Nat.zero_add]
  rw [e2]
  obtain ⟨B7, b7⟩ : ∃ B, B = 0 * 256 + p 7 := ⟨_, rfl⟩
  obtain ⟨B6, b6⟩ : ∃ B, B = B7 * 256 + p 6 := ⟨_, rfl⟩
  obtain ⟨B5, b5⟩ : ∃ B, B = B6 * 256 + p 5 := ⟨_, rfl⟩
  obtain ⟨B4, b4⟩ : ∃ B, B = B5 * 256 + p 4 := ⟨_, rfl⟩
  obtain ⟨B3, b3⟩ : ∃ B, B = B4 * 256 + p 3 := ⟨_, rfl⟩
  obtain ⟨B2, b2⟩ : ∃ B, B = B3 * 256 + p 2 := ⟨_, rfl⟩
  obtain ⟨B1, b1⟩ : ∃ B, B = B2 * 256 + p 1 := ⟨_, rfl⟩
  have b0 : dg p 8 = B1 * 256 + p 0 := by
    rw [b1, b2, b3, b4, b5, b6, b7]
    rfl
  generalize dg p 8 = B0 at *
  generalize p 0 = a0 at *
  generalize p 1 = a1 at *
  generalize p 2 = a2 at *
  generalize p 3 = a3 at *
  generalize p 4 = a4 at *
  generalize p 5 = a5 at *
  generalize p 6 = a6 at *
  generalize p 7 = a7 at *
  have k0 : B0 / 2 ^ 8 = B1 := f8_d b0 (by omega)
  rw [k0]
  have s0 := f8_add b0 b1
  have s1 := f8_add b1 b2
  have s2 := f8_add b2 b3
  have s3 := f8_add b3 b4
  have s4 := f8_add b4 b5
  have s5 := f8_add b5 b6
  have s6 := f8_add b6 b7
  have k1 : (B0 + B1) / 2 ^ 16 = B2 + B3 := f8_d2 s0 s1 (by omega) (by omega)
  rw [k1]
  have t0 := f8_add s0 s2
  have t1 := f8_add s1 s3
  have t2 := f8_add s2 s4
  have t3 := f8_add s3 s5
  have t4 := f8_add s4 s6
  have k2 : (B0 + B1 + (B2 + B3)) / 2 ^ 32 = B4 + B5 + (B6 + B7) := f8_d4 t0 t1 t2 t3 (by omega) (by omega) (by omega) (by omega)
  rw [k2]
  have u0 := f8_add t0 t4
  have m7 := f8_b b7 h7 (Nat.le_refl 0)
  have m6 := f8_b b6 h6 m7
  have m5 := f8_b b5 h5 m6
  have m4 := f8_b b4 h4 m5
  have m3 := f8_b b3 h3 m4
  have m2 := f8_b b2 h2 m3
  have m1 := f8_b b1 h1 m2
  have m0 := f8_b b0 h0 m1
  have l := f8_l (Nat.lt_of_le_of_lt m0 (by decide)) (Nat.lt_of_le_of_lt m1 (by decide)) (Nat.lt_of_le_of_lt m2 (by decide)) (Nat.lt_of_le_of_lt m3 (by decide))
  refine ⟨l.1, l.2.1, l.2.2, ?_⟩
  rw [u0]
  exact f8_f h0 h1 h2 h3 h4 h5 h6 h7
theorem x_cnt {x : Nat} (hx : x < 2 ^ 60) : fJ13_bitCount_95d88 (lN x) = some (nI (pcS x)) := by
  have hb : ∀ i, i < 8 → x / 256 ^ i % 256 < 256 := fun i _ => Nat.mod_lt _ (by decide)
  have e0 := dg_of 8 x (Nat.lt_trans hx (by decide))
  have p1 := st1 8 _ hb
  have l1 : ∀ i, i < 8 → s1 (x / 256 ^ i % 256) < 256 := fun i hi => (s1_lt _ (hb i hi)).1
  have p2 := st2 8 _ l1
  have p3 := st3 8 (fun i => s2 (s1 (x / 256 ^ i % 256))) (fun i hi => ⟨(s1_lt _ (hb i hi)).2.2.1, (s1_lt _ (hb i hi)).2.2.2.1⟩)
  have g1 := dg_lt 8 _ l1
  have g2 := dg_lt 8 (fun i => s2 (s1 (x / 256 ^ i % 256))) (fun i hi => (s1_lt _ (hb i hi)).2.1)
  have f8 := fin8 (fun i => s3 (s2 (s1 (x / 256 ^ i % 256)))) (fun i hi => (s1_lt _ (hb i hi)).2.2.2.2.2)
  have ct := dg_ct 8 _ hb
  have m5 : dg (fun _ => 85) 8 = 6148914691236517205 := by decide +kernel
  have m3 : dg (fun _ => 51) 8 = 3689348814741910323 := by decide +kernel
  have mf : dg (fun _ => 15) 8 = 1085102592571150095 := by decide +kernel
  rw [e0, m5] at p1
  rw [m3] at p2
  rw [mf] at p3
  rw [e0] at ct
  unfold fJ13_bitCount_95d88
  rw [il_1, lush_N (lt64 hx) (by omega), show (6148914691236517205 : Int64) = lN 6148914691236517205 from rfl, fb_andL, lN_sub (by exact p1.2), nm_s]
  rw [show x - (x / 2 ^ 1 &&& 6148914691236517205) = _ from p1.1]
  rw [il_2, lush_N (Nat.lt_of_lt_of_le g1 (by decide)) (by omega), show (3689348814741910323 : Int64) = lN 3689348814741910323 from rfl, fb_andL, fb_andL, lN_add, nm_s]
  rw [show (dg (fun i => s1 (x / 256 ^ i % 256)) 8 &&& 3689348814741910323) + (dg (fun i => s1 (x / 256 ^ i % 256)) 8 / 2 ^ 2 &&& 3689348814741910323) = _ from p2]
  rw [il_4, lush_N (Nat.lt_of_lt_of_le g2 (by decide)) (by omega), show (1085102592571150095 : Int64) = lN 1085102592571150095 from rfl, lN_add, fb_andL, nm_s]
  rw [show (dg (fun i => s2 (s1 (x / 256 ^ i % 256))) 8 + dg (fun i => s2 (s1 (x / 256 ^ i % 256))) 8 / 2 ^ 4 &&& 1085102592571150095) = _ from p3]
  rw [il_8, lush_N f8.1 (by omega), lN_add, nm_s, il_16, lush_N f8.2.1 (by omega), lN_add, nm_s, il_32, lush_N f8.2.2.1 (by omega), lN_add, nm_s, lN_i, show (127 : Int32) = nI (2 ^ 7 - 1) from rfl, fa_mask, f8.2.2.2]
  congr 2
  unfold pcS
  have e64 : fb_ct x.testBit (8 * 8) = fb_ct x.testBit 60 := by
    rw [show 8 * 8 = 60 + 4 from rfl, fb_ct_split]
    have : fb_ct (fun k => x.testBit (60 + k)) 4 = 0 := fb_ct_zero.mpr (fun k _ => tb_big hx (by omega))
    omega
  rw [← e64, ct]
  exact fb_sm_cong (fun k hk => (s1_lt _ (hb k hk)).2.2.2.2.1)
theorem x_cntI : ∀ k, k < 512 → fJ6_bitCount_0f7a4 (nI k) = some (nI (fb_ct k.testBit 9)) := by decide +kernel
theorem x_cnt8 {k : Nat} (h : k < 256) : fJ6_bitCount_0f7a4 (nI k) = some (nI (pcS k)) := by
  rw [x_cntI k (by omega)]
  congr 2
  unfold pcS
  rw [show 60 = 9 + 51 from rfl, fb_ct_split]
  have : fb_ct (fun j => k.testBit (9 + j)) 51 = 0 := fb_ct_zero.mpr (fun j _ => tb_big (n := 9) (by omega) (by omega))
  omega
