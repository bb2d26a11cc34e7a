theorem bd1_s {A1 ρ : Type} (a1 : A1) (K : A1 → Option ρ) : bd1 (some (a1)) K = K a1 := rfl
theorem bd1_e {A1 ρ : Type} {X : Option (A1)} {a1 : A1} {K : A1 → Option ρ} (h : X = some (a1)) : bd1 X K = K a1 := by rw [h]; rfl
theorem uc1_s {A1 γ : Type} (K : A1 → γ) (a1 : A1) : uc1 K (a1) = K a1 := rfl
theorem bd2_s {A1 A2 ρ : Type} (a1 : A1) (a2 : A2) (K : A1 → A2 → Option ρ) : bd2 (some (a1, a2)) K = K a1 a2 := rfl
theorem bd2_e {A1 A2 ρ : Type} {X : Option (A1 × A2)} {a1 : A1} {a2 : A2} {K : A1 → A2 → Option ρ} (h : X = some (a1, a2)) : bd2 X K = K a1 a2 := by rw [h]; rfl
theorem uc2_s {A1 A2 γ : Type} (K : A1 → A2 → γ) (a1 : A1) (a2 : A2) : uc2 K (a1, a2) = K a1 a2 := rfl
theorem bd3_s {A1 A2 A3 ρ : Type} (a1 : A1) (a2 : A2) (a3 : A3) (K : A1 → A2 → A3 → Option ρ) : bd3 (some (a1, a2, a3)) K = K a1 a2 a3 := rfl
theorem bd3_e {A1 A2 A3 ρ : Type} {X : Option (A1 × A2 × A3)} {a1 : A1} {a2 : A2} {a3 : A3} {K : A1 → A2 → A3 → Option ρ} (h : X = some (a1, a2, a3)) : bd3 X K = K a1 a2 a3 := by rw [h]; rfl
theorem uc3_s {A1 A2 A3 γ : Type} (K : A1 → A2 → A3 → γ) (a1 : A1) (a2 : A2) (a3 : A3) : uc3 K (a1, a2, a3) = K a1 a2 a3 := rfl
theorem bd4_s {A1 A2 A3 A4 ρ : Type} (a1 : A1) (a2 : A2) (a3 : A3) (a4 : A4) (K : A1 → A2 → A3 → A4 → Option ρ) : bd4 (some (a1, a2, a3, a4)) K = K a1 a2 a3 a4 := rfl
theorem bd4_e {A1 A2 A3 A4 ρ : Type} {X : Option (A1 × A2 × A3 × A4)} {a1 : A1} {a2 : A2} {a3 : A3} {a4 : A4} {K : A1 → A2 → A3 → A4 → Option ρ} (h : X = some (a1, a2, a3, a4)) : bd4 X K = K a1 a2 a3 a4 := by rw [h]; rfl
theorem uc4_s {A1 A2 A3 A4 γ : Type} (K : A1 → A2 → A3 → A4 → γ) (a1 : A1) (a2 : A2) (a3 : A3) (a4 : A4) : uc4 K (a1, a2, a3, a4) = K a1 a2 a3 a4 := rfl
theorem bd5_s {A1 A2 A3 A4 A5 ρ : Type} (a1 : A1) (a2 : A2) (a3 : A3) (a4 : A4) (a5 : A5) (K : A1 → A2 → A3 → A4 → A5 → Option ρ) : bd5 (some (a1, a2, a3, a4, a5)) K = K a1 a2 a3 a4 a5 := rfl
theorem bd5_e {A1 A2 A3 A4 A5 ρ : Type} {X : Option (A1 × A2 × A3 × A4 × A5)} {a1 : A1} {a2 : A2} {a3 : A3} {a4 : A4} {a5 : A5} {K : A1 → A2 → A3 → A4 → A5 → Option ρ} (h : X = some (a1, a2, a3, a4, a5)) : bd5 X K = K a1 a2 a3 a4 a5 := by rw [h]; rfl
theorem uc5_s {A1 A2 A3 A4 A5 γ : Type} (K : A1 → A2 → A3 → A4 → A5 → γ) (a1 : A1) (a2 : A2) (a3 : A3) (a4 : A4) (a5 : A5) : uc5 K (a1, a2, a3, a4, a5) = K a1 a2 a3 a4 a5 := rfl
theorem bd6_s {A1 A2 A3 A4 A5 A6 ρ : Type} (a1 : A1) (a2 : A2) (a3 : A3) (a4 : A4) (a5 : A5) (a6 : A6) (K : A1 → A2 → A3 → A4 → A5 → A6 → Option ρ) : bd6 (some (a1, a2, a3, a4, a5, a6)) K = K a1 a2 a3 a4 a5 a6 := rfl
theorem bd6_e {A1 A2 A3 A4 A5 A6 ρ : Type} {X : Option (A1 × A2 × A3 × A4 × A5 × A6)} {a1 : A1} {a2 : A2} {a3 : A3} {a4 : A4} {a5 : A5} {a6 : A6} {K : A1 → A2 → A3 → A4 → A5 → A6 → Option ρ} (h : X = some (a1, a2, a3, a4, a5, a6)) : bd6 X K = K a1 a2 a3 a4 a5 a6 := by rw [h]; rfl
theorem uc6_s {A1 A2 A3 A4 A5 A6 γ : Type} (K : A1 → A2 → A3 → A4 → A5 → A6 → γ) (a1 : A1) (a2 : A2) (a3 : A3) (a4 : A4) (a5 : A5) (a6 : A6) : uc6 K (a1, a2, a3, a4, a5, a6) = K a1 a2 a3 a4 a5 a6 := rfl
theorem bd7_s {A1 A2 A3 A4 A5 A6 A7 ρ : Type} (a1 : A1) (a2 : A2) (a3 : A3) (a4 : A4) (a5 : A5) (a6 : A6) (a7 : A7) (K : A1 → A2 → A3 → A4 → A5 → A6 → A7 → Option ρ) : bd7 (some (a1, a2, a3, a4, a5, a6, a7)) K = K a1 a2 a3 a4 a5 a6 a7 := rfl
theorem bd7_e {A1 A2 A3 A4 A5 A6 A7 ρ : Type} {X : Option (A1 × A2 × A3 × A4 × A5 × A6 × A7)} {a1 : A1} {a2 : A2} {a3 : A3} {a4 : A4} {a5 : A5} {a6 : A6} {a7 : A7} {K : A1 → A2 → A3 → A4 → A5 → A6 → A7 → Option ρ} (h : X = some (a1, a2, a3, a4, a5, a6, a7)) : bd7 X K = K a1 a2 a3 a4 a5 a6 a7 := by rw [h]; rfl
theorem uc7_s {A1 A2 A3 A4 A5 A6 A7 γ : Type} (K : A1 → A2 → A3 → A4 → A5 → A6 → A7 → γ) (a1 : A1) (a2 : A2) (a3 : A3) (a4 : A4) (a5 : A5) (a6 : A6) (a7 : A7) : uc7 K (a1, a2, a3, a4, a5, a6, a7) = K a1 a2 a3 a4 a5 a6 a7 := rfl
theorem bd8_s {A1 A2 A3 A4 A5 A6 A7 A8 ρ : Type} (a1 : A1) (a2 : A2) (a3 : A3) (a4 : A4) (a5 : A5) (a6 : A6) (a7 : A7) (a8 : A8) (K : A1 → A2 → A3 → A4 → A5 → A6 → A7 → A8 → Option ρ) : bd8 (some (a1, a2, a3, a4, a5, a6, a7, a8)) K = K a1 a2 a3 a4 a5 a6 a7 a8 := rfl
theorem bd8_e {A1 A2 A3 A4 A5 A6 A7 A8 ρ : Type} {X : Option (A1 × A2 × A3 × A4 × A5 × A6 × A7 × A8)} {a1 : A1} {a2 : A2} {a3 : A3} {a4 : A4} {a5 : A5} {a6 : A6} {a7 : A7} {a8 : A8} {K : A1 → A2 → A3 → A4 → A5 → A6 → A7 → A8 → Option ρ} (h : X = some (a1, a2, a3, a4, a5, a6, a7, a8)) : bd8 X K = K a1 a2 a3 a4 a5 a6 a7 a8 := by rw [h]; rfl
theorem uc8_s {A1 A2 A3 A4 A5 A6 A7 A8 γ : Type} (K : A1 → A2 → A3 → A4 → A5 → A6 → A7 → A8 → γ) (a1 : A1) (a2 : A2) (a3 : A3) (a4 : A4) (a5 : A5) (a6 : A6) (a7 : A7) (a8 : A8) : uc8 K (a1, a2, a3, a4, a5, a6, a7, a8) = K a1 a2 a3 a4 a5 a6 a7 a8 := rfl
theorem bd9_s {A1 A2 A3 A4 A5 A6 A7 A8 A9 ρ : Type} (a1 : A1) (a2 : A2) (a3 : A3) (a4 : A4) (a5 : A5) (a6 : A6) (a7 : A7) (a8 : A8) (a9 : A9) (K : A1 → A2 → A3 → A4 → A5 → A6 → A7 → A8 → A9 → Option ρ) : bd9 (some (a1, a2, a3, a4, a5, a6, a7, a8, a9)) K = K a1 a2 a3 a4 a5 a6 a7 a8 a9 := rfl
theorem bd9_e {A1 A2 A3 A4 A5 A6 A7 A8 A9 ρ : Type} {X : Option (A1 × A2 × A3 × A4 × A5 × A6 × A7 × A8 × A9)} {a1 : A1} {a2 : A2} {a3 : A3} {a4 : A4} {a5 : A5} {a6 : A6} {a7 : A7} {a8 : A8} {a9 : A9} {K : A1 → A2 → A3 → A4 → A5 → A6 → A7 → A8 → A9 → Option ρ} (h : X = some (a1, a2, a3, a4, a5, a6, a7, a8, a9)) : bd9 X K = K a1 a2 a3 a4 a5 a6 a7 a8 a9 := by rw [h]; rfl
theorem uc9_s {A1 A2 A3 A4 A5 A6 A7 A8 A9 γ : Type} (K : A1 → A2 → A3 → A4 → A5 → A6 → A7 → A8 → A9 → γ) (a1 : A1) (a2 : A2) (a3 : A3) (a4 : A4) (a5 : A5) (a6 : A6) (a7 : A7) (a8 : A8) (a9 : A9) : uc9 K (a1, a2, a3, a4, a5, a6, a7, a8, a9) = K a1 a2 a3 a4 a5 a6 a7 a8 a9 := rfl
theorem bd10_s {A1 A2 A3 A4 A5 A6 A7 A8 A9 A10 ρ : Type} (a1 : A1) (a2 : A2) (a3 : A3) (a4 : A4) (a5 : A5) (a6 : A6) (a7 : A7) (a8 : A8) (a9 : A9) (a10 : A10) (K : A1 → A2 → A3 → A4 → A5 → A6 → A7 → A8 → A9 → A10 → Option ρ) : bd10 (some (a1, a2, a3, a4, a5, a6, a7, a8, a9, a10)) K = K a1 a2 a3 a4 a5 a6 a7 a8 a9 a10 := rfl
theorem bd10_e {A1 A2 A3 A4 A5 A6 A7 A8 A9 A10 ρ : Type} {X : Option (A1 × A2 × A3 × A4 × A5 × A6 × A7 × A8 × A9 × A10)} {a1 : A1} {a2 : A2} {a3 : A3} {a4 : A4} {a5 : A5} {a6 : A6} {a7 : A7} {a8 : A8} {a9 : A9} {a10 : A10} {K : A1 → A2 → A3 → A4 → A5 → A6 → A7 → A8 → A9 → A10 → Option ρ} (h : X = some (a1, a2, a3, a4, a5, a6, a7, a8, a9, a10)) : bd10 X K = K a1 a2 a3 a4 a5 a6 a7 a8 a9 a10 := by rw [h]; rfl
theorem uc10_s {A1 A2 A3 A4 A5 A6 A7 A8 A9 A10 γ : Type} (K : A1 → A2 → A3 → A4 → A5 → A6 → A7 → A8 → A9 → A10 → γ) (a1 : A1) (a2 : A2) (a3 : A3) (a4 : A4) (a5 : A5) (a6 : A6) (a7 : A7) (a8 : A8) (a9 : A9) (a10 : A10) : uc10 K (a1, a2, a3, a4, a5, a6, a7, a8, a9, a10) = K a1 a2 a3 a4 a5 a6 a7 a8 a9 a10 := rfl
theorem bd11_s {A1 A2 A3 A4 A5 A6 A7 A8 A9 A10 A11 ρ : Type} (a1 : A1) (a2 : A2) (a3 : A3) (a4 : A4) (a5 : A5) (a6 : A6) (a7 : A7) (a8 : A8) (a9 : A9) (a10 : A10) (a11 : A11) (K : A1 → A2 → A3 → A4 → A5 → A6 → A7 → A8 → A9 → A10 → A11 → Option ρ) : bd11 (some (a1, a2, a3, a4, a5, a6, a7, a8, a9, a10, a11)) K = K a1 a2 a3 a4 a5 a6 a7 a8 a9 a10 a11 := rfl
theorem bd11_e {A1 A2 A3 A4 A5 A6 A7 A8 A9 A10 A11 ρ : Type} {X : Option (A1 × A2 × A3 × A4 × A5 × A6 × A7 × A8 × A9 × A10 × A11)} {a1 : A1} {a2 : A2} {a3 : A3} {a4 : A4} {a5 : A5} {a6 : A6} {a7 : A7} {a8 : A8} {a9 : A9} {a10 : A10} {a11 : A11} {K : A1 → A2 → A3 → A4 → A5 → A6 → A7 → A8 → A9 → A10 → A11 → Option ρ} (h : X = some (a1, a2, a3, a4, a5, a6, a7, a8, a9, a10, a11)) : bd11 X K = K a1 a2 a3 a4 a5 a6 a7 a8 a9 a10 a11 := by rw [h]; rfl
theorem uc11_s {A1 A2 A3 A4 A5 A6 A7 A8 A9 A10 A11 γ : Type} (K : A1 → A2 → A3 → A4 → A5 → A6 → A7 → A8 → A9 → A10 → A11 → γ) (a1 : A1) (a2 : A2) (a3 : A3) (a4 : A4) (a5 : A5) (a6 : A6) (a7 : A7) (a8 : A8) (a9 : A9) (a10 : A10) (a11 : A11) : uc11 K (a1, a2, a3, a4, a5, a6, a7, a8, a9, a10, a11) = K a1 a2 a3 a4 a5 a6 a7 a8 a9 a10 a11 := rfl
theorem bd12_s {A1 A2 A3 A4 A5 A6 A7 A8 A9 A10 A11 A12 ρ : Type} (a1 : A1) (a2 : A2) (a3 : A3) (a4 : A4) (a5 : A5) (a6 : A6) (a7 : A7) (a8 : A8) (a9 : A9) (a10 : A10) (a11 : A11) (a12 : A12) (K : A1 → A2 → A3 → A4 → A5 → A6 → A7 → A8 → A9 → A10 → A11 → A12 → Option ρ) : bd12 (some (a1, a2, a3, a4, a5, a6, a7, a8, a9, a10, a11, a12)) K = K a1 a2 a3 a4 a5 a6 a7 a8 a9 a10 a11 a12 := rfl
theorem bd12_e {A1 A2 A3 A4 A5 A6 A7 A8 A9 A10 A11 A12 ρ : Type} {X : Option (A1 × A2 × A3 × A4 × A5 × A6 × A7 × A8 × A9 × A10 × A11 × A12)} {a1 : A1} {a2 : A2} {a3 : A3} {a4 : A4} {a5 : A5} {a6 : A6} {a7 : A7} {a8 : A8} {a9 : A9} {a10 : A10} {a11 : A11} {a12 : A12} {K : A1 → A2 → A3 → A4 → A5 → A6 → A7 → A8 → A9 → A10 → A11 → A12 → Option ρ} (h : X = some (a1, a2, a3, a4, a5, a6, a7, a8, a9, a10, a11, a12)) : bd12 X K = K a1 a2 a3 a4 a5 a6 a7 a8 a9 a10 a11 a12 := by rw [h]; rfl
theorem uc12_s {A1 A2 A3 A4 A5 A6 A7 A8 A9 A10 A11 A12 γ : Type} (K : A1 → A2 → A3 → A4 → A5 → A6 → A7 → A8 → A9 → A10 → A11 → A12 → γ) (a1 : A1) (a2 : A2) (a3 : A3) (a4 : A4) (a5 : A5) (a6 : A6) (a7 : A7) (a8 : A8) (a9 : A9) (a10 : A10) (a11 : A11) (a12 : A12) : uc12 K (a1, a2, a3, a4, a5, a6, a7, a8, a9, a10, a11, a12) = K a1 a2 a3 a4 a5 a6 a7 a8 a9 a10 a11 a12 := rfl
theorem bd13_s {A1 A2 A3 A4 A5 A6 A7 A8 A9 A10 A11 A12 A13 ρ : Type} (a1 : A1) (a2 : A2) (a3 : A3) (a4 : A4) (a5 : A5) (a6 : A6) (a7 : A7) (a8 : A8) (a9 : A9) (a10 : A10) (a11 : A11) (a12 : A12) (a13 : A13) (K : A1 → A2 → A3 → A4 → A5 → A6 → A7 → A8 → A9 → A10 → A11 → A12 → A13 → Option ρ) : bd13 (some (a1, a2, a3, a4, a5, a6, a7, a8, a9, a10, a11, a12, a13)) K = K a1 a2 a3 a4 a5 a6 a7 a8 a9 a10 a11 a12 a13 := rfl
theorem bd13_e {A1 A2 A3 A4 A5 A6 A7 A8 A9 A10 A11 A12 A13 ρ : Type} {X : Option (A1 × A2 × A3 × A4 × A5 × A6 × A7 × A8 × A9 × A10 × A11 × A12 × A13)} {a1 : A1} {a2 : A2} {a3 : A3} {a4 : A4} {a5 : A5} {a6 : A6} {a7 : A7} {a8 : A8} {a9 : A9} {a10 : A10} {a11 : A11} {a12 : A12} {a13 : A13} {K : A1 → A2 → A3 → A4 → A5 → A6 → A7 → A8 → A9 → A10 → A11 → A12 → A13 → Option ρ} (h : X = some (a1, a2, a3, a4, a5, a6, a7, a8, a9, a10, a11, a12, a13)) : bd13 X K = K a1 a2 a3 a4 a5 a6 a7 a8 a9 a10 a11 a12 a13 := by rw [h]; rfl
theorem uc13_s {A1 A2 A3 A4 A5 A6 A7 A8 A9 A10 A11 A12 A13 γ : Type} (K : A1 → A2 → A3 → A4 → A5 → A6 → A7 → A8 → A9 → A10 → A11 → A12 → A13 → γ) (a1 : A1) (a2 : A2) (a3 : A3) (a4 : A4) (a5 : A5) (a6 : A6) (a7 : A7) (a8 : A8) (a9 : A9) (a10 : A10) (a11 : A11) (a12 : A12) (a13 : A13) : uc13 K (a1, a2, a3, a4, a5, a6, a7, a8, a9, a10, a11, a12, a13) = K a1 a2 a3 a4 a5 a6 a7 a8 a9 a10 a11 a12 a13 := rfl
theorem uc0_s {γ : Type} (K : γ) (x : Unit) : uc0 K x = K := rfl
theorem nm_s {α ρ : Type} (v : α) (K : α → Option ρ) : nm v K = K v := rfl
theorem bdS2_1 {A B ρ : Type} (a : A) (K1 : A → Option ρ) (K2 : B → Option ρ) : bdS2 (some (.inl a)) K1 K2 = K1 a := rfl
theorem bdS2_2 {A B ρ : Type} (a : B) (K1 : A → Option ρ) (K2 : B → Option ρ) : bdS2 (some (.inr a)) K1 K2 = K2 a := rfl
theorem gb_0 {ρ : Type} (X : Option ρ) : gb 0 X = X := rfl
theorem gb_1 {ρ : Type} (X : Option ρ) : gb 1 X = X := rfl
theorem gd_nI {ρ : Type} {k N : Nat} {X : Option ρ} (h : k < N) (hN : N < 2 ^ 31) : gd (nI k) N X = X := if_neg (nI_in h hN)
theorem gz_nI {ρ : Type} {k : Nat} {X : Option ρ} (h : 0 < k) (hN : k < 2 ^ 31) : gz (nI k) X = X := if_neg (nI_ne0 h hN)
theorem tc_eq {ρ : Type} (k : Nat) (X Y : Option ρ) : tc k k X Y = X := if_pos rfl
theorem tc_ne {ρ : Type} {j k : Nat} (X Y : Option ρ) (h : ¬ j = k) : tc j k X Y = Y := if_neg h
theorem tsw_in {ρ : Type} {k : Nat} {lo hi : Int} {X : Nat → Option ρ} {D : Option ρ} (hk : k < 2 ^ 31) (h1 : lo ≤ (k : Int)) (h2 : (k : Int) ≤ hi) : tsw (nI k) lo hi X D = X ((k : Int) - lo).toNat := by
  unfold tsw
  rw [nI_toInt hk, if_neg (by omega)]
theorem tsw_out {ρ : Type} {k : Nat} {lo hi : Int} {X : Nat → Option ρ} {D : Option ρ} (hk : k < 2 ^ 31) (h : (k : Int) < lo ∨ hi < (k : Int)) : tsw (nI k) lo hi X D = D := by
  unfold tsw
  rw [nI_toInt hk, if_pos h]
/-- a counting loop: the states S 0, S 1, .. S n, and the exit from S n -/
theorem lp_seq {σ α : Type} {body : σ → Option (σ ⊕ α)} (S : Nat → σ) {a : α} (n : Nat) (hs : ∀ j, j < n → body (S j) = some (.inl (S (j + 1)))) (he : body (S n) = some (.inr a)) {F : Nat} (hF : n < F) : lp body F (S 0) = some a := by
  have key : ∀ (d m F : Nat), m + d = n → d < F → lp body F (S m) = some a := by
    intro d
    induction d with
    | zero =>
      intro m F h hF
      have h : m = n := by omega
      subst h
      cases F with
      | zero => omega
      | succ F => unfold lp; rw [he]
    | succ d ih =>
      intro m F h hF
      cases F with
      | zero => omega
      | succ F =>
        unfold lp
        rw [hs m (by omega)]
        exact ih (m + 1) F (by omega) (by omega)
  exact key n 0 F (by omega) hF
/-- any loop with a measure -/
theorem lp_run {σ α : Type} {body : σ → Option (σ ⊕ α)} (P : σ → Prop) (μ : σ → Nat) (Q : α → Prop) (hs : ∀ x, P x → (∃ x', body x = some (.inl x') ∧ P x' ∧ μ x' < μ x) ∨ (∃ a, body x = some (.inr a) ∧ Q a)) : ∀ {F : Nat} {x : σ}, P x → μ x < F → ∃ a, lp body F x = some a ∧ Q a := by
  intro F
  induction F with
  | zero => intro x _ h; omega
  | succ F ih =>
    intro x hP hm
    rcases hs x hP with ⟨x', h1, h2, h3⟩ | ⟨a, h1, h2⟩
    · obtain ⟨a, q1, q2⟩ := ih (x := x') h2 (by omega)
      exact ⟨a, by unfold lp; rw [h1]; exact q1, q2⟩
    · exact ⟨a, by unfold lp; rw [h1], h2⟩
theorem m1_L : (-1 : Int64) = lN 18446744073709551615 := by decide +kernel
theorem m1_I : (-1 : Int32) = nI 4294967295 := by decide +kernel
def sdf (a b : Nat) : Nat := a &&& (b ^^^ 18446744073709551615)
theorem lN_sdf (a b : Nat) : lN a &&& (lN b ^^^ (-1 : Int64)) = lN (sdf a b) := by rw [m1_L, fb_xorL, fb_andL]; rfl
theorem tb_big {a n i : Nat} (h : a < 2 ^ n) (hi : n ≤ i) : a.testBit i = false := Nat.testBit_lt_two_pow (Nat.lt_of_lt_of_le h (Nat.pow_le_pow_right (by decide) hi))
theorem sdf_tb {a : Nat} (b i : Nat) (h : a < 2 ^ 64) : (sdf a b).testBit i = (a.testBit i && !b.testBit i) := by
  unfold sdf
  rw [Nat.testBit_and, Nat.testBit_xor, show (18446744073709551615 : Nat) = 2 ^ 64 - 1 from rfl, Nat.testBit_two_pow_sub_one]
  rcases Nat.lt_or_ge i 64 with q | q
  · simp [q]
  · rw [tb_big h q]; simp
theorem sdf_lt {a n : Nat} (b : Nat) (h : a < 2 ^ n) : sdf a b < 2 ^ n := by
  unfold sdf
  rw [Nat.and_comm]
  exact Nat.and_lt_two_pow _ h
theorem lush_N {a k : Nat} (ha : a < 2 ^ 64) (hk : k < 64) : lush (lN a) (nI k) = lN (a / 2 ^ k) := wb_shr ha hk
theorem lN_inj62 {a b : Nat} (ha : a < 2 ^ 63) (hb : b < 2 ^ 63) : lN a = lN b ↔ a = b := fb_lN_inj ha hb
theorem cmp0 {a b : Nat} (ha : a < 2 ^ 63) (hb : b < 2 ^ 63) : (lg_cmp (lN a) (lN b) = 0) ↔ a = b := by rw [lg_cmp_eq]; exact fb_lN_inj ha hb
theorem lshr_sm : ∀ k, k < 64 → (((nI k).toInt64 &&& 63).toBitVec.smod 64).toNat = k := by decide +kernel
theorem lshr_N {a k : Nat} (ha : a < 2 ^ 62) (hk : k < 64) : lN a >>> ((nI k).toInt64 &&& 63) = lN (a / 2 ^ k) := pf_shr (lshr_sm k hk) ha
/-- the set of the i < n with p i -/
def bs (p : Nat → Bool) : Nat → Nat
  | 0 => 0
  | n + 1 => bs p n ||| (if p n then 2 ^ n else 0)
theorem bs_tb (p : Nat → Bool) : ∀ n i, (bs p n).testBit i = (decide (i < n) && p i)
  | 0, i => by simp [bs]
  | n + 1, i => by
    rw [bs, Nat.testBit_or, bs_tb p n i]
    by_cases h : p n = true
    · rw [if_pos h, Nat.testBit_two_pow]
      by_cases e : n = i
      · subst e; simp [h]
      · have : (i < n + 1) = (i < n) := by apply propext; omega
        simp [e, this]
    · rw [if_neg h]
      by_cases e : n = i
      · subst e; simp [h]
      · have : (i < n + 1) = (i < n) := by apply propext; omega
        simp [this]
theorem bs_lt (p : Nat → Bool) (n : Nat) : bs p n < 2 ^ n := Nat.lt_pow_two_of_testBit _ (fun i hi => by rw [bs_tb, decide_eq_false (by omega)]; rfl)
theorem bs_lt2 (p : Nat → Bool) {n m : Nat} (h : n ≤ m) : bs p n < 2 ^ m := Nat.lt_of_lt_of_le (bs_lt p n) (Nat.pow_le_pow_right (by decide) h)
theorem tb_ext {x y n : Nat} (hx : x < 2 ^ n) (hy : y < 2 ^ n) (h : ∀ i, i < n → x.testBit i = y.testBit i) : x = y := Nat.eq_of_testBit_eq (fun i => by
  rcases Nat.lt_or_ge i n with q | q
  · exact h i q
  · rw [tb_big hx q, tb_big hy q])
theorem bs_cong {p q : Nat → Bool} {n : Nat} (h : ∀ i, i < n → p i = q i) : bs p n = bs q n := tb_ext (bs_lt p n) (bs_lt q n) (fun i hi => by rw [bs_tb, bs_tb, h i hi])
theorem tb_pow_iff (n i : Nat) : (2 ^ n).testBit i = decide (n = i) := Nat.testBit_two_pow
theorem one_shl {k : Nat} (hk : k < 64) : (1 : Int64) <<< ((nI k).toInt64 &&& 63) = lN (2 ^ k) := by
  rw [show (1 : Int64) = lN 1 from rfl, wb_shl 1 hk, Nat.one_mul]
theorem one_shl_m1 {k : Nat} (hk : k < 64) : (1 : Int64) <<< ((nI k).toInt64 &&& 63) - (1 : Int64) = lN (2 ^ k - 1) := by
  rw [one_shl hk, show (1 : Int64) = lN 1 from rfl, lN_sub (Nat.two_pow_pos k)]
theorem one_shlI : ∀ k, k < 31 → (1 : Int32) <<< (nI k &&& 31) = nI (2 ^ k) := by decide +kernel
def lA (N : Nat → Nat) : Nat → Int64 := fun k => lN (N k)
def upN (N : Nat → Nat) (k v : Nat) : Nat → Nat := fun j => if j = k then v else N j
theorem lA_upd (N : Nat → Nat) (k v : Nat) : vp_updL (lA N) k (lN v) = lA (upN N k v) := by
  funext j
  unfold vp_updL lA upN
  by_cases h : j = k
  · rw [if_pos h, if_pos h]
  · rw [if_neg h, if_neg h]
theorem lA_at (N : Nat → Nat) (k : Nat) : lA N k = lN (N k) := rfl
theorem upN_s (N : Nat → Nat) (k v : Nat) : upN N k v k = v := if_pos rfl
theorem upN_n {N : Nat → Nat} {k v j : Nat} (h : ¬ j = k) : upN N k v j = N j := if_neg h
theorem isIn_nI {a b : Nat} (ha : a < 2 ^ 31) (hb : b < 31) : fX5_isIn (nI a) (nI b) = some (if a.testBit b then 1 else 0) := by
  unfold fX5_isIn
  have e : nI a >>> (nI b &&& 31) &&& (1 : Int32) = nI (a / 2 ^ b % 2) := by
    apply b_ext
    intro i hi
    have hn : ∀ (n j : Nat), j < 32 → bt (nI n) j = n.testBit j := fun n j hj => by
      show (BitVec.ofNat 32 n).getLsbD j = _
      rw [BitVec.getLsbD_ofNat]; simp [hj]
    rw [b_and, b_sshr b (by omega) _ hi, show (1 : Int32) = nI 1 from rfl, hn _ _ hi, hn _ _ hi]
    have h1 : (a / 2 ^ b % 2).testBit i = (decide (i = 0) && a.testBit b) := by
      rw [show (2 : Nat) = 2 ^ 1 from rfl, Nat.testBit_mod_two_pow, Nat.testBit_div_two_pow]
      by_cases e : i = 0
      · subst e; simp
      · have : ¬ i < 1 := by omega
        simp [e, this]
    rw [h1]
    by_cases e : i = 0
    · subst e
      rw [if_pos (by omega), hn _ _ (by omega)]
      simp
    · have : Nat.testBit 1 i = false := by
        rw [show (1 : Nat) = 2 ^ 0 from rfl, Nat.testBit_two_pow]; simp; omega
      rw [this]; simp [e]
  rw [e]
  by_cases h : a.testBit b = true
  · have : a / 2 ^ b % 2 = 1 := by simpa [Nat.testBit_eq_decide_div_mod_eq] using h
    rw [this, if_pos h]; rfl
  · have : a / 2 ^ b % 2 = 0 := by
      have := mt (fun q => by simpa [Nat.testBit_eq_decide_div_mod_eq] using q : a / 2 ^ b % 2 = 1 → a.testBit b = true) h
      omega
    rw [this, if_neg h]; rfl
theorem il_0 : (0 : Int32) = nI 0 := rfl
theorem il_1 : (1 : Int32) = nI 1 := rfl
theorem il_2 : (2 : Int32) = nI 2 := rfl
theorem il_3 : (3 : Int32) = nI 3 := rfl
theorem il_4 : (4 : Int32) = nI 4 := rfl
theorem il_5 : (5 : Int32) = nI 5 := rfl
theorem il_6 : (6 : Int32) = nI 6 := rfl
theorem il_7 : (7 : Int32) = nI 7 := rfl
theorem il_8 : (8 : Int32) = nI 8 := rfl
theorem il_9 : (9 : Int32) = nI 9 := rfl
theorem il_10 : (10 : Int32) = nI 10 := rfl
theorem il_11 : (11 : Int32) = nI 11 := rfl
theorem il_12 : (12 : Int32) = nI 12 := rfl
theorem il_13 : (13 : Int32) = nI 13 := rfl
theorem il_14 : (14 : Int32) = nI 14 := rfl
theorem il_15 : (15 : Int32) = nI 15 := rfl
theorem il_16 : (16 : Int32) = nI 16 := rfl
theorem il_17 : (17 : Int32) = nI 17 := rfl
theorem il_18 : (18 : Int32) = nI 18 := rfl
theorem il_19 : (19 : Int32) = nI 19 := rfl
theorem il_20 : (20 : Int32) = nI 20 := rfl
theorem il_21 : (21 : Int32) = nI 21 := rfl
theorem il_22 : (22 : Int32) = nI 22 := rfl
theorem il_23 : (23 : Int32) = nI 23 := rfl
theorem il_24 : (24 : Int32) = nI 24 := rfl
theorem il_25 : (25 : Int32) = nI 25 := rfl
theorem il_26 : (26 : Int32) = nI 26 := rfl
theorem il_27 : (27 : Int32) = nI 27 := rfl
theorem il_28 : (28 : Int32) = nI 28 := rfl
theorem il_29 : (29 : Int32) = nI 29 := rfl
theorem il_30 : (30 : Int32) = nI 30 := rfl
theorem il_31 : (31 : Int32) = nI 31 := rfl
theorem il_32 : (32 : Int32) = nI 32 := rfl
theorem il_39 : (39 : Int32) = nI 39 := rfl
theorem il_40 : (40 : Int32) = nI 40 := rfl
theorem il_42 : (42 : Int32) = nI 42 := rfl
theorem il_48 : (48 : Int32) = nI 48 := rfl
theorem il_50 : (50 : Int32) = nI 50 := rfl
theorem il_52 : (52 : Int32) = nI 52 := rfl
theorem il_57 : (57 : Int32) = nI 57 := rfl
theorem il_59 : (59 : Int32) = nI 59 := rfl
theorem il_60 : (60 : Int32) = nI 60 := rfl
theorem il_61 : (61 : Int32) = nI 61 := rfl
theorem il_63 : (63 : Int32) = nI 63 := rfl
theorem il_64 : (64 : Int32) = nI 64 := rfl
theorem il_96 : (96 : Int32) = nI 96 := rfl
theorem il_97 : (97 : Int32) = nI 97 := rfl
theorem il_99 : (99 : Int32) = nI 99 := rfl
theorem il_100 : (100 : Int32) = nI 100 := rfl
theorem il_122 : (122 : Int32) = nI 122 := rfl
theorem il_127 : (127 : Int32) = nI 127 := rfl
theorem il_150 : (150 : Int32) = nI 150 := rfl
theorem il_160 : (160 : Int32) = nI 160 := rfl
theorem il_300 : (300 : Int32) = nI 300 := rfl
theorem il_400 : (400 : Int32) = nI 400 := rfl
theorem il_999 : (999 : Int32) = nI 999 := rfl
theorem il_1000 : (1000 : Int32) = nI 1000 := rfl
theorem il_1000000 : (1000000 : Int32) = nI 1000000 := rfl
theorem ll_0 : (0 : Int64) = lN 0 := rfl
theorem ll_1 : (1 : Int64) = lN 1 := rfl
theorem ll_2 : (2 : Int64) = lN 2 := rfl
theorem ll_3 : (3 : Int64) = lN 3 := rfl
theorem ll_4 : (4 : Int64) = lN 4 := rfl
theorem ll_5 : (5 : Int64) = lN 5 := rfl
theorem ll_6 : (6 : Int64) = lN 6 := rfl
theorem ll_7 : (7 : Int64) = lN 7 := rfl
theorem ll_8 : (8 : Int64) = lN 8 := rfl
theorem ll_31 : (31 : Int64) = lN 31 := rfl
theorem ll_32 : (32 : Int64) = lN 32 := rfl
theorem ll_63 : (63 : Int64) = lN 63 := rfl
theorem ll_96 : (96 : Int64) = lN 96 := rfl
theorem ll_401698 : (401698 : Int64) = lN 401698 := rfl
theorem ll_17092712 : (17092712 : Int64) = lN 17092712 := rfl
theorem ll_525908 : (525908 : Int64) = lN 525908 := rfl
theorem ll_402891 : (402891 : Int64) = lN 402891 := rfl
theorem ll_17479784 : (17479784 : Int64) = lN 17479784 := rfl
theorem ll_71108 : (71108 : Int64) = lN 71108 := rfl
theorem ll_17171557 : (17171557 : Int64) = lN 17171557 := rfl
theorem ll_536622 : (536622 : Int64) = lN 536622 := rfl
theorem ll_17084916 : (17084916 : Int64) = lN 17084916 := rfl
theorem ll_659111269 : (659111269 : Int64) = lN 659111269 := rfl
theorem shI {k : Nat} (h : k < 31) : nI 1 <<< (nI k &&& nI 31) = nI (2 ^ k) := one_shlI k h
theorem shL (n : Nat) {k : Nat} (h : k < 64) : lN n <<< ((nI k).toInt64 &&& lN 63) = lN (n * 2 ^ k) := wb_shl n h
theorem srL {a k : Nat} (ha : a < 2 ^ 62) (hk : k < 64) : lN a >>> ((nI k).toInt64 &&& lN 63) = lN (a / 2 ^ k) := lshr_N ha hk
theorem sdL (a b : Nat) : lN a &&& (lN b ^^^ -(lN 1)) = lN (sdf a b) := lN_sdf a b
theorem subL1 {a : Nat} (h : 1 ≤ a) : lN a - lN 1 = lN (a - 1) := lN_sub h
theorem cmpL {a b : Nat} (ha : a < 2 ^ 63) (hb : b < 2 ^ 63) : (lg_cmp (lN a) (lN b) = nI 0) ↔ a = b := cmp0 ha hb
theorem isInN {a b : Nat} (ha : a < 2 ^ 31) (hb : b < 31) : fX5_isIn (nI a) (nI b) = some (if a.testBit b then nI 1 else nI 0) := isIn_nI ha hb
theorem neI {a : Nat} (h : a < 2 ^ 31) : (nI a = -(nI 1)) ↔ False := by
  constructor
  · intro e
    have h1 := nI_toInt h
    rw [e] at h1
    have h2 : (-(nI 1) : Int32).toInt = -1 := by decide +kernel
    omega
  · intro e; exact e.elim
theorem neI2 {a : Nat} (h : a < 2 ^ 31) : (-(nI 1) = nI a) ↔ False := by
  rw [eq_comm]; exact neI h
theorem ltN1 {a : Nat} (h : a < 2 ^ 31) : (-(nI 1) < nI a) ↔ True := by
  constructor
  · intro _; trivial
  · intro _
    rw [fa_lt, nI_toInt h]
    have h2 : (-(nI 1) : Int32).toInt = -1 := by decide +kernel
    omega
theorem leN1 {a : Nat} (h : a < 2 ^ 31) : (nI a ≤ -(nI 1)) ↔ False := by
  constructor
  · intro e
    rw [fa_le, nI_toInt h] at e
    have h2 : (-(nI 1) : Int32).toInt = -1 := by decide +kernel
    omega
  · intro e; exact e.elim
theorem gbN0 {ρ : Type} (X : Option ρ) : gb (nI 0) X = X := rfl
theorem gbN1 {ρ : Type} (X : Option ρ) : gb (nI 1) X = X := rfl
theorem gbB {ρ : Type} {c : Prop} [Decidable c] (X : Option ρ) : gb (if c then nI 1 else nI 0) X = X := by split <;> rfl
theorem eqB0 {c : Prop} [Decidable c] : ((if c then nI 1 else nI 0) = nI 0) ↔ ¬ c := by
  by_cases h : c
  · rw [if_pos h]; exact ⟨fun e => absurd e (by decide +kernel), fun e => absurd h e⟩
  · rw [if_neg h]; exact ⟨fun _ => h, fun _ => rfl⟩
theorem eqB1 {c : Prop} [Decidable c] : ((if c then nI 1 else nI 0) = nI 1) ↔ c := by
  by_cases h : c
  · rw [if_pos h]; exact ⟨fun _ => h, fun _ => rfl⟩
  · rw [if_neg h]; exact ⟨fun e => absurd e (by decide +kernel), fun e => absurd e h⟩
theorem tswN {ρ : Type} {k : Nat} {n : Nat} {X : Nat → Option ρ} {D : Option ρ} (hk : k < 2 ^ 31) (h2 : k ≤ n) : tsw (nI k) 0 (n : Int) X D = X k := by
  rw [tsw_in hk (by omega) (by omega)]
  congr 1
