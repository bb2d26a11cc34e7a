theorem lk_d05d3c57 : Cond.initialized yL_low.cls ∈ GW := GW_of 17 (by decide +kernel) (by decide +kernel)
theorem lk_d22acedf : Cond.initialized yL_mark.cls ∈ GW := GW_of 17 (by decide +kernel) (by decide +kernel)
theorem lk_ec621e3c : Cond.methodLink RL 98 yL_low ∈ GW := GW_of 338 (by decide +kernel) (by decide +kernel)
theorem lk_49b37618 : Cond.static yL_low ∈ GW := GW_of 339 (by decide +kernel) (by decide +kernel)
theorem lk_75682ede : Cond.code yL_low cL_low 2 (some .int) ∈ GW := GW_of 340 (by decide +kernel) (by decide +kernel)
theorem lk_26d4e68b : Cond.methodLink RL 101 yL_mark ∈ GW := GW_of 630 (by decide +kernel) (by decide +kernel)
theorem lk_a940baa3 : Cond.static yL_mark ∈ GW := GW_of 631 (by decide +kernel) (by decide +kernel)
theorem lk_30afb96c : Cond.codeWith yL_mark cL_mark 7 (some .int) [(0, 11, 12, 15)] ∈ GW := GW_of 632 (by decide +kernel) (by decide +kernel)
abbrev rmL_marks : Room := { frames := 10, cells := 3, slots := 18, locals := 356 }
theorem hsL_marks : yL_marks.cls ≠ "java/lang/invoke/MethodHandle" ∧ yL_marks.cls ≠ "java/lang/invoke/VarHandle" ∧ (parseMethodDescriptor yL_marks.desc).map (fun d => d.parameters.length) = some 3 := by decide +kernel
set_option maxRecDepth 100000 in
set_option maxHeartbeats 4000000 in
theorem kL_marks {Θ : Tht} {KE : (Nat → Nat) × (Nat → Nat)} {ad : Nat → Nat} {F : Nat} {o_c : CSt} {a1 : Int32} {a2 : Int32} {ro : Int32} {c2 : CSt} (hST : Θ.1.stackTraces = false) (hf : fL_marks F o_c a1 a2 = some (ro, c2)) : FC Θ KE 3 18 yL_marks (Cond.code yL_marks cL_marks 9 (some .boolean) :: GW) rmL_marks [.ref (ad 0), .int a1, .int a2] (wC Θ ad o_c) (some (.int ro)) (wC Θ ad c2) := by
  delta fL_marks at hf
  refine FC.ofK (by decide +kernel) rfl (Nat.le_of_ble_eq_true rfl) (fun p e s m args below meth c A Q G K E => ?_)
  show sw Θ p e rmL_marks s m args below meth c A Q 9 0 0 0 [(0, .ref (ad 0)), (1, .int a1), (2, .int a2)] [] (wC Θ ad o_c)
  refine sw_iload_n 0 G dL_marks_0 1 rfl ?_
  refine sw_aload_n 1 G dL_marks_1 0 rfl ?_
  refine sw_iconst 2 G (0 : Int32) dL_marks_2 rfl ?_
  obtain ⟨r1, hg, hf⟩ := bd1_some hf
  refine sw_callVA 3 G E 1 dL_marks_3 (kG_whole hg) (gwV lk_2847ce46 lk_00a700e4 lk_1397dd5c lk_5f14f758 lk_141fdf1b) rfl hvL_whole ⟨rfl, rfl⟩ ⟨Nat.le_of_ble_eq_true rfl, Nat.le_of_ble_eq_true rfl⟩ ⟨Nat.le_of_ble_eq_true rfl, Nat.le_of_ble_eq_true rfl⟩ rfl rfl (Nat.le_of_ble_eq_true rfl) 0 rfl vc5 rfl ?_
  obtain ⟨r2, hg, hf⟩ := bd1_some hf
  refine sw_callSW 6 G 2 dL_marks_6 (Fn.any _ (kL_low Θ a1 r1 r2 hg)) (gwS lk_ec621e3c lk_49b37618 lk_d05d3c57 lk_75682ede) rfl hsL_low ⟨rfl, rfl⟩ ⟨Nat.le_of_ble_eq_true rfl, Nat.le_of_ble_eq_true rfl⟩ ⟨Nat.le_of_ble_eq_true rfl, Nat.le_of_ble_eq_true rfl⟩ rfl rfl (Nat.le_of_ble_eq_true rfl) ?_
  refine sw_istore_n 9 G [(3, .int r2), (0, .ref (ad 0)), (1, .int a1), (2, .int a2)] dL_marks_9 (by decide) rfl ?_
  refine sw_iload_n 10 G dL_marks_10 2 rfl ?_
  refine sw_bipush 11 G (16 : Int32) dL_marks_11 rfl ?_
  refine sw_idiv 13 G dL_marks_13 hf (fun hf => ?_)
  refine sw_aload_n 14 G dL_marks_14 1 rfl ?_
  refine sw_iconst 15 G (1 : Int32) dL_marks_15 rfl ?_
  obtain ⟨r3, hg, hf⟩ := bd1_some hf
  refine sw_callVA 16 G E 1 dL_marks_16 (kG_whole hg) (gwV lk_2847ce46 lk_00a700e4 lk_1397dd5c lk_5f14f758 lk_141fdf1b) rfl hvL_whole ⟨rfl, rfl⟩ ⟨Nat.le_of_ble_eq_true rfl, Nat.le_of_ble_eq_true rfl⟩ ⟨Nat.le_of_ble_eq_true rfl, Nat.le_of_ble_eq_true rfl⟩ rfl rfl (Nat.le_of_ble_eq_true rfl) 0 rfl vc5 rfl ?_
  obtain ⟨r4, hg, hf⟩ := bd1_some hf
  refine sw_callSW 19 G 2 dL_marks_19 (Fn.any _ (kL_low Θ (a1 / (16 : Int32)) r3 r4 hg)) (gwS lk_ec621e3c lk_49b37618 lk_d05d3c57 lk_75682ede) rfl hsL_low ⟨rfl, rfl⟩ ⟨Nat.le_of_ble_eq_true rfl, Nat.le_of_ble_eq_true rfl⟩ ⟨Nat.le_of_ble_eq_true rfl, Nat.le_of_ble_eq_true rfl⟩ rfl rfl (Nat.le_of_ble_eq_true rfl) ?_
  refine sw_istore 22 G [(4, .int r4), (3, .int r2), (0, .ref (ad 0)), (1, .int a1), (2, .int a2)] dL_marks_22 (by decide) rfl ?_
  refine sw_iconst 24 G (1 : Int32) dL_marks_24 rfl ?_
  refine sw_iload_n 25 G dL_marks_25 4 rfl ?_
  refine sw_aload_n 26 G dL_marks_26 2 rfl ?_
  refine sw_iconst 27 G (0 : Int32) dL_marks_27 rfl ?_
  obtain ⟨r5, hg, hf⟩ := bd1_some hf
  refine sw_callVA 28 G E 1 dL_marks_28 (kG_whole hg) (gwV lk_2847ce46 lk_00a700e4 lk_1397dd5c lk_5f14f758 lk_141fdf1b) rfl hvL_whole ⟨rfl, rfl⟩ ⟨Nat.le_of_ble_eq_true rfl, Nat.le_of_ble_eq_true rfl⟩ ⟨Nat.le_of_ble_eq_true rfl, Nat.le_of_ble_eq_true rfl⟩ rfl rfl (Nat.le_of_ble_eq_true rfl) 0 rfl vc5 rfl ?_
  refine sw_iload_n 31 G dL_marks_31 1 rfl ?_
  refine sw_isub 32 G dL_marks_32 ?_
  obtain ⟨r6, hg, hf⟩ := bd1_some hf
  refine sw_callSW 33 G 2 dL_marks_33 (Fn.any _ (kL_low Θ a2 (r5 - r2) r6 hg)) (gwS lk_ec621e3c lk_49b37618 lk_d05d3c57 lk_75682ede) rfl hsL_low ⟨rfl, rfl⟩ ⟨Nat.le_of_ble_eq_true rfl, Nat.le_of_ble_eq_true rfl⟩ ⟨Nat.le_of_ble_eq_true rfl, Nat.le_of_ble_eq_true rfl⟩ rfl rfl (Nat.le_of_ble_eq_true rfl) ?_
  refine sw_iadd 36 G dL_marks_36 ?_
  refine sw_nmi hf (fun v7 hf => ?_)
  refine sw_istore 37 G [(5, .int v7), (4, .int r4), (3, .int r2), (0, .ref (ad 0)), (1, .int a1), (2, .int a2)] dL_marks_37 (by decide) rfl ?_
  refine sw_iconst 39 G (1 : Int32) dL_marks_39 rfl ?_
  refine sw_iload_n 40 G dL_marks_40 5 rfl ?_
  refine sw_bipush 41 G (16 : Int32) dL_marks_41 rfl ?_
  refine sw_idiv 43 G dL_marks_43 hf (fun hf => ?_)
  refine sw_aload_n 44 G dL_marks_44 3 rfl ?_
  refine sw_iconst 45 G (1 : Int32) dL_marks_45 rfl ?_
  obtain ⟨r8, hg, hf⟩ := bd1_some hf
  refine sw_callVA 46 G E 1 dL_marks_46 (kG_whole hg) (gwV lk_2847ce46 lk_00a700e4 lk_1397dd5c lk_5f14f758 lk_141fdf1b) rfl hvL_whole ⟨rfl, rfl⟩ ⟨Nat.le_of_ble_eq_true rfl, Nat.le_of_ble_eq_true rfl⟩ ⟨Nat.le_of_ble_eq_true rfl, Nat.le_of_ble_eq_true rfl⟩ rfl rfl (Nat.le_of_ble_eq_true rfl) 0 rfl vc5 rfl ?_
  refine sw_iload 49 G dL_marks_49 1 rfl ?_
  refine sw_isub 51 G dL_marks_51 ?_
  obtain ⟨r9, hg, hf⟩ := bd1_some hf
  refine sw_callSW 52 G 2 dL_marks_52 (Fn.any _ (kL_low Θ (a2 / (16 : Int32)) (r8 - r4) r9 hg)) (gwS lk_ec621e3c lk_49b37618 lk_d05d3c57 lk_75682ede) rfl hsL_low ⟨rfl, rfl⟩ ⟨Nat.le_of_ble_eq_true rfl, Nat.le_of_ble_eq_true rfl⟩ ⟨Nat.le_of_ble_eq_true rfl, Nat.le_of_ble_eq_true rfl⟩ rfl rfl (Nat.le_of_ble_eq_true rfl) ?_
  refine sw_iadd 55 G dL_marks_55 ?_
  refine sw_nmi hf (fun v10 hf => ?_)
  refine sw_istore 56 G [(6, .int v10), (5, .int v7), (4, .int r4), (3, .int r2), (0, .ref (ad 0)), (1, .int a1), (2, .int a2)] dL_marks_56 (by decide) rfl ?_
  refine sw_iload_n 58 G dL_marks_58 6 rfl ?_
  refine sw_sipush 59 G (256 : Int32) dL_marks_59 rfl ?_
  refine sw_idiv 62 G dL_marks_62 hf (fun hf => ?_)
  refine sw_iconst 63 G (3 : Int32) dL_marks_63 rfl ?_
  obtain ⟨r11, hg, hf⟩ := bd1_some hf
  refine sw_callSW 64 G 2 dL_marks_64 (Fn.any _ (kL_low Θ (a2 / (256 : Int32)) (3 : Int32) r11 hg)) (gwS lk_ec621e3c lk_49b37618 lk_d05d3c57 lk_75682ede) rfl hsL_low ⟨rfl, rfl⟩ ⟨Nat.le_of_ble_eq_true rfl, Nat.le_of_ble_eq_true rfl⟩ ⟨Nat.le_of_ble_eq_true rfl, Nat.le_of_ble_eq_true rfl⟩ rfl rfl (Nat.le_of_ble_eq_true rfl) ?_
  refine sw_istore 67 G [(7, .int r11), (6, .int v10), (5, .int v7), (4, .int r4), (3, .int r2), (0, .ref (ad 0)), (1, .int a1), (2, .int a2)] dL_marks_67 (by decide) rfl ?_
  refine sw_aload_n 69 G dL_marks_69 5 rfl ?_
  refine sw_iload_n 70 G dL_marks_70 4 rfl ?_
  refine sw_iload 71 G dL_marks_71 3 rfl ?_
  refine sw_iload 73 G dL_marks_73 2 rfl ?_
  refine sw_iload 75 G dL_marks_75 1 rfl ?_
  refine sw_iload 77 G dL_marks_77 0 rfl ?_
  obtain ⟨r12, u13, hg, hf⟩ := bd2_some hf
  refine sw_callSH 79 G E 6 dL_marks_79 (kL_mark hST hg) (gwH lk_26d4e68b lk_a940baa3 lk_d22acedf lk_30afb96c) rfl hsL_mark ⟨rfl, rfl⟩ ⟨Nat.le_of_ble_eq_true rfl, Nat.le_of_ble_eq_true rfl⟩ ⟨Nat.le_of_ble_eq_true rfl, Nat.le_of_ble_eq_true rfl⟩ rfl rfl (Nat.le_of_ble_eq_true rfl) ?_
  refine sw_istore 82 G [(8, .int r12), (7, .int r11), (6, .int v10), (5, .int v7), (4, .int r4), (3, .int r2), (0, .ref (ad 0)), (1, .int a1), (2, .int a2)] dL_marks_82 (by decide) rfl ?_
  refine sw_iload 84 G dL_marks_84 0 rfl ?_
  refine sw_if_lt 86 143 G dL_marks_86 rfl hf (fun hf => ?_) (fun hf => ?_)
  · refine sw_iconst 143 G (0 : Int32) dL_marks_143 rfl ?_
    cases hf
    exact sw_zretC 144 G dL_marks_144 K rfl (Nat.le_of_ble_eq_true rfl) (Nat.le_of_ble_eq_true rfl)
  · refine sw_iload 89 G dL_marks_89 0 rfl ?_
    refine sw_iload 91 G dL_marks_91 3 rfl ?_
    refine sw_iload 93 G dL_marks_93 2 rfl ?_
    refine sw_imul 95 G dL_marks_95 ?_
    refine sw_icmp_gt 96 143 G dL_marks_96 rfl hf (fun hf => ?_) (fun hf => ?_)
    · refine sw_iconst 143 G (0 : Int32) dL_marks_143 rfl ?_
      cases hf
      exact sw_zretC 144 G dL_marks_144 K rfl (Nat.le_of_ble_eq_true rfl) (Nat.le_of_ble_eq_true rfl)
    · refine sw_aload_n 99 G dL_marks_99 6 rfl ?_
      refine sw_iload_n 100 G dL_marks_100 5 rfl ?_
      refine sw_iload 101 G dL_marks_101 4 rfl ?_
      refine sw_iload 103 G dL_marks_103 3 rfl ?_
      refine sw_iload 105 G dL_marks_105 2 rfl ?_
      refine sw_iload 107 G dL_marks_107 1 rfl ?_
      obtain ⟨r14, u15, hg, hf⟩ := bd2_some hf
      refine sw_callSH 109 G E 6 dL_marks_109 (kL_mark hST hg) (gwH lk_26d4e68b lk_a940baa3 lk_d22acedf lk_30afb96c) rfl hsL_mark ⟨rfl, rfl⟩ ⟨Nat.le_of_ble_eq_true rfl, Nat.le_of_ble_eq_true rfl⟩ ⟨Nat.le_of_ble_eq_true rfl, Nat.le_of_ble_eq_true rfl⟩ rfl rfl (Nat.le_of_ble_eq_true rfl) ?_
      refine sw_if_ne 112 143 G dL_marks_112 rfl hf (fun hf => ?_) (fun hf => ?_)
      · refine sw_iconst 143 G (0 : Int32) dL_marks_143 rfl ?_
        cases hf
        exact sw_zretC 144 G dL_marks_144 K rfl (Nat.le_of_ble_eq_true rfl) (Nat.le_of_ble_eq_true rfl)
      · refine sw_aload_n 115 G dL_marks_115 6 rfl ?_
        refine sw_iload_n 116 G dL_marks_116 5 rfl ?_
        refine sw_iload 117 G dL_marks_117 4 rfl ?_
        refine sw_iload 119 G dL_marks_119 3 rfl ?_
        refine sw_aload_n 121 G dL_marks_121 6 rfl ?_
        refine sw_iconst 122 G (0 : Int32) dL_marks_122 rfl ?_
        obtain ⟨r16, hg, hf⟩ := bd1_some hf
        refine sw_callVA 123 G E 1 dL_marks_123 (kG_whole hg) (gwV lk_2847ce46 lk_00a700e4 lk_1397dd5c lk_5f14f758 lk_141fdf1b) rfl hvL_whole ⟨rfl, rfl⟩ ⟨Nat.le_of_ble_eq_true rfl, Nat.le_of_ble_eq_true rfl⟩ ⟨Nat.le_of_ble_eq_true rfl, Nat.le_of_ble_eq_true rfl⟩ rfl rfl (Nat.le_of_ble_eq_true rfl) 0 rfl vc5 rfl ?_
        refine sw_iadd 126 G dL_marks_126 ?_
        refine sw_iload 127 G dL_marks_127 2 rfl ?_
        refine sw_iload 129 G dL_marks_129 1 rfl ?_
        obtain ⟨r17, u18, hg, hf⟩ := bd2_some hf
        refine sw_callSH 131 G E 6 dL_marks_131 (kL_mark hST hg) (gwH lk_26d4e68b lk_a940baa3 lk_d22acedf lk_30afb96c) rfl hsL_mark ⟨rfl, rfl⟩ ⟨Nat.le_of_ble_eq_true rfl, Nat.le_of_ble_eq_true rfl⟩ ⟨Nat.le_of_ble_eq_true rfl, Nat.le_of_ble_eq_true rfl⟩ rfl rfl (Nat.le_of_ble_eq_true rfl) ?_
        refine sw_bipush 134 G (-2 : Int32) dL_marks_134 rfl ?_
        refine sw_icmp_ne 136 143 G dL_marks_136 rfl hf (fun hf => ?_) (fun hf => ?_)
        · refine sw_iconst 143 G (0 : Int32) dL_marks_143 rfl ?_
          cases hf
          exact sw_zretC 144 G dL_marks_144 K rfl (Nat.le_of_ble_eq_true rfl) (Nat.le_of_ble_eq_true rfl)
        · refine sw_iconst 139 G (1 : Int32) dL_marks_139 rfl ?_
          refine sw_goto 140 G 144 dL_marks_140 rfl ?_
          cases hf
          exact sw_zretC 144 G dL_marks_144 K rfl (Nat.le_of_ble_eq_true rfl) (Nat.le_of_ble_eq_true rfl)
