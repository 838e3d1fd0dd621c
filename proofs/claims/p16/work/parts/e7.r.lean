section
theorem b_X10_goesPlainE_60 {h0 : am_h} {F0 : rf_f} {A0 : rf_A} {w1 : Int32} {gL : List Int} (p1 : A0 2 2 = (gL.length : Int) ∧ gL.length ≤ 120) (p2 : wd (A0 1) 2600 gL) (p3 : ∀ z9, z9 ∈ gL → 0 ≤ z9 ∧ z9 ≤ 200) (p4 : 0 ≤ w1.toInt ∧ w1.toInt ≤ 200) (p5 : wL gL) : ∀ (n : Nat) {lv : am_l} {h : am_h} {F : rf_f} {A : rf_A} {v1 : Int32} {gR : List Int} {gr : Nat}, (200 - gr) = n → am_get lv 0 = some (.inr (.inr (some 81))) → am_get lv 1 = some (.inl v1) → rf_I h0 h F A → fr1 [67, 70, 71] F0 F → fr2 [66, 68, 69, 1, 2] A0 A → (v1.toInt = w1.toInt) → (F 70 = gr ∧ gr ≤ 200) → (A 2 1 = (gR.length : Int) ∧ gR.length ≤ 1000) → (wd (A 1) 1300 gR) → (∀ z9, z9 ∈ gR → 0 ≤ z9 ∧ z9 ≤ 200 + 1000 * (gr : Int)) → (∀ q : Int, (q < 1300 ∨ 2600 ≤ q) → A 1 q = A0 1 q) → (∀ q : Int, q ≠ 1 → A 2 q = A0 2 q) → (wL gR) → (PLG gL gR w1.toInt.toNat gr) → am_Ok am_G 3 244 (60, lv, [], h, 0, 0) (rf_Q h0 (fun x F' A' => fr1 [67, 70, 71] F0 F' ∧ fr2 [66, 68, 69, 1, 2] A0 A' ∧ (((x = 0 ∧ PLN w1.toInt.toNat gL none) ∨ (x = 1 ∧ ∃ c9 : List Int, PLN w1.toInt.toNat gL (some c9) ∧ A' 2 1 = (c9.length : Int))) ∧ (∀ q : Int, (q < 1300 ∨ 2600 ≤ q) → A' 1 q = A0 1 q) ∧ (∀ q : Int, q ≠ 1 → A' 2 q = A0 2 q)))) := by
  intro n
  induction n using Nat.strongRecOn with
  | ind n ih =>
    intro lv h F A v1 gR gr hn g0 g1 hI hF hA ic i0 i1 i2 i3 i4 i5 i6 i7
    refine k_aload 61 rfl g0 rfl ?_
    refine r_gI hI 64 rfl rfl rfl (fun x1 (e2 : x1.toInt = F 70) => ?_)
    refine k_iload 65 rfl g1 rfl ?_
    by_cases b3 : v1 ≤ x1
    · refine k_c2 120 rfl rfl (if_pos b3) ?_
      have b3 := iv_le.mp b3
      refine k_aload 121 rfl g0 rfl ?_
      refine k_aload 122 rfl g0 rfl ?_
      refine k_push 125 rfl rfl ?_
      have hc4 : (1300 : Int32).toInt = 1300 := by decide
      refine k_aload 126 rfl g0 rfl ?_
      refine r_gA hI 129 rfl rfl rfl ?_
      refine k_push 130 rfl rfl ?_
      have hc5 : (1 : Int32).toInt = 1 := by decide
      refine r_ld 2 hI 131 rfl rfl (by omega) (show (1 : Int32).toInt < 3 by omega) rfl (fun x6 (e7 : x6.toInt = A 2 (1 : Int32).toInt) => ?_)
      rw [hc5] at e7
      refine k_rq hI rfl (m_firstRedexE (gL := gR) hI.1 (show 0 ≤ (1300 : Int32).toInt ∧ (1300 : Int32).toInt ≤ 2600 ∧ x6.toInt = ((gR).length : Int) ∧ (gR).length ≤ 1300 by omega) (show wd ((A 1)) (1300 : Int32).toInt (gR) by rw [show (1300 : Int32).toInt = 1300 by decide]; exact i2)) rfl rfl rfl hI.rc ?_
      rintro x8 h9 F10 A11 I12 ⟨k14, k15, pq13⟩
      replace pq13 : x8.toInt = frd (gR) := pq13
      have k14 := fr1.nil k14
      subst k14
      have k15 := fr2.nil k15
      subst k15
      show am_Ok _ _ _ (134, _, [.inl x8, .inr (.inr (some 81))], _, 0, 0) _
      refine k_push 135 rfl rfl ?_
      have hc16 : (-1 : Int32).toInt = -1 := by decide
      by_cases b17 : x8 = (-1 : Int32)
      · refine k_c2 138 rfl rfl (if_pos b17) ?_
        have b17 := iv_eq.mp b17
        refine k_push 139 rfl rfl ?_
        refine k_goto 143 rfl rfl ?_
        refine r_pZ I12 146 rfl rfl (Or.inr rfl) rfl (fun h18 I19 => ?_)
        refine k_push 147 rfl rfl ?_
        exact k_fin rfl (fin_Z (Or.inr rfl)) ⟨_, _, _, _, rfl, I19, (fr1.up (by decide) hF), hA, show (((1 : Int32).toInt = 0 ∧ PLN w1.toInt.toNat gL none) ∨ ((1 : Int32).toInt = 1 ∧ ∃ c9 : List Int, PLN w1.toInt.toNat gL (some c9) ∧ (A 2) 1 = (c9.length : Int))) ∧ (∀ q : Int, (q < 1300 ∨ 2600 ≤ q) → (A 1) q = A0 1 q) ∧ (∀ q : Int, q ≠ 1 → (A 2) q = A0 2 q) from ⟨Or.inr ⟨by omega, gR, i7.fin (by omega), i1.1⟩, i4, i5⟩⟩
      · refine k_c2 142 rfl rfl (if_neg b17) ?_
        have b17 := mt iv_eq.mpr b17
        refine k_push 143 rfl rfl ?_
        have hc20 : (0 : Int32).toInt = 0 := by decide
        refine r_pZ I12 146 rfl rfl (Or.inl rfl) rfl (fun h21 I22 => ?_)
        refine k_push 147 rfl rfl ?_
        exact k_fin rfl (fin_Z (Or.inr rfl)) ⟨_, _, _, _, rfl, I22, (fr1.up (by decide) hF), hA, show (((1 : Int32).toInt = 0 ∧ PLN w1.toInt.toNat gL none) ∨ ((1 : Int32).toInt = 1 ∧ ∃ c9 : List Int, PLN w1.toInt.toNat gL (some c9) ∧ (A 2) 1 = (c9.length : Int))) ∧ (∀ q : Int, (q < 1300 ∨ 2600 ≤ q) → (A 1) q = A0 1 q) ∧ (∀ q : Int, q ≠ 1 → (A 2) q = A0 2 q) from ⟨Or.inr ⟨by omega, gR, i7.fin (by omega), i1.1⟩, i4, i5⟩⟩
    · refine k_c2 68 rfl rfl (if_neg b3) ?_
      have b3 := mt iv_le.mpr b3
      refine k_aload 69 rfl g0 rfl ?_
      refine k_push 72 rfl rfl ?_
      have hc23 : (1300 : Int32).toInt = 1300 := by decide
      refine k_aload 73 rfl g0 rfl ?_
      refine r_gA hI 76 rfl rfl rfl ?_
      refine k_push 77 rfl rfl ?_
      have hc24 : (1 : Int32).toInt = 1 := by decide
      refine r_ld 2 hI 78 rfl rfl (by omega) (show (1 : Int32).toInt < 3 by omega) rfl (fun x25 (e26 : x25.toInt = A 2 (1 : Int32).toInt) => ?_)
      rw [hc24] at e26
      refine k_rq hI rfl (m_firstRedexE (gL := gR) hI.1 (show 0 ≤ (1300 : Int32).toInt ∧ (1300 : Int32).toInt ≤ 2600 ∧ x25.toInt = ((gR).length : Int) ∧ (gR).length ≤ 1300 by omega) (show wd ((A 1)) (1300 : Int32).toInt (gR) by rw [show (1300 : Int32).toInt = 1300 by decide]; exact i2)) rfl rfl rfl hI.rc ?_
      rintro x27 h28 F29 A30 I31 ⟨k33, k34, pq32⟩
      replace pq32 : x27.toInt = frd (gR) := pq32
      have k33 := fr1.nil k33
      subst k33
      have k34 := fr2.nil k34
      subst k34
      show am_Ok _ _ _ (81, _, [.inl x27], _, 0, 0) _
      refine k_istore 82 rfl rfl ?_
      refine k_iload 83 rfl gs_eq rfl ?_
      refine k_push 84 rfl rfl ?_
      have hc35 : (-1 : Int32).toInt = -1 := by decide
      by_cases b36 : x27 = (-1 : Int32)
      · refine k_c2 87 rfl rfl (if_pos b36) ?_
        have b36 := iv_eq.mp b36
        refine k_aload 88 rfl (gs_ne rfl rfl g0) rfl ?_
        refine k_push 89 rfl rfl ?_
        refine r_pZ I31 92 rfl rfl (Or.inr rfl) rfl (fun h37 I38 => ?_)
        refine k_push 93 rfl rfl ?_
        exact k_fin rfl (fin_Z (Or.inr rfl)) ⟨_, _, _, _, rfl, I38, (fr1.up (by decide) hF), hA, show (((1 : Int32).toInt = 0 ∧ PLN w1.toInt.toNat gL none) ∨ ((1 : Int32).toInt = 1 ∧ ∃ c9 : List Int, PLN w1.toInt.toNat gL (some c9) ∧ (A 2) 1 = (c9.length : Int))) ∧ (∀ q : Int, (q < 1300 ∨ 2600 ≤ q) → (A 1) q = A0 1 q) ∧ (∀ q : Int, q ≠ 1 → (A 2) q = A0 2 q) from ⟨Or.inr ⟨by omega, gR, i7.stop (by omega) (by omega), i1.1⟩, i4, i5⟩⟩
      · refine k_c2 94 rfl rfl (if_neg b36) ?_
        have b36 := mt iv_eq.mpr b36
        obtain ⟨gq9, hz1, hz2, hz3⟩ := frd_y (l := gR) (by have h9 := (frd_sp (l := gR)).elim (fun z => (Or.inl z.1 : frd gR = -1 ∨ 0 ≤ frd gR)) (fun z => Or.inr (by obtain ⟨q9, h9, -⟩ := z; omega)); omega)
        obtain ⟨gp9, gb9, ga9, gz9, hz4, hz5, hz6, hz7, hz8⟩ := RD.ex i6 (fun z9 h9 => (i3 z9 h9).1) hz2 hz3
        have hlR : gR.length = gp9.length + gb9.length + ga9.length + gz9.length + 2 := by rw [hz4]; exact wo_len
        have hz9 := i2
        rw [hz4] at hz9
        refine k_aload 95 rfl (gs_ne rfl rfl g0) rfl ?_
        refine k_push 98 rfl rfl ?_
        refine k_iload 99 rfl gs_eq rfl ?_
        refine k_rq I31 rfl (m_worksOffE (gP := gp9) (gB := gb9) (gV := ga9) (gZ := gz9) (gC := 200 + 1000 * (gr : Int)) I31.1 (show x27.toInt = ((gp9).length : Int) by omega) (show (1300 : Int32).toInt = 1300 ∧ (gp9).length + (gb9).length + (ga9).length + (gz9).length + 2 ≤ 1000 ∧ (A 2) 1 = ((gp9).length : Int) + (gb9).length + (ga9).length + (gz9).length + 2 by have h9 : (1300 : Int32).toInt = 1300 := (by decide); omega) (show wd ((A 1)) 1300 ((gp9) ++ 0 :: 1 :: ((gb9) ++ ((ga9) ++ (gz9)))) from hz9) (show wL (gb9) from hz6) (show wL (ga9) from hz7) (show ∀ z9, z9 ∈ (gp9) ++ 0 :: 1 :: ((gb9) ++ ((ga9) ++ (gz9))) → 0 ≤ z9 ∧ z9 ≤ (200 + 1000 * (gr : Int)) from fun z9 h9 => i3 z9 (by rw [hz4]; exact h9)) (show 0 ≤ (200 + 1000 * (gr : Int)) ∧ (200 + 1000 * (gr : Int)) ≤ 900000 by omega)) rfl rfl rfl I31.rc ?_
        rintro x39 h40 F41 A42 I43 ⟨k45, k46, pq44⟩
        replace pq44 : (x39.toInt = 0 ∧ 1000 < (((gp9) ++ (sbl (ga9) (gb9) 0 [] ++ (gz9))).length : Int) ∧ A42 1 = (A 1) ∧ A42 2 = (A 2)) ∨ (x39.toInt = 1 ∧ (((gp9) ++ (sbl (ga9) (gb9) 0 [] ++ (gz9))).length : Int) ≤ 1000 ∧ A42 2 1 = (((gp9) ++ (sbl (ga9) (gb9) 0 [] ++ (gz9))).length : Int) ∧ (∀ q : Int, q ≠ 1 → A42 2 q = (A 2) q) ∧ wd (A42 1) 1300 ((gp9) ++ (sbl (ga9) (gb9) 0 [] ++ (gz9))) ∧ ∀ q : Int, (q < 1300 ∨ 2600 ≤ q) → A42 1 q = (A 1) q) := pq44
        have z47 := iv_01 (x := x39) (pq44.elim (fun z => Or.inl z.1) (fun z => Or.inr z.1))
        show am_Ok _ _ _ (102, _, [.inl x39], _, 0, 0) _
        by_cases b48 : x39 = 0
        · refine k_c1 105 rfl rfl (if_pos b48) ?_
          have b48 := iv_eq0.mp b48
          refine k_push 106 rfl rfl ?_
          have hc49 : (0 : Int32).toInt = 0 := by decide
          obtain ⟨-, n0, n7, n8⟩ := pq44.resolve_right (fun z => by omega)
          exact k_fin rfl (fin_Z (Or.inl rfl)) ⟨_, _, _, _, rfl, I43, (fr1.tr (by decide) hF k45), (fr2.tr (by decide) hA k46), show (((0 : Int32).toInt = 0 ∧ PLN w1.toInt.toNat gL none) ∨ ((0 : Int32).toInt = 1 ∧ ∃ c9 : List Int, PLN w1.toInt.toNat gL (some c9) ∧ (A42 2) 1 = (c9.length : Int))) ∧ (∀ q : Int, (q < 1300 ∨ 2600 ≤ q) → (A42 1) q = A0 1 q) ∧ (∀ q : Int, q ≠ 1 → (A42 2) q = A0 2 q) from ⟨Or.inl ⟨by omega, i7.over (by omega) hz8 n0⟩, fun q hq => by rw [n7]; exact i4 q hq, fun q hq => by rw [n8]; exact i5 q hq⟩⟩
        · refine k_c1 107 rfl rfl (if_neg b48) ?_
          have b48 := mt iv_eq0.mpr b48
          obtain ⟨-, n1, n2, n3, n4, n6⟩ := pq44.resolve_left (fun z => by omega)
          refine k_aload 108 rfl (gs_ne rfl rfl g0) rfl ?_
          refine k_dup 109 rfl rfl rfl ?_
          refine r_gI I43 112 rfl rfl rfl (fun x50 (e51 : x50.toInt = F41 70) => ?_)
          have e52 : F41 70 = F 70 := k45 70 (by decide)
          refine k_push 113 rfl rfl ?_
          obtain ⟨x53, q54⟩ : ∃ q : Int32, q = (x50 + (1 : Int32)) := ⟨_, rfl⟩
          have e55 : x53.toInt = x50.toInt + 1 := by rw [q54, iv_add (by omega) (by omega)]; omega
          refine k_bin x53 114 rfl q54.symm rfl ?_
          refine r_pI I43 117 rfl rfl rfl (fun h56 I57 => ?_)
          refine k_goto 60 rfl rfl ?_
          exact ih _ (show (200 - (gr + 1)) < n by omega) (gR := gp9 ++ (sbl ga9 gb9 0 [] ++ gz9)) (gr := gr + 1) rfl (gs_ne rfl rfl g0) (gs_ne rfl rfl g1) I57 (fr1.up (by decide) (fr1.tr (by decide) hF k45)) (fr2.tr (by decide) hA k46) (show v1.toInt = w1.toInt by omega) (show (x53.toInt) = (gr + 1) ∧ (gr + 1) ≤ 200 by omega) (show (A42 2) 1 = ((gp9 ++ (sbl ga9 gb9 0 [] ++ gz9)).length : Int) ∧ (gp9 ++ (sbl ga9 gb9 0 [] ++ gz9)).length ≤ 1000 from ⟨n2, by omega⟩) (show wd ((A42 1)) 1300 (gp9 ++ (sbl ga9 gb9 0 [] ++ gz9)) from n4) (show ∀ z9, z9 ∈ (gp9 ++ (sbl ga9 gb9 0 [] ++ gz9)) → 0 ≤ z9 ∧ z9 ≤ 200 + 1000 * ((gr + 1) : Int) from fun z9 h9 => by have h8 := hz8.ub i3 (by omega) z9 h9; omega) (show ∀ q : Int, (q < 1300 ∨ 2600 ≤ q) → (A42 1) q = A0 1 q from fun q hq => (n6 q hq).trans (i4 q hq)) (show ∀ q : Int, q ≠ 1 → (A42 2) q = A0 2 q from fun q hq => (n3 q hq).trans (i5 q hq)) (show wL (gp9 ++ (sbl ga9 gb9 0 [] ++ gz9)) from hz8.wl i6 (fun z9 h9 => (i3 z9 h9).1)) (show PLG gL (gp9 ++ (sbl ga9 gb9 0 [] ++ gz9)) w1.toInt.toNat (gr + 1) from i7.go (by omega) hz8 n1)
theorem b_X10_goesPlainE_2 {h0 : am_h} {F0 : rf_f} {A0 : rf_A} {w1 : Int32} {gL : List Int} (p1 : A0 2 2 = (gL.length : Int) ∧ gL.length ≤ 120) (p2 : wd (A0 1) 2600 gL) (p3 : ∀ z9, z9 ∈ gL → 0 ≤ z9 ∧ z9 ≤ 200) (p4 : 0 ≤ w1.toInt ∧ w1.toInt ≤ 200) (p5 : wL gL) : ∀ (n : Nat) {lv : am_l} {h : am_h} {F : rf_f} {A : rf_A} {v1 : Int32} {v2 : Int32} {gk : Nat}, (gL.length - gk) = n → am_get lv 0 = some (.inr (.inr (some 81))) → am_get lv 1 = some (.inl v1) → am_get lv 2 = some (.inl v2) → rf_I h0 h F A → fr1 [67, 70, 71] F0 F → fr2 [66, 68, 69, 1, 2] A0 A → (v1.toInt = w1.toInt) → (A 2 = A0 2) → (v2.toInt = gk ∧ gk ≤ gL.length) → (∀ q : Nat, q < gk → A 1 (1300 + q) = A0 1 (2600 + q)) → (∀ q : Int, (q < 1300 ∨ 2600 ≤ q) → A 1 q = A0 1 q) → am_Ok am_G 3 244 (2, lv, [], h, 0, 0) (rf_Q h0 (fun x F' A' => fr1 [67, 70, 71] F0 F' ∧ fr2 [66, 68, 69, 1, 2] A0 A' ∧ (((x = 0 ∧ PLN w1.toInt.toNat gL none) ∨ (x = 1 ∧ ∃ c9 : List Int, PLN w1.toInt.toNat gL (some c9) ∧ A' 2 1 = (c9.length : Int))) ∧ (∀ q : Int, (q < 1300 ∨ 2600 ≤ q) → A' 1 q = A0 1 q) ∧ (∀ q : Int, q ≠ 1 → A' 2 q = A0 2 q)))) := by
  intro n
  induction n using Nat.strongRecOn with
  | ind n ih =>
    intro lv h F A v1 v2 gk hn g0 g1 g2 hI hF hA ic i0 i1 i2 i3
    refine k_iload 3 rfl g2 rfl ?_
    refine k_aload 4 rfl g0 rfl ?_
    refine r_gA hI 7 rfl rfl rfl ?_
    refine k_push 8 rfl rfl ?_
    have hc58 : (2 : Int32).toInt = 2 := by decide
    refine r_ld 2 hI 9 rfl rfl (by omega) (show (2 : Int32).toInt < 3 by omega) rfl (fun x59 (e60 : x59.toInt = A 2 (2 : Int32).toInt) => ?_)
    rw [hc58] at e60
    have hn9 : x59.toInt = (gL.length : Int) := by rw [e60, i0]; exact p1.1
    by_cases b61 : x59 ≤ v2
    · refine k_c2 38 rfl rfl (if_pos b61) ?_
      have b61 := iv_le.mp b61
      refine k_aload 39 rfl g0 rfl ?_
      refine r_gA hI 42 rfl rfl rfl ?_
      refine k_push 43 rfl rfl ?_
      have hc62 : (1 : Int32).toInt = 1 := by decide
      refine k_aload 44 rfl g0 rfl ?_
      refine r_gA hI 47 rfl rfl rfl ?_
      refine k_push 48 rfl rfl ?_
      refine r_ld 2 hI 49 rfl rfl (by omega) (show (2 : Int32).toInt < 3 by omega) rfl (fun x63 (e64 : x63.toInt = A 2 (2 : Int32).toInt) => ?_)
      rw [hc58] at e64
      have hn8 : x63.toInt = (gL.length : Int) := by rw [e64, i0]; exact p1.1
      refine r_st 2 hI 50 rfl rfl (by omega) (show (1 : Int32).toInt < 3 by omega) rfl (fun h65 I66 => ?_)
      refine k_aload 51 rfl g0 rfl ?_
      refine k_push 52 rfl rfl ?_
      have hc67 : (0 : Int32).toInt = 0 := by decide
      refine r_pI I66 55 rfl rfl rfl (fun h68 I69 => ?_)
      refine k_aload 56 rfl g0 rfl ?_
      refine k_push 57 rfl rfl ?_
      refine r_pZ I69 60 rfl rfl (Or.inl rfl) rfl (fun h70 I71 => ?_)
      have hh1 : ((up2 A 2 (1 : Int32).toInt x63.toInt) 2) 1 = (gL.length : Int) ∧ gL.length ≤ 1000 := by refine ⟨?_, by omega⟩; rw [show (1 : Int) = (1 : Int32).toInt by decide, up2_eq]; exact hn8
      exact b_X10_goesPlainE_60 (gL := gL) (w1 := w1) p1 p2 p3 p4 p5 _ (gR := gL) (gr := 0) rfl g0 g1 I71 (fr1.up (by decide) (fr1.up (by decide) hF)) (fr2.up (by decide) hA) (show v1.toInt = w1.toInt by omega) (show ((0 : Int32).toInt) = (0) ∧ (0) ≤ 200 by omega) (show ((up2 A 2 (1 : Int32).toInt x63.toInt) 2) 1 = ((gL).length : Int) ∧ (gL).length ≤ 1000 from hh1) (show wd ((A 1)) 1300 (gL) from wd_cg p2 (fun q hq => (i2 q (by omega)).symm)) (show ∀ z9, z9 ∈ (gL) → 0 ≤ z9 ∧ z9 ≤ 200 + 1000 * ((0) : Int) from fun z9 h9 => by have h8 := p3 z9 h9; omega) (show ∀ q : Int, (q < 1300 ∨ 2600 ≤ q) → (A 1) q = A0 1 q from i3) (show ∀ q : Int, q ≠ 1 → ((up2 A 2 (1 : Int32).toInt x63.toInt) 2) q = A0 2 q from fun q hq => by rw [up2_ne (by omega), i0]) (show wL (gL) from p5) (show PLG gL (gL) w1.toInt.toNat (0) from PLG.z)
    · refine k_c2 12 rfl rfl (if_neg b61) ?_
      have b61 := mt iv_le.mpr b61
      refine k_aload 13 rfl g0 rfl ?_
      refine r_gA hI 16 rfl rfl rfl ?_
      refine k_push 19 rfl rfl ?_
      have hc72 : (1300 : Int32).toInt = 1300 := by decide
      refine k_iload 20 rfl g2 rfl ?_
      obtain ⟨x73, q74⟩ : ∃ q : Int32, q = ((1300 : Int32) + v2) := ⟨_, rfl⟩
      have e75 : x73.toInt = 1300 + v2.toInt := by rw [q74, iv_add (by omega) (by omega)]; omega
      refine k_bin x73 21 rfl q74.symm rfl ?_
      refine k_aload 22 rfl g0 rfl ?_
      refine r_gA hI 25 rfl rfl rfl ?_
      refine k_push 28 rfl rfl ?_
      have hc76 : (2600 : Int32).toInt = 2600 := by decide
      refine k_iload 29 rfl g2 rfl ?_
      obtain ⟨x77, q78⟩ : ∃ q : Int32, q = ((2600 : Int32) + v2) := ⟨_, rfl⟩
      have e79 : x77.toInt = 2600 + v2.toInt := by rw [q78, iv_add (by omega) (by omega)]; omega
      refine k_bin x77 30 rfl q78.symm rfl ?_
      refine r_ld 1 hI 31 rfl rfl (by omega) (show x77.toInt < 3900 by omega) rfl (fun x80 (e81 : x80.toInt = A 1 x77.toInt) => ?_)
      rw [e79] at e81
      have hq9 : x80.toInt = A0 1 (2600 + (gk : Int)) := by rw [e81, show (2600 : Int) + v2.toInt = 2600 + (gk : Int) by omega]; exact i3 _ (by omega)
      refine r_st 1 hI 32 rfl rfl (by omega) (show x73.toInt < 3900 by omega) rfl (fun h82 I83 => ?_)
      have hc84 : (1 : Int32).toInt = 1 := by decide
      obtain ⟨x85, q86⟩ : ∃ q : Int32, q = v2 + (1 : Int32) := ⟨_, rfl⟩
      have e87 : x85.toInt = v2.toInt + 1 := by rw [q86, iv_add (by omega) (by omega)]; omega
      refine k_iinc x85 35 rfl g2 q86.symm rfl ?_
      refine k_goto 2 rfl rfl ?_
      exact ih _ (show (gL.length - (gk + 1)) < n by omega) (gk := gk + 1) rfl (gs_ne rfl rfl g0) (gs_ne rfl rfl g1) gs_eq I83 hF (fr2.up (by decide) hA) (show v1.toInt = w1.toInt by omega) (show (A 2) = A0 2 from i0) (show x85.toInt = (gk + 1) ∧ (gk + 1) ≤ gL.length by omega) (show ∀ q : Nat, q < (gk + 1) → ((up2 A 1 x73.toInt x80.toInt) 1) (1300 + q) = A0 1 (2600 + q) from wo_cp2 i2 (by omega) (by omega)) (show ∀ q : Int, (q < 1300 ∨ 2600 ≤ q) → ((up2 A 1 x73.toInt x80.toInt) 1) q = A0 1 q from fun q hq => by rw [up2_ne (by omega)]; exact i3 q hq)
theorem m_goesPlainE {h0 : am_h} {F0 : rf_f} {A0 : rf_A} {w1 : Int32} {gL : List Int} (hR : rf_R h0 F0 A0) (p1 : A0 2 2 = (gL.length : Int) ∧ gL.length ≤ 120) (p2 : wd (A0 1) 2600 gL) (p3 : ∀ z9, z9 ∈ gL → 0 ≤ z9 ∧ z9 ≤ 200) (p4 : 0 ≤ w1.toInt ∧ w1.toInt ≤ 200) (p5 : wL gL) : am_Mt 4 244 [.inr (.inr (some 81)), .inl w1] h0 (rf_Q h0 (fun x F' A' => fr1 [67, 70, 71] F0 F' ∧ fr2 [66, 68, 69, 1, 2] A0 A' ∧ (((x = 0 ∧ PLN w1.toInt.toNat gL none) ∨ (x = 1 ∧ ∃ c9 : List Int, PLN w1.toInt.toNat gL (some c9) ∧ A' 2 1 = (c9.length : Int))) ∧ (∀ q : Int, (q < 1300 ∨ 2600 ≤ q) → A' 1 q = A0 1 q) ∧ (∀ q : Int, q ≠ 1 → A' 2 q = A0 2 q)))) := by
  refine am_Mt.of (D := 3) ?_
  have hI : rf_I h0 h0 F0 A0 := rf_I.start hR
  refine k_push 1 rfl rfl ?_
  have hc88 : (0 : Int32).toInt = 0 := by decide
  refine k_istore 2 rfl rfl ?_
  exact b_X10_goesPlainE_2 (gL := gL) (w1 := w1) p1 p2 p3 p4 p5 _ (gk := 0) rfl (gs_ne rfl rfl rfl) (gs_ne rfl rfl rfl) gs_eq hI fr1.rf fr2.rf (show w1.toInt = w1.toInt by omega) (show (A0 2) = A0 2 from rfl) (show (0 : Int32).toInt = (0) ∧ (0) ≤ gL.length by omega) (show ∀ q : Nat, q < (0) → (A0 1) (1300 + q) = A0 1 (2600 + q) from fun q hq => absurd hq (Nat.not_lt_zero q)) (show ∀ q : Int, (q < 1300 ∨ 2600 ≤ q) → (A0 1) q = A0 1 q from fun q _ => rfl)
theorem m_plainE {h0 : am_h} {F0 : rf_f} {A0 : rf_A} {w1 : Int32} {gL : List Int} (hR : rf_R h0 F0 A0) (p5 : wr A0) (p6 : wq A0) (p1 : A0 2 2 = (gL.length : Int) ∧ gL.length ≤ 120) (p2 : wd (A0 1) 2600 gL) (p3 : ∀ z9, z9 ∈ gL → 0 ≤ z9 ∧ z9 ≤ 200) (p9 : wL gL) : am_Mt 5 264 [.inr (.inr (some 81)), .inl w1] h0 (rf_Q h0 (fun x F' A' => fr1 [67, 70, 71, 0] F0 F' ∧ fr2 [66, 68, 69, 1, 2] A0 A' ∧ (wr A' ∧ wq A' ∧ A' 2 2 = A0 2 2 ∧ (∀ q : Int, 2600 ≤ q → A' 1 q = A0 1 q) ∧ ((0 ≤ w1.toInt ∧ w1.toInt ≤ 200 ∧ F' 0 = 0 ∧ PLx gL w1.toInt x) ∨ ((w1.toInt < 0 ∨ 200 < w1.toInt) ∧ F' 0 = 1))))) := by
  refine am_Mt.of (D := 4) ?_
  have hI : rf_I h0 h0 F0 A0 := rf_I.start hR
  refine k_aload 1 rfl rfl rfl ?_
  refine k_push 2 rfl rfl ?_
  have hc1 : (0 : Int32).toInt = 0 := by decide
  refine r_pI hI 5 rfl rfl rfl (fun h2 I3 => ?_)
  refine k_aload 6 rfl rfl rfl ?_
  refine k_iload 7 rfl rfl rfl ?_
  refine k_push 8 rfl rfl ?_
  refine k_push 11 rfl rfl ?_
  have hc4 : (200 : Int32).toInt = 200 := by decide
  refine k_in (d := 0) rfl rfl rfl rfl rfl ?_
  refine k_iload 1 rfl rfl rfl ?_
  refine k_iload 2 rfl rfl rfl ?_
  by_cases b5 : w1 < (0 : Int32)
  · refine k_c2 14 rfl rfl (if_pos b5) ?_
    have b5 := iv_lt.mp b5
    refine k_push 15 rfl rfl ?_
    refine k_fin rfl (fin_Z (Or.inl rfl)) ⟨_, _, rfl, rf_len I3 I3, ?_⟩
    show am_Ok _ _ _ (14, _, [.inl (0 : Int32), .inr (.inr (some 81))], _, 0, 0) _
    refine k_push 15 rfl rfl ?_
    have hc6 : (1 : Int32).toInt = 1 := by decide
    refine k_in (d := 0) rfl rfl rfl rfl I3.rc ?_
    refine k_aload 1 rfl rfl rfl ?_
    refine r_gI I3 4 rfl rfl rfl (fun x7 (e8 : x7.toInt = (0 : Int32).toInt) => ?_)
    by_cases b9 : x7 = 0
    · refine k_c1 7 rfl rfl (if_pos b9) ?_
      have b9 := iv_eq0.mp b9
      refine k_iload 8 rfl rfl rfl ?_
      refine k_c1 11 rfl rfl (if_pos (by decide)) ?_
      refine k_aload 12 rfl rfl rfl ?_
      refine k_iload 13 rfl rfl rfl ?_
      refine r_pI I3 16 rfl rfl rfl (fun h10 I11 => ?_)
      refine k_aload 17 rfl rfl rfl ?_
      refine r_gI I11 20 rfl rfl rfl (fun x12 (e13 : x12.toInt = (1 : Int32).toInt) => ?_)
      by_cases b14 : x12 = 0
      · refine k_c1 23 rfl rfl (if_pos b14) ?_
        have b14 := iv_eq0.mp b14
        refine k_push 24 rfl rfl ?_
        refine k_goto 28 rfl rfl ?_
        refine k_fin rfl (fin_Z (Or.inr rfl)) ⟨_, _, rfl, rf_len I3 I11, ?_⟩
        show am_Ok _ _ _ (18, _, [.inl (1 : Int32)], _, 0, 0) _
        refine k_c1 23 rfl rfl (if_neg (by decide)) ?_
        refine k_aload 24 rfl rfl rfl ?_
        refine k_iload 25 rfl rfl rfl ?_
        refine k_rq I11 rfl (m_goesPlainE (gL := gL) I11.1 (show (A0 2) 2 = ((gL).length : Int) ∧ (gL).length ≤ 120 from p1) (show wd ((A0 1)) 2600 (gL) from p2) (show ∀ z9, z9 ∈ (gL) → 0 ≤ z9 ∧ z9 ≤ 200 from p3) (show 0 ≤ w1.toInt ∧ w1.toInt ≤ 200 by omega) (show wL (gL) from p9)) rfl rfl rfl I11.rc ?_
        rintro x15 h16 F17 A18 I19 ⟨k21, k22, pq20⟩
        replace pq20 : ((x15.toInt = 0 ∧ PLN w1.toInt.toNat (gL) none) ∨ (x15.toInt = 1 ∧ ∃ c9 : List Int, PLN w1.toInt.toNat (gL) (some c9) ∧ A18 2 1 = (c9.length : Int))) ∧ (∀ q : Int, (q < 1300 ∨ 2600 ≤ q) → A18 1 q = (A0 1) q) ∧ (∀ q : Int, q ≠ 1 → A18 2 q = (A0 2) q) := pq20
        obtain ⟨pq20a, pq20c, pq20d⟩ := pq20
        have z23 := iv_01 (x := x15) (pq20a.elim (fun z => Or.inl z.1) (fun z => Or.inr z.1))
        show am_Ok _ _ _ (28, _, [.inl x15], _, 0, 0) _
        have hg9 := pq20a
        clear pq20a
        by_cases b24 : x15 = 0
        · refine k_c1 40 rfl rfl (if_pos b24) ?_
          have b24 := iv_eq0.mp b24
          have hpn : PLx gL w1.toInt (-1 : Int32).toInt := by obtain ⟨-, h8⟩ := hg9.resolve_right (fun z => by have h9 := z.1; omega); exact ⟨_, h8, Or.inl ⟨rfl, by decide⟩⟩
          refine k_push 41 rfl rfl ?_
          have hc25 : (-1 : Int32).toInt = -1 := by decide
          have e26 : F17 0 = (1 : Int32).toInt := k21 0 (by decide)
          exact k_fin rfl rfl ⟨_, _, _, _, rfl, I19, (fr1.tr (by decide) (fr1.up (by decide) (fr1.up (by decide) fr1.rf)) k21), (fr2.tr (by decide) fr2.rf k22), ⟨p5.fr k22 (by decide), p6.fr k22 (by decide), pq20d 2 (by decide), fun q hq => pq20c q (Or.inr hq), Or.inl ⟨by omega, by omega, by omega, hpn⟩⟩⟩
        · refine k_c1 31 rfl rfl (if_neg b24) ?_
          have b24 := mt iv_eq0.mpr b24
          refine k_aload 32 rfl rfl rfl ?_
          refine r_gA I19 35 rfl rfl rfl ?_
          refine k_push 36 rfl rfl ?_
          refine r_ld 2 I19 37 rfl rfl (by omega) (show (1 : Int32).toInt < 3 by omega) rfl (fun x27 (e28 : x27.toInt = A18 2 (1 : Int32).toInt) => ?_)
          rw [hc6] at e28
          have hpy : PLx gL w1.toInt x27.toInt := by obtain ⟨-, c9, h8, h7⟩ := hg9.resolve_left (fun z => by have h9 := z.1; omega); exact ⟨_, h8, Or.inr ⟨c9, rfl, by rw [e28]; exact h7⟩⟩
          refine k_goto 41 rfl rfl ?_
          have e29 : F17 0 = (1 : Int32).toInt := k21 0 (by decide)
          exact k_fin rfl rfl ⟨_, _, _, _, rfl, I19, (fr1.tr (by decide) (fr1.up (by decide) (fr1.up (by decide) fr1.rf)) k21), (fr2.tr (by decide) fr2.rf k22), ⟨p5.fr k22 (by decide), p6.fr k22 (by decide), pq20d 2 (by decide), fun q hq => pq20c q (Or.inr hq), Or.inl ⟨by omega, by omega, by omega, hpy⟩⟩⟩
      · refine k_c1 27 rfl rfl (if_neg b14) ?_
        have b14 := mt iv_eq0.mpr b14
        refine k_push 28 rfl rfl ?_
        refine k_fin rfl (fin_Z (Or.inl rfl)) ⟨_, _, rfl, rf_len I3 I11, ?_⟩
        show am_Ok _ _ _ (18, _, [.inl (0 : Int32)], _, 0, 0) _
        refine k_c1 21 rfl rfl (if_pos (by decide)) ?_
        refine k_push 22 rfl rfl ?_
        exact k_fin rfl rfl ⟨_, _, _, _, rfl, I11, (fr1.up (by decide) (fr1.up (by decide) fr1.rf)), fr2.rf, show wr A0 ∧ wq A0 ∧ (A0 2) 2 = A0 2 2 ∧ (∀ q : Int, 2600 ≤ q → (A0 1) q = A0 1 q) ∧ ((0 ≤ w1.toInt ∧ w1.toInt ≤ 200 ∧ ((1 : Int32).toInt) = 0 ∧ PLx gL w1.toInt (0 : Int32).toInt) ∨ ((w1.toInt < 0 ∨ 200 < w1.toInt) ∧ ((1 : Int32).toInt) = 1)) from ⟨p5, p6, rfl, fun q _ => rfl, Or.inr ⟨by omega, by omega⟩⟩⟩
    · refine k_c1 16 rfl rfl (if_neg b9) ?_
      have b9 := mt iv_eq0.mpr b9
      refine k_aload 17 rfl rfl rfl ?_
      refine r_gI I3 20 rfl rfl rfl (fun x30 (e31 : x30.toInt = (0 : Int32).toInt) => ?_)
      by_cases b32 : x30 = 0
      · refine k_c1 23 rfl rfl (if_pos b32) ?_
        have b32 := iv_eq0.mp b32
        refine k_push 24 rfl rfl ?_
        refine k_goto 28 rfl rfl ?_
        refine k_fin rfl (fin_Z (Or.inr rfl)) ⟨_, _, rfl, rf_len I3 I3, ?_⟩
        show am_Ok _ _ _ (18, _, [.inl (1 : Int32)], _, 0, 0) _
        refine k_c1 23 rfl rfl (if_neg (by decide)) ?_
        refine k_aload 24 rfl rfl rfl ?_
        refine k_iload 25 rfl rfl rfl ?_
        refine k_rq I3 rfl (m_goesPlainE (gL := gL) I3.1 (show (A0 2) 2 = ((gL).length : Int) ∧ (gL).length ≤ 120 from p1) (show wd ((A0 1)) 2600 (gL) from p2) (show ∀ z9, z9 ∈ (gL) → 0 ≤ z9 ∧ z9 ≤ 200 from p3) (show 0 ≤ w1.toInt ∧ w1.toInt ≤ 200 by omega) (show wL (gL) from p9)) rfl rfl rfl I3.rc ?_
        rintro x33 h34 F35 A36 I37 ⟨k39, k40, pq38⟩
        replace pq38 : ((x33.toInt = 0 ∧ PLN w1.toInt.toNat (gL) none) ∨ (x33.toInt = 1 ∧ ∃ c9 : List Int, PLN w1.toInt.toNat (gL) (some c9) ∧ A36 2 1 = (c9.length : Int))) ∧ (∀ q : Int, (q < 1300 ∨ 2600 ≤ q) → A36 1 q = (A0 1) q) ∧ (∀ q : Int, q ≠ 1 → A36 2 q = (A0 2) q) := pq38
        obtain ⟨pq38a, pq38c, pq38d⟩ := pq38
        have z41 := iv_01 (x := x33) (pq38a.elim (fun z => Or.inl z.1) (fun z => Or.inr z.1))
        show am_Ok _ _ _ (28, _, [.inl x33], _, 0, 0) _
        have hg9 := pq38a
        clear pq38a
        by_cases b42 : x33 = 0
        · refine k_c1 40 rfl rfl (if_pos b42) ?_
          have b42 := iv_eq0.mp b42
          have hpn : PLx gL w1.toInt (-1 : Int32).toInt := by obtain ⟨-, h8⟩ := hg9.resolve_right (fun z => by have h9 := z.1; omega); exact ⟨_, h8, Or.inl ⟨rfl, by decide⟩⟩
          refine k_push 41 rfl rfl ?_
          have hc43 : (-1 : Int32).toInt = -1 := by decide
          have e44 : F35 0 = (0 : Int32).toInt := k39 0 (by decide)
          exact k_fin rfl rfl ⟨_, _, _, _, rfl, I37, (fr1.tr (by decide) (fr1.up (by decide) fr1.rf) k39), (fr2.tr (by decide) fr2.rf k40), ⟨p5.fr k40 (by decide), p6.fr k40 (by decide), pq38d 2 (by decide), fun q hq => pq38c q (Or.inr hq), Or.inl ⟨by omega, by omega, by omega, hpn⟩⟩⟩
        · refine k_c1 31 rfl rfl (if_neg b42) ?_
          have b42 := mt iv_eq0.mpr b42
          refine k_aload 32 rfl rfl rfl ?_
          refine r_gA I37 35 rfl rfl rfl ?_
          refine k_push 36 rfl rfl ?_
          refine r_ld 2 I37 37 rfl rfl (by omega) (show (1 : Int32).toInt < 3 by omega) rfl (fun x45 (e46 : x45.toInt = A36 2 (1 : Int32).toInt) => ?_)
          rw [hc6] at e46
          have hpy : PLx gL w1.toInt x45.toInt := by obtain ⟨-, c9, h8, h7⟩ := hg9.resolve_left (fun z => by have h9 := z.1; omega); exact ⟨_, h8, Or.inr ⟨c9, rfl, by rw [e46]; exact h7⟩⟩
          refine k_goto 41 rfl rfl ?_
          have e47 : F35 0 = (0 : Int32).toInt := k39 0 (by decide)
          exact k_fin rfl rfl ⟨_, _, _, _, rfl, I37, (fr1.tr (by decide) (fr1.up (by decide) fr1.rf) k39), (fr2.tr (by decide) fr2.rf k40), ⟨p5.fr k40 (by decide), p6.fr k40 (by decide), pq38d 2 (by decide), fun q hq => pq38c q (Or.inr hq), Or.inl ⟨by omega, by omega, by omega, hpy⟩⟩⟩
      · refine k_c1 27 rfl rfl (if_neg b32) ?_
        have b32 := mt iv_eq0.mpr b32
        refine k_push 28 rfl rfl ?_
        refine k_fin rfl (fin_Z (Or.inl rfl)) ⟨_, _, rfl, rf_len I3 I3, ?_⟩
        show am_Ok _ _ _ (18, _, [.inl (0 : Int32)], _, 0, 0) _
        refine k_c1 21 rfl rfl (if_pos (by decide)) ?_
        refine k_push 22 rfl rfl ?_
        exact k_fin rfl rfl ⟨_, _, _, _, rfl, I3, (fr1.up (by decide) fr1.rf), fr2.rf, show wr A0 ∧ wq A0 ∧ (A0 2) 2 = A0 2 2 ∧ (∀ q : Int, 2600 ≤ q → (A0 1) q = A0 1 q) ∧ ((0 ≤ w1.toInt ∧ w1.toInt ≤ 200 ∧ ((0 : Int32).toInt) = 0 ∧ PLx gL w1.toInt (0 : Int32).toInt) ∨ ((w1.toInt < 0 ∨ 200 < w1.toInt) ∧ ((0 : Int32).toInt) = 1)) from ⟨p5, p6, rfl, fun q _ => rfl, Or.inr ⟨by omega, by omega⟩⟩⟩
  · refine k_c2 5 rfl rfl (if_neg b5) ?_
    have b5 := mt iv_lt.mpr b5
    refine k_iload 6 rfl rfl rfl ?_
    refine k_iload 7 rfl rfl rfl ?_
    by_cases b48 : (200 : Int32) < w1
    · refine k_c2 14 rfl rfl (if_pos b48) ?_
      have b48 := iv_lt.mp b48
      refine k_push 15 rfl rfl ?_
      refine k_fin rfl (fin_Z (Or.inl rfl)) ⟨_, _, rfl, rf_len I3 I3, ?_⟩
      show am_Ok _ _ _ (14, _, [.inl (0 : Int32), .inr (.inr (some 81))], _, 0, 0) _
      refine k_push 15 rfl rfl ?_
      have hc49 : (1 : Int32).toInt = 1 := by decide
      refine k_in (d := 0) rfl rfl rfl rfl I3.rc ?_
      refine k_aload 1 rfl rfl rfl ?_
      refine r_gI I3 4 rfl rfl rfl (fun x50 (e51 : x50.toInt = (0 : Int32).toInt) => ?_)
      by_cases b52 : x50 = 0
      · refine k_c1 7 rfl rfl (if_pos b52) ?_
        have b52 := iv_eq0.mp b52
        refine k_iload 8 rfl rfl rfl ?_
        refine k_c1 11 rfl rfl (if_pos (by decide)) ?_
        refine k_aload 12 rfl rfl rfl ?_
        refine k_iload 13 rfl rfl rfl ?_
        refine r_pI I3 16 rfl rfl rfl (fun h53 I54 => ?_)
        refine k_aload 17 rfl rfl rfl ?_
        refine r_gI I54 20 rfl rfl rfl (fun x55 (e56 : x55.toInt = (1 : Int32).toInt) => ?_)
        by_cases b57 : x55 = 0
        · refine k_c1 23 rfl rfl (if_pos b57) ?_
          have b57 := iv_eq0.mp b57
          refine k_push 24 rfl rfl ?_
          refine k_goto 28 rfl rfl ?_
          refine k_fin rfl (fin_Z (Or.inr rfl)) ⟨_, _, rfl, rf_len I3 I54, ?_⟩
          show am_Ok _ _ _ (18, _, [.inl (1 : Int32)], _, 0, 0) _
          refine k_c1 23 rfl rfl (if_neg (by decide)) ?_
          refine k_aload 24 rfl rfl rfl ?_
          refine k_iload 25 rfl rfl rfl ?_
          refine k_rq I54 rfl (m_goesPlainE (gL := gL) I54.1 (show (A0 2) 2 = ((gL).length : Int) ∧ (gL).length ≤ 120 from p1) (show wd ((A0 1)) 2600 (gL) from p2) (show ∀ z9, z9 ∈ (gL) → 0 ≤ z9 ∧ z9 ≤ 200 from p3) (show 0 ≤ w1.toInt ∧ w1.toInt ≤ 200 by omega) (show wL (gL) from p9)) rfl rfl rfl I54.rc ?_
          rintro x58 h59 F60 A61 I62 ⟨k64, k65, pq63⟩
          replace pq63 : ((x58.toInt = 0 ∧ PLN w1.toInt.toNat (gL) none) ∨ (x58.toInt = 1 ∧ ∃ c9 : List Int, PLN w1.toInt.toNat (gL) (some c9) ∧ A61 2 1 = (c9.length : Int))) ∧ (∀ q : Int, (q < 1300 ∨ 2600 ≤ q) → A61 1 q = (A0 1) q) ∧ (∀ q : Int, q ≠ 1 → A61 2 q = (A0 2) q) := pq63
          obtain ⟨pq63a, pq63c, pq63d⟩ := pq63
          have z66 := iv_01 (x := x58) (pq63a.elim (fun z => Or.inl z.1) (fun z => Or.inr z.1))
          show am_Ok _ _ _ (28, _, [.inl x58], _, 0, 0) _
          have hg9 := pq63a
          clear pq63a
          by_cases b67 : x58 = 0
          · refine k_c1 40 rfl rfl (if_pos b67) ?_
            have b67 := iv_eq0.mp b67
            have hpn : PLx gL w1.toInt (-1 : Int32).toInt := by obtain ⟨-, h8⟩ := hg9.resolve_right (fun z => by have h9 := z.1; omega); exact ⟨_, h8, Or.inl ⟨rfl, by decide⟩⟩
            refine k_push 41 rfl rfl ?_
            have hc68 : (-1 : Int32).toInt = -1 := by decide
            have e69 : F60 0 = (1 : Int32).toInt := k64 0 (by decide)
            exact k_fin rfl rfl ⟨_, _, _, _, rfl, I62, (fr1.tr (by decide) (fr1.up (by decide) (fr1.up (by decide) fr1.rf)) k64), (fr2.tr (by decide) fr2.rf k65), ⟨p5.fr k65 (by decide), p6.fr k65 (by decide), pq63d 2 (by decide), fun q hq => pq63c q (Or.inr hq), Or.inl ⟨by omega, by omega, by omega, hpn⟩⟩⟩
          · refine k_c1 31 rfl rfl (if_neg b67) ?_
            have b67 := mt iv_eq0.mpr b67
            refine k_aload 32 rfl rfl rfl ?_
            refine r_gA I62 35 rfl rfl rfl ?_
            refine k_push 36 rfl rfl ?_
            refine r_ld 2 I62 37 rfl rfl (by omega) (show (1 : Int32).toInt < 3 by omega) rfl (fun x70 (e71 : x70.toInt = A61 2 (1 : Int32).toInt) => ?_)
            rw [hc49] at e71
            have hpy : PLx gL w1.toInt x70.toInt := by obtain ⟨-, c9, h8, h7⟩ := hg9.resolve_left (fun z => by have h9 := z.1; omega); exact ⟨_, h8, Or.inr ⟨c9, rfl, by rw [e71]; exact h7⟩⟩
            refine k_goto 41 rfl rfl ?_
            have e72 : F60 0 = (1 : Int32).toInt := k64 0 (by decide)
            exact k_fin rfl rfl ⟨_, _, _, _, rfl, I62, (fr1.tr (by decide) (fr1.up (by decide) (fr1.up (by decide) fr1.rf)) k64), (fr2.tr (by decide) fr2.rf k65), ⟨p5.fr k65 (by decide), p6.fr k65 (by decide), pq63d 2 (by decide), fun q hq => pq63c q (Or.inr hq), Or.inl ⟨by omega, by omega, by omega, hpy⟩⟩⟩
        · refine k_c1 27 rfl rfl (if_neg b57) ?_
          have b57 := mt iv_eq0.mpr b57
          refine k_push 28 rfl rfl ?_
          refine k_fin rfl (fin_Z (Or.inl rfl)) ⟨_, _, rfl, rf_len I3 I54, ?_⟩
          show am_Ok _ _ _ (18, _, [.inl (0 : Int32)], _, 0, 0) _
          refine k_c1 21 rfl rfl (if_pos (by decide)) ?_
          refine k_push 22 rfl rfl ?_
          exact k_fin rfl rfl ⟨_, _, _, _, rfl, I54, (fr1.up (by decide) (fr1.up (by decide) fr1.rf)), fr2.rf, show wr A0 ∧ wq A0 ∧ (A0 2) 2 = A0 2 2 ∧ (∀ q : Int, 2600 ≤ q → (A0 1) q = A0 1 q) ∧ ((0 ≤ w1.toInt ∧ w1.toInt ≤ 200 ∧ ((1 : Int32).toInt) = 0 ∧ PLx gL w1.toInt (0 : Int32).toInt) ∨ ((w1.toInt < 0 ∨ 200 < w1.toInt) ∧ ((1 : Int32).toInt) = 1)) from ⟨p5, p6, rfl, fun q _ => rfl, Or.inr ⟨by omega, by omega⟩⟩⟩
      · refine k_c1 16 rfl rfl (if_neg b52) ?_
        have b52 := mt iv_eq0.mpr b52
        refine k_aload 17 rfl rfl rfl ?_
        refine r_gI I3 20 rfl rfl rfl (fun x73 (e74 : x73.toInt = (0 : Int32).toInt) => ?_)
        by_cases b75 : x73 = 0
        · refine k_c1 23 rfl rfl (if_pos b75) ?_
          have b75 := iv_eq0.mp b75
          refine k_push 24 rfl rfl ?_
          refine k_goto 28 rfl rfl ?_
          refine k_fin rfl (fin_Z (Or.inr rfl)) ⟨_, _, rfl, rf_len I3 I3, ?_⟩
          show am_Ok _ _ _ (18, _, [.inl (1 : Int32)], _, 0, 0) _
          refine k_c1 23 rfl rfl (if_neg (by decide)) ?_
          refine k_aload 24 rfl rfl rfl ?_
          refine k_iload 25 rfl rfl rfl ?_
          refine k_rq I3 rfl (m_goesPlainE (gL := gL) I3.1 (show (A0 2) 2 = ((gL).length : Int) ∧ (gL).length ≤ 120 from p1) (show wd ((A0 1)) 2600 (gL) from p2) (show ∀ z9, z9 ∈ (gL) → 0 ≤ z9 ∧ z9 ≤ 200 from p3) (show 0 ≤ w1.toInt ∧ w1.toInt ≤ 200 by omega) (show wL (gL) from p9)) rfl rfl rfl I3.rc ?_
          rintro x76 h77 F78 A79 I80 ⟨k82, k83, pq81⟩
          replace pq81 : ((x76.toInt = 0 ∧ PLN w1.toInt.toNat (gL) none) ∨ (x76.toInt = 1 ∧ ∃ c9 : List Int, PLN w1.toInt.toNat (gL) (some c9) ∧ A79 2 1 = (c9.length : Int))) ∧ (∀ q : Int, (q < 1300 ∨ 2600 ≤ q) → A79 1 q = (A0 1) q) ∧ (∀ q : Int, q ≠ 1 → A79 2 q = (A0 2) q) := pq81
          obtain ⟨pq81a, pq81c, pq81d⟩ := pq81
          have z84 := iv_01 (x := x76) (pq81a.elim (fun z => Or.inl z.1) (fun z => Or.inr z.1))
          show am_Ok _ _ _ (28, _, [.inl x76], _, 0, 0) _
          have hg9 := pq81a
          clear pq81a
          by_cases b85 : x76 = 0
          · refine k_c1 40 rfl rfl (if_pos b85) ?_
            have b85 := iv_eq0.mp b85
            have hpn : PLx gL w1.toInt (-1 : Int32).toInt := by obtain ⟨-, h8⟩ := hg9.resolve_right (fun z => by have h9 := z.1; omega); exact ⟨_, h8, Or.inl ⟨rfl, by decide⟩⟩
            refine k_push 41 rfl rfl ?_
            have hc86 : (-1 : Int32).toInt = -1 := by decide
            have e87 : F78 0 = (0 : Int32).toInt := k82 0 (by decide)
            exact k_fin rfl rfl ⟨_, _, _, _, rfl, I80, (fr1.tr (by decide) (fr1.up (by decide) fr1.rf) k82), (fr2.tr (by decide) fr2.rf k83), ⟨p5.fr k83 (by decide), p6.fr k83 (by decide), pq81d 2 (by decide), fun q hq => pq81c q (Or.inr hq), Or.inl ⟨by omega, by omega, by omega, hpn⟩⟩⟩
          · refine k_c1 31 rfl rfl (if_neg b85) ?_
            have b85 := mt iv_eq0.mpr b85
            refine k_aload 32 rfl rfl rfl ?_
            refine r_gA I80 35 rfl rfl rfl ?_
            refine k_push 36 rfl rfl ?_
            refine r_ld 2 I80 37 rfl rfl (by omega) (show (1 : Int32).toInt < 3 by omega) rfl (fun x88 (e89 : x88.toInt = A79 2 (1 : Int32).toInt) => ?_)
            rw [hc49] at e89
            have hpy : PLx gL w1.toInt x88.toInt := by obtain ⟨-, c9, h8, h7⟩ := hg9.resolve_left (fun z => by have h9 := z.1; omega); exact ⟨_, h8, Or.inr ⟨c9, rfl, by rw [e89]; exact h7⟩⟩
            refine k_goto 41 rfl rfl ?_
            have e90 : F78 0 = (0 : Int32).toInt := k82 0 (by decide)
            exact k_fin rfl rfl ⟨_, _, _, _, rfl, I80, (fr1.tr (by decide) (fr1.up (by decide) fr1.rf) k82), (fr2.tr (by decide) fr2.rf k83), ⟨p5.fr k83 (by decide), p6.fr k83 (by decide), pq81d 2 (by decide), fun q hq => pq81c q (Or.inr hq), Or.inl ⟨by omega, by omega, by omega, hpy⟩⟩⟩
        · refine k_c1 27 rfl rfl (if_neg b75) ?_
          have b75 := mt iv_eq0.mpr b75
          refine k_push 28 rfl rfl ?_
          refine k_fin rfl (fin_Z (Or.inl rfl)) ⟨_, _, rfl, rf_len I3 I3, ?_⟩
          show am_Ok _ _ _ (18, _, [.inl (0 : Int32)], _, 0, 0) _
          refine k_c1 21 rfl rfl (if_pos (by decide)) ?_
          refine k_push 22 rfl rfl ?_
          exact k_fin rfl rfl ⟨_, _, _, _, rfl, I3, (fr1.up (by decide) fr1.rf), fr2.rf, show wr A0 ∧ wq A0 ∧ (A0 2) 2 = A0 2 2 ∧ (∀ q : Int, 2600 ≤ q → (A0 1) q = A0 1 q) ∧ ((0 ≤ w1.toInt ∧ w1.toInt ≤ 200 ∧ ((0 : Int32).toInt) = 0 ∧ PLx gL w1.toInt (0 : Int32).toInt) ∨ ((w1.toInt < 0 ∨ 200 < w1.toInt) ∧ ((0 : Int32).toInt) = 1)) from ⟨p5, p6, rfl, fun q _ => rfl, Or.inr ⟨by omega, by omega⟩⟩⟩
    · refine k_c2 10 rfl rfl (if_neg b48) ?_
      have b48 := mt iv_lt.mpr b48
      refine k_push 11 rfl rfl ?_
      have hc91 : (1 : Int32).toInt = 1 := by decide
      refine k_goto 15 rfl rfl ?_
      refine k_fin rfl (fin_Z (Or.inr rfl)) ⟨_, _, rfl, rf_len I3 I3, ?_⟩
      show am_Ok _ _ _ (14, _, [.inl (1 : Int32), .inr (.inr (some 81))], _, 0, 0) _
      refine k_push 15 rfl rfl ?_
      refine k_in (d := 0) rfl rfl rfl rfl I3.rc ?_
      refine k_aload 1 rfl rfl rfl ?_
      refine r_gI I3 4 rfl rfl rfl (fun x92 (e93 : x92.toInt = (0 : Int32).toInt) => ?_)
      by_cases b94 : x92 = 0
      · refine k_c1 7 rfl rfl (if_pos b94) ?_
        have b94 := iv_eq0.mp b94
        refine k_iload 8 rfl rfl rfl ?_
        refine k_c1 16 rfl rfl (if_neg (by decide)) ?_
        refine k_aload 17 rfl rfl rfl ?_
        refine r_gI I3 20 rfl rfl rfl (fun x95 (e96 : x95.toInt = (0 : Int32).toInt) => ?_)
        by_cases b97 : x95 = 0
        · refine k_c1 23 rfl rfl (if_pos b97) ?_
          have b97 := iv_eq0.mp b97
          refine k_push 24 rfl rfl ?_
          refine k_goto 28 rfl rfl ?_
          refine k_fin rfl (fin_Z (Or.inr rfl)) ⟨_, _, rfl, rf_len I3 I3, ?_⟩
          show am_Ok _ _ _ (18, _, [.inl (1 : Int32)], _, 0, 0) _
          refine k_c1 23 rfl rfl (if_neg (by decide)) ?_
          refine k_aload 24 rfl rfl rfl ?_
          refine k_iload 25 rfl rfl rfl ?_
          refine k_rq I3 rfl (m_goesPlainE (gL := gL) I3.1 (show (A0 2) 2 = ((gL).length : Int) ∧ (gL).length ≤ 120 from p1) (show wd ((A0 1)) 2600 (gL) from p2) (show ∀ z9, z9 ∈ (gL) → 0 ≤ z9 ∧ z9 ≤ 200 from p3) (show 0 ≤ w1.toInt ∧ w1.toInt ≤ 200 by omega) (show wL (gL) from p9)) rfl rfl rfl I3.rc ?_
          rintro x98 h99 F100 A101 I102 ⟨k104, k105, pq103⟩
          replace pq103 : ((x98.toInt = 0 ∧ PLN w1.toInt.toNat (gL) none) ∨ (x98.toInt = 1 ∧ ∃ c9 : List Int, PLN w1.toInt.toNat (gL) (some c9) ∧ A101 2 1 = (c9.length : Int))) ∧ (∀ q : Int, (q < 1300 ∨ 2600 ≤ q) → A101 1 q = (A0 1) q) ∧ (∀ q : Int, q ≠ 1 → A101 2 q = (A0 2) q) := pq103
          obtain ⟨pq103a, pq103c, pq103d⟩ := pq103
          have z106 := iv_01 (x := x98) (pq103a.elim (fun z => Or.inl z.1) (fun z => Or.inr z.1))
          show am_Ok _ _ _ (28, _, [.inl x98], _, 0, 0) _
          have hg9 := pq103a
          clear pq103a
          by_cases b107 : x98 = 0
          · refine k_c1 40 rfl rfl (if_pos b107) ?_
            have b107 := iv_eq0.mp b107
            have hpn : PLx gL w1.toInt (-1 : Int32).toInt := by obtain ⟨-, h8⟩ := hg9.resolve_right (fun z => by have h9 := z.1; omega); exact ⟨_, h8, Or.inl ⟨rfl, by decide⟩⟩
            refine k_push 41 rfl rfl ?_
            have hc108 : (-1 : Int32).toInt = -1 := by decide
            have e109 : F100 0 = (0 : Int32).toInt := k104 0 (by decide)
            exact k_fin rfl rfl ⟨_, _, _, _, rfl, I102, (fr1.tr (by decide) (fr1.up (by decide) fr1.rf) k104), (fr2.tr (by decide) fr2.rf k105), ⟨p5.fr k105 (by decide), p6.fr k105 (by decide), pq103d 2 (by decide), fun q hq => pq103c q (Or.inr hq), Or.inl ⟨by omega, by omega, by omega, hpn⟩⟩⟩
          · refine k_c1 31 rfl rfl (if_neg b107) ?_
            have b107 := mt iv_eq0.mpr b107
            refine k_aload 32 rfl rfl rfl ?_
            refine r_gA I102 35 rfl rfl rfl ?_
            refine k_push 36 rfl rfl ?_
            refine r_ld 2 I102 37 rfl rfl (by omega) (show (1 : Int32).toInt < 3 by omega) rfl (fun x110 (e111 : x110.toInt = A101 2 (1 : Int32).toInt) => ?_)
            rw [hc91] at e111
            have hpy : PLx gL w1.toInt x110.toInt := by obtain ⟨-, c9, h8, h7⟩ := hg9.resolve_left (fun z => by have h9 := z.1; omega); exact ⟨_, h8, Or.inr ⟨c9, rfl, by rw [e111]; exact h7⟩⟩
            refine k_goto 41 rfl rfl ?_
            have e112 : F100 0 = (0 : Int32).toInt := k104 0 (by decide)
            exact k_fin rfl rfl ⟨_, _, _, _, rfl, I102, (fr1.tr (by decide) (fr1.up (by decide) fr1.rf) k104), (fr2.tr (by decide) fr2.rf k105), ⟨p5.fr k105 (by decide), p6.fr k105 (by decide), pq103d 2 (by decide), fun q hq => pq103c q (Or.inr hq), Or.inl ⟨by omega, by omega, by omega, hpy⟩⟩⟩
        · refine k_c1 27 rfl rfl (if_neg b97) ?_
          have b97 := mt iv_eq0.mpr b97
          refine k_push 28 rfl rfl ?_
          refine k_fin rfl (fin_Z (Or.inl rfl)) ⟨_, _, rfl, rf_len I3 I3, ?_⟩
          show am_Ok _ _ _ (18, _, [.inl (0 : Int32)], _, 0, 0) _
          refine k_c1 21 rfl rfl (if_pos (by decide)) ?_
          refine k_push 22 rfl rfl ?_
          exact k_fin rfl rfl ⟨_, _, _, _, rfl, I3, (fr1.up (by decide) fr1.rf), fr2.rf, show wr A0 ∧ wq A0 ∧ (A0 2) 2 = A0 2 2 ∧ (∀ q : Int, 2600 ≤ q → (A0 1) q = A0 1 q) ∧ ((0 ≤ w1.toInt ∧ w1.toInt ≤ 200 ∧ ((0 : Int32).toInt) = 0 ∧ PLx gL w1.toInt (0 : Int32).toInt) ∨ ((w1.toInt < 0 ∨ 200 < w1.toInt) ∧ ((0 : Int32).toInt) = 1)) from ⟨p5, p6, rfl, fun q _ => rfl, Or.inr ⟨by omega, by omega⟩⟩⟩
      · refine k_c1 16 rfl rfl (if_neg b94) ?_
        have b94 := mt iv_eq0.mpr b94
        refine k_aload 17 rfl rfl rfl ?_
        refine r_gI I3 20 rfl rfl rfl (fun x113 (e114 : x113.toInt = (0 : Int32).toInt) => ?_)
        by_cases b115 : x113 = 0
        · refine k_c1 23 rfl rfl (if_pos b115) ?_
          have b115 := iv_eq0.mp b115
          refine k_push 24 rfl rfl ?_
          refine k_goto 28 rfl rfl ?_
          refine k_fin rfl (fin_Z (Or.inr rfl)) ⟨_, _, rfl, rf_len I3 I3, ?_⟩
          show am_Ok _ _ _ (18, _, [.inl (1 : Int32)], _, 0, 0) _
          refine k_c1 23 rfl rfl (if_neg (by decide)) ?_
          refine k_aload 24 rfl rfl rfl ?_
          refine k_iload 25 rfl rfl rfl ?_
          refine k_rq I3 rfl (m_goesPlainE (gL := gL) I3.1 (show (A0 2) 2 = ((gL).length : Int) ∧ (gL).length ≤ 120 from p1) (show wd ((A0 1)) 2600 (gL) from p2) (show ∀ z9, z9 ∈ (gL) → 0 ≤ z9 ∧ z9 ≤ 200 from p3) (show 0 ≤ w1.toInt ∧ w1.toInt ≤ 200 by omega) (show wL (gL) from p9)) rfl rfl rfl I3.rc ?_
          rintro x116 h117 F118 A119 I120 ⟨k122, k123, pq121⟩
          replace pq121 : ((x116.toInt = 0 ∧ PLN w1.toInt.toNat (gL) none) ∨ (x116.toInt = 1 ∧ ∃ c9 : List Int, PLN w1.toInt.toNat (gL) (some c9) ∧ A119 2 1 = (c9.length : Int))) ∧ (∀ q : Int, (q < 1300 ∨ 2600 ≤ q) → A119 1 q = (A0 1) q) ∧ (∀ q : Int, q ≠ 1 → A119 2 q = (A0 2) q) := pq121
          obtain ⟨pq121a, pq121c, pq121d⟩ := pq121
          have z124 := iv_01 (x := x116) (pq121a.elim (fun z => Or.inl z.1) (fun z => Or.inr z.1))
          show am_Ok _ _ _ (28, _, [.inl x116], _, 0, 0) _
          have hg9 := pq121a
          clear pq121a
          by_cases b125 : x116 = 0
          · refine k_c1 40 rfl rfl (if_pos b125) ?_
            have b125 := iv_eq0.mp b125
            have hpn : PLx gL w1.toInt (-1 : Int32).toInt := by obtain ⟨-, h8⟩ := hg9.resolve_right (fun z => by have h9 := z.1; omega); exact ⟨_, h8, Or.inl ⟨rfl, by decide⟩⟩
            refine k_push 41 rfl rfl ?_
            have hc126 : (-1 : Int32).toInt = -1 := by decide
            have e127 : F118 0 = (0 : Int32).toInt := k122 0 (by decide)
            exact k_fin rfl rfl ⟨_, _, _, _, rfl, I120, (fr1.tr (by decide) (fr1.up (by decide) fr1.rf) k122), (fr2.tr (by decide) fr2.rf k123), ⟨p5.fr k123 (by decide), p6.fr k123 (by decide), pq121d 2 (by decide), fun q hq => pq121c q (Or.inr hq), Or.inl ⟨by omega, by omega, by omega, hpn⟩⟩⟩
          · refine k_c1 31 rfl rfl (if_neg b125) ?_
            have b125 := mt iv_eq0.mpr b125
            refine k_aload 32 rfl rfl rfl ?_
            refine r_gA I120 35 rfl rfl rfl ?_
            refine k_push 36 rfl rfl ?_
            refine r_ld 2 I120 37 rfl rfl (by omega) (show (1 : Int32).toInt < 3 by omega) rfl (fun x128 (e129 : x128.toInt = A119 2 (1 : Int32).toInt) => ?_)
            rw [hc91] at e129
            have hpy : PLx gL w1.toInt x128.toInt := by obtain ⟨-, c9, h8, h7⟩ := hg9.resolve_left (fun z => by have h9 := z.1; omega); exact ⟨_, h8, Or.inr ⟨c9, rfl, by rw [e129]; exact h7⟩⟩
            refine k_goto 41 rfl rfl ?_
            have e130 : F118 0 = (0 : Int32).toInt := k122 0 (by decide)
            exact k_fin rfl rfl ⟨_, _, _, _, rfl, I120, (fr1.tr (by decide) (fr1.up (by decide) fr1.rf) k122), (fr2.tr (by decide) fr2.rf k123), ⟨p5.fr k123 (by decide), p6.fr k123 (by decide), pq121d 2 (by decide), fun q hq => pq121c q (Or.inr hq), Or.inl ⟨by omega, by omega, by omega, hpy⟩⟩⟩
        · refine k_c1 27 rfl rfl (if_neg b115) ?_
          have b115 := mt iv_eq0.mpr b115
          refine k_push 28 rfl rfl ?_
          refine k_fin rfl (fin_Z (Or.inl rfl)) ⟨_, _, rfl, rf_len I3 I3, ?_⟩
          show am_Ok _ _ _ (18, _, [.inl (0 : Int32)], _, 0, 0) _
          refine k_c1 21 rfl rfl (if_pos (by decide)) ?_
          refine k_push 22 rfl rfl ?_
          exact k_fin rfl rfl ⟨_, _, _, _, rfl, I3, (fr1.up (by decide) fr1.rf), fr2.rf, show wr A0 ∧ wq A0 ∧ (A0 2) 2 = A0 2 2 ∧ (∀ q : Int, 2600 ≤ q → (A0 1) q = A0 1 q) ∧ ((0 ≤ w1.toInt ∧ w1.toInt ≤ 200 ∧ ((0 : Int32).toInt) = 0 ∧ PLx gL w1.toInt (0 : Int32).toInt) ∨ ((w1.toInt < 0 ∨ 200 < w1.toInt) ∧ ((0 : Int32).toInt) = 1)) from ⟨p5, p6, rfl, fun q _ => rfl, Or.inr ⟨by omega, by omega⟩⟩⟩
end
