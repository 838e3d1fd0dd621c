section
theorem b_X10_keepsNet_52 {h0 : am_h} {F0 : rf_f} {A0 : rf_A}  (p1 : 0 ≤ F0 28 ∧ F0 28 ≤ 400) : ∀ (n : Nat) {lv : am_l} {h : am_h} {F : rf_f} {A : rf_A} {v1 : Int32} {v2 : Int32}, (((400 - v1.toInt) * 8 + (4 - v2.toInt)).toNat) = n → am_get lv 0 = some (.inr (.inr (some 81))) → am_get lv 1 = some (.inl v1) → am_get lv 2 = some (.inl v2) → rf_I h0 h F A → fr1 [36, 37] F0 F → fr2 [33, 34, 35] A0 A → (0 ≤ v1.toInt ∧ v1.toInt < F0 28 ∧ 0 ≤ v2.toInt ∧ v2.toInt ≤ 4) → (F 36 = F0 27 ∧ F 37 = F0 28) → (∀ j : Int, 0 ≤ j → j ≤ v1.toInt → A 33 j = A0 24 j ∧ A 34 j = A0 25 j) → (∀ p : Int, 0 ≤ p → p < 4 * v1.toInt + v2.toInt → A 35 p = A0 26 p) → am_Ok am_G 0 199 (52, lv, [], h, 0, 0) (rf_V h0 (fun F' A' => fr1 [36, 37] F0 F' ∧ fr2 [33, 34, 35] A0 A' ∧ ((F' 36 = F0 27 ∧ F' 37 = F0 28) ∧ (∀ j : Int, 0 ≤ j → j < F0 28 → A' 33 j = A0 24 j ∧ A' 34 j = A0 25 j) ∧ (∀ p : Int, 0 ≤ p → p < 4 * F0 28 → A' 35 p = A0 26 p)))) := by
  intro n
  induction n using Nat.strongRecOn with
  | ind n ih =>
    intro lv h F A v1 v2 hn g0 g1 g2 hI hF hA i1 i2 i3 i4
    refine k_iload 53 rfl g2 rfl ?_
    refine k_push 54 rfl rfl ?_
    have hc1 : (4 : Int32).toInt = 4 := by decide
    by_cases b2 : (4 : Int32) ≤ v2
    · refine k_c2 83 rfl rfl (if_pos b2) ?_
      have b2 := iv_le.mp b2
      have hc3 : (1 : Int32).toInt = 1 := by decide
      obtain ⟨x4, q5⟩ : ∃ q : Int32, q = v1 + (1 : Int32) := ⟨_, rfl⟩
      have e6 : x4.toInt = v1.toInt + 1 := by rw [q5, iv_add (by omega) (by omega)]; omega
      refine k_iinc x4 86 rfl g1 q5.symm rfl ?_
      refine k_goto 18 rfl rfl ?_
      refine k_iload 19 rfl gs_eq rfl ?_
      refine k_aload 20 rfl (gs_ne rfl rfl g0) rfl ?_
      refine r_gI hI 23 rfl rfl rfl (fun x7 (e8 : x7.toInt = F 28) => ?_)
      have e9 : F 28 = F0 28 := hF 28 (by decide)
      by_cases b10 : x7 ≤ x4
      · refine k_c2 89 rfl rfl (if_pos b10) ?_
        have b10 := iv_le.mp b10
        exact k_fin rfl rfl ⟨_, _, _, rfl, hI, hF, hA, ⟨i2, fun j j1 j2 => i3 j j1 (by omega), fun p p1 p2 => i4 p p1 (by omega)⟩⟩
      · refine k_c2 26 rfl rfl (if_neg b10) ?_
        have b10 := mt iv_le.mpr b10
        refine k_aload 27 rfl (gs_ne rfl rfl g0) rfl ?_
        refine r_gA hI 30 rfl rfl rfl ?_
        refine k_iload 31 rfl gs_eq rfl ?_
        refine k_aload 32 rfl (gs_ne rfl rfl g0) rfl ?_
        refine r_gA hI 35 rfl rfl rfl ?_
        refine k_iload 36 rfl gs_eq rfl ?_
        refine r_ld 24 hI 37 rfl rfl (by omega) (show x4.toInt < 8010 by omega) rfl (fun x11 (e12 : x11.toInt = A 24 x4.toInt) => ?_)
        have e13 : A 24 = A0 24 := hA 24 (by decide)
        rw [e13] at e12
        have hk9 : x11.toInt = A0 24 x4.toInt := e12.trans (congrArg (A0 24) (by omega))
        refine r_st 33 hI 38 rfl rfl (by omega) (show x4.toInt < 400 by omega) rfl (fun h14 I15 => ?_)
        refine k_aload 39 rfl (gs_ne rfl rfl g0) rfl ?_
        refine r_gA I15 42 rfl rfl rfl ?_
        refine k_iload 43 rfl gs_eq rfl ?_
        refine k_aload 44 rfl (gs_ne rfl rfl g0) rfl ?_
        refine r_gA I15 47 rfl rfl rfl ?_
        refine k_iload 48 rfl gs_eq rfl ?_
        refine r_ld 25 I15 49 rfl rfl (by omega) (show x4.toInt < 8010 by omega) rfl (fun x16 (e17 : x16.toInt = A 25 x4.toInt) => ?_)
        have e18 : A 25 = A0 25 := hA 25 (by decide)
        rw [e18] at e17
        have hl9 : x16.toInt = A0 25 x4.toInt := e17.trans (congrArg (A0 25) (by omega))
        refine r_st 34 I15 50 rfl rfl (by omega) (show x4.toInt < 400 by omega) rfl (fun h19 I20 => ?_)
        refine k_push 51 rfl rfl ?_
        have hc21 : (0 : Int32).toInt = 0 := by decide
        refine k_istore 52 rfl rfl ?_
        exact ih _ (show (((400 - x4.toInt) * 8 + (4 - (0 : Int32).toInt)).toNat) < n by omega)  rfl (gs_ne rfl rfl (gs_ne rfl rfl g0)) (gs_ne rfl rfl gs_eq) gs_eq I20 hF (fr2.up (by decide) (fr2.up (by decide) hA)) (show 0 ≤ x4.toInt ∧ x4.toInt < F0 28 ∧ 0 ≤ (0 : Int32).toInt ∧ (0 : Int32).toInt ≤ 4 by omega) (show (F 36) = F0 27 ∧ (F 37) = F0 28 by omega) (kp_2 (by decide) i3 (by omega) hk9 hl9) (kp_0 i4 (by decide) (by decide) (by omega))
    · refine k_c2 57 rfl rfl (if_neg b2) ?_
      have b2 := mt iv_le.mpr b2
      refine k_aload 58 rfl g0 rfl ?_
      refine r_gA hI 61 rfl rfl rfl ?_
      refine k_push 62 rfl rfl ?_
      refine k_iload 63 rfl g1 rfl ?_
      obtain ⟨x22, q23⟩ : ∃ q : Int32, q = ((4 : Int32) * v1) := ⟨_, rfl⟩
      have e24 : x22.toInt = 4 * v1.toInt := by rw [q23]; exact iv_mulc 4 (by decide) (by omega) (by omega)
      refine k_bin x22 64 rfl q23.symm rfl ?_
      refine k_iload 65 rfl g2 rfl ?_
      obtain ⟨x25, q26⟩ : ∃ q : Int32, q = (x22 + v2) := ⟨_, rfl⟩
      have e27 : x25.toInt = x22.toInt + v2.toInt := by rw [q26, iv_add (by omega) (by omega)]
      refine k_bin x25 66 rfl q26.symm rfl ?_
      refine k_aload 67 rfl g0 rfl ?_
      refine r_gA hI 70 rfl rfl rfl ?_
      refine k_push 71 rfl rfl ?_
      refine k_iload 72 rfl g1 rfl ?_
      obtain ⟨x28, q29⟩ : ∃ q : Int32, q = ((4 : Int32) * v1) := ⟨_, rfl⟩
      have e30 : x28.toInt = 4 * v1.toInt := by rw [q29]; exact iv_mulc 4 (by decide) (by omega) (by omega)
      refine k_bin x28 73 rfl q29.symm rfl ?_
      refine k_iload 74 rfl g2 rfl ?_
      obtain ⟨x31, q32⟩ : ∃ q : Int32, q = (x28 + v2) := ⟨_, rfl⟩
      have e33 : x31.toInt = x28.toInt + v2.toInt := by rw [q32, iv_add (by omega) (by omega)]
      refine k_bin x31 75 rfl q32.symm rfl ?_
      refine r_ld 26 hI 76 rfl rfl (by omega) (show x31.toInt < 32040 by omega) rfl (fun x34 (e35 : x34.toInt = A 26 x31.toInt) => ?_)
      rw [e33] at e35
      rw [e30] at e35
      have e36 : A 26 = A0 26 := hA 26 (by decide)
      rw [e36] at e35
      have hx9 : x34.toInt = A0 26 x25.toInt := e35.trans (congrArg (A0 26) (by omega))
      refine r_st 35 hI 77 rfl rfl (by omega) (show x25.toInt < 1600 by omega) rfl (fun h37 I38 => ?_)
      have hc39 : (1 : Int32).toInt = 1 := by decide
      obtain ⟨x40, q41⟩ : ∃ q : Int32, q = v2 + (1 : Int32) := ⟨_, rfl⟩
      have e42 : x40.toInt = v2.toInt + 1 := by rw [q41, iv_add (by omega) (by omega)]; omega
      refine k_iinc x40 80 rfl g2 q41.symm rfl ?_
      refine k_goto 52 rfl rfl ?_
      exact ih _ (show (((400 - v1.toInt) * 8 + (4 - x40.toInt)).toNat) < n by omega)  rfl (gs_ne rfl rfl g0) (gs_ne rfl rfl g1) gs_eq I38 hF (fr2.up (by decide) hA) (show 0 ≤ v1.toInt ∧ v1.toInt < F0 28 ∧ 0 ≤ x40.toInt ∧ x40.toInt ≤ 4 by omega) (show (F 36) = F0 27 ∧ (F 37) = F0 28 by omega) (fun j j1 j2 => ⟨(up2_r (by decide)).trans (i3 j j1 j2).1, (up2_r (by decide)).trans (i3 j j1 j2).2⟩) (kp_1 i4 (by omega) hx9 (by omega))
theorem m_keepsNet {h0 : am_h} {F0 : rf_f} {A0 : rf_A}  (hR : rf_R h0 F0 A0) (p1 : 0 ≤ F0 28 ∧ F0 28 ≤ 400) : am_Mt 1 199 [.inr (.inr (some 81))] h0 (rf_V h0 (fun F' A' => fr1 [36, 37] F0 F' ∧ fr2 [33, 34, 35] A0 A' ∧ ((F' 36 = F0 27 ∧ F' 37 = F0 28) ∧ (∀ j : Int, 0 ≤ j → j < F0 28 → A' 33 j = A0 24 j ∧ A' 34 j = A0 25 j) ∧ (∀ p : Int, 0 ≤ p → p < 4 * F0 28 → A' 35 p = A0 26 p)))) := by
  refine am_Mt.of (D := 0) ?_
  have hI : rf_I h0 h0 F0 A0 := rf_I.start hR
  refine k_aload 1 rfl rfl rfl ?_
  refine k_aload 2 rfl rfl rfl ?_
  refine r_gI hI 5 rfl rfl rfl (fun x43 (e44 : x43.toInt = F0 27) => ?_)
  refine r_pI hI 8 rfl rfl rfl (fun h45 I46 => ?_)
  refine k_aload 9 rfl rfl rfl ?_
  refine k_aload 10 rfl rfl rfl ?_
  refine r_gI I46 13 rfl rfl rfl (fun x47 (e48 : x47.toInt = F0 28) => ?_)
  refine r_pI I46 16 rfl rfl rfl (fun h49 I50 => ?_)
  refine k_push 17 rfl rfl ?_
  have hc51 : (0 : Int32).toInt = 0 := by decide
  refine k_istore 18 rfl rfl ?_
  refine k_iload 19 rfl gs_eq rfl ?_
  refine k_aload 20 rfl (gs_ne rfl rfl rfl) rfl ?_
  refine r_gI I50 23 rfl rfl rfl (fun x52 (e53 : x52.toInt = F0 28) => ?_)
  by_cases b54 : x52 ≤ (0 : Int32)
  · refine k_c2 89 rfl rfl (if_pos b54) ?_
    have b54 := iv_le.mp b54
    exact k_fin rfl rfl ⟨_, _, _, rfl, I50, (fr1.up (by decide) (fr1.up (by decide) fr1.rf)), fr2.rf, ⟨(show x43.toInt = F0 27 ∧ x47.toInt = F0 28 by omega), fun j j1 j2 => absurd j2 (by omega), fun p p1 p2 => absurd p2 (by omega)⟩⟩
  · refine k_c2 26 rfl rfl (if_neg b54) ?_
    have b54 := mt iv_le.mpr b54
    refine k_aload 27 rfl (gs_ne rfl rfl rfl) rfl ?_
    refine r_gA I50 30 rfl rfl rfl ?_
    refine k_iload 31 rfl gs_eq rfl ?_
    refine k_aload 32 rfl (gs_ne rfl rfl rfl) rfl ?_
    refine r_gA I50 35 rfl rfl rfl ?_
    refine k_iload 36 rfl gs_eq rfl ?_
    refine r_ld 24 I50 37 rfl rfl (by omega) (show (0 : Int32).toInt < 8010 by omega) rfl (fun x55 (e56 : x55.toInt = A0 24 (0 : Int32).toInt) => ?_)
    rw [hc51] at e56
    have hk9 : x55.toInt = A0 24 (0 : Int32).toInt := e56.trans (congrArg (A0 24) (by omega))
    refine r_st 33 I50 38 rfl rfl (by omega) (show (0 : Int32).toInt < 400 by omega) rfl (fun h57 I58 => ?_)
    refine k_aload 39 rfl (gs_ne rfl rfl rfl) rfl ?_
    refine r_gA I58 42 rfl rfl rfl ?_
    refine k_iload 43 rfl gs_eq rfl ?_
    refine k_aload 44 rfl (gs_ne rfl rfl rfl) rfl ?_
    refine r_gA I58 47 rfl rfl rfl ?_
    refine k_iload 48 rfl gs_eq rfl ?_
    refine r_ld 25 I58 49 rfl rfl (by omega) (show (0 : Int32).toInt < 8010 by omega) rfl (fun x59 (e60 : x59.toInt = A0 25 (0 : Int32).toInt) => ?_)
    rw [hc51] at e60
    have hl9 : x59.toInt = A0 25 (0 : Int32).toInt := e60.trans (congrArg (A0 25) (by omega))
    refine r_st 34 I58 50 rfl rfl (by omega) (show (0 : Int32).toInt < 400 by omega) rfl (fun h61 I62 => ?_)
    refine k_push 51 rfl rfl ?_
    refine k_istore 52 rfl rfl ?_
    exact b_X10_keepsNet_52   p1 _  rfl (gs_ne rfl rfl (gs_ne rfl rfl rfl)) (gs_ne rfl rfl gs_eq) gs_eq I62 (fr1.up (by decide) (fr1.up (by decide) fr1.rf)) (fr2.up (by decide) (fr2.up (by decide) fr2.rf)) (show 0 ≤ (0 : Int32).toInt ∧ (0 : Int32).toInt < F0 28 ∧ 0 ≤ (0 : Int32).toInt ∧ (0 : Int32).toInt ≤ 4 by omega) (show (x43.toInt) = F0 27 ∧ (x47.toInt) = F0 28 by omega) (kp_2 (n := -1) (by decide) (fun j j1 j2 => absurd j2 (by omega)) (by omega) hk9 hl9) (fun p p1 p2 => absurd p2 (by omega))
theorem b_X10_comesNet_74 {h0 : am_h} {F0 : rf_f} {A0 : rf_A}  (p1 : 0 ≤ F0 37 ∧ F0 37 ≤ 400) : ∀ (n : Nat) {lv : am_l} {h : am_h} {F : rf_f} {A : rf_A} {v1 : Int32} {v2 : Int32}, (((400 - v1.toInt) * 8 + (4 - v2.toInt)).toNat) = n → am_get lv 0 = some (.inr (.inr (some 81))) → am_get lv 1 = some (.inl v1) → am_get lv 2 = some (.inl v2) → rf_I h0 h F A → fr1 [27, 28] F0 F → fr2 [24, 25, 26] A0 A → (0 ≤ v1.toInt ∧ v1.toInt < F0 37 ∧ 0 ≤ v2.toInt ∧ v2.toInt ≤ 4) → (F 27 = F0 36 ∧ F 28 = F0 37) → (∀ j : Int, 0 ≤ j → j ≤ v1.toInt → A 24 j = A0 33 j ∧ A 25 j = A0 34 j) → (∀ p : Int, 0 ≤ p → p < 4 * v1.toInt + v2.toInt → A 26 p = A0 35 p) → am_Ok am_G 0 200 (74, lv, [], h, 0, 0) (rf_V h0 (fun F' A' => fr1 [27, 28] F0 F' ∧ fr2 [24, 25, 26] A0 A' ∧ ((F' 27 = F0 36 ∧ F' 28 = F0 37) ∧ (∀ j : Int, 0 ≤ j → j < F0 37 → A' 24 j = A0 33 j ∧ A' 25 j = A0 34 j) ∧ (∀ p : Int, 0 ≤ p → p < 4 * F0 37 → A' 26 p = A0 35 p)))) := by
  intro n
  induction n using Nat.strongRecOn with
  | ind n ih =>
    intro lv h F A v1 v2 hn g0 g1 g2 hI hF hA i1 i2 i3 i4
    refine k_iload 75 rfl g2 rfl ?_
    refine k_push 76 rfl rfl ?_
    have hc1 : (4 : Int32).toInt = 4 := by decide
    by_cases b2 : (4 : Int32) ≤ v2
    · refine k_c2 105 rfl rfl (if_pos b2) ?_
      have b2 := iv_le.mp b2
      have hc3 : (1 : Int32).toInt = 1 := by decide
      obtain ⟨x4, q5⟩ : ∃ q : Int32, q = v1 + (1 : Int32) := ⟨_, rfl⟩
      have e6 : x4.toInt = v1.toInt + 1 := by rw [q5, iv_add (by omega) (by omega)]; omega
      refine k_iinc x4 108 rfl g1 q5.symm rfl ?_
      refine k_goto 40 rfl rfl ?_
      refine k_iload 41 rfl gs_eq rfl ?_
      refine k_aload 42 rfl (gs_ne rfl rfl g0) rfl ?_
      refine r_gI hI 45 rfl rfl rfl (fun x7 (e8 : x7.toInt = F 28) => ?_)
      by_cases b9 : x7 ≤ x4
      · refine k_c2 111 rfl rfl (if_pos b9) ?_
        have b9 := iv_le.mp b9
        exact k_fin rfl rfl ⟨_, _, _, rfl, hI, hF, hA, ⟨i2, fun j j1 j2 => i3 j j1 (by omega), fun p p1 p2 => i4 p p1 (by omega)⟩⟩
      · refine k_c2 48 rfl rfl (if_neg b9) ?_
        have b9 := mt iv_le.mpr b9
        refine k_aload 49 rfl (gs_ne rfl rfl g0) rfl ?_
        refine r_gA hI 52 rfl rfl rfl ?_
        refine k_iload 53 rfl gs_eq rfl ?_
        refine k_aload 54 rfl (gs_ne rfl rfl g0) rfl ?_
        refine r_gA hI 57 rfl rfl rfl ?_
        refine k_iload 58 rfl gs_eq rfl ?_
        refine r_ld 33 hI 59 rfl rfl (by omega) (show x4.toInt < 400 by omega) rfl (fun x10 (e11 : x10.toInt = A 33 x4.toInt) => ?_)
        have e12 : A 33 = A0 33 := hA 33 (by decide)
        rw [e12] at e11
        have hk9 : x10.toInt = A0 33 x4.toInt := e11.trans (congrArg (A0 33) (by omega))
        refine r_st 24 hI 60 rfl rfl (by omega) (show x4.toInt < 8010 by omega) rfl (fun h13 I14 => ?_)
        refine k_aload 61 rfl (gs_ne rfl rfl g0) rfl ?_
        refine r_gA I14 64 rfl rfl rfl ?_
        refine k_iload 65 rfl gs_eq rfl ?_
        refine k_aload 66 rfl (gs_ne rfl rfl g0) rfl ?_
        refine r_gA I14 69 rfl rfl rfl ?_
        refine k_iload 70 rfl gs_eq rfl ?_
        refine r_ld 34 I14 71 rfl rfl (by omega) (show x4.toInt < 400 by omega) rfl (fun x15 (e16 : x15.toInt = A 34 x4.toInt) => ?_)
        have e17 : A 34 = A0 34 := hA 34 (by decide)
        rw [e17] at e16
        have hl9 : x15.toInt = A0 34 x4.toInt := e16.trans (congrArg (A0 34) (by omega))
        refine r_st 25 I14 72 rfl rfl (by omega) (show x4.toInt < 8010 by omega) rfl (fun h18 I19 => ?_)
        refine k_push 73 rfl rfl ?_
        have hc20 : (0 : Int32).toInt = 0 := by decide
        refine k_istore 74 rfl rfl ?_
        exact ih _ (show (((400 - x4.toInt) * 8 + (4 - (0 : Int32).toInt)).toNat) < n by omega)  rfl (gs_ne rfl rfl (gs_ne rfl rfl g0)) (gs_ne rfl rfl gs_eq) gs_eq I19 hF (fr2.up (by decide) (fr2.up (by decide) hA)) (show 0 ≤ x4.toInt ∧ x4.toInt < F0 37 ∧ 0 ≤ (0 : Int32).toInt ∧ (0 : Int32).toInt ≤ 4 by omega) (show (F 27) = F0 36 ∧ (F 28) = F0 37 by omega) (kp_2 (by decide) i3 (by omega) hk9 hl9) (kp_0 i4 (by decide) (by decide) (by omega))
    · refine k_c2 79 rfl rfl (if_neg b2) ?_
      have b2 := mt iv_le.mpr b2
      refine k_aload 80 rfl g0 rfl ?_
      refine r_gA hI 83 rfl rfl rfl ?_
      refine k_push 84 rfl rfl ?_
      refine k_iload 85 rfl g1 rfl ?_
      obtain ⟨x21, q22⟩ : ∃ q : Int32, q = ((4 : Int32) * v1) := ⟨_, rfl⟩
      have e23 : x21.toInt = 4 * v1.toInt := by rw [q22]; exact iv_mulc 4 (by decide) (by omega) (by omega)
      refine k_bin x21 86 rfl q22.symm rfl ?_
      refine k_iload 87 rfl g2 rfl ?_
      obtain ⟨x24, q25⟩ : ∃ q : Int32, q = (x21 + v2) := ⟨_, rfl⟩
      have e26 : x24.toInt = x21.toInt + v2.toInt := by rw [q25, iv_add (by omega) (by omega)]
      refine k_bin x24 88 rfl q25.symm rfl ?_
      refine k_aload 89 rfl g0 rfl ?_
      refine r_gA hI 92 rfl rfl rfl ?_
      refine k_push 93 rfl rfl ?_
      refine k_iload 94 rfl g1 rfl ?_
      obtain ⟨x27, q28⟩ : ∃ q : Int32, q = ((4 : Int32) * v1) := ⟨_, rfl⟩
      have e29 : x27.toInt = 4 * v1.toInt := by rw [q28]; exact iv_mulc 4 (by decide) (by omega) (by omega)
      refine k_bin x27 95 rfl q28.symm rfl ?_
      refine k_iload 96 rfl g2 rfl ?_
      obtain ⟨x30, q31⟩ : ∃ q : Int32, q = (x27 + v2) := ⟨_, rfl⟩
      have e32 : x30.toInt = x27.toInt + v2.toInt := by rw [q31, iv_add (by omega) (by omega)]
      refine k_bin x30 97 rfl q31.symm rfl ?_
      refine r_ld 35 hI 98 rfl rfl (by omega) (show x30.toInt < 1600 by omega) rfl (fun x33 (e34 : x33.toInt = A 35 x30.toInt) => ?_)
      rw [e32] at e34
      rw [e29] at e34
      have e35 : A 35 = A0 35 := hA 35 (by decide)
      rw [e35] at e34
      have hx9 : x33.toInt = A0 35 x24.toInt := e34.trans (congrArg (A0 35) (by omega))
      refine r_st 26 hI 99 rfl rfl (by omega) (show x24.toInt < 32040 by omega) rfl (fun h36 I37 => ?_)
      have hc38 : (1 : Int32).toInt = 1 := by decide
      obtain ⟨x39, q40⟩ : ∃ q : Int32, q = v2 + (1 : Int32) := ⟨_, rfl⟩
      have e41 : x39.toInt = v2.toInt + 1 := by rw [q40, iv_add (by omega) (by omega)]; omega
      refine k_iinc x39 102 rfl g2 q40.symm rfl ?_
      refine k_goto 74 rfl rfl ?_
      exact ih _ (show (((400 - v1.toInt) * 8 + (4 - x39.toInt)).toNat) < n by omega)  rfl (gs_ne rfl rfl g0) (gs_ne rfl rfl g1) gs_eq I37 hF (fr2.up (by decide) hA) (show 0 ≤ v1.toInt ∧ v1.toInt < F0 37 ∧ 0 ≤ x39.toInt ∧ x39.toInt ≤ 4 by omega) (show (F 27) = F0 36 ∧ (F 28) = F0 37 by omega) (fun j j1 j2 => ⟨(up2_r (by decide)).trans (i3 j j1 j2).1, (up2_r (by decide)).trans (i3 j j1 j2).2⟩) (kp_1 i4 (by omega) hx9 (by omega))
theorem b_X10_comesNet_2 {h0 : am_h} {F0 : rf_f} {A0 : rf_A}  (p1 : 0 ≤ F0 37 ∧ F0 37 ≤ 400) : ∀ (n : Nat) {lv : am_l} {h : am_h} {F : rf_f} {A : rf_A} {v1 : Int32}, ((8000 - v1.toInt).toNat) = n → am_get lv 0 = some (.inr (.inr (some 81))) → am_get lv 1 = some (.inl v1) → rf_I h0 h F A → fr1 [27, 28] F0 F → fr2 [24, 25, 26] A0 A → (0 ≤ v1.toInt ∧ v1.toInt ≤ 8000) → am_Ok am_G 0 200 (2, lv, [], h, 0, 0) (rf_V h0 (fun F' A' => fr1 [27, 28] F0 F' ∧ fr2 [24, 25, 26] A0 A' ∧ ((F' 27 = F0 36 ∧ F' 28 = F0 37) ∧ (∀ j : Int, 0 ≤ j → j < F0 37 → A' 24 j = A0 33 j ∧ A' 25 j = A0 34 j) ∧ (∀ p : Int, 0 ≤ p → p < 4 * F0 37 → A' 26 p = A0 35 p)))) := by
  intro n
  induction n using Nat.strongRecOn with
  | ind n ih =>
    intro lv h F A v1 hn g0 g1 hI hF hA i1
    refine k_iload 3 rfl g1 rfl ?_
    refine k_push 6 rfl rfl ?_
    have hc42 : (8000 : Int32).toInt = 8000 := by decide
    by_cases b43 : (8000 : Int32) ≤ v1
    · refine k_c2 22 rfl rfl (if_pos b43) ?_
      have b43 := iv_le.mp b43
      refine k_aload 23 rfl g0 rfl ?_
      refine k_aload 24 rfl g0 rfl ?_
      refine r_gI hI 27 rfl rfl rfl (fun x44 (e45 : x44.toInt = F 36) => ?_)
      have e46 : F 36 = F0 36 := hF 36 (by decide)
      refine r_pI hI 30 rfl rfl rfl (fun h47 I48 => ?_)
      refine k_aload 31 rfl g0 rfl ?_
      refine k_aload 32 rfl g0 rfl ?_
      refine r_gI I48 35 rfl rfl rfl (fun x49 (e50 : x49.toInt = F 37) => ?_)
      have e51 : F 37 = F0 37 := hF 37 (by decide)
      refine r_pI I48 38 rfl rfl rfl (fun h52 I53 => ?_)
      refine k_push 39 rfl rfl ?_
      have hc54 : (0 : Int32).toInt = 0 := by decide
      refine k_istore 40 rfl rfl ?_
      refine k_iload 41 rfl gs_eq rfl ?_
      refine k_aload 42 rfl (gs_ne rfl rfl g0) rfl ?_
      refine r_gI I53 45 rfl rfl rfl (fun x55 (e56 : x55.toInt = x49.toInt) => ?_)
      by_cases b57 : x55 ≤ (0 : Int32)
      · refine k_c2 111 rfl rfl (if_pos b57) ?_
        have b57 := iv_le.mp b57
        exact k_fin rfl rfl ⟨_, _, _, rfl, I53, (fr1.up (by decide) (fr1.up (by decide) hF)), hA, ⟨(show x44.toInt = F0 36 ∧ x49.toInt = F0 37 by omega), fun j j1 j2 => absurd j2 (by omega), fun p p1 p2 => absurd p2 (by omega)⟩⟩
      · refine k_c2 48 rfl rfl (if_neg b57) ?_
        have b57 := mt iv_le.mpr b57
        refine k_aload 49 rfl (gs_ne rfl rfl g0) rfl ?_
        refine r_gA I53 52 rfl rfl rfl ?_
        refine k_iload 53 rfl gs_eq rfl ?_
        refine k_aload 54 rfl (gs_ne rfl rfl g0) rfl ?_
        refine r_gA I53 57 rfl rfl rfl ?_
        refine k_iload 58 rfl gs_eq rfl ?_
        refine r_ld 33 I53 59 rfl rfl (by omega) (show (0 : Int32).toInt < 400 by omega) rfl (fun x58 (e59 : x58.toInt = A 33 (0 : Int32).toInt) => ?_)
        rw [hc54] at e59
        have e60 : A 33 = A0 33 := hA 33 (by decide)
        rw [e60] at e59
        have hk9 : x58.toInt = A0 33 (0 : Int32).toInt := e59.trans (congrArg (A0 33) (by omega))
        refine r_st 24 I53 60 rfl rfl (by omega) (show (0 : Int32).toInt < 8010 by omega) rfl (fun h61 I62 => ?_)
        refine k_aload 61 rfl (gs_ne rfl rfl g0) rfl ?_
        refine r_gA I62 64 rfl rfl rfl ?_
        refine k_iload 65 rfl gs_eq rfl ?_
        refine k_aload 66 rfl (gs_ne rfl rfl g0) rfl ?_
        refine r_gA I62 69 rfl rfl rfl ?_
        refine k_iload 70 rfl gs_eq rfl ?_
        refine r_ld 34 I62 71 rfl rfl (by omega) (show (0 : Int32).toInt < 400 by omega) rfl (fun x63 (e64 : x63.toInt = A 34 (0 : Int32).toInt) => ?_)
        rw [hc54] at e64
        have e65 : A 34 = A0 34 := hA 34 (by decide)
        rw [e65] at e64
        have hl9 : x63.toInt = A0 34 (0 : Int32).toInt := e64.trans (congrArg (A0 34) (by omega))
        refine r_st 25 I62 72 rfl rfl (by omega) (show (0 : Int32).toInt < 8010 by omega) rfl (fun h66 I67 => ?_)
        refine k_push 73 rfl rfl ?_
        refine k_istore 74 rfl rfl ?_
        exact b_X10_comesNet_74   p1 _  rfl (gs_ne rfl rfl (gs_ne rfl rfl g0)) (gs_ne rfl rfl gs_eq) gs_eq I67 (fr1.up (by decide) (fr1.up (by decide) hF)) (fr2.up (by decide) (fr2.up (by decide) hA)) (show 0 ≤ (0 : Int32).toInt ∧ (0 : Int32).toInt < F0 37 ∧ 0 ≤ (0 : Int32).toInt ∧ (0 : Int32).toInt ≤ 4 by omega) (show (x44.toInt) = F0 36 ∧ (x49.toInt) = F0 37 by omega) (kp_2 (n := -1) (by decide) (fun j j1 j2 => absurd j2 (by omega)) (by omega) hk9 hl9) (fun p p1 p2 => absurd p2 (by omega))
    · refine k_c2 9 rfl rfl (if_neg b43) ?_
      have b43 := mt iv_le.mpr b43
      refine k_aload 10 rfl g0 rfl ?_
      refine r_gA hI 13 rfl rfl rfl ?_
      refine k_iload 14 rfl g1 rfl ?_
      refine k_push 15 rfl rfl ?_
      have hc68 : (-1 : Int32).toInt = -1 := by decide
      refine r_st 24 hI 16 rfl rfl (by omega) (show v1.toInt < 8010 by omega) rfl (fun h69 I70 => ?_)
      have hc71 : (1 : Int32).toInt = 1 := by decide
      obtain ⟨x72, q73⟩ : ∃ q : Int32, q = v1 + (1 : Int32) := ⟨_, rfl⟩
      have e74 : x72.toInt = v1.toInt + 1 := by rw [q73, iv_add (by omega) (by omega)]; omega
      refine k_iinc x72 19 rfl g1 q73.symm rfl ?_
      refine k_goto 2 rfl rfl ?_
      exact ih _ (show ((8000 - x72.toInt).toNat) < n by omega)  rfl (gs_ne rfl rfl g0) gs_eq I70 hF (fr2.up (by decide) hA) (show 0 ≤ x72.toInt ∧ x72.toInt ≤ 8000 by omega)
theorem m_comesNet {h0 : am_h} {F0 : rf_f} {A0 : rf_A}  (hR : rf_R h0 F0 A0) (p1 : 0 ≤ F0 37 ∧ F0 37 ≤ 400) : am_Mt 1 200 [.inr (.inr (some 81))] h0 (rf_V h0 (fun F' A' => fr1 [27, 28] F0 F' ∧ fr2 [24, 25, 26] A0 A' ∧ ((F' 27 = F0 36 ∧ F' 28 = F0 37) ∧ (∀ j : Int, 0 ≤ j → j < F0 37 → A' 24 j = A0 33 j ∧ A' 25 j = A0 34 j) ∧ (∀ p : Int, 0 ≤ p → p < 4 * F0 37 → A' 26 p = A0 35 p)))) := by
  refine am_Mt.of (D := 0) ?_
  have hI : rf_I h0 h0 F0 A0 := rf_I.start hR
  refine k_push 1 rfl rfl ?_
  have hc75 : (0 : Int32).toInt = 0 := by decide
  refine k_istore 2 rfl rfl ?_
  exact b_X10_comesNet_2   p1 _  rfl (gs_ne rfl rfl rfl) gs_eq hI fr1.rf fr2.rf (show 0 ≤ (0 : Int32).toInt ∧ (0 : Int32).toInt ≤ 8000 by omega)
end
