section
theorem m_comesToFan {h0 : am_h} {F0 : rf_f} {A0 : rf_A} {w1 : Int32} {w2 : Int32}  (hR : rf_R h0 F0 A0) (p1 : 0 ≤ w1.toInt ∧ w1.toInt < 8000 ∧ 0 ≤ A0 25 w1.toInt ∧ A0 25 w1.toInt ≤ 200) (p2 : 0 ≤ w2.toInt ∧ w2.toInt ≤ 2) (p3 : 0 ≤ F0 50 ∧ F0 50 ≤ 4250) (p4 : wr A0) (p5 : 0 ≤ F0 48 ∧ F0 48 ≤ 3999) (p6 : ∀ q : Int, 0 ≤ q → q < 16384 → A0 47 q ≤ F0 48) : am_Mt 2 237 [.inr (.inr (some 81)), .inl w1, .inl w2] h0 (rf_Q h0 (fun x F' A' => fr1 [48, 50] F0 F' ∧ fr2 [43, 44, 45, 46, 47, 49] A0 A' ∧ ((x = -1 ∨ (4 * w1.toInt ≤ x ∧ x ≤ 4 * w1.toInt + 2)) ∧ (F' 50 ≤ F0 50 ∨ F' 50 ≤ A0 25 w1.toInt + 1) ∧ wr A' ∧ F0 48 ≤ F' 48 ∧ F' 48 ≤ F0 48 + 1 ∧ (∀ q : Int, 0 ≤ q → q < 16384 → A' 47 q ≤ F' 48) ∧ 0 ≤ F' 50))) := by
  refine am_Mt.of (D := 1) ?_
  have hI : rf_I h0 h0 F0 A0 := rf_I.start hR
  refine k_aload 1 rfl rfl rfl ?_
  refine r_gA hI 4 rfl rfl rfl ?_
  refine k_iload 5 rfl rfl rfl ?_
  refine r_ld 25 hI 6 rfl rfl (by omega) (show w1.toInt < 8010 by omega) rfl (fun x1 (e2 : x1.toInt = A0 25 w1.toInt) => ?_)
  refine k_istore 7 rfl rfl ?_
  refine k_iload 8 rfl (gs_ne rfl rfl rfl) rfl ?_
  by_cases b3 : w2 ≤ 0
  · refine k_c1 31 rfl rfl (if_pos b3) ?_
    have b3 := iv_le0.mp b3
    refine k_aload 32 rfl (gs_ne rfl rfl rfl) rfl ?_
    refine k_iload 33 rfl gs_eq rfl ?_
    refine k_rq hI rfl (m_stackAt  hI.1 (show 0 ≤ x1.toInt by omega) (show (F0 50) ≤ 4300 by omega) (show wr A0 from p4)) rfl rfl rfl hI.rc ?_
    rintro x4 h5 F6 A7 I8 ⟨k10, k11, p9⟩
    replace p9 : 0 ≤ x4.toInt ∧ x4.toInt ≤ 4000 := p9
    have k10 := fr1.nil k10
    subst k10
    have k11 := fr2.nil k11
    subst k11
    show am_Ok _ _ _ (36, _, [.inl x4], _, 0, 0) _
    refine k_istore 38 rfl rfl ?_
    refine k_iload 40 rfl gs_eq rfl ?_
    by_cases b12 : x4 = 0
    · refine k_c1 54 rfl rfl (if_pos b12) ?_
      have b12 := iv_eq0.mp b12
      refine k_push 55 rfl rfl ?_
      have hc13 : (-1 : Int32).toInt = -1 := by decide
      exact k_fin rfl rfl ⟨_, _, _, _, rfl, I8, fr1.rf, fr2.rf, show ((-1 : Int32).toInt = -1 ∨ (4 * w1.toInt ≤ (-1 : Int32).toInt ∧ (-1 : Int32).toInt ≤ 4 * w1.toInt + 2)) ∧ ((F0 50) ≤ F0 50 ∨ (F0 50) ≤ A0 25 w1.toInt + 1) ∧ wr A0 ∧ F0 48 ≤ (F0 48) ∧ (F0 48) ≤ F0 48 + 1 ∧ (∀ q : Int, 0 ≤ q → q < 16384 → (A0 47) q ≤ (F0 48)) ∧ 0 ≤ (F0 50) from ⟨Or.inl (by omega), Or.inl (by omega), p4, by omega, by omega, p6, by omega⟩⟩
    · refine k_c1 43 rfl rfl (if_neg b12) ?_
      have b12 := mt iv_eq0.mpr b12
      refine k_aload 44 rfl (gs_ne rfl rfl (gs_ne rfl rfl rfl)) rfl ?_
      refine r_gA I8 47 rfl rfl rfl ?_
      refine k_iload 49 rfl gs_eq rfl ?_
      refine r_ld 43 I8 50 rfl rfl (by omega) (show x4.toInt < 5000 by omega) rfl (fun x14 (e15 : x14.toInt = A0 43 x4.toInt) => ?_)
      refine k_push 51 rfl rfl ?_
      have hc16 : (3 : Int32).toInt = 3 := by decide
      by_cases b17 : x14 = (3 : Int32)
      · refine k_c2 54 rfl rfl (if_pos b17) ?_
        have b17 := iv_eq.mp b17
        refine k_push 55 rfl rfl ?_
        have hc18 : (-1 : Int32).toInt = -1 := by decide
        exact k_fin rfl rfl ⟨_, _, _, _, rfl, I8, fr1.rf, fr2.rf, show ((-1 : Int32).toInt = -1 ∨ (4 * w1.toInt ≤ (-1 : Int32).toInt ∧ (-1 : Int32).toInt ≤ 4 * w1.toInt + 2)) ∧ ((F0 50) ≤ F0 50 ∨ (F0 50) ≤ A0 25 w1.toInt + 1) ∧ wr A0 ∧ F0 48 ≤ (F0 48) ∧ (F0 48) ≤ F0 48 + 1 ∧ (∀ q : Int, 0 ≤ q → q < 16384 → (A0 47) q ≤ (F0 48)) ∧ 0 ≤ (F0 50) from ⟨Or.inl (by omega), Or.inl (by omega), p4, by omega, by omega, p6, by omega⟩⟩
      · refine k_c2 56 rfl rfl (if_neg b17) ?_
        have b17 := mt iv_eq.mpr b17
        refine k_aload 57 rfl (gs_ne rfl rfl (gs_ne rfl rfl rfl)) rfl ?_
        refine k_iload 58 rfl (gs_ne rfl rfl gs_eq) rfl ?_
        refine k_aload 59 rfl (gs_ne rfl rfl (gs_ne rfl rfl rfl)) rfl ?_
        refine r_gA I8 62 rfl rfl rfl ?_
        refine k_iload 64 rfl gs_eq rfl ?_
        refine r_ld 44 I8 65 rfl rfl (by omega) (show x4.toInt < 5000 by omega) rfl (fun x19 (e20 : x19.toInt = A0 44 x4.toInt) => ?_)
        have hv9 := p4 x4.toInt
        refine k_rv I8 rfl (m_setStack  I8.1 (show 0 ≤ x1.toInt ∧ x1.toInt ≤ 4290 ∧ 0 ≤ x19.toInt ∧ x19.toInt ≤ 4000 by omega) (show 0 ≤ (F0 50) ∧ (F0 50) ≤ 4299 by omega) (show wr A0 from p4)) rfl rfl rfl I8.rc ?_
        rintro h22 F23 A24 I25 ⟨k27, k28, p26⟩
        replace p26 : 0 ≤ F23 50 ∧ (F23 50 ≤ (F0 50) ∨ F23 50 ≤ x1.toInt + 1) ∧ wr A24 := p26
        obtain ⟨p26a, p26b, p26c⟩ := p26
        show am_Ok _ _ _ (68, _, [], _, 0, 0) _
        refine k_push 69 rfl rfl ?_
        have hc29 : (4 : Int32).toInt = 4 := by decide
        refine k_iload 70 rfl (gs_ne rfl rfl (gs_ne rfl rfl rfl)) rfl ?_
        obtain ⟨x30, q31⟩ : ∃ q : Int32, q = ((4 : Int32) * w1) := ⟨_, rfl⟩
        have e32 : x30.toInt = 4 * w1.toInt := by rw [q31]; exact iv_mulc 4 (by decide) (by omega) (by omega)
        refine k_bin x30 71 rfl q31.symm rfl ?_
        refine k_aload 72 rfl (gs_ne rfl rfl (gs_ne rfl rfl rfl)) rfl ?_
        refine r_gA I25 75 rfl rfl rfl ?_
        refine k_iload 77 rfl gs_eq rfl ?_
        refine r_ld 43 I25 78 rfl rfl (by omega) (show x4.toInt < 5000 by omega) rfl (fun x33 (e34 : x33.toInt = A24 43 x4.toInt) => ?_)
        have e35 : A24 43 = A0 43 := k28 43 (by decide)
        rw [e35] at e34
        obtain ⟨x36, q37⟩ : ∃ q : Int32, q = (x30 + x33) := ⟨_, rfl⟩
        have e38 : x36.toInt = x30.toInt + x33.toInt := by rw [q37, iv_add (by omega) (by omega)]
        refine k_bin x36 79 rfl q37.symm rfl ?_
        have e39 : F23 48 = F0 48 := k27 48 (by decide)
        exact k_fin rfl rfl ⟨_, _, _, _, rfl, I25, (fr1.tr (by decide) fr1.rf k27), (fr2.tr (by decide) fr2.rf k28), show (x36.toInt = -1 ∨ (4 * w1.toInt ≤ x36.toInt ∧ x36.toInt ≤ 4 * w1.toInt + 2)) ∧ ((F23 50) ≤ F0 50 ∨ (F23 50) ≤ A0 25 w1.toInt + 1) ∧ wr A24 ∧ F0 48 ≤ (F23 48) ∧ (F23 48) ≤ F0 48 + 1 ∧ (∀ q : Int, 0 ≤ q → q < 16384 → (A24 47) q ≤ (F23 48)) ∧ 0 ≤ (F23 50) from ⟨Or.inr (by omega), by omega, p26c, by omega, by omega, fun q q1 q2 => by rw [(k28 47 (by decide))]; have := p6 q q1 q2; omega, by omega⟩⟩
  · refine k_c1 11 rfl rfl (if_neg b3) ?_
    have b3 := mt iv_le0.mpr b3
    refine k_aload 12 rfl (gs_ne rfl rfl rfl) rfl ?_
    refine k_iload 13 rfl gs_eq rfl ?_
    refine k_aload 14 rfl (gs_ne rfl rfl rfl) rfl ?_
    refine k_iload 15 rfl (gs_ne rfl rfl rfl) rfl ?_
    refine k_aload 16 rfl (gs_ne rfl rfl rfl) rfl ?_
    refine k_iload 17 rfl gs_eq rfl ?_
    refine k_rq hI rfl (m_stackAt  hI.1 (show 0 ≤ x1.toInt by omega) (show (F0 50) ≤ 4300 by omega) (show wr A0 from p4)) rfl rfl rfl hI.rc ?_
    rintro x40 h41 F42 A43 I44 ⟨k46, k47, p45⟩
    replace p45 : 0 ≤ x40.toInt ∧ x40.toInt ≤ 4000 := p45
    have k46 := fr1.nil k46
    subst k46
    have k47 := fr2.nil k47
    subst k47
    show am_Ok _ _ _ (20, _, [.inl x40, .inl w2, .inr (.inr (some 81)), .inl x1, .inr (.inr (some 81))], _, 0, 0) _
    refine k_push 21 rfl rfl ?_
    have hc48 : (0 : Int32).toInt = 0 := by decide
    refine k_rq I44 rfl (m_thing  I44.1 (show 1 ≤ w2.toInt ∧ w2.toInt ≤ 3 ∧ 0 ≤ x40.toInt ∧ x40.toInt ≤ 4000 ∧ 0 ≤ (0 : Int32).toInt ∧ (0 : Int32).toInt ≤ 4000 by omega) (show 0 ≤ (F0 48) ∧ (F0 48) ≤ 3999 by omega) (show wr A0 from p4) (show ∀ q : Int, 0 ≤ q → q < 16384 → (A0 47) q ≤ (F0 48) from p6)) rfl rfl rfl I44.rc ?_
    rintro x49 h50 F51 A52 I53 ⟨k55, k56, p54⟩
    replace p54 : 1 ≤ x49.toInt ∧ x49.toInt ≤ 4000 ∧ (F0 48) ≤ F51 48 ∧ F51 48 ≤ (F0 48) + 1 ∧ wr A52 ∧ (∀ q : Int, 0 ≤ q → q < 16384 → A52 47 q ≤ F51 48) := p54
    obtain ⟨p54a, p54b, p54c, p54d, p54e, p54f⟩ := p54
    show am_Ok _ _ _ (24, _, [.inl x49, .inl x1, .inr (.inr (some 81))], _, 0, 0) _
    have e57 : F51 50 = F0 50 := k55 50 (by decide)
    refine k_rv I53 rfl (m_setStack  I53.1 (show 0 ≤ x1.toInt ∧ x1.toInt ≤ 4290 ∧ 0 ≤ x49.toInt ∧ x49.toInt ≤ 4000 by omega) (show 0 ≤ (F51 50) ∧ (F51 50) ≤ 4299 by omega) (show wr A52 from p54e)) rfl rfl rfl I53.rc ?_
    rintro h59 F60 A61 I62 ⟨k64, k65, p63⟩
    replace p63 : 0 ≤ F60 50 ∧ (F60 50 ≤ (F51 50) ∨ F60 50 ≤ x1.toInt + 1) ∧ wr A61 := p63
    obtain ⟨p63a, p63b, p63c⟩ := p63
    show am_Ok _ _ _ (27, _, [], _, 0, 0) _
    refine k_push 28 rfl rfl ?_
    have hc66 : (4 : Int32).toInt = 4 := by decide
    refine k_iload 29 rfl (gs_ne rfl rfl rfl) rfl ?_
    obtain ⟨x67, q68⟩ : ∃ q : Int32, q = ((4 : Int32) * w1) := ⟨_, rfl⟩
    have e69 : x67.toInt = 4 * w1.toInt := by rw [q68]; exact iv_mulc 4 (by decide) (by omega) (by omega)
    refine k_bin x67 30 rfl q68.symm rfl ?_
    have e70 : F60 48 = F51 48 := k64 48 (by decide)
    exact k_fin rfl rfl ⟨_, _, _, _, rfl, I62, (fr1.tr (by decide) (fr1.tr (by decide) fr1.rf k55) k64), (fr2.tr (by decide) (fr2.tr (by decide) fr2.rf k56) k65), show (x67.toInt = -1 ∨ (4 * w1.toInt ≤ x67.toInt ∧ x67.toInt ≤ 4 * w1.toInt + 2)) ∧ ((F60 50) ≤ F0 50 ∨ (F60 50) ≤ A0 25 w1.toInt + 1) ∧ wr A61 ∧ F0 48 ≤ (F60 48) ∧ (F60 48) ≤ F0 48 + 1 ∧ (∀ q : Int, 0 ≤ q → q < 16384 → (A61 47) q ≤ (F60 48)) ∧ 0 ≤ (F60 50) from ⟨Or.inr (by omega), by omega, p63c, by omega, by omega, fun q q1 q2 => by rw [(k65 47 (by decide))]; have := p54f q q1 q2; omega, by omega⟩⟩
theorem m_comesToBracket {h0 : am_h} {F0 : rf_f} {A0 : rf_A} {w1 : Int32} {w2 : Int32}  (hR : rf_R h0 F0 A0) (p1 : 0 ≤ w1.toInt ∧ w1.toInt < 8000 ∧ 0 ≤ A0 25 w1.toInt ∧ A0 25 w1.toInt ≤ 200) (p2 : 0 ≤ w2.toInt ∧ w2.toInt ≤ 2) (p3 : 0 ≤ F0 50 ∧ F0 50 ≤ 4250) (p4 : wr A0) (p5 : 0 ≤ F0 48 ∧ F0 48 ≤ 3999) (p6 : ∀ q : Int, 0 ≤ q → q < 16384 → A0 47 q ≤ F0 48) : am_Mt 2 238 [.inr (.inr (some 81)), .inl w1, .inl w2] h0 (rf_Q h0 (fun x F' A' => fr1 [48, 50] F0 F' ∧ fr2 [43, 44, 45, 46, 47, 49] A0 A' ∧ ((x = -1 ∨ (w2.toInt = 1 ∧ x = 4 * w1.toInt ∧ (F' 50 ≤ F0 50 - 1 ∨ F' 50 ≤ A0 25 w1.toInt + 1)) ∨ (w2.toInt ≠ 1 ∧ x = 4 * w1.toInt + 1 ∧ (F' 50 ≤ F0 50 + 1 ∨ F' 50 ≤ A0 25 w1.toInt + 2))) ∧ (F' 50 ≤ F0 50 + 1 ∨ F' 50 ≤ 202) ∧ wr A' ∧ F0 48 ≤ F' 48 ∧ F' 48 ≤ F0 48 + 1 ∧ (∀ q : Int, 0 ≤ q → q < 16384 → A' 47 q ≤ F' 48) ∧ 0 ≤ F' 50))) := by
  refine am_Mt.of (D := 1) ?_
  have hI : rf_I h0 h0 F0 A0 := rf_I.start hR
  refine k_aload 1 rfl rfl rfl ?_
  refine r_gA hI 4 rfl rfl rfl ?_
  refine k_iload 5 rfl rfl rfl ?_
  refine r_ld 25 hI 6 rfl rfl (by omega) (show w1.toInt < 8010 by omega) rfl (fun x1 (e2 : x1.toInt = A0 25 w1.toInt) => ?_)
  refine k_istore 7 rfl rfl ?_
  refine k_iload 8 rfl (gs_ne rfl rfl rfl) rfl ?_
  refine k_push 9 rfl rfl ?_
  have hc3 : (1 : Int32).toInt = 1 := by decide
  by_cases b4 : w2 = (1 : Int32)
  · refine k_c2 12 rfl rfl (if_pos b4) ?_
    have b4 := iv_eq.mp b4
    refine k_aload 13 rfl (gs_ne rfl rfl rfl) rfl ?_
    refine k_push 14 rfl rfl ?_
    have hc5 : (3 : Int32).toInt = 3 := by decide
    refine k_aload 15 rfl (gs_ne rfl rfl rfl) rfl ?_
    refine k_iload 16 rfl gs_eq rfl ?_
    refine k_rq hI rfl (m_stackAt  hI.1 (show 0 ≤ x1.toInt by omega) (show (F0 50) ≤ 4300 by omega) (show wr A0 from p4)) rfl rfl rfl hI.rc ?_
    rintro x6 h7 F8 A9 I10 ⟨k12, k13, p11⟩
    replace p11 : 0 ≤ x6.toInt ∧ x6.toInt ≤ 4000 := p11
    have k12 := fr1.nil k12
    subst k12
    have k13 := fr2.nil k13
    subst k13
    show am_Ok _ _ _ (19, _, [.inl x6, .inl (3 : Int32), .inr (.inr (some 81))], _, 0, 0) _
    refine k_aload 20 rfl (gs_ne rfl rfl rfl) rfl ?_
    refine k_iload 21 rfl gs_eq rfl ?_
    refine k_push 22 rfl rfl ?_
    obtain ⟨x14, q15⟩ : ∃ q : Int32, q = (x1 + (1 : Int32)) := ⟨_, rfl⟩
    have e16 : x14.toInt = x1.toInt + 1 := by rw [q15, iv_add (by omega) (by omega)]; omega
    refine k_bin x14 23 rfl q15.symm rfl ?_
    refine k_rq I10 rfl (m_stackAt  I10.1 (show 0 ≤ x14.toInt by omega) (show (F0 50) ≤ 4300 by omega) (show wr A0 from p4)) rfl rfl rfl I10.rc ?_
    rintro x17 h18 F19 A20 I21 ⟨k23, k24, p22⟩
    replace p22 : 0 ≤ x17.toInt ∧ x17.toInt ≤ 4000 := p22
    have k23 := fr1.nil k23
    subst k23
    have k24 := fr2.nil k24
    subst k24
    show am_Ok _ _ _ (26, _, [.inl x17, .inl x6, .inl (3 : Int32), .inr (.inr (some 81))], _, 0, 0) _
    refine k_rq I21 rfl (m_thing  I21.1 (show 1 ≤ (3 : Int32).toInt ∧ (3 : Int32).toInt ≤ 3 ∧ 0 ≤ x6.toInt ∧ x6.toInt ≤ 4000 ∧ 0 ≤ x17.toInt ∧ x17.toInt ≤ 4000 by omega) (show 0 ≤ (F0 48) ∧ (F0 48) ≤ 3999 by omega) (show wr A0 from p4) (show ∀ q : Int, 0 ≤ q → q < 16384 → (A0 47) q ≤ (F0 48) from p6)) rfl rfl rfl I21.rc ?_
    rintro x25 h26 F27 A28 I29 ⟨k31, k32, p30⟩
    replace p30 : 1 ≤ x25.toInt ∧ x25.toInt ≤ 4000 ∧ (F0 48) ≤ F27 48 ∧ F27 48 ≤ (F0 48) + 1 ∧ wr A28 ∧ (∀ q : Int, 0 ≤ q → q < 16384 → A28 47 q ≤ F27 48) := p30
    obtain ⟨p30a, p30b, p30c, p30d, p30e, p30f⟩ := p30
    show am_Ok _ _ _ (29, _, [.inl x25], _, 0, 0) _
    refine k_istore 31 rfl rfl ?_
    refine k_aload 32 rfl (gs_ne rfl rfl (gs_ne rfl rfl rfl)) rfl ?_
    refine k_iload 33 rfl (gs_ne rfl rfl gs_eq) rfl ?_
    refine k_push 34 rfl rfl ?_
    obtain ⟨x33, q34⟩ : ∃ q : Int32, q = (x1 + (1 : Int32)) := ⟨_, rfl⟩
    have e35 : x33.toInt = x1.toInt + 1 := by rw [q34, iv_add (by omega) (by omega)]; omega
    refine k_bin x33 35 rfl q34.symm rfl ?_
    have e36 : F27 50 = F0 50 := k31 50 (by decide)
    refine k_rv I29 rfl (m_goesAt  I29.1 (show 0 ≤ x33.toInt by omega) (show 0 ≤ (F27 50) ∧ (F27 50) ≤ 4299 by omega) (show wr A28 from p30e)) rfl rfl rfl I29.rc ?_
    rintro h38 F39 A40 I41 ⟨k43, k44, p42⟩
    replace p42 : 0 ≤ F39 50 ∧ (F39 50 = (F27 50) ∧ (F27 50) ≤ x33.toInt ∨ F39 50 = (F27 50) - 1 ∧ x33.toInt < (F27 50)) ∧ wr A40 := p42
    obtain ⟨p42a, p42b, p42c⟩ := p42
    show am_Ok _ _ _ (38, _, [], _, 0, 0) _
    refine k_aload 39 rfl (gs_ne rfl rfl (gs_ne rfl rfl rfl)) rfl ?_
    refine k_iload 40 rfl (gs_ne rfl rfl gs_eq) rfl ?_
    refine k_iload 42 rfl gs_eq rfl ?_
    refine k_rv I41 rfl (m_setStack  I41.1 (show 0 ≤ x1.toInt ∧ x1.toInt ≤ 4290 ∧ 0 ≤ x25.toInt ∧ x25.toInt ≤ 4000 by omega) (show 0 ≤ (F39 50) ∧ (F39 50) ≤ 4299 by omega) (show wr A40 from p42c)) rfl rfl rfl I41.rc ?_
    rintro h46 F47 A48 I49 ⟨k51, k52, p50⟩
    replace p50 : 0 ≤ F47 50 ∧ (F47 50 ≤ (F39 50) ∨ F47 50 ≤ x1.toInt + 1) ∧ wr A48 := p50
    obtain ⟨p50a, p50b, p50c⟩ := p50
    show am_Ok _ _ _ (45, _, [], _, 0, 0) _
    refine k_push 46 rfl rfl ?_
    have hc53 : (4 : Int32).toInt = 4 := by decide
    refine k_iload 47 rfl (gs_ne rfl rfl (gs_ne rfl rfl rfl)) rfl ?_
    obtain ⟨x54, q55⟩ : ∃ q : Int32, q = ((4 : Int32) * w1) := ⟨_, rfl⟩
    have e56 : x54.toInt = 4 * w1.toInt := by rw [q55]; exact iv_mulc 4 (by decide) (by omega) (by omega)
    refine k_bin x54 48 rfl q55.symm rfl ?_
    have e57 : F47 48 = F39 48 := k51 48 (by decide)
    have e58 : F39 48 = F27 48 := k43 48 (by decide)
    exact k_fin rfl rfl ⟨_, _, _, _, rfl, I49, (fr1.tr (by decide) (fr1.tr (by decide) (fr1.tr (by decide) fr1.rf k31) k43) k51), (fr2.tr (by decide) (fr2.tr (by decide) (fr2.tr (by decide) fr2.rf k32) k44) k52), show (x54.toInt = -1 ∨ (w2.toInt = 1 ∧ x54.toInt = 4 * w1.toInt ∧ ((F47 50) ≤ F0 50 - 1 ∨ (F47 50) ≤ A0 25 w1.toInt + 1)) ∨ (w2.toInt ≠ 1 ∧ x54.toInt = 4 * w1.toInt + 1 ∧ ((F47 50) ≤ F0 50 + 1 ∨ (F47 50) ≤ A0 25 w1.toInt + 2))) ∧ ((F47 50) ≤ F0 50 + 1 ∨ (F47 50) ≤ 202) ∧ wr A48 ∧ F0 48 ≤ (F47 48) ∧ (F47 48) ≤ F0 48 + 1 ∧ (∀ q : Int, 0 ≤ q → q < 16384 → (A48 47) q ≤ (F47 48)) ∧ 0 ≤ (F47 50) from ⟨Or.inr (Or.inl ⟨by omega, by omega, by omega⟩), by omega, p50c, by omega, by omega, fun q q1 q2 => by rw [((k52 47 (by decide)).trans (k44 47 (by decide)))]; have := p30f q q1 q2; omega, by omega⟩⟩
  · refine k_c2 49 rfl rfl (if_neg b4) ?_
    have b4 := mt iv_eq.mpr b4
    refine k_aload 50 rfl (gs_ne rfl rfl rfl) rfl ?_
    refine k_iload 51 rfl gs_eq rfl ?_
    refine k_rq hI rfl (m_stackAt  hI.1 (show 0 ≤ x1.toInt by omega) (show (F0 50) ≤ 4300 by omega) (show wr A0 from p4)) rfl rfl rfl hI.rc ?_
    rintro x59 h60 F61 A62 I63 ⟨k65, k66, p64⟩
    replace p64 : 0 ≤ x59.toInt ∧ x59.toInt ≤ 4000 := p64
    have k65 := fr1.nil k65
    subst k65
    have k66 := fr2.nil k66
    subst k66
    show am_Ok _ _ _ (54, _, [.inl x59], _, 0, 0) _
    refine k_istore 56 rfl rfl ?_
    refine k_iload 58 rfl gs_eq rfl ?_
    by_cases b67 : x59 = 0
    · refine k_c1 72 rfl rfl (if_pos b67) ?_
      have b67 := iv_eq0.mp b67
      refine k_push 73 rfl rfl ?_
      have hc68 : (-1 : Int32).toInt = -1 := by decide
      exact k_fin rfl rfl ⟨_, _, _, _, rfl, I63, fr1.rf, fr2.rf, show ((-1 : Int32).toInt = -1 ∨ (w2.toInt = 1 ∧ (-1 : Int32).toInt = 4 * w1.toInt ∧ ((F0 50) ≤ F0 50 - 1 ∨ (F0 50) ≤ A0 25 w1.toInt + 1)) ∨ (w2.toInt ≠ 1 ∧ (-1 : Int32).toInt = 4 * w1.toInt + 1 ∧ ((F0 50) ≤ F0 50 + 1 ∨ (F0 50) ≤ A0 25 w1.toInt + 2))) ∧ ((F0 50) ≤ F0 50 + 1 ∨ (F0 50) ≤ 202) ∧ wr A0 ∧ F0 48 ≤ (F0 48) ∧ (F0 48) ≤ F0 48 + 1 ∧ (∀ q : Int, 0 ≤ q → q < 16384 → (A0 47) q ≤ (F0 48)) ∧ 0 ≤ (F0 50) from ⟨Or.inl (by omega), by omega, p4, by omega, by omega, p6, by omega⟩⟩
    · refine k_c1 61 rfl rfl (if_neg b67) ?_
      have b67 := mt iv_eq0.mpr b67
      refine k_aload 62 rfl (gs_ne rfl rfl (gs_ne rfl rfl rfl)) rfl ?_
      refine r_gA I63 65 rfl rfl rfl ?_
      refine k_iload 67 rfl gs_eq rfl ?_
      refine r_ld 43 I63 68 rfl rfl (by omega) (show x59.toInt < 5000 by omega) rfl (fun x69 (e70 : x69.toInt = A0 43 x59.toInt) => ?_)
      refine k_push 69 rfl rfl ?_
      have hc71 : (3 : Int32).toInt = 3 := by decide
      by_cases b72 : x69 = (3 : Int32)
      · refine k_c2 74 rfl rfl (if_pos b72) ?_
        have b72 := iv_eq.mp b72
        refine k_aload 75 rfl (gs_ne rfl rfl (gs_ne rfl rfl rfl)) rfl ?_
        refine k_iload 76 rfl (gs_ne rfl rfl gs_eq) rfl ?_
        refine k_push 77 rfl rfl ?_
        obtain ⟨x73, q74⟩ : ∃ q : Int32, q = (x1 + (1 : Int32)) := ⟨_, rfl⟩
        have e75 : x73.toInt = x1.toInt + 1 := by rw [q74, iv_add (by omega) (by omega)]; omega
        refine k_bin x73 78 rfl q74.symm rfl ?_
        refine k_rv I63 rfl (m_comesAt  I63.1 (show 0 ≤ x73.toInt by omega) (show 0 ≤ (F0 50) ∧ (F0 50) ≤ 4290 by omega) (show wr A0 from p4)) rfl rfl rfl I63.rc ?_
        rintro h77 F78 A79 I80 ⟨k82, k83, p81⟩
        replace p81 : 0 ≤ F78 50 ∧ (F78 50 = (F0 50) ∧ (F0 50) ≤ x73.toInt ∨ F78 50 = (F0 50) + 1 ∧ x73.toInt < (F0 50)) ∧ wr A79 := p81
        obtain ⟨p81a, p81b, p81c⟩ := p81
        show am_Ok _ _ _ (81, _, [], _, 0, 0) _
        refine k_aload 82 rfl (gs_ne rfl rfl (gs_ne rfl rfl rfl)) rfl ?_
        refine k_iload 83 rfl (gs_ne rfl rfl gs_eq) rfl ?_
        refine k_aload 84 rfl (gs_ne rfl rfl (gs_ne rfl rfl rfl)) rfl ?_
        refine r_gA I80 87 rfl rfl rfl ?_
        refine k_iload 89 rfl gs_eq rfl ?_
        refine r_ld 44 I80 90 rfl rfl (by omega) (show x59.toInt < 5000 by omega) rfl (fun x84 (e85 : x84.toInt = A79 44 x59.toInt) => ?_)
        have e86 : A79 44 = A0 44 := k83 44 (by decide)
        rw [e86] at e85
        have hv9 := p4 x59.toInt
        refine k_rv I80 rfl (m_setStack  I80.1 (show 0 ≤ x1.toInt ∧ x1.toInt ≤ 4290 ∧ 0 ≤ x84.toInt ∧ x84.toInt ≤ 4000 by omega) (show 0 ≤ (F78 50) ∧ (F78 50) ≤ 4299 by omega) (show wr A79 from p81c)) rfl rfl rfl I80.rc ?_
        rintro h88 F89 A90 I91 ⟨k93, k94, p92⟩
        replace p92 : 0 ≤ F89 50 ∧ (F89 50 ≤ (F78 50) ∨ F89 50 ≤ x1.toInt + 1) ∧ wr A90 := p92
        obtain ⟨p92a, p92b, p92c⟩ := p92
        show am_Ok _ _ _ (93, _, [], _, 0, 0) _
        refine k_aload 94 rfl (gs_ne rfl rfl (gs_ne rfl rfl rfl)) rfl ?_
        refine k_iload 95 rfl (gs_ne rfl rfl gs_eq) rfl ?_
        refine k_push 96 rfl rfl ?_
        obtain ⟨x95, q96⟩ : ∃ q : Int32, q = (x1 + (1 : Int32)) := ⟨_, rfl⟩
        have e97 : x95.toInt = x1.toInt + 1 := by rw [q96, iv_add (by omega) (by omega)]; omega
        refine k_bin x95 97 rfl q96.symm rfl ?_
        refine k_aload 98 rfl (gs_ne rfl rfl (gs_ne rfl rfl rfl)) rfl ?_
        refine r_gA I91 101 rfl rfl rfl ?_
        refine k_iload 103 rfl gs_eq rfl ?_
        refine r_ld 45 I91 104 rfl rfl (by omega) (show x59.toInt < 5000 by omega) rfl (fun x98 (e99 : x98.toInt = A90 45 x59.toInt) => ?_)
        have e100 : A90 45 = A79 45 := k94 45 (by decide)
        rw [e100] at e99
        have e101 : A79 45 = A0 45 := k83 45 (by decide)
        rw [e101] at e99
        have hv8 := p4 x59.toInt
        refine k_rv I91 rfl (m_setStack  I91.1 (show 0 ≤ x95.toInt ∧ x95.toInt ≤ 4290 ∧ 0 ≤ x98.toInt ∧ x98.toInt ≤ 4000 by omega) (show 0 ≤ (F89 50) ∧ (F89 50) ≤ 4299 by omega) (show wr A90 from p92c)) rfl rfl rfl I91.rc ?_
        rintro h103 F104 A105 I106 ⟨k108, k109, p107⟩
        replace p107 : 0 ≤ F104 50 ∧ (F104 50 ≤ (F89 50) ∨ F104 50 ≤ x95.toInt + 1) ∧ wr A105 := p107
        obtain ⟨p107a, p107b, p107c⟩ := p107
        show am_Ok _ _ _ (107, _, [], _, 0, 0) _
        refine k_push 108 rfl rfl ?_
        have hc110 : (4 : Int32).toInt = 4 := by decide
        refine k_iload 109 rfl (gs_ne rfl rfl (gs_ne rfl rfl rfl)) rfl ?_
        obtain ⟨x111, q112⟩ : ∃ q : Int32, q = ((4 : Int32) * w1) := ⟨_, rfl⟩
        have e113 : x111.toInt = 4 * w1.toInt := by rw [q112]; exact iv_mulc 4 (by decide) (by omega) (by omega)
        refine k_bin x111 110 rfl q112.symm rfl ?_
        refine k_push 111 rfl rfl ?_
        obtain ⟨x114, q115⟩ : ∃ q : Int32, q = (x111 + (1 : Int32)) := ⟨_, rfl⟩
        have e116 : x114.toInt = x111.toInt + 1 := by rw [q115, iv_add (by omega) (by omega)]; omega
        refine k_bin x114 112 rfl q115.symm rfl ?_
        have e117 : F104 48 = F89 48 := k108 48 (by decide)
        have e118 : F89 48 = F78 48 := k93 48 (by decide)
        have e119 : F78 48 = F0 48 := k82 48 (by decide)
        exact k_fin rfl rfl ⟨_, _, _, _, rfl, I106, (fr1.tr (by decide) (fr1.tr (by decide) (fr1.tr (by decide) fr1.rf k82) k93) k108), (fr2.tr (by decide) (fr2.tr (by decide) (fr2.tr (by decide) fr2.rf k83) k94) k109), show (x114.toInt = -1 ∨ (w2.toInt = 1 ∧ x114.toInt = 4 * w1.toInt ∧ ((F104 50) ≤ F0 50 - 1 ∨ (F104 50) ≤ A0 25 w1.toInt + 1)) ∨ (w2.toInt ≠ 1 ∧ x114.toInt = 4 * w1.toInt + 1 ∧ ((F104 50) ≤ F0 50 + 1 ∨ (F104 50) ≤ A0 25 w1.toInt + 2))) ∧ ((F104 50) ≤ F0 50 + 1 ∨ (F104 50) ≤ 202) ∧ wr A105 ∧ F0 48 ≤ (F104 48) ∧ (F104 48) ≤ F0 48 + 1 ∧ (∀ q : Int, 0 ≤ q → q < 16384 → (A105 47) q ≤ (F104 48)) ∧ 0 ≤ (F104 50) from ⟨Or.inr (Or.inr ⟨by omega, by omega, by omega⟩), by omega, p107c, by omega, by omega, fun q q1 q2 => by rw [((k109 47 (by decide)).trans ((k94 47 (by decide)).trans (k83 47 (by decide))))]; have := p6 q q1 q2; omega, by omega⟩⟩
      · refine k_c2 72 rfl rfl (if_neg b72) ?_
        have b72 := mt iv_eq.mpr b72
        refine k_push 73 rfl rfl ?_
        have hc120 : (-1 : Int32).toInt = -1 := by decide
        exact k_fin rfl rfl ⟨_, _, _, _, rfl, I63, fr1.rf, fr2.rf, show ((-1 : Int32).toInt = -1 ∨ (w2.toInt = 1 ∧ (-1 : Int32).toInt = 4 * w1.toInt ∧ ((F0 50) ≤ F0 50 - 1 ∨ (F0 50) ≤ A0 25 w1.toInt + 1)) ∨ (w2.toInt ≠ 1 ∧ (-1 : Int32).toInt = 4 * w1.toInt + 1 ∧ ((F0 50) ≤ F0 50 + 1 ∨ (F0 50) ≤ A0 25 w1.toInt + 2))) ∧ ((F0 50) ≤ F0 50 + 1 ∨ (F0 50) ≤ 202) ∧ wr A0 ∧ F0 48 ≤ (F0 48) ∧ (F0 48) ≤ F0 48 + 1 ∧ (∀ q : Int, 0 ≤ q → q < 16384 → (A0 47) q ≤ (F0 48)) ∧ 0 ≤ (F0 50) from ⟨Or.inl (by omega), by omega, p4, by omega, by omega, p6, by omega⟩⟩
theorem m_comesToCurl {h0 : am_h} {F0 : rf_f} {A0 : rf_A} {w1 : Int32} {w2 : Int32}  (hR : rf_R h0 F0 A0) (p1 : 0 ≤ w1.toInt ∧ w1.toInt < 8000 ∧ 0 ≤ A0 25 w1.toInt ∧ A0 25 w1.toInt ≤ 200) (p2 : 0 ≤ w2.toInt ∧ w2.toInt ≤ 2) (p3 : 0 ≤ F0 50 ∧ F0 50 ≤ 4250) (p4 : wr A0) (p5 : 0 ≤ F0 48 ∧ F0 48 ≤ 3999) (p6 : ∀ q : Int, 0 ≤ q → q < 16384 → A0 47 q ≤ F0 48) : am_Mt 2 239 [.inr (.inr (some 81)), .inl w1, .inl w2] h0 (rf_Q h0 (fun x F' A' => fr1 [48, 50] F0 F' ∧ fr2 [43, 44, 45, 46, 47, 49] A0 A' ∧ ((x = -1 ∨ (w2.toInt = 1 ∧ x = 4 * w1.toInt ∧ F' 50 ≤ F0 50 + 1) ∨ (w2.toInt ≠ 1 ∧ x = 4 * w1.toInt + 1 ∧ (F' 50 ≤ F0 50 - 1 ∨ F' 50 ≤ A0 25 w1.toInt))) ∧ (F' 50 ≤ F0 50 + 1 ∨ F' 50 ≤ 202) ∧ wr A' ∧ F0 48 ≤ F' 48 ∧ F' 48 ≤ F0 48 + 1 ∧ (∀ q : Int, 0 ≤ q → q < 16384 → A' 47 q ≤ F' 48) ∧ 0 ≤ F' 50))) := by
  refine am_Mt.of (D := 1) ?_
  have hI : rf_I h0 h0 F0 A0 := rf_I.start hR
  refine k_aload 1 rfl rfl rfl ?_
  refine r_gA hI 4 rfl rfl rfl ?_
  refine k_iload 5 rfl rfl rfl ?_
  refine r_ld 25 hI 6 rfl rfl (by omega) (show w1.toInt < 8010 by omega) rfl (fun x1 (e2 : x1.toInt = A0 25 w1.toInt) => ?_)
  refine k_istore 7 rfl rfl ?_
  refine k_iload 8 rfl (gs_ne rfl rfl rfl) rfl ?_
  refine k_push 9 rfl rfl ?_
  have hc3 : (1 : Int32).toInt = 1 := by decide
  by_cases b4 : w2 = (1 : Int32)
  · refine k_c2 12 rfl rfl (if_pos b4) ?_
    have b4 := iv_eq.mp b4
    refine k_aload 13 rfl (gs_ne rfl rfl rfl) rfl ?_
    refine k_iload 14 rfl gs_eq rfl ?_
    refine k_rv hI rfl (m_comesAt  hI.1 (show 0 ≤ x1.toInt by omega) (show 0 ≤ (F0 50) ∧ (F0 50) ≤ 4290 by omega) (show wr A0 from p4)) rfl rfl rfl hI.rc ?_
    rintro h6 F7 A8 I9 ⟨k11, k12, p10⟩
    replace p10 : 0 ≤ F7 50 ∧ (F7 50 = (F0 50) ∧ (F0 50) ≤ x1.toInt ∨ F7 50 = (F0 50) + 1 ∧ x1.toInt < (F0 50)) ∧ wr A8 := p10
    obtain ⟨p10a, p10b, p10c⟩ := p10
    show am_Ok _ _ _ (17, _, [], _, 0, 0) _
    refine k_push 18 rfl rfl ?_
    have hc13 : (4 : Int32).toInt = 4 := by decide
    refine k_iload 19 rfl (gs_ne rfl rfl rfl) rfl ?_
    obtain ⟨x14, q15⟩ : ∃ q : Int32, q = ((4 : Int32) * w1) := ⟨_, rfl⟩
    have e16 : x14.toInt = 4 * w1.toInt := by rw [q15]; exact iv_mulc 4 (by decide) (by omega) (by omega)
    refine k_bin x14 20 rfl q15.symm rfl ?_
    have e17 : F7 48 = F0 48 := k11 48 (by decide)
    exact k_fin rfl rfl ⟨_, _, _, _, rfl, I9, (fr1.tr (by decide) fr1.rf k11), (fr2.tr (by decide) fr2.rf k12), show (x14.toInt = -1 ∨ (w2.toInt = 1 ∧ x14.toInt = 4 * w1.toInt ∧ (F7 50) ≤ F0 50 + 1) ∨ (w2.toInt ≠ 1 ∧ x14.toInt = 4 * w1.toInt + 1 ∧ ((F7 50) ≤ F0 50 - 1 ∨ (F7 50) ≤ A0 25 w1.toInt))) ∧ ((F7 50) ≤ F0 50 + 1 ∨ (F7 50) ≤ 202) ∧ wr A8 ∧ F0 48 ≤ (F7 48) ∧ (F7 48) ≤ F0 48 + 1 ∧ (∀ q : Int, 0 ≤ q → q < 16384 → (A8 47) q ≤ (F7 48)) ∧ 0 ≤ (F7 50) from ⟨Or.inr (Or.inl ⟨by omega, by omega, by omega⟩), by omega, p10c, by omega, by omega, fun q q1 q2 => by rw [(k12 47 (by decide))]; have := p6 q q1 q2; omega, by omega⟩⟩
  · refine k_c2 21 rfl rfl (if_neg b4) ?_
    have b4 := mt iv_eq.mpr b4
    refine k_aload 22 rfl (gs_ne rfl rfl rfl) rfl ?_
    refine k_iload 23 rfl gs_eq rfl ?_
    refine k_rq hI rfl (m_stackAt  hI.1 (show 0 ≤ x1.toInt by omega) (show (F0 50) ≤ 4300 by omega) (show wr A0 from p4)) rfl rfl rfl hI.rc ?_
    rintro x18 h19 F20 A21 I22 ⟨k24, k25, p23⟩
    replace p23 : 0 ≤ x18.toInt ∧ x18.toInt ≤ 4000 := p23
    have k24 := fr1.nil k24
    subst k24
    have k25 := fr2.nil k25
    subst k25
    show am_Ok _ _ _ (26, _, [.inl x18], _, 0, 0) _
    by_cases b26 : x18 = 0
    · refine k_c1 31 rfl rfl (if_pos b26) ?_
      have b26 := iv_eq0.mp b26
      refine k_aload 32 rfl (gs_ne rfl rfl rfl) rfl ?_
      refine k_iload 33 rfl gs_eq rfl ?_
      refine k_rv I22 rfl (m_goesAt  I22.1 (show 0 ≤ x1.toInt by omega) (show 0 ≤ (F0 50) ∧ (F0 50) ≤ 4299 by omega) (show wr A0 from p4)) rfl rfl rfl I22.rc ?_
      rintro h28 F29 A30 I31 ⟨k33, k34, p32⟩
      replace p32 : 0 ≤ F29 50 ∧ (F29 50 = (F0 50) ∧ (F0 50) ≤ x1.toInt ∨ F29 50 = (F0 50) - 1 ∧ x1.toInt < (F0 50)) ∧ wr A30 := p32
      obtain ⟨p32a, p32b, p32c⟩ := p32
      show am_Ok _ _ _ (36, _, [], _, 0, 0) _
      refine k_push 37 rfl rfl ?_
      have hc35 : (4 : Int32).toInt = 4 := by decide
      refine k_iload 38 rfl (gs_ne rfl rfl rfl) rfl ?_
      obtain ⟨x36, q37⟩ : ∃ q : Int32, q = ((4 : Int32) * w1) := ⟨_, rfl⟩
      have e38 : x36.toInt = 4 * w1.toInt := by rw [q37]; exact iv_mulc 4 (by decide) (by omega) (by omega)
      refine k_bin x36 39 rfl q37.symm rfl ?_
      refine k_push 40 rfl rfl ?_
      obtain ⟨x39, q40⟩ : ∃ q : Int32, q = (x36 + (1 : Int32)) := ⟨_, rfl⟩
      have e41 : x39.toInt = x36.toInt + 1 := by rw [q40, iv_add (by omega) (by omega)]; omega
      refine k_bin x39 41 rfl q40.symm rfl ?_
      have e42 : F29 48 = F0 48 := k33 48 (by decide)
      exact k_fin rfl rfl ⟨_, _, _, _, rfl, I31, (fr1.tr (by decide) fr1.rf k33), (fr2.tr (by decide) fr2.rf k34), show (x39.toInt = -1 ∨ (w2.toInt = 1 ∧ x39.toInt = 4 * w1.toInt ∧ (F29 50) ≤ F0 50 + 1) ∨ (w2.toInt ≠ 1 ∧ x39.toInt = 4 * w1.toInt + 1 ∧ ((F29 50) ≤ F0 50 - 1 ∨ (F29 50) ≤ A0 25 w1.toInt))) ∧ ((F29 50) ≤ F0 50 + 1 ∨ (F29 50) ≤ 202) ∧ wr A30 ∧ F0 48 ≤ (F29 48) ∧ (F29 48) ≤ F0 48 + 1 ∧ (∀ q : Int, 0 ≤ q → q < 16384 → (A30 47) q ≤ (F29 48)) ∧ 0 ≤ (F29 50) from ⟨Or.inr (Or.inr ⟨by omega, by omega, by omega⟩), by omega, p32c, by omega, by omega, fun q q1 q2 => by rw [(k34 47 (by decide))]; have := p6 q q1 q2; omega, by omega⟩⟩
    · refine k_c1 29 rfl rfl (if_neg b26) ?_
      have b26 := mt iv_eq0.mpr b26
      refine k_push 30 rfl rfl ?_
      have hc43 : (-1 : Int32).toInt = -1 := by decide
      exact k_fin rfl rfl ⟨_, _, _, _, rfl, I22, fr1.rf, fr2.rf, show ((-1 : Int32).toInt = -1 ∨ (w2.toInt = 1 ∧ (-1 : Int32).toInt = 4 * w1.toInt ∧ (F0 50) ≤ F0 50 + 1) ∨ (w2.toInt ≠ 1 ∧ (-1 : Int32).toInt = 4 * w1.toInt + 1 ∧ ((F0 50) ≤ F0 50 - 1 ∨ (F0 50) ≤ A0 25 w1.toInt))) ∧ ((F0 50) ≤ F0 50 + 1 ∨ (F0 50) ≤ 202) ∧ wr A0 ∧ F0 48 ≤ (F0 48) ∧ (F0 48) ≤ F0 48 + 1 ∧ (∀ q : Int, 0 ≤ q → q < 16384 → (A0 47) q ≤ (F0 48)) ∧ 0 ≤ (F0 50) from ⟨Or.inl (by omega), by omega, p4, by omega, by omega, p6, by omega⟩⟩
end
