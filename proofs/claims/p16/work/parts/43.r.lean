section
theorem b_X10_comes_3 {h0 : am_h} {F0 : rf_f} {A0 : rf_A} {w1 : Int32}  (p1 : 0 ≤ F0 4 ∧ F0 4 + 4 ≤ 700) : ∀ (n : Nat) {lv : am_l} {h : am_h} {F : rf_f} {A : rf_A} {v1 : Int32} {v2 : Int32} {j : Int}, ((4 - j).toNat) = n → am_get lv 0 = some (.inr (.inr (some 81))) → am_get lv 1 = some (.inl v1) → am_get lv 2 = some (.inl v2) → rf_I h0 h F A → fr1 [4] F0 F → fr2 [3] A0 A → (v2.toInt = 24 - 8 * j) → (0 ≤ j ∧ j ≤ 4) → (F 4 = F0 4 + j) → am_Ok am_G 0 162 (3, lv, [], h, 0, 0) (rf_V h0 (fun F' A' => fr1 [4] F0 F' ∧ fr2 [3] A0 A' ∧ (F' 4 = F0 4 + 4))) := by
  intro n
  induction n using Nat.strongRecOn with
  | ind n ih =>
    intro lv h F A v1 v2 j hn g0 g1 g2 hI hF hA i1 i2 i3
    refine k_iload 4 rfl g2 rfl ?_
    by_cases b1 : v2 < 0
    · refine k_c1 39 rfl rfl (if_pos b1) ?_
      have b1 := iv_lt0.mp b1
      exact k_fin rfl rfl ⟨_, _, _, rfl, hI, hF, hA, show (F 4) = F0 4 + 4 by omega⟩
    · refine k_c1 7 rfl rfl (if_neg b1) ?_
      have b1 := mt iv_lt0.mpr b1
      refine k_aload 8 rfl g0 rfl ?_
      refine r_gA hI 11 rfl rfl rfl ?_
      refine k_aload 12 rfl g0 rfl ?_
      refine r_gI hI 15 rfl rfl rfl (fun x2 (e3 : x2.toInt = F 4) => ?_)
      refine k_iload 16 rfl g1 rfl ?_
      refine k_iload 17 rfl g2 rfl ?_
      obtain ⟨x4, q5⟩ : ∃ q : Int32, q = (v1 >>> (v2 &&& 31)) := ⟨_, rfl⟩
      refine k_bin x4 18 rfl q5.symm rfl ?_
      refine k_push 21 rfl rfl ?_
      have hc7 : (255 : Int32).toInt = 255 := by decide
      obtain ⟨x8, q9⟩ : ∃ q : Int32, q = (x4 &&& (255 : Int32)) := ⟨_, rfl⟩
      have e10 : 0 ≤ x8.toInt ∧ x8.toInt ≤ (255 : Int32).toInt := by rw [q9]; exact iv_and (by omega)
      refine k_bin x8 22 rfl q9.symm rfl ?_
      refine r_st 3 hI 23 rfl rfl (by omega) (show x2.toInt < 700 by omega) rfl (fun h11 I12 => ?_)
      refine k_aload 24 rfl g0 rfl ?_
      refine k_dup 25 rfl rfl rfl ?_
      refine r_gI I12 28 rfl rfl rfl (fun x13 (e14 : x13.toInt = F 4) => ?_)
      refine k_push 29 rfl rfl ?_
      have hc15 : (1 : Int32).toInt = 1 := by decide
      obtain ⟨x16, q17⟩ : ∃ q : Int32, q = (x13 + (1 : Int32)) := ⟨_, rfl⟩
      have e18 : x16.toInt = x13.toInt + 1 := by rw [q17, iv_add (by omega) (by omega)]; omega
      refine k_bin x16 30 rfl q17.symm rfl ?_
      refine r_pI I12 33 rfl rfl rfl (fun h19 I20 => ?_)
      have hc21 : (-8 : Int32).toInt = -8 := by decide
      obtain ⟨x22, q23⟩ : ∃ q : Int32, q = v2 + (-8 : Int32) := ⟨_, rfl⟩
      have e24 : x22.toInt = v2.toInt + -8 := by rw [q23, iv_add (by omega) (by omega)]; omega
      refine k_iinc x22 36 rfl g2 q23.symm rfl ?_
      refine k_goto 3 rfl rfl ?_
      exact ih _ (show ((4 - (j + 1)).toNat) < n by omega) (j := j + 1) rfl (gs_ne rfl rfl g0) (gs_ne rfl rfl g1) gs_eq I20 (fr1.up (by decide) hF) (fr2.up (by decide) hA) (show x22.toInt = 24 - 8 * (j + 1) by omega) (show 0 ≤ (j + 1) ∧ (j + 1) ≤ 4 by omega) (show (x16.toInt) = F0 4 + (j + 1) by omega)
theorem m_comes {h0 : am_h} {F0 : rf_f} {A0 : rf_A} {w1 : Int32}  (hR : rf_R h0 F0 A0) (p1 : 0 ≤ F0 4 ∧ F0 4 + 4 ≤ 700) : am_Mt 1 162 [.inr (.inr (some 81)), .inl w1] h0 (rf_V h0 (fun F' A' => fr1 [4] F0 F' ∧ fr2 [3] A0 A' ∧ (F' 4 = F0 4 + 4))) := by
  refine am_Mt.of (D := 0) ?_
  have hI : rf_I h0 h0 F0 A0 := rf_I.start hR
  refine k_push 2 rfl rfl ?_
  have hc25 : (24 : Int32).toInt = 24 := by decide
  refine k_istore 3 rfl rfl ?_
  exact b_X10_comes_3  (w1 := w1) p1 _ (j := 0) rfl (gs_ne rfl rfl rfl) (gs_ne rfl rfl rfl) gs_eq hI fr1.rf fr2.rf (show (24 : Int32).toInt = 24 - 8 * (0) by omega) (show 0 ≤ (0) ∧ (0) ≤ 4 by omega) (show (F0 4) = F0 4 + (0) by omega)
theorem m_feed {h0 : am_h} {F0 : rf_f} {A0 : rf_A} {w1 : Int32} {w2 : Int32} {w3 : Int32} {w4 : Int32} {w5 : Int32}  (hR : rf_R h0 F0 A0) (p1 : 0 ≤ F0 4 ∧ F0 4 ≤ 700) : am_Mt 2 163 [.inr (.inr (some 81)), .inl w1, .inl w2, .inl w3, .inl w4, .inl w5] h0 (rf_Q h0 (fun x F' A' => fr1 [4, 0] F0 F' ∧ fr2 [3] A0 A' ∧ ((680 < F0 4 ∧ x = -1 ∧ F' 4 = F0 4) ∨ (F0 4 ≤ 680 ∧ x = F0 4 + 20 ∧ F' 4 = F0 4 + 20)))) := by
  refine am_Mt.of (D := 1) ?_
  have hI : rf_I h0 h0 F0 A0 := rf_I.start hR
  refine k_aload 1 rfl rfl rfl ?_
  refine k_push 2 rfl rfl ?_
  have hc1 : (0 : Int32).toInt = 0 := by decide
  refine r_pI hI 5 rfl rfl rfl (fun h2 I3 => ?_)
  refine k_aload 6 rfl rfl rfl ?_
  refine r_gI I3 9 rfl rfl rfl (fun x4 (e5 : x4.toInt = F0 4) => ?_)
  refine k_push 11 rfl rfl ?_
  have hc6 : (20 : Int32).toInt = 20 := by decide
  obtain ⟨x7, q8⟩ : ∃ q : Int32, q = (x4 + (20 : Int32)) := ⟨_, rfl⟩
  have e9 : x7.toInt = x4.toInt + 20 := by rw [q8, iv_add (by omega) (by omega)]; omega
  refine k_bin x7 12 rfl q8.symm rfl ?_
  refine k_push 15 rfl rfl ?_
  have hc10 : (700 : Int32).toInt = 700 := by decide
  by_cases b11 : x7 ≤ (700 : Int32)
  · refine k_c2 20 rfl rfl (if_pos b11) ?_
    have b11 := iv_le.mp b11
    refine k_aload 21 rfl rfl rfl ?_
    refine k_iload 22 rfl rfl rfl ?_
    refine k_rv I3 rfl (m_comes  I3.1 (show 0 ≤ (F0 4) ∧ (F0 4) + 4 ≤ 700 by omega)) rfl rfl rfl I3.rc ?_
    rintro h13 F14 A15 I16 ⟨k18, k19, p17⟩
    replace p17 : F14 4 = (F0 4) + 4 := p17
    show am_Ok _ _ _ (25, _, [], _, 0, 0) _
    refine k_aload 26 rfl rfl rfl ?_
    refine k_iload 27 rfl rfl rfl ?_
    refine k_rv I16 rfl (m_comes  I16.1 (show 0 ≤ (F14 4) ∧ (F14 4) + 4 ≤ 700 by omega)) rfl rfl rfl I16.rc ?_
    rintro h21 F22 A23 I24 ⟨k26, k27, p25⟩
    replace p25 : F22 4 = (F14 4) + 4 := p25
    show am_Ok _ _ _ (30, _, [], _, 0, 0) _
    refine k_aload 31 rfl rfl rfl ?_
    refine k_iload 32 rfl rfl rfl ?_
    refine k_rv I24 rfl (m_comes  I24.1 (show 0 ≤ (F22 4) ∧ (F22 4) + 4 ≤ 700 by omega)) rfl rfl rfl I24.rc ?_
    rintro h29 F30 A31 I32 ⟨k34, k35, p33⟩
    replace p33 : F30 4 = (F22 4) + 4 := p33
    show am_Ok _ _ _ (35, _, [], _, 0, 0) _
    refine k_aload 36 rfl rfl rfl ?_
    refine k_iload 38 rfl rfl rfl ?_
    refine k_rv I32 rfl (m_comes  I32.1 (show 0 ≤ (F30 4) ∧ (F30 4) + 4 ≤ 700 by omega)) rfl rfl rfl I32.rc ?_
    rintro h37 F38 A39 I40 ⟨k42, k43, p41⟩
    replace p41 : F38 4 = (F30 4) + 4 := p41
    show am_Ok _ _ _ (41, _, [], _, 0, 0) _
    refine k_aload 42 rfl rfl rfl ?_
    refine k_iload 44 rfl rfl rfl ?_
    refine k_rv I40 rfl (m_comes  I40.1 (show 0 ≤ (F38 4) ∧ (F38 4) + 4 ≤ 700 by omega)) rfl rfl rfl I40.rc ?_
    rintro h45 F46 A47 I48 ⟨k50, k51, p49⟩
    replace p49 : F46 4 = (F38 4) + 4 := p49
    show am_Ok _ _ _ (47, _, [], _, 0, 0) _
    refine k_aload 48 rfl rfl rfl ?_
    refine r_gI I48 51 rfl rfl rfl (fun x52 (e53 : x52.toInt = F46 4) => ?_)
    exact k_fin rfl rfl ⟨_, _, _, _, rfl, I48, (fr1.tr (by decide) (fr1.tr (by decide) (fr1.tr (by decide) (fr1.tr (by decide) (fr1.tr (by decide) (fr1.up (by decide) fr1.rf) k18) k26) k34) k42) k50), (fr2.tr (by decide) (fr2.tr (by decide) (fr2.tr (by decide) (fr2.tr (by decide) (fr2.tr (by decide) fr2.rf k19) k27) k35) k43) k51), show (680 < F0 4 ∧ x52.toInt = -1 ∧ (F46 4) = F0 4) ∨ (F0 4 ≤ 680 ∧ x52.toInt = F0 4 + 20 ∧ (F46 4) = F0 4 + 20) by omega⟩
  · refine k_c2 18 rfl rfl (if_neg b11) ?_
    have b11 := mt iv_le.mpr b11
    refine k_push 19 rfl rfl ?_
    have hc54 : (-1 : Int32).toInt = -1 := by decide
    exact k_fin rfl rfl ⟨_, _, _, _, rfl, I3, (fr1.up (by decide) fr1.rf), fr2.rf, show (680 < F0 4 ∧ (-1 : Int32).toInt = -1 ∧ (F0 4) = F0 4) ∨ (F0 4 ≤ 680 ∧ (-1 : Int32).toInt = F0 4 + 20 ∧ (F0 4) = F0 4 + 20) by omega⟩
end
