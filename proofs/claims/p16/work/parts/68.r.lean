section
theorem m_says {h0 : am_h} {F0 : rf_f} {A0 : rf_A} {w1 : Int32}  (hR : rf_R h0 F0 A0) (p1 : 0 ≤ F0 73 ∧ F0 73 < 12000) : am_Mt 1 256 [.inr (.inr (some 81)), .inl w1] h0 (rf_V h0 (fun F' A' => fr1 [73] F0 F' ∧ fr2 [] A0 A' ∧ (F' 73 = F0 73 + 1))) := by
  refine am_Mt.of (D := 0) ?_
  have hI : rf_I h0 h0 F0 A0 := rf_I.start hR
  refine k_aload 1 rfl rfl rfl ?_
  refine r_gA hI 4 rfl rfl rfl ?_
  refine k_aload 5 rfl rfl rfl ?_
  refine r_gI hI 8 rfl rfl rfl (fun x1 (e2 : x1.toInt = F0 73) => ?_)
  refine k_iload 9 rfl rfl rfl ?_
  refine k_un _ 10 rfl rfl rfl ?_
  generalize w1.toInt8.toInt32 = y3
  refine r_bst 72 hI 11 rfl rfl (by omega) (show x1.toInt < 12000 by omega) rfl (fun h4 I5 => ?_)
  refine k_aload 12 rfl rfl rfl ?_
  refine k_dup 13 rfl rfl rfl ?_
  refine r_gI I5 16 rfl rfl rfl (fun x6 (e7 : x6.toInt = F0 73) => ?_)
  refine k_push 17 rfl rfl ?_
  have hc8 : (1 : Int32).toInt = 1 := by decide
  obtain ⟨x9, q10⟩ : ∃ q : Int32, q = (x6 + (1 : Int32)) := ⟨_, rfl⟩
  have e11 : x9.toInt = x6.toInt + 1 := by rw [q10, iv_add (by omega) (by omega)]; omega
  refine k_bin x9 18 rfl q10.symm rfl ?_
  refine r_pI I5 21 rfl rfl rfl (fun h12 I13 => ?_)
  exact k_fin rfl rfl ⟨_, _, _, rfl, I13, (fr1.up (by decide) fr1.rf), fr2.rf, show (x9.toInt) = F0 73 + 1 by omega⟩
theorem sl_fin {A : rf_A} {l p M k v f : Int} (h : sy (A 74) l p M) (hk : k = l) (hf : f = l + 1) (hM : -M ≤ v) : (0 ≤ v ∧ sy (up2 A 74 k v 74) f p M) ∨ (v < 0 ∧ sy (up2 A 74 k v 74) f (p + 1) M) := by
  rw [hf]
  exact sy.push h (fun q hq => up2_ne (by omega)) (by rw [hk, up2_eq]) hM
theorem m_saysLater {h0 : am_h} {F0 : rf_f} {A0 : rf_A} {w1 : Int32} {gp gM : Int} (hR : rf_R h0 F0 A0) (p1 : 0 ≤ F0 75 ∧ F0 75 < 4096) (p2 : sy (A0 74) (F0 75) gp gM) (p3 : -gM ≤ w1.toInt) : am_Mt 1 258 [.inr (.inr (some 81)), .inl w1] h0 (rf_V h0 (fun F' A' => fr1 [75] F0 F' ∧ fr2 [74] A0 A' ∧ (F' 75 = F0 75 + 1 ∧ ((0 ≤ w1.toInt ∧ sy (A' 74) (F' 75) gp gM) ∨ (w1.toInt < 0 ∧ sy (A' 74) (F' 75) (gp + 1) gM))))) := by
  refine am_Mt.of (D := 0) ?_
  have hI : rf_I h0 h0 F0 A0 := rf_I.start hR
  refine k_aload 1 rfl rfl rfl ?_
  refine r_gA hI 4 rfl rfl rfl ?_
  refine k_aload 5 rfl rfl rfl ?_
  refine r_gI hI 8 rfl rfl rfl (fun x1 (e2 : x1.toInt = F0 75) => ?_)
  refine k_iload 9 rfl rfl rfl ?_
  refine r_st 74 hI 10 rfl rfl (by omega) (show x1.toInt < 4096 by omega) rfl (fun h3 I4 => ?_)
  refine k_aload 11 rfl rfl rfl ?_
  refine k_dup 12 rfl rfl rfl ?_
  refine r_gI I4 15 rfl rfl rfl (fun x5 (e6 : x5.toInt = F0 75) => ?_)
  refine k_push 16 rfl rfl ?_
  have hc7 : (1 : Int32).toInt = 1 := by decide
  obtain ⟨x8, q9⟩ : ∃ q : Int32, q = (x5 + (1 : Int32)) := ⟨_, rfl⟩
  have e10 : x8.toInt = x5.toInt + 1 := by rw [q9, iv_add (by omega) (by omega)]; omega
  refine k_bin x8 17 rfl q9.symm rfl ?_
  refine r_pI I4 20 rfl rfl rfl (fun h11 I12 => ?_)
  exact k_fin rfl rfl ⟨_, _, _, rfl, I12, (fr1.up (by decide) fr1.rf), (fr2.up (by decide) fr2.rf), ⟨(show x8.toInt = F0 75 + 1 by omega), sl_fin p2 (by omega) (show x8.toInt = F0 75 + 1 by omega) p3⟩⟩
theorem m_waitsPart {h0 : am_h} {F0 : rf_f} {A0 : rf_A} {w1 : Int32} {w2 : Int32} {gp gM : Int} (hR : rf_R h0 F0 A0) (p1 : 0 ≤ F0 75 ∧ F0 75 < 4096) (p2 : sy (A0 74) (F0 75) gp gM) (p3 : 0 ≤ w1.toInt ∧ w1.toInt ≤ 3000 ∧ 0 ≤ w2.toInt ∧ w2.toInt ≤ 3 ∧ 4 * w1.toInt + w2.toInt + 1 ≤ gM) : am_Mt 2 259 [.inr (.inr (some 81)), .inl w1, .inl w2] h0 (rf_V h0 (fun F' A' => fr1 [75] F0 F' ∧ fr2 [74] A0 A' ∧ (F' 75 = F0 75 + 1 ∧ sy (A' 74) (F' 75) (gp + 1) gM))) := by
  refine am_Mt.of (D := 1) ?_
  have hI : rf_I h0 h0 F0 A0 := rf_I.start hR
  refine k_aload 1 rfl rfl rfl ?_
  refine k_push 2 rfl rfl ?_
  have hc1 : (-1 : Int32).toInt = -1 := by decide
  refine k_push 3 rfl rfl ?_
  have hc2 : (4 : Int32).toInt = 4 := by decide
  refine k_iload 4 rfl rfl rfl ?_
  obtain ⟨x3, q4⟩ : ∃ q : Int32, q = ((4 : Int32) * w1) := ⟨_, rfl⟩
  have e5 : x3.toInt = 4 * w1.toInt := by rw [q4]; exact iv_mulc 4 (by decide) (by omega) (by omega)
  refine k_bin x3 5 rfl q4.symm rfl ?_
  obtain ⟨x6, q7⟩ : ∃ q : Int32, q = ((-1 : Int32) - x3) := ⟨_, rfl⟩
  have e8 : x6.toInt = -1 - x3.toInt := by rw [q7, iv_sub (by omega) (by omega)]; omega
  refine k_bin x6 6 rfl q7.symm rfl ?_
  refine k_iload 7 rfl rfl rfl ?_
  obtain ⟨x9, q10⟩ : ∃ q : Int32, q = (x6 - w2) := ⟨_, rfl⟩
  have e11 : x9.toInt = x6.toInt - w2.toInt := by rw [q10, iv_sub (by omega) (by omega)]
  refine k_bin x9 8 rfl q10.symm rfl ?_
  refine k_rv hI rfl (m_saysLater (gp := gp) (gM := gM) hI.1 (show 0 ≤ (F0 75) ∧ (F0 75) < 4096 by omega) (show sy ((A0 74)) ((F0 75)) (gp) (gM) from p2) (show -(gM) ≤ x9.toInt by omega)) rfl rfl rfl hI.rc ?_
  rintro h13 F14 A15 I16 ⟨k18, k19, p17⟩
  replace p17 : F14 75 = (F0 75) + 1 ∧ ((0 ≤ x9.toInt ∧ sy (A15 74) (F14 75) (gp) (gM)) ∨ (x9.toInt < 0 ∧ sy (A15 74) (F14 75) ((gp) + 1) (gM))) := p17
  obtain ⟨p17a, p17b⟩ := p17
  show am_Ok _ _ _ (11, _, [], _, 0, 0) _
  have y9 := (p17b.resolve_left (fun z => by omega)).2
  exact k_fin rfl rfl ⟨_, _, _, rfl, I16, (fr1.tr (by decide) fr1.rf k18), (fr2.tr (by decide) fr2.rf k19), show (F14 75) = F0 75 + 1 ∧ sy ((A15 74)) ((F14 75)) (gp + 1) gM from ⟨by omega, y9⟩⟩
theorem m_saysPart {h0 : am_h} {F0 : rf_f} {A0 : rf_A} {w1 : Int32} {w2 : Int32} {w3 : Int32} {w4 : Int32} {gp gM : Int} (hR : rf_R h0 F0 A0) (p1 : 0 ≤ F0 75 ∧ F0 75 + 4 ≤ 4096 ∧ 0 ≤ F0 73 ∧ F0 73 + 5 ≤ 12000) (p2 : sy (A0 74) (F0 75) gp gM) (p3 : 0 ≤ w1.toInt ∧ w1.toInt ≤ 3900 ∧ 0 ≤ w2.toInt ∧ w2.toInt ≤ 3900 ∧ w1.toInt + w2.toInt < 3900) (p4 : 0 ≤ w3.toInt ∧ w3.toInt ≤ 2000 ∧ 0 ≤ w4.toInt ∧ w4.toInt ≤ 3 ∧ 4 * w3.toInt + 5 ≤ gM) : am_Mt 3 260 [.inr (.inr (some 81)), .inl w1, .inl w2, .inl w3, .inl w4] h0 (rf_Q h0 (fun x F' A' => fr1 [73, 75] F0 F' ∧ fr2 [74] A0 A' ∧ (x = w2.toInt + 1 ∧ sy (A' 74) (F' 75) (gp + 1 + ow (A0 1 (w1.toInt + w2.toInt))) gM ∧ F' 75 ≤ F0 75 + 3 + ow (A0 1 (w1.toInt + w2.toInt)) ∧ F0 73 ≤ F' 73 ∧ F' 73 + F' 75 ≤ F0 73 + F0 75 + 6 + ow (A0 1 (w1.toInt + w2.toInt))))) := by
  refine am_Mt.of (D := 2) ?_
  have hI : rf_I h0 h0 F0 A0 := rf_I.start hR
  refine k_aload 1 rfl rfl rfl ?_
  refine r_gA hI 4 rfl rfl rfl ?_
  refine k_iload 5 rfl rfl rfl ?_
  refine k_iload 6 rfl rfl rfl ?_
  obtain ⟨x1, q2⟩ : ∃ q : Int32, q = (w1 + w2) := ⟨_, rfl⟩
  have e3 : x1.toInt = w1.toInt + w2.toInt := by rw [q2, iv_add (by omega) (by omega)]
  refine k_bin x1 7 rfl q2.symm rfl ?_
  refine r_ld 1 hI 8 rfl rfl (by omega) (show x1.toInt < 3900 by omega) rfl (fun x4 (e5 : x4.toInt = A0 1 x1.toInt) => ?_)
  rw [e3] at e5
  refine k_istore 10 rfl rfl ?_
  refine k_iload 12 rfl (gs_ne rfl rfl rfl) rfl ?_
  refine k_push 13 rfl rfl ?_
  have hc6 : (1 : Int32).toInt = 1 := by decide
  by_cases b7 : w4 = (1 : Int32)
  · refine k_c2 16 rfl rfl (if_pos b7) ?_
    have b7 := iv_eq.mp b7
    refine k_iload 18 rfl gs_eq rfl ?_
    refine k_push 19 rfl rfl ?_
    by_cases b8 : x4 = (1 : Int32)
    · refine k_c2 34 rfl rfl (if_pos b8) ?_
      have b8 := iv_eq.mp b8
      refine k_aload 35 rfl (gs_ne rfl rfl rfl) rfl ?_
      refine k_push 37 rfl rfl ?_
      have hc9 : (40 : Int32).toInt = 40 := by decide
      refine k_rv hI rfl (m_says  hI.1 (show 0 ≤ (F0 73) ∧ (F0 73) < 12000 by omega)) rfl rfl rfl hI.rc ?_
      rintro h11 F12 A13 I14 ⟨k16, k17, p15⟩
      replace p15 : F12 73 = (F0 73) + 1 := p15
      have k17 := fr2.nil k17
      subst k17
      show am_Ok _ _ _ (40, _, [], _, 0, 0) _
      refine k_aload 41 rfl (gs_ne rfl rfl rfl) rfl ?_
      refine k_push 43 rfl rfl ?_
      have hc18 : (41 : Int32).toInt = 41 := by decide
      have e19 : F12 75 = F0 75 := k16 75 (by decide)
      refine k_rv I14 rfl (m_saysLater (gp := gp) (gM := gM) I14.1 (show 0 ≤ (F12 75) ∧ (F12 75) < 4096 by omega) (show sy ((A0 74)) ((F12 75)) (gp) (gM) by rw [show F12 75 = F0 75 by omega]; exact p2) (show -(gM) ≤ (41 : Int32).toInt by omega)) rfl rfl rfl I14.rc ?_
      rintro h21 F22 A23 I24 ⟨k26, k27, p25⟩
      replace p25 : F22 75 = (F12 75) + 1 ∧ ((0 ≤ (41 : Int32).toInt ∧ sy (A23 74) (F22 75) (gp) (gM)) ∨ ((41 : Int32).toInt < 0 ∧ sy (A23 74) (F22 75) ((gp) + 1) (gM))) := p25
      obtain ⟨p25a, p25b⟩ := p25
      show am_Ok _ _ _ (46, _, [], _, 0, 0) _
      obtain ⟨f75, hf75, ysy⟩ : ∃ f, F22 75 = f ∧ sy (A23 74) f gp gM := ⟨_, rfl, (p25b.resolve_right (fun z => by omega)).2⟩
      refine k_iload 48 rfl gs_eq rfl ?_
      by_cases b28 : x4 = 0
      · refine k_c1 51 rfl rfl (if_pos b28) ?_
        have b28 := iv_eq0.mp b28
        have hw9 : ow (A0 1 (w1.toInt + w2.toInt)) = 1 := by rw [← e5, show x4.toInt = 0 by omega]; rfl
        refine k_aload 52 rfl (gs_ne rfl rfl rfl) rfl ?_
        refine k_iload 53 rfl (gs_ne rfl rfl rfl) rfl ?_
        refine k_push 54 rfl rfl ?_
        have hc29 : (2 : Int32).toInt = 2 := by decide
        refine k_rv I24 rfl (m_waitsPart (gp := gp) (gM := gM) I24.1 (show 0 ≤ (F22 75) ∧ (F22 75) < 4096 by omega) (show sy ((A23 74)) ((F22 75)) (gp) (gM) by rw [show F22 75 = f75 by omega]; exact ysy) (show 0 ≤ w3.toInt ∧ w3.toInt ≤ 3000 ∧ 0 ≤ (2 : Int32).toInt ∧ (2 : Int32).toInt ≤ 3 ∧ 4 * w3.toInt + (2 : Int32).toInt + 1 ≤ (gM) by omega)) rfl rfl rfl I24.rc ?_
        rintro h31 F32 A33 I34 ⟨k36, k37, p35⟩
        replace p35 : F32 75 = (F22 75) + 1 ∧ sy (A33 74) (F32 75) ((gp) + 1) (gM) := p35
        obtain ⟨p35a, p35b⟩ := p35
        show am_Ok _ _ _ (57, _, [], _, 0, 0) _
        refine k_aload 58 rfl (gs_ne rfl rfl rfl) rfl ?_
        refine k_push 60 rfl rfl ?_
        have hc38 : (32 : Int32).toInt = 32 := by decide
        refine k_rv I34 rfl (m_saysLater (gp := gp + 1) (gM := gM) I34.1 (show 0 ≤ (F32 75) ∧ (F32 75) < 4096 by omega) (show sy ((A33 74)) ((F32 75)) (gp + 1) (gM) from p35b) (show -(gM) ≤ (32 : Int32).toInt by omega)) rfl rfl rfl I34.rc ?_
        rintro h40 F41 A42 I43 ⟨k45, k46, p44⟩
        replace p44 : F41 75 = (F32 75) + 1 ∧ ((0 ≤ (32 : Int32).toInt ∧ sy (A42 74) (F41 75) (gp + 1) (gM)) ∨ ((32 : Int32).toInt < 0 ∧ sy (A42 74) (F41 75) ((gp + 1) + 1) (gM))) := p44
        obtain ⟨p44a, p44b⟩ := p44
        show am_Ok _ _ _ (63, _, [], _, 0, 0) _
        have y3 := (p44b.resolve_right (fun z => by omega)).2
        refine k_aload 64 rfl (gs_ne rfl rfl rfl) rfl ?_
        refine k_iload 65 rfl (gs_ne rfl rfl rfl) rfl ?_
        refine k_push 66 rfl rfl ?_
        refine k_rv I43 rfl (m_waitsPart (gp := gp + 1) (gM := gM) I43.1 (show 0 ≤ (F41 75) ∧ (F41 75) < 4096 by omega) (show sy ((A42 74)) ((F41 75)) (gp + 1) (gM) from y3) (show 0 ≤ w3.toInt ∧ w3.toInt ≤ 3000 ∧ 0 ≤ (1 : Int32).toInt ∧ (1 : Int32).toInt ≤ 3 ∧ 4 * w3.toInt + (1 : Int32).toInt + 1 ≤ (gM) by omega)) rfl rfl rfl I43.rc ?_
        rintro h48 F49 A50 I51 ⟨k53, k54, p52⟩
        replace p52 : F49 75 = (F41 75) + 1 ∧ sy (A50 74) (F49 75) ((gp + 1) + 1) (gM) := p52
        obtain ⟨p52a, p52b⟩ := p52
        show am_Ok _ _ _ (69, _, [], _, 0, 0) _
        have hs9 : sy (A50 74) (F49 75) (gp + 1 + ow (A0 1 (w1.toInt + w2.toInt))) gM := by rw [hw9]; exact p52b
        refine k_goto 124 rfl rfl ?_
        skip
        refine k_iload 125 rfl (gs_ne rfl rfl rfl) rfl ?_
        refine k_push 126 rfl rfl ?_
        obtain ⟨x55, q56⟩ : ∃ q : Int32, q = (w2 + (1 : Int32)) := ⟨_, rfl⟩
        have e57 : x55.toInt = w2.toInt + 1 := by rw [q56, iv_add (by omega) (by omega)]; omega
        refine k_bin x55 127 rfl q56.symm rfl ?_
        have e58 : F49 73 = F41 73 := k53 73 (by decide)
        have e59 : F41 73 = F32 73 := k45 73 (by decide)
        have e60 : F32 73 = F22 73 := k36 73 (by decide)
        have e61 : F22 73 = F12 73 := k26 73 (by decide)
        exact k_fin rfl rfl ⟨_, _, _, _, rfl, I51, (fr1.tr (by decide) (fr1.tr (by decide) (fr1.tr (by decide) (fr1.tr (by decide) (fr1.tr (by decide) fr1.rf k16) k26) k36) k45) k53), (fr2.tr (by decide) (fr2.tr (by decide) (fr2.tr (by decide) (fr2.tr (by decide) fr2.rf k27) k37) k46) k54), show x55.toInt = w2.toInt + 1 ∧ sy ((A50 74)) ((F49 75)) (gp + 1 + ow (A0 1 (w1.toInt + w2.toInt))) gM ∧ (F49 75) ≤ F0 75 + 3 + ow (A0 1 (w1.toInt + w2.toInt)) ∧ F0 73 ≤ (F49 73) ∧ (F49 73) + (F49 75) ≤ F0 73 + F0 75 + 6 + ow (A0 1 (w1.toInt + w2.toInt)) from ⟨by omega, hs9, by omega, by omega, by omega⟩⟩
      · refine k_c1 72 rfl rfl (if_neg b28) ?_
        have b28 := mt iv_eq0.mpr b28
        refine k_iload 74 rfl gs_eq rfl ?_
        refine k_push 75 rfl rfl ?_
        by_cases b62 : x4 = (1 : Int32)
        · refine k_c2 78 rfl rfl (if_pos b62) ?_
          have b62 := iv_eq.mp b62
          have hw9 : ow (A0 1 (w1.toInt + w2.toInt)) = 0 := by rw [← e5, show x4.toInt = 1 by omega]; rfl
          refine k_aload 79 rfl (gs_ne rfl rfl rfl) rfl ?_
          refine k_push 81 rfl rfl ?_
          have hc63 : (92 : Int32).toInt = 92 := by decide
          have e64 : F22 73 = F12 73 := k26 73 (by decide)
          refine k_rv I24 rfl (m_says  I24.1 (show 0 ≤ (F22 73) ∧ (F22 73) < 12000 by omega)) rfl rfl rfl I24.rc ?_
          rintro h66 F67 A68 I69 ⟨k71, k72, p70⟩
          replace p70 : F67 73 = (F22 73) + 1 := p70
          have k72 := fr2.nil k72
          subst k72
          show am_Ok _ _ _ (84, _, [], _, 0, 0) _
          refine k_aload 85 rfl (gs_ne rfl rfl rfl) rfl ?_
          refine k_iload 86 rfl (gs_ne rfl rfl rfl) rfl ?_
          refine k_in (d := 0) rfl rfl rfl rfl rfl ?_
          refine k_push 2 rfl rfl ?_
          have hc73 : (97 : Int32).toInt = 97 := by decide
          refine k_iload 3 rfl rfl rfl ?_
          refine k_push 5 rfl rfl ?_
          have hc74 : (26 : Int32).toInt = 26 := by decide
          obtain ⟨x75, q76⟩ : ∃ q : Int32, q = (w3 - w3 / (26 : Int32) * (26 : Int32)) := ⟨_, rfl⟩
          refine k_divZ x75 6 rfl (by decide) q76.symm rfl ?_
          obtain ⟨x78, q79⟩ : ∃ q : Int32, q = ((97 : Int32) + x75) := ⟨_, rfl⟩
          refine k_bin x78 7 rfl q79.symm rfl ?_
          refine k_fin rfl rfl ⟨_, _, rfl, rf_len I69 I69, ?_⟩
          show am_Ok _ _ _ (89, _, [.inl x78, .inr (.inr (some 81))], _, 0, 0) _
          refine k_rv I69 rfl (m_says  I69.1 (show 0 ≤ (F67 73) ∧ (F67 73) < 12000 by omega)) rfl rfl rfl I69.rc ?_
          rintro h82 F83 A84 I85 ⟨k87, k88, p86⟩
          replace p86 : F83 73 = (F67 73) + 1 := p86
          have k88 := fr2.nil k88
          subst k88
          show am_Ok _ _ _ (92, _, [], _, 0, 0) _
          refine k_aload 93 rfl (gs_ne rfl rfl rfl) rfl ?_
          refine k_push 95 rfl rfl ?_
          have hc89 : (46 : Int32).toInt = 46 := by decide
          refine k_rv I85 rfl (m_says  I85.1 (show 0 ≤ (F83 73) ∧ (F83 73) < 12000 by omega)) rfl rfl rfl I85.rc ?_
          rintro h91 F92 A93 I94 ⟨k96, k97, p95⟩
          replace p95 : F92 73 = (F83 73) + 1 := p95
          have k97 := fr2.nil k97
          subst k97
          show am_Ok _ _ _ (98, _, [], _, 0, 0) _
          refine k_aload 99 rfl (gs_ne rfl rfl rfl) rfl ?_
          refine k_iload 100 rfl (gs_ne rfl rfl rfl) rfl ?_
          refine k_push 101 rfl rfl ?_
          obtain ⟨x98, q99⟩ : ∃ q : Int32, q = (w3 + (1 : Int32)) := ⟨_, rfl⟩
          have e100 : x98.toInt = w3.toInt + 1 := by rw [q99, iv_add (by omega) (by omega)]; omega
          refine k_bin x98 102 rfl q99.symm rfl ?_
          refine k_push 103 rfl rfl ?_
          have hc101 : (0 : Int32).toInt = 0 := by decide
          have e102 : F92 75 = F83 75 := k96 75 (by decide)
          have e103 : F83 75 = F67 75 := k87 75 (by decide)
          have e104 : F67 75 = F22 75 := k71 75 (by decide)
          refine k_rv I94 rfl (m_waitsPart (gp := gp) (gM := gM) I94.1 (show 0 ≤ (F92 75) ∧ (F92 75) < 4096 by omega) (show sy ((A23 74)) ((F92 75)) (gp) (gM) by rw [show F92 75 = f75 by omega]; exact ysy) (show 0 ≤ x98.toInt ∧ x98.toInt ≤ 3000 ∧ 0 ≤ (0 : Int32).toInt ∧ (0 : Int32).toInt ≤ 3 ∧ 4 * x98.toInt + (0 : Int32).toInt + 1 ≤ (gM) by omega)) rfl rfl rfl I94.rc ?_
          rintro h106 F107 A108 I109 ⟨k111, k112, p110⟩
          replace p110 : F107 75 = (F92 75) + 1 ∧ sy (A108 74) (F107 75) ((gp) + 1) (gM) := p110
          obtain ⟨p110a, p110b⟩ := p110
          show am_Ok _ _ _ (106, _, [], _, 0, 0) _
          have hs9 : sy (A108 74) (F107 75) (gp + 1 + ow (A0 1 (w1.toInt + w2.toInt))) gM := by rw [hw9, show gp + 1 + (0 : Int) = gp + 1 by omega]; exact p110b
          refine k_goto 124 rfl rfl ?_
          skip
          refine k_iload 125 rfl (gs_ne rfl rfl rfl) rfl ?_
          refine k_push 126 rfl rfl ?_
          obtain ⟨x113, q114⟩ : ∃ q : Int32, q = (w2 + (1 : Int32)) := ⟨_, rfl⟩
          have e115 : x113.toInt = w2.toInt + 1 := by rw [q114, iv_add (by omega) (by omega)]; omega
          refine k_bin x113 127 rfl q114.symm rfl ?_
          have e116 : F107 73 = F92 73 := k111 73 (by decide)
          exact k_fin rfl rfl ⟨_, _, _, _, rfl, I109, (fr1.tr (by decide) (fr1.tr (by decide) (fr1.tr (by decide) (fr1.tr (by decide) (fr1.tr (by decide) (fr1.tr (by decide) fr1.rf k16) k26) k71) k87) k96) k111), (fr2.tr (by decide) (fr2.tr (by decide) fr2.rf k27) k112), show x113.toInt = w2.toInt + 1 ∧ sy ((A108 74)) ((F107 75)) (gp + 1 + ow (A0 1 (w1.toInt + w2.toInt))) gM ∧ (F107 75) ≤ F0 75 + 3 + ow (A0 1 (w1.toInt + w2.toInt)) ∧ F0 73 ≤ (F107 73) ∧ (F107 73) + (F107 75) ≤ F0 73 + F0 75 + 6 + ow (A0 1 (w1.toInt + w2.toInt)) from ⟨by omega, hs9, by omega, by omega, by omega⟩⟩
        · refine k_c2 109 rfl rfl (if_neg b62) ?_
          have b62 := mt iv_eq.mpr b62
          have hw9 : ow (A0 1 (w1.toInt + w2.toInt)) = -1 := by rw [← e5]; exact ow_v (by omega) (by omega)
          refine k_aload 110 rfl (gs_ne rfl rfl rfl) rfl ?_
          refine k_iload 111 rfl (gs_ne rfl rfl rfl) rfl ?_
          refine k_push 112 rfl rfl ?_
          obtain ⟨x117, q118⟩ : ∃ q : Int32, q = (w3 - (1 : Int32)) := ⟨_, rfl⟩
          refine k_bin x117 113 rfl q118.symm rfl ?_
          refine k_iload 115 rfl gs_eq rfl ?_
          refine k_push 116 rfl rfl ?_
          have hc120 : (2 : Int32).toInt = 2 := by decide
          obtain ⟨x121, q122⟩ : ∃ q : Int32, q = (x4 - (2 : Int32)) := ⟨_, rfl⟩
          refine k_bin x121 117 rfl q122.symm rfl ?_
          obtain ⟨x124, q125⟩ : ∃ q : Int32, q = (x117 - x121) := ⟨_, rfl⟩
          refine k_bin x124 118 rfl q125.symm rfl ?_
          refine k_in (d := 0) rfl rfl rfl rfl rfl ?_
          refine k_push 2 rfl rfl ?_
          have hc127 : (97 : Int32).toInt = 97 := by decide
          refine k_iload 3 rfl rfl rfl ?_
          refine k_push 5 rfl rfl ?_
          have hc128 : (26 : Int32).toInt = 26 := by decide
          obtain ⟨x129, q130⟩ : ∃ q : Int32, q = (x124 - x124 / (26 : Int32) * (26 : Int32)) := ⟨_, rfl⟩
          refine k_divZ x129 6 rfl (by decide) q130.symm rfl ?_
          obtain ⟨x132, q133⟩ : ∃ q : Int32, q = ((97 : Int32) + x129) := ⟨_, rfl⟩
          refine k_bin x132 7 rfl q133.symm rfl ?_
          refine k_fin rfl rfl ⟨_, _, rfl, rf_len I24 I24, ?_⟩
          show am_Ok _ _ _ (121, _, [.inl x132, .inr (.inr (some 81))], _, 0, 0) _
          have e135 : F22 73 = F12 73 := k26 73 (by decide)
          refine k_rv I24 rfl (m_says  I24.1 (show 0 ≤ (F22 73) ∧ (F22 73) < 12000 by omega)) rfl rfl rfl I24.rc ?_
          rintro h137 F138 A139 I140 ⟨k142, k143, p141⟩
          replace p141 : F138 73 = (F22 73) + 1 := p141
          have k143 := fr2.nil k143
          subst k143
          show am_Ok _ _ _ (124, _, [], _, 0, 0) _
          have hs9 : sy (A23 74) (F138 75) (gp + 1 + ow (A0 1 (w1.toInt + w2.toInt))) gM := by rw [hw9, show gp + 1 + (-1 : Int) = gp by omega, show F138 75 = f75 from (k142 75 (by decide)).trans (by omega)]; exact ysy
          refine k_iload 125 rfl (gs_ne rfl rfl rfl) rfl ?_
          refine k_push 126 rfl rfl ?_
          obtain ⟨x144, q145⟩ : ∃ q : Int32, q = (w2 + (1 : Int32)) := ⟨_, rfl⟩
          have e146 : x144.toInt = w2.toInt + 1 := by rw [q145, iv_add (by omega) (by omega)]; omega
          refine k_bin x144 127 rfl q145.symm rfl ?_
          have e147 : F138 75 = F22 75 := k142 75 (by decide)
          exact k_fin rfl rfl ⟨_, _, _, _, rfl, I140, (fr1.tr (by decide) (fr1.tr (by decide) (fr1.tr (by decide) fr1.rf k16) k26) k142), (fr2.tr (by decide) fr2.rf k27), show x144.toInt = w2.toInt + 1 ∧ sy ((A23 74)) ((F138 75)) (gp + 1 + ow (A0 1 (w1.toInt + w2.toInt))) gM ∧ (F138 75) ≤ F0 75 + 3 + ow (A0 1 (w1.toInt + w2.toInt)) ∧ F0 73 ≤ (F138 73) ∧ (F138 73) + (F138 75) ≤ F0 73 + F0 75 + 6 + ow (A0 1 (w1.toInt + w2.toInt)) from ⟨by omega, hs9, by omega, by omega, by omega⟩⟩
    · refine k_c2 22 rfl rfl (if_neg b8) ?_
      have b8 := mt iv_eq.mpr b8
      refine k_iload 24 rfl (gs_ne rfl rfl rfl) rfl ?_
      refine k_push 25 rfl rfl ?_
      have hc148 : (2 : Int32).toInt = 2 := by decide
      by_cases b149 : w4 = (2 : Int32)
      · refine k_c2 28 rfl rfl (if_pos b149) ?_
        have b149 := iv_eq.mp b149
        refine k_iload 30 rfl gs_eq rfl ?_
        refine k_push 31 rfl rfl ?_
        by_cases b150 : (2 : Int32) ≤ x4
        · refine k_c2 46 rfl rfl (if_pos b150) ?_
          have b150 := iv_le.mp b150
          obtain ⟨f75, hf75, ysy⟩ : ∃ f, F0 75 = f ∧ sy (A0 74) f gp gM := ⟨_, rfl, p2⟩
          refine k_iload 48 rfl gs_eq rfl ?_
          by_cases b151 : x4 = 0
          · refine k_c1 51 rfl rfl (if_pos b151) ?_
            have b151 := iv_eq0.mp b151
            have hw9 : ow (A0 1 (w1.toInt + w2.toInt)) = 1 := by rw [← e5, show x4.toInt = 0 by omega]; rfl
            refine k_aload 52 rfl (gs_ne rfl rfl rfl) rfl ?_
            refine k_iload 53 rfl (gs_ne rfl rfl rfl) rfl ?_
            refine k_push 54 rfl rfl ?_
            refine k_rv hI rfl (m_waitsPart (gp := gp) (gM := gM) hI.1 (show 0 ≤ (F0 75) ∧ (F0 75) < 4096 by omega) (show sy ((A0 74)) ((F0 75)) (gp) (gM) by rw [show F0 75 = f75 by omega]; exact ysy) (show 0 ≤ w3.toInt ∧ w3.toInt ≤ 3000 ∧ 0 ≤ (2 : Int32).toInt ∧ (2 : Int32).toInt ≤ 3 ∧ 4 * w3.toInt + (2 : Int32).toInt + 1 ≤ (gM) by omega)) rfl rfl rfl hI.rc ?_
            rintro h153 F154 A155 I156 ⟨k158, k159, p157⟩
            replace p157 : F154 75 = (F0 75) + 1 ∧ sy (A155 74) (F154 75) ((gp) + 1) (gM) := p157
            obtain ⟨p157a, p157b⟩ := p157
            show am_Ok _ _ _ (57, _, [], _, 0, 0) _
            refine k_aload 58 rfl (gs_ne rfl rfl rfl) rfl ?_
            refine k_push 60 rfl rfl ?_
            have hc160 : (32 : Int32).toInt = 32 := by decide
            refine k_rv I156 rfl (m_saysLater (gp := gp + 1) (gM := gM) I156.1 (show 0 ≤ (F154 75) ∧ (F154 75) < 4096 by omega) (show sy ((A155 74)) ((F154 75)) (gp + 1) (gM) from p157b) (show -(gM) ≤ (32 : Int32).toInt by omega)) rfl rfl rfl I156.rc ?_
            rintro h162 F163 A164 I165 ⟨k167, k168, p166⟩
            replace p166 : F163 75 = (F154 75) + 1 ∧ ((0 ≤ (32 : Int32).toInt ∧ sy (A164 74) (F163 75) (gp + 1) (gM)) ∨ ((32 : Int32).toInt < 0 ∧ sy (A164 74) (F163 75) ((gp + 1) + 1) (gM))) := p166
            obtain ⟨p166a, p166b⟩ := p166
            show am_Ok _ _ _ (63, _, [], _, 0, 0) _
            have y3 := (p166b.resolve_right (fun z => by omega)).2
            refine k_aload 64 rfl (gs_ne rfl rfl rfl) rfl ?_
            refine k_iload 65 rfl (gs_ne rfl rfl rfl) rfl ?_
            refine k_push 66 rfl rfl ?_
            refine k_rv I165 rfl (m_waitsPart (gp := gp + 1) (gM := gM) I165.1 (show 0 ≤ (F163 75) ∧ (F163 75) < 4096 by omega) (show sy ((A164 74)) ((F163 75)) (gp + 1) (gM) from y3) (show 0 ≤ w3.toInt ∧ w3.toInt ≤ 3000 ∧ 0 ≤ (1 : Int32).toInt ∧ (1 : Int32).toInt ≤ 3 ∧ 4 * w3.toInt + (1 : Int32).toInt + 1 ≤ (gM) by omega)) rfl rfl rfl I165.rc ?_
            rintro h170 F171 A172 I173 ⟨k175, k176, p174⟩
            replace p174 : F171 75 = (F163 75) + 1 ∧ sy (A172 74) (F171 75) ((gp + 1) + 1) (gM) := p174
            obtain ⟨p174a, p174b⟩ := p174
            show am_Ok _ _ _ (69, _, [], _, 0, 0) _
            have hs9 : sy (A172 74) (F171 75) (gp + 1 + ow (A0 1 (w1.toInt + w2.toInt))) gM := by rw [hw9]; exact p174b
            refine k_goto 124 rfl rfl ?_
            skip
            refine k_iload 125 rfl (gs_ne rfl rfl rfl) rfl ?_
            refine k_push 126 rfl rfl ?_
            obtain ⟨x177, q178⟩ : ∃ q : Int32, q = (w2 + (1 : Int32)) := ⟨_, rfl⟩
            have e179 : x177.toInt = w2.toInt + 1 := by rw [q178, iv_add (by omega) (by omega)]; omega
            refine k_bin x177 127 rfl q178.symm rfl ?_
            have e180 : F171 73 = F163 73 := k175 73 (by decide)
            have e181 : F163 73 = F154 73 := k167 73 (by decide)
            have e182 : F154 73 = F0 73 := k158 73 (by decide)
            exact k_fin rfl rfl ⟨_, _, _, _, rfl, I173, (fr1.tr (by decide) (fr1.tr (by decide) (fr1.tr (by decide) fr1.rf k158) k167) k175), (fr2.tr (by decide) (fr2.tr (by decide) (fr2.tr (by decide) fr2.rf k159) k168) k176), show x177.toInt = w2.toInt + 1 ∧ sy ((A172 74)) ((F171 75)) (gp + 1 + ow (A0 1 (w1.toInt + w2.toInt))) gM ∧ (F171 75) ≤ F0 75 + 3 + ow (A0 1 (w1.toInt + w2.toInt)) ∧ F0 73 ≤ (F171 73) ∧ (F171 73) + (F171 75) ≤ F0 73 + F0 75 + 6 + ow (A0 1 (w1.toInt + w2.toInt)) from ⟨by omega, hs9, by omega, by omega, by omega⟩⟩
          · refine k_c1 72 rfl rfl (if_neg b151) ?_
            have b151 := mt iv_eq0.mpr b151
            refine k_iload 74 rfl gs_eq rfl ?_
            refine k_push 75 rfl rfl ?_
            by_cases b183 : x4 = (1 : Int32)
            · refine k_c2 78 rfl rfl (if_pos b183) ?_
              have b183 := iv_eq.mp b183
              have hw9 : ow (A0 1 (w1.toInt + w2.toInt)) = 0 := by rw [← e5, show x4.toInt = 1 by omega]; rfl
              refine k_aload 79 rfl (gs_ne rfl rfl rfl) rfl ?_
              refine k_push 81 rfl rfl ?_
              have hc184 : (92 : Int32).toInt = 92 := by decide
              refine k_rv hI rfl (m_says  hI.1 (show 0 ≤ (F0 73) ∧ (F0 73) < 12000 by omega)) rfl rfl rfl hI.rc ?_
              rintro h186 F187 A188 I189 ⟨k191, k192, p190⟩
              replace p190 : F187 73 = (F0 73) + 1 := p190
              have k192 := fr2.nil k192
              subst k192
              show am_Ok _ _ _ (84, _, [], _, 0, 0) _
              refine k_aload 85 rfl (gs_ne rfl rfl rfl) rfl ?_
              refine k_iload 86 rfl (gs_ne rfl rfl rfl) rfl ?_
              refine k_in (d := 0) rfl rfl rfl rfl rfl ?_
              refine k_push 2 rfl rfl ?_
              have hc193 : (97 : Int32).toInt = 97 := by decide
              refine k_iload 3 rfl rfl rfl ?_
              refine k_push 5 rfl rfl ?_
              have hc194 : (26 : Int32).toInt = 26 := by decide
              obtain ⟨x195, q196⟩ : ∃ q : Int32, q = (w3 - w3 / (26 : Int32) * (26 : Int32)) := ⟨_, rfl⟩
              refine k_divZ x195 6 rfl (by decide) q196.symm rfl ?_
              obtain ⟨x198, q199⟩ : ∃ q : Int32, q = ((97 : Int32) + x195) := ⟨_, rfl⟩
              refine k_bin x198 7 rfl q199.symm rfl ?_
              refine k_fin rfl rfl ⟨_, _, rfl, rf_len I189 I189, ?_⟩
              show am_Ok _ _ _ (89, _, [.inl x198, .inr (.inr (some 81))], _, 0, 0) _
              refine k_rv I189 rfl (m_says  I189.1 (show 0 ≤ (F187 73) ∧ (F187 73) < 12000 by omega)) rfl rfl rfl I189.rc ?_
              rintro h202 F203 A204 I205 ⟨k207, k208, p206⟩
              replace p206 : F203 73 = (F187 73) + 1 := p206
              have k208 := fr2.nil k208
              subst k208
              show am_Ok _ _ _ (92, _, [], _, 0, 0) _
              refine k_aload 93 rfl (gs_ne rfl rfl rfl) rfl ?_
              refine k_push 95 rfl rfl ?_
              have hc209 : (46 : Int32).toInt = 46 := by decide
              refine k_rv I205 rfl (m_says  I205.1 (show 0 ≤ (F203 73) ∧ (F203 73) < 12000 by omega)) rfl rfl rfl I205.rc ?_
              rintro h211 F212 A213 I214 ⟨k216, k217, p215⟩
              replace p215 : F212 73 = (F203 73) + 1 := p215
              have k217 := fr2.nil k217
              subst k217
              show am_Ok _ _ _ (98, _, [], _, 0, 0) _
              refine k_aload 99 rfl (gs_ne rfl rfl rfl) rfl ?_
              refine k_iload 100 rfl (gs_ne rfl rfl rfl) rfl ?_
              refine k_push 101 rfl rfl ?_
              obtain ⟨x218, q219⟩ : ∃ q : Int32, q = (w3 + (1 : Int32)) := ⟨_, rfl⟩
              have e220 : x218.toInt = w3.toInt + 1 := by rw [q219, iv_add (by omega) (by omega)]; omega
              refine k_bin x218 102 rfl q219.symm rfl ?_
              refine k_push 103 rfl rfl ?_
              have hc221 : (0 : Int32).toInt = 0 := by decide
              have e222 : F212 75 = F203 75 := k216 75 (by decide)
              have e223 : F203 75 = F187 75 := k207 75 (by decide)
              have e224 : F187 75 = F0 75 := k191 75 (by decide)
              refine k_rv I214 rfl (m_waitsPart (gp := gp) (gM := gM) I214.1 (show 0 ≤ (F212 75) ∧ (F212 75) < 4096 by omega) (show sy ((A0 74)) ((F212 75)) (gp) (gM) by rw [show F212 75 = f75 by omega]; exact ysy) (show 0 ≤ x218.toInt ∧ x218.toInt ≤ 3000 ∧ 0 ≤ (0 : Int32).toInt ∧ (0 : Int32).toInt ≤ 3 ∧ 4 * x218.toInt + (0 : Int32).toInt + 1 ≤ (gM) by omega)) rfl rfl rfl I214.rc ?_
              rintro h226 F227 A228 I229 ⟨k231, k232, p230⟩
              replace p230 : F227 75 = (F212 75) + 1 ∧ sy (A228 74) (F227 75) ((gp) + 1) (gM) := p230
              obtain ⟨p230a, p230b⟩ := p230
              show am_Ok _ _ _ (106, _, [], _, 0, 0) _
              have hs9 : sy (A228 74) (F227 75) (gp + 1 + ow (A0 1 (w1.toInt + w2.toInt))) gM := by rw [hw9, show gp + 1 + (0 : Int) = gp + 1 by omega]; exact p230b
              refine k_goto 124 rfl rfl ?_
              skip
              refine k_iload 125 rfl (gs_ne rfl rfl rfl) rfl ?_
              refine k_push 126 rfl rfl ?_
              obtain ⟨x233, q234⟩ : ∃ q : Int32, q = (w2 + (1 : Int32)) := ⟨_, rfl⟩
              have e235 : x233.toInt = w2.toInt + 1 := by rw [q234, iv_add (by omega) (by omega)]; omega
              refine k_bin x233 127 rfl q234.symm rfl ?_
              have e236 : F227 73 = F212 73 := k231 73 (by decide)
              exact k_fin rfl rfl ⟨_, _, _, _, rfl, I229, (fr1.tr (by decide) (fr1.tr (by decide) (fr1.tr (by decide) (fr1.tr (by decide) fr1.rf k191) k207) k216) k231), (fr2.tr (by decide) fr2.rf k232), show x233.toInt = w2.toInt + 1 ∧ sy ((A228 74)) ((F227 75)) (gp + 1 + ow (A0 1 (w1.toInt + w2.toInt))) gM ∧ (F227 75) ≤ F0 75 + 3 + ow (A0 1 (w1.toInt + w2.toInt)) ∧ F0 73 ≤ (F227 73) ∧ (F227 73) + (F227 75) ≤ F0 73 + F0 75 + 6 + ow (A0 1 (w1.toInt + w2.toInt)) from ⟨by omega, hs9, by omega, by omega, by omega⟩⟩
            · refine k_c2 109 rfl rfl (if_neg b183) ?_
              have b183 := mt iv_eq.mpr b183
              have hw9 : ow (A0 1 (w1.toInt + w2.toInt)) = -1 := by rw [← e5]; exact ow_v (by omega) (by omega)
              refine k_aload 110 rfl (gs_ne rfl rfl rfl) rfl ?_
              refine k_iload 111 rfl (gs_ne rfl rfl rfl) rfl ?_
              refine k_push 112 rfl rfl ?_
              obtain ⟨x237, q238⟩ : ∃ q : Int32, q = (w3 - (1 : Int32)) := ⟨_, rfl⟩
              refine k_bin x237 113 rfl q238.symm rfl ?_
              refine k_iload 115 rfl gs_eq rfl ?_
              refine k_push 116 rfl rfl ?_
              obtain ⟨x240, q241⟩ : ∃ q : Int32, q = (x4 - (2 : Int32)) := ⟨_, rfl⟩
              refine k_bin x240 117 rfl q241.symm rfl ?_
              obtain ⟨x243, q244⟩ : ∃ q : Int32, q = (x237 - x240) := ⟨_, rfl⟩
              refine k_bin x243 118 rfl q244.symm rfl ?_
              refine k_in (d := 0) rfl rfl rfl rfl rfl ?_
              refine k_push 2 rfl rfl ?_
              have hc246 : (97 : Int32).toInt = 97 := by decide
              refine k_iload 3 rfl rfl rfl ?_
              refine k_push 5 rfl rfl ?_
              have hc247 : (26 : Int32).toInt = 26 := by decide
              obtain ⟨x248, q249⟩ : ∃ q : Int32, q = (x243 - x243 / (26 : Int32) * (26 : Int32)) := ⟨_, rfl⟩
              refine k_divZ x248 6 rfl (by decide) q249.symm rfl ?_
              obtain ⟨x251, q252⟩ : ∃ q : Int32, q = ((97 : Int32) + x248) := ⟨_, rfl⟩
              refine k_bin x251 7 rfl q252.symm rfl ?_
              refine k_fin rfl rfl ⟨_, _, rfl, rf_len hI hI, ?_⟩
              show am_Ok _ _ _ (121, _, [.inl x251, .inr (.inr (some 81))], _, 0, 0) _
              refine k_rv hI rfl (m_says  hI.1 (show 0 ≤ (F0 73) ∧ (F0 73) < 12000 by omega)) rfl rfl rfl hI.rc ?_
              rintro h255 F256 A257 I258 ⟨k260, k261, p259⟩
              replace p259 : F256 73 = (F0 73) + 1 := p259
              have k261 := fr2.nil k261
              subst k261
              show am_Ok _ _ _ (124, _, [], _, 0, 0) _
              have hs9 : sy (A0 74) (F256 75) (gp + 1 + ow (A0 1 (w1.toInt + w2.toInt))) gM := by rw [hw9, show gp + 1 + (-1 : Int) = gp by omega, show F256 75 = f75 from (k260 75 (by decide)).trans (by omega)]; exact ysy
              refine k_iload 125 rfl (gs_ne rfl rfl rfl) rfl ?_
              refine k_push 126 rfl rfl ?_
              obtain ⟨x262, q263⟩ : ∃ q : Int32, q = (w2 + (1 : Int32)) := ⟨_, rfl⟩
              have e264 : x262.toInt = w2.toInt + 1 := by rw [q263, iv_add (by omega) (by omega)]; omega
              refine k_bin x262 127 rfl q263.symm rfl ?_
              have e265 : F256 75 = F0 75 := k260 75 (by decide)
              exact k_fin rfl rfl ⟨_, _, _, _, rfl, I258, (fr1.tr (by decide) fr1.rf k260), fr2.rf, show x262.toInt = w2.toInt + 1 ∧ sy ((A0 74)) ((F256 75)) (gp + 1 + ow (A0 1 (w1.toInt + w2.toInt))) gM ∧ (F256 75) ≤ F0 75 + 3 + ow (A0 1 (w1.toInt + w2.toInt)) ∧ F0 73 ≤ (F256 73) ∧ (F256 73) + (F256 75) ≤ F0 73 + F0 75 + 6 + ow (A0 1 (w1.toInt + w2.toInt)) from ⟨by omega, hs9, by omega, by omega, by omega⟩⟩
        · refine k_c2 34 rfl rfl (if_neg b150) ?_
          have b150 := mt iv_le.mpr b150
          refine k_aload 35 rfl (gs_ne rfl rfl rfl) rfl ?_
          refine k_push 37 rfl rfl ?_
          have hc266 : (40 : Int32).toInt = 40 := by decide
          refine k_rv hI rfl (m_says  hI.1 (show 0 ≤ (F0 73) ∧ (F0 73) < 12000 by omega)) rfl rfl rfl hI.rc ?_
          rintro h268 F269 A270 I271 ⟨k273, k274, p272⟩
          replace p272 : F269 73 = (F0 73) + 1 := p272
          have k274 := fr2.nil k274
          subst k274
          show am_Ok _ _ _ (40, _, [], _, 0, 0) _
          refine k_aload 41 rfl (gs_ne rfl rfl rfl) rfl ?_
          refine k_push 43 rfl rfl ?_
          have hc275 : (41 : Int32).toInt = 41 := by decide
          have e276 : F269 75 = F0 75 := k273 75 (by decide)
          refine k_rv I271 rfl (m_saysLater (gp := gp) (gM := gM) I271.1 (show 0 ≤ (F269 75) ∧ (F269 75) < 4096 by omega) (show sy ((A0 74)) ((F269 75)) (gp) (gM) by rw [show F269 75 = F0 75 by omega]; exact p2) (show -(gM) ≤ (41 : Int32).toInt by omega)) rfl rfl rfl I271.rc ?_
          rintro h278 F279 A280 I281 ⟨k283, k284, p282⟩
          replace p282 : F279 75 = (F269 75) + 1 ∧ ((0 ≤ (41 : Int32).toInt ∧ sy (A280 74) (F279 75) (gp) (gM)) ∨ ((41 : Int32).toInt < 0 ∧ sy (A280 74) (F279 75) ((gp) + 1) (gM))) := p282
          obtain ⟨p282a, p282b⟩ := p282
          show am_Ok _ _ _ (46, _, [], _, 0, 0) _
          obtain ⟨f75, hf75, ysy⟩ : ∃ f, F279 75 = f ∧ sy (A280 74) f gp gM := ⟨_, rfl, (p282b.resolve_right (fun z => by omega)).2⟩
          refine k_iload 48 rfl gs_eq rfl ?_
          by_cases b285 : x4 = 0
          · refine k_c1 51 rfl rfl (if_pos b285) ?_
            have b285 := iv_eq0.mp b285
            have hw9 : ow (A0 1 (w1.toInt + w2.toInt)) = 1 := by rw [← e5, show x4.toInt = 0 by omega]; rfl
            refine k_aload 52 rfl (gs_ne rfl rfl rfl) rfl ?_
            refine k_iload 53 rfl (gs_ne rfl rfl rfl) rfl ?_
            refine k_push 54 rfl rfl ?_
            refine k_rv I281 rfl (m_waitsPart (gp := gp) (gM := gM) I281.1 (show 0 ≤ (F279 75) ∧ (F279 75) < 4096 by omega) (show sy ((A280 74)) ((F279 75)) (gp) (gM) by rw [show F279 75 = f75 by omega]; exact ysy) (show 0 ≤ w3.toInt ∧ w3.toInt ≤ 3000 ∧ 0 ≤ (2 : Int32).toInt ∧ (2 : Int32).toInt ≤ 3 ∧ 4 * w3.toInt + (2 : Int32).toInt + 1 ≤ (gM) by omega)) rfl rfl rfl I281.rc ?_
            rintro h287 F288 A289 I290 ⟨k292, k293, p291⟩
            replace p291 : F288 75 = (F279 75) + 1 ∧ sy (A289 74) (F288 75) ((gp) + 1) (gM) := p291
            obtain ⟨p291a, p291b⟩ := p291
            show am_Ok _ _ _ (57, _, [], _, 0, 0) _
            refine k_aload 58 rfl (gs_ne rfl rfl rfl) rfl ?_
            refine k_push 60 rfl rfl ?_
            have hc294 : (32 : Int32).toInt = 32 := by decide
            refine k_rv I290 rfl (m_saysLater (gp := gp + 1) (gM := gM) I290.1 (show 0 ≤ (F288 75) ∧ (F288 75) < 4096 by omega) (show sy ((A289 74)) ((F288 75)) (gp + 1) (gM) from p291b) (show -(gM) ≤ (32 : Int32).toInt by omega)) rfl rfl rfl I290.rc ?_
            rintro h296 F297 A298 I299 ⟨k301, k302, p300⟩
            replace p300 : F297 75 = (F288 75) + 1 ∧ ((0 ≤ (32 : Int32).toInt ∧ sy (A298 74) (F297 75) (gp + 1) (gM)) ∨ ((32 : Int32).toInt < 0 ∧ sy (A298 74) (F297 75) ((gp + 1) + 1) (gM))) := p300
            obtain ⟨p300a, p300b⟩ := p300
            show am_Ok _ _ _ (63, _, [], _, 0, 0) _
            have y3 := (p300b.resolve_right (fun z => by omega)).2
            refine k_aload 64 rfl (gs_ne rfl rfl rfl) rfl ?_
            refine k_iload 65 rfl (gs_ne rfl rfl rfl) rfl ?_
            refine k_push 66 rfl rfl ?_
            refine k_rv I299 rfl (m_waitsPart (gp := gp + 1) (gM := gM) I299.1 (show 0 ≤ (F297 75) ∧ (F297 75) < 4096 by omega) (show sy ((A298 74)) ((F297 75)) (gp + 1) (gM) from y3) (show 0 ≤ w3.toInt ∧ w3.toInt ≤ 3000 ∧ 0 ≤ (1 : Int32).toInt ∧ (1 : Int32).toInt ≤ 3 ∧ 4 * w3.toInt + (1 : Int32).toInt + 1 ≤ (gM) by omega)) rfl rfl rfl I299.rc ?_
            rintro h304 F305 A306 I307 ⟨k309, k310, p308⟩
            replace p308 : F305 75 = (F297 75) + 1 ∧ sy (A306 74) (F305 75) ((gp + 1) + 1) (gM) := p308
            obtain ⟨p308a, p308b⟩ := p308
            show am_Ok _ _ _ (69, _, [], _, 0, 0) _
            have hs9 : sy (A306 74) (F305 75) (gp + 1 + ow (A0 1 (w1.toInt + w2.toInt))) gM := by rw [hw9]; exact p308b
            refine k_goto 124 rfl rfl ?_
            skip
            refine k_iload 125 rfl (gs_ne rfl rfl rfl) rfl ?_
            refine k_push 126 rfl rfl ?_
            obtain ⟨x311, q312⟩ : ∃ q : Int32, q = (w2 + (1 : Int32)) := ⟨_, rfl⟩
            have e313 : x311.toInt = w2.toInt + 1 := by rw [q312, iv_add (by omega) (by omega)]; omega
            refine k_bin x311 127 rfl q312.symm rfl ?_
            have e314 : F305 73 = F297 73 := k309 73 (by decide)
            have e315 : F297 73 = F288 73 := k301 73 (by decide)
            have e316 : F288 73 = F279 73 := k292 73 (by decide)
            have e317 : F279 73 = F269 73 := k283 73 (by decide)
            exact k_fin rfl rfl ⟨_, _, _, _, rfl, I307, (fr1.tr (by decide) (fr1.tr (by decide) (fr1.tr (by decide) (fr1.tr (by decide) (fr1.tr (by decide) fr1.rf k273) k283) k292) k301) k309), (fr2.tr (by decide) (fr2.tr (by decide) (fr2.tr (by decide) (fr2.tr (by decide) fr2.rf k284) k293) k302) k310), show x311.toInt = w2.toInt + 1 ∧ sy ((A306 74)) ((F305 75)) (gp + 1 + ow (A0 1 (w1.toInt + w2.toInt))) gM ∧ (F305 75) ≤ F0 75 + 3 + ow (A0 1 (w1.toInt + w2.toInt)) ∧ F0 73 ≤ (F305 73) ∧ (F305 73) + (F305 75) ≤ F0 73 + F0 75 + 6 + ow (A0 1 (w1.toInt + w2.toInt)) from ⟨by omega, hs9, by omega, by omega, by omega⟩⟩
          · refine k_c1 72 rfl rfl (if_neg b285) ?_
            have b285 := mt iv_eq0.mpr b285
            refine k_iload 74 rfl gs_eq rfl ?_
            refine k_push 75 rfl rfl ?_
            by_cases b318 : x4 = (1 : Int32)
            · refine k_c2 78 rfl rfl (if_pos b318) ?_
              have b318 := iv_eq.mp b318
              have hw9 : ow (A0 1 (w1.toInt + w2.toInt)) = 0 := by rw [← e5, show x4.toInt = 1 by omega]; rfl
              refine k_aload 79 rfl (gs_ne rfl rfl rfl) rfl ?_
              refine k_push 81 rfl rfl ?_
              have hc319 : (92 : Int32).toInt = 92 := by decide
              have e320 : F279 73 = F269 73 := k283 73 (by decide)
              refine k_rv I281 rfl (m_says  I281.1 (show 0 ≤ (F279 73) ∧ (F279 73) < 12000 by omega)) rfl rfl rfl I281.rc ?_
              rintro h322 F323 A324 I325 ⟨k327, k328, p326⟩
              replace p326 : F323 73 = (F279 73) + 1 := p326
              have k328 := fr2.nil k328
              subst k328
              show am_Ok _ _ _ (84, _, [], _, 0, 0) _
              refine k_aload 85 rfl (gs_ne rfl rfl rfl) rfl ?_
              refine k_iload 86 rfl (gs_ne rfl rfl rfl) rfl ?_
              refine k_in (d := 0) rfl rfl rfl rfl rfl ?_
              refine k_push 2 rfl rfl ?_
              have hc329 : (97 : Int32).toInt = 97 := by decide
              refine k_iload 3 rfl rfl rfl ?_
              refine k_push 5 rfl rfl ?_
              have hc330 : (26 : Int32).toInt = 26 := by decide
              obtain ⟨x331, q332⟩ : ∃ q : Int32, q = (w3 - w3 / (26 : Int32) * (26 : Int32)) := ⟨_, rfl⟩
              refine k_divZ x331 6 rfl (by decide) q332.symm rfl ?_
              obtain ⟨x334, q335⟩ : ∃ q : Int32, q = ((97 : Int32) + x331) := ⟨_, rfl⟩
              refine k_bin x334 7 rfl q335.symm rfl ?_
              refine k_fin rfl rfl ⟨_, _, rfl, rf_len I325 I325, ?_⟩
              show am_Ok _ _ _ (89, _, [.inl x334, .inr (.inr (some 81))], _, 0, 0) _
              refine k_rv I325 rfl (m_says  I325.1 (show 0 ≤ (F323 73) ∧ (F323 73) < 12000 by omega)) rfl rfl rfl I325.rc ?_
              rintro h338 F339 A340 I341 ⟨k343, k344, p342⟩
              replace p342 : F339 73 = (F323 73) + 1 := p342
              have k344 := fr2.nil k344
              subst k344
              show am_Ok _ _ _ (92, _, [], _, 0, 0) _
              refine k_aload 93 rfl (gs_ne rfl rfl rfl) rfl ?_
              refine k_push 95 rfl rfl ?_
              have hc345 : (46 : Int32).toInt = 46 := by decide
              refine k_rv I341 rfl (m_says  I341.1 (show 0 ≤ (F339 73) ∧ (F339 73) < 12000 by omega)) rfl rfl rfl I341.rc ?_
              rintro h347 F348 A349 I350 ⟨k352, k353, p351⟩
              replace p351 : F348 73 = (F339 73) + 1 := p351
              have k353 := fr2.nil k353
              subst k353
              show am_Ok _ _ _ (98, _, [], _, 0, 0) _
              refine k_aload 99 rfl (gs_ne rfl rfl rfl) rfl ?_
              refine k_iload 100 rfl (gs_ne rfl rfl rfl) rfl ?_
              refine k_push 101 rfl rfl ?_
              obtain ⟨x354, q355⟩ : ∃ q : Int32, q = (w3 + (1 : Int32)) := ⟨_, rfl⟩
              have e356 : x354.toInt = w3.toInt + 1 := by rw [q355, iv_add (by omega) (by omega)]; omega
              refine k_bin x354 102 rfl q355.symm rfl ?_
              refine k_push 103 rfl rfl ?_
              have hc357 : (0 : Int32).toInt = 0 := by decide
              have e358 : F348 75 = F339 75 := k352 75 (by decide)
              have e359 : F339 75 = F323 75 := k343 75 (by decide)
              have e360 : F323 75 = F279 75 := k327 75 (by decide)
              refine k_rv I350 rfl (m_waitsPart (gp := gp) (gM := gM) I350.1 (show 0 ≤ (F348 75) ∧ (F348 75) < 4096 by omega) (show sy ((A280 74)) ((F348 75)) (gp) (gM) by rw [show F348 75 = f75 by omega]; exact ysy) (show 0 ≤ x354.toInt ∧ x354.toInt ≤ 3000 ∧ 0 ≤ (0 : Int32).toInt ∧ (0 : Int32).toInt ≤ 3 ∧ 4 * x354.toInt + (0 : Int32).toInt + 1 ≤ (gM) by omega)) rfl rfl rfl I350.rc ?_
              rintro h362 F363 A364 I365 ⟨k367, k368, p366⟩
              replace p366 : F363 75 = (F348 75) + 1 ∧ sy (A364 74) (F363 75) ((gp) + 1) (gM) := p366
              obtain ⟨p366a, p366b⟩ := p366
              show am_Ok _ _ _ (106, _, [], _, 0, 0) _
              have hs9 : sy (A364 74) (F363 75) (gp + 1 + ow (A0 1 (w1.toInt + w2.toInt))) gM := by rw [hw9, show gp + 1 + (0 : Int) = gp + 1 by omega]; exact p366b
              refine k_goto 124 rfl rfl ?_
              skip
              refine k_iload 125 rfl (gs_ne rfl rfl rfl) rfl ?_
              refine k_push 126 rfl rfl ?_
              obtain ⟨x369, q370⟩ : ∃ q : Int32, q = (w2 + (1 : Int32)) := ⟨_, rfl⟩
              have e371 : x369.toInt = w2.toInt + 1 := by rw [q370, iv_add (by omega) (by omega)]; omega
              refine k_bin x369 127 rfl q370.symm rfl ?_
              have e372 : F363 73 = F348 73 := k367 73 (by decide)
              exact k_fin rfl rfl ⟨_, _, _, _, rfl, I365, (fr1.tr (by decide) (fr1.tr (by decide) (fr1.tr (by decide) (fr1.tr (by decide) (fr1.tr (by decide) (fr1.tr (by decide) fr1.rf k273) k283) k327) k343) k352) k367), (fr2.tr (by decide) (fr2.tr (by decide) fr2.rf k284) k368), show x369.toInt = w2.toInt + 1 ∧ sy ((A364 74)) ((F363 75)) (gp + 1 + ow (A0 1 (w1.toInt + w2.toInt))) gM ∧ (F363 75) ≤ F0 75 + 3 + ow (A0 1 (w1.toInt + w2.toInt)) ∧ F0 73 ≤ (F363 73) ∧ (F363 73) + (F363 75) ≤ F0 73 + F0 75 + 6 + ow (A0 1 (w1.toInt + w2.toInt)) from ⟨by omega, hs9, by omega, by omega, by omega⟩⟩
            · refine k_c2 109 rfl rfl (if_neg b318) ?_
              have b318 := mt iv_eq.mpr b318
              have hw9 : ow (A0 1 (w1.toInt + w2.toInt)) = -1 := by rw [← e5]; exact ow_v (by omega) (by omega)
              refine k_aload 110 rfl (gs_ne rfl rfl rfl) rfl ?_
              refine k_iload 111 rfl (gs_ne rfl rfl rfl) rfl ?_
              refine k_push 112 rfl rfl ?_
              obtain ⟨x373, q374⟩ : ∃ q : Int32, q = (w3 - (1 : Int32)) := ⟨_, rfl⟩
              refine k_bin x373 113 rfl q374.symm rfl ?_
              refine k_iload 115 rfl gs_eq rfl ?_
              refine k_push 116 rfl rfl ?_
              obtain ⟨x376, q377⟩ : ∃ q : Int32, q = (x4 - (2 : Int32)) := ⟨_, rfl⟩
              refine k_bin x376 117 rfl q377.symm rfl ?_
              obtain ⟨x379, q380⟩ : ∃ q : Int32, q = (x373 - x376) := ⟨_, rfl⟩
              refine k_bin x379 118 rfl q380.symm rfl ?_
              refine k_in (d := 0) rfl rfl rfl rfl rfl ?_
              refine k_push 2 rfl rfl ?_
              have hc382 : (97 : Int32).toInt = 97 := by decide
              refine k_iload 3 rfl rfl rfl ?_
              refine k_push 5 rfl rfl ?_
              have hc383 : (26 : Int32).toInt = 26 := by decide
              obtain ⟨x384, q385⟩ : ∃ q : Int32, q = (x379 - x379 / (26 : Int32) * (26 : Int32)) := ⟨_, rfl⟩
              refine k_divZ x384 6 rfl (by decide) q385.symm rfl ?_
              obtain ⟨x387, q388⟩ : ∃ q : Int32, q = ((97 : Int32) + x384) := ⟨_, rfl⟩
              refine k_bin x387 7 rfl q388.symm rfl ?_
              refine k_fin rfl rfl ⟨_, _, rfl, rf_len I281 I281, ?_⟩
              show am_Ok _ _ _ (121, _, [.inl x387, .inr (.inr (some 81))], _, 0, 0) _
              have e390 : F279 73 = F269 73 := k283 73 (by decide)
              refine k_rv I281 rfl (m_says  I281.1 (show 0 ≤ (F279 73) ∧ (F279 73) < 12000 by omega)) rfl rfl rfl I281.rc ?_
              rintro h392 F393 A394 I395 ⟨k397, k398, p396⟩
              replace p396 : F393 73 = (F279 73) + 1 := p396
              have k398 := fr2.nil k398
              subst k398
              show am_Ok _ _ _ (124, _, [], _, 0, 0) _
              have hs9 : sy (A280 74) (F393 75) (gp + 1 + ow (A0 1 (w1.toInt + w2.toInt))) gM := by rw [hw9, show gp + 1 + (-1 : Int) = gp by omega, show F393 75 = f75 from (k397 75 (by decide)).trans (by omega)]; exact ysy
              refine k_iload 125 rfl (gs_ne rfl rfl rfl) rfl ?_
              refine k_push 126 rfl rfl ?_
              obtain ⟨x399, q400⟩ : ∃ q : Int32, q = (w2 + (1 : Int32)) := ⟨_, rfl⟩
              have e401 : x399.toInt = w2.toInt + 1 := by rw [q400, iv_add (by omega) (by omega)]; omega
              refine k_bin x399 127 rfl q400.symm rfl ?_
              have e402 : F393 75 = F279 75 := k397 75 (by decide)
              exact k_fin rfl rfl ⟨_, _, _, _, rfl, I395, (fr1.tr (by decide) (fr1.tr (by decide) (fr1.tr (by decide) fr1.rf k273) k283) k397), (fr2.tr (by decide) fr2.rf k284), show x399.toInt = w2.toInt + 1 ∧ sy ((A280 74)) ((F393 75)) (gp + 1 + ow (A0 1 (w1.toInt + w2.toInt))) gM ∧ (F393 75) ≤ F0 75 + 3 + ow (A0 1 (w1.toInt + w2.toInt)) ∧ F0 73 ≤ (F393 73) ∧ (F393 73) + (F393 75) ≤ F0 73 + F0 75 + 6 + ow (A0 1 (w1.toInt + w2.toInt)) from ⟨by omega, hs9, by omega, by omega, by omega⟩⟩
      · refine k_c2 46 rfl rfl (if_neg b149) ?_
        have b149 := mt iv_eq.mpr b149
        obtain ⟨f75, hf75, ysy⟩ : ∃ f, F0 75 = f ∧ sy (A0 74) f gp gM := ⟨_, rfl, p2⟩
        refine k_iload 48 rfl gs_eq rfl ?_
        by_cases b403 : x4 = 0
        · refine k_c1 51 rfl rfl (if_pos b403) ?_
          have b403 := iv_eq0.mp b403
          have hw9 : ow (A0 1 (w1.toInt + w2.toInt)) = 1 := by rw [← e5, show x4.toInt = 0 by omega]; rfl
          refine k_aload 52 rfl (gs_ne rfl rfl rfl) rfl ?_
          refine k_iload 53 rfl (gs_ne rfl rfl rfl) rfl ?_
          refine k_push 54 rfl rfl ?_
          refine k_rv hI rfl (m_waitsPart (gp := gp) (gM := gM) hI.1 (show 0 ≤ (F0 75) ∧ (F0 75) < 4096 by omega) (show sy ((A0 74)) ((F0 75)) (gp) (gM) by rw [show F0 75 = f75 by omega]; exact ysy) (show 0 ≤ w3.toInt ∧ w3.toInt ≤ 3000 ∧ 0 ≤ (2 : Int32).toInt ∧ (2 : Int32).toInt ≤ 3 ∧ 4 * w3.toInt + (2 : Int32).toInt + 1 ≤ (gM) by omega)) rfl rfl rfl hI.rc ?_
          rintro h405 F406 A407 I408 ⟨k410, k411, p409⟩
          replace p409 : F406 75 = (F0 75) + 1 ∧ sy (A407 74) (F406 75) ((gp) + 1) (gM) := p409
          obtain ⟨p409a, p409b⟩ := p409
          show am_Ok _ _ _ (57, _, [], _, 0, 0) _
          refine k_aload 58 rfl (gs_ne rfl rfl rfl) rfl ?_
          refine k_push 60 rfl rfl ?_
          have hc412 : (32 : Int32).toInt = 32 := by decide
          refine k_rv I408 rfl (m_saysLater (gp := gp + 1) (gM := gM) I408.1 (show 0 ≤ (F406 75) ∧ (F406 75) < 4096 by omega) (show sy ((A407 74)) ((F406 75)) (gp + 1) (gM) from p409b) (show -(gM) ≤ (32 : Int32).toInt by omega)) rfl rfl rfl I408.rc ?_
          rintro h414 F415 A416 I417 ⟨k419, k420, p418⟩
          replace p418 : F415 75 = (F406 75) + 1 ∧ ((0 ≤ (32 : Int32).toInt ∧ sy (A416 74) (F415 75) (gp + 1) (gM)) ∨ ((32 : Int32).toInt < 0 ∧ sy (A416 74) (F415 75) ((gp + 1) + 1) (gM))) := p418
          obtain ⟨p418a, p418b⟩ := p418
          show am_Ok _ _ _ (63, _, [], _, 0, 0) _
          have y3 := (p418b.resolve_right (fun z => by omega)).2
          refine k_aload 64 rfl (gs_ne rfl rfl rfl) rfl ?_
          refine k_iload 65 rfl (gs_ne rfl rfl rfl) rfl ?_
          refine k_push 66 rfl rfl ?_
          refine k_rv I417 rfl (m_waitsPart (gp := gp + 1) (gM := gM) I417.1 (show 0 ≤ (F415 75) ∧ (F415 75) < 4096 by omega) (show sy ((A416 74)) ((F415 75)) (gp + 1) (gM) from y3) (show 0 ≤ w3.toInt ∧ w3.toInt ≤ 3000 ∧ 0 ≤ (1 : Int32).toInt ∧ (1 : Int32).toInt ≤ 3 ∧ 4 * w3.toInt + (1 : Int32).toInt + 1 ≤ (gM) by omega)) rfl rfl rfl I417.rc ?_
          rintro h422 F423 A424 I425 ⟨k427, k428, p426⟩
          replace p426 : F423 75 = (F415 75) + 1 ∧ sy (A424 74) (F423 75) ((gp + 1) + 1) (gM) := p426
          obtain ⟨p426a, p426b⟩ := p426
          show am_Ok _ _ _ (69, _, [], _, 0, 0) _
          have hs9 : sy (A424 74) (F423 75) (gp + 1 + ow (A0 1 (w1.toInt + w2.toInt))) gM := by rw [hw9]; exact p426b
          refine k_goto 124 rfl rfl ?_
          skip
          refine k_iload 125 rfl (gs_ne rfl rfl rfl) rfl ?_
          refine k_push 126 rfl rfl ?_
          obtain ⟨x429, q430⟩ : ∃ q : Int32, q = (w2 + (1 : Int32)) := ⟨_, rfl⟩
          have e431 : x429.toInt = w2.toInt + 1 := by rw [q430, iv_add (by omega) (by omega)]; omega
          refine k_bin x429 127 rfl q430.symm rfl ?_
          have e432 : F423 73 = F415 73 := k427 73 (by decide)
          have e433 : F415 73 = F406 73 := k419 73 (by decide)
          have e434 : F406 73 = F0 73 := k410 73 (by decide)
          exact k_fin rfl rfl ⟨_, _, _, _, rfl, I425, (fr1.tr (by decide) (fr1.tr (by decide) (fr1.tr (by decide) fr1.rf k410) k419) k427), (fr2.tr (by decide) (fr2.tr (by decide) (fr2.tr (by decide) fr2.rf k411) k420) k428), show x429.toInt = w2.toInt + 1 ∧ sy ((A424 74)) ((F423 75)) (gp + 1 + ow (A0 1 (w1.toInt + w2.toInt))) gM ∧ (F423 75) ≤ F0 75 + 3 + ow (A0 1 (w1.toInt + w2.toInt)) ∧ F0 73 ≤ (F423 73) ∧ (F423 73) + (F423 75) ≤ F0 73 + F0 75 + 6 + ow (A0 1 (w1.toInt + w2.toInt)) from ⟨by omega, hs9, by omega, by omega, by omega⟩⟩
        · refine k_c1 72 rfl rfl (if_neg b403) ?_
          have b403 := mt iv_eq0.mpr b403
          refine k_iload 74 rfl gs_eq rfl ?_
          refine k_push 75 rfl rfl ?_
          by_cases b435 : x4 = (1 : Int32)
          · refine k_c2 78 rfl rfl (if_pos b435) ?_
            have b435 := iv_eq.mp b435
            have hw9 : ow (A0 1 (w1.toInt + w2.toInt)) = 0 := by rw [← e5, show x4.toInt = 1 by omega]; rfl
            refine k_aload 79 rfl (gs_ne rfl rfl rfl) rfl ?_
            refine k_push 81 rfl rfl ?_
            have hc436 : (92 : Int32).toInt = 92 := by decide
            refine k_rv hI rfl (m_says  hI.1 (show 0 ≤ (F0 73) ∧ (F0 73) < 12000 by omega)) rfl rfl rfl hI.rc ?_
            rintro h438 F439 A440 I441 ⟨k443, k444, p442⟩
            replace p442 : F439 73 = (F0 73) + 1 := p442
            have k444 := fr2.nil k444
            subst k444
            show am_Ok _ _ _ (84, _, [], _, 0, 0) _
            refine k_aload 85 rfl (gs_ne rfl rfl rfl) rfl ?_
            refine k_iload 86 rfl (gs_ne rfl rfl rfl) rfl ?_
            refine k_in (d := 0) rfl rfl rfl rfl rfl ?_
            refine k_push 2 rfl rfl ?_
            have hc445 : (97 : Int32).toInt = 97 := by decide
            refine k_iload 3 rfl rfl rfl ?_
            refine k_push 5 rfl rfl ?_
            have hc446 : (26 : Int32).toInt = 26 := by decide
            obtain ⟨x447, q448⟩ : ∃ q : Int32, q = (w3 - w3 / (26 : Int32) * (26 : Int32)) := ⟨_, rfl⟩
            refine k_divZ x447 6 rfl (by decide) q448.symm rfl ?_
            obtain ⟨x450, q451⟩ : ∃ q : Int32, q = ((97 : Int32) + x447) := ⟨_, rfl⟩
            refine k_bin x450 7 rfl q451.symm rfl ?_
            refine k_fin rfl rfl ⟨_, _, rfl, rf_len I441 I441, ?_⟩
            show am_Ok _ _ _ (89, _, [.inl x450, .inr (.inr (some 81))], _, 0, 0) _
            refine k_rv I441 rfl (m_says  I441.1 (show 0 ≤ (F439 73) ∧ (F439 73) < 12000 by omega)) rfl rfl rfl I441.rc ?_
            rintro h454 F455 A456 I457 ⟨k459, k460, p458⟩
            replace p458 : F455 73 = (F439 73) + 1 := p458
            have k460 := fr2.nil k460
            subst k460
            show am_Ok _ _ _ (92, _, [], _, 0, 0) _
            refine k_aload 93 rfl (gs_ne rfl rfl rfl) rfl ?_
            refine k_push 95 rfl rfl ?_
            have hc461 : (46 : Int32).toInt = 46 := by decide
            refine k_rv I457 rfl (m_says  I457.1 (show 0 ≤ (F455 73) ∧ (F455 73) < 12000 by omega)) rfl rfl rfl I457.rc ?_
            rintro h463 F464 A465 I466 ⟨k468, k469, p467⟩
            replace p467 : F464 73 = (F455 73) + 1 := p467
            have k469 := fr2.nil k469
            subst k469
            show am_Ok _ _ _ (98, _, [], _, 0, 0) _
            refine k_aload 99 rfl (gs_ne rfl rfl rfl) rfl ?_
            refine k_iload 100 rfl (gs_ne rfl rfl rfl) rfl ?_
            refine k_push 101 rfl rfl ?_
            obtain ⟨x470, q471⟩ : ∃ q : Int32, q = (w3 + (1 : Int32)) := ⟨_, rfl⟩
            have e472 : x470.toInt = w3.toInt + 1 := by rw [q471, iv_add (by omega) (by omega)]; omega
            refine k_bin x470 102 rfl q471.symm rfl ?_
            refine k_push 103 rfl rfl ?_
            have hc473 : (0 : Int32).toInt = 0 := by decide
            have e474 : F464 75 = F455 75 := k468 75 (by decide)
            have e475 : F455 75 = F439 75 := k459 75 (by decide)
            have e476 : F439 75 = F0 75 := k443 75 (by decide)
            refine k_rv I466 rfl (m_waitsPart (gp := gp) (gM := gM) I466.1 (show 0 ≤ (F464 75) ∧ (F464 75) < 4096 by omega) (show sy ((A0 74)) ((F464 75)) (gp) (gM) by rw [show F464 75 = f75 by omega]; exact ysy) (show 0 ≤ x470.toInt ∧ x470.toInt ≤ 3000 ∧ 0 ≤ (0 : Int32).toInt ∧ (0 : Int32).toInt ≤ 3 ∧ 4 * x470.toInt + (0 : Int32).toInt + 1 ≤ (gM) by omega)) rfl rfl rfl I466.rc ?_
            rintro h478 F479 A480 I481 ⟨k483, k484, p482⟩
            replace p482 : F479 75 = (F464 75) + 1 ∧ sy (A480 74) (F479 75) ((gp) + 1) (gM) := p482
            obtain ⟨p482a, p482b⟩ := p482
            show am_Ok _ _ _ (106, _, [], _, 0, 0) _
            have hs9 : sy (A480 74) (F479 75) (gp + 1 + ow (A0 1 (w1.toInt + w2.toInt))) gM := by rw [hw9, show gp + 1 + (0 : Int) = gp + 1 by omega]; exact p482b
            refine k_goto 124 rfl rfl ?_
            skip
            refine k_iload 125 rfl (gs_ne rfl rfl rfl) rfl ?_
            refine k_push 126 rfl rfl ?_
            obtain ⟨x485, q486⟩ : ∃ q : Int32, q = (w2 + (1 : Int32)) := ⟨_, rfl⟩
            have e487 : x485.toInt = w2.toInt + 1 := by rw [q486, iv_add (by omega) (by omega)]; omega
            refine k_bin x485 127 rfl q486.symm rfl ?_
            have e488 : F479 73 = F464 73 := k483 73 (by decide)
            exact k_fin rfl rfl ⟨_, _, _, _, rfl, I481, (fr1.tr (by decide) (fr1.tr (by decide) (fr1.tr (by decide) (fr1.tr (by decide) fr1.rf k443) k459) k468) k483), (fr2.tr (by decide) fr2.rf k484), show x485.toInt = w2.toInt + 1 ∧ sy ((A480 74)) ((F479 75)) (gp + 1 + ow (A0 1 (w1.toInt + w2.toInt))) gM ∧ (F479 75) ≤ F0 75 + 3 + ow (A0 1 (w1.toInt + w2.toInt)) ∧ F0 73 ≤ (F479 73) ∧ (F479 73) + (F479 75) ≤ F0 73 + F0 75 + 6 + ow (A0 1 (w1.toInt + w2.toInt)) from ⟨by omega, hs9, by omega, by omega, by omega⟩⟩
          · refine k_c2 109 rfl rfl (if_neg b435) ?_
            have b435 := mt iv_eq.mpr b435
            have hw9 : ow (A0 1 (w1.toInt + w2.toInt)) = -1 := by rw [← e5]; exact ow_v (by omega) (by omega)
            refine k_aload 110 rfl (gs_ne rfl rfl rfl) rfl ?_
            refine k_iload 111 rfl (gs_ne rfl rfl rfl) rfl ?_
            refine k_push 112 rfl rfl ?_
            obtain ⟨x489, q490⟩ : ∃ q : Int32, q = (w3 - (1 : Int32)) := ⟨_, rfl⟩
            refine k_bin x489 113 rfl q490.symm rfl ?_
            refine k_iload 115 rfl gs_eq rfl ?_
            refine k_push 116 rfl rfl ?_
            obtain ⟨x492, q493⟩ : ∃ q : Int32, q = (x4 - (2 : Int32)) := ⟨_, rfl⟩
            refine k_bin x492 117 rfl q493.symm rfl ?_
            obtain ⟨x495, q496⟩ : ∃ q : Int32, q = (x489 - x492) := ⟨_, rfl⟩
            refine k_bin x495 118 rfl q496.symm rfl ?_
            refine k_in (d := 0) rfl rfl rfl rfl rfl ?_
            refine k_push 2 rfl rfl ?_
            have hc498 : (97 : Int32).toInt = 97 := by decide
            refine k_iload 3 rfl rfl rfl ?_
            refine k_push 5 rfl rfl ?_
            have hc499 : (26 : Int32).toInt = 26 := by decide
            obtain ⟨x500, q501⟩ : ∃ q : Int32, q = (x495 - x495 / (26 : Int32) * (26 : Int32)) := ⟨_, rfl⟩
            refine k_divZ x500 6 rfl (by decide) q501.symm rfl ?_
            obtain ⟨x503, q504⟩ : ∃ q : Int32, q = ((97 : Int32) + x500) := ⟨_, rfl⟩
            refine k_bin x503 7 rfl q504.symm rfl ?_
            refine k_fin rfl rfl ⟨_, _, rfl, rf_len hI hI, ?_⟩
            show am_Ok _ _ _ (121, _, [.inl x503, .inr (.inr (some 81))], _, 0, 0) _
            refine k_rv hI rfl (m_says  hI.1 (show 0 ≤ (F0 73) ∧ (F0 73) < 12000 by omega)) rfl rfl rfl hI.rc ?_
            rintro h507 F508 A509 I510 ⟨k512, k513, p511⟩
            replace p511 : F508 73 = (F0 73) + 1 := p511
            have k513 := fr2.nil k513
            subst k513
            show am_Ok _ _ _ (124, _, [], _, 0, 0) _
            have hs9 : sy (A0 74) (F508 75) (gp + 1 + ow (A0 1 (w1.toInt + w2.toInt))) gM := by rw [hw9, show gp + 1 + (-1 : Int) = gp by omega, show F508 75 = f75 from (k512 75 (by decide)).trans (by omega)]; exact ysy
            refine k_iload 125 rfl (gs_ne rfl rfl rfl) rfl ?_
            refine k_push 126 rfl rfl ?_
            obtain ⟨x514, q515⟩ : ∃ q : Int32, q = (w2 + (1 : Int32)) := ⟨_, rfl⟩
            have e516 : x514.toInt = w2.toInt + 1 := by rw [q515, iv_add (by omega) (by omega)]; omega
            refine k_bin x514 127 rfl q515.symm rfl ?_
            have e517 : F508 75 = F0 75 := k512 75 (by decide)
            exact k_fin rfl rfl ⟨_, _, _, _, rfl, I510, (fr1.tr (by decide) fr1.rf k512), fr2.rf, show x514.toInt = w2.toInt + 1 ∧ sy ((A0 74)) ((F508 75)) (gp + 1 + ow (A0 1 (w1.toInt + w2.toInt))) gM ∧ (F508 75) ≤ F0 75 + 3 + ow (A0 1 (w1.toInt + w2.toInt)) ∧ F0 73 ≤ (F508 73) ∧ (F508 73) + (F508 75) ≤ F0 73 + F0 75 + 6 + ow (A0 1 (w1.toInt + w2.toInt)) from ⟨by omega, hs9, by omega, by omega, by omega⟩⟩
  · refine k_c2 22 rfl rfl (if_neg b7) ?_
    have b7 := mt iv_eq.mpr b7
    refine k_iload 24 rfl (gs_ne rfl rfl rfl) rfl ?_
    refine k_push 25 rfl rfl ?_
    have hc518 : (2 : Int32).toInt = 2 := by decide
    by_cases b519 : w4 = (2 : Int32)
    · refine k_c2 28 rfl rfl (if_pos b519) ?_
      have b519 := iv_eq.mp b519
      refine k_iload 30 rfl gs_eq rfl ?_
      refine k_push 31 rfl rfl ?_
      by_cases b520 : (2 : Int32) ≤ x4
      · refine k_c2 46 rfl rfl (if_pos b520) ?_
        have b520 := iv_le.mp b520
        obtain ⟨f75, hf75, ysy⟩ : ∃ f, F0 75 = f ∧ sy (A0 74) f gp gM := ⟨_, rfl, p2⟩
        refine k_iload 48 rfl gs_eq rfl ?_
        by_cases b521 : x4 = 0
        · refine k_c1 51 rfl rfl (if_pos b521) ?_
          have b521 := iv_eq0.mp b521
          have hw9 : ow (A0 1 (w1.toInt + w2.toInt)) = 1 := by rw [← e5, show x4.toInt = 0 by omega]; rfl
          refine k_aload 52 rfl (gs_ne rfl rfl rfl) rfl ?_
          refine k_iload 53 rfl (gs_ne rfl rfl rfl) rfl ?_
          refine k_push 54 rfl rfl ?_
          refine k_rv hI rfl (m_waitsPart (gp := gp) (gM := gM) hI.1 (show 0 ≤ (F0 75) ∧ (F0 75) < 4096 by omega) (show sy ((A0 74)) ((F0 75)) (gp) (gM) by rw [show F0 75 = f75 by omega]; exact ysy) (show 0 ≤ w3.toInt ∧ w3.toInt ≤ 3000 ∧ 0 ≤ (2 : Int32).toInt ∧ (2 : Int32).toInt ≤ 3 ∧ 4 * w3.toInt + (2 : Int32).toInt + 1 ≤ (gM) by omega)) rfl rfl rfl hI.rc ?_
          rintro h523 F524 A525 I526 ⟨k528, k529, p527⟩
          replace p527 : F524 75 = (F0 75) + 1 ∧ sy (A525 74) (F524 75) ((gp) + 1) (gM) := p527
          obtain ⟨p527a, p527b⟩ := p527
          show am_Ok _ _ _ (57, _, [], _, 0, 0) _
          refine k_aload 58 rfl (gs_ne rfl rfl rfl) rfl ?_
          refine k_push 60 rfl rfl ?_
          have hc530 : (32 : Int32).toInt = 32 := by decide
          refine k_rv I526 rfl (m_saysLater (gp := gp + 1) (gM := gM) I526.1 (show 0 ≤ (F524 75) ∧ (F524 75) < 4096 by omega) (show sy ((A525 74)) ((F524 75)) (gp + 1) (gM) from p527b) (show -(gM) ≤ (32 : Int32).toInt by omega)) rfl rfl rfl I526.rc ?_
          rintro h532 F533 A534 I535 ⟨k537, k538, p536⟩
          replace p536 : F533 75 = (F524 75) + 1 ∧ ((0 ≤ (32 : Int32).toInt ∧ sy (A534 74) (F533 75) (gp + 1) (gM)) ∨ ((32 : Int32).toInt < 0 ∧ sy (A534 74) (F533 75) ((gp + 1) + 1) (gM))) := p536
          obtain ⟨p536a, p536b⟩ := p536
          show am_Ok _ _ _ (63, _, [], _, 0, 0) _
          have y3 := (p536b.resolve_right (fun z => by omega)).2
          refine k_aload 64 rfl (gs_ne rfl rfl rfl) rfl ?_
          refine k_iload 65 rfl (gs_ne rfl rfl rfl) rfl ?_
          refine k_push 66 rfl rfl ?_
          refine k_rv I535 rfl (m_waitsPart (gp := gp + 1) (gM := gM) I535.1 (show 0 ≤ (F533 75) ∧ (F533 75) < 4096 by omega) (show sy ((A534 74)) ((F533 75)) (gp + 1) (gM) from y3) (show 0 ≤ w3.toInt ∧ w3.toInt ≤ 3000 ∧ 0 ≤ (1 : Int32).toInt ∧ (1 : Int32).toInt ≤ 3 ∧ 4 * w3.toInt + (1 : Int32).toInt + 1 ≤ (gM) by omega)) rfl rfl rfl I535.rc ?_
          rintro h540 F541 A542 I543 ⟨k545, k546, p544⟩
          replace p544 : F541 75 = (F533 75) + 1 ∧ sy (A542 74) (F541 75) ((gp + 1) + 1) (gM) := p544
          obtain ⟨p544a, p544b⟩ := p544
          show am_Ok _ _ _ (69, _, [], _, 0, 0) _
          have hs9 : sy (A542 74) (F541 75) (gp + 1 + ow (A0 1 (w1.toInt + w2.toInt))) gM := by rw [hw9]; exact p544b
          refine k_goto 124 rfl rfl ?_
          skip
          refine k_iload 125 rfl (gs_ne rfl rfl rfl) rfl ?_
          refine k_push 126 rfl rfl ?_
          obtain ⟨x547, q548⟩ : ∃ q : Int32, q = (w2 + (1 : Int32)) := ⟨_, rfl⟩
          have e549 : x547.toInt = w2.toInt + 1 := by rw [q548, iv_add (by omega) (by omega)]; omega
          refine k_bin x547 127 rfl q548.symm rfl ?_
          have e550 : F541 73 = F533 73 := k545 73 (by decide)
          have e551 : F533 73 = F524 73 := k537 73 (by decide)
          have e552 : F524 73 = F0 73 := k528 73 (by decide)
          exact k_fin rfl rfl ⟨_, _, _, _, rfl, I543, (fr1.tr (by decide) (fr1.tr (by decide) (fr1.tr (by decide) fr1.rf k528) k537) k545), (fr2.tr (by decide) (fr2.tr (by decide) (fr2.tr (by decide) fr2.rf k529) k538) k546), show x547.toInt = w2.toInt + 1 ∧ sy ((A542 74)) ((F541 75)) (gp + 1 + ow (A0 1 (w1.toInt + w2.toInt))) gM ∧ (F541 75) ≤ F0 75 + 3 + ow (A0 1 (w1.toInt + w2.toInt)) ∧ F0 73 ≤ (F541 73) ∧ (F541 73) + (F541 75) ≤ F0 73 + F0 75 + 6 + ow (A0 1 (w1.toInt + w2.toInt)) from ⟨by omega, hs9, by omega, by omega, by omega⟩⟩
        · refine k_c1 72 rfl rfl (if_neg b521) ?_
          have b521 := mt iv_eq0.mpr b521
          refine k_iload 74 rfl gs_eq rfl ?_
          refine k_push 75 rfl rfl ?_
          by_cases b553 : x4 = (1 : Int32)
          · refine k_c2 78 rfl rfl (if_pos b553) ?_
            have b553 := iv_eq.mp b553
            have hw9 : ow (A0 1 (w1.toInt + w2.toInt)) = 0 := by rw [← e5, show x4.toInt = 1 by omega]; rfl
            refine k_aload 79 rfl (gs_ne rfl rfl rfl) rfl ?_
            refine k_push 81 rfl rfl ?_
            have hc554 : (92 : Int32).toInt = 92 := by decide
            refine k_rv hI rfl (m_says  hI.1 (show 0 ≤ (F0 73) ∧ (F0 73) < 12000 by omega)) rfl rfl rfl hI.rc ?_
            rintro h556 F557 A558 I559 ⟨k561, k562, p560⟩
            replace p560 : F557 73 = (F0 73) + 1 := p560
            have k562 := fr2.nil k562
            subst k562
            show am_Ok _ _ _ (84, _, [], _, 0, 0) _
            refine k_aload 85 rfl (gs_ne rfl rfl rfl) rfl ?_
            refine k_iload 86 rfl (gs_ne rfl rfl rfl) rfl ?_
            refine k_in (d := 0) rfl rfl rfl rfl rfl ?_
            refine k_push 2 rfl rfl ?_
            have hc563 : (97 : Int32).toInt = 97 := by decide
            refine k_iload 3 rfl rfl rfl ?_
            refine k_push 5 rfl rfl ?_
            have hc564 : (26 : Int32).toInt = 26 := by decide
            obtain ⟨x565, q566⟩ : ∃ q : Int32, q = (w3 - w3 / (26 : Int32) * (26 : Int32)) := ⟨_, rfl⟩
            refine k_divZ x565 6 rfl (by decide) q566.symm rfl ?_
            obtain ⟨x568, q569⟩ : ∃ q : Int32, q = ((97 : Int32) + x565) := ⟨_, rfl⟩
            refine k_bin x568 7 rfl q569.symm rfl ?_
            refine k_fin rfl rfl ⟨_, _, rfl, rf_len I559 I559, ?_⟩
            show am_Ok _ _ _ (89, _, [.inl x568, .inr (.inr (some 81))], _, 0, 0) _
            refine k_rv I559 rfl (m_says  I559.1 (show 0 ≤ (F557 73) ∧ (F557 73) < 12000 by omega)) rfl rfl rfl I559.rc ?_
            rintro h572 F573 A574 I575 ⟨k577, k578, p576⟩
            replace p576 : F573 73 = (F557 73) + 1 := p576
            have k578 := fr2.nil k578
            subst k578
            show am_Ok _ _ _ (92, _, [], _, 0, 0) _
            refine k_aload 93 rfl (gs_ne rfl rfl rfl) rfl ?_
            refine k_push 95 rfl rfl ?_
            have hc579 : (46 : Int32).toInt = 46 := by decide
            refine k_rv I575 rfl (m_says  I575.1 (show 0 ≤ (F573 73) ∧ (F573 73) < 12000 by omega)) rfl rfl rfl I575.rc ?_
            rintro h581 F582 A583 I584 ⟨k586, k587, p585⟩
            replace p585 : F582 73 = (F573 73) + 1 := p585
            have k587 := fr2.nil k587
            subst k587
            show am_Ok _ _ _ (98, _, [], _, 0, 0) _
            refine k_aload 99 rfl (gs_ne rfl rfl rfl) rfl ?_
            refine k_iload 100 rfl (gs_ne rfl rfl rfl) rfl ?_
            refine k_push 101 rfl rfl ?_
            obtain ⟨x588, q589⟩ : ∃ q : Int32, q = (w3 + (1 : Int32)) := ⟨_, rfl⟩
            have e590 : x588.toInt = w3.toInt + 1 := by rw [q589, iv_add (by omega) (by omega)]; omega
            refine k_bin x588 102 rfl q589.symm rfl ?_
            refine k_push 103 rfl rfl ?_
            have hc591 : (0 : Int32).toInt = 0 := by decide
            have e592 : F582 75 = F573 75 := k586 75 (by decide)
            have e593 : F573 75 = F557 75 := k577 75 (by decide)
            have e594 : F557 75 = F0 75 := k561 75 (by decide)
            refine k_rv I584 rfl (m_waitsPart (gp := gp) (gM := gM) I584.1 (show 0 ≤ (F582 75) ∧ (F582 75) < 4096 by omega) (show sy ((A0 74)) ((F582 75)) (gp) (gM) by rw [show F582 75 = f75 by omega]; exact ysy) (show 0 ≤ x588.toInt ∧ x588.toInt ≤ 3000 ∧ 0 ≤ (0 : Int32).toInt ∧ (0 : Int32).toInt ≤ 3 ∧ 4 * x588.toInt + (0 : Int32).toInt + 1 ≤ (gM) by omega)) rfl rfl rfl I584.rc ?_
            rintro h596 F597 A598 I599 ⟨k601, k602, p600⟩
            replace p600 : F597 75 = (F582 75) + 1 ∧ sy (A598 74) (F597 75) ((gp) + 1) (gM) := p600
            obtain ⟨p600a, p600b⟩ := p600
            show am_Ok _ _ _ (106, _, [], _, 0, 0) _
            have hs9 : sy (A598 74) (F597 75) (gp + 1 + ow (A0 1 (w1.toInt + w2.toInt))) gM := by rw [hw9, show gp + 1 + (0 : Int) = gp + 1 by omega]; exact p600b
            refine k_goto 124 rfl rfl ?_
            skip
            refine k_iload 125 rfl (gs_ne rfl rfl rfl) rfl ?_
            refine k_push 126 rfl rfl ?_
            obtain ⟨x603, q604⟩ : ∃ q : Int32, q = (w2 + (1 : Int32)) := ⟨_, rfl⟩
            have e605 : x603.toInt = w2.toInt + 1 := by rw [q604, iv_add (by omega) (by omega)]; omega
            refine k_bin x603 127 rfl q604.symm rfl ?_
            have e606 : F597 73 = F582 73 := k601 73 (by decide)
            exact k_fin rfl rfl ⟨_, _, _, _, rfl, I599, (fr1.tr (by decide) (fr1.tr (by decide) (fr1.tr (by decide) (fr1.tr (by decide) fr1.rf k561) k577) k586) k601), (fr2.tr (by decide) fr2.rf k602), show x603.toInt = w2.toInt + 1 ∧ sy ((A598 74)) ((F597 75)) (gp + 1 + ow (A0 1 (w1.toInt + w2.toInt))) gM ∧ (F597 75) ≤ F0 75 + 3 + ow (A0 1 (w1.toInt + w2.toInt)) ∧ F0 73 ≤ (F597 73) ∧ (F597 73) + (F597 75) ≤ F0 73 + F0 75 + 6 + ow (A0 1 (w1.toInt + w2.toInt)) from ⟨by omega, hs9, by omega, by omega, by omega⟩⟩
          · refine k_c2 109 rfl rfl (if_neg b553) ?_
            have b553 := mt iv_eq.mpr b553
            have hw9 : ow (A0 1 (w1.toInt + w2.toInt)) = -1 := by rw [← e5]; exact ow_v (by omega) (by omega)
            refine k_aload 110 rfl (gs_ne rfl rfl rfl) rfl ?_
            refine k_iload 111 rfl (gs_ne rfl rfl rfl) rfl ?_
            refine k_push 112 rfl rfl ?_
            obtain ⟨x607, q608⟩ : ∃ q : Int32, q = (w3 - (1 : Int32)) := ⟨_, rfl⟩
            refine k_bin x607 113 rfl q608.symm rfl ?_
            refine k_iload 115 rfl gs_eq rfl ?_
            refine k_push 116 rfl rfl ?_
            obtain ⟨x610, q611⟩ : ∃ q : Int32, q = (x4 - (2 : Int32)) := ⟨_, rfl⟩
            refine k_bin x610 117 rfl q611.symm rfl ?_
            obtain ⟨x613, q614⟩ : ∃ q : Int32, q = (x607 - x610) := ⟨_, rfl⟩
            refine k_bin x613 118 rfl q614.symm rfl ?_
            refine k_in (d := 0) rfl rfl rfl rfl rfl ?_
            refine k_push 2 rfl rfl ?_
            have hc616 : (97 : Int32).toInt = 97 := by decide
            refine k_iload 3 rfl rfl rfl ?_
            refine k_push 5 rfl rfl ?_
            have hc617 : (26 : Int32).toInt = 26 := by decide
            obtain ⟨x618, q619⟩ : ∃ q : Int32, q = (x613 - x613 / (26 : Int32) * (26 : Int32)) := ⟨_, rfl⟩
            refine k_divZ x618 6 rfl (by decide) q619.symm rfl ?_
            obtain ⟨x621, q622⟩ : ∃ q : Int32, q = ((97 : Int32) + x618) := ⟨_, rfl⟩
            refine k_bin x621 7 rfl q622.symm rfl ?_
            refine k_fin rfl rfl ⟨_, _, rfl, rf_len hI hI, ?_⟩
            show am_Ok _ _ _ (121, _, [.inl x621, .inr (.inr (some 81))], _, 0, 0) _
            refine k_rv hI rfl (m_says  hI.1 (show 0 ≤ (F0 73) ∧ (F0 73) < 12000 by omega)) rfl rfl rfl hI.rc ?_
            rintro h625 F626 A627 I628 ⟨k630, k631, p629⟩
            replace p629 : F626 73 = (F0 73) + 1 := p629
            have k631 := fr2.nil k631
            subst k631
            show am_Ok _ _ _ (124, _, [], _, 0, 0) _
            have hs9 : sy (A0 74) (F626 75) (gp + 1 + ow (A0 1 (w1.toInt + w2.toInt))) gM := by rw [hw9, show gp + 1 + (-1 : Int) = gp by omega, show F626 75 = f75 from (k630 75 (by decide)).trans (by omega)]; exact ysy
            refine k_iload 125 rfl (gs_ne rfl rfl rfl) rfl ?_
            refine k_push 126 rfl rfl ?_
            obtain ⟨x632, q633⟩ : ∃ q : Int32, q = (w2 + (1 : Int32)) := ⟨_, rfl⟩
            have e634 : x632.toInt = w2.toInt + 1 := by rw [q633, iv_add (by omega) (by omega)]; omega
            refine k_bin x632 127 rfl q633.symm rfl ?_
            have e635 : F626 75 = F0 75 := k630 75 (by decide)
            exact k_fin rfl rfl ⟨_, _, _, _, rfl, I628, (fr1.tr (by decide) fr1.rf k630), fr2.rf, show x632.toInt = w2.toInt + 1 ∧ sy ((A0 74)) ((F626 75)) (gp + 1 + ow (A0 1 (w1.toInt + w2.toInt))) gM ∧ (F626 75) ≤ F0 75 + 3 + ow (A0 1 (w1.toInt + w2.toInt)) ∧ F0 73 ≤ (F626 73) ∧ (F626 73) + (F626 75) ≤ F0 73 + F0 75 + 6 + ow (A0 1 (w1.toInt + w2.toInt)) from ⟨by omega, hs9, by omega, by omega, by omega⟩⟩
      · refine k_c2 34 rfl rfl (if_neg b520) ?_
        have b520 := mt iv_le.mpr b520
        refine k_aload 35 rfl (gs_ne rfl rfl rfl) rfl ?_
        refine k_push 37 rfl rfl ?_
        have hc636 : (40 : Int32).toInt = 40 := by decide
        refine k_rv hI rfl (m_says  hI.1 (show 0 ≤ (F0 73) ∧ (F0 73) < 12000 by omega)) rfl rfl rfl hI.rc ?_
        rintro h638 F639 A640 I641 ⟨k643, k644, p642⟩
        replace p642 : F639 73 = (F0 73) + 1 := p642
        have k644 := fr2.nil k644
        subst k644
        show am_Ok _ _ _ (40, _, [], _, 0, 0) _
        refine k_aload 41 rfl (gs_ne rfl rfl rfl) rfl ?_
        refine k_push 43 rfl rfl ?_
        have hc645 : (41 : Int32).toInt = 41 := by decide
        have e646 : F639 75 = F0 75 := k643 75 (by decide)
        refine k_rv I641 rfl (m_saysLater (gp := gp) (gM := gM) I641.1 (show 0 ≤ (F639 75) ∧ (F639 75) < 4096 by omega) (show sy ((A0 74)) ((F639 75)) (gp) (gM) by rw [show F639 75 = F0 75 by omega]; exact p2) (show -(gM) ≤ (41 : Int32).toInt by omega)) rfl rfl rfl I641.rc ?_
        rintro h648 F649 A650 I651 ⟨k653, k654, p652⟩
        replace p652 : F649 75 = (F639 75) + 1 ∧ ((0 ≤ (41 : Int32).toInt ∧ sy (A650 74) (F649 75) (gp) (gM)) ∨ ((41 : Int32).toInt < 0 ∧ sy (A650 74) (F649 75) ((gp) + 1) (gM))) := p652
        obtain ⟨p652a, p652b⟩ := p652
        show am_Ok _ _ _ (46, _, [], _, 0, 0) _
        obtain ⟨f75, hf75, ysy⟩ : ∃ f, F649 75 = f ∧ sy (A650 74) f gp gM := ⟨_, rfl, (p652b.resolve_right (fun z => by omega)).2⟩
        refine k_iload 48 rfl gs_eq rfl ?_
        by_cases b655 : x4 = 0
        · refine k_c1 51 rfl rfl (if_pos b655) ?_
          have b655 := iv_eq0.mp b655
          have hw9 : ow (A0 1 (w1.toInt + w2.toInt)) = 1 := by rw [← e5, show x4.toInt = 0 by omega]; rfl
          refine k_aload 52 rfl (gs_ne rfl rfl rfl) rfl ?_
          refine k_iload 53 rfl (gs_ne rfl rfl rfl) rfl ?_
          refine k_push 54 rfl rfl ?_
          refine k_rv I651 rfl (m_waitsPart (gp := gp) (gM := gM) I651.1 (show 0 ≤ (F649 75) ∧ (F649 75) < 4096 by omega) (show sy ((A650 74)) ((F649 75)) (gp) (gM) by rw [show F649 75 = f75 by omega]; exact ysy) (show 0 ≤ w3.toInt ∧ w3.toInt ≤ 3000 ∧ 0 ≤ (2 : Int32).toInt ∧ (2 : Int32).toInt ≤ 3 ∧ 4 * w3.toInt + (2 : Int32).toInt + 1 ≤ (gM) by omega)) rfl rfl rfl I651.rc ?_
          rintro h657 F658 A659 I660 ⟨k662, k663, p661⟩
          replace p661 : F658 75 = (F649 75) + 1 ∧ sy (A659 74) (F658 75) ((gp) + 1) (gM) := p661
          obtain ⟨p661a, p661b⟩ := p661
          show am_Ok _ _ _ (57, _, [], _, 0, 0) _
          refine k_aload 58 rfl (gs_ne rfl rfl rfl) rfl ?_
          refine k_push 60 rfl rfl ?_
          have hc664 : (32 : Int32).toInt = 32 := by decide
          refine k_rv I660 rfl (m_saysLater (gp := gp + 1) (gM := gM) I660.1 (show 0 ≤ (F658 75) ∧ (F658 75) < 4096 by omega) (show sy ((A659 74)) ((F658 75)) (gp + 1) (gM) from p661b) (show -(gM) ≤ (32 : Int32).toInt by omega)) rfl rfl rfl I660.rc ?_
          rintro h666 F667 A668 I669 ⟨k671, k672, p670⟩
          replace p670 : F667 75 = (F658 75) + 1 ∧ ((0 ≤ (32 : Int32).toInt ∧ sy (A668 74) (F667 75) (gp + 1) (gM)) ∨ ((32 : Int32).toInt < 0 ∧ sy (A668 74) (F667 75) ((gp + 1) + 1) (gM))) := p670
          obtain ⟨p670a, p670b⟩ := p670
          show am_Ok _ _ _ (63, _, [], _, 0, 0) _
          have y3 := (p670b.resolve_right (fun z => by omega)).2
          refine k_aload 64 rfl (gs_ne rfl rfl rfl) rfl ?_
          refine k_iload 65 rfl (gs_ne rfl rfl rfl) rfl ?_
          refine k_push 66 rfl rfl ?_
          refine k_rv I669 rfl (m_waitsPart (gp := gp + 1) (gM := gM) I669.1 (show 0 ≤ (F667 75) ∧ (F667 75) < 4096 by omega) (show sy ((A668 74)) ((F667 75)) (gp + 1) (gM) from y3) (show 0 ≤ w3.toInt ∧ w3.toInt ≤ 3000 ∧ 0 ≤ (1 : Int32).toInt ∧ (1 : Int32).toInt ≤ 3 ∧ 4 * w3.toInt + (1 : Int32).toInt + 1 ≤ (gM) by omega)) rfl rfl rfl I669.rc ?_
          rintro h674 F675 A676 I677 ⟨k679, k680, p678⟩
          replace p678 : F675 75 = (F667 75) + 1 ∧ sy (A676 74) (F675 75) ((gp + 1) + 1) (gM) := p678
          obtain ⟨p678a, p678b⟩ := p678
          show am_Ok _ _ _ (69, _, [], _, 0, 0) _
          have hs9 : sy (A676 74) (F675 75) (gp + 1 + ow (A0 1 (w1.toInt + w2.toInt))) gM := by rw [hw9]; exact p678b
          refine k_goto 124 rfl rfl ?_
          skip
          refine k_iload 125 rfl (gs_ne rfl rfl rfl) rfl ?_
          refine k_push 126 rfl rfl ?_
          obtain ⟨x681, q682⟩ : ∃ q : Int32, q = (w2 + (1 : Int32)) := ⟨_, rfl⟩
          have e683 : x681.toInt = w2.toInt + 1 := by rw [q682, iv_add (by omega) (by omega)]; omega
          refine k_bin x681 127 rfl q682.symm rfl ?_
          have e684 : F675 73 = F667 73 := k679 73 (by decide)
          have e685 : F667 73 = F658 73 := k671 73 (by decide)
          have e686 : F658 73 = F649 73 := k662 73 (by decide)
          have e687 : F649 73 = F639 73 := k653 73 (by decide)
          exact k_fin rfl rfl ⟨_, _, _, _, rfl, I677, (fr1.tr (by decide) (fr1.tr (by decide) (fr1.tr (by decide) (fr1.tr (by decide) (fr1.tr (by decide) fr1.rf k643) k653) k662) k671) k679), (fr2.tr (by decide) (fr2.tr (by decide) (fr2.tr (by decide) (fr2.tr (by decide) fr2.rf k654) k663) k672) k680), show x681.toInt = w2.toInt + 1 ∧ sy ((A676 74)) ((F675 75)) (gp + 1 + ow (A0 1 (w1.toInt + w2.toInt))) gM ∧ (F675 75) ≤ F0 75 + 3 + ow (A0 1 (w1.toInt + w2.toInt)) ∧ F0 73 ≤ (F675 73) ∧ (F675 73) + (F675 75) ≤ F0 73 + F0 75 + 6 + ow (A0 1 (w1.toInt + w2.toInt)) from ⟨by omega, hs9, by omega, by omega, by omega⟩⟩
        · refine k_c1 72 rfl rfl (if_neg b655) ?_
          have b655 := mt iv_eq0.mpr b655
          refine k_iload 74 rfl gs_eq rfl ?_
          refine k_push 75 rfl rfl ?_
          by_cases b688 : x4 = (1 : Int32)
          · refine k_c2 78 rfl rfl (if_pos b688) ?_
            have b688 := iv_eq.mp b688
            have hw9 : ow (A0 1 (w1.toInt + w2.toInt)) = 0 := by rw [← e5, show x4.toInt = 1 by omega]; rfl
            refine k_aload 79 rfl (gs_ne rfl rfl rfl) rfl ?_
            refine k_push 81 rfl rfl ?_
            have hc689 : (92 : Int32).toInt = 92 := by decide
            have e690 : F649 73 = F639 73 := k653 73 (by decide)
            refine k_rv I651 rfl (m_says  I651.1 (show 0 ≤ (F649 73) ∧ (F649 73) < 12000 by omega)) rfl rfl rfl I651.rc ?_
            rintro h692 F693 A694 I695 ⟨k697, k698, p696⟩
            replace p696 : F693 73 = (F649 73) + 1 := p696
            have k698 := fr2.nil k698
            subst k698
            show am_Ok _ _ _ (84, _, [], _, 0, 0) _
            refine k_aload 85 rfl (gs_ne rfl rfl rfl) rfl ?_
            refine k_iload 86 rfl (gs_ne rfl rfl rfl) rfl ?_
            refine k_in (d := 0) rfl rfl rfl rfl rfl ?_
            refine k_push 2 rfl rfl ?_
            have hc699 : (97 : Int32).toInt = 97 := by decide
            refine k_iload 3 rfl rfl rfl ?_
            refine k_push 5 rfl rfl ?_
            have hc700 : (26 : Int32).toInt = 26 := by decide
            obtain ⟨x701, q702⟩ : ∃ q : Int32, q = (w3 - w3 / (26 : Int32) * (26 : Int32)) := ⟨_, rfl⟩
            refine k_divZ x701 6 rfl (by decide) q702.symm rfl ?_
            obtain ⟨x704, q705⟩ : ∃ q : Int32, q = ((97 : Int32) + x701) := ⟨_, rfl⟩
            refine k_bin x704 7 rfl q705.symm rfl ?_
            refine k_fin rfl rfl ⟨_, _, rfl, rf_len I695 I695, ?_⟩
            show am_Ok _ _ _ (89, _, [.inl x704, .inr (.inr (some 81))], _, 0, 0) _
            refine k_rv I695 rfl (m_says  I695.1 (show 0 ≤ (F693 73) ∧ (F693 73) < 12000 by omega)) rfl rfl rfl I695.rc ?_
            rintro h708 F709 A710 I711 ⟨k713, k714, p712⟩
            replace p712 : F709 73 = (F693 73) + 1 := p712
            have k714 := fr2.nil k714
            subst k714
            show am_Ok _ _ _ (92, _, [], _, 0, 0) _
            refine k_aload 93 rfl (gs_ne rfl rfl rfl) rfl ?_
            refine k_push 95 rfl rfl ?_
            have hc715 : (46 : Int32).toInt = 46 := by decide
            refine k_rv I711 rfl (m_says  I711.1 (show 0 ≤ (F709 73) ∧ (F709 73) < 12000 by omega)) rfl rfl rfl I711.rc ?_
            rintro h717 F718 A719 I720 ⟨k722, k723, p721⟩
            replace p721 : F718 73 = (F709 73) + 1 := p721
            have k723 := fr2.nil k723
            subst k723
            show am_Ok _ _ _ (98, _, [], _, 0, 0) _
            refine k_aload 99 rfl (gs_ne rfl rfl rfl) rfl ?_
            refine k_iload 100 rfl (gs_ne rfl rfl rfl) rfl ?_
            refine k_push 101 rfl rfl ?_
            obtain ⟨x724, q725⟩ : ∃ q : Int32, q = (w3 + (1 : Int32)) := ⟨_, rfl⟩
            have e726 : x724.toInt = w3.toInt + 1 := by rw [q725, iv_add (by omega) (by omega)]; omega
            refine k_bin x724 102 rfl q725.symm rfl ?_
            refine k_push 103 rfl rfl ?_
            have hc727 : (0 : Int32).toInt = 0 := by decide
            have e728 : F718 75 = F709 75 := k722 75 (by decide)
            have e729 : F709 75 = F693 75 := k713 75 (by decide)
            have e730 : F693 75 = F649 75 := k697 75 (by decide)
            refine k_rv I720 rfl (m_waitsPart (gp := gp) (gM := gM) I720.1 (show 0 ≤ (F718 75) ∧ (F718 75) < 4096 by omega) (show sy ((A650 74)) ((F718 75)) (gp) (gM) by rw [show F718 75 = f75 by omega]; exact ysy) (show 0 ≤ x724.toInt ∧ x724.toInt ≤ 3000 ∧ 0 ≤ (0 : Int32).toInt ∧ (0 : Int32).toInt ≤ 3 ∧ 4 * x724.toInt + (0 : Int32).toInt + 1 ≤ (gM) by omega)) rfl rfl rfl I720.rc ?_
            rintro h732 F733 A734 I735 ⟨k737, k738, p736⟩
            replace p736 : F733 75 = (F718 75) + 1 ∧ sy (A734 74) (F733 75) ((gp) + 1) (gM) := p736
            obtain ⟨p736a, p736b⟩ := p736
            show am_Ok _ _ _ (106, _, [], _, 0, 0) _
            have hs9 : sy (A734 74) (F733 75) (gp + 1 + ow (A0 1 (w1.toInt + w2.toInt))) gM := by rw [hw9, show gp + 1 + (0 : Int) = gp + 1 by omega]; exact p736b
            refine k_goto 124 rfl rfl ?_
            skip
            refine k_iload 125 rfl (gs_ne rfl rfl rfl) rfl ?_
            refine k_push 126 rfl rfl ?_
            obtain ⟨x739, q740⟩ : ∃ q : Int32, q = (w2 + (1 : Int32)) := ⟨_, rfl⟩
            have e741 : x739.toInt = w2.toInt + 1 := by rw [q740, iv_add (by omega) (by omega)]; omega
            refine k_bin x739 127 rfl q740.symm rfl ?_
            have e742 : F733 73 = F718 73 := k737 73 (by decide)
            exact k_fin rfl rfl ⟨_, _, _, _, rfl, I735, (fr1.tr (by decide) (fr1.tr (by decide) (fr1.tr (by decide) (fr1.tr (by decide) (fr1.tr (by decide) (fr1.tr (by decide) fr1.rf k643) k653) k697) k713) k722) k737), (fr2.tr (by decide) (fr2.tr (by decide) fr2.rf k654) k738), show x739.toInt = w2.toInt + 1 ∧ sy ((A734 74)) ((F733 75)) (gp + 1 + ow (A0 1 (w1.toInt + w2.toInt))) gM ∧ (F733 75) ≤ F0 75 + 3 + ow (A0 1 (w1.toInt + w2.toInt)) ∧ F0 73 ≤ (F733 73) ∧ (F733 73) + (F733 75) ≤ F0 73 + F0 75 + 6 + ow (A0 1 (w1.toInt + w2.toInt)) from ⟨by omega, hs9, by omega, by omega, by omega⟩⟩
          · refine k_c2 109 rfl rfl (if_neg b688) ?_
            have b688 := mt iv_eq.mpr b688
            have hw9 : ow (A0 1 (w1.toInt + w2.toInt)) = -1 := by rw [← e5]; exact ow_v (by omega) (by omega)
            refine k_aload 110 rfl (gs_ne rfl rfl rfl) rfl ?_
            refine k_iload 111 rfl (gs_ne rfl rfl rfl) rfl ?_
            refine k_push 112 rfl rfl ?_
            obtain ⟨x743, q744⟩ : ∃ q : Int32, q = (w3 - (1 : Int32)) := ⟨_, rfl⟩
            refine k_bin x743 113 rfl q744.symm rfl ?_
            refine k_iload 115 rfl gs_eq rfl ?_
            refine k_push 116 rfl rfl ?_
            obtain ⟨x746, q747⟩ : ∃ q : Int32, q = (x4 - (2 : Int32)) := ⟨_, rfl⟩
            refine k_bin x746 117 rfl q747.symm rfl ?_
            obtain ⟨x749, q750⟩ : ∃ q : Int32, q = (x743 - x746) := ⟨_, rfl⟩
            refine k_bin x749 118 rfl q750.symm rfl ?_
            refine k_in (d := 0) rfl rfl rfl rfl rfl ?_
            refine k_push 2 rfl rfl ?_
            have hc752 : (97 : Int32).toInt = 97 := by decide
            refine k_iload 3 rfl rfl rfl ?_
            refine k_push 5 rfl rfl ?_
            have hc753 : (26 : Int32).toInt = 26 := by decide
            obtain ⟨x754, q755⟩ : ∃ q : Int32, q = (x749 - x749 / (26 : Int32) * (26 : Int32)) := ⟨_, rfl⟩
            refine k_divZ x754 6 rfl (by decide) q755.symm rfl ?_
            obtain ⟨x757, q758⟩ : ∃ q : Int32, q = ((97 : Int32) + x754) := ⟨_, rfl⟩
            refine k_bin x757 7 rfl q758.symm rfl ?_
            refine k_fin rfl rfl ⟨_, _, rfl, rf_len I651 I651, ?_⟩
            show am_Ok _ _ _ (121, _, [.inl x757, .inr (.inr (some 81))], _, 0, 0) _
            have e760 : F649 73 = F639 73 := k653 73 (by decide)
            refine k_rv I651 rfl (m_says  I651.1 (show 0 ≤ (F649 73) ∧ (F649 73) < 12000 by omega)) rfl rfl rfl I651.rc ?_
            rintro h762 F763 A764 I765 ⟨k767, k768, p766⟩
            replace p766 : F763 73 = (F649 73) + 1 := p766
            have k768 := fr2.nil k768
            subst k768
            show am_Ok _ _ _ (124, _, [], _, 0, 0) _
            have hs9 : sy (A650 74) (F763 75) (gp + 1 + ow (A0 1 (w1.toInt + w2.toInt))) gM := by rw [hw9, show gp + 1 + (-1 : Int) = gp by omega, show F763 75 = f75 from (k767 75 (by decide)).trans (by omega)]; exact ysy
            refine k_iload 125 rfl (gs_ne rfl rfl rfl) rfl ?_
            refine k_push 126 rfl rfl ?_
            obtain ⟨x769, q770⟩ : ∃ q : Int32, q = (w2 + (1 : Int32)) := ⟨_, rfl⟩
            have e771 : x769.toInt = w2.toInt + 1 := by rw [q770, iv_add (by omega) (by omega)]; omega
            refine k_bin x769 127 rfl q770.symm rfl ?_
            have e772 : F763 75 = F649 75 := k767 75 (by decide)
            exact k_fin rfl rfl ⟨_, _, _, _, rfl, I765, (fr1.tr (by decide) (fr1.tr (by decide) (fr1.tr (by decide) fr1.rf k643) k653) k767), (fr2.tr (by decide) fr2.rf k654), show x769.toInt = w2.toInt + 1 ∧ sy ((A650 74)) ((F763 75)) (gp + 1 + ow (A0 1 (w1.toInt + w2.toInt))) gM ∧ (F763 75) ≤ F0 75 + 3 + ow (A0 1 (w1.toInt + w2.toInt)) ∧ F0 73 ≤ (F763 73) ∧ (F763 73) + (F763 75) ≤ F0 73 + F0 75 + 6 + ow (A0 1 (w1.toInt + w2.toInt)) from ⟨by omega, hs9, by omega, by omega, by omega⟩⟩
    · refine k_c2 46 rfl rfl (if_neg b519) ?_
      have b519 := mt iv_eq.mpr b519
      obtain ⟨f75, hf75, ysy⟩ : ∃ f, F0 75 = f ∧ sy (A0 74) f gp gM := ⟨_, rfl, p2⟩
      refine k_iload 48 rfl gs_eq rfl ?_
      by_cases b773 : x4 = 0
      · refine k_c1 51 rfl rfl (if_pos b773) ?_
        have b773 := iv_eq0.mp b773
        have hw9 : ow (A0 1 (w1.toInt + w2.toInt)) = 1 := by rw [← e5, show x4.toInt = 0 by omega]; rfl
        refine k_aload 52 rfl (gs_ne rfl rfl rfl) rfl ?_
        refine k_iload 53 rfl (gs_ne rfl rfl rfl) rfl ?_
        refine k_push 54 rfl rfl ?_
        refine k_rv hI rfl (m_waitsPart (gp := gp) (gM := gM) hI.1 (show 0 ≤ (F0 75) ∧ (F0 75) < 4096 by omega) (show sy ((A0 74)) ((F0 75)) (gp) (gM) by rw [show F0 75 = f75 by omega]; exact ysy) (show 0 ≤ w3.toInt ∧ w3.toInt ≤ 3000 ∧ 0 ≤ (2 : Int32).toInt ∧ (2 : Int32).toInt ≤ 3 ∧ 4 * w3.toInt + (2 : Int32).toInt + 1 ≤ (gM) by omega)) rfl rfl rfl hI.rc ?_
        rintro h775 F776 A777 I778 ⟨k780, k781, p779⟩
        replace p779 : F776 75 = (F0 75) + 1 ∧ sy (A777 74) (F776 75) ((gp) + 1) (gM) := p779
        obtain ⟨p779a, p779b⟩ := p779
        show am_Ok _ _ _ (57, _, [], _, 0, 0) _
        refine k_aload 58 rfl (gs_ne rfl rfl rfl) rfl ?_
        refine k_push 60 rfl rfl ?_
        have hc782 : (32 : Int32).toInt = 32 := by decide
        refine k_rv I778 rfl (m_saysLater (gp := gp + 1) (gM := gM) I778.1 (show 0 ≤ (F776 75) ∧ (F776 75) < 4096 by omega) (show sy ((A777 74)) ((F776 75)) (gp + 1) (gM) from p779b) (show -(gM) ≤ (32 : Int32).toInt by omega)) rfl rfl rfl I778.rc ?_
        rintro h784 F785 A786 I787 ⟨k789, k790, p788⟩
        replace p788 : F785 75 = (F776 75) + 1 ∧ ((0 ≤ (32 : Int32).toInt ∧ sy (A786 74) (F785 75) (gp + 1) (gM)) ∨ ((32 : Int32).toInt < 0 ∧ sy (A786 74) (F785 75) ((gp + 1) + 1) (gM))) := p788
        obtain ⟨p788a, p788b⟩ := p788
        show am_Ok _ _ _ (63, _, [], _, 0, 0) _
        have y3 := (p788b.resolve_right (fun z => by omega)).2
        refine k_aload 64 rfl (gs_ne rfl rfl rfl) rfl ?_
        refine k_iload 65 rfl (gs_ne rfl rfl rfl) rfl ?_
        refine k_push 66 rfl rfl ?_
        refine k_rv I787 rfl (m_waitsPart (gp := gp + 1) (gM := gM) I787.1 (show 0 ≤ (F785 75) ∧ (F785 75) < 4096 by omega) (show sy ((A786 74)) ((F785 75)) (gp + 1) (gM) from y3) (show 0 ≤ w3.toInt ∧ w3.toInt ≤ 3000 ∧ 0 ≤ (1 : Int32).toInt ∧ (1 : Int32).toInt ≤ 3 ∧ 4 * w3.toInt + (1 : Int32).toInt + 1 ≤ (gM) by omega)) rfl rfl rfl I787.rc ?_
        rintro h792 F793 A794 I795 ⟨k797, k798, p796⟩
        replace p796 : F793 75 = (F785 75) + 1 ∧ sy (A794 74) (F793 75) ((gp + 1) + 1) (gM) := p796
        obtain ⟨p796a, p796b⟩ := p796
        show am_Ok _ _ _ (69, _, [], _, 0, 0) _
        have hs9 : sy (A794 74) (F793 75) (gp + 1 + ow (A0 1 (w1.toInt + w2.toInt))) gM := by rw [hw9]; exact p796b
        refine k_goto 124 rfl rfl ?_
        skip
        refine k_iload 125 rfl (gs_ne rfl rfl rfl) rfl ?_
        refine k_push 126 rfl rfl ?_
        obtain ⟨x799, q800⟩ : ∃ q : Int32, q = (w2 + (1 : Int32)) := ⟨_, rfl⟩
        have e801 : x799.toInt = w2.toInt + 1 := by rw [q800, iv_add (by omega) (by omega)]; omega
        refine k_bin x799 127 rfl q800.symm rfl ?_
        have e802 : F793 73 = F785 73 := k797 73 (by decide)
        have e803 : F785 73 = F776 73 := k789 73 (by decide)
        have e804 : F776 73 = F0 73 := k780 73 (by decide)
        exact k_fin rfl rfl ⟨_, _, _, _, rfl, I795, (fr1.tr (by decide) (fr1.tr (by decide) (fr1.tr (by decide) fr1.rf k780) k789) k797), (fr2.tr (by decide) (fr2.tr (by decide) (fr2.tr (by decide) fr2.rf k781) k790) k798), show x799.toInt = w2.toInt + 1 ∧ sy ((A794 74)) ((F793 75)) (gp + 1 + ow (A0 1 (w1.toInt + w2.toInt))) gM ∧ (F793 75) ≤ F0 75 + 3 + ow (A0 1 (w1.toInt + w2.toInt)) ∧ F0 73 ≤ (F793 73) ∧ (F793 73) + (F793 75) ≤ F0 73 + F0 75 + 6 + ow (A0 1 (w1.toInt + w2.toInt)) from ⟨by omega, hs9, by omega, by omega, by omega⟩⟩
      · refine k_c1 72 rfl rfl (if_neg b773) ?_
        have b773 := mt iv_eq0.mpr b773
        refine k_iload 74 rfl gs_eq rfl ?_
        refine k_push 75 rfl rfl ?_
        by_cases b805 : x4 = (1 : Int32)
        · refine k_c2 78 rfl rfl (if_pos b805) ?_
          have b805 := iv_eq.mp b805
          have hw9 : ow (A0 1 (w1.toInt + w2.toInt)) = 0 := by rw [← e5, show x4.toInt = 1 by omega]; rfl
          refine k_aload 79 rfl (gs_ne rfl rfl rfl) rfl ?_
          refine k_push 81 rfl rfl ?_
          have hc806 : (92 : Int32).toInt = 92 := by decide
          refine k_rv hI rfl (m_says  hI.1 (show 0 ≤ (F0 73) ∧ (F0 73) < 12000 by omega)) rfl rfl rfl hI.rc ?_
          rintro h808 F809 A810 I811 ⟨k813, k814, p812⟩
          replace p812 : F809 73 = (F0 73) + 1 := p812
          have k814 := fr2.nil k814
          subst k814
          show am_Ok _ _ _ (84, _, [], _, 0, 0) _
          refine k_aload 85 rfl (gs_ne rfl rfl rfl) rfl ?_
          refine k_iload 86 rfl (gs_ne rfl rfl rfl) rfl ?_
          refine k_in (d := 0) rfl rfl rfl rfl rfl ?_
          refine k_push 2 rfl rfl ?_
          have hc815 : (97 : Int32).toInt = 97 := by decide
          refine k_iload 3 rfl rfl rfl ?_
          refine k_push 5 rfl rfl ?_
          have hc816 : (26 : Int32).toInt = 26 := by decide
          obtain ⟨x817, q818⟩ : ∃ q : Int32, q = (w3 - w3 / (26 : Int32) * (26 : Int32)) := ⟨_, rfl⟩
          refine k_divZ x817 6 rfl (by decide) q818.symm rfl ?_
          obtain ⟨x820, q821⟩ : ∃ q : Int32, q = ((97 : Int32) + x817) := ⟨_, rfl⟩
          refine k_bin x820 7 rfl q821.symm rfl ?_
          refine k_fin rfl rfl ⟨_, _, rfl, rf_len I811 I811, ?_⟩
          show am_Ok _ _ _ (89, _, [.inl x820, .inr (.inr (some 81))], _, 0, 0) _
          refine k_rv I811 rfl (m_says  I811.1 (show 0 ≤ (F809 73) ∧ (F809 73) < 12000 by omega)) rfl rfl rfl I811.rc ?_
          rintro h824 F825 A826 I827 ⟨k829, k830, p828⟩
          replace p828 : F825 73 = (F809 73) + 1 := p828
          have k830 := fr2.nil k830
          subst k830
          show am_Ok _ _ _ (92, _, [], _, 0, 0) _
          refine k_aload 93 rfl (gs_ne rfl rfl rfl) rfl ?_
          refine k_push 95 rfl rfl ?_
          have hc831 : (46 : Int32).toInt = 46 := by decide
          refine k_rv I827 rfl (m_says  I827.1 (show 0 ≤ (F825 73) ∧ (F825 73) < 12000 by omega)) rfl rfl rfl I827.rc ?_
          rintro h833 F834 A835 I836 ⟨k838, k839, p837⟩
          replace p837 : F834 73 = (F825 73) + 1 := p837
          have k839 := fr2.nil k839
          subst k839
          show am_Ok _ _ _ (98, _, [], _, 0, 0) _
          refine k_aload 99 rfl (gs_ne rfl rfl rfl) rfl ?_
          refine k_iload 100 rfl (gs_ne rfl rfl rfl) rfl ?_
          refine k_push 101 rfl rfl ?_
          obtain ⟨x840, q841⟩ : ∃ q : Int32, q = (w3 + (1 : Int32)) := ⟨_, rfl⟩
          have e842 : x840.toInt = w3.toInt + 1 := by rw [q841, iv_add (by omega) (by omega)]; omega
          refine k_bin x840 102 rfl q841.symm rfl ?_
          refine k_push 103 rfl rfl ?_
          have hc843 : (0 : Int32).toInt = 0 := by decide
          have e844 : F834 75 = F825 75 := k838 75 (by decide)
          have e845 : F825 75 = F809 75 := k829 75 (by decide)
          have e846 : F809 75 = F0 75 := k813 75 (by decide)
          refine k_rv I836 rfl (m_waitsPart (gp := gp) (gM := gM) I836.1 (show 0 ≤ (F834 75) ∧ (F834 75) < 4096 by omega) (show sy ((A0 74)) ((F834 75)) (gp) (gM) by rw [show F834 75 = f75 by omega]; exact ysy) (show 0 ≤ x840.toInt ∧ x840.toInt ≤ 3000 ∧ 0 ≤ (0 : Int32).toInt ∧ (0 : Int32).toInt ≤ 3 ∧ 4 * x840.toInt + (0 : Int32).toInt + 1 ≤ (gM) by omega)) rfl rfl rfl I836.rc ?_
          rintro h848 F849 A850 I851 ⟨k853, k854, p852⟩
          replace p852 : F849 75 = (F834 75) + 1 ∧ sy (A850 74) (F849 75) ((gp) + 1) (gM) := p852
          obtain ⟨p852a, p852b⟩ := p852
          show am_Ok _ _ _ (106, _, [], _, 0, 0) _
          have hs9 : sy (A850 74) (F849 75) (gp + 1 + ow (A0 1 (w1.toInt + w2.toInt))) gM := by rw [hw9, show gp + 1 + (0 : Int) = gp + 1 by omega]; exact p852b
          refine k_goto 124 rfl rfl ?_
          skip
          refine k_iload 125 rfl (gs_ne rfl rfl rfl) rfl ?_
          refine k_push 126 rfl rfl ?_
          obtain ⟨x855, q856⟩ : ∃ q : Int32, q = (w2 + (1 : Int32)) := ⟨_, rfl⟩
          have e857 : x855.toInt = w2.toInt + 1 := by rw [q856, iv_add (by omega) (by omega)]; omega
          refine k_bin x855 127 rfl q856.symm rfl ?_
          have e858 : F849 73 = F834 73 := k853 73 (by decide)
          exact k_fin rfl rfl ⟨_, _, _, _, rfl, I851, (fr1.tr (by decide) (fr1.tr (by decide) (fr1.tr (by decide) (fr1.tr (by decide) fr1.rf k813) k829) k838) k853), (fr2.tr (by decide) fr2.rf k854), show x855.toInt = w2.toInt + 1 ∧ sy ((A850 74)) ((F849 75)) (gp + 1 + ow (A0 1 (w1.toInt + w2.toInt))) gM ∧ (F849 75) ≤ F0 75 + 3 + ow (A0 1 (w1.toInt + w2.toInt)) ∧ F0 73 ≤ (F849 73) ∧ (F849 73) + (F849 75) ≤ F0 73 + F0 75 + 6 + ow (A0 1 (w1.toInt + w2.toInt)) from ⟨by omega, hs9, by omega, by omega, by omega⟩⟩
        · refine k_c2 109 rfl rfl (if_neg b805) ?_
          have b805 := mt iv_eq.mpr b805
          have hw9 : ow (A0 1 (w1.toInt + w2.toInt)) = -1 := by rw [← e5]; exact ow_v (by omega) (by omega)
          refine k_aload 110 rfl (gs_ne rfl rfl rfl) rfl ?_
          refine k_iload 111 rfl (gs_ne rfl rfl rfl) rfl ?_
          refine k_push 112 rfl rfl ?_
          obtain ⟨x859, q860⟩ : ∃ q : Int32, q = (w3 - (1 : Int32)) := ⟨_, rfl⟩
          refine k_bin x859 113 rfl q860.symm rfl ?_
          refine k_iload 115 rfl gs_eq rfl ?_
          refine k_push 116 rfl rfl ?_
          obtain ⟨x862, q863⟩ : ∃ q : Int32, q = (x4 - (2 : Int32)) := ⟨_, rfl⟩
          refine k_bin x862 117 rfl q863.symm rfl ?_
          obtain ⟨x865, q866⟩ : ∃ q : Int32, q = (x859 - x862) := ⟨_, rfl⟩
          refine k_bin x865 118 rfl q866.symm rfl ?_
          refine k_in (d := 0) rfl rfl rfl rfl rfl ?_
          refine k_push 2 rfl rfl ?_
          have hc868 : (97 : Int32).toInt = 97 := by decide
          refine k_iload 3 rfl rfl rfl ?_
          refine k_push 5 rfl rfl ?_
          have hc869 : (26 : Int32).toInt = 26 := by decide
          obtain ⟨x870, q871⟩ : ∃ q : Int32, q = (x865 - x865 / (26 : Int32) * (26 : Int32)) := ⟨_, rfl⟩
          refine k_divZ x870 6 rfl (by decide) q871.symm rfl ?_
          obtain ⟨x873, q874⟩ : ∃ q : Int32, q = ((97 : Int32) + x870) := ⟨_, rfl⟩
          refine k_bin x873 7 rfl q874.symm rfl ?_
          refine k_fin rfl rfl ⟨_, _, rfl, rf_len hI hI, ?_⟩
          show am_Ok _ _ _ (121, _, [.inl x873, .inr (.inr (some 81))], _, 0, 0) _
          refine k_rv hI rfl (m_says  hI.1 (show 0 ≤ (F0 73) ∧ (F0 73) < 12000 by omega)) rfl rfl rfl hI.rc ?_
          rintro h877 F878 A879 I880 ⟨k882, k883, p881⟩
          replace p881 : F878 73 = (F0 73) + 1 := p881
          have k883 := fr2.nil k883
          subst k883
          show am_Ok _ _ _ (124, _, [], _, 0, 0) _
          have hs9 : sy (A0 74) (F878 75) (gp + 1 + ow (A0 1 (w1.toInt + w2.toInt))) gM := by rw [hw9, show gp + 1 + (-1 : Int) = gp by omega, show F878 75 = f75 from (k882 75 (by decide)).trans (by omega)]; exact ysy
          refine k_iload 125 rfl (gs_ne rfl rfl rfl) rfl ?_
          refine k_push 126 rfl rfl ?_
          obtain ⟨x884, q885⟩ : ∃ q : Int32, q = (w2 + (1 : Int32)) := ⟨_, rfl⟩
          have e886 : x884.toInt = w2.toInt + 1 := by rw [q885, iv_add (by omega) (by omega)]; omega
          refine k_bin x884 127 rfl q885.symm rfl ?_
          have e887 : F878 75 = F0 75 := k882 75 (by decide)
          exact k_fin rfl rfl ⟨_, _, _, _, rfl, I880, (fr1.tr (by decide) fr1.rf k882), fr2.rf, show x884.toInt = w2.toInt + 1 ∧ sy ((A0 74)) ((F878 75)) (gp + 1 + ow (A0 1 (w1.toInt + w2.toInt))) gM ∧ (F878 75) ≤ F0 75 + 3 + ow (A0 1 (w1.toInt + w2.toInt)) ∧ F0 73 ≤ (F878 73) ∧ (F878 73) + (F878 75) ≤ F0 73 + F0 75 + 6 + ow (A0 1 (w1.toInt + w2.toInt)) from ⟨by omega, hs9, by omega, by omega, by omega⟩⟩
end
