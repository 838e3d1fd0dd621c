section
theorem m_must {h0 : am_h} {F0 : rf_f} {A0 : rf_A} {w1 : Int32}  (hR : rf_R h0 F0 A0) (p1 : 0 ≤ F0 8 ∧ F0 8 ≤ F0 7 ∧ F0 7 ≤ 700 ∧ (F0 9 = 2 → 0 ≤ F0 11 ∧ F0 11 ≤ 9) ∧ 0 ≤ F0 9 ∧ F0 9 ≤ 4) : am_Mt 4 172 [.inr (.inr (some 81)), .inl w1] h0 (rf_V h0 (fun F' A' => fr1 [8, 10, 9, 14, 11, 12, 6, 5] F0 F' ∧ fr2 [] A0 A' ∧ ((F0 8 ≤ F' 8 ∧ F' 8 ≤ F0 7) ∧ (F' 6 = 0 → F0 6 = 0 ∧ (F' 9 = 0 ∨ F0 8 < F' 8)) ∧ (F' 9 = 2 → 0 ≤ F' 11 ∧ F' 11 ≤ 9) ∧ (0 ≤ F' 9 ∧ F' 9 ≤ 4)))) := by
  refine am_Mt.of (D := 3) ?_
  have hI : rf_I h0 h0 F0 A0 := rf_I.start hR
  refine k_aload 1 rfl rfl rfl ?_
  refine k_aload 2 rfl rfl rfl ?_
  refine k_iload 3 rfl rfl rfl ?_
  refine k_in (d := 1) rfl rfl rfl rfl hI.rc ?_
  refine k_aload 1 rfl rfl rfl ?_
  refine k_in (d := 0) rfl rfl rfl rfl hI.rc ?_
  refine k_aload 1 rfl rfl rfl ?_
  refine r_gI hI 4 rfl rfl rfl (fun x1 (e2 : x1.toInt = F0 6) => ?_)
  by_cases b3 : x1 = 0
  · refine k_c1 7 rfl rfl (if_pos b3) ?_
    have b3 := iv_eq0.mp b3
    refine k_push 8 rfl rfl ?_
    have hc4 : (1 : Int32).toInt = 1 := by decide
    refine k_goto 12 rfl rfl ?_
    refine k_fin rfl (fin_Z (Or.inr rfl)) ⟨_, _, rfl, rf_len hI hI, ?_⟩
    show am_Ok _ _ _ (4, _, [.inl (1 : Int32)], _, 0, 0) _
    refine k_c1 7 rfl rfl (if_neg (by decide)) ?_
    refine k_aload 8 rfl rfl rfl ?_
    refine r_gI hI 11 rfl rfl rfl (fun x5 (e6 : x5.toInt = F0 9) => ?_)
    refine k_push 12 rfl rfl ?_
    have hc7 : (3 : Int32).toInt = 3 := by decide
    by_cases b8 : x5 = (3 : Int32)
    · refine k_c2 15 rfl rfl (if_pos b8) ?_
      have b8 := iv_eq.mp b8
      refine k_aload 16 rfl rfl rfl ?_
      refine r_gI hI 19 rfl rfl rfl (fun x9 (e10 : x9.toInt = F0 11) => ?_)
      refine k_iload 20 rfl rfl rfl ?_
      by_cases b11 : x9 = w1
      · refine k_c2 23 rfl rfl (if_pos b11) ?_
        have b11 := iv_eq.mp b11
        refine k_push 24 rfl rfl ?_
        refine k_goto 28 rfl rfl ?_
        refine k_fin rfl (fin_Z (Or.inr rfl)) ⟨_, _, rfl, rf_len hI hI, ?_⟩
        show am_Ok _ _ _ (6, _, [.inl (1 : Int32), .inr (.inr (some 81))], _, 0, 0) _
        refine k_push 7 rfl rfl ?_
        refine k_in (d := 1) rfl rfl rfl rfl hI.rc ?_
        refine k_aload 1 rfl rfl rfl ?_
        refine k_in (d := 0) rfl rfl rfl rfl hI.rc ?_
        refine k_aload 1 rfl rfl rfl ?_
        refine r_gI hI 4 rfl rfl rfl (fun x12 (e13 : x12.toInt = F0 6) => ?_)
        by_cases b14 : x12 = 0
        · refine k_c1 7 rfl rfl (if_pos b14) ?_
          have b14 := iv_eq0.mp b14
          refine k_push 8 rfl rfl ?_
          refine k_goto 12 rfl rfl ?_
          refine k_fin rfl (fin_Z (Or.inr rfl)) ⟨_, _, rfl, rf_len hI hI, ?_⟩
          show am_Ok _ _ _ (4, _, [.inl (1 : Int32)], _, 0, 0) _
          refine k_c1 7 rfl rfl (if_neg (by decide)) ?_
          refine k_iload 8 rfl rfl rfl ?_
          refine k_c1 24 rfl rfl (if_neg (by decide)) ?_
          refine k_aload 25 rfl rfl rfl ?_
          refine k_in (d := 0) rfl rfl rfl rfl hI.rc ?_
          refine k_aload 1 rfl rfl rfl ?_
          refine r_gI hI 4 rfl rfl rfl (fun x15 (e16 : x15.toInt = F0 6) => ?_)
          by_cases b17 : x15 = 0
          · refine k_c1 7 rfl rfl (if_pos b17) ?_
            have b17 := iv_eq0.mp b17
            refine k_push 8 rfl rfl ?_
            refine k_goto 12 rfl rfl ?_
            refine k_fin rfl (fin_Z (Or.inr rfl)) ⟨_, _, rfl, rf_len hI hI, ?_⟩
            show am_Ok _ _ _ (28, _, [.inl (1 : Int32)], _, 0, 0) _
            refine k_fin rfl (fin_Z (Or.inr rfl)) ⟨_, _, rfl, rf_len hI hI, ?_⟩
            show am_Ok _ _ _ (10, _, [.inl (1 : Int32)], _, 0, 0) _
            refine k_c1 13 rfl rfl (if_neg (by decide)) ?_
            refine k_aload 14 rfl rfl rfl ?_
            refine k_rv hI rfl (m_goes  hI.1 (show 0 ≤ (F0 8) ∧ (F0 8) ≤ (F0 7) ∧ (F0 7) ≤ 700 by omega)) rfl rfl rfl hI.rc ?_
            rintro h19 F20 A21 I22 ⟨k24, k25, p23⟩
            replace p23 : ((F0 8) ≤ F20 8 ∧ F20 8 ≤ (F0 7)) ∧ (F20 9 = 0 ∨ (F0 8) < F20 8) ∧ (F20 9 = 2 → 0 ≤ F20 11 ∧ F20 11 ≤ 9) ∧ (0 ≤ F20 9 ∧ F20 9 ≤ 4) := p23
            obtain ⟨p23a, p23b, p23c, p23d⟩ := p23
            have k25 := fr2.nil k25
            subst k25
            show am_Ok _ _ _ (17, _, [], _, 0, 0) _
            have e26 : F20 6 = F0 6 := k24 6 (by decide)
            exact k_fin rfl rfl ⟨_, _, _, rfl, I22, (fr1.tr (by decide) fr1.rf k24), fr2.rf, show (F0 8 ≤ (F20 8) ∧ (F20 8) ≤ F0 7) ∧ ((F20 6) = 0 → F0 6 = 0 ∧ ((F20 9) = 0 ∨ F0 8 < (F20 8))) ∧ ((F20 9) = 2 → 0 ≤ (F20 11) ∧ (F20 11) ≤ 9) ∧ (0 ≤ (F20 9) ∧ (F20 9) ≤ 4) by omega⟩
          · refine k_c1 11 rfl rfl (if_neg b17) ?_
            have b17 := mt iv_eq0.mpr b17
            refine k_push 12 rfl rfl ?_
            have hc27 : (0 : Int32).toInt = 0 := by decide
            refine k_fin rfl (fin_Z (Or.inl rfl)) ⟨_, _, rfl, rf_len hI hI, ?_⟩
            show am_Ok _ _ _ (28, _, [.inl (0 : Int32)], _, 0, 0) _
            refine k_fin rfl (fin_Z (Or.inl rfl)) ⟨_, _, rfl, rf_len hI hI, ?_⟩
            show am_Ok _ _ _ (10, _, [.inl (0 : Int32)], _, 0, 0) _
            refine k_c1 17 rfl rfl (if_pos (by decide)) ?_
            exact k_fin rfl rfl ⟨_, _, _, rfl, hI, fr1.rf, fr2.rf, show (F0 8 ≤ (F0 8) ∧ (F0 8) ≤ F0 7) ∧ ((F0 6) = 0 → F0 6 = 0 ∧ ((F0 9) = 0 ∨ F0 8 < (F0 8))) ∧ ((F0 9) = 2 → 0 ≤ (F0 11) ∧ (F0 11) ≤ 9) ∧ (0 ≤ (F0 9) ∧ (F0 9) ≤ 4) by omega⟩
        · refine k_c1 11 rfl rfl (if_neg b14) ?_
          have b14 := mt iv_eq0.mpr b14
          refine k_push 12 rfl rfl ?_
          have hc28 : (0 : Int32).toInt = 0 := by decide
          refine k_fin rfl (fin_Z (Or.inl rfl)) ⟨_, _, rfl, rf_len hI hI, ?_⟩
          show am_Ok _ _ _ (4, _, [.inl (0 : Int32)], _, 0, 0) _
          refine k_c1 24 rfl rfl (if_pos (by decide)) ?_
          refine k_aload 25 rfl rfl rfl ?_
          refine k_in (d := 0) rfl rfl rfl rfl hI.rc ?_
          refine k_aload 1 rfl rfl rfl ?_
          refine r_gI hI 4 rfl rfl rfl (fun x29 (e30 : x29.toInt = F0 6) => ?_)
          by_cases b31 : x29 = 0
          · refine k_c1 7 rfl rfl (if_pos b31) ?_
            have b31 := iv_eq0.mp b31
            refine k_push 8 rfl rfl ?_
            refine k_goto 12 rfl rfl ?_
            refine k_fin rfl (fin_Z (Or.inr rfl)) ⟨_, _, rfl, rf_len hI hI, ?_⟩
            show am_Ok _ _ _ (28, _, [.inl (1 : Int32)], _, 0, 0) _
            refine k_fin rfl (fin_Z (Or.inr rfl)) ⟨_, _, rfl, rf_len hI hI, ?_⟩
            show am_Ok _ _ _ (10, _, [.inl (1 : Int32)], _, 0, 0) _
            refine k_c1 13 rfl rfl (if_neg (by decide)) ?_
            refine k_aload 14 rfl rfl rfl ?_
            refine k_rv hI rfl (m_goes  hI.1 (show 0 ≤ (F0 8) ∧ (F0 8) ≤ (F0 7) ∧ (F0 7) ≤ 700 by omega)) rfl rfl rfl hI.rc ?_
            rintro h33 F34 A35 I36 ⟨k38, k39, p37⟩
            replace p37 : ((F0 8) ≤ F34 8 ∧ F34 8 ≤ (F0 7)) ∧ (F34 9 = 0 ∨ (F0 8) < F34 8) ∧ (F34 9 = 2 → 0 ≤ F34 11 ∧ F34 11 ≤ 9) ∧ (0 ≤ F34 9 ∧ F34 9 ≤ 4) := p37
            obtain ⟨p37a, p37b, p37c, p37d⟩ := p37
            have k39 := fr2.nil k39
            subst k39
            show am_Ok _ _ _ (17, _, [], _, 0, 0) _
            have e40 : F34 6 = F0 6 := k38 6 (by decide)
            exact k_fin rfl rfl ⟨_, _, _, rfl, I36, (fr1.tr (by decide) fr1.rf k38), fr2.rf, show (F0 8 ≤ (F34 8) ∧ (F34 8) ≤ F0 7) ∧ ((F34 6) = 0 → F0 6 = 0 ∧ ((F34 9) = 0 ∨ F0 8 < (F34 8))) ∧ ((F34 9) = 2 → 0 ≤ (F34 11) ∧ (F34 11) ≤ 9) ∧ (0 ≤ (F34 9) ∧ (F34 9) ≤ 4) by omega⟩
          · refine k_c1 11 rfl rfl (if_neg b31) ?_
            have b31 := mt iv_eq0.mpr b31
            refine k_push 12 rfl rfl ?_
            refine k_fin rfl (fin_Z (Or.inl rfl)) ⟨_, _, rfl, rf_len hI hI, ?_⟩
            show am_Ok _ _ _ (28, _, [.inl (0 : Int32)], _, 0, 0) _
            refine k_fin rfl (fin_Z (Or.inl rfl)) ⟨_, _, rfl, rf_len hI hI, ?_⟩
            show am_Ok _ _ _ (10, _, [.inl (0 : Int32)], _, 0, 0) _
            refine k_c1 17 rfl rfl (if_pos (by decide)) ?_
            exact k_fin rfl rfl ⟨_, _, _, rfl, hI, fr1.rf, fr2.rf, show (F0 8 ≤ (F0 8) ∧ (F0 8) ≤ F0 7) ∧ ((F0 6) = 0 → F0 6 = 0 ∧ ((F0 9) = 0 ∨ F0 8 < (F0 8))) ∧ ((F0 9) = 2 → 0 ≤ (F0 11) ∧ (F0 11) ≤ 9) ∧ (0 ≤ (F0 9) ∧ (F0 9) ≤ 4) by omega⟩
      · refine k_c2 27 rfl rfl (if_neg b11) ?_
        have b11 := mt iv_eq.mpr b11
        refine k_push 28 rfl rfl ?_
        have hc41 : (0 : Int32).toInt = 0 := by decide
        refine k_fin rfl (fin_Z (Or.inl rfl)) ⟨_, _, rfl, rf_len hI hI, ?_⟩
        show am_Ok _ _ _ (6, _, [.inl (0 : Int32), .inr (.inr (some 81))], _, 0, 0) _
        refine k_push 7 rfl rfl ?_
        refine k_in (d := 1) rfl rfl rfl rfl hI.rc ?_
        refine k_aload 1 rfl rfl rfl ?_
        refine k_in (d := 0) rfl rfl rfl rfl hI.rc ?_
        refine k_aload 1 rfl rfl rfl ?_
        refine r_gI hI 4 rfl rfl rfl (fun x42 (e43 : x42.toInt = F0 6) => ?_)
        by_cases b44 : x42 = 0
        · refine k_c1 7 rfl rfl (if_pos b44) ?_
          have b44 := iv_eq0.mp b44
          refine k_push 8 rfl rfl ?_
          refine k_goto 12 rfl rfl ?_
          refine k_fin rfl (fin_Z (Or.inr rfl)) ⟨_, _, rfl, rf_len hI hI, ?_⟩
          show am_Ok _ _ _ (4, _, [.inl (1 : Int32)], _, 0, 0) _
          refine k_c1 7 rfl rfl (if_neg (by decide)) ?_
          refine k_iload 8 rfl rfl rfl ?_
          refine k_c1 11 rfl rfl (if_pos (by decide)) ?_
          refine k_aload 12 rfl rfl rfl ?_
          refine k_iload 13 rfl rfl rfl ?_
          refine r_pI hI 16 rfl rfl rfl (fun h45 I46 => ?_)
          refine k_aload 17 rfl rfl rfl ?_
          refine k_aload 18 rfl rfl rfl ?_
          refine r_gI I46 21 rfl rfl rfl (fun x47 (e48 : x47.toInt = F0 10) => ?_)
          refine r_pI I46 24 rfl rfl rfl (fun h49 I50 => ?_)
          refine k_aload 25 rfl rfl rfl ?_
          refine k_in (d := 0) rfl rfl rfl rfl I50.rc ?_
          refine k_aload 1 rfl rfl rfl ?_
          refine r_gI I50 4 rfl rfl rfl (fun x51 (e52 : x51.toInt = (1 : Int32).toInt) => ?_)
          by_cases b53 : x51 = 0
          · refine k_c1 7 rfl rfl (if_pos b53) ?_
            have b53 := iv_eq0.mp b53
            refine k_push 8 rfl rfl ?_
            refine k_goto 12 rfl rfl ?_
            refine k_fin rfl (fin_Z (Or.inr rfl)) ⟨_, _, rfl, rf_len I50 I50, ?_⟩
            show am_Ok _ _ _ (28, _, [.inl (1 : Int32)], _, 0, 0) _
            refine k_fin rfl (fin_Z (Or.inr rfl)) ⟨_, _, rfl, rf_len hI I50, ?_⟩
            show am_Ok _ _ _ (10, _, [.inl (1 : Int32)], _, 0, 0) _
            refine k_c1 13 rfl rfl (if_neg (by decide)) ?_
            refine k_aload 14 rfl rfl rfl ?_
            refine k_rv I50 rfl (m_goes  I50.1 (show 0 ≤ (F0 8) ∧ (F0 8) ≤ (F0 7) ∧ (F0 7) ≤ 700 by omega)) rfl rfl rfl I50.rc ?_
            rintro h55 F56 A57 I58 ⟨k60, k61, p59⟩
            replace p59 : ((F0 8) ≤ F56 8 ∧ F56 8 ≤ (F0 7)) ∧ (F56 9 = 0 ∨ (F0 8) < F56 8) ∧ (F56 9 = 2 → 0 ≤ F56 11 ∧ F56 11 ≤ 9) ∧ (0 ≤ F56 9 ∧ F56 9 ≤ 4) := p59
            obtain ⟨p59a, p59b, p59c, p59d⟩ := p59
            have k61 := fr2.nil k61
            subst k61
            show am_Ok _ _ _ (17, _, [], _, 0, 0) _
            have e62 : F56 6 = (1 : Int32).toInt := k60 6 (by decide)
            exact k_fin rfl rfl ⟨_, _, _, rfl, I58, (fr1.tr (by decide) (fr1.up (by decide) (fr1.up (by decide) fr1.rf)) k60), fr2.rf, show (F0 8 ≤ (F56 8) ∧ (F56 8) ≤ F0 7) ∧ ((F56 6) = 0 → F0 6 = 0 ∧ ((F56 9) = 0 ∨ F0 8 < (F56 8))) ∧ ((F56 9) = 2 → 0 ≤ (F56 11) ∧ (F56 11) ≤ 9) ∧ (0 ≤ (F56 9) ∧ (F56 9) ≤ 4) by omega⟩
          · refine k_c1 11 rfl rfl (if_neg b53) ?_
            have b53 := mt iv_eq0.mpr b53
            refine k_push 12 rfl rfl ?_
            refine k_fin rfl (fin_Z (Or.inl rfl)) ⟨_, _, rfl, rf_len I50 I50, ?_⟩
            show am_Ok _ _ _ (28, _, [.inl (0 : Int32)], _, 0, 0) _
            refine k_fin rfl (fin_Z (Or.inl rfl)) ⟨_, _, rfl, rf_len hI I50, ?_⟩
            show am_Ok _ _ _ (10, _, [.inl (0 : Int32)], _, 0, 0) _
            refine k_c1 17 rfl rfl (if_pos (by decide)) ?_
            exact k_fin rfl rfl ⟨_, _, _, rfl, I50, (fr1.up (by decide) (fr1.up (by decide) fr1.rf)), fr2.rf, show (F0 8 ≤ (F0 8) ∧ (F0 8) ≤ F0 7) ∧ (((1 : Int32).toInt) = 0 → F0 6 = 0 ∧ ((F0 9) = 0 ∨ F0 8 < (F0 8))) ∧ ((F0 9) = 2 → 0 ≤ (F0 11) ∧ (F0 11) ≤ 9) ∧ (0 ≤ (F0 9) ∧ (F0 9) ≤ 4) by omega⟩
        · refine k_c1 11 rfl rfl (if_neg b44) ?_
          have b44 := mt iv_eq0.mpr b44
          refine k_push 12 rfl rfl ?_
          refine k_fin rfl (fin_Z (Or.inl rfl)) ⟨_, _, rfl, rf_len hI hI, ?_⟩
          show am_Ok _ _ _ (4, _, [.inl (0 : Int32)], _, 0, 0) _
          refine k_c1 24 rfl rfl (if_pos (by decide)) ?_
          refine k_aload 25 rfl rfl rfl ?_
          refine k_in (d := 0) rfl rfl rfl rfl hI.rc ?_
          refine k_aload 1 rfl rfl rfl ?_
          refine r_gI hI 4 rfl rfl rfl (fun x63 (e64 : x63.toInt = F0 6) => ?_)
          by_cases b65 : x63 = 0
          · refine k_c1 7 rfl rfl (if_pos b65) ?_
            have b65 := iv_eq0.mp b65
            refine k_push 8 rfl rfl ?_
            refine k_goto 12 rfl rfl ?_
            refine k_fin rfl (fin_Z (Or.inr rfl)) ⟨_, _, rfl, rf_len hI hI, ?_⟩
            show am_Ok _ _ _ (28, _, [.inl (1 : Int32)], _, 0, 0) _
            refine k_fin rfl (fin_Z (Or.inr rfl)) ⟨_, _, rfl, rf_len hI hI, ?_⟩
            show am_Ok _ _ _ (10, _, [.inl (1 : Int32)], _, 0, 0) _
            refine k_c1 13 rfl rfl (if_neg (by decide)) ?_
            refine k_aload 14 rfl rfl rfl ?_
            refine k_rv hI rfl (m_goes  hI.1 (show 0 ≤ (F0 8) ∧ (F0 8) ≤ (F0 7) ∧ (F0 7) ≤ 700 by omega)) rfl rfl rfl hI.rc ?_
            rintro h67 F68 A69 I70 ⟨k72, k73, p71⟩
            replace p71 : ((F0 8) ≤ F68 8 ∧ F68 8 ≤ (F0 7)) ∧ (F68 9 = 0 ∨ (F0 8) < F68 8) ∧ (F68 9 = 2 → 0 ≤ F68 11 ∧ F68 11 ≤ 9) ∧ (0 ≤ F68 9 ∧ F68 9 ≤ 4) := p71
            obtain ⟨p71a, p71b, p71c, p71d⟩ := p71
            have k73 := fr2.nil k73
            subst k73
            show am_Ok _ _ _ (17, _, [], _, 0, 0) _
            have e74 : F68 6 = F0 6 := k72 6 (by decide)
            exact k_fin rfl rfl ⟨_, _, _, rfl, I70, (fr1.tr (by decide) fr1.rf k72), fr2.rf, show (F0 8 ≤ (F68 8) ∧ (F68 8) ≤ F0 7) ∧ ((F68 6) = 0 → F0 6 = 0 ∧ ((F68 9) = 0 ∨ F0 8 < (F68 8))) ∧ ((F68 9) = 2 → 0 ≤ (F68 11) ∧ (F68 11) ≤ 9) ∧ (0 ≤ (F68 9) ∧ (F68 9) ≤ 4) by omega⟩
          · refine k_c1 11 rfl rfl (if_neg b65) ?_
            have b65 := mt iv_eq0.mpr b65
            refine k_push 12 rfl rfl ?_
            refine k_fin rfl (fin_Z (Or.inl rfl)) ⟨_, _, rfl, rf_len hI hI, ?_⟩
            show am_Ok _ _ _ (28, _, [.inl (0 : Int32)], _, 0, 0) _
            refine k_fin rfl (fin_Z (Or.inl rfl)) ⟨_, _, rfl, rf_len hI hI, ?_⟩
            show am_Ok _ _ _ (10, _, [.inl (0 : Int32)], _, 0, 0) _
            refine k_c1 17 rfl rfl (if_pos (by decide)) ?_
            exact k_fin rfl rfl ⟨_, _, _, rfl, hI, fr1.rf, fr2.rf, show (F0 8 ≤ (F0 8) ∧ (F0 8) ≤ F0 7) ∧ ((F0 6) = 0 → F0 6 = 0 ∧ ((F0 9) = 0 ∨ F0 8 < (F0 8))) ∧ ((F0 9) = 2 → 0 ≤ (F0 11) ∧ (F0 11) ≤ 9) ∧ (0 ≤ (F0 9) ∧ (F0 9) ≤ 4) by omega⟩
    · refine k_c2 27 rfl rfl (if_neg b8) ?_
      have b8 := mt iv_eq.mpr b8
      refine k_push 28 rfl rfl ?_
      have hc75 : (0 : Int32).toInt = 0 := by decide
      refine k_fin rfl (fin_Z (Or.inl rfl)) ⟨_, _, rfl, rf_len hI hI, ?_⟩
      show am_Ok _ _ _ (6, _, [.inl (0 : Int32), .inr (.inr (some 81))], _, 0, 0) _
      refine k_push 7 rfl rfl ?_
      refine k_in (d := 1) rfl rfl rfl rfl hI.rc ?_
      refine k_aload 1 rfl rfl rfl ?_
      refine k_in (d := 0) rfl rfl rfl rfl hI.rc ?_
      refine k_aload 1 rfl rfl rfl ?_
      refine r_gI hI 4 rfl rfl rfl (fun x76 (e77 : x76.toInt = F0 6) => ?_)
      by_cases b78 : x76 = 0
      · refine k_c1 7 rfl rfl (if_pos b78) ?_
        have b78 := iv_eq0.mp b78
        refine k_push 8 rfl rfl ?_
        refine k_goto 12 rfl rfl ?_
        refine k_fin rfl (fin_Z (Or.inr rfl)) ⟨_, _, rfl, rf_len hI hI, ?_⟩
        show am_Ok _ _ _ (4, _, [.inl (1 : Int32)], _, 0, 0) _
        refine k_c1 7 rfl rfl (if_neg (by decide)) ?_
        refine k_iload 8 rfl rfl rfl ?_
        refine k_c1 11 rfl rfl (if_pos (by decide)) ?_
        refine k_aload 12 rfl rfl rfl ?_
        refine k_iload 13 rfl rfl rfl ?_
        refine r_pI hI 16 rfl rfl rfl (fun h79 I80 => ?_)
        refine k_aload 17 rfl rfl rfl ?_
        refine k_aload 18 rfl rfl rfl ?_
        refine r_gI I80 21 rfl rfl rfl (fun x81 (e82 : x81.toInt = F0 10) => ?_)
        refine r_pI I80 24 rfl rfl rfl (fun h83 I84 => ?_)
        refine k_aload 25 rfl rfl rfl ?_
        refine k_in (d := 0) rfl rfl rfl rfl I84.rc ?_
        refine k_aload 1 rfl rfl rfl ?_
        refine r_gI I84 4 rfl rfl rfl (fun x85 (e86 : x85.toInt = (1 : Int32).toInt) => ?_)
        by_cases b87 : x85 = 0
        · refine k_c1 7 rfl rfl (if_pos b87) ?_
          have b87 := iv_eq0.mp b87
          refine k_push 8 rfl rfl ?_
          refine k_goto 12 rfl rfl ?_
          refine k_fin rfl (fin_Z (Or.inr rfl)) ⟨_, _, rfl, rf_len I84 I84, ?_⟩
          show am_Ok _ _ _ (28, _, [.inl (1 : Int32)], _, 0, 0) _
          refine k_fin rfl (fin_Z (Or.inr rfl)) ⟨_, _, rfl, rf_len hI I84, ?_⟩
          show am_Ok _ _ _ (10, _, [.inl (1 : Int32)], _, 0, 0) _
          refine k_c1 13 rfl rfl (if_neg (by decide)) ?_
          refine k_aload 14 rfl rfl rfl ?_
          refine k_rv I84 rfl (m_goes  I84.1 (show 0 ≤ (F0 8) ∧ (F0 8) ≤ (F0 7) ∧ (F0 7) ≤ 700 by omega)) rfl rfl rfl I84.rc ?_
          rintro h89 F90 A91 I92 ⟨k94, k95, p93⟩
          replace p93 : ((F0 8) ≤ F90 8 ∧ F90 8 ≤ (F0 7)) ∧ (F90 9 = 0 ∨ (F0 8) < F90 8) ∧ (F90 9 = 2 → 0 ≤ F90 11 ∧ F90 11 ≤ 9) ∧ (0 ≤ F90 9 ∧ F90 9 ≤ 4) := p93
          obtain ⟨p93a, p93b, p93c, p93d⟩ := p93
          have k95 := fr2.nil k95
          subst k95
          show am_Ok _ _ _ (17, _, [], _, 0, 0) _
          have e96 : F90 6 = (1 : Int32).toInt := k94 6 (by decide)
          exact k_fin rfl rfl ⟨_, _, _, rfl, I92, (fr1.tr (by decide) (fr1.up (by decide) (fr1.up (by decide) fr1.rf)) k94), fr2.rf, show (F0 8 ≤ (F90 8) ∧ (F90 8) ≤ F0 7) ∧ ((F90 6) = 0 → F0 6 = 0 ∧ ((F90 9) = 0 ∨ F0 8 < (F90 8))) ∧ ((F90 9) = 2 → 0 ≤ (F90 11) ∧ (F90 11) ≤ 9) ∧ (0 ≤ (F90 9) ∧ (F90 9) ≤ 4) by omega⟩
        · refine k_c1 11 rfl rfl (if_neg b87) ?_
          have b87 := mt iv_eq0.mpr b87
          refine k_push 12 rfl rfl ?_
          refine k_fin rfl (fin_Z (Or.inl rfl)) ⟨_, _, rfl, rf_len I84 I84, ?_⟩
          show am_Ok _ _ _ (28, _, [.inl (0 : Int32)], _, 0, 0) _
          refine k_fin rfl (fin_Z (Or.inl rfl)) ⟨_, _, rfl, rf_len hI I84, ?_⟩
          show am_Ok _ _ _ (10, _, [.inl (0 : Int32)], _, 0, 0) _
          refine k_c1 17 rfl rfl (if_pos (by decide)) ?_
          exact k_fin rfl rfl ⟨_, _, _, rfl, I84, (fr1.up (by decide) (fr1.up (by decide) fr1.rf)), fr2.rf, show (F0 8 ≤ (F0 8) ∧ (F0 8) ≤ F0 7) ∧ (((1 : Int32).toInt) = 0 → F0 6 = 0 ∧ ((F0 9) = 0 ∨ F0 8 < (F0 8))) ∧ ((F0 9) = 2 → 0 ≤ (F0 11) ∧ (F0 11) ≤ 9) ∧ (0 ≤ (F0 9) ∧ (F0 9) ≤ 4) by omega⟩
      · refine k_c1 11 rfl rfl (if_neg b78) ?_
        have b78 := mt iv_eq0.mpr b78
        refine k_push 12 rfl rfl ?_
        refine k_fin rfl (fin_Z (Or.inl rfl)) ⟨_, _, rfl, rf_len hI hI, ?_⟩
        show am_Ok _ _ _ (4, _, [.inl (0 : Int32)], _, 0, 0) _
        refine k_c1 24 rfl rfl (if_pos (by decide)) ?_
        refine k_aload 25 rfl rfl rfl ?_
        refine k_in (d := 0) rfl rfl rfl rfl hI.rc ?_
        refine k_aload 1 rfl rfl rfl ?_
        refine r_gI hI 4 rfl rfl rfl (fun x97 (e98 : x97.toInt = F0 6) => ?_)
        by_cases b99 : x97 = 0
        · refine k_c1 7 rfl rfl (if_pos b99) ?_
          have b99 := iv_eq0.mp b99
          refine k_push 8 rfl rfl ?_
          refine k_goto 12 rfl rfl ?_
          refine k_fin rfl (fin_Z (Or.inr rfl)) ⟨_, _, rfl, rf_len hI hI, ?_⟩
          show am_Ok _ _ _ (28, _, [.inl (1 : Int32)], _, 0, 0) _
          refine k_fin rfl (fin_Z (Or.inr rfl)) ⟨_, _, rfl, rf_len hI hI, ?_⟩
          show am_Ok _ _ _ (10, _, [.inl (1 : Int32)], _, 0, 0) _
          refine k_c1 13 rfl rfl (if_neg (by decide)) ?_
          refine k_aload 14 rfl rfl rfl ?_
          refine k_rv hI rfl (m_goes  hI.1 (show 0 ≤ (F0 8) ∧ (F0 8) ≤ (F0 7) ∧ (F0 7) ≤ 700 by omega)) rfl rfl rfl hI.rc ?_
          rintro h101 F102 A103 I104 ⟨k106, k107, p105⟩
          replace p105 : ((F0 8) ≤ F102 8 ∧ F102 8 ≤ (F0 7)) ∧ (F102 9 = 0 ∨ (F0 8) < F102 8) ∧ (F102 9 = 2 → 0 ≤ F102 11 ∧ F102 11 ≤ 9) ∧ (0 ≤ F102 9 ∧ F102 9 ≤ 4) := p105
          obtain ⟨p105a, p105b, p105c, p105d⟩ := p105
          have k107 := fr2.nil k107
          subst k107
          show am_Ok _ _ _ (17, _, [], _, 0, 0) _
          have e108 : F102 6 = F0 6 := k106 6 (by decide)
          exact k_fin rfl rfl ⟨_, _, _, rfl, I104, (fr1.tr (by decide) fr1.rf k106), fr2.rf, show (F0 8 ≤ (F102 8) ∧ (F102 8) ≤ F0 7) ∧ ((F102 6) = 0 → F0 6 = 0 ∧ ((F102 9) = 0 ∨ F0 8 < (F102 8))) ∧ ((F102 9) = 2 → 0 ≤ (F102 11) ∧ (F102 11) ≤ 9) ∧ (0 ≤ (F102 9) ∧ (F102 9) ≤ 4) by omega⟩
        · refine k_c1 11 rfl rfl (if_neg b99) ?_
          have b99 := mt iv_eq0.mpr b99
          refine k_push 12 rfl rfl ?_
          refine k_fin rfl (fin_Z (Or.inl rfl)) ⟨_, _, rfl, rf_len hI hI, ?_⟩
          show am_Ok _ _ _ (28, _, [.inl (0 : Int32)], _, 0, 0) _
          refine k_fin rfl (fin_Z (Or.inl rfl)) ⟨_, _, rfl, rf_len hI hI, ?_⟩
          show am_Ok _ _ _ (10, _, [.inl (0 : Int32)], _, 0, 0) _
          refine k_c1 17 rfl rfl (if_pos (by decide)) ?_
          exact k_fin rfl rfl ⟨_, _, _, rfl, hI, fr1.rf, fr2.rf, show (F0 8 ≤ (F0 8) ∧ (F0 8) ≤ F0 7) ∧ ((F0 6) = 0 → F0 6 = 0 ∧ ((F0 9) = 0 ∨ F0 8 < (F0 8))) ∧ ((F0 9) = 2 → 0 ≤ (F0 11) ∧ (F0 11) ≤ 9) ∧ (0 ≤ (F0 9) ∧ (F0 9) ≤ 4) by omega⟩
  · refine k_c1 11 rfl rfl (if_neg b3) ?_
    have b3 := mt iv_eq0.mpr b3
    refine k_push 12 rfl rfl ?_
    have hc109 : (0 : Int32).toInt = 0 := by decide
    refine k_fin rfl (fin_Z (Or.inl rfl)) ⟨_, _, rfl, rf_len hI hI, ?_⟩
    show am_Ok _ _ _ (4, _, [.inl (0 : Int32)], _, 0, 0) _
    refine k_c1 27 rfl rfl (if_pos (by decide)) ?_
    refine k_push 28 rfl rfl ?_
    refine k_fin rfl (fin_Z (Or.inl rfl)) ⟨_, _, rfl, rf_len hI hI, ?_⟩
    show am_Ok _ _ _ (6, _, [.inl (0 : Int32), .inr (.inr (some 81))], _, 0, 0) _
    refine k_push 7 rfl rfl ?_
    have hc110 : (1 : Int32).toInt = 1 := by decide
    refine k_in (d := 1) rfl rfl rfl rfl hI.rc ?_
    refine k_aload 1 rfl rfl rfl ?_
    refine k_in (d := 0) rfl rfl rfl rfl hI.rc ?_
    refine k_aload 1 rfl rfl rfl ?_
    refine r_gI hI 4 rfl rfl rfl (fun x111 (e112 : x111.toInt = F0 6) => ?_)
    by_cases b113 : x111 = 0
    · refine k_c1 7 rfl rfl (if_pos b113) ?_
      have b113 := iv_eq0.mp b113
      refine k_push 8 rfl rfl ?_
      refine k_goto 12 rfl rfl ?_
      refine k_fin rfl (fin_Z (Or.inr rfl)) ⟨_, _, rfl, rf_len hI hI, ?_⟩
      show am_Ok _ _ _ (4, _, [.inl (1 : Int32)], _, 0, 0) _
      refine k_c1 7 rfl rfl (if_neg (by decide)) ?_
      refine k_iload 8 rfl rfl rfl ?_
      refine k_c1 11 rfl rfl (if_pos (by decide)) ?_
      refine k_aload 12 rfl rfl rfl ?_
      refine k_iload 13 rfl rfl rfl ?_
      refine r_pI hI 16 rfl rfl rfl (fun h114 I115 => ?_)
      refine k_aload 17 rfl rfl rfl ?_
      refine k_aload 18 rfl rfl rfl ?_
      refine r_gI I115 21 rfl rfl rfl (fun x116 (e117 : x116.toInt = F0 10) => ?_)
      refine r_pI I115 24 rfl rfl rfl (fun h118 I119 => ?_)
      refine k_aload 25 rfl rfl rfl ?_
      refine k_in (d := 0) rfl rfl rfl rfl I119.rc ?_
      refine k_aload 1 rfl rfl rfl ?_
      refine r_gI I119 4 rfl rfl rfl (fun x120 (e121 : x120.toInt = (1 : Int32).toInt) => ?_)
      by_cases b122 : x120 = 0
      · refine k_c1 7 rfl rfl (if_pos b122) ?_
        have b122 := iv_eq0.mp b122
        refine k_push 8 rfl rfl ?_
        refine k_goto 12 rfl rfl ?_
        refine k_fin rfl (fin_Z (Or.inr rfl)) ⟨_, _, rfl, rf_len I119 I119, ?_⟩
        show am_Ok _ _ _ (28, _, [.inl (1 : Int32)], _, 0, 0) _
        refine k_fin rfl (fin_Z (Or.inr rfl)) ⟨_, _, rfl, rf_len hI I119, ?_⟩
        show am_Ok _ _ _ (10, _, [.inl (1 : Int32)], _, 0, 0) _
        refine k_c1 13 rfl rfl (if_neg (by decide)) ?_
        refine k_aload 14 rfl rfl rfl ?_
        refine k_rv I119 rfl (m_goes  I119.1 (show 0 ≤ (F0 8) ∧ (F0 8) ≤ (F0 7) ∧ (F0 7) ≤ 700 by omega)) rfl rfl rfl I119.rc ?_
        rintro h124 F125 A126 I127 ⟨k129, k130, p128⟩
        replace p128 : ((F0 8) ≤ F125 8 ∧ F125 8 ≤ (F0 7)) ∧ (F125 9 = 0 ∨ (F0 8) < F125 8) ∧ (F125 9 = 2 → 0 ≤ F125 11 ∧ F125 11 ≤ 9) ∧ (0 ≤ F125 9 ∧ F125 9 ≤ 4) := p128
        obtain ⟨p128a, p128b, p128c, p128d⟩ := p128
        have k130 := fr2.nil k130
        subst k130
        show am_Ok _ _ _ (17, _, [], _, 0, 0) _
        have e131 : F125 6 = (1 : Int32).toInt := k129 6 (by decide)
        exact k_fin rfl rfl ⟨_, _, _, rfl, I127, (fr1.tr (by decide) (fr1.up (by decide) (fr1.up (by decide) fr1.rf)) k129), fr2.rf, show (F0 8 ≤ (F125 8) ∧ (F125 8) ≤ F0 7) ∧ ((F125 6) = 0 → F0 6 = 0 ∧ ((F125 9) = 0 ∨ F0 8 < (F125 8))) ∧ ((F125 9) = 2 → 0 ≤ (F125 11) ∧ (F125 11) ≤ 9) ∧ (0 ≤ (F125 9) ∧ (F125 9) ≤ 4) by omega⟩
      · refine k_c1 11 rfl rfl (if_neg b122) ?_
        have b122 := mt iv_eq0.mpr b122
        refine k_push 12 rfl rfl ?_
        refine k_fin rfl (fin_Z (Or.inl rfl)) ⟨_, _, rfl, rf_len I119 I119, ?_⟩
        show am_Ok _ _ _ (28, _, [.inl (0 : Int32)], _, 0, 0) _
        refine k_fin rfl (fin_Z (Or.inl rfl)) ⟨_, _, rfl, rf_len hI I119, ?_⟩
        show am_Ok _ _ _ (10, _, [.inl (0 : Int32)], _, 0, 0) _
        refine k_c1 17 rfl rfl (if_pos (by decide)) ?_
        exact k_fin rfl rfl ⟨_, _, _, rfl, I119, (fr1.up (by decide) (fr1.up (by decide) fr1.rf)), fr2.rf, show (F0 8 ≤ (F0 8) ∧ (F0 8) ≤ F0 7) ∧ (((1 : Int32).toInt) = 0 → F0 6 = 0 ∧ ((F0 9) = 0 ∨ F0 8 < (F0 8))) ∧ ((F0 9) = 2 → 0 ≤ (F0 11) ∧ (F0 11) ≤ 9) ∧ (0 ≤ (F0 9) ∧ (F0 9) ≤ 4) by omega⟩
    · refine k_c1 11 rfl rfl (if_neg b113) ?_
      have b113 := mt iv_eq0.mpr b113
      refine k_push 12 rfl rfl ?_
      refine k_fin rfl (fin_Z (Or.inl rfl)) ⟨_, _, rfl, rf_len hI hI, ?_⟩
      show am_Ok _ _ _ (4, _, [.inl (0 : Int32)], _, 0, 0) _
      refine k_c1 24 rfl rfl (if_pos (by decide)) ?_
      refine k_aload 25 rfl rfl rfl ?_
      refine k_in (d := 0) rfl rfl rfl rfl hI.rc ?_
      refine k_aload 1 rfl rfl rfl ?_
      refine r_gI hI 4 rfl rfl rfl (fun x132 (e133 : x132.toInt = F0 6) => ?_)
      by_cases b134 : x132 = 0
      · refine k_c1 7 rfl rfl (if_pos b134) ?_
        have b134 := iv_eq0.mp b134
        refine k_push 8 rfl rfl ?_
        refine k_goto 12 rfl rfl ?_
        refine k_fin rfl (fin_Z (Or.inr rfl)) ⟨_, _, rfl, rf_len hI hI, ?_⟩
        show am_Ok _ _ _ (28, _, [.inl (1 : Int32)], _, 0, 0) _
        refine k_fin rfl (fin_Z (Or.inr rfl)) ⟨_, _, rfl, rf_len hI hI, ?_⟩
        show am_Ok _ _ _ (10, _, [.inl (1 : Int32)], _, 0, 0) _
        refine k_c1 13 rfl rfl (if_neg (by decide)) ?_
        refine k_aload 14 rfl rfl rfl ?_
        refine k_rv hI rfl (m_goes  hI.1 (show 0 ≤ (F0 8) ∧ (F0 8) ≤ (F0 7) ∧ (F0 7) ≤ 700 by omega)) rfl rfl rfl hI.rc ?_
        rintro h136 F137 A138 I139 ⟨k141, k142, p140⟩
        replace p140 : ((F0 8) ≤ F137 8 ∧ F137 8 ≤ (F0 7)) ∧ (F137 9 = 0 ∨ (F0 8) < F137 8) ∧ (F137 9 = 2 → 0 ≤ F137 11 ∧ F137 11 ≤ 9) ∧ (0 ≤ F137 9 ∧ F137 9 ≤ 4) := p140
        obtain ⟨p140a, p140b, p140c, p140d⟩ := p140
        have k142 := fr2.nil k142
        subst k142
        show am_Ok _ _ _ (17, _, [], _, 0, 0) _
        have e143 : F137 6 = F0 6 := k141 6 (by decide)
        exact k_fin rfl rfl ⟨_, _, _, rfl, I139, (fr1.tr (by decide) fr1.rf k141), fr2.rf, show (F0 8 ≤ (F137 8) ∧ (F137 8) ≤ F0 7) ∧ ((F137 6) = 0 → F0 6 = 0 ∧ ((F137 9) = 0 ∨ F0 8 < (F137 8))) ∧ ((F137 9) = 2 → 0 ≤ (F137 11) ∧ (F137 11) ≤ 9) ∧ (0 ≤ (F137 9) ∧ (F137 9) ≤ 4) by omega⟩
      · refine k_c1 11 rfl rfl (if_neg b134) ?_
        have b134 := mt iv_eq0.mpr b134
        refine k_push 12 rfl rfl ?_
        refine k_fin rfl (fin_Z (Or.inl rfl)) ⟨_, _, rfl, rf_len hI hI, ?_⟩
        show am_Ok _ _ _ (28, _, [.inl (0 : Int32)], _, 0, 0) _
        refine k_fin rfl (fin_Z (Or.inl rfl)) ⟨_, _, rfl, rf_len hI hI, ?_⟩
        show am_Ok _ _ _ (10, _, [.inl (0 : Int32)], _, 0, 0) _
        refine k_c1 17 rfl rfl (if_pos (by decide)) ?_
        exact k_fin rfl rfl ⟨_, _, _, rfl, hI, fr1.rf, fr2.rf, show (F0 8 ≤ (F0 8) ∧ (F0 8) ≤ F0 7) ∧ ((F0 6) = 0 → F0 6 = 0 ∧ ((F0 9) = 0 ∨ F0 8 < (F0 8))) ∧ ((F0 9) = 2 → 0 ≤ (F0 11) ∧ (F0 11) ≤ 9) ∧ (0 ≤ (F0 9) ∧ (F0 9) ≤ 4) by omega⟩
theorem m_isAtom {h0 : am_h} {F0 : rf_f} {A0 : rf_A}  (hR : rf_R h0 F0 A0)  : am_Mt 3 179 [.inr (.inr (some 81))] h0 (rf_Q h0 (fun x F' A' => fr1 [] F0 F' ∧ fr2 [] A0 A' ∧ (x = 0 ∨ (x = 1 ∧ F0 6 = 0 ∧ (F0 9 = 1 ∨ F0 9 = 2 ∨ F0 9 = 3))))) := by
  refine am_Mt.of (D := 2) ?_
  have hI : rf_I h0 h0 F0 A0 := rf_I.start hR
  refine k_aload 1 rfl rfl rfl ?_
  refine k_in (d := 0) rfl rfl rfl rfl hI.rc ?_
  refine k_aload 1 rfl rfl rfl ?_
  refine r_gI hI 4 rfl rfl rfl (fun x1 (e2 : x1.toInt = F0 6) => ?_)
  by_cases b3 : x1 = 0
  · refine k_c1 7 rfl rfl (if_pos b3) ?_
    have b3 := iv_eq0.mp b3
    refine k_push 8 rfl rfl ?_
    have hc4 : (1 : Int32).toInt = 1 := by decide
    refine k_goto 12 rfl rfl ?_
    refine k_fin rfl (fin_Z (Or.inr rfl)) ⟨_, _, rfl, rf_len hI hI, ?_⟩
    show am_Ok _ _ _ (4, _, [.inl (1 : Int32)], _, 0, 0) _
    refine k_c1 7 rfl rfl (if_neg (by decide)) ?_
    refine k_aload 8 rfl rfl rfl ?_
    refine r_gI hI 11 rfl rfl rfl (fun x5 (e6 : x5.toInt = F0 9) => ?_)
    refine k_push 12 rfl rfl ?_
    by_cases b7 : x5 = (1 : Int32)
    · refine k_c2 32 rfl rfl (if_pos b7) ?_
      have b7 := iv_eq.mp b7
      refine k_push 33 rfl rfl ?_
      refine k_goto 37 rfl rfl ?_
      exact k_fin rfl (fin_Z (Or.inr rfl)) ⟨_, _, _, _, rfl, hI, fr1.rf, fr2.rf, show (1 : Int32).toInt = 0 ∨ ((1 : Int32).toInt = 1 ∧ F0 6 = 0 ∧ (F0 9 = 1 ∨ F0 9 = 2 ∨ F0 9 = 3)) by omega⟩
    · refine k_c2 15 rfl rfl (if_neg b7) ?_
      have b7 := mt iv_eq.mpr b7
      refine k_aload 16 rfl rfl rfl ?_
      refine r_gI hI 19 rfl rfl rfl (fun x8 (e9 : x8.toInt = F0 9) => ?_)
      refine k_push 20 rfl rfl ?_
      have hc10 : (2 : Int32).toInt = 2 := by decide
      by_cases b11 : x8 = (2 : Int32)
      · refine k_c2 32 rfl rfl (if_pos b11) ?_
        have b11 := iv_eq.mp b11
        refine k_push 33 rfl rfl ?_
        refine k_goto 37 rfl rfl ?_
        exact k_fin rfl (fin_Z (Or.inr rfl)) ⟨_, _, _, _, rfl, hI, fr1.rf, fr2.rf, show (1 : Int32).toInt = 0 ∨ ((1 : Int32).toInt = 1 ∧ F0 6 = 0 ∧ (F0 9 = 1 ∨ F0 9 = 2 ∨ F0 9 = 3)) by omega⟩
      · refine k_c2 23 rfl rfl (if_neg b11) ?_
        have b11 := mt iv_eq.mpr b11
        refine k_aload 24 rfl rfl rfl ?_
        refine k_push 26 rfl rfl ?_
        have hc12 : (40 : Int32).toInt = 40 := by decide
        refine k_in (d := 1) rfl rfl rfl rfl hI.rc ?_
        refine k_aload 1 rfl rfl rfl ?_
        refine k_in (d := 0) rfl rfl rfl rfl hI.rc ?_
        refine k_aload 1 rfl rfl rfl ?_
        refine r_gI hI 4 rfl rfl rfl (fun x13 (e14 : x13.toInt = F0 6) => ?_)
        by_cases b15 : x13 = 0
        · refine k_c1 7 rfl rfl (if_pos b15) ?_
          have b15 := iv_eq0.mp b15
          refine k_push 8 rfl rfl ?_
          refine k_goto 12 rfl rfl ?_
          refine k_fin rfl (fin_Z (Or.inr rfl)) ⟨_, _, rfl, rf_len hI hI, ?_⟩
          show am_Ok _ _ _ (4, _, [.inl (1 : Int32)], _, 0, 0) _
          refine k_c1 7 rfl rfl (if_neg (by decide)) ?_
          refine k_aload 8 rfl rfl rfl ?_
          refine r_gI hI 11 rfl rfl rfl (fun x16 (e17 : x16.toInt = F0 9) => ?_)
          refine k_push 12 rfl rfl ?_
          have hc18 : (3 : Int32).toInt = 3 := by decide
          by_cases b19 : x16 = (3 : Int32)
          · refine k_c2 15 rfl rfl (if_pos b19) ?_
            have b19 := iv_eq.mp b19
            refine k_aload 16 rfl rfl rfl ?_
            refine r_gI hI 19 rfl rfl rfl (fun x20 (e21 : x20.toInt = F0 11) => ?_)
            refine k_iload 20 rfl rfl rfl ?_
            by_cases b22 : x20 = (40 : Int32)
            · refine k_c2 23 rfl rfl (if_pos b22) ?_
              have b22 := iv_eq.mp b22
              refine k_push 24 rfl rfl ?_
              refine k_goto 28 rfl rfl ?_
              refine k_fin rfl (fin_Z (Or.inr rfl)) ⟨_, _, rfl, rf_len hI hI, ?_⟩
              show am_Ok _ _ _ (29, _, [.inl (1 : Int32)], _, 0, 0) _
              refine k_c1 32 rfl rfl (if_neg (by decide)) ?_
              refine k_push 33 rfl rfl ?_
              refine k_goto 37 rfl rfl ?_
              exact k_fin rfl (fin_Z (Or.inr rfl)) ⟨_, _, _, _, rfl, hI, fr1.rf, fr2.rf, show (1 : Int32).toInt = 0 ∨ ((1 : Int32).toInt = 1 ∧ F0 6 = 0 ∧ (F0 9 = 1 ∨ F0 9 = 2 ∨ F0 9 = 3)) by omega⟩
            · refine k_c2 27 rfl rfl (if_neg b22) ?_
              have b22 := mt iv_eq.mpr b22
              refine k_push 28 rfl rfl ?_
              have hc23 : (0 : Int32).toInt = 0 := by decide
              refine k_fin rfl (fin_Z (Or.inl rfl)) ⟨_, _, rfl, rf_len hI hI, ?_⟩
              show am_Ok _ _ _ (29, _, [.inl (0 : Int32)], _, 0, 0) _
              refine k_c1 36 rfl rfl (if_pos (by decide)) ?_
              refine k_push 37 rfl rfl ?_
              exact k_fin rfl (fin_Z (Or.inl rfl)) ⟨_, _, _, _, rfl, hI, fr1.rf, fr2.rf, show (0 : Int32).toInt = 0 ∨ ((0 : Int32).toInt = 1 ∧ F0 6 = 0 ∧ (F0 9 = 1 ∨ F0 9 = 2 ∨ F0 9 = 3)) by omega⟩
          · refine k_c2 27 rfl rfl (if_neg b19) ?_
            have b19 := mt iv_eq.mpr b19
            refine k_push 28 rfl rfl ?_
            have hc24 : (0 : Int32).toInt = 0 := by decide
            refine k_fin rfl (fin_Z (Or.inl rfl)) ⟨_, _, rfl, rf_len hI hI, ?_⟩
            show am_Ok _ _ _ (29, _, [.inl (0 : Int32)], _, 0, 0) _
            refine k_c1 36 rfl rfl (if_pos (by decide)) ?_
            refine k_push 37 rfl rfl ?_
            exact k_fin rfl (fin_Z (Or.inl rfl)) ⟨_, _, _, _, rfl, hI, fr1.rf, fr2.rf, show (0 : Int32).toInt = 0 ∨ ((0 : Int32).toInt = 1 ∧ F0 6 = 0 ∧ (F0 9 = 1 ∨ F0 9 = 2 ∨ F0 9 = 3)) by omega⟩
        · refine k_c1 11 rfl rfl (if_neg b15) ?_
          have b15 := mt iv_eq0.mpr b15
          refine k_push 12 rfl rfl ?_
          have hc25 : (0 : Int32).toInt = 0 := by decide
          refine k_fin rfl (fin_Z (Or.inl rfl)) ⟨_, _, rfl, rf_len hI hI, ?_⟩
          show am_Ok _ _ _ (4, _, [.inl (0 : Int32)], _, 0, 0) _
          refine k_c1 27 rfl rfl (if_pos (by decide)) ?_
          refine k_push 28 rfl rfl ?_
          refine k_fin rfl (fin_Z (Or.inl rfl)) ⟨_, _, rfl, rf_len hI hI, ?_⟩
          show am_Ok _ _ _ (29, _, [.inl (0 : Int32)], _, 0, 0) _
          refine k_c1 36 rfl rfl (if_pos (by decide)) ?_
          refine k_push 37 rfl rfl ?_
          exact k_fin rfl (fin_Z (Or.inl rfl)) ⟨_, _, _, _, rfl, hI, fr1.rf, fr2.rf, show (0 : Int32).toInt = 0 ∨ ((0 : Int32).toInt = 1 ∧ F0 6 = 0 ∧ (F0 9 = 1 ∨ F0 9 = 2 ∨ F0 9 = 3)) by omega⟩
  · refine k_c1 11 rfl rfl (if_neg b3) ?_
    have b3 := mt iv_eq0.mpr b3
    refine k_push 12 rfl rfl ?_
    have hc26 : (0 : Int32).toInt = 0 := by decide
    refine k_fin rfl (fin_Z (Or.inl rfl)) ⟨_, _, rfl, rf_len hI hI, ?_⟩
    show am_Ok _ _ _ (4, _, [.inl (0 : Int32)], _, 0, 0) _
    refine k_c1 36 rfl rfl (if_pos (by decide)) ?_
    refine k_push 37 rfl rfl ?_
    exact k_fin rfl (fin_Z (Or.inl rfl)) ⟨_, _, _, _, rfl, hI, fr1.rf, fr2.rf, show (0 : Int32).toInt = 0 ∨ ((0 : Int32).toInt = 1 ∧ F0 6 = 0 ∧ (F0 9 = 1 ∨ F0 9 = 2 ∨ F0 9 = 3)) by omega⟩
theorem b_X10_readsName_25 {h0 : am_h} {F0 : rf_f} {A0 : rf_A}  (p1 : 0 ≤ F0 8 ∧ F0 8 ≤ F0 7 ∧ F0 7 ≤ 700 ∧ 0 ≤ F0 20 ∧ F0 20 ≤ 30 ∧ 0 ≤ F0 21 ∧ F0 21 ≤ 12 ∧ 0 ≤ F0 18 ∧ F0 18 ≤ 12 ∧ 0 ≤ F0 23 ∧ F0 23 ≤ 1000000 ∧ (F0 9 = 2 → 0 ≤ F0 11 ∧ F0 11 ≤ 9) ∧ 0 ≤ F0 9 ∧ F0 9 ≤ 4) (p2 : nm (A0 16) (A0 17) (F0 18)) : ∀ (n : Nat) {lv : am_l} {h : am_h} {F : rf_f} {A : rf_A} {v1 : Int32}, ((30 - v1.toInt).toNat) = n → am_get lv 0 = some (.inr (.inr (some 81))) → am_get lv 1 = some (.inl v1) → rf_I h0 h F A → fr1 [8, 10, 9, 14, 11, 12, 6, 5, 23] F0 F → fr2 [22] A0 A → (0 ≤ v1.toInt ∧ v1.toInt ≤ F0 20) → (F = F0 ∧ A = A0) → (F0 6 = 0) → am_Ok am_G 3 177 (25, lv, [], h, 0, 0) (rf_V h0 (fun F' A' => fr1 [8, 10, 9, 14, 11, 12, 6, 5, 23] F0 F' ∧ fr2 [22] A0 A' ∧ ((F0 8 ≤ F' 8 ∧ F' 8 ≤ F0 7 ∧ F0 20 ≤ F' 20 ∧ F' 20 ≤ 30 ∧ F' 21 = F0 21 ∧ F0 23 ≤ F' 23 ∧ F' 23 ≤ 1000000 ∧ (F' 9 = 2 → 0 ≤ F' 11 ∧ F' 11 ≤ 9) ∧ 0 ≤ F' 9 ∧ F' 9 ≤ 4) ∧ (F' 6 = 0 → F' 20 = F0 20 ∧ F0 6 = 0 ∧ (F' 9 = 0 ∨ F0 8 < F' 8)) ∧ (F' 6 = 0 → F' 23 ≤ 124 → rd1 (A' 22) (A0 22) (F0 23) (F' 23) (F0 20))))) := by
  intro n
  induction n using Nat.strongRecOn with
  | ind n ih =>
    intro lv h F A v1 hn g0 g1 hI hF hA i1 i2 i3
    have hf6 : F 6 = F0 6 := by rw [i2.1]
    have hf8 : F 8 = F0 8 := by rw [i2.1]
    have hf9 : F 9 = F0 9 := by rw [i2.1]
    have hf11 : F 11 = F0 11 := by rw [i2.1]
    have hf23 : F 23 = F0 23 := by rw [i2.1]
    have hA22 : A 22 = A0 22 := by rw [i2.2]
    refine k_iload 26 rfl g1 rfl ?_
    refine k_aload 27 rfl g0 rfl ?_
    refine r_gI hI 30 rfl rfl rfl (fun x1 (e2 : x1.toInt = F 20) => ?_)
    have e3 : F 20 = F0 20 := hF 20 (by decide)
    by_cases b4 : x1 ≤ v1
    · refine k_c2 60 rfl rfl (if_pos b4) ?_
      have b4 := iv_le.mp b4
      refine k_iload 61 rfl g1 rfl ?_
      refine k_aload 62 rfl g0 rfl ?_
      refine r_gI hI 65 rfl rfl rfl (fun x5 (e6 : x5.toInt = F 20) => ?_)
      by_cases b7 : x5 ≤ v1
      · refine k_c2 80 rfl rfl (if_pos b7) ?_
        have b7 := iv_le.mp b7
        refine k_aload 81 rfl g0 rfl ?_
        refine k_aload 82 rfl g0 rfl ?_
        refine r_gJ hI 85 rfl rfl rfl (fun y8 => ?_)
        have e9 : F 18 = F0 18 := hF 18 (by decide)
        refine k_rq hI rfl (m_nameOf  hI.1 (show 0 ≤ (F 18) ∧ (F 18) ≤ 12 by omega)) rfl rfl rfl hI.rc ?_
        rintro x10 h11 F12 A13 I14 ⟨k16, k17, p15⟩
        replace p15 : x10.toInt = -1 ∨ (0 ≤ x10.toInt ∧ x10.toInt < (F 18)) := p15
        have k16 := fr1.nil k16
        subst k16
        have k17 := fr2.nil k17
        subst k17
        show am_Ok _ _ _ (88, _, [.inl x10], _, 0, 0) _
        refine k_istore 89 rfl rfl ?_
        refine k_aload 90 rfl (gs_ne rfl rfl g0) rfl ?_
        refine k_iload 91 rfl gs_eq rfl ?_
        refine k_push 92 rfl rfl ?_
        have hc18 : (-1 : Int32).toInt = -1 := by decide
        by_cases b19 : x10 = (-1 : Int32)
        · refine k_c2 99 rfl rfl (if_pos b19) ?_
          have b19 := iv_eq.mp b19
          refine k_push 100 rfl rfl ?_
          have hc20 : (0 : Int32).toInt = 0 := by decide
          refine k_push 101 rfl rfl ?_
          have hc21 : (3 : Int32).toInt = 3 := by decide
          refine k_in (d := 1) rfl rfl rfl rfl I14.rc ?_
          refine k_aload 1 rfl rfl rfl ?_
          refine k_in (d := 0) rfl rfl rfl rfl I14.rc ?_
          refine k_aload 1 rfl rfl rfl ?_
          refine r_gI I14 4 rfl rfl rfl (fun x22 (e23 : x22.toInt = F 6) => ?_)
          by_cases b24 : x22 = 0
          · refine k_c1 7 rfl rfl (if_pos b24) ?_
            have b24 := iv_eq0.mp b24
            refine k_push 8 rfl rfl ?_
            have hc25 : (1 : Int32).toInt = 1 := by decide
            refine k_goto 12 rfl rfl ?_
            refine k_fin rfl (fin_Z (Or.inr rfl)) ⟨_, _, rfl, rf_len I14 I14, ?_⟩
            show am_Ok _ _ _ (4, _, [.inl (1 : Int32)], _, 0, 0) _
            refine k_c1 7 rfl rfl (if_neg (by decide)) ?_
            refine k_iload 8 rfl rfl rfl ?_
            refine k_c1 11 rfl rfl (if_pos (by decide)) ?_
            refine k_aload 12 rfl rfl rfl ?_
            refine k_iload 13 rfl rfl rfl ?_
            refine r_pI I14 16 rfl rfl rfl (fun h26 I27 => ?_)
            refine k_aload 17 rfl rfl rfl ?_
            refine k_aload 18 rfl rfl rfl ?_
            refine r_gI I27 21 rfl rfl rfl (fun x28 (e29 : x28.toInt = F 10) => ?_)
            refine r_pI I27 24 rfl rfl rfl (fun h30 I31 => ?_)
            refine k_aload 25 rfl rfl rfl ?_
            refine k_in (d := 0) rfl rfl rfl rfl I31.rc ?_
            refine k_aload 1 rfl rfl rfl ?_
            refine r_gI I31 4 rfl rfl rfl (fun x32 (e33 : x32.toInt = (3 : Int32).toInt) => ?_)
            by_cases b34 : x32 = 0
            · refine k_c1 7 rfl rfl (if_pos b34) ?_
              have b34 := iv_eq0.mp b34
              refine k_push 8 rfl rfl ?_
              refine k_goto 12 rfl rfl ?_
              refine k_fin rfl (fin_Z (Or.inr rfl)) ⟨_, _, rfl, rf_len I31 I31, ?_⟩
              show am_Ok _ _ _ (28, _, [.inl (1 : Int32)], _, 0, 0) _
              refine k_fin rfl (fin_Z (Or.inr rfl)) ⟨_, _, rfl, rf_len I14 I31, ?_⟩
              show am_Ok _ _ _ (104, _, [.inl (1 : Int32)], _, 0, 0) _
              refine k_c1 107 rfl rfl (if_neg (by decide)) ?_
              obtain ⟨n91, n92, n93⟩ := p2 x10.toInt (by omega) (by omega)
              refine k_aload 108 rfl (gs_ne rfl rfl g0) rfl ?_
              refine k_iload 109 rfl gs_eq rfl ?_
              refine k_rv I31 rfl (m_putsIn  I31.1 (show 0 ≤ (F 23) ∧ (F 23) ≤ 1000000 by omega) (show 0 ≤ x10.toInt ∧ x10.toInt < 12 ∧ 0 ≤ (A 17) x10.toInt ∧ (A 17) x10.toInt ≤ 1000000 by rw [(hA 17 (by decide))]; omega)) rfl rfl rfl I31.rc ?_
              rintro h36 F37 A38 I39 ⟨k41, k42, p40⟩
              replace p40 : ((F 23) ≤ F37 23 ∧ F37 23 ≤ 1000000) ∧ (F37 23 ≤ 124 → F37 23 = (F 23) + (A 17) x10.toInt) ∧ (F37 23 ≤ 124 → (∀ k : Int, 0 ≤ k → k < (A 17) x10.toInt → A38 22 ((F 23) + k) = (A 16) (124 * x10.toInt + k)) ∧ ∀ q : Int, q < (F 23) → A38 22 q = (A 22) q) := p40
              obtain ⟨p40a, p40b, p40c⟩ := p40
              show am_Ok _ _ _ (112, _, [], _, 0, 0) _
              refine k_aload 113 rfl (gs_ne rfl rfl g0) rfl ?_
              have e43 : F37 8 = F 8 := k41 8 (by decide)
              have e44 : F37 7 = F 7 := k41 7 (by decide)
              have e45 : F 7 = F0 7 := hF 7 (by decide)
              refine k_rv I39 rfl (m_goes  I39.1 (show 0 ≤ (F37 8) ∧ (F37 8) ≤ (F37 7) ∧ (F37 7) ≤ 700 by omega)) rfl rfl rfl I39.rc ?_
              rintro h47 F48 A49 I50 ⟨k52, k53, p51⟩
              replace p51 : ((F37 8) ≤ F48 8 ∧ F48 8 ≤ (F37 7)) ∧ (F48 9 = 0 ∨ (F37 8) < F48 8) ∧ (F48 9 = 2 → 0 ≤ F48 11 ∧ F48 11 ≤ 9) ∧ (0 ≤ F48 9 ∧ F48 9 ≤ 4) := p51
              obtain ⟨p51a, p51b, p51c, p51d⟩ := p51
              have k53 := fr2.nil k53
              subst k53
              show am_Ok _ _ _ (116, _, [], _, 0, 0) _
              have e54 : F48 20 = F37 20 := k52 20 (by decide)
              have e55 : F37 20 = F 20 := k41 20 (by decide)
              have e56 : F48 21 = F37 21 := k52 21 (by decide)
              have e57 : F37 21 = F 21 := k41 21 (by decide)
              have e58 : F 21 = F0 21 := hF 21 (by decide)
              have e59 : F48 23 = F37 23 := k52 23 (by decide)
              have e60 : F48 6 = F37 6 := k52 6 (by decide)
              have e61 : F37 6 = (3 : Int32).toInt := k41 6 (by decide)
              exact k_fin rfl rfl ⟨_, _, _, rfl, I50, (fr1.tr (by decide) (fr1.tr (by decide) (fr1.up (by decide) (fr1.up (by decide) hF)) k41) k52), (fr2.tr (by decide) hA k42), ⟨(show (F0 8 ≤ F48 8 ∧ F48 8 ≤ F0 7 ∧ F0 20 ≤ F48 20 ∧ F48 20 ≤ 30 ∧ F48 21 = F0 21 ∧ F0 23 ≤ F48 23 ∧ F48 23 ≤ 1000000 ∧ (F48 9 = 2 → 0 ≤ F48 11 ∧ F48 11 ≤ 9) ∧ 0 ≤ F48 9 ∧ F48 9 ≤ 4) by omega), (show (F48 6 = 0 → F48 20 = F0 20 ∧ F0 6 = 0 ∧ (F48 9 = 0 ∨ F0 8 < F48 8)) by omega), fun z1 z2 => by have z9 : F48 23 ≤ 124 := z2; have h9 := p40c (by omega); exact rd_put (m := A0 17 x10.toInt) (P := A0 16) (s := 124 * x10.toInt) (show F48 23 = F0 23 + A0 17 x10.toInt by have h8 := p40b (by omega); rw [hA 17 (by decide)] at h8; omega) n91 (n93 (by have h8 := p40b (by omega); rw [hA 17 (by decide)] at h8; omega)) (fun k k1 k2 => by rw [← hf23, ← hA 16 (by decide)]; exact h9.1 k k1 (by rw [hA 17 (by decide)]; exact k2)) (fun q hq => (h9.2 q (by omega)).trans (congrFun hA22 q)) (by omega)⟩⟩
            · refine k_c1 11 rfl rfl (if_neg b34) ?_
              have b34 := mt iv_eq0.mpr b34
              refine k_push 12 rfl rfl ?_
              refine k_fin rfl (fin_Z (Or.inl rfl)) ⟨_, _, rfl, rf_len I31 I31, ?_⟩
              show am_Ok _ _ _ (28, _, [.inl (0 : Int32)], _, 0, 0) _
              refine k_fin rfl (fin_Z (Or.inl rfl)) ⟨_, _, rfl, rf_len I14 I31, ?_⟩
              show am_Ok _ _ _ (104, _, [.inl (0 : Int32)], _, 0, 0) _
              refine k_c1 116 rfl rfl (if_pos (by decide)) ?_
              have e62 : F 21 = F0 21 := hF 21 (by decide)
              exact k_fin rfl rfl ⟨_, _, _, rfl, I31, (fr1.up (by decide) (fr1.up (by decide) hF)), hA, ⟨(show (F0 8 ≤ F 8 ∧ F 8 ≤ F0 7 ∧ F0 20 ≤ F 20 ∧ F 20 ≤ 30 ∧ F 21 = F0 21 ∧ F0 23 ≤ F 23 ∧ F 23 ≤ 1000000 ∧ (F 9 = 2 → 0 ≤ F 11 ∧ F 11 ≤ 9) ∧ 0 ≤ F 9 ∧ F 9 ≤ 4) by omega), (show ((3 : Int32).toInt = 0 → F 20 = F0 20 ∧ F0 6 = 0 ∧ (F 9 = 0 ∨ F0 8 < F 8)) by omega), fun z => absurd (show (3 : Int32).toInt = 0 from z) (by omega)⟩⟩
          · refine k_c1 11 rfl rfl (if_neg b24) ?_
            have b24 := mt iv_eq0.mpr b24
            refine k_push 12 rfl rfl ?_
            refine k_fin rfl (fin_Z (Or.inl rfl)) ⟨_, _, rfl, rf_len I14 I14, ?_⟩
            show am_Ok _ _ _ (4, _, [.inl (0 : Int32)], _, 0, 0) _
            refine k_c1 24 rfl rfl (if_pos (by decide)) ?_
            refine k_aload 25 rfl rfl rfl ?_
            refine k_in (d := 0) rfl rfl rfl rfl I14.rc ?_
            refine k_aload 1 rfl rfl rfl ?_
            refine r_gI I14 4 rfl rfl rfl (fun x63 (e64 : x63.toInt = F 6) => ?_)
            by_cases b65 : x63 = 0
            · refine k_c1 7 rfl rfl (if_pos b65) ?_
              have b65 := iv_eq0.mp b65
              refine k_push 8 rfl rfl ?_
              have hc66 : (1 : Int32).toInt = 1 := by decide
              refine k_goto 12 rfl rfl ?_
              refine k_fin rfl (fin_Z (Or.inr rfl)) ⟨_, _, rfl, rf_len I14 I14, ?_⟩
              show am_Ok _ _ _ (28, _, [.inl (1 : Int32)], _, 0, 0) _
              refine k_fin rfl (fin_Z (Or.inr rfl)) ⟨_, _, rfl, rf_len I14 I14, ?_⟩
              show am_Ok _ _ _ (104, _, [.inl (1 : Int32)], _, 0, 0) _
              refine k_c1 107 rfl rfl (if_neg (by decide)) ?_
              obtain ⟨n91, n92, n93⟩ := p2 x10.toInt (by omega) (by omega)
              refine k_aload 108 rfl (gs_ne rfl rfl g0) rfl ?_
              refine k_iload 109 rfl gs_eq rfl ?_
              refine k_rv I14 rfl (m_putsIn  I14.1 (show 0 ≤ (F 23) ∧ (F 23) ≤ 1000000 by omega) (show 0 ≤ x10.toInt ∧ x10.toInt < 12 ∧ 0 ≤ (A 17) x10.toInt ∧ (A 17) x10.toInt ≤ 1000000 by rw [(hA 17 (by decide))]; omega)) rfl rfl rfl I14.rc ?_
              rintro h68 F69 A70 I71 ⟨k73, k74, p72⟩
              replace p72 : ((F 23) ≤ F69 23 ∧ F69 23 ≤ 1000000) ∧ (F69 23 ≤ 124 → F69 23 = (F 23) + (A 17) x10.toInt) ∧ (F69 23 ≤ 124 → (∀ k : Int, 0 ≤ k → k < (A 17) x10.toInt → A70 22 ((F 23) + k) = (A 16) (124 * x10.toInt + k)) ∧ ∀ q : Int, q < (F 23) → A70 22 q = (A 22) q) := p72
              obtain ⟨p72a, p72b, p72c⟩ := p72
              show am_Ok _ _ _ (112, _, [], _, 0, 0) _
              refine k_aload 113 rfl (gs_ne rfl rfl g0) rfl ?_
              have e75 : F69 8 = F 8 := k73 8 (by decide)
              have e76 : F69 7 = F 7 := k73 7 (by decide)
              have e77 : F 7 = F0 7 := hF 7 (by decide)
              refine k_rv I71 rfl (m_goes  I71.1 (show 0 ≤ (F69 8) ∧ (F69 8) ≤ (F69 7) ∧ (F69 7) ≤ 700 by omega)) rfl rfl rfl I71.rc ?_
              rintro h79 F80 A81 I82 ⟨k84, k85, p83⟩
              replace p83 : ((F69 8) ≤ F80 8 ∧ F80 8 ≤ (F69 7)) ∧ (F80 9 = 0 ∨ (F69 8) < F80 8) ∧ (F80 9 = 2 → 0 ≤ F80 11 ∧ F80 11 ≤ 9) ∧ (0 ≤ F80 9 ∧ F80 9 ≤ 4) := p83
              obtain ⟨p83a, p83b, p83c, p83d⟩ := p83
              have k85 := fr2.nil k85
              subst k85
              show am_Ok _ _ _ (116, _, [], _, 0, 0) _
              have e86 : F80 20 = F69 20 := k84 20 (by decide)
              have e87 : F69 20 = F 20 := k73 20 (by decide)
              have e88 : F80 21 = F69 21 := k84 21 (by decide)
              have e89 : F69 21 = F 21 := k73 21 (by decide)
              have e90 : F 21 = F0 21 := hF 21 (by decide)
              have e91 : F80 23 = F69 23 := k84 23 (by decide)
              have e92 : F80 6 = F69 6 := k84 6 (by decide)
              have e93 : F69 6 = F 6 := k73 6 (by decide)
              exact k_fin rfl rfl ⟨_, _, _, rfl, I82, (fr1.tr (by decide) (fr1.tr (by decide) hF k73) k84), (fr2.tr (by decide) hA k74), ⟨(show (F0 8 ≤ F80 8 ∧ F80 8 ≤ F0 7 ∧ F0 20 ≤ F80 20 ∧ F80 20 ≤ 30 ∧ F80 21 = F0 21 ∧ F0 23 ≤ F80 23 ∧ F80 23 ≤ 1000000 ∧ (F80 9 = 2 → 0 ≤ F80 11 ∧ F80 11 ≤ 9) ∧ 0 ≤ F80 9 ∧ F80 9 ≤ 4) by omega), (show (F80 6 = 0 → F80 20 = F0 20 ∧ F0 6 = 0 ∧ (F80 9 = 0 ∨ F0 8 < F80 8)) by omega), fun z1 z2 => by have z9 : F80 23 ≤ 124 := z2; have h9 := p72c (by omega); exact rd_put (m := A0 17 x10.toInt) (P := A0 16) (s := 124 * x10.toInt) (show F80 23 = F0 23 + A0 17 x10.toInt by have h8 := p72b (by omega); rw [hA 17 (by decide)] at h8; omega) n91 (n93 (by have h8 := p72b (by omega); rw [hA 17 (by decide)] at h8; omega)) (fun k k1 k2 => by rw [← hf23, ← hA 16 (by decide)]; exact h9.1 k k1 (by rw [hA 17 (by decide)]; exact k2)) (fun q hq => (h9.2 q (by omega)).trans (congrFun hA22 q)) (by omega)⟩⟩
            · refine k_c1 11 rfl rfl (if_neg b65) ?_
              have b65 := mt iv_eq0.mpr b65
              refine k_push 12 rfl rfl ?_
              refine k_fin rfl (fin_Z (Or.inl rfl)) ⟨_, _, rfl, rf_len I14 I14, ?_⟩
              show am_Ok _ _ _ (28, _, [.inl (0 : Int32)], _, 0, 0) _
              refine k_fin rfl (fin_Z (Or.inl rfl)) ⟨_, _, rfl, rf_len I14 I14, ?_⟩
              show am_Ok _ _ _ (104, _, [.inl (0 : Int32)], _, 0, 0) _
              refine k_c1 116 rfl rfl (if_pos (by decide)) ?_
              have e94 : F 21 = F0 21 := hF 21 (by decide)
              exact k_fin rfl rfl ⟨_, _, _, rfl, I14, hF, hA, ⟨(show (F0 8 ≤ F 8 ∧ F 8 ≤ F0 7 ∧ F0 20 ≤ F 20 ∧ F 20 ≤ 30 ∧ F 21 = F0 21 ∧ F0 23 ≤ F 23 ∧ F 23 ≤ 1000000 ∧ (F 9 = 2 → 0 ≤ F 11 ∧ F 11 ≤ 9) ∧ 0 ≤ F 9 ∧ F 9 ≤ 4) by omega), (show (F 6 = 0 → F 20 = F0 20 ∧ F0 6 = 0 ∧ (F 9 = 0 ∨ F0 8 < F 8)) by omega), fun z => absurd (show F 6 = 0 from z) (by omega)⟩⟩
        · refine k_c2 95 rfl rfl (if_neg b19) ?_
          have b19 := mt iv_eq.mpr b19
          refine k_push 96 rfl rfl ?_
          have hc95 : (1 : Int32).toInt = 1 := by decide
          refine k_goto 100 rfl rfl ?_
          refine k_push 101 rfl rfl ?_
          have hc96 : (3 : Int32).toInt = 3 := by decide
          refine k_in (d := 1) rfl rfl rfl rfl I14.rc ?_
          refine k_aload 1 rfl rfl rfl ?_
          refine k_in (d := 0) rfl rfl rfl rfl I14.rc ?_
          refine k_aload 1 rfl rfl rfl ?_
          refine r_gI I14 4 rfl rfl rfl (fun x97 (e98 : x97.toInt = F 6) => ?_)
          by_cases b99 : x97 = 0
          · refine k_c1 7 rfl rfl (if_pos b99) ?_
            have b99 := iv_eq0.mp b99
            refine k_push 8 rfl rfl ?_
            refine k_goto 12 rfl rfl ?_
            refine k_fin rfl (fin_Z (Or.inr rfl)) ⟨_, _, rfl, rf_len I14 I14, ?_⟩
            show am_Ok _ _ _ (4, _, [.inl (1 : Int32)], _, 0, 0) _
            refine k_c1 7 rfl rfl (if_neg (by decide)) ?_
            refine k_iload 8 rfl rfl rfl ?_
            refine k_c1 24 rfl rfl (if_neg (by decide)) ?_
            refine k_aload 25 rfl rfl rfl ?_
            refine k_in (d := 0) rfl rfl rfl rfl I14.rc ?_
            refine k_aload 1 rfl rfl rfl ?_
            refine r_gI I14 4 rfl rfl rfl (fun x100 (e101 : x100.toInt = F 6) => ?_)
            by_cases b102 : x100 = 0
            · refine k_c1 7 rfl rfl (if_pos b102) ?_
              have b102 := iv_eq0.mp b102
              refine k_push 8 rfl rfl ?_
              refine k_goto 12 rfl rfl ?_
              refine k_fin rfl (fin_Z (Or.inr rfl)) ⟨_, _, rfl, rf_len I14 I14, ?_⟩
              show am_Ok _ _ _ (28, _, [.inl (1 : Int32)], _, 0, 0) _
              refine k_fin rfl (fin_Z (Or.inr rfl)) ⟨_, _, rfl, rf_len I14 I14, ?_⟩
              show am_Ok _ _ _ (104, _, [.inl (1 : Int32)], _, 0, 0) _
              refine k_c1 107 rfl rfl (if_neg (by decide)) ?_
              obtain ⟨n91, n92, n93⟩ := p2 x10.toInt (by omega) (by omega)
              refine k_aload 108 rfl (gs_ne rfl rfl g0) rfl ?_
              refine k_iload 109 rfl gs_eq rfl ?_
              refine k_rv I14 rfl (m_putsIn  I14.1 (show 0 ≤ (F 23) ∧ (F 23) ≤ 1000000 by omega) (show 0 ≤ x10.toInt ∧ x10.toInt < 12 ∧ 0 ≤ (A 17) x10.toInt ∧ (A 17) x10.toInt ≤ 1000000 by rw [(hA 17 (by decide))]; omega)) rfl rfl rfl I14.rc ?_
              rintro h104 F105 A106 I107 ⟨k109, k110, p108⟩
              replace p108 : ((F 23) ≤ F105 23 ∧ F105 23 ≤ 1000000) ∧ (F105 23 ≤ 124 → F105 23 = (F 23) + (A 17) x10.toInt) ∧ (F105 23 ≤ 124 → (∀ k : Int, 0 ≤ k → k < (A 17) x10.toInt → A106 22 ((F 23) + k) = (A 16) (124 * x10.toInt + k)) ∧ ∀ q : Int, q < (F 23) → A106 22 q = (A 22) q) := p108
              obtain ⟨p108a, p108b, p108c⟩ := p108
              show am_Ok _ _ _ (112, _, [], _, 0, 0) _
              refine k_aload 113 rfl (gs_ne rfl rfl g0) rfl ?_
              have e111 : F105 8 = F 8 := k109 8 (by decide)
              have e112 : F105 7 = F 7 := k109 7 (by decide)
              have e113 : F 7 = F0 7 := hF 7 (by decide)
              refine k_rv I107 rfl (m_goes  I107.1 (show 0 ≤ (F105 8) ∧ (F105 8) ≤ (F105 7) ∧ (F105 7) ≤ 700 by omega)) rfl rfl rfl I107.rc ?_
              rintro h115 F116 A117 I118 ⟨k120, k121, p119⟩
              replace p119 : ((F105 8) ≤ F116 8 ∧ F116 8 ≤ (F105 7)) ∧ (F116 9 = 0 ∨ (F105 8) < F116 8) ∧ (F116 9 = 2 → 0 ≤ F116 11 ∧ F116 11 ≤ 9) ∧ (0 ≤ F116 9 ∧ F116 9 ≤ 4) := p119
              obtain ⟨p119a, p119b, p119c, p119d⟩ := p119
              have k121 := fr2.nil k121
              subst k121
              show am_Ok _ _ _ (116, _, [], _, 0, 0) _
              have e122 : F116 20 = F105 20 := k120 20 (by decide)
              have e123 : F105 20 = F 20 := k109 20 (by decide)
              have e124 : F116 21 = F105 21 := k120 21 (by decide)
              have e125 : F105 21 = F 21 := k109 21 (by decide)
              have e126 : F 21 = F0 21 := hF 21 (by decide)
              have e127 : F116 23 = F105 23 := k120 23 (by decide)
              have e128 : F116 6 = F105 6 := k120 6 (by decide)
              have e129 : F105 6 = F 6 := k109 6 (by decide)
              exact k_fin rfl rfl ⟨_, _, _, rfl, I118, (fr1.tr (by decide) (fr1.tr (by decide) hF k109) k120), (fr2.tr (by decide) hA k110), ⟨(show (F0 8 ≤ F116 8 ∧ F116 8 ≤ F0 7 ∧ F0 20 ≤ F116 20 ∧ F116 20 ≤ 30 ∧ F116 21 = F0 21 ∧ F0 23 ≤ F116 23 ∧ F116 23 ≤ 1000000 ∧ (F116 9 = 2 → 0 ≤ F116 11 ∧ F116 11 ≤ 9) ∧ 0 ≤ F116 9 ∧ F116 9 ≤ 4) by omega), (show (F116 6 = 0 → F116 20 = F0 20 ∧ F0 6 = 0 ∧ (F116 9 = 0 ∨ F0 8 < F116 8)) by omega), fun z1 z2 => by have z9 : F116 23 ≤ 124 := z2; have h9 := p108c (by omega); exact rd_put (m := A0 17 x10.toInt) (P := A0 16) (s := 124 * x10.toInt) (show F116 23 = F0 23 + A0 17 x10.toInt by have h8 := p108b (by omega); rw [hA 17 (by decide)] at h8; omega) n91 (n93 (by have h8 := p108b (by omega); rw [hA 17 (by decide)] at h8; omega)) (fun k k1 k2 => by rw [← hf23, ← hA 16 (by decide)]; exact h9.1 k k1 (by rw [hA 17 (by decide)]; exact k2)) (fun q hq => (h9.2 q (by omega)).trans (congrFun hA22 q)) (by omega)⟩⟩
            · refine k_c1 11 rfl rfl (if_neg b102) ?_
              have b102 := mt iv_eq0.mpr b102
              refine k_push 12 rfl rfl ?_
              have hc130 : (0 : Int32).toInt = 0 := by decide
              refine k_fin rfl (fin_Z (Or.inl rfl)) ⟨_, _, rfl, rf_len I14 I14, ?_⟩
              show am_Ok _ _ _ (28, _, [.inl (0 : Int32)], _, 0, 0) _
              refine k_fin rfl (fin_Z (Or.inl rfl)) ⟨_, _, rfl, rf_len I14 I14, ?_⟩
              show am_Ok _ _ _ (104, _, [.inl (0 : Int32)], _, 0, 0) _
              refine k_c1 116 rfl rfl (if_pos (by decide)) ?_
              have e131 : F 21 = F0 21 := hF 21 (by decide)
              exact k_fin rfl rfl ⟨_, _, _, rfl, I14, hF, hA, ⟨(show (F0 8 ≤ F 8 ∧ F 8 ≤ F0 7 ∧ F0 20 ≤ F 20 ∧ F 20 ≤ 30 ∧ F 21 = F0 21 ∧ F0 23 ≤ F 23 ∧ F 23 ≤ 1000000 ∧ (F 9 = 2 → 0 ≤ F 11 ∧ F 11 ≤ 9) ∧ 0 ≤ F 9 ∧ F 9 ≤ 4) by omega), (show (F 6 = 0 → F 20 = F0 20 ∧ F0 6 = 0 ∧ (F 9 = 0 ∨ F0 8 < F 8)) by omega), fun z => absurd (show F 6 = 0 from z) (by omega)⟩⟩
          · refine k_c1 11 rfl rfl (if_neg b99) ?_
            have b99 := mt iv_eq0.mpr b99
            refine k_push 12 rfl rfl ?_
            have hc132 : (0 : Int32).toInt = 0 := by decide
            refine k_fin rfl (fin_Z (Or.inl rfl)) ⟨_, _, rfl, rf_len I14 I14, ?_⟩
            show am_Ok _ _ _ (4, _, [.inl (0 : Int32)], _, 0, 0) _
            refine k_c1 24 rfl rfl (if_pos (by decide)) ?_
            refine k_aload 25 rfl rfl rfl ?_
            refine k_in (d := 0) rfl rfl rfl rfl I14.rc ?_
            refine k_aload 1 rfl rfl rfl ?_
            refine r_gI I14 4 rfl rfl rfl (fun x133 (e134 : x133.toInt = F 6) => ?_)
            by_cases b135 : x133 = 0
            · refine k_c1 7 rfl rfl (if_pos b135) ?_
              have b135 := iv_eq0.mp b135
              refine k_push 8 rfl rfl ?_
              refine k_goto 12 rfl rfl ?_
              refine k_fin rfl (fin_Z (Or.inr rfl)) ⟨_, _, rfl, rf_len I14 I14, ?_⟩
              show am_Ok _ _ _ (28, _, [.inl (1 : Int32)], _, 0, 0) _
              refine k_fin rfl (fin_Z (Or.inr rfl)) ⟨_, _, rfl, rf_len I14 I14, ?_⟩
              show am_Ok _ _ _ (104, _, [.inl (1 : Int32)], _, 0, 0) _
              refine k_c1 107 rfl rfl (if_neg (by decide)) ?_
              obtain ⟨n91, n92, n93⟩ := p2 x10.toInt (by omega) (by omega)
              refine k_aload 108 rfl (gs_ne rfl rfl g0) rfl ?_
              refine k_iload 109 rfl gs_eq rfl ?_
              refine k_rv I14 rfl (m_putsIn  I14.1 (show 0 ≤ (F 23) ∧ (F 23) ≤ 1000000 by omega) (show 0 ≤ x10.toInt ∧ x10.toInt < 12 ∧ 0 ≤ (A 17) x10.toInt ∧ (A 17) x10.toInt ≤ 1000000 by rw [(hA 17 (by decide))]; omega)) rfl rfl rfl I14.rc ?_
              rintro h137 F138 A139 I140 ⟨k142, k143, p141⟩
              replace p141 : ((F 23) ≤ F138 23 ∧ F138 23 ≤ 1000000) ∧ (F138 23 ≤ 124 → F138 23 = (F 23) + (A 17) x10.toInt) ∧ (F138 23 ≤ 124 → (∀ k : Int, 0 ≤ k → k < (A 17) x10.toInt → A139 22 ((F 23) + k) = (A 16) (124 * x10.toInt + k)) ∧ ∀ q : Int, q < (F 23) → A139 22 q = (A 22) q) := p141
              obtain ⟨p141a, p141b, p141c⟩ := p141
              show am_Ok _ _ _ (112, _, [], _, 0, 0) _
              refine k_aload 113 rfl (gs_ne rfl rfl g0) rfl ?_
              have e144 : F138 8 = F 8 := k142 8 (by decide)
              have e145 : F138 7 = F 7 := k142 7 (by decide)
              have e146 : F 7 = F0 7 := hF 7 (by decide)
              refine k_rv I140 rfl (m_goes  I140.1 (show 0 ≤ (F138 8) ∧ (F138 8) ≤ (F138 7) ∧ (F138 7) ≤ 700 by omega)) rfl rfl rfl I140.rc ?_
              rintro h148 F149 A150 I151 ⟨k153, k154, p152⟩
              replace p152 : ((F138 8) ≤ F149 8 ∧ F149 8 ≤ (F138 7)) ∧ (F149 9 = 0 ∨ (F138 8) < F149 8) ∧ (F149 9 = 2 → 0 ≤ F149 11 ∧ F149 11 ≤ 9) ∧ (0 ≤ F149 9 ∧ F149 9 ≤ 4) := p152
              obtain ⟨p152a, p152b, p152c, p152d⟩ := p152
              have k154 := fr2.nil k154
              subst k154
              show am_Ok _ _ _ (116, _, [], _, 0, 0) _
              have e155 : F149 20 = F138 20 := k153 20 (by decide)
              have e156 : F138 20 = F 20 := k142 20 (by decide)
              have e157 : F149 21 = F138 21 := k153 21 (by decide)
              have e158 : F138 21 = F 21 := k142 21 (by decide)
              have e159 : F 21 = F0 21 := hF 21 (by decide)
              have e160 : F149 23 = F138 23 := k153 23 (by decide)
              have e161 : F149 6 = F138 6 := k153 6 (by decide)
              have e162 : F138 6 = F 6 := k142 6 (by decide)
              exact k_fin rfl rfl ⟨_, _, _, rfl, I151, (fr1.tr (by decide) (fr1.tr (by decide) hF k142) k153), (fr2.tr (by decide) hA k143), ⟨(show (F0 8 ≤ F149 8 ∧ F149 8 ≤ F0 7 ∧ F0 20 ≤ F149 20 ∧ F149 20 ≤ 30 ∧ F149 21 = F0 21 ∧ F0 23 ≤ F149 23 ∧ F149 23 ≤ 1000000 ∧ (F149 9 = 2 → 0 ≤ F149 11 ∧ F149 11 ≤ 9) ∧ 0 ≤ F149 9 ∧ F149 9 ≤ 4) by omega), (show (F149 6 = 0 → F149 20 = F0 20 ∧ F0 6 = 0 ∧ (F149 9 = 0 ∨ F0 8 < F149 8)) by omega), fun z1 z2 => by have z9 : F149 23 ≤ 124 := z2; have h9 := p141c (by omega); exact rd_put (m := A0 17 x10.toInt) (P := A0 16) (s := 124 * x10.toInt) (show F149 23 = F0 23 + A0 17 x10.toInt by have h8 := p141b (by omega); rw [hA 17 (by decide)] at h8; omega) n91 (n93 (by have h8 := p141b (by omega); rw [hA 17 (by decide)] at h8; omega)) (fun k k1 k2 => by rw [← hf23, ← hA 16 (by decide)]; exact h9.1 k k1 (by rw [hA 17 (by decide)]; exact k2)) (fun q hq => (h9.2 q (by omega)).trans (congrFun hA22 q)) (by omega)⟩⟩
            · refine k_c1 11 rfl rfl (if_neg b135) ?_
              have b135 := mt iv_eq0.mpr b135
              refine k_push 12 rfl rfl ?_
              refine k_fin rfl (fin_Z (Or.inl rfl)) ⟨_, _, rfl, rf_len I14 I14, ?_⟩
              show am_Ok _ _ _ (28, _, [.inl (0 : Int32)], _, 0, 0) _
              refine k_fin rfl (fin_Z (Or.inl rfl)) ⟨_, _, rfl, rf_len I14 I14, ?_⟩
              show am_Ok _ _ _ (104, _, [.inl (0 : Int32)], _, 0, 0) _
              refine k_c1 116 rfl rfl (if_pos (by decide)) ?_
              have e163 : F 21 = F0 21 := hF 21 (by decide)
              exact k_fin rfl rfl ⟨_, _, _, rfl, I14, hF, hA, ⟨(show (F0 8 ≤ F 8 ∧ F 8 ≤ F0 7 ∧ F0 20 ≤ F 20 ∧ F 20 ≤ 30 ∧ F 21 = F0 21 ∧ F0 23 ≤ F 23 ∧ F 23 ≤ 1000000 ∧ (F 9 = 2 → 0 ≤ F 11 ∧ F 11 ≤ 9) ∧ 0 ≤ F 9 ∧ F 9 ≤ 4) by omega), (show (F 6 = 0 → F 20 = F0 20 ∧ F0 6 = 0 ∧ (F 9 = 0 ∨ F0 8 < F 8)) by omega), fun z => absurd (show F 6 = 0 from z) (by omega)⟩⟩
      · refine k_c2 68 rfl rfl (if_neg b7) ?_
        have b7 := mt iv_le.mpr b7
        refine k_aload 69 rfl g0 rfl ?_
        refine k_push 70 rfl rfl ?_
        have hc164 : (2 : Int32).toInt = 2 := by decide
        refine k_iload 71 rfl g1 rfl ?_
        obtain ⟨x165, q166⟩ : ∃ q : Int32, q = ((2 : Int32) + v1) := ⟨_, rfl⟩
        have e167 : x165.toInt = 2 + v1.toInt := by rw [q166, iv_add (by omega) (by omega)]; omega
        refine k_bin x165 72 rfl q166.symm rfl ?_
        refine k_rv hI rfl (m_emits  hI.1 (show 0 ≤ (F 23) ∧ (F 23) ≤ 1000000 by omega)) rfl rfl rfl hI.rc ?_
        rintro h169 F170 A171 I172 ⟨k174, k175, p173⟩
        replace p173 : ((F 23) ≤ F170 23 ∧ F170 23 ≤ 1000000) ∧ (F170 23 ≤ 124 → F170 23 = (F 23) + 1) ∧ (F170 23 ≤ 124 → A171 22 ((F 23)) = x165.toInt ∧ ∀ q : Int, q ≠ (F 23) → A171 22 q = (A 22) q) := p173
        obtain ⟨p173a, p173b, p173c⟩ := p173
        show am_Ok _ _ _ (75, _, [], _, 0, 0) _
        refine k_aload 76 rfl g0 rfl ?_
        have e176 : F170 8 = F 8 := k174 8 (by decide)
        have e177 : F170 7 = F 7 := k174 7 (by decide)
        have e178 : F 7 = F0 7 := hF 7 (by decide)
        refine k_rv I172 rfl (m_goes  I172.1 (show 0 ≤ (F170 8) ∧ (F170 8) ≤ (F170 7) ∧ (F170 7) ≤ 700 by omega)) rfl rfl rfl I172.rc ?_
        rintro h180 F181 A182 I183 ⟨k185, k186, p184⟩
        replace p184 : ((F170 8) ≤ F181 8 ∧ F181 8 ≤ (F170 7)) ∧ (F181 9 = 0 ∨ (F170 8) < F181 8) ∧ (F181 9 = 2 → 0 ≤ F181 11 ∧ F181 11 ≤ 9) ∧ (0 ≤ F181 9 ∧ F181 9 ≤ 4) := p184
        obtain ⟨p184a, p184b, p184c, p184d⟩ := p184
        have k186 := fr2.nil k186
        subst k186
        show am_Ok _ _ _ (79, _, [], _, 0, 0) _
        have e187 : F181 20 = F170 20 := k185 20 (by decide)
        have e188 : F170 20 = F 20 := k174 20 (by decide)
        have e189 : F181 21 = F170 21 := k185 21 (by decide)
        have e190 : F170 21 = F 21 := k174 21 (by decide)
        have e191 : F 21 = F0 21 := hF 21 (by decide)
        have e192 : F181 23 = F170 23 := k185 23 (by decide)
        have e193 : F181 6 = F170 6 := k185 6 (by decide)
        have e194 : F170 6 = F 6 := k174 6 (by decide)
        exact k_fin rfl rfl ⟨_, _, _, rfl, I183, (fr1.tr (by decide) (fr1.tr (by decide) hF k174) k185), (fr2.tr (by decide) hA k175), ⟨(show (F0 8 ≤ F181 8 ∧ F181 8 ≤ F0 7 ∧ F0 20 ≤ F181 20 ∧ F181 20 ≤ 30 ∧ F181 21 = F0 21 ∧ F0 23 ≤ F181 23 ∧ F181 23 ≤ 1000000 ∧ (F181 9 = 2 → 0 ≤ F181 11 ∧ F181 11 ≤ 9) ∧ 0 ≤ F181 9 ∧ F181 9 ≤ 4) by omega), (show (F181 6 = 0 → F181 20 = F0 20 ∧ F0 6 = 0 ∧ (F181 9 = 0 ∨ F0 8 < F181 8)) by omega), fun z1 z2 => by have z9 : F181 23 ≤ 124 := z2; have h9 := p173c (by omega); exact rd_var (c := x165.toInt) (show F181 23 = F0 23 + 1 by omega) (by rw [← hf23]; exact h9.1) (fun q hq => (h9.2 q (by omega)).trans (congrFun hA22 q)) (by omega)⟩⟩
    · refine k_c2 33 rfl rfl (if_neg b4) ?_
      have b4 := mt iv_le.mpr b4
      refine k_aload 34 rfl g0 rfl ?_
      refine r_gA hI 37 rfl rfl rfl ?_
      refine k_aload 38 rfl g0 rfl ?_
      refine r_gI hI 41 rfl rfl rfl (fun x195 (e196 : x195.toInt = F 20) => ?_)
      refine k_push 42 rfl rfl ?_
      have hc197 : (1 : Int32).toInt = 1 := by decide
      obtain ⟨x198, q199⟩ : ∃ q : Int32, q = (x195 - (1 : Int32)) := ⟨_, rfl⟩
      have e200 : x198.toInt = x195.toInt - 1 := by rw [q199, iv_sub (by omega) (by omega)]; omega
      refine k_bin x198 43 rfl q199.symm rfl ?_
      refine k_iload 44 rfl g1 rfl ?_
      obtain ⟨x201, q202⟩ : ∃ q : Int32, q = (x198 - v1) := ⟨_, rfl⟩
      have e203 : x201.toInt = x198.toInt - v1.toInt := by rw [q202, iv_sub (by omega) (by omega)]
      refine k_bin x201 45 rfl q202.symm rfl ?_
      refine r_lld 19 hI 46 rfl rfl (by omega) (show x201.toInt < 31 by omega) rfl (fun x204 => ?_)
      refine k_aload 47 rfl g0 rfl ?_
      refine r_gJ hI 50 rfl rfl rfl (fun y206 => ?_)
      refine k_binL 51 rfl rfl ?_
      generalize (lg_cmp x204 y206) = y207
      by_cases b208 : y207 = 0
      · refine k_c1 60 rfl rfl (if_pos b208) ?_
        have b208 := iv_eq0.mp b208
        refine k_iload 61 rfl g1 rfl ?_
        refine k_aload 62 rfl g0 rfl ?_
        refine r_gI hI 65 rfl rfl rfl (fun x209 (e210 : x209.toInt = F 20) => ?_)
        by_cases b211 : x209 ≤ v1
        · refine k_c2 80 rfl rfl (if_pos b211) ?_
          have b211 := iv_le.mp b211
          refine k_aload 81 rfl g0 rfl ?_
          refine k_aload 82 rfl g0 rfl ?_
          refine r_gJ hI 85 rfl rfl rfl (fun y212 => ?_)
          have e213 : F 18 = F0 18 := hF 18 (by decide)
          refine k_rq hI rfl (m_nameOf  hI.1 (show 0 ≤ (F 18) ∧ (F 18) ≤ 12 by omega)) rfl rfl rfl hI.rc ?_
          rintro x214 h215 F216 A217 I218 ⟨k220, k221, p219⟩
          replace p219 : x214.toInt = -1 ∨ (0 ≤ x214.toInt ∧ x214.toInt < (F 18)) := p219
          have k220 := fr1.nil k220
          subst k220
          have k221 := fr2.nil k221
          subst k221
          show am_Ok _ _ _ (88, _, [.inl x214], _, 0, 0) _
          refine k_istore 89 rfl rfl ?_
          refine k_aload 90 rfl (gs_ne rfl rfl g0) rfl ?_
          refine k_iload 91 rfl gs_eq rfl ?_
          refine k_push 92 rfl rfl ?_
          have hc222 : (-1 : Int32).toInt = -1 := by decide
          by_cases b223 : x214 = (-1 : Int32)
          · refine k_c2 99 rfl rfl (if_pos b223) ?_
            have b223 := iv_eq.mp b223
            refine k_push 100 rfl rfl ?_
            have hc224 : (0 : Int32).toInt = 0 := by decide
            refine k_push 101 rfl rfl ?_
            have hc225 : (3 : Int32).toInt = 3 := by decide
            refine k_in (d := 1) rfl rfl rfl rfl I218.rc ?_
            refine k_aload 1 rfl rfl rfl ?_
            refine k_in (d := 0) rfl rfl rfl rfl I218.rc ?_
            refine k_aload 1 rfl rfl rfl ?_
            refine r_gI I218 4 rfl rfl rfl (fun x226 (e227 : x226.toInt = F 6) => ?_)
            by_cases b228 : x226 = 0
            · refine k_c1 7 rfl rfl (if_pos b228) ?_
              have b228 := iv_eq0.mp b228
              refine k_push 8 rfl rfl ?_
              refine k_goto 12 rfl rfl ?_
              refine k_fin rfl (fin_Z (Or.inr rfl)) ⟨_, _, rfl, rf_len I218 I218, ?_⟩
              show am_Ok _ _ _ (4, _, [.inl (1 : Int32)], _, 0, 0) _
              refine k_c1 7 rfl rfl (if_neg (by decide)) ?_
              refine k_iload 8 rfl rfl rfl ?_
              refine k_c1 11 rfl rfl (if_pos (by decide)) ?_
              refine k_aload 12 rfl rfl rfl ?_
              refine k_iload 13 rfl rfl rfl ?_
              refine r_pI I218 16 rfl rfl rfl (fun h229 I230 => ?_)
              refine k_aload 17 rfl rfl rfl ?_
              refine k_aload 18 rfl rfl rfl ?_
              refine r_gI I230 21 rfl rfl rfl (fun x231 (e232 : x231.toInt = F 10) => ?_)
              refine r_pI I230 24 rfl rfl rfl (fun h233 I234 => ?_)
              refine k_aload 25 rfl rfl rfl ?_
              refine k_in (d := 0) rfl rfl rfl rfl I234.rc ?_
              refine k_aload 1 rfl rfl rfl ?_
              refine r_gI I234 4 rfl rfl rfl (fun x235 (e236 : x235.toInt = (3 : Int32).toInt) => ?_)
              by_cases b237 : x235 = 0
              · refine k_c1 7 rfl rfl (if_pos b237) ?_
                have b237 := iv_eq0.mp b237
                refine k_push 8 rfl rfl ?_
                refine k_goto 12 rfl rfl ?_
                refine k_fin rfl (fin_Z (Or.inr rfl)) ⟨_, _, rfl, rf_len I234 I234, ?_⟩
                show am_Ok _ _ _ (28, _, [.inl (1 : Int32)], _, 0, 0) _
                refine k_fin rfl (fin_Z (Or.inr rfl)) ⟨_, _, rfl, rf_len I218 I234, ?_⟩
                show am_Ok _ _ _ (104, _, [.inl (1 : Int32)], _, 0, 0) _
                refine k_c1 107 rfl rfl (if_neg (by decide)) ?_
                obtain ⟨n91, n92, n93⟩ := p2 x214.toInt (by omega) (by omega)
                refine k_aload 108 rfl (gs_ne rfl rfl g0) rfl ?_
                refine k_iload 109 rfl gs_eq rfl ?_
                refine k_rv I234 rfl (m_putsIn  I234.1 (show 0 ≤ (F 23) ∧ (F 23) ≤ 1000000 by omega) (show 0 ≤ x214.toInt ∧ x214.toInt < 12 ∧ 0 ≤ (A 17) x214.toInt ∧ (A 17) x214.toInt ≤ 1000000 by rw [(hA 17 (by decide))]; omega)) rfl rfl rfl I234.rc ?_
                rintro h239 F240 A241 I242 ⟨k244, k245, p243⟩
                replace p243 : ((F 23) ≤ F240 23 ∧ F240 23 ≤ 1000000) ∧ (F240 23 ≤ 124 → F240 23 = (F 23) + (A 17) x214.toInt) ∧ (F240 23 ≤ 124 → (∀ k : Int, 0 ≤ k → k < (A 17) x214.toInt → A241 22 ((F 23) + k) = (A 16) (124 * x214.toInt + k)) ∧ ∀ q : Int, q < (F 23) → A241 22 q = (A 22) q) := p243
                obtain ⟨p243a, p243b, p243c⟩ := p243
                show am_Ok _ _ _ (112, _, [], _, 0, 0) _
                refine k_aload 113 rfl (gs_ne rfl rfl g0) rfl ?_
                have e246 : F240 8 = F 8 := k244 8 (by decide)
                have e247 : F240 7 = F 7 := k244 7 (by decide)
                have e248 : F 7 = F0 7 := hF 7 (by decide)
                refine k_rv I242 rfl (m_goes  I242.1 (show 0 ≤ (F240 8) ∧ (F240 8) ≤ (F240 7) ∧ (F240 7) ≤ 700 by omega)) rfl rfl rfl I242.rc ?_
                rintro h250 F251 A252 I253 ⟨k255, k256, p254⟩
                replace p254 : ((F240 8) ≤ F251 8 ∧ F251 8 ≤ (F240 7)) ∧ (F251 9 = 0 ∨ (F240 8) < F251 8) ∧ (F251 9 = 2 → 0 ≤ F251 11 ∧ F251 11 ≤ 9) ∧ (0 ≤ F251 9 ∧ F251 9 ≤ 4) := p254
                obtain ⟨p254a, p254b, p254c, p254d⟩ := p254
                have k256 := fr2.nil k256
                subst k256
                show am_Ok _ _ _ (116, _, [], _, 0, 0) _
                have e257 : F251 20 = F240 20 := k255 20 (by decide)
                have e258 : F240 20 = F 20 := k244 20 (by decide)
                have e259 : F251 21 = F240 21 := k255 21 (by decide)
                have e260 : F240 21 = F 21 := k244 21 (by decide)
                have e261 : F 21 = F0 21 := hF 21 (by decide)
                have e262 : F251 23 = F240 23 := k255 23 (by decide)
                have e263 : F251 6 = F240 6 := k255 6 (by decide)
                have e264 : F240 6 = (3 : Int32).toInt := k244 6 (by decide)
                exact k_fin rfl rfl ⟨_, _, _, rfl, I253, (fr1.tr (by decide) (fr1.tr (by decide) (fr1.up (by decide) (fr1.up (by decide) hF)) k244) k255), (fr2.tr (by decide) hA k245), ⟨(show (F0 8 ≤ F251 8 ∧ F251 8 ≤ F0 7 ∧ F0 20 ≤ F251 20 ∧ F251 20 ≤ 30 ∧ F251 21 = F0 21 ∧ F0 23 ≤ F251 23 ∧ F251 23 ≤ 1000000 ∧ (F251 9 = 2 → 0 ≤ F251 11 ∧ F251 11 ≤ 9) ∧ 0 ≤ F251 9 ∧ F251 9 ≤ 4) by omega), (show (F251 6 = 0 → F251 20 = F0 20 ∧ F0 6 = 0 ∧ (F251 9 = 0 ∨ F0 8 < F251 8)) by omega), fun z1 z2 => by have z9 : F251 23 ≤ 124 := z2; have h9 := p243c (by omega); exact rd_put (m := A0 17 x214.toInt) (P := A0 16) (s := 124 * x214.toInt) (show F251 23 = F0 23 + A0 17 x214.toInt by have h8 := p243b (by omega); rw [hA 17 (by decide)] at h8; omega) n91 (n93 (by have h8 := p243b (by omega); rw [hA 17 (by decide)] at h8; omega)) (fun k k1 k2 => by rw [← hf23, ← hA 16 (by decide)]; exact h9.1 k k1 (by rw [hA 17 (by decide)]; exact k2)) (fun q hq => (h9.2 q (by omega)).trans (congrFun hA22 q)) (by omega)⟩⟩
              · refine k_c1 11 rfl rfl (if_neg b237) ?_
                have b237 := mt iv_eq0.mpr b237
                refine k_push 12 rfl rfl ?_
                refine k_fin rfl (fin_Z (Or.inl rfl)) ⟨_, _, rfl, rf_len I234 I234, ?_⟩
                show am_Ok _ _ _ (28, _, [.inl (0 : Int32)], _, 0, 0) _
                refine k_fin rfl (fin_Z (Or.inl rfl)) ⟨_, _, rfl, rf_len I218 I234, ?_⟩
                show am_Ok _ _ _ (104, _, [.inl (0 : Int32)], _, 0, 0) _
                refine k_c1 116 rfl rfl (if_pos (by decide)) ?_
                have e265 : F 21 = F0 21 := hF 21 (by decide)
                exact k_fin rfl rfl ⟨_, _, _, rfl, I234, (fr1.up (by decide) (fr1.up (by decide) hF)), hA, ⟨(show (F0 8 ≤ F 8 ∧ F 8 ≤ F0 7 ∧ F0 20 ≤ F 20 ∧ F 20 ≤ 30 ∧ F 21 = F0 21 ∧ F0 23 ≤ F 23 ∧ F 23 ≤ 1000000 ∧ (F 9 = 2 → 0 ≤ F 11 ∧ F 11 ≤ 9) ∧ 0 ≤ F 9 ∧ F 9 ≤ 4) by omega), (show ((3 : Int32).toInt = 0 → F 20 = F0 20 ∧ F0 6 = 0 ∧ (F 9 = 0 ∨ F0 8 < F 8)) by omega), fun z => absurd (show (3 : Int32).toInt = 0 from z) (by omega)⟩⟩
            · refine k_c1 11 rfl rfl (if_neg b228) ?_
              have b228 := mt iv_eq0.mpr b228
              refine k_push 12 rfl rfl ?_
              refine k_fin rfl (fin_Z (Or.inl rfl)) ⟨_, _, rfl, rf_len I218 I218, ?_⟩
              show am_Ok _ _ _ (4, _, [.inl (0 : Int32)], _, 0, 0) _
              refine k_c1 24 rfl rfl (if_pos (by decide)) ?_
              refine k_aload 25 rfl rfl rfl ?_
              refine k_in (d := 0) rfl rfl rfl rfl I218.rc ?_
              refine k_aload 1 rfl rfl rfl ?_
              refine r_gI I218 4 rfl rfl rfl (fun x266 (e267 : x266.toInt = F 6) => ?_)
              by_cases b268 : x266 = 0
              · refine k_c1 7 rfl rfl (if_pos b268) ?_
                have b268 := iv_eq0.mp b268
                refine k_push 8 rfl rfl ?_
                refine k_goto 12 rfl rfl ?_
                refine k_fin rfl (fin_Z (Or.inr rfl)) ⟨_, _, rfl, rf_len I218 I218, ?_⟩
                show am_Ok _ _ _ (28, _, [.inl (1 : Int32)], _, 0, 0) _
                refine k_fin rfl (fin_Z (Or.inr rfl)) ⟨_, _, rfl, rf_len I218 I218, ?_⟩
                show am_Ok _ _ _ (104, _, [.inl (1 : Int32)], _, 0, 0) _
                refine k_c1 107 rfl rfl (if_neg (by decide)) ?_
                obtain ⟨n91, n92, n93⟩ := p2 x214.toInt (by omega) (by omega)
                refine k_aload 108 rfl (gs_ne rfl rfl g0) rfl ?_
                refine k_iload 109 rfl gs_eq rfl ?_
                refine k_rv I218 rfl (m_putsIn  I218.1 (show 0 ≤ (F 23) ∧ (F 23) ≤ 1000000 by omega) (show 0 ≤ x214.toInt ∧ x214.toInt < 12 ∧ 0 ≤ (A 17) x214.toInt ∧ (A 17) x214.toInt ≤ 1000000 by rw [(hA 17 (by decide))]; omega)) rfl rfl rfl I218.rc ?_
                rintro h270 F271 A272 I273 ⟨k275, k276, p274⟩
                replace p274 : ((F 23) ≤ F271 23 ∧ F271 23 ≤ 1000000) ∧ (F271 23 ≤ 124 → F271 23 = (F 23) + (A 17) x214.toInt) ∧ (F271 23 ≤ 124 → (∀ k : Int, 0 ≤ k → k < (A 17) x214.toInt → A272 22 ((F 23) + k) = (A 16) (124 * x214.toInt + k)) ∧ ∀ q : Int, q < (F 23) → A272 22 q = (A 22) q) := p274
                obtain ⟨p274a, p274b, p274c⟩ := p274
                show am_Ok _ _ _ (112, _, [], _, 0, 0) _
                refine k_aload 113 rfl (gs_ne rfl rfl g0) rfl ?_
                have e277 : F271 8 = F 8 := k275 8 (by decide)
                have e278 : F271 7 = F 7 := k275 7 (by decide)
                have e279 : F 7 = F0 7 := hF 7 (by decide)
                refine k_rv I273 rfl (m_goes  I273.1 (show 0 ≤ (F271 8) ∧ (F271 8) ≤ (F271 7) ∧ (F271 7) ≤ 700 by omega)) rfl rfl rfl I273.rc ?_
                rintro h281 F282 A283 I284 ⟨k286, k287, p285⟩
                replace p285 : ((F271 8) ≤ F282 8 ∧ F282 8 ≤ (F271 7)) ∧ (F282 9 = 0 ∨ (F271 8) < F282 8) ∧ (F282 9 = 2 → 0 ≤ F282 11 ∧ F282 11 ≤ 9) ∧ (0 ≤ F282 9 ∧ F282 9 ≤ 4) := p285
                obtain ⟨p285a, p285b, p285c, p285d⟩ := p285
                have k287 := fr2.nil k287
                subst k287
                show am_Ok _ _ _ (116, _, [], _, 0, 0) _
                have e288 : F282 20 = F271 20 := k286 20 (by decide)
                have e289 : F271 20 = F 20 := k275 20 (by decide)
                have e290 : F282 21 = F271 21 := k286 21 (by decide)
                have e291 : F271 21 = F 21 := k275 21 (by decide)
                have e292 : F 21 = F0 21 := hF 21 (by decide)
                have e293 : F282 23 = F271 23 := k286 23 (by decide)
                have e294 : F282 6 = F271 6 := k286 6 (by decide)
                have e295 : F271 6 = F 6 := k275 6 (by decide)
                exact k_fin rfl rfl ⟨_, _, _, rfl, I284, (fr1.tr (by decide) (fr1.tr (by decide) hF k275) k286), (fr2.tr (by decide) hA k276), ⟨(show (F0 8 ≤ F282 8 ∧ F282 8 ≤ F0 7 ∧ F0 20 ≤ F282 20 ∧ F282 20 ≤ 30 ∧ F282 21 = F0 21 ∧ F0 23 ≤ F282 23 ∧ F282 23 ≤ 1000000 ∧ (F282 9 = 2 → 0 ≤ F282 11 ∧ F282 11 ≤ 9) ∧ 0 ≤ F282 9 ∧ F282 9 ≤ 4) by omega), (show (F282 6 = 0 → F282 20 = F0 20 ∧ F0 6 = 0 ∧ (F282 9 = 0 ∨ F0 8 < F282 8)) by omega), fun z1 z2 => by have z9 : F282 23 ≤ 124 := z2; have h9 := p274c (by omega); exact rd_put (m := A0 17 x214.toInt) (P := A0 16) (s := 124 * x214.toInt) (show F282 23 = F0 23 + A0 17 x214.toInt by have h8 := p274b (by omega); rw [hA 17 (by decide)] at h8; omega) n91 (n93 (by have h8 := p274b (by omega); rw [hA 17 (by decide)] at h8; omega)) (fun k k1 k2 => by rw [← hf23, ← hA 16 (by decide)]; exact h9.1 k k1 (by rw [hA 17 (by decide)]; exact k2)) (fun q hq => (h9.2 q (by omega)).trans (congrFun hA22 q)) (by omega)⟩⟩
              · refine k_c1 11 rfl rfl (if_neg b268) ?_
                have b268 := mt iv_eq0.mpr b268
                refine k_push 12 rfl rfl ?_
                refine k_fin rfl (fin_Z (Or.inl rfl)) ⟨_, _, rfl, rf_len I218 I218, ?_⟩
                show am_Ok _ _ _ (28, _, [.inl (0 : Int32)], _, 0, 0) _
                refine k_fin rfl (fin_Z (Or.inl rfl)) ⟨_, _, rfl, rf_len I218 I218, ?_⟩
                show am_Ok _ _ _ (104, _, [.inl (0 : Int32)], _, 0, 0) _
                refine k_c1 116 rfl rfl (if_pos (by decide)) ?_
                have e296 : F 21 = F0 21 := hF 21 (by decide)
                exact k_fin rfl rfl ⟨_, _, _, rfl, I218, hF, hA, ⟨(show (F0 8 ≤ F 8 ∧ F 8 ≤ F0 7 ∧ F0 20 ≤ F 20 ∧ F 20 ≤ 30 ∧ F 21 = F0 21 ∧ F0 23 ≤ F 23 ∧ F 23 ≤ 1000000 ∧ (F 9 = 2 → 0 ≤ F 11 ∧ F 11 ≤ 9) ∧ 0 ≤ F 9 ∧ F 9 ≤ 4) by omega), (show (F 6 = 0 → F 20 = F0 20 ∧ F0 6 = 0 ∧ (F 9 = 0 ∨ F0 8 < F 8)) by omega), fun z => absurd (show F 6 = 0 from z) (by omega)⟩⟩
          · refine k_c2 95 rfl rfl (if_neg b223) ?_
            have b223 := mt iv_eq.mpr b223
            refine k_push 96 rfl rfl ?_
            refine k_goto 100 rfl rfl ?_
            refine k_push 101 rfl rfl ?_
            have hc297 : (3 : Int32).toInt = 3 := by decide
            refine k_in (d := 1) rfl rfl rfl rfl I218.rc ?_
            refine k_aload 1 rfl rfl rfl ?_
            refine k_in (d := 0) rfl rfl rfl rfl I218.rc ?_
            refine k_aload 1 rfl rfl rfl ?_
            refine r_gI I218 4 rfl rfl rfl (fun x298 (e299 : x298.toInt = F 6) => ?_)
            by_cases b300 : x298 = 0
            · refine k_c1 7 rfl rfl (if_pos b300) ?_
              have b300 := iv_eq0.mp b300
              refine k_push 8 rfl rfl ?_
              refine k_goto 12 rfl rfl ?_
              refine k_fin rfl (fin_Z (Or.inr rfl)) ⟨_, _, rfl, rf_len I218 I218, ?_⟩
              show am_Ok _ _ _ (4, _, [.inl (1 : Int32)], _, 0, 0) _
              refine k_c1 7 rfl rfl (if_neg (by decide)) ?_
              refine k_iload 8 rfl rfl rfl ?_
              refine k_c1 24 rfl rfl (if_neg (by decide)) ?_
              refine k_aload 25 rfl rfl rfl ?_
              refine k_in (d := 0) rfl rfl rfl rfl I218.rc ?_
              refine k_aload 1 rfl rfl rfl ?_
              refine r_gI I218 4 rfl rfl rfl (fun x301 (e302 : x301.toInt = F 6) => ?_)
              by_cases b303 : x301 = 0
              · refine k_c1 7 rfl rfl (if_pos b303) ?_
                have b303 := iv_eq0.mp b303
                refine k_push 8 rfl rfl ?_
                refine k_goto 12 rfl rfl ?_
                refine k_fin rfl (fin_Z (Or.inr rfl)) ⟨_, _, rfl, rf_len I218 I218, ?_⟩
                show am_Ok _ _ _ (28, _, [.inl (1 : Int32)], _, 0, 0) _
                refine k_fin rfl (fin_Z (Or.inr rfl)) ⟨_, _, rfl, rf_len I218 I218, ?_⟩
                show am_Ok _ _ _ (104, _, [.inl (1 : Int32)], _, 0, 0) _
                refine k_c1 107 rfl rfl (if_neg (by decide)) ?_
                obtain ⟨n91, n92, n93⟩ := p2 x214.toInt (by omega) (by omega)
                refine k_aload 108 rfl (gs_ne rfl rfl g0) rfl ?_
                refine k_iload 109 rfl gs_eq rfl ?_
                refine k_rv I218 rfl (m_putsIn  I218.1 (show 0 ≤ (F 23) ∧ (F 23) ≤ 1000000 by omega) (show 0 ≤ x214.toInt ∧ x214.toInt < 12 ∧ 0 ≤ (A 17) x214.toInt ∧ (A 17) x214.toInt ≤ 1000000 by rw [(hA 17 (by decide))]; omega)) rfl rfl rfl I218.rc ?_
                rintro h305 F306 A307 I308 ⟨k310, k311, p309⟩
                replace p309 : ((F 23) ≤ F306 23 ∧ F306 23 ≤ 1000000) ∧ (F306 23 ≤ 124 → F306 23 = (F 23) + (A 17) x214.toInt) ∧ (F306 23 ≤ 124 → (∀ k : Int, 0 ≤ k → k < (A 17) x214.toInt → A307 22 ((F 23) + k) = (A 16) (124 * x214.toInt + k)) ∧ ∀ q : Int, q < (F 23) → A307 22 q = (A 22) q) := p309
                obtain ⟨p309a, p309b, p309c⟩ := p309
                show am_Ok _ _ _ (112, _, [], _, 0, 0) _
                refine k_aload 113 rfl (gs_ne rfl rfl g0) rfl ?_
                have e312 : F306 8 = F 8 := k310 8 (by decide)
                have e313 : F306 7 = F 7 := k310 7 (by decide)
                have e314 : F 7 = F0 7 := hF 7 (by decide)
                refine k_rv I308 rfl (m_goes  I308.1 (show 0 ≤ (F306 8) ∧ (F306 8) ≤ (F306 7) ∧ (F306 7) ≤ 700 by omega)) rfl rfl rfl I308.rc ?_
                rintro h316 F317 A318 I319 ⟨k321, k322, p320⟩
                replace p320 : ((F306 8) ≤ F317 8 ∧ F317 8 ≤ (F306 7)) ∧ (F317 9 = 0 ∨ (F306 8) < F317 8) ∧ (F317 9 = 2 → 0 ≤ F317 11 ∧ F317 11 ≤ 9) ∧ (0 ≤ F317 9 ∧ F317 9 ≤ 4) := p320
                obtain ⟨p320a, p320b, p320c, p320d⟩ := p320
                have k322 := fr2.nil k322
                subst k322
                show am_Ok _ _ _ (116, _, [], _, 0, 0) _
                have e323 : F317 20 = F306 20 := k321 20 (by decide)
                have e324 : F306 20 = F 20 := k310 20 (by decide)
                have e325 : F317 21 = F306 21 := k321 21 (by decide)
                have e326 : F306 21 = F 21 := k310 21 (by decide)
                have e327 : F 21 = F0 21 := hF 21 (by decide)
                have e328 : F317 23 = F306 23 := k321 23 (by decide)
                have e329 : F317 6 = F306 6 := k321 6 (by decide)
                have e330 : F306 6 = F 6 := k310 6 (by decide)
                exact k_fin rfl rfl ⟨_, _, _, rfl, I319, (fr1.tr (by decide) (fr1.tr (by decide) hF k310) k321), (fr2.tr (by decide) hA k311), ⟨(show (F0 8 ≤ F317 8 ∧ F317 8 ≤ F0 7 ∧ F0 20 ≤ F317 20 ∧ F317 20 ≤ 30 ∧ F317 21 = F0 21 ∧ F0 23 ≤ F317 23 ∧ F317 23 ≤ 1000000 ∧ (F317 9 = 2 → 0 ≤ F317 11 ∧ F317 11 ≤ 9) ∧ 0 ≤ F317 9 ∧ F317 9 ≤ 4) by omega), (show (F317 6 = 0 → F317 20 = F0 20 ∧ F0 6 = 0 ∧ (F317 9 = 0 ∨ F0 8 < F317 8)) by omega), fun z1 z2 => by have z9 : F317 23 ≤ 124 := z2; have h9 := p309c (by omega); exact rd_put (m := A0 17 x214.toInt) (P := A0 16) (s := 124 * x214.toInt) (show F317 23 = F0 23 + A0 17 x214.toInt by have h8 := p309b (by omega); rw [hA 17 (by decide)] at h8; omega) n91 (n93 (by have h8 := p309b (by omega); rw [hA 17 (by decide)] at h8; omega)) (fun k k1 k2 => by rw [← hf23, ← hA 16 (by decide)]; exact h9.1 k k1 (by rw [hA 17 (by decide)]; exact k2)) (fun q hq => (h9.2 q (by omega)).trans (congrFun hA22 q)) (by omega)⟩⟩
              · refine k_c1 11 rfl rfl (if_neg b303) ?_
                have b303 := mt iv_eq0.mpr b303
                refine k_push 12 rfl rfl ?_
                have hc331 : (0 : Int32).toInt = 0 := by decide
                refine k_fin rfl (fin_Z (Or.inl rfl)) ⟨_, _, rfl, rf_len I218 I218, ?_⟩
                show am_Ok _ _ _ (28, _, [.inl (0 : Int32)], _, 0, 0) _
                refine k_fin rfl (fin_Z (Or.inl rfl)) ⟨_, _, rfl, rf_len I218 I218, ?_⟩
                show am_Ok _ _ _ (104, _, [.inl (0 : Int32)], _, 0, 0) _
                refine k_c1 116 rfl rfl (if_pos (by decide)) ?_
                have e332 : F 21 = F0 21 := hF 21 (by decide)
                exact k_fin rfl rfl ⟨_, _, _, rfl, I218, hF, hA, ⟨(show (F0 8 ≤ F 8 ∧ F 8 ≤ F0 7 ∧ F0 20 ≤ F 20 ∧ F 20 ≤ 30 ∧ F 21 = F0 21 ∧ F0 23 ≤ F 23 ∧ F 23 ≤ 1000000 ∧ (F 9 = 2 → 0 ≤ F 11 ∧ F 11 ≤ 9) ∧ 0 ≤ F 9 ∧ F 9 ≤ 4) by omega), (show (F 6 = 0 → F 20 = F0 20 ∧ F0 6 = 0 ∧ (F 9 = 0 ∨ F0 8 < F 8)) by omega), fun z => absurd (show F 6 = 0 from z) (by omega)⟩⟩
            · refine k_c1 11 rfl rfl (if_neg b300) ?_
              have b300 := mt iv_eq0.mpr b300
              refine k_push 12 rfl rfl ?_
              have hc333 : (0 : Int32).toInt = 0 := by decide
              refine k_fin rfl (fin_Z (Or.inl rfl)) ⟨_, _, rfl, rf_len I218 I218, ?_⟩
              show am_Ok _ _ _ (4, _, [.inl (0 : Int32)], _, 0, 0) _
              refine k_c1 24 rfl rfl (if_pos (by decide)) ?_
              refine k_aload 25 rfl rfl rfl ?_
              refine k_in (d := 0) rfl rfl rfl rfl I218.rc ?_
              refine k_aload 1 rfl rfl rfl ?_
              refine r_gI I218 4 rfl rfl rfl (fun x334 (e335 : x334.toInt = F 6) => ?_)
              by_cases b336 : x334 = 0
              · refine k_c1 7 rfl rfl (if_pos b336) ?_
                have b336 := iv_eq0.mp b336
                refine k_push 8 rfl rfl ?_
                refine k_goto 12 rfl rfl ?_
                refine k_fin rfl (fin_Z (Or.inr rfl)) ⟨_, _, rfl, rf_len I218 I218, ?_⟩
                show am_Ok _ _ _ (28, _, [.inl (1 : Int32)], _, 0, 0) _
                refine k_fin rfl (fin_Z (Or.inr rfl)) ⟨_, _, rfl, rf_len I218 I218, ?_⟩
                show am_Ok _ _ _ (104, _, [.inl (1 : Int32)], _, 0, 0) _
                refine k_c1 107 rfl rfl (if_neg (by decide)) ?_
                obtain ⟨n91, n92, n93⟩ := p2 x214.toInt (by omega) (by omega)
                refine k_aload 108 rfl (gs_ne rfl rfl g0) rfl ?_
                refine k_iload 109 rfl gs_eq rfl ?_
                refine k_rv I218 rfl (m_putsIn  I218.1 (show 0 ≤ (F 23) ∧ (F 23) ≤ 1000000 by omega) (show 0 ≤ x214.toInt ∧ x214.toInt < 12 ∧ 0 ≤ (A 17) x214.toInt ∧ (A 17) x214.toInt ≤ 1000000 by rw [(hA 17 (by decide))]; omega)) rfl rfl rfl I218.rc ?_
                rintro h338 F339 A340 I341 ⟨k343, k344, p342⟩
                replace p342 : ((F 23) ≤ F339 23 ∧ F339 23 ≤ 1000000) ∧ (F339 23 ≤ 124 → F339 23 = (F 23) + (A 17) x214.toInt) ∧ (F339 23 ≤ 124 → (∀ k : Int, 0 ≤ k → k < (A 17) x214.toInt → A340 22 ((F 23) + k) = (A 16) (124 * x214.toInt + k)) ∧ ∀ q : Int, q < (F 23) → A340 22 q = (A 22) q) := p342
                obtain ⟨p342a, p342b, p342c⟩ := p342
                show am_Ok _ _ _ (112, _, [], _, 0, 0) _
                refine k_aload 113 rfl (gs_ne rfl rfl g0) rfl ?_
                have e345 : F339 8 = F 8 := k343 8 (by decide)
                have e346 : F339 7 = F 7 := k343 7 (by decide)
                have e347 : F 7 = F0 7 := hF 7 (by decide)
                refine k_rv I341 rfl (m_goes  I341.1 (show 0 ≤ (F339 8) ∧ (F339 8) ≤ (F339 7) ∧ (F339 7) ≤ 700 by omega)) rfl rfl rfl I341.rc ?_
                rintro h349 F350 A351 I352 ⟨k354, k355, p353⟩
                replace p353 : ((F339 8) ≤ F350 8 ∧ F350 8 ≤ (F339 7)) ∧ (F350 9 = 0 ∨ (F339 8) < F350 8) ∧ (F350 9 = 2 → 0 ≤ F350 11 ∧ F350 11 ≤ 9) ∧ (0 ≤ F350 9 ∧ F350 9 ≤ 4) := p353
                obtain ⟨p353a, p353b, p353c, p353d⟩ := p353
                have k355 := fr2.nil k355
                subst k355
                show am_Ok _ _ _ (116, _, [], _, 0, 0) _
                have e356 : F350 20 = F339 20 := k354 20 (by decide)
                have e357 : F339 20 = F 20 := k343 20 (by decide)
                have e358 : F350 21 = F339 21 := k354 21 (by decide)
                have e359 : F339 21 = F 21 := k343 21 (by decide)
                have e360 : F 21 = F0 21 := hF 21 (by decide)
                have e361 : F350 23 = F339 23 := k354 23 (by decide)
                have e362 : F350 6 = F339 6 := k354 6 (by decide)
                have e363 : F339 6 = F 6 := k343 6 (by decide)
                exact k_fin rfl rfl ⟨_, _, _, rfl, I352, (fr1.tr (by decide) (fr1.tr (by decide) hF k343) k354), (fr2.tr (by decide) hA k344), ⟨(show (F0 8 ≤ F350 8 ∧ F350 8 ≤ F0 7 ∧ F0 20 ≤ F350 20 ∧ F350 20 ≤ 30 ∧ F350 21 = F0 21 ∧ F0 23 ≤ F350 23 ∧ F350 23 ≤ 1000000 ∧ (F350 9 = 2 → 0 ≤ F350 11 ∧ F350 11 ≤ 9) ∧ 0 ≤ F350 9 ∧ F350 9 ≤ 4) by omega), (show (F350 6 = 0 → F350 20 = F0 20 ∧ F0 6 = 0 ∧ (F350 9 = 0 ∨ F0 8 < F350 8)) by omega), fun z1 z2 => by have z9 : F350 23 ≤ 124 := z2; have h9 := p342c (by omega); exact rd_put (m := A0 17 x214.toInt) (P := A0 16) (s := 124 * x214.toInt) (show F350 23 = F0 23 + A0 17 x214.toInt by have h8 := p342b (by omega); rw [hA 17 (by decide)] at h8; omega) n91 (n93 (by have h8 := p342b (by omega); rw [hA 17 (by decide)] at h8; omega)) (fun k k1 k2 => by rw [← hf23, ← hA 16 (by decide)]; exact h9.1 k k1 (by rw [hA 17 (by decide)]; exact k2)) (fun q hq => (h9.2 q (by omega)).trans (congrFun hA22 q)) (by omega)⟩⟩
              · refine k_c1 11 rfl rfl (if_neg b336) ?_
                have b336 := mt iv_eq0.mpr b336
                refine k_push 12 rfl rfl ?_
                refine k_fin rfl (fin_Z (Or.inl rfl)) ⟨_, _, rfl, rf_len I218 I218, ?_⟩
                show am_Ok _ _ _ (28, _, [.inl (0 : Int32)], _, 0, 0) _
                refine k_fin rfl (fin_Z (Or.inl rfl)) ⟨_, _, rfl, rf_len I218 I218, ?_⟩
                show am_Ok _ _ _ (104, _, [.inl (0 : Int32)], _, 0, 0) _
                refine k_c1 116 rfl rfl (if_pos (by decide)) ?_
                have e364 : F 21 = F0 21 := hF 21 (by decide)
                exact k_fin rfl rfl ⟨_, _, _, rfl, I218, hF, hA, ⟨(show (F0 8 ≤ F 8 ∧ F 8 ≤ F0 7 ∧ F0 20 ≤ F 20 ∧ F 20 ≤ 30 ∧ F 21 = F0 21 ∧ F0 23 ≤ F 23 ∧ F 23 ≤ 1000000 ∧ (F 9 = 2 → 0 ≤ F 11 ∧ F 11 ≤ 9) ∧ 0 ≤ F 9 ∧ F 9 ≤ 4) by omega), (show (F 6 = 0 → F 20 = F0 20 ∧ F0 6 = 0 ∧ (F 9 = 0 ∨ F0 8 < F 8)) by omega), fun z => absurd (show F 6 = 0 from z) (by omega)⟩⟩
        · refine k_c2 68 rfl rfl (if_neg b211) ?_
          have b211 := mt iv_le.mpr b211
          refine k_aload 69 rfl g0 rfl ?_
          refine k_push 70 rfl rfl ?_
          have hc365 : (2 : Int32).toInt = 2 := by decide
          refine k_iload 71 rfl g1 rfl ?_
          obtain ⟨x366, q367⟩ : ∃ q : Int32, q = ((2 : Int32) + v1) := ⟨_, rfl⟩
          have e368 : x366.toInt = 2 + v1.toInt := by rw [q367, iv_add (by omega) (by omega)]; omega
          refine k_bin x366 72 rfl q367.symm rfl ?_
          refine k_rv hI rfl (m_emits  hI.1 (show 0 ≤ (F 23) ∧ (F 23) ≤ 1000000 by omega)) rfl rfl rfl hI.rc ?_
          rintro h370 F371 A372 I373 ⟨k375, k376, p374⟩
          replace p374 : ((F 23) ≤ F371 23 ∧ F371 23 ≤ 1000000) ∧ (F371 23 ≤ 124 → F371 23 = (F 23) + 1) ∧ (F371 23 ≤ 124 → A372 22 ((F 23)) = x366.toInt ∧ ∀ q : Int, q ≠ (F 23) → A372 22 q = (A 22) q) := p374
          obtain ⟨p374a, p374b, p374c⟩ := p374
          show am_Ok _ _ _ (75, _, [], _, 0, 0) _
          refine k_aload 76 rfl g0 rfl ?_
          have e377 : F371 8 = F 8 := k375 8 (by decide)
          have e378 : F371 7 = F 7 := k375 7 (by decide)
          have e379 : F 7 = F0 7 := hF 7 (by decide)
          refine k_rv I373 rfl (m_goes  I373.1 (show 0 ≤ (F371 8) ∧ (F371 8) ≤ (F371 7) ∧ (F371 7) ≤ 700 by omega)) rfl rfl rfl I373.rc ?_
          rintro h381 F382 A383 I384 ⟨k386, k387, p385⟩
          replace p385 : ((F371 8) ≤ F382 8 ∧ F382 8 ≤ (F371 7)) ∧ (F382 9 = 0 ∨ (F371 8) < F382 8) ∧ (F382 9 = 2 → 0 ≤ F382 11 ∧ F382 11 ≤ 9) ∧ (0 ≤ F382 9 ∧ F382 9 ≤ 4) := p385
          obtain ⟨p385a, p385b, p385c, p385d⟩ := p385
          have k387 := fr2.nil k387
          subst k387
          show am_Ok _ _ _ (79, _, [], _, 0, 0) _
          have e388 : F382 20 = F371 20 := k386 20 (by decide)
          have e389 : F371 20 = F 20 := k375 20 (by decide)
          have e390 : F382 21 = F371 21 := k386 21 (by decide)
          have e391 : F371 21 = F 21 := k375 21 (by decide)
          have e392 : F 21 = F0 21 := hF 21 (by decide)
          have e393 : F382 23 = F371 23 := k386 23 (by decide)
          have e394 : F382 6 = F371 6 := k386 6 (by decide)
          have e395 : F371 6 = F 6 := k375 6 (by decide)
          exact k_fin rfl rfl ⟨_, _, _, rfl, I384, (fr1.tr (by decide) (fr1.tr (by decide) hF k375) k386), (fr2.tr (by decide) hA k376), ⟨(show (F0 8 ≤ F382 8 ∧ F382 8 ≤ F0 7 ∧ F0 20 ≤ F382 20 ∧ F382 20 ≤ 30 ∧ F382 21 = F0 21 ∧ F0 23 ≤ F382 23 ∧ F382 23 ≤ 1000000 ∧ (F382 9 = 2 → 0 ≤ F382 11 ∧ F382 11 ≤ 9) ∧ 0 ≤ F382 9 ∧ F382 9 ≤ 4) by omega), (show (F382 6 = 0 → F382 20 = F0 20 ∧ F0 6 = 0 ∧ (F382 9 = 0 ∨ F0 8 < F382 8)) by omega), fun z1 z2 => by have z9 : F382 23 ≤ 124 := z2; have h9 := p374c (by omega); exact rd_var (c := x366.toInt) (show F382 23 = F0 23 + 1 by omega) (by rw [← hf23]; exact h9.1) (fun q hq => (h9.2 q (by omega)).trans (congrFun hA22 q)) (by omega)⟩⟩
      · refine k_c1 54 rfl rfl (if_neg b208) ?_
        have b208 := mt iv_eq0.mpr b208
        obtain ⟨x396, q397⟩ : ∃ q : Int32, q = v1 + (1 : Int32) := ⟨_, rfl⟩
        have e398 : x396.toInt = v1.toInt + 1 := by rw [q397, iv_add (by omega) (by omega)]; omega
        refine k_iinc x396 57 rfl g1 q397.symm rfl ?_
        refine k_goto 25 rfl rfl ?_
        exact ih _ (show ((30 - x396.toInt).toNat) < n by omega)  rfl (gs_ne rfl rfl g0) gs_eq hI hF hA (show 0 ≤ x396.toInt ∧ x396.toInt ≤ F0 20 by omega) (i2) (show F0 6 = 0 by omega)
theorem m_readsName {h0 : am_h} {F0 : rf_f} {A0 : rf_A}  (hR : rf_R h0 F0 A0) (p1 : 0 ≤ F0 8 ∧ F0 8 ≤ F0 7 ∧ F0 7 ≤ 700 ∧ 0 ≤ F0 20 ∧ F0 20 ≤ 30 ∧ 0 ≤ F0 21 ∧ F0 21 ≤ 12 ∧ 0 ≤ F0 18 ∧ F0 18 ≤ 12 ∧ 0 ≤ F0 23 ∧ F0 23 ≤ 1000000 ∧ (F0 9 = 2 → 0 ≤ F0 11 ∧ F0 11 ≤ 9) ∧ 0 ≤ F0 9 ∧ F0 9 ≤ 4) (p2 : nm (A0 16) (A0 17) (F0 18)) : am_Mt 4 177 [.inr (.inr (some 81))] h0 (rf_V h0 (fun F' A' => fr1 [8, 10, 9, 14, 11, 12, 6, 5, 23] F0 F' ∧ fr2 [22] A0 A' ∧ ((F0 8 ≤ F' 8 ∧ F' 8 ≤ F0 7 ∧ F0 20 ≤ F' 20 ∧ F' 20 ≤ 30 ∧ F' 21 = F0 21 ∧ F0 23 ≤ F' 23 ∧ F' 23 ≤ 1000000 ∧ (F' 9 = 2 → 0 ≤ F' 11 ∧ F' 11 ≤ 9) ∧ 0 ≤ F' 9 ∧ F' 9 ≤ 4) ∧ (F' 6 = 0 → F' 20 = F0 20 ∧ F0 6 = 0 ∧ (F' 9 = 0 ∨ F0 8 < F' 8)) ∧ (F' 6 = 0 → F' 23 ≤ 124 → rd1 (A' 22) (A0 22) (F0 23) (F' 23) (F0 20))))) := by
  refine am_Mt.of (D := 3) ?_
  have hI : rf_I h0 h0 F0 A0 := rf_I.start hR
  refine k_aload 1 rfl rfl rfl ?_
  refine k_aload 2 rfl rfl rfl ?_
  refine r_gI hI 5 rfl rfl rfl (fun x399 (e400 : x399.toInt = F0 14) => ?_)
  refine k_push 7 rfl rfl ?_
  have hc401 : (8 : Int32).toInt = 8 := by decide
  by_cases b402 : (8 : Int32) < x399
  · refine k_c2 14 rfl rfl (if_pos b402) ?_
    have b402 := iv_lt.mp b402
    refine k_push 15 rfl rfl ?_
    have hc403 : (0 : Int32).toInt = 0 := by decide
    refine k_push 16 rfl rfl ?_
    have hc404 : (2 : Int32).toInt = 2 := by decide
    refine k_in (d := 1) rfl rfl rfl rfl hI.rc ?_
    refine k_aload 1 rfl rfl rfl ?_
    refine k_in (d := 0) rfl rfl rfl rfl hI.rc ?_
    refine k_aload 1 rfl rfl rfl ?_
    refine r_gI hI 4 rfl rfl rfl (fun x405 (e406 : x405.toInt = F0 6) => ?_)
    by_cases b407 : x405 = 0
    · refine k_c1 7 rfl rfl (if_pos b407) ?_
      have b407 := iv_eq0.mp b407
      refine k_push 8 rfl rfl ?_
      have hc408 : (1 : Int32).toInt = 1 := by decide
      refine k_goto 12 rfl rfl ?_
      refine k_fin rfl (fin_Z (Or.inr rfl)) ⟨_, _, rfl, rf_len hI hI, ?_⟩
      show am_Ok _ _ _ (4, _, [.inl (1 : Int32)], _, 0, 0) _
      refine k_c1 7 rfl rfl (if_neg (by decide)) ?_
      refine k_iload 8 rfl rfl rfl ?_
      refine k_c1 11 rfl rfl (if_pos (by decide)) ?_
      refine k_aload 12 rfl rfl rfl ?_
      refine k_iload 13 rfl rfl rfl ?_
      refine r_pI hI 16 rfl rfl rfl (fun h409 I410 => ?_)
      refine k_aload 17 rfl rfl rfl ?_
      refine k_aload 18 rfl rfl rfl ?_
      refine r_gI I410 21 rfl rfl rfl (fun x411 (e412 : x411.toInt = F0 10) => ?_)
      refine r_pI I410 24 rfl rfl rfl (fun h413 I414 => ?_)
      refine k_aload 25 rfl rfl rfl ?_
      refine k_in (d := 0) rfl rfl rfl rfl I414.rc ?_
      refine k_aload 1 rfl rfl rfl ?_
      refine r_gI I414 4 rfl rfl rfl (fun x415 (e416 : x415.toInt = (2 : Int32).toInt) => ?_)
      by_cases b417 : x415 = 0
      · refine k_c1 7 rfl rfl (if_pos b417) ?_
        have b417 := iv_eq0.mp b417
        refine k_push 8 rfl rfl ?_
        refine k_goto 12 rfl rfl ?_
        refine k_fin rfl (fin_Z (Or.inr rfl)) ⟨_, _, rfl, rf_len I414 I414, ?_⟩
        show am_Ok _ _ _ (28, _, [.inl (1 : Int32)], _, 0, 0) _
        refine k_fin rfl (fin_Z (Or.inr rfl)) ⟨_, _, rfl, rf_len hI I414, ?_⟩
        show am_Ok _ _ _ (19, _, [.inl (1 : Int32)], _, 0, 0) _
        refine k_c1 23 rfl rfl (if_neg (by decide)) ?_
        refine k_push 24 rfl rfl ?_
        refine k_istore 25 rfl rfl ?_
        exact b_X10_readsName_25   p1 p2 _  rfl (gs_ne rfl rfl rfl) gs_eq I414 (fr1.up (by decide) (fr1.up (by decide) fr1.rf)) fr2.rf (show 0 ≤ (0 : Int32).toInt ∧ (0 : Int32).toInt ≤ F0 20 by omega) ((by exfalso; omega)) (show F0 6 = 0 by omega)
      · refine k_c1 11 rfl rfl (if_neg b417) ?_
        have b417 := mt iv_eq0.mpr b417
        refine k_push 12 rfl rfl ?_
        refine k_fin rfl (fin_Z (Or.inl rfl)) ⟨_, _, rfl, rf_len I414 I414, ?_⟩
        show am_Ok _ _ _ (28, _, [.inl (0 : Int32)], _, 0, 0) _
        refine k_fin rfl (fin_Z (Or.inl rfl)) ⟨_, _, rfl, rf_len hI I414, ?_⟩
        show am_Ok _ _ _ (19, _, [.inl (0 : Int32)], _, 0, 0) _
        refine k_c1 22 rfl rfl (if_pos (by decide)) ?_
        exact k_fin rfl rfl ⟨_, _, _, rfl, I414, (fr1.up (by decide) (fr1.up (by decide) fr1.rf)), fr2.rf, ⟨(show (F0 8 ≤ F0 8 ∧ F0 8 ≤ F0 7 ∧ F0 20 ≤ F0 20 ∧ F0 20 ≤ 30 ∧ F0 21 = F0 21 ∧ F0 23 ≤ F0 23 ∧ F0 23 ≤ 1000000 ∧ (F0 9 = 2 → 0 ≤ F0 11 ∧ F0 11 ≤ 9) ∧ 0 ≤ F0 9 ∧ F0 9 ≤ 4) by omega), (show ((2 : Int32).toInt = 0 → F0 20 = F0 20 ∧ F0 6 = 0 ∧ (F0 9 = 0 ∨ F0 8 < F0 8)) by omega), fun z => absurd (show (2 : Int32).toInt = 0 from z) (by omega)⟩⟩
    · refine k_c1 11 rfl rfl (if_neg b407) ?_
      have b407 := mt iv_eq0.mpr b407
      refine k_push 12 rfl rfl ?_
      refine k_fin rfl (fin_Z (Or.inl rfl)) ⟨_, _, rfl, rf_len hI hI, ?_⟩
      show am_Ok _ _ _ (4, _, [.inl (0 : Int32)], _, 0, 0) _
      refine k_c1 24 rfl rfl (if_pos (by decide)) ?_
      refine k_aload 25 rfl rfl rfl ?_
      refine k_in (d := 0) rfl rfl rfl rfl hI.rc ?_
      refine k_aload 1 rfl rfl rfl ?_
      refine r_gI hI 4 rfl rfl rfl (fun x418 (e419 : x418.toInt = F0 6) => ?_)
      by_cases b420 : x418 = 0
      · refine k_c1 7 rfl rfl (if_pos b420) ?_
        have b420 := iv_eq0.mp b420
        refine k_push 8 rfl rfl ?_
        have hc421 : (1 : Int32).toInt = 1 := by decide
        refine k_goto 12 rfl rfl ?_
        refine k_fin rfl (fin_Z (Or.inr rfl)) ⟨_, _, rfl, rf_len hI hI, ?_⟩
        show am_Ok _ _ _ (28, _, [.inl (1 : Int32)], _, 0, 0) _
        refine k_fin rfl (fin_Z (Or.inr rfl)) ⟨_, _, rfl, rf_len hI hI, ?_⟩
        show am_Ok _ _ _ (19, _, [.inl (1 : Int32)], _, 0, 0) _
        refine k_c1 23 rfl rfl (if_neg (by decide)) ?_
        refine k_push 24 rfl rfl ?_
        refine k_istore 25 rfl rfl ?_
        exact b_X10_readsName_25   p1 p2 _  rfl (gs_ne rfl rfl rfl) gs_eq hI fr1.rf fr2.rf (show 0 ≤ (0 : Int32).toInt ∧ (0 : Int32).toInt ≤ F0 20 by omega) (⟨rfl, rfl⟩) (show F0 6 = 0 by omega)
      · refine k_c1 11 rfl rfl (if_neg b420) ?_
        have b420 := mt iv_eq0.mpr b420
        refine k_push 12 rfl rfl ?_
        refine k_fin rfl (fin_Z (Or.inl rfl)) ⟨_, _, rfl, rf_len hI hI, ?_⟩
        show am_Ok _ _ _ (28, _, [.inl (0 : Int32)], _, 0, 0) _
        refine k_fin rfl (fin_Z (Or.inl rfl)) ⟨_, _, rfl, rf_len hI hI, ?_⟩
        show am_Ok _ _ _ (19, _, [.inl (0 : Int32)], _, 0, 0) _
        refine k_c1 22 rfl rfl (if_pos (by decide)) ?_
        exact k_fin rfl rfl ⟨_, _, _, rfl, hI, fr1.rf, fr2.rf, ⟨(show (F0 8 ≤ F0 8 ∧ F0 8 ≤ F0 7 ∧ F0 20 ≤ F0 20 ∧ F0 20 ≤ 30 ∧ F0 21 = F0 21 ∧ F0 23 ≤ F0 23 ∧ F0 23 ≤ 1000000 ∧ (F0 9 = 2 → 0 ≤ F0 11 ∧ F0 11 ≤ 9) ∧ 0 ≤ F0 9 ∧ F0 9 ≤ 4) by omega), (show (F0 6 = 0 → F0 20 = F0 20 ∧ F0 6 = 0 ∧ (F0 9 = 0 ∨ F0 8 < F0 8)) by omega), fun z => absurd (show F0 6 = 0 from z) (by omega)⟩⟩
  · refine k_c2 10 rfl rfl (if_neg b402) ?_
    have b402 := mt iv_lt.mpr b402
    refine k_push 11 rfl rfl ?_
    have hc422 : (1 : Int32).toInt = 1 := by decide
    refine k_goto 15 rfl rfl ?_
    refine k_push 16 rfl rfl ?_
    have hc423 : (2 : Int32).toInt = 2 := by decide
    refine k_in (d := 1) rfl rfl rfl rfl hI.rc ?_
    refine k_aload 1 rfl rfl rfl ?_
    refine k_in (d := 0) rfl rfl rfl rfl hI.rc ?_
    refine k_aload 1 rfl rfl rfl ?_
    refine r_gI hI 4 rfl rfl rfl (fun x424 (e425 : x424.toInt = F0 6) => ?_)
    by_cases b426 : x424 = 0
    · refine k_c1 7 rfl rfl (if_pos b426) ?_
      have b426 := iv_eq0.mp b426
      refine k_push 8 rfl rfl ?_
      refine k_goto 12 rfl rfl ?_
      refine k_fin rfl (fin_Z (Or.inr rfl)) ⟨_, _, rfl, rf_len hI hI, ?_⟩
      show am_Ok _ _ _ (4, _, [.inl (1 : Int32)], _, 0, 0) _
      refine k_c1 7 rfl rfl (if_neg (by decide)) ?_
      refine k_iload 8 rfl rfl rfl ?_
      refine k_c1 24 rfl rfl (if_neg (by decide)) ?_
      refine k_aload 25 rfl rfl rfl ?_
      refine k_in (d := 0) rfl rfl rfl rfl hI.rc ?_
      refine k_aload 1 rfl rfl rfl ?_
      refine r_gI hI 4 rfl rfl rfl (fun x427 (e428 : x427.toInt = F0 6) => ?_)
      by_cases b429 : x427 = 0
      · refine k_c1 7 rfl rfl (if_pos b429) ?_
        have b429 := iv_eq0.mp b429
        refine k_push 8 rfl rfl ?_
        refine k_goto 12 rfl rfl ?_
        refine k_fin rfl (fin_Z (Or.inr rfl)) ⟨_, _, rfl, rf_len hI hI, ?_⟩
        show am_Ok _ _ _ (28, _, [.inl (1 : Int32)], _, 0, 0) _
        refine k_fin rfl (fin_Z (Or.inr rfl)) ⟨_, _, rfl, rf_len hI hI, ?_⟩
        show am_Ok _ _ _ (19, _, [.inl (1 : Int32)], _, 0, 0) _
        refine k_c1 23 rfl rfl (if_neg (by decide)) ?_
        refine k_push 24 rfl rfl ?_
        have hc430 : (0 : Int32).toInt = 0 := by decide
        refine k_istore 25 rfl rfl ?_
        exact b_X10_readsName_25   p1 p2 _  rfl (gs_ne rfl rfl rfl) gs_eq hI fr1.rf fr2.rf (show 0 ≤ (0 : Int32).toInt ∧ (0 : Int32).toInt ≤ F0 20 by omega) (⟨rfl, rfl⟩) (show F0 6 = 0 by omega)
      · refine k_c1 11 rfl rfl (if_neg b429) ?_
        have b429 := mt iv_eq0.mpr b429
        refine k_push 12 rfl rfl ?_
        have hc431 : (0 : Int32).toInt = 0 := by decide
        refine k_fin rfl (fin_Z (Or.inl rfl)) ⟨_, _, rfl, rf_len hI hI, ?_⟩
        show am_Ok _ _ _ (28, _, [.inl (0 : Int32)], _, 0, 0) _
        refine k_fin rfl (fin_Z (Or.inl rfl)) ⟨_, _, rfl, rf_len hI hI, ?_⟩
        show am_Ok _ _ _ (19, _, [.inl (0 : Int32)], _, 0, 0) _
        refine k_c1 22 rfl rfl (if_pos (by decide)) ?_
        exact k_fin rfl rfl ⟨_, _, _, rfl, hI, fr1.rf, fr2.rf, ⟨(show (F0 8 ≤ F0 8 ∧ F0 8 ≤ F0 7 ∧ F0 20 ≤ F0 20 ∧ F0 20 ≤ 30 ∧ F0 21 = F0 21 ∧ F0 23 ≤ F0 23 ∧ F0 23 ≤ 1000000 ∧ (F0 9 = 2 → 0 ≤ F0 11 ∧ F0 11 ≤ 9) ∧ 0 ≤ F0 9 ∧ F0 9 ≤ 4) by omega), (show (F0 6 = 0 → F0 20 = F0 20 ∧ F0 6 = 0 ∧ (F0 9 = 0 ∨ F0 8 < F0 8)) by omega), fun z => absurd (show F0 6 = 0 from z) (by omega)⟩⟩
    · refine k_c1 11 rfl rfl (if_neg b426) ?_
      have b426 := mt iv_eq0.mpr b426
      refine k_push 12 rfl rfl ?_
      have hc432 : (0 : Int32).toInt = 0 := by decide
      refine k_fin rfl (fin_Z (Or.inl rfl)) ⟨_, _, rfl, rf_len hI hI, ?_⟩
      show am_Ok _ _ _ (4, _, [.inl (0 : Int32)], _, 0, 0) _
      refine k_c1 24 rfl rfl (if_pos (by decide)) ?_
      refine k_aload 25 rfl rfl rfl ?_
      refine k_in (d := 0) rfl rfl rfl rfl hI.rc ?_
      refine k_aload 1 rfl rfl rfl ?_
      refine r_gI hI 4 rfl rfl rfl (fun x433 (e434 : x433.toInt = F0 6) => ?_)
      by_cases b435 : x433 = 0
      · refine k_c1 7 rfl rfl (if_pos b435) ?_
        have b435 := iv_eq0.mp b435
        refine k_push 8 rfl rfl ?_
        refine k_goto 12 rfl rfl ?_
        refine k_fin rfl (fin_Z (Or.inr rfl)) ⟨_, _, rfl, rf_len hI hI, ?_⟩
        show am_Ok _ _ _ (28, _, [.inl (1 : Int32)], _, 0, 0) _
        refine k_fin rfl (fin_Z (Or.inr rfl)) ⟨_, _, rfl, rf_len hI hI, ?_⟩
        show am_Ok _ _ _ (19, _, [.inl (1 : Int32)], _, 0, 0) _
        refine k_c1 23 rfl rfl (if_neg (by decide)) ?_
        refine k_push 24 rfl rfl ?_
        refine k_istore 25 rfl rfl ?_
        exact b_X10_readsName_25   p1 p2 _  rfl (gs_ne rfl rfl rfl) gs_eq hI fr1.rf fr2.rf (show 0 ≤ (0 : Int32).toInt ∧ (0 : Int32).toInt ≤ F0 20 by omega) (⟨rfl, rfl⟩) (show F0 6 = 0 by omega)
      · refine k_c1 11 rfl rfl (if_neg b435) ?_
        have b435 := mt iv_eq0.mpr b435
        refine k_push 12 rfl rfl ?_
        refine k_fin rfl (fin_Z (Or.inl rfl)) ⟨_, _, rfl, rf_len hI hI, ?_⟩
        show am_Ok _ _ _ (28, _, [.inl (0 : Int32)], _, 0, 0) _
        refine k_fin rfl (fin_Z (Or.inl rfl)) ⟨_, _, rfl, rf_len hI hI, ?_⟩
        show am_Ok _ _ _ (19, _, [.inl (0 : Int32)], _, 0, 0) _
        refine k_c1 22 rfl rfl (if_pos (by decide)) ?_
        exact k_fin rfl rfl ⟨_, _, _, rfl, hI, fr1.rf, fr2.rf, ⟨(show (F0 8 ≤ F0 8 ∧ F0 8 ≤ F0 7 ∧ F0 20 ≤ F0 20 ∧ F0 20 ≤ 30 ∧ F0 21 = F0 21 ∧ F0 23 ≤ F0 23 ∧ F0 23 ≤ 1000000 ∧ (F0 9 = 2 → 0 ≤ F0 11 ∧ F0 11 ≤ 9) ∧ 0 ≤ F0 9 ∧ F0 9 ≤ 4) by omega), (show (F0 6 = 0 → F0 20 = F0 20 ∧ F0 6 = 0 ∧ (F0 9 = 0 ∨ F0 8 < F0 8)) by omega), fun z => absurd (show F0 6 = 0 from z) (by omega)⟩⟩
theorem b_X10_readsNumber_39 {h0 : am_h} {F0 : rf_f} {A0 : rf_A}  (p1 : 0 ≤ F0 8 ∧ F0 8 ≤ F0 7 ∧ F0 7 ≤ 700 ∧ 0 ≤ F0 20 ∧ F0 20 ≤ 30 ∧ 0 ≤ F0 21 ∧ F0 21 ≤ 12 ∧ 0 ≤ F0 18 ∧ F0 18 ≤ 12 ∧ 0 ≤ F0 23 ∧ F0 23 ≤ 1000000 ∧ (F0 9 = 2 → 0 ≤ F0 11 ∧ F0 11 ≤ 9) ∧ 0 ≤ F0 9 ∧ F0 9 ≤ 4) (p2 : nm (A0 16) (A0 17) (F0 18)) (p3 : F0 9 = 2) : ∀ (n : Nat) {lv : am_l} {h : am_h} {F : rf_f} {A : rf_A} {v1 : Int32} {v2 : Int32}, ((9 - v2.toInt).toNat) = n → am_get lv 0 = some (.inr (.inr (some 81))) → am_get lv 1 = some (.inl v1) → am_get lv 2 = some (.inl v2) → rf_I h0 h F A → fr1 [8, 10, 9, 14, 11, 12, 6, 5, 23] F0 F → fr2 [22] A0 A → (0 ≤ v2.toInt ∧ v2.toInt ≤ v1.toInt ∧ v1.toInt ≤ 9) → (F0 23 ≤ F 23 ∧ F 23 ≤ 1000000) → (F 23 ≤ 124 → nu (A 22) (A0 22) (F0 23) (F 23) v2.toInt) → (F 6 = 0 ∧ F0 6 = 0 ∧ F 8 = F0 8 ∧ F 9 = F0 9 ∧ F 11 = F0 11) → am_Ok am_G 3 178 (39, lv, [], h, 0, 0) (rf_V h0 (fun F' A' => fr1 [8, 10, 9, 14, 11, 12, 6, 5, 23] F0 F' ∧ fr2 [22] A0 A' ∧ ((F0 8 ≤ F' 8 ∧ F' 8 ≤ F0 7 ∧ F0 20 ≤ F' 20 ∧ F' 20 ≤ 30 ∧ F' 21 = F0 21 ∧ F0 23 ≤ F' 23 ∧ F' 23 ≤ 1000000 ∧ (F' 9 = 2 → 0 ≤ F' 11 ∧ F' 11 ≤ 9) ∧ 0 ≤ F' 9 ∧ F' 9 ≤ 4) ∧ (F' 6 = 0 → F' 20 = F0 20 ∧ F0 6 = 0 ∧ (F' 9 = 0 ∨ F0 8 < F' 8)) ∧ (F' 6 = 0 → F' 23 ≤ 124 → rd1 (A' 22) (A0 22) (F0 23) (F' 23) (F0 20))))) := by
  intro n
  induction n using Nat.strongRecOn with
  | ind n ih =>
    intro lv h F A v1 v2 hn g0 g1 g2 hI hF hA i1 i2 i3 i4
    refine k_iload 40 rfl g2 rfl ?_
    refine k_iload 41 rfl g1 rfl ?_
    by_cases b1 : v1 ≤ v2
    · refine k_c2 60 rfl rfl (if_pos b1) ?_
      have b1 := iv_le.mp b1
      refine k_aload 61 rfl g0 rfl ?_
      refine k_push 62 rfl rfl ?_
      have hc2 : (2 : Int32).toInt = 2 := by decide
      refine k_rv hI rfl (m_emits  hI.1 (show 0 ≤ (F 23) ∧ (F 23) ≤ 1000000 by omega)) rfl rfl rfl hI.rc ?_
      rintro h4 F5 A6 I7 ⟨k9, k10, p8⟩
      replace p8 : ((F 23) ≤ F5 23 ∧ F5 23 ≤ 1000000) ∧ (F5 23 ≤ 124 → F5 23 = (F 23) + 1) ∧ (F5 23 ≤ 124 → A6 22 ((F 23)) = (2 : Int32).toInt ∧ ∀ q : Int, q ≠ (F 23) → A6 22 q = (A 22) q) := p8
      obtain ⟨p8a, p8b, p8c⟩ := p8
      show am_Ok _ _ _ (65, _, [], _, 0, 0) _
      refine k_aload 66 rfl g0 rfl ?_
      have e11 : F5 8 = F 8 := k9 8 (by decide)
      have e12 : F5 7 = F 7 := k9 7 (by decide)
      have e13 : F 7 = F0 7 := hF 7 (by decide)
      refine k_rv I7 rfl (m_goes  I7.1 (show 0 ≤ (F5 8) ∧ (F5 8) ≤ (F5 7) ∧ (F5 7) ≤ 700 by omega)) rfl rfl rfl I7.rc ?_
      rintro h15 F16 A17 I18 ⟨k20, k21, p19⟩
      replace p19 : ((F5 8) ≤ F16 8 ∧ F16 8 ≤ (F5 7)) ∧ (F16 9 = 0 ∨ (F5 8) < F16 8) ∧ (F16 9 = 2 → 0 ≤ F16 11 ∧ F16 11 ≤ 9) ∧ (0 ≤ F16 9 ∧ F16 9 ≤ 4) := p19
      obtain ⟨p19a, p19b, p19c, p19d⟩ := p19
      have k21 := fr2.nil k21
      subst k21
      show am_Ok _ _ _ (69, _, [], _, 0, 0) _
      have e22 : F16 20 = F5 20 := k20 20 (by decide)
      have e23 : F5 20 = F 20 := k9 20 (by decide)
      have e24 : F 20 = F0 20 := hF 20 (by decide)
      have e25 : F16 21 = F5 21 := k20 21 (by decide)
      have e26 : F5 21 = F 21 := k9 21 (by decide)
      have e27 : F 21 = F0 21 := hF 21 (by decide)
      have e28 : F16 23 = F5 23 := k20 23 (by decide)
      have e29 : F16 6 = F5 6 := k20 6 (by decide)
      have e30 : F5 6 = F 6 := k9 6 (by decide)
      exact k_fin rfl rfl ⟨_, _, _, rfl, I18, (fr1.tr (by decide) (fr1.tr (by decide) hF k9) k20), (fr2.tr (by decide) hA k10), ⟨(show (F0 8 ≤ F16 8 ∧ F16 8 ≤ F0 7 ∧ F0 20 ≤ F16 20 ∧ F16 20 ≤ 30 ∧ F16 21 = F0 21 ∧ F0 23 ≤ F16 23 ∧ F16 23 ≤ 1000000 ∧ (F16 9 = 2 → 0 ≤ F16 11 ∧ F16 11 ≤ 9) ∧ 0 ≤ F16 9 ∧ F16 9 ≤ 4) by omega), (show (F16 6 = 0 → F16 20 = F0 20 ∧ F0 6 = 0 ∧ (F16 9 = 0 ∨ F0 8 < F16 8)) by omega), fun z1 z2 => by have z9 : F16 23 ≤ 124 := z2; have c2 := p8c (by omega); exact nu_end (i3 (by omega)) (by omega) (show F16 23 = F 23 + 1 by have h8 := p8b (by omega); omega) (c2.1.trans (by decide)) c2.2 (by omega)⟩⟩
    · refine k_c2 44 rfl rfl (if_neg b1) ?_
      have b1 := mt iv_le.mpr b1
      refine k_aload 45 rfl g0 rfl ?_
      refine k_push 46 rfl rfl ?_
      have hc31 : (0 : Int32).toInt = 0 := by decide
      refine k_rv hI rfl (m_emits  hI.1 (show 0 ≤ (F 23) ∧ (F 23) ≤ 1000000 by omega)) rfl rfl rfl hI.rc ?_
      rintro h33 F34 A35 I36 ⟨k38, k39, p37⟩
      replace p37 : ((F 23) ≤ F34 23 ∧ F34 23 ≤ 1000000) ∧ (F34 23 ≤ 124 → F34 23 = (F 23) + 1) ∧ (F34 23 ≤ 124 → A35 22 ((F 23)) = (0 : Int32).toInt ∧ ∀ q : Int, q ≠ (F 23) → A35 22 q = (A 22) q) := p37
      obtain ⟨p37a, p37b, p37c⟩ := p37
      show am_Ok _ _ _ (49, _, [], _, 0, 0) _
      have e1a := p37a
      have e1b := p37b
      have e1c := p37c
      refine k_aload 50 rfl g0 rfl ?_
      refine k_push 51 rfl rfl ?_
      have hc40 : (3 : Int32).toInt = 3 := by decide
      refine k_rv I36 rfl (m_emits  I36.1 (show 0 ≤ (F34 23) ∧ (F34 23) ≤ 1000000 by omega)) rfl rfl rfl I36.rc ?_
      rintro h42 F43 A44 I45 ⟨k47, k48, p46⟩
      replace p46 : ((F34 23) ≤ F43 23 ∧ F43 23 ≤ 1000000) ∧ (F43 23 ≤ 124 → F43 23 = (F34 23) + 1) ∧ (F43 23 ≤ 124 → A44 22 ((F34 23)) = (3 : Int32).toInt ∧ ∀ q : Int, q ≠ (F34 23) → A44 22 q = (A35 22) q) := p46
      obtain ⟨p46a, p46b, p46c⟩ := p46
      show am_Ok _ _ _ (54, _, [], _, 0, 0) _
      have hc49 : (1 : Int32).toInt = 1 := by decide
      obtain ⟨x50, q51⟩ : ∃ q : Int32, q = v2 + (1 : Int32) := ⟨_, rfl⟩
      have e52 : x50.toInt = v2.toInt + 1 := by rw [q51, iv_add (by omega) (by omega)]; omega
      refine k_iinc x50 57 rfl g2 q51.symm rfl ?_
      refine k_goto 39 rfl rfl ?_
      have e53 : F43 6 = F34 6 := k47 6 (by decide)
      have e54 : F34 6 = F 6 := k38 6 (by decide)
      have e55 : F43 8 = F34 8 := k47 8 (by decide)
      have e56 : F34 8 = F 8 := k38 8 (by decide)
      have e57 : F43 9 = F34 9 := k47 9 (by decide)
      have e58 : F34 9 = F 9 := k38 9 (by decide)
      have e59 : F43 11 = F34 11 := k47 11 (by decide)
      have e60 : F34 11 = F 11 := k38 11 (by decide)
      exact ih _ (show ((9 - x50.toInt).toNat) < n by omega)  rfl (gs_ne rfl rfl g0) (gs_ne rfl rfl g1) gs_eq I45 (fr1.tr (by decide) (fr1.tr (by decide) hF k38) k47) (fr2.tr (by decide) (fr2.tr (by decide) hA k39) k48) (show 0 ≤ x50.toInt ∧ x50.toInt ≤ v1.toInt ∧ v1.toInt ≤ 9 by omega) (show F0 23 ≤ (F43 23) ∧ (F43 23) ≤ 1000000 by omega) (fun z => by have z9 : F43 23 ≤ 124 := z; have c1 := e1c (by omega); have c2 := p46c z9; exact nu_s (i3 (by omega)) (e1b (by omega)) (c1.1.trans (by decide)) c1.2 (p46b z9) (c2.1.trans (by decide)) c2.2 (by omega) (by omega)) (show (F43 6) = 0 ∧ F0 6 = 0 ∧ (F43 8) = F0 8 ∧ (F43 9) = F0 9 ∧ (F43 11) = F0 11 by omega)
theorem m_readsNumber {h0 : am_h} {F0 : rf_f} {A0 : rf_A}  (hR : rf_R h0 F0 A0) (p1 : 0 ≤ F0 8 ∧ F0 8 ≤ F0 7 ∧ F0 7 ≤ 700 ∧ 0 ≤ F0 20 ∧ F0 20 ≤ 30 ∧ 0 ≤ F0 21 ∧ F0 21 ≤ 12 ∧ 0 ≤ F0 18 ∧ F0 18 ≤ 12 ∧ 0 ≤ F0 23 ∧ F0 23 ≤ 1000000 ∧ (F0 9 = 2 → 0 ≤ F0 11 ∧ F0 11 ≤ 9) ∧ 0 ≤ F0 9 ∧ F0 9 ≤ 4) (p2 : nm (A0 16) (A0 17) (F0 18)) (p3 : F0 9 = 2) : am_Mt 4 178 [.inr (.inr (some 81))] h0 (rf_V h0 (fun F' A' => fr1 [8, 10, 9, 14, 11, 12, 6, 5, 23] F0 F' ∧ fr2 [22] A0 A' ∧ ((F0 8 ≤ F' 8 ∧ F' 8 ≤ F0 7 ∧ F0 20 ≤ F' 20 ∧ F' 20 ≤ 30 ∧ F' 21 = F0 21 ∧ F0 23 ≤ F' 23 ∧ F' 23 ≤ 1000000 ∧ (F' 9 = 2 → 0 ≤ F' 11 ∧ F' 11 ≤ 9) ∧ 0 ≤ F' 9 ∧ F' 9 ≤ 4) ∧ (F' 6 = 0 → F' 20 = F0 20 ∧ F0 6 = 0 ∧ (F' 9 = 0 ∨ F0 8 < F' 8)) ∧ (F' 6 = 0 → F' 23 ≤ 124 → rd1 (A' 22) (A0 22) (F0 23) (F' 23) (F0 20))))) := by
  refine am_Mt.of (D := 3) ?_
  have hI : rf_I h0 h0 F0 A0 := rf_I.start hR
  refine k_aload 1 rfl rfl rfl ?_
  refine k_aload 2 rfl rfl rfl ?_
  refine r_gI hI 5 rfl rfl rfl (fun x61 (e62 : x61.toInt = F0 12) => ?_)
  refine k_push 6 rfl rfl ?_
  have hc63 : (1 : Int32).toInt = 1 := by decide
  by_cases b64 : x61 = (1 : Int32)
  · refine k_c2 9 rfl rfl (if_pos b64) ?_
    have b64 := iv_eq.mp b64
    refine k_push 10 rfl rfl ?_
    refine k_goto 14 rfl rfl ?_
    refine k_push 15 rfl rfl ?_
    have hc65 : (2 : Int32).toInt = 2 := by decide
    refine k_in (d := 1) rfl rfl rfl rfl hI.rc ?_
    refine k_aload 1 rfl rfl rfl ?_
    refine k_in (d := 0) rfl rfl rfl rfl hI.rc ?_
    refine k_aload 1 rfl rfl rfl ?_
    refine r_gI hI 4 rfl rfl rfl (fun x66 (e67 : x66.toInt = F0 6) => ?_)
    by_cases b68 : x66 = 0
    · refine k_c1 7 rfl rfl (if_pos b68) ?_
      have b68 := iv_eq0.mp b68
      refine k_push 8 rfl rfl ?_
      refine k_goto 12 rfl rfl ?_
      refine k_fin rfl (fin_Z (Or.inr rfl)) ⟨_, _, rfl, rf_len hI hI, ?_⟩
      show am_Ok _ _ _ (4, _, [.inl (1 : Int32)], _, 0, 0) _
      refine k_c1 7 rfl rfl (if_neg (by decide)) ?_
      refine k_iload 8 rfl rfl rfl ?_
      refine k_c1 24 rfl rfl (if_neg (by decide)) ?_
      refine k_aload 25 rfl rfl rfl ?_
      refine k_in (d := 0) rfl rfl rfl rfl hI.rc ?_
      refine k_aload 1 rfl rfl rfl ?_
      refine r_gI hI 4 rfl rfl rfl (fun x69 (e70 : x69.toInt = F0 6) => ?_)
      by_cases b71 : x69 = 0
      · refine k_c1 7 rfl rfl (if_pos b71) ?_
        have b71 := iv_eq0.mp b71
        refine k_push 8 rfl rfl ?_
        refine k_goto 12 rfl rfl ?_
        refine k_fin rfl (fin_Z (Or.inr rfl)) ⟨_, _, rfl, rf_len hI hI, ?_⟩
        show am_Ok _ _ _ (28, _, [.inl (1 : Int32)], _, 0, 0) _
        refine k_fin rfl (fin_Z (Or.inr rfl)) ⟨_, _, rfl, rf_len hI hI, ?_⟩
        show am_Ok _ _ _ (18, _, [.inl (1 : Int32)], _, 0, 0) _
        refine k_c1 22 rfl rfl (if_neg (by decide)) ?_
        refine k_aload 23 rfl rfl rfl ?_
        refine r_gI hI 26 rfl rfl rfl (fun x72 (e73 : x72.toInt = F0 11) => ?_)
        refine k_istore 27 rfl rfl ?_
        refine k_aload 28 rfl (gs_ne rfl rfl rfl) rfl ?_
        refine k_push 29 rfl rfl ?_
        refine k_rv hI rfl (m_emits  hI.1 (show 0 ≤ (F0 23) ∧ (F0 23) ≤ 1000000 by omega)) rfl rfl rfl hI.rc ?_
        rintro h75 F76 A77 I78 ⟨k80, k81, p79⟩
        replace p79 : ((F0 23) ≤ F76 23 ∧ F76 23 ≤ 1000000) ∧ (F76 23 ≤ 124 → F76 23 = (F0 23) + 1) ∧ (F76 23 ≤ 124 → A77 22 ((F0 23)) = (1 : Int32).toInt ∧ ∀ q : Int, q ≠ (F0 23) → A77 22 q = (A0 22) q) := p79
        obtain ⟨p79a, p79b, p79c⟩ := p79
        show am_Ok _ _ _ (32, _, [], _, 0, 0) _
        have e1a := p79a
        have e1b := p79b
        have e1c := p79c
        refine k_aload 33 rfl (gs_ne rfl rfl rfl) rfl ?_
        refine k_push 34 rfl rfl ?_
        refine k_rv I78 rfl (m_emits  I78.1 (show 0 ≤ (F76 23) ∧ (F76 23) ≤ 1000000 by omega)) rfl rfl rfl I78.rc ?_
        rintro h83 F84 A85 I86 ⟨k88, k89, p87⟩
        replace p87 : ((F76 23) ≤ F84 23 ∧ F84 23 ≤ 1000000) ∧ (F84 23 ≤ 124 → F84 23 = (F76 23) + 1) ∧ (F84 23 ≤ 124 → A85 22 ((F76 23)) = (1 : Int32).toInt ∧ ∀ q : Int, q ≠ (F76 23) → A85 22 q = (A77 22) q) := p87
        obtain ⟨p87a, p87b, p87c⟩ := p87
        show am_Ok _ _ _ (37, _, [], _, 0, 0) _
        refine k_push 38 rfl rfl ?_
        have hc90 : (0 : Int32).toInt = 0 := by decide
        refine k_istore 39 rfl rfl ?_
        have e91 : F84 6 = F76 6 := k88 6 (by decide)
        have e92 : F76 6 = F0 6 := k80 6 (by decide)
        have e93 : F84 8 = F76 8 := k88 8 (by decide)
        have e94 : F76 8 = F0 8 := k80 8 (by decide)
        have e95 : F84 9 = F76 9 := k88 9 (by decide)
        have e96 : F76 9 = F0 9 := k80 9 (by decide)
        have e97 : F84 11 = F76 11 := k88 11 (by decide)
        have e98 : F76 11 = F0 11 := k80 11 (by decide)
        exact b_X10_readsNumber_39   p1 p2 p3 _  rfl (gs_ne rfl rfl (gs_ne rfl rfl rfl)) (gs_ne rfl rfl gs_eq) gs_eq I86 (fr1.tr (by decide) (fr1.tr (by decide) fr1.rf k80) k88) (fr2.tr (by decide) (fr2.tr (by decide) fr2.rf k81) k89) (show 0 ≤ (0 : Int32).toInt ∧ (0 : Int32).toInt ≤ x72.toInt ∧ x72.toInt ≤ 9 by omega) (show F0 23 ≤ (F84 23) ∧ (F84 23) ≤ 1000000 by omega) (fun z => by have z9 : F84 23 ≤ 124 := z; have c1 := e1c (by omega); have c2 := p87c z9; rw [show (0 : Int32).toInt = 0 by decide]; exact nu_0 (e1b (by omega)) (c1.1.trans (by decide)) c1.2 (p87b z9) (c2.1.trans (by decide)) c2.2) (show (F84 6) = 0 ∧ F0 6 = 0 ∧ (F84 8) = F0 8 ∧ (F84 9) = F0 9 ∧ (F84 11) = F0 11 by omega)
      · refine k_c1 11 rfl rfl (if_neg b71) ?_
        have b71 := mt iv_eq0.mpr b71
        refine k_push 12 rfl rfl ?_
        have hc99 : (0 : Int32).toInt = 0 := by decide
        refine k_fin rfl (fin_Z (Or.inl rfl)) ⟨_, _, rfl, rf_len hI hI, ?_⟩
        show am_Ok _ _ _ (28, _, [.inl (0 : Int32)], _, 0, 0) _
        refine k_fin rfl (fin_Z (Or.inl rfl)) ⟨_, _, rfl, rf_len hI hI, ?_⟩
        show am_Ok _ _ _ (18, _, [.inl (0 : Int32)], _, 0, 0) _
        refine k_c1 21 rfl rfl (if_pos (by decide)) ?_
        exact k_fin rfl rfl ⟨_, _, _, rfl, hI, fr1.rf, fr2.rf, ⟨(show (F0 8 ≤ F0 8 ∧ F0 8 ≤ F0 7 ∧ F0 20 ≤ F0 20 ∧ F0 20 ≤ 30 ∧ F0 21 = F0 21 ∧ F0 23 ≤ F0 23 ∧ F0 23 ≤ 1000000 ∧ (F0 9 = 2 → 0 ≤ F0 11 ∧ F0 11 ≤ 9) ∧ 0 ≤ F0 9 ∧ F0 9 ≤ 4) by omega), (show (F0 6 = 0 → F0 20 = F0 20 ∧ F0 6 = 0 ∧ (F0 9 = 0 ∨ F0 8 < F0 8)) by omega), fun z => absurd (show F0 6 = 0 from z) (by omega)⟩⟩
    · refine k_c1 11 rfl rfl (if_neg b68) ?_
      have b68 := mt iv_eq0.mpr b68
      refine k_push 12 rfl rfl ?_
      have hc100 : (0 : Int32).toInt = 0 := by decide
      refine k_fin rfl (fin_Z (Or.inl rfl)) ⟨_, _, rfl, rf_len hI hI, ?_⟩
      show am_Ok _ _ _ (4, _, [.inl (0 : Int32)], _, 0, 0) _
      refine k_c1 24 rfl rfl (if_pos (by decide)) ?_
      refine k_aload 25 rfl rfl rfl ?_
      refine k_in (d := 0) rfl rfl rfl rfl hI.rc ?_
      refine k_aload 1 rfl rfl rfl ?_
      refine r_gI hI 4 rfl rfl rfl (fun x101 (e102 : x101.toInt = F0 6) => ?_)
      by_cases b103 : x101 = 0
      · refine k_c1 7 rfl rfl (if_pos b103) ?_
        have b103 := iv_eq0.mp b103
        refine k_push 8 rfl rfl ?_
        refine k_goto 12 rfl rfl ?_
        refine k_fin rfl (fin_Z (Or.inr rfl)) ⟨_, _, rfl, rf_len hI hI, ?_⟩
        show am_Ok _ _ _ (28, _, [.inl (1 : Int32)], _, 0, 0) _
        refine k_fin rfl (fin_Z (Or.inr rfl)) ⟨_, _, rfl, rf_len hI hI, ?_⟩
        show am_Ok _ _ _ (18, _, [.inl (1 : Int32)], _, 0, 0) _
        refine k_c1 22 rfl rfl (if_neg (by decide)) ?_
        refine k_aload 23 rfl rfl rfl ?_
        refine r_gI hI 26 rfl rfl rfl (fun x104 (e105 : x104.toInt = F0 11) => ?_)
        refine k_istore 27 rfl rfl ?_
        refine k_aload 28 rfl (gs_ne rfl rfl rfl) rfl ?_
        refine k_push 29 rfl rfl ?_
        refine k_rv hI rfl (m_emits  hI.1 (show 0 ≤ (F0 23) ∧ (F0 23) ≤ 1000000 by omega)) rfl rfl rfl hI.rc ?_
        rintro h107 F108 A109 I110 ⟨k112, k113, p111⟩
        replace p111 : ((F0 23) ≤ F108 23 ∧ F108 23 ≤ 1000000) ∧ (F108 23 ≤ 124 → F108 23 = (F0 23) + 1) ∧ (F108 23 ≤ 124 → A109 22 ((F0 23)) = (1 : Int32).toInt ∧ ∀ q : Int, q ≠ (F0 23) → A109 22 q = (A0 22) q) := p111
        obtain ⟨p111a, p111b, p111c⟩ := p111
        show am_Ok _ _ _ (32, _, [], _, 0, 0) _
        have e1a := p111a
        have e1b := p111b
        have e1c := p111c
        refine k_aload 33 rfl (gs_ne rfl rfl rfl) rfl ?_
        refine k_push 34 rfl rfl ?_
        refine k_rv I110 rfl (m_emits  I110.1 (show 0 ≤ (F108 23) ∧ (F108 23) ≤ 1000000 by omega)) rfl rfl rfl I110.rc ?_
        rintro h115 F116 A117 I118 ⟨k120, k121, p119⟩
        replace p119 : ((F108 23) ≤ F116 23 ∧ F116 23 ≤ 1000000) ∧ (F116 23 ≤ 124 → F116 23 = (F108 23) + 1) ∧ (F116 23 ≤ 124 → A117 22 ((F108 23)) = (1 : Int32).toInt ∧ ∀ q : Int, q ≠ (F108 23) → A117 22 q = (A109 22) q) := p119
        obtain ⟨p119a, p119b, p119c⟩ := p119
        show am_Ok _ _ _ (37, _, [], _, 0, 0) _
        refine k_push 38 rfl rfl ?_
        refine k_istore 39 rfl rfl ?_
        have e122 : F116 6 = F108 6 := k120 6 (by decide)
        have e123 : F108 6 = F0 6 := k112 6 (by decide)
        have e124 : F116 8 = F108 8 := k120 8 (by decide)
        have e125 : F108 8 = F0 8 := k112 8 (by decide)
        have e126 : F116 9 = F108 9 := k120 9 (by decide)
        have e127 : F108 9 = F0 9 := k112 9 (by decide)
        have e128 : F116 11 = F108 11 := k120 11 (by decide)
        have e129 : F108 11 = F0 11 := k112 11 (by decide)
        exact b_X10_readsNumber_39   p1 p2 p3 _  rfl (gs_ne rfl rfl (gs_ne rfl rfl rfl)) (gs_ne rfl rfl gs_eq) gs_eq I118 (fr1.tr (by decide) (fr1.tr (by decide) fr1.rf k112) k120) (fr2.tr (by decide) (fr2.tr (by decide) fr2.rf k113) k121) (show 0 ≤ (0 : Int32).toInt ∧ (0 : Int32).toInt ≤ x104.toInt ∧ x104.toInt ≤ 9 by omega) (show F0 23 ≤ (F116 23) ∧ (F116 23) ≤ 1000000 by omega) (fun z => by have z9 : F116 23 ≤ 124 := z; have c1 := e1c (by omega); have c2 := p119c z9; rw [show (0 : Int32).toInt = 0 by decide]; exact nu_0 (e1b (by omega)) (c1.1.trans (by decide)) c1.2 (p119b z9) (c2.1.trans (by decide)) c2.2) (show (F116 6) = 0 ∧ F0 6 = 0 ∧ (F116 8) = F0 8 ∧ (F116 9) = F0 9 ∧ (F116 11) = F0 11 by omega)
      · refine k_c1 11 rfl rfl (if_neg b103) ?_
        have b103 := mt iv_eq0.mpr b103
        refine k_push 12 rfl rfl ?_
        refine k_fin rfl (fin_Z (Or.inl rfl)) ⟨_, _, rfl, rf_len hI hI, ?_⟩
        show am_Ok _ _ _ (28, _, [.inl (0 : Int32)], _, 0, 0) _
        refine k_fin rfl (fin_Z (Or.inl rfl)) ⟨_, _, rfl, rf_len hI hI, ?_⟩
        show am_Ok _ _ _ (18, _, [.inl (0 : Int32)], _, 0, 0) _
        refine k_c1 21 rfl rfl (if_pos (by decide)) ?_
        exact k_fin rfl rfl ⟨_, _, _, rfl, hI, fr1.rf, fr2.rf, ⟨(show (F0 8 ≤ F0 8 ∧ F0 8 ≤ F0 7 ∧ F0 20 ≤ F0 20 ∧ F0 20 ≤ 30 ∧ F0 21 = F0 21 ∧ F0 23 ≤ F0 23 ∧ F0 23 ≤ 1000000 ∧ (F0 9 = 2 → 0 ≤ F0 11 ∧ F0 11 ≤ 9) ∧ 0 ≤ F0 9 ∧ F0 9 ≤ 4) by omega), (show (F0 6 = 0 → F0 20 = F0 20 ∧ F0 6 = 0 ∧ (F0 9 = 0 ∨ F0 8 < F0 8)) by omega), fun z => absurd (show F0 6 = 0 from z) (by omega)⟩⟩
  · refine k_c2 13 rfl rfl (if_neg b64) ?_
    have b64 := mt iv_eq.mpr b64
    refine k_push 14 rfl rfl ?_
    have hc130 : (0 : Int32).toInt = 0 := by decide
    refine k_push 15 rfl rfl ?_
    have hc131 : (2 : Int32).toInt = 2 := by decide
    refine k_in (d := 1) rfl rfl rfl rfl hI.rc ?_
    refine k_aload 1 rfl rfl rfl ?_
    refine k_in (d := 0) rfl rfl rfl rfl hI.rc ?_
    refine k_aload 1 rfl rfl rfl ?_
    refine r_gI hI 4 rfl rfl rfl (fun x132 (e133 : x132.toInt = F0 6) => ?_)
    by_cases b134 : x132 = 0
    · refine k_c1 7 rfl rfl (if_pos b134) ?_
      have b134 := iv_eq0.mp b134
      refine k_push 8 rfl rfl ?_
      refine k_goto 12 rfl rfl ?_
      refine k_fin rfl (fin_Z (Or.inr rfl)) ⟨_, _, rfl, rf_len hI hI, ?_⟩
      show am_Ok _ _ _ (4, _, [.inl (1 : Int32)], _, 0, 0) _
      refine k_c1 7 rfl rfl (if_neg (by decide)) ?_
      refine k_iload 8 rfl rfl rfl ?_
      refine k_c1 11 rfl rfl (if_pos (by decide)) ?_
      refine k_aload 12 rfl rfl rfl ?_
      refine k_iload 13 rfl rfl rfl ?_
      refine r_pI hI 16 rfl rfl rfl (fun h135 I136 => ?_)
      refine k_aload 17 rfl rfl rfl ?_
      refine k_aload 18 rfl rfl rfl ?_
      refine r_gI I136 21 rfl rfl rfl (fun x137 (e138 : x137.toInt = F0 10) => ?_)
      refine r_pI I136 24 rfl rfl rfl (fun h139 I140 => ?_)
      refine k_aload 25 rfl rfl rfl ?_
      refine k_in (d := 0) rfl rfl rfl rfl I140.rc ?_
      refine k_aload 1 rfl rfl rfl ?_
      refine r_gI I140 4 rfl rfl rfl (fun x141 (e142 : x141.toInt = (2 : Int32).toInt) => ?_)
      by_cases b143 : x141 = 0
      · refine k_c1 7 rfl rfl (if_pos b143) ?_
        have b143 := iv_eq0.mp b143
        refine k_push 8 rfl rfl ?_
        refine k_goto 12 rfl rfl ?_
        refine k_fin rfl (fin_Z (Or.inr rfl)) ⟨_, _, rfl, rf_len I140 I140, ?_⟩
        show am_Ok _ _ _ (28, _, [.inl (1 : Int32)], _, 0, 0) _
        refine k_fin rfl (fin_Z (Or.inr rfl)) ⟨_, _, rfl, rf_len hI I140, ?_⟩
        show am_Ok _ _ _ (18, _, [.inl (1 : Int32)], _, 0, 0) _
        refine k_c1 22 rfl rfl (if_neg (by decide)) ?_
        refine k_aload 23 rfl rfl rfl ?_
        refine r_gI I140 26 rfl rfl rfl (fun x144 (e145 : x144.toInt = F0 11) => ?_)
        refine k_istore 27 rfl rfl ?_
        refine k_aload 28 rfl (gs_ne rfl rfl rfl) rfl ?_
        refine k_push 29 rfl rfl ?_
        refine k_rv I140 rfl (m_emits  I140.1 (show 0 ≤ (F0 23) ∧ (F0 23) ≤ 1000000 by omega)) rfl rfl rfl I140.rc ?_
        rintro h147 F148 A149 I150 ⟨k152, k153, p151⟩
        replace p151 : ((F0 23) ≤ F148 23 ∧ F148 23 ≤ 1000000) ∧ (F148 23 ≤ 124 → F148 23 = (F0 23) + 1) ∧ (F148 23 ≤ 124 → A149 22 ((F0 23)) = (1 : Int32).toInt ∧ ∀ q : Int, q ≠ (F0 23) → A149 22 q = (A0 22) q) := p151
        obtain ⟨p151a, p151b, p151c⟩ := p151
        show am_Ok _ _ _ (32, _, [], _, 0, 0) _
        have e1a := p151a
        have e1b := p151b
        have e1c := p151c
        refine k_aload 33 rfl (gs_ne rfl rfl rfl) rfl ?_
        refine k_push 34 rfl rfl ?_
        refine k_rv I150 rfl (m_emits  I150.1 (show 0 ≤ (F148 23) ∧ (F148 23) ≤ 1000000 by omega)) rfl rfl rfl I150.rc ?_
        rintro h155 F156 A157 I158 ⟨k160, k161, p159⟩
        replace p159 : ((F148 23) ≤ F156 23 ∧ F156 23 ≤ 1000000) ∧ (F156 23 ≤ 124 → F156 23 = (F148 23) + 1) ∧ (F156 23 ≤ 124 → A157 22 ((F148 23)) = (1 : Int32).toInt ∧ ∀ q : Int, q ≠ (F148 23) → A157 22 q = (A149 22) q) := p159
        obtain ⟨p159a, p159b, p159c⟩ := p159
        show am_Ok _ _ _ (37, _, [], _, 0, 0) _
        refine k_push 38 rfl rfl ?_
        refine k_istore 39 rfl rfl ?_
        have e162 : F156 6 = F148 6 := k160 6 (by decide)
        have e163 : F148 6 = (2 : Int32).toInt := k152 6 (by decide)
        have e164 : F156 8 = F148 8 := k160 8 (by decide)
        have e165 : F148 8 = F0 8 := k152 8 (by decide)
        have e166 : F156 9 = F148 9 := k160 9 (by decide)
        have e167 : F148 9 = F0 9 := k152 9 (by decide)
        have e168 : F156 11 = F148 11 := k160 11 (by decide)
        have e169 : F148 11 = F0 11 := k152 11 (by decide)
        exact b_X10_readsNumber_39   p1 p2 p3 _  rfl (gs_ne rfl rfl (gs_ne rfl rfl rfl)) (gs_ne rfl rfl gs_eq) gs_eq I158 (fr1.tr (by decide) (fr1.tr (by decide) (fr1.up (by decide) (fr1.up (by decide) fr1.rf)) k152) k160) (fr2.tr (by decide) (fr2.tr (by decide) fr2.rf k153) k161) (show 0 ≤ (0 : Int32).toInt ∧ (0 : Int32).toInt ≤ x144.toInt ∧ x144.toInt ≤ 9 by omega) (show F0 23 ≤ (F156 23) ∧ (F156 23) ≤ 1000000 by omega) (fun z => by have z9 : F156 23 ≤ 124 := z; have c1 := e1c (by omega); have c2 := p159c z9; rw [show (0 : Int32).toInt = 0 by decide]; exact nu_0 (e1b (by omega)) (c1.1.trans (by decide)) c1.2 (p159b z9) (c2.1.trans (by decide)) c2.2) (show (F156 6) = 0 ∧ F0 6 = 0 ∧ (F156 8) = F0 8 ∧ (F156 9) = F0 9 ∧ (F156 11) = F0 11 by omega)
      · refine k_c1 11 rfl rfl (if_neg b143) ?_
        have b143 := mt iv_eq0.mpr b143
        refine k_push 12 rfl rfl ?_
        refine k_fin rfl (fin_Z (Or.inl rfl)) ⟨_, _, rfl, rf_len I140 I140, ?_⟩
        show am_Ok _ _ _ (28, _, [.inl (0 : Int32)], _, 0, 0) _
        refine k_fin rfl (fin_Z (Or.inl rfl)) ⟨_, _, rfl, rf_len hI I140, ?_⟩
        show am_Ok _ _ _ (18, _, [.inl (0 : Int32)], _, 0, 0) _
        refine k_c1 21 rfl rfl (if_pos (by decide)) ?_
        exact k_fin rfl rfl ⟨_, _, _, rfl, I140, (fr1.up (by decide) (fr1.up (by decide) fr1.rf)), fr2.rf, ⟨(show (F0 8 ≤ F0 8 ∧ F0 8 ≤ F0 7 ∧ F0 20 ≤ F0 20 ∧ F0 20 ≤ 30 ∧ F0 21 = F0 21 ∧ F0 23 ≤ F0 23 ∧ F0 23 ≤ 1000000 ∧ (F0 9 = 2 → 0 ≤ F0 11 ∧ F0 11 ≤ 9) ∧ 0 ≤ F0 9 ∧ F0 9 ≤ 4) by omega), (show ((2 : Int32).toInt = 0 → F0 20 = F0 20 ∧ F0 6 = 0 ∧ (F0 9 = 0 ∨ F0 8 < F0 8)) by omega), fun z => absurd (show (2 : Int32).toInt = 0 from z) (by omega)⟩⟩
    · refine k_c1 11 rfl rfl (if_neg b134) ?_
      have b134 := mt iv_eq0.mpr b134
      refine k_push 12 rfl rfl ?_
      refine k_fin rfl (fin_Z (Or.inl rfl)) ⟨_, _, rfl, rf_len hI hI, ?_⟩
      show am_Ok _ _ _ (4, _, [.inl (0 : Int32)], _, 0, 0) _
      refine k_c1 24 rfl rfl (if_pos (by decide)) ?_
      refine k_aload 25 rfl rfl rfl ?_
      refine k_in (d := 0) rfl rfl rfl rfl hI.rc ?_
      refine k_aload 1 rfl rfl rfl ?_
      refine r_gI hI 4 rfl rfl rfl (fun x170 (e171 : x170.toInt = F0 6) => ?_)
      by_cases b172 : x170 = 0
      · refine k_c1 7 rfl rfl (if_pos b172) ?_
        have b172 := iv_eq0.mp b172
        refine k_push 8 rfl rfl ?_
        refine k_goto 12 rfl rfl ?_
        refine k_fin rfl (fin_Z (Or.inr rfl)) ⟨_, _, rfl, rf_len hI hI, ?_⟩
        show am_Ok _ _ _ (28, _, [.inl (1 : Int32)], _, 0, 0) _
        refine k_fin rfl (fin_Z (Or.inr rfl)) ⟨_, _, rfl, rf_len hI hI, ?_⟩
        show am_Ok _ _ _ (18, _, [.inl (1 : Int32)], _, 0, 0) _
        refine k_c1 22 rfl rfl (if_neg (by decide)) ?_
        refine k_aload 23 rfl rfl rfl ?_
        refine r_gI hI 26 rfl rfl rfl (fun x173 (e174 : x173.toInt = F0 11) => ?_)
        refine k_istore 27 rfl rfl ?_
        refine k_aload 28 rfl (gs_ne rfl rfl rfl) rfl ?_
        refine k_push 29 rfl rfl ?_
        refine k_rv hI rfl (m_emits  hI.1 (show 0 ≤ (F0 23) ∧ (F0 23) ≤ 1000000 by omega)) rfl rfl rfl hI.rc ?_
        rintro h176 F177 A178 I179 ⟨k181, k182, p180⟩
        replace p180 : ((F0 23) ≤ F177 23 ∧ F177 23 ≤ 1000000) ∧ (F177 23 ≤ 124 → F177 23 = (F0 23) + 1) ∧ (F177 23 ≤ 124 → A178 22 ((F0 23)) = (1 : Int32).toInt ∧ ∀ q : Int, q ≠ (F0 23) → A178 22 q = (A0 22) q) := p180
        obtain ⟨p180a, p180b, p180c⟩ := p180
        show am_Ok _ _ _ (32, _, [], _, 0, 0) _
        have e1a := p180a
        have e1b := p180b
        have e1c := p180c
        refine k_aload 33 rfl (gs_ne rfl rfl rfl) rfl ?_
        refine k_push 34 rfl rfl ?_
        refine k_rv I179 rfl (m_emits  I179.1 (show 0 ≤ (F177 23) ∧ (F177 23) ≤ 1000000 by omega)) rfl rfl rfl I179.rc ?_
        rintro h184 F185 A186 I187 ⟨k189, k190, p188⟩
        replace p188 : ((F177 23) ≤ F185 23 ∧ F185 23 ≤ 1000000) ∧ (F185 23 ≤ 124 → F185 23 = (F177 23) + 1) ∧ (F185 23 ≤ 124 → A186 22 ((F177 23)) = (1 : Int32).toInt ∧ ∀ q : Int, q ≠ (F177 23) → A186 22 q = (A178 22) q) := p188
        obtain ⟨p188a, p188b, p188c⟩ := p188
        show am_Ok _ _ _ (37, _, [], _, 0, 0) _
        refine k_push 38 rfl rfl ?_
        refine k_istore 39 rfl rfl ?_
        have e191 : F185 6 = F177 6 := k189 6 (by decide)
        have e192 : F177 6 = F0 6 := k181 6 (by decide)
        have e193 : F185 8 = F177 8 := k189 8 (by decide)
        have e194 : F177 8 = F0 8 := k181 8 (by decide)
        have e195 : F185 9 = F177 9 := k189 9 (by decide)
        have e196 : F177 9 = F0 9 := k181 9 (by decide)
        have e197 : F185 11 = F177 11 := k189 11 (by decide)
        have e198 : F177 11 = F0 11 := k181 11 (by decide)
        exact b_X10_readsNumber_39   p1 p2 p3 _  rfl (gs_ne rfl rfl (gs_ne rfl rfl rfl)) (gs_ne rfl rfl gs_eq) gs_eq I187 (fr1.tr (by decide) (fr1.tr (by decide) fr1.rf k181) k189) (fr2.tr (by decide) (fr2.tr (by decide) fr2.rf k182) k190) (show 0 ≤ (0 : Int32).toInt ∧ (0 : Int32).toInt ≤ x173.toInt ∧ x173.toInt ≤ 9 by omega) (show F0 23 ≤ (F185 23) ∧ (F185 23) ≤ 1000000 by omega) (fun z => by have z9 : F185 23 ≤ 124 := z; have c1 := e1c (by omega); have c2 := p188c z9; rw [show (0 : Int32).toInt = 0 by decide]; exact nu_0 (e1b (by omega)) (c1.1.trans (by decide)) c1.2 (p188b z9) (c2.1.trans (by decide)) c2.2) (show (F185 6) = 0 ∧ F0 6 = 0 ∧ (F185 8) = F0 8 ∧ (F185 9) = F0 9 ∧ (F185 11) = F0 11 by omega)
      · refine k_c1 11 rfl rfl (if_neg b172) ?_
        have b172 := mt iv_eq0.mpr b172
        refine k_push 12 rfl rfl ?_
        refine k_fin rfl (fin_Z (Or.inl rfl)) ⟨_, _, rfl, rf_len hI hI, ?_⟩
        show am_Ok _ _ _ (28, _, [.inl (0 : Int32)], _, 0, 0) _
        refine k_fin rfl (fin_Z (Or.inl rfl)) ⟨_, _, rfl, rf_len hI hI, ?_⟩
        show am_Ok _ _ _ (18, _, [.inl (0 : Int32)], _, 0, 0) _
        refine k_c1 21 rfl rfl (if_pos (by decide)) ?_
        exact k_fin rfl rfl ⟨_, _, _, rfl, hI, fr1.rf, fr2.rf, ⟨(show (F0 8 ≤ F0 8 ∧ F0 8 ≤ F0 7 ∧ F0 20 ≤ F0 20 ∧ F0 20 ≤ 30 ∧ F0 21 = F0 21 ∧ F0 23 ≤ F0 23 ∧ F0 23 ≤ 1000000 ∧ (F0 9 = 2 → 0 ≤ F0 11 ∧ F0 11 ≤ 9) ∧ 0 ≤ F0 9 ∧ F0 9 ≤ 4) by omega), (show (F0 6 = 0 → F0 20 = F0 20 ∧ F0 6 = 0 ∧ (F0 9 = 0 ∨ F0 8 < F0 8)) by omega), fun z => absurd (show F0 6 = 0 from z) (by omega)⟩⟩
end
