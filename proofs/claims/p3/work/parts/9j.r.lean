section
theorem b_X10_readsAll_34 {h0 : am_h} {F0 : rf_f} {A0 : rf_A}  (p1 : 0 ≤ F0 7 ∧ F0 7 ≤ 700) (p2 : 0 ≤ F0 23 ∧ F0 23 ≤ 1000000) : ∀ (n : Nat) {lv : am_l} {h : am_h} {F : rf_f} {A : rf_A}, ((13 - F 18 + (if F 6 = 0 then 20 else 0)).toNat) = n → am_get lv 0 = some (.inr (.inr (some 81))) → rf_I h0 h F A → fr1 [8, 10, 9, 14, 11, 12, 6, 5, 23, 20, 21, 18] F0 F → fr2 [22, 17, 16] A0 A → (0 ≤ F 8 ∧ F 8 ≤ F0 7 ∧ 0 ≤ F 20 ∧ F 20 ≤ 30 ∧ F 21 = 0 ∧ 0 ≤ F 18 ∧ F 18 ≤ 12 ∧ 0 ≤ F 23 ∧ F 23 ≤ 1000000 ∧ (F 9 = 2 → 0 ≤ F 11 ∧ F 11 ≤ 9) ∧ 0 ≤ F 9 ∧ F 9 ≤ 4 ∧ (F 6 = 0 → F 20 = 0)) → (nm (A 16) (A 17) (F 18)) → am_Ok am_G 92 185 (34, lv, [], h, 0, 0) (rf_V h0 (fun F' A' => fr1 [8, 10, 9, 14, 11, 12, 6, 5, 23, 20, 21, 18] F0 F' ∧ fr2 [22, 17, 16] A0 A' ∧ ((0 ≤ F' 23 ∧ F' 23 ≤ 1000000) ∧ (F' 6 = 0 → F' 23 ≤ 120) ∧ (F' 6 = 0 → rz (A' 22) (F' 23))))) := by
  intro n
  induction n using Nat.strongRecOn with
  | ind n ih =>
    intro lv h F A  hn g0 hI hF hA i1 i2
    refine k_aload 35 rfl g0 rfl ?_
    refine k_in (d := 2) rfl rfl rfl rfl hI.rc ?_
    refine k_aload 1 rfl rfl rfl ?_
    refine k_in (d := 0) rfl rfl rfl rfl hI.rc ?_
    refine k_aload 1 rfl rfl rfl ?_
    refine r_gI hI 4 rfl rfl rfl (fun x1 (e2 : x1.toInt = F 6) => ?_)
    by_cases b3 : x1 = 0
    · refine k_c1 7 rfl rfl (if_pos b3) ?_
      have b3 := iv_eq0.mp b3
      refine k_push 8 rfl rfl ?_
      have hc4 : (1 : Int32).toInt = 1 := by decide
      refine k_goto 12 rfl rfl ?_
      refine k_fin rfl (fin_Z (Or.inr rfl)) ⟨_, _, rfl, rf_len hI hI, ?_⟩
      show am_Ok _ _ _ (4, _, [.inl (1 : Int32)], _, 0, 0) _
      refine k_c1 7 rfl rfl (if_neg (by decide)) ?_
      refine k_aload 8 rfl rfl rfl ?_
      refine r_gI hI 11 rfl rfl rfl (fun x5 (e6 : x5.toInt = F 9) => ?_)
      refine k_push 12 rfl rfl ?_
      by_cases b7 : x5 = (1 : Int32)
      · refine k_c2 15 rfl rfl (if_pos b7) ?_
        have b7 := iv_eq.mp b7
        refine k_aload 16 rfl rfl rfl ?_
        refine k_aload 17 rfl rfl rfl ?_
        refine k_aload 18 rfl rfl rfl ?_
        refine r_gI hI 21 rfl rfl rfl (fun x8 (e9 : x8.toInt = F 8) => ?_)
        have e10 : F 7 = F0 7 := hF 7 (by decide)
        refine k_rq hI rfl (m_blanksFrom  hI.1 (show 0 ≤ x8.toInt ∧ x8.toInt ≤ (F 7) ∧ (F 7) ≤ 700 by omega)) rfl rfl rfl hI.rc ?_
        rintro x11 h12 F13 A14 I15 ⟨k17, k18, p16⟩
        replace p16 : x8.toInt ≤ x11.toInt ∧ x11.toInt ≤ (F 7) := p16
        have k17 := fr1.nil k17
        subst k17
        have k18 := fr2.nil k18
        subst k18
        show am_Ok _ _ _ (24, _, [.inl x11, .inr (.inr (some 81))], _, 0, 0) _
        refine k_rq I15 rfl (m_byteAt  I15.1 (show 0 ≤ x11.toInt ∧ (F 7) ≤ 700 by omega)) rfl rfl rfl I15.rc ?_
        rintro x19 h20 F21 A22 I23 ⟨k25, k26, p24⟩
        replace p24 : (x11.toInt < (F 7) ∧ x19.toInt = (A 3) x11.toInt) ∨ ((F 7) ≤ x11.toInt ∧ x19.toInt = -1) := p24
        have k25 := fr1.nil k25
        subst k25
        have k26 := fr2.nil k26
        subst k26
        show am_Ok _ _ _ (27, _, [.inl x19], _, 0, 0) _
        refine k_push 29 rfl rfl ?_
        have hc27 : (61 : Int32).toInt = 61 := by decide
        by_cases b28 : x19 = (61 : Int32)
        · refine k_c2 32 rfl rfl (if_pos b28) ?_
          have b28 := iv_eq.mp b28
          refine k_push 33 rfl rfl ?_
          refine k_goto 37 rfl rfl ?_
          refine k_fin rfl (fin_Z (Or.inr rfl)) ⟨_, _, rfl, rf_len hI I23, ?_⟩
          show am_Ok _ _ _ (38, _, [.inl (1 : Int32)], _, 0, 0) _
          refine k_c1 41 rfl rfl (if_neg (by decide)) ?_
          refine k_aload 42 rfl g0 rfl ?_
          refine k_rv I23 rfl (m_readsTelling  I23.1 (show 0 ≤ (F 8) ∧ (F 8) ≤ (F 7) ∧ (F 7) ≤ 700 ∧ 0 ≤ (F 20) ∧ (F 20) ≤ 30 ∧ 0 ≤ (F 21) ∧ (F 21) ≤ 12 ∧ 0 ≤ (F 18) ∧ (F 18) ≤ 12 ∧ 0 ≤ (F 23) ∧ (F 23) ≤ 1000000 ∧ ((F 9) = 2 → 0 ≤ (F 11) ∧ (F 11) ≤ 9) ∧ 0 ≤ (F 9) ∧ (F 9) ≤ 4 by omega) (show nm ((A 16)) ((A 17)) ((F 18)) from i2) (show (F 20) = 0 ∧ (F 21) = 0 ∧ (F 6) = 0 by omega)) rfl rfl rfl I23.rc ?_
          rintro h30 F31 A32 I33 ⟨k35, k36, p34⟩
          replace p34 : ((F 8) ≤ F31 8 ∧ F31 8 ≤ (F 7) ∧ 0 ≤ F31 20 ∧ F31 20 ≤ 30 ∧ F31 21 = 0 ∧ 0 ≤ F31 23 ∧ F31 23 ≤ 1000000 ∧ (F31 9 = 2 → 0 ≤ F31 11 ∧ F31 11 ≤ 9) ∧ 0 ≤ F31 9 ∧ F31 9 ≤ 4) ∧ (F31 6 = 0 → F31 20 = 0 ∧ F31 18 = (F 18) + 1) ∧ ((F 18) ≤ F31 18 ∧ F31 18 ≤ 12) ∧ nm (A32 16) (A32 17) (F31 18) := p34
          obtain ⟨p34a, p34b, p34c, p34d⟩ := p34
          show am_Ok _ _ _ (45, _, [], _, 0, 0) _
          refine k_goto 34 rfl rfl ?_
          exact ih _ ((by rw [← hn]; (repeat' split) <;> omega))  rfl g0 I33 (fr1.tr (by decide) hF k35) (fr2.tr (by decide) hA k36) (show 0 ≤ (F31 8) ∧ (F31 8) ≤ F0 7 ∧ 0 ≤ (F31 20) ∧ (F31 20) ≤ 30 ∧ (F31 21) = 0 ∧ 0 ≤ (F31 18) ∧ (F31 18) ≤ 12 ∧ 0 ≤ (F31 23) ∧ (F31 23) ≤ 1000000 ∧ ((F31 9) = 2 → 0 ≤ (F31 11) ∧ (F31 11) ≤ 9) ∧ 0 ≤ (F31 9) ∧ (F31 9) ≤ 4 ∧ ((F31 6) = 0 → (F31 20) = 0) by omega) (show nm ((A32 16)) ((A32 17)) ((F31 18)) from p34d)
        · refine k_c2 36 rfl rfl (if_neg b28) ?_
          have b28 := mt iv_eq.mpr b28
          refine k_push 37 rfl rfl ?_
          have hc37 : (0 : Int32).toInt = 0 := by decide
          refine k_fin rfl (fin_Z (Or.inl rfl)) ⟨_, _, rfl, rf_len hI I23, ?_⟩
          show am_Ok _ _ _ (38, _, [.inl (0 : Int32)], _, 0, 0) _
          refine k_c1 48 rfl rfl (if_pos (by decide)) ?_
          refine k_aload 49 rfl g0 rfl ?_
          refine k_push 50 rfl rfl ?_
          refine r_pI I23 53 rfl rfl rfl (fun h38 I39 => ?_)
          refine k_aload 54 rfl g0 rfl ?_
          refine k_rv I39 rfl (reads_all (gk := 43) I39.1 (show 0 ≤ (F 8) ∧ (F 8) ≤ (F 7) ∧ (F 7) ≤ 700 ∧ 0 ≤ (F 20) ∧ (F 20) ≤ 30 ∧ 0 ≤ (F 21) ∧ (F 21) ≤ 12 ∧ 0 ≤ (F 18) ∧ (F 18) ≤ 12 ∧ 0 ≤ ((0 : Int32).toInt) ∧ ((0 : Int32).toInt) ≤ 1000000 ∧ ((F 9) = 2 → 0 ≤ (F 11) ∧ (F 11) ≤ 9) ∧ 0 ≤ (F 9) ∧ (F 9) ≤ 4 by omega) (show nm ((A 16)) ((A 17)) ((F 18)) by rw [(show A 16 = A 16 from rfl), (show A 17 = A 17 from rfl), (show F 18 = F 18 from rfl)]; exact i2) (show (12 - (F 21)) + (30 - (F 20)) < ((43) : Int) by omega)) rfl rfl rfl I39.rc ?_
          rintro h41 F42 A43 I44 ⟨k46, k47, p45⟩
          replace p45 : ((F 8) ≤ F42 8 ∧ F42 8 ≤ (F 7) ∧ (F 20) ≤ F42 20 ∧ F42 20 ≤ 30 ∧ F42 21 = (F 21) ∧ ((0 : Int32).toInt) ≤ F42 23 ∧ F42 23 ≤ 1000000 ∧ (F42 9 = 2 → 0 ≤ F42 11 ∧ F42 11 ≤ 9) ∧ 0 ≤ F42 9 ∧ F42 9 ≤ 4) ∧ (F42 6 = 0 → F42 20 = (F 20) ∧ (F 6) = 0 ∧ (F42 9 = 0 ∨ (F 8) < F42 8)) ∧ (F42 6 = 0 → F42 23 ≤ 124 → rd1 (A43 22) ((A 22)) (((0 : Int32).toInt)) (F42 23) ((F 20))) := p45
          obtain ⟨p45a, p45b, p45c⟩ := p45
          show am_Ok _ _ _ (57, _, [], _, 0, 0) _
          refine k_aload 58 rfl g0 rfl ?_
          refine k_aload 59 rfl g0 rfl ?_
          refine r_gI I44 62 rfl rfl rfl (fun x48 (e49 : x48.toInt = F42 9) => ?_)
          by_cases b50 : x48 = 0
          · refine k_c1 65 rfl rfl (if_pos b50) ?_
            have b50 := iv_eq0.mp b50
            refine k_push 66 rfl rfl ?_
            refine k_goto 70 rfl rfl ?_
            refine k_push 71 rfl rfl ?_
            refine k_rq I44 rfl (m_check  I44.1 (show (1 : Int32).toInt ≠ 0 by decide)) rfl rfl rfl I44.rc ?_
            rintro x51 h52 F53 A54 I55 ⟨k57, k58, p56⟩
            replace p56 : (x51.toInt = 1 ∧ (F42 6) = 0 ∧ (1 : Int32).toInt ≠ 0 ∧ F53 6 = 0) ∨ (x51.toInt = 0 ∧ F53 6 ≠ 0) := p56
            have k58 := fr2.nil k58
            subst k58
            have z59 := iv_01 (x := x51) (by omega)
            show am_Ok _ _ _ (74, _, [.inl x51], _, 0, 0) _
            have k91 := p56
            refine k_pop 75 rfl rfl rfl ?_
            refine k_aload 76 rfl g0 rfl ?_
            refine k_aload 77 rfl g0 rfl ?_
            refine r_gI I55 80 rfl rfl rfl (fun x60 (e61 : x60.toInt = F53 23) => ?_)
            have e62 : F53 23 = F42 23 := k57 23 (by decide)
            refine k_push 82 rfl rfl ?_
            have hc63 : (120 : Int32).toInt = 120 := by decide
            by_cases b64 : (120 : Int32) < x60
            · refine k_c2 89 rfl rfl (if_pos b64) ?_
              have b64 := iv_lt.mp b64
              refine k_push 90 rfl rfl ?_
              refine k_push 91 rfl rfl ?_
              have hc65 : (5 : Int32).toInt = 5 := by decide
              refine k_rq I55 rfl (m_check  I55.1 (show (5 : Int32).toInt ≠ 0 by decide)) rfl rfl rfl I55.rc ?_
              rintro x66 h67 F68 A69 I70 ⟨k72, k73, p71⟩
              replace p71 : (x66.toInt = 1 ∧ (F53 6) = 0 ∧ (0 : Int32).toInt ≠ 0 ∧ F68 6 = 0) ∨ (x66.toInt = 0 ∧ F68 6 ≠ 0) := p71
              have k73 := fr2.nil k73
              subst k73
              have z74 := iv_01 (x := x66) (by omega)
              show am_Ok _ _ _ (94, _, [.inl x66], _, 0, 0) _
              refine k_pop 95 rfl rfl rfl ?_
              have e75 : F68 23 = F53 23 := k72 23 (by decide)
              exact k_fin rfl rfl ⟨_, _, _, rfl, I70, (fr1.tr (by decide) (fr1.tr (by decide) (fr1.tr (by decide) (fr1.up (by decide) hF) k46) k57) k72), (fr2.tr (by decide) hA k47), ⟨(show 0 ≤ F68 23 ∧ F68 23 ≤ 1000000 by omega), (show F68 6 = 0 → F68 23 ≤ 120 by omega), fun z => by have z8 : F68 6 = 0 := z; have h9 := p45c (by omega) (by omega); show rz (A43 22) (F68 23); exact ⟨_, rd_cg h9 (by omega) (by omega) (by omega)⟩⟩⟩
            · refine k_c2 85 rfl rfl (if_neg b64) ?_
              have b64 := mt iv_lt.mpr b64
              refine k_push 86 rfl rfl ?_
              refine k_goto 90 rfl rfl ?_
              refine k_push 91 rfl rfl ?_
              have hc76 : (5 : Int32).toInt = 5 := by decide
              refine k_rq I55 rfl (m_check  I55.1 (show (5 : Int32).toInt ≠ 0 by decide)) rfl rfl rfl I55.rc ?_
              rintro x77 h78 F79 A80 I81 ⟨k83, k84, p82⟩
              replace p82 : (x77.toInt = 1 ∧ (F53 6) = 0 ∧ (1 : Int32).toInt ≠ 0 ∧ F79 6 = 0) ∨ (x77.toInt = 0 ∧ F79 6 ≠ 0) := p82
              have k84 := fr2.nil k84
              subst k84
              have z85 := iv_01 (x := x77) (by omega)
              show am_Ok _ _ _ (94, _, [.inl x77], _, 0, 0) _
              refine k_pop 95 rfl rfl rfl ?_
              have e86 : F79 23 = F53 23 := k83 23 (by decide)
              exact k_fin rfl rfl ⟨_, _, _, rfl, I81, (fr1.tr (by decide) (fr1.tr (by decide) (fr1.tr (by decide) (fr1.up (by decide) hF) k46) k57) k83), (fr2.tr (by decide) hA k47), ⟨(show 0 ≤ F79 23 ∧ F79 23 ≤ 1000000 by omega), (show F79 6 = 0 → F79 23 ≤ 120 by omega), fun z => by have z8 : F79 6 = 0 := z; have h9 := p45c (by omega) (by omega); show rz (A43 22) (F79 23); exact ⟨_, rd_cg h9 (by omega) (by omega) (by omega)⟩⟩⟩
          · refine k_c1 69 rfl rfl (if_neg b50) ?_
            have b50 := mt iv_eq0.mpr b50
            refine k_push 70 rfl rfl ?_
            refine k_push 71 rfl rfl ?_
            refine k_rq I44 rfl (m_check  I44.1 (show (1 : Int32).toInt ≠ 0 by decide)) rfl rfl rfl I44.rc ?_
            rintro x87 h88 F89 A90 I91 ⟨k93, k94, p92⟩
            replace p92 : (x87.toInt = 1 ∧ (F42 6) = 0 ∧ (0 : Int32).toInt ≠ 0 ∧ F89 6 = 0) ∨ (x87.toInt = 0 ∧ F89 6 ≠ 0) := p92
            have k94 := fr2.nil k94
            subst k94
            have z95 := iv_01 (x := x87) (by omega)
            show am_Ok _ _ _ (74, _, [.inl x87], _, 0, 0) _
            have k91 := p92
            refine k_pop 75 rfl rfl rfl ?_
            refine k_aload 76 rfl g0 rfl ?_
            refine k_aload 77 rfl g0 rfl ?_
            refine r_gI I91 80 rfl rfl rfl (fun x96 (e97 : x96.toInt = F89 23) => ?_)
            have e98 : F89 23 = F42 23 := k93 23 (by decide)
            refine k_push 82 rfl rfl ?_
            have hc99 : (120 : Int32).toInt = 120 := by decide
            by_cases b100 : (120 : Int32) < x96
            · refine k_c2 89 rfl rfl (if_pos b100) ?_
              have b100 := iv_lt.mp b100
              refine k_push 90 rfl rfl ?_
              refine k_push 91 rfl rfl ?_
              have hc101 : (5 : Int32).toInt = 5 := by decide
              refine k_rq I91 rfl (m_check  I91.1 (show (5 : Int32).toInt ≠ 0 by decide)) rfl rfl rfl I91.rc ?_
              rintro x102 h103 F104 A105 I106 ⟨k108, k109, p107⟩
              replace p107 : (x102.toInt = 1 ∧ (F89 6) = 0 ∧ (0 : Int32).toInt ≠ 0 ∧ F104 6 = 0) ∨ (x102.toInt = 0 ∧ F104 6 ≠ 0) := p107
              have k109 := fr2.nil k109
              subst k109
              have z110 := iv_01 (x := x102) (by omega)
              show am_Ok _ _ _ (94, _, [.inl x102], _, 0, 0) _
              refine k_pop 95 rfl rfl rfl ?_
              have e111 : F104 23 = F89 23 := k108 23 (by decide)
              exact k_fin rfl rfl ⟨_, _, _, rfl, I106, (fr1.tr (by decide) (fr1.tr (by decide) (fr1.tr (by decide) (fr1.up (by decide) hF) k46) k93) k108), (fr2.tr (by decide) hA k47), ⟨(show 0 ≤ F104 23 ∧ F104 23 ≤ 1000000 by omega), (show F104 6 = 0 → F104 23 ≤ 120 by omega), fun z => by have z8 : F104 6 = 0 := z; have h9 := p45c (by omega) (by omega); show rz (A43 22) (F104 23); exact ⟨_, rd_cg h9 (by omega) (by omega) (by omega)⟩⟩⟩
            · refine k_c2 85 rfl rfl (if_neg b100) ?_
              have b100 := mt iv_lt.mpr b100
              refine k_push 86 rfl rfl ?_
              refine k_goto 90 rfl rfl ?_
              refine k_push 91 rfl rfl ?_
              have hc112 : (5 : Int32).toInt = 5 := by decide
              refine k_rq I91 rfl (m_check  I91.1 (show (5 : Int32).toInt ≠ 0 by decide)) rfl rfl rfl I91.rc ?_
              rintro x113 h114 F115 A116 I117 ⟨k119, k120, p118⟩
              replace p118 : (x113.toInt = 1 ∧ (F89 6) = 0 ∧ (1 : Int32).toInt ≠ 0 ∧ F115 6 = 0) ∨ (x113.toInt = 0 ∧ F115 6 ≠ 0) := p118
              have k120 := fr2.nil k120
              subst k120
              have z121 := iv_01 (x := x113) (by omega)
              show am_Ok _ _ _ (94, _, [.inl x113], _, 0, 0) _
              refine k_pop 95 rfl rfl rfl ?_
              have e122 : F115 23 = F89 23 := k119 23 (by decide)
              exact k_fin rfl rfl ⟨_, _, _, rfl, I117, (fr1.tr (by decide) (fr1.tr (by decide) (fr1.tr (by decide) (fr1.up (by decide) hF) k46) k93) k119), (fr2.tr (by decide) hA k47), ⟨(show 0 ≤ F115 23 ∧ F115 23 ≤ 1000000 by omega), (show F115 6 = 0 → F115 23 ≤ 120 by omega), fun z => by have z8 : F115 6 = 0 := z; have h9 := p45c (by omega) (by omega); show rz (A43 22) (F115 23); exact ⟨_, rd_cg h9 (by omega) (by omega) (by omega)⟩⟩⟩
      · refine k_c2 36 rfl rfl (if_neg b7) ?_
        have b7 := mt iv_eq.mpr b7
        refine k_push 37 rfl rfl ?_
        have hc123 : (0 : Int32).toInt = 0 := by decide
        refine k_fin rfl (fin_Z (Or.inl rfl)) ⟨_, _, rfl, rf_len hI hI, ?_⟩
        show am_Ok _ _ _ (38, _, [.inl (0 : Int32)], _, 0, 0) _
        refine k_c1 48 rfl rfl (if_pos (by decide)) ?_
        refine k_aload 49 rfl g0 rfl ?_
        refine k_push 50 rfl rfl ?_
        refine r_pI hI 53 rfl rfl rfl (fun h124 I125 => ?_)
        refine k_aload 54 rfl g0 rfl ?_
        have e126 : F 7 = F0 7 := hF 7 (by decide)
        refine k_rv I125 rfl (reads_all (gk := 43) I125.1 (show 0 ≤ (F 8) ∧ (F 8) ≤ (F 7) ∧ (F 7) ≤ 700 ∧ 0 ≤ (F 20) ∧ (F 20) ≤ 30 ∧ 0 ≤ (F 21) ∧ (F 21) ≤ 12 ∧ 0 ≤ (F 18) ∧ (F 18) ≤ 12 ∧ 0 ≤ ((0 : Int32).toInt) ∧ ((0 : Int32).toInt) ≤ 1000000 ∧ ((F 9) = 2 → 0 ≤ (F 11) ∧ (F 11) ≤ 9) ∧ 0 ≤ (F 9) ∧ (F 9) ≤ 4 by omega) (show nm ((A 16)) ((A 17)) ((F 18)) by rw [(show A 16 = A 16 from rfl), (show A 17 = A 17 from rfl), (show F 18 = F 18 from rfl)]; exact i2) (show (12 - (F 21)) + (30 - (F 20)) < ((43) : Int) by omega)) rfl rfl rfl I125.rc ?_
        rintro h128 F129 A130 I131 ⟨k133, k134, p132⟩
        replace p132 : ((F 8) ≤ F129 8 ∧ F129 8 ≤ (F 7) ∧ (F 20) ≤ F129 20 ∧ F129 20 ≤ 30 ∧ F129 21 = (F 21) ∧ ((0 : Int32).toInt) ≤ F129 23 ∧ F129 23 ≤ 1000000 ∧ (F129 9 = 2 → 0 ≤ F129 11 ∧ F129 11 ≤ 9) ∧ 0 ≤ F129 9 ∧ F129 9 ≤ 4) ∧ (F129 6 = 0 → F129 20 = (F 20) ∧ (F 6) = 0 ∧ (F129 9 = 0 ∨ (F 8) < F129 8)) ∧ (F129 6 = 0 → F129 23 ≤ 124 → rd1 (A130 22) ((A 22)) (((0 : Int32).toInt)) (F129 23) ((F 20))) := p132
        obtain ⟨p132a, p132b, p132c⟩ := p132
        show am_Ok _ _ _ (57, _, [], _, 0, 0) _
        refine k_aload 58 rfl g0 rfl ?_
        refine k_aload 59 rfl g0 rfl ?_
        refine r_gI I131 62 rfl rfl rfl (fun x135 (e136 : x135.toInt = F129 9) => ?_)
        by_cases b137 : x135 = 0
        · refine k_c1 65 rfl rfl (if_pos b137) ?_
          have b137 := iv_eq0.mp b137
          refine k_push 66 rfl rfl ?_
          refine k_goto 70 rfl rfl ?_
          refine k_push 71 rfl rfl ?_
          refine k_rq I131 rfl (m_check  I131.1 (show (1 : Int32).toInt ≠ 0 by decide)) rfl rfl rfl I131.rc ?_
          rintro x138 h139 F140 A141 I142 ⟨k144, k145, p143⟩
          replace p143 : (x138.toInt = 1 ∧ (F129 6) = 0 ∧ (1 : Int32).toInt ≠ 0 ∧ F140 6 = 0) ∨ (x138.toInt = 0 ∧ F140 6 ≠ 0) := p143
          have k145 := fr2.nil k145
          subst k145
          have z146 := iv_01 (x := x138) (by omega)
          show am_Ok _ _ _ (74, _, [.inl x138], _, 0, 0) _
          have k91 := p143
          refine k_pop 75 rfl rfl rfl ?_
          refine k_aload 76 rfl g0 rfl ?_
          refine k_aload 77 rfl g0 rfl ?_
          refine r_gI I142 80 rfl rfl rfl (fun x147 (e148 : x147.toInt = F140 23) => ?_)
          have e149 : F140 23 = F129 23 := k144 23 (by decide)
          refine k_push 82 rfl rfl ?_
          have hc150 : (120 : Int32).toInt = 120 := by decide
          by_cases b151 : (120 : Int32) < x147
          · refine k_c2 89 rfl rfl (if_pos b151) ?_
            have b151 := iv_lt.mp b151
            refine k_push 90 rfl rfl ?_
            refine k_push 91 rfl rfl ?_
            have hc152 : (5 : Int32).toInt = 5 := by decide
            refine k_rq I142 rfl (m_check  I142.1 (show (5 : Int32).toInt ≠ 0 by decide)) rfl rfl rfl I142.rc ?_
            rintro x153 h154 F155 A156 I157 ⟨k159, k160, p158⟩
            replace p158 : (x153.toInt = 1 ∧ (F140 6) = 0 ∧ (0 : Int32).toInt ≠ 0 ∧ F155 6 = 0) ∨ (x153.toInt = 0 ∧ F155 6 ≠ 0) := p158
            have k160 := fr2.nil k160
            subst k160
            have z161 := iv_01 (x := x153) (by omega)
            show am_Ok _ _ _ (94, _, [.inl x153], _, 0, 0) _
            refine k_pop 95 rfl rfl rfl ?_
            have e162 : F155 23 = F140 23 := k159 23 (by decide)
            exact k_fin rfl rfl ⟨_, _, _, rfl, I157, (fr1.tr (by decide) (fr1.tr (by decide) (fr1.tr (by decide) (fr1.up (by decide) hF) k133) k144) k159), (fr2.tr (by decide) hA k134), ⟨(show 0 ≤ F155 23 ∧ F155 23 ≤ 1000000 by omega), (show F155 6 = 0 → F155 23 ≤ 120 by omega), fun z => by have z8 : F155 6 = 0 := z; have h9 := p132c (by omega) (by omega); show rz (A130 22) (F155 23); exact ⟨_, rd_cg h9 (by omega) (by omega) (by omega)⟩⟩⟩
          · refine k_c2 85 rfl rfl (if_neg b151) ?_
            have b151 := mt iv_lt.mpr b151
            refine k_push 86 rfl rfl ?_
            refine k_goto 90 rfl rfl ?_
            refine k_push 91 rfl rfl ?_
            have hc163 : (5 : Int32).toInt = 5 := by decide
            refine k_rq I142 rfl (m_check  I142.1 (show (5 : Int32).toInt ≠ 0 by decide)) rfl rfl rfl I142.rc ?_
            rintro x164 h165 F166 A167 I168 ⟨k170, k171, p169⟩
            replace p169 : (x164.toInt = 1 ∧ (F140 6) = 0 ∧ (1 : Int32).toInt ≠ 0 ∧ F166 6 = 0) ∨ (x164.toInt = 0 ∧ F166 6 ≠ 0) := p169
            have k171 := fr2.nil k171
            subst k171
            have z172 := iv_01 (x := x164) (by omega)
            show am_Ok _ _ _ (94, _, [.inl x164], _, 0, 0) _
            refine k_pop 95 rfl rfl rfl ?_
            have e173 : F166 23 = F140 23 := k170 23 (by decide)
            exact k_fin rfl rfl ⟨_, _, _, rfl, I168, (fr1.tr (by decide) (fr1.tr (by decide) (fr1.tr (by decide) (fr1.up (by decide) hF) k133) k144) k170), (fr2.tr (by decide) hA k134), ⟨(show 0 ≤ F166 23 ∧ F166 23 ≤ 1000000 by omega), (show F166 6 = 0 → F166 23 ≤ 120 by omega), fun z => by have z8 : F166 6 = 0 := z; have h9 := p132c (by omega) (by omega); show rz (A130 22) (F166 23); exact ⟨_, rd_cg h9 (by omega) (by omega) (by omega)⟩⟩⟩
        · refine k_c1 69 rfl rfl (if_neg b137) ?_
          have b137 := mt iv_eq0.mpr b137
          refine k_push 70 rfl rfl ?_
          refine k_push 71 rfl rfl ?_
          refine k_rq I131 rfl (m_check  I131.1 (show (1 : Int32).toInt ≠ 0 by decide)) rfl rfl rfl I131.rc ?_
          rintro x174 h175 F176 A177 I178 ⟨k180, k181, p179⟩
          replace p179 : (x174.toInt = 1 ∧ (F129 6) = 0 ∧ (0 : Int32).toInt ≠ 0 ∧ F176 6 = 0) ∨ (x174.toInt = 0 ∧ F176 6 ≠ 0) := p179
          have k181 := fr2.nil k181
          subst k181
          have z182 := iv_01 (x := x174) (by omega)
          show am_Ok _ _ _ (74, _, [.inl x174], _, 0, 0) _
          have k91 := p179
          refine k_pop 75 rfl rfl rfl ?_
          refine k_aload 76 rfl g0 rfl ?_
          refine k_aload 77 rfl g0 rfl ?_
          refine r_gI I178 80 rfl rfl rfl (fun x183 (e184 : x183.toInt = F176 23) => ?_)
          have e185 : F176 23 = F129 23 := k180 23 (by decide)
          refine k_push 82 rfl rfl ?_
          have hc186 : (120 : Int32).toInt = 120 := by decide
          by_cases b187 : (120 : Int32) < x183
          · refine k_c2 89 rfl rfl (if_pos b187) ?_
            have b187 := iv_lt.mp b187
            refine k_push 90 rfl rfl ?_
            refine k_push 91 rfl rfl ?_
            have hc188 : (5 : Int32).toInt = 5 := by decide
            refine k_rq I178 rfl (m_check  I178.1 (show (5 : Int32).toInt ≠ 0 by decide)) rfl rfl rfl I178.rc ?_
            rintro x189 h190 F191 A192 I193 ⟨k195, k196, p194⟩
            replace p194 : (x189.toInt = 1 ∧ (F176 6) = 0 ∧ (0 : Int32).toInt ≠ 0 ∧ F191 6 = 0) ∨ (x189.toInt = 0 ∧ F191 6 ≠ 0) := p194
            have k196 := fr2.nil k196
            subst k196
            have z197 := iv_01 (x := x189) (by omega)
            show am_Ok _ _ _ (94, _, [.inl x189], _, 0, 0) _
            refine k_pop 95 rfl rfl rfl ?_
            have e198 : F191 23 = F176 23 := k195 23 (by decide)
            exact k_fin rfl rfl ⟨_, _, _, rfl, I193, (fr1.tr (by decide) (fr1.tr (by decide) (fr1.tr (by decide) (fr1.up (by decide) hF) k133) k180) k195), (fr2.tr (by decide) hA k134), ⟨(show 0 ≤ F191 23 ∧ F191 23 ≤ 1000000 by omega), (show F191 6 = 0 → F191 23 ≤ 120 by omega), fun z => by have z8 : F191 6 = 0 := z; have h9 := p132c (by omega) (by omega); show rz (A130 22) (F191 23); exact ⟨_, rd_cg h9 (by omega) (by omega) (by omega)⟩⟩⟩
          · refine k_c2 85 rfl rfl (if_neg b187) ?_
            have b187 := mt iv_lt.mpr b187
            refine k_push 86 rfl rfl ?_
            refine k_goto 90 rfl rfl ?_
            refine k_push 91 rfl rfl ?_
            have hc199 : (5 : Int32).toInt = 5 := by decide
            refine k_rq I178 rfl (m_check  I178.1 (show (5 : Int32).toInt ≠ 0 by decide)) rfl rfl rfl I178.rc ?_
            rintro x200 h201 F202 A203 I204 ⟨k206, k207, p205⟩
            replace p205 : (x200.toInt = 1 ∧ (F176 6) = 0 ∧ (1 : Int32).toInt ≠ 0 ∧ F202 6 = 0) ∨ (x200.toInt = 0 ∧ F202 6 ≠ 0) := p205
            have k207 := fr2.nil k207
            subst k207
            have z208 := iv_01 (x := x200) (by omega)
            show am_Ok _ _ _ (94, _, [.inl x200], _, 0, 0) _
            refine k_pop 95 rfl rfl rfl ?_
            have e209 : F202 23 = F176 23 := k206 23 (by decide)
            exact k_fin rfl rfl ⟨_, _, _, rfl, I204, (fr1.tr (by decide) (fr1.tr (by decide) (fr1.tr (by decide) (fr1.up (by decide) hF) k133) k180) k206), (fr2.tr (by decide) hA k134), ⟨(show 0 ≤ F202 23 ∧ F202 23 ≤ 1000000 by omega), (show F202 6 = 0 → F202 23 ≤ 120 by omega), fun z => by have z8 : F202 6 = 0 := z; have h9 := p132c (by omega) (by omega); show rz (A130 22) (F202 23); exact ⟨_, rd_cg h9 (by omega) (by omega) (by omega)⟩⟩⟩
    · refine k_c1 11 rfl rfl (if_neg b3) ?_
      have b3 := mt iv_eq0.mpr b3
      refine k_push 12 rfl rfl ?_
      have hc210 : (0 : Int32).toInt = 0 := by decide
      refine k_fin rfl (fin_Z (Or.inl rfl)) ⟨_, _, rfl, rf_len hI hI, ?_⟩
      show am_Ok _ _ _ (4, _, [.inl (0 : Int32)], _, 0, 0) _
      refine k_c1 36 rfl rfl (if_pos (by decide)) ?_
      refine k_push 37 rfl rfl ?_
      refine k_fin rfl (fin_Z (Or.inl rfl)) ⟨_, _, rfl, rf_len hI hI, ?_⟩
      show am_Ok _ _ _ (38, _, [.inl (0 : Int32)], _, 0, 0) _
      refine k_c1 48 rfl rfl (if_pos (by decide)) ?_
      refine k_aload 49 rfl g0 rfl ?_
      refine k_push 50 rfl rfl ?_
      refine r_pI hI 53 rfl rfl rfl (fun h211 I212 => ?_)
      refine k_aload 54 rfl g0 rfl ?_
      have e213 : F 7 = F0 7 := hF 7 (by decide)
      refine k_rv I212 rfl (reads_all (gk := 43) I212.1 (show 0 ≤ (F 8) ∧ (F 8) ≤ (F 7) ∧ (F 7) ≤ 700 ∧ 0 ≤ (F 20) ∧ (F 20) ≤ 30 ∧ 0 ≤ (F 21) ∧ (F 21) ≤ 12 ∧ 0 ≤ (F 18) ∧ (F 18) ≤ 12 ∧ 0 ≤ ((0 : Int32).toInt) ∧ ((0 : Int32).toInt) ≤ 1000000 ∧ ((F 9) = 2 → 0 ≤ (F 11) ∧ (F 11) ≤ 9) ∧ 0 ≤ (F 9) ∧ (F 9) ≤ 4 by omega) (show nm ((A 16)) ((A 17)) ((F 18)) by rw [(show A 16 = A 16 from rfl), (show A 17 = A 17 from rfl), (show F 18 = F 18 from rfl)]; exact i2) (show (12 - (F 21)) + (30 - (F 20)) < ((43) : Int) by omega)) rfl rfl rfl I212.rc ?_
      rintro h215 F216 A217 I218 ⟨k220, k221, p219⟩
      replace p219 : ((F 8) ≤ F216 8 ∧ F216 8 ≤ (F 7) ∧ (F 20) ≤ F216 20 ∧ F216 20 ≤ 30 ∧ F216 21 = (F 21) ∧ ((0 : Int32).toInt) ≤ F216 23 ∧ F216 23 ≤ 1000000 ∧ (F216 9 = 2 → 0 ≤ F216 11 ∧ F216 11 ≤ 9) ∧ 0 ≤ F216 9 ∧ F216 9 ≤ 4) ∧ (F216 6 = 0 → F216 20 = (F 20) ∧ (F 6) = 0 ∧ (F216 9 = 0 ∨ (F 8) < F216 8)) ∧ (F216 6 = 0 → F216 23 ≤ 124 → rd1 (A217 22) ((A 22)) (((0 : Int32).toInt)) (F216 23) ((F 20))) := p219
      obtain ⟨p219a, p219b, p219c⟩ := p219
      show am_Ok _ _ _ (57, _, [], _, 0, 0) _
      refine k_aload 58 rfl g0 rfl ?_
      refine k_aload 59 rfl g0 rfl ?_
      refine r_gI I218 62 rfl rfl rfl (fun x222 (e223 : x222.toInt = F216 9) => ?_)
      by_cases b224 : x222 = 0
      · refine k_c1 65 rfl rfl (if_pos b224) ?_
        have b224 := iv_eq0.mp b224
        refine k_push 66 rfl rfl ?_
        have hc225 : (1 : Int32).toInt = 1 := by decide
        refine k_goto 70 rfl rfl ?_
        refine k_push 71 rfl rfl ?_
        refine k_rq I218 rfl (m_check  I218.1 (show (1 : Int32).toInt ≠ 0 by decide)) rfl rfl rfl I218.rc ?_
        rintro x226 h227 F228 A229 I230 ⟨k232, k233, p231⟩
        replace p231 : (x226.toInt = 1 ∧ (F216 6) = 0 ∧ (1 : Int32).toInt ≠ 0 ∧ F228 6 = 0) ∨ (x226.toInt = 0 ∧ F228 6 ≠ 0) := p231
        have k233 := fr2.nil k233
        subst k233
        have z234 := iv_01 (x := x226) (by omega)
        show am_Ok _ _ _ (74, _, [.inl x226], _, 0, 0) _
        have k91 := p231
        refine k_pop 75 rfl rfl rfl ?_
        refine k_aload 76 rfl g0 rfl ?_
        refine k_aload 77 rfl g0 rfl ?_
        refine r_gI I230 80 rfl rfl rfl (fun x235 (e236 : x235.toInt = F228 23) => ?_)
        have e237 : F228 23 = F216 23 := k232 23 (by decide)
        refine k_push 82 rfl rfl ?_
        have hc238 : (120 : Int32).toInt = 120 := by decide
        by_cases b239 : (120 : Int32) < x235
        · refine k_c2 89 rfl rfl (if_pos b239) ?_
          have b239 := iv_lt.mp b239
          refine k_push 90 rfl rfl ?_
          refine k_push 91 rfl rfl ?_
          have hc240 : (5 : Int32).toInt = 5 := by decide
          refine k_rq I230 rfl (m_check  I230.1 (show (5 : Int32).toInt ≠ 0 by decide)) rfl rfl rfl I230.rc ?_
          rintro x241 h242 F243 A244 I245 ⟨k247, k248, p246⟩
          replace p246 : (x241.toInt = 1 ∧ (F228 6) = 0 ∧ (0 : Int32).toInt ≠ 0 ∧ F243 6 = 0) ∨ (x241.toInt = 0 ∧ F243 6 ≠ 0) := p246
          have k248 := fr2.nil k248
          subst k248
          have z249 := iv_01 (x := x241) (by omega)
          show am_Ok _ _ _ (94, _, [.inl x241], _, 0, 0) _
          refine k_pop 95 rfl rfl rfl ?_
          have e250 : F243 23 = F228 23 := k247 23 (by decide)
          exact k_fin rfl rfl ⟨_, _, _, rfl, I245, (fr1.tr (by decide) (fr1.tr (by decide) (fr1.tr (by decide) (fr1.up (by decide) hF) k220) k232) k247), (fr2.tr (by decide) hA k221), ⟨(show 0 ≤ F243 23 ∧ F243 23 ≤ 1000000 by omega), (show F243 6 = 0 → F243 23 ≤ 120 by omega), fun z => by have z8 : F243 6 = 0 := z; have h9 := p219c (by omega) (by omega); show rz (A217 22) (F243 23); exact ⟨_, rd_cg h9 (by omega) (by omega) (by omega)⟩⟩⟩
        · refine k_c2 85 rfl rfl (if_neg b239) ?_
          have b239 := mt iv_lt.mpr b239
          refine k_push 86 rfl rfl ?_
          refine k_goto 90 rfl rfl ?_
          refine k_push 91 rfl rfl ?_
          have hc251 : (5 : Int32).toInt = 5 := by decide
          refine k_rq I230 rfl (m_check  I230.1 (show (5 : Int32).toInt ≠ 0 by decide)) rfl rfl rfl I230.rc ?_
          rintro x252 h253 F254 A255 I256 ⟨k258, k259, p257⟩
          replace p257 : (x252.toInt = 1 ∧ (F228 6) = 0 ∧ (1 : Int32).toInt ≠ 0 ∧ F254 6 = 0) ∨ (x252.toInt = 0 ∧ F254 6 ≠ 0) := p257
          have k259 := fr2.nil k259
          subst k259
          have z260 := iv_01 (x := x252) (by omega)
          show am_Ok _ _ _ (94, _, [.inl x252], _, 0, 0) _
          refine k_pop 95 rfl rfl rfl ?_
          have e261 : F254 23 = F228 23 := k258 23 (by decide)
          exact k_fin rfl rfl ⟨_, _, _, rfl, I256, (fr1.tr (by decide) (fr1.tr (by decide) (fr1.tr (by decide) (fr1.up (by decide) hF) k220) k232) k258), (fr2.tr (by decide) hA k221), ⟨(show 0 ≤ F254 23 ∧ F254 23 ≤ 1000000 by omega), (show F254 6 = 0 → F254 23 ≤ 120 by omega), fun z => by have z8 : F254 6 = 0 := z; have h9 := p219c (by omega) (by omega); show rz (A217 22) (F254 23); exact ⟨_, rd_cg h9 (by omega) (by omega) (by omega)⟩⟩⟩
      · refine k_c1 69 rfl rfl (if_neg b224) ?_
        have b224 := mt iv_eq0.mpr b224
        refine k_push 70 rfl rfl ?_
        refine k_push 71 rfl rfl ?_
        have hc262 : (1 : Int32).toInt = 1 := by decide
        refine k_rq I218 rfl (m_check  I218.1 (show (1 : Int32).toInt ≠ 0 by decide)) rfl rfl rfl I218.rc ?_
        rintro x263 h264 F265 A266 I267 ⟨k269, k270, p268⟩
        replace p268 : (x263.toInt = 1 ∧ (F216 6) = 0 ∧ (0 : Int32).toInt ≠ 0 ∧ F265 6 = 0) ∨ (x263.toInt = 0 ∧ F265 6 ≠ 0) := p268
        have k270 := fr2.nil k270
        subst k270
        have z271 := iv_01 (x := x263) (by omega)
        show am_Ok _ _ _ (74, _, [.inl x263], _, 0, 0) _
        have k91 := p268
        refine k_pop 75 rfl rfl rfl ?_
        refine k_aload 76 rfl g0 rfl ?_
        refine k_aload 77 rfl g0 rfl ?_
        refine r_gI I267 80 rfl rfl rfl (fun x272 (e273 : x272.toInt = F265 23) => ?_)
        have e274 : F265 23 = F216 23 := k269 23 (by decide)
        refine k_push 82 rfl rfl ?_
        have hc275 : (120 : Int32).toInt = 120 := by decide
        by_cases b276 : (120 : Int32) < x272
        · refine k_c2 89 rfl rfl (if_pos b276) ?_
          have b276 := iv_lt.mp b276
          refine k_push 90 rfl rfl ?_
          refine k_push 91 rfl rfl ?_
          have hc277 : (5 : Int32).toInt = 5 := by decide
          refine k_rq I267 rfl (m_check  I267.1 (show (5 : Int32).toInt ≠ 0 by decide)) rfl rfl rfl I267.rc ?_
          rintro x278 h279 F280 A281 I282 ⟨k284, k285, p283⟩
          replace p283 : (x278.toInt = 1 ∧ (F265 6) = 0 ∧ (0 : Int32).toInt ≠ 0 ∧ F280 6 = 0) ∨ (x278.toInt = 0 ∧ F280 6 ≠ 0) := p283
          have k285 := fr2.nil k285
          subst k285
          have z286 := iv_01 (x := x278) (by omega)
          show am_Ok _ _ _ (94, _, [.inl x278], _, 0, 0) _
          refine k_pop 95 rfl rfl rfl ?_
          have e287 : F280 23 = F265 23 := k284 23 (by decide)
          exact k_fin rfl rfl ⟨_, _, _, rfl, I282, (fr1.tr (by decide) (fr1.tr (by decide) (fr1.tr (by decide) (fr1.up (by decide) hF) k220) k269) k284), (fr2.tr (by decide) hA k221), ⟨(show 0 ≤ F280 23 ∧ F280 23 ≤ 1000000 by omega), (show F280 6 = 0 → F280 23 ≤ 120 by omega), fun z => by have z8 : F280 6 = 0 := z; have h9 := p219c (by omega) (by omega); show rz (A217 22) (F280 23); exact ⟨_, rd_cg h9 (by omega) (by omega) (by omega)⟩⟩⟩
        · refine k_c2 85 rfl rfl (if_neg b276) ?_
          have b276 := mt iv_lt.mpr b276
          refine k_push 86 rfl rfl ?_
          refine k_goto 90 rfl rfl ?_
          refine k_push 91 rfl rfl ?_
          have hc288 : (5 : Int32).toInt = 5 := by decide
          refine k_rq I267 rfl (m_check  I267.1 (show (5 : Int32).toInt ≠ 0 by decide)) rfl rfl rfl I267.rc ?_
          rintro x289 h290 F291 A292 I293 ⟨k295, k296, p294⟩
          replace p294 : (x289.toInt = 1 ∧ (F265 6) = 0 ∧ (1 : Int32).toInt ≠ 0 ∧ F291 6 = 0) ∨ (x289.toInt = 0 ∧ F291 6 ≠ 0) := p294
          have k296 := fr2.nil k296
          subst k296
          have z297 := iv_01 (x := x289) (by omega)
          show am_Ok _ _ _ (94, _, [.inl x289], _, 0, 0) _
          refine k_pop 95 rfl rfl rfl ?_
          have e298 : F291 23 = F265 23 := k295 23 (by decide)
          exact k_fin rfl rfl ⟨_, _, _, rfl, I293, (fr1.tr (by decide) (fr1.tr (by decide) (fr1.tr (by decide) (fr1.up (by decide) hF) k220) k269) k295), (fr2.tr (by decide) hA k221), ⟨(show 0 ≤ F291 23 ∧ F291 23 ≤ 1000000 by omega), (show F291 6 = 0 → F291 23 ≤ 120 by omega), fun z => by have z8 : F291 6 = 0 := z; have h9 := p219c (by omega) (by omega); show rz (A217 22) (F291 23); exact ⟨_, rd_cg h9 (by omega) (by omega) (by omega)⟩⟩⟩
theorem m_readsAll {h0 : am_h} {F0 : rf_f} {A0 : rf_A}  (hR : rf_R h0 F0 A0) (p1 : 0 ≤ F0 7 ∧ F0 7 ≤ 700) (p2 : 0 ≤ F0 23 ∧ F0 23 ≤ 1000000) : am_Mt 93 185 [.inr (.inr (some 81))] h0 (rf_V h0 (fun F' A' => fr1 [8, 10, 9, 14, 11, 12, 6, 5, 23, 20, 21, 18] F0 F' ∧ fr2 [22, 17, 16] A0 A' ∧ ((0 ≤ F' 23 ∧ F' 23 ≤ 1000000) ∧ (F' 6 = 0 → F' 23 ≤ 120) ∧ (F' 6 = 0 → rz (A' 22) (F' 23))))) := by
  refine am_Mt.of (D := 92) ?_
  have hI : rf_I h0 h0 F0 A0 := rf_I.start hR
  refine k_aload 1 rfl rfl rfl ?_
  refine k_push 2 rfl rfl ?_
  have hc299 : (0 : Int32).toInt = 0 := by decide
  refine r_pI hI 5 rfl rfl rfl (fun h300 I301 => ?_)
  refine k_aload 6 rfl rfl rfl ?_
  refine k_push 7 rfl rfl ?_
  refine r_pI I301 10 rfl rfl rfl (fun h302 I303 => ?_)
  refine k_aload 11 rfl rfl rfl ?_
  refine k_push 12 rfl rfl ?_
  have hc304 : (-1 : Int32).toInt = -1 := by decide
  refine r_pI I303 15 rfl rfl rfl (fun h305 I306 => ?_)
  refine k_aload 16 rfl rfl rfl ?_
  refine k_push 17 rfl rfl ?_
  refine r_pI I306 20 rfl rfl rfl (fun h307 I308 => ?_)
  refine k_aload 21 rfl rfl rfl ?_
  refine k_push 22 rfl rfl ?_
  refine r_pI I308 25 rfl rfl rfl (fun h309 I310 => ?_)
  refine k_aload 26 rfl rfl rfl ?_
  refine k_push 27 rfl rfl ?_
  refine r_pI I310 30 rfl rfl rfl (fun h311 I312 => ?_)
  refine k_aload 31 rfl rfl rfl ?_
  refine k_rv I312 rfl (m_goes  I312.1 (show 0 ≤ ((0 : Int32).toInt) ∧ ((0 : Int32).toInt) ≤ (F0 7) ∧ (F0 7) ≤ 700 by omega)) rfl rfl rfl I312.rc ?_
  rintro h314 F315 A316 I317 ⟨k319, k320, p318⟩
  replace p318 : (((0 : Int32).toInt) ≤ F315 8 ∧ F315 8 ≤ (F0 7)) ∧ (F315 9 = 0 ∨ ((0 : Int32).toInt) < F315 8) ∧ (F315 9 = 2 → 0 ≤ F315 11 ∧ F315 11 ≤ 9) ∧ (0 ≤ F315 9 ∧ F315 9 ≤ 4) := p318
  obtain ⟨p318a, p318b, p318c, p318d⟩ := p318
  have k320 := fr2.nil k320
  subst k320
  show am_Ok _ _ _ (34, _, [], _, 0, 0) _
  have e321 : F315 20 = (0 : Int32).toInt := k319 20 (by decide)
  have e322 : F315 21 = (0 : Int32).toInt := k319 21 (by decide)
  have e323 : F315 18 = (0 : Int32).toInt := k319 18 (by decide)
  have e324 : F315 23 = F0 23 := k319 23 (by decide)
  have e325 : F315 6 = (0 : Int32).toInt := k319 6 (by decide)
  exact b_X10_readsAll_34   p1 p2 _  rfl rfl I317 (fr1.tr (by decide) (fr1.up (by decide) (fr1.up (by decide) (fr1.up (by decide) (fr1.up (by decide) (fr1.up (by decide) (fr1.up (by decide) fr1.rf)))))) k319) fr2.rf (show 0 ≤ (F315 8) ∧ (F315 8) ≤ F0 7 ∧ 0 ≤ (F315 20) ∧ (F315 20) ≤ 30 ∧ (F315 21) = 0 ∧ 0 ≤ (F315 18) ∧ (F315 18) ≤ 12 ∧ 0 ≤ (F315 23) ∧ (F315 23) ≤ 1000000 ∧ ((F315 9) = 2 → 0 ≤ (F315 11) ∧ (F315 11) ≤ 9) ∧ 0 ≤ (F315 9) ∧ (F315 9) ≤ 4 ∧ ((F315 6) = 0 → (F315 20) = 0) by omega) ((show nm (A0 16) (A0 17) (F315 18) by rw [show F315 18 = 0 by omega]; exact nm_z))
end
