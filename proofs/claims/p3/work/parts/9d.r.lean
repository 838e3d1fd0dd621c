section
theorem m_readsAtom {h0 : am_h} {F0 : rf_f} {A0 : rf_A} {gk : Nat} (hR : rf_R h0 F0 A0) (hrec : ∀ {h0 : am_h} {F0 : rf_f} {A0 : rf_A}, rf_R h0 F0 A0 → (0 ≤ F0 8 ∧ F0 8 ≤ F0 7 ∧ F0 7 ≤ 700 ∧ 0 ≤ F0 20 ∧ F0 20 ≤ 30 ∧ 0 ≤ F0 21 ∧ F0 21 ≤ 12 ∧ 0 ≤ F0 18 ∧ F0 18 ≤ 12 ∧ 0 ≤ F0 23 ∧ F0 23 ≤ 1000000 ∧ (F0 9 = 2 → 0 ≤ F0 11 ∧ F0 11 ≤ 9) ∧ 0 ≤ F0 9 ∧ F0 9 ≤ 4) → (nm (A0 16) (A0 17) (F0 18)) → ((12 - F0 21) + (30 - F0 20) < (gk : Int)) → am_Mt (2 * gk + 5) 182 [.inr (.inr (some 81))] h0 (rf_V h0 (fun F' A' => fr1 [8, 10, 9, 14, 11, 12, 6, 5, 23, 20, 21] F0 F' ∧ fr2 [22] A0 A' ∧ ((F0 8 ≤ F' 8 ∧ F' 8 ≤ F0 7 ∧ F0 20 ≤ F' 20 ∧ F' 20 ≤ 30 ∧ F' 21 = F0 21 ∧ F0 23 ≤ F' 23 ∧ F' 23 ≤ 1000000 ∧ (F' 9 = 2 → 0 ≤ F' 11 ∧ F' 11 ≤ 9) ∧ 0 ≤ F' 9 ∧ F' 9 ≤ 4) ∧ (F' 6 = 0 → F' 20 = F0 20 ∧ F0 6 = 0 ∧ (F' 9 = 0 ∨ F0 8 < F' 8)) ∧ (F' 6 = 0 → F' 23 ≤ 124 → rd1 (A' 22) (A0 22) (F0 23) (F' 23) (F0 20)))))) (p1 : 0 ≤ F0 8 ∧ F0 8 ≤ F0 7 ∧ F0 7 ≤ 700 ∧ 0 ≤ F0 20 ∧ F0 20 ≤ 30 ∧ 0 ≤ F0 21 ∧ F0 21 ≤ 12 ∧ 0 ≤ F0 18 ∧ F0 18 ≤ 12 ∧ 0 ≤ F0 23 ∧ F0 23 ≤ 1000000 ∧ (F0 9 = 2 → 0 ≤ F0 11 ∧ F0 11 ≤ 9) ∧ 0 ≤ F0 9 ∧ F0 9 ≤ 4) (p2 : nm (A0 16) (A0 17) (F0 18)) (p3 : (12 - F0 21) + (30 - F0 20) < (gk : Int) + 1) : am_Mt ((2 * gk + 5) + 1) 180 [.inr (.inr (some 81))] h0 (rf_V h0 (fun F' A' => fr1 [8, 10, 9, 14, 11, 12, 6, 5, 23, 20, 21] F0 F' ∧ fr2 [22] A0 A' ∧ ((F0 8 ≤ F' 8 ∧ F' 8 ≤ F0 7 ∧ F0 20 ≤ F' 20 ∧ F' 20 ≤ 30 ∧ F' 21 = F0 21 ∧ F0 23 ≤ F' 23 ∧ F' 23 ≤ 1000000 ∧ (F' 9 = 2 → 0 ≤ F' 11 ∧ F' 11 ≤ 9) ∧ 0 ≤ F' 9 ∧ F' 9 ≤ 4) ∧ (F' 6 = 0 → F' 20 = F0 20 ∧ F0 6 = 0 ∧ (F' 9 = 0 ∨ F0 8 < F' 8)) ∧ (F' 6 = 0 → F' 23 ≤ 124 → rd1 (A' 22) (A0 22) (F0 23) (F' 23) (F0 20))))) := by
  refine am_Mt.of (D := (2 * gk + 5)) ?_
  have hI : rf_I h0 h0 F0 A0 := rf_I.start hR
  refine k_aload 1 rfl rfl rfl ?_
  refine k_aload 2 rfl rfl rfl ?_
  refine k_rq hI rfl (m_isAtom  hI.1 ) (Nat.ble_eq_true_of_le (by omega)) rfl rfl hI.rc ?_
  rintro x1 h2 F3 A4 I5 ⟨k7, k8, p6⟩
  replace p6 : x1.toInt = 0 ∨ (x1.toInt = 1 ∧ (F0 6) = 0 ∧ ((F0 9) = 1 ∨ (F0 9) = 2 ∨ (F0 9) = 3)) := p6
  have k7 := fr1.nil k7
  subst k7
  have k8 := fr2.nil k8
  subst k8
  have z9 := iv_01 (x := x1) (by omega)
  show am_Ok _ _ _ (5, _, [.inl x1, .inr (.inr (some 81))], _, 0, 0) _
  refine k_push 6 rfl rfl ?_
  have hc10 : (1 : Int32).toInt = 1 := by decide
  refine k_rq I5 rfl (m_check  I5.1 (show (1 : Int32).toInt ≠ 0 by omega)) (Nat.ble_eq_true_of_le (by omega)) rfl rfl I5.rc ?_
  rintro x11 h12 F13 A14 I15 ⟨k17, k18, p16⟩
  replace p16 : (x11.toInt = 1 ∧ (F0 6) = 0 ∧ x1.toInt ≠ 0 ∧ F13 6 = 0) ∨ (x11.toInt = 0 ∧ F13 6 ≠ 0) := p16
  have k18 := fr2.nil k18
  subst k18
  have z19 := iv_01 (x := x11) (by omega)
  show am_Ok _ _ _ (9, _, [.inl x11], _, 0, 0) _
  by_cases b20 : x11 = 0
  · refine k_c1 12 rfl rfl (if_pos b20) ?_
    have b20 := iv_eq0.mp b20
    have e21 : F13 8 = F0 8 := k17 8 (by decide)
    have e22 : F13 20 = F0 20 := k17 20 (by decide)
    have e23 : F13 21 = F0 21 := k17 21 (by decide)
    have e24 : F13 23 = F0 23 := k17 23 (by decide)
    have e25 : F13 9 = F0 9 := k17 9 (by decide)
    have e26 : F13 11 = F0 11 := k17 11 (by decide)
    exact k_fin rfl rfl ⟨_, _, _, rfl, I15, (fr1.tr (by decide) fr1.rf k17), fr2.rf, ⟨(show (F0 8 ≤ F13 8 ∧ F13 8 ≤ F0 7 ∧ F0 20 ≤ F13 20 ∧ F13 20 ≤ 30 ∧ F13 21 = F0 21 ∧ F0 23 ≤ F13 23 ∧ F13 23 ≤ 1000000 ∧ (F13 9 = 2 → 0 ≤ F13 11 ∧ F13 11 ≤ 9) ∧ 0 ≤ F13 9 ∧ F13 9 ≤ 4) by omega), (show (F13 6 = 0 → F13 20 = F0 20 ∧ F0 6 = 0 ∧ (F13 9 = 0 ∨ F0 8 < F13 8)) by omega), fun z => absurd (show F13 6 = 0 from z) (by omega)⟩⟩
  · refine k_c1 13 rfl rfl (if_neg b20) ?_
    have b20 := mt iv_eq0.mpr b20
    refine k_aload 14 rfl rfl rfl ?_
    refine r_gI I15 17 rfl rfl rfl (fun x27 (e28 : x27.toInt = F13 9) => ?_)
    have e29 : F13 9 = F0 9 := k17 9 (by decide)
    refine k_push 18 rfl rfl ?_
    by_cases b30 : x27 = (1 : Int32)
    · refine k_c2 21 rfl rfl (if_pos b30) ?_
      have b30 := iv_eq.mp b30
      refine k_aload 22 rfl rfl rfl ?_
      have e31 : F13 8 = F0 8 := k17 8 (by decide)
      have e32 : F13 7 = F0 7 := k17 7 (by decide)
      have e33 : F13 20 = F0 20 := k17 20 (by decide)
      have e34 : F13 21 = F0 21 := k17 21 (by decide)
      have e35 : F13 18 = F0 18 := k17 18 (by decide)
      have e36 : F13 23 = F0 23 := k17 23 (by decide)
      have e37 : F13 11 = F0 11 := k17 11 (by decide)
      refine k_rv I15 rfl (m_readsName  I15.1 (show 0 ≤ (F13 8) ∧ (F13 8) ≤ (F13 7) ∧ (F13 7) ≤ 700 ∧ 0 ≤ (F13 20) ∧ (F13 20) ≤ 30 ∧ 0 ≤ (F13 21) ∧ (F13 21) ≤ 12 ∧ 0 ≤ (F13 18) ∧ (F13 18) ≤ 12 ∧ 0 ≤ (F13 23) ∧ (F13 23) ≤ 1000000 ∧ ((F13 9) = 2 → 0 ≤ (F13 11) ∧ (F13 11) ≤ 9) ∧ 0 ≤ (F13 9) ∧ (F13 9) ≤ 4 by omega) (show nm ((A0 16)) ((A0 17)) ((F13 18)) by rw [(show A0 16 = A0 16 from rfl), (show A0 17 = A0 17 from rfl), (k17 18 (by decide))]; exact p2)) (Nat.ble_eq_true_of_le (by omega)) rfl rfl I15.rc ?_
      rintro h39 F40 A41 I42 ⟨k44, k45, p43⟩
      replace p43 : ((F13 8) ≤ F40 8 ∧ F40 8 ≤ (F13 7) ∧ (F13 20) ≤ F40 20 ∧ F40 20 ≤ 30 ∧ F40 21 = (F13 21) ∧ (F13 23) ≤ F40 23 ∧ F40 23 ≤ 1000000 ∧ (F40 9 = 2 → 0 ≤ F40 11 ∧ F40 11 ≤ 9) ∧ 0 ≤ F40 9 ∧ F40 9 ≤ 4) ∧ (F40 6 = 0 → F40 20 = (F13 20) ∧ (F13 6) = 0 ∧ (F40 9 = 0 ∨ (F13 8) < F40 8)) ∧ (F40 6 = 0 → F40 23 ≤ 124 → rd1 (A41 22) ((A0 22)) ((F13 23)) (F40 23) ((F13 20))) := p43
      obtain ⟨p43a, p43b, p43c⟩ := p43
      show am_Ok _ _ _ (25, _, [], _, 0, 0) _
      refine k_goto 100 rfl rfl ?_
      have e46 : F40 20 = F13 20 := k44 20 (by decide)
      have e47 : F40 21 = F13 21 := k44 21 (by decide)
      exact k_fin rfl rfl ⟨_, _, _, rfl, I42, (fr1.tr (by decide) (fr1.tr (by decide) fr1.rf k17) k44), (fr2.tr (by decide) fr2.rf k45), ⟨(show (F0 8 ≤ F40 8 ∧ F40 8 ≤ F0 7 ∧ F0 20 ≤ F40 20 ∧ F40 20 ≤ 30 ∧ F40 21 = F0 21 ∧ F0 23 ≤ F40 23 ∧ F40 23 ≤ 1000000 ∧ (F40 9 = 2 → 0 ≤ F40 11 ∧ F40 11 ≤ 9) ∧ 0 ≤ F40 9 ∧ F40 9 ≤ 4) by omega), (show (F40 6 = 0 → F40 20 = F0 20 ∧ F0 6 = 0 ∧ (F40 9 = 0 ∨ F0 8 < F40 8)) by omega), fun z1 z2 => by have z8 : F40 6 = 0 := z1; have z9 : F40 23 ≤ 124 := z2; exact rd_cg (p43c z8 z9) (by omega) rfl (by omega)⟩⟩
    · refine k_c2 28 rfl rfl (if_neg b30) ?_
      have b30 := mt iv_eq.mpr b30
      refine k_aload 29 rfl rfl rfl ?_
      refine r_gI I15 32 rfl rfl rfl (fun x48 (e49 : x48.toInt = F13 9) => ?_)
      refine k_push 33 rfl rfl ?_
      have hc50 : (2 : Int32).toInt = 2 := by decide
      by_cases b51 : x48 = (2 : Int32)
      · refine k_c2 36 rfl rfl (if_pos b51) ?_
        have b51 := iv_eq.mp b51
        refine k_aload 37 rfl rfl rfl ?_
        have e52 : F13 8 = F0 8 := k17 8 (by decide)
        have e53 : F13 7 = F0 7 := k17 7 (by decide)
        have e54 : F13 20 = F0 20 := k17 20 (by decide)
        have e55 : F13 21 = F0 21 := k17 21 (by decide)
        have e56 : F13 18 = F0 18 := k17 18 (by decide)
        have e57 : F13 23 = F0 23 := k17 23 (by decide)
        have e58 : F13 11 = F0 11 := k17 11 (by decide)
        refine k_rv I15 rfl (m_readsNumber  I15.1 (show 0 ≤ (F13 8) ∧ (F13 8) ≤ (F13 7) ∧ (F13 7) ≤ 700 ∧ 0 ≤ (F13 20) ∧ (F13 20) ≤ 30 ∧ 0 ≤ (F13 21) ∧ (F13 21) ≤ 12 ∧ 0 ≤ (F13 18) ∧ (F13 18) ≤ 12 ∧ 0 ≤ (F13 23) ∧ (F13 23) ≤ 1000000 ∧ ((F13 9) = 2 → 0 ≤ (F13 11) ∧ (F13 11) ≤ 9) ∧ 0 ≤ (F13 9) ∧ (F13 9) ≤ 4 by omega) (show nm ((A0 16)) ((A0 17)) ((F13 18)) by rw [(show A0 16 = A0 16 from rfl), (show A0 17 = A0 17 from rfl), (k17 18 (by decide))]; exact p2) (show (F13 9) = 2 by omega)) (Nat.ble_eq_true_of_le (by omega)) rfl rfl I15.rc ?_
        rintro h60 F61 A62 I63 ⟨k65, k66, p64⟩
        replace p64 : ((F13 8) ≤ F61 8 ∧ F61 8 ≤ (F13 7) ∧ (F13 20) ≤ F61 20 ∧ F61 20 ≤ 30 ∧ F61 21 = (F13 21) ∧ (F13 23) ≤ F61 23 ∧ F61 23 ≤ 1000000 ∧ (F61 9 = 2 → 0 ≤ F61 11 ∧ F61 11 ≤ 9) ∧ 0 ≤ F61 9 ∧ F61 9 ≤ 4) ∧ (F61 6 = 0 → F61 20 = (F13 20) ∧ (F13 6) = 0 ∧ (F61 9 = 0 ∨ (F13 8) < F61 8)) ∧ (F61 6 = 0 → F61 23 ≤ 124 → rd1 (A62 22) ((A0 22)) ((F13 23)) (F61 23) ((F13 20))) := p64
        obtain ⟨p64a, p64b, p64c⟩ := p64
        show am_Ok _ _ _ (40, _, [], _, 0, 0) _
        refine k_goto 100 rfl rfl ?_
        have e67 : F61 20 = F13 20 := k65 20 (by decide)
        have e68 : F61 21 = F13 21 := k65 21 (by decide)
        exact k_fin rfl rfl ⟨_, _, _, rfl, I63, (fr1.tr (by decide) (fr1.tr (by decide) fr1.rf k17) k65), (fr2.tr (by decide) fr2.rf k66), ⟨(show (F0 8 ≤ F61 8 ∧ F61 8 ≤ F0 7 ∧ F0 20 ≤ F61 20 ∧ F61 20 ≤ 30 ∧ F61 21 = F0 21 ∧ F0 23 ≤ F61 23 ∧ F61 23 ≤ 1000000 ∧ (F61 9 = 2 → 0 ≤ F61 11 ∧ F61 11 ≤ 9) ∧ 0 ≤ F61 9 ∧ F61 9 ≤ 4) by omega), (show (F61 6 = 0 → F61 20 = F0 20 ∧ F0 6 = 0 ∧ (F61 9 = 0 ∨ F0 8 < F61 8)) by omega), fun z1 z2 => by have z8 : F61 6 = 0 := z1; have z9 : F61 23 ≤ 124 := z2; exact rd_cg (p64c z8 z9) (by omega) rfl (by omega)⟩⟩
      · refine k_c2 43 rfl rfl (if_neg b51) ?_
        have b51 := mt iv_eq.mpr b51
        refine k_aload 44 rfl rfl rfl ?_
        refine k_aload 45 rfl rfl rfl ?_
        refine r_gI I15 48 rfl rfl rfl (fun x69 (e70 : x69.toInt = F13 21) => ?_)
        have e71 : F13 21 = F0 21 := k17 21 (by decide)
        refine k_push 50 rfl rfl ?_
        have hc72 : (12 : Int32).toInt = 12 := by decide
        by_cases b73 : (12 : Int32) ≤ x69
        · refine k_c2 57 rfl rfl (if_pos b73) ?_
          have b73 := iv_le.mp b73
          refine k_push 58 rfl rfl ?_
          have hc74 : (0 : Int32).toInt = 0 := by decide
          refine k_push 59 rfl rfl ?_
          refine k_rq I15 rfl (m_check  I15.1 (show (2 : Int32).toInt ≠ 0 by omega)) (Nat.ble_eq_true_of_le (by omega)) rfl rfl I15.rc ?_
          rintro x75 h76 F77 A78 I79 ⟨k81, k82, p80⟩
          replace p80 : (x75.toInt = 1 ∧ (F13 6) = 0 ∧ (0 : Int32).toInt ≠ 0 ∧ F77 6 = 0) ∨ (x75.toInt = 0 ∧ F77 6 ≠ 0) := p80
          have k82 := fr2.nil k82
          subst k82
          have z83 := iv_01 (x := x75) (by omega)
          show am_Ok _ _ _ (62, _, [.inl x75], _, 0, 0) _
          by_cases b84 : x75 = 0
          · refine k_c1 65 rfl rfl (if_pos b84) ?_
            have b84 := iv_eq0.mp b84
            have e85 : F77 8 = F13 8 := k81 8 (by decide)
            have e86 : F13 8 = F0 8 := k17 8 (by decide)
            have e87 : F77 20 = F13 20 := k81 20 (by decide)
            have e88 : F13 20 = F0 20 := k17 20 (by decide)
            have e89 : F77 21 = F13 21 := k81 21 (by decide)
            have e90 : F77 23 = F13 23 := k81 23 (by decide)
            have e91 : F13 23 = F0 23 := k17 23 (by decide)
            have e92 : F77 9 = F13 9 := k81 9 (by decide)
            have e93 : F77 11 = F13 11 := k81 11 (by decide)
            have e94 : F13 11 = F0 11 := k17 11 (by decide)
            exact k_fin rfl rfl ⟨_, _, _, rfl, I79, (fr1.tr (by decide) (fr1.tr (by decide) fr1.rf k17) k81), fr2.rf, ⟨(show (F0 8 ≤ F77 8 ∧ F77 8 ≤ F0 7 ∧ F0 20 ≤ F77 20 ∧ F77 20 ≤ 30 ∧ F77 21 = F0 21 ∧ F0 23 ≤ F77 23 ∧ F77 23 ≤ 1000000 ∧ (F77 9 = 2 → 0 ≤ F77 11 ∧ F77 11 ≤ 9) ∧ 0 ≤ F77 9 ∧ F77 9 ≤ 4) by omega), (show (F77 6 = 0 → F77 20 = F0 20 ∧ F0 6 = 0 ∧ (F77 9 = 0 ∨ F0 8 < F77 8)) by omega), fun z => absurd (show F77 6 = 0 from z) (by omega)⟩⟩
          · refine k_c1 66 rfl rfl (if_neg b84) ?_
            have b84 := mt iv_eq0.mpr b84
            refine k_aload 67 rfl rfl rfl ?_
            refine k_dup 68 rfl rfl rfl ?_
            refine r_gI I79 71 rfl rfl rfl (fun x95 (e96 : x95.toInt = F77 21) => ?_)
            have e97 : F77 21 = F13 21 := k81 21 (by decide)
            refine k_push 72 rfl rfl ?_
            obtain ⟨x98, q99⟩ : ∃ q : Int32, q = (x95 + (1 : Int32)) := ⟨_, rfl⟩
            have e100 : x98.toInt = x95.toInt + 1 := by rw [q99, iv_add (by omega) (by omega)]; omega
            refine k_bin x98 73 rfl q99.symm rfl ?_
            refine r_pI I79 76 rfl rfl rfl (fun h101 I102 => ?_)
            refine k_aload 77 rfl rfl rfl ?_
            have e103 : F77 8 = F13 8 := k81 8 (by decide)
            have e104 : F13 8 = F0 8 := k17 8 (by decide)
            have e105 : F77 7 = F13 7 := k81 7 (by decide)
            have e106 : F13 7 = F0 7 := k17 7 (by decide)
            refine k_rv I102 rfl (m_goes  I102.1 (show 0 ≤ (F77 8) ∧ (F77 8) ≤ (F77 7) ∧ (F77 7) ≤ 700 by omega)) (Nat.ble_eq_true_of_le (by omega)) rfl rfl I102.rc ?_
            rintro h108 F109 A110 I111 ⟨k113, k114, p112⟩
            replace p112 : ((F77 8) ≤ F109 8 ∧ F109 8 ≤ (F77 7)) ∧ (F109 9 = 0 ∨ (F77 8) < F109 8) ∧ (F109 9 = 2 → 0 ≤ F109 11 ∧ F109 11 ≤ 9) ∧ (0 ≤ F109 9 ∧ F109 9 ≤ 4) := p112
            obtain ⟨p112a, p112b, p112c, p112d⟩ := p112
            have k114 := fr2.nil k114
            subst k114
            show am_Ok _ _ _ (80, _, [], _, 0, 0) _
            refine k_aload 81 rfl rfl rfl ?_
            have e115 : F109 7 = F77 7 := k113 7 (by decide)
            have e116 : F109 20 = F77 20 := k113 20 (by decide)
            have e117 : F77 20 = F13 20 := k81 20 (by decide)
            have e118 : F13 20 = F0 20 := k17 20 (by decide)
            have e119 : F109 21 = x98.toInt := k113 21 (by decide)
            have e120 : F109 18 = F77 18 := k113 18 (by decide)
            have e121 : F77 18 = F13 18 := k81 18 (by decide)
            have e122 : F13 18 = F0 18 := k17 18 (by decide)
            have e123 : F109 23 = F77 23 := k113 23 (by decide)
            have e124 : F77 23 = F13 23 := k81 23 (by decide)
            have e125 : F13 23 = F0 23 := k17 23 (by decide)
            refine k_rv I111 rfl (hrec  I111.1 (show 0 ≤ (F109 8) ∧ (F109 8) ≤ (F109 7) ∧ (F109 7) ≤ 700 ∧ 0 ≤ (F109 20) ∧ (F109 20) ≤ 30 ∧ 0 ≤ (F109 21) ∧ (F109 21) ≤ 12 ∧ 0 ≤ (F109 18) ∧ (F109 18) ≤ 12 ∧ 0 ≤ (F109 23) ∧ (F109 23) ≤ 1000000 ∧ ((F109 9) = 2 → 0 ≤ (F109 11) ∧ (F109 11) ≤ 9) ∧ 0 ≤ (F109 9) ∧ (F109 9) ≤ 4 by omega) (show nm ((A0 16)) ((A0 17)) ((F109 18)) by rw [(show A0 16 = A0 16 from rfl), (show A0 17 = A0 17 from rfl), ((k113 18 (by decide)).trans ((k81 18 (by decide)).trans (k17 18 (by decide))))]; exact p2) (show (12 - (F109 21)) + (30 - (F109 20)) < (gk : Int) by omega)) (Nat.ble_eq_true_of_le (by omega)) rfl rfl I111.rc ?_
            rintro h127 F128 A129 I130 ⟨k132, k133, p131⟩
            have e134 : F109 6 = F77 6 := k113 6 (by decide)
            replace p131 : ((F109 8) ≤ F128 8 ∧ F128 8 ≤ (F109 7) ∧ (F109 20) ≤ F128 20 ∧ F128 20 ≤ 30 ∧ F128 21 = (F109 21) ∧ (F109 23) ≤ F128 23 ∧ F128 23 ≤ 1000000 ∧ (F128 9 = 2 → 0 ≤ F128 11 ∧ F128 11 ≤ 9) ∧ 0 ≤ F128 9 ∧ F128 9 ≤ 4) ∧ (F128 6 = 0 → F128 20 = (F109 20) ∧ (F109 6) = 0 ∧ (F128 9 = 0 ∨ (F109 8) < F128 8)) ∧ (F128 6 = 0 → F128 23 ≤ 124 → rd1 (A129 22) ((A0 22)) ((F109 23)) (F128 23) ((F109 20))) := p131
            obtain ⟨p131a, p131b, p131c⟩ := p131
            show am_Ok _ _ _ (84, _, [], _, 0, 0) _
            refine k_aload 85 rfl rfl rfl ?_
            refine k_push 87 rfl rfl ?_
            have hc135 : (41 : Int32).toInt = 41 := by decide
            have e136 : F128 7 = F109 7 := k132 7 (by decide)
            refine k_rv I130 rfl (m_must  I130.1 (show 0 ≤ (F128 8) ∧ (F128 8) ≤ (F128 7) ∧ (F128 7) ≤ 700 ∧ ((F128 9) = 2 → 0 ≤ (F128 11) ∧ (F128 11) ≤ 9) ∧ 0 ≤ (F128 9) ∧ (F128 9) ≤ 4 by omega)) (Nat.ble_eq_true_of_le (by omega)) rfl rfl I130.rc ?_
            rintro h138 F139 A140 I141 ⟨k143, k144, p142⟩
            replace p142 : ((F128 8) ≤ F139 8 ∧ F139 8 ≤ (F128 7)) ∧ (F139 6 = 0 → (F128 6) = 0 ∧ (F139 9 = 0 ∨ (F128 8) < F139 8)) ∧ (F139 9 = 2 → 0 ≤ F139 11 ∧ F139 11 ≤ 9) ∧ (0 ≤ F139 9 ∧ F139 9 ≤ 4) := p142
            obtain ⟨p142a, p142b, p142c, p142d⟩ := p142
            have k144 := fr2.nil k144
            subst k144
            show am_Ok _ _ _ (90, _, [], _, 0, 0) _
            refine k_aload 91 rfl rfl rfl ?_
            refine k_dup 92 rfl rfl rfl ?_
            refine r_gI I141 95 rfl rfl rfl (fun x145 (e146 : x145.toInt = F139 21) => ?_)
            have e147 : F139 21 = F128 21 := k143 21 (by decide)
            refine k_push 96 rfl rfl ?_
            obtain ⟨x148, q149⟩ : ∃ q : Int32, q = (x145 - (1 : Int32)) := ⟨_, rfl⟩
            have e150 : x148.toInt = x145.toInt - 1 := by rw [q149, iv_sub (by omega) (by omega)]; omega
            refine k_bin x148 97 rfl q149.symm rfl ?_
            refine r_pI I141 100 rfl rfl rfl (fun h151 I152 => ?_)
            have e153 : F139 20 = F128 20 := k143 20 (by decide)
            have e154 : F139 23 = F128 23 := k143 23 (by decide)
            exact k_fin rfl rfl ⟨_, _, _, rfl, I152, (fr1.up (by decide) (fr1.tr (by decide) (fr1.tr (by decide) (fr1.tr (by decide) (fr1.up (by decide) (fr1.tr (by decide) (fr1.tr (by decide) fr1.rf k17) k81)) k113) k132) k143)), (fr2.tr (by decide) fr2.rf k133), ⟨(show (F0 8 ≤ F139 8 ∧ F139 8 ≤ F0 7 ∧ F0 20 ≤ F139 20 ∧ F139 20 ≤ 30 ∧ x148.toInt = F0 21 ∧ F0 23 ≤ F139 23 ∧ F139 23 ≤ 1000000 ∧ (F139 9 = 2 → 0 ≤ F139 11 ∧ F139 11 ≤ 9) ∧ 0 ≤ F139 9 ∧ F139 9 ≤ 4) by omega), (show (F139 6 = 0 → F139 20 = F0 20 ∧ F0 6 = 0 ∧ (F139 9 = 0 ∨ F0 8 < F139 8)) by omega), fun z1 z2 => by have z8 : F139 6 = 0 := z1; have z9 : F139 23 ≤ 124 := z2; have h9 := p131c (by omega) (by omega); show rd1 (A129 22) (A0 22) (F0 23) (F139 23) (F0 20); exact rd_cg h9 (by omega) (by omega) (by omega)⟩⟩
        · refine k_c2 53 rfl rfl (if_neg b73) ?_
          have b73 := mt iv_le.mpr b73
          refine k_push 54 rfl rfl ?_
          refine k_goto 58 rfl rfl ?_
          refine k_push 59 rfl rfl ?_
          refine k_rq I15 rfl (m_check  I15.1 (show (2 : Int32).toInt ≠ 0 by omega)) (Nat.ble_eq_true_of_le (by omega)) rfl rfl I15.rc ?_
          rintro x155 h156 F157 A158 I159 ⟨k161, k162, p160⟩
          replace p160 : (x155.toInt = 1 ∧ (F13 6) = 0 ∧ (1 : Int32).toInt ≠ 0 ∧ F157 6 = 0) ∨ (x155.toInt = 0 ∧ F157 6 ≠ 0) := p160
          have k162 := fr2.nil k162
          subst k162
          have z163 := iv_01 (x := x155) (by omega)
          show am_Ok _ _ _ (62, _, [.inl x155], _, 0, 0) _
          by_cases b164 : x155 = 0
          · refine k_c1 65 rfl rfl (if_pos b164) ?_
            have b164 := iv_eq0.mp b164
            have e165 : F157 8 = F13 8 := k161 8 (by decide)
            have e166 : F13 8 = F0 8 := k17 8 (by decide)
            have e167 : F157 20 = F13 20 := k161 20 (by decide)
            have e168 : F13 20 = F0 20 := k17 20 (by decide)
            have e169 : F157 21 = F13 21 := k161 21 (by decide)
            have e170 : F157 23 = F13 23 := k161 23 (by decide)
            have e171 : F13 23 = F0 23 := k17 23 (by decide)
            have e172 : F157 9 = F13 9 := k161 9 (by decide)
            have e173 : F157 11 = F13 11 := k161 11 (by decide)
            have e174 : F13 11 = F0 11 := k17 11 (by decide)
            exact k_fin rfl rfl ⟨_, _, _, rfl, I159, (fr1.tr (by decide) (fr1.tr (by decide) fr1.rf k17) k161), fr2.rf, ⟨(show (F0 8 ≤ F157 8 ∧ F157 8 ≤ F0 7 ∧ F0 20 ≤ F157 20 ∧ F157 20 ≤ 30 ∧ F157 21 = F0 21 ∧ F0 23 ≤ F157 23 ∧ F157 23 ≤ 1000000 ∧ (F157 9 = 2 → 0 ≤ F157 11 ∧ F157 11 ≤ 9) ∧ 0 ≤ F157 9 ∧ F157 9 ≤ 4) by omega), (show (F157 6 = 0 → F157 20 = F0 20 ∧ F0 6 = 0 ∧ (F157 9 = 0 ∨ F0 8 < F157 8)) by omega), fun z => absurd (show F157 6 = 0 from z) (by omega)⟩⟩
          · refine k_c1 66 rfl rfl (if_neg b164) ?_
            have b164 := mt iv_eq0.mpr b164
            refine k_aload 67 rfl rfl rfl ?_
            refine k_dup 68 rfl rfl rfl ?_
            refine r_gI I159 71 rfl rfl rfl (fun x175 (e176 : x175.toInt = F157 21) => ?_)
            have e177 : F157 21 = F13 21 := k161 21 (by decide)
            refine k_push 72 rfl rfl ?_
            obtain ⟨x178, q179⟩ : ∃ q : Int32, q = (x175 + (1 : Int32)) := ⟨_, rfl⟩
            have e180 : x178.toInt = x175.toInt + 1 := by rw [q179, iv_add (by omega) (by omega)]; omega
            refine k_bin x178 73 rfl q179.symm rfl ?_
            refine r_pI I159 76 rfl rfl rfl (fun h181 I182 => ?_)
            refine k_aload 77 rfl rfl rfl ?_
            have e183 : F157 8 = F13 8 := k161 8 (by decide)
            have e184 : F13 8 = F0 8 := k17 8 (by decide)
            have e185 : F157 7 = F13 7 := k161 7 (by decide)
            have e186 : F13 7 = F0 7 := k17 7 (by decide)
            refine k_rv I182 rfl (m_goes  I182.1 (show 0 ≤ (F157 8) ∧ (F157 8) ≤ (F157 7) ∧ (F157 7) ≤ 700 by omega)) (Nat.ble_eq_true_of_le (by omega)) rfl rfl I182.rc ?_
            rintro h188 F189 A190 I191 ⟨k193, k194, p192⟩
            replace p192 : ((F157 8) ≤ F189 8 ∧ F189 8 ≤ (F157 7)) ∧ (F189 9 = 0 ∨ (F157 8) < F189 8) ∧ (F189 9 = 2 → 0 ≤ F189 11 ∧ F189 11 ≤ 9) ∧ (0 ≤ F189 9 ∧ F189 9 ≤ 4) := p192
            obtain ⟨p192a, p192b, p192c, p192d⟩ := p192
            have k194 := fr2.nil k194
            subst k194
            show am_Ok _ _ _ (80, _, [], _, 0, 0) _
            refine k_aload 81 rfl rfl rfl ?_
            have e195 : F189 7 = F157 7 := k193 7 (by decide)
            have e196 : F189 20 = F157 20 := k193 20 (by decide)
            have e197 : F157 20 = F13 20 := k161 20 (by decide)
            have e198 : F13 20 = F0 20 := k17 20 (by decide)
            have e199 : F189 21 = x178.toInt := k193 21 (by decide)
            have e200 : F189 18 = F157 18 := k193 18 (by decide)
            have e201 : F157 18 = F13 18 := k161 18 (by decide)
            have e202 : F13 18 = F0 18 := k17 18 (by decide)
            have e203 : F189 23 = F157 23 := k193 23 (by decide)
            have e204 : F157 23 = F13 23 := k161 23 (by decide)
            have e205 : F13 23 = F0 23 := k17 23 (by decide)
            refine k_rv I191 rfl (hrec  I191.1 (show 0 ≤ (F189 8) ∧ (F189 8) ≤ (F189 7) ∧ (F189 7) ≤ 700 ∧ 0 ≤ (F189 20) ∧ (F189 20) ≤ 30 ∧ 0 ≤ (F189 21) ∧ (F189 21) ≤ 12 ∧ 0 ≤ (F189 18) ∧ (F189 18) ≤ 12 ∧ 0 ≤ (F189 23) ∧ (F189 23) ≤ 1000000 ∧ ((F189 9) = 2 → 0 ≤ (F189 11) ∧ (F189 11) ≤ 9) ∧ 0 ≤ (F189 9) ∧ (F189 9) ≤ 4 by omega) (show nm ((A0 16)) ((A0 17)) ((F189 18)) by rw [(show A0 16 = A0 16 from rfl), (show A0 17 = A0 17 from rfl), ((k193 18 (by decide)).trans ((k161 18 (by decide)).trans (k17 18 (by decide))))]; exact p2) (show (12 - (F189 21)) + (30 - (F189 20)) < (gk : Int) by omega)) (Nat.ble_eq_true_of_le (by omega)) rfl rfl I191.rc ?_
            rintro h207 F208 A209 I210 ⟨k212, k213, p211⟩
            have e214 : F189 6 = F157 6 := k193 6 (by decide)
            replace p211 : ((F189 8) ≤ F208 8 ∧ F208 8 ≤ (F189 7) ∧ (F189 20) ≤ F208 20 ∧ F208 20 ≤ 30 ∧ F208 21 = (F189 21) ∧ (F189 23) ≤ F208 23 ∧ F208 23 ≤ 1000000 ∧ (F208 9 = 2 → 0 ≤ F208 11 ∧ F208 11 ≤ 9) ∧ 0 ≤ F208 9 ∧ F208 9 ≤ 4) ∧ (F208 6 = 0 → F208 20 = (F189 20) ∧ (F189 6) = 0 ∧ (F208 9 = 0 ∨ (F189 8) < F208 8)) ∧ (F208 6 = 0 → F208 23 ≤ 124 → rd1 (A209 22) ((A0 22)) ((F189 23)) (F208 23) ((F189 20))) := p211
            obtain ⟨p211a, p211b, p211c⟩ := p211
            show am_Ok _ _ _ (84, _, [], _, 0, 0) _
            refine k_aload 85 rfl rfl rfl ?_
            refine k_push 87 rfl rfl ?_
            have hc215 : (41 : Int32).toInt = 41 := by decide
            have e216 : F208 7 = F189 7 := k212 7 (by decide)
            refine k_rv I210 rfl (m_must  I210.1 (show 0 ≤ (F208 8) ∧ (F208 8) ≤ (F208 7) ∧ (F208 7) ≤ 700 ∧ ((F208 9) = 2 → 0 ≤ (F208 11) ∧ (F208 11) ≤ 9) ∧ 0 ≤ (F208 9) ∧ (F208 9) ≤ 4 by omega)) (Nat.ble_eq_true_of_le (by omega)) rfl rfl I210.rc ?_
            rintro h218 F219 A220 I221 ⟨k223, k224, p222⟩
            replace p222 : ((F208 8) ≤ F219 8 ∧ F219 8 ≤ (F208 7)) ∧ (F219 6 = 0 → (F208 6) = 0 ∧ (F219 9 = 0 ∨ (F208 8) < F219 8)) ∧ (F219 9 = 2 → 0 ≤ F219 11 ∧ F219 11 ≤ 9) ∧ (0 ≤ F219 9 ∧ F219 9 ≤ 4) := p222
            obtain ⟨p222a, p222b, p222c, p222d⟩ := p222
            have k224 := fr2.nil k224
            subst k224
            show am_Ok _ _ _ (90, _, [], _, 0, 0) _
            refine k_aload 91 rfl rfl rfl ?_
            refine k_dup 92 rfl rfl rfl ?_
            refine r_gI I221 95 rfl rfl rfl (fun x225 (e226 : x225.toInt = F219 21) => ?_)
            have e227 : F219 21 = F208 21 := k223 21 (by decide)
            refine k_push 96 rfl rfl ?_
            obtain ⟨x228, q229⟩ : ∃ q : Int32, q = (x225 - (1 : Int32)) := ⟨_, rfl⟩
            have e230 : x228.toInt = x225.toInt - 1 := by rw [q229, iv_sub (by omega) (by omega)]; omega
            refine k_bin x228 97 rfl q229.symm rfl ?_
            refine r_pI I221 100 rfl rfl rfl (fun h231 I232 => ?_)
            have e233 : F219 20 = F208 20 := k223 20 (by decide)
            have e234 : F219 23 = F208 23 := k223 23 (by decide)
            exact k_fin rfl rfl ⟨_, _, _, rfl, I232, (fr1.up (by decide) (fr1.tr (by decide) (fr1.tr (by decide) (fr1.tr (by decide) (fr1.up (by decide) (fr1.tr (by decide) (fr1.tr (by decide) fr1.rf k17) k161)) k193) k212) k223)), (fr2.tr (by decide) fr2.rf k213), ⟨(show (F0 8 ≤ F219 8 ∧ F219 8 ≤ F0 7 ∧ F0 20 ≤ F219 20 ∧ F219 20 ≤ 30 ∧ x228.toInt = F0 21 ∧ F0 23 ≤ F219 23 ∧ F219 23 ≤ 1000000 ∧ (F219 9 = 2 → 0 ≤ F219 11 ∧ F219 11 ≤ 9) ∧ 0 ≤ F219 9 ∧ F219 9 ≤ 4) by omega), (show (F219 6 = 0 → F219 20 = F0 20 ∧ F0 6 = 0 ∧ (F219 9 = 0 ∨ F0 8 < F219 8)) by omega), fun z1 z2 => by have z8 : F219 6 = 0 := z1; have z9 : F219 23 ≤ 124 := z2; have h9 := p211c (by omega) (by omega); show rd1 (A209 22) (A0 22) (F0 23) (F219 23) (F0 20); exact rd_cg h9 (by omega) (by omega) (by omega)⟩⟩
end
