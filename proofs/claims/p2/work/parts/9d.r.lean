section
theorem m_readsAtom {h0 : am_h} {F0 : rf_f} {A0 : rf_A} {gk : Nat} (hR : rf_R h0 F0 A0) (hrec : ∀ {h0 : am_h} {F0 : rf_f} {A0 : rf_A}, rf_R h0 F0 A0 → (0 ≤ F0 8 ∧ F0 8 ≤ F0 7 ∧ F0 7 ≤ 700 ∧ 0 ≤ F0 20 ∧ F0 20 ≤ 30 ∧ 0 ≤ F0 21 ∧ F0 21 ≤ 12 ∧ 0 ≤ F0 18 ∧ F0 18 ≤ 12 ∧ 0 ≤ F0 23 ∧ F0 23 ≤ 1000000 ∧ (F0 9 = 2 → 0 ≤ F0 11 ∧ F0 11 ≤ 9) ∧ 0 ≤ F0 9 ∧ F0 9 ≤ 4) → (nm (A0 16) (A0 17) (F0 18)) → ((12 - F0 21) + (30 - F0 20) < (gk : Int)) → am_Mt (2 * gk + 5) 182 [.inr (.inr (some 81))] h0 (rf_V h0 (fun F' A' => fr1 [8, 10, 9, 14, 11, 12, 6, 5, 23, 20, 21] F0 F' ∧ fr2 [22] A0 A' ∧ ((F0 8 ≤ F' 8 ∧ F' 8 ≤ F0 7 ∧ F0 20 ≤ F' 20 ∧ F' 20 ≤ 30 ∧ F' 21 = F0 21 ∧ F0 23 ≤ F' 23 ∧ F' 23 ≤ 1000000 ∧ (F' 9 = 2 → 0 ≤ F' 11 ∧ F' 11 ≤ 9) ∧ 0 ≤ F' 9 ∧ F' 9 ≤ 4) ∧ (F' 6 = 0 → F' 20 = F0 20 ∧ F0 6 = 0 ∧ (F' 9 = 0 ∨ F0 8 < F' 8)) ∧ (F' 6 = 0 → F' 23 ≤ 124 → rd1 (A' 22) (A0 22) (F0 23) (F' 23) (F0 20)))))) (p1 : 0 ≤ F0 8 ∧ F0 8 ≤ F0 7 ∧ F0 7 ≤ 700 ∧ 0 ≤ F0 20 ∧ F0 20 ≤ 30 ∧ 0 ≤ F0 21 ∧ F0 21 ≤ 12 ∧ 0 ≤ F0 18 ∧ F0 18 ≤ 12 ∧ 0 ≤ F0 23 ∧ F0 23 ≤ 1000000 ∧ (F0 9 = 2 → 0 ≤ F0 11 ∧ F0 11 ≤ 9) ∧ 0 ≤ F0 9 ∧ F0 9 ≤ 4) (p2 : nm (A0 16) (A0 17) (F0 18)) (p3 : (12 - F0 21) + (30 - F0 20) < (gk : Int) + 1) : am_Mt ((2 * gk + 5) + 1) 180 [.inr (.inr (some 81))] h0 (rf_V h0 (fun F' A' => fr1 [8, 10, 9, 14, 11, 12, 6, 5, 23, 20, 21] F0 F' ∧ fr2 [22] A0 A' ∧ ((F0 8 ≤ F' 8 ∧ F' 8 ≤ F0 7 ∧ F0 20 ≤ F' 20 ∧ F' 20 ≤ 30 ∧ F' 21 = F0 21 ∧ F0 23 ≤ F' 23 ∧ F' 23 ≤ 1000000 ∧ (F' 9 = 2 → 0 ≤ F' 11 ∧ F' 11 ≤ 9) ∧ 0 ≤ F' 9 ∧ F' 9 ≤ 4) ∧ (F' 6 = 0 → F' 20 = F0 20 ∧ F0 6 = 0 ∧ (F' 9 = 0 ∨ F0 8 < F' 8)) ∧ (F' 6 = 0 → F' 23 ≤ 124 → rd1 (A' 22) (A0 22) (F0 23) (F' 23) (F0 20))))) := by
  refine am_Mt.of (D := (2 * gk + 5)) ?_
  have hI : rf_I h0 h0 F0 A0 := rf_I.start hR
  refine k_aload 1 rfl rfl rfl ?_
  refine k_aload 2 rfl rfl rfl ?_
  refine k_rq hI rfl (m_isAtom  hI.1 ) (Nat.ble_eq_true_of_le (by omega)) rfl rfl hI.rc ?_
  rintro x1 h2 F3 A4 I5 ⟨k7, k8, p6⟩
  replace p6 : x1.toInt = 0 ∨ (x1.toInt = 1 ∧ (F0 6) = 0 ∧ ((F0 9) = 1 ∨ (F0 9) = 2 ∨ (F0 9) = 3)) := p6
  have k7 := fr1.nil k7
  subst k7
  have k8 := fr2.nil k8
  subst k8
  have z9 := iv_01 (x := x1) (by omega)
  show am_Ok _ _ _ (5, _, [.inl x1, .inr (.inr (some 81))], _, 0, 0) _
  refine k_push 6 rfl rfl ?_
  have hc10 : (1 : Int32).toInt = 1 := by decide
  refine k_in (d := 1) rfl (Nat.ble_eq_true_of_le (by omega)) rfl rfl I5.rc ?_
  refine k_aload 1 rfl rfl rfl ?_
  refine k_in (d := 0) rfl (Nat.ble_eq_true_of_le (by omega)) rfl rfl I5.rc ?_
  refine k_aload 1 rfl rfl rfl ?_
  refine r_gI I5 4 rfl rfl rfl (fun x11 (e12 : x11.toInt = F0 6) => ?_)
  by_cases b13 : x11 = 0
  · refine k_c1 7 rfl rfl (if_pos b13) ?_
    have b13 := iv_eq0.mp b13
    refine k_push 8 rfl rfl ?_
    refine k_goto 12 rfl rfl ?_
    refine k_fin rfl (fin_Z (Or.inr rfl)) ⟨_, _, rfl, rf_len I5 I5, ?_⟩
    show am_Ok _ _ _ (4, _, [.inl (1 : Int32)], _, 0, 0) _
    refine k_c1 7 rfl rfl (if_neg (by decide)) ?_
    refine k_iload 8 rfl rfl rfl ?_
    by_cases b14 : x1 = 0
    · refine k_c1 11 rfl rfl (if_pos b14) ?_
      have b14 := iv_eq0.mp b14
      refine k_aload 12 rfl rfl rfl ?_
      refine k_iload 13 rfl rfl rfl ?_
      refine r_pI I5 16 rfl rfl rfl (fun h15 I16 => ?_)
      refine k_aload 17 rfl rfl rfl ?_
      refine k_aload 18 rfl rfl rfl ?_
      refine r_gI I16 21 rfl rfl rfl (fun x17 (e18 : x17.toInt = F0 10) => ?_)
      refine r_pI I16 24 rfl rfl rfl (fun h19 I20 => ?_)
      refine k_aload 25 rfl rfl rfl ?_
      refine k_in (d := 0) rfl (Nat.ble_eq_true_of_le (by omega)) rfl rfl I20.rc ?_
      refine k_aload 1 rfl rfl rfl ?_
      refine r_gI I20 4 rfl rfl rfl (fun x21 (e22 : x21.toInt = (1 : Int32).toInt) => ?_)
      by_cases b23 : x21 = 0
      · refine k_c1 7 rfl rfl (if_pos b23) ?_
        have b23 := iv_eq0.mp b23
        refine k_push 8 rfl rfl ?_
        refine k_goto 12 rfl rfl ?_
        refine k_fin rfl (fin_Z (Or.inr rfl)) ⟨_, _, rfl, rf_len I20 I20, ?_⟩
        show am_Ok _ _ _ (28, _, [.inl (1 : Int32)], _, 0, 0) _
        refine k_fin rfl (fin_Z (Or.inr rfl)) ⟨_, _, rfl, rf_len I5 I20, ?_⟩
        show am_Ok _ _ _ (9, _, [.inl (1 : Int32)], _, 0, 0) _
        refine k_c1 13 rfl rfl (if_neg (by decide)) ?_
        refine k_aload 14 rfl rfl rfl ?_
        refine r_gI I20 17 rfl rfl rfl (fun x24 (e25 : x24.toInt = F0 9) => ?_)
        refine k_push 18 rfl rfl ?_
        by_cases b26 : x24 = (1 : Int32)
        · refine k_c2 21 rfl rfl (if_pos b26) ?_
          have b26 := iv_eq.mp b26
          refine k_aload 22 rfl rfl rfl ?_
          refine k_rv I20 rfl (m_readsName  I20.1 (show 0 ≤ (F0 8) ∧ (F0 8) ≤ (F0 7) ∧ (F0 7) ≤ 700 ∧ 0 ≤ (F0 20) ∧ (F0 20) ≤ 30 ∧ 0 ≤ (F0 21) ∧ (F0 21) ≤ 12 ∧ 0 ≤ (F0 18) ∧ (F0 18) ≤ 12 ∧ 0 ≤ (F0 23) ∧ (F0 23) ≤ 1000000 ∧ ((F0 9) = 2 → 0 ≤ (F0 11) ∧ (F0 11) ≤ 9) ∧ 0 ≤ (F0 9) ∧ (F0 9) ≤ 4 by omega) (show nm ((A0 16)) ((A0 17)) ((F0 18)) from p2)) (Nat.ble_eq_true_of_le (by omega)) rfl rfl I20.rc ?_
          rintro h28 F29 A30 I31 ⟨k33, k34, p32⟩
          replace p32 : ((F0 8) ≤ F29 8 ∧ F29 8 ≤ (F0 7) ∧ (F0 20) ≤ F29 20 ∧ F29 20 ≤ 30 ∧ F29 21 = (F0 21) ∧ (F0 23) ≤ F29 23 ∧ F29 23 ≤ 1000000 ∧ (F29 9 = 2 → 0 ≤ F29 11 ∧ F29 11 ≤ 9) ∧ 0 ≤ F29 9 ∧ F29 9 ≤ 4) ∧ (F29 6 = 0 → F29 20 = (F0 20) ∧ ((1 : Int32).toInt) = 0 ∧ (F29 9 = 0 ∨ (F0 8) < F29 8)) ∧ (F29 6 = 0 → F29 23 ≤ 124 → rd1 (A30 22) ((A0 22)) ((F0 23)) (F29 23) ((F0 20))) := p32
          obtain ⟨p32a, p32b, p32c⟩ := p32
          show am_Ok _ _ _ (25, _, [], _, 0, 0) _
          refine k_goto 100 rfl rfl ?_
          have e35 : F29 20 = F0 20 := k33 20 (by decide)
          have e36 : F29 21 = F0 21 := k33 21 (by decide)
          exact k_fin rfl rfl ⟨_, _, _, rfl, I31, (fr1.tr (by decide) (fr1.up (by decide) (fr1.up (by decide) fr1.rf)) k33), (fr2.tr (by decide) fr2.rf k34), ⟨(show (F0 8 ≤ F29 8 ∧ F29 8 ≤ F0 7 ∧ F0 20 ≤ F29 20 ∧ F29 20 ≤ 30 ∧ F29 21 = F0 21 ∧ F0 23 ≤ F29 23 ∧ F29 23 ≤ 1000000 ∧ (F29 9 = 2 → 0 ≤ F29 11 ∧ F29 11 ≤ 9) ∧ 0 ≤ F29 9 ∧ F29 9 ≤ 4) by omega), (show (F29 6 = 0 → F29 20 = F0 20 ∧ F0 6 = 0 ∧ (F29 9 = 0 ∨ F0 8 < F29 8)) by omega), fun z1 z2 => by have z8 : F29 6 = 0 := z1; have z9 : F29 23 ≤ 124 := z2; exact p32c z8 z9⟩⟩
        · refine k_c2 28 rfl rfl (if_neg b26) ?_
          have b26 := mt iv_eq.mpr b26
          refine k_aload 29 rfl rfl rfl ?_
          refine r_gI I20 32 rfl rfl rfl (fun x37 (e38 : x37.toInt = F0 9) => ?_)
          refine k_push 33 rfl rfl ?_
          have hc39 : (2 : Int32).toInt = 2 := by decide
          by_cases b40 : x37 = (2 : Int32)
          · refine k_c2 36 rfl rfl (if_pos b40) ?_
            have b40 := iv_eq.mp b40
            refine k_aload 37 rfl rfl rfl ?_
            refine k_rv I20 rfl (m_readsNumber  I20.1 (show 0 ≤ (F0 8) ∧ (F0 8) ≤ (F0 7) ∧ (F0 7) ≤ 700 ∧ 0 ≤ (F0 20) ∧ (F0 20) ≤ 30 ∧ 0 ≤ (F0 21) ∧ (F0 21) ≤ 12 ∧ 0 ≤ (F0 18) ∧ (F0 18) ≤ 12 ∧ 0 ≤ (F0 23) ∧ (F0 23) ≤ 1000000 ∧ ((F0 9) = 2 → 0 ≤ (F0 11) ∧ (F0 11) ≤ 9) ∧ 0 ≤ (F0 9) ∧ (F0 9) ≤ 4 by omega) (show nm ((A0 16)) ((A0 17)) ((F0 18)) from p2) (show (F0 9) = 2 by omega)) (Nat.ble_eq_true_of_le (by omega)) rfl rfl I20.rc ?_
            rintro h42 F43 A44 I45 ⟨k47, k48, p46⟩
            replace p46 : ((F0 8) ≤ F43 8 ∧ F43 8 ≤ (F0 7) ∧ (F0 20) ≤ F43 20 ∧ F43 20 ≤ 30 ∧ F43 21 = (F0 21) ∧ (F0 23) ≤ F43 23 ∧ F43 23 ≤ 1000000 ∧ (F43 9 = 2 → 0 ≤ F43 11 ∧ F43 11 ≤ 9) ∧ 0 ≤ F43 9 ∧ F43 9 ≤ 4) ∧ (F43 6 = 0 → F43 20 = (F0 20) ∧ ((1 : Int32).toInt) = 0 ∧ (F43 9 = 0 ∨ (F0 8) < F43 8)) ∧ (F43 6 = 0 → F43 23 ≤ 124 → rd1 (A44 22) ((A0 22)) ((F0 23)) (F43 23) ((F0 20))) := p46
            obtain ⟨p46a, p46b, p46c⟩ := p46
            show am_Ok _ _ _ (40, _, [], _, 0, 0) _
            refine k_goto 100 rfl rfl ?_
            have e49 : F43 20 = F0 20 := k47 20 (by decide)
            have e50 : F43 21 = F0 21 := k47 21 (by decide)
            exact k_fin rfl rfl ⟨_, _, _, rfl, I45, (fr1.tr (by decide) (fr1.up (by decide) (fr1.up (by decide) fr1.rf)) k47), (fr2.tr (by decide) fr2.rf k48), ⟨(show (F0 8 ≤ F43 8 ∧ F43 8 ≤ F0 7 ∧ F0 20 ≤ F43 20 ∧ F43 20 ≤ 30 ∧ F43 21 = F0 21 ∧ F0 23 ≤ F43 23 ∧ F43 23 ≤ 1000000 ∧ (F43 9 = 2 → 0 ≤ F43 11 ∧ F43 11 ≤ 9) ∧ 0 ≤ F43 9 ∧ F43 9 ≤ 4) by omega), (show (F43 6 = 0 → F43 20 = F0 20 ∧ F0 6 = 0 ∧ (F43 9 = 0 ∨ F0 8 < F43 8)) by omega), fun z1 z2 => by have z8 : F43 6 = 0 := z1; have z9 : F43 23 ≤ 124 := z2; exact p46c z8 z9⟩⟩
          · refine k_c2 43 rfl rfl (if_neg b40) ?_
            have b40 := mt iv_eq.mpr b40
            refine k_aload 44 rfl rfl rfl ?_
            refine k_aload 45 rfl rfl rfl ?_
            refine r_gI I20 48 rfl rfl rfl (fun x51 (e52 : x51.toInt = F0 21) => ?_)
            refine k_push 50 rfl rfl ?_
            have hc53 : (12 : Int32).toInt = 12 := by decide
            by_cases b54 : (12 : Int32) ≤ x51
            · refine k_c2 57 rfl rfl (if_pos b54) ?_
              have b54 := iv_le.mp b54
              refine k_push 58 rfl rfl ?_
              have hc55 : (0 : Int32).toInt = 0 := by decide
              refine k_push 59 rfl rfl ?_
              refine k_in (d := 1) rfl (Nat.ble_eq_true_of_le (by omega)) rfl rfl I20.rc ?_
              refine k_aload 1 rfl rfl rfl ?_
              refine k_in (d := 0) rfl (Nat.ble_eq_true_of_le (by omega)) rfl rfl I20.rc ?_
              refine k_aload 1 rfl rfl rfl ?_
              refine r_gI I20 4 rfl rfl rfl (fun x56 (e57 : x56.toInt = (1 : Int32).toInt) => ?_)
              by_cases b58 : x56 = 0
              · refine k_c1 7 rfl rfl (if_pos b58) ?_
                have b58 := iv_eq0.mp b58
                refine k_push 8 rfl rfl ?_
                refine k_goto 12 rfl rfl ?_
                refine k_fin rfl (fin_Z (Or.inr rfl)) ⟨_, _, rfl, rf_len I20 I20, ?_⟩
                show am_Ok _ _ _ (4, _, [.inl (1 : Int32)], _, 0, 0) _
                refine k_c1 7 rfl rfl (if_neg (by decide)) ?_
                refine k_iload 8 rfl rfl rfl ?_
                refine k_c1 11 rfl rfl (if_pos (by decide)) ?_
                refine k_aload 12 rfl rfl rfl ?_
                refine k_iload 13 rfl rfl rfl ?_
                refine r_pI I20 16 rfl rfl rfl (fun h59 I60 => ?_)
                refine k_aload 17 rfl rfl rfl ?_
                refine k_aload 18 rfl rfl rfl ?_
                refine r_gI I60 21 rfl rfl rfl (fun x61 (e62 : x61.toInt = F0 10) => ?_)
                refine r_pI I60 24 rfl rfl rfl (fun h63 I64 => ?_)
                refine k_aload 25 rfl rfl rfl ?_
                refine k_in (d := 0) rfl (Nat.ble_eq_true_of_le (by omega)) rfl rfl I64.rc ?_
                refine k_aload 1 rfl rfl rfl ?_
                refine r_gI I64 4 rfl rfl rfl (fun x65 (e66 : x65.toInt = (2 : Int32).toInt) => ?_)
                by_cases b67 : x65 = 0
                · refine k_c1 7 rfl rfl (if_pos b67) ?_
                  have b67 := iv_eq0.mp b67
                  refine k_push 8 rfl rfl ?_
                  refine k_goto 12 rfl rfl ?_
                  refine k_fin rfl (fin_Z (Or.inr rfl)) ⟨_, _, rfl, rf_len I64 I64, ?_⟩
                  show am_Ok _ _ _ (28, _, [.inl (1 : Int32)], _, 0, 0) _
                  refine k_fin rfl (fin_Z (Or.inr rfl)) ⟨_, _, rfl, rf_len I20 I64, ?_⟩
                  show am_Ok _ _ _ (62, _, [.inl (1 : Int32)], _, 0, 0) _
                  refine k_c1 66 rfl rfl (if_neg (by decide)) ?_
                  refine k_aload 67 rfl rfl rfl ?_
                  refine k_dup 68 rfl rfl rfl ?_
                  refine r_gI I64 71 rfl rfl rfl (fun x68 (e69 : x68.toInt = F0 21) => ?_)
                  refine k_push 72 rfl rfl ?_
                  obtain ⟨x70, q71⟩ : ∃ q : Int32, q = (x68 + (1 : Int32)) := ⟨_, rfl⟩
                  have e72 : x70.toInt = x68.toInt + 1 := by rw [q71, iv_add (by omega) (by omega)]; omega
                  refine k_bin x70 73 rfl q71.symm rfl ?_
                  refine r_pI I64 76 rfl rfl rfl (fun h73 I74 => ?_)
                  refine k_aload 77 rfl rfl rfl ?_
                  refine k_rv I74 rfl (m_goes  I74.1 (show 0 ≤ (F0 8) ∧ (F0 8) ≤ (F0 7) ∧ (F0 7) ≤ 700 by omega)) (Nat.ble_eq_true_of_le (by omega)) rfl rfl I74.rc ?_
                  rintro h76 F77 A78 I79 ⟨k81, k82, p80⟩
                  replace p80 : ((F0 8) ≤ F77 8 ∧ F77 8 ≤ (F0 7)) ∧ (F77 9 = 0 ∨ (F0 8) < F77 8) ∧ (F77 9 = 2 → 0 ≤ F77 11 ∧ F77 11 ≤ 9) ∧ (0 ≤ F77 9 ∧ F77 9 ≤ 4) := p80
                  obtain ⟨p80a, p80b, p80c, p80d⟩ := p80
                  have k82 := fr2.nil k82
                  subst k82
                  show am_Ok _ _ _ (80, _, [], _, 0, 0) _
                  refine k_aload 81 rfl rfl rfl ?_
                  have e83 : F77 7 = F0 7 := k81 7 (by decide)
                  have e84 : F77 20 = F0 20 := k81 20 (by decide)
                  have e85 : F77 21 = x70.toInt := k81 21 (by decide)
                  have e86 : F77 18 = F0 18 := k81 18 (by decide)
                  have e87 : F77 23 = F0 23 := k81 23 (by decide)
                  refine k_rv I79 rfl (hrec  I79.1 (show 0 ≤ (F77 8) ∧ (F77 8) ≤ (F77 7) ∧ (F77 7) ≤ 700 ∧ 0 ≤ (F77 20) ∧ (F77 20) ≤ 30 ∧ 0 ≤ (F77 21) ∧ (F77 21) ≤ 12 ∧ 0 ≤ (F77 18) ∧ (F77 18) ≤ 12 ∧ 0 ≤ (F77 23) ∧ (F77 23) ≤ 1000000 ∧ ((F77 9) = 2 → 0 ≤ (F77 11) ∧ (F77 11) ≤ 9) ∧ 0 ≤ (F77 9) ∧ (F77 9) ≤ 4 by omega) (show nm ((A0 16)) ((A0 17)) ((F77 18)) by rw [(show A0 16 = A0 16 from rfl), (show A0 17 = A0 17 from rfl), (k81 18 (by decide))]; exact p2) (show (12 - (F77 21)) + (30 - (F77 20)) < (gk : Int) by omega)) (Nat.ble_eq_true_of_le (by omega)) rfl rfl I79.rc ?_
                  rintro h89 F90 A91 I92 ⟨k94, k95, p93⟩
                  have e96 : F77 6 = (2 : Int32).toInt := k81 6 (by decide)
                  replace p93 : ((F77 8) ≤ F90 8 ∧ F90 8 ≤ (F77 7) ∧ (F77 20) ≤ F90 20 ∧ F90 20 ≤ 30 ∧ F90 21 = (F77 21) ∧ (F77 23) ≤ F90 23 ∧ F90 23 ≤ 1000000 ∧ (F90 9 = 2 → 0 ≤ F90 11 ∧ F90 11 ≤ 9) ∧ 0 ≤ F90 9 ∧ F90 9 ≤ 4) ∧ (F90 6 = 0 → F90 20 = (F77 20) ∧ (F77 6) = 0 ∧ (F90 9 = 0 ∨ (F77 8) < F90 8)) ∧ (F90 6 = 0 → F90 23 ≤ 124 → rd1 (A91 22) ((A0 22)) ((F77 23)) (F90 23) ((F77 20))) := p93
                  obtain ⟨p93a, p93b, p93c⟩ := p93
                  show am_Ok _ _ _ (84, _, [], _, 0, 0) _
                  refine k_aload 85 rfl rfl rfl ?_
                  refine k_push 87 rfl rfl ?_
                  have hc97 : (41 : Int32).toInt = 41 := by decide
                  have e98 : F90 7 = F77 7 := k94 7 (by decide)
                  refine k_rv I92 rfl (m_must  I92.1 (show 0 ≤ (F90 8) ∧ (F90 8) ≤ (F90 7) ∧ (F90 7) ≤ 700 ∧ ((F90 9) = 2 → 0 ≤ (F90 11) ∧ (F90 11) ≤ 9) ∧ 0 ≤ (F90 9) ∧ (F90 9) ≤ 4 by omega)) (Nat.ble_eq_true_of_le (by omega)) rfl rfl I92.rc ?_
                  rintro h100 F101 A102 I103 ⟨k105, k106, p104⟩
                  replace p104 : ((F90 8) ≤ F101 8 ∧ F101 8 ≤ (F90 7)) ∧ (F101 6 = 0 → (F90 6) = 0 ∧ (F101 9 = 0 ∨ (F90 8) < F101 8)) ∧ (F101 9 = 2 → 0 ≤ F101 11 ∧ F101 11 ≤ 9) ∧ (0 ≤ F101 9 ∧ F101 9 ≤ 4) := p104
                  obtain ⟨p104a, p104b, p104c, p104d⟩ := p104
                  have k106 := fr2.nil k106
                  subst k106
                  show am_Ok _ _ _ (90, _, [], _, 0, 0) _
                  refine k_aload 91 rfl rfl rfl ?_
                  refine k_dup 92 rfl rfl rfl ?_
                  refine r_gI I103 95 rfl rfl rfl (fun x107 (e108 : x107.toInt = F101 21) => ?_)
                  have e109 : F101 21 = F90 21 := k105 21 (by decide)
                  refine k_push 96 rfl rfl ?_
                  obtain ⟨x110, q111⟩ : ∃ q : Int32, q = (x107 - (1 : Int32)) := ⟨_, rfl⟩
                  have e112 : x110.toInt = x107.toInt - 1 := by rw [q111, iv_sub (by omega) (by omega)]; omega
                  refine k_bin x110 97 rfl q111.symm rfl ?_
                  refine r_pI I103 100 rfl rfl rfl (fun h113 I114 => ?_)
                  have e115 : F101 20 = F90 20 := k105 20 (by decide)
                  have e116 : F101 23 = F90 23 := k105 23 (by decide)
                  exact k_fin rfl rfl ⟨_, _, _, rfl, I114, (fr1.up (by decide) (fr1.tr (by decide) (fr1.tr (by decide) (fr1.tr (by decide) (fr1.up (by decide) (fr1.up (by decide) (fr1.up (by decide) (fr1.up (by decide) (fr1.up (by decide) fr1.rf))))) k81) k94) k105)), (fr2.tr (by decide) fr2.rf k95), ⟨(show (F0 8 ≤ F101 8 ∧ F101 8 ≤ F0 7 ∧ F0 20 ≤ F101 20 ∧ F101 20 ≤ 30 ∧ x110.toInt = F0 21 ∧ F0 23 ≤ F101 23 ∧ F101 23 ≤ 1000000 ∧ (F101 9 = 2 → 0 ≤ F101 11 ∧ F101 11 ≤ 9) ∧ 0 ≤ F101 9 ∧ F101 9 ≤ 4) by omega), (show (F101 6 = 0 → F101 20 = F0 20 ∧ F0 6 = 0 ∧ (F101 9 = 0 ∨ F0 8 < F101 8)) by omega), fun z1 z2 => by have z8 : F101 6 = 0 := z1; have z9 : F101 23 ≤ 124 := z2; have h9 := p93c (by omega) (by omega); show rd1 (A91 22) (A0 22) (F0 23) (F101 23) (F0 20); exact rd_cg h9 (by omega) (by omega) (by omega)⟩⟩
                · refine k_c1 11 rfl rfl (if_neg b67) ?_
                  have b67 := mt iv_eq0.mpr b67
                  refine k_push 12 rfl rfl ?_
                  refine k_fin rfl (fin_Z (Or.inl rfl)) ⟨_, _, rfl, rf_len I64 I64, ?_⟩
                  show am_Ok _ _ _ (28, _, [.inl (0 : Int32)], _, 0, 0) _
                  refine k_fin rfl (fin_Z (Or.inl rfl)) ⟨_, _, rfl, rf_len I20 I64, ?_⟩
                  show am_Ok _ _ _ (62, _, [.inl (0 : Int32)], _, 0, 0) _
                  refine k_c1 65 rfl rfl (if_pos (by decide)) ?_
                  exact k_fin rfl rfl ⟨_, _, _, rfl, I64, (fr1.up (by decide) (fr1.up (by decide) (fr1.up (by decide) (fr1.up (by decide) fr1.rf)))), fr2.rf, ⟨(show (F0 8 ≤ F0 8 ∧ F0 8 ≤ F0 7 ∧ F0 20 ≤ F0 20 ∧ F0 20 ≤ 30 ∧ F0 21 = F0 21 ∧ F0 23 ≤ F0 23 ∧ F0 23 ≤ 1000000 ∧ (F0 9 = 2 → 0 ≤ F0 11 ∧ F0 11 ≤ 9) ∧ 0 ≤ F0 9 ∧ F0 9 ≤ 4) by omega), (show ((2 : Int32).toInt = 0 → F0 20 = F0 20 ∧ F0 6 = 0 ∧ (F0 9 = 0 ∨ F0 8 < F0 8)) by omega), fun z => absurd (show (2 : Int32).toInt = 0 from z) (by omega)⟩⟩
              · refine k_c1 11 rfl rfl (if_neg b58) ?_
                have b58 := mt iv_eq0.mpr b58
                refine k_push 12 rfl rfl ?_
                refine k_fin rfl (fin_Z (Or.inl rfl)) ⟨_, _, rfl, rf_len I20 I20, ?_⟩
                show am_Ok _ _ _ (4, _, [.inl (0 : Int32)], _, 0, 0) _
                refine k_c1 24 rfl rfl (if_pos (by decide)) ?_
                refine k_aload 25 rfl rfl rfl ?_
                refine k_in (d := 0) rfl (Nat.ble_eq_true_of_le (by omega)) rfl rfl I20.rc ?_
                refine k_aload 1 rfl rfl rfl ?_
                refine r_gI I20 4 rfl rfl rfl (fun x117 (e118 : x117.toInt = (1 : Int32).toInt) => ?_)
                by_cases b119 : x117 = 0
                · refine k_c1 7 rfl rfl (if_pos b119) ?_
                  have b119 := iv_eq0.mp b119
                  refine k_push 8 rfl rfl ?_
                  refine k_goto 12 rfl rfl ?_
                  refine k_fin rfl (fin_Z (Or.inr rfl)) ⟨_, _, rfl, rf_len I20 I20, ?_⟩
                  show am_Ok _ _ _ (28, _, [.inl (1 : Int32)], _, 0, 0) _
                  refine k_fin rfl (fin_Z (Or.inr rfl)) ⟨_, _, rfl, rf_len I20 I20, ?_⟩
                  show am_Ok _ _ _ (62, _, [.inl (1 : Int32)], _, 0, 0) _
                  refine k_c1 66 rfl rfl (if_neg (by decide)) ?_
                  refine k_aload 67 rfl rfl rfl ?_
                  refine k_dup 68 rfl rfl rfl ?_
                  refine r_gI I20 71 rfl rfl rfl (fun x120 (e121 : x120.toInt = F0 21) => ?_)
                  refine k_push 72 rfl rfl ?_
                  obtain ⟨x122, q123⟩ : ∃ q : Int32, q = (x120 + (1 : Int32)) := ⟨_, rfl⟩
                  have e124 : x122.toInt = x120.toInt + 1 := by rw [q123, iv_add (by omega) (by omega)]; omega
                  refine k_bin x122 73 rfl q123.symm rfl ?_
                  refine r_pI I20 76 rfl rfl rfl (fun h125 I126 => ?_)
                  refine k_aload 77 rfl rfl rfl ?_
                  refine k_rv I126 rfl (m_goes  I126.1 (show 0 ≤ (F0 8) ∧ (F0 8) ≤ (F0 7) ∧ (F0 7) ≤ 700 by omega)) (Nat.ble_eq_true_of_le (by omega)) rfl rfl I126.rc ?_
                  rintro h128 F129 A130 I131 ⟨k133, k134, p132⟩
                  replace p132 : ((F0 8) ≤ F129 8 ∧ F129 8 ≤ (F0 7)) ∧ (F129 9 = 0 ∨ (F0 8) < F129 8) ∧ (F129 9 = 2 → 0 ≤ F129 11 ∧ F129 11 ≤ 9) ∧ (0 ≤ F129 9 ∧ F129 9 ≤ 4) := p132
                  obtain ⟨p132a, p132b, p132c, p132d⟩ := p132
                  have k134 := fr2.nil k134
                  subst k134
                  show am_Ok _ _ _ (80, _, [], _, 0, 0) _
                  refine k_aload 81 rfl rfl rfl ?_
                  have e135 : F129 7 = F0 7 := k133 7 (by decide)
                  have e136 : F129 20 = F0 20 := k133 20 (by decide)
                  have e137 : F129 21 = x122.toInt := k133 21 (by decide)
                  have e138 : F129 18 = F0 18 := k133 18 (by decide)
                  have e139 : F129 23 = F0 23 := k133 23 (by decide)
                  refine k_rv I131 rfl (hrec  I131.1 (show 0 ≤ (F129 8) ∧ (F129 8) ≤ (F129 7) ∧ (F129 7) ≤ 700 ∧ 0 ≤ (F129 20) ∧ (F129 20) ≤ 30 ∧ 0 ≤ (F129 21) ∧ (F129 21) ≤ 12 ∧ 0 ≤ (F129 18) ∧ (F129 18) ≤ 12 ∧ 0 ≤ (F129 23) ∧ (F129 23) ≤ 1000000 ∧ ((F129 9) = 2 → 0 ≤ (F129 11) ∧ (F129 11) ≤ 9) ∧ 0 ≤ (F129 9) ∧ (F129 9) ≤ 4 by omega) (show nm ((A0 16)) ((A0 17)) ((F129 18)) by rw [(show A0 16 = A0 16 from rfl), (show A0 17 = A0 17 from rfl), (k133 18 (by decide))]; exact p2) (show (12 - (F129 21)) + (30 - (F129 20)) < (gk : Int) by omega)) (Nat.ble_eq_true_of_le (by omega)) rfl rfl I131.rc ?_
                  rintro h141 F142 A143 I144 ⟨k146, k147, p145⟩
                  have e148 : F129 6 = (1 : Int32).toInt := k133 6 (by decide)
                  replace p145 : ((F129 8) ≤ F142 8 ∧ F142 8 ≤ (F129 7) ∧ (F129 20) ≤ F142 20 ∧ F142 20 ≤ 30 ∧ F142 21 = (F129 21) ∧ (F129 23) ≤ F142 23 ∧ F142 23 ≤ 1000000 ∧ (F142 9 = 2 → 0 ≤ F142 11 ∧ F142 11 ≤ 9) ∧ 0 ≤ F142 9 ∧ F142 9 ≤ 4) ∧ (F142 6 = 0 → F142 20 = (F129 20) ∧ (F129 6) = 0 ∧ (F142 9 = 0 ∨ (F129 8) < F142 8)) ∧ (F142 6 = 0 → F142 23 ≤ 124 → rd1 (A143 22) ((A0 22)) ((F129 23)) (F142 23) ((F129 20))) := p145
                  obtain ⟨p145a, p145b, p145c⟩ := p145
                  show am_Ok _ _ _ (84, _, [], _, 0, 0) _
                  refine k_aload 85 rfl rfl rfl ?_
                  refine k_push 87 rfl rfl ?_
                  have hc149 : (41 : Int32).toInt = 41 := by decide
                  have e150 : F142 7 = F129 7 := k146 7 (by decide)
                  refine k_rv I144 rfl (m_must  I144.1 (show 0 ≤ (F142 8) ∧ (F142 8) ≤ (F142 7) ∧ (F142 7) ≤ 700 ∧ ((F142 9) = 2 → 0 ≤ (F142 11) ∧ (F142 11) ≤ 9) ∧ 0 ≤ (F142 9) ∧ (F142 9) ≤ 4 by omega)) (Nat.ble_eq_true_of_le (by omega)) rfl rfl I144.rc ?_
                  rintro h152 F153 A154 I155 ⟨k157, k158, p156⟩
                  replace p156 : ((F142 8) ≤ F153 8 ∧ F153 8 ≤ (F142 7)) ∧ (F153 6 = 0 → (F142 6) = 0 ∧ (F153 9 = 0 ∨ (F142 8) < F153 8)) ∧ (F153 9 = 2 → 0 ≤ F153 11 ∧ F153 11 ≤ 9) ∧ (0 ≤ F153 9 ∧ F153 9 ≤ 4) := p156
                  obtain ⟨p156a, p156b, p156c, p156d⟩ := p156
                  have k158 := fr2.nil k158
                  subst k158
                  show am_Ok _ _ _ (90, _, [], _, 0, 0) _
                  refine k_aload 91 rfl rfl rfl ?_
                  refine k_dup 92 rfl rfl rfl ?_
                  refine r_gI I155 95 rfl rfl rfl (fun x159 (e160 : x159.toInt = F153 21) => ?_)
                  have e161 : F153 21 = F142 21 := k157 21 (by decide)
                  refine k_push 96 rfl rfl ?_
                  obtain ⟨x162, q163⟩ : ∃ q : Int32, q = (x159 - (1 : Int32)) := ⟨_, rfl⟩
                  have e164 : x162.toInt = x159.toInt - 1 := by rw [q163, iv_sub (by omega) (by omega)]; omega
                  refine k_bin x162 97 rfl q163.symm rfl ?_
                  refine r_pI I155 100 rfl rfl rfl (fun h165 I166 => ?_)
                  have e167 : F153 20 = F142 20 := k157 20 (by decide)
                  have e168 : F153 23 = F142 23 := k157 23 (by decide)
                  exact k_fin rfl rfl ⟨_, _, _, rfl, I166, (fr1.up (by decide) (fr1.tr (by decide) (fr1.tr (by decide) (fr1.tr (by decide) (fr1.up (by decide) (fr1.up (by decide) (fr1.up (by decide) fr1.rf))) k133) k146) k157)), (fr2.tr (by decide) fr2.rf k147), ⟨(show (F0 8 ≤ F153 8 ∧ F153 8 ≤ F0 7 ∧ F0 20 ≤ F153 20 ∧ F153 20 ≤ 30 ∧ x162.toInt = F0 21 ∧ F0 23 ≤ F153 23 ∧ F153 23 ≤ 1000000 ∧ (F153 9 = 2 → 0 ≤ F153 11 ∧ F153 11 ≤ 9) ∧ 0 ≤ F153 9 ∧ F153 9 ≤ 4) by omega), (show (F153 6 = 0 → F153 20 = F0 20 ∧ F0 6 = 0 ∧ (F153 9 = 0 ∨ F0 8 < F153 8)) by omega), fun z1 z2 => by have z8 : F153 6 = 0 := z1; have z9 : F153 23 ≤ 124 := z2; have h9 := p145c (by omega) (by omega); show rd1 (A143 22) (A0 22) (F0 23) (F153 23) (F0 20); exact rd_cg h9 (by omega) (by omega) (by omega)⟩⟩
                · refine k_c1 11 rfl rfl (if_neg b119) ?_
                  have b119 := mt iv_eq0.mpr b119
                  refine k_push 12 rfl rfl ?_
                  refine k_fin rfl (fin_Z (Or.inl rfl)) ⟨_, _, rfl, rf_len I20 I20, ?_⟩
                  show am_Ok _ _ _ (28, _, [.inl (0 : Int32)], _, 0, 0) _
                  refine k_fin rfl (fin_Z (Or.inl rfl)) ⟨_, _, rfl, rf_len I20 I20, ?_⟩
                  show am_Ok _ _ _ (62, _, [.inl (0 : Int32)], _, 0, 0) _
                  refine k_c1 65 rfl rfl (if_pos (by decide)) ?_
                  exact k_fin rfl rfl ⟨_, _, _, rfl, I20, (fr1.up (by decide) (fr1.up (by decide) fr1.rf)), fr2.rf, ⟨(show (F0 8 ≤ F0 8 ∧ F0 8 ≤ F0 7 ∧ F0 20 ≤ F0 20 ∧ F0 20 ≤ 30 ∧ F0 21 = F0 21 ∧ F0 23 ≤ F0 23 ∧ F0 23 ≤ 1000000 ∧ (F0 9 = 2 → 0 ≤ F0 11 ∧ F0 11 ≤ 9) ∧ 0 ≤ F0 9 ∧ F0 9 ≤ 4) by omega), (show ((1 : Int32).toInt = 0 → F0 20 = F0 20 ∧ F0 6 = 0 ∧ (F0 9 = 0 ∨ F0 8 < F0 8)) by omega), fun z => absurd (show (1 : Int32).toInt = 0 from z) (by omega)⟩⟩
            · refine k_c2 53 rfl rfl (if_neg b54) ?_
              have b54 := mt iv_le.mpr b54
              refine k_push 54 rfl rfl ?_
              refine k_goto 58 rfl rfl ?_
              refine k_push 59 rfl rfl ?_
              refine k_in (d := 1) rfl (Nat.ble_eq_true_of_le (by omega)) rfl rfl I20.rc ?_
              refine k_aload 1 rfl rfl rfl ?_
              refine k_in (d := 0) rfl (Nat.ble_eq_true_of_le (by omega)) rfl rfl I20.rc ?_
              refine k_aload 1 rfl rfl rfl ?_
              refine r_gI I20 4 rfl rfl rfl (fun x169 (e170 : x169.toInt = (1 : Int32).toInt) => ?_)
              by_cases b171 : x169 = 0
              · refine k_c1 7 rfl rfl (if_pos b171) ?_
                have b171 := iv_eq0.mp b171
                refine k_push 8 rfl rfl ?_
                refine k_goto 12 rfl rfl ?_
                refine k_fin rfl (fin_Z (Or.inr rfl)) ⟨_, _, rfl, rf_len I20 I20, ?_⟩
                show am_Ok _ _ _ (4, _, [.inl (1 : Int32)], _, 0, 0) _
                refine k_c1 7 rfl rfl (if_neg (by decide)) ?_
                refine k_iload 8 rfl rfl rfl ?_
                refine k_c1 24 rfl rfl (if_neg (by decide)) ?_
                refine k_aload 25 rfl rfl rfl ?_
                refine k_in (d := 0) rfl (Nat.ble_eq_true_of_le (by omega)) rfl rfl I20.rc ?_
                refine k_aload 1 rfl rfl rfl ?_
                refine r_gI I20 4 rfl rfl rfl (fun x172 (e173 : x172.toInt = (1 : Int32).toInt) => ?_)
                by_cases b174 : x172 = 0
                · refine k_c1 7 rfl rfl (if_pos b174) ?_
                  have b174 := iv_eq0.mp b174
                  refine k_push 8 rfl rfl ?_
                  refine k_goto 12 rfl rfl ?_
                  refine k_fin rfl (fin_Z (Or.inr rfl)) ⟨_, _, rfl, rf_len I20 I20, ?_⟩
                  show am_Ok _ _ _ (28, _, [.inl (1 : Int32)], _, 0, 0) _
                  refine k_fin rfl (fin_Z (Or.inr rfl)) ⟨_, _, rfl, rf_len I20 I20, ?_⟩
                  show am_Ok _ _ _ (62, _, [.inl (1 : Int32)], _, 0, 0) _
                  refine k_c1 66 rfl rfl (if_neg (by decide)) ?_
                  refine k_aload 67 rfl rfl rfl ?_
                  refine k_dup 68 rfl rfl rfl ?_
                  refine r_gI I20 71 rfl rfl rfl (fun x175 (e176 : x175.toInt = F0 21) => ?_)
                  refine k_push 72 rfl rfl ?_
                  obtain ⟨x177, q178⟩ : ∃ q : Int32, q = (x175 + (1 : Int32)) := ⟨_, rfl⟩
                  have e179 : x177.toInt = x175.toInt + 1 := by rw [q178, iv_add (by omega) (by omega)]; omega
                  refine k_bin x177 73 rfl q178.symm rfl ?_
                  refine r_pI I20 76 rfl rfl rfl (fun h180 I181 => ?_)
                  refine k_aload 77 rfl rfl rfl ?_
                  refine k_rv I181 rfl (m_goes  I181.1 (show 0 ≤ (F0 8) ∧ (F0 8) ≤ (F0 7) ∧ (F0 7) ≤ 700 by omega)) (Nat.ble_eq_true_of_le (by omega)) rfl rfl I181.rc ?_
                  rintro h183 F184 A185 I186 ⟨k188, k189, p187⟩
                  replace p187 : ((F0 8) ≤ F184 8 ∧ F184 8 ≤ (F0 7)) ∧ (F184 9 = 0 ∨ (F0 8) < F184 8) ∧ (F184 9 = 2 → 0 ≤ F184 11 ∧ F184 11 ≤ 9) ∧ (0 ≤ F184 9 ∧ F184 9 ≤ 4) := p187
                  obtain ⟨p187a, p187b, p187c, p187d⟩ := p187
                  have k189 := fr2.nil k189
                  subst k189
                  show am_Ok _ _ _ (80, _, [], _, 0, 0) _
                  refine k_aload 81 rfl rfl rfl ?_
                  have e190 : F184 7 = F0 7 := k188 7 (by decide)
                  have e191 : F184 20 = F0 20 := k188 20 (by decide)
                  have e192 : F184 21 = x177.toInt := k188 21 (by decide)
                  have e193 : F184 18 = F0 18 := k188 18 (by decide)
                  have e194 : F184 23 = F0 23 := k188 23 (by decide)
                  refine k_rv I186 rfl (hrec  I186.1 (show 0 ≤ (F184 8) ∧ (F184 8) ≤ (F184 7) ∧ (F184 7) ≤ 700 ∧ 0 ≤ (F184 20) ∧ (F184 20) ≤ 30 ∧ 0 ≤ (F184 21) ∧ (F184 21) ≤ 12 ∧ 0 ≤ (F184 18) ∧ (F184 18) ≤ 12 ∧ 0 ≤ (F184 23) ∧ (F184 23) ≤ 1000000 ∧ ((F184 9) = 2 → 0 ≤ (F184 11) ∧ (F184 11) ≤ 9) ∧ 0 ≤ (F184 9) ∧ (F184 9) ≤ 4 by omega) (show nm ((A0 16)) ((A0 17)) ((F184 18)) by rw [(show A0 16 = A0 16 from rfl), (show A0 17 = A0 17 from rfl), (k188 18 (by decide))]; exact p2) (show (12 - (F184 21)) + (30 - (F184 20)) < (gk : Int) by omega)) (Nat.ble_eq_true_of_le (by omega)) rfl rfl I186.rc ?_
                  rintro h196 F197 A198 I199 ⟨k201, k202, p200⟩
                  have e203 : F184 6 = (1 : Int32).toInt := k188 6 (by decide)
                  replace p200 : ((F184 8) ≤ F197 8 ∧ F197 8 ≤ (F184 7) ∧ (F184 20) ≤ F197 20 ∧ F197 20 ≤ 30 ∧ F197 21 = (F184 21) ∧ (F184 23) ≤ F197 23 ∧ F197 23 ≤ 1000000 ∧ (F197 9 = 2 → 0 ≤ F197 11 ∧ F197 11 ≤ 9) ∧ 0 ≤ F197 9 ∧ F197 9 ≤ 4) ∧ (F197 6 = 0 → F197 20 = (F184 20) ∧ (F184 6) = 0 ∧ (F197 9 = 0 ∨ (F184 8) < F197 8)) ∧ (F197 6 = 0 → F197 23 ≤ 124 → rd1 (A198 22) ((A0 22)) ((F184 23)) (F197 23) ((F184 20))) := p200
                  obtain ⟨p200a, p200b, p200c⟩ := p200
                  show am_Ok _ _ _ (84, _, [], _, 0, 0) _
                  refine k_aload 85 rfl rfl rfl ?_
                  refine k_push 87 rfl rfl ?_
                  have hc204 : (41 : Int32).toInt = 41 := by decide
                  have e205 : F197 7 = F184 7 := k201 7 (by decide)
                  refine k_rv I199 rfl (m_must  I199.1 (show 0 ≤ (F197 8) ∧ (F197 8) ≤ (F197 7) ∧ (F197 7) ≤ 700 ∧ ((F197 9) = 2 → 0 ≤ (F197 11) ∧ (F197 11) ≤ 9) ∧ 0 ≤ (F197 9) ∧ (F197 9) ≤ 4 by omega)) (Nat.ble_eq_true_of_le (by omega)) rfl rfl I199.rc ?_
                  rintro h207 F208 A209 I210 ⟨k212, k213, p211⟩
                  replace p211 : ((F197 8) ≤ F208 8 ∧ F208 8 ≤ (F197 7)) ∧ (F208 6 = 0 → (F197 6) = 0 ∧ (F208 9 = 0 ∨ (F197 8) < F208 8)) ∧ (F208 9 = 2 → 0 ≤ F208 11 ∧ F208 11 ≤ 9) ∧ (0 ≤ F208 9 ∧ F208 9 ≤ 4) := p211
                  obtain ⟨p211a, p211b, p211c, p211d⟩ := p211
                  have k213 := fr2.nil k213
                  subst k213
                  show am_Ok _ _ _ (90, _, [], _, 0, 0) _
                  refine k_aload 91 rfl rfl rfl ?_
                  refine k_dup 92 rfl rfl rfl ?_
                  refine r_gI I210 95 rfl rfl rfl (fun x214 (e215 : x214.toInt = F208 21) => ?_)
                  have e216 : F208 21 = F197 21 := k212 21 (by decide)
                  refine k_push 96 rfl rfl ?_
                  obtain ⟨x217, q218⟩ : ∃ q : Int32, q = (x214 - (1 : Int32)) := ⟨_, rfl⟩
                  have e219 : x217.toInt = x214.toInt - 1 := by rw [q218, iv_sub (by omega) (by omega)]; omega
                  refine k_bin x217 97 rfl q218.symm rfl ?_
                  refine r_pI I210 100 rfl rfl rfl (fun h220 I221 => ?_)
                  have e222 : F208 20 = F197 20 := k212 20 (by decide)
                  have e223 : F208 23 = F197 23 := k212 23 (by decide)
                  exact k_fin rfl rfl ⟨_, _, _, rfl, I221, (fr1.up (by decide) (fr1.tr (by decide) (fr1.tr (by decide) (fr1.tr (by decide) (fr1.up (by decide) (fr1.up (by decide) (fr1.up (by decide) fr1.rf))) k188) k201) k212)), (fr2.tr (by decide) fr2.rf k202), ⟨(show (F0 8 ≤ F208 8 ∧ F208 8 ≤ F0 7 ∧ F0 20 ≤ F208 20 ∧ F208 20 ≤ 30 ∧ x217.toInt = F0 21 ∧ F0 23 ≤ F208 23 ∧ F208 23 ≤ 1000000 ∧ (F208 9 = 2 → 0 ≤ F208 11 ∧ F208 11 ≤ 9) ∧ 0 ≤ F208 9 ∧ F208 9 ≤ 4) by omega), (show (F208 6 = 0 → F208 20 = F0 20 ∧ F0 6 = 0 ∧ (F208 9 = 0 ∨ F0 8 < F208 8)) by omega), fun z1 z2 => by have z8 : F208 6 = 0 := z1; have z9 : F208 23 ≤ 124 := z2; have h9 := p200c (by omega) (by omega); show rd1 (A198 22) (A0 22) (F0 23) (F208 23) (F0 20); exact rd_cg h9 (by omega) (by omega) (by omega)⟩⟩
                · refine k_c1 11 rfl rfl (if_neg b174) ?_
                  have b174 := mt iv_eq0.mpr b174
                  refine k_push 12 rfl rfl ?_
                  have hc224 : (0 : Int32).toInt = 0 := by decide
                  refine k_fin rfl (fin_Z (Or.inl rfl)) ⟨_, _, rfl, rf_len I20 I20, ?_⟩
                  show am_Ok _ _ _ (28, _, [.inl (0 : Int32)], _, 0, 0) _
                  refine k_fin rfl (fin_Z (Or.inl rfl)) ⟨_, _, rfl, rf_len I20 I20, ?_⟩
                  show am_Ok _ _ _ (62, _, [.inl (0 : Int32)], _, 0, 0) _
                  refine k_c1 65 rfl rfl (if_pos (by decide)) ?_
                  exact k_fin rfl rfl ⟨_, _, _, rfl, I20, (fr1.up (by decide) (fr1.up (by decide) fr1.rf)), fr2.rf, ⟨(show (F0 8 ≤ F0 8 ∧ F0 8 ≤ F0 7 ∧ F0 20 ≤ F0 20 ∧ F0 20 ≤ 30 ∧ F0 21 = F0 21 ∧ F0 23 ≤ F0 23 ∧ F0 23 ≤ 1000000 ∧ (F0 9 = 2 → 0 ≤ F0 11 ∧ F0 11 ≤ 9) ∧ 0 ≤ F0 9 ∧ F0 9 ≤ 4) by omega), (show ((1 : Int32).toInt = 0 → F0 20 = F0 20 ∧ F0 6 = 0 ∧ (F0 9 = 0 ∨ F0 8 < F0 8)) by omega), fun z => absurd (show (1 : Int32).toInt = 0 from z) (by omega)⟩⟩
              · refine k_c1 11 rfl rfl (if_neg b171) ?_
                have b171 := mt iv_eq0.mpr b171
                refine k_push 12 rfl rfl ?_
                have hc225 : (0 : Int32).toInt = 0 := by decide
                refine k_fin rfl (fin_Z (Or.inl rfl)) ⟨_, _, rfl, rf_len I20 I20, ?_⟩
                show am_Ok _ _ _ (4, _, [.inl (0 : Int32)], _, 0, 0) _
                refine k_c1 24 rfl rfl (if_pos (by decide)) ?_
                refine k_aload 25 rfl rfl rfl ?_
                refine k_in (d := 0) rfl (Nat.ble_eq_true_of_le (by omega)) rfl rfl I20.rc ?_
                refine k_aload 1 rfl rfl rfl ?_
                refine r_gI I20 4 rfl rfl rfl (fun x226 (e227 : x226.toInt = (1 : Int32).toInt) => ?_)
                by_cases b228 : x226 = 0
                · refine k_c1 7 rfl rfl (if_pos b228) ?_
                  have b228 := iv_eq0.mp b228
                  refine k_push 8 rfl rfl ?_
                  refine k_goto 12 rfl rfl ?_
                  refine k_fin rfl (fin_Z (Or.inr rfl)) ⟨_, _, rfl, rf_len I20 I20, ?_⟩
                  show am_Ok _ _ _ (28, _, [.inl (1 : Int32)], _, 0, 0) _
                  refine k_fin rfl (fin_Z (Or.inr rfl)) ⟨_, _, rfl, rf_len I20 I20, ?_⟩
                  show am_Ok _ _ _ (62, _, [.inl (1 : Int32)], _, 0, 0) _
                  refine k_c1 66 rfl rfl (if_neg (by decide)) ?_
                  refine k_aload 67 rfl rfl rfl ?_
                  refine k_dup 68 rfl rfl rfl ?_
                  refine r_gI I20 71 rfl rfl rfl (fun x229 (e230 : x229.toInt = F0 21) => ?_)
                  refine k_push 72 rfl rfl ?_
                  obtain ⟨x231, q232⟩ : ∃ q : Int32, q = (x229 + (1 : Int32)) := ⟨_, rfl⟩
                  have e233 : x231.toInt = x229.toInt + 1 := by rw [q232, iv_add (by omega) (by omega)]; omega
                  refine k_bin x231 73 rfl q232.symm rfl ?_
                  refine r_pI I20 76 rfl rfl rfl (fun h234 I235 => ?_)
                  refine k_aload 77 rfl rfl rfl ?_
                  refine k_rv I235 rfl (m_goes  I235.1 (show 0 ≤ (F0 8) ∧ (F0 8) ≤ (F0 7) ∧ (F0 7) ≤ 700 by omega)) (Nat.ble_eq_true_of_le (by omega)) rfl rfl I235.rc ?_
                  rintro h237 F238 A239 I240 ⟨k242, k243, p241⟩
                  replace p241 : ((F0 8) ≤ F238 8 ∧ F238 8 ≤ (F0 7)) ∧ (F238 9 = 0 ∨ (F0 8) < F238 8) ∧ (F238 9 = 2 → 0 ≤ F238 11 ∧ F238 11 ≤ 9) ∧ (0 ≤ F238 9 ∧ F238 9 ≤ 4) := p241
                  obtain ⟨p241a, p241b, p241c, p241d⟩ := p241
                  have k243 := fr2.nil k243
                  subst k243
                  show am_Ok _ _ _ (80, _, [], _, 0, 0) _
                  refine k_aload 81 rfl rfl rfl ?_
                  have e244 : F238 7 = F0 7 := k242 7 (by decide)
                  have e245 : F238 20 = F0 20 := k242 20 (by decide)
                  have e246 : F238 21 = x231.toInt := k242 21 (by decide)
                  have e247 : F238 18 = F0 18 := k242 18 (by decide)
                  have e248 : F238 23 = F0 23 := k242 23 (by decide)
                  refine k_rv I240 rfl (hrec  I240.1 (show 0 ≤ (F238 8) ∧ (F238 8) ≤ (F238 7) ∧ (F238 7) ≤ 700 ∧ 0 ≤ (F238 20) ∧ (F238 20) ≤ 30 ∧ 0 ≤ (F238 21) ∧ (F238 21) ≤ 12 ∧ 0 ≤ (F238 18) ∧ (F238 18) ≤ 12 ∧ 0 ≤ (F238 23) ∧ (F238 23) ≤ 1000000 ∧ ((F238 9) = 2 → 0 ≤ (F238 11) ∧ (F238 11) ≤ 9) ∧ 0 ≤ (F238 9) ∧ (F238 9) ≤ 4 by omega) (show nm ((A0 16)) ((A0 17)) ((F238 18)) by rw [(show A0 16 = A0 16 from rfl), (show A0 17 = A0 17 from rfl), (k242 18 (by decide))]; exact p2) (show (12 - (F238 21)) + (30 - (F238 20)) < (gk : Int) by omega)) (Nat.ble_eq_true_of_le (by omega)) rfl rfl I240.rc ?_
                  rintro h250 F251 A252 I253 ⟨k255, k256, p254⟩
                  have e257 : F238 6 = (1 : Int32).toInt := k242 6 (by decide)
                  replace p254 : ((F238 8) ≤ F251 8 ∧ F251 8 ≤ (F238 7) ∧ (F238 20) ≤ F251 20 ∧ F251 20 ≤ 30 ∧ F251 21 = (F238 21) ∧ (F238 23) ≤ F251 23 ∧ F251 23 ≤ 1000000 ∧ (F251 9 = 2 → 0 ≤ F251 11 ∧ F251 11 ≤ 9) ∧ 0 ≤ F251 9 ∧ F251 9 ≤ 4) ∧ (F251 6 = 0 → F251 20 = (F238 20) ∧ (F238 6) = 0 ∧ (F251 9 = 0 ∨ (F238 8) < F251 8)) ∧ (F251 6 = 0 → F251 23 ≤ 124 → rd1 (A252 22) ((A0 22)) ((F238 23)) (F251 23) ((F238 20))) := p254
                  obtain ⟨p254a, p254b, p254c⟩ := p254
                  show am_Ok _ _ _ (84, _, [], _, 0, 0) _
                  refine k_aload 85 rfl rfl rfl ?_
                  refine k_push 87 rfl rfl ?_
                  have hc258 : (41 : Int32).toInt = 41 := by decide
                  have e259 : F251 7 = F238 7 := k255 7 (by decide)
                  refine k_rv I253 rfl (m_must  I253.1 (show 0 ≤ (F251 8) ∧ (F251 8) ≤ (F251 7) ∧ (F251 7) ≤ 700 ∧ ((F251 9) = 2 → 0 ≤ (F251 11) ∧ (F251 11) ≤ 9) ∧ 0 ≤ (F251 9) ∧ (F251 9) ≤ 4 by omega)) (Nat.ble_eq_true_of_le (by omega)) rfl rfl I253.rc ?_
                  rintro h261 F262 A263 I264 ⟨k266, k267, p265⟩
                  replace p265 : ((F251 8) ≤ F262 8 ∧ F262 8 ≤ (F251 7)) ∧ (F262 6 = 0 → (F251 6) = 0 ∧ (F262 9 = 0 ∨ (F251 8) < F262 8)) ∧ (F262 9 = 2 → 0 ≤ F262 11 ∧ F262 11 ≤ 9) ∧ (0 ≤ F262 9 ∧ F262 9 ≤ 4) := p265
                  obtain ⟨p265a, p265b, p265c, p265d⟩ := p265
                  have k267 := fr2.nil k267
                  subst k267
                  show am_Ok _ _ _ (90, _, [], _, 0, 0) _
                  refine k_aload 91 rfl rfl rfl ?_
                  refine k_dup 92 rfl rfl rfl ?_
                  refine r_gI I264 95 rfl rfl rfl (fun x268 (e269 : x268.toInt = F262 21) => ?_)
                  have e270 : F262 21 = F251 21 := k266 21 (by decide)
                  refine k_push 96 rfl rfl ?_
                  obtain ⟨x271, q272⟩ : ∃ q : Int32, q = (x268 - (1 : Int32)) := ⟨_, rfl⟩
                  have e273 : x271.toInt = x268.toInt - 1 := by rw [q272, iv_sub (by omega) (by omega)]; omega
                  refine k_bin x271 97 rfl q272.symm rfl ?_
                  refine r_pI I264 100 rfl rfl rfl (fun h274 I275 => ?_)
                  have e276 : F262 20 = F251 20 := k266 20 (by decide)
                  have e277 : F262 23 = F251 23 := k266 23 (by decide)
                  exact k_fin rfl rfl ⟨_, _, _, rfl, I275, (fr1.up (by decide) (fr1.tr (by decide) (fr1.tr (by decide) (fr1.tr (by decide) (fr1.up (by decide) (fr1.up (by decide) (fr1.up (by decide) fr1.rf))) k242) k255) k266)), (fr2.tr (by decide) fr2.rf k256), ⟨(show (F0 8 ≤ F262 8 ∧ F262 8 ≤ F0 7 ∧ F0 20 ≤ F262 20 ∧ F262 20 ≤ 30 ∧ x271.toInt = F0 21 ∧ F0 23 ≤ F262 23 ∧ F262 23 ≤ 1000000 ∧ (F262 9 = 2 → 0 ≤ F262 11 ∧ F262 11 ≤ 9) ∧ 0 ≤ F262 9 ∧ F262 9 ≤ 4) by omega), (show (F262 6 = 0 → F262 20 = F0 20 ∧ F0 6 = 0 ∧ (F262 9 = 0 ∨ F0 8 < F262 8)) by omega), fun z1 z2 => by have z8 : F262 6 = 0 := z1; have z9 : F262 23 ≤ 124 := z2; have h9 := p254c (by omega) (by omega); show rd1 (A252 22) (A0 22) (F0 23) (F262 23) (F0 20); exact rd_cg h9 (by omega) (by omega) (by omega)⟩⟩
                · refine k_c1 11 rfl rfl (if_neg b228) ?_
                  have b228 := mt iv_eq0.mpr b228
                  refine k_push 12 rfl rfl ?_
                  refine k_fin rfl (fin_Z (Or.inl rfl)) ⟨_, _, rfl, rf_len I20 I20, ?_⟩
                  show am_Ok _ _ _ (28, _, [.inl (0 : Int32)], _, 0, 0) _
                  refine k_fin rfl (fin_Z (Or.inl rfl)) ⟨_, _, rfl, rf_len I20 I20, ?_⟩
                  show am_Ok _ _ _ (62, _, [.inl (0 : Int32)], _, 0, 0) _
                  refine k_c1 65 rfl rfl (if_pos (by decide)) ?_
                  exact k_fin rfl rfl ⟨_, _, _, rfl, I20, (fr1.up (by decide) (fr1.up (by decide) fr1.rf)), fr2.rf, ⟨(show (F0 8 ≤ F0 8 ∧ F0 8 ≤ F0 7 ∧ F0 20 ≤ F0 20 ∧ F0 20 ≤ 30 ∧ F0 21 = F0 21 ∧ F0 23 ≤ F0 23 ∧ F0 23 ≤ 1000000 ∧ (F0 9 = 2 → 0 ≤ F0 11 ∧ F0 11 ≤ 9) ∧ 0 ≤ F0 9 ∧ F0 9 ≤ 4) by omega), (show ((1 : Int32).toInt = 0 → F0 20 = F0 20 ∧ F0 6 = 0 ∧ (F0 9 = 0 ∨ F0 8 < F0 8)) by omega), fun z => absurd (show (1 : Int32).toInt = 0 from z) (by omega)⟩⟩
      · refine k_c1 11 rfl rfl (if_neg b23) ?_
        have b23 := mt iv_eq0.mpr b23
        refine k_push 12 rfl rfl ?_
        have hc278 : (0 : Int32).toInt = 0 := by decide
        refine k_fin rfl (fin_Z (Or.inl rfl)) ⟨_, _, rfl, rf_len I20 I20, ?_⟩
        show am_Ok _ _ _ (28, _, [.inl (0 : Int32)], _, 0, 0) _
        refine k_fin rfl (fin_Z (Or.inl rfl)) ⟨_, _, rfl, rf_len I5 I20, ?_⟩
        show am_Ok _ _ _ (9, _, [.inl (0 : Int32)], _, 0, 0) _
        refine k_c1 12 rfl rfl (if_pos (by decide)) ?_
        exact k_fin rfl rfl ⟨_, _, _, rfl, I20, (fr1.up (by decide) (fr1.up (by decide) fr1.rf)), fr2.rf, ⟨(show (F0 8 ≤ F0 8 ∧ F0 8 ≤ F0 7 ∧ F0 20 ≤ F0 20 ∧ F0 20 ≤ 30 ∧ F0 21 = F0 21 ∧ F0 23 ≤ F0 23 ∧ F0 23 ≤ 1000000 ∧ (F0 9 = 2 → 0 ≤ F0 11 ∧ F0 11 ≤ 9) ∧ 0 ≤ F0 9 ∧ F0 9 ≤ 4) by omega), (show ((1 : Int32).toInt = 0 → F0 20 = F0 20 ∧ F0 6 = 0 ∧ (F0 9 = 0 ∨ F0 8 < F0 8)) by omega), fun z => absurd (show (1 : Int32).toInt = 0 from z) (by omega)⟩⟩
    · refine k_c1 24 rfl rfl (if_neg b14) ?_
      have b14 := mt iv_eq0.mpr b14
      refine k_aload 25 rfl rfl rfl ?_
      refine k_in (d := 0) rfl (Nat.ble_eq_true_of_le (by omega)) rfl rfl I5.rc ?_
      refine k_aload 1 rfl rfl rfl ?_
      refine r_gI I5 4 rfl rfl rfl (fun x279 (e280 : x279.toInt = F0 6) => ?_)
      by_cases b281 : x279 = 0
      · refine k_c1 7 rfl rfl (if_pos b281) ?_
        have b281 := iv_eq0.mp b281
        refine k_push 8 rfl rfl ?_
        refine k_goto 12 rfl rfl ?_
        refine k_fin rfl (fin_Z (Or.inr rfl)) ⟨_, _, rfl, rf_len I5 I5, ?_⟩
        show am_Ok _ _ _ (28, _, [.inl (1 : Int32)], _, 0, 0) _
        refine k_fin rfl (fin_Z (Or.inr rfl)) ⟨_, _, rfl, rf_len I5 I5, ?_⟩
        show am_Ok _ _ _ (9, _, [.inl (1 : Int32)], _, 0, 0) _
        refine k_c1 13 rfl rfl (if_neg (by decide)) ?_
        refine k_aload 14 rfl rfl rfl ?_
        refine r_gI I5 17 rfl rfl rfl (fun x282 (e283 : x282.toInt = F0 9) => ?_)
        refine k_push 18 rfl rfl ?_
        by_cases b284 : x282 = (1 : Int32)
        · refine k_c2 21 rfl rfl (if_pos b284) ?_
          have b284 := iv_eq.mp b284
          refine k_aload 22 rfl rfl rfl ?_
          refine k_rv I5 rfl (m_readsName  I5.1 (show 0 ≤ (F0 8) ∧ (F0 8) ≤ (F0 7) ∧ (F0 7) ≤ 700 ∧ 0 ≤ (F0 20) ∧ (F0 20) ≤ 30 ∧ 0 ≤ (F0 21) ∧ (F0 21) ≤ 12 ∧ 0 ≤ (F0 18) ∧ (F0 18) ≤ 12 ∧ 0 ≤ (F0 23) ∧ (F0 23) ≤ 1000000 ∧ ((F0 9) = 2 → 0 ≤ (F0 11) ∧ (F0 11) ≤ 9) ∧ 0 ≤ (F0 9) ∧ (F0 9) ≤ 4 by omega) (show nm ((A0 16)) ((A0 17)) ((F0 18)) from p2)) (Nat.ble_eq_true_of_le (by omega)) rfl rfl I5.rc ?_
          rintro h286 F287 A288 I289 ⟨k291, k292, p290⟩
          replace p290 : ((F0 8) ≤ F287 8 ∧ F287 8 ≤ (F0 7) ∧ (F0 20) ≤ F287 20 ∧ F287 20 ≤ 30 ∧ F287 21 = (F0 21) ∧ (F0 23) ≤ F287 23 ∧ F287 23 ≤ 1000000 ∧ (F287 9 = 2 → 0 ≤ F287 11 ∧ F287 11 ≤ 9) ∧ 0 ≤ F287 9 ∧ F287 9 ≤ 4) ∧ (F287 6 = 0 → F287 20 = (F0 20) ∧ (F0 6) = 0 ∧ (F287 9 = 0 ∨ (F0 8) < F287 8)) ∧ (F287 6 = 0 → F287 23 ≤ 124 → rd1 (A288 22) ((A0 22)) ((F0 23)) (F287 23) ((F0 20))) := p290
          obtain ⟨p290a, p290b, p290c⟩ := p290
          show am_Ok _ _ _ (25, _, [], _, 0, 0) _
          refine k_goto 100 rfl rfl ?_
          have e293 : F287 20 = F0 20 := k291 20 (by decide)
          have e294 : F287 21 = F0 21 := k291 21 (by decide)
          exact k_fin rfl rfl ⟨_, _, _, rfl, I289, (fr1.tr (by decide) fr1.rf k291), (fr2.tr (by decide) fr2.rf k292), ⟨(show (F0 8 ≤ F287 8 ∧ F287 8 ≤ F0 7 ∧ F0 20 ≤ F287 20 ∧ F287 20 ≤ 30 ∧ F287 21 = F0 21 ∧ F0 23 ≤ F287 23 ∧ F287 23 ≤ 1000000 ∧ (F287 9 = 2 → 0 ≤ F287 11 ∧ F287 11 ≤ 9) ∧ 0 ≤ F287 9 ∧ F287 9 ≤ 4) by omega), (show (F287 6 = 0 → F287 20 = F0 20 ∧ F0 6 = 0 ∧ (F287 9 = 0 ∨ F0 8 < F287 8)) by omega), fun z1 z2 => by have z8 : F287 6 = 0 := z1; have z9 : F287 23 ≤ 124 := z2; exact p290c z8 z9⟩⟩
        · refine k_c2 28 rfl rfl (if_neg b284) ?_
          have b284 := mt iv_eq.mpr b284
          refine k_aload 29 rfl rfl rfl ?_
          refine r_gI I5 32 rfl rfl rfl (fun x295 (e296 : x295.toInt = F0 9) => ?_)
          refine k_push 33 rfl rfl ?_
          have hc297 : (2 : Int32).toInt = 2 := by decide
          by_cases b298 : x295 = (2 : Int32)
          · refine k_c2 36 rfl rfl (if_pos b298) ?_
            have b298 := iv_eq.mp b298
            refine k_aload 37 rfl rfl rfl ?_
            refine k_rv I5 rfl (m_readsNumber  I5.1 (show 0 ≤ (F0 8) ∧ (F0 8) ≤ (F0 7) ∧ (F0 7) ≤ 700 ∧ 0 ≤ (F0 20) ∧ (F0 20) ≤ 30 ∧ 0 ≤ (F0 21) ∧ (F0 21) ≤ 12 ∧ 0 ≤ (F0 18) ∧ (F0 18) ≤ 12 ∧ 0 ≤ (F0 23) ∧ (F0 23) ≤ 1000000 ∧ ((F0 9) = 2 → 0 ≤ (F0 11) ∧ (F0 11) ≤ 9) ∧ 0 ≤ (F0 9) ∧ (F0 9) ≤ 4 by omega) (show nm ((A0 16)) ((A0 17)) ((F0 18)) from p2) (show (F0 9) = 2 by omega)) (Nat.ble_eq_true_of_le (by omega)) rfl rfl I5.rc ?_
            rintro h300 F301 A302 I303 ⟨k305, k306, p304⟩
            replace p304 : ((F0 8) ≤ F301 8 ∧ F301 8 ≤ (F0 7) ∧ (F0 20) ≤ F301 20 ∧ F301 20 ≤ 30 ∧ F301 21 = (F0 21) ∧ (F0 23) ≤ F301 23 ∧ F301 23 ≤ 1000000 ∧ (F301 9 = 2 → 0 ≤ F301 11 ∧ F301 11 ≤ 9) ∧ 0 ≤ F301 9 ∧ F301 9 ≤ 4) ∧ (F301 6 = 0 → F301 20 = (F0 20) ∧ (F0 6) = 0 ∧ (F301 9 = 0 ∨ (F0 8) < F301 8)) ∧ (F301 6 = 0 → F301 23 ≤ 124 → rd1 (A302 22) ((A0 22)) ((F0 23)) (F301 23) ((F0 20))) := p304
            obtain ⟨p304a, p304b, p304c⟩ := p304
            show am_Ok _ _ _ (40, _, [], _, 0, 0) _
            refine k_goto 100 rfl rfl ?_
            have e307 : F301 20 = F0 20 := k305 20 (by decide)
            have e308 : F301 21 = F0 21 := k305 21 (by decide)
            exact k_fin rfl rfl ⟨_, _, _, rfl, I303, (fr1.tr (by decide) fr1.rf k305), (fr2.tr (by decide) fr2.rf k306), ⟨(show (F0 8 ≤ F301 8 ∧ F301 8 ≤ F0 7 ∧ F0 20 ≤ F301 20 ∧ F301 20 ≤ 30 ∧ F301 21 = F0 21 ∧ F0 23 ≤ F301 23 ∧ F301 23 ≤ 1000000 ∧ (F301 9 = 2 → 0 ≤ F301 11 ∧ F301 11 ≤ 9) ∧ 0 ≤ F301 9 ∧ F301 9 ≤ 4) by omega), (show (F301 6 = 0 → F301 20 = F0 20 ∧ F0 6 = 0 ∧ (F301 9 = 0 ∨ F0 8 < F301 8)) by omega), fun z1 z2 => by have z8 : F301 6 = 0 := z1; have z9 : F301 23 ≤ 124 := z2; exact p304c z8 z9⟩⟩
          · refine k_c2 43 rfl rfl (if_neg b298) ?_
            have b298 := mt iv_eq.mpr b298
            refine k_aload 44 rfl rfl rfl ?_
            refine k_aload 45 rfl rfl rfl ?_
            refine r_gI I5 48 rfl rfl rfl (fun x309 (e310 : x309.toInt = F0 21) => ?_)
            refine k_push 50 rfl rfl ?_
            have hc311 : (12 : Int32).toInt = 12 := by decide
            by_cases b312 : (12 : Int32) ≤ x309
            · refine k_c2 57 rfl rfl (if_pos b312) ?_
              have b312 := iv_le.mp b312
              refine k_push 58 rfl rfl ?_
              have hc313 : (0 : Int32).toInt = 0 := by decide
              refine k_push 59 rfl rfl ?_
              refine k_in (d := 1) rfl (Nat.ble_eq_true_of_le (by omega)) rfl rfl I5.rc ?_
              refine k_aload 1 rfl rfl rfl ?_
              refine k_in (d := 0) rfl (Nat.ble_eq_true_of_le (by omega)) rfl rfl I5.rc ?_
              refine k_aload 1 rfl rfl rfl ?_
              refine r_gI I5 4 rfl rfl rfl (fun x314 (e315 : x314.toInt = F0 6) => ?_)
              by_cases b316 : x314 = 0
              · refine k_c1 7 rfl rfl (if_pos b316) ?_
                have b316 := iv_eq0.mp b316
                refine k_push 8 rfl rfl ?_
                refine k_goto 12 rfl rfl ?_
                refine k_fin rfl (fin_Z (Or.inr rfl)) ⟨_, _, rfl, rf_len I5 I5, ?_⟩
                show am_Ok _ _ _ (4, _, [.inl (1 : Int32)], _, 0, 0) _
                refine k_c1 7 rfl rfl (if_neg (by decide)) ?_
                refine k_iload 8 rfl rfl rfl ?_
                refine k_c1 11 rfl rfl (if_pos (by decide)) ?_
                refine k_aload 12 rfl rfl rfl ?_
                refine k_iload 13 rfl rfl rfl ?_
                refine r_pI I5 16 rfl rfl rfl (fun h317 I318 => ?_)
                refine k_aload 17 rfl rfl rfl ?_
                refine k_aload 18 rfl rfl rfl ?_
                refine r_gI I318 21 rfl rfl rfl (fun x319 (e320 : x319.toInt = F0 10) => ?_)
                refine r_pI I318 24 rfl rfl rfl (fun h321 I322 => ?_)
                refine k_aload 25 rfl rfl rfl ?_
                refine k_in (d := 0) rfl (Nat.ble_eq_true_of_le (by omega)) rfl rfl I322.rc ?_
                refine k_aload 1 rfl rfl rfl ?_
                refine r_gI I322 4 rfl rfl rfl (fun x323 (e324 : x323.toInt = (2 : Int32).toInt) => ?_)
                by_cases b325 : x323 = 0
                · refine k_c1 7 rfl rfl (if_pos b325) ?_
                  have b325 := iv_eq0.mp b325
                  refine k_push 8 rfl rfl ?_
                  refine k_goto 12 rfl rfl ?_
                  refine k_fin rfl (fin_Z (Or.inr rfl)) ⟨_, _, rfl, rf_len I322 I322, ?_⟩
                  show am_Ok _ _ _ (28, _, [.inl (1 : Int32)], _, 0, 0) _
                  refine k_fin rfl (fin_Z (Or.inr rfl)) ⟨_, _, rfl, rf_len I5 I322, ?_⟩
                  show am_Ok _ _ _ (62, _, [.inl (1 : Int32)], _, 0, 0) _
                  refine k_c1 66 rfl rfl (if_neg (by decide)) ?_
                  refine k_aload 67 rfl rfl rfl ?_
                  refine k_dup 68 rfl rfl rfl ?_
                  refine r_gI I322 71 rfl rfl rfl (fun x326 (e327 : x326.toInt = F0 21) => ?_)
                  refine k_push 72 rfl rfl ?_
                  obtain ⟨x328, q329⟩ : ∃ q : Int32, q = (x326 + (1 : Int32)) := ⟨_, rfl⟩
                  have e330 : x328.toInt = x326.toInt + 1 := by rw [q329, iv_add (by omega) (by omega)]; omega
                  refine k_bin x328 73 rfl q329.symm rfl ?_
                  refine r_pI I322 76 rfl rfl rfl (fun h331 I332 => ?_)
                  refine k_aload 77 rfl rfl rfl ?_
                  refine k_rv I332 rfl (m_goes  I332.1 (show 0 ≤ (F0 8) ∧ (F0 8) ≤ (F0 7) ∧ (F0 7) ≤ 700 by omega)) (Nat.ble_eq_true_of_le (by omega)) rfl rfl I332.rc ?_
                  rintro h334 F335 A336 I337 ⟨k339, k340, p338⟩
                  replace p338 : ((F0 8) ≤ F335 8 ∧ F335 8 ≤ (F0 7)) ∧ (F335 9 = 0 ∨ (F0 8) < F335 8) ∧ (F335 9 = 2 → 0 ≤ F335 11 ∧ F335 11 ≤ 9) ∧ (0 ≤ F335 9 ∧ F335 9 ≤ 4) := p338
                  obtain ⟨p338a, p338b, p338c, p338d⟩ := p338
                  have k340 := fr2.nil k340
                  subst k340
                  show am_Ok _ _ _ (80, _, [], _, 0, 0) _
                  refine k_aload 81 rfl rfl rfl ?_
                  have e341 : F335 7 = F0 7 := k339 7 (by decide)
                  have e342 : F335 20 = F0 20 := k339 20 (by decide)
                  have e343 : F335 21 = x328.toInt := k339 21 (by decide)
                  have e344 : F335 18 = F0 18 := k339 18 (by decide)
                  have e345 : F335 23 = F0 23 := k339 23 (by decide)
                  refine k_rv I337 rfl (hrec  I337.1 (show 0 ≤ (F335 8) ∧ (F335 8) ≤ (F335 7) ∧ (F335 7) ≤ 700 ∧ 0 ≤ (F335 20) ∧ (F335 20) ≤ 30 ∧ 0 ≤ (F335 21) ∧ (F335 21) ≤ 12 ∧ 0 ≤ (F335 18) ∧ (F335 18) ≤ 12 ∧ 0 ≤ (F335 23) ∧ (F335 23) ≤ 1000000 ∧ ((F335 9) = 2 → 0 ≤ (F335 11) ∧ (F335 11) ≤ 9) ∧ 0 ≤ (F335 9) ∧ (F335 9) ≤ 4 by omega) (show nm ((A0 16)) ((A0 17)) ((F335 18)) by rw [(show A0 16 = A0 16 from rfl), (show A0 17 = A0 17 from rfl), (k339 18 (by decide))]; exact p2) (show (12 - (F335 21)) + (30 - (F335 20)) < (gk : Int) by omega)) (Nat.ble_eq_true_of_le (by omega)) rfl rfl I337.rc ?_
                  rintro h347 F348 A349 I350 ⟨k352, k353, p351⟩
                  have e354 : F335 6 = (2 : Int32).toInt := k339 6 (by decide)
                  replace p351 : ((F335 8) ≤ F348 8 ∧ F348 8 ≤ (F335 7) ∧ (F335 20) ≤ F348 20 ∧ F348 20 ≤ 30 ∧ F348 21 = (F335 21) ∧ (F335 23) ≤ F348 23 ∧ F348 23 ≤ 1000000 ∧ (F348 9 = 2 → 0 ≤ F348 11 ∧ F348 11 ≤ 9) ∧ 0 ≤ F348 9 ∧ F348 9 ≤ 4) ∧ (F348 6 = 0 → F348 20 = (F335 20) ∧ (F335 6) = 0 ∧ (F348 9 = 0 ∨ (F335 8) < F348 8)) ∧ (F348 6 = 0 → F348 23 ≤ 124 → rd1 (A349 22) ((A0 22)) ((F335 23)) (F348 23) ((F335 20))) := p351
                  obtain ⟨p351a, p351b, p351c⟩ := p351
                  show am_Ok _ _ _ (84, _, [], _, 0, 0) _
                  refine k_aload 85 rfl rfl rfl ?_
                  refine k_push 87 rfl rfl ?_
                  have hc355 : (41 : Int32).toInt = 41 := by decide
                  have e356 : F348 7 = F335 7 := k352 7 (by decide)
                  refine k_rv I350 rfl (m_must  I350.1 (show 0 ≤ (F348 8) ∧ (F348 8) ≤ (F348 7) ∧ (F348 7) ≤ 700 ∧ ((F348 9) = 2 → 0 ≤ (F348 11) ∧ (F348 11) ≤ 9) ∧ 0 ≤ (F348 9) ∧ (F348 9) ≤ 4 by omega)) (Nat.ble_eq_true_of_le (by omega)) rfl rfl I350.rc ?_
                  rintro h358 F359 A360 I361 ⟨k363, k364, p362⟩
                  replace p362 : ((F348 8) ≤ F359 8 ∧ F359 8 ≤ (F348 7)) ∧ (F359 6 = 0 → (F348 6) = 0 ∧ (F359 9 = 0 ∨ (F348 8) < F359 8)) ∧ (F359 9 = 2 → 0 ≤ F359 11 ∧ F359 11 ≤ 9) ∧ (0 ≤ F359 9 ∧ F359 9 ≤ 4) := p362
                  obtain ⟨p362a, p362b, p362c, p362d⟩ := p362
                  have k364 := fr2.nil k364
                  subst k364
                  show am_Ok _ _ _ (90, _, [], _, 0, 0) _
                  refine k_aload 91 rfl rfl rfl ?_
                  refine k_dup 92 rfl rfl rfl ?_
                  refine r_gI I361 95 rfl rfl rfl (fun x365 (e366 : x365.toInt = F359 21) => ?_)
                  have e367 : F359 21 = F348 21 := k363 21 (by decide)
                  refine k_push 96 rfl rfl ?_
                  obtain ⟨x368, q369⟩ : ∃ q : Int32, q = (x365 - (1 : Int32)) := ⟨_, rfl⟩
                  have e370 : x368.toInt = x365.toInt - 1 := by rw [q369, iv_sub (by omega) (by omega)]; omega
                  refine k_bin x368 97 rfl q369.symm rfl ?_
                  refine r_pI I361 100 rfl rfl rfl (fun h371 I372 => ?_)
                  have e373 : F359 20 = F348 20 := k363 20 (by decide)
                  have e374 : F359 23 = F348 23 := k363 23 (by decide)
                  exact k_fin rfl rfl ⟨_, _, _, rfl, I372, (fr1.up (by decide) (fr1.tr (by decide) (fr1.tr (by decide) (fr1.tr (by decide) (fr1.up (by decide) (fr1.up (by decide) (fr1.up (by decide) fr1.rf))) k339) k352) k363)), (fr2.tr (by decide) fr2.rf k353), ⟨(show (F0 8 ≤ F359 8 ∧ F359 8 ≤ F0 7 ∧ F0 20 ≤ F359 20 ∧ F359 20 ≤ 30 ∧ x368.toInt = F0 21 ∧ F0 23 ≤ F359 23 ∧ F359 23 ≤ 1000000 ∧ (F359 9 = 2 → 0 ≤ F359 11 ∧ F359 11 ≤ 9) ∧ 0 ≤ F359 9 ∧ F359 9 ≤ 4) by omega), (show (F359 6 = 0 → F359 20 = F0 20 ∧ F0 6 = 0 ∧ (F359 9 = 0 ∨ F0 8 < F359 8)) by omega), fun z1 z2 => by have z8 : F359 6 = 0 := z1; have z9 : F359 23 ≤ 124 := z2; have h9 := p351c (by omega) (by omega); show rd1 (A349 22) (A0 22) (F0 23) (F359 23) (F0 20); exact rd_cg h9 (by omega) (by omega) (by omega)⟩⟩
                · refine k_c1 11 rfl rfl (if_neg b325) ?_
                  have b325 := mt iv_eq0.mpr b325
                  refine k_push 12 rfl rfl ?_
                  refine k_fin rfl (fin_Z (Or.inl rfl)) ⟨_, _, rfl, rf_len I322 I322, ?_⟩
                  show am_Ok _ _ _ (28, _, [.inl (0 : Int32)], _, 0, 0) _
                  refine k_fin rfl (fin_Z (Or.inl rfl)) ⟨_, _, rfl, rf_len I5 I322, ?_⟩
                  show am_Ok _ _ _ (62, _, [.inl (0 : Int32)], _, 0, 0) _
                  refine k_c1 65 rfl rfl (if_pos (by decide)) ?_
                  exact k_fin rfl rfl ⟨_, _, _, rfl, I322, (fr1.up (by decide) (fr1.up (by decide) fr1.rf)), fr2.rf, ⟨(show (F0 8 ≤ F0 8 ∧ F0 8 ≤ F0 7 ∧ F0 20 ≤ F0 20 ∧ F0 20 ≤ 30 ∧ F0 21 = F0 21 ∧ F0 23 ≤ F0 23 ∧ F0 23 ≤ 1000000 ∧ (F0 9 = 2 → 0 ≤ F0 11 ∧ F0 11 ≤ 9) ∧ 0 ≤ F0 9 ∧ F0 9 ≤ 4) by omega), (show ((2 : Int32).toInt = 0 → F0 20 = F0 20 ∧ F0 6 = 0 ∧ (F0 9 = 0 ∨ F0 8 < F0 8)) by omega), fun z => absurd (show (2 : Int32).toInt = 0 from z) (by omega)⟩⟩
              · refine k_c1 11 rfl rfl (if_neg b316) ?_
                have b316 := mt iv_eq0.mpr b316
                refine k_push 12 rfl rfl ?_
                refine k_fin rfl (fin_Z (Or.inl rfl)) ⟨_, _, rfl, rf_len I5 I5, ?_⟩
                show am_Ok _ _ _ (4, _, [.inl (0 : Int32)], _, 0, 0) _
                refine k_c1 24 rfl rfl (if_pos (by decide)) ?_
                refine k_aload 25 rfl rfl rfl ?_
                refine k_in (d := 0) rfl (Nat.ble_eq_true_of_le (by omega)) rfl rfl I5.rc ?_
                refine k_aload 1 rfl rfl rfl ?_
                refine r_gI I5 4 rfl rfl rfl (fun x375 (e376 : x375.toInt = F0 6) => ?_)
                by_cases b377 : x375 = 0
                · refine k_c1 7 rfl rfl (if_pos b377) ?_
                  have b377 := iv_eq0.mp b377
                  refine k_push 8 rfl rfl ?_
                  refine k_goto 12 rfl rfl ?_
                  refine k_fin rfl (fin_Z (Or.inr rfl)) ⟨_, _, rfl, rf_len I5 I5, ?_⟩
                  show am_Ok _ _ _ (28, _, [.inl (1 : Int32)], _, 0, 0) _
                  refine k_fin rfl (fin_Z (Or.inr rfl)) ⟨_, _, rfl, rf_len I5 I5, ?_⟩
                  show am_Ok _ _ _ (62, _, [.inl (1 : Int32)], _, 0, 0) _
                  refine k_c1 66 rfl rfl (if_neg (by decide)) ?_
                  refine k_aload 67 rfl rfl rfl ?_
                  refine k_dup 68 rfl rfl rfl ?_
                  refine r_gI I5 71 rfl rfl rfl (fun x378 (e379 : x378.toInt = F0 21) => ?_)
                  refine k_push 72 rfl rfl ?_
                  obtain ⟨x380, q381⟩ : ∃ q : Int32, q = (x378 + (1 : Int32)) := ⟨_, rfl⟩
                  have e382 : x380.toInt = x378.toInt + 1 := by rw [q381, iv_add (by omega) (by omega)]; omega
                  refine k_bin x380 73 rfl q381.symm rfl ?_
                  refine r_pI I5 76 rfl rfl rfl (fun h383 I384 => ?_)
                  refine k_aload 77 rfl rfl rfl ?_
                  refine k_rv I384 rfl (m_goes  I384.1 (show 0 ≤ (F0 8) ∧ (F0 8) ≤ (F0 7) ∧ (F0 7) ≤ 700 by omega)) (Nat.ble_eq_true_of_le (by omega)) rfl rfl I384.rc ?_
                  rintro h386 F387 A388 I389 ⟨k391, k392, p390⟩
                  replace p390 : ((F0 8) ≤ F387 8 ∧ F387 8 ≤ (F0 7)) ∧ (F387 9 = 0 ∨ (F0 8) < F387 8) ∧ (F387 9 = 2 → 0 ≤ F387 11 ∧ F387 11 ≤ 9) ∧ (0 ≤ F387 9 ∧ F387 9 ≤ 4) := p390
                  obtain ⟨p390a, p390b, p390c, p390d⟩ := p390
                  have k392 := fr2.nil k392
                  subst k392
                  show am_Ok _ _ _ (80, _, [], _, 0, 0) _
                  refine k_aload 81 rfl rfl rfl ?_
                  have e393 : F387 7 = F0 7 := k391 7 (by decide)
                  have e394 : F387 20 = F0 20 := k391 20 (by decide)
                  have e395 : F387 21 = x380.toInt := k391 21 (by decide)
                  have e396 : F387 18 = F0 18 := k391 18 (by decide)
                  have e397 : F387 23 = F0 23 := k391 23 (by decide)
                  refine k_rv I389 rfl (hrec  I389.1 (show 0 ≤ (F387 8) ∧ (F387 8) ≤ (F387 7) ∧ (F387 7) ≤ 700 ∧ 0 ≤ (F387 20) ∧ (F387 20) ≤ 30 ∧ 0 ≤ (F387 21) ∧ (F387 21) ≤ 12 ∧ 0 ≤ (F387 18) ∧ (F387 18) ≤ 12 ∧ 0 ≤ (F387 23) ∧ (F387 23) ≤ 1000000 ∧ ((F387 9) = 2 → 0 ≤ (F387 11) ∧ (F387 11) ≤ 9) ∧ 0 ≤ (F387 9) ∧ (F387 9) ≤ 4 by omega) (show nm ((A0 16)) ((A0 17)) ((F387 18)) by rw [(show A0 16 = A0 16 from rfl), (show A0 17 = A0 17 from rfl), (k391 18 (by decide))]; exact p2) (show (12 - (F387 21)) + (30 - (F387 20)) < (gk : Int) by omega)) (Nat.ble_eq_true_of_le (by omega)) rfl rfl I389.rc ?_
                  rintro h399 F400 A401 I402 ⟨k404, k405, p403⟩
                  have e406 : F387 6 = F0 6 := k391 6 (by decide)
                  replace p403 : ((F387 8) ≤ F400 8 ∧ F400 8 ≤ (F387 7) ∧ (F387 20) ≤ F400 20 ∧ F400 20 ≤ 30 ∧ F400 21 = (F387 21) ∧ (F387 23) ≤ F400 23 ∧ F400 23 ≤ 1000000 ∧ (F400 9 = 2 → 0 ≤ F400 11 ∧ F400 11 ≤ 9) ∧ 0 ≤ F400 9 ∧ F400 9 ≤ 4) ∧ (F400 6 = 0 → F400 20 = (F387 20) ∧ (F387 6) = 0 ∧ (F400 9 = 0 ∨ (F387 8) < F400 8)) ∧ (F400 6 = 0 → F400 23 ≤ 124 → rd1 (A401 22) ((A0 22)) ((F387 23)) (F400 23) ((F387 20))) := p403
                  obtain ⟨p403a, p403b, p403c⟩ := p403
                  show am_Ok _ _ _ (84, _, [], _, 0, 0) _
                  refine k_aload 85 rfl rfl rfl ?_
                  refine k_push 87 rfl rfl ?_
                  have hc407 : (41 : Int32).toInt = 41 := by decide
                  have e408 : F400 7 = F387 7 := k404 7 (by decide)
                  refine k_rv I402 rfl (m_must  I402.1 (show 0 ≤ (F400 8) ∧ (F400 8) ≤ (F400 7) ∧ (F400 7) ≤ 700 ∧ ((F400 9) = 2 → 0 ≤ (F400 11) ∧ (F400 11) ≤ 9) ∧ 0 ≤ (F400 9) ∧ (F400 9) ≤ 4 by omega)) (Nat.ble_eq_true_of_le (by omega)) rfl rfl I402.rc ?_
                  rintro h410 F411 A412 I413 ⟨k415, k416, p414⟩
                  replace p414 : ((F400 8) ≤ F411 8 ∧ F411 8 ≤ (F400 7)) ∧ (F411 6 = 0 → (F400 6) = 0 ∧ (F411 9 = 0 ∨ (F400 8) < F411 8)) ∧ (F411 9 = 2 → 0 ≤ F411 11 ∧ F411 11 ≤ 9) ∧ (0 ≤ F411 9 ∧ F411 9 ≤ 4) := p414
                  obtain ⟨p414a, p414b, p414c, p414d⟩ := p414
                  have k416 := fr2.nil k416
                  subst k416
                  show am_Ok _ _ _ (90, _, [], _, 0, 0) _
                  refine k_aload 91 rfl rfl rfl ?_
                  refine k_dup 92 rfl rfl rfl ?_
                  refine r_gI I413 95 rfl rfl rfl (fun x417 (e418 : x417.toInt = F411 21) => ?_)
                  have e419 : F411 21 = F400 21 := k415 21 (by decide)
                  refine k_push 96 rfl rfl ?_
                  obtain ⟨x420, q421⟩ : ∃ q : Int32, q = (x417 - (1 : Int32)) := ⟨_, rfl⟩
                  have e422 : x420.toInt = x417.toInt - 1 := by rw [q421, iv_sub (by omega) (by omega)]; omega
                  refine k_bin x420 97 rfl q421.symm rfl ?_
                  refine r_pI I413 100 rfl rfl rfl (fun h423 I424 => ?_)
                  have e425 : F411 20 = F400 20 := k415 20 (by decide)
                  have e426 : F411 23 = F400 23 := k415 23 (by decide)
                  exact k_fin rfl rfl ⟨_, _, _, rfl, I424, (fr1.up (by decide) (fr1.tr (by decide) (fr1.tr (by decide) (fr1.tr (by decide) (fr1.up (by decide) fr1.rf) k391) k404) k415)), (fr2.tr (by decide) fr2.rf k405), ⟨(show (F0 8 ≤ F411 8 ∧ F411 8 ≤ F0 7 ∧ F0 20 ≤ F411 20 ∧ F411 20 ≤ 30 ∧ x420.toInt = F0 21 ∧ F0 23 ≤ F411 23 ∧ F411 23 ≤ 1000000 ∧ (F411 9 = 2 → 0 ≤ F411 11 ∧ F411 11 ≤ 9) ∧ 0 ≤ F411 9 ∧ F411 9 ≤ 4) by omega), (show (F411 6 = 0 → F411 20 = F0 20 ∧ F0 6 = 0 ∧ (F411 9 = 0 ∨ F0 8 < F411 8)) by omega), fun z1 z2 => by have z8 : F411 6 = 0 := z1; have z9 : F411 23 ≤ 124 := z2; have h9 := p403c (by omega) (by omega); show rd1 (A401 22) (A0 22) (F0 23) (F411 23) (F0 20); exact rd_cg h9 (by omega) (by omega) (by omega)⟩⟩
                · refine k_c1 11 rfl rfl (if_neg b377) ?_
                  have b377 := mt iv_eq0.mpr b377
                  refine k_push 12 rfl rfl ?_
                  refine k_fin rfl (fin_Z (Or.inl rfl)) ⟨_, _, rfl, rf_len I5 I5, ?_⟩
                  show am_Ok _ _ _ (28, _, [.inl (0 : Int32)], _, 0, 0) _
                  refine k_fin rfl (fin_Z (Or.inl rfl)) ⟨_, _, rfl, rf_len I5 I5, ?_⟩
                  show am_Ok _ _ _ (62, _, [.inl (0 : Int32)], _, 0, 0) _
                  refine k_c1 65 rfl rfl (if_pos (by decide)) ?_
                  exact k_fin rfl rfl ⟨_, _, _, rfl, I5, fr1.rf, fr2.rf, ⟨(show (F0 8 ≤ F0 8 ∧ F0 8 ≤ F0 7 ∧ F0 20 ≤ F0 20 ∧ F0 20 ≤ 30 ∧ F0 21 = F0 21 ∧ F0 23 ≤ F0 23 ∧ F0 23 ≤ 1000000 ∧ (F0 9 = 2 → 0 ≤ F0 11 ∧ F0 11 ≤ 9) ∧ 0 ≤ F0 9 ∧ F0 9 ≤ 4) by omega), (show (F0 6 = 0 → F0 20 = F0 20 ∧ F0 6 = 0 ∧ (F0 9 = 0 ∨ F0 8 < F0 8)) by omega), fun z => absurd (show F0 6 = 0 from z) (by omega)⟩⟩
            · refine k_c2 53 rfl rfl (if_neg b312) ?_
              have b312 := mt iv_le.mpr b312
              refine k_push 54 rfl rfl ?_
              refine k_goto 58 rfl rfl ?_
              refine k_push 59 rfl rfl ?_
              refine k_in (d := 1) rfl (Nat.ble_eq_true_of_le (by omega)) rfl rfl I5.rc ?_
              refine k_aload 1 rfl rfl rfl ?_
              refine k_in (d := 0) rfl (Nat.ble_eq_true_of_le (by omega)) rfl rfl I5.rc ?_
              refine k_aload 1 rfl rfl rfl ?_
              refine r_gI I5 4 rfl rfl rfl (fun x427 (e428 : x427.toInt = F0 6) => ?_)
              by_cases b429 : x427 = 0
              · refine k_c1 7 rfl rfl (if_pos b429) ?_
                have b429 := iv_eq0.mp b429
                refine k_push 8 rfl rfl ?_
                refine k_goto 12 rfl rfl ?_
                refine k_fin rfl (fin_Z (Or.inr rfl)) ⟨_, _, rfl, rf_len I5 I5, ?_⟩
                show am_Ok _ _ _ (4, _, [.inl (1 : Int32)], _, 0, 0) _
                refine k_c1 7 rfl rfl (if_neg (by decide)) ?_
                refine k_iload 8 rfl rfl rfl ?_
                refine k_c1 24 rfl rfl (if_neg (by decide)) ?_
                refine k_aload 25 rfl rfl rfl ?_
                refine k_in (d := 0) rfl (Nat.ble_eq_true_of_le (by omega)) rfl rfl I5.rc ?_
                refine k_aload 1 rfl rfl rfl ?_
                refine r_gI I5 4 rfl rfl rfl (fun x430 (e431 : x430.toInt = F0 6) => ?_)
                by_cases b432 : x430 = 0
                · refine k_c1 7 rfl rfl (if_pos b432) ?_
                  have b432 := iv_eq0.mp b432
                  refine k_push 8 rfl rfl ?_
                  refine k_goto 12 rfl rfl ?_
                  refine k_fin rfl (fin_Z (Or.inr rfl)) ⟨_, _, rfl, rf_len I5 I5, ?_⟩
                  show am_Ok _ _ _ (28, _, [.inl (1 : Int32)], _, 0, 0) _
                  refine k_fin rfl (fin_Z (Or.inr rfl)) ⟨_, _, rfl, rf_len I5 I5, ?_⟩
                  show am_Ok _ _ _ (62, _, [.inl (1 : Int32)], _, 0, 0) _
                  refine k_c1 66 rfl rfl (if_neg (by decide)) ?_
                  refine k_aload 67 rfl rfl rfl ?_
                  refine k_dup 68 rfl rfl rfl ?_
                  refine r_gI I5 71 rfl rfl rfl (fun x433 (e434 : x433.toInt = F0 21) => ?_)
                  refine k_push 72 rfl rfl ?_
                  obtain ⟨x435, q436⟩ : ∃ q : Int32, q = (x433 + (1 : Int32)) := ⟨_, rfl⟩
                  have e437 : x435.toInt = x433.toInt + 1 := by rw [q436, iv_add (by omega) (by omega)]; omega
                  refine k_bin x435 73 rfl q436.symm rfl ?_
                  refine r_pI I5 76 rfl rfl rfl (fun h438 I439 => ?_)
                  refine k_aload 77 rfl rfl rfl ?_
                  refine k_rv I439 rfl (m_goes  I439.1 (show 0 ≤ (F0 8) ∧ (F0 8) ≤ (F0 7) ∧ (F0 7) ≤ 700 by omega)) (Nat.ble_eq_true_of_le (by omega)) rfl rfl I439.rc ?_
                  rintro h441 F442 A443 I444 ⟨k446, k447, p445⟩
                  replace p445 : ((F0 8) ≤ F442 8 ∧ F442 8 ≤ (F0 7)) ∧ (F442 9 = 0 ∨ (F0 8) < F442 8) ∧ (F442 9 = 2 → 0 ≤ F442 11 ∧ F442 11 ≤ 9) ∧ (0 ≤ F442 9 ∧ F442 9 ≤ 4) := p445
                  obtain ⟨p445a, p445b, p445c, p445d⟩ := p445
                  have k447 := fr2.nil k447
                  subst k447
                  show am_Ok _ _ _ (80, _, [], _, 0, 0) _
                  refine k_aload 81 rfl rfl rfl ?_
                  have e448 : F442 7 = F0 7 := k446 7 (by decide)
                  have e449 : F442 20 = F0 20 := k446 20 (by decide)
                  have e450 : F442 21 = x435.toInt := k446 21 (by decide)
                  have e451 : F442 18 = F0 18 := k446 18 (by decide)
                  have e452 : F442 23 = F0 23 := k446 23 (by decide)
                  refine k_rv I444 rfl (hrec  I444.1 (show 0 ≤ (F442 8) ∧ (F442 8) ≤ (F442 7) ∧ (F442 7) ≤ 700 ∧ 0 ≤ (F442 20) ∧ (F442 20) ≤ 30 ∧ 0 ≤ (F442 21) ∧ (F442 21) ≤ 12 ∧ 0 ≤ (F442 18) ∧ (F442 18) ≤ 12 ∧ 0 ≤ (F442 23) ∧ (F442 23) ≤ 1000000 ∧ ((F442 9) = 2 → 0 ≤ (F442 11) ∧ (F442 11) ≤ 9) ∧ 0 ≤ (F442 9) ∧ (F442 9) ≤ 4 by omega) (show nm ((A0 16)) ((A0 17)) ((F442 18)) by rw [(show A0 16 = A0 16 from rfl), (show A0 17 = A0 17 from rfl), (k446 18 (by decide))]; exact p2) (show (12 - (F442 21)) + (30 - (F442 20)) < (gk : Int) by omega)) (Nat.ble_eq_true_of_le (by omega)) rfl rfl I444.rc ?_
                  rintro h454 F455 A456 I457 ⟨k459, k460, p458⟩
                  have e461 : F442 6 = F0 6 := k446 6 (by decide)
                  replace p458 : ((F442 8) ≤ F455 8 ∧ F455 8 ≤ (F442 7) ∧ (F442 20) ≤ F455 20 ∧ F455 20 ≤ 30 ∧ F455 21 = (F442 21) ∧ (F442 23) ≤ F455 23 ∧ F455 23 ≤ 1000000 ∧ (F455 9 = 2 → 0 ≤ F455 11 ∧ F455 11 ≤ 9) ∧ 0 ≤ F455 9 ∧ F455 9 ≤ 4) ∧ (F455 6 = 0 → F455 20 = (F442 20) ∧ (F442 6) = 0 ∧ (F455 9 = 0 ∨ (F442 8) < F455 8)) ∧ (F455 6 = 0 → F455 23 ≤ 124 → rd1 (A456 22) ((A0 22)) ((F442 23)) (F455 23) ((F442 20))) := p458
                  obtain ⟨p458a, p458b, p458c⟩ := p458
                  show am_Ok _ _ _ (84, _, [], _, 0, 0) _
                  refine k_aload 85 rfl rfl rfl ?_
                  refine k_push 87 rfl rfl ?_
                  have hc462 : (41 : Int32).toInt = 41 := by decide
                  have e463 : F455 7 = F442 7 := k459 7 (by decide)
                  refine k_rv I457 rfl (m_must  I457.1 (show 0 ≤ (F455 8) ∧ (F455 8) ≤ (F455 7) ∧ (F455 7) ≤ 700 ∧ ((F455 9) = 2 → 0 ≤ (F455 11) ∧ (F455 11) ≤ 9) ∧ 0 ≤ (F455 9) ∧ (F455 9) ≤ 4 by omega)) (Nat.ble_eq_true_of_le (by omega)) rfl rfl I457.rc ?_
                  rintro h465 F466 A467 I468 ⟨k470, k471, p469⟩
                  replace p469 : ((F455 8) ≤ F466 8 ∧ F466 8 ≤ (F455 7)) ∧ (F466 6 = 0 → (F455 6) = 0 ∧ (F466 9 = 0 ∨ (F455 8) < F466 8)) ∧ (F466 9 = 2 → 0 ≤ F466 11 ∧ F466 11 ≤ 9) ∧ (0 ≤ F466 9 ∧ F466 9 ≤ 4) := p469
                  obtain ⟨p469a, p469b, p469c, p469d⟩ := p469
                  have k471 := fr2.nil k471
                  subst k471
                  show am_Ok _ _ _ (90, _, [], _, 0, 0) _
                  refine k_aload 91 rfl rfl rfl ?_
                  refine k_dup 92 rfl rfl rfl ?_
                  refine r_gI I468 95 rfl rfl rfl (fun x472 (e473 : x472.toInt = F466 21) => ?_)
                  have e474 : F466 21 = F455 21 := k470 21 (by decide)
                  refine k_push 96 rfl rfl ?_
                  obtain ⟨x475, q476⟩ : ∃ q : Int32, q = (x472 - (1 : Int32)) := ⟨_, rfl⟩
                  have e477 : x475.toInt = x472.toInt - 1 := by rw [q476, iv_sub (by omega) (by omega)]; omega
                  refine k_bin x475 97 rfl q476.symm rfl ?_
                  refine r_pI I468 100 rfl rfl rfl (fun h478 I479 => ?_)
                  have e480 : F466 20 = F455 20 := k470 20 (by decide)
                  have e481 : F466 23 = F455 23 := k470 23 (by decide)
                  exact k_fin rfl rfl ⟨_, _, _, rfl, I479, (fr1.up (by decide) (fr1.tr (by decide) (fr1.tr (by decide) (fr1.tr (by decide) (fr1.up (by decide) fr1.rf) k446) k459) k470)), (fr2.tr (by decide) fr2.rf k460), ⟨(show (F0 8 ≤ F466 8 ∧ F466 8 ≤ F0 7 ∧ F0 20 ≤ F466 20 ∧ F466 20 ≤ 30 ∧ x475.toInt = F0 21 ∧ F0 23 ≤ F466 23 ∧ F466 23 ≤ 1000000 ∧ (F466 9 = 2 → 0 ≤ F466 11 ∧ F466 11 ≤ 9) ∧ 0 ≤ F466 9 ∧ F466 9 ≤ 4) by omega), (show (F466 6 = 0 → F466 20 = F0 20 ∧ F0 6 = 0 ∧ (F466 9 = 0 ∨ F0 8 < F466 8)) by omega), fun z1 z2 => by have z8 : F466 6 = 0 := z1; have z9 : F466 23 ≤ 124 := z2; have h9 := p458c (by omega) (by omega); show rd1 (A456 22) (A0 22) (F0 23) (F466 23) (F0 20); exact rd_cg h9 (by omega) (by omega) (by omega)⟩⟩
                · refine k_c1 11 rfl rfl (if_neg b432) ?_
                  have b432 := mt iv_eq0.mpr b432
                  refine k_push 12 rfl rfl ?_
                  have hc482 : (0 : Int32).toInt = 0 := by decide
                  refine k_fin rfl (fin_Z (Or.inl rfl)) ⟨_, _, rfl, rf_len I5 I5, ?_⟩
                  show am_Ok _ _ _ (28, _, [.inl (0 : Int32)], _, 0, 0) _
                  refine k_fin rfl (fin_Z (Or.inl rfl)) ⟨_, _, rfl, rf_len I5 I5, ?_⟩
                  show am_Ok _ _ _ (62, _, [.inl (0 : Int32)], _, 0, 0) _
                  refine k_c1 65 rfl rfl (if_pos (by decide)) ?_
                  exact k_fin rfl rfl ⟨_, _, _, rfl, I5, fr1.rf, fr2.rf, ⟨(show (F0 8 ≤ F0 8 ∧ F0 8 ≤ F0 7 ∧ F0 20 ≤ F0 20 ∧ F0 20 ≤ 30 ∧ F0 21 = F0 21 ∧ F0 23 ≤ F0 23 ∧ F0 23 ≤ 1000000 ∧ (F0 9 = 2 → 0 ≤ F0 11 ∧ F0 11 ≤ 9) ∧ 0 ≤ F0 9 ∧ F0 9 ≤ 4) by omega), (show (F0 6 = 0 → F0 20 = F0 20 ∧ F0 6 = 0 ∧ (F0 9 = 0 ∨ F0 8 < F0 8)) by omega), fun z => absurd (show F0 6 = 0 from z) (by omega)⟩⟩
              · refine k_c1 11 rfl rfl (if_neg b429) ?_
                have b429 := mt iv_eq0.mpr b429
                refine k_push 12 rfl rfl ?_
                have hc483 : (0 : Int32).toInt = 0 := by decide
                refine k_fin rfl (fin_Z (Or.inl rfl)) ⟨_, _, rfl, rf_len I5 I5, ?_⟩
                show am_Ok _ _ _ (4, _, [.inl (0 : Int32)], _, 0, 0) _
                refine k_c1 24 rfl rfl (if_pos (by decide)) ?_
                refine k_aload 25 rfl rfl rfl ?_
                refine k_in (d := 0) rfl (Nat.ble_eq_true_of_le (by omega)) rfl rfl I5.rc ?_
                refine k_aload 1 rfl rfl rfl ?_
                refine r_gI I5 4 rfl rfl rfl (fun x484 (e485 : x484.toInt = F0 6) => ?_)
                by_cases b486 : x484 = 0
                · refine k_c1 7 rfl rfl (if_pos b486) ?_
                  have b486 := iv_eq0.mp b486
                  refine k_push 8 rfl rfl ?_
                  refine k_goto 12 rfl rfl ?_
                  refine k_fin rfl (fin_Z (Or.inr rfl)) ⟨_, _, rfl, rf_len I5 I5, ?_⟩
                  show am_Ok _ _ _ (28, _, [.inl (1 : Int32)], _, 0, 0) _
                  refine k_fin rfl (fin_Z (Or.inr rfl)) ⟨_, _, rfl, rf_len I5 I5, ?_⟩
                  show am_Ok _ _ _ (62, _, [.inl (1 : Int32)], _, 0, 0) _
                  refine k_c1 66 rfl rfl (if_neg (by decide)) ?_
                  refine k_aload 67 rfl rfl rfl ?_
                  refine k_dup 68 rfl rfl rfl ?_
                  refine r_gI I5 71 rfl rfl rfl (fun x487 (e488 : x487.toInt = F0 21) => ?_)
                  refine k_push 72 rfl rfl ?_
                  obtain ⟨x489, q490⟩ : ∃ q : Int32, q = (x487 + (1 : Int32)) := ⟨_, rfl⟩
                  have e491 : x489.toInt = x487.toInt + 1 := by rw [q490, iv_add (by omega) (by omega)]; omega
                  refine k_bin x489 73 rfl q490.symm rfl ?_
                  refine r_pI I5 76 rfl rfl rfl (fun h492 I493 => ?_)
                  refine k_aload 77 rfl rfl rfl ?_
                  refine k_rv I493 rfl (m_goes  I493.1 (show 0 ≤ (F0 8) ∧ (F0 8) ≤ (F0 7) ∧ (F0 7) ≤ 700 by omega)) (Nat.ble_eq_true_of_le (by omega)) rfl rfl I493.rc ?_
                  rintro h495 F496 A497 I498 ⟨k500, k501, p499⟩
                  replace p499 : ((F0 8) ≤ F496 8 ∧ F496 8 ≤ (F0 7)) ∧ (F496 9 = 0 ∨ (F0 8) < F496 8) ∧ (F496 9 = 2 → 0 ≤ F496 11 ∧ F496 11 ≤ 9) ∧ (0 ≤ F496 9 ∧ F496 9 ≤ 4) := p499
                  obtain ⟨p499a, p499b, p499c, p499d⟩ := p499
                  have k501 := fr2.nil k501
                  subst k501
                  show am_Ok _ _ _ (80, _, [], _, 0, 0) _
                  refine k_aload 81 rfl rfl rfl ?_
                  have e502 : F496 7 = F0 7 := k500 7 (by decide)
                  have e503 : F496 20 = F0 20 := k500 20 (by decide)
                  have e504 : F496 21 = x489.toInt := k500 21 (by decide)
                  have e505 : F496 18 = F0 18 := k500 18 (by decide)
                  have e506 : F496 23 = F0 23 := k500 23 (by decide)
                  refine k_rv I498 rfl (hrec  I498.1 (show 0 ≤ (F496 8) ∧ (F496 8) ≤ (F496 7) ∧ (F496 7) ≤ 700 ∧ 0 ≤ (F496 20) ∧ (F496 20) ≤ 30 ∧ 0 ≤ (F496 21) ∧ (F496 21) ≤ 12 ∧ 0 ≤ (F496 18) ∧ (F496 18) ≤ 12 ∧ 0 ≤ (F496 23) ∧ (F496 23) ≤ 1000000 ∧ ((F496 9) = 2 → 0 ≤ (F496 11) ∧ (F496 11) ≤ 9) ∧ 0 ≤ (F496 9) ∧ (F496 9) ≤ 4 by omega) (show nm ((A0 16)) ((A0 17)) ((F496 18)) by rw [(show A0 16 = A0 16 from rfl), (show A0 17 = A0 17 from rfl), (k500 18 (by decide))]; exact p2) (show (12 - (F496 21)) + (30 - (F496 20)) < (gk : Int) by omega)) (Nat.ble_eq_true_of_le (by omega)) rfl rfl I498.rc ?_
                  rintro h508 F509 A510 I511 ⟨k513, k514, p512⟩
                  have e515 : F496 6 = F0 6 := k500 6 (by decide)
                  replace p512 : ((F496 8) ≤ F509 8 ∧ F509 8 ≤ (F496 7) ∧ (F496 20) ≤ F509 20 ∧ F509 20 ≤ 30 ∧ F509 21 = (F496 21) ∧ (F496 23) ≤ F509 23 ∧ F509 23 ≤ 1000000 ∧ (F509 9 = 2 → 0 ≤ F509 11 ∧ F509 11 ≤ 9) ∧ 0 ≤ F509 9 ∧ F509 9 ≤ 4) ∧ (F509 6 = 0 → F509 20 = (F496 20) ∧ (F496 6) = 0 ∧ (F509 9 = 0 ∨ (F496 8) < F509 8)) ∧ (F509 6 = 0 → F509 23 ≤ 124 → rd1 (A510 22) ((A0 22)) ((F496 23)) (F509 23) ((F496 20))) := p512
                  obtain ⟨p512a, p512b, p512c⟩ := p512
                  show am_Ok _ _ _ (84, _, [], _, 0, 0) _
                  refine k_aload 85 rfl rfl rfl ?_
                  refine k_push 87 rfl rfl ?_
                  have hc516 : (41 : Int32).toInt = 41 := by decide
                  have e517 : F509 7 = F496 7 := k513 7 (by decide)
                  refine k_rv I511 rfl (m_must  I511.1 (show 0 ≤ (F509 8) ∧ (F509 8) ≤ (F509 7) ∧ (F509 7) ≤ 700 ∧ ((F509 9) = 2 → 0 ≤ (F509 11) ∧ (F509 11) ≤ 9) ∧ 0 ≤ (F509 9) ∧ (F509 9) ≤ 4 by omega)) (Nat.ble_eq_true_of_le (by omega)) rfl rfl I511.rc ?_
                  rintro h519 F520 A521 I522 ⟨k524, k525, p523⟩
                  replace p523 : ((F509 8) ≤ F520 8 ∧ F520 8 ≤ (F509 7)) ∧ (F520 6 = 0 → (F509 6) = 0 ∧ (F520 9 = 0 ∨ (F509 8) < F520 8)) ∧ (F520 9 = 2 → 0 ≤ F520 11 ∧ F520 11 ≤ 9) ∧ (0 ≤ F520 9 ∧ F520 9 ≤ 4) := p523
                  obtain ⟨p523a, p523b, p523c, p523d⟩ := p523
                  have k525 := fr2.nil k525
                  subst k525
                  show am_Ok _ _ _ (90, _, [], _, 0, 0) _
                  refine k_aload 91 rfl rfl rfl ?_
                  refine k_dup 92 rfl rfl rfl ?_
                  refine r_gI I522 95 rfl rfl rfl (fun x526 (e527 : x526.toInt = F520 21) => ?_)
                  have e528 : F520 21 = F509 21 := k524 21 (by decide)
                  refine k_push 96 rfl rfl ?_
                  obtain ⟨x529, q530⟩ : ∃ q : Int32, q = (x526 - (1 : Int32)) := ⟨_, rfl⟩
                  have e531 : x529.toInt = x526.toInt - 1 := by rw [q530, iv_sub (by omega) (by omega)]; omega
                  refine k_bin x529 97 rfl q530.symm rfl ?_
                  refine r_pI I522 100 rfl rfl rfl (fun h532 I533 => ?_)
                  have e534 : F520 20 = F509 20 := k524 20 (by decide)
                  have e535 : F520 23 = F509 23 := k524 23 (by decide)
                  exact k_fin rfl rfl ⟨_, _, _, rfl, I533, (fr1.up (by decide) (fr1.tr (by decide) (fr1.tr (by decide) (fr1.tr (by decide) (fr1.up (by decide) fr1.rf) k500) k513) k524)), (fr2.tr (by decide) fr2.rf k514), ⟨(show (F0 8 ≤ F520 8 ∧ F520 8 ≤ F0 7 ∧ F0 20 ≤ F520 20 ∧ F520 20 ≤ 30 ∧ x529.toInt = F0 21 ∧ F0 23 ≤ F520 23 ∧ F520 23 ≤ 1000000 ∧ (F520 9 = 2 → 0 ≤ F520 11 ∧ F520 11 ≤ 9) ∧ 0 ≤ F520 9 ∧ F520 9 ≤ 4) by omega), (show (F520 6 = 0 → F520 20 = F0 20 ∧ F0 6 = 0 ∧ (F520 9 = 0 ∨ F0 8 < F520 8)) by omega), fun z1 z2 => by have z8 : F520 6 = 0 := z1; have z9 : F520 23 ≤ 124 := z2; have h9 := p512c (by omega) (by omega); show rd1 (A510 22) (A0 22) (F0 23) (F520 23) (F0 20); exact rd_cg h9 (by omega) (by omega) (by omega)⟩⟩
                · refine k_c1 11 rfl rfl (if_neg b486) ?_
                  have b486 := mt iv_eq0.mpr b486
                  refine k_push 12 rfl rfl ?_
                  refine k_fin rfl (fin_Z (Or.inl rfl)) ⟨_, _, rfl, rf_len I5 I5, ?_⟩
                  show am_Ok _ _ _ (28, _, [.inl (0 : Int32)], _, 0, 0) _
                  refine k_fin rfl (fin_Z (Or.inl rfl)) ⟨_, _, rfl, rf_len I5 I5, ?_⟩
                  show am_Ok _ _ _ (62, _, [.inl (0 : Int32)], _, 0, 0) _
                  refine k_c1 65 rfl rfl (if_pos (by decide)) ?_
                  exact k_fin rfl rfl ⟨_, _, _, rfl, I5, fr1.rf, fr2.rf, ⟨(show (F0 8 ≤ F0 8 ∧ F0 8 ≤ F0 7 ∧ F0 20 ≤ F0 20 ∧ F0 20 ≤ 30 ∧ F0 21 = F0 21 ∧ F0 23 ≤ F0 23 ∧ F0 23 ≤ 1000000 ∧ (F0 9 = 2 → 0 ≤ F0 11 ∧ F0 11 ≤ 9) ∧ 0 ≤ F0 9 ∧ F0 9 ≤ 4) by omega), (show (F0 6 = 0 → F0 20 = F0 20 ∧ F0 6 = 0 ∧ (F0 9 = 0 ∨ F0 8 < F0 8)) by omega), fun z => absurd (show F0 6 = 0 from z) (by omega)⟩⟩
      · refine k_c1 11 rfl rfl (if_neg b281) ?_
        have b281 := mt iv_eq0.mpr b281
        refine k_push 12 rfl rfl ?_
        have hc536 : (0 : Int32).toInt = 0 := by decide
        refine k_fin rfl (fin_Z (Or.inl rfl)) ⟨_, _, rfl, rf_len I5 I5, ?_⟩
        show am_Ok _ _ _ (28, _, [.inl (0 : Int32)], _, 0, 0) _
        refine k_fin rfl (fin_Z (Or.inl rfl)) ⟨_, _, rfl, rf_len I5 I5, ?_⟩
        show am_Ok _ _ _ (9, _, [.inl (0 : Int32)], _, 0, 0) _
        refine k_c1 12 rfl rfl (if_pos (by decide)) ?_
        exact k_fin rfl rfl ⟨_, _, _, rfl, I5, fr1.rf, fr2.rf, ⟨(show (F0 8 ≤ F0 8 ∧ F0 8 ≤ F0 7 ∧ F0 20 ≤ F0 20 ∧ F0 20 ≤ 30 ∧ F0 21 = F0 21 ∧ F0 23 ≤ F0 23 ∧ F0 23 ≤ 1000000 ∧ (F0 9 = 2 → 0 ≤ F0 11 ∧ F0 11 ≤ 9) ∧ 0 ≤ F0 9 ∧ F0 9 ≤ 4) by omega), (show (F0 6 = 0 → F0 20 = F0 20 ∧ F0 6 = 0 ∧ (F0 9 = 0 ∨ F0 8 < F0 8)) by omega), fun z => absurd (show F0 6 = 0 from z) (by omega)⟩⟩
  · refine k_c1 11 rfl rfl (if_neg b13) ?_
    have b13 := mt iv_eq0.mpr b13
    refine k_push 12 rfl rfl ?_
    have hc537 : (0 : Int32).toInt = 0 := by decide
    refine k_fin rfl (fin_Z (Or.inl rfl)) ⟨_, _, rfl, rf_len I5 I5, ?_⟩
    show am_Ok _ _ _ (4, _, [.inl (0 : Int32)], _, 0, 0) _
    refine k_c1 24 rfl rfl (if_pos (by decide)) ?_
    refine k_aload 25 rfl rfl rfl ?_
    refine k_in (d := 0) rfl (Nat.ble_eq_true_of_le (by omega)) rfl rfl I5.rc ?_
    refine k_aload 1 rfl rfl rfl ?_
    refine r_gI I5 4 rfl rfl rfl (fun x538 (e539 : x538.toInt = F0 6) => ?_)
    by_cases b540 : x538 = 0
    · refine k_c1 7 rfl rfl (if_pos b540) ?_
      have b540 := iv_eq0.mp b540
      refine k_push 8 rfl rfl ?_
      refine k_goto 12 rfl rfl ?_
      refine k_fin rfl (fin_Z (Or.inr rfl)) ⟨_, _, rfl, rf_len I5 I5, ?_⟩
      show am_Ok _ _ _ (28, _, [.inl (1 : Int32)], _, 0, 0) _
      refine k_fin rfl (fin_Z (Or.inr rfl)) ⟨_, _, rfl, rf_len I5 I5, ?_⟩
      show am_Ok _ _ _ (9, _, [.inl (1 : Int32)], _, 0, 0) _
      refine k_c1 13 rfl rfl (if_neg (by decide)) ?_
      refine k_aload 14 rfl rfl rfl ?_
      refine r_gI I5 17 rfl rfl rfl (fun x541 (e542 : x541.toInt = F0 9) => ?_)
      refine k_push 18 rfl rfl ?_
      by_cases b543 : x541 = (1 : Int32)
      · refine k_c2 21 rfl rfl (if_pos b543) ?_
        have b543 := iv_eq.mp b543
        refine k_aload 22 rfl rfl rfl ?_
        refine k_rv I5 rfl (m_readsName  I5.1 (show 0 ≤ (F0 8) ∧ (F0 8) ≤ (F0 7) ∧ (F0 7) ≤ 700 ∧ 0 ≤ (F0 20) ∧ (F0 20) ≤ 30 ∧ 0 ≤ (F0 21) ∧ (F0 21) ≤ 12 ∧ 0 ≤ (F0 18) ∧ (F0 18) ≤ 12 ∧ 0 ≤ (F0 23) ∧ (F0 23) ≤ 1000000 ∧ ((F0 9) = 2 → 0 ≤ (F0 11) ∧ (F0 11) ≤ 9) ∧ 0 ≤ (F0 9) ∧ (F0 9) ≤ 4 by omega) (show nm ((A0 16)) ((A0 17)) ((F0 18)) from p2)) (Nat.ble_eq_true_of_le (by omega)) rfl rfl I5.rc ?_
        rintro h545 F546 A547 I548 ⟨k550, k551, p549⟩
        replace p549 : ((F0 8) ≤ F546 8 ∧ F546 8 ≤ (F0 7) ∧ (F0 20) ≤ F546 20 ∧ F546 20 ≤ 30 ∧ F546 21 = (F0 21) ∧ (F0 23) ≤ F546 23 ∧ F546 23 ≤ 1000000 ∧ (F546 9 = 2 → 0 ≤ F546 11 ∧ F546 11 ≤ 9) ∧ 0 ≤ F546 9 ∧ F546 9 ≤ 4) ∧ (F546 6 = 0 → F546 20 = (F0 20) ∧ (F0 6) = 0 ∧ (F546 9 = 0 ∨ (F0 8) < F546 8)) ∧ (F546 6 = 0 → F546 23 ≤ 124 → rd1 (A547 22) ((A0 22)) ((F0 23)) (F546 23) ((F0 20))) := p549
        obtain ⟨p549a, p549b, p549c⟩ := p549
        show am_Ok _ _ _ (25, _, [], _, 0, 0) _
        refine k_goto 100 rfl rfl ?_
        have e552 : F546 20 = F0 20 := k550 20 (by decide)
        have e553 : F546 21 = F0 21 := k550 21 (by decide)
        exact k_fin rfl rfl ⟨_, _, _, rfl, I548, (fr1.tr (by decide) fr1.rf k550), (fr2.tr (by decide) fr2.rf k551), ⟨(show (F0 8 ≤ F546 8 ∧ F546 8 ≤ F0 7 ∧ F0 20 ≤ F546 20 ∧ F546 20 ≤ 30 ∧ F546 21 = F0 21 ∧ F0 23 ≤ F546 23 ∧ F546 23 ≤ 1000000 ∧ (F546 9 = 2 → 0 ≤ F546 11 ∧ F546 11 ≤ 9) ∧ 0 ≤ F546 9 ∧ F546 9 ≤ 4) by omega), (show (F546 6 = 0 → F546 20 = F0 20 ∧ F0 6 = 0 ∧ (F546 9 = 0 ∨ F0 8 < F546 8)) by omega), fun z1 z2 => by have z8 : F546 6 = 0 := z1; have z9 : F546 23 ≤ 124 := z2; exact p549c z8 z9⟩⟩
      · refine k_c2 28 rfl rfl (if_neg b543) ?_
        have b543 := mt iv_eq.mpr b543
        refine k_aload 29 rfl rfl rfl ?_
        refine r_gI I5 32 rfl rfl rfl (fun x554 (e555 : x554.toInt = F0 9) => ?_)
        refine k_push 33 rfl rfl ?_
        have hc556 : (2 : Int32).toInt = 2 := by decide
        by_cases b557 : x554 = (2 : Int32)
        · refine k_c2 36 rfl rfl (if_pos b557) ?_
          have b557 := iv_eq.mp b557
          refine k_aload 37 rfl rfl rfl ?_
          refine k_rv I5 rfl (m_readsNumber  I5.1 (show 0 ≤ (F0 8) ∧ (F0 8) ≤ (F0 7) ∧ (F0 7) ≤ 700 ∧ 0 ≤ (F0 20) ∧ (F0 20) ≤ 30 ∧ 0 ≤ (F0 21) ∧ (F0 21) ≤ 12 ∧ 0 ≤ (F0 18) ∧ (F0 18) ≤ 12 ∧ 0 ≤ (F0 23) ∧ (F0 23) ≤ 1000000 ∧ ((F0 9) = 2 → 0 ≤ (F0 11) ∧ (F0 11) ≤ 9) ∧ 0 ≤ (F0 9) ∧ (F0 9) ≤ 4 by omega) (show nm ((A0 16)) ((A0 17)) ((F0 18)) from p2) (show (F0 9) = 2 by omega)) (Nat.ble_eq_true_of_le (by omega)) rfl rfl I5.rc ?_
          rintro h559 F560 A561 I562 ⟨k564, k565, p563⟩
          replace p563 : ((F0 8) ≤ F560 8 ∧ F560 8 ≤ (F0 7) ∧ (F0 20) ≤ F560 20 ∧ F560 20 ≤ 30 ∧ F560 21 = (F0 21) ∧ (F0 23) ≤ F560 23 ∧ F560 23 ≤ 1000000 ∧ (F560 9 = 2 → 0 ≤ F560 11 ∧ F560 11 ≤ 9) ∧ 0 ≤ F560 9 ∧ F560 9 ≤ 4) ∧ (F560 6 = 0 → F560 20 = (F0 20) ∧ (F0 6) = 0 ∧ (F560 9 = 0 ∨ (F0 8) < F560 8)) ∧ (F560 6 = 0 → F560 23 ≤ 124 → rd1 (A561 22) ((A0 22)) ((F0 23)) (F560 23) ((F0 20))) := p563
          obtain ⟨p563a, p563b, p563c⟩ := p563
          show am_Ok _ _ _ (40, _, [], _, 0, 0) _
          refine k_goto 100 rfl rfl ?_
          have e566 : F560 20 = F0 20 := k564 20 (by decide)
          have e567 : F560 21 = F0 21 := k564 21 (by decide)
          exact k_fin rfl rfl ⟨_, _, _, rfl, I562, (fr1.tr (by decide) fr1.rf k564), (fr2.tr (by decide) fr2.rf k565), ⟨(show (F0 8 ≤ F560 8 ∧ F560 8 ≤ F0 7 ∧ F0 20 ≤ F560 20 ∧ F560 20 ≤ 30 ∧ F560 21 = F0 21 ∧ F0 23 ≤ F560 23 ∧ F560 23 ≤ 1000000 ∧ (F560 9 = 2 → 0 ≤ F560 11 ∧ F560 11 ≤ 9) ∧ 0 ≤ F560 9 ∧ F560 9 ≤ 4) by omega), (show (F560 6 = 0 → F560 20 = F0 20 ∧ F0 6 = 0 ∧ (F560 9 = 0 ∨ F0 8 < F560 8)) by omega), fun z1 z2 => by have z8 : F560 6 = 0 := z1; have z9 : F560 23 ≤ 124 := z2; exact p563c z8 z9⟩⟩
        · refine k_c2 43 rfl rfl (if_neg b557) ?_
          have b557 := mt iv_eq.mpr b557
          refine k_aload 44 rfl rfl rfl ?_
          refine k_aload 45 rfl rfl rfl ?_
          refine r_gI I5 48 rfl rfl rfl (fun x568 (e569 : x568.toInt = F0 21) => ?_)
          refine k_push 50 rfl rfl ?_
          have hc570 : (12 : Int32).toInt = 12 := by decide
          by_cases b571 : (12 : Int32) ≤ x568
          · refine k_c2 57 rfl rfl (if_pos b571) ?_
            have b571 := iv_le.mp b571
            refine k_push 58 rfl rfl ?_
            refine k_push 59 rfl rfl ?_
            refine k_in (d := 1) rfl (Nat.ble_eq_true_of_le (by omega)) rfl rfl I5.rc ?_
            refine k_aload 1 rfl rfl rfl ?_
            refine k_in (d := 0) rfl (Nat.ble_eq_true_of_le (by omega)) rfl rfl I5.rc ?_
            refine k_aload 1 rfl rfl rfl ?_
            refine r_gI I5 4 rfl rfl rfl (fun x572 (e573 : x572.toInt = F0 6) => ?_)
            by_cases b574 : x572 = 0
            · refine k_c1 7 rfl rfl (if_pos b574) ?_
              have b574 := iv_eq0.mp b574
              refine k_push 8 rfl rfl ?_
              refine k_goto 12 rfl rfl ?_
              refine k_fin rfl (fin_Z (Or.inr rfl)) ⟨_, _, rfl, rf_len I5 I5, ?_⟩
              show am_Ok _ _ _ (4, _, [.inl (1 : Int32)], _, 0, 0) _
              refine k_c1 7 rfl rfl (if_neg (by decide)) ?_
              refine k_iload 8 rfl rfl rfl ?_
              refine k_c1 11 rfl rfl (if_pos (by decide)) ?_
              refine k_aload 12 rfl rfl rfl ?_
              refine k_iload 13 rfl rfl rfl ?_
              refine r_pI I5 16 rfl rfl rfl (fun h575 I576 => ?_)
              refine k_aload 17 rfl rfl rfl ?_
              refine k_aload 18 rfl rfl rfl ?_
              refine r_gI I576 21 rfl rfl rfl (fun x577 (e578 : x577.toInt = F0 10) => ?_)
              refine r_pI I576 24 rfl rfl rfl (fun h579 I580 => ?_)
              refine k_aload 25 rfl rfl rfl ?_
              refine k_in (d := 0) rfl (Nat.ble_eq_true_of_le (by omega)) rfl rfl I580.rc ?_
              refine k_aload 1 rfl rfl rfl ?_
              refine r_gI I580 4 rfl rfl rfl (fun x581 (e582 : x581.toInt = (2 : Int32).toInt) => ?_)
              by_cases b583 : x581 = 0
              · refine k_c1 7 rfl rfl (if_pos b583) ?_
                have b583 := iv_eq0.mp b583
                refine k_push 8 rfl rfl ?_
                refine k_goto 12 rfl rfl ?_
                refine k_fin rfl (fin_Z (Or.inr rfl)) ⟨_, _, rfl, rf_len I580 I580, ?_⟩
                show am_Ok _ _ _ (28, _, [.inl (1 : Int32)], _, 0, 0) _
                refine k_fin rfl (fin_Z (Or.inr rfl)) ⟨_, _, rfl, rf_len I5 I580, ?_⟩
                show am_Ok _ _ _ (62, _, [.inl (1 : Int32)], _, 0, 0) _
                refine k_c1 66 rfl rfl (if_neg (by decide)) ?_
                refine k_aload 67 rfl rfl rfl ?_
                refine k_dup 68 rfl rfl rfl ?_
                refine r_gI I580 71 rfl rfl rfl (fun x584 (e585 : x584.toInt = F0 21) => ?_)
                refine k_push 72 rfl rfl ?_
                obtain ⟨x586, q587⟩ : ∃ q : Int32, q = (x584 + (1 : Int32)) := ⟨_, rfl⟩
                have e588 : x586.toInt = x584.toInt + 1 := by rw [q587, iv_add (by omega) (by omega)]; omega
                refine k_bin x586 73 rfl q587.symm rfl ?_
                refine r_pI I580 76 rfl rfl rfl (fun h589 I590 => ?_)
                refine k_aload 77 rfl rfl rfl ?_
                refine k_rv I590 rfl (m_goes  I590.1 (show 0 ≤ (F0 8) ∧ (F0 8) ≤ (F0 7) ∧ (F0 7) ≤ 700 by omega)) (Nat.ble_eq_true_of_le (by omega)) rfl rfl I590.rc ?_
                rintro h592 F593 A594 I595 ⟨k597, k598, p596⟩
                replace p596 : ((F0 8) ≤ F593 8 ∧ F593 8 ≤ (F0 7)) ∧ (F593 9 = 0 ∨ (F0 8) < F593 8) ∧ (F593 9 = 2 → 0 ≤ F593 11 ∧ F593 11 ≤ 9) ∧ (0 ≤ F593 9 ∧ F593 9 ≤ 4) := p596
                obtain ⟨p596a, p596b, p596c, p596d⟩ := p596
                have k598 := fr2.nil k598
                subst k598
                show am_Ok _ _ _ (80, _, [], _, 0, 0) _
                refine k_aload 81 rfl rfl rfl ?_
                have e599 : F593 7 = F0 7 := k597 7 (by decide)
                have e600 : F593 20 = F0 20 := k597 20 (by decide)
                have e601 : F593 21 = x586.toInt := k597 21 (by decide)
                have e602 : F593 18 = F0 18 := k597 18 (by decide)
                have e603 : F593 23 = F0 23 := k597 23 (by decide)
                refine k_rv I595 rfl (hrec  I595.1 (show 0 ≤ (F593 8) ∧ (F593 8) ≤ (F593 7) ∧ (F593 7) ≤ 700 ∧ 0 ≤ (F593 20) ∧ (F593 20) ≤ 30 ∧ 0 ≤ (F593 21) ∧ (F593 21) ≤ 12 ∧ 0 ≤ (F593 18) ∧ (F593 18) ≤ 12 ∧ 0 ≤ (F593 23) ∧ (F593 23) ≤ 1000000 ∧ ((F593 9) = 2 → 0 ≤ (F593 11) ∧ (F593 11) ≤ 9) ∧ 0 ≤ (F593 9) ∧ (F593 9) ≤ 4 by omega) (show nm ((A0 16)) ((A0 17)) ((F593 18)) by rw [(show A0 16 = A0 16 from rfl), (show A0 17 = A0 17 from rfl), (k597 18 (by decide))]; exact p2) (show (12 - (F593 21)) + (30 - (F593 20)) < (gk : Int) by omega)) (Nat.ble_eq_true_of_le (by omega)) rfl rfl I595.rc ?_
                rintro h605 F606 A607 I608 ⟨k610, k611, p609⟩
                have e612 : F593 6 = (2 : Int32).toInt := k597 6 (by decide)
                replace p609 : ((F593 8) ≤ F606 8 ∧ F606 8 ≤ (F593 7) ∧ (F593 20) ≤ F606 20 ∧ F606 20 ≤ 30 ∧ F606 21 = (F593 21) ∧ (F593 23) ≤ F606 23 ∧ F606 23 ≤ 1000000 ∧ (F606 9 = 2 → 0 ≤ F606 11 ∧ F606 11 ≤ 9) ∧ 0 ≤ F606 9 ∧ F606 9 ≤ 4) ∧ (F606 6 = 0 → F606 20 = (F593 20) ∧ (F593 6) = 0 ∧ (F606 9 = 0 ∨ (F593 8) < F606 8)) ∧ (F606 6 = 0 → F606 23 ≤ 124 → rd1 (A607 22) ((A0 22)) ((F593 23)) (F606 23) ((F593 20))) := p609
                obtain ⟨p609a, p609b, p609c⟩ := p609
                show am_Ok _ _ _ (84, _, [], _, 0, 0) _
                refine k_aload 85 rfl rfl rfl ?_
                refine k_push 87 rfl rfl ?_
                have hc613 : (41 : Int32).toInt = 41 := by decide
                have e614 : F606 7 = F593 7 := k610 7 (by decide)
                refine k_rv I608 rfl (m_must  I608.1 (show 0 ≤ (F606 8) ∧ (F606 8) ≤ (F606 7) ∧ (F606 7) ≤ 700 ∧ ((F606 9) = 2 → 0 ≤ (F606 11) ∧ (F606 11) ≤ 9) ∧ 0 ≤ (F606 9) ∧ (F606 9) ≤ 4 by omega)) (Nat.ble_eq_true_of_le (by omega)) rfl rfl I608.rc ?_
                rintro h616 F617 A618 I619 ⟨k621, k622, p620⟩
                replace p620 : ((F606 8) ≤ F617 8 ∧ F617 8 ≤ (F606 7)) ∧ (F617 6 = 0 → (F606 6) = 0 ∧ (F617 9 = 0 ∨ (F606 8) < F617 8)) ∧ (F617 9 = 2 → 0 ≤ F617 11 ∧ F617 11 ≤ 9) ∧ (0 ≤ F617 9 ∧ F617 9 ≤ 4) := p620
                obtain ⟨p620a, p620b, p620c, p620d⟩ := p620
                have k622 := fr2.nil k622
                subst k622
                show am_Ok _ _ _ (90, _, [], _, 0, 0) _
                refine k_aload 91 rfl rfl rfl ?_
                refine k_dup 92 rfl rfl rfl ?_
                refine r_gI I619 95 rfl rfl rfl (fun x623 (e624 : x623.toInt = F617 21) => ?_)
                have e625 : F617 21 = F606 21 := k621 21 (by decide)
                refine k_push 96 rfl rfl ?_
                obtain ⟨x626, q627⟩ : ∃ q : Int32, q = (x623 - (1 : Int32)) := ⟨_, rfl⟩
                have e628 : x626.toInt = x623.toInt - 1 := by rw [q627, iv_sub (by omega) (by omega)]; omega
                refine k_bin x626 97 rfl q627.symm rfl ?_
                refine r_pI I619 100 rfl rfl rfl (fun h629 I630 => ?_)
                have e631 : F617 20 = F606 20 := k621 20 (by decide)
                have e632 : F617 23 = F606 23 := k621 23 (by decide)
                exact k_fin rfl rfl ⟨_, _, _, rfl, I630, (fr1.up (by decide) (fr1.tr (by decide) (fr1.tr (by decide) (fr1.tr (by decide) (fr1.up (by decide) (fr1.up (by decide) (fr1.up (by decide) fr1.rf))) k597) k610) k621)), (fr2.tr (by decide) fr2.rf k611), ⟨(show (F0 8 ≤ F617 8 ∧ F617 8 ≤ F0 7 ∧ F0 20 ≤ F617 20 ∧ F617 20 ≤ 30 ∧ x626.toInt = F0 21 ∧ F0 23 ≤ F617 23 ∧ F617 23 ≤ 1000000 ∧ (F617 9 = 2 → 0 ≤ F617 11 ∧ F617 11 ≤ 9) ∧ 0 ≤ F617 9 ∧ F617 9 ≤ 4) by omega), (show (F617 6 = 0 → F617 20 = F0 20 ∧ F0 6 = 0 ∧ (F617 9 = 0 ∨ F0 8 < F617 8)) by omega), fun z1 z2 => by have z8 : F617 6 = 0 := z1; have z9 : F617 23 ≤ 124 := z2; have h9 := p609c (by omega) (by omega); show rd1 (A607 22) (A0 22) (F0 23) (F617 23) (F0 20); exact rd_cg h9 (by omega) (by omega) (by omega)⟩⟩
              · refine k_c1 11 rfl rfl (if_neg b583) ?_
                have b583 := mt iv_eq0.mpr b583
                refine k_push 12 rfl rfl ?_
                refine k_fin rfl (fin_Z (Or.inl rfl)) ⟨_, _, rfl, rf_len I580 I580, ?_⟩
                show am_Ok _ _ _ (28, _, [.inl (0 : Int32)], _, 0, 0) _
                refine k_fin rfl (fin_Z (Or.inl rfl)) ⟨_, _, rfl, rf_len I5 I580, ?_⟩
                show am_Ok _ _ _ (62, _, [.inl (0 : Int32)], _, 0, 0) _
                refine k_c1 65 rfl rfl (if_pos (by decide)) ?_
                exact k_fin rfl rfl ⟨_, _, _, rfl, I580, (fr1.up (by decide) (fr1.up (by decide) fr1.rf)), fr2.rf, ⟨(show (F0 8 ≤ F0 8 ∧ F0 8 ≤ F0 7 ∧ F0 20 ≤ F0 20 ∧ F0 20 ≤ 30 ∧ F0 21 = F0 21 ∧ F0 23 ≤ F0 23 ∧ F0 23 ≤ 1000000 ∧ (F0 9 = 2 → 0 ≤ F0 11 ∧ F0 11 ≤ 9) ∧ 0 ≤ F0 9 ∧ F0 9 ≤ 4) by omega), (show ((2 : Int32).toInt = 0 → F0 20 = F0 20 ∧ F0 6 = 0 ∧ (F0 9 = 0 ∨ F0 8 < F0 8)) by omega), fun z => absurd (show (2 : Int32).toInt = 0 from z) (by omega)⟩⟩
            · refine k_c1 11 rfl rfl (if_neg b574) ?_
              have b574 := mt iv_eq0.mpr b574
              refine k_push 12 rfl rfl ?_
              refine k_fin rfl (fin_Z (Or.inl rfl)) ⟨_, _, rfl, rf_len I5 I5, ?_⟩
              show am_Ok _ _ _ (4, _, [.inl (0 : Int32)], _, 0, 0) _
              refine k_c1 24 rfl rfl (if_pos (by decide)) ?_
              refine k_aload 25 rfl rfl rfl ?_
              refine k_in (d := 0) rfl (Nat.ble_eq_true_of_le (by omega)) rfl rfl I5.rc ?_
              refine k_aload 1 rfl rfl rfl ?_
              refine r_gI I5 4 rfl rfl rfl (fun x633 (e634 : x633.toInt = F0 6) => ?_)
              by_cases b635 : x633 = 0
              · refine k_c1 7 rfl rfl (if_pos b635) ?_
                have b635 := iv_eq0.mp b635
                refine k_push 8 rfl rfl ?_
                refine k_goto 12 rfl rfl ?_
                refine k_fin rfl (fin_Z (Or.inr rfl)) ⟨_, _, rfl, rf_len I5 I5, ?_⟩
                show am_Ok _ _ _ (28, _, [.inl (1 : Int32)], _, 0, 0) _
                refine k_fin rfl (fin_Z (Or.inr rfl)) ⟨_, _, rfl, rf_len I5 I5, ?_⟩
                show am_Ok _ _ _ (62, _, [.inl (1 : Int32)], _, 0, 0) _
                refine k_c1 66 rfl rfl (if_neg (by decide)) ?_
                refine k_aload 67 rfl rfl rfl ?_
                refine k_dup 68 rfl rfl rfl ?_
                refine r_gI I5 71 rfl rfl rfl (fun x636 (e637 : x636.toInt = F0 21) => ?_)
                refine k_push 72 rfl rfl ?_
                obtain ⟨x638, q639⟩ : ∃ q : Int32, q = (x636 + (1 : Int32)) := ⟨_, rfl⟩
                have e640 : x638.toInt = x636.toInt + 1 := by rw [q639, iv_add (by omega) (by omega)]; omega
                refine k_bin x638 73 rfl q639.symm rfl ?_
                refine r_pI I5 76 rfl rfl rfl (fun h641 I642 => ?_)
                refine k_aload 77 rfl rfl rfl ?_
                refine k_rv I642 rfl (m_goes  I642.1 (show 0 ≤ (F0 8) ∧ (F0 8) ≤ (F0 7) ∧ (F0 7) ≤ 700 by omega)) (Nat.ble_eq_true_of_le (by omega)) rfl rfl I642.rc ?_
                rintro h644 F645 A646 I647 ⟨k649, k650, p648⟩
                replace p648 : ((F0 8) ≤ F645 8 ∧ F645 8 ≤ (F0 7)) ∧ (F645 9 = 0 ∨ (F0 8) < F645 8) ∧ (F645 9 = 2 → 0 ≤ F645 11 ∧ F645 11 ≤ 9) ∧ (0 ≤ F645 9 ∧ F645 9 ≤ 4) := p648
                obtain ⟨p648a, p648b, p648c, p648d⟩ := p648
                have k650 := fr2.nil k650
                subst k650
                show am_Ok _ _ _ (80, _, [], _, 0, 0) _
                refine k_aload 81 rfl rfl rfl ?_
                have e651 : F645 7 = F0 7 := k649 7 (by decide)
                have e652 : F645 20 = F0 20 := k649 20 (by decide)
                have e653 : F645 21 = x638.toInt := k649 21 (by decide)
                have e654 : F645 18 = F0 18 := k649 18 (by decide)
                have e655 : F645 23 = F0 23 := k649 23 (by decide)
                refine k_rv I647 rfl (hrec  I647.1 (show 0 ≤ (F645 8) ∧ (F645 8) ≤ (F645 7) ∧ (F645 7) ≤ 700 ∧ 0 ≤ (F645 20) ∧ (F645 20) ≤ 30 ∧ 0 ≤ (F645 21) ∧ (F645 21) ≤ 12 ∧ 0 ≤ (F645 18) ∧ (F645 18) ≤ 12 ∧ 0 ≤ (F645 23) ∧ (F645 23) ≤ 1000000 ∧ ((F645 9) = 2 → 0 ≤ (F645 11) ∧ (F645 11) ≤ 9) ∧ 0 ≤ (F645 9) ∧ (F645 9) ≤ 4 by omega) (show nm ((A0 16)) ((A0 17)) ((F645 18)) by rw [(show A0 16 = A0 16 from rfl), (show A0 17 = A0 17 from rfl), (k649 18 (by decide))]; exact p2) (show (12 - (F645 21)) + (30 - (F645 20)) < (gk : Int) by omega)) (Nat.ble_eq_true_of_le (by omega)) rfl rfl I647.rc ?_
                rintro h657 F658 A659 I660 ⟨k662, k663, p661⟩
                have e664 : F645 6 = F0 6 := k649 6 (by decide)
                replace p661 : ((F645 8) ≤ F658 8 ∧ F658 8 ≤ (F645 7) ∧ (F645 20) ≤ F658 20 ∧ F658 20 ≤ 30 ∧ F658 21 = (F645 21) ∧ (F645 23) ≤ F658 23 ∧ F658 23 ≤ 1000000 ∧ (F658 9 = 2 → 0 ≤ F658 11 ∧ F658 11 ≤ 9) ∧ 0 ≤ F658 9 ∧ F658 9 ≤ 4) ∧ (F658 6 = 0 → F658 20 = (F645 20) ∧ (F645 6) = 0 ∧ (F658 9 = 0 ∨ (F645 8) < F658 8)) ∧ (F658 6 = 0 → F658 23 ≤ 124 → rd1 (A659 22) ((A0 22)) ((F645 23)) (F658 23) ((F645 20))) := p661
                obtain ⟨p661a, p661b, p661c⟩ := p661
                show am_Ok _ _ _ (84, _, [], _, 0, 0) _
                refine k_aload 85 rfl rfl rfl ?_
                refine k_push 87 rfl rfl ?_
                have hc665 : (41 : Int32).toInt = 41 := by decide
                have e666 : F658 7 = F645 7 := k662 7 (by decide)
                refine k_rv I660 rfl (m_must  I660.1 (show 0 ≤ (F658 8) ∧ (F658 8) ≤ (F658 7) ∧ (F658 7) ≤ 700 ∧ ((F658 9) = 2 → 0 ≤ (F658 11) ∧ (F658 11) ≤ 9) ∧ 0 ≤ (F658 9) ∧ (F658 9) ≤ 4 by omega)) (Nat.ble_eq_true_of_le (by omega)) rfl rfl I660.rc ?_
                rintro h668 F669 A670 I671 ⟨k673, k674, p672⟩
                replace p672 : ((F658 8) ≤ F669 8 ∧ F669 8 ≤ (F658 7)) ∧ (F669 6 = 0 → (F658 6) = 0 ∧ (F669 9 = 0 ∨ (F658 8) < F669 8)) ∧ (F669 9 = 2 → 0 ≤ F669 11 ∧ F669 11 ≤ 9) ∧ (0 ≤ F669 9 ∧ F669 9 ≤ 4) := p672
                obtain ⟨p672a, p672b, p672c, p672d⟩ := p672
                have k674 := fr2.nil k674
                subst k674
                show am_Ok _ _ _ (90, _, [], _, 0, 0) _
                refine k_aload 91 rfl rfl rfl ?_
                refine k_dup 92 rfl rfl rfl ?_
                refine r_gI I671 95 rfl rfl rfl (fun x675 (e676 : x675.toInt = F669 21) => ?_)
                have e677 : F669 21 = F658 21 := k673 21 (by decide)
                refine k_push 96 rfl rfl ?_
                obtain ⟨x678, q679⟩ : ∃ q : Int32, q = (x675 - (1 : Int32)) := ⟨_, rfl⟩
                have e680 : x678.toInt = x675.toInt - 1 := by rw [q679, iv_sub (by omega) (by omega)]; omega
                refine k_bin x678 97 rfl q679.symm rfl ?_
                refine r_pI I671 100 rfl rfl rfl (fun h681 I682 => ?_)
                have e683 : F669 20 = F658 20 := k673 20 (by decide)
                have e684 : F669 23 = F658 23 := k673 23 (by decide)
                exact k_fin rfl rfl ⟨_, _, _, rfl, I682, (fr1.up (by decide) (fr1.tr (by decide) (fr1.tr (by decide) (fr1.tr (by decide) (fr1.up (by decide) fr1.rf) k649) k662) k673)), (fr2.tr (by decide) fr2.rf k663), ⟨(show (F0 8 ≤ F669 8 ∧ F669 8 ≤ F0 7 ∧ F0 20 ≤ F669 20 ∧ F669 20 ≤ 30 ∧ x678.toInt = F0 21 ∧ F0 23 ≤ F669 23 ∧ F669 23 ≤ 1000000 ∧ (F669 9 = 2 → 0 ≤ F669 11 ∧ F669 11 ≤ 9) ∧ 0 ≤ F669 9 ∧ F669 9 ≤ 4) by omega), (show (F669 6 = 0 → F669 20 = F0 20 ∧ F0 6 = 0 ∧ (F669 9 = 0 ∨ F0 8 < F669 8)) by omega), fun z1 z2 => by have z8 : F669 6 = 0 := z1; have z9 : F669 23 ≤ 124 := z2; have h9 := p661c (by omega) (by omega); show rd1 (A659 22) (A0 22) (F0 23) (F669 23) (F0 20); exact rd_cg h9 (by omega) (by omega) (by omega)⟩⟩
              · refine k_c1 11 rfl rfl (if_neg b635) ?_
                have b635 := mt iv_eq0.mpr b635
                refine k_push 12 rfl rfl ?_
                refine k_fin rfl (fin_Z (Or.inl rfl)) ⟨_, _, rfl, rf_len I5 I5, ?_⟩
                show am_Ok _ _ _ (28, _, [.inl (0 : Int32)], _, 0, 0) _
                refine k_fin rfl (fin_Z (Or.inl rfl)) ⟨_, _, rfl, rf_len I5 I5, ?_⟩
                show am_Ok _ _ _ (62, _, [.inl (0 : Int32)], _, 0, 0) _
                refine k_c1 65 rfl rfl (if_pos (by decide)) ?_
                exact k_fin rfl rfl ⟨_, _, _, rfl, I5, fr1.rf, fr2.rf, ⟨(show (F0 8 ≤ F0 8 ∧ F0 8 ≤ F0 7 ∧ F0 20 ≤ F0 20 ∧ F0 20 ≤ 30 ∧ F0 21 = F0 21 ∧ F0 23 ≤ F0 23 ∧ F0 23 ≤ 1000000 ∧ (F0 9 = 2 → 0 ≤ F0 11 ∧ F0 11 ≤ 9) ∧ 0 ≤ F0 9 ∧ F0 9 ≤ 4) by omega), (show (F0 6 = 0 → F0 20 = F0 20 ∧ F0 6 = 0 ∧ (F0 9 = 0 ∨ F0 8 < F0 8)) by omega), fun z => absurd (show F0 6 = 0 from z) (by omega)⟩⟩
          · refine k_c2 53 rfl rfl (if_neg b571) ?_
            have b571 := mt iv_le.mpr b571
            refine k_push 54 rfl rfl ?_
            refine k_goto 58 rfl rfl ?_
            refine k_push 59 rfl rfl ?_
            refine k_in (d := 1) rfl (Nat.ble_eq_true_of_le (by omega)) rfl rfl I5.rc ?_
            refine k_aload 1 rfl rfl rfl ?_
            refine k_in (d := 0) rfl (Nat.ble_eq_true_of_le (by omega)) rfl rfl I5.rc ?_
            refine k_aload 1 rfl rfl rfl ?_
            refine r_gI I5 4 rfl rfl rfl (fun x685 (e686 : x685.toInt = F0 6) => ?_)
            by_cases b687 : x685 = 0
            · refine k_c1 7 rfl rfl (if_pos b687) ?_
              have b687 := iv_eq0.mp b687
              refine k_push 8 rfl rfl ?_
              refine k_goto 12 rfl rfl ?_
              refine k_fin rfl (fin_Z (Or.inr rfl)) ⟨_, _, rfl, rf_len I5 I5, ?_⟩
              show am_Ok _ _ _ (4, _, [.inl (1 : Int32)], _, 0, 0) _
              refine k_c1 7 rfl rfl (if_neg (by decide)) ?_
              refine k_iload 8 rfl rfl rfl ?_
              refine k_c1 24 rfl rfl (if_neg (by decide)) ?_
              refine k_aload 25 rfl rfl rfl ?_
              refine k_in (d := 0) rfl (Nat.ble_eq_true_of_le (by omega)) rfl rfl I5.rc ?_
              refine k_aload 1 rfl rfl rfl ?_
              refine r_gI I5 4 rfl rfl rfl (fun x688 (e689 : x688.toInt = F0 6) => ?_)
              by_cases b690 : x688 = 0
              · refine k_c1 7 rfl rfl (if_pos b690) ?_
                have b690 := iv_eq0.mp b690
                refine k_push 8 rfl rfl ?_
                refine k_goto 12 rfl rfl ?_
                refine k_fin rfl (fin_Z (Or.inr rfl)) ⟨_, _, rfl, rf_len I5 I5, ?_⟩
                show am_Ok _ _ _ (28, _, [.inl (1 : Int32)], _, 0, 0) _
                refine k_fin rfl (fin_Z (Or.inr rfl)) ⟨_, _, rfl, rf_len I5 I5, ?_⟩
                show am_Ok _ _ _ (62, _, [.inl (1 : Int32)], _, 0, 0) _
                refine k_c1 66 rfl rfl (if_neg (by decide)) ?_
                refine k_aload 67 rfl rfl rfl ?_
                refine k_dup 68 rfl rfl rfl ?_
                refine r_gI I5 71 rfl rfl rfl (fun x691 (e692 : x691.toInt = F0 21) => ?_)
                refine k_push 72 rfl rfl ?_
                obtain ⟨x693, q694⟩ : ∃ q : Int32, q = (x691 + (1 : Int32)) := ⟨_, rfl⟩
                have e695 : x693.toInt = x691.toInt + 1 := by rw [q694, iv_add (by omega) (by omega)]; omega
                refine k_bin x693 73 rfl q694.symm rfl ?_
                refine r_pI I5 76 rfl rfl rfl (fun h696 I697 => ?_)
                refine k_aload 77 rfl rfl rfl ?_
                refine k_rv I697 rfl (m_goes  I697.1 (show 0 ≤ (F0 8) ∧ (F0 8) ≤ (F0 7) ∧ (F0 7) ≤ 700 by omega)) (Nat.ble_eq_true_of_le (by omega)) rfl rfl I697.rc ?_
                rintro h699 F700 A701 I702 ⟨k704, k705, p703⟩
                replace p703 : ((F0 8) ≤ F700 8 ∧ F700 8 ≤ (F0 7)) ∧ (F700 9 = 0 ∨ (F0 8) < F700 8) ∧ (F700 9 = 2 → 0 ≤ F700 11 ∧ F700 11 ≤ 9) ∧ (0 ≤ F700 9 ∧ F700 9 ≤ 4) := p703
                obtain ⟨p703a, p703b, p703c, p703d⟩ := p703
                have k705 := fr2.nil k705
                subst k705
                show am_Ok _ _ _ (80, _, [], _, 0, 0) _
                refine k_aload 81 rfl rfl rfl ?_
                have e706 : F700 7 = F0 7 := k704 7 (by decide)
                have e707 : F700 20 = F0 20 := k704 20 (by decide)
                have e708 : F700 21 = x693.toInt := k704 21 (by decide)
                have e709 : F700 18 = F0 18 := k704 18 (by decide)
                have e710 : F700 23 = F0 23 := k704 23 (by decide)
                refine k_rv I702 rfl (hrec  I702.1 (show 0 ≤ (F700 8) ∧ (F700 8) ≤ (F700 7) ∧ (F700 7) ≤ 700 ∧ 0 ≤ (F700 20) ∧ (F700 20) ≤ 30 ∧ 0 ≤ (F700 21) ∧ (F700 21) ≤ 12 ∧ 0 ≤ (F700 18) ∧ (F700 18) ≤ 12 ∧ 0 ≤ (F700 23) ∧ (F700 23) ≤ 1000000 ∧ ((F700 9) = 2 → 0 ≤ (F700 11) ∧ (F700 11) ≤ 9) ∧ 0 ≤ (F700 9) ∧ (F700 9) ≤ 4 by omega) (show nm ((A0 16)) ((A0 17)) ((F700 18)) by rw [(show A0 16 = A0 16 from rfl), (show A0 17 = A0 17 from rfl), (k704 18 (by decide))]; exact p2) (show (12 - (F700 21)) + (30 - (F700 20)) < (gk : Int) by omega)) (Nat.ble_eq_true_of_le (by omega)) rfl rfl I702.rc ?_
                rintro h712 F713 A714 I715 ⟨k717, k718, p716⟩
                have e719 : F700 6 = F0 6 := k704 6 (by decide)
                replace p716 : ((F700 8) ≤ F713 8 ∧ F713 8 ≤ (F700 7) ∧ (F700 20) ≤ F713 20 ∧ F713 20 ≤ 30 ∧ F713 21 = (F700 21) ∧ (F700 23) ≤ F713 23 ∧ F713 23 ≤ 1000000 ∧ (F713 9 = 2 → 0 ≤ F713 11 ∧ F713 11 ≤ 9) ∧ 0 ≤ F713 9 ∧ F713 9 ≤ 4) ∧ (F713 6 = 0 → F713 20 = (F700 20) ∧ (F700 6) = 0 ∧ (F713 9 = 0 ∨ (F700 8) < F713 8)) ∧ (F713 6 = 0 → F713 23 ≤ 124 → rd1 (A714 22) ((A0 22)) ((F700 23)) (F713 23) ((F700 20))) := p716
                obtain ⟨p716a, p716b, p716c⟩ := p716
                show am_Ok _ _ _ (84, _, [], _, 0, 0) _
                refine k_aload 85 rfl rfl rfl ?_
                refine k_push 87 rfl rfl ?_
                have hc720 : (41 : Int32).toInt = 41 := by decide
                have e721 : F713 7 = F700 7 := k717 7 (by decide)
                refine k_rv I715 rfl (m_must  I715.1 (show 0 ≤ (F713 8) ∧ (F713 8) ≤ (F713 7) ∧ (F713 7) ≤ 700 ∧ ((F713 9) = 2 → 0 ≤ (F713 11) ∧ (F713 11) ≤ 9) ∧ 0 ≤ (F713 9) ∧ (F713 9) ≤ 4 by omega)) (Nat.ble_eq_true_of_le (by omega)) rfl rfl I715.rc ?_
                rintro h723 F724 A725 I726 ⟨k728, k729, p727⟩
                replace p727 : ((F713 8) ≤ F724 8 ∧ F724 8 ≤ (F713 7)) ∧ (F724 6 = 0 → (F713 6) = 0 ∧ (F724 9 = 0 ∨ (F713 8) < F724 8)) ∧ (F724 9 = 2 → 0 ≤ F724 11 ∧ F724 11 ≤ 9) ∧ (0 ≤ F724 9 ∧ F724 9 ≤ 4) := p727
                obtain ⟨p727a, p727b, p727c, p727d⟩ := p727
                have k729 := fr2.nil k729
                subst k729
                show am_Ok _ _ _ (90, _, [], _, 0, 0) _
                refine k_aload 91 rfl rfl rfl ?_
                refine k_dup 92 rfl rfl rfl ?_
                refine r_gI I726 95 rfl rfl rfl (fun x730 (e731 : x730.toInt = F724 21) => ?_)
                have e732 : F724 21 = F713 21 := k728 21 (by decide)
                refine k_push 96 rfl rfl ?_
                obtain ⟨x733, q734⟩ : ∃ q : Int32, q = (x730 - (1 : Int32)) := ⟨_, rfl⟩
                have e735 : x733.toInt = x730.toInt - 1 := by rw [q734, iv_sub (by omega) (by omega)]; omega
                refine k_bin x733 97 rfl q734.symm rfl ?_
                refine r_pI I726 100 rfl rfl rfl (fun h736 I737 => ?_)
                have e738 : F724 20 = F713 20 := k728 20 (by decide)
                have e739 : F724 23 = F713 23 := k728 23 (by decide)
                exact k_fin rfl rfl ⟨_, _, _, rfl, I737, (fr1.up (by decide) (fr1.tr (by decide) (fr1.tr (by decide) (fr1.tr (by decide) (fr1.up (by decide) fr1.rf) k704) k717) k728)), (fr2.tr (by decide) fr2.rf k718), ⟨(show (F0 8 ≤ F724 8 ∧ F724 8 ≤ F0 7 ∧ F0 20 ≤ F724 20 ∧ F724 20 ≤ 30 ∧ x733.toInt = F0 21 ∧ F0 23 ≤ F724 23 ∧ F724 23 ≤ 1000000 ∧ (F724 9 = 2 → 0 ≤ F724 11 ∧ F724 11 ≤ 9) ∧ 0 ≤ F724 9 ∧ F724 9 ≤ 4) by omega), (show (F724 6 = 0 → F724 20 = F0 20 ∧ F0 6 = 0 ∧ (F724 9 = 0 ∨ F0 8 < F724 8)) by omega), fun z1 z2 => by have z8 : F724 6 = 0 := z1; have z9 : F724 23 ≤ 124 := z2; have h9 := p716c (by omega) (by omega); show rd1 (A714 22) (A0 22) (F0 23) (F724 23) (F0 20); exact rd_cg h9 (by omega) (by omega) (by omega)⟩⟩
              · refine k_c1 11 rfl rfl (if_neg b690) ?_
                have b690 := mt iv_eq0.mpr b690
                refine k_push 12 rfl rfl ?_
                refine k_fin rfl (fin_Z (Or.inl rfl)) ⟨_, _, rfl, rf_len I5 I5, ?_⟩
                show am_Ok _ _ _ (28, _, [.inl (0 : Int32)], _, 0, 0) _
                refine k_fin rfl (fin_Z (Or.inl rfl)) ⟨_, _, rfl, rf_len I5 I5, ?_⟩
                show am_Ok _ _ _ (62, _, [.inl (0 : Int32)], _, 0, 0) _
                refine k_c1 65 rfl rfl (if_pos (by decide)) ?_
                exact k_fin rfl rfl ⟨_, _, _, rfl, I5, fr1.rf, fr2.rf, ⟨(show (F0 8 ≤ F0 8 ∧ F0 8 ≤ F0 7 ∧ F0 20 ≤ F0 20 ∧ F0 20 ≤ 30 ∧ F0 21 = F0 21 ∧ F0 23 ≤ F0 23 ∧ F0 23 ≤ 1000000 ∧ (F0 9 = 2 → 0 ≤ F0 11 ∧ F0 11 ≤ 9) ∧ 0 ≤ F0 9 ∧ F0 9 ≤ 4) by omega), (show (F0 6 = 0 → F0 20 = F0 20 ∧ F0 6 = 0 ∧ (F0 9 = 0 ∨ F0 8 < F0 8)) by omega), fun z => absurd (show F0 6 = 0 from z) (by omega)⟩⟩
            · refine k_c1 11 rfl rfl (if_neg b687) ?_
              have b687 := mt iv_eq0.mpr b687
              refine k_push 12 rfl rfl ?_
              refine k_fin rfl (fin_Z (Or.inl rfl)) ⟨_, _, rfl, rf_len I5 I5, ?_⟩
              show am_Ok _ _ _ (4, _, [.inl (0 : Int32)], _, 0, 0) _
              refine k_c1 24 rfl rfl (if_pos (by decide)) ?_
              refine k_aload 25 rfl rfl rfl ?_
              refine k_in (d := 0) rfl (Nat.ble_eq_true_of_le (by omega)) rfl rfl I5.rc ?_
              refine k_aload 1 rfl rfl rfl ?_
              refine r_gI I5 4 rfl rfl rfl (fun x740 (e741 : x740.toInt = F0 6) => ?_)
              by_cases b742 : x740 = 0
              · refine k_c1 7 rfl rfl (if_pos b742) ?_
                have b742 := iv_eq0.mp b742
                refine k_push 8 rfl rfl ?_
                refine k_goto 12 rfl rfl ?_
                refine k_fin rfl (fin_Z (Or.inr rfl)) ⟨_, _, rfl, rf_len I5 I5, ?_⟩
                show am_Ok _ _ _ (28, _, [.inl (1 : Int32)], _, 0, 0) _
                refine k_fin rfl (fin_Z (Or.inr rfl)) ⟨_, _, rfl, rf_len I5 I5, ?_⟩
                show am_Ok _ _ _ (62, _, [.inl (1 : Int32)], _, 0, 0) _
                refine k_c1 66 rfl rfl (if_neg (by decide)) ?_
                refine k_aload 67 rfl rfl rfl ?_
                refine k_dup 68 rfl rfl rfl ?_
                refine r_gI I5 71 rfl rfl rfl (fun x743 (e744 : x743.toInt = F0 21) => ?_)
                refine k_push 72 rfl rfl ?_
                obtain ⟨x745, q746⟩ : ∃ q : Int32, q = (x743 + (1 : Int32)) := ⟨_, rfl⟩
                have e747 : x745.toInt = x743.toInt + 1 := by rw [q746, iv_add (by omega) (by omega)]; omega
                refine k_bin x745 73 rfl q746.symm rfl ?_
                refine r_pI I5 76 rfl rfl rfl (fun h748 I749 => ?_)
                refine k_aload 77 rfl rfl rfl ?_
                refine k_rv I749 rfl (m_goes  I749.1 (show 0 ≤ (F0 8) ∧ (F0 8) ≤ (F0 7) ∧ (F0 7) ≤ 700 by omega)) (Nat.ble_eq_true_of_le (by omega)) rfl rfl I749.rc ?_
                rintro h751 F752 A753 I754 ⟨k756, k757, p755⟩
                replace p755 : ((F0 8) ≤ F752 8 ∧ F752 8 ≤ (F0 7)) ∧ (F752 9 = 0 ∨ (F0 8) < F752 8) ∧ (F752 9 = 2 → 0 ≤ F752 11 ∧ F752 11 ≤ 9) ∧ (0 ≤ F752 9 ∧ F752 9 ≤ 4) := p755
                obtain ⟨p755a, p755b, p755c, p755d⟩ := p755
                have k757 := fr2.nil k757
                subst k757
                show am_Ok _ _ _ (80, _, [], _, 0, 0) _
                refine k_aload 81 rfl rfl rfl ?_
                have e758 : F752 7 = F0 7 := k756 7 (by decide)
                have e759 : F752 20 = F0 20 := k756 20 (by decide)
                have e760 : F752 21 = x745.toInt := k756 21 (by decide)
                have e761 : F752 18 = F0 18 := k756 18 (by decide)
                have e762 : F752 23 = F0 23 := k756 23 (by decide)
                refine k_rv I754 rfl (hrec  I754.1 (show 0 ≤ (F752 8) ∧ (F752 8) ≤ (F752 7) ∧ (F752 7) ≤ 700 ∧ 0 ≤ (F752 20) ∧ (F752 20) ≤ 30 ∧ 0 ≤ (F752 21) ∧ (F752 21) ≤ 12 ∧ 0 ≤ (F752 18) ∧ (F752 18) ≤ 12 ∧ 0 ≤ (F752 23) ∧ (F752 23) ≤ 1000000 ∧ ((F752 9) = 2 → 0 ≤ (F752 11) ∧ (F752 11) ≤ 9) ∧ 0 ≤ (F752 9) ∧ (F752 9) ≤ 4 by omega) (show nm ((A0 16)) ((A0 17)) ((F752 18)) by rw [(show A0 16 = A0 16 from rfl), (show A0 17 = A0 17 from rfl), (k756 18 (by decide))]; exact p2) (show (12 - (F752 21)) + (30 - (F752 20)) < (gk : Int) by omega)) (Nat.ble_eq_true_of_le (by omega)) rfl rfl I754.rc ?_
                rintro h764 F765 A766 I767 ⟨k769, k770, p768⟩
                have e771 : F752 6 = F0 6 := k756 6 (by decide)
                replace p768 : ((F752 8) ≤ F765 8 ∧ F765 8 ≤ (F752 7) ∧ (F752 20) ≤ F765 20 ∧ F765 20 ≤ 30 ∧ F765 21 = (F752 21) ∧ (F752 23) ≤ F765 23 ∧ F765 23 ≤ 1000000 ∧ (F765 9 = 2 → 0 ≤ F765 11 ∧ F765 11 ≤ 9) ∧ 0 ≤ F765 9 ∧ F765 9 ≤ 4) ∧ (F765 6 = 0 → F765 20 = (F752 20) ∧ (F752 6) = 0 ∧ (F765 9 = 0 ∨ (F752 8) < F765 8)) ∧ (F765 6 = 0 → F765 23 ≤ 124 → rd1 (A766 22) ((A0 22)) ((F752 23)) (F765 23) ((F752 20))) := p768
                obtain ⟨p768a, p768b, p768c⟩ := p768
                show am_Ok _ _ _ (84, _, [], _, 0, 0) _
                refine k_aload 85 rfl rfl rfl ?_
                refine k_push 87 rfl rfl ?_
                have hc772 : (41 : Int32).toInt = 41 := by decide
                have e773 : F765 7 = F752 7 := k769 7 (by decide)
                refine k_rv I767 rfl (m_must  I767.1 (show 0 ≤ (F765 8) ∧ (F765 8) ≤ (F765 7) ∧ (F765 7) ≤ 700 ∧ ((F765 9) = 2 → 0 ≤ (F765 11) ∧ (F765 11) ≤ 9) ∧ 0 ≤ (F765 9) ∧ (F765 9) ≤ 4 by omega)) (Nat.ble_eq_true_of_le (by omega)) rfl rfl I767.rc ?_
                rintro h775 F776 A777 I778 ⟨k780, k781, p779⟩
                replace p779 : ((F765 8) ≤ F776 8 ∧ F776 8 ≤ (F765 7)) ∧ (F776 6 = 0 → (F765 6) = 0 ∧ (F776 9 = 0 ∨ (F765 8) < F776 8)) ∧ (F776 9 = 2 → 0 ≤ F776 11 ∧ F776 11 ≤ 9) ∧ (0 ≤ F776 9 ∧ F776 9 ≤ 4) := p779
                obtain ⟨p779a, p779b, p779c, p779d⟩ := p779
                have k781 := fr2.nil k781
                subst k781
                show am_Ok _ _ _ (90, _, [], _, 0, 0) _
                refine k_aload 91 rfl rfl rfl ?_
                refine k_dup 92 rfl rfl rfl ?_
                refine r_gI I778 95 rfl rfl rfl (fun x782 (e783 : x782.toInt = F776 21) => ?_)
                have e784 : F776 21 = F765 21 := k780 21 (by decide)
                refine k_push 96 rfl rfl ?_
                obtain ⟨x785, q786⟩ : ∃ q : Int32, q = (x782 - (1 : Int32)) := ⟨_, rfl⟩
                have e787 : x785.toInt = x782.toInt - 1 := by rw [q786, iv_sub (by omega) (by omega)]; omega
                refine k_bin x785 97 rfl q786.symm rfl ?_
                refine r_pI I778 100 rfl rfl rfl (fun h788 I789 => ?_)
                have e790 : F776 20 = F765 20 := k780 20 (by decide)
                have e791 : F776 23 = F765 23 := k780 23 (by decide)
                exact k_fin rfl rfl ⟨_, _, _, rfl, I789, (fr1.up (by decide) (fr1.tr (by decide) (fr1.tr (by decide) (fr1.tr (by decide) (fr1.up (by decide) fr1.rf) k756) k769) k780)), (fr2.tr (by decide) fr2.rf k770), ⟨(show (F0 8 ≤ F776 8 ∧ F776 8 ≤ F0 7 ∧ F0 20 ≤ F776 20 ∧ F776 20 ≤ 30 ∧ x785.toInt = F0 21 ∧ F0 23 ≤ F776 23 ∧ F776 23 ≤ 1000000 ∧ (F776 9 = 2 → 0 ≤ F776 11 ∧ F776 11 ≤ 9) ∧ 0 ≤ F776 9 ∧ F776 9 ≤ 4) by omega), (show (F776 6 = 0 → F776 20 = F0 20 ∧ F0 6 = 0 ∧ (F776 9 = 0 ∨ F0 8 < F776 8)) by omega), fun z1 z2 => by have z8 : F776 6 = 0 := z1; have z9 : F776 23 ≤ 124 := z2; have h9 := p768c (by omega) (by omega); show rd1 (A766 22) (A0 22) (F0 23) (F776 23) (F0 20); exact rd_cg h9 (by omega) (by omega) (by omega)⟩⟩
              · refine k_c1 11 rfl rfl (if_neg b742) ?_
                have b742 := mt iv_eq0.mpr b742
                refine k_push 12 rfl rfl ?_
                refine k_fin rfl (fin_Z (Or.inl rfl)) ⟨_, _, rfl, rf_len I5 I5, ?_⟩
                show am_Ok _ _ _ (28, _, [.inl (0 : Int32)], _, 0, 0) _
                refine k_fin rfl (fin_Z (Or.inl rfl)) ⟨_, _, rfl, rf_len I5 I5, ?_⟩
                show am_Ok _ _ _ (62, _, [.inl (0 : Int32)], _, 0, 0) _
                refine k_c1 65 rfl rfl (if_pos (by decide)) ?_
                exact k_fin rfl rfl ⟨_, _, _, rfl, I5, fr1.rf, fr2.rf, ⟨(show (F0 8 ≤ F0 8 ∧ F0 8 ≤ F0 7 ∧ F0 20 ≤ F0 20 ∧ F0 20 ≤ 30 ∧ F0 21 = F0 21 ∧ F0 23 ≤ F0 23 ∧ F0 23 ≤ 1000000 ∧ (F0 9 = 2 → 0 ≤ F0 11 ∧ F0 11 ≤ 9) ∧ 0 ≤ F0 9 ∧ F0 9 ≤ 4) by omega), (show (F0 6 = 0 → F0 20 = F0 20 ∧ F0 6 = 0 ∧ (F0 9 = 0 ∨ F0 8 < F0 8)) by omega), fun z => absurd (show F0 6 = 0 from z) (by omega)⟩⟩
    · refine k_c1 11 rfl rfl (if_neg b540) ?_
      have b540 := mt iv_eq0.mpr b540
      refine k_push 12 rfl rfl ?_
      refine k_fin rfl (fin_Z (Or.inl rfl)) ⟨_, _, rfl, rf_len I5 I5, ?_⟩
      show am_Ok _ _ _ (28, _, [.inl (0 : Int32)], _, 0, 0) _
      refine k_fin rfl (fin_Z (Or.inl rfl)) ⟨_, _, rfl, rf_len I5 I5, ?_⟩
      show am_Ok _ _ _ (9, _, [.inl (0 : Int32)], _, 0, 0) _
      refine k_c1 12 rfl rfl (if_pos (by decide)) ?_
      exact k_fin rfl rfl ⟨_, _, _, rfl, I5, fr1.rf, fr2.rf, ⟨(show (F0 8 ≤ F0 8 ∧ F0 8 ≤ F0 7 ∧ F0 20 ≤ F0 20 ∧ F0 20 ≤ 30 ∧ F0 21 = F0 21 ∧ F0 23 ≤ F0 23 ∧ F0 23 ≤ 1000000 ∧ (F0 9 = 2 → 0 ≤ F0 11 ∧ F0 11 ≤ 9) ∧ 0 ≤ F0 9 ∧ F0 9 ≤ 4) by omega), (show (F0 6 = 0 → F0 20 = F0 20 ∧ F0 6 = 0 ∧ (F0 9 = 0 ∨ F0 8 < F0 8)) by omega), fun z => absurd (show F0 6 = 0 from z) (by omega)⟩⟩
end
