section
theorem m_portsOf {h0 : am_h} {F0 : rf_f} {A0 : rf_A} {w1 : Int32}  (hR : rf_R h0 F0 A0)  : am_Mt 1 188 [.inl w1] h0 (rf_Q h0 (fun x F' A' => fr1 [] F0 F' ∧ fr2 [] A0 A' ∧ (x = pr w1.toInt))) := by
  refine am_Mt.of (D := 0) ?_
  have hI : rf_I h0 h0 F0 A0 := rf_I.start hR
  refine k_iload 1 rfl rfl rfl ?_
  by_cases b1 : w1.toInt < 0 ∨ 6 < w1.toInt
  · refine k_sw 48 rfl (if_pos b1) ?_
    refine k_push 49 rfl rfl ?_
    have hc2 : (3 : Int32).toInt = 3 := by decide
    exact k_fin rfl rfl ⟨_, _, _, _, rfl, hI, fr1.rf, fr2.rf, show (3 : Int32).toInt = pr w1.toInt from (by unfold pr; (repeat' split) <;> omega)⟩
  · have b1 : w1.toInt = 0 ∨ w1.toInt = 1 ∨ w1.toInt = 2 ∨ w1.toInt = 3 ∨ w1.toInt = 4 ∨ w1.toInt = 5 ∨ w1.toInt = 6 := by omega
    rcases b1 with b1 | b1 | b1 | b1 | b1 | b1 | b1
    · refine k_sw 44 rfl (by unfold am_tb; rw [b1]; decide) ?_
      refine k_push 45 rfl rfl ?_
      have hc3 : (1 : Int32).toInt = 1 := by decide
      exact k_fin rfl rfl ⟨_, _, _, _, rfl, hI, fr1.rf, fr2.rf, show (1 : Int32).toInt = pr w1.toInt from (by unfold pr; (repeat' split) <;> omega)⟩
    · refine k_sw 48 rfl (by unfold am_tb; rw [b1]; decide) ?_
      refine k_push 49 rfl rfl ?_
      have hc4 : (3 : Int32).toInt = 3 := by decide
      exact k_fin rfl rfl ⟨_, _, _, _, rfl, hI, fr1.rf, fr2.rf, show (3 : Int32).toInt = pr w1.toInt from (by unfold pr; (repeat' split) <;> omega)⟩
    · refine k_sw 48 rfl (by unfold am_tb; rw [b1]; decide) ?_
      refine k_push 49 rfl rfl ?_
      have hc5 : (3 : Int32).toInt = 3 := by decide
      exact k_fin rfl rfl ⟨_, _, _, _, rfl, hI, fr1.rf, fr2.rf, show (3 : Int32).toInt = pr w1.toInt from (by unfold pr; (repeat' split) <;> omega)⟩
    · refine k_sw 48 rfl (by unfold am_tb; rw [b1]; decide) ?_
      refine k_push 49 rfl rfl ?_
      have hc6 : (3 : Int32).toInt = 3 := by decide
      exact k_fin rfl rfl ⟨_, _, _, _, rfl, hI, fr1.rf, fr2.rf, show (3 : Int32).toInt = pr w1.toInt from (by unfold pr; (repeat' split) <;> omega)⟩
    · refine k_sw 46 rfl (by unfold am_tb; rw [b1]; decide) ?_
      refine k_push 47 rfl rfl ?_
      have hc7 : (2 : Int32).toInt = 2 := by decide
      exact k_fin rfl rfl ⟨_, _, _, _, rfl, hI, fr1.rf, fr2.rf, show (2 : Int32).toInt = pr w1.toInt from (by unfold pr; (repeat' split) <;> omega)⟩
    · refine k_sw 46 rfl (by unfold am_tb; rw [b1]; decide) ?_
      refine k_push 47 rfl rfl ?_
      have hc8 : (2 : Int32).toInt = 2 := by decide
      exact k_fin rfl rfl ⟨_, _, _, _, rfl, hI, fr1.rf, fr2.rf, show (2 : Int32).toInt = pr w1.toInt from (by unfold pr; (repeat' split) <;> omega)⟩
    · refine k_sw 44 rfl (by unfold am_tb; rw [b1]; decide) ?_
      refine k_push 45 rfl rfl ?_
      have hc9 : (1 : Int32).toInt = 1 := by decide
      exact k_fin rfl rfl ⟨_, _, _, _, rfl, hI, fr1.rf, fr2.rf, show (1 : Int32).toInt = pr w1.toInt from (by unfold pr; (repeat' split) <;> omega)⟩
theorem m_kindOf {h0 : am_h} {F0 : rf_f} {A0 : rf_A} {w1 : Int32} {w2 : Int32}  (hR : rf_R h0 F0 A0) (p1 : 0 ≤ w1.toInt ∧ w1.toInt < 8000 ∧ 0 ≤ w2.toInt ∧ w2.toInt < 8000) : am_Mt 2 209 [.inr (.inr (some 81)), .inl w1, .inl w2] h0 (rf_Q h0 (fun x F' A' => fr1 [] F0 F' ∧ fr2 [] A0 A' ∧ (x = -2 ∨ (x = 5 ∧ (A0 24 w1.toInt = 6 ∨ A0 24 w2.toInt = 6)) ∨ (A0 24 w1.toInt ≠ 6 ∧ A0 24 w2.toInt ≠ 6 ∧ ((x = 1 ∧ A0 25 w1.toInt = A0 25 w2.toInt ∧ ((A0 24 w1.toInt = 1 ∧ A0 24 w2.toInt = 2) ∨ (A0 24 w1.toInt = 2 ∧ A0 24 w2.toInt = 1))) ∨ (x = 2 ∧ A0 25 w1.toInt = A0 25 w2.toInt ∧ A0 24 w1.toInt = A0 24 w2.toInt ∧ 3 ≤ A0 24 w1.toInt ∧ A0 24 w1.toInt ≤ 5) ∨ ((x = 3 ∨ x = 4) ∧ ((A0 25 w1.toInt < A0 25 w2.toInt ∧ 3 ≤ A0 24 w1.toInt ∧ A0 24 w1.toInt ≤ 5) ∨ (A0 25 w2.toInt < A0 25 w1.toInt ∧ 3 ≤ A0 24 w2.toInt ∧ A0 24 w2.toInt ≤ 5)))))))) := by
  refine am_Mt.of (D := 1) ?_
  have hI : rf_I h0 h0 F0 A0 := rf_I.start hR
  refine k_aload 1 rfl rfl rfl ?_
  refine r_gA hI 4 rfl rfl rfl ?_
  refine k_iload 5 rfl rfl rfl ?_
  refine r_ld 24 hI 6 rfl rfl (by omega) (show w1.toInt < 8010 by omega) rfl (fun x1 (e2 : x1.toInt = A0 24 w1.toInt) => ?_)
  refine k_push 8 rfl rfl ?_
  have hc3 : (6 : Int32).toInt = 6 := by decide
  by_cases b4 : x1 = (6 : Int32)
  · refine k_c2 22 rfl rfl (if_pos b4) ?_
    have b4 := iv_eq.mp b4
    refine k_push 23 rfl rfl ?_
    have hc5 : (5 : Int32).toInt = 5 := by decide
    exact k_fin rfl rfl ⟨_, _, _, _, rfl, hI, fr1.rf, fr2.rf, show (5 : Int32).toInt = -2 ∨ ((5 : Int32).toInt = 5 ∧ (A0 24 w1.toInt = 6 ∨ A0 24 w2.toInt = 6)) ∨ (A0 24 w1.toInt ≠ 6 ∧ A0 24 w2.toInt ≠ 6 ∧ (((5 : Int32).toInt = 1 ∧ A0 25 w1.toInt = A0 25 w2.toInt ∧ ((A0 24 w1.toInt = 1 ∧ A0 24 w2.toInt = 2) ∨ (A0 24 w1.toInt = 2 ∧ A0 24 w2.toInt = 1))) ∨ ((5 : Int32).toInt = 2 ∧ A0 25 w1.toInt = A0 25 w2.toInt ∧ A0 24 w1.toInt = A0 24 w2.toInt ∧ 3 ≤ A0 24 w1.toInt ∧ A0 24 w1.toInt ≤ 5) ∨ (((5 : Int32).toInt = 3 ∨ (5 : Int32).toInt = 4) ∧ ((A0 25 w1.toInt < A0 25 w2.toInt ∧ 3 ≤ A0 24 w1.toInt ∧ A0 24 w1.toInt ≤ 5) ∨ (A0 25 w2.toInt < A0 25 w1.toInt ∧ 3 ≤ A0 24 w2.toInt ∧ A0 24 w2.toInt ≤ 5))))) by omega⟩
  · refine k_c2 11 rfl rfl (if_neg b4) ?_
    have b4 := mt iv_eq.mpr b4
    refine k_aload 12 rfl rfl rfl ?_
    refine r_gA hI 15 rfl rfl rfl ?_
    refine k_iload 16 rfl rfl rfl ?_
    refine r_ld 24 hI 17 rfl rfl (by omega) (show w2.toInt < 8010 by omega) rfl (fun x6 (e7 : x6.toInt = A0 24 w2.toInt) => ?_)
    refine k_push 19 rfl rfl ?_
    by_cases b8 : x6 = (6 : Int32)
    · refine k_c2 22 rfl rfl (if_pos b8) ?_
      have b8 := iv_eq.mp b8
      refine k_push 23 rfl rfl ?_
      have hc9 : (5 : Int32).toInt = 5 := by decide
      exact k_fin rfl rfl ⟨_, _, _, _, rfl, hI, fr1.rf, fr2.rf, show (5 : Int32).toInt = -2 ∨ ((5 : Int32).toInt = 5 ∧ (A0 24 w1.toInt = 6 ∨ A0 24 w2.toInt = 6)) ∨ (A0 24 w1.toInt ≠ 6 ∧ A0 24 w2.toInt ≠ 6 ∧ (((5 : Int32).toInt = 1 ∧ A0 25 w1.toInt = A0 25 w2.toInt ∧ ((A0 24 w1.toInt = 1 ∧ A0 24 w2.toInt = 2) ∨ (A0 24 w1.toInt = 2 ∧ A0 24 w2.toInt = 1))) ∨ ((5 : Int32).toInt = 2 ∧ A0 25 w1.toInt = A0 25 w2.toInt ∧ A0 24 w1.toInt = A0 24 w2.toInt ∧ 3 ≤ A0 24 w1.toInt ∧ A0 24 w1.toInt ≤ 5) ∨ (((5 : Int32).toInt = 3 ∨ (5 : Int32).toInt = 4) ∧ ((A0 25 w1.toInt < A0 25 w2.toInt ∧ 3 ≤ A0 24 w1.toInt ∧ A0 24 w1.toInt ≤ 5) ∨ (A0 25 w2.toInt < A0 25 w1.toInt ∧ 3 ≤ A0 24 w2.toInt ∧ A0 24 w2.toInt ≤ 5))))) by omega⟩
    · refine k_c2 24 rfl rfl (if_neg b8) ?_
      have b8 := mt iv_eq.mpr b8
      refine k_aload 25 rfl rfl rfl ?_
      refine r_gA hI 28 rfl rfl rfl ?_
      refine k_iload 29 rfl rfl rfl ?_
      refine r_ld 25 hI 30 rfl rfl (by omega) (show w1.toInt < 8010 by omega) rfl (fun x10 (e11 : x10.toInt = A0 25 w1.toInt) => ?_)
      refine k_aload 31 rfl rfl rfl ?_
      refine r_gA hI 34 rfl rfl rfl ?_
      refine k_iload 35 rfl rfl rfl ?_
      refine r_ld 25 hI 36 rfl rfl (by omega) (show w2.toInt < 8010 by omega) rfl (fun x12 (e13 : x12.toInt = A0 25 w2.toInt) => ?_)
      by_cases b14 : x10 = x12
      · refine k_c2 39 rfl rfl (if_pos b14) ?_
        have b14 := iv_eq.mp b14
        refine k_aload 40 rfl rfl rfl ?_
        refine r_gA hI 43 rfl rfl rfl ?_
        refine k_iload 44 rfl rfl rfl ?_
        refine r_ld 24 hI 45 rfl rfl (by omega) (show w1.toInt < 8010 by omega) rfl (fun x15 (e16 : x15.toInt = A0 24 w1.toInt) => ?_)
        refine k_push 46 rfl rfl ?_
        have hc17 : (1 : Int32).toInt = 1 := by decide
        by_cases b18 : x15 = (1 : Int32)
        · refine k_c2 49 rfl rfl (if_pos b18) ?_
          have b18 := iv_eq.mp b18
          refine k_aload 50 rfl rfl rfl ?_
          refine r_gA hI 53 rfl rfl rfl ?_
          refine k_iload 54 rfl rfl rfl ?_
          refine r_ld 24 hI 55 rfl rfl (by omega) (show w2.toInt < 8010 by omega) rfl (fun x19 (e20 : x19.toInt = A0 24 w2.toInt) => ?_)
          refine k_push 56 rfl rfl ?_
          have hc21 : (2 : Int32).toInt = 2 := by decide
          by_cases b22 : x19 = (2 : Int32)
          · refine k_c2 79 rfl rfl (if_pos b22) ?_
            have b22 := iv_eq.mp b22
            refine k_push 80 rfl rfl ?_
            refine k_goto 84 rfl rfl ?_
            refine k_istore 85 rfl rfl ?_
            refine k_iload 86 rfl gs_eq rfl ?_
            refine k_c1 89 rfl rfl (if_neg (by decide)) ?_
            refine k_push 90 rfl rfl ?_
            refine k_goto 126 rfl rfl ?_
            exact k_fin rfl rfl ⟨_, _, _, _, rfl, hI, fr1.rf, fr2.rf, show (1 : Int32).toInt = -2 ∨ ((1 : Int32).toInt = 5 ∧ (A0 24 w1.toInt = 6 ∨ A0 24 w2.toInt = 6)) ∨ (A0 24 w1.toInt ≠ 6 ∧ A0 24 w2.toInt ≠ 6 ∧ (((1 : Int32).toInt = 1 ∧ A0 25 w1.toInt = A0 25 w2.toInt ∧ ((A0 24 w1.toInt = 1 ∧ A0 24 w2.toInt = 2) ∨ (A0 24 w1.toInt = 2 ∧ A0 24 w2.toInt = 1))) ∨ ((1 : Int32).toInt = 2 ∧ A0 25 w1.toInt = A0 25 w2.toInt ∧ A0 24 w1.toInt = A0 24 w2.toInt ∧ 3 ≤ A0 24 w1.toInt ∧ A0 24 w1.toInt ≤ 5) ∨ (((1 : Int32).toInt = 3 ∨ (1 : Int32).toInt = 4) ∧ ((A0 25 w1.toInt < A0 25 w2.toInt ∧ 3 ≤ A0 24 w1.toInt ∧ A0 24 w1.toInt ≤ 5) ∨ (A0 25 w2.toInt < A0 25 w1.toInt ∧ 3 ≤ A0 24 w2.toInt ∧ A0 24 w2.toInt ≤ 5))))) by omega⟩
          · refine k_c2 59 rfl rfl (if_neg b22) ?_
            have b22 := mt iv_eq.mpr b22
            refine k_aload 60 rfl rfl rfl ?_
            refine r_gA hI 63 rfl rfl rfl ?_
            refine k_iload 64 rfl rfl rfl ?_
            refine r_ld 24 hI 65 rfl rfl (by omega) (show w1.toInt < 8010 by omega) rfl (fun x23 (e24 : x23.toInt = A0 24 w1.toInt) => ?_)
            refine k_push 66 rfl rfl ?_
            by_cases b25 : x23 = (2 : Int32)
            · refine k_c2 69 rfl rfl (if_pos b25) ?_
              have b25 := iv_eq.mp b25
              refine k_aload 70 rfl rfl rfl ?_
              refine r_gA hI 73 rfl rfl rfl ?_
              refine k_iload 74 rfl rfl rfl ?_
              refine r_ld 24 hI 75 rfl rfl (by omega) (show w2.toInt < 8010 by omega) rfl (fun x26 (e27 : x26.toInt = A0 24 w2.toInt) => ?_)
              refine k_push 76 rfl rfl ?_
              by_cases b28 : x26 = (1 : Int32)
              · refine k_c2 79 rfl rfl (if_pos b28) ?_
                have b28 := iv_eq.mp b28
                refine k_push 80 rfl rfl ?_
                refine k_goto 84 rfl rfl ?_
                refine k_istore 85 rfl rfl ?_
                refine k_iload 86 rfl gs_eq rfl ?_
                refine k_c1 89 rfl rfl (if_neg (by decide)) ?_
                refine k_push 90 rfl rfl ?_
                refine k_goto 126 rfl rfl ?_
                exact k_fin rfl rfl ⟨_, _, _, _, rfl, hI, fr1.rf, fr2.rf, show (1 : Int32).toInt = -2 ∨ ((1 : Int32).toInt = 5 ∧ (A0 24 w1.toInt = 6 ∨ A0 24 w2.toInt = 6)) ∨ (A0 24 w1.toInt ≠ 6 ∧ A0 24 w2.toInt ≠ 6 ∧ (((1 : Int32).toInt = 1 ∧ A0 25 w1.toInt = A0 25 w2.toInt ∧ ((A0 24 w1.toInt = 1 ∧ A0 24 w2.toInt = 2) ∨ (A0 24 w1.toInt = 2 ∧ A0 24 w2.toInt = 1))) ∨ ((1 : Int32).toInt = 2 ∧ A0 25 w1.toInt = A0 25 w2.toInt ∧ A0 24 w1.toInt = A0 24 w2.toInt ∧ 3 ≤ A0 24 w1.toInt ∧ A0 24 w1.toInt ≤ 5) ∨ (((1 : Int32).toInt = 3 ∨ (1 : Int32).toInt = 4) ∧ ((A0 25 w1.toInt < A0 25 w2.toInt ∧ 3 ≤ A0 24 w1.toInt ∧ A0 24 w1.toInt ≤ 5) ∨ (A0 25 w2.toInt < A0 25 w1.toInt ∧ 3 ≤ A0 24 w2.toInt ∧ A0 24 w2.toInt ≤ 5))))) by omega⟩
              · refine k_c2 83 rfl rfl (if_neg b28) ?_
                have b28 := mt iv_eq.mpr b28
                refine k_push 84 rfl rfl ?_
                have hc29 : (0 : Int32).toInt = 0 := by decide
                refine k_istore 85 rfl rfl ?_
                refine k_iload 86 rfl gs_eq rfl ?_
                refine k_c1 93 rfl rfl (if_pos (by decide)) ?_
                refine k_aload 94 rfl (gs_ne rfl rfl rfl) rfl ?_
                refine r_gA hI 97 rfl rfl rfl ?_
                refine k_iload 98 rfl (gs_ne rfl rfl rfl) rfl ?_
                refine r_ld 24 hI 99 rfl rfl (by omega) (show w1.toInt < 8010 by omega) rfl (fun x30 (e31 : x30.toInt = A0 24 w1.toInt) => ?_)
                refine k_aload 100 rfl (gs_ne rfl rfl rfl) rfl ?_
                refine r_gA hI 103 rfl rfl rfl ?_
                refine k_iload 104 rfl (gs_ne rfl rfl rfl) rfl ?_
                refine r_ld 24 hI 105 rfl rfl (by omega) (show w2.toInt < 8010 by omega) rfl (fun x32 (e33 : x32.toInt = A0 24 w2.toInt) => ?_)
                by_cases b34 : x30 = x32
                · refine k_c2 108 rfl rfl (if_pos b34) ?_
                  have b34 := iv_eq.mp b34
                  refine k_aload 109 rfl (gs_ne rfl rfl rfl) rfl ?_
                  refine r_gA hI 112 rfl rfl rfl ?_
                  refine k_iload 113 rfl (gs_ne rfl rfl rfl) rfl ?_
                  refine r_ld 24 hI 114 rfl rfl (by omega) (show w1.toInt < 8010 by omega) rfl (fun x35 (e36 : x35.toInt = A0 24 w1.toInt) => ?_)
                  refine k_in (d := 0) rfl rfl rfl rfl rfl ?_
                  refine k_iload 1 rfl rfl rfl ?_
                  refine k_push 2 rfl rfl ?_
                  have hc37 : (3 : Int32).toInt = 3 := by decide
                  by_cases b38 : x35 = (3 : Int32)
                  · refine k_c2 15 rfl rfl (if_pos b38) ?_
                    have b38 := iv_eq.mp b38
                    refine k_push 16 rfl rfl ?_
                    refine k_goto 20 rfl rfl ?_
                    refine k_fin rfl (fin_Z (Or.inr rfl)) ⟨_, _, rfl, rf_len hI hI, ?_⟩
                    show am_Ok _ _ _ (117, _, [.inl (1 : Int32)], _, 0, 0) _
                    refine k_c1 120 rfl rfl (if_neg (by decide)) ?_
                    refine k_push 121 rfl rfl ?_
                    refine k_goto 126 rfl rfl ?_
                    exact k_fin rfl rfl ⟨_, _, _, _, rfl, hI, fr1.rf, fr2.rf, show (2 : Int32).toInt = -2 ∨ ((2 : Int32).toInt = 5 ∧ (A0 24 w1.toInt = 6 ∨ A0 24 w2.toInt = 6)) ∨ (A0 24 w1.toInt ≠ 6 ∧ A0 24 w2.toInt ≠ 6 ∧ (((2 : Int32).toInt = 1 ∧ A0 25 w1.toInt = A0 25 w2.toInt ∧ ((A0 24 w1.toInt = 1 ∧ A0 24 w2.toInt = 2) ∨ (A0 24 w1.toInt = 2 ∧ A0 24 w2.toInt = 1))) ∨ ((2 : Int32).toInt = 2 ∧ A0 25 w1.toInt = A0 25 w2.toInt ∧ A0 24 w1.toInt = A0 24 w2.toInt ∧ 3 ≤ A0 24 w1.toInt ∧ A0 24 w1.toInt ≤ 5) ∨ (((2 : Int32).toInt = 3 ∨ (2 : Int32).toInt = 4) ∧ ((A0 25 w1.toInt < A0 25 w2.toInt ∧ 3 ≤ A0 24 w1.toInt ∧ A0 24 w1.toInt ≤ 5) ∨ (A0 25 w2.toInt < A0 25 w1.toInt ∧ 3 ≤ A0 24 w2.toInt ∧ A0 24 w2.toInt ≤ 5))))) by omega⟩
                  · refine k_c2 5 rfl rfl (if_neg b38) ?_
                    have b38 := mt iv_eq.mpr b38
                    refine k_iload 6 rfl rfl rfl ?_
                    refine k_push 7 rfl rfl ?_
                    have hc39 : (4 : Int32).toInt = 4 := by decide
                    by_cases b40 : x35 = (4 : Int32)
                    · refine k_c2 15 rfl rfl (if_pos b40) ?_
                      have b40 := iv_eq.mp b40
                      refine k_push 16 rfl rfl ?_
                      refine k_goto 20 rfl rfl ?_
                      refine k_fin rfl (fin_Z (Or.inr rfl)) ⟨_, _, rfl, rf_len hI hI, ?_⟩
                      show am_Ok _ _ _ (117, _, [.inl (1 : Int32)], _, 0, 0) _
                      refine k_c1 120 rfl rfl (if_neg (by decide)) ?_
                      refine k_push 121 rfl rfl ?_
                      refine k_goto 126 rfl rfl ?_
                      exact k_fin rfl rfl ⟨_, _, _, _, rfl, hI, fr1.rf, fr2.rf, show (2 : Int32).toInt = -2 ∨ ((2 : Int32).toInt = 5 ∧ (A0 24 w1.toInt = 6 ∨ A0 24 w2.toInt = 6)) ∨ (A0 24 w1.toInt ≠ 6 ∧ A0 24 w2.toInt ≠ 6 ∧ (((2 : Int32).toInt = 1 ∧ A0 25 w1.toInt = A0 25 w2.toInt ∧ ((A0 24 w1.toInt = 1 ∧ A0 24 w2.toInt = 2) ∨ (A0 24 w1.toInt = 2 ∧ A0 24 w2.toInt = 1))) ∨ ((2 : Int32).toInt = 2 ∧ A0 25 w1.toInt = A0 25 w2.toInt ∧ A0 24 w1.toInt = A0 24 w2.toInt ∧ 3 ≤ A0 24 w1.toInt ∧ A0 24 w1.toInt ≤ 5) ∨ (((2 : Int32).toInt = 3 ∨ (2 : Int32).toInt = 4) ∧ ((A0 25 w1.toInt < A0 25 w2.toInt ∧ 3 ≤ A0 24 w1.toInt ∧ A0 24 w1.toInt ≤ 5) ∨ (A0 25 w2.toInt < A0 25 w1.toInt ∧ 3 ≤ A0 24 w2.toInt ∧ A0 24 w2.toInt ≤ 5))))) by omega⟩
                    · refine k_c2 10 rfl rfl (if_neg b40) ?_
                      have b40 := mt iv_eq.mpr b40
                      refine k_iload 11 rfl rfl rfl ?_
                      refine k_push 12 rfl rfl ?_
                      have hc41 : (5 : Int32).toInt = 5 := by decide
                      by_cases b42 : x35 = (5 : Int32)
                      · refine k_c2 15 rfl rfl (if_pos b42) ?_
                        have b42 := iv_eq.mp b42
                        refine k_push 16 rfl rfl ?_
                        refine k_goto 20 rfl rfl ?_
                        refine k_fin rfl (fin_Z (Or.inr rfl)) ⟨_, _, rfl, rf_len hI hI, ?_⟩
                        show am_Ok _ _ _ (117, _, [.inl (1 : Int32)], _, 0, 0) _
                        refine k_c1 120 rfl rfl (if_neg (by decide)) ?_
                        refine k_push 121 rfl rfl ?_
                        refine k_goto 126 rfl rfl ?_
                        exact k_fin rfl rfl ⟨_, _, _, _, rfl, hI, fr1.rf, fr2.rf, show (2 : Int32).toInt = -2 ∨ ((2 : Int32).toInt = 5 ∧ (A0 24 w1.toInt = 6 ∨ A0 24 w2.toInt = 6)) ∨ (A0 24 w1.toInt ≠ 6 ∧ A0 24 w2.toInt ≠ 6 ∧ (((2 : Int32).toInt = 1 ∧ A0 25 w1.toInt = A0 25 w2.toInt ∧ ((A0 24 w1.toInt = 1 ∧ A0 24 w2.toInt = 2) ∨ (A0 24 w1.toInt = 2 ∧ A0 24 w2.toInt = 1))) ∨ ((2 : Int32).toInt = 2 ∧ A0 25 w1.toInt = A0 25 w2.toInt ∧ A0 24 w1.toInt = A0 24 w2.toInt ∧ 3 ≤ A0 24 w1.toInt ∧ A0 24 w1.toInt ≤ 5) ∨ (((2 : Int32).toInt = 3 ∨ (2 : Int32).toInt = 4) ∧ ((A0 25 w1.toInt < A0 25 w2.toInt ∧ 3 ≤ A0 24 w1.toInt ∧ A0 24 w1.toInt ≤ 5) ∨ (A0 25 w2.toInt < A0 25 w1.toInt ∧ 3 ≤ A0 24 w2.toInt ∧ A0 24 w2.toInt ≤ 5))))) by omega⟩
                      · refine k_c2 19 rfl rfl (if_neg b42) ?_
                        have b42 := mt iv_eq.mpr b42
                        refine k_push 20 rfl rfl ?_
                        refine k_fin rfl (fin_Z (Or.inl rfl)) ⟨_, _, rfl, rf_len hI hI, ?_⟩
                        show am_Ok _ _ _ (117, _, [.inl (0 : Int32)], _, 0, 0) _
                        refine k_c1 124 rfl rfl (if_pos (by decide)) ?_
                        refine k_push 126 rfl rfl ?_
                        have hc43 : (-2 : Int32).toInt = -2 := by decide
                        exact k_fin rfl rfl ⟨_, _, _, _, rfl, hI, fr1.rf, fr2.rf, show (-2 : Int32).toInt = -2 ∨ ((-2 : Int32).toInt = 5 ∧ (A0 24 w1.toInt = 6 ∨ A0 24 w2.toInt = 6)) ∨ (A0 24 w1.toInt ≠ 6 ∧ A0 24 w2.toInt ≠ 6 ∧ (((-2 : Int32).toInt = 1 ∧ A0 25 w1.toInt = A0 25 w2.toInt ∧ ((A0 24 w1.toInt = 1 ∧ A0 24 w2.toInt = 2) ∨ (A0 24 w1.toInt = 2 ∧ A0 24 w2.toInt = 1))) ∨ ((-2 : Int32).toInt = 2 ∧ A0 25 w1.toInt = A0 25 w2.toInt ∧ A0 24 w1.toInt = A0 24 w2.toInt ∧ 3 ≤ A0 24 w1.toInt ∧ A0 24 w1.toInt ≤ 5) ∨ (((-2 : Int32).toInt = 3 ∨ (-2 : Int32).toInt = 4) ∧ ((A0 25 w1.toInt < A0 25 w2.toInt ∧ 3 ≤ A0 24 w1.toInt ∧ A0 24 w1.toInt ≤ 5) ∨ (A0 25 w2.toInt < A0 25 w1.toInt ∧ 3 ≤ A0 24 w2.toInt ∧ A0 24 w2.toInt ≤ 5))))) by omega⟩
                · refine k_c2 124 rfl rfl (if_neg b34) ?_
                  have b34 := mt iv_eq.mpr b34
                  refine k_push 126 rfl rfl ?_
                  have hc44 : (-2 : Int32).toInt = -2 := by decide
                  exact k_fin rfl rfl ⟨_, _, _, _, rfl, hI, fr1.rf, fr2.rf, show (-2 : Int32).toInt = -2 ∨ ((-2 : Int32).toInt = 5 ∧ (A0 24 w1.toInt = 6 ∨ A0 24 w2.toInt = 6)) ∨ (A0 24 w1.toInt ≠ 6 ∧ A0 24 w2.toInt ≠ 6 ∧ (((-2 : Int32).toInt = 1 ∧ A0 25 w1.toInt = A0 25 w2.toInt ∧ ((A0 24 w1.toInt = 1 ∧ A0 24 w2.toInt = 2) ∨ (A0 24 w1.toInt = 2 ∧ A0 24 w2.toInt = 1))) ∨ ((-2 : Int32).toInt = 2 ∧ A0 25 w1.toInt = A0 25 w2.toInt ∧ A0 24 w1.toInt = A0 24 w2.toInt ∧ 3 ≤ A0 24 w1.toInt ∧ A0 24 w1.toInt ≤ 5) ∨ (((-2 : Int32).toInt = 3 ∨ (-2 : Int32).toInt = 4) ∧ ((A0 25 w1.toInt < A0 25 w2.toInt ∧ 3 ≤ A0 24 w1.toInt ∧ A0 24 w1.toInt ≤ 5) ∨ (A0 25 w2.toInt < A0 25 w1.toInt ∧ 3 ≤ A0 24 w2.toInt ∧ A0 24 w2.toInt ≤ 5))))) by omega⟩
            · refine k_c2 83 rfl rfl (if_neg b25) ?_
              have b25 := mt iv_eq.mpr b25
              refine k_push 84 rfl rfl ?_
              have hc45 : (0 : Int32).toInt = 0 := by decide
              refine k_istore 85 rfl rfl ?_
              refine k_iload 86 rfl gs_eq rfl ?_
              refine k_c1 93 rfl rfl (if_pos (by decide)) ?_
              refine k_aload 94 rfl (gs_ne rfl rfl rfl) rfl ?_
              refine r_gA hI 97 rfl rfl rfl ?_
              refine k_iload 98 rfl (gs_ne rfl rfl rfl) rfl ?_
              refine r_ld 24 hI 99 rfl rfl (by omega) (show w1.toInt < 8010 by omega) rfl (fun x46 (e47 : x46.toInt = A0 24 w1.toInt) => ?_)
              refine k_aload 100 rfl (gs_ne rfl rfl rfl) rfl ?_
              refine r_gA hI 103 rfl rfl rfl ?_
              refine k_iload 104 rfl (gs_ne rfl rfl rfl) rfl ?_
              refine r_ld 24 hI 105 rfl rfl (by omega) (show w2.toInt < 8010 by omega) rfl (fun x48 (e49 : x48.toInt = A0 24 w2.toInt) => ?_)
              by_cases b50 : x46 = x48
              · refine k_c2 108 rfl rfl (if_pos b50) ?_
                have b50 := iv_eq.mp b50
                refine k_aload 109 rfl (gs_ne rfl rfl rfl) rfl ?_
                refine r_gA hI 112 rfl rfl rfl ?_
                refine k_iload 113 rfl (gs_ne rfl rfl rfl) rfl ?_
                refine r_ld 24 hI 114 rfl rfl (by omega) (show w1.toInt < 8010 by omega) rfl (fun x51 (e52 : x51.toInt = A0 24 w1.toInt) => ?_)
                refine k_in (d := 0) rfl rfl rfl rfl rfl ?_
                refine k_iload 1 rfl rfl rfl ?_
                refine k_push 2 rfl rfl ?_
                have hc53 : (3 : Int32).toInt = 3 := by decide
                by_cases b54 : x51 = (3 : Int32)
                · refine k_c2 15 rfl rfl (if_pos b54) ?_
                  have b54 := iv_eq.mp b54
                  refine k_push 16 rfl rfl ?_
                  refine k_goto 20 rfl rfl ?_
                  refine k_fin rfl (fin_Z (Or.inr rfl)) ⟨_, _, rfl, rf_len hI hI, ?_⟩
                  show am_Ok _ _ _ (117, _, [.inl (1 : Int32)], _, 0, 0) _
                  refine k_c1 120 rfl rfl (if_neg (by decide)) ?_
                  refine k_push 121 rfl rfl ?_
                  refine k_goto 126 rfl rfl ?_
                  exact k_fin rfl rfl ⟨_, _, _, _, rfl, hI, fr1.rf, fr2.rf, show (2 : Int32).toInt = -2 ∨ ((2 : Int32).toInt = 5 ∧ (A0 24 w1.toInt = 6 ∨ A0 24 w2.toInt = 6)) ∨ (A0 24 w1.toInt ≠ 6 ∧ A0 24 w2.toInt ≠ 6 ∧ (((2 : Int32).toInt = 1 ∧ A0 25 w1.toInt = A0 25 w2.toInt ∧ ((A0 24 w1.toInt = 1 ∧ A0 24 w2.toInt = 2) ∨ (A0 24 w1.toInt = 2 ∧ A0 24 w2.toInt = 1))) ∨ ((2 : Int32).toInt = 2 ∧ A0 25 w1.toInt = A0 25 w2.toInt ∧ A0 24 w1.toInt = A0 24 w2.toInt ∧ 3 ≤ A0 24 w1.toInt ∧ A0 24 w1.toInt ≤ 5) ∨ (((2 : Int32).toInt = 3 ∨ (2 : Int32).toInt = 4) ∧ ((A0 25 w1.toInt < A0 25 w2.toInt ∧ 3 ≤ A0 24 w1.toInt ∧ A0 24 w1.toInt ≤ 5) ∨ (A0 25 w2.toInt < A0 25 w1.toInt ∧ 3 ≤ A0 24 w2.toInt ∧ A0 24 w2.toInt ≤ 5))))) by omega⟩
                · refine k_c2 5 rfl rfl (if_neg b54) ?_
                  have b54 := mt iv_eq.mpr b54
                  refine k_iload 6 rfl rfl rfl ?_
                  refine k_push 7 rfl rfl ?_
                  have hc55 : (4 : Int32).toInt = 4 := by decide
                  by_cases b56 : x51 = (4 : Int32)
                  · refine k_c2 15 rfl rfl (if_pos b56) ?_
                    have b56 := iv_eq.mp b56
                    refine k_push 16 rfl rfl ?_
                    refine k_goto 20 rfl rfl ?_
                    refine k_fin rfl (fin_Z (Or.inr rfl)) ⟨_, _, rfl, rf_len hI hI, ?_⟩
                    show am_Ok _ _ _ (117, _, [.inl (1 : Int32)], _, 0, 0) _
                    refine k_c1 120 rfl rfl (if_neg (by decide)) ?_
                    refine k_push 121 rfl rfl ?_
                    refine k_goto 126 rfl rfl ?_
                    exact k_fin rfl rfl ⟨_, _, _, _, rfl, hI, fr1.rf, fr2.rf, show (2 : Int32).toInt = -2 ∨ ((2 : Int32).toInt = 5 ∧ (A0 24 w1.toInt = 6 ∨ A0 24 w2.toInt = 6)) ∨ (A0 24 w1.toInt ≠ 6 ∧ A0 24 w2.toInt ≠ 6 ∧ (((2 : Int32).toInt = 1 ∧ A0 25 w1.toInt = A0 25 w2.toInt ∧ ((A0 24 w1.toInt = 1 ∧ A0 24 w2.toInt = 2) ∨ (A0 24 w1.toInt = 2 ∧ A0 24 w2.toInt = 1))) ∨ ((2 : Int32).toInt = 2 ∧ A0 25 w1.toInt = A0 25 w2.toInt ∧ A0 24 w1.toInt = A0 24 w2.toInt ∧ 3 ≤ A0 24 w1.toInt ∧ A0 24 w1.toInt ≤ 5) ∨ (((2 : Int32).toInt = 3 ∨ (2 : Int32).toInt = 4) ∧ ((A0 25 w1.toInt < A0 25 w2.toInt ∧ 3 ≤ A0 24 w1.toInt ∧ A0 24 w1.toInt ≤ 5) ∨ (A0 25 w2.toInt < A0 25 w1.toInt ∧ 3 ≤ A0 24 w2.toInt ∧ A0 24 w2.toInt ≤ 5))))) by omega⟩
                  · refine k_c2 10 rfl rfl (if_neg b56) ?_
                    have b56 := mt iv_eq.mpr b56
                    refine k_iload 11 rfl rfl rfl ?_
                    refine k_push 12 rfl rfl ?_
                    have hc57 : (5 : Int32).toInt = 5 := by decide
                    by_cases b58 : x51 = (5 : Int32)
                    · refine k_c2 15 rfl rfl (if_pos b58) ?_
                      have b58 := iv_eq.mp b58
                      refine k_push 16 rfl rfl ?_
                      refine k_goto 20 rfl rfl ?_
                      refine k_fin rfl (fin_Z (Or.inr rfl)) ⟨_, _, rfl, rf_len hI hI, ?_⟩
                      show am_Ok _ _ _ (117, _, [.inl (1 : Int32)], _, 0, 0) _
                      refine k_c1 120 rfl rfl (if_neg (by decide)) ?_
                      refine k_push 121 rfl rfl ?_
                      refine k_goto 126 rfl rfl ?_
                      exact k_fin rfl rfl ⟨_, _, _, _, rfl, hI, fr1.rf, fr2.rf, show (2 : Int32).toInt = -2 ∨ ((2 : Int32).toInt = 5 ∧ (A0 24 w1.toInt = 6 ∨ A0 24 w2.toInt = 6)) ∨ (A0 24 w1.toInt ≠ 6 ∧ A0 24 w2.toInt ≠ 6 ∧ (((2 : Int32).toInt = 1 ∧ A0 25 w1.toInt = A0 25 w2.toInt ∧ ((A0 24 w1.toInt = 1 ∧ A0 24 w2.toInt = 2) ∨ (A0 24 w1.toInt = 2 ∧ A0 24 w2.toInt = 1))) ∨ ((2 : Int32).toInt = 2 ∧ A0 25 w1.toInt = A0 25 w2.toInt ∧ A0 24 w1.toInt = A0 24 w2.toInt ∧ 3 ≤ A0 24 w1.toInt ∧ A0 24 w1.toInt ≤ 5) ∨ (((2 : Int32).toInt = 3 ∨ (2 : Int32).toInt = 4) ∧ ((A0 25 w1.toInt < A0 25 w2.toInt ∧ 3 ≤ A0 24 w1.toInt ∧ A0 24 w1.toInt ≤ 5) ∨ (A0 25 w2.toInt < A0 25 w1.toInt ∧ 3 ≤ A0 24 w2.toInt ∧ A0 24 w2.toInt ≤ 5))))) by omega⟩
                    · refine k_c2 19 rfl rfl (if_neg b58) ?_
                      have b58 := mt iv_eq.mpr b58
                      refine k_push 20 rfl rfl ?_
                      refine k_fin rfl (fin_Z (Or.inl rfl)) ⟨_, _, rfl, rf_len hI hI, ?_⟩
                      show am_Ok _ _ _ (117, _, [.inl (0 : Int32)], _, 0, 0) _
                      refine k_c1 124 rfl rfl (if_pos (by decide)) ?_
                      refine k_push 126 rfl rfl ?_
                      have hc59 : (-2 : Int32).toInt = -2 := by decide
                      exact k_fin rfl rfl ⟨_, _, _, _, rfl, hI, fr1.rf, fr2.rf, show (-2 : Int32).toInt = -2 ∨ ((-2 : Int32).toInt = 5 ∧ (A0 24 w1.toInt = 6 ∨ A0 24 w2.toInt = 6)) ∨ (A0 24 w1.toInt ≠ 6 ∧ A0 24 w2.toInt ≠ 6 ∧ (((-2 : Int32).toInt = 1 ∧ A0 25 w1.toInt = A0 25 w2.toInt ∧ ((A0 24 w1.toInt = 1 ∧ A0 24 w2.toInt = 2) ∨ (A0 24 w1.toInt = 2 ∧ A0 24 w2.toInt = 1))) ∨ ((-2 : Int32).toInt = 2 ∧ A0 25 w1.toInt = A0 25 w2.toInt ∧ A0 24 w1.toInt = A0 24 w2.toInt ∧ 3 ≤ A0 24 w1.toInt ∧ A0 24 w1.toInt ≤ 5) ∨ (((-2 : Int32).toInt = 3 ∨ (-2 : Int32).toInt = 4) ∧ ((A0 25 w1.toInt < A0 25 w2.toInt ∧ 3 ≤ A0 24 w1.toInt ∧ A0 24 w1.toInt ≤ 5) ∨ (A0 25 w2.toInt < A0 25 w1.toInt ∧ 3 ≤ A0 24 w2.toInt ∧ A0 24 w2.toInt ≤ 5))))) by omega⟩
              · refine k_c2 124 rfl rfl (if_neg b50) ?_
                have b50 := mt iv_eq.mpr b50
                refine k_push 126 rfl rfl ?_
                have hc60 : (-2 : Int32).toInt = -2 := by decide
                exact k_fin rfl rfl ⟨_, _, _, _, rfl, hI, fr1.rf, fr2.rf, show (-2 : Int32).toInt = -2 ∨ ((-2 : Int32).toInt = 5 ∧ (A0 24 w1.toInt = 6 ∨ A0 24 w2.toInt = 6)) ∨ (A0 24 w1.toInt ≠ 6 ∧ A0 24 w2.toInt ≠ 6 ∧ (((-2 : Int32).toInt = 1 ∧ A0 25 w1.toInt = A0 25 w2.toInt ∧ ((A0 24 w1.toInt = 1 ∧ A0 24 w2.toInt = 2) ∨ (A0 24 w1.toInt = 2 ∧ A0 24 w2.toInt = 1))) ∨ ((-2 : Int32).toInt = 2 ∧ A0 25 w1.toInt = A0 25 w2.toInt ∧ A0 24 w1.toInt = A0 24 w2.toInt ∧ 3 ≤ A0 24 w1.toInt ∧ A0 24 w1.toInt ≤ 5) ∨ (((-2 : Int32).toInt = 3 ∨ (-2 : Int32).toInt = 4) ∧ ((A0 25 w1.toInt < A0 25 w2.toInt ∧ 3 ≤ A0 24 w1.toInt ∧ A0 24 w1.toInt ≤ 5) ∨ (A0 25 w2.toInt < A0 25 w1.toInt ∧ 3 ≤ A0 24 w2.toInt ∧ A0 24 w2.toInt ≤ 5))))) by omega⟩
        · refine k_c2 59 rfl rfl (if_neg b18) ?_
          have b18 := mt iv_eq.mpr b18
          refine k_aload 60 rfl rfl rfl ?_
          refine r_gA hI 63 rfl rfl rfl ?_
          refine k_iload 64 rfl rfl rfl ?_
          refine r_ld 24 hI 65 rfl rfl (by omega) (show w1.toInt < 8010 by omega) rfl (fun x61 (e62 : x61.toInt = A0 24 w1.toInt) => ?_)
          refine k_push 66 rfl rfl ?_
          have hc63 : (2 : Int32).toInt = 2 := by decide
          by_cases b64 : x61 = (2 : Int32)
          · refine k_c2 69 rfl rfl (if_pos b64) ?_
            have b64 := iv_eq.mp b64
            refine k_aload 70 rfl rfl rfl ?_
            refine r_gA hI 73 rfl rfl rfl ?_
            refine k_iload 74 rfl rfl rfl ?_
            refine r_ld 24 hI 75 rfl rfl (by omega) (show w2.toInt < 8010 by omega) rfl (fun x65 (e66 : x65.toInt = A0 24 w2.toInt) => ?_)
            refine k_push 76 rfl rfl ?_
            by_cases b67 : x65 = (1 : Int32)
            · refine k_c2 79 rfl rfl (if_pos b67) ?_
              have b67 := iv_eq.mp b67
              refine k_push 80 rfl rfl ?_
              refine k_goto 84 rfl rfl ?_
              refine k_istore 85 rfl rfl ?_
              refine k_iload 86 rfl gs_eq rfl ?_
              refine k_c1 89 rfl rfl (if_neg (by decide)) ?_
              refine k_push 90 rfl rfl ?_
              refine k_goto 126 rfl rfl ?_
              exact k_fin rfl rfl ⟨_, _, _, _, rfl, hI, fr1.rf, fr2.rf, show (1 : Int32).toInt = -2 ∨ ((1 : Int32).toInt = 5 ∧ (A0 24 w1.toInt = 6 ∨ A0 24 w2.toInt = 6)) ∨ (A0 24 w1.toInt ≠ 6 ∧ A0 24 w2.toInt ≠ 6 ∧ (((1 : Int32).toInt = 1 ∧ A0 25 w1.toInt = A0 25 w2.toInt ∧ ((A0 24 w1.toInt = 1 ∧ A0 24 w2.toInt = 2) ∨ (A0 24 w1.toInt = 2 ∧ A0 24 w2.toInt = 1))) ∨ ((1 : Int32).toInt = 2 ∧ A0 25 w1.toInt = A0 25 w2.toInt ∧ A0 24 w1.toInt = A0 24 w2.toInt ∧ 3 ≤ A0 24 w1.toInt ∧ A0 24 w1.toInt ≤ 5) ∨ (((1 : Int32).toInt = 3 ∨ (1 : Int32).toInt = 4) ∧ ((A0 25 w1.toInt < A0 25 w2.toInt ∧ 3 ≤ A0 24 w1.toInt ∧ A0 24 w1.toInt ≤ 5) ∨ (A0 25 w2.toInt < A0 25 w1.toInt ∧ 3 ≤ A0 24 w2.toInt ∧ A0 24 w2.toInt ≤ 5))))) by omega⟩
            · refine k_c2 83 rfl rfl (if_neg b67) ?_
              have b67 := mt iv_eq.mpr b67
              refine k_push 84 rfl rfl ?_
              have hc68 : (0 : Int32).toInt = 0 := by decide
              refine k_istore 85 rfl rfl ?_
              refine k_iload 86 rfl gs_eq rfl ?_
              refine k_c1 93 rfl rfl (if_pos (by decide)) ?_
              refine k_aload 94 rfl (gs_ne rfl rfl rfl) rfl ?_
              refine r_gA hI 97 rfl rfl rfl ?_
              refine k_iload 98 rfl (gs_ne rfl rfl rfl) rfl ?_
              refine r_ld 24 hI 99 rfl rfl (by omega) (show w1.toInt < 8010 by omega) rfl (fun x69 (e70 : x69.toInt = A0 24 w1.toInt) => ?_)
              refine k_aload 100 rfl (gs_ne rfl rfl rfl) rfl ?_
              refine r_gA hI 103 rfl rfl rfl ?_
              refine k_iload 104 rfl (gs_ne rfl rfl rfl) rfl ?_
              refine r_ld 24 hI 105 rfl rfl (by omega) (show w2.toInt < 8010 by omega) rfl (fun x71 (e72 : x71.toInt = A0 24 w2.toInt) => ?_)
              by_cases b73 : x69 = x71
              · refine k_c2 108 rfl rfl (if_pos b73) ?_
                have b73 := iv_eq.mp b73
                refine k_aload 109 rfl (gs_ne rfl rfl rfl) rfl ?_
                refine r_gA hI 112 rfl rfl rfl ?_
                refine k_iload 113 rfl (gs_ne rfl rfl rfl) rfl ?_
                refine r_ld 24 hI 114 rfl rfl (by omega) (show w1.toInt < 8010 by omega) rfl (fun x74 (e75 : x74.toInt = A0 24 w1.toInt) => ?_)
                refine k_in (d := 0) rfl rfl rfl rfl rfl ?_
                refine k_iload 1 rfl rfl rfl ?_
                refine k_push 2 rfl rfl ?_
                have hc76 : (3 : Int32).toInt = 3 := by decide
                by_cases b77 : x74 = (3 : Int32)
                · refine k_c2 15 rfl rfl (if_pos b77) ?_
                  have b77 := iv_eq.mp b77
                  refine k_push 16 rfl rfl ?_
                  refine k_goto 20 rfl rfl ?_
                  refine k_fin rfl (fin_Z (Or.inr rfl)) ⟨_, _, rfl, rf_len hI hI, ?_⟩
                  show am_Ok _ _ _ (117, _, [.inl (1 : Int32)], _, 0, 0) _
                  refine k_c1 120 rfl rfl (if_neg (by decide)) ?_
                  refine k_push 121 rfl rfl ?_
                  refine k_goto 126 rfl rfl ?_
                  exact k_fin rfl rfl ⟨_, _, _, _, rfl, hI, fr1.rf, fr2.rf, show (2 : Int32).toInt = -2 ∨ ((2 : Int32).toInt = 5 ∧ (A0 24 w1.toInt = 6 ∨ A0 24 w2.toInt = 6)) ∨ (A0 24 w1.toInt ≠ 6 ∧ A0 24 w2.toInt ≠ 6 ∧ (((2 : Int32).toInt = 1 ∧ A0 25 w1.toInt = A0 25 w2.toInt ∧ ((A0 24 w1.toInt = 1 ∧ A0 24 w2.toInt = 2) ∨ (A0 24 w1.toInt = 2 ∧ A0 24 w2.toInt = 1))) ∨ ((2 : Int32).toInt = 2 ∧ A0 25 w1.toInt = A0 25 w2.toInt ∧ A0 24 w1.toInt = A0 24 w2.toInt ∧ 3 ≤ A0 24 w1.toInt ∧ A0 24 w1.toInt ≤ 5) ∨ (((2 : Int32).toInt = 3 ∨ (2 : Int32).toInt = 4) ∧ ((A0 25 w1.toInt < A0 25 w2.toInt ∧ 3 ≤ A0 24 w1.toInt ∧ A0 24 w1.toInt ≤ 5) ∨ (A0 25 w2.toInt < A0 25 w1.toInt ∧ 3 ≤ A0 24 w2.toInt ∧ A0 24 w2.toInt ≤ 5))))) by omega⟩
                · refine k_c2 5 rfl rfl (if_neg b77) ?_
                  have b77 := mt iv_eq.mpr b77
                  refine k_iload 6 rfl rfl rfl ?_
                  refine k_push 7 rfl rfl ?_
                  have hc78 : (4 : Int32).toInt = 4 := by decide
                  by_cases b79 : x74 = (4 : Int32)
                  · refine k_c2 15 rfl rfl (if_pos b79) ?_
                    have b79 := iv_eq.mp b79
                    refine k_push 16 rfl rfl ?_
                    refine k_goto 20 rfl rfl ?_
                    refine k_fin rfl (fin_Z (Or.inr rfl)) ⟨_, _, rfl, rf_len hI hI, ?_⟩
                    show am_Ok _ _ _ (117, _, [.inl (1 : Int32)], _, 0, 0) _
                    refine k_c1 120 rfl rfl (if_neg (by decide)) ?_
                    refine k_push 121 rfl rfl ?_
                    refine k_goto 126 rfl rfl ?_
                    exact k_fin rfl rfl ⟨_, _, _, _, rfl, hI, fr1.rf, fr2.rf, show (2 : Int32).toInt = -2 ∨ ((2 : Int32).toInt = 5 ∧ (A0 24 w1.toInt = 6 ∨ A0 24 w2.toInt = 6)) ∨ (A0 24 w1.toInt ≠ 6 ∧ A0 24 w2.toInt ≠ 6 ∧ (((2 : Int32).toInt = 1 ∧ A0 25 w1.toInt = A0 25 w2.toInt ∧ ((A0 24 w1.toInt = 1 ∧ A0 24 w2.toInt = 2) ∨ (A0 24 w1.toInt = 2 ∧ A0 24 w2.toInt = 1))) ∨ ((2 : Int32).toInt = 2 ∧ A0 25 w1.toInt = A0 25 w2.toInt ∧ A0 24 w1.toInt = A0 24 w2.toInt ∧ 3 ≤ A0 24 w1.toInt ∧ A0 24 w1.toInt ≤ 5) ∨ (((2 : Int32).toInt = 3 ∨ (2 : Int32).toInt = 4) ∧ ((A0 25 w1.toInt < A0 25 w2.toInt ∧ 3 ≤ A0 24 w1.toInt ∧ A0 24 w1.toInt ≤ 5) ∨ (A0 25 w2.toInt < A0 25 w1.toInt ∧ 3 ≤ A0 24 w2.toInt ∧ A0 24 w2.toInt ≤ 5))))) by omega⟩
                  · refine k_c2 10 rfl rfl (if_neg b79) ?_
                    have b79 := mt iv_eq.mpr b79
                    refine k_iload 11 rfl rfl rfl ?_
                    refine k_push 12 rfl rfl ?_
                    have hc80 : (5 : Int32).toInt = 5 := by decide
                    by_cases b81 : x74 = (5 : Int32)
                    · refine k_c2 15 rfl rfl (if_pos b81) ?_
                      have b81 := iv_eq.mp b81
                      refine k_push 16 rfl rfl ?_
                      refine k_goto 20 rfl rfl ?_
                      refine k_fin rfl (fin_Z (Or.inr rfl)) ⟨_, _, rfl, rf_len hI hI, ?_⟩
                      show am_Ok _ _ _ (117, _, [.inl (1 : Int32)], _, 0, 0) _
                      refine k_c1 120 rfl rfl (if_neg (by decide)) ?_
                      refine k_push 121 rfl rfl ?_
                      refine k_goto 126 rfl rfl ?_
                      exact k_fin rfl rfl ⟨_, _, _, _, rfl, hI, fr1.rf, fr2.rf, show (2 : Int32).toInt = -2 ∨ ((2 : Int32).toInt = 5 ∧ (A0 24 w1.toInt = 6 ∨ A0 24 w2.toInt = 6)) ∨ (A0 24 w1.toInt ≠ 6 ∧ A0 24 w2.toInt ≠ 6 ∧ (((2 : Int32).toInt = 1 ∧ A0 25 w1.toInt = A0 25 w2.toInt ∧ ((A0 24 w1.toInt = 1 ∧ A0 24 w2.toInt = 2) ∨ (A0 24 w1.toInt = 2 ∧ A0 24 w2.toInt = 1))) ∨ ((2 : Int32).toInt = 2 ∧ A0 25 w1.toInt = A0 25 w2.toInt ∧ A0 24 w1.toInt = A0 24 w2.toInt ∧ 3 ≤ A0 24 w1.toInt ∧ A0 24 w1.toInt ≤ 5) ∨ (((2 : Int32).toInt = 3 ∨ (2 : Int32).toInt = 4) ∧ ((A0 25 w1.toInt < A0 25 w2.toInt ∧ 3 ≤ A0 24 w1.toInt ∧ A0 24 w1.toInt ≤ 5) ∨ (A0 25 w2.toInt < A0 25 w1.toInt ∧ 3 ≤ A0 24 w2.toInt ∧ A0 24 w2.toInt ≤ 5))))) by omega⟩
                    · refine k_c2 19 rfl rfl (if_neg b81) ?_
                      have b81 := mt iv_eq.mpr b81
                      refine k_push 20 rfl rfl ?_
                      refine k_fin rfl (fin_Z (Or.inl rfl)) ⟨_, _, rfl, rf_len hI hI, ?_⟩
                      show am_Ok _ _ _ (117, _, [.inl (0 : Int32)], _, 0, 0) _
                      refine k_c1 124 rfl rfl (if_pos (by decide)) ?_
                      refine k_push 126 rfl rfl ?_
                      have hc82 : (-2 : Int32).toInt = -2 := by decide
                      exact k_fin rfl rfl ⟨_, _, _, _, rfl, hI, fr1.rf, fr2.rf, show (-2 : Int32).toInt = -2 ∨ ((-2 : Int32).toInt = 5 ∧ (A0 24 w1.toInt = 6 ∨ A0 24 w2.toInt = 6)) ∨ (A0 24 w1.toInt ≠ 6 ∧ A0 24 w2.toInt ≠ 6 ∧ (((-2 : Int32).toInt = 1 ∧ A0 25 w1.toInt = A0 25 w2.toInt ∧ ((A0 24 w1.toInt = 1 ∧ A0 24 w2.toInt = 2) ∨ (A0 24 w1.toInt = 2 ∧ A0 24 w2.toInt = 1))) ∨ ((-2 : Int32).toInt = 2 ∧ A0 25 w1.toInt = A0 25 w2.toInt ∧ A0 24 w1.toInt = A0 24 w2.toInt ∧ 3 ≤ A0 24 w1.toInt ∧ A0 24 w1.toInt ≤ 5) ∨ (((-2 : Int32).toInt = 3 ∨ (-2 : Int32).toInt = 4) ∧ ((A0 25 w1.toInt < A0 25 w2.toInt ∧ 3 ≤ A0 24 w1.toInt ∧ A0 24 w1.toInt ≤ 5) ∨ (A0 25 w2.toInt < A0 25 w1.toInt ∧ 3 ≤ A0 24 w2.toInt ∧ A0 24 w2.toInt ≤ 5))))) by omega⟩
              · refine k_c2 124 rfl rfl (if_neg b73) ?_
                have b73 := mt iv_eq.mpr b73
                refine k_push 126 rfl rfl ?_
                have hc83 : (-2 : Int32).toInt = -2 := by decide
                exact k_fin rfl rfl ⟨_, _, _, _, rfl, hI, fr1.rf, fr2.rf, show (-2 : Int32).toInt = -2 ∨ ((-2 : Int32).toInt = 5 ∧ (A0 24 w1.toInt = 6 ∨ A0 24 w2.toInt = 6)) ∨ (A0 24 w1.toInt ≠ 6 ∧ A0 24 w2.toInt ≠ 6 ∧ (((-2 : Int32).toInt = 1 ∧ A0 25 w1.toInt = A0 25 w2.toInt ∧ ((A0 24 w1.toInt = 1 ∧ A0 24 w2.toInt = 2) ∨ (A0 24 w1.toInt = 2 ∧ A0 24 w2.toInt = 1))) ∨ ((-2 : Int32).toInt = 2 ∧ A0 25 w1.toInt = A0 25 w2.toInt ∧ A0 24 w1.toInt = A0 24 w2.toInt ∧ 3 ≤ A0 24 w1.toInt ∧ A0 24 w1.toInt ≤ 5) ∨ (((-2 : Int32).toInt = 3 ∨ (-2 : Int32).toInt = 4) ∧ ((A0 25 w1.toInt < A0 25 w2.toInt ∧ 3 ≤ A0 24 w1.toInt ∧ A0 24 w1.toInt ≤ 5) ∨ (A0 25 w2.toInt < A0 25 w1.toInt ∧ 3 ≤ A0 24 w2.toInt ∧ A0 24 w2.toInt ≤ 5))))) by omega⟩
          · refine k_c2 83 rfl rfl (if_neg b64) ?_
            have b64 := mt iv_eq.mpr b64
            refine k_push 84 rfl rfl ?_
            have hc84 : (0 : Int32).toInt = 0 := by decide
            refine k_istore 85 rfl rfl ?_
            refine k_iload 86 rfl gs_eq rfl ?_
            refine k_c1 93 rfl rfl (if_pos (by decide)) ?_
            refine k_aload 94 rfl (gs_ne rfl rfl rfl) rfl ?_
            refine r_gA hI 97 rfl rfl rfl ?_
            refine k_iload 98 rfl (gs_ne rfl rfl rfl) rfl ?_
            refine r_ld 24 hI 99 rfl rfl (by omega) (show w1.toInt < 8010 by omega) rfl (fun x85 (e86 : x85.toInt = A0 24 w1.toInt) => ?_)
            refine k_aload 100 rfl (gs_ne rfl rfl rfl) rfl ?_
            refine r_gA hI 103 rfl rfl rfl ?_
            refine k_iload 104 rfl (gs_ne rfl rfl rfl) rfl ?_
            refine r_ld 24 hI 105 rfl rfl (by omega) (show w2.toInt < 8010 by omega) rfl (fun x87 (e88 : x87.toInt = A0 24 w2.toInt) => ?_)
            by_cases b89 : x85 = x87
            · refine k_c2 108 rfl rfl (if_pos b89) ?_
              have b89 := iv_eq.mp b89
              refine k_aload 109 rfl (gs_ne rfl rfl rfl) rfl ?_
              refine r_gA hI 112 rfl rfl rfl ?_
              refine k_iload 113 rfl (gs_ne rfl rfl rfl) rfl ?_
              refine r_ld 24 hI 114 rfl rfl (by omega) (show w1.toInt < 8010 by omega) rfl (fun x90 (e91 : x90.toInt = A0 24 w1.toInt) => ?_)
              refine k_in (d := 0) rfl rfl rfl rfl rfl ?_
              refine k_iload 1 rfl rfl rfl ?_
              refine k_push 2 rfl rfl ?_
              have hc92 : (3 : Int32).toInt = 3 := by decide
              by_cases b93 : x90 = (3 : Int32)
              · refine k_c2 15 rfl rfl (if_pos b93) ?_
                have b93 := iv_eq.mp b93
                refine k_push 16 rfl rfl ?_
                refine k_goto 20 rfl rfl ?_
                refine k_fin rfl (fin_Z (Or.inr rfl)) ⟨_, _, rfl, rf_len hI hI, ?_⟩
                show am_Ok _ _ _ (117, _, [.inl (1 : Int32)], _, 0, 0) _
                refine k_c1 120 rfl rfl (if_neg (by decide)) ?_
                refine k_push 121 rfl rfl ?_
                refine k_goto 126 rfl rfl ?_
                exact k_fin rfl rfl ⟨_, _, _, _, rfl, hI, fr1.rf, fr2.rf, show (2 : Int32).toInt = -2 ∨ ((2 : Int32).toInt = 5 ∧ (A0 24 w1.toInt = 6 ∨ A0 24 w2.toInt = 6)) ∨ (A0 24 w1.toInt ≠ 6 ∧ A0 24 w2.toInt ≠ 6 ∧ (((2 : Int32).toInt = 1 ∧ A0 25 w1.toInt = A0 25 w2.toInt ∧ ((A0 24 w1.toInt = 1 ∧ A0 24 w2.toInt = 2) ∨ (A0 24 w1.toInt = 2 ∧ A0 24 w2.toInt = 1))) ∨ ((2 : Int32).toInt = 2 ∧ A0 25 w1.toInt = A0 25 w2.toInt ∧ A0 24 w1.toInt = A0 24 w2.toInt ∧ 3 ≤ A0 24 w1.toInt ∧ A0 24 w1.toInt ≤ 5) ∨ (((2 : Int32).toInt = 3 ∨ (2 : Int32).toInt = 4) ∧ ((A0 25 w1.toInt < A0 25 w2.toInt ∧ 3 ≤ A0 24 w1.toInt ∧ A0 24 w1.toInt ≤ 5) ∨ (A0 25 w2.toInt < A0 25 w1.toInt ∧ 3 ≤ A0 24 w2.toInt ∧ A0 24 w2.toInt ≤ 5))))) by omega⟩
              · refine k_c2 5 rfl rfl (if_neg b93) ?_
                have b93 := mt iv_eq.mpr b93
                refine k_iload 6 rfl rfl rfl ?_
                refine k_push 7 rfl rfl ?_
                have hc94 : (4 : Int32).toInt = 4 := by decide
                by_cases b95 : x90 = (4 : Int32)
                · refine k_c2 15 rfl rfl (if_pos b95) ?_
                  have b95 := iv_eq.mp b95
                  refine k_push 16 rfl rfl ?_
                  refine k_goto 20 rfl rfl ?_
                  refine k_fin rfl (fin_Z (Or.inr rfl)) ⟨_, _, rfl, rf_len hI hI, ?_⟩
                  show am_Ok _ _ _ (117, _, [.inl (1 : Int32)], _, 0, 0) _
                  refine k_c1 120 rfl rfl (if_neg (by decide)) ?_
                  refine k_push 121 rfl rfl ?_
                  refine k_goto 126 rfl rfl ?_
                  exact k_fin rfl rfl ⟨_, _, _, _, rfl, hI, fr1.rf, fr2.rf, show (2 : Int32).toInt = -2 ∨ ((2 : Int32).toInt = 5 ∧ (A0 24 w1.toInt = 6 ∨ A0 24 w2.toInt = 6)) ∨ (A0 24 w1.toInt ≠ 6 ∧ A0 24 w2.toInt ≠ 6 ∧ (((2 : Int32).toInt = 1 ∧ A0 25 w1.toInt = A0 25 w2.toInt ∧ ((A0 24 w1.toInt = 1 ∧ A0 24 w2.toInt = 2) ∨ (A0 24 w1.toInt = 2 ∧ A0 24 w2.toInt = 1))) ∨ ((2 : Int32).toInt = 2 ∧ A0 25 w1.toInt = A0 25 w2.toInt ∧ A0 24 w1.toInt = A0 24 w2.toInt ∧ 3 ≤ A0 24 w1.toInt ∧ A0 24 w1.toInt ≤ 5) ∨ (((2 : Int32).toInt = 3 ∨ (2 : Int32).toInt = 4) ∧ ((A0 25 w1.toInt < A0 25 w2.toInt ∧ 3 ≤ A0 24 w1.toInt ∧ A0 24 w1.toInt ≤ 5) ∨ (A0 25 w2.toInt < A0 25 w1.toInt ∧ 3 ≤ A0 24 w2.toInt ∧ A0 24 w2.toInt ≤ 5))))) by omega⟩
                · refine k_c2 10 rfl rfl (if_neg b95) ?_
                  have b95 := mt iv_eq.mpr b95
                  refine k_iload 11 rfl rfl rfl ?_
                  refine k_push 12 rfl rfl ?_
                  have hc96 : (5 : Int32).toInt = 5 := by decide
                  by_cases b97 : x90 = (5 : Int32)
                  · refine k_c2 15 rfl rfl (if_pos b97) ?_
                    have b97 := iv_eq.mp b97
                    refine k_push 16 rfl rfl ?_
                    refine k_goto 20 rfl rfl ?_
                    refine k_fin rfl (fin_Z (Or.inr rfl)) ⟨_, _, rfl, rf_len hI hI, ?_⟩
                    show am_Ok _ _ _ (117, _, [.inl (1 : Int32)], _, 0, 0) _
                    refine k_c1 120 rfl rfl (if_neg (by decide)) ?_
                    refine k_push 121 rfl rfl ?_
                    refine k_goto 126 rfl rfl ?_
                    exact k_fin rfl rfl ⟨_, _, _, _, rfl, hI, fr1.rf, fr2.rf, show (2 : Int32).toInt = -2 ∨ ((2 : Int32).toInt = 5 ∧ (A0 24 w1.toInt = 6 ∨ A0 24 w2.toInt = 6)) ∨ (A0 24 w1.toInt ≠ 6 ∧ A0 24 w2.toInt ≠ 6 ∧ (((2 : Int32).toInt = 1 ∧ A0 25 w1.toInt = A0 25 w2.toInt ∧ ((A0 24 w1.toInt = 1 ∧ A0 24 w2.toInt = 2) ∨ (A0 24 w1.toInt = 2 ∧ A0 24 w2.toInt = 1))) ∨ ((2 : Int32).toInt = 2 ∧ A0 25 w1.toInt = A0 25 w2.toInt ∧ A0 24 w1.toInt = A0 24 w2.toInt ∧ 3 ≤ A0 24 w1.toInt ∧ A0 24 w1.toInt ≤ 5) ∨ (((2 : Int32).toInt = 3 ∨ (2 : Int32).toInt = 4) ∧ ((A0 25 w1.toInt < A0 25 w2.toInt ∧ 3 ≤ A0 24 w1.toInt ∧ A0 24 w1.toInt ≤ 5) ∨ (A0 25 w2.toInt < A0 25 w1.toInt ∧ 3 ≤ A0 24 w2.toInt ∧ A0 24 w2.toInt ≤ 5))))) by omega⟩
                  · refine k_c2 19 rfl rfl (if_neg b97) ?_
                    have b97 := mt iv_eq.mpr b97
                    refine k_push 20 rfl rfl ?_
                    refine k_fin rfl (fin_Z (Or.inl rfl)) ⟨_, _, rfl, rf_len hI hI, ?_⟩
                    show am_Ok _ _ _ (117, _, [.inl (0 : Int32)], _, 0, 0) _
                    refine k_c1 124 rfl rfl (if_pos (by decide)) ?_
                    refine k_push 126 rfl rfl ?_
                    have hc98 : (-2 : Int32).toInt = -2 := by decide
                    exact k_fin rfl rfl ⟨_, _, _, _, rfl, hI, fr1.rf, fr2.rf, show (-2 : Int32).toInt = -2 ∨ ((-2 : Int32).toInt = 5 ∧ (A0 24 w1.toInt = 6 ∨ A0 24 w2.toInt = 6)) ∨ (A0 24 w1.toInt ≠ 6 ∧ A0 24 w2.toInt ≠ 6 ∧ (((-2 : Int32).toInt = 1 ∧ A0 25 w1.toInt = A0 25 w2.toInt ∧ ((A0 24 w1.toInt = 1 ∧ A0 24 w2.toInt = 2) ∨ (A0 24 w1.toInt = 2 ∧ A0 24 w2.toInt = 1))) ∨ ((-2 : Int32).toInt = 2 ∧ A0 25 w1.toInt = A0 25 w2.toInt ∧ A0 24 w1.toInt = A0 24 w2.toInt ∧ 3 ≤ A0 24 w1.toInt ∧ A0 24 w1.toInt ≤ 5) ∨ (((-2 : Int32).toInt = 3 ∨ (-2 : Int32).toInt = 4) ∧ ((A0 25 w1.toInt < A0 25 w2.toInt ∧ 3 ≤ A0 24 w1.toInt ∧ A0 24 w1.toInt ≤ 5) ∨ (A0 25 w2.toInt < A0 25 w1.toInt ∧ 3 ≤ A0 24 w2.toInt ∧ A0 24 w2.toInt ≤ 5))))) by omega⟩
            · refine k_c2 124 rfl rfl (if_neg b89) ?_
              have b89 := mt iv_eq.mpr b89
              refine k_push 126 rfl rfl ?_
              have hc99 : (-2 : Int32).toInt = -2 := by decide
              exact k_fin rfl rfl ⟨_, _, _, _, rfl, hI, fr1.rf, fr2.rf, show (-2 : Int32).toInt = -2 ∨ ((-2 : Int32).toInt = 5 ∧ (A0 24 w1.toInt = 6 ∨ A0 24 w2.toInt = 6)) ∨ (A0 24 w1.toInt ≠ 6 ∧ A0 24 w2.toInt ≠ 6 ∧ (((-2 : Int32).toInt = 1 ∧ A0 25 w1.toInt = A0 25 w2.toInt ∧ ((A0 24 w1.toInt = 1 ∧ A0 24 w2.toInt = 2) ∨ (A0 24 w1.toInt = 2 ∧ A0 24 w2.toInt = 1))) ∨ ((-2 : Int32).toInt = 2 ∧ A0 25 w1.toInt = A0 25 w2.toInt ∧ A0 24 w1.toInt = A0 24 w2.toInt ∧ 3 ≤ A0 24 w1.toInt ∧ A0 24 w1.toInt ≤ 5) ∨ (((-2 : Int32).toInt = 3 ∨ (-2 : Int32).toInt = 4) ∧ ((A0 25 w1.toInt < A0 25 w2.toInt ∧ 3 ≤ A0 24 w1.toInt ∧ A0 24 w1.toInt ≤ 5) ∨ (A0 25 w2.toInt < A0 25 w1.toInt ∧ 3 ≤ A0 24 w2.toInt ∧ A0 24 w2.toInt ≤ 5))))) by omega⟩
      · refine k_c2 127 rfl rfl (if_neg b14) ?_
        have b14 := mt iv_eq.mpr b14
        refine k_aload 128 rfl rfl rfl ?_
        refine r_gA hI 131 rfl rfl rfl ?_
        refine k_aload 132 rfl rfl rfl ?_
        refine r_gA hI 135 rfl rfl rfl ?_
        refine k_iload 136 rfl rfl rfl ?_
        refine r_ld 25 hI 137 rfl rfl (by omega) (show w1.toInt < 8010 by omega) rfl (fun x100 (e101 : x100.toInt = A0 25 w1.toInt) => ?_)
        refine k_aload 138 rfl rfl rfl ?_
        refine r_gA hI 141 rfl rfl rfl ?_
        refine k_iload 142 rfl rfl rfl ?_
        refine r_ld 25 hI 143 rfl rfl (by omega) (show w2.toInt < 8010 by omega) rfl (fun x102 (e103 : x102.toInt = A0 25 w2.toInt) => ?_)
        by_cases b104 : x102 ≤ x100
        · refine k_c2 150 rfl rfl (if_pos b104) ?_
          have b104 := iv_le.mp b104
          refine k_iload 151 rfl rfl rfl ?_
          refine r_ld 24 hI 152 rfl rfl (by omega) (show w2.toInt < 8010 by omega) rfl (fun x105 (e106 : x105.toInt = A0 24 w2.toInt) => ?_)
          refine k_istore 153 rfl rfl ?_
          refine k_iload 154 rfl gs_eq rfl ?_
          refine k_in (d := 0) rfl rfl rfl rfl rfl ?_
          refine k_iload 1 rfl rfl rfl ?_
          refine k_push 2 rfl rfl ?_
          have hc107 : (3 : Int32).toInt = 3 := by decide
          by_cases b108 : x105 = (3 : Int32)
          · refine k_c2 15 rfl rfl (if_pos b108) ?_
            have b108 := iv_eq.mp b108
            refine k_push 16 rfl rfl ?_
            have hc109 : (1 : Int32).toInt = 1 := by decide
            refine k_goto 20 rfl rfl ?_
            refine k_fin rfl (fin_Z (Or.inr rfl)) ⟨_, _, rfl, rf_len hI hI, ?_⟩
            show am_Ok _ _ _ (157, _, [.inl (1 : Int32)], _, 0, 0) _
            refine k_c1 165 rfl rfl (if_neg (by decide)) ?_
            refine k_iload 166 rfl gs_eq rfl ?_
            refine k_push 167 rfl rfl ?_
            by_cases b110 : x105 = (3 : Int32)
            · refine k_c2 170 rfl rfl (if_pos b110) ?_
              have b110 := iv_eq.mp b110
              refine k_push 171 rfl rfl ?_
              refine k_goto 175 rfl rfl ?_
              exact k_fin rfl rfl ⟨_, _, _, _, rfl, hI, fr1.rf, fr2.rf, show (3 : Int32).toInt = -2 ∨ ((3 : Int32).toInt = 5 ∧ (A0 24 w1.toInt = 6 ∨ A0 24 w2.toInt = 6)) ∨ (A0 24 w1.toInt ≠ 6 ∧ A0 24 w2.toInt ≠ 6 ∧ (((3 : Int32).toInt = 1 ∧ A0 25 w1.toInt = A0 25 w2.toInt ∧ ((A0 24 w1.toInt = 1 ∧ A0 24 w2.toInt = 2) ∨ (A0 24 w1.toInt = 2 ∧ A0 24 w2.toInt = 1))) ∨ ((3 : Int32).toInt = 2 ∧ A0 25 w1.toInt = A0 25 w2.toInt ∧ A0 24 w1.toInt = A0 24 w2.toInt ∧ 3 ≤ A0 24 w1.toInt ∧ A0 24 w1.toInt ≤ 5) ∨ (((3 : Int32).toInt = 3 ∨ (3 : Int32).toInt = 4) ∧ ((A0 25 w1.toInt < A0 25 w2.toInt ∧ 3 ≤ A0 24 w1.toInt ∧ A0 24 w1.toInt ≤ 5) ∨ (A0 25 w2.toInt < A0 25 w1.toInt ∧ 3 ≤ A0 24 w2.toInt ∧ A0 24 w2.toInt ≤ 5))))) by omega⟩
            · refine k_c2 174 rfl rfl (if_neg b110) ?_
              have b110 := mt iv_eq.mpr b110
              refine k_push 175 rfl rfl ?_
              have hc111 : (4 : Int32).toInt = 4 := by decide
              exact k_fin rfl rfl ⟨_, _, _, _, rfl, hI, fr1.rf, fr2.rf, show (4 : Int32).toInt = -2 ∨ ((4 : Int32).toInt = 5 ∧ (A0 24 w1.toInt = 6 ∨ A0 24 w2.toInt = 6)) ∨ (A0 24 w1.toInt ≠ 6 ∧ A0 24 w2.toInt ≠ 6 ∧ (((4 : Int32).toInt = 1 ∧ A0 25 w1.toInt = A0 25 w2.toInt ∧ ((A0 24 w1.toInt = 1 ∧ A0 24 w2.toInt = 2) ∨ (A0 24 w1.toInt = 2 ∧ A0 24 w2.toInt = 1))) ∨ ((4 : Int32).toInt = 2 ∧ A0 25 w1.toInt = A0 25 w2.toInt ∧ A0 24 w1.toInt = A0 24 w2.toInt ∧ 3 ≤ A0 24 w1.toInt ∧ A0 24 w1.toInt ≤ 5) ∨ (((4 : Int32).toInt = 3 ∨ (4 : Int32).toInt = 4) ∧ ((A0 25 w1.toInt < A0 25 w2.toInt ∧ 3 ≤ A0 24 w1.toInt ∧ A0 24 w1.toInt ≤ 5) ∨ (A0 25 w2.toInt < A0 25 w1.toInt ∧ 3 ≤ A0 24 w2.toInt ∧ A0 24 w2.toInt ≤ 5))))) by omega⟩
          · refine k_c2 5 rfl rfl (if_neg b108) ?_
            have b108 := mt iv_eq.mpr b108
            refine k_iload 6 rfl rfl rfl ?_
            refine k_push 7 rfl rfl ?_
            have hc112 : (4 : Int32).toInt = 4 := by decide
            by_cases b113 : x105 = (4 : Int32)
            · refine k_c2 15 rfl rfl (if_pos b113) ?_
              have b113 := iv_eq.mp b113
              refine k_push 16 rfl rfl ?_
              have hc114 : (1 : Int32).toInt = 1 := by decide
              refine k_goto 20 rfl rfl ?_
              refine k_fin rfl (fin_Z (Or.inr rfl)) ⟨_, _, rfl, rf_len hI hI, ?_⟩
              show am_Ok _ _ _ (157, _, [.inl (1 : Int32)], _, 0, 0) _
              refine k_c1 165 rfl rfl (if_neg (by decide)) ?_
              refine k_iload 166 rfl gs_eq rfl ?_
              refine k_push 167 rfl rfl ?_
              by_cases b115 : x105 = (3 : Int32)
              · refine k_c2 170 rfl rfl (if_pos b115) ?_
                have b115 := iv_eq.mp b115
                refine k_push 171 rfl rfl ?_
                refine k_goto 175 rfl rfl ?_
                exact k_fin rfl rfl ⟨_, _, _, _, rfl, hI, fr1.rf, fr2.rf, show (3 : Int32).toInt = -2 ∨ ((3 : Int32).toInt = 5 ∧ (A0 24 w1.toInt = 6 ∨ A0 24 w2.toInt = 6)) ∨ (A0 24 w1.toInt ≠ 6 ∧ A0 24 w2.toInt ≠ 6 ∧ (((3 : Int32).toInt = 1 ∧ A0 25 w1.toInt = A0 25 w2.toInt ∧ ((A0 24 w1.toInt = 1 ∧ A0 24 w2.toInt = 2) ∨ (A0 24 w1.toInt = 2 ∧ A0 24 w2.toInt = 1))) ∨ ((3 : Int32).toInt = 2 ∧ A0 25 w1.toInt = A0 25 w2.toInt ∧ A0 24 w1.toInt = A0 24 w2.toInt ∧ 3 ≤ A0 24 w1.toInt ∧ A0 24 w1.toInt ≤ 5) ∨ (((3 : Int32).toInt = 3 ∨ (3 : Int32).toInt = 4) ∧ ((A0 25 w1.toInt < A0 25 w2.toInt ∧ 3 ≤ A0 24 w1.toInt ∧ A0 24 w1.toInt ≤ 5) ∨ (A0 25 w2.toInt < A0 25 w1.toInt ∧ 3 ≤ A0 24 w2.toInt ∧ A0 24 w2.toInt ≤ 5))))) by omega⟩
              · refine k_c2 174 rfl rfl (if_neg b115) ?_
                have b115 := mt iv_eq.mpr b115
                refine k_push 175 rfl rfl ?_
                exact k_fin rfl rfl ⟨_, _, _, _, rfl, hI, fr1.rf, fr2.rf, show (4 : Int32).toInt = -2 ∨ ((4 : Int32).toInt = 5 ∧ (A0 24 w1.toInt = 6 ∨ A0 24 w2.toInt = 6)) ∨ (A0 24 w1.toInt ≠ 6 ∧ A0 24 w2.toInt ≠ 6 ∧ (((4 : Int32).toInt = 1 ∧ A0 25 w1.toInt = A0 25 w2.toInt ∧ ((A0 24 w1.toInt = 1 ∧ A0 24 w2.toInt = 2) ∨ (A0 24 w1.toInt = 2 ∧ A0 24 w2.toInt = 1))) ∨ ((4 : Int32).toInt = 2 ∧ A0 25 w1.toInt = A0 25 w2.toInt ∧ A0 24 w1.toInt = A0 24 w2.toInt ∧ 3 ≤ A0 24 w1.toInt ∧ A0 24 w1.toInt ≤ 5) ∨ (((4 : Int32).toInt = 3 ∨ (4 : Int32).toInt = 4) ∧ ((A0 25 w1.toInt < A0 25 w2.toInt ∧ 3 ≤ A0 24 w1.toInt ∧ A0 24 w1.toInt ≤ 5) ∨ (A0 25 w2.toInt < A0 25 w1.toInt ∧ 3 ≤ A0 24 w2.toInt ∧ A0 24 w2.toInt ≤ 5))))) by omega⟩
            · refine k_c2 10 rfl rfl (if_neg b113) ?_
              have b113 := mt iv_eq.mpr b113
              refine k_iload 11 rfl rfl rfl ?_
              refine k_push 12 rfl rfl ?_
              have hc116 : (5 : Int32).toInt = 5 := by decide
              by_cases b117 : x105 = (5 : Int32)
              · refine k_c2 15 rfl rfl (if_pos b117) ?_
                have b117 := iv_eq.mp b117
                refine k_push 16 rfl rfl ?_
                have hc118 : (1 : Int32).toInt = 1 := by decide
                refine k_goto 20 rfl rfl ?_
                refine k_fin rfl (fin_Z (Or.inr rfl)) ⟨_, _, rfl, rf_len hI hI, ?_⟩
                show am_Ok _ _ _ (157, _, [.inl (1 : Int32)], _, 0, 0) _
                refine k_c1 165 rfl rfl (if_neg (by decide)) ?_
                refine k_iload 166 rfl gs_eq rfl ?_
                refine k_push 167 rfl rfl ?_
                by_cases b119 : x105 = (3 : Int32)
                · refine k_c2 170 rfl rfl (if_pos b119) ?_
                  have b119 := iv_eq.mp b119
                  refine k_push 171 rfl rfl ?_
                  refine k_goto 175 rfl rfl ?_
                  exact k_fin rfl rfl ⟨_, _, _, _, rfl, hI, fr1.rf, fr2.rf, show (3 : Int32).toInt = -2 ∨ ((3 : Int32).toInt = 5 ∧ (A0 24 w1.toInt = 6 ∨ A0 24 w2.toInt = 6)) ∨ (A0 24 w1.toInt ≠ 6 ∧ A0 24 w2.toInt ≠ 6 ∧ (((3 : Int32).toInt = 1 ∧ A0 25 w1.toInt = A0 25 w2.toInt ∧ ((A0 24 w1.toInt = 1 ∧ A0 24 w2.toInt = 2) ∨ (A0 24 w1.toInt = 2 ∧ A0 24 w2.toInt = 1))) ∨ ((3 : Int32).toInt = 2 ∧ A0 25 w1.toInt = A0 25 w2.toInt ∧ A0 24 w1.toInt = A0 24 w2.toInt ∧ 3 ≤ A0 24 w1.toInt ∧ A0 24 w1.toInt ≤ 5) ∨ (((3 : Int32).toInt = 3 ∨ (3 : Int32).toInt = 4) ∧ ((A0 25 w1.toInt < A0 25 w2.toInt ∧ 3 ≤ A0 24 w1.toInt ∧ A0 24 w1.toInt ≤ 5) ∨ (A0 25 w2.toInt < A0 25 w1.toInt ∧ 3 ≤ A0 24 w2.toInt ∧ A0 24 w2.toInt ≤ 5))))) by omega⟩
                · refine k_c2 174 rfl rfl (if_neg b119) ?_
                  have b119 := mt iv_eq.mpr b119
                  refine k_push 175 rfl rfl ?_
                  exact k_fin rfl rfl ⟨_, _, _, _, rfl, hI, fr1.rf, fr2.rf, show (4 : Int32).toInt = -2 ∨ ((4 : Int32).toInt = 5 ∧ (A0 24 w1.toInt = 6 ∨ A0 24 w2.toInt = 6)) ∨ (A0 24 w1.toInt ≠ 6 ∧ A0 24 w2.toInt ≠ 6 ∧ (((4 : Int32).toInt = 1 ∧ A0 25 w1.toInt = A0 25 w2.toInt ∧ ((A0 24 w1.toInt = 1 ∧ A0 24 w2.toInt = 2) ∨ (A0 24 w1.toInt = 2 ∧ A0 24 w2.toInt = 1))) ∨ ((4 : Int32).toInt = 2 ∧ A0 25 w1.toInt = A0 25 w2.toInt ∧ A0 24 w1.toInt = A0 24 w2.toInt ∧ 3 ≤ A0 24 w1.toInt ∧ A0 24 w1.toInt ≤ 5) ∨ (((4 : Int32).toInt = 3 ∨ (4 : Int32).toInt = 4) ∧ ((A0 25 w1.toInt < A0 25 w2.toInt ∧ 3 ≤ A0 24 w1.toInt ∧ A0 24 w1.toInt ≤ 5) ∨ (A0 25 w2.toInt < A0 25 w1.toInt ∧ 3 ≤ A0 24 w2.toInt ∧ A0 24 w2.toInt ≤ 5))))) by omega⟩
              · refine k_c2 19 rfl rfl (if_neg b117) ?_
                have b117 := mt iv_eq.mpr b117
                refine k_push 20 rfl rfl ?_
                have hc120 : (0 : Int32).toInt = 0 := by decide
                refine k_fin rfl (fin_Z (Or.inl rfl)) ⟨_, _, rfl, rf_len hI hI, ?_⟩
                show am_Ok _ _ _ (157, _, [.inl (0 : Int32)], _, 0, 0) _
                refine k_c1 160 rfl rfl (if_pos (by decide)) ?_
                refine k_push 162 rfl rfl ?_
                have hc121 : (-2 : Int32).toInt = -2 := by decide
                refine k_goto 175 rfl rfl ?_
                exact k_fin rfl rfl ⟨_, _, _, _, rfl, hI, fr1.rf, fr2.rf, show (-2 : Int32).toInt = -2 ∨ ((-2 : Int32).toInt = 5 ∧ (A0 24 w1.toInt = 6 ∨ A0 24 w2.toInt = 6)) ∨ (A0 24 w1.toInt ≠ 6 ∧ A0 24 w2.toInt ≠ 6 ∧ (((-2 : Int32).toInt = 1 ∧ A0 25 w1.toInt = A0 25 w2.toInt ∧ ((A0 24 w1.toInt = 1 ∧ A0 24 w2.toInt = 2) ∨ (A0 24 w1.toInt = 2 ∧ A0 24 w2.toInt = 1))) ∨ ((-2 : Int32).toInt = 2 ∧ A0 25 w1.toInt = A0 25 w2.toInt ∧ A0 24 w1.toInt = A0 24 w2.toInt ∧ 3 ≤ A0 24 w1.toInt ∧ A0 24 w1.toInt ≤ 5) ∨ (((-2 : Int32).toInt = 3 ∨ (-2 : Int32).toInt = 4) ∧ ((A0 25 w1.toInt < A0 25 w2.toInt ∧ 3 ≤ A0 24 w1.toInt ∧ A0 24 w1.toInt ≤ 5) ∨ (A0 25 w2.toInt < A0 25 w1.toInt ∧ 3 ≤ A0 24 w2.toInt ∧ A0 24 w2.toInt ≤ 5))))) by omega⟩
        · refine k_c2 146 rfl rfl (if_neg b104) ?_
          have b104 := mt iv_le.mpr b104
          refine k_iload 147 rfl rfl rfl ?_
          refine k_goto 151 rfl rfl ?_
          refine r_ld 24 hI 152 rfl rfl (by omega) (show w1.toInt < 8010 by omega) rfl (fun x122 (e123 : x122.toInt = A0 24 w1.toInt) => ?_)
          refine k_istore 153 rfl rfl ?_
          refine k_iload 154 rfl gs_eq rfl ?_
          refine k_in (d := 0) rfl rfl rfl rfl rfl ?_
          refine k_iload 1 rfl rfl rfl ?_
          refine k_push 2 rfl rfl ?_
          have hc124 : (3 : Int32).toInt = 3 := by decide
          by_cases b125 : x122 = (3 : Int32)
          · refine k_c2 15 rfl rfl (if_pos b125) ?_
            have b125 := iv_eq.mp b125
            refine k_push 16 rfl rfl ?_
            have hc126 : (1 : Int32).toInt = 1 := by decide
            refine k_goto 20 rfl rfl ?_
            refine k_fin rfl (fin_Z (Or.inr rfl)) ⟨_, _, rfl, rf_len hI hI, ?_⟩
            show am_Ok _ _ _ (157, _, [.inl (1 : Int32)], _, 0, 0) _
            refine k_c1 165 rfl rfl (if_neg (by decide)) ?_
            refine k_iload 166 rfl gs_eq rfl ?_
            refine k_push 167 rfl rfl ?_
            by_cases b127 : x122 = (3 : Int32)
            · refine k_c2 170 rfl rfl (if_pos b127) ?_
              have b127 := iv_eq.mp b127
              refine k_push 171 rfl rfl ?_
              refine k_goto 175 rfl rfl ?_
              exact k_fin rfl rfl ⟨_, _, _, _, rfl, hI, fr1.rf, fr2.rf, show (3 : Int32).toInt = -2 ∨ ((3 : Int32).toInt = 5 ∧ (A0 24 w1.toInt = 6 ∨ A0 24 w2.toInt = 6)) ∨ (A0 24 w1.toInt ≠ 6 ∧ A0 24 w2.toInt ≠ 6 ∧ (((3 : Int32).toInt = 1 ∧ A0 25 w1.toInt = A0 25 w2.toInt ∧ ((A0 24 w1.toInt = 1 ∧ A0 24 w2.toInt = 2) ∨ (A0 24 w1.toInt = 2 ∧ A0 24 w2.toInt = 1))) ∨ ((3 : Int32).toInt = 2 ∧ A0 25 w1.toInt = A0 25 w2.toInt ∧ A0 24 w1.toInt = A0 24 w2.toInt ∧ 3 ≤ A0 24 w1.toInt ∧ A0 24 w1.toInt ≤ 5) ∨ (((3 : Int32).toInt = 3 ∨ (3 : Int32).toInt = 4) ∧ ((A0 25 w1.toInt < A0 25 w2.toInt ∧ 3 ≤ A0 24 w1.toInt ∧ A0 24 w1.toInt ≤ 5) ∨ (A0 25 w2.toInt < A0 25 w1.toInt ∧ 3 ≤ A0 24 w2.toInt ∧ A0 24 w2.toInt ≤ 5))))) by omega⟩
            · refine k_c2 174 rfl rfl (if_neg b127) ?_
              have b127 := mt iv_eq.mpr b127
              refine k_push 175 rfl rfl ?_
              have hc128 : (4 : Int32).toInt = 4 := by decide
              exact k_fin rfl rfl ⟨_, _, _, _, rfl, hI, fr1.rf, fr2.rf, show (4 : Int32).toInt = -2 ∨ ((4 : Int32).toInt = 5 ∧ (A0 24 w1.toInt = 6 ∨ A0 24 w2.toInt = 6)) ∨ (A0 24 w1.toInt ≠ 6 ∧ A0 24 w2.toInt ≠ 6 ∧ (((4 : Int32).toInt = 1 ∧ A0 25 w1.toInt = A0 25 w2.toInt ∧ ((A0 24 w1.toInt = 1 ∧ A0 24 w2.toInt = 2) ∨ (A0 24 w1.toInt = 2 ∧ A0 24 w2.toInt = 1))) ∨ ((4 : Int32).toInt = 2 ∧ A0 25 w1.toInt = A0 25 w2.toInt ∧ A0 24 w1.toInt = A0 24 w2.toInt ∧ 3 ≤ A0 24 w1.toInt ∧ A0 24 w1.toInt ≤ 5) ∨ (((4 : Int32).toInt = 3 ∨ (4 : Int32).toInt = 4) ∧ ((A0 25 w1.toInt < A0 25 w2.toInt ∧ 3 ≤ A0 24 w1.toInt ∧ A0 24 w1.toInt ≤ 5) ∨ (A0 25 w2.toInt < A0 25 w1.toInt ∧ 3 ≤ A0 24 w2.toInt ∧ A0 24 w2.toInt ≤ 5))))) by omega⟩
          · refine k_c2 5 rfl rfl (if_neg b125) ?_
            have b125 := mt iv_eq.mpr b125
            refine k_iload 6 rfl rfl rfl ?_
            refine k_push 7 rfl rfl ?_
            have hc129 : (4 : Int32).toInt = 4 := by decide
            by_cases b130 : x122 = (4 : Int32)
            · refine k_c2 15 rfl rfl (if_pos b130) ?_
              have b130 := iv_eq.mp b130
              refine k_push 16 rfl rfl ?_
              have hc131 : (1 : Int32).toInt = 1 := by decide
              refine k_goto 20 rfl rfl ?_
              refine k_fin rfl (fin_Z (Or.inr rfl)) ⟨_, _, rfl, rf_len hI hI, ?_⟩
              show am_Ok _ _ _ (157, _, [.inl (1 : Int32)], _, 0, 0) _
              refine k_c1 165 rfl rfl (if_neg (by decide)) ?_
              refine k_iload 166 rfl gs_eq rfl ?_
              refine k_push 167 rfl rfl ?_
              by_cases b132 : x122 = (3 : Int32)
              · refine k_c2 170 rfl rfl (if_pos b132) ?_
                have b132 := iv_eq.mp b132
                refine k_push 171 rfl rfl ?_
                refine k_goto 175 rfl rfl ?_
                exact k_fin rfl rfl ⟨_, _, _, _, rfl, hI, fr1.rf, fr2.rf, show (3 : Int32).toInt = -2 ∨ ((3 : Int32).toInt = 5 ∧ (A0 24 w1.toInt = 6 ∨ A0 24 w2.toInt = 6)) ∨ (A0 24 w1.toInt ≠ 6 ∧ A0 24 w2.toInt ≠ 6 ∧ (((3 : Int32).toInt = 1 ∧ A0 25 w1.toInt = A0 25 w2.toInt ∧ ((A0 24 w1.toInt = 1 ∧ A0 24 w2.toInt = 2) ∨ (A0 24 w1.toInt = 2 ∧ A0 24 w2.toInt = 1))) ∨ ((3 : Int32).toInt = 2 ∧ A0 25 w1.toInt = A0 25 w2.toInt ∧ A0 24 w1.toInt = A0 24 w2.toInt ∧ 3 ≤ A0 24 w1.toInt ∧ A0 24 w1.toInt ≤ 5) ∨ (((3 : Int32).toInt = 3 ∨ (3 : Int32).toInt = 4) ∧ ((A0 25 w1.toInt < A0 25 w2.toInt ∧ 3 ≤ A0 24 w1.toInt ∧ A0 24 w1.toInt ≤ 5) ∨ (A0 25 w2.toInt < A0 25 w1.toInt ∧ 3 ≤ A0 24 w2.toInt ∧ A0 24 w2.toInt ≤ 5))))) by omega⟩
              · refine k_c2 174 rfl rfl (if_neg b132) ?_
                have b132 := mt iv_eq.mpr b132
                refine k_push 175 rfl rfl ?_
                exact k_fin rfl rfl ⟨_, _, _, _, rfl, hI, fr1.rf, fr2.rf, show (4 : Int32).toInt = -2 ∨ ((4 : Int32).toInt = 5 ∧ (A0 24 w1.toInt = 6 ∨ A0 24 w2.toInt = 6)) ∨ (A0 24 w1.toInt ≠ 6 ∧ A0 24 w2.toInt ≠ 6 ∧ (((4 : Int32).toInt = 1 ∧ A0 25 w1.toInt = A0 25 w2.toInt ∧ ((A0 24 w1.toInt = 1 ∧ A0 24 w2.toInt = 2) ∨ (A0 24 w1.toInt = 2 ∧ A0 24 w2.toInt = 1))) ∨ ((4 : Int32).toInt = 2 ∧ A0 25 w1.toInt = A0 25 w2.toInt ∧ A0 24 w1.toInt = A0 24 w2.toInt ∧ 3 ≤ A0 24 w1.toInt ∧ A0 24 w1.toInt ≤ 5) ∨ (((4 : Int32).toInt = 3 ∨ (4 : Int32).toInt = 4) ∧ ((A0 25 w1.toInt < A0 25 w2.toInt ∧ 3 ≤ A0 24 w1.toInt ∧ A0 24 w1.toInt ≤ 5) ∨ (A0 25 w2.toInt < A0 25 w1.toInt ∧ 3 ≤ A0 24 w2.toInt ∧ A0 24 w2.toInt ≤ 5))))) by omega⟩
            · refine k_c2 10 rfl rfl (if_neg b130) ?_
              have b130 := mt iv_eq.mpr b130
              refine k_iload 11 rfl rfl rfl ?_
              refine k_push 12 rfl rfl ?_
              have hc133 : (5 : Int32).toInt = 5 := by decide
              by_cases b134 : x122 = (5 : Int32)
              · refine k_c2 15 rfl rfl (if_pos b134) ?_
                have b134 := iv_eq.mp b134
                refine k_push 16 rfl rfl ?_
                have hc135 : (1 : Int32).toInt = 1 := by decide
                refine k_goto 20 rfl rfl ?_
                refine k_fin rfl (fin_Z (Or.inr rfl)) ⟨_, _, rfl, rf_len hI hI, ?_⟩
                show am_Ok _ _ _ (157, _, [.inl (1 : Int32)], _, 0, 0) _
                refine k_c1 165 rfl rfl (if_neg (by decide)) ?_
                refine k_iload 166 rfl gs_eq rfl ?_
                refine k_push 167 rfl rfl ?_
                by_cases b136 : x122 = (3 : Int32)
                · refine k_c2 170 rfl rfl (if_pos b136) ?_
                  have b136 := iv_eq.mp b136
                  refine k_push 171 rfl rfl ?_
                  refine k_goto 175 rfl rfl ?_
                  exact k_fin rfl rfl ⟨_, _, _, _, rfl, hI, fr1.rf, fr2.rf, show (3 : Int32).toInt = -2 ∨ ((3 : Int32).toInt = 5 ∧ (A0 24 w1.toInt = 6 ∨ A0 24 w2.toInt = 6)) ∨ (A0 24 w1.toInt ≠ 6 ∧ A0 24 w2.toInt ≠ 6 ∧ (((3 : Int32).toInt = 1 ∧ A0 25 w1.toInt = A0 25 w2.toInt ∧ ((A0 24 w1.toInt = 1 ∧ A0 24 w2.toInt = 2) ∨ (A0 24 w1.toInt = 2 ∧ A0 24 w2.toInt = 1))) ∨ ((3 : Int32).toInt = 2 ∧ A0 25 w1.toInt = A0 25 w2.toInt ∧ A0 24 w1.toInt = A0 24 w2.toInt ∧ 3 ≤ A0 24 w1.toInt ∧ A0 24 w1.toInt ≤ 5) ∨ (((3 : Int32).toInt = 3 ∨ (3 : Int32).toInt = 4) ∧ ((A0 25 w1.toInt < A0 25 w2.toInt ∧ 3 ≤ A0 24 w1.toInt ∧ A0 24 w1.toInt ≤ 5) ∨ (A0 25 w2.toInt < A0 25 w1.toInt ∧ 3 ≤ A0 24 w2.toInt ∧ A0 24 w2.toInt ≤ 5))))) by omega⟩
                · refine k_c2 174 rfl rfl (if_neg b136) ?_
                  have b136 := mt iv_eq.mpr b136
                  refine k_push 175 rfl rfl ?_
                  exact k_fin rfl rfl ⟨_, _, _, _, rfl, hI, fr1.rf, fr2.rf, show (4 : Int32).toInt = -2 ∨ ((4 : Int32).toInt = 5 ∧ (A0 24 w1.toInt = 6 ∨ A0 24 w2.toInt = 6)) ∨ (A0 24 w1.toInt ≠ 6 ∧ A0 24 w2.toInt ≠ 6 ∧ (((4 : Int32).toInt = 1 ∧ A0 25 w1.toInt = A0 25 w2.toInt ∧ ((A0 24 w1.toInt = 1 ∧ A0 24 w2.toInt = 2) ∨ (A0 24 w1.toInt = 2 ∧ A0 24 w2.toInt = 1))) ∨ ((4 : Int32).toInt = 2 ∧ A0 25 w1.toInt = A0 25 w2.toInt ∧ A0 24 w1.toInt = A0 24 w2.toInt ∧ 3 ≤ A0 24 w1.toInt ∧ A0 24 w1.toInt ≤ 5) ∨ (((4 : Int32).toInt = 3 ∨ (4 : Int32).toInt = 4) ∧ ((A0 25 w1.toInt < A0 25 w2.toInt ∧ 3 ≤ A0 24 w1.toInt ∧ A0 24 w1.toInt ≤ 5) ∨ (A0 25 w2.toInt < A0 25 w1.toInt ∧ 3 ≤ A0 24 w2.toInt ∧ A0 24 w2.toInt ≤ 5))))) by omega⟩
              · refine k_c2 19 rfl rfl (if_neg b134) ?_
                have b134 := mt iv_eq.mpr b134
                refine k_push 20 rfl rfl ?_
                have hc137 : (0 : Int32).toInt = 0 := by decide
                refine k_fin rfl (fin_Z (Or.inl rfl)) ⟨_, _, rfl, rf_len hI hI, ?_⟩
                show am_Ok _ _ _ (157, _, [.inl (0 : Int32)], _, 0, 0) _
                refine k_c1 160 rfl rfl (if_pos (by decide)) ?_
                refine k_push 162 rfl rfl ?_
                have hc138 : (-2 : Int32).toInt = -2 := by decide
                refine k_goto 175 rfl rfl ?_
                exact k_fin rfl rfl ⟨_, _, _, _, rfl, hI, fr1.rf, fr2.rf, show (-2 : Int32).toInt = -2 ∨ ((-2 : Int32).toInt = 5 ∧ (A0 24 w1.toInt = 6 ∨ A0 24 w2.toInt = 6)) ∨ (A0 24 w1.toInt ≠ 6 ∧ A0 24 w2.toInt ≠ 6 ∧ (((-2 : Int32).toInt = 1 ∧ A0 25 w1.toInt = A0 25 w2.toInt ∧ ((A0 24 w1.toInt = 1 ∧ A0 24 w2.toInt = 2) ∨ (A0 24 w1.toInt = 2 ∧ A0 24 w2.toInt = 1))) ∨ ((-2 : Int32).toInt = 2 ∧ A0 25 w1.toInt = A0 25 w2.toInt ∧ A0 24 w1.toInt = A0 24 w2.toInt ∧ 3 ≤ A0 24 w1.toInt ∧ A0 24 w1.toInt ≤ 5) ∨ (((-2 : Int32).toInt = 3 ∨ (-2 : Int32).toInt = 4) ∧ ((A0 25 w1.toInt < A0 25 w2.toInt ∧ 3 ≤ A0 24 w1.toInt ∧ A0 24 w1.toInt ≤ 5) ∨ (A0 25 w2.toInt < A0 25 w1.toInt ∧ 3 ≤ A0 24 w2.toInt ∧ A0 24 w2.toInt ≤ 5))))) by omega⟩
theorem m_moreBy {h0 : am_h} {F0 : rf_f} {A0 : rf_A} {w1 : Int32} {w2 : Int32} {w3 : Int32}  (hR : rf_R h0 F0 A0) (p1 : 0 ≤ w1.toInt ∧ w1.toInt < 8000 ∧ 0 ≤ w2.toInt ∧ w2.toInt < 8000) : am_Mt 2 210 [.inr (.inr (some 81)), .inl w1, .inl w2, .inl w3] h0 (rf_Q h0 (fun x F' A' => fr1 [] F0 F' ∧ fr2 [] A0 A' ∧ ((w3.toInt = 5 ∧ ((A0 24 w1.toInt = 6 ∧ x = pr (A0 24 w2.toInt) - 3) ∨ (A0 24 w1.toInt ≠ 6 ∧ x = pr (A0 24 w1.toInt) - 3))) ∨ (w3.toInt < 3 ∧ x = -2) ∨ (w3.toInt ≠ 5 ∧ 3 ≤ w3.toInt ∧ x = pr (A0 24 w1.toInt) + pr (A0 24 w2.toInt) - 4)))) := by
  refine am_Mt.of (D := 1) ?_
  have hI : rf_I h0 h0 F0 A0 := rf_I.start hR
  refine k_aload 1 rfl rfl rfl ?_
  refine r_gA hI 4 rfl rfl rfl ?_
  refine k_iload 5 rfl rfl rfl ?_
  refine r_ld 24 hI 6 rfl rfl (by omega) (show w1.toInt < 8010 by omega) rfl (fun x1 (e2 : x1.toInt = A0 24 w1.toInt) => ?_)
  refine k_rq hI rfl (m_portsOf  hI.1 ) rfl rfl rfl rfl ?_
  rintro x3 h4 F5 A6 I7 ⟨k9, k10, p8⟩
  replace p8 : x3.toInt = pr x1.toInt := p8
  have k9 := fr1.nil k9
  subst k9
  have k10 := fr2.nil k10
  subst k10
  show am_Ok _ _ _ (9, _, [.inl x3], _, 0, 0) _
  have hq1 := p8
  rw [e2] at hq1
  have hr1 := pr_le (A0 24 w1.toInt)
  refine k_push 10 rfl rfl ?_
  have hc11 : (1 : Int32).toInt = 1 := by decide
  obtain ⟨x12, q13⟩ : ∃ q : Int32, q = (x3 - (1 : Int32)) := ⟨_, rfl⟩
  have e14 : x12.toInt = x3.toInt - 1 := by rw [q13, iv_sub (by omega) (by omega)]; omega
  refine k_bin x12 11 rfl q13.symm rfl ?_
  refine k_istore 13 rfl rfl ?_
  refine k_aload 14 rfl (gs_ne rfl rfl rfl) rfl ?_
  refine r_gA I7 17 rfl rfl rfl ?_
  refine k_iload 18 rfl (gs_ne rfl rfl rfl) rfl ?_
  refine r_ld 24 I7 19 rfl rfl (by omega) (show w2.toInt < 8010 by omega) rfl (fun x15 (e16 : x15.toInt = A0 24 w2.toInt) => ?_)
  refine k_rq I7 rfl (m_portsOf  I7.1 ) rfl rfl rfl rfl ?_
  rintro x17 h18 F19 A20 I21 ⟨k23, k24, p22⟩
  replace p22 : x17.toInt = pr x15.toInt := p22
  have k23 := fr1.nil k23
  subst k23
  have k24 := fr2.nil k24
  subst k24
  show am_Ok _ _ _ (22, _, [.inl x17], _, 0, 0) _
  have hq2 := p22
  rw [e16] at hq2
  have hr2 := pr_le (A0 24 w2.toInt)
  refine k_push 23 rfl rfl ?_
  obtain ⟨x25, q26⟩ : ∃ q : Int32, q = (x17 - (1 : Int32)) := ⟨_, rfl⟩
  have e27 : x25.toInt = x17.toInt - 1 := by rw [q26, iv_sub (by omega) (by omega)]; omega
  refine k_bin x25 24 rfl q26.symm rfl ?_
  refine k_istore 26 rfl rfl ?_
  refine k_iload 27 rfl (gs_ne rfl rfl (gs_ne rfl rfl rfl)) rfl ?_
  refine k_push 28 rfl rfl ?_
  have hc28 : (5 : Int32).toInt = 5 := by decide
  by_cases b29 : w3 = (5 : Int32)
  · refine k_c2 31 rfl rfl (if_pos b29) ?_
    have b29 := iv_eq.mp b29
    refine k_aload 32 rfl (gs_ne rfl rfl (gs_ne rfl rfl rfl)) rfl ?_
    refine r_gA I21 35 rfl rfl rfl ?_
    refine k_iload 36 rfl (gs_ne rfl rfl (gs_ne rfl rfl rfl)) rfl ?_
    refine r_ld 24 I21 37 rfl rfl (by omega) (show w1.toInt < 8010 by omega) rfl (fun x30 (e31 : x30.toInt = A0 24 w1.toInt) => ?_)
    refine k_push 39 rfl rfl ?_
    have hc32 : (6 : Int32).toInt = 6 := by decide
    by_cases b33 : x30 = (6 : Int32)
    · refine k_c2 42 rfl rfl (if_pos b33) ?_
      have b33 := iv_eq.mp b33
      refine k_iload 44 rfl gs_eq rfl ?_
      refine k_goto 49 rfl rfl ?_
      refine k_push 50 rfl rfl ?_
      have hc34 : (2 : Int32).toInt = 2 := by decide
      obtain ⟨x35, q36⟩ : ∃ q : Int32, q = (x25 - (2 : Int32)) := ⟨_, rfl⟩
      have e37 : x35.toInt = x25.toInt - 2 := by rw [q36, iv_sub (by omega) (by omega)]; omega
      refine k_bin x35 51 rfl q36.symm rfl ?_
      exact k_fin rfl rfl ⟨_, _, _, _, rfl, I21, fr1.rf, fr2.rf, show (w3.toInt = 5 ∧ ((A0 24 w1.toInt = 6 ∧ x35.toInt = pr (A0 24 w2.toInt) - 3) ∨ (A0 24 w1.toInt ≠ 6 ∧ x35.toInt = pr (A0 24 w1.toInt) - 3))) ∨ (w3.toInt < 3 ∧ x35.toInt = -2) ∨ (w3.toInt ≠ 5 ∧ 3 ≤ w3.toInt ∧ x35.toInt = pr (A0 24 w1.toInt) + pr (A0 24 w2.toInt) - 4) by omega⟩
    · refine k_c2 47 rfl rfl (if_neg b33) ?_
      have b33 := mt iv_eq.mpr b33
      refine k_iload 49 rfl (gs_ne rfl rfl gs_eq) rfl ?_
      refine k_push 50 rfl rfl ?_
      have hc38 : (2 : Int32).toInt = 2 := by decide
      obtain ⟨x39, q40⟩ : ∃ q : Int32, q = (x12 - (2 : Int32)) := ⟨_, rfl⟩
      have e41 : x39.toInt = x12.toInt - 2 := by rw [q40, iv_sub (by omega) (by omega)]; omega
      refine k_bin x39 51 rfl q40.symm rfl ?_
      exact k_fin rfl rfl ⟨_, _, _, _, rfl, I21, fr1.rf, fr2.rf, show (w3.toInt = 5 ∧ ((A0 24 w1.toInt = 6 ∧ x39.toInt = pr (A0 24 w2.toInt) - 3) ∨ (A0 24 w1.toInt ≠ 6 ∧ x39.toInt = pr (A0 24 w1.toInt) - 3))) ∨ (w3.toInt < 3 ∧ x39.toInt = -2) ∨ (w3.toInt ≠ 5 ∧ 3 ≤ w3.toInt ∧ x39.toInt = pr (A0 24 w1.toInt) + pr (A0 24 w2.toInt) - 4) by omega⟩
  · refine k_c2 52 rfl rfl (if_neg b29) ?_
    have b29 := mt iv_eq.mpr b29
    refine k_iload 53 rfl (gs_ne rfl rfl (gs_ne rfl rfl rfl)) rfl ?_
    refine k_push 54 rfl rfl ?_
    have hc42 : (3 : Int32).toInt = 3 := by decide
    by_cases b43 : (3 : Int32) ≤ w3
    · refine k_c2 62 rfl rfl (if_pos b43) ?_
      have b43 := iv_le.mp b43
      refine k_iload 64 rfl (gs_ne rfl rfl gs_eq) rfl ?_
      refine k_iload 66 rfl gs_eq rfl ?_
      obtain ⟨x44, q45⟩ : ∃ q : Int32, q = (x12 + x25) := ⟨_, rfl⟩
      have e46 : x44.toInt = x12.toInt + x25.toInt := by rw [q45, iv_add (by omega) (by omega)]
      refine k_bin x44 67 rfl q45.symm rfl ?_
      refine k_push 68 rfl rfl ?_
      have hc47 : (2 : Int32).toInt = 2 := by decide
      obtain ⟨x48, q49⟩ : ∃ q : Int32, q = (x44 - (2 : Int32)) := ⟨_, rfl⟩
      have e50 : x48.toInt = x44.toInt - 2 := by rw [q49, iv_sub (by omega) (by omega)]; omega
      refine k_bin x48 69 rfl q49.symm rfl ?_
      exact k_fin rfl rfl ⟨_, _, _, _, rfl, I21, fr1.rf, fr2.rf, show (w3.toInt = 5 ∧ ((A0 24 w1.toInt = 6 ∧ x48.toInt = pr (A0 24 w2.toInt) - 3) ∨ (A0 24 w1.toInt ≠ 6 ∧ x48.toInt = pr (A0 24 w1.toInt) - 3))) ∨ (w3.toInt < 3 ∧ x48.toInt = -2) ∨ (w3.toInt ≠ 5 ∧ 3 ≤ w3.toInt ∧ x48.toInt = pr (A0 24 w1.toInt) + pr (A0 24 w2.toInt) - 4) by omega⟩
    · refine k_c2 57 rfl rfl (if_neg b43) ?_
      have b43 := mt iv_le.mpr b43
      refine k_push 59 rfl rfl ?_
      have hc51 : (-2 : Int32).toInt = -2 := by decide
      refine k_goto 69 rfl rfl ?_
      exact k_fin rfl rfl ⟨_, _, _, _, rfl, I21, fr1.rf, fr2.rf, show (w3.toInt = 5 ∧ ((A0 24 w1.toInt = 6 ∧ (-2 : Int32).toInt = pr (A0 24 w2.toInt) - 3) ∨ (A0 24 w1.toInt ≠ 6 ∧ (-2 : Int32).toInt = pr (A0 24 w1.toInt) - 3))) ∨ (w3.toInt < 3 ∧ (-2 : Int32).toInt = -2) ∨ (w3.toInt ≠ 5 ∧ 3 ≤ w3.toInt ∧ (-2 : Int32).toInt = pr (A0 24 w1.toInt) + pr (A0 24 w2.toInt) - 4) by omega⟩
end
