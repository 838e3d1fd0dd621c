section
theorem b_X10_active_10 {h0 : am_h} {F0 : rf_f} {A0 : rf_A} {w1 : Int32} {w2 : Int32} {lm : Int → Int} {gT : Int} (p1 : nn (A0 24) (A0 25) (F0 28) gT) (p2 : nw (A0 24) (A0 25) (A0 26) lm (F0 28)) : ∀ (n : Nat) {lv : am_l} {h : am_h} {F : rf_f} {A : rf_A} {v1 : Int32} {v2 : Int32} {v3 : Int32} {v4 : Int32}, ((F0 28 - v4.toInt).toNat) = n → am_get lv 0 = some (.inr (.inr (some 81))) → am_get lv 1 = some (.inl v1) → am_get lv 2 = some (.inl v2) → am_get lv 3 = some (.inl v3) → am_get lv 4 = some (.inl v4) → rf_I h0 h F A → fr1 [0] F0 F → fr2 [] A0 A → (v1.toInt = w1.toInt ∧ v3.toInt ≤ w1.toInt ∧ w1.toInt - v4.toInt ≤ v3.toInt) → (0 ≤ v4.toInt ∧ v4.toInt ≤ F0 28) → am_Ok am_G 4 251 (10, lv, [], h, 0, 0) (rf_Q h0 (fun x F' A' => fr1 [0] F0 F' ∧ fr2 [] A0 A' ∧ (True))) := by
  intro n
  induction n using Nat.strongRecOn with
  | ind n ih =>
    intro lv h F A v1 v2 v3 v4 hn g0 g1 g2 g3 g4 hI hF hA i1 i2
    have hb1 := p1.1
    have hb2 := p1.2.1
    have hbw := And.intro (iv_hi w1) (iv_lo w1)
    refine k_iload 12 rfl g4 rfl ?_
    refine k_aload 13 rfl g0 rfl ?_
    refine r_gI hI 16 rfl rfl rfl (fun x1 (e2 : x1.toInt = F 28) => ?_)
    have e3 : F 28 = F0 28 := hF 28 (by decide)
    by_cases b4 : x1 ≤ v4
    · refine k_c2 103 rfl rfl (if_pos b4) ?_
      have b4 := iv_le.mp b4
      refine k_aload 104 rfl g0 rfl ?_
      refine k_push 105 rfl rfl ?_
      have hc5 : (0 : Int32).toInt = 0 := by decide
      refine k_push 106 rfl rfl ?_
      have hc6 : (1 : Int32).toInt = 1 := by decide
      refine k_in (d := 0) rfl rfl rfl rfl hI.rc ?_
      refine k_aload 1 rfl rfl rfl ?_
      refine r_gI hI 4 rfl rfl rfl (fun x7 (e8 : x7.toInt = F 0) => ?_)
      by_cases b9 : x7 = 0
      · refine k_c1 7 rfl rfl (if_pos b9) ?_
        have b9 := iv_eq0.mp b9
        refine k_iload 8 rfl rfl rfl ?_
        refine k_c1 11 rfl rfl (if_pos (by decide)) ?_
        refine k_aload 12 rfl rfl rfl ?_
        refine k_iload 13 rfl rfl rfl ?_
        refine r_pI hI 16 rfl rfl rfl (fun h10 I11 => ?_)
        refine k_aload 17 rfl rfl rfl ?_
        refine r_gI I11 20 rfl rfl rfl (fun x12 (e13 : x12.toInt = (1 : Int32).toInt) => ?_)
        by_cases b14 : x12 = 0
        · refine k_c1 23 rfl rfl (if_pos b14) ?_
          have b14 := iv_eq0.mp b14
          refine k_push 24 rfl rfl ?_
          refine k_goto 28 rfl rfl ?_
          refine k_fin rfl (fin_Z (Or.inr rfl)) ⟨_, _, rfl, rf_len hI I11, ?_⟩
          show am_Ok _ _ _ (109, _, [.inl (1 : Int32)], _, 0, 0) _
          refine k_pop 110 rfl rfl rfl ?_
          refine k_push 111 rfl rfl ?_
          exact k_fin rfl rfl ⟨_, _, _, _, rfl, I11, (fr1.up (by decide) hF), hA, show True from trivial⟩
        · refine k_c1 27 rfl rfl (if_neg b14) ?_
          have b14 := mt iv_eq0.mpr b14
          refine k_push 28 rfl rfl ?_
          refine k_fin rfl (fin_Z (Or.inl rfl)) ⟨_, _, rfl, rf_len hI I11, ?_⟩
          show am_Ok _ _ _ (109, _, [.inl (0 : Int32)], _, 0, 0) _
          refine k_pop 110 rfl rfl rfl ?_
          refine k_push 111 rfl rfl ?_
          exact k_fin rfl rfl ⟨_, _, _, _, rfl, I11, (fr1.up (by decide) hF), hA, show True from trivial⟩
      · refine k_c1 16 rfl rfl (if_neg b9) ?_
        have b9 := mt iv_eq0.mpr b9
        refine k_aload 17 rfl rfl rfl ?_
        refine r_gI hI 20 rfl rfl rfl (fun x15 (e16 : x15.toInt = F 0) => ?_)
        by_cases b17 : x15 = 0
        · refine k_c1 23 rfl rfl (if_pos b17) ?_
          have b17 := iv_eq0.mp b17
          refine k_push 24 rfl rfl ?_
          refine k_goto 28 rfl rfl ?_
          refine k_fin rfl (fin_Z (Or.inr rfl)) ⟨_, _, rfl, rf_len hI hI, ?_⟩
          show am_Ok _ _ _ (109, _, [.inl (1 : Int32)], _, 0, 0) _
          refine k_pop 110 rfl rfl rfl ?_
          refine k_push 111 rfl rfl ?_
          exact k_fin rfl rfl ⟨_, _, _, _, rfl, hI, hF, hA, show True from trivial⟩
        · refine k_c1 27 rfl rfl (if_neg b17) ?_
          have b17 := mt iv_eq0.mpr b17
          refine k_push 28 rfl rfl ?_
          refine k_fin rfl (fin_Z (Or.inl rfl)) ⟨_, _, rfl, rf_len hI hI, ?_⟩
          show am_Ok _ _ _ (109, _, [.inl (0 : Int32)], _, 0, 0) _
          refine k_pop 110 rfl rfl rfl ?_
          refine k_push 111 rfl rfl ?_
          exact k_fin rfl rfl ⟨_, _, _, _, rfl, hI, hF, hA, show True from trivial⟩
    · refine k_c2 19 rfl rfl (if_neg b4) ?_
      have b4 := mt iv_le.mpr b4
      refine k_iload 20 rfl g1 rfl ?_
      by_cases b18 : v1 < 0
      · refine k_c1 103 rfl rfl (if_pos b18) ?_
        have b18 := iv_lt0.mp b18
        refine k_aload 104 rfl g0 rfl ?_
        refine k_push 105 rfl rfl ?_
        have hc19 : (0 : Int32).toInt = 0 := by decide
        refine k_push 106 rfl rfl ?_
        have hc20 : (1 : Int32).toInt = 1 := by decide
        refine k_in (d := 0) rfl rfl rfl rfl hI.rc ?_
        refine k_aload 1 rfl rfl rfl ?_
        refine r_gI hI 4 rfl rfl rfl (fun x21 (e22 : x21.toInt = F 0) => ?_)
        by_cases b23 : x21 = 0
        · refine k_c1 7 rfl rfl (if_pos b23) ?_
          have b23 := iv_eq0.mp b23
          refine k_iload 8 rfl rfl rfl ?_
          refine k_c1 11 rfl rfl (if_pos (by decide)) ?_
          refine k_aload 12 rfl rfl rfl ?_
          refine k_iload 13 rfl rfl rfl ?_
          refine r_pI hI 16 rfl rfl rfl (fun h24 I25 => ?_)
          refine k_aload 17 rfl rfl rfl ?_
          refine r_gI I25 20 rfl rfl rfl (fun x26 (e27 : x26.toInt = (1 : Int32).toInt) => ?_)
          by_cases b28 : x26 = 0
          · refine k_c1 23 rfl rfl (if_pos b28) ?_
            have b28 := iv_eq0.mp b28
            refine k_push 24 rfl rfl ?_
            refine k_goto 28 rfl rfl ?_
            refine k_fin rfl (fin_Z (Or.inr rfl)) ⟨_, _, rfl, rf_len hI I25, ?_⟩
            show am_Ok _ _ _ (109, _, [.inl (1 : Int32)], _, 0, 0) _
            refine k_pop 110 rfl rfl rfl ?_
            refine k_push 111 rfl rfl ?_
            exact k_fin rfl rfl ⟨_, _, _, _, rfl, I25, (fr1.up (by decide) hF), hA, show True from trivial⟩
          · refine k_c1 27 rfl rfl (if_neg b28) ?_
            have b28 := mt iv_eq0.mpr b28
            refine k_push 28 rfl rfl ?_
            refine k_fin rfl (fin_Z (Or.inl rfl)) ⟨_, _, rfl, rf_len hI I25, ?_⟩
            show am_Ok _ _ _ (109, _, [.inl (0 : Int32)], _, 0, 0) _
            refine k_pop 110 rfl rfl rfl ?_
            refine k_push 111 rfl rfl ?_
            exact k_fin rfl rfl ⟨_, _, _, _, rfl, I25, (fr1.up (by decide) hF), hA, show True from trivial⟩
        · refine k_c1 16 rfl rfl (if_neg b23) ?_
          have b23 := mt iv_eq0.mpr b23
          refine k_aload 17 rfl rfl rfl ?_
          refine r_gI hI 20 rfl rfl rfl (fun x29 (e30 : x29.toInt = F 0) => ?_)
          by_cases b31 : x29 = 0
          · refine k_c1 23 rfl rfl (if_pos b31) ?_
            have b31 := iv_eq0.mp b31
            refine k_push 24 rfl rfl ?_
            refine k_goto 28 rfl rfl ?_
            refine k_fin rfl (fin_Z (Or.inr rfl)) ⟨_, _, rfl, rf_len hI hI, ?_⟩
            show am_Ok _ _ _ (109, _, [.inl (1 : Int32)], _, 0, 0) _
            refine k_pop 110 rfl rfl rfl ?_
            refine k_push 111 rfl rfl ?_
            exact k_fin rfl rfl ⟨_, _, _, _, rfl, hI, hF, hA, show True from trivial⟩
          · refine k_c1 27 rfl rfl (if_neg b31) ?_
            have b31 := mt iv_eq0.mpr b31
            refine k_push 28 rfl rfl ?_
            refine k_fin rfl (fin_Z (Or.inl rfl)) ⟨_, _, rfl, rf_len hI hI, ?_⟩
            show am_Ok _ _ _ (109, _, [.inl (0 : Int32)], _, 0, 0) _
            refine k_pop 110 rfl rfl rfl ?_
            refine k_push 111 rfl rfl ?_
            exact k_fin rfl rfl ⟨_, _, _, _, rfl, hI, hF, hA, show True from trivial⟩
      · refine k_c1 23 rfl rfl (if_neg b18) ?_
        have b18 := mt iv_lt0.mpr b18
        refine k_aload 24 rfl g0 rfl ?_
        refine k_iload 26 rfl g4 rfl ?_
        refine k_rq hI rfl (m_isLesser (lm := lm) (gT := gT) hI.1 (show nn ((A 24)) ((A 25)) ((F 28)) (gT) by rw [hA 24 (by decide), hA 25 (by decide), hF 28 (by decide)]; exact p1) (show nw ((A 24)) ((A 25)) ((A 26)) (lm) ((F 28)) by rw [hA 24 (by decide), hA 25 (by decide), hA 26 (by decide), hF 28 (by decide)]; exact p2)) rfl rfl rfl hI.rc ?_
        rintro x32 h33 F34 A35 I36 ⟨k38, k39, p37⟩
        replace p37 : x32.toInt = 0 ∨ (x32.toInt = 1 ∧ ∃ m, act ((A 24)) ((A 26)) ((F 28)) v4.toInt m) := p37
        have k38 := fr1.nil k38
        subst k38
        have k39 := fr2.nil k39
        subst k39
        have z40 := iv_01 (x := x32) (by rcases p37 with e | ⟨e, -⟩ <;> omega)
        show am_Ok _ _ _ (29, _, [.inl x32], _, 0, 0) _
        by_cases b41 : x32 = 0
        · refine k_c1 32 rfl rfl (if_pos b41) ?_
          have b41 := iv_eq0.mp b41
          refine k_goto 97 rfl rfl ?_
          have hc42 : (1 : Int32).toInt = 1 := by decide
          obtain ⟨x43, q44⟩ : ∃ q : Int32, q = v4 + (1 : Int32) := ⟨_, rfl⟩
          have e45 : x43.toInt = v4.toInt + 1 := by rw [q44, iv_add (by omega) (by omega)]; omega
          refine k_iinc x43 100 rfl g4 q44.symm rfl ?_
          refine k_goto 10 rfl rfl ?_
          exact ih _ (show ((F0 28 - x43.toInt).toNat) < n by omega)  rfl (gs_ne rfl rfl g0) (gs_ne rfl rfl g1) (gs_ne rfl rfl g2) (gs_ne rfl rfl g3) gs_eq I36 hF hA (show v1.toInt = w1.toInt ∧ v3.toInt ≤ w1.toInt ∧ w1.toInt - x43.toInt ≤ v3.toInt by omega) (show 0 ≤ x43.toInt ∧ x43.toInt ≤ F0 28 by omega)
        · refine k_c1 35 rfl rfl (if_neg b41) ?_
          have b41 := mt iv_eq0.mpr b41
          refine k_iload 36 rfl g3 rfl ?_
          by_cases b46 : v3 = 0
          · refine k_c1 39 rfl rfl (if_pos b46) ?_
            have b46 := iv_eq0.mp b46
            refine k_aload 40 rfl g0 rfl ?_
            refine k_iload 41 rfl g2 rfl ?_
            refine k_push 42 rfl rfl ?_
            have hc47 : (0 : Int32).toInt = 0 := by decide
            refine k_push 43 rfl rfl ?_
            have hc48 : (2 : Int32).toInt = 2 := by decide
            refine k_in (d := 0) rfl rfl rfl rfl rfl ?_
            refine k_iload 1 rfl rfl rfl ?_
            refine k_iload 2 rfl rfl rfl ?_
            by_cases b49 : v2 < (0 : Int32)
            · refine k_c2 14 rfl rfl (if_pos b49) ?_
              have b49 := iv_lt.mp b49
              refine k_push 15 rfl rfl ?_
              refine k_fin rfl (fin_Z (Or.inl rfl)) ⟨_, _, rfl, rf_len I36 I36, ?_⟩
              show am_Ok _ _ _ (46, _, [.inl (0 : Int32), .inr (.inr (some 81))], _, 0, 0) _
              refine k_push 47 rfl rfl ?_
              have hc50 : (1 : Int32).toInt = 1 := by decide
              refine k_in (d := 0) rfl rfl rfl rfl I36.rc ?_
              refine k_aload 1 rfl rfl rfl ?_
              refine r_gI I36 4 rfl rfl rfl (fun x51 (e52 : x51.toInt = F 0) => ?_)
              by_cases b53 : x51 = 0
              · refine k_c1 7 rfl rfl (if_pos b53) ?_
                have b53 := iv_eq0.mp b53
                refine k_iload 8 rfl rfl rfl ?_
                refine k_c1 11 rfl rfl (if_pos (by decide)) ?_
                refine k_aload 12 rfl rfl rfl ?_
                refine k_iload 13 rfl rfl rfl ?_
                refine r_pI I36 16 rfl rfl rfl (fun h54 I55 => ?_)
                refine k_aload 17 rfl rfl rfl ?_
                refine r_gI I55 20 rfl rfl rfl (fun x56 (e57 : x56.toInt = (1 : Int32).toInt) => ?_)
                by_cases b58 : x56 = 0
                · refine k_c1 23 rfl rfl (if_pos b58) ?_
                  have b58 := iv_eq0.mp b58
                  refine k_push 24 rfl rfl ?_
                  refine k_goto 28 rfl rfl ?_
                  refine k_fin rfl (fin_Z (Or.inr rfl)) ⟨_, _, rfl, rf_len I36 I55, ?_⟩
                  show am_Ok _ _ _ (50, _, [.inl (1 : Int32)], _, 0, 0) _
                  refine k_c1 53 rfl rfl (if_neg (by decide)) ?_
                  obtain ⟨mm9, ha9⟩ := (p37.resolve_left (fun z => by omega)).2
                  have ha3 := ha9.2.2.1
                  have ha4 := ha9.2.2.2.1
                  rw [hF 28 (by decide)] at ha4
                  refine k_aload 54 rfl g0 rfl ?_
                  refine r_gA I55 57 rfl rfl rfl ?_
                  refine k_push 58 rfl rfl ?_
                  have hc59 : (4 : Int32).toInt = 4 := by decide
                  refine k_iload 60 rfl g4 rfl ?_
                  obtain ⟨x60, q61⟩ : ∃ q : Int32, q = ((4 : Int32) * v4) := ⟨_, rfl⟩
                  have e62 : x60.toInt = 4 * v4.toInt := by rw [q61]; exact iv_mulc 4 (by decide) (by omega) (by omega)
                  refine k_bin x60 61 rfl q61.symm rfl ?_
                  refine r_ld 26 I55 62 rfl rfl (by omega) (show x60.toInt < 32040 by omega) rfl (fun x63 (e64 : x63.toInt = A 26 x60.toInt) => ?_)
                  rw [e62] at e64
                  have e65 : A 26 = A0 26 := hA 26 (by decide)
                  rw [e65] at e64
                  have hv9 : x63.toInt = 4 * mm9 := by have h8 := ha9.2.2.2.2.2.2.2.2.1; rw [hA 26 (by decide)] at h8; exact e64.trans ((congrArg (A0 26) (by omega)).trans h8)
                  refine k_push 63 rfl rfl ?_
                  obtain ⟨x66, q67⟩ : ∃ q : Int32, q = (x63 / (4 : Int32)) := ⟨_, rfl⟩
                  have e68 : x66.toInt = x63.toInt / 4 := by rw [q67]; exact iv_div 4 (by decide) (by decide) (by omega)
                  refine k_divZ x66 64 rfl (by decide) q67.symm rfl ?_
                  refine k_istore 66 rfl rfl ?_
                  refine k_iload 67 rfl (gs_ne rfl rfl g2) rfl ?_
                  by_cases b69 : v2 = 0
                  · refine k_c1 70 rfl rfl (if_pos b69) ?_
                    have b69 := iv_eq0.mp b69
                    refine k_iload 72 rfl (gs_ne rfl rfl g4) rfl ?_
                    refine k_goto 93 rfl rfl ?_
                    exact k_fin rfl rfl ⟨_, _, _, _, rfl, I55, (fr1.up (by decide) hF), hA, show True from trivial⟩
                  · refine k_c1 75 rfl rfl (if_neg b69) ?_
                    have b69 := mt iv_eq0.mpr b69
                    refine k_iload 76 rfl (gs_ne rfl rfl g2) rfl ?_
                    refine k_push 77 rfl rfl ?_
                    by_cases b70 : v2 = (1 : Int32)
                    · refine k_c2 80 rfl rfl (if_pos b70) ?_
                      have b70 := iv_eq.mp b70
                      refine k_iload 82 rfl gs_eq rfl ?_
                      refine k_goto 93 rfl rfl ?_
                      exact k_fin rfl rfl ⟨_, _, _, _, rfl, I55, (fr1.up (by decide) hF), hA, show True from trivial⟩
                    · refine k_c2 85 rfl rfl (if_neg b70) ?_
                      have b70 := mt iv_eq.mpr b70
                      refine k_aload 86 rfl (gs_ne rfl rfl g0) rfl ?_
                      refine k_iload 88 rfl (gs_ne rfl rfl g4) rfl ?_
                      refine k_iload 90 rfl gs_eq rfl ?_
                      refine k_rq I55 rfl (m_kindOf  I55.1 (show 0 ≤ v4.toInt ∧ v4.toInt < 8000 ∧ 0 ≤ x66.toInt ∧ x66.toInt < 8000 by omega)) rfl rfl rfl I55.rc ?_
                      rintro x71 h72 F73 A74 I75 ⟨k77, k78, p76⟩
                      replace p76 : x71.toInt = -2 ∨ (x71.toInt = 5 ∧ ((A 24) v4.toInt = 6 ∨ (A 24) x66.toInt = 6)) ∨ ((A 24) v4.toInt ≠ 6 ∧ (A 24) x66.toInt ≠ 6 ∧ ((x71.toInt = 1 ∧ (A 25) v4.toInt = (A 25) x66.toInt ∧ (((A 24) v4.toInt = 1 ∧ (A 24) x66.toInt = 2) ∨ ((A 24) v4.toInt = 2 ∧ (A 24) x66.toInt = 1))) ∨ (x71.toInt = 2 ∧ (A 25) v4.toInt = (A 25) x66.toInt ∧ (A 24) v4.toInt = (A 24) x66.toInt ∧ 3 ≤ (A 24) v4.toInt ∧ (A 24) v4.toInt ≤ 5) ∨ ((x71.toInt = 3 ∨ x71.toInt = 4) ∧ (((A 25) v4.toInt < (A 25) x66.toInt ∧ 3 ≤ (A 24) v4.toInt ∧ (A 24) v4.toInt ≤ 5) ∨ ((A 25) x66.toInt < (A 25) v4.toInt ∧ 3 ≤ (A 24) x66.toInt ∧ (A 24) x66.toInt ≤ 5))))) := p76
                      have k77 := fr1.nil k77
                      subst k77
                      have k78 := fr2.nil k78
                      subst k78
                      show am_Ok _ _ _ (93, _, [.inl x71], _, 0, 0) _
                      exact k_fin rfl rfl ⟨_, _, _, _, rfl, I75, (fr1.up (by decide) hF), hA, show True from trivial⟩
                · refine k_c1 27 rfl rfl (if_neg b58) ?_
                  have b58 := mt iv_eq0.mpr b58
                  refine k_push 28 rfl rfl ?_
                  refine k_fin rfl (fin_Z (Or.inl rfl)) ⟨_, _, rfl, rf_len I36 I55, ?_⟩
                  show am_Ok _ _ _ (50, _, [.inl (0 : Int32)], _, 0, 0) _
                  refine k_c1 94 rfl rfl (if_pos (by decide)) ?_
                  have hc79 : (-1 : Int32).toInt = -1 := by decide
                  obtain ⟨x80, q81⟩ : ∃ q : Int32, q = v3 + (-1 : Int32) := ⟨_, rfl⟩
                  have e82 : x80.toInt = v3.toInt + -1 := by rw [q81, iv_add (by omega) (by omega)]; omega
                  refine k_iinc x80 97 rfl g3 q81.symm rfl ?_
                  obtain ⟨x83, q84⟩ : ∃ q : Int32, q = v4 + (1 : Int32) := ⟨_, rfl⟩
                  have e85 : x83.toInt = v4.toInt + 1 := by rw [q84, iv_add (by omega) (by omega)]; omega
                  refine k_iinc x83 100 rfl (gs_ne rfl rfl g4) q84.symm rfl ?_
                  refine k_goto 10 rfl rfl ?_
                  exact ih _ (show ((F0 28 - x83.toInt).toNat) < n by omega)  rfl (gs_ne rfl rfl (gs_ne rfl rfl g0)) (gs_ne rfl rfl (gs_ne rfl rfl g1)) (gs_ne rfl rfl (gs_ne rfl rfl g2)) (gs_ne rfl rfl gs_eq) gs_eq I55 (fr1.up (by decide) hF) hA (show v1.toInt = w1.toInt ∧ x80.toInt ≤ w1.toInt ∧ w1.toInt - x83.toInt ≤ x80.toInt by omega) (show 0 ≤ x83.toInt ∧ x83.toInt ≤ F0 28 by omega)
              · refine k_c1 16 rfl rfl (if_neg b53) ?_
                have b53 := mt iv_eq0.mpr b53
                refine k_aload 17 rfl rfl rfl ?_
                refine r_gI I36 20 rfl rfl rfl (fun x86 (e87 : x86.toInt = F 0) => ?_)
                by_cases b88 : x86 = 0
                · refine k_c1 23 rfl rfl (if_pos b88) ?_
                  have b88 := iv_eq0.mp b88
                  refine k_push 24 rfl rfl ?_
                  refine k_goto 28 rfl rfl ?_
                  refine k_fin rfl (fin_Z (Or.inr rfl)) ⟨_, _, rfl, rf_len I36 I36, ?_⟩
                  show am_Ok _ _ _ (50, _, [.inl (1 : Int32)], _, 0, 0) _
                  refine k_c1 53 rfl rfl (if_neg (by decide)) ?_
                  obtain ⟨mm9, ha9⟩ := (p37.resolve_left (fun z => by omega)).2
                  have ha3 := ha9.2.2.1
                  have ha4 := ha9.2.2.2.1
                  rw [hF 28 (by decide)] at ha4
                  refine k_aload 54 rfl g0 rfl ?_
                  refine r_gA I36 57 rfl rfl rfl ?_
                  refine k_push 58 rfl rfl ?_
                  have hc89 : (4 : Int32).toInt = 4 := by decide
                  refine k_iload 60 rfl g4 rfl ?_
                  obtain ⟨x90, q91⟩ : ∃ q : Int32, q = ((4 : Int32) * v4) := ⟨_, rfl⟩
                  have e92 : x90.toInt = 4 * v4.toInt := by rw [q91]; exact iv_mulc 4 (by decide) (by omega) (by omega)
                  refine k_bin x90 61 rfl q91.symm rfl ?_
                  refine r_ld 26 I36 62 rfl rfl (by omega) (show x90.toInt < 32040 by omega) rfl (fun x93 (e94 : x93.toInt = A 26 x90.toInt) => ?_)
                  rw [e92] at e94
                  have e95 : A 26 = A0 26 := hA 26 (by decide)
                  rw [e95] at e94
                  have hv9 : x93.toInt = 4 * mm9 := by have h8 := ha9.2.2.2.2.2.2.2.2.1; rw [hA 26 (by decide)] at h8; exact e94.trans ((congrArg (A0 26) (by omega)).trans h8)
                  refine k_push 63 rfl rfl ?_
                  obtain ⟨x96, q97⟩ : ∃ q : Int32, q = (x93 / (4 : Int32)) := ⟨_, rfl⟩
                  have e98 : x96.toInt = x93.toInt / 4 := by rw [q97]; exact iv_div 4 (by decide) (by decide) (by omega)
                  refine k_divZ x96 64 rfl (by decide) q97.symm rfl ?_
                  refine k_istore 66 rfl rfl ?_
                  refine k_iload 67 rfl (gs_ne rfl rfl g2) rfl ?_
                  by_cases b99 : v2 = 0
                  · refine k_c1 70 rfl rfl (if_pos b99) ?_
                    have b99 := iv_eq0.mp b99
                    refine k_iload 72 rfl (gs_ne rfl rfl g4) rfl ?_
                    refine k_goto 93 rfl rfl ?_
                    exact k_fin rfl rfl ⟨_, _, _, _, rfl, I36, hF, hA, show True from trivial⟩
                  · refine k_c1 75 rfl rfl (if_neg b99) ?_
                    have b99 := mt iv_eq0.mpr b99
                    refine k_iload 76 rfl (gs_ne rfl rfl g2) rfl ?_
                    refine k_push 77 rfl rfl ?_
                    by_cases b100 : v2 = (1 : Int32)
                    · refine k_c2 80 rfl rfl (if_pos b100) ?_
                      have b100 := iv_eq.mp b100
                      refine k_iload 82 rfl gs_eq rfl ?_
                      refine k_goto 93 rfl rfl ?_
                      exact k_fin rfl rfl ⟨_, _, _, _, rfl, I36, hF, hA, show True from trivial⟩
                    · refine k_c2 85 rfl rfl (if_neg b100) ?_
                      have b100 := mt iv_eq.mpr b100
                      refine k_aload 86 rfl (gs_ne rfl rfl g0) rfl ?_
                      refine k_iload 88 rfl (gs_ne rfl rfl g4) rfl ?_
                      refine k_iload 90 rfl gs_eq rfl ?_
                      refine k_rq I36 rfl (m_kindOf  I36.1 (show 0 ≤ v4.toInt ∧ v4.toInt < 8000 ∧ 0 ≤ x96.toInt ∧ x96.toInt < 8000 by omega)) rfl rfl rfl I36.rc ?_
                      rintro x101 h102 F103 A104 I105 ⟨k107, k108, p106⟩
                      replace p106 : x101.toInt = -2 ∨ (x101.toInt = 5 ∧ ((A 24) v4.toInt = 6 ∨ (A 24) x96.toInt = 6)) ∨ ((A 24) v4.toInt ≠ 6 ∧ (A 24) x96.toInt ≠ 6 ∧ ((x101.toInt = 1 ∧ (A 25) v4.toInt = (A 25) x96.toInt ∧ (((A 24) v4.toInt = 1 ∧ (A 24) x96.toInt = 2) ∨ ((A 24) v4.toInt = 2 ∧ (A 24) x96.toInt = 1))) ∨ (x101.toInt = 2 ∧ (A 25) v4.toInt = (A 25) x96.toInt ∧ (A 24) v4.toInt = (A 24) x96.toInt ∧ 3 ≤ (A 24) v4.toInt ∧ (A 24) v4.toInt ≤ 5) ∨ ((x101.toInt = 3 ∨ x101.toInt = 4) ∧ (((A 25) v4.toInt < (A 25) x96.toInt ∧ 3 ≤ (A 24) v4.toInt ∧ (A 24) v4.toInt ≤ 5) ∨ ((A 25) x96.toInt < (A 25) v4.toInt ∧ 3 ≤ (A 24) x96.toInt ∧ (A 24) x96.toInt ≤ 5))))) := p106
                      have k107 := fr1.nil k107
                      subst k107
                      have k108 := fr2.nil k108
                      subst k108
                      show am_Ok _ _ _ (93, _, [.inl x101], _, 0, 0) _
                      exact k_fin rfl rfl ⟨_, _, _, _, rfl, I105, hF, hA, show True from trivial⟩
                · refine k_c1 27 rfl rfl (if_neg b88) ?_
                  have b88 := mt iv_eq0.mpr b88
                  refine k_push 28 rfl rfl ?_
                  refine k_fin rfl (fin_Z (Or.inl rfl)) ⟨_, _, rfl, rf_len I36 I36, ?_⟩
                  show am_Ok _ _ _ (50, _, [.inl (0 : Int32)], _, 0, 0) _
                  refine k_c1 94 rfl rfl (if_pos (by decide)) ?_
                  have hc109 : (-1 : Int32).toInt = -1 := by decide
                  obtain ⟨x110, q111⟩ : ∃ q : Int32, q = v3 + (-1 : Int32) := ⟨_, rfl⟩
                  have e112 : x110.toInt = v3.toInt + -1 := by rw [q111, iv_add (by omega) (by omega)]; omega
                  refine k_iinc x110 97 rfl g3 q111.symm rfl ?_
                  obtain ⟨x113, q114⟩ : ∃ q : Int32, q = v4 + (1 : Int32) := ⟨_, rfl⟩
                  have e115 : x113.toInt = v4.toInt + 1 := by rw [q114, iv_add (by omega) (by omega)]; omega
                  refine k_iinc x113 100 rfl (gs_ne rfl rfl g4) q114.symm rfl ?_
                  refine k_goto 10 rfl rfl ?_
                  exact ih _ (show ((F0 28 - x113.toInt).toNat) < n by omega)  rfl (gs_ne rfl rfl (gs_ne rfl rfl g0)) (gs_ne rfl rfl (gs_ne rfl rfl g1)) (gs_ne rfl rfl (gs_ne rfl rfl g2)) (gs_ne rfl rfl gs_eq) gs_eq I36 hF hA (show v1.toInt = w1.toInt ∧ x110.toInt ≤ w1.toInt ∧ w1.toInt - x113.toInt ≤ x110.toInt by omega) (show 0 ≤ x113.toInt ∧ x113.toInt ≤ F0 28 by omega)
            · refine k_c2 5 rfl rfl (if_neg b49) ?_
              have b49 := mt iv_lt.mpr b49
              refine k_iload 6 rfl rfl rfl ?_
              refine k_iload 7 rfl rfl rfl ?_
              by_cases b116 : (2 : Int32) < v2
              · refine k_c2 14 rfl rfl (if_pos b116) ?_
                have b116 := iv_lt.mp b116
                refine k_push 15 rfl rfl ?_
                refine k_fin rfl (fin_Z (Or.inl rfl)) ⟨_, _, rfl, rf_len I36 I36, ?_⟩
                show am_Ok _ _ _ (46, _, [.inl (0 : Int32), .inr (.inr (some 81))], _, 0, 0) _
                refine k_push 47 rfl rfl ?_
                have hc117 : (1 : Int32).toInt = 1 := by decide
                refine k_in (d := 0) rfl rfl rfl rfl I36.rc ?_
                refine k_aload 1 rfl rfl rfl ?_
                refine r_gI I36 4 rfl rfl rfl (fun x118 (e119 : x118.toInt = F 0) => ?_)
                by_cases b120 : x118 = 0
                · refine k_c1 7 rfl rfl (if_pos b120) ?_
                  have b120 := iv_eq0.mp b120
                  refine k_iload 8 rfl rfl rfl ?_
                  refine k_c1 11 rfl rfl (if_pos (by decide)) ?_
                  refine k_aload 12 rfl rfl rfl ?_
                  refine k_iload 13 rfl rfl rfl ?_
                  refine r_pI I36 16 rfl rfl rfl (fun h121 I122 => ?_)
                  refine k_aload 17 rfl rfl rfl ?_
                  refine r_gI I122 20 rfl rfl rfl (fun x123 (e124 : x123.toInt = (1 : Int32).toInt) => ?_)
                  by_cases b125 : x123 = 0
                  · refine k_c1 23 rfl rfl (if_pos b125) ?_
                    have b125 := iv_eq0.mp b125
                    refine k_push 24 rfl rfl ?_
                    refine k_goto 28 rfl rfl ?_
                    refine k_fin rfl (fin_Z (Or.inr rfl)) ⟨_, _, rfl, rf_len I36 I122, ?_⟩
                    show am_Ok _ _ _ (50, _, [.inl (1 : Int32)], _, 0, 0) _
                    refine k_c1 53 rfl rfl (if_neg (by decide)) ?_
                    obtain ⟨mm9, ha9⟩ := (p37.resolve_left (fun z => by omega)).2
                    have ha3 := ha9.2.2.1
                    have ha4 := ha9.2.2.2.1
                    rw [hF 28 (by decide)] at ha4
                    refine k_aload 54 rfl g0 rfl ?_
                    refine r_gA I122 57 rfl rfl rfl ?_
                    refine k_push 58 rfl rfl ?_
                    have hc126 : (4 : Int32).toInt = 4 := by decide
                    refine k_iload 60 rfl g4 rfl ?_
                    obtain ⟨x127, q128⟩ : ∃ q : Int32, q = ((4 : Int32) * v4) := ⟨_, rfl⟩
                    have e129 : x127.toInt = 4 * v4.toInt := by rw [q128]; exact iv_mulc 4 (by decide) (by omega) (by omega)
                    refine k_bin x127 61 rfl q128.symm rfl ?_
                    refine r_ld 26 I122 62 rfl rfl (by omega) (show x127.toInt < 32040 by omega) rfl (fun x130 (e131 : x130.toInt = A 26 x127.toInt) => ?_)
                    rw [e129] at e131
                    have e132 : A 26 = A0 26 := hA 26 (by decide)
                    rw [e132] at e131
                    have hv9 : x130.toInt = 4 * mm9 := by have h8 := ha9.2.2.2.2.2.2.2.2.1; rw [hA 26 (by decide)] at h8; exact e131.trans ((congrArg (A0 26) (by omega)).trans h8)
                    refine k_push 63 rfl rfl ?_
                    obtain ⟨x133, q134⟩ : ∃ q : Int32, q = (x130 / (4 : Int32)) := ⟨_, rfl⟩
                    have e135 : x133.toInt = x130.toInt / 4 := by rw [q134]; exact iv_div 4 (by decide) (by decide) (by omega)
                    refine k_divZ x133 64 rfl (by decide) q134.symm rfl ?_
                    refine k_istore 66 rfl rfl ?_
                    refine k_iload 67 rfl (gs_ne rfl rfl g2) rfl ?_
                    by_cases b136 : v2 = 0
                    · refine k_c1 70 rfl rfl (if_pos b136) ?_
                      have b136 := iv_eq0.mp b136
                      refine k_iload 72 rfl (gs_ne rfl rfl g4) rfl ?_
                      refine k_goto 93 rfl rfl ?_
                      exact k_fin rfl rfl ⟨_, _, _, _, rfl, I122, (fr1.up (by decide) hF), hA, show True from trivial⟩
                    · refine k_c1 75 rfl rfl (if_neg b136) ?_
                      have b136 := mt iv_eq0.mpr b136
                      refine k_iload 76 rfl (gs_ne rfl rfl g2) rfl ?_
                      refine k_push 77 rfl rfl ?_
                      by_cases b137 : v2 = (1 : Int32)
                      · refine k_c2 80 rfl rfl (if_pos b137) ?_
                        have b137 := iv_eq.mp b137
                        refine k_iload 82 rfl gs_eq rfl ?_
                        refine k_goto 93 rfl rfl ?_
                        exact k_fin rfl rfl ⟨_, _, _, _, rfl, I122, (fr1.up (by decide) hF), hA, show True from trivial⟩
                      · refine k_c2 85 rfl rfl (if_neg b137) ?_
                        have b137 := mt iv_eq.mpr b137
                        refine k_aload 86 rfl (gs_ne rfl rfl g0) rfl ?_
                        refine k_iload 88 rfl (gs_ne rfl rfl g4) rfl ?_
                        refine k_iload 90 rfl gs_eq rfl ?_
                        refine k_rq I122 rfl (m_kindOf  I122.1 (show 0 ≤ v4.toInt ∧ v4.toInt < 8000 ∧ 0 ≤ x133.toInt ∧ x133.toInt < 8000 by omega)) rfl rfl rfl I122.rc ?_
                        rintro x138 h139 F140 A141 I142 ⟨k144, k145, p143⟩
                        replace p143 : x138.toInt = -2 ∨ (x138.toInt = 5 ∧ ((A 24) v4.toInt = 6 ∨ (A 24) x133.toInt = 6)) ∨ ((A 24) v4.toInt ≠ 6 ∧ (A 24) x133.toInt ≠ 6 ∧ ((x138.toInt = 1 ∧ (A 25) v4.toInt = (A 25) x133.toInt ∧ (((A 24) v4.toInt = 1 ∧ (A 24) x133.toInt = 2) ∨ ((A 24) v4.toInt = 2 ∧ (A 24) x133.toInt = 1))) ∨ (x138.toInt = 2 ∧ (A 25) v4.toInt = (A 25) x133.toInt ∧ (A 24) v4.toInt = (A 24) x133.toInt ∧ 3 ≤ (A 24) v4.toInt ∧ (A 24) v4.toInt ≤ 5) ∨ ((x138.toInt = 3 ∨ x138.toInt = 4) ∧ (((A 25) v4.toInt < (A 25) x133.toInt ∧ 3 ≤ (A 24) v4.toInt ∧ (A 24) v4.toInt ≤ 5) ∨ ((A 25) x133.toInt < (A 25) v4.toInt ∧ 3 ≤ (A 24) x133.toInt ∧ (A 24) x133.toInt ≤ 5))))) := p143
                        have k144 := fr1.nil k144
                        subst k144
                        have k145 := fr2.nil k145
                        subst k145
                        show am_Ok _ _ _ (93, _, [.inl x138], _, 0, 0) _
                        exact k_fin rfl rfl ⟨_, _, _, _, rfl, I142, (fr1.up (by decide) hF), hA, show True from trivial⟩
                  · refine k_c1 27 rfl rfl (if_neg b125) ?_
                    have b125 := mt iv_eq0.mpr b125
                    refine k_push 28 rfl rfl ?_
                    refine k_fin rfl (fin_Z (Or.inl rfl)) ⟨_, _, rfl, rf_len I36 I122, ?_⟩
                    show am_Ok _ _ _ (50, _, [.inl (0 : Int32)], _, 0, 0) _
                    refine k_c1 94 rfl rfl (if_pos (by decide)) ?_
                    have hc146 : (-1 : Int32).toInt = -1 := by decide
                    obtain ⟨x147, q148⟩ : ∃ q : Int32, q = v3 + (-1 : Int32) := ⟨_, rfl⟩
                    have e149 : x147.toInt = v3.toInt + -1 := by rw [q148, iv_add (by omega) (by omega)]; omega
                    refine k_iinc x147 97 rfl g3 q148.symm rfl ?_
                    obtain ⟨x150, q151⟩ : ∃ q : Int32, q = v4 + (1 : Int32) := ⟨_, rfl⟩
                    have e152 : x150.toInt = v4.toInt + 1 := by rw [q151, iv_add (by omega) (by omega)]; omega
                    refine k_iinc x150 100 rfl (gs_ne rfl rfl g4) q151.symm rfl ?_
                    refine k_goto 10 rfl rfl ?_
                    exact ih _ (show ((F0 28 - x150.toInt).toNat) < n by omega)  rfl (gs_ne rfl rfl (gs_ne rfl rfl g0)) (gs_ne rfl rfl (gs_ne rfl rfl g1)) (gs_ne rfl rfl (gs_ne rfl rfl g2)) (gs_ne rfl rfl gs_eq) gs_eq I122 (fr1.up (by decide) hF) hA (show v1.toInt = w1.toInt ∧ x147.toInt ≤ w1.toInt ∧ w1.toInt - x150.toInt ≤ x147.toInt by omega) (show 0 ≤ x150.toInt ∧ x150.toInt ≤ F0 28 by omega)
                · refine k_c1 16 rfl rfl (if_neg b120) ?_
                  have b120 := mt iv_eq0.mpr b120
                  refine k_aload 17 rfl rfl rfl ?_
                  refine r_gI I36 20 rfl rfl rfl (fun x153 (e154 : x153.toInt = F 0) => ?_)
                  by_cases b155 : x153 = 0
                  · refine k_c1 23 rfl rfl (if_pos b155) ?_
                    have b155 := iv_eq0.mp b155
                    refine k_push 24 rfl rfl ?_
                    refine k_goto 28 rfl rfl ?_
                    refine k_fin rfl (fin_Z (Or.inr rfl)) ⟨_, _, rfl, rf_len I36 I36, ?_⟩
                    show am_Ok _ _ _ (50, _, [.inl (1 : Int32)], _, 0, 0) _
                    refine k_c1 53 rfl rfl (if_neg (by decide)) ?_
                    obtain ⟨mm9, ha9⟩ := (p37.resolve_left (fun z => by omega)).2
                    have ha3 := ha9.2.2.1
                    have ha4 := ha9.2.2.2.1
                    rw [hF 28 (by decide)] at ha4
                    refine k_aload 54 rfl g0 rfl ?_
                    refine r_gA I36 57 rfl rfl rfl ?_
                    refine k_push 58 rfl rfl ?_
                    have hc156 : (4 : Int32).toInt = 4 := by decide
                    refine k_iload 60 rfl g4 rfl ?_
                    obtain ⟨x157, q158⟩ : ∃ q : Int32, q = ((4 : Int32) * v4) := ⟨_, rfl⟩
                    have e159 : x157.toInt = 4 * v4.toInt := by rw [q158]; exact iv_mulc 4 (by decide) (by omega) (by omega)
                    refine k_bin x157 61 rfl q158.symm rfl ?_
                    refine r_ld 26 I36 62 rfl rfl (by omega) (show x157.toInt < 32040 by omega) rfl (fun x160 (e161 : x160.toInt = A 26 x157.toInt) => ?_)
                    rw [e159] at e161
                    have e162 : A 26 = A0 26 := hA 26 (by decide)
                    rw [e162] at e161
                    have hv9 : x160.toInt = 4 * mm9 := by have h8 := ha9.2.2.2.2.2.2.2.2.1; rw [hA 26 (by decide)] at h8; exact e161.trans ((congrArg (A0 26) (by omega)).trans h8)
                    refine k_push 63 rfl rfl ?_
                    obtain ⟨x163, q164⟩ : ∃ q : Int32, q = (x160 / (4 : Int32)) := ⟨_, rfl⟩
                    have e165 : x163.toInt = x160.toInt / 4 := by rw [q164]; exact iv_div 4 (by decide) (by decide) (by omega)
                    refine k_divZ x163 64 rfl (by decide) q164.symm rfl ?_
                    refine k_istore 66 rfl rfl ?_
                    refine k_iload 67 rfl (gs_ne rfl rfl g2) rfl ?_
                    by_cases b166 : v2 = 0
                    · refine k_c1 70 rfl rfl (if_pos b166) ?_
                      have b166 := iv_eq0.mp b166
                      refine k_iload 72 rfl (gs_ne rfl rfl g4) rfl ?_
                      refine k_goto 93 rfl rfl ?_
                      exact k_fin rfl rfl ⟨_, _, _, _, rfl, I36, hF, hA, show True from trivial⟩
                    · refine k_c1 75 rfl rfl (if_neg b166) ?_
                      have b166 := mt iv_eq0.mpr b166
                      refine k_iload 76 rfl (gs_ne rfl rfl g2) rfl ?_
                      refine k_push 77 rfl rfl ?_
                      by_cases b167 : v2 = (1 : Int32)
                      · refine k_c2 80 rfl rfl (if_pos b167) ?_
                        have b167 := iv_eq.mp b167
                        refine k_iload 82 rfl gs_eq rfl ?_
                        refine k_goto 93 rfl rfl ?_
                        exact k_fin rfl rfl ⟨_, _, _, _, rfl, I36, hF, hA, show True from trivial⟩
                      · refine k_c2 85 rfl rfl (if_neg b167) ?_
                        have b167 := mt iv_eq.mpr b167
                        refine k_aload 86 rfl (gs_ne rfl rfl g0) rfl ?_
                        refine k_iload 88 rfl (gs_ne rfl rfl g4) rfl ?_
                        refine k_iload 90 rfl gs_eq rfl ?_
                        refine k_rq I36 rfl (m_kindOf  I36.1 (show 0 ≤ v4.toInt ∧ v4.toInt < 8000 ∧ 0 ≤ x163.toInt ∧ x163.toInt < 8000 by omega)) rfl rfl rfl I36.rc ?_
                        rintro x168 h169 F170 A171 I172 ⟨k174, k175, p173⟩
                        replace p173 : x168.toInt = -2 ∨ (x168.toInt = 5 ∧ ((A 24) v4.toInt = 6 ∨ (A 24) x163.toInt = 6)) ∨ ((A 24) v4.toInt ≠ 6 ∧ (A 24) x163.toInt ≠ 6 ∧ ((x168.toInt = 1 ∧ (A 25) v4.toInt = (A 25) x163.toInt ∧ (((A 24) v4.toInt = 1 ∧ (A 24) x163.toInt = 2) ∨ ((A 24) v4.toInt = 2 ∧ (A 24) x163.toInt = 1))) ∨ (x168.toInt = 2 ∧ (A 25) v4.toInt = (A 25) x163.toInt ∧ (A 24) v4.toInt = (A 24) x163.toInt ∧ 3 ≤ (A 24) v4.toInt ∧ (A 24) v4.toInt ≤ 5) ∨ ((x168.toInt = 3 ∨ x168.toInt = 4) ∧ (((A 25) v4.toInt < (A 25) x163.toInt ∧ 3 ≤ (A 24) v4.toInt ∧ (A 24) v4.toInt ≤ 5) ∨ ((A 25) x163.toInt < (A 25) v4.toInt ∧ 3 ≤ (A 24) x163.toInt ∧ (A 24) x163.toInt ≤ 5))))) := p173
                        have k174 := fr1.nil k174
                        subst k174
                        have k175 := fr2.nil k175
                        subst k175
                        show am_Ok _ _ _ (93, _, [.inl x168], _, 0, 0) _
                        exact k_fin rfl rfl ⟨_, _, _, _, rfl, I172, hF, hA, show True from trivial⟩
                  · refine k_c1 27 rfl rfl (if_neg b155) ?_
                    have b155 := mt iv_eq0.mpr b155
                    refine k_push 28 rfl rfl ?_
                    refine k_fin rfl (fin_Z (Or.inl rfl)) ⟨_, _, rfl, rf_len I36 I36, ?_⟩
                    show am_Ok _ _ _ (50, _, [.inl (0 : Int32)], _, 0, 0) _
                    refine k_c1 94 rfl rfl (if_pos (by decide)) ?_
                    have hc176 : (-1 : Int32).toInt = -1 := by decide
                    obtain ⟨x177, q178⟩ : ∃ q : Int32, q = v3 + (-1 : Int32) := ⟨_, rfl⟩
                    have e179 : x177.toInt = v3.toInt + -1 := by rw [q178, iv_add (by omega) (by omega)]; omega
                    refine k_iinc x177 97 rfl g3 q178.symm rfl ?_
                    obtain ⟨x180, q181⟩ : ∃ q : Int32, q = v4 + (1 : Int32) := ⟨_, rfl⟩
                    have e182 : x180.toInt = v4.toInt + 1 := by rw [q181, iv_add (by omega) (by omega)]; omega
                    refine k_iinc x180 100 rfl (gs_ne rfl rfl g4) q181.symm rfl ?_
                    refine k_goto 10 rfl rfl ?_
                    exact ih _ (show ((F0 28 - x180.toInt).toNat) < n by omega)  rfl (gs_ne rfl rfl (gs_ne rfl rfl g0)) (gs_ne rfl rfl (gs_ne rfl rfl g1)) (gs_ne rfl rfl (gs_ne rfl rfl g2)) (gs_ne rfl rfl gs_eq) gs_eq I36 hF hA (show v1.toInt = w1.toInt ∧ x177.toInt ≤ w1.toInt ∧ w1.toInt - x180.toInt ≤ x177.toInt by omega) (show 0 ≤ x180.toInt ∧ x180.toInt ≤ F0 28 by omega)
              · refine k_c2 10 rfl rfl (if_neg b116) ?_
                have b116 := mt iv_lt.mpr b116
                refine k_push 11 rfl rfl ?_
                have hc183 : (1 : Int32).toInt = 1 := by decide
                refine k_goto 15 rfl rfl ?_
                refine k_fin rfl (fin_Z (Or.inr rfl)) ⟨_, _, rfl, rf_len I36 I36, ?_⟩
                show am_Ok _ _ _ (46, _, [.inl (1 : Int32), .inr (.inr (some 81))], _, 0, 0) _
                refine k_push 47 rfl rfl ?_
                refine k_in (d := 0) rfl rfl rfl rfl I36.rc ?_
                refine k_aload 1 rfl rfl rfl ?_
                refine r_gI I36 4 rfl rfl rfl (fun x184 (e185 : x184.toInt = F 0) => ?_)
                by_cases b186 : x184 = 0
                · refine k_c1 7 rfl rfl (if_pos b186) ?_
                  have b186 := iv_eq0.mp b186
                  refine k_iload 8 rfl rfl rfl ?_
                  refine k_c1 16 rfl rfl (if_neg (by decide)) ?_
                  refine k_aload 17 rfl rfl rfl ?_
                  refine r_gI I36 20 rfl rfl rfl (fun x187 (e188 : x187.toInt = F 0) => ?_)
                  by_cases b189 : x187 = 0
                  · refine k_c1 23 rfl rfl (if_pos b189) ?_
                    have b189 := iv_eq0.mp b189
                    refine k_push 24 rfl rfl ?_
                    refine k_goto 28 rfl rfl ?_
                    refine k_fin rfl (fin_Z (Or.inr rfl)) ⟨_, _, rfl, rf_len I36 I36, ?_⟩
                    show am_Ok _ _ _ (50, _, [.inl (1 : Int32)], _, 0, 0) _
                    refine k_c1 53 rfl rfl (if_neg (by decide)) ?_
                    obtain ⟨mm9, ha9⟩ := (p37.resolve_left (fun z => by omega)).2
                    have ha3 := ha9.2.2.1
                    have ha4 := ha9.2.2.2.1
                    rw [hF 28 (by decide)] at ha4
                    refine k_aload 54 rfl g0 rfl ?_
                    refine r_gA I36 57 rfl rfl rfl ?_
                    refine k_push 58 rfl rfl ?_
                    have hc190 : (4 : Int32).toInt = 4 := by decide
                    refine k_iload 60 rfl g4 rfl ?_
                    obtain ⟨x191, q192⟩ : ∃ q : Int32, q = ((4 : Int32) * v4) := ⟨_, rfl⟩
                    have e193 : x191.toInt = 4 * v4.toInt := by rw [q192]; exact iv_mulc 4 (by decide) (by omega) (by omega)
                    refine k_bin x191 61 rfl q192.symm rfl ?_
                    refine r_ld 26 I36 62 rfl rfl (by omega) (show x191.toInt < 32040 by omega) rfl (fun x194 (e195 : x194.toInt = A 26 x191.toInt) => ?_)
                    rw [e193] at e195
                    have e196 : A 26 = A0 26 := hA 26 (by decide)
                    rw [e196] at e195
                    have hv9 : x194.toInt = 4 * mm9 := by have h8 := ha9.2.2.2.2.2.2.2.2.1; rw [hA 26 (by decide)] at h8; exact e195.trans ((congrArg (A0 26) (by omega)).trans h8)
                    refine k_push 63 rfl rfl ?_
                    obtain ⟨x197, q198⟩ : ∃ q : Int32, q = (x194 / (4 : Int32)) := ⟨_, rfl⟩
                    have e199 : x197.toInt = x194.toInt / 4 := by rw [q198]; exact iv_div 4 (by decide) (by decide) (by omega)
                    refine k_divZ x197 64 rfl (by decide) q198.symm rfl ?_
                    refine k_istore 66 rfl rfl ?_
                    refine k_iload 67 rfl (gs_ne rfl rfl g2) rfl ?_
                    by_cases b200 : v2 = 0
                    · refine k_c1 70 rfl rfl (if_pos b200) ?_
                      have b200 := iv_eq0.mp b200
                      refine k_iload 72 rfl (gs_ne rfl rfl g4) rfl ?_
                      refine k_goto 93 rfl rfl ?_
                      exact k_fin rfl rfl ⟨_, _, _, _, rfl, I36, hF, hA, show True from trivial⟩
                    · refine k_c1 75 rfl rfl (if_neg b200) ?_
                      have b200 := mt iv_eq0.mpr b200
                      refine k_iload 76 rfl (gs_ne rfl rfl g2) rfl ?_
                      refine k_push 77 rfl rfl ?_
                      by_cases b201 : v2 = (1 : Int32)
                      · refine k_c2 80 rfl rfl (if_pos b201) ?_
                        have b201 := iv_eq.mp b201
                        refine k_iload 82 rfl gs_eq rfl ?_
                        refine k_goto 93 rfl rfl ?_
                        exact k_fin rfl rfl ⟨_, _, _, _, rfl, I36, hF, hA, show True from trivial⟩
                      · refine k_c2 85 rfl rfl (if_neg b201) ?_
                        have b201 := mt iv_eq.mpr b201
                        refine k_aload 86 rfl (gs_ne rfl rfl g0) rfl ?_
                        refine k_iload 88 rfl (gs_ne rfl rfl g4) rfl ?_
                        refine k_iload 90 rfl gs_eq rfl ?_
                        refine k_rq I36 rfl (m_kindOf  I36.1 (show 0 ≤ v4.toInt ∧ v4.toInt < 8000 ∧ 0 ≤ x197.toInt ∧ x197.toInt < 8000 by omega)) rfl rfl rfl I36.rc ?_
                        rintro x202 h203 F204 A205 I206 ⟨k208, k209, p207⟩
                        replace p207 : x202.toInt = -2 ∨ (x202.toInt = 5 ∧ ((A 24) v4.toInt = 6 ∨ (A 24) x197.toInt = 6)) ∨ ((A 24) v4.toInt ≠ 6 ∧ (A 24) x197.toInt ≠ 6 ∧ ((x202.toInt = 1 ∧ (A 25) v4.toInt = (A 25) x197.toInt ∧ (((A 24) v4.toInt = 1 ∧ (A 24) x197.toInt = 2) ∨ ((A 24) v4.toInt = 2 ∧ (A 24) x197.toInt = 1))) ∨ (x202.toInt = 2 ∧ (A 25) v4.toInt = (A 25) x197.toInt ∧ (A 24) v4.toInt = (A 24) x197.toInt ∧ 3 ≤ (A 24) v4.toInt ∧ (A 24) v4.toInt ≤ 5) ∨ ((x202.toInt = 3 ∨ x202.toInt = 4) ∧ (((A 25) v4.toInt < (A 25) x197.toInt ∧ 3 ≤ (A 24) v4.toInt ∧ (A 24) v4.toInt ≤ 5) ∨ ((A 25) x197.toInt < (A 25) v4.toInt ∧ 3 ≤ (A 24) x197.toInt ∧ (A 24) x197.toInt ≤ 5))))) := p207
                        have k208 := fr1.nil k208
                        subst k208
                        have k209 := fr2.nil k209
                        subst k209
                        show am_Ok _ _ _ (93, _, [.inl x202], _, 0, 0) _
                        exact k_fin rfl rfl ⟨_, _, _, _, rfl, I206, hF, hA, show True from trivial⟩
                  · refine k_c1 27 rfl rfl (if_neg b189) ?_
                    have b189 := mt iv_eq0.mpr b189
                    refine k_push 28 rfl rfl ?_
                    refine k_fin rfl (fin_Z (Or.inl rfl)) ⟨_, _, rfl, rf_len I36 I36, ?_⟩
                    show am_Ok _ _ _ (50, _, [.inl (0 : Int32)], _, 0, 0) _
                    refine k_c1 94 rfl rfl (if_pos (by decide)) ?_
                    have hc210 : (-1 : Int32).toInt = -1 := by decide
                    obtain ⟨x211, q212⟩ : ∃ q : Int32, q = v3 + (-1 : Int32) := ⟨_, rfl⟩
                    have e213 : x211.toInt = v3.toInt + -1 := by rw [q212, iv_add (by omega) (by omega)]; omega
                    refine k_iinc x211 97 rfl g3 q212.symm rfl ?_
                    obtain ⟨x214, q215⟩ : ∃ q : Int32, q = v4 + (1 : Int32) := ⟨_, rfl⟩
                    have e216 : x214.toInt = v4.toInt + 1 := by rw [q215, iv_add (by omega) (by omega)]; omega
                    refine k_iinc x214 100 rfl (gs_ne rfl rfl g4) q215.symm rfl ?_
                    refine k_goto 10 rfl rfl ?_
                    exact ih _ (show ((F0 28 - x214.toInt).toNat) < n by omega)  rfl (gs_ne rfl rfl (gs_ne rfl rfl g0)) (gs_ne rfl rfl (gs_ne rfl rfl g1)) (gs_ne rfl rfl (gs_ne rfl rfl g2)) (gs_ne rfl rfl gs_eq) gs_eq I36 hF hA (show v1.toInt = w1.toInt ∧ x211.toInt ≤ w1.toInt ∧ w1.toInt - x214.toInt ≤ x211.toInt by omega) (show 0 ≤ x214.toInt ∧ x214.toInt ≤ F0 28 by omega)
                · refine k_c1 16 rfl rfl (if_neg b186) ?_
                  have b186 := mt iv_eq0.mpr b186
                  refine k_aload 17 rfl rfl rfl ?_
                  refine r_gI I36 20 rfl rfl rfl (fun x217 (e218 : x217.toInt = F 0) => ?_)
                  by_cases b219 : x217 = 0
                  · refine k_c1 23 rfl rfl (if_pos b219) ?_
                    have b219 := iv_eq0.mp b219
                    refine k_push 24 rfl rfl ?_
                    refine k_goto 28 rfl rfl ?_
                    refine k_fin rfl (fin_Z (Or.inr rfl)) ⟨_, _, rfl, rf_len I36 I36, ?_⟩
                    show am_Ok _ _ _ (50, _, [.inl (1 : Int32)], _, 0, 0) _
                    refine k_c1 53 rfl rfl (if_neg (by decide)) ?_
                    obtain ⟨mm9, ha9⟩ := (p37.resolve_left (fun z => by omega)).2
                    have ha3 := ha9.2.2.1
                    have ha4 := ha9.2.2.2.1
                    rw [hF 28 (by decide)] at ha4
                    refine k_aload 54 rfl g0 rfl ?_
                    refine r_gA I36 57 rfl rfl rfl ?_
                    refine k_push 58 rfl rfl ?_
                    have hc220 : (4 : Int32).toInt = 4 := by decide
                    refine k_iload 60 rfl g4 rfl ?_
                    obtain ⟨x221, q222⟩ : ∃ q : Int32, q = ((4 : Int32) * v4) := ⟨_, rfl⟩
                    have e223 : x221.toInt = 4 * v4.toInt := by rw [q222]; exact iv_mulc 4 (by decide) (by omega) (by omega)
                    refine k_bin x221 61 rfl q222.symm rfl ?_
                    refine r_ld 26 I36 62 rfl rfl (by omega) (show x221.toInt < 32040 by omega) rfl (fun x224 (e225 : x224.toInt = A 26 x221.toInt) => ?_)
                    rw [e223] at e225
                    have e226 : A 26 = A0 26 := hA 26 (by decide)
                    rw [e226] at e225
                    have hv9 : x224.toInt = 4 * mm9 := by have h8 := ha9.2.2.2.2.2.2.2.2.1; rw [hA 26 (by decide)] at h8; exact e225.trans ((congrArg (A0 26) (by omega)).trans h8)
                    refine k_push 63 rfl rfl ?_
                    obtain ⟨x227, q228⟩ : ∃ q : Int32, q = (x224 / (4 : Int32)) := ⟨_, rfl⟩
                    have e229 : x227.toInt = x224.toInt / 4 := by rw [q228]; exact iv_div 4 (by decide) (by decide) (by omega)
                    refine k_divZ x227 64 rfl (by decide) q228.symm rfl ?_
                    refine k_istore 66 rfl rfl ?_
                    refine k_iload 67 rfl (gs_ne rfl rfl g2) rfl ?_
                    by_cases b230 : v2 = 0
                    · refine k_c1 70 rfl rfl (if_pos b230) ?_
                      have b230 := iv_eq0.mp b230
                      refine k_iload 72 rfl (gs_ne rfl rfl g4) rfl ?_
                      refine k_goto 93 rfl rfl ?_
                      exact k_fin rfl rfl ⟨_, _, _, _, rfl, I36, hF, hA, show True from trivial⟩
                    · refine k_c1 75 rfl rfl (if_neg b230) ?_
                      have b230 := mt iv_eq0.mpr b230
                      refine k_iload 76 rfl (gs_ne rfl rfl g2) rfl ?_
                      refine k_push 77 rfl rfl ?_
                      by_cases b231 : v2 = (1 : Int32)
                      · refine k_c2 80 rfl rfl (if_pos b231) ?_
                        have b231 := iv_eq.mp b231
                        refine k_iload 82 rfl gs_eq rfl ?_
                        refine k_goto 93 rfl rfl ?_
                        exact k_fin rfl rfl ⟨_, _, _, _, rfl, I36, hF, hA, show True from trivial⟩
                      · refine k_c2 85 rfl rfl (if_neg b231) ?_
                        have b231 := mt iv_eq.mpr b231
                        refine k_aload 86 rfl (gs_ne rfl rfl g0) rfl ?_
                        refine k_iload 88 rfl (gs_ne rfl rfl g4) rfl ?_
                        refine k_iload 90 rfl gs_eq rfl ?_
                        refine k_rq I36 rfl (m_kindOf  I36.1 (show 0 ≤ v4.toInt ∧ v4.toInt < 8000 ∧ 0 ≤ x227.toInt ∧ x227.toInt < 8000 by omega)) rfl rfl rfl I36.rc ?_
                        rintro x232 h233 F234 A235 I236 ⟨k238, k239, p237⟩
                        replace p237 : x232.toInt = -2 ∨ (x232.toInt = 5 ∧ ((A 24) v4.toInt = 6 ∨ (A 24) x227.toInt = 6)) ∨ ((A 24) v4.toInt ≠ 6 ∧ (A 24) x227.toInt ≠ 6 ∧ ((x232.toInt = 1 ∧ (A 25) v4.toInt = (A 25) x227.toInt ∧ (((A 24) v4.toInt = 1 ∧ (A 24) x227.toInt = 2) ∨ ((A 24) v4.toInt = 2 ∧ (A 24) x227.toInt = 1))) ∨ (x232.toInt = 2 ∧ (A 25) v4.toInt = (A 25) x227.toInt ∧ (A 24) v4.toInt = (A 24) x227.toInt ∧ 3 ≤ (A 24) v4.toInt ∧ (A 24) v4.toInt ≤ 5) ∨ ((x232.toInt = 3 ∨ x232.toInt = 4) ∧ (((A 25) v4.toInt < (A 25) x227.toInt ∧ 3 ≤ (A 24) v4.toInt ∧ (A 24) v4.toInt ≤ 5) ∨ ((A 25) x227.toInt < (A 25) v4.toInt ∧ 3 ≤ (A 24) x227.toInt ∧ (A 24) x227.toInt ≤ 5))))) := p237
                        have k238 := fr1.nil k238
                        subst k238
                        have k239 := fr2.nil k239
                        subst k239
                        show am_Ok _ _ _ (93, _, [.inl x232], _, 0, 0) _
                        exact k_fin rfl rfl ⟨_, _, _, _, rfl, I236, hF, hA, show True from trivial⟩
                  · refine k_c1 27 rfl rfl (if_neg b219) ?_
                    have b219 := mt iv_eq0.mpr b219
                    refine k_push 28 rfl rfl ?_
                    refine k_fin rfl (fin_Z (Or.inl rfl)) ⟨_, _, rfl, rf_len I36 I36, ?_⟩
                    show am_Ok _ _ _ (50, _, [.inl (0 : Int32)], _, 0, 0) _
                    refine k_c1 94 rfl rfl (if_pos (by decide)) ?_
                    have hc240 : (-1 : Int32).toInt = -1 := by decide
                    obtain ⟨x241, q242⟩ : ∃ q : Int32, q = v3 + (-1 : Int32) := ⟨_, rfl⟩
                    have e243 : x241.toInt = v3.toInt + -1 := by rw [q242, iv_add (by omega) (by omega)]; omega
                    refine k_iinc x241 97 rfl g3 q242.symm rfl ?_
                    obtain ⟨x244, q245⟩ : ∃ q : Int32, q = v4 + (1 : Int32) := ⟨_, rfl⟩
                    have e246 : x244.toInt = v4.toInt + 1 := by rw [q245, iv_add (by omega) (by omega)]; omega
                    refine k_iinc x244 100 rfl (gs_ne rfl rfl g4) q245.symm rfl ?_
                    refine k_goto 10 rfl rfl ?_
                    exact ih _ (show ((F0 28 - x244.toInt).toNat) < n by omega)  rfl (gs_ne rfl rfl (gs_ne rfl rfl g0)) (gs_ne rfl rfl (gs_ne rfl rfl g1)) (gs_ne rfl rfl (gs_ne rfl rfl g2)) (gs_ne rfl rfl gs_eq) gs_eq I36 hF hA (show v1.toInt = w1.toInt ∧ x241.toInt ≤ w1.toInt ∧ w1.toInt - x244.toInt ≤ x241.toInt by omega) (show 0 ≤ x244.toInt ∧ x244.toInt ≤ F0 28 by omega)
          · refine k_c1 94 rfl rfl (if_neg b46) ?_
            have b46 := mt iv_eq0.mpr b46
            have hc247 : (-1 : Int32).toInt = -1 := by decide
            obtain ⟨x248, q249⟩ : ∃ q : Int32, q = v3 + (-1 : Int32) := ⟨_, rfl⟩
            have e250 : x248.toInt = v3.toInt + -1 := by rw [q249, iv_add (by omega) (by omega)]; omega
            refine k_iinc x248 97 rfl g3 q249.symm rfl ?_
            have hc251 : (1 : Int32).toInt = 1 := by decide
            obtain ⟨x252, q253⟩ : ∃ q : Int32, q = v4 + (1 : Int32) := ⟨_, rfl⟩
            have e254 : x252.toInt = v4.toInt + 1 := by rw [q253, iv_add (by omega) (by omega)]; omega
            refine k_iinc x252 100 rfl (gs_ne rfl rfl g4) q253.symm rfl ?_
            refine k_goto 10 rfl rfl ?_
            exact ih _ (show ((F0 28 - x252.toInt).toNat) < n by omega)  rfl (gs_ne rfl rfl (gs_ne rfl rfl g0)) (gs_ne rfl rfl (gs_ne rfl rfl g1)) (gs_ne rfl rfl (gs_ne rfl rfl g2)) (gs_ne rfl rfl gs_eq) gs_eq I36 hF hA (show v1.toInt = w1.toInt ∧ x248.toInt ≤ w1.toInt ∧ w1.toInt - x252.toInt ≤ x248.toInt by omega) (show 0 ≤ x252.toInt ∧ x252.toInt ≤ F0 28 by omega)
theorem m_active {h0 : am_h} {F0 : rf_f} {A0 : rf_A} {w1 : Int32} {w2 : Int32} {lm : Int → Int} {gT : Int} (hR : rf_R h0 F0 A0) (p1 : nn (A0 24) (A0 25) (F0 28) gT) (p2 : nw (A0 24) (A0 25) (A0 26) lm (F0 28)) : am_Mt 5 251 [.inr (.inr (some 81)), .inl w1, .inl w2] h0 (rf_Q h0 (fun x F' A' => fr1 [0] F0 F' ∧ fr2 [] A0 A' ∧ (True))) := by
  refine am_Mt.of (D := 4) ?_
  have hI : rf_I h0 h0 F0 A0 := rf_I.start hR
  have hb1 := p1.1
  have hb2 := p1.2.1
  have hbw := And.intro (iv_hi w1) (iv_lo w1)
  refine k_aload 1 rfl rfl rfl ?_
  refine k_push 2 rfl rfl ?_
  have hc255 : (0 : Int32).toInt = 0 := by decide
  refine r_pI hI 5 rfl rfl rfl (fun h256 I257 => ?_)
  refine k_iload 6 rfl rfl rfl ?_
  refine k_istore 7 rfl rfl ?_
  refine k_push 8 rfl rfl ?_
  refine k_istore 10 rfl rfl ?_
  exact b_X10_active_10 (lm := lm) (gT := gT) (w1 := w1) (w2 := w2) p1 p2 _  rfl (gs_ne rfl rfl (gs_ne rfl rfl rfl)) (gs_ne rfl rfl (gs_ne rfl rfl rfl)) (gs_ne rfl rfl (gs_ne rfl rfl rfl)) (gs_ne rfl rfl gs_eq) gs_eq I257 (fr1.up (by decide) fr1.rf) fr2.rf (show w1.toInt = w1.toInt ∧ w1.toInt ≤ w1.toInt ∧ w1.toInt - (0 : Int32).toInt ≤ w1.toInt by omega) (show 0 ≤ (0 : Int32).toInt ∧ (0 : Int32).toInt ≤ F0 28 by omega)
theorem b_X10_redexes_36 {h0 : am_h} {F0 : rf_f} {A0 : rf_A} {w1 : Int32} {lm : Int → Int} {gT : Int} {gt : Nat} (p1 : nn (A0 24) (A0 25) (F0 28) gT) (p2 : nw (A0 24) (A0 25) (A0 26) lm (F0 28)) (p5 : wr A0) (p6 : wq A0) (p7 : A0 2 2 = gt ∧ 1 ≤ gt ∧ gt ≤ 120) (p8 : wf (A0 1) 2600 gt) (p9 : cb (A0 1) 2600 gt 200) : ∀ (n : Nat) {lv : am_l} {h : am_h} {F : rf_f} {A : rf_A} {v1 : Int32} {v2 : Int32} {v3 : Int32}, ((1000 - v3.toInt).toNat) = n → am_get lv 0 = some (.inr (.inr (some 81))) → am_get lv 1 = some (.inl v1) → am_get lv 2 = some (.inl v2) → am_get lv 3 = some (.inl v3) → rf_I h0 h F A → fr1 [59, 55, 50, 48, 62, 63, 64, 65, 67, 70, 71, 0] F0 F → fr2 [1, 2, 56, 57, 58, 61, 49, 51, 52, 53, 54, 60, 43, 44, 45, 46, 47, 66, 68, 69] A0 A → (0 ≤ v1.toInt ∧ v1.toInt ≤ 2) → (A 2 v1.toInt ≤ 1000) → (0 ≤ v2.toInt ∧ v2.toInt ≤ v3.toInt ∧ v3.toInt ≤ 1000) → (wr A) → (wq A) → (A 2 2 = A0 2 2) → (∀ q : Int, 2600 ≤ q → A 1 q = A0 1 q) → am_Ok am_G 7 265 (36, lv, [], h, 0, 0) (rf_Q h0 (fun x F' A' => fr1 [59, 55, 50, 48, 62, 63, 64, 65, 67, 70, 71, 0] F0 F' ∧ fr2 [1, 2, 56, 57, 58, 61, 49, 51, 52, 53, 54, 60, 43, 44, 45, 46, 47, 66, 68, 69] A0 A' ∧ (wr A' ∧ wq A' ∧ A' 2 2 = A0 2 2 ∧ (∀ q : Int, 2600 ≤ q → A' 1 q = A0 1 q)))) := by
  intro n
  induction n using Nat.strongRecOn with
  | ind n ih =>
    intro lv h F A v1 v2 v3 hn g0 g1 g2 g3 hI hF hA i1 i2 i3 ij ik il im
    refine k_iload 37 rfl g3 rfl ?_
    refine k_push 38 rfl rfl ?_
    have hc1 : (1 : Int32).toInt = 1 := by decide
    obtain ⟨x2, q3⟩ : ∃ q : Int32, q = (v3 + (1 : Int32)) := ⟨_, rfl⟩
    have e4 : x2.toInt = v3.toInt + 1 := by rw [q3, iv_add (by omega) (by omega)]; omega
    refine k_bin x2 39 rfl q3.symm rfl ?_
    refine k_aload 40 rfl g0 rfl ?_
    refine r_gA hI 43 rfl rfl rfl ?_
    refine k_iload 44 rfl g1 rfl ?_
    refine r_ld 2 hI 45 rfl rfl (by omega) (show v1.toInt < 3 by omega) rfl (fun x5 (e6 : x5.toInt = A 2 v1.toInt) => ?_)
    by_cases b7 : x5 ≤ x2
    · refine k_c2 93 rfl rfl (if_pos b7) ?_
      have b7 := iv_le.mp b7
      refine k_iload 94 rfl g2 rfl ?_
      exact k_fin rfl rfl ⟨_, _, _, _, rfl, hI, hF, hA, ⟨ij, ik, il, im⟩⟩
    · refine k_c2 48 rfl rfl (if_neg b7) ?_
      have b7 := mt iv_le.mpr b7
      refine k_iload 49 rfl g2 rfl ?_
      refine k_aload 50 rfl g0 rfl ?_
      refine r_gA hI 53 rfl rfl rfl ?_
      refine k_iload 54 rfl g1 rfl ?_
      refine k_in (d := 0) rfl rfl rfl rfl rfl ?_
      refine k_push 3 rfl rfl ?_
      have hc8 : (1300 : Int32).toInt = 1300 := by decide
      refine k_iload 4 rfl rfl rfl ?_
      obtain ⟨x9, q10⟩ : ∃ q : Int32, q = ((1300 : Int32) * v1) := ⟨_, rfl⟩
      have e11 : x9.toInt = 1300 * v1.toInt := by rw [q10]; exact iv_mulc 1300 (by decide) (by omega) (by omega)
      refine k_bin x9 5 rfl q10.symm rfl ?_
      refine k_fin rfl rfl ⟨_, _, rfl, rf_len hI hI, ?_⟩
      show am_Ok _ _ _ (57, _, [.inl x9, .inr (.inr (some (rf_ad 1))), .inl v2], _, 0, 0) _
      refine k_iload 58 rfl g3 rfl ?_
      obtain ⟨x12, q13⟩ : ∃ q : Int32, q = (x9 + v3) := ⟨_, rfl⟩
      have e14 : x12.toInt = x9.toInt + v3.toInt := by rw [q13, iv_add (by omega) (by omega)]
      refine k_bin x12 59 rfl q13.symm rfl ?_
      refine r_ld 1 hI 60 rfl rfl (by omega) (show x12.toInt < 3900 by omega) rfl (fun x15 (e16 : x15.toInt = A 1 x12.toInt) => ?_)
      rw [e14] at e16
      rw [e11] at e16
      by_cases b17 : x15 = 0
      · refine k_c1 63 rfl rfl (if_pos b17) ?_
        have b17 := iv_eq0.mp b17
        refine k_aload 64 rfl g0 rfl ?_
        refine r_gA hI 67 rfl rfl rfl ?_
        refine k_iload 68 rfl g1 rfl ?_
        refine k_in (d := 0) rfl rfl rfl rfl rfl ?_
        refine k_push 3 rfl rfl ?_
        refine k_iload 4 rfl rfl rfl ?_
        obtain ⟨x18, q19⟩ : ∃ q : Int32, q = ((1300 : Int32) * v1) := ⟨_, rfl⟩
        have e20 : x18.toInt = 1300 * v1.toInt := by rw [q19]; exact iv_mulc 1300 (by decide) (by omega) (by omega)
        refine k_bin x18 5 rfl q19.symm rfl ?_
        refine k_fin rfl rfl ⟨_, _, rfl, rf_len hI hI, ?_⟩
        show am_Ok _ _ _ (71, _, [.inl x18, .inr (.inr (some (rf_ad 1))), .inl v2], _, 0, 0) _
        refine k_iload 72 rfl g3 rfl ?_
        obtain ⟨x21, q22⟩ : ∃ q : Int32, q = (x18 + v3) := ⟨_, rfl⟩
        have e23 : x21.toInt = x18.toInt + v3.toInt := by rw [q22, iv_add (by omega) (by omega)]
        refine k_bin x21 73 rfl q22.symm rfl ?_
        refine k_push 74 rfl rfl ?_
        obtain ⟨x24, q25⟩ : ∃ q : Int32, q = (x21 + (1 : Int32)) := ⟨_, rfl⟩
        have e26 : x24.toInt = x21.toInt + 1 := by rw [q25, iv_add (by omega) (by omega)]; omega
        refine k_bin x24 75 rfl q25.symm rfl ?_
        refine r_ld 1 hI 76 rfl rfl (by omega) (show x24.toInt < 3900 by omega) rfl (fun x27 (e28 : x27.toInt = A 1 x24.toInt) => ?_)
        rw [e26] at e28
        rw [e23] at e28
        rw [e20] at e28
        refine k_push 77 rfl rfl ?_
        by_cases b29 : x27 = (1 : Int32)
        · refine k_c2 80 rfl rfl (if_pos b29) ?_
          have b29 := iv_eq.mp b29
          refine k_push 81 rfl rfl ?_
          refine k_goto 85 rfl rfl ?_
          obtain ⟨x30, q31⟩ : ∃ q : Int32, q = (v2 + (1 : Int32)) := ⟨_, rfl⟩
          have e32 : x30.toInt = v2.toInt + 1 := by rw [q31, iv_add (by omega) (by omega)]; omega
          refine k_bin x30 86 rfl q31.symm rfl ?_
          refine k_istore 87 rfl rfl ?_
          obtain ⟨x33, q34⟩ : ∃ q : Int32, q = v3 + (1 : Int32) := ⟨_, rfl⟩
          have e35 : x33.toInt = v3.toInt + 1 := by rw [q34, iv_add (by omega) (by omega)]; omega
          refine k_iinc x33 90 rfl (gs_ne rfl rfl g3) q34.symm rfl ?_
          refine k_goto 36 rfl rfl ?_
          exact ih _ (show ((1000 - x33.toInt).toNat) < n by omega)  rfl (gs_ne rfl rfl (gs_ne rfl rfl g0)) (gs_ne rfl rfl (gs_ne rfl rfl g1)) (gs_ne rfl rfl gs_eq) gs_eq hI hF hA (show 0 ≤ v1.toInt ∧ v1.toInt ≤ 2 by omega) (show (A 2) v1.toInt ≤ 1000 by omega) (show 0 ≤ x30.toInt ∧ x30.toInt ≤ x33.toInt ∧ x33.toInt ≤ 1000 by omega) (show wr A from ij) (show wq A from ik) (show (A 2) 2 = A0 2 2 from il) (show ∀ q : Int, 2600 ≤ q → (A 1) q = A0 1 q from im)
        · refine k_c2 84 rfl rfl (if_neg b29) ?_
          have b29 := mt iv_eq.mpr b29
          refine k_push 85 rfl rfl ?_
          have hc36 : (0 : Int32).toInt = 0 := by decide
          obtain ⟨x37, q38⟩ : ∃ q : Int32, q = (v2 + (0 : Int32)) := ⟨_, rfl⟩
          have e39 : x37.toInt = v2.toInt + 0 := by rw [q38, iv_add (by omega) (by omega)]; omega
          refine k_bin x37 86 rfl q38.symm rfl ?_
          refine k_istore 87 rfl rfl ?_
          obtain ⟨x40, q41⟩ : ∃ q : Int32, q = v3 + (1 : Int32) := ⟨_, rfl⟩
          have e42 : x40.toInt = v3.toInt + 1 := by rw [q41, iv_add (by omega) (by omega)]; omega
          refine k_iinc x40 90 rfl (gs_ne rfl rfl g3) q41.symm rfl ?_
          refine k_goto 36 rfl rfl ?_
          exact ih _ (show ((1000 - x40.toInt).toNat) < n by omega)  rfl (gs_ne rfl rfl (gs_ne rfl rfl g0)) (gs_ne rfl rfl (gs_ne rfl rfl g1)) (gs_ne rfl rfl gs_eq) gs_eq hI hF hA (show 0 ≤ v1.toInt ∧ v1.toInt ≤ 2 by omega) (show (A 2) v1.toInt ≤ 1000 by omega) (show 0 ≤ x37.toInt ∧ x37.toInt ≤ x40.toInt ∧ x40.toInt ≤ 1000 by omega) (show wr A from ij) (show wq A from ik) (show (A 2) 2 = A0 2 2 from il) (show ∀ q : Int, 2600 ≤ q → (A 1) q = A0 1 q from im)
      · refine k_c1 84 rfl rfl (if_neg b17) ?_
        have b17 := mt iv_eq0.mpr b17
        refine k_push 85 rfl rfl ?_
        have hc43 : (0 : Int32).toInt = 0 := by decide
        obtain ⟨x44, q45⟩ : ∃ q : Int32, q = (v2 + (0 : Int32)) := ⟨_, rfl⟩
        have e46 : x44.toInt = v2.toInt + 0 := by rw [q45, iv_add (by omega) (by omega)]; omega
        refine k_bin x44 86 rfl q45.symm rfl ?_
        refine k_istore 87 rfl rfl ?_
        obtain ⟨x47, q48⟩ : ∃ q : Int32, q = v3 + (1 : Int32) := ⟨_, rfl⟩
        have e49 : x47.toInt = v3.toInt + 1 := by rw [q48, iv_add (by omega) (by omega)]; omega
        refine k_iinc x47 90 rfl (gs_ne rfl rfl g3) q48.symm rfl ?_
        refine k_goto 36 rfl rfl ?_
        exact ih _ (show ((1000 - x47.toInt).toNat) < n by omega)  rfl (gs_ne rfl rfl (gs_ne rfl rfl g0)) (gs_ne rfl rfl (gs_ne rfl rfl g1)) (gs_ne rfl rfl gs_eq) gs_eq hI hF hA (show 0 ≤ v1.toInt ∧ v1.toInt ≤ 2 by omega) (show (A 2) v1.toInt ≤ 1000 by omega) (show 0 ≤ x44.toInt ∧ x44.toInt ≤ x47.toInt ∧ x47.toInt ≤ 1000 by omega) (show wr A from ij) (show wq A from ik) (show (A 2) 2 = A0 2 2 from il) (show ∀ q : Int, 2600 ≤ q → (A 1) q = A0 1 q from im)
theorem m_redexes {h0 : am_h} {F0 : rf_f} {A0 : rf_A} {w1 : Int32} {lm : Int → Int} {gT : Int} {gt : Nat} (hR : rf_R h0 F0 A0) (p1 : nn (A0 24) (A0 25) (F0 28) gT) (p2 : nw (A0 24) (A0 25) (A0 26) lm (F0 28)) (p5 : wr A0) (p6 : wq A0) (p7 : A0 2 2 = gt ∧ 1 ≤ gt ∧ gt ≤ 120) (p8 : wf (A0 1) 2600 gt) (p9 : cb (A0 1) 2600 gt 200) : am_Mt 8 265 [.inr (.inr (some 81)), .inl w1] h0 (rf_Q h0 (fun x F' A' => fr1 [59, 55, 50, 48, 62, 63, 64, 65, 67, 70, 71, 0] F0 F' ∧ fr2 [1, 2, 56, 57, 58, 61, 49, 51, 52, 53, 54, 60, 43, 44, 45, 46, 47, 66, 68, 69] A0 A' ∧ (wr A' ∧ wq A' ∧ A' 2 2 = A0 2 2 ∧ (∀ q : Int, 2600 ≤ q → A' 1 q = A0 1 q)))) := by
  refine am_Mt.of (D := 7) ?_
  have hI : rf_I h0 h0 F0 A0 := rf_I.start hR
  refine k_aload 1 rfl rfl rfl ?_
  refine k_push 2 rfl rfl ?_
  have hc50 : (0 : Int32).toInt = 0 := by decide
  refine r_pI hI 5 rfl rfl rfl (fun h51 I52 => ?_)
  refine k_aload 6 rfl rfl rfl ?_
  refine k_iload 7 rfl rfl rfl ?_
  refine k_in (d := 1) rfl rfl rfl rfl rfl ?_
  refine k_iload 1 rfl rfl rfl ?_
  refine k_push 2 rfl rfl ?_
  refine k_push 3 rfl rfl ?_
  have hc53 : (2 : Int32).toInt = 2 := by decide
  refine k_in (d := 0) rfl rfl rfl rfl rfl ?_
  refine k_iload 1 rfl rfl rfl ?_
  refine k_iload 2 rfl rfl rfl ?_
  by_cases b54 : w1 < (0 : Int32)
  · refine k_c2 14 rfl rfl (if_pos b54) ?_
    have b54 := iv_lt.mp b54
    refine k_push 15 rfl rfl ?_
    refine k_fin rfl (fin_Z (Or.inl rfl)) ⟨_, _, rfl, rf_len I52 I52, ?_⟩
    show am_Ok _ _ _ (6, _, [.inl (0 : Int32)], _, 0, 0) _
    refine k_fin rfl (fin_Z (Or.inl rfl)) ⟨_, _, rfl, rf_len I52 I52, ?_⟩
    show am_Ok _ _ _ (10, _, [.inl (0 : Int32), .inr (.inr (some 81))], _, 0, 0) _
    refine k_push 11 rfl rfl ?_
    have hc55 : (1 : Int32).toInt = 1 := by decide
    refine k_in (d := 0) rfl rfl rfl rfl I52.rc ?_
    refine k_aload 1 rfl rfl rfl ?_
    refine r_gI I52 4 rfl rfl rfl (fun x56 (e57 : x56.toInt = (0 : Int32).toInt) => ?_)
    by_cases b58 : x56 = 0
    · refine k_c1 7 rfl rfl (if_pos b58) ?_
      have b58 := iv_eq0.mp b58
      refine k_iload 8 rfl rfl rfl ?_
      refine k_c1 11 rfl rfl (if_pos (by decide)) ?_
      refine k_aload 12 rfl rfl rfl ?_
      refine k_iload 13 rfl rfl rfl ?_
      refine r_pI I52 16 rfl rfl rfl (fun h59 I60 => ?_)
      refine k_aload 17 rfl rfl rfl ?_
      refine r_gI I60 20 rfl rfl rfl (fun x61 (e62 : x61.toInt = (1 : Int32).toInt) => ?_)
      by_cases b63 : x61 = 0
      · refine k_c1 23 rfl rfl (if_pos b63) ?_
        have b63 := iv_eq0.mp b63
        refine k_push 24 rfl rfl ?_
        refine k_goto 28 rfl rfl ?_
        refine k_fin rfl (fin_Z (Or.inr rfl)) ⟨_, _, rfl, rf_len I52 I60, ?_⟩
        show am_Ok _ _ _ (14, _, [.inl (1 : Int32)], _, 0, 0) _
        refine k_c1 17 rfl rfl (if_neg (by decide)) ?_
        refine k_aload 18 rfl rfl rfl ?_
        refine k_aload 19 rfl rfl rfl ?_
        refine k_iload 20 rfl rfl rfl ?_
        refine k_rq I60 rfl (m_isTerm (lm := lm) (gT := gT) (gt := gt) I60.1 (show nn ((A0 24)) ((A0 25)) ((F0 28)) (gT) from p1) (show nw ((A0 24)) ((A0 25)) ((A0 26)) (lm) ((F0 28)) from p2) (show wr A0 from p5) (show wq A0 from p6) (show (A0 2) 2 = (gt) ∧ 1 ≤ (gt) ∧ (gt) ≤ 120 from p7) (show wf ((A0 1)) 2600 (gt) from p8) (show cb ((A0 1)) 2600 (gt) 200 from p9) (show 0 ≤ w1.toInt ∧ w1.toInt ≤ 2 by omega)) rfl rfl rfl I60.rc ?_
        rintro x64 h65 F66 A67 I68 ⟨k70, k71, p69⟩
        replace p69 : (x64.toInt = 0 ∨ x64.toInt = 1) ∧ (x64.toInt = 1 → ∃ n' : Nat, n' ≤ 1000 ∧ A67 2 w1.toInt = n' ∧ wf (A67 1) (1300 * w1.toInt) n') ∧ wr A67 ∧ wq A67 ∧ (∀ q : Int, q ≠ w1.toInt → A67 2 q = (A0 2) q) ∧ (∀ q : Int, (0 ≤ q ∧ q < 1300 * w1.toInt) ∨ 1300 * w1.toInt + 1300 ≤ q → A67 1 q = (A0 1) q) ∧ A67 2 2 = (A0 2) 2 ∧ (∀ q : Int, 2600 ≤ q → A67 1 q = (A0 1) q) := p69
        obtain ⟨p69a, p69b, p69c, p69d, p69e, p69f, p69g, p69h⟩ := p69
        have z72 := iv_01 (x := x64) p69a
        show am_Ok _ _ _ (23, _, [.inl x64, .inr (.inr (some 81))], _, 0, 0) _
        refine k_push 24 rfl rfl ?_
        refine k_in (d := 0) rfl rfl rfl rfl I68.rc ?_
        refine k_aload 1 rfl rfl rfl ?_
        refine r_gI I68 4 rfl rfl rfl (fun x73 (e74 : x73.toInt = F66 0) => ?_)
        have e75 : F66 0 = (1 : Int32).toInt := k70 0 (by decide)
        by_cases b76 : x73 = 0
        · refine k_c1 7 rfl rfl (if_pos b76) ?_
          have b76 := iv_eq0.mp b76
          refine k_iload 8 rfl rfl rfl ?_
          by_cases b77 : x64 = 0
          · refine k_c1 11 rfl rfl (if_pos b77) ?_
            have b77 := iv_eq0.mp b77
            refine k_aload 12 rfl rfl rfl ?_
            refine k_iload 13 rfl rfl rfl ?_
            refine r_pI I68 16 rfl rfl rfl (fun h78 I79 => ?_)
            refine k_aload 17 rfl rfl rfl ?_
            refine r_gI I79 20 rfl rfl rfl (fun x80 (e81 : x80.toInt = (2 : Int32).toInt) => ?_)
            by_cases b82 : x80 = 0
            · refine k_c1 23 rfl rfl (if_pos b82) ?_
              have b82 := iv_eq0.mp b82
              refine k_push 24 rfl rfl ?_
              refine k_goto 28 rfl rfl ?_
              refine k_fin rfl (fin_Z (Or.inr rfl)) ⟨_, _, rfl, rf_len I68 I79, ?_⟩
              show am_Ok _ _ _ (27, _, [.inl (1 : Int32)], _, 0, 0) _
              refine k_c1 32 rfl rfl (if_neg (by decide)) ?_
              obtain ⟨gn, hn1, hn2, hn3⟩ := p69b (by clear p69b; omega)
              clear p69b
              refine k_push 33 rfl rfl ?_
              refine k_istore 34 rfl rfl ?_
              refine k_push 35 rfl rfl ?_
              refine k_istore 36 rfl rfl ?_
              exact b_X10_redexes_36 (lm := lm) (gT := gT) (gt := gt) (w1 := w1) p1 p2 p5 p6 p7 p8 p9 _  rfl (gs_ne rfl rfl (gs_ne rfl rfl rfl)) (gs_ne rfl rfl (gs_ne rfl rfl rfl)) (gs_ne rfl rfl gs_eq) gs_eq I79 (fr1.up (by decide) (fr1.tr (by decide) (fr1.up (by decide) (fr1.up (by decide) fr1.rf)) k70)) (fr2.tr (by decide) fr2.rf k71) (show 0 ≤ w1.toInt ∧ w1.toInt ≤ 2 by omega) (show (A67 2) w1.toInt ≤ 1000 by omega) (show 0 ≤ (0 : Int32).toInt ∧ (0 : Int32).toInt ≤ (0 : Int32).toInt ∧ (0 : Int32).toInt ≤ 1000 by omega) (show wr A67 from p69c) (show wq A67 from p69d) (show (A67 2) 2 = A0 2 2 from p69g) (show ∀ q : Int, 2600 ≤ q → (A67 1) q = A0 1 q from p69h)
            · refine k_c1 27 rfl rfl (if_neg b82) ?_
              have b82 := mt iv_eq0.mpr b82
              refine k_push 28 rfl rfl ?_
              refine k_fin rfl (fin_Z (Or.inl rfl)) ⟨_, _, rfl, rf_len I68 I79, ?_⟩
              show am_Ok _ _ _ (27, _, [.inl (0 : Int32)], _, 0, 0) _
              refine k_c1 30 rfl rfl (if_pos (by decide)) ?_
              refine k_push 31 rfl rfl ?_
              exact k_fin rfl rfl ⟨_, _, _, _, rfl, I79, (fr1.up (by decide) (fr1.tr (by decide) (fr1.up (by decide) (fr1.up (by decide) fr1.rf)) k70)), (fr2.tr (by decide) fr2.rf k71), ⟨p69c, p69d, p69g, p69h⟩⟩
          · refine k_c1 16 rfl rfl (if_neg b77) ?_
            have b77 := mt iv_eq0.mpr b77
            refine k_aload 17 rfl rfl rfl ?_
            refine r_gI I68 20 rfl rfl rfl (fun x83 (e84 : x83.toInt = F66 0) => ?_)
            by_cases b85 : x83 = 0
            · refine k_c1 23 rfl rfl (if_pos b85) ?_
              have b85 := iv_eq0.mp b85
              refine k_push 24 rfl rfl ?_
              refine k_goto 28 rfl rfl ?_
              refine k_fin rfl (fin_Z (Or.inr rfl)) ⟨_, _, rfl, rf_len I68 I68, ?_⟩
              show am_Ok _ _ _ (27, _, [.inl (1 : Int32)], _, 0, 0) _
              refine k_c1 32 rfl rfl (if_neg (by decide)) ?_
              obtain ⟨gn, hn1, hn2, hn3⟩ := p69b (by clear p69b; omega)
              clear p69b
              refine k_push 33 rfl rfl ?_
              refine k_istore 34 rfl rfl ?_
              refine k_push 35 rfl rfl ?_
              refine k_istore 36 rfl rfl ?_
              exact b_X10_redexes_36 (lm := lm) (gT := gT) (gt := gt) (w1 := w1) p1 p2 p5 p6 p7 p8 p9 _  rfl (gs_ne rfl rfl (gs_ne rfl rfl rfl)) (gs_ne rfl rfl (gs_ne rfl rfl rfl)) (gs_ne rfl rfl gs_eq) gs_eq I68 (fr1.tr (by decide) (fr1.up (by decide) (fr1.up (by decide) fr1.rf)) k70) (fr2.tr (by decide) fr2.rf k71) (show 0 ≤ w1.toInt ∧ w1.toInt ≤ 2 by omega) (show (A67 2) w1.toInt ≤ 1000 by omega) (show 0 ≤ (0 : Int32).toInt ∧ (0 : Int32).toInt ≤ (0 : Int32).toInt ∧ (0 : Int32).toInt ≤ 1000 by omega) (show wr A67 from p69c) (show wq A67 from p69d) (show (A67 2) 2 = A0 2 2 from p69g) (show ∀ q : Int, 2600 ≤ q → (A67 1) q = A0 1 q from p69h)
            · refine k_c1 27 rfl rfl (if_neg b85) ?_
              have b85 := mt iv_eq0.mpr b85
              refine k_push 28 rfl rfl ?_
              refine k_fin rfl (fin_Z (Or.inl rfl)) ⟨_, _, rfl, rf_len I68 I68, ?_⟩
              show am_Ok _ _ _ (27, _, [.inl (0 : Int32)], _, 0, 0) _
              refine k_c1 30 rfl rfl (if_pos (by decide)) ?_
              refine k_push 31 rfl rfl ?_
              exact k_fin rfl rfl ⟨_, _, _, _, rfl, I68, (fr1.tr (by decide) (fr1.up (by decide) (fr1.up (by decide) fr1.rf)) k70), (fr2.tr (by decide) fr2.rf k71), ⟨p69c, p69d, p69g, p69h⟩⟩
        · refine k_c1 16 rfl rfl (if_neg b76) ?_
          have b76 := mt iv_eq0.mpr b76
          refine k_aload 17 rfl rfl rfl ?_
          refine r_gI I68 20 rfl rfl rfl (fun x86 (e87 : x86.toInt = F66 0) => ?_)
          by_cases b88 : x86 = 0
          · refine k_c1 23 rfl rfl (if_pos b88) ?_
            have b88 := iv_eq0.mp b88
            refine k_push 24 rfl rfl ?_
            refine k_goto 28 rfl rfl ?_
            refine k_fin rfl (fin_Z (Or.inr rfl)) ⟨_, _, rfl, rf_len I68 I68, ?_⟩
            show am_Ok _ _ _ (27, _, [.inl (1 : Int32)], _, 0, 0) _
            refine k_c1 32 rfl rfl (if_neg (by decide)) ?_
            obtain ⟨gn, hn1, hn2, hn3⟩ := p69b (by clear p69b; omega)
            clear p69b
            refine k_push 33 rfl rfl ?_
            refine k_istore 34 rfl rfl ?_
            refine k_push 35 rfl rfl ?_
            refine k_istore 36 rfl rfl ?_
            exact b_X10_redexes_36 (lm := lm) (gT := gT) (gt := gt) (w1 := w1) p1 p2 p5 p6 p7 p8 p9 _  rfl (gs_ne rfl rfl (gs_ne rfl rfl rfl)) (gs_ne rfl rfl (gs_ne rfl rfl rfl)) (gs_ne rfl rfl gs_eq) gs_eq I68 (fr1.tr (by decide) (fr1.up (by decide) (fr1.up (by decide) fr1.rf)) k70) (fr2.tr (by decide) fr2.rf k71) (show 0 ≤ w1.toInt ∧ w1.toInt ≤ 2 by omega) (show (A67 2) w1.toInt ≤ 1000 by omega) (show 0 ≤ (0 : Int32).toInt ∧ (0 : Int32).toInt ≤ (0 : Int32).toInt ∧ (0 : Int32).toInt ≤ 1000 by omega) (show wr A67 from p69c) (show wq A67 from p69d) (show (A67 2) 2 = A0 2 2 from p69g) (show ∀ q : Int, 2600 ≤ q → (A67 1) q = A0 1 q from p69h)
          · refine k_c1 27 rfl rfl (if_neg b88) ?_
            have b88 := mt iv_eq0.mpr b88
            refine k_push 28 rfl rfl ?_
            refine k_fin rfl (fin_Z (Or.inl rfl)) ⟨_, _, rfl, rf_len I68 I68, ?_⟩
            show am_Ok _ _ _ (27, _, [.inl (0 : Int32)], _, 0, 0) _
            refine k_c1 30 rfl rfl (if_pos (by decide)) ?_
            refine k_push 31 rfl rfl ?_
            exact k_fin rfl rfl ⟨_, _, _, _, rfl, I68, (fr1.tr (by decide) (fr1.up (by decide) (fr1.up (by decide) fr1.rf)) k70), (fr2.tr (by decide) fr2.rf k71), ⟨p69c, p69d, p69g, p69h⟩⟩
      · refine k_c1 27 rfl rfl (if_neg b63) ?_
        have b63 := mt iv_eq0.mpr b63
        refine k_push 28 rfl rfl ?_
        refine k_fin rfl (fin_Z (Or.inl rfl)) ⟨_, _, rfl, rf_len I52 I60, ?_⟩
        show am_Ok _ _ _ (14, _, [.inl (0 : Int32)], _, 0, 0) _
        refine k_c1 30 rfl rfl (if_pos (by decide)) ?_
        refine k_push 31 rfl rfl ?_
        exact k_fin rfl rfl ⟨_, _, _, _, rfl, I60, (fr1.up (by decide) (fr1.up (by decide) fr1.rf)), fr2.rf, show wr A0 ∧ wq A0 ∧ (A0 2) 2 = A0 2 2 ∧ (∀ q : Int, 2600 ≤ q → (A0 1) q = A0 1 q) from ⟨p5, p6, rfl, fun q _ => rfl⟩⟩
    · refine k_c1 16 rfl rfl (if_neg b58) ?_
      have b58 := mt iv_eq0.mpr b58
      refine k_aload 17 rfl rfl rfl ?_
      refine r_gI I52 20 rfl rfl rfl (fun x89 (e90 : x89.toInt = (0 : Int32).toInt) => ?_)
      by_cases b91 : x89 = 0
      · refine k_c1 23 rfl rfl (if_pos b91) ?_
        have b91 := iv_eq0.mp b91
        refine k_push 24 rfl rfl ?_
        refine k_goto 28 rfl rfl ?_
        refine k_fin rfl (fin_Z (Or.inr rfl)) ⟨_, _, rfl, rf_len I52 I52, ?_⟩
        show am_Ok _ _ _ (14, _, [.inl (1 : Int32)], _, 0, 0) _
        refine k_c1 17 rfl rfl (if_neg (by decide)) ?_
        refine k_aload 18 rfl rfl rfl ?_
        refine k_aload 19 rfl rfl rfl ?_
        refine k_iload 20 rfl rfl rfl ?_
        refine k_rq I52 rfl (m_isTerm (lm := lm) (gT := gT) (gt := gt) I52.1 (show nn ((A0 24)) ((A0 25)) ((F0 28)) (gT) from p1) (show nw ((A0 24)) ((A0 25)) ((A0 26)) (lm) ((F0 28)) from p2) (show wr A0 from p5) (show wq A0 from p6) (show (A0 2) 2 = (gt) ∧ 1 ≤ (gt) ∧ (gt) ≤ 120 from p7) (show wf ((A0 1)) 2600 (gt) from p8) (show cb ((A0 1)) 2600 (gt) 200 from p9) (show 0 ≤ w1.toInt ∧ w1.toInt ≤ 2 by omega)) rfl rfl rfl I52.rc ?_
        rintro x92 h93 F94 A95 I96 ⟨k98, k99, p97⟩
        replace p97 : (x92.toInt = 0 ∨ x92.toInt = 1) ∧ (x92.toInt = 1 → ∃ n' : Nat, n' ≤ 1000 ∧ A95 2 w1.toInt = n' ∧ wf (A95 1) (1300 * w1.toInt) n') ∧ wr A95 ∧ wq A95 ∧ (∀ q : Int, q ≠ w1.toInt → A95 2 q = (A0 2) q) ∧ (∀ q : Int, (0 ≤ q ∧ q < 1300 * w1.toInt) ∨ 1300 * w1.toInt + 1300 ≤ q → A95 1 q = (A0 1) q) ∧ A95 2 2 = (A0 2) 2 ∧ (∀ q : Int, 2600 ≤ q → A95 1 q = (A0 1) q) := p97
        obtain ⟨p97a, p97b, p97c, p97d, p97e, p97f, p97g, p97h⟩ := p97
        have z100 := iv_01 (x := x92) p97a
        show am_Ok _ _ _ (23, _, [.inl x92, .inr (.inr (some 81))], _, 0, 0) _
        refine k_push 24 rfl rfl ?_
        refine k_in (d := 0) rfl rfl rfl rfl I96.rc ?_
        refine k_aload 1 rfl rfl rfl ?_
        refine r_gI I96 4 rfl rfl rfl (fun x101 (e102 : x101.toInt = F94 0) => ?_)
        have e103 : F94 0 = (0 : Int32).toInt := k98 0 (by decide)
        by_cases b104 : x101 = 0
        · refine k_c1 7 rfl rfl (if_pos b104) ?_
          have b104 := iv_eq0.mp b104
          refine k_iload 8 rfl rfl rfl ?_
          by_cases b105 : x92 = 0
          · refine k_c1 11 rfl rfl (if_pos b105) ?_
            have b105 := iv_eq0.mp b105
            refine k_aload 12 rfl rfl rfl ?_
            refine k_iload 13 rfl rfl rfl ?_
            refine r_pI I96 16 rfl rfl rfl (fun h106 I107 => ?_)
            refine k_aload 17 rfl rfl rfl ?_
            refine r_gI I107 20 rfl rfl rfl (fun x108 (e109 : x108.toInt = (2 : Int32).toInt) => ?_)
            by_cases b110 : x108 = 0
            · refine k_c1 23 rfl rfl (if_pos b110) ?_
              have b110 := iv_eq0.mp b110
              refine k_push 24 rfl rfl ?_
              refine k_goto 28 rfl rfl ?_
              refine k_fin rfl (fin_Z (Or.inr rfl)) ⟨_, _, rfl, rf_len I96 I107, ?_⟩
              show am_Ok _ _ _ (27, _, [.inl (1 : Int32)], _, 0, 0) _
              refine k_c1 32 rfl rfl (if_neg (by decide)) ?_
              obtain ⟨gn, hn1, hn2, hn3⟩ := p97b (by clear p97b; omega)
              clear p97b
              refine k_push 33 rfl rfl ?_
              refine k_istore 34 rfl rfl ?_
              refine k_push 35 rfl rfl ?_
              refine k_istore 36 rfl rfl ?_
              exact b_X10_redexes_36 (lm := lm) (gT := gT) (gt := gt) (w1 := w1) p1 p2 p5 p6 p7 p8 p9 _  rfl (gs_ne rfl rfl (gs_ne rfl rfl rfl)) (gs_ne rfl rfl (gs_ne rfl rfl rfl)) (gs_ne rfl rfl gs_eq) gs_eq I107 (fr1.up (by decide) (fr1.tr (by decide) (fr1.up (by decide) fr1.rf) k98)) (fr2.tr (by decide) fr2.rf k99) (show 0 ≤ w1.toInt ∧ w1.toInt ≤ 2 by omega) (show (A95 2) w1.toInt ≤ 1000 by omega) (show 0 ≤ (0 : Int32).toInt ∧ (0 : Int32).toInt ≤ (0 : Int32).toInt ∧ (0 : Int32).toInt ≤ 1000 by omega) (show wr A95 from p97c) (show wq A95 from p97d) (show (A95 2) 2 = A0 2 2 from p97g) (show ∀ q : Int, 2600 ≤ q → (A95 1) q = A0 1 q from p97h)
            · refine k_c1 27 rfl rfl (if_neg b110) ?_
              have b110 := mt iv_eq0.mpr b110
              refine k_push 28 rfl rfl ?_
              refine k_fin rfl (fin_Z (Or.inl rfl)) ⟨_, _, rfl, rf_len I96 I107, ?_⟩
              show am_Ok _ _ _ (27, _, [.inl (0 : Int32)], _, 0, 0) _
              refine k_c1 30 rfl rfl (if_pos (by decide)) ?_
              refine k_push 31 rfl rfl ?_
              exact k_fin rfl rfl ⟨_, _, _, _, rfl, I107, (fr1.up (by decide) (fr1.tr (by decide) (fr1.up (by decide) fr1.rf) k98)), (fr2.tr (by decide) fr2.rf k99), ⟨p97c, p97d, p97g, p97h⟩⟩
          · refine k_c1 16 rfl rfl (if_neg b105) ?_
            have b105 := mt iv_eq0.mpr b105
            refine k_aload 17 rfl rfl rfl ?_
            refine r_gI I96 20 rfl rfl rfl (fun x111 (e112 : x111.toInt = F94 0) => ?_)
            by_cases b113 : x111 = 0
            · refine k_c1 23 rfl rfl (if_pos b113) ?_
              have b113 := iv_eq0.mp b113
              refine k_push 24 rfl rfl ?_
              refine k_goto 28 rfl rfl ?_
              refine k_fin rfl (fin_Z (Or.inr rfl)) ⟨_, _, rfl, rf_len I96 I96, ?_⟩
              show am_Ok _ _ _ (27, _, [.inl (1 : Int32)], _, 0, 0) _
              refine k_c1 32 rfl rfl (if_neg (by decide)) ?_
              obtain ⟨gn, hn1, hn2, hn3⟩ := p97b (by clear p97b; omega)
              clear p97b
              refine k_push 33 rfl rfl ?_
              refine k_istore 34 rfl rfl ?_
              refine k_push 35 rfl rfl ?_
              refine k_istore 36 rfl rfl ?_
              exact b_X10_redexes_36 (lm := lm) (gT := gT) (gt := gt) (w1 := w1) p1 p2 p5 p6 p7 p8 p9 _  rfl (gs_ne rfl rfl (gs_ne rfl rfl rfl)) (gs_ne rfl rfl (gs_ne rfl rfl rfl)) (gs_ne rfl rfl gs_eq) gs_eq I96 (fr1.tr (by decide) (fr1.up (by decide) fr1.rf) k98) (fr2.tr (by decide) fr2.rf k99) (show 0 ≤ w1.toInt ∧ w1.toInt ≤ 2 by omega) (show (A95 2) w1.toInt ≤ 1000 by omega) (show 0 ≤ (0 : Int32).toInt ∧ (0 : Int32).toInt ≤ (0 : Int32).toInt ∧ (0 : Int32).toInt ≤ 1000 by omega) (show wr A95 from p97c) (show wq A95 from p97d) (show (A95 2) 2 = A0 2 2 from p97g) (show ∀ q : Int, 2600 ≤ q → (A95 1) q = A0 1 q from p97h)
            · refine k_c1 27 rfl rfl (if_neg b113) ?_
              have b113 := mt iv_eq0.mpr b113
              refine k_push 28 rfl rfl ?_
              refine k_fin rfl (fin_Z (Or.inl rfl)) ⟨_, _, rfl, rf_len I96 I96, ?_⟩
              show am_Ok _ _ _ (27, _, [.inl (0 : Int32)], _, 0, 0) _
              refine k_c1 30 rfl rfl (if_pos (by decide)) ?_
              refine k_push 31 rfl rfl ?_
              exact k_fin rfl rfl ⟨_, _, _, _, rfl, I96, (fr1.tr (by decide) (fr1.up (by decide) fr1.rf) k98), (fr2.tr (by decide) fr2.rf k99), ⟨p97c, p97d, p97g, p97h⟩⟩
        · refine k_c1 16 rfl rfl (if_neg b104) ?_
          have b104 := mt iv_eq0.mpr b104
          refine k_aload 17 rfl rfl rfl ?_
          refine r_gI I96 20 rfl rfl rfl (fun x114 (e115 : x114.toInt = F94 0) => ?_)
          by_cases b116 : x114 = 0
          · refine k_c1 23 rfl rfl (if_pos b116) ?_
            have b116 := iv_eq0.mp b116
            refine k_push 24 rfl rfl ?_
            refine k_goto 28 rfl rfl ?_
            refine k_fin rfl (fin_Z (Or.inr rfl)) ⟨_, _, rfl, rf_len I96 I96, ?_⟩
            show am_Ok _ _ _ (27, _, [.inl (1 : Int32)], _, 0, 0) _
            refine k_c1 32 rfl rfl (if_neg (by decide)) ?_
            obtain ⟨gn, hn1, hn2, hn3⟩ := p97b (by clear p97b; omega)
            clear p97b
            refine k_push 33 rfl rfl ?_
            refine k_istore 34 rfl rfl ?_
            refine k_push 35 rfl rfl ?_
            refine k_istore 36 rfl rfl ?_
            exact b_X10_redexes_36 (lm := lm) (gT := gT) (gt := gt) (w1 := w1) p1 p2 p5 p6 p7 p8 p9 _  rfl (gs_ne rfl rfl (gs_ne rfl rfl rfl)) (gs_ne rfl rfl (gs_ne rfl rfl rfl)) (gs_ne rfl rfl gs_eq) gs_eq I96 (fr1.tr (by decide) (fr1.up (by decide) fr1.rf) k98) (fr2.tr (by decide) fr2.rf k99) (show 0 ≤ w1.toInt ∧ w1.toInt ≤ 2 by omega) (show (A95 2) w1.toInt ≤ 1000 by omega) (show 0 ≤ (0 : Int32).toInt ∧ (0 : Int32).toInt ≤ (0 : Int32).toInt ∧ (0 : Int32).toInt ≤ 1000 by omega) (show wr A95 from p97c) (show wq A95 from p97d) (show (A95 2) 2 = A0 2 2 from p97g) (show ∀ q : Int, 2600 ≤ q → (A95 1) q = A0 1 q from p97h)
          · refine k_c1 27 rfl rfl (if_neg b116) ?_
            have b116 := mt iv_eq0.mpr b116
            refine k_push 28 rfl rfl ?_
            refine k_fin rfl (fin_Z (Or.inl rfl)) ⟨_, _, rfl, rf_len I96 I96, ?_⟩
            show am_Ok _ _ _ (27, _, [.inl (0 : Int32)], _, 0, 0) _
            refine k_c1 30 rfl rfl (if_pos (by decide)) ?_
            refine k_push 31 rfl rfl ?_
            exact k_fin rfl rfl ⟨_, _, _, _, rfl, I96, (fr1.tr (by decide) (fr1.up (by decide) fr1.rf) k98), (fr2.tr (by decide) fr2.rf k99), ⟨p97c, p97d, p97g, p97h⟩⟩
      · refine k_c1 27 rfl rfl (if_neg b91) ?_
        have b91 := mt iv_eq0.mpr b91
        refine k_push 28 rfl rfl ?_
        refine k_fin rfl (fin_Z (Or.inl rfl)) ⟨_, _, rfl, rf_len I52 I52, ?_⟩
        show am_Ok _ _ _ (14, _, [.inl (0 : Int32)], _, 0, 0) _
        refine k_c1 30 rfl rfl (if_pos (by decide)) ?_
        refine k_push 31 rfl rfl ?_
        exact k_fin rfl rfl ⟨_, _, _, _, rfl, I52, (fr1.up (by decide) fr1.rf), fr2.rf, show wr A0 ∧ wq A0 ∧ (A0 2) 2 = A0 2 2 ∧ (∀ q : Int, 2600 ≤ q → (A0 1) q = A0 1 q) from ⟨p5, p6, rfl, fun q _ => rfl⟩⟩
  · refine k_c2 5 rfl rfl (if_neg b54) ?_
    have b54 := mt iv_lt.mpr b54
    refine k_iload 6 rfl rfl rfl ?_
    refine k_iload 7 rfl rfl rfl ?_
    by_cases b117 : (2 : Int32) < w1
    · refine k_c2 14 rfl rfl (if_pos b117) ?_
      have b117 := iv_lt.mp b117
      refine k_push 15 rfl rfl ?_
      refine k_fin rfl (fin_Z (Or.inl rfl)) ⟨_, _, rfl, rf_len I52 I52, ?_⟩
      show am_Ok _ _ _ (6, _, [.inl (0 : Int32)], _, 0, 0) _
      refine k_fin rfl (fin_Z (Or.inl rfl)) ⟨_, _, rfl, rf_len I52 I52, ?_⟩
      show am_Ok _ _ _ (10, _, [.inl (0 : Int32), .inr (.inr (some 81))], _, 0, 0) _
      refine k_push 11 rfl rfl ?_
      have hc118 : (1 : Int32).toInt = 1 := by decide
      refine k_in (d := 0) rfl rfl rfl rfl I52.rc ?_
      refine k_aload 1 rfl rfl rfl ?_
      refine r_gI I52 4 rfl rfl rfl (fun x119 (e120 : x119.toInt = (0 : Int32).toInt) => ?_)
      by_cases b121 : x119 = 0
      · refine k_c1 7 rfl rfl (if_pos b121) ?_
        have b121 := iv_eq0.mp b121
        refine k_iload 8 rfl rfl rfl ?_
        refine k_c1 11 rfl rfl (if_pos (by decide)) ?_
        refine k_aload 12 rfl rfl rfl ?_
        refine k_iload 13 rfl rfl rfl ?_
        refine r_pI I52 16 rfl rfl rfl (fun h122 I123 => ?_)
        refine k_aload 17 rfl rfl rfl ?_
        refine r_gI I123 20 rfl rfl rfl (fun x124 (e125 : x124.toInt = (1 : Int32).toInt) => ?_)
        by_cases b126 : x124 = 0
        · refine k_c1 23 rfl rfl (if_pos b126) ?_
          have b126 := iv_eq0.mp b126
          refine k_push 24 rfl rfl ?_
          refine k_goto 28 rfl rfl ?_
          refine k_fin rfl (fin_Z (Or.inr rfl)) ⟨_, _, rfl, rf_len I52 I123, ?_⟩
          show am_Ok _ _ _ (14, _, [.inl (1 : Int32)], _, 0, 0) _
          refine k_c1 17 rfl rfl (if_neg (by decide)) ?_
          refine k_aload 18 rfl rfl rfl ?_
          refine k_aload 19 rfl rfl rfl ?_
          refine k_iload 20 rfl rfl rfl ?_
          refine k_rq I123 rfl (m_isTerm (lm := lm) (gT := gT) (gt := gt) I123.1 (show nn ((A0 24)) ((A0 25)) ((F0 28)) (gT) from p1) (show nw ((A0 24)) ((A0 25)) ((A0 26)) (lm) ((F0 28)) from p2) (show wr A0 from p5) (show wq A0 from p6) (show (A0 2) 2 = (gt) ∧ 1 ≤ (gt) ∧ (gt) ≤ 120 from p7) (show wf ((A0 1)) 2600 (gt) from p8) (show cb ((A0 1)) 2600 (gt) 200 from p9) (show 0 ≤ w1.toInt ∧ w1.toInt ≤ 2 by omega)) rfl rfl rfl I123.rc ?_
          rintro x127 h128 F129 A130 I131 ⟨k133, k134, p132⟩
          replace p132 : (x127.toInt = 0 ∨ x127.toInt = 1) ∧ (x127.toInt = 1 → ∃ n' : Nat, n' ≤ 1000 ∧ A130 2 w1.toInt = n' ∧ wf (A130 1) (1300 * w1.toInt) n') ∧ wr A130 ∧ wq A130 ∧ (∀ q : Int, q ≠ w1.toInt → A130 2 q = (A0 2) q) ∧ (∀ q : Int, (0 ≤ q ∧ q < 1300 * w1.toInt) ∨ 1300 * w1.toInt + 1300 ≤ q → A130 1 q = (A0 1) q) ∧ A130 2 2 = (A0 2) 2 ∧ (∀ q : Int, 2600 ≤ q → A130 1 q = (A0 1) q) := p132
          obtain ⟨p132a, p132b, p132c, p132d, p132e, p132f, p132g, p132h⟩ := p132
          have z135 := iv_01 (x := x127) p132a
          show am_Ok _ _ _ (23, _, [.inl x127, .inr (.inr (some 81))], _, 0, 0) _
          refine k_push 24 rfl rfl ?_
          refine k_in (d := 0) rfl rfl rfl rfl I131.rc ?_
          refine k_aload 1 rfl rfl rfl ?_
          refine r_gI I131 4 rfl rfl rfl (fun x136 (e137 : x136.toInt = F129 0) => ?_)
          have e138 : F129 0 = (1 : Int32).toInt := k133 0 (by decide)
          by_cases b139 : x136 = 0
          · refine k_c1 7 rfl rfl (if_pos b139) ?_
            have b139 := iv_eq0.mp b139
            refine k_iload 8 rfl rfl rfl ?_
            by_cases b140 : x127 = 0
            · refine k_c1 11 rfl rfl (if_pos b140) ?_
              have b140 := iv_eq0.mp b140
              refine k_aload 12 rfl rfl rfl ?_
              refine k_iload 13 rfl rfl rfl ?_
              refine r_pI I131 16 rfl rfl rfl (fun h141 I142 => ?_)
              refine k_aload 17 rfl rfl rfl ?_
              refine r_gI I142 20 rfl rfl rfl (fun x143 (e144 : x143.toInt = (2 : Int32).toInt) => ?_)
              by_cases b145 : x143 = 0
              · refine k_c1 23 rfl rfl (if_pos b145) ?_
                have b145 := iv_eq0.mp b145
                refine k_push 24 rfl rfl ?_
                refine k_goto 28 rfl rfl ?_
                refine k_fin rfl (fin_Z (Or.inr rfl)) ⟨_, _, rfl, rf_len I131 I142, ?_⟩
                show am_Ok _ _ _ (27, _, [.inl (1 : Int32)], _, 0, 0) _
                refine k_c1 32 rfl rfl (if_neg (by decide)) ?_
                obtain ⟨gn, hn1, hn2, hn3⟩ := p132b (by clear p132b; omega)
                clear p132b
                refine k_push 33 rfl rfl ?_
                refine k_istore 34 rfl rfl ?_
                refine k_push 35 rfl rfl ?_
                refine k_istore 36 rfl rfl ?_
                exact b_X10_redexes_36 (lm := lm) (gT := gT) (gt := gt) (w1 := w1) p1 p2 p5 p6 p7 p8 p9 _  rfl (gs_ne rfl rfl (gs_ne rfl rfl rfl)) (gs_ne rfl rfl (gs_ne rfl rfl rfl)) (gs_ne rfl rfl gs_eq) gs_eq I142 (fr1.up (by decide) (fr1.tr (by decide) (fr1.up (by decide) (fr1.up (by decide) fr1.rf)) k133)) (fr2.tr (by decide) fr2.rf k134) (show 0 ≤ w1.toInt ∧ w1.toInt ≤ 2 by omega) (show (A130 2) w1.toInt ≤ 1000 by omega) (show 0 ≤ (0 : Int32).toInt ∧ (0 : Int32).toInt ≤ (0 : Int32).toInt ∧ (0 : Int32).toInt ≤ 1000 by omega) (show wr A130 from p132c) (show wq A130 from p132d) (show (A130 2) 2 = A0 2 2 from p132g) (show ∀ q : Int, 2600 ≤ q → (A130 1) q = A0 1 q from p132h)
              · refine k_c1 27 rfl rfl (if_neg b145) ?_
                have b145 := mt iv_eq0.mpr b145
                refine k_push 28 rfl rfl ?_
                refine k_fin rfl (fin_Z (Or.inl rfl)) ⟨_, _, rfl, rf_len I131 I142, ?_⟩
                show am_Ok _ _ _ (27, _, [.inl (0 : Int32)], _, 0, 0) _
                refine k_c1 30 rfl rfl (if_pos (by decide)) ?_
                refine k_push 31 rfl rfl ?_
                exact k_fin rfl rfl ⟨_, _, _, _, rfl, I142, (fr1.up (by decide) (fr1.tr (by decide) (fr1.up (by decide) (fr1.up (by decide) fr1.rf)) k133)), (fr2.tr (by decide) fr2.rf k134), ⟨p132c, p132d, p132g, p132h⟩⟩
            · refine k_c1 16 rfl rfl (if_neg b140) ?_
              have b140 := mt iv_eq0.mpr b140
              refine k_aload 17 rfl rfl rfl ?_
              refine r_gI I131 20 rfl rfl rfl (fun x146 (e147 : x146.toInt = F129 0) => ?_)
              by_cases b148 : x146 = 0
              · refine k_c1 23 rfl rfl (if_pos b148) ?_
                have b148 := iv_eq0.mp b148
                refine k_push 24 rfl rfl ?_
                refine k_goto 28 rfl rfl ?_
                refine k_fin rfl (fin_Z (Or.inr rfl)) ⟨_, _, rfl, rf_len I131 I131, ?_⟩
                show am_Ok _ _ _ (27, _, [.inl (1 : Int32)], _, 0, 0) _
                refine k_c1 32 rfl rfl (if_neg (by decide)) ?_
                obtain ⟨gn, hn1, hn2, hn3⟩ := p132b (by clear p132b; omega)
                clear p132b
                refine k_push 33 rfl rfl ?_
                refine k_istore 34 rfl rfl ?_
                refine k_push 35 rfl rfl ?_
                refine k_istore 36 rfl rfl ?_
                exact b_X10_redexes_36 (lm := lm) (gT := gT) (gt := gt) (w1 := w1) p1 p2 p5 p6 p7 p8 p9 _  rfl (gs_ne rfl rfl (gs_ne rfl rfl rfl)) (gs_ne rfl rfl (gs_ne rfl rfl rfl)) (gs_ne rfl rfl gs_eq) gs_eq I131 (fr1.tr (by decide) (fr1.up (by decide) (fr1.up (by decide) fr1.rf)) k133) (fr2.tr (by decide) fr2.rf k134) (show 0 ≤ w1.toInt ∧ w1.toInt ≤ 2 by omega) (show (A130 2) w1.toInt ≤ 1000 by omega) (show 0 ≤ (0 : Int32).toInt ∧ (0 : Int32).toInt ≤ (0 : Int32).toInt ∧ (0 : Int32).toInt ≤ 1000 by omega) (show wr A130 from p132c) (show wq A130 from p132d) (show (A130 2) 2 = A0 2 2 from p132g) (show ∀ q : Int, 2600 ≤ q → (A130 1) q = A0 1 q from p132h)
              · refine k_c1 27 rfl rfl (if_neg b148) ?_
                have b148 := mt iv_eq0.mpr b148
                refine k_push 28 rfl rfl ?_
                refine k_fin rfl (fin_Z (Or.inl rfl)) ⟨_, _, rfl, rf_len I131 I131, ?_⟩
                show am_Ok _ _ _ (27, _, [.inl (0 : Int32)], _, 0, 0) _
                refine k_c1 30 rfl rfl (if_pos (by decide)) ?_
                refine k_push 31 rfl rfl ?_
                exact k_fin rfl rfl ⟨_, _, _, _, rfl, I131, (fr1.tr (by decide) (fr1.up (by decide) (fr1.up (by decide) fr1.rf)) k133), (fr2.tr (by decide) fr2.rf k134), ⟨p132c, p132d, p132g, p132h⟩⟩
          · refine k_c1 16 rfl rfl (if_neg b139) ?_
            have b139 := mt iv_eq0.mpr b139
            refine k_aload 17 rfl rfl rfl ?_
            refine r_gI I131 20 rfl rfl rfl (fun x149 (e150 : x149.toInt = F129 0) => ?_)
            by_cases b151 : x149 = 0
            · refine k_c1 23 rfl rfl (if_pos b151) ?_
              have b151 := iv_eq0.mp b151
              refine k_push 24 rfl rfl ?_
              refine k_goto 28 rfl rfl ?_
              refine k_fin rfl (fin_Z (Or.inr rfl)) ⟨_, _, rfl, rf_len I131 I131, ?_⟩
              show am_Ok _ _ _ (27, _, [.inl (1 : Int32)], _, 0, 0) _
              refine k_c1 32 rfl rfl (if_neg (by decide)) ?_
              obtain ⟨gn, hn1, hn2, hn3⟩ := p132b (by clear p132b; omega)
              clear p132b
              refine k_push 33 rfl rfl ?_
              refine k_istore 34 rfl rfl ?_
              refine k_push 35 rfl rfl ?_
              refine k_istore 36 rfl rfl ?_
              exact b_X10_redexes_36 (lm := lm) (gT := gT) (gt := gt) (w1 := w1) p1 p2 p5 p6 p7 p8 p9 _  rfl (gs_ne rfl rfl (gs_ne rfl rfl rfl)) (gs_ne rfl rfl (gs_ne rfl rfl rfl)) (gs_ne rfl rfl gs_eq) gs_eq I131 (fr1.tr (by decide) (fr1.up (by decide) (fr1.up (by decide) fr1.rf)) k133) (fr2.tr (by decide) fr2.rf k134) (show 0 ≤ w1.toInt ∧ w1.toInt ≤ 2 by omega) (show (A130 2) w1.toInt ≤ 1000 by omega) (show 0 ≤ (0 : Int32).toInt ∧ (0 : Int32).toInt ≤ (0 : Int32).toInt ∧ (0 : Int32).toInt ≤ 1000 by omega) (show wr A130 from p132c) (show wq A130 from p132d) (show (A130 2) 2 = A0 2 2 from p132g) (show ∀ q : Int, 2600 ≤ q → (A130 1) q = A0 1 q from p132h)
            · refine k_c1 27 rfl rfl (if_neg b151) ?_
              have b151 := mt iv_eq0.mpr b151
              refine k_push 28 rfl rfl ?_
              refine k_fin rfl (fin_Z (Or.inl rfl)) ⟨_, _, rfl, rf_len I131 I131, ?_⟩
              show am_Ok _ _ _ (27, _, [.inl (0 : Int32)], _, 0, 0) _
              refine k_c1 30 rfl rfl (if_pos (by decide)) ?_
              refine k_push 31 rfl rfl ?_
              exact k_fin rfl rfl ⟨_, _, _, _, rfl, I131, (fr1.tr (by decide) (fr1.up (by decide) (fr1.up (by decide) fr1.rf)) k133), (fr2.tr (by decide) fr2.rf k134), ⟨p132c, p132d, p132g, p132h⟩⟩
        · refine k_c1 27 rfl rfl (if_neg b126) ?_
          have b126 := mt iv_eq0.mpr b126
          refine k_push 28 rfl rfl ?_
          refine k_fin rfl (fin_Z (Or.inl rfl)) ⟨_, _, rfl, rf_len I52 I123, ?_⟩
          show am_Ok _ _ _ (14, _, [.inl (0 : Int32)], _, 0, 0) _
          refine k_c1 30 rfl rfl (if_pos (by decide)) ?_
          refine k_push 31 rfl rfl ?_
          exact k_fin rfl rfl ⟨_, _, _, _, rfl, I123, (fr1.up (by decide) (fr1.up (by decide) fr1.rf)), fr2.rf, show wr A0 ∧ wq A0 ∧ (A0 2) 2 = A0 2 2 ∧ (∀ q : Int, 2600 ≤ q → (A0 1) q = A0 1 q) from ⟨p5, p6, rfl, fun q _ => rfl⟩⟩
      · refine k_c1 16 rfl rfl (if_neg b121) ?_
        have b121 := mt iv_eq0.mpr b121
        refine k_aload 17 rfl rfl rfl ?_
        refine r_gI I52 20 rfl rfl rfl (fun x152 (e153 : x152.toInt = (0 : Int32).toInt) => ?_)
        by_cases b154 : x152 = 0
        · refine k_c1 23 rfl rfl (if_pos b154) ?_
          have b154 := iv_eq0.mp b154
          refine k_push 24 rfl rfl ?_
          refine k_goto 28 rfl rfl ?_
          refine k_fin rfl (fin_Z (Or.inr rfl)) ⟨_, _, rfl, rf_len I52 I52, ?_⟩
          show am_Ok _ _ _ (14, _, [.inl (1 : Int32)], _, 0, 0) _
          refine k_c1 17 rfl rfl (if_neg (by decide)) ?_
          refine k_aload 18 rfl rfl rfl ?_
          refine k_aload 19 rfl rfl rfl ?_
          refine k_iload 20 rfl rfl rfl ?_
          refine k_rq I52 rfl (m_isTerm (lm := lm) (gT := gT) (gt := gt) I52.1 (show nn ((A0 24)) ((A0 25)) ((F0 28)) (gT) from p1) (show nw ((A0 24)) ((A0 25)) ((A0 26)) (lm) ((F0 28)) from p2) (show wr A0 from p5) (show wq A0 from p6) (show (A0 2) 2 = (gt) ∧ 1 ≤ (gt) ∧ (gt) ≤ 120 from p7) (show wf ((A0 1)) 2600 (gt) from p8) (show cb ((A0 1)) 2600 (gt) 200 from p9) (show 0 ≤ w1.toInt ∧ w1.toInt ≤ 2 by omega)) rfl rfl rfl I52.rc ?_
          rintro x155 h156 F157 A158 I159 ⟨k161, k162, p160⟩
          replace p160 : (x155.toInt = 0 ∨ x155.toInt = 1) ∧ (x155.toInt = 1 → ∃ n' : Nat, n' ≤ 1000 ∧ A158 2 w1.toInt = n' ∧ wf (A158 1) (1300 * w1.toInt) n') ∧ wr A158 ∧ wq A158 ∧ (∀ q : Int, q ≠ w1.toInt → A158 2 q = (A0 2) q) ∧ (∀ q : Int, (0 ≤ q ∧ q < 1300 * w1.toInt) ∨ 1300 * w1.toInt + 1300 ≤ q → A158 1 q = (A0 1) q) ∧ A158 2 2 = (A0 2) 2 ∧ (∀ q : Int, 2600 ≤ q → A158 1 q = (A0 1) q) := p160
          obtain ⟨p160a, p160b, p160c, p160d, p160e, p160f, p160g, p160h⟩ := p160
          have z163 := iv_01 (x := x155) p160a
          show am_Ok _ _ _ (23, _, [.inl x155, .inr (.inr (some 81))], _, 0, 0) _
          refine k_push 24 rfl rfl ?_
          refine k_in (d := 0) rfl rfl rfl rfl I159.rc ?_
          refine k_aload 1 rfl rfl rfl ?_
          refine r_gI I159 4 rfl rfl rfl (fun x164 (e165 : x164.toInt = F157 0) => ?_)
          have e166 : F157 0 = (0 : Int32).toInt := k161 0 (by decide)
          by_cases b167 : x164 = 0
          · refine k_c1 7 rfl rfl (if_pos b167) ?_
            have b167 := iv_eq0.mp b167
            refine k_iload 8 rfl rfl rfl ?_
            by_cases b168 : x155 = 0
            · refine k_c1 11 rfl rfl (if_pos b168) ?_
              have b168 := iv_eq0.mp b168
              refine k_aload 12 rfl rfl rfl ?_
              refine k_iload 13 rfl rfl rfl ?_
              refine r_pI I159 16 rfl rfl rfl (fun h169 I170 => ?_)
              refine k_aload 17 rfl rfl rfl ?_
              refine r_gI I170 20 rfl rfl rfl (fun x171 (e172 : x171.toInt = (2 : Int32).toInt) => ?_)
              by_cases b173 : x171 = 0
              · refine k_c1 23 rfl rfl (if_pos b173) ?_
                have b173 := iv_eq0.mp b173
                refine k_push 24 rfl rfl ?_
                refine k_goto 28 rfl rfl ?_
                refine k_fin rfl (fin_Z (Or.inr rfl)) ⟨_, _, rfl, rf_len I159 I170, ?_⟩
                show am_Ok _ _ _ (27, _, [.inl (1 : Int32)], _, 0, 0) _
                refine k_c1 32 rfl rfl (if_neg (by decide)) ?_
                obtain ⟨gn, hn1, hn2, hn3⟩ := p160b (by clear p160b; omega)
                clear p160b
                refine k_push 33 rfl rfl ?_
                refine k_istore 34 rfl rfl ?_
                refine k_push 35 rfl rfl ?_
                refine k_istore 36 rfl rfl ?_
                exact b_X10_redexes_36 (lm := lm) (gT := gT) (gt := gt) (w1 := w1) p1 p2 p5 p6 p7 p8 p9 _  rfl (gs_ne rfl rfl (gs_ne rfl rfl rfl)) (gs_ne rfl rfl (gs_ne rfl rfl rfl)) (gs_ne rfl rfl gs_eq) gs_eq I170 (fr1.up (by decide) (fr1.tr (by decide) (fr1.up (by decide) fr1.rf) k161)) (fr2.tr (by decide) fr2.rf k162) (show 0 ≤ w1.toInt ∧ w1.toInt ≤ 2 by omega) (show (A158 2) w1.toInt ≤ 1000 by omega) (show 0 ≤ (0 : Int32).toInt ∧ (0 : Int32).toInt ≤ (0 : Int32).toInt ∧ (0 : Int32).toInt ≤ 1000 by omega) (show wr A158 from p160c) (show wq A158 from p160d) (show (A158 2) 2 = A0 2 2 from p160g) (show ∀ q : Int, 2600 ≤ q → (A158 1) q = A0 1 q from p160h)
              · refine k_c1 27 rfl rfl (if_neg b173) ?_
                have b173 := mt iv_eq0.mpr b173
                refine k_push 28 rfl rfl ?_
                refine k_fin rfl (fin_Z (Or.inl rfl)) ⟨_, _, rfl, rf_len I159 I170, ?_⟩
                show am_Ok _ _ _ (27, _, [.inl (0 : Int32)], _, 0, 0) _
                refine k_c1 30 rfl rfl (if_pos (by decide)) ?_
                refine k_push 31 rfl rfl ?_
                exact k_fin rfl rfl ⟨_, _, _, _, rfl, I170, (fr1.up (by decide) (fr1.tr (by decide) (fr1.up (by decide) fr1.rf) k161)), (fr2.tr (by decide) fr2.rf k162), ⟨p160c, p160d, p160g, p160h⟩⟩
            · refine k_c1 16 rfl rfl (if_neg b168) ?_
              have b168 := mt iv_eq0.mpr b168
              refine k_aload 17 rfl rfl rfl ?_
              refine r_gI I159 20 rfl rfl rfl (fun x174 (e175 : x174.toInt = F157 0) => ?_)
              by_cases b176 : x174 = 0
              · refine k_c1 23 rfl rfl (if_pos b176) ?_
                have b176 := iv_eq0.mp b176
                refine k_push 24 rfl rfl ?_
                refine k_goto 28 rfl rfl ?_
                refine k_fin rfl (fin_Z (Or.inr rfl)) ⟨_, _, rfl, rf_len I159 I159, ?_⟩
                show am_Ok _ _ _ (27, _, [.inl (1 : Int32)], _, 0, 0) _
                refine k_c1 32 rfl rfl (if_neg (by decide)) ?_
                obtain ⟨gn, hn1, hn2, hn3⟩ := p160b (by clear p160b; omega)
                clear p160b
                refine k_push 33 rfl rfl ?_
                refine k_istore 34 rfl rfl ?_
                refine k_push 35 rfl rfl ?_
                refine k_istore 36 rfl rfl ?_
                exact b_X10_redexes_36 (lm := lm) (gT := gT) (gt := gt) (w1 := w1) p1 p2 p5 p6 p7 p8 p9 _  rfl (gs_ne rfl rfl (gs_ne rfl rfl rfl)) (gs_ne rfl rfl (gs_ne rfl rfl rfl)) (gs_ne rfl rfl gs_eq) gs_eq I159 (fr1.tr (by decide) (fr1.up (by decide) fr1.rf) k161) (fr2.tr (by decide) fr2.rf k162) (show 0 ≤ w1.toInt ∧ w1.toInt ≤ 2 by omega) (show (A158 2) w1.toInt ≤ 1000 by omega) (show 0 ≤ (0 : Int32).toInt ∧ (0 : Int32).toInt ≤ (0 : Int32).toInt ∧ (0 : Int32).toInt ≤ 1000 by omega) (show wr A158 from p160c) (show wq A158 from p160d) (show (A158 2) 2 = A0 2 2 from p160g) (show ∀ q : Int, 2600 ≤ q → (A158 1) q = A0 1 q from p160h)
              · refine k_c1 27 rfl rfl (if_neg b176) ?_
                have b176 := mt iv_eq0.mpr b176
                refine k_push 28 rfl rfl ?_
                refine k_fin rfl (fin_Z (Or.inl rfl)) ⟨_, _, rfl, rf_len I159 I159, ?_⟩
                show am_Ok _ _ _ (27, _, [.inl (0 : Int32)], _, 0, 0) _
                refine k_c1 30 rfl rfl (if_pos (by decide)) ?_
                refine k_push 31 rfl rfl ?_
                exact k_fin rfl rfl ⟨_, _, _, _, rfl, I159, (fr1.tr (by decide) (fr1.up (by decide) fr1.rf) k161), (fr2.tr (by decide) fr2.rf k162), ⟨p160c, p160d, p160g, p160h⟩⟩
          · refine k_c1 16 rfl rfl (if_neg b167) ?_
            have b167 := mt iv_eq0.mpr b167
            refine k_aload 17 rfl rfl rfl ?_
            refine r_gI I159 20 rfl rfl rfl (fun x177 (e178 : x177.toInt = F157 0) => ?_)
            by_cases b179 : x177 = 0
            · refine k_c1 23 rfl rfl (if_pos b179) ?_
              have b179 := iv_eq0.mp b179
              refine k_push 24 rfl rfl ?_
              refine k_goto 28 rfl rfl ?_
              refine k_fin rfl (fin_Z (Or.inr rfl)) ⟨_, _, rfl, rf_len I159 I159, ?_⟩
              show am_Ok _ _ _ (27, _, [.inl (1 : Int32)], _, 0, 0) _
              refine k_c1 32 rfl rfl (if_neg (by decide)) ?_
              obtain ⟨gn, hn1, hn2, hn3⟩ := p160b (by clear p160b; omega)
              clear p160b
              refine k_push 33 rfl rfl ?_
              refine k_istore 34 rfl rfl ?_
              refine k_push 35 rfl rfl ?_
              refine k_istore 36 rfl rfl ?_
              exact b_X10_redexes_36 (lm := lm) (gT := gT) (gt := gt) (w1 := w1) p1 p2 p5 p6 p7 p8 p9 _  rfl (gs_ne rfl rfl (gs_ne rfl rfl rfl)) (gs_ne rfl rfl (gs_ne rfl rfl rfl)) (gs_ne rfl rfl gs_eq) gs_eq I159 (fr1.tr (by decide) (fr1.up (by decide) fr1.rf) k161) (fr2.tr (by decide) fr2.rf k162) (show 0 ≤ w1.toInt ∧ w1.toInt ≤ 2 by omega) (show (A158 2) w1.toInt ≤ 1000 by omega) (show 0 ≤ (0 : Int32).toInt ∧ (0 : Int32).toInt ≤ (0 : Int32).toInt ∧ (0 : Int32).toInt ≤ 1000 by omega) (show wr A158 from p160c) (show wq A158 from p160d) (show (A158 2) 2 = A0 2 2 from p160g) (show ∀ q : Int, 2600 ≤ q → (A158 1) q = A0 1 q from p160h)
            · refine k_c1 27 rfl rfl (if_neg b179) ?_
              have b179 := mt iv_eq0.mpr b179
              refine k_push 28 rfl rfl ?_
              refine k_fin rfl (fin_Z (Or.inl rfl)) ⟨_, _, rfl, rf_len I159 I159, ?_⟩
              show am_Ok _ _ _ (27, _, [.inl (0 : Int32)], _, 0, 0) _
              refine k_c1 30 rfl rfl (if_pos (by decide)) ?_
              refine k_push 31 rfl rfl ?_
              exact k_fin rfl rfl ⟨_, _, _, _, rfl, I159, (fr1.tr (by decide) (fr1.up (by decide) fr1.rf) k161), (fr2.tr (by decide) fr2.rf k162), ⟨p160c, p160d, p160g, p160h⟩⟩
        · refine k_c1 27 rfl rfl (if_neg b154) ?_
          have b154 := mt iv_eq0.mpr b154
          refine k_push 28 rfl rfl ?_
          refine k_fin rfl (fin_Z (Or.inl rfl)) ⟨_, _, rfl, rf_len I52 I52, ?_⟩
          show am_Ok _ _ _ (14, _, [.inl (0 : Int32)], _, 0, 0) _
          refine k_c1 30 rfl rfl (if_pos (by decide)) ?_
          refine k_push 31 rfl rfl ?_
          exact k_fin rfl rfl ⟨_, _, _, _, rfl, I52, (fr1.up (by decide) fr1.rf), fr2.rf, show wr A0 ∧ wq A0 ∧ (A0 2) 2 = A0 2 2 ∧ (∀ q : Int, 2600 ≤ q → (A0 1) q = A0 1 q) from ⟨p5, p6, rfl, fun q _ => rfl⟩⟩
    · refine k_c2 10 rfl rfl (if_neg b117) ?_
      have b117 := mt iv_lt.mpr b117
      refine k_push 11 rfl rfl ?_
      have hc180 : (1 : Int32).toInt = 1 := by decide
      refine k_goto 15 rfl rfl ?_
      refine k_fin rfl (fin_Z (Or.inr rfl)) ⟨_, _, rfl, rf_len I52 I52, ?_⟩
      show am_Ok _ _ _ (6, _, [.inl (1 : Int32)], _, 0, 0) _
      refine k_fin rfl (fin_Z (Or.inr rfl)) ⟨_, _, rfl, rf_len I52 I52, ?_⟩
      show am_Ok _ _ _ (10, _, [.inl (1 : Int32), .inr (.inr (some 81))], _, 0, 0) _
      refine k_push 11 rfl rfl ?_
      refine k_in (d := 0) rfl rfl rfl rfl I52.rc ?_
      refine k_aload 1 rfl rfl rfl ?_
      refine r_gI I52 4 rfl rfl rfl (fun x181 (e182 : x181.toInt = (0 : Int32).toInt) => ?_)
      by_cases b183 : x181 = 0
      · refine k_c1 7 rfl rfl (if_pos b183) ?_
        have b183 := iv_eq0.mp b183
        refine k_iload 8 rfl rfl rfl ?_
        refine k_c1 16 rfl rfl (if_neg (by decide)) ?_
        refine k_aload 17 rfl rfl rfl ?_
        refine r_gI I52 20 rfl rfl rfl (fun x184 (e185 : x184.toInt = (0 : Int32).toInt) => ?_)
        by_cases b186 : x184 = 0
        · refine k_c1 23 rfl rfl (if_pos b186) ?_
          have b186 := iv_eq0.mp b186
          refine k_push 24 rfl rfl ?_
          refine k_goto 28 rfl rfl ?_
          refine k_fin rfl (fin_Z (Or.inr rfl)) ⟨_, _, rfl, rf_len I52 I52, ?_⟩
          show am_Ok _ _ _ (14, _, [.inl (1 : Int32)], _, 0, 0) _
          refine k_c1 17 rfl rfl (if_neg (by decide)) ?_
          refine k_aload 18 rfl rfl rfl ?_
          refine k_aload 19 rfl rfl rfl ?_
          refine k_iload 20 rfl rfl rfl ?_
          refine k_rq I52 rfl (m_isTerm (lm := lm) (gT := gT) (gt := gt) I52.1 (show nn ((A0 24)) ((A0 25)) ((F0 28)) (gT) from p1) (show nw ((A0 24)) ((A0 25)) ((A0 26)) (lm) ((F0 28)) from p2) (show wr A0 from p5) (show wq A0 from p6) (show (A0 2) 2 = (gt) ∧ 1 ≤ (gt) ∧ (gt) ≤ 120 from p7) (show wf ((A0 1)) 2600 (gt) from p8) (show cb ((A0 1)) 2600 (gt) 200 from p9) (show 0 ≤ w1.toInt ∧ w1.toInt ≤ 2 by omega)) rfl rfl rfl I52.rc ?_
          rintro x187 h188 F189 A190 I191 ⟨k193, k194, p192⟩
          replace p192 : (x187.toInt = 0 ∨ x187.toInt = 1) ∧ (x187.toInt = 1 → ∃ n' : Nat, n' ≤ 1000 ∧ A190 2 w1.toInt = n' ∧ wf (A190 1) (1300 * w1.toInt) n') ∧ wr A190 ∧ wq A190 ∧ (∀ q : Int, q ≠ w1.toInt → A190 2 q = (A0 2) q) ∧ (∀ q : Int, (0 ≤ q ∧ q < 1300 * w1.toInt) ∨ 1300 * w1.toInt + 1300 ≤ q → A190 1 q = (A0 1) q) ∧ A190 2 2 = (A0 2) 2 ∧ (∀ q : Int, 2600 ≤ q → A190 1 q = (A0 1) q) := p192
          obtain ⟨p192a, p192b, p192c, p192d, p192e, p192f, p192g, p192h⟩ := p192
          have z195 := iv_01 (x := x187) p192a
          show am_Ok _ _ _ (23, _, [.inl x187, .inr (.inr (some 81))], _, 0, 0) _
          refine k_push 24 rfl rfl ?_
          refine k_in (d := 0) rfl rfl rfl rfl I191.rc ?_
          refine k_aload 1 rfl rfl rfl ?_
          refine r_gI I191 4 rfl rfl rfl (fun x196 (e197 : x196.toInt = F189 0) => ?_)
          have e198 : F189 0 = (0 : Int32).toInt := k193 0 (by decide)
          by_cases b199 : x196 = 0
          · refine k_c1 7 rfl rfl (if_pos b199) ?_
            have b199 := iv_eq0.mp b199
            refine k_iload 8 rfl rfl rfl ?_
            by_cases b200 : x187 = 0
            · refine k_c1 11 rfl rfl (if_pos b200) ?_
              have b200 := iv_eq0.mp b200
              refine k_aload 12 rfl rfl rfl ?_
              refine k_iload 13 rfl rfl rfl ?_
              refine r_pI I191 16 rfl rfl rfl (fun h201 I202 => ?_)
              refine k_aload 17 rfl rfl rfl ?_
              refine r_gI I202 20 rfl rfl rfl (fun x203 (e204 : x203.toInt = (2 : Int32).toInt) => ?_)
              by_cases b205 : x203 = 0
              · refine k_c1 23 rfl rfl (if_pos b205) ?_
                have b205 := iv_eq0.mp b205
                refine k_push 24 rfl rfl ?_
                refine k_goto 28 rfl rfl ?_
                refine k_fin rfl (fin_Z (Or.inr rfl)) ⟨_, _, rfl, rf_len I191 I202, ?_⟩
                show am_Ok _ _ _ (27, _, [.inl (1 : Int32)], _, 0, 0) _
                refine k_c1 32 rfl rfl (if_neg (by decide)) ?_
                obtain ⟨gn, hn1, hn2, hn3⟩ := p192b (by clear p192b; omega)
                clear p192b
                refine k_push 33 rfl rfl ?_
                refine k_istore 34 rfl rfl ?_
                refine k_push 35 rfl rfl ?_
                refine k_istore 36 rfl rfl ?_
                exact b_X10_redexes_36 (lm := lm) (gT := gT) (gt := gt) (w1 := w1) p1 p2 p5 p6 p7 p8 p9 _  rfl (gs_ne rfl rfl (gs_ne rfl rfl rfl)) (gs_ne rfl rfl (gs_ne rfl rfl rfl)) (gs_ne rfl rfl gs_eq) gs_eq I202 (fr1.up (by decide) (fr1.tr (by decide) (fr1.up (by decide) fr1.rf) k193)) (fr2.tr (by decide) fr2.rf k194) (show 0 ≤ w1.toInt ∧ w1.toInt ≤ 2 by omega) (show (A190 2) w1.toInt ≤ 1000 by omega) (show 0 ≤ (0 : Int32).toInt ∧ (0 : Int32).toInt ≤ (0 : Int32).toInt ∧ (0 : Int32).toInt ≤ 1000 by omega) (show wr A190 from p192c) (show wq A190 from p192d) (show (A190 2) 2 = A0 2 2 from p192g) (show ∀ q : Int, 2600 ≤ q → (A190 1) q = A0 1 q from p192h)
              · refine k_c1 27 rfl rfl (if_neg b205) ?_
                have b205 := mt iv_eq0.mpr b205
                refine k_push 28 rfl rfl ?_
                refine k_fin rfl (fin_Z (Or.inl rfl)) ⟨_, _, rfl, rf_len I191 I202, ?_⟩
                show am_Ok _ _ _ (27, _, [.inl (0 : Int32)], _, 0, 0) _
                refine k_c1 30 rfl rfl (if_pos (by decide)) ?_
                refine k_push 31 rfl rfl ?_
                exact k_fin rfl rfl ⟨_, _, _, _, rfl, I202, (fr1.up (by decide) (fr1.tr (by decide) (fr1.up (by decide) fr1.rf) k193)), (fr2.tr (by decide) fr2.rf k194), ⟨p192c, p192d, p192g, p192h⟩⟩
            · refine k_c1 16 rfl rfl (if_neg b200) ?_
              have b200 := mt iv_eq0.mpr b200
              refine k_aload 17 rfl rfl rfl ?_
              refine r_gI I191 20 rfl rfl rfl (fun x206 (e207 : x206.toInt = F189 0) => ?_)
              by_cases b208 : x206 = 0
              · refine k_c1 23 rfl rfl (if_pos b208) ?_
                have b208 := iv_eq0.mp b208
                refine k_push 24 rfl rfl ?_
                refine k_goto 28 rfl rfl ?_
                refine k_fin rfl (fin_Z (Or.inr rfl)) ⟨_, _, rfl, rf_len I191 I191, ?_⟩
                show am_Ok _ _ _ (27, _, [.inl (1 : Int32)], _, 0, 0) _
                refine k_c1 32 rfl rfl (if_neg (by decide)) ?_
                obtain ⟨gn, hn1, hn2, hn3⟩ := p192b (by clear p192b; omega)
                clear p192b
                refine k_push 33 rfl rfl ?_
                refine k_istore 34 rfl rfl ?_
                refine k_push 35 rfl rfl ?_
                refine k_istore 36 rfl rfl ?_
                exact b_X10_redexes_36 (lm := lm) (gT := gT) (gt := gt) (w1 := w1) p1 p2 p5 p6 p7 p8 p9 _  rfl (gs_ne rfl rfl (gs_ne rfl rfl rfl)) (gs_ne rfl rfl (gs_ne rfl rfl rfl)) (gs_ne rfl rfl gs_eq) gs_eq I191 (fr1.tr (by decide) (fr1.up (by decide) fr1.rf) k193) (fr2.tr (by decide) fr2.rf k194) (show 0 ≤ w1.toInt ∧ w1.toInt ≤ 2 by omega) (show (A190 2) w1.toInt ≤ 1000 by omega) (show 0 ≤ (0 : Int32).toInt ∧ (0 : Int32).toInt ≤ (0 : Int32).toInt ∧ (0 : Int32).toInt ≤ 1000 by omega) (show wr A190 from p192c) (show wq A190 from p192d) (show (A190 2) 2 = A0 2 2 from p192g) (show ∀ q : Int, 2600 ≤ q → (A190 1) q = A0 1 q from p192h)
              · refine k_c1 27 rfl rfl (if_neg b208) ?_
                have b208 := mt iv_eq0.mpr b208
                refine k_push 28 rfl rfl ?_
                refine k_fin rfl (fin_Z (Or.inl rfl)) ⟨_, _, rfl, rf_len I191 I191, ?_⟩
                show am_Ok _ _ _ (27, _, [.inl (0 : Int32)], _, 0, 0) _
                refine k_c1 30 rfl rfl (if_pos (by decide)) ?_
                refine k_push 31 rfl rfl ?_
                exact k_fin rfl rfl ⟨_, _, _, _, rfl, I191, (fr1.tr (by decide) (fr1.up (by decide) fr1.rf) k193), (fr2.tr (by decide) fr2.rf k194), ⟨p192c, p192d, p192g, p192h⟩⟩
          · refine k_c1 16 rfl rfl (if_neg b199) ?_
            have b199 := mt iv_eq0.mpr b199
            refine k_aload 17 rfl rfl rfl ?_
            refine r_gI I191 20 rfl rfl rfl (fun x209 (e210 : x209.toInt = F189 0) => ?_)
            by_cases b211 : x209 = 0
            · refine k_c1 23 rfl rfl (if_pos b211) ?_
              have b211 := iv_eq0.mp b211
              refine k_push 24 rfl rfl ?_
              refine k_goto 28 rfl rfl ?_
              refine k_fin rfl (fin_Z (Or.inr rfl)) ⟨_, _, rfl, rf_len I191 I191, ?_⟩
              show am_Ok _ _ _ (27, _, [.inl (1 : Int32)], _, 0, 0) _
              refine k_c1 32 rfl rfl (if_neg (by decide)) ?_
              obtain ⟨gn, hn1, hn2, hn3⟩ := p192b (by clear p192b; omega)
              clear p192b
              refine k_push 33 rfl rfl ?_
              refine k_istore 34 rfl rfl ?_
              refine k_push 35 rfl rfl ?_
              refine k_istore 36 rfl rfl ?_
              exact b_X10_redexes_36 (lm := lm) (gT := gT) (gt := gt) (w1 := w1) p1 p2 p5 p6 p7 p8 p9 _  rfl (gs_ne rfl rfl (gs_ne rfl rfl rfl)) (gs_ne rfl rfl (gs_ne rfl rfl rfl)) (gs_ne rfl rfl gs_eq) gs_eq I191 (fr1.tr (by decide) (fr1.up (by decide) fr1.rf) k193) (fr2.tr (by decide) fr2.rf k194) (show 0 ≤ w1.toInt ∧ w1.toInt ≤ 2 by omega) (show (A190 2) w1.toInt ≤ 1000 by omega) (show 0 ≤ (0 : Int32).toInt ∧ (0 : Int32).toInt ≤ (0 : Int32).toInt ∧ (0 : Int32).toInt ≤ 1000 by omega) (show wr A190 from p192c) (show wq A190 from p192d) (show (A190 2) 2 = A0 2 2 from p192g) (show ∀ q : Int, 2600 ≤ q → (A190 1) q = A0 1 q from p192h)
            · refine k_c1 27 rfl rfl (if_neg b211) ?_
              have b211 := mt iv_eq0.mpr b211
              refine k_push 28 rfl rfl ?_
              refine k_fin rfl (fin_Z (Or.inl rfl)) ⟨_, _, rfl, rf_len I191 I191, ?_⟩
              show am_Ok _ _ _ (27, _, [.inl (0 : Int32)], _, 0, 0) _
              refine k_c1 30 rfl rfl (if_pos (by decide)) ?_
              refine k_push 31 rfl rfl ?_
              exact k_fin rfl rfl ⟨_, _, _, _, rfl, I191, (fr1.tr (by decide) (fr1.up (by decide) fr1.rf) k193), (fr2.tr (by decide) fr2.rf k194), ⟨p192c, p192d, p192g, p192h⟩⟩
        · refine k_c1 27 rfl rfl (if_neg b186) ?_
          have b186 := mt iv_eq0.mpr b186
          refine k_push 28 rfl rfl ?_
          refine k_fin rfl (fin_Z (Or.inl rfl)) ⟨_, _, rfl, rf_len I52 I52, ?_⟩
          show am_Ok _ _ _ (14, _, [.inl (0 : Int32)], _, 0, 0) _
          refine k_c1 30 rfl rfl (if_pos (by decide)) ?_
          refine k_push 31 rfl rfl ?_
          exact k_fin rfl rfl ⟨_, _, _, _, rfl, I52, (fr1.up (by decide) fr1.rf), fr2.rf, show wr A0 ∧ wq A0 ∧ (A0 2) 2 = A0 2 2 ∧ (∀ q : Int, 2600 ≤ q → (A0 1) q = A0 1 q) from ⟨p5, p6, rfl, fun q _ => rfl⟩⟩
      · refine k_c1 16 rfl rfl (if_neg b183) ?_
        have b183 := mt iv_eq0.mpr b183
        refine k_aload 17 rfl rfl rfl ?_
        refine r_gI I52 20 rfl rfl rfl (fun x212 (e213 : x212.toInt = (0 : Int32).toInt) => ?_)
        by_cases b214 : x212 = 0
        · refine k_c1 23 rfl rfl (if_pos b214) ?_
          have b214 := iv_eq0.mp b214
          refine k_push 24 rfl rfl ?_
          refine k_goto 28 rfl rfl ?_
          refine k_fin rfl (fin_Z (Or.inr rfl)) ⟨_, _, rfl, rf_len I52 I52, ?_⟩
          show am_Ok _ _ _ (14, _, [.inl (1 : Int32)], _, 0, 0) _
          refine k_c1 17 rfl rfl (if_neg (by decide)) ?_
          refine k_aload 18 rfl rfl rfl ?_
          refine k_aload 19 rfl rfl rfl ?_
          refine k_iload 20 rfl rfl rfl ?_
          refine k_rq I52 rfl (m_isTerm (lm := lm) (gT := gT) (gt := gt) I52.1 (show nn ((A0 24)) ((A0 25)) ((F0 28)) (gT) from p1) (show nw ((A0 24)) ((A0 25)) ((A0 26)) (lm) ((F0 28)) from p2) (show wr A0 from p5) (show wq A0 from p6) (show (A0 2) 2 = (gt) ∧ 1 ≤ (gt) ∧ (gt) ≤ 120 from p7) (show wf ((A0 1)) 2600 (gt) from p8) (show cb ((A0 1)) 2600 (gt) 200 from p9) (show 0 ≤ w1.toInt ∧ w1.toInt ≤ 2 by omega)) rfl rfl rfl I52.rc ?_
          rintro x215 h216 F217 A218 I219 ⟨k221, k222, p220⟩
          replace p220 : (x215.toInt = 0 ∨ x215.toInt = 1) ∧ (x215.toInt = 1 → ∃ n' : Nat, n' ≤ 1000 ∧ A218 2 w1.toInt = n' ∧ wf (A218 1) (1300 * w1.toInt) n') ∧ wr A218 ∧ wq A218 ∧ (∀ q : Int, q ≠ w1.toInt → A218 2 q = (A0 2) q) ∧ (∀ q : Int, (0 ≤ q ∧ q < 1300 * w1.toInt) ∨ 1300 * w1.toInt + 1300 ≤ q → A218 1 q = (A0 1) q) ∧ A218 2 2 = (A0 2) 2 ∧ (∀ q : Int, 2600 ≤ q → A218 1 q = (A0 1) q) := p220
          obtain ⟨p220a, p220b, p220c, p220d, p220e, p220f, p220g, p220h⟩ := p220
          have z223 := iv_01 (x := x215) p220a
          show am_Ok _ _ _ (23, _, [.inl x215, .inr (.inr (some 81))], _, 0, 0) _
          refine k_push 24 rfl rfl ?_
          refine k_in (d := 0) rfl rfl rfl rfl I219.rc ?_
          refine k_aload 1 rfl rfl rfl ?_
          refine r_gI I219 4 rfl rfl rfl (fun x224 (e225 : x224.toInt = F217 0) => ?_)
          have e226 : F217 0 = (0 : Int32).toInt := k221 0 (by decide)
          by_cases b227 : x224 = 0
          · refine k_c1 7 rfl rfl (if_pos b227) ?_
            have b227 := iv_eq0.mp b227
            refine k_iload 8 rfl rfl rfl ?_
            by_cases b228 : x215 = 0
            · refine k_c1 11 rfl rfl (if_pos b228) ?_
              have b228 := iv_eq0.mp b228
              refine k_aload 12 rfl rfl rfl ?_
              refine k_iload 13 rfl rfl rfl ?_
              refine r_pI I219 16 rfl rfl rfl (fun h229 I230 => ?_)
              refine k_aload 17 rfl rfl rfl ?_
              refine r_gI I230 20 rfl rfl rfl (fun x231 (e232 : x231.toInt = (2 : Int32).toInt) => ?_)
              by_cases b233 : x231 = 0
              · refine k_c1 23 rfl rfl (if_pos b233) ?_
                have b233 := iv_eq0.mp b233
                refine k_push 24 rfl rfl ?_
                refine k_goto 28 rfl rfl ?_
                refine k_fin rfl (fin_Z (Or.inr rfl)) ⟨_, _, rfl, rf_len I219 I230, ?_⟩
                show am_Ok _ _ _ (27, _, [.inl (1 : Int32)], _, 0, 0) _
                refine k_c1 32 rfl rfl (if_neg (by decide)) ?_
                obtain ⟨gn, hn1, hn2, hn3⟩ := p220b (by clear p220b; omega)
                clear p220b
                refine k_push 33 rfl rfl ?_
                refine k_istore 34 rfl rfl ?_
                refine k_push 35 rfl rfl ?_
                refine k_istore 36 rfl rfl ?_
                exact b_X10_redexes_36 (lm := lm) (gT := gT) (gt := gt) (w1 := w1) p1 p2 p5 p6 p7 p8 p9 _  rfl (gs_ne rfl rfl (gs_ne rfl rfl rfl)) (gs_ne rfl rfl (gs_ne rfl rfl rfl)) (gs_ne rfl rfl gs_eq) gs_eq I230 (fr1.up (by decide) (fr1.tr (by decide) (fr1.up (by decide) fr1.rf) k221)) (fr2.tr (by decide) fr2.rf k222) (show 0 ≤ w1.toInt ∧ w1.toInt ≤ 2 by omega) (show (A218 2) w1.toInt ≤ 1000 by omega) (show 0 ≤ (0 : Int32).toInt ∧ (0 : Int32).toInt ≤ (0 : Int32).toInt ∧ (0 : Int32).toInt ≤ 1000 by omega) (show wr A218 from p220c) (show wq A218 from p220d) (show (A218 2) 2 = A0 2 2 from p220g) (show ∀ q : Int, 2600 ≤ q → (A218 1) q = A0 1 q from p220h)
              · refine k_c1 27 rfl rfl (if_neg b233) ?_
                have b233 := mt iv_eq0.mpr b233
                refine k_push 28 rfl rfl ?_
                refine k_fin rfl (fin_Z (Or.inl rfl)) ⟨_, _, rfl, rf_len I219 I230, ?_⟩
                show am_Ok _ _ _ (27, _, [.inl (0 : Int32)], _, 0, 0) _
                refine k_c1 30 rfl rfl (if_pos (by decide)) ?_
                refine k_push 31 rfl rfl ?_
                exact k_fin rfl rfl ⟨_, _, _, _, rfl, I230, (fr1.up (by decide) (fr1.tr (by decide) (fr1.up (by decide) fr1.rf) k221)), (fr2.tr (by decide) fr2.rf k222), ⟨p220c, p220d, p220g, p220h⟩⟩
            · refine k_c1 16 rfl rfl (if_neg b228) ?_
              have b228 := mt iv_eq0.mpr b228
              refine k_aload 17 rfl rfl rfl ?_
              refine r_gI I219 20 rfl rfl rfl (fun x234 (e235 : x234.toInt = F217 0) => ?_)
              by_cases b236 : x234 = 0
              · refine k_c1 23 rfl rfl (if_pos b236) ?_
                have b236 := iv_eq0.mp b236
                refine k_push 24 rfl rfl ?_
                refine k_goto 28 rfl rfl ?_
                refine k_fin rfl (fin_Z (Or.inr rfl)) ⟨_, _, rfl, rf_len I219 I219, ?_⟩
                show am_Ok _ _ _ (27, _, [.inl (1 : Int32)], _, 0, 0) _
                refine k_c1 32 rfl rfl (if_neg (by decide)) ?_
                obtain ⟨gn, hn1, hn2, hn3⟩ := p220b (by clear p220b; omega)
                clear p220b
                refine k_push 33 rfl rfl ?_
                refine k_istore 34 rfl rfl ?_
                refine k_push 35 rfl rfl ?_
                refine k_istore 36 rfl rfl ?_
                exact b_X10_redexes_36 (lm := lm) (gT := gT) (gt := gt) (w1 := w1) p1 p2 p5 p6 p7 p8 p9 _  rfl (gs_ne rfl rfl (gs_ne rfl rfl rfl)) (gs_ne rfl rfl (gs_ne rfl rfl rfl)) (gs_ne rfl rfl gs_eq) gs_eq I219 (fr1.tr (by decide) (fr1.up (by decide) fr1.rf) k221) (fr2.tr (by decide) fr2.rf k222) (show 0 ≤ w1.toInt ∧ w1.toInt ≤ 2 by omega) (show (A218 2) w1.toInt ≤ 1000 by omega) (show 0 ≤ (0 : Int32).toInt ∧ (0 : Int32).toInt ≤ (0 : Int32).toInt ∧ (0 : Int32).toInt ≤ 1000 by omega) (show wr A218 from p220c) (show wq A218 from p220d) (show (A218 2) 2 = A0 2 2 from p220g) (show ∀ q : Int, 2600 ≤ q → (A218 1) q = A0 1 q from p220h)
              · refine k_c1 27 rfl rfl (if_neg b236) ?_
                have b236 := mt iv_eq0.mpr b236
                refine k_push 28 rfl rfl ?_
                refine k_fin rfl (fin_Z (Or.inl rfl)) ⟨_, _, rfl, rf_len I219 I219, ?_⟩
                show am_Ok _ _ _ (27, _, [.inl (0 : Int32)], _, 0, 0) _
                refine k_c1 30 rfl rfl (if_pos (by decide)) ?_
                refine k_push 31 rfl rfl ?_
                exact k_fin rfl rfl ⟨_, _, _, _, rfl, I219, (fr1.tr (by decide) (fr1.up (by decide) fr1.rf) k221), (fr2.tr (by decide) fr2.rf k222), ⟨p220c, p220d, p220g, p220h⟩⟩
          · refine k_c1 16 rfl rfl (if_neg b227) ?_
            have b227 := mt iv_eq0.mpr b227
            refine k_aload 17 rfl rfl rfl ?_
            refine r_gI I219 20 rfl rfl rfl (fun x237 (e238 : x237.toInt = F217 0) => ?_)
            by_cases b239 : x237 = 0
            · refine k_c1 23 rfl rfl (if_pos b239) ?_
              have b239 := iv_eq0.mp b239
              refine k_push 24 rfl rfl ?_
              refine k_goto 28 rfl rfl ?_
              refine k_fin rfl (fin_Z (Or.inr rfl)) ⟨_, _, rfl, rf_len I219 I219, ?_⟩
              show am_Ok _ _ _ (27, _, [.inl (1 : Int32)], _, 0, 0) _
              refine k_c1 32 rfl rfl (if_neg (by decide)) ?_
              obtain ⟨gn, hn1, hn2, hn3⟩ := p220b (by clear p220b; omega)
              clear p220b
              refine k_push 33 rfl rfl ?_
              refine k_istore 34 rfl rfl ?_
              refine k_push 35 rfl rfl ?_
              refine k_istore 36 rfl rfl ?_
              exact b_X10_redexes_36 (lm := lm) (gT := gT) (gt := gt) (w1 := w1) p1 p2 p5 p6 p7 p8 p9 _  rfl (gs_ne rfl rfl (gs_ne rfl rfl rfl)) (gs_ne rfl rfl (gs_ne rfl rfl rfl)) (gs_ne rfl rfl gs_eq) gs_eq I219 (fr1.tr (by decide) (fr1.up (by decide) fr1.rf) k221) (fr2.tr (by decide) fr2.rf k222) (show 0 ≤ w1.toInt ∧ w1.toInt ≤ 2 by omega) (show (A218 2) w1.toInt ≤ 1000 by omega) (show 0 ≤ (0 : Int32).toInt ∧ (0 : Int32).toInt ≤ (0 : Int32).toInt ∧ (0 : Int32).toInt ≤ 1000 by omega) (show wr A218 from p220c) (show wq A218 from p220d) (show (A218 2) 2 = A0 2 2 from p220g) (show ∀ q : Int, 2600 ≤ q → (A218 1) q = A0 1 q from p220h)
            · refine k_c1 27 rfl rfl (if_neg b239) ?_
              have b239 := mt iv_eq0.mpr b239
              refine k_push 28 rfl rfl ?_
              refine k_fin rfl (fin_Z (Or.inl rfl)) ⟨_, _, rfl, rf_len I219 I219, ?_⟩
              show am_Ok _ _ _ (27, _, [.inl (0 : Int32)], _, 0, 0) _
              refine k_c1 30 rfl rfl (if_pos (by decide)) ?_
              refine k_push 31 rfl rfl ?_
              exact k_fin rfl rfl ⟨_, _, _, _, rfl, I219, (fr1.tr (by decide) (fr1.up (by decide) fr1.rf) k221), (fr2.tr (by decide) fr2.rf k222), ⟨p220c, p220d, p220g, p220h⟩⟩
        · refine k_c1 27 rfl rfl (if_neg b214) ?_
          have b214 := mt iv_eq0.mpr b214
          refine k_push 28 rfl rfl ?_
          refine k_fin rfl (fin_Z (Or.inl rfl)) ⟨_, _, rfl, rf_len I52 I52, ?_⟩
          show am_Ok _ _ _ (14, _, [.inl (0 : Int32)], _, 0, 0) _
          refine k_c1 30 rfl rfl (if_pos (by decide)) ?_
          refine k_push 31 rfl rfl ?_
          exact k_fin rfl rfl ⟨_, _, _, _, rfl, I52, (fr1.up (by decide) fr1.rf), fr2.rf, show wr A0 ∧ wq A0 ∧ (A0 2) 2 = A0 2 2 ∧ (∀ q : Int, 2600 ≤ q → (A0 1) q = A0 1 q) from ⟨p5, p6, rfl, fun q _ => rfl⟩⟩
theorem m_count {h0 : am_h} {F0 : rf_f} {A0 : rf_A} {w1 : Int32} {lm : Int → Int} {gT : Int} {gt : Nat} (hR : rf_R h0 F0 A0) (p1 : nn (A0 24) (A0 25) (F0 28) gT) (p2 : nw (A0 24) (A0 25) (A0 26) lm (F0 28)) (p5 : wr A0) (p6 : wq A0) (p7 : A0 2 2 = gt ∧ 1 ≤ gt ∧ gt ≤ 120) (p8 : wf (A0 1) 2600 gt) (p9 : cb (A0 1) 2600 gt 200) : am_Mt 8 249 [.inr (.inr (some 81)), .inl w1] h0 (rf_Q h0 (fun x F' A' => fr1 [59, 55, 50, 48, 62, 63, 64, 65, 67, 70, 71, 0] F0 F' ∧ fr2 [1, 2, 56, 57, 58, 61, 49, 51, 52, 53, 54, 60, 43, 44, 45, 46, 47, 66, 68, 69] A0 A' ∧ (wr A' ∧ wq A' ∧ A' 2 2 = A0 2 2 ∧ (∀ q : Int, 2600 ≤ q → A' 1 q = A0 1 q)))) := by
  refine am_Mt.of (D := 7) ?_
  have hI : rf_I h0 h0 F0 A0 := rf_I.start hR
  have hb1 := p1.1
  have hb2 := p1.2.1
  refine k_aload 1 rfl rfl rfl ?_
  refine k_push 2 rfl rfl ?_
  have hc1 : (0 : Int32).toInt = 0 := by decide
  refine r_pI hI 5 rfl rfl rfl (fun h2 I3 => ?_)
  refine k_aload 6 rfl rfl rfl ?_
  refine k_iload 7 rfl rfl rfl ?_
  refine k_push 8 rfl rfl ?_
  refine k_push 10 rfl rfl ?_
  have hc4 : (23 : Int32).toInt = 23 := by decide
  refine k_in (d := 0) rfl rfl rfl rfl rfl ?_
  refine k_iload 1 rfl rfl rfl ?_
  refine k_iload 2 rfl rfl rfl ?_
  by_cases b5 : w1 < (0 : Int32)
  · refine k_c2 14 rfl rfl (if_pos b5) ?_
    have b5 := iv_lt.mp b5
    refine k_push 15 rfl rfl ?_
    refine k_fin rfl (fin_Z (Or.inl rfl)) ⟨_, _, rfl, rf_len I3 I3, ?_⟩
    show am_Ok _ _ _ (13, _, [.inl (0 : Int32), .inr (.inr (some 81))], _, 0, 0) _
    refine k_push 14 rfl rfl ?_
    have hc6 : (1 : Int32).toInt = 1 := by decide
    refine k_in (d := 0) rfl rfl rfl rfl I3.rc ?_
    refine k_aload 1 rfl rfl rfl ?_
    refine r_gI I3 4 rfl rfl rfl (fun x7 (e8 : x7.toInt = (0 : Int32).toInt) => ?_)
    by_cases b9 : x7 = 0
    · refine k_c1 7 rfl rfl (if_pos b9) ?_
      have b9 := iv_eq0.mp b9
      refine k_iload 8 rfl rfl rfl ?_
      refine k_c1 11 rfl rfl (if_pos (by decide)) ?_
      refine k_aload 12 rfl rfl rfl ?_
      refine k_iload 13 rfl rfl rfl ?_
      refine r_pI I3 16 rfl rfl rfl (fun h10 I11 => ?_)
      refine k_aload 17 rfl rfl rfl ?_
      refine r_gI I11 20 rfl rfl rfl (fun x12 (e13 : x12.toInt = (1 : Int32).toInt) => ?_)
      by_cases b14 : x12 = 0
      · refine k_c1 23 rfl rfl (if_pos b14) ?_
        have b14 := iv_eq0.mp b14
        refine k_push 24 rfl rfl ?_
        refine k_goto 28 rfl rfl ?_
        refine k_fin rfl (fin_Z (Or.inr rfl)) ⟨_, _, rfl, rf_len I3 I11, ?_⟩
        show am_Ok _ _ _ (17, _, [.inl (1 : Int32)], _, 0, 0) _
        refine k_c1 22 rfl rfl (if_neg (by decide)) ?_
        refine k_iload 23 rfl rfl rfl ?_
        by_cases b15 : w1.toInt < 0 ∨ 23 < w1.toInt
        · refine k_sw 215 rfl (if_pos b15) ?_
          refine k_aload 216 rfl rfl rfl ?_
          refine k_iload 217 rfl rfl rfl ?_
          refine k_push 219 rfl rfl ?_
          have hc16 : (16 : Int32).toInt = 16 := by decide
          obtain ⟨x17, q18⟩ : ∃ q : Int32, q = (w1 - (16 : Int32)) := ⟨_, rfl⟩
          have e19 : x17.toInt = w1.toInt - 16 := by rw [q18, iv_sub (by omega) (by omega)]; omega
          refine k_bin x17 220 rfl q18.symm rfl ?_
          refine k_rq I11 rfl (m_ofKind  I11.1 (show 1 ≤ (F0 28) ∧ (F0 28) ≤ 400 by omega)) rfl rfl rfl I11.rc ?_
          rintro x20 h21 F22 A23 I24 ⟨k26, k27, p25⟩
          have k26 := fr1.nil k26
          subst k26
          have k27 := fr2.nil k27
          subst k27
          show am_Ok _ _ _ (223, _, [.inl x20], _, 0, 0) _
          exact k_fin rfl rfl ⟨_, _, _, _, rfl, I24, (fr1.up (by decide) (fr1.up (by decide) fr1.rf)), fr2.rf, show wr A0 ∧ wq A0 ∧ (A0 2) 2 = A0 2 2 ∧ (∀ q : Int, 2600 ≤ q → (A0 1) q = A0 1 q) from ⟨p5, p6, rfl, fun q _ => rfl⟩⟩
        · have b15 : w1.toInt = 0 ∨ w1.toInt = 1 ∨ w1.toInt = 2 ∨ w1.toInt = 3 ∨ w1.toInt = 4 ∨ w1.toInt = 5 ∨ w1.toInt = 6 ∨ w1.toInt = 7 ∨ w1.toInt = 8 ∨ w1.toInt = 9 ∨ w1.toInt = 10 ∨ w1.toInt = 11 ∨ w1.toInt = 12 ∨ w1.toInt = 13 ∨ w1.toInt = 14 ∨ w1.toInt = 15 ∨ w1.toInt = 16 ∨ w1.toInt = 17 ∨ w1.toInt = 18 ∨ w1.toInt = 19 ∨ w1.toInt = 20 ∨ w1.toInt = 21 ∨ w1.toInt = 22 ∨ w1.toInt = 23 := by omega
          rcases b15 with b15 | b15 | b15 | b15 | b15 | b15 | b15 | b15 | b15 | b15 | b15 | b15 | b15 | b15 | b15 | b15 | b15 | b15 | b15 | b15 | b15 | b15 | b15 | b15
          · refine k_sw 132 rfl (by unfold am_tb; rw [b15]; decide) ?_
            refine k_aload 133 rfl rfl rfl ?_
            refine r_gI I11 136 rfl rfl rfl (fun x28 (e29 : x28.toInt = F0 27) => ?_)
            exact k_fin rfl rfl ⟨_, _, _, _, rfl, I11, (fr1.up (by decide) (fr1.up (by decide) fr1.rf)), fr2.rf, show wr A0 ∧ wq A0 ∧ (A0 2) 2 = A0 2 2 ∧ (∀ q : Int, 2600 ≤ q → (A0 1) q = A0 1 q) from ⟨p5, p6, rfl, fun q _ => rfl⟩⟩
          · refine k_sw 137 rfl (by unfold am_tb; rw [b15]; decide) ?_
            refine k_aload 138 rfl rfl rfl ?_
            refine k_rq I11 rfl (m_activeMany (lm := lm) (gT := gT) I11.1 (show nn ((A0 24)) ((A0 25)) ((F0 28)) (gT) from p1) (show nw ((A0 24)) ((A0 25)) ((A0 26)) (lm) ((F0 28)) from p2)) rfl rfl rfl I11.rc ?_
            rintro x30 h31 F32 A33 I34 ⟨k36, k37, p35⟩
            replace p35 : 0 ≤ x30.toInt ∧ x30.toInt ≤ (F0 28) := p35
            have k36 := fr1.nil k36
            subst k36
            have k37 := fr2.nil k37
            subst k37
            show am_Ok _ _ _ (141, _, [.inl x30], _, 0, 0) _
            exact k_fin rfl rfl ⟨_, _, _, _, rfl, I34, (fr1.up (by decide) (fr1.up (by decide) fr1.rf)), fr2.rf, show wr A0 ∧ wq A0 ∧ (A0 2) 2 = A0 2 2 ∧ (∀ q : Int, 2600 ≤ q → (A0 1) q = A0 1 q) from ⟨p5, p6, rfl, fun q _ => rfl⟩⟩
          · refine k_sw 142 rfl (by unfold am_tb; rw [b15]; decide) ?_
            refine k_aload 143 rfl rfl rfl ?_
            refine k_rq I11 rfl (m_greatestLevel  I11.1 (show 1 ≤ (F0 28) ∧ (F0 28) ≤ 400 by omega)) rfl rfl rfl I11.rc ?_
            rintro x38 h39 F40 A41 I42 ⟨k44, k45, p43⟩
            have k44 := fr1.nil k44
            subst k44
            have k45 := fr2.nil k45
            subst k45
            show am_Ok _ _ _ (146, _, [.inl x38], _, 0, 0) _
            exact k_fin rfl rfl ⟨_, _, _, _, rfl, I42, (fr1.up (by decide) (fr1.up (by decide) fr1.rf)), fr2.rf, show wr A0 ∧ wq A0 ∧ (A0 2) 2 = A0 2 2 ∧ (∀ q : Int, 2600 ≤ q → (A0 1) q = A0 1 q) from ⟨p5, p6, rfl, fun q _ => rfl⟩⟩
          · refine k_sw 147 rfl (by unfold am_tb; rw [b15]; decide) ?_
            refine k_aload 148 rfl rfl rfl ?_
            refine r_gA I11 151 rfl rfl rfl ?_
            refine k_iload 152 rfl rfl rfl ?_
            refine k_push 153 rfl rfl ?_
            have hc46 : (3 : Int32).toInt = 3 := by decide
            obtain ⟨x47, q48⟩ : ∃ q : Int32, q = (w1 - (3 : Int32)) := ⟨_, rfl⟩
            have e49 : x47.toInt = w1.toInt - 3 := by rw [q48, iv_sub (by omega) (by omega)]; omega
            refine k_bin x47 154 rfl q48.symm rfl ?_
            refine r_ld 31 I11 155 rfl rfl (by omega) (show x47.toInt < 6 by omega) rfl (fun x50 (e51 : x50.toInt = A0 31 x47.toInt) => ?_)
            rw [e49] at e51
            exact k_fin rfl rfl ⟨_, _, _, _, rfl, I11, (fr1.up (by decide) (fr1.up (by decide) fr1.rf)), fr2.rf, show wr A0 ∧ wq A0 ∧ (A0 2) 2 = A0 2 2 ∧ (∀ q : Int, 2600 ≤ q → (A0 1) q = A0 1 q) from ⟨p5, p6, rfl, fun q _ => rfl⟩⟩
          · refine k_sw 147 rfl (by unfold am_tb; rw [b15]; decide) ?_
            refine k_aload 148 rfl rfl rfl ?_
            refine r_gA I11 151 rfl rfl rfl ?_
            refine k_iload 152 rfl rfl rfl ?_
            refine k_push 153 rfl rfl ?_
            have hc52 : (3 : Int32).toInt = 3 := by decide
            obtain ⟨x53, q54⟩ : ∃ q : Int32, q = (w1 - (3 : Int32)) := ⟨_, rfl⟩
            have e55 : x53.toInt = w1.toInt - 3 := by rw [q54, iv_sub (by omega) (by omega)]; omega
            refine k_bin x53 154 rfl q54.symm rfl ?_
            refine r_ld 31 I11 155 rfl rfl (by omega) (show x53.toInt < 6 by omega) rfl (fun x56 (e57 : x56.toInt = A0 31 x53.toInt) => ?_)
            rw [e55] at e57
            exact k_fin rfl rfl ⟨_, _, _, _, rfl, I11, (fr1.up (by decide) (fr1.up (by decide) fr1.rf)), fr2.rf, show wr A0 ∧ wq A0 ∧ (A0 2) 2 = A0 2 2 ∧ (∀ q : Int, 2600 ≤ q → (A0 1) q = A0 1 q) from ⟨p5, p6, rfl, fun q _ => rfl⟩⟩
          · refine k_sw 147 rfl (by unfold am_tb; rw [b15]; decide) ?_
            refine k_aload 148 rfl rfl rfl ?_
            refine r_gA I11 151 rfl rfl rfl ?_
            refine k_iload 152 rfl rfl rfl ?_
            refine k_push 153 rfl rfl ?_
            have hc58 : (3 : Int32).toInt = 3 := by decide
            obtain ⟨x59, q60⟩ : ∃ q : Int32, q = (w1 - (3 : Int32)) := ⟨_, rfl⟩
            have e61 : x59.toInt = w1.toInt - 3 := by rw [q60, iv_sub (by omega) (by omega)]; omega
            refine k_bin x59 154 rfl q60.symm rfl ?_
            refine r_ld 31 I11 155 rfl rfl (by omega) (show x59.toInt < 6 by omega) rfl (fun x62 (e63 : x62.toInt = A0 31 x59.toInt) => ?_)
            rw [e61] at e63
            exact k_fin rfl rfl ⟨_, _, _, _, rfl, I11, (fr1.up (by decide) (fr1.up (by decide) fr1.rf)), fr2.rf, show wr A0 ∧ wq A0 ∧ (A0 2) 2 = A0 2 2 ∧ (∀ q : Int, 2600 ≤ q → (A0 1) q = A0 1 q) from ⟨p5, p6, rfl, fun q _ => rfl⟩⟩
          · refine k_sw 147 rfl (by unfold am_tb; rw [b15]; decide) ?_
            refine k_aload 148 rfl rfl rfl ?_
            refine r_gA I11 151 rfl rfl rfl ?_
            refine k_iload 152 rfl rfl rfl ?_
            refine k_push 153 rfl rfl ?_
            have hc64 : (3 : Int32).toInt = 3 := by decide
            obtain ⟨x65, q66⟩ : ∃ q : Int32, q = (w1 - (3 : Int32)) := ⟨_, rfl⟩
            have e67 : x65.toInt = w1.toInt - 3 := by rw [q66, iv_sub (by omega) (by omega)]; omega
            refine k_bin x65 154 rfl q66.symm rfl ?_
            refine r_ld 31 I11 155 rfl rfl (by omega) (show x65.toInt < 6 by omega) rfl (fun x68 (e69 : x68.toInt = A0 31 x65.toInt) => ?_)
            rw [e67] at e69
            exact k_fin rfl rfl ⟨_, _, _, _, rfl, I11, (fr1.up (by decide) (fr1.up (by decide) fr1.rf)), fr2.rf, show wr A0 ∧ wq A0 ∧ (A0 2) 2 = A0 2 2 ∧ (∀ q : Int, 2600 ≤ q → (A0 1) q = A0 1 q) from ⟨p5, p6, rfl, fun q _ => rfl⟩⟩
          · refine k_sw 147 rfl (by unfold am_tb; rw [b15]; decide) ?_
            refine k_aload 148 rfl rfl rfl ?_
            refine r_gA I11 151 rfl rfl rfl ?_
            refine k_iload 152 rfl rfl rfl ?_
            refine k_push 153 rfl rfl ?_
            have hc70 : (3 : Int32).toInt = 3 := by decide
            obtain ⟨x71, q72⟩ : ∃ q : Int32, q = (w1 - (3 : Int32)) := ⟨_, rfl⟩
            have e73 : x71.toInt = w1.toInt - 3 := by rw [q72, iv_sub (by omega) (by omega)]; omega
            refine k_bin x71 154 rfl q72.symm rfl ?_
            refine r_ld 31 I11 155 rfl rfl (by omega) (show x71.toInt < 6 by omega) rfl (fun x74 (e75 : x74.toInt = A0 31 x71.toInt) => ?_)
            rw [e73] at e75
            exact k_fin rfl rfl ⟨_, _, _, _, rfl, I11, (fr1.up (by decide) (fr1.up (by decide) fr1.rf)), fr2.rf, show wr A0 ∧ wq A0 ∧ (A0 2) 2 = A0 2 2 ∧ (∀ q : Int, 2600 ≤ q → (A0 1) q = A0 1 q) from ⟨p5, p6, rfl, fun q _ => rfl⟩⟩
          · refine k_sw 147 rfl (by unfold am_tb; rw [b15]; decide) ?_
            refine k_aload 148 rfl rfl rfl ?_
            refine r_gA I11 151 rfl rfl rfl ?_
            refine k_iload 152 rfl rfl rfl ?_
            refine k_push 153 rfl rfl ?_
            have hc76 : (3 : Int32).toInt = 3 := by decide
            obtain ⟨x77, q78⟩ : ∃ q : Int32, q = (w1 - (3 : Int32)) := ⟨_, rfl⟩
            have e79 : x77.toInt = w1.toInt - 3 := by rw [q78, iv_sub (by omega) (by omega)]; omega
            refine k_bin x77 154 rfl q78.symm rfl ?_
            refine r_ld 31 I11 155 rfl rfl (by omega) (show x77.toInt < 6 by omega) rfl (fun x80 (e81 : x80.toInt = A0 31 x77.toInt) => ?_)
            rw [e79] at e81
            exact k_fin rfl rfl ⟨_, _, _, _, rfl, I11, (fr1.up (by decide) (fr1.up (by decide) fr1.rf)), fr2.rf, show wr A0 ∧ wq A0 ∧ (A0 2) 2 = A0 2 2 ∧ (∀ q : Int, 2600 ≤ q → (A0 1) q = A0 1 q) from ⟨p5, p6, rfl, fun q _ => rfl⟩⟩
          · refine k_sw 156 rfl (by unfold am_tb; rw [b15]; decide) ?_
            refine k_aload 157 rfl rfl rfl ?_
            refine r_gI I11 160 rfl rfl rfl (fun x82 (e83 : x82.toInt = F0 32) => ?_)
            exact k_fin rfl rfl ⟨_, _, _, _, rfl, I11, (fr1.up (by decide) (fr1.up (by decide) fr1.rf)), fr2.rf, show wr A0 ∧ wq A0 ∧ (A0 2) 2 = A0 2 2 ∧ (∀ q : Int, 2600 ≤ q → (A0 1) q = A0 1 q) from ⟨p5, p6, rfl, fun q _ => rfl⟩⟩
          · refine k_sw 161 rfl (by unfold am_tb; rw [b15]; decide) ?_
            refine k_aload 162 rfl rfl rfl ?_
            refine k_iload 163 rfl rfl rfl ?_
            refine k_rq I11 rfl (m_readCount (lm := lm) (gT := gT) I11.1 (show nn ((A0 24)) ((A0 25)) ((F0 28)) (gT) from p1) (show nw ((A0 24)) ((A0 25)) ((A0 26)) (lm) ((F0 28)) from p2) (show wr A0 from p5) (show wq A0 from p6)) rfl rfl rfl I11.rc ?_
            rintro x84 h85 F86 A87 I88 ⟨k90, k91, p89⟩
            replace p89 : wr A87 ∧ wq A87 ∧ A87 2 2 = (A0 2) 2 ∧ (∀ q : Int, 2600 ≤ q → A87 1 q = (A0 1) q) := p89
            obtain ⟨p89a, p89b, p89c, p89d⟩ := p89
            show am_Ok _ _ _ (166, _, [.inl x84], _, 0, 0) _
            exact k_fin rfl rfl ⟨_, _, _, _, rfl, I88, (fr1.tr (by decide) (fr1.up (by decide) (fr1.up (by decide) fr1.rf)) k90), (fr2.tr (by decide) fr2.rf k91), ⟨p89a, p89b, p89c, p89d⟩⟩
          · refine k_sw 161 rfl (by unfold am_tb; rw [b15]; decide) ?_
            refine k_aload 162 rfl rfl rfl ?_
            refine k_iload 163 rfl rfl rfl ?_
            refine k_rq I11 rfl (m_readCount (lm := lm) (gT := gT) I11.1 (show nn ((A0 24)) ((A0 25)) ((F0 28)) (gT) from p1) (show nw ((A0 24)) ((A0 25)) ((A0 26)) (lm) ((F0 28)) from p2) (show wr A0 from p5) (show wq A0 from p6)) rfl rfl rfl I11.rc ?_
            rintro x92 h93 F94 A95 I96 ⟨k98, k99, p97⟩
            replace p97 : wr A95 ∧ wq A95 ∧ A95 2 2 = (A0 2) 2 ∧ (∀ q : Int, 2600 ≤ q → A95 1 q = (A0 1) q) := p97
            obtain ⟨p97a, p97b, p97c, p97d⟩ := p97
            show am_Ok _ _ _ (166, _, [.inl x92], _, 0, 0) _
            exact k_fin rfl rfl ⟨_, _, _, _, rfl, I96, (fr1.tr (by decide) (fr1.up (by decide) (fr1.up (by decide) fr1.rf)) k98), (fr2.tr (by decide) fr2.rf k99), ⟨p97a, p97b, p97c, p97d⟩⟩
          · refine k_sw 167 rfl (by unfold am_tb; rw [b15]; decide) ?_
            refine k_aload 168 rfl rfl rfl ?_
            refine k_push 169 rfl rfl ?_
            refine k_rq I11 rfl (m_isTerm (lm := lm) (gT := gT) (gt := gt) I11.1 (show nn ((A0 24)) ((A0 25)) ((F0 28)) (gT) from p1) (show nw ((A0 24)) ((A0 25)) ((A0 26)) (lm) ((F0 28)) from p2) (show wr A0 from p5) (show wq A0 from p6) (show (A0 2) 2 = (gt) ∧ 1 ≤ (gt) ∧ (gt) ≤ 120 from p7) (show wf ((A0 1)) 2600 (gt) from p8) (show cb ((A0 1)) 2600 (gt) 200 from p9) (show 0 ≤ (1 : Int32).toInt ∧ (1 : Int32).toInt ≤ 2 by omega)) rfl rfl rfl I11.rc ?_
            rintro x100 h101 F102 A103 I104 ⟨k106, k107, p105⟩
            replace p105 : (x100.toInt = 0 ∨ x100.toInt = 1) ∧ (x100.toInt = 1 → ∃ n' : Nat, n' ≤ 1000 ∧ A103 2 (1 : Int32).toInt = n' ∧ wf (A103 1) (1300 * (1 : Int32).toInt) n') ∧ wr A103 ∧ wq A103 ∧ (∀ q : Int, q ≠ (1 : Int32).toInt → A103 2 q = (A0 2) q) ∧ (∀ q : Int, (0 ≤ q ∧ q < 1300 * (1 : Int32).toInt) ∨ 1300 * (1 : Int32).toInt + 1300 ≤ q → A103 1 q = (A0 1) q) ∧ A103 2 2 = (A0 2) 2 ∧ (∀ q : Int, 2600 ≤ q → A103 1 q = (A0 1) q) := p105
            obtain ⟨p105a, p105b, p105c, p105d, p105e, p105f, p105g, p105h⟩ := p105
            have z108 := iv_01 (x := x100) p105a
            show am_Ok _ _ _ (172, _, [.inl x100], _, 0, 0) _
            clear p105b
            by_cases b109 : x100 = 0
            · refine k_c1 182 rfl rfl (if_pos b109) ?_
              have b109 := iv_eq0.mp b109
              refine k_push 183 rfl rfl ?_
              have hc110 : (-1 : Int32).toInt = -1 := by decide
              exact k_fin rfl rfl ⟨_, _, _, _, rfl, I104, (fr1.tr (by decide) (fr1.up (by decide) (fr1.up (by decide) fr1.rf)) k106), (fr2.tr (by decide) fr2.rf k107), ⟨p105c, p105d, p105g, p105h⟩⟩
            · refine k_c1 175 rfl rfl (if_neg b109) ?_
              have b109 := mt iv_eq0.mpr b109
              refine k_aload 176 rfl rfl rfl ?_
              refine r_gI I104 179 rfl rfl rfl (fun x111 (e112 : x111.toInt = F102 70) => ?_)
              refine k_goto 183 rfl rfl ?_
              exact k_fin rfl rfl ⟨_, _, _, _, rfl, I104, (fr1.tr (by decide) (fr1.up (by decide) (fr1.up (by decide) fr1.rf)) k106), (fr2.tr (by decide) fr2.rf k107), ⟨p105c, p105d, p105g, p105h⟩⟩
          · refine k_sw 184 rfl (by unfold am_tb; rw [b15]; decide) ?_
            refine k_aload 185 rfl rfl rfl ?_
            refine k_push 186 rfl rfl ?_
            refine k_rq I11 rfl (m_isTerm (lm := lm) (gT := gT) (gt := gt) I11.1 (show nn ((A0 24)) ((A0 25)) ((F0 28)) (gT) from p1) (show nw ((A0 24)) ((A0 25)) ((A0 26)) (lm) ((F0 28)) from p2) (show wr A0 from p5) (show wq A0 from p6) (show (A0 2) 2 = (gt) ∧ 1 ≤ (gt) ∧ (gt) ≤ 120 from p7) (show wf ((A0 1)) 2600 (gt) from p8) (show cb ((A0 1)) 2600 (gt) 200 from p9) (show 0 ≤ (1 : Int32).toInt ∧ (1 : Int32).toInt ≤ 2 by omega)) rfl rfl rfl I11.rc ?_
            rintro x113 h114 F115 A116 I117 ⟨k119, k120, p118⟩
            replace p118 : (x113.toInt = 0 ∨ x113.toInt = 1) ∧ (x113.toInt = 1 → ∃ n' : Nat, n' ≤ 1000 ∧ A116 2 (1 : Int32).toInt = n' ∧ wf (A116 1) (1300 * (1 : Int32).toInt) n') ∧ wr A116 ∧ wq A116 ∧ (∀ q : Int, q ≠ (1 : Int32).toInt → A116 2 q = (A0 2) q) ∧ (∀ q : Int, (0 ≤ q ∧ q < 1300 * (1 : Int32).toInt) ∨ 1300 * (1 : Int32).toInt + 1300 ≤ q → A116 1 q = (A0 1) q) ∧ A116 2 2 = (A0 2) 2 ∧ (∀ q : Int, 2600 ≤ q → A116 1 q = (A0 1) q) := p118
            obtain ⟨p118a, p118b, p118c, p118d, p118e, p118f, p118g, p118h⟩ := p118
            have z121 := iv_01 (x := x113) p118a
            show am_Ok _ _ _ (189, _, [.inl x113], _, 0, 0) _
            clear p118b
            by_cases b122 : x113 = 0
            · refine k_c1 201 rfl rfl (if_pos b122) ?_
              have b122 := iv_eq0.mp b122
              refine k_push 202 rfl rfl ?_
              have hc123 : (-1 : Int32).toInt = -1 := by decide
              exact k_fin rfl rfl ⟨_, _, _, _, rfl, I117, (fr1.tr (by decide) (fr1.up (by decide) (fr1.up (by decide) fr1.rf)) k119), (fr2.tr (by decide) fr2.rf k120), ⟨p118c, p118d, p118g, p118h⟩⟩
            · refine k_c1 192 rfl rfl (if_neg b122) ?_
              have b122 := mt iv_eq0.mpr b122
              refine k_aload 193 rfl rfl rfl ?_
              refine r_gA I117 196 rfl rfl rfl ?_
              refine k_push 197 rfl rfl ?_
              refine r_ld 2 I117 198 rfl rfl (by omega) (show (1 : Int32).toInt < 3 by omega) rfl (fun x124 (e125 : x124.toInt = A116 2 (1 : Int32).toInt) => ?_)
              rw [hc6] at e125
              refine k_goto 202 rfl rfl ?_
              exact k_fin rfl rfl ⟨_, _, _, _, rfl, I117, (fr1.tr (by decide) (fr1.up (by decide) (fr1.up (by decide) fr1.rf)) k119), (fr2.tr (by decide) fr2.rf k120), ⟨p118c, p118d, p118g, p118h⟩⟩
          · refine k_sw 203 rfl (by unfold am_tb; rw [b15]; decide) ?_
            refine k_aload 204 rfl rfl rfl ?_
            refine r_gA I11 207 rfl rfl rfl ?_
            refine k_push 208 rfl rfl ?_
            have hc126 : (2 : Int32).toInt = 2 := by decide
            refine r_ld 2 I11 209 rfl rfl (by omega) (show (2 : Int32).toInt < 3 by omega) rfl (fun x127 (e128 : x127.toInt = A0 2 (2 : Int32).toInt) => ?_)
            rw [hc126] at e128
            exact k_fin rfl rfl ⟨_, _, _, _, rfl, I11, (fr1.up (by decide) (fr1.up (by decide) fr1.rf)), fr2.rf, show wr A0 ∧ wq A0 ∧ (A0 2) 2 = A0 2 2 ∧ (∀ q : Int, 2600 ≤ q → (A0 1) q = A0 1 q) from ⟨p5, p6, rfl, fun q _ => rfl⟩⟩
          · refine k_sw 210 rfl (by unfold am_tb; rw [b15]; decide) ?_
            refine k_aload 211 rfl rfl rfl ?_
            refine r_gI I11 214 rfl rfl rfl (fun x129 (e130 : x129.toInt = F0 4) => ?_)
            exact k_fin rfl rfl ⟨_, _, _, _, rfl, I11, (fr1.up (by decide) (fr1.up (by decide) fr1.rf)), fr2.rf, show wr A0 ∧ wq A0 ∧ (A0 2) 2 = A0 2 2 ∧ (∀ q : Int, 2600 ≤ q → (A0 1) q = A0 1 q) from ⟨p5, p6, rfl, fun q _ => rfl⟩⟩
          · refine k_sw 215 rfl (by unfold am_tb; rw [b15]; decide) ?_
            refine k_aload 216 rfl rfl rfl ?_
            refine k_iload 217 rfl rfl rfl ?_
            refine k_push 219 rfl rfl ?_
            have hc131 : (16 : Int32).toInt = 16 := by decide
            obtain ⟨x132, q133⟩ : ∃ q : Int32, q = (w1 - (16 : Int32)) := ⟨_, rfl⟩
            have e134 : x132.toInt = w1.toInt - 16 := by rw [q133, iv_sub (by omega) (by omega)]; omega
            refine k_bin x132 220 rfl q133.symm rfl ?_
            refine k_rq I11 rfl (m_ofKind  I11.1 (show 1 ≤ (F0 28) ∧ (F0 28) ≤ 400 by omega)) rfl rfl rfl I11.rc ?_
            rintro x135 h136 F137 A138 I139 ⟨k141, k142, p140⟩
            have k141 := fr1.nil k141
            subst k141
            have k142 := fr2.nil k142
            subst k142
            show am_Ok _ _ _ (223, _, [.inl x135], _, 0, 0) _
            exact k_fin rfl rfl ⟨_, _, _, _, rfl, I139, (fr1.up (by decide) (fr1.up (by decide) fr1.rf)), fr2.rf, show wr A0 ∧ wq A0 ∧ (A0 2) 2 = A0 2 2 ∧ (∀ q : Int, 2600 ≤ q → (A0 1) q = A0 1 q) from ⟨p5, p6, rfl, fun q _ => rfl⟩⟩
          · refine k_sw 215 rfl (by unfold am_tb; rw [b15]; decide) ?_
            refine k_aload 216 rfl rfl rfl ?_
            refine k_iload 217 rfl rfl rfl ?_
            refine k_push 219 rfl rfl ?_
            have hc143 : (16 : Int32).toInt = 16 := by decide
            obtain ⟨x144, q145⟩ : ∃ q : Int32, q = (w1 - (16 : Int32)) := ⟨_, rfl⟩
            have e146 : x144.toInt = w1.toInt - 16 := by rw [q145, iv_sub (by omega) (by omega)]; omega
            refine k_bin x144 220 rfl q145.symm rfl ?_
            refine k_rq I11 rfl (m_ofKind  I11.1 (show 1 ≤ (F0 28) ∧ (F0 28) ≤ 400 by omega)) rfl rfl rfl I11.rc ?_
            rintro x147 h148 F149 A150 I151 ⟨k153, k154, p152⟩
            have k153 := fr1.nil k153
            subst k153
            have k154 := fr2.nil k154
            subst k154
            show am_Ok _ _ _ (223, _, [.inl x147], _, 0, 0) _
            exact k_fin rfl rfl ⟨_, _, _, _, rfl, I151, (fr1.up (by decide) (fr1.up (by decide) fr1.rf)), fr2.rf, show wr A0 ∧ wq A0 ∧ (A0 2) 2 = A0 2 2 ∧ (∀ q : Int, 2600 ≤ q → (A0 1) q = A0 1 q) from ⟨p5, p6, rfl, fun q _ => rfl⟩⟩
          · refine k_sw 215 rfl (by unfold am_tb; rw [b15]; decide) ?_
            refine k_aload 216 rfl rfl rfl ?_
            refine k_iload 217 rfl rfl rfl ?_
            refine k_push 219 rfl rfl ?_
            have hc155 : (16 : Int32).toInt = 16 := by decide
            obtain ⟨x156, q157⟩ : ∃ q : Int32, q = (w1 - (16 : Int32)) := ⟨_, rfl⟩
            have e158 : x156.toInt = w1.toInt - 16 := by rw [q157, iv_sub (by omega) (by omega)]; omega
            refine k_bin x156 220 rfl q157.symm rfl ?_
            refine k_rq I11 rfl (m_ofKind  I11.1 (show 1 ≤ (F0 28) ∧ (F0 28) ≤ 400 by omega)) rfl rfl rfl I11.rc ?_
            rintro x159 h160 F161 A162 I163 ⟨k165, k166, p164⟩
            have k165 := fr1.nil k165
            subst k165
            have k166 := fr2.nil k166
            subst k166
            show am_Ok _ _ _ (223, _, [.inl x159], _, 0, 0) _
            exact k_fin rfl rfl ⟨_, _, _, _, rfl, I163, (fr1.up (by decide) (fr1.up (by decide) fr1.rf)), fr2.rf, show wr A0 ∧ wq A0 ∧ (A0 2) 2 = A0 2 2 ∧ (∀ q : Int, 2600 ≤ q → (A0 1) q = A0 1 q) from ⟨p5, p6, rfl, fun q _ => rfl⟩⟩
          · refine k_sw 215 rfl (by unfold am_tb; rw [b15]; decide) ?_
            refine k_aload 216 rfl rfl rfl ?_
            refine k_iload 217 rfl rfl rfl ?_
            refine k_push 219 rfl rfl ?_
            have hc167 : (16 : Int32).toInt = 16 := by decide
            obtain ⟨x168, q169⟩ : ∃ q : Int32, q = (w1 - (16 : Int32)) := ⟨_, rfl⟩
            have e170 : x168.toInt = w1.toInt - 16 := by rw [q169, iv_sub (by omega) (by omega)]; omega
            refine k_bin x168 220 rfl q169.symm rfl ?_
            refine k_rq I11 rfl (m_ofKind  I11.1 (show 1 ≤ (F0 28) ∧ (F0 28) ≤ 400 by omega)) rfl rfl rfl I11.rc ?_
            rintro x171 h172 F173 A174 I175 ⟨k177, k178, p176⟩
            have k177 := fr1.nil k177
            subst k177
            have k178 := fr2.nil k178
            subst k178
            show am_Ok _ _ _ (223, _, [.inl x171], _, 0, 0) _
            exact k_fin rfl rfl ⟨_, _, _, _, rfl, I175, (fr1.up (by decide) (fr1.up (by decide) fr1.rf)), fr2.rf, show wr A0 ∧ wq A0 ∧ (A0 2) 2 = A0 2 2 ∧ (∀ q : Int, 2600 ≤ q → (A0 1) q = A0 1 q) from ⟨p5, p6, rfl, fun q _ => rfl⟩⟩
          · refine k_sw 215 rfl (by unfold am_tb; rw [b15]; decide) ?_
            refine k_aload 216 rfl rfl rfl ?_
            refine k_iload 217 rfl rfl rfl ?_
            refine k_push 219 rfl rfl ?_
            have hc179 : (16 : Int32).toInt = 16 := by decide
            obtain ⟨x180, q181⟩ : ∃ q : Int32, q = (w1 - (16 : Int32)) := ⟨_, rfl⟩
            have e182 : x180.toInt = w1.toInt - 16 := by rw [q181, iv_sub (by omega) (by omega)]; omega
            refine k_bin x180 220 rfl q181.symm rfl ?_
            refine k_rq I11 rfl (m_ofKind  I11.1 (show 1 ≤ (F0 28) ∧ (F0 28) ≤ 400 by omega)) rfl rfl rfl I11.rc ?_
            rintro x183 h184 F185 A186 I187 ⟨k189, k190, p188⟩
            have k189 := fr1.nil k189
            subst k189
            have k190 := fr2.nil k190
            subst k190
            show am_Ok _ _ _ (223, _, [.inl x183], _, 0, 0) _
            exact k_fin rfl rfl ⟨_, _, _, _, rfl, I187, (fr1.up (by decide) (fr1.up (by decide) fr1.rf)), fr2.rf, show wr A0 ∧ wq A0 ∧ (A0 2) 2 = A0 2 2 ∧ (∀ q : Int, 2600 ≤ q → (A0 1) q = A0 1 q) from ⟨p5, p6, rfl, fun q _ => rfl⟩⟩
          · refine k_sw 215 rfl (by unfold am_tb; rw [b15]; decide) ?_
            refine k_aload 216 rfl rfl rfl ?_
            refine k_iload 217 rfl rfl rfl ?_
            refine k_push 219 rfl rfl ?_
            have hc191 : (16 : Int32).toInt = 16 := by decide
            obtain ⟨x192, q193⟩ : ∃ q : Int32, q = (w1 - (16 : Int32)) := ⟨_, rfl⟩
            have e194 : x192.toInt = w1.toInt - 16 := by rw [q193, iv_sub (by omega) (by omega)]; omega
            refine k_bin x192 220 rfl q193.symm rfl ?_
            refine k_rq I11 rfl (m_ofKind  I11.1 (show 1 ≤ (F0 28) ∧ (F0 28) ≤ 400 by omega)) rfl rfl rfl I11.rc ?_
            rintro x195 h196 F197 A198 I199 ⟨k201, k202, p200⟩
            have k201 := fr1.nil k201
            subst k201
            have k202 := fr2.nil k202
            subst k202
            show am_Ok _ _ _ (223, _, [.inl x195], _, 0, 0) _
            exact k_fin rfl rfl ⟨_, _, _, _, rfl, I199, (fr1.up (by decide) (fr1.up (by decide) fr1.rf)), fr2.rf, show wr A0 ∧ wq A0 ∧ (A0 2) 2 = A0 2 2 ∧ (∀ q : Int, 2600 ≤ q → (A0 1) q = A0 1 q) from ⟨p5, p6, rfl, fun q _ => rfl⟩⟩
          · refine k_sw 215 rfl (by unfold am_tb; rw [b15]; decide) ?_
            refine k_aload 216 rfl rfl rfl ?_
            refine k_iload 217 rfl rfl rfl ?_
            refine k_push 219 rfl rfl ?_
            have hc203 : (16 : Int32).toInt = 16 := by decide
            obtain ⟨x204, q205⟩ : ∃ q : Int32, q = (w1 - (16 : Int32)) := ⟨_, rfl⟩
            have e206 : x204.toInt = w1.toInt - 16 := by rw [q205, iv_sub (by omega) (by omega)]; omega
            refine k_bin x204 220 rfl q205.symm rfl ?_
            refine k_rq I11 rfl (m_ofKind  I11.1 (show 1 ≤ (F0 28) ∧ (F0 28) ≤ 400 by omega)) rfl rfl rfl I11.rc ?_
            rintro x207 h208 F209 A210 I211 ⟨k213, k214, p212⟩
            have k213 := fr1.nil k213
            subst k213
            have k214 := fr2.nil k214
            subst k214
            show am_Ok _ _ _ (223, _, [.inl x207], _, 0, 0) _
            exact k_fin rfl rfl ⟨_, _, _, _, rfl, I211, (fr1.up (by decide) (fr1.up (by decide) fr1.rf)), fr2.rf, show wr A0 ∧ wq A0 ∧ (A0 2) 2 = A0 2 2 ∧ (∀ q : Int, 2600 ≤ q → (A0 1) q = A0 1 q) from ⟨p5, p6, rfl, fun q _ => rfl⟩⟩
          · refine k_sw 161 rfl (by unfold am_tb; rw [b15]; decide) ?_
            refine k_aload 162 rfl rfl rfl ?_
            refine k_iload 163 rfl rfl rfl ?_
            refine k_rq I11 rfl (m_readCount (lm := lm) (gT := gT) I11.1 (show nn ((A0 24)) ((A0 25)) ((F0 28)) (gT) from p1) (show nw ((A0 24)) ((A0 25)) ((A0 26)) (lm) ((F0 28)) from p2) (show wr A0 from p5) (show wq A0 from p6)) rfl rfl rfl I11.rc ?_
            rintro x215 h216 F217 A218 I219 ⟨k221, k222, p220⟩
            replace p220 : wr A218 ∧ wq A218 ∧ A218 2 2 = (A0 2) 2 ∧ (∀ q : Int, 2600 ≤ q → A218 1 q = (A0 1) q) := p220
            obtain ⟨p220a, p220b, p220c, p220d⟩ := p220
            show am_Ok _ _ _ (166, _, [.inl x215], _, 0, 0) _
            exact k_fin rfl rfl ⟨_, _, _, _, rfl, I219, (fr1.tr (by decide) (fr1.up (by decide) (fr1.up (by decide) fr1.rf)) k221), (fr2.tr (by decide) fr2.rf k222), ⟨p220a, p220b, p220c, p220d⟩⟩
      · refine k_c1 27 rfl rfl (if_neg b14) ?_
        have b14 := mt iv_eq0.mpr b14
        refine k_push 28 rfl rfl ?_
        refine k_fin rfl (fin_Z (Or.inl rfl)) ⟨_, _, rfl, rf_len I3 I11, ?_⟩
        show am_Ok _ _ _ (17, _, [.inl (0 : Int32)], _, 0, 0) _
        refine k_c1 20 rfl rfl (if_pos (by decide)) ?_
        refine k_push 21 rfl rfl ?_
        exact k_fin rfl rfl ⟨_, _, _, _, rfl, I11, (fr1.up (by decide) (fr1.up (by decide) fr1.rf)), fr2.rf, show wr A0 ∧ wq A0 ∧ (A0 2) 2 = A0 2 2 ∧ (∀ q : Int, 2600 ≤ q → (A0 1) q = A0 1 q) from ⟨p5, p6, rfl, fun q _ => rfl⟩⟩
    · refine k_c1 16 rfl rfl (if_neg b9) ?_
      have b9 := mt iv_eq0.mpr b9
      refine k_aload 17 rfl rfl rfl ?_
      refine r_gI I3 20 rfl rfl rfl (fun x223 (e224 : x223.toInt = (0 : Int32).toInt) => ?_)
      by_cases b225 : x223 = 0
      · refine k_c1 23 rfl rfl (if_pos b225) ?_
        have b225 := iv_eq0.mp b225
        refine k_push 24 rfl rfl ?_
        refine k_goto 28 rfl rfl ?_
        refine k_fin rfl (fin_Z (Or.inr rfl)) ⟨_, _, rfl, rf_len I3 I3, ?_⟩
        show am_Ok _ _ _ (17, _, [.inl (1 : Int32)], _, 0, 0) _
        refine k_c1 22 rfl rfl (if_neg (by decide)) ?_
        refine k_iload 23 rfl rfl rfl ?_
        by_cases b226 : w1.toInt < 0 ∨ 23 < w1.toInt
        · refine k_sw 215 rfl (if_pos b226) ?_
          refine k_aload 216 rfl rfl rfl ?_
          refine k_iload 217 rfl rfl rfl ?_
          refine k_push 219 rfl rfl ?_
          have hc227 : (16 : Int32).toInt = 16 := by decide
          obtain ⟨x228, q229⟩ : ∃ q : Int32, q = (w1 - (16 : Int32)) := ⟨_, rfl⟩
          have e230 : x228.toInt = w1.toInt - 16 := by rw [q229, iv_sub (by omega) (by omega)]; omega
          refine k_bin x228 220 rfl q229.symm rfl ?_
          refine k_rq I3 rfl (m_ofKind  I3.1 (show 1 ≤ (F0 28) ∧ (F0 28) ≤ 400 by omega)) rfl rfl rfl I3.rc ?_
          rintro x231 h232 F233 A234 I235 ⟨k237, k238, p236⟩
          have k237 := fr1.nil k237
          subst k237
          have k238 := fr2.nil k238
          subst k238
          show am_Ok _ _ _ (223, _, [.inl x231], _, 0, 0) _
          exact k_fin rfl rfl ⟨_, _, _, _, rfl, I235, (fr1.up (by decide) fr1.rf), fr2.rf, show wr A0 ∧ wq A0 ∧ (A0 2) 2 = A0 2 2 ∧ (∀ q : Int, 2600 ≤ q → (A0 1) q = A0 1 q) from ⟨p5, p6, rfl, fun q _ => rfl⟩⟩
        · have b226 : w1.toInt = 0 ∨ w1.toInt = 1 ∨ w1.toInt = 2 ∨ w1.toInt = 3 ∨ w1.toInt = 4 ∨ w1.toInt = 5 ∨ w1.toInt = 6 ∨ w1.toInt = 7 ∨ w1.toInt = 8 ∨ w1.toInt = 9 ∨ w1.toInt = 10 ∨ w1.toInt = 11 ∨ w1.toInt = 12 ∨ w1.toInt = 13 ∨ w1.toInt = 14 ∨ w1.toInt = 15 ∨ w1.toInt = 16 ∨ w1.toInt = 17 ∨ w1.toInt = 18 ∨ w1.toInt = 19 ∨ w1.toInt = 20 ∨ w1.toInt = 21 ∨ w1.toInt = 22 ∨ w1.toInt = 23 := by omega
          rcases b226 with b226 | b226 | b226 | b226 | b226 | b226 | b226 | b226 | b226 | b226 | b226 | b226 | b226 | b226 | b226 | b226 | b226 | b226 | b226 | b226 | b226 | b226 | b226 | b226
          · refine k_sw 132 rfl (by unfold am_tb; rw [b226]; decide) ?_
            refine k_aload 133 rfl rfl rfl ?_
            refine r_gI I3 136 rfl rfl rfl (fun x239 (e240 : x239.toInt = F0 27) => ?_)
            exact k_fin rfl rfl ⟨_, _, _, _, rfl, I3, (fr1.up (by decide) fr1.rf), fr2.rf, show wr A0 ∧ wq A0 ∧ (A0 2) 2 = A0 2 2 ∧ (∀ q : Int, 2600 ≤ q → (A0 1) q = A0 1 q) from ⟨p5, p6, rfl, fun q _ => rfl⟩⟩
          · refine k_sw 137 rfl (by unfold am_tb; rw [b226]; decide) ?_
            refine k_aload 138 rfl rfl rfl ?_
            refine k_rq I3 rfl (m_activeMany (lm := lm) (gT := gT) I3.1 (show nn ((A0 24)) ((A0 25)) ((F0 28)) (gT) from p1) (show nw ((A0 24)) ((A0 25)) ((A0 26)) (lm) ((F0 28)) from p2)) rfl rfl rfl I3.rc ?_
            rintro x241 h242 F243 A244 I245 ⟨k247, k248, p246⟩
            replace p246 : 0 ≤ x241.toInt ∧ x241.toInt ≤ (F0 28) := p246
            have k247 := fr1.nil k247
            subst k247
            have k248 := fr2.nil k248
            subst k248
            show am_Ok _ _ _ (141, _, [.inl x241], _, 0, 0) _
            exact k_fin rfl rfl ⟨_, _, _, _, rfl, I245, (fr1.up (by decide) fr1.rf), fr2.rf, show wr A0 ∧ wq A0 ∧ (A0 2) 2 = A0 2 2 ∧ (∀ q : Int, 2600 ≤ q → (A0 1) q = A0 1 q) from ⟨p5, p6, rfl, fun q _ => rfl⟩⟩
          · refine k_sw 142 rfl (by unfold am_tb; rw [b226]; decide) ?_
            refine k_aload 143 rfl rfl rfl ?_
            refine k_rq I3 rfl (m_greatestLevel  I3.1 (show 1 ≤ (F0 28) ∧ (F0 28) ≤ 400 by omega)) rfl rfl rfl I3.rc ?_
            rintro x249 h250 F251 A252 I253 ⟨k255, k256, p254⟩
            have k255 := fr1.nil k255
            subst k255
            have k256 := fr2.nil k256
            subst k256
            show am_Ok _ _ _ (146, _, [.inl x249], _, 0, 0) _
            exact k_fin rfl rfl ⟨_, _, _, _, rfl, I253, (fr1.up (by decide) fr1.rf), fr2.rf, show wr A0 ∧ wq A0 ∧ (A0 2) 2 = A0 2 2 ∧ (∀ q : Int, 2600 ≤ q → (A0 1) q = A0 1 q) from ⟨p5, p6, rfl, fun q _ => rfl⟩⟩
          · refine k_sw 147 rfl (by unfold am_tb; rw [b226]; decide) ?_
            refine k_aload 148 rfl rfl rfl ?_
            refine r_gA I3 151 rfl rfl rfl ?_
            refine k_iload 152 rfl rfl rfl ?_
            refine k_push 153 rfl rfl ?_
            have hc257 : (3 : Int32).toInt = 3 := by decide
            obtain ⟨x258, q259⟩ : ∃ q : Int32, q = (w1 - (3 : Int32)) := ⟨_, rfl⟩
            have e260 : x258.toInt = w1.toInt - 3 := by rw [q259, iv_sub (by omega) (by omega)]; omega
            refine k_bin x258 154 rfl q259.symm rfl ?_
            refine r_ld 31 I3 155 rfl rfl (by omega) (show x258.toInt < 6 by omega) rfl (fun x261 (e262 : x261.toInt = A0 31 x258.toInt) => ?_)
            rw [e260] at e262
            exact k_fin rfl rfl ⟨_, _, _, _, rfl, I3, (fr1.up (by decide) fr1.rf), fr2.rf, show wr A0 ∧ wq A0 ∧ (A0 2) 2 = A0 2 2 ∧ (∀ q : Int, 2600 ≤ q → (A0 1) q = A0 1 q) from ⟨p5, p6, rfl, fun q _ => rfl⟩⟩
          · refine k_sw 147 rfl (by unfold am_tb; rw [b226]; decide) ?_
            refine k_aload 148 rfl rfl rfl ?_
            refine r_gA I3 151 rfl rfl rfl ?_
            refine k_iload 152 rfl rfl rfl ?_
            refine k_push 153 rfl rfl ?_
            have hc263 : (3 : Int32).toInt = 3 := by decide
            obtain ⟨x264, q265⟩ : ∃ q : Int32, q = (w1 - (3 : Int32)) := ⟨_, rfl⟩
            have e266 : x264.toInt = w1.toInt - 3 := by rw [q265, iv_sub (by omega) (by omega)]; omega
            refine k_bin x264 154 rfl q265.symm rfl ?_
            refine r_ld 31 I3 155 rfl rfl (by omega) (show x264.toInt < 6 by omega) rfl (fun x267 (e268 : x267.toInt = A0 31 x264.toInt) => ?_)
            rw [e266] at e268
            exact k_fin rfl rfl ⟨_, _, _, _, rfl, I3, (fr1.up (by decide) fr1.rf), fr2.rf, show wr A0 ∧ wq A0 ∧ (A0 2) 2 = A0 2 2 ∧ (∀ q : Int, 2600 ≤ q → (A0 1) q = A0 1 q) from ⟨p5, p6, rfl, fun q _ => rfl⟩⟩
          · refine k_sw 147 rfl (by unfold am_tb; rw [b226]; decide) ?_
            refine k_aload 148 rfl rfl rfl ?_
            refine r_gA I3 151 rfl rfl rfl ?_
            refine k_iload 152 rfl rfl rfl ?_
            refine k_push 153 rfl rfl ?_
            have hc269 : (3 : Int32).toInt = 3 := by decide
            obtain ⟨x270, q271⟩ : ∃ q : Int32, q = (w1 - (3 : Int32)) := ⟨_, rfl⟩
            have e272 : x270.toInt = w1.toInt - 3 := by rw [q271, iv_sub (by omega) (by omega)]; omega
            refine k_bin x270 154 rfl q271.symm rfl ?_
            refine r_ld 31 I3 155 rfl rfl (by omega) (show x270.toInt < 6 by omega) rfl (fun x273 (e274 : x273.toInt = A0 31 x270.toInt) => ?_)
            rw [e272] at e274
            exact k_fin rfl rfl ⟨_, _, _, _, rfl, I3, (fr1.up (by decide) fr1.rf), fr2.rf, show wr A0 ∧ wq A0 ∧ (A0 2) 2 = A0 2 2 ∧ (∀ q : Int, 2600 ≤ q → (A0 1) q = A0 1 q) from ⟨p5, p6, rfl, fun q _ => rfl⟩⟩
          · refine k_sw 147 rfl (by unfold am_tb; rw [b226]; decide) ?_
            refine k_aload 148 rfl rfl rfl ?_
            refine r_gA I3 151 rfl rfl rfl ?_
            refine k_iload 152 rfl rfl rfl ?_
            refine k_push 153 rfl rfl ?_
            have hc275 : (3 : Int32).toInt = 3 := by decide
            obtain ⟨x276, q277⟩ : ∃ q : Int32, q = (w1 - (3 : Int32)) := ⟨_, rfl⟩
            have e278 : x276.toInt = w1.toInt - 3 := by rw [q277, iv_sub (by omega) (by omega)]; omega
            refine k_bin x276 154 rfl q277.symm rfl ?_
            refine r_ld 31 I3 155 rfl rfl (by omega) (show x276.toInt < 6 by omega) rfl (fun x279 (e280 : x279.toInt = A0 31 x276.toInt) => ?_)
            rw [e278] at e280
            exact k_fin rfl rfl ⟨_, _, _, _, rfl, I3, (fr1.up (by decide) fr1.rf), fr2.rf, show wr A0 ∧ wq A0 ∧ (A0 2) 2 = A0 2 2 ∧ (∀ q : Int, 2600 ≤ q → (A0 1) q = A0 1 q) from ⟨p5, p6, rfl, fun q _ => rfl⟩⟩
          · refine k_sw 147 rfl (by unfold am_tb; rw [b226]; decide) ?_
            refine k_aload 148 rfl rfl rfl ?_
            refine r_gA I3 151 rfl rfl rfl ?_
            refine k_iload 152 rfl rfl rfl ?_
            refine k_push 153 rfl rfl ?_
            have hc281 : (3 : Int32).toInt = 3 := by decide
            obtain ⟨x282, q283⟩ : ∃ q : Int32, q = (w1 - (3 : Int32)) := ⟨_, rfl⟩
            have e284 : x282.toInt = w1.toInt - 3 := by rw [q283, iv_sub (by omega) (by omega)]; omega
            refine k_bin x282 154 rfl q283.symm rfl ?_
            refine r_ld 31 I3 155 rfl rfl (by omega) (show x282.toInt < 6 by omega) rfl (fun x285 (e286 : x285.toInt = A0 31 x282.toInt) => ?_)
            rw [e284] at e286
            exact k_fin rfl rfl ⟨_, _, _, _, rfl, I3, (fr1.up (by decide) fr1.rf), fr2.rf, show wr A0 ∧ wq A0 ∧ (A0 2) 2 = A0 2 2 ∧ (∀ q : Int, 2600 ≤ q → (A0 1) q = A0 1 q) from ⟨p5, p6, rfl, fun q _ => rfl⟩⟩
          · refine k_sw 147 rfl (by unfold am_tb; rw [b226]; decide) ?_
            refine k_aload 148 rfl rfl rfl ?_
            refine r_gA I3 151 rfl rfl rfl ?_
            refine k_iload 152 rfl rfl rfl ?_
            refine k_push 153 rfl rfl ?_
            have hc287 : (3 : Int32).toInt = 3 := by decide
            obtain ⟨x288, q289⟩ : ∃ q : Int32, q = (w1 - (3 : Int32)) := ⟨_, rfl⟩
            have e290 : x288.toInt = w1.toInt - 3 := by rw [q289, iv_sub (by omega) (by omega)]; omega
            refine k_bin x288 154 rfl q289.symm rfl ?_
            refine r_ld 31 I3 155 rfl rfl (by omega) (show x288.toInt < 6 by omega) rfl (fun x291 (e292 : x291.toInt = A0 31 x288.toInt) => ?_)
            rw [e290] at e292
            exact k_fin rfl rfl ⟨_, _, _, _, rfl, I3, (fr1.up (by decide) fr1.rf), fr2.rf, show wr A0 ∧ wq A0 ∧ (A0 2) 2 = A0 2 2 ∧ (∀ q : Int, 2600 ≤ q → (A0 1) q = A0 1 q) from ⟨p5, p6, rfl, fun q _ => rfl⟩⟩
          · refine k_sw 156 rfl (by unfold am_tb; rw [b226]; decide) ?_
            refine k_aload 157 rfl rfl rfl ?_
            refine r_gI I3 160 rfl rfl rfl (fun x293 (e294 : x293.toInt = F0 32) => ?_)
            exact k_fin rfl rfl ⟨_, _, _, _, rfl, I3, (fr1.up (by decide) fr1.rf), fr2.rf, show wr A0 ∧ wq A0 ∧ (A0 2) 2 = A0 2 2 ∧ (∀ q : Int, 2600 ≤ q → (A0 1) q = A0 1 q) from ⟨p5, p6, rfl, fun q _ => rfl⟩⟩
          · refine k_sw 161 rfl (by unfold am_tb; rw [b226]; decide) ?_
            refine k_aload 162 rfl rfl rfl ?_
            refine k_iload 163 rfl rfl rfl ?_
            refine k_rq I3 rfl (m_readCount (lm := lm) (gT := gT) I3.1 (show nn ((A0 24)) ((A0 25)) ((F0 28)) (gT) from p1) (show nw ((A0 24)) ((A0 25)) ((A0 26)) (lm) ((F0 28)) from p2) (show wr A0 from p5) (show wq A0 from p6)) rfl rfl rfl I3.rc ?_
            rintro x295 h296 F297 A298 I299 ⟨k301, k302, p300⟩
            replace p300 : wr A298 ∧ wq A298 ∧ A298 2 2 = (A0 2) 2 ∧ (∀ q : Int, 2600 ≤ q → A298 1 q = (A0 1) q) := p300
            obtain ⟨p300a, p300b, p300c, p300d⟩ := p300
            show am_Ok _ _ _ (166, _, [.inl x295], _, 0, 0) _
            exact k_fin rfl rfl ⟨_, _, _, _, rfl, I299, (fr1.tr (by decide) (fr1.up (by decide) fr1.rf) k301), (fr2.tr (by decide) fr2.rf k302), ⟨p300a, p300b, p300c, p300d⟩⟩
          · refine k_sw 161 rfl (by unfold am_tb; rw [b226]; decide) ?_
            refine k_aload 162 rfl rfl rfl ?_
            refine k_iload 163 rfl rfl rfl ?_
            refine k_rq I3 rfl (m_readCount (lm := lm) (gT := gT) I3.1 (show nn ((A0 24)) ((A0 25)) ((F0 28)) (gT) from p1) (show nw ((A0 24)) ((A0 25)) ((A0 26)) (lm) ((F0 28)) from p2) (show wr A0 from p5) (show wq A0 from p6)) rfl rfl rfl I3.rc ?_
            rintro x303 h304 F305 A306 I307 ⟨k309, k310, p308⟩
            replace p308 : wr A306 ∧ wq A306 ∧ A306 2 2 = (A0 2) 2 ∧ (∀ q : Int, 2600 ≤ q → A306 1 q = (A0 1) q) := p308
            obtain ⟨p308a, p308b, p308c, p308d⟩ := p308
            show am_Ok _ _ _ (166, _, [.inl x303], _, 0, 0) _
            exact k_fin rfl rfl ⟨_, _, _, _, rfl, I307, (fr1.tr (by decide) (fr1.up (by decide) fr1.rf) k309), (fr2.tr (by decide) fr2.rf k310), ⟨p308a, p308b, p308c, p308d⟩⟩
          · refine k_sw 167 rfl (by unfold am_tb; rw [b226]; decide) ?_
            refine k_aload 168 rfl rfl rfl ?_
            refine k_push 169 rfl rfl ?_
            refine k_rq I3 rfl (m_isTerm (lm := lm) (gT := gT) (gt := gt) I3.1 (show nn ((A0 24)) ((A0 25)) ((F0 28)) (gT) from p1) (show nw ((A0 24)) ((A0 25)) ((A0 26)) (lm) ((F0 28)) from p2) (show wr A0 from p5) (show wq A0 from p6) (show (A0 2) 2 = (gt) ∧ 1 ≤ (gt) ∧ (gt) ≤ 120 from p7) (show wf ((A0 1)) 2600 (gt) from p8) (show cb ((A0 1)) 2600 (gt) 200 from p9) (show 0 ≤ (1 : Int32).toInt ∧ (1 : Int32).toInt ≤ 2 by omega)) rfl rfl rfl I3.rc ?_
            rintro x311 h312 F313 A314 I315 ⟨k317, k318, p316⟩
            replace p316 : (x311.toInt = 0 ∨ x311.toInt = 1) ∧ (x311.toInt = 1 → ∃ n' : Nat, n' ≤ 1000 ∧ A314 2 (1 : Int32).toInt = n' ∧ wf (A314 1) (1300 * (1 : Int32).toInt) n') ∧ wr A314 ∧ wq A314 ∧ (∀ q : Int, q ≠ (1 : Int32).toInt → A314 2 q = (A0 2) q) ∧ (∀ q : Int, (0 ≤ q ∧ q < 1300 * (1 : Int32).toInt) ∨ 1300 * (1 : Int32).toInt + 1300 ≤ q → A314 1 q = (A0 1) q) ∧ A314 2 2 = (A0 2) 2 ∧ (∀ q : Int, 2600 ≤ q → A314 1 q = (A0 1) q) := p316
            obtain ⟨p316a, p316b, p316c, p316d, p316e, p316f, p316g, p316h⟩ := p316
            have z319 := iv_01 (x := x311) p316a
            show am_Ok _ _ _ (172, _, [.inl x311], _, 0, 0) _
            clear p316b
            by_cases b320 : x311 = 0
            · refine k_c1 182 rfl rfl (if_pos b320) ?_
              have b320 := iv_eq0.mp b320
              refine k_push 183 rfl rfl ?_
              have hc321 : (-1 : Int32).toInt = -1 := by decide
              exact k_fin rfl rfl ⟨_, _, _, _, rfl, I315, (fr1.tr (by decide) (fr1.up (by decide) fr1.rf) k317), (fr2.tr (by decide) fr2.rf k318), ⟨p316c, p316d, p316g, p316h⟩⟩
            · refine k_c1 175 rfl rfl (if_neg b320) ?_
              have b320 := mt iv_eq0.mpr b320
              refine k_aload 176 rfl rfl rfl ?_
              refine r_gI I315 179 rfl rfl rfl (fun x322 (e323 : x322.toInt = F313 70) => ?_)
              refine k_goto 183 rfl rfl ?_
              exact k_fin rfl rfl ⟨_, _, _, _, rfl, I315, (fr1.tr (by decide) (fr1.up (by decide) fr1.rf) k317), (fr2.tr (by decide) fr2.rf k318), ⟨p316c, p316d, p316g, p316h⟩⟩
          · refine k_sw 184 rfl (by unfold am_tb; rw [b226]; decide) ?_
            refine k_aload 185 rfl rfl rfl ?_
            refine k_push 186 rfl rfl ?_
            refine k_rq I3 rfl (m_isTerm (lm := lm) (gT := gT) (gt := gt) I3.1 (show nn ((A0 24)) ((A0 25)) ((F0 28)) (gT) from p1) (show nw ((A0 24)) ((A0 25)) ((A0 26)) (lm) ((F0 28)) from p2) (show wr A0 from p5) (show wq A0 from p6) (show (A0 2) 2 = (gt) ∧ 1 ≤ (gt) ∧ (gt) ≤ 120 from p7) (show wf ((A0 1)) 2600 (gt) from p8) (show cb ((A0 1)) 2600 (gt) 200 from p9) (show 0 ≤ (1 : Int32).toInt ∧ (1 : Int32).toInt ≤ 2 by omega)) rfl rfl rfl I3.rc ?_
            rintro x324 h325 F326 A327 I328 ⟨k330, k331, p329⟩
            replace p329 : (x324.toInt = 0 ∨ x324.toInt = 1) ∧ (x324.toInt = 1 → ∃ n' : Nat, n' ≤ 1000 ∧ A327 2 (1 : Int32).toInt = n' ∧ wf (A327 1) (1300 * (1 : Int32).toInt) n') ∧ wr A327 ∧ wq A327 ∧ (∀ q : Int, q ≠ (1 : Int32).toInt → A327 2 q = (A0 2) q) ∧ (∀ q : Int, (0 ≤ q ∧ q < 1300 * (1 : Int32).toInt) ∨ 1300 * (1 : Int32).toInt + 1300 ≤ q → A327 1 q = (A0 1) q) ∧ A327 2 2 = (A0 2) 2 ∧ (∀ q : Int, 2600 ≤ q → A327 1 q = (A0 1) q) := p329
            obtain ⟨p329a, p329b, p329c, p329d, p329e, p329f, p329g, p329h⟩ := p329
            have z332 := iv_01 (x := x324) p329a
            show am_Ok _ _ _ (189, _, [.inl x324], _, 0, 0) _
            clear p329b
            by_cases b333 : x324 = 0
            · refine k_c1 201 rfl rfl (if_pos b333) ?_
              have b333 := iv_eq0.mp b333
              refine k_push 202 rfl rfl ?_
              have hc334 : (-1 : Int32).toInt = -1 := by decide
              exact k_fin rfl rfl ⟨_, _, _, _, rfl, I328, (fr1.tr (by decide) (fr1.up (by decide) fr1.rf) k330), (fr2.tr (by decide) fr2.rf k331), ⟨p329c, p329d, p329g, p329h⟩⟩
            · refine k_c1 192 rfl rfl (if_neg b333) ?_
              have b333 := mt iv_eq0.mpr b333
              refine k_aload 193 rfl rfl rfl ?_
              refine r_gA I328 196 rfl rfl rfl ?_
              refine k_push 197 rfl rfl ?_
              refine r_ld 2 I328 198 rfl rfl (by omega) (show (1 : Int32).toInt < 3 by omega) rfl (fun x335 (e336 : x335.toInt = A327 2 (1 : Int32).toInt) => ?_)
              rw [hc6] at e336
              refine k_goto 202 rfl rfl ?_
              exact k_fin rfl rfl ⟨_, _, _, _, rfl, I328, (fr1.tr (by decide) (fr1.up (by decide) fr1.rf) k330), (fr2.tr (by decide) fr2.rf k331), ⟨p329c, p329d, p329g, p329h⟩⟩
          · refine k_sw 203 rfl (by unfold am_tb; rw [b226]; decide) ?_
            refine k_aload 204 rfl rfl rfl ?_
            refine r_gA I3 207 rfl rfl rfl ?_
            refine k_push 208 rfl rfl ?_
            have hc337 : (2 : Int32).toInt = 2 := by decide
            refine r_ld 2 I3 209 rfl rfl (by omega) (show (2 : Int32).toInt < 3 by omega) rfl (fun x338 (e339 : x338.toInt = A0 2 (2 : Int32).toInt) => ?_)
            rw [hc337] at e339
            exact k_fin rfl rfl ⟨_, _, _, _, rfl, I3, (fr1.up (by decide) fr1.rf), fr2.rf, show wr A0 ∧ wq A0 ∧ (A0 2) 2 = A0 2 2 ∧ (∀ q : Int, 2600 ≤ q → (A0 1) q = A0 1 q) from ⟨p5, p6, rfl, fun q _ => rfl⟩⟩
          · refine k_sw 210 rfl (by unfold am_tb; rw [b226]; decide) ?_
            refine k_aload 211 rfl rfl rfl ?_
            refine r_gI I3 214 rfl rfl rfl (fun x340 (e341 : x340.toInt = F0 4) => ?_)
            exact k_fin rfl rfl ⟨_, _, _, _, rfl, I3, (fr1.up (by decide) fr1.rf), fr2.rf, show wr A0 ∧ wq A0 ∧ (A0 2) 2 = A0 2 2 ∧ (∀ q : Int, 2600 ≤ q → (A0 1) q = A0 1 q) from ⟨p5, p6, rfl, fun q _ => rfl⟩⟩
          · refine k_sw 215 rfl (by unfold am_tb; rw [b226]; decide) ?_
            refine k_aload 216 rfl rfl rfl ?_
            refine k_iload 217 rfl rfl rfl ?_
            refine k_push 219 rfl rfl ?_
            have hc342 : (16 : Int32).toInt = 16 := by decide
            obtain ⟨x343, q344⟩ : ∃ q : Int32, q = (w1 - (16 : Int32)) := ⟨_, rfl⟩
            have e345 : x343.toInt = w1.toInt - 16 := by rw [q344, iv_sub (by omega) (by omega)]; omega
            refine k_bin x343 220 rfl q344.symm rfl ?_
            refine k_rq I3 rfl (m_ofKind  I3.1 (show 1 ≤ (F0 28) ∧ (F0 28) ≤ 400 by omega)) rfl rfl rfl I3.rc ?_
            rintro x346 h347 F348 A349 I350 ⟨k352, k353, p351⟩
            have k352 := fr1.nil k352
            subst k352
            have k353 := fr2.nil k353
            subst k353
            show am_Ok _ _ _ (223, _, [.inl x346], _, 0, 0) _
            exact k_fin rfl rfl ⟨_, _, _, _, rfl, I350, (fr1.up (by decide) fr1.rf), fr2.rf, show wr A0 ∧ wq A0 ∧ (A0 2) 2 = A0 2 2 ∧ (∀ q : Int, 2600 ≤ q → (A0 1) q = A0 1 q) from ⟨p5, p6, rfl, fun q _ => rfl⟩⟩
          · refine k_sw 215 rfl (by unfold am_tb; rw [b226]; decide) ?_
            refine k_aload 216 rfl rfl rfl ?_
            refine k_iload 217 rfl rfl rfl ?_
            refine k_push 219 rfl rfl ?_
            have hc354 : (16 : Int32).toInt = 16 := by decide
            obtain ⟨x355, q356⟩ : ∃ q : Int32, q = (w1 - (16 : Int32)) := ⟨_, rfl⟩
            have e357 : x355.toInt = w1.toInt - 16 := by rw [q356, iv_sub (by omega) (by omega)]; omega
            refine k_bin x355 220 rfl q356.symm rfl ?_
            refine k_rq I3 rfl (m_ofKind  I3.1 (show 1 ≤ (F0 28) ∧ (F0 28) ≤ 400 by omega)) rfl rfl rfl I3.rc ?_
            rintro x358 h359 F360 A361 I362 ⟨k364, k365, p363⟩
            have k364 := fr1.nil k364
            subst k364
            have k365 := fr2.nil k365
            subst k365
            show am_Ok _ _ _ (223, _, [.inl x358], _, 0, 0) _
            exact k_fin rfl rfl ⟨_, _, _, _, rfl, I362, (fr1.up (by decide) fr1.rf), fr2.rf, show wr A0 ∧ wq A0 ∧ (A0 2) 2 = A0 2 2 ∧ (∀ q : Int, 2600 ≤ q → (A0 1) q = A0 1 q) from ⟨p5, p6, rfl, fun q _ => rfl⟩⟩
          · refine k_sw 215 rfl (by unfold am_tb; rw [b226]; decide) ?_
            refine k_aload 216 rfl rfl rfl ?_
            refine k_iload 217 rfl rfl rfl ?_
            refine k_push 219 rfl rfl ?_
            have hc366 : (16 : Int32).toInt = 16 := by decide
            obtain ⟨x367, q368⟩ : ∃ q : Int32, q = (w1 - (16 : Int32)) := ⟨_, rfl⟩
            have e369 : x367.toInt = w1.toInt - 16 := by rw [q368, iv_sub (by omega) (by omega)]; omega
            refine k_bin x367 220 rfl q368.symm rfl ?_
            refine k_rq I3 rfl (m_ofKind  I3.1 (show 1 ≤ (F0 28) ∧ (F0 28) ≤ 400 by omega)) rfl rfl rfl I3.rc ?_
            rintro x370 h371 F372 A373 I374 ⟨k376, k377, p375⟩
            have k376 := fr1.nil k376
            subst k376
            have k377 := fr2.nil k377
            subst k377
            show am_Ok _ _ _ (223, _, [.inl x370], _, 0, 0) _
            exact k_fin rfl rfl ⟨_, _, _, _, rfl, I374, (fr1.up (by decide) fr1.rf), fr2.rf, show wr A0 ∧ wq A0 ∧ (A0 2) 2 = A0 2 2 ∧ (∀ q : Int, 2600 ≤ q → (A0 1) q = A0 1 q) from ⟨p5, p6, rfl, fun q _ => rfl⟩⟩
          · refine k_sw 215 rfl (by unfold am_tb; rw [b226]; decide) ?_
            refine k_aload 216 rfl rfl rfl ?_
            refine k_iload 217 rfl rfl rfl ?_
            refine k_push 219 rfl rfl ?_
            have hc378 : (16 : Int32).toInt = 16 := by decide
            obtain ⟨x379, q380⟩ : ∃ q : Int32, q = (w1 - (16 : Int32)) := ⟨_, rfl⟩
            have e381 : x379.toInt = w1.toInt - 16 := by rw [q380, iv_sub (by omega) (by omega)]; omega
            refine k_bin x379 220 rfl q380.symm rfl ?_
            refine k_rq I3 rfl (m_ofKind  I3.1 (show 1 ≤ (F0 28) ∧ (F0 28) ≤ 400 by omega)) rfl rfl rfl I3.rc ?_
            rintro x382 h383 F384 A385 I386 ⟨k388, k389, p387⟩
            have k388 := fr1.nil k388
            subst k388
            have k389 := fr2.nil k389
            subst k389
            show am_Ok _ _ _ (223, _, [.inl x382], _, 0, 0) _
            exact k_fin rfl rfl ⟨_, _, _, _, rfl, I386, (fr1.up (by decide) fr1.rf), fr2.rf, show wr A0 ∧ wq A0 ∧ (A0 2) 2 = A0 2 2 ∧ (∀ q : Int, 2600 ≤ q → (A0 1) q = A0 1 q) from ⟨p5, p6, rfl, fun q _ => rfl⟩⟩
          · refine k_sw 215 rfl (by unfold am_tb; rw [b226]; decide) ?_
            refine k_aload 216 rfl rfl rfl ?_
            refine k_iload 217 rfl rfl rfl ?_
            refine k_push 219 rfl rfl ?_
            have hc390 : (16 : Int32).toInt = 16 := by decide
            obtain ⟨x391, q392⟩ : ∃ q : Int32, q = (w1 - (16 : Int32)) := ⟨_, rfl⟩
            have e393 : x391.toInt = w1.toInt - 16 := by rw [q392, iv_sub (by omega) (by omega)]; omega
            refine k_bin x391 220 rfl q392.symm rfl ?_
            refine k_rq I3 rfl (m_ofKind  I3.1 (show 1 ≤ (F0 28) ∧ (F0 28) ≤ 400 by omega)) rfl rfl rfl I3.rc ?_
            rintro x394 h395 F396 A397 I398 ⟨k400, k401, p399⟩
            have k400 := fr1.nil k400
            subst k400
            have k401 := fr2.nil k401
            subst k401
            show am_Ok _ _ _ (223, _, [.inl x394], _, 0, 0) _
            exact k_fin rfl rfl ⟨_, _, _, _, rfl, I398, (fr1.up (by decide) fr1.rf), fr2.rf, show wr A0 ∧ wq A0 ∧ (A0 2) 2 = A0 2 2 ∧ (∀ q : Int, 2600 ≤ q → (A0 1) q = A0 1 q) from ⟨p5, p6, rfl, fun q _ => rfl⟩⟩
          · refine k_sw 215 rfl (by unfold am_tb; rw [b226]; decide) ?_
            refine k_aload 216 rfl rfl rfl ?_
            refine k_iload 217 rfl rfl rfl ?_
            refine k_push 219 rfl rfl ?_
            have hc402 : (16 : Int32).toInt = 16 := by decide
            obtain ⟨x403, q404⟩ : ∃ q : Int32, q = (w1 - (16 : Int32)) := ⟨_, rfl⟩
            have e405 : x403.toInt = w1.toInt - 16 := by rw [q404, iv_sub (by omega) (by omega)]; omega
            refine k_bin x403 220 rfl q404.symm rfl ?_
            refine k_rq I3 rfl (m_ofKind  I3.1 (show 1 ≤ (F0 28) ∧ (F0 28) ≤ 400 by omega)) rfl rfl rfl I3.rc ?_
            rintro x406 h407 F408 A409 I410 ⟨k412, k413, p411⟩
            have k412 := fr1.nil k412
            subst k412
            have k413 := fr2.nil k413
            subst k413
            show am_Ok _ _ _ (223, _, [.inl x406], _, 0, 0) _
            exact k_fin rfl rfl ⟨_, _, _, _, rfl, I410, (fr1.up (by decide) fr1.rf), fr2.rf, show wr A0 ∧ wq A0 ∧ (A0 2) 2 = A0 2 2 ∧ (∀ q : Int, 2600 ≤ q → (A0 1) q = A0 1 q) from ⟨p5, p6, rfl, fun q _ => rfl⟩⟩
          · refine k_sw 215 rfl (by unfold am_tb; rw [b226]; decide) ?_
            refine k_aload 216 rfl rfl rfl ?_
            refine k_iload 217 rfl rfl rfl ?_
            refine k_push 219 rfl rfl ?_
            have hc414 : (16 : Int32).toInt = 16 := by decide
            obtain ⟨x415, q416⟩ : ∃ q : Int32, q = (w1 - (16 : Int32)) := ⟨_, rfl⟩
            have e417 : x415.toInt = w1.toInt - 16 := by rw [q416, iv_sub (by omega) (by omega)]; omega
            refine k_bin x415 220 rfl q416.symm rfl ?_
            refine k_rq I3 rfl (m_ofKind  I3.1 (show 1 ≤ (F0 28) ∧ (F0 28) ≤ 400 by omega)) rfl rfl rfl I3.rc ?_
            rintro x418 h419 F420 A421 I422 ⟨k424, k425, p423⟩
            have k424 := fr1.nil k424
            subst k424
            have k425 := fr2.nil k425
            subst k425
            show am_Ok _ _ _ (223, _, [.inl x418], _, 0, 0) _
            exact k_fin rfl rfl ⟨_, _, _, _, rfl, I422, (fr1.up (by decide) fr1.rf), fr2.rf, show wr A0 ∧ wq A0 ∧ (A0 2) 2 = A0 2 2 ∧ (∀ q : Int, 2600 ≤ q → (A0 1) q = A0 1 q) from ⟨p5, p6, rfl, fun q _ => rfl⟩⟩
          · refine k_sw 161 rfl (by unfold am_tb; rw [b226]; decide) ?_
            refine k_aload 162 rfl rfl rfl ?_
            refine k_iload 163 rfl rfl rfl ?_
            refine k_rq I3 rfl (m_readCount (lm := lm) (gT := gT) I3.1 (show nn ((A0 24)) ((A0 25)) ((F0 28)) (gT) from p1) (show nw ((A0 24)) ((A0 25)) ((A0 26)) (lm) ((F0 28)) from p2) (show wr A0 from p5) (show wq A0 from p6)) rfl rfl rfl I3.rc ?_
            rintro x426 h427 F428 A429 I430 ⟨k432, k433, p431⟩
            replace p431 : wr A429 ∧ wq A429 ∧ A429 2 2 = (A0 2) 2 ∧ (∀ q : Int, 2600 ≤ q → A429 1 q = (A0 1) q) := p431
            obtain ⟨p431a, p431b, p431c, p431d⟩ := p431
            show am_Ok _ _ _ (166, _, [.inl x426], _, 0, 0) _
            exact k_fin rfl rfl ⟨_, _, _, _, rfl, I430, (fr1.tr (by decide) (fr1.up (by decide) fr1.rf) k432), (fr2.tr (by decide) fr2.rf k433), ⟨p431a, p431b, p431c, p431d⟩⟩
      · refine k_c1 27 rfl rfl (if_neg b225) ?_
        have b225 := mt iv_eq0.mpr b225
        refine k_push 28 rfl rfl ?_
        refine k_fin rfl (fin_Z (Or.inl rfl)) ⟨_, _, rfl, rf_len I3 I3, ?_⟩
        show am_Ok _ _ _ (17, _, [.inl (0 : Int32)], _, 0, 0) _
        refine k_c1 20 rfl rfl (if_pos (by decide)) ?_
        refine k_push 21 rfl rfl ?_
        exact k_fin rfl rfl ⟨_, _, _, _, rfl, I3, (fr1.up (by decide) fr1.rf), fr2.rf, show wr A0 ∧ wq A0 ∧ (A0 2) 2 = A0 2 2 ∧ (∀ q : Int, 2600 ≤ q → (A0 1) q = A0 1 q) from ⟨p5, p6, rfl, fun q _ => rfl⟩⟩
  · refine k_c2 5 rfl rfl (if_neg b5) ?_
    have b5 := mt iv_lt.mpr b5
    refine k_iload 6 rfl rfl rfl ?_
    refine k_iload 7 rfl rfl rfl ?_
    by_cases b434 : (23 : Int32) < w1
    · refine k_c2 14 rfl rfl (if_pos b434) ?_
      have b434 := iv_lt.mp b434
      refine k_push 15 rfl rfl ?_
      refine k_fin rfl (fin_Z (Or.inl rfl)) ⟨_, _, rfl, rf_len I3 I3, ?_⟩
      show am_Ok _ _ _ (13, _, [.inl (0 : Int32), .inr (.inr (some 81))], _, 0, 0) _
      refine k_push 14 rfl rfl ?_
      have hc435 : (1 : Int32).toInt = 1 := by decide
      refine k_in (d := 0) rfl rfl rfl rfl I3.rc ?_
      refine k_aload 1 rfl rfl rfl ?_
      refine r_gI I3 4 rfl rfl rfl (fun x436 (e437 : x436.toInt = (0 : Int32).toInt) => ?_)
      by_cases b438 : x436 = 0
      · refine k_c1 7 rfl rfl (if_pos b438) ?_
        have b438 := iv_eq0.mp b438
        refine k_iload 8 rfl rfl rfl ?_
        refine k_c1 11 rfl rfl (if_pos (by decide)) ?_
        refine k_aload 12 rfl rfl rfl ?_
        refine k_iload 13 rfl rfl rfl ?_
        refine r_pI I3 16 rfl rfl rfl (fun h439 I440 => ?_)
        refine k_aload 17 rfl rfl rfl ?_
        refine r_gI I440 20 rfl rfl rfl (fun x441 (e442 : x441.toInt = (1 : Int32).toInt) => ?_)
        by_cases b443 : x441 = 0
        · refine k_c1 23 rfl rfl (if_pos b443) ?_
          have b443 := iv_eq0.mp b443
          refine k_push 24 rfl rfl ?_
          refine k_goto 28 rfl rfl ?_
          refine k_fin rfl (fin_Z (Or.inr rfl)) ⟨_, _, rfl, rf_len I3 I440, ?_⟩
          show am_Ok _ _ _ (17, _, [.inl (1 : Int32)], _, 0, 0) _
          refine k_c1 22 rfl rfl (if_neg (by decide)) ?_
          refine k_iload 23 rfl rfl rfl ?_
          by_cases b444 : w1.toInt < 0 ∨ 23 < w1.toInt
          · refine k_sw 215 rfl (if_pos b444) ?_
            refine k_aload 216 rfl rfl rfl ?_
            refine k_iload 217 rfl rfl rfl ?_
            refine k_push 219 rfl rfl ?_
            have hc445 : (16 : Int32).toInt = 16 := by decide
            obtain ⟨x446, q447⟩ : ∃ q : Int32, q = (w1 - (16 : Int32)) := ⟨_, rfl⟩
            have e448 : x446.toInt = w1.toInt - 16 := by rw [q447, iv_sub (by omega) (by omega)]; omega
            refine k_bin x446 220 rfl q447.symm rfl ?_
            refine k_rq I440 rfl (m_ofKind  I440.1 (show 1 ≤ (F0 28) ∧ (F0 28) ≤ 400 by omega)) rfl rfl rfl I440.rc ?_
            rintro x449 h450 F451 A452 I453 ⟨k455, k456, p454⟩
            have k455 := fr1.nil k455
            subst k455
            have k456 := fr2.nil k456
            subst k456
            show am_Ok _ _ _ (223, _, [.inl x449], _, 0, 0) _
            exact k_fin rfl rfl ⟨_, _, _, _, rfl, I453, (fr1.up (by decide) (fr1.up (by decide) fr1.rf)), fr2.rf, show wr A0 ∧ wq A0 ∧ (A0 2) 2 = A0 2 2 ∧ (∀ q : Int, 2600 ≤ q → (A0 1) q = A0 1 q) from ⟨p5, p6, rfl, fun q _ => rfl⟩⟩
          · have b444 : w1.toInt = 0 ∨ w1.toInt = 1 ∨ w1.toInt = 2 ∨ w1.toInt = 3 ∨ w1.toInt = 4 ∨ w1.toInt = 5 ∨ w1.toInt = 6 ∨ w1.toInt = 7 ∨ w1.toInt = 8 ∨ w1.toInt = 9 ∨ w1.toInt = 10 ∨ w1.toInt = 11 ∨ w1.toInt = 12 ∨ w1.toInt = 13 ∨ w1.toInt = 14 ∨ w1.toInt = 15 ∨ w1.toInt = 16 ∨ w1.toInt = 17 ∨ w1.toInt = 18 ∨ w1.toInt = 19 ∨ w1.toInt = 20 ∨ w1.toInt = 21 ∨ w1.toInt = 22 ∨ w1.toInt = 23 := by omega
            rcases b444 with b444 | b444 | b444 | b444 | b444 | b444 | b444 | b444 | b444 | b444 | b444 | b444 | b444 | b444 | b444 | b444 | b444 | b444 | b444 | b444 | b444 | b444 | b444 | b444
            · refine k_sw 132 rfl (by unfold am_tb; rw [b444]; decide) ?_
              refine k_aload 133 rfl rfl rfl ?_
              refine r_gI I440 136 rfl rfl rfl (fun x457 (e458 : x457.toInt = F0 27) => ?_)
              exact k_fin rfl rfl ⟨_, _, _, _, rfl, I440, (fr1.up (by decide) (fr1.up (by decide) fr1.rf)), fr2.rf, show wr A0 ∧ wq A0 ∧ (A0 2) 2 = A0 2 2 ∧ (∀ q : Int, 2600 ≤ q → (A0 1) q = A0 1 q) from ⟨p5, p6, rfl, fun q _ => rfl⟩⟩
            · refine k_sw 137 rfl (by unfold am_tb; rw [b444]; decide) ?_
              refine k_aload 138 rfl rfl rfl ?_
              refine k_rq I440 rfl (m_activeMany (lm := lm) (gT := gT) I440.1 (show nn ((A0 24)) ((A0 25)) ((F0 28)) (gT) from p1) (show nw ((A0 24)) ((A0 25)) ((A0 26)) (lm) ((F0 28)) from p2)) rfl rfl rfl I440.rc ?_
              rintro x459 h460 F461 A462 I463 ⟨k465, k466, p464⟩
              replace p464 : 0 ≤ x459.toInt ∧ x459.toInt ≤ (F0 28) := p464
              have k465 := fr1.nil k465
              subst k465
              have k466 := fr2.nil k466
              subst k466
              show am_Ok _ _ _ (141, _, [.inl x459], _, 0, 0) _
              exact k_fin rfl rfl ⟨_, _, _, _, rfl, I463, (fr1.up (by decide) (fr1.up (by decide) fr1.rf)), fr2.rf, show wr A0 ∧ wq A0 ∧ (A0 2) 2 = A0 2 2 ∧ (∀ q : Int, 2600 ≤ q → (A0 1) q = A0 1 q) from ⟨p5, p6, rfl, fun q _ => rfl⟩⟩
            · refine k_sw 142 rfl (by unfold am_tb; rw [b444]; decide) ?_
              refine k_aload 143 rfl rfl rfl ?_
              refine k_rq I440 rfl (m_greatestLevel  I440.1 (show 1 ≤ (F0 28) ∧ (F0 28) ≤ 400 by omega)) rfl rfl rfl I440.rc ?_
              rintro x467 h468 F469 A470 I471 ⟨k473, k474, p472⟩
              have k473 := fr1.nil k473
              subst k473
              have k474 := fr2.nil k474
              subst k474
              show am_Ok _ _ _ (146, _, [.inl x467], _, 0, 0) _
              exact k_fin rfl rfl ⟨_, _, _, _, rfl, I471, (fr1.up (by decide) (fr1.up (by decide) fr1.rf)), fr2.rf, show wr A0 ∧ wq A0 ∧ (A0 2) 2 = A0 2 2 ∧ (∀ q : Int, 2600 ≤ q → (A0 1) q = A0 1 q) from ⟨p5, p6, rfl, fun q _ => rfl⟩⟩
            · refine k_sw 147 rfl (by unfold am_tb; rw [b444]; decide) ?_
              refine k_aload 148 rfl rfl rfl ?_
              refine r_gA I440 151 rfl rfl rfl ?_
              refine k_iload 152 rfl rfl rfl ?_
              refine k_push 153 rfl rfl ?_
              have hc475 : (3 : Int32).toInt = 3 := by decide
              obtain ⟨x476, q477⟩ : ∃ q : Int32, q = (w1 - (3 : Int32)) := ⟨_, rfl⟩
              have e478 : x476.toInt = w1.toInt - 3 := by rw [q477, iv_sub (by omega) (by omega)]; omega
              refine k_bin x476 154 rfl q477.symm rfl ?_
              refine r_ld 31 I440 155 rfl rfl (by omega) (show x476.toInt < 6 by omega) rfl (fun x479 (e480 : x479.toInt = A0 31 x476.toInt) => ?_)
              rw [e478] at e480
              exact k_fin rfl rfl ⟨_, _, _, _, rfl, I440, (fr1.up (by decide) (fr1.up (by decide) fr1.rf)), fr2.rf, show wr A0 ∧ wq A0 ∧ (A0 2) 2 = A0 2 2 ∧ (∀ q : Int, 2600 ≤ q → (A0 1) q = A0 1 q) from ⟨p5, p6, rfl, fun q _ => rfl⟩⟩
            · refine k_sw 147 rfl (by unfold am_tb; rw [b444]; decide) ?_
              refine k_aload 148 rfl rfl rfl ?_
              refine r_gA I440 151 rfl rfl rfl ?_
              refine k_iload 152 rfl rfl rfl ?_
              refine k_push 153 rfl rfl ?_
              have hc481 : (3 : Int32).toInt = 3 := by decide
              obtain ⟨x482, q483⟩ : ∃ q : Int32, q = (w1 - (3 : Int32)) := ⟨_, rfl⟩
              have e484 : x482.toInt = w1.toInt - 3 := by rw [q483, iv_sub (by omega) (by omega)]; omega
              refine k_bin x482 154 rfl q483.symm rfl ?_
              refine r_ld 31 I440 155 rfl rfl (by omega) (show x482.toInt < 6 by omega) rfl (fun x485 (e486 : x485.toInt = A0 31 x482.toInt) => ?_)
              rw [e484] at e486
              exact k_fin rfl rfl ⟨_, _, _, _, rfl, I440, (fr1.up (by decide) (fr1.up (by decide) fr1.rf)), fr2.rf, show wr A0 ∧ wq A0 ∧ (A0 2) 2 = A0 2 2 ∧ (∀ q : Int, 2600 ≤ q → (A0 1) q = A0 1 q) from ⟨p5, p6, rfl, fun q _ => rfl⟩⟩
            · refine k_sw 147 rfl (by unfold am_tb; rw [b444]; decide) ?_
              refine k_aload 148 rfl rfl rfl ?_
              refine r_gA I440 151 rfl rfl rfl ?_
              refine k_iload 152 rfl rfl rfl ?_
              refine k_push 153 rfl rfl ?_
              have hc487 : (3 : Int32).toInt = 3 := by decide
              obtain ⟨x488, q489⟩ : ∃ q : Int32, q = (w1 - (3 : Int32)) := ⟨_, rfl⟩
              have e490 : x488.toInt = w1.toInt - 3 := by rw [q489, iv_sub (by omega) (by omega)]; omega
              refine k_bin x488 154 rfl q489.symm rfl ?_
              refine r_ld 31 I440 155 rfl rfl (by omega) (show x488.toInt < 6 by omega) rfl (fun x491 (e492 : x491.toInt = A0 31 x488.toInt) => ?_)
              rw [e490] at e492
              exact k_fin rfl rfl ⟨_, _, _, _, rfl, I440, (fr1.up (by decide) (fr1.up (by decide) fr1.rf)), fr2.rf, show wr A0 ∧ wq A0 ∧ (A0 2) 2 = A0 2 2 ∧ (∀ q : Int, 2600 ≤ q → (A0 1) q = A0 1 q) from ⟨p5, p6, rfl, fun q _ => rfl⟩⟩
            · refine k_sw 147 rfl (by unfold am_tb; rw [b444]; decide) ?_
              refine k_aload 148 rfl rfl rfl ?_
              refine r_gA I440 151 rfl rfl rfl ?_
              refine k_iload 152 rfl rfl rfl ?_
              refine k_push 153 rfl rfl ?_
              have hc493 : (3 : Int32).toInt = 3 := by decide
              obtain ⟨x494, q495⟩ : ∃ q : Int32, q = (w1 - (3 : Int32)) := ⟨_, rfl⟩
              have e496 : x494.toInt = w1.toInt - 3 := by rw [q495, iv_sub (by omega) (by omega)]; omega
              refine k_bin x494 154 rfl q495.symm rfl ?_
              refine r_ld 31 I440 155 rfl rfl (by omega) (show x494.toInt < 6 by omega) rfl (fun x497 (e498 : x497.toInt = A0 31 x494.toInt) => ?_)
              rw [e496] at e498
              exact k_fin rfl rfl ⟨_, _, _, _, rfl, I440, (fr1.up (by decide) (fr1.up (by decide) fr1.rf)), fr2.rf, show wr A0 ∧ wq A0 ∧ (A0 2) 2 = A0 2 2 ∧ (∀ q : Int, 2600 ≤ q → (A0 1) q = A0 1 q) from ⟨p5, p6, rfl, fun q _ => rfl⟩⟩
            · refine k_sw 147 rfl (by unfold am_tb; rw [b444]; decide) ?_
              refine k_aload 148 rfl rfl rfl ?_
              refine r_gA I440 151 rfl rfl rfl ?_
              refine k_iload 152 rfl rfl rfl ?_
              refine k_push 153 rfl rfl ?_
              have hc499 : (3 : Int32).toInt = 3 := by decide
              obtain ⟨x500, q501⟩ : ∃ q : Int32, q = (w1 - (3 : Int32)) := ⟨_, rfl⟩
              have e502 : x500.toInt = w1.toInt - 3 := by rw [q501, iv_sub (by omega) (by omega)]; omega
              refine k_bin x500 154 rfl q501.symm rfl ?_
              refine r_ld 31 I440 155 rfl rfl (by omega) (show x500.toInt < 6 by omega) rfl (fun x503 (e504 : x503.toInt = A0 31 x500.toInt) => ?_)
              rw [e502] at e504
              exact k_fin rfl rfl ⟨_, _, _, _, rfl, I440, (fr1.up (by decide) (fr1.up (by decide) fr1.rf)), fr2.rf, show wr A0 ∧ wq A0 ∧ (A0 2) 2 = A0 2 2 ∧ (∀ q : Int, 2600 ≤ q → (A0 1) q = A0 1 q) from ⟨p5, p6, rfl, fun q _ => rfl⟩⟩
            · refine k_sw 147 rfl (by unfold am_tb; rw [b444]; decide) ?_
              refine k_aload 148 rfl rfl rfl ?_
              refine r_gA I440 151 rfl rfl rfl ?_
              refine k_iload 152 rfl rfl rfl ?_
              refine k_push 153 rfl rfl ?_
              have hc505 : (3 : Int32).toInt = 3 := by decide
              obtain ⟨x506, q507⟩ : ∃ q : Int32, q = (w1 - (3 : Int32)) := ⟨_, rfl⟩
              have e508 : x506.toInt = w1.toInt - 3 := by rw [q507, iv_sub (by omega) (by omega)]; omega
              refine k_bin x506 154 rfl q507.symm rfl ?_
              refine r_ld 31 I440 155 rfl rfl (by omega) (show x506.toInt < 6 by omega) rfl (fun x509 (e510 : x509.toInt = A0 31 x506.toInt) => ?_)
              rw [e508] at e510
              exact k_fin rfl rfl ⟨_, _, _, _, rfl, I440, (fr1.up (by decide) (fr1.up (by decide) fr1.rf)), fr2.rf, show wr A0 ∧ wq A0 ∧ (A0 2) 2 = A0 2 2 ∧ (∀ q : Int, 2600 ≤ q → (A0 1) q = A0 1 q) from ⟨p5, p6, rfl, fun q _ => rfl⟩⟩
            · refine k_sw 156 rfl (by unfold am_tb; rw [b444]; decide) ?_
              refine k_aload 157 rfl rfl rfl ?_
              refine r_gI I440 160 rfl rfl rfl (fun x511 (e512 : x511.toInt = F0 32) => ?_)
              exact k_fin rfl rfl ⟨_, _, _, _, rfl, I440, (fr1.up (by decide) (fr1.up (by decide) fr1.rf)), fr2.rf, show wr A0 ∧ wq A0 ∧ (A0 2) 2 = A0 2 2 ∧ (∀ q : Int, 2600 ≤ q → (A0 1) q = A0 1 q) from ⟨p5, p6, rfl, fun q _ => rfl⟩⟩
            · refine k_sw 161 rfl (by unfold am_tb; rw [b444]; decide) ?_
              refine k_aload 162 rfl rfl rfl ?_
              refine k_iload 163 rfl rfl rfl ?_
              refine k_rq I440 rfl (m_readCount (lm := lm) (gT := gT) I440.1 (show nn ((A0 24)) ((A0 25)) ((F0 28)) (gT) from p1) (show nw ((A0 24)) ((A0 25)) ((A0 26)) (lm) ((F0 28)) from p2) (show wr A0 from p5) (show wq A0 from p6)) rfl rfl rfl I440.rc ?_
              rintro x513 h514 F515 A516 I517 ⟨k519, k520, p518⟩
              replace p518 : wr A516 ∧ wq A516 ∧ A516 2 2 = (A0 2) 2 ∧ (∀ q : Int, 2600 ≤ q → A516 1 q = (A0 1) q) := p518
              obtain ⟨p518a, p518b, p518c, p518d⟩ := p518
              show am_Ok _ _ _ (166, _, [.inl x513], _, 0, 0) _
              exact k_fin rfl rfl ⟨_, _, _, _, rfl, I517, (fr1.tr (by decide) (fr1.up (by decide) (fr1.up (by decide) fr1.rf)) k519), (fr2.tr (by decide) fr2.rf k520), ⟨p518a, p518b, p518c, p518d⟩⟩
            · refine k_sw 161 rfl (by unfold am_tb; rw [b444]; decide) ?_
              refine k_aload 162 rfl rfl rfl ?_
              refine k_iload 163 rfl rfl rfl ?_
              refine k_rq I440 rfl (m_readCount (lm := lm) (gT := gT) I440.1 (show nn ((A0 24)) ((A0 25)) ((F0 28)) (gT) from p1) (show nw ((A0 24)) ((A0 25)) ((A0 26)) (lm) ((F0 28)) from p2) (show wr A0 from p5) (show wq A0 from p6)) rfl rfl rfl I440.rc ?_
              rintro x521 h522 F523 A524 I525 ⟨k527, k528, p526⟩
              replace p526 : wr A524 ∧ wq A524 ∧ A524 2 2 = (A0 2) 2 ∧ (∀ q : Int, 2600 ≤ q → A524 1 q = (A0 1) q) := p526
              obtain ⟨p526a, p526b, p526c, p526d⟩ := p526
              show am_Ok _ _ _ (166, _, [.inl x521], _, 0, 0) _
              exact k_fin rfl rfl ⟨_, _, _, _, rfl, I525, (fr1.tr (by decide) (fr1.up (by decide) (fr1.up (by decide) fr1.rf)) k527), (fr2.tr (by decide) fr2.rf k528), ⟨p526a, p526b, p526c, p526d⟩⟩
            · refine k_sw 167 rfl (by unfold am_tb; rw [b444]; decide) ?_
              refine k_aload 168 rfl rfl rfl ?_
              refine k_push 169 rfl rfl ?_
              refine k_rq I440 rfl (m_isTerm (lm := lm) (gT := gT) (gt := gt) I440.1 (show nn ((A0 24)) ((A0 25)) ((F0 28)) (gT) from p1) (show nw ((A0 24)) ((A0 25)) ((A0 26)) (lm) ((F0 28)) from p2) (show wr A0 from p5) (show wq A0 from p6) (show (A0 2) 2 = (gt) ∧ 1 ≤ (gt) ∧ (gt) ≤ 120 from p7) (show wf ((A0 1)) 2600 (gt) from p8) (show cb ((A0 1)) 2600 (gt) 200 from p9) (show 0 ≤ (1 : Int32).toInt ∧ (1 : Int32).toInt ≤ 2 by omega)) rfl rfl rfl I440.rc ?_
              rintro x529 h530 F531 A532 I533 ⟨k535, k536, p534⟩
              replace p534 : (x529.toInt = 0 ∨ x529.toInt = 1) ∧ (x529.toInt = 1 → ∃ n' : Nat, n' ≤ 1000 ∧ A532 2 (1 : Int32).toInt = n' ∧ wf (A532 1) (1300 * (1 : Int32).toInt) n') ∧ wr A532 ∧ wq A532 ∧ (∀ q : Int, q ≠ (1 : Int32).toInt → A532 2 q = (A0 2) q) ∧ (∀ q : Int, (0 ≤ q ∧ q < 1300 * (1 : Int32).toInt) ∨ 1300 * (1 : Int32).toInt + 1300 ≤ q → A532 1 q = (A0 1) q) ∧ A532 2 2 = (A0 2) 2 ∧ (∀ q : Int, 2600 ≤ q → A532 1 q = (A0 1) q) := p534
              obtain ⟨p534a, p534b, p534c, p534d, p534e, p534f, p534g, p534h⟩ := p534
              have z537 := iv_01 (x := x529) p534a
              show am_Ok _ _ _ (172, _, [.inl x529], _, 0, 0) _
              clear p534b
              by_cases b538 : x529 = 0
              · refine k_c1 182 rfl rfl (if_pos b538) ?_
                have b538 := iv_eq0.mp b538
                refine k_push 183 rfl rfl ?_
                have hc539 : (-1 : Int32).toInt = -1 := by decide
                exact k_fin rfl rfl ⟨_, _, _, _, rfl, I533, (fr1.tr (by decide) (fr1.up (by decide) (fr1.up (by decide) fr1.rf)) k535), (fr2.tr (by decide) fr2.rf k536), ⟨p534c, p534d, p534g, p534h⟩⟩
              · refine k_c1 175 rfl rfl (if_neg b538) ?_
                have b538 := mt iv_eq0.mpr b538
                refine k_aload 176 rfl rfl rfl ?_
                refine r_gI I533 179 rfl rfl rfl (fun x540 (e541 : x540.toInt = F531 70) => ?_)
                refine k_goto 183 rfl rfl ?_
                exact k_fin rfl rfl ⟨_, _, _, _, rfl, I533, (fr1.tr (by decide) (fr1.up (by decide) (fr1.up (by decide) fr1.rf)) k535), (fr2.tr (by decide) fr2.rf k536), ⟨p534c, p534d, p534g, p534h⟩⟩
            · refine k_sw 184 rfl (by unfold am_tb; rw [b444]; decide) ?_
              refine k_aload 185 rfl rfl rfl ?_
              refine k_push 186 rfl rfl ?_
              refine k_rq I440 rfl (m_isTerm (lm := lm) (gT := gT) (gt := gt) I440.1 (show nn ((A0 24)) ((A0 25)) ((F0 28)) (gT) from p1) (show nw ((A0 24)) ((A0 25)) ((A0 26)) (lm) ((F0 28)) from p2) (show wr A0 from p5) (show wq A0 from p6) (show (A0 2) 2 = (gt) ∧ 1 ≤ (gt) ∧ (gt) ≤ 120 from p7) (show wf ((A0 1)) 2600 (gt) from p8) (show cb ((A0 1)) 2600 (gt) 200 from p9) (show 0 ≤ (1 : Int32).toInt ∧ (1 : Int32).toInt ≤ 2 by omega)) rfl rfl rfl I440.rc ?_
              rintro x542 h543 F544 A545 I546 ⟨k548, k549, p547⟩
              replace p547 : (x542.toInt = 0 ∨ x542.toInt = 1) ∧ (x542.toInt = 1 → ∃ n' : Nat, n' ≤ 1000 ∧ A545 2 (1 : Int32).toInt = n' ∧ wf (A545 1) (1300 * (1 : Int32).toInt) n') ∧ wr A545 ∧ wq A545 ∧ (∀ q : Int, q ≠ (1 : Int32).toInt → A545 2 q = (A0 2) q) ∧ (∀ q : Int, (0 ≤ q ∧ q < 1300 * (1 : Int32).toInt) ∨ 1300 * (1 : Int32).toInt + 1300 ≤ q → A545 1 q = (A0 1) q) ∧ A545 2 2 = (A0 2) 2 ∧ (∀ q : Int, 2600 ≤ q → A545 1 q = (A0 1) q) := p547
              obtain ⟨p547a, p547b, p547c, p547d, p547e, p547f, p547g, p547h⟩ := p547
              have z550 := iv_01 (x := x542) p547a
              show am_Ok _ _ _ (189, _, [.inl x542], _, 0, 0) _
              clear p547b
              by_cases b551 : x542 = 0
              · refine k_c1 201 rfl rfl (if_pos b551) ?_
                have b551 := iv_eq0.mp b551
                refine k_push 202 rfl rfl ?_
                have hc552 : (-1 : Int32).toInt = -1 := by decide
                exact k_fin rfl rfl ⟨_, _, _, _, rfl, I546, (fr1.tr (by decide) (fr1.up (by decide) (fr1.up (by decide) fr1.rf)) k548), (fr2.tr (by decide) fr2.rf k549), ⟨p547c, p547d, p547g, p547h⟩⟩
              · refine k_c1 192 rfl rfl (if_neg b551) ?_
                have b551 := mt iv_eq0.mpr b551
                refine k_aload 193 rfl rfl rfl ?_
                refine r_gA I546 196 rfl rfl rfl ?_
                refine k_push 197 rfl rfl ?_
                refine r_ld 2 I546 198 rfl rfl (by omega) (show (1 : Int32).toInt < 3 by omega) rfl (fun x553 (e554 : x553.toInt = A545 2 (1 : Int32).toInt) => ?_)
                rw [hc435] at e554
                refine k_goto 202 rfl rfl ?_
                exact k_fin rfl rfl ⟨_, _, _, _, rfl, I546, (fr1.tr (by decide) (fr1.up (by decide) (fr1.up (by decide) fr1.rf)) k548), (fr2.tr (by decide) fr2.rf k549), ⟨p547c, p547d, p547g, p547h⟩⟩
            · refine k_sw 203 rfl (by unfold am_tb; rw [b444]; decide) ?_
              refine k_aload 204 rfl rfl rfl ?_
              refine r_gA I440 207 rfl rfl rfl ?_
              refine k_push 208 rfl rfl ?_
              have hc555 : (2 : Int32).toInt = 2 := by decide
              refine r_ld 2 I440 209 rfl rfl (by omega) (show (2 : Int32).toInt < 3 by omega) rfl (fun x556 (e557 : x556.toInt = A0 2 (2 : Int32).toInt) => ?_)
              rw [hc555] at e557
              exact k_fin rfl rfl ⟨_, _, _, _, rfl, I440, (fr1.up (by decide) (fr1.up (by decide) fr1.rf)), fr2.rf, show wr A0 ∧ wq A0 ∧ (A0 2) 2 = A0 2 2 ∧ (∀ q : Int, 2600 ≤ q → (A0 1) q = A0 1 q) from ⟨p5, p6, rfl, fun q _ => rfl⟩⟩
            · refine k_sw 210 rfl (by unfold am_tb; rw [b444]; decide) ?_
              refine k_aload 211 rfl rfl rfl ?_
              refine r_gI I440 214 rfl rfl rfl (fun x558 (e559 : x558.toInt = F0 4) => ?_)
              exact k_fin rfl rfl ⟨_, _, _, _, rfl, I440, (fr1.up (by decide) (fr1.up (by decide) fr1.rf)), fr2.rf, show wr A0 ∧ wq A0 ∧ (A0 2) 2 = A0 2 2 ∧ (∀ q : Int, 2600 ≤ q → (A0 1) q = A0 1 q) from ⟨p5, p6, rfl, fun q _ => rfl⟩⟩
            · refine k_sw 215 rfl (by unfold am_tb; rw [b444]; decide) ?_
              refine k_aload 216 rfl rfl rfl ?_
              refine k_iload 217 rfl rfl rfl ?_
              refine k_push 219 rfl rfl ?_
              have hc560 : (16 : Int32).toInt = 16 := by decide
              obtain ⟨x561, q562⟩ : ∃ q : Int32, q = (w1 - (16 : Int32)) := ⟨_, rfl⟩
              have e563 : x561.toInt = w1.toInt - 16 := by rw [q562, iv_sub (by omega) (by omega)]; omega
              refine k_bin x561 220 rfl q562.symm rfl ?_
              refine k_rq I440 rfl (m_ofKind  I440.1 (show 1 ≤ (F0 28) ∧ (F0 28) ≤ 400 by omega)) rfl rfl rfl I440.rc ?_
              rintro x564 h565 F566 A567 I568 ⟨k570, k571, p569⟩
              have k570 := fr1.nil k570
              subst k570
              have k571 := fr2.nil k571
              subst k571
              show am_Ok _ _ _ (223, _, [.inl x564], _, 0, 0) _
              exact k_fin rfl rfl ⟨_, _, _, _, rfl, I568, (fr1.up (by decide) (fr1.up (by decide) fr1.rf)), fr2.rf, show wr A0 ∧ wq A0 ∧ (A0 2) 2 = A0 2 2 ∧ (∀ q : Int, 2600 ≤ q → (A0 1) q = A0 1 q) from ⟨p5, p6, rfl, fun q _ => rfl⟩⟩
            · refine k_sw 215 rfl (by unfold am_tb; rw [b444]; decide) ?_
              refine k_aload 216 rfl rfl rfl ?_
              refine k_iload 217 rfl rfl rfl ?_
              refine k_push 219 rfl rfl ?_
              have hc572 : (16 : Int32).toInt = 16 := by decide
              obtain ⟨x573, q574⟩ : ∃ q : Int32, q = (w1 - (16 : Int32)) := ⟨_, rfl⟩
              have e575 : x573.toInt = w1.toInt - 16 := by rw [q574, iv_sub (by omega) (by omega)]; omega
              refine k_bin x573 220 rfl q574.symm rfl ?_
              refine k_rq I440 rfl (m_ofKind  I440.1 (show 1 ≤ (F0 28) ∧ (F0 28) ≤ 400 by omega)) rfl rfl rfl I440.rc ?_
              rintro x576 h577 F578 A579 I580 ⟨k582, k583, p581⟩
              have k582 := fr1.nil k582
              subst k582
              have k583 := fr2.nil k583
              subst k583
              show am_Ok _ _ _ (223, _, [.inl x576], _, 0, 0) _
              exact k_fin rfl rfl ⟨_, _, _, _, rfl, I580, (fr1.up (by decide) (fr1.up (by decide) fr1.rf)), fr2.rf, show wr A0 ∧ wq A0 ∧ (A0 2) 2 = A0 2 2 ∧ (∀ q : Int, 2600 ≤ q → (A0 1) q = A0 1 q) from ⟨p5, p6, rfl, fun q _ => rfl⟩⟩
            · refine k_sw 215 rfl (by unfold am_tb; rw [b444]; decide) ?_
              refine k_aload 216 rfl rfl rfl ?_
              refine k_iload 217 rfl rfl rfl ?_
              refine k_push 219 rfl rfl ?_
              have hc584 : (16 : Int32).toInt = 16 := by decide
              obtain ⟨x585, q586⟩ : ∃ q : Int32, q = (w1 - (16 : Int32)) := ⟨_, rfl⟩
              have e587 : x585.toInt = w1.toInt - 16 := by rw [q586, iv_sub (by omega) (by omega)]; omega
              refine k_bin x585 220 rfl q586.symm rfl ?_
              refine k_rq I440 rfl (m_ofKind  I440.1 (show 1 ≤ (F0 28) ∧ (F0 28) ≤ 400 by omega)) rfl rfl rfl I440.rc ?_
              rintro x588 h589 F590 A591 I592 ⟨k594, k595, p593⟩
              have k594 := fr1.nil k594
              subst k594
              have k595 := fr2.nil k595
              subst k595
              show am_Ok _ _ _ (223, _, [.inl x588], _, 0, 0) _
              exact k_fin rfl rfl ⟨_, _, _, _, rfl, I592, (fr1.up (by decide) (fr1.up (by decide) fr1.rf)), fr2.rf, show wr A0 ∧ wq A0 ∧ (A0 2) 2 = A0 2 2 ∧ (∀ q : Int, 2600 ≤ q → (A0 1) q = A0 1 q) from ⟨p5, p6, rfl, fun q _ => rfl⟩⟩
            · refine k_sw 215 rfl (by unfold am_tb; rw [b444]; decide) ?_
              refine k_aload 216 rfl rfl rfl ?_
              refine k_iload 217 rfl rfl rfl ?_
              refine k_push 219 rfl rfl ?_
              have hc596 : (16 : Int32).toInt = 16 := by decide
              obtain ⟨x597, q598⟩ : ∃ q : Int32, q = (w1 - (16 : Int32)) := ⟨_, rfl⟩
              have e599 : x597.toInt = w1.toInt - 16 := by rw [q598, iv_sub (by omega) (by omega)]; omega
              refine k_bin x597 220 rfl q598.symm rfl ?_
              refine k_rq I440 rfl (m_ofKind  I440.1 (show 1 ≤ (F0 28) ∧ (F0 28) ≤ 400 by omega)) rfl rfl rfl I440.rc ?_
              rintro x600 h601 F602 A603 I604 ⟨k606, k607, p605⟩
              have k606 := fr1.nil k606
              subst k606
              have k607 := fr2.nil k607
              subst k607
              show am_Ok _ _ _ (223, _, [.inl x600], _, 0, 0) _
              exact k_fin rfl rfl ⟨_, _, _, _, rfl, I604, (fr1.up (by decide) (fr1.up (by decide) fr1.rf)), fr2.rf, show wr A0 ∧ wq A0 ∧ (A0 2) 2 = A0 2 2 ∧ (∀ q : Int, 2600 ≤ q → (A0 1) q = A0 1 q) from ⟨p5, p6, rfl, fun q _ => rfl⟩⟩
            · refine k_sw 215 rfl (by unfold am_tb; rw [b444]; decide) ?_
              refine k_aload 216 rfl rfl rfl ?_
              refine k_iload 217 rfl rfl rfl ?_
              refine k_push 219 rfl rfl ?_
              have hc608 : (16 : Int32).toInt = 16 := by decide
              obtain ⟨x609, q610⟩ : ∃ q : Int32, q = (w1 - (16 : Int32)) := ⟨_, rfl⟩
              have e611 : x609.toInt = w1.toInt - 16 := by rw [q610, iv_sub (by omega) (by omega)]; omega
              refine k_bin x609 220 rfl q610.symm rfl ?_
              refine k_rq I440 rfl (m_ofKind  I440.1 (show 1 ≤ (F0 28) ∧ (F0 28) ≤ 400 by omega)) rfl rfl rfl I440.rc ?_
              rintro x612 h613 F614 A615 I616 ⟨k618, k619, p617⟩
              have k618 := fr1.nil k618
              subst k618
              have k619 := fr2.nil k619
              subst k619
              show am_Ok _ _ _ (223, _, [.inl x612], _, 0, 0) _
              exact k_fin rfl rfl ⟨_, _, _, _, rfl, I616, (fr1.up (by decide) (fr1.up (by decide) fr1.rf)), fr2.rf, show wr A0 ∧ wq A0 ∧ (A0 2) 2 = A0 2 2 ∧ (∀ q : Int, 2600 ≤ q → (A0 1) q = A0 1 q) from ⟨p5, p6, rfl, fun q _ => rfl⟩⟩
            · refine k_sw 215 rfl (by unfold am_tb; rw [b444]; decide) ?_
              refine k_aload 216 rfl rfl rfl ?_
              refine k_iload 217 rfl rfl rfl ?_
              refine k_push 219 rfl rfl ?_
              have hc620 : (16 : Int32).toInt = 16 := by decide
              obtain ⟨x621, q622⟩ : ∃ q : Int32, q = (w1 - (16 : Int32)) := ⟨_, rfl⟩
              have e623 : x621.toInt = w1.toInt - 16 := by rw [q622, iv_sub (by omega) (by omega)]; omega
              refine k_bin x621 220 rfl q622.symm rfl ?_
              refine k_rq I440 rfl (m_ofKind  I440.1 (show 1 ≤ (F0 28) ∧ (F0 28) ≤ 400 by omega)) rfl rfl rfl I440.rc ?_
              rintro x624 h625 F626 A627 I628 ⟨k630, k631, p629⟩
              have k630 := fr1.nil k630
              subst k630
              have k631 := fr2.nil k631
              subst k631
              show am_Ok _ _ _ (223, _, [.inl x624], _, 0, 0) _
              exact k_fin rfl rfl ⟨_, _, _, _, rfl, I628, (fr1.up (by decide) (fr1.up (by decide) fr1.rf)), fr2.rf, show wr A0 ∧ wq A0 ∧ (A0 2) 2 = A0 2 2 ∧ (∀ q : Int, 2600 ≤ q → (A0 1) q = A0 1 q) from ⟨p5, p6, rfl, fun q _ => rfl⟩⟩
            · refine k_sw 215 rfl (by unfold am_tb; rw [b444]; decide) ?_
              refine k_aload 216 rfl rfl rfl ?_
              refine k_iload 217 rfl rfl rfl ?_
              refine k_push 219 rfl rfl ?_
              have hc632 : (16 : Int32).toInt = 16 := by decide
              obtain ⟨x633, q634⟩ : ∃ q : Int32, q = (w1 - (16 : Int32)) := ⟨_, rfl⟩
              have e635 : x633.toInt = w1.toInt - 16 := by rw [q634, iv_sub (by omega) (by omega)]; omega
              refine k_bin x633 220 rfl q634.symm rfl ?_
              refine k_rq I440 rfl (m_ofKind  I440.1 (show 1 ≤ (F0 28) ∧ (F0 28) ≤ 400 by omega)) rfl rfl rfl I440.rc ?_
              rintro x636 h637 F638 A639 I640 ⟨k642, k643, p641⟩
              have k642 := fr1.nil k642
              subst k642
              have k643 := fr2.nil k643
              subst k643
              show am_Ok _ _ _ (223, _, [.inl x636], _, 0, 0) _
              exact k_fin rfl rfl ⟨_, _, _, _, rfl, I640, (fr1.up (by decide) (fr1.up (by decide) fr1.rf)), fr2.rf, show wr A0 ∧ wq A0 ∧ (A0 2) 2 = A0 2 2 ∧ (∀ q : Int, 2600 ≤ q → (A0 1) q = A0 1 q) from ⟨p5, p6, rfl, fun q _ => rfl⟩⟩
            · refine k_sw 161 rfl (by unfold am_tb; rw [b444]; decide) ?_
              refine k_aload 162 rfl rfl rfl ?_
              refine k_iload 163 rfl rfl rfl ?_
              refine k_rq I440 rfl (m_readCount (lm := lm) (gT := gT) I440.1 (show nn ((A0 24)) ((A0 25)) ((F0 28)) (gT) from p1) (show nw ((A0 24)) ((A0 25)) ((A0 26)) (lm) ((F0 28)) from p2) (show wr A0 from p5) (show wq A0 from p6)) rfl rfl rfl I440.rc ?_
              rintro x644 h645 F646 A647 I648 ⟨k650, k651, p649⟩
              replace p649 : wr A647 ∧ wq A647 ∧ A647 2 2 = (A0 2) 2 ∧ (∀ q : Int, 2600 ≤ q → A647 1 q = (A0 1) q) := p649
              obtain ⟨p649a, p649b, p649c, p649d⟩ := p649
              show am_Ok _ _ _ (166, _, [.inl x644], _, 0, 0) _
              exact k_fin rfl rfl ⟨_, _, _, _, rfl, I648, (fr1.tr (by decide) (fr1.up (by decide) (fr1.up (by decide) fr1.rf)) k650), (fr2.tr (by decide) fr2.rf k651), ⟨p649a, p649b, p649c, p649d⟩⟩
        · refine k_c1 27 rfl rfl (if_neg b443) ?_
          have b443 := mt iv_eq0.mpr b443
          refine k_push 28 rfl rfl ?_
          refine k_fin rfl (fin_Z (Or.inl rfl)) ⟨_, _, rfl, rf_len I3 I440, ?_⟩
          show am_Ok _ _ _ (17, _, [.inl (0 : Int32)], _, 0, 0) _
          refine k_c1 20 rfl rfl (if_pos (by decide)) ?_
          refine k_push 21 rfl rfl ?_
          exact k_fin rfl rfl ⟨_, _, _, _, rfl, I440, (fr1.up (by decide) (fr1.up (by decide) fr1.rf)), fr2.rf, show wr A0 ∧ wq A0 ∧ (A0 2) 2 = A0 2 2 ∧ (∀ q : Int, 2600 ≤ q → (A0 1) q = A0 1 q) from ⟨p5, p6, rfl, fun q _ => rfl⟩⟩
      · refine k_c1 16 rfl rfl (if_neg b438) ?_
        have b438 := mt iv_eq0.mpr b438
        refine k_aload 17 rfl rfl rfl ?_
        refine r_gI I3 20 rfl rfl rfl (fun x652 (e653 : x652.toInt = (0 : Int32).toInt) => ?_)
        by_cases b654 : x652 = 0
        · refine k_c1 23 rfl rfl (if_pos b654) ?_
          have b654 := iv_eq0.mp b654
          refine k_push 24 rfl rfl ?_
          refine k_goto 28 rfl rfl ?_
          refine k_fin rfl (fin_Z (Or.inr rfl)) ⟨_, _, rfl, rf_len I3 I3, ?_⟩
          show am_Ok _ _ _ (17, _, [.inl (1 : Int32)], _, 0, 0) _
          refine k_c1 22 rfl rfl (if_neg (by decide)) ?_
          refine k_iload 23 rfl rfl rfl ?_
          by_cases b655 : w1.toInt < 0 ∨ 23 < w1.toInt
          · refine k_sw 215 rfl (if_pos b655) ?_
            refine k_aload 216 rfl rfl rfl ?_
            refine k_iload 217 rfl rfl rfl ?_
            refine k_push 219 rfl rfl ?_
            have hc656 : (16 : Int32).toInt = 16 := by decide
            obtain ⟨x657, q658⟩ : ∃ q : Int32, q = (w1 - (16 : Int32)) := ⟨_, rfl⟩
            have e659 : x657.toInt = w1.toInt - 16 := by rw [q658, iv_sub (by omega) (by omega)]; omega
            refine k_bin x657 220 rfl q658.symm rfl ?_
            refine k_rq I3 rfl (m_ofKind  I3.1 (show 1 ≤ (F0 28) ∧ (F0 28) ≤ 400 by omega)) rfl rfl rfl I3.rc ?_
            rintro x660 h661 F662 A663 I664 ⟨k666, k667, p665⟩
            have k666 := fr1.nil k666
            subst k666
            have k667 := fr2.nil k667
            subst k667
            show am_Ok _ _ _ (223, _, [.inl x660], _, 0, 0) _
            exact k_fin rfl rfl ⟨_, _, _, _, rfl, I664, (fr1.up (by decide) fr1.rf), fr2.rf, show wr A0 ∧ wq A0 ∧ (A0 2) 2 = A0 2 2 ∧ (∀ q : Int, 2600 ≤ q → (A0 1) q = A0 1 q) from ⟨p5, p6, rfl, fun q _ => rfl⟩⟩
          · have b655 : w1.toInt = 0 ∨ w1.toInt = 1 ∨ w1.toInt = 2 ∨ w1.toInt = 3 ∨ w1.toInt = 4 ∨ w1.toInt = 5 ∨ w1.toInt = 6 ∨ w1.toInt = 7 ∨ w1.toInt = 8 ∨ w1.toInt = 9 ∨ w1.toInt = 10 ∨ w1.toInt = 11 ∨ w1.toInt = 12 ∨ w1.toInt = 13 ∨ w1.toInt = 14 ∨ w1.toInt = 15 ∨ w1.toInt = 16 ∨ w1.toInt = 17 ∨ w1.toInt = 18 ∨ w1.toInt = 19 ∨ w1.toInt = 20 ∨ w1.toInt = 21 ∨ w1.toInt = 22 ∨ w1.toInt = 23 := by omega
            rcases b655 with b655 | b655 | b655 | b655 | b655 | b655 | b655 | b655 | b655 | b655 | b655 | b655 | b655 | b655 | b655 | b655 | b655 | b655 | b655 | b655 | b655 | b655 | b655 | b655
            · refine k_sw 132 rfl (by unfold am_tb; rw [b655]; decide) ?_
              refine k_aload 133 rfl rfl rfl ?_
              refine r_gI I3 136 rfl rfl rfl (fun x668 (e669 : x668.toInt = F0 27) => ?_)
              exact k_fin rfl rfl ⟨_, _, _, _, rfl, I3, (fr1.up (by decide) fr1.rf), fr2.rf, show wr A0 ∧ wq A0 ∧ (A0 2) 2 = A0 2 2 ∧ (∀ q : Int, 2600 ≤ q → (A0 1) q = A0 1 q) from ⟨p5, p6, rfl, fun q _ => rfl⟩⟩
            · refine k_sw 137 rfl (by unfold am_tb; rw [b655]; decide) ?_
              refine k_aload 138 rfl rfl rfl ?_
              refine k_rq I3 rfl (m_activeMany (lm := lm) (gT := gT) I3.1 (show nn ((A0 24)) ((A0 25)) ((F0 28)) (gT) from p1) (show nw ((A0 24)) ((A0 25)) ((A0 26)) (lm) ((F0 28)) from p2)) rfl rfl rfl I3.rc ?_
              rintro x670 h671 F672 A673 I674 ⟨k676, k677, p675⟩
              replace p675 : 0 ≤ x670.toInt ∧ x670.toInt ≤ (F0 28) := p675
              have k676 := fr1.nil k676
              subst k676
              have k677 := fr2.nil k677
              subst k677
              show am_Ok _ _ _ (141, _, [.inl x670], _, 0, 0) _
              exact k_fin rfl rfl ⟨_, _, _, _, rfl, I674, (fr1.up (by decide) fr1.rf), fr2.rf, show wr A0 ∧ wq A0 ∧ (A0 2) 2 = A0 2 2 ∧ (∀ q : Int, 2600 ≤ q → (A0 1) q = A0 1 q) from ⟨p5, p6, rfl, fun q _ => rfl⟩⟩
            · refine k_sw 142 rfl (by unfold am_tb; rw [b655]; decide) ?_
              refine k_aload 143 rfl rfl rfl ?_
              refine k_rq I3 rfl (m_greatestLevel  I3.1 (show 1 ≤ (F0 28) ∧ (F0 28) ≤ 400 by omega)) rfl rfl rfl I3.rc ?_
              rintro x678 h679 F680 A681 I682 ⟨k684, k685, p683⟩
              have k684 := fr1.nil k684
              subst k684
              have k685 := fr2.nil k685
              subst k685
              show am_Ok _ _ _ (146, _, [.inl x678], _, 0, 0) _
              exact k_fin rfl rfl ⟨_, _, _, _, rfl, I682, (fr1.up (by decide) fr1.rf), fr2.rf, show wr A0 ∧ wq A0 ∧ (A0 2) 2 = A0 2 2 ∧ (∀ q : Int, 2600 ≤ q → (A0 1) q = A0 1 q) from ⟨p5, p6, rfl, fun q _ => rfl⟩⟩
            · refine k_sw 147 rfl (by unfold am_tb; rw [b655]; decide) ?_
              refine k_aload 148 rfl rfl rfl ?_
              refine r_gA I3 151 rfl rfl rfl ?_
              refine k_iload 152 rfl rfl rfl ?_
              refine k_push 153 rfl rfl ?_
              have hc686 : (3 : Int32).toInt = 3 := by decide
              obtain ⟨x687, q688⟩ : ∃ q : Int32, q = (w1 - (3 : Int32)) := ⟨_, rfl⟩
              have e689 : x687.toInt = w1.toInt - 3 := by rw [q688, iv_sub (by omega) (by omega)]; omega
              refine k_bin x687 154 rfl q688.symm rfl ?_
              refine r_ld 31 I3 155 rfl rfl (by omega) (show x687.toInt < 6 by omega) rfl (fun x690 (e691 : x690.toInt = A0 31 x687.toInt) => ?_)
              rw [e689] at e691
              exact k_fin rfl rfl ⟨_, _, _, _, rfl, I3, (fr1.up (by decide) fr1.rf), fr2.rf, show wr A0 ∧ wq A0 ∧ (A0 2) 2 = A0 2 2 ∧ (∀ q : Int, 2600 ≤ q → (A0 1) q = A0 1 q) from ⟨p5, p6, rfl, fun q _ => rfl⟩⟩
            · refine k_sw 147 rfl (by unfold am_tb; rw [b655]; decide) ?_
              refine k_aload 148 rfl rfl rfl ?_
              refine r_gA I3 151 rfl rfl rfl ?_
              refine k_iload 152 rfl rfl rfl ?_
              refine k_push 153 rfl rfl ?_
              have hc692 : (3 : Int32).toInt = 3 := by decide
              obtain ⟨x693, q694⟩ : ∃ q : Int32, q = (w1 - (3 : Int32)) := ⟨_, rfl⟩
              have e695 : x693.toInt = w1.toInt - 3 := by rw [q694, iv_sub (by omega) (by omega)]; omega
              refine k_bin x693 154 rfl q694.symm rfl ?_
              refine r_ld 31 I3 155 rfl rfl (by omega) (show x693.toInt < 6 by omega) rfl (fun x696 (e697 : x696.toInt = A0 31 x693.toInt) => ?_)
              rw [e695] at e697
              exact k_fin rfl rfl ⟨_, _, _, _, rfl, I3, (fr1.up (by decide) fr1.rf), fr2.rf, show wr A0 ∧ wq A0 ∧ (A0 2) 2 = A0 2 2 ∧ (∀ q : Int, 2600 ≤ q → (A0 1) q = A0 1 q) from ⟨p5, p6, rfl, fun q _ => rfl⟩⟩
            · refine k_sw 147 rfl (by unfold am_tb; rw [b655]; decide) ?_
              refine k_aload 148 rfl rfl rfl ?_
              refine r_gA I3 151 rfl rfl rfl ?_
              refine k_iload 152 rfl rfl rfl ?_
              refine k_push 153 rfl rfl ?_
              have hc698 : (3 : Int32).toInt = 3 := by decide
              obtain ⟨x699, q700⟩ : ∃ q : Int32, q = (w1 - (3 : Int32)) := ⟨_, rfl⟩
              have e701 : x699.toInt = w1.toInt - 3 := by rw [q700, iv_sub (by omega) (by omega)]; omega
              refine k_bin x699 154 rfl q700.symm rfl ?_
              refine r_ld 31 I3 155 rfl rfl (by omega) (show x699.toInt < 6 by omega) rfl (fun x702 (e703 : x702.toInt = A0 31 x699.toInt) => ?_)
              rw [e701] at e703
              exact k_fin rfl rfl ⟨_, _, _, _, rfl, I3, (fr1.up (by decide) fr1.rf), fr2.rf, show wr A0 ∧ wq A0 ∧ (A0 2) 2 = A0 2 2 ∧ (∀ q : Int, 2600 ≤ q → (A0 1) q = A0 1 q) from ⟨p5, p6, rfl, fun q _ => rfl⟩⟩
            · refine k_sw 147 rfl (by unfold am_tb; rw [b655]; decide) ?_
              refine k_aload 148 rfl rfl rfl ?_
              refine r_gA I3 151 rfl rfl rfl ?_
              refine k_iload 152 rfl rfl rfl ?_
              refine k_push 153 rfl rfl ?_
              have hc704 : (3 : Int32).toInt = 3 := by decide
              obtain ⟨x705, q706⟩ : ∃ q : Int32, q = (w1 - (3 : Int32)) := ⟨_, rfl⟩
              have e707 : x705.toInt = w1.toInt - 3 := by rw [q706, iv_sub (by omega) (by omega)]; omega
              refine k_bin x705 154 rfl q706.symm rfl ?_
              refine r_ld 31 I3 155 rfl rfl (by omega) (show x705.toInt < 6 by omega) rfl (fun x708 (e709 : x708.toInt = A0 31 x705.toInt) => ?_)
              rw [e707] at e709
              exact k_fin rfl rfl ⟨_, _, _, _, rfl, I3, (fr1.up (by decide) fr1.rf), fr2.rf, show wr A0 ∧ wq A0 ∧ (A0 2) 2 = A0 2 2 ∧ (∀ q : Int, 2600 ≤ q → (A0 1) q = A0 1 q) from ⟨p5, p6, rfl, fun q _ => rfl⟩⟩
            · refine k_sw 147 rfl (by unfold am_tb; rw [b655]; decide) ?_
              refine k_aload 148 rfl rfl rfl ?_
              refine r_gA I3 151 rfl rfl rfl ?_
              refine k_iload 152 rfl rfl rfl ?_
              refine k_push 153 rfl rfl ?_
              have hc710 : (3 : Int32).toInt = 3 := by decide
              obtain ⟨x711, q712⟩ : ∃ q : Int32, q = (w1 - (3 : Int32)) := ⟨_, rfl⟩
              have e713 : x711.toInt = w1.toInt - 3 := by rw [q712, iv_sub (by omega) (by omega)]; omega
              refine k_bin x711 154 rfl q712.symm rfl ?_
              refine r_ld 31 I3 155 rfl rfl (by omega) (show x711.toInt < 6 by omega) rfl (fun x714 (e715 : x714.toInt = A0 31 x711.toInt) => ?_)
              rw [e713] at e715
              exact k_fin rfl rfl ⟨_, _, _, _, rfl, I3, (fr1.up (by decide) fr1.rf), fr2.rf, show wr A0 ∧ wq A0 ∧ (A0 2) 2 = A0 2 2 ∧ (∀ q : Int, 2600 ≤ q → (A0 1) q = A0 1 q) from ⟨p5, p6, rfl, fun q _ => rfl⟩⟩
            · refine k_sw 147 rfl (by unfold am_tb; rw [b655]; decide) ?_
              refine k_aload 148 rfl rfl rfl ?_
              refine r_gA I3 151 rfl rfl rfl ?_
              refine k_iload 152 rfl rfl rfl ?_
              refine k_push 153 rfl rfl ?_
              have hc716 : (3 : Int32).toInt = 3 := by decide
              obtain ⟨x717, q718⟩ : ∃ q : Int32, q = (w1 - (3 : Int32)) := ⟨_, rfl⟩
              have e719 : x717.toInt = w1.toInt - 3 := by rw [q718, iv_sub (by omega) (by omega)]; omega
              refine k_bin x717 154 rfl q718.symm rfl ?_
              refine r_ld 31 I3 155 rfl rfl (by omega) (show x717.toInt < 6 by omega) rfl (fun x720 (e721 : x720.toInt = A0 31 x717.toInt) => ?_)
              rw [e719] at e721
              exact k_fin rfl rfl ⟨_, _, _, _, rfl, I3, (fr1.up (by decide) fr1.rf), fr2.rf, show wr A0 ∧ wq A0 ∧ (A0 2) 2 = A0 2 2 ∧ (∀ q : Int, 2600 ≤ q → (A0 1) q = A0 1 q) from ⟨p5, p6, rfl, fun q _ => rfl⟩⟩
            · refine k_sw 156 rfl (by unfold am_tb; rw [b655]; decide) ?_
              refine k_aload 157 rfl rfl rfl ?_
              refine r_gI I3 160 rfl rfl rfl (fun x722 (e723 : x722.toInt = F0 32) => ?_)
              exact k_fin rfl rfl ⟨_, _, _, _, rfl, I3, (fr1.up (by decide) fr1.rf), fr2.rf, show wr A0 ∧ wq A0 ∧ (A0 2) 2 = A0 2 2 ∧ (∀ q : Int, 2600 ≤ q → (A0 1) q = A0 1 q) from ⟨p5, p6, rfl, fun q _ => rfl⟩⟩
            · refine k_sw 161 rfl (by unfold am_tb; rw [b655]; decide) ?_
              refine k_aload 162 rfl rfl rfl ?_
              refine k_iload 163 rfl rfl rfl ?_
              refine k_rq I3 rfl (m_readCount (lm := lm) (gT := gT) I3.1 (show nn ((A0 24)) ((A0 25)) ((F0 28)) (gT) from p1) (show nw ((A0 24)) ((A0 25)) ((A0 26)) (lm) ((F0 28)) from p2) (show wr A0 from p5) (show wq A0 from p6)) rfl rfl rfl I3.rc ?_
              rintro x724 h725 F726 A727 I728 ⟨k730, k731, p729⟩
              replace p729 : wr A727 ∧ wq A727 ∧ A727 2 2 = (A0 2) 2 ∧ (∀ q : Int, 2600 ≤ q → A727 1 q = (A0 1) q) := p729
              obtain ⟨p729a, p729b, p729c, p729d⟩ := p729
              show am_Ok _ _ _ (166, _, [.inl x724], _, 0, 0) _
              exact k_fin rfl rfl ⟨_, _, _, _, rfl, I728, (fr1.tr (by decide) (fr1.up (by decide) fr1.rf) k730), (fr2.tr (by decide) fr2.rf k731), ⟨p729a, p729b, p729c, p729d⟩⟩
            · refine k_sw 161 rfl (by unfold am_tb; rw [b655]; decide) ?_
              refine k_aload 162 rfl rfl rfl ?_
              refine k_iload 163 rfl rfl rfl ?_
              refine k_rq I3 rfl (m_readCount (lm := lm) (gT := gT) I3.1 (show nn ((A0 24)) ((A0 25)) ((F0 28)) (gT) from p1) (show nw ((A0 24)) ((A0 25)) ((A0 26)) (lm) ((F0 28)) from p2) (show wr A0 from p5) (show wq A0 from p6)) rfl rfl rfl I3.rc ?_
              rintro x732 h733 F734 A735 I736 ⟨k738, k739, p737⟩
              replace p737 : wr A735 ∧ wq A735 ∧ A735 2 2 = (A0 2) 2 ∧ (∀ q : Int, 2600 ≤ q → A735 1 q = (A0 1) q) := p737
              obtain ⟨p737a, p737b, p737c, p737d⟩ := p737
              show am_Ok _ _ _ (166, _, [.inl x732], _, 0, 0) _
              exact k_fin rfl rfl ⟨_, _, _, _, rfl, I736, (fr1.tr (by decide) (fr1.up (by decide) fr1.rf) k738), (fr2.tr (by decide) fr2.rf k739), ⟨p737a, p737b, p737c, p737d⟩⟩
            · refine k_sw 167 rfl (by unfold am_tb; rw [b655]; decide) ?_
              refine k_aload 168 rfl rfl rfl ?_
              refine k_push 169 rfl rfl ?_
              refine k_rq I3 rfl (m_isTerm (lm := lm) (gT := gT) (gt := gt) I3.1 (show nn ((A0 24)) ((A0 25)) ((F0 28)) (gT) from p1) (show nw ((A0 24)) ((A0 25)) ((A0 26)) (lm) ((F0 28)) from p2) (show wr A0 from p5) (show wq A0 from p6) (show (A0 2) 2 = (gt) ∧ 1 ≤ (gt) ∧ (gt) ≤ 120 from p7) (show wf ((A0 1)) 2600 (gt) from p8) (show cb ((A0 1)) 2600 (gt) 200 from p9) (show 0 ≤ (1 : Int32).toInt ∧ (1 : Int32).toInt ≤ 2 by omega)) rfl rfl rfl I3.rc ?_
              rintro x740 h741 F742 A743 I744 ⟨k746, k747, p745⟩
              replace p745 : (x740.toInt = 0 ∨ x740.toInt = 1) ∧ (x740.toInt = 1 → ∃ n' : Nat, n' ≤ 1000 ∧ A743 2 (1 : Int32).toInt = n' ∧ wf (A743 1) (1300 * (1 : Int32).toInt) n') ∧ wr A743 ∧ wq A743 ∧ (∀ q : Int, q ≠ (1 : Int32).toInt → A743 2 q = (A0 2) q) ∧ (∀ q : Int, (0 ≤ q ∧ q < 1300 * (1 : Int32).toInt) ∨ 1300 * (1 : Int32).toInt + 1300 ≤ q → A743 1 q = (A0 1) q) ∧ A743 2 2 = (A0 2) 2 ∧ (∀ q : Int, 2600 ≤ q → A743 1 q = (A0 1) q) := p745
              obtain ⟨p745a, p745b, p745c, p745d, p745e, p745f, p745g, p745h⟩ := p745
              have z748 := iv_01 (x := x740) p745a
              show am_Ok _ _ _ (172, _, [.inl x740], _, 0, 0) _
              clear p745b
              by_cases b749 : x740 = 0
              · refine k_c1 182 rfl rfl (if_pos b749) ?_
                have b749 := iv_eq0.mp b749
                refine k_push 183 rfl rfl ?_
                have hc750 : (-1 : Int32).toInt = -1 := by decide
                exact k_fin rfl rfl ⟨_, _, _, _, rfl, I744, (fr1.tr (by decide) (fr1.up (by decide) fr1.rf) k746), (fr2.tr (by decide) fr2.rf k747), ⟨p745c, p745d, p745g, p745h⟩⟩
              · refine k_c1 175 rfl rfl (if_neg b749) ?_
                have b749 := mt iv_eq0.mpr b749
                refine k_aload 176 rfl rfl rfl ?_
                refine r_gI I744 179 rfl rfl rfl (fun x751 (e752 : x751.toInt = F742 70) => ?_)
                refine k_goto 183 rfl rfl ?_
                exact k_fin rfl rfl ⟨_, _, _, _, rfl, I744, (fr1.tr (by decide) (fr1.up (by decide) fr1.rf) k746), (fr2.tr (by decide) fr2.rf k747), ⟨p745c, p745d, p745g, p745h⟩⟩
            · refine k_sw 184 rfl (by unfold am_tb; rw [b655]; decide) ?_
              refine k_aload 185 rfl rfl rfl ?_
              refine k_push 186 rfl rfl ?_
              refine k_rq I3 rfl (m_isTerm (lm := lm) (gT := gT) (gt := gt) I3.1 (show nn ((A0 24)) ((A0 25)) ((F0 28)) (gT) from p1) (show nw ((A0 24)) ((A0 25)) ((A0 26)) (lm) ((F0 28)) from p2) (show wr A0 from p5) (show wq A0 from p6) (show (A0 2) 2 = (gt) ∧ 1 ≤ (gt) ∧ (gt) ≤ 120 from p7) (show wf ((A0 1)) 2600 (gt) from p8) (show cb ((A0 1)) 2600 (gt) 200 from p9) (show 0 ≤ (1 : Int32).toInt ∧ (1 : Int32).toInt ≤ 2 by omega)) rfl rfl rfl I3.rc ?_
              rintro x753 h754 F755 A756 I757 ⟨k759, k760, p758⟩
              replace p758 : (x753.toInt = 0 ∨ x753.toInt = 1) ∧ (x753.toInt = 1 → ∃ n' : Nat, n' ≤ 1000 ∧ A756 2 (1 : Int32).toInt = n' ∧ wf (A756 1) (1300 * (1 : Int32).toInt) n') ∧ wr A756 ∧ wq A756 ∧ (∀ q : Int, q ≠ (1 : Int32).toInt → A756 2 q = (A0 2) q) ∧ (∀ q : Int, (0 ≤ q ∧ q < 1300 * (1 : Int32).toInt) ∨ 1300 * (1 : Int32).toInt + 1300 ≤ q → A756 1 q = (A0 1) q) ∧ A756 2 2 = (A0 2) 2 ∧ (∀ q : Int, 2600 ≤ q → A756 1 q = (A0 1) q) := p758
              obtain ⟨p758a, p758b, p758c, p758d, p758e, p758f, p758g, p758h⟩ := p758
              have z761 := iv_01 (x := x753) p758a
              show am_Ok _ _ _ (189, _, [.inl x753], _, 0, 0) _
              clear p758b
              by_cases b762 : x753 = 0
              · refine k_c1 201 rfl rfl (if_pos b762) ?_
                have b762 := iv_eq0.mp b762
                refine k_push 202 rfl rfl ?_
                have hc763 : (-1 : Int32).toInt = -1 := by decide
                exact k_fin rfl rfl ⟨_, _, _, _, rfl, I757, (fr1.tr (by decide) (fr1.up (by decide) fr1.rf) k759), (fr2.tr (by decide) fr2.rf k760), ⟨p758c, p758d, p758g, p758h⟩⟩
              · refine k_c1 192 rfl rfl (if_neg b762) ?_
                have b762 := mt iv_eq0.mpr b762
                refine k_aload 193 rfl rfl rfl ?_
                refine r_gA I757 196 rfl rfl rfl ?_
                refine k_push 197 rfl rfl ?_
                refine r_ld 2 I757 198 rfl rfl (by omega) (show (1 : Int32).toInt < 3 by omega) rfl (fun x764 (e765 : x764.toInt = A756 2 (1 : Int32).toInt) => ?_)
                rw [hc435] at e765
                refine k_goto 202 rfl rfl ?_
                exact k_fin rfl rfl ⟨_, _, _, _, rfl, I757, (fr1.tr (by decide) (fr1.up (by decide) fr1.rf) k759), (fr2.tr (by decide) fr2.rf k760), ⟨p758c, p758d, p758g, p758h⟩⟩
            · refine k_sw 203 rfl (by unfold am_tb; rw [b655]; decide) ?_
              refine k_aload 204 rfl rfl rfl ?_
              refine r_gA I3 207 rfl rfl rfl ?_
              refine k_push 208 rfl rfl ?_
              have hc766 : (2 : Int32).toInt = 2 := by decide
              refine r_ld 2 I3 209 rfl rfl (by omega) (show (2 : Int32).toInt < 3 by omega) rfl (fun x767 (e768 : x767.toInt = A0 2 (2 : Int32).toInt) => ?_)
              rw [hc766] at e768
              exact k_fin rfl rfl ⟨_, _, _, _, rfl, I3, (fr1.up (by decide) fr1.rf), fr2.rf, show wr A0 ∧ wq A0 ∧ (A0 2) 2 = A0 2 2 ∧ (∀ q : Int, 2600 ≤ q → (A0 1) q = A0 1 q) from ⟨p5, p6, rfl, fun q _ => rfl⟩⟩
            · refine k_sw 210 rfl (by unfold am_tb; rw [b655]; decide) ?_
              refine k_aload 211 rfl rfl rfl ?_
              refine r_gI I3 214 rfl rfl rfl (fun x769 (e770 : x769.toInt = F0 4) => ?_)
              exact k_fin rfl rfl ⟨_, _, _, _, rfl, I3, (fr1.up (by decide) fr1.rf), fr2.rf, show wr A0 ∧ wq A0 ∧ (A0 2) 2 = A0 2 2 ∧ (∀ q : Int, 2600 ≤ q → (A0 1) q = A0 1 q) from ⟨p5, p6, rfl, fun q _ => rfl⟩⟩
            · refine k_sw 215 rfl (by unfold am_tb; rw [b655]; decide) ?_
              refine k_aload 216 rfl rfl rfl ?_
              refine k_iload 217 rfl rfl rfl ?_
              refine k_push 219 rfl rfl ?_
              have hc771 : (16 : Int32).toInt = 16 := by decide
              obtain ⟨x772, q773⟩ : ∃ q : Int32, q = (w1 - (16 : Int32)) := ⟨_, rfl⟩
              have e774 : x772.toInt = w1.toInt - 16 := by rw [q773, iv_sub (by omega) (by omega)]; omega
              refine k_bin x772 220 rfl q773.symm rfl ?_
              refine k_rq I3 rfl (m_ofKind  I3.1 (show 1 ≤ (F0 28) ∧ (F0 28) ≤ 400 by omega)) rfl rfl rfl I3.rc ?_
              rintro x775 h776 F777 A778 I779 ⟨k781, k782, p780⟩
              have k781 := fr1.nil k781
              subst k781
              have k782 := fr2.nil k782
              subst k782
              show am_Ok _ _ _ (223, _, [.inl x775], _, 0, 0) _
              exact k_fin rfl rfl ⟨_, _, _, _, rfl, I779, (fr1.up (by decide) fr1.rf), fr2.rf, show wr A0 ∧ wq A0 ∧ (A0 2) 2 = A0 2 2 ∧ (∀ q : Int, 2600 ≤ q → (A0 1) q = A0 1 q) from ⟨p5, p6, rfl, fun q _ => rfl⟩⟩
            · refine k_sw 215 rfl (by unfold am_tb; rw [b655]; decide) ?_
              refine k_aload 216 rfl rfl rfl ?_
              refine k_iload 217 rfl rfl rfl ?_
              refine k_push 219 rfl rfl ?_
              have hc783 : (16 : Int32).toInt = 16 := by decide
              obtain ⟨x784, q785⟩ : ∃ q : Int32, q = (w1 - (16 : Int32)) := ⟨_, rfl⟩
              have e786 : x784.toInt = w1.toInt - 16 := by rw [q785, iv_sub (by omega) (by omega)]; omega
              refine k_bin x784 220 rfl q785.symm rfl ?_
              refine k_rq I3 rfl (m_ofKind  I3.1 (show 1 ≤ (F0 28) ∧ (F0 28) ≤ 400 by omega)) rfl rfl rfl I3.rc ?_
              rintro x787 h788 F789 A790 I791 ⟨k793, k794, p792⟩
              have k793 := fr1.nil k793
              subst k793
              have k794 := fr2.nil k794
              subst k794
              show am_Ok _ _ _ (223, _, [.inl x787], _, 0, 0) _
              exact k_fin rfl rfl ⟨_, _, _, _, rfl, I791, (fr1.up (by decide) fr1.rf), fr2.rf, show wr A0 ∧ wq A0 ∧ (A0 2) 2 = A0 2 2 ∧ (∀ q : Int, 2600 ≤ q → (A0 1) q = A0 1 q) from ⟨p5, p6, rfl, fun q _ => rfl⟩⟩
            · refine k_sw 215 rfl (by unfold am_tb; rw [b655]; decide) ?_
              refine k_aload 216 rfl rfl rfl ?_
              refine k_iload 217 rfl rfl rfl ?_
              refine k_push 219 rfl rfl ?_
              have hc795 : (16 : Int32).toInt = 16 := by decide
              obtain ⟨x796, q797⟩ : ∃ q : Int32, q = (w1 - (16 : Int32)) := ⟨_, rfl⟩
              have e798 : x796.toInt = w1.toInt - 16 := by rw [q797, iv_sub (by omega) (by omega)]; omega
              refine k_bin x796 220 rfl q797.symm rfl ?_
              refine k_rq I3 rfl (m_ofKind  I3.1 (show 1 ≤ (F0 28) ∧ (F0 28) ≤ 400 by omega)) rfl rfl rfl I3.rc ?_
              rintro x799 h800 F801 A802 I803 ⟨k805, k806, p804⟩
              have k805 := fr1.nil k805
              subst k805
              have k806 := fr2.nil k806
              subst k806
              show am_Ok _ _ _ (223, _, [.inl x799], _, 0, 0) _
              exact k_fin rfl rfl ⟨_, _, _, _, rfl, I803, (fr1.up (by decide) fr1.rf), fr2.rf, show wr A0 ∧ wq A0 ∧ (A0 2) 2 = A0 2 2 ∧ (∀ q : Int, 2600 ≤ q → (A0 1) q = A0 1 q) from ⟨p5, p6, rfl, fun q _ => rfl⟩⟩
            · refine k_sw 215 rfl (by unfold am_tb; rw [b655]; decide) ?_
              refine k_aload 216 rfl rfl rfl ?_
              refine k_iload 217 rfl rfl rfl ?_
              refine k_push 219 rfl rfl ?_
              have hc807 : (16 : Int32).toInt = 16 := by decide
              obtain ⟨x808, q809⟩ : ∃ q : Int32, q = (w1 - (16 : Int32)) := ⟨_, rfl⟩
              have e810 : x808.toInt = w1.toInt - 16 := by rw [q809, iv_sub (by omega) (by omega)]; omega
              refine k_bin x808 220 rfl q809.symm rfl ?_
              refine k_rq I3 rfl (m_ofKind  I3.1 (show 1 ≤ (F0 28) ∧ (F0 28) ≤ 400 by omega)) rfl rfl rfl I3.rc ?_
              rintro x811 h812 F813 A814 I815 ⟨k817, k818, p816⟩
              have k817 := fr1.nil k817
              subst k817
              have k818 := fr2.nil k818
              subst k818
              show am_Ok _ _ _ (223, _, [.inl x811], _, 0, 0) _
              exact k_fin rfl rfl ⟨_, _, _, _, rfl, I815, (fr1.up (by decide) fr1.rf), fr2.rf, show wr A0 ∧ wq A0 ∧ (A0 2) 2 = A0 2 2 ∧ (∀ q : Int, 2600 ≤ q → (A0 1) q = A0 1 q) from ⟨p5, p6, rfl, fun q _ => rfl⟩⟩
            · refine k_sw 215 rfl (by unfold am_tb; rw [b655]; decide) ?_
              refine k_aload 216 rfl rfl rfl ?_
              refine k_iload 217 rfl rfl rfl ?_
              refine k_push 219 rfl rfl ?_
              have hc819 : (16 : Int32).toInt = 16 := by decide
              obtain ⟨x820, q821⟩ : ∃ q : Int32, q = (w1 - (16 : Int32)) := ⟨_, rfl⟩
              have e822 : x820.toInt = w1.toInt - 16 := by rw [q821, iv_sub (by omega) (by omega)]; omega
              refine k_bin x820 220 rfl q821.symm rfl ?_
              refine k_rq I3 rfl (m_ofKind  I3.1 (show 1 ≤ (F0 28) ∧ (F0 28) ≤ 400 by omega)) rfl rfl rfl I3.rc ?_
              rintro x823 h824 F825 A826 I827 ⟨k829, k830, p828⟩
              have k829 := fr1.nil k829
              subst k829
              have k830 := fr2.nil k830
              subst k830
              show am_Ok _ _ _ (223, _, [.inl x823], _, 0, 0) _
              exact k_fin rfl rfl ⟨_, _, _, _, rfl, I827, (fr1.up (by decide) fr1.rf), fr2.rf, show wr A0 ∧ wq A0 ∧ (A0 2) 2 = A0 2 2 ∧ (∀ q : Int, 2600 ≤ q → (A0 1) q = A0 1 q) from ⟨p5, p6, rfl, fun q _ => rfl⟩⟩
            · refine k_sw 215 rfl (by unfold am_tb; rw [b655]; decide) ?_
              refine k_aload 216 rfl rfl rfl ?_
              refine k_iload 217 rfl rfl rfl ?_
              refine k_push 219 rfl rfl ?_
              have hc831 : (16 : Int32).toInt = 16 := by decide
              obtain ⟨x832, q833⟩ : ∃ q : Int32, q = (w1 - (16 : Int32)) := ⟨_, rfl⟩
              have e834 : x832.toInt = w1.toInt - 16 := by rw [q833, iv_sub (by omega) (by omega)]; omega
              refine k_bin x832 220 rfl q833.symm rfl ?_
              refine k_rq I3 rfl (m_ofKind  I3.1 (show 1 ≤ (F0 28) ∧ (F0 28) ≤ 400 by omega)) rfl rfl rfl I3.rc ?_
              rintro x835 h836 F837 A838 I839 ⟨k841, k842, p840⟩
              have k841 := fr1.nil k841
              subst k841
              have k842 := fr2.nil k842
              subst k842
              show am_Ok _ _ _ (223, _, [.inl x835], _, 0, 0) _
              exact k_fin rfl rfl ⟨_, _, _, _, rfl, I839, (fr1.up (by decide) fr1.rf), fr2.rf, show wr A0 ∧ wq A0 ∧ (A0 2) 2 = A0 2 2 ∧ (∀ q : Int, 2600 ≤ q → (A0 1) q = A0 1 q) from ⟨p5, p6, rfl, fun q _ => rfl⟩⟩
            · refine k_sw 215 rfl (by unfold am_tb; rw [b655]; decide) ?_
              refine k_aload 216 rfl rfl rfl ?_
              refine k_iload 217 rfl rfl rfl ?_
              refine k_push 219 rfl rfl ?_
              have hc843 : (16 : Int32).toInt = 16 := by decide
              obtain ⟨x844, q845⟩ : ∃ q : Int32, q = (w1 - (16 : Int32)) := ⟨_, rfl⟩
              have e846 : x844.toInt = w1.toInt - 16 := by rw [q845, iv_sub (by omega) (by omega)]; omega
              refine k_bin x844 220 rfl q845.symm rfl ?_
              refine k_rq I3 rfl (m_ofKind  I3.1 (show 1 ≤ (F0 28) ∧ (F0 28) ≤ 400 by omega)) rfl rfl rfl I3.rc ?_
              rintro x847 h848 F849 A850 I851 ⟨k853, k854, p852⟩
              have k853 := fr1.nil k853
              subst k853
              have k854 := fr2.nil k854
              subst k854
              show am_Ok _ _ _ (223, _, [.inl x847], _, 0, 0) _
              exact k_fin rfl rfl ⟨_, _, _, _, rfl, I851, (fr1.up (by decide) fr1.rf), fr2.rf, show wr A0 ∧ wq A0 ∧ (A0 2) 2 = A0 2 2 ∧ (∀ q : Int, 2600 ≤ q → (A0 1) q = A0 1 q) from ⟨p5, p6, rfl, fun q _ => rfl⟩⟩
            · refine k_sw 161 rfl (by unfold am_tb; rw [b655]; decide) ?_
              refine k_aload 162 rfl rfl rfl ?_
              refine k_iload 163 rfl rfl rfl ?_
              refine k_rq I3 rfl (m_readCount (lm := lm) (gT := gT) I3.1 (show nn ((A0 24)) ((A0 25)) ((F0 28)) (gT) from p1) (show nw ((A0 24)) ((A0 25)) ((A0 26)) (lm) ((F0 28)) from p2) (show wr A0 from p5) (show wq A0 from p6)) rfl rfl rfl I3.rc ?_
              rintro x855 h856 F857 A858 I859 ⟨k861, k862, p860⟩
              replace p860 : wr A858 ∧ wq A858 ∧ A858 2 2 = (A0 2) 2 ∧ (∀ q : Int, 2600 ≤ q → A858 1 q = (A0 1) q) := p860
              obtain ⟨p860a, p860b, p860c, p860d⟩ := p860
              show am_Ok _ _ _ (166, _, [.inl x855], _, 0, 0) _
              exact k_fin rfl rfl ⟨_, _, _, _, rfl, I859, (fr1.tr (by decide) (fr1.up (by decide) fr1.rf) k861), (fr2.tr (by decide) fr2.rf k862), ⟨p860a, p860b, p860c, p860d⟩⟩
        · refine k_c1 27 rfl rfl (if_neg b654) ?_
          have b654 := mt iv_eq0.mpr b654
          refine k_push 28 rfl rfl ?_
          refine k_fin rfl (fin_Z (Or.inl rfl)) ⟨_, _, rfl, rf_len I3 I3, ?_⟩
          show am_Ok _ _ _ (17, _, [.inl (0 : Int32)], _, 0, 0) _
          refine k_c1 20 rfl rfl (if_pos (by decide)) ?_
          refine k_push 21 rfl rfl ?_
          exact k_fin rfl rfl ⟨_, _, _, _, rfl, I3, (fr1.up (by decide) fr1.rf), fr2.rf, show wr A0 ∧ wq A0 ∧ (A0 2) 2 = A0 2 2 ∧ (∀ q : Int, 2600 ≤ q → (A0 1) q = A0 1 q) from ⟨p5, p6, rfl, fun q _ => rfl⟩⟩
    · refine k_c2 10 rfl rfl (if_neg b434) ?_
      have b434 := mt iv_lt.mpr b434
      refine k_push 11 rfl rfl ?_
      have hc863 : (1 : Int32).toInt = 1 := by decide
      refine k_goto 15 rfl rfl ?_
      refine k_fin rfl (fin_Z (Or.inr rfl)) ⟨_, _, rfl, rf_len I3 I3, ?_⟩
      show am_Ok _ _ _ (13, _, [.inl (1 : Int32), .inr (.inr (some 81))], _, 0, 0) _
      refine k_push 14 rfl rfl ?_
      refine k_in (d := 0) rfl rfl rfl rfl I3.rc ?_
      refine k_aload 1 rfl rfl rfl ?_
      refine r_gI I3 4 rfl rfl rfl (fun x864 (e865 : x864.toInt = (0 : Int32).toInt) => ?_)
      by_cases b866 : x864 = 0
      · refine k_c1 7 rfl rfl (if_pos b866) ?_
        have b866 := iv_eq0.mp b866
        refine k_iload 8 rfl rfl rfl ?_
        refine k_c1 16 rfl rfl (if_neg (by decide)) ?_
        refine k_aload 17 rfl rfl rfl ?_
        refine r_gI I3 20 rfl rfl rfl (fun x867 (e868 : x867.toInt = (0 : Int32).toInt) => ?_)
        by_cases b869 : x867 = 0
        · refine k_c1 23 rfl rfl (if_pos b869) ?_
          have b869 := iv_eq0.mp b869
          refine k_push 24 rfl rfl ?_
          refine k_goto 28 rfl rfl ?_
          refine k_fin rfl (fin_Z (Or.inr rfl)) ⟨_, _, rfl, rf_len I3 I3, ?_⟩
          show am_Ok _ _ _ (17, _, [.inl (1 : Int32)], _, 0, 0) _
          refine k_c1 22 rfl rfl (if_neg (by decide)) ?_
          refine k_iload 23 rfl rfl rfl ?_
          by_cases b870 : w1.toInt < 0 ∨ 23 < w1.toInt
          · refine k_sw 215 rfl (if_pos b870) ?_
            refine k_aload 216 rfl rfl rfl ?_
            refine k_iload 217 rfl rfl rfl ?_
            refine k_push 219 rfl rfl ?_
            have hc871 : (16 : Int32).toInt = 16 := by decide
            obtain ⟨x872, q873⟩ : ∃ q : Int32, q = (w1 - (16 : Int32)) := ⟨_, rfl⟩
            have e874 : x872.toInt = w1.toInt - 16 := by rw [q873, iv_sub (by omega) (by omega)]; omega
            refine k_bin x872 220 rfl q873.symm rfl ?_
            refine k_rq I3 rfl (m_ofKind  I3.1 (show 1 ≤ (F0 28) ∧ (F0 28) ≤ 400 by omega)) rfl rfl rfl I3.rc ?_
            rintro x875 h876 F877 A878 I879 ⟨k881, k882, p880⟩
            have k881 := fr1.nil k881
            subst k881
            have k882 := fr2.nil k882
            subst k882
            show am_Ok _ _ _ (223, _, [.inl x875], _, 0, 0) _
            exact k_fin rfl rfl ⟨_, _, _, _, rfl, I879, (fr1.up (by decide) fr1.rf), fr2.rf, show wr A0 ∧ wq A0 ∧ (A0 2) 2 = A0 2 2 ∧ (∀ q : Int, 2600 ≤ q → (A0 1) q = A0 1 q) from ⟨p5, p6, rfl, fun q _ => rfl⟩⟩
          · have b870 : w1.toInt = 0 ∨ w1.toInt = 1 ∨ w1.toInt = 2 ∨ w1.toInt = 3 ∨ w1.toInt = 4 ∨ w1.toInt = 5 ∨ w1.toInt = 6 ∨ w1.toInt = 7 ∨ w1.toInt = 8 ∨ w1.toInt = 9 ∨ w1.toInt = 10 ∨ w1.toInt = 11 ∨ w1.toInt = 12 ∨ w1.toInt = 13 ∨ w1.toInt = 14 ∨ w1.toInt = 15 ∨ w1.toInt = 16 ∨ w1.toInt = 17 ∨ w1.toInt = 18 ∨ w1.toInt = 19 ∨ w1.toInt = 20 ∨ w1.toInt = 21 ∨ w1.toInt = 22 ∨ w1.toInt = 23 := by omega
            rcases b870 with b870 | b870 | b870 | b870 | b870 | b870 | b870 | b870 | b870 | b870 | b870 | b870 | b870 | b870 | b870 | b870 | b870 | b870 | b870 | b870 | b870 | b870 | b870 | b870
            · refine k_sw 132 rfl (by unfold am_tb; rw [b870]; decide) ?_
              refine k_aload 133 rfl rfl rfl ?_
              refine r_gI I3 136 rfl rfl rfl (fun x883 (e884 : x883.toInt = F0 27) => ?_)
              exact k_fin rfl rfl ⟨_, _, _, _, rfl, I3, (fr1.up (by decide) fr1.rf), fr2.rf, show wr A0 ∧ wq A0 ∧ (A0 2) 2 = A0 2 2 ∧ (∀ q : Int, 2600 ≤ q → (A0 1) q = A0 1 q) from ⟨p5, p6, rfl, fun q _ => rfl⟩⟩
            · refine k_sw 137 rfl (by unfold am_tb; rw [b870]; decide) ?_
              refine k_aload 138 rfl rfl rfl ?_
              refine k_rq I3 rfl (m_activeMany (lm := lm) (gT := gT) I3.1 (show nn ((A0 24)) ((A0 25)) ((F0 28)) (gT) from p1) (show nw ((A0 24)) ((A0 25)) ((A0 26)) (lm) ((F0 28)) from p2)) rfl rfl rfl I3.rc ?_
              rintro x885 h886 F887 A888 I889 ⟨k891, k892, p890⟩
              replace p890 : 0 ≤ x885.toInt ∧ x885.toInt ≤ (F0 28) := p890
              have k891 := fr1.nil k891
              subst k891
              have k892 := fr2.nil k892
              subst k892
              show am_Ok _ _ _ (141, _, [.inl x885], _, 0, 0) _
              exact k_fin rfl rfl ⟨_, _, _, _, rfl, I889, (fr1.up (by decide) fr1.rf), fr2.rf, show wr A0 ∧ wq A0 ∧ (A0 2) 2 = A0 2 2 ∧ (∀ q : Int, 2600 ≤ q → (A0 1) q = A0 1 q) from ⟨p5, p6, rfl, fun q _ => rfl⟩⟩
            · refine k_sw 142 rfl (by unfold am_tb; rw [b870]; decide) ?_
              refine k_aload 143 rfl rfl rfl ?_
              refine k_rq I3 rfl (m_greatestLevel  I3.1 (show 1 ≤ (F0 28) ∧ (F0 28) ≤ 400 by omega)) rfl rfl rfl I3.rc ?_
              rintro x893 h894 F895 A896 I897 ⟨k899, k900, p898⟩
              have k899 := fr1.nil k899
              subst k899
              have k900 := fr2.nil k900
              subst k900
              show am_Ok _ _ _ (146, _, [.inl x893], _, 0, 0) _
              exact k_fin rfl rfl ⟨_, _, _, _, rfl, I897, (fr1.up (by decide) fr1.rf), fr2.rf, show wr A0 ∧ wq A0 ∧ (A0 2) 2 = A0 2 2 ∧ (∀ q : Int, 2600 ≤ q → (A0 1) q = A0 1 q) from ⟨p5, p6, rfl, fun q _ => rfl⟩⟩
            · refine k_sw 147 rfl (by unfold am_tb; rw [b870]; decide) ?_
              refine k_aload 148 rfl rfl rfl ?_
              refine r_gA I3 151 rfl rfl rfl ?_
              refine k_iload 152 rfl rfl rfl ?_
              refine k_push 153 rfl rfl ?_
              have hc901 : (3 : Int32).toInt = 3 := by decide
              obtain ⟨x902, q903⟩ : ∃ q : Int32, q = (w1 - (3 : Int32)) := ⟨_, rfl⟩
              have e904 : x902.toInt = w1.toInt - 3 := by rw [q903, iv_sub (by omega) (by omega)]; omega
              refine k_bin x902 154 rfl q903.symm rfl ?_
              refine r_ld 31 I3 155 rfl rfl (by omega) (show x902.toInt < 6 by omega) rfl (fun x905 (e906 : x905.toInt = A0 31 x902.toInt) => ?_)
              rw [e904] at e906
              exact k_fin rfl rfl ⟨_, _, _, _, rfl, I3, (fr1.up (by decide) fr1.rf), fr2.rf, show wr A0 ∧ wq A0 ∧ (A0 2) 2 = A0 2 2 ∧ (∀ q : Int, 2600 ≤ q → (A0 1) q = A0 1 q) from ⟨p5, p6, rfl, fun q _ => rfl⟩⟩
            · refine k_sw 147 rfl (by unfold am_tb; rw [b870]; decide) ?_
              refine k_aload 148 rfl rfl rfl ?_
              refine r_gA I3 151 rfl rfl rfl ?_
              refine k_iload 152 rfl rfl rfl ?_
              refine k_push 153 rfl rfl ?_
              have hc907 : (3 : Int32).toInt = 3 := by decide
              obtain ⟨x908, q909⟩ : ∃ q : Int32, q = (w1 - (3 : Int32)) := ⟨_, rfl⟩
              have e910 : x908.toInt = w1.toInt - 3 := by rw [q909, iv_sub (by omega) (by omega)]; omega
              refine k_bin x908 154 rfl q909.symm rfl ?_
              refine r_ld 31 I3 155 rfl rfl (by omega) (show x908.toInt < 6 by omega) rfl (fun x911 (e912 : x911.toInt = A0 31 x908.toInt) => ?_)
              rw [e910] at e912
              exact k_fin rfl rfl ⟨_, _, _, _, rfl, I3, (fr1.up (by decide) fr1.rf), fr2.rf, show wr A0 ∧ wq A0 ∧ (A0 2) 2 = A0 2 2 ∧ (∀ q : Int, 2600 ≤ q → (A0 1) q = A0 1 q) from ⟨p5, p6, rfl, fun q _ => rfl⟩⟩
            · refine k_sw 147 rfl (by unfold am_tb; rw [b870]; decide) ?_
              refine k_aload 148 rfl rfl rfl ?_
              refine r_gA I3 151 rfl rfl rfl ?_
              refine k_iload 152 rfl rfl rfl ?_
              refine k_push 153 rfl rfl ?_
              have hc913 : (3 : Int32).toInt = 3 := by decide
              obtain ⟨x914, q915⟩ : ∃ q : Int32, q = (w1 - (3 : Int32)) := ⟨_, rfl⟩
              have e916 : x914.toInt = w1.toInt - 3 := by rw [q915, iv_sub (by omega) (by omega)]; omega
              refine k_bin x914 154 rfl q915.symm rfl ?_
              refine r_ld 31 I3 155 rfl rfl (by omega) (show x914.toInt < 6 by omega) rfl (fun x917 (e918 : x917.toInt = A0 31 x914.toInt) => ?_)
              rw [e916] at e918
              exact k_fin rfl rfl ⟨_, _, _, _, rfl, I3, (fr1.up (by decide) fr1.rf), fr2.rf, show wr A0 ∧ wq A0 ∧ (A0 2) 2 = A0 2 2 ∧ (∀ q : Int, 2600 ≤ q → (A0 1) q = A0 1 q) from ⟨p5, p6, rfl, fun q _ => rfl⟩⟩
            · refine k_sw 147 rfl (by unfold am_tb; rw [b870]; decide) ?_
              refine k_aload 148 rfl rfl rfl ?_
              refine r_gA I3 151 rfl rfl rfl ?_
              refine k_iload 152 rfl rfl rfl ?_
              refine k_push 153 rfl rfl ?_
              have hc919 : (3 : Int32).toInt = 3 := by decide
              obtain ⟨x920, q921⟩ : ∃ q : Int32, q = (w1 - (3 : Int32)) := ⟨_, rfl⟩
              have e922 : x920.toInt = w1.toInt - 3 := by rw [q921, iv_sub (by omega) (by omega)]; omega
              refine k_bin x920 154 rfl q921.symm rfl ?_
              refine r_ld 31 I3 155 rfl rfl (by omega) (show x920.toInt < 6 by omega) rfl (fun x923 (e924 : x923.toInt = A0 31 x920.toInt) => ?_)
              rw [e922] at e924
              exact k_fin rfl rfl ⟨_, _, _, _, rfl, I3, (fr1.up (by decide) fr1.rf), fr2.rf, show wr A0 ∧ wq A0 ∧ (A0 2) 2 = A0 2 2 ∧ (∀ q : Int, 2600 ≤ q → (A0 1) q = A0 1 q) from ⟨p5, p6, rfl, fun q _ => rfl⟩⟩
            · refine k_sw 147 rfl (by unfold am_tb; rw [b870]; decide) ?_
              refine k_aload 148 rfl rfl rfl ?_
              refine r_gA I3 151 rfl rfl rfl ?_
              refine k_iload 152 rfl rfl rfl ?_
              refine k_push 153 rfl rfl ?_
              have hc925 : (3 : Int32).toInt = 3 := by decide
              obtain ⟨x926, q927⟩ : ∃ q : Int32, q = (w1 - (3 : Int32)) := ⟨_, rfl⟩
              have e928 : x926.toInt = w1.toInt - 3 := by rw [q927, iv_sub (by omega) (by omega)]; omega
              refine k_bin x926 154 rfl q927.symm rfl ?_
              refine r_ld 31 I3 155 rfl rfl (by omega) (show x926.toInt < 6 by omega) rfl (fun x929 (e930 : x929.toInt = A0 31 x926.toInt) => ?_)
              rw [e928] at e930
              exact k_fin rfl rfl ⟨_, _, _, _, rfl, I3, (fr1.up (by decide) fr1.rf), fr2.rf, show wr A0 ∧ wq A0 ∧ (A0 2) 2 = A0 2 2 ∧ (∀ q : Int, 2600 ≤ q → (A0 1) q = A0 1 q) from ⟨p5, p6, rfl, fun q _ => rfl⟩⟩
            · refine k_sw 147 rfl (by unfold am_tb; rw [b870]; decide) ?_
              refine k_aload 148 rfl rfl rfl ?_
              refine r_gA I3 151 rfl rfl rfl ?_
              refine k_iload 152 rfl rfl rfl ?_
              refine k_push 153 rfl rfl ?_
              have hc931 : (3 : Int32).toInt = 3 := by decide
              obtain ⟨x932, q933⟩ : ∃ q : Int32, q = (w1 - (3 : Int32)) := ⟨_, rfl⟩
              have e934 : x932.toInt = w1.toInt - 3 := by rw [q933, iv_sub (by omega) (by omega)]; omega
              refine k_bin x932 154 rfl q933.symm rfl ?_
              refine r_ld 31 I3 155 rfl rfl (by omega) (show x932.toInt < 6 by omega) rfl (fun x935 (e936 : x935.toInt = A0 31 x932.toInt) => ?_)
              rw [e934] at e936
              exact k_fin rfl rfl ⟨_, _, _, _, rfl, I3, (fr1.up (by decide) fr1.rf), fr2.rf, show wr A0 ∧ wq A0 ∧ (A0 2) 2 = A0 2 2 ∧ (∀ q : Int, 2600 ≤ q → (A0 1) q = A0 1 q) from ⟨p5, p6, rfl, fun q _ => rfl⟩⟩
            · refine k_sw 156 rfl (by unfold am_tb; rw [b870]; decide) ?_
              refine k_aload 157 rfl rfl rfl ?_
              refine r_gI I3 160 rfl rfl rfl (fun x937 (e938 : x937.toInt = F0 32) => ?_)
              exact k_fin rfl rfl ⟨_, _, _, _, rfl, I3, (fr1.up (by decide) fr1.rf), fr2.rf, show wr A0 ∧ wq A0 ∧ (A0 2) 2 = A0 2 2 ∧ (∀ q : Int, 2600 ≤ q → (A0 1) q = A0 1 q) from ⟨p5, p6, rfl, fun q _ => rfl⟩⟩
            · refine k_sw 161 rfl (by unfold am_tb; rw [b870]; decide) ?_
              refine k_aload 162 rfl rfl rfl ?_
              refine k_iload 163 rfl rfl rfl ?_
              refine k_rq I3 rfl (m_readCount (lm := lm) (gT := gT) I3.1 (show nn ((A0 24)) ((A0 25)) ((F0 28)) (gT) from p1) (show nw ((A0 24)) ((A0 25)) ((A0 26)) (lm) ((F0 28)) from p2) (show wr A0 from p5) (show wq A0 from p6)) rfl rfl rfl I3.rc ?_
              rintro x939 h940 F941 A942 I943 ⟨k945, k946, p944⟩
              replace p944 : wr A942 ∧ wq A942 ∧ A942 2 2 = (A0 2) 2 ∧ (∀ q : Int, 2600 ≤ q → A942 1 q = (A0 1) q) := p944
              obtain ⟨p944a, p944b, p944c, p944d⟩ := p944
              show am_Ok _ _ _ (166, _, [.inl x939], _, 0, 0) _
              exact k_fin rfl rfl ⟨_, _, _, _, rfl, I943, (fr1.tr (by decide) (fr1.up (by decide) fr1.rf) k945), (fr2.tr (by decide) fr2.rf k946), ⟨p944a, p944b, p944c, p944d⟩⟩
            · refine k_sw 161 rfl (by unfold am_tb; rw [b870]; decide) ?_
              refine k_aload 162 rfl rfl rfl ?_
              refine k_iload 163 rfl rfl rfl ?_
              refine k_rq I3 rfl (m_readCount (lm := lm) (gT := gT) I3.1 (show nn ((A0 24)) ((A0 25)) ((F0 28)) (gT) from p1) (show nw ((A0 24)) ((A0 25)) ((A0 26)) (lm) ((F0 28)) from p2) (show wr A0 from p5) (show wq A0 from p6)) rfl rfl rfl I3.rc ?_
              rintro x947 h948 F949 A950 I951 ⟨k953, k954, p952⟩
              replace p952 : wr A950 ∧ wq A950 ∧ A950 2 2 = (A0 2) 2 ∧ (∀ q : Int, 2600 ≤ q → A950 1 q = (A0 1) q) := p952
              obtain ⟨p952a, p952b, p952c, p952d⟩ := p952
              show am_Ok _ _ _ (166, _, [.inl x947], _, 0, 0) _
              exact k_fin rfl rfl ⟨_, _, _, _, rfl, I951, (fr1.tr (by decide) (fr1.up (by decide) fr1.rf) k953), (fr2.tr (by decide) fr2.rf k954), ⟨p952a, p952b, p952c, p952d⟩⟩
            · refine k_sw 167 rfl (by unfold am_tb; rw [b870]; decide) ?_
              refine k_aload 168 rfl rfl rfl ?_
              refine k_push 169 rfl rfl ?_
              refine k_rq I3 rfl (m_isTerm (lm := lm) (gT := gT) (gt := gt) I3.1 (show nn ((A0 24)) ((A0 25)) ((F0 28)) (gT) from p1) (show nw ((A0 24)) ((A0 25)) ((A0 26)) (lm) ((F0 28)) from p2) (show wr A0 from p5) (show wq A0 from p6) (show (A0 2) 2 = (gt) ∧ 1 ≤ (gt) ∧ (gt) ≤ 120 from p7) (show wf ((A0 1)) 2600 (gt) from p8) (show cb ((A0 1)) 2600 (gt) 200 from p9) (show 0 ≤ (1 : Int32).toInt ∧ (1 : Int32).toInt ≤ 2 by omega)) rfl rfl rfl I3.rc ?_
              rintro x955 h956 F957 A958 I959 ⟨k961, k962, p960⟩
              replace p960 : (x955.toInt = 0 ∨ x955.toInt = 1) ∧ (x955.toInt = 1 → ∃ n' : Nat, n' ≤ 1000 ∧ A958 2 (1 : Int32).toInt = n' ∧ wf (A958 1) (1300 * (1 : Int32).toInt) n') ∧ wr A958 ∧ wq A958 ∧ (∀ q : Int, q ≠ (1 : Int32).toInt → A958 2 q = (A0 2) q) ∧ (∀ q : Int, (0 ≤ q ∧ q < 1300 * (1 : Int32).toInt) ∨ 1300 * (1 : Int32).toInt + 1300 ≤ q → A958 1 q = (A0 1) q) ∧ A958 2 2 = (A0 2) 2 ∧ (∀ q : Int, 2600 ≤ q → A958 1 q = (A0 1) q) := p960
              obtain ⟨p960a, p960b, p960c, p960d, p960e, p960f, p960g, p960h⟩ := p960
              have z963 := iv_01 (x := x955) p960a
              show am_Ok _ _ _ (172, _, [.inl x955], _, 0, 0) _
              clear p960b
              by_cases b964 : x955 = 0
              · refine k_c1 182 rfl rfl (if_pos b964) ?_
                have b964 := iv_eq0.mp b964
                refine k_push 183 rfl rfl ?_
                have hc965 : (-1 : Int32).toInt = -1 := by decide
                exact k_fin rfl rfl ⟨_, _, _, _, rfl, I959, (fr1.tr (by decide) (fr1.up (by decide) fr1.rf) k961), (fr2.tr (by decide) fr2.rf k962), ⟨p960c, p960d, p960g, p960h⟩⟩
              · refine k_c1 175 rfl rfl (if_neg b964) ?_
                have b964 := mt iv_eq0.mpr b964
                refine k_aload 176 rfl rfl rfl ?_
                refine r_gI I959 179 rfl rfl rfl (fun x966 (e967 : x966.toInt = F957 70) => ?_)
                refine k_goto 183 rfl rfl ?_
                exact k_fin rfl rfl ⟨_, _, _, _, rfl, I959, (fr1.tr (by decide) (fr1.up (by decide) fr1.rf) k961), (fr2.tr (by decide) fr2.rf k962), ⟨p960c, p960d, p960g, p960h⟩⟩
            · refine k_sw 184 rfl (by unfold am_tb; rw [b870]; decide) ?_
              refine k_aload 185 rfl rfl rfl ?_
              refine k_push 186 rfl rfl ?_
              refine k_rq I3 rfl (m_isTerm (lm := lm) (gT := gT) (gt := gt) I3.1 (show nn ((A0 24)) ((A0 25)) ((F0 28)) (gT) from p1) (show nw ((A0 24)) ((A0 25)) ((A0 26)) (lm) ((F0 28)) from p2) (show wr A0 from p5) (show wq A0 from p6) (show (A0 2) 2 = (gt) ∧ 1 ≤ (gt) ∧ (gt) ≤ 120 from p7) (show wf ((A0 1)) 2600 (gt) from p8) (show cb ((A0 1)) 2600 (gt) 200 from p9) (show 0 ≤ (1 : Int32).toInt ∧ (1 : Int32).toInt ≤ 2 by omega)) rfl rfl rfl I3.rc ?_
              rintro x968 h969 F970 A971 I972 ⟨k974, k975, p973⟩
              replace p973 : (x968.toInt = 0 ∨ x968.toInt = 1) ∧ (x968.toInt = 1 → ∃ n' : Nat, n' ≤ 1000 ∧ A971 2 (1 : Int32).toInt = n' ∧ wf (A971 1) (1300 * (1 : Int32).toInt) n') ∧ wr A971 ∧ wq A971 ∧ (∀ q : Int, q ≠ (1 : Int32).toInt → A971 2 q = (A0 2) q) ∧ (∀ q : Int, (0 ≤ q ∧ q < 1300 * (1 : Int32).toInt) ∨ 1300 * (1 : Int32).toInt + 1300 ≤ q → A971 1 q = (A0 1) q) ∧ A971 2 2 = (A0 2) 2 ∧ (∀ q : Int, 2600 ≤ q → A971 1 q = (A0 1) q) := p973
              obtain ⟨p973a, p973b, p973c, p973d, p973e, p973f, p973g, p973h⟩ := p973
              have z976 := iv_01 (x := x968) p973a
              show am_Ok _ _ _ (189, _, [.inl x968], _, 0, 0) _
              clear p973b
              by_cases b977 : x968 = 0
              · refine k_c1 201 rfl rfl (if_pos b977) ?_
                have b977 := iv_eq0.mp b977
                refine k_push 202 rfl rfl ?_
                have hc978 : (-1 : Int32).toInt = -1 := by decide
                exact k_fin rfl rfl ⟨_, _, _, _, rfl, I972, (fr1.tr (by decide) (fr1.up (by decide) fr1.rf) k974), (fr2.tr (by decide) fr2.rf k975), ⟨p973c, p973d, p973g, p973h⟩⟩
              · refine k_c1 192 rfl rfl (if_neg b977) ?_
                have b977 := mt iv_eq0.mpr b977
                refine k_aload 193 rfl rfl rfl ?_
                refine r_gA I972 196 rfl rfl rfl ?_
                refine k_push 197 rfl rfl ?_
                refine r_ld 2 I972 198 rfl rfl (by omega) (show (1 : Int32).toInt < 3 by omega) rfl (fun x979 (e980 : x979.toInt = A971 2 (1 : Int32).toInt) => ?_)
                rw [hc863] at e980
                refine k_goto 202 rfl rfl ?_
                exact k_fin rfl rfl ⟨_, _, _, _, rfl, I972, (fr1.tr (by decide) (fr1.up (by decide) fr1.rf) k974), (fr2.tr (by decide) fr2.rf k975), ⟨p973c, p973d, p973g, p973h⟩⟩
            · refine k_sw 203 rfl (by unfold am_tb; rw [b870]; decide) ?_
              refine k_aload 204 rfl rfl rfl ?_
              refine r_gA I3 207 rfl rfl rfl ?_
              refine k_push 208 rfl rfl ?_
              have hc981 : (2 : Int32).toInt = 2 := by decide
              refine r_ld 2 I3 209 rfl rfl (by omega) (show (2 : Int32).toInt < 3 by omega) rfl (fun x982 (e983 : x982.toInt = A0 2 (2 : Int32).toInt) => ?_)
              rw [hc981] at e983
              exact k_fin rfl rfl ⟨_, _, _, _, rfl, I3, (fr1.up (by decide) fr1.rf), fr2.rf, show wr A0 ∧ wq A0 ∧ (A0 2) 2 = A0 2 2 ∧ (∀ q : Int, 2600 ≤ q → (A0 1) q = A0 1 q) from ⟨p5, p6, rfl, fun q _ => rfl⟩⟩
            · refine k_sw 210 rfl (by unfold am_tb; rw [b870]; decide) ?_
              refine k_aload 211 rfl rfl rfl ?_
              refine r_gI I3 214 rfl rfl rfl (fun x984 (e985 : x984.toInt = F0 4) => ?_)
              exact k_fin rfl rfl ⟨_, _, _, _, rfl, I3, (fr1.up (by decide) fr1.rf), fr2.rf, show wr A0 ∧ wq A0 ∧ (A0 2) 2 = A0 2 2 ∧ (∀ q : Int, 2600 ≤ q → (A0 1) q = A0 1 q) from ⟨p5, p6, rfl, fun q _ => rfl⟩⟩
            · refine k_sw 215 rfl (by unfold am_tb; rw [b870]; decide) ?_
              refine k_aload 216 rfl rfl rfl ?_
              refine k_iload 217 rfl rfl rfl ?_
              refine k_push 219 rfl rfl ?_
              have hc986 : (16 : Int32).toInt = 16 := by decide
              obtain ⟨x987, q988⟩ : ∃ q : Int32, q = (w1 - (16 : Int32)) := ⟨_, rfl⟩
              have e989 : x987.toInt = w1.toInt - 16 := by rw [q988, iv_sub (by omega) (by omega)]; omega
              refine k_bin x987 220 rfl q988.symm rfl ?_
              refine k_rq I3 rfl (m_ofKind  I3.1 (show 1 ≤ (F0 28) ∧ (F0 28) ≤ 400 by omega)) rfl rfl rfl I3.rc ?_
              rintro x990 h991 F992 A993 I994 ⟨k996, k997, p995⟩
              have k996 := fr1.nil k996
              subst k996
              have k997 := fr2.nil k997
              subst k997
              show am_Ok _ _ _ (223, _, [.inl x990], _, 0, 0) _
              exact k_fin rfl rfl ⟨_, _, _, _, rfl, I994, (fr1.up (by decide) fr1.rf), fr2.rf, show wr A0 ∧ wq A0 ∧ (A0 2) 2 = A0 2 2 ∧ (∀ q : Int, 2600 ≤ q → (A0 1) q = A0 1 q) from ⟨p5, p6, rfl, fun q _ => rfl⟩⟩
            · refine k_sw 215 rfl (by unfold am_tb; rw [b870]; decide) ?_
              refine k_aload 216 rfl rfl rfl ?_
              refine k_iload 217 rfl rfl rfl ?_
              refine k_push 219 rfl rfl ?_
              have hc998 : (16 : Int32).toInt = 16 := by decide
              obtain ⟨x999, q1000⟩ : ∃ q : Int32, q = (w1 - (16 : Int32)) := ⟨_, rfl⟩
              have e1001 : x999.toInt = w1.toInt - 16 := by rw [q1000, iv_sub (by omega) (by omega)]; omega
              refine k_bin x999 220 rfl q1000.symm rfl ?_
              refine k_rq I3 rfl (m_ofKind  I3.1 (show 1 ≤ (F0 28) ∧ (F0 28) ≤ 400 by omega)) rfl rfl rfl I3.rc ?_
              rintro x1002 h1003 F1004 A1005 I1006 ⟨k1008, k1009, p1007⟩
              have k1008 := fr1.nil k1008
              subst k1008
              have k1009 := fr2.nil k1009
              subst k1009
              show am_Ok _ _ _ (223, _, [.inl x1002], _, 0, 0) _
              exact k_fin rfl rfl ⟨_, _, _, _, rfl, I1006, (fr1.up (by decide) fr1.rf), fr2.rf, show wr A0 ∧ wq A0 ∧ (A0 2) 2 = A0 2 2 ∧ (∀ q : Int, 2600 ≤ q → (A0 1) q = A0 1 q) from ⟨p5, p6, rfl, fun q _ => rfl⟩⟩
            · refine k_sw 215 rfl (by unfold am_tb; rw [b870]; decide) ?_
              refine k_aload 216 rfl rfl rfl ?_
              refine k_iload 217 rfl rfl rfl ?_
              refine k_push 219 rfl rfl ?_
              have hc1010 : (16 : Int32).toInt = 16 := by decide
              obtain ⟨x1011, q1012⟩ : ∃ q : Int32, q = (w1 - (16 : Int32)) := ⟨_, rfl⟩
              have e1013 : x1011.toInt = w1.toInt - 16 := by rw [q1012, iv_sub (by omega) (by omega)]; omega
              refine k_bin x1011 220 rfl q1012.symm rfl ?_
              refine k_rq I3 rfl (m_ofKind  I3.1 (show 1 ≤ (F0 28) ∧ (F0 28) ≤ 400 by omega)) rfl rfl rfl I3.rc ?_
              rintro x1014 h1015 F1016 A1017 I1018 ⟨k1020, k1021, p1019⟩
              have k1020 := fr1.nil k1020
              subst k1020
              have k1021 := fr2.nil k1021
              subst k1021
              show am_Ok _ _ _ (223, _, [.inl x1014], _, 0, 0) _
              exact k_fin rfl rfl ⟨_, _, _, _, rfl, I1018, (fr1.up (by decide) fr1.rf), fr2.rf, show wr A0 ∧ wq A0 ∧ (A0 2) 2 = A0 2 2 ∧ (∀ q : Int, 2600 ≤ q → (A0 1) q = A0 1 q) from ⟨p5, p6, rfl, fun q _ => rfl⟩⟩
            · refine k_sw 215 rfl (by unfold am_tb; rw [b870]; decide) ?_
              refine k_aload 216 rfl rfl rfl ?_
              refine k_iload 217 rfl rfl rfl ?_
              refine k_push 219 rfl rfl ?_
              have hc1022 : (16 : Int32).toInt = 16 := by decide
              obtain ⟨x1023, q1024⟩ : ∃ q : Int32, q = (w1 - (16 : Int32)) := ⟨_, rfl⟩
              have e1025 : x1023.toInt = w1.toInt - 16 := by rw [q1024, iv_sub (by omega) (by omega)]; omega
              refine k_bin x1023 220 rfl q1024.symm rfl ?_
              refine k_rq I3 rfl (m_ofKind  I3.1 (show 1 ≤ (F0 28) ∧ (F0 28) ≤ 400 by omega)) rfl rfl rfl I3.rc ?_
              rintro x1026 h1027 F1028 A1029 I1030 ⟨k1032, k1033, p1031⟩
              have k1032 := fr1.nil k1032
              subst k1032
              have k1033 := fr2.nil k1033
              subst k1033
              show am_Ok _ _ _ (223, _, [.inl x1026], _, 0, 0) _
              exact k_fin rfl rfl ⟨_, _, _, _, rfl, I1030, (fr1.up (by decide) fr1.rf), fr2.rf, show wr A0 ∧ wq A0 ∧ (A0 2) 2 = A0 2 2 ∧ (∀ q : Int, 2600 ≤ q → (A0 1) q = A0 1 q) from ⟨p5, p6, rfl, fun q _ => rfl⟩⟩
            · refine k_sw 215 rfl (by unfold am_tb; rw [b870]; decide) ?_
              refine k_aload 216 rfl rfl rfl ?_
              refine k_iload 217 rfl rfl rfl ?_
              refine k_push 219 rfl rfl ?_
              have hc1034 : (16 : Int32).toInt = 16 := by decide
              obtain ⟨x1035, q1036⟩ : ∃ q : Int32, q = (w1 - (16 : Int32)) := ⟨_, rfl⟩
              have e1037 : x1035.toInt = w1.toInt - 16 := by rw [q1036, iv_sub (by omega) (by omega)]; omega
              refine k_bin x1035 220 rfl q1036.symm rfl ?_
              refine k_rq I3 rfl (m_ofKind  I3.1 (show 1 ≤ (F0 28) ∧ (F0 28) ≤ 400 by omega)) rfl rfl rfl I3.rc ?_
              rintro x1038 h1039 F1040 A1041 I1042 ⟨k1044, k1045, p1043⟩
              have k1044 := fr1.nil k1044
              subst k1044
              have k1045 := fr2.nil k1045
              subst k1045
              show am_Ok _ _ _ (223, _, [.inl x1038], _, 0, 0) _
              exact k_fin rfl rfl ⟨_, _, _, _, rfl, I1042, (fr1.up (by decide) fr1.rf), fr2.rf, show wr A0 ∧ wq A0 ∧ (A0 2) 2 = A0 2 2 ∧ (∀ q : Int, 2600 ≤ q → (A0 1) q = A0 1 q) from ⟨p5, p6, rfl, fun q _ => rfl⟩⟩
            · refine k_sw 215 rfl (by unfold am_tb; rw [b870]; decide) ?_
              refine k_aload 216 rfl rfl rfl ?_
              refine k_iload 217 rfl rfl rfl ?_
              refine k_push 219 rfl rfl ?_
              have hc1046 : (16 : Int32).toInt = 16 := by decide
              obtain ⟨x1047, q1048⟩ : ∃ q : Int32, q = (w1 - (16 : Int32)) := ⟨_, rfl⟩
              have e1049 : x1047.toInt = w1.toInt - 16 := by rw [q1048, iv_sub (by omega) (by omega)]; omega
              refine k_bin x1047 220 rfl q1048.symm rfl ?_
              refine k_rq I3 rfl (m_ofKind  I3.1 (show 1 ≤ (F0 28) ∧ (F0 28) ≤ 400 by omega)) rfl rfl rfl I3.rc ?_
              rintro x1050 h1051 F1052 A1053 I1054 ⟨k1056, k1057, p1055⟩
              have k1056 := fr1.nil k1056
              subst k1056
              have k1057 := fr2.nil k1057
              subst k1057
              show am_Ok _ _ _ (223, _, [.inl x1050], _, 0, 0) _
              exact k_fin rfl rfl ⟨_, _, _, _, rfl, I1054, (fr1.up (by decide) fr1.rf), fr2.rf, show wr A0 ∧ wq A0 ∧ (A0 2) 2 = A0 2 2 ∧ (∀ q : Int, 2600 ≤ q → (A0 1) q = A0 1 q) from ⟨p5, p6, rfl, fun q _ => rfl⟩⟩
            · refine k_sw 215 rfl (by unfold am_tb; rw [b870]; decide) ?_
              refine k_aload 216 rfl rfl rfl ?_
              refine k_iload 217 rfl rfl rfl ?_
              refine k_push 219 rfl rfl ?_
              have hc1058 : (16 : Int32).toInt = 16 := by decide
              obtain ⟨x1059, q1060⟩ : ∃ q : Int32, q = (w1 - (16 : Int32)) := ⟨_, rfl⟩
              have e1061 : x1059.toInt = w1.toInt - 16 := by rw [q1060, iv_sub (by omega) (by omega)]; omega
              refine k_bin x1059 220 rfl q1060.symm rfl ?_
              refine k_rq I3 rfl (m_ofKind  I3.1 (show 1 ≤ (F0 28) ∧ (F0 28) ≤ 400 by omega)) rfl rfl rfl I3.rc ?_
              rintro x1062 h1063 F1064 A1065 I1066 ⟨k1068, k1069, p1067⟩
              have k1068 := fr1.nil k1068
              subst k1068
              have k1069 := fr2.nil k1069
              subst k1069
              show am_Ok _ _ _ (223, _, [.inl x1062], _, 0, 0) _
              exact k_fin rfl rfl ⟨_, _, _, _, rfl, I1066, (fr1.up (by decide) fr1.rf), fr2.rf, show wr A0 ∧ wq A0 ∧ (A0 2) 2 = A0 2 2 ∧ (∀ q : Int, 2600 ≤ q → (A0 1) q = A0 1 q) from ⟨p5, p6, rfl, fun q _ => rfl⟩⟩
            · refine k_sw 161 rfl (by unfold am_tb; rw [b870]; decide) ?_
              refine k_aload 162 rfl rfl rfl ?_
              refine k_iload 163 rfl rfl rfl ?_
              refine k_rq I3 rfl (m_readCount (lm := lm) (gT := gT) I3.1 (show nn ((A0 24)) ((A0 25)) ((F0 28)) (gT) from p1) (show nw ((A0 24)) ((A0 25)) ((A0 26)) (lm) ((F0 28)) from p2) (show wr A0 from p5) (show wq A0 from p6)) rfl rfl rfl I3.rc ?_
              rintro x1070 h1071 F1072 A1073 I1074 ⟨k1076, k1077, p1075⟩
              replace p1075 : wr A1073 ∧ wq A1073 ∧ A1073 2 2 = (A0 2) 2 ∧ (∀ q : Int, 2600 ≤ q → A1073 1 q = (A0 1) q) := p1075
              obtain ⟨p1075a, p1075b, p1075c, p1075d⟩ := p1075
              show am_Ok _ _ _ (166, _, [.inl x1070], _, 0, 0) _
              exact k_fin rfl rfl ⟨_, _, _, _, rfl, I1074, (fr1.tr (by decide) (fr1.up (by decide) fr1.rf) k1076), (fr2.tr (by decide) fr2.rf k1077), ⟨p1075a, p1075b, p1075c, p1075d⟩⟩
        · refine k_c1 27 rfl rfl (if_neg b869) ?_
          have b869 := mt iv_eq0.mpr b869
          refine k_push 28 rfl rfl ?_
          refine k_fin rfl (fin_Z (Or.inl rfl)) ⟨_, _, rfl, rf_len I3 I3, ?_⟩
          show am_Ok _ _ _ (17, _, [.inl (0 : Int32)], _, 0, 0) _
          refine k_c1 20 rfl rfl (if_pos (by decide)) ?_
          refine k_push 21 rfl rfl ?_
          exact k_fin rfl rfl ⟨_, _, _, _, rfl, I3, (fr1.up (by decide) fr1.rf), fr2.rf, show wr A0 ∧ wq A0 ∧ (A0 2) 2 = A0 2 2 ∧ (∀ q : Int, 2600 ≤ q → (A0 1) q = A0 1 q) from ⟨p5, p6, rfl, fun q _ => rfl⟩⟩
      · refine k_c1 16 rfl rfl (if_neg b866) ?_
        have b866 := mt iv_eq0.mpr b866
        refine k_aload 17 rfl rfl rfl ?_
        refine r_gI I3 20 rfl rfl rfl (fun x1078 (e1079 : x1078.toInt = (0 : Int32).toInt) => ?_)
        by_cases b1080 : x1078 = 0
        · refine k_c1 23 rfl rfl (if_pos b1080) ?_
          have b1080 := iv_eq0.mp b1080
          refine k_push 24 rfl rfl ?_
          refine k_goto 28 rfl rfl ?_
          refine k_fin rfl (fin_Z (Or.inr rfl)) ⟨_, _, rfl, rf_len I3 I3, ?_⟩
          show am_Ok _ _ _ (17, _, [.inl (1 : Int32)], _, 0, 0) _
          refine k_c1 22 rfl rfl (if_neg (by decide)) ?_
          refine k_iload 23 rfl rfl rfl ?_
          by_cases b1081 : w1.toInt < 0 ∨ 23 < w1.toInt
          · refine k_sw 215 rfl (if_pos b1081) ?_
            refine k_aload 216 rfl rfl rfl ?_
            refine k_iload 217 rfl rfl rfl ?_
            refine k_push 219 rfl rfl ?_
            have hc1082 : (16 : Int32).toInt = 16 := by decide
            obtain ⟨x1083, q1084⟩ : ∃ q : Int32, q = (w1 - (16 : Int32)) := ⟨_, rfl⟩
            have e1085 : x1083.toInt = w1.toInt - 16 := by rw [q1084, iv_sub (by omega) (by omega)]; omega
            refine k_bin x1083 220 rfl q1084.symm rfl ?_
            refine k_rq I3 rfl (m_ofKind  I3.1 (show 1 ≤ (F0 28) ∧ (F0 28) ≤ 400 by omega)) rfl rfl rfl I3.rc ?_
            rintro x1086 h1087 F1088 A1089 I1090 ⟨k1092, k1093, p1091⟩
            have k1092 := fr1.nil k1092
            subst k1092
            have k1093 := fr2.nil k1093
            subst k1093
            show am_Ok _ _ _ (223, _, [.inl x1086], _, 0, 0) _
            exact k_fin rfl rfl ⟨_, _, _, _, rfl, I1090, (fr1.up (by decide) fr1.rf), fr2.rf, show wr A0 ∧ wq A0 ∧ (A0 2) 2 = A0 2 2 ∧ (∀ q : Int, 2600 ≤ q → (A0 1) q = A0 1 q) from ⟨p5, p6, rfl, fun q _ => rfl⟩⟩
          · have b1081 : w1.toInt = 0 ∨ w1.toInt = 1 ∨ w1.toInt = 2 ∨ w1.toInt = 3 ∨ w1.toInt = 4 ∨ w1.toInt = 5 ∨ w1.toInt = 6 ∨ w1.toInt = 7 ∨ w1.toInt = 8 ∨ w1.toInt = 9 ∨ w1.toInt = 10 ∨ w1.toInt = 11 ∨ w1.toInt = 12 ∨ w1.toInt = 13 ∨ w1.toInt = 14 ∨ w1.toInt = 15 ∨ w1.toInt = 16 ∨ w1.toInt = 17 ∨ w1.toInt = 18 ∨ w1.toInt = 19 ∨ w1.toInt = 20 ∨ w1.toInt = 21 ∨ w1.toInt = 22 ∨ w1.toInt = 23 := by omega
            rcases b1081 with b1081 | b1081 | b1081 | b1081 | b1081 | b1081 | b1081 | b1081 | b1081 | b1081 | b1081 | b1081 | b1081 | b1081 | b1081 | b1081 | b1081 | b1081 | b1081 | b1081 | b1081 | b1081 | b1081 | b1081
            · refine k_sw 132 rfl (by unfold am_tb; rw [b1081]; decide) ?_
              refine k_aload 133 rfl rfl rfl ?_
              refine r_gI I3 136 rfl rfl rfl (fun x1094 (e1095 : x1094.toInt = F0 27) => ?_)
              exact k_fin rfl rfl ⟨_, _, _, _, rfl, I3, (fr1.up (by decide) fr1.rf), fr2.rf, show wr A0 ∧ wq A0 ∧ (A0 2) 2 = A0 2 2 ∧ (∀ q : Int, 2600 ≤ q → (A0 1) q = A0 1 q) from ⟨p5, p6, rfl, fun q _ => rfl⟩⟩
            · refine k_sw 137 rfl (by unfold am_tb; rw [b1081]; decide) ?_
              refine k_aload 138 rfl rfl rfl ?_
              refine k_rq I3 rfl (m_activeMany (lm := lm) (gT := gT) I3.1 (show nn ((A0 24)) ((A0 25)) ((F0 28)) (gT) from p1) (show nw ((A0 24)) ((A0 25)) ((A0 26)) (lm) ((F0 28)) from p2)) rfl rfl rfl I3.rc ?_
              rintro x1096 h1097 F1098 A1099 I1100 ⟨k1102, k1103, p1101⟩
              replace p1101 : 0 ≤ x1096.toInt ∧ x1096.toInt ≤ (F0 28) := p1101
              have k1102 := fr1.nil k1102
              subst k1102
              have k1103 := fr2.nil k1103
              subst k1103
              show am_Ok _ _ _ (141, _, [.inl x1096], _, 0, 0) _
              exact k_fin rfl rfl ⟨_, _, _, _, rfl, I1100, (fr1.up (by decide) fr1.rf), fr2.rf, show wr A0 ∧ wq A0 ∧ (A0 2) 2 = A0 2 2 ∧ (∀ q : Int, 2600 ≤ q → (A0 1) q = A0 1 q) from ⟨p5, p6, rfl, fun q _ => rfl⟩⟩
            · refine k_sw 142 rfl (by unfold am_tb; rw [b1081]; decide) ?_
              refine k_aload 143 rfl rfl rfl ?_
              refine k_rq I3 rfl (m_greatestLevel  I3.1 (show 1 ≤ (F0 28) ∧ (F0 28) ≤ 400 by omega)) rfl rfl rfl I3.rc ?_
              rintro x1104 h1105 F1106 A1107 I1108 ⟨k1110, k1111, p1109⟩
              have k1110 := fr1.nil k1110
              subst k1110
              have k1111 := fr2.nil k1111
              subst k1111
              show am_Ok _ _ _ (146, _, [.inl x1104], _, 0, 0) _
              exact k_fin rfl rfl ⟨_, _, _, _, rfl, I1108, (fr1.up (by decide) fr1.rf), fr2.rf, show wr A0 ∧ wq A0 ∧ (A0 2) 2 = A0 2 2 ∧ (∀ q : Int, 2600 ≤ q → (A0 1) q = A0 1 q) from ⟨p5, p6, rfl, fun q _ => rfl⟩⟩
            · refine k_sw 147 rfl (by unfold am_tb; rw [b1081]; decide) ?_
              refine k_aload 148 rfl rfl rfl ?_
              refine r_gA I3 151 rfl rfl rfl ?_
              refine k_iload 152 rfl rfl rfl ?_
              refine k_push 153 rfl rfl ?_
              have hc1112 : (3 : Int32).toInt = 3 := by decide
              obtain ⟨x1113, q1114⟩ : ∃ q : Int32, q = (w1 - (3 : Int32)) := ⟨_, rfl⟩
              have e1115 : x1113.toInt = w1.toInt - 3 := by rw [q1114, iv_sub (by omega) (by omega)]; omega
              refine k_bin x1113 154 rfl q1114.symm rfl ?_
              refine r_ld 31 I3 155 rfl rfl (by omega) (show x1113.toInt < 6 by omega) rfl (fun x1116 (e1117 : x1116.toInt = A0 31 x1113.toInt) => ?_)
              rw [e1115] at e1117
              exact k_fin rfl rfl ⟨_, _, _, _, rfl, I3, (fr1.up (by decide) fr1.rf), fr2.rf, show wr A0 ∧ wq A0 ∧ (A0 2) 2 = A0 2 2 ∧ (∀ q : Int, 2600 ≤ q → (A0 1) q = A0 1 q) from ⟨p5, p6, rfl, fun q _ => rfl⟩⟩
            · refine k_sw 147 rfl (by unfold am_tb; rw [b1081]; decide) ?_
              refine k_aload 148 rfl rfl rfl ?_
              refine r_gA I3 151 rfl rfl rfl ?_
              refine k_iload 152 rfl rfl rfl ?_
              refine k_push 153 rfl rfl ?_
              have hc1118 : (3 : Int32).toInt = 3 := by decide
              obtain ⟨x1119, q1120⟩ : ∃ q : Int32, q = (w1 - (3 : Int32)) := ⟨_, rfl⟩
              have e1121 : x1119.toInt = w1.toInt - 3 := by rw [q1120, iv_sub (by omega) (by omega)]; omega
              refine k_bin x1119 154 rfl q1120.symm rfl ?_
              refine r_ld 31 I3 155 rfl rfl (by omega) (show x1119.toInt < 6 by omega) rfl (fun x1122 (e1123 : x1122.toInt = A0 31 x1119.toInt) => ?_)
              rw [e1121] at e1123
              exact k_fin rfl rfl ⟨_, _, _, _, rfl, I3, (fr1.up (by decide) fr1.rf), fr2.rf, show wr A0 ∧ wq A0 ∧ (A0 2) 2 = A0 2 2 ∧ (∀ q : Int, 2600 ≤ q → (A0 1) q = A0 1 q) from ⟨p5, p6, rfl, fun q _ => rfl⟩⟩
            · refine k_sw 147 rfl (by unfold am_tb; rw [b1081]; decide) ?_
              refine k_aload 148 rfl rfl rfl ?_
              refine r_gA I3 151 rfl rfl rfl ?_
              refine k_iload 152 rfl rfl rfl ?_
              refine k_push 153 rfl rfl ?_
              have hc1124 : (3 : Int32).toInt = 3 := by decide
              obtain ⟨x1125, q1126⟩ : ∃ q : Int32, q = (w1 - (3 : Int32)) := ⟨_, rfl⟩
              have e1127 : x1125.toInt = w1.toInt - 3 := by rw [q1126, iv_sub (by omega) (by omega)]; omega
              refine k_bin x1125 154 rfl q1126.symm rfl ?_
              refine r_ld 31 I3 155 rfl rfl (by omega) (show x1125.toInt < 6 by omega) rfl (fun x1128 (e1129 : x1128.toInt = A0 31 x1125.toInt) => ?_)
              rw [e1127] at e1129
              exact k_fin rfl rfl ⟨_, _, _, _, rfl, I3, (fr1.up (by decide) fr1.rf), fr2.rf, show wr A0 ∧ wq A0 ∧ (A0 2) 2 = A0 2 2 ∧ (∀ q : Int, 2600 ≤ q → (A0 1) q = A0 1 q) from ⟨p5, p6, rfl, fun q _ => rfl⟩⟩
            · refine k_sw 147 rfl (by unfold am_tb; rw [b1081]; decide) ?_
              refine k_aload 148 rfl rfl rfl ?_
              refine r_gA I3 151 rfl rfl rfl ?_
              refine k_iload 152 rfl rfl rfl ?_
              refine k_push 153 rfl rfl ?_
              have hc1130 : (3 : Int32).toInt = 3 := by decide
              obtain ⟨x1131, q1132⟩ : ∃ q : Int32, q = (w1 - (3 : Int32)) := ⟨_, rfl⟩
              have e1133 : x1131.toInt = w1.toInt - 3 := by rw [q1132, iv_sub (by omega) (by omega)]; omega
              refine k_bin x1131 154 rfl q1132.symm rfl ?_
              refine r_ld 31 I3 155 rfl rfl (by omega) (show x1131.toInt < 6 by omega) rfl (fun x1134 (e1135 : x1134.toInt = A0 31 x1131.toInt) => ?_)
              rw [e1133] at e1135
              exact k_fin rfl rfl ⟨_, _, _, _, rfl, I3, (fr1.up (by decide) fr1.rf), fr2.rf, show wr A0 ∧ wq A0 ∧ (A0 2) 2 = A0 2 2 ∧ (∀ q : Int, 2600 ≤ q → (A0 1) q = A0 1 q) from ⟨p5, p6, rfl, fun q _ => rfl⟩⟩
            · refine k_sw 147 rfl (by unfold am_tb; rw [b1081]; decide) ?_
              refine k_aload 148 rfl rfl rfl ?_
              refine r_gA I3 151 rfl rfl rfl ?_
              refine k_iload 152 rfl rfl rfl ?_
              refine k_push 153 rfl rfl ?_
              have hc1136 : (3 : Int32).toInt = 3 := by decide
              obtain ⟨x1137, q1138⟩ : ∃ q : Int32, q = (w1 - (3 : Int32)) := ⟨_, rfl⟩
              have e1139 : x1137.toInt = w1.toInt - 3 := by rw [q1138, iv_sub (by omega) (by omega)]; omega
              refine k_bin x1137 154 rfl q1138.symm rfl ?_
              refine r_ld 31 I3 155 rfl rfl (by omega) (show x1137.toInt < 6 by omega) rfl (fun x1140 (e1141 : x1140.toInt = A0 31 x1137.toInt) => ?_)
              rw [e1139] at e1141
              exact k_fin rfl rfl ⟨_, _, _, _, rfl, I3, (fr1.up (by decide) fr1.rf), fr2.rf, show wr A0 ∧ wq A0 ∧ (A0 2) 2 = A0 2 2 ∧ (∀ q : Int, 2600 ≤ q → (A0 1) q = A0 1 q) from ⟨p5, p6, rfl, fun q _ => rfl⟩⟩
            · refine k_sw 147 rfl (by unfold am_tb; rw [b1081]; decide) ?_
              refine k_aload 148 rfl rfl rfl ?_
              refine r_gA I3 151 rfl rfl rfl ?_
              refine k_iload 152 rfl rfl rfl ?_
              refine k_push 153 rfl rfl ?_
              have hc1142 : (3 : Int32).toInt = 3 := by decide
              obtain ⟨x1143, q1144⟩ : ∃ q : Int32, q = (w1 - (3 : Int32)) := ⟨_, rfl⟩
              have e1145 : x1143.toInt = w1.toInt - 3 := by rw [q1144, iv_sub (by omega) (by omega)]; omega
              refine k_bin x1143 154 rfl q1144.symm rfl ?_
              refine r_ld 31 I3 155 rfl rfl (by omega) (show x1143.toInt < 6 by omega) rfl (fun x1146 (e1147 : x1146.toInt = A0 31 x1143.toInt) => ?_)
              rw [e1145] at e1147
              exact k_fin rfl rfl ⟨_, _, _, _, rfl, I3, (fr1.up (by decide) fr1.rf), fr2.rf, show wr A0 ∧ wq A0 ∧ (A0 2) 2 = A0 2 2 ∧ (∀ q : Int, 2600 ≤ q → (A0 1) q = A0 1 q) from ⟨p5, p6, rfl, fun q _ => rfl⟩⟩
            · refine k_sw 156 rfl (by unfold am_tb; rw [b1081]; decide) ?_
              refine k_aload 157 rfl rfl rfl ?_
              refine r_gI I3 160 rfl rfl rfl (fun x1148 (e1149 : x1148.toInt = F0 32) => ?_)
              exact k_fin rfl rfl ⟨_, _, _, _, rfl, I3, (fr1.up (by decide) fr1.rf), fr2.rf, show wr A0 ∧ wq A0 ∧ (A0 2) 2 = A0 2 2 ∧ (∀ q : Int, 2600 ≤ q → (A0 1) q = A0 1 q) from ⟨p5, p6, rfl, fun q _ => rfl⟩⟩
            · refine k_sw 161 rfl (by unfold am_tb; rw [b1081]; decide) ?_
              refine k_aload 162 rfl rfl rfl ?_
              refine k_iload 163 rfl rfl rfl ?_
              refine k_rq I3 rfl (m_readCount (lm := lm) (gT := gT) I3.1 (show nn ((A0 24)) ((A0 25)) ((F0 28)) (gT) from p1) (show nw ((A0 24)) ((A0 25)) ((A0 26)) (lm) ((F0 28)) from p2) (show wr A0 from p5) (show wq A0 from p6)) rfl rfl rfl I3.rc ?_
              rintro x1150 h1151 F1152 A1153 I1154 ⟨k1156, k1157, p1155⟩
              replace p1155 : wr A1153 ∧ wq A1153 ∧ A1153 2 2 = (A0 2) 2 ∧ (∀ q : Int, 2600 ≤ q → A1153 1 q = (A0 1) q) := p1155
              obtain ⟨p1155a, p1155b, p1155c, p1155d⟩ := p1155
              show am_Ok _ _ _ (166, _, [.inl x1150], _, 0, 0) _
              exact k_fin rfl rfl ⟨_, _, _, _, rfl, I1154, (fr1.tr (by decide) (fr1.up (by decide) fr1.rf) k1156), (fr2.tr (by decide) fr2.rf k1157), ⟨p1155a, p1155b, p1155c, p1155d⟩⟩
            · refine k_sw 161 rfl (by unfold am_tb; rw [b1081]; decide) ?_
              refine k_aload 162 rfl rfl rfl ?_
              refine k_iload 163 rfl rfl rfl ?_
              refine k_rq I3 rfl (m_readCount (lm := lm) (gT := gT) I3.1 (show nn ((A0 24)) ((A0 25)) ((F0 28)) (gT) from p1) (show nw ((A0 24)) ((A0 25)) ((A0 26)) (lm) ((F0 28)) from p2) (show wr A0 from p5) (show wq A0 from p6)) rfl rfl rfl I3.rc ?_
              rintro x1158 h1159 F1160 A1161 I1162 ⟨k1164, k1165, p1163⟩
              replace p1163 : wr A1161 ∧ wq A1161 ∧ A1161 2 2 = (A0 2) 2 ∧ (∀ q : Int, 2600 ≤ q → A1161 1 q = (A0 1) q) := p1163
              obtain ⟨p1163a, p1163b, p1163c, p1163d⟩ := p1163
              show am_Ok _ _ _ (166, _, [.inl x1158], _, 0, 0) _
              exact k_fin rfl rfl ⟨_, _, _, _, rfl, I1162, (fr1.tr (by decide) (fr1.up (by decide) fr1.rf) k1164), (fr2.tr (by decide) fr2.rf k1165), ⟨p1163a, p1163b, p1163c, p1163d⟩⟩
            · refine k_sw 167 rfl (by unfold am_tb; rw [b1081]; decide) ?_
              refine k_aload 168 rfl rfl rfl ?_
              refine k_push 169 rfl rfl ?_
              refine k_rq I3 rfl (m_isTerm (lm := lm) (gT := gT) (gt := gt) I3.1 (show nn ((A0 24)) ((A0 25)) ((F0 28)) (gT) from p1) (show nw ((A0 24)) ((A0 25)) ((A0 26)) (lm) ((F0 28)) from p2) (show wr A0 from p5) (show wq A0 from p6) (show (A0 2) 2 = (gt) ∧ 1 ≤ (gt) ∧ (gt) ≤ 120 from p7) (show wf ((A0 1)) 2600 (gt) from p8) (show cb ((A0 1)) 2600 (gt) 200 from p9) (show 0 ≤ (1 : Int32).toInt ∧ (1 : Int32).toInt ≤ 2 by omega)) rfl rfl rfl I3.rc ?_
              rintro x1166 h1167 F1168 A1169 I1170 ⟨k1172, k1173, p1171⟩
              replace p1171 : (x1166.toInt = 0 ∨ x1166.toInt = 1) ∧ (x1166.toInt = 1 → ∃ n' : Nat, n' ≤ 1000 ∧ A1169 2 (1 : Int32).toInt = n' ∧ wf (A1169 1) (1300 * (1 : Int32).toInt) n') ∧ wr A1169 ∧ wq A1169 ∧ (∀ q : Int, q ≠ (1 : Int32).toInt → A1169 2 q = (A0 2) q) ∧ (∀ q : Int, (0 ≤ q ∧ q < 1300 * (1 : Int32).toInt) ∨ 1300 * (1 : Int32).toInt + 1300 ≤ q → A1169 1 q = (A0 1) q) ∧ A1169 2 2 = (A0 2) 2 ∧ (∀ q : Int, 2600 ≤ q → A1169 1 q = (A0 1) q) := p1171
              obtain ⟨p1171a, p1171b, p1171c, p1171d, p1171e, p1171f, p1171g, p1171h⟩ := p1171
              have z1174 := iv_01 (x := x1166) p1171a
              show am_Ok _ _ _ (172, _, [.inl x1166], _, 0, 0) _
              clear p1171b
              by_cases b1175 : x1166 = 0
              · refine k_c1 182 rfl rfl (if_pos b1175) ?_
                have b1175 := iv_eq0.mp b1175
                refine k_push 183 rfl rfl ?_
                have hc1176 : (-1 : Int32).toInt = -1 := by decide
                exact k_fin rfl rfl ⟨_, _, _, _, rfl, I1170, (fr1.tr (by decide) (fr1.up (by decide) fr1.rf) k1172), (fr2.tr (by decide) fr2.rf k1173), ⟨p1171c, p1171d, p1171g, p1171h⟩⟩
              · refine k_c1 175 rfl rfl (if_neg b1175) ?_
                have b1175 := mt iv_eq0.mpr b1175
                refine k_aload 176 rfl rfl rfl ?_
                refine r_gI I1170 179 rfl rfl rfl (fun x1177 (e1178 : x1177.toInt = F1168 70) => ?_)
                refine k_goto 183 rfl rfl ?_
                exact k_fin rfl rfl ⟨_, _, _, _, rfl, I1170, (fr1.tr (by decide) (fr1.up (by decide) fr1.rf) k1172), (fr2.tr (by decide) fr2.rf k1173), ⟨p1171c, p1171d, p1171g, p1171h⟩⟩
            · refine k_sw 184 rfl (by unfold am_tb; rw [b1081]; decide) ?_
              refine k_aload 185 rfl rfl rfl ?_
              refine k_push 186 rfl rfl ?_
              refine k_rq I3 rfl (m_isTerm (lm := lm) (gT := gT) (gt := gt) I3.1 (show nn ((A0 24)) ((A0 25)) ((F0 28)) (gT) from p1) (show nw ((A0 24)) ((A0 25)) ((A0 26)) (lm) ((F0 28)) from p2) (show wr A0 from p5) (show wq A0 from p6) (show (A0 2) 2 = (gt) ∧ 1 ≤ (gt) ∧ (gt) ≤ 120 from p7) (show wf ((A0 1)) 2600 (gt) from p8) (show cb ((A0 1)) 2600 (gt) 200 from p9) (show 0 ≤ (1 : Int32).toInt ∧ (1 : Int32).toInt ≤ 2 by omega)) rfl rfl rfl I3.rc ?_
              rintro x1179 h1180 F1181 A1182 I1183 ⟨k1185, k1186, p1184⟩
              replace p1184 : (x1179.toInt = 0 ∨ x1179.toInt = 1) ∧ (x1179.toInt = 1 → ∃ n' : Nat, n' ≤ 1000 ∧ A1182 2 (1 : Int32).toInt = n' ∧ wf (A1182 1) (1300 * (1 : Int32).toInt) n') ∧ wr A1182 ∧ wq A1182 ∧ (∀ q : Int, q ≠ (1 : Int32).toInt → A1182 2 q = (A0 2) q) ∧ (∀ q : Int, (0 ≤ q ∧ q < 1300 * (1 : Int32).toInt) ∨ 1300 * (1 : Int32).toInt + 1300 ≤ q → A1182 1 q = (A0 1) q) ∧ A1182 2 2 = (A0 2) 2 ∧ (∀ q : Int, 2600 ≤ q → A1182 1 q = (A0 1) q) := p1184
              obtain ⟨p1184a, p1184b, p1184c, p1184d, p1184e, p1184f, p1184g, p1184h⟩ := p1184
              have z1187 := iv_01 (x := x1179) p1184a
              show am_Ok _ _ _ (189, _, [.inl x1179], _, 0, 0) _
              clear p1184b
              by_cases b1188 : x1179 = 0
              · refine k_c1 201 rfl rfl (if_pos b1188) ?_
                have b1188 := iv_eq0.mp b1188
                refine k_push 202 rfl rfl ?_
                have hc1189 : (-1 : Int32).toInt = -1 := by decide
                exact k_fin rfl rfl ⟨_, _, _, _, rfl, I1183, (fr1.tr (by decide) (fr1.up (by decide) fr1.rf) k1185), (fr2.tr (by decide) fr2.rf k1186), ⟨p1184c, p1184d, p1184g, p1184h⟩⟩
              · refine k_c1 192 rfl rfl (if_neg b1188) ?_
                have b1188 := mt iv_eq0.mpr b1188
                refine k_aload 193 rfl rfl rfl ?_
                refine r_gA I1183 196 rfl rfl rfl ?_
                refine k_push 197 rfl rfl ?_
                refine r_ld 2 I1183 198 rfl rfl (by omega) (show (1 : Int32).toInt < 3 by omega) rfl (fun x1190 (e1191 : x1190.toInt = A1182 2 (1 : Int32).toInt) => ?_)
                rw [hc863] at e1191
                refine k_goto 202 rfl rfl ?_
                exact k_fin rfl rfl ⟨_, _, _, _, rfl, I1183, (fr1.tr (by decide) (fr1.up (by decide) fr1.rf) k1185), (fr2.tr (by decide) fr2.rf k1186), ⟨p1184c, p1184d, p1184g, p1184h⟩⟩
            · refine k_sw 203 rfl (by unfold am_tb; rw [b1081]; decide) ?_
              refine k_aload 204 rfl rfl rfl ?_
              refine r_gA I3 207 rfl rfl rfl ?_
              refine k_push 208 rfl rfl ?_
              have hc1192 : (2 : Int32).toInt = 2 := by decide
              refine r_ld 2 I3 209 rfl rfl (by omega) (show (2 : Int32).toInt < 3 by omega) rfl (fun x1193 (e1194 : x1193.toInt = A0 2 (2 : Int32).toInt) => ?_)
              rw [hc1192] at e1194
              exact k_fin rfl rfl ⟨_, _, _, _, rfl, I3, (fr1.up (by decide) fr1.rf), fr2.rf, show wr A0 ∧ wq A0 ∧ (A0 2) 2 = A0 2 2 ∧ (∀ q : Int, 2600 ≤ q → (A0 1) q = A0 1 q) from ⟨p5, p6, rfl, fun q _ => rfl⟩⟩
            · refine k_sw 210 rfl (by unfold am_tb; rw [b1081]; decide) ?_
              refine k_aload 211 rfl rfl rfl ?_
              refine r_gI I3 214 rfl rfl rfl (fun x1195 (e1196 : x1195.toInt = F0 4) => ?_)
              exact k_fin rfl rfl ⟨_, _, _, _, rfl, I3, (fr1.up (by decide) fr1.rf), fr2.rf, show wr A0 ∧ wq A0 ∧ (A0 2) 2 = A0 2 2 ∧ (∀ q : Int, 2600 ≤ q → (A0 1) q = A0 1 q) from ⟨p5, p6, rfl, fun q _ => rfl⟩⟩
            · refine k_sw 215 rfl (by unfold am_tb; rw [b1081]; decide) ?_
              refine k_aload 216 rfl rfl rfl ?_
              refine k_iload 217 rfl rfl rfl ?_
              refine k_push 219 rfl rfl ?_
              have hc1197 : (16 : Int32).toInt = 16 := by decide
              obtain ⟨x1198, q1199⟩ : ∃ q : Int32, q = (w1 - (16 : Int32)) := ⟨_, rfl⟩
              have e1200 : x1198.toInt = w1.toInt - 16 := by rw [q1199, iv_sub (by omega) (by omega)]; omega
              refine k_bin x1198 220 rfl q1199.symm rfl ?_
              refine k_rq I3 rfl (m_ofKind  I3.1 (show 1 ≤ (F0 28) ∧ (F0 28) ≤ 400 by omega)) rfl rfl rfl I3.rc ?_
              rintro x1201 h1202 F1203 A1204 I1205 ⟨k1207, k1208, p1206⟩
              have k1207 := fr1.nil k1207
              subst k1207
              have k1208 := fr2.nil k1208
              subst k1208
              show am_Ok _ _ _ (223, _, [.inl x1201], _, 0, 0) _
              exact k_fin rfl rfl ⟨_, _, _, _, rfl, I1205, (fr1.up (by decide) fr1.rf), fr2.rf, show wr A0 ∧ wq A0 ∧ (A0 2) 2 = A0 2 2 ∧ (∀ q : Int, 2600 ≤ q → (A0 1) q = A0 1 q) from ⟨p5, p6, rfl, fun q _ => rfl⟩⟩
            · refine k_sw 215 rfl (by unfold am_tb; rw [b1081]; decide) ?_
              refine k_aload 216 rfl rfl rfl ?_
              refine k_iload 217 rfl rfl rfl ?_
              refine k_push 219 rfl rfl ?_
              have hc1209 : (16 : Int32).toInt = 16 := by decide
              obtain ⟨x1210, q1211⟩ : ∃ q : Int32, q = (w1 - (16 : Int32)) := ⟨_, rfl⟩
              have e1212 : x1210.toInt = w1.toInt - 16 := by rw [q1211, iv_sub (by omega) (by omega)]; omega
              refine k_bin x1210 220 rfl q1211.symm rfl ?_
              refine k_rq I3 rfl (m_ofKind  I3.1 (show 1 ≤ (F0 28) ∧ (F0 28) ≤ 400 by omega)) rfl rfl rfl I3.rc ?_
              rintro x1213 h1214 F1215 A1216 I1217 ⟨k1219, k1220, p1218⟩
              have k1219 := fr1.nil k1219
              subst k1219
              have k1220 := fr2.nil k1220
              subst k1220
              show am_Ok _ _ _ (223, _, [.inl x1213], _, 0, 0) _
              exact k_fin rfl rfl ⟨_, _, _, _, rfl, I1217, (fr1.up (by decide) fr1.rf), fr2.rf, show wr A0 ∧ wq A0 ∧ (A0 2) 2 = A0 2 2 ∧ (∀ q : Int, 2600 ≤ q → (A0 1) q = A0 1 q) from ⟨p5, p6, rfl, fun q _ => rfl⟩⟩
            · refine k_sw 215 rfl (by unfold am_tb; rw [b1081]; decide) ?_
              refine k_aload 216 rfl rfl rfl ?_
              refine k_iload 217 rfl rfl rfl ?_
              refine k_push 219 rfl rfl ?_
              have hc1221 : (16 : Int32).toInt = 16 := by decide
              obtain ⟨x1222, q1223⟩ : ∃ q : Int32, q = (w1 - (16 : Int32)) := ⟨_, rfl⟩
              have e1224 : x1222.toInt = w1.toInt - 16 := by rw [q1223, iv_sub (by omega) (by omega)]; omega
              refine k_bin x1222 220 rfl q1223.symm rfl ?_
              refine k_rq I3 rfl (m_ofKind  I3.1 (show 1 ≤ (F0 28) ∧ (F0 28) ≤ 400 by omega)) rfl rfl rfl I3.rc ?_
              rintro x1225 h1226 F1227 A1228 I1229 ⟨k1231, k1232, p1230⟩
              have k1231 := fr1.nil k1231
              subst k1231
              have k1232 := fr2.nil k1232
              subst k1232
              show am_Ok _ _ _ (223, _, [.inl x1225], _, 0, 0) _
              exact k_fin rfl rfl ⟨_, _, _, _, rfl, I1229, (fr1.up (by decide) fr1.rf), fr2.rf, show wr A0 ∧ wq A0 ∧ (A0 2) 2 = A0 2 2 ∧ (∀ q : Int, 2600 ≤ q → (A0 1) q = A0 1 q) from ⟨p5, p6, rfl, fun q _ => rfl⟩⟩
            · refine k_sw 215 rfl (by unfold am_tb; rw [b1081]; decide) ?_
              refine k_aload 216 rfl rfl rfl ?_
              refine k_iload 217 rfl rfl rfl ?_
              refine k_push 219 rfl rfl ?_
              have hc1233 : (16 : Int32).toInt = 16 := by decide
              obtain ⟨x1234, q1235⟩ : ∃ q : Int32, q = (w1 - (16 : Int32)) := ⟨_, rfl⟩
              have e1236 : x1234.toInt = w1.toInt - 16 := by rw [q1235, iv_sub (by omega) (by omega)]; omega
              refine k_bin x1234 220 rfl q1235.symm rfl ?_
              refine k_rq I3 rfl (m_ofKind  I3.1 (show 1 ≤ (F0 28) ∧ (F0 28) ≤ 400 by omega)) rfl rfl rfl I3.rc ?_
              rintro x1237 h1238 F1239 A1240 I1241 ⟨k1243, k1244, p1242⟩
              have k1243 := fr1.nil k1243
              subst k1243
              have k1244 := fr2.nil k1244
              subst k1244
              show am_Ok _ _ _ (223, _, [.inl x1237], _, 0, 0) _
              exact k_fin rfl rfl ⟨_, _, _, _, rfl, I1241, (fr1.up (by decide) fr1.rf), fr2.rf, show wr A0 ∧ wq A0 ∧ (A0 2) 2 = A0 2 2 ∧ (∀ q : Int, 2600 ≤ q → (A0 1) q = A0 1 q) from ⟨p5, p6, rfl, fun q _ => rfl⟩⟩
            · refine k_sw 215 rfl (by unfold am_tb; rw [b1081]; decide) ?_
              refine k_aload 216 rfl rfl rfl ?_
              refine k_iload 217 rfl rfl rfl ?_
              refine k_push 219 rfl rfl ?_
              have hc1245 : (16 : Int32).toInt = 16 := by decide
              obtain ⟨x1246, q1247⟩ : ∃ q : Int32, q = (w1 - (16 : Int32)) := ⟨_, rfl⟩
              have e1248 : x1246.toInt = w1.toInt - 16 := by rw [q1247, iv_sub (by omega) (by omega)]; omega
              refine k_bin x1246 220 rfl q1247.symm rfl ?_
              refine k_rq I3 rfl (m_ofKind  I3.1 (show 1 ≤ (F0 28) ∧ (F0 28) ≤ 400 by omega)) rfl rfl rfl I3.rc ?_
              rintro x1249 h1250 F1251 A1252 I1253 ⟨k1255, k1256, p1254⟩
              have k1255 := fr1.nil k1255
              subst k1255
              have k1256 := fr2.nil k1256
              subst k1256
              show am_Ok _ _ _ (223, _, [.inl x1249], _, 0, 0) _
              exact k_fin rfl rfl ⟨_, _, _, _, rfl, I1253, (fr1.up (by decide) fr1.rf), fr2.rf, show wr A0 ∧ wq A0 ∧ (A0 2) 2 = A0 2 2 ∧ (∀ q : Int, 2600 ≤ q → (A0 1) q = A0 1 q) from ⟨p5, p6, rfl, fun q _ => rfl⟩⟩
            · refine k_sw 215 rfl (by unfold am_tb; rw [b1081]; decide) ?_
              refine k_aload 216 rfl rfl rfl ?_
              refine k_iload 217 rfl rfl rfl ?_
              refine k_push 219 rfl rfl ?_
              have hc1257 : (16 : Int32).toInt = 16 := by decide
              obtain ⟨x1258, q1259⟩ : ∃ q : Int32, q = (w1 - (16 : Int32)) := ⟨_, rfl⟩
              have e1260 : x1258.toInt = w1.toInt - 16 := by rw [q1259, iv_sub (by omega) (by omega)]; omega
              refine k_bin x1258 220 rfl q1259.symm rfl ?_
              refine k_rq I3 rfl (m_ofKind  I3.1 (show 1 ≤ (F0 28) ∧ (F0 28) ≤ 400 by omega)) rfl rfl rfl I3.rc ?_
              rintro x1261 h1262 F1263 A1264 I1265 ⟨k1267, k1268, p1266⟩
              have k1267 := fr1.nil k1267
              subst k1267
              have k1268 := fr2.nil k1268
              subst k1268
              show am_Ok _ _ _ (223, _, [.inl x1261], _, 0, 0) _
              exact k_fin rfl rfl ⟨_, _, _, _, rfl, I1265, (fr1.up (by decide) fr1.rf), fr2.rf, show wr A0 ∧ wq A0 ∧ (A0 2) 2 = A0 2 2 ∧ (∀ q : Int, 2600 ≤ q → (A0 1) q = A0 1 q) from ⟨p5, p6, rfl, fun q _ => rfl⟩⟩
            · refine k_sw 215 rfl (by unfold am_tb; rw [b1081]; decide) ?_
              refine k_aload 216 rfl rfl rfl ?_
              refine k_iload 217 rfl rfl rfl ?_
              refine k_push 219 rfl rfl ?_
              have hc1269 : (16 : Int32).toInt = 16 := by decide
              obtain ⟨x1270, q1271⟩ : ∃ q : Int32, q = (w1 - (16 : Int32)) := ⟨_, rfl⟩
              have e1272 : x1270.toInt = w1.toInt - 16 := by rw [q1271, iv_sub (by omega) (by omega)]; omega
              refine k_bin x1270 220 rfl q1271.symm rfl ?_
              refine k_rq I3 rfl (m_ofKind  I3.1 (show 1 ≤ (F0 28) ∧ (F0 28) ≤ 400 by omega)) rfl rfl rfl I3.rc ?_
              rintro x1273 h1274 F1275 A1276 I1277 ⟨k1279, k1280, p1278⟩
              have k1279 := fr1.nil k1279
              subst k1279
              have k1280 := fr2.nil k1280
              subst k1280
              show am_Ok _ _ _ (223, _, [.inl x1273], _, 0, 0) _
              exact k_fin rfl rfl ⟨_, _, _, _, rfl, I1277, (fr1.up (by decide) fr1.rf), fr2.rf, show wr A0 ∧ wq A0 ∧ (A0 2) 2 = A0 2 2 ∧ (∀ q : Int, 2600 ≤ q → (A0 1) q = A0 1 q) from ⟨p5, p6, rfl, fun q _ => rfl⟩⟩
            · refine k_sw 161 rfl (by unfold am_tb; rw [b1081]; decide) ?_
              refine k_aload 162 rfl rfl rfl ?_
              refine k_iload 163 rfl rfl rfl ?_
              refine k_rq I3 rfl (m_readCount (lm := lm) (gT := gT) I3.1 (show nn ((A0 24)) ((A0 25)) ((F0 28)) (gT) from p1) (show nw ((A0 24)) ((A0 25)) ((A0 26)) (lm) ((F0 28)) from p2) (show wr A0 from p5) (show wq A0 from p6)) rfl rfl rfl I3.rc ?_
              rintro x1281 h1282 F1283 A1284 I1285 ⟨k1287, k1288, p1286⟩
              replace p1286 : wr A1284 ∧ wq A1284 ∧ A1284 2 2 = (A0 2) 2 ∧ (∀ q : Int, 2600 ≤ q → A1284 1 q = (A0 1) q) := p1286
              obtain ⟨p1286a, p1286b, p1286c, p1286d⟩ := p1286
              show am_Ok _ _ _ (166, _, [.inl x1281], _, 0, 0) _
              exact k_fin rfl rfl ⟨_, _, _, _, rfl, I1285, (fr1.tr (by decide) (fr1.up (by decide) fr1.rf) k1287), (fr2.tr (by decide) fr2.rf k1288), ⟨p1286a, p1286b, p1286c, p1286d⟩⟩
        · refine k_c1 27 rfl rfl (if_neg b1080) ?_
          have b1080 := mt iv_eq0.mpr b1080
          refine k_push 28 rfl rfl ?_
          refine k_fin rfl (fin_Z (Or.inl rfl)) ⟨_, _, rfl, rf_len I3 I3, ?_⟩
          show am_Ok _ _ _ (17, _, [.inl (0 : Int32)], _, 0, 0) _
          refine k_c1 20 rfl rfl (if_pos (by decide)) ?_
          refine k_push 21 rfl rfl ?_
          exact k_fin rfl rfl ⟨_, _, _, _, rfl, I3, (fr1.up (by decide) fr1.rf), fr2.rf, show wr A0 ∧ wq A0 ∧ (A0 2) 2 = A0 2 2 ∧ (∀ q : Int, 2600 ≤ q → (A0 1) q = A0 1 q) from ⟨p5, p6, rfl, fun q _ => rfl⟩⟩
end
