section
theorem b_X10_tries_30 {h0 : am_h} {F0 : rf_f} {A0 : rf_A} {w1 : Int32} {lm : Int → Int} {gT : Int} (p1 : nn (A0 24) (A0 25) (F0 28) gT) (p2 : nw (A0 24) (A0 25) (A0 26) lm (F0 28)) (p5 : wr A0) (p6 : wq A0) (p3 : F0 27 = cn (A0 24) (F0 28).toNat) (p4 : F0 27 ≤ 400 ∧ gT ≤ 800000) : ∀ (n : Nat) {lv : am_l} {h : am_h} {F : rf_f} {A : rf_A} {v1 : Int32} {v2 : Int32} {v3 : Int32} {v4 : Int32} {v5 : Int32} {lm1 : Int → Int} {T1 : Int}, ((10 * (400 - v4.toInt) + v5.toInt + 2).toNat) = n → am_get lv 0 = some (.inr (.inr (some 81))) → am_get lv 1 = some (.inl v1) → am_get lv 2 = some (.inl v2) → am_get lv 3 = some (.inl v3) → am_get lv 4 = some (.inl v4) → am_get lv 5 = some (.inl v5) → rf_I h0 h F A → fr1 [59, 55, 50, 48, 62, 63, 64, 65, 28, 27, 32, 36, 37] F0 F → fr2 [1, 2, 56, 57, 58, 61, 49, 51, 52, 53, 54, 60, 43, 44, 45, 46, 47, 24, 25, 26, 40, 41, 33, 34, 35, 42] A0 A → (0 ≤ v4.toInt ∧ v4.toInt ≤ 400 ∧ -2 ≤ v5.toInt ∧ v5.toInt ≤ 5) → (nn (A 24) (A 25) (F 28) T1) → (nw (A 24) (A 25) (A 26) lm1 (F 28)) → (F 27 = cn (A 24) (F 28).toNat) → (wr A) → (wq A) → (A 2 2 = A0 2 2) → (∀ q : Int, 2600 ≤ q → A 1 q = A0 1 q) → (F 27 ≤ 400 ∧ T1 ≤ gT + v4.toInt + 1 ∧ (0 < v5.toInt → T1 ≤ gT + v4.toInt)) → (nt (A 33) (A 34) (A 35) (F 37) gT (F 36)) → am_Ok am_G 7 221 (30, lv, [], h, 0, 0) (rf_V h0 (fun F' A' => fr1 [59, 55, 50, 48, 62, 63, 64, 65, 28, 27, 32, 36, 37] F0 F' ∧ fr2 [1, 2, 56, 57, 58, 61, 49, 51, 52, 53, 54, 60, 43, 44, 45, 46, 47, 24, 25, 26, 40, 41, 33, 34, 35, 42] A0 A' ∧ (nt (A' 24) (A' 25) (A' 26) (F' 28) gT (F' 27) ∧ (wr A' ∧ wq A' ∧ A' 2 2 = A0 2 2 ∧ (∀ q : Int, 2600 ≤ q → A' 1 q = A0 1 q))))) := by
  intro n
  induction n using Nat.strongRecOn with
  | ind n ih =>
    intro lv h F A v1 v2 v3 v4 v5 lm1 T1 hn g0 g1 g2 g3 g4 g5 hI hF hA i1 i2 i3 i4 i6 i7 i8 i9 i5 ia
    refine k_iload 32 rfl g4 rfl ?_
    refine k_push 35 rfl rfl ?_
    have hc1 : (400 : Int32).toInt = 400 := by decide
    by_cases b2 : (400 : Int32) ≤ v4
    · refine k_c2 100 rfl rfl (if_pos b2) ?_
      have b2 := iv_le.mp b2
      have hb1 := ia.1.1
      have hb2 := ia.1.2.1
      refine k_aload 101 rfl g0 rfl ?_
      refine r_gA hI 104 rfl rfl rfl ?_
      refine k_push 105 rfl rfl ?_
      have hc3 : (0 : Int32).toInt = 0 := by decide
      refine k_iload 107 rfl g4 rfl ?_
      refine r_st 42 hI 108 rfl rfl (by omega) (show (0 : Int32).toInt < 4 by omega) rfl (fun h4 I5 => ?_)
      refine k_aload 109 rfl g0 rfl ?_
      refine r_gA I5 112 rfl rfl rfl ?_
      refine k_push 113 rfl rfl ?_
      have hc6 : (1 : Int32).toInt = 1 := by decide
      refine k_iload 114 rfl g3 rfl ?_
      refine k_aload 115 rfl g0 rfl ?_
      refine r_gA I5 118 rfl rfl rfl ?_
      refine k_push 119 rfl rfl ?_
      refine r_ld 31 I5 120 rfl rfl (by omega) (show (1 : Int32).toInt < 6 by omega) rfl (fun x7 (e8 : x7.toInt = A 31 (1 : Int32).toInt) => ?_)
      rw [hc6] at e8
      have e9 : A 31 = A0 31 := hA 31 (by decide)
      rw [e9] at e8
      obtain ⟨x10, q11⟩ : ∃ q : Int32, q = (v3 - x7) := ⟨_, rfl⟩
      refine k_bin x10 121 rfl q11.symm rfl ?_
      refine r_st 42 I5 122 rfl rfl (by omega) (show (1 : Int32).toInt < 4 by omega) rfl (fun h13 I14 => ?_)
      refine k_aload 123 rfl g0 rfl ?_
      refine r_gA I14 126 rfl rfl rfl ?_
      refine k_push 127 rfl rfl ?_
      have hc15 : (2 : Int32).toInt = 2 := by decide
      refine k_aload 128 rfl g0 rfl ?_
      refine r_gI I14 131 rfl rfl rfl (fun x16 (e17 : x16.toInt = F 32) => ?_)
      refine r_st 42 I14 132 rfl rfl (by omega) (show (2 : Int32).toInt < 4 by omega) rfl (fun h18 I19 => ?_)
      refine k_aload 133 rfl g0 rfl ?_
      refine r_gA I19 136 rfl rfl rfl ?_
      refine k_push 137 rfl rfl ?_
      have hc20 : (3 : Int32).toInt = 3 := by decide
      refine k_iload 139 rfl g5 rfl ?_
      by_cases b21 : v5 ≤ 0
      · refine k_c1 146 rfl rfl (if_pos b21) ?_
        have b21 := iv_le0.mp b21
        refine k_iload 148 rfl g5 rfl ?_
        refine r_st 42 I19 149 rfl rfl (by omega) (show (3 : Int32).toInt < 4 by omega) rfl (fun h22 I23 => ?_)
        refine k_aload 150 rfl g0 rfl ?_
        refine k_iload 151 rfl g2 rfl ?_
        refine r_pI I23 154 rfl rfl rfl (fun h24 I25 => ?_)
        refine k_aload 155 rfl g0 rfl ?_
        refine k_rv I25 rfl (m_comesNet  I25.1 (show 0 ≤ (F 37) ∧ (F 37) ≤ 400 by omega)) rfl rfl rfl I25.rc ?_
        rintro h27 F28 A29 I30 ⟨k32, k33, p31⟩
        replace p31 : (F28 27 = (F 36) ∧ F28 28 = (F 37)) ∧ (∀ j : Int, 0 ≤ j → j < (F 37) → A29 24 j = (A 33) j ∧ A29 25 j = (A 34) j) ∧ (∀ p : Int, 0 ≤ p → p < 4 * (F 37) → A29 26 p = (A 35) p) := p31
        obtain ⟨p31a, p31b, p31c⟩ := p31
        show am_Ok _ _ _ (158, _, [], _, 0, 0) _
        exact k_fin rfl rfl ⟨_, _, _, rfl, I30, (fr1.tr (by decide) (fr1.up (by decide) hF) k32), (fr2.tr (by decide) (fr2.up (by decide) (fr2.up (by decide) (fr2.up (by decide) (fr2.up (by decide) hA)))) k33), ⟨by rw [p31a.1, p31a.2]; exact ia.agree p31b p31c, (i6.fr (l := [42]) (fr2.up (by decide) (fr2.up (by decide) (fr2.up (by decide) (fr2.up (by decide) fr2.rf)))) (by decide)).fr k33 (by decide), (i7.fr (l := [42]) (fr2.up (by decide) (fr2.up (by decide) (fr2.up (by decide) (fr2.up (by decide) fr2.rf)))) (by decide)).fr k33 (by decide), by rw [k33 2 (by decide), up2_k (by decide), up2_k (by decide), up2_k (by decide), up2_k (by decide)]; exact i8, by rw [k33 1 (by decide), up2_k (by decide), up2_k (by decide), up2_k (by decide), up2_k (by decide)]; exact i9⟩⟩
      · refine k_c1 142 rfl rfl (if_neg b21) ?_
        have b21 := mt iv_le0.mpr b21
        refine k_push 143 rfl rfl ?_
        refine k_goto 148 rfl rfl ?_
        refine r_st 42 I19 149 rfl rfl (by omega) (show (3 : Int32).toInt < 4 by omega) rfl (fun h34 I35 => ?_)
        refine k_aload 150 rfl g0 rfl ?_
        refine k_iload 151 rfl g2 rfl ?_
        refine r_pI I35 154 rfl rfl rfl (fun h36 I37 => ?_)
        refine k_aload 155 rfl g0 rfl ?_
        refine k_rv I37 rfl (m_comesNet  I37.1 (show 0 ≤ (F 37) ∧ (F 37) ≤ 400 by omega)) rfl rfl rfl I37.rc ?_
        rintro h39 F40 A41 I42 ⟨k44, k45, p43⟩
        replace p43 : (F40 27 = (F 36) ∧ F40 28 = (F 37)) ∧ (∀ j : Int, 0 ≤ j → j < (F 37) → A41 24 j = (A 33) j ∧ A41 25 j = (A 34) j) ∧ (∀ p : Int, 0 ≤ p → p < 4 * (F 37) → A41 26 p = (A 35) p) := p43
        obtain ⟨p43a, p43b, p43c⟩ := p43
        show am_Ok _ _ _ (158, _, [], _, 0, 0) _
        exact k_fin rfl rfl ⟨_, _, _, rfl, I42, (fr1.tr (by decide) (fr1.up (by decide) hF) k44), (fr2.tr (by decide) (fr2.up (by decide) (fr2.up (by decide) (fr2.up (by decide) (fr2.up (by decide) hA)))) k45), ⟨by rw [p43a.1, p43a.2]; exact ia.agree p43b p43c, (i6.fr (l := [42]) (fr2.up (by decide) (fr2.up (by decide) (fr2.up (by decide) (fr2.up (by decide) fr2.rf)))) (by decide)).fr k45 (by decide), (i7.fr (l := [42]) (fr2.up (by decide) (fr2.up (by decide) (fr2.up (by decide) (fr2.up (by decide) fr2.rf)))) (by decide)).fr k45 (by decide), by rw [k45 2 (by decide), up2_k (by decide), up2_k (by decide), up2_k (by decide), up2_k (by decide)]; exact i8, by rw [k45 1 (by decide), up2_k (by decide), up2_k (by decide), up2_k (by decide), up2_k (by decide)]; exact i9⟩⟩
    · refine k_c2 38 rfl rfl (if_neg b2) ?_
      have b2 := mt iv_le.mpr b2
      refine k_iload 40 rfl g5 rfl ?_
      by_cases b46 : v5 ≤ 0
      · refine k_c1 100 rfl rfl (if_pos b46) ?_
        have b46 := iv_le0.mp b46
        have hb1 := ia.1.1
        have hb2 := ia.1.2.1
        refine k_aload 101 rfl g0 rfl ?_
        refine r_gA hI 104 rfl rfl rfl ?_
        refine k_push 105 rfl rfl ?_
        have hc47 : (0 : Int32).toInt = 0 := by decide
        refine k_iload 107 rfl g4 rfl ?_
        refine r_st 42 hI 108 rfl rfl (by omega) (show (0 : Int32).toInt < 4 by omega) rfl (fun h48 I49 => ?_)
        refine k_aload 109 rfl g0 rfl ?_
        refine r_gA I49 112 rfl rfl rfl ?_
        refine k_push 113 rfl rfl ?_
        have hc50 : (1 : Int32).toInt = 1 := by decide
        refine k_iload 114 rfl g3 rfl ?_
        refine k_aload 115 rfl g0 rfl ?_
        refine r_gA I49 118 rfl rfl rfl ?_
        refine k_push 119 rfl rfl ?_
        refine r_ld 31 I49 120 rfl rfl (by omega) (show (1 : Int32).toInt < 6 by omega) rfl (fun x51 (e52 : x51.toInt = A 31 (1 : Int32).toInt) => ?_)
        rw [hc50] at e52
        have e53 : A 31 = A0 31 := hA 31 (by decide)
        rw [e53] at e52
        obtain ⟨x54, q55⟩ : ∃ q : Int32, q = (v3 - x51) := ⟨_, rfl⟩
        refine k_bin x54 121 rfl q55.symm rfl ?_
        refine r_st 42 I49 122 rfl rfl (by omega) (show (1 : Int32).toInt < 4 by omega) rfl (fun h57 I58 => ?_)
        refine k_aload 123 rfl g0 rfl ?_
        refine r_gA I58 126 rfl rfl rfl ?_
        refine k_push 127 rfl rfl ?_
        have hc59 : (2 : Int32).toInt = 2 := by decide
        refine k_aload 128 rfl g0 rfl ?_
        refine r_gI I58 131 rfl rfl rfl (fun x60 (e61 : x60.toInt = F 32) => ?_)
        refine r_st 42 I58 132 rfl rfl (by omega) (show (2 : Int32).toInt < 4 by omega) rfl (fun h62 I63 => ?_)
        refine k_aload 133 rfl g0 rfl ?_
        refine r_gA I63 136 rfl rfl rfl ?_
        refine k_push 137 rfl rfl ?_
        have hc64 : (3 : Int32).toInt = 3 := by decide
        refine k_iload 139 rfl g5 rfl ?_
        by_cases b65 : v5 ≤ 0
        · refine k_c1 146 rfl rfl (if_pos b65) ?_
          have b65 := iv_le0.mp b65
          refine k_iload 148 rfl g5 rfl ?_
          refine r_st 42 I63 149 rfl rfl (by omega) (show (3 : Int32).toInt < 4 by omega) rfl (fun h66 I67 => ?_)
          refine k_aload 150 rfl g0 rfl ?_
          refine k_iload 151 rfl g2 rfl ?_
          refine r_pI I67 154 rfl rfl rfl (fun h68 I69 => ?_)
          refine k_aload 155 rfl g0 rfl ?_
          refine k_rv I69 rfl (m_comesNet  I69.1 (show 0 ≤ (F 37) ∧ (F 37) ≤ 400 by omega)) rfl rfl rfl I69.rc ?_
          rintro h71 F72 A73 I74 ⟨k76, k77, p75⟩
          replace p75 : (F72 27 = (F 36) ∧ F72 28 = (F 37)) ∧ (∀ j : Int, 0 ≤ j → j < (F 37) → A73 24 j = (A 33) j ∧ A73 25 j = (A 34) j) ∧ (∀ p : Int, 0 ≤ p → p < 4 * (F 37) → A73 26 p = (A 35) p) := p75
          obtain ⟨p75a, p75b, p75c⟩ := p75
          show am_Ok _ _ _ (158, _, [], _, 0, 0) _
          exact k_fin rfl rfl ⟨_, _, _, rfl, I74, (fr1.tr (by decide) (fr1.up (by decide) hF) k76), (fr2.tr (by decide) (fr2.up (by decide) (fr2.up (by decide) (fr2.up (by decide) (fr2.up (by decide) hA)))) k77), ⟨by rw [p75a.1, p75a.2]; exact ia.agree p75b p75c, (i6.fr (l := [42]) (fr2.up (by decide) (fr2.up (by decide) (fr2.up (by decide) (fr2.up (by decide) fr2.rf)))) (by decide)).fr k77 (by decide), (i7.fr (l := [42]) (fr2.up (by decide) (fr2.up (by decide) (fr2.up (by decide) (fr2.up (by decide) fr2.rf)))) (by decide)).fr k77 (by decide), by rw [k77 2 (by decide), up2_k (by decide), up2_k (by decide), up2_k (by decide), up2_k (by decide)]; exact i8, by rw [k77 1 (by decide), up2_k (by decide), up2_k (by decide), up2_k (by decide), up2_k (by decide)]; exact i9⟩⟩
        · refine k_c1 142 rfl rfl (if_neg b65) ?_
          have b65 := mt iv_le0.mpr b65
          refine k_push 143 rfl rfl ?_
          refine k_goto 148 rfl rfl ?_
          refine r_st 42 I63 149 rfl rfl (by omega) (show (3 : Int32).toInt < 4 by omega) rfl (fun h78 I79 => ?_)
          refine k_aload 150 rfl g0 rfl ?_
          refine k_iload 151 rfl g2 rfl ?_
          refine r_pI I79 154 rfl rfl rfl (fun h80 I81 => ?_)
          refine k_aload 155 rfl g0 rfl ?_
          refine k_rv I81 rfl (m_comesNet  I81.1 (show 0 ≤ (F 37) ∧ (F 37) ≤ 400 by omega)) rfl rfl rfl I81.rc ?_
          rintro h83 F84 A85 I86 ⟨k88, k89, p87⟩
          replace p87 : (F84 27 = (F 36) ∧ F84 28 = (F 37)) ∧ (∀ j : Int, 0 ≤ j → j < (F 37) → A85 24 j = (A 33) j ∧ A85 25 j = (A 34) j) ∧ (∀ p : Int, 0 ≤ p → p < 4 * (F 37) → A85 26 p = (A 35) p) := p87
          obtain ⟨p87a, p87b, p87c⟩ := p87
          show am_Ok _ _ _ (158, _, [], _, 0, 0) _
          exact k_fin rfl rfl ⟨_, _, _, rfl, I86, (fr1.tr (by decide) (fr1.up (by decide) hF) k88), (fr2.tr (by decide) (fr2.up (by decide) (fr2.up (by decide) (fr2.up (by decide) (fr2.up (by decide) hA)))) k89), ⟨by rw [p87a.1, p87a.2]; exact ia.agree p87b p87c, (i6.fr (l := [42]) (fr2.up (by decide) (fr2.up (by decide) (fr2.up (by decide) (fr2.up (by decide) fr2.rf)))) (by decide)).fr k89 (by decide), (i7.fr (l := [42]) (fr2.up (by decide) (fr2.up (by decide) (fr2.up (by decide) (fr2.up (by decide) fr2.rf)))) (by decide)).fr k89 (by decide), by rw [k89 2 (by decide), up2_k (by decide), up2_k (by decide), up2_k (by decide), up2_k (by decide)]; exact i8, by rw [k89 1 (by decide), up2_k (by decide), up2_k (by decide), up2_k (by decide), up2_k (by decide)]; exact i9⟩⟩
      · refine k_c1 43 rfl rfl (if_neg b46) ?_
        have b46 := mt iv_le0.mpr b46
        refine k_aload 44 rfl g0 rfl ?_
        refine k_iload 45 rfl g1 rfl ?_
        refine k_rq hI rfl (m_chosen (lm := lm1) (gT := T1) hI.1 (show nn ((A 24)) ((A 25)) ((F 28)) (T1) from i2) (show nw ((A 24)) ((A 25)) ((A 26)) (lm1) ((F 28)) from i3) (show wr A from i6) (show wq A from i7)) rfl rfl rfl hI.rc ?_
        rintro x90 h91 F92 A93 I94 ⟨k96, k97, p95⟩
        replace p95 : wr A93 ∧ wq A93 ∧ (∀ q : Int, q ≠ 0 → A93 2 q = (A 2) q) ∧ (∀ q : Int, 400 ≤ q → A93 1 q = (A 1) q) ∧ (x90.toInt = -1 ∨ ∃ m, act ((A 24)) ((A 26)) ((F 28)) x90.toInt m) := p95
        obtain ⟨p95a, p95b, p95c, p95d, p95g⟩ := p95
        show am_Ok _ _ _ (48, _, [.inl x90], _, 0, 0) _
        refine k_istore 50 rfl rfl ?_
        refine k_iload 52 rfl gs_eq rfl ?_
        refine k_push 53 rfl rfl ?_
        have hc98 : (-1 : Int32).toInt = -1 := by decide
        by_cases b99 : x90 = (-1 : Int32)
        · refine k_c2 56 rfl rfl (if_pos b99) ?_
          have b99 := iv_eq.mp b99
          refine k_push 57 rfl rfl ?_
          have hc100 : (0 : Int32).toInt = 0 := by decide
          refine k_goto 66 rfl rfl ?_
          have n0 := trivial
          refine k_istore 68 rfl rfl ?_
          refine k_iload 69 rfl (gs_ne rfl rfl (gs_ne rfl rfl g3)) rfl ?_
          refine k_iload 71 rfl gs_eq rfl ?_
          refine k_push 72 rfl rfl ?_
          have hc101 : (1 : Int32).toInt = 1 := by decide
          by_cases b102 : (0 : Int32) = (1 : Int32)
          · refine k_c2 75 rfl rfl (if_pos b102) ?_
            have b102 := iv_eq.mp b102
            refine k_push 76 rfl rfl ?_
            refine k_goto 80 rfl rfl ?_
            obtain ⟨x103, q104⟩ : ∃ q : Int32, q = (v3 + (1 : Int32)) := ⟨_, rfl⟩
            refine k_bin x103 81 rfl q104.symm rfl ?_
            refine k_istore 82 rfl rfl ?_
            refine k_iload 84 rfl (gs_ne rfl rfl (gs_ne rfl rfl (gs_ne rfl rfl g4))) rfl ?_
            refine k_iload 86 rfl (gs_ne rfl rfl gs_eq) rfl ?_
            by_cases b106 : (0 : Int32) ≤ 0
            · refine k_c1 93 rfl rfl (if_pos b106) ?_
              have b106 := iv_le0.mp b106
              refine k_push 94 rfl rfl ?_
              obtain ⟨x107, q108⟩ : ∃ q : Int32, q = (v4 + (0 : Int32)) := ⟨_, rfl⟩
              have e109 : x107.toInt = v4.toInt + 0 := by rw [q108, iv_add (by omega) (by omega)]; omega
              refine k_bin x107 95 rfl q108.symm rfl ?_
              refine k_istore 97 rfl rfl ?_
              refine k_goto 30 rfl rfl ?_
              have e110 : F92 28 = F 28 := k96 28 (by decide)
              have e111 : F92 27 = F 27 := k96 27 (by decide)
              have e112 : F92 37 = F 37 := k96 37 (by decide)
              have e113 : F92 36 = F 36 := k96 36 (by decide)
              exact ih _ (show ((10 * (400 - x107.toInt) + (0 : Int32).toInt + 2).toNat) < n by omega) (lm1 := lm1) (T1 := T1) rfl (gs_ne rfl rfl (gs_ne rfl rfl (gs_ne rfl rfl (gs_ne rfl rfl g0)))) (gs_ne rfl rfl (gs_ne rfl rfl (gs_ne rfl rfl (gs_ne rfl rfl g1)))) (gs_ne rfl rfl (gs_ne rfl rfl (gs_ne rfl rfl (gs_ne rfl rfl g2)))) (gs_ne rfl rfl gs_eq) gs_eq (gs_ne rfl rfl (gs_ne rfl rfl gs_eq)) I94 (fr1.tr (by decide) hF k96) (fr2.tr (by decide) hA k97) (show 0 ≤ x107.toInt ∧ x107.toInt ≤ 400 ∧ -2 ≤ (0 : Int32).toInt ∧ (0 : Int32).toInt ≤ 5 by omega) (show nn ((A93 24)) ((A93 25)) ((F92 28)) (T1) by rw [(k97 24 (by decide)), (k97 25 (by decide)), (k96 28 (by decide))]; exact i2) (show nw ((A93 24)) ((A93 25)) ((A93 26)) (lm1) ((F92 28)) by rw [(k97 24 (by decide)), (k97 25 (by decide)), (k97 26 (by decide)), (k96 28 (by decide))]; exact i3) (show (F92 27) = cn ((A93 24)) ((F92 28)).toNat by rw [(k97 24 (by decide)), (k96 28 (by decide)), (k96 27 (by decide))]; exact i4) (show wr A93 from p95a) (show wq A93 from p95b) (show (A93 2) 2 = A0 2 2 from (p95c 2 (by decide)).trans i8) (show ∀ q : Int, 2600 ≤ q → (A93 1) q = A0 1 q from fun q hq => (p95d q (Int.le_trans (by decide) hq)).trans (i9 q hq)) (show (F92 27) ≤ 400 ∧ (T1) ≤ gT + x107.toInt + 1 ∧ (0 < (0 : Int32).toInt → (T1) ≤ gT + x107.toInt) by omega) (show nt ((A93 33)) ((A93 34)) ((A93 35)) ((F92 37)) gT ((F92 36)) by rw [(k97 33 (by decide)), (k97 34 (by decide)), (k97 35 (by decide)), (k96 37 (by decide)), (k96 36 (by decide))]; exact ia)
            · refine k_c1 89 rfl rfl (if_neg b106) ?_
              have b106 := mt iv_le0.mpr b106
              refine k_push 90 rfl rfl ?_
              refine k_goto 94 rfl rfl ?_
              obtain ⟨x114, q115⟩ : ∃ q : Int32, q = (v4 + (1 : Int32)) := ⟨_, rfl⟩
              have e116 : x114.toInt = v4.toInt + 1 := by rw [q115, iv_add (by omega) (by omega)]; omega
              refine k_bin x114 95 rfl q115.symm rfl ?_
              refine k_istore 97 rfl rfl ?_
              refine k_goto 30 rfl rfl ?_
              have e117 : F92 28 = F 28 := k96 28 (by decide)
              have e118 : F92 27 = F 27 := k96 27 (by decide)
              have e119 : F92 37 = F 37 := k96 37 (by decide)
              have e120 : F92 36 = F 36 := k96 36 (by decide)
              exact ih _ (show ((10 * (400 - x114.toInt) + (0 : Int32).toInt + 2).toNat) < n by omega) (lm1 := lm1) (T1 := T1) rfl (gs_ne rfl rfl (gs_ne rfl rfl (gs_ne rfl rfl (gs_ne rfl rfl g0)))) (gs_ne rfl rfl (gs_ne rfl rfl (gs_ne rfl rfl (gs_ne rfl rfl g1)))) (gs_ne rfl rfl (gs_ne rfl rfl (gs_ne rfl rfl (gs_ne rfl rfl g2)))) (gs_ne rfl rfl gs_eq) gs_eq (gs_ne rfl rfl (gs_ne rfl rfl gs_eq)) I94 (fr1.tr (by decide) hF k96) (fr2.tr (by decide) hA k97) (show 0 ≤ x114.toInt ∧ x114.toInt ≤ 400 ∧ -2 ≤ (0 : Int32).toInt ∧ (0 : Int32).toInt ≤ 5 by omega) (show nn ((A93 24)) ((A93 25)) ((F92 28)) (T1) by rw [(k97 24 (by decide)), (k97 25 (by decide)), (k96 28 (by decide))]; exact i2) (show nw ((A93 24)) ((A93 25)) ((A93 26)) (lm1) ((F92 28)) by rw [(k97 24 (by decide)), (k97 25 (by decide)), (k97 26 (by decide)), (k96 28 (by decide))]; exact i3) (show (F92 27) = cn ((A93 24)) ((F92 28)).toNat by rw [(k97 24 (by decide)), (k96 28 (by decide)), (k96 27 (by decide))]; exact i4) (show wr A93 from p95a) (show wq A93 from p95b) (show (A93 2) 2 = A0 2 2 from (p95c 2 (by decide)).trans i8) (show ∀ q : Int, 2600 ≤ q → (A93 1) q = A0 1 q from fun q hq => (p95d q (Int.le_trans (by decide) hq)).trans (i9 q hq)) (show (F92 27) ≤ 400 ∧ (T1) ≤ gT + x114.toInt + 1 ∧ (0 < (0 : Int32).toInt → (T1) ≤ gT + x114.toInt) by omega) (show nt ((A93 33)) ((A93 34)) ((A93 35)) ((F92 37)) gT ((F92 36)) by rw [(k97 33 (by decide)), (k97 34 (by decide)), (k97 35 (by decide)), (k96 37 (by decide)), (k96 36 (by decide))]; exact ia)
          · refine k_c2 79 rfl rfl (if_neg b102) ?_
            have b102 := mt iv_eq.mpr b102
            refine k_push 80 rfl rfl ?_
            obtain ⟨x121, q122⟩ : ∃ q : Int32, q = (v3 + (0 : Int32)) := ⟨_, rfl⟩
            refine k_bin x121 81 rfl q122.symm rfl ?_
            refine k_istore 82 rfl rfl ?_
            refine k_iload 84 rfl (gs_ne rfl rfl (gs_ne rfl rfl (gs_ne rfl rfl g4))) rfl ?_
            refine k_iload 86 rfl (gs_ne rfl rfl gs_eq) rfl ?_
            by_cases b124 : (0 : Int32) ≤ 0
            · refine k_c1 93 rfl rfl (if_pos b124) ?_
              have b124 := iv_le0.mp b124
              refine k_push 94 rfl rfl ?_
              obtain ⟨x125, q126⟩ : ∃ q : Int32, q = (v4 + (0 : Int32)) := ⟨_, rfl⟩
              have e127 : x125.toInt = v4.toInt + 0 := by rw [q126, iv_add (by omega) (by omega)]; omega
              refine k_bin x125 95 rfl q126.symm rfl ?_
              refine k_istore 97 rfl rfl ?_
              refine k_goto 30 rfl rfl ?_
              have e128 : F92 28 = F 28 := k96 28 (by decide)
              have e129 : F92 27 = F 27 := k96 27 (by decide)
              have e130 : F92 37 = F 37 := k96 37 (by decide)
              have e131 : F92 36 = F 36 := k96 36 (by decide)
              exact ih _ (show ((10 * (400 - x125.toInt) + (0 : Int32).toInt + 2).toNat) < n by omega) (lm1 := lm1) (T1 := T1) rfl (gs_ne rfl rfl (gs_ne rfl rfl (gs_ne rfl rfl (gs_ne rfl rfl g0)))) (gs_ne rfl rfl (gs_ne rfl rfl (gs_ne rfl rfl (gs_ne rfl rfl g1)))) (gs_ne rfl rfl (gs_ne rfl rfl (gs_ne rfl rfl (gs_ne rfl rfl g2)))) (gs_ne rfl rfl gs_eq) gs_eq (gs_ne rfl rfl (gs_ne rfl rfl gs_eq)) I94 (fr1.tr (by decide) hF k96) (fr2.tr (by decide) hA k97) (show 0 ≤ x125.toInt ∧ x125.toInt ≤ 400 ∧ -2 ≤ (0 : Int32).toInt ∧ (0 : Int32).toInt ≤ 5 by omega) (show nn ((A93 24)) ((A93 25)) ((F92 28)) (T1) by rw [(k97 24 (by decide)), (k97 25 (by decide)), (k96 28 (by decide))]; exact i2) (show nw ((A93 24)) ((A93 25)) ((A93 26)) (lm1) ((F92 28)) by rw [(k97 24 (by decide)), (k97 25 (by decide)), (k97 26 (by decide)), (k96 28 (by decide))]; exact i3) (show (F92 27) = cn ((A93 24)) ((F92 28)).toNat by rw [(k97 24 (by decide)), (k96 28 (by decide)), (k96 27 (by decide))]; exact i4) (show wr A93 from p95a) (show wq A93 from p95b) (show (A93 2) 2 = A0 2 2 from (p95c 2 (by decide)).trans i8) (show ∀ q : Int, 2600 ≤ q → (A93 1) q = A0 1 q from fun q hq => (p95d q (Int.le_trans (by decide) hq)).trans (i9 q hq)) (show (F92 27) ≤ 400 ∧ (T1) ≤ gT + x125.toInt + 1 ∧ (0 < (0 : Int32).toInt → (T1) ≤ gT + x125.toInt) by omega) (show nt ((A93 33)) ((A93 34)) ((A93 35)) ((F92 37)) gT ((F92 36)) by rw [(k97 33 (by decide)), (k97 34 (by decide)), (k97 35 (by decide)), (k96 37 (by decide)), (k96 36 (by decide))]; exact ia)
            · refine k_c1 89 rfl rfl (if_neg b124) ?_
              have b124 := mt iv_le0.mpr b124
              refine k_push 90 rfl rfl ?_
              refine k_goto 94 rfl rfl ?_
              obtain ⟨x132, q133⟩ : ∃ q : Int32, q = (v4 + (1 : Int32)) := ⟨_, rfl⟩
              have e134 : x132.toInt = v4.toInt + 1 := by rw [q133, iv_add (by omega) (by omega)]; omega
              refine k_bin x132 95 rfl q133.symm rfl ?_
              refine k_istore 97 rfl rfl ?_
              refine k_goto 30 rfl rfl ?_
              have e135 : F92 28 = F 28 := k96 28 (by decide)
              have e136 : F92 27 = F 27 := k96 27 (by decide)
              have e137 : F92 37 = F 37 := k96 37 (by decide)
              have e138 : F92 36 = F 36 := k96 36 (by decide)
              exact ih _ (show ((10 * (400 - x132.toInt) + (0 : Int32).toInt + 2).toNat) < n by omega) (lm1 := lm1) (T1 := T1) rfl (gs_ne rfl rfl (gs_ne rfl rfl (gs_ne rfl rfl (gs_ne rfl rfl g0)))) (gs_ne rfl rfl (gs_ne rfl rfl (gs_ne rfl rfl (gs_ne rfl rfl g1)))) (gs_ne rfl rfl (gs_ne rfl rfl (gs_ne rfl rfl (gs_ne rfl rfl g2)))) (gs_ne rfl rfl gs_eq) gs_eq (gs_ne rfl rfl (gs_ne rfl rfl gs_eq)) I94 (fr1.tr (by decide) hF k96) (fr2.tr (by decide) hA k97) (show 0 ≤ x132.toInt ∧ x132.toInt ≤ 400 ∧ -2 ≤ (0 : Int32).toInt ∧ (0 : Int32).toInt ≤ 5 by omega) (show nn ((A93 24)) ((A93 25)) ((F92 28)) (T1) by rw [(k97 24 (by decide)), (k97 25 (by decide)), (k96 28 (by decide))]; exact i2) (show nw ((A93 24)) ((A93 25)) ((A93 26)) (lm1) ((F92 28)) by rw [(k97 24 (by decide)), (k97 25 (by decide)), (k97 26 (by decide)), (k96 28 (by decide))]; exact i3) (show (F92 27) = cn ((A93 24)) ((F92 28)).toNat by rw [(k97 24 (by decide)), (k96 28 (by decide)), (k96 27 (by decide))]; exact i4) (show wr A93 from p95a) (show wq A93 from p95b) (show (A93 2) 2 = A0 2 2 from (p95c 2 (by decide)).trans i8) (show ∀ q : Int, 2600 ≤ q → (A93 1) q = A0 1 q from fun q hq => (p95d q (Int.le_trans (by decide) hq)).trans (i9 q hq)) (show (F92 27) ≤ 400 ∧ (T1) ≤ gT + x132.toInt + 1 ∧ (0 < (0 : Int32).toInt → (T1) ≤ gT + x132.toInt) by omega) (show nt ((A93 33)) ((A93 34)) ((A93 35)) ((F92 37)) gT ((F92 36)) by rw [(k97 33 (by decide)), (k97 34 (by decide)), (k97 35 (by decide)), (k96 37 (by decide)), (k96 36 (by decide))]; exact ia)
        · refine k_c2 60 rfl rfl (if_neg b99) ?_
          have b99 := mt iv_eq.mpr b99
          refine k_aload 61 rfl (gs_ne rfl rfl g0) rfl ?_
          refine k_iload 63 rfl gs_eq rfl ?_
          have e139 : F92 28 = F 28 := k96 28 (by decide)
          have e140 : F92 27 = F 27 := k96 27 (by decide)
          refine k_rq I94 rfl (m_works (lm := lm1) (gT := T1) I94.1 (show nn ((A93 24)) ((A93 25)) ((F92 28)) (T1) by rw [(k97 24 (by decide)), (k97 25 (by decide)), (k96 28 (by decide))]; exact i2) (show nw ((A93 24)) ((A93 25)) ((A93 26)) (lm1) ((F92 28)) by rw [(k97 24 (by decide)), (k97 25 (by decide)), (k97 26 (by decide)), (k96 28 (by decide))]; exact i3) (show ∃ m, act ((A93 24)) ((A93 26)) ((F92 28)) x90.toInt m by rw [(k97 24 (by decide)), (k97 26 (by decide)), (k96 28 (by decide))]; exact p95g.resolve_left (by omega)) (show (F92 27) = cn ((A93 24)) ((F92 28)).toNat by rw [(k97 24 (by decide)), (k96 28 (by decide)), (k96 27 (by decide))]; exact i4) (show (F92 27) ≤ 400 ∧ (T1) ≤ 1000000 by omega)) rfl rfl rfl I94.rc ?_
          rintro x141 h142 F143 A144 I145 ⟨k147, k148, p146⟩
          replace p146 : nt (A144 24) (A144 25) (A144 26) (F143 28) ((T1) + 1) (F143 27) ∧ (x141.toInt = -2 ∨ x141.toInt = -1 ∨ (1 ≤ x141.toInt ∧ x141.toInt ≤ 5)) := p146
          obtain ⟨p146a, p146b⟩ := p146
          show am_Ok _ _ _ (66, _, [.inl x141], _, 0, 0) _
          obtain ⟨n1, ⟨lm9, n2⟩, n3, n4⟩ := id p146a
          refine k_istore 68 rfl rfl ?_
          refine k_iload 69 rfl (gs_ne rfl rfl (gs_ne rfl rfl g3)) rfl ?_
          refine k_iload 71 rfl gs_eq rfl ?_
          refine k_push 72 rfl rfl ?_
          have hc149 : (1 : Int32).toInt = 1 := by decide
          by_cases b150 : x141 = (1 : Int32)
          · refine k_c2 75 rfl rfl (if_pos b150) ?_
            have b150 := iv_eq.mp b150
            refine k_push 76 rfl rfl ?_
            refine k_goto 80 rfl rfl ?_
            obtain ⟨x151, q152⟩ : ∃ q : Int32, q = (v3 + (1 : Int32)) := ⟨_, rfl⟩
            refine k_bin x151 81 rfl q152.symm rfl ?_
            refine k_istore 82 rfl rfl ?_
            refine k_iload 84 rfl (gs_ne rfl rfl (gs_ne rfl rfl (gs_ne rfl rfl g4))) rfl ?_
            refine k_iload 86 rfl (gs_ne rfl rfl gs_eq) rfl ?_
            by_cases b154 : x141 ≤ 0
            · refine k_c1 93 rfl rfl (if_pos b154) ?_
              have b154 := iv_le0.mp b154
              refine k_push 94 rfl rfl ?_
              have hc155 : (0 : Int32).toInt = 0 := by decide
              obtain ⟨x156, q157⟩ : ∃ q : Int32, q = (v4 + (0 : Int32)) := ⟨_, rfl⟩
              have e158 : x156.toInt = v4.toInt + 0 := by rw [q157, iv_add (by omega) (by omega)]; omega
              refine k_bin x156 95 rfl q157.symm rfl ?_
              refine k_istore 97 rfl rfl ?_
              refine k_goto 30 rfl rfl ?_
              have e159 : F143 37 = F92 37 := k147 37 (by decide)
              have e160 : F92 37 = F 37 := k96 37 (by decide)
              have e161 : F143 36 = F92 36 := k147 36 (by decide)
              have e162 : F92 36 = F 36 := k96 36 (by decide)
              exact ih _ (show ((10 * (400 - x156.toInt) + x141.toInt + 2).toNat) < n by omega) (lm1 := lm9) (T1 := T1 + 1) rfl (gs_ne rfl rfl (gs_ne rfl rfl (gs_ne rfl rfl (gs_ne rfl rfl g0)))) (gs_ne rfl rfl (gs_ne rfl rfl (gs_ne rfl rfl (gs_ne rfl rfl g1)))) (gs_ne rfl rfl (gs_ne rfl rfl (gs_ne rfl rfl (gs_ne rfl rfl g2)))) (gs_ne rfl rfl gs_eq) gs_eq (gs_ne rfl rfl (gs_ne rfl rfl gs_eq)) I145 (fr1.tr (by decide) (fr1.tr (by decide) hF k96) k147) (fr2.tr (by decide) (fr2.tr (by decide) hA k97) k148) (show 0 ≤ x156.toInt ∧ x156.toInt ≤ 400 ∧ -2 ≤ x141.toInt ∧ x141.toInt ≤ 5 by omega) (show nn ((A144 24)) ((A144 25)) ((F143 28)) (T1 + 1) from n1) (show nw ((A144 24)) ((A144 25)) ((A144 26)) (lm9) ((F143 28)) from n2) (show (F143 27) = cn ((A144 24)) ((F143 28)).toNat from n3) (show wr A144 from p95a.fr k148 (by decide)) (show wq A144 from p95b.fr k148 (by decide)) (show (A144 2) 2 = A0 2 2 from (congrFun (k148 2 (by decide)) 2).trans ((p95c 2 (by decide)).trans i8)) (show ∀ q : Int, 2600 ≤ q → (A144 1) q = A0 1 q from fun q hq => (congrFun (k148 1 (by decide)) q).trans ((p95d q (Int.le_trans (by decide) hq)).trans (i9 q hq))) (show (F143 27) ≤ 400 ∧ (T1 + 1) ≤ gT + x156.toInt + 1 ∧ (0 < x141.toInt → (T1 + 1) ≤ gT + x156.toInt) by omega) (show nt ((A144 33)) ((A144 34)) ((A144 35)) ((F143 37)) gT ((F143 36)) by rw [((k148 33 (by decide)).trans (k97 33 (by decide))), ((k148 34 (by decide)).trans (k97 34 (by decide))), ((k148 35 (by decide)).trans (k97 35 (by decide))), ((k147 37 (by decide)).trans (k96 37 (by decide))), ((k147 36 (by decide)).trans (k96 36 (by decide)))]; exact ia)
            · refine k_c1 89 rfl rfl (if_neg b154) ?_
              have b154 := mt iv_le0.mpr b154
              refine k_push 90 rfl rfl ?_
              refine k_goto 94 rfl rfl ?_
              obtain ⟨x163, q164⟩ : ∃ q : Int32, q = (v4 + (1 : Int32)) := ⟨_, rfl⟩
              have e165 : x163.toInt = v4.toInt + 1 := by rw [q164, iv_add (by omega) (by omega)]; omega
              refine k_bin x163 95 rfl q164.symm rfl ?_
              refine k_istore 97 rfl rfl ?_
              refine k_goto 30 rfl rfl ?_
              have e166 : F143 37 = F92 37 := k147 37 (by decide)
              have e167 : F92 37 = F 37 := k96 37 (by decide)
              have e168 : F143 36 = F92 36 := k147 36 (by decide)
              have e169 : F92 36 = F 36 := k96 36 (by decide)
              exact ih _ (show ((10 * (400 - x163.toInt) + x141.toInt + 2).toNat) < n by omega) (lm1 := lm9) (T1 := T1 + 1) rfl (gs_ne rfl rfl (gs_ne rfl rfl (gs_ne rfl rfl (gs_ne rfl rfl g0)))) (gs_ne rfl rfl (gs_ne rfl rfl (gs_ne rfl rfl (gs_ne rfl rfl g1)))) (gs_ne rfl rfl (gs_ne rfl rfl (gs_ne rfl rfl (gs_ne rfl rfl g2)))) (gs_ne rfl rfl gs_eq) gs_eq (gs_ne rfl rfl (gs_ne rfl rfl gs_eq)) I145 (fr1.tr (by decide) (fr1.tr (by decide) hF k96) k147) (fr2.tr (by decide) (fr2.tr (by decide) hA k97) k148) (show 0 ≤ x163.toInt ∧ x163.toInt ≤ 400 ∧ -2 ≤ x141.toInt ∧ x141.toInt ≤ 5 by omega) (show nn ((A144 24)) ((A144 25)) ((F143 28)) (T1 + 1) from n1) (show nw ((A144 24)) ((A144 25)) ((A144 26)) (lm9) ((F143 28)) from n2) (show (F143 27) = cn ((A144 24)) ((F143 28)).toNat from n3) (show wr A144 from p95a.fr k148 (by decide)) (show wq A144 from p95b.fr k148 (by decide)) (show (A144 2) 2 = A0 2 2 from (congrFun (k148 2 (by decide)) 2).trans ((p95c 2 (by decide)).trans i8)) (show ∀ q : Int, 2600 ≤ q → (A144 1) q = A0 1 q from fun q hq => (congrFun (k148 1 (by decide)) q).trans ((p95d q (Int.le_trans (by decide) hq)).trans (i9 q hq))) (show (F143 27) ≤ 400 ∧ (T1 + 1) ≤ gT + x163.toInt + 1 ∧ (0 < x141.toInt → (T1 + 1) ≤ gT + x163.toInt) by omega) (show nt ((A144 33)) ((A144 34)) ((A144 35)) ((F143 37)) gT ((F143 36)) by rw [((k148 33 (by decide)).trans (k97 33 (by decide))), ((k148 34 (by decide)).trans (k97 34 (by decide))), ((k148 35 (by decide)).trans (k97 35 (by decide))), ((k147 37 (by decide)).trans (k96 37 (by decide))), ((k147 36 (by decide)).trans (k96 36 (by decide)))]; exact ia)
          · refine k_c2 79 rfl rfl (if_neg b150) ?_
            have b150 := mt iv_eq.mpr b150
            refine k_push 80 rfl rfl ?_
            have hc170 : (0 : Int32).toInt = 0 := by decide
            obtain ⟨x171, q172⟩ : ∃ q : Int32, q = (v3 + (0 : Int32)) := ⟨_, rfl⟩
            refine k_bin x171 81 rfl q172.symm rfl ?_
            refine k_istore 82 rfl rfl ?_
            refine k_iload 84 rfl (gs_ne rfl rfl (gs_ne rfl rfl (gs_ne rfl rfl g4))) rfl ?_
            refine k_iload 86 rfl (gs_ne rfl rfl gs_eq) rfl ?_
            by_cases b174 : x141 ≤ 0
            · refine k_c1 93 rfl rfl (if_pos b174) ?_
              have b174 := iv_le0.mp b174
              refine k_push 94 rfl rfl ?_
              obtain ⟨x175, q176⟩ : ∃ q : Int32, q = (v4 + (0 : Int32)) := ⟨_, rfl⟩
              have e177 : x175.toInt = v4.toInt + 0 := by rw [q176, iv_add (by omega) (by omega)]; omega
              refine k_bin x175 95 rfl q176.symm rfl ?_
              refine k_istore 97 rfl rfl ?_
              refine k_goto 30 rfl rfl ?_
              have e178 : F143 37 = F92 37 := k147 37 (by decide)
              have e179 : F92 37 = F 37 := k96 37 (by decide)
              have e180 : F143 36 = F92 36 := k147 36 (by decide)
              have e181 : F92 36 = F 36 := k96 36 (by decide)
              exact ih _ (show ((10 * (400 - x175.toInt) + x141.toInt + 2).toNat) < n by omega) (lm1 := lm9) (T1 := T1 + 1) rfl (gs_ne rfl rfl (gs_ne rfl rfl (gs_ne rfl rfl (gs_ne rfl rfl g0)))) (gs_ne rfl rfl (gs_ne rfl rfl (gs_ne rfl rfl (gs_ne rfl rfl g1)))) (gs_ne rfl rfl (gs_ne rfl rfl (gs_ne rfl rfl (gs_ne rfl rfl g2)))) (gs_ne rfl rfl gs_eq) gs_eq (gs_ne rfl rfl (gs_ne rfl rfl gs_eq)) I145 (fr1.tr (by decide) (fr1.tr (by decide) hF k96) k147) (fr2.tr (by decide) (fr2.tr (by decide) hA k97) k148) (show 0 ≤ x175.toInt ∧ x175.toInt ≤ 400 ∧ -2 ≤ x141.toInt ∧ x141.toInt ≤ 5 by omega) (show nn ((A144 24)) ((A144 25)) ((F143 28)) (T1 + 1) from n1) (show nw ((A144 24)) ((A144 25)) ((A144 26)) (lm9) ((F143 28)) from n2) (show (F143 27) = cn ((A144 24)) ((F143 28)).toNat from n3) (show wr A144 from p95a.fr k148 (by decide)) (show wq A144 from p95b.fr k148 (by decide)) (show (A144 2) 2 = A0 2 2 from (congrFun (k148 2 (by decide)) 2).trans ((p95c 2 (by decide)).trans i8)) (show ∀ q : Int, 2600 ≤ q → (A144 1) q = A0 1 q from fun q hq => (congrFun (k148 1 (by decide)) q).trans ((p95d q (Int.le_trans (by decide) hq)).trans (i9 q hq))) (show (F143 27) ≤ 400 ∧ (T1 + 1) ≤ gT + x175.toInt + 1 ∧ (0 < x141.toInt → (T1 + 1) ≤ gT + x175.toInt) by omega) (show nt ((A144 33)) ((A144 34)) ((A144 35)) ((F143 37)) gT ((F143 36)) by rw [((k148 33 (by decide)).trans (k97 33 (by decide))), ((k148 34 (by decide)).trans (k97 34 (by decide))), ((k148 35 (by decide)).trans (k97 35 (by decide))), ((k147 37 (by decide)).trans (k96 37 (by decide))), ((k147 36 (by decide)).trans (k96 36 (by decide)))]; exact ia)
            · refine k_c1 89 rfl rfl (if_neg b174) ?_
              have b174 := mt iv_le0.mpr b174
              refine k_push 90 rfl rfl ?_
              refine k_goto 94 rfl rfl ?_
              obtain ⟨x182, q183⟩ : ∃ q : Int32, q = (v4 + (1 : Int32)) := ⟨_, rfl⟩
              have e184 : x182.toInt = v4.toInt + 1 := by rw [q183, iv_add (by omega) (by omega)]; omega
              refine k_bin x182 95 rfl q183.symm rfl ?_
              refine k_istore 97 rfl rfl ?_
              refine k_goto 30 rfl rfl ?_
              have e185 : F143 37 = F92 37 := k147 37 (by decide)
              have e186 : F92 37 = F 37 := k96 37 (by decide)
              have e187 : F143 36 = F92 36 := k147 36 (by decide)
              have e188 : F92 36 = F 36 := k96 36 (by decide)
              exact ih _ (show ((10 * (400 - x182.toInt) + x141.toInt + 2).toNat) < n by omega) (lm1 := lm9) (T1 := T1 + 1) rfl (gs_ne rfl rfl (gs_ne rfl rfl (gs_ne rfl rfl (gs_ne rfl rfl g0)))) (gs_ne rfl rfl (gs_ne rfl rfl (gs_ne rfl rfl (gs_ne rfl rfl g1)))) (gs_ne rfl rfl (gs_ne rfl rfl (gs_ne rfl rfl (gs_ne rfl rfl g2)))) (gs_ne rfl rfl gs_eq) gs_eq (gs_ne rfl rfl (gs_ne rfl rfl gs_eq)) I145 (fr1.tr (by decide) (fr1.tr (by decide) hF k96) k147) (fr2.tr (by decide) (fr2.tr (by decide) hA k97) k148) (show 0 ≤ x182.toInt ∧ x182.toInt ≤ 400 ∧ -2 ≤ x141.toInt ∧ x141.toInt ≤ 5 by omega) (show nn ((A144 24)) ((A144 25)) ((F143 28)) (T1 + 1) from n1) (show nw ((A144 24)) ((A144 25)) ((A144 26)) (lm9) ((F143 28)) from n2) (show (F143 27) = cn ((A144 24)) ((F143 28)).toNat from n3) (show wr A144 from p95a.fr k148 (by decide)) (show wq A144 from p95b.fr k148 (by decide)) (show (A144 2) 2 = A0 2 2 from (congrFun (k148 2 (by decide)) 2).trans ((p95c 2 (by decide)).trans i8)) (show ∀ q : Int, 2600 ≤ q → (A144 1) q = A0 1 q from fun q hq => (congrFun (k148 1 (by decide)) q).trans ((p95d q (Int.le_trans (by decide) hq)).trans (i9 q hq))) (show (F143 27) ≤ 400 ∧ (T1 + 1) ≤ gT + x182.toInt + 1 ∧ (0 < x141.toInt → (T1 + 1) ≤ gT + x182.toInt) by omega) (show nt ((A144 33)) ((A144 34)) ((A144 35)) ((F143 37)) gT ((F143 36)) by rw [((k148 33 (by decide)).trans (k97 33 (by decide))), ((k148 34 (by decide)).trans (k97 34 (by decide))), ((k148 35 (by decide)).trans (k97 35 (by decide))), ((k147 37 (by decide)).trans (k96 37 (by decide))), ((k147 36 (by decide)).trans (k96 36 (by decide)))]; exact ia)
theorem m_tries {h0 : am_h} {F0 : rf_f} {A0 : rf_A} {w1 : Int32} {lm : Int → Int} {gT : Int} (hR : rf_R h0 F0 A0) (p1 : nn (A0 24) (A0 25) (F0 28) gT) (p2 : nw (A0 24) (A0 25) (A0 26) lm (F0 28)) (p5 : wr A0) (p6 : wq A0) (p3 : F0 27 = cn (A0 24) (F0 28).toNat) (p4 : F0 27 ≤ 400 ∧ gT ≤ 800000) : am_Mt 8 221 [.inr (.inr (some 81)), .inl w1] h0 (rf_V h0 (fun F' A' => fr1 [59, 55, 50, 48, 62, 63, 64, 65, 28, 27, 32, 36, 37] F0 F' ∧ fr2 [1, 2, 56, 57, 58, 61, 49, 51, 52, 53, 54, 60, 43, 44, 45, 46, 47, 24, 25, 26, 40, 41, 33, 34, 35, 42] A0 A' ∧ (nt (A' 24) (A' 25) (A' 26) (F' 28) gT (F' 27) ∧ (wr A' ∧ wq A' ∧ A' 2 2 = A0 2 2 ∧ (∀ q : Int, 2600 ≤ q → A' 1 q = A0 1 q))))) := by
  refine am_Mt.of (D := 7) ?_
  have hI : rf_I h0 h0 F0 A0 := rf_I.start hR
  have hb1 := p1.1
  have hb2 := p1.2.1
  refine k_aload 1 rfl rfl rfl ?_
  refine k_rv hI rfl (m_keepsNet  hI.1 (show 0 ≤ (F0 28) ∧ (F0 28) ≤ 400 by omega)) rfl rfl rfl hI.rc ?_
  rintro h190 F191 A192 I193 ⟨k195, k196, p194⟩
  replace p194 : (F191 36 = (F0 27) ∧ F191 37 = (F0 28)) ∧ (∀ j : Int, 0 ≤ j → j < (F0 28) → A192 33 j = (A0 24) j ∧ A192 34 j = (A0 25) j) ∧ (∀ p : Int, 0 ≤ p → p < 4 * (F0 28) → A192 35 p = (A0 26) p) := p194
  obtain ⟨p194a, p194b, p194c⟩ := p194
  show am_Ok _ _ _ (4, _, [], _, 0, 0) _
  have hold : nt (A192 33) (A192 34) (A192 35) (F0 28) gT (F0 27) := (nt_of p1 p2 p3 p4.1 (by omega)).agree p194b p194c
  have hold1 := p194a
  refine k_aload 5 rfl rfl rfl ?_
  refine r_gI I193 8 rfl rfl rfl (fun x197 (e198 : x197.toInt = F191 32) => ?_)
  have e199 : F191 32 = F0 32 := k195 32 (by decide)
  refine k_istore 9 rfl rfl ?_
  refine k_aload 10 rfl (gs_ne rfl rfl rfl) rfl ?_
  refine r_gA I193 13 rfl rfl rfl ?_
  refine k_push 14 rfl rfl ?_
  have hc200 : (1 : Int32).toInt = 1 := by decide
  refine r_ld 31 I193 15 rfl rfl (by omega) (show (1 : Int32).toInt < 6 by omega) rfl (fun x201 (e202 : x201.toInt = A192 31 (1 : Int32).toInt) => ?_)
  rw [hc200] at e202
  have e203 : A192 31 = A0 31 := k196 31 (by decide)
  rw [e203] at e202
  refine k_istore 16 rfl rfl ?_
  refine k_aload 17 rfl (gs_ne rfl rfl (gs_ne rfl rfl rfl)) rfl ?_
  refine k_aload 18 rfl (gs_ne rfl rfl (gs_ne rfl rfl rfl)) rfl ?_
  refine r_gI I193 21 rfl rfl rfl (fun x204 (e205 : x204.toInt = F191 27) => ?_)
  have e206 : F191 27 = F0 27 := k195 27 (by decide)
  refine r_pI I193 24 rfl rfl rfl (fun h207 I208 => ?_)
  refine k_push 25 rfl rfl ?_
  have hc209 : (0 : Int32).toInt = 0 := by decide
  refine k_istore 27 rfl rfl ?_
  refine k_push 28 rfl rfl ?_
  refine k_istore 30 rfl rfl ?_
  have e210 : F191 28 = F0 28 := k195 28 (by decide)
  exact b_X10_tries_30 (lm := lm) (gT := gT) (w1 := w1) p1 p2 p5 p6 p3 p4 _ (lm1 := lm) (T1 := gT) rfl (gs_ne rfl rfl (gs_ne rfl rfl (gs_ne rfl rfl (gs_ne rfl rfl rfl)))) (gs_ne rfl rfl (gs_ne rfl rfl (gs_ne rfl rfl (gs_ne rfl rfl rfl)))) (gs_ne rfl rfl (gs_ne rfl rfl (gs_ne rfl rfl gs_eq))) (gs_ne rfl rfl (gs_ne rfl rfl gs_eq)) (gs_ne rfl rfl gs_eq) gs_eq I208 (fr1.up (by decide) (fr1.tr (by decide) fr1.rf k195)) (fr2.tr (by decide) fr2.rf k196) (show 0 ≤ (0 : Int32).toInt ∧ (0 : Int32).toInt ≤ 400 ∧ -2 ≤ (1 : Int32).toInt ∧ (1 : Int32).toInt ≤ 5 by omega) (show nn ((A192 24)) ((A192 25)) ((F191 28)) (gT) by rw [(k196 24 (by decide)), (k196 25 (by decide)), (k195 28 (by decide))]; exact p1) (show nw ((A192 24)) ((A192 25)) ((A192 26)) (lm) ((F191 28)) by rw [(k196 24 (by decide)), (k196 25 (by decide)), (k196 26 (by decide)), (k195 28 (by decide))]; exact p2) (show (F191 27) = cn ((A192 24)) ((F191 28)).toNat by rw [(k196 24 (by decide)), (k195 28 (by decide)), (k195 27 (by decide))]; exact p3) (show wr A192 from p5.fr k196 (by decide)) (show wq A192 from p6.fr k196 (by decide)) (show (A192 2) 2 = A0 2 2 by rw [k196 2 (by decide)]) (show ∀ q : Int, 2600 ≤ q → (A192 1) q = A0 1 q by rw [k196 1 (by decide)]; exact fun q _ => rfl) (show (F191 27) ≤ 400 ∧ (gT) ≤ gT + (0 : Int32).toInt + 1 ∧ (0 < (1 : Int32).toInt → (gT) ≤ gT + (0 : Int32).toInt) by omega) (show nt ((A192 33)) ((A192 34)) ((A192 35)) ((F191 37)) gT ((F191 36)) by rw [hold1.1, hold1.2]; exact hold)
theorem m_trial {h0 : am_h} {F0 : rf_f} {A0 : rf_A} {w1 : Int32} {w2 : Int32} {lm : Int → Int} {gT : Int} (hR : rf_R h0 F0 A0) (p1 : nn (A0 24) (A0 25) (F0 28) gT) (p2 : nw (A0 24) (A0 25) (A0 26) lm (F0 28)) (p5 : wr A0) (p6 : wq A0) (p3 : F0 27 = cn (A0 24) (F0 28).toNat) (p4 : F0 27 ≤ 400 ∧ gT ≤ 800000) : am_Mt 9 222 [.inr (.inr (some 81)), .inl w1, .inl w2] h0 (rf_Q h0 (fun x F' A' => fr1 [59, 55, 50, 48, 62, 63, 64, 65, 28, 27, 32, 36, 37, 0] F0 F' ∧ fr2 [1, 2, 56, 57, 58, 61, 49, 51, 52, 53, 54, 60, 43, 44, 45, 46, 47, 24, 25, 26, 40, 41, 33, 34, 35, 42] A0 A' ∧ (nt (A' 24) (A' 25) (A' 26) (F' 28) gT (F' 27) ∧ (wr A' ∧ wq A' ∧ A' 2 2 = A0 2 2 ∧ (∀ q : Int, 2600 ≤ q → A' 1 q = A0 1 q))))) := by
  refine am_Mt.of (D := 8) ?_
  have hI : rf_I h0 h0 F0 A0 := rf_I.start hR
  refine k_aload 1 rfl rfl rfl ?_
  refine k_push 2 rfl rfl ?_
  have hc1 : (0 : Int32).toInt = 0 := by decide
  refine r_pI hI 5 rfl rfl rfl (fun h2 I3 => ?_)
  refine k_aload 6 rfl rfl rfl ?_
  refine k_iload 7 rfl rfl rfl ?_
  refine k_in (d := 1) rfl rfl rfl rfl rfl ?_
  refine k_iload 1 rfl rfl rfl ?_
  refine k_push 2 rfl rfl ?_
  refine k_push 3 rfl rfl ?_
  have hc4 : (2 : Int32).toInt = 2 := by decide
  refine k_in (d := 0) rfl rfl rfl rfl rfl ?_
  refine k_iload 1 rfl rfl rfl ?_
  refine k_iload 2 rfl rfl rfl ?_
  by_cases b5 : w1 < (0 : Int32)
  · refine k_c2 14 rfl rfl (if_pos b5) ?_
    have b5 := iv_lt.mp b5
    refine k_push 15 rfl rfl ?_
    refine k_fin rfl (fin_Z (Or.inl rfl)) ⟨_, _, rfl, rf_len I3 I3, ?_⟩
    show am_Ok _ _ _ (6, _, [.inl (0 : Int32)], _, 0, 0) _
    refine k_fin rfl (fin_Z (Or.inl rfl)) ⟨_, _, rfl, rf_len I3 I3, ?_⟩
    show am_Ok _ _ _ (10, _, [.inl (0 : Int32), .inr (.inr (some 81))], _, 0, 0) _
    refine k_push 11 rfl rfl ?_
    have hc6 : (1 : Int32).toInt = 1 := by decide
    refine k_in (d := 0) rfl rfl rfl rfl I3.rc ?_
    refine k_aload 1 rfl rfl rfl ?_
    refine r_gI I3 4 rfl rfl rfl (fun x7 (e8 : x7.toInt = (0 : Int32).toInt) => ?_)
    by_cases b9 : x7 = 0
    · refine k_c1 7 rfl rfl (if_pos b9) ?_
      have b9 := iv_eq0.mp b9
      refine k_iload 8 rfl rfl rfl ?_
      refine k_c1 11 rfl rfl (if_pos (by decide)) ?_
      refine k_aload 12 rfl rfl rfl ?_
      refine k_iload 13 rfl rfl rfl ?_
      refine r_pI I3 16 rfl rfl rfl (fun h10 I11 => ?_)
      refine k_aload 17 rfl rfl rfl ?_
      refine r_gI I11 20 rfl rfl rfl (fun x12 (e13 : x12.toInt = (1 : Int32).toInt) => ?_)
      by_cases b14 : x12 = 0
      · refine k_c1 23 rfl rfl (if_pos b14) ?_
        have b14 := iv_eq0.mp b14
        refine k_push 24 rfl rfl ?_
        refine k_goto 28 rfl rfl ?_
        refine k_fin rfl (fin_Z (Or.inr rfl)) ⟨_, _, rfl, rf_len I3 I11, ?_⟩
        show am_Ok _ _ _ (14, _, [.inl (1 : Int32)], _, 0, 0) _
        refine k_c1 17 rfl rfl (if_neg (by decide)) ?_
        refine k_aload 18 rfl rfl rfl ?_
        refine k_iload 19 rfl rfl rfl ?_
        refine k_push 20 rfl rfl ?_
        refine k_push 21 rfl rfl ?_
        have hc15 : (3 : Int32).toInt = 3 := by decide
        refine k_in (d := 0) rfl rfl rfl rfl rfl ?_
        refine k_iload 1 rfl rfl rfl ?_
        refine k_iload 2 rfl rfl rfl ?_
        by_cases b16 : w2 < (0 : Int32)
        · refine k_c2 14 rfl rfl (if_pos b16) ?_
          have b16 := iv_lt.mp b16
          refine k_push 15 rfl rfl ?_
          refine k_fin rfl (fin_Z (Or.inl rfl)) ⟨_, _, rfl, rf_len I11 I11, ?_⟩
          show am_Ok _ _ _ (24, _, [.inl (0 : Int32), .inr (.inr (some 81))], _, 0, 0) _
          refine k_push 25 rfl rfl ?_
          refine k_in (d := 0) rfl rfl rfl rfl I11.rc ?_
          refine k_aload 1 rfl rfl rfl ?_
          refine r_gI I11 4 rfl rfl rfl (fun x17 (e18 : x17.toInt = (1 : Int32).toInt) => ?_)
          by_cases b19 : x17 = 0
          · refine k_c1 7 rfl rfl (if_pos b19) ?_
            have b19 := iv_eq0.mp b19
            refine k_iload 8 rfl rfl rfl ?_
            refine k_c1 11 rfl rfl (if_pos (by decide)) ?_
            refine k_aload 12 rfl rfl rfl ?_
            refine k_iload 13 rfl rfl rfl ?_
            refine r_pI I11 16 rfl rfl rfl (fun h20 I21 => ?_)
            refine k_aload 17 rfl rfl rfl ?_
            refine r_gI I21 20 rfl rfl rfl (fun x22 (e23 : x22.toInt = (2 : Int32).toInt) => ?_)
            by_cases b24 : x22 = 0
            · refine k_c1 23 rfl rfl (if_pos b24) ?_
              have b24 := iv_eq0.mp b24
              refine k_push 24 rfl rfl ?_
              refine k_goto 28 rfl rfl ?_
              refine k_fin rfl (fin_Z (Or.inr rfl)) ⟨_, _, rfl, rf_len I11 I21, ?_⟩
              show am_Ok _ _ _ (28, _, [.inl (1 : Int32)], _, 0, 0) _
              refine k_c1 33 rfl rfl (if_neg (by decide)) ?_
              refine k_aload 34 rfl rfl rfl ?_
              refine k_iload 35 rfl rfl rfl ?_
              refine k_rv I21 rfl (m_tries (lm := lm) (gT := gT) I21.1 (show nn ((A0 24)) ((A0 25)) ((F0 28)) (gT) from p1) (show nw ((A0 24)) ((A0 25)) ((A0 26)) (lm) ((F0 28)) from p2) (show wr A0 from p5) (show wq A0 from p6) (show (F0 27) = cn ((A0 24)) ((F0 28)).toNat from p3) (show (F0 27) ≤ 400 ∧ (gT) ≤ 800000 by omega)) rfl rfl rfl I21.rc ?_
              rintro h26 F27 A28 I29 ⟨k31, k32, p30⟩
              replace p30 : nt (A28 24) (A28 25) (A28 26) (F27 28) (gT) (F27 27) ∧ (wr A28 ∧ wq A28 ∧ A28 2 2 = (A0 2) 2 ∧ (∀ q : Int, 2600 ≤ q → A28 1 q = (A0 1) q)) := p30
              obtain ⟨p30a, p30b, p30c, p30d, p30e⟩ := p30
              show am_Ok _ _ _ (38, _, [], _, 0, 0) _
              refine k_aload 39 rfl rfl rfl ?_
              refine r_gA I29 42 rfl rfl rfl ?_
              refine k_iload 43 rfl rfl rfl ?_
              refine r_ld 42 I29 44 rfl rfl (by omega) (show w2.toInt < 4 by omega) rfl (fun x33 (e34 : x33.toInt = A28 42 w2.toInt) => ?_)
              exact k_fin rfl rfl ⟨_, _, _, _, rfl, I29, (fr1.tr (by decide) (fr1.up (by decide) (fr1.up (by decide) (fr1.up (by decide) fr1.rf))) k31), (fr2.tr (by decide) fr2.rf k32), ⟨p30a, p30b, p30c, p30d, p30e⟩⟩
            · refine k_c1 27 rfl rfl (if_neg b24) ?_
              have b24 := mt iv_eq0.mpr b24
              refine k_push 28 rfl rfl ?_
              refine k_fin rfl (fin_Z (Or.inl rfl)) ⟨_, _, rfl, rf_len I11 I21, ?_⟩
              show am_Ok _ _ _ (28, _, [.inl (0 : Int32)], _, 0, 0) _
              refine k_c1 31 rfl rfl (if_pos (by decide)) ?_
              refine k_push 32 rfl rfl ?_
              exact k_fin rfl rfl ⟨_, _, _, _, rfl, I21, (fr1.up (by decide) (fr1.up (by decide) (fr1.up (by decide) fr1.rf))), fr2.rf, ⟨nt_of p1 p2 p3 p4.1 (by omega), p5, p6, rfl, fun q _ => rfl⟩⟩
          · refine k_c1 16 rfl rfl (if_neg b19) ?_
            have b19 := mt iv_eq0.mpr b19
            refine k_aload 17 rfl rfl rfl ?_
            refine r_gI I11 20 rfl rfl rfl (fun x35 (e36 : x35.toInt = (1 : Int32).toInt) => ?_)
            by_cases b37 : x35 = 0
            · refine k_c1 23 rfl rfl (if_pos b37) ?_
              have b37 := iv_eq0.mp b37
              refine k_push 24 rfl rfl ?_
              refine k_goto 28 rfl rfl ?_
              refine k_fin rfl (fin_Z (Or.inr rfl)) ⟨_, _, rfl, rf_len I11 I11, ?_⟩
              show am_Ok _ _ _ (28, _, [.inl (1 : Int32)], _, 0, 0) _
              refine k_c1 33 rfl rfl (if_neg (by decide)) ?_
              refine k_aload 34 rfl rfl rfl ?_
              refine k_iload 35 rfl rfl rfl ?_
              refine k_rv I11 rfl (m_tries (lm := lm) (gT := gT) I11.1 (show nn ((A0 24)) ((A0 25)) ((F0 28)) (gT) from p1) (show nw ((A0 24)) ((A0 25)) ((A0 26)) (lm) ((F0 28)) from p2) (show wr A0 from p5) (show wq A0 from p6) (show (F0 27) = cn ((A0 24)) ((F0 28)).toNat from p3) (show (F0 27) ≤ 400 ∧ (gT) ≤ 800000 by omega)) rfl rfl rfl I11.rc ?_
              rintro h39 F40 A41 I42 ⟨k44, k45, p43⟩
              replace p43 : nt (A41 24) (A41 25) (A41 26) (F40 28) (gT) (F40 27) ∧ (wr A41 ∧ wq A41 ∧ A41 2 2 = (A0 2) 2 ∧ (∀ q : Int, 2600 ≤ q → A41 1 q = (A0 1) q)) := p43
              obtain ⟨p43a, p43b, p43c, p43d, p43e⟩ := p43
              show am_Ok _ _ _ (38, _, [], _, 0, 0) _
              refine k_aload 39 rfl rfl rfl ?_
              refine r_gA I42 42 rfl rfl rfl ?_
              refine k_iload 43 rfl rfl rfl ?_
              refine r_ld 42 I42 44 rfl rfl (by omega) (show w2.toInt < 4 by omega) rfl (fun x46 (e47 : x46.toInt = A41 42 w2.toInt) => ?_)
              exact k_fin rfl rfl ⟨_, _, _, _, rfl, I42, (fr1.tr (by decide) (fr1.up (by decide) (fr1.up (by decide) fr1.rf)) k44), (fr2.tr (by decide) fr2.rf k45), ⟨p43a, p43b, p43c, p43d, p43e⟩⟩
            · refine k_c1 27 rfl rfl (if_neg b37) ?_
              have b37 := mt iv_eq0.mpr b37
              refine k_push 28 rfl rfl ?_
              refine k_fin rfl (fin_Z (Or.inl rfl)) ⟨_, _, rfl, rf_len I11 I11, ?_⟩
              show am_Ok _ _ _ (28, _, [.inl (0 : Int32)], _, 0, 0) _
              refine k_c1 31 rfl rfl (if_pos (by decide)) ?_
              refine k_push 32 rfl rfl ?_
              exact k_fin rfl rfl ⟨_, _, _, _, rfl, I11, (fr1.up (by decide) (fr1.up (by decide) fr1.rf)), fr2.rf, ⟨nt_of p1 p2 p3 p4.1 (by omega), p5, p6, rfl, fun q _ => rfl⟩⟩
        · refine k_c2 5 rfl rfl (if_neg b16) ?_
          have b16 := mt iv_lt.mpr b16
          refine k_iload 6 rfl rfl rfl ?_
          refine k_iload 7 rfl rfl rfl ?_
          by_cases b48 : (3 : Int32) < w2
          · refine k_c2 14 rfl rfl (if_pos b48) ?_
            have b48 := iv_lt.mp b48
            refine k_push 15 rfl rfl ?_
            refine k_fin rfl (fin_Z (Or.inl rfl)) ⟨_, _, rfl, rf_len I11 I11, ?_⟩
            show am_Ok _ _ _ (24, _, [.inl (0 : Int32), .inr (.inr (some 81))], _, 0, 0) _
            refine k_push 25 rfl rfl ?_
            refine k_in (d := 0) rfl rfl rfl rfl I11.rc ?_
            refine k_aload 1 rfl rfl rfl ?_
            refine r_gI I11 4 rfl rfl rfl (fun x49 (e50 : x49.toInt = (1 : Int32).toInt) => ?_)
            by_cases b51 : x49 = 0
            · refine k_c1 7 rfl rfl (if_pos b51) ?_
              have b51 := iv_eq0.mp b51
              refine k_iload 8 rfl rfl rfl ?_
              refine k_c1 11 rfl rfl (if_pos (by decide)) ?_
              refine k_aload 12 rfl rfl rfl ?_
              refine k_iload 13 rfl rfl rfl ?_
              refine r_pI I11 16 rfl rfl rfl (fun h52 I53 => ?_)
              refine k_aload 17 rfl rfl rfl ?_
              refine r_gI I53 20 rfl rfl rfl (fun x54 (e55 : x54.toInt = (2 : Int32).toInt) => ?_)
              by_cases b56 : x54 = 0
              · refine k_c1 23 rfl rfl (if_pos b56) ?_
                have b56 := iv_eq0.mp b56
                refine k_push 24 rfl rfl ?_
                refine k_goto 28 rfl rfl ?_
                refine k_fin rfl (fin_Z (Or.inr rfl)) ⟨_, _, rfl, rf_len I11 I53, ?_⟩
                show am_Ok _ _ _ (28, _, [.inl (1 : Int32)], _, 0, 0) _
                refine k_c1 33 rfl rfl (if_neg (by decide)) ?_
                refine k_aload 34 rfl rfl rfl ?_
                refine k_iload 35 rfl rfl rfl ?_
                refine k_rv I53 rfl (m_tries (lm := lm) (gT := gT) I53.1 (show nn ((A0 24)) ((A0 25)) ((F0 28)) (gT) from p1) (show nw ((A0 24)) ((A0 25)) ((A0 26)) (lm) ((F0 28)) from p2) (show wr A0 from p5) (show wq A0 from p6) (show (F0 27) = cn ((A0 24)) ((F0 28)).toNat from p3) (show (F0 27) ≤ 400 ∧ (gT) ≤ 800000 by omega)) rfl rfl rfl I53.rc ?_
                rintro h58 F59 A60 I61 ⟨k63, k64, p62⟩
                replace p62 : nt (A60 24) (A60 25) (A60 26) (F59 28) (gT) (F59 27) ∧ (wr A60 ∧ wq A60 ∧ A60 2 2 = (A0 2) 2 ∧ (∀ q : Int, 2600 ≤ q → A60 1 q = (A0 1) q)) := p62
                obtain ⟨p62a, p62b, p62c, p62d, p62e⟩ := p62
                show am_Ok _ _ _ (38, _, [], _, 0, 0) _
                refine k_aload 39 rfl rfl rfl ?_
                refine r_gA I61 42 rfl rfl rfl ?_
                refine k_iload 43 rfl rfl rfl ?_
                refine r_ld 42 I61 44 rfl rfl (by omega) (show w2.toInt < 4 by omega) rfl (fun x65 (e66 : x65.toInt = A60 42 w2.toInt) => ?_)
                exact k_fin rfl rfl ⟨_, _, _, _, rfl, I61, (fr1.tr (by decide) (fr1.up (by decide) (fr1.up (by decide) (fr1.up (by decide) fr1.rf))) k63), (fr2.tr (by decide) fr2.rf k64), ⟨p62a, p62b, p62c, p62d, p62e⟩⟩
              · refine k_c1 27 rfl rfl (if_neg b56) ?_
                have b56 := mt iv_eq0.mpr b56
                refine k_push 28 rfl rfl ?_
                refine k_fin rfl (fin_Z (Or.inl rfl)) ⟨_, _, rfl, rf_len I11 I53, ?_⟩
                show am_Ok _ _ _ (28, _, [.inl (0 : Int32)], _, 0, 0) _
                refine k_c1 31 rfl rfl (if_pos (by decide)) ?_
                refine k_push 32 rfl rfl ?_
                exact k_fin rfl rfl ⟨_, _, _, _, rfl, I53, (fr1.up (by decide) (fr1.up (by decide) (fr1.up (by decide) fr1.rf))), fr2.rf, ⟨nt_of p1 p2 p3 p4.1 (by omega), p5, p6, rfl, fun q _ => rfl⟩⟩
            · refine k_c1 16 rfl rfl (if_neg b51) ?_
              have b51 := mt iv_eq0.mpr b51
              refine k_aload 17 rfl rfl rfl ?_
              refine r_gI I11 20 rfl rfl rfl (fun x67 (e68 : x67.toInt = (1 : Int32).toInt) => ?_)
              by_cases b69 : x67 = 0
              · refine k_c1 23 rfl rfl (if_pos b69) ?_
                have b69 := iv_eq0.mp b69
                refine k_push 24 rfl rfl ?_
                refine k_goto 28 rfl rfl ?_
                refine k_fin rfl (fin_Z (Or.inr rfl)) ⟨_, _, rfl, rf_len I11 I11, ?_⟩
                show am_Ok _ _ _ (28, _, [.inl (1 : Int32)], _, 0, 0) _
                refine k_c1 33 rfl rfl (if_neg (by decide)) ?_
                refine k_aload 34 rfl rfl rfl ?_
                refine k_iload 35 rfl rfl rfl ?_
                refine k_rv I11 rfl (m_tries (lm := lm) (gT := gT) I11.1 (show nn ((A0 24)) ((A0 25)) ((F0 28)) (gT) from p1) (show nw ((A0 24)) ((A0 25)) ((A0 26)) (lm) ((F0 28)) from p2) (show wr A0 from p5) (show wq A0 from p6) (show (F0 27) = cn ((A0 24)) ((F0 28)).toNat from p3) (show (F0 27) ≤ 400 ∧ (gT) ≤ 800000 by omega)) rfl rfl rfl I11.rc ?_
                rintro h71 F72 A73 I74 ⟨k76, k77, p75⟩
                replace p75 : nt (A73 24) (A73 25) (A73 26) (F72 28) (gT) (F72 27) ∧ (wr A73 ∧ wq A73 ∧ A73 2 2 = (A0 2) 2 ∧ (∀ q : Int, 2600 ≤ q → A73 1 q = (A0 1) q)) := p75
                obtain ⟨p75a, p75b, p75c, p75d, p75e⟩ := p75
                show am_Ok _ _ _ (38, _, [], _, 0, 0) _
                refine k_aload 39 rfl rfl rfl ?_
                refine r_gA I74 42 rfl rfl rfl ?_
                refine k_iload 43 rfl rfl rfl ?_
                refine r_ld 42 I74 44 rfl rfl (by omega) (show w2.toInt < 4 by omega) rfl (fun x78 (e79 : x78.toInt = A73 42 w2.toInt) => ?_)
                exact k_fin rfl rfl ⟨_, _, _, _, rfl, I74, (fr1.tr (by decide) (fr1.up (by decide) (fr1.up (by decide) fr1.rf)) k76), (fr2.tr (by decide) fr2.rf k77), ⟨p75a, p75b, p75c, p75d, p75e⟩⟩
              · refine k_c1 27 rfl rfl (if_neg b69) ?_
                have b69 := mt iv_eq0.mpr b69
                refine k_push 28 rfl rfl ?_
                refine k_fin rfl (fin_Z (Or.inl rfl)) ⟨_, _, rfl, rf_len I11 I11, ?_⟩
                show am_Ok _ _ _ (28, _, [.inl (0 : Int32)], _, 0, 0) _
                refine k_c1 31 rfl rfl (if_pos (by decide)) ?_
                refine k_push 32 rfl rfl ?_
                exact k_fin rfl rfl ⟨_, _, _, _, rfl, I11, (fr1.up (by decide) (fr1.up (by decide) fr1.rf)), fr2.rf, ⟨nt_of p1 p2 p3 p4.1 (by omega), p5, p6, rfl, fun q _ => rfl⟩⟩
          · refine k_c2 10 rfl rfl (if_neg b48) ?_
            have b48 := mt iv_lt.mpr b48
            refine k_push 11 rfl rfl ?_
            refine k_goto 15 rfl rfl ?_
            refine k_fin rfl (fin_Z (Or.inr rfl)) ⟨_, _, rfl, rf_len I11 I11, ?_⟩
            show am_Ok _ _ _ (24, _, [.inl (1 : Int32), .inr (.inr (some 81))], _, 0, 0) _
            refine k_push 25 rfl rfl ?_
            refine k_in (d := 0) rfl rfl rfl rfl I11.rc ?_
            refine k_aload 1 rfl rfl rfl ?_
            refine r_gI I11 4 rfl rfl rfl (fun x80 (e81 : x80.toInt = (1 : Int32).toInt) => ?_)
            by_cases b82 : x80 = 0
            · refine k_c1 7 rfl rfl (if_pos b82) ?_
              have b82 := iv_eq0.mp b82
              refine k_iload 8 rfl rfl rfl ?_
              refine k_c1 16 rfl rfl (if_neg (by decide)) ?_
              refine k_aload 17 rfl rfl rfl ?_
              refine r_gI I11 20 rfl rfl rfl (fun x83 (e84 : x83.toInt = (1 : Int32).toInt) => ?_)
              by_cases b85 : x83 = 0
              · refine k_c1 23 rfl rfl (if_pos b85) ?_
                have b85 := iv_eq0.mp b85
                refine k_push 24 rfl rfl ?_
                refine k_goto 28 rfl rfl ?_
                refine k_fin rfl (fin_Z (Or.inr rfl)) ⟨_, _, rfl, rf_len I11 I11, ?_⟩
                show am_Ok _ _ _ (28, _, [.inl (1 : Int32)], _, 0, 0) _
                refine k_c1 33 rfl rfl (if_neg (by decide)) ?_
                refine k_aload 34 rfl rfl rfl ?_
                refine k_iload 35 rfl rfl rfl ?_
                refine k_rv I11 rfl (m_tries (lm := lm) (gT := gT) I11.1 (show nn ((A0 24)) ((A0 25)) ((F0 28)) (gT) from p1) (show nw ((A0 24)) ((A0 25)) ((A0 26)) (lm) ((F0 28)) from p2) (show wr A0 from p5) (show wq A0 from p6) (show (F0 27) = cn ((A0 24)) ((F0 28)).toNat from p3) (show (F0 27) ≤ 400 ∧ (gT) ≤ 800000 by omega)) rfl rfl rfl I11.rc ?_
                rintro h87 F88 A89 I90 ⟨k92, k93, p91⟩
                replace p91 : nt (A89 24) (A89 25) (A89 26) (F88 28) (gT) (F88 27) ∧ (wr A89 ∧ wq A89 ∧ A89 2 2 = (A0 2) 2 ∧ (∀ q : Int, 2600 ≤ q → A89 1 q = (A0 1) q)) := p91
                obtain ⟨p91a, p91b, p91c, p91d, p91e⟩ := p91
                show am_Ok _ _ _ (38, _, [], _, 0, 0) _
                refine k_aload 39 rfl rfl rfl ?_
                refine r_gA I90 42 rfl rfl rfl ?_
                refine k_iload 43 rfl rfl rfl ?_
                refine r_ld 42 I90 44 rfl rfl (by omega) (show w2.toInt < 4 by omega) rfl (fun x94 (e95 : x94.toInt = A89 42 w2.toInt) => ?_)
                exact k_fin rfl rfl ⟨_, _, _, _, rfl, I90, (fr1.tr (by decide) (fr1.up (by decide) (fr1.up (by decide) fr1.rf)) k92), (fr2.tr (by decide) fr2.rf k93), ⟨p91a, p91b, p91c, p91d, p91e⟩⟩
              · refine k_c1 27 rfl rfl (if_neg b85) ?_
                have b85 := mt iv_eq0.mpr b85
                refine k_push 28 rfl rfl ?_
                refine k_fin rfl (fin_Z (Or.inl rfl)) ⟨_, _, rfl, rf_len I11 I11, ?_⟩
                show am_Ok _ _ _ (28, _, [.inl (0 : Int32)], _, 0, 0) _
                refine k_c1 31 rfl rfl (if_pos (by decide)) ?_
                refine k_push 32 rfl rfl ?_
                exact k_fin rfl rfl ⟨_, _, _, _, rfl, I11, (fr1.up (by decide) (fr1.up (by decide) fr1.rf)), fr2.rf, ⟨nt_of p1 p2 p3 p4.1 (by omega), p5, p6, rfl, fun q _ => rfl⟩⟩
            · refine k_c1 16 rfl rfl (if_neg b82) ?_
              have b82 := mt iv_eq0.mpr b82
              refine k_aload 17 rfl rfl rfl ?_
              refine r_gI I11 20 rfl rfl rfl (fun x96 (e97 : x96.toInt = (1 : Int32).toInt) => ?_)
              by_cases b98 : x96 = 0
              · refine k_c1 23 rfl rfl (if_pos b98) ?_
                have b98 := iv_eq0.mp b98
                refine k_push 24 rfl rfl ?_
                refine k_goto 28 rfl rfl ?_
                refine k_fin rfl (fin_Z (Or.inr rfl)) ⟨_, _, rfl, rf_len I11 I11, ?_⟩
                show am_Ok _ _ _ (28, _, [.inl (1 : Int32)], _, 0, 0) _
                refine k_c1 33 rfl rfl (if_neg (by decide)) ?_
                refine k_aload 34 rfl rfl rfl ?_
                refine k_iload 35 rfl rfl rfl ?_
                refine k_rv I11 rfl (m_tries (lm := lm) (gT := gT) I11.1 (show nn ((A0 24)) ((A0 25)) ((F0 28)) (gT) from p1) (show nw ((A0 24)) ((A0 25)) ((A0 26)) (lm) ((F0 28)) from p2) (show wr A0 from p5) (show wq A0 from p6) (show (F0 27) = cn ((A0 24)) ((F0 28)).toNat from p3) (show (F0 27) ≤ 400 ∧ (gT) ≤ 800000 by omega)) rfl rfl rfl I11.rc ?_
                rintro h100 F101 A102 I103 ⟨k105, k106, p104⟩
                replace p104 : nt (A102 24) (A102 25) (A102 26) (F101 28) (gT) (F101 27) ∧ (wr A102 ∧ wq A102 ∧ A102 2 2 = (A0 2) 2 ∧ (∀ q : Int, 2600 ≤ q → A102 1 q = (A0 1) q)) := p104
                obtain ⟨p104a, p104b, p104c, p104d, p104e⟩ := p104
                show am_Ok _ _ _ (38, _, [], _, 0, 0) _
                refine k_aload 39 rfl rfl rfl ?_
                refine r_gA I103 42 rfl rfl rfl ?_
                refine k_iload 43 rfl rfl rfl ?_
                refine r_ld 42 I103 44 rfl rfl (by omega) (show w2.toInt < 4 by omega) rfl (fun x107 (e108 : x107.toInt = A102 42 w2.toInt) => ?_)
                exact k_fin rfl rfl ⟨_, _, _, _, rfl, I103, (fr1.tr (by decide) (fr1.up (by decide) (fr1.up (by decide) fr1.rf)) k105), (fr2.tr (by decide) fr2.rf k106), ⟨p104a, p104b, p104c, p104d, p104e⟩⟩
              · refine k_c1 27 rfl rfl (if_neg b98) ?_
                have b98 := mt iv_eq0.mpr b98
                refine k_push 28 rfl rfl ?_
                refine k_fin rfl (fin_Z (Or.inl rfl)) ⟨_, _, rfl, rf_len I11 I11, ?_⟩
                show am_Ok _ _ _ (28, _, [.inl (0 : Int32)], _, 0, 0) _
                refine k_c1 31 rfl rfl (if_pos (by decide)) ?_
                refine k_push 32 rfl rfl ?_
                exact k_fin rfl rfl ⟨_, _, _, _, rfl, I11, (fr1.up (by decide) (fr1.up (by decide) fr1.rf)), fr2.rf, ⟨nt_of p1 p2 p3 p4.1 (by omega), p5, p6, rfl, fun q _ => rfl⟩⟩
      · refine k_c1 27 rfl rfl (if_neg b14) ?_
        have b14 := mt iv_eq0.mpr b14
        refine k_push 28 rfl rfl ?_
        refine k_fin rfl (fin_Z (Or.inl rfl)) ⟨_, _, rfl, rf_len I3 I11, ?_⟩
        show am_Ok _ _ _ (14, _, [.inl (0 : Int32)], _, 0, 0) _
        refine k_c1 31 rfl rfl (if_pos (by decide)) ?_
        refine k_push 32 rfl rfl ?_
        exact k_fin rfl rfl ⟨_, _, _, _, rfl, I11, (fr1.up (by decide) (fr1.up (by decide) fr1.rf)), fr2.rf, ⟨nt_of p1 p2 p3 p4.1 (by omega), p5, p6, rfl, fun q _ => rfl⟩⟩
    · refine k_c1 16 rfl rfl (if_neg b9) ?_
      have b9 := mt iv_eq0.mpr b9
      refine k_aload 17 rfl rfl rfl ?_
      refine r_gI I3 20 rfl rfl rfl (fun x109 (e110 : x109.toInt = (0 : Int32).toInt) => ?_)
      by_cases b111 : x109 = 0
      · refine k_c1 23 rfl rfl (if_pos b111) ?_
        have b111 := iv_eq0.mp b111
        refine k_push 24 rfl rfl ?_
        refine k_goto 28 rfl rfl ?_
        refine k_fin rfl (fin_Z (Or.inr rfl)) ⟨_, _, rfl, rf_len I3 I3, ?_⟩
        show am_Ok _ _ _ (14, _, [.inl (1 : Int32)], _, 0, 0) _
        refine k_c1 17 rfl rfl (if_neg (by decide)) ?_
        refine k_aload 18 rfl rfl rfl ?_
        refine k_iload 19 rfl rfl rfl ?_
        refine k_push 20 rfl rfl ?_
        refine k_push 21 rfl rfl ?_
        have hc112 : (3 : Int32).toInt = 3 := by decide
        refine k_in (d := 0) rfl rfl rfl rfl rfl ?_
        refine k_iload 1 rfl rfl rfl ?_
        refine k_iload 2 rfl rfl rfl ?_
        by_cases b113 : w2 < (0 : Int32)
        · refine k_c2 14 rfl rfl (if_pos b113) ?_
          have b113 := iv_lt.mp b113
          refine k_push 15 rfl rfl ?_
          refine k_fin rfl (fin_Z (Or.inl rfl)) ⟨_, _, rfl, rf_len I3 I3, ?_⟩
          show am_Ok _ _ _ (24, _, [.inl (0 : Int32), .inr (.inr (some 81))], _, 0, 0) _
          refine k_push 25 rfl rfl ?_
          refine k_in (d := 0) rfl rfl rfl rfl I3.rc ?_
          refine k_aload 1 rfl rfl rfl ?_
          refine r_gI I3 4 rfl rfl rfl (fun x114 (e115 : x114.toInt = (0 : Int32).toInt) => ?_)
          by_cases b116 : x114 = 0
          · refine k_c1 7 rfl rfl (if_pos b116) ?_
            have b116 := iv_eq0.mp b116
            refine k_iload 8 rfl rfl rfl ?_
            refine k_c1 11 rfl rfl (if_pos (by decide)) ?_
            refine k_aload 12 rfl rfl rfl ?_
            refine k_iload 13 rfl rfl rfl ?_
            refine r_pI I3 16 rfl rfl rfl (fun h117 I118 => ?_)
            refine k_aload 17 rfl rfl rfl ?_
            refine r_gI I118 20 rfl rfl rfl (fun x119 (e120 : x119.toInt = (2 : Int32).toInt) => ?_)
            by_cases b121 : x119 = 0
            · refine k_c1 23 rfl rfl (if_pos b121) ?_
              have b121 := iv_eq0.mp b121
              refine k_push 24 rfl rfl ?_
              refine k_goto 28 rfl rfl ?_
              refine k_fin rfl (fin_Z (Or.inr rfl)) ⟨_, _, rfl, rf_len I3 I118, ?_⟩
              show am_Ok _ _ _ (28, _, [.inl (1 : Int32)], _, 0, 0) _
              refine k_c1 33 rfl rfl (if_neg (by decide)) ?_
              refine k_aload 34 rfl rfl rfl ?_
              refine k_iload 35 rfl rfl rfl ?_
              refine k_rv I118 rfl (m_tries (lm := lm) (gT := gT) I118.1 (show nn ((A0 24)) ((A0 25)) ((F0 28)) (gT) from p1) (show nw ((A0 24)) ((A0 25)) ((A0 26)) (lm) ((F0 28)) from p2) (show wr A0 from p5) (show wq A0 from p6) (show (F0 27) = cn ((A0 24)) ((F0 28)).toNat from p3) (show (F0 27) ≤ 400 ∧ (gT) ≤ 800000 by omega)) rfl rfl rfl I118.rc ?_
              rintro h123 F124 A125 I126 ⟨k128, k129, p127⟩
              replace p127 : nt (A125 24) (A125 25) (A125 26) (F124 28) (gT) (F124 27) ∧ (wr A125 ∧ wq A125 ∧ A125 2 2 = (A0 2) 2 ∧ (∀ q : Int, 2600 ≤ q → A125 1 q = (A0 1) q)) := p127
              obtain ⟨p127a, p127b, p127c, p127d, p127e⟩ := p127
              show am_Ok _ _ _ (38, _, [], _, 0, 0) _
              refine k_aload 39 rfl rfl rfl ?_
              refine r_gA I126 42 rfl rfl rfl ?_
              refine k_iload 43 rfl rfl rfl ?_
              refine r_ld 42 I126 44 rfl rfl (by omega) (show w2.toInt < 4 by omega) rfl (fun x130 (e131 : x130.toInt = A125 42 w2.toInt) => ?_)
              exact k_fin rfl rfl ⟨_, _, _, _, rfl, I126, (fr1.tr (by decide) (fr1.up (by decide) (fr1.up (by decide) fr1.rf)) k128), (fr2.tr (by decide) fr2.rf k129), ⟨p127a, p127b, p127c, p127d, p127e⟩⟩
            · refine k_c1 27 rfl rfl (if_neg b121) ?_
              have b121 := mt iv_eq0.mpr b121
              refine k_push 28 rfl rfl ?_
              refine k_fin rfl (fin_Z (Or.inl rfl)) ⟨_, _, rfl, rf_len I3 I118, ?_⟩
              show am_Ok _ _ _ (28, _, [.inl (0 : Int32)], _, 0, 0) _
              refine k_c1 31 rfl rfl (if_pos (by decide)) ?_
              refine k_push 32 rfl rfl ?_
              exact k_fin rfl rfl ⟨_, _, _, _, rfl, I118, (fr1.up (by decide) (fr1.up (by decide) fr1.rf)), fr2.rf, ⟨nt_of p1 p2 p3 p4.1 (by omega), p5, p6, rfl, fun q _ => rfl⟩⟩
          · refine k_c1 16 rfl rfl (if_neg b116) ?_
            have b116 := mt iv_eq0.mpr b116
            refine k_aload 17 rfl rfl rfl ?_
            refine r_gI I3 20 rfl rfl rfl (fun x132 (e133 : x132.toInt = (0 : Int32).toInt) => ?_)
            by_cases b134 : x132 = 0
            · refine k_c1 23 rfl rfl (if_pos b134) ?_
              have b134 := iv_eq0.mp b134
              refine k_push 24 rfl rfl ?_
              refine k_goto 28 rfl rfl ?_
              refine k_fin rfl (fin_Z (Or.inr rfl)) ⟨_, _, rfl, rf_len I3 I3, ?_⟩
              show am_Ok _ _ _ (28, _, [.inl (1 : Int32)], _, 0, 0) _
              refine k_c1 33 rfl rfl (if_neg (by decide)) ?_
              refine k_aload 34 rfl rfl rfl ?_
              refine k_iload 35 rfl rfl rfl ?_
              refine k_rv I3 rfl (m_tries (lm := lm) (gT := gT) I3.1 (show nn ((A0 24)) ((A0 25)) ((F0 28)) (gT) from p1) (show nw ((A0 24)) ((A0 25)) ((A0 26)) (lm) ((F0 28)) from p2) (show wr A0 from p5) (show wq A0 from p6) (show (F0 27) = cn ((A0 24)) ((F0 28)).toNat from p3) (show (F0 27) ≤ 400 ∧ (gT) ≤ 800000 by omega)) rfl rfl rfl I3.rc ?_
              rintro h136 F137 A138 I139 ⟨k141, k142, p140⟩
              replace p140 : nt (A138 24) (A138 25) (A138 26) (F137 28) (gT) (F137 27) ∧ (wr A138 ∧ wq A138 ∧ A138 2 2 = (A0 2) 2 ∧ (∀ q : Int, 2600 ≤ q → A138 1 q = (A0 1) q)) := p140
              obtain ⟨p140a, p140b, p140c, p140d, p140e⟩ := p140
              show am_Ok _ _ _ (38, _, [], _, 0, 0) _
              refine k_aload 39 rfl rfl rfl ?_
              refine r_gA I139 42 rfl rfl rfl ?_
              refine k_iload 43 rfl rfl rfl ?_
              refine r_ld 42 I139 44 rfl rfl (by omega) (show w2.toInt < 4 by omega) rfl (fun x143 (e144 : x143.toInt = A138 42 w2.toInt) => ?_)
              exact k_fin rfl rfl ⟨_, _, _, _, rfl, I139, (fr1.tr (by decide) (fr1.up (by decide) fr1.rf) k141), (fr2.tr (by decide) fr2.rf k142), ⟨p140a, p140b, p140c, p140d, p140e⟩⟩
            · refine k_c1 27 rfl rfl (if_neg b134) ?_
              have b134 := mt iv_eq0.mpr b134
              refine k_push 28 rfl rfl ?_
              refine k_fin rfl (fin_Z (Or.inl rfl)) ⟨_, _, rfl, rf_len I3 I3, ?_⟩
              show am_Ok _ _ _ (28, _, [.inl (0 : Int32)], _, 0, 0) _
              refine k_c1 31 rfl rfl (if_pos (by decide)) ?_
              refine k_push 32 rfl rfl ?_
              exact k_fin rfl rfl ⟨_, _, _, _, rfl, I3, (fr1.up (by decide) fr1.rf), fr2.rf, ⟨nt_of p1 p2 p3 p4.1 (by omega), p5, p6, rfl, fun q _ => rfl⟩⟩
        · refine k_c2 5 rfl rfl (if_neg b113) ?_
          have b113 := mt iv_lt.mpr b113
          refine k_iload 6 rfl rfl rfl ?_
          refine k_iload 7 rfl rfl rfl ?_
          by_cases b145 : (3 : Int32) < w2
          · refine k_c2 14 rfl rfl (if_pos b145) ?_
            have b145 := iv_lt.mp b145
            refine k_push 15 rfl rfl ?_
            refine k_fin rfl (fin_Z (Or.inl rfl)) ⟨_, _, rfl, rf_len I3 I3, ?_⟩
            show am_Ok _ _ _ (24, _, [.inl (0 : Int32), .inr (.inr (some 81))], _, 0, 0) _
            refine k_push 25 rfl rfl ?_
            refine k_in (d := 0) rfl rfl rfl rfl I3.rc ?_
            refine k_aload 1 rfl rfl rfl ?_
            refine r_gI I3 4 rfl rfl rfl (fun x146 (e147 : x146.toInt = (0 : Int32).toInt) => ?_)
            by_cases b148 : x146 = 0
            · refine k_c1 7 rfl rfl (if_pos b148) ?_
              have b148 := iv_eq0.mp b148
              refine k_iload 8 rfl rfl rfl ?_
              refine k_c1 11 rfl rfl (if_pos (by decide)) ?_
              refine k_aload 12 rfl rfl rfl ?_
              refine k_iload 13 rfl rfl rfl ?_
              refine r_pI I3 16 rfl rfl rfl (fun h149 I150 => ?_)
              refine k_aload 17 rfl rfl rfl ?_
              refine r_gI I150 20 rfl rfl rfl (fun x151 (e152 : x151.toInt = (2 : Int32).toInt) => ?_)
              by_cases b153 : x151 = 0
              · refine k_c1 23 rfl rfl (if_pos b153) ?_
                have b153 := iv_eq0.mp b153
                refine k_push 24 rfl rfl ?_
                refine k_goto 28 rfl rfl ?_
                refine k_fin rfl (fin_Z (Or.inr rfl)) ⟨_, _, rfl, rf_len I3 I150, ?_⟩
                show am_Ok _ _ _ (28, _, [.inl (1 : Int32)], _, 0, 0) _
                refine k_c1 33 rfl rfl (if_neg (by decide)) ?_
                refine k_aload 34 rfl rfl rfl ?_
                refine k_iload 35 rfl rfl rfl ?_
                refine k_rv I150 rfl (m_tries (lm := lm) (gT := gT) I150.1 (show nn ((A0 24)) ((A0 25)) ((F0 28)) (gT) from p1) (show nw ((A0 24)) ((A0 25)) ((A0 26)) (lm) ((F0 28)) from p2) (show wr A0 from p5) (show wq A0 from p6) (show (F0 27) = cn ((A0 24)) ((F0 28)).toNat from p3) (show (F0 27) ≤ 400 ∧ (gT) ≤ 800000 by omega)) rfl rfl rfl I150.rc ?_
                rintro h155 F156 A157 I158 ⟨k160, k161, p159⟩
                replace p159 : nt (A157 24) (A157 25) (A157 26) (F156 28) (gT) (F156 27) ∧ (wr A157 ∧ wq A157 ∧ A157 2 2 = (A0 2) 2 ∧ (∀ q : Int, 2600 ≤ q → A157 1 q = (A0 1) q)) := p159
                obtain ⟨p159a, p159b, p159c, p159d, p159e⟩ := p159
                show am_Ok _ _ _ (38, _, [], _, 0, 0) _
                refine k_aload 39 rfl rfl rfl ?_
                refine r_gA I158 42 rfl rfl rfl ?_
                refine k_iload 43 rfl rfl rfl ?_
                refine r_ld 42 I158 44 rfl rfl (by omega) (show w2.toInt < 4 by omega) rfl (fun x162 (e163 : x162.toInt = A157 42 w2.toInt) => ?_)
                exact k_fin rfl rfl ⟨_, _, _, _, rfl, I158, (fr1.tr (by decide) (fr1.up (by decide) (fr1.up (by decide) fr1.rf)) k160), (fr2.tr (by decide) fr2.rf k161), ⟨p159a, p159b, p159c, p159d, p159e⟩⟩
              · refine k_c1 27 rfl rfl (if_neg b153) ?_
                have b153 := mt iv_eq0.mpr b153
                refine k_push 28 rfl rfl ?_
                refine k_fin rfl (fin_Z (Or.inl rfl)) ⟨_, _, rfl, rf_len I3 I150, ?_⟩
                show am_Ok _ _ _ (28, _, [.inl (0 : Int32)], _, 0, 0) _
                refine k_c1 31 rfl rfl (if_pos (by decide)) ?_
                refine k_push 32 rfl rfl ?_
                exact k_fin rfl rfl ⟨_, _, _, _, rfl, I150, (fr1.up (by decide) (fr1.up (by decide) fr1.rf)), fr2.rf, ⟨nt_of p1 p2 p3 p4.1 (by omega), p5, p6, rfl, fun q _ => rfl⟩⟩
            · refine k_c1 16 rfl rfl (if_neg b148) ?_
              have b148 := mt iv_eq0.mpr b148
              refine k_aload 17 rfl rfl rfl ?_
              refine r_gI I3 20 rfl rfl rfl (fun x164 (e165 : x164.toInt = (0 : Int32).toInt) => ?_)
              by_cases b166 : x164 = 0
              · refine k_c1 23 rfl rfl (if_pos b166) ?_
                have b166 := iv_eq0.mp b166
                refine k_push 24 rfl rfl ?_
                refine k_goto 28 rfl rfl ?_
                refine k_fin rfl (fin_Z (Or.inr rfl)) ⟨_, _, rfl, rf_len I3 I3, ?_⟩
                show am_Ok _ _ _ (28, _, [.inl (1 : Int32)], _, 0, 0) _
                refine k_c1 33 rfl rfl (if_neg (by decide)) ?_
                refine k_aload 34 rfl rfl rfl ?_
                refine k_iload 35 rfl rfl rfl ?_
                refine k_rv I3 rfl (m_tries (lm := lm) (gT := gT) I3.1 (show nn ((A0 24)) ((A0 25)) ((F0 28)) (gT) from p1) (show nw ((A0 24)) ((A0 25)) ((A0 26)) (lm) ((F0 28)) from p2) (show wr A0 from p5) (show wq A0 from p6) (show (F0 27) = cn ((A0 24)) ((F0 28)).toNat from p3) (show (F0 27) ≤ 400 ∧ (gT) ≤ 800000 by omega)) rfl rfl rfl I3.rc ?_
                rintro h168 F169 A170 I171 ⟨k173, k174, p172⟩
                replace p172 : nt (A170 24) (A170 25) (A170 26) (F169 28) (gT) (F169 27) ∧ (wr A170 ∧ wq A170 ∧ A170 2 2 = (A0 2) 2 ∧ (∀ q : Int, 2600 ≤ q → A170 1 q = (A0 1) q)) := p172
                obtain ⟨p172a, p172b, p172c, p172d, p172e⟩ := p172
                show am_Ok _ _ _ (38, _, [], _, 0, 0) _
                refine k_aload 39 rfl rfl rfl ?_
                refine r_gA I171 42 rfl rfl rfl ?_
                refine k_iload 43 rfl rfl rfl ?_
                refine r_ld 42 I171 44 rfl rfl (by omega) (show w2.toInt < 4 by omega) rfl (fun x175 (e176 : x175.toInt = A170 42 w2.toInt) => ?_)
                exact k_fin rfl rfl ⟨_, _, _, _, rfl, I171, (fr1.tr (by decide) (fr1.up (by decide) fr1.rf) k173), (fr2.tr (by decide) fr2.rf k174), ⟨p172a, p172b, p172c, p172d, p172e⟩⟩
              · refine k_c1 27 rfl rfl (if_neg b166) ?_
                have b166 := mt iv_eq0.mpr b166
                refine k_push 28 rfl rfl ?_
                refine k_fin rfl (fin_Z (Or.inl rfl)) ⟨_, _, rfl, rf_len I3 I3, ?_⟩
                show am_Ok _ _ _ (28, _, [.inl (0 : Int32)], _, 0, 0) _
                refine k_c1 31 rfl rfl (if_pos (by decide)) ?_
                refine k_push 32 rfl rfl ?_
                exact k_fin rfl rfl ⟨_, _, _, _, rfl, I3, (fr1.up (by decide) fr1.rf), fr2.rf, ⟨nt_of p1 p2 p3 p4.1 (by omega), p5, p6, rfl, fun q _ => rfl⟩⟩
          · refine k_c2 10 rfl rfl (if_neg b145) ?_
            have b145 := mt iv_lt.mpr b145
            refine k_push 11 rfl rfl ?_
            refine k_goto 15 rfl rfl ?_
            refine k_fin rfl (fin_Z (Or.inr rfl)) ⟨_, _, rfl, rf_len I3 I3, ?_⟩
            show am_Ok _ _ _ (24, _, [.inl (1 : Int32), .inr (.inr (some 81))], _, 0, 0) _
            refine k_push 25 rfl rfl ?_
            refine k_in (d := 0) rfl rfl rfl rfl I3.rc ?_
            refine k_aload 1 rfl rfl rfl ?_
            refine r_gI I3 4 rfl rfl rfl (fun x177 (e178 : x177.toInt = (0 : Int32).toInt) => ?_)
            by_cases b179 : x177 = 0
            · refine k_c1 7 rfl rfl (if_pos b179) ?_
              have b179 := iv_eq0.mp b179
              refine k_iload 8 rfl rfl rfl ?_
              refine k_c1 16 rfl rfl (if_neg (by decide)) ?_
              refine k_aload 17 rfl rfl rfl ?_
              refine r_gI I3 20 rfl rfl rfl (fun x180 (e181 : x180.toInt = (0 : Int32).toInt) => ?_)
              by_cases b182 : x180 = 0
              · refine k_c1 23 rfl rfl (if_pos b182) ?_
                have b182 := iv_eq0.mp b182
                refine k_push 24 rfl rfl ?_
                refine k_goto 28 rfl rfl ?_
                refine k_fin rfl (fin_Z (Or.inr rfl)) ⟨_, _, rfl, rf_len I3 I3, ?_⟩
                show am_Ok _ _ _ (28, _, [.inl (1 : Int32)], _, 0, 0) _
                refine k_c1 33 rfl rfl (if_neg (by decide)) ?_
                refine k_aload 34 rfl rfl rfl ?_
                refine k_iload 35 rfl rfl rfl ?_
                refine k_rv I3 rfl (m_tries (lm := lm) (gT := gT) I3.1 (show nn ((A0 24)) ((A0 25)) ((F0 28)) (gT) from p1) (show nw ((A0 24)) ((A0 25)) ((A0 26)) (lm) ((F0 28)) from p2) (show wr A0 from p5) (show wq A0 from p6) (show (F0 27) = cn ((A0 24)) ((F0 28)).toNat from p3) (show (F0 27) ≤ 400 ∧ (gT) ≤ 800000 by omega)) rfl rfl rfl I3.rc ?_
                rintro h184 F185 A186 I187 ⟨k189, k190, p188⟩
                replace p188 : nt (A186 24) (A186 25) (A186 26) (F185 28) (gT) (F185 27) ∧ (wr A186 ∧ wq A186 ∧ A186 2 2 = (A0 2) 2 ∧ (∀ q : Int, 2600 ≤ q → A186 1 q = (A0 1) q)) := p188
                obtain ⟨p188a, p188b, p188c, p188d, p188e⟩ := p188
                show am_Ok _ _ _ (38, _, [], _, 0, 0) _
                refine k_aload 39 rfl rfl rfl ?_
                refine r_gA I187 42 rfl rfl rfl ?_
                refine k_iload 43 rfl rfl rfl ?_
                refine r_ld 42 I187 44 rfl rfl (by omega) (show w2.toInt < 4 by omega) rfl (fun x191 (e192 : x191.toInt = A186 42 w2.toInt) => ?_)
                exact k_fin rfl rfl ⟨_, _, _, _, rfl, I187, (fr1.tr (by decide) (fr1.up (by decide) fr1.rf) k189), (fr2.tr (by decide) fr2.rf k190), ⟨p188a, p188b, p188c, p188d, p188e⟩⟩
              · refine k_c1 27 rfl rfl (if_neg b182) ?_
                have b182 := mt iv_eq0.mpr b182
                refine k_push 28 rfl rfl ?_
                refine k_fin rfl (fin_Z (Or.inl rfl)) ⟨_, _, rfl, rf_len I3 I3, ?_⟩
                show am_Ok _ _ _ (28, _, [.inl (0 : Int32)], _, 0, 0) _
                refine k_c1 31 rfl rfl (if_pos (by decide)) ?_
                refine k_push 32 rfl rfl ?_
                exact k_fin rfl rfl ⟨_, _, _, _, rfl, I3, (fr1.up (by decide) fr1.rf), fr2.rf, ⟨nt_of p1 p2 p3 p4.1 (by omega), p5, p6, rfl, fun q _ => rfl⟩⟩
            · refine k_c1 16 rfl rfl (if_neg b179) ?_
              have b179 := mt iv_eq0.mpr b179
              refine k_aload 17 rfl rfl rfl ?_
              refine r_gI I3 20 rfl rfl rfl (fun x193 (e194 : x193.toInt = (0 : Int32).toInt) => ?_)
              by_cases b195 : x193 = 0
              · refine k_c1 23 rfl rfl (if_pos b195) ?_
                have b195 := iv_eq0.mp b195
                refine k_push 24 rfl rfl ?_
                refine k_goto 28 rfl rfl ?_
                refine k_fin rfl (fin_Z (Or.inr rfl)) ⟨_, _, rfl, rf_len I3 I3, ?_⟩
                show am_Ok _ _ _ (28, _, [.inl (1 : Int32)], _, 0, 0) _
                refine k_c1 33 rfl rfl (if_neg (by decide)) ?_
                refine k_aload 34 rfl rfl rfl ?_
                refine k_iload 35 rfl rfl rfl ?_
                refine k_rv I3 rfl (m_tries (lm := lm) (gT := gT) I3.1 (show nn ((A0 24)) ((A0 25)) ((F0 28)) (gT) from p1) (show nw ((A0 24)) ((A0 25)) ((A0 26)) (lm) ((F0 28)) from p2) (show wr A0 from p5) (show wq A0 from p6) (show (F0 27) = cn ((A0 24)) ((F0 28)).toNat from p3) (show (F0 27) ≤ 400 ∧ (gT) ≤ 800000 by omega)) rfl rfl rfl I3.rc ?_
                rintro h197 F198 A199 I200 ⟨k202, k203, p201⟩
                replace p201 : nt (A199 24) (A199 25) (A199 26) (F198 28) (gT) (F198 27) ∧ (wr A199 ∧ wq A199 ∧ A199 2 2 = (A0 2) 2 ∧ (∀ q : Int, 2600 ≤ q → A199 1 q = (A0 1) q)) := p201
                obtain ⟨p201a, p201b, p201c, p201d, p201e⟩ := p201
                show am_Ok _ _ _ (38, _, [], _, 0, 0) _
                refine k_aload 39 rfl rfl rfl ?_
                refine r_gA I200 42 rfl rfl rfl ?_
                refine k_iload 43 rfl rfl rfl ?_
                refine r_ld 42 I200 44 rfl rfl (by omega) (show w2.toInt < 4 by omega) rfl (fun x204 (e205 : x204.toInt = A199 42 w2.toInt) => ?_)
                exact k_fin rfl rfl ⟨_, _, _, _, rfl, I200, (fr1.tr (by decide) (fr1.up (by decide) fr1.rf) k202), (fr2.tr (by decide) fr2.rf k203), ⟨p201a, p201b, p201c, p201d, p201e⟩⟩
              · refine k_c1 27 rfl rfl (if_neg b195) ?_
                have b195 := mt iv_eq0.mpr b195
                refine k_push 28 rfl rfl ?_
                refine k_fin rfl (fin_Z (Or.inl rfl)) ⟨_, _, rfl, rf_len I3 I3, ?_⟩
                show am_Ok _ _ _ (28, _, [.inl (0 : Int32)], _, 0, 0) _
                refine k_c1 31 rfl rfl (if_pos (by decide)) ?_
                refine k_push 32 rfl rfl ?_
                exact k_fin rfl rfl ⟨_, _, _, _, rfl, I3, (fr1.up (by decide) fr1.rf), fr2.rf, ⟨nt_of p1 p2 p3 p4.1 (by omega), p5, p6, rfl, fun q _ => rfl⟩⟩
      · refine k_c1 27 rfl rfl (if_neg b111) ?_
        have b111 := mt iv_eq0.mpr b111
        refine k_push 28 rfl rfl ?_
        refine k_fin rfl (fin_Z (Or.inl rfl)) ⟨_, _, rfl, rf_len I3 I3, ?_⟩
        show am_Ok _ _ _ (14, _, [.inl (0 : Int32)], _, 0, 0) _
        refine k_c1 31 rfl rfl (if_pos (by decide)) ?_
        refine k_push 32 rfl rfl ?_
        exact k_fin rfl rfl ⟨_, _, _, _, rfl, I3, (fr1.up (by decide) fr1.rf), fr2.rf, ⟨nt_of p1 p2 p3 p4.1 (by omega), p5, p6, rfl, fun q _ => rfl⟩⟩
  · refine k_c2 5 rfl rfl (if_neg b5) ?_
    have b5 := mt iv_lt.mpr b5
    refine k_iload 6 rfl rfl rfl ?_
    refine k_iload 7 rfl rfl rfl ?_
    by_cases b206 : (2 : Int32) < w1
    · refine k_c2 14 rfl rfl (if_pos b206) ?_
      have b206 := iv_lt.mp b206
      refine k_push 15 rfl rfl ?_
      refine k_fin rfl (fin_Z (Or.inl rfl)) ⟨_, _, rfl, rf_len I3 I3, ?_⟩
      show am_Ok _ _ _ (6, _, [.inl (0 : Int32)], _, 0, 0) _
      refine k_fin rfl (fin_Z (Or.inl rfl)) ⟨_, _, rfl, rf_len I3 I3, ?_⟩
      show am_Ok _ _ _ (10, _, [.inl (0 : Int32), .inr (.inr (some 81))], _, 0, 0) _
      refine k_push 11 rfl rfl ?_
      have hc207 : (1 : Int32).toInt = 1 := by decide
      refine k_in (d := 0) rfl rfl rfl rfl I3.rc ?_
      refine k_aload 1 rfl rfl rfl ?_
      refine r_gI I3 4 rfl rfl rfl (fun x208 (e209 : x208.toInt = (0 : Int32).toInt) => ?_)
      by_cases b210 : x208 = 0
      · refine k_c1 7 rfl rfl (if_pos b210) ?_
        have b210 := iv_eq0.mp b210
        refine k_iload 8 rfl rfl rfl ?_
        refine k_c1 11 rfl rfl (if_pos (by decide)) ?_
        refine k_aload 12 rfl rfl rfl ?_
        refine k_iload 13 rfl rfl rfl ?_
        refine r_pI I3 16 rfl rfl rfl (fun h211 I212 => ?_)
        refine k_aload 17 rfl rfl rfl ?_
        refine r_gI I212 20 rfl rfl rfl (fun x213 (e214 : x213.toInt = (1 : Int32).toInt) => ?_)
        by_cases b215 : x213 = 0
        · refine k_c1 23 rfl rfl (if_pos b215) ?_
          have b215 := iv_eq0.mp b215
          refine k_push 24 rfl rfl ?_
          refine k_goto 28 rfl rfl ?_
          refine k_fin rfl (fin_Z (Or.inr rfl)) ⟨_, _, rfl, rf_len I3 I212, ?_⟩
          show am_Ok _ _ _ (14, _, [.inl (1 : Int32)], _, 0, 0) _
          refine k_c1 17 rfl rfl (if_neg (by decide)) ?_
          refine k_aload 18 rfl rfl rfl ?_
          refine k_iload 19 rfl rfl rfl ?_
          refine k_push 20 rfl rfl ?_
          refine k_push 21 rfl rfl ?_
          have hc216 : (3 : Int32).toInt = 3 := by decide
          refine k_in (d := 0) rfl rfl rfl rfl rfl ?_
          refine k_iload 1 rfl rfl rfl ?_
          refine k_iload 2 rfl rfl rfl ?_
          by_cases b217 : w2 < (0 : Int32)
          · refine k_c2 14 rfl rfl (if_pos b217) ?_
            have b217 := iv_lt.mp b217
            refine k_push 15 rfl rfl ?_
            refine k_fin rfl (fin_Z (Or.inl rfl)) ⟨_, _, rfl, rf_len I212 I212, ?_⟩
            show am_Ok _ _ _ (24, _, [.inl (0 : Int32), .inr (.inr (some 81))], _, 0, 0) _
            refine k_push 25 rfl rfl ?_
            refine k_in (d := 0) rfl rfl rfl rfl I212.rc ?_
            refine k_aload 1 rfl rfl rfl ?_
            refine r_gI I212 4 rfl rfl rfl (fun x218 (e219 : x218.toInt = (1 : Int32).toInt) => ?_)
            by_cases b220 : x218 = 0
            · refine k_c1 7 rfl rfl (if_pos b220) ?_
              have b220 := iv_eq0.mp b220
              refine k_iload 8 rfl rfl rfl ?_
              refine k_c1 11 rfl rfl (if_pos (by decide)) ?_
              refine k_aload 12 rfl rfl rfl ?_
              refine k_iload 13 rfl rfl rfl ?_
              refine r_pI I212 16 rfl rfl rfl (fun h221 I222 => ?_)
              refine k_aload 17 rfl rfl rfl ?_
              refine r_gI I222 20 rfl rfl rfl (fun x223 (e224 : x223.toInt = (2 : Int32).toInt) => ?_)
              by_cases b225 : x223 = 0
              · refine k_c1 23 rfl rfl (if_pos b225) ?_
                have b225 := iv_eq0.mp b225
                refine k_push 24 rfl rfl ?_
                refine k_goto 28 rfl rfl ?_
                refine k_fin rfl (fin_Z (Or.inr rfl)) ⟨_, _, rfl, rf_len I212 I222, ?_⟩
                show am_Ok _ _ _ (28, _, [.inl (1 : Int32)], _, 0, 0) _
                refine k_c1 33 rfl rfl (if_neg (by decide)) ?_
                refine k_aload 34 rfl rfl rfl ?_
                refine k_iload 35 rfl rfl rfl ?_
                refine k_rv I222 rfl (m_tries (lm := lm) (gT := gT) I222.1 (show nn ((A0 24)) ((A0 25)) ((F0 28)) (gT) from p1) (show nw ((A0 24)) ((A0 25)) ((A0 26)) (lm) ((F0 28)) from p2) (show wr A0 from p5) (show wq A0 from p6) (show (F0 27) = cn ((A0 24)) ((F0 28)).toNat from p3) (show (F0 27) ≤ 400 ∧ (gT) ≤ 800000 by omega)) rfl rfl rfl I222.rc ?_
                rintro h227 F228 A229 I230 ⟨k232, k233, p231⟩
                replace p231 : nt (A229 24) (A229 25) (A229 26) (F228 28) (gT) (F228 27) ∧ (wr A229 ∧ wq A229 ∧ A229 2 2 = (A0 2) 2 ∧ (∀ q : Int, 2600 ≤ q → A229 1 q = (A0 1) q)) := p231
                obtain ⟨p231a, p231b, p231c, p231d, p231e⟩ := p231
                show am_Ok _ _ _ (38, _, [], _, 0, 0) _
                refine k_aload 39 rfl rfl rfl ?_
                refine r_gA I230 42 rfl rfl rfl ?_
                refine k_iload 43 rfl rfl rfl ?_
                refine r_ld 42 I230 44 rfl rfl (by omega) (show w2.toInt < 4 by omega) rfl (fun x234 (e235 : x234.toInt = A229 42 w2.toInt) => ?_)
                exact k_fin rfl rfl ⟨_, _, _, _, rfl, I230, (fr1.tr (by decide) (fr1.up (by decide) (fr1.up (by decide) (fr1.up (by decide) fr1.rf))) k232), (fr2.tr (by decide) fr2.rf k233), ⟨p231a, p231b, p231c, p231d, p231e⟩⟩
              · refine k_c1 27 rfl rfl (if_neg b225) ?_
                have b225 := mt iv_eq0.mpr b225
                refine k_push 28 rfl rfl ?_
                refine k_fin rfl (fin_Z (Or.inl rfl)) ⟨_, _, rfl, rf_len I212 I222, ?_⟩
                show am_Ok _ _ _ (28, _, [.inl (0 : Int32)], _, 0, 0) _
                refine k_c1 31 rfl rfl (if_pos (by decide)) ?_
                refine k_push 32 rfl rfl ?_
                exact k_fin rfl rfl ⟨_, _, _, _, rfl, I222, (fr1.up (by decide) (fr1.up (by decide) (fr1.up (by decide) fr1.rf))), fr2.rf, ⟨nt_of p1 p2 p3 p4.1 (by omega), p5, p6, rfl, fun q _ => rfl⟩⟩
            · refine k_c1 16 rfl rfl (if_neg b220) ?_
              have b220 := mt iv_eq0.mpr b220
              refine k_aload 17 rfl rfl rfl ?_
              refine r_gI I212 20 rfl rfl rfl (fun x236 (e237 : x236.toInt = (1 : Int32).toInt) => ?_)
              by_cases b238 : x236 = 0
              · refine k_c1 23 rfl rfl (if_pos b238) ?_
                have b238 := iv_eq0.mp b238
                refine k_push 24 rfl rfl ?_
                refine k_goto 28 rfl rfl ?_
                refine k_fin rfl (fin_Z (Or.inr rfl)) ⟨_, _, rfl, rf_len I212 I212, ?_⟩
                show am_Ok _ _ _ (28, _, [.inl (1 : Int32)], _, 0, 0) _
                refine k_c1 33 rfl rfl (if_neg (by decide)) ?_
                refine k_aload 34 rfl rfl rfl ?_
                refine k_iload 35 rfl rfl rfl ?_
                refine k_rv I212 rfl (m_tries (lm := lm) (gT := gT) I212.1 (show nn ((A0 24)) ((A0 25)) ((F0 28)) (gT) from p1) (show nw ((A0 24)) ((A0 25)) ((A0 26)) (lm) ((F0 28)) from p2) (show wr A0 from p5) (show wq A0 from p6) (show (F0 27) = cn ((A0 24)) ((F0 28)).toNat from p3) (show (F0 27) ≤ 400 ∧ (gT) ≤ 800000 by omega)) rfl rfl rfl I212.rc ?_
                rintro h240 F241 A242 I243 ⟨k245, k246, p244⟩
                replace p244 : nt (A242 24) (A242 25) (A242 26) (F241 28) (gT) (F241 27) ∧ (wr A242 ∧ wq A242 ∧ A242 2 2 = (A0 2) 2 ∧ (∀ q : Int, 2600 ≤ q → A242 1 q = (A0 1) q)) := p244
                obtain ⟨p244a, p244b, p244c, p244d, p244e⟩ := p244
                show am_Ok _ _ _ (38, _, [], _, 0, 0) _
                refine k_aload 39 rfl rfl rfl ?_
                refine r_gA I243 42 rfl rfl rfl ?_
                refine k_iload 43 rfl rfl rfl ?_
                refine r_ld 42 I243 44 rfl rfl (by omega) (show w2.toInt < 4 by omega) rfl (fun x247 (e248 : x247.toInt = A242 42 w2.toInt) => ?_)
                exact k_fin rfl rfl ⟨_, _, _, _, rfl, I243, (fr1.tr (by decide) (fr1.up (by decide) (fr1.up (by decide) fr1.rf)) k245), (fr2.tr (by decide) fr2.rf k246), ⟨p244a, p244b, p244c, p244d, p244e⟩⟩
              · refine k_c1 27 rfl rfl (if_neg b238) ?_
                have b238 := mt iv_eq0.mpr b238
                refine k_push 28 rfl rfl ?_
                refine k_fin rfl (fin_Z (Or.inl rfl)) ⟨_, _, rfl, rf_len I212 I212, ?_⟩
                show am_Ok _ _ _ (28, _, [.inl (0 : Int32)], _, 0, 0) _
                refine k_c1 31 rfl rfl (if_pos (by decide)) ?_
                refine k_push 32 rfl rfl ?_
                exact k_fin rfl rfl ⟨_, _, _, _, rfl, I212, (fr1.up (by decide) (fr1.up (by decide) fr1.rf)), fr2.rf, ⟨nt_of p1 p2 p3 p4.1 (by omega), p5, p6, rfl, fun q _ => rfl⟩⟩
          · refine k_c2 5 rfl rfl (if_neg b217) ?_
            have b217 := mt iv_lt.mpr b217
            refine k_iload 6 rfl rfl rfl ?_
            refine k_iload 7 rfl rfl rfl ?_
            by_cases b249 : (3 : Int32) < w2
            · refine k_c2 14 rfl rfl (if_pos b249) ?_
              have b249 := iv_lt.mp b249
              refine k_push 15 rfl rfl ?_
              refine k_fin rfl (fin_Z (Or.inl rfl)) ⟨_, _, rfl, rf_len I212 I212, ?_⟩
              show am_Ok _ _ _ (24, _, [.inl (0 : Int32), .inr (.inr (some 81))], _, 0, 0) _
              refine k_push 25 rfl rfl ?_
              refine k_in (d := 0) rfl rfl rfl rfl I212.rc ?_
              refine k_aload 1 rfl rfl rfl ?_
              refine r_gI I212 4 rfl rfl rfl (fun x250 (e251 : x250.toInt = (1 : Int32).toInt) => ?_)
              by_cases b252 : x250 = 0
              · refine k_c1 7 rfl rfl (if_pos b252) ?_
                have b252 := iv_eq0.mp b252
                refine k_iload 8 rfl rfl rfl ?_
                refine k_c1 11 rfl rfl (if_pos (by decide)) ?_
                refine k_aload 12 rfl rfl rfl ?_
                refine k_iload 13 rfl rfl rfl ?_
                refine r_pI I212 16 rfl rfl rfl (fun h253 I254 => ?_)
                refine k_aload 17 rfl rfl rfl ?_
                refine r_gI I254 20 rfl rfl rfl (fun x255 (e256 : x255.toInt = (2 : Int32).toInt) => ?_)
                by_cases b257 : x255 = 0
                · refine k_c1 23 rfl rfl (if_pos b257) ?_
                  have b257 := iv_eq0.mp b257
                  refine k_push 24 rfl rfl ?_
                  refine k_goto 28 rfl rfl ?_
                  refine k_fin rfl (fin_Z (Or.inr rfl)) ⟨_, _, rfl, rf_len I212 I254, ?_⟩
                  show am_Ok _ _ _ (28, _, [.inl (1 : Int32)], _, 0, 0) _
                  refine k_c1 33 rfl rfl (if_neg (by decide)) ?_
                  refine k_aload 34 rfl rfl rfl ?_
                  refine k_iload 35 rfl rfl rfl ?_
                  refine k_rv I254 rfl (m_tries (lm := lm) (gT := gT) I254.1 (show nn ((A0 24)) ((A0 25)) ((F0 28)) (gT) from p1) (show nw ((A0 24)) ((A0 25)) ((A0 26)) (lm) ((F0 28)) from p2) (show wr A0 from p5) (show wq A0 from p6) (show (F0 27) = cn ((A0 24)) ((F0 28)).toNat from p3) (show (F0 27) ≤ 400 ∧ (gT) ≤ 800000 by omega)) rfl rfl rfl I254.rc ?_
                  rintro h259 F260 A261 I262 ⟨k264, k265, p263⟩
                  replace p263 : nt (A261 24) (A261 25) (A261 26) (F260 28) (gT) (F260 27) ∧ (wr A261 ∧ wq A261 ∧ A261 2 2 = (A0 2) 2 ∧ (∀ q : Int, 2600 ≤ q → A261 1 q = (A0 1) q)) := p263
                  obtain ⟨p263a, p263b, p263c, p263d, p263e⟩ := p263
                  show am_Ok _ _ _ (38, _, [], _, 0, 0) _
                  refine k_aload 39 rfl rfl rfl ?_
                  refine r_gA I262 42 rfl rfl rfl ?_
                  refine k_iload 43 rfl rfl rfl ?_
                  refine r_ld 42 I262 44 rfl rfl (by omega) (show w2.toInt < 4 by omega) rfl (fun x266 (e267 : x266.toInt = A261 42 w2.toInt) => ?_)
                  exact k_fin rfl rfl ⟨_, _, _, _, rfl, I262, (fr1.tr (by decide) (fr1.up (by decide) (fr1.up (by decide) (fr1.up (by decide) fr1.rf))) k264), (fr2.tr (by decide) fr2.rf k265), ⟨p263a, p263b, p263c, p263d, p263e⟩⟩
                · refine k_c1 27 rfl rfl (if_neg b257) ?_
                  have b257 := mt iv_eq0.mpr b257
                  refine k_push 28 rfl rfl ?_
                  refine k_fin rfl (fin_Z (Or.inl rfl)) ⟨_, _, rfl, rf_len I212 I254, ?_⟩
                  show am_Ok _ _ _ (28, _, [.inl (0 : Int32)], _, 0, 0) _
                  refine k_c1 31 rfl rfl (if_pos (by decide)) ?_
                  refine k_push 32 rfl rfl ?_
                  exact k_fin rfl rfl ⟨_, _, _, _, rfl, I254, (fr1.up (by decide) (fr1.up (by decide) (fr1.up (by decide) fr1.rf))), fr2.rf, ⟨nt_of p1 p2 p3 p4.1 (by omega), p5, p6, rfl, fun q _ => rfl⟩⟩
              · refine k_c1 16 rfl rfl (if_neg b252) ?_
                have b252 := mt iv_eq0.mpr b252
                refine k_aload 17 rfl rfl rfl ?_
                refine r_gI I212 20 rfl rfl rfl (fun x268 (e269 : x268.toInt = (1 : Int32).toInt) => ?_)
                by_cases b270 : x268 = 0
                · refine k_c1 23 rfl rfl (if_pos b270) ?_
                  have b270 := iv_eq0.mp b270
                  refine k_push 24 rfl rfl ?_
                  refine k_goto 28 rfl rfl ?_
                  refine k_fin rfl (fin_Z (Or.inr rfl)) ⟨_, _, rfl, rf_len I212 I212, ?_⟩
                  show am_Ok _ _ _ (28, _, [.inl (1 : Int32)], _, 0, 0) _
                  refine k_c1 33 rfl rfl (if_neg (by decide)) ?_
                  refine k_aload 34 rfl rfl rfl ?_
                  refine k_iload 35 rfl rfl rfl ?_
                  refine k_rv I212 rfl (m_tries (lm := lm) (gT := gT) I212.1 (show nn ((A0 24)) ((A0 25)) ((F0 28)) (gT) from p1) (show nw ((A0 24)) ((A0 25)) ((A0 26)) (lm) ((F0 28)) from p2) (show wr A0 from p5) (show wq A0 from p6) (show (F0 27) = cn ((A0 24)) ((F0 28)).toNat from p3) (show (F0 27) ≤ 400 ∧ (gT) ≤ 800000 by omega)) rfl rfl rfl I212.rc ?_
                  rintro h272 F273 A274 I275 ⟨k277, k278, p276⟩
                  replace p276 : nt (A274 24) (A274 25) (A274 26) (F273 28) (gT) (F273 27) ∧ (wr A274 ∧ wq A274 ∧ A274 2 2 = (A0 2) 2 ∧ (∀ q : Int, 2600 ≤ q → A274 1 q = (A0 1) q)) := p276
                  obtain ⟨p276a, p276b, p276c, p276d, p276e⟩ := p276
                  show am_Ok _ _ _ (38, _, [], _, 0, 0) _
                  refine k_aload 39 rfl rfl rfl ?_
                  refine r_gA I275 42 rfl rfl rfl ?_
                  refine k_iload 43 rfl rfl rfl ?_
                  refine r_ld 42 I275 44 rfl rfl (by omega) (show w2.toInt < 4 by omega) rfl (fun x279 (e280 : x279.toInt = A274 42 w2.toInt) => ?_)
                  exact k_fin rfl rfl ⟨_, _, _, _, rfl, I275, (fr1.tr (by decide) (fr1.up (by decide) (fr1.up (by decide) fr1.rf)) k277), (fr2.tr (by decide) fr2.rf k278), ⟨p276a, p276b, p276c, p276d, p276e⟩⟩
                · refine k_c1 27 rfl rfl (if_neg b270) ?_
                  have b270 := mt iv_eq0.mpr b270
                  refine k_push 28 rfl rfl ?_
                  refine k_fin rfl (fin_Z (Or.inl rfl)) ⟨_, _, rfl, rf_len I212 I212, ?_⟩
                  show am_Ok _ _ _ (28, _, [.inl (0 : Int32)], _, 0, 0) _
                  refine k_c1 31 rfl rfl (if_pos (by decide)) ?_
                  refine k_push 32 rfl rfl ?_
                  exact k_fin rfl rfl ⟨_, _, _, _, rfl, I212, (fr1.up (by decide) (fr1.up (by decide) fr1.rf)), fr2.rf, ⟨nt_of p1 p2 p3 p4.1 (by omega), p5, p6, rfl, fun q _ => rfl⟩⟩
            · refine k_c2 10 rfl rfl (if_neg b249) ?_
              have b249 := mt iv_lt.mpr b249
              refine k_push 11 rfl rfl ?_
              refine k_goto 15 rfl rfl ?_
              refine k_fin rfl (fin_Z (Or.inr rfl)) ⟨_, _, rfl, rf_len I212 I212, ?_⟩
              show am_Ok _ _ _ (24, _, [.inl (1 : Int32), .inr (.inr (some 81))], _, 0, 0) _
              refine k_push 25 rfl rfl ?_
              refine k_in (d := 0) rfl rfl rfl rfl I212.rc ?_
              refine k_aload 1 rfl rfl rfl ?_
              refine r_gI I212 4 rfl rfl rfl (fun x281 (e282 : x281.toInt = (1 : Int32).toInt) => ?_)
              by_cases b283 : x281 = 0
              · refine k_c1 7 rfl rfl (if_pos b283) ?_
                have b283 := iv_eq0.mp b283
                refine k_iload 8 rfl rfl rfl ?_
                refine k_c1 16 rfl rfl (if_neg (by decide)) ?_
                refine k_aload 17 rfl rfl rfl ?_
                refine r_gI I212 20 rfl rfl rfl (fun x284 (e285 : x284.toInt = (1 : Int32).toInt) => ?_)
                by_cases b286 : x284 = 0
                · refine k_c1 23 rfl rfl (if_pos b286) ?_
                  have b286 := iv_eq0.mp b286
                  refine k_push 24 rfl rfl ?_
                  refine k_goto 28 rfl rfl ?_
                  refine k_fin rfl (fin_Z (Or.inr rfl)) ⟨_, _, rfl, rf_len I212 I212, ?_⟩
                  show am_Ok _ _ _ (28, _, [.inl (1 : Int32)], _, 0, 0) _
                  refine k_c1 33 rfl rfl (if_neg (by decide)) ?_
                  refine k_aload 34 rfl rfl rfl ?_
                  refine k_iload 35 rfl rfl rfl ?_
                  refine k_rv I212 rfl (m_tries (lm := lm) (gT := gT) I212.1 (show nn ((A0 24)) ((A0 25)) ((F0 28)) (gT) from p1) (show nw ((A0 24)) ((A0 25)) ((A0 26)) (lm) ((F0 28)) from p2) (show wr A0 from p5) (show wq A0 from p6) (show (F0 27) = cn ((A0 24)) ((F0 28)).toNat from p3) (show (F0 27) ≤ 400 ∧ (gT) ≤ 800000 by omega)) rfl rfl rfl I212.rc ?_
                  rintro h288 F289 A290 I291 ⟨k293, k294, p292⟩
                  replace p292 : nt (A290 24) (A290 25) (A290 26) (F289 28) (gT) (F289 27) ∧ (wr A290 ∧ wq A290 ∧ A290 2 2 = (A0 2) 2 ∧ (∀ q : Int, 2600 ≤ q → A290 1 q = (A0 1) q)) := p292
                  obtain ⟨p292a, p292b, p292c, p292d, p292e⟩ := p292
                  show am_Ok _ _ _ (38, _, [], _, 0, 0) _
                  refine k_aload 39 rfl rfl rfl ?_
                  refine r_gA I291 42 rfl rfl rfl ?_
                  refine k_iload 43 rfl rfl rfl ?_
                  refine r_ld 42 I291 44 rfl rfl (by omega) (show w2.toInt < 4 by omega) rfl (fun x295 (e296 : x295.toInt = A290 42 w2.toInt) => ?_)
                  exact k_fin rfl rfl ⟨_, _, _, _, rfl, I291, (fr1.tr (by decide) (fr1.up (by decide) (fr1.up (by decide) fr1.rf)) k293), (fr2.tr (by decide) fr2.rf k294), ⟨p292a, p292b, p292c, p292d, p292e⟩⟩
                · refine k_c1 27 rfl rfl (if_neg b286) ?_
                  have b286 := mt iv_eq0.mpr b286
                  refine k_push 28 rfl rfl ?_
                  refine k_fin rfl (fin_Z (Or.inl rfl)) ⟨_, _, rfl, rf_len I212 I212, ?_⟩
                  show am_Ok _ _ _ (28, _, [.inl (0 : Int32)], _, 0, 0) _
                  refine k_c1 31 rfl rfl (if_pos (by decide)) ?_
                  refine k_push 32 rfl rfl ?_
                  exact k_fin rfl rfl ⟨_, _, _, _, rfl, I212, (fr1.up (by decide) (fr1.up (by decide) fr1.rf)), fr2.rf, ⟨nt_of p1 p2 p3 p4.1 (by omega), p5, p6, rfl, fun q _ => rfl⟩⟩
              · refine k_c1 16 rfl rfl (if_neg b283) ?_
                have b283 := mt iv_eq0.mpr b283
                refine k_aload 17 rfl rfl rfl ?_
                refine r_gI I212 20 rfl rfl rfl (fun x297 (e298 : x297.toInt = (1 : Int32).toInt) => ?_)
                by_cases b299 : x297 = 0
                · refine k_c1 23 rfl rfl (if_pos b299) ?_
                  have b299 := iv_eq0.mp b299
                  refine k_push 24 rfl rfl ?_
                  refine k_goto 28 rfl rfl ?_
                  refine k_fin rfl (fin_Z (Or.inr rfl)) ⟨_, _, rfl, rf_len I212 I212, ?_⟩
                  show am_Ok _ _ _ (28, _, [.inl (1 : Int32)], _, 0, 0) _
                  refine k_c1 33 rfl rfl (if_neg (by decide)) ?_
                  refine k_aload 34 rfl rfl rfl ?_
                  refine k_iload 35 rfl rfl rfl ?_
                  refine k_rv I212 rfl (m_tries (lm := lm) (gT := gT) I212.1 (show nn ((A0 24)) ((A0 25)) ((F0 28)) (gT) from p1) (show nw ((A0 24)) ((A0 25)) ((A0 26)) (lm) ((F0 28)) from p2) (show wr A0 from p5) (show wq A0 from p6) (show (F0 27) = cn ((A0 24)) ((F0 28)).toNat from p3) (show (F0 27) ≤ 400 ∧ (gT) ≤ 800000 by omega)) rfl rfl rfl I212.rc ?_
                  rintro h301 F302 A303 I304 ⟨k306, k307, p305⟩
                  replace p305 : nt (A303 24) (A303 25) (A303 26) (F302 28) (gT) (F302 27) ∧ (wr A303 ∧ wq A303 ∧ A303 2 2 = (A0 2) 2 ∧ (∀ q : Int, 2600 ≤ q → A303 1 q = (A0 1) q)) := p305
                  obtain ⟨p305a, p305b, p305c, p305d, p305e⟩ := p305
                  show am_Ok _ _ _ (38, _, [], _, 0, 0) _
                  refine k_aload 39 rfl rfl rfl ?_
                  refine r_gA I304 42 rfl rfl rfl ?_
                  refine k_iload 43 rfl rfl rfl ?_
                  refine r_ld 42 I304 44 rfl rfl (by omega) (show w2.toInt < 4 by omega) rfl (fun x308 (e309 : x308.toInt = A303 42 w2.toInt) => ?_)
                  exact k_fin rfl rfl ⟨_, _, _, _, rfl, I304, (fr1.tr (by decide) (fr1.up (by decide) (fr1.up (by decide) fr1.rf)) k306), (fr2.tr (by decide) fr2.rf k307), ⟨p305a, p305b, p305c, p305d, p305e⟩⟩
                · refine k_c1 27 rfl rfl (if_neg b299) ?_
                  have b299 := mt iv_eq0.mpr b299
                  refine k_push 28 rfl rfl ?_
                  refine k_fin rfl (fin_Z (Or.inl rfl)) ⟨_, _, rfl, rf_len I212 I212, ?_⟩
                  show am_Ok _ _ _ (28, _, [.inl (0 : Int32)], _, 0, 0) _
                  refine k_c1 31 rfl rfl (if_pos (by decide)) ?_
                  refine k_push 32 rfl rfl ?_
                  exact k_fin rfl rfl ⟨_, _, _, _, rfl, I212, (fr1.up (by decide) (fr1.up (by decide) fr1.rf)), fr2.rf, ⟨nt_of p1 p2 p3 p4.1 (by omega), p5, p6, rfl, fun q _ => rfl⟩⟩
        · refine k_c1 27 rfl rfl (if_neg b215) ?_
          have b215 := mt iv_eq0.mpr b215
          refine k_push 28 rfl rfl ?_
          refine k_fin rfl (fin_Z (Or.inl rfl)) ⟨_, _, rfl, rf_len I3 I212, ?_⟩
          show am_Ok _ _ _ (14, _, [.inl (0 : Int32)], _, 0, 0) _
          refine k_c1 31 rfl rfl (if_pos (by decide)) ?_
          refine k_push 32 rfl rfl ?_
          exact k_fin rfl rfl ⟨_, _, _, _, rfl, I212, (fr1.up (by decide) (fr1.up (by decide) fr1.rf)), fr2.rf, ⟨nt_of p1 p2 p3 p4.1 (by omega), p5, p6, rfl, fun q _ => rfl⟩⟩
      · refine k_c1 16 rfl rfl (if_neg b210) ?_
        have b210 := mt iv_eq0.mpr b210
        refine k_aload 17 rfl rfl rfl ?_
        refine r_gI I3 20 rfl rfl rfl (fun x310 (e311 : x310.toInt = (0 : Int32).toInt) => ?_)
        by_cases b312 : x310 = 0
        · refine k_c1 23 rfl rfl (if_pos b312) ?_
          have b312 := iv_eq0.mp b312
          refine k_push 24 rfl rfl ?_
          refine k_goto 28 rfl rfl ?_
          refine k_fin rfl (fin_Z (Or.inr rfl)) ⟨_, _, rfl, rf_len I3 I3, ?_⟩
          show am_Ok _ _ _ (14, _, [.inl (1 : Int32)], _, 0, 0) _
          refine k_c1 17 rfl rfl (if_neg (by decide)) ?_
          refine k_aload 18 rfl rfl rfl ?_
          refine k_iload 19 rfl rfl rfl ?_
          refine k_push 20 rfl rfl ?_
          refine k_push 21 rfl rfl ?_
          have hc313 : (3 : Int32).toInt = 3 := by decide
          refine k_in (d := 0) rfl rfl rfl rfl rfl ?_
          refine k_iload 1 rfl rfl rfl ?_
          refine k_iload 2 rfl rfl rfl ?_
          by_cases b314 : w2 < (0 : Int32)
          · refine k_c2 14 rfl rfl (if_pos b314) ?_
            have b314 := iv_lt.mp b314
            refine k_push 15 rfl rfl ?_
            refine k_fin rfl (fin_Z (Or.inl rfl)) ⟨_, _, rfl, rf_len I3 I3, ?_⟩
            show am_Ok _ _ _ (24, _, [.inl (0 : Int32), .inr (.inr (some 81))], _, 0, 0) _
            refine k_push 25 rfl rfl ?_
            refine k_in (d := 0) rfl rfl rfl rfl I3.rc ?_
            refine k_aload 1 rfl rfl rfl ?_
            refine r_gI I3 4 rfl rfl rfl (fun x315 (e316 : x315.toInt = (0 : Int32).toInt) => ?_)
            by_cases b317 : x315 = 0
            · refine k_c1 7 rfl rfl (if_pos b317) ?_
              have b317 := iv_eq0.mp b317
              refine k_iload 8 rfl rfl rfl ?_
              refine k_c1 11 rfl rfl (if_pos (by decide)) ?_
              refine k_aload 12 rfl rfl rfl ?_
              refine k_iload 13 rfl rfl rfl ?_
              refine r_pI I3 16 rfl rfl rfl (fun h318 I319 => ?_)
              refine k_aload 17 rfl rfl rfl ?_
              refine r_gI I319 20 rfl rfl rfl (fun x320 (e321 : x320.toInt = (2 : Int32).toInt) => ?_)
              by_cases b322 : x320 = 0
              · refine k_c1 23 rfl rfl (if_pos b322) ?_
                have b322 := iv_eq0.mp b322
                refine k_push 24 rfl rfl ?_
                refine k_goto 28 rfl rfl ?_
                refine k_fin rfl (fin_Z (Or.inr rfl)) ⟨_, _, rfl, rf_len I3 I319, ?_⟩
                show am_Ok _ _ _ (28, _, [.inl (1 : Int32)], _, 0, 0) _
                refine k_c1 33 rfl rfl (if_neg (by decide)) ?_
                refine k_aload 34 rfl rfl rfl ?_
                refine k_iload 35 rfl rfl rfl ?_
                refine k_rv I319 rfl (m_tries (lm := lm) (gT := gT) I319.1 (show nn ((A0 24)) ((A0 25)) ((F0 28)) (gT) from p1) (show nw ((A0 24)) ((A0 25)) ((A0 26)) (lm) ((F0 28)) from p2) (show wr A0 from p5) (show wq A0 from p6) (show (F0 27) = cn ((A0 24)) ((F0 28)).toNat from p3) (show (F0 27) ≤ 400 ∧ (gT) ≤ 800000 by omega)) rfl rfl rfl I319.rc ?_
                rintro h324 F325 A326 I327 ⟨k329, k330, p328⟩
                replace p328 : nt (A326 24) (A326 25) (A326 26) (F325 28) (gT) (F325 27) ∧ (wr A326 ∧ wq A326 ∧ A326 2 2 = (A0 2) 2 ∧ (∀ q : Int, 2600 ≤ q → A326 1 q = (A0 1) q)) := p328
                obtain ⟨p328a, p328b, p328c, p328d, p328e⟩ := p328
                show am_Ok _ _ _ (38, _, [], _, 0, 0) _
                refine k_aload 39 rfl rfl rfl ?_
                refine r_gA I327 42 rfl rfl rfl ?_
                refine k_iload 43 rfl rfl rfl ?_
                refine r_ld 42 I327 44 rfl rfl (by omega) (show w2.toInt < 4 by omega) rfl (fun x331 (e332 : x331.toInt = A326 42 w2.toInt) => ?_)
                exact k_fin rfl rfl ⟨_, _, _, _, rfl, I327, (fr1.tr (by decide) (fr1.up (by decide) (fr1.up (by decide) fr1.rf)) k329), (fr2.tr (by decide) fr2.rf k330), ⟨p328a, p328b, p328c, p328d, p328e⟩⟩
              · refine k_c1 27 rfl rfl (if_neg b322) ?_
                have b322 := mt iv_eq0.mpr b322
                refine k_push 28 rfl rfl ?_
                refine k_fin rfl (fin_Z (Or.inl rfl)) ⟨_, _, rfl, rf_len I3 I319, ?_⟩
                show am_Ok _ _ _ (28, _, [.inl (0 : Int32)], _, 0, 0) _
                refine k_c1 31 rfl rfl (if_pos (by decide)) ?_
                refine k_push 32 rfl rfl ?_
                exact k_fin rfl rfl ⟨_, _, _, _, rfl, I319, (fr1.up (by decide) (fr1.up (by decide) fr1.rf)), fr2.rf, ⟨nt_of p1 p2 p3 p4.1 (by omega), p5, p6, rfl, fun q _ => rfl⟩⟩
            · refine k_c1 16 rfl rfl (if_neg b317) ?_
              have b317 := mt iv_eq0.mpr b317
              refine k_aload 17 rfl rfl rfl ?_
              refine r_gI I3 20 rfl rfl rfl (fun x333 (e334 : x333.toInt = (0 : Int32).toInt) => ?_)
              by_cases b335 : x333 = 0
              · refine k_c1 23 rfl rfl (if_pos b335) ?_
                have b335 := iv_eq0.mp b335
                refine k_push 24 rfl rfl ?_
                refine k_goto 28 rfl rfl ?_
                refine k_fin rfl (fin_Z (Or.inr rfl)) ⟨_, _, rfl, rf_len I3 I3, ?_⟩
                show am_Ok _ _ _ (28, _, [.inl (1 : Int32)], _, 0, 0) _
                refine k_c1 33 rfl rfl (if_neg (by decide)) ?_
                refine k_aload 34 rfl rfl rfl ?_
                refine k_iload 35 rfl rfl rfl ?_
                refine k_rv I3 rfl (m_tries (lm := lm) (gT := gT) I3.1 (show nn ((A0 24)) ((A0 25)) ((F0 28)) (gT) from p1) (show nw ((A0 24)) ((A0 25)) ((A0 26)) (lm) ((F0 28)) from p2) (show wr A0 from p5) (show wq A0 from p6) (show (F0 27) = cn ((A0 24)) ((F0 28)).toNat from p3) (show (F0 27) ≤ 400 ∧ (gT) ≤ 800000 by omega)) rfl rfl rfl I3.rc ?_
                rintro h337 F338 A339 I340 ⟨k342, k343, p341⟩
                replace p341 : nt (A339 24) (A339 25) (A339 26) (F338 28) (gT) (F338 27) ∧ (wr A339 ∧ wq A339 ∧ A339 2 2 = (A0 2) 2 ∧ (∀ q : Int, 2600 ≤ q → A339 1 q = (A0 1) q)) := p341
                obtain ⟨p341a, p341b, p341c, p341d, p341e⟩ := p341
                show am_Ok _ _ _ (38, _, [], _, 0, 0) _
                refine k_aload 39 rfl rfl rfl ?_
                refine r_gA I340 42 rfl rfl rfl ?_
                refine k_iload 43 rfl rfl rfl ?_
                refine r_ld 42 I340 44 rfl rfl (by omega) (show w2.toInt < 4 by omega) rfl (fun x344 (e345 : x344.toInt = A339 42 w2.toInt) => ?_)
                exact k_fin rfl rfl ⟨_, _, _, _, rfl, I340, (fr1.tr (by decide) (fr1.up (by decide) fr1.rf) k342), (fr2.tr (by decide) fr2.rf k343), ⟨p341a, p341b, p341c, p341d, p341e⟩⟩
              · refine k_c1 27 rfl rfl (if_neg b335) ?_
                have b335 := mt iv_eq0.mpr b335
                refine k_push 28 rfl rfl ?_
                refine k_fin rfl (fin_Z (Or.inl rfl)) ⟨_, _, rfl, rf_len I3 I3, ?_⟩
                show am_Ok _ _ _ (28, _, [.inl (0 : Int32)], _, 0, 0) _
                refine k_c1 31 rfl rfl (if_pos (by decide)) ?_
                refine k_push 32 rfl rfl ?_
                exact k_fin rfl rfl ⟨_, _, _, _, rfl, I3, (fr1.up (by decide) fr1.rf), fr2.rf, ⟨nt_of p1 p2 p3 p4.1 (by omega), p5, p6, rfl, fun q _ => rfl⟩⟩
          · refine k_c2 5 rfl rfl (if_neg b314) ?_
            have b314 := mt iv_lt.mpr b314
            refine k_iload 6 rfl rfl rfl ?_
            refine k_iload 7 rfl rfl rfl ?_
            by_cases b346 : (3 : Int32) < w2
            · refine k_c2 14 rfl rfl (if_pos b346) ?_
              have b346 := iv_lt.mp b346
              refine k_push 15 rfl rfl ?_
              refine k_fin rfl (fin_Z (Or.inl rfl)) ⟨_, _, rfl, rf_len I3 I3, ?_⟩
              show am_Ok _ _ _ (24, _, [.inl (0 : Int32), .inr (.inr (some 81))], _, 0, 0) _
              refine k_push 25 rfl rfl ?_
              refine k_in (d := 0) rfl rfl rfl rfl I3.rc ?_
              refine k_aload 1 rfl rfl rfl ?_
              refine r_gI I3 4 rfl rfl rfl (fun x347 (e348 : x347.toInt = (0 : Int32).toInt) => ?_)
              by_cases b349 : x347 = 0
              · refine k_c1 7 rfl rfl (if_pos b349) ?_
                have b349 := iv_eq0.mp b349
                refine k_iload 8 rfl rfl rfl ?_
                refine k_c1 11 rfl rfl (if_pos (by decide)) ?_
                refine k_aload 12 rfl rfl rfl ?_
                refine k_iload 13 rfl rfl rfl ?_
                refine r_pI I3 16 rfl rfl rfl (fun h350 I351 => ?_)
                refine k_aload 17 rfl rfl rfl ?_
                refine r_gI I351 20 rfl rfl rfl (fun x352 (e353 : x352.toInt = (2 : Int32).toInt) => ?_)
                by_cases b354 : x352 = 0
                · refine k_c1 23 rfl rfl (if_pos b354) ?_
                  have b354 := iv_eq0.mp b354
                  refine k_push 24 rfl rfl ?_
                  refine k_goto 28 rfl rfl ?_
                  refine k_fin rfl (fin_Z (Or.inr rfl)) ⟨_, _, rfl, rf_len I3 I351, ?_⟩
                  show am_Ok _ _ _ (28, _, [.inl (1 : Int32)], _, 0, 0) _
                  refine k_c1 33 rfl rfl (if_neg (by decide)) ?_
                  refine k_aload 34 rfl rfl rfl ?_
                  refine k_iload 35 rfl rfl rfl ?_
                  refine k_rv I351 rfl (m_tries (lm := lm) (gT := gT) I351.1 (show nn ((A0 24)) ((A0 25)) ((F0 28)) (gT) from p1) (show nw ((A0 24)) ((A0 25)) ((A0 26)) (lm) ((F0 28)) from p2) (show wr A0 from p5) (show wq A0 from p6) (show (F0 27) = cn ((A0 24)) ((F0 28)).toNat from p3) (show (F0 27) ≤ 400 ∧ (gT) ≤ 800000 by omega)) rfl rfl rfl I351.rc ?_
                  rintro h356 F357 A358 I359 ⟨k361, k362, p360⟩
                  replace p360 : nt (A358 24) (A358 25) (A358 26) (F357 28) (gT) (F357 27) ∧ (wr A358 ∧ wq A358 ∧ A358 2 2 = (A0 2) 2 ∧ (∀ q : Int, 2600 ≤ q → A358 1 q = (A0 1) q)) := p360
                  obtain ⟨p360a, p360b, p360c, p360d, p360e⟩ := p360
                  show am_Ok _ _ _ (38, _, [], _, 0, 0) _
                  refine k_aload 39 rfl rfl rfl ?_
                  refine r_gA I359 42 rfl rfl rfl ?_
                  refine k_iload 43 rfl rfl rfl ?_
                  refine r_ld 42 I359 44 rfl rfl (by omega) (show w2.toInt < 4 by omega) rfl (fun x363 (e364 : x363.toInt = A358 42 w2.toInt) => ?_)
                  exact k_fin rfl rfl ⟨_, _, _, _, rfl, I359, (fr1.tr (by decide) (fr1.up (by decide) (fr1.up (by decide) fr1.rf)) k361), (fr2.tr (by decide) fr2.rf k362), ⟨p360a, p360b, p360c, p360d, p360e⟩⟩
                · refine k_c1 27 rfl rfl (if_neg b354) ?_
                  have b354 := mt iv_eq0.mpr b354
                  refine k_push 28 rfl rfl ?_
                  refine k_fin rfl (fin_Z (Or.inl rfl)) ⟨_, _, rfl, rf_len I3 I351, ?_⟩
                  show am_Ok _ _ _ (28, _, [.inl (0 : Int32)], _, 0, 0) _
                  refine k_c1 31 rfl rfl (if_pos (by decide)) ?_
                  refine k_push 32 rfl rfl ?_
                  exact k_fin rfl rfl ⟨_, _, _, _, rfl, I351, (fr1.up (by decide) (fr1.up (by decide) fr1.rf)), fr2.rf, ⟨nt_of p1 p2 p3 p4.1 (by omega), p5, p6, rfl, fun q _ => rfl⟩⟩
              · refine k_c1 16 rfl rfl (if_neg b349) ?_
                have b349 := mt iv_eq0.mpr b349
                refine k_aload 17 rfl rfl rfl ?_
                refine r_gI I3 20 rfl rfl rfl (fun x365 (e366 : x365.toInt = (0 : Int32).toInt) => ?_)
                by_cases b367 : x365 = 0
                · refine k_c1 23 rfl rfl (if_pos b367) ?_
                  have b367 := iv_eq0.mp b367
                  refine k_push 24 rfl rfl ?_
                  refine k_goto 28 rfl rfl ?_
                  refine k_fin rfl (fin_Z (Or.inr rfl)) ⟨_, _, rfl, rf_len I3 I3, ?_⟩
                  show am_Ok _ _ _ (28, _, [.inl (1 : Int32)], _, 0, 0) _
                  refine k_c1 33 rfl rfl (if_neg (by decide)) ?_
                  refine k_aload 34 rfl rfl rfl ?_
                  refine k_iload 35 rfl rfl rfl ?_
                  refine k_rv I3 rfl (m_tries (lm := lm) (gT := gT) I3.1 (show nn ((A0 24)) ((A0 25)) ((F0 28)) (gT) from p1) (show nw ((A0 24)) ((A0 25)) ((A0 26)) (lm) ((F0 28)) from p2) (show wr A0 from p5) (show wq A0 from p6) (show (F0 27) = cn ((A0 24)) ((F0 28)).toNat from p3) (show (F0 27) ≤ 400 ∧ (gT) ≤ 800000 by omega)) rfl rfl rfl I3.rc ?_
                  rintro h369 F370 A371 I372 ⟨k374, k375, p373⟩
                  replace p373 : nt (A371 24) (A371 25) (A371 26) (F370 28) (gT) (F370 27) ∧ (wr A371 ∧ wq A371 ∧ A371 2 2 = (A0 2) 2 ∧ (∀ q : Int, 2600 ≤ q → A371 1 q = (A0 1) q)) := p373
                  obtain ⟨p373a, p373b, p373c, p373d, p373e⟩ := p373
                  show am_Ok _ _ _ (38, _, [], _, 0, 0) _
                  refine k_aload 39 rfl rfl rfl ?_
                  refine r_gA I372 42 rfl rfl rfl ?_
                  refine k_iload 43 rfl rfl rfl ?_
                  refine r_ld 42 I372 44 rfl rfl (by omega) (show w2.toInt < 4 by omega) rfl (fun x376 (e377 : x376.toInt = A371 42 w2.toInt) => ?_)
                  exact k_fin rfl rfl ⟨_, _, _, _, rfl, I372, (fr1.tr (by decide) (fr1.up (by decide) fr1.rf) k374), (fr2.tr (by decide) fr2.rf k375), ⟨p373a, p373b, p373c, p373d, p373e⟩⟩
                · refine k_c1 27 rfl rfl (if_neg b367) ?_
                  have b367 := mt iv_eq0.mpr b367
                  refine k_push 28 rfl rfl ?_
                  refine k_fin rfl (fin_Z (Or.inl rfl)) ⟨_, _, rfl, rf_len I3 I3, ?_⟩
                  show am_Ok _ _ _ (28, _, [.inl (0 : Int32)], _, 0, 0) _
                  refine k_c1 31 rfl rfl (if_pos (by decide)) ?_
                  refine k_push 32 rfl rfl ?_
                  exact k_fin rfl rfl ⟨_, _, _, _, rfl, I3, (fr1.up (by decide) fr1.rf), fr2.rf, ⟨nt_of p1 p2 p3 p4.1 (by omega), p5, p6, rfl, fun q _ => rfl⟩⟩
            · refine k_c2 10 rfl rfl (if_neg b346) ?_
              have b346 := mt iv_lt.mpr b346
              refine k_push 11 rfl rfl ?_
              refine k_goto 15 rfl rfl ?_
              refine k_fin rfl (fin_Z (Or.inr rfl)) ⟨_, _, rfl, rf_len I3 I3, ?_⟩
              show am_Ok _ _ _ (24, _, [.inl (1 : Int32), .inr (.inr (some 81))], _, 0, 0) _
              refine k_push 25 rfl rfl ?_
              refine k_in (d := 0) rfl rfl rfl rfl I3.rc ?_
              refine k_aload 1 rfl rfl rfl ?_
              refine r_gI I3 4 rfl rfl rfl (fun x378 (e379 : x378.toInt = (0 : Int32).toInt) => ?_)
              by_cases b380 : x378 = 0
              · refine k_c1 7 rfl rfl (if_pos b380) ?_
                have b380 := iv_eq0.mp b380
                refine k_iload 8 rfl rfl rfl ?_
                refine k_c1 16 rfl rfl (if_neg (by decide)) ?_
                refine k_aload 17 rfl rfl rfl ?_
                refine r_gI I3 20 rfl rfl rfl (fun x381 (e382 : x381.toInt = (0 : Int32).toInt) => ?_)
                by_cases b383 : x381 = 0
                · refine k_c1 23 rfl rfl (if_pos b383) ?_
                  have b383 := iv_eq0.mp b383
                  refine k_push 24 rfl rfl ?_
                  refine k_goto 28 rfl rfl ?_
                  refine k_fin rfl (fin_Z (Or.inr rfl)) ⟨_, _, rfl, rf_len I3 I3, ?_⟩
                  show am_Ok _ _ _ (28, _, [.inl (1 : Int32)], _, 0, 0) _
                  refine k_c1 33 rfl rfl (if_neg (by decide)) ?_
                  refine k_aload 34 rfl rfl rfl ?_
                  refine k_iload 35 rfl rfl rfl ?_
                  refine k_rv I3 rfl (m_tries (lm := lm) (gT := gT) I3.1 (show nn ((A0 24)) ((A0 25)) ((F0 28)) (gT) from p1) (show nw ((A0 24)) ((A0 25)) ((A0 26)) (lm) ((F0 28)) from p2) (show wr A0 from p5) (show wq A0 from p6) (show (F0 27) = cn ((A0 24)) ((F0 28)).toNat from p3) (show (F0 27) ≤ 400 ∧ (gT) ≤ 800000 by omega)) rfl rfl rfl I3.rc ?_
                  rintro h385 F386 A387 I388 ⟨k390, k391, p389⟩
                  replace p389 : nt (A387 24) (A387 25) (A387 26) (F386 28) (gT) (F386 27) ∧ (wr A387 ∧ wq A387 ∧ A387 2 2 = (A0 2) 2 ∧ (∀ q : Int, 2600 ≤ q → A387 1 q = (A0 1) q)) := p389
                  obtain ⟨p389a, p389b, p389c, p389d, p389e⟩ := p389
                  show am_Ok _ _ _ (38, _, [], _, 0, 0) _
                  refine k_aload 39 rfl rfl rfl ?_
                  refine r_gA I388 42 rfl rfl rfl ?_
                  refine k_iload 43 rfl rfl rfl ?_
                  refine r_ld 42 I388 44 rfl rfl (by omega) (show w2.toInt < 4 by omega) rfl (fun x392 (e393 : x392.toInt = A387 42 w2.toInt) => ?_)
                  exact k_fin rfl rfl ⟨_, _, _, _, rfl, I388, (fr1.tr (by decide) (fr1.up (by decide) fr1.rf) k390), (fr2.tr (by decide) fr2.rf k391), ⟨p389a, p389b, p389c, p389d, p389e⟩⟩
                · refine k_c1 27 rfl rfl (if_neg b383) ?_
                  have b383 := mt iv_eq0.mpr b383
                  refine k_push 28 rfl rfl ?_
                  refine k_fin rfl (fin_Z (Or.inl rfl)) ⟨_, _, rfl, rf_len I3 I3, ?_⟩
                  show am_Ok _ _ _ (28, _, [.inl (0 : Int32)], _, 0, 0) _
                  refine k_c1 31 rfl rfl (if_pos (by decide)) ?_
                  refine k_push 32 rfl rfl ?_
                  exact k_fin rfl rfl ⟨_, _, _, _, rfl, I3, (fr1.up (by decide) fr1.rf), fr2.rf, ⟨nt_of p1 p2 p3 p4.1 (by omega), p5, p6, rfl, fun q _ => rfl⟩⟩
              · refine k_c1 16 rfl rfl (if_neg b380) ?_
                have b380 := mt iv_eq0.mpr b380
                refine k_aload 17 rfl rfl rfl ?_
                refine r_gI I3 20 rfl rfl rfl (fun x394 (e395 : x394.toInt = (0 : Int32).toInt) => ?_)
                by_cases b396 : x394 = 0
                · refine k_c1 23 rfl rfl (if_pos b396) ?_
                  have b396 := iv_eq0.mp b396
                  refine k_push 24 rfl rfl ?_
                  refine k_goto 28 rfl rfl ?_
                  refine k_fin rfl (fin_Z (Or.inr rfl)) ⟨_, _, rfl, rf_len I3 I3, ?_⟩
                  show am_Ok _ _ _ (28, _, [.inl (1 : Int32)], _, 0, 0) _
                  refine k_c1 33 rfl rfl (if_neg (by decide)) ?_
                  refine k_aload 34 rfl rfl rfl ?_
                  refine k_iload 35 rfl rfl rfl ?_
                  refine k_rv I3 rfl (m_tries (lm := lm) (gT := gT) I3.1 (show nn ((A0 24)) ((A0 25)) ((F0 28)) (gT) from p1) (show nw ((A0 24)) ((A0 25)) ((A0 26)) (lm) ((F0 28)) from p2) (show wr A0 from p5) (show wq A0 from p6) (show (F0 27) = cn ((A0 24)) ((F0 28)).toNat from p3) (show (F0 27) ≤ 400 ∧ (gT) ≤ 800000 by omega)) rfl rfl rfl I3.rc ?_
                  rintro h398 F399 A400 I401 ⟨k403, k404, p402⟩
                  replace p402 : nt (A400 24) (A400 25) (A400 26) (F399 28) (gT) (F399 27) ∧ (wr A400 ∧ wq A400 ∧ A400 2 2 = (A0 2) 2 ∧ (∀ q : Int, 2600 ≤ q → A400 1 q = (A0 1) q)) := p402
                  obtain ⟨p402a, p402b, p402c, p402d, p402e⟩ := p402
                  show am_Ok _ _ _ (38, _, [], _, 0, 0) _
                  refine k_aload 39 rfl rfl rfl ?_
                  refine r_gA I401 42 rfl rfl rfl ?_
                  refine k_iload 43 rfl rfl rfl ?_
                  refine r_ld 42 I401 44 rfl rfl (by omega) (show w2.toInt < 4 by omega) rfl (fun x405 (e406 : x405.toInt = A400 42 w2.toInt) => ?_)
                  exact k_fin rfl rfl ⟨_, _, _, _, rfl, I401, (fr1.tr (by decide) (fr1.up (by decide) fr1.rf) k403), (fr2.tr (by decide) fr2.rf k404), ⟨p402a, p402b, p402c, p402d, p402e⟩⟩
                · refine k_c1 27 rfl rfl (if_neg b396) ?_
                  have b396 := mt iv_eq0.mpr b396
                  refine k_push 28 rfl rfl ?_
                  refine k_fin rfl (fin_Z (Or.inl rfl)) ⟨_, _, rfl, rf_len I3 I3, ?_⟩
                  show am_Ok _ _ _ (28, _, [.inl (0 : Int32)], _, 0, 0) _
                  refine k_c1 31 rfl rfl (if_pos (by decide)) ?_
                  refine k_push 32 rfl rfl ?_
                  exact k_fin rfl rfl ⟨_, _, _, _, rfl, I3, (fr1.up (by decide) fr1.rf), fr2.rf, ⟨nt_of p1 p2 p3 p4.1 (by omega), p5, p6, rfl, fun q _ => rfl⟩⟩
        · refine k_c1 27 rfl rfl (if_neg b312) ?_
          have b312 := mt iv_eq0.mpr b312
          refine k_push 28 rfl rfl ?_
          refine k_fin rfl (fin_Z (Or.inl rfl)) ⟨_, _, rfl, rf_len I3 I3, ?_⟩
          show am_Ok _ _ _ (14, _, [.inl (0 : Int32)], _, 0, 0) _
          refine k_c1 31 rfl rfl (if_pos (by decide)) ?_
          refine k_push 32 rfl rfl ?_
          exact k_fin rfl rfl ⟨_, _, _, _, rfl, I3, (fr1.up (by decide) fr1.rf), fr2.rf, ⟨nt_of p1 p2 p3 p4.1 (by omega), p5, p6, rfl, fun q _ => rfl⟩⟩
    · refine k_c2 10 rfl rfl (if_neg b206) ?_
      have b206 := mt iv_lt.mpr b206
      refine k_push 11 rfl rfl ?_
      have hc407 : (1 : Int32).toInt = 1 := by decide
      refine k_goto 15 rfl rfl ?_
      refine k_fin rfl (fin_Z (Or.inr rfl)) ⟨_, _, rfl, rf_len I3 I3, ?_⟩
      show am_Ok _ _ _ (6, _, [.inl (1 : Int32)], _, 0, 0) _
      refine k_fin rfl (fin_Z (Or.inr rfl)) ⟨_, _, rfl, rf_len I3 I3, ?_⟩
      show am_Ok _ _ _ (10, _, [.inl (1 : Int32), .inr (.inr (some 81))], _, 0, 0) _
      refine k_push 11 rfl rfl ?_
      refine k_in (d := 0) rfl rfl rfl rfl I3.rc ?_
      refine k_aload 1 rfl rfl rfl ?_
      refine r_gI I3 4 rfl rfl rfl (fun x408 (e409 : x408.toInt = (0 : Int32).toInt) => ?_)
      by_cases b410 : x408 = 0
      · refine k_c1 7 rfl rfl (if_pos b410) ?_
        have b410 := iv_eq0.mp b410
        refine k_iload 8 rfl rfl rfl ?_
        refine k_c1 16 rfl rfl (if_neg (by decide)) ?_
        refine k_aload 17 rfl rfl rfl ?_
        refine r_gI I3 20 rfl rfl rfl (fun x411 (e412 : x411.toInt = (0 : Int32).toInt) => ?_)
        by_cases b413 : x411 = 0
        · refine k_c1 23 rfl rfl (if_pos b413) ?_
          have b413 := iv_eq0.mp b413
          refine k_push 24 rfl rfl ?_
          refine k_goto 28 rfl rfl ?_
          refine k_fin rfl (fin_Z (Or.inr rfl)) ⟨_, _, rfl, rf_len I3 I3, ?_⟩
          show am_Ok _ _ _ (14, _, [.inl (1 : Int32)], _, 0, 0) _
          refine k_c1 17 rfl rfl (if_neg (by decide)) ?_
          refine k_aload 18 rfl rfl rfl ?_
          refine k_iload 19 rfl rfl rfl ?_
          refine k_push 20 rfl rfl ?_
          refine k_push 21 rfl rfl ?_
          have hc414 : (3 : Int32).toInt = 3 := by decide
          refine k_in (d := 0) rfl rfl rfl rfl rfl ?_
          refine k_iload 1 rfl rfl rfl ?_
          refine k_iload 2 rfl rfl rfl ?_
          by_cases b415 : w2 < (0 : Int32)
          · refine k_c2 14 rfl rfl (if_pos b415) ?_
            have b415 := iv_lt.mp b415
            refine k_push 15 rfl rfl ?_
            refine k_fin rfl (fin_Z (Or.inl rfl)) ⟨_, _, rfl, rf_len I3 I3, ?_⟩
            show am_Ok _ _ _ (24, _, [.inl (0 : Int32), .inr (.inr (some 81))], _, 0, 0) _
            refine k_push 25 rfl rfl ?_
            refine k_in (d := 0) rfl rfl rfl rfl I3.rc ?_
            refine k_aload 1 rfl rfl rfl ?_
            refine r_gI I3 4 rfl rfl rfl (fun x416 (e417 : x416.toInt = (0 : Int32).toInt) => ?_)
            by_cases b418 : x416 = 0
            · refine k_c1 7 rfl rfl (if_pos b418) ?_
              have b418 := iv_eq0.mp b418
              refine k_iload 8 rfl rfl rfl ?_
              refine k_c1 11 rfl rfl (if_pos (by decide)) ?_
              refine k_aload 12 rfl rfl rfl ?_
              refine k_iload 13 rfl rfl rfl ?_
              refine r_pI I3 16 rfl rfl rfl (fun h419 I420 => ?_)
              refine k_aload 17 rfl rfl rfl ?_
              refine r_gI I420 20 rfl rfl rfl (fun x421 (e422 : x421.toInt = (2 : Int32).toInt) => ?_)
              by_cases b423 : x421 = 0
              · refine k_c1 23 rfl rfl (if_pos b423) ?_
                have b423 := iv_eq0.mp b423
                refine k_push 24 rfl rfl ?_
                refine k_goto 28 rfl rfl ?_
                refine k_fin rfl (fin_Z (Or.inr rfl)) ⟨_, _, rfl, rf_len I3 I420, ?_⟩
                show am_Ok _ _ _ (28, _, [.inl (1 : Int32)], _, 0, 0) _
                refine k_c1 33 rfl rfl (if_neg (by decide)) ?_
                refine k_aload 34 rfl rfl rfl ?_
                refine k_iload 35 rfl rfl rfl ?_
                refine k_rv I420 rfl (m_tries (lm := lm) (gT := gT) I420.1 (show nn ((A0 24)) ((A0 25)) ((F0 28)) (gT) from p1) (show nw ((A0 24)) ((A0 25)) ((A0 26)) (lm) ((F0 28)) from p2) (show wr A0 from p5) (show wq A0 from p6) (show (F0 27) = cn ((A0 24)) ((F0 28)).toNat from p3) (show (F0 27) ≤ 400 ∧ (gT) ≤ 800000 by omega)) rfl rfl rfl I420.rc ?_
                rintro h425 F426 A427 I428 ⟨k430, k431, p429⟩
                replace p429 : nt (A427 24) (A427 25) (A427 26) (F426 28) (gT) (F426 27) ∧ (wr A427 ∧ wq A427 ∧ A427 2 2 = (A0 2) 2 ∧ (∀ q : Int, 2600 ≤ q → A427 1 q = (A0 1) q)) := p429
                obtain ⟨p429a, p429b, p429c, p429d, p429e⟩ := p429
                show am_Ok _ _ _ (38, _, [], _, 0, 0) _
                refine k_aload 39 rfl rfl rfl ?_
                refine r_gA I428 42 rfl rfl rfl ?_
                refine k_iload 43 rfl rfl rfl ?_
                refine r_ld 42 I428 44 rfl rfl (by omega) (show w2.toInt < 4 by omega) rfl (fun x432 (e433 : x432.toInt = A427 42 w2.toInt) => ?_)
                exact k_fin rfl rfl ⟨_, _, _, _, rfl, I428, (fr1.tr (by decide) (fr1.up (by decide) (fr1.up (by decide) fr1.rf)) k430), (fr2.tr (by decide) fr2.rf k431), ⟨p429a, p429b, p429c, p429d, p429e⟩⟩
              · refine k_c1 27 rfl rfl (if_neg b423) ?_
                have b423 := mt iv_eq0.mpr b423
                refine k_push 28 rfl rfl ?_
                refine k_fin rfl (fin_Z (Or.inl rfl)) ⟨_, _, rfl, rf_len I3 I420, ?_⟩
                show am_Ok _ _ _ (28, _, [.inl (0 : Int32)], _, 0, 0) _
                refine k_c1 31 rfl rfl (if_pos (by decide)) ?_
                refine k_push 32 rfl rfl ?_
                exact k_fin rfl rfl ⟨_, _, _, _, rfl, I420, (fr1.up (by decide) (fr1.up (by decide) fr1.rf)), fr2.rf, ⟨nt_of p1 p2 p3 p4.1 (by omega), p5, p6, rfl, fun q _ => rfl⟩⟩
            · refine k_c1 16 rfl rfl (if_neg b418) ?_
              have b418 := mt iv_eq0.mpr b418
              refine k_aload 17 rfl rfl rfl ?_
              refine r_gI I3 20 rfl rfl rfl (fun x434 (e435 : x434.toInt = (0 : Int32).toInt) => ?_)
              by_cases b436 : x434 = 0
              · refine k_c1 23 rfl rfl (if_pos b436) ?_
                have b436 := iv_eq0.mp b436
                refine k_push 24 rfl rfl ?_
                refine k_goto 28 rfl rfl ?_
                refine k_fin rfl (fin_Z (Or.inr rfl)) ⟨_, _, rfl, rf_len I3 I3, ?_⟩
                show am_Ok _ _ _ (28, _, [.inl (1 : Int32)], _, 0, 0) _
                refine k_c1 33 rfl rfl (if_neg (by decide)) ?_
                refine k_aload 34 rfl rfl rfl ?_
                refine k_iload 35 rfl rfl rfl ?_
                refine k_rv I3 rfl (m_tries (lm := lm) (gT := gT) I3.1 (show nn ((A0 24)) ((A0 25)) ((F0 28)) (gT) from p1) (show nw ((A0 24)) ((A0 25)) ((A0 26)) (lm) ((F0 28)) from p2) (show wr A0 from p5) (show wq A0 from p6) (show (F0 27) = cn ((A0 24)) ((F0 28)).toNat from p3) (show (F0 27) ≤ 400 ∧ (gT) ≤ 800000 by omega)) rfl rfl rfl I3.rc ?_
                rintro h438 F439 A440 I441 ⟨k443, k444, p442⟩
                replace p442 : nt (A440 24) (A440 25) (A440 26) (F439 28) (gT) (F439 27) ∧ (wr A440 ∧ wq A440 ∧ A440 2 2 = (A0 2) 2 ∧ (∀ q : Int, 2600 ≤ q → A440 1 q = (A0 1) q)) := p442
                obtain ⟨p442a, p442b, p442c, p442d, p442e⟩ := p442
                show am_Ok _ _ _ (38, _, [], _, 0, 0) _
                refine k_aload 39 rfl rfl rfl ?_
                refine r_gA I441 42 rfl rfl rfl ?_
                refine k_iload 43 rfl rfl rfl ?_
                refine r_ld 42 I441 44 rfl rfl (by omega) (show w2.toInt < 4 by omega) rfl (fun x445 (e446 : x445.toInt = A440 42 w2.toInt) => ?_)
                exact k_fin rfl rfl ⟨_, _, _, _, rfl, I441, (fr1.tr (by decide) (fr1.up (by decide) fr1.rf) k443), (fr2.tr (by decide) fr2.rf k444), ⟨p442a, p442b, p442c, p442d, p442e⟩⟩
              · refine k_c1 27 rfl rfl (if_neg b436) ?_
                have b436 := mt iv_eq0.mpr b436
                refine k_push 28 rfl rfl ?_
                refine k_fin rfl (fin_Z (Or.inl rfl)) ⟨_, _, rfl, rf_len I3 I3, ?_⟩
                show am_Ok _ _ _ (28, _, [.inl (0 : Int32)], _, 0, 0) _
                refine k_c1 31 rfl rfl (if_pos (by decide)) ?_
                refine k_push 32 rfl rfl ?_
                exact k_fin rfl rfl ⟨_, _, _, _, rfl, I3, (fr1.up (by decide) fr1.rf), fr2.rf, ⟨nt_of p1 p2 p3 p4.1 (by omega), p5, p6, rfl, fun q _ => rfl⟩⟩
          · refine k_c2 5 rfl rfl (if_neg b415) ?_
            have b415 := mt iv_lt.mpr b415
            refine k_iload 6 rfl rfl rfl ?_
            refine k_iload 7 rfl rfl rfl ?_
            by_cases b447 : (3 : Int32) < w2
            · refine k_c2 14 rfl rfl (if_pos b447) ?_
              have b447 := iv_lt.mp b447
              refine k_push 15 rfl rfl ?_
              refine k_fin rfl (fin_Z (Or.inl rfl)) ⟨_, _, rfl, rf_len I3 I3, ?_⟩
              show am_Ok _ _ _ (24, _, [.inl (0 : Int32), .inr (.inr (some 81))], _, 0, 0) _
              refine k_push 25 rfl rfl ?_
              refine k_in (d := 0) rfl rfl rfl rfl I3.rc ?_
              refine k_aload 1 rfl rfl rfl ?_
              refine r_gI I3 4 rfl rfl rfl (fun x448 (e449 : x448.toInt = (0 : Int32).toInt) => ?_)
              by_cases b450 : x448 = 0
              · refine k_c1 7 rfl rfl (if_pos b450) ?_
                have b450 := iv_eq0.mp b450
                refine k_iload 8 rfl rfl rfl ?_
                refine k_c1 11 rfl rfl (if_pos (by decide)) ?_
                refine k_aload 12 rfl rfl rfl ?_
                refine k_iload 13 rfl rfl rfl ?_
                refine r_pI I3 16 rfl rfl rfl (fun h451 I452 => ?_)
                refine k_aload 17 rfl rfl rfl ?_
                refine r_gI I452 20 rfl rfl rfl (fun x453 (e454 : x453.toInt = (2 : Int32).toInt) => ?_)
                by_cases b455 : x453 = 0
                · refine k_c1 23 rfl rfl (if_pos b455) ?_
                  have b455 := iv_eq0.mp b455
                  refine k_push 24 rfl rfl ?_
                  refine k_goto 28 rfl rfl ?_
                  refine k_fin rfl (fin_Z (Or.inr rfl)) ⟨_, _, rfl, rf_len I3 I452, ?_⟩
                  show am_Ok _ _ _ (28, _, [.inl (1 : Int32)], _, 0, 0) _
                  refine k_c1 33 rfl rfl (if_neg (by decide)) ?_
                  refine k_aload 34 rfl rfl rfl ?_
                  refine k_iload 35 rfl rfl rfl ?_
                  refine k_rv I452 rfl (m_tries (lm := lm) (gT := gT) I452.1 (show nn ((A0 24)) ((A0 25)) ((F0 28)) (gT) from p1) (show nw ((A0 24)) ((A0 25)) ((A0 26)) (lm) ((F0 28)) from p2) (show wr A0 from p5) (show wq A0 from p6) (show (F0 27) = cn ((A0 24)) ((F0 28)).toNat from p3) (show (F0 27) ≤ 400 ∧ (gT) ≤ 800000 by omega)) rfl rfl rfl I452.rc ?_
                  rintro h457 F458 A459 I460 ⟨k462, k463, p461⟩
                  replace p461 : nt (A459 24) (A459 25) (A459 26) (F458 28) (gT) (F458 27) ∧ (wr A459 ∧ wq A459 ∧ A459 2 2 = (A0 2) 2 ∧ (∀ q : Int, 2600 ≤ q → A459 1 q = (A0 1) q)) := p461
                  obtain ⟨p461a, p461b, p461c, p461d, p461e⟩ := p461
                  show am_Ok _ _ _ (38, _, [], _, 0, 0) _
                  refine k_aload 39 rfl rfl rfl ?_
                  refine r_gA I460 42 rfl rfl rfl ?_
                  refine k_iload 43 rfl rfl rfl ?_
                  refine r_ld 42 I460 44 rfl rfl (by omega) (show w2.toInt < 4 by omega) rfl (fun x464 (e465 : x464.toInt = A459 42 w2.toInt) => ?_)
                  exact k_fin rfl rfl ⟨_, _, _, _, rfl, I460, (fr1.tr (by decide) (fr1.up (by decide) (fr1.up (by decide) fr1.rf)) k462), (fr2.tr (by decide) fr2.rf k463), ⟨p461a, p461b, p461c, p461d, p461e⟩⟩
                · refine k_c1 27 rfl rfl (if_neg b455) ?_
                  have b455 := mt iv_eq0.mpr b455
                  refine k_push 28 rfl rfl ?_
                  refine k_fin rfl (fin_Z (Or.inl rfl)) ⟨_, _, rfl, rf_len I3 I452, ?_⟩
                  show am_Ok _ _ _ (28, _, [.inl (0 : Int32)], _, 0, 0) _
                  refine k_c1 31 rfl rfl (if_pos (by decide)) ?_
                  refine k_push 32 rfl rfl ?_
                  exact k_fin rfl rfl ⟨_, _, _, _, rfl, I452, (fr1.up (by decide) (fr1.up (by decide) fr1.rf)), fr2.rf, ⟨nt_of p1 p2 p3 p4.1 (by omega), p5, p6, rfl, fun q _ => rfl⟩⟩
              · refine k_c1 16 rfl rfl (if_neg b450) ?_
                have b450 := mt iv_eq0.mpr b450
                refine k_aload 17 rfl rfl rfl ?_
                refine r_gI I3 20 rfl rfl rfl (fun x466 (e467 : x466.toInt = (0 : Int32).toInt) => ?_)
                by_cases b468 : x466 = 0
                · refine k_c1 23 rfl rfl (if_pos b468) ?_
                  have b468 := iv_eq0.mp b468
                  refine k_push 24 rfl rfl ?_
                  refine k_goto 28 rfl rfl ?_
                  refine k_fin rfl (fin_Z (Or.inr rfl)) ⟨_, _, rfl, rf_len I3 I3, ?_⟩
                  show am_Ok _ _ _ (28, _, [.inl (1 : Int32)], _, 0, 0) _
                  refine k_c1 33 rfl rfl (if_neg (by decide)) ?_
                  refine k_aload 34 rfl rfl rfl ?_
                  refine k_iload 35 rfl rfl rfl ?_
                  refine k_rv I3 rfl (m_tries (lm := lm) (gT := gT) I3.1 (show nn ((A0 24)) ((A0 25)) ((F0 28)) (gT) from p1) (show nw ((A0 24)) ((A0 25)) ((A0 26)) (lm) ((F0 28)) from p2) (show wr A0 from p5) (show wq A0 from p6) (show (F0 27) = cn ((A0 24)) ((F0 28)).toNat from p3) (show (F0 27) ≤ 400 ∧ (gT) ≤ 800000 by omega)) rfl rfl rfl I3.rc ?_
                  rintro h470 F471 A472 I473 ⟨k475, k476, p474⟩
                  replace p474 : nt (A472 24) (A472 25) (A472 26) (F471 28) (gT) (F471 27) ∧ (wr A472 ∧ wq A472 ∧ A472 2 2 = (A0 2) 2 ∧ (∀ q : Int, 2600 ≤ q → A472 1 q = (A0 1) q)) := p474
                  obtain ⟨p474a, p474b, p474c, p474d, p474e⟩ := p474
                  show am_Ok _ _ _ (38, _, [], _, 0, 0) _
                  refine k_aload 39 rfl rfl rfl ?_
                  refine r_gA I473 42 rfl rfl rfl ?_
                  refine k_iload 43 rfl rfl rfl ?_
                  refine r_ld 42 I473 44 rfl rfl (by omega) (show w2.toInt < 4 by omega) rfl (fun x477 (e478 : x477.toInt = A472 42 w2.toInt) => ?_)
                  exact k_fin rfl rfl ⟨_, _, _, _, rfl, I473, (fr1.tr (by decide) (fr1.up (by decide) fr1.rf) k475), (fr2.tr (by decide) fr2.rf k476), ⟨p474a, p474b, p474c, p474d, p474e⟩⟩
                · refine k_c1 27 rfl rfl (if_neg b468) ?_
                  have b468 := mt iv_eq0.mpr b468
                  refine k_push 28 rfl rfl ?_
                  refine k_fin rfl (fin_Z (Or.inl rfl)) ⟨_, _, rfl, rf_len I3 I3, ?_⟩
                  show am_Ok _ _ _ (28, _, [.inl (0 : Int32)], _, 0, 0) _
                  refine k_c1 31 rfl rfl (if_pos (by decide)) ?_
                  refine k_push 32 rfl rfl ?_
                  exact k_fin rfl rfl ⟨_, _, _, _, rfl, I3, (fr1.up (by decide) fr1.rf), fr2.rf, ⟨nt_of p1 p2 p3 p4.1 (by omega), p5, p6, rfl, fun q _ => rfl⟩⟩
            · refine k_c2 10 rfl rfl (if_neg b447) ?_
              have b447 := mt iv_lt.mpr b447
              refine k_push 11 rfl rfl ?_
              refine k_goto 15 rfl rfl ?_
              refine k_fin rfl (fin_Z (Or.inr rfl)) ⟨_, _, rfl, rf_len I3 I3, ?_⟩
              show am_Ok _ _ _ (24, _, [.inl (1 : Int32), .inr (.inr (some 81))], _, 0, 0) _
              refine k_push 25 rfl rfl ?_
              refine k_in (d := 0) rfl rfl rfl rfl I3.rc ?_
              refine k_aload 1 rfl rfl rfl ?_
              refine r_gI I3 4 rfl rfl rfl (fun x479 (e480 : x479.toInt = (0 : Int32).toInt) => ?_)
              by_cases b481 : x479 = 0
              · refine k_c1 7 rfl rfl (if_pos b481) ?_
                have b481 := iv_eq0.mp b481
                refine k_iload 8 rfl rfl rfl ?_
                refine k_c1 16 rfl rfl (if_neg (by decide)) ?_
                refine k_aload 17 rfl rfl rfl ?_
                refine r_gI I3 20 rfl rfl rfl (fun x482 (e483 : x482.toInt = (0 : Int32).toInt) => ?_)
                by_cases b484 : x482 = 0
                · refine k_c1 23 rfl rfl (if_pos b484) ?_
                  have b484 := iv_eq0.mp b484
                  refine k_push 24 rfl rfl ?_
                  refine k_goto 28 rfl rfl ?_
                  refine k_fin rfl (fin_Z (Or.inr rfl)) ⟨_, _, rfl, rf_len I3 I3, ?_⟩
                  show am_Ok _ _ _ (28, _, [.inl (1 : Int32)], _, 0, 0) _
                  refine k_c1 33 rfl rfl (if_neg (by decide)) ?_
                  refine k_aload 34 rfl rfl rfl ?_
                  refine k_iload 35 rfl rfl rfl ?_
                  refine k_rv I3 rfl (m_tries (lm := lm) (gT := gT) I3.1 (show nn ((A0 24)) ((A0 25)) ((F0 28)) (gT) from p1) (show nw ((A0 24)) ((A0 25)) ((A0 26)) (lm) ((F0 28)) from p2) (show wr A0 from p5) (show wq A0 from p6) (show (F0 27) = cn ((A0 24)) ((F0 28)).toNat from p3) (show (F0 27) ≤ 400 ∧ (gT) ≤ 800000 by omega)) rfl rfl rfl I3.rc ?_
                  rintro h486 F487 A488 I489 ⟨k491, k492, p490⟩
                  replace p490 : nt (A488 24) (A488 25) (A488 26) (F487 28) (gT) (F487 27) ∧ (wr A488 ∧ wq A488 ∧ A488 2 2 = (A0 2) 2 ∧ (∀ q : Int, 2600 ≤ q → A488 1 q = (A0 1) q)) := p490
                  obtain ⟨p490a, p490b, p490c, p490d, p490e⟩ := p490
                  show am_Ok _ _ _ (38, _, [], _, 0, 0) _
                  refine k_aload 39 rfl rfl rfl ?_
                  refine r_gA I489 42 rfl rfl rfl ?_
                  refine k_iload 43 rfl rfl rfl ?_
                  refine r_ld 42 I489 44 rfl rfl (by omega) (show w2.toInt < 4 by omega) rfl (fun x493 (e494 : x493.toInt = A488 42 w2.toInt) => ?_)
                  exact k_fin rfl rfl ⟨_, _, _, _, rfl, I489, (fr1.tr (by decide) (fr1.up (by decide) fr1.rf) k491), (fr2.tr (by decide) fr2.rf k492), ⟨p490a, p490b, p490c, p490d, p490e⟩⟩
                · refine k_c1 27 rfl rfl (if_neg b484) ?_
                  have b484 := mt iv_eq0.mpr b484
                  refine k_push 28 rfl rfl ?_
                  refine k_fin rfl (fin_Z (Or.inl rfl)) ⟨_, _, rfl, rf_len I3 I3, ?_⟩
                  show am_Ok _ _ _ (28, _, [.inl (0 : Int32)], _, 0, 0) _
                  refine k_c1 31 rfl rfl (if_pos (by decide)) ?_
                  refine k_push 32 rfl rfl ?_
                  exact k_fin rfl rfl ⟨_, _, _, _, rfl, I3, (fr1.up (by decide) fr1.rf), fr2.rf, ⟨nt_of p1 p2 p3 p4.1 (by omega), p5, p6, rfl, fun q _ => rfl⟩⟩
              · refine k_c1 16 rfl rfl (if_neg b481) ?_
                have b481 := mt iv_eq0.mpr b481
                refine k_aload 17 rfl rfl rfl ?_
                refine r_gI I3 20 rfl rfl rfl (fun x495 (e496 : x495.toInt = (0 : Int32).toInt) => ?_)
                by_cases b497 : x495 = 0
                · refine k_c1 23 rfl rfl (if_pos b497) ?_
                  have b497 := iv_eq0.mp b497
                  refine k_push 24 rfl rfl ?_
                  refine k_goto 28 rfl rfl ?_
                  refine k_fin rfl (fin_Z (Or.inr rfl)) ⟨_, _, rfl, rf_len I3 I3, ?_⟩
                  show am_Ok _ _ _ (28, _, [.inl (1 : Int32)], _, 0, 0) _
                  refine k_c1 33 rfl rfl (if_neg (by decide)) ?_
                  refine k_aload 34 rfl rfl rfl ?_
                  refine k_iload 35 rfl rfl rfl ?_
                  refine k_rv I3 rfl (m_tries (lm := lm) (gT := gT) I3.1 (show nn ((A0 24)) ((A0 25)) ((F0 28)) (gT) from p1) (show nw ((A0 24)) ((A0 25)) ((A0 26)) (lm) ((F0 28)) from p2) (show wr A0 from p5) (show wq A0 from p6) (show (F0 27) = cn ((A0 24)) ((F0 28)).toNat from p3) (show (F0 27) ≤ 400 ∧ (gT) ≤ 800000 by omega)) rfl rfl rfl I3.rc ?_
                  rintro h499 F500 A501 I502 ⟨k504, k505, p503⟩
                  replace p503 : nt (A501 24) (A501 25) (A501 26) (F500 28) (gT) (F500 27) ∧ (wr A501 ∧ wq A501 ∧ A501 2 2 = (A0 2) 2 ∧ (∀ q : Int, 2600 ≤ q → A501 1 q = (A0 1) q)) := p503
                  obtain ⟨p503a, p503b, p503c, p503d, p503e⟩ := p503
                  show am_Ok _ _ _ (38, _, [], _, 0, 0) _
                  refine k_aload 39 rfl rfl rfl ?_
                  refine r_gA I502 42 rfl rfl rfl ?_
                  refine k_iload 43 rfl rfl rfl ?_
                  refine r_ld 42 I502 44 rfl rfl (by omega) (show w2.toInt < 4 by omega) rfl (fun x506 (e507 : x506.toInt = A501 42 w2.toInt) => ?_)
                  exact k_fin rfl rfl ⟨_, _, _, _, rfl, I502, (fr1.tr (by decide) (fr1.up (by decide) fr1.rf) k504), (fr2.tr (by decide) fr2.rf k505), ⟨p503a, p503b, p503c, p503d, p503e⟩⟩
                · refine k_c1 27 rfl rfl (if_neg b497) ?_
                  have b497 := mt iv_eq0.mpr b497
                  refine k_push 28 rfl rfl ?_
                  refine k_fin rfl (fin_Z (Or.inl rfl)) ⟨_, _, rfl, rf_len I3 I3, ?_⟩
                  show am_Ok _ _ _ (28, _, [.inl (0 : Int32)], _, 0, 0) _
                  refine k_c1 31 rfl rfl (if_pos (by decide)) ?_
                  refine k_push 32 rfl rfl ?_
                  exact k_fin rfl rfl ⟨_, _, _, _, rfl, I3, (fr1.up (by decide) fr1.rf), fr2.rf, ⟨nt_of p1 p2 p3 p4.1 (by omega), p5, p6, rfl, fun q _ => rfl⟩⟩
        · refine k_c1 27 rfl rfl (if_neg b413) ?_
          have b413 := mt iv_eq0.mpr b413
          refine k_push 28 rfl rfl ?_
          refine k_fin rfl (fin_Z (Or.inl rfl)) ⟨_, _, rfl, rf_len I3 I3, ?_⟩
          show am_Ok _ _ _ (14, _, [.inl (0 : Int32)], _, 0, 0) _
          refine k_c1 31 rfl rfl (if_pos (by decide)) ?_
          refine k_push 32 rfl rfl ?_
          exact k_fin rfl rfl ⟨_, _, _, _, rfl, I3, (fr1.up (by decide) fr1.rf), fr2.rf, ⟨nt_of p1 p2 p3 p4.1 (by omega), p5, p6, rfl, fun q _ => rfl⟩⟩
      · refine k_c1 16 rfl rfl (if_neg b410) ?_
        have b410 := mt iv_eq0.mpr b410
        refine k_aload 17 rfl rfl rfl ?_
        refine r_gI I3 20 rfl rfl rfl (fun x508 (e509 : x508.toInt = (0 : Int32).toInt) => ?_)
        by_cases b510 : x508 = 0
        · refine k_c1 23 rfl rfl (if_pos b510) ?_
          have b510 := iv_eq0.mp b510
          refine k_push 24 rfl rfl ?_
          refine k_goto 28 rfl rfl ?_
          refine k_fin rfl (fin_Z (Or.inr rfl)) ⟨_, _, rfl, rf_len I3 I3, ?_⟩
          show am_Ok _ _ _ (14, _, [.inl (1 : Int32)], _, 0, 0) _
          refine k_c1 17 rfl rfl (if_neg (by decide)) ?_
          refine k_aload 18 rfl rfl rfl ?_
          refine k_iload 19 rfl rfl rfl ?_
          refine k_push 20 rfl rfl ?_
          refine k_push 21 rfl rfl ?_
          have hc511 : (3 : Int32).toInt = 3 := by decide
          refine k_in (d := 0) rfl rfl rfl rfl rfl ?_
          refine k_iload 1 rfl rfl rfl ?_
          refine k_iload 2 rfl rfl rfl ?_
          by_cases b512 : w2 < (0 : Int32)
          · refine k_c2 14 rfl rfl (if_pos b512) ?_
            have b512 := iv_lt.mp b512
            refine k_push 15 rfl rfl ?_
            refine k_fin rfl (fin_Z (Or.inl rfl)) ⟨_, _, rfl, rf_len I3 I3, ?_⟩
            show am_Ok _ _ _ (24, _, [.inl (0 : Int32), .inr (.inr (some 81))], _, 0, 0) _
            refine k_push 25 rfl rfl ?_
            refine k_in (d := 0) rfl rfl rfl rfl I3.rc ?_
            refine k_aload 1 rfl rfl rfl ?_
            refine r_gI I3 4 rfl rfl rfl (fun x513 (e514 : x513.toInt = (0 : Int32).toInt) => ?_)
            by_cases b515 : x513 = 0
            · refine k_c1 7 rfl rfl (if_pos b515) ?_
              have b515 := iv_eq0.mp b515
              refine k_iload 8 rfl rfl rfl ?_
              refine k_c1 11 rfl rfl (if_pos (by decide)) ?_
              refine k_aload 12 rfl rfl rfl ?_
              refine k_iload 13 rfl rfl rfl ?_
              refine r_pI I3 16 rfl rfl rfl (fun h516 I517 => ?_)
              refine k_aload 17 rfl rfl rfl ?_
              refine r_gI I517 20 rfl rfl rfl (fun x518 (e519 : x518.toInt = (2 : Int32).toInt) => ?_)
              by_cases b520 : x518 = 0
              · refine k_c1 23 rfl rfl (if_pos b520) ?_
                have b520 := iv_eq0.mp b520
                refine k_push 24 rfl rfl ?_
                refine k_goto 28 rfl rfl ?_
                refine k_fin rfl (fin_Z (Or.inr rfl)) ⟨_, _, rfl, rf_len I3 I517, ?_⟩
                show am_Ok _ _ _ (28, _, [.inl (1 : Int32)], _, 0, 0) _
                refine k_c1 33 rfl rfl (if_neg (by decide)) ?_
                refine k_aload 34 rfl rfl rfl ?_
                refine k_iload 35 rfl rfl rfl ?_
                refine k_rv I517 rfl (m_tries (lm := lm) (gT := gT) I517.1 (show nn ((A0 24)) ((A0 25)) ((F0 28)) (gT) from p1) (show nw ((A0 24)) ((A0 25)) ((A0 26)) (lm) ((F0 28)) from p2) (show wr A0 from p5) (show wq A0 from p6) (show (F0 27) = cn ((A0 24)) ((F0 28)).toNat from p3) (show (F0 27) ≤ 400 ∧ (gT) ≤ 800000 by omega)) rfl rfl rfl I517.rc ?_
                rintro h522 F523 A524 I525 ⟨k527, k528, p526⟩
                replace p526 : nt (A524 24) (A524 25) (A524 26) (F523 28) (gT) (F523 27) ∧ (wr A524 ∧ wq A524 ∧ A524 2 2 = (A0 2) 2 ∧ (∀ q : Int, 2600 ≤ q → A524 1 q = (A0 1) q)) := p526
                obtain ⟨p526a, p526b, p526c, p526d, p526e⟩ := p526
                show am_Ok _ _ _ (38, _, [], _, 0, 0) _
                refine k_aload 39 rfl rfl rfl ?_
                refine r_gA I525 42 rfl rfl rfl ?_
                refine k_iload 43 rfl rfl rfl ?_
                refine r_ld 42 I525 44 rfl rfl (by omega) (show w2.toInt < 4 by omega) rfl (fun x529 (e530 : x529.toInt = A524 42 w2.toInt) => ?_)
                exact k_fin rfl rfl ⟨_, _, _, _, rfl, I525, (fr1.tr (by decide) (fr1.up (by decide) (fr1.up (by decide) fr1.rf)) k527), (fr2.tr (by decide) fr2.rf k528), ⟨p526a, p526b, p526c, p526d, p526e⟩⟩
              · refine k_c1 27 rfl rfl (if_neg b520) ?_
                have b520 := mt iv_eq0.mpr b520
                refine k_push 28 rfl rfl ?_
                refine k_fin rfl (fin_Z (Or.inl rfl)) ⟨_, _, rfl, rf_len I3 I517, ?_⟩
                show am_Ok _ _ _ (28, _, [.inl (0 : Int32)], _, 0, 0) _
                refine k_c1 31 rfl rfl (if_pos (by decide)) ?_
                refine k_push 32 rfl rfl ?_
                exact k_fin rfl rfl ⟨_, _, _, _, rfl, I517, (fr1.up (by decide) (fr1.up (by decide) fr1.rf)), fr2.rf, ⟨nt_of p1 p2 p3 p4.1 (by omega), p5, p6, rfl, fun q _ => rfl⟩⟩
            · refine k_c1 16 rfl rfl (if_neg b515) ?_
              have b515 := mt iv_eq0.mpr b515
              refine k_aload 17 rfl rfl rfl ?_
              refine r_gI I3 20 rfl rfl rfl (fun x531 (e532 : x531.toInt = (0 : Int32).toInt) => ?_)
              by_cases b533 : x531 = 0
              · refine k_c1 23 rfl rfl (if_pos b533) ?_
                have b533 := iv_eq0.mp b533
                refine k_push 24 rfl rfl ?_
                refine k_goto 28 rfl rfl ?_
                refine k_fin rfl (fin_Z (Or.inr rfl)) ⟨_, _, rfl, rf_len I3 I3, ?_⟩
                show am_Ok _ _ _ (28, _, [.inl (1 : Int32)], _, 0, 0) _
                refine k_c1 33 rfl rfl (if_neg (by decide)) ?_
                refine k_aload 34 rfl rfl rfl ?_
                refine k_iload 35 rfl rfl rfl ?_
                refine k_rv I3 rfl (m_tries (lm := lm) (gT := gT) I3.1 (show nn ((A0 24)) ((A0 25)) ((F0 28)) (gT) from p1) (show nw ((A0 24)) ((A0 25)) ((A0 26)) (lm) ((F0 28)) from p2) (show wr A0 from p5) (show wq A0 from p6) (show (F0 27) = cn ((A0 24)) ((F0 28)).toNat from p3) (show (F0 27) ≤ 400 ∧ (gT) ≤ 800000 by omega)) rfl rfl rfl I3.rc ?_
                rintro h535 F536 A537 I538 ⟨k540, k541, p539⟩
                replace p539 : nt (A537 24) (A537 25) (A537 26) (F536 28) (gT) (F536 27) ∧ (wr A537 ∧ wq A537 ∧ A537 2 2 = (A0 2) 2 ∧ (∀ q : Int, 2600 ≤ q → A537 1 q = (A0 1) q)) := p539
                obtain ⟨p539a, p539b, p539c, p539d, p539e⟩ := p539
                show am_Ok _ _ _ (38, _, [], _, 0, 0) _
                refine k_aload 39 rfl rfl rfl ?_
                refine r_gA I538 42 rfl rfl rfl ?_
                refine k_iload 43 rfl rfl rfl ?_
                refine r_ld 42 I538 44 rfl rfl (by omega) (show w2.toInt < 4 by omega) rfl (fun x542 (e543 : x542.toInt = A537 42 w2.toInt) => ?_)
                exact k_fin rfl rfl ⟨_, _, _, _, rfl, I538, (fr1.tr (by decide) (fr1.up (by decide) fr1.rf) k540), (fr2.tr (by decide) fr2.rf k541), ⟨p539a, p539b, p539c, p539d, p539e⟩⟩
              · refine k_c1 27 rfl rfl (if_neg b533) ?_
                have b533 := mt iv_eq0.mpr b533
                refine k_push 28 rfl rfl ?_
                refine k_fin rfl (fin_Z (Or.inl rfl)) ⟨_, _, rfl, rf_len I3 I3, ?_⟩
                show am_Ok _ _ _ (28, _, [.inl (0 : Int32)], _, 0, 0) _
                refine k_c1 31 rfl rfl (if_pos (by decide)) ?_
                refine k_push 32 rfl rfl ?_
                exact k_fin rfl rfl ⟨_, _, _, _, rfl, I3, (fr1.up (by decide) fr1.rf), fr2.rf, ⟨nt_of p1 p2 p3 p4.1 (by omega), p5, p6, rfl, fun q _ => rfl⟩⟩
          · refine k_c2 5 rfl rfl (if_neg b512) ?_
            have b512 := mt iv_lt.mpr b512
            refine k_iload 6 rfl rfl rfl ?_
            refine k_iload 7 rfl rfl rfl ?_
            by_cases b544 : (3 : Int32) < w2
            · refine k_c2 14 rfl rfl (if_pos b544) ?_
              have b544 := iv_lt.mp b544
              refine k_push 15 rfl rfl ?_
              refine k_fin rfl (fin_Z (Or.inl rfl)) ⟨_, _, rfl, rf_len I3 I3, ?_⟩
              show am_Ok _ _ _ (24, _, [.inl (0 : Int32), .inr (.inr (some 81))], _, 0, 0) _
              refine k_push 25 rfl rfl ?_
              refine k_in (d := 0) rfl rfl rfl rfl I3.rc ?_
              refine k_aload 1 rfl rfl rfl ?_
              refine r_gI I3 4 rfl rfl rfl (fun x545 (e546 : x545.toInt = (0 : Int32).toInt) => ?_)
              by_cases b547 : x545 = 0
              · refine k_c1 7 rfl rfl (if_pos b547) ?_
                have b547 := iv_eq0.mp b547
                refine k_iload 8 rfl rfl rfl ?_
                refine k_c1 11 rfl rfl (if_pos (by decide)) ?_
                refine k_aload 12 rfl rfl rfl ?_
                refine k_iload 13 rfl rfl rfl ?_
                refine r_pI I3 16 rfl rfl rfl (fun h548 I549 => ?_)
                refine k_aload 17 rfl rfl rfl ?_
                refine r_gI I549 20 rfl rfl rfl (fun x550 (e551 : x550.toInt = (2 : Int32).toInt) => ?_)
                by_cases b552 : x550 = 0
                · refine k_c1 23 rfl rfl (if_pos b552) ?_
                  have b552 := iv_eq0.mp b552
                  refine k_push 24 rfl rfl ?_
                  refine k_goto 28 rfl rfl ?_
                  refine k_fin rfl (fin_Z (Or.inr rfl)) ⟨_, _, rfl, rf_len I3 I549, ?_⟩
                  show am_Ok _ _ _ (28, _, [.inl (1 : Int32)], _, 0, 0) _
                  refine k_c1 33 rfl rfl (if_neg (by decide)) ?_
                  refine k_aload 34 rfl rfl rfl ?_
                  refine k_iload 35 rfl rfl rfl ?_
                  refine k_rv I549 rfl (m_tries (lm := lm) (gT := gT) I549.1 (show nn ((A0 24)) ((A0 25)) ((F0 28)) (gT) from p1) (show nw ((A0 24)) ((A0 25)) ((A0 26)) (lm) ((F0 28)) from p2) (show wr A0 from p5) (show wq A0 from p6) (show (F0 27) = cn ((A0 24)) ((F0 28)).toNat from p3) (show (F0 27) ≤ 400 ∧ (gT) ≤ 800000 by omega)) rfl rfl rfl I549.rc ?_
                  rintro h554 F555 A556 I557 ⟨k559, k560, p558⟩
                  replace p558 : nt (A556 24) (A556 25) (A556 26) (F555 28) (gT) (F555 27) ∧ (wr A556 ∧ wq A556 ∧ A556 2 2 = (A0 2) 2 ∧ (∀ q : Int, 2600 ≤ q → A556 1 q = (A0 1) q)) := p558
                  obtain ⟨p558a, p558b, p558c, p558d, p558e⟩ := p558
                  show am_Ok _ _ _ (38, _, [], _, 0, 0) _
                  refine k_aload 39 rfl rfl rfl ?_
                  refine r_gA I557 42 rfl rfl rfl ?_
                  refine k_iload 43 rfl rfl rfl ?_
                  refine r_ld 42 I557 44 rfl rfl (by omega) (show w2.toInt < 4 by omega) rfl (fun x561 (e562 : x561.toInt = A556 42 w2.toInt) => ?_)
                  exact k_fin rfl rfl ⟨_, _, _, _, rfl, I557, (fr1.tr (by decide) (fr1.up (by decide) (fr1.up (by decide) fr1.rf)) k559), (fr2.tr (by decide) fr2.rf k560), ⟨p558a, p558b, p558c, p558d, p558e⟩⟩
                · refine k_c1 27 rfl rfl (if_neg b552) ?_
                  have b552 := mt iv_eq0.mpr b552
                  refine k_push 28 rfl rfl ?_
                  refine k_fin rfl (fin_Z (Or.inl rfl)) ⟨_, _, rfl, rf_len I3 I549, ?_⟩
                  show am_Ok _ _ _ (28, _, [.inl (0 : Int32)], _, 0, 0) _
                  refine k_c1 31 rfl rfl (if_pos (by decide)) ?_
                  refine k_push 32 rfl rfl ?_
                  exact k_fin rfl rfl ⟨_, _, _, _, rfl, I549, (fr1.up (by decide) (fr1.up (by decide) fr1.rf)), fr2.rf, ⟨nt_of p1 p2 p3 p4.1 (by omega), p5, p6, rfl, fun q _ => rfl⟩⟩
              · refine k_c1 16 rfl rfl (if_neg b547) ?_
                have b547 := mt iv_eq0.mpr b547
                refine k_aload 17 rfl rfl rfl ?_
                refine r_gI I3 20 rfl rfl rfl (fun x563 (e564 : x563.toInt = (0 : Int32).toInt) => ?_)
                by_cases b565 : x563 = 0
                · refine k_c1 23 rfl rfl (if_pos b565) ?_
                  have b565 := iv_eq0.mp b565
                  refine k_push 24 rfl rfl ?_
                  refine k_goto 28 rfl rfl ?_
                  refine k_fin rfl (fin_Z (Or.inr rfl)) ⟨_, _, rfl, rf_len I3 I3, ?_⟩
                  show am_Ok _ _ _ (28, _, [.inl (1 : Int32)], _, 0, 0) _
                  refine k_c1 33 rfl rfl (if_neg (by decide)) ?_
                  refine k_aload 34 rfl rfl rfl ?_
                  refine k_iload 35 rfl rfl rfl ?_
                  refine k_rv I3 rfl (m_tries (lm := lm) (gT := gT) I3.1 (show nn ((A0 24)) ((A0 25)) ((F0 28)) (gT) from p1) (show nw ((A0 24)) ((A0 25)) ((A0 26)) (lm) ((F0 28)) from p2) (show wr A0 from p5) (show wq A0 from p6) (show (F0 27) = cn ((A0 24)) ((F0 28)).toNat from p3) (show (F0 27) ≤ 400 ∧ (gT) ≤ 800000 by omega)) rfl rfl rfl I3.rc ?_
                  rintro h567 F568 A569 I570 ⟨k572, k573, p571⟩
                  replace p571 : nt (A569 24) (A569 25) (A569 26) (F568 28) (gT) (F568 27) ∧ (wr A569 ∧ wq A569 ∧ A569 2 2 = (A0 2) 2 ∧ (∀ q : Int, 2600 ≤ q → A569 1 q = (A0 1) q)) := p571
                  obtain ⟨p571a, p571b, p571c, p571d, p571e⟩ := p571
                  show am_Ok _ _ _ (38, _, [], _, 0, 0) _
                  refine k_aload 39 rfl rfl rfl ?_
                  refine r_gA I570 42 rfl rfl rfl ?_
                  refine k_iload 43 rfl rfl rfl ?_
                  refine r_ld 42 I570 44 rfl rfl (by omega) (show w2.toInt < 4 by omega) rfl (fun x574 (e575 : x574.toInt = A569 42 w2.toInt) => ?_)
                  exact k_fin rfl rfl ⟨_, _, _, _, rfl, I570, (fr1.tr (by decide) (fr1.up (by decide) fr1.rf) k572), (fr2.tr (by decide) fr2.rf k573), ⟨p571a, p571b, p571c, p571d, p571e⟩⟩
                · refine k_c1 27 rfl rfl (if_neg b565) ?_
                  have b565 := mt iv_eq0.mpr b565
                  refine k_push 28 rfl rfl ?_
                  refine k_fin rfl (fin_Z (Or.inl rfl)) ⟨_, _, rfl, rf_len I3 I3, ?_⟩
                  show am_Ok _ _ _ (28, _, [.inl (0 : Int32)], _, 0, 0) _
                  refine k_c1 31 rfl rfl (if_pos (by decide)) ?_
                  refine k_push 32 rfl rfl ?_
                  exact k_fin rfl rfl ⟨_, _, _, _, rfl, I3, (fr1.up (by decide) fr1.rf), fr2.rf, ⟨nt_of p1 p2 p3 p4.1 (by omega), p5, p6, rfl, fun q _ => rfl⟩⟩
            · refine k_c2 10 rfl rfl (if_neg b544) ?_
              have b544 := mt iv_lt.mpr b544
              refine k_push 11 rfl rfl ?_
              refine k_goto 15 rfl rfl ?_
              refine k_fin rfl (fin_Z (Or.inr rfl)) ⟨_, _, rfl, rf_len I3 I3, ?_⟩
              show am_Ok _ _ _ (24, _, [.inl (1 : Int32), .inr (.inr (some 81))], _, 0, 0) _
              refine k_push 25 rfl rfl ?_
              refine k_in (d := 0) rfl rfl rfl rfl I3.rc ?_
              refine k_aload 1 rfl rfl rfl ?_
              refine r_gI I3 4 rfl rfl rfl (fun x576 (e577 : x576.toInt = (0 : Int32).toInt) => ?_)
              by_cases b578 : x576 = 0
              · refine k_c1 7 rfl rfl (if_pos b578) ?_
                have b578 := iv_eq0.mp b578
                refine k_iload 8 rfl rfl rfl ?_
                refine k_c1 16 rfl rfl (if_neg (by decide)) ?_
                refine k_aload 17 rfl rfl rfl ?_
                refine r_gI I3 20 rfl rfl rfl (fun x579 (e580 : x579.toInt = (0 : Int32).toInt) => ?_)
                by_cases b581 : x579 = 0
                · refine k_c1 23 rfl rfl (if_pos b581) ?_
                  have b581 := iv_eq0.mp b581
                  refine k_push 24 rfl rfl ?_
                  refine k_goto 28 rfl rfl ?_
                  refine k_fin rfl (fin_Z (Or.inr rfl)) ⟨_, _, rfl, rf_len I3 I3, ?_⟩
                  show am_Ok _ _ _ (28, _, [.inl (1 : Int32)], _, 0, 0) _
                  refine k_c1 33 rfl rfl (if_neg (by decide)) ?_
                  refine k_aload 34 rfl rfl rfl ?_
                  refine k_iload 35 rfl rfl rfl ?_
                  refine k_rv I3 rfl (m_tries (lm := lm) (gT := gT) I3.1 (show nn ((A0 24)) ((A0 25)) ((F0 28)) (gT) from p1) (show nw ((A0 24)) ((A0 25)) ((A0 26)) (lm) ((F0 28)) from p2) (show wr A0 from p5) (show wq A0 from p6) (show (F0 27) = cn ((A0 24)) ((F0 28)).toNat from p3) (show (F0 27) ≤ 400 ∧ (gT) ≤ 800000 by omega)) rfl rfl rfl I3.rc ?_
                  rintro h583 F584 A585 I586 ⟨k588, k589, p587⟩
                  replace p587 : nt (A585 24) (A585 25) (A585 26) (F584 28) (gT) (F584 27) ∧ (wr A585 ∧ wq A585 ∧ A585 2 2 = (A0 2) 2 ∧ (∀ q : Int, 2600 ≤ q → A585 1 q = (A0 1) q)) := p587
                  obtain ⟨p587a, p587b, p587c, p587d, p587e⟩ := p587
                  show am_Ok _ _ _ (38, _, [], _, 0, 0) _
                  refine k_aload 39 rfl rfl rfl ?_
                  refine r_gA I586 42 rfl rfl rfl ?_
                  refine k_iload 43 rfl rfl rfl ?_
                  refine r_ld 42 I586 44 rfl rfl (by omega) (show w2.toInt < 4 by omega) rfl (fun x590 (e591 : x590.toInt = A585 42 w2.toInt) => ?_)
                  exact k_fin rfl rfl ⟨_, _, _, _, rfl, I586, (fr1.tr (by decide) (fr1.up (by decide) fr1.rf) k588), (fr2.tr (by decide) fr2.rf k589), ⟨p587a, p587b, p587c, p587d, p587e⟩⟩
                · refine k_c1 27 rfl rfl (if_neg b581) ?_
                  have b581 := mt iv_eq0.mpr b581
                  refine k_push 28 rfl rfl ?_
                  refine k_fin rfl (fin_Z (Or.inl rfl)) ⟨_, _, rfl, rf_len I3 I3, ?_⟩
                  show am_Ok _ _ _ (28, _, [.inl (0 : Int32)], _, 0, 0) _
                  refine k_c1 31 rfl rfl (if_pos (by decide)) ?_
                  refine k_push 32 rfl rfl ?_
                  exact k_fin rfl rfl ⟨_, _, _, _, rfl, I3, (fr1.up (by decide) fr1.rf), fr2.rf, ⟨nt_of p1 p2 p3 p4.1 (by omega), p5, p6, rfl, fun q _ => rfl⟩⟩
              · refine k_c1 16 rfl rfl (if_neg b578) ?_
                have b578 := mt iv_eq0.mpr b578
                refine k_aload 17 rfl rfl rfl ?_
                refine r_gI I3 20 rfl rfl rfl (fun x592 (e593 : x592.toInt = (0 : Int32).toInt) => ?_)
                by_cases b594 : x592 = 0
                · refine k_c1 23 rfl rfl (if_pos b594) ?_
                  have b594 := iv_eq0.mp b594
                  refine k_push 24 rfl rfl ?_
                  refine k_goto 28 rfl rfl ?_
                  refine k_fin rfl (fin_Z (Or.inr rfl)) ⟨_, _, rfl, rf_len I3 I3, ?_⟩
                  show am_Ok _ _ _ (28, _, [.inl (1 : Int32)], _, 0, 0) _
                  refine k_c1 33 rfl rfl (if_neg (by decide)) ?_
                  refine k_aload 34 rfl rfl rfl ?_
                  refine k_iload 35 rfl rfl rfl ?_
                  refine k_rv I3 rfl (m_tries (lm := lm) (gT := gT) I3.1 (show nn ((A0 24)) ((A0 25)) ((F0 28)) (gT) from p1) (show nw ((A0 24)) ((A0 25)) ((A0 26)) (lm) ((F0 28)) from p2) (show wr A0 from p5) (show wq A0 from p6) (show (F0 27) = cn ((A0 24)) ((F0 28)).toNat from p3) (show (F0 27) ≤ 400 ∧ (gT) ≤ 800000 by omega)) rfl rfl rfl I3.rc ?_
                  rintro h596 F597 A598 I599 ⟨k601, k602, p600⟩
                  replace p600 : nt (A598 24) (A598 25) (A598 26) (F597 28) (gT) (F597 27) ∧ (wr A598 ∧ wq A598 ∧ A598 2 2 = (A0 2) 2 ∧ (∀ q : Int, 2600 ≤ q → A598 1 q = (A0 1) q)) := p600
                  obtain ⟨p600a, p600b, p600c, p600d, p600e⟩ := p600
                  show am_Ok _ _ _ (38, _, [], _, 0, 0) _
                  refine k_aload 39 rfl rfl rfl ?_
                  refine r_gA I599 42 rfl rfl rfl ?_
                  refine k_iload 43 rfl rfl rfl ?_
                  refine r_ld 42 I599 44 rfl rfl (by omega) (show w2.toInt < 4 by omega) rfl (fun x603 (e604 : x603.toInt = A598 42 w2.toInt) => ?_)
                  exact k_fin rfl rfl ⟨_, _, _, _, rfl, I599, (fr1.tr (by decide) (fr1.up (by decide) fr1.rf) k601), (fr2.tr (by decide) fr2.rf k602), ⟨p600a, p600b, p600c, p600d, p600e⟩⟩
                · refine k_c1 27 rfl rfl (if_neg b594) ?_
                  have b594 := mt iv_eq0.mpr b594
                  refine k_push 28 rfl rfl ?_
                  refine k_fin rfl (fin_Z (Or.inl rfl)) ⟨_, _, rfl, rf_len I3 I3, ?_⟩
                  show am_Ok _ _ _ (28, _, [.inl (0 : Int32)], _, 0, 0) _
                  refine k_c1 31 rfl rfl (if_pos (by decide)) ?_
                  refine k_push 32 rfl rfl ?_
                  exact k_fin rfl rfl ⟨_, _, _, _, rfl, I3, (fr1.up (by decide) fr1.rf), fr2.rf, ⟨nt_of p1 p2 p3 p4.1 (by omega), p5, p6, rfl, fun q _ => rfl⟩⟩
        · refine k_c1 27 rfl rfl (if_neg b510) ?_
          have b510 := mt iv_eq0.mpr b510
          refine k_push 28 rfl rfl ?_
          refine k_fin rfl (fin_Z (Or.inl rfl)) ⟨_, _, rfl, rf_len I3 I3, ?_⟩
          show am_Ok _ _ _ (14, _, [.inl (0 : Int32)], _, 0, 0) _
          refine k_c1 31 rfl rfl (if_pos (by decide)) ?_
          refine k_push 32 rfl rfl ?_
          exact k_fin rfl rfl ⟨_, _, _, _, rfl, I3, (fr1.up (by decide) fr1.rf), fr2.rf, ⟨nt_of p1 p2 p3 p4.1 (by omega), p5, p6, rfl, fun q _ => rfl⟩⟩
end
