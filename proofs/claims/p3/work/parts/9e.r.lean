section
theorem b_X10_readsFunction_6 {h0 : am_h} {F0 : rf_f} {A0 : rf_A} {gk : Nat} (hrec : ∀ {h0 : am_h} {F0 : rf_f} {A0 : rf_A}, rf_R h0 F0 A0 → (0 ≤ F0 8 ∧ F0 8 ≤ F0 7 ∧ F0 7 ≤ 700 ∧ 0 ≤ F0 20 ∧ F0 20 ≤ 30 ∧ 0 ≤ F0 21 ∧ F0 21 ≤ 12 ∧ 0 ≤ F0 18 ∧ F0 18 ≤ 12 ∧ 0 ≤ F0 23 ∧ F0 23 ≤ 1000000 ∧ (F0 9 = 2 → 0 ≤ F0 11 ∧ F0 11 ≤ 9) ∧ 0 ≤ F0 9 ∧ F0 9 ≤ 4) → (nm (A0 16) (A0 17) (F0 18)) → ((12 - F0 21) + (30 - F0 20) < (gk : Int)) → am_Mt (2 * gk + 5) 182 [.inr (.inr (some 81))] h0 (rf_V h0 (fun F' A' => fr1 [8, 10, 9, 14, 11, 12, 6, 5, 23, 20, 21] F0 F' ∧ fr2 [22] A0 A' ∧ ((F0 8 ≤ F' 8 ∧ F' 8 ≤ F0 7 ∧ F0 20 ≤ F' 20 ∧ F' 20 ≤ 30 ∧ F' 21 = F0 21 ∧ F0 23 ≤ F' 23 ∧ F' 23 ≤ 1000000 ∧ (F' 9 = 2 → 0 ≤ F' 11 ∧ F' 11 ≤ 9) ∧ 0 ≤ F' 9 ∧ F' 9 ≤ 4) ∧ (F' 6 = 0 → F' 20 = F0 20 ∧ F0 6 = 0 ∧ (F' 9 = 0 ∨ F0 8 < F' 8)) ∧ (F' 6 = 0 → F' 23 ≤ 124 → rd1 (A' 22) (A0 22) (F0 23) (F' 23) (F0 20)))))) (p1 : 0 ≤ F0 8 ∧ F0 8 ≤ F0 7 ∧ F0 7 ≤ 700 ∧ 0 ≤ F0 20 ∧ F0 20 ≤ 30 ∧ 0 ≤ F0 21 ∧ F0 21 ≤ 12 ∧ 0 ≤ F0 18 ∧ F0 18 ≤ 12 ∧ 0 ≤ F0 23 ∧ F0 23 ≤ 1000000 ∧ (F0 9 = 2 → 0 ≤ F0 11 ∧ F0 11 ≤ 9) ∧ 0 ≤ F0 9 ∧ F0 9 ≤ 4) (p2 : nm (A0 16) (A0 17) (F0 18)) (p3 : (12 - F0 21) + (30 - F0 20) < (gk : Int) + 1) (p4 : F0 6 = 0) : ∀ (n : Nat) {lv : am_l} {h : am_h} {F : rf_f} {A : rf_A} {v1 : Int32}, ((31 - v1.toInt).toNat) = n → am_get lv 0 = some (.inr (.inr (some 81))) → am_get lv 1 = some (.inl v1) → rf_I h0 h F A → fr1 [8, 10, 9, 14, 11, 12, 6, 5, 23, 20, 21] F0 F → fr2 [22] A0 A → (F0 8 ≤ F 8 ∧ F 8 ≤ F0 7 ∧ F 20 = F0 20 + v1.toInt ∧ 0 ≤ v1.toInt ∧ F 20 ≤ 30 ∧ F 21 = F0 21 ∧ F0 23 ≤ F 23 ∧ F 23 ≤ 1000000 ∧ (F 9 = 2 → 0 ≤ F 11 ∧ F 11 ≤ 9) ∧ 0 ≤ F 9 ∧ F 9 ≤ 4 ∧ F 6 = 0) → (F 23 ≤ 124 → fu (A 22) (A0 22) (F0 23) (F 23) v1.toInt) → am_Ok am_G (2 * gk + 5) 181 (6, lv, [], h, 0, 0) (rf_V h0 (fun F' A' => fr1 [8, 10, 9, 14, 11, 12, 6, 5, 23, 20, 21] F0 F' ∧ fr2 [22] A0 A' ∧ ((F0 8 ≤ F' 8 ∧ F' 8 ≤ F0 7 ∧ F0 20 ≤ F' 20 ∧ F' 20 ≤ 30 ∧ F' 21 = F0 21 ∧ F0 23 ≤ F' 23 ∧ F' 23 ≤ 1000000 ∧ (F' 9 = 2 → 0 ≤ F' 11 ∧ F' 11 ≤ 9) ∧ 0 ≤ F' 9 ∧ F' 9 ≤ 4) ∧ (F' 6 = 0 → F' 20 = F0 20 ∧ F0 6 = 0 ∧ (F' 9 = 0 ∨ F0 8 < F' 8)) ∧ (F' 6 = 0 → F' 23 ≤ 124 → rd1 (A' 22) (A0 22) (F0 23) (F' 23) (F0 20))))) := by
  intro n
  induction n using Nat.strongRecOn with
  | ind n ih =>
    intro lv h F A v1 hn g0 g1 hI hF hA i1 i2
    refine k_aload 7 rfl g0 rfl ?_
    refine k_aload 8 rfl g0 rfl ?_
    refine r_gI hI 11 rfl rfl rfl (fun x1 (e2 : x1.toInt = F 9) => ?_)
    refine k_push 12 rfl rfl ?_
    have hc3 : (1 : Int32).toInt = 1 := by decide
    by_cases b4 : x1 = (1 : Int32)
    · refine k_c2 15 rfl rfl (if_pos b4) ?_
      have b4 := iv_eq.mp b4
      refine k_push 16 rfl rfl ?_
      refine k_goto 20 rfl rfl ?_
      refine k_push 21 rfl rfl ?_
      refine k_rq hI rfl (m_check  hI.1 (show (1 : Int32).toInt ≠ 0 by omega)) (Nat.ble_eq_true_of_le (by omega)) rfl rfl hI.rc ?_
      rintro x5 h6 F7 A8 I9 ⟨k11, k12, p10⟩
      replace p10 : (x5.toInt = 1 ∧ (F 6) = 0 ∧ (1 : Int32).toInt ≠ 0 ∧ F7 6 = 0) ∨ (x5.toInt = 0 ∧ F7 6 ≠ 0) := p10
      have k12 := fr2.nil k12
      subst k12
      have z13 := iv_01 (x := x5) (by omega)
      show am_Ok _ _ _ (24, _, [.inl x5], _, 0, 0) _
      by_cases b14 : x5 = 0
      · refine k_c1 58 rfl rfl (if_pos b14) ?_
        have b14 := iv_eq0.mp b14
        have e15 : F7 8 = F 8 := k11 8 (by decide)
        have e16 : F7 20 = F 20 := k11 20 (by decide)
        have e17 : F7 21 = F 21 := k11 21 (by decide)
        have e18 : F7 23 = F 23 := k11 23 (by decide)
        have e19 : F7 9 = F 9 := k11 9 (by decide)
        have e20 : F7 11 = F 11 := k11 11 (by decide)
        exact k_fin rfl rfl ⟨_, _, _, rfl, I9, (fr1.tr (by decide) hF k11), hA, ⟨(show (F0 8 ≤ F7 8 ∧ F7 8 ≤ F0 7 ∧ F0 20 ≤ F7 20 ∧ F7 20 ≤ 30 ∧ F7 21 = F0 21 ∧ F0 23 ≤ F7 23 ∧ F7 23 ≤ 1000000 ∧ (F7 9 = 2 → 0 ≤ F7 11 ∧ F7 11 ≤ 9) ∧ 0 ≤ F7 9 ∧ F7 9 ≤ 4) by omega), (show (F7 6 = 0 → F7 20 = F0 20 ∧ F0 6 = 0 ∧ (F7 9 = 0 ∨ F0 8 < F7 8)) by omega), fun z => absurd (show F7 6 = 0 from z) (by omega)⟩⟩
      · refine k_c1 27 rfl rfl (if_neg b14) ?_
        have b14 := mt iv_eq0.mpr b14
        refine k_aload 28 rfl g0 rfl ?_
        refine k_aload 29 rfl g0 rfl ?_
        refine r_gI I9 32 rfl rfl rfl (fun x21 (e22 : x21.toInt = F7 14) => ?_)
        have e23 : F7 14 = F 14 := k11 14 (by decide)
        refine k_push 34 rfl rfl ?_
        have hc24 : (8 : Int32).toInt = 8 := by decide
        by_cases b25 : (8 : Int32) < x21
        · refine k_c2 50 rfl rfl (if_pos b25) ?_
          have b25 := iv_lt.mp b25
          refine k_push 51 rfl rfl ?_
          have hc26 : (0 : Int32).toInt = 0 := by decide
          refine k_push 52 rfl rfl ?_
          have hc27 : (2 : Int32).toInt = 2 := by decide
          refine k_rq I9 rfl (m_check  I9.1 (show (2 : Int32).toInt ≠ 0 by omega)) (Nat.ble_eq_true_of_le (by omega)) rfl rfl I9.rc ?_
          rintro x28 h29 F30 A31 I32 ⟨k34, k35, p33⟩
          replace p33 : (x28.toInt = 1 ∧ (F7 6) = 0 ∧ (0 : Int32).toInt ≠ 0 ∧ F30 6 = 0) ∨ (x28.toInt = 0 ∧ F30 6 ≠ 0) := p33
          have k35 := fr2.nil k35
          subst k35
          have z36 := iv_01 (x := x28) (by omega)
          show am_Ok _ _ _ (55, _, [.inl x28], _, 0, 0) _
          by_cases b37 : x28 = 0
          · refine k_c1 58 rfl rfl (if_pos b37) ?_
            have b37 := iv_eq0.mp b37
            have e38 : F30 8 = F7 8 := k34 8 (by decide)
            have e39 : F7 8 = F 8 := k11 8 (by decide)
            have e40 : F30 20 = F7 20 := k34 20 (by decide)
            have e41 : F7 20 = F 20 := k11 20 (by decide)
            have e42 : F30 21 = F7 21 := k34 21 (by decide)
            have e43 : F7 21 = F 21 := k11 21 (by decide)
            have e44 : F30 23 = F7 23 := k34 23 (by decide)
            have e45 : F7 23 = F 23 := k11 23 (by decide)
            have e46 : F30 9 = F7 9 := k34 9 (by decide)
            have e47 : F7 9 = F 9 := k11 9 (by decide)
            have e48 : F30 11 = F7 11 := k34 11 (by decide)
            have e49 : F7 11 = F 11 := k11 11 (by decide)
            exact k_fin rfl rfl ⟨_, _, _, rfl, I32, (fr1.tr (by decide) (fr1.tr (by decide) hF k11) k34), hA, ⟨(show (F0 8 ≤ F30 8 ∧ F30 8 ≤ F0 7 ∧ F0 20 ≤ F30 20 ∧ F30 20 ≤ 30 ∧ F30 21 = F0 21 ∧ F0 23 ≤ F30 23 ∧ F30 23 ≤ 1000000 ∧ (F30 9 = 2 → 0 ≤ F30 11 ∧ F30 11 ≤ 9) ∧ 0 ≤ F30 9 ∧ F30 9 ≤ 4) by omega), (show (F30 6 = 0 → F30 20 = F0 20 ∧ F0 6 = 0 ∧ (F30 9 = 0 ∨ F0 8 < F30 8)) by omega), fun z => absurd (show F30 6 = 0 from z) (by omega)⟩⟩
          · refine k_c1 59 rfl rfl (if_neg b37) ?_
            have b37 := mt iv_eq0.mpr b37
            exfalso
            omega
        · refine k_c2 37 rfl rfl (if_neg b25) ?_
          have b25 := mt iv_lt.mpr b25
          refine k_aload 38 rfl g0 rfl ?_
          refine r_gI I9 41 rfl rfl rfl (fun x50 (e51 : x50.toInt = F7 20) => ?_)
          have e52 : F7 20 = F 20 := k11 20 (by decide)
          refine k_push 43 rfl rfl ?_
          have hc53 : (30 : Int32).toInt = 30 := by decide
          by_cases b54 : (30 : Int32) ≤ x50
          · refine k_c2 50 rfl rfl (if_pos b54) ?_
            have b54 := iv_le.mp b54
            refine k_push 51 rfl rfl ?_
            have hc55 : (0 : Int32).toInt = 0 := by decide
            refine k_push 52 rfl rfl ?_
            have hc56 : (2 : Int32).toInt = 2 := by decide
            refine k_rq I9 rfl (m_check  I9.1 (show (2 : Int32).toInt ≠ 0 by omega)) (Nat.ble_eq_true_of_le (by omega)) rfl rfl I9.rc ?_
            rintro x57 h58 F59 A60 I61 ⟨k63, k64, p62⟩
            replace p62 : (x57.toInt = 1 ∧ (F7 6) = 0 ∧ (0 : Int32).toInt ≠ 0 ∧ F59 6 = 0) ∨ (x57.toInt = 0 ∧ F59 6 ≠ 0) := p62
            have k64 := fr2.nil k64
            subst k64
            have z65 := iv_01 (x := x57) (by omega)
            show am_Ok _ _ _ (55, _, [.inl x57], _, 0, 0) _
            by_cases b66 : x57 = 0
            · refine k_c1 58 rfl rfl (if_pos b66) ?_
              have b66 := iv_eq0.mp b66
              have e67 : F59 8 = F7 8 := k63 8 (by decide)
              have e68 : F7 8 = F 8 := k11 8 (by decide)
              have e69 : F59 20 = F7 20 := k63 20 (by decide)
              have e70 : F59 21 = F7 21 := k63 21 (by decide)
              have e71 : F7 21 = F 21 := k11 21 (by decide)
              have e72 : F59 23 = F7 23 := k63 23 (by decide)
              have e73 : F7 23 = F 23 := k11 23 (by decide)
              have e74 : F59 9 = F7 9 := k63 9 (by decide)
              have e75 : F7 9 = F 9 := k11 9 (by decide)
              have e76 : F59 11 = F7 11 := k63 11 (by decide)
              have e77 : F7 11 = F 11 := k11 11 (by decide)
              exact k_fin rfl rfl ⟨_, _, _, rfl, I61, (fr1.tr (by decide) (fr1.tr (by decide) hF k11) k63), hA, ⟨(show (F0 8 ≤ F59 8 ∧ F59 8 ≤ F0 7 ∧ F0 20 ≤ F59 20 ∧ F59 20 ≤ 30 ∧ F59 21 = F0 21 ∧ F0 23 ≤ F59 23 ∧ F59 23 ≤ 1000000 ∧ (F59 9 = 2 → 0 ≤ F59 11 ∧ F59 11 ≤ 9) ∧ 0 ≤ F59 9 ∧ F59 9 ≤ 4) by omega), (show (F59 6 = 0 → F59 20 = F0 20 ∧ F0 6 = 0 ∧ (F59 9 = 0 ∨ F0 8 < F59 8)) by omega), fun z => absurd (show F59 6 = 0 from z) (by omega)⟩⟩
            · refine k_c1 59 rfl rfl (if_neg b66) ?_
              have b66 := mt iv_eq0.mpr b66
              exfalso
              omega
          · refine k_c2 46 rfl rfl (if_neg b54) ?_
            have b54 := mt iv_le.mpr b54
            refine k_push 47 rfl rfl ?_
            refine k_goto 51 rfl rfl ?_
            refine k_push 52 rfl rfl ?_
            have hc78 : (2 : Int32).toInt = 2 := by decide
            refine k_rq I9 rfl (m_check  I9.1 (show (2 : Int32).toInt ≠ 0 by omega)) (Nat.ble_eq_true_of_le (by omega)) rfl rfl I9.rc ?_
            rintro x79 h80 F81 A82 I83 ⟨k85, k86, p84⟩
            replace p84 : (x79.toInt = 1 ∧ (F7 6) = 0 ∧ (1 : Int32).toInt ≠ 0 ∧ F81 6 = 0) ∨ (x79.toInt = 0 ∧ F81 6 ≠ 0) := p84
            have k86 := fr2.nil k86
            subst k86
            have z87 := iv_01 (x := x79) (by omega)
            show am_Ok _ _ _ (55, _, [.inl x79], _, 0, 0) _
            by_cases b88 : x79 = 0
            · refine k_c1 58 rfl rfl (if_pos b88) ?_
              have b88 := iv_eq0.mp b88
              have e89 : F81 8 = F7 8 := k85 8 (by decide)
              have e90 : F7 8 = F 8 := k11 8 (by decide)
              have e91 : F81 20 = F7 20 := k85 20 (by decide)
              have e92 : F81 21 = F7 21 := k85 21 (by decide)
              have e93 : F7 21 = F 21 := k11 21 (by decide)
              have e94 : F81 23 = F7 23 := k85 23 (by decide)
              have e95 : F7 23 = F 23 := k11 23 (by decide)
              have e96 : F81 9 = F7 9 := k85 9 (by decide)
              have e97 : F7 9 = F 9 := k11 9 (by decide)
              have e98 : F81 11 = F7 11 := k85 11 (by decide)
              have e99 : F7 11 = F 11 := k11 11 (by decide)
              exact k_fin rfl rfl ⟨_, _, _, rfl, I83, (fr1.tr (by decide) (fr1.tr (by decide) hF k11) k85), hA, ⟨(show (F0 8 ≤ F81 8 ∧ F81 8 ≤ F0 7 ∧ F0 20 ≤ F81 20 ∧ F81 20 ≤ 30 ∧ F81 21 = F0 21 ∧ F0 23 ≤ F81 23 ∧ F81 23 ≤ 1000000 ∧ (F81 9 = 2 → 0 ≤ F81 11 ∧ F81 11 ≤ 9) ∧ 0 ≤ F81 9 ∧ F81 9 ≤ 4) by omega), (show (F81 6 = 0 → F81 20 = F0 20 ∧ F0 6 = 0 ∧ (F81 9 = 0 ∨ F0 8 < F81 8)) by omega), fun z => absurd (show F81 6 = 0 from z) (by omega)⟩⟩
            · refine k_c1 59 rfl rfl (if_neg b88) ?_
              have b88 := mt iv_eq0.mpr b88
              refine k_aload 60 rfl g0 rfl ?_
              refine r_gA I83 63 rfl rfl rfl ?_
              refine k_aload 64 rfl g0 rfl ?_
              refine r_gI I83 67 rfl rfl rfl (fun x100 (e101 : x100.toInt = F81 20) => ?_)
              have e102 : F81 20 = F7 20 := k85 20 (by decide)
              refine k_aload 68 rfl g0 rfl ?_
              refine r_gJ I83 71 rfl rfl rfl (fun y103 => ?_)
              refine r_lst 19 I83 72 rfl rfl (by omega) (show x100.toInt < 31 by omega) rfl (fun h104 I105 => ?_)
              refine k_aload 73 rfl g0 rfl ?_
              refine k_dup 74 rfl rfl rfl ?_
              refine r_gI I105 77 rfl rfl rfl (fun x106 (e107 : x106.toInt = F81 20) => ?_)
              refine k_push 78 rfl rfl ?_
              obtain ⟨x108, q109⟩ : ∃ q : Int32, q = (x106 + (1 : Int32)) := ⟨_, rfl⟩
              have e110 : x108.toInt = x106.toInt + 1 := by rw [q109, iv_add (by omega) (by omega)]; omega
              refine k_bin x108 79 rfl q109.symm rfl ?_
              refine r_pI I105 82 rfl rfl rfl (fun h111 I112 => ?_)
              obtain ⟨x113, q114⟩ : ∃ q : Int32, q = v1 + (1 : Int32) := ⟨_, rfl⟩
              have e115 : x113.toInt = v1.toInt + 1 := by rw [q114, iv_add (by omega) (by omega)]; omega
              refine k_iinc x113 85 rfl g1 q114.symm rfl ?_
              refine k_aload 86 rfl (gs_ne rfl rfl g0) rfl ?_
              refine k_push 87 rfl rfl ?_
              have e116 : F81 23 = F7 23 := k85 23 (by decide)
              have e117 : F7 23 = F 23 := k11 23 (by decide)
              refine k_rv I112 rfl (m_emits  I112.1 (show 0 ≤ (F81 23) ∧ (F81 23) ≤ 1000000 by omega)) (Nat.ble_eq_true_of_le (by omega)) rfl rfl I112.rc ?_
              rintro h119 F120 A121 I122 ⟨k124, k125, p123⟩
              replace p123 : ((F81 23) ≤ F120 23 ∧ F120 23 ≤ 1000000) ∧ (F120 23 ≤ 124 → F120 23 = (F81 23) + 1) ∧ (F120 23 ≤ 124 → A121 22 ((F81 23)) = (1 : Int32).toInt ∧ ∀ q : Int, q ≠ (F81 23) → A121 22 q = (A 22) q) := p123
              obtain ⟨p123a, p123b, p123c⟩ := p123
              show am_Ok _ _ _ (90, _, [], _, 0, 0) _
              have hfu : F120 23 ≤ 124 → fu (A121 22) (A0 22) (F0 23) (F120 23) (v1.toInt + 1) := fun z9 => fu_s (h := fu_cg (i2 (by omega)) (by omega) rfl) (p123b z9) ((p123c z9).1.trans (by decide)) (p123c z9).2 (by omega) rfl
              refine k_aload 91 rfl (gs_ne rfl rfl g0) rfl ?_
              have e126 : F120 8 = F81 8 := k124 8 (by decide)
              have e127 : F81 8 = F7 8 := k85 8 (by decide)
              have e128 : F7 8 = F 8 := k11 8 (by decide)
              have e129 : F120 7 = F81 7 := k124 7 (by decide)
              have e130 : F81 7 = F7 7 := k85 7 (by decide)
              have e131 : F7 7 = F 7 := k11 7 (by decide)
              have e132 : F 7 = F0 7 := hF 7 (by decide)
              refine k_rv I122 rfl (m_goes  I122.1 (show 0 ≤ (F120 8) ∧ (F120 8) ≤ (F120 7) ∧ (F120 7) ≤ 700 by omega)) (Nat.ble_eq_true_of_le (by omega)) rfl rfl I122.rc ?_
              rintro h134 F135 A136 I137 ⟨k139, k140, p138⟩
              replace p138 : ((F120 8) ≤ F135 8 ∧ F135 8 ≤ (F120 7)) ∧ (F135 9 = 0 ∨ (F120 8) < F135 8) ∧ (F135 9 = 2 → 0 ≤ F135 11 ∧ F135 11 ≤ 9) ∧ (0 ≤ F135 9 ∧ F135 9 ≤ 4) := p138
              obtain ⟨p138a, p138b, p138c, p138d⟩ := p138
              have k140 := fr2.nil k140
              subst k140
              show am_Ok _ _ _ (94, _, [], _, 0, 0) _
              refine k_aload 95 rfl (gs_ne rfl rfl g0) rfl ?_
              refine k_in (d := 0) rfl (Nat.ble_eq_true_of_le (by omega)) rfl rfl I137.rc ?_
              refine k_aload 1 rfl rfl rfl ?_
              refine r_gI I137 4 rfl rfl rfl (fun x141 (e142 : x141.toInt = F135 6) => ?_)
              have e143 : F135 6 = F120 6 := k139 6 (by decide)
              have e144 : F120 6 = F81 6 := k124 6 (by decide)
              by_cases b145 : x141 = 0
              · refine k_c1 7 rfl rfl (if_pos b145) ?_
                have b145 := iv_eq0.mp b145
                refine k_push 8 rfl rfl ?_
                refine k_goto 12 rfl rfl ?_
                refine k_fin rfl (fin_Z (Or.inr rfl)) ⟨_, _, rfl, rf_len I137 I137, ?_⟩
                show am_Ok _ _ _ (98, _, [.inl (1 : Int32)], _, 0, 0) _
                refine k_c1 101 rfl rfl (if_neg (by decide)) ?_
                refine k_aload 102 rfl (gs_ne rfl rfl g0) rfl ?_
                refine r_gI I137 105 rfl rfl rfl (fun x146 (e147 : x146.toInt = F135 9) => ?_)
                refine k_push 106 rfl rfl ?_
                by_cases b148 : x146 = (1 : Int32)
                · refine k_c2 6 rfl rfl (if_pos b148) ?_
                  have b148 := iv_eq.mp b148
                  have e149 : F135 20 = F120 20 := k139 20 (by decide)
                  have e150 : F120 20 = x108.toInt := k124 20 (by decide)
                  have e151 : F135 21 = F120 21 := k139 21 (by decide)
                  have e152 : F120 21 = F81 21 := k124 21 (by decide)
                  have e153 : F81 21 = F7 21 := k85 21 (by decide)
                  have e154 : F7 21 = F 21 := k11 21 (by decide)
                  have e155 : F135 23 = F120 23 := k139 23 (by decide)
                  exact ih _ (show ((31 - x113.toInt).toNat) < n by omega)  rfl (gs_ne rfl rfl g0) gs_eq I137 (fr1.tr (by decide) (fr1.tr (by decide) (fr1.up (by decide) (fr1.tr (by decide) (fr1.tr (by decide) hF k11) k85)) k124) k139) (fr2.tr (by decide) hA k125) (show F0 8 ≤ (F135 8) ∧ (F135 8) ≤ F0 7 ∧ (F135 20) = F0 20 + x113.toInt ∧ 0 ≤ x113.toInt ∧ (F135 20) ≤ 30 ∧ (F135 21) = F0 21 ∧ F0 23 ≤ (F135 23) ∧ (F135 23) ≤ 1000000 ∧ ((F135 9) = 2 → 0 ≤ (F135 11) ∧ (F135 11) ≤ 9) ∧ 0 ≤ (F135 9) ∧ (F135 9) ≤ 4 ∧ (F135 6) = 0 by omega) (fun z => by have z9 : F135 23 ≤ 124 := z; show fu (A121 22) (A0 22) (F0 23) (F135 23) x113.toInt; exact fu_cg (hfu (by omega)) (by omega) (by omega))
                · refine k_c2 109 rfl rfl (if_neg b148) ?_
                  have b148 := mt iv_eq.mpr b148
                  refine k_aload 110 rfl (gs_ne rfl rfl g0) rfl ?_
                  refine k_push 112 rfl rfl ?_
                  have hc156 : (46 : Int32).toInt = 46 := by decide
                  have e157 : F135 7 = F120 7 := k139 7 (by decide)
                  refine k_rv I137 rfl (m_must  I137.1 (show 0 ≤ (F135 8) ∧ (F135 8) ≤ (F135 7) ∧ (F135 7) ≤ 700 ∧ ((F135 9) = 2 → 0 ≤ (F135 11) ∧ (F135 11) ≤ 9) ∧ 0 ≤ (F135 9) ∧ (F135 9) ≤ 4 by omega)) (Nat.ble_eq_true_of_le (by omega)) rfl rfl I137.rc ?_
                  rintro h159 F160 A161 I162 ⟨k164, k165, p163⟩
                  replace p163 : ((F135 8) ≤ F160 8 ∧ F160 8 ≤ (F135 7)) ∧ (F160 6 = 0 → (F135 6) = 0 ∧ (F160 9 = 0 ∨ (F135 8) < F160 8)) ∧ (F160 9 = 2 → 0 ≤ F160 11 ∧ F160 11 ≤ 9) ∧ (0 ≤ F160 9 ∧ F160 9 ≤ 4) := p163
                  obtain ⟨p163a, p163b, p163c, p163d⟩ := p163
                  have k165 := fr2.nil k165
                  subst k165
                  show am_Ok _ _ _ (115, _, [], _, 0, 0) _
                  refine k_aload 116 rfl (gs_ne rfl rfl g0) rfl ?_
                  have e166 : F160 7 = F135 7 := k164 7 (by decide)
                  have e167 : F160 20 = F135 20 := k164 20 (by decide)
                  have e168 : F135 20 = F120 20 := k139 20 (by decide)
                  have e169 : F120 20 = x108.toInt := k124 20 (by decide)
                  have e170 : F160 21 = F135 21 := k164 21 (by decide)
                  have e171 : F135 21 = F120 21 := k139 21 (by decide)
                  have e172 : F120 21 = F81 21 := k124 21 (by decide)
                  have e173 : F81 21 = F7 21 := k85 21 (by decide)
                  have e174 : F7 21 = F 21 := k11 21 (by decide)
                  have e175 : F160 18 = F135 18 := k164 18 (by decide)
                  have e176 : F135 18 = F120 18 := k139 18 (by decide)
                  have e177 : F120 18 = F81 18 := k124 18 (by decide)
                  have e178 : F81 18 = F7 18 := k85 18 (by decide)
                  have e179 : F7 18 = F 18 := k11 18 (by decide)
                  have e180 : F 18 = F0 18 := hF 18 (by decide)
                  have e181 : F160 23 = F135 23 := k164 23 (by decide)
                  have e182 : F135 23 = F120 23 := k139 23 (by decide)
                  refine k_rv I162 rfl (hrec  I162.1 (show 0 ≤ (F160 8) ∧ (F160 8) ≤ (F160 7) ∧ (F160 7) ≤ 700 ∧ 0 ≤ (F160 20) ∧ (F160 20) ≤ 30 ∧ 0 ≤ (F160 21) ∧ (F160 21) ≤ 12 ∧ 0 ≤ (F160 18) ∧ (F160 18) ≤ 12 ∧ 0 ≤ (F160 23) ∧ (F160 23) ≤ 1000000 ∧ ((F160 9) = 2 → 0 ≤ (F160 11) ∧ (F160 11) ≤ 9) ∧ 0 ≤ (F160 9) ∧ (F160 9) ≤ 4 by omega) (show nm ((A121 16)) ((A121 17)) ((F160 18)) by rw [((k125 16 (by decide)).trans (hA 16 (by decide))), ((k125 17 (by decide)).trans (hA 17 (by decide))), ((k164 18 (by decide)).trans ((k139 18 (by decide)).trans ((k124 18 (by decide)).trans ((k85 18 (by decide)).trans ((k11 18 (by decide)).trans (hF 18 (by decide)))))))]; exact p2) (show (12 - (F160 21)) + (30 - (F160 20)) < (gk : Int) by omega)) (Nat.ble_eq_true_of_le (by omega)) rfl rfl I162.rc ?_
                  rintro h184 F185 A186 I187 ⟨k189, k190, p188⟩
                  replace p188 : ((F160 8) ≤ F185 8 ∧ F185 8 ≤ (F160 7) ∧ (F160 20) ≤ F185 20 ∧ F185 20 ≤ 30 ∧ F185 21 = (F160 21) ∧ (F160 23) ≤ F185 23 ∧ F185 23 ≤ 1000000 ∧ (F185 9 = 2 → 0 ≤ F185 11 ∧ F185 11 ≤ 9) ∧ 0 ≤ F185 9 ∧ F185 9 ≤ 4) ∧ (F185 6 = 0 → F185 20 = (F160 20) ∧ (F160 6) = 0 ∧ (F185 9 = 0 ∨ (F160 8) < F185 8)) ∧ (F185 6 = 0 → F185 23 ≤ 124 → rd1 (A186 22) ((A121 22)) ((F160 23)) (F185 23) ((F160 20))) := p188
                  obtain ⟨p188a, p188b, p188c⟩ := p188
                  show am_Ok _ _ _ (119, _, [], _, 0, 0) _
                  refine k_aload 120 rfl (gs_ne rfl rfl g0) rfl ?_
                  refine k_dup 121 rfl rfl rfl ?_
                  refine r_gI I187 124 rfl rfl rfl (fun x191 (e192 : x191.toInt = F185 20) => ?_)
                  refine k_iload 125 rfl gs_eq rfl ?_
                  obtain ⟨x193, q194⟩ : ∃ q : Int32, q = (x191 - x113) := ⟨_, rfl⟩
                  have e195 : x193.toInt = x191.toInt - x113.toInt := by rw [q194, iv_sub (by omega) (by omega)]
                  refine k_bin x193 126 rfl q194.symm rfl ?_
                  refine r_pI I187 129 rfl rfl rfl (fun h196 I197 => ?_)
                  exact k_fin rfl rfl ⟨_, _, _, rfl, I197, (fr1.up (by decide) (fr1.tr (by decide) (fr1.tr (by decide) (fr1.tr (by decide) (fr1.tr (by decide) (fr1.up (by decide) (fr1.tr (by decide) (fr1.tr (by decide) hF k11) k85)) k124) k139) k164) k189)), (fr2.tr (by decide) (fr2.tr (by decide) hA k125) k190), ⟨(show (F0 8 ≤ F185 8 ∧ F185 8 ≤ F0 7 ∧ F0 20 ≤ x193.toInt ∧ x193.toInt ≤ 30 ∧ F185 21 = F0 21 ∧ F0 23 ≤ F185 23 ∧ F185 23 ≤ 1000000 ∧ (F185 9 = 2 → 0 ≤ F185 11 ∧ F185 11 ≤ 9) ∧ 0 ≤ F185 9 ∧ F185 9 ≤ 4) by omega), (show (F185 6 = 0 → x193.toInt = F0 20 ∧ F0 6 = 0 ∧ (F185 9 = 0 ∨ F0 8 < F185 8)) by omega), fun z1 z2 => by have z8 : F185 6 = 0 := z1; have z9 : F185 23 ≤ 124 := z2; have h9 := p188c (by omega) (by omega); show rd1 (A186 22) (A0 22) (F0 23) (F185 23) (F0 20); exact fu_end (hfu (by omega)) (by omega) (rd_cg h9 (by omega) (by omega) rfl) (by omega)⟩⟩
              · refine k_c1 11 rfl rfl (if_neg b145) ?_
                have b145 := mt iv_eq0.mpr b145
                refine k_push 12 rfl rfl ?_
                have hc198 : (0 : Int32).toInt = 0 := by decide
                refine k_fin rfl (fin_Z (Or.inl rfl)) ⟨_, _, rfl, rf_len I137 I137, ?_⟩
                show am_Ok _ _ _ (98, _, [.inl (0 : Int32)], _, 0, 0) _
                refine k_c1 109 rfl rfl (if_pos (by decide)) ?_
                refine k_aload 110 rfl (gs_ne rfl rfl g0) rfl ?_
                refine k_push 112 rfl rfl ?_
                have hc199 : (46 : Int32).toInt = 46 := by decide
                have e200 : F135 7 = F120 7 := k139 7 (by decide)
                refine k_rv I137 rfl (m_must  I137.1 (show 0 ≤ (F135 8) ∧ (F135 8) ≤ (F135 7) ∧ (F135 7) ≤ 700 ∧ ((F135 9) = 2 → 0 ≤ (F135 11) ∧ (F135 11) ≤ 9) ∧ 0 ≤ (F135 9) ∧ (F135 9) ≤ 4 by omega)) (Nat.ble_eq_true_of_le (by omega)) rfl rfl I137.rc ?_
                rintro h202 F203 A204 I205 ⟨k207, k208, p206⟩
                replace p206 : ((F135 8) ≤ F203 8 ∧ F203 8 ≤ (F135 7)) ∧ (F203 6 = 0 → (F135 6) = 0 ∧ (F203 9 = 0 ∨ (F135 8) < F203 8)) ∧ (F203 9 = 2 → 0 ≤ F203 11 ∧ F203 11 ≤ 9) ∧ (0 ≤ F203 9 ∧ F203 9 ≤ 4) := p206
                obtain ⟨p206a, p206b, p206c, p206d⟩ := p206
                have k208 := fr2.nil k208
                subst k208
                show am_Ok _ _ _ (115, _, [], _, 0, 0) _
                refine k_aload 116 rfl (gs_ne rfl rfl g0) rfl ?_
                have e209 : F203 7 = F135 7 := k207 7 (by decide)
                have e210 : F203 20 = F135 20 := k207 20 (by decide)
                have e211 : F135 20 = F120 20 := k139 20 (by decide)
                have e212 : F120 20 = x108.toInt := k124 20 (by decide)
                have e213 : F203 21 = F135 21 := k207 21 (by decide)
                have e214 : F135 21 = F120 21 := k139 21 (by decide)
                have e215 : F120 21 = F81 21 := k124 21 (by decide)
                have e216 : F81 21 = F7 21 := k85 21 (by decide)
                have e217 : F7 21 = F 21 := k11 21 (by decide)
                have e218 : F203 18 = F135 18 := k207 18 (by decide)
                have e219 : F135 18 = F120 18 := k139 18 (by decide)
                have e220 : F120 18 = F81 18 := k124 18 (by decide)
                have e221 : F81 18 = F7 18 := k85 18 (by decide)
                have e222 : F7 18 = F 18 := k11 18 (by decide)
                have e223 : F 18 = F0 18 := hF 18 (by decide)
                have e224 : F203 23 = F135 23 := k207 23 (by decide)
                have e225 : F135 23 = F120 23 := k139 23 (by decide)
                refine k_rv I205 rfl (hrec  I205.1 (show 0 ≤ (F203 8) ∧ (F203 8) ≤ (F203 7) ∧ (F203 7) ≤ 700 ∧ 0 ≤ (F203 20) ∧ (F203 20) ≤ 30 ∧ 0 ≤ (F203 21) ∧ (F203 21) ≤ 12 ∧ 0 ≤ (F203 18) ∧ (F203 18) ≤ 12 ∧ 0 ≤ (F203 23) ∧ (F203 23) ≤ 1000000 ∧ ((F203 9) = 2 → 0 ≤ (F203 11) ∧ (F203 11) ≤ 9) ∧ 0 ≤ (F203 9) ∧ (F203 9) ≤ 4 by omega) (show nm ((A121 16)) ((A121 17)) ((F203 18)) by rw [((k125 16 (by decide)).trans (hA 16 (by decide))), ((k125 17 (by decide)).trans (hA 17 (by decide))), ((k207 18 (by decide)).trans ((k139 18 (by decide)).trans ((k124 18 (by decide)).trans ((k85 18 (by decide)).trans ((k11 18 (by decide)).trans (hF 18 (by decide)))))))]; exact p2) (show (12 - (F203 21)) + (30 - (F203 20)) < (gk : Int) by omega)) (Nat.ble_eq_true_of_le (by omega)) rfl rfl I205.rc ?_
                rintro h227 F228 A229 I230 ⟨k232, k233, p231⟩
                replace p231 : ((F203 8) ≤ F228 8 ∧ F228 8 ≤ (F203 7) ∧ (F203 20) ≤ F228 20 ∧ F228 20 ≤ 30 ∧ F228 21 = (F203 21) ∧ (F203 23) ≤ F228 23 ∧ F228 23 ≤ 1000000 ∧ (F228 9 = 2 → 0 ≤ F228 11 ∧ F228 11 ≤ 9) ∧ 0 ≤ F228 9 ∧ F228 9 ≤ 4) ∧ (F228 6 = 0 → F228 20 = (F203 20) ∧ (F203 6) = 0 ∧ (F228 9 = 0 ∨ (F203 8) < F228 8)) ∧ (F228 6 = 0 → F228 23 ≤ 124 → rd1 (A229 22) ((A121 22)) ((F203 23)) (F228 23) ((F203 20))) := p231
                obtain ⟨p231a, p231b, p231c⟩ := p231
                show am_Ok _ _ _ (119, _, [], _, 0, 0) _
                refine k_aload 120 rfl (gs_ne rfl rfl g0) rfl ?_
                refine k_dup 121 rfl rfl rfl ?_
                refine r_gI I230 124 rfl rfl rfl (fun x234 (e235 : x234.toInt = F228 20) => ?_)
                refine k_iload 125 rfl gs_eq rfl ?_
                obtain ⟨x236, q237⟩ : ∃ q : Int32, q = (x234 - x113) := ⟨_, rfl⟩
                have e238 : x236.toInt = x234.toInt - x113.toInt := by rw [q237, iv_sub (by omega) (by omega)]
                refine k_bin x236 126 rfl q237.symm rfl ?_
                refine r_pI I230 129 rfl rfl rfl (fun h239 I240 => ?_)
                exact k_fin rfl rfl ⟨_, _, _, rfl, I240, (fr1.up (by decide) (fr1.tr (by decide) (fr1.tr (by decide) (fr1.tr (by decide) (fr1.tr (by decide) (fr1.up (by decide) (fr1.tr (by decide) (fr1.tr (by decide) hF k11) k85)) k124) k139) k207) k232)), (fr2.tr (by decide) (fr2.tr (by decide) hA k125) k233), ⟨(show (F0 8 ≤ F228 8 ∧ F228 8 ≤ F0 7 ∧ F0 20 ≤ x236.toInt ∧ x236.toInt ≤ 30 ∧ F228 21 = F0 21 ∧ F0 23 ≤ F228 23 ∧ F228 23 ≤ 1000000 ∧ (F228 9 = 2 → 0 ≤ F228 11 ∧ F228 11 ≤ 9) ∧ 0 ≤ F228 9 ∧ F228 9 ≤ 4) by omega), (show (F228 6 = 0 → x236.toInt = F0 20 ∧ F0 6 = 0 ∧ (F228 9 = 0 ∨ F0 8 < F228 8)) by omega), fun z1 z2 => by have z8 : F228 6 = 0 := z1; have z9 : F228 23 ≤ 124 := z2; have h9 := p231c (by omega) (by omega); show rd1 (A229 22) (A0 22) (F0 23) (F228 23) (F0 20); exact fu_end (hfu (by omega)) (by omega) (rd_cg h9 (by omega) (by omega) rfl) (by omega)⟩⟩
    · refine k_c2 19 rfl rfl (if_neg b4) ?_
      have b4 := mt iv_eq.mpr b4
      refine k_push 20 rfl rfl ?_
      have hc241 : (0 : Int32).toInt = 0 := by decide
      refine k_push 21 rfl rfl ?_
      refine k_rq hI rfl (m_check  hI.1 (show (1 : Int32).toInt ≠ 0 by omega)) (Nat.ble_eq_true_of_le (by omega)) rfl rfl hI.rc ?_
      rintro x242 h243 F244 A245 I246 ⟨k248, k249, p247⟩
      replace p247 : (x242.toInt = 1 ∧ (F 6) = 0 ∧ (0 : Int32).toInt ≠ 0 ∧ F244 6 = 0) ∨ (x242.toInt = 0 ∧ F244 6 ≠ 0) := p247
      have k249 := fr2.nil k249
      subst k249
      have z250 := iv_01 (x := x242) (by omega)
      show am_Ok _ _ _ (24, _, [.inl x242], _, 0, 0) _
      by_cases b251 : x242 = 0
      · refine k_c1 58 rfl rfl (if_pos b251) ?_
        have b251 := iv_eq0.mp b251
        have e252 : F244 8 = F 8 := k248 8 (by decide)
        have e253 : F244 20 = F 20 := k248 20 (by decide)
        have e254 : F244 21 = F 21 := k248 21 (by decide)
        have e255 : F244 23 = F 23 := k248 23 (by decide)
        have e256 : F244 9 = F 9 := k248 9 (by decide)
        have e257 : F244 11 = F 11 := k248 11 (by decide)
        exact k_fin rfl rfl ⟨_, _, _, rfl, I246, (fr1.tr (by decide) hF k248), hA, ⟨(show (F0 8 ≤ F244 8 ∧ F244 8 ≤ F0 7 ∧ F0 20 ≤ F244 20 ∧ F244 20 ≤ 30 ∧ F244 21 = F0 21 ∧ F0 23 ≤ F244 23 ∧ F244 23 ≤ 1000000 ∧ (F244 9 = 2 → 0 ≤ F244 11 ∧ F244 11 ≤ 9) ∧ 0 ≤ F244 9 ∧ F244 9 ≤ 4) by omega), (show (F244 6 = 0 → F244 20 = F0 20 ∧ F0 6 = 0 ∧ (F244 9 = 0 ∨ F0 8 < F244 8)) by omega), fun z => absurd (show F244 6 = 0 from z) (by omega)⟩⟩
      · refine k_c1 27 rfl rfl (if_neg b251) ?_
        have b251 := mt iv_eq0.mpr b251
        exfalso
        omega
theorem m_readsFunction {h0 : am_h} {F0 : rf_f} {A0 : rf_A} {gk : Nat} (hR : rf_R h0 F0 A0) (hrec : ∀ {h0 : am_h} {F0 : rf_f} {A0 : rf_A}, rf_R h0 F0 A0 → (0 ≤ F0 8 ∧ F0 8 ≤ F0 7 ∧ F0 7 ≤ 700 ∧ 0 ≤ F0 20 ∧ F0 20 ≤ 30 ∧ 0 ≤ F0 21 ∧ F0 21 ≤ 12 ∧ 0 ≤ F0 18 ∧ F0 18 ≤ 12 ∧ 0 ≤ F0 23 ∧ F0 23 ≤ 1000000 ∧ (F0 9 = 2 → 0 ≤ F0 11 ∧ F0 11 ≤ 9) ∧ 0 ≤ F0 9 ∧ F0 9 ≤ 4) → (nm (A0 16) (A0 17) (F0 18)) → ((12 - F0 21) + (30 - F0 20) < (gk : Int)) → am_Mt (2 * gk + 5) 182 [.inr (.inr (some 81))] h0 (rf_V h0 (fun F' A' => fr1 [8, 10, 9, 14, 11, 12, 6, 5, 23, 20, 21] F0 F' ∧ fr2 [22] A0 A' ∧ ((F0 8 ≤ F' 8 ∧ F' 8 ≤ F0 7 ∧ F0 20 ≤ F' 20 ∧ F' 20 ≤ 30 ∧ F' 21 = F0 21 ∧ F0 23 ≤ F' 23 ∧ F' 23 ≤ 1000000 ∧ (F' 9 = 2 → 0 ≤ F' 11 ∧ F' 11 ≤ 9) ∧ 0 ≤ F' 9 ∧ F' 9 ≤ 4) ∧ (F' 6 = 0 → F' 20 = F0 20 ∧ F0 6 = 0 ∧ (F' 9 = 0 ∨ F0 8 < F' 8)) ∧ (F' 6 = 0 → F' 23 ≤ 124 → rd1 (A' 22) (A0 22) (F0 23) (F' 23) (F0 20)))))) (p1 : 0 ≤ F0 8 ∧ F0 8 ≤ F0 7 ∧ F0 7 ≤ 700 ∧ 0 ≤ F0 20 ∧ F0 20 ≤ 30 ∧ 0 ≤ F0 21 ∧ F0 21 ≤ 12 ∧ 0 ≤ F0 18 ∧ F0 18 ≤ 12 ∧ 0 ≤ F0 23 ∧ F0 23 ≤ 1000000 ∧ (F0 9 = 2 → 0 ≤ F0 11 ∧ F0 11 ≤ 9) ∧ 0 ≤ F0 9 ∧ F0 9 ≤ 4) (p2 : nm (A0 16) (A0 17) (F0 18)) (p3 : (12 - F0 21) + (30 - F0 20) < (gk : Int) + 1) (p4 : F0 6 = 0) : am_Mt ((2 * gk + 5) + 1) 181 [.inr (.inr (some 81))] h0 (rf_V h0 (fun F' A' => fr1 [8, 10, 9, 14, 11, 12, 6, 5, 23, 20, 21] F0 F' ∧ fr2 [22] A0 A' ∧ ((F0 8 ≤ F' 8 ∧ F' 8 ≤ F0 7 ∧ F0 20 ≤ F' 20 ∧ F' 20 ≤ 30 ∧ F' 21 = F0 21 ∧ F0 23 ≤ F' 23 ∧ F' 23 ≤ 1000000 ∧ (F' 9 = 2 → 0 ≤ F' 11 ∧ F' 11 ≤ 9) ∧ 0 ≤ F' 9 ∧ F' 9 ≤ 4) ∧ (F' 6 = 0 → F' 20 = F0 20 ∧ F0 6 = 0 ∧ (F' 9 = 0 ∨ F0 8 < F' 8)) ∧ (F' 6 = 0 → F' 23 ≤ 124 → rd1 (A' 22) (A0 22) (F0 23) (F' 23) (F0 20))))) := by
  refine am_Mt.of (D := (2 * gk + 5)) ?_
  have hI : rf_I h0 h0 F0 A0 := rf_I.start hR
  refine k_aload 1 rfl rfl rfl ?_
  refine k_rv hI rfl (m_goes  hI.1 (show 0 ≤ (F0 8) ∧ (F0 8) ≤ (F0 7) ∧ (F0 7) ≤ 700 by omega)) (Nat.ble_eq_true_of_le (by omega)) rfl rfl hI.rc ?_
  rintro h259 F260 A261 I262 ⟨k264, k265, p263⟩
  replace p263 : ((F0 8) ≤ F260 8 ∧ F260 8 ≤ (F0 7)) ∧ (F260 9 = 0 ∨ (F0 8) < F260 8) ∧ (F260 9 = 2 → 0 ≤ F260 11 ∧ F260 11 ≤ 9) ∧ (0 ≤ F260 9 ∧ F260 9 ≤ 4) := p263
  obtain ⟨p263a, p263b, p263c, p263d⟩ := p263
  have k265 := fr2.nil k265
  subst k265
  show am_Ok _ _ _ (4, _, [], _, 0, 0) _
  refine k_push 5 rfl rfl ?_
  have hc266 : (0 : Int32).toInt = 0 := by decide
  refine k_istore 6 rfl rfl ?_
  have e267 : F260 20 = F0 20 := k264 20 (by decide)
  have e268 : F260 21 = F0 21 := k264 21 (by decide)
  have e269 : F260 23 = F0 23 := k264 23 (by decide)
  have e270 : F260 6 = F0 6 := k264 6 (by decide)
  exact b_X10_readsFunction_6 (gk := gk)  hrec p1 p2 p3 p4 _  rfl (gs_ne rfl rfl rfl) gs_eq I262 (fr1.tr (by decide) fr1.rf k264) fr2.rf (show F0 8 ≤ (F260 8) ∧ (F260 8) ≤ F0 7 ∧ (F260 20) = F0 20 + (0 : Int32).toInt ∧ 0 ≤ (0 : Int32).toInt ∧ (F260 20) ≤ 30 ∧ (F260 21) = F0 21 ∧ F0 23 ≤ (F260 23) ∧ (F260 23) ≤ 1000000 ∧ ((F260 9) = 2 → 0 ≤ (F260 11) ∧ (F260 11) ≤ 9) ∧ 0 ≤ (F260 9) ∧ (F260 9) ≤ 4 ∧ (F260 6) = 0 by omega) (fun z => fu_cg fu_0 (show F260 23 = F0 23 by omega) (by decide))
end
