section
theorem b_X10_readsFunction_6 {h0 : am_h} {F0 : rf_f} {A0 : rf_A} {gk : Nat} (hrec : ∀ {h0 : am_h} {F0 : rf_f} {A0 : rf_A}, rf_R h0 F0 A0 → (0 ≤ F0 8 ∧ F0 8 ≤ F0 7 ∧ F0 7 ≤ 700 ∧ 0 ≤ F0 20 ∧ F0 20 ≤ 30 ∧ 0 ≤ F0 21 ∧ F0 21 ≤ 12 ∧ 0 ≤ F0 18 ∧ F0 18 ≤ 12 ∧ 0 ≤ F0 23 ∧ F0 23 ≤ 1000000 ∧ (F0 9 = 2 → 0 ≤ F0 11 ∧ F0 11 ≤ 9) ∧ 0 ≤ F0 9 ∧ F0 9 ≤ 4) → (nm (A0 16) (A0 17) (F0 18)) → ((12 - F0 21) + (30 - F0 20) < (gk : Int)) → am_Mt (2 * gk + 5) 182 [.inr (.inr (some 81))] h0 (rf_V h0 (fun F' A' => fr1 [8, 10, 9, 14, 11, 12, 6, 5, 23, 20, 21] F0 F' ∧ fr2 [22] A0 A' ∧ ((F0 8 ≤ F' 8 ∧ F' 8 ≤ F0 7 ∧ F0 20 ≤ F' 20 ∧ F' 20 ≤ 30 ∧ F' 21 = F0 21 ∧ F0 23 ≤ F' 23 ∧ F' 23 ≤ 1000000 ∧ (F' 9 = 2 → 0 ≤ F' 11 ∧ F' 11 ≤ 9) ∧ 0 ≤ F' 9 ∧ F' 9 ≤ 4) ∧ (F' 6 = 0 → F' 20 = F0 20 ∧ F0 6 = 0 ∧ (F' 9 = 0 ∨ F0 8 < F' 8)) ∧ (F' 6 = 0 → F' 23 ≤ 124 → rd1 (A' 22) (A0 22) (F0 23) (F' 23) (F0 20)))))) (p1 : 0 ≤ F0 8 ∧ F0 8 ≤ F0 7 ∧ F0 7 ≤ 700 ∧ 0 ≤ F0 20 ∧ F0 20 ≤ 30 ∧ 0 ≤ F0 21 ∧ F0 21 ≤ 12 ∧ 0 ≤ F0 18 ∧ F0 18 ≤ 12 ∧ 0 ≤ F0 23 ∧ F0 23 ≤ 1000000 ∧ (F0 9 = 2 → 0 ≤ F0 11 ∧ F0 11 ≤ 9) ∧ 0 ≤ F0 9 ∧ F0 9 ≤ 4) (p2 : nm (A0 16) (A0 17) (F0 18)) (p3 : (12 - F0 21) + (30 - F0 20) < (gk : Int) + 1) (p4 : F0 6 = 0) : ∀ (n : Nat) {lv : am_l} {h : am_h} {F : rf_f} {A : rf_A} {v1 : Int32}, ((31 - v1.toInt).toNat) = n → am_get lv 0 = some (.inr (.inr (some 81))) → am_get lv 1 = some (.inl v1) → rf_I h0 h F A → fr1 [8, 10, 9, 14, 11, 12, 6, 5, 23, 20, 21] F0 F → fr2 [22] A0 A → (F0 8 ≤ F 8 ∧ F 8 ≤ F0 7 ∧ F 20 = F0 20 + v1.toInt ∧ 0 ≤ v1.toInt ∧ F 20 ≤ 30 ∧ F 21 = F0 21 ∧ F0 23 ≤ F 23 ∧ F 23 ≤ 1000000 ∧ (F 9 = 2 → 0 ≤ F 11 ∧ F 11 ≤ 9) ∧ 0 ≤ F 9 ∧ F 9 ≤ 4 ∧ F 6 = 0) → (F 23 ≤ 124 → fu (A 22) (A0 22) (F0 23) (F 23) v1.toInt) → am_Ok am_G (2 * gk + 5) 181 (6, lv, [], h, 0, 0) (rf_V h0 (fun F' A' => fr1 [8, 10, 9, 14, 11, 12, 6, 5, 23, 20, 21] F0 F' ∧ fr2 [22] A0 A' ∧ ((F0 8 ≤ F' 8 ∧ F' 8 ≤ F0 7 ∧ F0 20 ≤ F' 20 ∧ F' 20 ≤ 30 ∧ F' 21 = F0 21 ∧ F0 23 ≤ F' 23 ∧ F' 23 ≤ 1000000 ∧ (F' 9 = 2 → 0 ≤ F' 11 ∧ F' 11 ≤ 9) ∧ 0 ≤ F' 9 ∧ F' 9 ≤ 4) ∧ (F' 6 = 0 → F' 20 = F0 20 ∧ F0 6 = 0 ∧ (F' 9 = 0 ∨ F0 8 < F' 8)) ∧ (F' 6 = 0 → F' 23 ≤ 124 → rd1 (A' 22) (A0 22) (F0 23) (F' 23) (F0 20))))) := by
  intro n
  induction n using Nat.strongRecOn with
  | ind n ih =>
    intro lv h F A v1 hn g0 g1 hI hF hA i1 i2
    refine k_aload 7 rfl g0 rfl ?_
    refine k_aload 8 rfl g0 rfl ?_
    refine r_gI hI 11 rfl rfl rfl (fun x1 (e2 : x1.toInt = F 9) => ?_)
    refine k_push 12 rfl rfl ?_
    have hc3 : (1 : Int32).toInt = 1 := by decide
    by_cases b4 : x1 = (1 : Int32)
    · refine k_c2 15 rfl rfl (if_pos b4) ?_
      have b4 := iv_eq.mp b4
      refine k_push 16 rfl rfl ?_
      refine k_goto 20 rfl rfl ?_
      refine k_push 21 rfl rfl ?_
      refine k_in (d := 1) rfl (Nat.ble_eq_true_of_le (by omega)) rfl rfl hI.rc ?_
      refine k_aload 1 rfl rfl rfl ?_
      refine k_in (d := 0) rfl (Nat.ble_eq_true_of_le (by omega)) rfl rfl hI.rc ?_
      refine k_aload 1 rfl rfl rfl ?_
      refine r_gI hI 4 rfl rfl rfl (fun x5 (e6 : x5.toInt = F 6) => ?_)
      by_cases b7 : x5 = 0
      · refine k_c1 7 rfl rfl (if_pos b7) ?_
        have b7 := iv_eq0.mp b7
        refine k_push 8 rfl rfl ?_
        refine k_goto 12 rfl rfl ?_
        refine k_fin rfl (fin_Z (Or.inr rfl)) ⟨_, _, rfl, rf_len hI hI, ?_⟩
        show am_Ok _ _ _ (4, _, [.inl (1 : Int32)], _, 0, 0) _
        refine k_c1 7 rfl rfl (if_neg (by decide)) ?_
        refine k_iload 8 rfl rfl rfl ?_
        refine k_c1 24 rfl rfl (if_neg (by decide)) ?_
        refine k_aload 25 rfl rfl rfl ?_
        refine k_in (d := 0) rfl (Nat.ble_eq_true_of_le (by omega)) rfl rfl hI.rc ?_
        refine k_aload 1 rfl rfl rfl ?_
        refine r_gI hI 4 rfl rfl rfl (fun x8 (e9 : x8.toInt = F 6) => ?_)
        by_cases b10 : x8 = 0
        · refine k_c1 7 rfl rfl (if_pos b10) ?_
          have b10 := iv_eq0.mp b10
          refine k_push 8 rfl rfl ?_
          refine k_goto 12 rfl rfl ?_
          refine k_fin rfl (fin_Z (Or.inr rfl)) ⟨_, _, rfl, rf_len hI hI, ?_⟩
          show am_Ok _ _ _ (28, _, [.inl (1 : Int32)], _, 0, 0) _
          refine k_fin rfl (fin_Z (Or.inr rfl)) ⟨_, _, rfl, rf_len hI hI, ?_⟩
          show am_Ok _ _ _ (24, _, [.inl (1 : Int32)], _, 0, 0) _
          refine k_c1 27 rfl rfl (if_neg (by decide)) ?_
          refine k_aload 28 rfl g0 rfl ?_
          refine k_aload 29 rfl g0 rfl ?_
          refine r_gI hI 32 rfl rfl rfl (fun x11 (e12 : x11.toInt = F 14) => ?_)
          refine k_push 34 rfl rfl ?_
          have hc13 : (8 : Int32).toInt = 8 := by decide
          by_cases b14 : (8 : Int32) < x11
          · refine k_c2 50 rfl rfl (if_pos b14) ?_
            have b14 := iv_lt.mp b14
            refine k_push 51 rfl rfl ?_
            have hc15 : (0 : Int32).toInt = 0 := by decide
            refine k_push 52 rfl rfl ?_
            have hc16 : (2 : Int32).toInt = 2 := by decide
            refine k_in (d := 1) rfl (Nat.ble_eq_true_of_le (by omega)) rfl rfl hI.rc ?_
            refine k_aload 1 rfl rfl rfl ?_
            refine k_in (d := 0) rfl (Nat.ble_eq_true_of_le (by omega)) rfl rfl hI.rc ?_
            refine k_aload 1 rfl rfl rfl ?_
            refine r_gI hI 4 rfl rfl rfl (fun x17 (e18 : x17.toInt = F 6) => ?_)
            by_cases b19 : x17 = 0
            · refine k_c1 7 rfl rfl (if_pos b19) ?_
              have b19 := iv_eq0.mp b19
              refine k_push 8 rfl rfl ?_
              refine k_goto 12 rfl rfl ?_
              refine k_fin rfl (fin_Z (Or.inr rfl)) ⟨_, _, rfl, rf_len hI hI, ?_⟩
              show am_Ok _ _ _ (4, _, [.inl (1 : Int32)], _, 0, 0) _
              refine k_c1 7 rfl rfl (if_neg (by decide)) ?_
              refine k_iload 8 rfl rfl rfl ?_
              refine k_c1 11 rfl rfl (if_pos (by decide)) ?_
              refine k_aload 12 rfl rfl rfl ?_
              refine k_iload 13 rfl rfl rfl ?_
              refine r_pI hI 16 rfl rfl rfl (fun h20 I21 => ?_)
              refine k_aload 17 rfl rfl rfl ?_
              refine k_aload 18 rfl rfl rfl ?_
              refine r_gI I21 21 rfl rfl rfl (fun x22 (e23 : x22.toInt = F 10) => ?_)
              refine r_pI I21 24 rfl rfl rfl (fun h24 I25 => ?_)
              refine k_aload 25 rfl rfl rfl ?_
              refine k_in (d := 0) rfl (Nat.ble_eq_true_of_le (by omega)) rfl rfl I25.rc ?_
              refine k_aload 1 rfl rfl rfl ?_
              refine r_gI I25 4 rfl rfl rfl (fun x26 (e27 : x26.toInt = (2 : Int32).toInt) => ?_)
              by_cases b28 : x26 = 0
              · refine k_c1 7 rfl rfl (if_pos b28) ?_
                have b28 := iv_eq0.mp b28
                refine k_push 8 rfl rfl ?_
                refine k_goto 12 rfl rfl ?_
                refine k_fin rfl (fin_Z (Or.inr rfl)) ⟨_, _, rfl, rf_len I25 I25, ?_⟩
                show am_Ok _ _ _ (28, _, [.inl (1 : Int32)], _, 0, 0) _
                refine k_fin rfl (fin_Z (Or.inr rfl)) ⟨_, _, rfl, rf_len hI I25, ?_⟩
                show am_Ok _ _ _ (55, _, [.inl (1 : Int32)], _, 0, 0) _
                refine k_c1 59 rfl rfl (if_neg (by decide)) ?_
                refine k_aload 60 rfl g0 rfl ?_
                refine r_gA I25 63 rfl rfl rfl ?_
                refine k_aload 64 rfl g0 rfl ?_
                refine r_gI I25 67 rfl rfl rfl (fun x29 (e30 : x29.toInt = F 20) => ?_)
                refine k_aload 68 rfl g0 rfl ?_
                refine r_gJ I25 71 rfl rfl rfl (fun y31 => ?_)
                refine r_lst 19 I25 72 rfl rfl (by omega) (show x29.toInt < 31 by omega) rfl (fun h32 I33 => ?_)
                refine k_aload 73 rfl g0 rfl ?_
                refine k_dup 74 rfl rfl rfl ?_
                refine r_gI I33 77 rfl rfl rfl (fun x34 (e35 : x34.toInt = F 20) => ?_)
                refine k_push 78 rfl rfl ?_
                obtain ⟨x36, q37⟩ : ∃ q : Int32, q = (x34 + (1 : Int32)) := ⟨_, rfl⟩
                have e38 : x36.toInt = x34.toInt + 1 := by rw [q37, iv_add (by omega) (by omega)]; omega
                refine k_bin x36 79 rfl q37.symm rfl ?_
                refine r_pI I33 82 rfl rfl rfl (fun h39 I40 => ?_)
                obtain ⟨x41, q42⟩ : ∃ q : Int32, q = v1 + (1 : Int32) := ⟨_, rfl⟩
                have e43 : x41.toInt = v1.toInt + 1 := by rw [q42, iv_add (by omega) (by omega)]; omega
                refine k_iinc x41 85 rfl g1 q42.symm rfl ?_
                refine k_aload 86 rfl (gs_ne rfl rfl g0) rfl ?_
                refine k_push 87 rfl rfl ?_
                refine k_rv I40 rfl (m_emits  I40.1 (show 0 ≤ (F 23) ∧ (F 23) ≤ 1000000 by omega)) (Nat.ble_eq_true_of_le (by omega)) rfl rfl I40.rc ?_
                rintro h45 F46 A47 I48 ⟨k50, k51, p49⟩
                replace p49 : ((F 23) ≤ F46 23 ∧ F46 23 ≤ 1000000) ∧ (F46 23 ≤ 124 → F46 23 = (F 23) + 1) ∧ (F46 23 ≤ 124 → A47 22 ((F 23)) = (1 : Int32).toInt ∧ ∀ q : Int, q ≠ (F 23) → A47 22 q = (A 22) q) := p49
                obtain ⟨p49a, p49b, p49c⟩ := p49
                show am_Ok _ _ _ (90, _, [], _, 0, 0) _
                have hfu : F46 23 ≤ 124 → fu (A47 22) (A0 22) (F0 23) (F46 23) (v1.toInt + 1) := fun z9 => fu_s (i2 (by omega)) (p49b z9) ((p49c z9).1.trans (by decide)) (p49c z9).2 (by omega) rfl
                refine k_aload 91 rfl (gs_ne rfl rfl g0) rfl ?_
                have e52 : F46 8 = F 8 := k50 8 (by decide)
                have e53 : F46 7 = F 7 := k50 7 (by decide)
                have e54 : F 7 = F0 7 := hF 7 (by decide)
                refine k_rv I48 rfl (m_goes  I48.1 (show 0 ≤ (F46 8) ∧ (F46 8) ≤ (F46 7) ∧ (F46 7) ≤ 700 by omega)) (Nat.ble_eq_true_of_le (by omega)) rfl rfl I48.rc ?_
                rintro h56 F57 A58 I59 ⟨k61, k62, p60⟩
                replace p60 : ((F46 8) ≤ F57 8 ∧ F57 8 ≤ (F46 7)) ∧ (F57 9 = 0 ∨ (F46 8) < F57 8) ∧ (F57 9 = 2 → 0 ≤ F57 11 ∧ F57 11 ≤ 9) ∧ (0 ≤ F57 9 ∧ F57 9 ≤ 4) := p60
                obtain ⟨p60a, p60b, p60c, p60d⟩ := p60
                have k62 := fr2.nil k62
                subst k62
                show am_Ok _ _ _ (94, _, [], _, 0, 0) _
                refine k_aload 95 rfl (gs_ne rfl rfl g0) rfl ?_
                refine k_in (d := 0) rfl (Nat.ble_eq_true_of_le (by omega)) rfl rfl I59.rc ?_
                refine k_aload 1 rfl rfl rfl ?_
                refine r_gI I59 4 rfl rfl rfl (fun x63 (e64 : x63.toInt = F57 6) => ?_)
                have e65 : F57 6 = F46 6 := k61 6 (by decide)
                have e66 : F46 6 = (2 : Int32).toInt := k50 6 (by decide)
                by_cases b67 : x63 = 0
                · refine k_c1 7 rfl rfl (if_pos b67) ?_
                  have b67 := iv_eq0.mp b67
                  refine k_push 8 rfl rfl ?_
                  refine k_goto 12 rfl rfl ?_
                  refine k_fin rfl (fin_Z (Or.inr rfl)) ⟨_, _, rfl, rf_len I59 I59, ?_⟩
                  show am_Ok _ _ _ (98, _, [.inl (1 : Int32)], _, 0, 0) _
                  refine k_c1 101 rfl rfl (if_neg (by decide)) ?_
                  refine k_aload 102 rfl (gs_ne rfl rfl g0) rfl ?_
                  refine r_gI I59 105 rfl rfl rfl (fun x68 (e69 : x68.toInt = F57 9) => ?_)
                  refine k_push 106 rfl rfl ?_
                  by_cases b70 : x68 = (1 : Int32)
                  · refine k_c2 6 rfl rfl (if_pos b70) ?_
                    have b70 := iv_eq.mp b70
                    have e71 : F57 20 = F46 20 := k61 20 (by decide)
                    have e72 : F46 20 = x36.toInt := k50 20 (by decide)
                    have e73 : F57 21 = F46 21 := k61 21 (by decide)
                    have e74 : F46 21 = F 21 := k50 21 (by decide)
                    have e75 : F57 23 = F46 23 := k61 23 (by decide)
                    exact ih _ (show ((31 - x41.toInt).toNat) < n by omega)  rfl (gs_ne rfl rfl g0) gs_eq I59 (fr1.tr (by decide) (fr1.tr (by decide) (fr1.up (by decide) (fr1.up (by decide) (fr1.up (by decide) hF))) k50) k61) (fr2.tr (by decide) hA k51) (show F0 8 ≤ (F57 8) ∧ (F57 8) ≤ F0 7 ∧ (F57 20) = F0 20 + x41.toInt ∧ 0 ≤ x41.toInt ∧ (F57 20) ≤ 30 ∧ (F57 21) = F0 21 ∧ F0 23 ≤ (F57 23) ∧ (F57 23) ≤ 1000000 ∧ ((F57 9) = 2 → 0 ≤ (F57 11) ∧ (F57 11) ≤ 9) ∧ 0 ≤ (F57 9) ∧ (F57 9) ≤ 4 ∧ (F57 6) = 0 by omega) (fun z => by have z9 : F57 23 ≤ 124 := z; show fu (A47 22) (A0 22) (F0 23) (F57 23) x41.toInt; exact fu_cg (hfu (by omega)) (by omega) (by omega))
                  · refine k_c2 109 rfl rfl (if_neg b70) ?_
                    have b70 := mt iv_eq.mpr b70
                    refine k_aload 110 rfl (gs_ne rfl rfl g0) rfl ?_
                    refine k_push 112 rfl rfl ?_
                    have hc76 : (46 : Int32).toInt = 46 := by decide
                    have e77 : F57 7 = F46 7 := k61 7 (by decide)
                    refine k_rv I59 rfl (m_must  I59.1 (show 0 ≤ (F57 8) ∧ (F57 8) ≤ (F57 7) ∧ (F57 7) ≤ 700 ∧ ((F57 9) = 2 → 0 ≤ (F57 11) ∧ (F57 11) ≤ 9) ∧ 0 ≤ (F57 9) ∧ (F57 9) ≤ 4 by omega)) (Nat.ble_eq_true_of_le (by omega)) rfl rfl I59.rc ?_
                    rintro h79 F80 A81 I82 ⟨k84, k85, p83⟩
                    replace p83 : ((F57 8) ≤ F80 8 ∧ F80 8 ≤ (F57 7)) ∧ (F80 6 = 0 → (F57 6) = 0 ∧ (F80 9 = 0 ∨ (F57 8) < F80 8)) ∧ (F80 9 = 2 → 0 ≤ F80 11 ∧ F80 11 ≤ 9) ∧ (0 ≤ F80 9 ∧ F80 9 ≤ 4) := p83
                    obtain ⟨p83a, p83b, p83c, p83d⟩ := p83
                    have k85 := fr2.nil k85
                    subst k85
                    show am_Ok _ _ _ (115, _, [], _, 0, 0) _
                    refine k_aload 116 rfl (gs_ne rfl rfl g0) rfl ?_
                    have e86 : F80 7 = F57 7 := k84 7 (by decide)
                    have e87 : F80 20 = F57 20 := k84 20 (by decide)
                    have e88 : F57 20 = F46 20 := k61 20 (by decide)
                    have e89 : F46 20 = x36.toInt := k50 20 (by decide)
                    have e90 : F80 21 = F57 21 := k84 21 (by decide)
                    have e91 : F57 21 = F46 21 := k61 21 (by decide)
                    have e92 : F46 21 = F 21 := k50 21 (by decide)
                    have e93 : F80 18 = F57 18 := k84 18 (by decide)
                    have e94 : F57 18 = F46 18 := k61 18 (by decide)
                    have e95 : F46 18 = F 18 := k50 18 (by decide)
                    have e96 : F 18 = F0 18 := hF 18 (by decide)
                    have e97 : F80 23 = F57 23 := k84 23 (by decide)
                    have e98 : F57 23 = F46 23 := k61 23 (by decide)
                    refine k_rv I82 rfl (hrec  I82.1 (show 0 ≤ (F80 8) ∧ (F80 8) ≤ (F80 7) ∧ (F80 7) ≤ 700 ∧ 0 ≤ (F80 20) ∧ (F80 20) ≤ 30 ∧ 0 ≤ (F80 21) ∧ (F80 21) ≤ 12 ∧ 0 ≤ (F80 18) ∧ (F80 18) ≤ 12 ∧ 0 ≤ (F80 23) ∧ (F80 23) ≤ 1000000 ∧ ((F80 9) = 2 → 0 ≤ (F80 11) ∧ (F80 11) ≤ 9) ∧ 0 ≤ (F80 9) ∧ (F80 9) ≤ 4 by omega) (show nm ((A47 16)) ((A47 17)) ((F80 18)) by rw [((k51 16 (by decide)).trans (hA 16 (by decide))), ((k51 17 (by decide)).trans (hA 17 (by decide))), ((k84 18 (by decide)).trans ((k61 18 (by decide)).trans ((k50 18 (by decide)).trans (hF 18 (by decide)))))]; exact p2) (show (12 - (F80 21)) + (30 - (F80 20)) < (gk : Int) by omega)) (Nat.ble_eq_true_of_le (by omega)) rfl rfl I82.rc ?_
                    rintro h100 F101 A102 I103 ⟨k105, k106, p104⟩
                    replace p104 : ((F80 8) ≤ F101 8 ∧ F101 8 ≤ (F80 7) ∧ (F80 20) ≤ F101 20 ∧ F101 20 ≤ 30 ∧ F101 21 = (F80 21) ∧ (F80 23) ≤ F101 23 ∧ F101 23 ≤ 1000000 ∧ (F101 9 = 2 → 0 ≤ F101 11 ∧ F101 11 ≤ 9) ∧ 0 ≤ F101 9 ∧ F101 9 ≤ 4) ∧ (F101 6 = 0 → F101 20 = (F80 20) ∧ (F80 6) = 0 ∧ (F101 9 = 0 ∨ (F80 8) < F101 8)) ∧ (F101 6 = 0 → F101 23 ≤ 124 → rd1 (A102 22) ((A47 22)) ((F80 23)) (F101 23) ((F80 20))) := p104
                    obtain ⟨p104a, p104b, p104c⟩ := p104
                    show am_Ok _ _ _ (119, _, [], _, 0, 0) _
                    refine k_aload 120 rfl (gs_ne rfl rfl g0) rfl ?_
                    refine k_dup 121 rfl rfl rfl ?_
                    refine r_gI I103 124 rfl rfl rfl (fun x107 (e108 : x107.toInt = F101 20) => ?_)
                    refine k_iload 125 rfl gs_eq rfl ?_
                    obtain ⟨x109, q110⟩ : ∃ q : Int32, q = (x107 - x41) := ⟨_, rfl⟩
                    have e111 : x109.toInt = x107.toInt - x41.toInt := by rw [q110, iv_sub (by omega) (by omega)]
                    refine k_bin x109 126 rfl q110.symm rfl ?_
                    refine r_pI I103 129 rfl rfl rfl (fun h112 I113 => ?_)
                    exact k_fin rfl rfl ⟨_, _, _, rfl, I113, (fr1.up (by decide) (fr1.tr (by decide) (fr1.tr (by decide) (fr1.tr (by decide) (fr1.tr (by decide) (fr1.up (by decide) (fr1.up (by decide) (fr1.up (by decide) hF))) k50) k61) k84) k105)), (fr2.tr (by decide) (fr2.tr (by decide) hA k51) k106), ⟨(show (F0 8 ≤ F101 8 ∧ F101 8 ≤ F0 7 ∧ F0 20 ≤ x109.toInt ∧ x109.toInt ≤ 30 ∧ F101 21 = F0 21 ∧ F0 23 ≤ F101 23 ∧ F101 23 ≤ 1000000 ∧ (F101 9 = 2 → 0 ≤ F101 11 ∧ F101 11 ≤ 9) ∧ 0 ≤ F101 9 ∧ F101 9 ≤ 4) by omega), (show (F101 6 = 0 → x109.toInt = F0 20 ∧ F0 6 = 0 ∧ (F101 9 = 0 ∨ F0 8 < F101 8)) by omega), fun z1 z2 => by have z8 : F101 6 = 0 := z1; have z9 : F101 23 ≤ 124 := z2; have h9 := p104c (by omega) (by omega); show rd1 (A102 22) (A0 22) (F0 23) (F101 23) (F0 20); exact fu_end (hfu (by omega)) (by omega) (rd_cg h9 (by omega) (by omega) rfl) (by omega)⟩⟩
                · refine k_c1 11 rfl rfl (if_neg b67) ?_
                  have b67 := mt iv_eq0.mpr b67
                  refine k_push 12 rfl rfl ?_
                  refine k_fin rfl (fin_Z (Or.inl rfl)) ⟨_, _, rfl, rf_len I59 I59, ?_⟩
                  show am_Ok _ _ _ (98, _, [.inl (0 : Int32)], _, 0, 0) _
                  refine k_c1 109 rfl rfl (if_pos (by decide)) ?_
                  refine k_aload 110 rfl (gs_ne rfl rfl g0) rfl ?_
                  refine k_push 112 rfl rfl ?_
                  have hc114 : (46 : Int32).toInt = 46 := by decide
                  have e115 : F57 7 = F46 7 := k61 7 (by decide)
                  refine k_rv I59 rfl (m_must  I59.1 (show 0 ≤ (F57 8) ∧ (F57 8) ≤ (F57 7) ∧ (F57 7) ≤ 700 ∧ ((F57 9) = 2 → 0 ≤ (F57 11) ∧ (F57 11) ≤ 9) ∧ 0 ≤ (F57 9) ∧ (F57 9) ≤ 4 by omega)) (Nat.ble_eq_true_of_le (by omega)) rfl rfl I59.rc ?_
                  rintro h117 F118 A119 I120 ⟨k122, k123, p121⟩
                  replace p121 : ((F57 8) ≤ F118 8 ∧ F118 8 ≤ (F57 7)) ∧ (F118 6 = 0 → (F57 6) = 0 ∧ (F118 9 = 0 ∨ (F57 8) < F118 8)) ∧ (F118 9 = 2 → 0 ≤ F118 11 ∧ F118 11 ≤ 9) ∧ (0 ≤ F118 9 ∧ F118 9 ≤ 4) := p121
                  obtain ⟨p121a, p121b, p121c, p121d⟩ := p121
                  have k123 := fr2.nil k123
                  subst k123
                  show am_Ok _ _ _ (115, _, [], _, 0, 0) _
                  refine k_aload 116 rfl (gs_ne rfl rfl g0) rfl ?_
                  have e124 : F118 7 = F57 7 := k122 7 (by decide)
                  have e125 : F118 20 = F57 20 := k122 20 (by decide)
                  have e126 : F57 20 = F46 20 := k61 20 (by decide)
                  have e127 : F46 20 = x36.toInt := k50 20 (by decide)
                  have e128 : F118 21 = F57 21 := k122 21 (by decide)
                  have e129 : F57 21 = F46 21 := k61 21 (by decide)
                  have e130 : F46 21 = F 21 := k50 21 (by decide)
                  have e131 : F118 18 = F57 18 := k122 18 (by decide)
                  have e132 : F57 18 = F46 18 := k61 18 (by decide)
                  have e133 : F46 18 = F 18 := k50 18 (by decide)
                  have e134 : F 18 = F0 18 := hF 18 (by decide)
                  have e135 : F118 23 = F57 23 := k122 23 (by decide)
                  have e136 : F57 23 = F46 23 := k61 23 (by decide)
                  refine k_rv I120 rfl (hrec  I120.1 (show 0 ≤ (F118 8) ∧ (F118 8) ≤ (F118 7) ∧ (F118 7) ≤ 700 ∧ 0 ≤ (F118 20) ∧ (F118 20) ≤ 30 ∧ 0 ≤ (F118 21) ∧ (F118 21) ≤ 12 ∧ 0 ≤ (F118 18) ∧ (F118 18) ≤ 12 ∧ 0 ≤ (F118 23) ∧ (F118 23) ≤ 1000000 ∧ ((F118 9) = 2 → 0 ≤ (F118 11) ∧ (F118 11) ≤ 9) ∧ 0 ≤ (F118 9) ∧ (F118 9) ≤ 4 by omega) (show nm ((A47 16)) ((A47 17)) ((F118 18)) by rw [((k51 16 (by decide)).trans (hA 16 (by decide))), ((k51 17 (by decide)).trans (hA 17 (by decide))), ((k122 18 (by decide)).trans ((k61 18 (by decide)).trans ((k50 18 (by decide)).trans (hF 18 (by decide)))))]; exact p2) (show (12 - (F118 21)) + (30 - (F118 20)) < (gk : Int) by omega)) (Nat.ble_eq_true_of_le (by omega)) rfl rfl I120.rc ?_
                  rintro h138 F139 A140 I141 ⟨k143, k144, p142⟩
                  replace p142 : ((F118 8) ≤ F139 8 ∧ F139 8 ≤ (F118 7) ∧ (F118 20) ≤ F139 20 ∧ F139 20 ≤ 30 ∧ F139 21 = (F118 21) ∧ (F118 23) ≤ F139 23 ∧ F139 23 ≤ 1000000 ∧ (F139 9 = 2 → 0 ≤ F139 11 ∧ F139 11 ≤ 9) ∧ 0 ≤ F139 9 ∧ F139 9 ≤ 4) ∧ (F139 6 = 0 → F139 20 = (F118 20) ∧ (F118 6) = 0 ∧ (F139 9 = 0 ∨ (F118 8) < F139 8)) ∧ (F139 6 = 0 → F139 23 ≤ 124 → rd1 (A140 22) ((A47 22)) ((F118 23)) (F139 23) ((F118 20))) := p142
                  obtain ⟨p142a, p142b, p142c⟩ := p142
                  show am_Ok _ _ _ (119, _, [], _, 0, 0) _
                  refine k_aload 120 rfl (gs_ne rfl rfl g0) rfl ?_
                  refine k_dup 121 rfl rfl rfl ?_
                  refine r_gI I141 124 rfl rfl rfl (fun x145 (e146 : x145.toInt = F139 20) => ?_)
                  refine k_iload 125 rfl gs_eq rfl ?_
                  obtain ⟨x147, q148⟩ : ∃ q : Int32, q = (x145 - x41) := ⟨_, rfl⟩
                  have e149 : x147.toInt = x145.toInt - x41.toInt := by rw [q148, iv_sub (by omega) (by omega)]
                  refine k_bin x147 126 rfl q148.symm rfl ?_
                  refine r_pI I141 129 rfl rfl rfl (fun h150 I151 => ?_)
                  exact k_fin rfl rfl ⟨_, _, _, rfl, I151, (fr1.up (by decide) (fr1.tr (by decide) (fr1.tr (by decide) (fr1.tr (by decide) (fr1.tr (by decide) (fr1.up (by decide) (fr1.up (by decide) (fr1.up (by decide) hF))) k50) k61) k122) k143)), (fr2.tr (by decide) (fr2.tr (by decide) hA k51) k144), ⟨(show (F0 8 ≤ F139 8 ∧ F139 8 ≤ F0 7 ∧ F0 20 ≤ x147.toInt ∧ x147.toInt ≤ 30 ∧ F139 21 = F0 21 ∧ F0 23 ≤ F139 23 ∧ F139 23 ≤ 1000000 ∧ (F139 9 = 2 → 0 ≤ F139 11 ∧ F139 11 ≤ 9) ∧ 0 ≤ F139 9 ∧ F139 9 ≤ 4) by omega), (show (F139 6 = 0 → x147.toInt = F0 20 ∧ F0 6 = 0 ∧ (F139 9 = 0 ∨ F0 8 < F139 8)) by omega), fun z1 z2 => by have z8 : F139 6 = 0 := z1; have z9 : F139 23 ≤ 124 := z2; have h9 := p142c (by omega) (by omega); show rd1 (A140 22) (A0 22) (F0 23) (F139 23) (F0 20); exact fu_end (hfu (by omega)) (by omega) (rd_cg h9 (by omega) (by omega) rfl) (by omega)⟩⟩
              · refine k_c1 11 rfl rfl (if_neg b28) ?_
                have b28 := mt iv_eq0.mpr b28
                refine k_push 12 rfl rfl ?_
                refine k_fin rfl (fin_Z (Or.inl rfl)) ⟨_, _, rfl, rf_len I25 I25, ?_⟩
                show am_Ok _ _ _ (28, _, [.inl (0 : Int32)], _, 0, 0) _
                refine k_fin rfl (fin_Z (Or.inl rfl)) ⟨_, _, rfl, rf_len hI I25, ?_⟩
                show am_Ok _ _ _ (55, _, [.inl (0 : Int32)], _, 0, 0) _
                refine k_c1 58 rfl rfl (if_pos (by decide)) ?_
                exact k_fin rfl rfl ⟨_, _, _, rfl, I25, (fr1.up (by decide) (fr1.up (by decide) hF)), hA, ⟨(show (F0 8 ≤ F 8 ∧ F 8 ≤ F0 7 ∧ F0 20 ≤ F 20 ∧ F 20 ≤ 30 ∧ F 21 = F0 21 ∧ F0 23 ≤ F 23 ∧ F 23 ≤ 1000000 ∧ (F 9 = 2 → 0 ≤ F 11 ∧ F 11 ≤ 9) ∧ 0 ≤ F 9 ∧ F 9 ≤ 4) by omega), (show ((2 : Int32).toInt = 0 → F 20 = F0 20 ∧ F0 6 = 0 ∧ (F 9 = 0 ∨ F0 8 < F 8)) by omega), fun z => absurd (show (2 : Int32).toInt = 0 from z) (by omega)⟩⟩
            · refine k_c1 11 rfl rfl (if_neg b19) ?_
              have b19 := mt iv_eq0.mpr b19
              refine k_push 12 rfl rfl ?_
              refine k_fin rfl (fin_Z (Or.inl rfl)) ⟨_, _, rfl, rf_len hI hI, ?_⟩
              show am_Ok _ _ _ (4, _, [.inl (0 : Int32)], _, 0, 0) _
              refine k_c1 24 rfl rfl (if_pos (by decide)) ?_
              refine k_aload 25 rfl rfl rfl ?_
              refine k_in (d := 0) rfl (Nat.ble_eq_true_of_le (by omega)) rfl rfl hI.rc ?_
              refine k_aload 1 rfl rfl rfl ?_
              refine r_gI hI 4 rfl rfl rfl (fun x152 (e153 : x152.toInt = F 6) => ?_)
              by_cases b154 : x152 = 0
              · refine k_c1 7 rfl rfl (if_pos b154) ?_
                have b154 := iv_eq0.mp b154
                refine k_push 8 rfl rfl ?_
                refine k_goto 12 rfl rfl ?_
                refine k_fin rfl (fin_Z (Or.inr rfl)) ⟨_, _, rfl, rf_len hI hI, ?_⟩
                show am_Ok _ _ _ (28, _, [.inl (1 : Int32)], _, 0, 0) _
                refine k_fin rfl (fin_Z (Or.inr rfl)) ⟨_, _, rfl, rf_len hI hI, ?_⟩
                show am_Ok _ _ _ (55, _, [.inl (1 : Int32)], _, 0, 0) _
                refine k_c1 59 rfl rfl (if_neg (by decide)) ?_
                refine k_aload 60 rfl g0 rfl ?_
                refine r_gA hI 63 rfl rfl rfl ?_
                refine k_aload 64 rfl g0 rfl ?_
                refine r_gI hI 67 rfl rfl rfl (fun x155 (e156 : x155.toInt = F 20) => ?_)
                refine k_aload 68 rfl g0 rfl ?_
                refine r_gJ hI 71 rfl rfl rfl (fun y157 => ?_)
                refine r_lst 19 hI 72 rfl rfl (by omega) (show x155.toInt < 31 by omega) rfl (fun h158 I159 => ?_)
                refine k_aload 73 rfl g0 rfl ?_
                refine k_dup 74 rfl rfl rfl ?_
                refine r_gI I159 77 rfl rfl rfl (fun x160 (e161 : x160.toInt = F 20) => ?_)
                refine k_push 78 rfl rfl ?_
                obtain ⟨x162, q163⟩ : ∃ q : Int32, q = (x160 + (1 : Int32)) := ⟨_, rfl⟩
                have e164 : x162.toInt = x160.toInt + 1 := by rw [q163, iv_add (by omega) (by omega)]; omega
                refine k_bin x162 79 rfl q163.symm rfl ?_
                refine r_pI I159 82 rfl rfl rfl (fun h165 I166 => ?_)
                obtain ⟨x167, q168⟩ : ∃ q : Int32, q = v1 + (1 : Int32) := ⟨_, rfl⟩
                have e169 : x167.toInt = v1.toInt + 1 := by rw [q168, iv_add (by omega) (by omega)]; omega
                refine k_iinc x167 85 rfl g1 q168.symm rfl ?_
                refine k_aload 86 rfl (gs_ne rfl rfl g0) rfl ?_
                refine k_push 87 rfl rfl ?_
                refine k_rv I166 rfl (m_emits  I166.1 (show 0 ≤ (F 23) ∧ (F 23) ≤ 1000000 by omega)) (Nat.ble_eq_true_of_le (by omega)) rfl rfl I166.rc ?_
                rintro h171 F172 A173 I174 ⟨k176, k177, p175⟩
                replace p175 : ((F 23) ≤ F172 23 ∧ F172 23 ≤ 1000000) ∧ (F172 23 ≤ 124 → F172 23 = (F 23) + 1) ∧ (F172 23 ≤ 124 → A173 22 ((F 23)) = (1 : Int32).toInt ∧ ∀ q : Int, q ≠ (F 23) → A173 22 q = (A 22) q) := p175
                obtain ⟨p175a, p175b, p175c⟩ := p175
                show am_Ok _ _ _ (90, _, [], _, 0, 0) _
                have hfu : F172 23 ≤ 124 → fu (A173 22) (A0 22) (F0 23) (F172 23) (v1.toInt + 1) := fun z9 => fu_s (i2 (by omega)) (p175b z9) ((p175c z9).1.trans (by decide)) (p175c z9).2 (by omega) rfl
                refine k_aload 91 rfl (gs_ne rfl rfl g0) rfl ?_
                have e178 : F172 8 = F 8 := k176 8 (by decide)
                have e179 : F172 7 = F 7 := k176 7 (by decide)
                have e180 : F 7 = F0 7 := hF 7 (by decide)
                refine k_rv I174 rfl (m_goes  I174.1 (show 0 ≤ (F172 8) ∧ (F172 8) ≤ (F172 7) ∧ (F172 7) ≤ 700 by omega)) (Nat.ble_eq_true_of_le (by omega)) rfl rfl I174.rc ?_
                rintro h182 F183 A184 I185 ⟨k187, k188, p186⟩
                replace p186 : ((F172 8) ≤ F183 8 ∧ F183 8 ≤ (F172 7)) ∧ (F183 9 = 0 ∨ (F172 8) < F183 8) ∧ (F183 9 = 2 → 0 ≤ F183 11 ∧ F183 11 ≤ 9) ∧ (0 ≤ F183 9 ∧ F183 9 ≤ 4) := p186
                obtain ⟨p186a, p186b, p186c, p186d⟩ := p186
                have k188 := fr2.nil k188
                subst k188
                show am_Ok _ _ _ (94, _, [], _, 0, 0) _
                refine k_aload 95 rfl (gs_ne rfl rfl g0) rfl ?_
                refine k_in (d := 0) rfl (Nat.ble_eq_true_of_le (by omega)) rfl rfl I185.rc ?_
                refine k_aload 1 rfl rfl rfl ?_
                refine r_gI I185 4 rfl rfl rfl (fun x189 (e190 : x189.toInt = F183 6) => ?_)
                have e191 : F183 6 = F172 6 := k187 6 (by decide)
                have e192 : F172 6 = F 6 := k176 6 (by decide)
                by_cases b193 : x189 = 0
                · refine k_c1 7 rfl rfl (if_pos b193) ?_
                  have b193 := iv_eq0.mp b193
                  refine k_push 8 rfl rfl ?_
                  refine k_goto 12 rfl rfl ?_
                  refine k_fin rfl (fin_Z (Or.inr rfl)) ⟨_, _, rfl, rf_len I185 I185, ?_⟩
                  show am_Ok _ _ _ (98, _, [.inl (1 : Int32)], _, 0, 0) _
                  refine k_c1 101 rfl rfl (if_neg (by decide)) ?_
                  refine k_aload 102 rfl (gs_ne rfl rfl g0) rfl ?_
                  refine r_gI I185 105 rfl rfl rfl (fun x194 (e195 : x194.toInt = F183 9) => ?_)
                  refine k_push 106 rfl rfl ?_
                  by_cases b196 : x194 = (1 : Int32)
                  · refine k_c2 6 rfl rfl (if_pos b196) ?_
                    have b196 := iv_eq.mp b196
                    have e197 : F183 20 = F172 20 := k187 20 (by decide)
                    have e198 : F172 20 = x162.toInt := k176 20 (by decide)
                    have e199 : F183 21 = F172 21 := k187 21 (by decide)
                    have e200 : F172 21 = F 21 := k176 21 (by decide)
                    have e201 : F183 23 = F172 23 := k187 23 (by decide)
                    exact ih _ (show ((31 - x167.toInt).toNat) < n by omega)  rfl (gs_ne rfl rfl g0) gs_eq I185 (fr1.tr (by decide) (fr1.tr (by decide) (fr1.up (by decide) hF) k176) k187) (fr2.tr (by decide) hA k177) (show F0 8 ≤ (F183 8) ∧ (F183 8) ≤ F0 7 ∧ (F183 20) = F0 20 + x167.toInt ∧ 0 ≤ x167.toInt ∧ (F183 20) ≤ 30 ∧ (F183 21) = F0 21 ∧ F0 23 ≤ (F183 23) ∧ (F183 23) ≤ 1000000 ∧ ((F183 9) = 2 → 0 ≤ (F183 11) ∧ (F183 11) ≤ 9) ∧ 0 ≤ (F183 9) ∧ (F183 9) ≤ 4 ∧ (F183 6) = 0 by omega) (fun z => by have z9 : F183 23 ≤ 124 := z; show fu (A173 22) (A0 22) (F0 23) (F183 23) x167.toInt; exact fu_cg (hfu (by omega)) (by omega) (by omega))
                  · refine k_c2 109 rfl rfl (if_neg b196) ?_
                    have b196 := mt iv_eq.mpr b196
                    refine k_aload 110 rfl (gs_ne rfl rfl g0) rfl ?_
                    refine k_push 112 rfl rfl ?_
                    have hc202 : (46 : Int32).toInt = 46 := by decide
                    have e203 : F183 7 = F172 7 := k187 7 (by decide)
                    refine k_rv I185 rfl (m_must  I185.1 (show 0 ≤ (F183 8) ∧ (F183 8) ≤ (F183 7) ∧ (F183 7) ≤ 700 ∧ ((F183 9) = 2 → 0 ≤ (F183 11) ∧ (F183 11) ≤ 9) ∧ 0 ≤ (F183 9) ∧ (F183 9) ≤ 4 by omega)) (Nat.ble_eq_true_of_le (by omega)) rfl rfl I185.rc ?_
                    rintro h205 F206 A207 I208 ⟨k210, k211, p209⟩
                    replace p209 : ((F183 8) ≤ F206 8 ∧ F206 8 ≤ (F183 7)) ∧ (F206 6 = 0 → (F183 6) = 0 ∧ (F206 9 = 0 ∨ (F183 8) < F206 8)) ∧ (F206 9 = 2 → 0 ≤ F206 11 ∧ F206 11 ≤ 9) ∧ (0 ≤ F206 9 ∧ F206 9 ≤ 4) := p209
                    obtain ⟨p209a, p209b, p209c, p209d⟩ := p209
                    have k211 := fr2.nil k211
                    subst k211
                    show am_Ok _ _ _ (115, _, [], _, 0, 0) _
                    refine k_aload 116 rfl (gs_ne rfl rfl g0) rfl ?_
                    have e212 : F206 7 = F183 7 := k210 7 (by decide)
                    have e213 : F206 20 = F183 20 := k210 20 (by decide)
                    have e214 : F183 20 = F172 20 := k187 20 (by decide)
                    have e215 : F172 20 = x162.toInt := k176 20 (by decide)
                    have e216 : F206 21 = F183 21 := k210 21 (by decide)
                    have e217 : F183 21 = F172 21 := k187 21 (by decide)
                    have e218 : F172 21 = F 21 := k176 21 (by decide)
                    have e219 : F206 18 = F183 18 := k210 18 (by decide)
                    have e220 : F183 18 = F172 18 := k187 18 (by decide)
                    have e221 : F172 18 = F 18 := k176 18 (by decide)
                    have e222 : F 18 = F0 18 := hF 18 (by decide)
                    have e223 : F206 23 = F183 23 := k210 23 (by decide)
                    have e224 : F183 23 = F172 23 := k187 23 (by decide)
                    refine k_rv I208 rfl (hrec  I208.1 (show 0 ≤ (F206 8) ∧ (F206 8) ≤ (F206 7) ∧ (F206 7) ≤ 700 ∧ 0 ≤ (F206 20) ∧ (F206 20) ≤ 30 ∧ 0 ≤ (F206 21) ∧ (F206 21) ≤ 12 ∧ 0 ≤ (F206 18) ∧ (F206 18) ≤ 12 ∧ 0 ≤ (F206 23) ∧ (F206 23) ≤ 1000000 ∧ ((F206 9) = 2 → 0 ≤ (F206 11) ∧ (F206 11) ≤ 9) ∧ 0 ≤ (F206 9) ∧ (F206 9) ≤ 4 by omega) (show nm ((A173 16)) ((A173 17)) ((F206 18)) by rw [((k177 16 (by decide)).trans (hA 16 (by decide))), ((k177 17 (by decide)).trans (hA 17 (by decide))), ((k210 18 (by decide)).trans ((k187 18 (by decide)).trans ((k176 18 (by decide)).trans (hF 18 (by decide)))))]; exact p2) (show (12 - (F206 21)) + (30 - (F206 20)) < (gk : Int) by omega)) (Nat.ble_eq_true_of_le (by omega)) rfl rfl I208.rc ?_
                    rintro h226 F227 A228 I229 ⟨k231, k232, p230⟩
                    replace p230 : ((F206 8) ≤ F227 8 ∧ F227 8 ≤ (F206 7) ∧ (F206 20) ≤ F227 20 ∧ F227 20 ≤ 30 ∧ F227 21 = (F206 21) ∧ (F206 23) ≤ F227 23 ∧ F227 23 ≤ 1000000 ∧ (F227 9 = 2 → 0 ≤ F227 11 ∧ F227 11 ≤ 9) ∧ 0 ≤ F227 9 ∧ F227 9 ≤ 4) ∧ (F227 6 = 0 → F227 20 = (F206 20) ∧ (F206 6) = 0 ∧ (F227 9 = 0 ∨ (F206 8) < F227 8)) ∧ (F227 6 = 0 → F227 23 ≤ 124 → rd1 (A228 22) ((A173 22)) ((F206 23)) (F227 23) ((F206 20))) := p230
                    obtain ⟨p230a, p230b, p230c⟩ := p230
                    show am_Ok _ _ _ (119, _, [], _, 0, 0) _
                    refine k_aload 120 rfl (gs_ne rfl rfl g0) rfl ?_
                    refine k_dup 121 rfl rfl rfl ?_
                    refine r_gI I229 124 rfl rfl rfl (fun x233 (e234 : x233.toInt = F227 20) => ?_)
                    refine k_iload 125 rfl gs_eq rfl ?_
                    obtain ⟨x235, q236⟩ : ∃ q : Int32, q = (x233 - x167) := ⟨_, rfl⟩
                    have e237 : x235.toInt = x233.toInt - x167.toInt := by rw [q236, iv_sub (by omega) (by omega)]
                    refine k_bin x235 126 rfl q236.symm rfl ?_
                    refine r_pI I229 129 rfl rfl rfl (fun h238 I239 => ?_)
                    exact k_fin rfl rfl ⟨_, _, _, rfl, I239, (fr1.up (by decide) (fr1.tr (by decide) (fr1.tr (by decide) (fr1.tr (by decide) (fr1.tr (by decide) (fr1.up (by decide) hF) k176) k187) k210) k231)), (fr2.tr (by decide) (fr2.tr (by decide) hA k177) k232), ⟨(show (F0 8 ≤ F227 8 ∧ F227 8 ≤ F0 7 ∧ F0 20 ≤ x235.toInt ∧ x235.toInt ≤ 30 ∧ F227 21 = F0 21 ∧ F0 23 ≤ F227 23 ∧ F227 23 ≤ 1000000 ∧ (F227 9 = 2 → 0 ≤ F227 11 ∧ F227 11 ≤ 9) ∧ 0 ≤ F227 9 ∧ F227 9 ≤ 4) by omega), (show (F227 6 = 0 → x235.toInt = F0 20 ∧ F0 6 = 0 ∧ (F227 9 = 0 ∨ F0 8 < F227 8)) by omega), fun z1 z2 => by have z8 : F227 6 = 0 := z1; have z9 : F227 23 ≤ 124 := z2; have h9 := p230c (by omega) (by omega); show rd1 (A228 22) (A0 22) (F0 23) (F227 23) (F0 20); exact fu_end (hfu (by omega)) (by omega) (rd_cg h9 (by omega) (by omega) rfl) (by omega)⟩⟩
                · refine k_c1 11 rfl rfl (if_neg b193) ?_
                  have b193 := mt iv_eq0.mpr b193
                  refine k_push 12 rfl rfl ?_
                  refine k_fin rfl (fin_Z (Or.inl rfl)) ⟨_, _, rfl, rf_len I185 I185, ?_⟩
                  show am_Ok _ _ _ (98, _, [.inl (0 : Int32)], _, 0, 0) _
                  refine k_c1 109 rfl rfl (if_pos (by decide)) ?_
                  refine k_aload 110 rfl (gs_ne rfl rfl g0) rfl ?_
                  refine k_push 112 rfl rfl ?_
                  have hc240 : (46 : Int32).toInt = 46 := by decide
                  have e241 : F183 7 = F172 7 := k187 7 (by decide)
                  refine k_rv I185 rfl (m_must  I185.1 (show 0 ≤ (F183 8) ∧ (F183 8) ≤ (F183 7) ∧ (F183 7) ≤ 700 ∧ ((F183 9) = 2 → 0 ≤ (F183 11) ∧ (F183 11) ≤ 9) ∧ 0 ≤ (F183 9) ∧ (F183 9) ≤ 4 by omega)) (Nat.ble_eq_true_of_le (by omega)) rfl rfl I185.rc ?_
                  rintro h243 F244 A245 I246 ⟨k248, k249, p247⟩
                  replace p247 : ((F183 8) ≤ F244 8 ∧ F244 8 ≤ (F183 7)) ∧ (F244 6 = 0 → (F183 6) = 0 ∧ (F244 9 = 0 ∨ (F183 8) < F244 8)) ∧ (F244 9 = 2 → 0 ≤ F244 11 ∧ F244 11 ≤ 9) ∧ (0 ≤ F244 9 ∧ F244 9 ≤ 4) := p247
                  obtain ⟨p247a, p247b, p247c, p247d⟩ := p247
                  have k249 := fr2.nil k249
                  subst k249
                  show am_Ok _ _ _ (115, _, [], _, 0, 0) _
                  refine k_aload 116 rfl (gs_ne rfl rfl g0) rfl ?_
                  have e250 : F244 7 = F183 7 := k248 7 (by decide)
                  have e251 : F244 20 = F183 20 := k248 20 (by decide)
                  have e252 : F183 20 = F172 20 := k187 20 (by decide)
                  have e253 : F172 20 = x162.toInt := k176 20 (by decide)
                  have e254 : F244 21 = F183 21 := k248 21 (by decide)
                  have e255 : F183 21 = F172 21 := k187 21 (by decide)
                  have e256 : F172 21 = F 21 := k176 21 (by decide)
                  have e257 : F244 18 = F183 18 := k248 18 (by decide)
                  have e258 : F183 18 = F172 18 := k187 18 (by decide)
                  have e259 : F172 18 = F 18 := k176 18 (by decide)
                  have e260 : F 18 = F0 18 := hF 18 (by decide)
                  have e261 : F244 23 = F183 23 := k248 23 (by decide)
                  have e262 : F183 23 = F172 23 := k187 23 (by decide)
                  refine k_rv I246 rfl (hrec  I246.1 (show 0 ≤ (F244 8) ∧ (F244 8) ≤ (F244 7) ∧ (F244 7) ≤ 700 ∧ 0 ≤ (F244 20) ∧ (F244 20) ≤ 30 ∧ 0 ≤ (F244 21) ∧ (F244 21) ≤ 12 ∧ 0 ≤ (F244 18) ∧ (F244 18) ≤ 12 ∧ 0 ≤ (F244 23) ∧ (F244 23) ≤ 1000000 ∧ ((F244 9) = 2 → 0 ≤ (F244 11) ∧ (F244 11) ≤ 9) ∧ 0 ≤ (F244 9) ∧ (F244 9) ≤ 4 by omega) (show nm ((A173 16)) ((A173 17)) ((F244 18)) by rw [((k177 16 (by decide)).trans (hA 16 (by decide))), ((k177 17 (by decide)).trans (hA 17 (by decide))), ((k248 18 (by decide)).trans ((k187 18 (by decide)).trans ((k176 18 (by decide)).trans (hF 18 (by decide)))))]; exact p2) (show (12 - (F244 21)) + (30 - (F244 20)) < (gk : Int) by omega)) (Nat.ble_eq_true_of_le (by omega)) rfl rfl I246.rc ?_
                  rintro h264 F265 A266 I267 ⟨k269, k270, p268⟩
                  replace p268 : ((F244 8) ≤ F265 8 ∧ F265 8 ≤ (F244 7) ∧ (F244 20) ≤ F265 20 ∧ F265 20 ≤ 30 ∧ F265 21 = (F244 21) ∧ (F244 23) ≤ F265 23 ∧ F265 23 ≤ 1000000 ∧ (F265 9 = 2 → 0 ≤ F265 11 ∧ F265 11 ≤ 9) ∧ 0 ≤ F265 9 ∧ F265 9 ≤ 4) ∧ (F265 6 = 0 → F265 20 = (F244 20) ∧ (F244 6) = 0 ∧ (F265 9 = 0 ∨ (F244 8) < F265 8)) ∧ (F265 6 = 0 → F265 23 ≤ 124 → rd1 (A266 22) ((A173 22)) ((F244 23)) (F265 23) ((F244 20))) := p268
                  obtain ⟨p268a, p268b, p268c⟩ := p268
                  show am_Ok _ _ _ (119, _, [], _, 0, 0) _
                  refine k_aload 120 rfl (gs_ne rfl rfl g0) rfl ?_
                  refine k_dup 121 rfl rfl rfl ?_
                  refine r_gI I267 124 rfl rfl rfl (fun x271 (e272 : x271.toInt = F265 20) => ?_)
                  refine k_iload 125 rfl gs_eq rfl ?_
                  obtain ⟨x273, q274⟩ : ∃ q : Int32, q = (x271 - x167) := ⟨_, rfl⟩
                  have e275 : x273.toInt = x271.toInt - x167.toInt := by rw [q274, iv_sub (by omega) (by omega)]
                  refine k_bin x273 126 rfl q274.symm rfl ?_
                  refine r_pI I267 129 rfl rfl rfl (fun h276 I277 => ?_)
                  exact k_fin rfl rfl ⟨_, _, _, rfl, I277, (fr1.up (by decide) (fr1.tr (by decide) (fr1.tr (by decide) (fr1.tr (by decide) (fr1.tr (by decide) (fr1.up (by decide) hF) k176) k187) k248) k269)), (fr2.tr (by decide) (fr2.tr (by decide) hA k177) k270), ⟨(show (F0 8 ≤ F265 8 ∧ F265 8 ≤ F0 7 ∧ F0 20 ≤ x273.toInt ∧ x273.toInt ≤ 30 ∧ F265 21 = F0 21 ∧ F0 23 ≤ F265 23 ∧ F265 23 ≤ 1000000 ∧ (F265 9 = 2 → 0 ≤ F265 11 ∧ F265 11 ≤ 9) ∧ 0 ≤ F265 9 ∧ F265 9 ≤ 4) by omega), (show (F265 6 = 0 → x273.toInt = F0 20 ∧ F0 6 = 0 ∧ (F265 9 = 0 ∨ F0 8 < F265 8)) by omega), fun z1 z2 => by have z8 : F265 6 = 0 := z1; have z9 : F265 23 ≤ 124 := z2; have h9 := p268c (by omega) (by omega); show rd1 (A266 22) (A0 22) (F0 23) (F265 23) (F0 20); exact fu_end (hfu (by omega)) (by omega) (rd_cg h9 (by omega) (by omega) rfl) (by omega)⟩⟩
              · refine k_c1 11 rfl rfl (if_neg b154) ?_
                have b154 := mt iv_eq0.mpr b154
                refine k_push 12 rfl rfl ?_
                refine k_fin rfl (fin_Z (Or.inl rfl)) ⟨_, _, rfl, rf_len hI hI, ?_⟩
                show am_Ok _ _ _ (28, _, [.inl (0 : Int32)], _, 0, 0) _
                refine k_fin rfl (fin_Z (Or.inl rfl)) ⟨_, _, rfl, rf_len hI hI, ?_⟩
                show am_Ok _ _ _ (55, _, [.inl (0 : Int32)], _, 0, 0) _
                refine k_c1 58 rfl rfl (if_pos (by decide)) ?_
                exact k_fin rfl rfl ⟨_, _, _, rfl, hI, hF, hA, ⟨(show (F0 8 ≤ F 8 ∧ F 8 ≤ F0 7 ∧ F0 20 ≤ F 20 ∧ F 20 ≤ 30 ∧ F 21 = F0 21 ∧ F0 23 ≤ F 23 ∧ F 23 ≤ 1000000 ∧ (F 9 = 2 → 0 ≤ F 11 ∧ F 11 ≤ 9) ∧ 0 ≤ F 9 ∧ F 9 ≤ 4) by omega), (show (F 6 = 0 → F 20 = F0 20 ∧ F0 6 = 0 ∧ (F 9 = 0 ∨ F0 8 < F 8)) by omega), fun z => absurd (show F 6 = 0 from z) (by omega)⟩⟩
          · refine k_c2 37 rfl rfl (if_neg b14) ?_
            have b14 := mt iv_lt.mpr b14
            refine k_aload 38 rfl g0 rfl ?_
            refine r_gI hI 41 rfl rfl rfl (fun x278 (e279 : x278.toInt = F 20) => ?_)
            refine k_push 43 rfl rfl ?_
            have hc280 : (30 : Int32).toInt = 30 := by decide
            by_cases b281 : (30 : Int32) ≤ x278
            · refine k_c2 50 rfl rfl (if_pos b281) ?_
              have b281 := iv_le.mp b281
              refine k_push 51 rfl rfl ?_
              have hc282 : (0 : Int32).toInt = 0 := by decide
              refine k_push 52 rfl rfl ?_
              have hc283 : (2 : Int32).toInt = 2 := by decide
              refine k_in (d := 1) rfl (Nat.ble_eq_true_of_le (by omega)) rfl rfl hI.rc ?_
              refine k_aload 1 rfl rfl rfl ?_
              refine k_in (d := 0) rfl (Nat.ble_eq_true_of_le (by omega)) rfl rfl hI.rc ?_
              refine k_aload 1 rfl rfl rfl ?_
              refine r_gI hI 4 rfl rfl rfl (fun x284 (e285 : x284.toInt = F 6) => ?_)
              by_cases b286 : x284 = 0
              · refine k_c1 7 rfl rfl (if_pos b286) ?_
                have b286 := iv_eq0.mp b286
                refine k_push 8 rfl rfl ?_
                refine k_goto 12 rfl rfl ?_
                refine k_fin rfl (fin_Z (Or.inr rfl)) ⟨_, _, rfl, rf_len hI hI, ?_⟩
                show am_Ok _ _ _ (4, _, [.inl (1 : Int32)], _, 0, 0) _
                refine k_c1 7 rfl rfl (if_neg (by decide)) ?_
                refine k_iload 8 rfl rfl rfl ?_
                refine k_c1 11 rfl rfl (if_pos (by decide)) ?_
                refine k_aload 12 rfl rfl rfl ?_
                refine k_iload 13 rfl rfl rfl ?_
                refine r_pI hI 16 rfl rfl rfl (fun h287 I288 => ?_)
                refine k_aload 17 rfl rfl rfl ?_
                refine k_aload 18 rfl rfl rfl ?_
                refine r_gI I288 21 rfl rfl rfl (fun x289 (e290 : x289.toInt = F 10) => ?_)
                refine r_pI I288 24 rfl rfl rfl (fun h291 I292 => ?_)
                refine k_aload 25 rfl rfl rfl ?_
                refine k_in (d := 0) rfl (Nat.ble_eq_true_of_le (by omega)) rfl rfl I292.rc ?_
                refine k_aload 1 rfl rfl rfl ?_
                refine r_gI I292 4 rfl rfl rfl (fun x293 (e294 : x293.toInt = (2 : Int32).toInt) => ?_)
                by_cases b295 : x293 = 0
                · refine k_c1 7 rfl rfl (if_pos b295) ?_
                  have b295 := iv_eq0.mp b295
                  refine k_push 8 rfl rfl ?_
                  refine k_goto 12 rfl rfl ?_
                  refine k_fin rfl (fin_Z (Or.inr rfl)) ⟨_, _, rfl, rf_len I292 I292, ?_⟩
                  show am_Ok _ _ _ (28, _, [.inl (1 : Int32)], _, 0, 0) _
                  refine k_fin rfl (fin_Z (Or.inr rfl)) ⟨_, _, rfl, rf_len hI I292, ?_⟩
                  show am_Ok _ _ _ (55, _, [.inl (1 : Int32)], _, 0, 0) _
                  refine k_c1 59 rfl rfl (if_neg (by decide)) ?_
                  refine k_aload 60 rfl g0 rfl ?_
                  refine r_gA I292 63 rfl rfl rfl ?_
                  refine k_aload 64 rfl g0 rfl ?_
                  refine r_gI I292 67 rfl rfl rfl (fun x296 (e297 : x296.toInt = F 20) => ?_)
                  refine k_aload 68 rfl g0 rfl ?_
                  refine r_gJ I292 71 rfl rfl rfl (fun y298 => ?_)
                  refine r_lst 19 I292 72 rfl rfl (by omega) (show x296.toInt < 31 by omega) rfl (fun h299 I300 => ?_)
                  refine k_aload 73 rfl g0 rfl ?_
                  refine k_dup 74 rfl rfl rfl ?_
                  refine r_gI I300 77 rfl rfl rfl (fun x301 (e302 : x301.toInt = F 20) => ?_)
                  refine k_push 78 rfl rfl ?_
                  obtain ⟨x303, q304⟩ : ∃ q : Int32, q = (x301 + (1 : Int32)) := ⟨_, rfl⟩
                  have e305 : x303.toInt = x301.toInt + 1 := by rw [q304, iv_add (by omega) (by omega)]; omega
                  refine k_bin x303 79 rfl q304.symm rfl ?_
                  refine r_pI I300 82 rfl rfl rfl (fun h306 I307 => ?_)
                  obtain ⟨x308, q309⟩ : ∃ q : Int32, q = v1 + (1 : Int32) := ⟨_, rfl⟩
                  have e310 : x308.toInt = v1.toInt + 1 := by rw [q309, iv_add (by omega) (by omega)]; omega
                  refine k_iinc x308 85 rfl g1 q309.symm rfl ?_
                  refine k_aload 86 rfl (gs_ne rfl rfl g0) rfl ?_
                  refine k_push 87 rfl rfl ?_
                  refine k_rv I307 rfl (m_emits  I307.1 (show 0 ≤ (F 23) ∧ (F 23) ≤ 1000000 by omega)) (Nat.ble_eq_true_of_le (by omega)) rfl rfl I307.rc ?_
                  rintro h312 F313 A314 I315 ⟨k317, k318, p316⟩
                  replace p316 : ((F 23) ≤ F313 23 ∧ F313 23 ≤ 1000000) ∧ (F313 23 ≤ 124 → F313 23 = (F 23) + 1) ∧ (F313 23 ≤ 124 → A314 22 ((F 23)) = (1 : Int32).toInt ∧ ∀ q : Int, q ≠ (F 23) → A314 22 q = (A 22) q) := p316
                  obtain ⟨p316a, p316b, p316c⟩ := p316
                  show am_Ok _ _ _ (90, _, [], _, 0, 0) _
                  have hfu : F313 23 ≤ 124 → fu (A314 22) (A0 22) (F0 23) (F313 23) (v1.toInt + 1) := fun z9 => fu_s (i2 (by omega)) (p316b z9) ((p316c z9).1.trans (by decide)) (p316c z9).2 (by omega) rfl
                  refine k_aload 91 rfl (gs_ne rfl rfl g0) rfl ?_
                  have e319 : F313 8 = F 8 := k317 8 (by decide)
                  have e320 : F313 7 = F 7 := k317 7 (by decide)
                  have e321 : F 7 = F0 7 := hF 7 (by decide)
                  refine k_rv I315 rfl (m_goes  I315.1 (show 0 ≤ (F313 8) ∧ (F313 8) ≤ (F313 7) ∧ (F313 7) ≤ 700 by omega)) (Nat.ble_eq_true_of_le (by omega)) rfl rfl I315.rc ?_
                  rintro h323 F324 A325 I326 ⟨k328, k329, p327⟩
                  replace p327 : ((F313 8) ≤ F324 8 ∧ F324 8 ≤ (F313 7)) ∧ (F324 9 = 0 ∨ (F313 8) < F324 8) ∧ (F324 9 = 2 → 0 ≤ F324 11 ∧ F324 11 ≤ 9) ∧ (0 ≤ F324 9 ∧ F324 9 ≤ 4) := p327
                  obtain ⟨p327a, p327b, p327c, p327d⟩ := p327
                  have k329 := fr2.nil k329
                  subst k329
                  show am_Ok _ _ _ (94, _, [], _, 0, 0) _
                  refine k_aload 95 rfl (gs_ne rfl rfl g0) rfl ?_
                  refine k_in (d := 0) rfl (Nat.ble_eq_true_of_le (by omega)) rfl rfl I326.rc ?_
                  refine k_aload 1 rfl rfl rfl ?_
                  refine r_gI I326 4 rfl rfl rfl (fun x330 (e331 : x330.toInt = F324 6) => ?_)
                  have e332 : F324 6 = F313 6 := k328 6 (by decide)
                  have e333 : F313 6 = (2 : Int32).toInt := k317 6 (by decide)
                  by_cases b334 : x330 = 0
                  · refine k_c1 7 rfl rfl (if_pos b334) ?_
                    have b334 := iv_eq0.mp b334
                    refine k_push 8 rfl rfl ?_
                    refine k_goto 12 rfl rfl ?_
                    refine k_fin rfl (fin_Z (Or.inr rfl)) ⟨_, _, rfl, rf_len I326 I326, ?_⟩
                    show am_Ok _ _ _ (98, _, [.inl (1 : Int32)], _, 0, 0) _
                    refine k_c1 101 rfl rfl (if_neg (by decide)) ?_
                    refine k_aload 102 rfl (gs_ne rfl rfl g0) rfl ?_
                    refine r_gI I326 105 rfl rfl rfl (fun x335 (e336 : x335.toInt = F324 9) => ?_)
                    refine k_push 106 rfl rfl ?_
                    by_cases b337 : x335 = (1 : Int32)
                    · refine k_c2 6 rfl rfl (if_pos b337) ?_
                      have b337 := iv_eq.mp b337
                      have e338 : F324 20 = F313 20 := k328 20 (by decide)
                      have e339 : F313 20 = x303.toInt := k317 20 (by decide)
                      have e340 : F324 21 = F313 21 := k328 21 (by decide)
                      have e341 : F313 21 = F 21 := k317 21 (by decide)
                      have e342 : F324 23 = F313 23 := k328 23 (by decide)
                      exact ih _ (show ((31 - x308.toInt).toNat) < n by omega)  rfl (gs_ne rfl rfl g0) gs_eq I326 (fr1.tr (by decide) (fr1.tr (by decide) (fr1.up (by decide) (fr1.up (by decide) (fr1.up (by decide) hF))) k317) k328) (fr2.tr (by decide) hA k318) (show F0 8 ≤ (F324 8) ∧ (F324 8) ≤ F0 7 ∧ (F324 20) = F0 20 + x308.toInt ∧ 0 ≤ x308.toInt ∧ (F324 20) ≤ 30 ∧ (F324 21) = F0 21 ∧ F0 23 ≤ (F324 23) ∧ (F324 23) ≤ 1000000 ∧ ((F324 9) = 2 → 0 ≤ (F324 11) ∧ (F324 11) ≤ 9) ∧ 0 ≤ (F324 9) ∧ (F324 9) ≤ 4 ∧ (F324 6) = 0 by omega) (fun z => by have z9 : F324 23 ≤ 124 := z; show fu (A314 22) (A0 22) (F0 23) (F324 23) x308.toInt; exact fu_cg (hfu (by omega)) (by omega) (by omega))
                    · refine k_c2 109 rfl rfl (if_neg b337) ?_
                      have b337 := mt iv_eq.mpr b337
                      refine k_aload 110 rfl (gs_ne rfl rfl g0) rfl ?_
                      refine k_push 112 rfl rfl ?_
                      have hc343 : (46 : Int32).toInt = 46 := by decide
                      have e344 : F324 7 = F313 7 := k328 7 (by decide)
                      refine k_rv I326 rfl (m_must  I326.1 (show 0 ≤ (F324 8) ∧ (F324 8) ≤ (F324 7) ∧ (F324 7) ≤ 700 ∧ ((F324 9) = 2 → 0 ≤ (F324 11) ∧ (F324 11) ≤ 9) ∧ 0 ≤ (F324 9) ∧ (F324 9) ≤ 4 by omega)) (Nat.ble_eq_true_of_le (by omega)) rfl rfl I326.rc ?_
                      rintro h346 F347 A348 I349 ⟨k351, k352, p350⟩
                      replace p350 : ((F324 8) ≤ F347 8 ∧ F347 8 ≤ (F324 7)) ∧ (F347 6 = 0 → (F324 6) = 0 ∧ (F347 9 = 0 ∨ (F324 8) < F347 8)) ∧ (F347 9 = 2 → 0 ≤ F347 11 ∧ F347 11 ≤ 9) ∧ (0 ≤ F347 9 ∧ F347 9 ≤ 4) := p350
                      obtain ⟨p350a, p350b, p350c, p350d⟩ := p350
                      have k352 := fr2.nil k352
                      subst k352
                      show am_Ok _ _ _ (115, _, [], _, 0, 0) _
                      refine k_aload 116 rfl (gs_ne rfl rfl g0) rfl ?_
                      have e353 : F347 7 = F324 7 := k351 7 (by decide)
                      have e354 : F347 20 = F324 20 := k351 20 (by decide)
                      have e355 : F324 20 = F313 20 := k328 20 (by decide)
                      have e356 : F313 20 = x303.toInt := k317 20 (by decide)
                      have e357 : F347 21 = F324 21 := k351 21 (by decide)
                      have e358 : F324 21 = F313 21 := k328 21 (by decide)
                      have e359 : F313 21 = F 21 := k317 21 (by decide)
                      have e360 : F347 18 = F324 18 := k351 18 (by decide)
                      have e361 : F324 18 = F313 18 := k328 18 (by decide)
                      have e362 : F313 18 = F 18 := k317 18 (by decide)
                      have e363 : F 18 = F0 18 := hF 18 (by decide)
                      have e364 : F347 23 = F324 23 := k351 23 (by decide)
                      have e365 : F324 23 = F313 23 := k328 23 (by decide)
                      refine k_rv I349 rfl (hrec  I349.1 (show 0 ≤ (F347 8) ∧ (F347 8) ≤ (F347 7) ∧ (F347 7) ≤ 700 ∧ 0 ≤ (F347 20) ∧ (F347 20) ≤ 30 ∧ 0 ≤ (F347 21) ∧ (F347 21) ≤ 12 ∧ 0 ≤ (F347 18) ∧ (F347 18) ≤ 12 ∧ 0 ≤ (F347 23) ∧ (F347 23) ≤ 1000000 ∧ ((F347 9) = 2 → 0 ≤ (F347 11) ∧ (F347 11) ≤ 9) ∧ 0 ≤ (F347 9) ∧ (F347 9) ≤ 4 by omega) (show nm ((A314 16)) ((A314 17)) ((F347 18)) by rw [((k318 16 (by decide)).trans (hA 16 (by decide))), ((k318 17 (by decide)).trans (hA 17 (by decide))), ((k351 18 (by decide)).trans ((k328 18 (by decide)).trans ((k317 18 (by decide)).trans (hF 18 (by decide)))))]; exact p2) (show (12 - (F347 21)) + (30 - (F347 20)) < (gk : Int) by omega)) (Nat.ble_eq_true_of_le (by omega)) rfl rfl I349.rc ?_
                      rintro h367 F368 A369 I370 ⟨k372, k373, p371⟩
                      replace p371 : ((F347 8) ≤ F368 8 ∧ F368 8 ≤ (F347 7) ∧ (F347 20) ≤ F368 20 ∧ F368 20 ≤ 30 ∧ F368 21 = (F347 21) ∧ (F347 23) ≤ F368 23 ∧ F368 23 ≤ 1000000 ∧ (F368 9 = 2 → 0 ≤ F368 11 ∧ F368 11 ≤ 9) ∧ 0 ≤ F368 9 ∧ F368 9 ≤ 4) ∧ (F368 6 = 0 → F368 20 = (F347 20) ∧ (F347 6) = 0 ∧ (F368 9 = 0 ∨ (F347 8) < F368 8)) ∧ (F368 6 = 0 → F368 23 ≤ 124 → rd1 (A369 22) ((A314 22)) ((F347 23)) (F368 23) ((F347 20))) := p371
                      obtain ⟨p371a, p371b, p371c⟩ := p371
                      show am_Ok _ _ _ (119, _, [], _, 0, 0) _
                      refine k_aload 120 rfl (gs_ne rfl rfl g0) rfl ?_
                      refine k_dup 121 rfl rfl rfl ?_
                      refine r_gI I370 124 rfl rfl rfl (fun x374 (e375 : x374.toInt = F368 20) => ?_)
                      refine k_iload 125 rfl gs_eq rfl ?_
                      obtain ⟨x376, q377⟩ : ∃ q : Int32, q = (x374 - x308) := ⟨_, rfl⟩
                      have e378 : x376.toInt = x374.toInt - x308.toInt := by rw [q377, iv_sub (by omega) (by omega)]
                      refine k_bin x376 126 rfl q377.symm rfl ?_
                      refine r_pI I370 129 rfl rfl rfl (fun h379 I380 => ?_)
                      exact k_fin rfl rfl ⟨_, _, _, rfl, I380, (fr1.up (by decide) (fr1.tr (by decide) (fr1.tr (by decide) (fr1.tr (by decide) (fr1.tr (by decide) (fr1.up (by decide) (fr1.up (by decide) (fr1.up (by decide) hF))) k317) k328) k351) k372)), (fr2.tr (by decide) (fr2.tr (by decide) hA k318) k373), ⟨(show (F0 8 ≤ F368 8 ∧ F368 8 ≤ F0 7 ∧ F0 20 ≤ x376.toInt ∧ x376.toInt ≤ 30 ∧ F368 21 = F0 21 ∧ F0 23 ≤ F368 23 ∧ F368 23 ≤ 1000000 ∧ (F368 9 = 2 → 0 ≤ F368 11 ∧ F368 11 ≤ 9) ∧ 0 ≤ F368 9 ∧ F368 9 ≤ 4) by omega), (show (F368 6 = 0 → x376.toInt = F0 20 ∧ F0 6 = 0 ∧ (F368 9 = 0 ∨ F0 8 < F368 8)) by omega), fun z1 z2 => by have z8 : F368 6 = 0 := z1; have z9 : F368 23 ≤ 124 := z2; have h9 := p371c (by omega) (by omega); show rd1 (A369 22) (A0 22) (F0 23) (F368 23) (F0 20); exact fu_end (hfu (by omega)) (by omega) (rd_cg h9 (by omega) (by omega) rfl) (by omega)⟩⟩
                  · refine k_c1 11 rfl rfl (if_neg b334) ?_
                    have b334 := mt iv_eq0.mpr b334
                    refine k_push 12 rfl rfl ?_
                    refine k_fin rfl (fin_Z (Or.inl rfl)) ⟨_, _, rfl, rf_len I326 I326, ?_⟩
                    show am_Ok _ _ _ (98, _, [.inl (0 : Int32)], _, 0, 0) _
                    refine k_c1 109 rfl rfl (if_pos (by decide)) ?_
                    refine k_aload 110 rfl (gs_ne rfl rfl g0) rfl ?_
                    refine k_push 112 rfl rfl ?_
                    have hc381 : (46 : Int32).toInt = 46 := by decide
                    have e382 : F324 7 = F313 7 := k328 7 (by decide)
                    refine k_rv I326 rfl (m_must  I326.1 (show 0 ≤ (F324 8) ∧ (F324 8) ≤ (F324 7) ∧ (F324 7) ≤ 700 ∧ ((F324 9) = 2 → 0 ≤ (F324 11) ∧ (F324 11) ≤ 9) ∧ 0 ≤ (F324 9) ∧ (F324 9) ≤ 4 by omega)) (Nat.ble_eq_true_of_le (by omega)) rfl rfl I326.rc ?_
                    rintro h384 F385 A386 I387 ⟨k389, k390, p388⟩
                    replace p388 : ((F324 8) ≤ F385 8 ∧ F385 8 ≤ (F324 7)) ∧ (F385 6 = 0 → (F324 6) = 0 ∧ (F385 9 = 0 ∨ (F324 8) < F385 8)) ∧ (F385 9 = 2 → 0 ≤ F385 11 ∧ F385 11 ≤ 9) ∧ (0 ≤ F385 9 ∧ F385 9 ≤ 4) := p388
                    obtain ⟨p388a, p388b, p388c, p388d⟩ := p388
                    have k390 := fr2.nil k390
                    subst k390
                    show am_Ok _ _ _ (115, _, [], _, 0, 0) _
                    refine k_aload 116 rfl (gs_ne rfl rfl g0) rfl ?_
                    have e391 : F385 7 = F324 7 := k389 7 (by decide)
                    have e392 : F385 20 = F324 20 := k389 20 (by decide)
                    have e393 : F324 20 = F313 20 := k328 20 (by decide)
                    have e394 : F313 20 = x303.toInt := k317 20 (by decide)
                    have e395 : F385 21 = F324 21 := k389 21 (by decide)
                    have e396 : F324 21 = F313 21 := k328 21 (by decide)
                    have e397 : F313 21 = F 21 := k317 21 (by decide)
                    have e398 : F385 18 = F324 18 := k389 18 (by decide)
                    have e399 : F324 18 = F313 18 := k328 18 (by decide)
                    have e400 : F313 18 = F 18 := k317 18 (by decide)
                    have e401 : F 18 = F0 18 := hF 18 (by decide)
                    have e402 : F385 23 = F324 23 := k389 23 (by decide)
                    have e403 : F324 23 = F313 23 := k328 23 (by decide)
                    refine k_rv I387 rfl (hrec  I387.1 (show 0 ≤ (F385 8) ∧ (F385 8) ≤ (F385 7) ∧ (F385 7) ≤ 700 ∧ 0 ≤ (F385 20) ∧ (F385 20) ≤ 30 ∧ 0 ≤ (F385 21) ∧ (F385 21) ≤ 12 ∧ 0 ≤ (F385 18) ∧ (F385 18) ≤ 12 ∧ 0 ≤ (F385 23) ∧ (F385 23) ≤ 1000000 ∧ ((F385 9) = 2 → 0 ≤ (F385 11) ∧ (F385 11) ≤ 9) ∧ 0 ≤ (F385 9) ∧ (F385 9) ≤ 4 by omega) (show nm ((A314 16)) ((A314 17)) ((F385 18)) by rw [((k318 16 (by decide)).trans (hA 16 (by decide))), ((k318 17 (by decide)).trans (hA 17 (by decide))), ((k389 18 (by decide)).trans ((k328 18 (by decide)).trans ((k317 18 (by decide)).trans (hF 18 (by decide)))))]; exact p2) (show (12 - (F385 21)) + (30 - (F385 20)) < (gk : Int) by omega)) (Nat.ble_eq_true_of_le (by omega)) rfl rfl I387.rc ?_
                    rintro h405 F406 A407 I408 ⟨k410, k411, p409⟩
                    replace p409 : ((F385 8) ≤ F406 8 ∧ F406 8 ≤ (F385 7) ∧ (F385 20) ≤ F406 20 ∧ F406 20 ≤ 30 ∧ F406 21 = (F385 21) ∧ (F385 23) ≤ F406 23 ∧ F406 23 ≤ 1000000 ∧ (F406 9 = 2 → 0 ≤ F406 11 ∧ F406 11 ≤ 9) ∧ 0 ≤ F406 9 ∧ F406 9 ≤ 4) ∧ (F406 6 = 0 → F406 20 = (F385 20) ∧ (F385 6) = 0 ∧ (F406 9 = 0 ∨ (F385 8) < F406 8)) ∧ (F406 6 = 0 → F406 23 ≤ 124 → rd1 (A407 22) ((A314 22)) ((F385 23)) (F406 23) ((F385 20))) := p409
                    obtain ⟨p409a, p409b, p409c⟩ := p409
                    show am_Ok _ _ _ (119, _, [], _, 0, 0) _
                    refine k_aload 120 rfl (gs_ne rfl rfl g0) rfl ?_
                    refine k_dup 121 rfl rfl rfl ?_
                    refine r_gI I408 124 rfl rfl rfl (fun x412 (e413 : x412.toInt = F406 20) => ?_)
                    refine k_iload 125 rfl gs_eq rfl ?_
                    obtain ⟨x414, q415⟩ : ∃ q : Int32, q = (x412 - x308) := ⟨_, rfl⟩
                    have e416 : x414.toInt = x412.toInt - x308.toInt := by rw [q415, iv_sub (by omega) (by omega)]
                    refine k_bin x414 126 rfl q415.symm rfl ?_
                    refine r_pI I408 129 rfl rfl rfl (fun h417 I418 => ?_)
                    exact k_fin rfl rfl ⟨_, _, _, rfl, I418, (fr1.up (by decide) (fr1.tr (by decide) (fr1.tr (by decide) (fr1.tr (by decide) (fr1.tr (by decide) (fr1.up (by decide) (fr1.up (by decide) (fr1.up (by decide) hF))) k317) k328) k389) k410)), (fr2.tr (by decide) (fr2.tr (by decide) hA k318) k411), ⟨(show (F0 8 ≤ F406 8 ∧ F406 8 ≤ F0 7 ∧ F0 20 ≤ x414.toInt ∧ x414.toInt ≤ 30 ∧ F406 21 = F0 21 ∧ F0 23 ≤ F406 23 ∧ F406 23 ≤ 1000000 ∧ (F406 9 = 2 → 0 ≤ F406 11 ∧ F406 11 ≤ 9) ∧ 0 ≤ F406 9 ∧ F406 9 ≤ 4) by omega), (show (F406 6 = 0 → x414.toInt = F0 20 ∧ F0 6 = 0 ∧ (F406 9 = 0 ∨ F0 8 < F406 8)) by omega), fun z1 z2 => by have z8 : F406 6 = 0 := z1; have z9 : F406 23 ≤ 124 := z2; have h9 := p409c (by omega) (by omega); show rd1 (A407 22) (A0 22) (F0 23) (F406 23) (F0 20); exact fu_end (hfu (by omega)) (by omega) (rd_cg h9 (by omega) (by omega) rfl) (by omega)⟩⟩
                · refine k_c1 11 rfl rfl (if_neg b295) ?_
                  have b295 := mt iv_eq0.mpr b295
                  refine k_push 12 rfl rfl ?_
                  refine k_fin rfl (fin_Z (Or.inl rfl)) ⟨_, _, rfl, rf_len I292 I292, ?_⟩
                  show am_Ok _ _ _ (28, _, [.inl (0 : Int32)], _, 0, 0) _
                  refine k_fin rfl (fin_Z (Or.inl rfl)) ⟨_, _, rfl, rf_len hI I292, ?_⟩
                  show am_Ok _ _ _ (55, _, [.inl (0 : Int32)], _, 0, 0) _
                  refine k_c1 58 rfl rfl (if_pos (by decide)) ?_
                  exact k_fin rfl rfl ⟨_, _, _, rfl, I292, (fr1.up (by decide) (fr1.up (by decide) hF)), hA, ⟨(show (F0 8 ≤ F 8 ∧ F 8 ≤ F0 7 ∧ F0 20 ≤ F 20 ∧ F 20 ≤ 30 ∧ F 21 = F0 21 ∧ F0 23 ≤ F 23 ∧ F 23 ≤ 1000000 ∧ (F 9 = 2 → 0 ≤ F 11 ∧ F 11 ≤ 9) ∧ 0 ≤ F 9 ∧ F 9 ≤ 4) by omega), (show ((2 : Int32).toInt = 0 → F 20 = F0 20 ∧ F0 6 = 0 ∧ (F 9 = 0 ∨ F0 8 < F 8)) by omega), fun z => absurd (show (2 : Int32).toInt = 0 from z) (by omega)⟩⟩
              · refine k_c1 11 rfl rfl (if_neg b286) ?_
                have b286 := mt iv_eq0.mpr b286
                refine k_push 12 rfl rfl ?_
                refine k_fin rfl (fin_Z (Or.inl rfl)) ⟨_, _, rfl, rf_len hI hI, ?_⟩
                show am_Ok _ _ _ (4, _, [.inl (0 : Int32)], _, 0, 0) _
                refine k_c1 24 rfl rfl (if_pos (by decide)) ?_
                refine k_aload 25 rfl rfl rfl ?_
                refine k_in (d := 0) rfl (Nat.ble_eq_true_of_le (by omega)) rfl rfl hI.rc ?_
                refine k_aload 1 rfl rfl rfl ?_
                refine r_gI hI 4 rfl rfl rfl (fun x419 (e420 : x419.toInt = F 6) => ?_)
                by_cases b421 : x419 = 0
                · refine k_c1 7 rfl rfl (if_pos b421) ?_
                  have b421 := iv_eq0.mp b421
                  refine k_push 8 rfl rfl ?_
                  refine k_goto 12 rfl rfl ?_
                  refine k_fin rfl (fin_Z (Or.inr rfl)) ⟨_, _, rfl, rf_len hI hI, ?_⟩
                  show am_Ok _ _ _ (28, _, [.inl (1 : Int32)], _, 0, 0) _
                  refine k_fin rfl (fin_Z (Or.inr rfl)) ⟨_, _, rfl, rf_len hI hI, ?_⟩
                  show am_Ok _ _ _ (55, _, [.inl (1 : Int32)], _, 0, 0) _
                  refine k_c1 59 rfl rfl (if_neg (by decide)) ?_
                  refine k_aload 60 rfl g0 rfl ?_
                  refine r_gA hI 63 rfl rfl rfl ?_
                  refine k_aload 64 rfl g0 rfl ?_
                  refine r_gI hI 67 rfl rfl rfl (fun x422 (e423 : x422.toInt = F 20) => ?_)
                  refine k_aload 68 rfl g0 rfl ?_
                  refine r_gJ hI 71 rfl rfl rfl (fun y424 => ?_)
                  refine r_lst 19 hI 72 rfl rfl (by omega) (show x422.toInt < 31 by omega) rfl (fun h425 I426 => ?_)
                  refine k_aload 73 rfl g0 rfl ?_
                  refine k_dup 74 rfl rfl rfl ?_
                  refine r_gI I426 77 rfl rfl rfl (fun x427 (e428 : x427.toInt = F 20) => ?_)
                  refine k_push 78 rfl rfl ?_
                  obtain ⟨x429, q430⟩ : ∃ q : Int32, q = (x427 + (1 : Int32)) := ⟨_, rfl⟩
                  have e431 : x429.toInt = x427.toInt + 1 := by rw [q430, iv_add (by omega) (by omega)]; omega
                  refine k_bin x429 79 rfl q430.symm rfl ?_
                  refine r_pI I426 82 rfl rfl rfl (fun h432 I433 => ?_)
                  obtain ⟨x434, q435⟩ : ∃ q : Int32, q = v1 + (1 : Int32) := ⟨_, rfl⟩
                  have e436 : x434.toInt = v1.toInt + 1 := by rw [q435, iv_add (by omega) (by omega)]; omega
                  refine k_iinc x434 85 rfl g1 q435.symm rfl ?_
                  refine k_aload 86 rfl (gs_ne rfl rfl g0) rfl ?_
                  refine k_push 87 rfl rfl ?_
                  refine k_rv I433 rfl (m_emits  I433.1 (show 0 ≤ (F 23) ∧ (F 23) ≤ 1000000 by omega)) (Nat.ble_eq_true_of_le (by omega)) rfl rfl I433.rc ?_
                  rintro h438 F439 A440 I441 ⟨k443, k444, p442⟩
                  replace p442 : ((F 23) ≤ F439 23 ∧ F439 23 ≤ 1000000) ∧ (F439 23 ≤ 124 → F439 23 = (F 23) + 1) ∧ (F439 23 ≤ 124 → A440 22 ((F 23)) = (1 : Int32).toInt ∧ ∀ q : Int, q ≠ (F 23) → A440 22 q = (A 22) q) := p442
                  obtain ⟨p442a, p442b, p442c⟩ := p442
                  show am_Ok _ _ _ (90, _, [], _, 0, 0) _
                  have hfu : F439 23 ≤ 124 → fu (A440 22) (A0 22) (F0 23) (F439 23) (v1.toInt + 1) := fun z9 => fu_s (i2 (by omega)) (p442b z9) ((p442c z9).1.trans (by decide)) (p442c z9).2 (by omega) rfl
                  refine k_aload 91 rfl (gs_ne rfl rfl g0) rfl ?_
                  have e445 : F439 8 = F 8 := k443 8 (by decide)
                  have e446 : F439 7 = F 7 := k443 7 (by decide)
                  have e447 : F 7 = F0 7 := hF 7 (by decide)
                  refine k_rv I441 rfl (m_goes  I441.1 (show 0 ≤ (F439 8) ∧ (F439 8) ≤ (F439 7) ∧ (F439 7) ≤ 700 by omega)) (Nat.ble_eq_true_of_le (by omega)) rfl rfl I441.rc ?_
                  rintro h449 F450 A451 I452 ⟨k454, k455, p453⟩
                  replace p453 : ((F439 8) ≤ F450 8 ∧ F450 8 ≤ (F439 7)) ∧ (F450 9 = 0 ∨ (F439 8) < F450 8) ∧ (F450 9 = 2 → 0 ≤ F450 11 ∧ F450 11 ≤ 9) ∧ (0 ≤ F450 9 ∧ F450 9 ≤ 4) := p453
                  obtain ⟨p453a, p453b, p453c, p453d⟩ := p453
                  have k455 := fr2.nil k455
                  subst k455
                  show am_Ok _ _ _ (94, _, [], _, 0, 0) _
                  refine k_aload 95 rfl (gs_ne rfl rfl g0) rfl ?_
                  refine k_in (d := 0) rfl (Nat.ble_eq_true_of_le (by omega)) rfl rfl I452.rc ?_
                  refine k_aload 1 rfl rfl rfl ?_
                  refine r_gI I452 4 rfl rfl rfl (fun x456 (e457 : x456.toInt = F450 6) => ?_)
                  have e458 : F450 6 = F439 6 := k454 6 (by decide)
                  have e459 : F439 6 = F 6 := k443 6 (by decide)
                  by_cases b460 : x456 = 0
                  · refine k_c1 7 rfl rfl (if_pos b460) ?_
                    have b460 := iv_eq0.mp b460
                    refine k_push 8 rfl rfl ?_
                    refine k_goto 12 rfl rfl ?_
                    refine k_fin rfl (fin_Z (Or.inr rfl)) ⟨_, _, rfl, rf_len I452 I452, ?_⟩
                    show am_Ok _ _ _ (98, _, [.inl (1 : Int32)], _, 0, 0) _
                    refine k_c1 101 rfl rfl (if_neg (by decide)) ?_
                    refine k_aload 102 rfl (gs_ne rfl rfl g0) rfl ?_
                    refine r_gI I452 105 rfl rfl rfl (fun x461 (e462 : x461.toInt = F450 9) => ?_)
                    refine k_push 106 rfl rfl ?_
                    by_cases b463 : x461 = (1 : Int32)
                    · refine k_c2 6 rfl rfl (if_pos b463) ?_
                      have b463 := iv_eq.mp b463
                      have e464 : F450 20 = F439 20 := k454 20 (by decide)
                      have e465 : F439 20 = x429.toInt := k443 20 (by decide)
                      have e466 : F450 21 = F439 21 := k454 21 (by decide)
                      have e467 : F439 21 = F 21 := k443 21 (by decide)
                      have e468 : F450 23 = F439 23 := k454 23 (by decide)
                      exact ih _ (show ((31 - x434.toInt).toNat) < n by omega)  rfl (gs_ne rfl rfl g0) gs_eq I452 (fr1.tr (by decide) (fr1.tr (by decide) (fr1.up (by decide) hF) k443) k454) (fr2.tr (by decide) hA k444) (show F0 8 ≤ (F450 8) ∧ (F450 8) ≤ F0 7 ∧ (F450 20) = F0 20 + x434.toInt ∧ 0 ≤ x434.toInt ∧ (F450 20) ≤ 30 ∧ (F450 21) = F0 21 ∧ F0 23 ≤ (F450 23) ∧ (F450 23) ≤ 1000000 ∧ ((F450 9) = 2 → 0 ≤ (F450 11) ∧ (F450 11) ≤ 9) ∧ 0 ≤ (F450 9) ∧ (F450 9) ≤ 4 ∧ (F450 6) = 0 by omega) (fun z => by have z9 : F450 23 ≤ 124 := z; show fu (A440 22) (A0 22) (F0 23) (F450 23) x434.toInt; exact fu_cg (hfu (by omega)) (by omega) (by omega))
                    · refine k_c2 109 rfl rfl (if_neg b463) ?_
                      have b463 := mt iv_eq.mpr b463
                      refine k_aload 110 rfl (gs_ne rfl rfl g0) rfl ?_
                      refine k_push 112 rfl rfl ?_
                      have hc469 : (46 : Int32).toInt = 46 := by decide
                      have e470 : F450 7 = F439 7 := k454 7 (by decide)
                      refine k_rv I452 rfl (m_must  I452.1 (show 0 ≤ (F450 8) ∧ (F450 8) ≤ (F450 7) ∧ (F450 7) ≤ 700 ∧ ((F450 9) = 2 → 0 ≤ (F450 11) ∧ (F450 11) ≤ 9) ∧ 0 ≤ (F450 9) ∧ (F450 9) ≤ 4 by omega)) (Nat.ble_eq_true_of_le (by omega)) rfl rfl I452.rc ?_
                      rintro h472 F473 A474 I475 ⟨k477, k478, p476⟩
                      replace p476 : ((F450 8) ≤ F473 8 ∧ F473 8 ≤ (F450 7)) ∧ (F473 6 = 0 → (F450 6) = 0 ∧ (F473 9 = 0 ∨ (F450 8) < F473 8)) ∧ (F473 9 = 2 → 0 ≤ F473 11 ∧ F473 11 ≤ 9) ∧ (0 ≤ F473 9 ∧ F473 9 ≤ 4) := p476
                      obtain ⟨p476a, p476b, p476c, p476d⟩ := p476
                      have k478 := fr2.nil k478
                      subst k478
                      show am_Ok _ _ _ (115, _, [], _, 0, 0) _
                      refine k_aload 116 rfl (gs_ne rfl rfl g0) rfl ?_
                      have e479 : F473 7 = F450 7 := k477 7 (by decide)
                      have e480 : F473 20 = F450 20 := k477 20 (by decide)
                      have e481 : F450 20 = F439 20 := k454 20 (by decide)
                      have e482 : F439 20 = x429.toInt := k443 20 (by decide)
                      have e483 : F473 21 = F450 21 := k477 21 (by decide)
                      have e484 : F450 21 = F439 21 := k454 21 (by decide)
                      have e485 : F439 21 = F 21 := k443 21 (by decide)
                      have e486 : F473 18 = F450 18 := k477 18 (by decide)
                      have e487 : F450 18 = F439 18 := k454 18 (by decide)
                      have e488 : F439 18 = F 18 := k443 18 (by decide)
                      have e489 : F 18 = F0 18 := hF 18 (by decide)
                      have e490 : F473 23 = F450 23 := k477 23 (by decide)
                      have e491 : F450 23 = F439 23 := k454 23 (by decide)
                      refine k_rv I475 rfl (hrec  I475.1 (show 0 ≤ (F473 8) ∧ (F473 8) ≤ (F473 7) ∧ (F473 7) ≤ 700 ∧ 0 ≤ (F473 20) ∧ (F473 20) ≤ 30 ∧ 0 ≤ (F473 21) ∧ (F473 21) ≤ 12 ∧ 0 ≤ (F473 18) ∧ (F473 18) ≤ 12 ∧ 0 ≤ (F473 23) ∧ (F473 23) ≤ 1000000 ∧ ((F473 9) = 2 → 0 ≤ (F473 11) ∧ (F473 11) ≤ 9) ∧ 0 ≤ (F473 9) ∧ (F473 9) ≤ 4 by omega) (show nm ((A440 16)) ((A440 17)) ((F473 18)) by rw [((k444 16 (by decide)).trans (hA 16 (by decide))), ((k444 17 (by decide)).trans (hA 17 (by decide))), ((k477 18 (by decide)).trans ((k454 18 (by decide)).trans ((k443 18 (by decide)).trans (hF 18 (by decide)))))]; exact p2) (show (12 - (F473 21)) + (30 - (F473 20)) < (gk : Int) by omega)) (Nat.ble_eq_true_of_le (by omega)) rfl rfl I475.rc ?_
                      rintro h493 F494 A495 I496 ⟨k498, k499, p497⟩
                      replace p497 : ((F473 8) ≤ F494 8 ∧ F494 8 ≤ (F473 7) ∧ (F473 20) ≤ F494 20 ∧ F494 20 ≤ 30 ∧ F494 21 = (F473 21) ∧ (F473 23) ≤ F494 23 ∧ F494 23 ≤ 1000000 ∧ (F494 9 = 2 → 0 ≤ F494 11 ∧ F494 11 ≤ 9) ∧ 0 ≤ F494 9 ∧ F494 9 ≤ 4) ∧ (F494 6 = 0 → F494 20 = (F473 20) ∧ (F473 6) = 0 ∧ (F494 9 = 0 ∨ (F473 8) < F494 8)) ∧ (F494 6 = 0 → F494 23 ≤ 124 → rd1 (A495 22) ((A440 22)) ((F473 23)) (F494 23) ((F473 20))) := p497
                      obtain ⟨p497a, p497b, p497c⟩ := p497
                      show am_Ok _ _ _ (119, _, [], _, 0, 0) _
                      refine k_aload 120 rfl (gs_ne rfl rfl g0) rfl ?_
                      refine k_dup 121 rfl rfl rfl ?_
                      refine r_gI I496 124 rfl rfl rfl (fun x500 (e501 : x500.toInt = F494 20) => ?_)
                      refine k_iload 125 rfl gs_eq rfl ?_
                      obtain ⟨x502, q503⟩ : ∃ q : Int32, q = (x500 - x434) := ⟨_, rfl⟩
                      have e504 : x502.toInt = x500.toInt - x434.toInt := by rw [q503, iv_sub (by omega) (by omega)]
                      refine k_bin x502 126 rfl q503.symm rfl ?_
                      refine r_pI I496 129 rfl rfl rfl (fun h505 I506 => ?_)
                      exact k_fin rfl rfl ⟨_, _, _, rfl, I506, (fr1.up (by decide) (fr1.tr (by decide) (fr1.tr (by decide) (fr1.tr (by decide) (fr1.tr (by decide) (fr1.up (by decide) hF) k443) k454) k477) k498)), (fr2.tr (by decide) (fr2.tr (by decide) hA k444) k499), ⟨(show (F0 8 ≤ F494 8 ∧ F494 8 ≤ F0 7 ∧ F0 20 ≤ x502.toInt ∧ x502.toInt ≤ 30 ∧ F494 21 = F0 21 ∧ F0 23 ≤ F494 23 ∧ F494 23 ≤ 1000000 ∧ (F494 9 = 2 → 0 ≤ F494 11 ∧ F494 11 ≤ 9) ∧ 0 ≤ F494 9 ∧ F494 9 ≤ 4) by omega), (show (F494 6 = 0 → x502.toInt = F0 20 ∧ F0 6 = 0 ∧ (F494 9 = 0 ∨ F0 8 < F494 8)) by omega), fun z1 z2 => by have z8 : F494 6 = 0 := z1; have z9 : F494 23 ≤ 124 := z2; have h9 := p497c (by omega) (by omega); show rd1 (A495 22) (A0 22) (F0 23) (F494 23) (F0 20); exact fu_end (hfu (by omega)) (by omega) (rd_cg h9 (by omega) (by omega) rfl) (by omega)⟩⟩
                  · refine k_c1 11 rfl rfl (if_neg b460) ?_
                    have b460 := mt iv_eq0.mpr b460
                    refine k_push 12 rfl rfl ?_
                    refine k_fin rfl (fin_Z (Or.inl rfl)) ⟨_, _, rfl, rf_len I452 I452, ?_⟩
                    show am_Ok _ _ _ (98, _, [.inl (0 : Int32)], _, 0, 0) _
                    refine k_c1 109 rfl rfl (if_pos (by decide)) ?_
                    refine k_aload 110 rfl (gs_ne rfl rfl g0) rfl ?_
                    refine k_push 112 rfl rfl ?_
                    have hc507 : (46 : Int32).toInt = 46 := by decide
                    have e508 : F450 7 = F439 7 := k454 7 (by decide)
                    refine k_rv I452 rfl (m_must  I452.1 (show 0 ≤ (F450 8) ∧ (F450 8) ≤ (F450 7) ∧ (F450 7) ≤ 700 ∧ ((F450 9) = 2 → 0 ≤ (F450 11) ∧ (F450 11) ≤ 9) ∧ 0 ≤ (F450 9) ∧ (F450 9) ≤ 4 by omega)) (Nat.ble_eq_true_of_le (by omega)) rfl rfl I452.rc ?_
                    rintro h510 F511 A512 I513 ⟨k515, k516, p514⟩
                    replace p514 : ((F450 8) ≤ F511 8 ∧ F511 8 ≤ (F450 7)) ∧ (F511 6 = 0 → (F450 6) = 0 ∧ (F511 9 = 0 ∨ (F450 8) < F511 8)) ∧ (F511 9 = 2 → 0 ≤ F511 11 ∧ F511 11 ≤ 9) ∧ (0 ≤ F511 9 ∧ F511 9 ≤ 4) := p514
                    obtain ⟨p514a, p514b, p514c, p514d⟩ := p514
                    have k516 := fr2.nil k516
                    subst k516
                    show am_Ok _ _ _ (115, _, [], _, 0, 0) _
                    refine k_aload 116 rfl (gs_ne rfl rfl g0) rfl ?_
                    have e517 : F511 7 = F450 7 := k515 7 (by decide)
                    have e518 : F511 20 = F450 20 := k515 20 (by decide)
                    have e519 : F450 20 = F439 20 := k454 20 (by decide)
                    have e520 : F439 20 = x429.toInt := k443 20 (by decide)
                    have e521 : F511 21 = F450 21 := k515 21 (by decide)
                    have e522 : F450 21 = F439 21 := k454 21 (by decide)
                    have e523 : F439 21 = F 21 := k443 21 (by decide)
                    have e524 : F511 18 = F450 18 := k515 18 (by decide)
                    have e525 : F450 18 = F439 18 := k454 18 (by decide)
                    have e526 : F439 18 = F 18 := k443 18 (by decide)
                    have e527 : F 18 = F0 18 := hF 18 (by decide)
                    have e528 : F511 23 = F450 23 := k515 23 (by decide)
                    have e529 : F450 23 = F439 23 := k454 23 (by decide)
                    refine k_rv I513 rfl (hrec  I513.1 (show 0 ≤ (F511 8) ∧ (F511 8) ≤ (F511 7) ∧ (F511 7) ≤ 700 ∧ 0 ≤ (F511 20) ∧ (F511 20) ≤ 30 ∧ 0 ≤ (F511 21) ∧ (F511 21) ≤ 12 ∧ 0 ≤ (F511 18) ∧ (F511 18) ≤ 12 ∧ 0 ≤ (F511 23) ∧ (F511 23) ≤ 1000000 ∧ ((F511 9) = 2 → 0 ≤ (F511 11) ∧ (F511 11) ≤ 9) ∧ 0 ≤ (F511 9) ∧ (F511 9) ≤ 4 by omega) (show nm ((A440 16)) ((A440 17)) ((F511 18)) by rw [((k444 16 (by decide)).trans (hA 16 (by decide))), ((k444 17 (by decide)).trans (hA 17 (by decide))), ((k515 18 (by decide)).trans ((k454 18 (by decide)).trans ((k443 18 (by decide)).trans (hF 18 (by decide)))))]; exact p2) (show (12 - (F511 21)) + (30 - (F511 20)) < (gk : Int) by omega)) (Nat.ble_eq_true_of_le (by omega)) rfl rfl I513.rc ?_
                    rintro h531 F532 A533 I534 ⟨k536, k537, p535⟩
                    replace p535 : ((F511 8) ≤ F532 8 ∧ F532 8 ≤ (F511 7) ∧ (F511 20) ≤ F532 20 ∧ F532 20 ≤ 30 ∧ F532 21 = (F511 21) ∧ (F511 23) ≤ F532 23 ∧ F532 23 ≤ 1000000 ∧ (F532 9 = 2 → 0 ≤ F532 11 ∧ F532 11 ≤ 9) ∧ 0 ≤ F532 9 ∧ F532 9 ≤ 4) ∧ (F532 6 = 0 → F532 20 = (F511 20) ∧ (F511 6) = 0 ∧ (F532 9 = 0 ∨ (F511 8) < F532 8)) ∧ (F532 6 = 0 → F532 23 ≤ 124 → rd1 (A533 22) ((A440 22)) ((F511 23)) (F532 23) ((F511 20))) := p535
                    obtain ⟨p535a, p535b, p535c⟩ := p535
                    show am_Ok _ _ _ (119, _, [], _, 0, 0) _
                    refine k_aload 120 rfl (gs_ne rfl rfl g0) rfl ?_
                    refine k_dup 121 rfl rfl rfl ?_
                    refine r_gI I534 124 rfl rfl rfl (fun x538 (e539 : x538.toInt = F532 20) => ?_)
                    refine k_iload 125 rfl gs_eq rfl ?_
                    obtain ⟨x540, q541⟩ : ∃ q : Int32, q = (x538 - x434) := ⟨_, rfl⟩
                    have e542 : x540.toInt = x538.toInt - x434.toInt := by rw [q541, iv_sub (by omega) (by omega)]
                    refine k_bin x540 126 rfl q541.symm rfl ?_
                    refine r_pI I534 129 rfl rfl rfl (fun h543 I544 => ?_)
                    exact k_fin rfl rfl ⟨_, _, _, rfl, I544, (fr1.up (by decide) (fr1.tr (by decide) (fr1.tr (by decide) (fr1.tr (by decide) (fr1.tr (by decide) (fr1.up (by decide) hF) k443) k454) k515) k536)), (fr2.tr (by decide) (fr2.tr (by decide) hA k444) k537), ⟨(show (F0 8 ≤ F532 8 ∧ F532 8 ≤ F0 7 ∧ F0 20 ≤ x540.toInt ∧ x540.toInt ≤ 30 ∧ F532 21 = F0 21 ∧ F0 23 ≤ F532 23 ∧ F532 23 ≤ 1000000 ∧ (F532 9 = 2 → 0 ≤ F532 11 ∧ F532 11 ≤ 9) ∧ 0 ≤ F532 9 ∧ F532 9 ≤ 4) by omega), (show (F532 6 = 0 → x540.toInt = F0 20 ∧ F0 6 = 0 ∧ (F532 9 = 0 ∨ F0 8 < F532 8)) by omega), fun z1 z2 => by have z8 : F532 6 = 0 := z1; have z9 : F532 23 ≤ 124 := z2; have h9 := p535c (by omega) (by omega); show rd1 (A533 22) (A0 22) (F0 23) (F532 23) (F0 20); exact fu_end (hfu (by omega)) (by omega) (rd_cg h9 (by omega) (by omega) rfl) (by omega)⟩⟩
                · refine k_c1 11 rfl rfl (if_neg b421) ?_
                  have b421 := mt iv_eq0.mpr b421
                  refine k_push 12 rfl rfl ?_
                  refine k_fin rfl (fin_Z (Or.inl rfl)) ⟨_, _, rfl, rf_len hI hI, ?_⟩
                  show am_Ok _ _ _ (28, _, [.inl (0 : Int32)], _, 0, 0) _
                  refine k_fin rfl (fin_Z (Or.inl rfl)) ⟨_, _, rfl, rf_len hI hI, ?_⟩
                  show am_Ok _ _ _ (55, _, [.inl (0 : Int32)], _, 0, 0) _
                  refine k_c1 58 rfl rfl (if_pos (by decide)) ?_
                  exact k_fin rfl rfl ⟨_, _, _, rfl, hI, hF, hA, ⟨(show (F0 8 ≤ F 8 ∧ F 8 ≤ F0 7 ∧ F0 20 ≤ F 20 ∧ F 20 ≤ 30 ∧ F 21 = F0 21 ∧ F0 23 ≤ F 23 ∧ F 23 ≤ 1000000 ∧ (F 9 = 2 → 0 ≤ F 11 ∧ F 11 ≤ 9) ∧ 0 ≤ F 9 ∧ F 9 ≤ 4) by omega), (show (F 6 = 0 → F 20 = F0 20 ∧ F0 6 = 0 ∧ (F 9 = 0 ∨ F0 8 < F 8)) by omega), fun z => absurd (show F 6 = 0 from z) (by omega)⟩⟩
            · refine k_c2 46 rfl rfl (if_neg b281) ?_
              have b281 := mt iv_le.mpr b281
              refine k_push 47 rfl rfl ?_
              refine k_goto 51 rfl rfl ?_
              refine k_push 52 rfl rfl ?_
              have hc545 : (2 : Int32).toInt = 2 := by decide
              refine k_in (d := 1) rfl (Nat.ble_eq_true_of_le (by omega)) rfl rfl hI.rc ?_
              refine k_aload 1 rfl rfl rfl ?_
              refine k_in (d := 0) rfl (Nat.ble_eq_true_of_le (by omega)) rfl rfl hI.rc ?_
              refine k_aload 1 rfl rfl rfl ?_
              refine r_gI hI 4 rfl rfl rfl (fun x546 (e547 : x546.toInt = F 6) => ?_)
              by_cases b548 : x546 = 0
              · refine k_c1 7 rfl rfl (if_pos b548) ?_
                have b548 := iv_eq0.mp b548
                refine k_push 8 rfl rfl ?_
                refine k_goto 12 rfl rfl ?_
                refine k_fin rfl (fin_Z (Or.inr rfl)) ⟨_, _, rfl, rf_len hI hI, ?_⟩
                show am_Ok _ _ _ (4, _, [.inl (1 : Int32)], _, 0, 0) _
                refine k_c1 7 rfl rfl (if_neg (by decide)) ?_
                refine k_iload 8 rfl rfl rfl ?_
                refine k_c1 24 rfl rfl (if_neg (by decide)) ?_
                refine k_aload 25 rfl rfl rfl ?_
                refine k_in (d := 0) rfl (Nat.ble_eq_true_of_le (by omega)) rfl rfl hI.rc ?_
                refine k_aload 1 rfl rfl rfl ?_
                refine r_gI hI 4 rfl rfl rfl (fun x549 (e550 : x549.toInt = F 6) => ?_)
                by_cases b551 : x549 = 0
                · refine k_c1 7 rfl rfl (if_pos b551) ?_
                  have b551 := iv_eq0.mp b551
                  refine k_push 8 rfl rfl ?_
                  refine k_goto 12 rfl rfl ?_
                  refine k_fin rfl (fin_Z (Or.inr rfl)) ⟨_, _, rfl, rf_len hI hI, ?_⟩
                  show am_Ok _ _ _ (28, _, [.inl (1 : Int32)], _, 0, 0) _
                  refine k_fin rfl (fin_Z (Or.inr rfl)) ⟨_, _, rfl, rf_len hI hI, ?_⟩
                  show am_Ok _ _ _ (55, _, [.inl (1 : Int32)], _, 0, 0) _
                  refine k_c1 59 rfl rfl (if_neg (by decide)) ?_
                  refine k_aload 60 rfl g0 rfl ?_
                  refine r_gA hI 63 rfl rfl rfl ?_
                  refine k_aload 64 rfl g0 rfl ?_
                  refine r_gI hI 67 rfl rfl rfl (fun x552 (e553 : x552.toInt = F 20) => ?_)
                  refine k_aload 68 rfl g0 rfl ?_
                  refine r_gJ hI 71 rfl rfl rfl (fun y554 => ?_)
                  refine r_lst 19 hI 72 rfl rfl (by omega) (show x552.toInt < 31 by omega) rfl (fun h555 I556 => ?_)
                  refine k_aload 73 rfl g0 rfl ?_
                  refine k_dup 74 rfl rfl rfl ?_
                  refine r_gI I556 77 rfl rfl rfl (fun x557 (e558 : x557.toInt = F 20) => ?_)
                  refine k_push 78 rfl rfl ?_
                  obtain ⟨x559, q560⟩ : ∃ q : Int32, q = (x557 + (1 : Int32)) := ⟨_, rfl⟩
                  have e561 : x559.toInt = x557.toInt + 1 := by rw [q560, iv_add (by omega) (by omega)]; omega
                  refine k_bin x559 79 rfl q560.symm rfl ?_
                  refine r_pI I556 82 rfl rfl rfl (fun h562 I563 => ?_)
                  obtain ⟨x564, q565⟩ : ∃ q : Int32, q = v1 + (1 : Int32) := ⟨_, rfl⟩
                  have e566 : x564.toInt = v1.toInt + 1 := by rw [q565, iv_add (by omega) (by omega)]; omega
                  refine k_iinc x564 85 rfl g1 q565.symm rfl ?_
                  refine k_aload 86 rfl (gs_ne rfl rfl g0) rfl ?_
                  refine k_push 87 rfl rfl ?_
                  refine k_rv I563 rfl (m_emits  I563.1 (show 0 ≤ (F 23) ∧ (F 23) ≤ 1000000 by omega)) (Nat.ble_eq_true_of_le (by omega)) rfl rfl I563.rc ?_
                  rintro h568 F569 A570 I571 ⟨k573, k574, p572⟩
                  replace p572 : ((F 23) ≤ F569 23 ∧ F569 23 ≤ 1000000) ∧ (F569 23 ≤ 124 → F569 23 = (F 23) + 1) ∧ (F569 23 ≤ 124 → A570 22 ((F 23)) = (1 : Int32).toInt ∧ ∀ q : Int, q ≠ (F 23) → A570 22 q = (A 22) q) := p572
                  obtain ⟨p572a, p572b, p572c⟩ := p572
                  show am_Ok _ _ _ (90, _, [], _, 0, 0) _
                  have hfu : F569 23 ≤ 124 → fu (A570 22) (A0 22) (F0 23) (F569 23) (v1.toInt + 1) := fun z9 => fu_s (i2 (by omega)) (p572b z9) ((p572c z9).1.trans (by decide)) (p572c z9).2 (by omega) rfl
                  refine k_aload 91 rfl (gs_ne rfl rfl g0) rfl ?_
                  have e575 : F569 8 = F 8 := k573 8 (by decide)
                  have e576 : F569 7 = F 7 := k573 7 (by decide)
                  have e577 : F 7 = F0 7 := hF 7 (by decide)
                  refine k_rv I571 rfl (m_goes  I571.1 (show 0 ≤ (F569 8) ∧ (F569 8) ≤ (F569 7) ∧ (F569 7) ≤ 700 by omega)) (Nat.ble_eq_true_of_le (by omega)) rfl rfl I571.rc ?_
                  rintro h579 F580 A581 I582 ⟨k584, k585, p583⟩
                  replace p583 : ((F569 8) ≤ F580 8 ∧ F580 8 ≤ (F569 7)) ∧ (F580 9 = 0 ∨ (F569 8) < F580 8) ∧ (F580 9 = 2 → 0 ≤ F580 11 ∧ F580 11 ≤ 9) ∧ (0 ≤ F580 9 ∧ F580 9 ≤ 4) := p583
                  obtain ⟨p583a, p583b, p583c, p583d⟩ := p583
                  have k585 := fr2.nil k585
                  subst k585
                  show am_Ok _ _ _ (94, _, [], _, 0, 0) _
                  refine k_aload 95 rfl (gs_ne rfl rfl g0) rfl ?_
                  refine k_in (d := 0) rfl (Nat.ble_eq_true_of_le (by omega)) rfl rfl I582.rc ?_
                  refine k_aload 1 rfl rfl rfl ?_
                  refine r_gI I582 4 rfl rfl rfl (fun x586 (e587 : x586.toInt = F580 6) => ?_)
                  have e588 : F580 6 = F569 6 := k584 6 (by decide)
                  have e589 : F569 6 = F 6 := k573 6 (by decide)
                  by_cases b590 : x586 = 0
                  · refine k_c1 7 rfl rfl (if_pos b590) ?_
                    have b590 := iv_eq0.mp b590
                    refine k_push 8 rfl rfl ?_
                    refine k_goto 12 rfl rfl ?_
                    refine k_fin rfl (fin_Z (Or.inr rfl)) ⟨_, _, rfl, rf_len I582 I582, ?_⟩
                    show am_Ok _ _ _ (98, _, [.inl (1 : Int32)], _, 0, 0) _
                    refine k_c1 101 rfl rfl (if_neg (by decide)) ?_
                    refine k_aload 102 rfl (gs_ne rfl rfl g0) rfl ?_
                    refine r_gI I582 105 rfl rfl rfl (fun x591 (e592 : x591.toInt = F580 9) => ?_)
                    refine k_push 106 rfl rfl ?_
                    by_cases b593 : x591 = (1 : Int32)
                    · refine k_c2 6 rfl rfl (if_pos b593) ?_
                      have b593 := iv_eq.mp b593
                      have e594 : F580 20 = F569 20 := k584 20 (by decide)
                      have e595 : F569 20 = x559.toInt := k573 20 (by decide)
                      have e596 : F580 21 = F569 21 := k584 21 (by decide)
                      have e597 : F569 21 = F 21 := k573 21 (by decide)
                      have e598 : F580 23 = F569 23 := k584 23 (by decide)
                      exact ih _ (show ((31 - x564.toInt).toNat) < n by omega)  rfl (gs_ne rfl rfl g0) gs_eq I582 (fr1.tr (by decide) (fr1.tr (by decide) (fr1.up (by decide) hF) k573) k584) (fr2.tr (by decide) hA k574) (show F0 8 ≤ (F580 8) ∧ (F580 8) ≤ F0 7 ∧ (F580 20) = F0 20 + x564.toInt ∧ 0 ≤ x564.toInt ∧ (F580 20) ≤ 30 ∧ (F580 21) = F0 21 ∧ F0 23 ≤ (F580 23) ∧ (F580 23) ≤ 1000000 ∧ ((F580 9) = 2 → 0 ≤ (F580 11) ∧ (F580 11) ≤ 9) ∧ 0 ≤ (F580 9) ∧ (F580 9) ≤ 4 ∧ (F580 6) = 0 by omega) (fun z => by have z9 : F580 23 ≤ 124 := z; show fu (A570 22) (A0 22) (F0 23) (F580 23) x564.toInt; exact fu_cg (hfu (by omega)) (by omega) (by omega))
                    · refine k_c2 109 rfl rfl (if_neg b593) ?_
                      have b593 := mt iv_eq.mpr b593
                      refine k_aload 110 rfl (gs_ne rfl rfl g0) rfl ?_
                      refine k_push 112 rfl rfl ?_
                      have hc599 : (46 : Int32).toInt = 46 := by decide
                      have e600 : F580 7 = F569 7 := k584 7 (by decide)
                      refine k_rv I582 rfl (m_must  I582.1 (show 0 ≤ (F580 8) ∧ (F580 8) ≤ (F580 7) ∧ (F580 7) ≤ 700 ∧ ((F580 9) = 2 → 0 ≤ (F580 11) ∧ (F580 11) ≤ 9) ∧ 0 ≤ (F580 9) ∧ (F580 9) ≤ 4 by omega)) (Nat.ble_eq_true_of_le (by omega)) rfl rfl I582.rc ?_
                      rintro h602 F603 A604 I605 ⟨k607, k608, p606⟩
                      replace p606 : ((F580 8) ≤ F603 8 ∧ F603 8 ≤ (F580 7)) ∧ (F603 6 = 0 → (F580 6) = 0 ∧ (F603 9 = 0 ∨ (F580 8) < F603 8)) ∧ (F603 9 = 2 → 0 ≤ F603 11 ∧ F603 11 ≤ 9) ∧ (0 ≤ F603 9 ∧ F603 9 ≤ 4) := p606
                      obtain ⟨p606a, p606b, p606c, p606d⟩ := p606
                      have k608 := fr2.nil k608
                      subst k608
                      show am_Ok _ _ _ (115, _, [], _, 0, 0) _
                      refine k_aload 116 rfl (gs_ne rfl rfl g0) rfl ?_
                      have e609 : F603 7 = F580 7 := k607 7 (by decide)
                      have e610 : F603 20 = F580 20 := k607 20 (by decide)
                      have e611 : F580 20 = F569 20 := k584 20 (by decide)
                      have e612 : F569 20 = x559.toInt := k573 20 (by decide)
                      have e613 : F603 21 = F580 21 := k607 21 (by decide)
                      have e614 : F580 21 = F569 21 := k584 21 (by decide)
                      have e615 : F569 21 = F 21 := k573 21 (by decide)
                      have e616 : F603 18 = F580 18 := k607 18 (by decide)
                      have e617 : F580 18 = F569 18 := k584 18 (by decide)
                      have e618 : F569 18 = F 18 := k573 18 (by decide)
                      have e619 : F 18 = F0 18 := hF 18 (by decide)
                      have e620 : F603 23 = F580 23 := k607 23 (by decide)
                      have e621 : F580 23 = F569 23 := k584 23 (by decide)
                      refine k_rv I605 rfl (hrec  I605.1 (show 0 ≤ (F603 8) ∧ (F603 8) ≤ (F603 7) ∧ (F603 7) ≤ 700 ∧ 0 ≤ (F603 20) ∧ (F603 20) ≤ 30 ∧ 0 ≤ (F603 21) ∧ (F603 21) ≤ 12 ∧ 0 ≤ (F603 18) ∧ (F603 18) ≤ 12 ∧ 0 ≤ (F603 23) ∧ (F603 23) ≤ 1000000 ∧ ((F603 9) = 2 → 0 ≤ (F603 11) ∧ (F603 11) ≤ 9) ∧ 0 ≤ (F603 9) ∧ (F603 9) ≤ 4 by omega) (show nm ((A570 16)) ((A570 17)) ((F603 18)) by rw [((k574 16 (by decide)).trans (hA 16 (by decide))), ((k574 17 (by decide)).trans (hA 17 (by decide))), ((k607 18 (by decide)).trans ((k584 18 (by decide)).trans ((k573 18 (by decide)).trans (hF 18 (by decide)))))]; exact p2) (show (12 - (F603 21)) + (30 - (F603 20)) < (gk : Int) by omega)) (Nat.ble_eq_true_of_le (by omega)) rfl rfl I605.rc ?_
                      rintro h623 F624 A625 I626 ⟨k628, k629, p627⟩
                      replace p627 : ((F603 8) ≤ F624 8 ∧ F624 8 ≤ (F603 7) ∧ (F603 20) ≤ F624 20 ∧ F624 20 ≤ 30 ∧ F624 21 = (F603 21) ∧ (F603 23) ≤ F624 23 ∧ F624 23 ≤ 1000000 ∧ (F624 9 = 2 → 0 ≤ F624 11 ∧ F624 11 ≤ 9) ∧ 0 ≤ F624 9 ∧ F624 9 ≤ 4) ∧ (F624 6 = 0 → F624 20 = (F603 20) ∧ (F603 6) = 0 ∧ (F624 9 = 0 ∨ (F603 8) < F624 8)) ∧ (F624 6 = 0 → F624 23 ≤ 124 → rd1 (A625 22) ((A570 22)) ((F603 23)) (F624 23) ((F603 20))) := p627
                      obtain ⟨p627a, p627b, p627c⟩ := p627
                      show am_Ok _ _ _ (119, _, [], _, 0, 0) _
                      refine k_aload 120 rfl (gs_ne rfl rfl g0) rfl ?_
                      refine k_dup 121 rfl rfl rfl ?_
                      refine r_gI I626 124 rfl rfl rfl (fun x630 (e631 : x630.toInt = F624 20) => ?_)
                      refine k_iload 125 rfl gs_eq rfl ?_
                      obtain ⟨x632, q633⟩ : ∃ q : Int32, q = (x630 - x564) := ⟨_, rfl⟩
                      have e634 : x632.toInt = x630.toInt - x564.toInt := by rw [q633, iv_sub (by omega) (by omega)]
                      refine k_bin x632 126 rfl q633.symm rfl ?_
                      refine r_pI I626 129 rfl rfl rfl (fun h635 I636 => ?_)
                      exact k_fin rfl rfl ⟨_, _, _, rfl, I636, (fr1.up (by decide) (fr1.tr (by decide) (fr1.tr (by decide) (fr1.tr (by decide) (fr1.tr (by decide) (fr1.up (by decide) hF) k573) k584) k607) k628)), (fr2.tr (by decide) (fr2.tr (by decide) hA k574) k629), ⟨(show (F0 8 ≤ F624 8 ∧ F624 8 ≤ F0 7 ∧ F0 20 ≤ x632.toInt ∧ x632.toInt ≤ 30 ∧ F624 21 = F0 21 ∧ F0 23 ≤ F624 23 ∧ F624 23 ≤ 1000000 ∧ (F624 9 = 2 → 0 ≤ F624 11 ∧ F624 11 ≤ 9) ∧ 0 ≤ F624 9 ∧ F624 9 ≤ 4) by omega), (show (F624 6 = 0 → x632.toInt = F0 20 ∧ F0 6 = 0 ∧ (F624 9 = 0 ∨ F0 8 < F624 8)) by omega), fun z1 z2 => by have z8 : F624 6 = 0 := z1; have z9 : F624 23 ≤ 124 := z2; have h9 := p627c (by omega) (by omega); show rd1 (A625 22) (A0 22) (F0 23) (F624 23) (F0 20); exact fu_end (hfu (by omega)) (by omega) (rd_cg h9 (by omega) (by omega) rfl) (by omega)⟩⟩
                  · refine k_c1 11 rfl rfl (if_neg b590) ?_
                    have b590 := mt iv_eq0.mpr b590
                    refine k_push 12 rfl rfl ?_
                    have hc637 : (0 : Int32).toInt = 0 := by decide
                    refine k_fin rfl (fin_Z (Or.inl rfl)) ⟨_, _, rfl, rf_len I582 I582, ?_⟩
                    show am_Ok _ _ _ (98, _, [.inl (0 : Int32)], _, 0, 0) _
                    refine k_c1 109 rfl rfl (if_pos (by decide)) ?_
                    refine k_aload 110 rfl (gs_ne rfl rfl g0) rfl ?_
                    refine k_push 112 rfl rfl ?_
                    have hc638 : (46 : Int32).toInt = 46 := by decide
                    have e639 : F580 7 = F569 7 := k584 7 (by decide)
                    refine k_rv I582 rfl (m_must  I582.1 (show 0 ≤ (F580 8) ∧ (F580 8) ≤ (F580 7) ∧ (F580 7) ≤ 700 ∧ ((F580 9) = 2 → 0 ≤ (F580 11) ∧ (F580 11) ≤ 9) ∧ 0 ≤ (F580 9) ∧ (F580 9) ≤ 4 by omega)) (Nat.ble_eq_true_of_le (by omega)) rfl rfl I582.rc ?_
                    rintro h641 F642 A643 I644 ⟨k646, k647, p645⟩
                    replace p645 : ((F580 8) ≤ F642 8 ∧ F642 8 ≤ (F580 7)) ∧ (F642 6 = 0 → (F580 6) = 0 ∧ (F642 9 = 0 ∨ (F580 8) < F642 8)) ∧ (F642 9 = 2 → 0 ≤ F642 11 ∧ F642 11 ≤ 9) ∧ (0 ≤ F642 9 ∧ F642 9 ≤ 4) := p645
                    obtain ⟨p645a, p645b, p645c, p645d⟩ := p645
                    have k647 := fr2.nil k647
                    subst k647
                    show am_Ok _ _ _ (115, _, [], _, 0, 0) _
                    refine k_aload 116 rfl (gs_ne rfl rfl g0) rfl ?_
                    have e648 : F642 7 = F580 7 := k646 7 (by decide)
                    have e649 : F642 20 = F580 20 := k646 20 (by decide)
                    have e650 : F580 20 = F569 20 := k584 20 (by decide)
                    have e651 : F569 20 = x559.toInt := k573 20 (by decide)
                    have e652 : F642 21 = F580 21 := k646 21 (by decide)
                    have e653 : F580 21 = F569 21 := k584 21 (by decide)
                    have e654 : F569 21 = F 21 := k573 21 (by decide)
                    have e655 : F642 18 = F580 18 := k646 18 (by decide)
                    have e656 : F580 18 = F569 18 := k584 18 (by decide)
                    have e657 : F569 18 = F 18 := k573 18 (by decide)
                    have e658 : F 18 = F0 18 := hF 18 (by decide)
                    have e659 : F642 23 = F580 23 := k646 23 (by decide)
                    have e660 : F580 23 = F569 23 := k584 23 (by decide)
                    refine k_rv I644 rfl (hrec  I644.1 (show 0 ≤ (F642 8) ∧ (F642 8) ≤ (F642 7) ∧ (F642 7) ≤ 700 ∧ 0 ≤ (F642 20) ∧ (F642 20) ≤ 30 ∧ 0 ≤ (F642 21) ∧ (F642 21) ≤ 12 ∧ 0 ≤ (F642 18) ∧ (F642 18) ≤ 12 ∧ 0 ≤ (F642 23) ∧ (F642 23) ≤ 1000000 ∧ ((F642 9) = 2 → 0 ≤ (F642 11) ∧ (F642 11) ≤ 9) ∧ 0 ≤ (F642 9) ∧ (F642 9) ≤ 4 by omega) (show nm ((A570 16)) ((A570 17)) ((F642 18)) by rw [((k574 16 (by decide)).trans (hA 16 (by decide))), ((k574 17 (by decide)).trans (hA 17 (by decide))), ((k646 18 (by decide)).trans ((k584 18 (by decide)).trans ((k573 18 (by decide)).trans (hF 18 (by decide)))))]; exact p2) (show (12 - (F642 21)) + (30 - (F642 20)) < (gk : Int) by omega)) (Nat.ble_eq_true_of_le (by omega)) rfl rfl I644.rc ?_
                    rintro h662 F663 A664 I665 ⟨k667, k668, p666⟩
                    replace p666 : ((F642 8) ≤ F663 8 ∧ F663 8 ≤ (F642 7) ∧ (F642 20) ≤ F663 20 ∧ F663 20 ≤ 30 ∧ F663 21 = (F642 21) ∧ (F642 23) ≤ F663 23 ∧ F663 23 ≤ 1000000 ∧ (F663 9 = 2 → 0 ≤ F663 11 ∧ F663 11 ≤ 9) ∧ 0 ≤ F663 9 ∧ F663 9 ≤ 4) ∧ (F663 6 = 0 → F663 20 = (F642 20) ∧ (F642 6) = 0 ∧ (F663 9 = 0 ∨ (F642 8) < F663 8)) ∧ (F663 6 = 0 → F663 23 ≤ 124 → rd1 (A664 22) ((A570 22)) ((F642 23)) (F663 23) ((F642 20))) := p666
                    obtain ⟨p666a, p666b, p666c⟩ := p666
                    show am_Ok _ _ _ (119, _, [], _, 0, 0) _
                    refine k_aload 120 rfl (gs_ne rfl rfl g0) rfl ?_
                    refine k_dup 121 rfl rfl rfl ?_
                    refine r_gI I665 124 rfl rfl rfl (fun x669 (e670 : x669.toInt = F663 20) => ?_)
                    refine k_iload 125 rfl gs_eq rfl ?_
                    obtain ⟨x671, q672⟩ : ∃ q : Int32, q = (x669 - x564) := ⟨_, rfl⟩
                    have e673 : x671.toInt = x669.toInt - x564.toInt := by rw [q672, iv_sub (by omega) (by omega)]
                    refine k_bin x671 126 rfl q672.symm rfl ?_
                    refine r_pI I665 129 rfl rfl rfl (fun h674 I675 => ?_)
                    exact k_fin rfl rfl ⟨_, _, _, rfl, I675, (fr1.up (by decide) (fr1.tr (by decide) (fr1.tr (by decide) (fr1.tr (by decide) (fr1.tr (by decide) (fr1.up (by decide) hF) k573) k584) k646) k667)), (fr2.tr (by decide) (fr2.tr (by decide) hA k574) k668), ⟨(show (F0 8 ≤ F663 8 ∧ F663 8 ≤ F0 7 ∧ F0 20 ≤ x671.toInt ∧ x671.toInt ≤ 30 ∧ F663 21 = F0 21 ∧ F0 23 ≤ F663 23 ∧ F663 23 ≤ 1000000 ∧ (F663 9 = 2 → 0 ≤ F663 11 ∧ F663 11 ≤ 9) ∧ 0 ≤ F663 9 ∧ F663 9 ≤ 4) by omega), (show (F663 6 = 0 → x671.toInt = F0 20 ∧ F0 6 = 0 ∧ (F663 9 = 0 ∨ F0 8 < F663 8)) by omega), fun z1 z2 => by have z8 : F663 6 = 0 := z1; have z9 : F663 23 ≤ 124 := z2; have h9 := p666c (by omega) (by omega); show rd1 (A664 22) (A0 22) (F0 23) (F663 23) (F0 20); exact fu_end (hfu (by omega)) (by omega) (rd_cg h9 (by omega) (by omega) rfl) (by omega)⟩⟩
                · refine k_c1 11 rfl rfl (if_neg b551) ?_
                  have b551 := mt iv_eq0.mpr b551
                  refine k_push 12 rfl rfl ?_
                  have hc676 : (0 : Int32).toInt = 0 := by decide
                  refine k_fin rfl (fin_Z (Or.inl rfl)) ⟨_, _, rfl, rf_len hI hI, ?_⟩
                  show am_Ok _ _ _ (28, _, [.inl (0 : Int32)], _, 0, 0) _
                  refine k_fin rfl (fin_Z (Or.inl rfl)) ⟨_, _, rfl, rf_len hI hI, ?_⟩
                  show am_Ok _ _ _ (55, _, [.inl (0 : Int32)], _, 0, 0) _
                  refine k_c1 58 rfl rfl (if_pos (by decide)) ?_
                  exact k_fin rfl rfl ⟨_, _, _, rfl, hI, hF, hA, ⟨(show (F0 8 ≤ F 8 ∧ F 8 ≤ F0 7 ∧ F0 20 ≤ F 20 ∧ F 20 ≤ 30 ∧ F 21 = F0 21 ∧ F0 23 ≤ F 23 ∧ F 23 ≤ 1000000 ∧ (F 9 = 2 → 0 ≤ F 11 ∧ F 11 ≤ 9) ∧ 0 ≤ F 9 ∧ F 9 ≤ 4) by omega), (show (F 6 = 0 → F 20 = F0 20 ∧ F0 6 = 0 ∧ (F 9 = 0 ∨ F0 8 < F 8)) by omega), fun z => absurd (show F 6 = 0 from z) (by omega)⟩⟩
              · refine k_c1 11 rfl rfl (if_neg b548) ?_
                have b548 := mt iv_eq0.mpr b548
                refine k_push 12 rfl rfl ?_
                have hc677 : (0 : Int32).toInt = 0 := by decide
                refine k_fin rfl (fin_Z (Or.inl rfl)) ⟨_, _, rfl, rf_len hI hI, ?_⟩
                show am_Ok _ _ _ (4, _, [.inl (0 : Int32)], _, 0, 0) _
                refine k_c1 24 rfl rfl (if_pos (by decide)) ?_
                refine k_aload 25 rfl rfl rfl ?_
                refine k_in (d := 0) rfl (Nat.ble_eq_true_of_le (by omega)) rfl rfl hI.rc ?_
                refine k_aload 1 rfl rfl rfl ?_
                refine r_gI hI 4 rfl rfl rfl (fun x678 (e679 : x678.toInt = F 6) => ?_)
                by_cases b680 : x678 = 0
                · refine k_c1 7 rfl rfl (if_pos b680) ?_
                  have b680 := iv_eq0.mp b680
                  refine k_push 8 rfl rfl ?_
                  refine k_goto 12 rfl rfl ?_
                  refine k_fin rfl (fin_Z (Or.inr rfl)) ⟨_, _, rfl, rf_len hI hI, ?_⟩
                  show am_Ok _ _ _ (28, _, [.inl (1 : Int32)], _, 0, 0) _
                  refine k_fin rfl (fin_Z (Or.inr rfl)) ⟨_, _, rfl, rf_len hI hI, ?_⟩
                  show am_Ok _ _ _ (55, _, [.inl (1 : Int32)], _, 0, 0) _
                  refine k_c1 59 rfl rfl (if_neg (by decide)) ?_
                  refine k_aload 60 rfl g0 rfl ?_
                  refine r_gA hI 63 rfl rfl rfl ?_
                  refine k_aload 64 rfl g0 rfl ?_
                  refine r_gI hI 67 rfl rfl rfl (fun x681 (e682 : x681.toInt = F 20) => ?_)
                  refine k_aload 68 rfl g0 rfl ?_
                  refine r_gJ hI 71 rfl rfl rfl (fun y683 => ?_)
                  refine r_lst 19 hI 72 rfl rfl (by omega) (show x681.toInt < 31 by omega) rfl (fun h684 I685 => ?_)
                  refine k_aload 73 rfl g0 rfl ?_
                  refine k_dup 74 rfl rfl rfl ?_
                  refine r_gI I685 77 rfl rfl rfl (fun x686 (e687 : x686.toInt = F 20) => ?_)
                  refine k_push 78 rfl rfl ?_
                  obtain ⟨x688, q689⟩ : ∃ q : Int32, q = (x686 + (1 : Int32)) := ⟨_, rfl⟩
                  have e690 : x688.toInt = x686.toInt + 1 := by rw [q689, iv_add (by omega) (by omega)]; omega
                  refine k_bin x688 79 rfl q689.symm rfl ?_
                  refine r_pI I685 82 rfl rfl rfl (fun h691 I692 => ?_)
                  obtain ⟨x693, q694⟩ : ∃ q : Int32, q = v1 + (1 : Int32) := ⟨_, rfl⟩
                  have e695 : x693.toInt = v1.toInt + 1 := by rw [q694, iv_add (by omega) (by omega)]; omega
                  refine k_iinc x693 85 rfl g1 q694.symm rfl ?_
                  refine k_aload 86 rfl (gs_ne rfl rfl g0) rfl ?_
                  refine k_push 87 rfl rfl ?_
                  refine k_rv I692 rfl (m_emits  I692.1 (show 0 ≤ (F 23) ∧ (F 23) ≤ 1000000 by omega)) (Nat.ble_eq_true_of_le (by omega)) rfl rfl I692.rc ?_
                  rintro h697 F698 A699 I700 ⟨k702, k703, p701⟩
                  replace p701 : ((F 23) ≤ F698 23 ∧ F698 23 ≤ 1000000) ∧ (F698 23 ≤ 124 → F698 23 = (F 23) + 1) ∧ (F698 23 ≤ 124 → A699 22 ((F 23)) = (1 : Int32).toInt ∧ ∀ q : Int, q ≠ (F 23) → A699 22 q = (A 22) q) := p701
                  obtain ⟨p701a, p701b, p701c⟩ := p701
                  show am_Ok _ _ _ (90, _, [], _, 0, 0) _
                  have hfu : F698 23 ≤ 124 → fu (A699 22) (A0 22) (F0 23) (F698 23) (v1.toInt + 1) := fun z9 => fu_s (i2 (by omega)) (p701b z9) ((p701c z9).1.trans (by decide)) (p701c z9).2 (by omega) rfl
                  refine k_aload 91 rfl (gs_ne rfl rfl g0) rfl ?_
                  have e704 : F698 8 = F 8 := k702 8 (by decide)
                  have e705 : F698 7 = F 7 := k702 7 (by decide)
                  have e706 : F 7 = F0 7 := hF 7 (by decide)
                  refine k_rv I700 rfl (m_goes  I700.1 (show 0 ≤ (F698 8) ∧ (F698 8) ≤ (F698 7) ∧ (F698 7) ≤ 700 by omega)) (Nat.ble_eq_true_of_le (by omega)) rfl rfl I700.rc ?_
                  rintro h708 F709 A710 I711 ⟨k713, k714, p712⟩
                  replace p712 : ((F698 8) ≤ F709 8 ∧ F709 8 ≤ (F698 7)) ∧ (F709 9 = 0 ∨ (F698 8) < F709 8) ∧ (F709 9 = 2 → 0 ≤ F709 11 ∧ F709 11 ≤ 9) ∧ (0 ≤ F709 9 ∧ F709 9 ≤ 4) := p712
                  obtain ⟨p712a, p712b, p712c, p712d⟩ := p712
                  have k714 := fr2.nil k714
                  subst k714
                  show am_Ok _ _ _ (94, _, [], _, 0, 0) _
                  refine k_aload 95 rfl (gs_ne rfl rfl g0) rfl ?_
                  refine k_in (d := 0) rfl (Nat.ble_eq_true_of_le (by omega)) rfl rfl I711.rc ?_
                  refine k_aload 1 rfl rfl rfl ?_
                  refine r_gI I711 4 rfl rfl rfl (fun x715 (e716 : x715.toInt = F709 6) => ?_)
                  have e717 : F709 6 = F698 6 := k713 6 (by decide)
                  have e718 : F698 6 = F 6 := k702 6 (by decide)
                  by_cases b719 : x715 = 0
                  · refine k_c1 7 rfl rfl (if_pos b719) ?_
                    have b719 := iv_eq0.mp b719
                    refine k_push 8 rfl rfl ?_
                    refine k_goto 12 rfl rfl ?_
                    refine k_fin rfl (fin_Z (Or.inr rfl)) ⟨_, _, rfl, rf_len I711 I711, ?_⟩
                    show am_Ok _ _ _ (98, _, [.inl (1 : Int32)], _, 0, 0) _
                    refine k_c1 101 rfl rfl (if_neg (by decide)) ?_
                    refine k_aload 102 rfl (gs_ne rfl rfl g0) rfl ?_
                    refine r_gI I711 105 rfl rfl rfl (fun x720 (e721 : x720.toInt = F709 9) => ?_)
                    refine k_push 106 rfl rfl ?_
                    by_cases b722 : x720 = (1 : Int32)
                    · refine k_c2 6 rfl rfl (if_pos b722) ?_
                      have b722 := iv_eq.mp b722
                      have e723 : F709 20 = F698 20 := k713 20 (by decide)
                      have e724 : F698 20 = x688.toInt := k702 20 (by decide)
                      have e725 : F709 21 = F698 21 := k713 21 (by decide)
                      have e726 : F698 21 = F 21 := k702 21 (by decide)
                      have e727 : F709 23 = F698 23 := k713 23 (by decide)
                      exact ih _ (show ((31 - x693.toInt).toNat) < n by omega)  rfl (gs_ne rfl rfl g0) gs_eq I711 (fr1.tr (by decide) (fr1.tr (by decide) (fr1.up (by decide) hF) k702) k713) (fr2.tr (by decide) hA k703) (show F0 8 ≤ (F709 8) ∧ (F709 8) ≤ F0 7 ∧ (F709 20) = F0 20 + x693.toInt ∧ 0 ≤ x693.toInt ∧ (F709 20) ≤ 30 ∧ (F709 21) = F0 21 ∧ F0 23 ≤ (F709 23) ∧ (F709 23) ≤ 1000000 ∧ ((F709 9) = 2 → 0 ≤ (F709 11) ∧ (F709 11) ≤ 9) ∧ 0 ≤ (F709 9) ∧ (F709 9) ≤ 4 ∧ (F709 6) = 0 by omega) (fun z => by have z9 : F709 23 ≤ 124 := z; show fu (A699 22) (A0 22) (F0 23) (F709 23) x693.toInt; exact fu_cg (hfu (by omega)) (by omega) (by omega))
                    · refine k_c2 109 rfl rfl (if_neg b722) ?_
                      have b722 := mt iv_eq.mpr b722
                      refine k_aload 110 rfl (gs_ne rfl rfl g0) rfl ?_
                      refine k_push 112 rfl rfl ?_
                      have hc728 : (46 : Int32).toInt = 46 := by decide
                      have e729 : F709 7 = F698 7 := k713 7 (by decide)
                      refine k_rv I711 rfl (m_must  I711.1 (show 0 ≤ (F709 8) ∧ (F709 8) ≤ (F709 7) ∧ (F709 7) ≤ 700 ∧ ((F709 9) = 2 → 0 ≤ (F709 11) ∧ (F709 11) ≤ 9) ∧ 0 ≤ (F709 9) ∧ (F709 9) ≤ 4 by omega)) (Nat.ble_eq_true_of_le (by omega)) rfl rfl I711.rc ?_
                      rintro h731 F732 A733 I734 ⟨k736, k737, p735⟩
                      replace p735 : ((F709 8) ≤ F732 8 ∧ F732 8 ≤ (F709 7)) ∧ (F732 6 = 0 → (F709 6) = 0 ∧ (F732 9 = 0 ∨ (F709 8) < F732 8)) ∧ (F732 9 = 2 → 0 ≤ F732 11 ∧ F732 11 ≤ 9) ∧ (0 ≤ F732 9 ∧ F732 9 ≤ 4) := p735
                      obtain ⟨p735a, p735b, p735c, p735d⟩ := p735
                      have k737 := fr2.nil k737
                      subst k737
                      show am_Ok _ _ _ (115, _, [], _, 0, 0) _
                      refine k_aload 116 rfl (gs_ne rfl rfl g0) rfl ?_
                      have e738 : F732 7 = F709 7 := k736 7 (by decide)
                      have e739 : F732 20 = F709 20 := k736 20 (by decide)
                      have e740 : F709 20 = F698 20 := k713 20 (by decide)
                      have e741 : F698 20 = x688.toInt := k702 20 (by decide)
                      have e742 : F732 21 = F709 21 := k736 21 (by decide)
                      have e743 : F709 21 = F698 21 := k713 21 (by decide)
                      have e744 : F698 21 = F 21 := k702 21 (by decide)
                      have e745 : F732 18 = F709 18 := k736 18 (by decide)
                      have e746 : F709 18 = F698 18 := k713 18 (by decide)
                      have e747 : F698 18 = F 18 := k702 18 (by decide)
                      have e748 : F 18 = F0 18 := hF 18 (by decide)
                      have e749 : F732 23 = F709 23 := k736 23 (by decide)
                      have e750 : F709 23 = F698 23 := k713 23 (by decide)
                      refine k_rv I734 rfl (hrec  I734.1 (show 0 ≤ (F732 8) ∧ (F732 8) ≤ (F732 7) ∧ (F732 7) ≤ 700 ∧ 0 ≤ (F732 20) ∧ (F732 20) ≤ 30 ∧ 0 ≤ (F732 21) ∧ (F732 21) ≤ 12 ∧ 0 ≤ (F732 18) ∧ (F732 18) ≤ 12 ∧ 0 ≤ (F732 23) ∧ (F732 23) ≤ 1000000 ∧ ((F732 9) = 2 → 0 ≤ (F732 11) ∧ (F732 11) ≤ 9) ∧ 0 ≤ (F732 9) ∧ (F732 9) ≤ 4 by omega) (show nm ((A699 16)) ((A699 17)) ((F732 18)) by rw [((k703 16 (by decide)).trans (hA 16 (by decide))), ((k703 17 (by decide)).trans (hA 17 (by decide))), ((k736 18 (by decide)).trans ((k713 18 (by decide)).trans ((k702 18 (by decide)).trans (hF 18 (by decide)))))]; exact p2) (show (12 - (F732 21)) + (30 - (F732 20)) < (gk : Int) by omega)) (Nat.ble_eq_true_of_le (by omega)) rfl rfl I734.rc ?_
                      rintro h752 F753 A754 I755 ⟨k757, k758, p756⟩
                      replace p756 : ((F732 8) ≤ F753 8 ∧ F753 8 ≤ (F732 7) ∧ (F732 20) ≤ F753 20 ∧ F753 20 ≤ 30 ∧ F753 21 = (F732 21) ∧ (F732 23) ≤ F753 23 ∧ F753 23 ≤ 1000000 ∧ (F753 9 = 2 → 0 ≤ F753 11 ∧ F753 11 ≤ 9) ∧ 0 ≤ F753 9 ∧ F753 9 ≤ 4) ∧ (F753 6 = 0 → F753 20 = (F732 20) ∧ (F732 6) = 0 ∧ (F753 9 = 0 ∨ (F732 8) < F753 8)) ∧ (F753 6 = 0 → F753 23 ≤ 124 → rd1 (A754 22) ((A699 22)) ((F732 23)) (F753 23) ((F732 20))) := p756
                      obtain ⟨p756a, p756b, p756c⟩ := p756
                      show am_Ok _ _ _ (119, _, [], _, 0, 0) _
                      refine k_aload 120 rfl (gs_ne rfl rfl g0) rfl ?_
                      refine k_dup 121 rfl rfl rfl ?_
                      refine r_gI I755 124 rfl rfl rfl (fun x759 (e760 : x759.toInt = F753 20) => ?_)
                      refine k_iload 125 rfl gs_eq rfl ?_
                      obtain ⟨x761, q762⟩ : ∃ q : Int32, q = (x759 - x693) := ⟨_, rfl⟩
                      have e763 : x761.toInt = x759.toInt - x693.toInt := by rw [q762, iv_sub (by omega) (by omega)]
                      refine k_bin x761 126 rfl q762.symm rfl ?_
                      refine r_pI I755 129 rfl rfl rfl (fun h764 I765 => ?_)
                      exact k_fin rfl rfl ⟨_, _, _, rfl, I765, (fr1.up (by decide) (fr1.tr (by decide) (fr1.tr (by decide) (fr1.tr (by decide) (fr1.tr (by decide) (fr1.up (by decide) hF) k702) k713) k736) k757)), (fr2.tr (by decide) (fr2.tr (by decide) hA k703) k758), ⟨(show (F0 8 ≤ F753 8 ∧ F753 8 ≤ F0 7 ∧ F0 20 ≤ x761.toInt ∧ x761.toInt ≤ 30 ∧ F753 21 = F0 21 ∧ F0 23 ≤ F753 23 ∧ F753 23 ≤ 1000000 ∧ (F753 9 = 2 → 0 ≤ F753 11 ∧ F753 11 ≤ 9) ∧ 0 ≤ F753 9 ∧ F753 9 ≤ 4) by omega), (show (F753 6 = 0 → x761.toInt = F0 20 ∧ F0 6 = 0 ∧ (F753 9 = 0 ∨ F0 8 < F753 8)) by omega), fun z1 z2 => by have z8 : F753 6 = 0 := z1; have z9 : F753 23 ≤ 124 := z2; have h9 := p756c (by omega) (by omega); show rd1 (A754 22) (A0 22) (F0 23) (F753 23) (F0 20); exact fu_end (hfu (by omega)) (by omega) (rd_cg h9 (by omega) (by omega) rfl) (by omega)⟩⟩
                  · refine k_c1 11 rfl rfl (if_neg b719) ?_
                    have b719 := mt iv_eq0.mpr b719
                    refine k_push 12 rfl rfl ?_
                    refine k_fin rfl (fin_Z (Or.inl rfl)) ⟨_, _, rfl, rf_len I711 I711, ?_⟩
                    show am_Ok _ _ _ (98, _, [.inl (0 : Int32)], _, 0, 0) _
                    refine k_c1 109 rfl rfl (if_pos (by decide)) ?_
                    refine k_aload 110 rfl (gs_ne rfl rfl g0) rfl ?_
                    refine k_push 112 rfl rfl ?_
                    have hc766 : (46 : Int32).toInt = 46 := by decide
                    have e767 : F709 7 = F698 7 := k713 7 (by decide)
                    refine k_rv I711 rfl (m_must  I711.1 (show 0 ≤ (F709 8) ∧ (F709 8) ≤ (F709 7) ∧ (F709 7) ≤ 700 ∧ ((F709 9) = 2 → 0 ≤ (F709 11) ∧ (F709 11) ≤ 9) ∧ 0 ≤ (F709 9) ∧ (F709 9) ≤ 4 by omega)) (Nat.ble_eq_true_of_le (by omega)) rfl rfl I711.rc ?_
                    rintro h769 F770 A771 I772 ⟨k774, k775, p773⟩
                    replace p773 : ((F709 8) ≤ F770 8 ∧ F770 8 ≤ (F709 7)) ∧ (F770 6 = 0 → (F709 6) = 0 ∧ (F770 9 = 0 ∨ (F709 8) < F770 8)) ∧ (F770 9 = 2 → 0 ≤ F770 11 ∧ F770 11 ≤ 9) ∧ (0 ≤ F770 9 ∧ F770 9 ≤ 4) := p773
                    obtain ⟨p773a, p773b, p773c, p773d⟩ := p773
                    have k775 := fr2.nil k775
                    subst k775
                    show am_Ok _ _ _ (115, _, [], _, 0, 0) _
                    refine k_aload 116 rfl (gs_ne rfl rfl g0) rfl ?_
                    have e776 : F770 7 = F709 7 := k774 7 (by decide)
                    have e777 : F770 20 = F709 20 := k774 20 (by decide)
                    have e778 : F709 20 = F698 20 := k713 20 (by decide)
                    have e779 : F698 20 = x688.toInt := k702 20 (by decide)
                    have e780 : F770 21 = F709 21 := k774 21 (by decide)
                    have e781 : F709 21 = F698 21 := k713 21 (by decide)
                    have e782 : F698 21 = F 21 := k702 21 (by decide)
                    have e783 : F770 18 = F709 18 := k774 18 (by decide)
                    have e784 : F709 18 = F698 18 := k713 18 (by decide)
                    have e785 : F698 18 = F 18 := k702 18 (by decide)
                    have e786 : F 18 = F0 18 := hF 18 (by decide)
                    have e787 : F770 23 = F709 23 := k774 23 (by decide)
                    have e788 : F709 23 = F698 23 := k713 23 (by decide)
                    refine k_rv I772 rfl (hrec  I772.1 (show 0 ≤ (F770 8) ∧ (F770 8) ≤ (F770 7) ∧ (F770 7) ≤ 700 ∧ 0 ≤ (F770 20) ∧ (F770 20) ≤ 30 ∧ 0 ≤ (F770 21) ∧ (F770 21) ≤ 12 ∧ 0 ≤ (F770 18) ∧ (F770 18) ≤ 12 ∧ 0 ≤ (F770 23) ∧ (F770 23) ≤ 1000000 ∧ ((F770 9) = 2 → 0 ≤ (F770 11) ∧ (F770 11) ≤ 9) ∧ 0 ≤ (F770 9) ∧ (F770 9) ≤ 4 by omega) (show nm ((A699 16)) ((A699 17)) ((F770 18)) by rw [((k703 16 (by decide)).trans (hA 16 (by decide))), ((k703 17 (by decide)).trans (hA 17 (by decide))), ((k774 18 (by decide)).trans ((k713 18 (by decide)).trans ((k702 18 (by decide)).trans (hF 18 (by decide)))))]; exact p2) (show (12 - (F770 21)) + (30 - (F770 20)) < (gk : Int) by omega)) (Nat.ble_eq_true_of_le (by omega)) rfl rfl I772.rc ?_
                    rintro h790 F791 A792 I793 ⟨k795, k796, p794⟩
                    replace p794 : ((F770 8) ≤ F791 8 ∧ F791 8 ≤ (F770 7) ∧ (F770 20) ≤ F791 20 ∧ F791 20 ≤ 30 ∧ F791 21 = (F770 21) ∧ (F770 23) ≤ F791 23 ∧ F791 23 ≤ 1000000 ∧ (F791 9 = 2 → 0 ≤ F791 11 ∧ F791 11 ≤ 9) ∧ 0 ≤ F791 9 ∧ F791 9 ≤ 4) ∧ (F791 6 = 0 → F791 20 = (F770 20) ∧ (F770 6) = 0 ∧ (F791 9 = 0 ∨ (F770 8) < F791 8)) ∧ (F791 6 = 0 → F791 23 ≤ 124 → rd1 (A792 22) ((A699 22)) ((F770 23)) (F791 23) ((F770 20))) := p794
                    obtain ⟨p794a, p794b, p794c⟩ := p794
                    show am_Ok _ _ _ (119, _, [], _, 0, 0) _
                    refine k_aload 120 rfl (gs_ne rfl rfl g0) rfl ?_
                    refine k_dup 121 rfl rfl rfl ?_
                    refine r_gI I793 124 rfl rfl rfl (fun x797 (e798 : x797.toInt = F791 20) => ?_)
                    refine k_iload 125 rfl gs_eq rfl ?_
                    obtain ⟨x799, q800⟩ : ∃ q : Int32, q = (x797 - x693) := ⟨_, rfl⟩
                    have e801 : x799.toInt = x797.toInt - x693.toInt := by rw [q800, iv_sub (by omega) (by omega)]
                    refine k_bin x799 126 rfl q800.symm rfl ?_
                    refine r_pI I793 129 rfl rfl rfl (fun h802 I803 => ?_)
                    exact k_fin rfl rfl ⟨_, _, _, rfl, I803, (fr1.up (by decide) (fr1.tr (by decide) (fr1.tr (by decide) (fr1.tr (by decide) (fr1.tr (by decide) (fr1.up (by decide) hF) k702) k713) k774) k795)), (fr2.tr (by decide) (fr2.tr (by decide) hA k703) k796), ⟨(show (F0 8 ≤ F791 8 ∧ F791 8 ≤ F0 7 ∧ F0 20 ≤ x799.toInt ∧ x799.toInt ≤ 30 ∧ F791 21 = F0 21 ∧ F0 23 ≤ F791 23 ∧ F791 23 ≤ 1000000 ∧ (F791 9 = 2 → 0 ≤ F791 11 ∧ F791 11 ≤ 9) ∧ 0 ≤ F791 9 ∧ F791 9 ≤ 4) by omega), (show (F791 6 = 0 → x799.toInt = F0 20 ∧ F0 6 = 0 ∧ (F791 9 = 0 ∨ F0 8 < F791 8)) by omega), fun z1 z2 => by have z8 : F791 6 = 0 := z1; have z9 : F791 23 ≤ 124 := z2; have h9 := p794c (by omega) (by omega); show rd1 (A792 22) (A0 22) (F0 23) (F791 23) (F0 20); exact fu_end (hfu (by omega)) (by omega) (rd_cg h9 (by omega) (by omega) rfl) (by omega)⟩⟩
                · refine k_c1 11 rfl rfl (if_neg b680) ?_
                  have b680 := mt iv_eq0.mpr b680
                  refine k_push 12 rfl rfl ?_
                  refine k_fin rfl (fin_Z (Or.inl rfl)) ⟨_, _, rfl, rf_len hI hI, ?_⟩
                  show am_Ok _ _ _ (28, _, [.inl (0 : Int32)], _, 0, 0) _
                  refine k_fin rfl (fin_Z (Or.inl rfl)) ⟨_, _, rfl, rf_len hI hI, ?_⟩
                  show am_Ok _ _ _ (55, _, [.inl (0 : Int32)], _, 0, 0) _
                  refine k_c1 58 rfl rfl (if_pos (by decide)) ?_
                  exact k_fin rfl rfl ⟨_, _, _, rfl, hI, hF, hA, ⟨(show (F0 8 ≤ F 8 ∧ F 8 ≤ F0 7 ∧ F0 20 ≤ F 20 ∧ F 20 ≤ 30 ∧ F 21 = F0 21 ∧ F0 23 ≤ F 23 ∧ F 23 ≤ 1000000 ∧ (F 9 = 2 → 0 ≤ F 11 ∧ F 11 ≤ 9) ∧ 0 ≤ F 9 ∧ F 9 ≤ 4) by omega), (show (F 6 = 0 → F 20 = F0 20 ∧ F0 6 = 0 ∧ (F 9 = 0 ∨ F0 8 < F 8)) by omega), fun z => absurd (show F 6 = 0 from z) (by omega)⟩⟩
        · refine k_c1 11 rfl rfl (if_neg b10) ?_
          have b10 := mt iv_eq0.mpr b10
          refine k_push 12 rfl rfl ?_
          have hc804 : (0 : Int32).toInt = 0 := by decide
          refine k_fin rfl (fin_Z (Or.inl rfl)) ⟨_, _, rfl, rf_len hI hI, ?_⟩
          show am_Ok _ _ _ (28, _, [.inl (0 : Int32)], _, 0, 0) _
          refine k_fin rfl (fin_Z (Or.inl rfl)) ⟨_, _, rfl, rf_len hI hI, ?_⟩
          show am_Ok _ _ _ (24, _, [.inl (0 : Int32)], _, 0, 0) _
          refine k_c1 58 rfl rfl (if_pos (by decide)) ?_
          exact k_fin rfl rfl ⟨_, _, _, rfl, hI, hF, hA, ⟨(show (F0 8 ≤ F 8 ∧ F 8 ≤ F0 7 ∧ F0 20 ≤ F 20 ∧ F 20 ≤ 30 ∧ F 21 = F0 21 ∧ F0 23 ≤ F 23 ∧ F 23 ≤ 1000000 ∧ (F 9 = 2 → 0 ≤ F 11 ∧ F 11 ≤ 9) ∧ 0 ≤ F 9 ∧ F 9 ≤ 4) by omega), (show (F 6 = 0 → F 20 = F0 20 ∧ F0 6 = 0 ∧ (F 9 = 0 ∨ F0 8 < F 8)) by omega), fun z => absurd (show F 6 = 0 from z) (by omega)⟩⟩
      · refine k_c1 11 rfl rfl (if_neg b7) ?_
        have b7 := mt iv_eq0.mpr b7
        refine k_push 12 rfl rfl ?_
        have hc805 : (0 : Int32).toInt = 0 := by decide
        refine k_fin rfl (fin_Z (Or.inl rfl)) ⟨_, _, rfl, rf_len hI hI, ?_⟩
        show am_Ok _ _ _ (4, _, [.inl (0 : Int32)], _, 0, 0) _
        refine k_c1 24 rfl rfl (if_pos (by decide)) ?_
        refine k_aload 25 rfl rfl rfl ?_
        refine k_in (d := 0) rfl (Nat.ble_eq_true_of_le (by omega)) rfl rfl hI.rc ?_
        refine k_aload 1 rfl rfl rfl ?_
        refine r_gI hI 4 rfl rfl rfl (fun x806 (e807 : x806.toInt = F 6) => ?_)
        by_cases b808 : x806 = 0
        · refine k_c1 7 rfl rfl (if_pos b808) ?_
          have b808 := iv_eq0.mp b808
          refine k_push 8 rfl rfl ?_
          refine k_goto 12 rfl rfl ?_
          refine k_fin rfl (fin_Z (Or.inr rfl)) ⟨_, _, rfl, rf_len hI hI, ?_⟩
          show am_Ok _ _ _ (28, _, [.inl (1 : Int32)], _, 0, 0) _
          refine k_fin rfl (fin_Z (Or.inr rfl)) ⟨_, _, rfl, rf_len hI hI, ?_⟩
          show am_Ok _ _ _ (24, _, [.inl (1 : Int32)], _, 0, 0) _
          refine k_c1 27 rfl rfl (if_neg (by decide)) ?_
          refine k_aload 28 rfl g0 rfl ?_
          refine k_aload 29 rfl g0 rfl ?_
          refine r_gI hI 32 rfl rfl rfl (fun x809 (e810 : x809.toInt = F 14) => ?_)
          refine k_push 34 rfl rfl ?_
          have hc811 : (8 : Int32).toInt = 8 := by decide
          by_cases b812 : (8 : Int32) < x809
          · refine k_c2 50 rfl rfl (if_pos b812) ?_
            have b812 := iv_lt.mp b812
            refine k_push 51 rfl rfl ?_
            refine k_push 52 rfl rfl ?_
            have hc813 : (2 : Int32).toInt = 2 := by decide
            refine k_in (d := 1) rfl (Nat.ble_eq_true_of_le (by omega)) rfl rfl hI.rc ?_
            refine k_aload 1 rfl rfl rfl ?_
            refine k_in (d := 0) rfl (Nat.ble_eq_true_of_le (by omega)) rfl rfl hI.rc ?_
            refine k_aload 1 rfl rfl rfl ?_
            refine r_gI hI 4 rfl rfl rfl (fun x814 (e815 : x814.toInt = F 6) => ?_)
            by_cases b816 : x814 = 0
            · refine k_c1 7 rfl rfl (if_pos b816) ?_
              have b816 := iv_eq0.mp b816
              refine k_push 8 rfl rfl ?_
              refine k_goto 12 rfl rfl ?_
              refine k_fin rfl (fin_Z (Or.inr rfl)) ⟨_, _, rfl, rf_len hI hI, ?_⟩
              show am_Ok _ _ _ (4, _, [.inl (1 : Int32)], _, 0, 0) _
              refine k_c1 7 rfl rfl (if_neg (by decide)) ?_
              refine k_iload 8 rfl rfl rfl ?_
              refine k_c1 11 rfl rfl (if_pos (by decide)) ?_
              refine k_aload 12 rfl rfl rfl ?_
              refine k_iload 13 rfl rfl rfl ?_
              refine r_pI hI 16 rfl rfl rfl (fun h817 I818 => ?_)
              refine k_aload 17 rfl rfl rfl ?_
              refine k_aload 18 rfl rfl rfl ?_
              refine r_gI I818 21 rfl rfl rfl (fun x819 (e820 : x819.toInt = F 10) => ?_)
              refine r_pI I818 24 rfl rfl rfl (fun h821 I822 => ?_)
              refine k_aload 25 rfl rfl rfl ?_
              refine k_in (d := 0) rfl (Nat.ble_eq_true_of_le (by omega)) rfl rfl I822.rc ?_
              refine k_aload 1 rfl rfl rfl ?_
              refine r_gI I822 4 rfl rfl rfl (fun x823 (e824 : x823.toInt = (2 : Int32).toInt) => ?_)
              by_cases b825 : x823 = 0
              · refine k_c1 7 rfl rfl (if_pos b825) ?_
                have b825 := iv_eq0.mp b825
                refine k_push 8 rfl rfl ?_
                refine k_goto 12 rfl rfl ?_
                refine k_fin rfl (fin_Z (Or.inr rfl)) ⟨_, _, rfl, rf_len I822 I822, ?_⟩
                show am_Ok _ _ _ (28, _, [.inl (1 : Int32)], _, 0, 0) _
                refine k_fin rfl (fin_Z (Or.inr rfl)) ⟨_, _, rfl, rf_len hI I822, ?_⟩
                show am_Ok _ _ _ (55, _, [.inl (1 : Int32)], _, 0, 0) _
                refine k_c1 59 rfl rfl (if_neg (by decide)) ?_
                refine k_aload 60 rfl g0 rfl ?_
                refine r_gA I822 63 rfl rfl rfl ?_
                refine k_aload 64 rfl g0 rfl ?_
                refine r_gI I822 67 rfl rfl rfl (fun x826 (e827 : x826.toInt = F 20) => ?_)
                refine k_aload 68 rfl g0 rfl ?_
                refine r_gJ I822 71 rfl rfl rfl (fun y828 => ?_)
                refine r_lst 19 I822 72 rfl rfl (by omega) (show x826.toInt < 31 by omega) rfl (fun h829 I830 => ?_)
                refine k_aload 73 rfl g0 rfl ?_
                refine k_dup 74 rfl rfl rfl ?_
                refine r_gI I830 77 rfl rfl rfl (fun x831 (e832 : x831.toInt = F 20) => ?_)
                refine k_push 78 rfl rfl ?_
                obtain ⟨x833, q834⟩ : ∃ q : Int32, q = (x831 + (1 : Int32)) := ⟨_, rfl⟩
                have e835 : x833.toInt = x831.toInt + 1 := by rw [q834, iv_add (by omega) (by omega)]; omega
                refine k_bin x833 79 rfl q834.symm rfl ?_
                refine r_pI I830 82 rfl rfl rfl (fun h836 I837 => ?_)
                obtain ⟨x838, q839⟩ : ∃ q : Int32, q = v1 + (1 : Int32) := ⟨_, rfl⟩
                have e840 : x838.toInt = v1.toInt + 1 := by rw [q839, iv_add (by omega) (by omega)]; omega
                refine k_iinc x838 85 rfl g1 q839.symm rfl ?_
                refine k_aload 86 rfl (gs_ne rfl rfl g0) rfl ?_
                refine k_push 87 rfl rfl ?_
                refine k_rv I837 rfl (m_emits  I837.1 (show 0 ≤ (F 23) ∧ (F 23) ≤ 1000000 by omega)) (Nat.ble_eq_true_of_le (by omega)) rfl rfl I837.rc ?_
                rintro h842 F843 A844 I845 ⟨k847, k848, p846⟩
                replace p846 : ((F 23) ≤ F843 23 ∧ F843 23 ≤ 1000000) ∧ (F843 23 ≤ 124 → F843 23 = (F 23) + 1) ∧ (F843 23 ≤ 124 → A844 22 ((F 23)) = (1 : Int32).toInt ∧ ∀ q : Int, q ≠ (F 23) → A844 22 q = (A 22) q) := p846
                obtain ⟨p846a, p846b, p846c⟩ := p846
                show am_Ok _ _ _ (90, _, [], _, 0, 0) _
                have hfu : F843 23 ≤ 124 → fu (A844 22) (A0 22) (F0 23) (F843 23) (v1.toInt + 1) := fun z9 => fu_s (i2 (by omega)) (p846b z9) ((p846c z9).1.trans (by decide)) (p846c z9).2 (by omega) rfl
                refine k_aload 91 rfl (gs_ne rfl rfl g0) rfl ?_
                have e849 : F843 8 = F 8 := k847 8 (by decide)
                have e850 : F843 7 = F 7 := k847 7 (by decide)
                have e851 : F 7 = F0 7 := hF 7 (by decide)
                refine k_rv I845 rfl (m_goes  I845.1 (show 0 ≤ (F843 8) ∧ (F843 8) ≤ (F843 7) ∧ (F843 7) ≤ 700 by omega)) (Nat.ble_eq_true_of_le (by omega)) rfl rfl I845.rc ?_
                rintro h853 F854 A855 I856 ⟨k858, k859, p857⟩
                replace p857 : ((F843 8) ≤ F854 8 ∧ F854 8 ≤ (F843 7)) ∧ (F854 9 = 0 ∨ (F843 8) < F854 8) ∧ (F854 9 = 2 → 0 ≤ F854 11 ∧ F854 11 ≤ 9) ∧ (0 ≤ F854 9 ∧ F854 9 ≤ 4) := p857
                obtain ⟨p857a, p857b, p857c, p857d⟩ := p857
                have k859 := fr2.nil k859
                subst k859
                show am_Ok _ _ _ (94, _, [], _, 0, 0) _
                refine k_aload 95 rfl (gs_ne rfl rfl g0) rfl ?_
                refine k_in (d := 0) rfl (Nat.ble_eq_true_of_le (by omega)) rfl rfl I856.rc ?_
                refine k_aload 1 rfl rfl rfl ?_
                refine r_gI I856 4 rfl rfl rfl (fun x860 (e861 : x860.toInt = F854 6) => ?_)
                have e862 : F854 6 = F843 6 := k858 6 (by decide)
                have e863 : F843 6 = (2 : Int32).toInt := k847 6 (by decide)
                by_cases b864 : x860 = 0
                · refine k_c1 7 rfl rfl (if_pos b864) ?_
                  have b864 := iv_eq0.mp b864
                  refine k_push 8 rfl rfl ?_
                  refine k_goto 12 rfl rfl ?_
                  refine k_fin rfl (fin_Z (Or.inr rfl)) ⟨_, _, rfl, rf_len I856 I856, ?_⟩
                  show am_Ok _ _ _ (98, _, [.inl (1 : Int32)], _, 0, 0) _
                  refine k_c1 101 rfl rfl (if_neg (by decide)) ?_
                  refine k_aload 102 rfl (gs_ne rfl rfl g0) rfl ?_
                  refine r_gI I856 105 rfl rfl rfl (fun x865 (e866 : x865.toInt = F854 9) => ?_)
                  refine k_push 106 rfl rfl ?_
                  by_cases b867 : x865 = (1 : Int32)
                  · refine k_c2 6 rfl rfl (if_pos b867) ?_
                    have b867 := iv_eq.mp b867
                    have e868 : F854 20 = F843 20 := k858 20 (by decide)
                    have e869 : F843 20 = x833.toInt := k847 20 (by decide)
                    have e870 : F854 21 = F843 21 := k858 21 (by decide)
                    have e871 : F843 21 = F 21 := k847 21 (by decide)
                    have e872 : F854 23 = F843 23 := k858 23 (by decide)
                    exact ih _ (show ((31 - x838.toInt).toNat) < n by omega)  rfl (gs_ne rfl rfl g0) gs_eq I856 (fr1.tr (by decide) (fr1.tr (by decide) (fr1.up (by decide) (fr1.up (by decide) (fr1.up (by decide) hF))) k847) k858) (fr2.tr (by decide) hA k848) (show F0 8 ≤ (F854 8) ∧ (F854 8) ≤ F0 7 ∧ (F854 20) = F0 20 + x838.toInt ∧ 0 ≤ x838.toInt ∧ (F854 20) ≤ 30 ∧ (F854 21) = F0 21 ∧ F0 23 ≤ (F854 23) ∧ (F854 23) ≤ 1000000 ∧ ((F854 9) = 2 → 0 ≤ (F854 11) ∧ (F854 11) ≤ 9) ∧ 0 ≤ (F854 9) ∧ (F854 9) ≤ 4 ∧ (F854 6) = 0 by omega) (fun z => by have z9 : F854 23 ≤ 124 := z; show fu (A844 22) (A0 22) (F0 23) (F854 23) x838.toInt; exact fu_cg (hfu (by omega)) (by omega) (by omega))
                  · refine k_c2 109 rfl rfl (if_neg b867) ?_
                    have b867 := mt iv_eq.mpr b867
                    refine k_aload 110 rfl (gs_ne rfl rfl g0) rfl ?_
                    refine k_push 112 rfl rfl ?_
                    have hc873 : (46 : Int32).toInt = 46 := by decide
                    have e874 : F854 7 = F843 7 := k858 7 (by decide)
                    refine k_rv I856 rfl (m_must  I856.1 (show 0 ≤ (F854 8) ∧ (F854 8) ≤ (F854 7) ∧ (F854 7) ≤ 700 ∧ ((F854 9) = 2 → 0 ≤ (F854 11) ∧ (F854 11) ≤ 9) ∧ 0 ≤ (F854 9) ∧ (F854 9) ≤ 4 by omega)) (Nat.ble_eq_true_of_le (by omega)) rfl rfl I856.rc ?_
                    rintro h876 F877 A878 I879 ⟨k881, k882, p880⟩
                    replace p880 : ((F854 8) ≤ F877 8 ∧ F877 8 ≤ (F854 7)) ∧ (F877 6 = 0 → (F854 6) = 0 ∧ (F877 9 = 0 ∨ (F854 8) < F877 8)) ∧ (F877 9 = 2 → 0 ≤ F877 11 ∧ F877 11 ≤ 9) ∧ (0 ≤ F877 9 ∧ F877 9 ≤ 4) := p880
                    obtain ⟨p880a, p880b, p880c, p880d⟩ := p880
                    have k882 := fr2.nil k882
                    subst k882
                    show am_Ok _ _ _ (115, _, [], _, 0, 0) _
                    refine k_aload 116 rfl (gs_ne rfl rfl g0) rfl ?_
                    have e883 : F877 7 = F854 7 := k881 7 (by decide)
                    have e884 : F877 20 = F854 20 := k881 20 (by decide)
                    have e885 : F854 20 = F843 20 := k858 20 (by decide)
                    have e886 : F843 20 = x833.toInt := k847 20 (by decide)
                    have e887 : F877 21 = F854 21 := k881 21 (by decide)
                    have e888 : F854 21 = F843 21 := k858 21 (by decide)
                    have e889 : F843 21 = F 21 := k847 21 (by decide)
                    have e890 : F877 18 = F854 18 := k881 18 (by decide)
                    have e891 : F854 18 = F843 18 := k858 18 (by decide)
                    have e892 : F843 18 = F 18 := k847 18 (by decide)
                    have e893 : F 18 = F0 18 := hF 18 (by decide)
                    have e894 : F877 23 = F854 23 := k881 23 (by decide)
                    have e895 : F854 23 = F843 23 := k858 23 (by decide)
                    refine k_rv I879 rfl (hrec  I879.1 (show 0 ≤ (F877 8) ∧ (F877 8) ≤ (F877 7) ∧ (F877 7) ≤ 700 ∧ 0 ≤ (F877 20) ∧ (F877 20) ≤ 30 ∧ 0 ≤ (F877 21) ∧ (F877 21) ≤ 12 ∧ 0 ≤ (F877 18) ∧ (F877 18) ≤ 12 ∧ 0 ≤ (F877 23) ∧ (F877 23) ≤ 1000000 ∧ ((F877 9) = 2 → 0 ≤ (F877 11) ∧ (F877 11) ≤ 9) ∧ 0 ≤ (F877 9) ∧ (F877 9) ≤ 4 by omega) (show nm ((A844 16)) ((A844 17)) ((F877 18)) by rw [((k848 16 (by decide)).trans (hA 16 (by decide))), ((k848 17 (by decide)).trans (hA 17 (by decide))), ((k881 18 (by decide)).trans ((k858 18 (by decide)).trans ((k847 18 (by decide)).trans (hF 18 (by decide)))))]; exact p2) (show (12 - (F877 21)) + (30 - (F877 20)) < (gk : Int) by omega)) (Nat.ble_eq_true_of_le (by omega)) rfl rfl I879.rc ?_
                    rintro h897 F898 A899 I900 ⟨k902, k903, p901⟩
                    replace p901 : ((F877 8) ≤ F898 8 ∧ F898 8 ≤ (F877 7) ∧ (F877 20) ≤ F898 20 ∧ F898 20 ≤ 30 ∧ F898 21 = (F877 21) ∧ (F877 23) ≤ F898 23 ∧ F898 23 ≤ 1000000 ∧ (F898 9 = 2 → 0 ≤ F898 11 ∧ F898 11 ≤ 9) ∧ 0 ≤ F898 9 ∧ F898 9 ≤ 4) ∧ (F898 6 = 0 → F898 20 = (F877 20) ∧ (F877 6) = 0 ∧ (F898 9 = 0 ∨ (F877 8) < F898 8)) ∧ (F898 6 = 0 → F898 23 ≤ 124 → rd1 (A899 22) ((A844 22)) ((F877 23)) (F898 23) ((F877 20))) := p901
                    obtain ⟨p901a, p901b, p901c⟩ := p901
                    show am_Ok _ _ _ (119, _, [], _, 0, 0) _
                    refine k_aload 120 rfl (gs_ne rfl rfl g0) rfl ?_
                    refine k_dup 121 rfl rfl rfl ?_
                    refine r_gI I900 124 rfl rfl rfl (fun x904 (e905 : x904.toInt = F898 20) => ?_)
                    refine k_iload 125 rfl gs_eq rfl ?_
                    obtain ⟨x906, q907⟩ : ∃ q : Int32, q = (x904 - x838) := ⟨_, rfl⟩
                    have e908 : x906.toInt = x904.toInt - x838.toInt := by rw [q907, iv_sub (by omega) (by omega)]
                    refine k_bin x906 126 rfl q907.symm rfl ?_
                    refine r_pI I900 129 rfl rfl rfl (fun h909 I910 => ?_)
                    exact k_fin rfl rfl ⟨_, _, _, rfl, I910, (fr1.up (by decide) (fr1.tr (by decide) (fr1.tr (by decide) (fr1.tr (by decide) (fr1.tr (by decide) (fr1.up (by decide) (fr1.up (by decide) (fr1.up (by decide) hF))) k847) k858) k881) k902)), (fr2.tr (by decide) (fr2.tr (by decide) hA k848) k903), ⟨(show (F0 8 ≤ F898 8 ∧ F898 8 ≤ F0 7 ∧ F0 20 ≤ x906.toInt ∧ x906.toInt ≤ 30 ∧ F898 21 = F0 21 ∧ F0 23 ≤ F898 23 ∧ F898 23 ≤ 1000000 ∧ (F898 9 = 2 → 0 ≤ F898 11 ∧ F898 11 ≤ 9) ∧ 0 ≤ F898 9 ∧ F898 9 ≤ 4) by omega), (show (F898 6 = 0 → x906.toInt = F0 20 ∧ F0 6 = 0 ∧ (F898 9 = 0 ∨ F0 8 < F898 8)) by omega), fun z1 z2 => by have z8 : F898 6 = 0 := z1; have z9 : F898 23 ≤ 124 := z2; have h9 := p901c (by omega) (by omega); show rd1 (A899 22) (A0 22) (F0 23) (F898 23) (F0 20); exact fu_end (hfu (by omega)) (by omega) (rd_cg h9 (by omega) (by omega) rfl) (by omega)⟩⟩
                · refine k_c1 11 rfl rfl (if_neg b864) ?_
                  have b864 := mt iv_eq0.mpr b864
                  refine k_push 12 rfl rfl ?_
                  refine k_fin rfl (fin_Z (Or.inl rfl)) ⟨_, _, rfl, rf_len I856 I856, ?_⟩
                  show am_Ok _ _ _ (98, _, [.inl (0 : Int32)], _, 0, 0) _
                  refine k_c1 109 rfl rfl (if_pos (by decide)) ?_
                  refine k_aload 110 rfl (gs_ne rfl rfl g0) rfl ?_
                  refine k_push 112 rfl rfl ?_
                  have hc911 : (46 : Int32).toInt = 46 := by decide
                  have e912 : F854 7 = F843 7 := k858 7 (by decide)
                  refine k_rv I856 rfl (m_must  I856.1 (show 0 ≤ (F854 8) ∧ (F854 8) ≤ (F854 7) ∧ (F854 7) ≤ 700 ∧ ((F854 9) = 2 → 0 ≤ (F854 11) ∧ (F854 11) ≤ 9) ∧ 0 ≤ (F854 9) ∧ (F854 9) ≤ 4 by omega)) (Nat.ble_eq_true_of_le (by omega)) rfl rfl I856.rc ?_
                  rintro h914 F915 A916 I917 ⟨k919, k920, p918⟩
                  replace p918 : ((F854 8) ≤ F915 8 ∧ F915 8 ≤ (F854 7)) ∧ (F915 6 = 0 → (F854 6) = 0 ∧ (F915 9 = 0 ∨ (F854 8) < F915 8)) ∧ (F915 9 = 2 → 0 ≤ F915 11 ∧ F915 11 ≤ 9) ∧ (0 ≤ F915 9 ∧ F915 9 ≤ 4) := p918
                  obtain ⟨p918a, p918b, p918c, p918d⟩ := p918
                  have k920 := fr2.nil k920
                  subst k920
                  show am_Ok _ _ _ (115, _, [], _, 0, 0) _
                  refine k_aload 116 rfl (gs_ne rfl rfl g0) rfl ?_
                  have e921 : F915 7 = F854 7 := k919 7 (by decide)
                  have e922 : F915 20 = F854 20 := k919 20 (by decide)
                  have e923 : F854 20 = F843 20 := k858 20 (by decide)
                  have e924 : F843 20 = x833.toInt := k847 20 (by decide)
                  have e925 : F915 21 = F854 21 := k919 21 (by decide)
                  have e926 : F854 21 = F843 21 := k858 21 (by decide)
                  have e927 : F843 21 = F 21 := k847 21 (by decide)
                  have e928 : F915 18 = F854 18 := k919 18 (by decide)
                  have e929 : F854 18 = F843 18 := k858 18 (by decide)
                  have e930 : F843 18 = F 18 := k847 18 (by decide)
                  have e931 : F 18 = F0 18 := hF 18 (by decide)
                  have e932 : F915 23 = F854 23 := k919 23 (by decide)
                  have e933 : F854 23 = F843 23 := k858 23 (by decide)
                  refine k_rv I917 rfl (hrec  I917.1 (show 0 ≤ (F915 8) ∧ (F915 8) ≤ (F915 7) ∧ (F915 7) ≤ 700 ∧ 0 ≤ (F915 20) ∧ (F915 20) ≤ 30 ∧ 0 ≤ (F915 21) ∧ (F915 21) ≤ 12 ∧ 0 ≤ (F915 18) ∧ (F915 18) ≤ 12 ∧ 0 ≤ (F915 23) ∧ (F915 23) ≤ 1000000 ∧ ((F915 9) = 2 → 0 ≤ (F915 11) ∧ (F915 11) ≤ 9) ∧ 0 ≤ (F915 9) ∧ (F915 9) ≤ 4 by omega) (show nm ((A844 16)) ((A844 17)) ((F915 18)) by rw [((k848 16 (by decide)).trans (hA 16 (by decide))), ((k848 17 (by decide)).trans (hA 17 (by decide))), ((k919 18 (by decide)).trans ((k858 18 (by decide)).trans ((k847 18 (by decide)).trans (hF 18 (by decide)))))]; exact p2) (show (12 - (F915 21)) + (30 - (F915 20)) < (gk : Int) by omega)) (Nat.ble_eq_true_of_le (by omega)) rfl rfl I917.rc ?_
                  rintro h935 F936 A937 I938 ⟨k940, k941, p939⟩
                  replace p939 : ((F915 8) ≤ F936 8 ∧ F936 8 ≤ (F915 7) ∧ (F915 20) ≤ F936 20 ∧ F936 20 ≤ 30 ∧ F936 21 = (F915 21) ∧ (F915 23) ≤ F936 23 ∧ F936 23 ≤ 1000000 ∧ (F936 9 = 2 → 0 ≤ F936 11 ∧ F936 11 ≤ 9) ∧ 0 ≤ F936 9 ∧ F936 9 ≤ 4) ∧ (F936 6 = 0 → F936 20 = (F915 20) ∧ (F915 6) = 0 ∧ (F936 9 = 0 ∨ (F915 8) < F936 8)) ∧ (F936 6 = 0 → F936 23 ≤ 124 → rd1 (A937 22) ((A844 22)) ((F915 23)) (F936 23) ((F915 20))) := p939
                  obtain ⟨p939a, p939b, p939c⟩ := p939
                  show am_Ok _ _ _ (119, _, [], _, 0, 0) _
                  refine k_aload 120 rfl (gs_ne rfl rfl g0) rfl ?_
                  refine k_dup 121 rfl rfl rfl ?_
                  refine r_gI I938 124 rfl rfl rfl (fun x942 (e943 : x942.toInt = F936 20) => ?_)
                  refine k_iload 125 rfl gs_eq rfl ?_
                  obtain ⟨x944, q945⟩ : ∃ q : Int32, q = (x942 - x838) := ⟨_, rfl⟩
                  have e946 : x944.toInt = x942.toInt - x838.toInt := by rw [q945, iv_sub (by omega) (by omega)]
                  refine k_bin x944 126 rfl q945.symm rfl ?_
                  refine r_pI I938 129 rfl rfl rfl (fun h947 I948 => ?_)
                  exact k_fin rfl rfl ⟨_, _, _, rfl, I948, (fr1.up (by decide) (fr1.tr (by decide) (fr1.tr (by decide) (fr1.tr (by decide) (fr1.tr (by decide) (fr1.up (by decide) (fr1.up (by decide) (fr1.up (by decide) hF))) k847) k858) k919) k940)), (fr2.tr (by decide) (fr2.tr (by decide) hA k848) k941), ⟨(show (F0 8 ≤ F936 8 ∧ F936 8 ≤ F0 7 ∧ F0 20 ≤ x944.toInt ∧ x944.toInt ≤ 30 ∧ F936 21 = F0 21 ∧ F0 23 ≤ F936 23 ∧ F936 23 ≤ 1000000 ∧ (F936 9 = 2 → 0 ≤ F936 11 ∧ F936 11 ≤ 9) ∧ 0 ≤ F936 9 ∧ F936 9 ≤ 4) by omega), (show (F936 6 = 0 → x944.toInt = F0 20 ∧ F0 6 = 0 ∧ (F936 9 = 0 ∨ F0 8 < F936 8)) by omega), fun z1 z2 => by have z8 : F936 6 = 0 := z1; have z9 : F936 23 ≤ 124 := z2; have h9 := p939c (by omega) (by omega); show rd1 (A937 22) (A0 22) (F0 23) (F936 23) (F0 20); exact fu_end (hfu (by omega)) (by omega) (rd_cg h9 (by omega) (by omega) rfl) (by omega)⟩⟩
              · refine k_c1 11 rfl rfl (if_neg b825) ?_
                have b825 := mt iv_eq0.mpr b825
                refine k_push 12 rfl rfl ?_
                refine k_fin rfl (fin_Z (Or.inl rfl)) ⟨_, _, rfl, rf_len I822 I822, ?_⟩
                show am_Ok _ _ _ (28, _, [.inl (0 : Int32)], _, 0, 0) _
                refine k_fin rfl (fin_Z (Or.inl rfl)) ⟨_, _, rfl, rf_len hI I822, ?_⟩
                show am_Ok _ _ _ (55, _, [.inl (0 : Int32)], _, 0, 0) _
                refine k_c1 58 rfl rfl (if_pos (by decide)) ?_
                exact k_fin rfl rfl ⟨_, _, _, rfl, I822, (fr1.up (by decide) (fr1.up (by decide) hF)), hA, ⟨(show (F0 8 ≤ F 8 ∧ F 8 ≤ F0 7 ∧ F0 20 ≤ F 20 ∧ F 20 ≤ 30 ∧ F 21 = F0 21 ∧ F0 23 ≤ F 23 ∧ F 23 ≤ 1000000 ∧ (F 9 = 2 → 0 ≤ F 11 ∧ F 11 ≤ 9) ∧ 0 ≤ F 9 ∧ F 9 ≤ 4) by omega), (show ((2 : Int32).toInt = 0 → F 20 = F0 20 ∧ F0 6 = 0 ∧ (F 9 = 0 ∨ F0 8 < F 8)) by omega), fun z => absurd (show (2 : Int32).toInt = 0 from z) (by omega)⟩⟩
            · refine k_c1 11 rfl rfl (if_neg b816) ?_
              have b816 := mt iv_eq0.mpr b816
              refine k_push 12 rfl rfl ?_
              refine k_fin rfl (fin_Z (Or.inl rfl)) ⟨_, _, rfl, rf_len hI hI, ?_⟩
              show am_Ok _ _ _ (4, _, [.inl (0 : Int32)], _, 0, 0) _
              refine k_c1 24 rfl rfl (if_pos (by decide)) ?_
              refine k_aload 25 rfl rfl rfl ?_
              refine k_in (d := 0) rfl (Nat.ble_eq_true_of_le (by omega)) rfl rfl hI.rc ?_
              refine k_aload 1 rfl rfl rfl ?_
              refine r_gI hI 4 rfl rfl rfl (fun x949 (e950 : x949.toInt = F 6) => ?_)
              by_cases b951 : x949 = 0
              · refine k_c1 7 rfl rfl (if_pos b951) ?_
                have b951 := iv_eq0.mp b951
                refine k_push 8 rfl rfl ?_
                refine k_goto 12 rfl rfl ?_
                refine k_fin rfl (fin_Z (Or.inr rfl)) ⟨_, _, rfl, rf_len hI hI, ?_⟩
                show am_Ok _ _ _ (28, _, [.inl (1 : Int32)], _, 0, 0) _
                refine k_fin rfl (fin_Z (Or.inr rfl)) ⟨_, _, rfl, rf_len hI hI, ?_⟩
                show am_Ok _ _ _ (55, _, [.inl (1 : Int32)], _, 0, 0) _
                refine k_c1 59 rfl rfl (if_neg (by decide)) ?_
                refine k_aload 60 rfl g0 rfl ?_
                refine r_gA hI 63 rfl rfl rfl ?_
                refine k_aload 64 rfl g0 rfl ?_
                refine r_gI hI 67 rfl rfl rfl (fun x952 (e953 : x952.toInt = F 20) => ?_)
                refine k_aload 68 rfl g0 rfl ?_
                refine r_gJ hI 71 rfl rfl rfl (fun y954 => ?_)
                refine r_lst 19 hI 72 rfl rfl (by omega) (show x952.toInt < 31 by omega) rfl (fun h955 I956 => ?_)
                refine k_aload 73 rfl g0 rfl ?_
                refine k_dup 74 rfl rfl rfl ?_
                refine r_gI I956 77 rfl rfl rfl (fun x957 (e958 : x957.toInt = F 20) => ?_)
                refine k_push 78 rfl rfl ?_
                obtain ⟨x959, q960⟩ : ∃ q : Int32, q = (x957 + (1 : Int32)) := ⟨_, rfl⟩
                have e961 : x959.toInt = x957.toInt + 1 := by rw [q960, iv_add (by omega) (by omega)]; omega
                refine k_bin x959 79 rfl q960.symm rfl ?_
                refine r_pI I956 82 rfl rfl rfl (fun h962 I963 => ?_)
                obtain ⟨x964, q965⟩ : ∃ q : Int32, q = v1 + (1 : Int32) := ⟨_, rfl⟩
                have e966 : x964.toInt = v1.toInt + 1 := by rw [q965, iv_add (by omega) (by omega)]; omega
                refine k_iinc x964 85 rfl g1 q965.symm rfl ?_
                refine k_aload 86 rfl (gs_ne rfl rfl g0) rfl ?_
                refine k_push 87 rfl rfl ?_
                refine k_rv I963 rfl (m_emits  I963.1 (show 0 ≤ (F 23) ∧ (F 23) ≤ 1000000 by omega)) (Nat.ble_eq_true_of_le (by omega)) rfl rfl I963.rc ?_
                rintro h968 F969 A970 I971 ⟨k973, k974, p972⟩
                replace p972 : ((F 23) ≤ F969 23 ∧ F969 23 ≤ 1000000) ∧ (F969 23 ≤ 124 → F969 23 = (F 23) + 1) ∧ (F969 23 ≤ 124 → A970 22 ((F 23)) = (1 : Int32).toInt ∧ ∀ q : Int, q ≠ (F 23) → A970 22 q = (A 22) q) := p972
                obtain ⟨p972a, p972b, p972c⟩ := p972
                show am_Ok _ _ _ (90, _, [], _, 0, 0) _
                have hfu : F969 23 ≤ 124 → fu (A970 22) (A0 22) (F0 23) (F969 23) (v1.toInt + 1) := fun z9 => fu_s (i2 (by omega)) (p972b z9) ((p972c z9).1.trans (by decide)) (p972c z9).2 (by omega) rfl
                refine k_aload 91 rfl (gs_ne rfl rfl g0) rfl ?_
                have e975 : F969 8 = F 8 := k973 8 (by decide)
                have e976 : F969 7 = F 7 := k973 7 (by decide)
                have e977 : F 7 = F0 7 := hF 7 (by decide)
                refine k_rv I971 rfl (m_goes  I971.1 (show 0 ≤ (F969 8) ∧ (F969 8) ≤ (F969 7) ∧ (F969 7) ≤ 700 by omega)) (Nat.ble_eq_true_of_le (by omega)) rfl rfl I971.rc ?_
                rintro h979 F980 A981 I982 ⟨k984, k985, p983⟩
                replace p983 : ((F969 8) ≤ F980 8 ∧ F980 8 ≤ (F969 7)) ∧ (F980 9 = 0 ∨ (F969 8) < F980 8) ∧ (F980 9 = 2 → 0 ≤ F980 11 ∧ F980 11 ≤ 9) ∧ (0 ≤ F980 9 ∧ F980 9 ≤ 4) := p983
                obtain ⟨p983a, p983b, p983c, p983d⟩ := p983
                have k985 := fr2.nil k985
                subst k985
                show am_Ok _ _ _ (94, _, [], _, 0, 0) _
                refine k_aload 95 rfl (gs_ne rfl rfl g0) rfl ?_
                refine k_in (d := 0) rfl (Nat.ble_eq_true_of_le (by omega)) rfl rfl I982.rc ?_
                refine k_aload 1 rfl rfl rfl ?_
                refine r_gI I982 4 rfl rfl rfl (fun x986 (e987 : x986.toInt = F980 6) => ?_)
                have e988 : F980 6 = F969 6 := k984 6 (by decide)
                have e989 : F969 6 = F 6 := k973 6 (by decide)
                by_cases b990 : x986 = 0
                · refine k_c1 7 rfl rfl (if_pos b990) ?_
                  have b990 := iv_eq0.mp b990
                  refine k_push 8 rfl rfl ?_
                  refine k_goto 12 rfl rfl ?_
                  refine k_fin rfl (fin_Z (Or.inr rfl)) ⟨_, _, rfl, rf_len I982 I982, ?_⟩
                  show am_Ok _ _ _ (98, _, [.inl (1 : Int32)], _, 0, 0) _
                  refine k_c1 101 rfl rfl (if_neg (by decide)) ?_
                  refine k_aload 102 rfl (gs_ne rfl rfl g0) rfl ?_
                  refine r_gI I982 105 rfl rfl rfl (fun x991 (e992 : x991.toInt = F980 9) => ?_)
                  refine k_push 106 rfl rfl ?_
                  by_cases b993 : x991 = (1 : Int32)
                  · refine k_c2 6 rfl rfl (if_pos b993) ?_
                    have b993 := iv_eq.mp b993
                    have e994 : F980 20 = F969 20 := k984 20 (by decide)
                    have e995 : F969 20 = x959.toInt := k973 20 (by decide)
                    have e996 : F980 21 = F969 21 := k984 21 (by decide)
                    have e997 : F969 21 = F 21 := k973 21 (by decide)
                    have e998 : F980 23 = F969 23 := k984 23 (by decide)
                    exact ih _ (show ((31 - x964.toInt).toNat) < n by omega)  rfl (gs_ne rfl rfl g0) gs_eq I982 (fr1.tr (by decide) (fr1.tr (by decide) (fr1.up (by decide) hF) k973) k984) (fr2.tr (by decide) hA k974) (show F0 8 ≤ (F980 8) ∧ (F980 8) ≤ F0 7 ∧ (F980 20) = F0 20 + x964.toInt ∧ 0 ≤ x964.toInt ∧ (F980 20) ≤ 30 ∧ (F980 21) = F0 21 ∧ F0 23 ≤ (F980 23) ∧ (F980 23) ≤ 1000000 ∧ ((F980 9) = 2 → 0 ≤ (F980 11) ∧ (F980 11) ≤ 9) ∧ 0 ≤ (F980 9) ∧ (F980 9) ≤ 4 ∧ (F980 6) = 0 by omega) (fun z => by have z9 : F980 23 ≤ 124 := z; show fu (A970 22) (A0 22) (F0 23) (F980 23) x964.toInt; exact fu_cg (hfu (by omega)) (by omega) (by omega))
                  · refine k_c2 109 rfl rfl (if_neg b993) ?_
                    have b993 := mt iv_eq.mpr b993
                    refine k_aload 110 rfl (gs_ne rfl rfl g0) rfl ?_
                    refine k_push 112 rfl rfl ?_
                    have hc999 : (46 : Int32).toInt = 46 := by decide
                    have e1000 : F980 7 = F969 7 := k984 7 (by decide)
                    refine k_rv I982 rfl (m_must  I982.1 (show 0 ≤ (F980 8) ∧ (F980 8) ≤ (F980 7) ∧ (F980 7) ≤ 700 ∧ ((F980 9) = 2 → 0 ≤ (F980 11) ∧ (F980 11) ≤ 9) ∧ 0 ≤ (F980 9) ∧ (F980 9) ≤ 4 by omega)) (Nat.ble_eq_true_of_le (by omega)) rfl rfl I982.rc ?_
                    rintro h1002 F1003 A1004 I1005 ⟨k1007, k1008, p1006⟩
                    replace p1006 : ((F980 8) ≤ F1003 8 ∧ F1003 8 ≤ (F980 7)) ∧ (F1003 6 = 0 → (F980 6) = 0 ∧ (F1003 9 = 0 ∨ (F980 8) < F1003 8)) ∧ (F1003 9 = 2 → 0 ≤ F1003 11 ∧ F1003 11 ≤ 9) ∧ (0 ≤ F1003 9 ∧ F1003 9 ≤ 4) := p1006
                    obtain ⟨p1006a, p1006b, p1006c, p1006d⟩ := p1006
                    have k1008 := fr2.nil k1008
                    subst k1008
                    show am_Ok _ _ _ (115, _, [], _, 0, 0) _
                    refine k_aload 116 rfl (gs_ne rfl rfl g0) rfl ?_
                    have e1009 : F1003 7 = F980 7 := k1007 7 (by decide)
                    have e1010 : F1003 20 = F980 20 := k1007 20 (by decide)
                    have e1011 : F980 20 = F969 20 := k984 20 (by decide)
                    have e1012 : F969 20 = x959.toInt := k973 20 (by decide)
                    have e1013 : F1003 21 = F980 21 := k1007 21 (by decide)
                    have e1014 : F980 21 = F969 21 := k984 21 (by decide)
                    have e1015 : F969 21 = F 21 := k973 21 (by decide)
                    have e1016 : F1003 18 = F980 18 := k1007 18 (by decide)
                    have e1017 : F980 18 = F969 18 := k984 18 (by decide)
                    have e1018 : F969 18 = F 18 := k973 18 (by decide)
                    have e1019 : F 18 = F0 18 := hF 18 (by decide)
                    have e1020 : F1003 23 = F980 23 := k1007 23 (by decide)
                    have e1021 : F980 23 = F969 23 := k984 23 (by decide)
                    refine k_rv I1005 rfl (hrec  I1005.1 (show 0 ≤ (F1003 8) ∧ (F1003 8) ≤ (F1003 7) ∧ (F1003 7) ≤ 700 ∧ 0 ≤ (F1003 20) ∧ (F1003 20) ≤ 30 ∧ 0 ≤ (F1003 21) ∧ (F1003 21) ≤ 12 ∧ 0 ≤ (F1003 18) ∧ (F1003 18) ≤ 12 ∧ 0 ≤ (F1003 23) ∧ (F1003 23) ≤ 1000000 ∧ ((F1003 9) = 2 → 0 ≤ (F1003 11) ∧ (F1003 11) ≤ 9) ∧ 0 ≤ (F1003 9) ∧ (F1003 9) ≤ 4 by omega) (show nm ((A970 16)) ((A970 17)) ((F1003 18)) by rw [((k974 16 (by decide)).trans (hA 16 (by decide))), ((k974 17 (by decide)).trans (hA 17 (by decide))), ((k1007 18 (by decide)).trans ((k984 18 (by decide)).trans ((k973 18 (by decide)).trans (hF 18 (by decide)))))]; exact p2) (show (12 - (F1003 21)) + (30 - (F1003 20)) < (gk : Int) by omega)) (Nat.ble_eq_true_of_le (by omega)) rfl rfl I1005.rc ?_
                    rintro h1023 F1024 A1025 I1026 ⟨k1028, k1029, p1027⟩
                    replace p1027 : ((F1003 8) ≤ F1024 8 ∧ F1024 8 ≤ (F1003 7) ∧ (F1003 20) ≤ F1024 20 ∧ F1024 20 ≤ 30 ∧ F1024 21 = (F1003 21) ∧ (F1003 23) ≤ F1024 23 ∧ F1024 23 ≤ 1000000 ∧ (F1024 9 = 2 → 0 ≤ F1024 11 ∧ F1024 11 ≤ 9) ∧ 0 ≤ F1024 9 ∧ F1024 9 ≤ 4) ∧ (F1024 6 = 0 → F1024 20 = (F1003 20) ∧ (F1003 6) = 0 ∧ (F1024 9 = 0 ∨ (F1003 8) < F1024 8)) ∧ (F1024 6 = 0 → F1024 23 ≤ 124 → rd1 (A1025 22) ((A970 22)) ((F1003 23)) (F1024 23) ((F1003 20))) := p1027
                    obtain ⟨p1027a, p1027b, p1027c⟩ := p1027
                    show am_Ok _ _ _ (119, _, [], _, 0, 0) _
                    refine k_aload 120 rfl (gs_ne rfl rfl g0) rfl ?_
                    refine k_dup 121 rfl rfl rfl ?_
                    refine r_gI I1026 124 rfl rfl rfl (fun x1030 (e1031 : x1030.toInt = F1024 20) => ?_)
                    refine k_iload 125 rfl gs_eq rfl ?_
                    obtain ⟨x1032, q1033⟩ : ∃ q : Int32, q = (x1030 - x964) := ⟨_, rfl⟩
                    have e1034 : x1032.toInt = x1030.toInt - x964.toInt := by rw [q1033, iv_sub (by omega) (by omega)]
                    refine k_bin x1032 126 rfl q1033.symm rfl ?_
                    refine r_pI I1026 129 rfl rfl rfl (fun h1035 I1036 => ?_)
                    exact k_fin rfl rfl ⟨_, _, _, rfl, I1036, (fr1.up (by decide) (fr1.tr (by decide) (fr1.tr (by decide) (fr1.tr (by decide) (fr1.tr (by decide) (fr1.up (by decide) hF) k973) k984) k1007) k1028)), (fr2.tr (by decide) (fr2.tr (by decide) hA k974) k1029), ⟨(show (F0 8 ≤ F1024 8 ∧ F1024 8 ≤ F0 7 ∧ F0 20 ≤ x1032.toInt ∧ x1032.toInt ≤ 30 ∧ F1024 21 = F0 21 ∧ F0 23 ≤ F1024 23 ∧ F1024 23 ≤ 1000000 ∧ (F1024 9 = 2 → 0 ≤ F1024 11 ∧ F1024 11 ≤ 9) ∧ 0 ≤ F1024 9 ∧ F1024 9 ≤ 4) by omega), (show (F1024 6 = 0 → x1032.toInt = F0 20 ∧ F0 6 = 0 ∧ (F1024 9 = 0 ∨ F0 8 < F1024 8)) by omega), fun z1 z2 => by have z8 : F1024 6 = 0 := z1; have z9 : F1024 23 ≤ 124 := z2; have h9 := p1027c (by omega) (by omega); show rd1 (A1025 22) (A0 22) (F0 23) (F1024 23) (F0 20); exact fu_end (hfu (by omega)) (by omega) (rd_cg h9 (by omega) (by omega) rfl) (by omega)⟩⟩
                · refine k_c1 11 rfl rfl (if_neg b990) ?_
                  have b990 := mt iv_eq0.mpr b990
                  refine k_push 12 rfl rfl ?_
                  refine k_fin rfl (fin_Z (Or.inl rfl)) ⟨_, _, rfl, rf_len I982 I982, ?_⟩
                  show am_Ok _ _ _ (98, _, [.inl (0 : Int32)], _, 0, 0) _
                  refine k_c1 109 rfl rfl (if_pos (by decide)) ?_
                  refine k_aload 110 rfl (gs_ne rfl rfl g0) rfl ?_
                  refine k_push 112 rfl rfl ?_
                  have hc1037 : (46 : Int32).toInt = 46 := by decide
                  have e1038 : F980 7 = F969 7 := k984 7 (by decide)
                  refine k_rv I982 rfl (m_must  I982.1 (show 0 ≤ (F980 8) ∧ (F980 8) ≤ (F980 7) ∧ (F980 7) ≤ 700 ∧ ((F980 9) = 2 → 0 ≤ (F980 11) ∧ (F980 11) ≤ 9) ∧ 0 ≤ (F980 9) ∧ (F980 9) ≤ 4 by omega)) (Nat.ble_eq_true_of_le (by omega)) rfl rfl I982.rc ?_
                  rintro h1040 F1041 A1042 I1043 ⟨k1045, k1046, p1044⟩
                  replace p1044 : ((F980 8) ≤ F1041 8 ∧ F1041 8 ≤ (F980 7)) ∧ (F1041 6 = 0 → (F980 6) = 0 ∧ (F1041 9 = 0 ∨ (F980 8) < F1041 8)) ∧ (F1041 9 = 2 → 0 ≤ F1041 11 ∧ F1041 11 ≤ 9) ∧ (0 ≤ F1041 9 ∧ F1041 9 ≤ 4) := p1044
                  obtain ⟨p1044a, p1044b, p1044c, p1044d⟩ := p1044
                  have k1046 := fr2.nil k1046
                  subst k1046
                  show am_Ok _ _ _ (115, _, [], _, 0, 0) _
                  refine k_aload 116 rfl (gs_ne rfl rfl g0) rfl ?_
                  have e1047 : F1041 7 = F980 7 := k1045 7 (by decide)
                  have e1048 : F1041 20 = F980 20 := k1045 20 (by decide)
                  have e1049 : F980 20 = F969 20 := k984 20 (by decide)
                  have e1050 : F969 20 = x959.toInt := k973 20 (by decide)
                  have e1051 : F1041 21 = F980 21 := k1045 21 (by decide)
                  have e1052 : F980 21 = F969 21 := k984 21 (by decide)
                  have e1053 : F969 21 = F 21 := k973 21 (by decide)
                  have e1054 : F1041 18 = F980 18 := k1045 18 (by decide)
                  have e1055 : F980 18 = F969 18 := k984 18 (by decide)
                  have e1056 : F969 18 = F 18 := k973 18 (by decide)
                  have e1057 : F 18 = F0 18 := hF 18 (by decide)
                  have e1058 : F1041 23 = F980 23 := k1045 23 (by decide)
                  have e1059 : F980 23 = F969 23 := k984 23 (by decide)
                  refine k_rv I1043 rfl (hrec  I1043.1 (show 0 ≤ (F1041 8) ∧ (F1041 8) ≤ (F1041 7) ∧ (F1041 7) ≤ 700 ∧ 0 ≤ (F1041 20) ∧ (F1041 20) ≤ 30 ∧ 0 ≤ (F1041 21) ∧ (F1041 21) ≤ 12 ∧ 0 ≤ (F1041 18) ∧ (F1041 18) ≤ 12 ∧ 0 ≤ (F1041 23) ∧ (F1041 23) ≤ 1000000 ∧ ((F1041 9) = 2 → 0 ≤ (F1041 11) ∧ (F1041 11) ≤ 9) ∧ 0 ≤ (F1041 9) ∧ (F1041 9) ≤ 4 by omega) (show nm ((A970 16)) ((A970 17)) ((F1041 18)) by rw [((k974 16 (by decide)).trans (hA 16 (by decide))), ((k974 17 (by decide)).trans (hA 17 (by decide))), ((k1045 18 (by decide)).trans ((k984 18 (by decide)).trans ((k973 18 (by decide)).trans (hF 18 (by decide)))))]; exact p2) (show (12 - (F1041 21)) + (30 - (F1041 20)) < (gk : Int) by omega)) (Nat.ble_eq_true_of_le (by omega)) rfl rfl I1043.rc ?_
                  rintro h1061 F1062 A1063 I1064 ⟨k1066, k1067, p1065⟩
                  replace p1065 : ((F1041 8) ≤ F1062 8 ∧ F1062 8 ≤ (F1041 7) ∧ (F1041 20) ≤ F1062 20 ∧ F1062 20 ≤ 30 ∧ F1062 21 = (F1041 21) ∧ (F1041 23) ≤ F1062 23 ∧ F1062 23 ≤ 1000000 ∧ (F1062 9 = 2 → 0 ≤ F1062 11 ∧ F1062 11 ≤ 9) ∧ 0 ≤ F1062 9 ∧ F1062 9 ≤ 4) ∧ (F1062 6 = 0 → F1062 20 = (F1041 20) ∧ (F1041 6) = 0 ∧ (F1062 9 = 0 ∨ (F1041 8) < F1062 8)) ∧ (F1062 6 = 0 → F1062 23 ≤ 124 → rd1 (A1063 22) ((A970 22)) ((F1041 23)) (F1062 23) ((F1041 20))) := p1065
                  obtain ⟨p1065a, p1065b, p1065c⟩ := p1065
                  show am_Ok _ _ _ (119, _, [], _, 0, 0) _
                  refine k_aload 120 rfl (gs_ne rfl rfl g0) rfl ?_
                  refine k_dup 121 rfl rfl rfl ?_
                  refine r_gI I1064 124 rfl rfl rfl (fun x1068 (e1069 : x1068.toInt = F1062 20) => ?_)
                  refine k_iload 125 rfl gs_eq rfl ?_
                  obtain ⟨x1070, q1071⟩ : ∃ q : Int32, q = (x1068 - x964) := ⟨_, rfl⟩
                  have e1072 : x1070.toInt = x1068.toInt - x964.toInt := by rw [q1071, iv_sub (by omega) (by omega)]
                  refine k_bin x1070 126 rfl q1071.symm rfl ?_
                  refine r_pI I1064 129 rfl rfl rfl (fun h1073 I1074 => ?_)
                  exact k_fin rfl rfl ⟨_, _, _, rfl, I1074, (fr1.up (by decide) (fr1.tr (by decide) (fr1.tr (by decide) (fr1.tr (by decide) (fr1.tr (by decide) (fr1.up (by decide) hF) k973) k984) k1045) k1066)), (fr2.tr (by decide) (fr2.tr (by decide) hA k974) k1067), ⟨(show (F0 8 ≤ F1062 8 ∧ F1062 8 ≤ F0 7 ∧ F0 20 ≤ x1070.toInt ∧ x1070.toInt ≤ 30 ∧ F1062 21 = F0 21 ∧ F0 23 ≤ F1062 23 ∧ F1062 23 ≤ 1000000 ∧ (F1062 9 = 2 → 0 ≤ F1062 11 ∧ F1062 11 ≤ 9) ∧ 0 ≤ F1062 9 ∧ F1062 9 ≤ 4) by omega), (show (F1062 6 = 0 → x1070.toInt = F0 20 ∧ F0 6 = 0 ∧ (F1062 9 = 0 ∨ F0 8 < F1062 8)) by omega), fun z1 z2 => by have z8 : F1062 6 = 0 := z1; have z9 : F1062 23 ≤ 124 := z2; have h9 := p1065c (by omega) (by omega); show rd1 (A1063 22) (A0 22) (F0 23) (F1062 23) (F0 20); exact fu_end (hfu (by omega)) (by omega) (rd_cg h9 (by omega) (by omega) rfl) (by omega)⟩⟩
              · refine k_c1 11 rfl rfl (if_neg b951) ?_
                have b951 := mt iv_eq0.mpr b951
                refine k_push 12 rfl rfl ?_
                refine k_fin rfl (fin_Z (Or.inl rfl)) ⟨_, _, rfl, rf_len hI hI, ?_⟩
                show am_Ok _ _ _ (28, _, [.inl (0 : Int32)], _, 0, 0) _
                refine k_fin rfl (fin_Z (Or.inl rfl)) ⟨_, _, rfl, rf_len hI hI, ?_⟩
                show am_Ok _ _ _ (55, _, [.inl (0 : Int32)], _, 0, 0) _
                refine k_c1 58 rfl rfl (if_pos (by decide)) ?_
                exact k_fin rfl rfl ⟨_, _, _, rfl, hI, hF, hA, ⟨(show (F0 8 ≤ F 8 ∧ F 8 ≤ F0 7 ∧ F0 20 ≤ F 20 ∧ F 20 ≤ 30 ∧ F 21 = F0 21 ∧ F0 23 ≤ F 23 ∧ F 23 ≤ 1000000 ∧ (F 9 = 2 → 0 ≤ F 11 ∧ F 11 ≤ 9) ∧ 0 ≤ F 9 ∧ F 9 ≤ 4) by omega), (show (F 6 = 0 → F 20 = F0 20 ∧ F0 6 = 0 ∧ (F 9 = 0 ∨ F0 8 < F 8)) by omega), fun z => absurd (show F 6 = 0 from z) (by omega)⟩⟩
          · refine k_c2 37 rfl rfl (if_neg b812) ?_
            have b812 := mt iv_lt.mpr b812
            refine k_aload 38 rfl g0 rfl ?_
            refine r_gI hI 41 rfl rfl rfl (fun x1075 (e1076 : x1075.toInt = F 20) => ?_)
            refine k_push 43 rfl rfl ?_
            have hc1077 : (30 : Int32).toInt = 30 := by decide
            by_cases b1078 : (30 : Int32) ≤ x1075
            · refine k_c2 50 rfl rfl (if_pos b1078) ?_
              have b1078 := iv_le.mp b1078
              refine k_push 51 rfl rfl ?_
              refine k_push 52 rfl rfl ?_
              have hc1079 : (2 : Int32).toInt = 2 := by decide
              refine k_in (d := 1) rfl (Nat.ble_eq_true_of_le (by omega)) rfl rfl hI.rc ?_
              refine k_aload 1 rfl rfl rfl ?_
              refine k_in (d := 0) rfl (Nat.ble_eq_true_of_le (by omega)) rfl rfl hI.rc ?_
              refine k_aload 1 rfl rfl rfl ?_
              refine r_gI hI 4 rfl rfl rfl (fun x1080 (e1081 : x1080.toInt = F 6) => ?_)
              by_cases b1082 : x1080 = 0
              · refine k_c1 7 rfl rfl (if_pos b1082) ?_
                have b1082 := iv_eq0.mp b1082
                refine k_push 8 rfl rfl ?_
                refine k_goto 12 rfl rfl ?_
                refine k_fin rfl (fin_Z (Or.inr rfl)) ⟨_, _, rfl, rf_len hI hI, ?_⟩
                show am_Ok _ _ _ (4, _, [.inl (1 : Int32)], _, 0, 0) _
                refine k_c1 7 rfl rfl (if_neg (by decide)) ?_
                refine k_iload 8 rfl rfl rfl ?_
                refine k_c1 11 rfl rfl (if_pos (by decide)) ?_
                refine k_aload 12 rfl rfl rfl ?_
                refine k_iload 13 rfl rfl rfl ?_
                refine r_pI hI 16 rfl rfl rfl (fun h1083 I1084 => ?_)
                refine k_aload 17 rfl rfl rfl ?_
                refine k_aload 18 rfl rfl rfl ?_
                refine r_gI I1084 21 rfl rfl rfl (fun x1085 (e1086 : x1085.toInt = F 10) => ?_)
                refine r_pI I1084 24 rfl rfl rfl (fun h1087 I1088 => ?_)
                refine k_aload 25 rfl rfl rfl ?_
                refine k_in (d := 0) rfl (Nat.ble_eq_true_of_le (by omega)) rfl rfl I1088.rc ?_
                refine k_aload 1 rfl rfl rfl ?_
                refine r_gI I1088 4 rfl rfl rfl (fun x1089 (e1090 : x1089.toInt = (2 : Int32).toInt) => ?_)
                by_cases b1091 : x1089 = 0
                · refine k_c1 7 rfl rfl (if_pos b1091) ?_
                  have b1091 := iv_eq0.mp b1091
                  refine k_push 8 rfl rfl ?_
                  refine k_goto 12 rfl rfl ?_
                  refine k_fin rfl (fin_Z (Or.inr rfl)) ⟨_, _, rfl, rf_len I1088 I1088, ?_⟩
                  show am_Ok _ _ _ (28, _, [.inl (1 : Int32)], _, 0, 0) _
                  refine k_fin rfl (fin_Z (Or.inr rfl)) ⟨_, _, rfl, rf_len hI I1088, ?_⟩
                  show am_Ok _ _ _ (55, _, [.inl (1 : Int32)], _, 0, 0) _
                  refine k_c1 59 rfl rfl (if_neg (by decide)) ?_
                  refine k_aload 60 rfl g0 rfl ?_
                  refine r_gA I1088 63 rfl rfl rfl ?_
                  refine k_aload 64 rfl g0 rfl ?_
                  refine r_gI I1088 67 rfl rfl rfl (fun x1092 (e1093 : x1092.toInt = F 20) => ?_)
                  refine k_aload 68 rfl g0 rfl ?_
                  refine r_gJ I1088 71 rfl rfl rfl (fun y1094 => ?_)
                  refine r_lst 19 I1088 72 rfl rfl (by omega) (show x1092.toInt < 31 by omega) rfl (fun h1095 I1096 => ?_)
                  refine k_aload 73 rfl g0 rfl ?_
                  refine k_dup 74 rfl rfl rfl ?_
                  refine r_gI I1096 77 rfl rfl rfl (fun x1097 (e1098 : x1097.toInt = F 20) => ?_)
                  refine k_push 78 rfl rfl ?_
                  obtain ⟨x1099, q1100⟩ : ∃ q : Int32, q = (x1097 + (1 : Int32)) := ⟨_, rfl⟩
                  have e1101 : x1099.toInt = x1097.toInt + 1 := by rw [q1100, iv_add (by omega) (by omega)]; omega
                  refine k_bin x1099 79 rfl q1100.symm rfl ?_
                  refine r_pI I1096 82 rfl rfl rfl (fun h1102 I1103 => ?_)
                  obtain ⟨x1104, q1105⟩ : ∃ q : Int32, q = v1 + (1 : Int32) := ⟨_, rfl⟩
                  have e1106 : x1104.toInt = v1.toInt + 1 := by rw [q1105, iv_add (by omega) (by omega)]; omega
                  refine k_iinc x1104 85 rfl g1 q1105.symm rfl ?_
                  refine k_aload 86 rfl (gs_ne rfl rfl g0) rfl ?_
                  refine k_push 87 rfl rfl ?_
                  refine k_rv I1103 rfl (m_emits  I1103.1 (show 0 ≤ (F 23) ∧ (F 23) ≤ 1000000 by omega)) (Nat.ble_eq_true_of_le (by omega)) rfl rfl I1103.rc ?_
                  rintro h1108 F1109 A1110 I1111 ⟨k1113, k1114, p1112⟩
                  replace p1112 : ((F 23) ≤ F1109 23 ∧ F1109 23 ≤ 1000000) ∧ (F1109 23 ≤ 124 → F1109 23 = (F 23) + 1) ∧ (F1109 23 ≤ 124 → A1110 22 ((F 23)) = (1 : Int32).toInt ∧ ∀ q : Int, q ≠ (F 23) → A1110 22 q = (A 22) q) := p1112
                  obtain ⟨p1112a, p1112b, p1112c⟩ := p1112
                  show am_Ok _ _ _ (90, _, [], _, 0, 0) _
                  have hfu : F1109 23 ≤ 124 → fu (A1110 22) (A0 22) (F0 23) (F1109 23) (v1.toInt + 1) := fun z9 => fu_s (i2 (by omega)) (p1112b z9) ((p1112c z9).1.trans (by decide)) (p1112c z9).2 (by omega) rfl
                  refine k_aload 91 rfl (gs_ne rfl rfl g0) rfl ?_
                  have e1115 : F1109 8 = F 8 := k1113 8 (by decide)
                  have e1116 : F1109 7 = F 7 := k1113 7 (by decide)
                  have e1117 : F 7 = F0 7 := hF 7 (by decide)
                  refine k_rv I1111 rfl (m_goes  I1111.1 (show 0 ≤ (F1109 8) ∧ (F1109 8) ≤ (F1109 7) ∧ (F1109 7) ≤ 700 by omega)) (Nat.ble_eq_true_of_le (by omega)) rfl rfl I1111.rc ?_
                  rintro h1119 F1120 A1121 I1122 ⟨k1124, k1125, p1123⟩
                  replace p1123 : ((F1109 8) ≤ F1120 8 ∧ F1120 8 ≤ (F1109 7)) ∧ (F1120 9 = 0 ∨ (F1109 8) < F1120 8) ∧ (F1120 9 = 2 → 0 ≤ F1120 11 ∧ F1120 11 ≤ 9) ∧ (0 ≤ F1120 9 ∧ F1120 9 ≤ 4) := p1123
                  obtain ⟨p1123a, p1123b, p1123c, p1123d⟩ := p1123
                  have k1125 := fr2.nil k1125
                  subst k1125
                  show am_Ok _ _ _ (94, _, [], _, 0, 0) _
                  refine k_aload 95 rfl (gs_ne rfl rfl g0) rfl ?_
                  refine k_in (d := 0) rfl (Nat.ble_eq_true_of_le (by omega)) rfl rfl I1122.rc ?_
                  refine k_aload 1 rfl rfl rfl ?_
                  refine r_gI I1122 4 rfl rfl rfl (fun x1126 (e1127 : x1126.toInt = F1120 6) => ?_)
                  have e1128 : F1120 6 = F1109 6 := k1124 6 (by decide)
                  have e1129 : F1109 6 = (2 : Int32).toInt := k1113 6 (by decide)
                  by_cases b1130 : x1126 = 0
                  · refine k_c1 7 rfl rfl (if_pos b1130) ?_
                    have b1130 := iv_eq0.mp b1130
                    refine k_push 8 rfl rfl ?_
                    refine k_goto 12 rfl rfl ?_
                    refine k_fin rfl (fin_Z (Or.inr rfl)) ⟨_, _, rfl, rf_len I1122 I1122, ?_⟩
                    show am_Ok _ _ _ (98, _, [.inl (1 : Int32)], _, 0, 0) _
                    refine k_c1 101 rfl rfl (if_neg (by decide)) ?_
                    refine k_aload 102 rfl (gs_ne rfl rfl g0) rfl ?_
                    refine r_gI I1122 105 rfl rfl rfl (fun x1131 (e1132 : x1131.toInt = F1120 9) => ?_)
                    refine k_push 106 rfl rfl ?_
                    by_cases b1133 : x1131 = (1 : Int32)
                    · refine k_c2 6 rfl rfl (if_pos b1133) ?_
                      have b1133 := iv_eq.mp b1133
                      have e1134 : F1120 20 = F1109 20 := k1124 20 (by decide)
                      have e1135 : F1109 20 = x1099.toInt := k1113 20 (by decide)
                      have e1136 : F1120 21 = F1109 21 := k1124 21 (by decide)
                      have e1137 : F1109 21 = F 21 := k1113 21 (by decide)
                      have e1138 : F1120 23 = F1109 23 := k1124 23 (by decide)
                      exact ih _ (show ((31 - x1104.toInt).toNat) < n by omega)  rfl (gs_ne rfl rfl g0) gs_eq I1122 (fr1.tr (by decide) (fr1.tr (by decide) (fr1.up (by decide) (fr1.up (by decide) (fr1.up (by decide) hF))) k1113) k1124) (fr2.tr (by decide) hA k1114) (show F0 8 ≤ (F1120 8) ∧ (F1120 8) ≤ F0 7 ∧ (F1120 20) = F0 20 + x1104.toInt ∧ 0 ≤ x1104.toInt ∧ (F1120 20) ≤ 30 ∧ (F1120 21) = F0 21 ∧ F0 23 ≤ (F1120 23) ∧ (F1120 23) ≤ 1000000 ∧ ((F1120 9) = 2 → 0 ≤ (F1120 11) ∧ (F1120 11) ≤ 9) ∧ 0 ≤ (F1120 9) ∧ (F1120 9) ≤ 4 ∧ (F1120 6) = 0 by omega) (fun z => by have z9 : F1120 23 ≤ 124 := z; show fu (A1110 22) (A0 22) (F0 23) (F1120 23) x1104.toInt; exact fu_cg (hfu (by omega)) (by omega) (by omega))
                    · refine k_c2 109 rfl rfl (if_neg b1133) ?_
                      have b1133 := mt iv_eq.mpr b1133
                      refine k_aload 110 rfl (gs_ne rfl rfl g0) rfl ?_
                      refine k_push 112 rfl rfl ?_
                      have hc1139 : (46 : Int32).toInt = 46 := by decide
                      have e1140 : F1120 7 = F1109 7 := k1124 7 (by decide)
                      refine k_rv I1122 rfl (m_must  I1122.1 (show 0 ≤ (F1120 8) ∧ (F1120 8) ≤ (F1120 7) ∧ (F1120 7) ≤ 700 ∧ ((F1120 9) = 2 → 0 ≤ (F1120 11) ∧ (F1120 11) ≤ 9) ∧ 0 ≤ (F1120 9) ∧ (F1120 9) ≤ 4 by omega)) (Nat.ble_eq_true_of_le (by omega)) rfl rfl I1122.rc ?_
                      rintro h1142 F1143 A1144 I1145 ⟨k1147, k1148, p1146⟩
                      replace p1146 : ((F1120 8) ≤ F1143 8 ∧ F1143 8 ≤ (F1120 7)) ∧ (F1143 6 = 0 → (F1120 6) = 0 ∧ (F1143 9 = 0 ∨ (F1120 8) < F1143 8)) ∧ (F1143 9 = 2 → 0 ≤ F1143 11 ∧ F1143 11 ≤ 9) ∧ (0 ≤ F1143 9 ∧ F1143 9 ≤ 4) := p1146
                      obtain ⟨p1146a, p1146b, p1146c, p1146d⟩ := p1146
                      have k1148 := fr2.nil k1148
                      subst k1148
                      show am_Ok _ _ _ (115, _, [], _, 0, 0) _
                      refine k_aload 116 rfl (gs_ne rfl rfl g0) rfl ?_
                      have e1149 : F1143 7 = F1120 7 := k1147 7 (by decide)
                      have e1150 : F1143 20 = F1120 20 := k1147 20 (by decide)
                      have e1151 : F1120 20 = F1109 20 := k1124 20 (by decide)
                      have e1152 : F1109 20 = x1099.toInt := k1113 20 (by decide)
                      have e1153 : F1143 21 = F1120 21 := k1147 21 (by decide)
                      have e1154 : F1120 21 = F1109 21 := k1124 21 (by decide)
                      have e1155 : F1109 21 = F 21 := k1113 21 (by decide)
                      have e1156 : F1143 18 = F1120 18 := k1147 18 (by decide)
                      have e1157 : F1120 18 = F1109 18 := k1124 18 (by decide)
                      have e1158 : F1109 18 = F 18 := k1113 18 (by decide)
                      have e1159 : F 18 = F0 18 := hF 18 (by decide)
                      have e1160 : F1143 23 = F1120 23 := k1147 23 (by decide)
                      have e1161 : F1120 23 = F1109 23 := k1124 23 (by decide)
                      refine k_rv I1145 rfl (hrec  I1145.1 (show 0 ≤ (F1143 8) ∧ (F1143 8) ≤ (F1143 7) ∧ (F1143 7) ≤ 700 ∧ 0 ≤ (F1143 20) ∧ (F1143 20) ≤ 30 ∧ 0 ≤ (F1143 21) ∧ (F1143 21) ≤ 12 ∧ 0 ≤ (F1143 18) ∧ (F1143 18) ≤ 12 ∧ 0 ≤ (F1143 23) ∧ (F1143 23) ≤ 1000000 ∧ ((F1143 9) = 2 → 0 ≤ (F1143 11) ∧ (F1143 11) ≤ 9) ∧ 0 ≤ (F1143 9) ∧ (F1143 9) ≤ 4 by omega) (show nm ((A1110 16)) ((A1110 17)) ((F1143 18)) by rw [((k1114 16 (by decide)).trans (hA 16 (by decide))), ((k1114 17 (by decide)).trans (hA 17 (by decide))), ((k1147 18 (by decide)).trans ((k1124 18 (by decide)).trans ((k1113 18 (by decide)).trans (hF 18 (by decide)))))]; exact p2) (show (12 - (F1143 21)) + (30 - (F1143 20)) < (gk : Int) by omega)) (Nat.ble_eq_true_of_le (by omega)) rfl rfl I1145.rc ?_
                      rintro h1163 F1164 A1165 I1166 ⟨k1168, k1169, p1167⟩
                      replace p1167 : ((F1143 8) ≤ F1164 8 ∧ F1164 8 ≤ (F1143 7) ∧ (F1143 20) ≤ F1164 20 ∧ F1164 20 ≤ 30 ∧ F1164 21 = (F1143 21) ∧ (F1143 23) ≤ F1164 23 ∧ F1164 23 ≤ 1000000 ∧ (F1164 9 = 2 → 0 ≤ F1164 11 ∧ F1164 11 ≤ 9) ∧ 0 ≤ F1164 9 ∧ F1164 9 ≤ 4) ∧ (F1164 6 = 0 → F1164 20 = (F1143 20) ∧ (F1143 6) = 0 ∧ (F1164 9 = 0 ∨ (F1143 8) < F1164 8)) ∧ (F1164 6 = 0 → F1164 23 ≤ 124 → rd1 (A1165 22) ((A1110 22)) ((F1143 23)) (F1164 23) ((F1143 20))) := p1167
                      obtain ⟨p1167a, p1167b, p1167c⟩ := p1167
                      show am_Ok _ _ _ (119, _, [], _, 0, 0) _
                      refine k_aload 120 rfl (gs_ne rfl rfl g0) rfl ?_
                      refine k_dup 121 rfl rfl rfl ?_
                      refine r_gI I1166 124 rfl rfl rfl (fun x1170 (e1171 : x1170.toInt = F1164 20) => ?_)
                      refine k_iload 125 rfl gs_eq rfl ?_
                      obtain ⟨x1172, q1173⟩ : ∃ q : Int32, q = (x1170 - x1104) := ⟨_, rfl⟩
                      have e1174 : x1172.toInt = x1170.toInt - x1104.toInt := by rw [q1173, iv_sub (by omega) (by omega)]
                      refine k_bin x1172 126 rfl q1173.symm rfl ?_
                      refine r_pI I1166 129 rfl rfl rfl (fun h1175 I1176 => ?_)
                      exact k_fin rfl rfl ⟨_, _, _, rfl, I1176, (fr1.up (by decide) (fr1.tr (by decide) (fr1.tr (by decide) (fr1.tr (by decide) (fr1.tr (by decide) (fr1.up (by decide) (fr1.up (by decide) (fr1.up (by decide) hF))) k1113) k1124) k1147) k1168)), (fr2.tr (by decide) (fr2.tr (by decide) hA k1114) k1169), ⟨(show (F0 8 ≤ F1164 8 ∧ F1164 8 ≤ F0 7 ∧ F0 20 ≤ x1172.toInt ∧ x1172.toInt ≤ 30 ∧ F1164 21 = F0 21 ∧ F0 23 ≤ F1164 23 ∧ F1164 23 ≤ 1000000 ∧ (F1164 9 = 2 → 0 ≤ F1164 11 ∧ F1164 11 ≤ 9) ∧ 0 ≤ F1164 9 ∧ F1164 9 ≤ 4) by omega), (show (F1164 6 = 0 → x1172.toInt = F0 20 ∧ F0 6 = 0 ∧ (F1164 9 = 0 ∨ F0 8 < F1164 8)) by omega), fun z1 z2 => by have z8 : F1164 6 = 0 := z1; have z9 : F1164 23 ≤ 124 := z2; have h9 := p1167c (by omega) (by omega); show rd1 (A1165 22) (A0 22) (F0 23) (F1164 23) (F0 20); exact fu_end (hfu (by omega)) (by omega) (rd_cg h9 (by omega) (by omega) rfl) (by omega)⟩⟩
                  · refine k_c1 11 rfl rfl (if_neg b1130) ?_
                    have b1130 := mt iv_eq0.mpr b1130
                    refine k_push 12 rfl rfl ?_
                    refine k_fin rfl (fin_Z (Or.inl rfl)) ⟨_, _, rfl, rf_len I1122 I1122, ?_⟩
                    show am_Ok _ _ _ (98, _, [.inl (0 : Int32)], _, 0, 0) _
                    refine k_c1 109 rfl rfl (if_pos (by decide)) ?_
                    refine k_aload 110 rfl (gs_ne rfl rfl g0) rfl ?_
                    refine k_push 112 rfl rfl ?_
                    have hc1177 : (46 : Int32).toInt = 46 := by decide
                    have e1178 : F1120 7 = F1109 7 := k1124 7 (by decide)
                    refine k_rv I1122 rfl (m_must  I1122.1 (show 0 ≤ (F1120 8) ∧ (F1120 8) ≤ (F1120 7) ∧ (F1120 7) ≤ 700 ∧ ((F1120 9) = 2 → 0 ≤ (F1120 11) ∧ (F1120 11) ≤ 9) ∧ 0 ≤ (F1120 9) ∧ (F1120 9) ≤ 4 by omega)) (Nat.ble_eq_true_of_le (by omega)) rfl rfl I1122.rc ?_
                    rintro h1180 F1181 A1182 I1183 ⟨k1185, k1186, p1184⟩
                    replace p1184 : ((F1120 8) ≤ F1181 8 ∧ F1181 8 ≤ (F1120 7)) ∧ (F1181 6 = 0 → (F1120 6) = 0 ∧ (F1181 9 = 0 ∨ (F1120 8) < F1181 8)) ∧ (F1181 9 = 2 → 0 ≤ F1181 11 ∧ F1181 11 ≤ 9) ∧ (0 ≤ F1181 9 ∧ F1181 9 ≤ 4) := p1184
                    obtain ⟨p1184a, p1184b, p1184c, p1184d⟩ := p1184
                    have k1186 := fr2.nil k1186
                    subst k1186
                    show am_Ok _ _ _ (115, _, [], _, 0, 0) _
                    refine k_aload 116 rfl (gs_ne rfl rfl g0) rfl ?_
                    have e1187 : F1181 7 = F1120 7 := k1185 7 (by decide)
                    have e1188 : F1181 20 = F1120 20 := k1185 20 (by decide)
                    have e1189 : F1120 20 = F1109 20 := k1124 20 (by decide)
                    have e1190 : F1109 20 = x1099.toInt := k1113 20 (by decide)
                    have e1191 : F1181 21 = F1120 21 := k1185 21 (by decide)
                    have e1192 : F1120 21 = F1109 21 := k1124 21 (by decide)
                    have e1193 : F1109 21 = F 21 := k1113 21 (by decide)
                    have e1194 : F1181 18 = F1120 18 := k1185 18 (by decide)
                    have e1195 : F1120 18 = F1109 18 := k1124 18 (by decide)
                    have e1196 : F1109 18 = F 18 := k1113 18 (by decide)
                    have e1197 : F 18 = F0 18 := hF 18 (by decide)
                    have e1198 : F1181 23 = F1120 23 := k1185 23 (by decide)
                    have e1199 : F1120 23 = F1109 23 := k1124 23 (by decide)
                    refine k_rv I1183 rfl (hrec  I1183.1 (show 0 ≤ (F1181 8) ∧ (F1181 8) ≤ (F1181 7) ∧ (F1181 7) ≤ 700 ∧ 0 ≤ (F1181 20) ∧ (F1181 20) ≤ 30 ∧ 0 ≤ (F1181 21) ∧ (F1181 21) ≤ 12 ∧ 0 ≤ (F1181 18) ∧ (F1181 18) ≤ 12 ∧ 0 ≤ (F1181 23) ∧ (F1181 23) ≤ 1000000 ∧ ((F1181 9) = 2 → 0 ≤ (F1181 11) ∧ (F1181 11) ≤ 9) ∧ 0 ≤ (F1181 9) ∧ (F1181 9) ≤ 4 by omega) (show nm ((A1110 16)) ((A1110 17)) ((F1181 18)) by rw [((k1114 16 (by decide)).trans (hA 16 (by decide))), ((k1114 17 (by decide)).trans (hA 17 (by decide))), ((k1185 18 (by decide)).trans ((k1124 18 (by decide)).trans ((k1113 18 (by decide)).trans (hF 18 (by decide)))))]; exact p2) (show (12 - (F1181 21)) + (30 - (F1181 20)) < (gk : Int) by omega)) (Nat.ble_eq_true_of_le (by omega)) rfl rfl I1183.rc ?_
                    rintro h1201 F1202 A1203 I1204 ⟨k1206, k1207, p1205⟩
                    replace p1205 : ((F1181 8) ≤ F1202 8 ∧ F1202 8 ≤ (F1181 7) ∧ (F1181 20) ≤ F1202 20 ∧ F1202 20 ≤ 30 ∧ F1202 21 = (F1181 21) ∧ (F1181 23) ≤ F1202 23 ∧ F1202 23 ≤ 1000000 ∧ (F1202 9 = 2 → 0 ≤ F1202 11 ∧ F1202 11 ≤ 9) ∧ 0 ≤ F1202 9 ∧ F1202 9 ≤ 4) ∧ (F1202 6 = 0 → F1202 20 = (F1181 20) ∧ (F1181 6) = 0 ∧ (F1202 9 = 0 ∨ (F1181 8) < F1202 8)) ∧ (F1202 6 = 0 → F1202 23 ≤ 124 → rd1 (A1203 22) ((A1110 22)) ((F1181 23)) (F1202 23) ((F1181 20))) := p1205
                    obtain ⟨p1205a, p1205b, p1205c⟩ := p1205
                    show am_Ok _ _ _ (119, _, [], _, 0, 0) _
                    refine k_aload 120 rfl (gs_ne rfl rfl g0) rfl ?_
                    refine k_dup 121 rfl rfl rfl ?_
                    refine r_gI I1204 124 rfl rfl rfl (fun x1208 (e1209 : x1208.toInt = F1202 20) => ?_)
                    refine k_iload 125 rfl gs_eq rfl ?_
                    obtain ⟨x1210, q1211⟩ : ∃ q : Int32, q = (x1208 - x1104) := ⟨_, rfl⟩
                    have e1212 : x1210.toInt = x1208.toInt - x1104.toInt := by rw [q1211, iv_sub (by omega) (by omega)]
                    refine k_bin x1210 126 rfl q1211.symm rfl ?_
                    refine r_pI I1204 129 rfl rfl rfl (fun h1213 I1214 => ?_)
                    exact k_fin rfl rfl ⟨_, _, _, rfl, I1214, (fr1.up (by decide) (fr1.tr (by decide) (fr1.tr (by decide) (fr1.tr (by decide) (fr1.tr (by decide) (fr1.up (by decide) (fr1.up (by decide) (fr1.up (by decide) hF))) k1113) k1124) k1185) k1206)), (fr2.tr (by decide) (fr2.tr (by decide) hA k1114) k1207), ⟨(show (F0 8 ≤ F1202 8 ∧ F1202 8 ≤ F0 7 ∧ F0 20 ≤ x1210.toInt ∧ x1210.toInt ≤ 30 ∧ F1202 21 = F0 21 ∧ F0 23 ≤ F1202 23 ∧ F1202 23 ≤ 1000000 ∧ (F1202 9 = 2 → 0 ≤ F1202 11 ∧ F1202 11 ≤ 9) ∧ 0 ≤ F1202 9 ∧ F1202 9 ≤ 4) by omega), (show (F1202 6 = 0 → x1210.toInt = F0 20 ∧ F0 6 = 0 ∧ (F1202 9 = 0 ∨ F0 8 < F1202 8)) by omega), fun z1 z2 => by have z8 : F1202 6 = 0 := z1; have z9 : F1202 23 ≤ 124 := z2; have h9 := p1205c (by omega) (by omega); show rd1 (A1203 22) (A0 22) (F0 23) (F1202 23) (F0 20); exact fu_end (hfu (by omega)) (by omega) (rd_cg h9 (by omega) (by omega) rfl) (by omega)⟩⟩
                · refine k_c1 11 rfl rfl (if_neg b1091) ?_
                  have b1091 := mt iv_eq0.mpr b1091
                  refine k_push 12 rfl rfl ?_
                  refine k_fin rfl (fin_Z (Or.inl rfl)) ⟨_, _, rfl, rf_len I1088 I1088, ?_⟩
                  show am_Ok _ _ _ (28, _, [.inl (0 : Int32)], _, 0, 0) _
                  refine k_fin rfl (fin_Z (Or.inl rfl)) ⟨_, _, rfl, rf_len hI I1088, ?_⟩
                  show am_Ok _ _ _ (55, _, [.inl (0 : Int32)], _, 0, 0) _
                  refine k_c1 58 rfl rfl (if_pos (by decide)) ?_
                  exact k_fin rfl rfl ⟨_, _, _, rfl, I1088, (fr1.up (by decide) (fr1.up (by decide) hF)), hA, ⟨(show (F0 8 ≤ F 8 ∧ F 8 ≤ F0 7 ∧ F0 20 ≤ F 20 ∧ F 20 ≤ 30 ∧ F 21 = F0 21 ∧ F0 23 ≤ F 23 ∧ F 23 ≤ 1000000 ∧ (F 9 = 2 → 0 ≤ F 11 ∧ F 11 ≤ 9) ∧ 0 ≤ F 9 ∧ F 9 ≤ 4) by omega), (show ((2 : Int32).toInt = 0 → F 20 = F0 20 ∧ F0 6 = 0 ∧ (F 9 = 0 ∨ F0 8 < F 8)) by omega), fun z => absurd (show (2 : Int32).toInt = 0 from z) (by omega)⟩⟩
              · refine k_c1 11 rfl rfl (if_neg b1082) ?_
                have b1082 := mt iv_eq0.mpr b1082
                refine k_push 12 rfl rfl ?_
                refine k_fin rfl (fin_Z (Or.inl rfl)) ⟨_, _, rfl, rf_len hI hI, ?_⟩
                show am_Ok _ _ _ (4, _, [.inl (0 : Int32)], _, 0, 0) _
                refine k_c1 24 rfl rfl (if_pos (by decide)) ?_
                refine k_aload 25 rfl rfl rfl ?_
                refine k_in (d := 0) rfl (Nat.ble_eq_true_of_le (by omega)) rfl rfl hI.rc ?_
                refine k_aload 1 rfl rfl rfl ?_
                refine r_gI hI 4 rfl rfl rfl (fun x1215 (e1216 : x1215.toInt = F 6) => ?_)
                by_cases b1217 : x1215 = 0
                · refine k_c1 7 rfl rfl (if_pos b1217) ?_
                  have b1217 := iv_eq0.mp b1217
                  refine k_push 8 rfl rfl ?_
                  refine k_goto 12 rfl rfl ?_
                  refine k_fin rfl (fin_Z (Or.inr rfl)) ⟨_, _, rfl, rf_len hI hI, ?_⟩
                  show am_Ok _ _ _ (28, _, [.inl (1 : Int32)], _, 0, 0) _
                  refine k_fin rfl (fin_Z (Or.inr rfl)) ⟨_, _, rfl, rf_len hI hI, ?_⟩
                  show am_Ok _ _ _ (55, _, [.inl (1 : Int32)], _, 0, 0) _
                  refine k_c1 59 rfl rfl (if_neg (by decide)) ?_
                  refine k_aload 60 rfl g0 rfl ?_
                  refine r_gA hI 63 rfl rfl rfl ?_
                  refine k_aload 64 rfl g0 rfl ?_
                  refine r_gI hI 67 rfl rfl rfl (fun x1218 (e1219 : x1218.toInt = F 20) => ?_)
                  refine k_aload 68 rfl g0 rfl ?_
                  refine r_gJ hI 71 rfl rfl rfl (fun y1220 => ?_)
                  refine r_lst 19 hI 72 rfl rfl (by omega) (show x1218.toInt < 31 by omega) rfl (fun h1221 I1222 => ?_)
                  refine k_aload 73 rfl g0 rfl ?_
                  refine k_dup 74 rfl rfl rfl ?_
                  refine r_gI I1222 77 rfl rfl rfl (fun x1223 (e1224 : x1223.toInt = F 20) => ?_)
                  refine k_push 78 rfl rfl ?_
                  obtain ⟨x1225, q1226⟩ : ∃ q : Int32, q = (x1223 + (1 : Int32)) := ⟨_, rfl⟩
                  have e1227 : x1225.toInt = x1223.toInt + 1 := by rw [q1226, iv_add (by omega) (by omega)]; omega
                  refine k_bin x1225 79 rfl q1226.symm rfl ?_
                  refine r_pI I1222 82 rfl rfl rfl (fun h1228 I1229 => ?_)
                  obtain ⟨x1230, q1231⟩ : ∃ q : Int32, q = v1 + (1 : Int32) := ⟨_, rfl⟩
                  have e1232 : x1230.toInt = v1.toInt + 1 := by rw [q1231, iv_add (by omega) (by omega)]; omega
                  refine k_iinc x1230 85 rfl g1 q1231.symm rfl ?_
                  refine k_aload 86 rfl (gs_ne rfl rfl g0) rfl ?_
                  refine k_push 87 rfl rfl ?_
                  refine k_rv I1229 rfl (m_emits  I1229.1 (show 0 ≤ (F 23) ∧ (F 23) ≤ 1000000 by omega)) (Nat.ble_eq_true_of_le (by omega)) rfl rfl I1229.rc ?_
                  rintro h1234 F1235 A1236 I1237 ⟨k1239, k1240, p1238⟩
                  replace p1238 : ((F 23) ≤ F1235 23 ∧ F1235 23 ≤ 1000000) ∧ (F1235 23 ≤ 124 → F1235 23 = (F 23) + 1) ∧ (F1235 23 ≤ 124 → A1236 22 ((F 23)) = (1 : Int32).toInt ∧ ∀ q : Int, q ≠ (F 23) → A1236 22 q = (A 22) q) := p1238
                  obtain ⟨p1238a, p1238b, p1238c⟩ := p1238
                  show am_Ok _ _ _ (90, _, [], _, 0, 0) _
                  have hfu : F1235 23 ≤ 124 → fu (A1236 22) (A0 22) (F0 23) (F1235 23) (v1.toInt + 1) := fun z9 => fu_s (i2 (by omega)) (p1238b z9) ((p1238c z9).1.trans (by decide)) (p1238c z9).2 (by omega) rfl
                  refine k_aload 91 rfl (gs_ne rfl rfl g0) rfl ?_
                  have e1241 : F1235 8 = F 8 := k1239 8 (by decide)
                  have e1242 : F1235 7 = F 7 := k1239 7 (by decide)
                  have e1243 : F 7 = F0 7 := hF 7 (by decide)
                  refine k_rv I1237 rfl (m_goes  I1237.1 (show 0 ≤ (F1235 8) ∧ (F1235 8) ≤ (F1235 7) ∧ (F1235 7) ≤ 700 by omega)) (Nat.ble_eq_true_of_le (by omega)) rfl rfl I1237.rc ?_
                  rintro h1245 F1246 A1247 I1248 ⟨k1250, k1251, p1249⟩
                  replace p1249 : ((F1235 8) ≤ F1246 8 ∧ F1246 8 ≤ (F1235 7)) ∧ (F1246 9 = 0 ∨ (F1235 8) < F1246 8) ∧ (F1246 9 = 2 → 0 ≤ F1246 11 ∧ F1246 11 ≤ 9) ∧ (0 ≤ F1246 9 ∧ F1246 9 ≤ 4) := p1249
                  obtain ⟨p1249a, p1249b, p1249c, p1249d⟩ := p1249
                  have k1251 := fr2.nil k1251
                  subst k1251
                  show am_Ok _ _ _ (94, _, [], _, 0, 0) _
                  refine k_aload 95 rfl (gs_ne rfl rfl g0) rfl ?_
                  refine k_in (d := 0) rfl (Nat.ble_eq_true_of_le (by omega)) rfl rfl I1248.rc ?_
                  refine k_aload 1 rfl rfl rfl ?_
                  refine r_gI I1248 4 rfl rfl rfl (fun x1252 (e1253 : x1252.toInt = F1246 6) => ?_)
                  have e1254 : F1246 6 = F1235 6 := k1250 6 (by decide)
                  have e1255 : F1235 6 = F 6 := k1239 6 (by decide)
                  by_cases b1256 : x1252 = 0
                  · refine k_c1 7 rfl rfl (if_pos b1256) ?_
                    have b1256 := iv_eq0.mp b1256
                    refine k_push 8 rfl rfl ?_
                    refine k_goto 12 rfl rfl ?_
                    refine k_fin rfl (fin_Z (Or.inr rfl)) ⟨_, _, rfl, rf_len I1248 I1248, ?_⟩
                    show am_Ok _ _ _ (98, _, [.inl (1 : Int32)], _, 0, 0) _
                    refine k_c1 101 rfl rfl (if_neg (by decide)) ?_
                    refine k_aload 102 rfl (gs_ne rfl rfl g0) rfl ?_
                    refine r_gI I1248 105 rfl rfl rfl (fun x1257 (e1258 : x1257.toInt = F1246 9) => ?_)
                    refine k_push 106 rfl rfl ?_
                    by_cases b1259 : x1257 = (1 : Int32)
                    · refine k_c2 6 rfl rfl (if_pos b1259) ?_
                      have b1259 := iv_eq.mp b1259
                      have e1260 : F1246 20 = F1235 20 := k1250 20 (by decide)
                      have e1261 : F1235 20 = x1225.toInt := k1239 20 (by decide)
                      have e1262 : F1246 21 = F1235 21 := k1250 21 (by decide)
                      have e1263 : F1235 21 = F 21 := k1239 21 (by decide)
                      have e1264 : F1246 23 = F1235 23 := k1250 23 (by decide)
                      exact ih _ (show ((31 - x1230.toInt).toNat) < n by omega)  rfl (gs_ne rfl rfl g0) gs_eq I1248 (fr1.tr (by decide) (fr1.tr (by decide) (fr1.up (by decide) hF) k1239) k1250) (fr2.tr (by decide) hA k1240) (show F0 8 ≤ (F1246 8) ∧ (F1246 8) ≤ F0 7 ∧ (F1246 20) = F0 20 + x1230.toInt ∧ 0 ≤ x1230.toInt ∧ (F1246 20) ≤ 30 ∧ (F1246 21) = F0 21 ∧ F0 23 ≤ (F1246 23) ∧ (F1246 23) ≤ 1000000 ∧ ((F1246 9) = 2 → 0 ≤ (F1246 11) ∧ (F1246 11) ≤ 9) ∧ 0 ≤ (F1246 9) ∧ (F1246 9) ≤ 4 ∧ (F1246 6) = 0 by omega) (fun z => by have z9 : F1246 23 ≤ 124 := z; show fu (A1236 22) (A0 22) (F0 23) (F1246 23) x1230.toInt; exact fu_cg (hfu (by omega)) (by omega) (by omega))
                    · refine k_c2 109 rfl rfl (if_neg b1259) ?_
                      have b1259 := mt iv_eq.mpr b1259
                      refine k_aload 110 rfl (gs_ne rfl rfl g0) rfl ?_
                      refine k_push 112 rfl rfl ?_
                      have hc1265 : (46 : Int32).toInt = 46 := by decide
                      have e1266 : F1246 7 = F1235 7 := k1250 7 (by decide)
                      refine k_rv I1248 rfl (m_must  I1248.1 (show 0 ≤ (F1246 8) ∧ (F1246 8) ≤ (F1246 7) ∧ (F1246 7) ≤ 700 ∧ ((F1246 9) = 2 → 0 ≤ (F1246 11) ∧ (F1246 11) ≤ 9) ∧ 0 ≤ (F1246 9) ∧ (F1246 9) ≤ 4 by omega)) (Nat.ble_eq_true_of_le (by omega)) rfl rfl I1248.rc ?_
                      rintro h1268 F1269 A1270 I1271 ⟨k1273, k1274, p1272⟩
                      replace p1272 : ((F1246 8) ≤ F1269 8 ∧ F1269 8 ≤ (F1246 7)) ∧ (F1269 6 = 0 → (F1246 6) = 0 ∧ (F1269 9 = 0 ∨ (F1246 8) < F1269 8)) ∧ (F1269 9 = 2 → 0 ≤ F1269 11 ∧ F1269 11 ≤ 9) ∧ (0 ≤ F1269 9 ∧ F1269 9 ≤ 4) := p1272
                      obtain ⟨p1272a, p1272b, p1272c, p1272d⟩ := p1272
                      have k1274 := fr2.nil k1274
                      subst k1274
                      show am_Ok _ _ _ (115, _, [], _, 0, 0) _
                      refine k_aload 116 rfl (gs_ne rfl rfl g0) rfl ?_
                      have e1275 : F1269 7 = F1246 7 := k1273 7 (by decide)
                      have e1276 : F1269 20 = F1246 20 := k1273 20 (by decide)
                      have e1277 : F1246 20 = F1235 20 := k1250 20 (by decide)
                      have e1278 : F1235 20 = x1225.toInt := k1239 20 (by decide)
                      have e1279 : F1269 21 = F1246 21 := k1273 21 (by decide)
                      have e1280 : F1246 21 = F1235 21 := k1250 21 (by decide)
                      have e1281 : F1235 21 = F 21 := k1239 21 (by decide)
                      have e1282 : F1269 18 = F1246 18 := k1273 18 (by decide)
                      have e1283 : F1246 18 = F1235 18 := k1250 18 (by decide)
                      have e1284 : F1235 18 = F 18 := k1239 18 (by decide)
                      have e1285 : F 18 = F0 18 := hF 18 (by decide)
                      have e1286 : F1269 23 = F1246 23 := k1273 23 (by decide)
                      have e1287 : F1246 23 = F1235 23 := k1250 23 (by decide)
                      refine k_rv I1271 rfl (hrec  I1271.1 (show 0 ≤ (F1269 8) ∧ (F1269 8) ≤ (F1269 7) ∧ (F1269 7) ≤ 700 ∧ 0 ≤ (F1269 20) ∧ (F1269 20) ≤ 30 ∧ 0 ≤ (F1269 21) ∧ (F1269 21) ≤ 12 ∧ 0 ≤ (F1269 18) ∧ (F1269 18) ≤ 12 ∧ 0 ≤ (F1269 23) ∧ (F1269 23) ≤ 1000000 ∧ ((F1269 9) = 2 → 0 ≤ (F1269 11) ∧ (F1269 11) ≤ 9) ∧ 0 ≤ (F1269 9) ∧ (F1269 9) ≤ 4 by omega) (show nm ((A1236 16)) ((A1236 17)) ((F1269 18)) by rw [((k1240 16 (by decide)).trans (hA 16 (by decide))), ((k1240 17 (by decide)).trans (hA 17 (by decide))), ((k1273 18 (by decide)).trans ((k1250 18 (by decide)).trans ((k1239 18 (by decide)).trans (hF 18 (by decide)))))]; exact p2) (show (12 - (F1269 21)) + (30 - (F1269 20)) < (gk : Int) by omega)) (Nat.ble_eq_true_of_le (by omega)) rfl rfl I1271.rc ?_
                      rintro h1289 F1290 A1291 I1292 ⟨k1294, k1295, p1293⟩
                      replace p1293 : ((F1269 8) ≤ F1290 8 ∧ F1290 8 ≤ (F1269 7) ∧ (F1269 20) ≤ F1290 20 ∧ F1290 20 ≤ 30 ∧ F1290 21 = (F1269 21) ∧ (F1269 23) ≤ F1290 23 ∧ F1290 23 ≤ 1000000 ∧ (F1290 9 = 2 → 0 ≤ F1290 11 ∧ F1290 11 ≤ 9) ∧ 0 ≤ F1290 9 ∧ F1290 9 ≤ 4) ∧ (F1290 6 = 0 → F1290 20 = (F1269 20) ∧ (F1269 6) = 0 ∧ (F1290 9 = 0 ∨ (F1269 8) < F1290 8)) ∧ (F1290 6 = 0 → F1290 23 ≤ 124 → rd1 (A1291 22) ((A1236 22)) ((F1269 23)) (F1290 23) ((F1269 20))) := p1293
                      obtain ⟨p1293a, p1293b, p1293c⟩ := p1293
                      show am_Ok _ _ _ (119, _, [], _, 0, 0) _
                      refine k_aload 120 rfl (gs_ne rfl rfl g0) rfl ?_
                      refine k_dup 121 rfl rfl rfl ?_
                      refine r_gI I1292 124 rfl rfl rfl (fun x1296 (e1297 : x1296.toInt = F1290 20) => ?_)
                      refine k_iload 125 rfl gs_eq rfl ?_
                      obtain ⟨x1298, q1299⟩ : ∃ q : Int32, q = (x1296 - x1230) := ⟨_, rfl⟩
                      have e1300 : x1298.toInt = x1296.toInt - x1230.toInt := by rw [q1299, iv_sub (by omega) (by omega)]
                      refine k_bin x1298 126 rfl q1299.symm rfl ?_
                      refine r_pI I1292 129 rfl rfl rfl (fun h1301 I1302 => ?_)
                      exact k_fin rfl rfl ⟨_, _, _, rfl, I1302, (fr1.up (by decide) (fr1.tr (by decide) (fr1.tr (by decide) (fr1.tr (by decide) (fr1.tr (by decide) (fr1.up (by decide) hF) k1239) k1250) k1273) k1294)), (fr2.tr (by decide) (fr2.tr (by decide) hA k1240) k1295), ⟨(show (F0 8 ≤ F1290 8 ∧ F1290 8 ≤ F0 7 ∧ F0 20 ≤ x1298.toInt ∧ x1298.toInt ≤ 30 ∧ F1290 21 = F0 21 ∧ F0 23 ≤ F1290 23 ∧ F1290 23 ≤ 1000000 ∧ (F1290 9 = 2 → 0 ≤ F1290 11 ∧ F1290 11 ≤ 9) ∧ 0 ≤ F1290 9 ∧ F1290 9 ≤ 4) by omega), (show (F1290 6 = 0 → x1298.toInt = F0 20 ∧ F0 6 = 0 ∧ (F1290 9 = 0 ∨ F0 8 < F1290 8)) by omega), fun z1 z2 => by have z8 : F1290 6 = 0 := z1; have z9 : F1290 23 ≤ 124 := z2; have h9 := p1293c (by omega) (by omega); show rd1 (A1291 22) (A0 22) (F0 23) (F1290 23) (F0 20); exact fu_end (hfu (by omega)) (by omega) (rd_cg h9 (by omega) (by omega) rfl) (by omega)⟩⟩
                  · refine k_c1 11 rfl rfl (if_neg b1256) ?_
                    have b1256 := mt iv_eq0.mpr b1256
                    refine k_push 12 rfl rfl ?_
                    refine k_fin rfl (fin_Z (Or.inl rfl)) ⟨_, _, rfl, rf_len I1248 I1248, ?_⟩
                    show am_Ok _ _ _ (98, _, [.inl (0 : Int32)], _, 0, 0) _
                    refine k_c1 109 rfl rfl (if_pos (by decide)) ?_
                    refine k_aload 110 rfl (gs_ne rfl rfl g0) rfl ?_
                    refine k_push 112 rfl rfl ?_
                    have hc1303 : (46 : Int32).toInt = 46 := by decide
                    have e1304 : F1246 7 = F1235 7 := k1250 7 (by decide)
                    refine k_rv I1248 rfl (m_must  I1248.1 (show 0 ≤ (F1246 8) ∧ (F1246 8) ≤ (F1246 7) ∧ (F1246 7) ≤ 700 ∧ ((F1246 9) = 2 → 0 ≤ (F1246 11) ∧ (F1246 11) ≤ 9) ∧ 0 ≤ (F1246 9) ∧ (F1246 9) ≤ 4 by omega)) (Nat.ble_eq_true_of_le (by omega)) rfl rfl I1248.rc ?_
                    rintro h1306 F1307 A1308 I1309 ⟨k1311, k1312, p1310⟩
                    replace p1310 : ((F1246 8) ≤ F1307 8 ∧ F1307 8 ≤ (F1246 7)) ∧ (F1307 6 = 0 → (F1246 6) = 0 ∧ (F1307 9 = 0 ∨ (F1246 8) < F1307 8)) ∧ (F1307 9 = 2 → 0 ≤ F1307 11 ∧ F1307 11 ≤ 9) ∧ (0 ≤ F1307 9 ∧ F1307 9 ≤ 4) := p1310
                    obtain ⟨p1310a, p1310b, p1310c, p1310d⟩ := p1310
                    have k1312 := fr2.nil k1312
                    subst k1312
                    show am_Ok _ _ _ (115, _, [], _, 0, 0) _
                    refine k_aload 116 rfl (gs_ne rfl rfl g0) rfl ?_
                    have e1313 : F1307 7 = F1246 7 := k1311 7 (by decide)
                    have e1314 : F1307 20 = F1246 20 := k1311 20 (by decide)
                    have e1315 : F1246 20 = F1235 20 := k1250 20 (by decide)
                    have e1316 : F1235 20 = x1225.toInt := k1239 20 (by decide)
                    have e1317 : F1307 21 = F1246 21 := k1311 21 (by decide)
                    have e1318 : F1246 21 = F1235 21 := k1250 21 (by decide)
                    have e1319 : F1235 21 = F 21 := k1239 21 (by decide)
                    have e1320 : F1307 18 = F1246 18 := k1311 18 (by decide)
                    have e1321 : F1246 18 = F1235 18 := k1250 18 (by decide)
                    have e1322 : F1235 18 = F 18 := k1239 18 (by decide)
                    have e1323 : F 18 = F0 18 := hF 18 (by decide)
                    have e1324 : F1307 23 = F1246 23 := k1311 23 (by decide)
                    have e1325 : F1246 23 = F1235 23 := k1250 23 (by decide)
                    refine k_rv I1309 rfl (hrec  I1309.1 (show 0 ≤ (F1307 8) ∧ (F1307 8) ≤ (F1307 7) ∧ (F1307 7) ≤ 700 ∧ 0 ≤ (F1307 20) ∧ (F1307 20) ≤ 30 ∧ 0 ≤ (F1307 21) ∧ (F1307 21) ≤ 12 ∧ 0 ≤ (F1307 18) ∧ (F1307 18) ≤ 12 ∧ 0 ≤ (F1307 23) ∧ (F1307 23) ≤ 1000000 ∧ ((F1307 9) = 2 → 0 ≤ (F1307 11) ∧ (F1307 11) ≤ 9) ∧ 0 ≤ (F1307 9) ∧ (F1307 9) ≤ 4 by omega) (show nm ((A1236 16)) ((A1236 17)) ((F1307 18)) by rw [((k1240 16 (by decide)).trans (hA 16 (by decide))), ((k1240 17 (by decide)).trans (hA 17 (by decide))), ((k1311 18 (by decide)).trans ((k1250 18 (by decide)).trans ((k1239 18 (by decide)).trans (hF 18 (by decide)))))]; exact p2) (show (12 - (F1307 21)) + (30 - (F1307 20)) < (gk : Int) by omega)) (Nat.ble_eq_true_of_le (by omega)) rfl rfl I1309.rc ?_
                    rintro h1327 F1328 A1329 I1330 ⟨k1332, k1333, p1331⟩
                    replace p1331 : ((F1307 8) ≤ F1328 8 ∧ F1328 8 ≤ (F1307 7) ∧ (F1307 20) ≤ F1328 20 ∧ F1328 20 ≤ 30 ∧ F1328 21 = (F1307 21) ∧ (F1307 23) ≤ F1328 23 ∧ F1328 23 ≤ 1000000 ∧ (F1328 9 = 2 → 0 ≤ F1328 11 ∧ F1328 11 ≤ 9) ∧ 0 ≤ F1328 9 ∧ F1328 9 ≤ 4) ∧ (F1328 6 = 0 → F1328 20 = (F1307 20) ∧ (F1307 6) = 0 ∧ (F1328 9 = 0 ∨ (F1307 8) < F1328 8)) ∧ (F1328 6 = 0 → F1328 23 ≤ 124 → rd1 (A1329 22) ((A1236 22)) ((F1307 23)) (F1328 23) ((F1307 20))) := p1331
                    obtain ⟨p1331a, p1331b, p1331c⟩ := p1331
                    show am_Ok _ _ _ (119, _, [], _, 0, 0) _
                    refine k_aload 120 rfl (gs_ne rfl rfl g0) rfl ?_
                    refine k_dup 121 rfl rfl rfl ?_
                    refine r_gI I1330 124 rfl rfl rfl (fun x1334 (e1335 : x1334.toInt = F1328 20) => ?_)
                    refine k_iload 125 rfl gs_eq rfl ?_
                    obtain ⟨x1336, q1337⟩ : ∃ q : Int32, q = (x1334 - x1230) := ⟨_, rfl⟩
                    have e1338 : x1336.toInt = x1334.toInt - x1230.toInt := by rw [q1337, iv_sub (by omega) (by omega)]
                    refine k_bin x1336 126 rfl q1337.symm rfl ?_
                    refine r_pI I1330 129 rfl rfl rfl (fun h1339 I1340 => ?_)
                    exact k_fin rfl rfl ⟨_, _, _, rfl, I1340, (fr1.up (by decide) (fr1.tr (by decide) (fr1.tr (by decide) (fr1.tr (by decide) (fr1.tr (by decide) (fr1.up (by decide) hF) k1239) k1250) k1311) k1332)), (fr2.tr (by decide) (fr2.tr (by decide) hA k1240) k1333), ⟨(show (F0 8 ≤ F1328 8 ∧ F1328 8 ≤ F0 7 ∧ F0 20 ≤ x1336.toInt ∧ x1336.toInt ≤ 30 ∧ F1328 21 = F0 21 ∧ F0 23 ≤ F1328 23 ∧ F1328 23 ≤ 1000000 ∧ (F1328 9 = 2 → 0 ≤ F1328 11 ∧ F1328 11 ≤ 9) ∧ 0 ≤ F1328 9 ∧ F1328 9 ≤ 4) by omega), (show (F1328 6 = 0 → x1336.toInt = F0 20 ∧ F0 6 = 0 ∧ (F1328 9 = 0 ∨ F0 8 < F1328 8)) by omega), fun z1 z2 => by have z8 : F1328 6 = 0 := z1; have z9 : F1328 23 ≤ 124 := z2; have h9 := p1331c (by omega) (by omega); show rd1 (A1329 22) (A0 22) (F0 23) (F1328 23) (F0 20); exact fu_end (hfu (by omega)) (by omega) (rd_cg h9 (by omega) (by omega) rfl) (by omega)⟩⟩
                · refine k_c1 11 rfl rfl (if_neg b1217) ?_
                  have b1217 := mt iv_eq0.mpr b1217
                  refine k_push 12 rfl rfl ?_
                  refine k_fin rfl (fin_Z (Or.inl rfl)) ⟨_, _, rfl, rf_len hI hI, ?_⟩
                  show am_Ok _ _ _ (28, _, [.inl (0 : Int32)], _, 0, 0) _
                  refine k_fin rfl (fin_Z (Or.inl rfl)) ⟨_, _, rfl, rf_len hI hI, ?_⟩
                  show am_Ok _ _ _ (55, _, [.inl (0 : Int32)], _, 0, 0) _
                  refine k_c1 58 rfl rfl (if_pos (by decide)) ?_
                  exact k_fin rfl rfl ⟨_, _, _, rfl, hI, hF, hA, ⟨(show (F0 8 ≤ F 8 ∧ F 8 ≤ F0 7 ∧ F0 20 ≤ F 20 ∧ F 20 ≤ 30 ∧ F 21 = F0 21 ∧ F0 23 ≤ F 23 ∧ F 23 ≤ 1000000 ∧ (F 9 = 2 → 0 ≤ F 11 ∧ F 11 ≤ 9) ∧ 0 ≤ F 9 ∧ F 9 ≤ 4) by omega), (show (F 6 = 0 → F 20 = F0 20 ∧ F0 6 = 0 ∧ (F 9 = 0 ∨ F0 8 < F 8)) by omega), fun z => absurd (show F 6 = 0 from z) (by omega)⟩⟩
            · refine k_c2 46 rfl rfl (if_neg b1078) ?_
              have b1078 := mt iv_le.mpr b1078
              refine k_push 47 rfl rfl ?_
              refine k_goto 51 rfl rfl ?_
              refine k_push 52 rfl rfl ?_
              have hc1341 : (2 : Int32).toInt = 2 := by decide
              refine k_in (d := 1) rfl (Nat.ble_eq_true_of_le (by omega)) rfl rfl hI.rc ?_
              refine k_aload 1 rfl rfl rfl ?_
              refine k_in (d := 0) rfl (Nat.ble_eq_true_of_le (by omega)) rfl rfl hI.rc ?_
              refine k_aload 1 rfl rfl rfl ?_
              refine r_gI hI 4 rfl rfl rfl (fun x1342 (e1343 : x1342.toInt = F 6) => ?_)
              by_cases b1344 : x1342 = 0
              · refine k_c1 7 rfl rfl (if_pos b1344) ?_
                have b1344 := iv_eq0.mp b1344
                refine k_push 8 rfl rfl ?_
                refine k_goto 12 rfl rfl ?_
                refine k_fin rfl (fin_Z (Or.inr rfl)) ⟨_, _, rfl, rf_len hI hI, ?_⟩
                show am_Ok _ _ _ (4, _, [.inl (1 : Int32)], _, 0, 0) _
                refine k_c1 7 rfl rfl (if_neg (by decide)) ?_
                refine k_iload 8 rfl rfl rfl ?_
                refine k_c1 24 rfl rfl (if_neg (by decide)) ?_
                refine k_aload 25 rfl rfl rfl ?_
                refine k_in (d := 0) rfl (Nat.ble_eq_true_of_le (by omega)) rfl rfl hI.rc ?_
                refine k_aload 1 rfl rfl rfl ?_
                refine r_gI hI 4 rfl rfl rfl (fun x1345 (e1346 : x1345.toInt = F 6) => ?_)
                by_cases b1347 : x1345 = 0
                · refine k_c1 7 rfl rfl (if_pos b1347) ?_
                  have b1347 := iv_eq0.mp b1347
                  refine k_push 8 rfl rfl ?_
                  refine k_goto 12 rfl rfl ?_
                  refine k_fin rfl (fin_Z (Or.inr rfl)) ⟨_, _, rfl, rf_len hI hI, ?_⟩
                  show am_Ok _ _ _ (28, _, [.inl (1 : Int32)], _, 0, 0) _
                  refine k_fin rfl (fin_Z (Or.inr rfl)) ⟨_, _, rfl, rf_len hI hI, ?_⟩
                  show am_Ok _ _ _ (55, _, [.inl (1 : Int32)], _, 0, 0) _
                  refine k_c1 59 rfl rfl (if_neg (by decide)) ?_
                  refine k_aload 60 rfl g0 rfl ?_
                  refine r_gA hI 63 rfl rfl rfl ?_
                  refine k_aload 64 rfl g0 rfl ?_
                  refine r_gI hI 67 rfl rfl rfl (fun x1348 (e1349 : x1348.toInt = F 20) => ?_)
                  refine k_aload 68 rfl g0 rfl ?_
                  refine r_gJ hI 71 rfl rfl rfl (fun y1350 => ?_)
                  refine r_lst 19 hI 72 rfl rfl (by omega) (show x1348.toInt < 31 by omega) rfl (fun h1351 I1352 => ?_)
                  refine k_aload 73 rfl g0 rfl ?_
                  refine k_dup 74 rfl rfl rfl ?_
                  refine r_gI I1352 77 rfl rfl rfl (fun x1353 (e1354 : x1353.toInt = F 20) => ?_)
                  refine k_push 78 rfl rfl ?_
                  obtain ⟨x1355, q1356⟩ : ∃ q : Int32, q = (x1353 + (1 : Int32)) := ⟨_, rfl⟩
                  have e1357 : x1355.toInt = x1353.toInt + 1 := by rw [q1356, iv_add (by omega) (by omega)]; omega
                  refine k_bin x1355 79 rfl q1356.symm rfl ?_
                  refine r_pI I1352 82 rfl rfl rfl (fun h1358 I1359 => ?_)
                  obtain ⟨x1360, q1361⟩ : ∃ q : Int32, q = v1 + (1 : Int32) := ⟨_, rfl⟩
                  have e1362 : x1360.toInt = v1.toInt + 1 := by rw [q1361, iv_add (by omega) (by omega)]; omega
                  refine k_iinc x1360 85 rfl g1 q1361.symm rfl ?_
                  refine k_aload 86 rfl (gs_ne rfl rfl g0) rfl ?_
                  refine k_push 87 rfl rfl ?_
                  refine k_rv I1359 rfl (m_emits  I1359.1 (show 0 ≤ (F 23) ∧ (F 23) ≤ 1000000 by omega)) (Nat.ble_eq_true_of_le (by omega)) rfl rfl I1359.rc ?_
                  rintro h1364 F1365 A1366 I1367 ⟨k1369, k1370, p1368⟩
                  replace p1368 : ((F 23) ≤ F1365 23 ∧ F1365 23 ≤ 1000000) ∧ (F1365 23 ≤ 124 → F1365 23 = (F 23) + 1) ∧ (F1365 23 ≤ 124 → A1366 22 ((F 23)) = (1 : Int32).toInt ∧ ∀ q : Int, q ≠ (F 23) → A1366 22 q = (A 22) q) := p1368
                  obtain ⟨p1368a, p1368b, p1368c⟩ := p1368
                  show am_Ok _ _ _ (90, _, [], _, 0, 0) _
                  have hfu : F1365 23 ≤ 124 → fu (A1366 22) (A0 22) (F0 23) (F1365 23) (v1.toInt + 1) := fun z9 => fu_s (i2 (by omega)) (p1368b z9) ((p1368c z9).1.trans (by decide)) (p1368c z9).2 (by omega) rfl
                  refine k_aload 91 rfl (gs_ne rfl rfl g0) rfl ?_
                  have e1371 : F1365 8 = F 8 := k1369 8 (by decide)
                  have e1372 : F1365 7 = F 7 := k1369 7 (by decide)
                  have e1373 : F 7 = F0 7 := hF 7 (by decide)
                  refine k_rv I1367 rfl (m_goes  I1367.1 (show 0 ≤ (F1365 8) ∧ (F1365 8) ≤ (F1365 7) ∧ (F1365 7) ≤ 700 by omega)) (Nat.ble_eq_true_of_le (by omega)) rfl rfl I1367.rc ?_
                  rintro h1375 F1376 A1377 I1378 ⟨k1380, k1381, p1379⟩
                  replace p1379 : ((F1365 8) ≤ F1376 8 ∧ F1376 8 ≤ (F1365 7)) ∧ (F1376 9 = 0 ∨ (F1365 8) < F1376 8) ∧ (F1376 9 = 2 → 0 ≤ F1376 11 ∧ F1376 11 ≤ 9) ∧ (0 ≤ F1376 9 ∧ F1376 9 ≤ 4) := p1379
                  obtain ⟨p1379a, p1379b, p1379c, p1379d⟩ := p1379
                  have k1381 := fr2.nil k1381
                  subst k1381
                  show am_Ok _ _ _ (94, _, [], _, 0, 0) _
                  refine k_aload 95 rfl (gs_ne rfl rfl g0) rfl ?_
                  refine k_in (d := 0) rfl (Nat.ble_eq_true_of_le (by omega)) rfl rfl I1378.rc ?_
                  refine k_aload 1 rfl rfl rfl ?_
                  refine r_gI I1378 4 rfl rfl rfl (fun x1382 (e1383 : x1382.toInt = F1376 6) => ?_)
                  have e1384 : F1376 6 = F1365 6 := k1380 6 (by decide)
                  have e1385 : F1365 6 = F 6 := k1369 6 (by decide)
                  by_cases b1386 : x1382 = 0
                  · refine k_c1 7 rfl rfl (if_pos b1386) ?_
                    have b1386 := iv_eq0.mp b1386
                    refine k_push 8 rfl rfl ?_
                    refine k_goto 12 rfl rfl ?_
                    refine k_fin rfl (fin_Z (Or.inr rfl)) ⟨_, _, rfl, rf_len I1378 I1378, ?_⟩
                    show am_Ok _ _ _ (98, _, [.inl (1 : Int32)], _, 0, 0) _
                    refine k_c1 101 rfl rfl (if_neg (by decide)) ?_
                    refine k_aload 102 rfl (gs_ne rfl rfl g0) rfl ?_
                    refine r_gI I1378 105 rfl rfl rfl (fun x1387 (e1388 : x1387.toInt = F1376 9) => ?_)
                    refine k_push 106 rfl rfl ?_
                    by_cases b1389 : x1387 = (1 : Int32)
                    · refine k_c2 6 rfl rfl (if_pos b1389) ?_
                      have b1389 := iv_eq.mp b1389
                      have e1390 : F1376 20 = F1365 20 := k1380 20 (by decide)
                      have e1391 : F1365 20 = x1355.toInt := k1369 20 (by decide)
                      have e1392 : F1376 21 = F1365 21 := k1380 21 (by decide)
                      have e1393 : F1365 21 = F 21 := k1369 21 (by decide)
                      have e1394 : F1376 23 = F1365 23 := k1380 23 (by decide)
                      exact ih _ (show ((31 - x1360.toInt).toNat) < n by omega)  rfl (gs_ne rfl rfl g0) gs_eq I1378 (fr1.tr (by decide) (fr1.tr (by decide) (fr1.up (by decide) hF) k1369) k1380) (fr2.tr (by decide) hA k1370) (show F0 8 ≤ (F1376 8) ∧ (F1376 8) ≤ F0 7 ∧ (F1376 20) = F0 20 + x1360.toInt ∧ 0 ≤ x1360.toInt ∧ (F1376 20) ≤ 30 ∧ (F1376 21) = F0 21 ∧ F0 23 ≤ (F1376 23) ∧ (F1376 23) ≤ 1000000 ∧ ((F1376 9) = 2 → 0 ≤ (F1376 11) ∧ (F1376 11) ≤ 9) ∧ 0 ≤ (F1376 9) ∧ (F1376 9) ≤ 4 ∧ (F1376 6) = 0 by omega) (fun z => by have z9 : F1376 23 ≤ 124 := z; show fu (A1366 22) (A0 22) (F0 23) (F1376 23) x1360.toInt; exact fu_cg (hfu (by omega)) (by omega) (by omega))
                    · refine k_c2 109 rfl rfl (if_neg b1389) ?_
                      have b1389 := mt iv_eq.mpr b1389
                      refine k_aload 110 rfl (gs_ne rfl rfl g0) rfl ?_
                      refine k_push 112 rfl rfl ?_
                      have hc1395 : (46 : Int32).toInt = 46 := by decide
                      have e1396 : F1376 7 = F1365 7 := k1380 7 (by decide)
                      refine k_rv I1378 rfl (m_must  I1378.1 (show 0 ≤ (F1376 8) ∧ (F1376 8) ≤ (F1376 7) ∧ (F1376 7) ≤ 700 ∧ ((F1376 9) = 2 → 0 ≤ (F1376 11) ∧ (F1376 11) ≤ 9) ∧ 0 ≤ (F1376 9) ∧ (F1376 9) ≤ 4 by omega)) (Nat.ble_eq_true_of_le (by omega)) rfl rfl I1378.rc ?_
                      rintro h1398 F1399 A1400 I1401 ⟨k1403, k1404, p1402⟩
                      replace p1402 : ((F1376 8) ≤ F1399 8 ∧ F1399 8 ≤ (F1376 7)) ∧ (F1399 6 = 0 → (F1376 6) = 0 ∧ (F1399 9 = 0 ∨ (F1376 8) < F1399 8)) ∧ (F1399 9 = 2 → 0 ≤ F1399 11 ∧ F1399 11 ≤ 9) ∧ (0 ≤ F1399 9 ∧ F1399 9 ≤ 4) := p1402
                      obtain ⟨p1402a, p1402b, p1402c, p1402d⟩ := p1402
                      have k1404 := fr2.nil k1404
                      subst k1404
                      show am_Ok _ _ _ (115, _, [], _, 0, 0) _
                      refine k_aload 116 rfl (gs_ne rfl rfl g0) rfl ?_
                      have e1405 : F1399 7 = F1376 7 := k1403 7 (by decide)
                      have e1406 : F1399 20 = F1376 20 := k1403 20 (by decide)
                      have e1407 : F1376 20 = F1365 20 := k1380 20 (by decide)
                      have e1408 : F1365 20 = x1355.toInt := k1369 20 (by decide)
                      have e1409 : F1399 21 = F1376 21 := k1403 21 (by decide)
                      have e1410 : F1376 21 = F1365 21 := k1380 21 (by decide)
                      have e1411 : F1365 21 = F 21 := k1369 21 (by decide)
                      have e1412 : F1399 18 = F1376 18 := k1403 18 (by decide)
                      have e1413 : F1376 18 = F1365 18 := k1380 18 (by decide)
                      have e1414 : F1365 18 = F 18 := k1369 18 (by decide)
                      have e1415 : F 18 = F0 18 := hF 18 (by decide)
                      have e1416 : F1399 23 = F1376 23 := k1403 23 (by decide)
                      have e1417 : F1376 23 = F1365 23 := k1380 23 (by decide)
                      refine k_rv I1401 rfl (hrec  I1401.1 (show 0 ≤ (F1399 8) ∧ (F1399 8) ≤ (F1399 7) ∧ (F1399 7) ≤ 700 ∧ 0 ≤ (F1399 20) ∧ (F1399 20) ≤ 30 ∧ 0 ≤ (F1399 21) ∧ (F1399 21) ≤ 12 ∧ 0 ≤ (F1399 18) ∧ (F1399 18) ≤ 12 ∧ 0 ≤ (F1399 23) ∧ (F1399 23) ≤ 1000000 ∧ ((F1399 9) = 2 → 0 ≤ (F1399 11) ∧ (F1399 11) ≤ 9) ∧ 0 ≤ (F1399 9) ∧ (F1399 9) ≤ 4 by omega) (show nm ((A1366 16)) ((A1366 17)) ((F1399 18)) by rw [((k1370 16 (by decide)).trans (hA 16 (by decide))), ((k1370 17 (by decide)).trans (hA 17 (by decide))), ((k1403 18 (by decide)).trans ((k1380 18 (by decide)).trans ((k1369 18 (by decide)).trans (hF 18 (by decide)))))]; exact p2) (show (12 - (F1399 21)) + (30 - (F1399 20)) < (gk : Int) by omega)) (Nat.ble_eq_true_of_le (by omega)) rfl rfl I1401.rc ?_
                      rintro h1419 F1420 A1421 I1422 ⟨k1424, k1425, p1423⟩
                      replace p1423 : ((F1399 8) ≤ F1420 8 ∧ F1420 8 ≤ (F1399 7) ∧ (F1399 20) ≤ F1420 20 ∧ F1420 20 ≤ 30 ∧ F1420 21 = (F1399 21) ∧ (F1399 23) ≤ F1420 23 ∧ F1420 23 ≤ 1000000 ∧ (F1420 9 = 2 → 0 ≤ F1420 11 ∧ F1420 11 ≤ 9) ∧ 0 ≤ F1420 9 ∧ F1420 9 ≤ 4) ∧ (F1420 6 = 0 → F1420 20 = (F1399 20) ∧ (F1399 6) = 0 ∧ (F1420 9 = 0 ∨ (F1399 8) < F1420 8)) ∧ (F1420 6 = 0 → F1420 23 ≤ 124 → rd1 (A1421 22) ((A1366 22)) ((F1399 23)) (F1420 23) ((F1399 20))) := p1423
                      obtain ⟨p1423a, p1423b, p1423c⟩ := p1423
                      show am_Ok _ _ _ (119, _, [], _, 0, 0) _
                      refine k_aload 120 rfl (gs_ne rfl rfl g0) rfl ?_
                      refine k_dup 121 rfl rfl rfl ?_
                      refine r_gI I1422 124 rfl rfl rfl (fun x1426 (e1427 : x1426.toInt = F1420 20) => ?_)
                      refine k_iload 125 rfl gs_eq rfl ?_
                      obtain ⟨x1428, q1429⟩ : ∃ q : Int32, q = (x1426 - x1360) := ⟨_, rfl⟩
                      have e1430 : x1428.toInt = x1426.toInt - x1360.toInt := by rw [q1429, iv_sub (by omega) (by omega)]
                      refine k_bin x1428 126 rfl q1429.symm rfl ?_
                      refine r_pI I1422 129 rfl rfl rfl (fun h1431 I1432 => ?_)
                      exact k_fin rfl rfl ⟨_, _, _, rfl, I1432, (fr1.up (by decide) (fr1.tr (by decide) (fr1.tr (by decide) (fr1.tr (by decide) (fr1.tr (by decide) (fr1.up (by decide) hF) k1369) k1380) k1403) k1424)), (fr2.tr (by decide) (fr2.tr (by decide) hA k1370) k1425), ⟨(show (F0 8 ≤ F1420 8 ∧ F1420 8 ≤ F0 7 ∧ F0 20 ≤ x1428.toInt ∧ x1428.toInt ≤ 30 ∧ F1420 21 = F0 21 ∧ F0 23 ≤ F1420 23 ∧ F1420 23 ≤ 1000000 ∧ (F1420 9 = 2 → 0 ≤ F1420 11 ∧ F1420 11 ≤ 9) ∧ 0 ≤ F1420 9 ∧ F1420 9 ≤ 4) by omega), (show (F1420 6 = 0 → x1428.toInt = F0 20 ∧ F0 6 = 0 ∧ (F1420 9 = 0 ∨ F0 8 < F1420 8)) by omega), fun z1 z2 => by have z8 : F1420 6 = 0 := z1; have z9 : F1420 23 ≤ 124 := z2; have h9 := p1423c (by omega) (by omega); show rd1 (A1421 22) (A0 22) (F0 23) (F1420 23) (F0 20); exact fu_end (hfu (by omega)) (by omega) (rd_cg h9 (by omega) (by omega) rfl) (by omega)⟩⟩
                  · refine k_c1 11 rfl rfl (if_neg b1386) ?_
                    have b1386 := mt iv_eq0.mpr b1386
                    refine k_push 12 rfl rfl ?_
                    refine k_fin rfl (fin_Z (Or.inl rfl)) ⟨_, _, rfl, rf_len I1378 I1378, ?_⟩
                    show am_Ok _ _ _ (98, _, [.inl (0 : Int32)], _, 0, 0) _
                    refine k_c1 109 rfl rfl (if_pos (by decide)) ?_
                    refine k_aload 110 rfl (gs_ne rfl rfl g0) rfl ?_
                    refine k_push 112 rfl rfl ?_
                    have hc1433 : (46 : Int32).toInt = 46 := by decide
                    have e1434 : F1376 7 = F1365 7 := k1380 7 (by decide)
                    refine k_rv I1378 rfl (m_must  I1378.1 (show 0 ≤ (F1376 8) ∧ (F1376 8) ≤ (F1376 7) ∧ (F1376 7) ≤ 700 ∧ ((F1376 9) = 2 → 0 ≤ (F1376 11) ∧ (F1376 11) ≤ 9) ∧ 0 ≤ (F1376 9) ∧ (F1376 9) ≤ 4 by omega)) (Nat.ble_eq_true_of_le (by omega)) rfl rfl I1378.rc ?_
                    rintro h1436 F1437 A1438 I1439 ⟨k1441, k1442, p1440⟩
                    replace p1440 : ((F1376 8) ≤ F1437 8 ∧ F1437 8 ≤ (F1376 7)) ∧ (F1437 6 = 0 → (F1376 6) = 0 ∧ (F1437 9 = 0 ∨ (F1376 8) < F1437 8)) ∧ (F1437 9 = 2 → 0 ≤ F1437 11 ∧ F1437 11 ≤ 9) ∧ (0 ≤ F1437 9 ∧ F1437 9 ≤ 4) := p1440
                    obtain ⟨p1440a, p1440b, p1440c, p1440d⟩ := p1440
                    have k1442 := fr2.nil k1442
                    subst k1442
                    show am_Ok _ _ _ (115, _, [], _, 0, 0) _
                    refine k_aload 116 rfl (gs_ne rfl rfl g0) rfl ?_
                    have e1443 : F1437 7 = F1376 7 := k1441 7 (by decide)
                    have e1444 : F1437 20 = F1376 20 := k1441 20 (by decide)
                    have e1445 : F1376 20 = F1365 20 := k1380 20 (by decide)
                    have e1446 : F1365 20 = x1355.toInt := k1369 20 (by decide)
                    have e1447 : F1437 21 = F1376 21 := k1441 21 (by decide)
                    have e1448 : F1376 21 = F1365 21 := k1380 21 (by decide)
                    have e1449 : F1365 21 = F 21 := k1369 21 (by decide)
                    have e1450 : F1437 18 = F1376 18 := k1441 18 (by decide)
                    have e1451 : F1376 18 = F1365 18 := k1380 18 (by decide)
                    have e1452 : F1365 18 = F 18 := k1369 18 (by decide)
                    have e1453 : F 18 = F0 18 := hF 18 (by decide)
                    have e1454 : F1437 23 = F1376 23 := k1441 23 (by decide)
                    have e1455 : F1376 23 = F1365 23 := k1380 23 (by decide)
                    refine k_rv I1439 rfl (hrec  I1439.1 (show 0 ≤ (F1437 8) ∧ (F1437 8) ≤ (F1437 7) ∧ (F1437 7) ≤ 700 ∧ 0 ≤ (F1437 20) ∧ (F1437 20) ≤ 30 ∧ 0 ≤ (F1437 21) ∧ (F1437 21) ≤ 12 ∧ 0 ≤ (F1437 18) ∧ (F1437 18) ≤ 12 ∧ 0 ≤ (F1437 23) ∧ (F1437 23) ≤ 1000000 ∧ ((F1437 9) = 2 → 0 ≤ (F1437 11) ∧ (F1437 11) ≤ 9) ∧ 0 ≤ (F1437 9) ∧ (F1437 9) ≤ 4 by omega) (show nm ((A1366 16)) ((A1366 17)) ((F1437 18)) by rw [((k1370 16 (by decide)).trans (hA 16 (by decide))), ((k1370 17 (by decide)).trans (hA 17 (by decide))), ((k1441 18 (by decide)).trans ((k1380 18 (by decide)).trans ((k1369 18 (by decide)).trans (hF 18 (by decide)))))]; exact p2) (show (12 - (F1437 21)) + (30 - (F1437 20)) < (gk : Int) by omega)) (Nat.ble_eq_true_of_le (by omega)) rfl rfl I1439.rc ?_
                    rintro h1457 F1458 A1459 I1460 ⟨k1462, k1463, p1461⟩
                    replace p1461 : ((F1437 8) ≤ F1458 8 ∧ F1458 8 ≤ (F1437 7) ∧ (F1437 20) ≤ F1458 20 ∧ F1458 20 ≤ 30 ∧ F1458 21 = (F1437 21) ∧ (F1437 23) ≤ F1458 23 ∧ F1458 23 ≤ 1000000 ∧ (F1458 9 = 2 → 0 ≤ F1458 11 ∧ F1458 11 ≤ 9) ∧ 0 ≤ F1458 9 ∧ F1458 9 ≤ 4) ∧ (F1458 6 = 0 → F1458 20 = (F1437 20) ∧ (F1437 6) = 0 ∧ (F1458 9 = 0 ∨ (F1437 8) < F1458 8)) ∧ (F1458 6 = 0 → F1458 23 ≤ 124 → rd1 (A1459 22) ((A1366 22)) ((F1437 23)) (F1458 23) ((F1437 20))) := p1461
                    obtain ⟨p1461a, p1461b, p1461c⟩ := p1461
                    show am_Ok _ _ _ (119, _, [], _, 0, 0) _
                    refine k_aload 120 rfl (gs_ne rfl rfl g0) rfl ?_
                    refine k_dup 121 rfl rfl rfl ?_
                    refine r_gI I1460 124 rfl rfl rfl (fun x1464 (e1465 : x1464.toInt = F1458 20) => ?_)
                    refine k_iload 125 rfl gs_eq rfl ?_
                    obtain ⟨x1466, q1467⟩ : ∃ q : Int32, q = (x1464 - x1360) := ⟨_, rfl⟩
                    have e1468 : x1466.toInt = x1464.toInt - x1360.toInt := by rw [q1467, iv_sub (by omega) (by omega)]
                    refine k_bin x1466 126 rfl q1467.symm rfl ?_
                    refine r_pI I1460 129 rfl rfl rfl (fun h1469 I1470 => ?_)
                    exact k_fin rfl rfl ⟨_, _, _, rfl, I1470, (fr1.up (by decide) (fr1.tr (by decide) (fr1.tr (by decide) (fr1.tr (by decide) (fr1.tr (by decide) (fr1.up (by decide) hF) k1369) k1380) k1441) k1462)), (fr2.tr (by decide) (fr2.tr (by decide) hA k1370) k1463), ⟨(show (F0 8 ≤ F1458 8 ∧ F1458 8 ≤ F0 7 ∧ F0 20 ≤ x1466.toInt ∧ x1466.toInt ≤ 30 ∧ F1458 21 = F0 21 ∧ F0 23 ≤ F1458 23 ∧ F1458 23 ≤ 1000000 ∧ (F1458 9 = 2 → 0 ≤ F1458 11 ∧ F1458 11 ≤ 9) ∧ 0 ≤ F1458 9 ∧ F1458 9 ≤ 4) by omega), (show (F1458 6 = 0 → x1466.toInt = F0 20 ∧ F0 6 = 0 ∧ (F1458 9 = 0 ∨ F0 8 < F1458 8)) by omega), fun z1 z2 => by have z8 : F1458 6 = 0 := z1; have z9 : F1458 23 ≤ 124 := z2; have h9 := p1461c (by omega) (by omega); show rd1 (A1459 22) (A0 22) (F0 23) (F1458 23) (F0 20); exact fu_end (hfu (by omega)) (by omega) (rd_cg h9 (by omega) (by omega) rfl) (by omega)⟩⟩
                · refine k_c1 11 rfl rfl (if_neg b1347) ?_
                  have b1347 := mt iv_eq0.mpr b1347
                  refine k_push 12 rfl rfl ?_
                  refine k_fin rfl (fin_Z (Or.inl rfl)) ⟨_, _, rfl, rf_len hI hI, ?_⟩
                  show am_Ok _ _ _ (28, _, [.inl (0 : Int32)], _, 0, 0) _
                  refine k_fin rfl (fin_Z (Or.inl rfl)) ⟨_, _, rfl, rf_len hI hI, ?_⟩
                  show am_Ok _ _ _ (55, _, [.inl (0 : Int32)], _, 0, 0) _
                  refine k_c1 58 rfl rfl (if_pos (by decide)) ?_
                  exact k_fin rfl rfl ⟨_, _, _, rfl, hI, hF, hA, ⟨(show (F0 8 ≤ F 8 ∧ F 8 ≤ F0 7 ∧ F0 20 ≤ F 20 ∧ F 20 ≤ 30 ∧ F 21 = F0 21 ∧ F0 23 ≤ F 23 ∧ F 23 ≤ 1000000 ∧ (F 9 = 2 → 0 ≤ F 11 ∧ F 11 ≤ 9) ∧ 0 ≤ F 9 ∧ F 9 ≤ 4) by omega), (show (F 6 = 0 → F 20 = F0 20 ∧ F0 6 = 0 ∧ (F 9 = 0 ∨ F0 8 < F 8)) by omega), fun z => absurd (show F 6 = 0 from z) (by omega)⟩⟩
              · refine k_c1 11 rfl rfl (if_neg b1344) ?_
                have b1344 := mt iv_eq0.mpr b1344
                refine k_push 12 rfl rfl ?_
                refine k_fin rfl (fin_Z (Or.inl rfl)) ⟨_, _, rfl, rf_len hI hI, ?_⟩
                show am_Ok _ _ _ (4, _, [.inl (0 : Int32)], _, 0, 0) _
                refine k_c1 24 rfl rfl (if_pos (by decide)) ?_
                refine k_aload 25 rfl rfl rfl ?_
                refine k_in (d := 0) rfl (Nat.ble_eq_true_of_le (by omega)) rfl rfl hI.rc ?_
                refine k_aload 1 rfl rfl rfl ?_
                refine r_gI hI 4 rfl rfl rfl (fun x1471 (e1472 : x1471.toInt = F 6) => ?_)
                by_cases b1473 : x1471 = 0
                · refine k_c1 7 rfl rfl (if_pos b1473) ?_
                  have b1473 := iv_eq0.mp b1473
                  refine k_push 8 rfl rfl ?_
                  refine k_goto 12 rfl rfl ?_
                  refine k_fin rfl (fin_Z (Or.inr rfl)) ⟨_, _, rfl, rf_len hI hI, ?_⟩
                  show am_Ok _ _ _ (28, _, [.inl (1 : Int32)], _, 0, 0) _
                  refine k_fin rfl (fin_Z (Or.inr rfl)) ⟨_, _, rfl, rf_len hI hI, ?_⟩
                  show am_Ok _ _ _ (55, _, [.inl (1 : Int32)], _, 0, 0) _
                  refine k_c1 59 rfl rfl (if_neg (by decide)) ?_
                  refine k_aload 60 rfl g0 rfl ?_
                  refine r_gA hI 63 rfl rfl rfl ?_
                  refine k_aload 64 rfl g0 rfl ?_
                  refine r_gI hI 67 rfl rfl rfl (fun x1474 (e1475 : x1474.toInt = F 20) => ?_)
                  refine k_aload 68 rfl g0 rfl ?_
                  refine r_gJ hI 71 rfl rfl rfl (fun y1476 => ?_)
                  refine r_lst 19 hI 72 rfl rfl (by omega) (show x1474.toInt < 31 by omega) rfl (fun h1477 I1478 => ?_)
                  refine k_aload 73 rfl g0 rfl ?_
                  refine k_dup 74 rfl rfl rfl ?_
                  refine r_gI I1478 77 rfl rfl rfl (fun x1479 (e1480 : x1479.toInt = F 20) => ?_)
                  refine k_push 78 rfl rfl ?_
                  obtain ⟨x1481, q1482⟩ : ∃ q : Int32, q = (x1479 + (1 : Int32)) := ⟨_, rfl⟩
                  have e1483 : x1481.toInt = x1479.toInt + 1 := by rw [q1482, iv_add (by omega) (by omega)]; omega
                  refine k_bin x1481 79 rfl q1482.symm rfl ?_
                  refine r_pI I1478 82 rfl rfl rfl (fun h1484 I1485 => ?_)
                  obtain ⟨x1486, q1487⟩ : ∃ q : Int32, q = v1 + (1 : Int32) := ⟨_, rfl⟩
                  have e1488 : x1486.toInt = v1.toInt + 1 := by rw [q1487, iv_add (by omega) (by omega)]; omega
                  refine k_iinc x1486 85 rfl g1 q1487.symm rfl ?_
                  refine k_aload 86 rfl (gs_ne rfl rfl g0) rfl ?_
                  refine k_push 87 rfl rfl ?_
                  refine k_rv I1485 rfl (m_emits  I1485.1 (show 0 ≤ (F 23) ∧ (F 23) ≤ 1000000 by omega)) (Nat.ble_eq_true_of_le (by omega)) rfl rfl I1485.rc ?_
                  rintro h1490 F1491 A1492 I1493 ⟨k1495, k1496, p1494⟩
                  replace p1494 : ((F 23) ≤ F1491 23 ∧ F1491 23 ≤ 1000000) ∧ (F1491 23 ≤ 124 → F1491 23 = (F 23) + 1) ∧ (F1491 23 ≤ 124 → A1492 22 ((F 23)) = (1 : Int32).toInt ∧ ∀ q : Int, q ≠ (F 23) → A1492 22 q = (A 22) q) := p1494
                  obtain ⟨p1494a, p1494b, p1494c⟩ := p1494
                  show am_Ok _ _ _ (90, _, [], _, 0, 0) _
                  have hfu : F1491 23 ≤ 124 → fu (A1492 22) (A0 22) (F0 23) (F1491 23) (v1.toInt + 1) := fun z9 => fu_s (i2 (by omega)) (p1494b z9) ((p1494c z9).1.trans (by decide)) (p1494c z9).2 (by omega) rfl
                  refine k_aload 91 rfl (gs_ne rfl rfl g0) rfl ?_
                  have e1497 : F1491 8 = F 8 := k1495 8 (by decide)
                  have e1498 : F1491 7 = F 7 := k1495 7 (by decide)
                  have e1499 : F 7 = F0 7 := hF 7 (by decide)
                  refine k_rv I1493 rfl (m_goes  I1493.1 (show 0 ≤ (F1491 8) ∧ (F1491 8) ≤ (F1491 7) ∧ (F1491 7) ≤ 700 by omega)) (Nat.ble_eq_true_of_le (by omega)) rfl rfl I1493.rc ?_
                  rintro h1501 F1502 A1503 I1504 ⟨k1506, k1507, p1505⟩
                  replace p1505 : ((F1491 8) ≤ F1502 8 ∧ F1502 8 ≤ (F1491 7)) ∧ (F1502 9 = 0 ∨ (F1491 8) < F1502 8) ∧ (F1502 9 = 2 → 0 ≤ F1502 11 ∧ F1502 11 ≤ 9) ∧ (0 ≤ F1502 9 ∧ F1502 9 ≤ 4) := p1505
                  obtain ⟨p1505a, p1505b, p1505c, p1505d⟩ := p1505
                  have k1507 := fr2.nil k1507
                  subst k1507
                  show am_Ok _ _ _ (94, _, [], _, 0, 0) _
                  refine k_aload 95 rfl (gs_ne rfl rfl g0) rfl ?_
                  refine k_in (d := 0) rfl (Nat.ble_eq_true_of_le (by omega)) rfl rfl I1504.rc ?_
                  refine k_aload 1 rfl rfl rfl ?_
                  refine r_gI I1504 4 rfl rfl rfl (fun x1508 (e1509 : x1508.toInt = F1502 6) => ?_)
                  have e1510 : F1502 6 = F1491 6 := k1506 6 (by decide)
                  have e1511 : F1491 6 = F 6 := k1495 6 (by decide)
                  by_cases b1512 : x1508 = 0
                  · refine k_c1 7 rfl rfl (if_pos b1512) ?_
                    have b1512 := iv_eq0.mp b1512
                    refine k_push 8 rfl rfl ?_
                    refine k_goto 12 rfl rfl ?_
                    refine k_fin rfl (fin_Z (Or.inr rfl)) ⟨_, _, rfl, rf_len I1504 I1504, ?_⟩
                    show am_Ok _ _ _ (98, _, [.inl (1 : Int32)], _, 0, 0) _
                    refine k_c1 101 rfl rfl (if_neg (by decide)) ?_
                    refine k_aload 102 rfl (gs_ne rfl rfl g0) rfl ?_
                    refine r_gI I1504 105 rfl rfl rfl (fun x1513 (e1514 : x1513.toInt = F1502 9) => ?_)
                    refine k_push 106 rfl rfl ?_
                    by_cases b1515 : x1513 = (1 : Int32)
                    · refine k_c2 6 rfl rfl (if_pos b1515) ?_
                      have b1515 := iv_eq.mp b1515
                      have e1516 : F1502 20 = F1491 20 := k1506 20 (by decide)
                      have e1517 : F1491 20 = x1481.toInt := k1495 20 (by decide)
                      have e1518 : F1502 21 = F1491 21 := k1506 21 (by decide)
                      have e1519 : F1491 21 = F 21 := k1495 21 (by decide)
                      have e1520 : F1502 23 = F1491 23 := k1506 23 (by decide)
                      exact ih _ (show ((31 - x1486.toInt).toNat) < n by omega)  rfl (gs_ne rfl rfl g0) gs_eq I1504 (fr1.tr (by decide) (fr1.tr (by decide) (fr1.up (by decide) hF) k1495) k1506) (fr2.tr (by decide) hA k1496) (show F0 8 ≤ (F1502 8) ∧ (F1502 8) ≤ F0 7 ∧ (F1502 20) = F0 20 + x1486.toInt ∧ 0 ≤ x1486.toInt ∧ (F1502 20) ≤ 30 ∧ (F1502 21) = F0 21 ∧ F0 23 ≤ (F1502 23) ∧ (F1502 23) ≤ 1000000 ∧ ((F1502 9) = 2 → 0 ≤ (F1502 11) ∧ (F1502 11) ≤ 9) ∧ 0 ≤ (F1502 9) ∧ (F1502 9) ≤ 4 ∧ (F1502 6) = 0 by omega) (fun z => by have z9 : F1502 23 ≤ 124 := z; show fu (A1492 22) (A0 22) (F0 23) (F1502 23) x1486.toInt; exact fu_cg (hfu (by omega)) (by omega) (by omega))
                    · refine k_c2 109 rfl rfl (if_neg b1515) ?_
                      have b1515 := mt iv_eq.mpr b1515
                      refine k_aload 110 rfl (gs_ne rfl rfl g0) rfl ?_
                      refine k_push 112 rfl rfl ?_
                      have hc1521 : (46 : Int32).toInt = 46 := by decide
                      have e1522 : F1502 7 = F1491 7 := k1506 7 (by decide)
                      refine k_rv I1504 rfl (m_must  I1504.1 (show 0 ≤ (F1502 8) ∧ (F1502 8) ≤ (F1502 7) ∧ (F1502 7) ≤ 700 ∧ ((F1502 9) = 2 → 0 ≤ (F1502 11) ∧ (F1502 11) ≤ 9) ∧ 0 ≤ (F1502 9) ∧ (F1502 9) ≤ 4 by omega)) (Nat.ble_eq_true_of_le (by omega)) rfl rfl I1504.rc ?_
                      rintro h1524 F1525 A1526 I1527 ⟨k1529, k1530, p1528⟩
                      replace p1528 : ((F1502 8) ≤ F1525 8 ∧ F1525 8 ≤ (F1502 7)) ∧ (F1525 6 = 0 → (F1502 6) = 0 ∧ (F1525 9 = 0 ∨ (F1502 8) < F1525 8)) ∧ (F1525 9 = 2 → 0 ≤ F1525 11 ∧ F1525 11 ≤ 9) ∧ (0 ≤ F1525 9 ∧ F1525 9 ≤ 4) := p1528
                      obtain ⟨p1528a, p1528b, p1528c, p1528d⟩ := p1528
                      have k1530 := fr2.nil k1530
                      subst k1530
                      show am_Ok _ _ _ (115, _, [], _, 0, 0) _
                      refine k_aload 116 rfl (gs_ne rfl rfl g0) rfl ?_
                      have e1531 : F1525 7 = F1502 7 := k1529 7 (by decide)
                      have e1532 : F1525 20 = F1502 20 := k1529 20 (by decide)
                      have e1533 : F1502 20 = F1491 20 := k1506 20 (by decide)
                      have e1534 : F1491 20 = x1481.toInt := k1495 20 (by decide)
                      have e1535 : F1525 21 = F1502 21 := k1529 21 (by decide)
                      have e1536 : F1502 21 = F1491 21 := k1506 21 (by decide)
                      have e1537 : F1491 21 = F 21 := k1495 21 (by decide)
                      have e1538 : F1525 18 = F1502 18 := k1529 18 (by decide)
                      have e1539 : F1502 18 = F1491 18 := k1506 18 (by decide)
                      have e1540 : F1491 18 = F 18 := k1495 18 (by decide)
                      have e1541 : F 18 = F0 18 := hF 18 (by decide)
                      have e1542 : F1525 23 = F1502 23 := k1529 23 (by decide)
                      have e1543 : F1502 23 = F1491 23 := k1506 23 (by decide)
                      refine k_rv I1527 rfl (hrec  I1527.1 (show 0 ≤ (F1525 8) ∧ (F1525 8) ≤ (F1525 7) ∧ (F1525 7) ≤ 700 ∧ 0 ≤ (F1525 20) ∧ (F1525 20) ≤ 30 ∧ 0 ≤ (F1525 21) ∧ (F1525 21) ≤ 12 ∧ 0 ≤ (F1525 18) ∧ (F1525 18) ≤ 12 ∧ 0 ≤ (F1525 23) ∧ (F1525 23) ≤ 1000000 ∧ ((F1525 9) = 2 → 0 ≤ (F1525 11) ∧ (F1525 11) ≤ 9) ∧ 0 ≤ (F1525 9) ∧ (F1525 9) ≤ 4 by omega) (show nm ((A1492 16)) ((A1492 17)) ((F1525 18)) by rw [((k1496 16 (by decide)).trans (hA 16 (by decide))), ((k1496 17 (by decide)).trans (hA 17 (by decide))), ((k1529 18 (by decide)).trans ((k1506 18 (by decide)).trans ((k1495 18 (by decide)).trans (hF 18 (by decide)))))]; exact p2) (show (12 - (F1525 21)) + (30 - (F1525 20)) < (gk : Int) by omega)) (Nat.ble_eq_true_of_le (by omega)) rfl rfl I1527.rc ?_
                      rintro h1545 F1546 A1547 I1548 ⟨k1550, k1551, p1549⟩
                      replace p1549 : ((F1525 8) ≤ F1546 8 ∧ F1546 8 ≤ (F1525 7) ∧ (F1525 20) ≤ F1546 20 ∧ F1546 20 ≤ 30 ∧ F1546 21 = (F1525 21) ∧ (F1525 23) ≤ F1546 23 ∧ F1546 23 ≤ 1000000 ∧ (F1546 9 = 2 → 0 ≤ F1546 11 ∧ F1546 11 ≤ 9) ∧ 0 ≤ F1546 9 ∧ F1546 9 ≤ 4) ∧ (F1546 6 = 0 → F1546 20 = (F1525 20) ∧ (F1525 6) = 0 ∧ (F1546 9 = 0 ∨ (F1525 8) < F1546 8)) ∧ (F1546 6 = 0 → F1546 23 ≤ 124 → rd1 (A1547 22) ((A1492 22)) ((F1525 23)) (F1546 23) ((F1525 20))) := p1549
                      obtain ⟨p1549a, p1549b, p1549c⟩ := p1549
                      show am_Ok _ _ _ (119, _, [], _, 0, 0) _
                      refine k_aload 120 rfl (gs_ne rfl rfl g0) rfl ?_
                      refine k_dup 121 rfl rfl rfl ?_
                      refine r_gI I1548 124 rfl rfl rfl (fun x1552 (e1553 : x1552.toInt = F1546 20) => ?_)
                      refine k_iload 125 rfl gs_eq rfl ?_
                      obtain ⟨x1554, q1555⟩ : ∃ q : Int32, q = (x1552 - x1486) := ⟨_, rfl⟩
                      have e1556 : x1554.toInt = x1552.toInt - x1486.toInt := by rw [q1555, iv_sub (by omega) (by omega)]
                      refine k_bin x1554 126 rfl q1555.symm rfl ?_
                      refine r_pI I1548 129 rfl rfl rfl (fun h1557 I1558 => ?_)
                      exact k_fin rfl rfl ⟨_, _, _, rfl, I1558, (fr1.up (by decide) (fr1.tr (by decide) (fr1.tr (by decide) (fr1.tr (by decide) (fr1.tr (by decide) (fr1.up (by decide) hF) k1495) k1506) k1529) k1550)), (fr2.tr (by decide) (fr2.tr (by decide) hA k1496) k1551), ⟨(show (F0 8 ≤ F1546 8 ∧ F1546 8 ≤ F0 7 ∧ F0 20 ≤ x1554.toInt ∧ x1554.toInt ≤ 30 ∧ F1546 21 = F0 21 ∧ F0 23 ≤ F1546 23 ∧ F1546 23 ≤ 1000000 ∧ (F1546 9 = 2 → 0 ≤ F1546 11 ∧ F1546 11 ≤ 9) ∧ 0 ≤ F1546 9 ∧ F1546 9 ≤ 4) by omega), (show (F1546 6 = 0 → x1554.toInt = F0 20 ∧ F0 6 = 0 ∧ (F1546 9 = 0 ∨ F0 8 < F1546 8)) by omega), fun z1 z2 => by have z8 : F1546 6 = 0 := z1; have z9 : F1546 23 ≤ 124 := z2; have h9 := p1549c (by omega) (by omega); show rd1 (A1547 22) (A0 22) (F0 23) (F1546 23) (F0 20); exact fu_end (hfu (by omega)) (by omega) (rd_cg h9 (by omega) (by omega) rfl) (by omega)⟩⟩
                  · refine k_c1 11 rfl rfl (if_neg b1512) ?_
                    have b1512 := mt iv_eq0.mpr b1512
                    refine k_push 12 rfl rfl ?_
                    refine k_fin rfl (fin_Z (Or.inl rfl)) ⟨_, _, rfl, rf_len I1504 I1504, ?_⟩
                    show am_Ok _ _ _ (98, _, [.inl (0 : Int32)], _, 0, 0) _
                    refine k_c1 109 rfl rfl (if_pos (by decide)) ?_
                    refine k_aload 110 rfl (gs_ne rfl rfl g0) rfl ?_
                    refine k_push 112 rfl rfl ?_
                    have hc1559 : (46 : Int32).toInt = 46 := by decide
                    have e1560 : F1502 7 = F1491 7 := k1506 7 (by decide)
                    refine k_rv I1504 rfl (m_must  I1504.1 (show 0 ≤ (F1502 8) ∧ (F1502 8) ≤ (F1502 7) ∧ (F1502 7) ≤ 700 ∧ ((F1502 9) = 2 → 0 ≤ (F1502 11) ∧ (F1502 11) ≤ 9) ∧ 0 ≤ (F1502 9) ∧ (F1502 9) ≤ 4 by omega)) (Nat.ble_eq_true_of_le (by omega)) rfl rfl I1504.rc ?_
                    rintro h1562 F1563 A1564 I1565 ⟨k1567, k1568, p1566⟩
                    replace p1566 : ((F1502 8) ≤ F1563 8 ∧ F1563 8 ≤ (F1502 7)) ∧ (F1563 6 = 0 → (F1502 6) = 0 ∧ (F1563 9 = 0 ∨ (F1502 8) < F1563 8)) ∧ (F1563 9 = 2 → 0 ≤ F1563 11 ∧ F1563 11 ≤ 9) ∧ (0 ≤ F1563 9 ∧ F1563 9 ≤ 4) := p1566
                    obtain ⟨p1566a, p1566b, p1566c, p1566d⟩ := p1566
                    have k1568 := fr2.nil k1568
                    subst k1568
                    show am_Ok _ _ _ (115, _, [], _, 0, 0) _
                    refine k_aload 116 rfl (gs_ne rfl rfl g0) rfl ?_
                    have e1569 : F1563 7 = F1502 7 := k1567 7 (by decide)
                    have e1570 : F1563 20 = F1502 20 := k1567 20 (by decide)
                    have e1571 : F1502 20 = F1491 20 := k1506 20 (by decide)
                    have e1572 : F1491 20 = x1481.toInt := k1495 20 (by decide)
                    have e1573 : F1563 21 = F1502 21 := k1567 21 (by decide)
                    have e1574 : F1502 21 = F1491 21 := k1506 21 (by decide)
                    have e1575 : F1491 21 = F 21 := k1495 21 (by decide)
                    have e1576 : F1563 18 = F1502 18 := k1567 18 (by decide)
                    have e1577 : F1502 18 = F1491 18 := k1506 18 (by decide)
                    have e1578 : F1491 18 = F 18 := k1495 18 (by decide)
                    have e1579 : F 18 = F0 18 := hF 18 (by decide)
                    have e1580 : F1563 23 = F1502 23 := k1567 23 (by decide)
                    have e1581 : F1502 23 = F1491 23 := k1506 23 (by decide)
                    refine k_rv I1565 rfl (hrec  I1565.1 (show 0 ≤ (F1563 8) ∧ (F1563 8) ≤ (F1563 7) ∧ (F1563 7) ≤ 700 ∧ 0 ≤ (F1563 20) ∧ (F1563 20) ≤ 30 ∧ 0 ≤ (F1563 21) ∧ (F1563 21) ≤ 12 ∧ 0 ≤ (F1563 18) ∧ (F1563 18) ≤ 12 ∧ 0 ≤ (F1563 23) ∧ (F1563 23) ≤ 1000000 ∧ ((F1563 9) = 2 → 0 ≤ (F1563 11) ∧ (F1563 11) ≤ 9) ∧ 0 ≤ (F1563 9) ∧ (F1563 9) ≤ 4 by omega) (show nm ((A1492 16)) ((A1492 17)) ((F1563 18)) by rw [((k1496 16 (by decide)).trans (hA 16 (by decide))), ((k1496 17 (by decide)).trans (hA 17 (by decide))), ((k1567 18 (by decide)).trans ((k1506 18 (by decide)).trans ((k1495 18 (by decide)).trans (hF 18 (by decide)))))]; exact p2) (show (12 - (F1563 21)) + (30 - (F1563 20)) < (gk : Int) by omega)) (Nat.ble_eq_true_of_le (by omega)) rfl rfl I1565.rc ?_
                    rintro h1583 F1584 A1585 I1586 ⟨k1588, k1589, p1587⟩
                    replace p1587 : ((F1563 8) ≤ F1584 8 ∧ F1584 8 ≤ (F1563 7) ∧ (F1563 20) ≤ F1584 20 ∧ F1584 20 ≤ 30 ∧ F1584 21 = (F1563 21) ∧ (F1563 23) ≤ F1584 23 ∧ F1584 23 ≤ 1000000 ∧ (F1584 9 = 2 → 0 ≤ F1584 11 ∧ F1584 11 ≤ 9) ∧ 0 ≤ F1584 9 ∧ F1584 9 ≤ 4) ∧ (F1584 6 = 0 → F1584 20 = (F1563 20) ∧ (F1563 6) = 0 ∧ (F1584 9 = 0 ∨ (F1563 8) < F1584 8)) ∧ (F1584 6 = 0 → F1584 23 ≤ 124 → rd1 (A1585 22) ((A1492 22)) ((F1563 23)) (F1584 23) ((F1563 20))) := p1587
                    obtain ⟨p1587a, p1587b, p1587c⟩ := p1587
                    show am_Ok _ _ _ (119, _, [], _, 0, 0) _
                    refine k_aload 120 rfl (gs_ne rfl rfl g0) rfl ?_
                    refine k_dup 121 rfl rfl rfl ?_
                    refine r_gI I1586 124 rfl rfl rfl (fun x1590 (e1591 : x1590.toInt = F1584 20) => ?_)
                    refine k_iload 125 rfl gs_eq rfl ?_
                    obtain ⟨x1592, q1593⟩ : ∃ q : Int32, q = (x1590 - x1486) := ⟨_, rfl⟩
                    have e1594 : x1592.toInt = x1590.toInt - x1486.toInt := by rw [q1593, iv_sub (by omega) (by omega)]
                    refine k_bin x1592 126 rfl q1593.symm rfl ?_
                    refine r_pI I1586 129 rfl rfl rfl (fun h1595 I1596 => ?_)
                    exact k_fin rfl rfl ⟨_, _, _, rfl, I1596, (fr1.up (by decide) (fr1.tr (by decide) (fr1.tr (by decide) (fr1.tr (by decide) (fr1.tr (by decide) (fr1.up (by decide) hF) k1495) k1506) k1567) k1588)), (fr2.tr (by decide) (fr2.tr (by decide) hA k1496) k1589), ⟨(show (F0 8 ≤ F1584 8 ∧ F1584 8 ≤ F0 7 ∧ F0 20 ≤ x1592.toInt ∧ x1592.toInt ≤ 30 ∧ F1584 21 = F0 21 ∧ F0 23 ≤ F1584 23 ∧ F1584 23 ≤ 1000000 ∧ (F1584 9 = 2 → 0 ≤ F1584 11 ∧ F1584 11 ≤ 9) ∧ 0 ≤ F1584 9 ∧ F1584 9 ≤ 4) by omega), (show (F1584 6 = 0 → x1592.toInt = F0 20 ∧ F0 6 = 0 ∧ (F1584 9 = 0 ∨ F0 8 < F1584 8)) by omega), fun z1 z2 => by have z8 : F1584 6 = 0 := z1; have z9 : F1584 23 ≤ 124 := z2; have h9 := p1587c (by omega) (by omega); show rd1 (A1585 22) (A0 22) (F0 23) (F1584 23) (F0 20); exact fu_end (hfu (by omega)) (by omega) (rd_cg h9 (by omega) (by omega) rfl) (by omega)⟩⟩
                · refine k_c1 11 rfl rfl (if_neg b1473) ?_
                  have b1473 := mt iv_eq0.mpr b1473
                  refine k_push 12 rfl rfl ?_
                  refine k_fin rfl (fin_Z (Or.inl rfl)) ⟨_, _, rfl, rf_len hI hI, ?_⟩
                  show am_Ok _ _ _ (28, _, [.inl (0 : Int32)], _, 0, 0) _
                  refine k_fin rfl (fin_Z (Or.inl rfl)) ⟨_, _, rfl, rf_len hI hI, ?_⟩
                  show am_Ok _ _ _ (55, _, [.inl (0 : Int32)], _, 0, 0) _
                  refine k_c1 58 rfl rfl (if_pos (by decide)) ?_
                  exact k_fin rfl rfl ⟨_, _, _, rfl, hI, hF, hA, ⟨(show (F0 8 ≤ F 8 ∧ F 8 ≤ F0 7 ∧ F0 20 ≤ F 20 ∧ F 20 ≤ 30 ∧ F 21 = F0 21 ∧ F0 23 ≤ F 23 ∧ F 23 ≤ 1000000 ∧ (F 9 = 2 → 0 ≤ F 11 ∧ F 11 ≤ 9) ∧ 0 ≤ F 9 ∧ F 9 ≤ 4) by omega), (show (F 6 = 0 → F 20 = F0 20 ∧ F0 6 = 0 ∧ (F 9 = 0 ∨ F0 8 < F 8)) by omega), fun z => absurd (show F 6 = 0 from z) (by omega)⟩⟩
        · refine k_c1 11 rfl rfl (if_neg b808) ?_
          have b808 := mt iv_eq0.mpr b808
          refine k_push 12 rfl rfl ?_
          refine k_fin rfl (fin_Z (Or.inl rfl)) ⟨_, _, rfl, rf_len hI hI, ?_⟩
          show am_Ok _ _ _ (28, _, [.inl (0 : Int32)], _, 0, 0) _
          refine k_fin rfl (fin_Z (Or.inl rfl)) ⟨_, _, rfl, rf_len hI hI, ?_⟩
          show am_Ok _ _ _ (24, _, [.inl (0 : Int32)], _, 0, 0) _
          refine k_c1 58 rfl rfl (if_pos (by decide)) ?_
          exact k_fin rfl rfl ⟨_, _, _, rfl, hI, hF, hA, ⟨(show (F0 8 ≤ F 8 ∧ F 8 ≤ F0 7 ∧ F0 20 ≤ F 20 ∧ F 20 ≤ 30 ∧ F 21 = F0 21 ∧ F0 23 ≤ F 23 ∧ F 23 ≤ 1000000 ∧ (F 9 = 2 → 0 ≤ F 11 ∧ F 11 ≤ 9) ∧ 0 ≤ F 9 ∧ F 9 ≤ 4) by omega), (show (F 6 = 0 → F 20 = F0 20 ∧ F0 6 = 0 ∧ (F 9 = 0 ∨ F0 8 < F 8)) by omega), fun z => absurd (show F 6 = 0 from z) (by omega)⟩⟩
    · refine k_c2 19 rfl rfl (if_neg b4) ?_
      have b4 := mt iv_eq.mpr b4
      refine k_push 20 rfl rfl ?_
      have hc1597 : (0 : Int32).toInt = 0 := by decide
      refine k_push 21 rfl rfl ?_
      refine k_in (d := 1) rfl (Nat.ble_eq_true_of_le (by omega)) rfl rfl hI.rc ?_
      refine k_aload 1 rfl rfl rfl ?_
      refine k_in (d := 0) rfl (Nat.ble_eq_true_of_le (by omega)) rfl rfl hI.rc ?_
      refine k_aload 1 rfl rfl rfl ?_
      refine r_gI hI 4 rfl rfl rfl (fun x1598 (e1599 : x1598.toInt = F 6) => ?_)
      by_cases b1600 : x1598 = 0
      · refine k_c1 7 rfl rfl (if_pos b1600) ?_
        have b1600 := iv_eq0.mp b1600
        refine k_push 8 rfl rfl ?_
        refine k_goto 12 rfl rfl ?_
        refine k_fin rfl (fin_Z (Or.inr rfl)) ⟨_, _, rfl, rf_len hI hI, ?_⟩
        show am_Ok _ _ _ (4, _, [.inl (1 : Int32)], _, 0, 0) _
        refine k_c1 7 rfl rfl (if_neg (by decide)) ?_
        refine k_iload 8 rfl rfl rfl ?_
        refine k_c1 11 rfl rfl (if_pos (by decide)) ?_
        refine k_aload 12 rfl rfl rfl ?_
        refine k_iload 13 rfl rfl rfl ?_
        refine r_pI hI 16 rfl rfl rfl (fun h1601 I1602 => ?_)
        refine k_aload 17 rfl rfl rfl ?_
        refine k_aload 18 rfl rfl rfl ?_
        refine r_gI I1602 21 rfl rfl rfl (fun x1603 (e1604 : x1603.toInt = F 10) => ?_)
        refine r_pI I1602 24 rfl rfl rfl (fun h1605 I1606 => ?_)
        refine k_aload 25 rfl rfl rfl ?_
        refine k_in (d := 0) rfl (Nat.ble_eq_true_of_le (by omega)) rfl rfl I1606.rc ?_
        refine k_aload 1 rfl rfl rfl ?_
        refine r_gI I1606 4 rfl rfl rfl (fun x1607 (e1608 : x1607.toInt = (1 : Int32).toInt) => ?_)
        by_cases b1609 : x1607 = 0
        · refine k_c1 7 rfl rfl (if_pos b1609) ?_
          have b1609 := iv_eq0.mp b1609
          refine k_push 8 rfl rfl ?_
          refine k_goto 12 rfl rfl ?_
          refine k_fin rfl (fin_Z (Or.inr rfl)) ⟨_, _, rfl, rf_len I1606 I1606, ?_⟩
          show am_Ok _ _ _ (28, _, [.inl (1 : Int32)], _, 0, 0) _
          refine k_fin rfl (fin_Z (Or.inr rfl)) ⟨_, _, rfl, rf_len hI I1606, ?_⟩
          show am_Ok _ _ _ (24, _, [.inl (1 : Int32)], _, 0, 0) _
          refine k_c1 27 rfl rfl (if_neg (by decide)) ?_
          refine k_aload 28 rfl g0 rfl ?_
          refine k_aload 29 rfl g0 rfl ?_
          refine r_gI I1606 32 rfl rfl rfl (fun x1610 (e1611 : x1610.toInt = F 14) => ?_)
          refine k_push 34 rfl rfl ?_
          have hc1612 : (8 : Int32).toInt = 8 := by decide
          by_cases b1613 : (8 : Int32) < x1610
          · refine k_c2 50 rfl rfl (if_pos b1613) ?_
            have b1613 := iv_lt.mp b1613
            refine k_push 51 rfl rfl ?_
            refine k_push 52 rfl rfl ?_
            have hc1614 : (2 : Int32).toInt = 2 := by decide
            refine k_in (d := 1) rfl (Nat.ble_eq_true_of_le (by omega)) rfl rfl I1606.rc ?_
            refine k_aload 1 rfl rfl rfl ?_
            refine k_in (d := 0) rfl (Nat.ble_eq_true_of_le (by omega)) rfl rfl I1606.rc ?_
            refine k_aload 1 rfl rfl rfl ?_
            refine r_gI I1606 4 rfl rfl rfl (fun x1615 (e1616 : x1615.toInt = (1 : Int32).toInt) => ?_)
            by_cases b1617 : x1615 = 0
            · refine k_c1 7 rfl rfl (if_pos b1617) ?_
              have b1617 := iv_eq0.mp b1617
              refine k_push 8 rfl rfl ?_
              refine k_goto 12 rfl rfl ?_
              refine k_fin rfl (fin_Z (Or.inr rfl)) ⟨_, _, rfl, rf_len I1606 I1606, ?_⟩
              show am_Ok _ _ _ (4, _, [.inl (1 : Int32)], _, 0, 0) _
              refine k_c1 7 rfl rfl (if_neg (by decide)) ?_
              refine k_iload 8 rfl rfl rfl ?_
              refine k_c1 11 rfl rfl (if_pos (by decide)) ?_
              refine k_aload 12 rfl rfl rfl ?_
              refine k_iload 13 rfl rfl rfl ?_
              refine r_pI I1606 16 rfl rfl rfl (fun h1618 I1619 => ?_)
              refine k_aload 17 rfl rfl rfl ?_
              refine k_aload 18 rfl rfl rfl ?_
              refine r_gI I1619 21 rfl rfl rfl (fun x1620 (e1621 : x1620.toInt = F 10) => ?_)
              refine r_pI I1619 24 rfl rfl rfl (fun h1622 I1623 => ?_)
              refine k_aload 25 rfl rfl rfl ?_
              refine k_in (d := 0) rfl (Nat.ble_eq_true_of_le (by omega)) rfl rfl I1623.rc ?_
              refine k_aload 1 rfl rfl rfl ?_
              refine r_gI I1623 4 rfl rfl rfl (fun x1624 (e1625 : x1624.toInt = (2 : Int32).toInt) => ?_)
              by_cases b1626 : x1624 = 0
              · refine k_c1 7 rfl rfl (if_pos b1626) ?_
                have b1626 := iv_eq0.mp b1626
                refine k_push 8 rfl rfl ?_
                refine k_goto 12 rfl rfl ?_
                refine k_fin rfl (fin_Z (Or.inr rfl)) ⟨_, _, rfl, rf_len I1623 I1623, ?_⟩
                show am_Ok _ _ _ (28, _, [.inl (1 : Int32)], _, 0, 0) _
                refine k_fin rfl (fin_Z (Or.inr rfl)) ⟨_, _, rfl, rf_len I1606 I1623, ?_⟩
                show am_Ok _ _ _ (55, _, [.inl (1 : Int32)], _, 0, 0) _
                refine k_c1 59 rfl rfl (if_neg (by decide)) ?_
                refine k_aload 60 rfl g0 rfl ?_
                refine r_gA I1623 63 rfl rfl rfl ?_
                refine k_aload 64 rfl g0 rfl ?_
                refine r_gI I1623 67 rfl rfl rfl (fun x1627 (e1628 : x1627.toInt = F 20) => ?_)
                refine k_aload 68 rfl g0 rfl ?_
                refine r_gJ I1623 71 rfl rfl rfl (fun y1629 => ?_)
                refine r_lst 19 I1623 72 rfl rfl (by omega) (show x1627.toInt < 31 by omega) rfl (fun h1630 I1631 => ?_)
                refine k_aload 73 rfl g0 rfl ?_
                refine k_dup 74 rfl rfl rfl ?_
                refine r_gI I1631 77 rfl rfl rfl (fun x1632 (e1633 : x1632.toInt = F 20) => ?_)
                refine k_push 78 rfl rfl ?_
                obtain ⟨x1634, q1635⟩ : ∃ q : Int32, q = (x1632 + (1 : Int32)) := ⟨_, rfl⟩
                have e1636 : x1634.toInt = x1632.toInt + 1 := by rw [q1635, iv_add (by omega) (by omega)]; omega
                refine k_bin x1634 79 rfl q1635.symm rfl ?_
                refine r_pI I1631 82 rfl rfl rfl (fun h1637 I1638 => ?_)
                obtain ⟨x1639, q1640⟩ : ∃ q : Int32, q = v1 + (1 : Int32) := ⟨_, rfl⟩
                have e1641 : x1639.toInt = v1.toInt + 1 := by rw [q1640, iv_add (by omega) (by omega)]; omega
                refine k_iinc x1639 85 rfl g1 q1640.symm rfl ?_
                refine k_aload 86 rfl (gs_ne rfl rfl g0) rfl ?_
                refine k_push 87 rfl rfl ?_
                refine k_rv I1638 rfl (m_emits  I1638.1 (show 0 ≤ (F 23) ∧ (F 23) ≤ 1000000 by omega)) (Nat.ble_eq_true_of_le (by omega)) rfl rfl I1638.rc ?_
                rintro h1643 F1644 A1645 I1646 ⟨k1648, k1649, p1647⟩
                replace p1647 : ((F 23) ≤ F1644 23 ∧ F1644 23 ≤ 1000000) ∧ (F1644 23 ≤ 124 → F1644 23 = (F 23) + 1) ∧ (F1644 23 ≤ 124 → A1645 22 ((F 23)) = (1 : Int32).toInt ∧ ∀ q : Int, q ≠ (F 23) → A1645 22 q = (A 22) q) := p1647
                obtain ⟨p1647a, p1647b, p1647c⟩ := p1647
                show am_Ok _ _ _ (90, _, [], _, 0, 0) _
                have hfu : F1644 23 ≤ 124 → fu (A1645 22) (A0 22) (F0 23) (F1644 23) (v1.toInt + 1) := fun z9 => fu_s (i2 (by omega)) (p1647b z9) ((p1647c z9).1.trans (by decide)) (p1647c z9).2 (by omega) rfl
                refine k_aload 91 rfl (gs_ne rfl rfl g0) rfl ?_
                have e1650 : F1644 8 = F 8 := k1648 8 (by decide)
                have e1651 : F1644 7 = F 7 := k1648 7 (by decide)
                have e1652 : F 7 = F0 7 := hF 7 (by decide)
                refine k_rv I1646 rfl (m_goes  I1646.1 (show 0 ≤ (F1644 8) ∧ (F1644 8) ≤ (F1644 7) ∧ (F1644 7) ≤ 700 by omega)) (Nat.ble_eq_true_of_le (by omega)) rfl rfl I1646.rc ?_
                rintro h1654 F1655 A1656 I1657 ⟨k1659, k1660, p1658⟩
                replace p1658 : ((F1644 8) ≤ F1655 8 ∧ F1655 8 ≤ (F1644 7)) ∧ (F1655 9 = 0 ∨ (F1644 8) < F1655 8) ∧ (F1655 9 = 2 → 0 ≤ F1655 11 ∧ F1655 11 ≤ 9) ∧ (0 ≤ F1655 9 ∧ F1655 9 ≤ 4) := p1658
                obtain ⟨p1658a, p1658b, p1658c, p1658d⟩ := p1658
                have k1660 := fr2.nil k1660
                subst k1660
                show am_Ok _ _ _ (94, _, [], _, 0, 0) _
                refine k_aload 95 rfl (gs_ne rfl rfl g0) rfl ?_
                refine k_in (d := 0) rfl (Nat.ble_eq_true_of_le (by omega)) rfl rfl I1657.rc ?_
                refine k_aload 1 rfl rfl rfl ?_
                refine r_gI I1657 4 rfl rfl rfl (fun x1661 (e1662 : x1661.toInt = F1655 6) => ?_)
                have e1663 : F1655 6 = F1644 6 := k1659 6 (by decide)
                have e1664 : F1644 6 = (2 : Int32).toInt := k1648 6 (by decide)
                by_cases b1665 : x1661 = 0
                · refine k_c1 7 rfl rfl (if_pos b1665) ?_
                  have b1665 := iv_eq0.mp b1665
                  refine k_push 8 rfl rfl ?_
                  refine k_goto 12 rfl rfl ?_
                  refine k_fin rfl (fin_Z (Or.inr rfl)) ⟨_, _, rfl, rf_len I1657 I1657, ?_⟩
                  show am_Ok _ _ _ (98, _, [.inl (1 : Int32)], _, 0, 0) _
                  refine k_c1 101 rfl rfl (if_neg (by decide)) ?_
                  refine k_aload 102 rfl (gs_ne rfl rfl g0) rfl ?_
                  refine r_gI I1657 105 rfl rfl rfl (fun x1666 (e1667 : x1666.toInt = F1655 9) => ?_)
                  refine k_push 106 rfl rfl ?_
                  by_cases b1668 : x1666 = (1 : Int32)
                  · refine k_c2 6 rfl rfl (if_pos b1668) ?_
                    have b1668 := iv_eq.mp b1668
                    have e1669 : F1655 20 = F1644 20 := k1659 20 (by decide)
                    have e1670 : F1644 20 = x1634.toInt := k1648 20 (by decide)
                    have e1671 : F1655 21 = F1644 21 := k1659 21 (by decide)
                    have e1672 : F1644 21 = F 21 := k1648 21 (by decide)
                    have e1673 : F1655 23 = F1644 23 := k1659 23 (by decide)
                    exact ih _ (show ((31 - x1639.toInt).toNat) < n by omega)  rfl (gs_ne rfl rfl g0) gs_eq I1657 (fr1.tr (by decide) (fr1.tr (by decide) (fr1.up (by decide) (fr1.up (by decide) (fr1.up (by decide) (fr1.up (by decide) (fr1.up (by decide) hF))))) k1648) k1659) (fr2.tr (by decide) hA k1649) (show F0 8 ≤ (F1655 8) ∧ (F1655 8) ≤ F0 7 ∧ (F1655 20) = F0 20 + x1639.toInt ∧ 0 ≤ x1639.toInt ∧ (F1655 20) ≤ 30 ∧ (F1655 21) = F0 21 ∧ F0 23 ≤ (F1655 23) ∧ (F1655 23) ≤ 1000000 ∧ ((F1655 9) = 2 → 0 ≤ (F1655 11) ∧ (F1655 11) ≤ 9) ∧ 0 ≤ (F1655 9) ∧ (F1655 9) ≤ 4 ∧ (F1655 6) = 0 by omega) (fun z => by have z9 : F1655 23 ≤ 124 := z; show fu (A1645 22) (A0 22) (F0 23) (F1655 23) x1639.toInt; exact fu_cg (hfu (by omega)) (by omega) (by omega))
                  · refine k_c2 109 rfl rfl (if_neg b1668) ?_
                    have b1668 := mt iv_eq.mpr b1668
                    refine k_aload 110 rfl (gs_ne rfl rfl g0) rfl ?_
                    refine k_push 112 rfl rfl ?_
                    have hc1674 : (46 : Int32).toInt = 46 := by decide
                    have e1675 : F1655 7 = F1644 7 := k1659 7 (by decide)
                    refine k_rv I1657 rfl (m_must  I1657.1 (show 0 ≤ (F1655 8) ∧ (F1655 8) ≤ (F1655 7) ∧ (F1655 7) ≤ 700 ∧ ((F1655 9) = 2 → 0 ≤ (F1655 11) ∧ (F1655 11) ≤ 9) ∧ 0 ≤ (F1655 9) ∧ (F1655 9) ≤ 4 by omega)) (Nat.ble_eq_true_of_le (by omega)) rfl rfl I1657.rc ?_
                    rintro h1677 F1678 A1679 I1680 ⟨k1682, k1683, p1681⟩
                    replace p1681 : ((F1655 8) ≤ F1678 8 ∧ F1678 8 ≤ (F1655 7)) ∧ (F1678 6 = 0 → (F1655 6) = 0 ∧ (F1678 9 = 0 ∨ (F1655 8) < F1678 8)) ∧ (F1678 9 = 2 → 0 ≤ F1678 11 ∧ F1678 11 ≤ 9) ∧ (0 ≤ F1678 9 ∧ F1678 9 ≤ 4) := p1681
                    obtain ⟨p1681a, p1681b, p1681c, p1681d⟩ := p1681
                    have k1683 := fr2.nil k1683
                    subst k1683
                    show am_Ok _ _ _ (115, _, [], _, 0, 0) _
                    refine k_aload 116 rfl (gs_ne rfl rfl g0) rfl ?_
                    have e1684 : F1678 7 = F1655 7 := k1682 7 (by decide)
                    have e1685 : F1678 20 = F1655 20 := k1682 20 (by decide)
                    have e1686 : F1655 20 = F1644 20 := k1659 20 (by decide)
                    have e1687 : F1644 20 = x1634.toInt := k1648 20 (by decide)
                    have e1688 : F1678 21 = F1655 21 := k1682 21 (by decide)
                    have e1689 : F1655 21 = F1644 21 := k1659 21 (by decide)
                    have e1690 : F1644 21 = F 21 := k1648 21 (by decide)
                    have e1691 : F1678 18 = F1655 18 := k1682 18 (by decide)
                    have e1692 : F1655 18 = F1644 18 := k1659 18 (by decide)
                    have e1693 : F1644 18 = F 18 := k1648 18 (by decide)
                    have e1694 : F 18 = F0 18 := hF 18 (by decide)
                    have e1695 : F1678 23 = F1655 23 := k1682 23 (by decide)
                    have e1696 : F1655 23 = F1644 23 := k1659 23 (by decide)
                    refine k_rv I1680 rfl (hrec  I1680.1 (show 0 ≤ (F1678 8) ∧ (F1678 8) ≤ (F1678 7) ∧ (F1678 7) ≤ 700 ∧ 0 ≤ (F1678 20) ∧ (F1678 20) ≤ 30 ∧ 0 ≤ (F1678 21) ∧ (F1678 21) ≤ 12 ∧ 0 ≤ (F1678 18) ∧ (F1678 18) ≤ 12 ∧ 0 ≤ (F1678 23) ∧ (F1678 23) ≤ 1000000 ∧ ((F1678 9) = 2 → 0 ≤ (F1678 11) ∧ (F1678 11) ≤ 9) ∧ 0 ≤ (F1678 9) ∧ (F1678 9) ≤ 4 by omega) (show nm ((A1645 16)) ((A1645 17)) ((F1678 18)) by rw [((k1649 16 (by decide)).trans (hA 16 (by decide))), ((k1649 17 (by decide)).trans (hA 17 (by decide))), ((k1682 18 (by decide)).trans ((k1659 18 (by decide)).trans ((k1648 18 (by decide)).trans (hF 18 (by decide)))))]; exact p2) (show (12 - (F1678 21)) + (30 - (F1678 20)) < (gk : Int) by omega)) (Nat.ble_eq_true_of_le (by omega)) rfl rfl I1680.rc ?_
                    rintro h1698 F1699 A1700 I1701 ⟨k1703, k1704, p1702⟩
                    replace p1702 : ((F1678 8) ≤ F1699 8 ∧ F1699 8 ≤ (F1678 7) ∧ (F1678 20) ≤ F1699 20 ∧ F1699 20 ≤ 30 ∧ F1699 21 = (F1678 21) ∧ (F1678 23) ≤ F1699 23 ∧ F1699 23 ≤ 1000000 ∧ (F1699 9 = 2 → 0 ≤ F1699 11 ∧ F1699 11 ≤ 9) ∧ 0 ≤ F1699 9 ∧ F1699 9 ≤ 4) ∧ (F1699 6 = 0 → F1699 20 = (F1678 20) ∧ (F1678 6) = 0 ∧ (F1699 9 = 0 ∨ (F1678 8) < F1699 8)) ∧ (F1699 6 = 0 → F1699 23 ≤ 124 → rd1 (A1700 22) ((A1645 22)) ((F1678 23)) (F1699 23) ((F1678 20))) := p1702
                    obtain ⟨p1702a, p1702b, p1702c⟩ := p1702
                    show am_Ok _ _ _ (119, _, [], _, 0, 0) _
                    refine k_aload 120 rfl (gs_ne rfl rfl g0) rfl ?_
                    refine k_dup 121 rfl rfl rfl ?_
                    refine r_gI I1701 124 rfl rfl rfl (fun x1705 (e1706 : x1705.toInt = F1699 20) => ?_)
                    refine k_iload 125 rfl gs_eq rfl ?_
                    obtain ⟨x1707, q1708⟩ : ∃ q : Int32, q = (x1705 - x1639) := ⟨_, rfl⟩
                    have e1709 : x1707.toInt = x1705.toInt - x1639.toInt := by rw [q1708, iv_sub (by omega) (by omega)]
                    refine k_bin x1707 126 rfl q1708.symm rfl ?_
                    refine r_pI I1701 129 rfl rfl rfl (fun h1710 I1711 => ?_)
                    exact k_fin rfl rfl ⟨_, _, _, rfl, I1711, (fr1.up (by decide) (fr1.tr (by decide) (fr1.tr (by decide) (fr1.tr (by decide) (fr1.tr (by decide) (fr1.up (by decide) (fr1.up (by decide) (fr1.up (by decide) (fr1.up (by decide) (fr1.up (by decide) hF))))) k1648) k1659) k1682) k1703)), (fr2.tr (by decide) (fr2.tr (by decide) hA k1649) k1704), ⟨(show (F0 8 ≤ F1699 8 ∧ F1699 8 ≤ F0 7 ∧ F0 20 ≤ x1707.toInt ∧ x1707.toInt ≤ 30 ∧ F1699 21 = F0 21 ∧ F0 23 ≤ F1699 23 ∧ F1699 23 ≤ 1000000 ∧ (F1699 9 = 2 → 0 ≤ F1699 11 ∧ F1699 11 ≤ 9) ∧ 0 ≤ F1699 9 ∧ F1699 9 ≤ 4) by omega), (show (F1699 6 = 0 → x1707.toInt = F0 20 ∧ F0 6 = 0 ∧ (F1699 9 = 0 ∨ F0 8 < F1699 8)) by omega), fun z1 z2 => by have z8 : F1699 6 = 0 := z1; have z9 : F1699 23 ≤ 124 := z2; have h9 := p1702c (by omega) (by omega); show rd1 (A1700 22) (A0 22) (F0 23) (F1699 23) (F0 20); exact fu_end (hfu (by omega)) (by omega) (rd_cg h9 (by omega) (by omega) rfl) (by omega)⟩⟩
                · refine k_c1 11 rfl rfl (if_neg b1665) ?_
                  have b1665 := mt iv_eq0.mpr b1665
                  refine k_push 12 rfl rfl ?_
                  refine k_fin rfl (fin_Z (Or.inl rfl)) ⟨_, _, rfl, rf_len I1657 I1657, ?_⟩
                  show am_Ok _ _ _ (98, _, [.inl (0 : Int32)], _, 0, 0) _
                  refine k_c1 109 rfl rfl (if_pos (by decide)) ?_
                  refine k_aload 110 rfl (gs_ne rfl rfl g0) rfl ?_
                  refine k_push 112 rfl rfl ?_
                  have hc1712 : (46 : Int32).toInt = 46 := by decide
                  have e1713 : F1655 7 = F1644 7 := k1659 7 (by decide)
                  refine k_rv I1657 rfl (m_must  I1657.1 (show 0 ≤ (F1655 8) ∧ (F1655 8) ≤ (F1655 7) ∧ (F1655 7) ≤ 700 ∧ ((F1655 9) = 2 → 0 ≤ (F1655 11) ∧ (F1655 11) ≤ 9) ∧ 0 ≤ (F1655 9) ∧ (F1655 9) ≤ 4 by omega)) (Nat.ble_eq_true_of_le (by omega)) rfl rfl I1657.rc ?_
                  rintro h1715 F1716 A1717 I1718 ⟨k1720, k1721, p1719⟩
                  replace p1719 : ((F1655 8) ≤ F1716 8 ∧ F1716 8 ≤ (F1655 7)) ∧ (F1716 6 = 0 → (F1655 6) = 0 ∧ (F1716 9 = 0 ∨ (F1655 8) < F1716 8)) ∧ (F1716 9 = 2 → 0 ≤ F1716 11 ∧ F1716 11 ≤ 9) ∧ (0 ≤ F1716 9 ∧ F1716 9 ≤ 4) := p1719
                  obtain ⟨p1719a, p1719b, p1719c, p1719d⟩ := p1719
                  have k1721 := fr2.nil k1721
                  subst k1721
                  show am_Ok _ _ _ (115, _, [], _, 0, 0) _
                  refine k_aload 116 rfl (gs_ne rfl rfl g0) rfl ?_
                  have e1722 : F1716 7 = F1655 7 := k1720 7 (by decide)
                  have e1723 : F1716 20 = F1655 20 := k1720 20 (by decide)
                  have e1724 : F1655 20 = F1644 20 := k1659 20 (by decide)
                  have e1725 : F1644 20 = x1634.toInt := k1648 20 (by decide)
                  have e1726 : F1716 21 = F1655 21 := k1720 21 (by decide)
                  have e1727 : F1655 21 = F1644 21 := k1659 21 (by decide)
                  have e1728 : F1644 21 = F 21 := k1648 21 (by decide)
                  have e1729 : F1716 18 = F1655 18 := k1720 18 (by decide)
                  have e1730 : F1655 18 = F1644 18 := k1659 18 (by decide)
                  have e1731 : F1644 18 = F 18 := k1648 18 (by decide)
                  have e1732 : F 18 = F0 18 := hF 18 (by decide)
                  have e1733 : F1716 23 = F1655 23 := k1720 23 (by decide)
                  have e1734 : F1655 23 = F1644 23 := k1659 23 (by decide)
                  refine k_rv I1718 rfl (hrec  I1718.1 (show 0 ≤ (F1716 8) ∧ (F1716 8) ≤ (F1716 7) ∧ (F1716 7) ≤ 700 ∧ 0 ≤ (F1716 20) ∧ (F1716 20) ≤ 30 ∧ 0 ≤ (F1716 21) ∧ (F1716 21) ≤ 12 ∧ 0 ≤ (F1716 18) ∧ (F1716 18) ≤ 12 ∧ 0 ≤ (F1716 23) ∧ (F1716 23) ≤ 1000000 ∧ ((F1716 9) = 2 → 0 ≤ (F1716 11) ∧ (F1716 11) ≤ 9) ∧ 0 ≤ (F1716 9) ∧ (F1716 9) ≤ 4 by omega) (show nm ((A1645 16)) ((A1645 17)) ((F1716 18)) by rw [((k1649 16 (by decide)).trans (hA 16 (by decide))), ((k1649 17 (by decide)).trans (hA 17 (by decide))), ((k1720 18 (by decide)).trans ((k1659 18 (by decide)).trans ((k1648 18 (by decide)).trans (hF 18 (by decide)))))]; exact p2) (show (12 - (F1716 21)) + (30 - (F1716 20)) < (gk : Int) by omega)) (Nat.ble_eq_true_of_le (by omega)) rfl rfl I1718.rc ?_
                  rintro h1736 F1737 A1738 I1739 ⟨k1741, k1742, p1740⟩
                  replace p1740 : ((F1716 8) ≤ F1737 8 ∧ F1737 8 ≤ (F1716 7) ∧ (F1716 20) ≤ F1737 20 ∧ F1737 20 ≤ 30 ∧ F1737 21 = (F1716 21) ∧ (F1716 23) ≤ F1737 23 ∧ F1737 23 ≤ 1000000 ∧ (F1737 9 = 2 → 0 ≤ F1737 11 ∧ F1737 11 ≤ 9) ∧ 0 ≤ F1737 9 ∧ F1737 9 ≤ 4) ∧ (F1737 6 = 0 → F1737 20 = (F1716 20) ∧ (F1716 6) = 0 ∧ (F1737 9 = 0 ∨ (F1716 8) < F1737 8)) ∧ (F1737 6 = 0 → F1737 23 ≤ 124 → rd1 (A1738 22) ((A1645 22)) ((F1716 23)) (F1737 23) ((F1716 20))) := p1740
                  obtain ⟨p1740a, p1740b, p1740c⟩ := p1740
                  show am_Ok _ _ _ (119, _, [], _, 0, 0) _
                  refine k_aload 120 rfl (gs_ne rfl rfl g0) rfl ?_
                  refine k_dup 121 rfl rfl rfl ?_
                  refine r_gI I1739 124 rfl rfl rfl (fun x1743 (e1744 : x1743.toInt = F1737 20) => ?_)
                  refine k_iload 125 rfl gs_eq rfl ?_
                  obtain ⟨x1745, q1746⟩ : ∃ q : Int32, q = (x1743 - x1639) := ⟨_, rfl⟩
                  have e1747 : x1745.toInt = x1743.toInt - x1639.toInt := by rw [q1746, iv_sub (by omega) (by omega)]
                  refine k_bin x1745 126 rfl q1746.symm rfl ?_
                  refine r_pI I1739 129 rfl rfl rfl (fun h1748 I1749 => ?_)
                  exact k_fin rfl rfl ⟨_, _, _, rfl, I1749, (fr1.up (by decide) (fr1.tr (by decide) (fr1.tr (by decide) (fr1.tr (by decide) (fr1.tr (by decide) (fr1.up (by decide) (fr1.up (by decide) (fr1.up (by decide) (fr1.up (by decide) (fr1.up (by decide) hF))))) k1648) k1659) k1720) k1741)), (fr2.tr (by decide) (fr2.tr (by decide) hA k1649) k1742), ⟨(show (F0 8 ≤ F1737 8 ∧ F1737 8 ≤ F0 7 ∧ F0 20 ≤ x1745.toInt ∧ x1745.toInt ≤ 30 ∧ F1737 21 = F0 21 ∧ F0 23 ≤ F1737 23 ∧ F1737 23 ≤ 1000000 ∧ (F1737 9 = 2 → 0 ≤ F1737 11 ∧ F1737 11 ≤ 9) ∧ 0 ≤ F1737 9 ∧ F1737 9 ≤ 4) by omega), (show (F1737 6 = 0 → x1745.toInt = F0 20 ∧ F0 6 = 0 ∧ (F1737 9 = 0 ∨ F0 8 < F1737 8)) by omega), fun z1 z2 => by have z8 : F1737 6 = 0 := z1; have z9 : F1737 23 ≤ 124 := z2; have h9 := p1740c (by omega) (by omega); show rd1 (A1738 22) (A0 22) (F0 23) (F1737 23) (F0 20); exact fu_end (hfu (by omega)) (by omega) (rd_cg h9 (by omega) (by omega) rfl) (by omega)⟩⟩
              · refine k_c1 11 rfl rfl (if_neg b1626) ?_
                have b1626 := mt iv_eq0.mpr b1626
                refine k_push 12 rfl rfl ?_
                refine k_fin rfl (fin_Z (Or.inl rfl)) ⟨_, _, rfl, rf_len I1623 I1623, ?_⟩
                show am_Ok _ _ _ (28, _, [.inl (0 : Int32)], _, 0, 0) _
                refine k_fin rfl (fin_Z (Or.inl rfl)) ⟨_, _, rfl, rf_len I1606 I1623, ?_⟩
                show am_Ok _ _ _ (55, _, [.inl (0 : Int32)], _, 0, 0) _
                refine k_c1 58 rfl rfl (if_pos (by decide)) ?_
                exact k_fin rfl rfl ⟨_, _, _, rfl, I1623, (fr1.up (by decide) (fr1.up (by decide) (fr1.up (by decide) (fr1.up (by decide) hF)))), hA, ⟨(show (F0 8 ≤ F 8 ∧ F 8 ≤ F0 7 ∧ F0 20 ≤ F 20 ∧ F 20 ≤ 30 ∧ F 21 = F0 21 ∧ F0 23 ≤ F 23 ∧ F 23 ≤ 1000000 ∧ (F 9 = 2 → 0 ≤ F 11 ∧ F 11 ≤ 9) ∧ 0 ≤ F 9 ∧ F 9 ≤ 4) by omega), (show ((2 : Int32).toInt = 0 → F 20 = F0 20 ∧ F0 6 = 0 ∧ (F 9 = 0 ∨ F0 8 < F 8)) by omega), fun z => absurd (show (2 : Int32).toInt = 0 from z) (by omega)⟩⟩
            · refine k_c1 11 rfl rfl (if_neg b1617) ?_
              have b1617 := mt iv_eq0.mpr b1617
              refine k_push 12 rfl rfl ?_
              refine k_fin rfl (fin_Z (Or.inl rfl)) ⟨_, _, rfl, rf_len I1606 I1606, ?_⟩
              show am_Ok _ _ _ (4, _, [.inl (0 : Int32)], _, 0, 0) _
              refine k_c1 24 rfl rfl (if_pos (by decide)) ?_
              refine k_aload 25 rfl rfl rfl ?_
              refine k_in (d := 0) rfl (Nat.ble_eq_true_of_le (by omega)) rfl rfl I1606.rc ?_
              refine k_aload 1 rfl rfl rfl ?_
              refine r_gI I1606 4 rfl rfl rfl (fun x1750 (e1751 : x1750.toInt = (1 : Int32).toInt) => ?_)
              by_cases b1752 : x1750 = 0
              · refine k_c1 7 rfl rfl (if_pos b1752) ?_
                have b1752 := iv_eq0.mp b1752
                refine k_push 8 rfl rfl ?_
                refine k_goto 12 rfl rfl ?_
                refine k_fin rfl (fin_Z (Or.inr rfl)) ⟨_, _, rfl, rf_len I1606 I1606, ?_⟩
                show am_Ok _ _ _ (28, _, [.inl (1 : Int32)], _, 0, 0) _
                refine k_fin rfl (fin_Z (Or.inr rfl)) ⟨_, _, rfl, rf_len I1606 I1606, ?_⟩
                show am_Ok _ _ _ (55, _, [.inl (1 : Int32)], _, 0, 0) _
                refine k_c1 59 rfl rfl (if_neg (by decide)) ?_
                refine k_aload 60 rfl g0 rfl ?_
                refine r_gA I1606 63 rfl rfl rfl ?_
                refine k_aload 64 rfl g0 rfl ?_
                refine r_gI I1606 67 rfl rfl rfl (fun x1753 (e1754 : x1753.toInt = F 20) => ?_)
                refine k_aload 68 rfl g0 rfl ?_
                refine r_gJ I1606 71 rfl rfl rfl (fun y1755 => ?_)
                refine r_lst 19 I1606 72 rfl rfl (by omega) (show x1753.toInt < 31 by omega) rfl (fun h1756 I1757 => ?_)
                refine k_aload 73 rfl g0 rfl ?_
                refine k_dup 74 rfl rfl rfl ?_
                refine r_gI I1757 77 rfl rfl rfl (fun x1758 (e1759 : x1758.toInt = F 20) => ?_)
                refine k_push 78 rfl rfl ?_
                obtain ⟨x1760, q1761⟩ : ∃ q : Int32, q = (x1758 + (1 : Int32)) := ⟨_, rfl⟩
                have e1762 : x1760.toInt = x1758.toInt + 1 := by rw [q1761, iv_add (by omega) (by omega)]; omega
                refine k_bin x1760 79 rfl q1761.symm rfl ?_
                refine r_pI I1757 82 rfl rfl rfl (fun h1763 I1764 => ?_)
                obtain ⟨x1765, q1766⟩ : ∃ q : Int32, q = v1 + (1 : Int32) := ⟨_, rfl⟩
                have e1767 : x1765.toInt = v1.toInt + 1 := by rw [q1766, iv_add (by omega) (by omega)]; omega
                refine k_iinc x1765 85 rfl g1 q1766.symm rfl ?_
                refine k_aload 86 rfl (gs_ne rfl rfl g0) rfl ?_
                refine k_push 87 rfl rfl ?_
                refine k_rv I1764 rfl (m_emits  I1764.1 (show 0 ≤ (F 23) ∧ (F 23) ≤ 1000000 by omega)) (Nat.ble_eq_true_of_le (by omega)) rfl rfl I1764.rc ?_
                rintro h1769 F1770 A1771 I1772 ⟨k1774, k1775, p1773⟩
                replace p1773 : ((F 23) ≤ F1770 23 ∧ F1770 23 ≤ 1000000) ∧ (F1770 23 ≤ 124 → F1770 23 = (F 23) + 1) ∧ (F1770 23 ≤ 124 → A1771 22 ((F 23)) = (1 : Int32).toInt ∧ ∀ q : Int, q ≠ (F 23) → A1771 22 q = (A 22) q) := p1773
                obtain ⟨p1773a, p1773b, p1773c⟩ := p1773
                show am_Ok _ _ _ (90, _, [], _, 0, 0) _
                have hfu : F1770 23 ≤ 124 → fu (A1771 22) (A0 22) (F0 23) (F1770 23) (v1.toInt + 1) := fun z9 => fu_s (i2 (by omega)) (p1773b z9) ((p1773c z9).1.trans (by decide)) (p1773c z9).2 (by omega) rfl
                refine k_aload 91 rfl (gs_ne rfl rfl g0) rfl ?_
                have e1776 : F1770 8 = F 8 := k1774 8 (by decide)
                have e1777 : F1770 7 = F 7 := k1774 7 (by decide)
                have e1778 : F 7 = F0 7 := hF 7 (by decide)
                refine k_rv I1772 rfl (m_goes  I1772.1 (show 0 ≤ (F1770 8) ∧ (F1770 8) ≤ (F1770 7) ∧ (F1770 7) ≤ 700 by omega)) (Nat.ble_eq_true_of_le (by omega)) rfl rfl I1772.rc ?_
                rintro h1780 F1781 A1782 I1783 ⟨k1785, k1786, p1784⟩
                replace p1784 : ((F1770 8) ≤ F1781 8 ∧ F1781 8 ≤ (F1770 7)) ∧ (F1781 9 = 0 ∨ (F1770 8) < F1781 8) ∧ (F1781 9 = 2 → 0 ≤ F1781 11 ∧ F1781 11 ≤ 9) ∧ (0 ≤ F1781 9 ∧ F1781 9 ≤ 4) := p1784
                obtain ⟨p1784a, p1784b, p1784c, p1784d⟩ := p1784
                have k1786 := fr2.nil k1786
                subst k1786
                show am_Ok _ _ _ (94, _, [], _, 0, 0) _
                refine k_aload 95 rfl (gs_ne rfl rfl g0) rfl ?_
                refine k_in (d := 0) rfl (Nat.ble_eq_true_of_le (by omega)) rfl rfl I1783.rc ?_
                refine k_aload 1 rfl rfl rfl ?_
                refine r_gI I1783 4 rfl rfl rfl (fun x1787 (e1788 : x1787.toInt = F1781 6) => ?_)
                have e1789 : F1781 6 = F1770 6 := k1785 6 (by decide)
                have e1790 : F1770 6 = (1 : Int32).toInt := k1774 6 (by decide)
                by_cases b1791 : x1787 = 0
                · refine k_c1 7 rfl rfl (if_pos b1791) ?_
                  have b1791 := iv_eq0.mp b1791
                  refine k_push 8 rfl rfl ?_
                  refine k_goto 12 rfl rfl ?_
                  refine k_fin rfl (fin_Z (Or.inr rfl)) ⟨_, _, rfl, rf_len I1783 I1783, ?_⟩
                  show am_Ok _ _ _ (98, _, [.inl (1 : Int32)], _, 0, 0) _
                  refine k_c1 101 rfl rfl (if_neg (by decide)) ?_
                  refine k_aload 102 rfl (gs_ne rfl rfl g0) rfl ?_
                  refine r_gI I1783 105 rfl rfl rfl (fun x1792 (e1793 : x1792.toInt = F1781 9) => ?_)
                  refine k_push 106 rfl rfl ?_
                  by_cases b1794 : x1792 = (1 : Int32)
                  · refine k_c2 6 rfl rfl (if_pos b1794) ?_
                    have b1794 := iv_eq.mp b1794
                    have e1795 : F1781 20 = F1770 20 := k1785 20 (by decide)
                    have e1796 : F1770 20 = x1760.toInt := k1774 20 (by decide)
                    have e1797 : F1781 21 = F1770 21 := k1785 21 (by decide)
                    have e1798 : F1770 21 = F 21 := k1774 21 (by decide)
                    have e1799 : F1781 23 = F1770 23 := k1785 23 (by decide)
                    exact ih _ (show ((31 - x1765.toInt).toNat) < n by omega)  rfl (gs_ne rfl rfl g0) gs_eq I1783 (fr1.tr (by decide) (fr1.tr (by decide) (fr1.up (by decide) (fr1.up (by decide) (fr1.up (by decide) hF))) k1774) k1785) (fr2.tr (by decide) hA k1775) (show F0 8 ≤ (F1781 8) ∧ (F1781 8) ≤ F0 7 ∧ (F1781 20) = F0 20 + x1765.toInt ∧ 0 ≤ x1765.toInt ∧ (F1781 20) ≤ 30 ∧ (F1781 21) = F0 21 ∧ F0 23 ≤ (F1781 23) ∧ (F1781 23) ≤ 1000000 ∧ ((F1781 9) = 2 → 0 ≤ (F1781 11) ∧ (F1781 11) ≤ 9) ∧ 0 ≤ (F1781 9) ∧ (F1781 9) ≤ 4 ∧ (F1781 6) = 0 by omega) (fun z => by have z9 : F1781 23 ≤ 124 := z; show fu (A1771 22) (A0 22) (F0 23) (F1781 23) x1765.toInt; exact fu_cg (hfu (by omega)) (by omega) (by omega))
                  · refine k_c2 109 rfl rfl (if_neg b1794) ?_
                    have b1794 := mt iv_eq.mpr b1794
                    refine k_aload 110 rfl (gs_ne rfl rfl g0) rfl ?_
                    refine k_push 112 rfl rfl ?_
                    have hc1800 : (46 : Int32).toInt = 46 := by decide
                    have e1801 : F1781 7 = F1770 7 := k1785 7 (by decide)
                    refine k_rv I1783 rfl (m_must  I1783.1 (show 0 ≤ (F1781 8) ∧ (F1781 8) ≤ (F1781 7) ∧ (F1781 7) ≤ 700 ∧ ((F1781 9) = 2 → 0 ≤ (F1781 11) ∧ (F1781 11) ≤ 9) ∧ 0 ≤ (F1781 9) ∧ (F1781 9) ≤ 4 by omega)) (Nat.ble_eq_true_of_le (by omega)) rfl rfl I1783.rc ?_
                    rintro h1803 F1804 A1805 I1806 ⟨k1808, k1809, p1807⟩
                    replace p1807 : ((F1781 8) ≤ F1804 8 ∧ F1804 8 ≤ (F1781 7)) ∧ (F1804 6 = 0 → (F1781 6) = 0 ∧ (F1804 9 = 0 ∨ (F1781 8) < F1804 8)) ∧ (F1804 9 = 2 → 0 ≤ F1804 11 ∧ F1804 11 ≤ 9) ∧ (0 ≤ F1804 9 ∧ F1804 9 ≤ 4) := p1807
                    obtain ⟨p1807a, p1807b, p1807c, p1807d⟩ := p1807
                    have k1809 := fr2.nil k1809
                    subst k1809
                    show am_Ok _ _ _ (115, _, [], _, 0, 0) _
                    refine k_aload 116 rfl (gs_ne rfl rfl g0) rfl ?_
                    have e1810 : F1804 7 = F1781 7 := k1808 7 (by decide)
                    have e1811 : F1804 20 = F1781 20 := k1808 20 (by decide)
                    have e1812 : F1781 20 = F1770 20 := k1785 20 (by decide)
                    have e1813 : F1770 20 = x1760.toInt := k1774 20 (by decide)
                    have e1814 : F1804 21 = F1781 21 := k1808 21 (by decide)
                    have e1815 : F1781 21 = F1770 21 := k1785 21 (by decide)
                    have e1816 : F1770 21 = F 21 := k1774 21 (by decide)
                    have e1817 : F1804 18 = F1781 18 := k1808 18 (by decide)
                    have e1818 : F1781 18 = F1770 18 := k1785 18 (by decide)
                    have e1819 : F1770 18 = F 18 := k1774 18 (by decide)
                    have e1820 : F 18 = F0 18 := hF 18 (by decide)
                    have e1821 : F1804 23 = F1781 23 := k1808 23 (by decide)
                    have e1822 : F1781 23 = F1770 23 := k1785 23 (by decide)
                    refine k_rv I1806 rfl (hrec  I1806.1 (show 0 ≤ (F1804 8) ∧ (F1804 8) ≤ (F1804 7) ∧ (F1804 7) ≤ 700 ∧ 0 ≤ (F1804 20) ∧ (F1804 20) ≤ 30 ∧ 0 ≤ (F1804 21) ∧ (F1804 21) ≤ 12 ∧ 0 ≤ (F1804 18) ∧ (F1804 18) ≤ 12 ∧ 0 ≤ (F1804 23) ∧ (F1804 23) ≤ 1000000 ∧ ((F1804 9) = 2 → 0 ≤ (F1804 11) ∧ (F1804 11) ≤ 9) ∧ 0 ≤ (F1804 9) ∧ (F1804 9) ≤ 4 by omega) (show nm ((A1771 16)) ((A1771 17)) ((F1804 18)) by rw [((k1775 16 (by decide)).trans (hA 16 (by decide))), ((k1775 17 (by decide)).trans (hA 17 (by decide))), ((k1808 18 (by decide)).trans ((k1785 18 (by decide)).trans ((k1774 18 (by decide)).trans (hF 18 (by decide)))))]; exact p2) (show (12 - (F1804 21)) + (30 - (F1804 20)) < (gk : Int) by omega)) (Nat.ble_eq_true_of_le (by omega)) rfl rfl I1806.rc ?_
                    rintro h1824 F1825 A1826 I1827 ⟨k1829, k1830, p1828⟩
                    replace p1828 : ((F1804 8) ≤ F1825 8 ∧ F1825 8 ≤ (F1804 7) ∧ (F1804 20) ≤ F1825 20 ∧ F1825 20 ≤ 30 ∧ F1825 21 = (F1804 21) ∧ (F1804 23) ≤ F1825 23 ∧ F1825 23 ≤ 1000000 ∧ (F1825 9 = 2 → 0 ≤ F1825 11 ∧ F1825 11 ≤ 9) ∧ 0 ≤ F1825 9 ∧ F1825 9 ≤ 4) ∧ (F1825 6 = 0 → F1825 20 = (F1804 20) ∧ (F1804 6) = 0 ∧ (F1825 9 = 0 ∨ (F1804 8) < F1825 8)) ∧ (F1825 6 = 0 → F1825 23 ≤ 124 → rd1 (A1826 22) ((A1771 22)) ((F1804 23)) (F1825 23) ((F1804 20))) := p1828
                    obtain ⟨p1828a, p1828b, p1828c⟩ := p1828
                    show am_Ok _ _ _ (119, _, [], _, 0, 0) _
                    refine k_aload 120 rfl (gs_ne rfl rfl g0) rfl ?_
                    refine k_dup 121 rfl rfl rfl ?_
                    refine r_gI I1827 124 rfl rfl rfl (fun x1831 (e1832 : x1831.toInt = F1825 20) => ?_)
                    refine k_iload 125 rfl gs_eq rfl ?_
                    obtain ⟨x1833, q1834⟩ : ∃ q : Int32, q = (x1831 - x1765) := ⟨_, rfl⟩
                    have e1835 : x1833.toInt = x1831.toInt - x1765.toInt := by rw [q1834, iv_sub (by omega) (by omega)]
                    refine k_bin x1833 126 rfl q1834.symm rfl ?_
                    refine r_pI I1827 129 rfl rfl rfl (fun h1836 I1837 => ?_)
                    exact k_fin rfl rfl ⟨_, _, _, rfl, I1837, (fr1.up (by decide) (fr1.tr (by decide) (fr1.tr (by decide) (fr1.tr (by decide) (fr1.tr (by decide) (fr1.up (by decide) (fr1.up (by decide) (fr1.up (by decide) hF))) k1774) k1785) k1808) k1829)), (fr2.tr (by decide) (fr2.tr (by decide) hA k1775) k1830), ⟨(show (F0 8 ≤ F1825 8 ∧ F1825 8 ≤ F0 7 ∧ F0 20 ≤ x1833.toInt ∧ x1833.toInt ≤ 30 ∧ F1825 21 = F0 21 ∧ F0 23 ≤ F1825 23 ∧ F1825 23 ≤ 1000000 ∧ (F1825 9 = 2 → 0 ≤ F1825 11 ∧ F1825 11 ≤ 9) ∧ 0 ≤ F1825 9 ∧ F1825 9 ≤ 4) by omega), (show (F1825 6 = 0 → x1833.toInt = F0 20 ∧ F0 6 = 0 ∧ (F1825 9 = 0 ∨ F0 8 < F1825 8)) by omega), fun z1 z2 => by have z8 : F1825 6 = 0 := z1; have z9 : F1825 23 ≤ 124 := z2; have h9 := p1828c (by omega) (by omega); show rd1 (A1826 22) (A0 22) (F0 23) (F1825 23) (F0 20); exact fu_end (hfu (by omega)) (by omega) (rd_cg h9 (by omega) (by omega) rfl) (by omega)⟩⟩
                · refine k_c1 11 rfl rfl (if_neg b1791) ?_
                  have b1791 := mt iv_eq0.mpr b1791
                  refine k_push 12 rfl rfl ?_
                  refine k_fin rfl (fin_Z (Or.inl rfl)) ⟨_, _, rfl, rf_len I1783 I1783, ?_⟩
                  show am_Ok _ _ _ (98, _, [.inl (0 : Int32)], _, 0, 0) _
                  refine k_c1 109 rfl rfl (if_pos (by decide)) ?_
                  refine k_aload 110 rfl (gs_ne rfl rfl g0) rfl ?_
                  refine k_push 112 rfl rfl ?_
                  have hc1838 : (46 : Int32).toInt = 46 := by decide
                  have e1839 : F1781 7 = F1770 7 := k1785 7 (by decide)
                  refine k_rv I1783 rfl (m_must  I1783.1 (show 0 ≤ (F1781 8) ∧ (F1781 8) ≤ (F1781 7) ∧ (F1781 7) ≤ 700 ∧ ((F1781 9) = 2 → 0 ≤ (F1781 11) ∧ (F1781 11) ≤ 9) ∧ 0 ≤ (F1781 9) ∧ (F1781 9) ≤ 4 by omega)) (Nat.ble_eq_true_of_le (by omega)) rfl rfl I1783.rc ?_
                  rintro h1841 F1842 A1843 I1844 ⟨k1846, k1847, p1845⟩
                  replace p1845 : ((F1781 8) ≤ F1842 8 ∧ F1842 8 ≤ (F1781 7)) ∧ (F1842 6 = 0 → (F1781 6) = 0 ∧ (F1842 9 = 0 ∨ (F1781 8) < F1842 8)) ∧ (F1842 9 = 2 → 0 ≤ F1842 11 ∧ F1842 11 ≤ 9) ∧ (0 ≤ F1842 9 ∧ F1842 9 ≤ 4) := p1845
                  obtain ⟨p1845a, p1845b, p1845c, p1845d⟩ := p1845
                  have k1847 := fr2.nil k1847
                  subst k1847
                  show am_Ok _ _ _ (115, _, [], _, 0, 0) _
                  refine k_aload 116 rfl (gs_ne rfl rfl g0) rfl ?_
                  have e1848 : F1842 7 = F1781 7 := k1846 7 (by decide)
                  have e1849 : F1842 20 = F1781 20 := k1846 20 (by decide)
                  have e1850 : F1781 20 = F1770 20 := k1785 20 (by decide)
                  have e1851 : F1770 20 = x1760.toInt := k1774 20 (by decide)
                  have e1852 : F1842 21 = F1781 21 := k1846 21 (by decide)
                  have e1853 : F1781 21 = F1770 21 := k1785 21 (by decide)
                  have e1854 : F1770 21 = F 21 := k1774 21 (by decide)
                  have e1855 : F1842 18 = F1781 18 := k1846 18 (by decide)
                  have e1856 : F1781 18 = F1770 18 := k1785 18 (by decide)
                  have e1857 : F1770 18 = F 18 := k1774 18 (by decide)
                  have e1858 : F 18 = F0 18 := hF 18 (by decide)
                  have e1859 : F1842 23 = F1781 23 := k1846 23 (by decide)
                  have e1860 : F1781 23 = F1770 23 := k1785 23 (by decide)
                  refine k_rv I1844 rfl (hrec  I1844.1 (show 0 ≤ (F1842 8) ∧ (F1842 8) ≤ (F1842 7) ∧ (F1842 7) ≤ 700 ∧ 0 ≤ (F1842 20) ∧ (F1842 20) ≤ 30 ∧ 0 ≤ (F1842 21) ∧ (F1842 21) ≤ 12 ∧ 0 ≤ (F1842 18) ∧ (F1842 18) ≤ 12 ∧ 0 ≤ (F1842 23) ∧ (F1842 23) ≤ 1000000 ∧ ((F1842 9) = 2 → 0 ≤ (F1842 11) ∧ (F1842 11) ≤ 9) ∧ 0 ≤ (F1842 9) ∧ (F1842 9) ≤ 4 by omega) (show nm ((A1771 16)) ((A1771 17)) ((F1842 18)) by rw [((k1775 16 (by decide)).trans (hA 16 (by decide))), ((k1775 17 (by decide)).trans (hA 17 (by decide))), ((k1846 18 (by decide)).trans ((k1785 18 (by decide)).trans ((k1774 18 (by decide)).trans (hF 18 (by decide)))))]; exact p2) (show (12 - (F1842 21)) + (30 - (F1842 20)) < (gk : Int) by omega)) (Nat.ble_eq_true_of_le (by omega)) rfl rfl I1844.rc ?_
                  rintro h1862 F1863 A1864 I1865 ⟨k1867, k1868, p1866⟩
                  replace p1866 : ((F1842 8) ≤ F1863 8 ∧ F1863 8 ≤ (F1842 7) ∧ (F1842 20) ≤ F1863 20 ∧ F1863 20 ≤ 30 ∧ F1863 21 = (F1842 21) ∧ (F1842 23) ≤ F1863 23 ∧ F1863 23 ≤ 1000000 ∧ (F1863 9 = 2 → 0 ≤ F1863 11 ∧ F1863 11 ≤ 9) ∧ 0 ≤ F1863 9 ∧ F1863 9 ≤ 4) ∧ (F1863 6 = 0 → F1863 20 = (F1842 20) ∧ (F1842 6) = 0 ∧ (F1863 9 = 0 ∨ (F1842 8) < F1863 8)) ∧ (F1863 6 = 0 → F1863 23 ≤ 124 → rd1 (A1864 22) ((A1771 22)) ((F1842 23)) (F1863 23) ((F1842 20))) := p1866
                  obtain ⟨p1866a, p1866b, p1866c⟩ := p1866
                  show am_Ok _ _ _ (119, _, [], _, 0, 0) _
                  refine k_aload 120 rfl (gs_ne rfl rfl g0) rfl ?_
                  refine k_dup 121 rfl rfl rfl ?_
                  refine r_gI I1865 124 rfl rfl rfl (fun x1869 (e1870 : x1869.toInt = F1863 20) => ?_)
                  refine k_iload 125 rfl gs_eq rfl ?_
                  obtain ⟨x1871, q1872⟩ : ∃ q : Int32, q = (x1869 - x1765) := ⟨_, rfl⟩
                  have e1873 : x1871.toInt = x1869.toInt - x1765.toInt := by rw [q1872, iv_sub (by omega) (by omega)]
                  refine k_bin x1871 126 rfl q1872.symm rfl ?_
                  refine r_pI I1865 129 rfl rfl rfl (fun h1874 I1875 => ?_)
                  exact k_fin rfl rfl ⟨_, _, _, rfl, I1875, (fr1.up (by decide) (fr1.tr (by decide) (fr1.tr (by decide) (fr1.tr (by decide) (fr1.tr (by decide) (fr1.up (by decide) (fr1.up (by decide) (fr1.up (by decide) hF))) k1774) k1785) k1846) k1867)), (fr2.tr (by decide) (fr2.tr (by decide) hA k1775) k1868), ⟨(show (F0 8 ≤ F1863 8 ∧ F1863 8 ≤ F0 7 ∧ F0 20 ≤ x1871.toInt ∧ x1871.toInt ≤ 30 ∧ F1863 21 = F0 21 ∧ F0 23 ≤ F1863 23 ∧ F1863 23 ≤ 1000000 ∧ (F1863 9 = 2 → 0 ≤ F1863 11 ∧ F1863 11 ≤ 9) ∧ 0 ≤ F1863 9 ∧ F1863 9 ≤ 4) by omega), (show (F1863 6 = 0 → x1871.toInt = F0 20 ∧ F0 6 = 0 ∧ (F1863 9 = 0 ∨ F0 8 < F1863 8)) by omega), fun z1 z2 => by have z8 : F1863 6 = 0 := z1; have z9 : F1863 23 ≤ 124 := z2; have h9 := p1866c (by omega) (by omega); show rd1 (A1864 22) (A0 22) (F0 23) (F1863 23) (F0 20); exact fu_end (hfu (by omega)) (by omega) (rd_cg h9 (by omega) (by omega) rfl) (by omega)⟩⟩
              · refine k_c1 11 rfl rfl (if_neg b1752) ?_
                have b1752 := mt iv_eq0.mpr b1752
                refine k_push 12 rfl rfl ?_
                refine k_fin rfl (fin_Z (Or.inl rfl)) ⟨_, _, rfl, rf_len I1606 I1606, ?_⟩
                show am_Ok _ _ _ (28, _, [.inl (0 : Int32)], _, 0, 0) _
                refine k_fin rfl (fin_Z (Or.inl rfl)) ⟨_, _, rfl, rf_len I1606 I1606, ?_⟩
                show am_Ok _ _ _ (55, _, [.inl (0 : Int32)], _, 0, 0) _
                refine k_c1 58 rfl rfl (if_pos (by decide)) ?_
                exact k_fin rfl rfl ⟨_, _, _, rfl, I1606, (fr1.up (by decide) (fr1.up (by decide) hF)), hA, ⟨(show (F0 8 ≤ F 8 ∧ F 8 ≤ F0 7 ∧ F0 20 ≤ F 20 ∧ F 20 ≤ 30 ∧ F 21 = F0 21 ∧ F0 23 ≤ F 23 ∧ F 23 ≤ 1000000 ∧ (F 9 = 2 → 0 ≤ F 11 ∧ F 11 ≤ 9) ∧ 0 ≤ F 9 ∧ F 9 ≤ 4) by omega), (show ((1 : Int32).toInt = 0 → F 20 = F0 20 ∧ F0 6 = 0 ∧ (F 9 = 0 ∨ F0 8 < F 8)) by omega), fun z => absurd (show (1 : Int32).toInt = 0 from z) (by omega)⟩⟩
          · refine k_c2 37 rfl rfl (if_neg b1613) ?_
            have b1613 := mt iv_lt.mpr b1613
            refine k_aload 38 rfl g0 rfl ?_
            refine r_gI I1606 41 rfl rfl rfl (fun x1876 (e1877 : x1876.toInt = F 20) => ?_)
            refine k_push 43 rfl rfl ?_
            have hc1878 : (30 : Int32).toInt = 30 := by decide
            by_cases b1879 : (30 : Int32) ≤ x1876
            · refine k_c2 50 rfl rfl (if_pos b1879) ?_
              have b1879 := iv_le.mp b1879
              refine k_push 51 rfl rfl ?_
              refine k_push 52 rfl rfl ?_
              have hc1880 : (2 : Int32).toInt = 2 := by decide
              refine k_in (d := 1) rfl (Nat.ble_eq_true_of_le (by omega)) rfl rfl I1606.rc ?_
              refine k_aload 1 rfl rfl rfl ?_
              refine k_in (d := 0) rfl (Nat.ble_eq_true_of_le (by omega)) rfl rfl I1606.rc ?_
              refine k_aload 1 rfl rfl rfl ?_
              refine r_gI I1606 4 rfl rfl rfl (fun x1881 (e1882 : x1881.toInt = (1 : Int32).toInt) => ?_)
              by_cases b1883 : x1881 = 0
              · refine k_c1 7 rfl rfl (if_pos b1883) ?_
                have b1883 := iv_eq0.mp b1883
                refine k_push 8 rfl rfl ?_
                refine k_goto 12 rfl rfl ?_
                refine k_fin rfl (fin_Z (Or.inr rfl)) ⟨_, _, rfl, rf_len I1606 I1606, ?_⟩
                show am_Ok _ _ _ (4, _, [.inl (1 : Int32)], _, 0, 0) _
                refine k_c1 7 rfl rfl (if_neg (by decide)) ?_
                refine k_iload 8 rfl rfl rfl ?_
                refine k_c1 11 rfl rfl (if_pos (by decide)) ?_
                refine k_aload 12 rfl rfl rfl ?_
                refine k_iload 13 rfl rfl rfl ?_
                refine r_pI I1606 16 rfl rfl rfl (fun h1884 I1885 => ?_)
                refine k_aload 17 rfl rfl rfl ?_
                refine k_aload 18 rfl rfl rfl ?_
                refine r_gI I1885 21 rfl rfl rfl (fun x1886 (e1887 : x1886.toInt = F 10) => ?_)
                refine r_pI I1885 24 rfl rfl rfl (fun h1888 I1889 => ?_)
                refine k_aload 25 rfl rfl rfl ?_
                refine k_in (d := 0) rfl (Nat.ble_eq_true_of_le (by omega)) rfl rfl I1889.rc ?_
                refine k_aload 1 rfl rfl rfl ?_
                refine r_gI I1889 4 rfl rfl rfl (fun x1890 (e1891 : x1890.toInt = (2 : Int32).toInt) => ?_)
                by_cases b1892 : x1890 = 0
                · refine k_c1 7 rfl rfl (if_pos b1892) ?_
                  have b1892 := iv_eq0.mp b1892
                  refine k_push 8 rfl rfl ?_
                  refine k_goto 12 rfl rfl ?_
                  refine k_fin rfl (fin_Z (Or.inr rfl)) ⟨_, _, rfl, rf_len I1889 I1889, ?_⟩
                  show am_Ok _ _ _ (28, _, [.inl (1 : Int32)], _, 0, 0) _
                  refine k_fin rfl (fin_Z (Or.inr rfl)) ⟨_, _, rfl, rf_len I1606 I1889, ?_⟩
                  show am_Ok _ _ _ (55, _, [.inl (1 : Int32)], _, 0, 0) _
                  refine k_c1 59 rfl rfl (if_neg (by decide)) ?_
                  refine k_aload 60 rfl g0 rfl ?_
                  refine r_gA I1889 63 rfl rfl rfl ?_
                  refine k_aload 64 rfl g0 rfl ?_
                  refine r_gI I1889 67 rfl rfl rfl (fun x1893 (e1894 : x1893.toInt = F 20) => ?_)
                  refine k_aload 68 rfl g0 rfl ?_
                  refine r_gJ I1889 71 rfl rfl rfl (fun y1895 => ?_)
                  refine r_lst 19 I1889 72 rfl rfl (by omega) (show x1893.toInt < 31 by omega) rfl (fun h1896 I1897 => ?_)
                  refine k_aload 73 rfl g0 rfl ?_
                  refine k_dup 74 rfl rfl rfl ?_
                  refine r_gI I1897 77 rfl rfl rfl (fun x1898 (e1899 : x1898.toInt = F 20) => ?_)
                  refine k_push 78 rfl rfl ?_
                  obtain ⟨x1900, q1901⟩ : ∃ q : Int32, q = (x1898 + (1 : Int32)) := ⟨_, rfl⟩
                  have e1902 : x1900.toInt = x1898.toInt + 1 := by rw [q1901, iv_add (by omega) (by omega)]; omega
                  refine k_bin x1900 79 rfl q1901.symm rfl ?_
                  refine r_pI I1897 82 rfl rfl rfl (fun h1903 I1904 => ?_)
                  obtain ⟨x1905, q1906⟩ : ∃ q : Int32, q = v1 + (1 : Int32) := ⟨_, rfl⟩
                  have e1907 : x1905.toInt = v1.toInt + 1 := by rw [q1906, iv_add (by omega) (by omega)]; omega
                  refine k_iinc x1905 85 rfl g1 q1906.symm rfl ?_
                  refine k_aload 86 rfl (gs_ne rfl rfl g0) rfl ?_
                  refine k_push 87 rfl rfl ?_
                  refine k_rv I1904 rfl (m_emits  I1904.1 (show 0 ≤ (F 23) ∧ (F 23) ≤ 1000000 by omega)) (Nat.ble_eq_true_of_le (by omega)) rfl rfl I1904.rc ?_
                  rintro h1909 F1910 A1911 I1912 ⟨k1914, k1915, p1913⟩
                  replace p1913 : ((F 23) ≤ F1910 23 ∧ F1910 23 ≤ 1000000) ∧ (F1910 23 ≤ 124 → F1910 23 = (F 23) + 1) ∧ (F1910 23 ≤ 124 → A1911 22 ((F 23)) = (1 : Int32).toInt ∧ ∀ q : Int, q ≠ (F 23) → A1911 22 q = (A 22) q) := p1913
                  obtain ⟨p1913a, p1913b, p1913c⟩ := p1913
                  show am_Ok _ _ _ (90, _, [], _, 0, 0) _
                  have hfu : F1910 23 ≤ 124 → fu (A1911 22) (A0 22) (F0 23) (F1910 23) (v1.toInt + 1) := fun z9 => fu_s (i2 (by omega)) (p1913b z9) ((p1913c z9).1.trans (by decide)) (p1913c z9).2 (by omega) rfl
                  refine k_aload 91 rfl (gs_ne rfl rfl g0) rfl ?_
                  have e1916 : F1910 8 = F 8 := k1914 8 (by decide)
                  have e1917 : F1910 7 = F 7 := k1914 7 (by decide)
                  have e1918 : F 7 = F0 7 := hF 7 (by decide)
                  refine k_rv I1912 rfl (m_goes  I1912.1 (show 0 ≤ (F1910 8) ∧ (F1910 8) ≤ (F1910 7) ∧ (F1910 7) ≤ 700 by omega)) (Nat.ble_eq_true_of_le (by omega)) rfl rfl I1912.rc ?_
                  rintro h1920 F1921 A1922 I1923 ⟨k1925, k1926, p1924⟩
                  replace p1924 : ((F1910 8) ≤ F1921 8 ∧ F1921 8 ≤ (F1910 7)) ∧ (F1921 9 = 0 ∨ (F1910 8) < F1921 8) ∧ (F1921 9 = 2 → 0 ≤ F1921 11 ∧ F1921 11 ≤ 9) ∧ (0 ≤ F1921 9 ∧ F1921 9 ≤ 4) := p1924
                  obtain ⟨p1924a, p1924b, p1924c, p1924d⟩ := p1924
                  have k1926 := fr2.nil k1926
                  subst k1926
                  show am_Ok _ _ _ (94, _, [], _, 0, 0) _
                  refine k_aload 95 rfl (gs_ne rfl rfl g0) rfl ?_
                  refine k_in (d := 0) rfl (Nat.ble_eq_true_of_le (by omega)) rfl rfl I1923.rc ?_
                  refine k_aload 1 rfl rfl rfl ?_
                  refine r_gI I1923 4 rfl rfl rfl (fun x1927 (e1928 : x1927.toInt = F1921 6) => ?_)
                  have e1929 : F1921 6 = F1910 6 := k1925 6 (by decide)
                  have e1930 : F1910 6 = (2 : Int32).toInt := k1914 6 (by decide)
                  by_cases b1931 : x1927 = 0
                  · refine k_c1 7 rfl rfl (if_pos b1931) ?_
                    have b1931 := iv_eq0.mp b1931
                    refine k_push 8 rfl rfl ?_
                    refine k_goto 12 rfl rfl ?_
                    refine k_fin rfl (fin_Z (Or.inr rfl)) ⟨_, _, rfl, rf_len I1923 I1923, ?_⟩
                    show am_Ok _ _ _ (98, _, [.inl (1 : Int32)], _, 0, 0) _
                    refine k_c1 101 rfl rfl (if_neg (by decide)) ?_
                    refine k_aload 102 rfl (gs_ne rfl rfl g0) rfl ?_
                    refine r_gI I1923 105 rfl rfl rfl (fun x1932 (e1933 : x1932.toInt = F1921 9) => ?_)
                    refine k_push 106 rfl rfl ?_
                    by_cases b1934 : x1932 = (1 : Int32)
                    · refine k_c2 6 rfl rfl (if_pos b1934) ?_
                      have b1934 := iv_eq.mp b1934
                      have e1935 : F1921 20 = F1910 20 := k1925 20 (by decide)
                      have e1936 : F1910 20 = x1900.toInt := k1914 20 (by decide)
                      have e1937 : F1921 21 = F1910 21 := k1925 21 (by decide)
                      have e1938 : F1910 21 = F 21 := k1914 21 (by decide)
                      have e1939 : F1921 23 = F1910 23 := k1925 23 (by decide)
                      exact ih _ (show ((31 - x1905.toInt).toNat) < n by omega)  rfl (gs_ne rfl rfl g0) gs_eq I1923 (fr1.tr (by decide) (fr1.tr (by decide) (fr1.up (by decide) (fr1.up (by decide) (fr1.up (by decide) (fr1.up (by decide) (fr1.up (by decide) hF))))) k1914) k1925) (fr2.tr (by decide) hA k1915) (show F0 8 ≤ (F1921 8) ∧ (F1921 8) ≤ F0 7 ∧ (F1921 20) = F0 20 + x1905.toInt ∧ 0 ≤ x1905.toInt ∧ (F1921 20) ≤ 30 ∧ (F1921 21) = F0 21 ∧ F0 23 ≤ (F1921 23) ∧ (F1921 23) ≤ 1000000 ∧ ((F1921 9) = 2 → 0 ≤ (F1921 11) ∧ (F1921 11) ≤ 9) ∧ 0 ≤ (F1921 9) ∧ (F1921 9) ≤ 4 ∧ (F1921 6) = 0 by omega) (fun z => by have z9 : F1921 23 ≤ 124 := z; show fu (A1911 22) (A0 22) (F0 23) (F1921 23) x1905.toInt; exact fu_cg (hfu (by omega)) (by omega) (by omega))
                    · refine k_c2 109 rfl rfl (if_neg b1934) ?_
                      have b1934 := mt iv_eq.mpr b1934
                      refine k_aload 110 rfl (gs_ne rfl rfl g0) rfl ?_
                      refine k_push 112 rfl rfl ?_
                      have hc1940 : (46 : Int32).toInt = 46 := by decide
                      have e1941 : F1921 7 = F1910 7 := k1925 7 (by decide)
                      refine k_rv I1923 rfl (m_must  I1923.1 (show 0 ≤ (F1921 8) ∧ (F1921 8) ≤ (F1921 7) ∧ (F1921 7) ≤ 700 ∧ ((F1921 9) = 2 → 0 ≤ (F1921 11) ∧ (F1921 11) ≤ 9) ∧ 0 ≤ (F1921 9) ∧ (F1921 9) ≤ 4 by omega)) (Nat.ble_eq_true_of_le (by omega)) rfl rfl I1923.rc ?_
                      rintro h1943 F1944 A1945 I1946 ⟨k1948, k1949, p1947⟩
                      replace p1947 : ((F1921 8) ≤ F1944 8 ∧ F1944 8 ≤ (F1921 7)) ∧ (F1944 6 = 0 → (F1921 6) = 0 ∧ (F1944 9 = 0 ∨ (F1921 8) < F1944 8)) ∧ (F1944 9 = 2 → 0 ≤ F1944 11 ∧ F1944 11 ≤ 9) ∧ (0 ≤ F1944 9 ∧ F1944 9 ≤ 4) := p1947
                      obtain ⟨p1947a, p1947b, p1947c, p1947d⟩ := p1947
                      have k1949 := fr2.nil k1949
                      subst k1949
                      show am_Ok _ _ _ (115, _, [], _, 0, 0) _
                      refine k_aload 116 rfl (gs_ne rfl rfl g0) rfl ?_
                      have e1950 : F1944 7 = F1921 7 := k1948 7 (by decide)
                      have e1951 : F1944 20 = F1921 20 := k1948 20 (by decide)
                      have e1952 : F1921 20 = F1910 20 := k1925 20 (by decide)
                      have e1953 : F1910 20 = x1900.toInt := k1914 20 (by decide)
                      have e1954 : F1944 21 = F1921 21 := k1948 21 (by decide)
                      have e1955 : F1921 21 = F1910 21 := k1925 21 (by decide)
                      have e1956 : F1910 21 = F 21 := k1914 21 (by decide)
                      have e1957 : F1944 18 = F1921 18 := k1948 18 (by decide)
                      have e1958 : F1921 18 = F1910 18 := k1925 18 (by decide)
                      have e1959 : F1910 18 = F 18 := k1914 18 (by decide)
                      have e1960 : F 18 = F0 18 := hF 18 (by decide)
                      have e1961 : F1944 23 = F1921 23 := k1948 23 (by decide)
                      have e1962 : F1921 23 = F1910 23 := k1925 23 (by decide)
                      refine k_rv I1946 rfl (hrec  I1946.1 (show 0 ≤ (F1944 8) ∧ (F1944 8) ≤ (F1944 7) ∧ (F1944 7) ≤ 700 ∧ 0 ≤ (F1944 20) ∧ (F1944 20) ≤ 30 ∧ 0 ≤ (F1944 21) ∧ (F1944 21) ≤ 12 ∧ 0 ≤ (F1944 18) ∧ (F1944 18) ≤ 12 ∧ 0 ≤ (F1944 23) ∧ (F1944 23) ≤ 1000000 ∧ ((F1944 9) = 2 → 0 ≤ (F1944 11) ∧ (F1944 11) ≤ 9) ∧ 0 ≤ (F1944 9) ∧ (F1944 9) ≤ 4 by omega) (show nm ((A1911 16)) ((A1911 17)) ((F1944 18)) by rw [((k1915 16 (by decide)).trans (hA 16 (by decide))), ((k1915 17 (by decide)).trans (hA 17 (by decide))), ((k1948 18 (by decide)).trans ((k1925 18 (by decide)).trans ((k1914 18 (by decide)).trans (hF 18 (by decide)))))]; exact p2) (show (12 - (F1944 21)) + (30 - (F1944 20)) < (gk : Int) by omega)) (Nat.ble_eq_true_of_le (by omega)) rfl rfl I1946.rc ?_
                      rintro h1964 F1965 A1966 I1967 ⟨k1969, k1970, p1968⟩
                      replace p1968 : ((F1944 8) ≤ F1965 8 ∧ F1965 8 ≤ (F1944 7) ∧ (F1944 20) ≤ F1965 20 ∧ F1965 20 ≤ 30 ∧ F1965 21 = (F1944 21) ∧ (F1944 23) ≤ F1965 23 ∧ F1965 23 ≤ 1000000 ∧ (F1965 9 = 2 → 0 ≤ F1965 11 ∧ F1965 11 ≤ 9) ∧ 0 ≤ F1965 9 ∧ F1965 9 ≤ 4) ∧ (F1965 6 = 0 → F1965 20 = (F1944 20) ∧ (F1944 6) = 0 ∧ (F1965 9 = 0 ∨ (F1944 8) < F1965 8)) ∧ (F1965 6 = 0 → F1965 23 ≤ 124 → rd1 (A1966 22) ((A1911 22)) ((F1944 23)) (F1965 23) ((F1944 20))) := p1968
                      obtain ⟨p1968a, p1968b, p1968c⟩ := p1968
                      show am_Ok _ _ _ (119, _, [], _, 0, 0) _
                      refine k_aload 120 rfl (gs_ne rfl rfl g0) rfl ?_
                      refine k_dup 121 rfl rfl rfl ?_
                      refine r_gI I1967 124 rfl rfl rfl (fun x1971 (e1972 : x1971.toInt = F1965 20) => ?_)
                      refine k_iload 125 rfl gs_eq rfl ?_
                      obtain ⟨x1973, q1974⟩ : ∃ q : Int32, q = (x1971 - x1905) := ⟨_, rfl⟩
                      have e1975 : x1973.toInt = x1971.toInt - x1905.toInt := by rw [q1974, iv_sub (by omega) (by omega)]
                      refine k_bin x1973 126 rfl q1974.symm rfl ?_
                      refine r_pI I1967 129 rfl rfl rfl (fun h1976 I1977 => ?_)
                      exact k_fin rfl rfl ⟨_, _, _, rfl, I1977, (fr1.up (by decide) (fr1.tr (by decide) (fr1.tr (by decide) (fr1.tr (by decide) (fr1.tr (by decide) (fr1.up (by decide) (fr1.up (by decide) (fr1.up (by decide) (fr1.up (by decide) (fr1.up (by decide) hF))))) k1914) k1925) k1948) k1969)), (fr2.tr (by decide) (fr2.tr (by decide) hA k1915) k1970), ⟨(show (F0 8 ≤ F1965 8 ∧ F1965 8 ≤ F0 7 ∧ F0 20 ≤ x1973.toInt ∧ x1973.toInt ≤ 30 ∧ F1965 21 = F0 21 ∧ F0 23 ≤ F1965 23 ∧ F1965 23 ≤ 1000000 ∧ (F1965 9 = 2 → 0 ≤ F1965 11 ∧ F1965 11 ≤ 9) ∧ 0 ≤ F1965 9 ∧ F1965 9 ≤ 4) by omega), (show (F1965 6 = 0 → x1973.toInt = F0 20 ∧ F0 6 = 0 ∧ (F1965 9 = 0 ∨ F0 8 < F1965 8)) by omega), fun z1 z2 => by have z8 : F1965 6 = 0 := z1; have z9 : F1965 23 ≤ 124 := z2; have h9 := p1968c (by omega) (by omega); show rd1 (A1966 22) (A0 22) (F0 23) (F1965 23) (F0 20); exact fu_end (hfu (by omega)) (by omega) (rd_cg h9 (by omega) (by omega) rfl) (by omega)⟩⟩
                  · refine k_c1 11 rfl rfl (if_neg b1931) ?_
                    have b1931 := mt iv_eq0.mpr b1931
                    refine k_push 12 rfl rfl ?_
                    refine k_fin rfl (fin_Z (Or.inl rfl)) ⟨_, _, rfl, rf_len I1923 I1923, ?_⟩
                    show am_Ok _ _ _ (98, _, [.inl (0 : Int32)], _, 0, 0) _
                    refine k_c1 109 rfl rfl (if_pos (by decide)) ?_
                    refine k_aload 110 rfl (gs_ne rfl rfl g0) rfl ?_
                    refine k_push 112 rfl rfl ?_
                    have hc1978 : (46 : Int32).toInt = 46 := by decide
                    have e1979 : F1921 7 = F1910 7 := k1925 7 (by decide)
                    refine k_rv I1923 rfl (m_must  I1923.1 (show 0 ≤ (F1921 8) ∧ (F1921 8) ≤ (F1921 7) ∧ (F1921 7) ≤ 700 ∧ ((F1921 9) = 2 → 0 ≤ (F1921 11) ∧ (F1921 11) ≤ 9) ∧ 0 ≤ (F1921 9) ∧ (F1921 9) ≤ 4 by omega)) (Nat.ble_eq_true_of_le (by omega)) rfl rfl I1923.rc ?_
                    rintro h1981 F1982 A1983 I1984 ⟨k1986, k1987, p1985⟩
                    replace p1985 : ((F1921 8) ≤ F1982 8 ∧ F1982 8 ≤ (F1921 7)) ∧ (F1982 6 = 0 → (F1921 6) = 0 ∧ (F1982 9 = 0 ∨ (F1921 8) < F1982 8)) ∧ (F1982 9 = 2 → 0 ≤ F1982 11 ∧ F1982 11 ≤ 9) ∧ (0 ≤ F1982 9 ∧ F1982 9 ≤ 4) := p1985
                    obtain ⟨p1985a, p1985b, p1985c, p1985d⟩ := p1985
                    have k1987 := fr2.nil k1987
                    subst k1987
                    show am_Ok _ _ _ (115, _, [], _, 0, 0) _
                    refine k_aload 116 rfl (gs_ne rfl rfl g0) rfl ?_
                    have e1988 : F1982 7 = F1921 7 := k1986 7 (by decide)
                    have e1989 : F1982 20 = F1921 20 := k1986 20 (by decide)
                    have e1990 : F1921 20 = F1910 20 := k1925 20 (by decide)
                    have e1991 : F1910 20 = x1900.toInt := k1914 20 (by decide)
                    have e1992 : F1982 21 = F1921 21 := k1986 21 (by decide)
                    have e1993 : F1921 21 = F1910 21 := k1925 21 (by decide)
                    have e1994 : F1910 21 = F 21 := k1914 21 (by decide)
                    have e1995 : F1982 18 = F1921 18 := k1986 18 (by decide)
                    have e1996 : F1921 18 = F1910 18 := k1925 18 (by decide)
                    have e1997 : F1910 18 = F 18 := k1914 18 (by decide)
                    have e1998 : F 18 = F0 18 := hF 18 (by decide)
                    have e1999 : F1982 23 = F1921 23 := k1986 23 (by decide)
                    have e2000 : F1921 23 = F1910 23 := k1925 23 (by decide)
                    refine k_rv I1984 rfl (hrec  I1984.1 (show 0 ≤ (F1982 8) ∧ (F1982 8) ≤ (F1982 7) ∧ (F1982 7) ≤ 700 ∧ 0 ≤ (F1982 20) ∧ (F1982 20) ≤ 30 ∧ 0 ≤ (F1982 21) ∧ (F1982 21) ≤ 12 ∧ 0 ≤ (F1982 18) ∧ (F1982 18) ≤ 12 ∧ 0 ≤ (F1982 23) ∧ (F1982 23) ≤ 1000000 ∧ ((F1982 9) = 2 → 0 ≤ (F1982 11) ∧ (F1982 11) ≤ 9) ∧ 0 ≤ (F1982 9) ∧ (F1982 9) ≤ 4 by omega) (show nm ((A1911 16)) ((A1911 17)) ((F1982 18)) by rw [((k1915 16 (by decide)).trans (hA 16 (by decide))), ((k1915 17 (by decide)).trans (hA 17 (by decide))), ((k1986 18 (by decide)).trans ((k1925 18 (by decide)).trans ((k1914 18 (by decide)).trans (hF 18 (by decide)))))]; exact p2) (show (12 - (F1982 21)) + (30 - (F1982 20)) < (gk : Int) by omega)) (Nat.ble_eq_true_of_le (by omega)) rfl rfl I1984.rc ?_
                    rintro h2002 F2003 A2004 I2005 ⟨k2007, k2008, p2006⟩
                    replace p2006 : ((F1982 8) ≤ F2003 8 ∧ F2003 8 ≤ (F1982 7) ∧ (F1982 20) ≤ F2003 20 ∧ F2003 20 ≤ 30 ∧ F2003 21 = (F1982 21) ∧ (F1982 23) ≤ F2003 23 ∧ F2003 23 ≤ 1000000 ∧ (F2003 9 = 2 → 0 ≤ F2003 11 ∧ F2003 11 ≤ 9) ∧ 0 ≤ F2003 9 ∧ F2003 9 ≤ 4) ∧ (F2003 6 = 0 → F2003 20 = (F1982 20) ∧ (F1982 6) = 0 ∧ (F2003 9 = 0 ∨ (F1982 8) < F2003 8)) ∧ (F2003 6 = 0 → F2003 23 ≤ 124 → rd1 (A2004 22) ((A1911 22)) ((F1982 23)) (F2003 23) ((F1982 20))) := p2006
                    obtain ⟨p2006a, p2006b, p2006c⟩ := p2006
                    show am_Ok _ _ _ (119, _, [], _, 0, 0) _
                    refine k_aload 120 rfl (gs_ne rfl rfl g0) rfl ?_
                    refine k_dup 121 rfl rfl rfl ?_
                    refine r_gI I2005 124 rfl rfl rfl (fun x2009 (e2010 : x2009.toInt = F2003 20) => ?_)
                    refine k_iload 125 rfl gs_eq rfl ?_
                    obtain ⟨x2011, q2012⟩ : ∃ q : Int32, q = (x2009 - x1905) := ⟨_, rfl⟩
                    have e2013 : x2011.toInt = x2009.toInt - x1905.toInt := by rw [q2012, iv_sub (by omega) (by omega)]
                    refine k_bin x2011 126 rfl q2012.symm rfl ?_
                    refine r_pI I2005 129 rfl rfl rfl (fun h2014 I2015 => ?_)
                    exact k_fin rfl rfl ⟨_, _, _, rfl, I2015, (fr1.up (by decide) (fr1.tr (by decide) (fr1.tr (by decide) (fr1.tr (by decide) (fr1.tr (by decide) (fr1.up (by decide) (fr1.up (by decide) (fr1.up (by decide) (fr1.up (by decide) (fr1.up (by decide) hF))))) k1914) k1925) k1986) k2007)), (fr2.tr (by decide) (fr2.tr (by decide) hA k1915) k2008), ⟨(show (F0 8 ≤ F2003 8 ∧ F2003 8 ≤ F0 7 ∧ F0 20 ≤ x2011.toInt ∧ x2011.toInt ≤ 30 ∧ F2003 21 = F0 21 ∧ F0 23 ≤ F2003 23 ∧ F2003 23 ≤ 1000000 ∧ (F2003 9 = 2 → 0 ≤ F2003 11 ∧ F2003 11 ≤ 9) ∧ 0 ≤ F2003 9 ∧ F2003 9 ≤ 4) by omega), (show (F2003 6 = 0 → x2011.toInt = F0 20 ∧ F0 6 = 0 ∧ (F2003 9 = 0 ∨ F0 8 < F2003 8)) by omega), fun z1 z2 => by have z8 : F2003 6 = 0 := z1; have z9 : F2003 23 ≤ 124 := z2; have h9 := p2006c (by omega) (by omega); show rd1 (A2004 22) (A0 22) (F0 23) (F2003 23) (F0 20); exact fu_end (hfu (by omega)) (by omega) (rd_cg h9 (by omega) (by omega) rfl) (by omega)⟩⟩
                · refine k_c1 11 rfl rfl (if_neg b1892) ?_
                  have b1892 := mt iv_eq0.mpr b1892
                  refine k_push 12 rfl rfl ?_
                  refine k_fin rfl (fin_Z (Or.inl rfl)) ⟨_, _, rfl, rf_len I1889 I1889, ?_⟩
                  show am_Ok _ _ _ (28, _, [.inl (0 : Int32)], _, 0, 0) _
                  refine k_fin rfl (fin_Z (Or.inl rfl)) ⟨_, _, rfl, rf_len I1606 I1889, ?_⟩
                  show am_Ok _ _ _ (55, _, [.inl (0 : Int32)], _, 0, 0) _
                  refine k_c1 58 rfl rfl (if_pos (by decide)) ?_
                  exact k_fin rfl rfl ⟨_, _, _, rfl, I1889, (fr1.up (by decide) (fr1.up (by decide) (fr1.up (by decide) (fr1.up (by decide) hF)))), hA, ⟨(show (F0 8 ≤ F 8 ∧ F 8 ≤ F0 7 ∧ F0 20 ≤ F 20 ∧ F 20 ≤ 30 ∧ F 21 = F0 21 ∧ F0 23 ≤ F 23 ∧ F 23 ≤ 1000000 ∧ (F 9 = 2 → 0 ≤ F 11 ∧ F 11 ≤ 9) ∧ 0 ≤ F 9 ∧ F 9 ≤ 4) by omega), (show ((2 : Int32).toInt = 0 → F 20 = F0 20 ∧ F0 6 = 0 ∧ (F 9 = 0 ∨ F0 8 < F 8)) by omega), fun z => absurd (show (2 : Int32).toInt = 0 from z) (by omega)⟩⟩
              · refine k_c1 11 rfl rfl (if_neg b1883) ?_
                have b1883 := mt iv_eq0.mpr b1883
                refine k_push 12 rfl rfl ?_
                refine k_fin rfl (fin_Z (Or.inl rfl)) ⟨_, _, rfl, rf_len I1606 I1606, ?_⟩
                show am_Ok _ _ _ (4, _, [.inl (0 : Int32)], _, 0, 0) _
                refine k_c1 24 rfl rfl (if_pos (by decide)) ?_
                refine k_aload 25 rfl rfl rfl ?_
                refine k_in (d := 0) rfl (Nat.ble_eq_true_of_le (by omega)) rfl rfl I1606.rc ?_
                refine k_aload 1 rfl rfl rfl ?_
                refine r_gI I1606 4 rfl rfl rfl (fun x2016 (e2017 : x2016.toInt = (1 : Int32).toInt) => ?_)
                by_cases b2018 : x2016 = 0
                · refine k_c1 7 rfl rfl (if_pos b2018) ?_
                  have b2018 := iv_eq0.mp b2018
                  refine k_push 8 rfl rfl ?_
                  refine k_goto 12 rfl rfl ?_
                  refine k_fin rfl (fin_Z (Or.inr rfl)) ⟨_, _, rfl, rf_len I1606 I1606, ?_⟩
                  show am_Ok _ _ _ (28, _, [.inl (1 : Int32)], _, 0, 0) _
                  refine k_fin rfl (fin_Z (Or.inr rfl)) ⟨_, _, rfl, rf_len I1606 I1606, ?_⟩
                  show am_Ok _ _ _ (55, _, [.inl (1 : Int32)], _, 0, 0) _
                  refine k_c1 59 rfl rfl (if_neg (by decide)) ?_
                  refine k_aload 60 rfl g0 rfl ?_
                  refine r_gA I1606 63 rfl rfl rfl ?_
                  refine k_aload 64 rfl g0 rfl ?_
                  refine r_gI I1606 67 rfl rfl rfl (fun x2019 (e2020 : x2019.toInt = F 20) => ?_)
                  refine k_aload 68 rfl g0 rfl ?_
                  refine r_gJ I1606 71 rfl rfl rfl (fun y2021 => ?_)
                  refine r_lst 19 I1606 72 rfl rfl (by omega) (show x2019.toInt < 31 by omega) rfl (fun h2022 I2023 => ?_)
                  refine k_aload 73 rfl g0 rfl ?_
                  refine k_dup 74 rfl rfl rfl ?_
                  refine r_gI I2023 77 rfl rfl rfl (fun x2024 (e2025 : x2024.toInt = F 20) => ?_)
                  refine k_push 78 rfl rfl ?_
                  obtain ⟨x2026, q2027⟩ : ∃ q : Int32, q = (x2024 + (1 : Int32)) := ⟨_, rfl⟩
                  have e2028 : x2026.toInt = x2024.toInt + 1 := by rw [q2027, iv_add (by omega) (by omega)]; omega
                  refine k_bin x2026 79 rfl q2027.symm rfl ?_
                  refine r_pI I2023 82 rfl rfl rfl (fun h2029 I2030 => ?_)
                  obtain ⟨x2031, q2032⟩ : ∃ q : Int32, q = v1 + (1 : Int32) := ⟨_, rfl⟩
                  have e2033 : x2031.toInt = v1.toInt + 1 := by rw [q2032, iv_add (by omega) (by omega)]; omega
                  refine k_iinc x2031 85 rfl g1 q2032.symm rfl ?_
                  refine k_aload 86 rfl (gs_ne rfl rfl g0) rfl ?_
                  refine k_push 87 rfl rfl ?_
                  refine k_rv I2030 rfl (m_emits  I2030.1 (show 0 ≤ (F 23) ∧ (F 23) ≤ 1000000 by omega)) (Nat.ble_eq_true_of_le (by omega)) rfl rfl I2030.rc ?_
                  rintro h2035 F2036 A2037 I2038 ⟨k2040, k2041, p2039⟩
                  replace p2039 : ((F 23) ≤ F2036 23 ∧ F2036 23 ≤ 1000000) ∧ (F2036 23 ≤ 124 → F2036 23 = (F 23) + 1) ∧ (F2036 23 ≤ 124 → A2037 22 ((F 23)) = (1 : Int32).toInt ∧ ∀ q : Int, q ≠ (F 23) → A2037 22 q = (A 22) q) := p2039
                  obtain ⟨p2039a, p2039b, p2039c⟩ := p2039
                  show am_Ok _ _ _ (90, _, [], _, 0, 0) _
                  have hfu : F2036 23 ≤ 124 → fu (A2037 22) (A0 22) (F0 23) (F2036 23) (v1.toInt + 1) := fun z9 => fu_s (i2 (by omega)) (p2039b z9) ((p2039c z9).1.trans (by decide)) (p2039c z9).2 (by omega) rfl
                  refine k_aload 91 rfl (gs_ne rfl rfl g0) rfl ?_
                  have e2042 : F2036 8 = F 8 := k2040 8 (by decide)
                  have e2043 : F2036 7 = F 7 := k2040 7 (by decide)
                  have e2044 : F 7 = F0 7 := hF 7 (by decide)
                  refine k_rv I2038 rfl (m_goes  I2038.1 (show 0 ≤ (F2036 8) ∧ (F2036 8) ≤ (F2036 7) ∧ (F2036 7) ≤ 700 by omega)) (Nat.ble_eq_true_of_le (by omega)) rfl rfl I2038.rc ?_
                  rintro h2046 F2047 A2048 I2049 ⟨k2051, k2052, p2050⟩
                  replace p2050 : ((F2036 8) ≤ F2047 8 ∧ F2047 8 ≤ (F2036 7)) ∧ (F2047 9 = 0 ∨ (F2036 8) < F2047 8) ∧ (F2047 9 = 2 → 0 ≤ F2047 11 ∧ F2047 11 ≤ 9) ∧ (0 ≤ F2047 9 ∧ F2047 9 ≤ 4) := p2050
                  obtain ⟨p2050a, p2050b, p2050c, p2050d⟩ := p2050
                  have k2052 := fr2.nil k2052
                  subst k2052
                  show am_Ok _ _ _ (94, _, [], _, 0, 0) _
                  refine k_aload 95 rfl (gs_ne rfl rfl g0) rfl ?_
                  refine k_in (d := 0) rfl (Nat.ble_eq_true_of_le (by omega)) rfl rfl I2049.rc ?_
                  refine k_aload 1 rfl rfl rfl ?_
                  refine r_gI I2049 4 rfl rfl rfl (fun x2053 (e2054 : x2053.toInt = F2047 6) => ?_)
                  have e2055 : F2047 6 = F2036 6 := k2051 6 (by decide)
                  have e2056 : F2036 6 = (1 : Int32).toInt := k2040 6 (by decide)
                  by_cases b2057 : x2053 = 0
                  · refine k_c1 7 rfl rfl (if_pos b2057) ?_
                    have b2057 := iv_eq0.mp b2057
                    refine k_push 8 rfl rfl ?_
                    refine k_goto 12 rfl rfl ?_
                    refine k_fin rfl (fin_Z (Or.inr rfl)) ⟨_, _, rfl, rf_len I2049 I2049, ?_⟩
                    show am_Ok _ _ _ (98, _, [.inl (1 : Int32)], _, 0, 0) _
                    refine k_c1 101 rfl rfl (if_neg (by decide)) ?_
                    refine k_aload 102 rfl (gs_ne rfl rfl g0) rfl ?_
                    refine r_gI I2049 105 rfl rfl rfl (fun x2058 (e2059 : x2058.toInt = F2047 9) => ?_)
                    refine k_push 106 rfl rfl ?_
                    by_cases b2060 : x2058 = (1 : Int32)
                    · refine k_c2 6 rfl rfl (if_pos b2060) ?_
                      have b2060 := iv_eq.mp b2060
                      have e2061 : F2047 20 = F2036 20 := k2051 20 (by decide)
                      have e2062 : F2036 20 = x2026.toInt := k2040 20 (by decide)
                      have e2063 : F2047 21 = F2036 21 := k2051 21 (by decide)
                      have e2064 : F2036 21 = F 21 := k2040 21 (by decide)
                      have e2065 : F2047 23 = F2036 23 := k2051 23 (by decide)
                      exact ih _ (show ((31 - x2031.toInt).toNat) < n by omega)  rfl (gs_ne rfl rfl g0) gs_eq I2049 (fr1.tr (by decide) (fr1.tr (by decide) (fr1.up (by decide) (fr1.up (by decide) (fr1.up (by decide) hF))) k2040) k2051) (fr2.tr (by decide) hA k2041) (show F0 8 ≤ (F2047 8) ∧ (F2047 8) ≤ F0 7 ∧ (F2047 20) = F0 20 + x2031.toInt ∧ 0 ≤ x2031.toInt ∧ (F2047 20) ≤ 30 ∧ (F2047 21) = F0 21 ∧ F0 23 ≤ (F2047 23) ∧ (F2047 23) ≤ 1000000 ∧ ((F2047 9) = 2 → 0 ≤ (F2047 11) ∧ (F2047 11) ≤ 9) ∧ 0 ≤ (F2047 9) ∧ (F2047 9) ≤ 4 ∧ (F2047 6) = 0 by omega) (fun z => by have z9 : F2047 23 ≤ 124 := z; show fu (A2037 22) (A0 22) (F0 23) (F2047 23) x2031.toInt; exact fu_cg (hfu (by omega)) (by omega) (by omega))
                    · refine k_c2 109 rfl rfl (if_neg b2060) ?_
                      have b2060 := mt iv_eq.mpr b2060
                      refine k_aload 110 rfl (gs_ne rfl rfl g0) rfl ?_
                      refine k_push 112 rfl rfl ?_
                      have hc2066 : (46 : Int32).toInt = 46 := by decide
                      have e2067 : F2047 7 = F2036 7 := k2051 7 (by decide)
                      refine k_rv I2049 rfl (m_must  I2049.1 (show 0 ≤ (F2047 8) ∧ (F2047 8) ≤ (F2047 7) ∧ (F2047 7) ≤ 700 ∧ ((F2047 9) = 2 → 0 ≤ (F2047 11) ∧ (F2047 11) ≤ 9) ∧ 0 ≤ (F2047 9) ∧ (F2047 9) ≤ 4 by omega)) (Nat.ble_eq_true_of_le (by omega)) rfl rfl I2049.rc ?_
                      rintro h2069 F2070 A2071 I2072 ⟨k2074, k2075, p2073⟩
                      replace p2073 : ((F2047 8) ≤ F2070 8 ∧ F2070 8 ≤ (F2047 7)) ∧ (F2070 6 = 0 → (F2047 6) = 0 ∧ (F2070 9 = 0 ∨ (F2047 8) < F2070 8)) ∧ (F2070 9 = 2 → 0 ≤ F2070 11 ∧ F2070 11 ≤ 9) ∧ (0 ≤ F2070 9 ∧ F2070 9 ≤ 4) := p2073
                      obtain ⟨p2073a, p2073b, p2073c, p2073d⟩ := p2073
                      have k2075 := fr2.nil k2075
                      subst k2075
                      show am_Ok _ _ _ (115, _, [], _, 0, 0) _
                      refine k_aload 116 rfl (gs_ne rfl rfl g0) rfl ?_
                      have e2076 : F2070 7 = F2047 7 := k2074 7 (by decide)
                      have e2077 : F2070 20 = F2047 20 := k2074 20 (by decide)
                      have e2078 : F2047 20 = F2036 20 := k2051 20 (by decide)
                      have e2079 : F2036 20 = x2026.toInt := k2040 20 (by decide)
                      have e2080 : F2070 21 = F2047 21 := k2074 21 (by decide)
                      have e2081 : F2047 21 = F2036 21 := k2051 21 (by decide)
                      have e2082 : F2036 21 = F 21 := k2040 21 (by decide)
                      have e2083 : F2070 18 = F2047 18 := k2074 18 (by decide)
                      have e2084 : F2047 18 = F2036 18 := k2051 18 (by decide)
                      have e2085 : F2036 18 = F 18 := k2040 18 (by decide)
                      have e2086 : F 18 = F0 18 := hF 18 (by decide)
                      have e2087 : F2070 23 = F2047 23 := k2074 23 (by decide)
                      have e2088 : F2047 23 = F2036 23 := k2051 23 (by decide)
                      refine k_rv I2072 rfl (hrec  I2072.1 (show 0 ≤ (F2070 8) ∧ (F2070 8) ≤ (F2070 7) ∧ (F2070 7) ≤ 700 ∧ 0 ≤ (F2070 20) ∧ (F2070 20) ≤ 30 ∧ 0 ≤ (F2070 21) ∧ (F2070 21) ≤ 12 ∧ 0 ≤ (F2070 18) ∧ (F2070 18) ≤ 12 ∧ 0 ≤ (F2070 23) ∧ (F2070 23) ≤ 1000000 ∧ ((F2070 9) = 2 → 0 ≤ (F2070 11) ∧ (F2070 11) ≤ 9) ∧ 0 ≤ (F2070 9) ∧ (F2070 9) ≤ 4 by omega) (show nm ((A2037 16)) ((A2037 17)) ((F2070 18)) by rw [((k2041 16 (by decide)).trans (hA 16 (by decide))), ((k2041 17 (by decide)).trans (hA 17 (by decide))), ((k2074 18 (by decide)).trans ((k2051 18 (by decide)).trans ((k2040 18 (by decide)).trans (hF 18 (by decide)))))]; exact p2) (show (12 - (F2070 21)) + (30 - (F2070 20)) < (gk : Int) by omega)) (Nat.ble_eq_true_of_le (by omega)) rfl rfl I2072.rc ?_
                      rintro h2090 F2091 A2092 I2093 ⟨k2095, k2096, p2094⟩
                      replace p2094 : ((F2070 8) ≤ F2091 8 ∧ F2091 8 ≤ (F2070 7) ∧ (F2070 20) ≤ F2091 20 ∧ F2091 20 ≤ 30 ∧ F2091 21 = (F2070 21) ∧ (F2070 23) ≤ F2091 23 ∧ F2091 23 ≤ 1000000 ∧ (F2091 9 = 2 → 0 ≤ F2091 11 ∧ F2091 11 ≤ 9) ∧ 0 ≤ F2091 9 ∧ F2091 9 ≤ 4) ∧ (F2091 6 = 0 → F2091 20 = (F2070 20) ∧ (F2070 6) = 0 ∧ (F2091 9 = 0 ∨ (F2070 8) < F2091 8)) ∧ (F2091 6 = 0 → F2091 23 ≤ 124 → rd1 (A2092 22) ((A2037 22)) ((F2070 23)) (F2091 23) ((F2070 20))) := p2094
                      obtain ⟨p2094a, p2094b, p2094c⟩ := p2094
                      show am_Ok _ _ _ (119, _, [], _, 0, 0) _
                      refine k_aload 120 rfl (gs_ne rfl rfl g0) rfl ?_
                      refine k_dup 121 rfl rfl rfl ?_
                      refine r_gI I2093 124 rfl rfl rfl (fun x2097 (e2098 : x2097.toInt = F2091 20) => ?_)
                      refine k_iload 125 rfl gs_eq rfl ?_
                      obtain ⟨x2099, q2100⟩ : ∃ q : Int32, q = (x2097 - x2031) := ⟨_, rfl⟩
                      have e2101 : x2099.toInt = x2097.toInt - x2031.toInt := by rw [q2100, iv_sub (by omega) (by omega)]
                      refine k_bin x2099 126 rfl q2100.symm rfl ?_
                      refine r_pI I2093 129 rfl rfl rfl (fun h2102 I2103 => ?_)
                      exact k_fin rfl rfl ⟨_, _, _, rfl, I2103, (fr1.up (by decide) (fr1.tr (by decide) (fr1.tr (by decide) (fr1.tr (by decide) (fr1.tr (by decide) (fr1.up (by decide) (fr1.up (by decide) (fr1.up (by decide) hF))) k2040) k2051) k2074) k2095)), (fr2.tr (by decide) (fr2.tr (by decide) hA k2041) k2096), ⟨(show (F0 8 ≤ F2091 8 ∧ F2091 8 ≤ F0 7 ∧ F0 20 ≤ x2099.toInt ∧ x2099.toInt ≤ 30 ∧ F2091 21 = F0 21 ∧ F0 23 ≤ F2091 23 ∧ F2091 23 ≤ 1000000 ∧ (F2091 9 = 2 → 0 ≤ F2091 11 ∧ F2091 11 ≤ 9) ∧ 0 ≤ F2091 9 ∧ F2091 9 ≤ 4) by omega), (show (F2091 6 = 0 → x2099.toInt = F0 20 ∧ F0 6 = 0 ∧ (F2091 9 = 0 ∨ F0 8 < F2091 8)) by omega), fun z1 z2 => by have z8 : F2091 6 = 0 := z1; have z9 : F2091 23 ≤ 124 := z2; have h9 := p2094c (by omega) (by omega); show rd1 (A2092 22) (A0 22) (F0 23) (F2091 23) (F0 20); exact fu_end (hfu (by omega)) (by omega) (rd_cg h9 (by omega) (by omega) rfl) (by omega)⟩⟩
                  · refine k_c1 11 rfl rfl (if_neg b2057) ?_
                    have b2057 := mt iv_eq0.mpr b2057
                    refine k_push 12 rfl rfl ?_
                    refine k_fin rfl (fin_Z (Or.inl rfl)) ⟨_, _, rfl, rf_len I2049 I2049, ?_⟩
                    show am_Ok _ _ _ (98, _, [.inl (0 : Int32)], _, 0, 0) _
                    refine k_c1 109 rfl rfl (if_pos (by decide)) ?_
                    refine k_aload 110 rfl (gs_ne rfl rfl g0) rfl ?_
                    refine k_push 112 rfl rfl ?_
                    have hc2104 : (46 : Int32).toInt = 46 := by decide
                    have e2105 : F2047 7 = F2036 7 := k2051 7 (by decide)
                    refine k_rv I2049 rfl (m_must  I2049.1 (show 0 ≤ (F2047 8) ∧ (F2047 8) ≤ (F2047 7) ∧ (F2047 7) ≤ 700 ∧ ((F2047 9) = 2 → 0 ≤ (F2047 11) ∧ (F2047 11) ≤ 9) ∧ 0 ≤ (F2047 9) ∧ (F2047 9) ≤ 4 by omega)) (Nat.ble_eq_true_of_le (by omega)) rfl rfl I2049.rc ?_
                    rintro h2107 F2108 A2109 I2110 ⟨k2112, k2113, p2111⟩
                    replace p2111 : ((F2047 8) ≤ F2108 8 ∧ F2108 8 ≤ (F2047 7)) ∧ (F2108 6 = 0 → (F2047 6) = 0 ∧ (F2108 9 = 0 ∨ (F2047 8) < F2108 8)) ∧ (F2108 9 = 2 → 0 ≤ F2108 11 ∧ F2108 11 ≤ 9) ∧ (0 ≤ F2108 9 ∧ F2108 9 ≤ 4) := p2111
                    obtain ⟨p2111a, p2111b, p2111c, p2111d⟩ := p2111
                    have k2113 := fr2.nil k2113
                    subst k2113
                    show am_Ok _ _ _ (115, _, [], _, 0, 0) _
                    refine k_aload 116 rfl (gs_ne rfl rfl g0) rfl ?_
                    have e2114 : F2108 7 = F2047 7 := k2112 7 (by decide)
                    have e2115 : F2108 20 = F2047 20 := k2112 20 (by decide)
                    have e2116 : F2047 20 = F2036 20 := k2051 20 (by decide)
                    have e2117 : F2036 20 = x2026.toInt := k2040 20 (by decide)
                    have e2118 : F2108 21 = F2047 21 := k2112 21 (by decide)
                    have e2119 : F2047 21 = F2036 21 := k2051 21 (by decide)
                    have e2120 : F2036 21 = F 21 := k2040 21 (by decide)
                    have e2121 : F2108 18 = F2047 18 := k2112 18 (by decide)
                    have e2122 : F2047 18 = F2036 18 := k2051 18 (by decide)
                    have e2123 : F2036 18 = F 18 := k2040 18 (by decide)
                    have e2124 : F 18 = F0 18 := hF 18 (by decide)
                    have e2125 : F2108 23 = F2047 23 := k2112 23 (by decide)
                    have e2126 : F2047 23 = F2036 23 := k2051 23 (by decide)
                    refine k_rv I2110 rfl (hrec  I2110.1 (show 0 ≤ (F2108 8) ∧ (F2108 8) ≤ (F2108 7) ∧ (F2108 7) ≤ 700 ∧ 0 ≤ (F2108 20) ∧ (F2108 20) ≤ 30 ∧ 0 ≤ (F2108 21) ∧ (F2108 21) ≤ 12 ∧ 0 ≤ (F2108 18) ∧ (F2108 18) ≤ 12 ∧ 0 ≤ (F2108 23) ∧ (F2108 23) ≤ 1000000 ∧ ((F2108 9) = 2 → 0 ≤ (F2108 11) ∧ (F2108 11) ≤ 9) ∧ 0 ≤ (F2108 9) ∧ (F2108 9) ≤ 4 by omega) (show nm ((A2037 16)) ((A2037 17)) ((F2108 18)) by rw [((k2041 16 (by decide)).trans (hA 16 (by decide))), ((k2041 17 (by decide)).trans (hA 17 (by decide))), ((k2112 18 (by decide)).trans ((k2051 18 (by decide)).trans ((k2040 18 (by decide)).trans (hF 18 (by decide)))))]; exact p2) (show (12 - (F2108 21)) + (30 - (F2108 20)) < (gk : Int) by omega)) (Nat.ble_eq_true_of_le (by omega)) rfl rfl I2110.rc ?_
                    rintro h2128 F2129 A2130 I2131 ⟨k2133, k2134, p2132⟩
                    replace p2132 : ((F2108 8) ≤ F2129 8 ∧ F2129 8 ≤ (F2108 7) ∧ (F2108 20) ≤ F2129 20 ∧ F2129 20 ≤ 30 ∧ F2129 21 = (F2108 21) ∧ (F2108 23) ≤ F2129 23 ∧ F2129 23 ≤ 1000000 ∧ (F2129 9 = 2 → 0 ≤ F2129 11 ∧ F2129 11 ≤ 9) ∧ 0 ≤ F2129 9 ∧ F2129 9 ≤ 4) ∧ (F2129 6 = 0 → F2129 20 = (F2108 20) ∧ (F2108 6) = 0 ∧ (F2129 9 = 0 ∨ (F2108 8) < F2129 8)) ∧ (F2129 6 = 0 → F2129 23 ≤ 124 → rd1 (A2130 22) ((A2037 22)) ((F2108 23)) (F2129 23) ((F2108 20))) := p2132
                    obtain ⟨p2132a, p2132b, p2132c⟩ := p2132
                    show am_Ok _ _ _ (119, _, [], _, 0, 0) _
                    refine k_aload 120 rfl (gs_ne rfl rfl g0) rfl ?_
                    refine k_dup 121 rfl rfl rfl ?_
                    refine r_gI I2131 124 rfl rfl rfl (fun x2135 (e2136 : x2135.toInt = F2129 20) => ?_)
                    refine k_iload 125 rfl gs_eq rfl ?_
                    obtain ⟨x2137, q2138⟩ : ∃ q : Int32, q = (x2135 - x2031) := ⟨_, rfl⟩
                    have e2139 : x2137.toInt = x2135.toInt - x2031.toInt := by rw [q2138, iv_sub (by omega) (by omega)]
                    refine k_bin x2137 126 rfl q2138.symm rfl ?_
                    refine r_pI I2131 129 rfl rfl rfl (fun h2140 I2141 => ?_)
                    exact k_fin rfl rfl ⟨_, _, _, rfl, I2141, (fr1.up (by decide) (fr1.tr (by decide) (fr1.tr (by decide) (fr1.tr (by decide) (fr1.tr (by decide) (fr1.up (by decide) (fr1.up (by decide) (fr1.up (by decide) hF))) k2040) k2051) k2112) k2133)), (fr2.tr (by decide) (fr2.tr (by decide) hA k2041) k2134), ⟨(show (F0 8 ≤ F2129 8 ∧ F2129 8 ≤ F0 7 ∧ F0 20 ≤ x2137.toInt ∧ x2137.toInt ≤ 30 ∧ F2129 21 = F0 21 ∧ F0 23 ≤ F2129 23 ∧ F2129 23 ≤ 1000000 ∧ (F2129 9 = 2 → 0 ≤ F2129 11 ∧ F2129 11 ≤ 9) ∧ 0 ≤ F2129 9 ∧ F2129 9 ≤ 4) by omega), (show (F2129 6 = 0 → x2137.toInt = F0 20 ∧ F0 6 = 0 ∧ (F2129 9 = 0 ∨ F0 8 < F2129 8)) by omega), fun z1 z2 => by have z8 : F2129 6 = 0 := z1; have z9 : F2129 23 ≤ 124 := z2; have h9 := p2132c (by omega) (by omega); show rd1 (A2130 22) (A0 22) (F0 23) (F2129 23) (F0 20); exact fu_end (hfu (by omega)) (by omega) (rd_cg h9 (by omega) (by omega) rfl) (by omega)⟩⟩
                · refine k_c1 11 rfl rfl (if_neg b2018) ?_
                  have b2018 := mt iv_eq0.mpr b2018
                  refine k_push 12 rfl rfl ?_
                  refine k_fin rfl (fin_Z (Or.inl rfl)) ⟨_, _, rfl, rf_len I1606 I1606, ?_⟩
                  show am_Ok _ _ _ (28, _, [.inl (0 : Int32)], _, 0, 0) _
                  refine k_fin rfl (fin_Z (Or.inl rfl)) ⟨_, _, rfl, rf_len I1606 I1606, ?_⟩
                  show am_Ok _ _ _ (55, _, [.inl (0 : Int32)], _, 0, 0) _
                  refine k_c1 58 rfl rfl (if_pos (by decide)) ?_
                  exact k_fin rfl rfl ⟨_, _, _, rfl, I1606, (fr1.up (by decide) (fr1.up (by decide) hF)), hA, ⟨(show (F0 8 ≤ F 8 ∧ F 8 ≤ F0 7 ∧ F0 20 ≤ F 20 ∧ F 20 ≤ 30 ∧ F 21 = F0 21 ∧ F0 23 ≤ F 23 ∧ F 23 ≤ 1000000 ∧ (F 9 = 2 → 0 ≤ F 11 ∧ F 11 ≤ 9) ∧ 0 ≤ F 9 ∧ F 9 ≤ 4) by omega), (show ((1 : Int32).toInt = 0 → F 20 = F0 20 ∧ F0 6 = 0 ∧ (F 9 = 0 ∨ F0 8 < F 8)) by omega), fun z => absurd (show (1 : Int32).toInt = 0 from z) (by omega)⟩⟩
            · refine k_c2 46 rfl rfl (if_neg b1879) ?_
              have b1879 := mt iv_le.mpr b1879
              refine k_push 47 rfl rfl ?_
              refine k_goto 51 rfl rfl ?_
              refine k_push 52 rfl rfl ?_
              have hc2142 : (2 : Int32).toInt = 2 := by decide
              refine k_in (d := 1) rfl (Nat.ble_eq_true_of_le (by omega)) rfl rfl I1606.rc ?_
              refine k_aload 1 rfl rfl rfl ?_
              refine k_in (d := 0) rfl (Nat.ble_eq_true_of_le (by omega)) rfl rfl I1606.rc ?_
              refine k_aload 1 rfl rfl rfl ?_
              refine r_gI I1606 4 rfl rfl rfl (fun x2143 (e2144 : x2143.toInt = (1 : Int32).toInt) => ?_)
              by_cases b2145 : x2143 = 0
              · refine k_c1 7 rfl rfl (if_pos b2145) ?_
                have b2145 := iv_eq0.mp b2145
                refine k_push 8 rfl rfl ?_
                refine k_goto 12 rfl rfl ?_
                refine k_fin rfl (fin_Z (Or.inr rfl)) ⟨_, _, rfl, rf_len I1606 I1606, ?_⟩
                show am_Ok _ _ _ (4, _, [.inl (1 : Int32)], _, 0, 0) _
                refine k_c1 7 rfl rfl (if_neg (by decide)) ?_
                refine k_iload 8 rfl rfl rfl ?_
                refine k_c1 24 rfl rfl (if_neg (by decide)) ?_
                refine k_aload 25 rfl rfl rfl ?_
                refine k_in (d := 0) rfl (Nat.ble_eq_true_of_le (by omega)) rfl rfl I1606.rc ?_
                refine k_aload 1 rfl rfl rfl ?_
                refine r_gI I1606 4 rfl rfl rfl (fun x2146 (e2147 : x2146.toInt = (1 : Int32).toInt) => ?_)
                by_cases b2148 : x2146 = 0
                · refine k_c1 7 rfl rfl (if_pos b2148) ?_
                  have b2148 := iv_eq0.mp b2148
                  refine k_push 8 rfl rfl ?_
                  refine k_goto 12 rfl rfl ?_
                  refine k_fin rfl (fin_Z (Or.inr rfl)) ⟨_, _, rfl, rf_len I1606 I1606, ?_⟩
                  show am_Ok _ _ _ (28, _, [.inl (1 : Int32)], _, 0, 0) _
                  refine k_fin rfl (fin_Z (Or.inr rfl)) ⟨_, _, rfl, rf_len I1606 I1606, ?_⟩
                  show am_Ok _ _ _ (55, _, [.inl (1 : Int32)], _, 0, 0) _
                  refine k_c1 59 rfl rfl (if_neg (by decide)) ?_
                  refine k_aload 60 rfl g0 rfl ?_
                  refine r_gA I1606 63 rfl rfl rfl ?_
                  refine k_aload 64 rfl g0 rfl ?_
                  refine r_gI I1606 67 rfl rfl rfl (fun x2149 (e2150 : x2149.toInt = F 20) => ?_)
                  refine k_aload 68 rfl g0 rfl ?_
                  refine r_gJ I1606 71 rfl rfl rfl (fun y2151 => ?_)
                  refine r_lst 19 I1606 72 rfl rfl (by omega) (show x2149.toInt < 31 by omega) rfl (fun h2152 I2153 => ?_)
                  refine k_aload 73 rfl g0 rfl ?_
                  refine k_dup 74 rfl rfl rfl ?_
                  refine r_gI I2153 77 rfl rfl rfl (fun x2154 (e2155 : x2154.toInt = F 20) => ?_)
                  refine k_push 78 rfl rfl ?_
                  obtain ⟨x2156, q2157⟩ : ∃ q : Int32, q = (x2154 + (1 : Int32)) := ⟨_, rfl⟩
                  have e2158 : x2156.toInt = x2154.toInt + 1 := by rw [q2157, iv_add (by omega) (by omega)]; omega
                  refine k_bin x2156 79 rfl q2157.symm rfl ?_
                  refine r_pI I2153 82 rfl rfl rfl (fun h2159 I2160 => ?_)
                  obtain ⟨x2161, q2162⟩ : ∃ q : Int32, q = v1 + (1 : Int32) := ⟨_, rfl⟩
                  have e2163 : x2161.toInt = v1.toInt + 1 := by rw [q2162, iv_add (by omega) (by omega)]; omega
                  refine k_iinc x2161 85 rfl g1 q2162.symm rfl ?_
                  refine k_aload 86 rfl (gs_ne rfl rfl g0) rfl ?_
                  refine k_push 87 rfl rfl ?_
                  refine k_rv I2160 rfl (m_emits  I2160.1 (show 0 ≤ (F 23) ∧ (F 23) ≤ 1000000 by omega)) (Nat.ble_eq_true_of_le (by omega)) rfl rfl I2160.rc ?_
                  rintro h2165 F2166 A2167 I2168 ⟨k2170, k2171, p2169⟩
                  replace p2169 : ((F 23) ≤ F2166 23 ∧ F2166 23 ≤ 1000000) ∧ (F2166 23 ≤ 124 → F2166 23 = (F 23) + 1) ∧ (F2166 23 ≤ 124 → A2167 22 ((F 23)) = (1 : Int32).toInt ∧ ∀ q : Int, q ≠ (F 23) → A2167 22 q = (A 22) q) := p2169
                  obtain ⟨p2169a, p2169b, p2169c⟩ := p2169
                  show am_Ok _ _ _ (90, _, [], _, 0, 0) _
                  have hfu : F2166 23 ≤ 124 → fu (A2167 22) (A0 22) (F0 23) (F2166 23) (v1.toInt + 1) := fun z9 => fu_s (i2 (by omega)) (p2169b z9) ((p2169c z9).1.trans (by decide)) (p2169c z9).2 (by omega) rfl
                  refine k_aload 91 rfl (gs_ne rfl rfl g0) rfl ?_
                  have e2172 : F2166 8 = F 8 := k2170 8 (by decide)
                  have e2173 : F2166 7 = F 7 := k2170 7 (by decide)
                  have e2174 : F 7 = F0 7 := hF 7 (by decide)
                  refine k_rv I2168 rfl (m_goes  I2168.1 (show 0 ≤ (F2166 8) ∧ (F2166 8) ≤ (F2166 7) ∧ (F2166 7) ≤ 700 by omega)) (Nat.ble_eq_true_of_le (by omega)) rfl rfl I2168.rc ?_
                  rintro h2176 F2177 A2178 I2179 ⟨k2181, k2182, p2180⟩
                  replace p2180 : ((F2166 8) ≤ F2177 8 ∧ F2177 8 ≤ (F2166 7)) ∧ (F2177 9 = 0 ∨ (F2166 8) < F2177 8) ∧ (F2177 9 = 2 → 0 ≤ F2177 11 ∧ F2177 11 ≤ 9) ∧ (0 ≤ F2177 9 ∧ F2177 9 ≤ 4) := p2180
                  obtain ⟨p2180a, p2180b, p2180c, p2180d⟩ := p2180
                  have k2182 := fr2.nil k2182
                  subst k2182
                  show am_Ok _ _ _ (94, _, [], _, 0, 0) _
                  refine k_aload 95 rfl (gs_ne rfl rfl g0) rfl ?_
                  refine k_in (d := 0) rfl (Nat.ble_eq_true_of_le (by omega)) rfl rfl I2179.rc ?_
                  refine k_aload 1 rfl rfl rfl ?_
                  refine r_gI I2179 4 rfl rfl rfl (fun x2183 (e2184 : x2183.toInt = F2177 6) => ?_)
                  have e2185 : F2177 6 = F2166 6 := k2181 6 (by decide)
                  have e2186 : F2166 6 = (1 : Int32).toInt := k2170 6 (by decide)
                  by_cases b2187 : x2183 = 0
                  · refine k_c1 7 rfl rfl (if_pos b2187) ?_
                    have b2187 := iv_eq0.mp b2187
                    refine k_push 8 rfl rfl ?_
                    refine k_goto 12 rfl rfl ?_
                    refine k_fin rfl (fin_Z (Or.inr rfl)) ⟨_, _, rfl, rf_len I2179 I2179, ?_⟩
                    show am_Ok _ _ _ (98, _, [.inl (1 : Int32)], _, 0, 0) _
                    refine k_c1 101 rfl rfl (if_neg (by decide)) ?_
                    refine k_aload 102 rfl (gs_ne rfl rfl g0) rfl ?_
                    refine r_gI I2179 105 rfl rfl rfl (fun x2188 (e2189 : x2188.toInt = F2177 9) => ?_)
                    refine k_push 106 rfl rfl ?_
                    by_cases b2190 : x2188 = (1 : Int32)
                    · refine k_c2 6 rfl rfl (if_pos b2190) ?_
                      have b2190 := iv_eq.mp b2190
                      have e2191 : F2177 20 = F2166 20 := k2181 20 (by decide)
                      have e2192 : F2166 20 = x2156.toInt := k2170 20 (by decide)
                      have e2193 : F2177 21 = F2166 21 := k2181 21 (by decide)
                      have e2194 : F2166 21 = F 21 := k2170 21 (by decide)
                      have e2195 : F2177 23 = F2166 23 := k2181 23 (by decide)
                      exact ih _ (show ((31 - x2161.toInt).toNat) < n by omega)  rfl (gs_ne rfl rfl g0) gs_eq I2179 (fr1.tr (by decide) (fr1.tr (by decide) (fr1.up (by decide) (fr1.up (by decide) (fr1.up (by decide) hF))) k2170) k2181) (fr2.tr (by decide) hA k2171) (show F0 8 ≤ (F2177 8) ∧ (F2177 8) ≤ F0 7 ∧ (F2177 20) = F0 20 + x2161.toInt ∧ 0 ≤ x2161.toInt ∧ (F2177 20) ≤ 30 ∧ (F2177 21) = F0 21 ∧ F0 23 ≤ (F2177 23) ∧ (F2177 23) ≤ 1000000 ∧ ((F2177 9) = 2 → 0 ≤ (F2177 11) ∧ (F2177 11) ≤ 9) ∧ 0 ≤ (F2177 9) ∧ (F2177 9) ≤ 4 ∧ (F2177 6) = 0 by omega) (fun z => by have z9 : F2177 23 ≤ 124 := z; show fu (A2167 22) (A0 22) (F0 23) (F2177 23) x2161.toInt; exact fu_cg (hfu (by omega)) (by omega) (by omega))
                    · refine k_c2 109 rfl rfl (if_neg b2190) ?_
                      have b2190 := mt iv_eq.mpr b2190
                      refine k_aload 110 rfl (gs_ne rfl rfl g0) rfl ?_
                      refine k_push 112 rfl rfl ?_
                      have hc2196 : (46 : Int32).toInt = 46 := by decide
                      have e2197 : F2177 7 = F2166 7 := k2181 7 (by decide)
                      refine k_rv I2179 rfl (m_must  I2179.1 (show 0 ≤ (F2177 8) ∧ (F2177 8) ≤ (F2177 7) ∧ (F2177 7) ≤ 700 ∧ ((F2177 9) = 2 → 0 ≤ (F2177 11) ∧ (F2177 11) ≤ 9) ∧ 0 ≤ (F2177 9) ∧ (F2177 9) ≤ 4 by omega)) (Nat.ble_eq_true_of_le (by omega)) rfl rfl I2179.rc ?_
                      rintro h2199 F2200 A2201 I2202 ⟨k2204, k2205, p2203⟩
                      replace p2203 : ((F2177 8) ≤ F2200 8 ∧ F2200 8 ≤ (F2177 7)) ∧ (F2200 6 = 0 → (F2177 6) = 0 ∧ (F2200 9 = 0 ∨ (F2177 8) < F2200 8)) ∧ (F2200 9 = 2 → 0 ≤ F2200 11 ∧ F2200 11 ≤ 9) ∧ (0 ≤ F2200 9 ∧ F2200 9 ≤ 4) := p2203
                      obtain ⟨p2203a, p2203b, p2203c, p2203d⟩ := p2203
                      have k2205 := fr2.nil k2205
                      subst k2205
                      show am_Ok _ _ _ (115, _, [], _, 0, 0) _
                      refine k_aload 116 rfl (gs_ne rfl rfl g0) rfl ?_
                      have e2206 : F2200 7 = F2177 7 := k2204 7 (by decide)
                      have e2207 : F2200 20 = F2177 20 := k2204 20 (by decide)
                      have e2208 : F2177 20 = F2166 20 := k2181 20 (by decide)
                      have e2209 : F2166 20 = x2156.toInt := k2170 20 (by decide)
                      have e2210 : F2200 21 = F2177 21 := k2204 21 (by decide)
                      have e2211 : F2177 21 = F2166 21 := k2181 21 (by decide)
                      have e2212 : F2166 21 = F 21 := k2170 21 (by decide)
                      have e2213 : F2200 18 = F2177 18 := k2204 18 (by decide)
                      have e2214 : F2177 18 = F2166 18 := k2181 18 (by decide)
                      have e2215 : F2166 18 = F 18 := k2170 18 (by decide)
                      have e2216 : F 18 = F0 18 := hF 18 (by decide)
                      have e2217 : F2200 23 = F2177 23 := k2204 23 (by decide)
                      have e2218 : F2177 23 = F2166 23 := k2181 23 (by decide)
                      refine k_rv I2202 rfl (hrec  I2202.1 (show 0 ≤ (F2200 8) ∧ (F2200 8) ≤ (F2200 7) ∧ (F2200 7) ≤ 700 ∧ 0 ≤ (F2200 20) ∧ (F2200 20) ≤ 30 ∧ 0 ≤ (F2200 21) ∧ (F2200 21) ≤ 12 ∧ 0 ≤ (F2200 18) ∧ (F2200 18) ≤ 12 ∧ 0 ≤ (F2200 23) ∧ (F2200 23) ≤ 1000000 ∧ ((F2200 9) = 2 → 0 ≤ (F2200 11) ∧ (F2200 11) ≤ 9) ∧ 0 ≤ (F2200 9) ∧ (F2200 9) ≤ 4 by omega) (show nm ((A2167 16)) ((A2167 17)) ((F2200 18)) by rw [((k2171 16 (by decide)).trans (hA 16 (by decide))), ((k2171 17 (by decide)).trans (hA 17 (by decide))), ((k2204 18 (by decide)).trans ((k2181 18 (by decide)).trans ((k2170 18 (by decide)).trans (hF 18 (by decide)))))]; exact p2) (show (12 - (F2200 21)) + (30 - (F2200 20)) < (gk : Int) by omega)) (Nat.ble_eq_true_of_le (by omega)) rfl rfl I2202.rc ?_
                      rintro h2220 F2221 A2222 I2223 ⟨k2225, k2226, p2224⟩
                      replace p2224 : ((F2200 8) ≤ F2221 8 ∧ F2221 8 ≤ (F2200 7) ∧ (F2200 20) ≤ F2221 20 ∧ F2221 20 ≤ 30 ∧ F2221 21 = (F2200 21) ∧ (F2200 23) ≤ F2221 23 ∧ F2221 23 ≤ 1000000 ∧ (F2221 9 = 2 → 0 ≤ F2221 11 ∧ F2221 11 ≤ 9) ∧ 0 ≤ F2221 9 ∧ F2221 9 ≤ 4) ∧ (F2221 6 = 0 → F2221 20 = (F2200 20) ∧ (F2200 6) = 0 ∧ (F2221 9 = 0 ∨ (F2200 8) < F2221 8)) ∧ (F2221 6 = 0 → F2221 23 ≤ 124 → rd1 (A2222 22) ((A2167 22)) ((F2200 23)) (F2221 23) ((F2200 20))) := p2224
                      obtain ⟨p2224a, p2224b, p2224c⟩ := p2224
                      show am_Ok _ _ _ (119, _, [], _, 0, 0) _
                      refine k_aload 120 rfl (gs_ne rfl rfl g0) rfl ?_
                      refine k_dup 121 rfl rfl rfl ?_
                      refine r_gI I2223 124 rfl rfl rfl (fun x2227 (e2228 : x2227.toInt = F2221 20) => ?_)
                      refine k_iload 125 rfl gs_eq rfl ?_
                      obtain ⟨x2229, q2230⟩ : ∃ q : Int32, q = (x2227 - x2161) := ⟨_, rfl⟩
                      have e2231 : x2229.toInt = x2227.toInt - x2161.toInt := by rw [q2230, iv_sub (by omega) (by omega)]
                      refine k_bin x2229 126 rfl q2230.symm rfl ?_
                      refine r_pI I2223 129 rfl rfl rfl (fun h2232 I2233 => ?_)
                      exact k_fin rfl rfl ⟨_, _, _, rfl, I2233, (fr1.up (by decide) (fr1.tr (by decide) (fr1.tr (by decide) (fr1.tr (by decide) (fr1.tr (by decide) (fr1.up (by decide) (fr1.up (by decide) (fr1.up (by decide) hF))) k2170) k2181) k2204) k2225)), (fr2.tr (by decide) (fr2.tr (by decide) hA k2171) k2226), ⟨(show (F0 8 ≤ F2221 8 ∧ F2221 8 ≤ F0 7 ∧ F0 20 ≤ x2229.toInt ∧ x2229.toInt ≤ 30 ∧ F2221 21 = F0 21 ∧ F0 23 ≤ F2221 23 ∧ F2221 23 ≤ 1000000 ∧ (F2221 9 = 2 → 0 ≤ F2221 11 ∧ F2221 11 ≤ 9) ∧ 0 ≤ F2221 9 ∧ F2221 9 ≤ 4) by omega), (show (F2221 6 = 0 → x2229.toInt = F0 20 ∧ F0 6 = 0 ∧ (F2221 9 = 0 ∨ F0 8 < F2221 8)) by omega), fun z1 z2 => by have z8 : F2221 6 = 0 := z1; have z9 : F2221 23 ≤ 124 := z2; have h9 := p2224c (by omega) (by omega); show rd1 (A2222 22) (A0 22) (F0 23) (F2221 23) (F0 20); exact fu_end (hfu (by omega)) (by omega) (rd_cg h9 (by omega) (by omega) rfl) (by omega)⟩⟩
                  · refine k_c1 11 rfl rfl (if_neg b2187) ?_
                    have b2187 := mt iv_eq0.mpr b2187
                    refine k_push 12 rfl rfl ?_
                    refine k_fin rfl (fin_Z (Or.inl rfl)) ⟨_, _, rfl, rf_len I2179 I2179, ?_⟩
                    show am_Ok _ _ _ (98, _, [.inl (0 : Int32)], _, 0, 0) _
                    refine k_c1 109 rfl rfl (if_pos (by decide)) ?_
                    refine k_aload 110 rfl (gs_ne rfl rfl g0) rfl ?_
                    refine k_push 112 rfl rfl ?_
                    have hc2234 : (46 : Int32).toInt = 46 := by decide
                    have e2235 : F2177 7 = F2166 7 := k2181 7 (by decide)
                    refine k_rv I2179 rfl (m_must  I2179.1 (show 0 ≤ (F2177 8) ∧ (F2177 8) ≤ (F2177 7) ∧ (F2177 7) ≤ 700 ∧ ((F2177 9) = 2 → 0 ≤ (F2177 11) ∧ (F2177 11) ≤ 9) ∧ 0 ≤ (F2177 9) ∧ (F2177 9) ≤ 4 by omega)) (Nat.ble_eq_true_of_le (by omega)) rfl rfl I2179.rc ?_
                    rintro h2237 F2238 A2239 I2240 ⟨k2242, k2243, p2241⟩
                    replace p2241 : ((F2177 8) ≤ F2238 8 ∧ F2238 8 ≤ (F2177 7)) ∧ (F2238 6 = 0 → (F2177 6) = 0 ∧ (F2238 9 = 0 ∨ (F2177 8) < F2238 8)) ∧ (F2238 9 = 2 → 0 ≤ F2238 11 ∧ F2238 11 ≤ 9) ∧ (0 ≤ F2238 9 ∧ F2238 9 ≤ 4) := p2241
                    obtain ⟨p2241a, p2241b, p2241c, p2241d⟩ := p2241
                    have k2243 := fr2.nil k2243
                    subst k2243
                    show am_Ok _ _ _ (115, _, [], _, 0, 0) _
                    refine k_aload 116 rfl (gs_ne rfl rfl g0) rfl ?_
                    have e2244 : F2238 7 = F2177 7 := k2242 7 (by decide)
                    have e2245 : F2238 20 = F2177 20 := k2242 20 (by decide)
                    have e2246 : F2177 20 = F2166 20 := k2181 20 (by decide)
                    have e2247 : F2166 20 = x2156.toInt := k2170 20 (by decide)
                    have e2248 : F2238 21 = F2177 21 := k2242 21 (by decide)
                    have e2249 : F2177 21 = F2166 21 := k2181 21 (by decide)
                    have e2250 : F2166 21 = F 21 := k2170 21 (by decide)
                    have e2251 : F2238 18 = F2177 18 := k2242 18 (by decide)
                    have e2252 : F2177 18 = F2166 18 := k2181 18 (by decide)
                    have e2253 : F2166 18 = F 18 := k2170 18 (by decide)
                    have e2254 : F 18 = F0 18 := hF 18 (by decide)
                    have e2255 : F2238 23 = F2177 23 := k2242 23 (by decide)
                    have e2256 : F2177 23 = F2166 23 := k2181 23 (by decide)
                    refine k_rv I2240 rfl (hrec  I2240.1 (show 0 ≤ (F2238 8) ∧ (F2238 8) ≤ (F2238 7) ∧ (F2238 7) ≤ 700 ∧ 0 ≤ (F2238 20) ∧ (F2238 20) ≤ 30 ∧ 0 ≤ (F2238 21) ∧ (F2238 21) ≤ 12 ∧ 0 ≤ (F2238 18) ∧ (F2238 18) ≤ 12 ∧ 0 ≤ (F2238 23) ∧ (F2238 23) ≤ 1000000 ∧ ((F2238 9) = 2 → 0 ≤ (F2238 11) ∧ (F2238 11) ≤ 9) ∧ 0 ≤ (F2238 9) ∧ (F2238 9) ≤ 4 by omega) (show nm ((A2167 16)) ((A2167 17)) ((F2238 18)) by rw [((k2171 16 (by decide)).trans (hA 16 (by decide))), ((k2171 17 (by decide)).trans (hA 17 (by decide))), ((k2242 18 (by decide)).trans ((k2181 18 (by decide)).trans ((k2170 18 (by decide)).trans (hF 18 (by decide)))))]; exact p2) (show (12 - (F2238 21)) + (30 - (F2238 20)) < (gk : Int) by omega)) (Nat.ble_eq_true_of_le (by omega)) rfl rfl I2240.rc ?_
                    rintro h2258 F2259 A2260 I2261 ⟨k2263, k2264, p2262⟩
                    replace p2262 : ((F2238 8) ≤ F2259 8 ∧ F2259 8 ≤ (F2238 7) ∧ (F2238 20) ≤ F2259 20 ∧ F2259 20 ≤ 30 ∧ F2259 21 = (F2238 21) ∧ (F2238 23) ≤ F2259 23 ∧ F2259 23 ≤ 1000000 ∧ (F2259 9 = 2 → 0 ≤ F2259 11 ∧ F2259 11 ≤ 9) ∧ 0 ≤ F2259 9 ∧ F2259 9 ≤ 4) ∧ (F2259 6 = 0 → F2259 20 = (F2238 20) ∧ (F2238 6) = 0 ∧ (F2259 9 = 0 ∨ (F2238 8) < F2259 8)) ∧ (F2259 6 = 0 → F2259 23 ≤ 124 → rd1 (A2260 22) ((A2167 22)) ((F2238 23)) (F2259 23) ((F2238 20))) := p2262
                    obtain ⟨p2262a, p2262b, p2262c⟩ := p2262
                    show am_Ok _ _ _ (119, _, [], _, 0, 0) _
                    refine k_aload 120 rfl (gs_ne rfl rfl g0) rfl ?_
                    refine k_dup 121 rfl rfl rfl ?_
                    refine r_gI I2261 124 rfl rfl rfl (fun x2265 (e2266 : x2265.toInt = F2259 20) => ?_)
                    refine k_iload 125 rfl gs_eq rfl ?_
                    obtain ⟨x2267, q2268⟩ : ∃ q : Int32, q = (x2265 - x2161) := ⟨_, rfl⟩
                    have e2269 : x2267.toInt = x2265.toInt - x2161.toInt := by rw [q2268, iv_sub (by omega) (by omega)]
                    refine k_bin x2267 126 rfl q2268.symm rfl ?_
                    refine r_pI I2261 129 rfl rfl rfl (fun h2270 I2271 => ?_)
                    exact k_fin rfl rfl ⟨_, _, _, rfl, I2271, (fr1.up (by decide) (fr1.tr (by decide) (fr1.tr (by decide) (fr1.tr (by decide) (fr1.tr (by decide) (fr1.up (by decide) (fr1.up (by decide) (fr1.up (by decide) hF))) k2170) k2181) k2242) k2263)), (fr2.tr (by decide) (fr2.tr (by decide) hA k2171) k2264), ⟨(show (F0 8 ≤ F2259 8 ∧ F2259 8 ≤ F0 7 ∧ F0 20 ≤ x2267.toInt ∧ x2267.toInt ≤ 30 ∧ F2259 21 = F0 21 ∧ F0 23 ≤ F2259 23 ∧ F2259 23 ≤ 1000000 ∧ (F2259 9 = 2 → 0 ≤ F2259 11 ∧ F2259 11 ≤ 9) ∧ 0 ≤ F2259 9 ∧ F2259 9 ≤ 4) by omega), (show (F2259 6 = 0 → x2267.toInt = F0 20 ∧ F0 6 = 0 ∧ (F2259 9 = 0 ∨ F0 8 < F2259 8)) by omega), fun z1 z2 => by have z8 : F2259 6 = 0 := z1; have z9 : F2259 23 ≤ 124 := z2; have h9 := p2262c (by omega) (by omega); show rd1 (A2260 22) (A0 22) (F0 23) (F2259 23) (F0 20); exact fu_end (hfu (by omega)) (by omega) (rd_cg h9 (by omega) (by omega) rfl) (by omega)⟩⟩
                · refine k_c1 11 rfl rfl (if_neg b2148) ?_
                  have b2148 := mt iv_eq0.mpr b2148
                  refine k_push 12 rfl rfl ?_
                  refine k_fin rfl (fin_Z (Or.inl rfl)) ⟨_, _, rfl, rf_len I1606 I1606, ?_⟩
                  show am_Ok _ _ _ (28, _, [.inl (0 : Int32)], _, 0, 0) _
                  refine k_fin rfl (fin_Z (Or.inl rfl)) ⟨_, _, rfl, rf_len I1606 I1606, ?_⟩
                  show am_Ok _ _ _ (55, _, [.inl (0 : Int32)], _, 0, 0) _
                  refine k_c1 58 rfl rfl (if_pos (by decide)) ?_
                  exact k_fin rfl rfl ⟨_, _, _, rfl, I1606, (fr1.up (by decide) (fr1.up (by decide) hF)), hA, ⟨(show (F0 8 ≤ F 8 ∧ F 8 ≤ F0 7 ∧ F0 20 ≤ F 20 ∧ F 20 ≤ 30 ∧ F 21 = F0 21 ∧ F0 23 ≤ F 23 ∧ F 23 ≤ 1000000 ∧ (F 9 = 2 → 0 ≤ F 11 ∧ F 11 ≤ 9) ∧ 0 ≤ F 9 ∧ F 9 ≤ 4) by omega), (show ((1 : Int32).toInt = 0 → F 20 = F0 20 ∧ F0 6 = 0 ∧ (F 9 = 0 ∨ F0 8 < F 8)) by omega), fun z => absurd (show (1 : Int32).toInt = 0 from z) (by omega)⟩⟩
              · refine k_c1 11 rfl rfl (if_neg b2145) ?_
                have b2145 := mt iv_eq0.mpr b2145
                refine k_push 12 rfl rfl ?_
                refine k_fin rfl (fin_Z (Or.inl rfl)) ⟨_, _, rfl, rf_len I1606 I1606, ?_⟩
                show am_Ok _ _ _ (4, _, [.inl (0 : Int32)], _, 0, 0) _
                refine k_c1 24 rfl rfl (if_pos (by decide)) ?_
                refine k_aload 25 rfl rfl rfl ?_
                refine k_in (d := 0) rfl (Nat.ble_eq_true_of_le (by omega)) rfl rfl I1606.rc ?_
                refine k_aload 1 rfl rfl rfl ?_
                refine r_gI I1606 4 rfl rfl rfl (fun x2272 (e2273 : x2272.toInt = (1 : Int32).toInt) => ?_)
                by_cases b2274 : x2272 = 0
                · refine k_c1 7 rfl rfl (if_pos b2274) ?_
                  have b2274 := iv_eq0.mp b2274
                  refine k_push 8 rfl rfl ?_
                  refine k_goto 12 rfl rfl ?_
                  refine k_fin rfl (fin_Z (Or.inr rfl)) ⟨_, _, rfl, rf_len I1606 I1606, ?_⟩
                  show am_Ok _ _ _ (28, _, [.inl (1 : Int32)], _, 0, 0) _
                  refine k_fin rfl (fin_Z (Or.inr rfl)) ⟨_, _, rfl, rf_len I1606 I1606, ?_⟩
                  show am_Ok _ _ _ (55, _, [.inl (1 : Int32)], _, 0, 0) _
                  refine k_c1 59 rfl rfl (if_neg (by decide)) ?_
                  refine k_aload 60 rfl g0 rfl ?_
                  refine r_gA I1606 63 rfl rfl rfl ?_
                  refine k_aload 64 rfl g0 rfl ?_
                  refine r_gI I1606 67 rfl rfl rfl (fun x2275 (e2276 : x2275.toInt = F 20) => ?_)
                  refine k_aload 68 rfl g0 rfl ?_
                  refine r_gJ I1606 71 rfl rfl rfl (fun y2277 => ?_)
                  refine r_lst 19 I1606 72 rfl rfl (by omega) (show x2275.toInt < 31 by omega) rfl (fun h2278 I2279 => ?_)
                  refine k_aload 73 rfl g0 rfl ?_
                  refine k_dup 74 rfl rfl rfl ?_
                  refine r_gI I2279 77 rfl rfl rfl (fun x2280 (e2281 : x2280.toInt = F 20) => ?_)
                  refine k_push 78 rfl rfl ?_
                  obtain ⟨x2282, q2283⟩ : ∃ q : Int32, q = (x2280 + (1 : Int32)) := ⟨_, rfl⟩
                  have e2284 : x2282.toInt = x2280.toInt + 1 := by rw [q2283, iv_add (by omega) (by omega)]; omega
                  refine k_bin x2282 79 rfl q2283.symm rfl ?_
                  refine r_pI I2279 82 rfl rfl rfl (fun h2285 I2286 => ?_)
                  obtain ⟨x2287, q2288⟩ : ∃ q : Int32, q = v1 + (1 : Int32) := ⟨_, rfl⟩
                  have e2289 : x2287.toInt = v1.toInt + 1 := by rw [q2288, iv_add (by omega) (by omega)]; omega
                  refine k_iinc x2287 85 rfl g1 q2288.symm rfl ?_
                  refine k_aload 86 rfl (gs_ne rfl rfl g0) rfl ?_
                  refine k_push 87 rfl rfl ?_
                  refine k_rv I2286 rfl (m_emits  I2286.1 (show 0 ≤ (F 23) ∧ (F 23) ≤ 1000000 by omega)) (Nat.ble_eq_true_of_le (by omega)) rfl rfl I2286.rc ?_
                  rintro h2291 F2292 A2293 I2294 ⟨k2296, k2297, p2295⟩
                  replace p2295 : ((F 23) ≤ F2292 23 ∧ F2292 23 ≤ 1000000) ∧ (F2292 23 ≤ 124 → F2292 23 = (F 23) + 1) ∧ (F2292 23 ≤ 124 → A2293 22 ((F 23)) = (1 : Int32).toInt ∧ ∀ q : Int, q ≠ (F 23) → A2293 22 q = (A 22) q) := p2295
                  obtain ⟨p2295a, p2295b, p2295c⟩ := p2295
                  show am_Ok _ _ _ (90, _, [], _, 0, 0) _
                  have hfu : F2292 23 ≤ 124 → fu (A2293 22) (A0 22) (F0 23) (F2292 23) (v1.toInt + 1) := fun z9 => fu_s (i2 (by omega)) (p2295b z9) ((p2295c z9).1.trans (by decide)) (p2295c z9).2 (by omega) rfl
                  refine k_aload 91 rfl (gs_ne rfl rfl g0) rfl ?_
                  have e2298 : F2292 8 = F 8 := k2296 8 (by decide)
                  have e2299 : F2292 7 = F 7 := k2296 7 (by decide)
                  have e2300 : F 7 = F0 7 := hF 7 (by decide)
                  refine k_rv I2294 rfl (m_goes  I2294.1 (show 0 ≤ (F2292 8) ∧ (F2292 8) ≤ (F2292 7) ∧ (F2292 7) ≤ 700 by omega)) (Nat.ble_eq_true_of_le (by omega)) rfl rfl I2294.rc ?_
                  rintro h2302 F2303 A2304 I2305 ⟨k2307, k2308, p2306⟩
                  replace p2306 : ((F2292 8) ≤ F2303 8 ∧ F2303 8 ≤ (F2292 7)) ∧ (F2303 9 = 0 ∨ (F2292 8) < F2303 8) ∧ (F2303 9 = 2 → 0 ≤ F2303 11 ∧ F2303 11 ≤ 9) ∧ (0 ≤ F2303 9 ∧ F2303 9 ≤ 4) := p2306
                  obtain ⟨p2306a, p2306b, p2306c, p2306d⟩ := p2306
                  have k2308 := fr2.nil k2308
                  subst k2308
                  show am_Ok _ _ _ (94, _, [], _, 0, 0) _
                  refine k_aload 95 rfl (gs_ne rfl rfl g0) rfl ?_
                  refine k_in (d := 0) rfl (Nat.ble_eq_true_of_le (by omega)) rfl rfl I2305.rc ?_
                  refine k_aload 1 rfl rfl rfl ?_
                  refine r_gI I2305 4 rfl rfl rfl (fun x2309 (e2310 : x2309.toInt = F2303 6) => ?_)
                  have e2311 : F2303 6 = F2292 6 := k2307 6 (by decide)
                  have e2312 : F2292 6 = (1 : Int32).toInt := k2296 6 (by decide)
                  by_cases b2313 : x2309 = 0
                  · refine k_c1 7 rfl rfl (if_pos b2313) ?_
                    have b2313 := iv_eq0.mp b2313
                    refine k_push 8 rfl rfl ?_
                    refine k_goto 12 rfl rfl ?_
                    refine k_fin rfl (fin_Z (Or.inr rfl)) ⟨_, _, rfl, rf_len I2305 I2305, ?_⟩
                    show am_Ok _ _ _ (98, _, [.inl (1 : Int32)], _, 0, 0) _
                    refine k_c1 101 rfl rfl (if_neg (by decide)) ?_
                    refine k_aload 102 rfl (gs_ne rfl rfl g0) rfl ?_
                    refine r_gI I2305 105 rfl rfl rfl (fun x2314 (e2315 : x2314.toInt = F2303 9) => ?_)
                    refine k_push 106 rfl rfl ?_
                    by_cases b2316 : x2314 = (1 : Int32)
                    · refine k_c2 6 rfl rfl (if_pos b2316) ?_
                      have b2316 := iv_eq.mp b2316
                      have e2317 : F2303 20 = F2292 20 := k2307 20 (by decide)
                      have e2318 : F2292 20 = x2282.toInt := k2296 20 (by decide)
                      have e2319 : F2303 21 = F2292 21 := k2307 21 (by decide)
                      have e2320 : F2292 21 = F 21 := k2296 21 (by decide)
                      have e2321 : F2303 23 = F2292 23 := k2307 23 (by decide)
                      exact ih _ (show ((31 - x2287.toInt).toNat) < n by omega)  rfl (gs_ne rfl rfl g0) gs_eq I2305 (fr1.tr (by decide) (fr1.tr (by decide) (fr1.up (by decide) (fr1.up (by decide) (fr1.up (by decide) hF))) k2296) k2307) (fr2.tr (by decide) hA k2297) (show F0 8 ≤ (F2303 8) ∧ (F2303 8) ≤ F0 7 ∧ (F2303 20) = F0 20 + x2287.toInt ∧ 0 ≤ x2287.toInt ∧ (F2303 20) ≤ 30 ∧ (F2303 21) = F0 21 ∧ F0 23 ≤ (F2303 23) ∧ (F2303 23) ≤ 1000000 ∧ ((F2303 9) = 2 → 0 ≤ (F2303 11) ∧ (F2303 11) ≤ 9) ∧ 0 ≤ (F2303 9) ∧ (F2303 9) ≤ 4 ∧ (F2303 6) = 0 by omega) (fun z => by have z9 : F2303 23 ≤ 124 := z; show fu (A2293 22) (A0 22) (F0 23) (F2303 23) x2287.toInt; exact fu_cg (hfu (by omega)) (by omega) (by omega))
                    · refine k_c2 109 rfl rfl (if_neg b2316) ?_
                      have b2316 := mt iv_eq.mpr b2316
                      refine k_aload 110 rfl (gs_ne rfl rfl g0) rfl ?_
                      refine k_push 112 rfl rfl ?_
                      have hc2322 : (46 : Int32).toInt = 46 := by decide
                      have e2323 : F2303 7 = F2292 7 := k2307 7 (by decide)
                      refine k_rv I2305 rfl (m_must  I2305.1 (show 0 ≤ (F2303 8) ∧ (F2303 8) ≤ (F2303 7) ∧ (F2303 7) ≤ 700 ∧ ((F2303 9) = 2 → 0 ≤ (F2303 11) ∧ (F2303 11) ≤ 9) ∧ 0 ≤ (F2303 9) ∧ (F2303 9) ≤ 4 by omega)) (Nat.ble_eq_true_of_le (by omega)) rfl rfl I2305.rc ?_
                      rintro h2325 F2326 A2327 I2328 ⟨k2330, k2331, p2329⟩
                      replace p2329 : ((F2303 8) ≤ F2326 8 ∧ F2326 8 ≤ (F2303 7)) ∧ (F2326 6 = 0 → (F2303 6) = 0 ∧ (F2326 9 = 0 ∨ (F2303 8) < F2326 8)) ∧ (F2326 9 = 2 → 0 ≤ F2326 11 ∧ F2326 11 ≤ 9) ∧ (0 ≤ F2326 9 ∧ F2326 9 ≤ 4) := p2329
                      obtain ⟨p2329a, p2329b, p2329c, p2329d⟩ := p2329
                      have k2331 := fr2.nil k2331
                      subst k2331
                      show am_Ok _ _ _ (115, _, [], _, 0, 0) _
                      refine k_aload 116 rfl (gs_ne rfl rfl g0) rfl ?_
                      have e2332 : F2326 7 = F2303 7 := k2330 7 (by decide)
                      have e2333 : F2326 20 = F2303 20 := k2330 20 (by decide)
                      have e2334 : F2303 20 = F2292 20 := k2307 20 (by decide)
                      have e2335 : F2292 20 = x2282.toInt := k2296 20 (by decide)
                      have e2336 : F2326 21 = F2303 21 := k2330 21 (by decide)
                      have e2337 : F2303 21 = F2292 21 := k2307 21 (by decide)
                      have e2338 : F2292 21 = F 21 := k2296 21 (by decide)
                      have e2339 : F2326 18 = F2303 18 := k2330 18 (by decide)
                      have e2340 : F2303 18 = F2292 18 := k2307 18 (by decide)
                      have e2341 : F2292 18 = F 18 := k2296 18 (by decide)
                      have e2342 : F 18 = F0 18 := hF 18 (by decide)
                      have e2343 : F2326 23 = F2303 23 := k2330 23 (by decide)
                      have e2344 : F2303 23 = F2292 23 := k2307 23 (by decide)
                      refine k_rv I2328 rfl (hrec  I2328.1 (show 0 ≤ (F2326 8) ∧ (F2326 8) ≤ (F2326 7) ∧ (F2326 7) ≤ 700 ∧ 0 ≤ (F2326 20) ∧ (F2326 20) ≤ 30 ∧ 0 ≤ (F2326 21) ∧ (F2326 21) ≤ 12 ∧ 0 ≤ (F2326 18) ∧ (F2326 18) ≤ 12 ∧ 0 ≤ (F2326 23) ∧ (F2326 23) ≤ 1000000 ∧ ((F2326 9) = 2 → 0 ≤ (F2326 11) ∧ (F2326 11) ≤ 9) ∧ 0 ≤ (F2326 9) ∧ (F2326 9) ≤ 4 by omega) (show nm ((A2293 16)) ((A2293 17)) ((F2326 18)) by rw [((k2297 16 (by decide)).trans (hA 16 (by decide))), ((k2297 17 (by decide)).trans (hA 17 (by decide))), ((k2330 18 (by decide)).trans ((k2307 18 (by decide)).trans ((k2296 18 (by decide)).trans (hF 18 (by decide)))))]; exact p2) (show (12 - (F2326 21)) + (30 - (F2326 20)) < (gk : Int) by omega)) (Nat.ble_eq_true_of_le (by omega)) rfl rfl I2328.rc ?_
                      rintro h2346 F2347 A2348 I2349 ⟨k2351, k2352, p2350⟩
                      replace p2350 : ((F2326 8) ≤ F2347 8 ∧ F2347 8 ≤ (F2326 7) ∧ (F2326 20) ≤ F2347 20 ∧ F2347 20 ≤ 30 ∧ F2347 21 = (F2326 21) ∧ (F2326 23) ≤ F2347 23 ∧ F2347 23 ≤ 1000000 ∧ (F2347 9 = 2 → 0 ≤ F2347 11 ∧ F2347 11 ≤ 9) ∧ 0 ≤ F2347 9 ∧ F2347 9 ≤ 4) ∧ (F2347 6 = 0 → F2347 20 = (F2326 20) ∧ (F2326 6) = 0 ∧ (F2347 9 = 0 ∨ (F2326 8) < F2347 8)) ∧ (F2347 6 = 0 → F2347 23 ≤ 124 → rd1 (A2348 22) ((A2293 22)) ((F2326 23)) (F2347 23) ((F2326 20))) := p2350
                      obtain ⟨p2350a, p2350b, p2350c⟩ := p2350
                      show am_Ok _ _ _ (119, _, [], _, 0, 0) _
                      refine k_aload 120 rfl (gs_ne rfl rfl g0) rfl ?_
                      refine k_dup 121 rfl rfl rfl ?_
                      refine r_gI I2349 124 rfl rfl rfl (fun x2353 (e2354 : x2353.toInt = F2347 20) => ?_)
                      refine k_iload 125 rfl gs_eq rfl ?_
                      obtain ⟨x2355, q2356⟩ : ∃ q : Int32, q = (x2353 - x2287) := ⟨_, rfl⟩
                      have e2357 : x2355.toInt = x2353.toInt - x2287.toInt := by rw [q2356, iv_sub (by omega) (by omega)]
                      refine k_bin x2355 126 rfl q2356.symm rfl ?_
                      refine r_pI I2349 129 rfl rfl rfl (fun h2358 I2359 => ?_)
                      exact k_fin rfl rfl ⟨_, _, _, rfl, I2359, (fr1.up (by decide) (fr1.tr (by decide) (fr1.tr (by decide) (fr1.tr (by decide) (fr1.tr (by decide) (fr1.up (by decide) (fr1.up (by decide) (fr1.up (by decide) hF))) k2296) k2307) k2330) k2351)), (fr2.tr (by decide) (fr2.tr (by decide) hA k2297) k2352), ⟨(show (F0 8 ≤ F2347 8 ∧ F2347 8 ≤ F0 7 ∧ F0 20 ≤ x2355.toInt ∧ x2355.toInt ≤ 30 ∧ F2347 21 = F0 21 ∧ F0 23 ≤ F2347 23 ∧ F2347 23 ≤ 1000000 ∧ (F2347 9 = 2 → 0 ≤ F2347 11 ∧ F2347 11 ≤ 9) ∧ 0 ≤ F2347 9 ∧ F2347 9 ≤ 4) by omega), (show (F2347 6 = 0 → x2355.toInt = F0 20 ∧ F0 6 = 0 ∧ (F2347 9 = 0 ∨ F0 8 < F2347 8)) by omega), fun z1 z2 => by have z8 : F2347 6 = 0 := z1; have z9 : F2347 23 ≤ 124 := z2; have h9 := p2350c (by omega) (by omega); show rd1 (A2348 22) (A0 22) (F0 23) (F2347 23) (F0 20); exact fu_end (hfu (by omega)) (by omega) (rd_cg h9 (by omega) (by omega) rfl) (by omega)⟩⟩
                  · refine k_c1 11 rfl rfl (if_neg b2313) ?_
                    have b2313 := mt iv_eq0.mpr b2313
                    refine k_push 12 rfl rfl ?_
                    refine k_fin rfl (fin_Z (Or.inl rfl)) ⟨_, _, rfl, rf_len I2305 I2305, ?_⟩
                    show am_Ok _ _ _ (98, _, [.inl (0 : Int32)], _, 0, 0) _
                    refine k_c1 109 rfl rfl (if_pos (by decide)) ?_
                    refine k_aload 110 rfl (gs_ne rfl rfl g0) rfl ?_
                    refine k_push 112 rfl rfl ?_
                    have hc2360 : (46 : Int32).toInt = 46 := by decide
                    have e2361 : F2303 7 = F2292 7 := k2307 7 (by decide)
                    refine k_rv I2305 rfl (m_must  I2305.1 (show 0 ≤ (F2303 8) ∧ (F2303 8) ≤ (F2303 7) ∧ (F2303 7) ≤ 700 ∧ ((F2303 9) = 2 → 0 ≤ (F2303 11) ∧ (F2303 11) ≤ 9) ∧ 0 ≤ (F2303 9) ∧ (F2303 9) ≤ 4 by omega)) (Nat.ble_eq_true_of_le (by omega)) rfl rfl I2305.rc ?_
                    rintro h2363 F2364 A2365 I2366 ⟨k2368, k2369, p2367⟩
                    replace p2367 : ((F2303 8) ≤ F2364 8 ∧ F2364 8 ≤ (F2303 7)) ∧ (F2364 6 = 0 → (F2303 6) = 0 ∧ (F2364 9 = 0 ∨ (F2303 8) < F2364 8)) ∧ (F2364 9 = 2 → 0 ≤ F2364 11 ∧ F2364 11 ≤ 9) ∧ (0 ≤ F2364 9 ∧ F2364 9 ≤ 4) := p2367
                    obtain ⟨p2367a, p2367b, p2367c, p2367d⟩ := p2367
                    have k2369 := fr2.nil k2369
                    subst k2369
                    show am_Ok _ _ _ (115, _, [], _, 0, 0) _
                    refine k_aload 116 rfl (gs_ne rfl rfl g0) rfl ?_
                    have e2370 : F2364 7 = F2303 7 := k2368 7 (by decide)
                    have e2371 : F2364 20 = F2303 20 := k2368 20 (by decide)
                    have e2372 : F2303 20 = F2292 20 := k2307 20 (by decide)
                    have e2373 : F2292 20 = x2282.toInt := k2296 20 (by decide)
                    have e2374 : F2364 21 = F2303 21 := k2368 21 (by decide)
                    have e2375 : F2303 21 = F2292 21 := k2307 21 (by decide)
                    have e2376 : F2292 21 = F 21 := k2296 21 (by decide)
                    have e2377 : F2364 18 = F2303 18 := k2368 18 (by decide)
                    have e2378 : F2303 18 = F2292 18 := k2307 18 (by decide)
                    have e2379 : F2292 18 = F 18 := k2296 18 (by decide)
                    have e2380 : F 18 = F0 18 := hF 18 (by decide)
                    have e2381 : F2364 23 = F2303 23 := k2368 23 (by decide)
                    have e2382 : F2303 23 = F2292 23 := k2307 23 (by decide)
                    refine k_rv I2366 rfl (hrec  I2366.1 (show 0 ≤ (F2364 8) ∧ (F2364 8) ≤ (F2364 7) ∧ (F2364 7) ≤ 700 ∧ 0 ≤ (F2364 20) ∧ (F2364 20) ≤ 30 ∧ 0 ≤ (F2364 21) ∧ (F2364 21) ≤ 12 ∧ 0 ≤ (F2364 18) ∧ (F2364 18) ≤ 12 ∧ 0 ≤ (F2364 23) ∧ (F2364 23) ≤ 1000000 ∧ ((F2364 9) = 2 → 0 ≤ (F2364 11) ∧ (F2364 11) ≤ 9) ∧ 0 ≤ (F2364 9) ∧ (F2364 9) ≤ 4 by omega) (show nm ((A2293 16)) ((A2293 17)) ((F2364 18)) by rw [((k2297 16 (by decide)).trans (hA 16 (by decide))), ((k2297 17 (by decide)).trans (hA 17 (by decide))), ((k2368 18 (by decide)).trans ((k2307 18 (by decide)).trans ((k2296 18 (by decide)).trans (hF 18 (by decide)))))]; exact p2) (show (12 - (F2364 21)) + (30 - (F2364 20)) < (gk : Int) by omega)) (Nat.ble_eq_true_of_le (by omega)) rfl rfl I2366.rc ?_
                    rintro h2384 F2385 A2386 I2387 ⟨k2389, k2390, p2388⟩
                    replace p2388 : ((F2364 8) ≤ F2385 8 ∧ F2385 8 ≤ (F2364 7) ∧ (F2364 20) ≤ F2385 20 ∧ F2385 20 ≤ 30 ∧ F2385 21 = (F2364 21) ∧ (F2364 23) ≤ F2385 23 ∧ F2385 23 ≤ 1000000 ∧ (F2385 9 = 2 → 0 ≤ F2385 11 ∧ F2385 11 ≤ 9) ∧ 0 ≤ F2385 9 ∧ F2385 9 ≤ 4) ∧ (F2385 6 = 0 → F2385 20 = (F2364 20) ∧ (F2364 6) = 0 ∧ (F2385 9 = 0 ∨ (F2364 8) < F2385 8)) ∧ (F2385 6 = 0 → F2385 23 ≤ 124 → rd1 (A2386 22) ((A2293 22)) ((F2364 23)) (F2385 23) ((F2364 20))) := p2388
                    obtain ⟨p2388a, p2388b, p2388c⟩ := p2388
                    show am_Ok _ _ _ (119, _, [], _, 0, 0) _
                    refine k_aload 120 rfl (gs_ne rfl rfl g0) rfl ?_
                    refine k_dup 121 rfl rfl rfl ?_
                    refine r_gI I2387 124 rfl rfl rfl (fun x2391 (e2392 : x2391.toInt = F2385 20) => ?_)
                    refine k_iload 125 rfl gs_eq rfl ?_
                    obtain ⟨x2393, q2394⟩ : ∃ q : Int32, q = (x2391 - x2287) := ⟨_, rfl⟩
                    have e2395 : x2393.toInt = x2391.toInt - x2287.toInt := by rw [q2394, iv_sub (by omega) (by omega)]
                    refine k_bin x2393 126 rfl q2394.symm rfl ?_
                    refine r_pI I2387 129 rfl rfl rfl (fun h2396 I2397 => ?_)
                    exact k_fin rfl rfl ⟨_, _, _, rfl, I2397, (fr1.up (by decide) (fr1.tr (by decide) (fr1.tr (by decide) (fr1.tr (by decide) (fr1.tr (by decide) (fr1.up (by decide) (fr1.up (by decide) (fr1.up (by decide) hF))) k2296) k2307) k2368) k2389)), (fr2.tr (by decide) (fr2.tr (by decide) hA k2297) k2390), ⟨(show (F0 8 ≤ F2385 8 ∧ F2385 8 ≤ F0 7 ∧ F0 20 ≤ x2393.toInt ∧ x2393.toInt ≤ 30 ∧ F2385 21 = F0 21 ∧ F0 23 ≤ F2385 23 ∧ F2385 23 ≤ 1000000 ∧ (F2385 9 = 2 → 0 ≤ F2385 11 ∧ F2385 11 ≤ 9) ∧ 0 ≤ F2385 9 ∧ F2385 9 ≤ 4) by omega), (show (F2385 6 = 0 → x2393.toInt = F0 20 ∧ F0 6 = 0 ∧ (F2385 9 = 0 ∨ F0 8 < F2385 8)) by omega), fun z1 z2 => by have z8 : F2385 6 = 0 := z1; have z9 : F2385 23 ≤ 124 := z2; have h9 := p2388c (by omega) (by omega); show rd1 (A2386 22) (A0 22) (F0 23) (F2385 23) (F0 20); exact fu_end (hfu (by omega)) (by omega) (rd_cg h9 (by omega) (by omega) rfl) (by omega)⟩⟩
                · refine k_c1 11 rfl rfl (if_neg b2274) ?_
                  have b2274 := mt iv_eq0.mpr b2274
                  refine k_push 12 rfl rfl ?_
                  refine k_fin rfl (fin_Z (Or.inl rfl)) ⟨_, _, rfl, rf_len I1606 I1606, ?_⟩
                  show am_Ok _ _ _ (28, _, [.inl (0 : Int32)], _, 0, 0) _
                  refine k_fin rfl (fin_Z (Or.inl rfl)) ⟨_, _, rfl, rf_len I1606 I1606, ?_⟩
                  show am_Ok _ _ _ (55, _, [.inl (0 : Int32)], _, 0, 0) _
                  refine k_c1 58 rfl rfl (if_pos (by decide)) ?_
                  exact k_fin rfl rfl ⟨_, _, _, rfl, I1606, (fr1.up (by decide) (fr1.up (by decide) hF)), hA, ⟨(show (F0 8 ≤ F 8 ∧ F 8 ≤ F0 7 ∧ F0 20 ≤ F 20 ∧ F 20 ≤ 30 ∧ F 21 = F0 21 ∧ F0 23 ≤ F 23 ∧ F 23 ≤ 1000000 ∧ (F 9 = 2 → 0 ≤ F 11 ∧ F 11 ≤ 9) ∧ 0 ≤ F 9 ∧ F 9 ≤ 4) by omega), (show ((1 : Int32).toInt = 0 → F 20 = F0 20 ∧ F0 6 = 0 ∧ (F 9 = 0 ∨ F0 8 < F 8)) by omega), fun z => absurd (show (1 : Int32).toInt = 0 from z) (by omega)⟩⟩
        · refine k_c1 11 rfl rfl (if_neg b1609) ?_
          have b1609 := mt iv_eq0.mpr b1609
          refine k_push 12 rfl rfl ?_
          refine k_fin rfl (fin_Z (Or.inl rfl)) ⟨_, _, rfl, rf_len I1606 I1606, ?_⟩
          show am_Ok _ _ _ (28, _, [.inl (0 : Int32)], _, 0, 0) _
          refine k_fin rfl (fin_Z (Or.inl rfl)) ⟨_, _, rfl, rf_len hI I1606, ?_⟩
          show am_Ok _ _ _ (24, _, [.inl (0 : Int32)], _, 0, 0) _
          refine k_c1 58 rfl rfl (if_pos (by decide)) ?_
          exact k_fin rfl rfl ⟨_, _, _, rfl, I1606, (fr1.up (by decide) (fr1.up (by decide) hF)), hA, ⟨(show (F0 8 ≤ F 8 ∧ F 8 ≤ F0 7 ∧ F0 20 ≤ F 20 ∧ F 20 ≤ 30 ∧ F 21 = F0 21 ∧ F0 23 ≤ F 23 ∧ F 23 ≤ 1000000 ∧ (F 9 = 2 → 0 ≤ F 11 ∧ F 11 ≤ 9) ∧ 0 ≤ F 9 ∧ F 9 ≤ 4) by omega), (show ((1 : Int32).toInt = 0 → F 20 = F0 20 ∧ F0 6 = 0 ∧ (F 9 = 0 ∨ F0 8 < F 8)) by omega), fun z => absurd (show (1 : Int32).toInt = 0 from z) (by omega)⟩⟩
      · refine k_c1 11 rfl rfl (if_neg b1600) ?_
        have b1600 := mt iv_eq0.mpr b1600
        refine k_push 12 rfl rfl ?_
        refine k_fin rfl (fin_Z (Or.inl rfl)) ⟨_, _, rfl, rf_len hI hI, ?_⟩
        show am_Ok _ _ _ (4, _, [.inl (0 : Int32)], _, 0, 0) _
        refine k_c1 24 rfl rfl (if_pos (by decide)) ?_
        refine k_aload 25 rfl rfl rfl ?_
        refine k_in (d := 0) rfl (Nat.ble_eq_true_of_le (by omega)) rfl rfl hI.rc ?_
        refine k_aload 1 rfl rfl rfl ?_
        refine r_gI hI 4 rfl rfl rfl (fun x2398 (e2399 : x2398.toInt = F 6) => ?_)
        by_cases b2400 : x2398 = 0
        · refine k_c1 7 rfl rfl (if_pos b2400) ?_
          have b2400 := iv_eq0.mp b2400
          refine k_push 8 rfl rfl ?_
          refine k_goto 12 rfl rfl ?_
          refine k_fin rfl (fin_Z (Or.inr rfl)) ⟨_, _, rfl, rf_len hI hI, ?_⟩
          show am_Ok _ _ _ (28, _, [.inl (1 : Int32)], _, 0, 0) _
          refine k_fin rfl (fin_Z (Or.inr rfl)) ⟨_, _, rfl, rf_len hI hI, ?_⟩
          show am_Ok _ _ _ (24, _, [.inl (1 : Int32)], _, 0, 0) _
          refine k_c1 27 rfl rfl (if_neg (by decide)) ?_
          refine k_aload 28 rfl g0 rfl ?_
          refine k_aload 29 rfl g0 rfl ?_
          refine r_gI hI 32 rfl rfl rfl (fun x2401 (e2402 : x2401.toInt = F 14) => ?_)
          refine k_push 34 rfl rfl ?_
          have hc2403 : (8 : Int32).toInt = 8 := by decide
          by_cases b2404 : (8 : Int32) < x2401
          · refine k_c2 50 rfl rfl (if_pos b2404) ?_
            have b2404 := iv_lt.mp b2404
            refine k_push 51 rfl rfl ?_
            refine k_push 52 rfl rfl ?_
            have hc2405 : (2 : Int32).toInt = 2 := by decide
            refine k_in (d := 1) rfl (Nat.ble_eq_true_of_le (by omega)) rfl rfl hI.rc ?_
            refine k_aload 1 rfl rfl rfl ?_
            refine k_in (d := 0) rfl (Nat.ble_eq_true_of_le (by omega)) rfl rfl hI.rc ?_
            refine k_aload 1 rfl rfl rfl ?_
            refine r_gI hI 4 rfl rfl rfl (fun x2406 (e2407 : x2406.toInt = F 6) => ?_)
            by_cases b2408 : x2406 = 0
            · refine k_c1 7 rfl rfl (if_pos b2408) ?_
              have b2408 := iv_eq0.mp b2408
              refine k_push 8 rfl rfl ?_
              refine k_goto 12 rfl rfl ?_
              refine k_fin rfl (fin_Z (Or.inr rfl)) ⟨_, _, rfl, rf_len hI hI, ?_⟩
              show am_Ok _ _ _ (4, _, [.inl (1 : Int32)], _, 0, 0) _
              refine k_c1 7 rfl rfl (if_neg (by decide)) ?_
              refine k_iload 8 rfl rfl rfl ?_
              refine k_c1 11 rfl rfl (if_pos (by decide)) ?_
              refine k_aload 12 rfl rfl rfl ?_
              refine k_iload 13 rfl rfl rfl ?_
              refine r_pI hI 16 rfl rfl rfl (fun h2409 I2410 => ?_)
              refine k_aload 17 rfl rfl rfl ?_
              refine k_aload 18 rfl rfl rfl ?_
              refine r_gI I2410 21 rfl rfl rfl (fun x2411 (e2412 : x2411.toInt = F 10) => ?_)
              refine r_pI I2410 24 rfl rfl rfl (fun h2413 I2414 => ?_)
              refine k_aload 25 rfl rfl rfl ?_
              refine k_in (d := 0) rfl (Nat.ble_eq_true_of_le (by omega)) rfl rfl I2414.rc ?_
              refine k_aload 1 rfl rfl rfl ?_
              refine r_gI I2414 4 rfl rfl rfl (fun x2415 (e2416 : x2415.toInt = (2 : Int32).toInt) => ?_)
              by_cases b2417 : x2415 = 0
              · refine k_c1 7 rfl rfl (if_pos b2417) ?_
                have b2417 := iv_eq0.mp b2417
                refine k_push 8 rfl rfl ?_
                refine k_goto 12 rfl rfl ?_
                refine k_fin rfl (fin_Z (Or.inr rfl)) ⟨_, _, rfl, rf_len I2414 I2414, ?_⟩
                show am_Ok _ _ _ (28, _, [.inl (1 : Int32)], _, 0, 0) _
                refine k_fin rfl (fin_Z (Or.inr rfl)) ⟨_, _, rfl, rf_len hI I2414, ?_⟩
                show am_Ok _ _ _ (55, _, [.inl (1 : Int32)], _, 0, 0) _
                refine k_c1 59 rfl rfl (if_neg (by decide)) ?_
                refine k_aload 60 rfl g0 rfl ?_
                refine r_gA I2414 63 rfl rfl rfl ?_
                refine k_aload 64 rfl g0 rfl ?_
                refine r_gI I2414 67 rfl rfl rfl (fun x2418 (e2419 : x2418.toInt = F 20) => ?_)
                refine k_aload 68 rfl g0 rfl ?_
                refine r_gJ I2414 71 rfl rfl rfl (fun y2420 => ?_)
                refine r_lst 19 I2414 72 rfl rfl (by omega) (show x2418.toInt < 31 by omega) rfl (fun h2421 I2422 => ?_)
                refine k_aload 73 rfl g0 rfl ?_
                refine k_dup 74 rfl rfl rfl ?_
                refine r_gI I2422 77 rfl rfl rfl (fun x2423 (e2424 : x2423.toInt = F 20) => ?_)
                refine k_push 78 rfl rfl ?_
                obtain ⟨x2425, q2426⟩ : ∃ q : Int32, q = (x2423 + (1 : Int32)) := ⟨_, rfl⟩
                have e2427 : x2425.toInt = x2423.toInt + 1 := by rw [q2426, iv_add (by omega) (by omega)]; omega
                refine k_bin x2425 79 rfl q2426.symm rfl ?_
                refine r_pI I2422 82 rfl rfl rfl (fun h2428 I2429 => ?_)
                obtain ⟨x2430, q2431⟩ : ∃ q : Int32, q = v1 + (1 : Int32) := ⟨_, rfl⟩
                have e2432 : x2430.toInt = v1.toInt + 1 := by rw [q2431, iv_add (by omega) (by omega)]; omega
                refine k_iinc x2430 85 rfl g1 q2431.symm rfl ?_
                refine k_aload 86 rfl (gs_ne rfl rfl g0) rfl ?_
                refine k_push 87 rfl rfl ?_
                refine k_rv I2429 rfl (m_emits  I2429.1 (show 0 ≤ (F 23) ∧ (F 23) ≤ 1000000 by omega)) (Nat.ble_eq_true_of_le (by omega)) rfl rfl I2429.rc ?_
                rintro h2434 F2435 A2436 I2437 ⟨k2439, k2440, p2438⟩
                replace p2438 : ((F 23) ≤ F2435 23 ∧ F2435 23 ≤ 1000000) ∧ (F2435 23 ≤ 124 → F2435 23 = (F 23) + 1) ∧ (F2435 23 ≤ 124 → A2436 22 ((F 23)) = (1 : Int32).toInt ∧ ∀ q : Int, q ≠ (F 23) → A2436 22 q = (A 22) q) := p2438
                obtain ⟨p2438a, p2438b, p2438c⟩ := p2438
                show am_Ok _ _ _ (90, _, [], _, 0, 0) _
                have hfu : F2435 23 ≤ 124 → fu (A2436 22) (A0 22) (F0 23) (F2435 23) (v1.toInt + 1) := fun z9 => fu_s (i2 (by omega)) (p2438b z9) ((p2438c z9).1.trans (by decide)) (p2438c z9).2 (by omega) rfl
                refine k_aload 91 rfl (gs_ne rfl rfl g0) rfl ?_
                have e2441 : F2435 8 = F 8 := k2439 8 (by decide)
                have e2442 : F2435 7 = F 7 := k2439 7 (by decide)
                have e2443 : F 7 = F0 7 := hF 7 (by decide)
                refine k_rv I2437 rfl (m_goes  I2437.1 (show 0 ≤ (F2435 8) ∧ (F2435 8) ≤ (F2435 7) ∧ (F2435 7) ≤ 700 by omega)) (Nat.ble_eq_true_of_le (by omega)) rfl rfl I2437.rc ?_
                rintro h2445 F2446 A2447 I2448 ⟨k2450, k2451, p2449⟩
                replace p2449 : ((F2435 8) ≤ F2446 8 ∧ F2446 8 ≤ (F2435 7)) ∧ (F2446 9 = 0 ∨ (F2435 8) < F2446 8) ∧ (F2446 9 = 2 → 0 ≤ F2446 11 ∧ F2446 11 ≤ 9) ∧ (0 ≤ F2446 9 ∧ F2446 9 ≤ 4) := p2449
                obtain ⟨p2449a, p2449b, p2449c, p2449d⟩ := p2449
                have k2451 := fr2.nil k2451
                subst k2451
                show am_Ok _ _ _ (94, _, [], _, 0, 0) _
                refine k_aload 95 rfl (gs_ne rfl rfl g0) rfl ?_
                refine k_in (d := 0) rfl (Nat.ble_eq_true_of_le (by omega)) rfl rfl I2448.rc ?_
                refine k_aload 1 rfl rfl rfl ?_
                refine r_gI I2448 4 rfl rfl rfl (fun x2452 (e2453 : x2452.toInt = F2446 6) => ?_)
                have e2454 : F2446 6 = F2435 6 := k2450 6 (by decide)
                have e2455 : F2435 6 = (2 : Int32).toInt := k2439 6 (by decide)
                by_cases b2456 : x2452 = 0
                · refine k_c1 7 rfl rfl (if_pos b2456) ?_
                  have b2456 := iv_eq0.mp b2456
                  refine k_push 8 rfl rfl ?_
                  refine k_goto 12 rfl rfl ?_
                  refine k_fin rfl (fin_Z (Or.inr rfl)) ⟨_, _, rfl, rf_len I2448 I2448, ?_⟩
                  show am_Ok _ _ _ (98, _, [.inl (1 : Int32)], _, 0, 0) _
                  refine k_c1 101 rfl rfl (if_neg (by decide)) ?_
                  refine k_aload 102 rfl (gs_ne rfl rfl g0) rfl ?_
                  refine r_gI I2448 105 rfl rfl rfl (fun x2457 (e2458 : x2457.toInt = F2446 9) => ?_)
                  refine k_push 106 rfl rfl ?_
                  by_cases b2459 : x2457 = (1 : Int32)
                  · refine k_c2 6 rfl rfl (if_pos b2459) ?_
                    have b2459 := iv_eq.mp b2459
                    have e2460 : F2446 20 = F2435 20 := k2450 20 (by decide)
                    have e2461 : F2435 20 = x2425.toInt := k2439 20 (by decide)
                    have e2462 : F2446 21 = F2435 21 := k2450 21 (by decide)
                    have e2463 : F2435 21 = F 21 := k2439 21 (by decide)
                    have e2464 : F2446 23 = F2435 23 := k2450 23 (by decide)
                    exact ih _ (show ((31 - x2430.toInt).toNat) < n by omega)  rfl (gs_ne rfl rfl g0) gs_eq I2448 (fr1.tr (by decide) (fr1.tr (by decide) (fr1.up (by decide) (fr1.up (by decide) (fr1.up (by decide) hF))) k2439) k2450) (fr2.tr (by decide) hA k2440) (show F0 8 ≤ (F2446 8) ∧ (F2446 8) ≤ F0 7 ∧ (F2446 20) = F0 20 + x2430.toInt ∧ 0 ≤ x2430.toInt ∧ (F2446 20) ≤ 30 ∧ (F2446 21) = F0 21 ∧ F0 23 ≤ (F2446 23) ∧ (F2446 23) ≤ 1000000 ∧ ((F2446 9) = 2 → 0 ≤ (F2446 11) ∧ (F2446 11) ≤ 9) ∧ 0 ≤ (F2446 9) ∧ (F2446 9) ≤ 4 ∧ (F2446 6) = 0 by omega) (fun z => by have z9 : F2446 23 ≤ 124 := z; show fu (A2436 22) (A0 22) (F0 23) (F2446 23) x2430.toInt; exact fu_cg (hfu (by omega)) (by omega) (by omega))
                  · refine k_c2 109 rfl rfl (if_neg b2459) ?_
                    have b2459 := mt iv_eq.mpr b2459
                    refine k_aload 110 rfl (gs_ne rfl rfl g0) rfl ?_
                    refine k_push 112 rfl rfl ?_
                    have hc2465 : (46 : Int32).toInt = 46 := by decide
                    have e2466 : F2446 7 = F2435 7 := k2450 7 (by decide)
                    refine k_rv I2448 rfl (m_must  I2448.1 (show 0 ≤ (F2446 8) ∧ (F2446 8) ≤ (F2446 7) ∧ (F2446 7) ≤ 700 ∧ ((F2446 9) = 2 → 0 ≤ (F2446 11) ∧ (F2446 11) ≤ 9) ∧ 0 ≤ (F2446 9) ∧ (F2446 9) ≤ 4 by omega)) (Nat.ble_eq_true_of_le (by omega)) rfl rfl I2448.rc ?_
                    rintro h2468 F2469 A2470 I2471 ⟨k2473, k2474, p2472⟩
                    replace p2472 : ((F2446 8) ≤ F2469 8 ∧ F2469 8 ≤ (F2446 7)) ∧ (F2469 6 = 0 → (F2446 6) = 0 ∧ (F2469 9 = 0 ∨ (F2446 8) < F2469 8)) ∧ (F2469 9 = 2 → 0 ≤ F2469 11 ∧ F2469 11 ≤ 9) ∧ (0 ≤ F2469 9 ∧ F2469 9 ≤ 4) := p2472
                    obtain ⟨p2472a, p2472b, p2472c, p2472d⟩ := p2472
                    have k2474 := fr2.nil k2474
                    subst k2474
                    show am_Ok _ _ _ (115, _, [], _, 0, 0) _
                    refine k_aload 116 rfl (gs_ne rfl rfl g0) rfl ?_
                    have e2475 : F2469 7 = F2446 7 := k2473 7 (by decide)
                    have e2476 : F2469 20 = F2446 20 := k2473 20 (by decide)
                    have e2477 : F2446 20 = F2435 20 := k2450 20 (by decide)
                    have e2478 : F2435 20 = x2425.toInt := k2439 20 (by decide)
                    have e2479 : F2469 21 = F2446 21 := k2473 21 (by decide)
                    have e2480 : F2446 21 = F2435 21 := k2450 21 (by decide)
                    have e2481 : F2435 21 = F 21 := k2439 21 (by decide)
                    have e2482 : F2469 18 = F2446 18 := k2473 18 (by decide)
                    have e2483 : F2446 18 = F2435 18 := k2450 18 (by decide)
                    have e2484 : F2435 18 = F 18 := k2439 18 (by decide)
                    have e2485 : F 18 = F0 18 := hF 18 (by decide)
                    have e2486 : F2469 23 = F2446 23 := k2473 23 (by decide)
                    have e2487 : F2446 23 = F2435 23 := k2450 23 (by decide)
                    refine k_rv I2471 rfl (hrec  I2471.1 (show 0 ≤ (F2469 8) ∧ (F2469 8) ≤ (F2469 7) ∧ (F2469 7) ≤ 700 ∧ 0 ≤ (F2469 20) ∧ (F2469 20) ≤ 30 ∧ 0 ≤ (F2469 21) ∧ (F2469 21) ≤ 12 ∧ 0 ≤ (F2469 18) ∧ (F2469 18) ≤ 12 ∧ 0 ≤ (F2469 23) ∧ (F2469 23) ≤ 1000000 ∧ ((F2469 9) = 2 → 0 ≤ (F2469 11) ∧ (F2469 11) ≤ 9) ∧ 0 ≤ (F2469 9) ∧ (F2469 9) ≤ 4 by omega) (show nm ((A2436 16)) ((A2436 17)) ((F2469 18)) by rw [((k2440 16 (by decide)).trans (hA 16 (by decide))), ((k2440 17 (by decide)).trans (hA 17 (by decide))), ((k2473 18 (by decide)).trans ((k2450 18 (by decide)).trans ((k2439 18 (by decide)).trans (hF 18 (by decide)))))]; exact p2) (show (12 - (F2469 21)) + (30 - (F2469 20)) < (gk : Int) by omega)) (Nat.ble_eq_true_of_le (by omega)) rfl rfl I2471.rc ?_
                    rintro h2489 F2490 A2491 I2492 ⟨k2494, k2495, p2493⟩
                    replace p2493 : ((F2469 8) ≤ F2490 8 ∧ F2490 8 ≤ (F2469 7) ∧ (F2469 20) ≤ F2490 20 ∧ F2490 20 ≤ 30 ∧ F2490 21 = (F2469 21) ∧ (F2469 23) ≤ F2490 23 ∧ F2490 23 ≤ 1000000 ∧ (F2490 9 = 2 → 0 ≤ F2490 11 ∧ F2490 11 ≤ 9) ∧ 0 ≤ F2490 9 ∧ F2490 9 ≤ 4) ∧ (F2490 6 = 0 → F2490 20 = (F2469 20) ∧ (F2469 6) = 0 ∧ (F2490 9 = 0 ∨ (F2469 8) < F2490 8)) ∧ (F2490 6 = 0 → F2490 23 ≤ 124 → rd1 (A2491 22) ((A2436 22)) ((F2469 23)) (F2490 23) ((F2469 20))) := p2493
                    obtain ⟨p2493a, p2493b, p2493c⟩ := p2493
                    show am_Ok _ _ _ (119, _, [], _, 0, 0) _
                    refine k_aload 120 rfl (gs_ne rfl rfl g0) rfl ?_
                    refine k_dup 121 rfl rfl rfl ?_
                    refine r_gI I2492 124 rfl rfl rfl (fun x2496 (e2497 : x2496.toInt = F2490 20) => ?_)
                    refine k_iload 125 rfl gs_eq rfl ?_
                    obtain ⟨x2498, q2499⟩ : ∃ q : Int32, q = (x2496 - x2430) := ⟨_, rfl⟩
                    have e2500 : x2498.toInt = x2496.toInt - x2430.toInt := by rw [q2499, iv_sub (by omega) (by omega)]
                    refine k_bin x2498 126 rfl q2499.symm rfl ?_
                    refine r_pI I2492 129 rfl rfl rfl (fun h2501 I2502 => ?_)
                    exact k_fin rfl rfl ⟨_, _, _, rfl, I2502, (fr1.up (by decide) (fr1.tr (by decide) (fr1.tr (by decide) (fr1.tr (by decide) (fr1.tr (by decide) (fr1.up (by decide) (fr1.up (by decide) (fr1.up (by decide) hF))) k2439) k2450) k2473) k2494)), (fr2.tr (by decide) (fr2.tr (by decide) hA k2440) k2495), ⟨(show (F0 8 ≤ F2490 8 ∧ F2490 8 ≤ F0 7 ∧ F0 20 ≤ x2498.toInt ∧ x2498.toInt ≤ 30 ∧ F2490 21 = F0 21 ∧ F0 23 ≤ F2490 23 ∧ F2490 23 ≤ 1000000 ∧ (F2490 9 = 2 → 0 ≤ F2490 11 ∧ F2490 11 ≤ 9) ∧ 0 ≤ F2490 9 ∧ F2490 9 ≤ 4) by omega), (show (F2490 6 = 0 → x2498.toInt = F0 20 ∧ F0 6 = 0 ∧ (F2490 9 = 0 ∨ F0 8 < F2490 8)) by omega), fun z1 z2 => by have z8 : F2490 6 = 0 := z1; have z9 : F2490 23 ≤ 124 := z2; have h9 := p2493c (by omega) (by omega); show rd1 (A2491 22) (A0 22) (F0 23) (F2490 23) (F0 20); exact fu_end (hfu (by omega)) (by omega) (rd_cg h9 (by omega) (by omega) rfl) (by omega)⟩⟩
                · refine k_c1 11 rfl rfl (if_neg b2456) ?_
                  have b2456 := mt iv_eq0.mpr b2456
                  refine k_push 12 rfl rfl ?_
                  refine k_fin rfl (fin_Z (Or.inl rfl)) ⟨_, _, rfl, rf_len I2448 I2448, ?_⟩
                  show am_Ok _ _ _ (98, _, [.inl (0 : Int32)], _, 0, 0) _
                  refine k_c1 109 rfl rfl (if_pos (by decide)) ?_
                  refine k_aload 110 rfl (gs_ne rfl rfl g0) rfl ?_
                  refine k_push 112 rfl rfl ?_
                  have hc2503 : (46 : Int32).toInt = 46 := by decide
                  have e2504 : F2446 7 = F2435 7 := k2450 7 (by decide)
                  refine k_rv I2448 rfl (m_must  I2448.1 (show 0 ≤ (F2446 8) ∧ (F2446 8) ≤ (F2446 7) ∧ (F2446 7) ≤ 700 ∧ ((F2446 9) = 2 → 0 ≤ (F2446 11) ∧ (F2446 11) ≤ 9) ∧ 0 ≤ (F2446 9) ∧ (F2446 9) ≤ 4 by omega)) (Nat.ble_eq_true_of_le (by omega)) rfl rfl I2448.rc ?_
                  rintro h2506 F2507 A2508 I2509 ⟨k2511, k2512, p2510⟩
                  replace p2510 : ((F2446 8) ≤ F2507 8 ∧ F2507 8 ≤ (F2446 7)) ∧ (F2507 6 = 0 → (F2446 6) = 0 ∧ (F2507 9 = 0 ∨ (F2446 8) < F2507 8)) ∧ (F2507 9 = 2 → 0 ≤ F2507 11 ∧ F2507 11 ≤ 9) ∧ (0 ≤ F2507 9 ∧ F2507 9 ≤ 4) := p2510
                  obtain ⟨p2510a, p2510b, p2510c, p2510d⟩ := p2510
                  have k2512 := fr2.nil k2512
                  subst k2512
                  show am_Ok _ _ _ (115, _, [], _, 0, 0) _
                  refine k_aload 116 rfl (gs_ne rfl rfl g0) rfl ?_
                  have e2513 : F2507 7 = F2446 7 := k2511 7 (by decide)
                  have e2514 : F2507 20 = F2446 20 := k2511 20 (by decide)
                  have e2515 : F2446 20 = F2435 20 := k2450 20 (by decide)
                  have e2516 : F2435 20 = x2425.toInt := k2439 20 (by decide)
                  have e2517 : F2507 21 = F2446 21 := k2511 21 (by decide)
                  have e2518 : F2446 21 = F2435 21 := k2450 21 (by decide)
                  have e2519 : F2435 21 = F 21 := k2439 21 (by decide)
                  have e2520 : F2507 18 = F2446 18 := k2511 18 (by decide)
                  have e2521 : F2446 18 = F2435 18 := k2450 18 (by decide)
                  have e2522 : F2435 18 = F 18 := k2439 18 (by decide)
                  have e2523 : F 18 = F0 18 := hF 18 (by decide)
                  have e2524 : F2507 23 = F2446 23 := k2511 23 (by decide)
                  have e2525 : F2446 23 = F2435 23 := k2450 23 (by decide)
                  refine k_rv I2509 rfl (hrec  I2509.1 (show 0 ≤ (F2507 8) ∧ (F2507 8) ≤ (F2507 7) ∧ (F2507 7) ≤ 700 ∧ 0 ≤ (F2507 20) ∧ (F2507 20) ≤ 30 ∧ 0 ≤ (F2507 21) ∧ (F2507 21) ≤ 12 ∧ 0 ≤ (F2507 18) ∧ (F2507 18) ≤ 12 ∧ 0 ≤ (F2507 23) ∧ (F2507 23) ≤ 1000000 ∧ ((F2507 9) = 2 → 0 ≤ (F2507 11) ∧ (F2507 11) ≤ 9) ∧ 0 ≤ (F2507 9) ∧ (F2507 9) ≤ 4 by omega) (show nm ((A2436 16)) ((A2436 17)) ((F2507 18)) by rw [((k2440 16 (by decide)).trans (hA 16 (by decide))), ((k2440 17 (by decide)).trans (hA 17 (by decide))), ((k2511 18 (by decide)).trans ((k2450 18 (by decide)).trans ((k2439 18 (by decide)).trans (hF 18 (by decide)))))]; exact p2) (show (12 - (F2507 21)) + (30 - (F2507 20)) < (gk : Int) by omega)) (Nat.ble_eq_true_of_le (by omega)) rfl rfl I2509.rc ?_
                  rintro h2527 F2528 A2529 I2530 ⟨k2532, k2533, p2531⟩
                  replace p2531 : ((F2507 8) ≤ F2528 8 ∧ F2528 8 ≤ (F2507 7) ∧ (F2507 20) ≤ F2528 20 ∧ F2528 20 ≤ 30 ∧ F2528 21 = (F2507 21) ∧ (F2507 23) ≤ F2528 23 ∧ F2528 23 ≤ 1000000 ∧ (F2528 9 = 2 → 0 ≤ F2528 11 ∧ F2528 11 ≤ 9) ∧ 0 ≤ F2528 9 ∧ F2528 9 ≤ 4) ∧ (F2528 6 = 0 → F2528 20 = (F2507 20) ∧ (F2507 6) = 0 ∧ (F2528 9 = 0 ∨ (F2507 8) < F2528 8)) ∧ (F2528 6 = 0 → F2528 23 ≤ 124 → rd1 (A2529 22) ((A2436 22)) ((F2507 23)) (F2528 23) ((F2507 20))) := p2531
                  obtain ⟨p2531a, p2531b, p2531c⟩ := p2531
                  show am_Ok _ _ _ (119, _, [], _, 0, 0) _
                  refine k_aload 120 rfl (gs_ne rfl rfl g0) rfl ?_
                  refine k_dup 121 rfl rfl rfl ?_
                  refine r_gI I2530 124 rfl rfl rfl (fun x2534 (e2535 : x2534.toInt = F2528 20) => ?_)
                  refine k_iload 125 rfl gs_eq rfl ?_
                  obtain ⟨x2536, q2537⟩ : ∃ q : Int32, q = (x2534 - x2430) := ⟨_, rfl⟩
                  have e2538 : x2536.toInt = x2534.toInt - x2430.toInt := by rw [q2537, iv_sub (by omega) (by omega)]
                  refine k_bin x2536 126 rfl q2537.symm rfl ?_
                  refine r_pI I2530 129 rfl rfl rfl (fun h2539 I2540 => ?_)
                  exact k_fin rfl rfl ⟨_, _, _, rfl, I2540, (fr1.up (by decide) (fr1.tr (by decide) (fr1.tr (by decide) (fr1.tr (by decide) (fr1.tr (by decide) (fr1.up (by decide) (fr1.up (by decide) (fr1.up (by decide) hF))) k2439) k2450) k2511) k2532)), (fr2.tr (by decide) (fr2.tr (by decide) hA k2440) k2533), ⟨(show (F0 8 ≤ F2528 8 ∧ F2528 8 ≤ F0 7 ∧ F0 20 ≤ x2536.toInt ∧ x2536.toInt ≤ 30 ∧ F2528 21 = F0 21 ∧ F0 23 ≤ F2528 23 ∧ F2528 23 ≤ 1000000 ∧ (F2528 9 = 2 → 0 ≤ F2528 11 ∧ F2528 11 ≤ 9) ∧ 0 ≤ F2528 9 ∧ F2528 9 ≤ 4) by omega), (show (F2528 6 = 0 → x2536.toInt = F0 20 ∧ F0 6 = 0 ∧ (F2528 9 = 0 ∨ F0 8 < F2528 8)) by omega), fun z1 z2 => by have z8 : F2528 6 = 0 := z1; have z9 : F2528 23 ≤ 124 := z2; have h9 := p2531c (by omega) (by omega); show rd1 (A2529 22) (A0 22) (F0 23) (F2528 23) (F0 20); exact fu_end (hfu (by omega)) (by omega) (rd_cg h9 (by omega) (by omega) rfl) (by omega)⟩⟩
              · refine k_c1 11 rfl rfl (if_neg b2417) ?_
                have b2417 := mt iv_eq0.mpr b2417
                refine k_push 12 rfl rfl ?_
                refine k_fin rfl (fin_Z (Or.inl rfl)) ⟨_, _, rfl, rf_len I2414 I2414, ?_⟩
                show am_Ok _ _ _ (28, _, [.inl (0 : Int32)], _, 0, 0) _
                refine k_fin rfl (fin_Z (Or.inl rfl)) ⟨_, _, rfl, rf_len hI I2414, ?_⟩
                show am_Ok _ _ _ (55, _, [.inl (0 : Int32)], _, 0, 0) _
                refine k_c1 58 rfl rfl (if_pos (by decide)) ?_
                exact k_fin rfl rfl ⟨_, _, _, rfl, I2414, (fr1.up (by decide) (fr1.up (by decide) hF)), hA, ⟨(show (F0 8 ≤ F 8 ∧ F 8 ≤ F0 7 ∧ F0 20 ≤ F 20 ∧ F 20 ≤ 30 ∧ F 21 = F0 21 ∧ F0 23 ≤ F 23 ∧ F 23 ≤ 1000000 ∧ (F 9 = 2 → 0 ≤ F 11 ∧ F 11 ≤ 9) ∧ 0 ≤ F 9 ∧ F 9 ≤ 4) by omega), (show ((2 : Int32).toInt = 0 → F 20 = F0 20 ∧ F0 6 = 0 ∧ (F 9 = 0 ∨ F0 8 < F 8)) by omega), fun z => absurd (show (2 : Int32).toInt = 0 from z) (by omega)⟩⟩
            · refine k_c1 11 rfl rfl (if_neg b2408) ?_
              have b2408 := mt iv_eq0.mpr b2408
              refine k_push 12 rfl rfl ?_
              refine k_fin rfl (fin_Z (Or.inl rfl)) ⟨_, _, rfl, rf_len hI hI, ?_⟩
              show am_Ok _ _ _ (4, _, [.inl (0 : Int32)], _, 0, 0) _
              refine k_c1 24 rfl rfl (if_pos (by decide)) ?_
              refine k_aload 25 rfl rfl rfl ?_
              refine k_in (d := 0) rfl (Nat.ble_eq_true_of_le (by omega)) rfl rfl hI.rc ?_
              refine k_aload 1 rfl rfl rfl ?_
              refine r_gI hI 4 rfl rfl rfl (fun x2541 (e2542 : x2541.toInt = F 6) => ?_)
              by_cases b2543 : x2541 = 0
              · refine k_c1 7 rfl rfl (if_pos b2543) ?_
                have b2543 := iv_eq0.mp b2543
                refine k_push 8 rfl rfl ?_
                refine k_goto 12 rfl rfl ?_
                refine k_fin rfl (fin_Z (Or.inr rfl)) ⟨_, _, rfl, rf_len hI hI, ?_⟩
                show am_Ok _ _ _ (28, _, [.inl (1 : Int32)], _, 0, 0) _
                refine k_fin rfl (fin_Z (Or.inr rfl)) ⟨_, _, rfl, rf_len hI hI, ?_⟩
                show am_Ok _ _ _ (55, _, [.inl (1 : Int32)], _, 0, 0) _
                refine k_c1 59 rfl rfl (if_neg (by decide)) ?_
                refine k_aload 60 rfl g0 rfl ?_
                refine r_gA hI 63 rfl rfl rfl ?_
                refine k_aload 64 rfl g0 rfl ?_
                refine r_gI hI 67 rfl rfl rfl (fun x2544 (e2545 : x2544.toInt = F 20) => ?_)
                refine k_aload 68 rfl g0 rfl ?_
                refine r_gJ hI 71 rfl rfl rfl (fun y2546 => ?_)
                refine r_lst 19 hI 72 rfl rfl (by omega) (show x2544.toInt < 31 by omega) rfl (fun h2547 I2548 => ?_)
                refine k_aload 73 rfl g0 rfl ?_
                refine k_dup 74 rfl rfl rfl ?_
                refine r_gI I2548 77 rfl rfl rfl (fun x2549 (e2550 : x2549.toInt = F 20) => ?_)
                refine k_push 78 rfl rfl ?_
                obtain ⟨x2551, q2552⟩ : ∃ q : Int32, q = (x2549 + (1 : Int32)) := ⟨_, rfl⟩
                have e2553 : x2551.toInt = x2549.toInt + 1 := by rw [q2552, iv_add (by omega) (by omega)]; omega
                refine k_bin x2551 79 rfl q2552.symm rfl ?_
                refine r_pI I2548 82 rfl rfl rfl (fun h2554 I2555 => ?_)
                obtain ⟨x2556, q2557⟩ : ∃ q : Int32, q = v1 + (1 : Int32) := ⟨_, rfl⟩
                have e2558 : x2556.toInt = v1.toInt + 1 := by rw [q2557, iv_add (by omega) (by omega)]; omega
                refine k_iinc x2556 85 rfl g1 q2557.symm rfl ?_
                refine k_aload 86 rfl (gs_ne rfl rfl g0) rfl ?_
                refine k_push 87 rfl rfl ?_
                refine k_rv I2555 rfl (m_emits  I2555.1 (show 0 ≤ (F 23) ∧ (F 23) ≤ 1000000 by omega)) (Nat.ble_eq_true_of_le (by omega)) rfl rfl I2555.rc ?_
                rintro h2560 F2561 A2562 I2563 ⟨k2565, k2566, p2564⟩
                replace p2564 : ((F 23) ≤ F2561 23 ∧ F2561 23 ≤ 1000000) ∧ (F2561 23 ≤ 124 → F2561 23 = (F 23) + 1) ∧ (F2561 23 ≤ 124 → A2562 22 ((F 23)) = (1 : Int32).toInt ∧ ∀ q : Int, q ≠ (F 23) → A2562 22 q = (A 22) q) := p2564
                obtain ⟨p2564a, p2564b, p2564c⟩ := p2564
                show am_Ok _ _ _ (90, _, [], _, 0, 0) _
                have hfu : F2561 23 ≤ 124 → fu (A2562 22) (A0 22) (F0 23) (F2561 23) (v1.toInt + 1) := fun z9 => fu_s (i2 (by omega)) (p2564b z9) ((p2564c z9).1.trans (by decide)) (p2564c z9).2 (by omega) rfl
                refine k_aload 91 rfl (gs_ne rfl rfl g0) rfl ?_
                have e2567 : F2561 8 = F 8 := k2565 8 (by decide)
                have e2568 : F2561 7 = F 7 := k2565 7 (by decide)
                have e2569 : F 7 = F0 7 := hF 7 (by decide)
                refine k_rv I2563 rfl (m_goes  I2563.1 (show 0 ≤ (F2561 8) ∧ (F2561 8) ≤ (F2561 7) ∧ (F2561 7) ≤ 700 by omega)) (Nat.ble_eq_true_of_le (by omega)) rfl rfl I2563.rc ?_
                rintro h2571 F2572 A2573 I2574 ⟨k2576, k2577, p2575⟩
                replace p2575 : ((F2561 8) ≤ F2572 8 ∧ F2572 8 ≤ (F2561 7)) ∧ (F2572 9 = 0 ∨ (F2561 8) < F2572 8) ∧ (F2572 9 = 2 → 0 ≤ F2572 11 ∧ F2572 11 ≤ 9) ∧ (0 ≤ F2572 9 ∧ F2572 9 ≤ 4) := p2575
                obtain ⟨p2575a, p2575b, p2575c, p2575d⟩ := p2575
                have k2577 := fr2.nil k2577
                subst k2577
                show am_Ok _ _ _ (94, _, [], _, 0, 0) _
                refine k_aload 95 rfl (gs_ne rfl rfl g0) rfl ?_
                refine k_in (d := 0) rfl (Nat.ble_eq_true_of_le (by omega)) rfl rfl I2574.rc ?_
                refine k_aload 1 rfl rfl rfl ?_
                refine r_gI I2574 4 rfl rfl rfl (fun x2578 (e2579 : x2578.toInt = F2572 6) => ?_)
                have e2580 : F2572 6 = F2561 6 := k2576 6 (by decide)
                have e2581 : F2561 6 = F 6 := k2565 6 (by decide)
                by_cases b2582 : x2578 = 0
                · refine k_c1 7 rfl rfl (if_pos b2582) ?_
                  have b2582 := iv_eq0.mp b2582
                  refine k_push 8 rfl rfl ?_
                  refine k_goto 12 rfl rfl ?_
                  refine k_fin rfl (fin_Z (Or.inr rfl)) ⟨_, _, rfl, rf_len I2574 I2574, ?_⟩
                  show am_Ok _ _ _ (98, _, [.inl (1 : Int32)], _, 0, 0) _
                  refine k_c1 101 rfl rfl (if_neg (by decide)) ?_
                  refine k_aload 102 rfl (gs_ne rfl rfl g0) rfl ?_
                  refine r_gI I2574 105 rfl rfl rfl (fun x2583 (e2584 : x2583.toInt = F2572 9) => ?_)
                  refine k_push 106 rfl rfl ?_
                  by_cases b2585 : x2583 = (1 : Int32)
                  · refine k_c2 6 rfl rfl (if_pos b2585) ?_
                    have b2585 := iv_eq.mp b2585
                    have e2586 : F2572 20 = F2561 20 := k2576 20 (by decide)
                    have e2587 : F2561 20 = x2551.toInt := k2565 20 (by decide)
                    have e2588 : F2572 21 = F2561 21 := k2576 21 (by decide)
                    have e2589 : F2561 21 = F 21 := k2565 21 (by decide)
                    have e2590 : F2572 23 = F2561 23 := k2576 23 (by decide)
                    exact ih _ (show ((31 - x2556.toInt).toNat) < n by omega)  rfl (gs_ne rfl rfl g0) gs_eq I2574 (fr1.tr (by decide) (fr1.tr (by decide) (fr1.up (by decide) hF) k2565) k2576) (fr2.tr (by decide) hA k2566) (show F0 8 ≤ (F2572 8) ∧ (F2572 8) ≤ F0 7 ∧ (F2572 20) = F0 20 + x2556.toInt ∧ 0 ≤ x2556.toInt ∧ (F2572 20) ≤ 30 ∧ (F2572 21) = F0 21 ∧ F0 23 ≤ (F2572 23) ∧ (F2572 23) ≤ 1000000 ∧ ((F2572 9) = 2 → 0 ≤ (F2572 11) ∧ (F2572 11) ≤ 9) ∧ 0 ≤ (F2572 9) ∧ (F2572 9) ≤ 4 ∧ (F2572 6) = 0 by omega) (fun z => by have z9 : F2572 23 ≤ 124 := z; show fu (A2562 22) (A0 22) (F0 23) (F2572 23) x2556.toInt; exact fu_cg (hfu (by omega)) (by omega) (by omega))
                  · refine k_c2 109 rfl rfl (if_neg b2585) ?_
                    have b2585 := mt iv_eq.mpr b2585
                    refine k_aload 110 rfl (gs_ne rfl rfl g0) rfl ?_
                    refine k_push 112 rfl rfl ?_
                    have hc2591 : (46 : Int32).toInt = 46 := by decide
                    have e2592 : F2572 7 = F2561 7 := k2576 7 (by decide)
                    refine k_rv I2574 rfl (m_must  I2574.1 (show 0 ≤ (F2572 8) ∧ (F2572 8) ≤ (F2572 7) ∧ (F2572 7) ≤ 700 ∧ ((F2572 9) = 2 → 0 ≤ (F2572 11) ∧ (F2572 11) ≤ 9) ∧ 0 ≤ (F2572 9) ∧ (F2572 9) ≤ 4 by omega)) (Nat.ble_eq_true_of_le (by omega)) rfl rfl I2574.rc ?_
                    rintro h2594 F2595 A2596 I2597 ⟨k2599, k2600, p2598⟩
                    replace p2598 : ((F2572 8) ≤ F2595 8 ∧ F2595 8 ≤ (F2572 7)) ∧ (F2595 6 = 0 → (F2572 6) = 0 ∧ (F2595 9 = 0 ∨ (F2572 8) < F2595 8)) ∧ (F2595 9 = 2 → 0 ≤ F2595 11 ∧ F2595 11 ≤ 9) ∧ (0 ≤ F2595 9 ∧ F2595 9 ≤ 4) := p2598
                    obtain ⟨p2598a, p2598b, p2598c, p2598d⟩ := p2598
                    have k2600 := fr2.nil k2600
                    subst k2600
                    show am_Ok _ _ _ (115, _, [], _, 0, 0) _
                    refine k_aload 116 rfl (gs_ne rfl rfl g0) rfl ?_
                    have e2601 : F2595 7 = F2572 7 := k2599 7 (by decide)
                    have e2602 : F2595 20 = F2572 20 := k2599 20 (by decide)
                    have e2603 : F2572 20 = F2561 20 := k2576 20 (by decide)
                    have e2604 : F2561 20 = x2551.toInt := k2565 20 (by decide)
                    have e2605 : F2595 21 = F2572 21 := k2599 21 (by decide)
                    have e2606 : F2572 21 = F2561 21 := k2576 21 (by decide)
                    have e2607 : F2561 21 = F 21 := k2565 21 (by decide)
                    have e2608 : F2595 18 = F2572 18 := k2599 18 (by decide)
                    have e2609 : F2572 18 = F2561 18 := k2576 18 (by decide)
                    have e2610 : F2561 18 = F 18 := k2565 18 (by decide)
                    have e2611 : F 18 = F0 18 := hF 18 (by decide)
                    have e2612 : F2595 23 = F2572 23 := k2599 23 (by decide)
                    have e2613 : F2572 23 = F2561 23 := k2576 23 (by decide)
                    refine k_rv I2597 rfl (hrec  I2597.1 (show 0 ≤ (F2595 8) ∧ (F2595 8) ≤ (F2595 7) ∧ (F2595 7) ≤ 700 ∧ 0 ≤ (F2595 20) ∧ (F2595 20) ≤ 30 ∧ 0 ≤ (F2595 21) ∧ (F2595 21) ≤ 12 ∧ 0 ≤ (F2595 18) ∧ (F2595 18) ≤ 12 ∧ 0 ≤ (F2595 23) ∧ (F2595 23) ≤ 1000000 ∧ ((F2595 9) = 2 → 0 ≤ (F2595 11) ∧ (F2595 11) ≤ 9) ∧ 0 ≤ (F2595 9) ∧ (F2595 9) ≤ 4 by omega) (show nm ((A2562 16)) ((A2562 17)) ((F2595 18)) by rw [((k2566 16 (by decide)).trans (hA 16 (by decide))), ((k2566 17 (by decide)).trans (hA 17 (by decide))), ((k2599 18 (by decide)).trans ((k2576 18 (by decide)).trans ((k2565 18 (by decide)).trans (hF 18 (by decide)))))]; exact p2) (show (12 - (F2595 21)) + (30 - (F2595 20)) < (gk : Int) by omega)) (Nat.ble_eq_true_of_le (by omega)) rfl rfl I2597.rc ?_
                    rintro h2615 F2616 A2617 I2618 ⟨k2620, k2621, p2619⟩
                    replace p2619 : ((F2595 8) ≤ F2616 8 ∧ F2616 8 ≤ (F2595 7) ∧ (F2595 20) ≤ F2616 20 ∧ F2616 20 ≤ 30 ∧ F2616 21 = (F2595 21) ∧ (F2595 23) ≤ F2616 23 ∧ F2616 23 ≤ 1000000 ∧ (F2616 9 = 2 → 0 ≤ F2616 11 ∧ F2616 11 ≤ 9) ∧ 0 ≤ F2616 9 ∧ F2616 9 ≤ 4) ∧ (F2616 6 = 0 → F2616 20 = (F2595 20) ∧ (F2595 6) = 0 ∧ (F2616 9 = 0 ∨ (F2595 8) < F2616 8)) ∧ (F2616 6 = 0 → F2616 23 ≤ 124 → rd1 (A2617 22) ((A2562 22)) ((F2595 23)) (F2616 23) ((F2595 20))) := p2619
                    obtain ⟨p2619a, p2619b, p2619c⟩ := p2619
                    show am_Ok _ _ _ (119, _, [], _, 0, 0) _
                    refine k_aload 120 rfl (gs_ne rfl rfl g0) rfl ?_
                    refine k_dup 121 rfl rfl rfl ?_
                    refine r_gI I2618 124 rfl rfl rfl (fun x2622 (e2623 : x2622.toInt = F2616 20) => ?_)
                    refine k_iload 125 rfl gs_eq rfl ?_
                    obtain ⟨x2624, q2625⟩ : ∃ q : Int32, q = (x2622 - x2556) := ⟨_, rfl⟩
                    have e2626 : x2624.toInt = x2622.toInt - x2556.toInt := by rw [q2625, iv_sub (by omega) (by omega)]
                    refine k_bin x2624 126 rfl q2625.symm rfl ?_
                    refine r_pI I2618 129 rfl rfl rfl (fun h2627 I2628 => ?_)
                    exact k_fin rfl rfl ⟨_, _, _, rfl, I2628, (fr1.up (by decide) (fr1.tr (by decide) (fr1.tr (by decide) (fr1.tr (by decide) (fr1.tr (by decide) (fr1.up (by decide) hF) k2565) k2576) k2599) k2620)), (fr2.tr (by decide) (fr2.tr (by decide) hA k2566) k2621), ⟨(show (F0 8 ≤ F2616 8 ∧ F2616 8 ≤ F0 7 ∧ F0 20 ≤ x2624.toInt ∧ x2624.toInt ≤ 30 ∧ F2616 21 = F0 21 ∧ F0 23 ≤ F2616 23 ∧ F2616 23 ≤ 1000000 ∧ (F2616 9 = 2 → 0 ≤ F2616 11 ∧ F2616 11 ≤ 9) ∧ 0 ≤ F2616 9 ∧ F2616 9 ≤ 4) by omega), (show (F2616 6 = 0 → x2624.toInt = F0 20 ∧ F0 6 = 0 ∧ (F2616 9 = 0 ∨ F0 8 < F2616 8)) by omega), fun z1 z2 => by have z8 : F2616 6 = 0 := z1; have z9 : F2616 23 ≤ 124 := z2; have h9 := p2619c (by omega) (by omega); show rd1 (A2617 22) (A0 22) (F0 23) (F2616 23) (F0 20); exact fu_end (hfu (by omega)) (by omega) (rd_cg h9 (by omega) (by omega) rfl) (by omega)⟩⟩
                · refine k_c1 11 rfl rfl (if_neg b2582) ?_
                  have b2582 := mt iv_eq0.mpr b2582
                  refine k_push 12 rfl rfl ?_
                  refine k_fin rfl (fin_Z (Or.inl rfl)) ⟨_, _, rfl, rf_len I2574 I2574, ?_⟩
                  show am_Ok _ _ _ (98, _, [.inl (0 : Int32)], _, 0, 0) _
                  refine k_c1 109 rfl rfl (if_pos (by decide)) ?_
                  refine k_aload 110 rfl (gs_ne rfl rfl g0) rfl ?_
                  refine k_push 112 rfl rfl ?_
                  have hc2629 : (46 : Int32).toInt = 46 := by decide
                  have e2630 : F2572 7 = F2561 7 := k2576 7 (by decide)
                  refine k_rv I2574 rfl (m_must  I2574.1 (show 0 ≤ (F2572 8) ∧ (F2572 8) ≤ (F2572 7) ∧ (F2572 7) ≤ 700 ∧ ((F2572 9) = 2 → 0 ≤ (F2572 11) ∧ (F2572 11) ≤ 9) ∧ 0 ≤ (F2572 9) ∧ (F2572 9) ≤ 4 by omega)) (Nat.ble_eq_true_of_le (by omega)) rfl rfl I2574.rc ?_
                  rintro h2632 F2633 A2634 I2635 ⟨k2637, k2638, p2636⟩
                  replace p2636 : ((F2572 8) ≤ F2633 8 ∧ F2633 8 ≤ (F2572 7)) ∧ (F2633 6 = 0 → (F2572 6) = 0 ∧ (F2633 9 = 0 ∨ (F2572 8) < F2633 8)) ∧ (F2633 9 = 2 → 0 ≤ F2633 11 ∧ F2633 11 ≤ 9) ∧ (0 ≤ F2633 9 ∧ F2633 9 ≤ 4) := p2636
                  obtain ⟨p2636a, p2636b, p2636c, p2636d⟩ := p2636
                  have k2638 := fr2.nil k2638
                  subst k2638
                  show am_Ok _ _ _ (115, _, [], _, 0, 0) _
                  refine k_aload 116 rfl (gs_ne rfl rfl g0) rfl ?_
                  have e2639 : F2633 7 = F2572 7 := k2637 7 (by decide)
                  have e2640 : F2633 20 = F2572 20 := k2637 20 (by decide)
                  have e2641 : F2572 20 = F2561 20 := k2576 20 (by decide)
                  have e2642 : F2561 20 = x2551.toInt := k2565 20 (by decide)
                  have e2643 : F2633 21 = F2572 21 := k2637 21 (by decide)
                  have e2644 : F2572 21 = F2561 21 := k2576 21 (by decide)
                  have e2645 : F2561 21 = F 21 := k2565 21 (by decide)
                  have e2646 : F2633 18 = F2572 18 := k2637 18 (by decide)
                  have e2647 : F2572 18 = F2561 18 := k2576 18 (by decide)
                  have e2648 : F2561 18 = F 18 := k2565 18 (by decide)
                  have e2649 : F 18 = F0 18 := hF 18 (by decide)
                  have e2650 : F2633 23 = F2572 23 := k2637 23 (by decide)
                  have e2651 : F2572 23 = F2561 23 := k2576 23 (by decide)
                  refine k_rv I2635 rfl (hrec  I2635.1 (show 0 ≤ (F2633 8) ∧ (F2633 8) ≤ (F2633 7) ∧ (F2633 7) ≤ 700 ∧ 0 ≤ (F2633 20) ∧ (F2633 20) ≤ 30 ∧ 0 ≤ (F2633 21) ∧ (F2633 21) ≤ 12 ∧ 0 ≤ (F2633 18) ∧ (F2633 18) ≤ 12 ∧ 0 ≤ (F2633 23) ∧ (F2633 23) ≤ 1000000 ∧ ((F2633 9) = 2 → 0 ≤ (F2633 11) ∧ (F2633 11) ≤ 9) ∧ 0 ≤ (F2633 9) ∧ (F2633 9) ≤ 4 by omega) (show nm ((A2562 16)) ((A2562 17)) ((F2633 18)) by rw [((k2566 16 (by decide)).trans (hA 16 (by decide))), ((k2566 17 (by decide)).trans (hA 17 (by decide))), ((k2637 18 (by decide)).trans ((k2576 18 (by decide)).trans ((k2565 18 (by decide)).trans (hF 18 (by decide)))))]; exact p2) (show (12 - (F2633 21)) + (30 - (F2633 20)) < (gk : Int) by omega)) (Nat.ble_eq_true_of_le (by omega)) rfl rfl I2635.rc ?_
                  rintro h2653 F2654 A2655 I2656 ⟨k2658, k2659, p2657⟩
                  replace p2657 : ((F2633 8) ≤ F2654 8 ∧ F2654 8 ≤ (F2633 7) ∧ (F2633 20) ≤ F2654 20 ∧ F2654 20 ≤ 30 ∧ F2654 21 = (F2633 21) ∧ (F2633 23) ≤ F2654 23 ∧ F2654 23 ≤ 1000000 ∧ (F2654 9 = 2 → 0 ≤ F2654 11 ∧ F2654 11 ≤ 9) ∧ 0 ≤ F2654 9 ∧ F2654 9 ≤ 4) ∧ (F2654 6 = 0 → F2654 20 = (F2633 20) ∧ (F2633 6) = 0 ∧ (F2654 9 = 0 ∨ (F2633 8) < F2654 8)) ∧ (F2654 6 = 0 → F2654 23 ≤ 124 → rd1 (A2655 22) ((A2562 22)) ((F2633 23)) (F2654 23) ((F2633 20))) := p2657
                  obtain ⟨p2657a, p2657b, p2657c⟩ := p2657
                  show am_Ok _ _ _ (119, _, [], _, 0, 0) _
                  refine k_aload 120 rfl (gs_ne rfl rfl g0) rfl ?_
                  refine k_dup 121 rfl rfl rfl ?_
                  refine r_gI I2656 124 rfl rfl rfl (fun x2660 (e2661 : x2660.toInt = F2654 20) => ?_)
                  refine k_iload 125 rfl gs_eq rfl ?_
                  obtain ⟨x2662, q2663⟩ : ∃ q : Int32, q = (x2660 - x2556) := ⟨_, rfl⟩
                  have e2664 : x2662.toInt = x2660.toInt - x2556.toInt := by rw [q2663, iv_sub (by omega) (by omega)]
                  refine k_bin x2662 126 rfl q2663.symm rfl ?_
                  refine r_pI I2656 129 rfl rfl rfl (fun h2665 I2666 => ?_)
                  exact k_fin rfl rfl ⟨_, _, _, rfl, I2666, (fr1.up (by decide) (fr1.tr (by decide) (fr1.tr (by decide) (fr1.tr (by decide) (fr1.tr (by decide) (fr1.up (by decide) hF) k2565) k2576) k2637) k2658)), (fr2.tr (by decide) (fr2.tr (by decide) hA k2566) k2659), ⟨(show (F0 8 ≤ F2654 8 ∧ F2654 8 ≤ F0 7 ∧ F0 20 ≤ x2662.toInt ∧ x2662.toInt ≤ 30 ∧ F2654 21 = F0 21 ∧ F0 23 ≤ F2654 23 ∧ F2654 23 ≤ 1000000 ∧ (F2654 9 = 2 → 0 ≤ F2654 11 ∧ F2654 11 ≤ 9) ∧ 0 ≤ F2654 9 ∧ F2654 9 ≤ 4) by omega), (show (F2654 6 = 0 → x2662.toInt = F0 20 ∧ F0 6 = 0 ∧ (F2654 9 = 0 ∨ F0 8 < F2654 8)) by omega), fun z1 z2 => by have z8 : F2654 6 = 0 := z1; have z9 : F2654 23 ≤ 124 := z2; have h9 := p2657c (by omega) (by omega); show rd1 (A2655 22) (A0 22) (F0 23) (F2654 23) (F0 20); exact fu_end (hfu (by omega)) (by omega) (rd_cg h9 (by omega) (by omega) rfl) (by omega)⟩⟩
              · refine k_c1 11 rfl rfl (if_neg b2543) ?_
                have b2543 := mt iv_eq0.mpr b2543
                refine k_push 12 rfl rfl ?_
                refine k_fin rfl (fin_Z (Or.inl rfl)) ⟨_, _, rfl, rf_len hI hI, ?_⟩
                show am_Ok _ _ _ (28, _, [.inl (0 : Int32)], _, 0, 0) _
                refine k_fin rfl (fin_Z (Or.inl rfl)) ⟨_, _, rfl, rf_len hI hI, ?_⟩
                show am_Ok _ _ _ (55, _, [.inl (0 : Int32)], _, 0, 0) _
                refine k_c1 58 rfl rfl (if_pos (by decide)) ?_
                exact k_fin rfl rfl ⟨_, _, _, rfl, hI, hF, hA, ⟨(show (F0 8 ≤ F 8 ∧ F 8 ≤ F0 7 ∧ F0 20 ≤ F 20 ∧ F 20 ≤ 30 ∧ F 21 = F0 21 ∧ F0 23 ≤ F 23 ∧ F 23 ≤ 1000000 ∧ (F 9 = 2 → 0 ≤ F 11 ∧ F 11 ≤ 9) ∧ 0 ≤ F 9 ∧ F 9 ≤ 4) by omega), (show (F 6 = 0 → F 20 = F0 20 ∧ F0 6 = 0 ∧ (F 9 = 0 ∨ F0 8 < F 8)) by omega), fun z => absurd (show F 6 = 0 from z) (by omega)⟩⟩
          · refine k_c2 37 rfl rfl (if_neg b2404) ?_
            have b2404 := mt iv_lt.mpr b2404
            refine k_aload 38 rfl g0 rfl ?_
            refine r_gI hI 41 rfl rfl rfl (fun x2667 (e2668 : x2667.toInt = F 20) => ?_)
            refine k_push 43 rfl rfl ?_
            have hc2669 : (30 : Int32).toInt = 30 := by decide
            by_cases b2670 : (30 : Int32) ≤ x2667
            · refine k_c2 50 rfl rfl (if_pos b2670) ?_
              have b2670 := iv_le.mp b2670
              refine k_push 51 rfl rfl ?_
              refine k_push 52 rfl rfl ?_
              have hc2671 : (2 : Int32).toInt = 2 := by decide
              refine k_in (d := 1) rfl (Nat.ble_eq_true_of_le (by omega)) rfl rfl hI.rc ?_
              refine k_aload 1 rfl rfl rfl ?_
              refine k_in (d := 0) rfl (Nat.ble_eq_true_of_le (by omega)) rfl rfl hI.rc ?_
              refine k_aload 1 rfl rfl rfl ?_
              refine r_gI hI 4 rfl rfl rfl (fun x2672 (e2673 : x2672.toInt = F 6) => ?_)
              by_cases b2674 : x2672 = 0
              · refine k_c1 7 rfl rfl (if_pos b2674) ?_
                have b2674 := iv_eq0.mp b2674
                refine k_push 8 rfl rfl ?_
                refine k_goto 12 rfl rfl ?_
                refine k_fin rfl (fin_Z (Or.inr rfl)) ⟨_, _, rfl, rf_len hI hI, ?_⟩
                show am_Ok _ _ _ (4, _, [.inl (1 : Int32)], _, 0, 0) _
                refine k_c1 7 rfl rfl (if_neg (by decide)) ?_
                refine k_iload 8 rfl rfl rfl ?_
                refine k_c1 11 rfl rfl (if_pos (by decide)) ?_
                refine k_aload 12 rfl rfl rfl ?_
                refine k_iload 13 rfl rfl rfl ?_
                refine r_pI hI 16 rfl rfl rfl (fun h2675 I2676 => ?_)
                refine k_aload 17 rfl rfl rfl ?_
                refine k_aload 18 rfl rfl rfl ?_
                refine r_gI I2676 21 rfl rfl rfl (fun x2677 (e2678 : x2677.toInt = F 10) => ?_)
                refine r_pI I2676 24 rfl rfl rfl (fun h2679 I2680 => ?_)
                refine k_aload 25 rfl rfl rfl ?_
                refine k_in (d := 0) rfl (Nat.ble_eq_true_of_le (by omega)) rfl rfl I2680.rc ?_
                refine k_aload 1 rfl rfl rfl ?_
                refine r_gI I2680 4 rfl rfl rfl (fun x2681 (e2682 : x2681.toInt = (2 : Int32).toInt) => ?_)
                by_cases b2683 : x2681 = 0
                · refine k_c1 7 rfl rfl (if_pos b2683) ?_
                  have b2683 := iv_eq0.mp b2683
                  refine k_push 8 rfl rfl ?_
                  refine k_goto 12 rfl rfl ?_
                  refine k_fin rfl (fin_Z (Or.inr rfl)) ⟨_, _, rfl, rf_len I2680 I2680, ?_⟩
                  show am_Ok _ _ _ (28, _, [.inl (1 : Int32)], _, 0, 0) _
                  refine k_fin rfl (fin_Z (Or.inr rfl)) ⟨_, _, rfl, rf_len hI I2680, ?_⟩
                  show am_Ok _ _ _ (55, _, [.inl (1 : Int32)], _, 0, 0) _
                  refine k_c1 59 rfl rfl (if_neg (by decide)) ?_
                  refine k_aload 60 rfl g0 rfl ?_
                  refine r_gA I2680 63 rfl rfl rfl ?_
                  refine k_aload 64 rfl g0 rfl ?_
                  refine r_gI I2680 67 rfl rfl rfl (fun x2684 (e2685 : x2684.toInt = F 20) => ?_)
                  refine k_aload 68 rfl g0 rfl ?_
                  refine r_gJ I2680 71 rfl rfl rfl (fun y2686 => ?_)
                  refine r_lst 19 I2680 72 rfl rfl (by omega) (show x2684.toInt < 31 by omega) rfl (fun h2687 I2688 => ?_)
                  refine k_aload 73 rfl g0 rfl ?_
                  refine k_dup 74 rfl rfl rfl ?_
                  refine r_gI I2688 77 rfl rfl rfl (fun x2689 (e2690 : x2689.toInt = F 20) => ?_)
                  refine k_push 78 rfl rfl ?_
                  obtain ⟨x2691, q2692⟩ : ∃ q : Int32, q = (x2689 + (1 : Int32)) := ⟨_, rfl⟩
                  have e2693 : x2691.toInt = x2689.toInt + 1 := by rw [q2692, iv_add (by omega) (by omega)]; omega
                  refine k_bin x2691 79 rfl q2692.symm rfl ?_
                  refine r_pI I2688 82 rfl rfl rfl (fun h2694 I2695 => ?_)
                  obtain ⟨x2696, q2697⟩ : ∃ q : Int32, q = v1 + (1 : Int32) := ⟨_, rfl⟩
                  have e2698 : x2696.toInt = v1.toInt + 1 := by rw [q2697, iv_add (by omega) (by omega)]; omega
                  refine k_iinc x2696 85 rfl g1 q2697.symm rfl ?_
                  refine k_aload 86 rfl (gs_ne rfl rfl g0) rfl ?_
                  refine k_push 87 rfl rfl ?_
                  refine k_rv I2695 rfl (m_emits  I2695.1 (show 0 ≤ (F 23) ∧ (F 23) ≤ 1000000 by omega)) (Nat.ble_eq_true_of_le (by omega)) rfl rfl I2695.rc ?_
                  rintro h2700 F2701 A2702 I2703 ⟨k2705, k2706, p2704⟩
                  replace p2704 : ((F 23) ≤ F2701 23 ∧ F2701 23 ≤ 1000000) ∧ (F2701 23 ≤ 124 → F2701 23 = (F 23) + 1) ∧ (F2701 23 ≤ 124 → A2702 22 ((F 23)) = (1 : Int32).toInt ∧ ∀ q : Int, q ≠ (F 23) → A2702 22 q = (A 22) q) := p2704
                  obtain ⟨p2704a, p2704b, p2704c⟩ := p2704
                  show am_Ok _ _ _ (90, _, [], _, 0, 0) _
                  have hfu : F2701 23 ≤ 124 → fu (A2702 22) (A0 22) (F0 23) (F2701 23) (v1.toInt + 1) := fun z9 => fu_s (i2 (by omega)) (p2704b z9) ((p2704c z9).1.trans (by decide)) (p2704c z9).2 (by omega) rfl
                  refine k_aload 91 rfl (gs_ne rfl rfl g0) rfl ?_
                  have e2707 : F2701 8 = F 8 := k2705 8 (by decide)
                  have e2708 : F2701 7 = F 7 := k2705 7 (by decide)
                  have e2709 : F 7 = F0 7 := hF 7 (by decide)
                  refine k_rv I2703 rfl (m_goes  I2703.1 (show 0 ≤ (F2701 8) ∧ (F2701 8) ≤ (F2701 7) ∧ (F2701 7) ≤ 700 by omega)) (Nat.ble_eq_true_of_le (by omega)) rfl rfl I2703.rc ?_
                  rintro h2711 F2712 A2713 I2714 ⟨k2716, k2717, p2715⟩
                  replace p2715 : ((F2701 8) ≤ F2712 8 ∧ F2712 8 ≤ (F2701 7)) ∧ (F2712 9 = 0 ∨ (F2701 8) < F2712 8) ∧ (F2712 9 = 2 → 0 ≤ F2712 11 ∧ F2712 11 ≤ 9) ∧ (0 ≤ F2712 9 ∧ F2712 9 ≤ 4) := p2715
                  obtain ⟨p2715a, p2715b, p2715c, p2715d⟩ := p2715
                  have k2717 := fr2.nil k2717
                  subst k2717
                  show am_Ok _ _ _ (94, _, [], _, 0, 0) _
                  refine k_aload 95 rfl (gs_ne rfl rfl g0) rfl ?_
                  refine k_in (d := 0) rfl (Nat.ble_eq_true_of_le (by omega)) rfl rfl I2714.rc ?_
                  refine k_aload 1 rfl rfl rfl ?_
                  refine r_gI I2714 4 rfl rfl rfl (fun x2718 (e2719 : x2718.toInt = F2712 6) => ?_)
                  have e2720 : F2712 6 = F2701 6 := k2716 6 (by decide)
                  have e2721 : F2701 6 = (2 : Int32).toInt := k2705 6 (by decide)
                  by_cases b2722 : x2718 = 0
                  · refine k_c1 7 rfl rfl (if_pos b2722) ?_
                    have b2722 := iv_eq0.mp b2722
                    refine k_push 8 rfl rfl ?_
                    refine k_goto 12 rfl rfl ?_
                    refine k_fin rfl (fin_Z (Or.inr rfl)) ⟨_, _, rfl, rf_len I2714 I2714, ?_⟩
                    show am_Ok _ _ _ (98, _, [.inl (1 : Int32)], _, 0, 0) _
                    refine k_c1 101 rfl rfl (if_neg (by decide)) ?_
                    refine k_aload 102 rfl (gs_ne rfl rfl g0) rfl ?_
                    refine r_gI I2714 105 rfl rfl rfl (fun x2723 (e2724 : x2723.toInt = F2712 9) => ?_)
                    refine k_push 106 rfl rfl ?_
                    by_cases b2725 : x2723 = (1 : Int32)
                    · refine k_c2 6 rfl rfl (if_pos b2725) ?_
                      have b2725 := iv_eq.mp b2725
                      have e2726 : F2712 20 = F2701 20 := k2716 20 (by decide)
                      have e2727 : F2701 20 = x2691.toInt := k2705 20 (by decide)
                      have e2728 : F2712 21 = F2701 21 := k2716 21 (by decide)
                      have e2729 : F2701 21 = F 21 := k2705 21 (by decide)
                      have e2730 : F2712 23 = F2701 23 := k2716 23 (by decide)
                      exact ih _ (show ((31 - x2696.toInt).toNat) < n by omega)  rfl (gs_ne rfl rfl g0) gs_eq I2714 (fr1.tr (by decide) (fr1.tr (by decide) (fr1.up (by decide) (fr1.up (by decide) (fr1.up (by decide) hF))) k2705) k2716) (fr2.tr (by decide) hA k2706) (show F0 8 ≤ (F2712 8) ∧ (F2712 8) ≤ F0 7 ∧ (F2712 20) = F0 20 + x2696.toInt ∧ 0 ≤ x2696.toInt ∧ (F2712 20) ≤ 30 ∧ (F2712 21) = F0 21 ∧ F0 23 ≤ (F2712 23) ∧ (F2712 23) ≤ 1000000 ∧ ((F2712 9) = 2 → 0 ≤ (F2712 11) ∧ (F2712 11) ≤ 9) ∧ 0 ≤ (F2712 9) ∧ (F2712 9) ≤ 4 ∧ (F2712 6) = 0 by omega) (fun z => by have z9 : F2712 23 ≤ 124 := z; show fu (A2702 22) (A0 22) (F0 23) (F2712 23) x2696.toInt; exact fu_cg (hfu (by omega)) (by omega) (by omega))
                    · refine k_c2 109 rfl rfl (if_neg b2725) ?_
                      have b2725 := mt iv_eq.mpr b2725
                      refine k_aload 110 rfl (gs_ne rfl rfl g0) rfl ?_
                      refine k_push 112 rfl rfl ?_
                      have hc2731 : (46 : Int32).toInt = 46 := by decide
                      have e2732 : F2712 7 = F2701 7 := k2716 7 (by decide)
                      refine k_rv I2714 rfl (m_must  I2714.1 (show 0 ≤ (F2712 8) ∧ (F2712 8) ≤ (F2712 7) ∧ (F2712 7) ≤ 700 ∧ ((F2712 9) = 2 → 0 ≤ (F2712 11) ∧ (F2712 11) ≤ 9) ∧ 0 ≤ (F2712 9) ∧ (F2712 9) ≤ 4 by omega)) (Nat.ble_eq_true_of_le (by omega)) rfl rfl I2714.rc ?_
                      rintro h2734 F2735 A2736 I2737 ⟨k2739, k2740, p2738⟩
                      replace p2738 : ((F2712 8) ≤ F2735 8 ∧ F2735 8 ≤ (F2712 7)) ∧ (F2735 6 = 0 → (F2712 6) = 0 ∧ (F2735 9 = 0 ∨ (F2712 8) < F2735 8)) ∧ (F2735 9 = 2 → 0 ≤ F2735 11 ∧ F2735 11 ≤ 9) ∧ (0 ≤ F2735 9 ∧ F2735 9 ≤ 4) := p2738
                      obtain ⟨p2738a, p2738b, p2738c, p2738d⟩ := p2738
                      have k2740 := fr2.nil k2740
                      subst k2740
                      show am_Ok _ _ _ (115, _, [], _, 0, 0) _
                      refine k_aload 116 rfl (gs_ne rfl rfl g0) rfl ?_
                      have e2741 : F2735 7 = F2712 7 := k2739 7 (by decide)
                      have e2742 : F2735 20 = F2712 20 := k2739 20 (by decide)
                      have e2743 : F2712 20 = F2701 20 := k2716 20 (by decide)
                      have e2744 : F2701 20 = x2691.toInt := k2705 20 (by decide)
                      have e2745 : F2735 21 = F2712 21 := k2739 21 (by decide)
                      have e2746 : F2712 21 = F2701 21 := k2716 21 (by decide)
                      have e2747 : F2701 21 = F 21 := k2705 21 (by decide)
                      have e2748 : F2735 18 = F2712 18 := k2739 18 (by decide)
                      have e2749 : F2712 18 = F2701 18 := k2716 18 (by decide)
                      have e2750 : F2701 18 = F 18 := k2705 18 (by decide)
                      have e2751 : F 18 = F0 18 := hF 18 (by decide)
                      have e2752 : F2735 23 = F2712 23 := k2739 23 (by decide)
                      have e2753 : F2712 23 = F2701 23 := k2716 23 (by decide)
                      refine k_rv I2737 rfl (hrec  I2737.1 (show 0 ≤ (F2735 8) ∧ (F2735 8) ≤ (F2735 7) ∧ (F2735 7) ≤ 700 ∧ 0 ≤ (F2735 20) ∧ (F2735 20) ≤ 30 ∧ 0 ≤ (F2735 21) ∧ (F2735 21) ≤ 12 ∧ 0 ≤ (F2735 18) ∧ (F2735 18) ≤ 12 ∧ 0 ≤ (F2735 23) ∧ (F2735 23) ≤ 1000000 ∧ ((F2735 9) = 2 → 0 ≤ (F2735 11) ∧ (F2735 11) ≤ 9) ∧ 0 ≤ (F2735 9) ∧ (F2735 9) ≤ 4 by omega) (show nm ((A2702 16)) ((A2702 17)) ((F2735 18)) by rw [((k2706 16 (by decide)).trans (hA 16 (by decide))), ((k2706 17 (by decide)).trans (hA 17 (by decide))), ((k2739 18 (by decide)).trans ((k2716 18 (by decide)).trans ((k2705 18 (by decide)).trans (hF 18 (by decide)))))]; exact p2) (show (12 - (F2735 21)) + (30 - (F2735 20)) < (gk : Int) by omega)) (Nat.ble_eq_true_of_le (by omega)) rfl rfl I2737.rc ?_
                      rintro h2755 F2756 A2757 I2758 ⟨k2760, k2761, p2759⟩
                      replace p2759 : ((F2735 8) ≤ F2756 8 ∧ F2756 8 ≤ (F2735 7) ∧ (F2735 20) ≤ F2756 20 ∧ F2756 20 ≤ 30 ∧ F2756 21 = (F2735 21) ∧ (F2735 23) ≤ F2756 23 ∧ F2756 23 ≤ 1000000 ∧ (F2756 9 = 2 → 0 ≤ F2756 11 ∧ F2756 11 ≤ 9) ∧ 0 ≤ F2756 9 ∧ F2756 9 ≤ 4) ∧ (F2756 6 = 0 → F2756 20 = (F2735 20) ∧ (F2735 6) = 0 ∧ (F2756 9 = 0 ∨ (F2735 8) < F2756 8)) ∧ (F2756 6 = 0 → F2756 23 ≤ 124 → rd1 (A2757 22) ((A2702 22)) ((F2735 23)) (F2756 23) ((F2735 20))) := p2759
                      obtain ⟨p2759a, p2759b, p2759c⟩ := p2759
                      show am_Ok _ _ _ (119, _, [], _, 0, 0) _
                      refine k_aload 120 rfl (gs_ne rfl rfl g0) rfl ?_
                      refine k_dup 121 rfl rfl rfl ?_
                      refine r_gI I2758 124 rfl rfl rfl (fun x2762 (e2763 : x2762.toInt = F2756 20) => ?_)
                      refine k_iload 125 rfl gs_eq rfl ?_
                      obtain ⟨x2764, q2765⟩ : ∃ q : Int32, q = (x2762 - x2696) := ⟨_, rfl⟩
                      have e2766 : x2764.toInt = x2762.toInt - x2696.toInt := by rw [q2765, iv_sub (by omega) (by omega)]
                      refine k_bin x2764 126 rfl q2765.symm rfl ?_
                      refine r_pI I2758 129 rfl rfl rfl (fun h2767 I2768 => ?_)
                      exact k_fin rfl rfl ⟨_, _, _, rfl, I2768, (fr1.up (by decide) (fr1.tr (by decide) (fr1.tr (by decide) (fr1.tr (by decide) (fr1.tr (by decide) (fr1.up (by decide) (fr1.up (by decide) (fr1.up (by decide) hF))) k2705) k2716) k2739) k2760)), (fr2.tr (by decide) (fr2.tr (by decide) hA k2706) k2761), ⟨(show (F0 8 ≤ F2756 8 ∧ F2756 8 ≤ F0 7 ∧ F0 20 ≤ x2764.toInt ∧ x2764.toInt ≤ 30 ∧ F2756 21 = F0 21 ∧ F0 23 ≤ F2756 23 ∧ F2756 23 ≤ 1000000 ∧ (F2756 9 = 2 → 0 ≤ F2756 11 ∧ F2756 11 ≤ 9) ∧ 0 ≤ F2756 9 ∧ F2756 9 ≤ 4) by omega), (show (F2756 6 = 0 → x2764.toInt = F0 20 ∧ F0 6 = 0 ∧ (F2756 9 = 0 ∨ F0 8 < F2756 8)) by omega), fun z1 z2 => by have z8 : F2756 6 = 0 := z1; have z9 : F2756 23 ≤ 124 := z2; have h9 := p2759c (by omega) (by omega); show rd1 (A2757 22) (A0 22) (F0 23) (F2756 23) (F0 20); exact fu_end (hfu (by omega)) (by omega) (rd_cg h9 (by omega) (by omega) rfl) (by omega)⟩⟩
                  · refine k_c1 11 rfl rfl (if_neg b2722) ?_
                    have b2722 := mt iv_eq0.mpr b2722
                    refine k_push 12 rfl rfl ?_
                    refine k_fin rfl (fin_Z (Or.inl rfl)) ⟨_, _, rfl, rf_len I2714 I2714, ?_⟩
                    show am_Ok _ _ _ (98, _, [.inl (0 : Int32)], _, 0, 0) _
                    refine k_c1 109 rfl rfl (if_pos (by decide)) ?_
                    refine k_aload 110 rfl (gs_ne rfl rfl g0) rfl ?_
                    refine k_push 112 rfl rfl ?_
                    have hc2769 : (46 : Int32).toInt = 46 := by decide
                    have e2770 : F2712 7 = F2701 7 := k2716 7 (by decide)
                    refine k_rv I2714 rfl (m_must  I2714.1 (show 0 ≤ (F2712 8) ∧ (F2712 8) ≤ (F2712 7) ∧ (F2712 7) ≤ 700 ∧ ((F2712 9) = 2 → 0 ≤ (F2712 11) ∧ (F2712 11) ≤ 9) ∧ 0 ≤ (F2712 9) ∧ (F2712 9) ≤ 4 by omega)) (Nat.ble_eq_true_of_le (by omega)) rfl rfl I2714.rc ?_
                    rintro h2772 F2773 A2774 I2775 ⟨k2777, k2778, p2776⟩
                    replace p2776 : ((F2712 8) ≤ F2773 8 ∧ F2773 8 ≤ (F2712 7)) ∧ (F2773 6 = 0 → (F2712 6) = 0 ∧ (F2773 9 = 0 ∨ (F2712 8) < F2773 8)) ∧ (F2773 9 = 2 → 0 ≤ F2773 11 ∧ F2773 11 ≤ 9) ∧ (0 ≤ F2773 9 ∧ F2773 9 ≤ 4) := p2776
                    obtain ⟨p2776a, p2776b, p2776c, p2776d⟩ := p2776
                    have k2778 := fr2.nil k2778
                    subst k2778
                    show am_Ok _ _ _ (115, _, [], _, 0, 0) _
                    refine k_aload 116 rfl (gs_ne rfl rfl g0) rfl ?_
                    have e2779 : F2773 7 = F2712 7 := k2777 7 (by decide)
                    have e2780 : F2773 20 = F2712 20 := k2777 20 (by decide)
                    have e2781 : F2712 20 = F2701 20 := k2716 20 (by decide)
                    have e2782 : F2701 20 = x2691.toInt := k2705 20 (by decide)
                    have e2783 : F2773 21 = F2712 21 := k2777 21 (by decide)
                    have e2784 : F2712 21 = F2701 21 := k2716 21 (by decide)
                    have e2785 : F2701 21 = F 21 := k2705 21 (by decide)
                    have e2786 : F2773 18 = F2712 18 := k2777 18 (by decide)
                    have e2787 : F2712 18 = F2701 18 := k2716 18 (by decide)
                    have e2788 : F2701 18 = F 18 := k2705 18 (by decide)
                    have e2789 : F 18 = F0 18 := hF 18 (by decide)
                    have e2790 : F2773 23 = F2712 23 := k2777 23 (by decide)
                    have e2791 : F2712 23 = F2701 23 := k2716 23 (by decide)
                    refine k_rv I2775 rfl (hrec  I2775.1 (show 0 ≤ (F2773 8) ∧ (F2773 8) ≤ (F2773 7) ∧ (F2773 7) ≤ 700 ∧ 0 ≤ (F2773 20) ∧ (F2773 20) ≤ 30 ∧ 0 ≤ (F2773 21) ∧ (F2773 21) ≤ 12 ∧ 0 ≤ (F2773 18) ∧ (F2773 18) ≤ 12 ∧ 0 ≤ (F2773 23) ∧ (F2773 23) ≤ 1000000 ∧ ((F2773 9) = 2 → 0 ≤ (F2773 11) ∧ (F2773 11) ≤ 9) ∧ 0 ≤ (F2773 9) ∧ (F2773 9) ≤ 4 by omega) (show nm ((A2702 16)) ((A2702 17)) ((F2773 18)) by rw [((k2706 16 (by decide)).trans (hA 16 (by decide))), ((k2706 17 (by decide)).trans (hA 17 (by decide))), ((k2777 18 (by decide)).trans ((k2716 18 (by decide)).trans ((k2705 18 (by decide)).trans (hF 18 (by decide)))))]; exact p2) (show (12 - (F2773 21)) + (30 - (F2773 20)) < (gk : Int) by omega)) (Nat.ble_eq_true_of_le (by omega)) rfl rfl I2775.rc ?_
                    rintro h2793 F2794 A2795 I2796 ⟨k2798, k2799, p2797⟩
                    replace p2797 : ((F2773 8) ≤ F2794 8 ∧ F2794 8 ≤ (F2773 7) ∧ (F2773 20) ≤ F2794 20 ∧ F2794 20 ≤ 30 ∧ F2794 21 = (F2773 21) ∧ (F2773 23) ≤ F2794 23 ∧ F2794 23 ≤ 1000000 ∧ (F2794 9 = 2 → 0 ≤ F2794 11 ∧ F2794 11 ≤ 9) ∧ 0 ≤ F2794 9 ∧ F2794 9 ≤ 4) ∧ (F2794 6 = 0 → F2794 20 = (F2773 20) ∧ (F2773 6) = 0 ∧ (F2794 9 = 0 ∨ (F2773 8) < F2794 8)) ∧ (F2794 6 = 0 → F2794 23 ≤ 124 → rd1 (A2795 22) ((A2702 22)) ((F2773 23)) (F2794 23) ((F2773 20))) := p2797
                    obtain ⟨p2797a, p2797b, p2797c⟩ := p2797
                    show am_Ok _ _ _ (119, _, [], _, 0, 0) _
                    refine k_aload 120 rfl (gs_ne rfl rfl g0) rfl ?_
                    refine k_dup 121 rfl rfl rfl ?_
                    refine r_gI I2796 124 rfl rfl rfl (fun x2800 (e2801 : x2800.toInt = F2794 20) => ?_)
                    refine k_iload 125 rfl gs_eq rfl ?_
                    obtain ⟨x2802, q2803⟩ : ∃ q : Int32, q = (x2800 - x2696) := ⟨_, rfl⟩
                    have e2804 : x2802.toInt = x2800.toInt - x2696.toInt := by rw [q2803, iv_sub (by omega) (by omega)]
                    refine k_bin x2802 126 rfl q2803.symm rfl ?_
                    refine r_pI I2796 129 rfl rfl rfl (fun h2805 I2806 => ?_)
                    exact k_fin rfl rfl ⟨_, _, _, rfl, I2806, (fr1.up (by decide) (fr1.tr (by decide) (fr1.tr (by decide) (fr1.tr (by decide) (fr1.tr (by decide) (fr1.up (by decide) (fr1.up (by decide) (fr1.up (by decide) hF))) k2705) k2716) k2777) k2798)), (fr2.tr (by decide) (fr2.tr (by decide) hA k2706) k2799), ⟨(show (F0 8 ≤ F2794 8 ∧ F2794 8 ≤ F0 7 ∧ F0 20 ≤ x2802.toInt ∧ x2802.toInt ≤ 30 ∧ F2794 21 = F0 21 ∧ F0 23 ≤ F2794 23 ∧ F2794 23 ≤ 1000000 ∧ (F2794 9 = 2 → 0 ≤ F2794 11 ∧ F2794 11 ≤ 9) ∧ 0 ≤ F2794 9 ∧ F2794 9 ≤ 4) by omega), (show (F2794 6 = 0 → x2802.toInt = F0 20 ∧ F0 6 = 0 ∧ (F2794 9 = 0 ∨ F0 8 < F2794 8)) by omega), fun z1 z2 => by have z8 : F2794 6 = 0 := z1; have z9 : F2794 23 ≤ 124 := z2; have h9 := p2797c (by omega) (by omega); show rd1 (A2795 22) (A0 22) (F0 23) (F2794 23) (F0 20); exact fu_end (hfu (by omega)) (by omega) (rd_cg h9 (by omega) (by omega) rfl) (by omega)⟩⟩
                · refine k_c1 11 rfl rfl (if_neg b2683) ?_
                  have b2683 := mt iv_eq0.mpr b2683
                  refine k_push 12 rfl rfl ?_
                  refine k_fin rfl (fin_Z (Or.inl rfl)) ⟨_, _, rfl, rf_len I2680 I2680, ?_⟩
                  show am_Ok _ _ _ (28, _, [.inl (0 : Int32)], _, 0, 0) _
                  refine k_fin rfl (fin_Z (Or.inl rfl)) ⟨_, _, rfl, rf_len hI I2680, ?_⟩
                  show am_Ok _ _ _ (55, _, [.inl (0 : Int32)], _, 0, 0) _
                  refine k_c1 58 rfl rfl (if_pos (by decide)) ?_
                  exact k_fin rfl rfl ⟨_, _, _, rfl, I2680, (fr1.up (by decide) (fr1.up (by decide) hF)), hA, ⟨(show (F0 8 ≤ F 8 ∧ F 8 ≤ F0 7 ∧ F0 20 ≤ F 20 ∧ F 20 ≤ 30 ∧ F 21 = F0 21 ∧ F0 23 ≤ F 23 ∧ F 23 ≤ 1000000 ∧ (F 9 = 2 → 0 ≤ F 11 ∧ F 11 ≤ 9) ∧ 0 ≤ F 9 ∧ F 9 ≤ 4) by omega), (show ((2 : Int32).toInt = 0 → F 20 = F0 20 ∧ F0 6 = 0 ∧ (F 9 = 0 ∨ F0 8 < F 8)) by omega), fun z => absurd (show (2 : Int32).toInt = 0 from z) (by omega)⟩⟩
              · refine k_c1 11 rfl rfl (if_neg b2674) ?_
                have b2674 := mt iv_eq0.mpr b2674
                refine k_push 12 rfl rfl ?_
                refine k_fin rfl (fin_Z (Or.inl rfl)) ⟨_, _, rfl, rf_len hI hI, ?_⟩
                show am_Ok _ _ _ (4, _, [.inl (0 : Int32)], _, 0, 0) _
                refine k_c1 24 rfl rfl (if_pos (by decide)) ?_
                refine k_aload 25 rfl rfl rfl ?_
                refine k_in (d := 0) rfl (Nat.ble_eq_true_of_le (by omega)) rfl rfl hI.rc ?_
                refine k_aload 1 rfl rfl rfl ?_
                refine r_gI hI 4 rfl rfl rfl (fun x2807 (e2808 : x2807.toInt = F 6) => ?_)
                by_cases b2809 : x2807 = 0
                · refine k_c1 7 rfl rfl (if_pos b2809) ?_
                  have b2809 := iv_eq0.mp b2809
                  refine k_push 8 rfl rfl ?_
                  refine k_goto 12 rfl rfl ?_
                  refine k_fin rfl (fin_Z (Or.inr rfl)) ⟨_, _, rfl, rf_len hI hI, ?_⟩
                  show am_Ok _ _ _ (28, _, [.inl (1 : Int32)], _, 0, 0) _
                  refine k_fin rfl (fin_Z (Or.inr rfl)) ⟨_, _, rfl, rf_len hI hI, ?_⟩
                  show am_Ok _ _ _ (55, _, [.inl (1 : Int32)], _, 0, 0) _
                  refine k_c1 59 rfl rfl (if_neg (by decide)) ?_
                  refine k_aload 60 rfl g0 rfl ?_
                  refine r_gA hI 63 rfl rfl rfl ?_
                  refine k_aload 64 rfl g0 rfl ?_
                  refine r_gI hI 67 rfl rfl rfl (fun x2810 (e2811 : x2810.toInt = F 20) => ?_)
                  refine k_aload 68 rfl g0 rfl ?_
                  refine r_gJ hI 71 rfl rfl rfl (fun y2812 => ?_)
                  refine r_lst 19 hI 72 rfl rfl (by omega) (show x2810.toInt < 31 by omega) rfl (fun h2813 I2814 => ?_)
                  refine k_aload 73 rfl g0 rfl ?_
                  refine k_dup 74 rfl rfl rfl ?_
                  refine r_gI I2814 77 rfl rfl rfl (fun x2815 (e2816 : x2815.toInt = F 20) => ?_)
                  refine k_push 78 rfl rfl ?_
                  obtain ⟨x2817, q2818⟩ : ∃ q : Int32, q = (x2815 + (1 : Int32)) := ⟨_, rfl⟩
                  have e2819 : x2817.toInt = x2815.toInt + 1 := by rw [q2818, iv_add (by omega) (by omega)]; omega
                  refine k_bin x2817 79 rfl q2818.symm rfl ?_
                  refine r_pI I2814 82 rfl rfl rfl (fun h2820 I2821 => ?_)
                  obtain ⟨x2822, q2823⟩ : ∃ q : Int32, q = v1 + (1 : Int32) := ⟨_, rfl⟩
                  have e2824 : x2822.toInt = v1.toInt + 1 := by rw [q2823, iv_add (by omega) (by omega)]; omega
                  refine k_iinc x2822 85 rfl g1 q2823.symm rfl ?_
                  refine k_aload 86 rfl (gs_ne rfl rfl g0) rfl ?_
                  refine k_push 87 rfl rfl ?_
                  refine k_rv I2821 rfl (m_emits  I2821.1 (show 0 ≤ (F 23) ∧ (F 23) ≤ 1000000 by omega)) (Nat.ble_eq_true_of_le (by omega)) rfl rfl I2821.rc ?_
                  rintro h2826 F2827 A2828 I2829 ⟨k2831, k2832, p2830⟩
                  replace p2830 : ((F 23) ≤ F2827 23 ∧ F2827 23 ≤ 1000000) ∧ (F2827 23 ≤ 124 → F2827 23 = (F 23) + 1) ∧ (F2827 23 ≤ 124 → A2828 22 ((F 23)) = (1 : Int32).toInt ∧ ∀ q : Int, q ≠ (F 23) → A2828 22 q = (A 22) q) := p2830
                  obtain ⟨p2830a, p2830b, p2830c⟩ := p2830
                  show am_Ok _ _ _ (90, _, [], _, 0, 0) _
                  have hfu : F2827 23 ≤ 124 → fu (A2828 22) (A0 22) (F0 23) (F2827 23) (v1.toInt + 1) := fun z9 => fu_s (i2 (by omega)) (p2830b z9) ((p2830c z9).1.trans (by decide)) (p2830c z9).2 (by omega) rfl
                  refine k_aload 91 rfl (gs_ne rfl rfl g0) rfl ?_
                  have e2833 : F2827 8 = F 8 := k2831 8 (by decide)
                  have e2834 : F2827 7 = F 7 := k2831 7 (by decide)
                  have e2835 : F 7 = F0 7 := hF 7 (by decide)
                  refine k_rv I2829 rfl (m_goes  I2829.1 (show 0 ≤ (F2827 8) ∧ (F2827 8) ≤ (F2827 7) ∧ (F2827 7) ≤ 700 by omega)) (Nat.ble_eq_true_of_le (by omega)) rfl rfl I2829.rc ?_
                  rintro h2837 F2838 A2839 I2840 ⟨k2842, k2843, p2841⟩
                  replace p2841 : ((F2827 8) ≤ F2838 8 ∧ F2838 8 ≤ (F2827 7)) ∧ (F2838 9 = 0 ∨ (F2827 8) < F2838 8) ∧ (F2838 9 = 2 → 0 ≤ F2838 11 ∧ F2838 11 ≤ 9) ∧ (0 ≤ F2838 9 ∧ F2838 9 ≤ 4) := p2841
                  obtain ⟨p2841a, p2841b, p2841c, p2841d⟩ := p2841
                  have k2843 := fr2.nil k2843
                  subst k2843
                  show am_Ok _ _ _ (94, _, [], _, 0, 0) _
                  refine k_aload 95 rfl (gs_ne rfl rfl g0) rfl ?_
                  refine k_in (d := 0) rfl (Nat.ble_eq_true_of_le (by omega)) rfl rfl I2840.rc ?_
                  refine k_aload 1 rfl rfl rfl ?_
                  refine r_gI I2840 4 rfl rfl rfl (fun x2844 (e2845 : x2844.toInt = F2838 6) => ?_)
                  have e2846 : F2838 6 = F2827 6 := k2842 6 (by decide)
                  have e2847 : F2827 6 = F 6 := k2831 6 (by decide)
                  by_cases b2848 : x2844 = 0
                  · refine k_c1 7 rfl rfl (if_pos b2848) ?_
                    have b2848 := iv_eq0.mp b2848
                    refine k_push 8 rfl rfl ?_
                    refine k_goto 12 rfl rfl ?_
                    refine k_fin rfl (fin_Z (Or.inr rfl)) ⟨_, _, rfl, rf_len I2840 I2840, ?_⟩
                    show am_Ok _ _ _ (98, _, [.inl (1 : Int32)], _, 0, 0) _
                    refine k_c1 101 rfl rfl (if_neg (by decide)) ?_
                    refine k_aload 102 rfl (gs_ne rfl rfl g0) rfl ?_
                    refine r_gI I2840 105 rfl rfl rfl (fun x2849 (e2850 : x2849.toInt = F2838 9) => ?_)
                    refine k_push 106 rfl rfl ?_
                    by_cases b2851 : x2849 = (1 : Int32)
                    · refine k_c2 6 rfl rfl (if_pos b2851) ?_
                      have b2851 := iv_eq.mp b2851
                      have e2852 : F2838 20 = F2827 20 := k2842 20 (by decide)
                      have e2853 : F2827 20 = x2817.toInt := k2831 20 (by decide)
                      have e2854 : F2838 21 = F2827 21 := k2842 21 (by decide)
                      have e2855 : F2827 21 = F 21 := k2831 21 (by decide)
                      have e2856 : F2838 23 = F2827 23 := k2842 23 (by decide)
                      exact ih _ (show ((31 - x2822.toInt).toNat) < n by omega)  rfl (gs_ne rfl rfl g0) gs_eq I2840 (fr1.tr (by decide) (fr1.tr (by decide) (fr1.up (by decide) hF) k2831) k2842) (fr2.tr (by decide) hA k2832) (show F0 8 ≤ (F2838 8) ∧ (F2838 8) ≤ F0 7 ∧ (F2838 20) = F0 20 + x2822.toInt ∧ 0 ≤ x2822.toInt ∧ (F2838 20) ≤ 30 ∧ (F2838 21) = F0 21 ∧ F0 23 ≤ (F2838 23) ∧ (F2838 23) ≤ 1000000 ∧ ((F2838 9) = 2 → 0 ≤ (F2838 11) ∧ (F2838 11) ≤ 9) ∧ 0 ≤ (F2838 9) ∧ (F2838 9) ≤ 4 ∧ (F2838 6) = 0 by omega) (fun z => by have z9 : F2838 23 ≤ 124 := z; show fu (A2828 22) (A0 22) (F0 23) (F2838 23) x2822.toInt; exact fu_cg (hfu (by omega)) (by omega) (by omega))
                    · refine k_c2 109 rfl rfl (if_neg b2851) ?_
                      have b2851 := mt iv_eq.mpr b2851
                      refine k_aload 110 rfl (gs_ne rfl rfl g0) rfl ?_
                      refine k_push 112 rfl rfl ?_
                      have hc2857 : (46 : Int32).toInt = 46 := by decide
                      have e2858 : F2838 7 = F2827 7 := k2842 7 (by decide)
                      refine k_rv I2840 rfl (m_must  I2840.1 (show 0 ≤ (F2838 8) ∧ (F2838 8) ≤ (F2838 7) ∧ (F2838 7) ≤ 700 ∧ ((F2838 9) = 2 → 0 ≤ (F2838 11) ∧ (F2838 11) ≤ 9) ∧ 0 ≤ (F2838 9) ∧ (F2838 9) ≤ 4 by omega)) (Nat.ble_eq_true_of_le (by omega)) rfl rfl I2840.rc ?_
                      rintro h2860 F2861 A2862 I2863 ⟨k2865, k2866, p2864⟩
                      replace p2864 : ((F2838 8) ≤ F2861 8 ∧ F2861 8 ≤ (F2838 7)) ∧ (F2861 6 = 0 → (F2838 6) = 0 ∧ (F2861 9 = 0 ∨ (F2838 8) < F2861 8)) ∧ (F2861 9 = 2 → 0 ≤ F2861 11 ∧ F2861 11 ≤ 9) ∧ (0 ≤ F2861 9 ∧ F2861 9 ≤ 4) := p2864
                      obtain ⟨p2864a, p2864b, p2864c, p2864d⟩ := p2864
                      have k2866 := fr2.nil k2866
                      subst k2866
                      show am_Ok _ _ _ (115, _, [], _, 0, 0) _
                      refine k_aload 116 rfl (gs_ne rfl rfl g0) rfl ?_
                      have e2867 : F2861 7 = F2838 7 := k2865 7 (by decide)
                      have e2868 : F2861 20 = F2838 20 := k2865 20 (by decide)
                      have e2869 : F2838 20 = F2827 20 := k2842 20 (by decide)
                      have e2870 : F2827 20 = x2817.toInt := k2831 20 (by decide)
                      have e2871 : F2861 21 = F2838 21 := k2865 21 (by decide)
                      have e2872 : F2838 21 = F2827 21 := k2842 21 (by decide)
                      have e2873 : F2827 21 = F 21 := k2831 21 (by decide)
                      have e2874 : F2861 18 = F2838 18 := k2865 18 (by decide)
                      have e2875 : F2838 18 = F2827 18 := k2842 18 (by decide)
                      have e2876 : F2827 18 = F 18 := k2831 18 (by decide)
                      have e2877 : F 18 = F0 18 := hF 18 (by decide)
                      have e2878 : F2861 23 = F2838 23 := k2865 23 (by decide)
                      have e2879 : F2838 23 = F2827 23 := k2842 23 (by decide)
                      refine k_rv I2863 rfl (hrec  I2863.1 (show 0 ≤ (F2861 8) ∧ (F2861 8) ≤ (F2861 7) ∧ (F2861 7) ≤ 700 ∧ 0 ≤ (F2861 20) ∧ (F2861 20) ≤ 30 ∧ 0 ≤ (F2861 21) ∧ (F2861 21) ≤ 12 ∧ 0 ≤ (F2861 18) ∧ (F2861 18) ≤ 12 ∧ 0 ≤ (F2861 23) ∧ (F2861 23) ≤ 1000000 ∧ ((F2861 9) = 2 → 0 ≤ (F2861 11) ∧ (F2861 11) ≤ 9) ∧ 0 ≤ (F2861 9) ∧ (F2861 9) ≤ 4 by omega) (show nm ((A2828 16)) ((A2828 17)) ((F2861 18)) by rw [((k2832 16 (by decide)).trans (hA 16 (by decide))), ((k2832 17 (by decide)).trans (hA 17 (by decide))), ((k2865 18 (by decide)).trans ((k2842 18 (by decide)).trans ((k2831 18 (by decide)).trans (hF 18 (by decide)))))]; exact p2) (show (12 - (F2861 21)) + (30 - (F2861 20)) < (gk : Int) by omega)) (Nat.ble_eq_true_of_le (by omega)) rfl rfl I2863.rc ?_
                      rintro h2881 F2882 A2883 I2884 ⟨k2886, k2887, p2885⟩
                      replace p2885 : ((F2861 8) ≤ F2882 8 ∧ F2882 8 ≤ (F2861 7) ∧ (F2861 20) ≤ F2882 20 ∧ F2882 20 ≤ 30 ∧ F2882 21 = (F2861 21) ∧ (F2861 23) ≤ F2882 23 ∧ F2882 23 ≤ 1000000 ∧ (F2882 9 = 2 → 0 ≤ F2882 11 ∧ F2882 11 ≤ 9) ∧ 0 ≤ F2882 9 ∧ F2882 9 ≤ 4) ∧ (F2882 6 = 0 → F2882 20 = (F2861 20) ∧ (F2861 6) = 0 ∧ (F2882 9 = 0 ∨ (F2861 8) < F2882 8)) ∧ (F2882 6 = 0 → F2882 23 ≤ 124 → rd1 (A2883 22) ((A2828 22)) ((F2861 23)) (F2882 23) ((F2861 20))) := p2885
                      obtain ⟨p2885a, p2885b, p2885c⟩ := p2885
                      show am_Ok _ _ _ (119, _, [], _, 0, 0) _
                      refine k_aload 120 rfl (gs_ne rfl rfl g0) rfl ?_
                      refine k_dup 121 rfl rfl rfl ?_
                      refine r_gI I2884 124 rfl rfl rfl (fun x2888 (e2889 : x2888.toInt = F2882 20) => ?_)
                      refine k_iload 125 rfl gs_eq rfl ?_
                      obtain ⟨x2890, q2891⟩ : ∃ q : Int32, q = (x2888 - x2822) := ⟨_, rfl⟩
                      have e2892 : x2890.toInt = x2888.toInt - x2822.toInt := by rw [q2891, iv_sub (by omega) (by omega)]
                      refine k_bin x2890 126 rfl q2891.symm rfl ?_
                      refine r_pI I2884 129 rfl rfl rfl (fun h2893 I2894 => ?_)
                      exact k_fin rfl rfl ⟨_, _, _, rfl, I2894, (fr1.up (by decide) (fr1.tr (by decide) (fr1.tr (by decide) (fr1.tr (by decide) (fr1.tr (by decide) (fr1.up (by decide) hF) k2831) k2842) k2865) k2886)), (fr2.tr (by decide) (fr2.tr (by decide) hA k2832) k2887), ⟨(show (F0 8 ≤ F2882 8 ∧ F2882 8 ≤ F0 7 ∧ F0 20 ≤ x2890.toInt ∧ x2890.toInt ≤ 30 ∧ F2882 21 = F0 21 ∧ F0 23 ≤ F2882 23 ∧ F2882 23 ≤ 1000000 ∧ (F2882 9 = 2 → 0 ≤ F2882 11 ∧ F2882 11 ≤ 9) ∧ 0 ≤ F2882 9 ∧ F2882 9 ≤ 4) by omega), (show (F2882 6 = 0 → x2890.toInt = F0 20 ∧ F0 6 = 0 ∧ (F2882 9 = 0 ∨ F0 8 < F2882 8)) by omega), fun z1 z2 => by have z8 : F2882 6 = 0 := z1; have z9 : F2882 23 ≤ 124 := z2; have h9 := p2885c (by omega) (by omega); show rd1 (A2883 22) (A0 22) (F0 23) (F2882 23) (F0 20); exact fu_end (hfu (by omega)) (by omega) (rd_cg h9 (by omega) (by omega) rfl) (by omega)⟩⟩
                  · refine k_c1 11 rfl rfl (if_neg b2848) ?_
                    have b2848 := mt iv_eq0.mpr b2848
                    refine k_push 12 rfl rfl ?_
                    refine k_fin rfl (fin_Z (Or.inl rfl)) ⟨_, _, rfl, rf_len I2840 I2840, ?_⟩
                    show am_Ok _ _ _ (98, _, [.inl (0 : Int32)], _, 0, 0) _
                    refine k_c1 109 rfl rfl (if_pos (by decide)) ?_
                    refine k_aload 110 rfl (gs_ne rfl rfl g0) rfl ?_
                    refine k_push 112 rfl rfl ?_
                    have hc2895 : (46 : Int32).toInt = 46 := by decide
                    have e2896 : F2838 7 = F2827 7 := k2842 7 (by decide)
                    refine k_rv I2840 rfl (m_must  I2840.1 (show 0 ≤ (F2838 8) ∧ (F2838 8) ≤ (F2838 7) ∧ (F2838 7) ≤ 700 ∧ ((F2838 9) = 2 → 0 ≤ (F2838 11) ∧ (F2838 11) ≤ 9) ∧ 0 ≤ (F2838 9) ∧ (F2838 9) ≤ 4 by omega)) (Nat.ble_eq_true_of_le (by omega)) rfl rfl I2840.rc ?_
                    rintro h2898 F2899 A2900 I2901 ⟨k2903, k2904, p2902⟩
                    replace p2902 : ((F2838 8) ≤ F2899 8 ∧ F2899 8 ≤ (F2838 7)) ∧ (F2899 6 = 0 → (F2838 6) = 0 ∧ (F2899 9 = 0 ∨ (F2838 8) < F2899 8)) ∧ (F2899 9 = 2 → 0 ≤ F2899 11 ∧ F2899 11 ≤ 9) ∧ (0 ≤ F2899 9 ∧ F2899 9 ≤ 4) := p2902
                    obtain ⟨p2902a, p2902b, p2902c, p2902d⟩ := p2902
                    have k2904 := fr2.nil k2904
                    subst k2904
                    show am_Ok _ _ _ (115, _, [], _, 0, 0) _
                    refine k_aload 116 rfl (gs_ne rfl rfl g0) rfl ?_
                    have e2905 : F2899 7 = F2838 7 := k2903 7 (by decide)
                    have e2906 : F2899 20 = F2838 20 := k2903 20 (by decide)
                    have e2907 : F2838 20 = F2827 20 := k2842 20 (by decide)
                    have e2908 : F2827 20 = x2817.toInt := k2831 20 (by decide)
                    have e2909 : F2899 21 = F2838 21 := k2903 21 (by decide)
                    have e2910 : F2838 21 = F2827 21 := k2842 21 (by decide)
                    have e2911 : F2827 21 = F 21 := k2831 21 (by decide)
                    have e2912 : F2899 18 = F2838 18 := k2903 18 (by decide)
                    have e2913 : F2838 18 = F2827 18 := k2842 18 (by decide)
                    have e2914 : F2827 18 = F 18 := k2831 18 (by decide)
                    have e2915 : F 18 = F0 18 := hF 18 (by decide)
                    have e2916 : F2899 23 = F2838 23 := k2903 23 (by decide)
                    have e2917 : F2838 23 = F2827 23 := k2842 23 (by decide)
                    refine k_rv I2901 rfl (hrec  I2901.1 (show 0 ≤ (F2899 8) ∧ (F2899 8) ≤ (F2899 7) ∧ (F2899 7) ≤ 700 ∧ 0 ≤ (F2899 20) ∧ (F2899 20) ≤ 30 ∧ 0 ≤ (F2899 21) ∧ (F2899 21) ≤ 12 ∧ 0 ≤ (F2899 18) ∧ (F2899 18) ≤ 12 ∧ 0 ≤ (F2899 23) ∧ (F2899 23) ≤ 1000000 ∧ ((F2899 9) = 2 → 0 ≤ (F2899 11) ∧ (F2899 11) ≤ 9) ∧ 0 ≤ (F2899 9) ∧ (F2899 9) ≤ 4 by omega) (show nm ((A2828 16)) ((A2828 17)) ((F2899 18)) by rw [((k2832 16 (by decide)).trans (hA 16 (by decide))), ((k2832 17 (by decide)).trans (hA 17 (by decide))), ((k2903 18 (by decide)).trans ((k2842 18 (by decide)).trans ((k2831 18 (by decide)).trans (hF 18 (by decide)))))]; exact p2) (show (12 - (F2899 21)) + (30 - (F2899 20)) < (gk : Int) by omega)) (Nat.ble_eq_true_of_le (by omega)) rfl rfl I2901.rc ?_
                    rintro h2919 F2920 A2921 I2922 ⟨k2924, k2925, p2923⟩
                    replace p2923 : ((F2899 8) ≤ F2920 8 ∧ F2920 8 ≤ (F2899 7) ∧ (F2899 20) ≤ F2920 20 ∧ F2920 20 ≤ 30 ∧ F2920 21 = (F2899 21) ∧ (F2899 23) ≤ F2920 23 ∧ F2920 23 ≤ 1000000 ∧ (F2920 9 = 2 → 0 ≤ F2920 11 ∧ F2920 11 ≤ 9) ∧ 0 ≤ F2920 9 ∧ F2920 9 ≤ 4) ∧ (F2920 6 = 0 → F2920 20 = (F2899 20) ∧ (F2899 6) = 0 ∧ (F2920 9 = 0 ∨ (F2899 8) < F2920 8)) ∧ (F2920 6 = 0 → F2920 23 ≤ 124 → rd1 (A2921 22) ((A2828 22)) ((F2899 23)) (F2920 23) ((F2899 20))) := p2923
                    obtain ⟨p2923a, p2923b, p2923c⟩ := p2923
                    show am_Ok _ _ _ (119, _, [], _, 0, 0) _
                    refine k_aload 120 rfl (gs_ne rfl rfl g0) rfl ?_
                    refine k_dup 121 rfl rfl rfl ?_
                    refine r_gI I2922 124 rfl rfl rfl (fun x2926 (e2927 : x2926.toInt = F2920 20) => ?_)
                    refine k_iload 125 rfl gs_eq rfl ?_
                    obtain ⟨x2928, q2929⟩ : ∃ q : Int32, q = (x2926 - x2822) := ⟨_, rfl⟩
                    have e2930 : x2928.toInt = x2926.toInt - x2822.toInt := by rw [q2929, iv_sub (by omega) (by omega)]
                    refine k_bin x2928 126 rfl q2929.symm rfl ?_
                    refine r_pI I2922 129 rfl rfl rfl (fun h2931 I2932 => ?_)
                    exact k_fin rfl rfl ⟨_, _, _, rfl, I2932, (fr1.up (by decide) (fr1.tr (by decide) (fr1.tr (by decide) (fr1.tr (by decide) (fr1.tr (by decide) (fr1.up (by decide) hF) k2831) k2842) k2903) k2924)), (fr2.tr (by decide) (fr2.tr (by decide) hA k2832) k2925), ⟨(show (F0 8 ≤ F2920 8 ∧ F2920 8 ≤ F0 7 ∧ F0 20 ≤ x2928.toInt ∧ x2928.toInt ≤ 30 ∧ F2920 21 = F0 21 ∧ F0 23 ≤ F2920 23 ∧ F2920 23 ≤ 1000000 ∧ (F2920 9 = 2 → 0 ≤ F2920 11 ∧ F2920 11 ≤ 9) ∧ 0 ≤ F2920 9 ∧ F2920 9 ≤ 4) by omega), (show (F2920 6 = 0 → x2928.toInt = F0 20 ∧ F0 6 = 0 ∧ (F2920 9 = 0 ∨ F0 8 < F2920 8)) by omega), fun z1 z2 => by have z8 : F2920 6 = 0 := z1; have z9 : F2920 23 ≤ 124 := z2; have h9 := p2923c (by omega) (by omega); show rd1 (A2921 22) (A0 22) (F0 23) (F2920 23) (F0 20); exact fu_end (hfu (by omega)) (by omega) (rd_cg h9 (by omega) (by omega) rfl) (by omega)⟩⟩
                · refine k_c1 11 rfl rfl (if_neg b2809) ?_
                  have b2809 := mt iv_eq0.mpr b2809
                  refine k_push 12 rfl rfl ?_
                  refine k_fin rfl (fin_Z (Or.inl rfl)) ⟨_, _, rfl, rf_len hI hI, ?_⟩
                  show am_Ok _ _ _ (28, _, [.inl (0 : Int32)], _, 0, 0) _
                  refine k_fin rfl (fin_Z (Or.inl rfl)) ⟨_, _, rfl, rf_len hI hI, ?_⟩
                  show am_Ok _ _ _ (55, _, [.inl (0 : Int32)], _, 0, 0) _
                  refine k_c1 58 rfl rfl (if_pos (by decide)) ?_
                  exact k_fin rfl rfl ⟨_, _, _, rfl, hI, hF, hA, ⟨(show (F0 8 ≤ F 8 ∧ F 8 ≤ F0 7 ∧ F0 20 ≤ F 20 ∧ F 20 ≤ 30 ∧ F 21 = F0 21 ∧ F0 23 ≤ F 23 ∧ F 23 ≤ 1000000 ∧ (F 9 = 2 → 0 ≤ F 11 ∧ F 11 ≤ 9) ∧ 0 ≤ F 9 ∧ F 9 ≤ 4) by omega), (show (F 6 = 0 → F 20 = F0 20 ∧ F0 6 = 0 ∧ (F 9 = 0 ∨ F0 8 < F 8)) by omega), fun z => absurd (show F 6 = 0 from z) (by omega)⟩⟩
            · refine k_c2 46 rfl rfl (if_neg b2670) ?_
              have b2670 := mt iv_le.mpr b2670
              refine k_push 47 rfl rfl ?_
              refine k_goto 51 rfl rfl ?_
              refine k_push 52 rfl rfl ?_
              have hc2933 : (2 : Int32).toInt = 2 := by decide
              refine k_in (d := 1) rfl (Nat.ble_eq_true_of_le (by omega)) rfl rfl hI.rc ?_
              refine k_aload 1 rfl rfl rfl ?_
              refine k_in (d := 0) rfl (Nat.ble_eq_true_of_le (by omega)) rfl rfl hI.rc ?_
              refine k_aload 1 rfl rfl rfl ?_
              refine r_gI hI 4 rfl rfl rfl (fun x2934 (e2935 : x2934.toInt = F 6) => ?_)
              by_cases b2936 : x2934 = 0
              · refine k_c1 7 rfl rfl (if_pos b2936) ?_
                have b2936 := iv_eq0.mp b2936
                refine k_push 8 rfl rfl ?_
                refine k_goto 12 rfl rfl ?_
                refine k_fin rfl (fin_Z (Or.inr rfl)) ⟨_, _, rfl, rf_len hI hI, ?_⟩
                show am_Ok _ _ _ (4, _, [.inl (1 : Int32)], _, 0, 0) _
                refine k_c1 7 rfl rfl (if_neg (by decide)) ?_
                refine k_iload 8 rfl rfl rfl ?_
                refine k_c1 24 rfl rfl (if_neg (by decide)) ?_
                refine k_aload 25 rfl rfl rfl ?_
                refine k_in (d := 0) rfl (Nat.ble_eq_true_of_le (by omega)) rfl rfl hI.rc ?_
                refine k_aload 1 rfl rfl rfl ?_
                refine r_gI hI 4 rfl rfl rfl (fun x2937 (e2938 : x2937.toInt = F 6) => ?_)
                by_cases b2939 : x2937 = 0
                · refine k_c1 7 rfl rfl (if_pos b2939) ?_
                  have b2939 := iv_eq0.mp b2939
                  refine k_push 8 rfl rfl ?_
                  refine k_goto 12 rfl rfl ?_
                  refine k_fin rfl (fin_Z (Or.inr rfl)) ⟨_, _, rfl, rf_len hI hI, ?_⟩
                  show am_Ok _ _ _ (28, _, [.inl (1 : Int32)], _, 0, 0) _
                  refine k_fin rfl (fin_Z (Or.inr rfl)) ⟨_, _, rfl, rf_len hI hI, ?_⟩
                  show am_Ok _ _ _ (55, _, [.inl (1 : Int32)], _, 0, 0) _
                  refine k_c1 59 rfl rfl (if_neg (by decide)) ?_
                  refine k_aload 60 rfl g0 rfl ?_
                  refine r_gA hI 63 rfl rfl rfl ?_
                  refine k_aload 64 rfl g0 rfl ?_
                  refine r_gI hI 67 rfl rfl rfl (fun x2940 (e2941 : x2940.toInt = F 20) => ?_)
                  refine k_aload 68 rfl g0 rfl ?_
                  refine r_gJ hI 71 rfl rfl rfl (fun y2942 => ?_)
                  refine r_lst 19 hI 72 rfl rfl (by omega) (show x2940.toInt < 31 by omega) rfl (fun h2943 I2944 => ?_)
                  refine k_aload 73 rfl g0 rfl ?_
                  refine k_dup 74 rfl rfl rfl ?_
                  refine r_gI I2944 77 rfl rfl rfl (fun x2945 (e2946 : x2945.toInt = F 20) => ?_)
                  refine k_push 78 rfl rfl ?_
                  obtain ⟨x2947, q2948⟩ : ∃ q : Int32, q = (x2945 + (1 : Int32)) := ⟨_, rfl⟩
                  have e2949 : x2947.toInt = x2945.toInt + 1 := by rw [q2948, iv_add (by omega) (by omega)]; omega
                  refine k_bin x2947 79 rfl q2948.symm rfl ?_
                  refine r_pI I2944 82 rfl rfl rfl (fun h2950 I2951 => ?_)
                  obtain ⟨x2952, q2953⟩ : ∃ q : Int32, q = v1 + (1 : Int32) := ⟨_, rfl⟩
                  have e2954 : x2952.toInt = v1.toInt + 1 := by rw [q2953, iv_add (by omega) (by omega)]; omega
                  refine k_iinc x2952 85 rfl g1 q2953.symm rfl ?_
                  refine k_aload 86 rfl (gs_ne rfl rfl g0) rfl ?_
                  refine k_push 87 rfl rfl ?_
                  refine k_rv I2951 rfl (m_emits  I2951.1 (show 0 ≤ (F 23) ∧ (F 23) ≤ 1000000 by omega)) (Nat.ble_eq_true_of_le (by omega)) rfl rfl I2951.rc ?_
                  rintro h2956 F2957 A2958 I2959 ⟨k2961, k2962, p2960⟩
                  replace p2960 : ((F 23) ≤ F2957 23 ∧ F2957 23 ≤ 1000000) ∧ (F2957 23 ≤ 124 → F2957 23 = (F 23) + 1) ∧ (F2957 23 ≤ 124 → A2958 22 ((F 23)) = (1 : Int32).toInt ∧ ∀ q : Int, q ≠ (F 23) → A2958 22 q = (A 22) q) := p2960
                  obtain ⟨p2960a, p2960b, p2960c⟩ := p2960
                  show am_Ok _ _ _ (90, _, [], _, 0, 0) _
                  have hfu : F2957 23 ≤ 124 → fu (A2958 22) (A0 22) (F0 23) (F2957 23) (v1.toInt + 1) := fun z9 => fu_s (i2 (by omega)) (p2960b z9) ((p2960c z9).1.trans (by decide)) (p2960c z9).2 (by omega) rfl
                  refine k_aload 91 rfl (gs_ne rfl rfl g0) rfl ?_
                  have e2963 : F2957 8 = F 8 := k2961 8 (by decide)
                  have e2964 : F2957 7 = F 7 := k2961 7 (by decide)
                  have e2965 : F 7 = F0 7 := hF 7 (by decide)
                  refine k_rv I2959 rfl (m_goes  I2959.1 (show 0 ≤ (F2957 8) ∧ (F2957 8) ≤ (F2957 7) ∧ (F2957 7) ≤ 700 by omega)) (Nat.ble_eq_true_of_le (by omega)) rfl rfl I2959.rc ?_
                  rintro h2967 F2968 A2969 I2970 ⟨k2972, k2973, p2971⟩
                  replace p2971 : ((F2957 8) ≤ F2968 8 ∧ F2968 8 ≤ (F2957 7)) ∧ (F2968 9 = 0 ∨ (F2957 8) < F2968 8) ∧ (F2968 9 = 2 → 0 ≤ F2968 11 ∧ F2968 11 ≤ 9) ∧ (0 ≤ F2968 9 ∧ F2968 9 ≤ 4) := p2971
                  obtain ⟨p2971a, p2971b, p2971c, p2971d⟩ := p2971
                  have k2973 := fr2.nil k2973
                  subst k2973
                  show am_Ok _ _ _ (94, _, [], _, 0, 0) _
                  refine k_aload 95 rfl (gs_ne rfl rfl g0) rfl ?_
                  refine k_in (d := 0) rfl (Nat.ble_eq_true_of_le (by omega)) rfl rfl I2970.rc ?_
                  refine k_aload 1 rfl rfl rfl ?_
                  refine r_gI I2970 4 rfl rfl rfl (fun x2974 (e2975 : x2974.toInt = F2968 6) => ?_)
                  have e2976 : F2968 6 = F2957 6 := k2972 6 (by decide)
                  have e2977 : F2957 6 = F 6 := k2961 6 (by decide)
                  by_cases b2978 : x2974 = 0
                  · refine k_c1 7 rfl rfl (if_pos b2978) ?_
                    have b2978 := iv_eq0.mp b2978
                    refine k_push 8 rfl rfl ?_
                    refine k_goto 12 rfl rfl ?_
                    refine k_fin rfl (fin_Z (Or.inr rfl)) ⟨_, _, rfl, rf_len I2970 I2970, ?_⟩
                    show am_Ok _ _ _ (98, _, [.inl (1 : Int32)], _, 0, 0) _
                    refine k_c1 101 rfl rfl (if_neg (by decide)) ?_
                    refine k_aload 102 rfl (gs_ne rfl rfl g0) rfl ?_
                    refine r_gI I2970 105 rfl rfl rfl (fun x2979 (e2980 : x2979.toInt = F2968 9) => ?_)
                    refine k_push 106 rfl rfl ?_
                    by_cases b2981 : x2979 = (1 : Int32)
                    · refine k_c2 6 rfl rfl (if_pos b2981) ?_
                      have b2981 := iv_eq.mp b2981
                      have e2982 : F2968 20 = F2957 20 := k2972 20 (by decide)
                      have e2983 : F2957 20 = x2947.toInt := k2961 20 (by decide)
                      have e2984 : F2968 21 = F2957 21 := k2972 21 (by decide)
                      have e2985 : F2957 21 = F 21 := k2961 21 (by decide)
                      have e2986 : F2968 23 = F2957 23 := k2972 23 (by decide)
                      exact ih _ (show ((31 - x2952.toInt).toNat) < n by omega)  rfl (gs_ne rfl rfl g0) gs_eq I2970 (fr1.tr (by decide) (fr1.tr (by decide) (fr1.up (by decide) hF) k2961) k2972) (fr2.tr (by decide) hA k2962) (show F0 8 ≤ (F2968 8) ∧ (F2968 8) ≤ F0 7 ∧ (F2968 20) = F0 20 + x2952.toInt ∧ 0 ≤ x2952.toInt ∧ (F2968 20) ≤ 30 ∧ (F2968 21) = F0 21 ∧ F0 23 ≤ (F2968 23) ∧ (F2968 23) ≤ 1000000 ∧ ((F2968 9) = 2 → 0 ≤ (F2968 11) ∧ (F2968 11) ≤ 9) ∧ 0 ≤ (F2968 9) ∧ (F2968 9) ≤ 4 ∧ (F2968 6) = 0 by omega) (fun z => by have z9 : F2968 23 ≤ 124 := z; show fu (A2958 22) (A0 22) (F0 23) (F2968 23) x2952.toInt; exact fu_cg (hfu (by omega)) (by omega) (by omega))
                    · refine k_c2 109 rfl rfl (if_neg b2981) ?_
                      have b2981 := mt iv_eq.mpr b2981
                      refine k_aload 110 rfl (gs_ne rfl rfl g0) rfl ?_
                      refine k_push 112 rfl rfl ?_
                      have hc2987 : (46 : Int32).toInt = 46 := by decide
                      have e2988 : F2968 7 = F2957 7 := k2972 7 (by decide)
                      refine k_rv I2970 rfl (m_must  I2970.1 (show 0 ≤ (F2968 8) ∧ (F2968 8) ≤ (F2968 7) ∧ (F2968 7) ≤ 700 ∧ ((F2968 9) = 2 → 0 ≤ (F2968 11) ∧ (F2968 11) ≤ 9) ∧ 0 ≤ (F2968 9) ∧ (F2968 9) ≤ 4 by omega)) (Nat.ble_eq_true_of_le (by omega)) rfl rfl I2970.rc ?_
                      rintro h2990 F2991 A2992 I2993 ⟨k2995, k2996, p2994⟩
                      replace p2994 : ((F2968 8) ≤ F2991 8 ∧ F2991 8 ≤ (F2968 7)) ∧ (F2991 6 = 0 → (F2968 6) = 0 ∧ (F2991 9 = 0 ∨ (F2968 8) < F2991 8)) ∧ (F2991 9 = 2 → 0 ≤ F2991 11 ∧ F2991 11 ≤ 9) ∧ (0 ≤ F2991 9 ∧ F2991 9 ≤ 4) := p2994
                      obtain ⟨p2994a, p2994b, p2994c, p2994d⟩ := p2994
                      have k2996 := fr2.nil k2996
                      subst k2996
                      show am_Ok _ _ _ (115, _, [], _, 0, 0) _
                      refine k_aload 116 rfl (gs_ne rfl rfl g0) rfl ?_
                      have e2997 : F2991 7 = F2968 7 := k2995 7 (by decide)
                      have e2998 : F2991 20 = F2968 20 := k2995 20 (by decide)
                      have e2999 : F2968 20 = F2957 20 := k2972 20 (by decide)
                      have e3000 : F2957 20 = x2947.toInt := k2961 20 (by decide)
                      have e3001 : F2991 21 = F2968 21 := k2995 21 (by decide)
                      have e3002 : F2968 21 = F2957 21 := k2972 21 (by decide)
                      have e3003 : F2957 21 = F 21 := k2961 21 (by decide)
                      have e3004 : F2991 18 = F2968 18 := k2995 18 (by decide)
                      have e3005 : F2968 18 = F2957 18 := k2972 18 (by decide)
                      have e3006 : F2957 18 = F 18 := k2961 18 (by decide)
                      have e3007 : F 18 = F0 18 := hF 18 (by decide)
                      have e3008 : F2991 23 = F2968 23 := k2995 23 (by decide)
                      have e3009 : F2968 23 = F2957 23 := k2972 23 (by decide)
                      refine k_rv I2993 rfl (hrec  I2993.1 (show 0 ≤ (F2991 8) ∧ (F2991 8) ≤ (F2991 7) ∧ (F2991 7) ≤ 700 ∧ 0 ≤ (F2991 20) ∧ (F2991 20) ≤ 30 ∧ 0 ≤ (F2991 21) ∧ (F2991 21) ≤ 12 ∧ 0 ≤ (F2991 18) ∧ (F2991 18) ≤ 12 ∧ 0 ≤ (F2991 23) ∧ (F2991 23) ≤ 1000000 ∧ ((F2991 9) = 2 → 0 ≤ (F2991 11) ∧ (F2991 11) ≤ 9) ∧ 0 ≤ (F2991 9) ∧ (F2991 9) ≤ 4 by omega) (show nm ((A2958 16)) ((A2958 17)) ((F2991 18)) by rw [((k2962 16 (by decide)).trans (hA 16 (by decide))), ((k2962 17 (by decide)).trans (hA 17 (by decide))), ((k2995 18 (by decide)).trans ((k2972 18 (by decide)).trans ((k2961 18 (by decide)).trans (hF 18 (by decide)))))]; exact p2) (show (12 - (F2991 21)) + (30 - (F2991 20)) < (gk : Int) by omega)) (Nat.ble_eq_true_of_le (by omega)) rfl rfl I2993.rc ?_
                      rintro h3011 F3012 A3013 I3014 ⟨k3016, k3017, p3015⟩
                      replace p3015 : ((F2991 8) ≤ F3012 8 ∧ F3012 8 ≤ (F2991 7) ∧ (F2991 20) ≤ F3012 20 ∧ F3012 20 ≤ 30 ∧ F3012 21 = (F2991 21) ∧ (F2991 23) ≤ F3012 23 ∧ F3012 23 ≤ 1000000 ∧ (F3012 9 = 2 → 0 ≤ F3012 11 ∧ F3012 11 ≤ 9) ∧ 0 ≤ F3012 9 ∧ F3012 9 ≤ 4) ∧ (F3012 6 = 0 → F3012 20 = (F2991 20) ∧ (F2991 6) = 0 ∧ (F3012 9 = 0 ∨ (F2991 8) < F3012 8)) ∧ (F3012 6 = 0 → F3012 23 ≤ 124 → rd1 (A3013 22) ((A2958 22)) ((F2991 23)) (F3012 23) ((F2991 20))) := p3015
                      obtain ⟨p3015a, p3015b, p3015c⟩ := p3015
                      show am_Ok _ _ _ (119, _, [], _, 0, 0) _
                      refine k_aload 120 rfl (gs_ne rfl rfl g0) rfl ?_
                      refine k_dup 121 rfl rfl rfl ?_
                      refine r_gI I3014 124 rfl rfl rfl (fun x3018 (e3019 : x3018.toInt = F3012 20) => ?_)
                      refine k_iload 125 rfl gs_eq rfl ?_
                      obtain ⟨x3020, q3021⟩ : ∃ q : Int32, q = (x3018 - x2952) := ⟨_, rfl⟩
                      have e3022 : x3020.toInt = x3018.toInt - x2952.toInt := by rw [q3021, iv_sub (by omega) (by omega)]
                      refine k_bin x3020 126 rfl q3021.symm rfl ?_
                      refine r_pI I3014 129 rfl rfl rfl (fun h3023 I3024 => ?_)
                      exact k_fin rfl rfl ⟨_, _, _, rfl, I3024, (fr1.up (by decide) (fr1.tr (by decide) (fr1.tr (by decide) (fr1.tr (by decide) (fr1.tr (by decide) (fr1.up (by decide) hF) k2961) k2972) k2995) k3016)), (fr2.tr (by decide) (fr2.tr (by decide) hA k2962) k3017), ⟨(show (F0 8 ≤ F3012 8 ∧ F3012 8 ≤ F0 7 ∧ F0 20 ≤ x3020.toInt ∧ x3020.toInt ≤ 30 ∧ F3012 21 = F0 21 ∧ F0 23 ≤ F3012 23 ∧ F3012 23 ≤ 1000000 ∧ (F3012 9 = 2 → 0 ≤ F3012 11 ∧ F3012 11 ≤ 9) ∧ 0 ≤ F3012 9 ∧ F3012 9 ≤ 4) by omega), (show (F3012 6 = 0 → x3020.toInt = F0 20 ∧ F0 6 = 0 ∧ (F3012 9 = 0 ∨ F0 8 < F3012 8)) by omega), fun z1 z2 => by have z8 : F3012 6 = 0 := z1; have z9 : F3012 23 ≤ 124 := z2; have h9 := p3015c (by omega) (by omega); show rd1 (A3013 22) (A0 22) (F0 23) (F3012 23) (F0 20); exact fu_end (hfu (by omega)) (by omega) (rd_cg h9 (by omega) (by omega) rfl) (by omega)⟩⟩
                  · refine k_c1 11 rfl rfl (if_neg b2978) ?_
                    have b2978 := mt iv_eq0.mpr b2978
                    refine k_push 12 rfl rfl ?_
                    refine k_fin rfl (fin_Z (Or.inl rfl)) ⟨_, _, rfl, rf_len I2970 I2970, ?_⟩
                    show am_Ok _ _ _ (98, _, [.inl (0 : Int32)], _, 0, 0) _
                    refine k_c1 109 rfl rfl (if_pos (by decide)) ?_
                    refine k_aload 110 rfl (gs_ne rfl rfl g0) rfl ?_
                    refine k_push 112 rfl rfl ?_
                    have hc3025 : (46 : Int32).toInt = 46 := by decide
                    have e3026 : F2968 7 = F2957 7 := k2972 7 (by decide)
                    refine k_rv I2970 rfl (m_must  I2970.1 (show 0 ≤ (F2968 8) ∧ (F2968 8) ≤ (F2968 7) ∧ (F2968 7) ≤ 700 ∧ ((F2968 9) = 2 → 0 ≤ (F2968 11) ∧ (F2968 11) ≤ 9) ∧ 0 ≤ (F2968 9) ∧ (F2968 9) ≤ 4 by omega)) (Nat.ble_eq_true_of_le (by omega)) rfl rfl I2970.rc ?_
                    rintro h3028 F3029 A3030 I3031 ⟨k3033, k3034, p3032⟩
                    replace p3032 : ((F2968 8) ≤ F3029 8 ∧ F3029 8 ≤ (F2968 7)) ∧ (F3029 6 = 0 → (F2968 6) = 0 ∧ (F3029 9 = 0 ∨ (F2968 8) < F3029 8)) ∧ (F3029 9 = 2 → 0 ≤ F3029 11 ∧ F3029 11 ≤ 9) ∧ (0 ≤ F3029 9 ∧ F3029 9 ≤ 4) := p3032
                    obtain ⟨p3032a, p3032b, p3032c, p3032d⟩ := p3032
                    have k3034 := fr2.nil k3034
                    subst k3034
                    show am_Ok _ _ _ (115, _, [], _, 0, 0) _
                    refine k_aload 116 rfl (gs_ne rfl rfl g0) rfl ?_
                    have e3035 : F3029 7 = F2968 7 := k3033 7 (by decide)
                    have e3036 : F3029 20 = F2968 20 := k3033 20 (by decide)
                    have e3037 : F2968 20 = F2957 20 := k2972 20 (by decide)
                    have e3038 : F2957 20 = x2947.toInt := k2961 20 (by decide)
                    have e3039 : F3029 21 = F2968 21 := k3033 21 (by decide)
                    have e3040 : F2968 21 = F2957 21 := k2972 21 (by decide)
                    have e3041 : F2957 21 = F 21 := k2961 21 (by decide)
                    have e3042 : F3029 18 = F2968 18 := k3033 18 (by decide)
                    have e3043 : F2968 18 = F2957 18 := k2972 18 (by decide)
                    have e3044 : F2957 18 = F 18 := k2961 18 (by decide)
                    have e3045 : F 18 = F0 18 := hF 18 (by decide)
                    have e3046 : F3029 23 = F2968 23 := k3033 23 (by decide)
                    have e3047 : F2968 23 = F2957 23 := k2972 23 (by decide)
                    refine k_rv I3031 rfl (hrec  I3031.1 (show 0 ≤ (F3029 8) ∧ (F3029 8) ≤ (F3029 7) ∧ (F3029 7) ≤ 700 ∧ 0 ≤ (F3029 20) ∧ (F3029 20) ≤ 30 ∧ 0 ≤ (F3029 21) ∧ (F3029 21) ≤ 12 ∧ 0 ≤ (F3029 18) ∧ (F3029 18) ≤ 12 ∧ 0 ≤ (F3029 23) ∧ (F3029 23) ≤ 1000000 ∧ ((F3029 9) = 2 → 0 ≤ (F3029 11) ∧ (F3029 11) ≤ 9) ∧ 0 ≤ (F3029 9) ∧ (F3029 9) ≤ 4 by omega) (show nm ((A2958 16)) ((A2958 17)) ((F3029 18)) by rw [((k2962 16 (by decide)).trans (hA 16 (by decide))), ((k2962 17 (by decide)).trans (hA 17 (by decide))), ((k3033 18 (by decide)).trans ((k2972 18 (by decide)).trans ((k2961 18 (by decide)).trans (hF 18 (by decide)))))]; exact p2) (show (12 - (F3029 21)) + (30 - (F3029 20)) < (gk : Int) by omega)) (Nat.ble_eq_true_of_le (by omega)) rfl rfl I3031.rc ?_
                    rintro h3049 F3050 A3051 I3052 ⟨k3054, k3055, p3053⟩
                    replace p3053 : ((F3029 8) ≤ F3050 8 ∧ F3050 8 ≤ (F3029 7) ∧ (F3029 20) ≤ F3050 20 ∧ F3050 20 ≤ 30 ∧ F3050 21 = (F3029 21) ∧ (F3029 23) ≤ F3050 23 ∧ F3050 23 ≤ 1000000 ∧ (F3050 9 = 2 → 0 ≤ F3050 11 ∧ F3050 11 ≤ 9) ∧ 0 ≤ F3050 9 ∧ F3050 9 ≤ 4) ∧ (F3050 6 = 0 → F3050 20 = (F3029 20) ∧ (F3029 6) = 0 ∧ (F3050 9 = 0 ∨ (F3029 8) < F3050 8)) ∧ (F3050 6 = 0 → F3050 23 ≤ 124 → rd1 (A3051 22) ((A2958 22)) ((F3029 23)) (F3050 23) ((F3029 20))) := p3053
                    obtain ⟨p3053a, p3053b, p3053c⟩ := p3053
                    show am_Ok _ _ _ (119, _, [], _, 0, 0) _
                    refine k_aload 120 rfl (gs_ne rfl rfl g0) rfl ?_
                    refine k_dup 121 rfl rfl rfl ?_
                    refine r_gI I3052 124 rfl rfl rfl (fun x3056 (e3057 : x3056.toInt = F3050 20) => ?_)
                    refine k_iload 125 rfl gs_eq rfl ?_
                    obtain ⟨x3058, q3059⟩ : ∃ q : Int32, q = (x3056 - x2952) := ⟨_, rfl⟩
                    have e3060 : x3058.toInt = x3056.toInt - x2952.toInt := by rw [q3059, iv_sub (by omega) (by omega)]
                    refine k_bin x3058 126 rfl q3059.symm rfl ?_
                    refine r_pI I3052 129 rfl rfl rfl (fun h3061 I3062 => ?_)
                    exact k_fin rfl rfl ⟨_, _, _, rfl, I3062, (fr1.up (by decide) (fr1.tr (by decide) (fr1.tr (by decide) (fr1.tr (by decide) (fr1.tr (by decide) (fr1.up (by decide) hF) k2961) k2972) k3033) k3054)), (fr2.tr (by decide) (fr2.tr (by decide) hA k2962) k3055), ⟨(show (F0 8 ≤ F3050 8 ∧ F3050 8 ≤ F0 7 ∧ F0 20 ≤ x3058.toInt ∧ x3058.toInt ≤ 30 ∧ F3050 21 = F0 21 ∧ F0 23 ≤ F3050 23 ∧ F3050 23 ≤ 1000000 ∧ (F3050 9 = 2 → 0 ≤ F3050 11 ∧ F3050 11 ≤ 9) ∧ 0 ≤ F3050 9 ∧ F3050 9 ≤ 4) by omega), (show (F3050 6 = 0 → x3058.toInt = F0 20 ∧ F0 6 = 0 ∧ (F3050 9 = 0 ∨ F0 8 < F3050 8)) by omega), fun z1 z2 => by have z8 : F3050 6 = 0 := z1; have z9 : F3050 23 ≤ 124 := z2; have h9 := p3053c (by omega) (by omega); show rd1 (A3051 22) (A0 22) (F0 23) (F3050 23) (F0 20); exact fu_end (hfu (by omega)) (by omega) (rd_cg h9 (by omega) (by omega) rfl) (by omega)⟩⟩
                · refine k_c1 11 rfl rfl (if_neg b2939) ?_
                  have b2939 := mt iv_eq0.mpr b2939
                  refine k_push 12 rfl rfl ?_
                  refine k_fin rfl (fin_Z (Or.inl rfl)) ⟨_, _, rfl, rf_len hI hI, ?_⟩
                  show am_Ok _ _ _ (28, _, [.inl (0 : Int32)], _, 0, 0) _
                  refine k_fin rfl (fin_Z (Or.inl rfl)) ⟨_, _, rfl, rf_len hI hI, ?_⟩
                  show am_Ok _ _ _ (55, _, [.inl (0 : Int32)], _, 0, 0) _
                  refine k_c1 58 rfl rfl (if_pos (by decide)) ?_
                  exact k_fin rfl rfl ⟨_, _, _, rfl, hI, hF, hA, ⟨(show (F0 8 ≤ F 8 ∧ F 8 ≤ F0 7 ∧ F0 20 ≤ F 20 ∧ F 20 ≤ 30 ∧ F 21 = F0 21 ∧ F0 23 ≤ F 23 ∧ F 23 ≤ 1000000 ∧ (F 9 = 2 → 0 ≤ F 11 ∧ F 11 ≤ 9) ∧ 0 ≤ F 9 ∧ F 9 ≤ 4) by omega), (show (F 6 = 0 → F 20 = F0 20 ∧ F0 6 = 0 ∧ (F 9 = 0 ∨ F0 8 < F 8)) by omega), fun z => absurd (show F 6 = 0 from z) (by omega)⟩⟩
              · refine k_c1 11 rfl rfl (if_neg b2936) ?_
                have b2936 := mt iv_eq0.mpr b2936
                refine k_push 12 rfl rfl ?_
                refine k_fin rfl (fin_Z (Or.inl rfl)) ⟨_, _, rfl, rf_len hI hI, ?_⟩
                show am_Ok _ _ _ (4, _, [.inl (0 : Int32)], _, 0, 0) _
                refine k_c1 24 rfl rfl (if_pos (by decide)) ?_
                refine k_aload 25 rfl rfl rfl ?_
                refine k_in (d := 0) rfl (Nat.ble_eq_true_of_le (by omega)) rfl rfl hI.rc ?_
                refine k_aload 1 rfl rfl rfl ?_
                refine r_gI hI 4 rfl rfl rfl (fun x3063 (e3064 : x3063.toInt = F 6) => ?_)
                by_cases b3065 : x3063 = 0
                · refine k_c1 7 rfl rfl (if_pos b3065) ?_
                  have b3065 := iv_eq0.mp b3065
                  refine k_push 8 rfl rfl ?_
                  refine k_goto 12 rfl rfl ?_
                  refine k_fin rfl (fin_Z (Or.inr rfl)) ⟨_, _, rfl, rf_len hI hI, ?_⟩
                  show am_Ok _ _ _ (28, _, [.inl (1 : Int32)], _, 0, 0) _
                  refine k_fin rfl (fin_Z (Or.inr rfl)) ⟨_, _, rfl, rf_len hI hI, ?_⟩
                  show am_Ok _ _ _ (55, _, [.inl (1 : Int32)], _, 0, 0) _
                  refine k_c1 59 rfl rfl (if_neg (by decide)) ?_
                  refine k_aload 60 rfl g0 rfl ?_
                  refine r_gA hI 63 rfl rfl rfl ?_
                  refine k_aload 64 rfl g0 rfl ?_
                  refine r_gI hI 67 rfl rfl rfl (fun x3066 (e3067 : x3066.toInt = F 20) => ?_)
                  refine k_aload 68 rfl g0 rfl ?_
                  refine r_gJ hI 71 rfl rfl rfl (fun y3068 => ?_)
                  refine r_lst 19 hI 72 rfl rfl (by omega) (show x3066.toInt < 31 by omega) rfl (fun h3069 I3070 => ?_)
                  refine k_aload 73 rfl g0 rfl ?_
                  refine k_dup 74 rfl rfl rfl ?_
                  refine r_gI I3070 77 rfl rfl rfl (fun x3071 (e3072 : x3071.toInt = F 20) => ?_)
                  refine k_push 78 rfl rfl ?_
                  obtain ⟨x3073, q3074⟩ : ∃ q : Int32, q = (x3071 + (1 : Int32)) := ⟨_, rfl⟩
                  have e3075 : x3073.toInt = x3071.toInt + 1 := by rw [q3074, iv_add (by omega) (by omega)]; omega
                  refine k_bin x3073 79 rfl q3074.symm rfl ?_
                  refine r_pI I3070 82 rfl rfl rfl (fun h3076 I3077 => ?_)
                  obtain ⟨x3078, q3079⟩ : ∃ q : Int32, q = v1 + (1 : Int32) := ⟨_, rfl⟩
                  have e3080 : x3078.toInt = v1.toInt + 1 := by rw [q3079, iv_add (by omega) (by omega)]; omega
                  refine k_iinc x3078 85 rfl g1 q3079.symm rfl ?_
                  refine k_aload 86 rfl (gs_ne rfl rfl g0) rfl ?_
                  refine k_push 87 rfl rfl ?_
                  refine k_rv I3077 rfl (m_emits  I3077.1 (show 0 ≤ (F 23) ∧ (F 23) ≤ 1000000 by omega)) (Nat.ble_eq_true_of_le (by omega)) rfl rfl I3077.rc ?_
                  rintro h3082 F3083 A3084 I3085 ⟨k3087, k3088, p3086⟩
                  replace p3086 : ((F 23) ≤ F3083 23 ∧ F3083 23 ≤ 1000000) ∧ (F3083 23 ≤ 124 → F3083 23 = (F 23) + 1) ∧ (F3083 23 ≤ 124 → A3084 22 ((F 23)) = (1 : Int32).toInt ∧ ∀ q : Int, q ≠ (F 23) → A3084 22 q = (A 22) q) := p3086
                  obtain ⟨p3086a, p3086b, p3086c⟩ := p3086
                  show am_Ok _ _ _ (90, _, [], _, 0, 0) _
                  have hfu : F3083 23 ≤ 124 → fu (A3084 22) (A0 22) (F0 23) (F3083 23) (v1.toInt + 1) := fun z9 => fu_s (i2 (by omega)) (p3086b z9) ((p3086c z9).1.trans (by decide)) (p3086c z9).2 (by omega) rfl
                  refine k_aload 91 rfl (gs_ne rfl rfl g0) rfl ?_
                  have e3089 : F3083 8 = F 8 := k3087 8 (by decide)
                  have e3090 : F3083 7 = F 7 := k3087 7 (by decide)
                  have e3091 : F 7 = F0 7 := hF 7 (by decide)
                  refine k_rv I3085 rfl (m_goes  I3085.1 (show 0 ≤ (F3083 8) ∧ (F3083 8) ≤ (F3083 7) ∧ (F3083 7) ≤ 700 by omega)) (Nat.ble_eq_true_of_le (by omega)) rfl rfl I3085.rc ?_
                  rintro h3093 F3094 A3095 I3096 ⟨k3098, k3099, p3097⟩
                  replace p3097 : ((F3083 8) ≤ F3094 8 ∧ F3094 8 ≤ (F3083 7)) ∧ (F3094 9 = 0 ∨ (F3083 8) < F3094 8) ∧ (F3094 9 = 2 → 0 ≤ F3094 11 ∧ F3094 11 ≤ 9) ∧ (0 ≤ F3094 9 ∧ F3094 9 ≤ 4) := p3097
                  obtain ⟨p3097a, p3097b, p3097c, p3097d⟩ := p3097
                  have k3099 := fr2.nil k3099
                  subst k3099
                  show am_Ok _ _ _ (94, _, [], _, 0, 0) _
                  refine k_aload 95 rfl (gs_ne rfl rfl g0) rfl ?_
                  refine k_in (d := 0) rfl (Nat.ble_eq_true_of_le (by omega)) rfl rfl I3096.rc ?_
                  refine k_aload 1 rfl rfl rfl ?_
                  refine r_gI I3096 4 rfl rfl rfl (fun x3100 (e3101 : x3100.toInt = F3094 6) => ?_)
                  have e3102 : F3094 6 = F3083 6 := k3098 6 (by decide)
                  have e3103 : F3083 6 = F 6 := k3087 6 (by decide)
                  by_cases b3104 : x3100 = 0
                  · refine k_c1 7 rfl rfl (if_pos b3104) ?_
                    have b3104 := iv_eq0.mp b3104
                    refine k_push 8 rfl rfl ?_
                    refine k_goto 12 rfl rfl ?_
                    refine k_fin rfl (fin_Z (Or.inr rfl)) ⟨_, _, rfl, rf_len I3096 I3096, ?_⟩
                    show am_Ok _ _ _ (98, _, [.inl (1 : Int32)], _, 0, 0) _
                    refine k_c1 101 rfl rfl (if_neg (by decide)) ?_
                    refine k_aload 102 rfl (gs_ne rfl rfl g0) rfl ?_
                    refine r_gI I3096 105 rfl rfl rfl (fun x3105 (e3106 : x3105.toInt = F3094 9) => ?_)
                    refine k_push 106 rfl rfl ?_
                    by_cases b3107 : x3105 = (1 : Int32)
                    · refine k_c2 6 rfl rfl (if_pos b3107) ?_
                      have b3107 := iv_eq.mp b3107
                      have e3108 : F3094 20 = F3083 20 := k3098 20 (by decide)
                      have e3109 : F3083 20 = x3073.toInt := k3087 20 (by decide)
                      have e3110 : F3094 21 = F3083 21 := k3098 21 (by decide)
                      have e3111 : F3083 21 = F 21 := k3087 21 (by decide)
                      have e3112 : F3094 23 = F3083 23 := k3098 23 (by decide)
                      exact ih _ (show ((31 - x3078.toInt).toNat) < n by omega)  rfl (gs_ne rfl rfl g0) gs_eq I3096 (fr1.tr (by decide) (fr1.tr (by decide) (fr1.up (by decide) hF) k3087) k3098) (fr2.tr (by decide) hA k3088) (show F0 8 ≤ (F3094 8) ∧ (F3094 8) ≤ F0 7 ∧ (F3094 20) = F0 20 + x3078.toInt ∧ 0 ≤ x3078.toInt ∧ (F3094 20) ≤ 30 ∧ (F3094 21) = F0 21 ∧ F0 23 ≤ (F3094 23) ∧ (F3094 23) ≤ 1000000 ∧ ((F3094 9) = 2 → 0 ≤ (F3094 11) ∧ (F3094 11) ≤ 9) ∧ 0 ≤ (F3094 9) ∧ (F3094 9) ≤ 4 ∧ (F3094 6) = 0 by omega) (fun z => by have z9 : F3094 23 ≤ 124 := z; show fu (A3084 22) (A0 22) (F0 23) (F3094 23) x3078.toInt; exact fu_cg (hfu (by omega)) (by omega) (by omega))
                    · refine k_c2 109 rfl rfl (if_neg b3107) ?_
                      have b3107 := mt iv_eq.mpr b3107
                      refine k_aload 110 rfl (gs_ne rfl rfl g0) rfl ?_
                      refine k_push 112 rfl rfl ?_
                      have hc3113 : (46 : Int32).toInt = 46 := by decide
                      have e3114 : F3094 7 = F3083 7 := k3098 7 (by decide)
                      refine k_rv I3096 rfl (m_must  I3096.1 (show 0 ≤ (F3094 8) ∧ (F3094 8) ≤ (F3094 7) ∧ (F3094 7) ≤ 700 ∧ ((F3094 9) = 2 → 0 ≤ (F3094 11) ∧ (F3094 11) ≤ 9) ∧ 0 ≤ (F3094 9) ∧ (F3094 9) ≤ 4 by omega)) (Nat.ble_eq_true_of_le (by omega)) rfl rfl I3096.rc ?_
                      rintro h3116 F3117 A3118 I3119 ⟨k3121, k3122, p3120⟩
                      replace p3120 : ((F3094 8) ≤ F3117 8 ∧ F3117 8 ≤ (F3094 7)) ∧ (F3117 6 = 0 → (F3094 6) = 0 ∧ (F3117 9 = 0 ∨ (F3094 8) < F3117 8)) ∧ (F3117 9 = 2 → 0 ≤ F3117 11 ∧ F3117 11 ≤ 9) ∧ (0 ≤ F3117 9 ∧ F3117 9 ≤ 4) := p3120
                      obtain ⟨p3120a, p3120b, p3120c, p3120d⟩ := p3120
                      have k3122 := fr2.nil k3122
                      subst k3122
                      show am_Ok _ _ _ (115, _, [], _, 0, 0) _
                      refine k_aload 116 rfl (gs_ne rfl rfl g0) rfl ?_
                      have e3123 : F3117 7 = F3094 7 := k3121 7 (by decide)
                      have e3124 : F3117 20 = F3094 20 := k3121 20 (by decide)
                      have e3125 : F3094 20 = F3083 20 := k3098 20 (by decide)
                      have e3126 : F3083 20 = x3073.toInt := k3087 20 (by decide)
                      have e3127 : F3117 21 = F3094 21 := k3121 21 (by decide)
                      have e3128 : F3094 21 = F3083 21 := k3098 21 (by decide)
                      have e3129 : F3083 21 = F 21 := k3087 21 (by decide)
                      have e3130 : F3117 18 = F3094 18 := k3121 18 (by decide)
                      have e3131 : F3094 18 = F3083 18 := k3098 18 (by decide)
                      have e3132 : F3083 18 = F 18 := k3087 18 (by decide)
                      have e3133 : F 18 = F0 18 := hF 18 (by decide)
                      have e3134 : F3117 23 = F3094 23 := k3121 23 (by decide)
                      have e3135 : F3094 23 = F3083 23 := k3098 23 (by decide)
                      refine k_rv I3119 rfl (hrec  I3119.1 (show 0 ≤ (F3117 8) ∧ (F3117 8) ≤ (F3117 7) ∧ (F3117 7) ≤ 700 ∧ 0 ≤ (F3117 20) ∧ (F3117 20) ≤ 30 ∧ 0 ≤ (F3117 21) ∧ (F3117 21) ≤ 12 ∧ 0 ≤ (F3117 18) ∧ (F3117 18) ≤ 12 ∧ 0 ≤ (F3117 23) ∧ (F3117 23) ≤ 1000000 ∧ ((F3117 9) = 2 → 0 ≤ (F3117 11) ∧ (F3117 11) ≤ 9) ∧ 0 ≤ (F3117 9) ∧ (F3117 9) ≤ 4 by omega) (show nm ((A3084 16)) ((A3084 17)) ((F3117 18)) by rw [((k3088 16 (by decide)).trans (hA 16 (by decide))), ((k3088 17 (by decide)).trans (hA 17 (by decide))), ((k3121 18 (by decide)).trans ((k3098 18 (by decide)).trans ((k3087 18 (by decide)).trans (hF 18 (by decide)))))]; exact p2) (show (12 - (F3117 21)) + (30 - (F3117 20)) < (gk : Int) by omega)) (Nat.ble_eq_true_of_le (by omega)) rfl rfl I3119.rc ?_
                      rintro h3137 F3138 A3139 I3140 ⟨k3142, k3143, p3141⟩
                      replace p3141 : ((F3117 8) ≤ F3138 8 ∧ F3138 8 ≤ (F3117 7) ∧ (F3117 20) ≤ F3138 20 ∧ F3138 20 ≤ 30 ∧ F3138 21 = (F3117 21) ∧ (F3117 23) ≤ F3138 23 ∧ F3138 23 ≤ 1000000 ∧ (F3138 9 = 2 → 0 ≤ F3138 11 ∧ F3138 11 ≤ 9) ∧ 0 ≤ F3138 9 ∧ F3138 9 ≤ 4) ∧ (F3138 6 = 0 → F3138 20 = (F3117 20) ∧ (F3117 6) = 0 ∧ (F3138 9 = 0 ∨ (F3117 8) < F3138 8)) ∧ (F3138 6 = 0 → F3138 23 ≤ 124 → rd1 (A3139 22) ((A3084 22)) ((F3117 23)) (F3138 23) ((F3117 20))) := p3141
                      obtain ⟨p3141a, p3141b, p3141c⟩ := p3141
                      show am_Ok _ _ _ (119, _, [], _, 0, 0) _
                      refine k_aload 120 rfl (gs_ne rfl rfl g0) rfl ?_
                      refine k_dup 121 rfl rfl rfl ?_
                      refine r_gI I3140 124 rfl rfl rfl (fun x3144 (e3145 : x3144.toInt = F3138 20) => ?_)
                      refine k_iload 125 rfl gs_eq rfl ?_
                      obtain ⟨x3146, q3147⟩ : ∃ q : Int32, q = (x3144 - x3078) := ⟨_, rfl⟩
                      have e3148 : x3146.toInt = x3144.toInt - x3078.toInt := by rw [q3147, iv_sub (by omega) (by omega)]
                      refine k_bin x3146 126 rfl q3147.symm rfl ?_
                      refine r_pI I3140 129 rfl rfl rfl (fun h3149 I3150 => ?_)
                      exact k_fin rfl rfl ⟨_, _, _, rfl, I3150, (fr1.up (by decide) (fr1.tr (by decide) (fr1.tr (by decide) (fr1.tr (by decide) (fr1.tr (by decide) (fr1.up (by decide) hF) k3087) k3098) k3121) k3142)), (fr2.tr (by decide) (fr2.tr (by decide) hA k3088) k3143), ⟨(show (F0 8 ≤ F3138 8 ∧ F3138 8 ≤ F0 7 ∧ F0 20 ≤ x3146.toInt ∧ x3146.toInt ≤ 30 ∧ F3138 21 = F0 21 ∧ F0 23 ≤ F3138 23 ∧ F3138 23 ≤ 1000000 ∧ (F3138 9 = 2 → 0 ≤ F3138 11 ∧ F3138 11 ≤ 9) ∧ 0 ≤ F3138 9 ∧ F3138 9 ≤ 4) by omega), (show (F3138 6 = 0 → x3146.toInt = F0 20 ∧ F0 6 = 0 ∧ (F3138 9 = 0 ∨ F0 8 < F3138 8)) by omega), fun z1 z2 => by have z8 : F3138 6 = 0 := z1; have z9 : F3138 23 ≤ 124 := z2; have h9 := p3141c (by omega) (by omega); show rd1 (A3139 22) (A0 22) (F0 23) (F3138 23) (F0 20); exact fu_end (hfu (by omega)) (by omega) (rd_cg h9 (by omega) (by omega) rfl) (by omega)⟩⟩
                  · refine k_c1 11 rfl rfl (if_neg b3104) ?_
                    have b3104 := mt iv_eq0.mpr b3104
                    refine k_push 12 rfl rfl ?_
                    refine k_fin rfl (fin_Z (Or.inl rfl)) ⟨_, _, rfl, rf_len I3096 I3096, ?_⟩
                    show am_Ok _ _ _ (98, _, [.inl (0 : Int32)], _, 0, 0) _
                    refine k_c1 109 rfl rfl (if_pos (by decide)) ?_
                    refine k_aload 110 rfl (gs_ne rfl rfl g0) rfl ?_
                    refine k_push 112 rfl rfl ?_
                    have hc3151 : (46 : Int32).toInt = 46 := by decide
                    have e3152 : F3094 7 = F3083 7 := k3098 7 (by decide)
                    refine k_rv I3096 rfl (m_must  I3096.1 (show 0 ≤ (F3094 8) ∧ (F3094 8) ≤ (F3094 7) ∧ (F3094 7) ≤ 700 ∧ ((F3094 9) = 2 → 0 ≤ (F3094 11) ∧ (F3094 11) ≤ 9) ∧ 0 ≤ (F3094 9) ∧ (F3094 9) ≤ 4 by omega)) (Nat.ble_eq_true_of_le (by omega)) rfl rfl I3096.rc ?_
                    rintro h3154 F3155 A3156 I3157 ⟨k3159, k3160, p3158⟩
                    replace p3158 : ((F3094 8) ≤ F3155 8 ∧ F3155 8 ≤ (F3094 7)) ∧ (F3155 6 = 0 → (F3094 6) = 0 ∧ (F3155 9 = 0 ∨ (F3094 8) < F3155 8)) ∧ (F3155 9 = 2 → 0 ≤ F3155 11 ∧ F3155 11 ≤ 9) ∧ (0 ≤ F3155 9 ∧ F3155 9 ≤ 4) := p3158
                    obtain ⟨p3158a, p3158b, p3158c, p3158d⟩ := p3158
                    have k3160 := fr2.nil k3160
                    subst k3160
                    show am_Ok _ _ _ (115, _, [], _, 0, 0) _
                    refine k_aload 116 rfl (gs_ne rfl rfl g0) rfl ?_
                    have e3161 : F3155 7 = F3094 7 := k3159 7 (by decide)
                    have e3162 : F3155 20 = F3094 20 := k3159 20 (by decide)
                    have e3163 : F3094 20 = F3083 20 := k3098 20 (by decide)
                    have e3164 : F3083 20 = x3073.toInt := k3087 20 (by decide)
                    have e3165 : F3155 21 = F3094 21 := k3159 21 (by decide)
                    have e3166 : F3094 21 = F3083 21 := k3098 21 (by decide)
                    have e3167 : F3083 21 = F 21 := k3087 21 (by decide)
                    have e3168 : F3155 18 = F3094 18 := k3159 18 (by decide)
                    have e3169 : F3094 18 = F3083 18 := k3098 18 (by decide)
                    have e3170 : F3083 18 = F 18 := k3087 18 (by decide)
                    have e3171 : F 18 = F0 18 := hF 18 (by decide)
                    have e3172 : F3155 23 = F3094 23 := k3159 23 (by decide)
                    have e3173 : F3094 23 = F3083 23 := k3098 23 (by decide)
                    refine k_rv I3157 rfl (hrec  I3157.1 (show 0 ≤ (F3155 8) ∧ (F3155 8) ≤ (F3155 7) ∧ (F3155 7) ≤ 700 ∧ 0 ≤ (F3155 20) ∧ (F3155 20) ≤ 30 ∧ 0 ≤ (F3155 21) ∧ (F3155 21) ≤ 12 ∧ 0 ≤ (F3155 18) ∧ (F3155 18) ≤ 12 ∧ 0 ≤ (F3155 23) ∧ (F3155 23) ≤ 1000000 ∧ ((F3155 9) = 2 → 0 ≤ (F3155 11) ∧ (F3155 11) ≤ 9) ∧ 0 ≤ (F3155 9) ∧ (F3155 9) ≤ 4 by omega) (show nm ((A3084 16)) ((A3084 17)) ((F3155 18)) by rw [((k3088 16 (by decide)).trans (hA 16 (by decide))), ((k3088 17 (by decide)).trans (hA 17 (by decide))), ((k3159 18 (by decide)).trans ((k3098 18 (by decide)).trans ((k3087 18 (by decide)).trans (hF 18 (by decide)))))]; exact p2) (show (12 - (F3155 21)) + (30 - (F3155 20)) < (gk : Int) by omega)) (Nat.ble_eq_true_of_le (by omega)) rfl rfl I3157.rc ?_
                    rintro h3175 F3176 A3177 I3178 ⟨k3180, k3181, p3179⟩
                    replace p3179 : ((F3155 8) ≤ F3176 8 ∧ F3176 8 ≤ (F3155 7) ∧ (F3155 20) ≤ F3176 20 ∧ F3176 20 ≤ 30 ∧ F3176 21 = (F3155 21) ∧ (F3155 23) ≤ F3176 23 ∧ F3176 23 ≤ 1000000 ∧ (F3176 9 = 2 → 0 ≤ F3176 11 ∧ F3176 11 ≤ 9) ∧ 0 ≤ F3176 9 ∧ F3176 9 ≤ 4) ∧ (F3176 6 = 0 → F3176 20 = (F3155 20) ∧ (F3155 6) = 0 ∧ (F3176 9 = 0 ∨ (F3155 8) < F3176 8)) ∧ (F3176 6 = 0 → F3176 23 ≤ 124 → rd1 (A3177 22) ((A3084 22)) ((F3155 23)) (F3176 23) ((F3155 20))) := p3179
                    obtain ⟨p3179a, p3179b, p3179c⟩ := p3179
                    show am_Ok _ _ _ (119, _, [], _, 0, 0) _
                    refine k_aload 120 rfl (gs_ne rfl rfl g0) rfl ?_
                    refine k_dup 121 rfl rfl rfl ?_
                    refine r_gI I3178 124 rfl rfl rfl (fun x3182 (e3183 : x3182.toInt = F3176 20) => ?_)
                    refine k_iload 125 rfl gs_eq rfl ?_
                    obtain ⟨x3184, q3185⟩ : ∃ q : Int32, q = (x3182 - x3078) := ⟨_, rfl⟩
                    have e3186 : x3184.toInt = x3182.toInt - x3078.toInt := by rw [q3185, iv_sub (by omega) (by omega)]
                    refine k_bin x3184 126 rfl q3185.symm rfl ?_
                    refine r_pI I3178 129 rfl rfl rfl (fun h3187 I3188 => ?_)
                    exact k_fin rfl rfl ⟨_, _, _, rfl, I3188, (fr1.up (by decide) (fr1.tr (by decide) (fr1.tr (by decide) (fr1.tr (by decide) (fr1.tr (by decide) (fr1.up (by decide) hF) k3087) k3098) k3159) k3180)), (fr2.tr (by decide) (fr2.tr (by decide) hA k3088) k3181), ⟨(show (F0 8 ≤ F3176 8 ∧ F3176 8 ≤ F0 7 ∧ F0 20 ≤ x3184.toInt ∧ x3184.toInt ≤ 30 ∧ F3176 21 = F0 21 ∧ F0 23 ≤ F3176 23 ∧ F3176 23 ≤ 1000000 ∧ (F3176 9 = 2 → 0 ≤ F3176 11 ∧ F3176 11 ≤ 9) ∧ 0 ≤ F3176 9 ∧ F3176 9 ≤ 4) by omega), (show (F3176 6 = 0 → x3184.toInt = F0 20 ∧ F0 6 = 0 ∧ (F3176 9 = 0 ∨ F0 8 < F3176 8)) by omega), fun z1 z2 => by have z8 : F3176 6 = 0 := z1; have z9 : F3176 23 ≤ 124 := z2; have h9 := p3179c (by omega) (by omega); show rd1 (A3177 22) (A0 22) (F0 23) (F3176 23) (F0 20); exact fu_end (hfu (by omega)) (by omega) (rd_cg h9 (by omega) (by omega) rfl) (by omega)⟩⟩
                · refine k_c1 11 rfl rfl (if_neg b3065) ?_
                  have b3065 := mt iv_eq0.mpr b3065
                  refine k_push 12 rfl rfl ?_
                  refine k_fin rfl (fin_Z (Or.inl rfl)) ⟨_, _, rfl, rf_len hI hI, ?_⟩
                  show am_Ok _ _ _ (28, _, [.inl (0 : Int32)], _, 0, 0) _
                  refine k_fin rfl (fin_Z (Or.inl rfl)) ⟨_, _, rfl, rf_len hI hI, ?_⟩
                  show am_Ok _ _ _ (55, _, [.inl (0 : Int32)], _, 0, 0) _
                  refine k_c1 58 rfl rfl (if_pos (by decide)) ?_
                  exact k_fin rfl rfl ⟨_, _, _, rfl, hI, hF, hA, ⟨(show (F0 8 ≤ F 8 ∧ F 8 ≤ F0 7 ∧ F0 20 ≤ F 20 ∧ F 20 ≤ 30 ∧ F 21 = F0 21 ∧ F0 23 ≤ F 23 ∧ F 23 ≤ 1000000 ∧ (F 9 = 2 → 0 ≤ F 11 ∧ F 11 ≤ 9) ∧ 0 ≤ F 9 ∧ F 9 ≤ 4) by omega), (show (F 6 = 0 → F 20 = F0 20 ∧ F0 6 = 0 ∧ (F 9 = 0 ∨ F0 8 < F 8)) by omega), fun z => absurd (show F 6 = 0 from z) (by omega)⟩⟩
        · refine k_c1 11 rfl rfl (if_neg b2400) ?_
          have b2400 := mt iv_eq0.mpr b2400
          refine k_push 12 rfl rfl ?_
          refine k_fin rfl (fin_Z (Or.inl rfl)) ⟨_, _, rfl, rf_len hI hI, ?_⟩
          show am_Ok _ _ _ (28, _, [.inl (0 : Int32)], _, 0, 0) _
          refine k_fin rfl (fin_Z (Or.inl rfl)) ⟨_, _, rfl, rf_len hI hI, ?_⟩
          show am_Ok _ _ _ (24, _, [.inl (0 : Int32)], _, 0, 0) _
          refine k_c1 58 rfl rfl (if_pos (by decide)) ?_
          exact k_fin rfl rfl ⟨_, _, _, rfl, hI, hF, hA, ⟨(show (F0 8 ≤ F 8 ∧ F 8 ≤ F0 7 ∧ F0 20 ≤ F 20 ∧ F 20 ≤ 30 ∧ F 21 = F0 21 ∧ F0 23 ≤ F 23 ∧ F 23 ≤ 1000000 ∧ (F 9 = 2 → 0 ≤ F 11 ∧ F 11 ≤ 9) ∧ 0 ≤ F 9 ∧ F 9 ≤ 4) by omega), (show (F 6 = 0 → F 20 = F0 20 ∧ F0 6 = 0 ∧ (F 9 = 0 ∨ F0 8 < F 8)) by omega), fun z => absurd (show F 6 = 0 from z) (by omega)⟩⟩
theorem m_readsFunction {h0 : am_h} {F0 : rf_f} {A0 : rf_A} {gk : Nat} (hR : rf_R h0 F0 A0) (hrec : ∀ {h0 : am_h} {F0 : rf_f} {A0 : rf_A}, rf_R h0 F0 A0 → (0 ≤ F0 8 ∧ F0 8 ≤ F0 7 ∧ F0 7 ≤ 700 ∧ 0 ≤ F0 20 ∧ F0 20 ≤ 30 ∧ 0 ≤ F0 21 ∧ F0 21 ≤ 12 ∧ 0 ≤ F0 18 ∧ F0 18 ≤ 12 ∧ 0 ≤ F0 23 ∧ F0 23 ≤ 1000000 ∧ (F0 9 = 2 → 0 ≤ F0 11 ∧ F0 11 ≤ 9) ∧ 0 ≤ F0 9 ∧ F0 9 ≤ 4) → (nm (A0 16) (A0 17) (F0 18)) → ((12 - F0 21) + (30 - F0 20) < (gk : Int)) → am_Mt (2 * gk + 5) 182 [.inr (.inr (some 81))] h0 (rf_V h0 (fun F' A' => fr1 [8, 10, 9, 14, 11, 12, 6, 5, 23, 20, 21] F0 F' ∧ fr2 [22] A0 A' ∧ ((F0 8 ≤ F' 8 ∧ F' 8 ≤ F0 7 ∧ F0 20 ≤ F' 20 ∧ F' 20 ≤ 30 ∧ F' 21 = F0 21 ∧ F0 23 ≤ F' 23 ∧ F' 23 ≤ 1000000 ∧ (F' 9 = 2 → 0 ≤ F' 11 ∧ F' 11 ≤ 9) ∧ 0 ≤ F' 9 ∧ F' 9 ≤ 4) ∧ (F' 6 = 0 → F' 20 = F0 20 ∧ F0 6 = 0 ∧ (F' 9 = 0 ∨ F0 8 < F' 8)) ∧ (F' 6 = 0 → F' 23 ≤ 124 → rd1 (A' 22) (A0 22) (F0 23) (F' 23) (F0 20)))))) (p1 : 0 ≤ F0 8 ∧ F0 8 ≤ F0 7 ∧ F0 7 ≤ 700 ∧ 0 ≤ F0 20 ∧ F0 20 ≤ 30 ∧ 0 ≤ F0 21 ∧ F0 21 ≤ 12 ∧ 0 ≤ F0 18 ∧ F0 18 ≤ 12 ∧ 0 ≤ F0 23 ∧ F0 23 ≤ 1000000 ∧ (F0 9 = 2 → 0 ≤ F0 11 ∧ F0 11 ≤ 9) ∧ 0 ≤ F0 9 ∧ F0 9 ≤ 4) (p2 : nm (A0 16) (A0 17) (F0 18)) (p3 : (12 - F0 21) + (30 - F0 20) < (gk : Int) + 1) (p4 : F0 6 = 0) : am_Mt ((2 * gk + 5) + 1) 181 [.inr (.inr (some 81))] h0 (rf_V h0 (fun F' A' => fr1 [8, 10, 9, 14, 11, 12, 6, 5, 23, 20, 21] F0 F' ∧ fr2 [22] A0 A' ∧ ((F0 8 ≤ F' 8 ∧ F' 8 ≤ F0 7 ∧ F0 20 ≤ F' 20 ∧ F' 20 ≤ 30 ∧ F' 21 = F0 21 ∧ F0 23 ≤ F' 23 ∧ F' 23 ≤ 1000000 ∧ (F' 9 = 2 → 0 ≤ F' 11 ∧ F' 11 ≤ 9) ∧ 0 ≤ F' 9 ∧ F' 9 ≤ 4) ∧ (F' 6 = 0 → F' 20 = F0 20 ∧ F0 6 = 0 ∧ (F' 9 = 0 ∨ F0 8 < F' 8)) ∧ (F' 6 = 0 → F' 23 ≤ 124 → rd1 (A' 22) (A0 22) (F0 23) (F' 23) (F0 20))))) := by
  refine am_Mt.of (D := (2 * gk + 5)) ?_
  have hI : rf_I h0 h0 F0 A0 := rf_I.start hR
  refine k_aload 1 rfl rfl rfl ?_
  refine k_rv hI rfl (m_goes  hI.1 (show 0 ≤ (F0 8) ∧ (F0 8) ≤ (F0 7) ∧ (F0 7) ≤ 700 by omega)) (Nat.ble_eq_true_of_le (by omega)) rfl rfl hI.rc ?_
  rintro h3190 F3191 A3192 I3193 ⟨k3195, k3196, p3194⟩
  replace p3194 : ((F0 8) ≤ F3191 8 ∧ F3191 8 ≤ (F0 7)) ∧ (F3191 9 = 0 ∨ (F0 8) < F3191 8) ∧ (F3191 9 = 2 → 0 ≤ F3191 11 ∧ F3191 11 ≤ 9) ∧ (0 ≤ F3191 9 ∧ F3191 9 ≤ 4) := p3194
  obtain ⟨p3194a, p3194b, p3194c, p3194d⟩ := p3194
  have k3196 := fr2.nil k3196
  subst k3196
  show am_Ok _ _ _ (4, _, [], _, 0, 0) _
  refine k_push 5 rfl rfl ?_
  have hc3197 : (0 : Int32).toInt = 0 := by decide
  refine k_istore 6 rfl rfl ?_
  have e3198 : F3191 20 = F0 20 := k3195 20 (by decide)
  have e3199 : F3191 21 = F0 21 := k3195 21 (by decide)
  have e3200 : F3191 23 = F0 23 := k3195 23 (by decide)
  have e3201 : F3191 6 = F0 6 := k3195 6 (by decide)
  exact b_X10_readsFunction_6 (gk := gk)  hrec p1 p2 p3 p4 _  rfl (gs_ne rfl rfl rfl) gs_eq I3193 (fr1.tr (by decide) fr1.rf k3195) fr2.rf (show F0 8 ≤ (F3191 8) ∧ (F3191 8) ≤ F0 7 ∧ (F3191 20) = F0 20 + (0 : Int32).toInt ∧ 0 ≤ (0 : Int32).toInt ∧ (F3191 20) ≤ 30 ∧ (F3191 21) = F0 21 ∧ F0 23 ≤ (F3191 23) ∧ (F3191 23) ≤ 1000000 ∧ ((F3191 9) = 2 → 0 ≤ (F3191 11) ∧ (F3191 11) ≤ 9) ∧ 0 ≤ (F3191 9) ∧ (F3191 9) ≤ 4 ∧ (F3191 6) = 0 by omega) (fun z => fu_cg fu_0 (show F3191 23 = F0 23 by omega) (by decide))
end
