section
theorem b_X10_readsTelling_120 {h0 : am_h} {F0 : rf_f} {A0 : rf_A}  (p1 : 0 ≤ F0 8 ∧ F0 8 ≤ F0 7 ∧ F0 7 ≤ 700 ∧ 0 ≤ F0 20 ∧ F0 20 ≤ 30 ∧ 0 ≤ F0 21 ∧ F0 21 ≤ 12 ∧ 0 ≤ F0 18 ∧ F0 18 ≤ 12 ∧ 0 ≤ F0 23 ∧ F0 23 ≤ 1000000 ∧ (F0 9 = 2 → 0 ≤ F0 11 ∧ F0 11 ≤ 9) ∧ 0 ≤ F0 9 ∧ F0 9 ≤ 4) (p2 : nm (A0 16) (A0 17) (F0 18)) (p3 : F0 20 = 0 ∧ F0 21 = 0 ∧ F0 6 = 0) : ∀ (n : Nat) {lv : am_l} {h : am_h} {F : rf_f} {A : rf_A} {v1 : Int64} {v3 : Int32}, ((124 - v3.toInt).toNat) = n → am_get lv 0 = some (.inr (.inr (some 81))) → am_get lv 1 = some (.inr (.inl v1)) → am_get lv 3 = some (.inl v3) → rf_I h0 h F A → fr1 [8, 10, 9, 14, 11, 12, 6, 5, 23, 20, 21, 18] F0 F → fr2 [22, 17, 16] A0 A → (0 ≤ v3.toInt ∧ v3.toInt ≤ 124 ∧ v3.toInt ≤ F 23) → (F 6 = 0 ∧ F 20 = 0 ∧ F 21 = 0 ∧ F0 8 ≤ F 8 ∧ F 8 ≤ F0 7 ∧ 0 ≤ F 23 ∧ F 23 ≤ 1000000 ∧ (F 9 = 2 → 0 ≤ F 11 ∧ F 11 ≤ 9) ∧ 0 ≤ F 9 ∧ F 9 ≤ 4 ∧ F 18 = F0 18 ∧ F0 18 < 12) → (A 17 (F0 18) = F 23 ∧ ∀ j : Int, j ≠ F0 18 → A 17 j = A0 17 j) → (∀ q : Int, q < 124 * F0 18 → A 16 q = A0 16 q) → (∀ j : Int, 0 ≤ j → j < v3.toInt → A 16 (124 * F0 18 + j) = A 22 j) → (F 23 ≤ 124 → rd1 (A 22) (A0 22) 0 (F 23) 0) → am_Ok am_G 91 184 (120, lv, [], h, 0, 0) (rf_V h0 (fun F' A' => fr1 [8, 10, 9, 14, 11, 12, 6, 5, 23, 20, 21, 18] F0 F' ∧ fr2 [22, 17, 16] A0 A' ∧ ((F0 8 ≤ F' 8 ∧ F' 8 ≤ F0 7 ∧ 0 ≤ F' 20 ∧ F' 20 ≤ 30 ∧ F' 21 = 0 ∧ 0 ≤ F' 23 ∧ F' 23 ≤ 1000000 ∧ (F' 9 = 2 → 0 ≤ F' 11 ∧ F' 11 ≤ 9) ∧ 0 ≤ F' 9 ∧ F' 9 ≤ 4) ∧ (F' 6 = 0 → F' 20 = 0 ∧ F' 18 = F0 18 + 1) ∧ (F0 18 ≤ F' 18 ∧ F' 18 ≤ 12) ∧ nm (A' 16) (A' 17) (F' 18)))) := by
  intro n
  induction n using Nat.strongRecOn with
  | ind n ih =>
    intro lv h F A v1 v3 hn g0 g1 g3 hI hF hA i1 i2 i3 i4 i5 i6
    refine k_iload 121 rfl g3 rfl ?_
    refine k_aload 122 rfl g0 rfl ?_
    refine r_gI hI 125 rfl rfl rfl (fun x1 (e2 : x1.toInt = F 23) => ?_)
    by_cases b3 : x1 ≤ v3
    · refine k_c2 160 rfl rfl (if_pos b3) ?_
      have b3 := iv_le.mp b3
      refine k_aload 161 rfl g0 rfl ?_
      refine k_dup 162 rfl rfl rfl ?_
      refine r_gI hI 165 rfl rfl rfl (fun x4 (e5 : x4.toInt = F 18) => ?_)
      refine k_push 166 rfl rfl ?_
      have hc6 : (1 : Int32).toInt = 1 := by decide
      obtain ⟨x7, q8⟩ : ∃ q : Int32, q = (x4 + (1 : Int32)) := ⟨_, rfl⟩
      have e9 : x7.toInt = x4.toInt + 1 := by rw [q8, iv_add (by omega) (by omega)]; omega
      refine k_bin x7 167 rfl q8.symm rfl ?_
      refine r_pI hI 170 rfl rfl rfl (fun h10 I11 => ?_)
      exact k_fin rfl rfl ⟨_, _, _, rfl, I11, (fr1.up (by decide) hF), hA, ⟨(show (F0 8 ≤ F 8 ∧ F 8 ≤ F0 7 ∧ 0 ≤ F 20 ∧ F 20 ≤ 30 ∧ F 21 = 0 ∧ 0 ≤ F 23 ∧ F 23 ≤ 1000000 ∧ (F 9 = 2 → 0 ≤ F 11 ∧ F 11 ≤ 9) ∧ 0 ≤ F 9 ∧ F 9 ≤ 4) by omega), (show (F 6 = 0 → F 20 = 0 ∧ x7.toInt = F0 18 + 1) by omega), (show (F0 18 ≤ x7.toInt ∧ x7.toInt ≤ 12) by omega), nm_new (u := A 22) (t := A0 22) (k := F0 18) (m := F 23) p2 (by omega) i3 (by omega) i4 (fun z => ⟨i6 z, fun j j1 j2 => i5 j j1 (by omega)⟩) (show x7.toInt = F0 18 + 1 by omega)⟩⟩
    · refine k_c2 128 rfl rfl (if_neg b3) ?_
      have b3 := mt iv_le.mpr b3
      refine k_iload 129 rfl g3 rfl ?_
      refine k_push 131 rfl rfl ?_
      have hc12 : (124 : Int32).toInt = 124 := by decide
      by_cases b13 : (124 : Int32) ≤ v3
      · refine k_c2 160 rfl rfl (if_pos b13) ?_
        have b13 := iv_le.mp b13
        refine k_aload 161 rfl g0 rfl ?_
        refine k_dup 162 rfl rfl rfl ?_
        refine r_gI hI 165 rfl rfl rfl (fun x14 (e15 : x14.toInt = F 18) => ?_)
        refine k_push 166 rfl rfl ?_
        have hc16 : (1 : Int32).toInt = 1 := by decide
        obtain ⟨x17, q18⟩ : ∃ q : Int32, q = (x14 + (1 : Int32)) := ⟨_, rfl⟩
        have e19 : x17.toInt = x14.toInt + 1 := by rw [q18, iv_add (by omega) (by omega)]; omega
        refine k_bin x17 167 rfl q18.symm rfl ?_
        refine r_pI hI 170 rfl rfl rfl (fun h20 I21 => ?_)
        exact k_fin rfl rfl ⟨_, _, _, rfl, I21, (fr1.up (by decide) hF), hA, ⟨(show (F0 8 ≤ F 8 ∧ F 8 ≤ F0 7 ∧ 0 ≤ F 20 ∧ F 20 ≤ 30 ∧ F 21 = 0 ∧ 0 ≤ F 23 ∧ F 23 ≤ 1000000 ∧ (F 9 = 2 → 0 ≤ F 11 ∧ F 11 ≤ 9) ∧ 0 ≤ F 9 ∧ F 9 ≤ 4) by omega), (show (F 6 = 0 → F 20 = 0 ∧ x17.toInt = F0 18 + 1) by omega), (show (F0 18 ≤ x17.toInt ∧ x17.toInt ≤ 12) by omega), nm_new (u := A 22) (t := A0 22) (k := F0 18) (m := F 23) p2 (by omega) i3 (by omega) i4 (fun z => ⟨i6 z, fun j j1 j2 => i5 j j1 (by omega)⟩) (show x17.toInt = F0 18 + 1 by omega)⟩⟩
      · refine k_c2 134 rfl rfl (if_neg b13) ?_
        have b13 := mt iv_le.mpr b13
        refine k_aload 135 rfl g0 rfl ?_
        refine r_gA hI 138 rfl rfl rfl ?_
        refine k_push 140 rfl rfl ?_
        refine k_aload 141 rfl g0 rfl ?_
        refine r_gI hI 144 rfl rfl rfl (fun x22 (e23 : x22.toInt = F 18) => ?_)
        obtain ⟨x24, q25⟩ : ∃ q : Int32, q = ((124 : Int32) * x22) := ⟨_, rfl⟩
        have e26 : x24.toInt = 124 * x22.toInt := by rw [q25]; exact iv_mulc 124 (by decide) (by omega) (by omega)
        refine k_bin x24 145 rfl q25.symm rfl ?_
        refine k_iload 146 rfl g3 rfl ?_
        obtain ⟨x27, q28⟩ : ∃ q : Int32, q = (x24 + v3) := ⟨_, rfl⟩
        have e29 : x27.toInt = x24.toInt + v3.toInt := by rw [q28, iv_add (by omega) (by omega)]
        refine k_bin x27 147 rfl q28.symm rfl ?_
        refine k_aload 148 rfl g0 rfl ?_
        refine r_gA hI 151 rfl rfl rfl ?_
        refine k_iload 152 rfl g3 rfl ?_
        refine r_ld 22 hI 153 rfl rfl (by omega) (show v3.toInt < 130 by omega) rfl (fun x30 (e31 : x30.toInt = A 22 v3.toInt) => ?_)
        have hx9 : x30.toInt = A 22 v3.toInt := e31
        refine r_st 16 hI 154 rfl rfl (by omega) (show x27.toInt < 1488 by omega) rfl (fun h32 I33 => ?_)
        have hc34 : (1 : Int32).toInt = 1 := by decide
        obtain ⟨x35, q36⟩ : ∃ q : Int32, q = v3 + (1 : Int32) := ⟨_, rfl⟩
        have e37 : x35.toInt = v3.toInt + 1 := by rw [q36, iv_add (by omega) (by omega)]; omega
        refine k_iinc x35 157 rfl g3 q36.symm rfl ?_
        refine k_goto 120 rfl rfl ?_
        exact ih _ (show ((124 - x35.toInt).toNat) < n by omega)  rfl (gs_ne rfl rfl g0) (gs_ne rfl rfl g1) gs_eq I33 hF (fr2.up (by decide) hA) (show 0 ≤ x35.toInt ∧ x35.toInt ≤ 124 ∧ x35.toInt ≤ (F 23) by omega) (show (F 6) = 0 ∧ (F 20) = 0 ∧ (F 21) = 0 ∧ F0 8 ≤ (F 8) ∧ (F 8) ≤ F0 7 ∧ 0 ≤ (F 23) ∧ (F 23) ≤ 1000000 ∧ ((F 9) = 2 → 0 ≤ (F 11) ∧ (F 11) ≤ 9) ∧ 0 ≤ (F 9) ∧ (F 9) ≤ 4 ∧ (F 18) = F0 18 ∧ F0 18 < 12 by omega) (⟨(up2_r (by decide)).trans i3.1, fun j hj => (up2_r (by decide)).trans (i3.2 j hj)⟩) (fun q hq => (up2_ne (by omega)).trans (i4 q hq)) (by rw [up2_k (j := 22) (by decide)]; exact ra_1 i5 (by omega) hx9 (by omega)) (fun z => by rw [up2_k (by decide)]; exact i6 z)
theorem m_readsTelling {h0 : am_h} {F0 : rf_f} {A0 : rf_A}  (hR : rf_R h0 F0 A0) (p1 : 0 ≤ F0 8 ∧ F0 8 ≤ F0 7 ∧ F0 7 ≤ 700 ∧ 0 ≤ F0 20 ∧ F0 20 ≤ 30 ∧ 0 ≤ F0 21 ∧ F0 21 ≤ 12 ∧ 0 ≤ F0 18 ∧ F0 18 ≤ 12 ∧ 0 ≤ F0 23 ∧ F0 23 ≤ 1000000 ∧ (F0 9 = 2 → 0 ≤ F0 11 ∧ F0 11 ≤ 9) ∧ 0 ≤ F0 9 ∧ F0 9 ≤ 4) (p2 : nm (A0 16) (A0 17) (F0 18)) (p3 : F0 20 = 0 ∧ F0 21 = 0 ∧ F0 6 = 0) : am_Mt 92 184 [.inr (.inr (some 81))] h0 (rf_V h0 (fun F' A' => fr1 [8, 10, 9, 14, 11, 12, 6, 5, 23, 20, 21, 18] F0 F' ∧ fr2 [22, 17, 16] A0 A' ∧ ((F0 8 ≤ F' 8 ∧ F' 8 ≤ F0 7 ∧ 0 ≤ F' 20 ∧ F' 20 ≤ 30 ∧ F' 21 = 0 ∧ 0 ≤ F' 23 ∧ F' 23 ≤ 1000000 ∧ (F' 9 = 2 → 0 ≤ F' 11 ∧ F' 11 ≤ 9) ∧ 0 ≤ F' 9 ∧ F' 9 ≤ 4) ∧ (F' 6 = 0 → F' 20 = 0 ∧ F' 18 = F0 18 + 1) ∧ (F0 18 ≤ F' 18 ∧ F' 18 ≤ 12) ∧ nm (A' 16) (A' 17) (F' 18)))) := by
  refine am_Mt.of (D := 91) ?_
  have hI : rf_I h0 h0 F0 A0 := rf_I.start hR
  refine k_aload 1 rfl rfl rfl ?_
  refine k_aload 2 rfl rfl rfl ?_
  refine r_gI hI 5 rfl rfl rfl (fun x38 (e39 : x38.toInt = F0 14) => ?_)
  refine k_push 7 rfl rfl ?_
  have hc40 : (8 : Int32).toInt = 8 := by decide
  by_cases b41 : (8 : Int32) < x38
  · refine k_c2 23 rfl rfl (if_pos b41) ?_
    have b41 := iv_lt.mp b41
    refine k_push 24 rfl rfl ?_
    have hc42 : (0 : Int32).toInt = 0 := by decide
    refine k_push 25 rfl rfl ?_
    have hc43 : (2 : Int32).toInt = 2 := by decide
    refine k_rq hI rfl (m_check  hI.1 (show (2 : Int32).toInt ≠ 0 by decide)) rfl rfl rfl hI.rc ?_
    rintro x44 h45 F46 A47 I48 ⟨k50, k51, p49⟩
    replace p49 : (x44.toInt = 1 ∧ (F0 6) = 0 ∧ (0 : Int32).toInt ≠ 0 ∧ F46 6 = 0) ∨ (x44.toInt = 0 ∧ F46 6 ≠ 0) := p49
    have k51 := fr2.nil k51
    subst k51
    have z52 := iv_01 (x := x44) (by omega)
    show am_Ok _ _ _ (28, _, [.inl x44], _, 0, 0) _
    by_cases b53 : x44 = 0
    · refine k_c1 56 rfl rfl (if_pos b53) ?_
      have b53 := iv_eq0.mp b53
      have e54 : F46 8 = F0 8 := k50 8 (by decide)
      have e55 : F46 20 = F0 20 := k50 20 (by decide)
      have e56 : F46 21 = F0 21 := k50 21 (by decide)
      have e57 : F46 23 = F0 23 := k50 23 (by decide)
      have e58 : F46 9 = F0 9 := k50 9 (by decide)
      have e59 : F46 11 = F0 11 := k50 11 (by decide)
      have e60 : F46 18 = F0 18 := k50 18 (by decide)
      exact k_fin rfl rfl ⟨_, _, _, rfl, I48, (fr1.tr (by decide) fr1.rf k50), fr2.rf, ⟨(show (F0 8 ≤ F46 8 ∧ F46 8 ≤ F0 7 ∧ 0 ≤ F46 20 ∧ F46 20 ≤ 30 ∧ F46 21 = 0 ∧ 0 ≤ F46 23 ∧ F46 23 ≤ 1000000 ∧ (F46 9 = 2 → 0 ≤ F46 11 ∧ F46 11 ≤ 9) ∧ 0 ≤ F46 9 ∧ F46 9 ≤ 4) by omega), (show (F46 6 = 0 → F46 20 = 0 ∧ F46 18 = F0 18 + 1) by omega), (show (F0 18 ≤ F46 18 ∧ F46 18 ≤ 12) by omega), (by rw [(show A0 16 = A0 16 from rfl), (show A0 17 = A0 17 from rfl)]; show nm (A0 16) (A0 17) (F46 18); rw [show F46 18 = F0 18 by omega]; exact p2)⟩⟩
    · refine k_c1 31 rfl rfl (if_neg b53) ?_
      have b53 := mt iv_eq0.mpr b53
      exfalso
      omega
  · refine k_c2 10 rfl rfl (if_neg b41) ?_
    have b41 := mt iv_lt.mpr b41
    refine k_aload 11 rfl rfl rfl ?_
    refine r_gI hI 14 rfl rfl rfl (fun x61 (e62 : x61.toInt = F0 18) => ?_)
    refine k_push 16 rfl rfl ?_
    have hc63 : (12 : Int32).toInt = 12 := by decide
    by_cases b64 : (12 : Int32) ≤ x61
    · refine k_c2 23 rfl rfl (if_pos b64) ?_
      have b64 := iv_le.mp b64
      refine k_push 24 rfl rfl ?_
      have hc65 : (0 : Int32).toInt = 0 := by decide
      refine k_push 25 rfl rfl ?_
      have hc66 : (2 : Int32).toInt = 2 := by decide
      refine k_rq hI rfl (m_check  hI.1 (show (2 : Int32).toInt ≠ 0 by decide)) rfl rfl rfl hI.rc ?_
      rintro x67 h68 F69 A70 I71 ⟨k73, k74, p72⟩
      replace p72 : (x67.toInt = 1 ∧ (F0 6) = 0 ∧ (0 : Int32).toInt ≠ 0 ∧ F69 6 = 0) ∨ (x67.toInt = 0 ∧ F69 6 ≠ 0) := p72
      have k74 := fr2.nil k74
      subst k74
      have z75 := iv_01 (x := x67) (by omega)
      show am_Ok _ _ _ (28, _, [.inl x67], _, 0, 0) _
      by_cases b76 : x67 = 0
      · refine k_c1 56 rfl rfl (if_pos b76) ?_
        have b76 := iv_eq0.mp b76
        have e77 : F69 8 = F0 8 := k73 8 (by decide)
        have e78 : F69 20 = F0 20 := k73 20 (by decide)
        have e79 : F69 21 = F0 21 := k73 21 (by decide)
        have e80 : F69 23 = F0 23 := k73 23 (by decide)
        have e81 : F69 9 = F0 9 := k73 9 (by decide)
        have e82 : F69 11 = F0 11 := k73 11 (by decide)
        have e83 : F69 18 = F0 18 := k73 18 (by decide)
        exact k_fin rfl rfl ⟨_, _, _, rfl, I71, (fr1.tr (by decide) fr1.rf k73), fr2.rf, ⟨(show (F0 8 ≤ F69 8 ∧ F69 8 ≤ F0 7 ∧ 0 ≤ F69 20 ∧ F69 20 ≤ 30 ∧ F69 21 = 0 ∧ 0 ≤ F69 23 ∧ F69 23 ≤ 1000000 ∧ (F69 9 = 2 → 0 ≤ F69 11 ∧ F69 11 ≤ 9) ∧ 0 ≤ F69 9 ∧ F69 9 ≤ 4) by omega), (show (F69 6 = 0 → F69 20 = 0 ∧ F69 18 = F0 18 + 1) by omega), (show (F0 18 ≤ F69 18 ∧ F69 18 ≤ 12) by omega), (by rw [(show A0 16 = A0 16 from rfl), (show A0 17 = A0 17 from rfl)]; show nm (A0 16) (A0 17) (F69 18); rw [show F69 18 = F0 18 by omega]; exact p2)⟩⟩
      · refine k_c1 31 rfl rfl (if_neg b76) ?_
        have b76 := mt iv_eq0.mpr b76
        exfalso
        omega
    · refine k_c2 19 rfl rfl (if_neg b64) ?_
      have b64 := mt iv_le.mpr b64
      refine k_push 20 rfl rfl ?_
      have hc84 : (1 : Int32).toInt = 1 := by decide
      refine k_goto 24 rfl rfl ?_
      refine k_push 25 rfl rfl ?_
      have hc85 : (2 : Int32).toInt = 2 := by decide
      refine k_rq hI rfl (m_check  hI.1 (show (2 : Int32).toInt ≠ 0 by decide)) rfl rfl rfl hI.rc ?_
      rintro x86 h87 F88 A89 I90 ⟨k92, k93, p91⟩
      replace p91 : (x86.toInt = 1 ∧ (F0 6) = 0 ∧ (1 : Int32).toInt ≠ 0 ∧ F88 6 = 0) ∨ (x86.toInt = 0 ∧ F88 6 ≠ 0) := p91
      have k93 := fr2.nil k93
      subst k93
      have z94 := iv_01 (x := x86) (by omega)
      show am_Ok _ _ _ (28, _, [.inl x86], _, 0, 0) _
      by_cases b95 : x86 = 0
      · refine k_c1 56 rfl rfl (if_pos b95) ?_
        have b95 := iv_eq0.mp b95
        have e96 : F88 8 = F0 8 := k92 8 (by decide)
        have e97 : F88 20 = F0 20 := k92 20 (by decide)
        have e98 : F88 21 = F0 21 := k92 21 (by decide)
        have e99 : F88 23 = F0 23 := k92 23 (by decide)
        have e100 : F88 9 = F0 9 := k92 9 (by decide)
        have e101 : F88 11 = F0 11 := k92 11 (by decide)
        have e102 : F88 18 = F0 18 := k92 18 (by decide)
        exact k_fin rfl rfl ⟨_, _, _, rfl, I90, (fr1.tr (by decide) fr1.rf k92), fr2.rf, ⟨(show (F0 8 ≤ F88 8 ∧ F88 8 ≤ F0 7 ∧ 0 ≤ F88 20 ∧ F88 20 ≤ 30 ∧ F88 21 = 0 ∧ 0 ≤ F88 23 ∧ F88 23 ≤ 1000000 ∧ (F88 9 = 2 → 0 ≤ F88 11 ∧ F88 11 ≤ 9) ∧ 0 ≤ F88 9 ∧ F88 9 ≤ 4) by omega), (show (F88 6 = 0 → F88 20 = 0 ∧ F88 18 = F0 18 + 1) by omega), (show (F0 18 ≤ F88 18 ∧ F88 18 ≤ 12) by omega), (by rw [(show A0 16 = A0 16 from rfl), (show A0 17 = A0 17 from rfl)]; show nm (A0 16) (A0 17) (F88 18); rw [show F88 18 = F0 18 by omega]; exact p2)⟩⟩
      · refine k_c1 31 rfl rfl (if_neg b95) ?_
        have b95 := mt iv_eq0.mpr b95
        refine k_aload 32 rfl rfl rfl ?_
        refine k_aload 33 rfl rfl rfl ?_
        refine k_aload 34 rfl rfl rfl ?_
        refine r_gJ I90 37 rfl rfl rfl (fun y103 => ?_)
        have e104 : F88 18 = F0 18 := k92 18 (by decide)
        refine k_rq I90 rfl (m_nameOf  I90.1 (show 0 ≤ (F88 18) ∧ (F88 18) ≤ 12 by omega)) rfl rfl rfl I90.rc ?_
        rintro x105 h106 F107 A108 I109 ⟨k111, k112, p110⟩
        replace p110 : x105.toInt = -1 ∨ (0 ≤ x105.toInt ∧ x105.toInt < (F88 18)) := p110
        have k111 := fr1.nil k111
        subst k111
        have k112 := fr2.nil k112
        subst k112
        show am_Ok _ _ _ (40, _, [.inl x105, .inr (.inr (some 81))], _, 0, 0) _
        refine k_push 41 rfl rfl ?_
        have hc113 : (-1 : Int32).toInt = -1 := by decide
        by_cases b114 : x105 = (-1 : Int32)
        · refine k_c2 44 rfl rfl (if_pos b114) ?_
          have b114 := iv_eq.mp b114
          refine k_push 45 rfl rfl ?_
          refine k_goto 49 rfl rfl ?_
          refine k_push 50 rfl rfl ?_
          have hc115 : (4 : Int32).toInt = 4 := by decide
          refine k_rq I109 rfl (m_check  I109.1 (show (4 : Int32).toInt ≠ 0 by decide)) rfl rfl rfl I109.rc ?_
          rintro x116 h117 F118 A119 I120 ⟨k122, k123, p121⟩
          replace p121 : (x116.toInt = 1 ∧ (F88 6) = 0 ∧ (1 : Int32).toInt ≠ 0 ∧ F118 6 = 0) ∨ (x116.toInt = 0 ∧ F118 6 ≠ 0) := p121
          have k123 := fr2.nil k123
          subst k123
          have z124 := iv_01 (x := x116) (by omega)
          show am_Ok _ _ _ (53, _, [.inl x116], _, 0, 0) _
          by_cases b125 : x116 = 0
          · refine k_c1 56 rfl rfl (if_pos b125) ?_
            have b125 := iv_eq0.mp b125
            have e126 : F118 8 = F88 8 := k122 8 (by decide)
            have e127 : F88 8 = F0 8 := k92 8 (by decide)
            have e128 : F118 20 = F88 20 := k122 20 (by decide)
            have e129 : F88 20 = F0 20 := k92 20 (by decide)
            have e130 : F118 21 = F88 21 := k122 21 (by decide)
            have e131 : F88 21 = F0 21 := k92 21 (by decide)
            have e132 : F118 23 = F88 23 := k122 23 (by decide)
            have e133 : F88 23 = F0 23 := k92 23 (by decide)
            have e134 : F118 9 = F88 9 := k122 9 (by decide)
            have e135 : F88 9 = F0 9 := k92 9 (by decide)
            have e136 : F118 11 = F88 11 := k122 11 (by decide)
            have e137 : F88 11 = F0 11 := k92 11 (by decide)
            have e138 : F118 18 = F88 18 := k122 18 (by decide)
            exact k_fin rfl rfl ⟨_, _, _, rfl, I120, (fr1.tr (by decide) (fr1.tr (by decide) fr1.rf k92) k122), fr2.rf, ⟨(show (F0 8 ≤ F118 8 ∧ F118 8 ≤ F0 7 ∧ 0 ≤ F118 20 ∧ F118 20 ≤ 30 ∧ F118 21 = 0 ∧ 0 ≤ F118 23 ∧ F118 23 ≤ 1000000 ∧ (F118 9 = 2 → 0 ≤ F118 11 ∧ F118 11 ≤ 9) ∧ 0 ≤ F118 9 ∧ F118 9 ≤ 4) by omega), (show (F118 6 = 0 → F118 20 = 0 ∧ F118 18 = F0 18 + 1) by omega), (show (F0 18 ≤ F118 18 ∧ F118 18 ≤ 12) by omega), (by rw [(show A0 16 = A0 16 from rfl), (show A0 17 = A0 17 from rfl)]; show nm (A0 16) (A0 17) (F118 18); rw [show F118 18 = F0 18 by omega]; exact p2)⟩⟩
          · refine k_c1 57 rfl rfl (if_neg b125) ?_
            have b125 := mt iv_eq0.mpr b125
            refine k_aload 58 rfl rfl rfl ?_
            refine r_gJ I120 61 rfl rfl rfl (fun y139 => ?_)
            refine k_lstore 62 rfl rfl ?_
            refine k_aload 63 rfl (gs_ne2 rfl rfl rfl) rfl ?_
            have e140 : F118 8 = F88 8 := k122 8 (by decide)
            have e141 : F88 8 = F0 8 := k92 8 (by decide)
            have e142 : F118 7 = F88 7 := k122 7 (by decide)
            have e143 : F88 7 = F0 7 := k92 7 (by decide)
            refine k_rv I120 rfl (m_goes  I120.1 (show 0 ≤ (F118 8) ∧ (F118 8) ≤ (F118 7) ∧ (F118 7) ≤ 700 by omega)) rfl rfl rfl I120.rc ?_
            rintro h145 F146 A147 I148 ⟨k150, k151, p149⟩
            replace p149 : ((F118 8) ≤ F146 8 ∧ F146 8 ≤ (F118 7)) ∧ (F146 9 = 0 ∨ (F118 8) < F146 8) ∧ (F146 9 = 2 → 0 ≤ F146 11 ∧ F146 11 ≤ 9) ∧ (0 ≤ F146 9 ∧ F146 9 ≤ 4) := p149
            obtain ⟨p149a, p149b, p149c, p149d⟩ := p149
            have k151 := fr2.nil k151
            subst k151
            show am_Ok _ _ _ (66, _, [], _, 0, 0) _
            refine k_aload 67 rfl (gs_ne2 rfl rfl rfl) rfl ?_
            refine k_push 69 rfl rfl ?_
            have hc152 : (61 : Int32).toInt = 61 := by decide
            have e153 : F146 7 = F118 7 := k150 7 (by decide)
            refine k_rv I148 rfl (m_must  I148.1 (show 0 ≤ (F146 8) ∧ (F146 8) ≤ (F146 7) ∧ (F146 7) ≤ 700 ∧ ((F146 9) = 2 → 0 ≤ (F146 11) ∧ (F146 11) ≤ 9) ∧ 0 ≤ (F146 9) ∧ (F146 9) ≤ 4 by omega)) rfl rfl rfl I148.rc ?_
            rintro h155 F156 A157 I158 ⟨k160, k161, p159⟩
            have e162 : F146 6 = F118 6 := k150 6 (by decide)
            replace p159 : ((F146 8) ≤ F156 8 ∧ F156 8 ≤ (F146 7)) ∧ (F156 6 = 0 → (F146 6) = 0 ∧ (F156 9 = 0 ∨ (F146 8) < F156 8)) ∧ (F156 9 = 2 → 0 ≤ F156 11 ∧ F156 11 ≤ 9) ∧ (0 ≤ F156 9 ∧ F156 9 ≤ 4) := p159
            obtain ⟨p159a, p159b, p159c, p159d⟩ := p159
            have k161 := fr2.nil k161
            subst k161
            show am_Ok _ _ _ (72, _, [], _, 0, 0) _
            refine k_aload 73 rfl (gs_ne2 rfl rfl rfl) rfl ?_
            refine k_push 74 rfl rfl ?_
            have hc163 : (0 : Int32).toInt = 0 := by decide
            refine r_pI I158 77 rfl rfl rfl (fun h164 I165 => ?_)
            refine k_aload 78 rfl (gs_ne2 rfl rfl rfl) rfl ?_
            have e166 : F156 7 = F146 7 := k160 7 (by decide)
            have e167 : F156 20 = F146 20 := k160 20 (by decide)
            have e168 : F146 20 = F118 20 := k150 20 (by decide)
            have e169 : F118 20 = F88 20 := k122 20 (by decide)
            have e170 : F88 20 = F0 20 := k92 20 (by decide)
            have e171 : F156 21 = F146 21 := k160 21 (by decide)
            have e172 : F146 21 = F118 21 := k150 21 (by decide)
            have e173 : F118 21 = F88 21 := k122 21 (by decide)
            have e174 : F88 21 = F0 21 := k92 21 (by decide)
            have e175 : F156 18 = F146 18 := k160 18 (by decide)
            have e176 : F146 18 = F118 18 := k150 18 (by decide)
            have e177 : F118 18 = F88 18 := k122 18 (by decide)
            refine k_rv I165 rfl (reads_all (gk := 43) I165.1 (show 0 ≤ (F156 8) ∧ (F156 8) ≤ (F156 7) ∧ (F156 7) ≤ 700 ∧ 0 ≤ (F156 20) ∧ (F156 20) ≤ 30 ∧ 0 ≤ (F156 21) ∧ (F156 21) ≤ 12 ∧ 0 ≤ (F156 18) ∧ (F156 18) ≤ 12 ∧ 0 ≤ ((0 : Int32).toInt) ∧ ((0 : Int32).toInt) ≤ 1000000 ∧ ((F156 9) = 2 → 0 ≤ (F156 11) ∧ (F156 11) ≤ 9) ∧ 0 ≤ (F156 9) ∧ (F156 9) ≤ 4 by omega) (show nm ((A0 16)) ((A0 17)) ((F156 18)) by rw [(show A0 16 = A0 16 from rfl), (show A0 17 = A0 17 from rfl), ((k160 18 (by decide)).trans ((k150 18 (by decide)).trans ((k122 18 (by decide)).trans (k92 18 (by decide)))))]; exact p2) (show (12 - (F156 21)) + (30 - (F156 20)) < ((43) : Int) by omega)) rfl rfl rfl I165.rc ?_
            rintro h179 F180 A181 I182 ⟨k184, k185, p183⟩
            replace p183 : ((F156 8) ≤ F180 8 ∧ F180 8 ≤ (F156 7) ∧ (F156 20) ≤ F180 20 ∧ F180 20 ≤ 30 ∧ F180 21 = (F156 21) ∧ ((0 : Int32).toInt) ≤ F180 23 ∧ F180 23 ≤ 1000000 ∧ (F180 9 = 2 → 0 ≤ F180 11 ∧ F180 11 ≤ 9) ∧ 0 ≤ F180 9 ∧ F180 9 ≤ 4) ∧ (F180 6 = 0 → F180 20 = (F156 20) ∧ (F156 6) = 0 ∧ (F180 9 = 0 ∨ (F156 8) < F180 8)) ∧ (F180 6 = 0 → F180 23 ≤ 124 → rd1 (A181 22) ((A0 22)) (((0 : Int32).toInt)) (F180 23) ((F156 20))) := p183
            obtain ⟨p183a, p183b, p183c⟩ := p183
            show am_Ok _ _ _ (81, _, [], _, 0, 0) _
            refine k_aload 82 rfl (gs_ne2 rfl rfl rfl) rfl ?_
            refine k_push 84 rfl rfl ?_
            have hc186 : (59 : Int32).toInt = 59 := by decide
            have e187 : F180 7 = F156 7 := k184 7 (by decide)
            refine k_rv I182 rfl (m_must  I182.1 (show 0 ≤ (F180 8) ∧ (F180 8) ≤ (F180 7) ∧ (F180 7) ≤ 700 ∧ ((F180 9) = 2 → 0 ≤ (F180 11) ∧ (F180 11) ≤ 9) ∧ 0 ≤ (F180 9) ∧ (F180 9) ≤ 4 by omega)) rfl rfl rfl I182.rc ?_
            rintro h189 F190 A191 I192 ⟨k194, k195, p193⟩
            replace p193 : ((F180 8) ≤ F190 8 ∧ F190 8 ≤ (F180 7)) ∧ (F190 6 = 0 → (F180 6) = 0 ∧ (F190 9 = 0 ∨ (F180 8) < F190 8)) ∧ (F190 9 = 2 → 0 ≤ F190 11 ∧ F190 11 ≤ 9) ∧ (0 ≤ F190 9 ∧ F190 9 ≤ 4) := p193
            obtain ⟨p193a, p193b, p193c, p193d⟩ := p193
            have k195 := fr2.nil k195
            subst k195
            show am_Ok _ _ _ (87, _, [], _, 0, 0) _
            refine k_aload 88 rfl (gs_ne2 rfl rfl rfl) rfl ?_
            refine k_in (d := 0) rfl rfl rfl rfl I192.rc ?_
            refine k_aload 1 rfl rfl rfl ?_
            refine r_gI I192 4 rfl rfl rfl (fun x196 (e197 : x196.toInt = F190 6) => ?_)
            by_cases b198 : x196 = 0
            · refine k_c1 7 rfl rfl (if_pos b198) ?_
              have b198 := iv_eq0.mp b198
              refine k_push 8 rfl rfl ?_
              refine k_goto 12 rfl rfl ?_
              refine k_fin rfl (fin_Z (Or.inr rfl)) ⟨_, _, rfl, rf_len I192 I192, ?_⟩
              show am_Ok _ _ _ (91, _, [.inl (1 : Int32)], _, 0, 0) _
              refine k_c1 95 rfl rfl (if_neg (by decide)) ?_
              refine k_aload 96 rfl (gs_ne2 rfl rfl rfl) rfl ?_
              refine r_gA I192 99 rfl rfl rfl ?_
              refine k_aload 100 rfl (gs_ne2 rfl rfl rfl) rfl ?_
              refine r_gI I192 103 rfl rfl rfl (fun x199 (e200 : x199.toInt = F190 18) => ?_)
              have e201 : F190 18 = F180 18 := k194 18 (by decide)
              have e202 : F180 18 = F156 18 := k184 18 (by decide)
              refine k_lload 104 rfl gs_eq2 rfl ?_
              refine r_lst 15 I192 105 rfl rfl (by omega) (show x199.toInt < 12 by omega) rfl (fun h203 I204 => ?_)
              refine k_aload 106 rfl (gs_ne2 rfl rfl rfl) rfl ?_
              refine r_gA I204 109 rfl rfl rfl ?_
              refine k_aload 110 rfl (gs_ne2 rfl rfl rfl) rfl ?_
              refine r_gI I204 113 rfl rfl rfl (fun x205 (e206 : x205.toInt = F190 18) => ?_)
              refine k_aload 114 rfl (gs_ne2 rfl rfl rfl) rfl ?_
              refine r_gI I204 117 rfl rfl rfl (fun x207 (e208 : x207.toInt = F190 23) => ?_)
              have e209 : F190 23 = F180 23 := k194 23 (by decide)
              refine r_st 17 I204 118 rfl rfl (by omega) (show x205.toInt < 12 by omega) rfl (fun h210 I211 => ?_)
              refine k_push 119 rfl rfl ?_
              refine k_istore 120 rfl rfl ?_
              have e212 : F190 20 = F180 20 := k194 20 (by decide)
              have e213 : F190 21 = F180 21 := k194 21 (by decide)
              exact b_X10_readsTelling_120   p1 p2 p3 _  rfl (gs_ne rfl rfl (gs_ne2 rfl rfl rfl)) (gs_ne rfl rfl gs_eq2) gs_eq I211 (fr1.tr (by decide) (fr1.tr (by decide) (fr1.up (by decide) (fr1.tr (by decide) (fr1.tr (by decide) (fr1.tr (by decide) (fr1.tr (by decide) fr1.rf k92) k122) k150) k160)) k184) k194) (fr2.up (by decide) (fr2.tr (by decide) fr2.rf k185)) (show 0 ≤ (0 : Int32).toInt ∧ (0 : Int32).toInt ≤ 124 ∧ (0 : Int32).toInt ≤ (F190 23) by omega) (show (F190 6) = 0 ∧ (F190 20) = 0 ∧ (F190 21) = 0 ∧ F0 8 ≤ (F190 8) ∧ (F190 8) ≤ F0 7 ∧ 0 ≤ (F190 23) ∧ (F190 23) ≤ 1000000 ∧ ((F190 9) = 2 → 0 ≤ (F190 11) ∧ (F190 11) ≤ 9) ∧ 0 ≤ (F190 9) ∧ (F190 9) ≤ 4 ∧ (F190 18) = F0 18 ∧ F0 18 < 12 by omega) (⟨by rw [show F0 18 = x205.toInt by omega]; exact up2_eq.trans (by omega), fun j hj => (up2_ne (by omega)).trans (congrFun (k185 17 (by decide)) j)⟩) (fun q hq => (up2_r (by decide)).trans (congrFun ((k185 16 (by decide))) q)) (fun j h1 h2 => absurd h2 (by omega)) (fun z => by have z9 : F190 23 ≤ 124 := z; rw [up2_k (by decide)]; show rd1 (A181 22) (A0 22) 0 (F190 23) 0; exact rd_cg (p183c (by omega) (by omega)) (by omega) (by omega) (by omega))
            · refine k_c1 11 rfl rfl (if_neg b198) ?_
              have b198 := mt iv_eq0.mpr b198
              refine k_push 12 rfl rfl ?_
              refine k_fin rfl (fin_Z (Or.inl rfl)) ⟨_, _, rfl, rf_len I192 I192, ?_⟩
              show am_Ok _ _ _ (91, _, [.inl (0 : Int32)], _, 0, 0) _
              refine k_c1 94 rfl rfl (if_pos (by decide)) ?_
              have e214 : F190 20 = F180 20 := k194 20 (by decide)
              have e215 : F190 21 = F180 21 := k194 21 (by decide)
              have e216 : F190 23 = F180 23 := k194 23 (by decide)
              have e217 : F190 18 = F180 18 := k194 18 (by decide)
              have e218 : F180 18 = F156 18 := k184 18 (by decide)
              exact k_fin rfl rfl ⟨_, _, _, rfl, I192, (fr1.tr (by decide) (fr1.tr (by decide) (fr1.up (by decide) (fr1.tr (by decide) (fr1.tr (by decide) (fr1.tr (by decide) (fr1.tr (by decide) fr1.rf k92) k122) k150) k160)) k184) k194), (fr2.tr (by decide) fr2.rf k185), ⟨(show (F0 8 ≤ F190 8 ∧ F190 8 ≤ F0 7 ∧ 0 ≤ F190 20 ∧ F190 20 ≤ 30 ∧ F190 21 = 0 ∧ 0 ≤ F190 23 ∧ F190 23 ≤ 1000000 ∧ (F190 9 = 2 → 0 ≤ F190 11 ∧ F190 11 ≤ 9) ∧ 0 ≤ F190 9 ∧ F190 9 ≤ 4) by omega), (show (F190 6 = 0 → F190 20 = 0 ∧ F190 18 = F0 18 + 1) by omega), (show (F0 18 ≤ F190 18 ∧ F190 18 ≤ 12) by omega), (by rw [(k185 16 (by decide)), (k185 17 (by decide))]; show nm (A0 16) (A0 17) (F190 18); rw [show F190 18 = F0 18 by omega]; exact p2)⟩⟩
        · refine k_c2 48 rfl rfl (if_neg b114) ?_
          have b114 := mt iv_eq.mpr b114
          refine k_push 49 rfl rfl ?_
          have hc219 : (0 : Int32).toInt = 0 := by decide
          refine k_push 50 rfl rfl ?_
          have hc220 : (4 : Int32).toInt = 4 := by decide
          refine k_rq I109 rfl (m_check  I109.1 (show (4 : Int32).toInt ≠ 0 by decide)) rfl rfl rfl I109.rc ?_
          rintro x221 h222 F223 A224 I225 ⟨k227, k228, p226⟩
          replace p226 : (x221.toInt = 1 ∧ (F88 6) = 0 ∧ (0 : Int32).toInt ≠ 0 ∧ F223 6 = 0) ∨ (x221.toInt = 0 ∧ F223 6 ≠ 0) := p226
          have k228 := fr2.nil k228
          subst k228
          have z229 := iv_01 (x := x221) (by omega)
          show am_Ok _ _ _ (53, _, [.inl x221], _, 0, 0) _
          by_cases b230 : x221 = 0
          · refine k_c1 56 rfl rfl (if_pos b230) ?_
            have b230 := iv_eq0.mp b230
            have e231 : F223 8 = F88 8 := k227 8 (by decide)
            have e232 : F88 8 = F0 8 := k92 8 (by decide)
            have e233 : F223 20 = F88 20 := k227 20 (by decide)
            have e234 : F88 20 = F0 20 := k92 20 (by decide)
            have e235 : F223 21 = F88 21 := k227 21 (by decide)
            have e236 : F88 21 = F0 21 := k92 21 (by decide)
            have e237 : F223 23 = F88 23 := k227 23 (by decide)
            have e238 : F88 23 = F0 23 := k92 23 (by decide)
            have e239 : F223 9 = F88 9 := k227 9 (by decide)
            have e240 : F88 9 = F0 9 := k92 9 (by decide)
            have e241 : F223 11 = F88 11 := k227 11 (by decide)
            have e242 : F88 11 = F0 11 := k92 11 (by decide)
            have e243 : F223 18 = F88 18 := k227 18 (by decide)
            exact k_fin rfl rfl ⟨_, _, _, rfl, I225, (fr1.tr (by decide) (fr1.tr (by decide) fr1.rf k92) k227), fr2.rf, ⟨(show (F0 8 ≤ F223 8 ∧ F223 8 ≤ F0 7 ∧ 0 ≤ F223 20 ∧ F223 20 ≤ 30 ∧ F223 21 = 0 ∧ 0 ≤ F223 23 ∧ F223 23 ≤ 1000000 ∧ (F223 9 = 2 → 0 ≤ F223 11 ∧ F223 11 ≤ 9) ∧ 0 ≤ F223 9 ∧ F223 9 ≤ 4) by omega), (show (F223 6 = 0 → F223 20 = 0 ∧ F223 18 = F0 18 + 1) by omega), (show (F0 18 ≤ F223 18 ∧ F223 18 ≤ 12) by omega), (by rw [(show A0 16 = A0 16 from rfl), (show A0 17 = A0 17 from rfl)]; show nm (A0 16) (A0 17) (F223 18); rw [show F223 18 = F0 18 by omega]; exact p2)⟩⟩
          · refine k_c1 57 rfl rfl (if_neg b230) ?_
            have b230 := mt iv_eq0.mpr b230
            exfalso
            omega
end
