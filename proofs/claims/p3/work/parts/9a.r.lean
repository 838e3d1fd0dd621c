section
theorem m_byteAt {h0 : am_h} {F0 : rf_f} {A0 : rf_A} {w1 : Int32}  (hR : rf_R h0 F0 A0) (p1 : 0 ≤ w1.toInt ∧ F0 7 ≤ 700) : am_Mt 1 164 [.inr (.inr (some 81)), .inl w1] h0 (rf_Q h0 (fun x F' A' => fr1 [] F0 F' ∧ fr2 [] A0 A' ∧ ((w1.toInt < F0 7 ∧ x = A0 3 w1.toInt) ∨ (F0 7 ≤ w1.toInt ∧ x = -1)))) := by
  refine am_Mt.of (D := 0) ?_
  have hI : rf_I h0 h0 F0 A0 := rf_I.start hR
  refine k_iload 1 rfl rfl rfl ?_
  refine k_aload 2 rfl rfl rfl ?_
  refine r_gI hI 5 rfl rfl rfl (fun x1 (e2 : x1.toInt = F0 7) => ?_)
  by_cases b3 : x1 ≤ w1
  · refine k_c2 17 rfl rfl (if_pos b3) ?_
    have b3 := iv_le.mp b3
    refine k_push 18 rfl rfl ?_
    have hc4 : (-1 : Int32).toInt = -1 := by decide
    exact k_fin rfl rfl ⟨_, _, _, _, rfl, hI, fr1.rf, fr2.rf, show (w1.toInt < F0 7 ∧ (-1 : Int32).toInt = A0 3 w1.toInt) ∨ (F0 7 ≤ w1.toInt ∧ (-1 : Int32).toInt = -1) by omega⟩
  · refine k_c2 8 rfl rfl (if_neg b3) ?_
    have b3 := mt iv_le.mpr b3
    refine k_aload 9 rfl rfl rfl ?_
    refine r_gA hI 12 rfl rfl rfl ?_
    refine k_iload 13 rfl rfl rfl ?_
    refine r_ld 3 hI 14 rfl rfl (by omega) (show w1.toInt < 700 by omega) rfl (fun x5 (e6 : x5.toInt = A0 3 w1.toInt) => ?_)
    refine k_goto 18 rfl rfl ?_
    exact k_fin rfl rfl ⟨_, _, _, _, rfl, hI, fr1.rf, fr2.rf, show (w1.toInt < F0 7 ∧ x5.toInt = A0 3 w1.toInt) ∨ (F0 7 ≤ w1.toInt ∧ x5.toInt = -1) by omega⟩
theorem b_X10_blanksFrom_2 {h0 : am_h} {F0 : rf_f} {A0 : rf_A} {w1 : Int32}  (p1 : 0 ≤ w1.toInt ∧ w1.toInt ≤ F0 7 ∧ F0 7 ≤ 700) : ∀ (n : Nat) {lv : am_l} {h : am_h} {F : rf_f} {A : rf_A} {v1 : Int32} {v2 : Int32}, ((701 - v2.toInt).toNat) = n → am_get lv 0 = some (.inr (.inr (some 81))) → am_get lv 1 = some (.inl v1) → am_get lv 2 = some (.inl v2) → rf_I h0 h F A → fr1 [] F0 F → fr2 [] A0 A → (w1.toInt ≤ v2.toInt ∧ v2.toInt ≤ F0 7) → am_Ok am_G 1 167 (2, lv, [], h, 0, 0) (rf_Q h0 (fun x F' A' => fr1 [] F0 F' ∧ fr2 [] A0 A' ∧ (w1.toInt ≤ x ∧ x ≤ F0 7))) := by
  intro n
  induction n using Nat.strongRecOn with
  | ind n ih =>
    intro lv h F A v1 v2 hn g0 g1 g2 hI hF hA i1
    refine k_aload 3 rfl g0 rfl ?_
    refine k_iload 4 rfl g2 rfl ?_
    have e1 : F 7 = F0 7 := hF 7 (by decide)
    refine k_rq hI rfl (m_byteAt  hI.1 (show 0 ≤ v2.toInt ∧ (F 7) ≤ 700 by omega)) rfl rfl rfl hI.rc ?_
    rintro x2 h3 F4 A5 I6 ⟨k8, k9, p7⟩
    replace p7 : (v2.toInt < (F 7) ∧ x2.toInt = (A 3) v2.toInt) ∨ ((F 7) ≤ v2.toInt ∧ x2.toInt = -1) := p7
    have k8 := fr1.nil k8
    subst k8
    have k9 := fr2.nil k9
    subst k9
    show am_Ok _ _ _ (7, _, [.inl x2], _, 0, 0) _
    refine k_push 9 rfl rfl ?_
    have hc10 : (32 : Int32).toInt = 32 := by decide
    by_cases b11 : x2 = (32 : Int32)
    · refine k_c2 22 rfl rfl (if_pos b11) ?_
      have b11 := iv_eq.mp b11
      have hc12 : (1 : Int32).toInt = 1 := by decide
      obtain ⟨x13, q14⟩ : ∃ q : Int32, q = v2 + (1 : Int32) := ⟨_, rfl⟩
      have e15 : x13.toInt = v2.toInt + 1 := by rw [q14, iv_add (by omega) (by omega)]; omega
      refine k_iinc x13 25 rfl g2 q14.symm rfl ?_
      refine k_goto 2 rfl rfl ?_
      exact ih _ (show ((701 - x13.toInt).toNat) < n by omega)  rfl (gs_ne rfl rfl g0) (gs_ne rfl rfl g1) gs_eq I6 hF hA (show w1.toInt ≤ x13.toInt ∧ x13.toInt ≤ F0 7 by omega)
    · refine k_c2 12 rfl rfl (if_neg b11) ?_
      have b11 := mt iv_eq.mpr b11
      refine k_aload 13 rfl g0 rfl ?_
      refine k_iload 14 rfl g2 rfl ?_
      refine k_rq I6 rfl (m_byteAt  I6.1 (show 0 ≤ v2.toInt ∧ (F 7) ≤ 700 by omega)) rfl rfl rfl I6.rc ?_
      rintro x16 h17 F18 A19 I20 ⟨k22, k23, p21⟩
      replace p21 : (v2.toInt < (F 7) ∧ x16.toInt = (A 3) v2.toInt) ∨ ((F 7) ≤ v2.toInt ∧ x16.toInt = -1) := p21
      have k22 := fr1.nil k22
      subst k22
      have k23 := fr2.nil k23
      subst k23
      show am_Ok _ _ _ (17, _, [.inl x16], _, 0, 0) _
      refine k_push 19 rfl rfl ?_
      have hc24 : (10 : Int32).toInt = 10 := by decide
      by_cases b25 : x16 = (10 : Int32)
      · refine k_c2 22 rfl rfl (if_pos b25) ?_
        have b25 := iv_eq.mp b25
        have hc26 : (1 : Int32).toInt = 1 := by decide
        obtain ⟨x27, q28⟩ : ∃ q : Int32, q = v2 + (1 : Int32) := ⟨_, rfl⟩
        have e29 : x27.toInt = v2.toInt + 1 := by rw [q28, iv_add (by omega) (by omega)]; omega
        refine k_iinc x27 25 rfl g2 q28.symm rfl ?_
        refine k_goto 2 rfl rfl ?_
        exact ih _ (show ((701 - x27.toInt).toNat) < n by omega)  rfl (gs_ne rfl rfl g0) (gs_ne rfl rfl g1) gs_eq I20 hF hA (show w1.toInt ≤ x27.toInt ∧ x27.toInt ≤ F0 7 by omega)
      · refine k_c2 28 rfl rfl (if_neg b25) ?_
        have b25 := mt iv_eq.mpr b25
        refine k_iload 29 rfl g2 rfl ?_
        exact k_fin rfl rfl ⟨_, _, _, _, rfl, I20, hF, hA, show w1.toInt ≤ v2.toInt ∧ v2.toInt ≤ F0 7 by omega⟩
theorem m_blanksFrom {h0 : am_h} {F0 : rf_f} {A0 : rf_A} {w1 : Int32}  (hR : rf_R h0 F0 A0) (p1 : 0 ≤ w1.toInt ∧ w1.toInt ≤ F0 7 ∧ F0 7 ≤ 700) : am_Mt 2 167 [.inr (.inr (some 81)), .inl w1] h0 (rf_Q h0 (fun x F' A' => fr1 [] F0 F' ∧ fr2 [] A0 A' ∧ (w1.toInt ≤ x ∧ x ≤ F0 7))) := by
  refine am_Mt.of (D := 1) ?_
  have hI : rf_I h0 h0 F0 A0 := rf_I.start hR
  refine k_iload 1 rfl rfl rfl ?_
  refine k_istore 2 rfl rfl ?_
  exact b_X10_blanksFrom_2  (w1 := w1) p1 _  rfl (gs_ne rfl rfl rfl) (gs_ne rfl rfl rfl) gs_eq hI fr1.rf fr2.rf (show w1.toInt ≤ w1.toInt ∧ w1.toInt ≤ F0 7 by omega)
theorem b_X10_goes_170 {h0 : am_h} {F0 : rf_f} {A0 : rf_A}  (p1 : 0 ≤ F0 8 ∧ F0 8 ≤ F0 7 ∧ F0 7 ≤ 700) : ∀ (n : Nat) {lv : am_l} {h : am_h} {F : rf_f} {A : rf_A} {v1 : Int32}, ((701 - F 8).toNat) = n → am_get lv 0 = some (.inr (.inr (some 81))) → am_get lv 1 = some (.inl v1) → rf_I h0 h F A → fr1 [8, 10, 9, 14, 11, 12] F0 F → fr2 [] A0 A → (F0 8 ≤ F 8 ∧ F 8 ≤ F0 7 ∧ (F0 8 < F 8 ∨ (F 8 < F0 7 ∧ 48 ≤ A0 3 (F 8) ∧ A0 3 (F 8) ≤ 57))) → (F 9 = 2 ∧ 0 ≤ F 11 ∧ F 11 ≤ 9) → am_Ok am_G 2 168 (170, lv, [], h, 0, 0) (rf_V h0 (fun F' A' => fr1 [8, 10, 9, 14, 11, 12] F0 F' ∧ fr2 [] A0 A' ∧ ((F0 8 ≤ F' 8 ∧ F' 8 ≤ F0 7) ∧ (F' 9 = 0 ∨ F0 8 < F' 8) ∧ (F' 9 = 2 → 0 ≤ F' 11 ∧ F' 11 ≤ 9) ∧ (0 ≤ F' 9 ∧ F' 9 ≤ 4)))) := by
  intro n
  induction n using Nat.strongRecOn with
  | ind n ih =>
    intro lv h F A v1 hn g0 g1 hI hF hA i1 i2
    refine k_aload 171 rfl g0 rfl ?_
    refine k_aload 172 rfl g0 rfl ?_
    refine r_gI hI 175 rfl rfl rfl (fun x1 (e2 : x1.toInt = F 8) => ?_)
    have e3 : F 7 = F0 7 := hF 7 (by decide)
    refine k_rq hI rfl (m_byteAt  hI.1 (show 0 ≤ x1.toInt ∧ (F 7) ≤ 700 by omega)) rfl rfl rfl hI.rc ?_
    rintro x4 h5 F6 A7 I8 ⟨k10, k11, p9⟩
    replace p9 : (x1.toInt < (F 7) ∧ x4.toInt = (A 3) x1.toInt) ∨ ((F 7) ≤ x1.toInt ∧ x4.toInt = -1) := p9
    have k10 := fr1.nil k10
    subst k10
    have k11 := fr2.nil k11
    subst k11
    show am_Ok _ _ _ (178, _, [.inl x4], _, 0, 0) _
    have hby := p9
    rw [show x1.toInt = F 8 by omega, (hA 3 (by decide))] at hby
    refine k_in (d := 1) rfl rfl rfl rfl rfl ?_
    refine k_iload 1 rfl rfl rfl ?_
    refine k_push 3 rfl rfl ?_
    have hc12 : (48 : Int32).toInt = 48 := by decide
    refine k_push 5 rfl rfl ?_
    have hc13 : (57 : Int32).toInt = 57 := by decide
    refine k_in (d := 0) rfl rfl rfl rfl rfl ?_
    refine k_iload 1 rfl rfl rfl ?_
    refine k_iload 2 rfl rfl rfl ?_
    by_cases b14 : x4 < (48 : Int32)
    · refine k_c2 14 rfl rfl (if_pos b14) ?_
      have b14 := iv_lt.mp b14
      refine k_push 15 rfl rfl ?_
      have hc15 : (0 : Int32).toInt = 0 := by decide
      refine k_fin rfl (fin_Z (Or.inl rfl)) ⟨_, _, rfl, rf_len I8 I8, ?_⟩
      show am_Ok _ _ _ (8, _, [.inl (0 : Int32)], _, 0, 0) _
      refine k_fin rfl (fin_Z (Or.inl rfl)) ⟨_, _, rfl, rf_len I8 I8, ?_⟩
      show am_Ok _ _ _ (181, _, [.inl (0 : Int32)], _, 0, 0) _
      refine k_c1 267 rfl rfl (if_pos (by decide)) ?_
      exact k_fin rfl rfl ⟨_, _, _, rfl, I8, hF, hA, show (F0 8 ≤ (F 8) ∧ (F 8) ≤ F0 7) ∧ ((F 9) = 0 ∨ F0 8 < (F 8)) ∧ ((F 9) = 2 → 0 ≤ (F 11) ∧ (F 11) ≤ 9) ∧ (0 ≤ (F 9) ∧ (F 9) ≤ 4) by omega⟩
    · refine k_c2 5 rfl rfl (if_neg b14) ?_
      have b14 := mt iv_lt.mpr b14
      refine k_iload 6 rfl rfl rfl ?_
      refine k_iload 7 rfl rfl rfl ?_
      by_cases b16 : (57 : Int32) < x4
      · refine k_c2 14 rfl rfl (if_pos b16) ?_
        have b16 := iv_lt.mp b16
        refine k_push 15 rfl rfl ?_
        have hc17 : (0 : Int32).toInt = 0 := by decide
        refine k_fin rfl (fin_Z (Or.inl rfl)) ⟨_, _, rfl, rf_len I8 I8, ?_⟩
        show am_Ok _ _ _ (8, _, [.inl (0 : Int32)], _, 0, 0) _
        refine k_fin rfl (fin_Z (Or.inl rfl)) ⟨_, _, rfl, rf_len I8 I8, ?_⟩
        show am_Ok _ _ _ (181, _, [.inl (0 : Int32)], _, 0, 0) _
        refine k_c1 267 rfl rfl (if_pos (by decide)) ?_
        exact k_fin rfl rfl ⟨_, _, _, rfl, I8, hF, hA, show (F0 8 ≤ (F 8) ∧ (F 8) ≤ F0 7) ∧ ((F 9) = 0 ∨ F0 8 < (F 8)) ∧ ((F 9) = 2 → 0 ≤ (F 11) ∧ (F 11) ≤ 9) ∧ (0 ≤ (F 9) ∧ (F 9) ≤ 4) by omega⟩
      · refine k_c2 10 rfl rfl (if_neg b16) ?_
        have b16 := mt iv_lt.mpr b16
        refine k_push 11 rfl rfl ?_
        have hc18 : (1 : Int32).toInt = 1 := by decide
        refine k_goto 15 rfl rfl ?_
        refine k_fin rfl (fin_Z (Or.inr rfl)) ⟨_, _, rfl, rf_len I8 I8, ?_⟩
        show am_Ok _ _ _ (8, _, [.inl (1 : Int32)], _, 0, 0) _
        refine k_fin rfl (fin_Z (Or.inr rfl)) ⟨_, _, rfl, rf_len I8 I8, ?_⟩
        show am_Ok _ _ _ (181, _, [.inl (1 : Int32)], _, 0, 0) _
        refine k_c1 184 rfl rfl (if_neg (by decide)) ?_
        refine k_aload 185 rfl g0 rfl ?_
        refine k_dup 186 rfl rfl rfl ?_
        refine r_gI I8 189 rfl rfl rfl (fun x19 (e20 : x19.toInt = F 12) => ?_)
        refine k_push 190 rfl rfl ?_
        obtain ⟨x21, q22⟩ : ∃ q : Int32, q = (x19 + (1 : Int32)) := ⟨_, rfl⟩
        refine k_bin x21 191 rfl q22.symm rfl ?_
        refine r_pI I8 194 rfl rfl rfl (fun h24 I25 => ?_)
        refine k_aload 195 rfl g0 rfl ?_
        refine k_dup 196 rfl rfl rfl ?_
        refine r_gI I25 199 rfl rfl rfl (fun x26 (e27 : x26.toInt = F 8) => ?_)
        refine k_push 200 rfl rfl ?_
        obtain ⟨x28, q29⟩ : ∃ q : Int32, q = (x26 + (1 : Int32)) := ⟨_, rfl⟩
        have e30 : x28.toInt = x26.toInt + 1 := by rw [q29, iv_add (by omega) (by omega)]; omega
        refine k_bin x28 201 rfl q29.symm rfl ?_
        refine r_pI I25 204 rfl rfl rfl (fun h31 I32 => ?_)
        refine k_goto 170 rfl rfl ?_
        exact ih _ (show ((701 - (x28.toInt)).toNat) < n by omega)  rfl g0 g1 I32 (fr1.up (by decide) (fr1.up (by decide) hF)) hA (show F0 8 ≤ (x28.toInt) ∧ (x28.toInt) ≤ F0 7 ∧ (F0 8 < (x28.toInt) ∨ ((x28.toInt) < F0 7 ∧ 48 ≤ A0 3 ((x28.toInt)) ∧ A0 3 ((x28.toInt)) ≤ 57)) by omega) (show (F 9) = 2 ∧ 0 ≤ (F 11) ∧ (F 11) ≤ 9 by omega)
theorem b_X10_goes_64 {h0 : am_h} {F0 : rf_f} {A0 : rf_A}  (p1 : 0 ≤ F0 8 ∧ F0 8 ≤ F0 7 ∧ F0 7 ≤ 700) : ∀ (n : Nat) {lv : am_l} {h : am_h} {F : rf_f} {A : rf_A} {v1 : Int32}, ((701 - F 8).toNat) = n → am_get lv 0 = some (.inr (.inr (some 81))) → am_get lv 1 = some (.inl v1) → rf_I h0 h F A → fr1 [8, 10, 9, 14, 11, 12] F0 F → fr2 [] A0 A → (F0 8 ≤ F 8 ∧ F 8 ≤ F0 7 ∧ (F0 8 < F 8 ∨ (F 8 < F0 7 ∧ 97 ≤ A0 3 (F 8) ∧ A0 3 (F 8) ≤ 122))) → (F 9 = 1) → am_Ok am_G 2 168 (64, lv, [], h, 0, 0) (rf_V h0 (fun F' A' => fr1 [8, 10, 9, 14, 11, 12] F0 F' ∧ fr2 [] A0 A' ∧ ((F0 8 ≤ F' 8 ∧ F' 8 ≤ F0 7) ∧ (F' 9 = 0 ∨ F0 8 < F' 8) ∧ (F' 9 = 2 → 0 ≤ F' 11 ∧ F' 11 ≤ 9) ∧ (0 ≤ F' 9 ∧ F' 9 ≤ 4)))) := by
  intro n
  induction n using Nat.strongRecOn with
  | ind n ih =>
    intro lv h F A v1 hn g0 g1 hI hF hA i1 i2
    refine k_aload 65 rfl g0 rfl ?_
    refine k_aload 66 rfl g0 rfl ?_
    refine r_gI hI 69 rfl rfl rfl (fun x33 (e34 : x33.toInt = F 8) => ?_)
    have e35 : F 7 = F0 7 := hF 7 (by decide)
    refine k_rq hI rfl (m_byteAt  hI.1 (show 0 ≤ x33.toInt ∧ (F 7) ≤ 700 by omega)) rfl rfl rfl hI.rc ?_
    rintro x36 h37 F38 A39 I40 ⟨k42, k43, p41⟩
    replace p41 : (x33.toInt < (F 7) ∧ x36.toInt = (A 3) x33.toInt) ∨ ((F 7) ≤ x33.toInt ∧ x36.toInt = -1) := p41
    have k42 := fr1.nil k42
    subst k42
    have k43 := fr2.nil k43
    subst k43
    show am_Ok _ _ _ (72, _, [.inl x36], _, 0, 0) _
    have hby := p41
    rw [show x33.toInt = F 8 by omega, (hA 3 (by decide))] at hby
    refine k_in (d := 1) rfl rfl rfl rfl rfl ?_
    refine k_iload 1 rfl rfl rfl ?_
    refine k_push 3 rfl rfl ?_
    have hc44 : (97 : Int32).toInt = 97 := by decide
    refine k_push 5 rfl rfl ?_
    have hc45 : (122 : Int32).toInt = 122 := by decide
    refine k_in (d := 0) rfl rfl rfl rfl rfl ?_
    refine k_iload 1 rfl rfl rfl ?_
    refine k_iload 2 rfl rfl rfl ?_
    by_cases b46 : x36 < (97 : Int32)
    · refine k_c2 14 rfl rfl (if_pos b46) ?_
      have b46 := iv_lt.mp b46
      refine k_push 15 rfl rfl ?_
      have hc47 : (0 : Int32).toInt = 0 := by decide
      refine k_fin rfl (fin_Z (Or.inl rfl)) ⟨_, _, rfl, rf_len I40 I40, ?_⟩
      show am_Ok _ _ _ (8, _, [.inl (0 : Int32)], _, 0, 0) _
      refine k_fin rfl (fin_Z (Or.inl rfl)) ⟨_, _, rfl, rf_len I40 I40, ?_⟩
      show am_Ok _ _ _ (75, _, [.inl (0 : Int32)], _, 0, 0) _
      refine k_c1 267 rfl rfl (if_pos (by decide)) ?_
      exact k_fin rfl rfl ⟨_, _, _, rfl, I40, hF, hA, show (F0 8 ≤ (F 8) ∧ (F 8) ≤ F0 7) ∧ ((F 9) = 0 ∨ F0 8 < (F 8)) ∧ ((F 9) = 2 → 0 ≤ (F 11) ∧ (F 11) ≤ 9) ∧ (0 ≤ (F 9) ∧ (F 9) ≤ 4) by omega⟩
    · refine k_c2 5 rfl rfl (if_neg b46) ?_
      have b46 := mt iv_lt.mpr b46
      refine k_iload 6 rfl rfl rfl ?_
      refine k_iload 7 rfl rfl rfl ?_
      by_cases b48 : (122 : Int32) < x36
      · refine k_c2 14 rfl rfl (if_pos b48) ?_
        have b48 := iv_lt.mp b48
        refine k_push 15 rfl rfl ?_
        have hc49 : (0 : Int32).toInt = 0 := by decide
        refine k_fin rfl (fin_Z (Or.inl rfl)) ⟨_, _, rfl, rf_len I40 I40, ?_⟩
        show am_Ok _ _ _ (8, _, [.inl (0 : Int32)], _, 0, 0) _
        refine k_fin rfl (fin_Z (Or.inl rfl)) ⟨_, _, rfl, rf_len I40 I40, ?_⟩
        show am_Ok _ _ _ (75, _, [.inl (0 : Int32)], _, 0, 0) _
        refine k_c1 267 rfl rfl (if_pos (by decide)) ?_
        exact k_fin rfl rfl ⟨_, _, _, rfl, I40, hF, hA, show (F0 8 ≤ (F 8) ∧ (F 8) ≤ F0 7) ∧ ((F 9) = 0 ∨ F0 8 < (F 8)) ∧ ((F 9) = 2 → 0 ≤ (F 11) ∧ (F 11) ≤ 9) ∧ (0 ≤ (F 9) ∧ (F 9) ≤ 4) by omega⟩
      · refine k_c2 10 rfl rfl (if_neg b48) ?_
        have b48 := mt iv_lt.mpr b48
        refine k_push 11 rfl rfl ?_
        have hc50 : (1 : Int32).toInt = 1 := by decide
        refine k_goto 15 rfl rfl ?_
        refine k_fin rfl (fin_Z (Or.inr rfl)) ⟨_, _, rfl, rf_len I40 I40, ?_⟩
        show am_Ok _ _ _ (8, _, [.inl (1 : Int32)], _, 0, 0) _
        refine k_fin rfl (fin_Z (Or.inr rfl)) ⟨_, _, rfl, rf_len I40 I40, ?_⟩
        show am_Ok _ _ _ (75, _, [.inl (1 : Int32)], _, 0, 0) _
        refine k_c1 78 rfl rfl (if_neg (by decide)) ?_
        refine k_aload 79 rfl g0 rfl ?_
        refine k_dup 80 rfl rfl rfl ?_
        refine r_gI I40 83 rfl rfl rfl (fun x51 (e52 : x51.toInt = F 14) => ?_)
        refine k_push 84 rfl rfl ?_
        obtain ⟨x53, q54⟩ : ∃ q : Int32, q = (x51 + (1 : Int32)) := ⟨_, rfl⟩
        refine k_bin x53 85 rfl q54.symm rfl ?_
        refine r_pI I40 88 rfl rfl rfl (fun h56 I57 => ?_)
        refine k_aload 89 rfl g0 rfl ?_
        refine k_aload 90 rfl g0 rfl ?_
        refine r_gI I57 93 rfl rfl rfl (fun x58 (e59 : x58.toInt = x53.toInt) => ?_)
        refine k_push 95 rfl rfl ?_
        have hc60 : (8 : Int32).toInt = 8 := by decide
        by_cases b61 : (8 : Int32) < x58
        · refine k_c2 125 rfl rfl (if_pos b61) ?_
          have b61 := iv_lt.mp b61
          refine k_aload 126 rfl g0 rfl ?_
          refine r_gJ I57 129 rfl rfl rfl (fun y62 => ?_)
          refine r_pJ I57 132 rfl rfl rfl (fun h63 I64 => ?_)
          refine k_aload 133 rfl g0 rfl ?_
          refine k_dup 134 rfl rfl rfl ?_
          refine r_gI I64 137 rfl rfl rfl (fun x65 (e66 : x65.toInt = F 8) => ?_)
          refine k_push 138 rfl rfl ?_
          obtain ⟨x67, q68⟩ : ∃ q : Int32, q = (x65 + (1 : Int32)) := ⟨_, rfl⟩
          have e69 : x67.toInt = x65.toInt + 1 := by rw [q68, iv_add (by omega) (by omega)]; omega
          refine k_bin x67 139 rfl q68.symm rfl ?_
          refine r_pI I64 142 rfl rfl rfl (fun h70 I71 => ?_)
          refine k_goto 64 rfl rfl ?_
          exact ih _ (show ((701 - (x67.toInt)).toNat) < n by omega)  rfl g0 g1 I71 (fr1.up (by decide) (fr1.up (by decide) hF)) hA (show F0 8 ≤ (x67.toInt) ∧ (x67.toInt) ≤ F0 7 ∧ (F0 8 < (x67.toInt) ∨ ((x67.toInt) < F0 7 ∧ 97 ≤ A0 3 ((x67.toInt)) ∧ A0 3 ((x67.toInt)) ≤ 122)) by omega) (show (F 9) = 1 by omega)
        · refine k_c2 98 rfl rfl (if_neg b61) ?_
          have b61 := mt iv_lt.mpr b61
          refine k_push 101 rfl rfl ?_
          refine k_aload 102 rfl g0 rfl ?_
          refine r_gJ I57 105 rfl rfl rfl (fun y72 => ?_)
          refine k_binL 106 rfl rfl ?_
          generalize ((27 : Int64) * y72) = y73
          refine k_aload 107 rfl g0 rfl ?_
          refine k_aload 108 rfl g0 rfl ?_
          refine r_gI I57 111 rfl rfl rfl (fun x74 (e75 : x74.toInt = F 8) => ?_)
          refine k_rq I57 rfl (m_byteAt  I57.1 (show 0 ≤ x74.toInt ∧ (F 7) ≤ 700 by omega)) rfl rfl rfl I57.rc ?_
          rintro x76 h77 F78 A79 I80 ⟨k82, k83, p81⟩
          replace p81 : (x74.toInt < (F 7) ∧ x76.toInt = (A 3) x74.toInt) ∨ ((F 7) ≤ x74.toInt ∧ x76.toInt = -1) := p81
          have k82 := fr1.nil k82
          subst k82
          have k83 := fr2.nil k83
          subst k83
          show am_Ok _ _ _ (114, _, [.inl x76, .inr (.inl y73), .inr (.inr (some 81))], _, 0, 0) _
          refine k_un _ 115 rfl rfl rfl ?_
          generalize x76.toInt64 = y84
          refine k_binL 116 rfl rfl ?_
          generalize (y73 + y84) = y85
          refine k_push 119 rfl rfl ?_
          refine k_binL 120 rfl rfl ?_
          generalize (y85 - (97 : Int64)) = y86
          refine k_push 121 rfl rfl ?_
          refine k_binL 122 rfl rfl ?_
          generalize (y86 + (1 : Int64)) = y87
          refine k_goto 129 rfl rfl ?_
          refine r_pJ I80 132 rfl rfl rfl (fun h88 I89 => ?_)
          refine k_aload 133 rfl g0 rfl ?_
          refine k_dup 134 rfl rfl rfl ?_
          refine r_gI I89 137 rfl rfl rfl (fun x90 (e91 : x90.toInt = F 8) => ?_)
          refine k_push 138 rfl rfl ?_
          obtain ⟨x92, q93⟩ : ∃ q : Int32, q = (x90 + (1 : Int32)) := ⟨_, rfl⟩
          have e94 : x92.toInt = x90.toInt + 1 := by rw [q93, iv_add (by omega) (by omega)]; omega
          refine k_bin x92 139 rfl q93.symm rfl ?_
          refine r_pI I89 142 rfl rfl rfl (fun h95 I96 => ?_)
          refine k_goto 64 rfl rfl ?_
          exact ih _ (show ((701 - (x92.toInt)).toNat) < n by omega)  rfl g0 g1 I96 (fr1.up (by decide) (fr1.up (by decide) hF)) hA (show F0 8 ≤ (x92.toInt) ∧ (x92.toInt) ≤ F0 7 ∧ (F0 8 < (x92.toInt) ∨ ((x92.toInt) < F0 7 ∧ 97 ≤ A0 3 ((x92.toInt)) ∧ A0 3 ((x92.toInt)) ≤ 122)) by omega) (show (F 9) = 1 by omega)
theorem m_goes {h0 : am_h} {F0 : rf_f} {A0 : rf_A}  (hR : rf_R h0 F0 A0) (p1 : 0 ≤ F0 8 ∧ F0 8 ≤ F0 7 ∧ F0 7 ≤ 700) : am_Mt 3 168 [.inr (.inr (some 81))] h0 (rf_V h0 (fun F' A' => fr1 [8, 10, 9, 14, 11, 12] F0 F' ∧ fr2 [] A0 A' ∧ ((F0 8 ≤ F' 8 ∧ F' 8 ≤ F0 7) ∧ (F' 9 = 0 ∨ F0 8 < F' 8) ∧ (F' 9 = 2 → 0 ≤ F' 11 ∧ F' 11 ≤ 9) ∧ (0 ≤ F' 9 ∧ F' 9 ≤ 4)))) := by
  refine am_Mt.of (D := 2) ?_
  have hI : rf_I h0 h0 F0 A0 := rf_I.start hR
  refine k_aload 1 rfl rfl rfl ?_
  refine k_aload 2 rfl rfl rfl ?_
  refine k_aload 3 rfl rfl rfl ?_
  refine r_gI hI 6 rfl rfl rfl (fun x97 (e98 : x97.toInt = F0 8) => ?_)
  refine k_rq hI rfl (m_blanksFrom  hI.1 (show 0 ≤ x97.toInt ∧ x97.toInt ≤ (F0 7) ∧ (F0 7) ≤ 700 by omega)) rfl rfl rfl hI.rc ?_
  rintro x99 h100 F101 A102 I103 ⟨k105, k106, p104⟩
  replace p104 : x97.toInt ≤ x99.toInt ∧ x99.toInt ≤ (F0 7) := p104
  have k105 := fr1.nil k105
  subst k105
  have k106 := fr2.nil k106
  subst k106
  show am_Ok _ _ _ (9, _, [.inl x99, .inr (.inr (some 81))], _, 0, 0) _
  refine r_pI I103 12 rfl rfl rfl (fun h107 I108 => ?_)
  refine k_aload 13 rfl rfl rfl ?_
  refine k_aload 14 rfl rfl rfl ?_
  refine r_gI I108 17 rfl rfl rfl (fun x109 (e110 : x109.toInt = x99.toInt) => ?_)
  refine r_pI I108 20 rfl rfl rfl (fun h111 I112 => ?_)
  refine k_aload 21 rfl rfl rfl ?_
  refine k_aload 22 rfl rfl rfl ?_
  refine r_gI I112 25 rfl rfl rfl (fun x113 (e114 : x113.toInt = x99.toInt) => ?_)
  refine k_rq I112 rfl (m_byteAt  I112.1 (show 0 ≤ x113.toInt ∧ (F0 7) ≤ 700 by omega)) rfl rfl rfl I112.rc ?_
  rintro x115 h116 F117 A118 I119 ⟨k121, k122, p120⟩
  replace p120 : (x113.toInt < (F0 7) ∧ x115.toInt = (A0 3) x113.toInt) ∨ ((F0 7) ≤ x113.toInt ∧ x115.toInt = -1) := p120
  have k121 := fr1.nil k121
  subst k121
  have k122 := fr2.nil k122
  subst k122
  show am_Ok _ _ _ (28, _, [.inl x115], _, 0, 0) _
  have hby := p120
  rw [show x113.toInt = x99.toInt by omega] at hby
  refine k_istore 29 rfl rfl ?_
  refine k_iload 30 rfl gs_eq rfl ?_
  refine k_push 31 rfl rfl ?_
  have hc123 : (-1 : Int32).toInt = -1 := by decide
  by_cases b124 : x115 = (-1 : Int32)
  · refine k_c2 34 rfl rfl (if_pos b124) ?_
    have b124 := iv_eq.mp b124
    refine k_aload 35 rfl (gs_ne rfl rfl rfl) rfl ?_
    refine k_push 36 rfl rfl ?_
    have hc125 : (0 : Int32).toInt = 0 := by decide
    refine r_pI I119 39 rfl rfl rfl (fun h126 I127 => ?_)
    refine k_goto 267 rfl rfl ?_
    exact k_fin rfl rfl ⟨_, _, _, rfl, I127, (fr1.up (by decide) (fr1.up (by decide) (fr1.up (by decide) fr1.rf))), fr2.rf, show (F0 8 ≤ (x99.toInt) ∧ (x99.toInt) ≤ F0 7) ∧ (((0 : Int32).toInt) = 0 ∨ F0 8 < (x99.toInt)) ∧ (((0 : Int32).toInt) = 2 → 0 ≤ (F0 11) ∧ (F0 11) ≤ 9) ∧ (0 ≤ ((0 : Int32).toInt) ∧ ((0 : Int32).toInt) ≤ 4) by omega⟩
  · refine k_c2 42 rfl rfl (if_neg b124) ?_
    have b124 := mt iv_eq.mpr b124
    refine k_iload 43 rfl gs_eq rfl ?_
    refine k_in (d := 1) rfl rfl rfl rfl rfl ?_
    refine k_iload 1 rfl rfl rfl ?_
    refine k_push 3 rfl rfl ?_
    have hc128 : (97 : Int32).toInt = 97 := by decide
    refine k_push 5 rfl rfl ?_
    have hc129 : (122 : Int32).toInt = 122 := by decide
    refine k_in (d := 0) rfl rfl rfl rfl rfl ?_
    refine k_iload 1 rfl rfl rfl ?_
    refine k_iload 2 rfl rfl rfl ?_
    by_cases b130 : x115 < (97 : Int32)
    · refine k_c2 14 rfl rfl (if_pos b130) ?_
      have b130 := iv_lt.mp b130
      refine k_push 15 rfl rfl ?_
      have hc131 : (0 : Int32).toInt = 0 := by decide
      refine k_fin rfl (fin_Z (Or.inl rfl)) ⟨_, _, rfl, rf_len I119 I119, ?_⟩
      show am_Ok _ _ _ (8, _, [.inl (0 : Int32)], _, 0, 0) _
      refine k_fin rfl (fin_Z (Or.inl rfl)) ⟨_, _, rfl, rf_len I119 I119, ?_⟩
      show am_Ok _ _ _ (46, _, [.inl (0 : Int32)], _, 0, 0) _
      refine k_c1 145 rfl rfl (if_pos (by decide)) ?_
      refine k_iload 146 rfl gs_eq rfl ?_
      refine k_in (d := 1) rfl rfl rfl rfl rfl ?_
      refine k_iload 1 rfl rfl rfl ?_
      refine k_push 3 rfl rfl ?_
      have hc132 : (48 : Int32).toInt = 48 := by decide
      refine k_push 5 rfl rfl ?_
      have hc133 : (57 : Int32).toInt = 57 := by decide
      refine k_in (d := 0) rfl rfl rfl rfl rfl ?_
      refine k_iload 1 rfl rfl rfl ?_
      refine k_iload 2 rfl rfl rfl ?_
      by_cases b134 : x115 < (48 : Int32)
      · refine k_c2 14 rfl rfl (if_pos b134) ?_
        have b134 := iv_lt.mp b134
        refine k_push 15 rfl rfl ?_
        refine k_fin rfl (fin_Z (Or.inl rfl)) ⟨_, _, rfl, rf_len I119 I119, ?_⟩
        show am_Ok _ _ _ (8, _, [.inl (0 : Int32)], _, 0, 0) _
        refine k_fin rfl (fin_Z (Or.inl rfl)) ⟨_, _, rfl, rf_len I119 I119, ?_⟩
        show am_Ok _ _ _ (149, _, [.inl (0 : Int32)], _, 0, 0) _
        refine k_c1 207 rfl rfl (if_pos (by decide)) ?_
        refine k_aload 208 rfl (gs_ne rfl rfl rfl) rfl ?_
        refine k_iload 209 rfl gs_eq rfl ?_
        refine r_pI I119 212 rfl rfl rfl (fun h135 I136 => ?_)
        refine k_aload 213 rfl (gs_ne rfl rfl rfl) rfl ?_
        refine k_iload 214 rfl gs_eq rfl ?_
        refine k_push 216 rfl rfl ?_
        have hc137 : (92 : Int32).toInt = 92 := by decide
        by_cases b138 : x115 = (92 : Int32)
        · refine k_c2 249 rfl rfl (if_pos b138) ?_
          have b138 := iv_eq.mp b138
          refine k_push 250 rfl rfl ?_
          have hc139 : (3 : Int32).toInt = 3 := by decide
          refine k_goto 254 rfl rfl ?_
          refine r_pI I136 257 rfl rfl rfl (fun h140 I141 => ?_)
          refine k_aload 258 rfl (gs_ne rfl rfl rfl) rfl ?_
          refine k_dup 259 rfl rfl rfl ?_
          refine r_gI I141 262 rfl rfl rfl (fun x142 (e143 : x142.toInt = x99.toInt) => ?_)
          refine k_push 263 rfl rfl ?_
          have hc144 : (1 : Int32).toInt = 1 := by decide
          obtain ⟨x145, q146⟩ : ∃ q : Int32, q = (x142 + (1 : Int32)) := ⟨_, rfl⟩
          have e147 : x145.toInt = x142.toInt + 1 := by rw [q146, iv_add (by omega) (by omega)]; omega
          refine k_bin x145 264 rfl q146.symm rfl ?_
          refine r_pI I141 267 rfl rfl rfl (fun h148 I149 => ?_)
          exact k_fin rfl rfl ⟨_, _, _, rfl, I149, (fr1.up (by decide) (fr1.up (by decide) (fr1.up (by decide) (fr1.up (by decide) (fr1.up (by decide) fr1.rf))))), fr2.rf, show (F0 8 ≤ (x145.toInt) ∧ (x145.toInt) ≤ F0 7) ∧ (((3 : Int32).toInt) = 0 ∨ F0 8 < (x145.toInt)) ∧ (((3 : Int32).toInt) = 2 → 0 ≤ (x115.toInt) ∧ (x115.toInt) ≤ 9) ∧ (0 ≤ ((3 : Int32).toInt) ∧ ((3 : Int32).toInt) ≤ 4) by omega⟩
        · refine k_c2 219 rfl rfl (if_neg b138) ?_
          have b138 := mt iv_eq.mpr b138
          refine k_iload 220 rfl gs_eq rfl ?_
          refine k_push 222 rfl rfl ?_
          have hc150 : (46 : Int32).toInt = 46 := by decide
          by_cases b151 : x115 = (46 : Int32)
          · refine k_c2 249 rfl rfl (if_pos b151) ?_
            have b151 := iv_eq.mp b151
            refine k_push 250 rfl rfl ?_
            have hc152 : (3 : Int32).toInt = 3 := by decide
            refine k_goto 254 rfl rfl ?_
            refine r_pI I136 257 rfl rfl rfl (fun h153 I154 => ?_)
            refine k_aload 258 rfl (gs_ne rfl rfl rfl) rfl ?_
            refine k_dup 259 rfl rfl rfl ?_
            refine r_gI I154 262 rfl rfl rfl (fun x155 (e156 : x155.toInt = x99.toInt) => ?_)
            refine k_push 263 rfl rfl ?_
            have hc157 : (1 : Int32).toInt = 1 := by decide
            obtain ⟨x158, q159⟩ : ∃ q : Int32, q = (x155 + (1 : Int32)) := ⟨_, rfl⟩
            have e160 : x158.toInt = x155.toInt + 1 := by rw [q159, iv_add (by omega) (by omega)]; omega
            refine k_bin x158 264 rfl q159.symm rfl ?_
            refine r_pI I154 267 rfl rfl rfl (fun h161 I162 => ?_)
            exact k_fin rfl rfl ⟨_, _, _, rfl, I162, (fr1.up (by decide) (fr1.up (by decide) (fr1.up (by decide) (fr1.up (by decide) (fr1.up (by decide) fr1.rf))))), fr2.rf, show (F0 8 ≤ (x158.toInt) ∧ (x158.toInt) ≤ F0 7) ∧ (((3 : Int32).toInt) = 0 ∨ F0 8 < (x158.toInt)) ∧ (((3 : Int32).toInt) = 2 → 0 ≤ (x115.toInt) ∧ (x115.toInt) ≤ 9) ∧ (0 ≤ ((3 : Int32).toInt) ∧ ((3 : Int32).toInt) ≤ 4) by omega⟩
          · refine k_c2 225 rfl rfl (if_neg b151) ?_
            have b151 := mt iv_eq.mpr b151
            refine k_iload 226 rfl gs_eq rfl ?_
            refine k_push 228 rfl rfl ?_
            have hc163 : (61 : Int32).toInt = 61 := by decide
            by_cases b164 : x115 = (61 : Int32)
            · refine k_c2 249 rfl rfl (if_pos b164) ?_
              have b164 := iv_eq.mp b164
              refine k_push 250 rfl rfl ?_
              have hc165 : (3 : Int32).toInt = 3 := by decide
              refine k_goto 254 rfl rfl ?_
              refine r_pI I136 257 rfl rfl rfl (fun h166 I167 => ?_)
              refine k_aload 258 rfl (gs_ne rfl rfl rfl) rfl ?_
              refine k_dup 259 rfl rfl rfl ?_
              refine r_gI I167 262 rfl rfl rfl (fun x168 (e169 : x168.toInt = x99.toInt) => ?_)
              refine k_push 263 rfl rfl ?_
              have hc170 : (1 : Int32).toInt = 1 := by decide
              obtain ⟨x171, q172⟩ : ∃ q : Int32, q = (x168 + (1 : Int32)) := ⟨_, rfl⟩
              have e173 : x171.toInt = x168.toInt + 1 := by rw [q172, iv_add (by omega) (by omega)]; omega
              refine k_bin x171 264 rfl q172.symm rfl ?_
              refine r_pI I167 267 rfl rfl rfl (fun h174 I175 => ?_)
              exact k_fin rfl rfl ⟨_, _, _, rfl, I175, (fr1.up (by decide) (fr1.up (by decide) (fr1.up (by decide) (fr1.up (by decide) (fr1.up (by decide) fr1.rf))))), fr2.rf, show (F0 8 ≤ (x171.toInt) ∧ (x171.toInt) ≤ F0 7) ∧ (((3 : Int32).toInt) = 0 ∨ F0 8 < (x171.toInt)) ∧ (((3 : Int32).toInt) = 2 → 0 ≤ (x115.toInt) ∧ (x115.toInt) ≤ 9) ∧ (0 ≤ ((3 : Int32).toInt) ∧ ((3 : Int32).toInt) ≤ 4) by omega⟩
            · refine k_c2 231 rfl rfl (if_neg b164) ?_
              have b164 := mt iv_eq.mpr b164
              refine k_iload 232 rfl gs_eq rfl ?_
              refine k_push 234 rfl rfl ?_
              have hc176 : (59 : Int32).toInt = 59 := by decide
              by_cases b177 : x115 = (59 : Int32)
              · refine k_c2 249 rfl rfl (if_pos b177) ?_
                have b177 := iv_eq.mp b177
                refine k_push 250 rfl rfl ?_
                have hc178 : (3 : Int32).toInt = 3 := by decide
                refine k_goto 254 rfl rfl ?_
                refine r_pI I136 257 rfl rfl rfl (fun h179 I180 => ?_)
                refine k_aload 258 rfl (gs_ne rfl rfl rfl) rfl ?_
                refine k_dup 259 rfl rfl rfl ?_
                refine r_gI I180 262 rfl rfl rfl (fun x181 (e182 : x181.toInt = x99.toInt) => ?_)
                refine k_push 263 rfl rfl ?_
                have hc183 : (1 : Int32).toInt = 1 := by decide
                obtain ⟨x184, q185⟩ : ∃ q : Int32, q = (x181 + (1 : Int32)) := ⟨_, rfl⟩
                have e186 : x184.toInt = x181.toInt + 1 := by rw [q185, iv_add (by omega) (by omega)]; omega
                refine k_bin x184 264 rfl q185.symm rfl ?_
                refine r_pI I180 267 rfl rfl rfl (fun h187 I188 => ?_)
                exact k_fin rfl rfl ⟨_, _, _, rfl, I188, (fr1.up (by decide) (fr1.up (by decide) (fr1.up (by decide) (fr1.up (by decide) (fr1.up (by decide) fr1.rf))))), fr2.rf, show (F0 8 ≤ (x184.toInt) ∧ (x184.toInt) ≤ F0 7) ∧ (((3 : Int32).toInt) = 0 ∨ F0 8 < (x184.toInt)) ∧ (((3 : Int32).toInt) = 2 → 0 ≤ (x115.toInt) ∧ (x115.toInt) ≤ 9) ∧ (0 ≤ ((3 : Int32).toInt) ∧ ((3 : Int32).toInt) ≤ 4) by omega⟩
              · refine k_c2 237 rfl rfl (if_neg b177) ?_
                have b177 := mt iv_eq.mpr b177
                refine k_iload 238 rfl gs_eq rfl ?_
                refine k_push 240 rfl rfl ?_
                have hc189 : (40 : Int32).toInt = 40 := by decide
                by_cases b190 : x115 = (40 : Int32)
                · refine k_c2 249 rfl rfl (if_pos b190) ?_
                  have b190 := iv_eq.mp b190
                  refine k_push 250 rfl rfl ?_
                  have hc191 : (3 : Int32).toInt = 3 := by decide
                  refine k_goto 254 rfl rfl ?_
                  refine r_pI I136 257 rfl rfl rfl (fun h192 I193 => ?_)
                  refine k_aload 258 rfl (gs_ne rfl rfl rfl) rfl ?_
                  refine k_dup 259 rfl rfl rfl ?_
                  refine r_gI I193 262 rfl rfl rfl (fun x194 (e195 : x194.toInt = x99.toInt) => ?_)
                  refine k_push 263 rfl rfl ?_
                  have hc196 : (1 : Int32).toInt = 1 := by decide
                  obtain ⟨x197, q198⟩ : ∃ q : Int32, q = (x194 + (1 : Int32)) := ⟨_, rfl⟩
                  have e199 : x197.toInt = x194.toInt + 1 := by rw [q198, iv_add (by omega) (by omega)]; omega
                  refine k_bin x197 264 rfl q198.symm rfl ?_
                  refine r_pI I193 267 rfl rfl rfl (fun h200 I201 => ?_)
                  exact k_fin rfl rfl ⟨_, _, _, rfl, I201, (fr1.up (by decide) (fr1.up (by decide) (fr1.up (by decide) (fr1.up (by decide) (fr1.up (by decide) fr1.rf))))), fr2.rf, show (F0 8 ≤ (x197.toInt) ∧ (x197.toInt) ≤ F0 7) ∧ (((3 : Int32).toInt) = 0 ∨ F0 8 < (x197.toInt)) ∧ (((3 : Int32).toInt) = 2 → 0 ≤ (x115.toInt) ∧ (x115.toInt) ≤ 9) ∧ (0 ≤ ((3 : Int32).toInt) ∧ ((3 : Int32).toInt) ≤ 4) by omega⟩
                · refine k_c2 243 rfl rfl (if_neg b190) ?_
                  have b190 := mt iv_eq.mpr b190
                  refine k_iload 244 rfl gs_eq rfl ?_
                  refine k_push 246 rfl rfl ?_
                  have hc202 : (41 : Int32).toInt = 41 := by decide
                  by_cases b203 : x115 = (41 : Int32)
                  · refine k_c2 249 rfl rfl (if_pos b203) ?_
                    have b203 := iv_eq.mp b203
                    refine k_push 250 rfl rfl ?_
                    have hc204 : (3 : Int32).toInt = 3 := by decide
                    refine k_goto 254 rfl rfl ?_
                    refine r_pI I136 257 rfl rfl rfl (fun h205 I206 => ?_)
                    refine k_aload 258 rfl (gs_ne rfl rfl rfl) rfl ?_
                    refine k_dup 259 rfl rfl rfl ?_
                    refine r_gI I206 262 rfl rfl rfl (fun x207 (e208 : x207.toInt = x99.toInt) => ?_)
                    refine k_push 263 rfl rfl ?_
                    have hc209 : (1 : Int32).toInt = 1 := by decide
                    obtain ⟨x210, q211⟩ : ∃ q : Int32, q = (x207 + (1 : Int32)) := ⟨_, rfl⟩
                    have e212 : x210.toInt = x207.toInt + 1 := by rw [q211, iv_add (by omega) (by omega)]; omega
                    refine k_bin x210 264 rfl q211.symm rfl ?_
                    refine r_pI I206 267 rfl rfl rfl (fun h213 I214 => ?_)
                    exact k_fin rfl rfl ⟨_, _, _, rfl, I214, (fr1.up (by decide) (fr1.up (by decide) (fr1.up (by decide) (fr1.up (by decide) (fr1.up (by decide) fr1.rf))))), fr2.rf, show (F0 8 ≤ (x210.toInt) ∧ (x210.toInt) ≤ F0 7) ∧ (((3 : Int32).toInt) = 0 ∨ F0 8 < (x210.toInt)) ∧ (((3 : Int32).toInt) = 2 → 0 ≤ (x115.toInt) ∧ (x115.toInt) ≤ 9) ∧ (0 ≤ ((3 : Int32).toInt) ∧ ((3 : Int32).toInt) ≤ 4) by omega⟩
                  · refine k_c2 253 rfl rfl (if_neg b203) ?_
                    have b203 := mt iv_eq.mpr b203
                    refine k_push 254 rfl rfl ?_
                    have hc215 : (4 : Int32).toInt = 4 := by decide
                    refine r_pI I136 257 rfl rfl rfl (fun h216 I217 => ?_)
                    refine k_aload 258 rfl (gs_ne rfl rfl rfl) rfl ?_
                    refine k_dup 259 rfl rfl rfl ?_
                    refine r_gI I217 262 rfl rfl rfl (fun x218 (e219 : x218.toInt = x99.toInt) => ?_)
                    refine k_push 263 rfl rfl ?_
                    have hc220 : (1 : Int32).toInt = 1 := by decide
                    obtain ⟨x221, q222⟩ : ∃ q : Int32, q = (x218 + (1 : Int32)) := ⟨_, rfl⟩
                    have e223 : x221.toInt = x218.toInt + 1 := by rw [q222, iv_add (by omega) (by omega)]; omega
                    refine k_bin x221 264 rfl q222.symm rfl ?_
                    refine r_pI I217 267 rfl rfl rfl (fun h224 I225 => ?_)
                    exact k_fin rfl rfl ⟨_, _, _, rfl, I225, (fr1.up (by decide) (fr1.up (by decide) (fr1.up (by decide) (fr1.up (by decide) (fr1.up (by decide) fr1.rf))))), fr2.rf, show (F0 8 ≤ (x221.toInt) ∧ (x221.toInt) ≤ F0 7) ∧ (((4 : Int32).toInt) = 0 ∨ F0 8 < (x221.toInt)) ∧ (((4 : Int32).toInt) = 2 → 0 ≤ (x115.toInt) ∧ (x115.toInt) ≤ 9) ∧ (0 ≤ ((4 : Int32).toInt) ∧ ((4 : Int32).toInt) ≤ 4) by omega⟩
      · refine k_c2 5 rfl rfl (if_neg b134) ?_
        have b134 := mt iv_lt.mpr b134
        refine k_iload 6 rfl rfl rfl ?_
        refine k_iload 7 rfl rfl rfl ?_
        by_cases b226 : (57 : Int32) < x115
        · refine k_c2 14 rfl rfl (if_pos b226) ?_
          have b226 := iv_lt.mp b226
          refine k_push 15 rfl rfl ?_
          refine k_fin rfl (fin_Z (Or.inl rfl)) ⟨_, _, rfl, rf_len I119 I119, ?_⟩
          show am_Ok _ _ _ (8, _, [.inl (0 : Int32)], _, 0, 0) _
          refine k_fin rfl (fin_Z (Or.inl rfl)) ⟨_, _, rfl, rf_len I119 I119, ?_⟩
          show am_Ok _ _ _ (149, _, [.inl (0 : Int32)], _, 0, 0) _
          refine k_c1 207 rfl rfl (if_pos (by decide)) ?_
          refine k_aload 208 rfl (gs_ne rfl rfl rfl) rfl ?_
          refine k_iload 209 rfl gs_eq rfl ?_
          refine r_pI I119 212 rfl rfl rfl (fun h227 I228 => ?_)
          refine k_aload 213 rfl (gs_ne rfl rfl rfl) rfl ?_
          refine k_iload 214 rfl gs_eq rfl ?_
          refine k_push 216 rfl rfl ?_
          have hc229 : (92 : Int32).toInt = 92 := by decide
          by_cases b230 : x115 = (92 : Int32)
          · refine k_c2 249 rfl rfl (if_pos b230) ?_
            have b230 := iv_eq.mp b230
            refine k_push 250 rfl rfl ?_
            have hc231 : (3 : Int32).toInt = 3 := by decide
            refine k_goto 254 rfl rfl ?_
            refine r_pI I228 257 rfl rfl rfl (fun h232 I233 => ?_)
            refine k_aload 258 rfl (gs_ne rfl rfl rfl) rfl ?_
            refine k_dup 259 rfl rfl rfl ?_
            refine r_gI I233 262 rfl rfl rfl (fun x234 (e235 : x234.toInt = x99.toInt) => ?_)
            refine k_push 263 rfl rfl ?_
            have hc236 : (1 : Int32).toInt = 1 := by decide
            obtain ⟨x237, q238⟩ : ∃ q : Int32, q = (x234 + (1 : Int32)) := ⟨_, rfl⟩
            have e239 : x237.toInt = x234.toInt + 1 := by rw [q238, iv_add (by omega) (by omega)]; omega
            refine k_bin x237 264 rfl q238.symm rfl ?_
            refine r_pI I233 267 rfl rfl rfl (fun h240 I241 => ?_)
            exact k_fin rfl rfl ⟨_, _, _, rfl, I241, (fr1.up (by decide) (fr1.up (by decide) (fr1.up (by decide) (fr1.up (by decide) (fr1.up (by decide) fr1.rf))))), fr2.rf, show (F0 8 ≤ (x237.toInt) ∧ (x237.toInt) ≤ F0 7) ∧ (((3 : Int32).toInt) = 0 ∨ F0 8 < (x237.toInt)) ∧ (((3 : Int32).toInt) = 2 → 0 ≤ (x115.toInt) ∧ (x115.toInt) ≤ 9) ∧ (0 ≤ ((3 : Int32).toInt) ∧ ((3 : Int32).toInt) ≤ 4) by omega⟩
          · refine k_c2 219 rfl rfl (if_neg b230) ?_
            have b230 := mt iv_eq.mpr b230
            refine k_iload 220 rfl gs_eq rfl ?_
            refine k_push 222 rfl rfl ?_
            have hc242 : (46 : Int32).toInt = 46 := by decide
            by_cases b243 : x115 = (46 : Int32)
            · refine k_c2 249 rfl rfl (if_pos b243) ?_
              have b243 := iv_eq.mp b243
              refine k_push 250 rfl rfl ?_
              have hc244 : (3 : Int32).toInt = 3 := by decide
              refine k_goto 254 rfl rfl ?_
              refine r_pI I228 257 rfl rfl rfl (fun h245 I246 => ?_)
              refine k_aload 258 rfl (gs_ne rfl rfl rfl) rfl ?_
              refine k_dup 259 rfl rfl rfl ?_
              refine r_gI I246 262 rfl rfl rfl (fun x247 (e248 : x247.toInt = x99.toInt) => ?_)
              refine k_push 263 rfl rfl ?_
              have hc249 : (1 : Int32).toInt = 1 := by decide
              obtain ⟨x250, q251⟩ : ∃ q : Int32, q = (x247 + (1 : Int32)) := ⟨_, rfl⟩
              have e252 : x250.toInt = x247.toInt + 1 := by rw [q251, iv_add (by omega) (by omega)]; omega
              refine k_bin x250 264 rfl q251.symm rfl ?_
              refine r_pI I246 267 rfl rfl rfl (fun h253 I254 => ?_)
              exact k_fin rfl rfl ⟨_, _, _, rfl, I254, (fr1.up (by decide) (fr1.up (by decide) (fr1.up (by decide) (fr1.up (by decide) (fr1.up (by decide) fr1.rf))))), fr2.rf, show (F0 8 ≤ (x250.toInt) ∧ (x250.toInt) ≤ F0 7) ∧ (((3 : Int32).toInt) = 0 ∨ F0 8 < (x250.toInt)) ∧ (((3 : Int32).toInt) = 2 → 0 ≤ (x115.toInt) ∧ (x115.toInt) ≤ 9) ∧ (0 ≤ ((3 : Int32).toInt) ∧ ((3 : Int32).toInt) ≤ 4) by omega⟩
            · refine k_c2 225 rfl rfl (if_neg b243) ?_
              have b243 := mt iv_eq.mpr b243
              refine k_iload 226 rfl gs_eq rfl ?_
              refine k_push 228 rfl rfl ?_
              have hc255 : (61 : Int32).toInt = 61 := by decide
              by_cases b256 : x115 = (61 : Int32)
              · refine k_c2 249 rfl rfl (if_pos b256) ?_
                have b256 := iv_eq.mp b256
                refine k_push 250 rfl rfl ?_
                have hc257 : (3 : Int32).toInt = 3 := by decide
                refine k_goto 254 rfl rfl ?_
                refine r_pI I228 257 rfl rfl rfl (fun h258 I259 => ?_)
                refine k_aload 258 rfl (gs_ne rfl rfl rfl) rfl ?_
                refine k_dup 259 rfl rfl rfl ?_
                refine r_gI I259 262 rfl rfl rfl (fun x260 (e261 : x260.toInt = x99.toInt) => ?_)
                refine k_push 263 rfl rfl ?_
                have hc262 : (1 : Int32).toInt = 1 := by decide
                obtain ⟨x263, q264⟩ : ∃ q : Int32, q = (x260 + (1 : Int32)) := ⟨_, rfl⟩
                have e265 : x263.toInt = x260.toInt + 1 := by rw [q264, iv_add (by omega) (by omega)]; omega
                refine k_bin x263 264 rfl q264.symm rfl ?_
                refine r_pI I259 267 rfl rfl rfl (fun h266 I267 => ?_)
                exact k_fin rfl rfl ⟨_, _, _, rfl, I267, (fr1.up (by decide) (fr1.up (by decide) (fr1.up (by decide) (fr1.up (by decide) (fr1.up (by decide) fr1.rf))))), fr2.rf, show (F0 8 ≤ (x263.toInt) ∧ (x263.toInt) ≤ F0 7) ∧ (((3 : Int32).toInt) = 0 ∨ F0 8 < (x263.toInt)) ∧ (((3 : Int32).toInt) = 2 → 0 ≤ (x115.toInt) ∧ (x115.toInt) ≤ 9) ∧ (0 ≤ ((3 : Int32).toInt) ∧ ((3 : Int32).toInt) ≤ 4) by omega⟩
              · refine k_c2 231 rfl rfl (if_neg b256) ?_
                have b256 := mt iv_eq.mpr b256
                refine k_iload 232 rfl gs_eq rfl ?_
                refine k_push 234 rfl rfl ?_
                have hc268 : (59 : Int32).toInt = 59 := by decide
                by_cases b269 : x115 = (59 : Int32)
                · refine k_c2 249 rfl rfl (if_pos b269) ?_
                  have b269 := iv_eq.mp b269
                  refine k_push 250 rfl rfl ?_
                  have hc270 : (3 : Int32).toInt = 3 := by decide
                  refine k_goto 254 rfl rfl ?_
                  refine r_pI I228 257 rfl rfl rfl (fun h271 I272 => ?_)
                  refine k_aload 258 rfl (gs_ne rfl rfl rfl) rfl ?_
                  refine k_dup 259 rfl rfl rfl ?_
                  refine r_gI I272 262 rfl rfl rfl (fun x273 (e274 : x273.toInt = x99.toInt) => ?_)
                  refine k_push 263 rfl rfl ?_
                  have hc275 : (1 : Int32).toInt = 1 := by decide
                  obtain ⟨x276, q277⟩ : ∃ q : Int32, q = (x273 + (1 : Int32)) := ⟨_, rfl⟩
                  have e278 : x276.toInt = x273.toInt + 1 := by rw [q277, iv_add (by omega) (by omega)]; omega
                  refine k_bin x276 264 rfl q277.symm rfl ?_
                  refine r_pI I272 267 rfl rfl rfl (fun h279 I280 => ?_)
                  exact k_fin rfl rfl ⟨_, _, _, rfl, I280, (fr1.up (by decide) (fr1.up (by decide) (fr1.up (by decide) (fr1.up (by decide) (fr1.up (by decide) fr1.rf))))), fr2.rf, show (F0 8 ≤ (x276.toInt) ∧ (x276.toInt) ≤ F0 7) ∧ (((3 : Int32).toInt) = 0 ∨ F0 8 < (x276.toInt)) ∧ (((3 : Int32).toInt) = 2 → 0 ≤ (x115.toInt) ∧ (x115.toInt) ≤ 9) ∧ (0 ≤ ((3 : Int32).toInt) ∧ ((3 : Int32).toInt) ≤ 4) by omega⟩
                · refine k_c2 237 rfl rfl (if_neg b269) ?_
                  have b269 := mt iv_eq.mpr b269
                  refine k_iload 238 rfl gs_eq rfl ?_
                  refine k_push 240 rfl rfl ?_
                  have hc281 : (40 : Int32).toInt = 40 := by decide
                  by_cases b282 : x115 = (40 : Int32)
                  · refine k_c2 249 rfl rfl (if_pos b282) ?_
                    have b282 := iv_eq.mp b282
                    refine k_push 250 rfl rfl ?_
                    have hc283 : (3 : Int32).toInt = 3 := by decide
                    refine k_goto 254 rfl rfl ?_
                    refine r_pI I228 257 rfl rfl rfl (fun h284 I285 => ?_)
                    refine k_aload 258 rfl (gs_ne rfl rfl rfl) rfl ?_
                    refine k_dup 259 rfl rfl rfl ?_
                    refine r_gI I285 262 rfl rfl rfl (fun x286 (e287 : x286.toInt = x99.toInt) => ?_)
                    refine k_push 263 rfl rfl ?_
                    have hc288 : (1 : Int32).toInt = 1 := by decide
                    obtain ⟨x289, q290⟩ : ∃ q : Int32, q = (x286 + (1 : Int32)) := ⟨_, rfl⟩
                    have e291 : x289.toInt = x286.toInt + 1 := by rw [q290, iv_add (by omega) (by omega)]; omega
                    refine k_bin x289 264 rfl q290.symm rfl ?_
                    refine r_pI I285 267 rfl rfl rfl (fun h292 I293 => ?_)
                    exact k_fin rfl rfl ⟨_, _, _, rfl, I293, (fr1.up (by decide) (fr1.up (by decide) (fr1.up (by decide) (fr1.up (by decide) (fr1.up (by decide) fr1.rf))))), fr2.rf, show (F0 8 ≤ (x289.toInt) ∧ (x289.toInt) ≤ F0 7) ∧ (((3 : Int32).toInt) = 0 ∨ F0 8 < (x289.toInt)) ∧ (((3 : Int32).toInt) = 2 → 0 ≤ (x115.toInt) ∧ (x115.toInt) ≤ 9) ∧ (0 ≤ ((3 : Int32).toInt) ∧ ((3 : Int32).toInt) ≤ 4) by omega⟩
                  · refine k_c2 243 rfl rfl (if_neg b282) ?_
                    have b282 := mt iv_eq.mpr b282
                    refine k_iload 244 rfl gs_eq rfl ?_
                    refine k_push 246 rfl rfl ?_
                    have hc294 : (41 : Int32).toInt = 41 := by decide
                    by_cases b295 : x115 = (41 : Int32)
                    · refine k_c2 249 rfl rfl (if_pos b295) ?_
                      have b295 := iv_eq.mp b295
                      refine k_push 250 rfl rfl ?_
                      have hc296 : (3 : Int32).toInt = 3 := by decide
                      refine k_goto 254 rfl rfl ?_
                      refine r_pI I228 257 rfl rfl rfl (fun h297 I298 => ?_)
                      refine k_aload 258 rfl (gs_ne rfl rfl rfl) rfl ?_
                      refine k_dup 259 rfl rfl rfl ?_
                      refine r_gI I298 262 rfl rfl rfl (fun x299 (e300 : x299.toInt = x99.toInt) => ?_)
                      refine k_push 263 rfl rfl ?_
                      have hc301 : (1 : Int32).toInt = 1 := by decide
                      obtain ⟨x302, q303⟩ : ∃ q : Int32, q = (x299 + (1 : Int32)) := ⟨_, rfl⟩
                      have e304 : x302.toInt = x299.toInt + 1 := by rw [q303, iv_add (by omega) (by omega)]; omega
                      refine k_bin x302 264 rfl q303.symm rfl ?_
                      refine r_pI I298 267 rfl rfl rfl (fun h305 I306 => ?_)
                      exact k_fin rfl rfl ⟨_, _, _, rfl, I306, (fr1.up (by decide) (fr1.up (by decide) (fr1.up (by decide) (fr1.up (by decide) (fr1.up (by decide) fr1.rf))))), fr2.rf, show (F0 8 ≤ (x302.toInt) ∧ (x302.toInt) ≤ F0 7) ∧ (((3 : Int32).toInt) = 0 ∨ F0 8 < (x302.toInt)) ∧ (((3 : Int32).toInt) = 2 → 0 ≤ (x115.toInt) ∧ (x115.toInt) ≤ 9) ∧ (0 ≤ ((3 : Int32).toInt) ∧ ((3 : Int32).toInt) ≤ 4) by omega⟩
                    · refine k_c2 253 rfl rfl (if_neg b295) ?_
                      have b295 := mt iv_eq.mpr b295
                      refine k_push 254 rfl rfl ?_
                      have hc307 : (4 : Int32).toInt = 4 := by decide
                      refine r_pI I228 257 rfl rfl rfl (fun h308 I309 => ?_)
                      refine k_aload 258 rfl (gs_ne rfl rfl rfl) rfl ?_
                      refine k_dup 259 rfl rfl rfl ?_
                      refine r_gI I309 262 rfl rfl rfl (fun x310 (e311 : x310.toInt = x99.toInt) => ?_)
                      refine k_push 263 rfl rfl ?_
                      have hc312 : (1 : Int32).toInt = 1 := by decide
                      obtain ⟨x313, q314⟩ : ∃ q : Int32, q = (x310 + (1 : Int32)) := ⟨_, rfl⟩
                      have e315 : x313.toInt = x310.toInt + 1 := by rw [q314, iv_add (by omega) (by omega)]; omega
                      refine k_bin x313 264 rfl q314.symm rfl ?_
                      refine r_pI I309 267 rfl rfl rfl (fun h316 I317 => ?_)
                      exact k_fin rfl rfl ⟨_, _, _, rfl, I317, (fr1.up (by decide) (fr1.up (by decide) (fr1.up (by decide) (fr1.up (by decide) (fr1.up (by decide) fr1.rf))))), fr2.rf, show (F0 8 ≤ (x313.toInt) ∧ (x313.toInt) ≤ F0 7) ∧ (((4 : Int32).toInt) = 0 ∨ F0 8 < (x313.toInt)) ∧ (((4 : Int32).toInt) = 2 → 0 ≤ (x115.toInt) ∧ (x115.toInt) ≤ 9) ∧ (0 ≤ ((4 : Int32).toInt) ∧ ((4 : Int32).toInt) ≤ 4) by omega⟩
        · refine k_c2 10 rfl rfl (if_neg b226) ?_
          have b226 := mt iv_lt.mpr b226
          refine k_push 11 rfl rfl ?_
          have hc318 : (1 : Int32).toInt = 1 := by decide
          refine k_goto 15 rfl rfl ?_
          refine k_fin rfl (fin_Z (Or.inr rfl)) ⟨_, _, rfl, rf_len I119 I119, ?_⟩
          show am_Ok _ _ _ (8, _, [.inl (1 : Int32)], _, 0, 0) _
          refine k_fin rfl (fin_Z (Or.inr rfl)) ⟨_, _, rfl, rf_len I119 I119, ?_⟩
          show am_Ok _ _ _ (149, _, [.inl (1 : Int32)], _, 0, 0) _
          refine k_c1 152 rfl rfl (if_neg (by decide)) ?_
          refine k_aload 153 rfl (gs_ne rfl rfl rfl) rfl ?_
          refine k_push 154 rfl rfl ?_
          have hc319 : (2 : Int32).toInt = 2 := by decide
          refine r_pI I119 157 rfl rfl rfl (fun h320 I321 => ?_)
          refine k_aload 158 rfl (gs_ne rfl rfl rfl) rfl ?_
          refine k_iload 159 rfl gs_eq rfl ?_
          refine k_push 161 rfl rfl ?_
          obtain ⟨x322, q323⟩ : ∃ q : Int32, q = (x115 - (48 : Int32)) := ⟨_, rfl⟩
          have e324 : x322.toInt = x115.toInt - 48 := by rw [q323, iv_sub (by omega) (by omega)]; omega
          refine k_bin x322 162 rfl q323.symm rfl ?_
          refine r_pI I321 165 rfl rfl rfl (fun h325 I326 => ?_)
          refine k_aload 166 rfl (gs_ne rfl rfl rfl) rfl ?_
          refine k_push 167 rfl rfl ?_
          refine r_pI I326 170 rfl rfl rfl (fun h327 I328 => ?_)
          exact b_X10_goes_170   p1 _  rfl (gs_ne rfl rfl rfl) gs_eq I328 (fr1.up (by decide) (fr1.up (by decide) (fr1.up (by decide) (fr1.up (by decide) (fr1.up (by decide) fr1.rf))))) fr2.rf (show F0 8 ≤ (x99.toInt) ∧ (x99.toInt) ≤ F0 7 ∧ (F0 8 < (x99.toInt) ∨ ((x99.toInt) < F0 7 ∧ 48 ≤ A0 3 ((x99.toInt)) ∧ A0 3 ((x99.toInt)) ≤ 57)) by omega) (show ((2 : Int32).toInt) = 2 ∧ 0 ≤ (x322.toInt) ∧ (x322.toInt) ≤ 9 by omega)
    · refine k_c2 5 rfl rfl (if_neg b130) ?_
      have b130 := mt iv_lt.mpr b130
      refine k_iload 6 rfl rfl rfl ?_
      refine k_iload 7 rfl rfl rfl ?_
      by_cases b329 : (122 : Int32) < x115
      · refine k_c2 14 rfl rfl (if_pos b329) ?_
        have b329 := iv_lt.mp b329
        refine k_push 15 rfl rfl ?_
        have hc330 : (0 : Int32).toInt = 0 := by decide
        refine k_fin rfl (fin_Z (Or.inl rfl)) ⟨_, _, rfl, rf_len I119 I119, ?_⟩
        show am_Ok _ _ _ (8, _, [.inl (0 : Int32)], _, 0, 0) _
        refine k_fin rfl (fin_Z (Or.inl rfl)) ⟨_, _, rfl, rf_len I119 I119, ?_⟩
        show am_Ok _ _ _ (46, _, [.inl (0 : Int32)], _, 0, 0) _
        refine k_c1 145 rfl rfl (if_pos (by decide)) ?_
        refine k_iload 146 rfl gs_eq rfl ?_
        refine k_in (d := 1) rfl rfl rfl rfl rfl ?_
        refine k_iload 1 rfl rfl rfl ?_
        refine k_push 3 rfl rfl ?_
        have hc331 : (48 : Int32).toInt = 48 := by decide
        refine k_push 5 rfl rfl ?_
        have hc332 : (57 : Int32).toInt = 57 := by decide
        refine k_in (d := 0) rfl rfl rfl rfl rfl ?_
        refine k_iload 1 rfl rfl rfl ?_
        refine k_iload 2 rfl rfl rfl ?_
        by_cases b333 : x115 < (48 : Int32)
        · refine k_c2 14 rfl rfl (if_pos b333) ?_
          have b333 := iv_lt.mp b333
          refine k_push 15 rfl rfl ?_
          refine k_fin rfl (fin_Z (Or.inl rfl)) ⟨_, _, rfl, rf_len I119 I119, ?_⟩
          show am_Ok _ _ _ (8, _, [.inl (0 : Int32)], _, 0, 0) _
          refine k_fin rfl (fin_Z (Or.inl rfl)) ⟨_, _, rfl, rf_len I119 I119, ?_⟩
          show am_Ok _ _ _ (149, _, [.inl (0 : Int32)], _, 0, 0) _
          refine k_c1 207 rfl rfl (if_pos (by decide)) ?_
          refine k_aload 208 rfl (gs_ne rfl rfl rfl) rfl ?_
          refine k_iload 209 rfl gs_eq rfl ?_
          refine r_pI I119 212 rfl rfl rfl (fun h334 I335 => ?_)
          refine k_aload 213 rfl (gs_ne rfl rfl rfl) rfl ?_
          refine k_iload 214 rfl gs_eq rfl ?_
          refine k_push 216 rfl rfl ?_
          have hc336 : (92 : Int32).toInt = 92 := by decide
          by_cases b337 : x115 = (92 : Int32)
          · refine k_c2 249 rfl rfl (if_pos b337) ?_
            have b337 := iv_eq.mp b337
            refine k_push 250 rfl rfl ?_
            have hc338 : (3 : Int32).toInt = 3 := by decide
            refine k_goto 254 rfl rfl ?_
            refine r_pI I335 257 rfl rfl rfl (fun h339 I340 => ?_)
            refine k_aload 258 rfl (gs_ne rfl rfl rfl) rfl ?_
            refine k_dup 259 rfl rfl rfl ?_
            refine r_gI I340 262 rfl rfl rfl (fun x341 (e342 : x341.toInt = x99.toInt) => ?_)
            refine k_push 263 rfl rfl ?_
            have hc343 : (1 : Int32).toInt = 1 := by decide
            obtain ⟨x344, q345⟩ : ∃ q : Int32, q = (x341 + (1 : Int32)) := ⟨_, rfl⟩
            have e346 : x344.toInt = x341.toInt + 1 := by rw [q345, iv_add (by omega) (by omega)]; omega
            refine k_bin x344 264 rfl q345.symm rfl ?_
            refine r_pI I340 267 rfl rfl rfl (fun h347 I348 => ?_)
            exact k_fin rfl rfl ⟨_, _, _, rfl, I348, (fr1.up (by decide) (fr1.up (by decide) (fr1.up (by decide) (fr1.up (by decide) (fr1.up (by decide) fr1.rf))))), fr2.rf, show (F0 8 ≤ (x344.toInt) ∧ (x344.toInt) ≤ F0 7) ∧ (((3 : Int32).toInt) = 0 ∨ F0 8 < (x344.toInt)) ∧ (((3 : Int32).toInt) = 2 → 0 ≤ (x115.toInt) ∧ (x115.toInt) ≤ 9) ∧ (0 ≤ ((3 : Int32).toInt) ∧ ((3 : Int32).toInt) ≤ 4) by omega⟩
          · refine k_c2 219 rfl rfl (if_neg b337) ?_
            have b337 := mt iv_eq.mpr b337
            refine k_iload 220 rfl gs_eq rfl ?_
            refine k_push 222 rfl rfl ?_
            have hc349 : (46 : Int32).toInt = 46 := by decide
            by_cases b350 : x115 = (46 : Int32)
            · refine k_c2 249 rfl rfl (if_pos b350) ?_
              have b350 := iv_eq.mp b350
              refine k_push 250 rfl rfl ?_
              have hc351 : (3 : Int32).toInt = 3 := by decide
              refine k_goto 254 rfl rfl ?_
              refine r_pI I335 257 rfl rfl rfl (fun h352 I353 => ?_)
              refine k_aload 258 rfl (gs_ne rfl rfl rfl) rfl ?_
              refine k_dup 259 rfl rfl rfl ?_
              refine r_gI I353 262 rfl rfl rfl (fun x354 (e355 : x354.toInt = x99.toInt) => ?_)
              refine k_push 263 rfl rfl ?_
              have hc356 : (1 : Int32).toInt = 1 := by decide
              obtain ⟨x357, q358⟩ : ∃ q : Int32, q = (x354 + (1 : Int32)) := ⟨_, rfl⟩
              have e359 : x357.toInt = x354.toInt + 1 := by rw [q358, iv_add (by omega) (by omega)]; omega
              refine k_bin x357 264 rfl q358.symm rfl ?_
              refine r_pI I353 267 rfl rfl rfl (fun h360 I361 => ?_)
              exact k_fin rfl rfl ⟨_, _, _, rfl, I361, (fr1.up (by decide) (fr1.up (by decide) (fr1.up (by decide) (fr1.up (by decide) (fr1.up (by decide) fr1.rf))))), fr2.rf, show (F0 8 ≤ (x357.toInt) ∧ (x357.toInt) ≤ F0 7) ∧ (((3 : Int32).toInt) = 0 ∨ F0 8 < (x357.toInt)) ∧ (((3 : Int32).toInt) = 2 → 0 ≤ (x115.toInt) ∧ (x115.toInt) ≤ 9) ∧ (0 ≤ ((3 : Int32).toInt) ∧ ((3 : Int32).toInt) ≤ 4) by omega⟩
            · refine k_c2 225 rfl rfl (if_neg b350) ?_
              have b350 := mt iv_eq.mpr b350
              refine k_iload 226 rfl gs_eq rfl ?_
              refine k_push 228 rfl rfl ?_
              have hc362 : (61 : Int32).toInt = 61 := by decide
              by_cases b363 : x115 = (61 : Int32)
              · refine k_c2 249 rfl rfl (if_pos b363) ?_
                have b363 := iv_eq.mp b363
                refine k_push 250 rfl rfl ?_
                have hc364 : (3 : Int32).toInt = 3 := by decide
                refine k_goto 254 rfl rfl ?_
                refine r_pI I335 257 rfl rfl rfl (fun h365 I366 => ?_)
                refine k_aload 258 rfl (gs_ne rfl rfl rfl) rfl ?_
                refine k_dup 259 rfl rfl rfl ?_
                refine r_gI I366 262 rfl rfl rfl (fun x367 (e368 : x367.toInt = x99.toInt) => ?_)
                refine k_push 263 rfl rfl ?_
                have hc369 : (1 : Int32).toInt = 1 := by decide
                obtain ⟨x370, q371⟩ : ∃ q : Int32, q = (x367 + (1 : Int32)) := ⟨_, rfl⟩
                have e372 : x370.toInt = x367.toInt + 1 := by rw [q371, iv_add (by omega) (by omega)]; omega
                refine k_bin x370 264 rfl q371.symm rfl ?_
                refine r_pI I366 267 rfl rfl rfl (fun h373 I374 => ?_)
                exact k_fin rfl rfl ⟨_, _, _, rfl, I374, (fr1.up (by decide) (fr1.up (by decide) (fr1.up (by decide) (fr1.up (by decide) (fr1.up (by decide) fr1.rf))))), fr2.rf, show (F0 8 ≤ (x370.toInt) ∧ (x370.toInt) ≤ F0 7) ∧ (((3 : Int32).toInt) = 0 ∨ F0 8 < (x370.toInt)) ∧ (((3 : Int32).toInt) = 2 → 0 ≤ (x115.toInt) ∧ (x115.toInt) ≤ 9) ∧ (0 ≤ ((3 : Int32).toInt) ∧ ((3 : Int32).toInt) ≤ 4) by omega⟩
              · refine k_c2 231 rfl rfl (if_neg b363) ?_
                have b363 := mt iv_eq.mpr b363
                refine k_iload 232 rfl gs_eq rfl ?_
                refine k_push 234 rfl rfl ?_
                have hc375 : (59 : Int32).toInt = 59 := by decide
                by_cases b376 : x115 = (59 : Int32)
                · refine k_c2 249 rfl rfl (if_pos b376) ?_
                  have b376 := iv_eq.mp b376
                  refine k_push 250 rfl rfl ?_
                  have hc377 : (3 : Int32).toInt = 3 := by decide
                  refine k_goto 254 rfl rfl ?_
                  refine r_pI I335 257 rfl rfl rfl (fun h378 I379 => ?_)
                  refine k_aload 258 rfl (gs_ne rfl rfl rfl) rfl ?_
                  refine k_dup 259 rfl rfl rfl ?_
                  refine r_gI I379 262 rfl rfl rfl (fun x380 (e381 : x380.toInt = x99.toInt) => ?_)
                  refine k_push 263 rfl rfl ?_
                  have hc382 : (1 : Int32).toInt = 1 := by decide
                  obtain ⟨x383, q384⟩ : ∃ q : Int32, q = (x380 + (1 : Int32)) := ⟨_, rfl⟩
                  have e385 : x383.toInt = x380.toInt + 1 := by rw [q384, iv_add (by omega) (by omega)]; omega
                  refine k_bin x383 264 rfl q384.symm rfl ?_
                  refine r_pI I379 267 rfl rfl rfl (fun h386 I387 => ?_)
                  exact k_fin rfl rfl ⟨_, _, _, rfl, I387, (fr1.up (by decide) (fr1.up (by decide) (fr1.up (by decide) (fr1.up (by decide) (fr1.up (by decide) fr1.rf))))), fr2.rf, show (F0 8 ≤ (x383.toInt) ∧ (x383.toInt) ≤ F0 7) ∧ (((3 : Int32).toInt) = 0 ∨ F0 8 < (x383.toInt)) ∧ (((3 : Int32).toInt) = 2 → 0 ≤ (x115.toInt) ∧ (x115.toInt) ≤ 9) ∧ (0 ≤ ((3 : Int32).toInt) ∧ ((3 : Int32).toInt) ≤ 4) by omega⟩
                · refine k_c2 237 rfl rfl (if_neg b376) ?_
                  have b376 := mt iv_eq.mpr b376
                  refine k_iload 238 rfl gs_eq rfl ?_
                  refine k_push 240 rfl rfl ?_
                  have hc388 : (40 : Int32).toInt = 40 := by decide
                  by_cases b389 : x115 = (40 : Int32)
                  · refine k_c2 249 rfl rfl (if_pos b389) ?_
                    have b389 := iv_eq.mp b389
                    refine k_push 250 rfl rfl ?_
                    have hc390 : (3 : Int32).toInt = 3 := by decide
                    refine k_goto 254 rfl rfl ?_
                    refine r_pI I335 257 rfl rfl rfl (fun h391 I392 => ?_)
                    refine k_aload 258 rfl (gs_ne rfl rfl rfl) rfl ?_
                    refine k_dup 259 rfl rfl rfl ?_
                    refine r_gI I392 262 rfl rfl rfl (fun x393 (e394 : x393.toInt = x99.toInt) => ?_)
                    refine k_push 263 rfl rfl ?_
                    have hc395 : (1 : Int32).toInt = 1 := by decide
                    obtain ⟨x396, q397⟩ : ∃ q : Int32, q = (x393 + (1 : Int32)) := ⟨_, rfl⟩
                    have e398 : x396.toInt = x393.toInt + 1 := by rw [q397, iv_add (by omega) (by omega)]; omega
                    refine k_bin x396 264 rfl q397.symm rfl ?_
                    refine r_pI I392 267 rfl rfl rfl (fun h399 I400 => ?_)
                    exact k_fin rfl rfl ⟨_, _, _, rfl, I400, (fr1.up (by decide) (fr1.up (by decide) (fr1.up (by decide) (fr1.up (by decide) (fr1.up (by decide) fr1.rf))))), fr2.rf, show (F0 8 ≤ (x396.toInt) ∧ (x396.toInt) ≤ F0 7) ∧ (((3 : Int32).toInt) = 0 ∨ F0 8 < (x396.toInt)) ∧ (((3 : Int32).toInt) = 2 → 0 ≤ (x115.toInt) ∧ (x115.toInt) ≤ 9) ∧ (0 ≤ ((3 : Int32).toInt) ∧ ((3 : Int32).toInt) ≤ 4) by omega⟩
                  · refine k_c2 243 rfl rfl (if_neg b389) ?_
                    have b389 := mt iv_eq.mpr b389
                    refine k_iload 244 rfl gs_eq rfl ?_
                    refine k_push 246 rfl rfl ?_
                    have hc401 : (41 : Int32).toInt = 41 := by decide
                    by_cases b402 : x115 = (41 : Int32)
                    · refine k_c2 249 rfl rfl (if_pos b402) ?_
                      have b402 := iv_eq.mp b402
                      refine k_push 250 rfl rfl ?_
                      have hc403 : (3 : Int32).toInt = 3 := by decide
                      refine k_goto 254 rfl rfl ?_
                      refine r_pI I335 257 rfl rfl rfl (fun h404 I405 => ?_)
                      refine k_aload 258 rfl (gs_ne rfl rfl rfl) rfl ?_
                      refine k_dup 259 rfl rfl rfl ?_
                      refine r_gI I405 262 rfl rfl rfl (fun x406 (e407 : x406.toInt = x99.toInt) => ?_)
                      refine k_push 263 rfl rfl ?_
                      have hc408 : (1 : Int32).toInt = 1 := by decide
                      obtain ⟨x409, q410⟩ : ∃ q : Int32, q = (x406 + (1 : Int32)) := ⟨_, rfl⟩
                      have e411 : x409.toInt = x406.toInt + 1 := by rw [q410, iv_add (by omega) (by omega)]; omega
                      refine k_bin x409 264 rfl q410.symm rfl ?_
                      refine r_pI I405 267 rfl rfl rfl (fun h412 I413 => ?_)
                      exact k_fin rfl rfl ⟨_, _, _, rfl, I413, (fr1.up (by decide) (fr1.up (by decide) (fr1.up (by decide) (fr1.up (by decide) (fr1.up (by decide) fr1.rf))))), fr2.rf, show (F0 8 ≤ (x409.toInt) ∧ (x409.toInt) ≤ F0 7) ∧ (((3 : Int32).toInt) = 0 ∨ F0 8 < (x409.toInt)) ∧ (((3 : Int32).toInt) = 2 → 0 ≤ (x115.toInt) ∧ (x115.toInt) ≤ 9) ∧ (0 ≤ ((3 : Int32).toInt) ∧ ((3 : Int32).toInt) ≤ 4) by omega⟩
                    · refine k_c2 253 rfl rfl (if_neg b402) ?_
                      have b402 := mt iv_eq.mpr b402
                      refine k_push 254 rfl rfl ?_
                      have hc414 : (4 : Int32).toInt = 4 := by decide
                      refine r_pI I335 257 rfl rfl rfl (fun h415 I416 => ?_)
                      refine k_aload 258 rfl (gs_ne rfl rfl rfl) rfl ?_
                      refine k_dup 259 rfl rfl rfl ?_
                      refine r_gI I416 262 rfl rfl rfl (fun x417 (e418 : x417.toInt = x99.toInt) => ?_)
                      refine k_push 263 rfl rfl ?_
                      have hc419 : (1 : Int32).toInt = 1 := by decide
                      obtain ⟨x420, q421⟩ : ∃ q : Int32, q = (x417 + (1 : Int32)) := ⟨_, rfl⟩
                      have e422 : x420.toInt = x417.toInt + 1 := by rw [q421, iv_add (by omega) (by omega)]; omega
                      refine k_bin x420 264 rfl q421.symm rfl ?_
                      refine r_pI I416 267 rfl rfl rfl (fun h423 I424 => ?_)
                      exact k_fin rfl rfl ⟨_, _, _, rfl, I424, (fr1.up (by decide) (fr1.up (by decide) (fr1.up (by decide) (fr1.up (by decide) (fr1.up (by decide) fr1.rf))))), fr2.rf, show (F0 8 ≤ (x420.toInt) ∧ (x420.toInt) ≤ F0 7) ∧ (((4 : Int32).toInt) = 0 ∨ F0 8 < (x420.toInt)) ∧ (((4 : Int32).toInt) = 2 → 0 ≤ (x115.toInt) ∧ (x115.toInt) ≤ 9) ∧ (0 ≤ ((4 : Int32).toInt) ∧ ((4 : Int32).toInt) ≤ 4) by omega⟩
        · refine k_c2 5 rfl rfl (if_neg b333) ?_
          have b333 := mt iv_lt.mpr b333
          refine k_iload 6 rfl rfl rfl ?_
          refine k_iload 7 rfl rfl rfl ?_
          by_cases b425 : (57 : Int32) < x115
          · refine k_c2 14 rfl rfl (if_pos b425) ?_
            have b425 := iv_lt.mp b425
            refine k_push 15 rfl rfl ?_
            refine k_fin rfl (fin_Z (Or.inl rfl)) ⟨_, _, rfl, rf_len I119 I119, ?_⟩
            show am_Ok _ _ _ (8, _, [.inl (0 : Int32)], _, 0, 0) _
            refine k_fin rfl (fin_Z (Or.inl rfl)) ⟨_, _, rfl, rf_len I119 I119, ?_⟩
            show am_Ok _ _ _ (149, _, [.inl (0 : Int32)], _, 0, 0) _
            refine k_c1 207 rfl rfl (if_pos (by decide)) ?_
            refine k_aload 208 rfl (gs_ne rfl rfl rfl) rfl ?_
            refine k_iload 209 rfl gs_eq rfl ?_
            refine r_pI I119 212 rfl rfl rfl (fun h426 I427 => ?_)
            refine k_aload 213 rfl (gs_ne rfl rfl rfl) rfl ?_
            refine k_iload 214 rfl gs_eq rfl ?_
            refine k_push 216 rfl rfl ?_
            have hc428 : (92 : Int32).toInt = 92 := by decide
            by_cases b429 : x115 = (92 : Int32)
            · refine k_c2 249 rfl rfl (if_pos b429) ?_
              have b429 := iv_eq.mp b429
              refine k_push 250 rfl rfl ?_
              have hc430 : (3 : Int32).toInt = 3 := by decide
              refine k_goto 254 rfl rfl ?_
              refine r_pI I427 257 rfl rfl rfl (fun h431 I432 => ?_)
              refine k_aload 258 rfl (gs_ne rfl rfl rfl) rfl ?_
              refine k_dup 259 rfl rfl rfl ?_
              refine r_gI I432 262 rfl rfl rfl (fun x433 (e434 : x433.toInt = x99.toInt) => ?_)
              refine k_push 263 rfl rfl ?_
              have hc435 : (1 : Int32).toInt = 1 := by decide
              obtain ⟨x436, q437⟩ : ∃ q : Int32, q = (x433 + (1 : Int32)) := ⟨_, rfl⟩
              have e438 : x436.toInt = x433.toInt + 1 := by rw [q437, iv_add (by omega) (by omega)]; omega
              refine k_bin x436 264 rfl q437.symm rfl ?_
              refine r_pI I432 267 rfl rfl rfl (fun h439 I440 => ?_)
              exact k_fin rfl rfl ⟨_, _, _, rfl, I440, (fr1.up (by decide) (fr1.up (by decide) (fr1.up (by decide) (fr1.up (by decide) (fr1.up (by decide) fr1.rf))))), fr2.rf, show (F0 8 ≤ (x436.toInt) ∧ (x436.toInt) ≤ F0 7) ∧ (((3 : Int32).toInt) = 0 ∨ F0 8 < (x436.toInt)) ∧ (((3 : Int32).toInt) = 2 → 0 ≤ (x115.toInt) ∧ (x115.toInt) ≤ 9) ∧ (0 ≤ ((3 : Int32).toInt) ∧ ((3 : Int32).toInt) ≤ 4) by omega⟩
            · refine k_c2 219 rfl rfl (if_neg b429) ?_
              have b429 := mt iv_eq.mpr b429
              refine k_iload 220 rfl gs_eq rfl ?_
              refine k_push 222 rfl rfl ?_
              have hc441 : (46 : Int32).toInt = 46 := by decide
              by_cases b442 : x115 = (46 : Int32)
              · refine k_c2 249 rfl rfl (if_pos b442) ?_
                have b442 := iv_eq.mp b442
                refine k_push 250 rfl rfl ?_
                have hc443 : (3 : Int32).toInt = 3 := by decide
                refine k_goto 254 rfl rfl ?_
                refine r_pI I427 257 rfl rfl rfl (fun h444 I445 => ?_)
                refine k_aload 258 rfl (gs_ne rfl rfl rfl) rfl ?_
                refine k_dup 259 rfl rfl rfl ?_
                refine r_gI I445 262 rfl rfl rfl (fun x446 (e447 : x446.toInt = x99.toInt) => ?_)
                refine k_push 263 rfl rfl ?_
                have hc448 : (1 : Int32).toInt = 1 := by decide
                obtain ⟨x449, q450⟩ : ∃ q : Int32, q = (x446 + (1 : Int32)) := ⟨_, rfl⟩
                have e451 : x449.toInt = x446.toInt + 1 := by rw [q450, iv_add (by omega) (by omega)]; omega
                refine k_bin x449 264 rfl q450.symm rfl ?_
                refine r_pI I445 267 rfl rfl rfl (fun h452 I453 => ?_)
                exact k_fin rfl rfl ⟨_, _, _, rfl, I453, (fr1.up (by decide) (fr1.up (by decide) (fr1.up (by decide) (fr1.up (by decide) (fr1.up (by decide) fr1.rf))))), fr2.rf, show (F0 8 ≤ (x449.toInt) ∧ (x449.toInt) ≤ F0 7) ∧ (((3 : Int32).toInt) = 0 ∨ F0 8 < (x449.toInt)) ∧ (((3 : Int32).toInt) = 2 → 0 ≤ (x115.toInt) ∧ (x115.toInt) ≤ 9) ∧ (0 ≤ ((3 : Int32).toInt) ∧ ((3 : Int32).toInt) ≤ 4) by omega⟩
              · refine k_c2 225 rfl rfl (if_neg b442) ?_
                have b442 := mt iv_eq.mpr b442
                refine k_iload 226 rfl gs_eq rfl ?_
                refine k_push 228 rfl rfl ?_
                have hc454 : (61 : Int32).toInt = 61 := by decide
                by_cases b455 : x115 = (61 : Int32)
                · refine k_c2 249 rfl rfl (if_pos b455) ?_
                  have b455 := iv_eq.mp b455
                  refine k_push 250 rfl rfl ?_
                  have hc456 : (3 : Int32).toInt = 3 := by decide
                  refine k_goto 254 rfl rfl ?_
                  refine r_pI I427 257 rfl rfl rfl (fun h457 I458 => ?_)
                  refine k_aload 258 rfl (gs_ne rfl rfl rfl) rfl ?_
                  refine k_dup 259 rfl rfl rfl ?_
                  refine r_gI I458 262 rfl rfl rfl (fun x459 (e460 : x459.toInt = x99.toInt) => ?_)
                  refine k_push 263 rfl rfl ?_
                  have hc461 : (1 : Int32).toInt = 1 := by decide
                  obtain ⟨x462, q463⟩ : ∃ q : Int32, q = (x459 + (1 : Int32)) := ⟨_, rfl⟩
                  have e464 : x462.toInt = x459.toInt + 1 := by rw [q463, iv_add (by omega) (by omega)]; omega
                  refine k_bin x462 264 rfl q463.symm rfl ?_
                  refine r_pI I458 267 rfl rfl rfl (fun h465 I466 => ?_)
                  exact k_fin rfl rfl ⟨_, _, _, rfl, I466, (fr1.up (by decide) (fr1.up (by decide) (fr1.up (by decide) (fr1.up (by decide) (fr1.up (by decide) fr1.rf))))), fr2.rf, show (F0 8 ≤ (x462.toInt) ∧ (x462.toInt) ≤ F0 7) ∧ (((3 : Int32).toInt) = 0 ∨ F0 8 < (x462.toInt)) ∧ (((3 : Int32).toInt) = 2 → 0 ≤ (x115.toInt) ∧ (x115.toInt) ≤ 9) ∧ (0 ≤ ((3 : Int32).toInt) ∧ ((3 : Int32).toInt) ≤ 4) by omega⟩
                · refine k_c2 231 rfl rfl (if_neg b455) ?_
                  have b455 := mt iv_eq.mpr b455
                  refine k_iload 232 rfl gs_eq rfl ?_
                  refine k_push 234 rfl rfl ?_
                  have hc467 : (59 : Int32).toInt = 59 := by decide
                  by_cases b468 : x115 = (59 : Int32)
                  · refine k_c2 249 rfl rfl (if_pos b468) ?_
                    have b468 := iv_eq.mp b468
                    refine k_push 250 rfl rfl ?_
                    have hc469 : (3 : Int32).toInt = 3 := by decide
                    refine k_goto 254 rfl rfl ?_
                    refine r_pI I427 257 rfl rfl rfl (fun h470 I471 => ?_)
                    refine k_aload 258 rfl (gs_ne rfl rfl rfl) rfl ?_
                    refine k_dup 259 rfl rfl rfl ?_
                    refine r_gI I471 262 rfl rfl rfl (fun x472 (e473 : x472.toInt = x99.toInt) => ?_)
                    refine k_push 263 rfl rfl ?_
                    have hc474 : (1 : Int32).toInt = 1 := by decide
                    obtain ⟨x475, q476⟩ : ∃ q : Int32, q = (x472 + (1 : Int32)) := ⟨_, rfl⟩
                    have e477 : x475.toInt = x472.toInt + 1 := by rw [q476, iv_add (by omega) (by omega)]; omega
                    refine k_bin x475 264 rfl q476.symm rfl ?_
                    refine r_pI I471 267 rfl rfl rfl (fun h478 I479 => ?_)
                    exact k_fin rfl rfl ⟨_, _, _, rfl, I479, (fr1.up (by decide) (fr1.up (by decide) (fr1.up (by decide) (fr1.up (by decide) (fr1.up (by decide) fr1.rf))))), fr2.rf, show (F0 8 ≤ (x475.toInt) ∧ (x475.toInt) ≤ F0 7) ∧ (((3 : Int32).toInt) = 0 ∨ F0 8 < (x475.toInt)) ∧ (((3 : Int32).toInt) = 2 → 0 ≤ (x115.toInt) ∧ (x115.toInt) ≤ 9) ∧ (0 ≤ ((3 : Int32).toInt) ∧ ((3 : Int32).toInt) ≤ 4) by omega⟩
                  · refine k_c2 237 rfl rfl (if_neg b468) ?_
                    have b468 := mt iv_eq.mpr b468
                    refine k_iload 238 rfl gs_eq rfl ?_
                    refine k_push 240 rfl rfl ?_
                    have hc480 : (40 : Int32).toInt = 40 := by decide
                    by_cases b481 : x115 = (40 : Int32)
                    · refine k_c2 249 rfl rfl (if_pos b481) ?_
                      have b481 := iv_eq.mp b481
                      refine k_push 250 rfl rfl ?_
                      have hc482 : (3 : Int32).toInt = 3 := by decide
                      refine k_goto 254 rfl rfl ?_
                      refine r_pI I427 257 rfl rfl rfl (fun h483 I484 => ?_)
                      refine k_aload 258 rfl (gs_ne rfl rfl rfl) rfl ?_
                      refine k_dup 259 rfl rfl rfl ?_
                      refine r_gI I484 262 rfl rfl rfl (fun x485 (e486 : x485.toInt = x99.toInt) => ?_)
                      refine k_push 263 rfl rfl ?_
                      have hc487 : (1 : Int32).toInt = 1 := by decide
                      obtain ⟨x488, q489⟩ : ∃ q : Int32, q = (x485 + (1 : Int32)) := ⟨_, rfl⟩
                      have e490 : x488.toInt = x485.toInt + 1 := by rw [q489, iv_add (by omega) (by omega)]; omega
                      refine k_bin x488 264 rfl q489.symm rfl ?_
                      refine r_pI I484 267 rfl rfl rfl (fun h491 I492 => ?_)
                      exact k_fin rfl rfl ⟨_, _, _, rfl, I492, (fr1.up (by decide) (fr1.up (by decide) (fr1.up (by decide) (fr1.up (by decide) (fr1.up (by decide) fr1.rf))))), fr2.rf, show (F0 8 ≤ (x488.toInt) ∧ (x488.toInt) ≤ F0 7) ∧ (((3 : Int32).toInt) = 0 ∨ F0 8 < (x488.toInt)) ∧ (((3 : Int32).toInt) = 2 → 0 ≤ (x115.toInt) ∧ (x115.toInt) ≤ 9) ∧ (0 ≤ ((3 : Int32).toInt) ∧ ((3 : Int32).toInt) ≤ 4) by omega⟩
                    · refine k_c2 243 rfl rfl (if_neg b481) ?_
                      have b481 := mt iv_eq.mpr b481
                      refine k_iload 244 rfl gs_eq rfl ?_
                      refine k_push 246 rfl rfl ?_
                      have hc493 : (41 : Int32).toInt = 41 := by decide
                      by_cases b494 : x115 = (41 : Int32)
                      · refine k_c2 249 rfl rfl (if_pos b494) ?_
                        have b494 := iv_eq.mp b494
                        refine k_push 250 rfl rfl ?_
                        have hc495 : (3 : Int32).toInt = 3 := by decide
                        refine k_goto 254 rfl rfl ?_
                        refine r_pI I427 257 rfl rfl rfl (fun h496 I497 => ?_)
                        refine k_aload 258 rfl (gs_ne rfl rfl rfl) rfl ?_
                        refine k_dup 259 rfl rfl rfl ?_
                        refine r_gI I497 262 rfl rfl rfl (fun x498 (e499 : x498.toInt = x99.toInt) => ?_)
                        refine k_push 263 rfl rfl ?_
                        have hc500 : (1 : Int32).toInt = 1 := by decide
                        obtain ⟨x501, q502⟩ : ∃ q : Int32, q = (x498 + (1 : Int32)) := ⟨_, rfl⟩
                        have e503 : x501.toInt = x498.toInt + 1 := by rw [q502, iv_add (by omega) (by omega)]; omega
                        refine k_bin x501 264 rfl q502.symm rfl ?_
                        refine r_pI I497 267 rfl rfl rfl (fun h504 I505 => ?_)
                        exact k_fin rfl rfl ⟨_, _, _, rfl, I505, (fr1.up (by decide) (fr1.up (by decide) (fr1.up (by decide) (fr1.up (by decide) (fr1.up (by decide) fr1.rf))))), fr2.rf, show (F0 8 ≤ (x501.toInt) ∧ (x501.toInt) ≤ F0 7) ∧ (((3 : Int32).toInt) = 0 ∨ F0 8 < (x501.toInt)) ∧ (((3 : Int32).toInt) = 2 → 0 ≤ (x115.toInt) ∧ (x115.toInt) ≤ 9) ∧ (0 ≤ ((3 : Int32).toInt) ∧ ((3 : Int32).toInt) ≤ 4) by omega⟩
                      · refine k_c2 253 rfl rfl (if_neg b494) ?_
                        have b494 := mt iv_eq.mpr b494
                        refine k_push 254 rfl rfl ?_
                        have hc506 : (4 : Int32).toInt = 4 := by decide
                        refine r_pI I427 257 rfl rfl rfl (fun h507 I508 => ?_)
                        refine k_aload 258 rfl (gs_ne rfl rfl rfl) rfl ?_
                        refine k_dup 259 rfl rfl rfl ?_
                        refine r_gI I508 262 rfl rfl rfl (fun x509 (e510 : x509.toInt = x99.toInt) => ?_)
                        refine k_push 263 rfl rfl ?_
                        have hc511 : (1 : Int32).toInt = 1 := by decide
                        obtain ⟨x512, q513⟩ : ∃ q : Int32, q = (x509 + (1 : Int32)) := ⟨_, rfl⟩
                        have e514 : x512.toInt = x509.toInt + 1 := by rw [q513, iv_add (by omega) (by omega)]; omega
                        refine k_bin x512 264 rfl q513.symm rfl ?_
                        refine r_pI I508 267 rfl rfl rfl (fun h515 I516 => ?_)
                        exact k_fin rfl rfl ⟨_, _, _, rfl, I516, (fr1.up (by decide) (fr1.up (by decide) (fr1.up (by decide) (fr1.up (by decide) (fr1.up (by decide) fr1.rf))))), fr2.rf, show (F0 8 ≤ (x512.toInt) ∧ (x512.toInt) ≤ F0 7) ∧ (((4 : Int32).toInt) = 0 ∨ F0 8 < (x512.toInt)) ∧ (((4 : Int32).toInt) = 2 → 0 ≤ (x115.toInt) ∧ (x115.toInt) ≤ 9) ∧ (0 ≤ ((4 : Int32).toInt) ∧ ((4 : Int32).toInt) ≤ 4) by omega⟩
          · refine k_c2 10 rfl rfl (if_neg b425) ?_
            have b425 := mt iv_lt.mpr b425
            refine k_push 11 rfl rfl ?_
            have hc517 : (1 : Int32).toInt = 1 := by decide
            refine k_goto 15 rfl rfl ?_
            refine k_fin rfl (fin_Z (Or.inr rfl)) ⟨_, _, rfl, rf_len I119 I119, ?_⟩
            show am_Ok _ _ _ (8, _, [.inl (1 : Int32)], _, 0, 0) _
            refine k_fin rfl (fin_Z (Or.inr rfl)) ⟨_, _, rfl, rf_len I119 I119, ?_⟩
            show am_Ok _ _ _ (149, _, [.inl (1 : Int32)], _, 0, 0) _
            refine k_c1 152 rfl rfl (if_neg (by decide)) ?_
            refine k_aload 153 rfl (gs_ne rfl rfl rfl) rfl ?_
            refine k_push 154 rfl rfl ?_
            have hc518 : (2 : Int32).toInt = 2 := by decide
            refine r_pI I119 157 rfl rfl rfl (fun h519 I520 => ?_)
            refine k_aload 158 rfl (gs_ne rfl rfl rfl) rfl ?_
            refine k_iload 159 rfl gs_eq rfl ?_
            refine k_push 161 rfl rfl ?_
            obtain ⟨x521, q522⟩ : ∃ q : Int32, q = (x115 - (48 : Int32)) := ⟨_, rfl⟩
            have e523 : x521.toInt = x115.toInt - 48 := by rw [q522, iv_sub (by omega) (by omega)]; omega
            refine k_bin x521 162 rfl q522.symm rfl ?_
            refine r_pI I520 165 rfl rfl rfl (fun h524 I525 => ?_)
            refine k_aload 166 rfl (gs_ne rfl rfl rfl) rfl ?_
            refine k_push 167 rfl rfl ?_
            refine r_pI I525 170 rfl rfl rfl (fun h526 I527 => ?_)
            exact b_X10_goes_170   p1 _  rfl (gs_ne rfl rfl rfl) gs_eq I527 (fr1.up (by decide) (fr1.up (by decide) (fr1.up (by decide) (fr1.up (by decide) (fr1.up (by decide) fr1.rf))))) fr2.rf (show F0 8 ≤ (x99.toInt) ∧ (x99.toInt) ≤ F0 7 ∧ (F0 8 < (x99.toInt) ∨ ((x99.toInt) < F0 7 ∧ 48 ≤ A0 3 ((x99.toInt)) ∧ A0 3 ((x99.toInt)) ≤ 57)) by omega) (show ((2 : Int32).toInt) = 2 ∧ 0 ≤ (x521.toInt) ∧ (x521.toInt) ≤ 9 by omega)
      · refine k_c2 10 rfl rfl (if_neg b329) ?_
        have b329 := mt iv_lt.mpr b329
        refine k_push 11 rfl rfl ?_
        have hc528 : (1 : Int32).toInt = 1 := by decide
        refine k_goto 15 rfl rfl ?_
        refine k_fin rfl (fin_Z (Or.inr rfl)) ⟨_, _, rfl, rf_len I119 I119, ?_⟩
        show am_Ok _ _ _ (8, _, [.inl (1 : Int32)], _, 0, 0) _
        refine k_fin rfl (fin_Z (Or.inr rfl)) ⟨_, _, rfl, rf_len I119 I119, ?_⟩
        show am_Ok _ _ _ (46, _, [.inl (1 : Int32)], _, 0, 0) _
        refine k_c1 49 rfl rfl (if_neg (by decide)) ?_
        refine k_aload 50 rfl (gs_ne rfl rfl rfl) rfl ?_
        refine k_push 51 rfl rfl ?_
        refine r_pI I119 54 rfl rfl rfl (fun h529 I530 => ?_)
        refine k_aload 55 rfl (gs_ne rfl rfl rfl) rfl ?_
        refine k_push 56 rfl rfl ?_
        refine r_pJ I530 59 rfl rfl rfl (fun h531 I532 => ?_)
        refine k_aload 60 rfl (gs_ne rfl rfl rfl) rfl ?_
        refine k_push 61 rfl rfl ?_
        have hc533 : (0 : Int32).toInt = 0 := by decide
        refine r_pI I532 64 rfl rfl rfl (fun h534 I535 => ?_)
        exact b_X10_goes_64   p1 _  rfl (gs_ne rfl rfl rfl) gs_eq I535 (fr1.up (by decide) (fr1.up (by decide) (fr1.up (by decide) (fr1.up (by decide) fr1.rf)))) fr2.rf (show F0 8 ≤ (x99.toInt) ∧ (x99.toInt) ≤ F0 7 ∧ (F0 8 < (x99.toInt) ∨ ((x99.toInt) < F0 7 ∧ 97 ≤ A0 3 ((x99.toInt)) ∧ A0 3 ((x99.toInt)) ≤ 122)) by omega) (show ((1 : Int32).toInt) = 1 by omega)
theorem m_emits {h0 : am_h} {F0 : rf_f} {A0 : rf_A} {w1 : Int32}  (hR : rf_R h0 F0 A0) (p1 : 0 ≤ F0 23 ∧ F0 23 ≤ 1000000) : am_Mt 1 173 [.inr (.inr (some 81)), .inl w1] h0 (rf_V h0 (fun F' A' => fr1 [23] F0 F' ∧ fr2 [22] A0 A' ∧ ((F0 23 ≤ F' 23 ∧ F' 23 ≤ 1000000) ∧ (F' 23 ≤ 124 → F' 23 = F0 23 + 1) ∧ (F' 23 ≤ 124 → A' 22 (F0 23) = w1.toInt ∧ ∀ q : Int, q ≠ F0 23 → A' 22 q = A0 22 q)))) := by
  refine am_Mt.of (D := 0) ?_
  have hI : rf_I h0 h0 F0 A0 := rf_I.start hR
  refine k_aload 1 rfl rfl rfl ?_
  refine r_gI hI 4 rfl rfl rfl (fun x1 (e2 : x1.toInt = F0 23) => ?_)
  refine k_push 6 rfl rfl ?_
  have hc3 : (124 : Int32).toInt = 124 := by decide
  by_cases b4 : (124 : Int32) ≤ x1
  · refine k_c2 19 rfl rfl (if_pos b4) ?_
    have b4 := iv_le.mp b4
    refine k_aload 20 rfl rfl rfl ?_
    refine k_aload 21 rfl rfl rfl ?_
    refine r_gI hI 24 rfl rfl rfl (fun x5 (e6 : x5.toInt = F0 23) => ?_)
    refine k_push 26 rfl rfl ?_
    have hc7 : (1000000 : Int32).toInt = 1000000 := by decide
    by_cases b8 : (1000000 : Int32) ≤ x5
    · refine k_c2 38 rfl rfl (if_pos b8) ?_
      have b8 := iv_le.mp b8
      refine k_aload 39 rfl rfl rfl ?_
      refine r_gI hI 42 rfl rfl rfl (fun x9 (e10 : x9.toInt = F0 23) => ?_)
      refine r_pI hI 45 rfl rfl rfl (fun h11 I12 => ?_)
      exact k_fin rfl rfl ⟨_, _, _, rfl, I12, (fr1.up (by decide) fr1.rf), fr2.rf, ⟨(show F0 23 ≤ x9.toInt ∧ x9.toInt ≤ 1000000 by omega), (show x9.toInt ≤ 124 → x9.toInt = F0 23 + 1 by omega), fun z => by have z : x9.toInt ≤ 124 := z; exfalso; omega⟩⟩
    · refine k_c2 29 rfl rfl (if_neg b8) ?_
      have b8 := mt iv_le.mpr b8
      refine k_aload 30 rfl rfl rfl ?_
      refine r_gI hI 33 rfl rfl rfl (fun x13 (e14 : x13.toInt = F0 23) => ?_)
      refine k_push 34 rfl rfl ?_
      have hc15 : (1 : Int32).toInt = 1 := by decide
      obtain ⟨x16, q17⟩ : ∃ q : Int32, q = (x13 + (1 : Int32)) := ⟨_, rfl⟩
      have e18 : x16.toInt = x13.toInt + 1 := by rw [q17, iv_add (by omega) (by omega)]; omega
      refine k_bin x16 35 rfl q17.symm rfl ?_
      refine k_goto 42 rfl rfl ?_
      refine r_pI hI 45 rfl rfl rfl (fun h19 I20 => ?_)
      exact k_fin rfl rfl ⟨_, _, _, rfl, I20, (fr1.up (by decide) fr1.rf), fr2.rf, ⟨(show F0 23 ≤ x16.toInt ∧ x16.toInt ≤ 1000000 by omega), (show x16.toInt ≤ 124 → x16.toInt = F0 23 + 1 by omega), fun z => by have z : x16.toInt ≤ 124 := z; exfalso; omega⟩⟩
  · refine k_c2 9 rfl rfl (if_neg b4) ?_
    have b4 := mt iv_le.mpr b4
    refine k_aload 10 rfl rfl rfl ?_
    refine r_gA hI 13 rfl rfl rfl ?_
    refine k_aload 14 rfl rfl rfl ?_
    refine r_gI hI 17 rfl rfl rfl (fun x21 (e22 : x21.toInt = F0 23) => ?_)
    refine k_iload 18 rfl rfl rfl ?_
    refine r_st 22 hI 19 rfl rfl (by omega) (show x21.toInt < 130 by omega) rfl (fun h23 I24 => ?_)
    refine k_aload 20 rfl rfl rfl ?_
    refine k_aload 21 rfl rfl rfl ?_
    refine r_gI I24 24 rfl rfl rfl (fun x25 (e26 : x25.toInt = F0 23) => ?_)
    refine k_push 26 rfl rfl ?_
    have hc27 : (1000000 : Int32).toInt = 1000000 := by decide
    by_cases b28 : (1000000 : Int32) ≤ x25
    · refine k_c2 38 rfl rfl (if_pos b28) ?_
      have b28 := iv_le.mp b28
      refine k_aload 39 rfl rfl rfl ?_
      refine r_gI I24 42 rfl rfl rfl (fun x29 (e30 : x29.toInt = F0 23) => ?_)
      refine r_pI I24 45 rfl rfl rfl (fun h31 I32 => ?_)
      exact k_fin rfl rfl ⟨_, _, _, rfl, I32, (fr1.up (by decide) fr1.rf), (fr2.up (by decide) fr2.rf), ⟨(show F0 23 ≤ x29.toInt ∧ x29.toInt ≤ 1000000 by omega), (show x29.toInt ≤ 124 → x29.toInt = F0 23 + 1 by omega), fun z => ⟨by rw [show F0 23 = x21.toInt by omega]; exact up2_eq, fun q hq => up2_ne (by omega)⟩⟩⟩
    · refine k_c2 29 rfl rfl (if_neg b28) ?_
      have b28 := mt iv_le.mpr b28
      refine k_aload 30 rfl rfl rfl ?_
      refine r_gI I24 33 rfl rfl rfl (fun x33 (e34 : x33.toInt = F0 23) => ?_)
      refine k_push 34 rfl rfl ?_
      have hc35 : (1 : Int32).toInt = 1 := by decide
      obtain ⟨x36, q37⟩ : ∃ q : Int32, q = (x33 + (1 : Int32)) := ⟨_, rfl⟩
      have e38 : x36.toInt = x33.toInt + 1 := by rw [q37, iv_add (by omega) (by omega)]; omega
      refine k_bin x36 35 rfl q37.symm rfl ?_
      refine k_goto 42 rfl rfl ?_
      refine r_pI I24 45 rfl rfl rfl (fun h39 I40 => ?_)
      exact k_fin rfl rfl ⟨_, _, _, rfl, I40, (fr1.up (by decide) fr1.rf), (fr2.up (by decide) fr2.rf), ⟨(show F0 23 ≤ x36.toInt ∧ x36.toInt ≤ 1000000 by omega), (show x36.toInt ≤ 124 → x36.toInt = F0 23 + 1 by omega), fun z => ⟨by rw [show F0 23 = x21.toInt by omega]; exact up2_eq, fun q hq => up2_ne (by omega)⟩⟩⟩
theorem ea_1 {A : rf_A} {t : Int → Int} {Q : Prop} {n x y b : Int} {a : Nat} (h : Q → ∀ q : Int, n < q → q ≤ b → A a q = t (q - 1)) (hm : y = n - 1) (hx : x = t (n - 1)) {i : Int} (hi : i = n) : Q → ∀ q : Int, y < q → q ≤ b → up2 A a i x a q = t (q - 1) := by
  intro z q q1 q2
  by_cases e : q = i
  · rw [e]
    exact up2_eq.trans (hx.trans (by rw [hi]))
  · rw [up2_ne e]
    exact h z q (by omega) q2
theorem b_X10_emitsAhead_19 {h0 : am_h} {F0 : rf_f} {A0 : rf_A} {w1 : Int32} {w2 : Int32}  (p1 : 0 ≤ F0 23 ∧ F0 23 ≤ 1000000) (p2 : 0 ≤ w1.toInt ∧ w1.toInt ≤ F0 23) : ∀ (n : Nat) {lv : am_l} {h : am_h} {F : rf_f} {A : rf_A} {v1 : Int32} {v2 : Int32} {v3 : Int32}, ((v3.toInt).toNat) = n → am_get lv 0 = some (.inr (.inr (some 81))) → am_get lv 1 = some (.inl v1) → am_get lv 2 = some (.inl v2) → am_get lv 3 = some (.inl v3) → rf_I h0 h F A → fr1 [23] F0 F → fr2 [22] A0 A → (v1.toInt = w1.toInt ∧ v2.toInt = w2.toInt) → (0 ≤ v3.toInt ∧ v3.toInt ≤ 123 ∧ (F0 23 ≤ 123 → w1.toInt ≤ v3.toInt ∧ v3.toInt ≤ F0 23)) → (∀ q : Int, q ≤ v3.toInt → A 22 q = A0 22 q) → (F0 23 ≤ 123 → ∀ q : Int, v3.toInt < q → q ≤ F0 23 → A 22 q = A0 22 (q - 1)) → (F 23 = F0 23) → am_Ok am_G 0 174 (19, lv, [], h, 0, 0) (rf_V h0 (fun F' A' => fr1 [23] F0 F' ∧ fr2 [22] A0 A' ∧ ((F0 23 ≤ F' 23 ∧ F' 23 ≤ 1000000) ∧ (F' 23 ≤ 124 → F' 23 = F0 23 + 1) ∧ (F' 23 ≤ 124 → A' 22 w1.toInt = w2.toInt ∧ (∀ q : Int, q < w1.toInt → A' 22 q = A0 22 q) ∧ ∀ q : Int, w1.toInt ≤ q → q < F0 23 → A' 22 (q + 1) = A0 22 q)))) := by
  intro n
  induction n using Nat.strongRecOn with
  | ind n ih =>
    intro lv h F A v1 v2 v3 hn g0 g1 g2 g3 hI hF hA i1 i2 i3 i4 i5
    refine k_iload 20 rfl g3 rfl ?_
    refine k_iload 21 rfl g1 rfl ?_
    by_cases b1 : v3 ≤ v1
    · refine k_c2 44 rfl rfl (if_pos b1) ?_
      have b1 := iv_le.mp b1
      refine k_iload 45 rfl g1 rfl ?_
      refine k_push 47 rfl rfl ?_
      have hc2 : (124 : Int32).toInt = 124 := by decide
      by_cases b3 : (124 : Int32) ≤ v1
      · refine k_c2 57 rfl rfl (if_pos b3) ?_
        have b3 := iv_le.mp b3
        refine k_aload 58 rfl g0 rfl ?_
        refine k_aload 59 rfl g0 rfl ?_
        refine r_gI hI 62 rfl rfl rfl (fun x4 (e5 : x4.toInt = F 23) => ?_)
        refine k_push 64 rfl rfl ?_
        have hc6 : (1000000 : Int32).toInt = 1000000 := by decide
        by_cases b7 : (1000000 : Int32) ≤ x4
        · refine k_c2 76 rfl rfl (if_pos b7) ?_
          have b7 := iv_le.mp b7
          refine k_aload 77 rfl g0 rfl ?_
          refine r_gI hI 80 rfl rfl rfl (fun x8 (e9 : x8.toInt = F 23) => ?_)
          refine r_pI hI 83 rfl rfl rfl (fun h10 I11 => ?_)
          exact k_fin rfl rfl ⟨_, _, _, rfl, I11, (fr1.up (by decide) hF), hA, ⟨(show F0 23 ≤ x8.toInt ∧ x8.toInt ≤ 1000000 by omega), (show x8.toInt ≤ 124 → x8.toInt = F0 23 + 1 by omega), fun z => by have z : x8.toInt ≤ 124 := z; exfalso; omega⟩⟩
        · refine k_c2 67 rfl rfl (if_neg b7) ?_
          have b7 := mt iv_le.mpr b7
          refine k_aload 68 rfl g0 rfl ?_
          refine r_gI hI 71 rfl rfl rfl (fun x12 (e13 : x12.toInt = F 23) => ?_)
          refine k_push 72 rfl rfl ?_
          have hc14 : (1 : Int32).toInt = 1 := by decide
          obtain ⟨x15, q16⟩ : ∃ q : Int32, q = (x12 + (1 : Int32)) := ⟨_, rfl⟩
          have e17 : x15.toInt = x12.toInt + 1 := by rw [q16, iv_add (by omega) (by omega)]; omega
          refine k_bin x15 73 rfl q16.symm rfl ?_
          refine k_goto 80 rfl rfl ?_
          refine r_pI hI 83 rfl rfl rfl (fun h18 I19 => ?_)
          exact k_fin rfl rfl ⟨_, _, _, rfl, I19, (fr1.up (by decide) hF), hA, ⟨(show F0 23 ≤ x15.toInt ∧ x15.toInt ≤ 1000000 by omega), (show x15.toInt ≤ 124 → x15.toInt = F0 23 + 1 by omega), fun z => by have z : x15.toInt ≤ 124 := z; exfalso; omega⟩⟩
      · refine k_c2 50 rfl rfl (if_neg b3) ?_
        have b3 := mt iv_le.mpr b3
        refine k_aload 51 rfl g0 rfl ?_
        refine r_gA hI 54 rfl rfl rfl ?_
        refine k_iload 55 rfl g1 rfl ?_
        refine k_iload 56 rfl g2 rfl ?_
        refine r_st 22 hI 57 rfl rfl (by omega) (show v1.toInt < 130 by omega) rfl (fun h20 I21 => ?_)
        refine k_aload 58 rfl g0 rfl ?_
        refine k_aload 59 rfl g0 rfl ?_
        refine r_gI I21 62 rfl rfl rfl (fun x22 (e23 : x22.toInt = F 23) => ?_)
        refine k_push 64 rfl rfl ?_
        have hc24 : (1000000 : Int32).toInt = 1000000 := by decide
        by_cases b25 : (1000000 : Int32) ≤ x22
        · refine k_c2 76 rfl rfl (if_pos b25) ?_
          have b25 := iv_le.mp b25
          refine k_aload 77 rfl g0 rfl ?_
          refine r_gI I21 80 rfl rfl rfl (fun x26 (e27 : x26.toInt = F 23) => ?_)
          refine r_pI I21 83 rfl rfl rfl (fun h28 I29 => ?_)
          exact k_fin rfl rfl ⟨_, _, _, rfl, I29, (fr1.up (by decide) hF), (fr2.up (by decide) hA), ⟨(show F0 23 ≤ x26.toInt ∧ x26.toInt ≤ 1000000 by omega), (show x26.toInt ≤ 124 → x26.toInt = F0 23 + 1 by omega), fun z => by have z : x26.toInt ≤ 124 := z; exact ⟨by rw [← i1.1, ← i1.2]; exact up2_eq, fun q hq => (up2_ne (by omega)).trans (i3 q (by omega)), fun q q1 q2 => (up2_ne (by omega)).trans ((i4 (by omega) (q + 1) (by omega) (by omega)).trans (congrArg (A0 22) (by omega)))⟩⟩⟩
        · refine k_c2 67 rfl rfl (if_neg b25) ?_
          have b25 := mt iv_le.mpr b25
          refine k_aload 68 rfl g0 rfl ?_
          refine r_gI I21 71 rfl rfl rfl (fun x30 (e31 : x30.toInt = F 23) => ?_)
          refine k_push 72 rfl rfl ?_
          have hc32 : (1 : Int32).toInt = 1 := by decide
          obtain ⟨x33, q34⟩ : ∃ q : Int32, q = (x30 + (1 : Int32)) := ⟨_, rfl⟩
          have e35 : x33.toInt = x30.toInt + 1 := by rw [q34, iv_add (by omega) (by omega)]; omega
          refine k_bin x33 73 rfl q34.symm rfl ?_
          refine k_goto 80 rfl rfl ?_
          refine r_pI I21 83 rfl rfl rfl (fun h36 I37 => ?_)
          exact k_fin rfl rfl ⟨_, _, _, rfl, I37, (fr1.up (by decide) hF), (fr2.up (by decide) hA), ⟨(show F0 23 ≤ x33.toInt ∧ x33.toInt ≤ 1000000 by omega), (show x33.toInt ≤ 124 → x33.toInt = F0 23 + 1 by omega), fun z => by have z : x33.toInt ≤ 124 := z; exact ⟨by rw [← i1.1, ← i1.2]; exact up2_eq, fun q hq => (up2_ne (by omega)).trans (i3 q (by omega)), fun q q1 q2 => (up2_ne (by omega)).trans ((i4 (by omega) (q + 1) (by omega) (by omega)).trans (congrArg (A0 22) (by omega)))⟩⟩⟩
    · refine k_c2 24 rfl rfl (if_neg b1) ?_
      have b1 := mt iv_le.mpr b1
      refine k_aload 25 rfl g0 rfl ?_
      refine r_gA hI 28 rfl rfl rfl ?_
      refine k_iload 29 rfl g3 rfl ?_
      refine k_aload 30 rfl g0 rfl ?_
      refine r_gA hI 33 rfl rfl rfl ?_
      refine k_iload 34 rfl g3 rfl ?_
      refine k_push 35 rfl rfl ?_
      have hc38 : (1 : Int32).toInt = 1 := by decide
      obtain ⟨x39, q40⟩ : ∃ q : Int32, q = (v3 - (1 : Int32)) := ⟨_, rfl⟩
      have e41 : x39.toInt = v3.toInt - 1 := by rw [q40, iv_sub (by omega) (by omega)]; omega
      refine k_bin x39 36 rfl q40.symm rfl ?_
      refine r_ld 22 hI 37 rfl rfl (by omega) (show x39.toInt < 130 by omega) rfl (fun x42 (e43 : x42.toInt = A 22 x39.toInt) => ?_)
      rw [e41] at e43
      have hx9 : x42.toInt = A0 22 (v3.toInt - 1) := by rw [e43, i3 _ (by omega)]
      refine r_st 22 hI 38 rfl rfl (by omega) (show v3.toInt < 130 by omega) rfl (fun h44 I45 => ?_)
      have hc46 : (-1 : Int32).toInt = -1 := by decide
      obtain ⟨x47, q48⟩ : ∃ q : Int32, q = v3 + (-1 : Int32) := ⟨_, rfl⟩
      have e49 : x47.toInt = v3.toInt + -1 := by rw [q48, iv_add (by omega) (by omega)]; omega
      refine k_iinc x47 41 rfl g3 q48.symm rfl ?_
      refine k_goto 19 rfl rfl ?_
      exact ih _ (show ((x47.toInt).toNat) < n by omega)  rfl (gs_ne rfl rfl g0) (gs_ne rfl rfl g1) (gs_ne rfl rfl g2) gs_eq I45 hF (fr2.up (by decide) hA) (show v1.toInt = w1.toInt ∧ v2.toInt = w2.toInt by omega) (show 0 ≤ x47.toInt ∧ x47.toInt ≤ 123 ∧ (F0 23 ≤ 123 → w1.toInt ≤ x47.toInt ∧ x47.toInt ≤ F0 23) by omega) (fun q hq => (up2_ne (by omega)).trans (i3 q (by omega))) (ea_1 i4 (by omega) hx9 rfl) (show (F 23) = F0 23 by omega)
theorem m_emitsAhead {h0 : am_h} {F0 : rf_f} {A0 : rf_A} {w1 : Int32} {w2 : Int32}  (hR : rf_R h0 F0 A0) (p1 : 0 ≤ F0 23 ∧ F0 23 ≤ 1000000) (p2 : 0 ≤ w1.toInt ∧ w1.toInt ≤ F0 23) : am_Mt 1 174 [.inr (.inr (some 81)), .inl w1, .inl w2] h0 (rf_V h0 (fun F' A' => fr1 [23] F0 F' ∧ fr2 [22] A0 A' ∧ ((F0 23 ≤ F' 23 ∧ F' 23 ≤ 1000000) ∧ (F' 23 ≤ 124 → F' 23 = F0 23 + 1) ∧ (F' 23 ≤ 124 → A' 22 w1.toInt = w2.toInt ∧ (∀ q : Int, q < w1.toInt → A' 22 q = A0 22 q) ∧ ∀ q : Int, w1.toInt ≤ q → q < F0 23 → A' 22 (q + 1) = A0 22 q)))) := by
  refine am_Mt.of (D := 0) ?_
  have hI : rf_I h0 h0 F0 A0 := rf_I.start hR
  refine k_aload 1 rfl rfl rfl ?_
  refine r_gI hI 4 rfl rfl rfl (fun x50 (e51 : x50.toInt = F0 23) => ?_)
  refine k_push 6 rfl rfl ?_
  have hc52 : (124 : Int32).toInt = 124 := by decide
  by_cases b53 : (124 : Int32) ≤ x50
  · refine k_c2 16 rfl rfl (if_pos b53) ?_
    have b53 := iv_le.mp b53
    refine k_push 18 rfl rfl ?_
    have hc54 : (123 : Int32).toInt = 123 := by decide
    refine k_istore 19 rfl rfl ?_
    exact b_X10_emitsAhead_19  (w1 := w1) (w2 := w2) p1 p2 _  rfl (gs_ne rfl rfl rfl) (gs_ne rfl rfl rfl) (gs_ne rfl rfl rfl) gs_eq hI fr1.rf fr2.rf (show w1.toInt = w1.toInt ∧ w2.toInt = w2.toInt by omega) (show 0 ≤ (123 : Int32).toInt ∧ (123 : Int32).toInt ≤ 123 ∧ (F0 23 ≤ 123 → w1.toInt ≤ (123 : Int32).toInt ∧ (123 : Int32).toInt ≤ F0 23) by omega) (fun q _ => rfl) (fun z q q1 q2 => by exfalso; omega) (show (F0 23) = F0 23 by omega)
  · refine k_c2 9 rfl rfl (if_neg b53) ?_
    have b53 := mt iv_le.mpr b53
    refine k_aload 10 rfl rfl rfl ?_
    refine r_gI hI 13 rfl rfl rfl (fun x55 (e56 : x55.toInt = F0 23) => ?_)
    refine k_goto 18 rfl rfl ?_
    refine k_istore 19 rfl rfl ?_
    exact b_X10_emitsAhead_19  (w1 := w1) (w2 := w2) p1 p2 _  rfl (gs_ne rfl rfl rfl) (gs_ne rfl rfl rfl) (gs_ne rfl rfl rfl) gs_eq hI fr1.rf fr2.rf (show w1.toInt = w1.toInt ∧ w2.toInt = w2.toInt by omega) (show 0 ≤ x55.toInt ∧ x55.toInt ≤ 123 ∧ (F0 23 ≤ 123 → w1.toInt ≤ x55.toInt ∧ x55.toInt ≤ F0 23) by omega) (fun q _ => rfl) (fun z q q1 q2 => by exfalso; omega) (show (F0 23) = F0 23 by omega)
theorem b_X10_nameOf_2 {h0 : am_h} {F0 : rf_f} {A0 : rf_A} {w1 : Int64}  (p1 : 0 ≤ F0 18 ∧ F0 18 ≤ 12) : ∀ (n : Nat) {lv : am_l} {h : am_h} {F : rf_f} {A : rf_A} {v1 : Int64} {v3 : Int32}, ((12 - v3.toInt).toNat) = n → am_get lv 0 = some (.inr (.inr (some 81))) → am_get lv 1 = some (.inr (.inl v1)) → am_get lv 3 = some (.inl v3) → rf_I h0 h F A → fr1 [] F0 F → fr2 [] A0 A → (0 ≤ v3.toInt ∧ v3.toInt ≤ F0 18) → am_Ok am_G 0 175 (2, lv, [], h, 0, 0) (rf_Q h0 (fun x F' A' => fr1 [] F0 F' ∧ fr2 [] A0 A' ∧ (x = -1 ∨ (0 ≤ x ∧ x < F0 18)))) := by
  intro n
  induction n using Nat.strongRecOn with
  | ind n ih =>
    intro lv h F A v1 v3 hn g0 g1 g3 hI hF hA i1
    refine k_iload 3 rfl g3 rfl ?_
    refine k_aload 4 rfl g0 rfl ?_
    refine r_gI hI 7 rfl rfl rfl (fun x1 (e2 : x1.toInt = F 18) => ?_)
    have e3 : F 18 = F0 18 := hF 18 (by decide)
    by_cases b4 : x1 ≤ v3
    · refine k_c2 29 rfl rfl (if_pos b4) ?_
      have b4 := iv_le.mp b4
      refine k_push 30 rfl rfl ?_
      have hc5 : (-1 : Int32).toInt = -1 := by decide
      exact k_fin rfl rfl ⟨_, _, _, _, rfl, hI, hF, hA, show (-1 : Int32).toInt = -1 ∨ (0 ≤ (-1 : Int32).toInt ∧ (-1 : Int32).toInt < F0 18) by omega⟩
    · refine k_c2 10 rfl rfl (if_neg b4) ?_
      have b4 := mt iv_le.mpr b4
      refine k_aload 11 rfl g0 rfl ?_
      refine r_gA hI 14 rfl rfl rfl ?_
      refine k_iload 15 rfl g3 rfl ?_
      refine r_lld 15 hI 16 rfl rfl (by omega) (show v3.toInt < 12 by omega) rfl (fun x6 => ?_)
      refine k_lload 17 rfl g1 rfl ?_
      refine k_binL 18 rfl rfl ?_
      generalize (lg_cmp x6 v1) = y8
      by_cases b9 : y8 = 0
      · refine k_c1 21 rfl rfl (if_pos b9) ?_
        have b9 := iv_eq0.mp b9
        refine k_iload 22 rfl g3 rfl ?_
        exact k_fin rfl rfl ⟨_, _, _, _, rfl, hI, hF, hA, show v3.toInt = -1 ∨ (0 ≤ v3.toInt ∧ v3.toInt < F0 18) by omega⟩
      · refine k_c1 23 rfl rfl (if_neg b9) ?_
        have b9 := mt iv_eq0.mpr b9
        have hc10 : (1 : Int32).toInt = 1 := by decide
        obtain ⟨x11, q12⟩ : ∃ q : Int32, q = v3 + (1 : Int32) := ⟨_, rfl⟩
        have e13 : x11.toInt = v3.toInt + 1 := by rw [q12, iv_add (by omega) (by omega)]; omega
        refine k_iinc x11 26 rfl g3 q12.symm rfl ?_
        refine k_goto 2 rfl rfl ?_
        exact ih _ (show ((12 - x11.toInt).toNat) < n by omega)  rfl (gs_ne rfl rfl g0) (gs_ne rfl rfl g1) gs_eq hI hF hA (show 0 ≤ x11.toInt ∧ x11.toInt ≤ F0 18 by omega)
theorem m_nameOf {h0 : am_h} {F0 : rf_f} {A0 : rf_A} {w1 : Int64}  (hR : rf_R h0 F0 A0) (p1 : 0 ≤ F0 18 ∧ F0 18 ≤ 12) : am_Mt 1 175 [.inr (.inr (some 81)), .inr (.inl w1)] h0 (rf_Q h0 (fun x F' A' => fr1 [] F0 F' ∧ fr2 [] A0 A' ∧ (x = -1 ∨ (0 ≤ x ∧ x < F0 18)))) := by
  refine am_Mt.of (D := 0) ?_
  have hI : rf_I h0 h0 F0 A0 := rf_I.start hR
  refine k_push 1 rfl rfl ?_
  have hc14 : (0 : Int32).toInt = 0 := by decide
  refine k_istore 2 rfl rfl ?_
  exact b_X10_nameOf_2  (w1 := w1) p1 _  rfl (gs_ne rfl rfl rfl) (gs_ne rfl rfl rfl) gs_eq hI fr1.rf fr2.rf (show 0 ≤ (0 : Int32).toInt ∧ (0 : Int32).toInt ≤ F0 18 by omega)
theorem pi_1 {u v t P : Int → Int} {a b m s x y : Int} (h : (∀ k : Int, 0 ≤ k → k < m → v (a + k) = P (s + k)) ∧ ∀ q : Int, q < a → v q = t q) (h1 : u b = x ∧ ∀ q : Int, q ≠ b → u q = v q) (hb : b = a + m) (hm : 0 ≤ m) (hx : x = P (s + m)) (hy : y = m + 1) : (∀ k : Int, 0 ≤ k → k < y → u (a + k) = P (s + k)) ∧ ∀ q : Int, q < a → u q = t q := by
  subst hy
  refine ⟨fun k k1 k2 => ?_, fun q hq => by rw [h1.2 q (by omega)]; exact h.2 q hq⟩
  by_cases e : k = m
  · rw [e, ← hb, h1.1]
    exact hx
  · rw [h1.2 _ (by omega)]
    exact h.1 k k1 (by omega)
theorem b_X10_putsIn_44 {h0 : am_h} {F0 : rf_f} {A0 : rf_A} {w1 : Int32}  (p1 : 0 ≤ F0 23 ∧ F0 23 ≤ 1000000) (p2 : 0 ≤ w1.toInt ∧ w1.toInt < 12 ∧ 0 ≤ A0 17 w1.toInt ∧ A0 17 w1.toInt ≤ 1000000) : ∀ (n : Nat) {lv : am_l} {h : am_h} {F : rf_f} {A : rf_A} {v1 : Int32} {v2 : Int32} {v3 : Int32}, ((1000000 - v3.toInt).toNat) = n → am_get lv 0 = some (.inr (.inr (some 81))) → am_get lv 1 = some (.inl v1) → am_get lv 2 = some (.inl v2) → am_get lv 3 = some (.inl v3) → rf_I h0 h F A → fr1 [23] F0 F → fr2 [22] A0 A → (v1.toInt = w1.toInt ∧ v2.toInt = A0 17 w1.toInt ∧ 124 ≤ v3.toInt) → (F0 23 ≤ F 23 ∧ F 23 ≤ 1000000 ∧ (v2.toInt ≤ 124 → F 23 ≤ 124 → F 23 = F0 23 + A0 17 w1.toInt) ∧ (124 < v2.toInt → 124 ≤ F 23 ∧ (124 < v3.toInt → 124 < F 23))) → (v2.toInt ≤ 124 → F 23 ≤ 124 → (∀ k : Int, 0 ≤ k → k < A0 17 w1.toInt → A 22 (F0 23 + k) = A0 16 (124 * w1.toInt + k)) ∧ ∀ q : Int, q < F0 23 → A 22 q = A0 22 q) → am_Ok am_G 1 176 (44, lv, [], h, 0, 0) (rf_V h0 (fun F' A' => fr1 [23] F0 F' ∧ fr2 [22] A0 A' ∧ ((F0 23 ≤ F' 23 ∧ F' 23 ≤ 1000000) ∧ (F' 23 ≤ 124 → F' 23 = F0 23 + A0 17 w1.toInt) ∧ (F' 23 ≤ 124 → (∀ k : Int, 0 ≤ k → k < A0 17 w1.toInt → A' 22 (F0 23 + k) = A0 16 (124 * w1.toInt + k)) ∧ ∀ q : Int, q < F0 23 → A' 22 q = A0 22 q)))) := by
  intro n
  induction n using Nat.strongRecOn with
  | ind n ih =>
    intro lv h F A v1 v2 v3 hn g0 g1 g2 g3 hI hF hA i1 i2 i3
    refine k_iload 45 rfl g3 rfl ?_
    refine k_iload 46 rfl g2 rfl ?_
    by_cases b1 : v2 ≤ v3
    · refine k_c2 81 rfl rfl (if_pos b1) ?_
      have b1 := iv_le.mp b1
      exact k_fin rfl rfl ⟨_, _, _, rfl, hI, hF, hA, ⟨(show F0 23 ≤ F 23 ∧ F 23 ≤ 1000000 by omega), (show F 23 ≤ 124 → F 23 = F0 23 + A0 17 w1.toInt by omega), fun z => i3 (by have z9 : F 23 ≤ 124 := z; omega) z⟩⟩
    · refine k_c2 49 rfl rfl (if_neg b1) ?_
      have b1 := mt iv_le.mpr b1
      refine k_aload 50 rfl g0 rfl ?_
      refine k_aload 51 rfl g0 rfl ?_
      refine r_gI hI 54 rfl rfl rfl (fun x2 (e3 : x2.toInt = F 23) => ?_)
      refine k_push 56 rfl rfl ?_
      have hc4 : (1000000 : Int32).toInt = 1000000 := by decide
      by_cases b5 : (1000000 : Int32) ≤ x2
      · refine k_c2 68 rfl rfl (if_pos b5) ?_
        have b5 := iv_le.mp b5
        refine k_aload 69 rfl g0 rfl ?_
        refine r_gI hI 72 rfl rfl rfl (fun x6 (e7 : x6.toInt = F 23) => ?_)
        refine r_pI hI 75 rfl rfl rfl (fun h8 I9 => ?_)
        have hc10 : (1 : Int32).toInt = 1 := by decide
        obtain ⟨x11, q12⟩ : ∃ q : Int32, q = v3 + (1 : Int32) := ⟨_, rfl⟩
        have e13 : x11.toInt = v3.toInt + 1 := by rw [q12, iv_add (by omega) (by omega)]; omega
        refine k_iinc x11 78 rfl g3 q12.symm rfl ?_
        refine k_goto 44 rfl rfl ?_
        exact ih _ (show ((1000000 - x11.toInt).toNat) < n by omega)  rfl (gs_ne rfl rfl g0) (gs_ne rfl rfl g1) (gs_ne rfl rfl g2) gs_eq I9 (fr1.up (by decide) hF) hA (show v1.toInt = w1.toInt ∧ v2.toInt = A0 17 w1.toInt ∧ 124 ≤ x11.toInt by omega) (show F0 23 ≤ (x6.toInt) ∧ (x6.toInt) ≤ 1000000 ∧ (v2.toInt ≤ 124 → (x6.toInt) ≤ 124 → (x6.toInt) = F0 23 + A0 17 w1.toInt) ∧ (124 < v2.toInt → 124 ≤ (x6.toInt) ∧ (124 < x11.toInt → 124 < (x6.toInt))) by omega) (fun z8 z => i3 z8 (by have z9 : x6.toInt ≤ 124 := z; omega))
      · refine k_c2 59 rfl rfl (if_neg b5) ?_
        have b5 := mt iv_le.mpr b5
        refine k_aload 60 rfl g0 rfl ?_
        refine r_gI hI 63 rfl rfl rfl (fun x14 (e15 : x14.toInt = F 23) => ?_)
        refine k_push 64 rfl rfl ?_
        have hc16 : (1 : Int32).toInt = 1 := by decide
        obtain ⟨x17, q18⟩ : ∃ q : Int32, q = (x14 + (1 : Int32)) := ⟨_, rfl⟩
        have e19 : x17.toInt = x14.toInt + 1 := by rw [q18, iv_add (by omega) (by omega)]; omega
        refine k_bin x17 65 rfl q18.symm rfl ?_
        refine k_goto 72 rfl rfl ?_
        refine r_pI hI 75 rfl rfl rfl (fun h20 I21 => ?_)
        obtain ⟨x22, q23⟩ : ∃ q : Int32, q = v3 + (1 : Int32) := ⟨_, rfl⟩
        have e24 : x22.toInt = v3.toInt + 1 := by rw [q23, iv_add (by omega) (by omega)]; omega
        refine k_iinc x22 78 rfl g3 q23.symm rfl ?_
        refine k_goto 44 rfl rfl ?_
        exact ih _ (show ((1000000 - x22.toInt).toNat) < n by omega)  rfl (gs_ne rfl rfl g0) (gs_ne rfl rfl g1) (gs_ne rfl rfl g2) gs_eq I21 (fr1.up (by decide) hF) hA (show v1.toInt = w1.toInt ∧ v2.toInt = A0 17 w1.toInt ∧ 124 ≤ x22.toInt by omega) (show F0 23 ≤ (x17.toInt) ∧ (x17.toInt) ≤ 1000000 ∧ (v2.toInt ≤ 124 → (x17.toInt) ≤ 124 → (x17.toInt) = F0 23 + A0 17 w1.toInt) ∧ (124 < v2.toInt → 124 ≤ (x17.toInt) ∧ (124 < x22.toInt → 124 < (x17.toInt))) by omega) (fun z8 z => i3 z8 (by have z9 : x17.toInt ≤ 124 := z; omega))
theorem b_X10_putsIn_9 {h0 : am_h} {F0 : rf_f} {A0 : rf_A} {w1 : Int32}  (p1 : 0 ≤ F0 23 ∧ F0 23 ≤ 1000000) (p2 : 0 ≤ w1.toInt ∧ w1.toInt < 12 ∧ 0 ≤ A0 17 w1.toInt ∧ A0 17 w1.toInt ≤ 1000000) : ∀ (n : Nat) {lv : am_l} {h : am_h} {F : rf_f} {A : rf_A} {v1 : Int32} {v2 : Int32} {v3 : Int32}, ((124 - v3.toInt).toNat) = n → am_get lv 0 = some (.inr (.inr (some 81))) → am_get lv 1 = some (.inl v1) → am_get lv 2 = some (.inl v2) → am_get lv 3 = some (.inl v3) → rf_I h0 h F A → fr1 [23] F0 F → fr2 [22] A0 A → (v1.toInt = w1.toInt ∧ v2.toInt = A0 17 w1.toInt ∧ 0 ≤ v3.toInt ∧ v3.toInt ≤ 124 ∧ v3.toInt ≤ v2.toInt) → (F0 23 ≤ F 23 ∧ F 23 ≤ 1000000 ∧ (F 23 ≤ 124 → F 23 = F0 23 + v3.toInt)) → (F 23 ≤ 124 → (∀ k : Int, 0 ≤ k → k < v3.toInt → A 22 (F0 23 + k) = A0 16 (124 * w1.toInt + k)) ∧ ∀ q : Int, q < F0 23 → A 22 q = A0 22 q) → am_Ok am_G 1 176 (9, lv, [], h, 0, 0) (rf_V h0 (fun F' A' => fr1 [23] F0 F' ∧ fr2 [22] A0 A' ∧ ((F0 23 ≤ F' 23 ∧ F' 23 ≤ 1000000) ∧ (F' 23 ≤ 124 → F' 23 = F0 23 + A0 17 w1.toInt) ∧ (F' 23 ≤ 124 → (∀ k : Int, 0 ≤ k → k < A0 17 w1.toInt → A' 22 (F0 23 + k) = A0 16 (124 * w1.toInt + k)) ∧ ∀ q : Int, q < F0 23 → A' 22 q = A0 22 q)))) := by
  intro n
  induction n using Nat.strongRecOn with
  | ind n ih =>
    intro lv h F A v1 v2 v3 hn g0 g1 g2 g3 hI hF hA i1 i2 i3
    refine k_iload 10 rfl g3 rfl ?_
    refine k_iload 11 rfl g2 rfl ?_
    by_cases b25 : v2 ≤ v3
    · refine k_c2 41 rfl rfl (if_pos b25) ?_
      have b25 := iv_le.mp b25
      refine k_push 43 rfl rfl ?_
      have hc26 : (124 : Int32).toInt = 124 := by decide
      refine k_istore 44 rfl rfl ?_
      exact b_X10_putsIn_44  (w1 := w1) p1 p2 _  rfl (gs_ne rfl rfl g0) (gs_ne rfl rfl g1) (gs_ne rfl rfl g2) gs_eq hI hF hA (show v1.toInt = w1.toInt ∧ v2.toInt = A0 17 w1.toInt ∧ 124 ≤ (124 : Int32).toInt by omega) (show F0 23 ≤ (F 23) ∧ (F 23) ≤ 1000000 ∧ (v2.toInt ≤ 124 → (F 23) ≤ 124 → (F 23) = F0 23 + A0 17 w1.toInt) ∧ (124 < v2.toInt → 124 ≤ (F 23) ∧ (124 < (124 : Int32).toInt → 124 < (F 23))) by omega) (fun z8 z => by have z9 : F 23 ≤ 124 := z; rw [show A0 17 w1.toInt = v3.toInt by omega]; exact i3 z9)
    · refine k_c2 14 rfl rfl (if_neg b25) ?_
      have b25 := mt iv_le.mpr b25
      refine k_iload 15 rfl g3 rfl ?_
      refine k_push 17 rfl rfl ?_
      have hc27 : (124 : Int32).toInt = 124 := by decide
      by_cases b28 : (124 : Int32) ≤ v3
      · refine k_c2 41 rfl rfl (if_pos b28) ?_
        have b28 := iv_le.mp b28
        refine k_push 43 rfl rfl ?_
        refine k_istore 44 rfl rfl ?_
        exact b_X10_putsIn_44  (w1 := w1) p1 p2 _  rfl (gs_ne rfl rfl g0) (gs_ne rfl rfl g1) (gs_ne rfl rfl g2) gs_eq hI hF hA (show v1.toInt = w1.toInt ∧ v2.toInt = A0 17 w1.toInt ∧ 124 ≤ (124 : Int32).toInt by omega) (show F0 23 ≤ (F 23) ∧ (F 23) ≤ 1000000 ∧ (v2.toInt ≤ 124 → (F 23) ≤ 124 → (F 23) = F0 23 + A0 17 w1.toInt) ∧ (124 < v2.toInt → 124 ≤ (F 23) ∧ (124 < (124 : Int32).toInt → 124 < (F 23))) by omega) (fun z8 z => by have z9 : F 23 ≤ 124 := z; rw [show A0 17 w1.toInt = v3.toInt by omega]; exact i3 z9)
      · refine k_c2 20 rfl rfl (if_neg b28) ?_
        have b28 := mt iv_le.mpr b28
        refine k_aload 21 rfl g0 rfl ?_
        refine k_aload 22 rfl g0 rfl ?_
        refine r_gA hI 25 rfl rfl rfl ?_
        refine k_push 27 rfl rfl ?_
        refine k_iload 28 rfl g1 rfl ?_
        obtain ⟨x29, q30⟩ : ∃ q : Int32, q = ((124 : Int32) * v1) := ⟨_, rfl⟩
        have e31 : x29.toInt = 124 * v1.toInt := by rw [q30]; exact iv_mulc 124 (by decide) (by omega) (by omega)
        refine k_bin x29 29 rfl q30.symm rfl ?_
        refine k_iload 30 rfl g3 rfl ?_
        obtain ⟨x32, q33⟩ : ∃ q : Int32, q = (x29 + v3) := ⟨_, rfl⟩
        have e34 : x32.toInt = x29.toInt + v3.toInt := by rw [q33, iv_add (by omega) (by omega)]
        refine k_bin x32 31 rfl q33.symm rfl ?_
        refine r_ld 16 hI 32 rfl rfl (by omega) (show x32.toInt < 1488 by omega) rfl (fun x35 (e36 : x35.toInt = A 16 x32.toInt) => ?_)
        rw [e34] at e36
        rw [e31] at e36
        have e37 : A 16 = A0 16 := hA 16 (by decide)
        rw [e37] at e36
        have hx9 : x35.toInt = A0 16 (124 * w1.toInt + v3.toInt) := by rw [e36, i1.1]
        refine k_rv hI rfl (m_emits  hI.1 (show 0 ≤ (F 23) ∧ (F 23) ≤ 1000000 by omega)) rfl rfl rfl hI.rc ?_
        rintro h39 F40 A41 I42 ⟨k44, k45, p43⟩
        replace p43 : ((F 23) ≤ F40 23 ∧ F40 23 ≤ 1000000) ∧ (F40 23 ≤ 124 → F40 23 = (F 23) + 1) ∧ (F40 23 ≤ 124 → A41 22 ((F 23)) = x35.toInt ∧ ∀ q : Int, q ≠ (F 23) → A41 22 q = (A 22) q) := p43
        obtain ⟨p43a, p43b, p43c⟩ := p43
        show am_Ok _ _ _ (35, _, [], _, 0, 0) _
        have hc46 : (1 : Int32).toInt = 1 := by decide
        obtain ⟨x47, q48⟩ : ∃ q : Int32, q = v3 + (1 : Int32) := ⟨_, rfl⟩
        have e49 : x47.toInt = v3.toInt + 1 := by rw [q48, iv_add (by omega) (by omega)]; omega
        refine k_iinc x47 38 rfl g3 q48.symm rfl ?_
        refine k_goto 9 rfl rfl ?_
        exact ih _ (show ((124 - x47.toInt).toNat) < n by omega)  rfl (gs_ne rfl rfl g0) (gs_ne rfl rfl g1) (gs_ne rfl rfl g2) gs_eq I42 (fr1.tr (by decide) hF k44) (fr2.tr (by decide) hA k45) (show v1.toInt = w1.toInt ∧ v2.toInt = A0 17 w1.toInt ∧ 0 ≤ x47.toInt ∧ x47.toInt ≤ 124 ∧ x47.toInt ≤ v2.toInt by omega) (show F0 23 ≤ (F40 23) ∧ (F40 23) ≤ 1000000 ∧ ((F40 23) ≤ 124 → (F40 23) = F0 23 + x47.toInt) by omega) (fun z => by have z9 : F40 23 ≤ 124 := z; exact pi_1 (i3 (by omega)) (p43c z9) (by omega) (by omega) hx9 (by omega))
theorem m_putsIn {h0 : am_h} {F0 : rf_f} {A0 : rf_A} {w1 : Int32}  (hR : rf_R h0 F0 A0) (p1 : 0 ≤ F0 23 ∧ F0 23 ≤ 1000000) (p2 : 0 ≤ w1.toInt ∧ w1.toInt < 12 ∧ 0 ≤ A0 17 w1.toInt ∧ A0 17 w1.toInt ≤ 1000000) : am_Mt 2 176 [.inr (.inr (some 81)), .inl w1] h0 (rf_V h0 (fun F' A' => fr1 [23] F0 F' ∧ fr2 [22] A0 A' ∧ ((F0 23 ≤ F' 23 ∧ F' 23 ≤ 1000000) ∧ (F' 23 ≤ 124 → F' 23 = F0 23 + A0 17 w1.toInt) ∧ (F' 23 ≤ 124 → (∀ k : Int, 0 ≤ k → k < A0 17 w1.toInt → A' 22 (F0 23 + k) = A0 16 (124 * w1.toInt + k)) ∧ ∀ q : Int, q < F0 23 → A' 22 q = A0 22 q)))) := by
  refine am_Mt.of (D := 1) ?_
  have hI : rf_I h0 h0 F0 A0 := rf_I.start hR
  refine k_aload 1 rfl rfl rfl ?_
  refine r_gA hI 4 rfl rfl rfl ?_
  refine k_iload 5 rfl rfl rfl ?_
  refine r_ld 17 hI 6 rfl rfl (by omega) (show w1.toInt < 12 by omega) rfl (fun x50 (e51 : x50.toInt = A0 17 w1.toInt) => ?_)
  refine k_istore 7 rfl rfl ?_
  refine k_push 8 rfl rfl ?_
  have hc52 : (0 : Int32).toInt = 0 := by decide
  refine k_istore 9 rfl rfl ?_
  exact b_X10_putsIn_9  (w1 := w1) p1 p2 _  rfl (gs_ne rfl rfl (gs_ne rfl rfl rfl)) (gs_ne rfl rfl (gs_ne rfl rfl rfl)) (gs_ne rfl rfl gs_eq) gs_eq hI fr1.rf fr2.rf (show w1.toInt = w1.toInt ∧ x50.toInt = A0 17 w1.toInt ∧ 0 ≤ (0 : Int32).toInt ∧ (0 : Int32).toInt ≤ 124 ∧ (0 : Int32).toInt ≤ x50.toInt by omega) (show F0 23 ≤ (F0 23) ∧ (F0 23) ≤ 1000000 ∧ ((F0 23) ≤ 124 → (F0 23) = F0 23 + (0 : Int32).toInt) by omega) (fun z => ⟨fun k k1 k2 => absurd k2 (by omega), fun q _ => rfl⟩)
end
