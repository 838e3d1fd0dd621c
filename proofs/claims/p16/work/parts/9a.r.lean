section
theorem m_byteAt {h0 : am_h} {F0 : rf_f} {A0 : rf_A} {w1 : Int32}  (hR : rf_R h0 F0 A0) (p1 : 0 ≤ w1.toInt ∧ F0 7 ≤ 700) : am_Mt 1 164 [.inr (.inr (some 81)), .inl w1] h0 (rf_Q h0 (fun x F' A' => fr1 [] F0 F' ∧ fr2 [] A0 A' ∧ ((w1.toInt < F0 7 ∧ x = A0 3 w1.toInt) ∨ (F0 7 ≤ w1.toInt ∧ x = -1)))) := by
  refine am_Mt.of (D := 0) ?_
  have hI : rf_I h0 h0 F0 A0 := rf_I.start hR
  refine k_iload 1 rfl rfl rfl ?_
  refine k_aload 2 rfl rfl rfl ?_
  refine r_gI hI 5 rfl rfl rfl (fun x1 (e2 : x1.toInt = F0 7) => ?_)
  by_cases b3 : x1 ≤ w1
  · refine k_c2 17 rfl rfl (if_pos b3) ?_
    have b3 := iv_le.mp b3
    refine k_push 18 rfl rfl ?_
    have hc4 : (-1 : Int32).toInt = -1 := by decide
    exact k_fin rfl rfl ⟨_, _, _, _, rfl, hI, fr1.rf, fr2.rf, show (w1.toInt < F0 7 ∧ (-1 : Int32).toInt = A0 3 w1.toInt) ∨ (F0 7 ≤ w1.toInt ∧ (-1 : Int32).toInt = -1) by omega⟩
  · refine k_c2 8 rfl rfl (if_neg b3) ?_
    have b3 := mt iv_le.mpr b3
    refine k_aload 9 rfl rfl rfl ?_
    refine r_gA hI 12 rfl rfl rfl ?_
    refine k_iload 13 rfl rfl rfl ?_
    refine r_ld 3 hI 14 rfl rfl (by omega) (show w1.toInt < 700 by omega) rfl (fun x5 (e6 : x5.toInt = A0 3 w1.toInt) => ?_)
    refine k_goto 18 rfl rfl ?_
    exact k_fin rfl rfl ⟨_, _, _, _, rfl, hI, fr1.rf, fr2.rf, show (w1.toInt < F0 7 ∧ x5.toInt = A0 3 w1.toInt) ∨ (F0 7 ≤ w1.toInt ∧ x5.toInt = -1) by omega⟩
theorem b_X10_blanksFrom_2 {h0 : am_h} {F0 : rf_f} {A0 : rf_A} {w1 : Int32} {tx : List Int} (p1 : 0 ≤ w1.toInt ∧ w1.toInt ≤ F0 7 ∧ F0 7 ≤ 700) (pT : TP tx (F0 7) (A0 3)) : ∀ (n : Nat) {lv : am_l} {h : am_h} {F : rf_f} {A : rf_A} {v1 : Int32} {v2 : Int32}, ((701 - v2.toInt).toNat) = n → am_get lv 0 = some (.inr (.inr (some 81))) → am_get lv 1 = some (.inl v1) → am_get lv 2 = some (.inl v2) → rf_I h0 h F A → fr1 [] F0 F → fr2 [] A0 A → (w1.toInt ≤ v2.toInt ∧ v2.toInt ≤ F0 7) → (tS tx v2.toInt = tS tx w1.toInt) → am_Ok am_G 1 167 (2, lv, [], h, 0, 0) (rf_Q h0 (fun x F' A' => fr1 [] F0 F' ∧ fr2 [] A0 A' ∧ ((w1.toInt ≤ x ∧ x ≤ F0 7) ∧ x = tS tx w1.toInt))) := by
  intro n
  induction n using Nat.strongRecOn with
  | ind n ih =>
    intro lv h F A v1 v2 hn g0 g1 g2 hI hF hA i1 i2
    refine k_aload 3 rfl g0 rfl ?_
    refine k_iload 4 rfl g2 rfl ?_
    have e1 : F 7 = F0 7 := hF 7 (by decide)
    refine k_rq hI rfl (m_byteAt  hI.1 (show 0 ≤ v2.toInt ∧ (F 7) ≤ 700 by omega)) rfl rfl rfl hI.rc ?_
    rintro x2 h3 F4 A5 I6 ⟨k8, k9, pq7⟩
    replace pq7 : (v2.toInt < (F 7) ∧ x2.toInt = (A 3) v2.toInt) ∨ ((F 7) ≤ v2.toInt ∧ x2.toInt = -1) := pq7
    have k8 := fr1.nil k8
    subst k8
    have k9 := fr2.nil k9
    subst k9
    show am_Ok _ _ _ (7, _, [.inl x2], _, 0, 0) _
    rw [hA 3 (by decide)] at pq7
    refine k_push 9 rfl rfl ?_
    have hc10 : (32 : Int32).toInt = 32 := by decide
    by_cases b11 : x2 = (32 : Int32)
    · refine k_c2 22 rfl rfl (if_pos b11) ?_
      have b11 := iv_eq.mp b11
      have hc12 : (1 : Int32).toInt = 1 := by decide
      obtain ⟨x13, q14⟩ : ∃ q : Int32, q = v2 + (1 : Int32) := ⟨_, rfl⟩
      have e15 : x13.toInt = v2.toInt + 1 := by rw [q14, iv_add (by omega) (by omega)]; omega
      refine k_iinc x13 25 rfl g2 q14.symm rfl ?_
      refine k_goto 2 rfl rfl ?_
      exact ih _ (show ((701 - x13.toInt).toNat) < n by omega)  rfl (gs_ne rfl rfl g0) (gs_ne rfl rfl g1) gs_eq I6 hF hA (show w1.toInt ≤ x13.toInt ∧ x13.toInt ≤ F0 7 by omega) ((tS_n pT (q := v2.toInt) (by omega) (by omega) (by omega) (by omega)).trans i2)
    · refine k_c2 12 rfl rfl (if_neg b11) ?_
      have b11 := mt iv_eq.mpr b11
      refine k_aload 13 rfl g0 rfl ?_
      refine k_iload 14 rfl g2 rfl ?_
      refine k_rq I6 rfl (m_byteAt  I6.1 (show 0 ≤ v2.toInt ∧ (F 7) ≤ 700 by omega)) rfl rfl rfl I6.rc ?_
      rintro x16 h17 F18 A19 I20 ⟨k22, k23, pq21⟩
      replace pq21 : (v2.toInt < (F 7) ∧ x16.toInt = (A 3) v2.toInt) ∨ ((F 7) ≤ v2.toInt ∧ x16.toInt = -1) := pq21
      have k22 := fr1.nil k22
      subst k22
      have k23 := fr2.nil k23
      subst k23
      show am_Ok _ _ _ (17, _, [.inl x16], _, 0, 0) _
      rw [hA 3 (by decide)] at pq21
      refine k_push 19 rfl rfl ?_
      have hc24 : (10 : Int32).toInt = 10 := by decide
      by_cases b25 : x16 = (10 : Int32)
      · refine k_c2 22 rfl rfl (if_pos b25) ?_
        have b25 := iv_eq.mp b25
        have hc26 : (1 : Int32).toInt = 1 := by decide
        obtain ⟨x27, q28⟩ : ∃ q : Int32, q = v2 + (1 : Int32) := ⟨_, rfl⟩
        have e29 : x27.toInt = v2.toInt + 1 := by rw [q28, iv_add (by omega) (by omega)]; omega
        refine k_iinc x27 25 rfl g2 q28.symm rfl ?_
        refine k_goto 2 rfl rfl ?_
        exact ih _ (show ((701 - x27.toInt).toNat) < n by omega)  rfl (gs_ne rfl rfl g0) (gs_ne rfl rfl g1) gs_eq I20 hF hA (show w1.toInt ≤ x27.toInt ∧ x27.toInt ≤ F0 7 by omega) ((tS_n pT (q := v2.toInt) (by omega) (by omega) (by omega) (by omega)).trans i2)
      · refine k_c2 28 rfl rfl (if_neg b25) ?_
        have b25 := mt iv_eq.mpr b25
        refine k_iload 29 rfl g2 rfl ?_
        exact k_fin rfl rfl ⟨_, _, _, _, rfl, I20, hF, hA, ⟨by omega, (tS_q pT (by omega) (fun z => by omega)).symm.trans i2⟩⟩
theorem m_blanksFrom {h0 : am_h} {F0 : rf_f} {A0 : rf_A} {w1 : Int32} {tx : List Int} (hR : rf_R h0 F0 A0) (p1 : 0 ≤ w1.toInt ∧ w1.toInt ≤ F0 7 ∧ F0 7 ≤ 700) (pT : TP tx (F0 7) (A0 3)) : am_Mt 2 167 [.inr (.inr (some 81)), .inl w1] h0 (rf_Q h0 (fun x F' A' => fr1 [] F0 F' ∧ fr2 [] A0 A' ∧ ((w1.toInt ≤ x ∧ x ≤ F0 7) ∧ x = tS tx w1.toInt))) := by
  refine am_Mt.of (D := 1) ?_
  have hI : rf_I h0 h0 F0 A0 := rf_I.start hR
  refine k_iload 1 rfl rfl rfl ?_
  refine k_istore 2 rfl rfl ?_
  exact b_X10_blanksFrom_2 (tx := tx) (w1 := w1) p1 pT _  rfl (gs_ne rfl rfl rfl) (gs_ne rfl rfl rfl) gs_eq hI fr1.rf fr2.rf (show w1.toInt ≤ w1.toInt ∧ w1.toInt ≤ F0 7 by omega) (rfl)
theorem b_X10_goes_170 {h0 : am_h} {F0 : rf_f} {A0 : rf_A} {tx : List Int} (p1 : 0 ≤ F0 8 ∧ F0 8 ≤ F0 7 ∧ F0 7 ≤ 700) (pT : TP tx (F0 7) (A0 3)) : ∀ (n : Nat) {lv : am_l} {h : am_h} {F : rf_f} {A : rf_A} {v1 : Int32}, ((701 - F 8).toNat) = n → am_get lv 0 = some (.inr (.inr (some 81))) → am_get lv 1 = some (.inl v1) → rf_I h0 h F A → fr1 [8, 10, 9, 14, 11, 12, 13] F0 F → fr2 [] A0 A → (F0 8 ≤ F 8 ∧ F 8 ≤ F0 7 ∧ (F0 8 < F 8 ∨ (F 8 < F0 7 ∧ 48 ≤ A0 3 (F 8) ∧ A0 3 (F 8) ≤ 57))) → (F 9 = 2 ∧ 0 ≤ F 11 ∧ F 11 ≤ 9 ∧ F 11 = A0 3 (F 10) - 48) → (FL tx (F 10) (F 8) (F 12)) → (F 10 = tS tx (F0 8) ∧ 0 ≤ F 10 ∧ F 10 < F0 7 ∧ 48 ≤ A0 3 (F 10) ∧ A0 3 (F 10) ≤ 57) → am_Ok am_G 2 168 (170, lv, [], h, 0, 0) (rf_V h0 (fun F' A' => fr1 [8, 10, 9, 14, 11, 12, 13] F0 F' ∧ fr2 [] A0 A' ∧ ((F0 8 ≤ F' 8 ∧ F' 8 ≤ F0 7) ∧ (F' 9 = 0 ∨ F0 8 < F' 8) ∧ (F' 9 = 2 → 0 ≤ F' 11 ∧ F' 11 ≤ 9) ∧ (0 ≤ F' 9 ∧ F' 9 ≤ 4) ∧ TKv tx (F0 8) (F' 8) (F' 9) (F' 10) (F' 11) (F' 12) (F' 13) (F' 14)))) := by
  intro n
  induction n using Nat.strongRecOn with
  | ind n ih =>
    intro lv h F A v1 hn g0 g1 hI hF hA i1 i2 i3 i4
    have hw3 := i3.2.2.2.1
    have hpn := pT.1
    refine k_aload 171 rfl g0 rfl ?_
    refine k_aload 172 rfl g0 rfl ?_
    refine r_gI hI 175 rfl rfl rfl (fun x1 (e2 : x1.toInt = F 8) => ?_)
    have e3 : F 7 = F0 7 := hF 7 (by decide)
    refine k_rq hI rfl (m_byteAt  hI.1 (show 0 ≤ x1.toInt ∧ (F 7) ≤ 700 by omega)) rfl rfl rfl hI.rc ?_
    rintro x4 h5 F6 A7 I8 ⟨k10, k11, pq9⟩
    replace pq9 : (x1.toInt < (F 7) ∧ x4.toInt = (A 3) x1.toInt) ∨ ((F 7) ≤ x1.toInt ∧ x4.toInt = -1) := pq9
    have k10 := fr1.nil k10
    subst k10
    have k11 := fr2.nil k11
    subst k11
    show am_Ok _ _ _ (178, _, [.inl x4], _, 0, 0) _
    have hby := pq9
    rw [show x1.toInt = F 8 by omega, (hA 3 (by decide))] at hby
    refine k_in (d := 1) rfl rfl rfl rfl rfl ?_
    refine k_iload 1 rfl rfl rfl ?_
    refine k_push 3 rfl rfl ?_
    have hc12 : (48 : Int32).toInt = 48 := by decide
    refine k_push 5 rfl rfl ?_
    have hc13 : (57 : Int32).toInt = 57 := by decide
    refine k_in (d := 0) rfl rfl rfl rfl rfl ?_
    refine k_iload 1 rfl rfl rfl ?_
    refine k_iload 2 rfl rfl rfl ?_
    by_cases b14 : x4 < (48 : Int32)
    · refine k_c2 14 rfl rfl (if_pos b14) ?_
      have b14 := iv_lt.mp b14
      refine k_push 15 rfl rfl ?_
      have hc15 : (0 : Int32).toInt = 0 := by decide
      refine k_fin rfl (fin_Z (Or.inl rfl)) ⟨_, _, rfl, rf_len I8 I8, ?_⟩
      show am_Ok _ _ _ (8, _, [.inl (0 : Int32)], _, 0, 0) _
      refine k_fin rfl (fin_Z (Or.inl rfl)) ⟨_, _, rfl, rf_len I8 I8, ?_⟩
      show am_Ok _ _ _ (181, _, [.inl (0 : Int32)], _, 0, 0) _
      refine k_c1 267 rfl rfl (if_pos (by decide)) ?_
      exact k_fin rfl rfl ⟨_, _, _, rfl, I8, hF, hA, ⟨(show (F0 8 ≤ F 8 ∧ F 8 ≤ F0 7) by omega), (show (F 9 = 0 ∨ F0 8 < F 8) by omega), (show (F 9 = 2 → 0 ≤ F 11 ∧ F 11 ≤ 9) by omega), (show (0 ≤ F 9 ∧ F 9 ≤ 4) by omega), (show TKv tx (F0 8) (F 8) (F 9) (F 10) (F 11) (F 12) (F 13) (F 14) from FL.fin pT i3 (by omega) (by omega) i4.1 (by omega) (by omega) (fun z => by omega) (by omega) (by omega) (by omega) (by omega) (by omega))⟩⟩
    · refine k_c2 5 rfl rfl (if_neg b14) ?_
      have b14 := mt iv_lt.mpr b14
      refine k_iload 6 rfl rfl rfl ?_
      refine k_iload 7 rfl rfl rfl ?_
      by_cases b16 : (57 : Int32) < x4
      · refine k_c2 14 rfl rfl (if_pos b16) ?_
        have b16 := iv_lt.mp b16
        refine k_push 15 rfl rfl ?_
        have hc17 : (0 : Int32).toInt = 0 := by decide
        refine k_fin rfl (fin_Z (Or.inl rfl)) ⟨_, _, rfl, rf_len I8 I8, ?_⟩
        show am_Ok _ _ _ (8, _, [.inl (0 : Int32)], _, 0, 0) _
        refine k_fin rfl (fin_Z (Or.inl rfl)) ⟨_, _, rfl, rf_len I8 I8, ?_⟩
        show am_Ok _ _ _ (181, _, [.inl (0 : Int32)], _, 0, 0) _
        refine k_c1 267 rfl rfl (if_pos (by decide)) ?_
        exact k_fin rfl rfl ⟨_, _, _, rfl, I8, hF, hA, ⟨(show (F0 8 ≤ F 8 ∧ F 8 ≤ F0 7) by omega), (show (F 9 = 0 ∨ F0 8 < F 8) by omega), (show (F 9 = 2 → 0 ≤ F 11 ∧ F 11 ≤ 9) by omega), (show (0 ≤ F 9 ∧ F 9 ≤ 4) by omega), (show TKv tx (F0 8) (F 8) (F 9) (F 10) (F 11) (F 12) (F 13) (F 14) from FL.fin pT i3 (by omega) (by omega) i4.1 (by omega) (by omega) (fun z => by omega) (by omega) (by omega) (by omega) (by omega) (by omega))⟩⟩
      · refine k_c2 10 rfl rfl (if_neg b16) ?_
        have b16 := mt iv_lt.mpr b16
        refine k_push 11 rfl rfl ?_
        have hc18 : (1 : Int32).toInt = 1 := by decide
        refine k_goto 15 rfl rfl ?_
        refine k_fin rfl (fin_Z (Or.inr rfl)) ⟨_, _, rfl, rf_len I8 I8, ?_⟩
        show am_Ok _ _ _ (8, _, [.inl (1 : Int32)], _, 0, 0) _
        refine k_fin rfl (fin_Z (Or.inr rfl)) ⟨_, _, rfl, rf_len I8 I8, ?_⟩
        show am_Ok _ _ _ (181, _, [.inl (1 : Int32)], _, 0, 0) _
        refine k_c1 184 rfl rfl (if_neg (by decide)) ?_
        refine k_aload 185 rfl g0 rfl ?_
        refine k_dup 186 rfl rfl rfl ?_
        refine r_gI I8 189 rfl rfl rfl (fun x19 (e20 : x19.toInt = F 12) => ?_)
        refine k_push 190 rfl rfl ?_
        obtain ⟨x21, q22⟩ : ∃ q : Int32, q = (x19 + (1 : Int32)) := ⟨_, rfl⟩
        have e23 : x21.toInt = x19.toInt + 1 := by rw [q22, iv_add (by omega) (by omega)]; omega
        refine k_bin x21 191 rfl q22.symm rfl ?_
        refine r_pI I8 194 rfl rfl rfl (fun h24 I25 => ?_)
        refine k_aload 195 rfl g0 rfl ?_
        refine k_dup 196 rfl rfl rfl ?_
        refine r_gI I25 199 rfl rfl rfl (fun x26 (e27 : x26.toInt = F 8) => ?_)
        refine k_push 200 rfl rfl ?_
        obtain ⟨x28, q29⟩ : ∃ q : Int32, q = (x26 + (1 : Int32)) := ⟨_, rfl⟩
        have e30 : x28.toInt = x26.toInt + 1 := by rw [q29, iv_add (by omega) (by omega)]; omega
        refine k_bin x28 201 rfl q29.symm rfl ?_
        refine r_pI I25 204 rfl rfl rfl (fun h31 I32 => ?_)
        refine k_goto 170 rfl rfl ?_
        exact ih _ (show ((701 - (x28.toInt)).toNat) < n by omega)  rfl g0 g1 I32 (fr1.up (by decide) (fr1.up (by decide) hF)) hA (show F0 8 ≤ (x28.toInt) ∧ (x28.toInt) ≤ F0 7 ∧ (F0 8 < (x28.toInt) ∨ ((x28.toInt) < F0 7 ∧ 48 ≤ A0 3 ((x28.toInt)) ∧ A0 3 ((x28.toInt)) ≤ 57)) by omega) (show (F 9) = 2 ∧ 0 ≤ (F 11) ∧ (F 11) ≤ 9 ∧ (F 11) = A0 3 ((F 10)) - 48 by omega) (show FL tx ((F 10)) ((x28.toInt)) ((x21.toInt)) from FL.s pT i3 (by omega) (by omega) (by omega) (by omega)) (show (F 10) = tS tx (F0 8) ∧ 0 ≤ (F 10) ∧ (F 10) < F0 7 ∧ 48 ≤ A0 3 ((F 10)) ∧ A0 3 ((F 10)) ≤ 57 by omega)
theorem b_X10_goes_64 {h0 : am_h} {F0 : rf_f} {A0 : rf_A} {tx : List Int} (p1 : 0 ≤ F0 8 ∧ F0 8 ≤ F0 7 ∧ F0 7 ≤ 700) (pT : TP tx (F0 7) (A0 3)) : ∀ (n : Nat) {lv : am_l} {h : am_h} {F : rf_f} {A : rf_A} {v1 : Int32}, ((701 - F 8).toNat) = n → am_get lv 0 = some (.inr (.inr (some 81))) → am_get lv 1 = some (.inl v1) → rf_I h0 h F A → fr1 [8, 10, 9, 14, 11, 12, 13] F0 F → fr2 [] A0 A → (F0 8 ≤ F 8 ∧ F 8 ≤ F0 7 ∧ (F0 8 < F 8 ∨ (F 8 < F0 7 ∧ 97 ≤ A0 3 (F 8) ∧ A0 3 (F 8) ≤ 122))) → (F 9 = 1) → (WL tx (F 10) (F 8) (F 14) (F 13)) → (F 10 = tS tx (F0 8) ∧ 0 ≤ F 10 ∧ F 10 < F0 7 ∧ 97 ≤ A0 3 (F 10) ∧ A0 3 (F 10) ≤ 122) → am_Ok am_G 2 168 (64, lv, [], h, 0, 0) (rf_V h0 (fun F' A' => fr1 [8, 10, 9, 14, 11, 12, 13] F0 F' ∧ fr2 [] A0 A' ∧ ((F0 8 ≤ F' 8 ∧ F' 8 ≤ F0 7) ∧ (F' 9 = 0 ∨ F0 8 < F' 8) ∧ (F' 9 = 2 → 0 ≤ F' 11 ∧ F' 11 ≤ 9) ∧ (0 ≤ F' 9 ∧ F' 9 ≤ 4) ∧ TKv tx (F0 8) (F' 8) (F' 9) (F' 10) (F' 11) (F' 12) (F' 13) (F' 14)))) := by
  intro n
  induction n using Nat.strongRecOn with
  | ind n ih =>
    intro lv h F A v1 hn g0 g1 hI hF hA i1 i2 i3 i4
    have hw3 := i3.2.2.2.1
    have hpn := pT.1
    refine k_aload 65 rfl g0 rfl ?_
    refine k_aload 66 rfl g0 rfl ?_
    refine r_gI hI 69 rfl rfl rfl (fun x33 (e34 : x33.toInt = F 8) => ?_)
    have e35 : F 7 = F0 7 := hF 7 (by decide)
    refine k_rq hI rfl (m_byteAt  hI.1 (show 0 ≤ x33.toInt ∧ (F 7) ≤ 700 by omega)) rfl rfl rfl hI.rc ?_
    rintro x36 h37 F38 A39 I40 ⟨k42, k43, pq41⟩
    replace pq41 : (x33.toInt < (F 7) ∧ x36.toInt = (A 3) x33.toInt) ∨ ((F 7) ≤ x33.toInt ∧ x36.toInt = -1) := pq41
    have k42 := fr1.nil k42
    subst k42
    have k43 := fr2.nil k43
    subst k43
    show am_Ok _ _ _ (72, _, [.inl x36], _, 0, 0) _
    have hby := pq41
    rw [show x33.toInt = F 8 by omega, (hA 3 (by decide))] at hby
    refine k_in (d := 1) rfl rfl rfl rfl rfl ?_
    refine k_iload 1 rfl rfl rfl ?_
    refine k_push 3 rfl rfl ?_
    have hc44 : (97 : Int32).toInt = 97 := by decide
    refine k_push 5 rfl rfl ?_
    have hc45 : (122 : Int32).toInt = 122 := by decide
    refine k_in (d := 0) rfl rfl rfl rfl rfl ?_
    refine k_iload 1 rfl rfl rfl ?_
    refine k_iload 2 rfl rfl rfl ?_
    by_cases b46 : x36 < (97 : Int32)
    · refine k_c2 14 rfl rfl (if_pos b46) ?_
      have b46 := iv_lt.mp b46
      refine k_push 15 rfl rfl ?_
      have hc47 : (0 : Int32).toInt = 0 := by decide
      refine k_fin rfl (fin_Z (Or.inl rfl)) ⟨_, _, rfl, rf_len I40 I40, ?_⟩
      show am_Ok _ _ _ (8, _, [.inl (0 : Int32)], _, 0, 0) _
      refine k_fin rfl (fin_Z (Or.inl rfl)) ⟨_, _, rfl, rf_len I40 I40, ?_⟩
      show am_Ok _ _ _ (75, _, [.inl (0 : Int32)], _, 0, 0) _
      refine k_c1 267 rfl rfl (if_pos (by decide)) ?_
      exact k_fin rfl rfl ⟨_, _, _, rfl, I40, hF, hA, ⟨(show (F0 8 ≤ F 8 ∧ F 8 ≤ F0 7) by omega), (show (F 9 = 0 ∨ F0 8 < F 8) by omega), (show (F 9 = 2 → 0 ≤ F 11 ∧ F 11 ≤ 9) by omega), (show (0 ≤ F 9 ∧ F 9 ≤ 4) by omega), (show TKv tx (F0 8) (F 8) (F 9) (F 10) (F 11) (F 12) (F 13) (F 14) from WL.fin pT i3 (by omega) (by omega) i4.1 (by omega) (by omega) (fun z => by omega) (by omega) (by omega) (by omega) (by omega) (by omega))⟩⟩
    · refine k_c2 5 rfl rfl (if_neg b46) ?_
      have b46 := mt iv_lt.mpr b46
      refine k_iload 6 rfl rfl rfl ?_
      refine k_iload 7 rfl rfl rfl ?_
      by_cases b48 : (122 : Int32) < x36
      · refine k_c2 14 rfl rfl (if_pos b48) ?_
        have b48 := iv_lt.mp b48
        refine k_push 15 rfl rfl ?_
        have hc49 : (0 : Int32).toInt = 0 := by decide
        refine k_fin rfl (fin_Z (Or.inl rfl)) ⟨_, _, rfl, rf_len I40 I40, ?_⟩
        show am_Ok _ _ _ (8, _, [.inl (0 : Int32)], _, 0, 0) _
        refine k_fin rfl (fin_Z (Or.inl rfl)) ⟨_, _, rfl, rf_len I40 I40, ?_⟩
        show am_Ok _ _ _ (75, _, [.inl (0 : Int32)], _, 0, 0) _
        refine k_c1 267 rfl rfl (if_pos (by decide)) ?_
        exact k_fin rfl rfl ⟨_, _, _, rfl, I40, hF, hA, ⟨(show (F0 8 ≤ F 8 ∧ F 8 ≤ F0 7) by omega), (show (F 9 = 0 ∨ F0 8 < F 8) by omega), (show (F 9 = 2 → 0 ≤ F 11 ∧ F 11 ≤ 9) by omega), (show (0 ≤ F 9 ∧ F 9 ≤ 4) by omega), (show TKv tx (F0 8) (F 8) (F 9) (F 10) (F 11) (F 12) (F 13) (F 14) from WL.fin pT i3 (by omega) (by omega) i4.1 (by omega) (by omega) (fun z => by omega) (by omega) (by omega) (by omega) (by omega) (by omega))⟩⟩
      · refine k_c2 10 rfl rfl (if_neg b48) ?_
        have b48 := mt iv_lt.mpr b48
        refine k_push 11 rfl rfl ?_
        have hc50 : (1 : Int32).toInt = 1 := by decide
        refine k_goto 15 rfl rfl ?_
        refine k_fin rfl (fin_Z (Or.inr rfl)) ⟨_, _, rfl, rf_len I40 I40, ?_⟩
        show am_Ok _ _ _ (8, _, [.inl (1 : Int32)], _, 0, 0) _
        refine k_fin rfl (fin_Z (Or.inr rfl)) ⟨_, _, rfl, rf_len I40 I40, ?_⟩
        show am_Ok _ _ _ (75, _, [.inl (1 : Int32)], _, 0, 0) _
        refine k_c1 78 rfl rfl (if_neg (by decide)) ?_
        refine k_aload 79 rfl g0 rfl ?_
        refine k_dup 80 rfl rfl rfl ?_
        refine r_gI I40 83 rfl rfl rfl (fun x51 (e52 : x51.toInt = F 14) => ?_)
        refine k_push 84 rfl rfl ?_
        obtain ⟨x53, q54⟩ : ∃ q : Int32, q = (x51 + (1 : Int32)) := ⟨_, rfl⟩
        have e55 : x53.toInt = x51.toInt + 1 := by rw [q54, iv_add (by omega) (by omega)]; omega
        refine k_bin x53 85 rfl q54.symm rfl ?_
        refine r_pI I40 88 rfl rfl rfl (fun h56 I57 => ?_)
        refine k_aload 89 rfl g0 rfl ?_
        refine k_aload 90 rfl g0 rfl ?_
        refine r_gI I57 93 rfl rfl rfl (fun x58 (e59 : x58.toInt = x53.toInt) => ?_)
        refine k_push 95 rfl rfl ?_
        have hc60 : (8 : Int32).toInt = 8 := by decide
        by_cases b61 : (8 : Int32) < x58
        · refine k_c2 125 rfl rfl (if_pos b61) ?_
          have b61 := iv_lt.mp b61
          refine k_aload 126 rfl g0 rfl ?_
          refine r_gJ I57 129 rfl rfl rfl (fun y62 (e63 : y62.toInt = F 13) => ?_)
          refine r_pJ I57 132 rfl rfl rfl (fun h64 I65 => ?_)
          refine k_aload 133 rfl g0 rfl ?_
          refine k_dup 134 rfl rfl rfl ?_
          refine r_gI I65 137 rfl rfl rfl (fun x66 (e67 : x66.toInt = F 8) => ?_)
          refine k_push 138 rfl rfl ?_
          obtain ⟨x68, q69⟩ : ∃ q : Int32, q = (x66 + (1 : Int32)) := ⟨_, rfl⟩
          have e70 : x68.toInt = x66.toInt + 1 := by rw [q69, iv_add (by omega) (by omega)]; omega
          refine k_bin x68 139 rfl q69.symm rfl ?_
          refine r_pI I65 142 rfl rfl rfl (fun h71 I72 => ?_)
          refine k_goto 64 rfl rfl ?_
          exact ih _ (show ((701 - (x68.toInt)).toNat) < n by omega)  rfl g0 g1 I72 (fr1.up (by decide) (fr1.up (by decide) (fr1.up (by decide) hF))) hA (show F0 8 ≤ (x68.toInt) ∧ (x68.toInt) ≤ F0 7 ∧ (F0 8 < (x68.toInt) ∨ ((x68.toInt) < F0 7 ∧ 97 ≤ A0 3 ((x68.toInt)) ∧ A0 3 ((x68.toInt)) ≤ 122)) by omega) (show (F 9) = 1 by omega) (show WL tx ((F 10)) ((x68.toInt)) ((x53.toInt)) ((y62.toInt)) from WL.s pT i3 (by omega) (by omega) (by omega) (by omega) (fun z => by omega)) (show (F 10) = tS tx (F0 8) ∧ 0 ≤ (F 10) ∧ (F 10) < F0 7 ∧ 97 ≤ A0 3 ((F 10)) ∧ A0 3 ((F 10)) ≤ 122 by omega)
        · refine k_c2 98 rfl rfl (if_neg b61) ?_
          have b61 := mt iv_lt.mpr b61
          have hwb := i3.b (by omega)
          refine k_push 101 rfl rfl ?_
          have hj73 : (27 : Int64).toInt = 27 := by decide
          refine k_aload 102 rfl g0 rfl ?_
          refine r_gJ I57 105 rfl rfl rfl (fun y74 (e75 : y74.toInt = F 13) => ?_)
          refine k_binL 106 rfl rfl ?_
          generalize q77 : (27 : Int64) * y74 = y76
          have hj79 : (27 : Int64).toInt = 27 := by decide
          have e78 : y76.toInt = 27 * y74.toInt := jv_mul q77 (by decide) (by omega) (by omega)
          refine k_aload 107 rfl g0 rfl ?_
          refine k_aload 108 rfl g0 rfl ?_
          refine r_gI I57 111 rfl rfl rfl (fun x80 (e81 : x80.toInt = F 8) => ?_)
          refine k_rq I57 rfl (m_byteAt  I57.1 (show 0 ≤ x80.toInt ∧ (F 7) ≤ 700 by omega)) rfl rfl rfl I57.rc ?_
          rintro x82 h83 F84 A85 I86 ⟨k88, k89, pq87⟩
          replace pq87 : (x80.toInt < (F 7) ∧ x82.toInt = (A 3) x80.toInt) ∨ ((F 7) ≤ x80.toInt ∧ x82.toInt = -1) := pq87
          have k88 := fr1.nil k88
          subst k88
          have k89 := fr2.nil k89
          subst k89
          show am_Ok _ _ _ (114, _, [.inl x82, .inr (.inl y76), .inr (.inr (some 81))], _, 0, 0) _
          have hby := pq87
          rw [show x80.toInt = F 8 by omega, (hA 3 (by decide))] at hby
          refine k_un _ 115 rfl rfl rfl ?_
          generalize q91 : x82.toInt64 = y90
          have e92 := jv_up q91
          refine k_binL 116 rfl rfl ?_
          generalize q94 : y76 + y90 = y93
          have e95 : y93.toInt = y76.toInt + y90.toInt := (jv_add q94 (by omega) (by omega)).trans (by omega)
          refine k_push 119 rfl rfl ?_
          have hj96 : (97 : Int64).toInt = 97 := by decide
          refine k_binL 120 rfl rfl ?_
          generalize q98 : y93 - (97 : Int64) = y97
          have hj100 : (97 : Int64).toInt = 97 := by decide
          have e99 : y97.toInt = y93.toInt - 97 := (jv_sub q98 (by omega) (by omega)).trans (by omega)
          refine k_push 121 rfl rfl ?_
          have hj101 : (1 : Int64).toInt = 1 := by decide
          refine k_binL 122 rfl rfl ?_
          generalize q103 : y97 + (1 : Int64) = y102
          have hj105 : (1 : Int64).toInt = 1 := by decide
          have e104 : y102.toInt = y97.toInt + 1 := (jv_add q103 (by omega) (by omega)).trans (by omega)
          refine k_goto 129 rfl rfl ?_
          refine r_pJ I86 132 rfl rfl rfl (fun h106 I107 => ?_)
          refine k_aload 133 rfl g0 rfl ?_
          refine k_dup 134 rfl rfl rfl ?_
          refine r_gI I107 137 rfl rfl rfl (fun x108 (e109 : x108.toInt = F 8) => ?_)
          refine k_push 138 rfl rfl ?_
          obtain ⟨x110, q111⟩ : ∃ q : Int32, q = (x108 + (1 : Int32)) := ⟨_, rfl⟩
          have e112 : x110.toInt = x108.toInt + 1 := by rw [q111, iv_add (by omega) (by omega)]; omega
          refine k_bin x110 139 rfl q111.symm rfl ?_
          refine r_pI I107 142 rfl rfl rfl (fun h113 I114 => ?_)
          refine k_goto 64 rfl rfl ?_
          exact ih _ (show ((701 - (x110.toInt)).toNat) < n by omega)  rfl g0 g1 I114 (fr1.up (by decide) (fr1.up (by decide) (fr1.up (by decide) hF))) hA (show F0 8 ≤ (x110.toInt) ∧ (x110.toInt) ≤ F0 7 ∧ (F0 8 < (x110.toInt) ∨ ((x110.toInt) < F0 7 ∧ 97 ≤ A0 3 ((x110.toInt)) ∧ A0 3 ((x110.toInt)) ≤ 122)) by omega) (show (F 9) = 1 by omega) (show WL tx ((F 10)) ((x110.toInt)) ((x53.toInt)) ((y102.toInt)) from WL.s pT i3 (by omega) (by omega) (by omega) (by omega) (fun z => by omega)) (show (F 10) = tS tx (F0 8) ∧ 0 ≤ (F 10) ∧ (F 10) < F0 7 ∧ 97 ≤ A0 3 ((F 10)) ∧ A0 3 ((F 10)) ≤ 122 by omega)
theorem m_goes {h0 : am_h} {F0 : rf_f} {A0 : rf_A} {tx : List Int} (hR : rf_R h0 F0 A0) (p1 : 0 ≤ F0 8 ∧ F0 8 ≤ F0 7 ∧ F0 7 ≤ 700) (pT : TP tx (F0 7) (A0 3)) : am_Mt 3 168 [.inr (.inr (some 81))] h0 (rf_V h0 (fun F' A' => fr1 [8, 10, 9, 14, 11, 12, 13] F0 F' ∧ fr2 [] A0 A' ∧ ((F0 8 ≤ F' 8 ∧ F' 8 ≤ F0 7) ∧ (F' 9 = 0 ∨ F0 8 < F' 8) ∧ (F' 9 = 2 → 0 ≤ F' 11 ∧ F' 11 ≤ 9) ∧ (0 ≤ F' 9 ∧ F' 9 ≤ 4) ∧ TKv tx (F0 8) (F' 8) (F' 9) (F' 10) (F' 11) (F' 12) (F' 13) (F' 14)))) := by
  refine am_Mt.of (D := 2) ?_
  have hI : rf_I h0 h0 F0 A0 := rf_I.start hR
  refine k_aload 1 rfl rfl rfl ?_
  refine k_aload 2 rfl rfl rfl ?_
  refine k_aload 3 rfl rfl rfl ?_
  refine r_gI hI 6 rfl rfl rfl (fun x115 (e116 : x115.toInt = F0 8) => ?_)
  refine k_rq hI rfl (m_blanksFrom  hI.1 (show 0 ≤ x115.toInt ∧ x115.toInt ≤ (F0 7) ∧ (F0 7) ≤ 700 by omega) (show TP tx ((F0 7)) ((A0 3)) from pT)) rfl rfl rfl hI.rc ?_
  rintro x117 h118 F119 A120 I121 ⟨k123, k124, pq122⟩
  replace pq122 : (x115.toInt ≤ x117.toInt ∧ x117.toInt ≤ (F0 7)) ∧ x117.toInt = tS tx x115.toInt := pq122
  obtain ⟨pq122a, pq122b⟩ := pq122
  have k123 := fr1.nil k123
  subst k123
  have k124 := fr2.nil k124
  subst k124
  show am_Ok _ _ _ (9, _, [.inl x117, .inr (.inr (some 81))], _, 0, 0) _
  have hts : x117.toInt = tS tx (F0 8) := pq122b.trans (congrArg (tS tx) (by omega))
  have hpn := pT.1
  refine r_pI I121 12 rfl rfl rfl (fun h125 I126 => ?_)
  refine k_aload 13 rfl rfl rfl ?_
  refine k_aload 14 rfl rfl rfl ?_
  refine r_gI I126 17 rfl rfl rfl (fun x127 (e128 : x127.toInt = x117.toInt) => ?_)
  refine r_pI I126 20 rfl rfl rfl (fun h129 I130 => ?_)
  refine k_aload 21 rfl rfl rfl ?_
  refine k_aload 22 rfl rfl rfl ?_
  refine r_gI I130 25 rfl rfl rfl (fun x131 (e132 : x131.toInt = x117.toInt) => ?_)
  refine k_rq I130 rfl (m_byteAt  I130.1 (show 0 ≤ x131.toInt ∧ (F0 7) ≤ 700 by omega)) rfl rfl rfl I130.rc ?_
  rintro x133 h134 F135 A136 I137 ⟨k139, k140, pq138⟩
  replace pq138 : (x131.toInt < (F0 7) ∧ x133.toInt = (A0 3) x131.toInt) ∨ ((F0 7) ≤ x131.toInt ∧ x133.toInt = -1) := pq138
  have k139 := fr1.nil k139
  subst k139
  have k140 := fr2.nil k140
  subst k140
  show am_Ok _ _ _ (28, _, [.inl x133], _, 0, 0) _
  have hby := pq138
  rw [show x131.toInt = x117.toInt by omega] at hby
  have hnn : x117.toInt < F0 7 → 0 ≤ A0 3 (x117.toInt) := fun z => (pT.2.2 _ (by omega) z).2
  have h10 : x117.toInt = x127.toInt := by omega
  have hby10 := hby
  rw [h10] at hby10
  refine k_istore 29 rfl rfl ?_
  refine k_iload 30 rfl gs_eq rfl ?_
  refine k_push 31 rfl rfl ?_
  have hc141 : (-1 : Int32).toInt = -1 := by decide
  by_cases b142 : x133 = (-1 : Int32)
  · refine k_c2 34 rfl rfl (if_pos b142) ?_
    have b142 := iv_eq.mp b142
    refine k_aload 35 rfl (gs_ne rfl rfl rfl) rfl ?_
    refine k_push 36 rfl rfl ?_
    have hc143 : (0 : Int32).toInt = 0 := by decide
    refine r_pI I137 39 rfl rfl rfl (fun h144 I145 => ?_)
    refine k_goto 267 rfl rfl ?_
    exact k_fin rfl rfl ⟨_, _, _, rfl, I145, (fr1.up (by decide) (fr1.up (by decide) (fr1.up (by decide) fr1.rf))), fr2.rf, ⟨(show (F0 8 ≤ x117.toInt ∧ x117.toInt ≤ F0 7) by omega), (show ((0 : Int32).toInt = 0 ∨ F0 8 < x117.toInt) by omega), (show ((0 : Int32).toInt = 2 → 0 ≤ F0 11 ∧ F0 11 ≤ 9) by omega), (show (0 ≤ (0 : Int32).toInt ∧ (0 : Int32).toInt ≤ 4) by omega), (show TKv tx (F0 8) (x117.toInt) ((0 : Int32).toInt) (x127.toInt) (F0 11) (F0 12) (F0 13) (F0 14) from tk_end pT (by omega) (by omega) hts (by omega) (by omega) (by omega) (by omega))⟩⟩
  · refine k_c2 42 rfl rfl (if_neg b142) ?_
    have b142 := mt iv_eq.mpr b142
    refine k_iload 43 rfl gs_eq rfl ?_
    refine k_in (d := 1) rfl rfl rfl rfl rfl ?_
    refine k_iload 1 rfl rfl rfl ?_
    refine k_push 3 rfl rfl ?_
    have hc146 : (97 : Int32).toInt = 97 := by decide
    refine k_push 5 rfl rfl ?_
    have hc147 : (122 : Int32).toInt = 122 := by decide
    refine k_in (d := 0) rfl rfl rfl rfl rfl ?_
    refine k_iload 1 rfl rfl rfl ?_
    refine k_iload 2 rfl rfl rfl ?_
    by_cases b148 : x133 < (97 : Int32)
    · refine k_c2 14 rfl rfl (if_pos b148) ?_
      have b148 := iv_lt.mp b148
      refine k_push 15 rfl rfl ?_
      have hc149 : (0 : Int32).toInt = 0 := by decide
      refine k_fin rfl (fin_Z (Or.inl rfl)) ⟨_, _, rfl, rf_len I137 I137, ?_⟩
      show am_Ok _ _ _ (8, _, [.inl (0 : Int32)], _, 0, 0) _
      refine k_fin rfl (fin_Z (Or.inl rfl)) ⟨_, _, rfl, rf_len I137 I137, ?_⟩
      show am_Ok _ _ _ (46, _, [.inl (0 : Int32)], _, 0, 0) _
      refine k_c1 145 rfl rfl (if_pos (by decide)) ?_
      refine k_iload 146 rfl gs_eq rfl ?_
      refine k_in (d := 1) rfl rfl rfl rfl rfl ?_
      refine k_iload 1 rfl rfl rfl ?_
      refine k_push 3 rfl rfl ?_
      have hc150 : (48 : Int32).toInt = 48 := by decide
      refine k_push 5 rfl rfl ?_
      have hc151 : (57 : Int32).toInt = 57 := by decide
      refine k_in (d := 0) rfl rfl rfl rfl rfl ?_
      refine k_iload 1 rfl rfl rfl ?_
      refine k_iload 2 rfl rfl rfl ?_
      by_cases b152 : x133 < (48 : Int32)
      · refine k_c2 14 rfl rfl (if_pos b152) ?_
        have b152 := iv_lt.mp b152
        refine k_push 15 rfl rfl ?_
        refine k_fin rfl (fin_Z (Or.inl rfl)) ⟨_, _, rfl, rf_len I137 I137, ?_⟩
        show am_Ok _ _ _ (8, _, [.inl (0 : Int32)], _, 0, 0) _
        refine k_fin rfl (fin_Z (Or.inl rfl)) ⟨_, _, rfl, rf_len I137 I137, ?_⟩
        show am_Ok _ _ _ (149, _, [.inl (0 : Int32)], _, 0, 0) _
        refine k_c1 207 rfl rfl (if_pos (by decide)) ?_
        refine k_aload 208 rfl (gs_ne rfl rfl rfl) rfl ?_
        refine k_iload 209 rfl gs_eq rfl ?_
        refine r_pI I137 212 rfl rfl rfl (fun h153 I154 => ?_)
        refine k_aload 213 rfl (gs_ne rfl rfl rfl) rfl ?_
        refine k_iload 214 rfl gs_eq rfl ?_
        refine k_push 216 rfl rfl ?_
        have hc155 : (92 : Int32).toInt = 92 := by decide
        by_cases b156 : x133 = (92 : Int32)
        · refine k_c2 249 rfl rfl (if_pos b156) ?_
          have b156 := iv_eq.mp b156
          refine k_push 250 rfl rfl ?_
          have hc157 : (3 : Int32).toInt = 3 := by decide
          refine k_goto 254 rfl rfl ?_
          refine r_pI I154 257 rfl rfl rfl (fun h158 I159 => ?_)
          refine k_aload 258 rfl (gs_ne rfl rfl rfl) rfl ?_
          refine k_dup 259 rfl rfl rfl ?_
          refine r_gI I159 262 rfl rfl rfl (fun x160 (e161 : x160.toInt = x117.toInt) => ?_)
          refine k_push 263 rfl rfl ?_
          have hc162 : (1 : Int32).toInt = 1 := by decide
          obtain ⟨x163, q164⟩ : ∃ q : Int32, q = (x160 + (1 : Int32)) := ⟨_, rfl⟩
          have e165 : x163.toInt = x160.toInt + 1 := by rw [q164, iv_add (by omega) (by omega)]; omega
          refine k_bin x163 264 rfl q164.symm rfl ?_
          refine r_pI I159 267 rfl rfl rfl (fun h166 I167 => ?_)
          exact k_fin rfl rfl ⟨_, _, _, rfl, I167, (fr1.up (by decide) (fr1.up (by decide) (fr1.up (by decide) (fr1.up (by decide) (fr1.up (by decide) fr1.rf))))), fr2.rf, ⟨(show (F0 8 ≤ x163.toInt ∧ x163.toInt ≤ F0 7) by omega), (show ((3 : Int32).toInt = 0 ∨ F0 8 < x163.toInt) by omega), (show ((3 : Int32).toInt = 2 → 0 ≤ x133.toInt ∧ x133.toInt ≤ 9) by omega), (show (0 ≤ (3 : Int32).toInt ∧ (3 : Int32).toInt ≤ 4) by omega), (show TKv tx (F0 8) (x163.toInt) ((3 : Int32).toInt) (x127.toInt) (x133.toInt) (F0 12) (F0 13) (F0 14) from tk_sg pT (by omega) (by omega) hts (by omega) (by omega) (by omega) (by omega) (by omega) (by omega) (by omega) (by omega))⟩⟩
        · refine k_c2 219 rfl rfl (if_neg b156) ?_
          have b156 := mt iv_eq.mpr b156
          refine k_iload 220 rfl gs_eq rfl ?_
          refine k_push 222 rfl rfl ?_
          have hc168 : (46 : Int32).toInt = 46 := by decide
          by_cases b169 : x133 = (46 : Int32)
          · refine k_c2 249 rfl rfl (if_pos b169) ?_
            have b169 := iv_eq.mp b169
            refine k_push 250 rfl rfl ?_
            have hc170 : (3 : Int32).toInt = 3 := by decide
            refine k_goto 254 rfl rfl ?_
            refine r_pI I154 257 rfl rfl rfl (fun h171 I172 => ?_)
            refine k_aload 258 rfl (gs_ne rfl rfl rfl) rfl ?_
            refine k_dup 259 rfl rfl rfl ?_
            refine r_gI I172 262 rfl rfl rfl (fun x173 (e174 : x173.toInt = x117.toInt) => ?_)
            refine k_push 263 rfl rfl ?_
            have hc175 : (1 : Int32).toInt = 1 := by decide
            obtain ⟨x176, q177⟩ : ∃ q : Int32, q = (x173 + (1 : Int32)) := ⟨_, rfl⟩
            have e178 : x176.toInt = x173.toInt + 1 := by rw [q177, iv_add (by omega) (by omega)]; omega
            refine k_bin x176 264 rfl q177.symm rfl ?_
            refine r_pI I172 267 rfl rfl rfl (fun h179 I180 => ?_)
            exact k_fin rfl rfl ⟨_, _, _, rfl, I180, (fr1.up (by decide) (fr1.up (by decide) (fr1.up (by decide) (fr1.up (by decide) (fr1.up (by decide) fr1.rf))))), fr2.rf, ⟨(show (F0 8 ≤ x176.toInt ∧ x176.toInt ≤ F0 7) by omega), (show ((3 : Int32).toInt = 0 ∨ F0 8 < x176.toInt) by omega), (show ((3 : Int32).toInt = 2 → 0 ≤ x133.toInt ∧ x133.toInt ≤ 9) by omega), (show (0 ≤ (3 : Int32).toInt ∧ (3 : Int32).toInt ≤ 4) by omega), (show TKv tx (F0 8) (x176.toInt) ((3 : Int32).toInt) (x127.toInt) (x133.toInt) (F0 12) (F0 13) (F0 14) from tk_sg pT (by omega) (by omega) hts (by omega) (by omega) (by omega) (by omega) (by omega) (by omega) (by omega) (by omega))⟩⟩
          · refine k_c2 225 rfl rfl (if_neg b169) ?_
            have b169 := mt iv_eq.mpr b169
            refine k_iload 226 rfl gs_eq rfl ?_
            refine k_push 228 rfl rfl ?_
            have hc181 : (61 : Int32).toInt = 61 := by decide
            by_cases b182 : x133 = (61 : Int32)
            · refine k_c2 249 rfl rfl (if_pos b182) ?_
              have b182 := iv_eq.mp b182
              refine k_push 250 rfl rfl ?_
              have hc183 : (3 : Int32).toInt = 3 := by decide
              refine k_goto 254 rfl rfl ?_
              refine r_pI I154 257 rfl rfl rfl (fun h184 I185 => ?_)
              refine k_aload 258 rfl (gs_ne rfl rfl rfl) rfl ?_
              refine k_dup 259 rfl rfl rfl ?_
              refine r_gI I185 262 rfl rfl rfl (fun x186 (e187 : x186.toInt = x117.toInt) => ?_)
              refine k_push 263 rfl rfl ?_
              have hc188 : (1 : Int32).toInt = 1 := by decide
              obtain ⟨x189, q190⟩ : ∃ q : Int32, q = (x186 + (1 : Int32)) := ⟨_, rfl⟩
              have e191 : x189.toInt = x186.toInt + 1 := by rw [q190, iv_add (by omega) (by omega)]; omega
              refine k_bin x189 264 rfl q190.symm rfl ?_
              refine r_pI I185 267 rfl rfl rfl (fun h192 I193 => ?_)
              exact k_fin rfl rfl ⟨_, _, _, rfl, I193, (fr1.up (by decide) (fr1.up (by decide) (fr1.up (by decide) (fr1.up (by decide) (fr1.up (by decide) fr1.rf))))), fr2.rf, ⟨(show (F0 8 ≤ x189.toInt ∧ x189.toInt ≤ F0 7) by omega), (show ((3 : Int32).toInt = 0 ∨ F0 8 < x189.toInt) by omega), (show ((3 : Int32).toInt = 2 → 0 ≤ x133.toInt ∧ x133.toInt ≤ 9) by omega), (show (0 ≤ (3 : Int32).toInt ∧ (3 : Int32).toInt ≤ 4) by omega), (show TKv tx (F0 8) (x189.toInt) ((3 : Int32).toInt) (x127.toInt) (x133.toInt) (F0 12) (F0 13) (F0 14) from tk_sg pT (by omega) (by omega) hts (by omega) (by omega) (by omega) (by omega) (by omega) (by omega) (by omega) (by omega))⟩⟩
            · refine k_c2 231 rfl rfl (if_neg b182) ?_
              have b182 := mt iv_eq.mpr b182
              refine k_iload 232 rfl gs_eq rfl ?_
              refine k_push 234 rfl rfl ?_
              have hc194 : (59 : Int32).toInt = 59 := by decide
              by_cases b195 : x133 = (59 : Int32)
              · refine k_c2 249 rfl rfl (if_pos b195) ?_
                have b195 := iv_eq.mp b195
                refine k_push 250 rfl rfl ?_
                have hc196 : (3 : Int32).toInt = 3 := by decide
                refine k_goto 254 rfl rfl ?_
                refine r_pI I154 257 rfl rfl rfl (fun h197 I198 => ?_)
                refine k_aload 258 rfl (gs_ne rfl rfl rfl) rfl ?_
                refine k_dup 259 rfl rfl rfl ?_
                refine r_gI I198 262 rfl rfl rfl (fun x199 (e200 : x199.toInt = x117.toInt) => ?_)
                refine k_push 263 rfl rfl ?_
                have hc201 : (1 : Int32).toInt = 1 := by decide
                obtain ⟨x202, q203⟩ : ∃ q : Int32, q = (x199 + (1 : Int32)) := ⟨_, rfl⟩
                have e204 : x202.toInt = x199.toInt + 1 := by rw [q203, iv_add (by omega) (by omega)]; omega
                refine k_bin x202 264 rfl q203.symm rfl ?_
                refine r_pI I198 267 rfl rfl rfl (fun h205 I206 => ?_)
                exact k_fin rfl rfl ⟨_, _, _, rfl, I206, (fr1.up (by decide) (fr1.up (by decide) (fr1.up (by decide) (fr1.up (by decide) (fr1.up (by decide) fr1.rf))))), fr2.rf, ⟨(show (F0 8 ≤ x202.toInt ∧ x202.toInt ≤ F0 7) by omega), (show ((3 : Int32).toInt = 0 ∨ F0 8 < x202.toInt) by omega), (show ((3 : Int32).toInt = 2 → 0 ≤ x133.toInt ∧ x133.toInt ≤ 9) by omega), (show (0 ≤ (3 : Int32).toInt ∧ (3 : Int32).toInt ≤ 4) by omega), (show TKv tx (F0 8) (x202.toInt) ((3 : Int32).toInt) (x127.toInt) (x133.toInt) (F0 12) (F0 13) (F0 14) from tk_sg pT (by omega) (by omega) hts (by omega) (by omega) (by omega) (by omega) (by omega) (by omega) (by omega) (by omega))⟩⟩
              · refine k_c2 237 rfl rfl (if_neg b195) ?_
                have b195 := mt iv_eq.mpr b195
                refine k_iload 238 rfl gs_eq rfl ?_
                refine k_push 240 rfl rfl ?_
                have hc207 : (40 : Int32).toInt = 40 := by decide
                by_cases b208 : x133 = (40 : Int32)
                · refine k_c2 249 rfl rfl (if_pos b208) ?_
                  have b208 := iv_eq.mp b208
                  refine k_push 250 rfl rfl ?_
                  have hc209 : (3 : Int32).toInt = 3 := by decide
                  refine k_goto 254 rfl rfl ?_
                  refine r_pI I154 257 rfl rfl rfl (fun h210 I211 => ?_)
                  refine k_aload 258 rfl (gs_ne rfl rfl rfl) rfl ?_
                  refine k_dup 259 rfl rfl rfl ?_
                  refine r_gI I211 262 rfl rfl rfl (fun x212 (e213 : x212.toInt = x117.toInt) => ?_)
                  refine k_push 263 rfl rfl ?_
                  have hc214 : (1 : Int32).toInt = 1 := by decide
                  obtain ⟨x215, q216⟩ : ∃ q : Int32, q = (x212 + (1 : Int32)) := ⟨_, rfl⟩
                  have e217 : x215.toInt = x212.toInt + 1 := by rw [q216, iv_add (by omega) (by omega)]; omega
                  refine k_bin x215 264 rfl q216.symm rfl ?_
                  refine r_pI I211 267 rfl rfl rfl (fun h218 I219 => ?_)
                  exact k_fin rfl rfl ⟨_, _, _, rfl, I219, (fr1.up (by decide) (fr1.up (by decide) (fr1.up (by decide) (fr1.up (by decide) (fr1.up (by decide) fr1.rf))))), fr2.rf, ⟨(show (F0 8 ≤ x215.toInt ∧ x215.toInt ≤ F0 7) by omega), (show ((3 : Int32).toInt = 0 ∨ F0 8 < x215.toInt) by omega), (show ((3 : Int32).toInt = 2 → 0 ≤ x133.toInt ∧ x133.toInt ≤ 9) by omega), (show (0 ≤ (3 : Int32).toInt ∧ (3 : Int32).toInt ≤ 4) by omega), (show TKv tx (F0 8) (x215.toInt) ((3 : Int32).toInt) (x127.toInt) (x133.toInt) (F0 12) (F0 13) (F0 14) from tk_sg pT (by omega) (by omega) hts (by omega) (by omega) (by omega) (by omega) (by omega) (by omega) (by omega) (by omega))⟩⟩
                · refine k_c2 243 rfl rfl (if_neg b208) ?_
                  have b208 := mt iv_eq.mpr b208
                  refine k_iload 244 rfl gs_eq rfl ?_
                  refine k_push 246 rfl rfl ?_
                  have hc220 : (41 : Int32).toInt = 41 := by decide
                  by_cases b221 : x133 = (41 : Int32)
                  · refine k_c2 249 rfl rfl (if_pos b221) ?_
                    have b221 := iv_eq.mp b221
                    refine k_push 250 rfl rfl ?_
                    have hc222 : (3 : Int32).toInt = 3 := by decide
                    refine k_goto 254 rfl rfl ?_
                    refine r_pI I154 257 rfl rfl rfl (fun h223 I224 => ?_)
                    refine k_aload 258 rfl (gs_ne rfl rfl rfl) rfl ?_
                    refine k_dup 259 rfl rfl rfl ?_
                    refine r_gI I224 262 rfl rfl rfl (fun x225 (e226 : x225.toInt = x117.toInt) => ?_)
                    refine k_push 263 rfl rfl ?_
                    have hc227 : (1 : Int32).toInt = 1 := by decide
                    obtain ⟨x228, q229⟩ : ∃ q : Int32, q = (x225 + (1 : Int32)) := ⟨_, rfl⟩
                    have e230 : x228.toInt = x225.toInt + 1 := by rw [q229, iv_add (by omega) (by omega)]; omega
                    refine k_bin x228 264 rfl q229.symm rfl ?_
                    refine r_pI I224 267 rfl rfl rfl (fun h231 I232 => ?_)
                    exact k_fin rfl rfl ⟨_, _, _, rfl, I232, (fr1.up (by decide) (fr1.up (by decide) (fr1.up (by decide) (fr1.up (by decide) (fr1.up (by decide) fr1.rf))))), fr2.rf, ⟨(show (F0 8 ≤ x228.toInt ∧ x228.toInt ≤ F0 7) by omega), (show ((3 : Int32).toInt = 0 ∨ F0 8 < x228.toInt) by omega), (show ((3 : Int32).toInt = 2 → 0 ≤ x133.toInt ∧ x133.toInt ≤ 9) by omega), (show (0 ≤ (3 : Int32).toInt ∧ (3 : Int32).toInt ≤ 4) by omega), (show TKv tx (F0 8) (x228.toInt) ((3 : Int32).toInt) (x127.toInt) (x133.toInt) (F0 12) (F0 13) (F0 14) from tk_sg pT (by omega) (by omega) hts (by omega) (by omega) (by omega) (by omega) (by omega) (by omega) (by omega) (by omega))⟩⟩
                  · refine k_c2 253 rfl rfl (if_neg b221) ?_
                    have b221 := mt iv_eq.mpr b221
                    refine k_push 254 rfl rfl ?_
                    have hc233 : (4 : Int32).toInt = 4 := by decide
                    refine r_pI I154 257 rfl rfl rfl (fun h234 I235 => ?_)
                    refine k_aload 258 rfl (gs_ne rfl rfl rfl) rfl ?_
                    refine k_dup 259 rfl rfl rfl ?_
                    refine r_gI I235 262 rfl rfl rfl (fun x236 (e237 : x236.toInt = x117.toInt) => ?_)
                    refine k_push 263 rfl rfl ?_
                    have hc238 : (1 : Int32).toInt = 1 := by decide
                    obtain ⟨x239, q240⟩ : ∃ q : Int32, q = (x236 + (1 : Int32)) := ⟨_, rfl⟩
                    have e241 : x239.toInt = x236.toInt + 1 := by rw [q240, iv_add (by omega) (by omega)]; omega
                    refine k_bin x239 264 rfl q240.symm rfl ?_
                    refine r_pI I235 267 rfl rfl rfl (fun h242 I243 => ?_)
                    exact k_fin rfl rfl ⟨_, _, _, rfl, I243, (fr1.up (by decide) (fr1.up (by decide) (fr1.up (by decide) (fr1.up (by decide) (fr1.up (by decide) fr1.rf))))), fr2.rf, ⟨(show (F0 8 ≤ x239.toInt ∧ x239.toInt ≤ F0 7) by omega), (show ((4 : Int32).toInt = 0 ∨ F0 8 < x239.toInt) by omega), (show ((4 : Int32).toInt = 2 → 0 ≤ x133.toInt ∧ x133.toInt ≤ 9) by omega), (show (0 ≤ (4 : Int32).toInt ∧ (4 : Int32).toInt ≤ 4) by omega), (show TKv tx (F0 8) (x239.toInt) ((4 : Int32).toInt) (x127.toInt) (x133.toInt) (F0 12) (F0 13) (F0 14) from tk_sg pT (by omega) (by omega) hts (by omega) (by omega) (by omega) (by omega) (by omega) (by omega) (by omega) (by omega))⟩⟩
      · refine k_c2 5 rfl rfl (if_neg b152) ?_
        have b152 := mt iv_lt.mpr b152
        refine k_iload 6 rfl rfl rfl ?_
        refine k_iload 7 rfl rfl rfl ?_
        by_cases b244 : (57 : Int32) < x133
        · refine k_c2 14 rfl rfl (if_pos b244) ?_
          have b244 := iv_lt.mp b244
          refine k_push 15 rfl rfl ?_
          refine k_fin rfl (fin_Z (Or.inl rfl)) ⟨_, _, rfl, rf_len I137 I137, ?_⟩
          show am_Ok _ _ _ (8, _, [.inl (0 : Int32)], _, 0, 0) _
          refine k_fin rfl (fin_Z (Or.inl rfl)) ⟨_, _, rfl, rf_len I137 I137, ?_⟩
          show am_Ok _ _ _ (149, _, [.inl (0 : Int32)], _, 0, 0) _
          refine k_c1 207 rfl rfl (if_pos (by decide)) ?_
          refine k_aload 208 rfl (gs_ne rfl rfl rfl) rfl ?_
          refine k_iload 209 rfl gs_eq rfl ?_
          refine r_pI I137 212 rfl rfl rfl (fun h245 I246 => ?_)
          refine k_aload 213 rfl (gs_ne rfl rfl rfl) rfl ?_
          refine k_iload 214 rfl gs_eq rfl ?_
          refine k_push 216 rfl rfl ?_
          have hc247 : (92 : Int32).toInt = 92 := by decide
          by_cases b248 : x133 = (92 : Int32)
          · refine k_c2 249 rfl rfl (if_pos b248) ?_
            have b248 := iv_eq.mp b248
            refine k_push 250 rfl rfl ?_
            have hc249 : (3 : Int32).toInt = 3 := by decide
            refine k_goto 254 rfl rfl ?_
            refine r_pI I246 257 rfl rfl rfl (fun h250 I251 => ?_)
            refine k_aload 258 rfl (gs_ne rfl rfl rfl) rfl ?_
            refine k_dup 259 rfl rfl rfl ?_
            refine r_gI I251 262 rfl rfl rfl (fun x252 (e253 : x252.toInt = x117.toInt) => ?_)
            refine k_push 263 rfl rfl ?_
            have hc254 : (1 : Int32).toInt = 1 := by decide
            obtain ⟨x255, q256⟩ : ∃ q : Int32, q = (x252 + (1 : Int32)) := ⟨_, rfl⟩
            have e257 : x255.toInt = x252.toInt + 1 := by rw [q256, iv_add (by omega) (by omega)]; omega
            refine k_bin x255 264 rfl q256.symm rfl ?_
            refine r_pI I251 267 rfl rfl rfl (fun h258 I259 => ?_)
            exact k_fin rfl rfl ⟨_, _, _, rfl, I259, (fr1.up (by decide) (fr1.up (by decide) (fr1.up (by decide) (fr1.up (by decide) (fr1.up (by decide) fr1.rf))))), fr2.rf, ⟨(show (F0 8 ≤ x255.toInt ∧ x255.toInt ≤ F0 7) by omega), (show ((3 : Int32).toInt = 0 ∨ F0 8 < x255.toInt) by omega), (show ((3 : Int32).toInt = 2 → 0 ≤ x133.toInt ∧ x133.toInt ≤ 9) by omega), (show (0 ≤ (3 : Int32).toInt ∧ (3 : Int32).toInt ≤ 4) by omega), (show TKv tx (F0 8) (x255.toInt) ((3 : Int32).toInt) (x127.toInt) (x133.toInt) (F0 12) (F0 13) (F0 14) from tk_sg pT (by omega) (by omega) hts (by omega) (by omega) (by omega) (by omega) (by omega) (by omega) (by omega) (by omega))⟩⟩
          · refine k_c2 219 rfl rfl (if_neg b248) ?_
            have b248 := mt iv_eq.mpr b248
            refine k_iload 220 rfl gs_eq rfl ?_
            refine k_push 222 rfl rfl ?_
            have hc260 : (46 : Int32).toInt = 46 := by decide
            by_cases b261 : x133 = (46 : Int32)
            · refine k_c2 249 rfl rfl (if_pos b261) ?_
              have b261 := iv_eq.mp b261
              refine k_push 250 rfl rfl ?_
              have hc262 : (3 : Int32).toInt = 3 := by decide
              refine k_goto 254 rfl rfl ?_
              refine r_pI I246 257 rfl rfl rfl (fun h263 I264 => ?_)
              refine k_aload 258 rfl (gs_ne rfl rfl rfl) rfl ?_
              refine k_dup 259 rfl rfl rfl ?_
              refine r_gI I264 262 rfl rfl rfl (fun x265 (e266 : x265.toInt = x117.toInt) => ?_)
              refine k_push 263 rfl rfl ?_
              have hc267 : (1 : Int32).toInt = 1 := by decide
              obtain ⟨x268, q269⟩ : ∃ q : Int32, q = (x265 + (1 : Int32)) := ⟨_, rfl⟩
              have e270 : x268.toInt = x265.toInt + 1 := by rw [q269, iv_add (by omega) (by omega)]; omega
              refine k_bin x268 264 rfl q269.symm rfl ?_
              refine r_pI I264 267 rfl rfl rfl (fun h271 I272 => ?_)
              exact k_fin rfl rfl ⟨_, _, _, rfl, I272, (fr1.up (by decide) (fr1.up (by decide) (fr1.up (by decide) (fr1.up (by decide) (fr1.up (by decide) fr1.rf))))), fr2.rf, ⟨(show (F0 8 ≤ x268.toInt ∧ x268.toInt ≤ F0 7) by omega), (show ((3 : Int32).toInt = 0 ∨ F0 8 < x268.toInt) by omega), (show ((3 : Int32).toInt = 2 → 0 ≤ x133.toInt ∧ x133.toInt ≤ 9) by omega), (show (0 ≤ (3 : Int32).toInt ∧ (3 : Int32).toInt ≤ 4) by omega), (show TKv tx (F0 8) (x268.toInt) ((3 : Int32).toInt) (x127.toInt) (x133.toInt) (F0 12) (F0 13) (F0 14) from tk_sg pT (by omega) (by omega) hts (by omega) (by omega) (by omega) (by omega) (by omega) (by omega) (by omega) (by omega))⟩⟩
            · refine k_c2 225 rfl rfl (if_neg b261) ?_
              have b261 := mt iv_eq.mpr b261
              refine k_iload 226 rfl gs_eq rfl ?_
              refine k_push 228 rfl rfl ?_
              have hc273 : (61 : Int32).toInt = 61 := by decide
              by_cases b274 : x133 = (61 : Int32)
              · refine k_c2 249 rfl rfl (if_pos b274) ?_
                have b274 := iv_eq.mp b274
                refine k_push 250 rfl rfl ?_
                have hc275 : (3 : Int32).toInt = 3 := by decide
                refine k_goto 254 rfl rfl ?_
                refine r_pI I246 257 rfl rfl rfl (fun h276 I277 => ?_)
                refine k_aload 258 rfl (gs_ne rfl rfl rfl) rfl ?_
                refine k_dup 259 rfl rfl rfl ?_
                refine r_gI I277 262 rfl rfl rfl (fun x278 (e279 : x278.toInt = x117.toInt) => ?_)
                refine k_push 263 rfl rfl ?_
                have hc280 : (1 : Int32).toInt = 1 := by decide
                obtain ⟨x281, q282⟩ : ∃ q : Int32, q = (x278 + (1 : Int32)) := ⟨_, rfl⟩
                have e283 : x281.toInt = x278.toInt + 1 := by rw [q282, iv_add (by omega) (by omega)]; omega
                refine k_bin x281 264 rfl q282.symm rfl ?_
                refine r_pI I277 267 rfl rfl rfl (fun h284 I285 => ?_)
                exact k_fin rfl rfl ⟨_, _, _, rfl, I285, (fr1.up (by decide) (fr1.up (by decide) (fr1.up (by decide) (fr1.up (by decide) (fr1.up (by decide) fr1.rf))))), fr2.rf, ⟨(show (F0 8 ≤ x281.toInt ∧ x281.toInt ≤ F0 7) by omega), (show ((3 : Int32).toInt = 0 ∨ F0 8 < x281.toInt) by omega), (show ((3 : Int32).toInt = 2 → 0 ≤ x133.toInt ∧ x133.toInt ≤ 9) by omega), (show (0 ≤ (3 : Int32).toInt ∧ (3 : Int32).toInt ≤ 4) by omega), (show TKv tx (F0 8) (x281.toInt) ((3 : Int32).toInt) (x127.toInt) (x133.toInt) (F0 12) (F0 13) (F0 14) from tk_sg pT (by omega) (by omega) hts (by omega) (by omega) (by omega) (by omega) (by omega) (by omega) (by omega) (by omega))⟩⟩
              · refine k_c2 231 rfl rfl (if_neg b274) ?_
                have b274 := mt iv_eq.mpr b274
                refine k_iload 232 rfl gs_eq rfl ?_
                refine k_push 234 rfl rfl ?_
                have hc286 : (59 : Int32).toInt = 59 := by decide
                by_cases b287 : x133 = (59 : Int32)
                · refine k_c2 249 rfl rfl (if_pos b287) ?_
                  have b287 := iv_eq.mp b287
                  refine k_push 250 rfl rfl ?_
                  have hc288 : (3 : Int32).toInt = 3 := by decide
                  refine k_goto 254 rfl rfl ?_
                  refine r_pI I246 257 rfl rfl rfl (fun h289 I290 => ?_)
                  refine k_aload 258 rfl (gs_ne rfl rfl rfl) rfl ?_
                  refine k_dup 259 rfl rfl rfl ?_
                  refine r_gI I290 262 rfl rfl rfl (fun x291 (e292 : x291.toInt = x117.toInt) => ?_)
                  refine k_push 263 rfl rfl ?_
                  have hc293 : (1 : Int32).toInt = 1 := by decide
                  obtain ⟨x294, q295⟩ : ∃ q : Int32, q = (x291 + (1 : Int32)) := ⟨_, rfl⟩
                  have e296 : x294.toInt = x291.toInt + 1 := by rw [q295, iv_add (by omega) (by omega)]; omega
                  refine k_bin x294 264 rfl q295.symm rfl ?_
                  refine r_pI I290 267 rfl rfl rfl (fun h297 I298 => ?_)
                  exact k_fin rfl rfl ⟨_, _, _, rfl, I298, (fr1.up (by decide) (fr1.up (by decide) (fr1.up (by decide) (fr1.up (by decide) (fr1.up (by decide) fr1.rf))))), fr2.rf, ⟨(show (F0 8 ≤ x294.toInt ∧ x294.toInt ≤ F0 7) by omega), (show ((3 : Int32).toInt = 0 ∨ F0 8 < x294.toInt) by omega), (show ((3 : Int32).toInt = 2 → 0 ≤ x133.toInt ∧ x133.toInt ≤ 9) by omega), (show (0 ≤ (3 : Int32).toInt ∧ (3 : Int32).toInt ≤ 4) by omega), (show TKv tx (F0 8) (x294.toInt) ((3 : Int32).toInt) (x127.toInt) (x133.toInt) (F0 12) (F0 13) (F0 14) from tk_sg pT (by omega) (by omega) hts (by omega) (by omega) (by omega) (by omega) (by omega) (by omega) (by omega) (by omega))⟩⟩
                · refine k_c2 237 rfl rfl (if_neg b287) ?_
                  have b287 := mt iv_eq.mpr b287
                  refine k_iload 238 rfl gs_eq rfl ?_
                  refine k_push 240 rfl rfl ?_
                  have hc299 : (40 : Int32).toInt = 40 := by decide
                  by_cases b300 : x133 = (40 : Int32)
                  · refine k_c2 249 rfl rfl (if_pos b300) ?_
                    have b300 := iv_eq.mp b300
                    refine k_push 250 rfl rfl ?_
                    have hc301 : (3 : Int32).toInt = 3 := by decide
                    refine k_goto 254 rfl rfl ?_
                    refine r_pI I246 257 rfl rfl rfl (fun h302 I303 => ?_)
                    refine k_aload 258 rfl (gs_ne rfl rfl rfl) rfl ?_
                    refine k_dup 259 rfl rfl rfl ?_
                    refine r_gI I303 262 rfl rfl rfl (fun x304 (e305 : x304.toInt = x117.toInt) => ?_)
                    refine k_push 263 rfl rfl ?_
                    have hc306 : (1 : Int32).toInt = 1 := by decide
                    obtain ⟨x307, q308⟩ : ∃ q : Int32, q = (x304 + (1 : Int32)) := ⟨_, rfl⟩
                    have e309 : x307.toInt = x304.toInt + 1 := by rw [q308, iv_add (by omega) (by omega)]; omega
                    refine k_bin x307 264 rfl q308.symm rfl ?_
                    refine r_pI I303 267 rfl rfl rfl (fun h310 I311 => ?_)
                    exact k_fin rfl rfl ⟨_, _, _, rfl, I311, (fr1.up (by decide) (fr1.up (by decide) (fr1.up (by decide) (fr1.up (by decide) (fr1.up (by decide) fr1.rf))))), fr2.rf, ⟨(show (F0 8 ≤ x307.toInt ∧ x307.toInt ≤ F0 7) by omega), (show ((3 : Int32).toInt = 0 ∨ F0 8 < x307.toInt) by omega), (show ((3 : Int32).toInt = 2 → 0 ≤ x133.toInt ∧ x133.toInt ≤ 9) by omega), (show (0 ≤ (3 : Int32).toInt ∧ (3 : Int32).toInt ≤ 4) by omega), (show TKv tx (F0 8) (x307.toInt) ((3 : Int32).toInt) (x127.toInt) (x133.toInt) (F0 12) (F0 13) (F0 14) from tk_sg pT (by omega) (by omega) hts (by omega) (by omega) (by omega) (by omega) (by omega) (by omega) (by omega) (by omega))⟩⟩
                  · refine k_c2 243 rfl rfl (if_neg b300) ?_
                    have b300 := mt iv_eq.mpr b300
                    refine k_iload 244 rfl gs_eq rfl ?_
                    refine k_push 246 rfl rfl ?_
                    have hc312 : (41 : Int32).toInt = 41 := by decide
                    by_cases b313 : x133 = (41 : Int32)
                    · refine k_c2 249 rfl rfl (if_pos b313) ?_
                      have b313 := iv_eq.mp b313
                      refine k_push 250 rfl rfl ?_
                      have hc314 : (3 : Int32).toInt = 3 := by decide
                      refine k_goto 254 rfl rfl ?_
                      refine r_pI I246 257 rfl rfl rfl (fun h315 I316 => ?_)
                      refine k_aload 258 rfl (gs_ne rfl rfl rfl) rfl ?_
                      refine k_dup 259 rfl rfl rfl ?_
                      refine r_gI I316 262 rfl rfl rfl (fun x317 (e318 : x317.toInt = x117.toInt) => ?_)
                      refine k_push 263 rfl rfl ?_
                      have hc319 : (1 : Int32).toInt = 1 := by decide
                      obtain ⟨x320, q321⟩ : ∃ q : Int32, q = (x317 + (1 : Int32)) := ⟨_, rfl⟩
                      have e322 : x320.toInt = x317.toInt + 1 := by rw [q321, iv_add (by omega) (by omega)]; omega
                      refine k_bin x320 264 rfl q321.symm rfl ?_
                      refine r_pI I316 267 rfl rfl rfl (fun h323 I324 => ?_)
                      exact k_fin rfl rfl ⟨_, _, _, rfl, I324, (fr1.up (by decide) (fr1.up (by decide) (fr1.up (by decide) (fr1.up (by decide) (fr1.up (by decide) fr1.rf))))), fr2.rf, ⟨(show (F0 8 ≤ x320.toInt ∧ x320.toInt ≤ F0 7) by omega), (show ((3 : Int32).toInt = 0 ∨ F0 8 < x320.toInt) by omega), (show ((3 : Int32).toInt = 2 → 0 ≤ x133.toInt ∧ x133.toInt ≤ 9) by omega), (show (0 ≤ (3 : Int32).toInt ∧ (3 : Int32).toInt ≤ 4) by omega), (show TKv tx (F0 8) (x320.toInt) ((3 : Int32).toInt) (x127.toInt) (x133.toInt) (F0 12) (F0 13) (F0 14) from tk_sg pT (by omega) (by omega) hts (by omega) (by omega) (by omega) (by omega) (by omega) (by omega) (by omega) (by omega))⟩⟩
                    · refine k_c2 253 rfl rfl (if_neg b313) ?_
                      have b313 := mt iv_eq.mpr b313
                      refine k_push 254 rfl rfl ?_
                      have hc325 : (4 : Int32).toInt = 4 := by decide
                      refine r_pI I246 257 rfl rfl rfl (fun h326 I327 => ?_)
                      refine k_aload 258 rfl (gs_ne rfl rfl rfl) rfl ?_
                      refine k_dup 259 rfl rfl rfl ?_
                      refine r_gI I327 262 rfl rfl rfl (fun x328 (e329 : x328.toInt = x117.toInt) => ?_)
                      refine k_push 263 rfl rfl ?_
                      have hc330 : (1 : Int32).toInt = 1 := by decide
                      obtain ⟨x331, q332⟩ : ∃ q : Int32, q = (x328 + (1 : Int32)) := ⟨_, rfl⟩
                      have e333 : x331.toInt = x328.toInt + 1 := by rw [q332, iv_add (by omega) (by omega)]; omega
                      refine k_bin x331 264 rfl q332.symm rfl ?_
                      refine r_pI I327 267 rfl rfl rfl (fun h334 I335 => ?_)
                      exact k_fin rfl rfl ⟨_, _, _, rfl, I335, (fr1.up (by decide) (fr1.up (by decide) (fr1.up (by decide) (fr1.up (by decide) (fr1.up (by decide) fr1.rf))))), fr2.rf, ⟨(show (F0 8 ≤ x331.toInt ∧ x331.toInt ≤ F0 7) by omega), (show ((4 : Int32).toInt = 0 ∨ F0 8 < x331.toInt) by omega), (show ((4 : Int32).toInt = 2 → 0 ≤ x133.toInt ∧ x133.toInt ≤ 9) by omega), (show (0 ≤ (4 : Int32).toInt ∧ (4 : Int32).toInt ≤ 4) by omega), (show TKv tx (F0 8) (x331.toInt) ((4 : Int32).toInt) (x127.toInt) (x133.toInt) (F0 12) (F0 13) (F0 14) from tk_sg pT (by omega) (by omega) hts (by omega) (by omega) (by omega) (by omega) (by omega) (by omega) (by omega) (by omega))⟩⟩
        · refine k_c2 10 rfl rfl (if_neg b244) ?_
          have b244 := mt iv_lt.mpr b244
          refine k_push 11 rfl rfl ?_
          have hc336 : (1 : Int32).toInt = 1 := by decide
          refine k_goto 15 rfl rfl ?_
          refine k_fin rfl (fin_Z (Or.inr rfl)) ⟨_, _, rfl, rf_len I137 I137, ?_⟩
          show am_Ok _ _ _ (8, _, [.inl (1 : Int32)], _, 0, 0) _
          refine k_fin rfl (fin_Z (Or.inr rfl)) ⟨_, _, rfl, rf_len I137 I137, ?_⟩
          show am_Ok _ _ _ (149, _, [.inl (1 : Int32)], _, 0, 0) _
          refine k_c1 152 rfl rfl (if_neg (by decide)) ?_
          refine k_aload 153 rfl (gs_ne rfl rfl rfl) rfl ?_
          refine k_push 154 rfl rfl ?_
          have hc337 : (2 : Int32).toInt = 2 := by decide
          refine r_pI I137 157 rfl rfl rfl (fun h338 I339 => ?_)
          refine k_aload 158 rfl (gs_ne rfl rfl rfl) rfl ?_
          refine k_iload 159 rfl gs_eq rfl ?_
          refine k_push 161 rfl rfl ?_
          obtain ⟨x340, q341⟩ : ∃ q : Int32, q = (x133 - (48 : Int32)) := ⟨_, rfl⟩
          have e342 : x340.toInt = x133.toInt - 48 := by rw [q341, iv_sub (by omega) (by omega)]; omega
          refine k_bin x340 162 rfl q341.symm rfl ?_
          refine r_pI I339 165 rfl rfl rfl (fun h343 I344 => ?_)
          refine k_aload 166 rfl (gs_ne rfl rfl rfl) rfl ?_
          refine k_push 167 rfl rfl ?_
          refine r_pI I344 170 rfl rfl rfl (fun h345 I346 => ?_)
          exact b_X10_goes_170 (tx := tx)  p1 pT _  rfl (gs_ne rfl rfl rfl) gs_eq I346 (fr1.up (by decide) (fr1.up (by decide) (fr1.up (by decide) (fr1.up (by decide) (fr1.up (by decide) fr1.rf))))) fr2.rf (show F0 8 ≤ (x117.toInt) ∧ (x117.toInt) ≤ F0 7 ∧ (F0 8 < (x117.toInt) ∨ ((x117.toInt) < F0 7 ∧ 48 ≤ A0 3 ((x117.toInt)) ∧ A0 3 ((x117.toInt)) ≤ 57)) by omega) (show ((2 : Int32).toInt) = 2 ∧ 0 ≤ (x340.toInt) ∧ (x340.toInt) ≤ 9 ∧ (x340.toInt) = A0 3 ((x127.toInt)) - 48 by omega) (show FL tx ((x127.toInt)) ((x117.toInt)) (((0 : Int32).toInt)) from FL.z (by omega) (by omega) (by omega) (by omega)) (show (x127.toInt) = tS tx (F0 8) ∧ 0 ≤ (x127.toInt) ∧ (x127.toInt) < F0 7 ∧ 48 ≤ A0 3 ((x127.toInt)) ∧ A0 3 ((x127.toInt)) ≤ 57 by omega)
    · refine k_c2 5 rfl rfl (if_neg b148) ?_
      have b148 := mt iv_lt.mpr b148
      refine k_iload 6 rfl rfl rfl ?_
      refine k_iload 7 rfl rfl rfl ?_
      by_cases b347 : (122 : Int32) < x133
      · refine k_c2 14 rfl rfl (if_pos b347) ?_
        have b347 := iv_lt.mp b347
        refine k_push 15 rfl rfl ?_
        have hc348 : (0 : Int32).toInt = 0 := by decide
        refine k_fin rfl (fin_Z (Or.inl rfl)) ⟨_, _, rfl, rf_len I137 I137, ?_⟩
        show am_Ok _ _ _ (8, _, [.inl (0 : Int32)], _, 0, 0) _
        refine k_fin rfl (fin_Z (Or.inl rfl)) ⟨_, _, rfl, rf_len I137 I137, ?_⟩
        show am_Ok _ _ _ (46, _, [.inl (0 : Int32)], _, 0, 0) _
        refine k_c1 145 rfl rfl (if_pos (by decide)) ?_
        refine k_iload 146 rfl gs_eq rfl ?_
        refine k_in (d := 1) rfl rfl rfl rfl rfl ?_
        refine k_iload 1 rfl rfl rfl ?_
        refine k_push 3 rfl rfl ?_
        have hc349 : (48 : Int32).toInt = 48 := by decide
        refine k_push 5 rfl rfl ?_
        have hc350 : (57 : Int32).toInt = 57 := by decide
        refine k_in (d := 0) rfl rfl rfl rfl rfl ?_
        refine k_iload 1 rfl rfl rfl ?_
        refine k_iload 2 rfl rfl rfl ?_
        by_cases b351 : x133 < (48 : Int32)
        · refine k_c2 14 rfl rfl (if_pos b351) ?_
          have b351 := iv_lt.mp b351
          refine k_push 15 rfl rfl ?_
          refine k_fin rfl (fin_Z (Or.inl rfl)) ⟨_, _, rfl, rf_len I137 I137, ?_⟩
          show am_Ok _ _ _ (8, _, [.inl (0 : Int32)], _, 0, 0) _
          refine k_fin rfl (fin_Z (Or.inl rfl)) ⟨_, _, rfl, rf_len I137 I137, ?_⟩
          show am_Ok _ _ _ (149, _, [.inl (0 : Int32)], _, 0, 0) _
          refine k_c1 207 rfl rfl (if_pos (by decide)) ?_
          refine k_aload 208 rfl (gs_ne rfl rfl rfl) rfl ?_
          refine k_iload 209 rfl gs_eq rfl ?_
          refine r_pI I137 212 rfl rfl rfl (fun h352 I353 => ?_)
          refine k_aload 213 rfl (gs_ne rfl rfl rfl) rfl ?_
          refine k_iload 214 rfl gs_eq rfl ?_
          refine k_push 216 rfl rfl ?_
          have hc354 : (92 : Int32).toInt = 92 := by decide
          by_cases b355 : x133 = (92 : Int32)
          · refine k_c2 249 rfl rfl (if_pos b355) ?_
            have b355 := iv_eq.mp b355
            refine k_push 250 rfl rfl ?_
            have hc356 : (3 : Int32).toInt = 3 := by decide
            refine k_goto 254 rfl rfl ?_
            refine r_pI I353 257 rfl rfl rfl (fun h357 I358 => ?_)
            refine k_aload 258 rfl (gs_ne rfl rfl rfl) rfl ?_
            refine k_dup 259 rfl rfl rfl ?_
            refine r_gI I358 262 rfl rfl rfl (fun x359 (e360 : x359.toInt = x117.toInt) => ?_)
            refine k_push 263 rfl rfl ?_
            have hc361 : (1 : Int32).toInt = 1 := by decide
            obtain ⟨x362, q363⟩ : ∃ q : Int32, q = (x359 + (1 : Int32)) := ⟨_, rfl⟩
            have e364 : x362.toInt = x359.toInt + 1 := by rw [q363, iv_add (by omega) (by omega)]; omega
            refine k_bin x362 264 rfl q363.symm rfl ?_
            refine r_pI I358 267 rfl rfl rfl (fun h365 I366 => ?_)
            exact k_fin rfl rfl ⟨_, _, _, rfl, I366, (fr1.up (by decide) (fr1.up (by decide) (fr1.up (by decide) (fr1.up (by decide) (fr1.up (by decide) fr1.rf))))), fr2.rf, ⟨(show (F0 8 ≤ x362.toInt ∧ x362.toInt ≤ F0 7) by omega), (show ((3 : Int32).toInt = 0 ∨ F0 8 < x362.toInt) by omega), (show ((3 : Int32).toInt = 2 → 0 ≤ x133.toInt ∧ x133.toInt ≤ 9) by omega), (show (0 ≤ (3 : Int32).toInt ∧ (3 : Int32).toInt ≤ 4) by omega), (show TKv tx (F0 8) (x362.toInt) ((3 : Int32).toInt) (x127.toInt) (x133.toInt) (F0 12) (F0 13) (F0 14) from tk_sg pT (by omega) (by omega) hts (by omega) (by omega) (by omega) (by omega) (by omega) (by omega) (by omega) (by omega))⟩⟩
          · refine k_c2 219 rfl rfl (if_neg b355) ?_
            have b355 := mt iv_eq.mpr b355
            refine k_iload 220 rfl gs_eq rfl ?_
            refine k_push 222 rfl rfl ?_
            have hc367 : (46 : Int32).toInt = 46 := by decide
            by_cases b368 : x133 = (46 : Int32)
            · refine k_c2 249 rfl rfl (if_pos b368) ?_
              have b368 := iv_eq.mp b368
              refine k_push 250 rfl rfl ?_
              have hc369 : (3 : Int32).toInt = 3 := by decide
              refine k_goto 254 rfl rfl ?_
              refine r_pI I353 257 rfl rfl rfl (fun h370 I371 => ?_)
              refine k_aload 258 rfl (gs_ne rfl rfl rfl) rfl ?_
              refine k_dup 259 rfl rfl rfl ?_
              refine r_gI I371 262 rfl rfl rfl (fun x372 (e373 : x372.toInt = x117.toInt) => ?_)
              refine k_push 263 rfl rfl ?_
              have hc374 : (1 : Int32).toInt = 1 := by decide
              obtain ⟨x375, q376⟩ : ∃ q : Int32, q = (x372 + (1 : Int32)) := ⟨_, rfl⟩
              have e377 : x375.toInt = x372.toInt + 1 := by rw [q376, iv_add (by omega) (by omega)]; omega
              refine k_bin x375 264 rfl q376.symm rfl ?_
              refine r_pI I371 267 rfl rfl rfl (fun h378 I379 => ?_)
              exact k_fin rfl rfl ⟨_, _, _, rfl, I379, (fr1.up (by decide) (fr1.up (by decide) (fr1.up (by decide) (fr1.up (by decide) (fr1.up (by decide) fr1.rf))))), fr2.rf, ⟨(show (F0 8 ≤ x375.toInt ∧ x375.toInt ≤ F0 7) by omega), (show ((3 : Int32).toInt = 0 ∨ F0 8 < x375.toInt) by omega), (show ((3 : Int32).toInt = 2 → 0 ≤ x133.toInt ∧ x133.toInt ≤ 9) by omega), (show (0 ≤ (3 : Int32).toInt ∧ (3 : Int32).toInt ≤ 4) by omega), (show TKv tx (F0 8) (x375.toInt) ((3 : Int32).toInt) (x127.toInt) (x133.toInt) (F0 12) (F0 13) (F0 14) from tk_sg pT (by omega) (by omega) hts (by omega) (by omega) (by omega) (by omega) (by omega) (by omega) (by omega) (by omega))⟩⟩
            · refine k_c2 225 rfl rfl (if_neg b368) ?_
              have b368 := mt iv_eq.mpr b368
              refine k_iload 226 rfl gs_eq rfl ?_
              refine k_push 228 rfl rfl ?_
              have hc380 : (61 : Int32).toInt = 61 := by decide
              by_cases b381 : x133 = (61 : Int32)
              · refine k_c2 249 rfl rfl (if_pos b381) ?_
                have b381 := iv_eq.mp b381
                refine k_push 250 rfl rfl ?_
                have hc382 : (3 : Int32).toInt = 3 := by decide
                refine k_goto 254 rfl rfl ?_
                refine r_pI I353 257 rfl rfl rfl (fun h383 I384 => ?_)
                refine k_aload 258 rfl (gs_ne rfl rfl rfl) rfl ?_
                refine k_dup 259 rfl rfl rfl ?_
                refine r_gI I384 262 rfl rfl rfl (fun x385 (e386 : x385.toInt = x117.toInt) => ?_)
                refine k_push 263 rfl rfl ?_
                have hc387 : (1 : Int32).toInt = 1 := by decide
                obtain ⟨x388, q389⟩ : ∃ q : Int32, q = (x385 + (1 : Int32)) := ⟨_, rfl⟩
                have e390 : x388.toInt = x385.toInt + 1 := by rw [q389, iv_add (by omega) (by omega)]; omega
                refine k_bin x388 264 rfl q389.symm rfl ?_
                refine r_pI I384 267 rfl rfl rfl (fun h391 I392 => ?_)
                exact k_fin rfl rfl ⟨_, _, _, rfl, I392, (fr1.up (by decide) (fr1.up (by decide) (fr1.up (by decide) (fr1.up (by decide) (fr1.up (by decide) fr1.rf))))), fr2.rf, ⟨(show (F0 8 ≤ x388.toInt ∧ x388.toInt ≤ F0 7) by omega), (show ((3 : Int32).toInt = 0 ∨ F0 8 < x388.toInt) by omega), (show ((3 : Int32).toInt = 2 → 0 ≤ x133.toInt ∧ x133.toInt ≤ 9) by omega), (show (0 ≤ (3 : Int32).toInt ∧ (3 : Int32).toInt ≤ 4) by omega), (show TKv tx (F0 8) (x388.toInt) ((3 : Int32).toInt) (x127.toInt) (x133.toInt) (F0 12) (F0 13) (F0 14) from tk_sg pT (by omega) (by omega) hts (by omega) (by omega) (by omega) (by omega) (by omega) (by omega) (by omega) (by omega))⟩⟩
              · refine k_c2 231 rfl rfl (if_neg b381) ?_
                have b381 := mt iv_eq.mpr b381
                refine k_iload 232 rfl gs_eq rfl ?_
                refine k_push 234 rfl rfl ?_
                have hc393 : (59 : Int32).toInt = 59 := by decide
                by_cases b394 : x133 = (59 : Int32)
                · refine k_c2 249 rfl rfl (if_pos b394) ?_
                  have b394 := iv_eq.mp b394
                  refine k_push 250 rfl rfl ?_
                  have hc395 : (3 : Int32).toInt = 3 := by decide
                  refine k_goto 254 rfl rfl ?_
                  refine r_pI I353 257 rfl rfl rfl (fun h396 I397 => ?_)
                  refine k_aload 258 rfl (gs_ne rfl rfl rfl) rfl ?_
                  refine k_dup 259 rfl rfl rfl ?_
                  refine r_gI I397 262 rfl rfl rfl (fun x398 (e399 : x398.toInt = x117.toInt) => ?_)
                  refine k_push 263 rfl rfl ?_
                  have hc400 : (1 : Int32).toInt = 1 := by decide
                  obtain ⟨x401, q402⟩ : ∃ q : Int32, q = (x398 + (1 : Int32)) := ⟨_, rfl⟩
                  have e403 : x401.toInt = x398.toInt + 1 := by rw [q402, iv_add (by omega) (by omega)]; omega
                  refine k_bin x401 264 rfl q402.symm rfl ?_
                  refine r_pI I397 267 rfl rfl rfl (fun h404 I405 => ?_)
                  exact k_fin rfl rfl ⟨_, _, _, rfl, I405, (fr1.up (by decide) (fr1.up (by decide) (fr1.up (by decide) (fr1.up (by decide) (fr1.up (by decide) fr1.rf))))), fr2.rf, ⟨(show (F0 8 ≤ x401.toInt ∧ x401.toInt ≤ F0 7) by omega), (show ((3 : Int32).toInt = 0 ∨ F0 8 < x401.toInt) by omega), (show ((3 : Int32).toInt = 2 → 0 ≤ x133.toInt ∧ x133.toInt ≤ 9) by omega), (show (0 ≤ (3 : Int32).toInt ∧ (3 : Int32).toInt ≤ 4) by omega), (show TKv tx (F0 8) (x401.toInt) ((3 : Int32).toInt) (x127.toInt) (x133.toInt) (F0 12) (F0 13) (F0 14) from tk_sg pT (by omega) (by omega) hts (by omega) (by omega) (by omega) (by omega) (by omega) (by omega) (by omega) (by omega))⟩⟩
                · refine k_c2 237 rfl rfl (if_neg b394) ?_
                  have b394 := mt iv_eq.mpr b394
                  refine k_iload 238 rfl gs_eq rfl ?_
                  refine k_push 240 rfl rfl ?_
                  have hc406 : (40 : Int32).toInt = 40 := by decide
                  by_cases b407 : x133 = (40 : Int32)
                  · refine k_c2 249 rfl rfl (if_pos b407) ?_
                    have b407 := iv_eq.mp b407
                    refine k_push 250 rfl rfl ?_
                    have hc408 : (3 : Int32).toInt = 3 := by decide
                    refine k_goto 254 rfl rfl ?_
                    refine r_pI I353 257 rfl rfl rfl (fun h409 I410 => ?_)
                    refine k_aload 258 rfl (gs_ne rfl rfl rfl) rfl ?_
                    refine k_dup 259 rfl rfl rfl ?_
                    refine r_gI I410 262 rfl rfl rfl (fun x411 (e412 : x411.toInt = x117.toInt) => ?_)
                    refine k_push 263 rfl rfl ?_
                    have hc413 : (1 : Int32).toInt = 1 := by decide
                    obtain ⟨x414, q415⟩ : ∃ q : Int32, q = (x411 + (1 : Int32)) := ⟨_, rfl⟩
                    have e416 : x414.toInt = x411.toInt + 1 := by rw [q415, iv_add (by omega) (by omega)]; omega
                    refine k_bin x414 264 rfl q415.symm rfl ?_
                    refine r_pI I410 267 rfl rfl rfl (fun h417 I418 => ?_)
                    exact k_fin rfl rfl ⟨_, _, _, rfl, I418, (fr1.up (by decide) (fr1.up (by decide) (fr1.up (by decide) (fr1.up (by decide) (fr1.up (by decide) fr1.rf))))), fr2.rf, ⟨(show (F0 8 ≤ x414.toInt ∧ x414.toInt ≤ F0 7) by omega), (show ((3 : Int32).toInt = 0 ∨ F0 8 < x414.toInt) by omega), (show ((3 : Int32).toInt = 2 → 0 ≤ x133.toInt ∧ x133.toInt ≤ 9) by omega), (show (0 ≤ (3 : Int32).toInt ∧ (3 : Int32).toInt ≤ 4) by omega), (show TKv tx (F0 8) (x414.toInt) ((3 : Int32).toInt) (x127.toInt) (x133.toInt) (F0 12) (F0 13) (F0 14) from tk_sg pT (by omega) (by omega) hts (by omega) (by omega) (by omega) (by omega) (by omega) (by omega) (by omega) (by omega))⟩⟩
                  · refine k_c2 243 rfl rfl (if_neg b407) ?_
                    have b407 := mt iv_eq.mpr b407
                    refine k_iload 244 rfl gs_eq rfl ?_
                    refine k_push 246 rfl rfl ?_
                    have hc419 : (41 : Int32).toInt = 41 := by decide
                    by_cases b420 : x133 = (41 : Int32)
                    · refine k_c2 249 rfl rfl (if_pos b420) ?_
                      have b420 := iv_eq.mp b420
                      refine k_push 250 rfl rfl ?_
                      have hc421 : (3 : Int32).toInt = 3 := by decide
                      refine k_goto 254 rfl rfl ?_
                      refine r_pI I353 257 rfl rfl rfl (fun h422 I423 => ?_)
                      refine k_aload 258 rfl (gs_ne rfl rfl rfl) rfl ?_
                      refine k_dup 259 rfl rfl rfl ?_
                      refine r_gI I423 262 rfl rfl rfl (fun x424 (e425 : x424.toInt = x117.toInt) => ?_)
                      refine k_push 263 rfl rfl ?_
                      have hc426 : (1 : Int32).toInt = 1 := by decide
                      obtain ⟨x427, q428⟩ : ∃ q : Int32, q = (x424 + (1 : Int32)) := ⟨_, rfl⟩
                      have e429 : x427.toInt = x424.toInt + 1 := by rw [q428, iv_add (by omega) (by omega)]; omega
                      refine k_bin x427 264 rfl q428.symm rfl ?_
                      refine r_pI I423 267 rfl rfl rfl (fun h430 I431 => ?_)
                      exact k_fin rfl rfl ⟨_, _, _, rfl, I431, (fr1.up (by decide) (fr1.up (by decide) (fr1.up (by decide) (fr1.up (by decide) (fr1.up (by decide) fr1.rf))))), fr2.rf, ⟨(show (F0 8 ≤ x427.toInt ∧ x427.toInt ≤ F0 7) by omega), (show ((3 : Int32).toInt = 0 ∨ F0 8 < x427.toInt) by omega), (show ((3 : Int32).toInt = 2 → 0 ≤ x133.toInt ∧ x133.toInt ≤ 9) by omega), (show (0 ≤ (3 : Int32).toInt ∧ (3 : Int32).toInt ≤ 4) by omega), (show TKv tx (F0 8) (x427.toInt) ((3 : Int32).toInt) (x127.toInt) (x133.toInt) (F0 12) (F0 13) (F0 14) from tk_sg pT (by omega) (by omega) hts (by omega) (by omega) (by omega) (by omega) (by omega) (by omega) (by omega) (by omega))⟩⟩
                    · refine k_c2 253 rfl rfl (if_neg b420) ?_
                      have b420 := mt iv_eq.mpr b420
                      refine k_push 254 rfl rfl ?_
                      have hc432 : (4 : Int32).toInt = 4 := by decide
                      refine r_pI I353 257 rfl rfl rfl (fun h433 I434 => ?_)
                      refine k_aload 258 rfl (gs_ne rfl rfl rfl) rfl ?_
                      refine k_dup 259 rfl rfl rfl ?_
                      refine r_gI I434 262 rfl rfl rfl (fun x435 (e436 : x435.toInt = x117.toInt) => ?_)
                      refine k_push 263 rfl rfl ?_
                      have hc437 : (1 : Int32).toInt = 1 := by decide
                      obtain ⟨x438, q439⟩ : ∃ q : Int32, q = (x435 + (1 : Int32)) := ⟨_, rfl⟩
                      have e440 : x438.toInt = x435.toInt + 1 := by rw [q439, iv_add (by omega) (by omega)]; omega
                      refine k_bin x438 264 rfl q439.symm rfl ?_
                      refine r_pI I434 267 rfl rfl rfl (fun h441 I442 => ?_)
                      exact k_fin rfl rfl ⟨_, _, _, rfl, I442, (fr1.up (by decide) (fr1.up (by decide) (fr1.up (by decide) (fr1.up (by decide) (fr1.up (by decide) fr1.rf))))), fr2.rf, ⟨(show (F0 8 ≤ x438.toInt ∧ x438.toInt ≤ F0 7) by omega), (show ((4 : Int32).toInt = 0 ∨ F0 8 < x438.toInt) by omega), (show ((4 : Int32).toInt = 2 → 0 ≤ x133.toInt ∧ x133.toInt ≤ 9) by omega), (show (0 ≤ (4 : Int32).toInt ∧ (4 : Int32).toInt ≤ 4) by omega), (show TKv tx (F0 8) (x438.toInt) ((4 : Int32).toInt) (x127.toInt) (x133.toInt) (F0 12) (F0 13) (F0 14) from tk_sg pT (by omega) (by omega) hts (by omega) (by omega) (by omega) (by omega) (by omega) (by omega) (by omega) (by omega))⟩⟩
        · refine k_c2 5 rfl rfl (if_neg b351) ?_
          have b351 := mt iv_lt.mpr b351
          refine k_iload 6 rfl rfl rfl ?_
          refine k_iload 7 rfl rfl rfl ?_
          by_cases b443 : (57 : Int32) < x133
          · refine k_c2 14 rfl rfl (if_pos b443) ?_
            have b443 := iv_lt.mp b443
            refine k_push 15 rfl rfl ?_
            refine k_fin rfl (fin_Z (Or.inl rfl)) ⟨_, _, rfl, rf_len I137 I137, ?_⟩
            show am_Ok _ _ _ (8, _, [.inl (0 : Int32)], _, 0, 0) _
            refine k_fin rfl (fin_Z (Or.inl rfl)) ⟨_, _, rfl, rf_len I137 I137, ?_⟩
            show am_Ok _ _ _ (149, _, [.inl (0 : Int32)], _, 0, 0) _
            refine k_c1 207 rfl rfl (if_pos (by decide)) ?_
            refine k_aload 208 rfl (gs_ne rfl rfl rfl) rfl ?_
            refine k_iload 209 rfl gs_eq rfl ?_
            refine r_pI I137 212 rfl rfl rfl (fun h444 I445 => ?_)
            refine k_aload 213 rfl (gs_ne rfl rfl rfl) rfl ?_
            refine k_iload 214 rfl gs_eq rfl ?_
            refine k_push 216 rfl rfl ?_
            have hc446 : (92 : Int32).toInt = 92 := by decide
            by_cases b447 : x133 = (92 : Int32)
            · refine k_c2 249 rfl rfl (if_pos b447) ?_
              have b447 := iv_eq.mp b447
              refine k_push 250 rfl rfl ?_
              have hc448 : (3 : Int32).toInt = 3 := by decide
              refine k_goto 254 rfl rfl ?_
              refine r_pI I445 257 rfl rfl rfl (fun h449 I450 => ?_)
              refine k_aload 258 rfl (gs_ne rfl rfl rfl) rfl ?_
              refine k_dup 259 rfl rfl rfl ?_
              refine r_gI I450 262 rfl rfl rfl (fun x451 (e452 : x451.toInt = x117.toInt) => ?_)
              refine k_push 263 rfl rfl ?_
              have hc453 : (1 : Int32).toInt = 1 := by decide
              obtain ⟨x454, q455⟩ : ∃ q : Int32, q = (x451 + (1 : Int32)) := ⟨_, rfl⟩
              have e456 : x454.toInt = x451.toInt + 1 := by rw [q455, iv_add (by omega) (by omega)]; omega
              refine k_bin x454 264 rfl q455.symm rfl ?_
              refine r_pI I450 267 rfl rfl rfl (fun h457 I458 => ?_)
              exact k_fin rfl rfl ⟨_, _, _, rfl, I458, (fr1.up (by decide) (fr1.up (by decide) (fr1.up (by decide) (fr1.up (by decide) (fr1.up (by decide) fr1.rf))))), fr2.rf, ⟨(show (F0 8 ≤ x454.toInt ∧ x454.toInt ≤ F0 7) by omega), (show ((3 : Int32).toInt = 0 ∨ F0 8 < x454.toInt) by omega), (show ((3 : Int32).toInt = 2 → 0 ≤ x133.toInt ∧ x133.toInt ≤ 9) by omega), (show (0 ≤ (3 : Int32).toInt ∧ (3 : Int32).toInt ≤ 4) by omega), (show TKv tx (F0 8) (x454.toInt) ((3 : Int32).toInt) (x127.toInt) (x133.toInt) (F0 12) (F0 13) (F0 14) from tk_sg pT (by omega) (by omega) hts (by omega) (by omega) (by omega) (by omega) (by omega) (by omega) (by omega) (by omega))⟩⟩
            · refine k_c2 219 rfl rfl (if_neg b447) ?_
              have b447 := mt iv_eq.mpr b447
              refine k_iload 220 rfl gs_eq rfl ?_
              refine k_push 222 rfl rfl ?_
              have hc459 : (46 : Int32).toInt = 46 := by decide
              by_cases b460 : x133 = (46 : Int32)
              · refine k_c2 249 rfl rfl (if_pos b460) ?_
                have b460 := iv_eq.mp b460
                refine k_push 250 rfl rfl ?_
                have hc461 : (3 : Int32).toInt = 3 := by decide
                refine k_goto 254 rfl rfl ?_
                refine r_pI I445 257 rfl rfl rfl (fun h462 I463 => ?_)
                refine k_aload 258 rfl (gs_ne rfl rfl rfl) rfl ?_
                refine k_dup 259 rfl rfl rfl ?_
                refine r_gI I463 262 rfl rfl rfl (fun x464 (e465 : x464.toInt = x117.toInt) => ?_)
                refine k_push 263 rfl rfl ?_
                have hc466 : (1 : Int32).toInt = 1 := by decide
                obtain ⟨x467, q468⟩ : ∃ q : Int32, q = (x464 + (1 : Int32)) := ⟨_, rfl⟩
                have e469 : x467.toInt = x464.toInt + 1 := by rw [q468, iv_add (by omega) (by omega)]; omega
                refine k_bin x467 264 rfl q468.symm rfl ?_
                refine r_pI I463 267 rfl rfl rfl (fun h470 I471 => ?_)
                exact k_fin rfl rfl ⟨_, _, _, rfl, I471, (fr1.up (by decide) (fr1.up (by decide) (fr1.up (by decide) (fr1.up (by decide) (fr1.up (by decide) fr1.rf))))), fr2.rf, ⟨(show (F0 8 ≤ x467.toInt ∧ x467.toInt ≤ F0 7) by omega), (show ((3 : Int32).toInt = 0 ∨ F0 8 < x467.toInt) by omega), (show ((3 : Int32).toInt = 2 → 0 ≤ x133.toInt ∧ x133.toInt ≤ 9) by omega), (show (0 ≤ (3 : Int32).toInt ∧ (3 : Int32).toInt ≤ 4) by omega), (show TKv tx (F0 8) (x467.toInt) ((3 : Int32).toInt) (x127.toInt) (x133.toInt) (F0 12) (F0 13) (F0 14) from tk_sg pT (by omega) (by omega) hts (by omega) (by omega) (by omega) (by omega) (by omega) (by omega) (by omega) (by omega))⟩⟩
              · refine k_c2 225 rfl rfl (if_neg b460) ?_
                have b460 := mt iv_eq.mpr b460
                refine k_iload 226 rfl gs_eq rfl ?_
                refine k_push 228 rfl rfl ?_
                have hc472 : (61 : Int32).toInt = 61 := by decide
                by_cases b473 : x133 = (61 : Int32)
                · refine k_c2 249 rfl rfl (if_pos b473) ?_
                  have b473 := iv_eq.mp b473
                  refine k_push 250 rfl rfl ?_
                  have hc474 : (3 : Int32).toInt = 3 := by decide
                  refine k_goto 254 rfl rfl ?_
                  refine r_pI I445 257 rfl rfl rfl (fun h475 I476 => ?_)
                  refine k_aload 258 rfl (gs_ne rfl rfl rfl) rfl ?_
                  refine k_dup 259 rfl rfl rfl ?_
                  refine r_gI I476 262 rfl rfl rfl (fun x477 (e478 : x477.toInt = x117.toInt) => ?_)
                  refine k_push 263 rfl rfl ?_
                  have hc479 : (1 : Int32).toInt = 1 := by decide
                  obtain ⟨x480, q481⟩ : ∃ q : Int32, q = (x477 + (1 : Int32)) := ⟨_, rfl⟩
                  have e482 : x480.toInt = x477.toInt + 1 := by rw [q481, iv_add (by omega) (by omega)]; omega
                  refine k_bin x480 264 rfl q481.symm rfl ?_
                  refine r_pI I476 267 rfl rfl rfl (fun h483 I484 => ?_)
                  exact k_fin rfl rfl ⟨_, _, _, rfl, I484, (fr1.up (by decide) (fr1.up (by decide) (fr1.up (by decide) (fr1.up (by decide) (fr1.up (by decide) fr1.rf))))), fr2.rf, ⟨(show (F0 8 ≤ x480.toInt ∧ x480.toInt ≤ F0 7) by omega), (show ((3 : Int32).toInt = 0 ∨ F0 8 < x480.toInt) by omega), (show ((3 : Int32).toInt = 2 → 0 ≤ x133.toInt ∧ x133.toInt ≤ 9) by omega), (show (0 ≤ (3 : Int32).toInt ∧ (3 : Int32).toInt ≤ 4) by omega), (show TKv tx (F0 8) (x480.toInt) ((3 : Int32).toInt) (x127.toInt) (x133.toInt) (F0 12) (F0 13) (F0 14) from tk_sg pT (by omega) (by omega) hts (by omega) (by omega) (by omega) (by omega) (by omega) (by omega) (by omega) (by omega))⟩⟩
                · refine k_c2 231 rfl rfl (if_neg b473) ?_
                  have b473 := mt iv_eq.mpr b473
                  refine k_iload 232 rfl gs_eq rfl ?_
                  refine k_push 234 rfl rfl ?_
                  have hc485 : (59 : Int32).toInt = 59 := by decide
                  by_cases b486 : x133 = (59 : Int32)
                  · refine k_c2 249 rfl rfl (if_pos b486) ?_
                    have b486 := iv_eq.mp b486
                    refine k_push 250 rfl rfl ?_
                    have hc487 : (3 : Int32).toInt = 3 := by decide
                    refine k_goto 254 rfl rfl ?_
                    refine r_pI I445 257 rfl rfl rfl (fun h488 I489 => ?_)
                    refine k_aload 258 rfl (gs_ne rfl rfl rfl) rfl ?_
                    refine k_dup 259 rfl rfl rfl ?_
                    refine r_gI I489 262 rfl rfl rfl (fun x490 (e491 : x490.toInt = x117.toInt) => ?_)
                    refine k_push 263 rfl rfl ?_
                    have hc492 : (1 : Int32).toInt = 1 := by decide
                    obtain ⟨x493, q494⟩ : ∃ q : Int32, q = (x490 + (1 : Int32)) := ⟨_, rfl⟩
                    have e495 : x493.toInt = x490.toInt + 1 := by rw [q494, iv_add (by omega) (by omega)]; omega
                    refine k_bin x493 264 rfl q494.symm rfl ?_
                    refine r_pI I489 267 rfl rfl rfl (fun h496 I497 => ?_)
                    exact k_fin rfl rfl ⟨_, _, _, rfl, I497, (fr1.up (by decide) (fr1.up (by decide) (fr1.up (by decide) (fr1.up (by decide) (fr1.up (by decide) fr1.rf))))), fr2.rf, ⟨(show (F0 8 ≤ x493.toInt ∧ x493.toInt ≤ F0 7) by omega), (show ((3 : Int32).toInt = 0 ∨ F0 8 < x493.toInt) by omega), (show ((3 : Int32).toInt = 2 → 0 ≤ x133.toInt ∧ x133.toInt ≤ 9) by omega), (show (0 ≤ (3 : Int32).toInt ∧ (3 : Int32).toInt ≤ 4) by omega), (show TKv tx (F0 8) (x493.toInt) ((3 : Int32).toInt) (x127.toInt) (x133.toInt) (F0 12) (F0 13) (F0 14) from tk_sg pT (by omega) (by omega) hts (by omega) (by omega) (by omega) (by omega) (by omega) (by omega) (by omega) (by omega))⟩⟩
                  · refine k_c2 237 rfl rfl (if_neg b486) ?_
                    have b486 := mt iv_eq.mpr b486
                    refine k_iload 238 rfl gs_eq rfl ?_
                    refine k_push 240 rfl rfl ?_
                    have hc498 : (40 : Int32).toInt = 40 := by decide
                    by_cases b499 : x133 = (40 : Int32)
                    · refine k_c2 249 rfl rfl (if_pos b499) ?_
                      have b499 := iv_eq.mp b499
                      refine k_push 250 rfl rfl ?_
                      have hc500 : (3 : Int32).toInt = 3 := by decide
                      refine k_goto 254 rfl rfl ?_
                      refine r_pI I445 257 rfl rfl rfl (fun h501 I502 => ?_)
                      refine k_aload 258 rfl (gs_ne rfl rfl rfl) rfl ?_
                      refine k_dup 259 rfl rfl rfl ?_
                      refine r_gI I502 262 rfl rfl rfl (fun x503 (e504 : x503.toInt = x117.toInt) => ?_)
                      refine k_push 263 rfl rfl ?_
                      have hc505 : (1 : Int32).toInt = 1 := by decide
                      obtain ⟨x506, q507⟩ : ∃ q : Int32, q = (x503 + (1 : Int32)) := ⟨_, rfl⟩
                      have e508 : x506.toInt = x503.toInt + 1 := by rw [q507, iv_add (by omega) (by omega)]; omega
                      refine k_bin x506 264 rfl q507.symm rfl ?_
                      refine r_pI I502 267 rfl rfl rfl (fun h509 I510 => ?_)
                      exact k_fin rfl rfl ⟨_, _, _, rfl, I510, (fr1.up (by decide) (fr1.up (by decide) (fr1.up (by decide) (fr1.up (by decide) (fr1.up (by decide) fr1.rf))))), fr2.rf, ⟨(show (F0 8 ≤ x506.toInt ∧ x506.toInt ≤ F0 7) by omega), (show ((3 : Int32).toInt = 0 ∨ F0 8 < x506.toInt) by omega), (show ((3 : Int32).toInt = 2 → 0 ≤ x133.toInt ∧ x133.toInt ≤ 9) by omega), (show (0 ≤ (3 : Int32).toInt ∧ (3 : Int32).toInt ≤ 4) by omega), (show TKv tx (F0 8) (x506.toInt) ((3 : Int32).toInt) (x127.toInt) (x133.toInt) (F0 12) (F0 13) (F0 14) from tk_sg pT (by omega) (by omega) hts (by omega) (by omega) (by omega) (by omega) (by omega) (by omega) (by omega) (by omega))⟩⟩
                    · refine k_c2 243 rfl rfl (if_neg b499) ?_
                      have b499 := mt iv_eq.mpr b499
                      refine k_iload 244 rfl gs_eq rfl ?_
                      refine k_push 246 rfl rfl ?_
                      have hc511 : (41 : Int32).toInt = 41 := by decide
                      by_cases b512 : x133 = (41 : Int32)
                      · refine k_c2 249 rfl rfl (if_pos b512) ?_
                        have b512 := iv_eq.mp b512
                        refine k_push 250 rfl rfl ?_
                        have hc513 : (3 : Int32).toInt = 3 := by decide
                        refine k_goto 254 rfl rfl ?_
                        refine r_pI I445 257 rfl rfl rfl (fun h514 I515 => ?_)
                        refine k_aload 258 rfl (gs_ne rfl rfl rfl) rfl ?_
                        refine k_dup 259 rfl rfl rfl ?_
                        refine r_gI I515 262 rfl rfl rfl (fun x516 (e517 : x516.toInt = x117.toInt) => ?_)
                        refine k_push 263 rfl rfl ?_
                        have hc518 : (1 : Int32).toInt = 1 := by decide
                        obtain ⟨x519, q520⟩ : ∃ q : Int32, q = (x516 + (1 : Int32)) := ⟨_, rfl⟩
                        have e521 : x519.toInt = x516.toInt + 1 := by rw [q520, iv_add (by omega) (by omega)]; omega
                        refine k_bin x519 264 rfl q520.symm rfl ?_
                        refine r_pI I515 267 rfl rfl rfl (fun h522 I523 => ?_)
                        exact k_fin rfl rfl ⟨_, _, _, rfl, I523, (fr1.up (by decide) (fr1.up (by decide) (fr1.up (by decide) (fr1.up (by decide) (fr1.up (by decide) fr1.rf))))), fr2.rf, ⟨(show (F0 8 ≤ x519.toInt ∧ x519.toInt ≤ F0 7) by omega), (show ((3 : Int32).toInt = 0 ∨ F0 8 < x519.toInt) by omega), (show ((3 : Int32).toInt = 2 → 0 ≤ x133.toInt ∧ x133.toInt ≤ 9) by omega), (show (0 ≤ (3 : Int32).toInt ∧ (3 : Int32).toInt ≤ 4) by omega), (show TKv tx (F0 8) (x519.toInt) ((3 : Int32).toInt) (x127.toInt) (x133.toInt) (F0 12) (F0 13) (F0 14) from tk_sg pT (by omega) (by omega) hts (by omega) (by omega) (by omega) (by omega) (by omega) (by omega) (by omega) (by omega))⟩⟩
                      · refine k_c2 253 rfl rfl (if_neg b512) ?_
                        have b512 := mt iv_eq.mpr b512
                        refine k_push 254 rfl rfl ?_
                        have hc524 : (4 : Int32).toInt = 4 := by decide
                        refine r_pI I445 257 rfl rfl rfl (fun h525 I526 => ?_)
                        refine k_aload 258 rfl (gs_ne rfl rfl rfl) rfl ?_
                        refine k_dup 259 rfl rfl rfl ?_
                        refine r_gI I526 262 rfl rfl rfl (fun x527 (e528 : x527.toInt = x117.toInt) => ?_)
                        refine k_push 263 rfl rfl ?_
                        have hc529 : (1 : Int32).toInt = 1 := by decide
                        obtain ⟨x530, q531⟩ : ∃ q : Int32, q = (x527 + (1 : Int32)) := ⟨_, rfl⟩
                        have e532 : x530.toInt = x527.toInt + 1 := by rw [q531, iv_add (by omega) (by omega)]; omega
                        refine k_bin x530 264 rfl q531.symm rfl ?_
                        refine r_pI I526 267 rfl rfl rfl (fun h533 I534 => ?_)
                        exact k_fin rfl rfl ⟨_, _, _, rfl, I534, (fr1.up (by decide) (fr1.up (by decide) (fr1.up (by decide) (fr1.up (by decide) (fr1.up (by decide) fr1.rf))))), fr2.rf, ⟨(show (F0 8 ≤ x530.toInt ∧ x530.toInt ≤ F0 7) by omega), (show ((4 : Int32).toInt = 0 ∨ F0 8 < x530.toInt) by omega), (show ((4 : Int32).toInt = 2 → 0 ≤ x133.toInt ∧ x133.toInt ≤ 9) by omega), (show (0 ≤ (4 : Int32).toInt ∧ (4 : Int32).toInt ≤ 4) by omega), (show TKv tx (F0 8) (x530.toInt) ((4 : Int32).toInt) (x127.toInt) (x133.toInt) (F0 12) (F0 13) (F0 14) from tk_sg pT (by omega) (by omega) hts (by omega) (by omega) (by omega) (by omega) (by omega) (by omega) (by omega) (by omega))⟩⟩
          · refine k_c2 10 rfl rfl (if_neg b443) ?_
            have b443 := mt iv_lt.mpr b443
            refine k_push 11 rfl rfl ?_
            have hc535 : (1 : Int32).toInt = 1 := by decide
            refine k_goto 15 rfl rfl ?_
            refine k_fin rfl (fin_Z (Or.inr rfl)) ⟨_, _, rfl, rf_len I137 I137, ?_⟩
            show am_Ok _ _ _ (8, _, [.inl (1 : Int32)], _, 0, 0) _
            refine k_fin rfl (fin_Z (Or.inr rfl)) ⟨_, _, rfl, rf_len I137 I137, ?_⟩
            show am_Ok _ _ _ (149, _, [.inl (1 : Int32)], _, 0, 0) _
            refine k_c1 152 rfl rfl (if_neg (by decide)) ?_
            refine k_aload 153 rfl (gs_ne rfl rfl rfl) rfl ?_
            refine k_push 154 rfl rfl ?_
            have hc536 : (2 : Int32).toInt = 2 := by decide
            refine r_pI I137 157 rfl rfl rfl (fun h537 I538 => ?_)
            refine k_aload 158 rfl (gs_ne rfl rfl rfl) rfl ?_
            refine k_iload 159 rfl gs_eq rfl ?_
            refine k_push 161 rfl rfl ?_
            obtain ⟨x539, q540⟩ : ∃ q : Int32, q = (x133 - (48 : Int32)) := ⟨_, rfl⟩
            have e541 : x539.toInt = x133.toInt - 48 := by rw [q540, iv_sub (by omega) (by omega)]; omega
            refine k_bin x539 162 rfl q540.symm rfl ?_
            refine r_pI I538 165 rfl rfl rfl (fun h542 I543 => ?_)
            refine k_aload 166 rfl (gs_ne rfl rfl rfl) rfl ?_
            refine k_push 167 rfl rfl ?_
            refine r_pI I543 170 rfl rfl rfl (fun h544 I545 => ?_)
            exact b_X10_goes_170 (tx := tx)  p1 pT _  rfl (gs_ne rfl rfl rfl) gs_eq I545 (fr1.up (by decide) (fr1.up (by decide) (fr1.up (by decide) (fr1.up (by decide) (fr1.up (by decide) fr1.rf))))) fr2.rf (show F0 8 ≤ (x117.toInt) ∧ (x117.toInt) ≤ F0 7 ∧ (F0 8 < (x117.toInt) ∨ ((x117.toInt) < F0 7 ∧ 48 ≤ A0 3 ((x117.toInt)) ∧ A0 3 ((x117.toInt)) ≤ 57)) by omega) (show ((2 : Int32).toInt) = 2 ∧ 0 ≤ (x539.toInt) ∧ (x539.toInt) ≤ 9 ∧ (x539.toInt) = A0 3 ((x127.toInt)) - 48 by omega) (show FL tx ((x127.toInt)) ((x117.toInt)) (((0 : Int32).toInt)) from FL.z (by omega) (by omega) (by omega) (by omega)) (show (x127.toInt) = tS tx (F0 8) ∧ 0 ≤ (x127.toInt) ∧ (x127.toInt) < F0 7 ∧ 48 ≤ A0 3 ((x127.toInt)) ∧ A0 3 ((x127.toInt)) ≤ 57 by omega)
      · refine k_c2 10 rfl rfl (if_neg b347) ?_
        have b347 := mt iv_lt.mpr b347
        refine k_push 11 rfl rfl ?_
        have hc546 : (1 : Int32).toInt = 1 := by decide
        refine k_goto 15 rfl rfl ?_
        refine k_fin rfl (fin_Z (Or.inr rfl)) ⟨_, _, rfl, rf_len I137 I137, ?_⟩
        show am_Ok _ _ _ (8, _, [.inl (1 : Int32)], _, 0, 0) _
        refine k_fin rfl (fin_Z (Or.inr rfl)) ⟨_, _, rfl, rf_len I137 I137, ?_⟩
        show am_Ok _ _ _ (46, _, [.inl (1 : Int32)], _, 0, 0) _
        refine k_c1 49 rfl rfl (if_neg (by decide)) ?_
        refine k_aload 50 rfl (gs_ne rfl rfl rfl) rfl ?_
        refine k_push 51 rfl rfl ?_
        refine r_pI I137 54 rfl rfl rfl (fun h547 I548 => ?_)
        refine k_aload 55 rfl (gs_ne rfl rfl rfl) rfl ?_
        refine k_push 56 rfl rfl ?_
        have hj549 : (0 : Int64).toInt = 0 := by decide
        refine r_pJ I548 59 rfl rfl rfl (fun h550 I551 => ?_)
        refine k_aload 60 rfl (gs_ne rfl rfl rfl) rfl ?_
        refine k_push 61 rfl rfl ?_
        have hc552 : (0 : Int32).toInt = 0 := by decide
        refine r_pI I551 64 rfl rfl rfl (fun h553 I554 => ?_)
        exact b_X10_goes_64 (tx := tx)  p1 pT _  rfl (gs_ne rfl rfl rfl) gs_eq I554 (fr1.up (by decide) (fr1.up (by decide) (fr1.up (by decide) (fr1.up (by decide) (fr1.up (by decide) fr1.rf))))) fr2.rf (show F0 8 ≤ (x117.toInt) ∧ (x117.toInt) ≤ F0 7 ∧ (F0 8 < (x117.toInt) ∨ ((x117.toInt) < F0 7 ∧ 97 ≤ A0 3 ((x117.toInt)) ∧ A0 3 ((x117.toInt)) ≤ 122)) by omega) (show ((1 : Int32).toInt) = 1 by omega) (show WL tx ((x127.toInt)) ((x117.toInt)) (((0 : Int32).toInt)) (((0 : Int64).toInt)) from WL.z (by omega) (by omega) (by omega) (by omega) (by omega)) (show (x127.toInt) = tS tx (F0 8) ∧ 0 ≤ (x127.toInt) ∧ (x127.toInt) < F0 7 ∧ 97 ≤ A0 3 ((x127.toInt)) ∧ A0 3 ((x127.toInt)) ≤ 122 by omega)
theorem m_emits {h0 : am_h} {F0 : rf_f} {A0 : rf_A} {w1 : Int32}  (hR : rf_R h0 F0 A0) (p1 : 0 ≤ F0 23 ∧ F0 23 ≤ 1000000) : am_Mt 1 173 [.inr (.inr (some 81)), .inl w1] h0 (rf_V h0 (fun F' A' => fr1 [23] F0 F' ∧ fr2 [22] A0 A' ∧ ((F0 23 ≤ F' 23 ∧ F' 23 ≤ 1000000) ∧ (F' 23 ≤ 124 → F' 23 = F0 23 + 1) ∧ imp (F' 23 ≤ 124) (A' 22 (F0 23) = w1.toInt ∧ ∀ q : Int, q ≠ F0 23 → A' 22 q = A0 22 q) ∧ ((F0 23 < 1000000 → F' 23 = F0 23 + 1) ∧ (¬ F0 23 < 1000000 → F' 23 = F0 23))))) := by
  refine am_Mt.of (D := 0) ?_
  have hI : rf_I h0 h0 F0 A0 := rf_I.start hR
  refine k_aload 1 rfl rfl rfl ?_
  refine r_gI hI 4 rfl rfl rfl (fun x1 (e2 : x1.toInt = F0 23) => ?_)
  refine k_push 6 rfl rfl ?_
  have hc3 : (124 : Int32).toInt = 124 := by decide
  by_cases b4 : (124 : Int32) ≤ x1
  · refine k_c2 19 rfl rfl (if_pos b4) ?_
    have b4 := iv_le.mp b4
    refine k_aload 20 rfl rfl rfl ?_
    refine k_aload 21 rfl rfl rfl ?_
    refine r_gI hI 24 rfl rfl rfl (fun x5 (e6 : x5.toInt = F0 23) => ?_)
    refine k_push 26 rfl rfl ?_
    have hc7 : (1000000 : Int32).toInt = 1000000 := by decide
    by_cases b8 : (1000000 : Int32) ≤ x5
    · refine k_c2 38 rfl rfl (if_pos b8) ?_
      have b8 := iv_le.mp b8
      refine k_aload 39 rfl rfl rfl ?_
      refine r_gI hI 42 rfl rfl rfl (fun x9 (e10 : x9.toInt = F0 23) => ?_)
      refine r_pI hI 45 rfl rfl rfl (fun h11 I12 => ?_)
      exact k_fin rfl rfl ⟨_, _, _, rfl, I12, (fr1.up (by decide) fr1.rf), fr2.rf, ⟨(show F0 23 ≤ x9.toInt ∧ x9.toInt ≤ 1000000 by omega), (show x9.toInt ≤ 124 → x9.toInt = F0 23 + 1 by omega), fun z => by have z : x9.toInt ≤ 124 := z; exfalso; omega, (show ((F0 23 < 1000000 → x9.toInt = F0 23 + 1) ∧ (¬ F0 23 < 1000000 → x9.toInt = F0 23)) by omega)⟩⟩
    · refine k_c2 29 rfl rfl (if_neg b8) ?_
      have b8 := mt iv_le.mpr b8
      refine k_aload 30 rfl rfl rfl ?_
      refine r_gI hI 33 rfl rfl rfl (fun x13 (e14 : x13.toInt = F0 23) => ?_)
      refine k_push 34 rfl rfl ?_
      have hc15 : (1 : Int32).toInt = 1 := by decide
      obtain ⟨x16, q17⟩ : ∃ q : Int32, q = (x13 + (1 : Int32)) := ⟨_, rfl⟩
      have e18 : x16.toInt = x13.toInt + 1 := by rw [q17, iv_add (by omega) (by omega)]; omega
      refine k_bin x16 35 rfl q17.symm rfl ?_
      refine k_goto 42 rfl rfl ?_
      refine r_pI hI 45 rfl rfl rfl (fun h19 I20 => ?_)
      exact k_fin rfl rfl ⟨_, _, _, rfl, I20, (fr1.up (by decide) fr1.rf), fr2.rf, ⟨(show F0 23 ≤ x16.toInt ∧ x16.toInt ≤ 1000000 by omega), (show x16.toInt ≤ 124 → x16.toInt = F0 23 + 1 by omega), fun z => by have z : x16.toInt ≤ 124 := z; exfalso; omega, (show ((F0 23 < 1000000 → x16.toInt = F0 23 + 1) ∧ (¬ F0 23 < 1000000 → x16.toInt = F0 23)) by omega)⟩⟩
  · refine k_c2 9 rfl rfl (if_neg b4) ?_
    have b4 := mt iv_le.mpr b4
    refine k_aload 10 rfl rfl rfl ?_
    refine r_gA hI 13 rfl rfl rfl ?_
    refine k_aload 14 rfl rfl rfl ?_
    refine r_gI hI 17 rfl rfl rfl (fun x21 (e22 : x21.toInt = F0 23) => ?_)
    refine k_iload 18 rfl rfl rfl ?_
    refine r_st 22 hI 19 rfl rfl (by omega) (show x21.toInt < 130 by omega) rfl (fun h23 I24 => ?_)
    refine k_aload 20 rfl rfl rfl ?_
    refine k_aload 21 rfl rfl rfl ?_
    refine r_gI I24 24 rfl rfl rfl (fun x25 (e26 : x25.toInt = F0 23) => ?_)
    refine k_push 26 rfl rfl ?_
    have hc27 : (1000000 : Int32).toInt = 1000000 := by decide
    by_cases b28 : (1000000 : Int32) ≤ x25
    · refine k_c2 38 rfl rfl (if_pos b28) ?_
      have b28 := iv_le.mp b28
      refine k_aload 39 rfl rfl rfl ?_
      refine r_gI I24 42 rfl rfl rfl (fun x29 (e30 : x29.toInt = F0 23) => ?_)
      refine r_pI I24 45 rfl rfl rfl (fun h31 I32 => ?_)
      exact k_fin rfl rfl ⟨_, _, _, rfl, I32, (fr1.up (by decide) fr1.rf), (fr2.up (by decide) fr2.rf), ⟨(show F0 23 ≤ x29.toInt ∧ x29.toInt ≤ 1000000 by omega), (show x29.toInt ≤ 124 → x29.toInt = F0 23 + 1 by omega), fun z => ⟨by rw [show F0 23 = x21.toInt by omega]; exact up2_eq, fun q hq => up2_ne (by omega)⟩, (show ((F0 23 < 1000000 → x29.toInt = F0 23 + 1) ∧ (¬ F0 23 < 1000000 → x29.toInt = F0 23)) by omega)⟩⟩
    · refine k_c2 29 rfl rfl (if_neg b28) ?_
      have b28 := mt iv_le.mpr b28
      refine k_aload 30 rfl rfl rfl ?_
      refine r_gI I24 33 rfl rfl rfl (fun x33 (e34 : x33.toInt = F0 23) => ?_)
      refine k_push 34 rfl rfl ?_
      have hc35 : (1 : Int32).toInt = 1 := by decide
      obtain ⟨x36, q37⟩ : ∃ q : Int32, q = (x33 + (1 : Int32)) := ⟨_, rfl⟩
      have e38 : x36.toInt = x33.toInt + 1 := by rw [q37, iv_add (by omega) (by omega)]; omega
      refine k_bin x36 35 rfl q37.symm rfl ?_
      refine k_goto 42 rfl rfl ?_
      refine r_pI I24 45 rfl rfl rfl (fun h39 I40 => ?_)
      exact k_fin rfl rfl ⟨_, _, _, rfl, I40, (fr1.up (by decide) fr1.rf), (fr2.up (by decide) fr2.rf), ⟨(show F0 23 ≤ x36.toInt ∧ x36.toInt ≤ 1000000 by omega), (show x36.toInt ≤ 124 → x36.toInt = F0 23 + 1 by omega), fun z => ⟨by rw [show F0 23 = x21.toInt by omega]; exact up2_eq, fun q hq => up2_ne (by omega)⟩, (show ((F0 23 < 1000000 → x36.toInt = F0 23 + 1) ∧ (¬ F0 23 < 1000000 → x36.toInt = F0 23)) by omega)⟩⟩
theorem ea_1 {A : rf_A} {t : Int → Int} {Q : Prop} {n x y b : Int} {a : Nat} (h : Q → ∀ q : Int, n < q → q ≤ b → A a q = t (q - 1)) (hm : y = n - 1) (hx : x = t (n - 1)) {i : Int} (hi : i = n) : Q → ∀ q : Int, y < q → q ≤ b → up2 A a i x a q = t (q - 1) := by
  intro z q q1 q2
  by_cases e : q = i
  · rw [e]
    exact up2_eq.trans (hx.trans (by rw [hi]))
  · rw [up2_ne e]
    exact h z q (by omega) q2
theorem b_X10_emitsAhead_19 {h0 : am_h} {F0 : rf_f} {A0 : rf_A} {w1 : Int32} {w2 : Int32}  (p1 : 0 ≤ F0 23 ∧ F0 23 ≤ 1000000) (p2 : 0 ≤ w1.toInt ∧ w1.toInt ≤ F0 23) : ∀ (n : Nat) {lv : am_l} {h : am_h} {F : rf_f} {A : rf_A} {v1 : Int32} {v2 : Int32} {v3 : Int32}, ((v3.toInt).toNat) = n → am_get lv 0 = some (.inr (.inr (some 81))) → am_get lv 1 = some (.inl v1) → am_get lv 2 = some (.inl v2) → am_get lv 3 = some (.inl v3) → rf_I h0 h F A → fr1 [23] F0 F → fr2 [22] A0 A → (v1.toInt = w1.toInt ∧ v2.toInt = w2.toInt) → (0 ≤ v3.toInt ∧ v3.toInt ≤ 123 ∧ (F0 23 ≤ 123 → w1.toInt ≤ v3.toInt ∧ v3.toInt ≤ F0 23)) → (∀ q : Int, q ≤ v3.toInt → A 22 q = A0 22 q) → (F0 23 ≤ 123 → ∀ q : Int, v3.toInt < q → q ≤ F0 23 → A 22 q = A0 22 (q - 1)) → (F 23 = F0 23) → am_Ok am_G 0 174 (19, lv, [], h, 0, 0) (rf_V h0 (fun F' A' => fr1 [23] F0 F' ∧ fr2 [22] A0 A' ∧ ((F0 23 ≤ F' 23 ∧ F' 23 ≤ 1000000) ∧ (F' 23 ≤ 124 → F' 23 = F0 23 + 1) ∧ imp (F' 23 ≤ 124) (A' 22 w1.toInt = w2.toInt ∧ (∀ q : Int, q < w1.toInt → A' 22 q = A0 22 q) ∧ ∀ q : Int, w1.toInt ≤ q → q < F0 23 → A' 22 (q + 1) = A0 22 q) ∧ ((F0 23 < 1000000 → F' 23 = F0 23 + 1) ∧ (¬ F0 23 < 1000000 → F' 23 = F0 23))))) := by
  intro n
  induction n using Nat.strongRecOn with
  | ind n ih =>
    intro lv h F A v1 v2 v3 hn g0 g1 g2 g3 hI hF hA i1 i2 i3 i4 i5
    refine k_iload 20 rfl g3 rfl ?_
    refine k_iload 21 rfl g1 rfl ?_
    by_cases b1 : v3 ≤ v1
    · refine k_c2 44 rfl rfl (if_pos b1) ?_
      have b1 := iv_le.mp b1
      refine k_iload 45 rfl g1 rfl ?_
      refine k_push 47 rfl rfl ?_
      have hc2 : (124 : Int32).toInt = 124 := by decide
      by_cases b3 : (124 : Int32) ≤ v1
      · refine k_c2 57 rfl rfl (if_pos b3) ?_
        have b3 := iv_le.mp b3
        refine k_aload 58 rfl g0 rfl ?_
        refine k_aload 59 rfl g0 rfl ?_
        refine r_gI hI 62 rfl rfl rfl (fun x4 (e5 : x4.toInt = F 23) => ?_)
        refine k_push 64 rfl rfl ?_
        have hc6 : (1000000 : Int32).toInt = 1000000 := by decide
        by_cases b7 : (1000000 : Int32) ≤ x4
        · refine k_c2 76 rfl rfl (if_pos b7) ?_
          have b7 := iv_le.mp b7
          refine k_aload 77 rfl g0 rfl ?_
          refine r_gI hI 80 rfl rfl rfl (fun x8 (e9 : x8.toInt = F 23) => ?_)
          refine r_pI hI 83 rfl rfl rfl (fun h10 I11 => ?_)
          exact k_fin rfl rfl ⟨_, _, _, rfl, I11, (fr1.up (by decide) hF), hA, ⟨(show F0 23 ≤ x8.toInt ∧ x8.toInt ≤ 1000000 by omega), (show x8.toInt ≤ 124 → x8.toInt = F0 23 + 1 by omega), fun z => by have z : x8.toInt ≤ 124 := z; exfalso; omega, (show ((F0 23 < 1000000 → x8.toInt = F0 23 + 1) ∧ (¬ F0 23 < 1000000 → x8.toInt = F0 23)) by omega)⟩⟩
        · refine k_c2 67 rfl rfl (if_neg b7) ?_
          have b7 := mt iv_le.mpr b7
          refine k_aload 68 rfl g0 rfl ?_
          refine r_gI hI 71 rfl rfl rfl (fun x12 (e13 : x12.toInt = F 23) => ?_)
          refine k_push 72 rfl rfl ?_
          have hc14 : (1 : Int32).toInt = 1 := by decide
          obtain ⟨x15, q16⟩ : ∃ q : Int32, q = (x12 + (1 : Int32)) := ⟨_, rfl⟩
          have e17 : x15.toInt = x12.toInt + 1 := by rw [q16, iv_add (by omega) (by omega)]; omega
          refine k_bin x15 73 rfl q16.symm rfl ?_
          refine k_goto 80 rfl rfl ?_
          refine r_pI hI 83 rfl rfl rfl (fun h18 I19 => ?_)
          exact k_fin rfl rfl ⟨_, _, _, rfl, I19, (fr1.up (by decide) hF), hA, ⟨(show F0 23 ≤ x15.toInt ∧ x15.toInt ≤ 1000000 by omega), (show x15.toInt ≤ 124 → x15.toInt = F0 23 + 1 by omega), fun z => by have z : x15.toInt ≤ 124 := z; exfalso; omega, (show ((F0 23 < 1000000 → x15.toInt = F0 23 + 1) ∧ (¬ F0 23 < 1000000 → x15.toInt = F0 23)) by omega)⟩⟩
      · refine k_c2 50 rfl rfl (if_neg b3) ?_
        have b3 := mt iv_le.mpr b3
        refine k_aload 51 rfl g0 rfl ?_
        refine r_gA hI 54 rfl rfl rfl ?_
        refine k_iload 55 rfl g1 rfl ?_
        refine k_iload 56 rfl g2 rfl ?_
        refine r_st 22 hI 57 rfl rfl (by omega) (show v1.toInt < 130 by omega) rfl (fun h20 I21 => ?_)
        refine k_aload 58 rfl g0 rfl ?_
        refine k_aload 59 rfl g0 rfl ?_
        refine r_gI I21 62 rfl rfl rfl (fun x22 (e23 : x22.toInt = F 23) => ?_)
        refine k_push 64 rfl rfl ?_
        have hc24 : (1000000 : Int32).toInt = 1000000 := by decide
        by_cases b25 : (1000000 : Int32) ≤ x22
        · refine k_c2 76 rfl rfl (if_pos b25) ?_
          have b25 := iv_le.mp b25
          refine k_aload 77 rfl g0 rfl ?_
          refine r_gI I21 80 rfl rfl rfl (fun x26 (e27 : x26.toInt = F 23) => ?_)
          refine r_pI I21 83 rfl rfl rfl (fun h28 I29 => ?_)
          exact k_fin rfl rfl ⟨_, _, _, rfl, I29, (fr1.up (by decide) hF), (fr2.up (by decide) hA), ⟨(show F0 23 ≤ x26.toInt ∧ x26.toInt ≤ 1000000 by omega), (show x26.toInt ≤ 124 → x26.toInt = F0 23 + 1 by omega), fun z => by have z : x26.toInt ≤ 124 := z; exact ⟨by rw [← i1.1, ← i1.2]; exact up2_eq, fun q hq => (up2_ne (by omega)).trans (i3 q (by omega)), fun q q1 q2 => (up2_ne (by omega)).trans ((i4 (by omega) (q + 1) (by omega) (by omega)).trans (congrArg (A0 22) (by omega)))⟩, (show ((F0 23 < 1000000 → x26.toInt = F0 23 + 1) ∧ (¬ F0 23 < 1000000 → x26.toInt = F0 23)) by omega)⟩⟩
        · refine k_c2 67 rfl rfl (if_neg b25) ?_
          have b25 := mt iv_le.mpr b25
          refine k_aload 68 rfl g0 rfl ?_
          refine r_gI I21 71 rfl rfl rfl (fun x30 (e31 : x30.toInt = F 23) => ?_)
          refine k_push 72 rfl rfl ?_
          have hc32 : (1 : Int32).toInt = 1 := by decide
          obtain ⟨x33, q34⟩ : ∃ q : Int32, q = (x30 + (1 : Int32)) := ⟨_, rfl⟩
          have e35 : x33.toInt = x30.toInt + 1 := by rw [q34, iv_add (by omega) (by omega)]; omega
          refine k_bin x33 73 rfl q34.symm rfl ?_
          refine k_goto 80 rfl rfl ?_
          refine r_pI I21 83 rfl rfl rfl (fun h36 I37 => ?_)
          exact k_fin rfl rfl ⟨_, _, _, rfl, I37, (fr1.up (by decide) hF), (fr2.up (by decide) hA), ⟨(show F0 23 ≤ x33.toInt ∧ x33.toInt ≤ 1000000 by omega), (show x33.toInt ≤ 124 → x33.toInt = F0 23 + 1 by omega), fun z => by have z : x33.toInt ≤ 124 := z; exact ⟨by rw [← i1.1, ← i1.2]; exact up2_eq, fun q hq => (up2_ne (by omega)).trans (i3 q (by omega)), fun q q1 q2 => (up2_ne (by omega)).trans ((i4 (by omega) (q + 1) (by omega) (by omega)).trans (congrArg (A0 22) (by omega)))⟩, (show ((F0 23 < 1000000 → x33.toInt = F0 23 + 1) ∧ (¬ F0 23 < 1000000 → x33.toInt = F0 23)) by omega)⟩⟩
    · refine k_c2 24 rfl rfl (if_neg b1) ?_
      have b1 := mt iv_le.mpr b1
      refine k_aload 25 rfl g0 rfl ?_
      refine r_gA hI 28 rfl rfl rfl ?_
      refine k_iload 29 rfl g3 rfl ?_
      refine k_aload 30 rfl g0 rfl ?_
      refine r_gA hI 33 rfl rfl rfl ?_
      refine k_iload 34 rfl g3 rfl ?_
      refine k_push 35 rfl rfl ?_
      have hc38 : (1 : Int32).toInt = 1 := by decide
      obtain ⟨x39, q40⟩ : ∃ q : Int32, q = (v3 - (1 : Int32)) := ⟨_, rfl⟩
      have e41 : x39.toInt = v3.toInt - 1 := by rw [q40, iv_sub (by omega) (by omega)]; omega
      refine k_bin x39 36 rfl q40.symm rfl ?_
      refine r_ld 22 hI 37 rfl rfl (by omega) (show x39.toInt < 130 by omega) rfl (fun x42 (e43 : x42.toInt = A 22 x39.toInt) => ?_)
      rw [e41] at e43
      have hx9 : x42.toInt = A0 22 (v3.toInt - 1) := by rw [e43, i3 _ (by omega)]
      refine r_st 22 hI 38 rfl rfl (by omega) (show v3.toInt < 130 by omega) rfl (fun h44 I45 => ?_)
      have hc46 : (-1 : Int32).toInt = -1 := by decide
      obtain ⟨x47, q48⟩ : ∃ q : Int32, q = v3 + (-1 : Int32) := ⟨_, rfl⟩
      have e49 : x47.toInt = v3.toInt + -1 := by rw [q48, iv_add (by omega) (by omega)]; omega
      refine k_iinc x47 41 rfl g3 q48.symm rfl ?_
      refine k_goto 19 rfl rfl ?_
      exact ih _ (show ((x47.toInt).toNat) < n by omega)  rfl (gs_ne rfl rfl g0) (gs_ne rfl rfl g1) (gs_ne rfl rfl g2) gs_eq I45 hF (fr2.up (by decide) hA) (show v1.toInt = w1.toInt ∧ v2.toInt = w2.toInt by omega) (show 0 ≤ x47.toInt ∧ x47.toInt ≤ 123 ∧ (F0 23 ≤ 123 → w1.toInt ≤ x47.toInt ∧ x47.toInt ≤ F0 23) by omega) (fun q hq => (up2_ne (by omega)).trans (i3 q (by omega))) (ea_1 i4 (by omega) hx9 rfl) (show (F 23) = F0 23 by omega)
theorem m_emitsAhead {h0 : am_h} {F0 : rf_f} {A0 : rf_A} {w1 : Int32} {w2 : Int32}  (hR : rf_R h0 F0 A0) (p1 : 0 ≤ F0 23 ∧ F0 23 ≤ 1000000) (p2 : 0 ≤ w1.toInt ∧ w1.toInt ≤ F0 23) : am_Mt 1 174 [.inr (.inr (some 81)), .inl w1, .inl w2] h0 (rf_V h0 (fun F' A' => fr1 [23] F0 F' ∧ fr2 [22] A0 A' ∧ ((F0 23 ≤ F' 23 ∧ F' 23 ≤ 1000000) ∧ (F' 23 ≤ 124 → F' 23 = F0 23 + 1) ∧ imp (F' 23 ≤ 124) (A' 22 w1.toInt = w2.toInt ∧ (∀ q : Int, q < w1.toInt → A' 22 q = A0 22 q) ∧ ∀ q : Int, w1.toInt ≤ q → q < F0 23 → A' 22 (q + 1) = A0 22 q) ∧ ((F0 23 < 1000000 → F' 23 = F0 23 + 1) ∧ (¬ F0 23 < 1000000 → F' 23 = F0 23))))) := by
  refine am_Mt.of (D := 0) ?_
  have hI : rf_I h0 h0 F0 A0 := rf_I.start hR
  refine k_aload 1 rfl rfl rfl ?_
  refine r_gI hI 4 rfl rfl rfl (fun x50 (e51 : x50.toInt = F0 23) => ?_)
  refine k_push 6 rfl rfl ?_
  have hc52 : (124 : Int32).toInt = 124 := by decide
  by_cases b53 : (124 : Int32) ≤ x50
  · refine k_c2 16 rfl rfl (if_pos b53) ?_
    have b53 := iv_le.mp b53
    refine k_push 18 rfl rfl ?_
    have hc54 : (123 : Int32).toInt = 123 := by decide
    refine k_istore 19 rfl rfl ?_
    exact b_X10_emitsAhead_19  (w1 := w1) (w2 := w2) p1 p2 _  rfl (gs_ne rfl rfl rfl) (gs_ne rfl rfl rfl) (gs_ne rfl rfl rfl) gs_eq hI fr1.rf fr2.rf (show w1.toInt = w1.toInt ∧ w2.toInt = w2.toInt by omega) (show 0 ≤ (123 : Int32).toInt ∧ (123 : Int32).toInt ≤ 123 ∧ (F0 23 ≤ 123 → w1.toInt ≤ (123 : Int32).toInt ∧ (123 : Int32).toInt ≤ F0 23) by omega) (fun q _ => rfl) (fun z q q1 q2 => by exfalso; omega) (show (F0 23) = F0 23 by omega)
  · refine k_c2 9 rfl rfl (if_neg b53) ?_
    have b53 := mt iv_le.mpr b53
    refine k_aload 10 rfl rfl rfl ?_
    refine r_gI hI 13 rfl rfl rfl (fun x55 (e56 : x55.toInt = F0 23) => ?_)
    refine k_goto 18 rfl rfl ?_
    refine k_istore 19 rfl rfl ?_
    exact b_X10_emitsAhead_19  (w1 := w1) (w2 := w2) p1 p2 _  rfl (gs_ne rfl rfl rfl) (gs_ne rfl rfl rfl) (gs_ne rfl rfl rfl) gs_eq hI fr1.rf fr2.rf (show w1.toInt = w1.toInt ∧ w2.toInt = w2.toInt by omega) (show 0 ≤ x55.toInt ∧ x55.toInt ≤ 123 ∧ (F0 23 ≤ 123 → w1.toInt ≤ x55.toInt ∧ x55.toInt ≤ F0 23) by omega) (fun q _ => rfl) (fun z q q1 q2 => by exfalso; omega) (show (F0 23) = F0 23 by omega)
theorem b_X10_nameOf_2 {h0 : am_h} {F0 : rf_f} {A0 : rf_A} {w1 : Int64}  (p1 : 0 ≤ F0 18 ∧ F0 18 ≤ 12) : ∀ (n : Nat) {lv : am_l} {h : am_h} {F : rf_f} {A : rf_A} {v1 : Int64} {v3 : Int32}, ((12 - v3.toInt).toNat) = n → am_get lv 0 = some (.inr (.inr (some 81))) → am_get lv 1 = some (.inr (.inl v1)) → am_get lv 3 = some (.inl v3) → rf_I h0 h F A → fr1 [] F0 F → fr2 [] A0 A → (0 ≤ v3.toInt ∧ v3.toInt ≤ F0 18) → (∀ k : Int, 0 ≤ k → k < v3.toInt → A0 15 k ≠ w1.toInt) → (v1.toInt = w1.toInt) → am_Ok am_G 0 175 (2, lv, [], h, 0, 0) (rf_Q h0 (fun x F' A' => fr1 [] F0 F' ∧ fr2 [] A0 A' ∧ ((x = -1 ∨ (0 ≤ x ∧ x < F0 18)) ∧ (∀ k : Int, 0 ≤ k → k < F0 18 → (x = -1 ∨ k < x) → A0 15 k ≠ w1.toInt) ∧ (x ≠ -1 → A0 15 x = w1.toInt)))) := by
  intro n
  induction n using Nat.strongRecOn with
  | ind n ih =>
    intro lv h F A v1 v3 hn g0 g1 g3 hI hF hA i1 i2 i3
    refine k_iload 3 rfl g3 rfl ?_
    refine k_aload 4 rfl g0 rfl ?_
    refine r_gI hI 7 rfl rfl rfl (fun x1 (e2 : x1.toInt = F 18) => ?_)
    have e3 : F 18 = F0 18 := hF 18 (by decide)
    by_cases b4 : x1 ≤ v3
    · refine k_c2 29 rfl rfl (if_pos b4) ?_
      have b4 := iv_le.mp b4
      refine k_push 30 rfl rfl ?_
      have hc5 : (-1 : Int32).toInt = -1 := by decide
      exact k_fin rfl rfl ⟨_, _, _, _, rfl, hI, hF, hA, ⟨by omega, fun k k1 k2 k3 => i2 k k1 (by omega), fun z => absurd (show (-1 : Int32).toInt = -1 by omega) z⟩⟩
    · refine k_c2 10 rfl rfl (if_neg b4) ?_
      have b4 := mt iv_le.mpr b4
      refine k_aload 11 rfl g0 rfl ?_
      refine r_gA hI 14 rfl rfl rfl ?_
      refine k_iload 15 rfl g3 rfl ?_
      refine r_lld 15 hI 16 rfl rfl (by omega) (show v3.toInt < 12 by omega) rfl (fun x6 (e7 : x6.toInt = A 15 v3.toInt) => ?_)
      have e8 : A 15 = A0 15 := hA 15 (by decide)
      rw [e8] at e7
      have hld := e7
      refine k_lload 17 rfl g1 rfl ?_
      refine k_binL 18 rfl rfl ?_
      generalize q10 : lg_cmp x6 v1 = y9
      have e11 := jc_eq q10
      by_cases b12 : y9 = 0
      · refine k_c1 21 rfl rfl (if_pos b12) ?_
        have b12 := iv_eq0.mp b12
        refine k_iload 22 rfl g3 rfl ?_
        exact k_fin rfl rfl ⟨_, _, _, _, rfl, hI, hF, hA, ⟨by omega, fun k k1 k2 k3 => i2 k k1 (by omega), fun _ => by omega⟩⟩
      · refine k_c1 23 rfl rfl (if_neg b12) ?_
        have b12 := mt iv_eq0.mpr b12
        have hc13 : (1 : Int32).toInt = 1 := by decide
        obtain ⟨x14, q15⟩ : ∃ q : Int32, q = v3 + (1 : Int32) := ⟨_, rfl⟩
        have e16 : x14.toInt = v3.toInt + 1 := by rw [q15, iv_add (by omega) (by omega)]; omega
        refine k_iinc x14 26 rfl g3 q15.symm rfl ?_
        refine k_goto 2 rfl rfl ?_
        exact ih _ (show ((12 - x14.toInt).toNat) < n by omega)  rfl (gs_ne rfl rfl g0) (gs_ne rfl rfl g1) gs_eq hI hF hA (show 0 ≤ x14.toInt ∧ x14.toInt ≤ F0 18 by omega) (fun k k1 k2 => by by_cases z : k = v3.toInt; exact (by rw [z]; omega); exact i2 k k1 (by omega)) (i3)
theorem m_nameOf {h0 : am_h} {F0 : rf_f} {A0 : rf_A} {w1 : Int64}  (hR : rf_R h0 F0 A0) (p1 : 0 ≤ F0 18 ∧ F0 18 ≤ 12) : am_Mt 1 175 [.inr (.inr (some 81)), .inr (.inl w1)] h0 (rf_Q h0 (fun x F' A' => fr1 [] F0 F' ∧ fr2 [] A0 A' ∧ ((x = -1 ∨ (0 ≤ x ∧ x < F0 18)) ∧ (∀ k : Int, 0 ≤ k → k < F0 18 → (x = -1 ∨ k < x) → A0 15 k ≠ w1.toInt) ∧ (x ≠ -1 → A0 15 x = w1.toInt)))) := by
  refine am_Mt.of (D := 0) ?_
  have hI : rf_I h0 h0 F0 A0 := rf_I.start hR
  refine k_push 1 rfl rfl ?_
  have hc17 : (0 : Int32).toInt = 0 := by decide
  refine k_istore 2 rfl rfl ?_
  exact b_X10_nameOf_2  (w1 := w1) p1 _  rfl (gs_ne rfl rfl rfl) (gs_ne rfl rfl rfl) gs_eq hI fr1.rf fr2.rf (show 0 ≤ (0 : Int32).toInt ∧ (0 : Int32).toInt ≤ F0 18 by omega) (fun k k1 k2 => absurd k2 (by omega)) (rfl)
theorem pi_1 {u v t P : Int → Int} {a b m s x y : Int} (h : (∀ k : Int, 0 ≤ k → k < m → v (a + k) = P (s + k)) ∧ ∀ q : Int, q < a → v q = t q) (h1 : u b = x ∧ ∀ q : Int, q ≠ b → u q = v q) (hb : b = a + m) (hm : 0 ≤ m) (hx : x = P (s + m)) (hy : y = m + 1) : (∀ k : Int, 0 ≤ k → k < y → u (a + k) = P (s + k)) ∧ ∀ q : Int, q < a → u q = t q := by
  subst hy
  refine ⟨fun k k1 k2 => ?_, fun q hq => by rw [h1.2 q (by omega)]; exact h.2 q hq⟩
  by_cases e : k = m
  · rw [e, ← hb, h1.1]
    exact hx
  · rw [h1.2 _ (by omega)]
    exact h.1 k k1 (by omega)
theorem b_X10_putsIn_44 {h0 : am_h} {F0 : rf_f} {A0 : rf_A} {w1 : Int32}  (p1 : 0 ≤ F0 23 ∧ F0 23 ≤ 1000000) (p2 : 0 ≤ w1.toInt ∧ w1.toInt < 12 ∧ 0 ≤ A0 17 w1.toInt ∧ A0 17 w1.toInt ≤ 1000000) : ∀ (n : Nat) {lv : am_l} {h : am_h} {F : rf_f} {A : rf_A} {v1 : Int32} {v2 : Int32} {v3 : Int32}, ((1000000 - v3.toInt).toNat) = n → am_get lv 0 = some (.inr (.inr (some 81))) → am_get lv 1 = some (.inl v1) → am_get lv 2 = some (.inl v2) → am_get lv 3 = some (.inl v3) → rf_I h0 h F A → fr1 [23] F0 F → fr2 [22] A0 A → (v1.toInt = w1.toInt ∧ v2.toInt = A0 17 w1.toInt ∧ 124 ≤ v3.toInt) → (F0 23 ≤ F 23 ∧ F 23 ≤ 1000000 ∧ (v2.toInt ≤ 124 → F 23 ≤ 124 → F 23 = F0 23 + A0 17 w1.toInt) ∧ (124 < v2.toInt → 124 ≤ F 23 ∧ (124 < v3.toInt → 124 < F 23))) → (v2.toInt ≤ 124 → F 23 ≤ 124 → (∀ k : Int, 0 ≤ k → k < A0 17 w1.toInt → A 22 (F0 23 + k) = A0 16 (124 * w1.toInt + k)) ∧ ∀ q : Int, q < F0 23 → A 22 q = A0 22 q) → ((v2.toInt ≤ 124 → F 23 = min (F0 23 + v2.toInt) 1000000) ∧ (124 < v2.toInt → v3.toInt ≤ v2.toInt ∧ F 23 = min (F0 23 + v3.toInt) 1000000)) → am_Ok am_G 1 176 (44, lv, [], h, 0, 0) (rf_V h0 (fun F' A' => fr1 [23] F0 F' ∧ fr2 [22] A0 A' ∧ ((F0 23 ≤ F' 23 ∧ F' 23 ≤ 1000000) ∧ (F' 23 ≤ 124 → F' 23 = F0 23 + A0 17 w1.toInt) ∧ imp (F' 23 ≤ 124) ((∀ k : Int, 0 ≤ k → k < A0 17 w1.toInt → A' 22 (F0 23 + k) = A0 16 (124 * w1.toInt + k)) ∧ ∀ q : Int, q < F0 23 → A' 22 q = A0 22 q) ∧ F' 23 = min (F0 23 + A0 17 w1.toInt) 1000000))) := by
  intro n
  induction n using Nat.strongRecOn with
  | ind n ih =>
    intro lv h F A v1 v2 v3 hn g0 g1 g2 g3 hI hF hA i1 i2 i3 i9
    refine k_iload 45 rfl g3 rfl ?_
    refine k_iload 46 rfl g2 rfl ?_
    by_cases b1 : v2 ≤ v3
    · refine k_c2 81 rfl rfl (if_pos b1) ?_
      have b1 := iv_le.mp b1
      exact k_fin rfl rfl ⟨_, _, _, rfl, hI, hF, hA, ⟨(show F0 23 ≤ F 23 ∧ F 23 ≤ 1000000 by omega), (show F 23 ≤ 124 → F 23 = F0 23 + A0 17 w1.toInt by omega), fun z => i3 (by have z9 : F 23 ≤ 124 := z; omega) z, (show F 23 = min (F0 23 + A0 17 w1.toInt) 1000000 by omega)⟩⟩
    · refine k_c2 49 rfl rfl (if_neg b1) ?_
      have b1 := mt iv_le.mpr b1
      refine k_aload 50 rfl g0 rfl ?_
      refine k_aload 51 rfl g0 rfl ?_
      refine r_gI hI 54 rfl rfl rfl (fun x2 (e3 : x2.toInt = F 23) => ?_)
      refine k_push 56 rfl rfl ?_
      have hc4 : (1000000 : Int32).toInt = 1000000 := by decide
      by_cases b5 : (1000000 : Int32) ≤ x2
      · refine k_c2 68 rfl rfl (if_pos b5) ?_
        have b5 := iv_le.mp b5
        refine k_aload 69 rfl g0 rfl ?_
        refine r_gI hI 72 rfl rfl rfl (fun x6 (e7 : x6.toInt = F 23) => ?_)
        refine r_pI hI 75 rfl rfl rfl (fun h8 I9 => ?_)
        have hc10 : (1 : Int32).toInt = 1 := by decide
        obtain ⟨x11, q12⟩ : ∃ q : Int32, q = v3 + (1 : Int32) := ⟨_, rfl⟩
        have e13 : x11.toInt = v3.toInt + 1 := by rw [q12, iv_add (by omega) (by omega)]; omega
        refine k_iinc x11 78 rfl g3 q12.symm rfl ?_
        refine k_goto 44 rfl rfl ?_
        exact ih _ (show ((1000000 - x11.toInt).toNat) < n by omega)  rfl (gs_ne rfl rfl g0) (gs_ne rfl rfl g1) (gs_ne rfl rfl g2) gs_eq I9 (fr1.up (by decide) hF) hA (show v1.toInt = w1.toInt ∧ v2.toInt = A0 17 w1.toInt ∧ 124 ≤ x11.toInt by omega) (show F0 23 ≤ (x6.toInt) ∧ (x6.toInt) ≤ 1000000 ∧ (v2.toInt ≤ 124 → (x6.toInt) ≤ 124 → (x6.toInt) = F0 23 + A0 17 w1.toInt) ∧ (124 < v2.toInt → 124 ≤ (x6.toInt) ∧ (124 < x11.toInt → 124 < (x6.toInt))) by omega) (fun z8 z => i3 z8 (by have z9 : x6.toInt ≤ 124 := z; omega)) (show (v2.toInt ≤ 124 → (x6.toInt) = min (F0 23 + v2.toInt) 1000000) ∧ (124 < v2.toInt → x11.toInt ≤ v2.toInt ∧ (x6.toInt) = min (F0 23 + x11.toInt) 1000000) by omega)
      · refine k_c2 59 rfl rfl (if_neg b5) ?_
        have b5 := mt iv_le.mpr b5
        refine k_aload 60 rfl g0 rfl ?_
        refine r_gI hI 63 rfl rfl rfl (fun x14 (e15 : x14.toInt = F 23) => ?_)
        refine k_push 64 rfl rfl ?_
        have hc16 : (1 : Int32).toInt = 1 := by decide
        obtain ⟨x17, q18⟩ : ∃ q : Int32, q = (x14 + (1 : Int32)) := ⟨_, rfl⟩
        have e19 : x17.toInt = x14.toInt + 1 := by rw [q18, iv_add (by omega) (by omega)]; omega
        refine k_bin x17 65 rfl q18.symm rfl ?_
        refine k_goto 72 rfl rfl ?_
        refine r_pI hI 75 rfl rfl rfl (fun h20 I21 => ?_)
        obtain ⟨x22, q23⟩ : ∃ q : Int32, q = v3 + (1 : Int32) := ⟨_, rfl⟩
        have e24 : x22.toInt = v3.toInt + 1 := by rw [q23, iv_add (by omega) (by omega)]; omega
        refine k_iinc x22 78 rfl g3 q23.symm rfl ?_
        refine k_goto 44 rfl rfl ?_
        exact ih _ (show ((1000000 - x22.toInt).toNat) < n by omega)  rfl (gs_ne rfl rfl g0) (gs_ne rfl rfl g1) (gs_ne rfl rfl g2) gs_eq I21 (fr1.up (by decide) hF) hA (show v1.toInt = w1.toInt ∧ v2.toInt = A0 17 w1.toInt ∧ 124 ≤ x22.toInt by omega) (show F0 23 ≤ (x17.toInt) ∧ (x17.toInt) ≤ 1000000 ∧ (v2.toInt ≤ 124 → (x17.toInt) ≤ 124 → (x17.toInt) = F0 23 + A0 17 w1.toInt) ∧ (124 < v2.toInt → 124 ≤ (x17.toInt) ∧ (124 < x22.toInt → 124 < (x17.toInt))) by omega) (fun z8 z => i3 z8 (by have z9 : x17.toInt ≤ 124 := z; omega)) (show (v2.toInt ≤ 124 → (x17.toInt) = min (F0 23 + v2.toInt) 1000000) ∧ (124 < v2.toInt → x22.toInt ≤ v2.toInt ∧ (x17.toInt) = min (F0 23 + x22.toInt) 1000000) by omega)
theorem b_X10_putsIn_9 {h0 : am_h} {F0 : rf_f} {A0 : rf_A} {w1 : Int32}  (p1 : 0 ≤ F0 23 ∧ F0 23 ≤ 1000000) (p2 : 0 ≤ w1.toInt ∧ w1.toInt < 12 ∧ 0 ≤ A0 17 w1.toInt ∧ A0 17 w1.toInt ≤ 1000000) : ∀ (n : Nat) {lv : am_l} {h : am_h} {F : rf_f} {A : rf_A} {v1 : Int32} {v2 : Int32} {v3 : Int32}, ((124 - v3.toInt).toNat) = n → am_get lv 0 = some (.inr (.inr (some 81))) → am_get lv 1 = some (.inl v1) → am_get lv 2 = some (.inl v2) → am_get lv 3 = some (.inl v3) → rf_I h0 h F A → fr1 [23] F0 F → fr2 [22] A0 A → (v1.toInt = w1.toInt ∧ v2.toInt = A0 17 w1.toInt ∧ 0 ≤ v3.toInt ∧ v3.toInt ≤ 124 ∧ v3.toInt ≤ v2.toInt) → (F0 23 ≤ F 23 ∧ F 23 ≤ 1000000 ∧ (F 23 ≤ 124 → F 23 = F0 23 + v3.toInt)) → (F 23 ≤ 124 → (∀ k : Int, 0 ≤ k → k < v3.toInt → A 22 (F0 23 + k) = A0 16 (124 * w1.toInt + k)) ∧ ∀ q : Int, q < F0 23 → A 22 q = A0 22 q) → (F 23 = min (F0 23 + v3.toInt) 1000000) → am_Ok am_G 1 176 (9, lv, [], h, 0, 0) (rf_V h0 (fun F' A' => fr1 [23] F0 F' ∧ fr2 [22] A0 A' ∧ ((F0 23 ≤ F' 23 ∧ F' 23 ≤ 1000000) ∧ (F' 23 ≤ 124 → F' 23 = F0 23 + A0 17 w1.toInt) ∧ imp (F' 23 ≤ 124) ((∀ k : Int, 0 ≤ k → k < A0 17 w1.toInt → A' 22 (F0 23 + k) = A0 16 (124 * w1.toInt + k)) ∧ ∀ q : Int, q < F0 23 → A' 22 q = A0 22 q) ∧ F' 23 = min (F0 23 + A0 17 w1.toInt) 1000000))) := by
  intro n
  induction n using Nat.strongRecOn with
  | ind n ih =>
    intro lv h F A v1 v2 v3 hn g0 g1 g2 g3 hI hF hA i1 i2 i3 i9
    refine k_iload 10 rfl g3 rfl ?_
    refine k_iload 11 rfl g2 rfl ?_
    by_cases b25 : v2 ≤ v3
    · refine k_c2 41 rfl rfl (if_pos b25) ?_
      have b25 := iv_le.mp b25
      refine k_push 43 rfl rfl ?_
      have hc26 : (124 : Int32).toInt = 124 := by decide
      refine k_istore 44 rfl rfl ?_
      exact b_X10_putsIn_44  (w1 := w1) p1 p2 _  rfl (gs_ne rfl rfl g0) (gs_ne rfl rfl g1) (gs_ne rfl rfl g2) gs_eq hI hF hA (show v1.toInt = w1.toInt ∧ v2.toInt = A0 17 w1.toInt ∧ 124 ≤ (124 : Int32).toInt by omega) (show F0 23 ≤ (F 23) ∧ (F 23) ≤ 1000000 ∧ (v2.toInt ≤ 124 → (F 23) ≤ 124 → (F 23) = F0 23 + A0 17 w1.toInt) ∧ (124 < v2.toInt → 124 ≤ (F 23) ∧ (124 < (124 : Int32).toInt → 124 < (F 23))) by omega) (fun z8 z => by have z9 : F 23 ≤ 124 := z; rw [show A0 17 w1.toInt = v3.toInt by omega]; exact i3 z9) (show (v2.toInt ≤ 124 → (F 23) = min (F0 23 + v2.toInt) 1000000) ∧ (124 < v2.toInt → (124 : Int32).toInt ≤ v2.toInt ∧ (F 23) = min (F0 23 + (124 : Int32).toInt) 1000000) by omega)
    · refine k_c2 14 rfl rfl (if_neg b25) ?_
      have b25 := mt iv_le.mpr b25
      refine k_iload 15 rfl g3 rfl ?_
      refine k_push 17 rfl rfl ?_
      have hc27 : (124 : Int32).toInt = 124 := by decide
      by_cases b28 : (124 : Int32) ≤ v3
      · refine k_c2 41 rfl rfl (if_pos b28) ?_
        have b28 := iv_le.mp b28
        refine k_push 43 rfl rfl ?_
        refine k_istore 44 rfl rfl ?_
        exact b_X10_putsIn_44  (w1 := w1) p1 p2 _  rfl (gs_ne rfl rfl g0) (gs_ne rfl rfl g1) (gs_ne rfl rfl g2) gs_eq hI hF hA (show v1.toInt = w1.toInt ∧ v2.toInt = A0 17 w1.toInt ∧ 124 ≤ (124 : Int32).toInt by omega) (show F0 23 ≤ (F 23) ∧ (F 23) ≤ 1000000 ∧ (v2.toInt ≤ 124 → (F 23) ≤ 124 → (F 23) = F0 23 + A0 17 w1.toInt) ∧ (124 < v2.toInt → 124 ≤ (F 23) ∧ (124 < (124 : Int32).toInt → 124 < (F 23))) by omega) (fun z8 z => by have z9 : F 23 ≤ 124 := z; rw [show A0 17 w1.toInt = v3.toInt by omega]; exact i3 z9) (show (v2.toInt ≤ 124 → (F 23) = min (F0 23 + v2.toInt) 1000000) ∧ (124 < v2.toInt → (124 : Int32).toInt ≤ v2.toInt ∧ (F 23) = min (F0 23 + (124 : Int32).toInt) 1000000) by omega)
      · refine k_c2 20 rfl rfl (if_neg b28) ?_
        have b28 := mt iv_le.mpr b28
        refine k_aload 21 rfl g0 rfl ?_
        refine k_aload 22 rfl g0 rfl ?_
        refine r_gA hI 25 rfl rfl rfl ?_
        refine k_push 27 rfl rfl ?_
        refine k_iload 28 rfl g1 rfl ?_
        obtain ⟨x29, q30⟩ : ∃ q : Int32, q = ((124 : Int32) * v1) := ⟨_, rfl⟩
        have e31 : x29.toInt = 124 * v1.toInt := by rw [q30]; exact iv_mulc 124 (by decide) (by omega) (by omega)
        refine k_bin x29 29 rfl q30.symm rfl ?_
        refine k_iload 30 rfl g3 rfl ?_
        obtain ⟨x32, q33⟩ : ∃ q : Int32, q = (x29 + v3) := ⟨_, rfl⟩
        have e34 : x32.toInt = x29.toInt + v3.toInt := by rw [q33, iv_add (by omega) (by omega)]
        refine k_bin x32 31 rfl q33.symm rfl ?_
        refine r_ld 16 hI 32 rfl rfl (by omega) (show x32.toInt < 1488 by omega) rfl (fun x35 (e36 : x35.toInt = A 16 x32.toInt) => ?_)
        rw [e34] at e36
        rw [e31] at e36
        have e37 : A 16 = A0 16 := hA 16 (by decide)
        rw [e37] at e36
        have hx9 : x35.toInt = A0 16 (124 * w1.toInt + v3.toInt) := by rw [e36, i1.1]
        refine k_rv hI rfl (m_emits  hI.1 (show 0 ≤ (F 23) ∧ (F 23) ≤ 1000000 by omega)) rfl rfl rfl hI.rc ?_
        rintro h39 F40 A41 I42 ⟨k44, k45, pq43⟩
        replace pq43 : ((F 23) ≤ F40 23 ∧ F40 23 ≤ 1000000) ∧ (F40 23 ≤ 124 → F40 23 = (F 23) + 1) ∧ imp (F40 23 ≤ 124) (A41 22 ((F 23)) = x35.toInt ∧ ∀ q : Int, q ≠ (F 23) → A41 22 q = (A 22) q) ∧ (((F 23) < 1000000 → F40 23 = (F 23) + 1) ∧ (¬ (F 23) < 1000000 → F40 23 = (F 23))) := pq43
        obtain ⟨pq43a, pq43b, pq43c, pq43d⟩ := pq43
        show am_Ok _ _ _ (35, _, [], _, 0, 0) _
        have hc46 : (1 : Int32).toInt = 1 := by decide
        obtain ⟨x47, q48⟩ : ∃ q : Int32, q = v3 + (1 : Int32) := ⟨_, rfl⟩
        have e49 : x47.toInt = v3.toInt + 1 := by rw [q48, iv_add (by omega) (by omega)]; omega
        refine k_iinc x47 38 rfl g3 q48.symm rfl ?_
        refine k_goto 9 rfl rfl ?_
        exact ih _ (show ((124 - x47.toInt).toNat) < n by omega)  rfl (gs_ne rfl rfl g0) (gs_ne rfl rfl g1) (gs_ne rfl rfl g2) gs_eq I42 (fr1.tr (by decide) hF k44) (fr2.tr (by decide) hA k45) (show v1.toInt = w1.toInt ∧ v2.toInt = A0 17 w1.toInt ∧ 0 ≤ x47.toInt ∧ x47.toInt ≤ 124 ∧ x47.toInt ≤ v2.toInt by omega) (show F0 23 ≤ (F40 23) ∧ (F40 23) ≤ 1000000 ∧ ((F40 23) ≤ 124 → (F40 23) = F0 23 + x47.toInt) by omega) (fun z => by have z9 : F40 23 ≤ 124 := z; exact pi_1 (i3 (by omega)) (pq43c z9) (by omega) (by omega) hx9 (by omega)) (show (F40 23) = min (F0 23 + x47.toInt) 1000000 by omega)
theorem m_putsIn {h0 : am_h} {F0 : rf_f} {A0 : rf_A} {w1 : Int32}  (hR : rf_R h0 F0 A0) (p1 : 0 ≤ F0 23 ∧ F0 23 ≤ 1000000) (p2 : 0 ≤ w1.toInt ∧ w1.toInt < 12 ∧ 0 ≤ A0 17 w1.toInt ∧ A0 17 w1.toInt ≤ 1000000) : am_Mt 2 176 [.inr (.inr (some 81)), .inl w1] h0 (rf_V h0 (fun F' A' => fr1 [23] F0 F' ∧ fr2 [22] A0 A' ∧ ((F0 23 ≤ F' 23 ∧ F' 23 ≤ 1000000) ∧ (F' 23 ≤ 124 → F' 23 = F0 23 + A0 17 w1.toInt) ∧ imp (F' 23 ≤ 124) ((∀ k : Int, 0 ≤ k → k < A0 17 w1.toInt → A' 22 (F0 23 + k) = A0 16 (124 * w1.toInt + k)) ∧ ∀ q : Int, q < F0 23 → A' 22 q = A0 22 q) ∧ F' 23 = min (F0 23 + A0 17 w1.toInt) 1000000))) := by
  refine am_Mt.of (D := 1) ?_
  have hI : rf_I h0 h0 F0 A0 := rf_I.start hR
  refine k_aload 1 rfl rfl rfl ?_
  refine r_gA hI 4 rfl rfl rfl ?_
  refine k_iload 5 rfl rfl rfl ?_
  refine r_ld 17 hI 6 rfl rfl (by omega) (show w1.toInt < 12 by omega) rfl (fun x50 (e51 : x50.toInt = A0 17 w1.toInt) => ?_)
  refine k_istore 7 rfl rfl ?_
  refine k_push 8 rfl rfl ?_
  have hc52 : (0 : Int32).toInt = 0 := by decide
  refine k_istore 9 rfl rfl ?_
  exact b_X10_putsIn_9  (w1 := w1) p1 p2 _  rfl (gs_ne rfl rfl (gs_ne rfl rfl rfl)) (gs_ne rfl rfl (gs_ne rfl rfl rfl)) (gs_ne rfl rfl gs_eq) gs_eq hI fr1.rf fr2.rf (show w1.toInt = w1.toInt ∧ x50.toInt = A0 17 w1.toInt ∧ 0 ≤ (0 : Int32).toInt ∧ (0 : Int32).toInt ≤ 124 ∧ (0 : Int32).toInt ≤ x50.toInt by omega) (show F0 23 ≤ (F0 23) ∧ (F0 23) ≤ 1000000 ∧ ((F0 23) ≤ 124 → (F0 23) = F0 23 + (0 : Int32).toInt) by omega) (fun z => ⟨fun k k1 k2 => absurd k2 (by omega), fun q _ => rfl⟩) (show (F0 23) = min (F0 23 + (0 : Int32).toInt) 1000000 by omega)
end
