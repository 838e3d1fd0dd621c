section
theorem m_said {h0 : am_h} {F0 : rf_f} {A0 : rf_A} {w1 : Int32}  (hR : rf_R h0 F0 A0) (p1 : 0 ≤ F0 73 ∧ F0 73 ≤ 12000) : am_Mt 2 262 [.inr (.inr (some 81)), .inl w1] h0 (rf_Q h0 (fun x F' A' => fr1 [0] F0 F' ∧ fr2 [] A0 A' ∧ (True))) := by
  refine am_Mt.of (D := 1) ?_
  have hI : rf_I h0 h0 F0 A0 := rf_I.start hR
  refine k_aload 1 rfl rfl rfl ?_
  refine k_push 2 rfl rfl ?_
  have hc1 : (0 : Int32).toInt = 0 := by decide
  refine r_pI hI 5 rfl rfl rfl (fun h2 I3 => ?_)
  refine k_iload 6 rfl rfl rfl ?_
  refine k_push 7 rfl rfl ?_
  refine k_aload 8 rfl rfl rfl ?_
  refine r_gI I3 11 rfl rfl rfl (fun x4 (e5 : x4.toInt = F0 73) => ?_)
  refine k_push 12 rfl rfl ?_
  have hc6 : (1 : Int32).toInt = 1 := by decide
  obtain ⟨x7, q8⟩ : ∃ q : Int32, q = (x4 - (1 : Int32)) := ⟨_, rfl⟩
  have e9 : x7.toInt = x4.toInt - 1 := by rw [q8, iv_sub (by omega) (by omega)]; omega
  refine k_bin x7 13 rfl q8.symm rfl ?_
  refine k_in (d := 0) rfl rfl rfl rfl rfl ?_
  refine k_iload 1 rfl rfl rfl ?_
  refine k_iload 2 rfl rfl rfl ?_
  by_cases b10 : w1 < (0 : Int32)
  · refine k_c2 14 rfl rfl (if_pos b10) ?_
    have b10 := iv_lt.mp b10
    refine k_push 15 rfl rfl ?_
    refine k_fin rfl (fin_Z (Or.inl rfl)) ⟨_, _, rfl, rf_len I3 I3, ?_⟩
    show am_Ok _ _ _ (16, _, [.inl (0 : Int32)], _, 0, 0) _
    refine k_c1 28 rfl rfl (if_pos (by decide)) ?_
    refine k_push 29 rfl rfl ?_
    have hc11 : (-1 : Int32).toInt = -1 := by decide
    exact k_fin rfl rfl ⟨_, _, _, _, rfl, I3, (fr1.up (by decide) fr1.rf), fr2.rf, show True from trivial⟩
  · refine k_c2 5 rfl rfl (if_neg b10) ?_
    have b10 := mt iv_lt.mpr b10
    refine k_iload 6 rfl rfl rfl ?_
    refine k_iload 7 rfl rfl rfl ?_
    by_cases b12 : x7 < w1
    · refine k_c2 14 rfl rfl (if_pos b12) ?_
      have b12 := iv_lt.mp b12
      refine k_push 15 rfl rfl ?_
      refine k_fin rfl (fin_Z (Or.inl rfl)) ⟨_, _, rfl, rf_len I3 I3, ?_⟩
      show am_Ok _ _ _ (16, _, [.inl (0 : Int32)], _, 0, 0) _
      refine k_c1 28 rfl rfl (if_pos (by decide)) ?_
      refine k_push 29 rfl rfl ?_
      have hc13 : (-1 : Int32).toInt = -1 := by decide
      exact k_fin rfl rfl ⟨_, _, _, _, rfl, I3, (fr1.up (by decide) fr1.rf), fr2.rf, show True from trivial⟩
    · refine k_c2 10 rfl rfl (if_neg b12) ?_
      have b12 := mt iv_lt.mpr b12
      refine k_push 11 rfl rfl ?_
      refine k_goto 15 rfl rfl ?_
      refine k_fin rfl (fin_Z (Or.inr rfl)) ⟨_, _, rfl, rf_len I3 I3, ?_⟩
      show am_Ok _ _ _ (16, _, [.inl (1 : Int32)], _, 0, 0) _
      refine k_c1 19 rfl rfl (if_neg (by decide)) ?_
      refine k_aload 20 rfl rfl rfl ?_
      refine r_gA I3 23 rfl rfl rfl ?_
      refine k_iload 24 rfl rfl rfl ?_
      refine r_bld 72 I3 25 rfl rfl (by omega) (show w1.toInt < 12000 by omega) rfl (fun x14 => ?_)
      refine k_goto 29 rfl rfl ?_
      exact k_fin rfl rfl ⟨_, _, _, _, rfl, I3, (fr1.up (by decide) fr1.rf), fr2.rf, show True from trivial⟩
theorem m_fault {h0 : am_h} {F0 : rf_f} {A0 : rf_A}  (hR : rf_R h0 F0 A0)  : am_Mt 1 187 [.inr (.inr (some 81))] h0 (rf_Q h0 (fun x F' A' => fr1 [0] F0 F' ∧ fr2 [] A0 A' ∧ (True))) := by
  refine am_Mt.of (D := 0) ?_
  have hI : rf_I h0 h0 F0 A0 := rf_I.start hR
  refine k_aload 1 rfl rfl rfl ?_
  refine k_push 2 rfl rfl ?_
  have hc1 : (0 : Int32).toInt = 0 := by decide
  refine r_pI hI 5 rfl rfl rfl (fun h2 I3 => ?_)
  refine k_aload 6 rfl rfl rfl ?_
  refine r_gI I3 9 rfl rfl rfl (fun x4 (e5 : x4.toInt = F0 5) => ?_)
  exact k_fin rfl rfl ⟨_, _, _, _, rfl, I3, (fr1.up (by decide) fr1.rf), fr2.rf, show True from trivial⟩
theorem b_X10_greatestLevel_4 {h0 : am_h} {F0 : rf_f} {A0 : rf_A}  (p1 : 1 ≤ F0 28 ∧ F0 28 ≤ 400) : ∀ (n : Nat) {lv : am_l} {h : am_h} {F : rf_f} {A : rf_A} {v1 : Int32} {v2 : Int32}, ((F0 28 - v2.toInt).toNat) = n → am_get lv 0 = some (.inr (.inr (some 81))) → am_get lv 1 = some (.inl v1) → am_get lv 2 = some (.inl v2) → rf_I h0 h F A → fr1 [] F0 F → fr2 [] A0 A → (0 ≤ v2.toInt ∧ v2.toInt ≤ F0 28) → am_Ok am_G 2 246 (4, lv, [], h, 0, 0) (rf_Q h0 (fun x F' A' => fr1 [] F0 F' ∧ fr2 [] A0 A' ∧ (True))) := by
  intro n
  induction n using Nat.strongRecOn with
  | ind n ih =>
    intro lv h F A v1 v2 hn g0 g1 g2 hI hF hA i1
    refine k_iload 5 rfl g2 rfl ?_
    refine k_aload 6 rfl g0 rfl ?_
    refine r_gI hI 9 rfl rfl rfl (fun x1 (e2 : x1.toInt = F 28) => ?_)
    have e3 : F 28 = F0 28 := hF 28 (by decide)
    by_cases b4 : x1 ≤ v2
    · refine k_c2 47 rfl rfl (if_pos b4) ?_
      have b4 := iv_le.mp b4
      refine k_iload 48 rfl g1 rfl ?_
      exact k_fin rfl rfl ⟨_, _, _, _, rfl, hI, hF, hA, show True from trivial⟩
    · refine k_c2 12 rfl rfl (if_neg b4) ?_
      have b4 := mt iv_le.mpr b4
      refine k_aload 13 rfl g0 rfl ?_
      refine k_iload 14 rfl g2 rfl ?_
      refine k_rq hI rfl (m_isNode  hI.1 (show 1 ≤ (F 28) ∧ (F 28) ≤ 400 by omega)) rfl rfl rfl hI.rc ?_
      rintro x5 h6 F7 A8 I9 ⟨k11, k12, p10⟩
      replace p10 : x5.toInt = 0 ∨ (x5.toInt = 1 ∧ 0 ≤ v2.toInt ∧ v2.toInt < (F 28) ∧ (A 24) v2.toInt ≠ -1) := p10
      have k11 := fr1.nil k11
      subst k11
      have k12 := fr2.nil k12
      subst k12
      have z13 := iv_01 (x := x5) (by omega)
      show am_Ok _ _ _ (17, _, [.inl x5], _, 0, 0) _
      by_cases b14 : x5 = 0
      · refine k_c1 39 rfl rfl (if_pos b14) ?_
        have b14 := iv_eq0.mp b14
        refine k_iload 40 rfl g1 rfl ?_
        refine k_istore 41 rfl rfl ?_
        have hc15 : (1 : Int32).toInt = 1 := by decide
        obtain ⟨x16, q17⟩ : ∃ q : Int32, q = v2 + (1 : Int32) := ⟨_, rfl⟩
        have e18 : x16.toInt = v2.toInt + 1 := by rw [q17, iv_add (by omega) (by omega)]; omega
        refine k_iinc x16 44 rfl (gs_ne rfl rfl g2) q17.symm rfl ?_
        refine k_goto 4 rfl rfl ?_
        exact ih _ (show ((F0 28 - x16.toInt).toNat) < n by omega)  rfl (gs_ne rfl rfl (gs_ne rfl rfl g0)) (gs_ne rfl rfl gs_eq) gs_eq I9 hF hA (show 0 ≤ x16.toInt ∧ x16.toInt ≤ F0 28 by omega)
      · refine k_c1 20 rfl rfl (if_neg b14) ?_
        have b14 := mt iv_eq0.mpr b14
        refine k_aload 21 rfl g0 rfl ?_
        refine r_gA I9 24 rfl rfl rfl ?_
        refine k_iload 25 rfl g2 rfl ?_
        refine r_ld 25 I9 26 rfl rfl (by omega) (show v2.toInt < 8010 by omega) rfl (fun x19 (e20 : x19.toInt = A 25 v2.toInt) => ?_)
        have e21 : A 25 = A0 25 := hA 25 (by decide)
        rw [e21] at e20
        refine k_iload 27 rfl g1 rfl ?_
        by_cases b22 : x19 ≤ v1
        · refine k_c2 39 rfl rfl (if_pos b22) ?_
          have b22 := iv_le.mp b22
          refine k_iload 40 rfl g1 rfl ?_
          refine k_istore 41 rfl rfl ?_
          have hc23 : (1 : Int32).toInt = 1 := by decide
          obtain ⟨x24, q25⟩ : ∃ q : Int32, q = v2 + (1 : Int32) := ⟨_, rfl⟩
          have e26 : x24.toInt = v2.toInt + 1 := by rw [q25, iv_add (by omega) (by omega)]; omega
          refine k_iinc x24 44 rfl (gs_ne rfl rfl g2) q25.symm rfl ?_
          refine k_goto 4 rfl rfl ?_
          exact ih _ (show ((F0 28 - x24.toInt).toNat) < n by omega)  rfl (gs_ne rfl rfl (gs_ne rfl rfl g0)) (gs_ne rfl rfl gs_eq) gs_eq I9 hF hA (show 0 ≤ x24.toInt ∧ x24.toInt ≤ F0 28 by omega)
        · refine k_c2 30 rfl rfl (if_neg b22) ?_
          have b22 := mt iv_le.mpr b22
          refine k_aload 31 rfl g0 rfl ?_
          refine r_gA I9 34 rfl rfl rfl ?_
          refine k_iload 35 rfl g2 rfl ?_
          refine r_ld 25 I9 36 rfl rfl (by omega) (show v2.toInt < 8010 by omega) rfl (fun x27 (e28 : x27.toInt = A 25 v2.toInt) => ?_)
          have e29 : A 25 = A0 25 := hA 25 (by decide)
          rw [e29] at e28
          refine k_goto 40 rfl rfl ?_
          refine k_istore 41 rfl rfl ?_
          have hc30 : (1 : Int32).toInt = 1 := by decide
          obtain ⟨x31, q32⟩ : ∃ q : Int32, q = v2 + (1 : Int32) := ⟨_, rfl⟩
          have e33 : x31.toInt = v2.toInt + 1 := by rw [q32, iv_add (by omega) (by omega)]; omega
          refine k_iinc x31 44 rfl (gs_ne rfl rfl g2) q32.symm rfl ?_
          refine k_goto 4 rfl rfl ?_
          exact ih _ (show ((F0 28 - x31.toInt).toNat) < n by omega)  rfl (gs_ne rfl rfl (gs_ne rfl rfl g0)) (gs_ne rfl rfl gs_eq) gs_eq I9 hF hA (show 0 ≤ x31.toInt ∧ x31.toInt ≤ F0 28 by omega)
theorem m_greatestLevel {h0 : am_h} {F0 : rf_f} {A0 : rf_A}  (hR : rf_R h0 F0 A0) (p1 : 1 ≤ F0 28 ∧ F0 28 ≤ 400) : am_Mt 3 246 [.inr (.inr (some 81))] h0 (rf_Q h0 (fun x F' A' => fr1 [] F0 F' ∧ fr2 [] A0 A' ∧ (True))) := by
  refine am_Mt.of (D := 2) ?_
  have hI : rf_I h0 h0 F0 A0 := rf_I.start hR
  refine k_push 1 rfl rfl ?_
  have hc34 : (0 : Int32).toInt = 0 := by decide
  refine k_istore 2 rfl rfl ?_
  refine k_push 3 rfl rfl ?_
  refine k_istore 4 rfl rfl ?_
  exact b_X10_greatestLevel_4   p1 _  rfl (gs_ne rfl rfl (gs_ne rfl rfl rfl)) (gs_ne rfl rfl gs_eq) gs_eq hI fr1.rf fr2.rf (show 0 ≤ (0 : Int32).toInt ∧ (0 : Int32).toInt ≤ F0 28 by omega)
theorem b_X10_ofKind_4 {h0 : am_h} {F0 : rf_f} {A0 : rf_A} {w1 : Int32}  (p1 : 1 ≤ F0 28 ∧ F0 28 ≤ 400) : ∀ (n : Nat) {lv : am_l} {h : am_h} {F : rf_f} {A : rf_A} {v1 : Int32} {v2 : Int32} {v3 : Int32}, ((F0 28 - v3.toInt).toNat) = n → am_get lv 0 = some (.inr (.inr (some 81))) → am_get lv 1 = some (.inl v1) → am_get lv 2 = some (.inl v2) → am_get lv 3 = some (.inl v3) → rf_I h0 h F A → fr1 [] F0 F → fr2 [] A0 A → (0 ≤ v2.toInt ∧ v2.toInt ≤ v3.toInt ∧ v3.toInt ≤ F0 28) → am_Ok am_G 2 247 (4, lv, [], h, 0, 0) (rf_Q h0 (fun x F' A' => fr1 [] F0 F' ∧ fr2 [] A0 A' ∧ (True))) := by
  intro n
  induction n using Nat.strongRecOn with
  | ind n ih =>
    intro lv h F A v1 v2 v3 hn g0 g1 g2 g3 hI hF hA i1
    refine k_iload 5 rfl g3 rfl ?_
    refine k_aload 6 rfl g0 rfl ?_
    refine r_gI hI 9 rfl rfl rfl (fun x1 (e2 : x1.toInt = F 28) => ?_)
    have e3 : F 28 = F0 28 := hF 28 (by decide)
    by_cases b4 : x1 ≤ v3
    · refine k_c2 44 rfl rfl (if_pos b4) ?_
      have b4 := iv_le.mp b4
      refine k_iload 45 rfl g2 rfl ?_
      exact k_fin rfl rfl ⟨_, _, _, _, rfl, hI, hF, hA, show True from trivial⟩
    · refine k_c2 12 rfl rfl (if_neg b4) ?_
      have b4 := mt iv_le.mpr b4
      refine k_iload 13 rfl g2 rfl ?_
      refine k_aload 14 rfl g0 rfl ?_
      refine k_iload 15 rfl g3 rfl ?_
      refine k_rq hI rfl (m_isNode  hI.1 (show 1 ≤ (F 28) ∧ (F 28) ≤ 400 by omega)) rfl rfl rfl hI.rc ?_
      rintro x5 h6 F7 A8 I9 ⟨k11, k12, p10⟩
      replace p10 : x5.toInt = 0 ∨ (x5.toInt = 1 ∧ 0 ≤ v3.toInt ∧ v3.toInt < (F 28) ∧ (A 24) v3.toInt ≠ -1) := p10
      have k11 := fr1.nil k11
      subst k11
      have k12 := fr2.nil k12
      subst k12
      have z13 := iv_01 (x := x5) (by omega)
      show am_Ok _ _ _ (18, _, [.inl x5, .inl v2], _, 0, 0) _
      by_cases b14 : x5 = 0
      · refine k_c1 35 rfl rfl (if_pos b14) ?_
        have b14 := iv_eq0.mp b14
        refine k_push 36 rfl rfl ?_
        have hc15 : (0 : Int32).toInt = 0 := by decide
        obtain ⟨x16, q17⟩ : ∃ q : Int32, q = (v2 + (0 : Int32)) := ⟨_, rfl⟩
        have e18 : x16.toInt = v2.toInt + 0 := by rw [q17, iv_add (by omega) (by omega)]; omega
        refine k_bin x16 37 rfl q17.symm rfl ?_
        refine k_istore 38 rfl rfl ?_
        have hc19 : (1 : Int32).toInt = 1 := by decide
        obtain ⟨x20, q21⟩ : ∃ q : Int32, q = v3 + (1 : Int32) := ⟨_, rfl⟩
        have e22 : x20.toInt = v3.toInt + 1 := by rw [q21, iv_add (by omega) (by omega)]; omega
        refine k_iinc x20 41 rfl (gs_ne rfl rfl g3) q21.symm rfl ?_
        refine k_goto 4 rfl rfl ?_
        exact ih _ (show ((F0 28 - x20.toInt).toNat) < n by omega)  rfl (gs_ne rfl rfl (gs_ne rfl rfl g0)) (gs_ne rfl rfl (gs_ne rfl rfl g1)) (gs_ne rfl rfl gs_eq) gs_eq I9 hF hA (show 0 ≤ x16.toInt ∧ x16.toInt ≤ x20.toInt ∧ x20.toInt ≤ F0 28 by omega)
      · refine k_c1 21 rfl rfl (if_neg b14) ?_
        have b14 := mt iv_eq0.mpr b14
        refine k_aload 22 rfl g0 rfl ?_
        refine r_gA I9 25 rfl rfl rfl ?_
        refine k_iload 26 rfl g3 rfl ?_
        refine r_ld 24 I9 27 rfl rfl (by omega) (show v3.toInt < 8010 by omega) rfl (fun x23 (e24 : x23.toInt = A 24 v3.toInt) => ?_)
        have e25 : A 24 = A0 24 := hA 24 (by decide)
        rw [e25] at e24
        refine k_iload 28 rfl g1 rfl ?_
        by_cases b26 : x23 = v1
        · refine k_c2 31 rfl rfl (if_pos b26) ?_
          have b26 := iv_eq.mp b26
          refine k_push 32 rfl rfl ?_
          have hc27 : (1 : Int32).toInt = 1 := by decide
          refine k_goto 36 rfl rfl ?_
          obtain ⟨x28, q29⟩ : ∃ q : Int32, q = (v2 + (1 : Int32)) := ⟨_, rfl⟩
          have e30 : x28.toInt = v2.toInt + 1 := by rw [q29, iv_add (by omega) (by omega)]; omega
          refine k_bin x28 37 rfl q29.symm rfl ?_
          refine k_istore 38 rfl rfl ?_
          obtain ⟨x31, q32⟩ : ∃ q : Int32, q = v3 + (1 : Int32) := ⟨_, rfl⟩
          have e33 : x31.toInt = v3.toInt + 1 := by rw [q32, iv_add (by omega) (by omega)]; omega
          refine k_iinc x31 41 rfl (gs_ne rfl rfl g3) q32.symm rfl ?_
          refine k_goto 4 rfl rfl ?_
          exact ih _ (show ((F0 28 - x31.toInt).toNat) < n by omega)  rfl (gs_ne rfl rfl (gs_ne rfl rfl g0)) (gs_ne rfl rfl (gs_ne rfl rfl g1)) (gs_ne rfl rfl gs_eq) gs_eq I9 hF hA (show 0 ≤ x28.toInt ∧ x28.toInt ≤ x31.toInt ∧ x31.toInt ≤ F0 28 by omega)
        · refine k_c2 35 rfl rfl (if_neg b26) ?_
          have b26 := mt iv_eq.mpr b26
          refine k_push 36 rfl rfl ?_
          have hc34 : (0 : Int32).toInt = 0 := by decide
          obtain ⟨x35, q36⟩ : ∃ q : Int32, q = (v2 + (0 : Int32)) := ⟨_, rfl⟩
          have e37 : x35.toInt = v2.toInt + 0 := by rw [q36, iv_add (by omega) (by omega)]; omega
          refine k_bin x35 37 rfl q36.symm rfl ?_
          refine k_istore 38 rfl rfl ?_
          have hc38 : (1 : Int32).toInt = 1 := by decide
          obtain ⟨x39, q40⟩ : ∃ q : Int32, q = v3 + (1 : Int32) := ⟨_, rfl⟩
          have e41 : x39.toInt = v3.toInt + 1 := by rw [q40, iv_add (by omega) (by omega)]; omega
          refine k_iinc x39 41 rfl (gs_ne rfl rfl g3) q40.symm rfl ?_
          refine k_goto 4 rfl rfl ?_
          exact ih _ (show ((F0 28 - x39.toInt).toNat) < n by omega)  rfl (gs_ne rfl rfl (gs_ne rfl rfl g0)) (gs_ne rfl rfl (gs_ne rfl rfl g1)) (gs_ne rfl rfl gs_eq) gs_eq I9 hF hA (show 0 ≤ x35.toInt ∧ x35.toInt ≤ x39.toInt ∧ x39.toInt ≤ F0 28 by omega)
theorem m_ofKind {h0 : am_h} {F0 : rf_f} {A0 : rf_A} {w1 : Int32}  (hR : rf_R h0 F0 A0) (p1 : 1 ≤ F0 28 ∧ F0 28 ≤ 400) : am_Mt 3 247 [.inr (.inr (some 81)), .inl w1] h0 (rf_Q h0 (fun x F' A' => fr1 [] F0 F' ∧ fr2 [] A0 A' ∧ (True))) := by
  refine am_Mt.of (D := 2) ?_
  have hI : rf_I h0 h0 F0 A0 := rf_I.start hR
  refine k_push 1 rfl rfl ?_
  have hc42 : (0 : Int32).toInt = 0 := by decide
  refine k_istore 2 rfl rfl ?_
  refine k_push 3 rfl rfl ?_
  refine k_istore 4 rfl rfl ?_
  exact b_X10_ofKind_4  (w1 := w1) p1 _  rfl (gs_ne rfl rfl (gs_ne rfl rfl rfl)) (gs_ne rfl rfl (gs_ne rfl rfl rfl)) (gs_ne rfl rfl gs_eq) gs_eq hI fr1.rf fr2.rf (show 0 ≤ (0 : Int32).toInt ∧ (0 : Int32).toInt ≤ (0 : Int32).toInt ∧ (0 : Int32).toInt ≤ F0 28 by omega)
theorem m_readCount {h0 : am_h} {F0 : rf_f} {A0 : rf_A} {w1 : Int32} {lm : Int → Int} {gT : Int} (hR : rf_R h0 F0 A0) (p1 : nn (A0 24) (A0 25) (F0 28) gT) (p2 : nw (A0 24) (A0 25) (A0 26) lm (F0 28)) (p5 : wr A0) (p6 : wq A0) : am_Mt 7 248 [.inr (.inr (some 81)), .inl w1] h0 (rf_Q h0 (fun x F' A' => fr1 [59, 55, 50, 48, 62, 63, 64, 65] F0 F' ∧ fr2 [1, 2, 56, 57, 58, 61, 49, 51, 52, 53, 54, 60, 43, 44, 45, 46, 47] A0 A' ∧ (wr A' ∧ wq A' ∧ A' 2 2 = A0 2 2 ∧ (∀ q : Int, 2600 ≤ q → A' 1 q = A0 1 q)))) := by
  refine am_Mt.of (D := 6) ?_
  have hI : rf_I h0 h0 F0 A0 := rf_I.start hR
  refine k_aload 1 rfl rfl rfl ?_
  refine k_rv hI rfl (m_walks (lm := lm) (gT := gT) hI.1 (show nn ((A0 24)) ((A0 25)) ((F0 28)) (gT) from p1) (show nw ((A0 24)) ((A0 25)) ((A0 26)) (lm) ((F0 28)) from p2) (show wr A0 from p5) (show wq A0 from p6)) rfl rfl rfl hI.rc ?_
  rintro h2 F3 A4 I5 ⟨k7, k8, p6⟩
  replace p6 : wr A4 ∧ wq A4 ∧ (∀ q : Int, q ≠ 0 → A4 2 q = (A0 2) q) ∧ (∀ q : Int, 400 ≤ q → A4 1 q = (A0 1) q) ∧ (∃ n' : Nat, n' ≤ 400 ∧ A4 2 0 = n' ∧ (F3 65 = 1 → wf (A4 1) 0 n')) ∧ (F3 65 = 0 ∨ F3 65 = 1) ∧ (F3 63 = -1 ∨ ∃ m, act ((A0 24)) ((A0 26)) ((F0 28)) (F3 63) m) := p6
  obtain ⟨p6a, p6b, p6c, p6d, p6e, p6f, p6g⟩ := p6
  show am_Ok _ _ _ (4, _, [], _, 0, 0) _
  clear p6e
  clear p6g
  refine k_iload 5 rfl rfl rfl ?_
  by_cases b9 : w1.toInt = 10
  · refine k_sw 32 rfl (by simp only [am_lk]; rw [if_pos b9]) ?_
    refine k_aload 33 rfl rfl rfl ?_
    refine r_gZ I5 36 rfl rfl rfl (fun x10 (e11 : x10.toInt = F3 65) z12 => ?_)
    by_cases b13 : x10 = 0
    · refine k_c1 48 rfl rfl (if_pos b13) ?_
      have b13 := iv_eq0.mp b13
      refine k_push 49 rfl rfl ?_
      have hc14 : (-1 : Int32).toInt = -1 := by decide
      exact k_fin rfl rfl ⟨_, _, _, _, rfl, I5, (fr1.tr (by decide) fr1.rf k7), (fr2.tr (by decide) fr2.rf k8), ⟨p6a, p6b, p6c 2 (by decide), fun q hq => p6d q (Int.le_trans (by decide) hq)⟩⟩
    · refine k_c1 39 rfl rfl (if_neg b13) ?_
      have b13 := mt iv_eq0.mpr b13
      refine k_aload 40 rfl rfl rfl ?_
      refine r_gA I5 43 rfl rfl rfl ?_
      refine k_push 44 rfl rfl ?_
      have hc15 : (0 : Int32).toInt = 0 := by decide
      refine r_ld 2 I5 45 rfl rfl (by omega) (show (0 : Int32).toInt < 3 by omega) rfl (fun x16 (e17 : x16.toInt = A4 2 (0 : Int32).toInt) => ?_)
      rw [hc15] at e17
      refine k_goto 49 rfl rfl ?_
      exact k_fin rfl rfl ⟨_, _, _, _, rfl, I5, (fr1.tr (by decide) fr1.rf k7), (fr2.tr (by decide) fr2.rf k8), ⟨p6a, p6b, p6c 2 (by decide), fun q hq => p6d q (Int.le_trans (by decide) hq)⟩⟩
  by_cases b18 : w1.toInt = 11
  · refine k_sw 50 rfl (by simp only [am_lk]; rw [if_neg b9, if_pos b18]) ?_
    refine k_aload 51 rfl rfl rfl ?_
    refine r_gZ I5 54 rfl rfl rfl (fun x19 (e20 : x19.toInt = F3 65) z21 => ?_)
    by_cases b22 : x19 = 0
    · refine k_c1 69 rfl rfl (if_pos b22) ?_
      have b22 := iv_eq0.mp b22
      refine k_push 70 rfl rfl ?_
      have hc23 : (0 : Int32).toInt = 0 := by decide
      exact k_fin rfl rfl ⟨_, _, _, _, rfl, I5, (fr1.tr (by decide) fr1.rf k7), (fr2.tr (by decide) fr2.rf k8), ⟨p6a, p6b, p6c 2 (by decide), fun q hq => p6d q (Int.le_trans (by decide) hq)⟩⟩
    · refine k_c1 57 rfl rfl (if_neg b22) ?_
      have b22 := mt iv_eq0.mpr b22
      refine k_aload 58 rfl rfl rfl ?_
      refine r_gI I5 61 rfl rfl rfl (fun x24 (e25 : x24.toInt = F3 63) => ?_)
      refine k_push 62 rfl rfl ?_
      have hc26 : (-1 : Int32).toInt = -1 := by decide
      by_cases b27 : x24 = (-1 : Int32)
      · refine k_c2 65 rfl rfl (if_pos b27) ?_
        have b27 := iv_eq.mp b27
        refine k_push 66 rfl rfl ?_
        have hc28 : (1 : Int32).toInt = 1 := by decide
        refine k_goto 70 rfl rfl ?_
        exact k_fin rfl rfl ⟨_, _, _, _, rfl, I5, (fr1.tr (by decide) fr1.rf k7), (fr2.tr (by decide) fr2.rf k8), ⟨p6a, p6b, p6c 2 (by decide), fun q hq => p6d q (Int.le_trans (by decide) hq)⟩⟩
      · refine k_c2 69 rfl rfl (if_neg b27) ?_
        have b27 := mt iv_eq.mpr b27
        refine k_push 70 rfl rfl ?_
        have hc29 : (0 : Int32).toInt = 0 := by decide
        exact k_fin rfl rfl ⟨_, _, _, _, rfl, I5, (fr1.tr (by decide) fr1.rf k7), (fr2.tr (by decide) fr2.rf k8), ⟨p6a, p6b, p6c 2 (by decide), fun q hq => p6d q (Int.le_trans (by decide) hq)⟩⟩
  refine k_sw 71 rfl (by simp only [am_lk]; rw [if_neg b9, if_neg b18]) ?_
  refine k_aload 72 rfl rfl rfl ?_
  refine r_gI I5 75 rfl rfl rfl (fun x30 (e31 : x30.toInt = F3 62) => ?_)
  exact k_fin rfl rfl ⟨_, _, _, _, rfl, I5, (fr1.tr (by decide) fr1.rf k7), (fr2.tr (by decide) fr2.rf k8), ⟨p6a, p6b, p6c 2 (by decide), fun q hq => p6d q (Int.le_trans (by decide) hq)⟩⟩
theorem m_wanted {h0 : am_h} {F0 : rf_f} {A0 : rf_A} {w1 : Int32} {lm : Int → Int} {gT : Int} (hR : rf_R h0 F0 A0) (p1 : nn (A0 24) (A0 25) (F0 28) gT) (p2 : nw (A0 24) (A0 25) (A0 26) lm (F0 28)) (p5 : wr A0) (p6 : wq A0) : am_Mt 7 252 [.inr (.inr (some 81)), .inl w1] h0 (rf_Q h0 (fun x F' A' => fr1 [59, 55, 50, 48, 62, 63, 64, 65, 0] F0 F' ∧ fr2 [1, 2, 56, 57, 58, 61, 49, 51, 52, 53, 54, 60, 43, 44, 45, 46, 47] A0 A' ∧ (wr A' ∧ wq A' ∧ A' 2 2 = A0 2 2 ∧ (∀ q : Int, 2600 ≤ q → A' 1 q = A0 1 q)))) := by
  refine am_Mt.of (D := 6) ?_
  have hI : rf_I h0 h0 F0 A0 := rf_I.start hR
  refine k_aload 1 rfl rfl rfl ?_
  refine k_push 2 rfl rfl ?_
  have hc1 : (0 : Int32).toInt = 0 := by decide
  refine r_pI hI 5 rfl rfl rfl (fun h2 I3 => ?_)
  refine k_aload 6 rfl rfl rfl ?_
  refine k_iload 7 rfl rfl rfl ?_
  refine k_push 8 rfl rfl ?_
  refine k_push 9 rfl rfl ?_
  have hc4 : (2 : Int32).toInt = 2 := by decide
  refine k_in (d := 0) rfl rfl rfl rfl rfl ?_
  refine k_iload 1 rfl rfl rfl ?_
  refine k_iload 2 rfl rfl rfl ?_
  by_cases b5 : w1 < (0 : Int32)
  · refine k_c2 14 rfl rfl (if_pos b5) ?_
    have b5 := iv_lt.mp b5
    refine k_push 15 rfl rfl ?_
    refine k_fin rfl (fin_Z (Or.inl rfl)) ⟨_, _, rfl, rf_len I3 I3, ?_⟩
    show am_Ok _ _ _ (12, _, [.inl (0 : Int32), .inr (.inr (some 81))], _, 0, 0) _
    refine k_push 13 rfl rfl ?_
    have hc6 : (1 : Int32).toInt = 1 := by decide
    refine k_in (d := 0) rfl rfl rfl rfl I3.rc ?_
    refine k_aload 1 rfl rfl rfl ?_
    refine r_gI I3 4 rfl rfl rfl (fun x7 (e8 : x7.toInt = (0 : Int32).toInt) => ?_)
    by_cases b9 : x7 = 0
    · refine k_c1 7 rfl rfl (if_pos b9) ?_
      have b9 := iv_eq0.mp b9
      refine k_iload 8 rfl rfl rfl ?_
      refine k_c1 11 rfl rfl (if_pos (by decide)) ?_
      refine k_aload 12 rfl rfl rfl ?_
      refine k_iload 13 rfl rfl rfl ?_
      refine r_pI I3 16 rfl rfl rfl (fun h10 I11 => ?_)
      refine k_aload 17 rfl rfl rfl ?_
      refine r_gI I11 20 rfl rfl rfl (fun x12 (e13 : x12.toInt = (1 : Int32).toInt) => ?_)
      by_cases b14 : x12 = 0
      · refine k_c1 23 rfl rfl (if_pos b14) ?_
        have b14 := iv_eq0.mp b14
        refine k_push 24 rfl rfl ?_
        refine k_goto 28 rfl rfl ?_
        refine k_fin rfl (fin_Z (Or.inr rfl)) ⟨_, _, rfl, rf_len I3 I11, ?_⟩
        show am_Ok _ _ _ (16, _, [.inl (1 : Int32)], _, 0, 0) _
        refine k_c1 21 rfl rfl (if_neg (by decide)) ?_
        refine k_aload 22 rfl rfl rfl ?_
        refine k_rv I11 rfl (m_walks (lm := lm) (gT := gT) I11.1 (show nn ((A0 24)) ((A0 25)) ((F0 28)) (gT) from p1) (show nw ((A0 24)) ((A0 25)) ((A0 26)) (lm) ((F0 28)) from p2) (show wr A0 from p5) (show wq A0 from p6)) rfl rfl rfl I11.rc ?_
        rintro h16 F17 A18 I19 ⟨k21, k22, p20⟩
        replace p20 : wr A18 ∧ wq A18 ∧ (∀ q : Int, q ≠ 0 → A18 2 q = (A0 2) q) ∧ (∀ q : Int, 400 ≤ q → A18 1 q = (A0 1) q) ∧ (∃ n' : Nat, n' ≤ 400 ∧ A18 2 0 = n' ∧ (F17 65 = 1 → wf (A18 1) 0 n')) ∧ (F17 65 = 0 ∨ F17 65 = 1) ∧ (F17 63 = -1 ∨ ∃ m, act ((A0 24)) ((A0 26)) ((F0 28)) (F17 63) m) := p20
        obtain ⟨p20a, p20b, p20c, p20d, p20e, p20f, p20g⟩ := p20
        show am_Ok _ _ _ (25, _, [], _, 0, 0) _
        clear p20e
        refine k_aload 26 rfl rfl rfl ?_
        refine r_gI I19 29 rfl rfl rfl (fun x23 (e24 : x23.toInt = F17 63) => ?_)
        refine k_push 30 rfl rfl ?_
        have hc25 : (-1 : Int32).toInt = -1 := by decide
        by_cases b26 : x23 = (-1 : Int32)
        · refine k_c2 33 rfl rfl (if_pos b26) ?_
          have b26 := iv_eq.mp b26
          refine k_iload 34 rfl rfl rfl ?_
          refine k_push 35 rfl rfl ?_
          by_cases b27 : w1 = (2 : Int32)
          · refine k_c2 38 rfl rfl (if_pos b27) ?_
            have b27 := iv_eq.mp b27
            refine k_push 39 rfl rfl ?_
            refine k_goto 43 rfl rfl ?_
            exact k_fin rfl rfl ⟨_, _, _, _, rfl, I19, (fr1.tr (by decide) (fr1.up (by decide) (fr1.up (by decide) fr1.rf)) k21), (fr2.tr (by decide) fr2.rf k22), ⟨p20a, p20b, p20c 2 (by decide), fun q hq => p20d q (Int.le_trans (by decide) hq)⟩⟩
          · refine k_c2 42 rfl rfl (if_neg b27) ?_
            have b27 := mt iv_eq.mpr b27
            refine k_push 43 rfl rfl ?_
            exact k_fin rfl rfl ⟨_, _, _, _, rfl, I19, (fr1.tr (by decide) (fr1.up (by decide) (fr1.up (by decide) fr1.rf)) k21), (fr2.tr (by decide) fr2.rf k22), ⟨p20a, p20b, p20c 2 (by decide), fun q hq => p20d q (Int.le_trans (by decide) hq)⟩⟩
        · refine k_c2 44 rfl rfl (if_neg b26) ?_
          have b26 := mt iv_eq.mpr b26
          obtain ⟨mm, ha9⟩ := (p20g).resolve_left (by omega)
          clear p20g
          have ha1 := ha9.1
          have ha2 := ha9.2.1
          have ha3 := ha9.2.2.1
          have hb2 := p1.2.1
          refine k_iload 45 rfl rfl rfl ?_
          by_cases b28 : w1 = 0
          · refine k_c1 48 rfl rfl (if_pos b28) ?_
            have b28 := iv_eq0.mp b28
            refine k_aload 49 rfl rfl rfl ?_
            refine r_gI I19 52 rfl rfl rfl (fun x29 (e30 : x29.toInt = F17 63) => ?_)
            refine k_goto 80 rfl rfl ?_
            exact k_fin rfl rfl ⟨_, _, _, _, rfl, I19, (fr1.tr (by decide) (fr1.up (by decide) (fr1.up (by decide) fr1.rf)) k21), (fr2.tr (by decide) fr2.rf k22), ⟨p20a, p20b, p20c 2 (by decide), fun q hq => p20d q (Int.le_trans (by decide) hq)⟩⟩
          · refine k_c1 55 rfl rfl (if_neg b28) ?_
            have b28 := mt iv_eq0.mpr b28
            refine k_iload 56 rfl rfl rfl ?_
            refine k_push 57 rfl rfl ?_
            by_cases b31 : w1 = (1 : Int32)
            · refine k_c2 60 rfl rfl (if_pos b31) ?_
              have b31 := iv_eq.mp b31
              refine k_aload 61 rfl rfl rfl ?_
              refine r_gA I19 64 rfl rfl rfl ?_
              refine k_push 65 rfl rfl ?_
              have hc32 : (4 : Int32).toInt = 4 := by decide
              refine k_aload 66 rfl rfl rfl ?_
              refine r_gI I19 69 rfl rfl rfl (fun x33 (e34 : x33.toInt = F17 63) => ?_)
              obtain ⟨x35, q36⟩ : ∃ q : Int32, q = ((4 : Int32) * x33) := ⟨_, rfl⟩
              have e37 : x35.toInt = 4 * x33.toInt := by rw [q36]; exact iv_mulc 4 (by decide) (by omega) (by omega)
              refine k_bin x35 70 rfl q36.symm rfl ?_
              refine r_ld 26 I19 71 rfl rfl (by omega) (show x35.toInt < 32040 by omega) rfl (fun x38 (e39 : x38.toInt = A18 26 x35.toInt) => ?_)
              rw [e37] at e39
              have e40 : A18 26 = A0 26 := k22 26 (by decide)
              rw [e40] at e39
              have hv9 : x38.toInt = 4 * mm := e39.trans ((congrArg (A0 26) (by omega)).trans ha9.2.2.2.2.2.2.2.2.1)
              refine k_push 72 rfl rfl ?_
              obtain ⟨x41, q42⟩ : ∃ q : Int32, q = (x38 / (4 : Int32)) := ⟨_, rfl⟩
              have e43 : x41.toInt = x38.toInt / 4 := by rw [q42]; exact iv_div 4 (by decide) (by decide) (by omega)
              refine k_divZ x41 73 rfl (by decide) q42.symm rfl ?_
              refine k_goto 80 rfl rfl ?_
              exact k_fin rfl rfl ⟨_, _, _, _, rfl, I19, (fr1.tr (by decide) (fr1.up (by decide) (fr1.up (by decide) fr1.rf)) k21), (fr2.tr (by decide) fr2.rf k22), ⟨p20a, p20b, p20c 2 (by decide), fun q hq => p20d q (Int.le_trans (by decide) hq)⟩⟩
            · refine k_c2 76 rfl rfl (if_neg b31) ?_
              have b31 := mt iv_eq.mpr b31
              refine k_aload 77 rfl rfl rfl ?_
              refine r_gI I19 80 rfl rfl rfl (fun x44 (e45 : x44.toInt = F17 64) => ?_)
              exact k_fin rfl rfl ⟨_, _, _, _, rfl, I19, (fr1.tr (by decide) (fr1.up (by decide) (fr1.up (by decide) fr1.rf)) k21), (fr2.tr (by decide) fr2.rf k22), ⟨p20a, p20b, p20c 2 (by decide), fun q hq => p20d q (Int.le_trans (by decide) hq)⟩⟩
      · refine k_c1 27 rfl rfl (if_neg b14) ?_
        have b14 := mt iv_eq0.mpr b14
        refine k_push 28 rfl rfl ?_
        refine k_fin rfl (fin_Z (Or.inl rfl)) ⟨_, _, rfl, rf_len I3 I11, ?_⟩
        show am_Ok _ _ _ (16, _, [.inl (0 : Int32)], _, 0, 0) _
        refine k_c1 19 rfl rfl (if_pos (by decide)) ?_
        refine k_push 20 rfl rfl ?_
        exact k_fin rfl rfl ⟨_, _, _, _, rfl, I11, (fr1.up (by decide) (fr1.up (by decide) fr1.rf)), fr2.rf, show wr A0 ∧ wq A0 ∧ (A0 2) 2 = A0 2 2 ∧ (∀ q : Int, 2600 ≤ q → (A0 1) q = A0 1 q) from ⟨p5, p6, rfl, fun q _ => rfl⟩⟩
    · refine k_c1 16 rfl rfl (if_neg b9) ?_
      have b9 := mt iv_eq0.mpr b9
      refine k_aload 17 rfl rfl rfl ?_
      refine r_gI I3 20 rfl rfl rfl (fun x46 (e47 : x46.toInt = (0 : Int32).toInt) => ?_)
      by_cases b48 : x46 = 0
      · refine k_c1 23 rfl rfl (if_pos b48) ?_
        have b48 := iv_eq0.mp b48
        refine k_push 24 rfl rfl ?_
        refine k_goto 28 rfl rfl ?_
        refine k_fin rfl (fin_Z (Or.inr rfl)) ⟨_, _, rfl, rf_len I3 I3, ?_⟩
        show am_Ok _ _ _ (16, _, [.inl (1 : Int32)], _, 0, 0) _
        refine k_c1 21 rfl rfl (if_neg (by decide)) ?_
        refine k_aload 22 rfl rfl rfl ?_
        refine k_rv I3 rfl (m_walks (lm := lm) (gT := gT) I3.1 (show nn ((A0 24)) ((A0 25)) ((F0 28)) (gT) from p1) (show nw ((A0 24)) ((A0 25)) ((A0 26)) (lm) ((F0 28)) from p2) (show wr A0 from p5) (show wq A0 from p6)) rfl rfl rfl I3.rc ?_
        rintro h50 F51 A52 I53 ⟨k55, k56, p54⟩
        replace p54 : wr A52 ∧ wq A52 ∧ (∀ q : Int, q ≠ 0 → A52 2 q = (A0 2) q) ∧ (∀ q : Int, 400 ≤ q → A52 1 q = (A0 1) q) ∧ (∃ n' : Nat, n' ≤ 400 ∧ A52 2 0 = n' ∧ (F51 65 = 1 → wf (A52 1) 0 n')) ∧ (F51 65 = 0 ∨ F51 65 = 1) ∧ (F51 63 = -1 ∨ ∃ m, act ((A0 24)) ((A0 26)) ((F0 28)) (F51 63) m) := p54
        obtain ⟨p54a, p54b, p54c, p54d, p54e, p54f, p54g⟩ := p54
        show am_Ok _ _ _ (25, _, [], _, 0, 0) _
        clear p54e
        refine k_aload 26 rfl rfl rfl ?_
        refine r_gI I53 29 rfl rfl rfl (fun x57 (e58 : x57.toInt = F51 63) => ?_)
        refine k_push 30 rfl rfl ?_
        have hc59 : (-1 : Int32).toInt = -1 := by decide
        by_cases b60 : x57 = (-1 : Int32)
        · refine k_c2 33 rfl rfl (if_pos b60) ?_
          have b60 := iv_eq.mp b60
          refine k_iload 34 rfl rfl rfl ?_
          refine k_push 35 rfl rfl ?_
          by_cases b61 : w1 = (2 : Int32)
          · refine k_c2 38 rfl rfl (if_pos b61) ?_
            have b61 := iv_eq.mp b61
            refine k_push 39 rfl rfl ?_
            refine k_goto 43 rfl rfl ?_
            exact k_fin rfl rfl ⟨_, _, _, _, rfl, I53, (fr1.tr (by decide) (fr1.up (by decide) fr1.rf) k55), (fr2.tr (by decide) fr2.rf k56), ⟨p54a, p54b, p54c 2 (by decide), fun q hq => p54d q (Int.le_trans (by decide) hq)⟩⟩
          · refine k_c2 42 rfl rfl (if_neg b61) ?_
            have b61 := mt iv_eq.mpr b61
            refine k_push 43 rfl rfl ?_
            exact k_fin rfl rfl ⟨_, _, _, _, rfl, I53, (fr1.tr (by decide) (fr1.up (by decide) fr1.rf) k55), (fr2.tr (by decide) fr2.rf k56), ⟨p54a, p54b, p54c 2 (by decide), fun q hq => p54d q (Int.le_trans (by decide) hq)⟩⟩
        · refine k_c2 44 rfl rfl (if_neg b60) ?_
          have b60 := mt iv_eq.mpr b60
          obtain ⟨mm, ha9⟩ := (p54g).resolve_left (by omega)
          clear p54g
          have ha1 := ha9.1
          have ha2 := ha9.2.1
          have ha3 := ha9.2.2.1
          have hb2 := p1.2.1
          refine k_iload 45 rfl rfl rfl ?_
          by_cases b62 : w1 = 0
          · refine k_c1 48 rfl rfl (if_pos b62) ?_
            have b62 := iv_eq0.mp b62
            refine k_aload 49 rfl rfl rfl ?_
            refine r_gI I53 52 rfl rfl rfl (fun x63 (e64 : x63.toInt = F51 63) => ?_)
            refine k_goto 80 rfl rfl ?_
            exact k_fin rfl rfl ⟨_, _, _, _, rfl, I53, (fr1.tr (by decide) (fr1.up (by decide) fr1.rf) k55), (fr2.tr (by decide) fr2.rf k56), ⟨p54a, p54b, p54c 2 (by decide), fun q hq => p54d q (Int.le_trans (by decide) hq)⟩⟩
          · refine k_c1 55 rfl rfl (if_neg b62) ?_
            have b62 := mt iv_eq0.mpr b62
            refine k_iload 56 rfl rfl rfl ?_
            refine k_push 57 rfl rfl ?_
            by_cases b65 : w1 = (1 : Int32)
            · refine k_c2 60 rfl rfl (if_pos b65) ?_
              have b65 := iv_eq.mp b65
              refine k_aload 61 rfl rfl rfl ?_
              refine r_gA I53 64 rfl rfl rfl ?_
              refine k_push 65 rfl rfl ?_
              have hc66 : (4 : Int32).toInt = 4 := by decide
              refine k_aload 66 rfl rfl rfl ?_
              refine r_gI I53 69 rfl rfl rfl (fun x67 (e68 : x67.toInt = F51 63) => ?_)
              obtain ⟨x69, q70⟩ : ∃ q : Int32, q = ((4 : Int32) * x67) := ⟨_, rfl⟩
              have e71 : x69.toInt = 4 * x67.toInt := by rw [q70]; exact iv_mulc 4 (by decide) (by omega) (by omega)
              refine k_bin x69 70 rfl q70.symm rfl ?_
              refine r_ld 26 I53 71 rfl rfl (by omega) (show x69.toInt < 32040 by omega) rfl (fun x72 (e73 : x72.toInt = A52 26 x69.toInt) => ?_)
              rw [e71] at e73
              have e74 : A52 26 = A0 26 := k56 26 (by decide)
              rw [e74] at e73
              have hv9 : x72.toInt = 4 * mm := e73.trans ((congrArg (A0 26) (by omega)).trans ha9.2.2.2.2.2.2.2.2.1)
              refine k_push 72 rfl rfl ?_
              obtain ⟨x75, q76⟩ : ∃ q : Int32, q = (x72 / (4 : Int32)) := ⟨_, rfl⟩
              have e77 : x75.toInt = x72.toInt / 4 := by rw [q76]; exact iv_div 4 (by decide) (by decide) (by omega)
              refine k_divZ x75 73 rfl (by decide) q76.symm rfl ?_
              refine k_goto 80 rfl rfl ?_
              exact k_fin rfl rfl ⟨_, _, _, _, rfl, I53, (fr1.tr (by decide) (fr1.up (by decide) fr1.rf) k55), (fr2.tr (by decide) fr2.rf k56), ⟨p54a, p54b, p54c 2 (by decide), fun q hq => p54d q (Int.le_trans (by decide) hq)⟩⟩
            · refine k_c2 76 rfl rfl (if_neg b65) ?_
              have b65 := mt iv_eq.mpr b65
              refine k_aload 77 rfl rfl rfl ?_
              refine r_gI I53 80 rfl rfl rfl (fun x78 (e79 : x78.toInt = F51 64) => ?_)
              exact k_fin rfl rfl ⟨_, _, _, _, rfl, I53, (fr1.tr (by decide) (fr1.up (by decide) fr1.rf) k55), (fr2.tr (by decide) fr2.rf k56), ⟨p54a, p54b, p54c 2 (by decide), fun q hq => p54d q (Int.le_trans (by decide) hq)⟩⟩
      · refine k_c1 27 rfl rfl (if_neg b48) ?_
        have b48 := mt iv_eq0.mpr b48
        refine k_push 28 rfl rfl ?_
        refine k_fin rfl (fin_Z (Or.inl rfl)) ⟨_, _, rfl, rf_len I3 I3, ?_⟩
        show am_Ok _ _ _ (16, _, [.inl (0 : Int32)], _, 0, 0) _
        refine k_c1 19 rfl rfl (if_pos (by decide)) ?_
        refine k_push 20 rfl rfl ?_
        exact k_fin rfl rfl ⟨_, _, _, _, rfl, I3, (fr1.up (by decide) fr1.rf), fr2.rf, show wr A0 ∧ wq A0 ∧ (A0 2) 2 = A0 2 2 ∧ (∀ q : Int, 2600 ≤ q → (A0 1) q = A0 1 q) from ⟨p5, p6, rfl, fun q _ => rfl⟩⟩
  · refine k_c2 5 rfl rfl (if_neg b5) ?_
    have b5 := mt iv_lt.mpr b5
    refine k_iload 6 rfl rfl rfl ?_
    refine k_iload 7 rfl rfl rfl ?_
    by_cases b80 : (2 : Int32) < w1
    · refine k_c2 14 rfl rfl (if_pos b80) ?_
      have b80 := iv_lt.mp b80
      refine k_push 15 rfl rfl ?_
      refine k_fin rfl (fin_Z (Or.inl rfl)) ⟨_, _, rfl, rf_len I3 I3, ?_⟩
      show am_Ok _ _ _ (12, _, [.inl (0 : Int32), .inr (.inr (some 81))], _, 0, 0) _
      refine k_push 13 rfl rfl ?_
      have hc81 : (1 : Int32).toInt = 1 := by decide
      refine k_in (d := 0) rfl rfl rfl rfl I3.rc ?_
      refine k_aload 1 rfl rfl rfl ?_
      refine r_gI I3 4 rfl rfl rfl (fun x82 (e83 : x82.toInt = (0 : Int32).toInt) => ?_)
      by_cases b84 : x82 = 0
      · refine k_c1 7 rfl rfl (if_pos b84) ?_
        have b84 := iv_eq0.mp b84
        refine k_iload 8 rfl rfl rfl ?_
        refine k_c1 11 rfl rfl (if_pos (by decide)) ?_
        refine k_aload 12 rfl rfl rfl ?_
        refine k_iload 13 rfl rfl rfl ?_
        refine r_pI I3 16 rfl rfl rfl (fun h85 I86 => ?_)
        refine k_aload 17 rfl rfl rfl ?_
        refine r_gI I86 20 rfl rfl rfl (fun x87 (e88 : x87.toInt = (1 : Int32).toInt) => ?_)
        by_cases b89 : x87 = 0
        · refine k_c1 23 rfl rfl (if_pos b89) ?_
          have b89 := iv_eq0.mp b89
          refine k_push 24 rfl rfl ?_
          refine k_goto 28 rfl rfl ?_
          refine k_fin rfl (fin_Z (Or.inr rfl)) ⟨_, _, rfl, rf_len I3 I86, ?_⟩
          show am_Ok _ _ _ (16, _, [.inl (1 : Int32)], _, 0, 0) _
          refine k_c1 21 rfl rfl (if_neg (by decide)) ?_
          refine k_aload 22 rfl rfl rfl ?_
          refine k_rv I86 rfl (m_walks (lm := lm) (gT := gT) I86.1 (show nn ((A0 24)) ((A0 25)) ((F0 28)) (gT) from p1) (show nw ((A0 24)) ((A0 25)) ((A0 26)) (lm) ((F0 28)) from p2) (show wr A0 from p5) (show wq A0 from p6)) rfl rfl rfl I86.rc ?_
          rintro h91 F92 A93 I94 ⟨k96, k97, p95⟩
          replace p95 : wr A93 ∧ wq A93 ∧ (∀ q : Int, q ≠ 0 → A93 2 q = (A0 2) q) ∧ (∀ q : Int, 400 ≤ q → A93 1 q = (A0 1) q) ∧ (∃ n' : Nat, n' ≤ 400 ∧ A93 2 0 = n' ∧ (F92 65 = 1 → wf (A93 1) 0 n')) ∧ (F92 65 = 0 ∨ F92 65 = 1) ∧ (F92 63 = -1 ∨ ∃ m, act ((A0 24)) ((A0 26)) ((F0 28)) (F92 63) m) := p95
          obtain ⟨p95a, p95b, p95c, p95d, p95e, p95f, p95g⟩ := p95
          show am_Ok _ _ _ (25, _, [], _, 0, 0) _
          clear p95e
          refine k_aload 26 rfl rfl rfl ?_
          refine r_gI I94 29 rfl rfl rfl (fun x98 (e99 : x98.toInt = F92 63) => ?_)
          refine k_push 30 rfl rfl ?_
          have hc100 : (-1 : Int32).toInt = -1 := by decide
          by_cases b101 : x98 = (-1 : Int32)
          · refine k_c2 33 rfl rfl (if_pos b101) ?_
            have b101 := iv_eq.mp b101
            refine k_iload 34 rfl rfl rfl ?_
            refine k_push 35 rfl rfl ?_
            by_cases b102 : w1 = (2 : Int32)
            · refine k_c2 38 rfl rfl (if_pos b102) ?_
              have b102 := iv_eq.mp b102
              refine k_push 39 rfl rfl ?_
              refine k_goto 43 rfl rfl ?_
              exact k_fin rfl rfl ⟨_, _, _, _, rfl, I94, (fr1.tr (by decide) (fr1.up (by decide) (fr1.up (by decide) fr1.rf)) k96), (fr2.tr (by decide) fr2.rf k97), ⟨p95a, p95b, p95c 2 (by decide), fun q hq => p95d q (Int.le_trans (by decide) hq)⟩⟩
            · refine k_c2 42 rfl rfl (if_neg b102) ?_
              have b102 := mt iv_eq.mpr b102
              refine k_push 43 rfl rfl ?_
              exact k_fin rfl rfl ⟨_, _, _, _, rfl, I94, (fr1.tr (by decide) (fr1.up (by decide) (fr1.up (by decide) fr1.rf)) k96), (fr2.tr (by decide) fr2.rf k97), ⟨p95a, p95b, p95c 2 (by decide), fun q hq => p95d q (Int.le_trans (by decide) hq)⟩⟩
          · refine k_c2 44 rfl rfl (if_neg b101) ?_
            have b101 := mt iv_eq.mpr b101
            obtain ⟨mm, ha9⟩ := (p95g).resolve_left (by omega)
            clear p95g
            have ha1 := ha9.1
            have ha2 := ha9.2.1
            have ha3 := ha9.2.2.1
            have hb2 := p1.2.1
            refine k_iload 45 rfl rfl rfl ?_
            by_cases b103 : w1 = 0
            · refine k_c1 48 rfl rfl (if_pos b103) ?_
              have b103 := iv_eq0.mp b103
              refine k_aload 49 rfl rfl rfl ?_
              refine r_gI I94 52 rfl rfl rfl (fun x104 (e105 : x104.toInt = F92 63) => ?_)
              refine k_goto 80 rfl rfl ?_
              exact k_fin rfl rfl ⟨_, _, _, _, rfl, I94, (fr1.tr (by decide) (fr1.up (by decide) (fr1.up (by decide) fr1.rf)) k96), (fr2.tr (by decide) fr2.rf k97), ⟨p95a, p95b, p95c 2 (by decide), fun q hq => p95d q (Int.le_trans (by decide) hq)⟩⟩
            · refine k_c1 55 rfl rfl (if_neg b103) ?_
              have b103 := mt iv_eq0.mpr b103
              refine k_iload 56 rfl rfl rfl ?_
              refine k_push 57 rfl rfl ?_
              by_cases b106 : w1 = (1 : Int32)
              · refine k_c2 60 rfl rfl (if_pos b106) ?_
                have b106 := iv_eq.mp b106
                refine k_aload 61 rfl rfl rfl ?_
                refine r_gA I94 64 rfl rfl rfl ?_
                refine k_push 65 rfl rfl ?_
                have hc107 : (4 : Int32).toInt = 4 := by decide
                refine k_aload 66 rfl rfl rfl ?_
                refine r_gI I94 69 rfl rfl rfl (fun x108 (e109 : x108.toInt = F92 63) => ?_)
                obtain ⟨x110, q111⟩ : ∃ q : Int32, q = ((4 : Int32) * x108) := ⟨_, rfl⟩
                have e112 : x110.toInt = 4 * x108.toInt := by rw [q111]; exact iv_mulc 4 (by decide) (by omega) (by omega)
                refine k_bin x110 70 rfl q111.symm rfl ?_
                refine r_ld 26 I94 71 rfl rfl (by omega) (show x110.toInt < 32040 by omega) rfl (fun x113 (e114 : x113.toInt = A93 26 x110.toInt) => ?_)
                rw [e112] at e114
                have e115 : A93 26 = A0 26 := k97 26 (by decide)
                rw [e115] at e114
                have hv9 : x113.toInt = 4 * mm := e114.trans ((congrArg (A0 26) (by omega)).trans ha9.2.2.2.2.2.2.2.2.1)
                refine k_push 72 rfl rfl ?_
                obtain ⟨x116, q117⟩ : ∃ q : Int32, q = (x113 / (4 : Int32)) := ⟨_, rfl⟩
                have e118 : x116.toInt = x113.toInt / 4 := by rw [q117]; exact iv_div 4 (by decide) (by decide) (by omega)
                refine k_divZ x116 73 rfl (by decide) q117.symm rfl ?_
                refine k_goto 80 rfl rfl ?_
                exact k_fin rfl rfl ⟨_, _, _, _, rfl, I94, (fr1.tr (by decide) (fr1.up (by decide) (fr1.up (by decide) fr1.rf)) k96), (fr2.tr (by decide) fr2.rf k97), ⟨p95a, p95b, p95c 2 (by decide), fun q hq => p95d q (Int.le_trans (by decide) hq)⟩⟩
              · refine k_c2 76 rfl rfl (if_neg b106) ?_
                have b106 := mt iv_eq.mpr b106
                refine k_aload 77 rfl rfl rfl ?_
                refine r_gI I94 80 rfl rfl rfl (fun x119 (e120 : x119.toInt = F92 64) => ?_)
                exact k_fin rfl rfl ⟨_, _, _, _, rfl, I94, (fr1.tr (by decide) (fr1.up (by decide) (fr1.up (by decide) fr1.rf)) k96), (fr2.tr (by decide) fr2.rf k97), ⟨p95a, p95b, p95c 2 (by decide), fun q hq => p95d q (Int.le_trans (by decide) hq)⟩⟩
        · refine k_c1 27 rfl rfl (if_neg b89) ?_
          have b89 := mt iv_eq0.mpr b89
          refine k_push 28 rfl rfl ?_
          refine k_fin rfl (fin_Z (Or.inl rfl)) ⟨_, _, rfl, rf_len I3 I86, ?_⟩
          show am_Ok _ _ _ (16, _, [.inl (0 : Int32)], _, 0, 0) _
          refine k_c1 19 rfl rfl (if_pos (by decide)) ?_
          refine k_push 20 rfl rfl ?_
          exact k_fin rfl rfl ⟨_, _, _, _, rfl, I86, (fr1.up (by decide) (fr1.up (by decide) fr1.rf)), fr2.rf, show wr A0 ∧ wq A0 ∧ (A0 2) 2 = A0 2 2 ∧ (∀ q : Int, 2600 ≤ q → (A0 1) q = A0 1 q) from ⟨p5, p6, rfl, fun q _ => rfl⟩⟩
      · refine k_c1 16 rfl rfl (if_neg b84) ?_
        have b84 := mt iv_eq0.mpr b84
        refine k_aload 17 rfl rfl rfl ?_
        refine r_gI I3 20 rfl rfl rfl (fun x121 (e122 : x121.toInt = (0 : Int32).toInt) => ?_)
        by_cases b123 : x121 = 0
        · refine k_c1 23 rfl rfl (if_pos b123) ?_
          have b123 := iv_eq0.mp b123
          refine k_push 24 rfl rfl ?_
          refine k_goto 28 rfl rfl ?_
          refine k_fin rfl (fin_Z (Or.inr rfl)) ⟨_, _, rfl, rf_len I3 I3, ?_⟩
          show am_Ok _ _ _ (16, _, [.inl (1 : Int32)], _, 0, 0) _
          refine k_c1 21 rfl rfl (if_neg (by decide)) ?_
          refine k_aload 22 rfl rfl rfl ?_
          refine k_rv I3 rfl (m_walks (lm := lm) (gT := gT) I3.1 (show nn ((A0 24)) ((A0 25)) ((F0 28)) (gT) from p1) (show nw ((A0 24)) ((A0 25)) ((A0 26)) (lm) ((F0 28)) from p2) (show wr A0 from p5) (show wq A0 from p6)) rfl rfl rfl I3.rc ?_
          rintro h125 F126 A127 I128 ⟨k130, k131, p129⟩
          replace p129 : wr A127 ∧ wq A127 ∧ (∀ q : Int, q ≠ 0 → A127 2 q = (A0 2) q) ∧ (∀ q : Int, 400 ≤ q → A127 1 q = (A0 1) q) ∧ (∃ n' : Nat, n' ≤ 400 ∧ A127 2 0 = n' ∧ (F126 65 = 1 → wf (A127 1) 0 n')) ∧ (F126 65 = 0 ∨ F126 65 = 1) ∧ (F126 63 = -1 ∨ ∃ m, act ((A0 24)) ((A0 26)) ((F0 28)) (F126 63) m) := p129
          obtain ⟨p129a, p129b, p129c, p129d, p129e, p129f, p129g⟩ := p129
          show am_Ok _ _ _ (25, _, [], _, 0, 0) _
          clear p129e
          refine k_aload 26 rfl rfl rfl ?_
          refine r_gI I128 29 rfl rfl rfl (fun x132 (e133 : x132.toInt = F126 63) => ?_)
          refine k_push 30 rfl rfl ?_
          have hc134 : (-1 : Int32).toInt = -1 := by decide
          by_cases b135 : x132 = (-1 : Int32)
          · refine k_c2 33 rfl rfl (if_pos b135) ?_
            have b135 := iv_eq.mp b135
            refine k_iload 34 rfl rfl rfl ?_
            refine k_push 35 rfl rfl ?_
            by_cases b136 : w1 = (2 : Int32)
            · refine k_c2 38 rfl rfl (if_pos b136) ?_
              have b136 := iv_eq.mp b136
              refine k_push 39 rfl rfl ?_
              refine k_goto 43 rfl rfl ?_
              exact k_fin rfl rfl ⟨_, _, _, _, rfl, I128, (fr1.tr (by decide) (fr1.up (by decide) fr1.rf) k130), (fr2.tr (by decide) fr2.rf k131), ⟨p129a, p129b, p129c 2 (by decide), fun q hq => p129d q (Int.le_trans (by decide) hq)⟩⟩
            · refine k_c2 42 rfl rfl (if_neg b136) ?_
              have b136 := mt iv_eq.mpr b136
              refine k_push 43 rfl rfl ?_
              exact k_fin rfl rfl ⟨_, _, _, _, rfl, I128, (fr1.tr (by decide) (fr1.up (by decide) fr1.rf) k130), (fr2.tr (by decide) fr2.rf k131), ⟨p129a, p129b, p129c 2 (by decide), fun q hq => p129d q (Int.le_trans (by decide) hq)⟩⟩
          · refine k_c2 44 rfl rfl (if_neg b135) ?_
            have b135 := mt iv_eq.mpr b135
            obtain ⟨mm, ha9⟩ := (p129g).resolve_left (by omega)
            clear p129g
            have ha1 := ha9.1
            have ha2 := ha9.2.1
            have ha3 := ha9.2.2.1
            have hb2 := p1.2.1
            refine k_iload 45 rfl rfl rfl ?_
            by_cases b137 : w1 = 0
            · refine k_c1 48 rfl rfl (if_pos b137) ?_
              have b137 := iv_eq0.mp b137
              refine k_aload 49 rfl rfl rfl ?_
              refine r_gI I128 52 rfl rfl rfl (fun x138 (e139 : x138.toInt = F126 63) => ?_)
              refine k_goto 80 rfl rfl ?_
              exact k_fin rfl rfl ⟨_, _, _, _, rfl, I128, (fr1.tr (by decide) (fr1.up (by decide) fr1.rf) k130), (fr2.tr (by decide) fr2.rf k131), ⟨p129a, p129b, p129c 2 (by decide), fun q hq => p129d q (Int.le_trans (by decide) hq)⟩⟩
            · refine k_c1 55 rfl rfl (if_neg b137) ?_
              have b137 := mt iv_eq0.mpr b137
              refine k_iload 56 rfl rfl rfl ?_
              refine k_push 57 rfl rfl ?_
              by_cases b140 : w1 = (1 : Int32)
              · refine k_c2 60 rfl rfl (if_pos b140) ?_
                have b140 := iv_eq.mp b140
                refine k_aload 61 rfl rfl rfl ?_
                refine r_gA I128 64 rfl rfl rfl ?_
                refine k_push 65 rfl rfl ?_
                have hc141 : (4 : Int32).toInt = 4 := by decide
                refine k_aload 66 rfl rfl rfl ?_
                refine r_gI I128 69 rfl rfl rfl (fun x142 (e143 : x142.toInt = F126 63) => ?_)
                obtain ⟨x144, q145⟩ : ∃ q : Int32, q = ((4 : Int32) * x142) := ⟨_, rfl⟩
                have e146 : x144.toInt = 4 * x142.toInt := by rw [q145]; exact iv_mulc 4 (by decide) (by omega) (by omega)
                refine k_bin x144 70 rfl q145.symm rfl ?_
                refine r_ld 26 I128 71 rfl rfl (by omega) (show x144.toInt < 32040 by omega) rfl (fun x147 (e148 : x147.toInt = A127 26 x144.toInt) => ?_)
                rw [e146] at e148
                have e149 : A127 26 = A0 26 := k131 26 (by decide)
                rw [e149] at e148
                have hv9 : x147.toInt = 4 * mm := e148.trans ((congrArg (A0 26) (by omega)).trans ha9.2.2.2.2.2.2.2.2.1)
                refine k_push 72 rfl rfl ?_
                obtain ⟨x150, q151⟩ : ∃ q : Int32, q = (x147 / (4 : Int32)) := ⟨_, rfl⟩
                have e152 : x150.toInt = x147.toInt / 4 := by rw [q151]; exact iv_div 4 (by decide) (by decide) (by omega)
                refine k_divZ x150 73 rfl (by decide) q151.symm rfl ?_
                refine k_goto 80 rfl rfl ?_
                exact k_fin rfl rfl ⟨_, _, _, _, rfl, I128, (fr1.tr (by decide) (fr1.up (by decide) fr1.rf) k130), (fr2.tr (by decide) fr2.rf k131), ⟨p129a, p129b, p129c 2 (by decide), fun q hq => p129d q (Int.le_trans (by decide) hq)⟩⟩
              · refine k_c2 76 rfl rfl (if_neg b140) ?_
                have b140 := mt iv_eq.mpr b140
                refine k_aload 77 rfl rfl rfl ?_
                refine r_gI I128 80 rfl rfl rfl (fun x153 (e154 : x153.toInt = F126 64) => ?_)
                exact k_fin rfl rfl ⟨_, _, _, _, rfl, I128, (fr1.tr (by decide) (fr1.up (by decide) fr1.rf) k130), (fr2.tr (by decide) fr2.rf k131), ⟨p129a, p129b, p129c 2 (by decide), fun q hq => p129d q (Int.le_trans (by decide) hq)⟩⟩
        · refine k_c1 27 rfl rfl (if_neg b123) ?_
          have b123 := mt iv_eq0.mpr b123
          refine k_push 28 rfl rfl ?_
          refine k_fin rfl (fin_Z (Or.inl rfl)) ⟨_, _, rfl, rf_len I3 I3, ?_⟩
          show am_Ok _ _ _ (16, _, [.inl (0 : Int32)], _, 0, 0) _
          refine k_c1 19 rfl rfl (if_pos (by decide)) ?_
          refine k_push 20 rfl rfl ?_
          exact k_fin rfl rfl ⟨_, _, _, _, rfl, I3, (fr1.up (by decide) fr1.rf), fr2.rf, show wr A0 ∧ wq A0 ∧ (A0 2) 2 = A0 2 2 ∧ (∀ q : Int, 2600 ≤ q → (A0 1) q = A0 1 q) from ⟨p5, p6, rfl, fun q _ => rfl⟩⟩
    · refine k_c2 10 rfl rfl (if_neg b80) ?_
      have b80 := mt iv_lt.mpr b80
      refine k_push 11 rfl rfl ?_
      have hc155 : (1 : Int32).toInt = 1 := by decide
      refine k_goto 15 rfl rfl ?_
      refine k_fin rfl (fin_Z (Or.inr rfl)) ⟨_, _, rfl, rf_len I3 I3, ?_⟩
      show am_Ok _ _ _ (12, _, [.inl (1 : Int32), .inr (.inr (some 81))], _, 0, 0) _
      refine k_push 13 rfl rfl ?_
      refine k_in (d := 0) rfl rfl rfl rfl I3.rc ?_
      refine k_aload 1 rfl rfl rfl ?_
      refine r_gI I3 4 rfl rfl rfl (fun x156 (e157 : x156.toInt = (0 : Int32).toInt) => ?_)
      by_cases b158 : x156 = 0
      · refine k_c1 7 rfl rfl (if_pos b158) ?_
        have b158 := iv_eq0.mp b158
        refine k_iload 8 rfl rfl rfl ?_
        refine k_c1 16 rfl rfl (if_neg (by decide)) ?_
        refine k_aload 17 rfl rfl rfl ?_
        refine r_gI I3 20 rfl rfl rfl (fun x159 (e160 : x159.toInt = (0 : Int32).toInt) => ?_)
        by_cases b161 : x159 = 0
        · refine k_c1 23 rfl rfl (if_pos b161) ?_
          have b161 := iv_eq0.mp b161
          refine k_push 24 rfl rfl ?_
          refine k_goto 28 rfl rfl ?_
          refine k_fin rfl (fin_Z (Or.inr rfl)) ⟨_, _, rfl, rf_len I3 I3, ?_⟩
          show am_Ok _ _ _ (16, _, [.inl (1 : Int32)], _, 0, 0) _
          refine k_c1 21 rfl rfl (if_neg (by decide)) ?_
          refine k_aload 22 rfl rfl rfl ?_
          refine k_rv I3 rfl (m_walks (lm := lm) (gT := gT) I3.1 (show nn ((A0 24)) ((A0 25)) ((F0 28)) (gT) from p1) (show nw ((A0 24)) ((A0 25)) ((A0 26)) (lm) ((F0 28)) from p2) (show wr A0 from p5) (show wq A0 from p6)) rfl rfl rfl I3.rc ?_
          rintro h163 F164 A165 I166 ⟨k168, k169, p167⟩
          replace p167 : wr A165 ∧ wq A165 ∧ (∀ q : Int, q ≠ 0 → A165 2 q = (A0 2) q) ∧ (∀ q : Int, 400 ≤ q → A165 1 q = (A0 1) q) ∧ (∃ n' : Nat, n' ≤ 400 ∧ A165 2 0 = n' ∧ (F164 65 = 1 → wf (A165 1) 0 n')) ∧ (F164 65 = 0 ∨ F164 65 = 1) ∧ (F164 63 = -1 ∨ ∃ m, act ((A0 24)) ((A0 26)) ((F0 28)) (F164 63) m) := p167
          obtain ⟨p167a, p167b, p167c, p167d, p167e, p167f, p167g⟩ := p167
          show am_Ok _ _ _ (25, _, [], _, 0, 0) _
          clear p167e
          refine k_aload 26 rfl rfl rfl ?_
          refine r_gI I166 29 rfl rfl rfl (fun x170 (e171 : x170.toInt = F164 63) => ?_)
          refine k_push 30 rfl rfl ?_
          have hc172 : (-1 : Int32).toInt = -1 := by decide
          by_cases b173 : x170 = (-1 : Int32)
          · refine k_c2 33 rfl rfl (if_pos b173) ?_
            have b173 := iv_eq.mp b173
            refine k_iload 34 rfl rfl rfl ?_
            refine k_push 35 rfl rfl ?_
            by_cases b174 : w1 = (2 : Int32)
            · refine k_c2 38 rfl rfl (if_pos b174) ?_
              have b174 := iv_eq.mp b174
              refine k_push 39 rfl rfl ?_
              refine k_goto 43 rfl rfl ?_
              exact k_fin rfl rfl ⟨_, _, _, _, rfl, I166, (fr1.tr (by decide) (fr1.up (by decide) fr1.rf) k168), (fr2.tr (by decide) fr2.rf k169), ⟨p167a, p167b, p167c 2 (by decide), fun q hq => p167d q (Int.le_trans (by decide) hq)⟩⟩
            · refine k_c2 42 rfl rfl (if_neg b174) ?_
              have b174 := mt iv_eq.mpr b174
              refine k_push 43 rfl rfl ?_
              exact k_fin rfl rfl ⟨_, _, _, _, rfl, I166, (fr1.tr (by decide) (fr1.up (by decide) fr1.rf) k168), (fr2.tr (by decide) fr2.rf k169), ⟨p167a, p167b, p167c 2 (by decide), fun q hq => p167d q (Int.le_trans (by decide) hq)⟩⟩
          · refine k_c2 44 rfl rfl (if_neg b173) ?_
            have b173 := mt iv_eq.mpr b173
            obtain ⟨mm, ha9⟩ := (p167g).resolve_left (by omega)
            clear p167g
            have ha1 := ha9.1
            have ha2 := ha9.2.1
            have ha3 := ha9.2.2.1
            have hb2 := p1.2.1
            refine k_iload 45 rfl rfl rfl ?_
            by_cases b175 : w1 = 0
            · refine k_c1 48 rfl rfl (if_pos b175) ?_
              have b175 := iv_eq0.mp b175
              refine k_aload 49 rfl rfl rfl ?_
              refine r_gI I166 52 rfl rfl rfl (fun x176 (e177 : x176.toInt = F164 63) => ?_)
              refine k_goto 80 rfl rfl ?_
              exact k_fin rfl rfl ⟨_, _, _, _, rfl, I166, (fr1.tr (by decide) (fr1.up (by decide) fr1.rf) k168), (fr2.tr (by decide) fr2.rf k169), ⟨p167a, p167b, p167c 2 (by decide), fun q hq => p167d q (Int.le_trans (by decide) hq)⟩⟩
            · refine k_c1 55 rfl rfl (if_neg b175) ?_
              have b175 := mt iv_eq0.mpr b175
              refine k_iload 56 rfl rfl rfl ?_
              refine k_push 57 rfl rfl ?_
              by_cases b178 : w1 = (1 : Int32)
              · refine k_c2 60 rfl rfl (if_pos b178) ?_
                have b178 := iv_eq.mp b178
                refine k_aload 61 rfl rfl rfl ?_
                refine r_gA I166 64 rfl rfl rfl ?_
                refine k_push 65 rfl rfl ?_
                have hc179 : (4 : Int32).toInt = 4 := by decide
                refine k_aload 66 rfl rfl rfl ?_
                refine r_gI I166 69 rfl rfl rfl (fun x180 (e181 : x180.toInt = F164 63) => ?_)
                obtain ⟨x182, q183⟩ : ∃ q : Int32, q = ((4 : Int32) * x180) := ⟨_, rfl⟩
                have e184 : x182.toInt = 4 * x180.toInt := by rw [q183]; exact iv_mulc 4 (by decide) (by omega) (by omega)
                refine k_bin x182 70 rfl q183.symm rfl ?_
                refine r_ld 26 I166 71 rfl rfl (by omega) (show x182.toInt < 32040 by omega) rfl (fun x185 (e186 : x185.toInt = A165 26 x182.toInt) => ?_)
                rw [e184] at e186
                have e187 : A165 26 = A0 26 := k169 26 (by decide)
                rw [e187] at e186
                have hv9 : x185.toInt = 4 * mm := e186.trans ((congrArg (A0 26) (by omega)).trans ha9.2.2.2.2.2.2.2.2.1)
                refine k_push 72 rfl rfl ?_
                obtain ⟨x188, q189⟩ : ∃ q : Int32, q = (x185 / (4 : Int32)) := ⟨_, rfl⟩
                have e190 : x188.toInt = x185.toInt / 4 := by rw [q189]; exact iv_div 4 (by decide) (by decide) (by omega)
                refine k_divZ x188 73 rfl (by decide) q189.symm rfl ?_
                refine k_goto 80 rfl rfl ?_
                exact k_fin rfl rfl ⟨_, _, _, _, rfl, I166, (fr1.tr (by decide) (fr1.up (by decide) fr1.rf) k168), (fr2.tr (by decide) fr2.rf k169), ⟨p167a, p167b, p167c 2 (by decide), fun q hq => p167d q (Int.le_trans (by decide) hq)⟩⟩
              · refine k_c2 76 rfl rfl (if_neg b178) ?_
                have b178 := mt iv_eq.mpr b178
                refine k_aload 77 rfl rfl rfl ?_
                refine r_gI I166 80 rfl rfl rfl (fun x191 (e192 : x191.toInt = F164 64) => ?_)
                exact k_fin rfl rfl ⟨_, _, _, _, rfl, I166, (fr1.tr (by decide) (fr1.up (by decide) fr1.rf) k168), (fr2.tr (by decide) fr2.rf k169), ⟨p167a, p167b, p167c 2 (by decide), fun q hq => p167d q (Int.le_trans (by decide) hq)⟩⟩
        · refine k_c1 27 rfl rfl (if_neg b161) ?_
          have b161 := mt iv_eq0.mpr b161
          refine k_push 28 rfl rfl ?_
          refine k_fin rfl (fin_Z (Or.inl rfl)) ⟨_, _, rfl, rf_len I3 I3, ?_⟩
          show am_Ok _ _ _ (16, _, [.inl (0 : Int32)], _, 0, 0) _
          refine k_c1 19 rfl rfl (if_pos (by decide)) ?_
          refine k_push 20 rfl rfl ?_
          exact k_fin rfl rfl ⟨_, _, _, _, rfl, I3, (fr1.up (by decide) fr1.rf), fr2.rf, show wr A0 ∧ wq A0 ∧ (A0 2) 2 = A0 2 2 ∧ (∀ q : Int, 2600 ≤ q → (A0 1) q = A0 1 q) from ⟨p5, p6, rfl, fun q _ => rfl⟩⟩
      · refine k_c1 16 rfl rfl (if_neg b158) ?_
        have b158 := mt iv_eq0.mpr b158
        refine k_aload 17 rfl rfl rfl ?_
        refine r_gI I3 20 rfl rfl rfl (fun x193 (e194 : x193.toInt = (0 : Int32).toInt) => ?_)
        by_cases b195 : x193 = 0
        · refine k_c1 23 rfl rfl (if_pos b195) ?_
          have b195 := iv_eq0.mp b195
          refine k_push 24 rfl rfl ?_
          refine k_goto 28 rfl rfl ?_
          refine k_fin rfl (fin_Z (Or.inr rfl)) ⟨_, _, rfl, rf_len I3 I3, ?_⟩
          show am_Ok _ _ _ (16, _, [.inl (1 : Int32)], _, 0, 0) _
          refine k_c1 21 rfl rfl (if_neg (by decide)) ?_
          refine k_aload 22 rfl rfl rfl ?_
          refine k_rv I3 rfl (m_walks (lm := lm) (gT := gT) I3.1 (show nn ((A0 24)) ((A0 25)) ((F0 28)) (gT) from p1) (show nw ((A0 24)) ((A0 25)) ((A0 26)) (lm) ((F0 28)) from p2) (show wr A0 from p5) (show wq A0 from p6)) rfl rfl rfl I3.rc ?_
          rintro h197 F198 A199 I200 ⟨k202, k203, p201⟩
          replace p201 : wr A199 ∧ wq A199 ∧ (∀ q : Int, q ≠ 0 → A199 2 q = (A0 2) q) ∧ (∀ q : Int, 400 ≤ q → A199 1 q = (A0 1) q) ∧ (∃ n' : Nat, n' ≤ 400 ∧ A199 2 0 = n' ∧ (F198 65 = 1 → wf (A199 1) 0 n')) ∧ (F198 65 = 0 ∨ F198 65 = 1) ∧ (F198 63 = -1 ∨ ∃ m, act ((A0 24)) ((A0 26)) ((F0 28)) (F198 63) m) := p201
          obtain ⟨p201a, p201b, p201c, p201d, p201e, p201f, p201g⟩ := p201
          show am_Ok _ _ _ (25, _, [], _, 0, 0) _
          clear p201e
          refine k_aload 26 rfl rfl rfl ?_
          refine r_gI I200 29 rfl rfl rfl (fun x204 (e205 : x204.toInt = F198 63) => ?_)
          refine k_push 30 rfl rfl ?_
          have hc206 : (-1 : Int32).toInt = -1 := by decide
          by_cases b207 : x204 = (-1 : Int32)
          · refine k_c2 33 rfl rfl (if_pos b207) ?_
            have b207 := iv_eq.mp b207
            refine k_iload 34 rfl rfl rfl ?_
            refine k_push 35 rfl rfl ?_
            by_cases b208 : w1 = (2 : Int32)
            · refine k_c2 38 rfl rfl (if_pos b208) ?_
              have b208 := iv_eq.mp b208
              refine k_push 39 rfl rfl ?_
              refine k_goto 43 rfl rfl ?_
              exact k_fin rfl rfl ⟨_, _, _, _, rfl, I200, (fr1.tr (by decide) (fr1.up (by decide) fr1.rf) k202), (fr2.tr (by decide) fr2.rf k203), ⟨p201a, p201b, p201c 2 (by decide), fun q hq => p201d q (Int.le_trans (by decide) hq)⟩⟩
            · refine k_c2 42 rfl rfl (if_neg b208) ?_
              have b208 := mt iv_eq.mpr b208
              refine k_push 43 rfl rfl ?_
              exact k_fin rfl rfl ⟨_, _, _, _, rfl, I200, (fr1.tr (by decide) (fr1.up (by decide) fr1.rf) k202), (fr2.tr (by decide) fr2.rf k203), ⟨p201a, p201b, p201c 2 (by decide), fun q hq => p201d q (Int.le_trans (by decide) hq)⟩⟩
          · refine k_c2 44 rfl rfl (if_neg b207) ?_
            have b207 := mt iv_eq.mpr b207
            obtain ⟨mm, ha9⟩ := (p201g).resolve_left (by omega)
            clear p201g
            have ha1 := ha9.1
            have ha2 := ha9.2.1
            have ha3 := ha9.2.2.1
            have hb2 := p1.2.1
            refine k_iload 45 rfl rfl rfl ?_
            by_cases b209 : w1 = 0
            · refine k_c1 48 rfl rfl (if_pos b209) ?_
              have b209 := iv_eq0.mp b209
              refine k_aload 49 rfl rfl rfl ?_
              refine r_gI I200 52 rfl rfl rfl (fun x210 (e211 : x210.toInt = F198 63) => ?_)
              refine k_goto 80 rfl rfl ?_
              exact k_fin rfl rfl ⟨_, _, _, _, rfl, I200, (fr1.tr (by decide) (fr1.up (by decide) fr1.rf) k202), (fr2.tr (by decide) fr2.rf k203), ⟨p201a, p201b, p201c 2 (by decide), fun q hq => p201d q (Int.le_trans (by decide) hq)⟩⟩
            · refine k_c1 55 rfl rfl (if_neg b209) ?_
              have b209 := mt iv_eq0.mpr b209
              refine k_iload 56 rfl rfl rfl ?_
              refine k_push 57 rfl rfl ?_
              by_cases b212 : w1 = (1 : Int32)
              · refine k_c2 60 rfl rfl (if_pos b212) ?_
                have b212 := iv_eq.mp b212
                refine k_aload 61 rfl rfl rfl ?_
                refine r_gA I200 64 rfl rfl rfl ?_
                refine k_push 65 rfl rfl ?_
                have hc213 : (4 : Int32).toInt = 4 := by decide
                refine k_aload 66 rfl rfl rfl ?_
                refine r_gI I200 69 rfl rfl rfl (fun x214 (e215 : x214.toInt = F198 63) => ?_)
                obtain ⟨x216, q217⟩ : ∃ q : Int32, q = ((4 : Int32) * x214) := ⟨_, rfl⟩
                have e218 : x216.toInt = 4 * x214.toInt := by rw [q217]; exact iv_mulc 4 (by decide) (by omega) (by omega)
                refine k_bin x216 70 rfl q217.symm rfl ?_
                refine r_ld 26 I200 71 rfl rfl (by omega) (show x216.toInt < 32040 by omega) rfl (fun x219 (e220 : x219.toInt = A199 26 x216.toInt) => ?_)
                rw [e218] at e220
                have e221 : A199 26 = A0 26 := k203 26 (by decide)
                rw [e221] at e220
                have hv9 : x219.toInt = 4 * mm := e220.trans ((congrArg (A0 26) (by omega)).trans ha9.2.2.2.2.2.2.2.2.1)
                refine k_push 72 rfl rfl ?_
                obtain ⟨x222, q223⟩ : ∃ q : Int32, q = (x219 / (4 : Int32)) := ⟨_, rfl⟩
                have e224 : x222.toInt = x219.toInt / 4 := by rw [q223]; exact iv_div 4 (by decide) (by decide) (by omega)
                refine k_divZ x222 73 rfl (by decide) q223.symm rfl ?_
                refine k_goto 80 rfl rfl ?_
                exact k_fin rfl rfl ⟨_, _, _, _, rfl, I200, (fr1.tr (by decide) (fr1.up (by decide) fr1.rf) k202), (fr2.tr (by decide) fr2.rf k203), ⟨p201a, p201b, p201c 2 (by decide), fun q hq => p201d q (Int.le_trans (by decide) hq)⟩⟩
              · refine k_c2 76 rfl rfl (if_neg b212) ?_
                have b212 := mt iv_eq.mpr b212
                refine k_aload 77 rfl rfl rfl ?_
                refine r_gI I200 80 rfl rfl rfl (fun x225 (e226 : x225.toInt = F198 64) => ?_)
                exact k_fin rfl rfl ⟨_, _, _, _, rfl, I200, (fr1.tr (by decide) (fr1.up (by decide) fr1.rf) k202), (fr2.tr (by decide) fr2.rf k203), ⟨p201a, p201b, p201c 2 (by decide), fun q hq => p201d q (Int.le_trans (by decide) hq)⟩⟩
        · refine k_c1 27 rfl rfl (if_neg b195) ?_
          have b195 := mt iv_eq0.mpr b195
          refine k_push 28 rfl rfl ?_
          refine k_fin rfl (fin_Z (Or.inl rfl)) ⟨_, _, rfl, rf_len I3 I3, ?_⟩
          show am_Ok _ _ _ (16, _, [.inl (0 : Int32)], _, 0, 0) _
          refine k_c1 19 rfl rfl (if_pos (by decide)) ?_
          refine k_push 20 rfl rfl ?_
          exact k_fin rfl rfl ⟨_, _, _, _, rfl, I3, (fr1.up (by decide) fr1.rf), fr2.rf, show wr A0 ∧ wq A0 ∧ (A0 2) 2 = A0 2 2 ∧ (∀ q : Int, 2600 ≤ q → (A0 1) q = A0 1 q) from ⟨p5, p6, rfl, fun q _ => rfl⟩⟩
theorem m_node {h0 : am_h} {F0 : rf_f} {A0 : rf_A} {w1 : Int32} {w2 : Int32}  (hR : rf_R h0 F0 A0) (p1 : 1 ≤ F0 28 ∧ F0 28 ≤ 400) : am_Mt 3 250 [.inr (.inr (some 81)), .inl w1, .inl w2] h0 (rf_Q h0 (fun x F' A' => fr1 [0] F0 F' ∧ fr2 [] A0 A' ∧ (True))) := by
  refine am_Mt.of (D := 2) ?_
  have hI : rf_I h0 h0 F0 A0 := rf_I.start hR
  refine k_aload 1 rfl rfl rfl ?_
  refine k_push 2 rfl rfl ?_
  have hc1 : (0 : Int32).toInt = 0 := by decide
  refine r_pI hI 5 rfl rfl rfl (fun h2 I3 => ?_)
  refine k_aload 6 rfl rfl rfl ?_
  refine k_aload 7 rfl rfl rfl ?_
  refine k_iload 8 rfl rfl rfl ?_
  refine k_rq I3 rfl (m_isNode  I3.1 (show 1 ≤ (F0 28) ∧ (F0 28) ≤ 400 by omega)) rfl rfl rfl I3.rc ?_
  rintro x4 h5 F6 A7 I8 ⟨k10, k11, p9⟩
  replace p9 : x4.toInt = 0 ∨ (x4.toInt = 1 ∧ 0 ≤ w1.toInt ∧ w1.toInt < (F0 28) ∧ (A0 24) w1.toInt ≠ -1) := p9
  have k10 := fr1.nil k10
  subst k10
  have k11 := fr2.nil k11
  subst k11
  have z12 := iv_01 (x := x4) (by omega)
  show am_Ok _ _ _ (11, _, [.inl x4, .inr (.inr (some 81))], _, 0, 0) _
  by_cases b13 : x4 = 0
  · refine k_c1 27 rfl rfl (if_pos b13) ?_
    have b13 := iv_eq0.mp b13
    refine k_push 28 rfl rfl ?_
    refine k_push 29 rfl rfl ?_
    have hc14 : (1 : Int32).toInt = 1 := by decide
    refine k_in (d := 0) rfl rfl rfl rfl I8.rc ?_
    refine k_aload 1 rfl rfl rfl ?_
    refine r_gI I8 4 rfl rfl rfl (fun x15 (e16 : x15.toInt = (0 : Int32).toInt) => ?_)
    by_cases b17 : x15 = 0
    · refine k_c1 7 rfl rfl (if_pos b17) ?_
      have b17 := iv_eq0.mp b17
      refine k_iload 8 rfl rfl rfl ?_
      refine k_c1 11 rfl rfl (if_pos (by decide)) ?_
      refine k_aload 12 rfl rfl rfl ?_
      refine k_iload 13 rfl rfl rfl ?_
      refine r_pI I8 16 rfl rfl rfl (fun h18 I19 => ?_)
      refine k_aload 17 rfl rfl rfl ?_
      refine r_gI I19 20 rfl rfl rfl (fun x20 (e21 : x20.toInt = (1 : Int32).toInt) => ?_)
      by_cases b22 : x20 = 0
      · refine k_c1 23 rfl rfl (if_pos b22) ?_
        have b22 := iv_eq0.mp b22
        refine k_push 24 rfl rfl ?_
        refine k_goto 28 rfl rfl ?_
        refine k_fin rfl (fin_Z (Or.inr rfl)) ⟨_, _, rfl, rf_len I8 I19, ?_⟩
        show am_Ok _ _ _ (32, _, [.inl (1 : Int32)], _, 0, 0) _
        refine k_c1 37 rfl rfl (if_neg (by decide)) ?_
        refine k_iload 38 rfl rfl rfl ?_
        refine k_push 39 rfl rfl ?_
        have hc23 : (2 : Int32).toInt = 2 := by decide
        by_cases b24 : (2 : Int32) ≤ w2
        · refine k_c2 62 rfl rfl (if_pos b24) ?_
          have b24 := iv_le.mp b24
          refine k_iload 63 rfl rfl rfl ?_
          refine k_push 64 rfl rfl ?_
          obtain ⟨x25, q26⟩ : ∃ q : Int32, q = (w2 - (2 : Int32)) := ⟨_, rfl⟩
          have e27 : x25.toInt = w2.toInt - 2 := by rw [q26, iv_sub (by omega) (by omega)]; omega
          refine k_bin x25 65 rfl q26.symm rfl ?_
          refine k_aload 66 rfl rfl rfl ?_
          refine r_gA I19 69 rfl rfl rfl ?_
          refine k_iload 70 rfl rfl rfl ?_
          refine r_ld 24 I19 71 rfl rfl (by omega) (show w1.toInt < 8010 by omega) rfl (fun x28 (e29 : x28.toInt = A0 24 w1.toInt) => ?_)
          refine k_rq I19 rfl (m_portsOf  I19.1 ) rfl rfl rfl rfl ?_
          rintro x30 h31 F32 A33 I34 ⟨k36, k37, p35⟩
          replace p35 : x30.toInt = pr x28.toInt := p35
          have k36 := fr1.nil k36
          subst k36
          have k37 := fr2.nil k37
          subst k37
          show am_Ok _ _ _ (74, _, [.inl x30, .inl x25], _, 0, 0) _
          by_cases b38 : x30 ≤ x25
          · refine k_c2 92 rfl rfl (if_pos b38) ?_
            have b38 := iv_le.mp b38
            refine k_push 93 rfl rfl ?_
            have hc39 : (-1 : Int32).toInt = -1 := by decide
            exact k_fin rfl rfl ⟨_, _, _, _, rfl, I34, (fr1.up (by decide) (fr1.up (by decide) fr1.rf)), fr2.rf, show True from trivial⟩
          · refine k_c2 77 rfl rfl (if_neg b38) ?_
            have b38 := mt iv_le.mpr b38
            refine k_aload 78 rfl rfl rfl ?_
            refine r_gA I34 81 rfl rfl rfl ?_
            refine k_push 82 rfl rfl ?_
            have hc40 : (4 : Int32).toInt = 4 := by decide
            refine k_iload 83 rfl rfl rfl ?_
            obtain ⟨x41, q42⟩ : ∃ q : Int32, q = ((4 : Int32) * w1) := ⟨_, rfl⟩
            have e43 : x41.toInt = 4 * w1.toInt := by rw [q42]; exact iv_mulc 4 (by decide) (by omega) (by omega)
            refine k_bin x41 84 rfl q42.symm rfl ?_
            refine k_iload 85 rfl rfl rfl ?_
            obtain ⟨x44, q45⟩ : ∃ q : Int32, q = (x41 + w2) := ⟨_, rfl⟩
            have e46 : x44.toInt = x41.toInt + w2.toInt := by rw [q45, iv_add (by omega) (by omega)]
            refine k_bin x44 86 rfl q45.symm rfl ?_
            refine k_push 87 rfl rfl ?_
            obtain ⟨x47, q48⟩ : ∃ q : Int32, q = (x44 - (2 : Int32)) := ⟨_, rfl⟩
            have e49 : x47.toInt = x44.toInt - 2 := by rw [q48, iv_sub (by omega) (by omega)]; omega
            refine k_bin x47 88 rfl q48.symm rfl ?_
            refine r_ld 26 I34 89 rfl rfl (by omega) (show x47.toInt < 32040 by omega) rfl (fun x50 (e51 : x50.toInt = A0 26 x47.toInt) => ?_)
            rw [e49] at e51
            rw [e46] at e51
            rw [e43] at e51
            refine k_goto 93 rfl rfl ?_
            exact k_fin rfl rfl ⟨_, _, _, _, rfl, I34, (fr1.up (by decide) (fr1.up (by decide) fr1.rf)), fr2.rf, show True from trivial⟩
        · refine k_c2 42 rfl rfl (if_neg b24) ?_
          have b24 := mt iv_le.mpr b24
          refine k_iload 43 rfl rfl rfl ?_
          by_cases b52 : w2 = 0
          · refine k_c1 46 rfl rfl (if_pos b52) ?_
            have b52 := iv_eq0.mp b52
            refine k_aload 47 rfl rfl rfl ?_
            refine r_gA I19 50 rfl rfl rfl ?_
            refine k_iload 51 rfl rfl rfl ?_
            refine r_ld 24 I19 52 rfl rfl (by omega) (show w1.toInt < 8010 by omega) rfl (fun x53 (e54 : x53.toInt = A0 24 w1.toInt) => ?_)
            refine k_goto 61 rfl rfl ?_
            exact k_fin rfl rfl ⟨_, _, _, _, rfl, I19, (fr1.up (by decide) (fr1.up (by decide) fr1.rf)), fr2.rf, show True from trivial⟩
          · refine k_c1 55 rfl rfl (if_neg b52) ?_
            have b52 := mt iv_eq0.mpr b52
            refine k_aload 56 rfl rfl rfl ?_
            refine r_gA I19 59 rfl rfl rfl ?_
            refine k_iload 60 rfl rfl rfl ?_
            refine r_ld 25 I19 61 rfl rfl (by omega) (show w1.toInt < 8010 by omega) rfl (fun x55 (e56 : x55.toInt = A0 25 w1.toInt) => ?_)
            exact k_fin rfl rfl ⟨_, _, _, _, rfl, I19, (fr1.up (by decide) (fr1.up (by decide) fr1.rf)), fr2.rf, show True from trivial⟩
      · refine k_c1 27 rfl rfl (if_neg b22) ?_
        have b22 := mt iv_eq0.mpr b22
        refine k_push 28 rfl rfl ?_
        refine k_fin rfl (fin_Z (Or.inl rfl)) ⟨_, _, rfl, rf_len I8 I19, ?_⟩
        show am_Ok _ _ _ (32, _, [.inl (0 : Int32)], _, 0, 0) _
        refine k_c1 35 rfl rfl (if_pos (by decide)) ?_
        refine k_push 36 rfl rfl ?_
        exact k_fin rfl rfl ⟨_, _, _, _, rfl, I19, (fr1.up (by decide) (fr1.up (by decide) fr1.rf)), fr2.rf, show True from trivial⟩
    · refine k_c1 16 rfl rfl (if_neg b17) ?_
      have b17 := mt iv_eq0.mpr b17
      refine k_aload 17 rfl rfl rfl ?_
      refine r_gI I8 20 rfl rfl rfl (fun x57 (e58 : x57.toInt = (0 : Int32).toInt) => ?_)
      by_cases b59 : x57 = 0
      · refine k_c1 23 rfl rfl (if_pos b59) ?_
        have b59 := iv_eq0.mp b59
        refine k_push 24 rfl rfl ?_
        refine k_goto 28 rfl rfl ?_
        refine k_fin rfl (fin_Z (Or.inr rfl)) ⟨_, _, rfl, rf_len I8 I8, ?_⟩
        show am_Ok _ _ _ (32, _, [.inl (1 : Int32)], _, 0, 0) _
        refine k_c1 37 rfl rfl (if_neg (by decide)) ?_
        refine k_iload 38 rfl rfl rfl ?_
        refine k_push 39 rfl rfl ?_
        have hc60 : (2 : Int32).toInt = 2 := by decide
        by_cases b61 : (2 : Int32) ≤ w2
        · refine k_c2 62 rfl rfl (if_pos b61) ?_
          have b61 := iv_le.mp b61
          refine k_iload 63 rfl rfl rfl ?_
          refine k_push 64 rfl rfl ?_
          obtain ⟨x62, q63⟩ : ∃ q : Int32, q = (w2 - (2 : Int32)) := ⟨_, rfl⟩
          have e64 : x62.toInt = w2.toInt - 2 := by rw [q63, iv_sub (by omega) (by omega)]; omega
          refine k_bin x62 65 rfl q63.symm rfl ?_
          refine k_aload 66 rfl rfl rfl ?_
          refine r_gA I8 69 rfl rfl rfl ?_
          refine k_iload 70 rfl rfl rfl ?_
          refine r_ld 24 I8 71 rfl rfl (by omega) (show w1.toInt < 8010 by omega) rfl (fun x65 (e66 : x65.toInt = A0 24 w1.toInt) => ?_)
          refine k_rq I8 rfl (m_portsOf  I8.1 ) rfl rfl rfl rfl ?_
          rintro x67 h68 F69 A70 I71 ⟨k73, k74, p72⟩
          replace p72 : x67.toInt = pr x65.toInt := p72
          have k73 := fr1.nil k73
          subst k73
          have k74 := fr2.nil k74
          subst k74
          show am_Ok _ _ _ (74, _, [.inl x67, .inl x62], _, 0, 0) _
          by_cases b75 : x67 ≤ x62
          · refine k_c2 92 rfl rfl (if_pos b75) ?_
            have b75 := iv_le.mp b75
            refine k_push 93 rfl rfl ?_
            have hc76 : (-1 : Int32).toInt = -1 := by decide
            exact k_fin rfl rfl ⟨_, _, _, _, rfl, I71, (fr1.up (by decide) fr1.rf), fr2.rf, show True from trivial⟩
          · refine k_c2 77 rfl rfl (if_neg b75) ?_
            have b75 := mt iv_le.mpr b75
            refine k_aload 78 rfl rfl rfl ?_
            refine r_gA I71 81 rfl rfl rfl ?_
            refine k_push 82 rfl rfl ?_
            have hc77 : (4 : Int32).toInt = 4 := by decide
            refine k_iload 83 rfl rfl rfl ?_
            obtain ⟨x78, q79⟩ : ∃ q : Int32, q = ((4 : Int32) * w1) := ⟨_, rfl⟩
            have e80 : x78.toInt = 4 * w1.toInt := by rw [q79]; exact iv_mulc 4 (by decide) (by omega) (by omega)
            refine k_bin x78 84 rfl q79.symm rfl ?_
            refine k_iload 85 rfl rfl rfl ?_
            obtain ⟨x81, q82⟩ : ∃ q : Int32, q = (x78 + w2) := ⟨_, rfl⟩
            have e83 : x81.toInt = x78.toInt + w2.toInt := by rw [q82, iv_add (by omega) (by omega)]
            refine k_bin x81 86 rfl q82.symm rfl ?_
            refine k_push 87 rfl rfl ?_
            obtain ⟨x84, q85⟩ : ∃ q : Int32, q = (x81 - (2 : Int32)) := ⟨_, rfl⟩
            have e86 : x84.toInt = x81.toInt - 2 := by rw [q85, iv_sub (by omega) (by omega)]; omega
            refine k_bin x84 88 rfl q85.symm rfl ?_
            refine r_ld 26 I71 89 rfl rfl (by omega) (show x84.toInt < 32040 by omega) rfl (fun x87 (e88 : x87.toInt = A0 26 x84.toInt) => ?_)
            rw [e86] at e88
            rw [e83] at e88
            rw [e80] at e88
            refine k_goto 93 rfl rfl ?_
            exact k_fin rfl rfl ⟨_, _, _, _, rfl, I71, (fr1.up (by decide) fr1.rf), fr2.rf, show True from trivial⟩
        · refine k_c2 42 rfl rfl (if_neg b61) ?_
          have b61 := mt iv_le.mpr b61
          refine k_iload 43 rfl rfl rfl ?_
          by_cases b89 : w2 = 0
          · refine k_c1 46 rfl rfl (if_pos b89) ?_
            have b89 := iv_eq0.mp b89
            refine k_aload 47 rfl rfl rfl ?_
            refine r_gA I8 50 rfl rfl rfl ?_
            refine k_iload 51 rfl rfl rfl ?_
            refine r_ld 24 I8 52 rfl rfl (by omega) (show w1.toInt < 8010 by omega) rfl (fun x90 (e91 : x90.toInt = A0 24 w1.toInt) => ?_)
            refine k_goto 61 rfl rfl ?_
            exact k_fin rfl rfl ⟨_, _, _, _, rfl, I8, (fr1.up (by decide) fr1.rf), fr2.rf, show True from trivial⟩
          · refine k_c1 55 rfl rfl (if_neg b89) ?_
            have b89 := mt iv_eq0.mpr b89
            refine k_aload 56 rfl rfl rfl ?_
            refine r_gA I8 59 rfl rfl rfl ?_
            refine k_iload 60 rfl rfl rfl ?_
            refine r_ld 25 I8 61 rfl rfl (by omega) (show w1.toInt < 8010 by omega) rfl (fun x92 (e93 : x92.toInt = A0 25 w1.toInt) => ?_)
            exact k_fin rfl rfl ⟨_, _, _, _, rfl, I8, (fr1.up (by decide) fr1.rf), fr2.rf, show True from trivial⟩
      · refine k_c1 27 rfl rfl (if_neg b59) ?_
        have b59 := mt iv_eq0.mpr b59
        refine k_push 28 rfl rfl ?_
        refine k_fin rfl (fin_Z (Or.inl rfl)) ⟨_, _, rfl, rf_len I8 I8, ?_⟩
        show am_Ok _ _ _ (32, _, [.inl (0 : Int32)], _, 0, 0) _
        refine k_c1 35 rfl rfl (if_pos (by decide)) ?_
        refine k_push 36 rfl rfl ?_
        exact k_fin rfl rfl ⟨_, _, _, _, rfl, I8, (fr1.up (by decide) fr1.rf), fr2.rf, show True from trivial⟩
  · refine k_c1 14 rfl rfl (if_neg b13) ?_
    have b13 := mt iv_eq0.mpr b13
    refine k_iload 15 rfl rfl rfl ?_
    refine k_push 16 rfl rfl ?_
    refine k_push 17 rfl rfl ?_
    have hc94 : (4 : Int32).toInt = 4 := by decide
    refine k_in (d := 0) rfl rfl rfl rfl rfl ?_
    refine k_iload 1 rfl rfl rfl ?_
    refine k_iload 2 rfl rfl rfl ?_
    by_cases b95 : w2 < (0 : Int32)
    · refine k_c2 14 rfl rfl (if_pos b95) ?_
      have b95 := iv_lt.mp b95
      refine k_push 15 rfl rfl ?_
      refine k_fin rfl (fin_Z (Or.inl rfl)) ⟨_, _, rfl, rf_len I8 I8, ?_⟩
      show am_Ok _ _ _ (20, _, [.inl (0 : Int32), .inr (.inr (some 81))], _, 0, 0) _
      refine k_c1 27 rfl rfl (if_pos (by decide)) ?_
      refine k_push 28 rfl rfl ?_
      refine k_push 29 rfl rfl ?_
      have hc96 : (1 : Int32).toInt = 1 := by decide
      refine k_in (d := 0) rfl rfl rfl rfl I8.rc ?_
      refine k_aload 1 rfl rfl rfl ?_
      refine r_gI I8 4 rfl rfl rfl (fun x97 (e98 : x97.toInt = (0 : Int32).toInt) => ?_)
      by_cases b99 : x97 = 0
      · refine k_c1 7 rfl rfl (if_pos b99) ?_
        have b99 := iv_eq0.mp b99
        refine k_iload 8 rfl rfl rfl ?_
        refine k_c1 11 rfl rfl (if_pos (by decide)) ?_
        refine k_aload 12 rfl rfl rfl ?_
        refine k_iload 13 rfl rfl rfl ?_
        refine r_pI I8 16 rfl rfl rfl (fun h100 I101 => ?_)
        refine k_aload 17 rfl rfl rfl ?_
        refine r_gI I101 20 rfl rfl rfl (fun x102 (e103 : x102.toInt = (1 : Int32).toInt) => ?_)
        by_cases b104 : x102 = 0
        · refine k_c1 23 rfl rfl (if_pos b104) ?_
          have b104 := iv_eq0.mp b104
          refine k_push 24 rfl rfl ?_
          refine k_goto 28 rfl rfl ?_
          refine k_fin rfl (fin_Z (Or.inr rfl)) ⟨_, _, rfl, rf_len I8 I101, ?_⟩
          show am_Ok _ _ _ (32, _, [.inl (1 : Int32)], _, 0, 0) _
          refine k_c1 37 rfl rfl (if_neg (by decide)) ?_
          refine k_iload 38 rfl rfl rfl ?_
          refine k_push 39 rfl rfl ?_
          have hc105 : (2 : Int32).toInt = 2 := by decide
          by_cases b106 : (2 : Int32) ≤ w2
          · refine k_c2 62 rfl rfl (if_pos b106) ?_
            have b106 := iv_le.mp b106
            refine k_iload 63 rfl rfl rfl ?_
            refine k_push 64 rfl rfl ?_
            obtain ⟨x107, q108⟩ : ∃ q : Int32, q = (w2 - (2 : Int32)) := ⟨_, rfl⟩
            have e109 : x107.toInt = w2.toInt - 2 := by rw [q108, iv_sub (by omega) (by omega)]; omega
            refine k_bin x107 65 rfl q108.symm rfl ?_
            refine k_aload 66 rfl rfl rfl ?_
            refine r_gA I101 69 rfl rfl rfl ?_
            refine k_iload 70 rfl rfl rfl ?_
            refine r_ld 24 I101 71 rfl rfl (by omega) (show w1.toInt < 8010 by omega) rfl (fun x110 (e111 : x110.toInt = A0 24 w1.toInt) => ?_)
            refine k_rq I101 rfl (m_portsOf  I101.1 ) rfl rfl rfl rfl ?_
            rintro x112 h113 F114 A115 I116 ⟨k118, k119, p117⟩
            replace p117 : x112.toInt = pr x110.toInt := p117
            have k118 := fr1.nil k118
            subst k118
            have k119 := fr2.nil k119
            subst k119
            show am_Ok _ _ _ (74, _, [.inl x112, .inl x107], _, 0, 0) _
            by_cases b120 : x112 ≤ x107
            · refine k_c2 92 rfl rfl (if_pos b120) ?_
              have b120 := iv_le.mp b120
              refine k_push 93 rfl rfl ?_
              have hc121 : (-1 : Int32).toInt = -1 := by decide
              exact k_fin rfl rfl ⟨_, _, _, _, rfl, I116, (fr1.up (by decide) (fr1.up (by decide) fr1.rf)), fr2.rf, show True from trivial⟩
            · refine k_c2 77 rfl rfl (if_neg b120) ?_
              have b120 := mt iv_le.mpr b120
              refine k_aload 78 rfl rfl rfl ?_
              refine r_gA I116 81 rfl rfl rfl ?_
              refine k_push 82 rfl rfl ?_
              refine k_iload 83 rfl rfl rfl ?_
              obtain ⟨x122, q123⟩ : ∃ q : Int32, q = ((4 : Int32) * w1) := ⟨_, rfl⟩
              have e124 : x122.toInt = 4 * w1.toInt := by rw [q123]; exact iv_mulc 4 (by decide) (by omega) (by omega)
              refine k_bin x122 84 rfl q123.symm rfl ?_
              refine k_iload 85 rfl rfl rfl ?_
              obtain ⟨x125, q126⟩ : ∃ q : Int32, q = (x122 + w2) := ⟨_, rfl⟩
              have e127 : x125.toInt = x122.toInt + w2.toInt := by rw [q126, iv_add (by omega) (by omega)]
              refine k_bin x125 86 rfl q126.symm rfl ?_
              refine k_push 87 rfl rfl ?_
              obtain ⟨x128, q129⟩ : ∃ q : Int32, q = (x125 - (2 : Int32)) := ⟨_, rfl⟩
              have e130 : x128.toInt = x125.toInt - 2 := by rw [q129, iv_sub (by omega) (by omega)]; omega
              refine k_bin x128 88 rfl q129.symm rfl ?_
              refine r_ld 26 I116 89 rfl rfl (by omega) (show x128.toInt < 32040 by omega) rfl (fun x131 (e132 : x131.toInt = A0 26 x128.toInt) => ?_)
              rw [e130] at e132
              rw [e127] at e132
              rw [e124] at e132
              refine k_goto 93 rfl rfl ?_
              exact k_fin rfl rfl ⟨_, _, _, _, rfl, I116, (fr1.up (by decide) (fr1.up (by decide) fr1.rf)), fr2.rf, show True from trivial⟩
          · refine k_c2 42 rfl rfl (if_neg b106) ?_
            have b106 := mt iv_le.mpr b106
            refine k_iload 43 rfl rfl rfl ?_
            by_cases b133 : w2 = 0
            · refine k_c1 46 rfl rfl (if_pos b133) ?_
              have b133 := iv_eq0.mp b133
              refine k_aload 47 rfl rfl rfl ?_
              refine r_gA I101 50 rfl rfl rfl ?_
              refine k_iload 51 rfl rfl rfl ?_
              refine r_ld 24 I101 52 rfl rfl (by omega) (show w1.toInt < 8010 by omega) rfl (fun x134 (e135 : x134.toInt = A0 24 w1.toInt) => ?_)
              refine k_goto 61 rfl rfl ?_
              exact k_fin rfl rfl ⟨_, _, _, _, rfl, I101, (fr1.up (by decide) (fr1.up (by decide) fr1.rf)), fr2.rf, show True from trivial⟩
            · refine k_c1 55 rfl rfl (if_neg b133) ?_
              have b133 := mt iv_eq0.mpr b133
              refine k_aload 56 rfl rfl rfl ?_
              refine r_gA I101 59 rfl rfl rfl ?_
              refine k_iload 60 rfl rfl rfl ?_
              refine r_ld 25 I101 61 rfl rfl (by omega) (show w1.toInt < 8010 by omega) rfl (fun x136 (e137 : x136.toInt = A0 25 w1.toInt) => ?_)
              exact k_fin rfl rfl ⟨_, _, _, _, rfl, I101, (fr1.up (by decide) (fr1.up (by decide) fr1.rf)), fr2.rf, show True from trivial⟩
        · refine k_c1 27 rfl rfl (if_neg b104) ?_
          have b104 := mt iv_eq0.mpr b104
          refine k_push 28 rfl rfl ?_
          refine k_fin rfl (fin_Z (Or.inl rfl)) ⟨_, _, rfl, rf_len I8 I101, ?_⟩
          show am_Ok _ _ _ (32, _, [.inl (0 : Int32)], _, 0, 0) _
          refine k_c1 35 rfl rfl (if_pos (by decide)) ?_
          refine k_push 36 rfl rfl ?_
          exact k_fin rfl rfl ⟨_, _, _, _, rfl, I101, (fr1.up (by decide) (fr1.up (by decide) fr1.rf)), fr2.rf, show True from trivial⟩
      · refine k_c1 16 rfl rfl (if_neg b99) ?_
        have b99 := mt iv_eq0.mpr b99
        refine k_aload 17 rfl rfl rfl ?_
        refine r_gI I8 20 rfl rfl rfl (fun x138 (e139 : x138.toInt = (0 : Int32).toInt) => ?_)
        by_cases b140 : x138 = 0
        · refine k_c1 23 rfl rfl (if_pos b140) ?_
          have b140 := iv_eq0.mp b140
          refine k_push 24 rfl rfl ?_
          refine k_goto 28 rfl rfl ?_
          refine k_fin rfl (fin_Z (Or.inr rfl)) ⟨_, _, rfl, rf_len I8 I8, ?_⟩
          show am_Ok _ _ _ (32, _, [.inl (1 : Int32)], _, 0, 0) _
          refine k_c1 37 rfl rfl (if_neg (by decide)) ?_
          refine k_iload 38 rfl rfl rfl ?_
          refine k_push 39 rfl rfl ?_
          have hc141 : (2 : Int32).toInt = 2 := by decide
          by_cases b142 : (2 : Int32) ≤ w2
          · refine k_c2 62 rfl rfl (if_pos b142) ?_
            have b142 := iv_le.mp b142
            refine k_iload 63 rfl rfl rfl ?_
            refine k_push 64 rfl rfl ?_
            obtain ⟨x143, q144⟩ : ∃ q : Int32, q = (w2 - (2 : Int32)) := ⟨_, rfl⟩
            have e145 : x143.toInt = w2.toInt - 2 := by rw [q144, iv_sub (by omega) (by omega)]; omega
            refine k_bin x143 65 rfl q144.symm rfl ?_
            refine k_aload 66 rfl rfl rfl ?_
            refine r_gA I8 69 rfl rfl rfl ?_
            refine k_iload 70 rfl rfl rfl ?_
            refine r_ld 24 I8 71 rfl rfl (by omega) (show w1.toInt < 8010 by omega) rfl (fun x146 (e147 : x146.toInt = A0 24 w1.toInt) => ?_)
            refine k_rq I8 rfl (m_portsOf  I8.1 ) rfl rfl rfl rfl ?_
            rintro x148 h149 F150 A151 I152 ⟨k154, k155, p153⟩
            replace p153 : x148.toInt = pr x146.toInt := p153
            have k154 := fr1.nil k154
            subst k154
            have k155 := fr2.nil k155
            subst k155
            show am_Ok _ _ _ (74, _, [.inl x148, .inl x143], _, 0, 0) _
            by_cases b156 : x148 ≤ x143
            · refine k_c2 92 rfl rfl (if_pos b156) ?_
              have b156 := iv_le.mp b156
              refine k_push 93 rfl rfl ?_
              have hc157 : (-1 : Int32).toInt = -1 := by decide
              exact k_fin rfl rfl ⟨_, _, _, _, rfl, I152, (fr1.up (by decide) fr1.rf), fr2.rf, show True from trivial⟩
            · refine k_c2 77 rfl rfl (if_neg b156) ?_
              have b156 := mt iv_le.mpr b156
              refine k_aload 78 rfl rfl rfl ?_
              refine r_gA I152 81 rfl rfl rfl ?_
              refine k_push 82 rfl rfl ?_
              refine k_iload 83 rfl rfl rfl ?_
              obtain ⟨x158, q159⟩ : ∃ q : Int32, q = ((4 : Int32) * w1) := ⟨_, rfl⟩
              have e160 : x158.toInt = 4 * w1.toInt := by rw [q159]; exact iv_mulc 4 (by decide) (by omega) (by omega)
              refine k_bin x158 84 rfl q159.symm rfl ?_
              refine k_iload 85 rfl rfl rfl ?_
              obtain ⟨x161, q162⟩ : ∃ q : Int32, q = (x158 + w2) := ⟨_, rfl⟩
              have e163 : x161.toInt = x158.toInt + w2.toInt := by rw [q162, iv_add (by omega) (by omega)]
              refine k_bin x161 86 rfl q162.symm rfl ?_
              refine k_push 87 rfl rfl ?_
              obtain ⟨x164, q165⟩ : ∃ q : Int32, q = (x161 - (2 : Int32)) := ⟨_, rfl⟩
              have e166 : x164.toInt = x161.toInt - 2 := by rw [q165, iv_sub (by omega) (by omega)]; omega
              refine k_bin x164 88 rfl q165.symm rfl ?_
              refine r_ld 26 I152 89 rfl rfl (by omega) (show x164.toInt < 32040 by omega) rfl (fun x167 (e168 : x167.toInt = A0 26 x164.toInt) => ?_)
              rw [e166] at e168
              rw [e163] at e168
              rw [e160] at e168
              refine k_goto 93 rfl rfl ?_
              exact k_fin rfl rfl ⟨_, _, _, _, rfl, I152, (fr1.up (by decide) fr1.rf), fr2.rf, show True from trivial⟩
          · refine k_c2 42 rfl rfl (if_neg b142) ?_
            have b142 := mt iv_le.mpr b142
            refine k_iload 43 rfl rfl rfl ?_
            by_cases b169 : w2 = 0
            · refine k_c1 46 rfl rfl (if_pos b169) ?_
              have b169 := iv_eq0.mp b169
              refine k_aload 47 rfl rfl rfl ?_
              refine r_gA I8 50 rfl rfl rfl ?_
              refine k_iload 51 rfl rfl rfl ?_
              refine r_ld 24 I8 52 rfl rfl (by omega) (show w1.toInt < 8010 by omega) rfl (fun x170 (e171 : x170.toInt = A0 24 w1.toInt) => ?_)
              refine k_goto 61 rfl rfl ?_
              exact k_fin rfl rfl ⟨_, _, _, _, rfl, I8, (fr1.up (by decide) fr1.rf), fr2.rf, show True from trivial⟩
            · refine k_c1 55 rfl rfl (if_neg b169) ?_
              have b169 := mt iv_eq0.mpr b169
              refine k_aload 56 rfl rfl rfl ?_
              refine r_gA I8 59 rfl rfl rfl ?_
              refine k_iload 60 rfl rfl rfl ?_
              refine r_ld 25 I8 61 rfl rfl (by omega) (show w1.toInt < 8010 by omega) rfl (fun x172 (e173 : x172.toInt = A0 25 w1.toInt) => ?_)
              exact k_fin rfl rfl ⟨_, _, _, _, rfl, I8, (fr1.up (by decide) fr1.rf), fr2.rf, show True from trivial⟩
        · refine k_c1 27 rfl rfl (if_neg b140) ?_
          have b140 := mt iv_eq0.mpr b140
          refine k_push 28 rfl rfl ?_
          refine k_fin rfl (fin_Z (Or.inl rfl)) ⟨_, _, rfl, rf_len I8 I8, ?_⟩
          show am_Ok _ _ _ (32, _, [.inl (0 : Int32)], _, 0, 0) _
          refine k_c1 35 rfl rfl (if_pos (by decide)) ?_
          refine k_push 36 rfl rfl ?_
          exact k_fin rfl rfl ⟨_, _, _, _, rfl, I8, (fr1.up (by decide) fr1.rf), fr2.rf, show True from trivial⟩
    · refine k_c2 5 rfl rfl (if_neg b95) ?_
      have b95 := mt iv_lt.mpr b95
      refine k_iload 6 rfl rfl rfl ?_
      refine k_iload 7 rfl rfl rfl ?_
      by_cases b174 : (4 : Int32) < w2
      · refine k_c2 14 rfl rfl (if_pos b174) ?_
        have b174 := iv_lt.mp b174
        refine k_push 15 rfl rfl ?_
        refine k_fin rfl (fin_Z (Or.inl rfl)) ⟨_, _, rfl, rf_len I8 I8, ?_⟩
        show am_Ok _ _ _ (20, _, [.inl (0 : Int32), .inr (.inr (some 81))], _, 0, 0) _
        refine k_c1 27 rfl rfl (if_pos (by decide)) ?_
        refine k_push 28 rfl rfl ?_
        refine k_push 29 rfl rfl ?_
        have hc175 : (1 : Int32).toInt = 1 := by decide
        refine k_in (d := 0) rfl rfl rfl rfl I8.rc ?_
        refine k_aload 1 rfl rfl rfl ?_
        refine r_gI I8 4 rfl rfl rfl (fun x176 (e177 : x176.toInt = (0 : Int32).toInt) => ?_)
        by_cases b178 : x176 = 0
        · refine k_c1 7 rfl rfl (if_pos b178) ?_
          have b178 := iv_eq0.mp b178
          refine k_iload 8 rfl rfl rfl ?_
          refine k_c1 11 rfl rfl (if_pos (by decide)) ?_
          refine k_aload 12 rfl rfl rfl ?_
          refine k_iload 13 rfl rfl rfl ?_
          refine r_pI I8 16 rfl rfl rfl (fun h179 I180 => ?_)
          refine k_aload 17 rfl rfl rfl ?_
          refine r_gI I180 20 rfl rfl rfl (fun x181 (e182 : x181.toInt = (1 : Int32).toInt) => ?_)
          by_cases b183 : x181 = 0
          · refine k_c1 23 rfl rfl (if_pos b183) ?_
            have b183 := iv_eq0.mp b183
            refine k_push 24 rfl rfl ?_
            refine k_goto 28 rfl rfl ?_
            refine k_fin rfl (fin_Z (Or.inr rfl)) ⟨_, _, rfl, rf_len I8 I180, ?_⟩
            show am_Ok _ _ _ (32, _, [.inl (1 : Int32)], _, 0, 0) _
            refine k_c1 37 rfl rfl (if_neg (by decide)) ?_
            refine k_iload 38 rfl rfl rfl ?_
            refine k_push 39 rfl rfl ?_
            have hc184 : (2 : Int32).toInt = 2 := by decide
            by_cases b185 : (2 : Int32) ≤ w2
            · refine k_c2 62 rfl rfl (if_pos b185) ?_
              have b185 := iv_le.mp b185
              refine k_iload 63 rfl rfl rfl ?_
              refine k_push 64 rfl rfl ?_
              obtain ⟨x186, q187⟩ : ∃ q : Int32, q = (w2 - (2 : Int32)) := ⟨_, rfl⟩
              have e188 : x186.toInt = w2.toInt - 2 := by rw [q187, iv_sub (by omega) (by omega)]; omega
              refine k_bin x186 65 rfl q187.symm rfl ?_
              refine k_aload 66 rfl rfl rfl ?_
              refine r_gA I180 69 rfl rfl rfl ?_
              refine k_iload 70 rfl rfl rfl ?_
              refine r_ld 24 I180 71 rfl rfl (by omega) (show w1.toInt < 8010 by omega) rfl (fun x189 (e190 : x189.toInt = A0 24 w1.toInt) => ?_)
              refine k_rq I180 rfl (m_portsOf  I180.1 ) rfl rfl rfl rfl ?_
              rintro x191 h192 F193 A194 I195 ⟨k197, k198, p196⟩
              replace p196 : x191.toInt = pr x189.toInt := p196
              have k197 := fr1.nil k197
              subst k197
              have k198 := fr2.nil k198
              subst k198
              show am_Ok _ _ _ (74, _, [.inl x191, .inl x186], _, 0, 0) _
              by_cases b199 : x191 ≤ x186
              · refine k_c2 92 rfl rfl (if_pos b199) ?_
                have b199 := iv_le.mp b199
                refine k_push 93 rfl rfl ?_
                have hc200 : (-1 : Int32).toInt = -1 := by decide
                exact k_fin rfl rfl ⟨_, _, _, _, rfl, I195, (fr1.up (by decide) (fr1.up (by decide) fr1.rf)), fr2.rf, show True from trivial⟩
              · refine k_c2 77 rfl rfl (if_neg b199) ?_
                have b199 := mt iv_le.mpr b199
                refine k_aload 78 rfl rfl rfl ?_
                refine r_gA I195 81 rfl rfl rfl ?_
                refine k_push 82 rfl rfl ?_
                refine k_iload 83 rfl rfl rfl ?_
                obtain ⟨x201, q202⟩ : ∃ q : Int32, q = ((4 : Int32) * w1) := ⟨_, rfl⟩
                have e203 : x201.toInt = 4 * w1.toInt := by rw [q202]; exact iv_mulc 4 (by decide) (by omega) (by omega)
                refine k_bin x201 84 rfl q202.symm rfl ?_
                refine k_iload 85 rfl rfl rfl ?_
                obtain ⟨x204, q205⟩ : ∃ q : Int32, q = (x201 + w2) := ⟨_, rfl⟩
                have e206 : x204.toInt = x201.toInt + w2.toInt := by rw [q205, iv_add (by omega) (by omega)]
                refine k_bin x204 86 rfl q205.symm rfl ?_
                refine k_push 87 rfl rfl ?_
                obtain ⟨x207, q208⟩ : ∃ q : Int32, q = (x204 - (2 : Int32)) := ⟨_, rfl⟩
                have e209 : x207.toInt = x204.toInt - 2 := by rw [q208, iv_sub (by omega) (by omega)]; omega
                refine k_bin x207 88 rfl q208.symm rfl ?_
                refine r_ld 26 I195 89 rfl rfl (by omega) (show x207.toInt < 32040 by omega) rfl (fun x210 (e211 : x210.toInt = A0 26 x207.toInt) => ?_)
                rw [e209] at e211
                rw [e206] at e211
                rw [e203] at e211
                refine k_goto 93 rfl rfl ?_
                exact k_fin rfl rfl ⟨_, _, _, _, rfl, I195, (fr1.up (by decide) (fr1.up (by decide) fr1.rf)), fr2.rf, show True from trivial⟩
            · refine k_c2 42 rfl rfl (if_neg b185) ?_
              have b185 := mt iv_le.mpr b185
              refine k_iload 43 rfl rfl rfl ?_
              by_cases b212 : w2 = 0
              · refine k_c1 46 rfl rfl (if_pos b212) ?_
                have b212 := iv_eq0.mp b212
                refine k_aload 47 rfl rfl rfl ?_
                refine r_gA I180 50 rfl rfl rfl ?_
                refine k_iload 51 rfl rfl rfl ?_
                refine r_ld 24 I180 52 rfl rfl (by omega) (show w1.toInt < 8010 by omega) rfl (fun x213 (e214 : x213.toInt = A0 24 w1.toInt) => ?_)
                refine k_goto 61 rfl rfl ?_
                exact k_fin rfl rfl ⟨_, _, _, _, rfl, I180, (fr1.up (by decide) (fr1.up (by decide) fr1.rf)), fr2.rf, show True from trivial⟩
              · refine k_c1 55 rfl rfl (if_neg b212) ?_
                have b212 := mt iv_eq0.mpr b212
                refine k_aload 56 rfl rfl rfl ?_
                refine r_gA I180 59 rfl rfl rfl ?_
                refine k_iload 60 rfl rfl rfl ?_
                refine r_ld 25 I180 61 rfl rfl (by omega) (show w1.toInt < 8010 by omega) rfl (fun x215 (e216 : x215.toInt = A0 25 w1.toInt) => ?_)
                exact k_fin rfl rfl ⟨_, _, _, _, rfl, I180, (fr1.up (by decide) (fr1.up (by decide) fr1.rf)), fr2.rf, show True from trivial⟩
          · refine k_c1 27 rfl rfl (if_neg b183) ?_
            have b183 := mt iv_eq0.mpr b183
            refine k_push 28 rfl rfl ?_
            refine k_fin rfl (fin_Z (Or.inl rfl)) ⟨_, _, rfl, rf_len I8 I180, ?_⟩
            show am_Ok _ _ _ (32, _, [.inl (0 : Int32)], _, 0, 0) _
            refine k_c1 35 rfl rfl (if_pos (by decide)) ?_
            refine k_push 36 rfl rfl ?_
            exact k_fin rfl rfl ⟨_, _, _, _, rfl, I180, (fr1.up (by decide) (fr1.up (by decide) fr1.rf)), fr2.rf, show True from trivial⟩
        · refine k_c1 16 rfl rfl (if_neg b178) ?_
          have b178 := mt iv_eq0.mpr b178
          refine k_aload 17 rfl rfl rfl ?_
          refine r_gI I8 20 rfl rfl rfl (fun x217 (e218 : x217.toInt = (0 : Int32).toInt) => ?_)
          by_cases b219 : x217 = 0
          · refine k_c1 23 rfl rfl (if_pos b219) ?_
            have b219 := iv_eq0.mp b219
            refine k_push 24 rfl rfl ?_
            refine k_goto 28 rfl rfl ?_
            refine k_fin rfl (fin_Z (Or.inr rfl)) ⟨_, _, rfl, rf_len I8 I8, ?_⟩
            show am_Ok _ _ _ (32, _, [.inl (1 : Int32)], _, 0, 0) _
            refine k_c1 37 rfl rfl (if_neg (by decide)) ?_
            refine k_iload 38 rfl rfl rfl ?_
            refine k_push 39 rfl rfl ?_
            have hc220 : (2 : Int32).toInt = 2 := by decide
            by_cases b221 : (2 : Int32) ≤ w2
            · refine k_c2 62 rfl rfl (if_pos b221) ?_
              have b221 := iv_le.mp b221
              refine k_iload 63 rfl rfl rfl ?_
              refine k_push 64 rfl rfl ?_
              obtain ⟨x222, q223⟩ : ∃ q : Int32, q = (w2 - (2 : Int32)) := ⟨_, rfl⟩
              have e224 : x222.toInt = w2.toInt - 2 := by rw [q223, iv_sub (by omega) (by omega)]; omega
              refine k_bin x222 65 rfl q223.symm rfl ?_
              refine k_aload 66 rfl rfl rfl ?_
              refine r_gA I8 69 rfl rfl rfl ?_
              refine k_iload 70 rfl rfl rfl ?_
              refine r_ld 24 I8 71 rfl rfl (by omega) (show w1.toInt < 8010 by omega) rfl (fun x225 (e226 : x225.toInt = A0 24 w1.toInt) => ?_)
              refine k_rq I8 rfl (m_portsOf  I8.1 ) rfl rfl rfl rfl ?_
              rintro x227 h228 F229 A230 I231 ⟨k233, k234, p232⟩
              replace p232 : x227.toInt = pr x225.toInt := p232
              have k233 := fr1.nil k233
              subst k233
              have k234 := fr2.nil k234
              subst k234
              show am_Ok _ _ _ (74, _, [.inl x227, .inl x222], _, 0, 0) _
              by_cases b235 : x227 ≤ x222
              · refine k_c2 92 rfl rfl (if_pos b235) ?_
                have b235 := iv_le.mp b235
                refine k_push 93 rfl rfl ?_
                have hc236 : (-1 : Int32).toInt = -1 := by decide
                exact k_fin rfl rfl ⟨_, _, _, _, rfl, I231, (fr1.up (by decide) fr1.rf), fr2.rf, show True from trivial⟩
              · refine k_c2 77 rfl rfl (if_neg b235) ?_
                have b235 := mt iv_le.mpr b235
                refine k_aload 78 rfl rfl rfl ?_
                refine r_gA I231 81 rfl rfl rfl ?_
                refine k_push 82 rfl rfl ?_
                refine k_iload 83 rfl rfl rfl ?_
                obtain ⟨x237, q238⟩ : ∃ q : Int32, q = ((4 : Int32) * w1) := ⟨_, rfl⟩
                have e239 : x237.toInt = 4 * w1.toInt := by rw [q238]; exact iv_mulc 4 (by decide) (by omega) (by omega)
                refine k_bin x237 84 rfl q238.symm rfl ?_
                refine k_iload 85 rfl rfl rfl ?_
                obtain ⟨x240, q241⟩ : ∃ q : Int32, q = (x237 + w2) := ⟨_, rfl⟩
                have e242 : x240.toInt = x237.toInt + w2.toInt := by rw [q241, iv_add (by omega) (by omega)]
                refine k_bin x240 86 rfl q241.symm rfl ?_
                refine k_push 87 rfl rfl ?_
                obtain ⟨x243, q244⟩ : ∃ q : Int32, q = (x240 - (2 : Int32)) := ⟨_, rfl⟩
                have e245 : x243.toInt = x240.toInt - 2 := by rw [q244, iv_sub (by omega) (by omega)]; omega
                refine k_bin x243 88 rfl q244.symm rfl ?_
                refine r_ld 26 I231 89 rfl rfl (by omega) (show x243.toInt < 32040 by omega) rfl (fun x246 (e247 : x246.toInt = A0 26 x243.toInt) => ?_)
                rw [e245] at e247
                rw [e242] at e247
                rw [e239] at e247
                refine k_goto 93 rfl rfl ?_
                exact k_fin rfl rfl ⟨_, _, _, _, rfl, I231, (fr1.up (by decide) fr1.rf), fr2.rf, show True from trivial⟩
            · refine k_c2 42 rfl rfl (if_neg b221) ?_
              have b221 := mt iv_le.mpr b221
              refine k_iload 43 rfl rfl rfl ?_
              by_cases b248 : w2 = 0
              · refine k_c1 46 rfl rfl (if_pos b248) ?_
                have b248 := iv_eq0.mp b248
                refine k_aload 47 rfl rfl rfl ?_
                refine r_gA I8 50 rfl rfl rfl ?_
                refine k_iload 51 rfl rfl rfl ?_
                refine r_ld 24 I8 52 rfl rfl (by omega) (show w1.toInt < 8010 by omega) rfl (fun x249 (e250 : x249.toInt = A0 24 w1.toInt) => ?_)
                refine k_goto 61 rfl rfl ?_
                exact k_fin rfl rfl ⟨_, _, _, _, rfl, I8, (fr1.up (by decide) fr1.rf), fr2.rf, show True from trivial⟩
              · refine k_c1 55 rfl rfl (if_neg b248) ?_
                have b248 := mt iv_eq0.mpr b248
                refine k_aload 56 rfl rfl rfl ?_
                refine r_gA I8 59 rfl rfl rfl ?_
                refine k_iload 60 rfl rfl rfl ?_
                refine r_ld 25 I8 61 rfl rfl (by omega) (show w1.toInt < 8010 by omega) rfl (fun x251 (e252 : x251.toInt = A0 25 w1.toInt) => ?_)
                exact k_fin rfl rfl ⟨_, _, _, _, rfl, I8, (fr1.up (by decide) fr1.rf), fr2.rf, show True from trivial⟩
          · refine k_c1 27 rfl rfl (if_neg b219) ?_
            have b219 := mt iv_eq0.mpr b219
            refine k_push 28 rfl rfl ?_
            refine k_fin rfl (fin_Z (Or.inl rfl)) ⟨_, _, rfl, rf_len I8 I8, ?_⟩
            show am_Ok _ _ _ (32, _, [.inl (0 : Int32)], _, 0, 0) _
            refine k_c1 35 rfl rfl (if_pos (by decide)) ?_
            refine k_push 36 rfl rfl ?_
            exact k_fin rfl rfl ⟨_, _, _, _, rfl, I8, (fr1.up (by decide) fr1.rf), fr2.rf, show True from trivial⟩
      · refine k_c2 10 rfl rfl (if_neg b174) ?_
        have b174 := mt iv_lt.mpr b174
        refine k_push 11 rfl rfl ?_
        have hc253 : (1 : Int32).toInt = 1 := by decide
        refine k_goto 15 rfl rfl ?_
        refine k_fin rfl (fin_Z (Or.inr rfl)) ⟨_, _, rfl, rf_len I8 I8, ?_⟩
        show am_Ok _ _ _ (20, _, [.inl (1 : Int32), .inr (.inr (some 81))], _, 0, 0) _
        refine k_c1 23 rfl rfl (if_neg (by decide)) ?_
        refine k_push 24 rfl rfl ?_
        refine k_goto 28 rfl rfl ?_
        refine k_push 29 rfl rfl ?_
        refine k_in (d := 0) rfl rfl rfl rfl I8.rc ?_
        refine k_aload 1 rfl rfl rfl ?_
        refine r_gI I8 4 rfl rfl rfl (fun x254 (e255 : x254.toInt = (0 : Int32).toInt) => ?_)
        by_cases b256 : x254 = 0
        · refine k_c1 7 rfl rfl (if_pos b256) ?_
          have b256 := iv_eq0.mp b256
          refine k_iload 8 rfl rfl rfl ?_
          refine k_c1 16 rfl rfl (if_neg (by decide)) ?_
          refine k_aload 17 rfl rfl rfl ?_
          refine r_gI I8 20 rfl rfl rfl (fun x257 (e258 : x257.toInt = (0 : Int32).toInt) => ?_)
          by_cases b259 : x257 = 0
          · refine k_c1 23 rfl rfl (if_pos b259) ?_
            have b259 := iv_eq0.mp b259
            refine k_push 24 rfl rfl ?_
            refine k_goto 28 rfl rfl ?_
            refine k_fin rfl (fin_Z (Or.inr rfl)) ⟨_, _, rfl, rf_len I8 I8, ?_⟩
            show am_Ok _ _ _ (32, _, [.inl (1 : Int32)], _, 0, 0) _
            refine k_c1 37 rfl rfl (if_neg (by decide)) ?_
            refine k_iload 38 rfl rfl rfl ?_
            refine k_push 39 rfl rfl ?_
            have hc260 : (2 : Int32).toInt = 2 := by decide
            by_cases b261 : (2 : Int32) ≤ w2
            · refine k_c2 62 rfl rfl (if_pos b261) ?_
              have b261 := iv_le.mp b261
              refine k_iload 63 rfl rfl rfl ?_
              refine k_push 64 rfl rfl ?_
              obtain ⟨x262, q263⟩ : ∃ q : Int32, q = (w2 - (2 : Int32)) := ⟨_, rfl⟩
              have e264 : x262.toInt = w2.toInt - 2 := by rw [q263, iv_sub (by omega) (by omega)]; omega
              refine k_bin x262 65 rfl q263.symm rfl ?_
              refine k_aload 66 rfl rfl rfl ?_
              refine r_gA I8 69 rfl rfl rfl ?_
              refine k_iload 70 rfl rfl rfl ?_
              refine r_ld 24 I8 71 rfl rfl (by omega) (show w1.toInt < 8010 by omega) rfl (fun x265 (e266 : x265.toInt = A0 24 w1.toInt) => ?_)
              refine k_rq I8 rfl (m_portsOf  I8.1 ) rfl rfl rfl rfl ?_
              rintro x267 h268 F269 A270 I271 ⟨k273, k274, p272⟩
              replace p272 : x267.toInt = pr x265.toInt := p272
              have k273 := fr1.nil k273
              subst k273
              have k274 := fr2.nil k274
              subst k274
              show am_Ok _ _ _ (74, _, [.inl x267, .inl x262], _, 0, 0) _
              by_cases b275 : x267 ≤ x262
              · refine k_c2 92 rfl rfl (if_pos b275) ?_
                have b275 := iv_le.mp b275
                refine k_push 93 rfl rfl ?_
                have hc276 : (-1 : Int32).toInt = -1 := by decide
                exact k_fin rfl rfl ⟨_, _, _, _, rfl, I271, (fr1.up (by decide) fr1.rf), fr2.rf, show True from trivial⟩
              · refine k_c2 77 rfl rfl (if_neg b275) ?_
                have b275 := mt iv_le.mpr b275
                refine k_aload 78 rfl rfl rfl ?_
                refine r_gA I271 81 rfl rfl rfl ?_
                refine k_push 82 rfl rfl ?_
                refine k_iload 83 rfl rfl rfl ?_
                obtain ⟨x277, q278⟩ : ∃ q : Int32, q = ((4 : Int32) * w1) := ⟨_, rfl⟩
                have e279 : x277.toInt = 4 * w1.toInt := by rw [q278]; exact iv_mulc 4 (by decide) (by omega) (by omega)
                refine k_bin x277 84 rfl q278.symm rfl ?_
                refine k_iload 85 rfl rfl rfl ?_
                obtain ⟨x280, q281⟩ : ∃ q : Int32, q = (x277 + w2) := ⟨_, rfl⟩
                have e282 : x280.toInt = x277.toInt + w2.toInt := by rw [q281, iv_add (by omega) (by omega)]
                refine k_bin x280 86 rfl q281.symm rfl ?_
                refine k_push 87 rfl rfl ?_
                obtain ⟨x283, q284⟩ : ∃ q : Int32, q = (x280 - (2 : Int32)) := ⟨_, rfl⟩
                have e285 : x283.toInt = x280.toInt - 2 := by rw [q284, iv_sub (by omega) (by omega)]; omega
                refine k_bin x283 88 rfl q284.symm rfl ?_
                refine r_ld 26 I271 89 rfl rfl (by omega) (show x283.toInt < 32040 by omega) rfl (fun x286 (e287 : x286.toInt = A0 26 x283.toInt) => ?_)
                rw [e285] at e287
                rw [e282] at e287
                rw [e279] at e287
                refine k_goto 93 rfl rfl ?_
                exact k_fin rfl rfl ⟨_, _, _, _, rfl, I271, (fr1.up (by decide) fr1.rf), fr2.rf, show True from trivial⟩
            · refine k_c2 42 rfl rfl (if_neg b261) ?_
              have b261 := mt iv_le.mpr b261
              refine k_iload 43 rfl rfl rfl ?_
              by_cases b288 : w2 = 0
              · refine k_c1 46 rfl rfl (if_pos b288) ?_
                have b288 := iv_eq0.mp b288
                refine k_aload 47 rfl rfl rfl ?_
                refine r_gA I8 50 rfl rfl rfl ?_
                refine k_iload 51 rfl rfl rfl ?_
                refine r_ld 24 I8 52 rfl rfl (by omega) (show w1.toInt < 8010 by omega) rfl (fun x289 (e290 : x289.toInt = A0 24 w1.toInt) => ?_)
                refine k_goto 61 rfl rfl ?_
                exact k_fin rfl rfl ⟨_, _, _, _, rfl, I8, (fr1.up (by decide) fr1.rf), fr2.rf, show True from trivial⟩
              · refine k_c1 55 rfl rfl (if_neg b288) ?_
                have b288 := mt iv_eq0.mpr b288
                refine k_aload 56 rfl rfl rfl ?_
                refine r_gA I8 59 rfl rfl rfl ?_
                refine k_iload 60 rfl rfl rfl ?_
                refine r_ld 25 I8 61 rfl rfl (by omega) (show w1.toInt < 8010 by omega) rfl (fun x291 (e292 : x291.toInt = A0 25 w1.toInt) => ?_)
                exact k_fin rfl rfl ⟨_, _, _, _, rfl, I8, (fr1.up (by decide) fr1.rf), fr2.rf, show True from trivial⟩
          · refine k_c1 27 rfl rfl (if_neg b259) ?_
            have b259 := mt iv_eq0.mpr b259
            refine k_push 28 rfl rfl ?_
            refine k_fin rfl (fin_Z (Or.inl rfl)) ⟨_, _, rfl, rf_len I8 I8, ?_⟩
            show am_Ok _ _ _ (32, _, [.inl (0 : Int32)], _, 0, 0) _
            refine k_c1 35 rfl rfl (if_pos (by decide)) ?_
            refine k_push 36 rfl rfl ?_
            exact k_fin rfl rfl ⟨_, _, _, _, rfl, I8, (fr1.up (by decide) fr1.rf), fr2.rf, show True from trivial⟩
        · refine k_c1 16 rfl rfl (if_neg b256) ?_
          have b256 := mt iv_eq0.mpr b256
          refine k_aload 17 rfl rfl rfl ?_
          refine r_gI I8 20 rfl rfl rfl (fun x293 (e294 : x293.toInt = (0 : Int32).toInt) => ?_)
          by_cases b295 : x293 = 0
          · refine k_c1 23 rfl rfl (if_pos b295) ?_
            have b295 := iv_eq0.mp b295
            refine k_push 24 rfl rfl ?_
            refine k_goto 28 rfl rfl ?_
            refine k_fin rfl (fin_Z (Or.inr rfl)) ⟨_, _, rfl, rf_len I8 I8, ?_⟩
            show am_Ok _ _ _ (32, _, [.inl (1 : Int32)], _, 0, 0) _
            refine k_c1 37 rfl rfl (if_neg (by decide)) ?_
            refine k_iload 38 rfl rfl rfl ?_
            refine k_push 39 rfl rfl ?_
            have hc296 : (2 : Int32).toInt = 2 := by decide
            by_cases b297 : (2 : Int32) ≤ w2
            · refine k_c2 62 rfl rfl (if_pos b297) ?_
              have b297 := iv_le.mp b297
              refine k_iload 63 rfl rfl rfl ?_
              refine k_push 64 rfl rfl ?_
              obtain ⟨x298, q299⟩ : ∃ q : Int32, q = (w2 - (2 : Int32)) := ⟨_, rfl⟩
              have e300 : x298.toInt = w2.toInt - 2 := by rw [q299, iv_sub (by omega) (by omega)]; omega
              refine k_bin x298 65 rfl q299.symm rfl ?_
              refine k_aload 66 rfl rfl rfl ?_
              refine r_gA I8 69 rfl rfl rfl ?_
              refine k_iload 70 rfl rfl rfl ?_
              refine r_ld 24 I8 71 rfl rfl (by omega) (show w1.toInt < 8010 by omega) rfl (fun x301 (e302 : x301.toInt = A0 24 w1.toInt) => ?_)
              refine k_rq I8 rfl (m_portsOf  I8.1 ) rfl rfl rfl rfl ?_
              rintro x303 h304 F305 A306 I307 ⟨k309, k310, p308⟩
              replace p308 : x303.toInt = pr x301.toInt := p308
              have k309 := fr1.nil k309
              subst k309
              have k310 := fr2.nil k310
              subst k310
              show am_Ok _ _ _ (74, _, [.inl x303, .inl x298], _, 0, 0) _
              by_cases b311 : x303 ≤ x298
              · refine k_c2 92 rfl rfl (if_pos b311) ?_
                have b311 := iv_le.mp b311
                refine k_push 93 rfl rfl ?_
                have hc312 : (-1 : Int32).toInt = -1 := by decide
                exact k_fin rfl rfl ⟨_, _, _, _, rfl, I307, (fr1.up (by decide) fr1.rf), fr2.rf, show True from trivial⟩
              · refine k_c2 77 rfl rfl (if_neg b311) ?_
                have b311 := mt iv_le.mpr b311
                refine k_aload 78 rfl rfl rfl ?_
                refine r_gA I307 81 rfl rfl rfl ?_
                refine k_push 82 rfl rfl ?_
                refine k_iload 83 rfl rfl rfl ?_
                obtain ⟨x313, q314⟩ : ∃ q : Int32, q = ((4 : Int32) * w1) := ⟨_, rfl⟩
                have e315 : x313.toInt = 4 * w1.toInt := by rw [q314]; exact iv_mulc 4 (by decide) (by omega) (by omega)
                refine k_bin x313 84 rfl q314.symm rfl ?_
                refine k_iload 85 rfl rfl rfl ?_
                obtain ⟨x316, q317⟩ : ∃ q : Int32, q = (x313 + w2) := ⟨_, rfl⟩
                have e318 : x316.toInt = x313.toInt + w2.toInt := by rw [q317, iv_add (by omega) (by omega)]
                refine k_bin x316 86 rfl q317.symm rfl ?_
                refine k_push 87 rfl rfl ?_
                obtain ⟨x319, q320⟩ : ∃ q : Int32, q = (x316 - (2 : Int32)) := ⟨_, rfl⟩
                have e321 : x319.toInt = x316.toInt - 2 := by rw [q320, iv_sub (by omega) (by omega)]; omega
                refine k_bin x319 88 rfl q320.symm rfl ?_
                refine r_ld 26 I307 89 rfl rfl (by omega) (show x319.toInt < 32040 by omega) rfl (fun x322 (e323 : x322.toInt = A0 26 x319.toInt) => ?_)
                rw [e321] at e323
                rw [e318] at e323
                rw [e315] at e323
                refine k_goto 93 rfl rfl ?_
                exact k_fin rfl rfl ⟨_, _, _, _, rfl, I307, (fr1.up (by decide) fr1.rf), fr2.rf, show True from trivial⟩
            · refine k_c2 42 rfl rfl (if_neg b297) ?_
              have b297 := mt iv_le.mpr b297
              refine k_iload 43 rfl rfl rfl ?_
              by_cases b324 : w2 = 0
              · refine k_c1 46 rfl rfl (if_pos b324) ?_
                have b324 := iv_eq0.mp b324
                refine k_aload 47 rfl rfl rfl ?_
                refine r_gA I8 50 rfl rfl rfl ?_
                refine k_iload 51 rfl rfl rfl ?_
                refine r_ld 24 I8 52 rfl rfl (by omega) (show w1.toInt < 8010 by omega) rfl (fun x325 (e326 : x325.toInt = A0 24 w1.toInt) => ?_)
                refine k_goto 61 rfl rfl ?_
                exact k_fin rfl rfl ⟨_, _, _, _, rfl, I8, (fr1.up (by decide) fr1.rf), fr2.rf, show True from trivial⟩
              · refine k_c1 55 rfl rfl (if_neg b324) ?_
                have b324 := mt iv_eq0.mpr b324
                refine k_aload 56 rfl rfl rfl ?_
                refine r_gA I8 59 rfl rfl rfl ?_
                refine k_iload 60 rfl rfl rfl ?_
                refine r_ld 25 I8 61 rfl rfl (by omega) (show w1.toInt < 8010 by omega) rfl (fun x327 (e328 : x327.toInt = A0 25 w1.toInt) => ?_)
                exact k_fin rfl rfl ⟨_, _, _, _, rfl, I8, (fr1.up (by decide) fr1.rf), fr2.rf, show True from trivial⟩
          · refine k_c1 27 rfl rfl (if_neg b295) ?_
            have b295 := mt iv_eq0.mpr b295
            refine k_push 28 rfl rfl ?_
            refine k_fin rfl (fin_Z (Or.inl rfl)) ⟨_, _, rfl, rf_len I8 I8, ?_⟩
            show am_Ok _ _ _ (32, _, [.inl (0 : Int32)], _, 0, 0) _
            refine k_c1 35 rfl rfl (if_pos (by decide)) ?_
            refine k_push 36 rfl rfl ?_
            exact k_fin rfl rfl ⟨_, _, _, _, rfl, I8, (fr1.up (by decide) fr1.rf), fr2.rf, show True from trivial⟩
theorem m_part {h0 : am_h} {F0 : rf_f} {A0 : rf_A} {w1 : Int32} {w2 : Int32} {lm : Int → Int} {gT : Int} {gt : Nat} (hR : rf_R h0 F0 A0) (p1 : nn (A0 24) (A0 25) (F0 28) gT) (p2 : nw (A0 24) (A0 25) (A0 26) lm (F0 28)) (p5 : wr A0) (p6 : wq A0) (p7 : A0 2 2 = gt ∧ 1 ≤ gt ∧ gt ≤ 120) (p8 : wf (A0 1) 2600 gt) (p9 : cb (A0 1) 2600 gt 200) : am_Mt 8 255 [.inr (.inr (some 81)), .inl w1, .inl w2] h0 (rf_Q h0 (fun x F' A' => fr1 [59, 55, 50, 48, 62, 63, 64, 65, 67, 70, 71, 0] F0 F' ∧ fr2 [1, 2, 56, 57, 58, 61, 49, 51, 52, 53, 54, 60, 43, 44, 45, 46, 47, 66, 68, 69] A0 A' ∧ (wr A' ∧ wq A' ∧ A' 2 2 = A0 2 2 ∧ (∀ q : Int, 2600 ≤ q → A' 1 q = A0 1 q)))) := by
  refine am_Mt.of (D := 7) ?_
  have hI : rf_I h0 h0 F0 A0 := rf_I.start hR
  refine k_aload 1 rfl rfl rfl ?_
  refine k_push 2 rfl rfl ?_
  have hc1 : (0 : Int32).toInt = 0 := by decide
  refine r_pI hI 5 rfl rfl rfl (fun h2 I3 => ?_)
  refine k_aload 6 rfl rfl rfl ?_
  refine k_iload 7 rfl rfl rfl ?_
  refine k_in (d := 1) rfl rfl rfl rfl rfl ?_
  refine k_iload 1 rfl rfl rfl ?_
  refine k_push 2 rfl rfl ?_
  refine k_push 3 rfl rfl ?_
  have hc4 : (2 : Int32).toInt = 2 := by decide
  refine k_in (d := 0) rfl rfl rfl rfl rfl ?_
  refine k_iload 1 rfl rfl rfl ?_
  refine k_iload 2 rfl rfl rfl ?_
  by_cases b5 : w1 < (0 : Int32)
  · refine k_c2 14 rfl rfl (if_pos b5) ?_
    have b5 := iv_lt.mp b5
    refine k_push 15 rfl rfl ?_
    refine k_fin rfl (fin_Z (Or.inl rfl)) ⟨_, _, rfl, rf_len I3 I3, ?_⟩
    show am_Ok _ _ _ (6, _, [.inl (0 : Int32)], _, 0, 0) _
    refine k_fin rfl (fin_Z (Or.inl rfl)) ⟨_, _, rfl, rf_len I3 I3, ?_⟩
    show am_Ok _ _ _ (10, _, [.inl (0 : Int32), .inr (.inr (some 81))], _, 0, 0) _
    refine k_c1 41 rfl rfl (if_pos (by decide)) ?_
    refine k_push 42 rfl rfl ?_
    refine k_push 43 rfl rfl ?_
    have hc6 : (1 : Int32).toInt = 1 := by decide
    refine k_in (d := 0) rfl rfl rfl rfl I3.rc ?_
    refine k_aload 1 rfl rfl rfl ?_
    refine r_gI I3 4 rfl rfl rfl (fun x7 (e8 : x7.toInt = (0 : Int32).toInt) => ?_)
    by_cases b9 : x7 = 0
    · refine k_c1 7 rfl rfl (if_pos b9) ?_
      have b9 := iv_eq0.mp b9
      refine k_iload 8 rfl rfl rfl ?_
      refine k_c1 11 rfl rfl (if_pos (by decide)) ?_
      refine k_aload 12 rfl rfl rfl ?_
      refine k_iload 13 rfl rfl rfl ?_
      refine r_pI I3 16 rfl rfl rfl (fun h10 I11 => ?_)
      refine k_aload 17 rfl rfl rfl ?_
      refine r_gI I11 20 rfl rfl rfl (fun x12 (e13 : x12.toInt = (1 : Int32).toInt) => ?_)
      by_cases b14 : x12 = 0
      · refine k_c1 23 rfl rfl (if_pos b14) ?_
        have b14 := iv_eq0.mp b14
        refine k_push 24 rfl rfl ?_
        refine k_goto 28 rfl rfl ?_
        refine k_fin rfl (fin_Z (Or.inr rfl)) ⟨_, _, rfl, rf_len I3 I11, ?_⟩
        show am_Ok _ _ _ (46, _, [.inl (1 : Int32)], _, 0, 0) _
        refine k_c1 51 rfl rfl (if_neg (by decide)) ?_
        refine k_aload 52 rfl rfl rfl ?_
        refine r_gA I11 55 rfl rfl rfl ?_
        refine k_iload 56 rfl rfl rfl ?_
        refine k_in (d := 0) rfl rfl rfl rfl rfl ?_
        refine k_push 3 rfl rfl ?_
        have hc15 : (1300 : Int32).toInt = 1300 := by decide
        refine k_iload 4 rfl rfl rfl ?_
        obtain ⟨x16, q17⟩ : ∃ q : Int32, q = ((1300 : Int32) * w1) := ⟨_, rfl⟩
        have e18 : x16.toInt = 1300 * w1.toInt := by rw [q17]; exact iv_mulc 1300 (by decide) (by omega) (by omega)
        refine k_bin x16 5 rfl q17.symm rfl ?_
        refine k_fin rfl rfl ⟨_, _, rfl, rf_len I11 I11, ?_⟩
        show am_Ok _ _ _ (59, _, [.inl x16, .inr (.inr (some (rf_ad 1)))], _, 0, 0) _
        refine k_iload 60 rfl rfl rfl ?_
        obtain ⟨x19, q20⟩ : ∃ q : Int32, q = (x16 + w2) := ⟨_, rfl⟩
        have e21 : x19.toInt = x16.toInt + w2.toInt := by rw [q20, iv_add (by omega) (by omega)]
        refine k_bin x19 61 rfl q20.symm rfl ?_
        refine r_ld 1 I11 62 rfl rfl (by omega) (show x19.toInt < 3900 by omega) rfl (fun x22 (e23 : x22.toInt = A0 1 x19.toInt) => ?_)
        rw [e21] at e23
        rw [e18] at e23
        exact k_fin rfl rfl ⟨_, _, _, _, rfl, I11, (fr1.up (by decide) (fr1.up (by decide) fr1.rf)), fr2.rf, show wr A0 ∧ wq A0 ∧ (A0 2) 2 = A0 2 2 ∧ (∀ q : Int, 2600 ≤ q → (A0 1) q = A0 1 q) from ⟨p5, p6, rfl, fun q _ => rfl⟩⟩
      · refine k_c1 27 rfl rfl (if_neg b14) ?_
        have b14 := mt iv_eq0.mpr b14
        refine k_push 28 rfl rfl ?_
        refine k_fin rfl (fin_Z (Or.inl rfl)) ⟨_, _, rfl, rf_len I3 I11, ?_⟩
        show am_Ok _ _ _ (46, _, [.inl (0 : Int32)], _, 0, 0) _
        refine k_c1 49 rfl rfl (if_pos (by decide)) ?_
        refine k_push 50 rfl rfl ?_
        exact k_fin rfl rfl ⟨_, _, _, _, rfl, I11, (fr1.up (by decide) (fr1.up (by decide) fr1.rf)), fr2.rf, show wr A0 ∧ wq A0 ∧ (A0 2) 2 = A0 2 2 ∧ (∀ q : Int, 2600 ≤ q → (A0 1) q = A0 1 q) from ⟨p5, p6, rfl, fun q _ => rfl⟩⟩
    · refine k_c1 16 rfl rfl (if_neg b9) ?_
      have b9 := mt iv_eq0.mpr b9
      refine k_aload 17 rfl rfl rfl ?_
      refine r_gI I3 20 rfl rfl rfl (fun x24 (e25 : x24.toInt = (0 : Int32).toInt) => ?_)
      by_cases b26 : x24 = 0
      · refine k_c1 23 rfl rfl (if_pos b26) ?_
        have b26 := iv_eq0.mp b26
        refine k_push 24 rfl rfl ?_
        refine k_goto 28 rfl rfl ?_
        refine k_fin rfl (fin_Z (Or.inr rfl)) ⟨_, _, rfl, rf_len I3 I3, ?_⟩
        show am_Ok _ _ _ (46, _, [.inl (1 : Int32)], _, 0, 0) _
        refine k_c1 51 rfl rfl (if_neg (by decide)) ?_
        refine k_aload 52 rfl rfl rfl ?_
        refine r_gA I3 55 rfl rfl rfl ?_
        refine k_iload 56 rfl rfl rfl ?_
        refine k_in (d := 0) rfl rfl rfl rfl rfl ?_
        refine k_push 3 rfl rfl ?_
        have hc27 : (1300 : Int32).toInt = 1300 := by decide
        refine k_iload 4 rfl rfl rfl ?_
        obtain ⟨x28, q29⟩ : ∃ q : Int32, q = ((1300 : Int32) * w1) := ⟨_, rfl⟩
        have e30 : x28.toInt = 1300 * w1.toInt := by rw [q29]; exact iv_mulc 1300 (by decide) (by omega) (by omega)
        refine k_bin x28 5 rfl q29.symm rfl ?_
        refine k_fin rfl rfl ⟨_, _, rfl, rf_len I3 I3, ?_⟩
        show am_Ok _ _ _ (59, _, [.inl x28, .inr (.inr (some (rf_ad 1)))], _, 0, 0) _
        refine k_iload 60 rfl rfl rfl ?_
        obtain ⟨x31, q32⟩ : ∃ q : Int32, q = (x28 + w2) := ⟨_, rfl⟩
        have e33 : x31.toInt = x28.toInt + w2.toInt := by rw [q32, iv_add (by omega) (by omega)]
        refine k_bin x31 61 rfl q32.symm rfl ?_
        refine r_ld 1 I3 62 rfl rfl (by omega) (show x31.toInt < 3900 by omega) rfl (fun x34 (e35 : x34.toInt = A0 1 x31.toInt) => ?_)
        rw [e33] at e35
        rw [e30] at e35
        exact k_fin rfl rfl ⟨_, _, _, _, rfl, I3, (fr1.up (by decide) fr1.rf), fr2.rf, show wr A0 ∧ wq A0 ∧ (A0 2) 2 = A0 2 2 ∧ (∀ q : Int, 2600 ≤ q → (A0 1) q = A0 1 q) from ⟨p5, p6, rfl, fun q _ => rfl⟩⟩
      · refine k_c1 27 rfl rfl (if_neg b26) ?_
        have b26 := mt iv_eq0.mpr b26
        refine k_push 28 rfl rfl ?_
        refine k_fin rfl (fin_Z (Or.inl rfl)) ⟨_, _, rfl, rf_len I3 I3, ?_⟩
        show am_Ok _ _ _ (46, _, [.inl (0 : Int32)], _, 0, 0) _
        refine k_c1 49 rfl rfl (if_pos (by decide)) ?_
        refine k_push 50 rfl rfl ?_
        exact k_fin rfl rfl ⟨_, _, _, _, rfl, I3, (fr1.up (by decide) fr1.rf), fr2.rf, show wr A0 ∧ wq A0 ∧ (A0 2) 2 = A0 2 2 ∧ (∀ q : Int, 2600 ≤ q → (A0 1) q = A0 1 q) from ⟨p5, p6, rfl, fun q _ => rfl⟩⟩
  · refine k_c2 5 rfl rfl (if_neg b5) ?_
    have b5 := mt iv_lt.mpr b5
    refine k_iload 6 rfl rfl rfl ?_
    refine k_iload 7 rfl rfl rfl ?_
    by_cases b36 : (2 : Int32) < w1
    · refine k_c2 14 rfl rfl (if_pos b36) ?_
      have b36 := iv_lt.mp b36
      refine k_push 15 rfl rfl ?_
      refine k_fin rfl (fin_Z (Or.inl rfl)) ⟨_, _, rfl, rf_len I3 I3, ?_⟩
      show am_Ok _ _ _ (6, _, [.inl (0 : Int32)], _, 0, 0) _
      refine k_fin rfl (fin_Z (Or.inl rfl)) ⟨_, _, rfl, rf_len I3 I3, ?_⟩
      show am_Ok _ _ _ (10, _, [.inl (0 : Int32), .inr (.inr (some 81))], _, 0, 0) _
      refine k_c1 41 rfl rfl (if_pos (by decide)) ?_
      refine k_push 42 rfl rfl ?_
      refine k_push 43 rfl rfl ?_
      have hc37 : (1 : Int32).toInt = 1 := by decide
      refine k_in (d := 0) rfl rfl rfl rfl I3.rc ?_
      refine k_aload 1 rfl rfl rfl ?_
      refine r_gI I3 4 rfl rfl rfl (fun x38 (e39 : x38.toInt = (0 : Int32).toInt) => ?_)
      by_cases b40 : x38 = 0
      · refine k_c1 7 rfl rfl (if_pos b40) ?_
        have b40 := iv_eq0.mp b40
        refine k_iload 8 rfl rfl rfl ?_
        refine k_c1 11 rfl rfl (if_pos (by decide)) ?_
        refine k_aload 12 rfl rfl rfl ?_
        refine k_iload 13 rfl rfl rfl ?_
        refine r_pI I3 16 rfl rfl rfl (fun h41 I42 => ?_)
        refine k_aload 17 rfl rfl rfl ?_
        refine r_gI I42 20 rfl rfl rfl (fun x43 (e44 : x43.toInt = (1 : Int32).toInt) => ?_)
        by_cases b45 : x43 = 0
        · refine k_c1 23 rfl rfl (if_pos b45) ?_
          have b45 := iv_eq0.mp b45
          refine k_push 24 rfl rfl ?_
          refine k_goto 28 rfl rfl ?_
          refine k_fin rfl (fin_Z (Or.inr rfl)) ⟨_, _, rfl, rf_len I3 I42, ?_⟩
          show am_Ok _ _ _ (46, _, [.inl (1 : Int32)], _, 0, 0) _
          refine k_c1 51 rfl rfl (if_neg (by decide)) ?_
          refine k_aload 52 rfl rfl rfl ?_
          refine r_gA I42 55 rfl rfl rfl ?_
          refine k_iload 56 rfl rfl rfl ?_
          refine k_in (d := 0) rfl rfl rfl rfl rfl ?_
          refine k_push 3 rfl rfl ?_
          have hc46 : (1300 : Int32).toInt = 1300 := by decide
          refine k_iload 4 rfl rfl rfl ?_
          obtain ⟨x47, q48⟩ : ∃ q : Int32, q = ((1300 : Int32) * w1) := ⟨_, rfl⟩
          have e49 : x47.toInt = 1300 * w1.toInt := by rw [q48]; exact iv_mulc 1300 (by decide) (by omega) (by omega)
          refine k_bin x47 5 rfl q48.symm rfl ?_
          refine k_fin rfl rfl ⟨_, _, rfl, rf_len I42 I42, ?_⟩
          show am_Ok _ _ _ (59, _, [.inl x47, .inr (.inr (some (rf_ad 1)))], _, 0, 0) _
          refine k_iload 60 rfl rfl rfl ?_
          obtain ⟨x50, q51⟩ : ∃ q : Int32, q = (x47 + w2) := ⟨_, rfl⟩
          have e52 : x50.toInt = x47.toInt + w2.toInt := by rw [q51, iv_add (by omega) (by omega)]
          refine k_bin x50 61 rfl q51.symm rfl ?_
          refine r_ld 1 I42 62 rfl rfl (by omega) (show x50.toInt < 3900 by omega) rfl (fun x53 (e54 : x53.toInt = A0 1 x50.toInt) => ?_)
          rw [e52] at e54
          rw [e49] at e54
          exact k_fin rfl rfl ⟨_, _, _, _, rfl, I42, (fr1.up (by decide) (fr1.up (by decide) fr1.rf)), fr2.rf, show wr A0 ∧ wq A0 ∧ (A0 2) 2 = A0 2 2 ∧ (∀ q : Int, 2600 ≤ q → (A0 1) q = A0 1 q) from ⟨p5, p6, rfl, fun q _ => rfl⟩⟩
        · refine k_c1 27 rfl rfl (if_neg b45) ?_
          have b45 := mt iv_eq0.mpr b45
          refine k_push 28 rfl rfl ?_
          refine k_fin rfl (fin_Z (Or.inl rfl)) ⟨_, _, rfl, rf_len I3 I42, ?_⟩
          show am_Ok _ _ _ (46, _, [.inl (0 : Int32)], _, 0, 0) _
          refine k_c1 49 rfl rfl (if_pos (by decide)) ?_
          refine k_push 50 rfl rfl ?_
          exact k_fin rfl rfl ⟨_, _, _, _, rfl, I42, (fr1.up (by decide) (fr1.up (by decide) fr1.rf)), fr2.rf, show wr A0 ∧ wq A0 ∧ (A0 2) 2 = A0 2 2 ∧ (∀ q : Int, 2600 ≤ q → (A0 1) q = A0 1 q) from ⟨p5, p6, rfl, fun q _ => rfl⟩⟩
      · refine k_c1 16 rfl rfl (if_neg b40) ?_
        have b40 := mt iv_eq0.mpr b40
        refine k_aload 17 rfl rfl rfl ?_
        refine r_gI I3 20 rfl rfl rfl (fun x55 (e56 : x55.toInt = (0 : Int32).toInt) => ?_)
        by_cases b57 : x55 = 0
        · refine k_c1 23 rfl rfl (if_pos b57) ?_
          have b57 := iv_eq0.mp b57
          refine k_push 24 rfl rfl ?_
          refine k_goto 28 rfl rfl ?_
          refine k_fin rfl (fin_Z (Or.inr rfl)) ⟨_, _, rfl, rf_len I3 I3, ?_⟩
          show am_Ok _ _ _ (46, _, [.inl (1 : Int32)], _, 0, 0) _
          refine k_c1 51 rfl rfl (if_neg (by decide)) ?_
          refine k_aload 52 rfl rfl rfl ?_
          refine r_gA I3 55 rfl rfl rfl ?_
          refine k_iload 56 rfl rfl rfl ?_
          refine k_in (d := 0) rfl rfl rfl rfl rfl ?_
          refine k_push 3 rfl rfl ?_
          have hc58 : (1300 : Int32).toInt = 1300 := by decide
          refine k_iload 4 rfl rfl rfl ?_
          obtain ⟨x59, q60⟩ : ∃ q : Int32, q = ((1300 : Int32) * w1) := ⟨_, rfl⟩
          have e61 : x59.toInt = 1300 * w1.toInt := by rw [q60]; exact iv_mulc 1300 (by decide) (by omega) (by omega)
          refine k_bin x59 5 rfl q60.symm rfl ?_
          refine k_fin rfl rfl ⟨_, _, rfl, rf_len I3 I3, ?_⟩
          show am_Ok _ _ _ (59, _, [.inl x59, .inr (.inr (some (rf_ad 1)))], _, 0, 0) _
          refine k_iload 60 rfl rfl rfl ?_
          obtain ⟨x62, q63⟩ : ∃ q : Int32, q = (x59 + w2) := ⟨_, rfl⟩
          have e64 : x62.toInt = x59.toInt + w2.toInt := by rw [q63, iv_add (by omega) (by omega)]
          refine k_bin x62 61 rfl q63.symm rfl ?_
          refine r_ld 1 I3 62 rfl rfl (by omega) (show x62.toInt < 3900 by omega) rfl (fun x65 (e66 : x65.toInt = A0 1 x62.toInt) => ?_)
          rw [e64] at e66
          rw [e61] at e66
          exact k_fin rfl rfl ⟨_, _, _, _, rfl, I3, (fr1.up (by decide) fr1.rf), fr2.rf, show wr A0 ∧ wq A0 ∧ (A0 2) 2 = A0 2 2 ∧ (∀ q : Int, 2600 ≤ q → (A0 1) q = A0 1 q) from ⟨p5, p6, rfl, fun q _ => rfl⟩⟩
        · refine k_c1 27 rfl rfl (if_neg b57) ?_
          have b57 := mt iv_eq0.mpr b57
          refine k_push 28 rfl rfl ?_
          refine k_fin rfl (fin_Z (Or.inl rfl)) ⟨_, _, rfl, rf_len I3 I3, ?_⟩
          show am_Ok _ _ _ (46, _, [.inl (0 : Int32)], _, 0, 0) _
          refine k_c1 49 rfl rfl (if_pos (by decide)) ?_
          refine k_push 50 rfl rfl ?_
          exact k_fin rfl rfl ⟨_, _, _, _, rfl, I3, (fr1.up (by decide) fr1.rf), fr2.rf, show wr A0 ∧ wq A0 ∧ (A0 2) 2 = A0 2 2 ∧ (∀ q : Int, 2600 ≤ q → (A0 1) q = A0 1 q) from ⟨p5, p6, rfl, fun q _ => rfl⟩⟩
    · refine k_c2 10 rfl rfl (if_neg b36) ?_
      have b36 := mt iv_lt.mpr b36
      refine k_push 11 rfl rfl ?_
      have hc67 : (1 : Int32).toInt = 1 := by decide
      refine k_goto 15 rfl rfl ?_
      refine k_fin rfl (fin_Z (Or.inr rfl)) ⟨_, _, rfl, rf_len I3 I3, ?_⟩
      show am_Ok _ _ _ (6, _, [.inl (1 : Int32)], _, 0, 0) _
      refine k_fin rfl (fin_Z (Or.inr rfl)) ⟨_, _, rfl, rf_len I3 I3, ?_⟩
      show am_Ok _ _ _ (10, _, [.inl (1 : Int32), .inr (.inr (some 81))], _, 0, 0) _
      refine k_c1 13 rfl rfl (if_neg (by decide)) ?_
      refine k_aload 14 rfl rfl rfl ?_
      refine k_iload 15 rfl rfl rfl ?_
      refine k_rq I3 rfl (m_isTerm (lm := lm) (gT := gT) (gt := gt) I3.1 (show nn ((A0 24)) ((A0 25)) ((F0 28)) (gT) from p1) (show nw ((A0 24)) ((A0 25)) ((A0 26)) (lm) ((F0 28)) from p2) (show wr A0 from p5) (show wq A0 from p6) (show (A0 2) 2 = (gt) ∧ 1 ≤ (gt) ∧ (gt) ≤ 120 from p7) (show wf ((A0 1)) 2600 (gt) from p8) (show cb ((A0 1)) 2600 (gt) 200 from p9) (show 0 ≤ w1.toInt ∧ w1.toInt ≤ 2 by omega)) rfl rfl rfl I3.rc ?_
      rintro x68 h69 F70 A71 I72 ⟨k74, k75, p73⟩
      replace p73 : (x68.toInt = 0 ∨ x68.toInt = 1) ∧ (x68.toInt = 1 → ∃ n' : Nat, n' ≤ 1000 ∧ A71 2 w1.toInt = n' ∧ wf (A71 1) (1300 * w1.toInt) n') ∧ wr A71 ∧ wq A71 ∧ (∀ q : Int, q ≠ w1.toInt → A71 2 q = (A0 2) q) ∧ (∀ q : Int, (0 ≤ q ∧ q < 1300 * w1.toInt) ∨ 1300 * w1.toInt + 1300 ≤ q → A71 1 q = (A0 1) q) ∧ A71 2 2 = (A0 2) 2 ∧ (∀ q : Int, 2600 ≤ q → A71 1 q = (A0 1) q) := p73
      obtain ⟨p73a, p73b, p73c, p73d, p73e, p73f, p73g, p73h⟩ := p73
      have z76 := iv_01 (x := x68) p73a
      show am_Ok _ _ _ (18, _, [.inl x68, .inr (.inr (some 81))], _, 0, 0) _
      by_cases b77 : x68 = 0
      · refine k_c1 41 rfl rfl (if_pos b77) ?_
        have b77 := iv_eq0.mp b77
        refine k_push 42 rfl rfl ?_
        refine k_push 43 rfl rfl ?_
        refine k_in (d := 0) rfl rfl rfl rfl I72.rc ?_
        refine k_aload 1 rfl rfl rfl ?_
        refine r_gI I72 4 rfl rfl rfl (fun x78 (e79 : x78.toInt = F70 0) => ?_)
        have e80 : F70 0 = (0 : Int32).toInt := k74 0 (by decide)
        by_cases b81 : x78 = 0
        · refine k_c1 7 rfl rfl (if_pos b81) ?_
          have b81 := iv_eq0.mp b81
          refine k_iload 8 rfl rfl rfl ?_
          refine k_c1 11 rfl rfl (if_pos (by decide)) ?_
          refine k_aload 12 rfl rfl rfl ?_
          refine k_iload 13 rfl rfl rfl ?_
          refine r_pI I72 16 rfl rfl rfl (fun h82 I83 => ?_)
          refine k_aload 17 rfl rfl rfl ?_
          refine r_gI I83 20 rfl rfl rfl (fun x84 (e85 : x84.toInt = (1 : Int32).toInt) => ?_)
          by_cases b86 : x84 = 0
          · refine k_c1 23 rfl rfl (if_pos b86) ?_
            have b86 := iv_eq0.mp b86
            refine k_push 24 rfl rfl ?_
            refine k_goto 28 rfl rfl ?_
            refine k_fin rfl (fin_Z (Or.inr rfl)) ⟨_, _, rfl, rf_len I72 I83, ?_⟩
            show am_Ok _ _ _ (46, _, [.inl (1 : Int32)], _, 0, 0) _
            refine k_c1 51 rfl rfl (if_neg (by decide)) ?_
            refine k_aload 52 rfl rfl rfl ?_
            refine r_gA I83 55 rfl rfl rfl ?_
            refine k_iload 56 rfl rfl rfl ?_
            refine k_in (d := 0) rfl rfl rfl rfl rfl ?_
            refine k_push 3 rfl rfl ?_
            have hc87 : (1300 : Int32).toInt = 1300 := by decide
            refine k_iload 4 rfl rfl rfl ?_
            obtain ⟨x88, q89⟩ : ∃ q : Int32, q = ((1300 : Int32) * w1) := ⟨_, rfl⟩
            have e90 : x88.toInt = 1300 * w1.toInt := by rw [q89]; exact iv_mulc 1300 (by decide) (by omega) (by omega)
            refine k_bin x88 5 rfl q89.symm rfl ?_
            refine k_fin rfl rfl ⟨_, _, rfl, rf_len I83 I83, ?_⟩
            show am_Ok _ _ _ (59, _, [.inl x88, .inr (.inr (some (rf_ad 1)))], _, 0, 0) _
            refine k_iload 60 rfl rfl rfl ?_
            obtain ⟨x91, q92⟩ : ∃ q : Int32, q = (x88 + w2) := ⟨_, rfl⟩
            have e93 : x91.toInt = x88.toInt + w2.toInt := by rw [q92, iv_add (by omega) (by omega)]
            refine k_bin x91 61 rfl q92.symm rfl ?_
            refine r_ld 1 I83 62 rfl rfl (by omega) (show x91.toInt < 3900 by omega) rfl (fun x94 (e95 : x94.toInt = A71 1 x91.toInt) => ?_)
            rw [e93] at e95
            rw [e90] at e95
            exact k_fin rfl rfl ⟨_, _, _, _, rfl, I83, (fr1.up (by decide) (fr1.tr (by decide) (fr1.up (by decide) fr1.rf) k74)), (fr2.tr (by decide) fr2.rf k75), ⟨p73c, p73d, p73g, p73h⟩⟩
          · refine k_c1 27 rfl rfl (if_neg b86) ?_
            have b86 := mt iv_eq0.mpr b86
            refine k_push 28 rfl rfl ?_
            refine k_fin rfl (fin_Z (Or.inl rfl)) ⟨_, _, rfl, rf_len I72 I83, ?_⟩
            show am_Ok _ _ _ (46, _, [.inl (0 : Int32)], _, 0, 0) _
            refine k_c1 49 rfl rfl (if_pos (by decide)) ?_
            refine k_push 50 rfl rfl ?_
            exact k_fin rfl rfl ⟨_, _, _, _, rfl, I83, (fr1.up (by decide) (fr1.tr (by decide) (fr1.up (by decide) fr1.rf) k74)), (fr2.tr (by decide) fr2.rf k75), ⟨p73c, p73d, p73g, p73h⟩⟩
        · refine k_c1 16 rfl rfl (if_neg b81) ?_
          have b81 := mt iv_eq0.mpr b81
          refine k_aload 17 rfl rfl rfl ?_
          refine r_gI I72 20 rfl rfl rfl (fun x96 (e97 : x96.toInt = F70 0) => ?_)
          by_cases b98 : x96 = 0
          · refine k_c1 23 rfl rfl (if_pos b98) ?_
            have b98 := iv_eq0.mp b98
            refine k_push 24 rfl rfl ?_
            refine k_goto 28 rfl rfl ?_
            refine k_fin rfl (fin_Z (Or.inr rfl)) ⟨_, _, rfl, rf_len I72 I72, ?_⟩
            show am_Ok _ _ _ (46, _, [.inl (1 : Int32)], _, 0, 0) _
            refine k_c1 51 rfl rfl (if_neg (by decide)) ?_
            refine k_aload 52 rfl rfl rfl ?_
            refine r_gA I72 55 rfl rfl rfl ?_
            refine k_iload 56 rfl rfl rfl ?_
            refine k_in (d := 0) rfl rfl rfl rfl rfl ?_
            refine k_push 3 rfl rfl ?_
            have hc99 : (1300 : Int32).toInt = 1300 := by decide
            refine k_iload 4 rfl rfl rfl ?_
            obtain ⟨x100, q101⟩ : ∃ q : Int32, q = ((1300 : Int32) * w1) := ⟨_, rfl⟩
            have e102 : x100.toInt = 1300 * w1.toInt := by rw [q101]; exact iv_mulc 1300 (by decide) (by omega) (by omega)
            refine k_bin x100 5 rfl q101.symm rfl ?_
            refine k_fin rfl rfl ⟨_, _, rfl, rf_len I72 I72, ?_⟩
            show am_Ok _ _ _ (59, _, [.inl x100, .inr (.inr (some (rf_ad 1)))], _, 0, 0) _
            refine k_iload 60 rfl rfl rfl ?_
            obtain ⟨x103, q104⟩ : ∃ q : Int32, q = (x100 + w2) := ⟨_, rfl⟩
            have e105 : x103.toInt = x100.toInt + w2.toInt := by rw [q104, iv_add (by omega) (by omega)]
            refine k_bin x103 61 rfl q104.symm rfl ?_
            refine r_ld 1 I72 62 rfl rfl (by omega) (show x103.toInt < 3900 by omega) rfl (fun x106 (e107 : x106.toInt = A71 1 x103.toInt) => ?_)
            rw [e105] at e107
            rw [e102] at e107
            exact k_fin rfl rfl ⟨_, _, _, _, rfl, I72, (fr1.tr (by decide) (fr1.up (by decide) fr1.rf) k74), (fr2.tr (by decide) fr2.rf k75), ⟨p73c, p73d, p73g, p73h⟩⟩
          · refine k_c1 27 rfl rfl (if_neg b98) ?_
            have b98 := mt iv_eq0.mpr b98
            refine k_push 28 rfl rfl ?_
            refine k_fin rfl (fin_Z (Or.inl rfl)) ⟨_, _, rfl, rf_len I72 I72, ?_⟩
            show am_Ok _ _ _ (46, _, [.inl (0 : Int32)], _, 0, 0) _
            refine k_c1 49 rfl rfl (if_pos (by decide)) ?_
            refine k_push 50 rfl rfl ?_
            exact k_fin rfl rfl ⟨_, _, _, _, rfl, I72, (fr1.tr (by decide) (fr1.up (by decide) fr1.rf) k74), (fr2.tr (by decide) fr2.rf k75), ⟨p73c, p73d, p73g, p73h⟩⟩
      · refine k_c1 21 rfl rfl (if_neg b77) ?_
        have b77 := mt iv_eq0.mpr b77
        obtain ⟨gn, hn1, hn2, hn3⟩ := p73b ((p73a).resolve_left (by assumption))
        clear p73b
        refine k_iload 22 rfl rfl rfl ?_
        refine k_push 23 rfl rfl ?_
        refine k_aload 24 rfl rfl rfl ?_
        refine r_gA I72 27 rfl rfl rfl ?_
        refine k_iload 28 rfl rfl rfl ?_
        refine r_ld 2 I72 29 rfl rfl (by omega) (show w1.toInt < 3 by omega) rfl (fun x108 (e109 : x108.toInt = A71 2 w1.toInt) => ?_)
        refine k_push 30 rfl rfl ?_
        obtain ⟨x110, q111⟩ : ∃ q : Int32, q = (x108 - (1 : Int32)) := ⟨_, rfl⟩
        have e112 : x110.toInt = x108.toInt - 1 := by rw [q111, iv_sub (by omega) (by omega)]; omega
        refine k_bin x110 31 rfl q111.symm rfl ?_
        refine k_in (d := 0) rfl rfl rfl rfl rfl ?_
        refine k_iload 1 rfl rfl rfl ?_
        refine k_iload 2 rfl rfl rfl ?_
        by_cases b113 : w2 < (0 : Int32)
        · refine k_c2 14 rfl rfl (if_pos b113) ?_
          have b113 := iv_lt.mp b113
          refine k_push 15 rfl rfl ?_
          refine k_fin rfl (fin_Z (Or.inl rfl)) ⟨_, _, rfl, rf_len I72 I72, ?_⟩
          show am_Ok _ _ _ (34, _, [.inl (0 : Int32), .inr (.inr (some 81))], _, 0, 0) _
          refine k_c1 41 rfl rfl (if_pos (by decide)) ?_
          refine k_push 42 rfl rfl ?_
          refine k_push 43 rfl rfl ?_
          refine k_in (d := 0) rfl rfl rfl rfl I72.rc ?_
          refine k_aload 1 rfl rfl rfl ?_
          refine r_gI I72 4 rfl rfl rfl (fun x114 (e115 : x114.toInt = F70 0) => ?_)
          have e116 : F70 0 = (0 : Int32).toInt := k74 0 (by decide)
          by_cases b117 : x114 = 0
          · refine k_c1 7 rfl rfl (if_pos b117) ?_
            have b117 := iv_eq0.mp b117
            refine k_iload 8 rfl rfl rfl ?_
            refine k_c1 11 rfl rfl (if_pos (by decide)) ?_
            refine k_aload 12 rfl rfl rfl ?_
            refine k_iload 13 rfl rfl rfl ?_
            refine r_pI I72 16 rfl rfl rfl (fun h118 I119 => ?_)
            refine k_aload 17 rfl rfl rfl ?_
            refine r_gI I119 20 rfl rfl rfl (fun x120 (e121 : x120.toInt = (1 : Int32).toInt) => ?_)
            by_cases b122 : x120 = 0
            · refine k_c1 23 rfl rfl (if_pos b122) ?_
              have b122 := iv_eq0.mp b122
              refine k_push 24 rfl rfl ?_
              refine k_goto 28 rfl rfl ?_
              refine k_fin rfl (fin_Z (Or.inr rfl)) ⟨_, _, rfl, rf_len I72 I119, ?_⟩
              show am_Ok _ _ _ (46, _, [.inl (1 : Int32)], _, 0, 0) _
              refine k_c1 51 rfl rfl (if_neg (by decide)) ?_
              refine k_aload 52 rfl rfl rfl ?_
              refine r_gA I119 55 rfl rfl rfl ?_
              refine k_iload 56 rfl rfl rfl ?_
              refine k_in (d := 0) rfl rfl rfl rfl rfl ?_
              refine k_push 3 rfl rfl ?_
              have hc123 : (1300 : Int32).toInt = 1300 := by decide
              refine k_iload 4 rfl rfl rfl ?_
              obtain ⟨x124, q125⟩ : ∃ q : Int32, q = ((1300 : Int32) * w1) := ⟨_, rfl⟩
              have e126 : x124.toInt = 1300 * w1.toInt := by rw [q125]; exact iv_mulc 1300 (by decide) (by omega) (by omega)
              refine k_bin x124 5 rfl q125.symm rfl ?_
              refine k_fin rfl rfl ⟨_, _, rfl, rf_len I119 I119, ?_⟩
              show am_Ok _ _ _ (59, _, [.inl x124, .inr (.inr (some (rf_ad 1)))], _, 0, 0) _
              refine k_iload 60 rfl rfl rfl ?_
              obtain ⟨x127, q128⟩ : ∃ q : Int32, q = (x124 + w2) := ⟨_, rfl⟩
              have e129 : x127.toInt = x124.toInt + w2.toInt := by rw [q128, iv_add (by omega) (by omega)]
              refine k_bin x127 61 rfl q128.symm rfl ?_
              refine r_ld 1 I119 62 rfl rfl (by omega) (show x127.toInt < 3900 by omega) rfl (fun x130 (e131 : x130.toInt = A71 1 x127.toInt) => ?_)
              rw [e129] at e131
              rw [e126] at e131
              exact k_fin rfl rfl ⟨_, _, _, _, rfl, I119, (fr1.up (by decide) (fr1.tr (by decide) (fr1.up (by decide) fr1.rf) k74)), (fr2.tr (by decide) fr2.rf k75), ⟨p73c, p73d, p73g, p73h⟩⟩
            · refine k_c1 27 rfl rfl (if_neg b122) ?_
              have b122 := mt iv_eq0.mpr b122
              refine k_push 28 rfl rfl ?_
              refine k_fin rfl (fin_Z (Or.inl rfl)) ⟨_, _, rfl, rf_len I72 I119, ?_⟩
              show am_Ok _ _ _ (46, _, [.inl (0 : Int32)], _, 0, 0) _
              refine k_c1 49 rfl rfl (if_pos (by decide)) ?_
              refine k_push 50 rfl rfl ?_
              exact k_fin rfl rfl ⟨_, _, _, _, rfl, I119, (fr1.up (by decide) (fr1.tr (by decide) (fr1.up (by decide) fr1.rf) k74)), (fr2.tr (by decide) fr2.rf k75), ⟨p73c, p73d, p73g, p73h⟩⟩
          · refine k_c1 16 rfl rfl (if_neg b117) ?_
            have b117 := mt iv_eq0.mpr b117
            refine k_aload 17 rfl rfl rfl ?_
            refine r_gI I72 20 rfl rfl rfl (fun x132 (e133 : x132.toInt = F70 0) => ?_)
            by_cases b134 : x132 = 0
            · refine k_c1 23 rfl rfl (if_pos b134) ?_
              have b134 := iv_eq0.mp b134
              refine k_push 24 rfl rfl ?_
              refine k_goto 28 rfl rfl ?_
              refine k_fin rfl (fin_Z (Or.inr rfl)) ⟨_, _, rfl, rf_len I72 I72, ?_⟩
              show am_Ok _ _ _ (46, _, [.inl (1 : Int32)], _, 0, 0) _
              refine k_c1 51 rfl rfl (if_neg (by decide)) ?_
              refine k_aload 52 rfl rfl rfl ?_
              refine r_gA I72 55 rfl rfl rfl ?_
              refine k_iload 56 rfl rfl rfl ?_
              refine k_in (d := 0) rfl rfl rfl rfl rfl ?_
              refine k_push 3 rfl rfl ?_
              have hc135 : (1300 : Int32).toInt = 1300 := by decide
              refine k_iload 4 rfl rfl rfl ?_
              obtain ⟨x136, q137⟩ : ∃ q : Int32, q = ((1300 : Int32) * w1) := ⟨_, rfl⟩
              have e138 : x136.toInt = 1300 * w1.toInt := by rw [q137]; exact iv_mulc 1300 (by decide) (by omega) (by omega)
              refine k_bin x136 5 rfl q137.symm rfl ?_
              refine k_fin rfl rfl ⟨_, _, rfl, rf_len I72 I72, ?_⟩
              show am_Ok _ _ _ (59, _, [.inl x136, .inr (.inr (some (rf_ad 1)))], _, 0, 0) _
              refine k_iload 60 rfl rfl rfl ?_
              obtain ⟨x139, q140⟩ : ∃ q : Int32, q = (x136 + w2) := ⟨_, rfl⟩
              have e141 : x139.toInt = x136.toInt + w2.toInt := by rw [q140, iv_add (by omega) (by omega)]
              refine k_bin x139 61 rfl q140.symm rfl ?_
              refine r_ld 1 I72 62 rfl rfl (by omega) (show x139.toInt < 3900 by omega) rfl (fun x142 (e143 : x142.toInt = A71 1 x139.toInt) => ?_)
              rw [e141] at e143
              rw [e138] at e143
              exact k_fin rfl rfl ⟨_, _, _, _, rfl, I72, (fr1.tr (by decide) (fr1.up (by decide) fr1.rf) k74), (fr2.tr (by decide) fr2.rf k75), ⟨p73c, p73d, p73g, p73h⟩⟩
            · refine k_c1 27 rfl rfl (if_neg b134) ?_
              have b134 := mt iv_eq0.mpr b134
              refine k_push 28 rfl rfl ?_
              refine k_fin rfl (fin_Z (Or.inl rfl)) ⟨_, _, rfl, rf_len I72 I72, ?_⟩
              show am_Ok _ _ _ (46, _, [.inl (0 : Int32)], _, 0, 0) _
              refine k_c1 49 rfl rfl (if_pos (by decide)) ?_
              refine k_push 50 rfl rfl ?_
              exact k_fin rfl rfl ⟨_, _, _, _, rfl, I72, (fr1.tr (by decide) (fr1.up (by decide) fr1.rf) k74), (fr2.tr (by decide) fr2.rf k75), ⟨p73c, p73d, p73g, p73h⟩⟩
        · refine k_c2 5 rfl rfl (if_neg b113) ?_
          have b113 := mt iv_lt.mpr b113
          refine k_iload 6 rfl rfl rfl ?_
          refine k_iload 7 rfl rfl rfl ?_
          by_cases b144 : x110 < w2
          · refine k_c2 14 rfl rfl (if_pos b144) ?_
            have b144 := iv_lt.mp b144
            refine k_push 15 rfl rfl ?_
            refine k_fin rfl (fin_Z (Or.inl rfl)) ⟨_, _, rfl, rf_len I72 I72, ?_⟩
            show am_Ok _ _ _ (34, _, [.inl (0 : Int32), .inr (.inr (some 81))], _, 0, 0) _
            refine k_c1 41 rfl rfl (if_pos (by decide)) ?_
            refine k_push 42 rfl rfl ?_
            refine k_push 43 rfl rfl ?_
            refine k_in (d := 0) rfl rfl rfl rfl I72.rc ?_
            refine k_aload 1 rfl rfl rfl ?_
            refine r_gI I72 4 rfl rfl rfl (fun x145 (e146 : x145.toInt = F70 0) => ?_)
            have e147 : F70 0 = (0 : Int32).toInt := k74 0 (by decide)
            by_cases b148 : x145 = 0
            · refine k_c1 7 rfl rfl (if_pos b148) ?_
              have b148 := iv_eq0.mp b148
              refine k_iload 8 rfl rfl rfl ?_
              refine k_c1 11 rfl rfl (if_pos (by decide)) ?_
              refine k_aload 12 rfl rfl rfl ?_
              refine k_iload 13 rfl rfl rfl ?_
              refine r_pI I72 16 rfl rfl rfl (fun h149 I150 => ?_)
              refine k_aload 17 rfl rfl rfl ?_
              refine r_gI I150 20 rfl rfl rfl (fun x151 (e152 : x151.toInt = (1 : Int32).toInt) => ?_)
              by_cases b153 : x151 = 0
              · refine k_c1 23 rfl rfl (if_pos b153) ?_
                have b153 := iv_eq0.mp b153
                refine k_push 24 rfl rfl ?_
                refine k_goto 28 rfl rfl ?_
                refine k_fin rfl (fin_Z (Or.inr rfl)) ⟨_, _, rfl, rf_len I72 I150, ?_⟩
                show am_Ok _ _ _ (46, _, [.inl (1 : Int32)], _, 0, 0) _
                refine k_c1 51 rfl rfl (if_neg (by decide)) ?_
                refine k_aload 52 rfl rfl rfl ?_
                refine r_gA I150 55 rfl rfl rfl ?_
                refine k_iload 56 rfl rfl rfl ?_
                refine k_in (d := 0) rfl rfl rfl rfl rfl ?_
                refine k_push 3 rfl rfl ?_
                have hc154 : (1300 : Int32).toInt = 1300 := by decide
                refine k_iload 4 rfl rfl rfl ?_
                obtain ⟨x155, q156⟩ : ∃ q : Int32, q = ((1300 : Int32) * w1) := ⟨_, rfl⟩
                have e157 : x155.toInt = 1300 * w1.toInt := by rw [q156]; exact iv_mulc 1300 (by decide) (by omega) (by omega)
                refine k_bin x155 5 rfl q156.symm rfl ?_
                refine k_fin rfl rfl ⟨_, _, rfl, rf_len I150 I150, ?_⟩
                show am_Ok _ _ _ (59, _, [.inl x155, .inr (.inr (some (rf_ad 1)))], _, 0, 0) _
                refine k_iload 60 rfl rfl rfl ?_
                obtain ⟨x158, q159⟩ : ∃ q : Int32, q = (x155 + w2) := ⟨_, rfl⟩
                have e160 : x158.toInt = x155.toInt + w2.toInt := by rw [q159, iv_add (by omega) (by omega)]
                refine k_bin x158 61 rfl q159.symm rfl ?_
                refine r_ld 1 I150 62 rfl rfl (by omega) (show x158.toInt < 3900 by omega) rfl (fun x161 (e162 : x161.toInt = A71 1 x158.toInt) => ?_)
                rw [e160] at e162
                rw [e157] at e162
                exact k_fin rfl rfl ⟨_, _, _, _, rfl, I150, (fr1.up (by decide) (fr1.tr (by decide) (fr1.up (by decide) fr1.rf) k74)), (fr2.tr (by decide) fr2.rf k75), ⟨p73c, p73d, p73g, p73h⟩⟩
              · refine k_c1 27 rfl rfl (if_neg b153) ?_
                have b153 := mt iv_eq0.mpr b153
                refine k_push 28 rfl rfl ?_
                refine k_fin rfl (fin_Z (Or.inl rfl)) ⟨_, _, rfl, rf_len I72 I150, ?_⟩
                show am_Ok _ _ _ (46, _, [.inl (0 : Int32)], _, 0, 0) _
                refine k_c1 49 rfl rfl (if_pos (by decide)) ?_
                refine k_push 50 rfl rfl ?_
                exact k_fin rfl rfl ⟨_, _, _, _, rfl, I150, (fr1.up (by decide) (fr1.tr (by decide) (fr1.up (by decide) fr1.rf) k74)), (fr2.tr (by decide) fr2.rf k75), ⟨p73c, p73d, p73g, p73h⟩⟩
            · refine k_c1 16 rfl rfl (if_neg b148) ?_
              have b148 := mt iv_eq0.mpr b148
              refine k_aload 17 rfl rfl rfl ?_
              refine r_gI I72 20 rfl rfl rfl (fun x163 (e164 : x163.toInt = F70 0) => ?_)
              by_cases b165 : x163 = 0
              · refine k_c1 23 rfl rfl (if_pos b165) ?_
                have b165 := iv_eq0.mp b165
                refine k_push 24 rfl rfl ?_
                refine k_goto 28 rfl rfl ?_
                refine k_fin rfl (fin_Z (Or.inr rfl)) ⟨_, _, rfl, rf_len I72 I72, ?_⟩
                show am_Ok _ _ _ (46, _, [.inl (1 : Int32)], _, 0, 0) _
                refine k_c1 51 rfl rfl (if_neg (by decide)) ?_
                refine k_aload 52 rfl rfl rfl ?_
                refine r_gA I72 55 rfl rfl rfl ?_
                refine k_iload 56 rfl rfl rfl ?_
                refine k_in (d := 0) rfl rfl rfl rfl rfl ?_
                refine k_push 3 rfl rfl ?_
                have hc166 : (1300 : Int32).toInt = 1300 := by decide
                refine k_iload 4 rfl rfl rfl ?_
                obtain ⟨x167, q168⟩ : ∃ q : Int32, q = ((1300 : Int32) * w1) := ⟨_, rfl⟩
                have e169 : x167.toInt = 1300 * w1.toInt := by rw [q168]; exact iv_mulc 1300 (by decide) (by omega) (by omega)
                refine k_bin x167 5 rfl q168.symm rfl ?_
                refine k_fin rfl rfl ⟨_, _, rfl, rf_len I72 I72, ?_⟩
                show am_Ok _ _ _ (59, _, [.inl x167, .inr (.inr (some (rf_ad 1)))], _, 0, 0) _
                refine k_iload 60 rfl rfl rfl ?_
                obtain ⟨x170, q171⟩ : ∃ q : Int32, q = (x167 + w2) := ⟨_, rfl⟩
                have e172 : x170.toInt = x167.toInt + w2.toInt := by rw [q171, iv_add (by omega) (by omega)]
                refine k_bin x170 61 rfl q171.symm rfl ?_
                refine r_ld 1 I72 62 rfl rfl (by omega) (show x170.toInt < 3900 by omega) rfl (fun x173 (e174 : x173.toInt = A71 1 x170.toInt) => ?_)
                rw [e172] at e174
                rw [e169] at e174
                exact k_fin rfl rfl ⟨_, _, _, _, rfl, I72, (fr1.tr (by decide) (fr1.up (by decide) fr1.rf) k74), (fr2.tr (by decide) fr2.rf k75), ⟨p73c, p73d, p73g, p73h⟩⟩
              · refine k_c1 27 rfl rfl (if_neg b165) ?_
                have b165 := mt iv_eq0.mpr b165
                refine k_push 28 rfl rfl ?_
                refine k_fin rfl (fin_Z (Or.inl rfl)) ⟨_, _, rfl, rf_len I72 I72, ?_⟩
                show am_Ok _ _ _ (46, _, [.inl (0 : Int32)], _, 0, 0) _
                refine k_c1 49 rfl rfl (if_pos (by decide)) ?_
                refine k_push 50 rfl rfl ?_
                exact k_fin rfl rfl ⟨_, _, _, _, rfl, I72, (fr1.tr (by decide) (fr1.up (by decide) fr1.rf) k74), (fr2.tr (by decide) fr2.rf k75), ⟨p73c, p73d, p73g, p73h⟩⟩
          · refine k_c2 10 rfl rfl (if_neg b144) ?_
            have b144 := mt iv_lt.mpr b144
            refine k_push 11 rfl rfl ?_
            refine k_goto 15 rfl rfl ?_
            refine k_fin rfl (fin_Z (Or.inr rfl)) ⟨_, _, rfl, rf_len I72 I72, ?_⟩
            show am_Ok _ _ _ (34, _, [.inl (1 : Int32), .inr (.inr (some 81))], _, 0, 0) _
            refine k_c1 37 rfl rfl (if_neg (by decide)) ?_
            refine k_push 38 rfl rfl ?_
            refine k_goto 42 rfl rfl ?_
            refine k_push 43 rfl rfl ?_
            refine k_in (d := 0) rfl rfl rfl rfl I72.rc ?_
            refine k_aload 1 rfl rfl rfl ?_
            refine r_gI I72 4 rfl rfl rfl (fun x175 (e176 : x175.toInt = F70 0) => ?_)
            have e177 : F70 0 = (0 : Int32).toInt := k74 0 (by decide)
            by_cases b178 : x175 = 0
            · refine k_c1 7 rfl rfl (if_pos b178) ?_
              have b178 := iv_eq0.mp b178
              refine k_iload 8 rfl rfl rfl ?_
              refine k_c1 16 rfl rfl (if_neg (by decide)) ?_
              refine k_aload 17 rfl rfl rfl ?_
              refine r_gI I72 20 rfl rfl rfl (fun x179 (e180 : x179.toInt = F70 0) => ?_)
              by_cases b181 : x179 = 0
              · refine k_c1 23 rfl rfl (if_pos b181) ?_
                have b181 := iv_eq0.mp b181
                refine k_push 24 rfl rfl ?_
                refine k_goto 28 rfl rfl ?_
                refine k_fin rfl (fin_Z (Or.inr rfl)) ⟨_, _, rfl, rf_len I72 I72, ?_⟩
                show am_Ok _ _ _ (46, _, [.inl (1 : Int32)], _, 0, 0) _
                refine k_c1 51 rfl rfl (if_neg (by decide)) ?_
                refine k_aload 52 rfl rfl rfl ?_
                refine r_gA I72 55 rfl rfl rfl ?_
                refine k_iload 56 rfl rfl rfl ?_
                refine k_in (d := 0) rfl rfl rfl rfl rfl ?_
                refine k_push 3 rfl rfl ?_
                have hc182 : (1300 : Int32).toInt = 1300 := by decide
                refine k_iload 4 rfl rfl rfl ?_
                obtain ⟨x183, q184⟩ : ∃ q : Int32, q = ((1300 : Int32) * w1) := ⟨_, rfl⟩
                have e185 : x183.toInt = 1300 * w1.toInt := by rw [q184]; exact iv_mulc 1300 (by decide) (by omega) (by omega)
                refine k_bin x183 5 rfl q184.symm rfl ?_
                refine k_fin rfl rfl ⟨_, _, rfl, rf_len I72 I72, ?_⟩
                show am_Ok _ _ _ (59, _, [.inl x183, .inr (.inr (some (rf_ad 1)))], _, 0, 0) _
                refine k_iload 60 rfl rfl rfl ?_
                obtain ⟨x186, q187⟩ : ∃ q : Int32, q = (x183 + w2) := ⟨_, rfl⟩
                have e188 : x186.toInt = x183.toInt + w2.toInt := by rw [q187, iv_add (by omega) (by omega)]
                refine k_bin x186 61 rfl q187.symm rfl ?_
                refine r_ld 1 I72 62 rfl rfl (by omega) (show x186.toInt < 3900 by omega) rfl (fun x189 (e190 : x189.toInt = A71 1 x186.toInt) => ?_)
                rw [e188] at e190
                rw [e185] at e190
                exact k_fin rfl rfl ⟨_, _, _, _, rfl, I72, (fr1.tr (by decide) (fr1.up (by decide) fr1.rf) k74), (fr2.tr (by decide) fr2.rf k75), ⟨p73c, p73d, p73g, p73h⟩⟩
              · refine k_c1 27 rfl rfl (if_neg b181) ?_
                have b181 := mt iv_eq0.mpr b181
                refine k_push 28 rfl rfl ?_
                refine k_fin rfl (fin_Z (Or.inl rfl)) ⟨_, _, rfl, rf_len I72 I72, ?_⟩
                show am_Ok _ _ _ (46, _, [.inl (0 : Int32)], _, 0, 0) _
                refine k_c1 49 rfl rfl (if_pos (by decide)) ?_
                refine k_push 50 rfl rfl ?_
                exact k_fin rfl rfl ⟨_, _, _, _, rfl, I72, (fr1.tr (by decide) (fr1.up (by decide) fr1.rf) k74), (fr2.tr (by decide) fr2.rf k75), ⟨p73c, p73d, p73g, p73h⟩⟩
            · refine k_c1 16 rfl rfl (if_neg b178) ?_
              have b178 := mt iv_eq0.mpr b178
              refine k_aload 17 rfl rfl rfl ?_
              refine r_gI I72 20 rfl rfl rfl (fun x191 (e192 : x191.toInt = F70 0) => ?_)
              by_cases b193 : x191 = 0
              · refine k_c1 23 rfl rfl (if_pos b193) ?_
                have b193 := iv_eq0.mp b193
                refine k_push 24 rfl rfl ?_
                refine k_goto 28 rfl rfl ?_
                refine k_fin rfl (fin_Z (Or.inr rfl)) ⟨_, _, rfl, rf_len I72 I72, ?_⟩
                show am_Ok _ _ _ (46, _, [.inl (1 : Int32)], _, 0, 0) _
                refine k_c1 51 rfl rfl (if_neg (by decide)) ?_
                refine k_aload 52 rfl rfl rfl ?_
                refine r_gA I72 55 rfl rfl rfl ?_
                refine k_iload 56 rfl rfl rfl ?_
                refine k_in (d := 0) rfl rfl rfl rfl rfl ?_
                refine k_push 3 rfl rfl ?_
                have hc194 : (1300 : Int32).toInt = 1300 := by decide
                refine k_iload 4 rfl rfl rfl ?_
                obtain ⟨x195, q196⟩ : ∃ q : Int32, q = ((1300 : Int32) * w1) := ⟨_, rfl⟩
                have e197 : x195.toInt = 1300 * w1.toInt := by rw [q196]; exact iv_mulc 1300 (by decide) (by omega) (by omega)
                refine k_bin x195 5 rfl q196.symm rfl ?_
                refine k_fin rfl rfl ⟨_, _, rfl, rf_len I72 I72, ?_⟩
                show am_Ok _ _ _ (59, _, [.inl x195, .inr (.inr (some (rf_ad 1)))], _, 0, 0) _
                refine k_iload 60 rfl rfl rfl ?_
                obtain ⟨x198, q199⟩ : ∃ q : Int32, q = (x195 + w2) := ⟨_, rfl⟩
                have e200 : x198.toInt = x195.toInt + w2.toInt := by rw [q199, iv_add (by omega) (by omega)]
                refine k_bin x198 61 rfl q199.symm rfl ?_
                refine r_ld 1 I72 62 rfl rfl (by omega) (show x198.toInt < 3900 by omega) rfl (fun x201 (e202 : x201.toInt = A71 1 x198.toInt) => ?_)
                rw [e200] at e202
                rw [e197] at e202
                exact k_fin rfl rfl ⟨_, _, _, _, rfl, I72, (fr1.tr (by decide) (fr1.up (by decide) fr1.rf) k74), (fr2.tr (by decide) fr2.rf k75), ⟨p73c, p73d, p73g, p73h⟩⟩
              · refine k_c1 27 rfl rfl (if_neg b193) ?_
                have b193 := mt iv_eq0.mpr b193
                refine k_push 28 rfl rfl ?_
                refine k_fin rfl (fin_Z (Or.inl rfl)) ⟨_, _, rfl, rf_len I72 I72, ?_⟩
                show am_Ok _ _ _ (46, _, [.inl (0 : Int32)], _, 0, 0) _
                refine k_c1 49 rfl rfl (if_pos (by decide)) ?_
                refine k_push 50 rfl rfl ?_
                exact k_fin rfl rfl ⟨_, _, _, _, rfl, I72, (fr1.tr (by decide) (fr1.up (by decide) fr1.rf) k74), (fr2.tr (by decide) fr2.rf k75), ⟨p73c, p73d, p73g, p73h⟩⟩
theorem m_plain {h0 : am_h} {F0 : rf_f} {A0 : rf_A} {w1 : Int32} {gt : Nat} (hR : rf_R h0 F0 A0) (p5 : wr A0) (p6 : wq A0) (p7 : A0 2 2 = gt ∧ 1 ≤ gt ∧ gt ≤ 120) (p8 : wf (A0 1) 2600 gt) (p9 : cb (A0 1) 2600 gt 200) : am_Mt 5 264 [.inr (.inr (some 81)), .inl w1] h0 (rf_Q h0 (fun x F' A' => fr1 [67, 70, 71, 0] F0 F' ∧ fr2 [66, 68, 69, 1, 2] A0 A' ∧ (wr A' ∧ wq A' ∧ A' 2 2 = A0 2 2 ∧ (∀ q : Int, 2600 ≤ q → A' 1 q = A0 1 q)))) := by
  refine am_Mt.of (D := 4) ?_
  have hI : rf_I h0 h0 F0 A0 := rf_I.start hR
  refine k_aload 1 rfl rfl rfl ?_
  refine k_push 2 rfl rfl ?_
  have hc1 : (0 : Int32).toInt = 0 := by decide
  refine r_pI hI 5 rfl rfl rfl (fun h2 I3 => ?_)
  refine k_aload 6 rfl rfl rfl ?_
  refine k_iload 7 rfl rfl rfl ?_
  refine k_push 8 rfl rfl ?_
  refine k_push 11 rfl rfl ?_
  have hc4 : (200 : Int32).toInt = 200 := by decide
  refine k_in (d := 0) rfl rfl rfl rfl rfl ?_
  refine k_iload 1 rfl rfl rfl ?_
  refine k_iload 2 rfl rfl rfl ?_
  by_cases b5 : w1 < (0 : Int32)
  · refine k_c2 14 rfl rfl (if_pos b5) ?_
    have b5 := iv_lt.mp b5
    refine k_push 15 rfl rfl ?_
    refine k_fin rfl (fin_Z (Or.inl rfl)) ⟨_, _, rfl, rf_len I3 I3, ?_⟩
    show am_Ok _ _ _ (14, _, [.inl (0 : Int32), .inr (.inr (some 81))], _, 0, 0) _
    refine k_push 15 rfl rfl ?_
    have hc6 : (1 : Int32).toInt = 1 := by decide
    refine k_in (d := 0) rfl rfl rfl rfl I3.rc ?_
    refine k_aload 1 rfl rfl rfl ?_
    refine r_gI I3 4 rfl rfl rfl (fun x7 (e8 : x7.toInt = (0 : Int32).toInt) => ?_)
    by_cases b9 : x7 = 0
    · refine k_c1 7 rfl rfl (if_pos b9) ?_
      have b9 := iv_eq0.mp b9
      refine k_iload 8 rfl rfl rfl ?_
      refine k_c1 11 rfl rfl (if_pos (by decide)) ?_
      refine k_aload 12 rfl rfl rfl ?_
      refine k_iload 13 rfl rfl rfl ?_
      refine r_pI I3 16 rfl rfl rfl (fun h10 I11 => ?_)
      refine k_aload 17 rfl rfl rfl ?_
      refine r_gI I11 20 rfl rfl rfl (fun x12 (e13 : x12.toInt = (1 : Int32).toInt) => ?_)
      by_cases b14 : x12 = 0
      · refine k_c1 23 rfl rfl (if_pos b14) ?_
        have b14 := iv_eq0.mp b14
        refine k_push 24 rfl rfl ?_
        refine k_goto 28 rfl rfl ?_
        refine k_fin rfl (fin_Z (Or.inr rfl)) ⟨_, _, rfl, rf_len I3 I11, ?_⟩
        show am_Ok _ _ _ (18, _, [.inl (1 : Int32)], _, 0, 0) _
        refine k_c1 23 rfl rfl (if_neg (by decide)) ?_
        refine k_aload 24 rfl rfl rfl ?_
        refine k_iload 25 rfl rfl rfl ?_
        refine k_rq I11 rfl (m_goesPlain (gt := gt) I11.1 (show (A0 2) 2 = (gt) ∧ 1 ≤ (gt) ∧ (gt) ≤ 120 from p7) (show wf ((A0 1)) 2600 (gt) from p8) (show cb ((A0 1)) 2600 (gt) 200 from p9) (show w1.toInt ≤ 200 by omega)) rfl rfl rfl I11.rc ?_
        rintro x15 h16 F17 A18 I19 ⟨k21, k22, p20⟩
        replace p20 : (x15.toInt = 0 ∨ x15.toInt = 1) ∧ (x15.toInt = 1 → ∃ n' : Nat, n' ≤ 1000 ∧ A18 2 1 = n' ∧ wf (A18 1) 1300 n') ∧ (∀ q : Int, (q < 1300 ∨ 2600 ≤ q) → A18 1 q = (A0 1) q) ∧ (∀ q : Int, q ≠ 1 → A18 2 q = (A0 2) q) := p20
        obtain ⟨p20a, p20b, p20c, p20d⟩ := p20
        have z23 := iv_01 (x := x15) p20a
        show am_Ok _ _ _ (28, _, [.inl x15], _, 0, 0) _
        clear p20b
        by_cases b24 : x15 = 0
        · refine k_c1 40 rfl rfl (if_pos b24) ?_
          have b24 := iv_eq0.mp b24
          refine k_push 41 rfl rfl ?_
          have hc25 : (-1 : Int32).toInt = -1 := by decide
          exact k_fin rfl rfl ⟨_, _, _, _, rfl, I19, (fr1.tr (by decide) (fr1.up (by decide) (fr1.up (by decide) fr1.rf)) k21), (fr2.tr (by decide) fr2.rf k22), ⟨p5.fr k22 (by decide), p6.fr k22 (by decide), p20d 2 (by decide), fun q hq => p20c q (Or.inr hq)⟩⟩
        · refine k_c1 31 rfl rfl (if_neg b24) ?_
          have b24 := mt iv_eq0.mpr b24
          refine k_aload 32 rfl rfl rfl ?_
          refine r_gA I19 35 rfl rfl rfl ?_
          refine k_push 36 rfl rfl ?_
          refine r_ld 2 I19 37 rfl rfl (by omega) (show (1 : Int32).toInt < 3 by omega) rfl (fun x26 (e27 : x26.toInt = A18 2 (1 : Int32).toInt) => ?_)
          rw [hc6] at e27
          refine k_goto 41 rfl rfl ?_
          exact k_fin rfl rfl ⟨_, _, _, _, rfl, I19, (fr1.tr (by decide) (fr1.up (by decide) (fr1.up (by decide) fr1.rf)) k21), (fr2.tr (by decide) fr2.rf k22), ⟨p5.fr k22 (by decide), p6.fr k22 (by decide), p20d 2 (by decide), fun q hq => p20c q (Or.inr hq)⟩⟩
      · refine k_c1 27 rfl rfl (if_neg b14) ?_
        have b14 := mt iv_eq0.mpr b14
        refine k_push 28 rfl rfl ?_
        refine k_fin rfl (fin_Z (Or.inl rfl)) ⟨_, _, rfl, rf_len I3 I11, ?_⟩
        show am_Ok _ _ _ (18, _, [.inl (0 : Int32)], _, 0, 0) _
        refine k_c1 21 rfl rfl (if_pos (by decide)) ?_
        refine k_push 22 rfl rfl ?_
        exact k_fin rfl rfl ⟨_, _, _, _, rfl, I11, (fr1.up (by decide) (fr1.up (by decide) fr1.rf)), fr2.rf, show wr A0 ∧ wq A0 ∧ (A0 2) 2 = A0 2 2 ∧ (∀ q : Int, 2600 ≤ q → (A0 1) q = A0 1 q) from ⟨p5, p6, rfl, fun q _ => rfl⟩⟩
    · refine k_c1 16 rfl rfl (if_neg b9) ?_
      have b9 := mt iv_eq0.mpr b9
      refine k_aload 17 rfl rfl rfl ?_
      refine r_gI I3 20 rfl rfl rfl (fun x28 (e29 : x28.toInt = (0 : Int32).toInt) => ?_)
      by_cases b30 : x28 = 0
      · refine k_c1 23 rfl rfl (if_pos b30) ?_
        have b30 := iv_eq0.mp b30
        refine k_push 24 rfl rfl ?_
        refine k_goto 28 rfl rfl ?_
        refine k_fin rfl (fin_Z (Or.inr rfl)) ⟨_, _, rfl, rf_len I3 I3, ?_⟩
        show am_Ok _ _ _ (18, _, [.inl (1 : Int32)], _, 0, 0) _
        refine k_c1 23 rfl rfl (if_neg (by decide)) ?_
        refine k_aload 24 rfl rfl rfl ?_
        refine k_iload 25 rfl rfl rfl ?_
        refine k_rq I3 rfl (m_goesPlain (gt := gt) I3.1 (show (A0 2) 2 = (gt) ∧ 1 ≤ (gt) ∧ (gt) ≤ 120 from p7) (show wf ((A0 1)) 2600 (gt) from p8) (show cb ((A0 1)) 2600 (gt) 200 from p9) (show w1.toInt ≤ 200 by omega)) rfl rfl rfl I3.rc ?_
        rintro x31 h32 F33 A34 I35 ⟨k37, k38, p36⟩
        replace p36 : (x31.toInt = 0 ∨ x31.toInt = 1) ∧ (x31.toInt = 1 → ∃ n' : Nat, n' ≤ 1000 ∧ A34 2 1 = n' ∧ wf (A34 1) 1300 n') ∧ (∀ q : Int, (q < 1300 ∨ 2600 ≤ q) → A34 1 q = (A0 1) q) ∧ (∀ q : Int, q ≠ 1 → A34 2 q = (A0 2) q) := p36
        obtain ⟨p36a, p36b, p36c, p36d⟩ := p36
        have z39 := iv_01 (x := x31) p36a
        show am_Ok _ _ _ (28, _, [.inl x31], _, 0, 0) _
        clear p36b
        by_cases b40 : x31 = 0
        · refine k_c1 40 rfl rfl (if_pos b40) ?_
          have b40 := iv_eq0.mp b40
          refine k_push 41 rfl rfl ?_
          have hc41 : (-1 : Int32).toInt = -1 := by decide
          exact k_fin rfl rfl ⟨_, _, _, _, rfl, I35, (fr1.tr (by decide) (fr1.up (by decide) fr1.rf) k37), (fr2.tr (by decide) fr2.rf k38), ⟨p5.fr k38 (by decide), p6.fr k38 (by decide), p36d 2 (by decide), fun q hq => p36c q (Or.inr hq)⟩⟩
        · refine k_c1 31 rfl rfl (if_neg b40) ?_
          have b40 := mt iv_eq0.mpr b40
          refine k_aload 32 rfl rfl rfl ?_
          refine r_gA I35 35 rfl rfl rfl ?_
          refine k_push 36 rfl rfl ?_
          refine r_ld 2 I35 37 rfl rfl (by omega) (show (1 : Int32).toInt < 3 by omega) rfl (fun x42 (e43 : x42.toInt = A34 2 (1 : Int32).toInt) => ?_)
          rw [hc6] at e43
          refine k_goto 41 rfl rfl ?_
          exact k_fin rfl rfl ⟨_, _, _, _, rfl, I35, (fr1.tr (by decide) (fr1.up (by decide) fr1.rf) k37), (fr2.tr (by decide) fr2.rf k38), ⟨p5.fr k38 (by decide), p6.fr k38 (by decide), p36d 2 (by decide), fun q hq => p36c q (Or.inr hq)⟩⟩
      · refine k_c1 27 rfl rfl (if_neg b30) ?_
        have b30 := mt iv_eq0.mpr b30
        refine k_push 28 rfl rfl ?_
        refine k_fin rfl (fin_Z (Or.inl rfl)) ⟨_, _, rfl, rf_len I3 I3, ?_⟩
        show am_Ok _ _ _ (18, _, [.inl (0 : Int32)], _, 0, 0) _
        refine k_c1 21 rfl rfl (if_pos (by decide)) ?_
        refine k_push 22 rfl rfl ?_
        exact k_fin rfl rfl ⟨_, _, _, _, rfl, I3, (fr1.up (by decide) fr1.rf), fr2.rf, show wr A0 ∧ wq A0 ∧ (A0 2) 2 = A0 2 2 ∧ (∀ q : Int, 2600 ≤ q → (A0 1) q = A0 1 q) from ⟨p5, p6, rfl, fun q _ => rfl⟩⟩
  · refine k_c2 5 rfl rfl (if_neg b5) ?_
    have b5 := mt iv_lt.mpr b5
    refine k_iload 6 rfl rfl rfl ?_
    refine k_iload 7 rfl rfl rfl ?_
    by_cases b44 : (200 : Int32) < w1
    · refine k_c2 14 rfl rfl (if_pos b44) ?_
      have b44 := iv_lt.mp b44
      refine k_push 15 rfl rfl ?_
      refine k_fin rfl (fin_Z (Or.inl rfl)) ⟨_, _, rfl, rf_len I3 I3, ?_⟩
      show am_Ok _ _ _ (14, _, [.inl (0 : Int32), .inr (.inr (some 81))], _, 0, 0) _
      refine k_push 15 rfl rfl ?_
      have hc45 : (1 : Int32).toInt = 1 := by decide
      refine k_in (d := 0) rfl rfl rfl rfl I3.rc ?_
      refine k_aload 1 rfl rfl rfl ?_
      refine r_gI I3 4 rfl rfl rfl (fun x46 (e47 : x46.toInt = (0 : Int32).toInt) => ?_)
      by_cases b48 : x46 = 0
      · refine k_c1 7 rfl rfl (if_pos b48) ?_
        have b48 := iv_eq0.mp b48
        refine k_iload 8 rfl rfl rfl ?_
        refine k_c1 11 rfl rfl (if_pos (by decide)) ?_
        refine k_aload 12 rfl rfl rfl ?_
        refine k_iload 13 rfl rfl rfl ?_
        refine r_pI I3 16 rfl rfl rfl (fun h49 I50 => ?_)
        refine k_aload 17 rfl rfl rfl ?_
        refine r_gI I50 20 rfl rfl rfl (fun x51 (e52 : x51.toInt = (1 : Int32).toInt) => ?_)
        by_cases b53 : x51 = 0
        · refine k_c1 23 rfl rfl (if_pos b53) ?_
          have b53 := iv_eq0.mp b53
          refine k_push 24 rfl rfl ?_
          refine k_goto 28 rfl rfl ?_
          refine k_fin rfl (fin_Z (Or.inr rfl)) ⟨_, _, rfl, rf_len I3 I50, ?_⟩
          show am_Ok _ _ _ (18, _, [.inl (1 : Int32)], _, 0, 0) _
          refine k_c1 23 rfl rfl (if_neg (by decide)) ?_
          refine k_aload 24 rfl rfl rfl ?_
          refine k_iload 25 rfl rfl rfl ?_
          refine k_rq I50 rfl (m_goesPlain (gt := gt) I50.1 (show (A0 2) 2 = (gt) ∧ 1 ≤ (gt) ∧ (gt) ≤ 120 from p7) (show wf ((A0 1)) 2600 (gt) from p8) (show cb ((A0 1)) 2600 (gt) 200 from p9) (show w1.toInt ≤ 200 by omega)) rfl rfl rfl I50.rc ?_
          rintro x54 h55 F56 A57 I58 ⟨k60, k61, p59⟩
          replace p59 : (x54.toInt = 0 ∨ x54.toInt = 1) ∧ (x54.toInt = 1 → ∃ n' : Nat, n' ≤ 1000 ∧ A57 2 1 = n' ∧ wf (A57 1) 1300 n') ∧ (∀ q : Int, (q < 1300 ∨ 2600 ≤ q) → A57 1 q = (A0 1) q) ∧ (∀ q : Int, q ≠ 1 → A57 2 q = (A0 2) q) := p59
          obtain ⟨p59a, p59b, p59c, p59d⟩ := p59
          have z62 := iv_01 (x := x54) p59a
          show am_Ok _ _ _ (28, _, [.inl x54], _, 0, 0) _
          clear p59b
          by_cases b63 : x54 = 0
          · refine k_c1 40 rfl rfl (if_pos b63) ?_
            have b63 := iv_eq0.mp b63
            refine k_push 41 rfl rfl ?_
            have hc64 : (-1 : Int32).toInt = -1 := by decide
            exact k_fin rfl rfl ⟨_, _, _, _, rfl, I58, (fr1.tr (by decide) (fr1.up (by decide) (fr1.up (by decide) fr1.rf)) k60), (fr2.tr (by decide) fr2.rf k61), ⟨p5.fr k61 (by decide), p6.fr k61 (by decide), p59d 2 (by decide), fun q hq => p59c q (Or.inr hq)⟩⟩
          · refine k_c1 31 rfl rfl (if_neg b63) ?_
            have b63 := mt iv_eq0.mpr b63
            refine k_aload 32 rfl rfl rfl ?_
            refine r_gA I58 35 rfl rfl rfl ?_
            refine k_push 36 rfl rfl ?_
            refine r_ld 2 I58 37 rfl rfl (by omega) (show (1 : Int32).toInt < 3 by omega) rfl (fun x65 (e66 : x65.toInt = A57 2 (1 : Int32).toInt) => ?_)
            rw [hc45] at e66
            refine k_goto 41 rfl rfl ?_
            exact k_fin rfl rfl ⟨_, _, _, _, rfl, I58, (fr1.tr (by decide) (fr1.up (by decide) (fr1.up (by decide) fr1.rf)) k60), (fr2.tr (by decide) fr2.rf k61), ⟨p5.fr k61 (by decide), p6.fr k61 (by decide), p59d 2 (by decide), fun q hq => p59c q (Or.inr hq)⟩⟩
        · refine k_c1 27 rfl rfl (if_neg b53) ?_
          have b53 := mt iv_eq0.mpr b53
          refine k_push 28 rfl rfl ?_
          refine k_fin rfl (fin_Z (Or.inl rfl)) ⟨_, _, rfl, rf_len I3 I50, ?_⟩
          show am_Ok _ _ _ (18, _, [.inl (0 : Int32)], _, 0, 0) _
          refine k_c1 21 rfl rfl (if_pos (by decide)) ?_
          refine k_push 22 rfl rfl ?_
          exact k_fin rfl rfl ⟨_, _, _, _, rfl, I50, (fr1.up (by decide) (fr1.up (by decide) fr1.rf)), fr2.rf, show wr A0 ∧ wq A0 ∧ (A0 2) 2 = A0 2 2 ∧ (∀ q : Int, 2600 ≤ q → (A0 1) q = A0 1 q) from ⟨p5, p6, rfl, fun q _ => rfl⟩⟩
      · refine k_c1 16 rfl rfl (if_neg b48) ?_
        have b48 := mt iv_eq0.mpr b48
        refine k_aload 17 rfl rfl rfl ?_
        refine r_gI I3 20 rfl rfl rfl (fun x67 (e68 : x67.toInt = (0 : Int32).toInt) => ?_)
        by_cases b69 : x67 = 0
        · refine k_c1 23 rfl rfl (if_pos b69) ?_
          have b69 := iv_eq0.mp b69
          refine k_push 24 rfl rfl ?_
          refine k_goto 28 rfl rfl ?_
          refine k_fin rfl (fin_Z (Or.inr rfl)) ⟨_, _, rfl, rf_len I3 I3, ?_⟩
          show am_Ok _ _ _ (18, _, [.inl (1 : Int32)], _, 0, 0) _
          refine k_c1 23 rfl rfl (if_neg (by decide)) ?_
          refine k_aload 24 rfl rfl rfl ?_
          refine k_iload 25 rfl rfl rfl ?_
          refine k_rq I3 rfl (m_goesPlain (gt := gt) I3.1 (show (A0 2) 2 = (gt) ∧ 1 ≤ (gt) ∧ (gt) ≤ 120 from p7) (show wf ((A0 1)) 2600 (gt) from p8) (show cb ((A0 1)) 2600 (gt) 200 from p9) (show w1.toInt ≤ 200 by omega)) rfl rfl rfl I3.rc ?_
          rintro x70 h71 F72 A73 I74 ⟨k76, k77, p75⟩
          replace p75 : (x70.toInt = 0 ∨ x70.toInt = 1) ∧ (x70.toInt = 1 → ∃ n' : Nat, n' ≤ 1000 ∧ A73 2 1 = n' ∧ wf (A73 1) 1300 n') ∧ (∀ q : Int, (q < 1300 ∨ 2600 ≤ q) → A73 1 q = (A0 1) q) ∧ (∀ q : Int, q ≠ 1 → A73 2 q = (A0 2) q) := p75
          obtain ⟨p75a, p75b, p75c, p75d⟩ := p75
          have z78 := iv_01 (x := x70) p75a
          show am_Ok _ _ _ (28, _, [.inl x70], _, 0, 0) _
          clear p75b
          by_cases b79 : x70 = 0
          · refine k_c1 40 rfl rfl (if_pos b79) ?_
            have b79 := iv_eq0.mp b79
            refine k_push 41 rfl rfl ?_
            have hc80 : (-1 : Int32).toInt = -1 := by decide
            exact k_fin rfl rfl ⟨_, _, _, _, rfl, I74, (fr1.tr (by decide) (fr1.up (by decide) fr1.rf) k76), (fr2.tr (by decide) fr2.rf k77), ⟨p5.fr k77 (by decide), p6.fr k77 (by decide), p75d 2 (by decide), fun q hq => p75c q (Or.inr hq)⟩⟩
          · refine k_c1 31 rfl rfl (if_neg b79) ?_
            have b79 := mt iv_eq0.mpr b79
            refine k_aload 32 rfl rfl rfl ?_
            refine r_gA I74 35 rfl rfl rfl ?_
            refine k_push 36 rfl rfl ?_
            refine r_ld 2 I74 37 rfl rfl (by omega) (show (1 : Int32).toInt < 3 by omega) rfl (fun x81 (e82 : x81.toInt = A73 2 (1 : Int32).toInt) => ?_)
            rw [hc45] at e82
            refine k_goto 41 rfl rfl ?_
            exact k_fin rfl rfl ⟨_, _, _, _, rfl, I74, (fr1.tr (by decide) (fr1.up (by decide) fr1.rf) k76), (fr2.tr (by decide) fr2.rf k77), ⟨p5.fr k77 (by decide), p6.fr k77 (by decide), p75d 2 (by decide), fun q hq => p75c q (Or.inr hq)⟩⟩
        · refine k_c1 27 rfl rfl (if_neg b69) ?_
          have b69 := mt iv_eq0.mpr b69
          refine k_push 28 rfl rfl ?_
          refine k_fin rfl (fin_Z (Or.inl rfl)) ⟨_, _, rfl, rf_len I3 I3, ?_⟩
          show am_Ok _ _ _ (18, _, [.inl (0 : Int32)], _, 0, 0) _
          refine k_c1 21 rfl rfl (if_pos (by decide)) ?_
          refine k_push 22 rfl rfl ?_
          exact k_fin rfl rfl ⟨_, _, _, _, rfl, I3, (fr1.up (by decide) fr1.rf), fr2.rf, show wr A0 ∧ wq A0 ∧ (A0 2) 2 = A0 2 2 ∧ (∀ q : Int, 2600 ≤ q → (A0 1) q = A0 1 q) from ⟨p5, p6, rfl, fun q _ => rfl⟩⟩
    · refine k_c2 10 rfl rfl (if_neg b44) ?_
      have b44 := mt iv_lt.mpr b44
      refine k_push 11 rfl rfl ?_
      have hc83 : (1 : Int32).toInt = 1 := by decide
      refine k_goto 15 rfl rfl ?_
      refine k_fin rfl (fin_Z (Or.inr rfl)) ⟨_, _, rfl, rf_len I3 I3, ?_⟩
      show am_Ok _ _ _ (14, _, [.inl (1 : Int32), .inr (.inr (some 81))], _, 0, 0) _
      refine k_push 15 rfl rfl ?_
      refine k_in (d := 0) rfl rfl rfl rfl I3.rc ?_
      refine k_aload 1 rfl rfl rfl ?_
      refine r_gI I3 4 rfl rfl rfl (fun x84 (e85 : x84.toInt = (0 : Int32).toInt) => ?_)
      by_cases b86 : x84 = 0
      · refine k_c1 7 rfl rfl (if_pos b86) ?_
        have b86 := iv_eq0.mp b86
        refine k_iload 8 rfl rfl rfl ?_
        refine k_c1 16 rfl rfl (if_neg (by decide)) ?_
        refine k_aload 17 rfl rfl rfl ?_
        refine r_gI I3 20 rfl rfl rfl (fun x87 (e88 : x87.toInt = (0 : Int32).toInt) => ?_)
        by_cases b89 : x87 = 0
        · refine k_c1 23 rfl rfl (if_pos b89) ?_
          have b89 := iv_eq0.mp b89
          refine k_push 24 rfl rfl ?_
          refine k_goto 28 rfl rfl ?_
          refine k_fin rfl (fin_Z (Or.inr rfl)) ⟨_, _, rfl, rf_len I3 I3, ?_⟩
          show am_Ok _ _ _ (18, _, [.inl (1 : Int32)], _, 0, 0) _
          refine k_c1 23 rfl rfl (if_neg (by decide)) ?_
          refine k_aload 24 rfl rfl rfl ?_
          refine k_iload 25 rfl rfl rfl ?_
          refine k_rq I3 rfl (m_goesPlain (gt := gt) I3.1 (show (A0 2) 2 = (gt) ∧ 1 ≤ (gt) ∧ (gt) ≤ 120 from p7) (show wf ((A0 1)) 2600 (gt) from p8) (show cb ((A0 1)) 2600 (gt) 200 from p9) (show w1.toInt ≤ 200 by omega)) rfl rfl rfl I3.rc ?_
          rintro x90 h91 F92 A93 I94 ⟨k96, k97, p95⟩
          replace p95 : (x90.toInt = 0 ∨ x90.toInt = 1) ∧ (x90.toInt = 1 → ∃ n' : Nat, n' ≤ 1000 ∧ A93 2 1 = n' ∧ wf (A93 1) 1300 n') ∧ (∀ q : Int, (q < 1300 ∨ 2600 ≤ q) → A93 1 q = (A0 1) q) ∧ (∀ q : Int, q ≠ 1 → A93 2 q = (A0 2) q) := p95
          obtain ⟨p95a, p95b, p95c, p95d⟩ := p95
          have z98 := iv_01 (x := x90) p95a
          show am_Ok _ _ _ (28, _, [.inl x90], _, 0, 0) _
          clear p95b
          by_cases b99 : x90 = 0
          · refine k_c1 40 rfl rfl (if_pos b99) ?_
            have b99 := iv_eq0.mp b99
            refine k_push 41 rfl rfl ?_
            have hc100 : (-1 : Int32).toInt = -1 := by decide
            exact k_fin rfl rfl ⟨_, _, _, _, rfl, I94, (fr1.tr (by decide) (fr1.up (by decide) fr1.rf) k96), (fr2.tr (by decide) fr2.rf k97), ⟨p5.fr k97 (by decide), p6.fr k97 (by decide), p95d 2 (by decide), fun q hq => p95c q (Or.inr hq)⟩⟩
          · refine k_c1 31 rfl rfl (if_neg b99) ?_
            have b99 := mt iv_eq0.mpr b99
            refine k_aload 32 rfl rfl rfl ?_
            refine r_gA I94 35 rfl rfl rfl ?_
            refine k_push 36 rfl rfl ?_
            refine r_ld 2 I94 37 rfl rfl (by omega) (show (1 : Int32).toInt < 3 by omega) rfl (fun x101 (e102 : x101.toInt = A93 2 (1 : Int32).toInt) => ?_)
            rw [hc83] at e102
            refine k_goto 41 rfl rfl ?_
            exact k_fin rfl rfl ⟨_, _, _, _, rfl, I94, (fr1.tr (by decide) (fr1.up (by decide) fr1.rf) k96), (fr2.tr (by decide) fr2.rf k97), ⟨p5.fr k97 (by decide), p6.fr k97 (by decide), p95d 2 (by decide), fun q hq => p95c q (Or.inr hq)⟩⟩
        · refine k_c1 27 rfl rfl (if_neg b89) ?_
          have b89 := mt iv_eq0.mpr b89
          refine k_push 28 rfl rfl ?_
          refine k_fin rfl (fin_Z (Or.inl rfl)) ⟨_, _, rfl, rf_len I3 I3, ?_⟩
          show am_Ok _ _ _ (18, _, [.inl (0 : Int32)], _, 0, 0) _
          refine k_c1 21 rfl rfl (if_pos (by decide)) ?_
          refine k_push 22 rfl rfl ?_
          exact k_fin rfl rfl ⟨_, _, _, _, rfl, I3, (fr1.up (by decide) fr1.rf), fr2.rf, show wr A0 ∧ wq A0 ∧ (A0 2) 2 = A0 2 2 ∧ (∀ q : Int, 2600 ≤ q → (A0 1) q = A0 1 q) from ⟨p5, p6, rfl, fun q _ => rfl⟩⟩
      · refine k_c1 16 rfl rfl (if_neg b86) ?_
        have b86 := mt iv_eq0.mpr b86
        refine k_aload 17 rfl rfl rfl ?_
        refine r_gI I3 20 rfl rfl rfl (fun x103 (e104 : x103.toInt = (0 : Int32).toInt) => ?_)
        by_cases b105 : x103 = 0
        · refine k_c1 23 rfl rfl (if_pos b105) ?_
          have b105 := iv_eq0.mp b105
          refine k_push 24 rfl rfl ?_
          refine k_goto 28 rfl rfl ?_
          refine k_fin rfl (fin_Z (Or.inr rfl)) ⟨_, _, rfl, rf_len I3 I3, ?_⟩
          show am_Ok _ _ _ (18, _, [.inl (1 : Int32)], _, 0, 0) _
          refine k_c1 23 rfl rfl (if_neg (by decide)) ?_
          refine k_aload 24 rfl rfl rfl ?_
          refine k_iload 25 rfl rfl rfl ?_
          refine k_rq I3 rfl (m_goesPlain (gt := gt) I3.1 (show (A0 2) 2 = (gt) ∧ 1 ≤ (gt) ∧ (gt) ≤ 120 from p7) (show wf ((A0 1)) 2600 (gt) from p8) (show cb ((A0 1)) 2600 (gt) 200 from p9) (show w1.toInt ≤ 200 by omega)) rfl rfl rfl I3.rc ?_
          rintro x106 h107 F108 A109 I110 ⟨k112, k113, p111⟩
          replace p111 : (x106.toInt = 0 ∨ x106.toInt = 1) ∧ (x106.toInt = 1 → ∃ n' : Nat, n' ≤ 1000 ∧ A109 2 1 = n' ∧ wf (A109 1) 1300 n') ∧ (∀ q : Int, (q < 1300 ∨ 2600 ≤ q) → A109 1 q = (A0 1) q) ∧ (∀ q : Int, q ≠ 1 → A109 2 q = (A0 2) q) := p111
          obtain ⟨p111a, p111b, p111c, p111d⟩ := p111
          have z114 := iv_01 (x := x106) p111a
          show am_Ok _ _ _ (28, _, [.inl x106], _, 0, 0) _
          clear p111b
          by_cases b115 : x106 = 0
          · refine k_c1 40 rfl rfl (if_pos b115) ?_
            have b115 := iv_eq0.mp b115
            refine k_push 41 rfl rfl ?_
            have hc116 : (-1 : Int32).toInt = -1 := by decide
            exact k_fin rfl rfl ⟨_, _, _, _, rfl, I110, (fr1.tr (by decide) (fr1.up (by decide) fr1.rf) k112), (fr2.tr (by decide) fr2.rf k113), ⟨p5.fr k113 (by decide), p6.fr k113 (by decide), p111d 2 (by decide), fun q hq => p111c q (Or.inr hq)⟩⟩
          · refine k_c1 31 rfl rfl (if_neg b115) ?_
            have b115 := mt iv_eq0.mpr b115
            refine k_aload 32 rfl rfl rfl ?_
            refine r_gA I110 35 rfl rfl rfl ?_
            refine k_push 36 rfl rfl ?_
            refine r_ld 2 I110 37 rfl rfl (by omega) (show (1 : Int32).toInt < 3 by omega) rfl (fun x117 (e118 : x117.toInt = A109 2 (1 : Int32).toInt) => ?_)
            rw [hc83] at e118
            refine k_goto 41 rfl rfl ?_
            exact k_fin rfl rfl ⟨_, _, _, _, rfl, I110, (fr1.tr (by decide) (fr1.up (by decide) fr1.rf) k112), (fr2.tr (by decide) fr2.rf k113), ⟨p5.fr k113 (by decide), p6.fr k113 (by decide), p111d 2 (by decide), fun q hq => p111c q (Or.inr hq)⟩⟩
        · refine k_c1 27 rfl rfl (if_neg b105) ?_
          have b105 := mt iv_eq0.mpr b105
          refine k_push 28 rfl rfl ?_
          refine k_fin rfl (fin_Z (Or.inl rfl)) ⟨_, _, rfl, rf_len I3 I3, ?_⟩
          show am_Ok _ _ _ (18, _, [.inl (0 : Int32)], _, 0, 0) _
          refine k_c1 21 rfl rfl (if_pos (by decide)) ?_
          refine k_push 22 rfl rfl ?_
          exact k_fin rfl rfl ⟨_, _, _, _, rfl, I3, (fr1.up (by decide) fr1.rf), fr2.rf, show wr A0 ∧ wq A0 ∧ (A0 2) 2 = A0 2 2 ∧ (∀ q : Int, 2600 ≤ q → (A0 1) q = A0 1 q) from ⟨p5, p6, rfl, fun q _ => rfl⟩⟩
end
