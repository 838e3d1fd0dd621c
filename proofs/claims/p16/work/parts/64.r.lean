section
theorem m_isNode {h0 : am_h} {F0 : rf_f} {A0 : rf_A} {w1 : Int32}  (hR : rf_R h0 F0 A0) (p1 : 1 ≤ F0 28 ∧ F0 28 ≤ 400) : am_Mt 2 189 [.inr (.inr (some 81)), .inl w1] h0 (rf_Q h0 (fun x F' A' => fr1 [] F0 F' ∧ fr2 [] A0 A' ∧ (x = 0 ∨ (x = 1 ∧ 0 ≤ w1.toInt ∧ w1.toInt < F0 28 ∧ A0 24 w1.toInt ≠ -1)))) := by
  refine am_Mt.of (D := 1) ?_
  have hI : rf_I h0 h0 F0 A0 := rf_I.start hR
  refine k_iload 1 rfl rfl rfl ?_
  refine k_push 2 rfl rfl ?_
  have hc1 : (0 : Int32).toInt = 0 := by decide
  refine k_aload 3 rfl rfl rfl ?_
  refine r_gI hI 6 rfl rfl rfl (fun x2 (e3 : x2.toInt = F0 28) => ?_)
  refine k_push 7 rfl rfl ?_
  have hc4 : (1 : Int32).toInt = 1 := by decide
  obtain ⟨x5, q6⟩ : ∃ q : Int32, q = (x2 - (1 : Int32)) := ⟨_, rfl⟩
  have e7 : x5.toInt = x2.toInt - 1 := by rw [q6, iv_sub (by omega) (by omega)]; omega
  refine k_bin x5 8 rfl q6.symm rfl ?_
  refine k_in (d := 0) rfl rfl rfl rfl rfl ?_
  refine k_iload 1 rfl rfl rfl ?_
  refine k_iload 2 rfl rfl rfl ?_
  by_cases b8 : w1 < (0 : Int32)
  · refine k_c2 14 rfl rfl (if_pos b8) ?_
    have b8 := iv_lt.mp b8
    refine k_push 15 rfl rfl ?_
    refine k_fin rfl (fin_Z (Or.inl rfl)) ⟨_, _, rfl, rf_len hI hI, ?_⟩
    show am_Ok _ _ _ (11, _, [.inl (0 : Int32)], _, 0, 0) _
    refine k_c1 28 rfl rfl (if_pos (by decide)) ?_
    refine k_push 29 rfl rfl ?_
    exact k_fin rfl (fin_Z (Or.inl rfl)) ⟨_, _, _, _, rfl, hI, fr1.rf, fr2.rf, show (0 : Int32).toInt = 0 ∨ ((0 : Int32).toInt = 1 ∧ 0 ≤ w1.toInt ∧ w1.toInt < F0 28 ∧ A0 24 w1.toInt ≠ -1) by omega⟩
  · refine k_c2 5 rfl rfl (if_neg b8) ?_
    have b8 := mt iv_lt.mpr b8
    refine k_iload 6 rfl rfl rfl ?_
    refine k_iload 7 rfl rfl rfl ?_
    by_cases b9 : x5 < w1
    · refine k_c2 14 rfl rfl (if_pos b9) ?_
      have b9 := iv_lt.mp b9
      refine k_push 15 rfl rfl ?_
      refine k_fin rfl (fin_Z (Or.inl rfl)) ⟨_, _, rfl, rf_len hI hI, ?_⟩
      show am_Ok _ _ _ (11, _, [.inl (0 : Int32)], _, 0, 0) _
      refine k_c1 28 rfl rfl (if_pos (by decide)) ?_
      refine k_push 29 rfl rfl ?_
      exact k_fin rfl (fin_Z (Or.inl rfl)) ⟨_, _, _, _, rfl, hI, fr1.rf, fr2.rf, show (0 : Int32).toInt = 0 ∨ ((0 : Int32).toInt = 1 ∧ 0 ≤ w1.toInt ∧ w1.toInt < F0 28 ∧ A0 24 w1.toInt ≠ -1) by omega⟩
    · refine k_c2 10 rfl rfl (if_neg b9) ?_
      have b9 := mt iv_lt.mpr b9
      refine k_push 11 rfl rfl ?_
      refine k_goto 15 rfl rfl ?_
      refine k_fin rfl (fin_Z (Or.inr rfl)) ⟨_, _, rfl, rf_len hI hI, ?_⟩
      show am_Ok _ _ _ (11, _, [.inl (1 : Int32)], _, 0, 0) _
      refine k_c1 14 rfl rfl (if_neg (by decide)) ?_
      refine k_aload 15 rfl rfl rfl ?_
      refine r_gA hI 18 rfl rfl rfl ?_
      refine k_iload 19 rfl rfl rfl ?_
      refine r_ld 24 hI 20 rfl rfl (by omega) (show w1.toInt < 8010 by omega) rfl (fun x10 (e11 : x10.toInt = A0 24 w1.toInt) => ?_)
      refine k_push 21 rfl rfl ?_
      have hc12 : (-1 : Int32).toInt = -1 := by decide
      by_cases b13 : x10 = (-1 : Int32)
      · refine k_c2 28 rfl rfl (if_pos b13) ?_
        have b13 := iv_eq.mp b13
        refine k_push 29 rfl rfl ?_
        exact k_fin rfl (fin_Z (Or.inl rfl)) ⟨_, _, _, _, rfl, hI, fr1.rf, fr2.rf, show (0 : Int32).toInt = 0 ∨ ((0 : Int32).toInt = 1 ∧ 0 ≤ w1.toInt ∧ w1.toInt < F0 28 ∧ A0 24 w1.toInt ≠ -1) by omega⟩
      · refine k_c2 24 rfl rfl (if_neg b13) ?_
        have b13 := mt iv_eq.mpr b13
        refine k_push 25 rfl rfl ?_
        refine k_goto 29 rfl rfl ?_
        exact k_fin rfl (fin_Z (Or.inr rfl)) ⟨_, _, _, _, rfl, hI, fr1.rf, fr2.rf, show (1 : Int32).toInt = 0 ∨ ((1 : Int32).toInt = 1 ∧ 0 ≤ w1.toInt ∧ w1.toInt < F0 28 ∧ A0 24 w1.toInt ≠ -1) by omega⟩
theorem act_lp {K L w lm : Int → Int} {b T j p v : Int} (h1 : nn K L b T) (h2 : nw K L w lm b) (hj : 0 ≤ j) (hb : j < b) (hK : K j ≠ -1) (he : p = 4 * j) (hv : v = w p) : lp K b v ∧ lp K b p := by
  have h3 := pr_le (K j)
  have h4 := lp.of (K := K) (b := b) (j := j) (q := 0) hj hb hK ⟨by omega, by omega⟩
  rw [show 4 * j + 0 = p by omega] at h4
  rw [hv]
  exact ⟨(h2.2 p h4).1, h4⟩
theorem m_isActive {h0 : am_h} {F0 : rf_f} {A0 : rf_A} {w1 : Int32} {lm : Int → Int} {gT : Int} (hR : rf_R h0 F0 A0) (p1 : nn (A0 24) (A0 25) (F0 28) gT) (p2 : nw (A0 24) (A0 25) (A0 26) lm (F0 28)) : am_Mt 3 204 [.inr (.inr (some 81)), .inl w1] h0 (rf_Q h0 (fun x F' A' => fr1 [] F0 F' ∧ fr2 [] A0 A' ∧ (x = 0 ∨ (x = 1 ∧ ∃ m, act (A0 24) (A0 26) (F0 28) w1.toInt m)))) := by
  refine am_Mt.of (D := 2) ?_
  have hI : rf_I h0 h0 F0 A0 := rf_I.start hR
  have hb1 := p1.1
  have hb2 := p1.2.1
  refine k_aload 1 rfl rfl rfl ?_
  refine k_iload 2 rfl rfl rfl ?_
  refine k_rq hI rfl (m_isNode  hI.1 (show 1 ≤ (F0 28) ∧ (F0 28) ≤ 400 by omega)) rfl rfl rfl hI.rc ?_
  rintro x1 h2 F3 A4 I5 ⟨k7, k8, p6⟩
  replace p6 : x1.toInt = 0 ∨ (x1.toInt = 1 ∧ 0 ≤ w1.toInt ∧ w1.toInt < (F0 28) ∧ (A0 24) w1.toInt ≠ -1) := p6
  have k7 := fr1.nil k7
  subst k7
  have k8 := fr2.nil k8
  subst k8
  have z9 := iv_01 (x := x1) (by omega)
  show am_Ok _ _ _ (5, _, [.inl x1], _, 0, 0) _
  by_cases b10 : x1 = 0
  · refine k_c1 52 rfl rfl (if_pos b10) ?_
    have b10 := iv_eq0.mp b10
    refine k_push 53 rfl rfl ?_
    have hc11 : (0 : Int32).toInt = 0 := by decide
    exact k_fin rfl (fin_Z (Or.inl rfl)) ⟨_, _, _, _, rfl, I5, fr1.rf, fr2.rf, show (0 : Int32).toInt = 0 ∨ ((0 : Int32).toInt = 1 ∧ ∃ m, act (A0 24) (A0 26) (F0 28) w1.toInt m) from (by first | exact Or.inl (by omega) | exact Or.inr ⟨by omega, act_of p1 p2 hf9 ht9 (by omega) (by omega) (by omega) (by rw [← hk9]; omega) (Or.inl (by omega))⟩)⟩
  · refine k_c1 8 rfl rfl (if_neg b10) ?_
    have b10 := mt iv_eq0.mpr b10
    refine k_aload 9 rfl rfl rfl ?_
    refine r_gA I5 12 rfl rfl rfl ?_
    refine k_iload 13 rfl rfl rfl ?_
    refine r_ld 24 I5 14 rfl rfl (by omega) (show w1.toInt < 8010 by omega) rfl (fun x12 (e13 : x12.toInt = A0 24 w1.toInt) => ?_)
    by_cases b14 : x12 = 0
    · refine k_c1 52 rfl rfl (if_pos b14) ?_
      have b14 := iv_eq0.mp b14
      refine k_push 53 rfl rfl ?_
      have hc15 : (0 : Int32).toInt = 0 := by decide
      exact k_fin rfl (fin_Z (Or.inl rfl)) ⟨_, _, _, _, rfl, I5, fr1.rf, fr2.rf, show (0 : Int32).toInt = 0 ∨ ((0 : Int32).toInt = 1 ∧ ∃ m, act (A0 24) (A0 26) (F0 28) w1.toInt m) from (by first | exact Or.inl (by omega) | exact Or.inr ⟨by omega, act_of p1 p2 hf9 ht9 (by omega) (by omega) (by omega) (by rw [← hk9]; omega) (Or.inl (by omega))⟩)⟩
    · refine k_c1 17 rfl rfl (if_neg b14) ?_
      have b14 := mt iv_eq0.mpr b14
      have hz9 : w1.toInt ≠ 0 := fun z => by have h8 := e13; rw [z] at h8; have := p1.2.2.1; omega
      refine k_aload 18 rfl rfl rfl ?_
      refine r_gA I5 21 rfl rfl rfl ?_
      refine k_push 22 rfl rfl ?_
      have hc16 : (4 : Int32).toInt = 4 := by decide
      refine k_iload 23 rfl rfl rfl ?_
      obtain ⟨x17, q18⟩ : ∃ q : Int32, q = ((4 : Int32) * w1) := ⟨_, rfl⟩
      have e19 : x17.toInt = 4 * w1.toInt := by rw [q18]; exact iv_mulc 4 (by decide) (by omega) (by omega)
      refine k_bin x17 24 rfl q18.symm rfl ?_
      refine r_ld 26 I5 25 rfl rfl (by omega) (show x17.toInt < 32040 by omega) rfl (fun x20 (e21 : x20.toInt = A0 26 x17.toInt) => ?_)
      rw [e19] at e21
      obtain ⟨⟨r1, r2, r3, r4⟩, hf9⟩ := act_lp p1 p2 (j := w1.toInt) (by omega) (by omega) (by omega) (by omega) e21
      refine k_push 26 rfl rfl ?_
      obtain ⟨x22, q23⟩ : ∃ q : Int32, q = (x20 - x20 / (4 : Int32) * (4 : Int32)) := ⟨_, rfl⟩
      have e24 : x22.toInt = x20.toInt % 4 := by rw [q23]; exact iv_rem 4 (by decide) (by decide) (by omega)
      refine k_divZ x22 27 rfl (by decide) q23.symm rfl ?_
      by_cases b25 : x22 = 0
      · refine k_c1 30 rfl rfl (if_pos b25) ?_
        have b25 := iv_eq0.mp b25
        refine k_aload 31 rfl rfl rfl ?_
        refine r_gA I5 34 rfl rfl rfl ?_
        refine k_aload 35 rfl rfl rfl ?_
        refine r_gA I5 38 rfl rfl rfl ?_
        refine k_push 39 rfl rfl ?_
        refine k_iload 40 rfl rfl rfl ?_
        obtain ⟨x26, q27⟩ : ∃ q : Int32, q = ((4 : Int32) * w1) := ⟨_, rfl⟩
        have e28 : x26.toInt = 4 * w1.toInt := by rw [q27]; exact iv_mulc 4 (by decide) (by omega) (by omega)
        refine k_bin x26 41 rfl q27.symm rfl ?_
        refine r_ld 26 I5 42 rfl rfl (by omega) (show x26.toInt < 32040 by omega) rfl (fun x29 (e30 : x29.toInt = A0 26 x26.toInt) => ?_)
        rw [e28] at e30
        have ht9 := e30
        obtain ⟨⟨r1, r2, r3, r4⟩, hf9⟩ := act_lp p1 p2 (j := w1.toInt) (by omega) (by omega) (by omega) (by omega) ht9
        refine k_push 43 rfl rfl ?_
        obtain ⟨x31, q32⟩ : ∃ q : Int32, q = (x29 / (4 : Int32)) := ⟨_, rfl⟩
        have e33 : x31.toInt = x29.toInt / 4 := by rw [q32]; exact iv_div 4 (by decide) (by decide) (by omega)
        refine k_divZ x31 44 rfl (by decide) q32.symm rfl ?_
        refine r_ld 24 I5 45 rfl rfl (by omega) (show x31.toInt < 8010 by omega) rfl (fun x34 (e35 : x34.toInt = A0 24 x31.toInt) => ?_)
        rw [e33] at e35
        by_cases b36 : x34 = 0
        · refine k_c1 52 rfl rfl (if_pos b36) ?_
          have b36 := iv_eq0.mp b36
          refine k_push 53 rfl rfl ?_
          have hc37 : (0 : Int32).toInt = 0 := by decide
          exact k_fin rfl (fin_Z (Or.inl rfl)) ⟨_, _, _, _, rfl, I5, fr1.rf, fr2.rf, show (0 : Int32).toInt = 0 ∨ ((0 : Int32).toInt = 1 ∧ ∃ m, act (A0 24) (A0 26) (F0 28) w1.toInt m) from (by first | exact Or.inl (by omega) | exact Or.inr ⟨by omega, act_of p1 p2 hf9 ht9 (by omega) (by omega) (by omega) (by rw [← hk9]; omega) (Or.inl (by omega))⟩)⟩
        · refine k_c1 48 rfl rfl (if_neg b36) ?_
          have b36 := mt iv_eq0.mpr b36
          have hk9 := e35
          refine k_push 49 rfl rfl ?_
          have hc38 : (1 : Int32).toInt = 1 := by decide
          refine k_goto 53 rfl rfl ?_
          exact k_fin rfl (fin_Z (Or.inr rfl)) ⟨_, _, _, _, rfl, I5, fr1.rf, fr2.rf, show (1 : Int32).toInt = 0 ∨ ((1 : Int32).toInt = 1 ∧ ∃ m, act (A0 24) (A0 26) (F0 28) w1.toInt m) from (by first | exact Or.inl (by omega) | exact Or.inr ⟨by omega, act_of p1 p2 hf9 ht9 (by omega) (by omega) (by omega) (by rw [← hk9]; omega) (Or.inl (by omega))⟩)⟩
      · refine k_c1 52 rfl rfl (if_neg b25) ?_
        have b25 := mt iv_eq0.mpr b25
        refine k_push 53 rfl rfl ?_
        have hc39 : (0 : Int32).toInt = 0 := by decide
        exact k_fin rfl (fin_Z (Or.inl rfl)) ⟨_, _, _, _, rfl, I5, fr1.rf, fr2.rf, show (0 : Int32).toInt = 0 ∨ ((0 : Int32).toInt = 1 ∧ ∃ m, act (A0 24) (A0 26) (F0 28) w1.toInt m) from (by first | exact Or.inl (by omega) | exact Or.inr ⟨by omega, act_of p1 p2 hf9 ht9 (by omega) (by omega) (by omega) (by rw [← hk9]; omega) (Or.inl (by omega))⟩)⟩
theorem m_isLesser {h0 : am_h} {F0 : rf_f} {A0 : rf_A} {w1 : Int32} {lm : Int → Int} {gT : Int} (hR : rf_R h0 F0 A0) (p1 : nn (A0 24) (A0 25) (F0 28) gT) (p2 : nw (A0 24) (A0 25) (A0 26) lm (F0 28)) : am_Mt 4 205 [.inr (.inr (some 81)), .inl w1] h0 (rf_Q h0 (fun x F' A' => fr1 [] F0 F' ∧ fr2 [] A0 A' ∧ (x = 0 ∨ (x = 1 ∧ ∃ m, act (A0 24) (A0 26) (F0 28) w1.toInt m)))) := by
  refine am_Mt.of (D := 3) ?_
  have hI : rf_I h0 h0 F0 A0 := rf_I.start hR
  have hb1 := p1.1
  have hb2 := p1.2.1
  refine k_aload 1 rfl rfl rfl ?_
  refine k_iload 2 rfl rfl rfl ?_
  refine k_rq hI rfl (m_isActive (lm := lm) (gT := gT) hI.1 (show nn ((A0 24)) ((A0 25)) ((F0 28)) (gT) from p1) (show nw ((A0 24)) ((A0 25)) ((A0 26)) (lm) ((F0 28)) from p2)) rfl rfl rfl hI.rc ?_
  rintro x1 h2 F3 A4 I5 ⟨k7, k8, p6⟩
  replace p6 : x1.toInt = 0 ∨ (x1.toInt = 1 ∧ ∃ m, act ((A0 24)) ((A0 26)) ((F0 28)) w1.toInt m) := p6
  have k7 := fr1.nil k7
  subst k7
  have k8 := fr2.nil k8
  subst k8
  have z9 := iv_01 (x := x1) (by rcases p6 with e | ⟨e, -⟩ <;> omega)
  show am_Ok _ _ _ (5, _, [.inl x1], _, 0, 0) _
  by_cases b10 : x1 = 0
  · refine k_c1 26 rfl rfl (if_pos b10) ?_
    have b10 := iv_eq0.mp b10
    refine k_push 27 rfl rfl ?_
    have hc11 : (0 : Int32).toInt = 0 := by decide
    exact k_fin rfl (fin_Z (Or.inl rfl)) ⟨_, _, _, _, rfl, I5, fr1.rf, fr2.rf, show (0 : Int32).toInt = 0 ∨ ((0 : Int32).toInt = 1 ∧ ∃ m, act (A0 24) (A0 26) (F0 28) w1.toInt m) from (by first | exact Or.inl (by omega) | exact Or.inr ⟨by omega, mm9, ha9⟩)⟩
  · refine k_c1 8 rfl rfl (if_neg b10) ?_
    have b10 := mt iv_eq0.mpr b10
    obtain ⟨mm9, ha9⟩ := (p6.resolve_left (fun z => by omega)).2
    have ha1 := ha9.1
    have ha2 := ha9.2.1
    have ha5 := ha9.2.2.2.2.1
    refine k_iload 9 rfl rfl rfl ?_
    refine k_aload 10 rfl rfl rfl ?_
    refine r_gA I5 13 rfl rfl rfl ?_
    refine k_push 14 rfl rfl ?_
    have hc12 : (4 : Int32).toInt = 4 := by decide
    refine k_iload 15 rfl rfl rfl ?_
    obtain ⟨x13, q14⟩ : ∃ q : Int32, q = ((4 : Int32) * w1) := ⟨_, rfl⟩
    have e15 : x13.toInt = 4 * w1.toInt := by rw [q14]; exact iv_mulc 4 (by decide) (by omega) (by omega)
    refine k_bin x13 16 rfl q14.symm rfl ?_
    refine r_ld 26 I5 17 rfl rfl (by omega) (show x13.toInt < 32040 by omega) rfl (fun x16 (e17 : x16.toInt = A0 26 x13.toInt) => ?_)
    rw [e15] at e17
    obtain ⟨⟨r1, r2, r3, r4⟩, hf9⟩ := act_lp p1 p2 (j := w1.toInt) (by omega) (by omega) (by omega) (by omega) e17
    refine k_push 18 rfl rfl ?_
    obtain ⟨x18, q19⟩ : ∃ q : Int32, q = (x16 / (4 : Int32)) := ⟨_, rfl⟩
    have e20 : x18.toInt = x16.toInt / 4 := by rw [q19]; exact iv_div 4 (by decide) (by decide) (by omega)
    refine k_divZ x18 19 rfl (by decide) q19.symm rfl ?_
    by_cases b21 : x18 ≤ w1
    · refine k_c2 26 rfl rfl (if_pos b21) ?_
      have b21 := iv_le.mp b21
      refine k_push 27 rfl rfl ?_
      have hc22 : (0 : Int32).toInt = 0 := by decide
      exact k_fin rfl (fin_Z (Or.inl rfl)) ⟨_, _, _, _, rfl, I5, fr1.rf, fr2.rf, show (0 : Int32).toInt = 0 ∨ ((0 : Int32).toInt = 1 ∧ ∃ m, act (A0 24) (A0 26) (F0 28) w1.toInt m) from (by first | exact Or.inl (by omega) | exact Or.inr ⟨by omega, mm9, ha9⟩)⟩
    · refine k_c2 22 rfl rfl (if_neg b21) ?_
      have b21 := mt iv_le.mpr b21
      refine k_push 23 rfl rfl ?_
      have hc23 : (1 : Int32).toInt = 1 := by decide
      refine k_goto 27 rfl rfl ?_
      exact k_fin rfl (fin_Z (Or.inr rfl)) ⟨_, _, _, _, rfl, I5, fr1.rf, fr2.rf, show (1 : Int32).toInt = 0 ∨ ((1 : Int32).toInt = 1 ∧ ∃ m, act (A0 24) (A0 26) (F0 28) w1.toInt m) from (by first | exact Or.inl (by omega) | exact Or.inr ⟨by omega, mm9, ha9⟩)⟩
theorem b_X10_activeMany_4 {h0 : am_h} {F0 : rf_f} {A0 : rf_A} {lm : Int → Int} {gT : Int} (p1 : nn (A0 24) (A0 25) (F0 28) gT) (p2 : nw (A0 24) (A0 25) (A0 26) lm (F0 28)) : ∀ (n : Nat) {lv : am_l} {h : am_h} {F : rf_f} {A : rf_A} {v1 : Int32} {v2 : Int32}, ((F0 28 - v2.toInt).toNat) = n → am_get lv 0 = some (.inr (.inr (some 81))) → am_get lv 1 = some (.inl v1) → am_get lv 2 = some (.inl v2) → rf_I h0 h F A → fr1 [] F0 F → fr2 [] A0 A → (0 ≤ v1.toInt ∧ v1.toInt ≤ v2.toInt) → (v2.toInt ≤ F0 28) → am_Ok am_G 4 206 (4, lv, [], h, 0, 0) (rf_Q h0 (fun x F' A' => fr1 [] F0 F' ∧ fr2 [] A0 A' ∧ (0 ≤ x ∧ x ≤ F0 28))) := by
  intro n
  induction n using Nat.strongRecOn with
  | ind n ih =>
    intro lv h F A v1 v2 hn g0 g1 g2 hI hF hA i1 i2
    have hb1 := p1.1
    have hb2 := p1.2.1
    refine k_iload 5 rfl g2 rfl ?_
    refine k_aload 6 rfl g0 rfl ?_
    refine r_gI hI 9 rfl rfl rfl (fun x1 (e2 : x1.toInt = F 28) => ?_)
    have e3 : F 28 = F0 28 := hF 28 (by decide)
    by_cases b4 : x1 ≤ v2
    · refine k_c2 34 rfl rfl (if_pos b4) ?_
      have b4 := iv_le.mp b4
      refine k_iload 35 rfl g1 rfl ?_
      exact k_fin rfl rfl ⟨_, _, _, _, rfl, hI, hF, hA, show 0 ≤ v1.toInt ∧ v1.toInt ≤ F0 28 by omega⟩
    · refine k_c2 12 rfl rfl (if_neg b4) ?_
      have b4 := mt iv_le.mpr b4
      refine k_iload 13 rfl g1 rfl ?_
      refine k_aload 14 rfl g0 rfl ?_
      refine k_iload 15 rfl g2 rfl ?_
      refine k_rq hI rfl (m_isLesser (lm := lm) (gT := gT) hI.1 (show nn ((A 24)) ((A 25)) ((F 28)) (gT) by rw [hA 24 (by decide), hA 25 (by decide), hF 28 (by decide)]; exact p1) (show nw ((A 24)) ((A 25)) ((A 26)) (lm) ((F 28)) by rw [hA 24 (by decide), hA 25 (by decide), hA 26 (by decide), hF 28 (by decide)]; exact p2)) rfl rfl rfl hI.rc ?_
      rintro x5 h6 F7 A8 I9 ⟨k11, k12, p10⟩
      replace p10 : x5.toInt = 0 ∨ (x5.toInt = 1 ∧ ∃ m, act ((A 24)) ((A 26)) ((F 28)) v2.toInt m) := p10
      have k11 := fr1.nil k11
      subst k11
      have k12 := fr2.nil k12
      subst k12
      have z13 := iv_01 (x := x5) (by rcases p10 with e | ⟨e, -⟩ <;> omega)
      show am_Ok _ _ _ (18, _, [.inl x5, .inl v1], _, 0, 0) _
      by_cases b14 : x5 = 0
      · refine k_c1 25 rfl rfl (if_pos b14) ?_
        have b14 := iv_eq0.mp b14
        refine k_push 26 rfl rfl ?_
        have hc15 : (0 : Int32).toInt = 0 := by decide
        obtain ⟨x16, q17⟩ : ∃ q : Int32, q = (v1 + (0 : Int32)) := ⟨_, rfl⟩
        have e18 : x16.toInt = v1.toInt + 0 := by rw [q17, iv_add (by omega) (by omega)]; omega
        refine k_bin x16 27 rfl q17.symm rfl ?_
        refine k_istore 28 rfl rfl ?_
        have hc19 : (1 : Int32).toInt = 1 := by decide
        obtain ⟨x20, q21⟩ : ∃ q : Int32, q = v2 + (1 : Int32) := ⟨_, rfl⟩
        have e22 : x20.toInt = v2.toInt + 1 := by rw [q21, iv_add (by omega) (by omega)]; omega
        refine k_iinc x20 31 rfl (gs_ne rfl rfl g2) q21.symm rfl ?_
        refine k_goto 4 rfl rfl ?_
        exact ih _ (show ((F0 28 - x20.toInt).toNat) < n by omega)  rfl (gs_ne rfl rfl (gs_ne rfl rfl g0)) (gs_ne rfl rfl gs_eq) gs_eq I9 hF hA (show 0 ≤ x16.toInt ∧ x16.toInt ≤ x20.toInt by omega) (show x20.toInt ≤ F0 28 by omega)
      · refine k_c1 21 rfl rfl (if_neg b14) ?_
        have b14 := mt iv_eq0.mpr b14
        refine k_push 22 rfl rfl ?_
        have hc23 : (1 : Int32).toInt = 1 := by decide
        refine k_goto 26 rfl rfl ?_
        obtain ⟨x24, q25⟩ : ∃ q : Int32, q = (v1 + (1 : Int32)) := ⟨_, rfl⟩
        have e26 : x24.toInt = v1.toInt + 1 := by rw [q25, iv_add (by omega) (by omega)]; omega
        refine k_bin x24 27 rfl q25.symm rfl ?_
        refine k_istore 28 rfl rfl ?_
        obtain ⟨x27, q28⟩ : ∃ q : Int32, q = v2 + (1 : Int32) := ⟨_, rfl⟩
        have e29 : x27.toInt = v2.toInt + 1 := by rw [q28, iv_add (by omega) (by omega)]; omega
        refine k_iinc x27 31 rfl (gs_ne rfl rfl g2) q28.symm rfl ?_
        refine k_goto 4 rfl rfl ?_
        exact ih _ (show ((F0 28 - x27.toInt).toNat) < n by omega)  rfl (gs_ne rfl rfl (gs_ne rfl rfl g0)) (gs_ne rfl rfl gs_eq) gs_eq I9 hF hA (show 0 ≤ x24.toInt ∧ x24.toInt ≤ x27.toInt by omega) (show x27.toInt ≤ F0 28 by omega)
theorem m_activeMany {h0 : am_h} {F0 : rf_f} {A0 : rf_A} {lm : Int → Int} {gT : Int} (hR : rf_R h0 F0 A0) (p1 : nn (A0 24) (A0 25) (F0 28) gT) (p2 : nw (A0 24) (A0 25) (A0 26) lm (F0 28)) : am_Mt 5 206 [.inr (.inr (some 81))] h0 (rf_Q h0 (fun x F' A' => fr1 [] F0 F' ∧ fr2 [] A0 A' ∧ (0 ≤ x ∧ x ≤ F0 28))) := by
  refine am_Mt.of (D := 4) ?_
  have hI : rf_I h0 h0 F0 A0 := rf_I.start hR
  have hb1 := p1.1
  have hb2 := p1.2.1
  refine k_push 1 rfl rfl ?_
  have hc30 : (0 : Int32).toInt = 0 := by decide
  refine k_istore 2 rfl rfl ?_
  refine k_push 3 rfl rfl ?_
  refine k_istore 4 rfl rfl ?_
  exact b_X10_activeMany_4 (lm := lm) (gT := gT)  p1 p2 _  rfl (gs_ne rfl rfl (gs_ne rfl rfl rfl)) (gs_ne rfl rfl gs_eq) gs_eq hI fr1.rf fr2.rf (show 0 ≤ (0 : Int32).toInt ∧ (0 : Int32).toInt ≤ (0 : Int32).toInt by omega) (show (0 : Int32).toInt ≤ F0 28 by omega)
theorem b_X10_chosen_17 {h0 : am_h} {F0 : rf_f} {A0 : rf_A} {w1 : Int32} {lm : Int → Int} {gT : Int} (p1 : nn (A0 24) (A0 25) (F0 28) gT) (p2 : nw (A0 24) (A0 25) (A0 26) lm (F0 28)) (p5 : wr A0) (p6 : wq A0) : ∀ (n : Nat) {lv : am_l} {h : am_h} {F : rf_f} {A : rf_A} {v1 : Int32} {v2 : Int32} {v3 : Int32}, ((F0 28 - v3.toInt).toNat) = n → am_get lv 0 = some (.inr (.inr (some 81))) → am_get lv 1 = some (.inl v1) → am_get lv 2 = some (.inl v2) → am_get lv 3 = some (.inl v3) → rf_I h0 h F A → fr1 [59, 55, 50, 48, 62, 63, 64, 65] F0 F → fr2 [1, 2, 56, 57, 58, 61, 49, 51, 52, 53, 54, 60, 43, 44, 45, 46, 47] A0 A → (v2.toInt = -1 ∨ ∃ m, act (A0 24) (A0 26) (F0 28) v2.toInt m) → (0 ≤ v3.toInt ∧ v3.toInt ≤ F0 28) → (F = F0 ∧ A = A0) → am_Ok am_G 6 207 (17, lv, [], h, 0, 0) (rf_Q h0 (fun x F' A' => fr1 [59, 55, 50, 48, 62, 63, 64, 65] F0 F' ∧ fr2 [1, 2, 56, 57, 58, 61, 49, 51, 52, 53, 54, 60, 43, 44, 45, 46, 47] A0 A' ∧ (wr A' ∧ wq A' ∧ (∀ q : Int, q ≠ 0 → A' 2 q = A0 2 q) ∧ (∀ q : Int, 400 ≤ q → A' 1 q = A0 1 q) ∧ (x = -1 ∨ ∃ m, act (A0 24) (A0 26) (F0 28) x m)))) := by
  intro n
  induction n using Nat.strongRecOn with
  | ind n ih =>
    intro lv h F A v1 v2 v3 hn g0 g1 g2 g3 hI hF hA i1 i2 i3
    have hb1 := p1.1
    have hb2 := p1.2.1
    refine k_iload 18 rfl g3 rfl ?_
    refine k_aload 19 rfl g0 rfl ?_
    refine r_gI hI 22 rfl rfl rfl (fun x1 (e2 : x1.toInt = F 28) => ?_)
    have e3 : F 28 = F0 28 := hF 28 (by decide)
    by_cases b4 : x1 ≤ v3
    · refine k_c2 51 rfl rfl (if_pos b4) ?_
      have b4 := iv_le.mp b4
      refine k_iload 52 rfl g2 rfl ?_
      exact k_fin rfl rfl ⟨_, _, _, _, rfl, hI, hF, hA, (by rw [i3.2]; exact ⟨p5, p6, fun q _ => rfl, fun q _ => rfl, i1⟩)⟩
    · refine k_c2 25 rfl rfl (if_neg b4) ?_
      have b4 := mt iv_le.mpr b4
      refine k_aload 26 rfl g0 rfl ?_
      refine k_iload 27 rfl g3 rfl ?_
      refine k_rq hI rfl (m_isLesser (lm := lm) (gT := gT) hI.1 (show nn ((A 24)) ((A 25)) ((F 28)) (gT) by rw [hA 24 (by decide), hA 25 (by decide), hF 28 (by decide)]; exact p1) (show nw ((A 24)) ((A 25)) ((A 26)) (lm) ((F 28)) by rw [hA 24 (by decide), hA 25 (by decide), hA 26 (by decide), hF 28 (by decide)]; exact p2)) rfl rfl rfl hI.rc ?_
      rintro x5 h6 F7 A8 I9 ⟨k11, k12, p10⟩
      replace p10 : x5.toInt = 0 ∨ (x5.toInt = 1 ∧ ∃ m, act ((A 24)) ((A 26)) ((F 28)) v3.toInt m) := p10
      have k11 := fr1.nil k11
      subst k11
      have k12 := fr2.nil k12
      subst k12
      have z13 := iv_01 (x := x5) (by rcases p10 with e | ⟨e, -⟩ <;> omega)
      show am_Ok _ _ _ (30, _, [.inl x5], _, 0, 0) _
      by_cases b14 : x5 = 0
      · refine k_c1 45 rfl rfl (if_pos b14) ?_
        have b14 := iv_eq0.mp b14
        have hc15 : (1 : Int32).toInt = 1 := by decide
        obtain ⟨x16, q17⟩ : ∃ q : Int32, q = v3 + (1 : Int32) := ⟨_, rfl⟩
        have e18 : x16.toInt = v3.toInt + 1 := by rw [q17, iv_add (by omega) (by omega)]; omega
        refine k_iinc x16 48 rfl g3 q17.symm rfl ?_
        refine k_goto 17 rfl rfl ?_
        exact ih _ (show ((F0 28 - x16.toInt).toNat) < n by omega)  rfl (gs_ne rfl rfl g0) (gs_ne rfl rfl g1) (gs_ne rfl rfl g2) gs_eq I9 hF hA (show v2.toInt = -1 ∨ ∃ m, act (A0 24) (A0 26) (F0 28) v2.toInt m from i1) (show 0 ≤ x16.toInt ∧ x16.toInt ≤ F0 28 by omega) (show F = F0 ∧ A = A0 from i3)
      · refine k_c1 33 rfl rfl (if_neg b14) ?_
        have b14 := mt iv_eq0.mpr b14
        refine k_iload 34 rfl g2 rfl ?_
        refine k_push 35 rfl rfl ?_
        have hc19 : (-1 : Int32).toInt = -1 := by decide
        by_cases b20 : v2 = (-1 : Int32)
        · refine k_c2 43 rfl rfl (if_pos b20) ?_
          have b20 := iv_eq.mp b20
          have ha9 := (p10.resolve_left (fun z => by omega)).2
          rw [hA 24 (by decide), hA 26 (by decide), hF 28 (by decide)] at ha9
          refine k_iload 44 rfl g3 rfl ?_
          refine k_istore 45 rfl rfl ?_
          have hc21 : (1 : Int32).toInt = 1 := by decide
          obtain ⟨x22, q23⟩ : ∃ q : Int32, q = v3 + (1 : Int32) := ⟨_, rfl⟩
          have e24 : x22.toInt = v3.toInt + 1 := by rw [q23, iv_add (by omega) (by omega)]; omega
          refine k_iinc x22 48 rfl (gs_ne rfl rfl g3) q23.symm rfl ?_
          refine k_goto 17 rfl rfl ?_
          exact ih _ (show ((F0 28 - x22.toInt).toNat) < n by omega)  rfl (gs_ne rfl rfl (gs_ne rfl rfl g0)) (gs_ne rfl rfl (gs_ne rfl rfl g1)) (gs_ne rfl rfl gs_eq) gs_eq I9 hF hA (show v3.toInt = -1 ∨ ∃ m, act (A0 24) (A0 26) (F0 28) v3.toInt m from Or.inr ha9) (show 0 ≤ x22.toInt ∧ x22.toInt ≤ F0 28 by omega) (show F = F0 ∧ A = A0 from i3)
        · refine k_c2 38 rfl rfl (if_neg b20) ?_
          have b20 := mt iv_eq.mpr b20
          refine k_iload 39 rfl g1 rfl ?_
          refine k_push 40 rfl rfl ?_
          have hc25 : (2 : Int32).toInt = 2 := by decide
          by_cases b26 : v1 = (2 : Int32)
          · refine k_c2 43 rfl rfl (if_pos b26) ?_
            have b26 := iv_eq.mp b26
            have ha9 := (p10.resolve_left (fun z => by omega)).2
            rw [hA 24 (by decide), hA 26 (by decide), hF 28 (by decide)] at ha9
            refine k_iload 44 rfl g3 rfl ?_
            refine k_istore 45 rfl rfl ?_
            have hc27 : (1 : Int32).toInt = 1 := by decide
            obtain ⟨x28, q29⟩ : ∃ q : Int32, q = v3 + (1 : Int32) := ⟨_, rfl⟩
            have e30 : x28.toInt = v3.toInt + 1 := by rw [q29, iv_add (by omega) (by omega)]; omega
            refine k_iinc x28 48 rfl (gs_ne rfl rfl g3) q29.symm rfl ?_
            refine k_goto 17 rfl rfl ?_
            exact ih _ (show ((F0 28 - x28.toInt).toNat) < n by omega)  rfl (gs_ne rfl rfl (gs_ne rfl rfl g0)) (gs_ne rfl rfl (gs_ne rfl rfl g1)) (gs_ne rfl rfl gs_eq) gs_eq I9 hF hA (show v3.toInt = -1 ∨ ∃ m, act (A0 24) (A0 26) (F0 28) v3.toInt m from Or.inr ha9) (show 0 ≤ x28.toInt ∧ x28.toInt ≤ F0 28 by omega) (show F = F0 ∧ A = A0 from i3)
          · refine k_c2 45 rfl rfl (if_neg b26) ?_
            have b26 := mt iv_eq.mpr b26
            have hc31 : (1 : Int32).toInt = 1 := by decide
            obtain ⟨x32, q33⟩ : ∃ q : Int32, q = v3 + (1 : Int32) := ⟨_, rfl⟩
            have e34 : x32.toInt = v3.toInt + 1 := by rw [q33, iv_add (by omega) (by omega)]; omega
            refine k_iinc x32 48 rfl g3 q33.symm rfl ?_
            refine k_goto 17 rfl rfl ?_
            exact ih _ (show ((F0 28 - x32.toInt).toNat) < n by omega)  rfl (gs_ne rfl rfl g0) (gs_ne rfl rfl g1) (gs_ne rfl rfl g2) gs_eq I9 hF hA (show v2.toInt = -1 ∨ ∃ m, act (A0 24) (A0 26) (F0 28) v2.toInt m from i1) (show 0 ≤ x32.toInt ∧ x32.toInt ≤ F0 28 by omega) (show F = F0 ∧ A = A0 from i3)
theorem m_chosen {h0 : am_h} {F0 : rf_f} {A0 : rf_A} {w1 : Int32} {lm : Int → Int} {gT : Int} (hR : rf_R h0 F0 A0) (p1 : nn (A0 24) (A0 25) (F0 28) gT) (p2 : nw (A0 24) (A0 25) (A0 26) lm (F0 28)) (p5 : wr A0) (p6 : wq A0) : am_Mt 7 207 [.inr (.inr (some 81)), .inl w1] h0 (rf_Q h0 (fun x F' A' => fr1 [59, 55, 50, 48, 62, 63, 64, 65] F0 F' ∧ fr2 [1, 2, 56, 57, 58, 61, 49, 51, 52, 53, 54, 60, 43, 44, 45, 46, 47] A0 A' ∧ (wr A' ∧ wq A' ∧ (∀ q : Int, q ≠ 0 → A' 2 q = A0 2 q) ∧ (∀ q : Int, 400 ≤ q → A' 1 q = A0 1 q) ∧ (x = -1 ∨ ∃ m, act (A0 24) (A0 26) (F0 28) x m)))) := by
  refine am_Mt.of (D := 6) ?_
  have hI : rf_I h0 h0 F0 A0 := rf_I.start hR
  have hb1 := p1.1
  have hb2 := p1.2.1
  refine k_iload 1 rfl rfl rfl ?_
  by_cases b35 : w1 = 0
  · refine k_c1 4 rfl rfl (if_pos b35) ?_
    have b35 := iv_eq0.mp b35
    refine k_aload 5 rfl rfl rfl ?_
    refine k_rv hI rfl (m_walks (lm := lm) (gT := gT) hI.1 (show nn ((A0 24)) ((A0 25)) ((F0 28)) (gT) from p1) (show nw ((A0 24)) ((A0 25)) ((A0 26)) (lm) ((F0 28)) from p2) (show wr A0 from p5) (show wq A0 from p6)) rfl rfl rfl hI.rc ?_
    rintro h37 F38 A39 I40 ⟨k42, k43, p41⟩
    replace p41 : wr A39 ∧ wq A39 ∧ (∀ q : Int, q ≠ 0 → A39 2 q = (A0 2) q) ∧ (∀ q : Int, 400 ≤ q → A39 1 q = (A0 1) q) ∧ (∃ n' : Nat, n' ≤ 400 ∧ A39 2 0 = n' ∧ (F38 65 = 1 → wf (A39 1) 0 n')) ∧ (F38 65 = 0 ∨ F38 65 = 1) ∧ (F38 63 = -1 ∨ ∃ m, act ((A0 24)) ((A0 26)) ((F0 28)) (F38 63) m) := p41
    obtain ⟨p41a, p41b, p41c, p41d, p41e, p41f, p41g⟩ := p41
    show am_Ok _ _ _ (8, _, [], _, 0, 0) _
    refine k_aload 9 rfl rfl rfl ?_
    refine r_gI I40 12 rfl rfl rfl (fun x44 (e45 : x44.toInt = F38 63) => ?_)
    exact k_fin rfl rfl ⟨_, _, _, _, rfl, I40, (fr1.tr (by decide) fr1.rf k42), (fr2.tr (by decide) fr2.rf k43), ⟨p41a, p41b, p41c, p41d, by rw [show x44.toInt = F38 63 by omega]; exact p41g⟩⟩
  · refine k_c1 13 rfl rfl (if_neg b35) ?_
    have b35 := mt iv_eq0.mpr b35
    refine k_push 14 rfl rfl ?_
    have hc46 : (-1 : Int32).toInt = -1 := by decide
    refine k_istore 15 rfl rfl ?_
    refine k_push 16 rfl rfl ?_
    have hc47 : (0 : Int32).toInt = 0 := by decide
    refine k_istore 17 rfl rfl ?_
    exact b_X10_chosen_17 (lm := lm) (gT := gT) (w1 := w1) p1 p2 p5 p6 _  rfl (gs_ne rfl rfl (gs_ne rfl rfl rfl)) (gs_ne rfl rfl (gs_ne rfl rfl rfl)) (gs_ne rfl rfl gs_eq) gs_eq hI fr1.rf fr2.rf ((Or.inl (show (-1 : Int32).toInt = -1 by decide))) (show 0 ≤ (0 : Int32).toInt ∧ (0 : Int32).toInt ≤ F0 28 by omega) (⟨rfl, rfl⟩)
end
