section
theorem b_X10_works_161 {h0 : am_h} {F0 : rf_f} {A0 : rf_A} {w1 : Int32} {lm : Int → Int} {gT : Int} (p1 : nn (A0 24) (A0 25) (F0 28) gT) (p2 : nw (A0 24) (A0 25) (A0 26) lm (F0 28)) (p3 : ∃ m, act (A0 24) (A0 26) (F0 28) w1.toInt m) (p4 : F0 27 = cn (A0 24) (F0 28).toNat) (p5 : F0 27 ≤ 400 ∧ gT ≤ 1000000) : ∀ (n : Nat) {lv : am_l} {h : am_h} {F : rf_f} {A : rf_A} {v1 : Int32} {v2 : Int32} {v3 : Int32} {v4 : Int32} {v5 : Int32} {v6 : Int32} {lm1 : Int → Int}, ((3 - v6.toInt).toNat) = n → am_get lv 0 = some (.inr (.inr (some 81))) → am_get lv 1 = some (.inl v1) → am_get lv 2 = some (.inl v2) → am_get lv 3 = some (.inl v3) → am_get lv 4 = some (.inl v4) → am_get lv 5 = some (.inl v5) → am_get lv 6 = some (.inl v6) → rf_I h0 h F A → fr1 [28, 27, 32] F0 F → fr2 [24, 25, 26, 40, 41] A0 A → (v4.toInt = 8000 ∧ v5.toInt = 8001 ∧ 1 ≤ v3.toInt ∧ v3.toInt ≤ 5) → (1 ≤ v6.toInt ∧ v6.toInt ≤ pr (A 24 8000)) → (sn (A 24) (A 25) (A 26) lm1 (F 28) (gT + 1) (ej (A 24) v6.toInt) (fun _ => False) (F 27)) → (A 26 32000 = 32004) → (pr (A 24 8000) = pr (A 24 8001) ∧ ∀ i : Int, 1 ≤ i → i < pr (A 24 8000) → lm1 (32000 + i) = lm1 (32004 + i)) → (F 27 ≤ 400) → am_Ok am_G 3 216 (161, lv, [], h, 0, 0) (rf_Q h0 (fun x F' A' => fr1 [28, 27, 32] F0 F' ∧ fr2 [24, 25, 26, 40, 41] A0 A' ∧ (nt (A' 24) (A' 25) (A' 26) (F' 28) (gT + 1) (F' 27) ∧ (x = -2 ∨ x = -1 ∨ (1 ≤ x ∧ x ≤ 5))))) := by
  intro n
  induction n using Nat.strongRecOn with
  | ind n ih =>
    intro lv h F A v1 v2 v3 v4 v5 v6 lm1 hn g0 g1 g2 g3 g4 g5 g6 hI hF hA i1 i2 i3 i4 i5 i6
    refine k_iload 163 rfl g6 rfl ?_
    refine k_aload 164 rfl g0 rfl ?_
    refine r_gA hI 167 rfl rfl rfl ?_
    refine k_iload 169 rfl g4 rfl ?_
    refine r_ld 24 hI 170 rfl rfl (by omega) (show v4.toInt < 8010 by omega) rfl (fun x1 (e2 : x1.toInt = A 24 v4.toInt) => ?_)
    refine k_rq hI rfl (m_portsOf  hI.1 ) rfl rfl rfl rfl ?_
    rintro x3 h4 F5 A6 I7 ⟨k9, k10, p8⟩
    replace p8 : x3.toInt = pr x1.toInt := p8
    have k9 := fr1.nil k9
    subst k9
    have k10 := fr2.nil k10
    subst k10
    show am_Ok _ _ _ (173, _, [.inl x3, .inl v6], _, 0, 0) _
    have hpr : x3.toInt = pr (A 24 8000) := by rw [p8, e2, i1.1]
    by_cases b11 : x3 ≤ v6
    · refine k_c2 200 rfl rfl (if_pos b11) ?_
      have b11 := iv_le.mp b11
      refine k_goto 255 rfl rfl ?_
      have hfin := ej_end i3 i4 i5.1 (show pr (A 24 8000) ≤ v6.toInt by omega)
      refine k_aload 256 rfl g0 rfl ?_
      refine k_aload 257 rfl g0 rfl ?_
      refine r_gI I7 260 rfl rfl rfl (fun x12 (e13 : x12.toInt = F 27) => ?_)
      refine k_aload 261 rfl g0 rfl ?_
      refine r_gI I7 264 rfl rfl rfl (fun x14 (e15 : x14.toInt = F 32) => ?_)
      by_cases b16 : x12 ≤ x14
      · refine k_c2 274 rfl rfl (if_pos b16) ?_
        have b16 := iv_le.mp b16
        refine k_aload 275 rfl g0 rfl ?_
        refine r_gI I7 278 rfl rfl rfl (fun x17 (e18 : x17.toInt = F 32) => ?_)
        refine r_pI I7 281 rfl rfl rfl (fun h19 I20 => ?_)
        refine k_iload 282 rfl g3 rfl ?_
        exact k_fin rfl rfl ⟨_, _, _, _, rfl, I20, (fr1.up (by decide) hF), hA, show nt ((A 24)) ((A 25)) ((A 26)) ((F 28)) (gT + 1) ((F 27)) ∧ (v3.toInt = -2 ∨ v3.toInt = -1 ∨ (1 ≤ v3.toInt ∧ v3.toInt ≤ 5)) from ⟨⟨hfin.1, ⟨_, hfin.2.1⟩, hfin.2.2, by omega⟩, by omega⟩⟩
      · refine k_c2 267 rfl rfl (if_neg b16) ?_
        have b16 := mt iv_le.mpr b16
        refine k_aload 268 rfl g0 rfl ?_
        refine r_gI I7 271 rfl rfl rfl (fun x21 (e22 : x21.toInt = F 27) => ?_)
        refine k_goto 278 rfl rfl ?_
        refine r_pI I7 281 rfl rfl rfl (fun h23 I24 => ?_)
        refine k_iload 282 rfl g3 rfl ?_
        exact k_fin rfl rfl ⟨_, _, _, _, rfl, I24, (fr1.up (by decide) hF), hA, show nt ((A 24)) ((A 25)) ((A 26)) ((F 28)) (gT + 1) ((F 27)) ∧ (v3.toInt = -2 ∨ v3.toInt = -1 ∨ (1 ≤ v3.toInt ∧ v3.toInt ≤ 5)) from ⟨⟨hfin.1, ⟨_, hfin.2.1⟩, hfin.2.2, by omega⟩, by omega⟩⟩
    · refine k_c2 176 rfl rfl (if_neg b11) ?_
      have b11 := mt iv_le.mpr b11
      have hp3 := pr_le (A 24 8000)
      obtain ⟨j1, j2⟩ := ej_in (i := v6.toInt) i5.1 ⟨by omega, by omega⟩
      have w1b := i3.lt (i3.2.2.1 _ (Or.inr j1)).1
      have w2b := i3.lt (i3.2.2.1 _ (Or.inr j2)).1
      refine k_aload 177 rfl g0 rfl ?_
      refine k_push 178 rfl rfl ?_
      have hc25 : (4 : Int32).toInt = 4 := by decide
      refine k_iload 180 rfl g4 rfl ?_
      obtain ⟨x26, q27⟩ : ∃ q : Int32, q = ((4 : Int32) * v4) := ⟨_, rfl⟩
      have e28 : x26.toInt = 4 * v4.toInt := by rw [q27]; exact iv_mulc 4 (by decide) (by omega) (by omega)
      refine k_bin x26 181 rfl q27.symm rfl ?_
      refine k_iload 183 rfl g6 rfl ?_
      obtain ⟨x29, q30⟩ : ∃ q : Int32, q = (x26 + v6) := ⟨_, rfl⟩
      have e31 : x29.toInt = x26.toInt + v6.toInt := by rw [q30, iv_add (by omega) (by omega)]
      refine k_bin x29 184 rfl q30.symm rfl ?_
      refine k_push 185 rfl rfl ?_
      refine k_iload 187 rfl g5 rfl ?_
      obtain ⟨x32, q33⟩ : ∃ q : Int32, q = ((4 : Int32) * v5) := ⟨_, rfl⟩
      have e34 : x32.toInt = 4 * v5.toInt := by rw [q33]; exact iv_mulc 4 (by decide) (by omega) (by omega)
      refine k_bin x32 188 rfl q33.symm rfl ?_
      refine k_iload 190 rfl g6 rfl ?_
      obtain ⟨x35, q36⟩ : ∃ q : Int32, q = (x32 + v6) := ⟨_, rfl⟩
      have e37 : x35.toInt = x32.toInt + v6.toInt := by rw [q36, iv_add (by omega) (by omega)]
      refine k_bin x35 191 rfl q36.symm rfl ?_
      refine k_rv I7 rfl (m_joins  I7.1 (show 0 ≤ x29.toInt ∧ x29.toInt < 32040 ∧ 0 ≤ x35.toInt ∧ x35.toInt < 32040 by omega) (show 0 ≤ (A 26) x29.toInt ∧ (A 26) x29.toInt < 32040 ∧ 0 ≤ (A 26) x35.toInt ∧ (A 26) x35.toInt < 32040 by rw [show x29.toInt = 32000 + v6.toInt by omega, show x35.toInt = 32004 + v6.toInt by omega]; omega)) rfl rfl rfl I7.rc ?_
      rintro h39 F40 A41 I42 ⟨k44, k45, p43⟩
      replace p43 : A41 26 ((A 26) x35.toInt) = (A 26) x29.toInt ∧ ((A 26) x29.toInt ≠ (A 26) x35.toInt → A41 26 ((A 26) x29.toInt) = (A 26) x35.toInt) ∧ (∀ x : Int, x ≠ (A 26) x29.toInt → x ≠ (A 26) x35.toInt → A41 26 x = (A 26) x) := p43
      obtain ⟨p43a, p43b, p43c⟩ := p43
      have k44 := fr1.nil k44
      subst k44
      show am_Ok _ _ _ (194, _, [], _, 0, 0) _
      have hj := ej_step (p := x29.toInt) (q := x35.toInt) i3 i4 i5.1 ⟨by omega, by omega⟩ (i5.2 _ (by omega) (by omega)) (by omega) (by omega) p43a p43b p43c
      have hc46 : (1 : Int32).toInt = 1 := by decide
      obtain ⟨x47, q48⟩ : ∃ q : Int32, q = v6 + (1 : Int32) := ⟨_, rfl⟩
      have e49 : x47.toInt = v6.toInt + 1 := by rw [q48, iv_add (by omega) (by omega)]; omega
      refine k_iinc x47 197 rfl g6 q48.symm rfl ?_
      refine k_goto 161 rfl rfl ?_
      exact ih _ (show ((3 - x47.toInt).toNat) < n by omega) (lm1 := lm1) rfl (gs_ne rfl rfl g0) (gs_ne rfl rfl g1) (gs_ne rfl rfl g2) (gs_ne rfl rfl g3) (gs_ne rfl rfl g4) (gs_ne rfl rfl g5) gs_eq I42 hF (fr2.tr (by decide) hA k45) (show v4.toInt = 8000 ∧ v5.toInt = 8001 ∧ 1 ≤ v3.toInt ∧ v3.toInt ≤ 5 by omega) (by rw [(k45 24 (by decide))]; omega) (by rw [show x47.toInt = v6.toInt + 1 by omega, (k45 24 (by decide)), (k45 25 (by decide))]; exact hj.1) (show (A41 26) 32000 = 32004 from hj.2) (by rw [(k45 24 (by decide))]; exact i5) (show (F 27) ≤ 400 by omega)
theorem m_works {h0 : am_h} {F0 : rf_f} {A0 : rf_A} {w1 : Int32} {lm : Int → Int} {gT : Int} (hR : rf_R h0 F0 A0) (p1 : nn (A0 24) (A0 25) (F0 28) gT) (p2 : nw (A0 24) (A0 25) (A0 26) lm (F0 28)) (p3 : ∃ m, act (A0 24) (A0 26) (F0 28) w1.toInt m) (p4 : F0 27 = cn (A0 24) (F0 28).toNat) (p5 : F0 27 ≤ 400 ∧ gT ≤ 1000000) : am_Mt 4 216 [.inr (.inr (some 81)), .inl w1] h0 (rf_Q h0 (fun x F' A' => fr1 [28, 27, 32] F0 F' ∧ fr2 [24, 25, 26, 40, 41] A0 A' ∧ (nt (A' 24) (A' 25) (A' 26) (F' 28) (gT + 1) (F' 27) ∧ (x = -2 ∨ x = -1 ∨ (1 ≤ x ∧ x ≤ 5))))) := by
  refine am_Mt.of (D := 3) ?_
  have hI : rf_I h0 h0 F0 A0 := rf_I.start hR
  obtain ⟨o, ha⟩ := id p3
  obtain ⟨c01, c02, c03, c04, c05, c06, c07, c08, c09, c10, c11⟩ := id ha
  have hb4 := p1.2.1
  have c80 : (8000 : Int32).toInt = 8000 := by decide
  have c81 : (8001 : Int32).toInt = 8001 := by decide
  have hcb := cn_bd (K := A0 24) (F0 28).toNat
  refine k_aload 1 rfl rfl rfl ?_
  refine r_gA hI 4 rfl rfl rfl ?_
  refine k_push 5 rfl rfl ?_
  have hc50 : (4 : Int32).toInt = 4 := by decide
  refine k_iload 6 rfl rfl rfl ?_
  obtain ⟨x51, q52⟩ : ∃ q : Int32, q = ((4 : Int32) * w1) := ⟨_, rfl⟩
  have e53 : x51.toInt = 4 * w1.toInt := by rw [q52]; exact iv_mulc 4 (by decide) (by omega) (by omega)
  refine k_bin x51 7 rfl q52.symm rfl ?_
  refine r_ld 26 hI 8 rfl rfl (by omega) (show x51.toInt < 32040 by omega) rfl (fun x54 (e55 : x54.toInt = A0 26 x51.toInt) => ?_)
  rw [e53] at e55
  refine k_push 9 rfl rfl ?_
  obtain ⟨x56, q57⟩ : ∃ q : Int32, q = (x54 / (4 : Int32)) := ⟨_, rfl⟩
  have e58 : x56.toInt = x54.toInt / 4 := by rw [q57]; exact iv_div 4 (by decide) (by decide) (by omega)
  refine k_divZ x56 10 rfl (by decide) q57.symm rfl ?_
  refine k_istore 11 rfl rfl ?_
  obtain rfl : o = x56.toInt := by omega
  refine k_aload 12 rfl (gs_ne rfl rfl rfl) rfl ?_
  refine k_iload 13 rfl (gs_ne rfl rfl rfl) rfl ?_
  refine k_iload 14 rfl gs_eq rfl ?_
  refine k_rq hI rfl (m_kindOf  hI.1 (show 0 ≤ w1.toInt ∧ w1.toInt < 8000 ∧ 0 ≤ x56.toInt ∧ x56.toInt < 8000 by omega)) rfl rfl rfl hI.rc ?_
  rintro x59 h60 F61 A62 I63 ⟨k65, k66, p64⟩
  replace p64 : x59.toInt = -2 ∨ (x59.toInt = 5 ∧ ((A0 24) w1.toInt = 6 ∨ (A0 24) x56.toInt = 6)) ∨ ((A0 24) w1.toInt ≠ 6 ∧ (A0 24) x56.toInt ≠ 6 ∧ ((x59.toInt = 1 ∧ (A0 25) w1.toInt = (A0 25) x56.toInt ∧ (((A0 24) w1.toInt = 1 ∧ (A0 24) x56.toInt = 2) ∨ ((A0 24) w1.toInt = 2 ∧ (A0 24) x56.toInt = 1))) ∨ (x59.toInt = 2 ∧ (A0 25) w1.toInt = (A0 25) x56.toInt ∧ (A0 24) w1.toInt = (A0 24) x56.toInt ∧ 3 ≤ (A0 24) w1.toInt ∧ (A0 24) w1.toInt ≤ 5) ∨ ((x59.toInt = 3 ∨ x59.toInt = 4) ∧ (((A0 25) w1.toInt < (A0 25) x56.toInt ∧ 3 ≤ (A0 24) w1.toInt ∧ (A0 24) w1.toInt ≤ 5) ∨ ((A0 25) x56.toInt < (A0 25) w1.toInt ∧ 3 ≤ (A0 24) x56.toInt ∧ (A0 24) x56.toInt ≤ 5))))) := p64
  have k65 := fr1.nil k65
  subst k65
  have k66 := fr2.nil k66
  subst k66
  show am_Ok _ _ _ (17, _, [.inl x59], _, 0, 0) _
  have hk9 : hd (x59.toInt = -2 ∨ (x59.toInt = 5 ∧ (A0 24 w1.toInt = 6 ∨ A0 24 x56.toInt = 6)) ∨ (A0 24 w1.toInt ≠ 6 ∧ A0 24 x56.toInt ≠ 6 ∧ ((x59.toInt = 1 ∧ A0 25 w1.toInt = A0 25 x56.toInt ∧ ((A0 24 w1.toInt = 1 ∧ A0 24 x56.toInt = 2) ∨ (A0 24 w1.toInt = 2 ∧ A0 24 x56.toInt = 1))) ∨ (x59.toInt = 2 ∧ A0 25 w1.toInt = A0 25 x56.toInt ∧ A0 24 w1.toInt = A0 24 x56.toInt ∧ 3 ≤ A0 24 w1.toInt ∧ A0 24 w1.toInt ≤ 5) ∨ ((x59.toInt = 3 ∨ x59.toInt = 4) ∧ ((A0 25 w1.toInt < A0 25 x56.toInt ∧ 3 ≤ A0 24 w1.toInt ∧ A0 24 w1.toInt ≤ 5) ∨ (A0 25 x56.toInt < A0 25 w1.toInt ∧ 3 ≤ A0 24 x56.toInt ∧ A0 24 x56.toInt ≤ 5)))))) := p64
  have hv9 : x59.toInt = -2 ∨ (1 ≤ x59.toInt ∧ x59.toInt ≤ 5) := by omega
  clear p64
  refine k_istore 18 rfl rfl ?_
  refine k_iload 19 rfl gs_eq rfl ?_
  refine k_push 21 rfl rfl ?_
  have hc67 : (-2 : Int32).toInt = -2 := by decide
  by_cases b68 : x59 = (-2 : Int32)
  · refine k_c2 24 rfl rfl (if_pos b68) ?_
    have b68 := iv_eq.mp b68
    refine k_push 26 rfl rfl ?_
    exact k_fin rfl rfl ⟨_, _, _, _, rfl, I63, fr1.rf, fr2.rf, show nt ((A0 24)) ((A0 25)) ((A0 26)) ((F0 28)) (gT + 1) ((F0 27)) ∧ ((-2 : Int32).toInt = -2 ∨ (-2 : Int32).toInt = -1 ∨ (1 ≤ (-2 : Int32).toInt ∧ (-2 : Int32).toInt ≤ 5)) from ⟨⟨p1.mono (by omega), ⟨lm, p2⟩, p4, p5.1⟩, by omega⟩⟩
  · refine k_c2 27 rfl rfl (if_neg b68) ?_
    have b68 := mt iv_eq.mpr b68
    refine k_aload 28 rfl (gs_ne rfl rfl (gs_ne rfl rfl rfl)) rfl ?_
    refine r_gI I63 31 rfl rfl rfl (fun x69 (e70 : x69.toInt = F0 27) => ?_)
    refine k_aload 32 rfl (gs_ne rfl rfl (gs_ne rfl rfl rfl)) rfl ?_
    refine k_iload 33 rfl (gs_ne rfl rfl (gs_ne rfl rfl rfl)) rfl ?_
    refine k_iload 34 rfl (gs_ne rfl rfl gs_eq) rfl ?_
    refine k_iload 35 rfl gs_eq rfl ?_
    refine k_rq I63 rfl (m_moreBy  I63.1 (show 0 ≤ w1.toInt ∧ w1.toInt < 8000 ∧ 0 ≤ x56.toInt ∧ x56.toInt < 8000 by omega)) rfl rfl rfl I63.rc ?_
    rintro x71 h72 F73 A74 I75 ⟨k77, k78, p76⟩
    replace p76 : (x59.toInt = 5 ∧ (((A0 24) w1.toInt = 6 ∧ x71.toInt = pr ((A0 24) x56.toInt) - 3) ∨ ((A0 24) w1.toInt ≠ 6 ∧ x71.toInt = pr ((A0 24) w1.toInt) - 3))) ∨ (x59.toInt < 3 ∧ x71.toInt = -2) ∨ (x59.toInt ≠ 5 ∧ 3 ≤ x59.toInt ∧ x71.toInt = pr ((A0 24) w1.toInt) + pr ((A0 24) x56.toInt) - 4) := p76
    have k77 := fr1.nil k77
    subst k77
    have k78 := fr2.nil k78
    subst k78
    show am_Ok _ _ _ (38, _, [.inl x71, .inl x69], _, 0, 0) _
    have hm1 := pr_le (A0 24 w1.toInt)
    have hm2 := pr_le (A0 24 x56.toInt)
    obtain ⟨x79, q80⟩ : ∃ q : Int32, q = (x69 + x71) := ⟨_, rfl⟩
    have e81 : x79.toInt = x69.toInt + x71.toInt := by rw [q80, iv_add (by omega) (by omega)]
    refine k_bin x79 39 rfl q80.symm rfl ?_
    refine k_push 42 rfl rfl ?_
    have hc82 : (400 : Int32).toInt = 400 := by decide
    have hm9 : hd ((x59.toInt = 5 ∧ ((A0 24 w1.toInt = 6 ∧ F0 27 + pr (A0 24 x56.toInt) - 3 = x79.toInt) ∨ (A0 24 w1.toInt ≠ 6 ∧ F0 27 + pr (A0 24 w1.toInt) - 3 = x79.toInt))) ∨ x59.toInt < 3 ∨ (3 ≤ x59.toInt ∧ x59.toInt ≠ 5 ∧ F0 27 + pr (A0 24 w1.toInt) + pr (A0 24 x56.toInt) - 4 = x79.toInt)) := by unfold hd; omega
    clear p76
    by_cases b83 : x79 ≤ (400 : Int32)
    · refine k_c2 47 rfl rfl (if_pos b83) ?_
      have b83 := iv_le.mp b83
      refine k_aload 48 rfl (gs_ne rfl rfl (gs_ne rfl rfl rfl)) rfl ?_
      refine k_iload 49 rfl (gs_ne rfl rfl (gs_ne rfl rfl rfl)) rfl ?_
      refine k_push 52 rfl rfl ?_
      have hc84 : (8000 : Int32).toInt = 8000 := by decide
      refine k_rv I75 rfl (m_goesAside (lm := lm) (gT := gT + 1) (gE := (fun _ => False)) I75.1 (show sn ((A0 24)) ((A0 25)) ((A0 26)) (lm) ((F0 28)) (gT + 1) ((fun _ => False)) (fun _ => False) ((F0 27)) from (sn.start p1 p2 p4).mono (by omega)) (show 0 < w1.toInt ∧ w1.toInt < (F0 28) by omega) (show (A0 24) w1.toInt ≠ -1 ∧ (A0 24) w1.toInt ≠ 0 from ⟨c05, c07⟩) (show 8000 ≤ (8000 : Int32).toInt ∧ (8000 : Int32).toInt ≤ 8001 by omega) (show ∀ x : Int, ((fun _ => False)) x → x / 4 ≠ (8000 : Int32).toInt from fun x z => z.elim)) rfl rfl rfl I75.rc ?_
      rintro h86 F87 A88 I89 ⟨k91, k92, p90⟩
      replace p90 : (A88 24 (8000 : Int32).toInt = (A0 24) w1.toInt ∧ A88 25 (8000 : Int32).toInt = (A0 25) w1.toInt) ∧ A88 24 w1.toInt = -1 ∧ (∀ y : Int, y ≠ w1.toInt → y ≠ (8000 : Int32).toInt → A88 24 y = (A0 24) y) ∧ (∀ y : Int, y ≠ (8000 : Int32).toInt → A88 25 y = (A0 25) y) ∧ F87 27 = (F0 27) - 1 ∧ sn (A88 24) (A88 25) (A88 26) (la (lm) w1.toInt (8000 : Int32).toInt) ((F0 28)) (gT + 1) (fun x => ((fun _ => False)) x ∨ (x / 4 = (8000 : Int32).toInt ∧ x % 4 < pr ((A0 24) w1.toInt))) (fun _ => False) (F87 27) ∧ ((A0 26) (4 * w1.toInt) / 4 ≠ w1.toInt → A88 26 (4 * (8000 : Int32).toInt) = (A0 26) (4 * w1.toInt)) := p90
      obtain ⟨p90a, p90b, p90c, p90d, p90e, p90f, p90g⟩ := p90
      show am_Ok _ _ _ (55, _, [], _, 0, 0) _
      have g1a := p90a
      have g1c := p90c
      have g1d := p90d
      have g1e := p90e
      have e28 : F87 28 = F0 28 := k91 28 (by decide)
      have g1f : sn (A88 24) (A88 25) (A88 26) (la lm w1.toInt (8000 : Int32).toInt) (F87 28) (gT + 1) (fun x => False ∨ (x / 4 = (8000 : Int32).toInt ∧ x % 4 < pr (A0 24 w1.toInt))) (fun _ => False) (F87 27) := by rw [e28]; exact p90f
      have g1g := p90g
      refine k_aload 56 rfl (gs_ne rfl rfl (gs_ne rfl rfl rfl)) rfl ?_
      refine k_iload 57 rfl (gs_ne rfl rfl gs_eq) rfl ?_
      refine k_push 60 rfl rfl ?_
      have hc93 : (8001 : Int32).toInt = 8001 := by decide
      have e94 : F87 28 = F0 28 := k91 28 (by decide)
      refine k_rv I89 rfl (m_goesAside (lm := la lm w1.toInt (8000 : Int32).toInt) (gT := gT + 1) (gE := (fun x => False ∨ (x / 4 = (8000 : Int32).toInt ∧ x % 4 < pr (A0 24 w1.toInt)))) I89.1 (show sn ((A88 24)) ((A88 25)) ((A88 26)) (la lm w1.toInt (8000 : Int32).toInt) ((F87 28)) (gT + 1) ((fun x => False ∨ (x / 4 = (8000 : Int32).toInt ∧ x % 4 < pr (A0 24 w1.toInt)))) (fun _ => False) ((F87 27)) from g1f) (show 0 < x56.toInt ∧ x56.toInt < (F87 28) by omega) (show (A88 24) x56.toInt ≠ -1 ∧ (A88 24) x56.toInt ≠ 0 by rw [g1c _ (by omega) (by omega)]; exact ⟨c06, c08⟩) (show 8000 ≤ (8001 : Int32).toInt ∧ (8001 : Int32).toInt ≤ 8001 by omega) (show ∀ x : Int, ((fun x => False ∨ (x / 4 = (8000 : Int32).toInt ∧ x % 4 < pr (A0 24 w1.toInt)))) x → x / 4 ≠ (8001 : Int32).toInt from fun x z => by have z2 := z.resolve_left (fun q => q); omega)) rfl rfl rfl I89.rc ?_
      rintro h96 F97 A98 I99 ⟨k101, k102, p100⟩
      replace p100 : (A98 24 (8001 : Int32).toInt = (A88 24) x56.toInt ∧ A98 25 (8001 : Int32).toInt = (A88 25) x56.toInt) ∧ A98 24 x56.toInt = -1 ∧ (∀ y : Int, y ≠ x56.toInt → y ≠ (8001 : Int32).toInt → A98 24 y = (A88 24) y) ∧ (∀ y : Int, y ≠ (8001 : Int32).toInt → A98 25 y = (A88 25) y) ∧ F97 27 = (F87 27) - 1 ∧ sn (A98 24) (A98 25) (A98 26) (la (la lm w1.toInt (8000 : Int32).toInt) x56.toInt (8001 : Int32).toInt) ((F87 28)) (gT + 1) (fun x => ((fun x => False ∨ (x / 4 = (8000 : Int32).toInt ∧ x % 4 < pr (A0 24 w1.toInt)))) x ∨ (x / 4 = (8001 : Int32).toInt ∧ x % 4 < pr ((A88 24) x56.toInt))) (fun _ => False) (F97 27) ∧ ((A88 26) (4 * x56.toInt) / 4 ≠ x56.toInt → A98 26 (4 * (8001 : Int32).toInt) = (A88 26) (4 * x56.toInt)) := p100
      obtain ⟨p100a, p100b, p100c, p100d, p100e, p100f, p100g⟩ := p100
      show am_Ok _ _ _ (63, _, [], _, 0, 0) _
      have e29 : F97 28 = F0 28 := (k101 28 (by decide)).trans e28
      rw [e28] at g1f
      rw [e28] at p100f
      have hwk := ws_k (n := w1.toInt) (o := x56.toInt) c80 c81 (by omega) (by omega) (fun z => c11 z.symm) g1a g1c g1d p100a p100c p100d
      obtain ⟨k80, k81, l80, l81⟩ := hwk
      obtain ⟨lm2, hws⟩ : ∃ l2, ws (A98 24) (A98 25) (A98 26) l2 (F97 28) (gT + 1) (F97 27) := ⟨_, by rw [e29]; exact ws_of p1 p2 ha c80 c81 g1a g1c g1d g1f g1g p100a p100c p100d p100f p100g⟩
      have pk80 : pr ((A98 24) 8000) = pr (A0 24 w1.toInt) := by rw [k80]
      have pk81 : pr ((A98 24) 8001) = pr (A0 24 x56.toInt) := by rw [k81]
      have hw6 := hws.2.2.2.2.2.1
      have hw7 := hws.2.2.2.2.2.2
      refine k_push 66 rfl rfl ?_
      refine k_istore 68 rfl rfl ?_
      refine k_push 71 rfl rfl ?_
      refine k_istore 73 rfl rfl ?_
      refine k_iload 74 rfl (gs_ne rfl rfl (gs_ne rfl rfl gs_eq)) rfl ?_
      by_cases b103 : x59.toInt < 1 ∨ 5 < x59.toInt
      · exfalso
        omega
      · have b103 : x59.toInt = 1 ∨ x59.toInt = 2 ∨ x59.toInt = 3 ∨ x59.toInt = 4 ∨ x59.toInt = 5 := by omega
        rcases b103 with b103 | b103 | b103 | b103 | b103
        · refine k_sw 158 rfl (by unfold am_tb; rw [b103]; decide) ?_
          refine k_push 159 rfl rfl ?_
          have hc104 : (1 : Int32).toInt = 1 := by decide
          refine k_istore 161 rfl rfl ?_
          have hlv := hws.lev (by have h9 := hk9; unfold hd at h9; omega) (by have h9 := hk9; unfold hd at h9; omega)
          have hpl := pr_le ((A98 24) 8000)
          have e105 : F97 28 = F87 28 := k101 28 (by decide)
          exact b_X10_works_161 (lm := lm) (gT := gT) (w1 := w1) p1 p2 p3 p4 p5 _ (lm1 := lm2) rfl (gs_ne rfl rfl (gs_ne rfl rfl (gs_ne rfl rfl (gs_ne rfl rfl (gs_ne rfl rfl rfl))))) (gs_ne rfl rfl (gs_ne rfl rfl (gs_ne rfl rfl (gs_ne rfl rfl (gs_ne rfl rfl rfl))))) (gs_ne rfl rfl (gs_ne rfl rfl (gs_ne rfl rfl (gs_ne rfl rfl gs_eq)))) (gs_ne rfl rfl (gs_ne rfl rfl (gs_ne rfl rfl gs_eq))) (gs_ne rfl rfl (gs_ne rfl rfl gs_eq)) (gs_ne rfl rfl gs_eq) gs_eq I99 (fr1.tr (by decide) (fr1.tr (by decide) fr1.rf k91) k101) (fr2.tr (by decide) (fr2.tr (by decide) fr2.rf k92) k102) (show (8000 : Int32).toInt = 8000 ∧ (8001 : Int32).toInt = 8001 ∧ 1 ≤ x59.toInt ∧ x59.toInt ≤ 5 by omega) (show 1 ≤ (1 : Int32).toInt ∧ (1 : Int32).toInt ≤ pr ((A98 24) 8000) by omega) (by rw [show (1 : Int32).toInt = 1 by decide]; exact ej_1 hws) (show (A98 26) 32000 = 32004 from hws.2.1) (show pr ((A98 24) 8000) = pr ((A98 24) 8001) ∧ ∀ i : Int, 1 ≤ i → i < pr ((A98 24) 8000) → (lm2) (32000 + i) = (lm2) (32004 + i) from hlv) (show (F97 27) ≤ 400 by omega)
        · refine k_sw 158 rfl (by unfold am_tb; rw [b103]; decide) ?_
          refine k_push 159 rfl rfl ?_
          have hc106 : (1 : Int32).toInt = 1 := by decide
          refine k_istore 161 rfl rfl ?_
          have hlv := hws.lev (by have h9 := hk9; unfold hd at h9; omega) (by have h9 := hk9; unfold hd at h9; omega)
          have hpl := pr_le ((A98 24) 8000)
          have e107 : F97 28 = F87 28 := k101 28 (by decide)
          exact b_X10_works_161 (lm := lm) (gT := gT) (w1 := w1) p1 p2 p3 p4 p5 _ (lm1 := lm2) rfl (gs_ne rfl rfl (gs_ne rfl rfl (gs_ne rfl rfl (gs_ne rfl rfl (gs_ne rfl rfl rfl))))) (gs_ne rfl rfl (gs_ne rfl rfl (gs_ne rfl rfl (gs_ne rfl rfl (gs_ne rfl rfl rfl))))) (gs_ne rfl rfl (gs_ne rfl rfl (gs_ne rfl rfl (gs_ne rfl rfl gs_eq)))) (gs_ne rfl rfl (gs_ne rfl rfl (gs_ne rfl rfl gs_eq))) (gs_ne rfl rfl (gs_ne rfl rfl gs_eq)) (gs_ne rfl rfl gs_eq) gs_eq I99 (fr1.tr (by decide) (fr1.tr (by decide) fr1.rf k91) k101) (fr2.tr (by decide) (fr2.tr (by decide) fr2.rf k92) k102) (show (8000 : Int32).toInt = 8000 ∧ (8001 : Int32).toInt = 8001 ∧ 1 ≤ x59.toInt ∧ x59.toInt ≤ 5 by omega) (show 1 ≤ (1 : Int32).toInt ∧ (1 : Int32).toInt ≤ pr ((A98 24) 8000) by omega) (by rw [show (1 : Int32).toInt = 1 by decide]; exact ej_1 hws) (show (A98 26) 32000 = 32004 from hws.2.1) (show pr ((A98 24) 8000) = pr ((A98 24) 8001) ∧ ∀ i : Int, 1 ≤ i → i < pr ((A98 24) 8000) → (lm2) (32000 + i) = (lm2) (32004 + i) from hlv) (show (F97 27) ≤ 400 by omega)
        · refine k_sw 203 rfl (by unfold am_tb; rw [b103]; decide) ?_
          refine k_aload 204 rfl (gs_ne rfl rfl (gs_ne rfl rfl (gs_ne rfl rfl (gs_ne rfl rfl rfl)))) rfl ?_
          refine k_aload 205 rfl (gs_ne rfl rfl (gs_ne rfl rfl (gs_ne rfl rfl (gs_ne rfl rfl rfl)))) rfl ?_
          refine r_gA I99 208 rfl rfl rfl ?_
          refine k_iload 210 rfl (gs_ne rfl rfl gs_eq) rfl ?_
          refine r_ld 25 I99 211 rfl rfl (by omega) (show (8000 : Int32).toInt < 8010 by omega) rfl (fun x108 (e109 : x108.toInt = A98 25 (8000 : Int32).toInt) => ?_)
          rw [hc84] at e109
          refine k_aload 212 rfl (gs_ne rfl rfl (gs_ne rfl rfl (gs_ne rfl rfl (gs_ne rfl rfl rfl)))) rfl ?_
          refine r_gA I99 215 rfl rfl rfl ?_
          refine k_iload 217 rfl gs_eq rfl ?_
          refine r_ld 25 I99 218 rfl rfl (by omega) (show (8001 : Int32).toInt < 8010 by omega) rfl (fun x110 (e111 : x110.toInt = A98 25 (8001 : Int32).toInt) => ?_)
          rw [hc93] at e111
          by_cases b112 : x110 ≤ x108
          · refine k_c2 226 rfl rfl (if_pos b112) ?_
            have b112 := iv_le.mp b112
            refine k_iload 228 rfl gs_eq rfl ?_
            refine k_aload 229 rfl (gs_ne rfl rfl (gs_ne rfl rfl (gs_ne rfl rfl (gs_ne rfl rfl rfl)))) rfl ?_
            refine r_gA I99 232 rfl rfl rfl ?_
            refine k_iload 234 rfl (gs_ne rfl rfl gs_eq) rfl ?_
            refine r_ld 25 I99 235 rfl rfl (by omega) (show (8000 : Int32).toInt < 8010 by omega) rfl (fun x113 (e114 : x113.toInt = A98 25 (8000 : Int32).toInt) => ?_)
            rw [hc84] at e114
            refine k_aload 236 rfl (gs_ne rfl rfl (gs_ne rfl rfl (gs_ne rfl rfl (gs_ne rfl rfl rfl)))) rfl ?_
            refine r_gA I99 239 rfl rfl rfl ?_
            refine k_iload 241 rfl gs_eq rfl ?_
            refine r_ld 25 I99 242 rfl rfl (by omega) (show (8001 : Int32).toInt < 8010 by omega) rfl (fun x115 (e116 : x115.toInt = A98 25 (8001 : Int32).toInt) => ?_)
            rw [hc93] at e116
            by_cases b117 : x115 ≤ x113
            · refine k_c2 250 rfl rfl (if_pos b117) ?_
              have b117 := iv_le.mp b117
              refine k_iload 252 rfl (gs_ne rfl rfl gs_eq) rfl ?_
              have e118 : F97 28 = F87 28 := k101 28 (by decide)
              refine k_rv I99 rfl (m_goesThrough (lm := lm2) (gT := gT + 1) (gE := (ee (A98 24))) I99.1 (show sn ((A98 24)) ((A98 25)) ((A98 26)) (lm2) ((F97 28)) (gT + 1) ((ee (A98 24))) (fun _ => False) ((F97 27)) from hws.1) (show ((8001 : Int32).toInt = 8000 ∧ (8000 : Int32).toInt = 8001) ∨ ((8001 : Int32).toInt = 8001 ∧ (8000 : Int32).toInt = 8000) by omega) (show 3 ≤ ((A98 24) (8001 : Int32).toInt) ∧ ((A98 24) (8001 : Int32).toInt) ≤ 5 ∧ 1 ≤ ((A98 24) (8000 : Int32).toInt) ∧ ((A98 24) (8000 : Int32).toInt) ≤ 5 by rw [c80, c81]; have h9 := hk9; unfold hd at h9; omega) (show 0 ≤ (A98 25) (8001 : Int32).toInt ∧ (A98 25) (8001 : Int32).toInt < (A98 25) (8000 : Int32).toInt ∧ (A98 25) (8000 : Int32).toInt + 1 ≤ (gT + 1) ∧ (gT + 1) ≤ 2000000 by rw [c80, c81]; have h9 := hk9; unfold hd at h9; omega) (show tl ((A98 24) (8001 : Int32).toInt) ((A98 25) (8001 : Int32).toInt) ((lm2) (4 * (8001 : Int32).toInt)) ((lm2) (4 * (8001 : Int32).toInt + 1)) ((lm2) (4 * (8001 : Int32).toInt + 2)) from hws.tl1 c81) (show tl ((A98 24) (8000 : Int32).toInt) ((A98 25) (8000 : Int32).toInt) ((lm2) (4 * (8000 : Int32).toInt)) ((lm2) (4 * (8000 : Int32).toInt + 1)) ((lm2) (4 * (8000 : Int32).toInt + 2)) from hws.tl0 c80) (show (lm2) (4 * (8001 : Int32).toInt) = (lm2) (4 * (8000 : Int32).toInt) from (hws.l01 c80 c81).symm) (show ∀ x : Int, ((ee (A98 24))) x ↔ ((x / 4 = (8001 : Int32).toInt ∧ x % 4 < pr ((A98 24) (8001 : Int32).toInt)) ∨ (x / 4 = (8000 : Int32).toInt ∧ x % 4 < pr ((A98 24) (8000 : Int32).toInt))) from fun x => ee_10 c80 c81) (show (F97 27) + pr ((A98 24) (8001 : Int32).toInt) + pr ((A98 24) (8000 : Int32).toInt) ≤ 402 by rw [c80, c81]; have h9 := hm9; unfold hd at h9; omega) (show (A98 26) 32000 = 32004 from hws.2.1)) rfl rfl rfl I99.rc ?_
              rintro h120 F121 A122 I123 ⟨k125, k126, p124⟩
              replace p124 : (∃ lm', sn (A122 24) (A122 25) (A122 26) lm' (F121 28) (gT + 1) (fun x => ((ee (A98 24))) x ∧ x % 4 = 0) (fun _ => False) (F121 27)) ∧ A122 26 32000 = 32004 ∧ F121 27 ≤ 400 := p124
              obtain ⟨p124a, p124b, p124c⟩ := p124
              show am_Ok _ _ _ (255, _, [], _, 0, 0) _
              obtain ⟨lm3, hfin⟩ := wk_th p124a p124b
              refine k_aload 256 rfl (gs_ne rfl rfl (gs_ne rfl rfl (gs_ne rfl rfl (gs_ne rfl rfl rfl)))) rfl ?_
              refine k_aload 257 rfl (gs_ne rfl rfl (gs_ne rfl rfl (gs_ne rfl rfl (gs_ne rfl rfl rfl)))) rfl ?_
              refine r_gI I123 260 rfl rfl rfl (fun x127 (e128 : x127.toInt = F121 27) => ?_)
              refine k_aload 261 rfl (gs_ne rfl rfl (gs_ne rfl rfl (gs_ne rfl rfl (gs_ne rfl rfl rfl)))) rfl ?_
              refine r_gI I123 264 rfl rfl rfl (fun x129 (e130 : x129.toInt = F121 32) => ?_)
              have e131 : F121 32 = F97 32 := k125 32 (by decide)
              have e132 : F97 32 = F87 32 := k101 32 (by decide)
              have e133 : F87 32 = F0 32 := k91 32 (by decide)
              by_cases b134 : x127 ≤ x129
              · refine k_c2 274 rfl rfl (if_pos b134) ?_
                have b134 := iv_le.mp b134
                refine k_aload 275 rfl (gs_ne rfl rfl (gs_ne rfl rfl (gs_ne rfl rfl (gs_ne rfl rfl rfl)))) rfl ?_
                refine r_gI I123 278 rfl rfl rfl (fun x135 (e136 : x135.toInt = F121 32) => ?_)
                refine r_pI I123 281 rfl rfl rfl (fun h137 I138 => ?_)
                refine k_iload 282 rfl (gs_ne rfl rfl (gs_ne rfl rfl gs_eq)) rfl ?_
                exact k_fin rfl rfl ⟨_, _, _, _, rfl, I138, (fr1.up (by decide) (fr1.tr (by decide) (fr1.tr (by decide) (fr1.tr (by decide) fr1.rf k91) k101) k125)), (fr2.tr (by decide) (fr2.tr (by decide) (fr2.tr (by decide) fr2.rf k92) k102) k126), show nt ((A122 24)) ((A122 25)) ((A122 26)) ((F121 28)) (gT + 1) ((F121 27)) ∧ (x59.toInt = -2 ∨ x59.toInt = -1 ∨ (1 ≤ x59.toInt ∧ x59.toInt ≤ 5)) from ⟨⟨hfin.1, ⟨_, hfin.2.1⟩, hfin.2.2, by omega⟩, by omega⟩⟩
              · refine k_c2 267 rfl rfl (if_neg b134) ?_
                have b134 := mt iv_le.mpr b134
                refine k_aload 268 rfl (gs_ne rfl rfl (gs_ne rfl rfl (gs_ne rfl rfl (gs_ne rfl rfl rfl)))) rfl ?_
                refine r_gI I123 271 rfl rfl rfl (fun x139 (e140 : x139.toInt = F121 27) => ?_)
                refine k_goto 278 rfl rfl ?_
                refine r_pI I123 281 rfl rfl rfl (fun h141 I142 => ?_)
                refine k_iload 282 rfl (gs_ne rfl rfl (gs_ne rfl rfl gs_eq)) rfl ?_
                exact k_fin rfl rfl ⟨_, _, _, _, rfl, I142, (fr1.up (by decide) (fr1.tr (by decide) (fr1.tr (by decide) (fr1.tr (by decide) fr1.rf k91) k101) k125)), (fr2.tr (by decide) (fr2.tr (by decide) (fr2.tr (by decide) fr2.rf k92) k102) k126), show nt ((A122 24)) ((A122 25)) ((A122 26)) ((F121 28)) (gT + 1) ((F121 27)) ∧ (x59.toInt = -2 ∨ x59.toInt = -1 ∨ (1 ≤ x59.toInt ∧ x59.toInt ≤ 5)) from ⟨⟨hfin.1, ⟨_, hfin.2.1⟩, hfin.2.2, by omega⟩, by omega⟩⟩
            · refine k_c2 245 rfl rfl (if_neg b117) ?_
              have b117 := mt iv_le.mpr b117
              exfalso
              omega
          · refine k_c2 221 rfl rfl (if_neg b112) ?_
            have b112 := mt iv_le.mpr b112
            refine k_iload 223 rfl (gs_ne rfl rfl gs_eq) rfl ?_
            refine k_goto 228 rfl rfl ?_
            refine k_aload 229 rfl (gs_ne rfl rfl (gs_ne rfl rfl (gs_ne rfl rfl (gs_ne rfl rfl rfl)))) rfl ?_
            refine r_gA I99 232 rfl rfl rfl ?_
            refine k_iload 234 rfl (gs_ne rfl rfl gs_eq) rfl ?_
            refine r_ld 25 I99 235 rfl rfl (by omega) (show (8000 : Int32).toInt < 8010 by omega) rfl (fun x143 (e144 : x143.toInt = A98 25 (8000 : Int32).toInt) => ?_)
            rw [hc84] at e144
            refine k_aload 236 rfl (gs_ne rfl rfl (gs_ne rfl rfl (gs_ne rfl rfl (gs_ne rfl rfl rfl)))) rfl ?_
            refine r_gA I99 239 rfl rfl rfl ?_
            refine k_iload 241 rfl gs_eq rfl ?_
            refine r_ld 25 I99 242 rfl rfl (by omega) (show (8001 : Int32).toInt < 8010 by omega) rfl (fun x145 (e146 : x145.toInt = A98 25 (8001 : Int32).toInt) => ?_)
            rw [hc93] at e146
            by_cases b147 : x145 ≤ x143
            · refine k_c2 250 rfl rfl (if_pos b147) ?_
              have b147 := iv_le.mp b147
              exfalso
              omega
            · refine k_c2 245 rfl rfl (if_neg b147) ?_
              have b147 := mt iv_le.mpr b147
              refine k_iload 247 rfl gs_eq rfl ?_
              refine k_goto 252 rfl rfl ?_
              have e148 : F97 28 = F87 28 := k101 28 (by decide)
              refine k_rv I99 rfl (m_goesThrough (lm := lm2) (gT := gT + 1) (gE := (ee (A98 24))) I99.1 (show sn ((A98 24)) ((A98 25)) ((A98 26)) (lm2) ((F97 28)) (gT + 1) ((ee (A98 24))) (fun _ => False) ((F97 27)) from hws.1) (show ((8000 : Int32).toInt = 8000 ∧ (8001 : Int32).toInt = 8001) ∨ ((8000 : Int32).toInt = 8001 ∧ (8001 : Int32).toInt = 8000) by omega) (show 3 ≤ ((A98 24) (8000 : Int32).toInt) ∧ ((A98 24) (8000 : Int32).toInt) ≤ 5 ∧ 1 ≤ ((A98 24) (8001 : Int32).toInt) ∧ ((A98 24) (8001 : Int32).toInt) ≤ 5 by rw [c80, c81]; have h9 := hk9; unfold hd at h9; omega) (show 0 ≤ (A98 25) (8000 : Int32).toInt ∧ (A98 25) (8000 : Int32).toInt < (A98 25) (8001 : Int32).toInt ∧ (A98 25) (8001 : Int32).toInt + 1 ≤ (gT + 1) ∧ (gT + 1) ≤ 2000000 by rw [c80, c81]; have h9 := hk9; unfold hd at h9; omega) (show tl ((A98 24) (8000 : Int32).toInt) ((A98 25) (8000 : Int32).toInt) ((lm2) (4 * (8000 : Int32).toInt)) ((lm2) (4 * (8000 : Int32).toInt + 1)) ((lm2) (4 * (8000 : Int32).toInt + 2)) from hws.tl0 c80) (show tl ((A98 24) (8001 : Int32).toInt) ((A98 25) (8001 : Int32).toInt) ((lm2) (4 * (8001 : Int32).toInt)) ((lm2) (4 * (8001 : Int32).toInt + 1)) ((lm2) (4 * (8001 : Int32).toInt + 2)) from hws.tl1 c81) (show (lm2) (4 * (8000 : Int32).toInt) = (lm2) (4 * (8001 : Int32).toInt) from hws.l01 c80 c81) (show ∀ x : Int, ((ee (A98 24))) x ↔ ((x / 4 = (8000 : Int32).toInt ∧ x % 4 < pr ((A98 24) (8000 : Int32).toInt)) ∨ (x / 4 = (8001 : Int32).toInt ∧ x % 4 < pr ((A98 24) (8001 : Int32).toInt))) from fun x => ee_01 c80 c81) (show (F97 27) + pr ((A98 24) (8000 : Int32).toInt) + pr ((A98 24) (8001 : Int32).toInt) ≤ 402 by rw [c80, c81]; have h9 := hm9; unfold hd at h9; omega) (show (A98 26) 32000 = 32004 from hws.2.1)) rfl rfl rfl I99.rc ?_
              rintro h150 F151 A152 I153 ⟨k155, k156, p154⟩
              replace p154 : (∃ lm', sn (A152 24) (A152 25) (A152 26) lm' (F151 28) (gT + 1) (fun x => ((ee (A98 24))) x ∧ x % 4 = 0) (fun _ => False) (F151 27)) ∧ A152 26 32000 = 32004 ∧ F151 27 ≤ 400 := p154
              obtain ⟨p154a, p154b, p154c⟩ := p154
              show am_Ok _ _ _ (255, _, [], _, 0, 0) _
              obtain ⟨lm3, hfin⟩ := wk_th p154a p154b
              refine k_aload 256 rfl (gs_ne rfl rfl (gs_ne rfl rfl (gs_ne rfl rfl (gs_ne rfl rfl rfl)))) rfl ?_
              refine k_aload 257 rfl (gs_ne rfl rfl (gs_ne rfl rfl (gs_ne rfl rfl (gs_ne rfl rfl rfl)))) rfl ?_
              refine r_gI I153 260 rfl rfl rfl (fun x157 (e158 : x157.toInt = F151 27) => ?_)
              refine k_aload 261 rfl (gs_ne rfl rfl (gs_ne rfl rfl (gs_ne rfl rfl (gs_ne rfl rfl rfl)))) rfl ?_
              refine r_gI I153 264 rfl rfl rfl (fun x159 (e160 : x159.toInt = F151 32) => ?_)
              have e161 : F151 32 = F97 32 := k155 32 (by decide)
              have e162 : F97 32 = F87 32 := k101 32 (by decide)
              have e163 : F87 32 = F0 32 := k91 32 (by decide)
              by_cases b164 : x157 ≤ x159
              · refine k_c2 274 rfl rfl (if_pos b164) ?_
                have b164 := iv_le.mp b164
                refine k_aload 275 rfl (gs_ne rfl rfl (gs_ne rfl rfl (gs_ne rfl rfl (gs_ne rfl rfl rfl)))) rfl ?_
                refine r_gI I153 278 rfl rfl rfl (fun x165 (e166 : x165.toInt = F151 32) => ?_)
                refine r_pI I153 281 rfl rfl rfl (fun h167 I168 => ?_)
                refine k_iload 282 rfl (gs_ne rfl rfl (gs_ne rfl rfl gs_eq)) rfl ?_
                exact k_fin rfl rfl ⟨_, _, _, _, rfl, I168, (fr1.up (by decide) (fr1.tr (by decide) (fr1.tr (by decide) (fr1.tr (by decide) fr1.rf k91) k101) k155)), (fr2.tr (by decide) (fr2.tr (by decide) (fr2.tr (by decide) fr2.rf k92) k102) k156), show nt ((A152 24)) ((A152 25)) ((A152 26)) ((F151 28)) (gT + 1) ((F151 27)) ∧ (x59.toInt = -2 ∨ x59.toInt = -1 ∨ (1 ≤ x59.toInt ∧ x59.toInt ≤ 5)) from ⟨⟨hfin.1, ⟨_, hfin.2.1⟩, hfin.2.2, by omega⟩, by omega⟩⟩
              · refine k_c2 267 rfl rfl (if_neg b164) ?_
                have b164 := mt iv_le.mpr b164
                refine k_aload 268 rfl (gs_ne rfl rfl (gs_ne rfl rfl (gs_ne rfl rfl (gs_ne rfl rfl rfl)))) rfl ?_
                refine r_gI I153 271 rfl rfl rfl (fun x169 (e170 : x169.toInt = F151 27) => ?_)
                refine k_goto 278 rfl rfl ?_
                refine r_pI I153 281 rfl rfl rfl (fun h171 I172 => ?_)
                refine k_iload 282 rfl (gs_ne rfl rfl (gs_ne rfl rfl gs_eq)) rfl ?_
                exact k_fin rfl rfl ⟨_, _, _, _, rfl, I172, (fr1.up (by decide) (fr1.tr (by decide) (fr1.tr (by decide) (fr1.tr (by decide) fr1.rf k91) k101) k155)), (fr2.tr (by decide) (fr2.tr (by decide) (fr2.tr (by decide) fr2.rf k92) k102) k156), show nt ((A152 24)) ((A152 25)) ((A152 26)) ((F151 28)) (gT + 1) ((F151 27)) ∧ (x59.toInt = -2 ∨ x59.toInt = -1 ∨ (1 ≤ x59.toInt ∧ x59.toInt ≤ 5)) from ⟨⟨hfin.1, ⟨_, hfin.2.1⟩, hfin.2.2, by omega⟩, by omega⟩⟩
        · refine k_sw 203 rfl (by unfold am_tb; rw [b103]; decide) ?_
          refine k_aload 204 rfl (gs_ne rfl rfl (gs_ne rfl rfl (gs_ne rfl rfl (gs_ne rfl rfl rfl)))) rfl ?_
          refine k_aload 205 rfl (gs_ne rfl rfl (gs_ne rfl rfl (gs_ne rfl rfl (gs_ne rfl rfl rfl)))) rfl ?_
          refine r_gA I99 208 rfl rfl rfl ?_
          refine k_iload 210 rfl (gs_ne rfl rfl gs_eq) rfl ?_
          refine r_ld 25 I99 211 rfl rfl (by omega) (show (8000 : Int32).toInt < 8010 by omega) rfl (fun x173 (e174 : x173.toInt = A98 25 (8000 : Int32).toInt) => ?_)
          rw [hc84] at e174
          refine k_aload 212 rfl (gs_ne rfl rfl (gs_ne rfl rfl (gs_ne rfl rfl (gs_ne rfl rfl rfl)))) rfl ?_
          refine r_gA I99 215 rfl rfl rfl ?_
          refine k_iload 217 rfl gs_eq rfl ?_
          refine r_ld 25 I99 218 rfl rfl (by omega) (show (8001 : Int32).toInt < 8010 by omega) rfl (fun x175 (e176 : x175.toInt = A98 25 (8001 : Int32).toInt) => ?_)
          rw [hc93] at e176
          by_cases b177 : x175 ≤ x173
          · refine k_c2 226 rfl rfl (if_pos b177) ?_
            have b177 := iv_le.mp b177
            refine k_iload 228 rfl gs_eq rfl ?_
            refine k_aload 229 rfl (gs_ne rfl rfl (gs_ne rfl rfl (gs_ne rfl rfl (gs_ne rfl rfl rfl)))) rfl ?_
            refine r_gA I99 232 rfl rfl rfl ?_
            refine k_iload 234 rfl (gs_ne rfl rfl gs_eq) rfl ?_
            refine r_ld 25 I99 235 rfl rfl (by omega) (show (8000 : Int32).toInt < 8010 by omega) rfl (fun x178 (e179 : x178.toInt = A98 25 (8000 : Int32).toInt) => ?_)
            rw [hc84] at e179
            refine k_aload 236 rfl (gs_ne rfl rfl (gs_ne rfl rfl (gs_ne rfl rfl (gs_ne rfl rfl rfl)))) rfl ?_
            refine r_gA I99 239 rfl rfl rfl ?_
            refine k_iload 241 rfl gs_eq rfl ?_
            refine r_ld 25 I99 242 rfl rfl (by omega) (show (8001 : Int32).toInt < 8010 by omega) rfl (fun x180 (e181 : x180.toInt = A98 25 (8001 : Int32).toInt) => ?_)
            rw [hc93] at e181
            by_cases b182 : x180 ≤ x178
            · refine k_c2 250 rfl rfl (if_pos b182) ?_
              have b182 := iv_le.mp b182
              refine k_iload 252 rfl (gs_ne rfl rfl gs_eq) rfl ?_
              have e183 : F97 28 = F87 28 := k101 28 (by decide)
              refine k_rv I99 rfl (m_goesThrough (lm := lm2) (gT := gT + 1) (gE := (ee (A98 24))) I99.1 (show sn ((A98 24)) ((A98 25)) ((A98 26)) (lm2) ((F97 28)) (gT + 1) ((ee (A98 24))) (fun _ => False) ((F97 27)) from hws.1) (show ((8001 : Int32).toInt = 8000 ∧ (8000 : Int32).toInt = 8001) ∨ ((8001 : Int32).toInt = 8001 ∧ (8000 : Int32).toInt = 8000) by omega) (show 3 ≤ ((A98 24) (8001 : Int32).toInt) ∧ ((A98 24) (8001 : Int32).toInt) ≤ 5 ∧ 1 ≤ ((A98 24) (8000 : Int32).toInt) ∧ ((A98 24) (8000 : Int32).toInt) ≤ 5 by rw [c80, c81]; have h9 := hk9; unfold hd at h9; omega) (show 0 ≤ (A98 25) (8001 : Int32).toInt ∧ (A98 25) (8001 : Int32).toInt < (A98 25) (8000 : Int32).toInt ∧ (A98 25) (8000 : Int32).toInt + 1 ≤ (gT + 1) ∧ (gT + 1) ≤ 2000000 by rw [c80, c81]; have h9 := hk9; unfold hd at h9; omega) (show tl ((A98 24) (8001 : Int32).toInt) ((A98 25) (8001 : Int32).toInt) ((lm2) (4 * (8001 : Int32).toInt)) ((lm2) (4 * (8001 : Int32).toInt + 1)) ((lm2) (4 * (8001 : Int32).toInt + 2)) from hws.tl1 c81) (show tl ((A98 24) (8000 : Int32).toInt) ((A98 25) (8000 : Int32).toInt) ((lm2) (4 * (8000 : Int32).toInt)) ((lm2) (4 * (8000 : Int32).toInt + 1)) ((lm2) (4 * (8000 : Int32).toInt + 2)) from hws.tl0 c80) (show (lm2) (4 * (8001 : Int32).toInt) = (lm2) (4 * (8000 : Int32).toInt) from (hws.l01 c80 c81).symm) (show ∀ x : Int, ((ee (A98 24))) x ↔ ((x / 4 = (8001 : Int32).toInt ∧ x % 4 < pr ((A98 24) (8001 : Int32).toInt)) ∨ (x / 4 = (8000 : Int32).toInt ∧ x % 4 < pr ((A98 24) (8000 : Int32).toInt))) from fun x => ee_10 c80 c81) (show (F97 27) + pr ((A98 24) (8001 : Int32).toInt) + pr ((A98 24) (8000 : Int32).toInt) ≤ 402 by rw [c80, c81]; have h9 := hm9; unfold hd at h9; omega) (show (A98 26) 32000 = 32004 from hws.2.1)) rfl rfl rfl I99.rc ?_
              rintro h185 F186 A187 I188 ⟨k190, k191, p189⟩
              replace p189 : (∃ lm', sn (A187 24) (A187 25) (A187 26) lm' (F186 28) (gT + 1) (fun x => ((ee (A98 24))) x ∧ x % 4 = 0) (fun _ => False) (F186 27)) ∧ A187 26 32000 = 32004 ∧ F186 27 ≤ 400 := p189
              obtain ⟨p189a, p189b, p189c⟩ := p189
              show am_Ok _ _ _ (255, _, [], _, 0, 0) _
              obtain ⟨lm3, hfin⟩ := wk_th p189a p189b
              refine k_aload 256 rfl (gs_ne rfl rfl (gs_ne rfl rfl (gs_ne rfl rfl (gs_ne rfl rfl rfl)))) rfl ?_
              refine k_aload 257 rfl (gs_ne rfl rfl (gs_ne rfl rfl (gs_ne rfl rfl (gs_ne rfl rfl rfl)))) rfl ?_
              refine r_gI I188 260 rfl rfl rfl (fun x192 (e193 : x192.toInt = F186 27) => ?_)
              refine k_aload 261 rfl (gs_ne rfl rfl (gs_ne rfl rfl (gs_ne rfl rfl (gs_ne rfl rfl rfl)))) rfl ?_
              refine r_gI I188 264 rfl rfl rfl (fun x194 (e195 : x194.toInt = F186 32) => ?_)
              have e196 : F186 32 = F97 32 := k190 32 (by decide)
              have e197 : F97 32 = F87 32 := k101 32 (by decide)
              have e198 : F87 32 = F0 32 := k91 32 (by decide)
              by_cases b199 : x192 ≤ x194
              · refine k_c2 274 rfl rfl (if_pos b199) ?_
                have b199 := iv_le.mp b199
                refine k_aload 275 rfl (gs_ne rfl rfl (gs_ne rfl rfl (gs_ne rfl rfl (gs_ne rfl rfl rfl)))) rfl ?_
                refine r_gI I188 278 rfl rfl rfl (fun x200 (e201 : x200.toInt = F186 32) => ?_)
                refine r_pI I188 281 rfl rfl rfl (fun h202 I203 => ?_)
                refine k_iload 282 rfl (gs_ne rfl rfl (gs_ne rfl rfl gs_eq)) rfl ?_
                exact k_fin rfl rfl ⟨_, _, _, _, rfl, I203, (fr1.up (by decide) (fr1.tr (by decide) (fr1.tr (by decide) (fr1.tr (by decide) fr1.rf k91) k101) k190)), (fr2.tr (by decide) (fr2.tr (by decide) (fr2.tr (by decide) fr2.rf k92) k102) k191), show nt ((A187 24)) ((A187 25)) ((A187 26)) ((F186 28)) (gT + 1) ((F186 27)) ∧ (x59.toInt = -2 ∨ x59.toInt = -1 ∨ (1 ≤ x59.toInt ∧ x59.toInt ≤ 5)) from ⟨⟨hfin.1, ⟨_, hfin.2.1⟩, hfin.2.2, by omega⟩, by omega⟩⟩
              · refine k_c2 267 rfl rfl (if_neg b199) ?_
                have b199 := mt iv_le.mpr b199
                refine k_aload 268 rfl (gs_ne rfl rfl (gs_ne rfl rfl (gs_ne rfl rfl (gs_ne rfl rfl rfl)))) rfl ?_
                refine r_gI I188 271 rfl rfl rfl (fun x204 (e205 : x204.toInt = F186 27) => ?_)
                refine k_goto 278 rfl rfl ?_
                refine r_pI I188 281 rfl rfl rfl (fun h206 I207 => ?_)
                refine k_iload 282 rfl (gs_ne rfl rfl (gs_ne rfl rfl gs_eq)) rfl ?_
                exact k_fin rfl rfl ⟨_, _, _, _, rfl, I207, (fr1.up (by decide) (fr1.tr (by decide) (fr1.tr (by decide) (fr1.tr (by decide) fr1.rf k91) k101) k190)), (fr2.tr (by decide) (fr2.tr (by decide) (fr2.tr (by decide) fr2.rf k92) k102) k191), show nt ((A187 24)) ((A187 25)) ((A187 26)) ((F186 28)) (gT + 1) ((F186 27)) ∧ (x59.toInt = -2 ∨ x59.toInt = -1 ∨ (1 ≤ x59.toInt ∧ x59.toInt ≤ 5)) from ⟨⟨hfin.1, ⟨_, hfin.2.1⟩, hfin.2.2, by omega⟩, by omega⟩⟩
            · refine k_c2 245 rfl rfl (if_neg b182) ?_
              have b182 := mt iv_le.mpr b182
              exfalso
              omega
          · refine k_c2 221 rfl rfl (if_neg b177) ?_
            have b177 := mt iv_le.mpr b177
            refine k_iload 223 rfl (gs_ne rfl rfl gs_eq) rfl ?_
            refine k_goto 228 rfl rfl ?_
            refine k_aload 229 rfl (gs_ne rfl rfl (gs_ne rfl rfl (gs_ne rfl rfl (gs_ne rfl rfl rfl)))) rfl ?_
            refine r_gA I99 232 rfl rfl rfl ?_
            refine k_iload 234 rfl (gs_ne rfl rfl gs_eq) rfl ?_
            refine r_ld 25 I99 235 rfl rfl (by omega) (show (8000 : Int32).toInt < 8010 by omega) rfl (fun x208 (e209 : x208.toInt = A98 25 (8000 : Int32).toInt) => ?_)
            rw [hc84] at e209
            refine k_aload 236 rfl (gs_ne rfl rfl (gs_ne rfl rfl (gs_ne rfl rfl (gs_ne rfl rfl rfl)))) rfl ?_
            refine r_gA I99 239 rfl rfl rfl ?_
            refine k_iload 241 rfl gs_eq rfl ?_
            refine r_ld 25 I99 242 rfl rfl (by omega) (show (8001 : Int32).toInt < 8010 by omega) rfl (fun x210 (e211 : x210.toInt = A98 25 (8001 : Int32).toInt) => ?_)
            rw [hc93] at e211
            by_cases b212 : x210 ≤ x208
            · refine k_c2 250 rfl rfl (if_pos b212) ?_
              have b212 := iv_le.mp b212
              exfalso
              omega
            · refine k_c2 245 rfl rfl (if_neg b212) ?_
              have b212 := mt iv_le.mpr b212
              refine k_iload 247 rfl gs_eq rfl ?_
              refine k_goto 252 rfl rfl ?_
              have e213 : F97 28 = F87 28 := k101 28 (by decide)
              refine k_rv I99 rfl (m_goesThrough (lm := lm2) (gT := gT + 1) (gE := (ee (A98 24))) I99.1 (show sn ((A98 24)) ((A98 25)) ((A98 26)) (lm2) ((F97 28)) (gT + 1) ((ee (A98 24))) (fun _ => False) ((F97 27)) from hws.1) (show ((8000 : Int32).toInt = 8000 ∧ (8001 : Int32).toInt = 8001) ∨ ((8000 : Int32).toInt = 8001 ∧ (8001 : Int32).toInt = 8000) by omega) (show 3 ≤ ((A98 24) (8000 : Int32).toInt) ∧ ((A98 24) (8000 : Int32).toInt) ≤ 5 ∧ 1 ≤ ((A98 24) (8001 : Int32).toInt) ∧ ((A98 24) (8001 : Int32).toInt) ≤ 5 by rw [c80, c81]; have h9 := hk9; unfold hd at h9; omega) (show 0 ≤ (A98 25) (8000 : Int32).toInt ∧ (A98 25) (8000 : Int32).toInt < (A98 25) (8001 : Int32).toInt ∧ (A98 25) (8001 : Int32).toInt + 1 ≤ (gT + 1) ∧ (gT + 1) ≤ 2000000 by rw [c80, c81]; have h9 := hk9; unfold hd at h9; omega) (show tl ((A98 24) (8000 : Int32).toInt) ((A98 25) (8000 : Int32).toInt) ((lm2) (4 * (8000 : Int32).toInt)) ((lm2) (4 * (8000 : Int32).toInt + 1)) ((lm2) (4 * (8000 : Int32).toInt + 2)) from hws.tl0 c80) (show tl ((A98 24) (8001 : Int32).toInt) ((A98 25) (8001 : Int32).toInt) ((lm2) (4 * (8001 : Int32).toInt)) ((lm2) (4 * (8001 : Int32).toInt + 1)) ((lm2) (4 * (8001 : Int32).toInt + 2)) from hws.tl1 c81) (show (lm2) (4 * (8000 : Int32).toInt) = (lm2) (4 * (8001 : Int32).toInt) from hws.l01 c80 c81) (show ∀ x : Int, ((ee (A98 24))) x ↔ ((x / 4 = (8000 : Int32).toInt ∧ x % 4 < pr ((A98 24) (8000 : Int32).toInt)) ∨ (x / 4 = (8001 : Int32).toInt ∧ x % 4 < pr ((A98 24) (8001 : Int32).toInt))) from fun x => ee_01 c80 c81) (show (F97 27) + pr ((A98 24) (8000 : Int32).toInt) + pr ((A98 24) (8001 : Int32).toInt) ≤ 402 by rw [c80, c81]; have h9 := hm9; unfold hd at h9; omega) (show (A98 26) 32000 = 32004 from hws.2.1)) rfl rfl rfl I99.rc ?_
              rintro h215 F216 A217 I218 ⟨k220, k221, p219⟩
              replace p219 : (∃ lm', sn (A217 24) (A217 25) (A217 26) lm' (F216 28) (gT + 1) (fun x => ((ee (A98 24))) x ∧ x % 4 = 0) (fun _ => False) (F216 27)) ∧ A217 26 32000 = 32004 ∧ F216 27 ≤ 400 := p219
              obtain ⟨p219a, p219b, p219c⟩ := p219
              show am_Ok _ _ _ (255, _, [], _, 0, 0) _
              obtain ⟨lm3, hfin⟩ := wk_th p219a p219b
              refine k_aload 256 rfl (gs_ne rfl rfl (gs_ne rfl rfl (gs_ne rfl rfl (gs_ne rfl rfl rfl)))) rfl ?_
              refine k_aload 257 rfl (gs_ne rfl rfl (gs_ne rfl rfl (gs_ne rfl rfl (gs_ne rfl rfl rfl)))) rfl ?_
              refine r_gI I218 260 rfl rfl rfl (fun x222 (e223 : x222.toInt = F216 27) => ?_)
              refine k_aload 261 rfl (gs_ne rfl rfl (gs_ne rfl rfl (gs_ne rfl rfl (gs_ne rfl rfl rfl)))) rfl ?_
              refine r_gI I218 264 rfl rfl rfl (fun x224 (e225 : x224.toInt = F216 32) => ?_)
              have e226 : F216 32 = F97 32 := k220 32 (by decide)
              have e227 : F97 32 = F87 32 := k101 32 (by decide)
              have e228 : F87 32 = F0 32 := k91 32 (by decide)
              by_cases b229 : x222 ≤ x224
              · refine k_c2 274 rfl rfl (if_pos b229) ?_
                have b229 := iv_le.mp b229
                refine k_aload 275 rfl (gs_ne rfl rfl (gs_ne rfl rfl (gs_ne rfl rfl (gs_ne rfl rfl rfl)))) rfl ?_
                refine r_gI I218 278 rfl rfl rfl (fun x230 (e231 : x230.toInt = F216 32) => ?_)
                refine r_pI I218 281 rfl rfl rfl (fun h232 I233 => ?_)
                refine k_iload 282 rfl (gs_ne rfl rfl (gs_ne rfl rfl gs_eq)) rfl ?_
                exact k_fin rfl rfl ⟨_, _, _, _, rfl, I233, (fr1.up (by decide) (fr1.tr (by decide) (fr1.tr (by decide) (fr1.tr (by decide) fr1.rf k91) k101) k220)), (fr2.tr (by decide) (fr2.tr (by decide) (fr2.tr (by decide) fr2.rf k92) k102) k221), show nt ((A217 24)) ((A217 25)) ((A217 26)) ((F216 28)) (gT + 1) ((F216 27)) ∧ (x59.toInt = -2 ∨ x59.toInt = -1 ∨ (1 ≤ x59.toInt ∧ x59.toInt ≤ 5)) from ⟨⟨hfin.1, ⟨_, hfin.2.1⟩, hfin.2.2, by omega⟩, by omega⟩⟩
              · refine k_c2 267 rfl rfl (if_neg b229) ?_
                have b229 := mt iv_le.mpr b229
                refine k_aload 268 rfl (gs_ne rfl rfl (gs_ne rfl rfl (gs_ne rfl rfl (gs_ne rfl rfl rfl)))) rfl ?_
                refine r_gI I218 271 rfl rfl rfl (fun x234 (e235 : x234.toInt = F216 27) => ?_)
                refine k_goto 278 rfl rfl ?_
                refine r_pI I218 281 rfl rfl rfl (fun h236 I237 => ?_)
                refine k_iload 282 rfl (gs_ne rfl rfl (gs_ne rfl rfl gs_eq)) rfl ?_
                exact k_fin rfl rfl ⟨_, _, _, _, rfl, I237, (fr1.up (by decide) (fr1.tr (by decide) (fr1.tr (by decide) (fr1.tr (by decide) fr1.rf k91) k101) k220)), (fr2.tr (by decide) (fr2.tr (by decide) (fr2.tr (by decide) fr2.rf k92) k102) k221), show nt ((A217 24)) ((A217 25)) ((A217 26)) ((F216 28)) (gT + 1) ((F216 27)) ∧ (x59.toInt = -2 ∨ x59.toInt = -1 ∨ (1 ≤ x59.toInt ∧ x59.toInt ≤ 5)) from ⟨⟨hfin.1, ⟨_, hfin.2.1⟩, hfin.2.2, by omega⟩, by omega⟩⟩
        · refine k_sw 108 rfl (by unfold am_tb; rw [b103]; decide) ?_
          refine k_aload 109 rfl (gs_ne rfl rfl (gs_ne rfl rfl (gs_ne rfl rfl (gs_ne rfl rfl rfl)))) rfl ?_
          refine r_gA I99 112 rfl rfl rfl ?_
          refine k_iload 114 rfl (gs_ne rfl rfl gs_eq) rfl ?_
          refine r_ld 24 I99 115 rfl rfl (by omega) (show (8000 : Int32).toInt < 8010 by omega) rfl (fun x238 (e239 : x238.toInt = A98 24 (8000 : Int32).toInt) => ?_)
          rw [hc84] at e239
          refine k_push 117 rfl rfl ?_
          have hc240 : (6 : Int32).toInt = 6 := by decide
          by_cases b241 : x238 = (6 : Int32)
          · refine k_c2 120 rfl rfl (if_pos b241) ?_
            have b241 := iv_eq.mp b241
            refine k_aload 121 rfl (gs_ne rfl rfl (gs_ne rfl rfl (gs_ne rfl rfl (gs_ne rfl rfl rfl)))) rfl ?_
            refine r_gA I99 124 rfl rfl rfl ?_
            refine k_iload 126 rfl gs_eq rfl ?_
            refine r_ld 24 I99 127 rfl rfl (by omega) (show (8001 : Int32).toInt < 8010 by omega) rfl (fun x242 (e243 : x242.toInt = A98 24 (8001 : Int32).toInt) => ?_)
            rw [hc93] at e243
            refine k_push 129 rfl rfl ?_
            by_cases b244 : x242 = (6 : Int32)
            · refine k_c2 255 rfl rfl (if_pos b244) ?_
              have b244 := iv_eq.mp b244
              have hfin := e6_end hws (by omega) (by omega)
              refine k_aload 256 rfl (gs_ne rfl rfl (gs_ne rfl rfl (gs_ne rfl rfl (gs_ne rfl rfl rfl)))) rfl ?_
              refine k_aload 257 rfl (gs_ne rfl rfl (gs_ne rfl rfl (gs_ne rfl rfl (gs_ne rfl rfl rfl)))) rfl ?_
              refine r_gI I99 260 rfl rfl rfl (fun x245 (e246 : x245.toInt = F97 27) => ?_)
              refine k_aload 261 rfl (gs_ne rfl rfl (gs_ne rfl rfl (gs_ne rfl rfl (gs_ne rfl rfl rfl)))) rfl ?_
              refine r_gI I99 264 rfl rfl rfl (fun x247 (e248 : x247.toInt = F97 32) => ?_)
              have e249 : F97 32 = F87 32 := k101 32 (by decide)
              have e250 : F87 32 = F0 32 := k91 32 (by decide)
              by_cases b251 : x245 ≤ x247
              · refine k_c2 274 rfl rfl (if_pos b251) ?_
                have b251 := iv_le.mp b251
                refine k_aload 275 rfl (gs_ne rfl rfl (gs_ne rfl rfl (gs_ne rfl rfl (gs_ne rfl rfl rfl)))) rfl ?_
                refine r_gI I99 278 rfl rfl rfl (fun x252 (e253 : x252.toInt = F97 32) => ?_)
                refine r_pI I99 281 rfl rfl rfl (fun h254 I255 => ?_)
                refine k_iload 282 rfl (gs_ne rfl rfl (gs_ne rfl rfl gs_eq)) rfl ?_
                have e256 : F97 28 = F87 28 := k101 28 (by decide)
                exact k_fin rfl rfl ⟨_, _, _, _, rfl, I255, (fr1.up (by decide) (fr1.tr (by decide) (fr1.tr (by decide) fr1.rf k91) k101)), (fr2.tr (by decide) (fr2.tr (by decide) fr2.rf k92) k102), show nt ((A98 24)) ((A98 25)) ((A98 26)) ((F97 28)) (gT + 1) ((F97 27)) ∧ (x59.toInt = -2 ∨ x59.toInt = -1 ∨ (1 ≤ x59.toInt ∧ x59.toInt ≤ 5)) from ⟨⟨hfin.1, ⟨_, hfin.2.1⟩, hfin.2.2, by omega⟩, by omega⟩⟩
              · refine k_c2 267 rfl rfl (if_neg b251) ?_
                have b251 := mt iv_le.mpr b251
                refine k_aload 268 rfl (gs_ne rfl rfl (gs_ne rfl rfl (gs_ne rfl rfl (gs_ne rfl rfl rfl)))) rfl ?_
                refine r_gI I99 271 rfl rfl rfl (fun x257 (e258 : x257.toInt = F97 27) => ?_)
                refine k_goto 278 rfl rfl ?_
                refine r_pI I99 281 rfl rfl rfl (fun h259 I260 => ?_)
                refine k_iload 282 rfl (gs_ne rfl rfl (gs_ne rfl rfl gs_eq)) rfl ?_
                have e261 : F97 28 = F87 28 := k101 28 (by decide)
                exact k_fin rfl rfl ⟨_, _, _, _, rfl, I260, (fr1.up (by decide) (fr1.tr (by decide) (fr1.tr (by decide) fr1.rf k91) k101)), (fr2.tr (by decide) (fr2.tr (by decide) fr2.rf k92) k102), show nt ((A98 24)) ((A98 25)) ((A98 26)) ((F97 28)) (gT + 1) ((F97 27)) ∧ (x59.toInt = -2 ∨ x59.toInt = -1 ∨ (1 ≤ x59.toInt ∧ x59.toInt ≤ 5)) from ⟨⟨hfin.1, ⟨_, hfin.2.1⟩, hfin.2.2, by omega⟩, by omega⟩⟩
            · refine k_c2 132 rfl rfl (if_neg b244) ?_
              have b244 := mt iv_eq.mpr b244
              refine k_aload 133 rfl (gs_ne rfl rfl (gs_ne rfl rfl (gs_ne rfl rfl (gs_ne rfl rfl rfl)))) rfl ?_
              refine k_aload 134 rfl (gs_ne rfl rfl (gs_ne rfl rfl (gs_ne rfl rfl (gs_ne rfl rfl rfl)))) rfl ?_
              refine r_gA I99 137 rfl rfl rfl ?_
              refine k_iload 139 rfl (gs_ne rfl rfl gs_eq) rfl ?_
              refine r_ld 24 I99 140 rfl rfl (by omega) (show (8000 : Int32).toInt < 8010 by omega) rfl (fun x262 (e263 : x262.toInt = A98 24 (8000 : Int32).toInt) => ?_)
              rw [hc84] at e263
              refine k_push 142 rfl rfl ?_
              by_cases b264 : x262 = (6 : Int32)
              · refine k_c2 145 rfl rfl (if_pos b264) ?_
                have b264 := iv_eq.mp b264
                refine k_iload 147 rfl gs_eq rfl ?_
                refine k_goto 152 rfl rfl ?_
                have e265 : F97 28 = F87 28 := k101 28 (by decide)
                refine k_rv I99 rfl (m_erases (lm := lm2) (gT := gT + 1) (gE := (ee (A98 24))) I99.1 (show sn ((A98 24)) ((A98 25)) ((A98 26)) (lm2) ((F97 28)) (gT + 1) ((ee (A98 24))) (fun _ => False) ((F97 27)) from hws.1) (show 8000 ≤ (8001 : Int32).toInt ∧ (8001 : Int32).toInt ≤ 8001 ∧ (F97 27) + pr ((A98 24) (8001 : Int32).toInt) ≤ 401 by have h9 := hm9; unfold hd at h9; (first | rw [c80] | rw [c81]); omega) (show ∀ i : Int, 0 < i → i < pr ((A98 24) (8001 : Int32).toInt) → ((ee (A98 24))) (4 * (8001 : Int32).toInt + i) from fun i i1 i2 => ee_p (by omega) i1 i2) (show (A98 26) 32000 = 32004 from hws.2.1)) rfl rfl rfl I99.rc ?_
                rintro h267 F268 A269 I270 ⟨k272, k273, p271⟩
                replace p271 : (∃ lm', sn (A269 24) (A269 25) (A269 26) lm' (F268 28) (gT + 1) (fun x => ((ee (A98 24))) x ∧ ¬ (x / 4 = (8001 : Int32).toInt ∧ 0 < x % 4 ∧ x % 4 < pr ((A98 24) (8001 : Int32).toInt))) (fun _ => False) (F268 27)) ∧ A269 26 32000 = 32004 ∧ F268 27 ≤ 400 := p271
                obtain ⟨p271a, p271b, p271c⟩ := p271
                show am_Ok _ _ _ (155, _, [], _, 0, 0) _
                refine k_goto 255 rfl rfl ?_
                obtain ⟨lm3, hfin⟩ := wk_er p271a p271b (by have h9 := hk9; unfold hd at h9; omega)
                refine k_aload 256 rfl (gs_ne rfl rfl (gs_ne rfl rfl (gs_ne rfl rfl (gs_ne rfl rfl rfl)))) rfl ?_
                refine k_aload 257 rfl (gs_ne rfl rfl (gs_ne rfl rfl (gs_ne rfl rfl (gs_ne rfl rfl rfl)))) rfl ?_
                refine r_gI I270 260 rfl rfl rfl (fun x274 (e275 : x274.toInt = F268 27) => ?_)
                refine k_aload 261 rfl (gs_ne rfl rfl (gs_ne rfl rfl (gs_ne rfl rfl (gs_ne rfl rfl rfl)))) rfl ?_
                refine r_gI I270 264 rfl rfl rfl (fun x276 (e277 : x276.toInt = F268 32) => ?_)
                have e278 : F268 32 = F97 32 := k272 32 (by decide)
                have e279 : F97 32 = F87 32 := k101 32 (by decide)
                have e280 : F87 32 = F0 32 := k91 32 (by decide)
                by_cases b281 : x274 ≤ x276
                · refine k_c2 274 rfl rfl (if_pos b281) ?_
                  have b281 := iv_le.mp b281
                  refine k_aload 275 rfl (gs_ne rfl rfl (gs_ne rfl rfl (gs_ne rfl rfl (gs_ne rfl rfl rfl)))) rfl ?_
                  refine r_gI I270 278 rfl rfl rfl (fun x282 (e283 : x282.toInt = F268 32) => ?_)
                  refine r_pI I270 281 rfl rfl rfl (fun h284 I285 => ?_)
                  refine k_iload 282 rfl (gs_ne rfl rfl (gs_ne rfl rfl gs_eq)) rfl ?_
                  exact k_fin rfl rfl ⟨_, _, _, _, rfl, I285, (fr1.up (by decide) (fr1.tr (by decide) (fr1.tr (by decide) (fr1.tr (by decide) fr1.rf k91) k101) k272)), (fr2.tr (by decide) (fr2.tr (by decide) (fr2.tr (by decide) fr2.rf k92) k102) k273), show nt ((A269 24)) ((A269 25)) ((A269 26)) ((F268 28)) (gT + 1) ((F268 27)) ∧ (x59.toInt = -2 ∨ x59.toInt = -1 ∨ (1 ≤ x59.toInt ∧ x59.toInt ≤ 5)) from ⟨⟨hfin.1, ⟨_, hfin.2.1⟩, hfin.2.2, by omega⟩, by omega⟩⟩
                · refine k_c2 267 rfl rfl (if_neg b281) ?_
                  have b281 := mt iv_le.mpr b281
                  refine k_aload 268 rfl (gs_ne rfl rfl (gs_ne rfl rfl (gs_ne rfl rfl (gs_ne rfl rfl rfl)))) rfl ?_
                  refine r_gI I270 271 rfl rfl rfl (fun x286 (e287 : x286.toInt = F268 27) => ?_)
                  refine k_goto 278 rfl rfl ?_
                  refine r_pI I270 281 rfl rfl rfl (fun h288 I289 => ?_)
                  refine k_iload 282 rfl (gs_ne rfl rfl (gs_ne rfl rfl gs_eq)) rfl ?_
                  exact k_fin rfl rfl ⟨_, _, _, _, rfl, I289, (fr1.up (by decide) (fr1.tr (by decide) (fr1.tr (by decide) (fr1.tr (by decide) fr1.rf k91) k101) k272)), (fr2.tr (by decide) (fr2.tr (by decide) (fr2.tr (by decide) fr2.rf k92) k102) k273), show nt ((A269 24)) ((A269 25)) ((A269 26)) ((F268 28)) (gT + 1) ((F268 27)) ∧ (x59.toInt = -2 ∨ x59.toInt = -1 ∨ (1 ≤ x59.toInt ∧ x59.toInt ≤ 5)) from ⟨⟨hfin.1, ⟨_, hfin.2.1⟩, hfin.2.2, by omega⟩, by omega⟩⟩
              · refine k_c2 150 rfl rfl (if_neg b264) ?_
                have b264 := mt iv_eq.mpr b264
                exfalso
                omega
          · refine k_c2 132 rfl rfl (if_neg b241) ?_
            have b241 := mt iv_eq.mpr b241
            refine k_aload 133 rfl (gs_ne rfl rfl (gs_ne rfl rfl (gs_ne rfl rfl (gs_ne rfl rfl rfl)))) rfl ?_
            refine k_aload 134 rfl (gs_ne rfl rfl (gs_ne rfl rfl (gs_ne rfl rfl (gs_ne rfl rfl rfl)))) rfl ?_
            refine r_gA I99 137 rfl rfl rfl ?_
            refine k_iload 139 rfl (gs_ne rfl rfl gs_eq) rfl ?_
            refine r_ld 24 I99 140 rfl rfl (by omega) (show (8000 : Int32).toInt < 8010 by omega) rfl (fun x290 (e291 : x290.toInt = A98 24 (8000 : Int32).toInt) => ?_)
            rw [hc84] at e291
            refine k_push 142 rfl rfl ?_
            by_cases b292 : x290 = (6 : Int32)
            · refine k_c2 145 rfl rfl (if_pos b292) ?_
              have b292 := iv_eq.mp b292
              exfalso
              omega
            · refine k_c2 150 rfl rfl (if_neg b292) ?_
              have b292 := mt iv_eq.mpr b292
              refine k_iload 152 rfl (gs_ne rfl rfl gs_eq) rfl ?_
              have e293 : F97 28 = F87 28 := k101 28 (by decide)
              refine k_rv I99 rfl (m_erases (lm := lm2) (gT := gT + 1) (gE := (ee (A98 24))) I99.1 (show sn ((A98 24)) ((A98 25)) ((A98 26)) (lm2) ((F97 28)) (gT + 1) ((ee (A98 24))) (fun _ => False) ((F97 27)) from hws.1) (show 8000 ≤ (8000 : Int32).toInt ∧ (8000 : Int32).toInt ≤ 8001 ∧ (F97 27) + pr ((A98 24) (8000 : Int32).toInt) ≤ 401 by have h9 := hm9; unfold hd at h9; (first | rw [c80] | rw [c81]); omega) (show ∀ i : Int, 0 < i → i < pr ((A98 24) (8000 : Int32).toInt) → ((ee (A98 24))) (4 * (8000 : Int32).toInt + i) from fun i i1 i2 => ee_p (by omega) i1 i2) (show (A98 26) 32000 = 32004 from hws.2.1)) rfl rfl rfl I99.rc ?_
              rintro h295 F296 A297 I298 ⟨k300, k301, p299⟩
              replace p299 : (∃ lm', sn (A297 24) (A297 25) (A297 26) lm' (F296 28) (gT + 1) (fun x => ((ee (A98 24))) x ∧ ¬ (x / 4 = (8000 : Int32).toInt ∧ 0 < x % 4 ∧ x % 4 < pr ((A98 24) (8000 : Int32).toInt))) (fun _ => False) (F296 27)) ∧ A297 26 32000 = 32004 ∧ F296 27 ≤ 400 := p299
              obtain ⟨p299a, p299b, p299c⟩ := p299
              show am_Ok _ _ _ (155, _, [], _, 0, 0) _
              refine k_goto 255 rfl rfl ?_
              obtain ⟨lm3, hfin⟩ := wk_er p299a p299b (by have h9 := hk9; unfold hd at h9; omega)
              refine k_aload 256 rfl (gs_ne rfl rfl (gs_ne rfl rfl (gs_ne rfl rfl (gs_ne rfl rfl rfl)))) rfl ?_
              refine k_aload 257 rfl (gs_ne rfl rfl (gs_ne rfl rfl (gs_ne rfl rfl (gs_ne rfl rfl rfl)))) rfl ?_
              refine r_gI I298 260 rfl rfl rfl (fun x302 (e303 : x302.toInt = F296 27) => ?_)
              refine k_aload 261 rfl (gs_ne rfl rfl (gs_ne rfl rfl (gs_ne rfl rfl (gs_ne rfl rfl rfl)))) rfl ?_
              refine r_gI I298 264 rfl rfl rfl (fun x304 (e305 : x304.toInt = F296 32) => ?_)
              have e306 : F296 32 = F97 32 := k300 32 (by decide)
              have e307 : F97 32 = F87 32 := k101 32 (by decide)
              have e308 : F87 32 = F0 32 := k91 32 (by decide)
              by_cases b309 : x302 ≤ x304
              · refine k_c2 274 rfl rfl (if_pos b309) ?_
                have b309 := iv_le.mp b309
                refine k_aload 275 rfl (gs_ne rfl rfl (gs_ne rfl rfl (gs_ne rfl rfl (gs_ne rfl rfl rfl)))) rfl ?_
                refine r_gI I298 278 rfl rfl rfl (fun x310 (e311 : x310.toInt = F296 32) => ?_)
                refine r_pI I298 281 rfl rfl rfl (fun h312 I313 => ?_)
                refine k_iload 282 rfl (gs_ne rfl rfl (gs_ne rfl rfl gs_eq)) rfl ?_
                exact k_fin rfl rfl ⟨_, _, _, _, rfl, I313, (fr1.up (by decide) (fr1.tr (by decide) (fr1.tr (by decide) (fr1.tr (by decide) fr1.rf k91) k101) k300)), (fr2.tr (by decide) (fr2.tr (by decide) (fr2.tr (by decide) fr2.rf k92) k102) k301), show nt ((A297 24)) ((A297 25)) ((A297 26)) ((F296 28)) (gT + 1) ((F296 27)) ∧ (x59.toInt = -2 ∨ x59.toInt = -1 ∨ (1 ≤ x59.toInt ∧ x59.toInt ≤ 5)) from ⟨⟨hfin.1, ⟨_, hfin.2.1⟩, hfin.2.2, by omega⟩, by omega⟩⟩
              · refine k_c2 267 rfl rfl (if_neg b309) ?_
                have b309 := mt iv_le.mpr b309
                refine k_aload 268 rfl (gs_ne rfl rfl (gs_ne rfl rfl (gs_ne rfl rfl (gs_ne rfl rfl rfl)))) rfl ?_
                refine r_gI I298 271 rfl rfl rfl (fun x314 (e315 : x314.toInt = F296 27) => ?_)
                refine k_goto 278 rfl rfl ?_
                refine r_pI I298 281 rfl rfl rfl (fun h316 I317 => ?_)
                refine k_iload 282 rfl (gs_ne rfl rfl (gs_ne rfl rfl gs_eq)) rfl ?_
                exact k_fin rfl rfl ⟨_, _, _, _, rfl, I317, (fr1.up (by decide) (fr1.tr (by decide) (fr1.tr (by decide) (fr1.tr (by decide) fr1.rf k91) k101) k300)), (fr2.tr (by decide) (fr2.tr (by decide) (fr2.tr (by decide) fr2.rf k92) k102) k301), show nt ((A297 24)) ((A297 25)) ((A297 26)) ((F296 28)) (gT + 1) ((F296 27)) ∧ (x59.toInt = -2 ∨ x59.toInt = -1 ∨ (1 ≤ x59.toInt ∧ x59.toInt ≤ 5)) from ⟨⟨hfin.1, ⟨_, hfin.2.1⟩, hfin.2.2, by omega⟩, by omega⟩⟩
    · refine k_c2 45 rfl rfl (if_neg b83) ?_
      have b83 := mt iv_le.mpr b83
      refine k_push 46 rfl rfl ?_
      have hc318 : (-1 : Int32).toInt = -1 := by decide
      exact k_fin rfl rfl ⟨_, _, _, _, rfl, I75, fr1.rf, fr2.rf, show nt ((A0 24)) ((A0 25)) ((A0 26)) ((F0 28)) (gT + 1) ((F0 27)) ∧ ((-1 : Int32).toInt = -2 ∨ (-1 : Int32).toInt = -1 ∨ (1 ≤ (-1 : Int32).toInt ∧ (-1 : Int32).toInt ≤ 5)) from ⟨⟨p1.mono (by omega), ⟨lm, p2⟩, p4, p5.1⟩, by omega⟩⟩
end
