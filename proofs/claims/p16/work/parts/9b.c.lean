section
theorem m_check {h0 : am_h} {F0 : rf_f} {A0 : rf_A} {w1 : Int32} {w2 : Int32}  (hR : rf_R h0 F0 A0) (p1 : w2.toInt ≠ 0) : am_Mt 2 170 [.inr (.inr (some 81)), .inl w1, .inl w2] h0 (rf_Q h0 (fun x F' A' => fr1 [6, 5] F0 F' ∧ fr2 [] A0 A' ∧ (((x = 1 ∧ F0 6 = 0 ∧ w1.toInt ≠ 0 ∧ F' 6 = 0 ∧ F' 5 = F0 5) ∨ (x = 0 ∧ F' 6 ≠ 0 ∧ ((F0 6 = 0 ∧ w1.toInt = 0 ∧ F' 6 = w2.toInt ∧ F' 5 = F0 10) ∨ (F0 6 ≠ 0 ∧ F' 6 = F0 6 ∧ F' 5 = F0 5))))))) := by
  refine am_Mt.of (D := 1) ?_
  have hI : rf_I h0 h0 F0 A0 := rf_I.start hR
  refine k_aload 1 rfl rfl rfl ?_
  refine k_in (d := 0) rfl rfl rfl rfl hI.rc ?_
  refine k_aload 1 rfl rfl rfl ?_
  refine r_gI hI 4 rfl rfl rfl (fun x1 (e2 : x1.toInt = F0 6) => ?_)
  by_cases b3 : x1 = 0
  · refine k_c1 7 rfl rfl (if_pos b3) ?_
    have b3 := iv_eq0.mp b3
    refine k_push 8 rfl rfl ?_
    have hc4 : (1 : Int32).toInt = 1 := by decide
    refine k_goto 12 rfl rfl ?_
    refine k_fin rfl (fin_Z (Or.inr rfl)) ⟨_, _, rfl, rf_len hI hI, ?_⟩
    show am_Ok _ _ _ (4, _, [.inl (1 : Int32)], _, 0, 0) _
    refine k_c1 7 rfl rfl (if_neg (by decide)) ?_
    refine k_iload 8 rfl rfl rfl ?_
    by_cases b5 : w1 = 0
    · refine k_c1 11 rfl rfl (if_pos b5) ?_
      have b5 := iv_eq0.mp b5
      refine k_aload 12 rfl rfl rfl ?_
      refine k_iload 13 rfl rfl rfl ?_
      refine r_pI hI 16 rfl rfl rfl (fun h6 I7 => ?_)
      refine k_aload 17 rfl rfl rfl ?_
      refine k_aload 18 rfl rfl rfl ?_
      refine r_gI I7 21 rfl rfl rfl (fun x8 (e9 : x8.toInt = F0 10) => ?_)
      refine r_pI I7 24 rfl rfl rfl (fun h10 I11 => ?_)
      refine k_aload 25 rfl rfl rfl ?_
      refine k_in (d := 0) rfl rfl rfl rfl I11.rc ?_
      refine k_aload 1 rfl rfl rfl ?_
      refine r_gI I11 4 rfl rfl rfl (fun x12 (e13 : x12.toInt = w2.toInt) => ?_)
      by_cases b14 : x12 = 0
      · refine k_c1 7 rfl rfl (if_pos b14) ?_
        have b14 := iv_eq0.mp b14
        refine k_push 8 rfl rfl ?_
        refine k_goto 12 rfl rfl ?_
        refine k_fin rfl (fin_Z (Or.inr rfl)) ⟨_, _, rfl, rf_len I11 I11, ?_⟩
        show am_Ok _ _ _ (28, _, [.inl (1 : Int32)], _, 0, 0) _
        exact k_fin rfl (fin_Z (Or.inr rfl)) ⟨_, _, _, _, rfl, I11, (fr1.up (by decide) (fr1.up (by decide) fr1.rf)), fr2.rf, show (((1 : Int32).toInt = 1 ∧ F0 6 = 0 ∧ w1.toInt ≠ 0 ∧ (w2.toInt) = 0 ∧ (x8.toInt) = F0 5) ∨ ((1 : Int32).toInt = 0 ∧ (w2.toInt) ≠ 0 ∧ ((F0 6 = 0 ∧ w1.toInt = 0 ∧ (w2.toInt) = w2.toInt ∧ (x8.toInt) = F0 10) ∨ (F0 6 ≠ 0 ∧ (w2.toInt) = F0 6 ∧ (x8.toInt) = F0 5)))) by omega⟩
      · refine k_c1 11 rfl rfl (if_neg b14) ?_
        have b14 := mt iv_eq0.mpr b14
        refine k_push 12 rfl rfl ?_
        have hc15 : (0 : Int32).toInt = 0 := by decide
        refine k_fin rfl (fin_Z (Or.inl rfl)) ⟨_, _, rfl, rf_len I11 I11, ?_⟩
        show am_Ok _ _ _ (28, _, [.inl (0 : Int32)], _, 0, 0) _
        exact k_fin rfl (fin_Z (Or.inl rfl)) ⟨_, _, _, _, rfl, I11, (fr1.up (by decide) (fr1.up (by decide) fr1.rf)), fr2.rf, show (((0 : Int32).toInt = 1 ∧ F0 6 = 0 ∧ w1.toInt ≠ 0 ∧ (w2.toInt) = 0 ∧ (x8.toInt) = F0 5) ∨ ((0 : Int32).toInt = 0 ∧ (w2.toInt) ≠ 0 ∧ ((F0 6 = 0 ∧ w1.toInt = 0 ∧ (w2.toInt) = w2.toInt ∧ (x8.toInt) = F0 10) ∨ (F0 6 ≠ 0 ∧ (w2.toInt) = F0 6 ∧ (x8.toInt) = F0 5)))) by omega⟩
    · refine k_c1 24 rfl rfl (if_neg b5) ?_
      have b5 := mt iv_eq0.mpr b5
      refine k_aload 25 rfl rfl rfl ?_
      refine k_in (d := 0) rfl rfl rfl rfl hI.rc ?_
      refine k_aload 1 rfl rfl rfl ?_
      refine r_gI hI 4 rfl rfl rfl (fun x16 (e17 : x16.toInt = F0 6) => ?_)
      by_cases b18 : x16 = 0
      · refine k_c1 7 rfl rfl (if_pos b18) ?_
        have b18 := iv_eq0.mp b18
        refine k_push 8 rfl rfl ?_
        refine k_goto 12 rfl rfl ?_
        refine k_fin rfl (fin_Z (Or.inr rfl)) ⟨_, _, rfl, rf_len hI hI, ?_⟩
        show am_Ok _ _ _ (28, _, [.inl (1 : Int32)], _, 0, 0) _
        exact k_fin rfl (fin_Z (Or.inr rfl)) ⟨_, _, _, _, rfl, hI, fr1.rf, fr2.rf, show (((1 : Int32).toInt = 1 ∧ F0 6 = 0 ∧ w1.toInt ≠ 0 ∧ (F0 6) = 0 ∧ (F0 5) = F0 5) ∨ ((1 : Int32).toInt = 0 ∧ (F0 6) ≠ 0 ∧ ((F0 6 = 0 ∧ w1.toInt = 0 ∧ (F0 6) = w2.toInt ∧ (F0 5) = F0 10) ∨ (F0 6 ≠ 0 ∧ (F0 6) = F0 6 ∧ (F0 5) = F0 5)))) by omega⟩
      · refine k_c1 11 rfl rfl (if_neg b18) ?_
        have b18 := mt iv_eq0.mpr b18
        refine k_push 12 rfl rfl ?_
        have hc19 : (0 : Int32).toInt = 0 := by decide
        refine k_fin rfl (fin_Z (Or.inl rfl)) ⟨_, _, rfl, rf_len hI hI, ?_⟩
        show am_Ok _ _ _ (28, _, [.inl (0 : Int32)], _, 0, 0) _
        exact k_fin rfl (fin_Z (Or.inl rfl)) ⟨_, _, _, _, rfl, hI, fr1.rf, fr2.rf, show (((0 : Int32).toInt = 1 ∧ F0 6 = 0 ∧ w1.toInt ≠ 0 ∧ (F0 6) = 0 ∧ (F0 5) = F0 5) ∨ ((0 : Int32).toInt = 0 ∧ (F0 6) ≠ 0 ∧ ((F0 6 = 0 ∧ w1.toInt = 0 ∧ (F0 6) = w2.toInt ∧ (F0 5) = F0 10) ∨ (F0 6 ≠ 0 ∧ (F0 6) = F0 6 ∧ (F0 5) = F0 5)))) by omega⟩
  · refine k_c1 11 rfl rfl (if_neg b3) ?_
    have b3 := mt iv_eq0.mpr b3
    refine k_push 12 rfl rfl ?_
    have hc20 : (0 : Int32).toInt = 0 := by decide
    refine k_fin rfl (fin_Z (Or.inl rfl)) ⟨_, _, rfl, rf_len hI hI, ?_⟩
    show am_Ok _ _ _ (4, _, [.inl (0 : Int32)], _, 0, 0) _
    refine k_c1 24 rfl rfl (if_pos (by decide)) ?_
    refine k_aload 25 rfl rfl rfl ?_
    refine k_in (d := 0) rfl rfl rfl rfl hI.rc ?_
    refine k_aload 1 rfl rfl rfl ?_
    refine r_gI hI 4 rfl rfl rfl (fun x21 (e22 : x21.toInt = F0 6) => ?_)
    by_cases b23 : x21 = 0
    · refine k_c1 7 rfl rfl (if_pos b23) ?_
      have b23 := iv_eq0.mp b23
      refine k_push 8 rfl rfl ?_
      have hc24 : (1 : Int32).toInt = 1 := by decide
      refine k_goto 12 rfl rfl ?_
      refine k_fin rfl (fin_Z (Or.inr rfl)) ⟨_, _, rfl, rf_len hI hI, ?_⟩
      show am_Ok _ _ _ (28, _, [.inl (1 : Int32)], _, 0, 0) _
      exact k_fin rfl (fin_Z (Or.inr rfl)) ⟨_, _, _, _, rfl, hI, fr1.rf, fr2.rf, show (((1 : Int32).toInt = 1 ∧ F0 6 = 0 ∧ w1.toInt ≠ 0 ∧ (F0 6) = 0 ∧ (F0 5) = F0 5) ∨ ((1 : Int32).toInt = 0 ∧ (F0 6) ≠ 0 ∧ ((F0 6 = 0 ∧ w1.toInt = 0 ∧ (F0 6) = w2.toInt ∧ (F0 5) = F0 10) ∨ (F0 6 ≠ 0 ∧ (F0 6) = F0 6 ∧ (F0 5) = F0 5)))) by omega⟩
    · refine k_c1 11 rfl rfl (if_neg b23) ?_
      have b23 := mt iv_eq0.mpr b23
      refine k_push 12 rfl rfl ?_
      refine k_fin rfl (fin_Z (Or.inl rfl)) ⟨_, _, rfl, rf_len hI hI, ?_⟩
      show am_Ok _ _ _ (28, _, [.inl (0 : Int32)], _, 0, 0) _
      exact k_fin rfl (fin_Z (Or.inl rfl)) ⟨_, _, _, _, rfl, hI, fr1.rf, fr2.rf, show (((0 : Int32).toInt = 1 ∧ F0 6 = 0 ∧ w1.toInt ≠ 0 ∧ (F0 6) = 0 ∧ (F0 5) = F0 5) ∨ ((0 : Int32).toInt = 0 ∧ (F0 6) ≠ 0 ∧ ((F0 6 = 0 ∧ w1.toInt = 0 ∧ (F0 6) = w2.toInt ∧ (F0 5) = F0 10) ∨ (F0 6 ≠ 0 ∧ (F0 6) = F0 6 ∧ (F0 5) = F0 5)))) by omega⟩
theorem m_must {h0 : am_h} {F0 : rf_f} {A0 : rf_A} {w1 : Int32} {tx : List Int} (hR : rf_R h0 F0 A0) (p1 : 0 ≤ F0 8 ∧ F0 8 ≤ F0 7 ∧ F0 7 ≤ 700 ∧ (F0 9 = 2 → 0 ≤ F0 11 ∧ F0 11 ≤ 9) ∧ 0 ≤ F0 9 ∧ F0 9 ≤ 4) (pT : TP tx (F0 7) (A0 3)) : am_Mt 4 172 [.inr (.inr (some 81)), .inl w1] h0 (rf_V h0 (fun F' A' => fr1 [8, 10, 9, 14, 11, 12, 13, 6, 5] F0 F' ∧ fr2 [] A0 A' ∧ ((F0 8 ≤ F' 8 ∧ F' 8 ≤ F0 7) ∧ (F' 6 = 0 → F0 6 = 0 ∧ (F' 9 = 0 ∨ F0 8 < F' 8)) ∧ (F' 9 = 2 → 0 ≤ F' 11 ∧ F' 11 ≤ 9) ∧ (0 ≤ F' 9 ∧ F' 9 ≤ 4) ∧ ((F0 6 = 0 ∧ F0 9 = 3 ∧ F0 11 = w1.toInt → F' 6 = 0 ∧ F' 5 = F0 5) ∧ (¬ (F0 6 = 0 ∧ F0 9 = 3 ∧ F0 11 = w1.toInt) → F' 6 ≠ 0 ∧ (F0 6 = 0 → F' 6 = 1 ∧ F' 5 = F0 10) ∧ (F0 6 ≠ 0 → F' 6 = F0 6 ∧ F' 5 = F0 5))) ∧ imp (F' 6 = 0) (TKv tx (F0 8) (F' 8) (F' 9) (F' 10) (F' 11) (F' 12) (F' 13) (F' 14))))) := by
  refine am_Mt.of (D := 3) ?_
  have hI : rf_I h0 h0 F0 A0 := rf_I.start hR
  refine k_aload 1 rfl rfl rfl ?_
  refine k_aload 2 rfl rfl rfl ?_
  refine k_iload 3 rfl rfl rfl ?_
  refine k_in (d := 1) rfl rfl rfl rfl hI.rc ?_
  refine k_aload 1 rfl rfl rfl ?_
  refine k_in (d := 0) rfl rfl rfl rfl hI.rc ?_
  refine k_aload 1 rfl rfl rfl ?_
  refine r_gI hI 4 rfl rfl rfl (fun x1 (e2 : x1.toInt = F0 6) => ?_)
  by_cases b3 : x1 = 0
  · refine k_c1 7 rfl rfl (if_pos b3) ?_
    have b3 := iv_eq0.mp b3
    refine k_push 8 rfl rfl ?_
    have hc4 : (1 : Int32).toInt = 1 := by decide
    refine k_goto 12 rfl rfl ?_
    refine k_fin rfl (fin_Z (Or.inr rfl)) ⟨_, _, rfl, rf_len hI hI, ?_⟩
    show am_Ok _ _ _ (4, _, [.inl (1 : Int32)], _, 0, 0) _
    refine k_c1 7 rfl rfl (if_neg (by decide)) ?_
    refine k_aload 8 rfl rfl rfl ?_
    refine r_gI hI 11 rfl rfl rfl (fun x5 (e6 : x5.toInt = F0 9) => ?_)
    refine k_push 12 rfl rfl ?_
    have hc7 : (3 : Int32).toInt = 3 := by decide
    by_cases b8 : x5 = (3 : Int32)
    · refine k_c2 15 rfl rfl (if_pos b8) ?_
      have b8 := iv_eq.mp b8
      refine k_aload 16 rfl rfl rfl ?_
      refine r_gI hI 19 rfl rfl rfl (fun x9 (e10 : x9.toInt = F0 11) => ?_)
      refine k_iload 20 rfl rfl rfl ?_
      by_cases b11 : x9 = w1
      · refine k_c2 23 rfl rfl (if_pos b11) ?_
        have b11 := iv_eq.mp b11
        refine k_push 24 rfl rfl ?_
        refine k_goto 28 rfl rfl ?_
        refine k_fin rfl (fin_Z (Or.inr rfl)) ⟨_, _, rfl, rf_len hI hI, ?_⟩
        show am_Ok _ _ _ (6, _, [.inl (1 : Int32), .inr (.inr (some 81))], _, 0, 0) _
        refine k_push 7 rfl rfl ?_
        refine k_rq hI rfl (m_check  hI.1 (show (1 : Int32).toInt ≠ 0 by omega)) rfl rfl rfl hI.rc ?_
        rintro x12 h13 F14 A15 I16 ⟨k18, k19, pq17⟩
        replace pq17 : ((x12.toInt = 1 ∧ (F0 6) = 0 ∧ (1 : Int32).toInt ≠ 0 ∧ F14 6 = 0 ∧ F14 5 = (F0 5)) ∨ (x12.toInt = 0 ∧ F14 6 ≠ 0 ∧ (((F0 6) = 0 ∧ (1 : Int32).toInt = 0 ∧ F14 6 = (1 : Int32).toInt ∧ F14 5 = (F0 10)) ∨ ((F0 6) ≠ 0 ∧ F14 6 = (F0 6) ∧ F14 5 = (F0 5))))) := pq17
        have k19 := fr2.nil k19
        subst k19
        have z20 := iv_01 (x := x12) (by omega)
        show am_Ok _ _ _ (10, _, [.inl x12], _, 0, 0) _
        by_cases b21 : x12 = 0
        · refine k_c1 17 rfl rfl (if_pos b21) ?_
          have b21 := iv_eq0.mp b21
          have e22 : F14 8 = F0 8 := k18 8 (by decide)
          have e23 : F14 9 = F0 9 := k18 9 (by decide)
          have e24 : F14 11 = F0 11 := k18 11 (by decide)
          have e25 : F14 10 = F0 10 := k18 10 (by decide)
          have e26 : F14 12 = F0 12 := k18 12 (by decide)
          have e27 : F14 13 = F0 13 := k18 13 (by decide)
          have e28 : F14 14 = F0 14 := k18 14 (by decide)
          exact k_fin rfl rfl ⟨_, _, _, rfl, I16, (fr1.tr (by decide) fr1.rf k18), fr2.rf, ⟨(show (F0 8 ≤ F14 8 ∧ F14 8 ≤ F0 7) by omega), (show (F14 6 = 0 → F0 6 = 0 ∧ (F14 9 = 0 ∨ F0 8 < F14 8)) by omega), (show (F14 9 = 2 → 0 ≤ F14 11 ∧ F14 11 ≤ 9) by omega), (show (0 ≤ F14 9 ∧ F14 9 ≤ 4) by omega), (show ((F0 6 = 0 ∧ F0 9 = 3 ∧ F0 11 = w1.toInt → F14 6 = 0 ∧ F14 5 = F0 5) ∧ (¬ (F0 6 = 0 ∧ F0 9 = 3 ∧ F0 11 = w1.toInt) → F14 6 ≠ 0 ∧ (F0 6 = 0 → F14 6 = 1 ∧ F14 5 = F0 10) ∧ (F0 6 ≠ 0 → F14 6 = F0 6 ∧ F14 5 = F0 5))) by omega), fun z => absurd (show F14 6 = 0 from z) (by omega)⟩⟩
        · refine k_c1 13 rfl rfl (if_neg b21) ?_
          have b21 := mt iv_eq0.mpr b21
          refine k_aload 14 rfl rfl rfl ?_
          have e29 : F14 8 = F0 8 := k18 8 (by decide)
          have e30 : F14 7 = F0 7 := k18 7 (by decide)
          refine k_rv I16 rfl (m_goes  I16.1 (show 0 ≤ (F14 8) ∧ (F14 8) ≤ (F14 7) ∧ (F14 7) ≤ 700 by omega) (show TP tx ((F14 7)) ((A0 3)) by rw [(k18 7 (by decide)), (show A0 3 = A0 3 from rfl)]; exact pT)) rfl rfl rfl I16.rc ?_
          rintro h32 F33 A34 I35 ⟨k37, k38, pq36⟩
          replace pq36 : ((F14 8) ≤ F33 8 ∧ F33 8 ≤ (F14 7)) ∧ (F33 9 = 0 ∨ (F14 8) < F33 8) ∧ (F33 9 = 2 → 0 ≤ F33 11 ∧ F33 11 ≤ 9) ∧ (0 ≤ F33 9 ∧ F33 9 ≤ 4) ∧ TKv tx ((F14 8)) (F33 8) (F33 9) (F33 10) (F33 11) (F33 12) (F33 13) (F33 14) := pq36
          obtain ⟨pq36a, pq36b, pq36c, pq36d, pq36e⟩ := pq36
          have k38 := fr2.nil k38
          subst k38
          show am_Ok _ _ _ (17, _, [], _, 0, 0) _
          have e39 : F33 6 = F14 6 := k37 6 (by decide)
          have e40 : F33 5 = F14 5 := k37 5 (by decide)
          exact k_fin rfl rfl ⟨_, _, _, rfl, I35, (fr1.tr (by decide) (fr1.tr (by decide) fr1.rf k18) k37), fr2.rf, ⟨(show (F0 8 ≤ F33 8 ∧ F33 8 ≤ F0 7) by omega), (show (F33 6 = 0 → F0 6 = 0 ∧ (F33 9 = 0 ∨ F0 8 < F33 8)) by omega), (show (F33 9 = 2 → 0 ≤ F33 11 ∧ F33 11 ≤ 9) by omega), (show (0 ≤ F33 9 ∧ F33 9 ≤ 4) by omega), (show ((F0 6 = 0 ∧ F0 9 = 3 ∧ F0 11 = w1.toInt → F33 6 = 0 ∧ F33 5 = F0 5) ∧ (¬ (F0 6 = 0 ∧ F0 9 = 3 ∧ F0 11 = w1.toInt) → F33 6 ≠ 0 ∧ (F0 6 = 0 → F33 6 = 1 ∧ F33 5 = F0 10) ∧ (F0 6 ≠ 0 → F33 6 = F0 6 ∧ F33 5 = F0 5))) by omega), fun _ => (show TKv tx (F0 8) (F33 8) (F33 9) (F33 10) (F33 11) (F33 12) (F33 13) (F33 14) from pq36e.cg (by omega) rfl rfl rfl rfl rfl rfl rfl)⟩⟩
      · refine k_c2 27 rfl rfl (if_neg b11) ?_
        have b11 := mt iv_eq.mpr b11
        refine k_push 28 rfl rfl ?_
        have hc41 : (0 : Int32).toInt = 0 := by decide
        refine k_fin rfl (fin_Z (Or.inl rfl)) ⟨_, _, rfl, rf_len hI hI, ?_⟩
        show am_Ok _ _ _ (6, _, [.inl (0 : Int32), .inr (.inr (some 81))], _, 0, 0) _
        refine k_push 7 rfl rfl ?_
        refine k_rq hI rfl (m_check  hI.1 (show (1 : Int32).toInt ≠ 0 by omega)) rfl rfl rfl hI.rc ?_
        rintro x42 h43 F44 A45 I46 ⟨k48, k49, pq47⟩
        replace pq47 : ((x42.toInt = 1 ∧ (F0 6) = 0 ∧ (0 : Int32).toInt ≠ 0 ∧ F44 6 = 0 ∧ F44 5 = (F0 5)) ∨ (x42.toInt = 0 ∧ F44 6 ≠ 0 ∧ (((F0 6) = 0 ∧ (0 : Int32).toInt = 0 ∧ F44 6 = (1 : Int32).toInt ∧ F44 5 = (F0 10)) ∨ ((F0 6) ≠ 0 ∧ F44 6 = (F0 6) ∧ F44 5 = (F0 5))))) := pq47
        have k49 := fr2.nil k49
        subst k49
        have z50 := iv_01 (x := x42) (by omega)
        show am_Ok _ _ _ (10, _, [.inl x42], _, 0, 0) _
        by_cases b51 : x42 = 0
        · refine k_c1 17 rfl rfl (if_pos b51) ?_
          have b51 := iv_eq0.mp b51
          have e52 : F44 8 = F0 8 := k48 8 (by decide)
          have e53 : F44 9 = F0 9 := k48 9 (by decide)
          have e54 : F44 11 = F0 11 := k48 11 (by decide)
          have e55 : F44 10 = F0 10 := k48 10 (by decide)
          have e56 : F44 12 = F0 12 := k48 12 (by decide)
          have e57 : F44 13 = F0 13 := k48 13 (by decide)
          have e58 : F44 14 = F0 14 := k48 14 (by decide)
          exact k_fin rfl rfl ⟨_, _, _, rfl, I46, (fr1.tr (by decide) fr1.rf k48), fr2.rf, ⟨(show (F0 8 ≤ F44 8 ∧ F44 8 ≤ F0 7) by omega), (show (F44 6 = 0 → F0 6 = 0 ∧ (F44 9 = 0 ∨ F0 8 < F44 8)) by omega), (show (F44 9 = 2 → 0 ≤ F44 11 ∧ F44 11 ≤ 9) by omega), (show (0 ≤ F44 9 ∧ F44 9 ≤ 4) by omega), (show ((F0 6 = 0 ∧ F0 9 = 3 ∧ F0 11 = w1.toInt → F44 6 = 0 ∧ F44 5 = F0 5) ∧ (¬ (F0 6 = 0 ∧ F0 9 = 3 ∧ F0 11 = w1.toInt) → F44 6 ≠ 0 ∧ (F0 6 = 0 → F44 6 = 1 ∧ F44 5 = F0 10) ∧ (F0 6 ≠ 0 → F44 6 = F0 6 ∧ F44 5 = F0 5))) by omega), fun z => absurd (show F44 6 = 0 from z) (by omega)⟩⟩
        · refine k_c1 13 rfl rfl (if_neg b51) ?_
          have b51 := mt iv_eq0.mpr b51
          refine k_aload 14 rfl rfl rfl ?_
          have e59 : F44 8 = F0 8 := k48 8 (by decide)
          have e60 : F44 7 = F0 7 := k48 7 (by decide)
          refine k_rv I46 rfl (m_goes  I46.1 (show 0 ≤ (F44 8) ∧ (F44 8) ≤ (F44 7) ∧ (F44 7) ≤ 700 by omega) (show TP tx ((F44 7)) ((A0 3)) by rw [(k48 7 (by decide)), (show A0 3 = A0 3 from rfl)]; exact pT)) rfl rfl rfl I46.rc ?_
          rintro h62 F63 A64 I65 ⟨k67, k68, pq66⟩
          replace pq66 : ((F44 8) ≤ F63 8 ∧ F63 8 ≤ (F44 7)) ∧ (F63 9 = 0 ∨ (F44 8) < F63 8) ∧ (F63 9 = 2 → 0 ≤ F63 11 ∧ F63 11 ≤ 9) ∧ (0 ≤ F63 9 ∧ F63 9 ≤ 4) ∧ TKv tx ((F44 8)) (F63 8) (F63 9) (F63 10) (F63 11) (F63 12) (F63 13) (F63 14) := pq66
          obtain ⟨pq66a, pq66b, pq66c, pq66d, pq66e⟩ := pq66
          have k68 := fr2.nil k68
          subst k68
          show am_Ok _ _ _ (17, _, [], _, 0, 0) _
          have e69 : F63 6 = F44 6 := k67 6 (by decide)
          have e70 : F63 5 = F44 5 := k67 5 (by decide)
          exact k_fin rfl rfl ⟨_, _, _, rfl, I65, (fr1.tr (by decide) (fr1.tr (by decide) fr1.rf k48) k67), fr2.rf, ⟨(show (F0 8 ≤ F63 8 ∧ F63 8 ≤ F0 7) by omega), (show (F63 6 = 0 → F0 6 = 0 ∧ (F63 9 = 0 ∨ F0 8 < F63 8)) by omega), (show (F63 9 = 2 → 0 ≤ F63 11 ∧ F63 11 ≤ 9) by omega), (show (0 ≤ F63 9 ∧ F63 9 ≤ 4) by omega), (show ((F0 6 = 0 ∧ F0 9 = 3 ∧ F0 11 = w1.toInt → F63 6 = 0 ∧ F63 5 = F0 5) ∧ (¬ (F0 6 = 0 ∧ F0 9 = 3 ∧ F0 11 = w1.toInt) → F63 6 ≠ 0 ∧ (F0 6 = 0 → F63 6 = 1 ∧ F63 5 = F0 10) ∧ (F0 6 ≠ 0 → F63 6 = F0 6 ∧ F63 5 = F0 5))) by omega), fun _ => (show TKv tx (F0 8) (F63 8) (F63 9) (F63 10) (F63 11) (F63 12) (F63 13) (F63 14) from pq66e.cg (by omega) rfl rfl rfl rfl rfl rfl rfl)⟩⟩
    · refine k_c2 27 rfl rfl (if_neg b8) ?_
      have b8 := mt iv_eq.mpr b8
      refine k_push 28 rfl rfl ?_
      have hc71 : (0 : Int32).toInt = 0 := by decide
      refine k_fin rfl (fin_Z (Or.inl rfl)) ⟨_, _, rfl, rf_len hI hI, ?_⟩
      show am_Ok _ _ _ (6, _, [.inl (0 : Int32), .inr (.inr (some 81))], _, 0, 0) _
      refine k_push 7 rfl rfl ?_
      refine k_rq hI rfl (m_check  hI.1 (show (1 : Int32).toInt ≠ 0 by omega)) rfl rfl rfl hI.rc ?_
      rintro x72 h73 F74 A75 I76 ⟨k78, k79, pq77⟩
      replace pq77 : ((x72.toInt = 1 ∧ (F0 6) = 0 ∧ (0 : Int32).toInt ≠ 0 ∧ F74 6 = 0 ∧ F74 5 = (F0 5)) ∨ (x72.toInt = 0 ∧ F74 6 ≠ 0 ∧ (((F0 6) = 0 ∧ (0 : Int32).toInt = 0 ∧ F74 6 = (1 : Int32).toInt ∧ F74 5 = (F0 10)) ∨ ((F0 6) ≠ 0 ∧ F74 6 = (F0 6) ∧ F74 5 = (F0 5))))) := pq77
      have k79 := fr2.nil k79
      subst k79
      have z80 := iv_01 (x := x72) (by omega)
      show am_Ok _ _ _ (10, _, [.inl x72], _, 0, 0) _
      by_cases b81 : x72 = 0
      · refine k_c1 17 rfl rfl (if_pos b81) ?_
        have b81 := iv_eq0.mp b81
        have e82 : F74 8 = F0 8 := k78 8 (by decide)
        have e83 : F74 9 = F0 9 := k78 9 (by decide)
        have e84 : F74 11 = F0 11 := k78 11 (by decide)
        have e85 : F74 10 = F0 10 := k78 10 (by decide)
        have e86 : F74 12 = F0 12 := k78 12 (by decide)
        have e87 : F74 13 = F0 13 := k78 13 (by decide)
        have e88 : F74 14 = F0 14 := k78 14 (by decide)
        exact k_fin rfl rfl ⟨_, _, _, rfl, I76, (fr1.tr (by decide) fr1.rf k78), fr2.rf, ⟨(show (F0 8 ≤ F74 8 ∧ F74 8 ≤ F0 7) by omega), (show (F74 6 = 0 → F0 6 = 0 ∧ (F74 9 = 0 ∨ F0 8 < F74 8)) by omega), (show (F74 9 = 2 → 0 ≤ F74 11 ∧ F74 11 ≤ 9) by omega), (show (0 ≤ F74 9 ∧ F74 9 ≤ 4) by omega), (show ((F0 6 = 0 ∧ F0 9 = 3 ∧ F0 11 = w1.toInt → F74 6 = 0 ∧ F74 5 = F0 5) ∧ (¬ (F0 6 = 0 ∧ F0 9 = 3 ∧ F0 11 = w1.toInt) → F74 6 ≠ 0 ∧ (F0 6 = 0 → F74 6 = 1 ∧ F74 5 = F0 10) ∧ (F0 6 ≠ 0 → F74 6 = F0 6 ∧ F74 5 = F0 5))) by omega), fun z => absurd (show F74 6 = 0 from z) (by omega)⟩⟩
      · refine k_c1 13 rfl rfl (if_neg b81) ?_
        have b81 := mt iv_eq0.mpr b81
        refine k_aload 14 rfl rfl rfl ?_
        have e89 : F74 8 = F0 8 := k78 8 (by decide)
        have e90 : F74 7 = F0 7 := k78 7 (by decide)
        refine k_rv I76 rfl (m_goes  I76.1 (show 0 ≤ (F74 8) ∧ (F74 8) ≤ (F74 7) ∧ (F74 7) ≤ 700 by omega) (show TP tx ((F74 7)) ((A0 3)) by rw [(k78 7 (by decide)), (show A0 3 = A0 3 from rfl)]; exact pT)) rfl rfl rfl I76.rc ?_
        rintro h92 F93 A94 I95 ⟨k97, k98, pq96⟩
        replace pq96 : ((F74 8) ≤ F93 8 ∧ F93 8 ≤ (F74 7)) ∧ (F93 9 = 0 ∨ (F74 8) < F93 8) ∧ (F93 9 = 2 → 0 ≤ F93 11 ∧ F93 11 ≤ 9) ∧ (0 ≤ F93 9 ∧ F93 9 ≤ 4) ∧ TKv tx ((F74 8)) (F93 8) (F93 9) (F93 10) (F93 11) (F93 12) (F93 13) (F93 14) := pq96
        obtain ⟨pq96a, pq96b, pq96c, pq96d, pq96e⟩ := pq96
        have k98 := fr2.nil k98
        subst k98
        show am_Ok _ _ _ (17, _, [], _, 0, 0) _
        have e99 : F93 6 = F74 6 := k97 6 (by decide)
        have e100 : F93 5 = F74 5 := k97 5 (by decide)
        exact k_fin rfl rfl ⟨_, _, _, rfl, I95, (fr1.tr (by decide) (fr1.tr (by decide) fr1.rf k78) k97), fr2.rf, ⟨(show (F0 8 ≤ F93 8 ∧ F93 8 ≤ F0 7) by omega), (show (F93 6 = 0 → F0 6 = 0 ∧ (F93 9 = 0 ∨ F0 8 < F93 8)) by omega), (show (F93 9 = 2 → 0 ≤ F93 11 ∧ F93 11 ≤ 9) by omega), (show (0 ≤ F93 9 ∧ F93 9 ≤ 4) by omega), (show ((F0 6 = 0 ∧ F0 9 = 3 ∧ F0 11 = w1.toInt → F93 6 = 0 ∧ F93 5 = F0 5) ∧ (¬ (F0 6 = 0 ∧ F0 9 = 3 ∧ F0 11 = w1.toInt) → F93 6 ≠ 0 ∧ (F0 6 = 0 → F93 6 = 1 ∧ F93 5 = F0 10) ∧ (F0 6 ≠ 0 → F93 6 = F0 6 ∧ F93 5 = F0 5))) by omega), fun _ => (show TKv tx (F0 8) (F93 8) (F93 9) (F93 10) (F93 11) (F93 12) (F93 13) (F93 14) from pq96e.cg (by omega) rfl rfl rfl rfl rfl rfl rfl)⟩⟩
  · refine k_c1 11 rfl rfl (if_neg b3) ?_
    have b3 := mt iv_eq0.mpr b3
    refine k_push 12 rfl rfl ?_
    have hc101 : (0 : Int32).toInt = 0 := by decide
    refine k_fin rfl (fin_Z (Or.inl rfl)) ⟨_, _, rfl, rf_len hI hI, ?_⟩
    show am_Ok _ _ _ (4, _, [.inl (0 : Int32)], _, 0, 0) _
    refine k_c1 27 rfl rfl (if_pos (by decide)) ?_
    refine k_push 28 rfl rfl ?_
    refine k_fin rfl (fin_Z (Or.inl rfl)) ⟨_, _, rfl, rf_len hI hI, ?_⟩
    show am_Ok _ _ _ (6, _, [.inl (0 : Int32), .inr (.inr (some 81))], _, 0, 0) _
    refine k_push 7 rfl rfl ?_
    have hc102 : (1 : Int32).toInt = 1 := by decide
    refine k_rq hI rfl (m_check  hI.1 (show (1 : Int32).toInt ≠ 0 by omega)) rfl rfl rfl hI.rc ?_
    rintro x103 h104 F105 A106 I107 ⟨k109, k110, pq108⟩
    replace pq108 : ((x103.toInt = 1 ∧ (F0 6) = 0 ∧ (0 : Int32).toInt ≠ 0 ∧ F105 6 = 0 ∧ F105 5 = (F0 5)) ∨ (x103.toInt = 0 ∧ F105 6 ≠ 0 ∧ (((F0 6) = 0 ∧ (0 : Int32).toInt = 0 ∧ F105 6 = (1 : Int32).toInt ∧ F105 5 = (F0 10)) ∨ ((F0 6) ≠ 0 ∧ F105 6 = (F0 6) ∧ F105 5 = (F0 5))))) := pq108
    have k110 := fr2.nil k110
    subst k110
    have z111 := iv_01 (x := x103) (by omega)
    show am_Ok _ _ _ (10, _, [.inl x103], _, 0, 0) _
    by_cases b112 : x103 = 0
    · refine k_c1 17 rfl rfl (if_pos b112) ?_
      have b112 := iv_eq0.mp b112
      have e113 : F105 8 = F0 8 := k109 8 (by decide)
      have e114 : F105 9 = F0 9 := k109 9 (by decide)
      have e115 : F105 11 = F0 11 := k109 11 (by decide)
      have e116 : F105 10 = F0 10 := k109 10 (by decide)
      have e117 : F105 12 = F0 12 := k109 12 (by decide)
      have e118 : F105 13 = F0 13 := k109 13 (by decide)
      have e119 : F105 14 = F0 14 := k109 14 (by decide)
      exact k_fin rfl rfl ⟨_, _, _, rfl, I107, (fr1.tr (by decide) fr1.rf k109), fr2.rf, ⟨(show (F0 8 ≤ F105 8 ∧ F105 8 ≤ F0 7) by omega), (show (F105 6 = 0 → F0 6 = 0 ∧ (F105 9 = 0 ∨ F0 8 < F105 8)) by omega), (show (F105 9 = 2 → 0 ≤ F105 11 ∧ F105 11 ≤ 9) by omega), (show (0 ≤ F105 9 ∧ F105 9 ≤ 4) by omega), (show ((F0 6 = 0 ∧ F0 9 = 3 ∧ F0 11 = w1.toInt → F105 6 = 0 ∧ F105 5 = F0 5) ∧ (¬ (F0 6 = 0 ∧ F0 9 = 3 ∧ F0 11 = w1.toInt) → F105 6 ≠ 0 ∧ (F0 6 = 0 → F105 6 = 1 ∧ F105 5 = F0 10) ∧ (F0 6 ≠ 0 → F105 6 = F0 6 ∧ F105 5 = F0 5))) by omega), fun z => absurd (show F105 6 = 0 from z) (by omega)⟩⟩
    · refine k_c1 13 rfl rfl (if_neg b112) ?_
      have b112 := mt iv_eq0.mpr b112
      refine k_aload 14 rfl rfl rfl ?_
      have e120 : F105 8 = F0 8 := k109 8 (by decide)
      have e121 : F105 7 = F0 7 := k109 7 (by decide)
      refine k_rv I107 rfl (m_goes  I107.1 (show 0 ≤ (F105 8) ∧ (F105 8) ≤ (F105 7) ∧ (F105 7) ≤ 700 by omega) (show TP tx ((F105 7)) ((A0 3)) by rw [(k109 7 (by decide)), (show A0 3 = A0 3 from rfl)]; exact pT)) rfl rfl rfl I107.rc ?_
      rintro h123 F124 A125 I126 ⟨k128, k129, pq127⟩
      replace pq127 : ((F105 8) ≤ F124 8 ∧ F124 8 ≤ (F105 7)) ∧ (F124 9 = 0 ∨ (F105 8) < F124 8) ∧ (F124 9 = 2 → 0 ≤ F124 11 ∧ F124 11 ≤ 9) ∧ (0 ≤ F124 9 ∧ F124 9 ≤ 4) ∧ TKv tx ((F105 8)) (F124 8) (F124 9) (F124 10) (F124 11) (F124 12) (F124 13) (F124 14) := pq127
      obtain ⟨pq127a, pq127b, pq127c, pq127d, pq127e⟩ := pq127
      have k129 := fr2.nil k129
      subst k129
      show am_Ok _ _ _ (17, _, [], _, 0, 0) _
      have e130 : F124 6 = F105 6 := k128 6 (by decide)
      have e131 : F124 5 = F105 5 := k128 5 (by decide)
      exact k_fin rfl rfl ⟨_, _, _, rfl, I126, (fr1.tr (by decide) (fr1.tr (by decide) fr1.rf k109) k128), fr2.rf, ⟨(show (F0 8 ≤ F124 8 ∧ F124 8 ≤ F0 7) by omega), (show (F124 6 = 0 → F0 6 = 0 ∧ (F124 9 = 0 ∨ F0 8 < F124 8)) by omega), (show (F124 9 = 2 → 0 ≤ F124 11 ∧ F124 11 ≤ 9) by omega), (show (0 ≤ F124 9 ∧ F124 9 ≤ 4) by omega), (show ((F0 6 = 0 ∧ F0 9 = 3 ∧ F0 11 = w1.toInt → F124 6 = 0 ∧ F124 5 = F0 5) ∧ (¬ (F0 6 = 0 ∧ F0 9 = 3 ∧ F0 11 = w1.toInt) → F124 6 ≠ 0 ∧ (F0 6 = 0 → F124 6 = 1 ∧ F124 5 = F0 10) ∧ (F0 6 ≠ 0 → F124 6 = F0 6 ∧ F124 5 = F0 5))) by omega), fun _ => (show TKv tx (F0 8) (F124 8) (F124 9) (F124 10) (F124 11) (F124 12) (F124 13) (F124 14) from pq127e.cg (by omega) rfl rfl rfl rfl rfl rfl rfl)⟩⟩
theorem m_isAtom {h0 : am_h} {F0 : rf_f} {A0 : rf_A}  (hR : rf_R h0 F0 A0)  : am_Mt 3 179 [.inr (.inr (some 81))] h0 (rf_Q h0 (fun x F' A' => fr1 [] F0 F' ∧ fr2 [] A0 A' ∧ ((x = 1 ∧ F0 6 = 0 ∧ (F0 9 = 1 ∨ F0 9 = 2 ∨ (F0 9 = 3 ∧ F0 11 = 40))) ∨ (x = 0 ∧ ¬ (F0 6 = 0 ∧ (F0 9 = 1 ∨ F0 9 = 2 ∨ (F0 9 = 3 ∧ F0 11 = 40))))))) := by
  refine am_Mt.of (D := 2) ?_
  have hI : rf_I h0 h0 F0 A0 := rf_I.start hR
  refine k_aload 1 rfl rfl rfl ?_
  refine k_in (d := 0) rfl rfl rfl rfl hI.rc ?_
  refine k_aload 1 rfl rfl rfl ?_
  refine r_gI hI 4 rfl rfl rfl (fun x1 (e2 : x1.toInt = F0 6) => ?_)
  by_cases b3 : x1 = 0
  · refine k_c1 7 rfl rfl (if_pos b3) ?_
    have b3 := iv_eq0.mp b3
    refine k_push 8 rfl rfl ?_
    have hc4 : (1 : Int32).toInt = 1 := by decide
    refine k_goto 12 rfl rfl ?_
    refine k_fin rfl (fin_Z (Or.inr rfl)) ⟨_, _, rfl, rf_len hI hI, ?_⟩
    show am_Ok _ _ _ (4, _, [.inl (1 : Int32)], _, 0, 0) _
    refine k_c1 7 rfl rfl (if_neg (by decide)) ?_
    refine k_aload 8 rfl rfl rfl ?_
    refine r_gI hI 11 rfl rfl rfl (fun x5 (e6 : x5.toInt = F0 9) => ?_)
    refine k_push 12 rfl rfl ?_
    by_cases b7 : x5 = (1 : Int32)
    · refine k_c2 32 rfl rfl (if_pos b7) ?_
      have b7 := iv_eq.mp b7
      refine k_push 33 rfl rfl ?_
      refine k_goto 37 rfl rfl ?_
      exact k_fin rfl (fin_Z (Or.inr rfl)) ⟨_, _, _, _, rfl, hI, fr1.rf, fr2.rf, show ((1 : Int32).toInt = 1 ∧ F0 6 = 0 ∧ (F0 9 = 1 ∨ F0 9 = 2 ∨ (F0 9 = 3 ∧ F0 11 = 40))) ∨ ((1 : Int32).toInt = 0 ∧ ¬ (F0 6 = 0 ∧ (F0 9 = 1 ∨ F0 9 = 2 ∨ (F0 9 = 3 ∧ F0 11 = 40)))) by omega⟩
    · refine k_c2 15 rfl rfl (if_neg b7) ?_
      have b7 := mt iv_eq.mpr b7
      refine k_aload 16 rfl rfl rfl ?_
      refine r_gI hI 19 rfl rfl rfl (fun x8 (e9 : x8.toInt = F0 9) => ?_)
      refine k_push 20 rfl rfl ?_
      have hc10 : (2 : Int32).toInt = 2 := by decide
      by_cases b11 : x8 = (2 : Int32)
      · refine k_c2 32 rfl rfl (if_pos b11) ?_
        have b11 := iv_eq.mp b11
        refine k_push 33 rfl rfl ?_
        refine k_goto 37 rfl rfl ?_
        exact k_fin rfl (fin_Z (Or.inr rfl)) ⟨_, _, _, _, rfl, hI, fr1.rf, fr2.rf, show ((1 : Int32).toInt = 1 ∧ F0 6 = 0 ∧ (F0 9 = 1 ∨ F0 9 = 2 ∨ (F0 9 = 3 ∧ F0 11 = 40))) ∨ ((1 : Int32).toInt = 0 ∧ ¬ (F0 6 = 0 ∧ (F0 9 = 1 ∨ F0 9 = 2 ∨ (F0 9 = 3 ∧ F0 11 = 40)))) by omega⟩
      · refine k_c2 23 rfl rfl (if_neg b11) ?_
        have b11 := mt iv_eq.mpr b11
        refine k_aload 24 rfl rfl rfl ?_
        refine k_push 26 rfl rfl ?_
        have hc12 : (40 : Int32).toInt = 40 := by decide
        refine k_in (d := 1) rfl rfl rfl rfl hI.rc ?_
        refine k_aload 1 rfl rfl rfl ?_
        refine k_in (d := 0) rfl rfl rfl rfl hI.rc ?_
        refine k_aload 1 rfl rfl rfl ?_
        refine r_gI hI 4 rfl rfl rfl (fun x13 (e14 : x13.toInt = F0 6) => ?_)
        by_cases b15 : x13 = 0
        · refine k_c1 7 rfl rfl (if_pos b15) ?_
          have b15 := iv_eq0.mp b15
          refine k_push 8 rfl rfl ?_
          refine k_goto 12 rfl rfl ?_
          refine k_fin rfl (fin_Z (Or.inr rfl)) ⟨_, _, rfl, rf_len hI hI, ?_⟩
          show am_Ok _ _ _ (4, _, [.inl (1 : Int32)], _, 0, 0) _
          refine k_c1 7 rfl rfl (if_neg (by decide)) ?_
          refine k_aload 8 rfl rfl rfl ?_
          refine r_gI hI 11 rfl rfl rfl (fun x16 (e17 : x16.toInt = F0 9) => ?_)
          refine k_push 12 rfl rfl ?_
          have hc18 : (3 : Int32).toInt = 3 := by decide
          by_cases b19 : x16 = (3 : Int32)
          · refine k_c2 15 rfl rfl (if_pos b19) ?_
            have b19 := iv_eq.mp b19
            refine k_aload 16 rfl rfl rfl ?_
            refine r_gI hI 19 rfl rfl rfl (fun x20 (e21 : x20.toInt = F0 11) => ?_)
            refine k_iload 20 rfl rfl rfl ?_
            by_cases b22 : x20 = (40 : Int32)
            · refine k_c2 23 rfl rfl (if_pos b22) ?_
              have b22 := iv_eq.mp b22
              refine k_push 24 rfl rfl ?_
              refine k_goto 28 rfl rfl ?_
              refine k_fin rfl (fin_Z (Or.inr rfl)) ⟨_, _, rfl, rf_len hI hI, ?_⟩
              show am_Ok _ _ _ (29, _, [.inl (1 : Int32)], _, 0, 0) _
              refine k_c1 32 rfl rfl (if_neg (by decide)) ?_
              refine k_push 33 rfl rfl ?_
              refine k_goto 37 rfl rfl ?_
              exact k_fin rfl (fin_Z (Or.inr rfl)) ⟨_, _, _, _, rfl, hI, fr1.rf, fr2.rf, show ((1 : Int32).toInt = 1 ∧ F0 6 = 0 ∧ (F0 9 = 1 ∨ F0 9 = 2 ∨ (F0 9 = 3 ∧ F0 11 = 40))) ∨ ((1 : Int32).toInt = 0 ∧ ¬ (F0 6 = 0 ∧ (F0 9 = 1 ∨ F0 9 = 2 ∨ (F0 9 = 3 ∧ F0 11 = 40)))) by omega⟩
            · refine k_c2 27 rfl rfl (if_neg b22) ?_
              have b22 := mt iv_eq.mpr b22
              refine k_push 28 rfl rfl ?_
              have hc23 : (0 : Int32).toInt = 0 := by decide
              refine k_fin rfl (fin_Z (Or.inl rfl)) ⟨_, _, rfl, rf_len hI hI, ?_⟩
              show am_Ok _ _ _ (29, _, [.inl (0 : Int32)], _, 0, 0) _
              refine k_c1 36 rfl rfl (if_pos (by decide)) ?_
              refine k_push 37 rfl rfl ?_
              exact k_fin rfl (fin_Z (Or.inl rfl)) ⟨_, _, _, _, rfl, hI, fr1.rf, fr2.rf, show ((0 : Int32).toInt = 1 ∧ F0 6 = 0 ∧ (F0 9 = 1 ∨ F0 9 = 2 ∨ (F0 9 = 3 ∧ F0 11 = 40))) ∨ ((0 : Int32).toInt = 0 ∧ ¬ (F0 6 = 0 ∧ (F0 9 = 1 ∨ F0 9 = 2 ∨ (F0 9 = 3 ∧ F0 11 = 40)))) by omega⟩
          · refine k_c2 27 rfl rfl (if_neg b19) ?_
            have b19 := mt iv_eq.mpr b19
            refine k_push 28 rfl rfl ?_
            have hc24 : (0 : Int32).toInt = 0 := by decide
            refine k_fin rfl (fin_Z (Or.inl rfl)) ⟨_, _, rfl, rf_len hI hI, ?_⟩
            show am_Ok _ _ _ (29, _, [.inl (0 : Int32)], _, 0, 0) _
            refine k_c1 36 rfl rfl (if_pos (by decide)) ?_
            refine k_push 37 rfl rfl ?_
            exact k_fin rfl (fin_Z (Or.inl rfl)) ⟨_, _, _, _, rfl, hI, fr1.rf, fr2.rf, show ((0 : Int32).toInt = 1 ∧ F0 6 = 0 ∧ (F0 9 = 1 ∨ F0 9 = 2 ∨ (F0 9 = 3 ∧ F0 11 = 40))) ∨ ((0 : Int32).toInt = 0 ∧ ¬ (F0 6 = 0 ∧ (F0 9 = 1 ∨ F0 9 = 2 ∨ (F0 9 = 3 ∧ F0 11 = 40)))) by omega⟩
        · refine k_c1 11 rfl rfl (if_neg b15) ?_
          have b15 := mt iv_eq0.mpr b15
          refine k_push 12 rfl rfl ?_
          have hc25 : (0 : Int32).toInt = 0 := by decide
          refine k_fin rfl (fin_Z (Or.inl rfl)) ⟨_, _, rfl, rf_len hI hI, ?_⟩
          show am_Ok _ _ _ (4, _, [.inl (0 : Int32)], _, 0, 0) _
          refine k_c1 27 rfl rfl (if_pos (by decide)) ?_
          refine k_push 28 rfl rfl ?_
          refine k_fin rfl (fin_Z (Or.inl rfl)) ⟨_, _, rfl, rf_len hI hI, ?_⟩
          show am_Ok _ _ _ (29, _, [.inl (0 : Int32)], _, 0, 0) _
          refine k_c1 36 rfl rfl (if_pos (by decide)) ?_
          refine k_push 37 rfl rfl ?_
          exact k_fin rfl (fin_Z (Or.inl rfl)) ⟨_, _, _, _, rfl, hI, fr1.rf, fr2.rf, show ((0 : Int32).toInt = 1 ∧ F0 6 = 0 ∧ (F0 9 = 1 ∨ F0 9 = 2 ∨ (F0 9 = 3 ∧ F0 11 = 40))) ∨ ((0 : Int32).toInt = 0 ∧ ¬ (F0 6 = 0 ∧ (F0 9 = 1 ∨ F0 9 = 2 ∨ (F0 9 = 3 ∧ F0 11 = 40)))) by omega⟩
  · refine k_c1 11 rfl rfl (if_neg b3) ?_
    have b3 := mt iv_eq0.mpr b3
    refine k_push 12 rfl rfl ?_
    have hc26 : (0 : Int32).toInt = 0 := by decide
    refine k_fin rfl (fin_Z (Or.inl rfl)) ⟨_, _, rfl, rf_len hI hI, ?_⟩
    show am_Ok _ _ _ (4, _, [.inl (0 : Int32)], _, 0, 0) _
    refine k_c1 36 rfl rfl (if_pos (by decide)) ?_
    refine k_push 37 rfl rfl ?_
    exact k_fin rfl (fin_Z (Or.inl rfl)) ⟨_, _, _, _, rfl, hI, fr1.rf, fr2.rf, show ((0 : Int32).toInt = 1 ∧ F0 6 = 0 ∧ (F0 9 = 1 ∨ F0 9 = 2 ∨ (F0 9 = 3 ∧ F0 11 = 40))) ∨ ((0 : Int32).toInt = 0 ∧ ¬ (F0 6 = 0 ∧ (F0 9 = 1 ∨ F0 9 = 2 ∨ (F0 9 = 3 ∧ F0 11 = 40)))) by omega⟩
end
