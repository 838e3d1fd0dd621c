section
theorem m_check {h0 : am_h} {F0 : rf_f} {A0 : rf_A} {w1 : Int32} {w2 : Int32}  (hR : rf_R h0 F0 A0) (p1 : w2.toInt ≠ 0) : am_Mt 2 170 [.inr (.inr (some 81)), .inl w1, .inl w2] h0 (rf_Q h0 (fun x F' A' => fr1 [6, 5] F0 F' ∧ fr2 [] A0 A' ∧ ((x = 1 ∧ F0 6 = 0 ∧ w1.toInt ≠ 0 ∧ F' 6 = 0) ∨ (x = 0 ∧ F' 6 ≠ 0)))) := by
  refine am_Mt.of (D := 1) ?_
  have hI : rf_I h0 h0 F0 A0 := rf_I.start hR
  refine k_aload 1 rfl rfl rfl ?_
  refine k_in (d := 0) rfl rfl rfl rfl hI.rc ?_
  refine k_aload 1 rfl rfl rfl ?_
  refine r_gI hI 4 rfl rfl rfl (fun x1 (e2 : x1.toInt = F0 6) => ?_)
  by_cases b3 : x1 = 0
  · refine k_c1 7 rfl rfl (if_pos b3) ?_
    have b3 := iv_eq0.mp b3
    refine k_push 8 rfl rfl ?_
    have hc4 : (1 : Int32).toInt = 1 := by decide
    refine k_goto 12 rfl rfl ?_
    refine k_fin rfl (fin_Z (Or.inr rfl)) ⟨_, _, rfl, rf_len hI hI, ?_⟩
    show am_Ok _ _ _ (4, _, [.inl (1 : Int32)], _, 0, 0) _
    refine k_c1 7 rfl rfl (if_neg (by decide)) ?_
    refine k_iload 8 rfl rfl rfl ?_
    by_cases b5 : w1 = 0
    · refine k_c1 11 rfl rfl (if_pos b5) ?_
      have b5 := iv_eq0.mp b5
      refine k_aload 12 rfl rfl rfl ?_
      refine k_iload 13 rfl rfl rfl ?_
      refine r_pI hI 16 rfl rfl rfl (fun h6 I7 => ?_)
      refine k_aload 17 rfl rfl rfl ?_
      refine k_aload 18 rfl rfl rfl ?_
      refine r_gI I7 21 rfl rfl rfl (fun x8 (e9 : x8.toInt = F0 10) => ?_)
      refine r_pI I7 24 rfl rfl rfl (fun h10 I11 => ?_)
      refine k_aload 25 rfl rfl rfl ?_
      refine k_in (d := 0) rfl rfl rfl rfl I11.rc ?_
      refine k_aload 1 rfl rfl rfl ?_
      refine r_gI I11 4 rfl rfl rfl (fun x12 (e13 : x12.toInt = w2.toInt) => ?_)
      by_cases b14 : x12 = 0
      · refine k_c1 7 rfl rfl (if_pos b14) ?_
        have b14 := iv_eq0.mp b14
        refine k_push 8 rfl rfl ?_
        refine k_goto 12 rfl rfl ?_
        refine k_fin rfl (fin_Z (Or.inr rfl)) ⟨_, _, rfl, rf_len I11 I11, ?_⟩
        show am_Ok _ _ _ (28, _, [.inl (1 : Int32)], _, 0, 0) _
        exact k_fin rfl (fin_Z (Or.inr rfl)) ⟨_, _, _, _, rfl, I11, (fr1.up (by decide) (fr1.up (by decide) fr1.rf)), fr2.rf, show ((1 : Int32).toInt = 1 ∧ F0 6 = 0 ∧ w1.toInt ≠ 0 ∧ (w2.toInt) = 0) ∨ ((1 : Int32).toInt = 0 ∧ (w2.toInt) ≠ 0) by omega⟩
      · refine k_c1 11 rfl rfl (if_neg b14) ?_
        have b14 := mt iv_eq0.mpr b14
        refine k_push 12 rfl rfl ?_
        have hc15 : (0 : Int32).toInt = 0 := by decide
        refine k_fin rfl (fin_Z (Or.inl rfl)) ⟨_, _, rfl, rf_len I11 I11, ?_⟩
        show am_Ok _ _ _ (28, _, [.inl (0 : Int32)], _, 0, 0) _
        exact k_fin rfl (fin_Z (Or.inl rfl)) ⟨_, _, _, _, rfl, I11, (fr1.up (by decide) (fr1.up (by decide) fr1.rf)), fr2.rf, show ((0 : Int32).toInt = 1 ∧ F0 6 = 0 ∧ w1.toInt ≠ 0 ∧ (w2.toInt) = 0) ∨ ((0 : Int32).toInt = 0 ∧ (w2.toInt) ≠ 0) by omega⟩
    · refine k_c1 24 rfl rfl (if_neg b5) ?_
      have b5 := mt iv_eq0.mpr b5
      refine k_aload 25 rfl rfl rfl ?_
      refine k_in (d := 0) rfl rfl rfl rfl hI.rc ?_
      refine k_aload 1 rfl rfl rfl ?_
      refine r_gI hI 4 rfl rfl rfl (fun x16 (e17 : x16.toInt = F0 6) => ?_)
      by_cases b18 : x16 = 0
      · refine k_c1 7 rfl rfl (if_pos b18) ?_
        have b18 := iv_eq0.mp b18
        refine k_push 8 rfl rfl ?_
        refine k_goto 12 rfl rfl ?_
        refine k_fin rfl (fin_Z (Or.inr rfl)) ⟨_, _, rfl, rf_len hI hI, ?_⟩
        show am_Ok _ _ _ (28, _, [.inl (1 : Int32)], _, 0, 0) _
        exact k_fin rfl (fin_Z (Or.inr rfl)) ⟨_, _, _, _, rfl, hI, fr1.rf, fr2.rf, show ((1 : Int32).toInt = 1 ∧ F0 6 = 0 ∧ w1.toInt ≠ 0 ∧ (F0 6) = 0) ∨ ((1 : Int32).toInt = 0 ∧ (F0 6) ≠ 0) by omega⟩
      · refine k_c1 11 rfl rfl (if_neg b18) ?_
        have b18 := mt iv_eq0.mpr b18
        refine k_push 12 rfl rfl ?_
        have hc19 : (0 : Int32).toInt = 0 := by decide
        refine k_fin rfl (fin_Z (Or.inl rfl)) ⟨_, _, rfl, rf_len hI hI, ?_⟩
        show am_Ok _ _ _ (28, _, [.inl (0 : Int32)], _, 0, 0) _
        exact k_fin rfl (fin_Z (Or.inl rfl)) ⟨_, _, _, _, rfl, hI, fr1.rf, fr2.rf, show ((0 : Int32).toInt = 1 ∧ F0 6 = 0 ∧ w1.toInt ≠ 0 ∧ (F0 6) = 0) ∨ ((0 : Int32).toInt = 0 ∧ (F0 6) ≠ 0) by omega⟩
  · refine k_c1 11 rfl rfl (if_neg b3) ?_
    have b3 := mt iv_eq0.mpr b3
    refine k_push 12 rfl rfl ?_
    have hc20 : (0 : Int32).toInt = 0 := by decide
    refine k_fin rfl (fin_Z (Or.inl rfl)) ⟨_, _, rfl, rf_len hI hI, ?_⟩
    show am_Ok _ _ _ (4, _, [.inl (0 : Int32)], _, 0, 0) _
    refine k_c1 24 rfl rfl (if_pos (by decide)) ?_
    refine k_aload 25 rfl rfl rfl ?_
    refine k_in (d := 0) rfl rfl rfl rfl hI.rc ?_
    refine k_aload 1 rfl rfl rfl ?_
    refine r_gI hI 4 rfl rfl rfl (fun x21 (e22 : x21.toInt = F0 6) => ?_)
    by_cases b23 : x21 = 0
    · refine k_c1 7 rfl rfl (if_pos b23) ?_
      have b23 := iv_eq0.mp b23
      refine k_push 8 rfl rfl ?_
      have hc24 : (1 : Int32).toInt = 1 := by decide
      refine k_goto 12 rfl rfl ?_
      refine k_fin rfl (fin_Z (Or.inr rfl)) ⟨_, _, rfl, rf_len hI hI, ?_⟩
      show am_Ok _ _ _ (28, _, [.inl (1 : Int32)], _, 0, 0) _
      exact k_fin rfl (fin_Z (Or.inr rfl)) ⟨_, _, _, _, rfl, hI, fr1.rf, fr2.rf, show ((1 : Int32).toInt = 1 ∧ F0 6 = 0 ∧ w1.toInt ≠ 0 ∧ (F0 6) = 0) ∨ ((1 : Int32).toInt = 0 ∧ (F0 6) ≠ 0) by omega⟩
    · refine k_c1 11 rfl rfl (if_neg b23) ?_
      have b23 := mt iv_eq0.mpr b23
      refine k_push 12 rfl rfl ?_
      refine k_fin rfl (fin_Z (Or.inl rfl)) ⟨_, _, rfl, rf_len hI hI, ?_⟩
      show am_Ok _ _ _ (28, _, [.inl (0 : Int32)], _, 0, 0) _
      exact k_fin rfl (fin_Z (Or.inl rfl)) ⟨_, _, _, _, rfl, hI, fr1.rf, fr2.rf, show ((0 : Int32).toInt = 1 ∧ F0 6 = 0 ∧ w1.toInt ≠ 0 ∧ (F0 6) = 0) ∨ ((0 : Int32).toInt = 0 ∧ (F0 6) ≠ 0) by omega⟩
end
