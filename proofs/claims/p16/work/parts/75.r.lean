section
theorem m_inPlaceOf {h0 : am_h} {F0 : rf_f} {A0 : rf_A} {w1 : Int32} {w2 : Int32}  (hR : rf_R h0 F0 A0) (p1 : 0 ≤ w1.toInt ∧ w1.toInt < 32040 ∧ 0 ≤ w2.toInt ∧ w2.toInt < 32040) (p2 : 0 ≤ A0 26 w1.toInt ∧ A0 26 w1.toInt < 32040) : am_Mt 2 212 [.inr (.inr (some 81)), .inl w1, .inl w2] h0 (rf_V h0 (fun F' A' => fr1 [] F0 F' ∧ fr2 [26] A0 A' ∧ (A' 26 (A0 26 w1.toInt) = w2.toInt ∧ (w2.toInt ≠ A0 26 w1.toInt → A' 26 w2.toInt = A0 26 w1.toInt) ∧ (∀ x : Int, x ≠ w2.toInt → x ≠ A0 26 w1.toInt → A' 26 x = A0 26 x)))) := by
  refine am_Mt.of (D := 1) ?_
  have hI : rf_I h0 h0 F0 A0 := rf_I.start hR
  refine k_aload 1 rfl rfl rfl ?_
  refine k_iload 2 rfl rfl rfl ?_
  refine k_aload 3 rfl rfl rfl ?_
  refine r_gA hI 6 rfl rfl rfl ?_
  refine k_iload 7 rfl rfl rfl ?_
  refine r_ld 26 hI 8 rfl rfl (by omega) (show w1.toInt < 32040 by omega) rfl (fun x1 (e2 : x1.toInt = A0 26 w1.toInt) => ?_)
  refine k_rv hI rfl (m_wires  hI.1 (show 0 ≤ w2.toInt ∧ w2.toInt < 32040 ∧ 0 ≤ x1.toInt ∧ x1.toInt < 32040 by omega)) rfl rfl rfl hI.rc ?_
  rintro h4 F5 A6 I7 ⟨k9, k10, p8⟩
  replace p8 : A6 26 x1.toInt = w2.toInt ∧ (w2.toInt ≠ x1.toInt → A6 26 w2.toInt = x1.toInt) ∧ (∀ x : Int, x ≠ w2.toInt → x ≠ x1.toInt → A6 26 x = (A0 26) x) := p8
  obtain ⟨p8a, p8b, p8c⟩ := p8
  have k9 := fr1.nil k9
  subst k9
  show am_Ok _ _ _ (11, _, [], _, 0, 0) _
  exact k_fin rfl rfl ⟨_, _, _, rfl, I7, fr1.rf, (fr2.tr (by decide) fr2.rf k10), (by rw [← e2]; exact ⟨p8a, p8b, p8c⟩)⟩
theorem m_joins {h0 : am_h} {F0 : rf_f} {A0 : rf_A} {w1 : Int32} {w2 : Int32}  (hR : rf_R h0 F0 A0) (p1 : 0 ≤ w1.toInt ∧ w1.toInt < 32040 ∧ 0 ≤ w2.toInt ∧ w2.toInt < 32040) (p2 : 0 ≤ A0 26 w1.toInt ∧ A0 26 w1.toInt < 32040 ∧ 0 ≤ A0 26 w2.toInt ∧ A0 26 w2.toInt < 32040) : am_Mt 2 213 [.inr (.inr (some 81)), .inl w1, .inl w2] h0 (rf_V h0 (fun F' A' => fr1 [] F0 F' ∧ fr2 [26] A0 A' ∧ (A' 26 (A0 26 w2.toInt) = A0 26 w1.toInt ∧ (A0 26 w1.toInt ≠ A0 26 w2.toInt → A' 26 (A0 26 w1.toInt) = A0 26 w2.toInt) ∧ (∀ x : Int, x ≠ A0 26 w1.toInt → x ≠ A0 26 w2.toInt → A' 26 x = A0 26 x)))) := by
  refine am_Mt.of (D := 1) ?_
  have hI : rf_I h0 h0 F0 A0 := rf_I.start hR
  refine k_aload 1 rfl rfl rfl ?_
  refine r_gA hI 4 rfl rfl rfl ?_
  refine k_iload 5 rfl rfl rfl ?_
  refine r_ld 26 hI 6 rfl rfl (by omega) (show w1.toInt < 32040 by omega) rfl (fun x1 (e2 : x1.toInt = A0 26 w1.toInt) => ?_)
  refine k_istore 7 rfl rfl ?_
  refine k_aload 8 rfl (gs_ne rfl rfl rfl) rfl ?_
  refine r_gA hI 11 rfl rfl rfl ?_
  refine k_iload 12 rfl (gs_ne rfl rfl rfl) rfl ?_
  refine r_ld 26 hI 13 rfl rfl (by omega) (show w2.toInt < 32040 by omega) rfl (fun x3 (e4 : x3.toInt = A0 26 w2.toInt) => ?_)
  refine k_istore 15 rfl rfl ?_
  refine k_aload 16 rfl (gs_ne rfl rfl (gs_ne rfl rfl rfl)) rfl ?_
  refine k_iload 17 rfl (gs_ne rfl rfl gs_eq) rfl ?_
  refine k_iload 19 rfl gs_eq rfl ?_
  refine k_rv hI rfl (m_wires  hI.1 (show 0 ≤ x1.toInt ∧ x1.toInt < 32040 ∧ 0 ≤ x3.toInt ∧ x3.toInt < 32040 by omega)) rfl rfl rfl hI.rc ?_
  rintro h6 F7 A8 I9 ⟨k11, k12, p10⟩
  replace p10 : A8 26 x3.toInt = x1.toInt ∧ (x1.toInt ≠ x3.toInt → A8 26 x1.toInt = x3.toInt) ∧ (∀ x : Int, x ≠ x1.toInt → x ≠ x3.toInt → A8 26 x = (A0 26) x) := p10
  obtain ⟨p10a, p10b, p10c⟩ := p10
  have k11 := fr1.nil k11
  subst k11
  show am_Ok _ _ _ (22, _, [], _, 0, 0) _
  exact k_fin rfl rfl ⟨_, _, _, rfl, I9, fr1.rf, (fr2.tr (by decide) fr2.rf k12), (by rw [← e2, ← e4]; exact ⟨p10a, p10b, p10c⟩)⟩
end
