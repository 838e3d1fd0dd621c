section
theorem m_wires {h0 : am_h} {F0 : rf_f} {A0 : rf_A} {w1 : Int32} {w2 : Int32}  (hR : rf_R h0 F0 A0) (p1 : 0 ≤ w1.toInt ∧ w1.toInt < 32040 ∧ 0 ≤ w2.toInt ∧ w2.toInt < 32040) : am_Mt 1 191 [.inr (.inr (some 81)), .inl w1, .inl w2] h0 (rf_V h0 (fun F' A' => fr1 [] F0 F' ∧ fr2 [26] A0 A' ∧ (A' 26 w2.toInt = w1.toInt ∧ (w1.toInt ≠ w2.toInt → A' 26 w1.toInt = w2.toInt) ∧ (∀ x : Int, x ≠ w1.toInt → x ≠ w2.toInt → A' 26 x = A0 26 x)))) := by
  refine am_Mt.of (D := 0) ?_
  have hI : rf_I h0 h0 F0 A0 := rf_I.start hR
  refine k_aload 1 rfl rfl rfl ?_
  refine r_gA hI 4 rfl rfl rfl ?_
  refine k_iload 5 rfl rfl rfl ?_
  refine k_iload 6 rfl rfl rfl ?_
  refine r_st 26 hI 7 rfl rfl (by omega) (show w1.toInt < 32040 by omega) rfl (fun h1 I2 => ?_)
  refine k_aload 8 rfl rfl rfl ?_
  refine r_gA I2 11 rfl rfl rfl ?_
  refine k_iload 12 rfl rfl rfl ?_
  refine k_iload 13 rfl rfl rfl ?_
  refine r_st 26 I2 14 rfl rfl (by omega) (show w2.toInt < 32040 by omega) rfl (fun h3 I4 => ?_)
  exact k_fin rfl rfl ⟨_, _, _, rfl, I4, fr1.rf, (fr2.up (by decide) (fr2.up (by decide) fr2.rf)), ⟨up2_eq, fun e => by rw [up2_ne e, up2_eq], fun y y1 y2 => by rw [up2_ne y2, up2_ne y1]⟩⟩
end
