section
theorem m_reads {h0 : am_h} {F0 : rf_f} {A0 : rf_A} {w1 : Int32} {gn : Nat} {gc : Int} (hR : rf_R h0 F0 A0) (p1 : A0 2 0 = gn ∧ gn ≤ 400) (p2 : mk (A0 1) gn gc) (p3 : 0 < gc) : am_Mt 1 233 [.inr (.inr (some 81)), .inl w1] h0 (rf_Q h0 (fun x F' A' => fr1 [] F0 F' ∧ fr2 [1, 2] A0 A' ∧ ((x = 0 ∧ A' 1 = A0 1 ∧ A' 2 = A0 2) ∨ (x = 1 ∧ gn < 400 ∧ A' 2 0 = gn + 1 ∧ mk (A' 1) (gn + 1) (gc + ow w1.toInt) ∧ (∀ q : Int, q ≠ 0 → A' 2 q = A0 2 q) ∧ (∀ q : Int, 400 ≤ q → A' 1 q = A0 1 q))))) := by
  refine am_Mt.of (D := 0) ?_
  have hI : rf_I h0 h0 F0 A0 := rf_I.start hR
  refine k_aload 1 rfl rfl rfl ?_
  refine r_gA hI 4 rfl rfl rfl ?_
  refine k_push 5 rfl rfl ?_
  have hc1 : (0 : Int32).toInt = 0 := by decide
  refine r_ld 2 hI 6 rfl rfl (by omega) (show (0 : Int32).toInt < 3 by omega) rfl (fun x2 (e3 : x2.toInt = A0 2 (0 : Int32).toInt) => ?_)
  rw [hc1] at e3
  refine k_push 9 rfl rfl ?_
  have hc4 : (400 : Int32).toInt = 400 := by decide
  by_cases b5 : x2 = (400 : Int32)
  · refine k_c2 12 rfl rfl (if_pos b5) ?_
    have b5 := iv_eq.mp b5
    refine k_push 13 rfl rfl ?_
    exact k_fin rfl (fin_Z (Or.inl rfl)) ⟨_, _, _, _, rfl, hI, fr1.rf, fr2.rf, show ((0 : Int32).toInt = 0 ∧ (A0 1) = A0 1 ∧ (A0 2) = A0 2) ∨ ((0 : Int32).toInt = 1 ∧ gn < 400 ∧ (A0 2) 0 = gn + 1 ∧ mk ((A0 1)) (gn + 1) (gc + ow w1.toInt) ∧ (∀ q : Int, q ≠ 0 → (A0 2) q = A0 2 q) ∧ (∀ q : Int, 400 ≤ q → (A0 1) q = A0 1 q)) from Or.inl ⟨by omega, rfl, rfl⟩⟩
  · refine k_c2 14 rfl rfl (if_neg b5) ?_
    have b5 := mt iv_eq.mpr b5
    refine k_aload 15 rfl rfl rfl ?_
    refine r_gA hI 18 rfl rfl rfl ?_
    refine k_aload 19 rfl rfl rfl ?_
    refine r_gA hI 22 rfl rfl rfl ?_
    refine k_push 23 rfl rfl ?_
    refine r_ld 2 hI 24 rfl rfl (by omega) (show (0 : Int32).toInt < 3 by omega) rfl (fun x6 (e7 : x6.toInt = A0 2 (0 : Int32).toInt) => ?_)
    rw [hc1] at e7
    refine k_iload 25 rfl rfl rfl ?_
    have hi9 : x6.toInt = gn := by omega
    refine r_st 1 hI 26 rfl rfl (by omega) (show x6.toInt < 3900 by omega) rfl (fun h8 I9 => ?_)
    refine k_aload 27 rfl rfl rfl ?_
    refine r_gA I9 30 rfl rfl rfl ?_
    refine k_push 31 rfl rfl ?_
    refine k_dup2 32 rfl rfl rfl ?_
    refine r_ld 2 I9 33 rfl rfl (by omega) (show (0 : Int32).toInt < 3 by omega) rfl (fun x10 (e11 : x10.toInt = A0 2 (0 : Int32).toInt) => ?_)
    rw [hc1] at e11
    refine k_push 34 rfl rfl ?_
    have hc12 : (1 : Int32).toInt = 1 := by decide
    obtain ⟨x13, q14⟩ : ∃ q : Int32, q = (x10 + (1 : Int32)) := ⟨_, rfl⟩
    have e15 : x13.toInt = x10.toInt + 1 := by rw [q14, iv_add (by omega) (by omega)]; omega
    refine k_bin x13 35 rfl q14.symm rfl ?_
    refine r_st 2 I9 36 rfl rfl (by omega) (show (0 : Int32).toInt < 3 by omega) rfl (fun h16 I17 => ?_)
    refine k_push 37 rfl rfl ?_
    exact k_fin rfl (fin_Z (Or.inr rfl)) ⟨_, _, _, _, rfl, I17, fr1.rf, (fr2.up (by decide) (fr2.up (by decide) fr2.rf)), Or.inr ⟨by decide, by omega, rd_fin (by omega) (by decide) (by omega) (by omega) p2 p3⟩⟩
end
