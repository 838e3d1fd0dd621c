section
theorem b_X10_keepsOld_16 {h0 : am_h} {F0 : rf_f} {A0 : rf_A}  (p1 : 0 ≤ F0 28 ∧ F0 28 ≤ 400) (p2 : 0 ≤ A0 2 2 ∧ A0 2 2 ≤ 120) : ∀ (n : Nat) {lv : am_l} {h : am_h} {F : rf_f} {A : rf_A} {v1 : Int32}, ((120 - v1.toInt).toNat) = n → am_get lv 0 = some (.inr (.inr (some 81))) → am_get lv 1 = some (.inl v1) → rf_I h0 h F A → fr1 [36, 37, 38] F0 F → fr2 [33, 34, 35, 39] A0 A → (0 ≤ v1.toInt ∧ v1.toInt ≤ A0 2 2) → (F 36 = F0 27 ∧ F 37 = F0 28 ∧ F 38 = A0 2 2) → (∀ j : Int, 0 ≤ j → j < F0 28 → A 33 j = A0 24 j ∧ A 34 j = A0 25 j) → (∀ p : Int, 0 ≤ p → p < 4 * F0 28 → A 35 p = A0 26 p) → (∀ k : Int, 0 ≤ k → k < v1.toInt → A 39 k = A0 1 (2600 + k)) → am_Ok am_G 1 201 (16, lv, [], h, 0, 0) (rf_V h0 (fun F' A' => fr1 [36, 37, 38] F0 F' ∧ fr2 [33, 34, 35, 39] A0 A' ∧ ((F' 36 = F0 27 ∧ F' 37 = F0 28) ∧ (∀ j : Int, 0 ≤ j → j < F0 28 → A' 33 j = A0 24 j ∧ A' 34 j = A0 25 j) ∧ (∀ p : Int, 0 ≤ p → p < 4 * F0 28 → A' 35 p = A0 26 p) ∧ F' 38 = A0 2 2 ∧ (∀ k : Int, 0 ≤ k → k < A0 2 2 → A' 39 k = A0 1 (2600 + k))))) := by
  intro n
  induction n using Nat.strongRecOn with
  | ind n ih =>
    intro lv h F A v1 hn g0 g1 hI hF hA i1 i2 i3 i4 i5
    refine k_iload 17 rfl g1 rfl ?_
    refine k_aload 18 rfl g0 rfl ?_
    refine r_gI hI 21 rfl rfl rfl (fun x1 (e2 : x1.toInt = F 38) => ?_)
    by_cases b3 : x1 ≤ v1
    · refine k_c2 46 rfl rfl (if_pos b3) ?_
      have b3 := iv_le.mp b3
      exact k_fin rfl rfl ⟨_, _, _, rfl, hI, hF, hA, ⟨⟨i2.1, i2.2.1⟩, i3, i4, i2.2.2, fun k h1 h2 => i5 k h1 (by omega)⟩⟩
    · refine k_c2 24 rfl rfl (if_neg b3) ?_
      have b3 := mt iv_le.mpr b3
      refine k_aload 25 rfl g0 rfl ?_
      refine r_gA hI 28 rfl rfl rfl ?_
      refine k_iload 29 rfl g1 rfl ?_
      refine k_aload 30 rfl g0 rfl ?_
      refine r_gA hI 33 rfl rfl rfl ?_
      refine k_push 36 rfl rfl ?_
      have hc4 : (2600 : Int32).toInt = 2600 := by decide
      refine k_iload 37 rfl g1 rfl ?_
      obtain ⟨x5, q6⟩ : ∃ q : Int32, q = ((2600 : Int32) + v1) := ⟨_, rfl⟩
      have e7 : x5.toInt = 2600 + v1.toInt := by rw [q6, iv_add (by omega) (by omega)]; omega
      refine k_bin x5 38 rfl q6.symm rfl ?_
      refine r_ld 1 hI 39 rfl rfl (by omega) (show x5.toInt < 3900 by omega) rfl (fun x8 (e9 : x8.toInt = A 1 x5.toInt) => ?_)
      rw [e7] at e9
      have e10 : A 1 = A0 1 := hA 1 (by decide)
      rw [e10] at e9
      have hx9 : x8.toInt = A0 1 (2600 + v1.toInt) := e9
      refine r_st 39 hI 40 rfl rfl (by omega) (show v1.toInt < 130 by omega) rfl (fun h11 I12 => ?_)
      have hc13 : (1 : Int32).toInt = 1 := by decide
      obtain ⟨x14, q15⟩ : ∃ q : Int32, q = v1 + (1 : Int32) := ⟨_, rfl⟩
      have e16 : x14.toInt = v1.toInt + 1 := by rw [q15, iv_add (by omega) (by omega)]; omega
      refine k_iinc x14 43 rfl g1 q15.symm rfl ?_
      refine k_goto 16 rfl rfl ?_
      exact ih _ (show ((120 - x14.toInt).toNat) < n by omega)  rfl (gs_ne rfl rfl g0) gs_eq I12 hF (fr2.up (by decide) hA) (show 0 ≤ x14.toInt ∧ x14.toInt ≤ A0 2 2 by omega) (show (F 36) = F0 27 ∧ (F 37) = F0 28 ∧ (F 38) = A0 2 2 by omega) (fun j h1 h2 => ⟨(up2_r (by decide)).trans (i3 j h1 h2).1, (up2_r (by decide)).trans (i3 j h1 h2).2⟩) (fun p h1 h2 => (up2_r (by decide)).trans (i4 p h1 h2)) (kp_1 (W := fun k => A0 1 (2600 + k)) i5 rfl hx9 (by omega))
theorem m_keepsOld {h0 : am_h} {F0 : rf_f} {A0 : rf_A}  (hR : rf_R h0 F0 A0) (p1 : 0 ≤ F0 28 ∧ F0 28 ≤ 400) (p2 : 0 ≤ A0 2 2 ∧ A0 2 2 ≤ 120) : am_Mt 2 201 [.inr (.inr (some 81))] h0 (rf_V h0 (fun F' A' => fr1 [36, 37, 38] F0 F' ∧ fr2 [33, 34, 35, 39] A0 A' ∧ ((F' 36 = F0 27 ∧ F' 37 = F0 28) ∧ (∀ j : Int, 0 ≤ j → j < F0 28 → A' 33 j = A0 24 j ∧ A' 34 j = A0 25 j) ∧ (∀ p : Int, 0 ≤ p → p < 4 * F0 28 → A' 35 p = A0 26 p) ∧ F' 38 = A0 2 2 ∧ (∀ k : Int, 0 ≤ k → k < A0 2 2 → A' 39 k = A0 1 (2600 + k))))) := by
  refine am_Mt.of (D := 1) ?_
  have hI : rf_I h0 h0 F0 A0 := rf_I.start hR
  refine k_aload 1 rfl rfl rfl ?_
  refine k_rv hI rfl (m_keepsNet  hI.1 (show 0 ≤ (F0 28) ∧ (F0 28) ≤ 400 by omega)) rfl rfl rfl hI.rc ?_
  rintro h18 F19 A20 I21 ⟨k23, k24, p22⟩
  replace p22 : (F19 36 = (F0 27) ∧ F19 37 = (F0 28)) ∧ (∀ j : Int, 0 ≤ j → j < (F0 28) → A20 33 j = (A0 24) j ∧ A20 34 j = (A0 25) j) ∧ (∀ p : Int, 0 ≤ p → p < 4 * (F0 28) → A20 35 p = (A0 26) p) := p22
  obtain ⟨p22a, p22b, p22c⟩ := p22
  show am_Ok _ _ _ (4, _, [], _, 0, 0) _
  refine k_aload 5 rfl rfl rfl ?_
  refine k_aload 6 rfl rfl rfl ?_
  refine r_gA I21 9 rfl rfl rfl ?_
  refine k_push 10 rfl rfl ?_
  have hc25 : (2 : Int32).toInt = 2 := by decide
  refine r_ld 2 I21 11 rfl rfl (by omega) (show (2 : Int32).toInt < 3 by omega) rfl (fun x26 (e27 : x26.toInt = A20 2 (2 : Int32).toInt) => ?_)
  rw [hc25] at e27
  have e28 : A20 2 = A0 2 := k24 2 (by decide)
  rw [e28] at e27
  refine r_pI I21 14 rfl rfl rfl (fun h29 I30 => ?_)
  refine k_push 15 rfl rfl ?_
  have hc31 : (0 : Int32).toInt = 0 := by decide
  refine k_istore 16 rfl rfl ?_
  exact b_X10_keepsOld_16   p1 p2 _  rfl (gs_ne rfl rfl rfl) gs_eq I30 (fr1.up (by decide) (fr1.tr (by decide) fr1.rf k23)) (fr2.tr (by decide) fr2.rf k24) (show 0 ≤ (0 : Int32).toInt ∧ (0 : Int32).toInt ≤ A0 2 2 by omega) (show (F19 36) = F0 27 ∧ (F19 37) = F0 28 ∧ (x26.toInt) = A0 2 2 by omega) (show ∀ j : Int, 0 ≤ j → j < F0 28 → (A20 33) j = A0 24 j ∧ (A20 34) j = A0 25 j from p22b) (show ∀ p : Int, 0 ≤ p → p < 4 * F0 28 → (A20 35) p = A0 26 p from p22c) (fun k h1 h2 => absurd h2 (by omega))
theorem co_1 {A : rf_A} {W : Int → Int} {n i m x : Int} {a : Nat} (h : ∀ p : Int, 2600 ≤ p → p < 2600 + n → A a p = W (p - 2600)) (hi : i = 2600 + n) (hx : x = W (i - 2600)) (hm : m = n + 1) : ∀ p : Int, 2600 ≤ p → p < 2600 + m → up2 A a i x a p = W (p - 2600) := by
  intro p p1 p2
  by_cases e : p = i
  · rw [e]
    exact up2_eq.trans hx
  · rw [up2_ne e]
    exact h p p1 (by omega)
theorem b_X10_comesOld_16 {h0 : am_h} {F0 : rf_f} {A0 : rf_A}  (p1 : 0 ≤ F0 37 ∧ F0 37 ≤ 400) (p2 : 0 ≤ F0 38 ∧ F0 38 ≤ 120) : ∀ (n : Nat) {lv : am_l} {h : am_h} {F : rf_f} {A : rf_A} {v1 : Int32}, ((120 - v1.toInt).toNat) = n → am_get lv 0 = some (.inr (.inr (some 81))) → am_get lv 1 = some (.inl v1) → rf_I h0 h F A → fr1 [27, 28] F0 F → fr2 [24, 25, 26, 1, 2] A0 A → (0 ≤ v1.toInt ∧ v1.toInt ≤ F0 38) → (F 27 = F0 36 ∧ F 28 = F0 37) → (∀ j : Int, 0 ≤ j → j < F0 37 → A 24 j = A0 33 j ∧ A 25 j = A0 34 j) → (∀ p : Int, 0 ≤ p → p < 4 * F0 37 → A 26 p = A0 35 p) → (∀ k : Int, 2600 ≤ k → k < 2600 + v1.toInt → A 1 k = A0 39 (k - 2600)) → (A 2 2 = F0 38) → am_Ok am_G 1 202 (16, lv, [], h, 0, 0) (rf_V h0 (fun F' A' => fr1 [27, 28] F0 F' ∧ fr2 [24, 25, 26, 1, 2] A0 A' ∧ ((F' 27 = F0 36 ∧ F' 28 = F0 37) ∧ (∀ j : Int, 0 ≤ j → j < F0 37 → A' 24 j = A0 33 j ∧ A' 25 j = A0 34 j) ∧ (∀ p : Int, 0 ≤ p → p < 4 * F0 37 → A' 26 p = A0 35 p) ∧ A' 2 2 = F0 38 ∧ (∀ k : Int, 2600 ≤ k → k < 2600 + F0 38 → A' 1 k = A0 39 (k - 2600))))) := by
  intro n
  induction n using Nat.strongRecOn with
  | ind n ih =>
    intro lv h F A v1 hn g0 g1 hI hF hA i1 i2 i3 i4 i5 i6
    refine k_iload 17 rfl g1 rfl ?_
    refine k_aload 18 rfl g0 rfl ?_
    refine r_gI hI 21 rfl rfl rfl (fun x1 (e2 : x1.toInt = F 38) => ?_)
    have e3 : F 38 = F0 38 := hF 38 (by decide)
    by_cases b4 : x1 ≤ v1
    · refine k_c2 46 rfl rfl (if_pos b4) ?_
      have b4 := iv_le.mp b4
      exact k_fin rfl rfl ⟨_, _, _, rfl, hI, hF, hA, ⟨i2, i3, i4, i6, fun k h1 h2 => i5 k h1 (by omega)⟩⟩
    · refine k_c2 24 rfl rfl (if_neg b4) ?_
      have b4 := mt iv_le.mpr b4
      refine k_aload 25 rfl g0 rfl ?_
      refine r_gA hI 28 rfl rfl rfl ?_
      refine k_push 31 rfl rfl ?_
      have hc5 : (2600 : Int32).toInt = 2600 := by decide
      refine k_iload 32 rfl g1 rfl ?_
      obtain ⟨x6, q7⟩ : ∃ q : Int32, q = ((2600 : Int32) + v1) := ⟨_, rfl⟩
      have e8 : x6.toInt = 2600 + v1.toInt := by rw [q7, iv_add (by omega) (by omega)]; omega
      refine k_bin x6 33 rfl q7.symm rfl ?_
      refine k_aload 34 rfl g0 rfl ?_
      refine r_gA hI 37 rfl rfl rfl ?_
      refine k_iload 38 rfl g1 rfl ?_
      refine r_ld 39 hI 39 rfl rfl (by omega) (show v1.toInt < 130 by omega) rfl (fun x9 (e10 : x9.toInt = A 39 v1.toInt) => ?_)
      have e11 : A 39 = A0 39 := hA 39 (by decide)
      rw [e11] at e10
      have hx9 : x9.toInt = A0 39 (x6.toInt - 2600) := e10.trans (congrArg (A0 39) (by omega))
      refine r_st 1 hI 40 rfl rfl (by omega) (show x6.toInt < 3900 by omega) rfl (fun h12 I13 => ?_)
      have hc14 : (1 : Int32).toInt = 1 := by decide
      obtain ⟨x15, q16⟩ : ∃ q : Int32, q = v1 + (1 : Int32) := ⟨_, rfl⟩
      have e17 : x15.toInt = v1.toInt + 1 := by rw [q16, iv_add (by omega) (by omega)]; omega
      refine k_iinc x15 43 rfl g1 q16.symm rfl ?_
      refine k_goto 16 rfl rfl ?_
      exact ih _ (show ((120 - x15.toInt).toNat) < n by omega)  rfl (gs_ne rfl rfl g0) gs_eq I13 hF (fr2.up (by decide) hA) (show 0 ≤ x15.toInt ∧ x15.toInt ≤ F0 38 by omega) (show (F 27) = F0 36 ∧ (F 28) = F0 37 by omega) (fun j h1 h2 => ⟨(up2_r (by decide)).trans (i3 j h1 h2).1, (up2_r (by decide)).trans (i3 j h1 h2).2⟩) (fun p h1 h2 => (up2_r (by decide)).trans (i4 p h1 h2)) (co_1 i5 (by omega) hx9 (by omega)) ((up2_r (by decide)).trans i6)
theorem m_comesOld {h0 : am_h} {F0 : rf_f} {A0 : rf_A}  (hR : rf_R h0 F0 A0) (p1 : 0 ≤ F0 37 ∧ F0 37 ≤ 400) (p2 : 0 ≤ F0 38 ∧ F0 38 ≤ 120) : am_Mt 2 202 [.inr (.inr (some 81))] h0 (rf_V h0 (fun F' A' => fr1 [27, 28] F0 F' ∧ fr2 [24, 25, 26, 1, 2] A0 A' ∧ ((F' 27 = F0 36 ∧ F' 28 = F0 37) ∧ (∀ j : Int, 0 ≤ j → j < F0 37 → A' 24 j = A0 33 j ∧ A' 25 j = A0 34 j) ∧ (∀ p : Int, 0 ≤ p → p < 4 * F0 37 → A' 26 p = A0 35 p) ∧ A' 2 2 = F0 38 ∧ (∀ k : Int, 2600 ≤ k → k < 2600 + F0 38 → A' 1 k = A0 39 (k - 2600))))) := by
  refine am_Mt.of (D := 1) ?_
  have hI : rf_I h0 h0 F0 A0 := rf_I.start hR
  refine k_aload 1 rfl rfl rfl ?_
  refine k_rv hI rfl (m_comesNet  hI.1 (show 0 ≤ (F0 37) ∧ (F0 37) ≤ 400 by omega)) rfl rfl rfl hI.rc ?_
  rintro h19 F20 A21 I22 ⟨k24, k25, p23⟩
  replace p23 : (F20 27 = (F0 36) ∧ F20 28 = (F0 37)) ∧ (∀ j : Int, 0 ≤ j → j < (F0 37) → A21 24 j = (A0 33) j ∧ A21 25 j = (A0 34) j) ∧ (∀ p : Int, 0 ≤ p → p < 4 * (F0 37) → A21 26 p = (A0 35) p) := p23
  obtain ⟨p23a, p23b, p23c⟩ := p23
  show am_Ok _ _ _ (4, _, [], _, 0, 0) _
  refine k_aload 5 rfl rfl rfl ?_
  refine r_gA I22 8 rfl rfl rfl ?_
  refine k_push 9 rfl rfl ?_
  have hc26 : (2 : Int32).toInt = 2 := by decide
  refine k_aload 10 rfl rfl rfl ?_
  refine r_gI I22 13 rfl rfl rfl (fun x27 (e28 : x27.toInt = F20 38) => ?_)
  have e29 : F20 38 = F0 38 := k24 38 (by decide)
  refine r_st 2 I22 14 rfl rfl (by omega) (show (2 : Int32).toInt < 3 by omega) rfl (fun h30 I31 => ?_)
  refine k_push 15 rfl rfl ?_
  have hc32 : (0 : Int32).toInt = 0 := by decide
  refine k_istore 16 rfl rfl ?_
  exact b_X10_comesOld_16   p1 p2 _  rfl (gs_ne rfl rfl rfl) gs_eq I31 (fr1.tr (by decide) fr1.rf k24) (fr2.up (by decide) (fr2.tr (by decide) fr2.rf k25)) (show 0 ≤ (0 : Int32).toInt ∧ (0 : Int32).toInt ≤ F0 38 by omega) (show (F20 27) = F0 36 ∧ (F20 28) = F0 37 by omega) (fun j h1 h2 => ⟨(up2_r (by decide)).trans (p23b j h1 h2).1, (up2_r (by decide)).trans (p23b j h1 h2).2⟩) (fun p h1 h2 => (up2_r (by decide)).trans (p23c p h1 h2)) (fun k h1 h2 => absurd h2 (by omega)) ((by rw [show (2 : Int) = (2 : Int32).toInt by decide]; exact up2_eq.trans (by omega)))
end
