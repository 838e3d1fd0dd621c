section
theorem m_makesE {h0 : am_h} {F0 : rf_f} {A0 : rf_A} {w1 : Int32} {gA : List Int} (hR : rf_R h0 F0 A0) (p1 : F0 67 = (gA.length : Int) ∧ gA.length ≤ 2599) (p2 : wd (A0 66) 0 gA) : am_Mt 1 240 [.inr (.inr (some 81)), .inl w1] h0 (rf_V h0 (fun F' A' => fr1 [67] F0 F' ∧ fr2 [66] A0 A' ∧ (F' 67 = (gA.length : Int) + 1 ∧ wd (A' 66) 0 (gA ++ [w1.toInt])))) := by
  refine am_Mt.of (D := 0) ?_
  have hI : rf_I h0 h0 F0 A0 := rf_I.start hR
  refine k_aload 1 rfl rfl rfl ?_
  refine r_gI hI 4 rfl rfl rfl (fun x1 (e2 : x1.toInt = F0 67) => ?_)
  refine k_push 7 rfl rfl ?_
  have hc3 : (2600 : Int32).toInt = 2600 := by decide
  by_cases b4 : (2600 : Int32) ≤ x1
  · refine k_c2 20 rfl rfl (if_pos b4) ?_
    have b4 := iv_le.mp b4
    exfalso
    omega
  · refine k_c2 10 rfl rfl (if_neg b4) ?_
    have b4 := mt iv_le.mpr b4
    refine k_aload 11 rfl rfl rfl ?_
    refine r_gA hI 14 rfl rfl rfl ?_
    refine k_aload 15 rfl rfl rfl ?_
    refine r_gI hI 18 rfl rfl rfl (fun x5 (e6 : x5.toInt = F0 67) => ?_)
    refine k_iload 19 rfl rfl rfl ?_
    refine r_st 66 hI 20 rfl rfl (by omega) (show x5.toInt < 2700 by omega) rfl (fun h7 I8 => ?_)
    refine k_aload 21 rfl rfl rfl ?_
    refine k_dup 22 rfl rfl rfl ?_
    refine r_gI I8 25 rfl rfl rfl (fun x9 (e10 : x9.toInt = F0 67) => ?_)
    refine k_push 26 rfl rfl ?_
    have hc11 : (1 : Int32).toInt = 1 := by decide
    obtain ⟨x12, q13⟩ : ∃ q : Int32, q = (x9 + (1 : Int32)) := ⟨_, rfl⟩
    have e14 : x12.toInt = x9.toInt + 1 := by rw [q13, iv_add (by omega) (by omega)]; omega
    refine k_bin x12 27 rfl q13.symm rfl ?_
    refine r_pI I8 30 rfl rfl rfl (fun h15 I16 => ?_)
    have hu : ∀ q : Int, q ≠ (gA.length : Int) → ((up2 A0 66 x5.toInt w1.toInt) 66) q = A0 66 q := fun q hq => by rw [show (gA.length : Int) = x5.toInt by omega] at hq; exact up2_ne hq
    have hv : ((up2 A0 66 x5.toInt w1.toInt) 66) (gA.length : Int) = w1.toInt := by rw [show (gA.length : Int) = x5.toInt by omega]; exact up2_eq
    exact k_fin rfl rfl ⟨_, _, _, rfl, I16, (fr1.up (by decide) fr1.rf), (fr2.up (by decide) fr2.rf), show (x12.toInt) = (gA.length : Int) + 1 ∧ wd (((up2 A0 66 x5.toInt w1.toInt) 66)) 0 (gA ++ [w1.toInt]) from ⟨by omega, wd_sn p2 hu hv⟩⟩
theorem b_X10_firstRedexE_2 {h0 : am_h} {F0 : rf_f} {A0 : rf_A} {w1 : Int32} {w2 : Int32} {gL : List Int} (p1 : 0 ≤ w1.toInt ∧ w1.toInt ≤ 2600 ∧ w2.toInt = (gL.length : Int) ∧ gL.length ≤ 1300) (p2 : wd (A0 1) w1.toInt gL) : ∀ (n : Nat) {lv : am_l} {h : am_h} {F : rf_f} {A : rf_A} {v1 : Int32} {v2 : Int32} {v3 : Int32}, ((w2.toInt - v3.toInt).toNat) = n → am_get lv 0 = some (.inr (.inr (some 81))) → am_get lv 1 = some (.inl v1) → am_get lv 2 = some (.inl v2) → am_get lv 3 = some (.inl v3) → rf_I h0 h F A → fr1 [] F0 F → fr2 [] A0 A → (v1.toInt = w1.toInt ∧ v2.toInt = w2.toInt) → (0 ≤ v3.toInt ∧ v3.toInt ≤ 1300) → (∀ q : Nat, (q : Int) < v3.toInt → ¬ pr1 gL q) → am_Ok am_G 0 242 (2, lv, [], h, 0, 0) (rf_Q h0 (fun x F' A' => fr1 [] F0 F' ∧ fr2 [] A0 A' ∧ (x = frd gL))) := by
  intro n
  induction n using Nat.strongRecOn with
  | ind n ih =>
    intro lv h F A v1 v2 v3 hn g0 g1 g2 g3 hI hF hA i1 i2 i3
    have p2v : wd (A0 1) v1.toInt gL := by rw [i1.1]; exact p2
    refine k_iload 3 rfl g3 rfl ?_
    refine k_push 4 rfl rfl ?_
    have hc1 : (1 : Int32).toInt = 1 := by decide
    obtain ⟨x2, q3⟩ : ∃ q : Int32, q = (v3 + (1 : Int32)) := ⟨_, rfl⟩
    have e4 : x2.toInt = v3.toInt + 1 := by rw [q3, iv_add (by omega) (by omega)]; omega
    refine k_bin x2 5 rfl q3.symm rfl ?_
    refine k_iload 6 rfl g2 rfl ?_
    by_cases b5 : v2 ≤ x2
    · refine k_c2 42 rfl rfl (if_pos b5) ?_
      have b5 := iv_le.mp b5
      refine k_push 43 rfl rfl ?_
      have hc6 : (-1 : Int32).toInt = -1 := by decide
      exact k_fin rfl rfl ⟨_, _, _, _, rfl, hI, hF, hA, show (-1 : Int32).toInt = frd gL by rw [pr1_fn i3 (by omega)]; omega⟩
    · refine k_c2 9 rfl rfl (if_neg b5) ?_
      have b5 := mt iv_le.mpr b5
      refine k_aload 10 rfl g0 rfl ?_
      refine r_gA hI 13 rfl rfl rfl ?_
      refine k_iload 14 rfl g1 rfl ?_
      refine k_iload 15 rfl g3 rfl ?_
      obtain ⟨x7, q8⟩ : ∃ q : Int32, q = (v1 + v3) := ⟨_, rfl⟩
      have e9 : x7.toInt = v1.toInt + v3.toInt := by rw [q8, iv_add (by omega) (by omega)]
      refine k_bin x7 16 rfl q8.symm rfl ?_
      refine r_ld 1 hI 17 rfl rfl (by omega) (show x7.toInt < 3900 by omega) rfl (fun x10 (e11 : x10.toInt = A 1 x7.toInt) => ?_)
      rw [e9] at e11
      have e12 : A 1 = A0 1 := hA 1 (by decide)
      rw [e12] at e11
      by_cases b13 : x10 = 0
      · refine k_c1 20 rfl rfl (if_pos b13) ?_
        have b13 := iv_eq0.mp b13
        refine k_aload 21 rfl g0 rfl ?_
        refine r_gA hI 24 rfl rfl rfl ?_
        refine k_iload 25 rfl g1 rfl ?_
        refine k_iload 26 rfl g3 rfl ?_
        obtain ⟨x14, q15⟩ : ∃ q : Int32, q = (v1 + v3) := ⟨_, rfl⟩
        have e16 : x14.toInt = v1.toInt + v3.toInt := by rw [q15, iv_add (by omega) (by omega)]
        refine k_bin x14 27 rfl q15.symm rfl ?_
        refine k_push 28 rfl rfl ?_
        obtain ⟨x17, q18⟩ : ∃ q : Int32, q = (x14 + (1 : Int32)) := ⟨_, rfl⟩
        have e19 : x17.toInt = x14.toInt + 1 := by rw [q18, iv_add (by omega) (by omega)]; omega
        refine k_bin x17 29 rfl q18.symm rfl ?_
        refine r_ld 1 hI 30 rfl rfl (by omega) (show x17.toInt < 3900 by omega) rfl (fun x20 (e21 : x20.toInt = A 1 x17.toInt) => ?_)
        rw [e19] at e21
        rw [e16] at e21
        have e22 : A 1 = A0 1 := hA 1 (by decide)
        rw [e22] at e21
        refine k_push 31 rfl rfl ?_
        by_cases b23 : x20 = (1 : Int32)
        · refine k_c2 34 rfl rfl (if_pos b23) ?_
          have b23 := iv_eq.mp b23
          have hy9 : pr1 gL v3.toInt.toNat := rx_y p2v (by omega) (by omega) (by omega) (by omega)
          refine k_iload 35 rfl g3 rfl ?_
          exact k_fin rfl rfl ⟨_, _, _, _, rfl, hI, hF, hA, show v3.toInt = frd gL by rw [pr1_fy i3 (by omega) hy9]⟩
        · refine k_c2 36 rfl rfl (if_neg b23) ?_
          have b23 := mt iv_eq.mpr b23
          have hn9 : ¬ pr1 gL v3.toInt.toNat := by first | exact rx_0 p2v (by omega) (by omega) (by omega) | exact rx_1 p2v (by omega) (by omega) (by omega)
          obtain ⟨x24, q25⟩ : ∃ q : Int32, q = v3 + (1 : Int32) := ⟨_, rfl⟩
          have e26 : x24.toInt = v3.toInt + 1 := by rw [q25, iv_add (by omega) (by omega)]; omega
          refine k_iinc x24 39 rfl g3 q25.symm rfl ?_
          refine k_goto 2 rfl rfl ?_
          exact ih _ (show ((w2.toInt - x24.toInt).toNat) < n by omega)  rfl (gs_ne rfl rfl g0) (gs_ne rfl rfl g1) (gs_ne rfl rfl g2) gs_eq hI hF hA (show v1.toInt = w1.toInt ∧ v2.toInt = w2.toInt by omega) (show 0 ≤ x24.toInt ∧ x24.toInt ≤ 1300 by omega) (pr1_up i3 (by omega) (by omega) hn9)
      · refine k_c1 36 rfl rfl (if_neg b13) ?_
        have b13 := mt iv_eq0.mpr b13
        have hn9 : ¬ pr1 gL v3.toInt.toNat := by first | exact rx_0 p2v (by omega) (by omega) (by omega) | exact rx_1 p2v (by omega) (by omega) (by omega)
        obtain ⟨x27, q28⟩ : ∃ q : Int32, q = v3 + (1 : Int32) := ⟨_, rfl⟩
        have e29 : x27.toInt = v3.toInt + 1 := by rw [q28, iv_add (by omega) (by omega)]; omega
        refine k_iinc x27 39 rfl g3 q28.symm rfl ?_
        refine k_goto 2 rfl rfl ?_
        exact ih _ (show ((w2.toInt - x27.toInt).toNat) < n by omega)  rfl (gs_ne rfl rfl g0) (gs_ne rfl rfl g1) (gs_ne rfl rfl g2) gs_eq hI hF hA (show v1.toInt = w1.toInt ∧ v2.toInt = w2.toInt by omega) (show 0 ≤ x27.toInt ∧ x27.toInt ≤ 1300 by omega) (pr1_up i3 (by omega) (by omega) hn9)
theorem m_firstRedexE {h0 : am_h} {F0 : rf_f} {A0 : rf_A} {w1 : Int32} {w2 : Int32} {gL : List Int} (hR : rf_R h0 F0 A0) (p1 : 0 ≤ w1.toInt ∧ w1.toInt ≤ 2600 ∧ w2.toInt = (gL.length : Int) ∧ gL.length ≤ 1300) (p2 : wd (A0 1) w1.toInt gL) : am_Mt 1 242 [.inr (.inr (some 81)), .inl w1, .inl w2] h0 (rf_Q h0 (fun x F' A' => fr1 [] F0 F' ∧ fr2 [] A0 A' ∧ (x = frd gL))) := by
  refine am_Mt.of (D := 0) ?_
  have hI : rf_I h0 h0 F0 A0 := rf_I.start hR
  refine k_push 1 rfl rfl ?_
  have hc30 : (0 : Int32).toInt = 0 := by decide
  refine k_istore 2 rfl rfl ?_
  exact b_X10_firstRedexE_2 (gL := gL) (w1 := w1) (w2 := w2) p1 p2 _  rfl (gs_ne rfl rfl rfl) (gs_ne rfl rfl rfl) (gs_ne rfl rfl rfl) gs_eq hI fr1.rf fr2.rf (show w1.toInt = w1.toInt ∧ w2.toInt = w2.toInt by omega) (show 0 ≤ (0 : Int32).toInt ∧ (0 : Int32).toInt ≤ 1300 by omega) (fun q hq => (by exfalso; omega))
theorem b_X10_makesArgumentE_15 {h0 : am_h} {F0 : rf_f} {A0 : rf_A} {w1 : Int32} {w2 : Int32} {w3 : Int32} {w4 : Int32} {gA gU : List Int} {gC : Int} (p1 : F0 67 = (gA.length : Int) ∧ gA.length + gU.length ≤ 2600 ∧ gU.length ≤ 1000) (p2 : wd (A0 66) 0 gA) (p5 : 0 ≤ w1.toInt ∧ 0 ≤ w2.toInt ∧ w1.toInt + w2.toInt + gU.length ≤ 3900 ∧ w3.toInt = w2.toInt + gU.length ∧ 0 ≤ w4.toInt ∧ w4.toInt ≤ 1300 ∧ w2.toInt ≤ 3900 ∧ w1.toInt ≤ 3900) (p6 : wd (A0 1) (w1.toInt + w2.toInt) gU) (p7 : ∀ z9, z9 ∈ gU → 0 ≤ z9 ∧ z9 ≤ gC) (p8 : 0 ≤ gC ∧ gC ≤ 1000000) (p9 : wL gU) {h : am_h} {F : rf_f} {A : rf_A} {v1 : Int32} {v2 : Int32} {v3 : Int32} {v4 : Int32} {v5 : Int32} {v7 : Int32} {b6 : Int} {gj : Nat} {gd : List Int} (hI : rf_I h0 h F A) (hF : fr1 [67] F0 F) (hA : fr2 [66, 68] A0 A) (i0 : b6 ≤ 1000) (i9 : gj < gU.length ∧ v7.toInt = w2.toInt + gj) (K : ∀ (lv : am_l) (v6 : Int32), am_get lv 0 = some (.inr (.inr (some 81))) → am_get lv 1 = some (.inl v1) → am_get lv 2 = some (.inl v2) → am_get lv 3 = some (.inl v3) → am_get lv 4 = some (.inl v4) → am_get lv 5 = some (.inl v5) → am_get lv 6 = some (.inl v6) → am_get lv 7 = some (.inl v7) → (0 ≤ v6.toInt ∧ v6.toInt ≤ b6) → (RO (fR w4.toInt) gU w2.toInt (A 68) v6.toInt gj gd) → am_Ok am_G 1 241 (40, lv, [], h, 0, 0) (rf_V h0 (fun F' A' => fr1 [67] F0 F' ∧ fr2 [66, 68] A0 A' ∧ (F' 67 = (gA.length : Int) + gU.length ∧ wd (A' 66) 0 (gA ++ rsl w4.toInt gU 0 []))))) : ∀ (n : Nat) {lv : am_l} {v6 : Int32}, (v6.toInt.toNat) = n → am_get lv 0 = some (.inr (.inr (some 81))) → am_get lv 1 = some (.inl v1) → am_get lv 2 = some (.inl v2) → am_get lv 3 = some (.inl v3) → am_get lv 4 = some (.inl v4) → am_get lv 5 = some (.inl v5) → am_get lv 6 = some (.inl v6) → am_get lv 7 = some (.inl v7) → (0 ≤ v6.toInt ∧ v6.toInt ≤ b6) → (RC (fR w4.toInt) gU w2.toInt (A 68) v6.toInt gj gd) → am_Ok am_G 1 241 (15, lv, [], h, 0, 0) (rf_V h0 (fun F' A' => fr1 [67] F0 F' ∧ fr2 [66, 68] A0 A' ∧ (F' 67 = (gA.length : Int) + gU.length ∧ wd (A' 66) 0 (gA ++ rsl w4.toInt gU 0 [])))) := by
  intro n
  induction n using Nat.strongRecOn with
  | ind n ih =>
    intro lv v6 hn g0 g1 g2 g3 g4 g5 g6 g7 i1 ir
    refine k_iload 17 rfl g6 rfl ?_
    by_cases b1 : v6 ≤ 0
    · refine k_c1 40 rfl rfl (if_pos b1) ?_
      have b1 := iv_le0.mp b1
      exact K _ v6 g0 g1 g2 g3 g4 g5 g6 g7 (show 0 ≤ v6.toInt ∧ v6.toInt ≤ b6 by omega) (show RO (fR w4.toInt) gU w2.toInt ((A 68)) v6.toInt gj gd by first | exact ir.out i9.1 (Or.inl (by omega)) | exact ir.out i9.1 (Or.inr (by omega)))
    · refine k_c1 20 rfl rfl (if_neg b1) ?_
      have b1 := mt iv_le0.mpr b1
      refine k_aload 21 rfl g0 rfl ?_
      refine r_gA hI 24 rfl rfl rfl ?_
      refine k_iload 26 rfl g6 rfl ?_
      refine k_push 27 rfl rfl ?_
      have hc2 : (1 : Int32).toInt = 1 := by decide
      obtain ⟨x3, q4⟩ : ∃ q : Int32, q = (v6 - (1 : Int32)) := ⟨_, rfl⟩
      have e5 : x3.toInt = v6.toInt - 1 := by rw [q4, iv_sub (by omega) (by omega)]; omega
      refine k_bin x3 28 rfl q4.symm rfl ?_
      refine r_ld 68 hI 29 rfl rfl (by omega) (show x3.toInt < 1300 by omega) rfl (fun x6 (e7 : x6.toInt = A 68 x3.toInt) => ?_)
      rw [e5] at e7
      refine k_iload 31 rfl g7 rfl ?_
      by_cases b8 : x6 = v7
      · refine k_c2 34 rfl rfl (if_pos b8) ?_
        have b8 := iv_eq.mp b8
        have hc9 : (-1 : Int32).toInt = -1 := by decide
        obtain ⟨x10, q11⟩ : ∃ q : Int32, q = v6 + (-1 : Int32) := ⟨_, rfl⟩
        have e12 : x10.toInt = v6.toInt + -1 := by rw [q11, iv_add (by omega) (by omega)]; omega
        refine k_iinc x10 37 rfl g6 q11.symm rfl ?_
        refine k_goto 15 rfl rfl ?_
        exact ih _ (show (x10.toInt.toNat) < n by omega)  rfl (gs_ne rfl rfl g0) (gs_ne rfl rfl g1) (gs_ne rfl rfl g2) (gs_ne rfl rfl g3) (gs_ne rfl rfl g4) (gs_ne rfl rfl g5) gs_eq (gs_ne rfl rfl g7) (show 0 ≤ x10.toInt ∧ x10.toInt ≤ b6 by omega) (show RC (fR w4.toInt) gU w2.toInt ((A 68)) x10.toInt gj gd by rw [show x10.toInt = v6.toInt - 1 by omega]; exact ir.pop i9.1 (by omega) (by omega))
      · refine k_c2 40 rfl rfl (if_neg b8) ?_
        have b8 := mt iv_eq.mpr b8
        exact K _ v6 g0 g1 g2 g3 g4 g5 g6 g7 (show 0 ≤ v6.toInt ∧ v6.toInt ≤ b6 by omega) (show RO (fR w4.toInt) gU w2.toInt ((A 68)) v6.toInt gj gd by first | exact ir.out i9.1 (Or.inl (by omega)) | exact ir.out i9.1 (Or.inr (by omega)))
theorem b_X10_makesArgumentE_9 {h0 : am_h} {F0 : rf_f} {A0 : rf_A} {w1 : Int32} {w2 : Int32} {w3 : Int32} {w4 : Int32} {gA gU : List Int} {gC : Int} (p1 : F0 67 = (gA.length : Int) ∧ gA.length + gU.length ≤ 2600 ∧ gU.length ≤ 1000) (p2 : wd (A0 66) 0 gA) (p5 : 0 ≤ w1.toInt ∧ 0 ≤ w2.toInt ∧ w1.toInt + w2.toInt + gU.length ≤ 3900 ∧ w3.toInt = w2.toInt + gU.length ∧ 0 ≤ w4.toInt ∧ w4.toInt ≤ 1300 ∧ w2.toInt ≤ 3900 ∧ w1.toInt ≤ 3900) (p6 : wd (A0 1) (w1.toInt + w2.toInt) gU) (p7 : ∀ z9, z9 ∈ gU → 0 ≤ z9 ∧ z9 ≤ gC) (p8 : 0 ≤ gC ∧ gC ≤ 1000000) (p9 : wL gU) : ∀ (n : Nat) {lv : am_l} {h : am_h} {F : rf_f} {A : rf_A} {v1 : Int32} {v2 : Int32} {v3 : Int32} {v4 : Int32} {v5 : Int32} {v6 : Int32} {v7 : Int32} {gj : Nat} {gd : List Int}, (gU.length - gj) = n → am_get lv 0 = some (.inr (.inr (some 81))) → am_get lv 1 = some (.inl v1) → am_get lv 2 = some (.inl v2) → am_get lv 3 = some (.inl v3) → am_get lv 4 = some (.inl v4) → am_get lv 5 = some (.inl v5) → am_get lv 6 = some (.inl v6) → am_get lv 7 = some (.inl v7) → rf_I h0 h F A → fr1 [67] F0 F → fr2 [66, 68] A0 A → (v1.toInt = w1.toInt ∧ v2.toInt = w2.toInt ∧ v3.toInt = w3.toInt ∧ v4.toInt = w4.toInt) → (v7.toInt = w2.toInt + gj ∧ gj ≤ gU.length) → (0 ≤ v6.toInt ∧ v6.toInt ≤ gj ∧ gd.length = gj) → (F 67 = (gA.length : Int) + gj) → (wd (A 66) 0 (gA ++ gd)) → (RC (fR w4.toInt) gU w2.toInt (A 68) v6.toInt gj gd) → am_Ok am_G 1 241 (9, lv, [], h, 0, 0) (rf_V h0 (fun F' A' => fr1 [67] F0 F' ∧ fr2 [66, 68] A0 A' ∧ (F' 67 = (gA.length : Int) + gU.length ∧ wd (A' 66) 0 (gA ++ rsl w4.toInt gU 0 [])))) := by
  intro n
  induction n using Nat.strongRecOn with
  | ind n ih =>
    intro lv h F A v1 v2 v3 v4 v5 v6 v7 gj gd hn g0 g1 g2 g3 g4 g5 g6 g7 hI hF hA i1 i2 i3 i4 i5 ir
    have hl9 : (gA ++ gd).length = gA.length + gj := by rw [List.length_append, i3.2.2]
    refine k_iload 11 rfl g7 rfl ?_
    refine k_iload 12 rfl g3 rfl ?_
    by_cases b13 : v3 ≤ v7
    · refine k_c2 113 rfl rfl (if_pos b13) ?_
      have b13 := iv_le.mp b13
      exact k_fin rfl rfl ⟨_, _, _, rfl, hI, hF, hA, show (F 67) = (gA.length : Int) + gU.length ∧ wd ((A 66)) 0 (gA ++ rsl w4.toInt gU 0 []) from ⟨by omega, by have h8 : gd = gN (fR w4.toInt) gU 0 [] := (show RC (fR w4.toInt) gU w2.toInt (A 68) v6.toInt gU.length gd by have h9 := ir; rw [show gj = gU.length by omega] at h9; exact h9).e; rw [rsl_gN, ← h8]; exact i5⟩⟩
    · refine k_c2 15 rfl rfl (if_neg b13) ?_
      have b13 := mt iv_le.mpr b13
      refine b_X10_makesArgumentE_15 (w1 := w1) (w2 := w2) (w3 := w3) (w4 := w4) (gA := gA) (gU := gU) (gC := gC) (b6 := v6.toInt) (gj := gj) (gd := gd) p1 p2 p5 p6 p7 p8 p9 hI hF hA (show (v6.toInt) ≤ 1000 by omega) (show (gj) < gU.length ∧ v7.toInt = w2.toInt + (gj) by omega) (fun lv14 x15 g16 g17 g18 g19 g20 g21 g22 g23 p24 p25 => ?_) _ rfl g0 g1 g2 g3 g4 g5 g6 g7 (show 0 ≤ v6.toInt ∧ v6.toInt ≤ (v6.toInt) by omega) (show RC (fR w4.toInt) gU w2.toInt ((A 68)) v6.toInt (gj) (gd) from ir)
      have p24 : 0 ≤ x15.toInt ∧ x15.toInt ≤ (v6.toInt) := p24
      have p25 : RO (fR w4.toInt) gU w2.toInt ((A 68)) x15.toInt (gj) (gd) := p25
      refine k_iload 42 rfl g22 rfl ?_
      refine k_istore 44 rfl rfl ?_
      refine k_aload 45 rfl (gs_ne rfl rfl g16) rfl ?_
      refine r_gA hI 48 rfl rfl rfl ?_
      refine k_iload 49 rfl (gs_ne rfl rfl g17) rfl ?_
      refine k_iload 51 rfl (gs_ne rfl rfl g23) rfl ?_
      obtain ⟨x26, q27⟩ : ∃ q : Int32, q = (v1 + v7) := ⟨_, rfl⟩
      have e28 : x26.toInt = v1.toInt + v7.toInt := by rw [q27, iv_add (by omega) (by omega)]
      refine k_bin x26 52 rfl q27.symm rfl ?_
      refine r_ld 1 hI 53 rfl rfl (by omega) (show x26.toInt < 3900 by omega) rfl (fun x29 (e30 : x29.toInt = A 1 x26.toInt) => ?_)
      rw [e28] at e30
      have e31 : A 1 = A0 1 := hA 1 (by decide)
      rw [e31] at e30
      refine k_istore 55 rfl rfl ?_
      have hcd : gU[gj]? = some x29.toInt := by rw [p6 gj (by omega), e30, show v1.toInt + v7.toInt = w1.toInt + w2.toInt + (gj : Int) by omega]
      have hb8 : 0 ≤ x29.toInt ∧ x29.toInt ≤ gC := p7 _ (List.mem_of_getElem? hcd)
      refine k_aload 56 rfl (gs_ne rfl rfl (gs_ne rfl rfl g16)) rfl ?_
      refine k_iload 58 rfl gs_eq rfl ?_
      refine k_push 59 rfl rfl ?_
      have hc32 : (2 : Int32).toInt = 2 := by decide
      by_cases b33 : x29 < (2 : Int32)
      · refine k_c2 79 rfl rfl (if_pos b33) ?_
        have b33 := iv_lt.mp b33
        refine k_iload 81 rfl gs_eq rfl ?_
        have ho8 : fR w4.toInt x29.toInt x15.toInt = [(x29).toInt] := by first | exact fR_lo (by omega) (by omega) | exact fR_hi (by omega) (by omega)
        refine k_rv hI rfl (m_makesE (gA := gA ++ gd) hI.1 (show (F 67) = ((gA ++ gd).length : Int) ∧ (gA ++ gd).length ≤ 2599 by omega) (show wd ((A 66)) 0 (gA ++ gd) from i5)) rfl rfl rfl hI.rc ?_
        rintro h35 F36 A37 I38 ⟨k40, k41, pq39⟩
        replace pq39 : F36 67 = ((gA ++ gd).length : Int) + 1 ∧ wd (A37 66) 0 ((gA ++ gd) ++ [x29.toInt]) := pq39
        obtain ⟨pq39a, pq39b⟩ := pq39
        show am_Ok _ _ _ (84, _, [], _, 0, 0) _
        refine k_iload 86 rfl gs_eq rfl ?_
        refine k_push 87 rfl rfl ?_
        have hc42 : (1 : Int32).toInt = 1 := by decide
        by_cases b43 : x29 = (1 : Int32)
        · refine k_c2 90 rfl rfl (if_pos b43) ?_
          have b43 := iv_eq.mp b43
          obtain ⟨ga9, gb9, hs9, hw9, hf9⟩ := p25.f1 (by rw [hcd, show x29.toInt = 1 by omega])
          have hz9 : wd (A0 1) (w1.toInt + w2.toInt + (gj : Int)) ga9 := (wd_app (by have h9 := wd_dr p6 gj; rw [hs9] at h9; exact h9)).1
          have hlz9 : gj + ga9.length ≤ gU.length := by have h9 := congrArg List.length hs9; rw [List.length_drop, List.length_append] at h9; omega
          have hw8 := wf_wd hz9 hw9
          have hr68 : (A37 68) = A 68 := (k41 68 (by decide))
          refine k_aload 91 rfl (gs_ne rfl rfl (gs_ne rfl rfl g16)) rfl ?_
          refine r_gA I38 94 rfl rfl rfl ?_
          refine k_iload 96 rfl (gs_ne rfl rfl (gs_ne rfl rfl g22)) rfl ?_
          refine k_aload 97 rfl (gs_ne rfl rfl (gs_ne rfl rfl g16)) rfl ?_
          refine k_iload 98 rfl (gs_ne rfl rfl (gs_ne rfl rfl g17)) rfl ?_
          refine k_iload 100 rfl (gs_ne rfl rfl (gs_ne rfl rfl g23)) rfl ?_
          refine k_rq I38 rfl (m_behind (n9 := ga9.length) I38.1 (show 0 ≤ v1.toInt ∧ 0 ≤ v7.toInt ∧ v1.toInt + v7.toInt + (ga9.length) ≤ 3900 by omega) (show wf ((A37 1)) (v1.toInt + v7.toInt) (ga9.length) by rw [show (A37 1) = A0 1 from (fr2.tr (by decide) hA k41) 1 (by decide), show v1.toInt + v7.toInt = w1.toInt + w2.toInt + (gj : Int) by omega]; exact hw8)) rfl rfl rfl I38.rc ?_
          rintro x44 h45 F46 A47 I48 ⟨k50, k51, pq49⟩
          replace pq49 : x44.toInt = v7.toInt + (ga9.length) := pq49
          have k50 := fr1.nil k50
          subst k50
          have k51 := fr2.nil k51
          subst k51
          show am_Ok _ _ _ (103, _, [.inl x44, .inl x15, .inr (.inr (some (rf_ad 68)))], _, 0, 0) _
          refine r_st 68 I48 104 rfl rfl (by omega) (show x15.toInt < 1300 by omega) rfl (fun h52 I53 => ?_)
          obtain ⟨x54, q55⟩ : ∃ q : Int32, q = x15 + (1 : Int32) := ⟨_, rfl⟩
          have e56 : x54.toInt = x15.toInt + 1 := by rw [q55, iv_add (by omega) (by omega)]; omega
          refine k_iinc x54 107 rfl (gs_ne rfl rfl (gs_ne rfl rfl g22)) q55.symm rfl ?_
          obtain ⟨x57, q58⟩ : ∃ q : Int32, q = v7 + (1 : Int32) := ⟨_, rfl⟩
          have e59 : x57.toInt = v7.toInt + 1 := by rw [q58, iv_add (by omega) (by omega)]; omega
          refine k_iinc x57 110 rfl (gs_ne rfl rfl (gs_ne rfl rfl (gs_ne rfl rfl g23))) q58.symm rfl ?_
          refine k_goto 9 rfl rfl ?_
          have hmk : wd (A37 66) 0 (gA ++ (gd ++ [(x29).toInt])) := by rw [← List.append_assoc]; exact pq39b
          have hrc : RC (fR w4.toInt) gU w2.toInt ((up2 A37 68 x15.toInt x44.toInt) 68) x54.toInt (gj + 1) (gd ++ [(x29).toInt]) := by rw [show x54.toInt = x15.toInt + 1 by omega, ← ho8, show x29.toInt = 1 by omega]; exact hf9 _ (up2_eq.trans (by omega)) (fun q hq => (up2_ne hq).trans (congrFun hr68 q))
          exact ih _ (show (gU.length - (gj + 1)) < n by omega) (gj := gj + 1) (gd := gd ++ [(x29).toInt]) rfl (gs_ne rfl rfl (gs_ne rfl rfl (gs_ne rfl rfl (gs_ne rfl rfl g16)))) (gs_ne rfl rfl (gs_ne rfl rfl (gs_ne rfl rfl (gs_ne rfl rfl g17)))) (gs_ne rfl rfl (gs_ne rfl rfl (gs_ne rfl rfl (gs_ne rfl rfl g18)))) (gs_ne rfl rfl (gs_ne rfl rfl (gs_ne rfl rfl (gs_ne rfl rfl g19)))) (gs_ne rfl rfl (gs_ne rfl rfl (gs_ne rfl rfl (gs_ne rfl rfl g20)))) (gs_ne rfl rfl (gs_ne rfl rfl (gs_ne rfl rfl gs_eq))) (gs_ne rfl rfl gs_eq) gs_eq I53 (fr1.tr (by decide) hF k40) (fr2.up (by decide) (fr2.tr (by decide) hA k41)) (show v1.toInt = w1.toInt ∧ v2.toInt = w2.toInt ∧ v3.toInt = w3.toInt ∧ v4.toInt = w4.toInt by omega) (show x57.toInt = w2.toInt + (gj + 1) ∧ (gj + 1) ≤ gU.length by omega) (show 0 ≤ x54.toInt ∧ x54.toInt ≤ (gj + 1) ∧ (gd ++ [(x29).toInt]).length = (gj + 1) from ⟨by omega, by omega, by rw [List.length_append, i3.2.2]; rfl⟩) (show (F36 67) = (gA.length : Int) + (gj + 1) by omega) (show wd ((A37 66)) 0 (gA ++ (gd ++ [(x29).toInt])) from hmk) (show RC (fR w4.toInt) gU w2.toInt (((up2 A37 68 x15.toInt x44.toInt) 68)) x54.toInt (gj + 1) (gd ++ [(x29).toInt]) from hrc)
        · refine k_c2 107 rfl rfl (if_neg b43) ?_
          have b43 := mt iv_eq.mpr b43
          obtain ⟨x60, q61⟩ : ∃ q : Int32, q = v7 + (1 : Int32) := ⟨_, rfl⟩
          have e62 : x60.toInt = v7.toInt + 1 := by rw [q61, iv_add (by omega) (by omega)]; omega
          refine k_iinc x60 110 rfl (gs_ne rfl rfl (gs_ne rfl rfl g23)) q61.symm rfl ?_
          refine k_goto 9 rfl rfl ?_
          have hmk : wd (A37 66) 0 (gA ++ (gd ++ [(x29).toInt])) := by rw [← List.append_assoc]; exact pq39b
          have hrc : RC (fR w4.toInt) gU w2.toInt (A37 68) x15.toInt (gj + 1) (gd ++ [(x29).toInt]) := by rw [show (A37 68) = A 68 from (k41 68 (by decide)), ← ho8]; exact p25.av hcd (by omega) (by omega)
          exact ih _ (show (gU.length - (gj + 1)) < n by omega) (gj := gj + 1) (gd := gd ++ [(x29).toInt]) rfl (gs_ne rfl rfl (gs_ne rfl rfl (gs_ne rfl rfl g16))) (gs_ne rfl rfl (gs_ne rfl rfl (gs_ne rfl rfl g17))) (gs_ne rfl rfl (gs_ne rfl rfl (gs_ne rfl rfl g18))) (gs_ne rfl rfl (gs_ne rfl rfl (gs_ne rfl rfl g19))) (gs_ne rfl rfl (gs_ne rfl rfl (gs_ne rfl rfl g20))) (gs_ne rfl rfl (gs_ne rfl rfl gs_eq)) (gs_ne rfl rfl (gs_ne rfl rfl (gs_ne rfl rfl g22))) gs_eq I38 (fr1.tr (by decide) hF k40) (fr2.tr (by decide) hA k41) (show v1.toInt = w1.toInt ∧ v2.toInt = w2.toInt ∧ v3.toInt = w3.toInt ∧ v4.toInt = w4.toInt by omega) (show x60.toInt = w2.toInt + (gj + 1) ∧ (gj + 1) ≤ gU.length by omega) (show 0 ≤ x15.toInt ∧ x15.toInt ≤ (gj + 1) ∧ (gd ++ [(x29).toInt]).length = (gj + 1) from ⟨by omega, by omega, by rw [List.length_append, i3.2.2]; rfl⟩) (show (F36 67) = (gA.length : Int) + (gj + 1) by omega) (show wd ((A37 66)) 0 (gA ++ (gd ++ [(x29).toInt])) from hmk) (show RC (fR w4.toInt) gU w2.toInt ((A37 68)) x15.toInt (gj + 1) (gd ++ [(x29).toInt]) from hrc)
      · refine k_c2 62 rfl rfl (if_neg b33) ?_
        have b33 := mt iv_lt.mpr b33
        refine k_iload 64 rfl gs_eq rfl ?_
        refine k_push 65 rfl rfl ?_
        obtain ⟨x63, q64⟩ : ∃ q : Int32, q = (x29 - (2 : Int32)) := ⟨_, rfl⟩
        have e65 : x63.toInt = x29.toInt - 2 := by rw [q64, iv_sub (by omega) (by omega)]; omega
        refine k_bin x63 66 rfl q64.symm rfl ?_
        refine k_iload 68 rfl (gs_ne rfl rfl gs_eq) rfl ?_
        by_cases b66 : x63 < x15
        · refine k_c2 79 rfl rfl (if_pos b66) ?_
          have b66 := iv_lt.mp b66
          refine k_iload 81 rfl gs_eq rfl ?_
          have ho8 : fR w4.toInt x29.toInt x15.toInt = [(x29).toInt] := by first | exact fR_lo (by omega) (by omega) | exact fR_hi (by omega) (by omega)
          refine k_rv hI rfl (m_makesE (gA := gA ++ gd) hI.1 (show (F 67) = ((gA ++ gd).length : Int) ∧ (gA ++ gd).length ≤ 2599 by omega) (show wd ((A 66)) 0 (gA ++ gd) from i5)) rfl rfl rfl hI.rc ?_
          rintro h68 F69 A70 I71 ⟨k73, k74, pq72⟩
          replace pq72 : F69 67 = ((gA ++ gd).length : Int) + 1 ∧ wd (A70 66) 0 ((gA ++ gd) ++ [x29.toInt]) := pq72
          obtain ⟨pq72a, pq72b⟩ := pq72
          show am_Ok _ _ _ (84, _, [], _, 0, 0) _
          refine k_iload 86 rfl gs_eq rfl ?_
          refine k_push 87 rfl rfl ?_
          have hc75 : (1 : Int32).toInt = 1 := by decide
          by_cases b76 : x29 = (1 : Int32)
          · refine k_c2 90 rfl rfl (if_pos b76) ?_
            have b76 := iv_eq.mp b76
            obtain ⟨ga9, gb9, hs9, hw9, hf9⟩ := p25.f1 (by rw [hcd, show x29.toInt = 1 by omega])
            have hz9 : wd (A0 1) (w1.toInt + w2.toInt + (gj : Int)) ga9 := (wd_app (by have h9 := wd_dr p6 gj; rw [hs9] at h9; exact h9)).1
            have hlz9 : gj + ga9.length ≤ gU.length := by have h9 := congrArg List.length hs9; rw [List.length_drop, List.length_append] at h9; omega
            have hw8 := wf_wd hz9 hw9
            have hr68 : (A70 68) = A 68 := (k74 68 (by decide))
            refine k_aload 91 rfl (gs_ne rfl rfl (gs_ne rfl rfl g16)) rfl ?_
            refine r_gA I71 94 rfl rfl rfl ?_
            refine k_iload 96 rfl (gs_ne rfl rfl (gs_ne rfl rfl g22)) rfl ?_
            refine k_aload 97 rfl (gs_ne rfl rfl (gs_ne rfl rfl g16)) rfl ?_
            refine k_iload 98 rfl (gs_ne rfl rfl (gs_ne rfl rfl g17)) rfl ?_
            refine k_iload 100 rfl (gs_ne rfl rfl (gs_ne rfl rfl g23)) rfl ?_
            refine k_rq I71 rfl (m_behind (n9 := ga9.length) I71.1 (show 0 ≤ v1.toInt ∧ 0 ≤ v7.toInt ∧ v1.toInt + v7.toInt + (ga9.length) ≤ 3900 by omega) (show wf ((A70 1)) (v1.toInt + v7.toInt) (ga9.length) by rw [show (A70 1) = A0 1 from (fr2.tr (by decide) hA k74) 1 (by decide), show v1.toInt + v7.toInt = w1.toInt + w2.toInt + (gj : Int) by omega]; exact hw8)) rfl rfl rfl I71.rc ?_
            rintro x77 h78 F79 A80 I81 ⟨k83, k84, pq82⟩
            replace pq82 : x77.toInt = v7.toInt + (ga9.length) := pq82
            have k83 := fr1.nil k83
            subst k83
            have k84 := fr2.nil k84
            subst k84
            show am_Ok _ _ _ (103, _, [.inl x77, .inl x15, .inr (.inr (some (rf_ad 68)))], _, 0, 0) _
            refine r_st 68 I81 104 rfl rfl (by omega) (show x15.toInt < 1300 by omega) rfl (fun h85 I86 => ?_)
            obtain ⟨x87, q88⟩ : ∃ q : Int32, q = x15 + (1 : Int32) := ⟨_, rfl⟩
            have e89 : x87.toInt = x15.toInt + 1 := by rw [q88, iv_add (by omega) (by omega)]; omega
            refine k_iinc x87 107 rfl (gs_ne rfl rfl (gs_ne rfl rfl g22)) q88.symm rfl ?_
            obtain ⟨x90, q91⟩ : ∃ q : Int32, q = v7 + (1 : Int32) := ⟨_, rfl⟩
            have e92 : x90.toInt = v7.toInt + 1 := by rw [q91, iv_add (by omega) (by omega)]; omega
            refine k_iinc x90 110 rfl (gs_ne rfl rfl (gs_ne rfl rfl (gs_ne rfl rfl g23))) q91.symm rfl ?_
            refine k_goto 9 rfl rfl ?_
            have hmk : wd (A70 66) 0 (gA ++ (gd ++ [(x29).toInt])) := by rw [← List.append_assoc]; exact pq72b
            have hrc : RC (fR w4.toInt) gU w2.toInt ((up2 A70 68 x15.toInt x77.toInt) 68) x87.toInt (gj + 1) (gd ++ [(x29).toInt]) := by rw [show x87.toInt = x15.toInt + 1 by omega, ← ho8, show x29.toInt = 1 by omega]; exact hf9 _ (up2_eq.trans (by omega)) (fun q hq => (up2_ne hq).trans (congrFun hr68 q))
            exact ih _ (show (gU.length - (gj + 1)) < n by omega) (gj := gj + 1) (gd := gd ++ [(x29).toInt]) rfl (gs_ne rfl rfl (gs_ne rfl rfl (gs_ne rfl rfl (gs_ne rfl rfl g16)))) (gs_ne rfl rfl (gs_ne rfl rfl (gs_ne rfl rfl (gs_ne rfl rfl g17)))) (gs_ne rfl rfl (gs_ne rfl rfl (gs_ne rfl rfl (gs_ne rfl rfl g18)))) (gs_ne rfl rfl (gs_ne rfl rfl (gs_ne rfl rfl (gs_ne rfl rfl g19)))) (gs_ne rfl rfl (gs_ne rfl rfl (gs_ne rfl rfl (gs_ne rfl rfl g20)))) (gs_ne rfl rfl (gs_ne rfl rfl (gs_ne rfl rfl gs_eq))) (gs_ne rfl rfl gs_eq) gs_eq I86 (fr1.tr (by decide) hF k73) (fr2.up (by decide) (fr2.tr (by decide) hA k74)) (show v1.toInt = w1.toInt ∧ v2.toInt = w2.toInt ∧ v3.toInt = w3.toInt ∧ v4.toInt = w4.toInt by omega) (show x90.toInt = w2.toInt + (gj + 1) ∧ (gj + 1) ≤ gU.length by omega) (show 0 ≤ x87.toInt ∧ x87.toInt ≤ (gj + 1) ∧ (gd ++ [(x29).toInt]).length = (gj + 1) from ⟨by omega, by omega, by rw [List.length_append, i3.2.2]; rfl⟩) (show (F69 67) = (gA.length : Int) + (gj + 1) by omega) (show wd ((A70 66)) 0 (gA ++ (gd ++ [(x29).toInt])) from hmk) (show RC (fR w4.toInt) gU w2.toInt (((up2 A70 68 x15.toInt x77.toInt) 68)) x87.toInt (gj + 1) (gd ++ [(x29).toInt]) from hrc)
          · refine k_c2 107 rfl rfl (if_neg b76) ?_
            have b76 := mt iv_eq.mpr b76
            obtain ⟨x93, q94⟩ : ∃ q : Int32, q = v7 + (1 : Int32) := ⟨_, rfl⟩
            have e95 : x93.toInt = v7.toInt + 1 := by rw [q94, iv_add (by omega) (by omega)]; omega
            refine k_iinc x93 110 rfl (gs_ne rfl rfl (gs_ne rfl rfl g23)) q94.symm rfl ?_
            refine k_goto 9 rfl rfl ?_
            have hmk : wd (A70 66) 0 (gA ++ (gd ++ [(x29).toInt])) := by rw [← List.append_assoc]; exact pq72b
            have hrc : RC (fR w4.toInt) gU w2.toInt (A70 68) x15.toInt (gj + 1) (gd ++ [(x29).toInt]) := by rw [show (A70 68) = A 68 from (k74 68 (by decide)), ← ho8]; exact p25.av hcd (by omega) (by omega)
            exact ih _ (show (gU.length - (gj + 1)) < n by omega) (gj := gj + 1) (gd := gd ++ [(x29).toInt]) rfl (gs_ne rfl rfl (gs_ne rfl rfl (gs_ne rfl rfl g16))) (gs_ne rfl rfl (gs_ne rfl rfl (gs_ne rfl rfl g17))) (gs_ne rfl rfl (gs_ne rfl rfl (gs_ne rfl rfl g18))) (gs_ne rfl rfl (gs_ne rfl rfl (gs_ne rfl rfl g19))) (gs_ne rfl rfl (gs_ne rfl rfl (gs_ne rfl rfl g20))) (gs_ne rfl rfl (gs_ne rfl rfl gs_eq)) (gs_ne rfl rfl (gs_ne rfl rfl (gs_ne rfl rfl g22))) gs_eq I71 (fr1.tr (by decide) hF k73) (fr2.tr (by decide) hA k74) (show v1.toInt = w1.toInt ∧ v2.toInt = w2.toInt ∧ v3.toInt = w3.toInt ∧ v4.toInt = w4.toInt by omega) (show x93.toInt = w2.toInt + (gj + 1) ∧ (gj + 1) ≤ gU.length by omega) (show 0 ≤ x15.toInt ∧ x15.toInt ≤ (gj + 1) ∧ (gd ++ [(x29).toInt]).length = (gj + 1) from ⟨by omega, by omega, by rw [List.length_append, i3.2.2]; rfl⟩) (show (F69 67) = (gA.length : Int) + (gj + 1) by omega) (show wd ((A70 66)) 0 (gA ++ (gd ++ [(x29).toInt])) from hmk) (show RC (fR w4.toInt) gU w2.toInt ((A70 68)) x15.toInt (gj + 1) (gd ++ [(x29).toInt]) from hrc)
        · refine k_c2 71 rfl rfl (if_neg b66) ?_
          have b66 := mt iv_lt.mpr b66
          refine k_iload 73 rfl gs_eq rfl ?_
          refine k_iload 75 rfl (gs_ne rfl rfl (gs_ne rfl rfl g20)) rfl ?_
          obtain ⟨x96, q97⟩ : ∃ q : Int32, q = (x29 + v4) := ⟨_, rfl⟩
          have e98 : x96.toInt = x29.toInt + v4.toInt := by rw [q97, iv_add (by omega) (by omega)]
          refine k_bin x96 76 rfl q97.symm rfl ?_
          refine k_goto 81 rfl rfl ?_
          have ho8 : fR w4.toInt x29.toInt x15.toInt = [(x96).toInt] := by first | exact fR_lo (by omega) (by omega) | exact fR_hi (by omega) (by omega)
          refine k_rv hI rfl (m_makesE (gA := gA ++ gd) hI.1 (show (F 67) = ((gA ++ gd).length : Int) ∧ (gA ++ gd).length ≤ 2599 by omega) (show wd ((A 66)) 0 (gA ++ gd) from i5)) rfl rfl rfl hI.rc ?_
          rintro h100 F101 A102 I103 ⟨k105, k106, pq104⟩
          replace pq104 : F101 67 = ((gA ++ gd).length : Int) + 1 ∧ wd (A102 66) 0 ((gA ++ gd) ++ [x96.toInt]) := pq104
          obtain ⟨pq104a, pq104b⟩ := pq104
          show am_Ok _ _ _ (84, _, [], _, 0, 0) _
          refine k_iload 86 rfl gs_eq rfl ?_
          refine k_push 87 rfl rfl ?_
          have hc107 : (1 : Int32).toInt = 1 := by decide
          by_cases b108 : x29 = (1 : Int32)
          · refine k_c2 90 rfl rfl (if_pos b108) ?_
            have b108 := iv_eq.mp b108
            obtain ⟨ga9, gb9, hs9, hw9, hf9⟩ := p25.f1 (by rw [hcd, show x29.toInt = 1 by omega])
            have hz9 : wd (A0 1) (w1.toInt + w2.toInt + (gj : Int)) ga9 := (wd_app (by have h9 := wd_dr p6 gj; rw [hs9] at h9; exact h9)).1
            have hlz9 : gj + ga9.length ≤ gU.length := by have h9 := congrArg List.length hs9; rw [List.length_drop, List.length_append] at h9; omega
            have hw8 := wf_wd hz9 hw9
            have hr68 : (A102 68) = A 68 := (k106 68 (by decide))
            refine k_aload 91 rfl (gs_ne rfl rfl (gs_ne rfl rfl g16)) rfl ?_
            refine r_gA I103 94 rfl rfl rfl ?_
            refine k_iload 96 rfl (gs_ne rfl rfl (gs_ne rfl rfl g22)) rfl ?_
            refine k_aload 97 rfl (gs_ne rfl rfl (gs_ne rfl rfl g16)) rfl ?_
            refine k_iload 98 rfl (gs_ne rfl rfl (gs_ne rfl rfl g17)) rfl ?_
            refine k_iload 100 rfl (gs_ne rfl rfl (gs_ne rfl rfl g23)) rfl ?_
            refine k_rq I103 rfl (m_behind (n9 := ga9.length) I103.1 (show 0 ≤ v1.toInt ∧ 0 ≤ v7.toInt ∧ v1.toInt + v7.toInt + (ga9.length) ≤ 3900 by omega) (show wf ((A102 1)) (v1.toInt + v7.toInt) (ga9.length) by rw [show (A102 1) = A0 1 from (fr2.tr (by decide) hA k106) 1 (by decide), show v1.toInt + v7.toInt = w1.toInt + w2.toInt + (gj : Int) by omega]; exact hw8)) rfl rfl rfl I103.rc ?_
            rintro x109 h110 F111 A112 I113 ⟨k115, k116, pq114⟩
            replace pq114 : x109.toInt = v7.toInt + (ga9.length) := pq114
            have k115 := fr1.nil k115
            subst k115
            have k116 := fr2.nil k116
            subst k116
            show am_Ok _ _ _ (103, _, [.inl x109, .inl x15, .inr (.inr (some (rf_ad 68)))], _, 0, 0) _
            refine r_st 68 I113 104 rfl rfl (by omega) (show x15.toInt < 1300 by omega) rfl (fun h117 I118 => ?_)
            obtain ⟨x119, q120⟩ : ∃ q : Int32, q = x15 + (1 : Int32) := ⟨_, rfl⟩
            have e121 : x119.toInt = x15.toInt + 1 := by rw [q120, iv_add (by omega) (by omega)]; omega
            refine k_iinc x119 107 rfl (gs_ne rfl rfl (gs_ne rfl rfl g22)) q120.symm rfl ?_
            obtain ⟨x122, q123⟩ : ∃ q : Int32, q = v7 + (1 : Int32) := ⟨_, rfl⟩
            have e124 : x122.toInt = v7.toInt + 1 := by rw [q123, iv_add (by omega) (by omega)]; omega
            refine k_iinc x122 110 rfl (gs_ne rfl rfl (gs_ne rfl rfl (gs_ne rfl rfl g23))) q123.symm rfl ?_
            refine k_goto 9 rfl rfl ?_
            have hmk : wd (A102 66) 0 (gA ++ (gd ++ [(x96).toInt])) := by rw [← List.append_assoc]; exact pq104b
            have hrc : RC (fR w4.toInt) gU w2.toInt ((up2 A102 68 x15.toInt x109.toInt) 68) x119.toInt (gj + 1) (gd ++ [(x96).toInt]) := by rw [show x119.toInt = x15.toInt + 1 by omega, ← ho8, show x29.toInt = 1 by omega]; exact hf9 _ (up2_eq.trans (by omega)) (fun q hq => (up2_ne hq).trans (congrFun hr68 q))
            exact ih _ (show (gU.length - (gj + 1)) < n by omega) (gj := gj + 1) (gd := gd ++ [(x96).toInt]) rfl (gs_ne rfl rfl (gs_ne rfl rfl (gs_ne rfl rfl (gs_ne rfl rfl g16)))) (gs_ne rfl rfl (gs_ne rfl rfl (gs_ne rfl rfl (gs_ne rfl rfl g17)))) (gs_ne rfl rfl (gs_ne rfl rfl (gs_ne rfl rfl (gs_ne rfl rfl g18)))) (gs_ne rfl rfl (gs_ne rfl rfl (gs_ne rfl rfl (gs_ne rfl rfl g19)))) (gs_ne rfl rfl (gs_ne rfl rfl (gs_ne rfl rfl (gs_ne rfl rfl g20)))) (gs_ne rfl rfl (gs_ne rfl rfl (gs_ne rfl rfl gs_eq))) (gs_ne rfl rfl gs_eq) gs_eq I118 (fr1.tr (by decide) hF k105) (fr2.up (by decide) (fr2.tr (by decide) hA k106)) (show v1.toInt = w1.toInt ∧ v2.toInt = w2.toInt ∧ v3.toInt = w3.toInt ∧ v4.toInt = w4.toInt by omega) (show x122.toInt = w2.toInt + (gj + 1) ∧ (gj + 1) ≤ gU.length by omega) (show 0 ≤ x119.toInt ∧ x119.toInt ≤ (gj + 1) ∧ (gd ++ [(x96).toInt]).length = (gj + 1) from ⟨by omega, by omega, by rw [List.length_append, i3.2.2]; rfl⟩) (show (F101 67) = (gA.length : Int) + (gj + 1) by omega) (show wd ((A102 66)) 0 (gA ++ (gd ++ [(x96).toInt])) from hmk) (show RC (fR w4.toInt) gU w2.toInt (((up2 A102 68 x15.toInt x109.toInt) 68)) x119.toInt (gj + 1) (gd ++ [(x96).toInt]) from hrc)
          · refine k_c2 107 rfl rfl (if_neg b108) ?_
            have b108 := mt iv_eq.mpr b108
            obtain ⟨x125, q126⟩ : ∃ q : Int32, q = v7 + (1 : Int32) := ⟨_, rfl⟩
            have e127 : x125.toInt = v7.toInt + 1 := by rw [q126, iv_add (by omega) (by omega)]; omega
            refine k_iinc x125 110 rfl (gs_ne rfl rfl (gs_ne rfl rfl g23)) q126.symm rfl ?_
            refine k_goto 9 rfl rfl ?_
            have hmk : wd (A102 66) 0 (gA ++ (gd ++ [(x96).toInt])) := by rw [← List.append_assoc]; exact pq104b
            have hrc : RC (fR w4.toInt) gU w2.toInt (A102 68) x15.toInt (gj + 1) (gd ++ [(x96).toInt]) := by rw [show (A102 68) = A 68 from (k106 68 (by decide)), ← ho8]; exact p25.av hcd (by omega) (by omega)
            exact ih _ (show (gU.length - (gj + 1)) < n by omega) (gj := gj + 1) (gd := gd ++ [(x96).toInt]) rfl (gs_ne rfl rfl (gs_ne rfl rfl (gs_ne rfl rfl g16))) (gs_ne rfl rfl (gs_ne rfl rfl (gs_ne rfl rfl g17))) (gs_ne rfl rfl (gs_ne rfl rfl (gs_ne rfl rfl g18))) (gs_ne rfl rfl (gs_ne rfl rfl (gs_ne rfl rfl g19))) (gs_ne rfl rfl (gs_ne rfl rfl (gs_ne rfl rfl g20))) (gs_ne rfl rfl (gs_ne rfl rfl gs_eq)) (gs_ne rfl rfl (gs_ne rfl rfl (gs_ne rfl rfl g22))) gs_eq I103 (fr1.tr (by decide) hF k105) (fr2.tr (by decide) hA k106) (show v1.toInt = w1.toInt ∧ v2.toInt = w2.toInt ∧ v3.toInt = w3.toInt ∧ v4.toInt = w4.toInt by omega) (show x125.toInt = w2.toInt + (gj + 1) ∧ (gj + 1) ≤ gU.length by omega) (show 0 ≤ x15.toInt ∧ x15.toInt ≤ (gj + 1) ∧ (gd ++ [(x96).toInt]).length = (gj + 1) from ⟨by omega, by omega, by rw [List.length_append, i3.2.2]; rfl⟩) (show (F101 67) = (gA.length : Int) + (gj + 1) by omega) (show wd ((A102 66)) 0 (gA ++ (gd ++ [(x96).toInt])) from hmk) (show RC (fR w4.toInt) gU w2.toInt ((A102 68)) x15.toInt (gj + 1) (gd ++ [(x96).toInt]) from hrc)
theorem m_makesArgumentE {h0 : am_h} {F0 : rf_f} {A0 : rf_A} {w1 : Int32} {w2 : Int32} {w3 : Int32} {w4 : Int32} {gA gU : List Int} {gC : Int} (hR : rf_R h0 F0 A0) (p1 : F0 67 = (gA.length : Int) ∧ gA.length + gU.length ≤ 2600 ∧ gU.length ≤ 1000) (p2 : wd (A0 66) 0 gA) (p5 : 0 ≤ w1.toInt ∧ 0 ≤ w2.toInt ∧ w1.toInt + w2.toInt + gU.length ≤ 3900 ∧ w3.toInt = w2.toInt + gU.length ∧ 0 ≤ w4.toInt ∧ w4.toInt ≤ 1300 ∧ w2.toInt ≤ 3900 ∧ w1.toInt ≤ 3900) (p6 : wd (A0 1) (w1.toInt + w2.toInt) gU) (p7 : ∀ z9, z9 ∈ gU → 0 ≤ z9 ∧ z9 ≤ gC) (p8 : 0 ≤ gC ∧ gC ≤ 1000000) (p9 : wL gU) : am_Mt 2 241 [.inr (.inr (some 81)), .inl w1, .inl w2, .inl w3, .inl w4] h0 (rf_V h0 (fun F' A' => fr1 [67] F0 F' ∧ fr2 [66, 68] A0 A' ∧ (F' 67 = (gA.length : Int) + gU.length ∧ wd (A' 66) 0 (gA ++ rsl w4.toInt gU 0 [])))) := by
  refine am_Mt.of (D := 1) ?_
  have hI : rf_I h0 h0 F0 A0 := rf_I.start hR
  refine k_push 1 rfl rfl ?_
  have hc128 : (0 : Int32).toInt = 0 := by decide
  refine k_istore 3 rfl rfl ?_
  refine k_push 4 rfl rfl ?_
  refine k_istore 6 rfl rfl ?_
  refine k_iload 7 rfl (gs_ne rfl rfl (gs_ne rfl rfl rfl)) rfl ?_
  refine k_istore 9 rfl rfl ?_
  exact b_X10_makesArgumentE_9 (gA := gA) (gU := gU) (gC := gC) (w1 := w1) (w2 := w2) (w3 := w3) (w4 := w4) p1 p2 p5 p6 p7 p8 p9 _ (gj := 0) (gd := ([] : List Int)) rfl (gs_ne rfl rfl (gs_ne rfl rfl (gs_ne rfl rfl rfl))) (gs_ne rfl rfl (gs_ne rfl rfl (gs_ne rfl rfl rfl))) (gs_ne rfl rfl (gs_ne rfl rfl (gs_ne rfl rfl rfl))) (gs_ne rfl rfl (gs_ne rfl rfl (gs_ne rfl rfl rfl))) (gs_ne rfl rfl (gs_ne rfl rfl (gs_ne rfl rfl rfl))) (gs_ne rfl rfl (gs_ne rfl rfl gs_eq)) (gs_ne rfl rfl gs_eq) gs_eq hI fr1.rf fr2.rf (show w1.toInt = w1.toInt ∧ w2.toInt = w2.toInt ∧ w3.toInt = w3.toInt ∧ w4.toInt = w4.toInt by omega) (show w2.toInt = w2.toInt + (0) ∧ (0) ≤ gU.length by omega) (show 0 ≤ (0 : Int32).toInt ∧ (0 : Int32).toInt ≤ (0) ∧ (([] : List Int)).length = (0) from ⟨by omega, by omega, rfl⟩) (show (F0 67) = (gA.length : Int) + (0) by omega) (show wd ((A0 66)) 0 (gA ++ (([] : List Int))) by rw [List.append_nil]; exact p2) (show RC (fR w4.toInt) gU w2.toInt ((A0 68)) (0 : Int32).toInt (0) (([] : List Int)) from RC.z p9 (by omega))
end
