section
theorem m_makes {h0 : am_h} {F0 : rf_f} {A0 : rf_A} {w1 : Int32} {gm : Nat} {gc gM : Int} (hR : rf_R h0 F0 A0) (p1 : F0 67 = gm ∧ gm ≤ 2599) (p2 : mk (A0 66) gm gc) (p3 : 0 < gc) (p4 : cb (A0 66) 0 gm gM) (p5 : 0 ≤ w1.toInt ∧ w1.toInt ≤ gM) : am_Mt 1 240 [.inr (.inr (some 81)), .inl w1] h0 (rf_V h0 (fun F' A' => fr1 [67] F0 F' ∧ fr2 [66] A0 A' ∧ (F' 67 = gm + 1 ∧ mk (A' 66) (gm + 1) (gc + ow w1.toInt) ∧ cb (A' 66) 0 (gm + 1) gM))) := by
  refine am_Mt.of (D := 0) ?_
  have hI : rf_I h0 h0 F0 A0 := rf_I.start hR
  refine k_aload 1 rfl rfl rfl ?_
  refine r_gI hI 4 rfl rfl rfl (fun x1 (e2 : x1.toInt = F0 67) => ?_)
  refine k_push 7 rfl rfl ?_
  have hc3 : (2600 : Int32).toInt = 2600 := by decide
  by_cases b4 : (2600 : Int32) ≤ x1
  · refine k_c2 20 rfl rfl (if_pos b4) ?_
    have b4 := iv_le.mp b4
    exfalso
    omega
  · refine k_c2 10 rfl rfl (if_neg b4) ?_
    have b4 := mt iv_le.mpr b4
    refine k_aload 11 rfl rfl rfl ?_
    refine r_gA hI 14 rfl rfl rfl ?_
    refine k_aload 15 rfl rfl rfl ?_
    refine r_gI hI 18 rfl rfl rfl (fun x5 (e6 : x5.toInt = F0 67) => ?_)
    refine k_iload 19 rfl rfl rfl ?_
    refine r_st 66 hI 20 rfl rfl (by omega) (show x5.toInt < 2700 by omega) rfl (fun h7 I8 => ?_)
    refine k_aload 21 rfl rfl rfl ?_
    refine k_dup 22 rfl rfl rfl ?_
    refine r_gI I8 25 rfl rfl rfl (fun x9 (e10 : x9.toInt = F0 67) => ?_)
    refine k_push 26 rfl rfl ?_
    have hc11 : (1 : Int32).toInt = 1 := by decide
    obtain ⟨x12, q13⟩ : ∃ q : Int32, q = (x9 + (1 : Int32)) := ⟨_, rfl⟩
    have e14 : x12.toInt = x9.toInt + 1 := by rw [q13, iv_add (by omega) (by omega)]; omega
    refine k_bin x12 27 rfl q13.symm rfl ?_
    refine r_pI I8 30 rfl rfl rfl (fun h15 I16 => ?_)
    have hu : ∀ q : Int, q ≠ gm → ((up2 A0 66 x5.toInt w1.toInt) 66) q = A0 66 q := fun q hq => by rw [show (gm : Int) = x5.toInt by omega] at hq; exact up2_ne hq
    have hv : ((up2 A0 66 x5.toInt w1.toInt) 66) gm = w1.toInt := by rw [show (gm : Int) = x5.toInt by omega]; exact up2_eq
    exact k_fin rfl rfl ⟨_, _, _, rfl, I16, (fr1.up (by decide) fr1.rf), (fr2.up (by decide) fr2.rf), show (x12.toInt) = gm + 1 ∧ mk (((up2 A0 66 x5.toInt w1.toInt) 66)) (gm + 1) (gc + ow w1.toInt) ∧ cb (((up2 A0 66 x5.toInt w1.toInt) 66)) 0 (gm + 1) gM from ⟨by omega, p2.app p3 hu hv, p4.app hu hv p5.1 p5.2⟩⟩
theorem b_X10_firstRedex_2 {h0 : am_h} {F0 : rf_f} {A0 : rf_A} {w1 : Int32} {w2 : Int32}  (p1 : 0 ≤ w1.toInt ∧ w1.toInt ≤ 2600 ∧ 0 ≤ w2.toInt ∧ w2.toInt ≤ 1300) : ∀ (n : Nat) {lv : am_l} {h : am_h} {F : rf_f} {A : rf_A} {v1 : Int32} {v2 : Int32} {v3 : Int32}, ((w2.toInt - v3.toInt).toNat) = n → am_get lv 0 = some (.inr (.inr (some 81))) → am_get lv 1 = some (.inl v1) → am_get lv 2 = some (.inl v2) → am_get lv 3 = some (.inl v3) → rf_I h0 h F A → fr1 [] F0 F → fr2 [] A0 A → (v1.toInt = w1.toInt ∧ v2.toInt = w2.toInt) → (0 ≤ v3.toInt ∧ v3.toInt ≤ 1300) → am_Ok am_G 0 242 (2, lv, [], h, 0, 0) (rf_Q h0 (fun x F' A' => fr1 [] F0 F' ∧ fr2 [] A0 A' ∧ (x = -1 ∨ (0 ≤ x ∧ x + 1 < w2.toInt ∧ A0 1 (w1.toInt + x) = 0 ∧ A0 1 (w1.toInt + x + 1) = 1)))) := by
  intro n
  induction n using Nat.strongRecOn with
  | ind n ih =>
    intro lv h F A v1 v2 v3 hn g0 g1 g2 g3 hI hF hA i1 i2
    refine k_iload 3 rfl g3 rfl ?_
    refine k_push 4 rfl rfl ?_
    have hc1 : (1 : Int32).toInt = 1 := by decide
    obtain ⟨x2, q3⟩ : ∃ q : Int32, q = (v3 + (1 : Int32)) := ⟨_, rfl⟩
    have e4 : x2.toInt = v3.toInt + 1 := by rw [q3, iv_add (by omega) (by omega)]; omega
    refine k_bin x2 5 rfl q3.symm rfl ?_
    refine k_iload 6 rfl g2 rfl ?_
    by_cases b5 : v2 ≤ x2
    · refine k_c2 42 rfl rfl (if_pos b5) ?_
      have b5 := iv_le.mp b5
      refine k_push 43 rfl rfl ?_
      have hc6 : (-1 : Int32).toInt = -1 := by decide
      exact k_fin rfl rfl ⟨_, _, _, _, rfl, hI, hF, hA, show (-1 : Int32).toInt = -1 ∨ (0 ≤ (-1 : Int32).toInt ∧ (-1 : Int32).toInt + 1 < w2.toInt ∧ A0 1 (w1.toInt + (-1 : Int32).toInt) = 0 ∧ A0 1 (w1.toInt + (-1 : Int32).toInt + 1) = 1) from Or.inl (by omega)⟩
    · refine k_c2 9 rfl rfl (if_neg b5) ?_
      have b5 := mt iv_le.mpr b5
      refine k_aload 10 rfl g0 rfl ?_
      refine r_gA hI 13 rfl rfl rfl ?_
      refine k_iload 14 rfl g1 rfl ?_
      refine k_iload 15 rfl g3 rfl ?_
      obtain ⟨x7, q8⟩ : ∃ q : Int32, q = (v1 + v3) := ⟨_, rfl⟩
      have e9 : x7.toInt = v1.toInt + v3.toInt := by rw [q8, iv_add (by omega) (by omega)]
      refine k_bin x7 16 rfl q8.symm rfl ?_
      refine r_ld 1 hI 17 rfl rfl (by omega) (show x7.toInt < 3900 by omega) rfl (fun x10 (e11 : x10.toInt = A 1 x7.toInt) => ?_)
      rw [e9] at e11
      have e12 : A 1 = A0 1 := hA 1 (by decide)
      rw [e12] at e11
      by_cases b13 : x10 = 0
      · refine k_c1 20 rfl rfl (if_pos b13) ?_
        have b13 := iv_eq0.mp b13
        refine k_aload 21 rfl g0 rfl ?_
        refine r_gA hI 24 rfl rfl rfl ?_
        refine k_iload 25 rfl g1 rfl ?_
        refine k_iload 26 rfl g3 rfl ?_
        obtain ⟨x14, q15⟩ : ∃ q : Int32, q = (v1 + v3) := ⟨_, rfl⟩
        have e16 : x14.toInt = v1.toInt + v3.toInt := by rw [q15, iv_add (by omega) (by omega)]
        refine k_bin x14 27 rfl q15.symm rfl ?_
        refine k_push 28 rfl rfl ?_
        obtain ⟨x17, q18⟩ : ∃ q : Int32, q = (x14 + (1 : Int32)) := ⟨_, rfl⟩
        have e19 : x17.toInt = x14.toInt + 1 := by rw [q18, iv_add (by omega) (by omega)]; omega
        refine k_bin x17 29 rfl q18.symm rfl ?_
        refine r_ld 1 hI 30 rfl rfl (by omega) (show x17.toInt < 3900 by omega) rfl (fun x20 (e21 : x20.toInt = A 1 x17.toInt) => ?_)
        rw [e19] at e21
        rw [e16] at e21
        have e22 : A 1 = A0 1 := hA 1 (by decide)
        rw [e22] at e21
        refine k_push 31 rfl rfl ?_
        by_cases b23 : x20 = (1 : Int32)
        · refine k_c2 34 rfl rfl (if_pos b23) ?_
          have b23 := iv_eq.mp b23
          have hx1 : A0 1 (w1.toInt + v3.toInt) = 0 := by rw [← i1.1]; omega
          refine k_iload 35 rfl g3 rfl ?_
          exact k_fin rfl rfl ⟨_, _, _, _, rfl, hI, hF, hA, show v3.toInt = -1 ∨ (0 ≤ v3.toInt ∧ v3.toInt + 1 < w2.toInt ∧ A0 1 (w1.toInt + v3.toInt) = 0 ∧ A0 1 (w1.toInt + v3.toInt + 1) = 1) from Or.inr ⟨by omega, by omega, hx1, by rw [show w1.toInt + v3.toInt + 1 = v1.toInt + v3.toInt + 1 by omega]; omega⟩⟩
        · refine k_c2 36 rfl rfl (if_neg b23) ?_
          have b23 := mt iv_eq.mpr b23
          obtain ⟨x24, q25⟩ : ∃ q : Int32, q = v3 + (1 : Int32) := ⟨_, rfl⟩
          have e26 : x24.toInt = v3.toInt + 1 := by rw [q25, iv_add (by omega) (by omega)]; omega
          refine k_iinc x24 39 rfl g3 q25.symm rfl ?_
          refine k_goto 2 rfl rfl ?_
          exact ih _ (show ((w2.toInt - x24.toInt).toNat) < n by omega)  rfl (gs_ne rfl rfl g0) (gs_ne rfl rfl g1) (gs_ne rfl rfl g2) gs_eq hI hF hA (show v1.toInt = w1.toInt ∧ v2.toInt = w2.toInt by omega) (show 0 ≤ x24.toInt ∧ x24.toInt ≤ 1300 by omega)
      · refine k_c1 36 rfl rfl (if_neg b13) ?_
        have b13 := mt iv_eq0.mpr b13
        obtain ⟨x27, q28⟩ : ∃ q : Int32, q = v3 + (1 : Int32) := ⟨_, rfl⟩
        have e29 : x27.toInt = v3.toInt + 1 := by rw [q28, iv_add (by omega) (by omega)]; omega
        refine k_iinc x27 39 rfl g3 q28.symm rfl ?_
        refine k_goto 2 rfl rfl ?_
        exact ih _ (show ((w2.toInt - x27.toInt).toNat) < n by omega)  rfl (gs_ne rfl rfl g0) (gs_ne rfl rfl g1) (gs_ne rfl rfl g2) gs_eq hI hF hA (show v1.toInt = w1.toInt ∧ v2.toInt = w2.toInt by omega) (show 0 ≤ x27.toInt ∧ x27.toInt ≤ 1300 by omega)
theorem m_firstRedex {h0 : am_h} {F0 : rf_f} {A0 : rf_A} {w1 : Int32} {w2 : Int32}  (hR : rf_R h0 F0 A0) (p1 : 0 ≤ w1.toInt ∧ w1.toInt ≤ 2600 ∧ 0 ≤ w2.toInt ∧ w2.toInt ≤ 1300) : am_Mt 1 242 [.inr (.inr (some 81)), .inl w1, .inl w2] h0 (rf_Q h0 (fun x F' A' => fr1 [] F0 F' ∧ fr2 [] A0 A' ∧ (x = -1 ∨ (0 ≤ x ∧ x + 1 < w2.toInt ∧ A0 1 (w1.toInt + x) = 0 ∧ A0 1 (w1.toInt + x + 1) = 1)))) := by
  refine am_Mt.of (D := 0) ?_
  have hI : rf_I h0 h0 F0 A0 := rf_I.start hR
  refine k_push 1 rfl rfl ?_
  have hc30 : (0 : Int32).toInt = 0 := by decide
  refine k_istore 2 rfl rfl ?_
  exact b_X10_firstRedex_2  (w1 := w1) (w2 := w2) p1 _  rfl (gs_ne rfl rfl rfl) (gs_ne rfl rfl rfl) (gs_ne rfl rfl rfl) gs_eq hI fr1.rf fr2.rf (show w1.toInt = w1.toInt ∧ w2.toInt = w2.toInt by omega) (show 0 ≤ (0 : Int32).toInt ∧ (0 : Int32).toInt ≤ 1300 by omega)
end
