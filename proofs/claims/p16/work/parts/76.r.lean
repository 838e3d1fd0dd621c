section
theorem nn_nx {K : Int → Int} {k k' : Int} (h : ∀ q : Int, 0 ≤ q → q < k → K q ≠ -1) (hk : k' = k + 1) (hv : K k ≠ -1) : ∀ q : Int, 0 ≤ q → q < k' → K q ≠ -1 := fun q q1 q2 => by
  by_cases e : q = k
  · rw [e]
    exact hv
  · exact h q q1 (by omega)
theorem b_X10_newNode_2 {h0 : am_h} {F0 : rf_f} {A0 : rf_A} {w1 : Int32} {w2 : Int32} {gB : Int} (p1 : 0 ≤ F0 28 ∧ F0 28 ≤ gB ∧ gB ≤ 8000 ∧ 0 ≤ F0 27 ∧ F0 27 ≤ 10000) (p2 : (∀ q : Int, 0 ≤ q → q < F0 28 → A0 24 q ≠ -1) → F0 28 < gB) : ∀ (n : Nat) {lv : am_l} {h : am_h} {F : rf_f} {A : rf_A} {v1 : Int32} {v2 : Int32} {v3 : Int32}, ((F0 28 - v3.toInt).toNat) = n → am_get lv 0 = some (.inr (.inr (some 81))) → am_get lv 1 = some (.inl v1) → am_get lv 2 = some (.inl v2) → am_get lv 3 = some (.inl v3) → rf_I h0 h F A → fr1 [28, 27] F0 F → fr2 [24, 25] A0 A → (v1.toInt = w1.toInt ∧ v2.toInt = w2.toInt) → (0 ≤ v3.toInt ∧ v3.toInt ≤ F0 28) → (∀ q : Int, 0 ≤ q → q < v3.toInt → A0 24 q ≠ -1) → (F 28 = F0 28 ∧ F 27 = F0 27) → (A 24 = A0 24 ∧ A 25 = A0 25) → am_Ok am_G 0 190 (2, lv, [], h, 0, 0) (rf_Q h0 (fun x F' A' => fr1 [28, 27] F0 F' ∧ fr2 [24, 25] A0 A' ∧ ((0 ≤ x ∧ F' 28 ≤ gB ∧ F' 27 = F0 27 + 1) ∧ (A' 24 x = w1.toInt ∧ A' 25 x = w2.toInt) ∧ (∀ y : Int, y ≠ x → A' 24 y = A0 24 y ∧ A' 25 y = A0 25 y) ∧ ((x = F0 28 ∧ F' 28 = F0 28 + 1) ∨ (x < F0 28 ∧ A0 24 x = -1 ∧ F' 28 = F0 28))))) := by
  intro n
  induction n using Nat.strongRecOn with
  | ind n ih =>
    intro lv h F A v1 v2 v3 hn g0 g1 g2 g3 hI hF hA i1 i2 i3 i4 i5
    refine k_iload 3 rfl g3 rfl ?_
    refine k_aload 4 rfl g0 rfl ?_
    refine r_gI hI 7 rfl rfl rfl (fun x1 (e2 : x1.toInt = F 28) => ?_)
    by_cases b3 : x1 ≤ v3
    · refine k_c2 26 rfl rfl (if_pos b3) ?_
      have b3 := iv_le.mp b3
      refine k_aload 27 rfl g0 rfl ?_
      refine k_iload 28 rfl g3 rfl ?_
      refine k_aload 29 rfl g0 rfl ?_
      refine r_gI hI 32 rfl rfl rfl (fun x4 (e5 : x4.toInt = F 28) => ?_)
      by_cases b6 : v3 = x4
      · refine k_c2 35 rfl rfl (if_pos b6) ?_
        have b6 := iv_eq.mp b6
        have hfull : F0 28 < gB := p2 (fun q q1 q2 => i3 q q1 (by omega))
        refine k_iload 36 rfl g3 rfl ?_
        refine k_push 37 rfl rfl ?_
        have hc7 : (1 : Int32).toInt = 1 := by decide
        obtain ⟨x8, q9⟩ : ∃ q : Int32, q = (v3 + (1 : Int32)) := ⟨_, rfl⟩
        have e10 : x8.toInt = v3.toInt + 1 := by rw [q9, iv_add (by omega) (by omega)]; omega
        refine k_bin x8 38 rfl q9.symm rfl ?_
        refine k_goto 45 rfl rfl ?_
        refine r_pI hI 48 rfl rfl rfl (fun h11 I12 => ?_)
        refine k_aload 49 rfl g0 rfl ?_
        refine r_gA I12 52 rfl rfl rfl ?_
        refine k_iload 53 rfl g3 rfl ?_
        refine k_iload 54 rfl g1 rfl ?_
        refine r_st 24 I12 55 rfl rfl (by omega) (show v3.toInt < 8010 by omega) rfl (fun h13 I14 => ?_)
        refine k_aload 56 rfl g0 rfl ?_
        refine r_gA I14 59 rfl rfl rfl ?_
        refine k_iload 60 rfl g3 rfl ?_
        refine k_iload 61 rfl g2 rfl ?_
        refine r_st 25 I14 62 rfl rfl (by omega) (show v3.toInt < 8010 by omega) rfl (fun h15 I16 => ?_)
        refine k_aload 63 rfl g0 rfl ?_
        refine k_dup 64 rfl rfl rfl ?_
        refine r_gI I16 67 rfl rfl rfl (fun x17 (e18 : x17.toInt = F 27) => ?_)
        refine k_push 68 rfl rfl ?_
        obtain ⟨x19, q20⟩ : ∃ q : Int32, q = (x17 + (1 : Int32)) := ⟨_, rfl⟩
        have e21 : x19.toInt = x17.toInt + 1 := by rw [q20, iv_add (by omega) (by omega)]; omega
        refine k_bin x19 69 rfl q20.symm rfl ?_
        refine r_pI I16 72 rfl rfl rfl (fun h22 I23 => ?_)
        have hx1 : ((up2 A 24 v3.toInt v1.toInt) 24) v3.toInt = w1.toInt ∧ ((up2 A 25 v3.toInt v2.toInt) 25) v3.toInt = w2.toInt := ⟨up2_eq.trans i1.1, up2_eq.trans i1.2⟩
        have hx2 : ∀ y : Int, y ≠ v3.toInt → ((up2 A 24 v3.toInt v1.toInt) 24) y = A0 24 y ∧ ((up2 A 25 v3.toInt v2.toInt) 25) y = A0 25 y := fun y hy => ⟨(up2_ne hy).trans (by rw [i5.1]), (up2_ne hy).trans (by rw [i5.2])⟩
        refine k_iload 73 rfl g3 rfl ?_
        exact k_fin rfl rfl ⟨_, _, _, _, rfl, I23, (fr1.up (by decide) (fr1.up (by decide) hF)), (fr2.up (by decide) (fr2.up (by decide) hA)), ⟨(show 0 ≤ v3.toInt ∧ x8.toInt ≤ gB ∧ x19.toInt = F0 27 + 1 by omega), ⟨by rw [up2_r (by decide)]; exact hx1.1, up2_eq.trans i1.2⟩, fun y hy => ⟨by rw [up2_r (by decide)]; exact (hx2 y hy).1, by rw [up2_ne hy, up2_r (by decide), i5.2]⟩, (show (v3.toInt = F0 28 ∧ x8.toInt = F0 28 + 1) ∨ (v3.toInt < F0 28 ∧ A0 24 v3.toInt = -1 ∧ x8.toInt = F0 28) by omega)⟩⟩
      · refine k_c2 41 rfl rfl (if_neg b6) ?_
        have b6 := mt iv_eq.mpr b6
        refine k_aload 42 rfl g0 rfl ?_
        refine r_gI hI 45 rfl rfl rfl (fun x24 (e25 : x24.toInt = F 28) => ?_)
        refine r_pI hI 48 rfl rfl rfl (fun h26 I27 => ?_)
        refine k_aload 49 rfl g0 rfl ?_
        refine r_gA I27 52 rfl rfl rfl ?_
        refine k_iload 53 rfl g3 rfl ?_
        refine k_iload 54 rfl g1 rfl ?_
        refine r_st 24 I27 55 rfl rfl (by omega) (show v3.toInt < 8010 by omega) rfl (fun h28 I29 => ?_)
        refine k_aload 56 rfl g0 rfl ?_
        refine r_gA I29 59 rfl rfl rfl ?_
        refine k_iload 60 rfl g3 rfl ?_
        refine k_iload 61 rfl g2 rfl ?_
        refine r_st 25 I29 62 rfl rfl (by omega) (show v3.toInt < 8010 by omega) rfl (fun h30 I31 => ?_)
        refine k_aload 63 rfl g0 rfl ?_
        refine k_dup 64 rfl rfl rfl ?_
        refine r_gI I31 67 rfl rfl rfl (fun x32 (e33 : x32.toInt = F 27) => ?_)
        refine k_push 68 rfl rfl ?_
        have hc34 : (1 : Int32).toInt = 1 := by decide
        obtain ⟨x35, q36⟩ : ∃ q : Int32, q = (x32 + (1 : Int32)) := ⟨_, rfl⟩
        have e37 : x35.toInt = x32.toInt + 1 := by rw [q36, iv_add (by omega) (by omega)]; omega
        refine k_bin x35 69 rfl q36.symm rfl ?_
        refine r_pI I31 72 rfl rfl rfl (fun h38 I39 => ?_)
        have hx1 : ((up2 A 24 v3.toInt v1.toInt) 24) v3.toInt = w1.toInt ∧ ((up2 A 25 v3.toInt v2.toInt) 25) v3.toInt = w2.toInt := ⟨up2_eq.trans i1.1, up2_eq.trans i1.2⟩
        have hx2 : ∀ y : Int, y ≠ v3.toInt → ((up2 A 24 v3.toInt v1.toInt) 24) y = A0 24 y ∧ ((up2 A 25 v3.toInt v2.toInt) 25) y = A0 25 y := fun y hy => ⟨(up2_ne hy).trans (by rw [i5.1]), (up2_ne hy).trans (by rw [i5.2])⟩
        refine k_iload 73 rfl g3 rfl ?_
        exact k_fin rfl rfl ⟨_, _, _, _, rfl, I39, (fr1.up (by decide) (fr1.up (by decide) hF)), (fr2.up (by decide) (fr2.up (by decide) hA)), ⟨(show 0 ≤ v3.toInt ∧ x24.toInt ≤ gB ∧ x35.toInt = F0 27 + 1 by omega), ⟨by rw [up2_r (by decide)]; exact hx1.1, up2_eq.trans i1.2⟩, fun y hy => ⟨by rw [up2_r (by decide)]; exact (hx2 y hy).1, by rw [up2_ne hy, up2_r (by decide), i5.2]⟩, (show (v3.toInt = F0 28 ∧ x24.toInt = F0 28 + 1) ∨ (v3.toInt < F0 28 ∧ A0 24 v3.toInt = -1 ∧ x24.toInt = F0 28) by omega)⟩⟩
    · refine k_c2 10 rfl rfl (if_neg b3) ?_
      have b3 := mt iv_le.mpr b3
      refine k_aload 11 rfl g0 rfl ?_
      refine r_gA hI 14 rfl rfl rfl ?_
      refine k_iload 15 rfl g3 rfl ?_
      refine r_ld 24 hI 16 rfl rfl (by omega) (show v3.toInt < 8010 by omega) rfl (fun x40 (e41 : x40.toInt = A 24 v3.toInt) => ?_)
      rw [i5.1] at e41
      refine k_push 17 rfl rfl ?_
      have hc42 : (-1 : Int32).toInt = -1 := by decide
      by_cases b43 : x40 = (-1 : Int32)
      · refine k_c2 26 rfl rfl (if_pos b43) ?_
        have b43 := iv_eq.mp b43
        refine k_aload 27 rfl g0 rfl ?_
        refine k_iload 28 rfl g3 rfl ?_
        refine k_aload 29 rfl g0 rfl ?_
        refine r_gI hI 32 rfl rfl rfl (fun x44 (e45 : x44.toInt = F 28) => ?_)
        by_cases b46 : v3 = x44
        · refine k_c2 35 rfl rfl (if_pos b46) ?_
          have b46 := iv_eq.mp b46
          have hfull : F0 28 < gB := p2 (fun q q1 q2 => i3 q q1 (by omega))
          refine k_iload 36 rfl g3 rfl ?_
          refine k_push 37 rfl rfl ?_
          have hc47 : (1 : Int32).toInt = 1 := by decide
          obtain ⟨x48, q49⟩ : ∃ q : Int32, q = (v3 + (1 : Int32)) := ⟨_, rfl⟩
          have e50 : x48.toInt = v3.toInt + 1 := by rw [q49, iv_add (by omega) (by omega)]; omega
          refine k_bin x48 38 rfl q49.symm rfl ?_
          refine k_goto 45 rfl rfl ?_
          refine r_pI hI 48 rfl rfl rfl (fun h51 I52 => ?_)
          refine k_aload 49 rfl g0 rfl ?_
          refine r_gA I52 52 rfl rfl rfl ?_
          refine k_iload 53 rfl g3 rfl ?_
          refine k_iload 54 rfl g1 rfl ?_
          refine r_st 24 I52 55 rfl rfl (by omega) (show v3.toInt < 8010 by omega) rfl (fun h53 I54 => ?_)
          refine k_aload 56 rfl g0 rfl ?_
          refine r_gA I54 59 rfl rfl rfl ?_
          refine k_iload 60 rfl g3 rfl ?_
          refine k_iload 61 rfl g2 rfl ?_
          refine r_st 25 I54 62 rfl rfl (by omega) (show v3.toInt < 8010 by omega) rfl (fun h55 I56 => ?_)
          refine k_aload 63 rfl g0 rfl ?_
          refine k_dup 64 rfl rfl rfl ?_
          refine r_gI I56 67 rfl rfl rfl (fun x57 (e58 : x57.toInt = F 27) => ?_)
          refine k_push 68 rfl rfl ?_
          obtain ⟨x59, q60⟩ : ∃ q : Int32, q = (x57 + (1 : Int32)) := ⟨_, rfl⟩
          have e61 : x59.toInt = x57.toInt + 1 := by rw [q60, iv_add (by omega) (by omega)]; omega
          refine k_bin x59 69 rfl q60.symm rfl ?_
          refine r_pI I56 72 rfl rfl rfl (fun h62 I63 => ?_)
          have hx1 : ((up2 A 24 v3.toInt v1.toInt) 24) v3.toInt = w1.toInt ∧ ((up2 A 25 v3.toInt v2.toInt) 25) v3.toInt = w2.toInt := ⟨up2_eq.trans i1.1, up2_eq.trans i1.2⟩
          have hx2 : ∀ y : Int, y ≠ v3.toInt → ((up2 A 24 v3.toInt v1.toInt) 24) y = A0 24 y ∧ ((up2 A 25 v3.toInt v2.toInt) 25) y = A0 25 y := fun y hy => ⟨(up2_ne hy).trans (by rw [i5.1]), (up2_ne hy).trans (by rw [i5.2])⟩
          refine k_iload 73 rfl g3 rfl ?_
          exact k_fin rfl rfl ⟨_, _, _, _, rfl, I63, (fr1.up (by decide) (fr1.up (by decide) hF)), (fr2.up (by decide) (fr2.up (by decide) hA)), ⟨(show 0 ≤ v3.toInt ∧ x48.toInt ≤ gB ∧ x59.toInt = F0 27 + 1 by omega), ⟨by rw [up2_r (by decide)]; exact hx1.1, up2_eq.trans i1.2⟩, fun y hy => ⟨by rw [up2_r (by decide)]; exact (hx2 y hy).1, by rw [up2_ne hy, up2_r (by decide), i5.2]⟩, (show (v3.toInt = F0 28 ∧ x48.toInt = F0 28 + 1) ∨ (v3.toInt < F0 28 ∧ A0 24 v3.toInt = -1 ∧ x48.toInt = F0 28) by omega)⟩⟩
        · refine k_c2 41 rfl rfl (if_neg b46) ?_
          have b46 := mt iv_eq.mpr b46
          refine k_aload 42 rfl g0 rfl ?_
          refine r_gI hI 45 rfl rfl rfl (fun x64 (e65 : x64.toInt = F 28) => ?_)
          refine r_pI hI 48 rfl rfl rfl (fun h66 I67 => ?_)
          refine k_aload 49 rfl g0 rfl ?_
          refine r_gA I67 52 rfl rfl rfl ?_
          refine k_iload 53 rfl g3 rfl ?_
          refine k_iload 54 rfl g1 rfl ?_
          refine r_st 24 I67 55 rfl rfl (by omega) (show v3.toInt < 8010 by omega) rfl (fun h68 I69 => ?_)
          refine k_aload 56 rfl g0 rfl ?_
          refine r_gA I69 59 rfl rfl rfl ?_
          refine k_iload 60 rfl g3 rfl ?_
          refine k_iload 61 rfl g2 rfl ?_
          refine r_st 25 I69 62 rfl rfl (by omega) (show v3.toInt < 8010 by omega) rfl (fun h70 I71 => ?_)
          refine k_aload 63 rfl g0 rfl ?_
          refine k_dup 64 rfl rfl rfl ?_
          refine r_gI I71 67 rfl rfl rfl (fun x72 (e73 : x72.toInt = F 27) => ?_)
          refine k_push 68 rfl rfl ?_
          have hc74 : (1 : Int32).toInt = 1 := by decide
          obtain ⟨x75, q76⟩ : ∃ q : Int32, q = (x72 + (1 : Int32)) := ⟨_, rfl⟩
          have e77 : x75.toInt = x72.toInt + 1 := by rw [q76, iv_add (by omega) (by omega)]; omega
          refine k_bin x75 69 rfl q76.symm rfl ?_
          refine r_pI I71 72 rfl rfl rfl (fun h78 I79 => ?_)
          have hx1 : ((up2 A 24 v3.toInt v1.toInt) 24) v3.toInt = w1.toInt ∧ ((up2 A 25 v3.toInt v2.toInt) 25) v3.toInt = w2.toInt := ⟨up2_eq.trans i1.1, up2_eq.trans i1.2⟩
          have hx2 : ∀ y : Int, y ≠ v3.toInt → ((up2 A 24 v3.toInt v1.toInt) 24) y = A0 24 y ∧ ((up2 A 25 v3.toInt v2.toInt) 25) y = A0 25 y := fun y hy => ⟨(up2_ne hy).trans (by rw [i5.1]), (up2_ne hy).trans (by rw [i5.2])⟩
          refine k_iload 73 rfl g3 rfl ?_
          exact k_fin rfl rfl ⟨_, _, _, _, rfl, I79, (fr1.up (by decide) (fr1.up (by decide) hF)), (fr2.up (by decide) (fr2.up (by decide) hA)), ⟨(show 0 ≤ v3.toInt ∧ x64.toInt ≤ gB ∧ x75.toInt = F0 27 + 1 by omega), ⟨by rw [up2_r (by decide)]; exact hx1.1, up2_eq.trans i1.2⟩, fun y hy => ⟨by rw [up2_r (by decide)]; exact (hx2 y hy).1, by rw [up2_ne hy, up2_r (by decide), i5.2]⟩, (show (v3.toInt = F0 28 ∧ x64.toInt = F0 28 + 1) ∨ (v3.toInt < F0 28 ∧ A0 24 v3.toInt = -1 ∧ x64.toInt = F0 28) by omega)⟩⟩
      · refine k_c2 20 rfl rfl (if_neg b43) ?_
        have b43 := mt iv_eq.mpr b43
        have hc80 : (1 : Int32).toInt = 1 := by decide
        obtain ⟨x81, q82⟩ : ∃ q : Int32, q = v3 + (1 : Int32) := ⟨_, rfl⟩
        have e83 : x81.toInt = v3.toInt + 1 := by rw [q82, iv_add (by omega) (by omega)]; omega
        refine k_iinc x81 23 rfl g3 q82.symm rfl ?_
        refine k_goto 2 rfl rfl ?_
        exact ih _ (show ((F0 28 - x81.toInt).toNat) < n by omega)  rfl (gs_ne rfl rfl g0) (gs_ne rfl rfl g1) (gs_ne rfl rfl g2) gs_eq hI hF hA (show v1.toInt = w1.toInt ∧ v2.toInt = w2.toInt by omega) (show 0 ≤ x81.toInt ∧ x81.toInt ≤ F0 28 by omega) (show ∀ q : Int, 0 ≤ q → q < x81.toInt → A0 24 q ≠ -1 from nn_nx i3 (by omega) (by omega)) (show (F 28) = F0 28 ∧ (F 27) = F0 27 by omega) (show (A 24) = A0 24 ∧ (A 25) = A0 25 from i5)
theorem m_newNode {h0 : am_h} {F0 : rf_f} {A0 : rf_A} {w1 : Int32} {w2 : Int32} {gB : Int} (hR : rf_R h0 F0 A0) (p1 : 0 ≤ F0 28 ∧ F0 28 ≤ gB ∧ gB ≤ 8000 ∧ 0 ≤ F0 27 ∧ F0 27 ≤ 10000) (p2 : (∀ q : Int, 0 ≤ q → q < F0 28 → A0 24 q ≠ -1) → F0 28 < gB) : am_Mt 1 190 [.inr (.inr (some 81)), .inl w1, .inl w2] h0 (rf_Q h0 (fun x F' A' => fr1 [28, 27] F0 F' ∧ fr2 [24, 25] A0 A' ∧ ((0 ≤ x ∧ F' 28 ≤ gB ∧ F' 27 = F0 27 + 1) ∧ (A' 24 x = w1.toInt ∧ A' 25 x = w2.toInt) ∧ (∀ y : Int, y ≠ x → A' 24 y = A0 24 y ∧ A' 25 y = A0 25 y) ∧ ((x = F0 28 ∧ F' 28 = F0 28 + 1) ∨ (x < F0 28 ∧ A0 24 x = -1 ∧ F' 28 = F0 28))))) := by
  refine am_Mt.of (D := 0) ?_
  have hI : rf_I h0 h0 F0 A0 := rf_I.start hR
  refine k_push 1 rfl rfl ?_
  have hc84 : (0 : Int32).toInt = 0 := by decide
  refine k_istore 2 rfl rfl ?_
  exact b_X10_newNode_2 (gB := gB) (w1 := w1) (w2 := w2) p1 p2 _  rfl (gs_ne rfl rfl rfl) (gs_ne rfl rfl rfl) (gs_ne rfl rfl rfl) gs_eq hI fr1.rf fr2.rf (show w1.toInt = w1.toInt ∧ w2.toInt = w2.toInt by omega) (show 0 ≤ (0 : Int32).toInt ∧ (0 : Int32).toInt ≤ F0 28 by omega) (show ∀ q : Int, 0 ≤ q → q < (0 : Int32).toInt → A0 24 q ≠ -1 from fun q q1 q2 => absurd q2 (by omega)) (show (F0 28) = F0 28 ∧ (F0 27) = F0 27 by omega) (⟨rfl, rfl⟩)
end
