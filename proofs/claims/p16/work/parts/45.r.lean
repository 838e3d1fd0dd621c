section
theorem b_X10_behind_5 {h0 : am_h} {F0 : rf_f} {A0 : rf_A} {w1 : Int32} {w2 : Int32} {n9 : Nat} (p1 : 0 ≤ w1.toInt ∧ 0 ≤ w2.toInt ∧ w1.toInt + w2.toInt + n9 ≤ 3900) (p2 : wf (A0 1) (w1.toInt + w2.toInt) n9) : ∀ (n : Nat) {lv : am_l} {h : am_h} {F : rf_f} {A : rf_A} {v1 : Int32} {v2 : Int32} {v3 : Int32} {v4 : Int32} {gm : Nat}, (n9 - gm) = n → am_get lv 0 = some (.inr (.inr (some 81))) → am_get lv 1 = some (.inl v1) → am_get lv 2 = some (.inl v2) → am_get lv 3 = some (.inl v3) → am_get lv 4 = some (.inl v4) → rf_I h0 h F A → fr1 [] F0 F → fr2 [] A0 A → (v1.toInt = w1.toInt) → (v4.toInt = w2.toInt + gm) → (gm ≤ n9) → (v3.toInt = op (A0 1) (w1.toInt + w2.toInt) gm) → am_Ok am_G 0 161 (5, lv, [], h, 0, 0) (rf_Q h0 (fun x F' A' => fr1 [] F0 F' ∧ fr2 [] A0 A' ∧ (x = w2.toInt + n9))) := by
  intro n
  induction n using Nat.strongRecOn with
  | ind n ih =>
    intro lv h F A v1 v2 v3 v4 gm hn g0 g1 g2 g3 g4 hI hF hA i1 i2 i3 i4
    have hp9 : gm < n9 → 0 < op (A0 1) (w1.toInt + w2.toInt) gm := p2.2 gm
    have hz9 := p2.1
    have hl9 := op_le (t := A0 1) (i := w1.toInt + w2.toInt) gm
    have hm9 : gm = n9 → v3.toInt = 0 := fun e => by subst e; omega
    refine k_iload 6 rfl g3 rfl ?_
    by_cases b1 : v3 ≤ 0
    · refine k_c1 49 rfl rfl (if_pos b1) ?_
      have b1 := iv_le0.mp b1
      have hm8 : ¬ gm < n9 := fun q => by have := hp9 q; omega
      refine k_iload 51 rfl g4 rfl ?_
      exact k_fin rfl rfl ⟨_, _, _, _, rfl, hI, hF, hA, show v4.toInt = w2.toInt + n9 by omega⟩
    · refine k_c1 9 rfl rfl (if_neg b1) ?_
      have b1 := mt iv_le0.mpr b1
      have hm8 : gm < n9 := Nat.lt_of_not_le (fun q => by have := hm9 (by omega); omega)
      refine k_aload 10 rfl g0 rfl ?_
      refine r_gA hI 13 rfl rfl rfl ?_
      refine k_iload 14 rfl g1 rfl ?_
      refine k_iload 16 rfl g4 rfl ?_
      obtain ⟨x2, q3⟩ : ∃ q : Int32, q = (v1 + v4) := ⟨_, rfl⟩
      have e4 : x2.toInt = v1.toInt + v4.toInt := by rw [q3, iv_add (by omega) (by omega)]
      refine k_bin x2 17 rfl q3.symm rfl ?_
      refine r_ld 1 hI 18 rfl rfl (by omega) (show x2.toInt < 3900 by omega) rfl (fun x5 (e6 : x5.toInt = A 1 x2.toInt) => ?_)
      rw [e4] at e6
      have e7 : A 1 = A0 1 := hA 1 (by decide)
      rw [e7] at e6
      refine k_istore 20 rfl rfl ?_
      have hcode : ow (A0 1 (w1.toInt + w2.toInt + gm)) = ow x5.toInt := by rw [e6, show v1.toInt + v4.toInt = w1.toInt + w2.toInt + gm by omega]
      refine k_iload 21 rfl (gs_ne rfl rfl g3) rfl ?_
      refine k_iload 23 rfl gs_eq rfl ?_
      by_cases b8 : x5 = 0
      · refine k_c1 26 rfl rfl (if_pos b8) ?_
        have b8 := iv_eq0.mp b8
        have hw9 : ow x5.toInt = 1 := by rw [show x5.toInt = 0 by omega]; rfl
        refine k_push 27 rfl rfl ?_
        have hc9 : (1 : Int32).toInt = 1 := by decide
        refine k_goto 41 rfl rfl ?_
        obtain ⟨x10, q11⟩ : ∃ q : Int32, q = (v3 + (1 : Int32)) := ⟨_, rfl⟩
        have e12 : x10.toInt = v3.toInt + 1 := by rw [q11, iv_add (by omega) (by omega)]; omega
        refine k_bin x10 42 rfl q11.symm rfl ?_
        refine k_istore 43 rfl rfl ?_
        obtain ⟨x13, q14⟩ : ∃ q : Int32, q = v4 + (1 : Int32) := ⟨_, rfl⟩
        have e15 : x13.toInt = v4.toInt + 1 := by rw [q14, iv_add (by omega) (by omega)]; omega
        refine k_iinc x13 46 rfl (gs_ne rfl rfl (gs_ne rfl rfl g4)) q14.symm rfl ?_
        refine k_goto 5 rfl rfl ?_
        exact ih _ (show (n9 - (gm + 1)) < n by omega) (gm := gm + 1) rfl (gs_ne rfl rfl (gs_ne rfl rfl (gs_ne rfl rfl g0))) (gs_ne rfl rfl (gs_ne rfl rfl (gs_ne rfl rfl g1))) (gs_ne rfl rfl (gs_ne rfl rfl (gs_ne rfl rfl g2))) (gs_ne rfl rfl gs_eq) gs_eq hI hF hA (show v1.toInt = w1.toInt by omega) (show x13.toInt = w2.toInt + (gm + 1) by omega) (show (gm + 1) ≤ n9 by omega) (show x10.toInt = op (A0 1) (w1.toInt + w2.toInt) (gm + 1) by rw [op_nx]; omega)
      · refine k_c1 30 rfl rfl (if_neg b8) ?_
        have b8 := mt iv_eq0.mpr b8
        refine k_iload 32 rfl gs_eq rfl ?_
        refine k_push 33 rfl rfl ?_
        have hc16 : (1 : Int32).toInt = 1 := by decide
        by_cases b17 : x5 = (1 : Int32)
        · refine k_c2 36 rfl rfl (if_pos b17) ?_
          have b17 := iv_eq.mp b17
          have hw9 : ow x5.toInt = 0 := by rw [show x5.toInt = 1 by omega]; rfl
          refine k_push 37 rfl rfl ?_
          have hc18 : (0 : Int32).toInt = 0 := by decide
          refine k_goto 41 rfl rfl ?_
          obtain ⟨x19, q20⟩ : ∃ q : Int32, q = (v3 + (0 : Int32)) := ⟨_, rfl⟩
          have e21 : x19.toInt = v3.toInt + 0 := by rw [q20, iv_add (by omega) (by omega)]; omega
          refine k_bin x19 42 rfl q20.symm rfl ?_
          refine k_istore 43 rfl rfl ?_
          obtain ⟨x22, q23⟩ : ∃ q : Int32, q = v4 + (1 : Int32) := ⟨_, rfl⟩
          have e24 : x22.toInt = v4.toInt + 1 := by rw [q23, iv_add (by omega) (by omega)]; omega
          refine k_iinc x22 46 rfl (gs_ne rfl rfl (gs_ne rfl rfl g4)) q23.symm rfl ?_
          refine k_goto 5 rfl rfl ?_
          exact ih _ (show (n9 - (gm + 1)) < n by omega) (gm := gm + 1) rfl (gs_ne rfl rfl (gs_ne rfl rfl (gs_ne rfl rfl g0))) (gs_ne rfl rfl (gs_ne rfl rfl (gs_ne rfl rfl g1))) (gs_ne rfl rfl (gs_ne rfl rfl (gs_ne rfl rfl g2))) (gs_ne rfl rfl gs_eq) gs_eq hI hF hA (show v1.toInt = w1.toInt by omega) (show x22.toInt = w2.toInt + (gm + 1) by omega) (show (gm + 1) ≤ n9 by omega) (show x19.toInt = op (A0 1) (w1.toInt + w2.toInt) (gm + 1) by rw [op_nx]; omega)
        · refine k_c2 40 rfl rfl (if_neg b17) ?_
          have b17 := mt iv_eq.mpr b17
          have hw9 : ow x5.toInt = -1 := ow_v (by omega) (by omega)
          refine k_push 41 rfl rfl ?_
          have hc25 : (-1 : Int32).toInt = -1 := by decide
          obtain ⟨x26, q27⟩ : ∃ q : Int32, q = (v3 + (-1 : Int32)) := ⟨_, rfl⟩
          have e28 : x26.toInt = v3.toInt + -1 := by rw [q27, iv_add (by omega) (by omega)]; omega
          refine k_bin x26 42 rfl q27.symm rfl ?_
          refine k_istore 43 rfl rfl ?_
          obtain ⟨x29, q30⟩ : ∃ q : Int32, q = v4 + (1 : Int32) := ⟨_, rfl⟩
          have e31 : x29.toInt = v4.toInt + 1 := by rw [q30, iv_add (by omega) (by omega)]; omega
          refine k_iinc x29 46 rfl (gs_ne rfl rfl (gs_ne rfl rfl g4)) q30.symm rfl ?_
          refine k_goto 5 rfl rfl ?_
          exact ih _ (show (n9 - (gm + 1)) < n by omega) (gm := gm + 1) rfl (gs_ne rfl rfl (gs_ne rfl rfl (gs_ne rfl rfl g0))) (gs_ne rfl rfl (gs_ne rfl rfl (gs_ne rfl rfl g1))) (gs_ne rfl rfl (gs_ne rfl rfl (gs_ne rfl rfl g2))) (gs_ne rfl rfl gs_eq) gs_eq hI hF hA (show v1.toInt = w1.toInt by omega) (show x29.toInt = w2.toInt + (gm + 1) by omega) (show (gm + 1) ≤ n9 by omega) (show x26.toInt = op (A0 1) (w1.toInt + w2.toInt) (gm + 1) by rw [op_nx]; omega)
theorem m_behind {h0 : am_h} {F0 : rf_f} {A0 : rf_A} {w1 : Int32} {w2 : Int32} {n9 : Nat} (hR : rf_R h0 F0 A0) (p1 : 0 ≤ w1.toInt ∧ 0 ≤ w2.toInt ∧ w1.toInt + w2.toInt + n9 ≤ 3900) (p2 : wf (A0 1) (w1.toInt + w2.toInt) n9) : am_Mt 1 161 [.inr (.inr (some 81)), .inl w1, .inl w2] h0 (rf_Q h0 (fun x F' A' => fr1 [] F0 F' ∧ fr2 [] A0 A' ∧ (x = w2.toInt + n9))) := by
  refine am_Mt.of (D := 0) ?_
  have hI : rf_I h0 h0 F0 A0 := rf_I.start hR
  refine k_push 1 rfl rfl ?_
  have hc32 : (1 : Int32).toInt = 1 := by decide
  refine k_istore 2 rfl rfl ?_
  refine k_iload 3 rfl (gs_ne rfl rfl rfl) rfl ?_
  refine k_istore 5 rfl rfl ?_
  exact b_X10_behind_5  (w1 := w1) (w2 := w2) p1 p2 _ (gm := 0) rfl (gs_ne rfl rfl (gs_ne rfl rfl rfl)) (gs_ne rfl rfl (gs_ne rfl rfl rfl)) (gs_ne rfl rfl (gs_ne rfl rfl rfl)) (gs_ne rfl rfl gs_eq) gs_eq hI fr1.rf fr2.rf (show w1.toInt = w1.toInt by omega) (show w2.toInt = w2.toInt + (0) by omega) (show (0) ≤ n9 by omega) (show (1 : Int32).toInt = op (A0 1) (w1.toInt + w2.toInt) (0) by show (1 : Int32).toInt = 1; decide)
end
