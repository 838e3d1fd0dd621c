section
theorem b_X10_makesArgument_15 {h0 : am_h} {F0 : rf_f} {A0 : rf_A} {w1 : Int32} {w2 : Int32} {w3 : Int32} {w4 : Int32} {gm ga : Nat} {gc gC gM : Int} (p1 : F0 67 = gm ∧ gm + ga ≤ 2600 ∧ ga ≤ 1000) (p2 : mk (A0 66) gm gc) (p3 : 0 < gc) (p4 : cb (A0 66) 0 gm gM) (p5 : 0 ≤ w1.toInt ∧ 0 ≤ w2.toInt ∧ w1.toInt + w2.toInt + ga ≤ 3900 ∧ w3.toInt = w2.toInt + ga ∧ 0 ≤ w4.toInt ∧ w4.toInt ≤ 1300 ∧ w2.toInt ≤ 3900 ∧ w1.toInt ≤ 3900) (p6 : wf (A0 1) (w1.toInt + w2.toInt) ga) (p7 : cb (A0 1) (w1.toInt + w2.toInt) ga gC) (p8 : 0 ≤ gC ∧ gC ≤ 1000000 ∧ gC + 1300 ≤ gM) {h : am_h} {F : rf_f} {A : rf_A} {v1 : Int32} {v2 : Int32} {v3 : Int32} {v4 : Int32} {v5 : Int32} {v7 : Int32} {b6 : Int} (hI : rf_I h0 h F A) (hF : fr1 [67] F0 F) (hA : fr2 [66, 68] A0 A) (i0 : b6 ≤ 1000) (K : ∀ (lv : am_l) (v6 : Int32), am_get lv 0 = some (.inr (.inr (some 81))) → am_get lv 1 = some (.inl v1) → am_get lv 2 = some (.inl v2) → am_get lv 3 = some (.inl v3) → am_get lv 4 = some (.inl v4) → am_get lv 5 = some (.inl v5) → am_get lv 6 = some (.inl v6) → am_get lv 7 = some (.inl v7) → (0 ≤ v6.toInt ∧ v6.toInt ≤ b6) → am_Ok am_G 1 241 (40, lv, [], h, 0, 0) (rf_V h0 (fun F' A' => fr1 [67] F0 F' ∧ fr2 [66, 68] A0 A' ∧ (F' 67 = gm + ga ∧ mk (A' 66) (gm + ga) (gc - 1) ∧ cb (A' 66) 0 (gm + ga) gM)))) : ∀ (n : Nat) {lv : am_l} {v6 : Int32}, (v6.toInt.toNat) = n → am_get lv 0 = some (.inr (.inr (some 81))) → am_get lv 1 = some (.inl v1) → am_get lv 2 = some (.inl v2) → am_get lv 3 = some (.inl v3) → am_get lv 4 = some (.inl v4) → am_get lv 5 = some (.inl v5) → am_get lv 6 = some (.inl v6) → am_get lv 7 = some (.inl v7) → (0 ≤ v6.toInt ∧ v6.toInt ≤ b6) → am_Ok am_G 1 241 (15, lv, [], h, 0, 0) (rf_V h0 (fun F' A' => fr1 [67] F0 F' ∧ fr2 [66, 68] A0 A' ∧ (F' 67 = gm + ga ∧ mk (A' 66) (gm + ga) (gc - 1) ∧ cb (A' 66) 0 (gm + ga) gM))) := by
  intro n
  induction n using Nat.strongRecOn with
  | ind n ih =>
    intro lv v6 hn g0 g1 g2 g3 g4 g5 g6 g7 i1
    refine k_iload 17 rfl g6 rfl ?_
    by_cases b1 : v6 ≤ 0
    · refine k_c1 40 rfl rfl (if_pos b1) ?_
      have b1 := iv_le0.mp b1
      exact K _ v6 g0 g1 g2 g3 g4 g5 g6 g7 (show 0 ≤ v6.toInt ∧ v6.toInt ≤ b6 by omega)
    · refine k_c1 20 rfl rfl (if_neg b1) ?_
      have b1 := mt iv_le0.mpr b1
      refine k_aload 21 rfl g0 rfl ?_
      refine r_gA hI 24 rfl rfl rfl ?_
      refine k_iload 26 rfl g6 rfl ?_
      refine k_push 27 rfl rfl ?_
      have hc2 : (1 : Int32).toInt = 1 := by decide
      obtain ⟨x3, q4⟩ : ∃ q : Int32, q = (v6 - (1 : Int32)) := ⟨_, rfl⟩
      have e5 : x3.toInt = v6.toInt - 1 := by rw [q4, iv_sub (by omega) (by omega)]; omega
      refine k_bin x3 28 rfl q4.symm rfl ?_
      refine r_ld 68 hI 29 rfl rfl (by omega) (show x3.toInt < 1300 by omega) rfl (fun x6 (e7 : x6.toInt = A 68 x3.toInt) => ?_)
      rw [e5] at e7
      refine k_iload 31 rfl g7 rfl ?_
      by_cases b8 : x6 = v7
      · refine k_c2 34 rfl rfl (if_pos b8) ?_
        have b8 := iv_eq.mp b8
        have hc9 : (-1 : Int32).toInt = -1 := by decide
        obtain ⟨x10, q11⟩ : ∃ q : Int32, q = v6 + (-1 : Int32) := ⟨_, rfl⟩
        have e12 : x10.toInt = v6.toInt + -1 := by rw [q11, iv_add (by omega) (by omega)]; omega
        refine k_iinc x10 37 rfl g6 q11.symm rfl ?_
        refine k_goto 15 rfl rfl ?_
        exact ih _ (show (x10.toInt.toNat) < n by omega)  rfl (gs_ne rfl rfl g0) (gs_ne rfl rfl g1) (gs_ne rfl rfl g2) (gs_ne rfl rfl g3) (gs_ne rfl rfl g4) (gs_ne rfl rfl g5) gs_eq (gs_ne rfl rfl g7) (show 0 ≤ x10.toInt ∧ x10.toInt ≤ b6 by omega)
      · refine k_c2 40 rfl rfl (if_neg b8) ?_
        have b8 := mt iv_eq.mpr b8
        exact K _ v6 g0 g1 g2 g3 g4 g5 g6 g7 (show 0 ≤ v6.toInt ∧ v6.toInt ≤ b6 by omega)
theorem b_X10_makesArgument_9 {h0 : am_h} {F0 : rf_f} {A0 : rf_A} {w1 : Int32} {w2 : Int32} {w3 : Int32} {w4 : Int32} {gm ga : Nat} {gc gC gM : Int} (p1 : F0 67 = gm ∧ gm + ga ≤ 2600 ∧ ga ≤ 1000) (p2 : mk (A0 66) gm gc) (p3 : 0 < gc) (p4 : cb (A0 66) 0 gm gM) (p5 : 0 ≤ w1.toInt ∧ 0 ≤ w2.toInt ∧ w1.toInt + w2.toInt + ga ≤ 3900 ∧ w3.toInt = w2.toInt + ga ∧ 0 ≤ w4.toInt ∧ w4.toInt ≤ 1300 ∧ w2.toInt ≤ 3900 ∧ w1.toInt ≤ 3900) (p6 : wf (A0 1) (w1.toInt + w2.toInt) ga) (p7 : cb (A0 1) (w1.toInt + w2.toInt) ga gC) (p8 : 0 ≤ gC ∧ gC ≤ 1000000 ∧ gC + 1300 ≤ gM) : ∀ (n : Nat) {lv : am_l} {h : am_h} {F : rf_f} {A : rf_A} {v1 : Int32} {v2 : Int32} {v3 : Int32} {v4 : Int32} {v5 : Int32} {v6 : Int32} {v7 : Int32} {gj : Nat}, (ga - gj) = n → am_get lv 0 = some (.inr (.inr (some 81))) → am_get lv 1 = some (.inl v1) → am_get lv 2 = some (.inl v2) → am_get lv 3 = some (.inl v3) → am_get lv 4 = some (.inl v4) → am_get lv 5 = some (.inl v5) → am_get lv 6 = some (.inl v6) → am_get lv 7 = some (.inl v7) → rf_I h0 h F A → fr1 [67] F0 F → fr2 [66, 68] A0 A → (v1.toInt = w1.toInt ∧ v2.toInt = w2.toInt ∧ v3.toInt = w3.toInt ∧ v4.toInt = w4.toInt) → (v7.toInt = w2.toInt + gj ∧ gj ≤ ga) → (0 ≤ v6.toInt ∧ v6.toInt ≤ gj) → (F 67 = gm + gj) → (mk (A 66) (gm + gj) (gc + op (A0 1) (w1.toInt + w2.toInt) gj - 1)) → (cb (A 66) 0 (gm + gj) gM) → am_Ok am_G 1 241 (9, lv, [], h, 0, 0) (rf_V h0 (fun F' A' => fr1 [67] F0 F' ∧ fr2 [66, 68] A0 A' ∧ (F' 67 = gm + ga ∧ mk (A' 66) (gm + ga) (gc - 1) ∧ cb (A' 66) 0 (gm + ga) gM))) := by
  intro n
  induction n using Nat.strongRecOn with
  | ind n ih =>
    intro lv h F A v1 v2 v3 v4 v5 v6 v7 gj hn g0 g1 g2 g3 g4 g5 g6 g7 hI hF hA i1 i2 i3 i4 i5 i6
    have hl9 := op_le (t := A0 1) (i := w1.toInt + w2.toInt) gj
    have hp9 := p6.2 gj
    have hz9 := p6.1
    have hw9 := op_nx (t := A0 1) (i := w1.toInt + w2.toInt) gj
    refine k_iload 11 rfl g7 rfl ?_
    refine k_iload 12 rfl g3 rfl ?_
    by_cases b13 : v3 ≤ v7
    · refine k_c2 113 rfl rfl (if_pos b13) ?_
      have b13 := iv_le.mp b13
      exact k_fin rfl rfl ⟨_, _, _, rfl, hI, hF, hA, show (F 67) = gm + ga ∧ mk ((A 66)) (gm + ga) (gc - 1) ∧ cb ((A 66)) 0 (gm + ga) gM from ⟨by omega, by rw [show gm + ga = gm + gj by omega, show gc - 1 = gc + op (A0 1) (w1.toInt + w2.toInt) gj - 1 by rw [show gj = ga by omega, p6.1]; omega]; exact i5, by rw [show gm + ga = gm + gj by omega]; exact i6⟩⟩
    · refine k_c2 15 rfl rfl (if_neg b13) ?_
      have b13 := mt iv_le.mpr b13
      refine b_X10_makesArgument_15 (w1 := w1) (w2 := w2) (w3 := w3) (w4 := w4) (gm := gm) (ga := ga) (gc := gc) (gC := gC) (gM := gM) (b6 := v6.toInt) p1 p2 p3 p4 p5 p6 p7 p8 hI hF hA (show (v6.toInt) ≤ 1000 by omega) (fun lv14 x15 g16 g17 g18 g19 g20 g21 g22 g23 p24 => ?_) _ rfl g0 g1 g2 g3 g4 g5 g6 g7 (show 0 ≤ v6.toInt ∧ v6.toInt ≤ (v6.toInt) by omega)
      have p24 : 0 ≤ x15.toInt ∧ x15.toInt ≤ (v6.toInt) := p24
      refine k_iload 42 rfl g22 rfl ?_
      refine k_istore 44 rfl rfl ?_
      refine k_aload 45 rfl (gs_ne rfl rfl g16) rfl ?_
      refine r_gA hI 48 rfl rfl rfl ?_
      refine k_iload 49 rfl (gs_ne rfl rfl g17) rfl ?_
      refine k_iload 51 rfl (gs_ne rfl rfl g23) rfl ?_
      obtain ⟨x25, q26⟩ : ∃ q : Int32, q = (v1 + v7) := ⟨_, rfl⟩
      have e27 : x25.toInt = v1.toInt + v7.toInt := by rw [q26, iv_add (by omega) (by omega)]
      refine k_bin x25 52 rfl q26.symm rfl ?_
      refine r_ld 1 hI 53 rfl rfl (by omega) (show x25.toInt < 3900 by omega) rfl (fun x28 (e29 : x28.toInt = A 1 x25.toInt) => ?_)
      rw [e27] at e29
      have e30 : A 1 = A0 1 := hA 1 (by decide)
      rw [e30] at e29
      refine k_istore 55 rfl rfl ?_
      have hat := cb.at p7 (p := v1.toInt + v7.toInt) (by omega) (by omega)
      have hcode : ow (A0 1 (w1.toInt + w2.toInt + gj)) = ow x28.toInt := by rw [e29, show v1.toInt + v7.toInt = w1.toInt + w2.toInt + gj by omega]
      have hb8 : 0 ≤ x28.toInt ∧ x28.toInt ≤ gC := by rw [e29]; exact hat
      refine k_aload 56 rfl (gs_ne rfl rfl (gs_ne rfl rfl g16)) rfl ?_
      refine k_iload 58 rfl gs_eq rfl ?_
      refine k_push 59 rfl rfl ?_
      have hc31 : (2 : Int32).toInt = 2 := by decide
      by_cases b32 : x28 < (2 : Int32)
      · refine k_c2 79 rfl rfl (if_pos b32) ?_
        have b32 := iv_lt.mp b32
        refine k_iload 81 rfl gs_eq rfl ?_
        have ho8 : ow x28.toInt = ow x28.toInt := by first | rfl | (rw [ow_v (c := x28.toInt) (by omega) (by omega), ow_v (by omega) (by omega)])
        refine k_rv hI rfl (m_makes (gm := gm + gj) (gc := gc + op (A0 1) (w1.toInt + w2.toInt) gj - 1) (gM := gM) hI.1 (show (F 67) = (gm + gj) ∧ (gm + gj) ≤ 2599 by omega) (show mk ((A 66)) (gm + gj) (gc + op (A0 1) (w1.toInt + w2.toInt) gj - 1) from i5) (show 0 < (gc + op (A0 1) (w1.toInt + w2.toInt) gj - 1) by omega) (show cb ((A 66)) 0 (gm + gj) (gM) from i6) (show 0 ≤ x28.toInt ∧ x28.toInt ≤ (gM) by omega)) rfl rfl rfl hI.rc ?_
        rintro h34 F35 A36 I37 ⟨k39, k40, p38⟩
        replace p38 : F35 67 = (gm + gj) + 1 ∧ mk (A36 66) ((gm + gj) + 1) ((gc + op (A0 1) (w1.toInt + w2.toInt) gj - 1) + ow x28.toInt) ∧ cb (A36 66) 0 ((gm + gj) + 1) (gM) := p38
        obtain ⟨p38a, p38b, p38c⟩ := p38
        show am_Ok _ _ _ (84, _, [], _, 0, 0) _
        refine k_iload 86 rfl gs_eq rfl ?_
        refine k_push 87 rfl rfl ?_
        have hc41 : (1 : Int32).toInt = 1 := by decide
        by_cases b42 : x28 = (1 : Int32)
        · refine k_c2 90 rfl rfl (if_pos b42) ?_
          have b42 := iv_eq.mp b42
          obtain ⟨ns9, ws9, hs9⟩ := wf_sub p6 (m := gj) (by omega)
          refine k_aload 91 rfl (gs_ne rfl rfl (gs_ne rfl rfl g16)) rfl ?_
          refine r_gA I37 94 rfl rfl rfl ?_
          refine k_iload 96 rfl (gs_ne rfl rfl (gs_ne rfl rfl g22)) rfl ?_
          refine k_aload 97 rfl (gs_ne rfl rfl (gs_ne rfl rfl g16)) rfl ?_
          refine k_iload 98 rfl (gs_ne rfl rfl (gs_ne rfl rfl g17)) rfl ?_
          refine k_iload 100 rfl (gs_ne rfl rfl (gs_ne rfl rfl g23)) rfl ?_
          refine k_rq I37 rfl (m_behind (n9 := ns9) I37.1 (show 0 ≤ v1.toInt ∧ 0 ≤ v7.toInt ∧ v1.toInt + v7.toInt + (ns9) ≤ 3900 by omega) (show wf ((A36 1)) (v1.toInt + v7.toInt) (ns9) by rw [show (A36 1) = A0 1 from (fr2.tr (by decide) hA k40) 1 (by decide), show v1.toInt + v7.toInt = w1.toInt + w2.toInt + gj by omega]; exact ws9)) rfl rfl rfl I37.rc ?_
          rintro x43 h44 F45 A46 I47 ⟨k49, k50, p48⟩
          replace p48 : x43.toInt = v7.toInt + (ns9) := p48
          have k49 := fr1.nil k49
          subst k49
          have k50 := fr2.nil k50
          subst k50
          show am_Ok _ _ _ (103, _, [.inl x43, .inl x15, .inr (.inr (some (rf_ad 68)))], _, 0, 0) _
          refine r_st 68 I47 104 rfl rfl (by omega) (show x15.toInt < 1300 by omega) rfl (fun h51 I52 => ?_)
          obtain ⟨x53, q54⟩ : ∃ q : Int32, q = x15 + (1 : Int32) := ⟨_, rfl⟩
          have e55 : x53.toInt = x15.toInt + 1 := by rw [q54, iv_add (by omega) (by omega)]; omega
          refine k_iinc x53 107 rfl (gs_ne rfl rfl (gs_ne rfl rfl g22)) q54.symm rfl ?_
          obtain ⟨x56, q57⟩ : ∃ q : Int32, q = v7 + (1 : Int32) := ⟨_, rfl⟩
          have e58 : x56.toInt = v7.toInt + 1 := by rw [q57, iv_add (by omega) (by omega)]; omega
          refine k_iinc x56 110 rfl (gs_ne rfl rfl (gs_ne rfl rfl (gs_ne rfl rfl g23))) q57.symm rfl ?_
          refine k_goto 9 rfl rfl ?_
          have hmk : mk (A36 66) (gm + (gj + 1)) (gc + op (A0 1) (w1.toInt + w2.toInt) (gj + 1) - 1) := by rw [hw9, hcode, ← ho8, show gc + (op (A0 1) (w1.toInt + w2.toInt) gj + ow (x28).toInt) - 1 = gc + op (A0 1) (w1.toInt + w2.toInt) gj - 1 + ow (x28).toInt by omega]; exact p38b
          have hcb : cb (A36 66) 0 (gm + (gj + 1)) gM := p38c
          exact ih _ (show (ga - (gj + 1)) < n by omega) (gj := gj + 1) rfl (gs_ne rfl rfl (gs_ne rfl rfl (gs_ne rfl rfl (gs_ne rfl rfl g16)))) (gs_ne rfl rfl (gs_ne rfl rfl (gs_ne rfl rfl (gs_ne rfl rfl g17)))) (gs_ne rfl rfl (gs_ne rfl rfl (gs_ne rfl rfl (gs_ne rfl rfl g18)))) (gs_ne rfl rfl (gs_ne rfl rfl (gs_ne rfl rfl (gs_ne rfl rfl g19)))) (gs_ne rfl rfl (gs_ne rfl rfl (gs_ne rfl rfl (gs_ne rfl rfl g20)))) (gs_ne rfl rfl (gs_ne rfl rfl (gs_ne rfl rfl gs_eq))) (gs_ne rfl rfl gs_eq) gs_eq I52 (fr1.tr (by decide) hF k39) (fr2.up (by decide) (fr2.tr (by decide) hA k40)) (show v1.toInt = w1.toInt ∧ v2.toInt = w2.toInt ∧ v3.toInt = w3.toInt ∧ v4.toInt = w4.toInt by omega) (show x56.toInt = w2.toInt + (gj + 1) ∧ (gj + 1) ≤ ga by omega) (show 0 ≤ x53.toInt ∧ x53.toInt ≤ (gj + 1) by omega) (show (F35 67) = gm + (gj + 1) by omega) (show mk ((A36 66)) (gm + (gj + 1)) (gc + op (A0 1) (w1.toInt + w2.toInt) (gj + 1) - 1) from hmk) (show cb ((A36 66)) 0 (gm + (gj + 1)) gM from hcb)
        · refine k_c2 107 rfl rfl (if_neg b42) ?_
          have b42 := mt iv_eq.mpr b42
          obtain ⟨x59, q60⟩ : ∃ q : Int32, q = v7 + (1 : Int32) := ⟨_, rfl⟩
          have e61 : x59.toInt = v7.toInt + 1 := by rw [q60, iv_add (by omega) (by omega)]; omega
          refine k_iinc x59 110 rfl (gs_ne rfl rfl (gs_ne rfl rfl g23)) q60.symm rfl ?_
          refine k_goto 9 rfl rfl ?_
          have hmk : mk (A36 66) (gm + (gj + 1)) (gc + op (A0 1) (w1.toInt + w2.toInt) (gj + 1) - 1) := by rw [hw9, hcode, ← ho8, show gc + (op (A0 1) (w1.toInt + w2.toInt) gj + ow (x28).toInt) - 1 = gc + op (A0 1) (w1.toInt + w2.toInt) gj - 1 + ow (x28).toInt by omega]; exact p38b
          have hcb : cb (A36 66) 0 (gm + (gj + 1)) gM := p38c
          exact ih _ (show (ga - (gj + 1)) < n by omega) (gj := gj + 1) rfl (gs_ne rfl rfl (gs_ne rfl rfl (gs_ne rfl rfl g16))) (gs_ne rfl rfl (gs_ne rfl rfl (gs_ne rfl rfl g17))) (gs_ne rfl rfl (gs_ne rfl rfl (gs_ne rfl rfl g18))) (gs_ne rfl rfl (gs_ne rfl rfl (gs_ne rfl rfl g19))) (gs_ne rfl rfl (gs_ne rfl rfl (gs_ne rfl rfl g20))) (gs_ne rfl rfl (gs_ne rfl rfl gs_eq)) (gs_ne rfl rfl (gs_ne rfl rfl (gs_ne rfl rfl g22))) gs_eq I37 (fr1.tr (by decide) hF k39) (fr2.tr (by decide) hA k40) (show v1.toInt = w1.toInt ∧ v2.toInt = w2.toInt ∧ v3.toInt = w3.toInt ∧ v4.toInt = w4.toInt by omega) (show x59.toInt = w2.toInt + (gj + 1) ∧ (gj + 1) ≤ ga by omega) (show 0 ≤ x15.toInt ∧ x15.toInt ≤ (gj + 1) by omega) (show (F35 67) = gm + (gj + 1) by omega) (show mk ((A36 66)) (gm + (gj + 1)) (gc + op (A0 1) (w1.toInt + w2.toInt) (gj + 1) - 1) from hmk) (show cb ((A36 66)) 0 (gm + (gj + 1)) gM from hcb)
      · refine k_c2 62 rfl rfl (if_neg b32) ?_
        have b32 := mt iv_lt.mpr b32
        refine k_iload 64 rfl gs_eq rfl ?_
        refine k_push 65 rfl rfl ?_
        obtain ⟨x62, q63⟩ : ∃ q : Int32, q = (x28 - (2 : Int32)) := ⟨_, rfl⟩
        have e64 : x62.toInt = x28.toInt - 2 := by rw [q63, iv_sub (by omega) (by omega)]; omega
        refine k_bin x62 66 rfl q63.symm rfl ?_
        refine k_iload 68 rfl (gs_ne rfl rfl gs_eq) rfl ?_
        by_cases b65 : x62 < x15
        · refine k_c2 79 rfl rfl (if_pos b65) ?_
          have b65 := iv_lt.mp b65
          refine k_iload 81 rfl gs_eq rfl ?_
          have ho8 : ow x28.toInt = ow x28.toInt := by first | rfl | (rw [ow_v (c := x28.toInt) (by omega) (by omega), ow_v (by omega) (by omega)])
          refine k_rv hI rfl (m_makes (gm := gm + gj) (gc := gc + op (A0 1) (w1.toInt + w2.toInt) gj - 1) (gM := gM) hI.1 (show (F 67) = (gm + gj) ∧ (gm + gj) ≤ 2599 by omega) (show mk ((A 66)) (gm + gj) (gc + op (A0 1) (w1.toInt + w2.toInt) gj - 1) from i5) (show 0 < (gc + op (A0 1) (w1.toInt + w2.toInt) gj - 1) by omega) (show cb ((A 66)) 0 (gm + gj) (gM) from i6) (show 0 ≤ x28.toInt ∧ x28.toInt ≤ (gM) by omega)) rfl rfl rfl hI.rc ?_
          rintro h67 F68 A69 I70 ⟨k72, k73, p71⟩
          replace p71 : F68 67 = (gm + gj) + 1 ∧ mk (A69 66) ((gm + gj) + 1) ((gc + op (A0 1) (w1.toInt + w2.toInt) gj - 1) + ow x28.toInt) ∧ cb (A69 66) 0 ((gm + gj) + 1) (gM) := p71
          obtain ⟨p71a, p71b, p71c⟩ := p71
          show am_Ok _ _ _ (84, _, [], _, 0, 0) _
          refine k_iload 86 rfl gs_eq rfl ?_
          refine k_push 87 rfl rfl ?_
          have hc74 : (1 : Int32).toInt = 1 := by decide
          by_cases b75 : x28 = (1 : Int32)
          · refine k_c2 90 rfl rfl (if_pos b75) ?_
            have b75 := iv_eq.mp b75
            obtain ⟨ns9, ws9, hs9⟩ := wf_sub p6 (m := gj) (by omega)
            refine k_aload 91 rfl (gs_ne rfl rfl (gs_ne rfl rfl g16)) rfl ?_
            refine r_gA I70 94 rfl rfl rfl ?_
            refine k_iload 96 rfl (gs_ne rfl rfl (gs_ne rfl rfl g22)) rfl ?_
            refine k_aload 97 rfl (gs_ne rfl rfl (gs_ne rfl rfl g16)) rfl ?_
            refine k_iload 98 rfl (gs_ne rfl rfl (gs_ne rfl rfl g17)) rfl ?_
            refine k_iload 100 rfl (gs_ne rfl rfl (gs_ne rfl rfl g23)) rfl ?_
            refine k_rq I70 rfl (m_behind (n9 := ns9) I70.1 (show 0 ≤ v1.toInt ∧ 0 ≤ v7.toInt ∧ v1.toInt + v7.toInt + (ns9) ≤ 3900 by omega) (show wf ((A69 1)) (v1.toInt + v7.toInt) (ns9) by rw [show (A69 1) = A0 1 from (fr2.tr (by decide) hA k73) 1 (by decide), show v1.toInt + v7.toInt = w1.toInt + w2.toInt + gj by omega]; exact ws9)) rfl rfl rfl I70.rc ?_
            rintro x76 h77 F78 A79 I80 ⟨k82, k83, p81⟩
            replace p81 : x76.toInt = v7.toInt + (ns9) := p81
            have k82 := fr1.nil k82
            subst k82
            have k83 := fr2.nil k83
            subst k83
            show am_Ok _ _ _ (103, _, [.inl x76, .inl x15, .inr (.inr (some (rf_ad 68)))], _, 0, 0) _
            refine r_st 68 I80 104 rfl rfl (by omega) (show x15.toInt < 1300 by omega) rfl (fun h84 I85 => ?_)
            obtain ⟨x86, q87⟩ : ∃ q : Int32, q = x15 + (1 : Int32) := ⟨_, rfl⟩
            have e88 : x86.toInt = x15.toInt + 1 := by rw [q87, iv_add (by omega) (by omega)]; omega
            refine k_iinc x86 107 rfl (gs_ne rfl rfl (gs_ne rfl rfl g22)) q87.symm rfl ?_
            obtain ⟨x89, q90⟩ : ∃ q : Int32, q = v7 + (1 : Int32) := ⟨_, rfl⟩
            have e91 : x89.toInt = v7.toInt + 1 := by rw [q90, iv_add (by omega) (by omega)]; omega
            refine k_iinc x89 110 rfl (gs_ne rfl rfl (gs_ne rfl rfl (gs_ne rfl rfl g23))) q90.symm rfl ?_
            refine k_goto 9 rfl rfl ?_
            have hmk : mk (A69 66) (gm + (gj + 1)) (gc + op (A0 1) (w1.toInt + w2.toInt) (gj + 1) - 1) := by rw [hw9, hcode, ← ho8, show gc + (op (A0 1) (w1.toInt + w2.toInt) gj + ow (x28).toInt) - 1 = gc + op (A0 1) (w1.toInt + w2.toInt) gj - 1 + ow (x28).toInt by omega]; exact p71b
            have hcb : cb (A69 66) 0 (gm + (gj + 1)) gM := p71c
            exact ih _ (show (ga - (gj + 1)) < n by omega) (gj := gj + 1) rfl (gs_ne rfl rfl (gs_ne rfl rfl (gs_ne rfl rfl (gs_ne rfl rfl g16)))) (gs_ne rfl rfl (gs_ne rfl rfl (gs_ne rfl rfl (gs_ne rfl rfl g17)))) (gs_ne rfl rfl (gs_ne rfl rfl (gs_ne rfl rfl (gs_ne rfl rfl g18)))) (gs_ne rfl rfl (gs_ne rfl rfl (gs_ne rfl rfl (gs_ne rfl rfl g19)))) (gs_ne rfl rfl (gs_ne rfl rfl (gs_ne rfl rfl (gs_ne rfl rfl g20)))) (gs_ne rfl rfl (gs_ne rfl rfl (gs_ne rfl rfl gs_eq))) (gs_ne rfl rfl gs_eq) gs_eq I85 (fr1.tr (by decide) hF k72) (fr2.up (by decide) (fr2.tr (by decide) hA k73)) (show v1.toInt = w1.toInt ∧ v2.toInt = w2.toInt ∧ v3.toInt = w3.toInt ∧ v4.toInt = w4.toInt by omega) (show x89.toInt = w2.toInt + (gj + 1) ∧ (gj + 1) ≤ ga by omega) (show 0 ≤ x86.toInt ∧ x86.toInt ≤ (gj + 1) by omega) (show (F68 67) = gm + (gj + 1) by omega) (show mk ((A69 66)) (gm + (gj + 1)) (gc + op (A0 1) (w1.toInt + w2.toInt) (gj + 1) - 1) from hmk) (show cb ((A69 66)) 0 (gm + (gj + 1)) gM from hcb)
          · refine k_c2 107 rfl rfl (if_neg b75) ?_
            have b75 := mt iv_eq.mpr b75
            obtain ⟨x92, q93⟩ : ∃ q : Int32, q = v7 + (1 : Int32) := ⟨_, rfl⟩
            have e94 : x92.toInt = v7.toInt + 1 := by rw [q93, iv_add (by omega) (by omega)]; omega
            refine k_iinc x92 110 rfl (gs_ne rfl rfl (gs_ne rfl rfl g23)) q93.symm rfl ?_
            refine k_goto 9 rfl rfl ?_
            have hmk : mk (A69 66) (gm + (gj + 1)) (gc + op (A0 1) (w1.toInt + w2.toInt) (gj + 1) - 1) := by rw [hw9, hcode, ← ho8, show gc + (op (A0 1) (w1.toInt + w2.toInt) gj + ow (x28).toInt) - 1 = gc + op (A0 1) (w1.toInt + w2.toInt) gj - 1 + ow (x28).toInt by omega]; exact p71b
            have hcb : cb (A69 66) 0 (gm + (gj + 1)) gM := p71c
            exact ih _ (show (ga - (gj + 1)) < n by omega) (gj := gj + 1) rfl (gs_ne rfl rfl (gs_ne rfl rfl (gs_ne rfl rfl g16))) (gs_ne rfl rfl (gs_ne rfl rfl (gs_ne rfl rfl g17))) (gs_ne rfl rfl (gs_ne rfl rfl (gs_ne rfl rfl g18))) (gs_ne rfl rfl (gs_ne rfl rfl (gs_ne rfl rfl g19))) (gs_ne rfl rfl (gs_ne rfl rfl (gs_ne rfl rfl g20))) (gs_ne rfl rfl (gs_ne rfl rfl gs_eq)) (gs_ne rfl rfl (gs_ne rfl rfl (gs_ne rfl rfl g22))) gs_eq I70 (fr1.tr (by decide) hF k72) (fr2.tr (by decide) hA k73) (show v1.toInt = w1.toInt ∧ v2.toInt = w2.toInt ∧ v3.toInt = w3.toInt ∧ v4.toInt = w4.toInt by omega) (show x92.toInt = w2.toInt + (gj + 1) ∧ (gj + 1) ≤ ga by omega) (show 0 ≤ x15.toInt ∧ x15.toInt ≤ (gj + 1) by omega) (show (F68 67) = gm + (gj + 1) by omega) (show mk ((A69 66)) (gm + (gj + 1)) (gc + op (A0 1) (w1.toInt + w2.toInt) (gj + 1) - 1) from hmk) (show cb ((A69 66)) 0 (gm + (gj + 1)) gM from hcb)
        · refine k_c2 71 rfl rfl (if_neg b65) ?_
          have b65 := mt iv_lt.mpr b65
          refine k_iload 73 rfl gs_eq rfl ?_
          refine k_iload 75 rfl (gs_ne rfl rfl (gs_ne rfl rfl g20)) rfl ?_
          obtain ⟨x95, q96⟩ : ∃ q : Int32, q = (x28 + v4) := ⟨_, rfl⟩
          have e97 : x95.toInt = x28.toInt + v4.toInt := by rw [q96, iv_add (by omega) (by omega)]
          refine k_bin x95 76 rfl q96.symm rfl ?_
          refine k_goto 81 rfl rfl ?_
          have ho8 : ow x95.toInt = ow x28.toInt := by first | rfl | (rw [ow_v (c := x95.toInt) (by omega) (by omega), ow_v (by omega) (by omega)])
          refine k_rv hI rfl (m_makes (gm := gm + gj) (gc := gc + op (A0 1) (w1.toInt + w2.toInt) gj - 1) (gM := gM) hI.1 (show (F 67) = (gm + gj) ∧ (gm + gj) ≤ 2599 by omega) (show mk ((A 66)) (gm + gj) (gc + op (A0 1) (w1.toInt + w2.toInt) gj - 1) from i5) (show 0 < (gc + op (A0 1) (w1.toInt + w2.toInt) gj - 1) by omega) (show cb ((A 66)) 0 (gm + gj) (gM) from i6) (show 0 ≤ x95.toInt ∧ x95.toInt ≤ (gM) by omega)) rfl rfl rfl hI.rc ?_
          rintro h99 F100 A101 I102 ⟨k104, k105, p103⟩
          replace p103 : F100 67 = (gm + gj) + 1 ∧ mk (A101 66) ((gm + gj) + 1) ((gc + op (A0 1) (w1.toInt + w2.toInt) gj - 1) + ow x95.toInt) ∧ cb (A101 66) 0 ((gm + gj) + 1) (gM) := p103
          obtain ⟨p103a, p103b, p103c⟩ := p103
          show am_Ok _ _ _ (84, _, [], _, 0, 0) _
          refine k_iload 86 rfl gs_eq rfl ?_
          refine k_push 87 rfl rfl ?_
          have hc106 : (1 : Int32).toInt = 1 := by decide
          by_cases b107 : x28 = (1 : Int32)
          · refine k_c2 90 rfl rfl (if_pos b107) ?_
            have b107 := iv_eq.mp b107
            obtain ⟨ns9, ws9, hs9⟩ := wf_sub p6 (m := gj) (by omega)
            refine k_aload 91 rfl (gs_ne rfl rfl (gs_ne rfl rfl g16)) rfl ?_
            refine r_gA I102 94 rfl rfl rfl ?_
            refine k_iload 96 rfl (gs_ne rfl rfl (gs_ne rfl rfl g22)) rfl ?_
            refine k_aload 97 rfl (gs_ne rfl rfl (gs_ne rfl rfl g16)) rfl ?_
            refine k_iload 98 rfl (gs_ne rfl rfl (gs_ne rfl rfl g17)) rfl ?_
            refine k_iload 100 rfl (gs_ne rfl rfl (gs_ne rfl rfl g23)) rfl ?_
            refine k_rq I102 rfl (m_behind (n9 := ns9) I102.1 (show 0 ≤ v1.toInt ∧ 0 ≤ v7.toInt ∧ v1.toInt + v7.toInt + (ns9) ≤ 3900 by omega) (show wf ((A101 1)) (v1.toInt + v7.toInt) (ns9) by rw [show (A101 1) = A0 1 from (fr2.tr (by decide) hA k105) 1 (by decide), show v1.toInt + v7.toInt = w1.toInt + w2.toInt + gj by omega]; exact ws9)) rfl rfl rfl I102.rc ?_
            rintro x108 h109 F110 A111 I112 ⟨k114, k115, p113⟩
            replace p113 : x108.toInt = v7.toInt + (ns9) := p113
            have k114 := fr1.nil k114
            subst k114
            have k115 := fr2.nil k115
            subst k115
            show am_Ok _ _ _ (103, _, [.inl x108, .inl x15, .inr (.inr (some (rf_ad 68)))], _, 0, 0) _
            refine r_st 68 I112 104 rfl rfl (by omega) (show x15.toInt < 1300 by omega) rfl (fun h116 I117 => ?_)
            obtain ⟨x118, q119⟩ : ∃ q : Int32, q = x15 + (1 : Int32) := ⟨_, rfl⟩
            have e120 : x118.toInt = x15.toInt + 1 := by rw [q119, iv_add (by omega) (by omega)]; omega
            refine k_iinc x118 107 rfl (gs_ne rfl rfl (gs_ne rfl rfl g22)) q119.symm rfl ?_
            obtain ⟨x121, q122⟩ : ∃ q : Int32, q = v7 + (1 : Int32) := ⟨_, rfl⟩
            have e123 : x121.toInt = v7.toInt + 1 := by rw [q122, iv_add (by omega) (by omega)]; omega
            refine k_iinc x121 110 rfl (gs_ne rfl rfl (gs_ne rfl rfl (gs_ne rfl rfl g23))) q122.symm rfl ?_
            refine k_goto 9 rfl rfl ?_
            have hmk : mk (A101 66) (gm + (gj + 1)) (gc + op (A0 1) (w1.toInt + w2.toInt) (gj + 1) - 1) := by rw [hw9, hcode, ← ho8, show gc + (op (A0 1) (w1.toInt + w2.toInt) gj + ow (x95).toInt) - 1 = gc + op (A0 1) (w1.toInt + w2.toInt) gj - 1 + ow (x95).toInt by omega]; exact p103b
            have hcb : cb (A101 66) 0 (gm + (gj + 1)) gM := p103c
            exact ih _ (show (ga - (gj + 1)) < n by omega) (gj := gj + 1) rfl (gs_ne rfl rfl (gs_ne rfl rfl (gs_ne rfl rfl (gs_ne rfl rfl g16)))) (gs_ne rfl rfl (gs_ne rfl rfl (gs_ne rfl rfl (gs_ne rfl rfl g17)))) (gs_ne rfl rfl (gs_ne rfl rfl (gs_ne rfl rfl (gs_ne rfl rfl g18)))) (gs_ne rfl rfl (gs_ne rfl rfl (gs_ne rfl rfl (gs_ne rfl rfl g19)))) (gs_ne rfl rfl (gs_ne rfl rfl (gs_ne rfl rfl (gs_ne rfl rfl g20)))) (gs_ne rfl rfl (gs_ne rfl rfl (gs_ne rfl rfl gs_eq))) (gs_ne rfl rfl gs_eq) gs_eq I117 (fr1.tr (by decide) hF k104) (fr2.up (by decide) (fr2.tr (by decide) hA k105)) (show v1.toInt = w1.toInt ∧ v2.toInt = w2.toInt ∧ v3.toInt = w3.toInt ∧ v4.toInt = w4.toInt by omega) (show x121.toInt = w2.toInt + (gj + 1) ∧ (gj + 1) ≤ ga by omega) (show 0 ≤ x118.toInt ∧ x118.toInt ≤ (gj + 1) by omega) (show (F100 67) = gm + (gj + 1) by omega) (show mk ((A101 66)) (gm + (gj + 1)) (gc + op (A0 1) (w1.toInt + w2.toInt) (gj + 1) - 1) from hmk) (show cb ((A101 66)) 0 (gm + (gj + 1)) gM from hcb)
          · refine k_c2 107 rfl rfl (if_neg b107) ?_
            have b107 := mt iv_eq.mpr b107
            obtain ⟨x124, q125⟩ : ∃ q : Int32, q = v7 + (1 : Int32) := ⟨_, rfl⟩
            have e126 : x124.toInt = v7.toInt + 1 := by rw [q125, iv_add (by omega) (by omega)]; omega
            refine k_iinc x124 110 rfl (gs_ne rfl rfl (gs_ne rfl rfl g23)) q125.symm rfl ?_
            refine k_goto 9 rfl rfl ?_
            have hmk : mk (A101 66) (gm + (gj + 1)) (gc + op (A0 1) (w1.toInt + w2.toInt) (gj + 1) - 1) := by rw [hw9, hcode, ← ho8, show gc + (op (A0 1) (w1.toInt + w2.toInt) gj + ow (x95).toInt) - 1 = gc + op (A0 1) (w1.toInt + w2.toInt) gj - 1 + ow (x95).toInt by omega]; exact p103b
            have hcb : cb (A101 66) 0 (gm + (gj + 1)) gM := p103c
            exact ih _ (show (ga - (gj + 1)) < n by omega) (gj := gj + 1) rfl (gs_ne rfl rfl (gs_ne rfl rfl (gs_ne rfl rfl g16))) (gs_ne rfl rfl (gs_ne rfl rfl (gs_ne rfl rfl g17))) (gs_ne rfl rfl (gs_ne rfl rfl (gs_ne rfl rfl g18))) (gs_ne rfl rfl (gs_ne rfl rfl (gs_ne rfl rfl g19))) (gs_ne rfl rfl (gs_ne rfl rfl (gs_ne rfl rfl g20))) (gs_ne rfl rfl (gs_ne rfl rfl gs_eq)) (gs_ne rfl rfl (gs_ne rfl rfl (gs_ne rfl rfl g22))) gs_eq I102 (fr1.tr (by decide) hF k104) (fr2.tr (by decide) hA k105) (show v1.toInt = w1.toInt ∧ v2.toInt = w2.toInt ∧ v3.toInt = w3.toInt ∧ v4.toInt = w4.toInt by omega) (show x124.toInt = w2.toInt + (gj + 1) ∧ (gj + 1) ≤ ga by omega) (show 0 ≤ x15.toInt ∧ x15.toInt ≤ (gj + 1) by omega) (show (F100 67) = gm + (gj + 1) by omega) (show mk ((A101 66)) (gm + (gj + 1)) (gc + op (A0 1) (w1.toInt + w2.toInt) (gj + 1) - 1) from hmk) (show cb ((A101 66)) 0 (gm + (gj + 1)) gM from hcb)
theorem m_makesArgument {h0 : am_h} {F0 : rf_f} {A0 : rf_A} {w1 : Int32} {w2 : Int32} {w3 : Int32} {w4 : Int32} {gm ga : Nat} {gc gC gM : Int} (hR : rf_R h0 F0 A0) (p1 : F0 67 = gm ∧ gm + ga ≤ 2600 ∧ ga ≤ 1000) (p2 : mk (A0 66) gm gc) (p3 : 0 < gc) (p4 : cb (A0 66) 0 gm gM) (p5 : 0 ≤ w1.toInt ∧ 0 ≤ w2.toInt ∧ w1.toInt + w2.toInt + ga ≤ 3900 ∧ w3.toInt = w2.toInt + ga ∧ 0 ≤ w4.toInt ∧ w4.toInt ≤ 1300 ∧ w2.toInt ≤ 3900 ∧ w1.toInt ≤ 3900) (p6 : wf (A0 1) (w1.toInt + w2.toInt) ga) (p7 : cb (A0 1) (w1.toInt + w2.toInt) ga gC) (p8 : 0 ≤ gC ∧ gC ≤ 1000000 ∧ gC + 1300 ≤ gM) : am_Mt 2 241 [.inr (.inr (some 81)), .inl w1, .inl w2, .inl w3, .inl w4] h0 (rf_V h0 (fun F' A' => fr1 [67] F0 F' ∧ fr2 [66, 68] A0 A' ∧ (F' 67 = gm + ga ∧ mk (A' 66) (gm + ga) (gc - 1) ∧ cb (A' 66) 0 (gm + ga) gM))) := by
  refine am_Mt.of (D := 1) ?_
  have hI : rf_I h0 h0 F0 A0 := rf_I.start hR
  refine k_push 1 rfl rfl ?_
  have hc127 : (0 : Int32).toInt = 0 := by decide
  refine k_istore 3 rfl rfl ?_
  refine k_push 4 rfl rfl ?_
  refine k_istore 6 rfl rfl ?_
  refine k_iload 7 rfl (gs_ne rfl rfl (gs_ne rfl rfl rfl)) rfl ?_
  refine k_istore 9 rfl rfl ?_
  exact b_X10_makesArgument_9 (gm := gm) (ga := ga) (gc := gc) (gC := gC) (gM := gM) (w1 := w1) (w2 := w2) (w3 := w3) (w4 := w4) p1 p2 p3 p4 p5 p6 p7 p8 _ (gj := 0) rfl (gs_ne rfl rfl (gs_ne rfl rfl (gs_ne rfl rfl rfl))) (gs_ne rfl rfl (gs_ne rfl rfl (gs_ne rfl rfl rfl))) (gs_ne rfl rfl (gs_ne rfl rfl (gs_ne rfl rfl rfl))) (gs_ne rfl rfl (gs_ne rfl rfl (gs_ne rfl rfl rfl))) (gs_ne rfl rfl (gs_ne rfl rfl (gs_ne rfl rfl rfl))) (gs_ne rfl rfl (gs_ne rfl rfl gs_eq)) (gs_ne rfl rfl gs_eq) gs_eq hI fr1.rf fr2.rf (show w1.toInt = w1.toInt ∧ w2.toInt = w2.toInt ∧ w3.toInt = w3.toInt ∧ w4.toInt = w4.toInt by omega) (show w2.toInt = w2.toInt + (0) ∧ (0) ≤ ga by omega) (show 0 ≤ (0 : Int32).toInt ∧ (0 : Int32).toInt ≤ (0) by omega) (show (F0 67) = gm + (0) by omega) (show mk ((A0 66)) (gm + (0)) (gc + op (A0 1) (w1.toInt + w2.toInt) (0) - 1) by have e9 : op (A0 1) (w1.toInt + w2.toInt) 0 = 1 := rfl; rw [e9, show gc + 1 - 1 = gc by omega]; exact p2) (show cb ((A0 66)) 0 (gm + (0)) gM from p4)
end
