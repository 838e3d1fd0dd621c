section
theorem m_comesToFunction {h0 : am_h} {F0 : rf_f} {A0 : rf_A} {w1 : Int32} {w2 : Int32} {gn : Nat} (hR : rf_R h0 F0 A0) (p1 : 0 ≤ w1.toInt ∧ w1.toInt < 8000 ∧ 0 ≤ A0 25 w1.toInt ∧ A0 25 w1.toInt ≤ 200) (p2 : 0 ≤ w2.toInt ∧ w2.toInt ≤ 2) (p3 : 0 ≤ F0 50 ∧ F0 50 ≤ 4250) (p4 : wr A0) (p5 : wq A0) (p6 : A0 2 0 = gn ∧ gn ≤ 400) (p7 : 0 ≤ F0 55 ∧ F0 55 ≤ gn ∧ 0 ≤ F0 59 ∧ F0 59 ≤ gn) (p8 : mk (A0 1) gn (F0 55 + 1)) (p9 : ∀ k : Int, 0 ≤ k → k < F0 55 → 0 ≤ A0 51 k ∧ A0 51 k < 8000) : am_Mt 4 236 [.inr (.inr (some 81)), .inl w1, .inl w2] h0 (rf_Q h0 (fun x F' A' => fr1 [59, 55, 50] F0 F' ∧ fr2 [1, 2, 56, 57, 58, 61, 49] A0 A' ∧ ((0 ≤ F' 50 ∧ (F' 50 ≤ F0 50 ∨ F' 50 ≤ 200)) ∧ wr A' ∧ wq A' ∧ (∀ q : Int, q ≠ 0 → A' 2 q = A0 2 q) ∧ (∀ q : Int, 400 ≤ q → A' 1 q = A0 1 q) ∧ ((x = -1 ∧ 0 ≤ A' 2 0 ∧ A' 2 0 ≤ 400) ∨ (x = -2 ∧ gn < 400 ∧ A' 2 0 = gn + 1 ∧ wf (A' 1) 0 (gn + 1)) ∨ (w2.toInt = 0 ∧ gn < 400 ∧ x = 4 * w1.toInt + 1 ∧ A' 2 0 = gn + 1 ∧ mk (A' 1) (gn + 1) (F0 55 + 1) ∧ F' 55 = F0 55 ∧ F' 59 = F0 59 + 1 ∧ F' 50 = F0 50) ∨ (w2.toInt = 2 ∧ gn < 400 ∧ 1 ≤ F0 55 ∧ x = 4 * A0 51 (F0 55 - 1) + 2 ∧ A' 2 0 = gn + 1 ∧ mk (A' 1) (gn + 1) (F0 55) ∧ F' 55 = F0 55 - 1 ∧ F' 59 = A0 52 (F0 55 - 1) ∧ F' 50 = A0 54 (F0 55 - 1)))))) := by
  refine am_Mt.of (D := 3) ?_
  have hI : rf_I h0 h0 F0 A0 := rf_I.start hR
  refine k_iload 1 rfl rfl rfl ?_
  by_cases b1 : w2 = 0
  · refine k_c1 4 rfl rfl (if_pos b1) ?_
    have b1 := iv_eq0.mp b1
    refine k_aload 5 rfl rfl rfl ?_
    refine k_push 6 rfl rfl ?_
    have hc2 : (1 : Int32).toInt = 1 := by decide
    refine k_rq hI rfl (m_reads (gn := gn) (gc := F0 55 + 1) hI.1 (show (A0 2) 0 = (gn) ∧ (gn) ≤ 400 from p6) (show mk ((A0 1)) (gn) (F0 55 + 1) from p8) (show 0 < (F0 55 + 1) by omega)) rfl rfl rfl hI.rc ?_
    rintro x3 h4 F5 A6 I7 ⟨k9, k10, p8⟩
    replace p8 : (x3.toInt = 0 ∧ A6 1 = (A0 1) ∧ A6 2 = (A0 2)) ∨ (x3.toInt = 1 ∧ (gn) < 400 ∧ A6 2 0 = (gn) + 1 ∧ mk (A6 1) ((gn) + 1) ((F0 55 + 1) + ow (1 : Int32).toInt) ∧ (∀ q : Int, q ≠ 0 → A6 2 q = (A0 2) q) ∧ (∀ q : Int, 400 ≤ q → A6 1 q = (A0 1) q)) := p8
    have k9 := fr1.nil k9
    subst k9
    have z11 := iv_01 (x := x3) (by rcases p8 with ⟨e, -⟩ | ⟨e, -⟩ <;> omega)
    show am_Ok _ _ _ (9, _, [.inl x3], _, 0, 0) _
    by_cases b12 : x3 = 0
    · refine k_c1 12 rfl rfl (if_pos b12) ?_
      have b12 := iv_eq0.mp b12
      obtain ⟨-, r1, r2⟩ := p8.resolve_right (fun z => by omega)
      refine k_push 13 rfl rfl ?_
      have hc13 : (-1 : Int32).toInt = -1 := by decide
      exact k_fin rfl rfl ⟨_, _, _, _, rfl, I7, fr1.rf, (fr2.tr (by decide) fr2.rf k10), ⟨by omega, p4.fr k10 (by decide), p5.fr k10 (by decide), fun q hq => by rw [r2], fun q hq => by rw [r1], Or.inl ⟨by decide, by rw [r2]; omega, by rw [r2]; omega⟩⟩⟩
    · refine k_c1 14 rfl rfl (if_neg b12) ?_
      have b12 := mt iv_eq0.mpr b12
      obtain ⟨-, r1, r2, r3, r4, r5⟩ := p8.resolve_left (fun z => by omega)
      have r3 : mk (A6 1) (gn + 1) (F0 55 + 1) := by rw [show F0 55 + 1 = F0 55 + 1 + ow (1 : Int32).toInt by rw [show (1 : Int32).toInt = 1 by decide, ow_1]; omega]; exact r3
      refine k_aload 15 rfl rfl rfl ?_
      refine k_iload 16 rfl rfl rfl ?_
      refine k_rv I7 rfl (m_goesInto  I7.1 (show 0 ≤ (F0 59) ∧ (F0 59) ≤ 401 by omega) (show 0 ≤ (F0 50) ∧ (F0 50) ≤ 4300 by omega) (show wr A6 from p4.fr k10 (by decide)) (show wq A6 from p5.fr k10 (by decide)) (show 0 ≤ w1.toInt ∧ w1.toInt < 8000 ∧ 0 ≤ (A6 25) w1.toInt ∧ (A6 25) w1.toInt ≤ 200 by rw [(k10 25 (by decide))]; omega)) rfl rfl rfl I7.rc ?_
      rintro h15 F16 A17 I18 ⟨k20, k21, p19⟩
      replace p19 : F16 59 = (F0 59) + 1 ∧ wq A17 := p19
      obtain ⟨p19a, p19b⟩ := p19
      show am_Ok _ _ _ (19, _, [], _, 0, 0) _
      refine k_push 20 rfl rfl ?_
      have hc22 : (4 : Int32).toInt = 4 := by decide
      refine k_iload 21 rfl rfl rfl ?_
      obtain ⟨x23, q24⟩ : ∃ q : Int32, q = ((4 : Int32) * w1) := ⟨_, rfl⟩
      have e25 : x23.toInt = 4 * w1.toInt := by rw [q24]; exact iv_mulc 4 (by decide) (by omega) (by omega)
      refine k_bin x23 22 rfl q24.symm rfl ?_
      refine k_push 23 rfl rfl ?_
      obtain ⟨x26, q27⟩ : ∃ q : Int32, q = (x23 + (1 : Int32)) := ⟨_, rfl⟩
      have e28 : x26.toInt = x23.toInt + 1 := by rw [q27, iv_add (by omega) (by omega)]; omega
      refine k_bin x26 24 rfl q27.symm rfl ?_
      have e29 : F16 50 = F0 50 := k20 50 (by decide)
      have e30 : F16 55 = F0 55 := k20 55 (by decide)
      exact k_fin rfl rfl ⟨_, _, _, _, rfl, I18, (fr1.tr (by decide) fr1.rf k20), (fr2.tr (by decide) (fr2.tr (by decide) fr2.rf k10) k21), ⟨by omega, (p4.fr k10 (by decide)).fr k21 (by decide), p19b, fun q hq => by rw [(k21 2 (by decide))]; exact r4 q hq, fun q hq => by rw [(k21 1 (by decide))]; exact r5 q hq, Or.inr (Or.inr (Or.inl ⟨by omega, by omega, by omega, by rw [(k21 2 (by decide))]; exact r2, by rw [(k21 1 (by decide))]; exact r3, by omega, p19a, by omega⟩))⟩⟩
  · refine k_c1 25 rfl rfl (if_neg b1) ?_
    have b1 := mt iv_eq0.mpr b1
    refine k_iload 26 rfl rfl rfl ?_
    refine k_push 27 rfl rfl ?_
    have hc31 : (2 : Int32).toInt = 2 := by decide
    by_cases b32 : w2 = (2 : Int32)
    · refine k_c2 30 rfl rfl (if_pos b32) ?_
      have b32 := iv_eq.mp b32
      refine k_aload 31 rfl rfl rfl ?_
      refine k_iload 32 rfl rfl rfl ?_
      refine k_rq hI rfl (m_betweenTo  hI.1 (show 0 ≤ (F0 59) ∧ (F0 59) ≤ 402 by omega) (show 0 ≤ (F0 50) ∧ (F0 50) ≤ 4300 by omega) (show wr A0 from p4) (show wq A0 from p5)) rfl rfl rfl hI.rc ?_
      rintro x33 h34 F35 A36 I37 ⟨k39, k40, p38⟩
      replace p38 : -1 ≤ x33.toInt ∧ x33.toInt ≤ 401 := p38
      have k39 := fr1.nil k39
      subst k39
      have k40 := fr2.nil k40
      subst k40
      show am_Ok _ _ _ (35, _, [.inl x33], _, 0, 0) _
      refine k_goto 39 rfl rfl ?_
      refine k_istore 40 rfl rfl ?_
      refine k_iload 41 rfl gs_eq rfl ?_
      refine k_push 42 rfl rfl ?_
      have hc41 : (-1 : Int32).toInt = -1 := by decide
      by_cases b42 : x33 = (-1 : Int32)
      · refine k_c2 55 rfl rfl (if_pos b42) ?_
        have b42 := iv_eq.mp b42
        skip
        refine k_push 56 rfl rfl ?_
        exact k_fin rfl rfl ⟨_, _, _, _, rfl, I37, fr1.rf, fr2.rf, ⟨by omega, p4, p5, fun q _ => rfl, fun q _ => rfl, Or.inl ⟨by decide, by omega, by omega⟩⟩⟩
      · refine k_c2 45 rfl rfl (if_neg b42) ?_
        have b42 := mt iv_eq.mpr b42
        refine k_aload 46 rfl (gs_ne rfl rfl rfl) rfl ?_
        refine k_push 47 rfl rfl ?_
        refine k_iload 48 rfl gs_eq rfl ?_
        obtain ⟨x43, q44⟩ : ∃ q : Int32, q = ((2 : Int32) + x33) := ⟨_, rfl⟩
        have e45 : x43.toInt = 2 + x33.toInt := by rw [q44, iv_add (by omega) (by omega)]; omega
        refine k_bin x43 49 rfl q44.symm rfl ?_
        refine k_rq I37 rfl (m_reads (gn := gn) (gc := F0 55 + 1) I37.1 (show (A0 2) 0 = (gn) ∧ (gn) ≤ 400 from p6) (show mk ((A0 1)) (gn) (F0 55 + 1) from p8) (show 0 < (F0 55 + 1) by omega)) rfl rfl rfl I37.rc ?_
        rintro x46 h47 F48 A49 I50 ⟨k52, k53, p51⟩
        replace p51 : (x46.toInt = 0 ∧ A49 1 = (A0 1) ∧ A49 2 = (A0 2)) ∨ (x46.toInt = 1 ∧ (gn) < 400 ∧ A49 2 0 = (gn) + 1 ∧ mk (A49 1) ((gn) + 1) ((F0 55 + 1) + ow x43.toInt) ∧ (∀ q : Int, q ≠ 0 → A49 2 q = (A0 2) q) ∧ (∀ q : Int, 400 ≤ q → A49 1 q = (A0 1) q)) := p51
        have k52 := fr1.nil k52
        subst k52
        have z54 := iv_01 (x := x46) (by rcases p51 with ⟨e, -⟩ | ⟨e, -⟩ <;> omega)
        show am_Ok _ _ _ (52, _, [.inl x46], _, 0, 0) _
        by_cases b55 : x46 = 0
        · refine k_c1 55 rfl rfl (if_pos b55) ?_
          have b55 := iv_eq0.mp b55
          obtain ⟨-, r1, r2⟩ := p51.resolve_right (fun z => by omega)
          refine k_push 56 rfl rfl ?_
          exact k_fin rfl rfl ⟨_, _, _, _, rfl, I50, fr1.rf, (fr2.tr (by decide) fr2.rf k53), ⟨by omega, p4.fr k53 (by decide), p5.fr k53 (by decide), fun q hq => by rw [r2], fun q hq => by rw [r1], Or.inl ⟨by decide, by rw [r2]; omega, by rw [r2]; omega⟩⟩⟩
        · refine k_c1 57 rfl rfl (if_neg b55) ?_
          have b55 := mt iv_eq0.mpr b55
          obtain ⟨-, r1, r2, r3, r4, r5⟩ := p51.resolve_left (fun z => by omega)
          have r3 : mk (A49 1) (gn + 1) (F0 55) := by rw [show F0 55 = F0 55 + 1 + ow (x43).toInt by rw [ow_v (by omega) (by omega)]; omega]; exact r3
          refine k_aload 58 rfl (gs_ne rfl rfl rfl) rfl ?_
          refine r_gI I50 61 rfl rfl rfl (fun x56 (e57 : x56.toInt = F0 55) => ?_)
          by_cases b58 : x56 = 0
          · refine k_c1 64 rfl rfl (if_pos b58) ?_
            have b58 := iv_eq0.mp b58
            refine k_push 66 rfl rfl ?_
            have hc59 : (-2 : Int32).toInt = -2 := by decide
            exact k_fin rfl rfl ⟨_, _, _, _, rfl, I50, fr1.rf, (fr2.tr (by decide) fr2.rf k53), ⟨by omega, p4.fr k53 (by decide), p5.fr k53 (by decide), fun q hq => r4 q hq, fun q hq => r5 q hq, Or.inr (Or.inl ⟨by decide, by omega, r2, by rw [show F0 55 = 0 by omega] at r3; exact r3⟩)⟩⟩
          · refine k_c1 67 rfl rfl (if_neg b58) ?_
            have b58 := mt iv_eq0.mpr b58
            refine k_aload 68 rfl (gs_ne rfl rfl rfl) rfl ?_
            refine k_rv I50 rfl (m_takesWaiting  I50.1 (show 1 ≤ (F0 55) ∧ (F0 55) ≤ 402 by omega) (show wr A49 from p4.fr k53 (by decide)) (show wq A49 from p5.fr k53 (by decide))) rfl rfl rfl I50.rc ?_
            rintro h61 F62 A63 I64 ⟨k66, k67, p65⟩
            replace p65 : F62 55 = (F0 55) - 1 ∧ F62 59 = (A49 52) ((F0 55) - 1) ∧ F62 50 = (A49 54) ((F0 55) - 1) ∧ wr A63 := p65
            obtain ⟨p65a, p65b, p65c, p65d⟩ := p65
            show am_Ok _ _ _ (71, _, [], _, 0, 0) _
            refine k_push 72 rfl rfl ?_
            have hc68 : (4 : Int32).toInt = 4 := by decide
            refine k_aload 73 rfl (gs_ne rfl rfl rfl) rfl ?_
            refine r_gA I64 76 rfl rfl rfl ?_
            refine k_aload 77 rfl (gs_ne rfl rfl rfl) rfl ?_
            refine r_gI I64 80 rfl rfl rfl (fun x69 (e70 : x69.toInt = F62 55) => ?_)
            refine r_ld 51 I64 81 rfl rfl (by omega) (show x69.toInt < 402 by omega) rfl (fun x71 (e72 : x71.toInt = A63 51 x69.toInt) => ?_)
            have e73 : A63 51 = A49 51 := k67 51 (by decide)
            rw [e73] at e72
            have e74 : A49 51 = A0 51 := k53 51 (by decide)
            rw [e74] at e72
            have hwn : x71.toInt = A0 51 (F0 55 - 1) := by rw [e72]; congr 1; omega
            have hp9 := p9 (F0 55 - 1) (by omega) (by omega)
            obtain ⟨x75, q76⟩ : ∃ q : Int32, q = ((4 : Int32) * x71) := ⟨_, rfl⟩
            have e77 : x75.toInt = 4 * x71.toInt := by rw [q76]; exact iv_mulc 4 (by decide) (by omega) (by omega)
            refine k_bin x75 82 rfl q76.symm rfl ?_
            refine k_push 83 rfl rfl ?_
            obtain ⟨x78, q79⟩ : ∃ q : Int32, q = (x75 + (2 : Int32)) := ⟨_, rfl⟩
            have e80 : x78.toInt = x75.toInt + 2 := by rw [q79, iv_add (by omega) (by omega)]; omega
            refine k_bin x78 84 rfl q79.symm rfl ?_
            exact k_fin rfl rfl ⟨_, _, _, _, rfl, I64, (fr1.tr (by decide) fr1.rf k66), (fr2.tr (by decide) (fr2.tr (by decide) fr2.rf k53) k67), ⟨by have hq8 := p5 (F0 55 - 1) (by omega); have h9 := p65c; rw [k53 54 (by decide)] at h9; omega, p65d, (p5.fr k53 (by decide)).fr k67 (by decide), fun q hq => by rw [(k67 2 (by decide))]; exact r4 q hq, fun q hq => by rw [(k67 1 (by decide))]; exact r5 q hq, Or.inr (Or.inr (Or.inr ⟨by omega, by omega, by omega, by omega, by rw [(k67 2 (by decide))]; exact r2, by rw [(k67 1 (by decide))]; exact r3, by omega, by rw [← k53 52 (by decide)]; exact p65b, by rw [← k53 54 (by decide)]; exact p65c⟩))⟩⟩
    · refine k_c2 38 rfl rfl (if_neg b32) ?_
      have b32 := mt iv_eq.mpr b32
      refine k_push 39 rfl rfl ?_
      have hc81 : (-1 : Int32).toInt = -1 := by decide
      refine k_istore 40 rfl rfl ?_
      refine k_iload 41 rfl gs_eq rfl ?_
      refine k_push 42 rfl rfl ?_
      by_cases b82 : (-1 : Int32) = (-1 : Int32)
      · refine k_c2 55 rfl rfl (if_pos b82) ?_
        have b82 := iv_eq.mp b82
        skip
        refine k_push 56 rfl rfl ?_
        exact k_fin rfl rfl ⟨_, _, _, _, rfl, hI, fr1.rf, fr2.rf, ⟨by omega, p4, p5, fun q _ => rfl, fun q _ => rfl, Or.inl ⟨by decide, by omega, by omega⟩⟩⟩
      · refine k_c2 45 rfl rfl (if_neg b82) ?_
        have b82 := mt iv_eq.mpr b82
        refine k_aload 46 rfl (gs_ne rfl rfl rfl) rfl ?_
        refine k_push 47 rfl rfl ?_
        refine k_iload 48 rfl gs_eq rfl ?_
        obtain ⟨x83, q84⟩ : ∃ q : Int32, q = ((2 : Int32) + (-1 : Int32)) := ⟨_, rfl⟩
        have e85 : x83.toInt = 2 + -1 := by rw [q84, iv_add (by omega) (by omega)]; omega
        refine k_bin x83 49 rfl q84.symm rfl ?_
        refine k_rq hI rfl (m_reads (gn := gn) (gc := F0 55 + 1) hI.1 (show (A0 2) 0 = (gn) ∧ (gn) ≤ 400 from p6) (show mk ((A0 1)) (gn) (F0 55 + 1) from p8) (show 0 < (F0 55 + 1) by omega)) rfl rfl rfl hI.rc ?_
        rintro x86 h87 F88 A89 I90 ⟨k92, k93, p91⟩
        replace p91 : (x86.toInt = 0 ∧ A89 1 = (A0 1) ∧ A89 2 = (A0 2)) ∨ (x86.toInt = 1 ∧ (gn) < 400 ∧ A89 2 0 = (gn) + 1 ∧ mk (A89 1) ((gn) + 1) ((F0 55 + 1) + ow x83.toInt) ∧ (∀ q : Int, q ≠ 0 → A89 2 q = (A0 2) q) ∧ (∀ q : Int, 400 ≤ q → A89 1 q = (A0 1) q)) := p91
        have k92 := fr1.nil k92
        subst k92
        have z94 := iv_01 (x := x86) (by rcases p91 with ⟨e, -⟩ | ⟨e, -⟩ <;> omega)
        show am_Ok _ _ _ (52, _, [.inl x86], _, 0, 0) _
        by_cases b95 : x86 = 0
        · refine k_c1 55 rfl rfl (if_pos b95) ?_
          have b95 := iv_eq0.mp b95
          obtain ⟨-, r1, r2⟩ := p91.resolve_right (fun z => by omega)
          refine k_push 56 rfl rfl ?_
          exact k_fin rfl rfl ⟨_, _, _, _, rfl, I90, fr1.rf, (fr2.tr (by decide) fr2.rf k93), ⟨by omega, p4.fr k93 (by decide), p5.fr k93 (by decide), fun q hq => by rw [r2], fun q hq => by rw [r1], Or.inl ⟨by decide, by rw [r2]; omega, by rw [r2]; omega⟩⟩⟩
        · refine k_c1 57 rfl rfl (if_neg b95) ?_
          have b95 := mt iv_eq0.mpr b95
          obtain ⟨-, r1, r2, r3, r4, r5⟩ := p91.resolve_left (fun z => by omega)
          have r3 : mk (A89 1) (gn + 1) (F0 55) := by rw [show F0 55 = F0 55 + 1 + ow (x83).toInt by rw [ow_v (by omega) (by omega)]; omega]; exact r3
          refine k_aload 58 rfl (gs_ne rfl rfl rfl) rfl ?_
          refine r_gI I90 61 rfl rfl rfl (fun x96 (e97 : x96.toInt = F0 55) => ?_)
          by_cases b98 : x96 = 0
          · refine k_c1 64 rfl rfl (if_pos b98) ?_
            have b98 := iv_eq0.mp b98
            refine k_push 66 rfl rfl ?_
            have hc99 : (-2 : Int32).toInt = -2 := by decide
            exact k_fin rfl rfl ⟨_, _, _, _, rfl, I90, fr1.rf, (fr2.tr (by decide) fr2.rf k93), ⟨by omega, p4.fr k93 (by decide), p5.fr k93 (by decide), fun q hq => r4 q hq, fun q hq => r5 q hq, Or.inr (Or.inl ⟨by decide, by omega, r2, by rw [show F0 55 = 0 by omega] at r3; exact r3⟩)⟩⟩
          · refine k_c1 67 rfl rfl (if_neg b98) ?_
            have b98 := mt iv_eq0.mpr b98
            refine k_aload 68 rfl (gs_ne rfl rfl rfl) rfl ?_
            refine k_rv I90 rfl (m_takesWaiting  I90.1 (show 1 ≤ (F0 55) ∧ (F0 55) ≤ 402 by omega) (show wr A89 from p4.fr k93 (by decide)) (show wq A89 from p5.fr k93 (by decide))) rfl rfl rfl I90.rc ?_
            rintro h101 F102 A103 I104 ⟨k106, k107, p105⟩
            replace p105 : F102 55 = (F0 55) - 1 ∧ F102 59 = (A89 52) ((F0 55) - 1) ∧ F102 50 = (A89 54) ((F0 55) - 1) ∧ wr A103 := p105
            obtain ⟨p105a, p105b, p105c, p105d⟩ := p105
            show am_Ok _ _ _ (71, _, [], _, 0, 0) _
            refine k_push 72 rfl rfl ?_
            have hc108 : (4 : Int32).toInt = 4 := by decide
            refine k_aload 73 rfl (gs_ne rfl rfl rfl) rfl ?_
            refine r_gA I104 76 rfl rfl rfl ?_
            refine k_aload 77 rfl (gs_ne rfl rfl rfl) rfl ?_
            refine r_gI I104 80 rfl rfl rfl (fun x109 (e110 : x109.toInt = F102 55) => ?_)
            refine r_ld 51 I104 81 rfl rfl (by omega) (show x109.toInt < 402 by omega) rfl (fun x111 (e112 : x111.toInt = A103 51 x109.toInt) => ?_)
            have e113 : A103 51 = A89 51 := k107 51 (by decide)
            rw [e113] at e112
            have e114 : A89 51 = A0 51 := k93 51 (by decide)
            rw [e114] at e112
            have hwn : x111.toInt = A0 51 (F0 55 - 1) := by rw [e112]; congr 1; omega
            have hp9 := p9 (F0 55 - 1) (by omega) (by omega)
            obtain ⟨x115, q116⟩ : ∃ q : Int32, q = ((4 : Int32) * x111) := ⟨_, rfl⟩
            have e117 : x115.toInt = 4 * x111.toInt := by rw [q116]; exact iv_mulc 4 (by decide) (by omega) (by omega)
            refine k_bin x115 82 rfl q116.symm rfl ?_
            refine k_push 83 rfl rfl ?_
            obtain ⟨x118, q119⟩ : ∃ q : Int32, q = (x115 + (2 : Int32)) := ⟨_, rfl⟩
            have e120 : x118.toInt = x115.toInt + 2 := by rw [q119, iv_add (by omega) (by omega)]; omega
            refine k_bin x118 84 rfl q119.symm rfl ?_
            exact k_fin rfl rfl ⟨_, _, _, _, rfl, I104, (fr1.tr (by decide) fr1.rf k106), (fr2.tr (by decide) (fr2.tr (by decide) fr2.rf k93) k107), ⟨by have hq8 := p5 (F0 55 - 1) (by omega); have h9 := p105c; rw [k93 54 (by decide)] at h9; omega, p105d, (p5.fr k93 (by decide)).fr k107 (by decide), fun q hq => by rw [(k107 2 (by decide))]; exact r4 q hq, fun q hq => by rw [(k107 1 (by decide))]; exact r5 q hq, Or.inr (Or.inr (Or.inr ⟨by omega, by omega, by omega, by omega, by rw [(k107 2 (by decide))]; exact r2, by rw [(k107 1 (by decide))]; exact r3, by omega, by rw [← k93 52 (by decide)]; exact p105b, by rw [← k93 54 (by decide)]; exact p105c⟩))⟩⟩
end
