section
theorem m_comesTo {h0 : am_h} {F0 : rf_f} {A0 : rf_A} {w1 : Int32} {gn : Nat} {lm : Int → Int} {gT : Int} (hR : rf_R h0 F0 A0) (p1 : nn (A0 24) (A0 25) (F0 28) gT) (p2 : nw (A0 24) (A0 25) (A0 26) lm (F0 28)) (p3 : lp (A0 24) (F0 28) w1.toInt) (p4 : 0 ≤ F0 50 ∧ F0 50 ≤ lm w1.toInt ∧ F0 50 ≤ 4250) (p5 : wr A0) (p6 : wq A0) (p7 : A0 2 0 = gn ∧ gn ≤ 400) (p8 : 0 ≤ F0 55 ∧ F0 55 ≤ gn ∧ 0 ≤ F0 59 ∧ F0 59 ≤ gn) (p9 : mk (A0 1) gn (F0 55 + 1)) (pa : wk (A0 24) (A0 25) (F0 28) (F0 55) (A0 51) (A0 52) (A0 54) gn) (pb : 0 ≤ F0 48 ∧ F0 48 ≤ 3999) (pc : ∀ q : Int, 0 ≤ q → q < 16384 → A0 47 q ≤ F0 48) : am_Mt 5 235 [.inr (.inr (some 81)), .inl w1] h0 (rf_Q h0 (fun x F' A' => fr1 [59, 55, 50, 48] F0 F' ∧ fr2 [1, 2, 56, 57, 58, 61, 49, 51, 52, 53, 54, 60, 43, 44, 45, 46, 47] A0 A' ∧ (wr A' ∧ wq A' ∧ (F0 48 ≤ F' 48 ∧ F' 48 ≤ F0 48 + 1) ∧ (∀ q : Int, 0 ≤ q → q < 16384 → A' 47 q ≤ F' 48) ∧ (∀ q : Int, q ≠ 0 → A' 2 q = A0 2 q) ∧ (∀ q : Int, 400 ≤ q → A' 1 q = A0 1 q) ∧ (0 ≤ F' 50 ∧ (F' 50 ≤ F0 50 + 1 ∨ F' 50 ≤ 202)) ∧ ((x = -1 ∧ 0 ≤ A' 2 0 ∧ A' 2 0 ≤ 400) ∨ (x = -2 ∧ ∃ n' : Nat, n' ≤ 400 ∧ A' 2 0 = n' ∧ wf (A' 1) 0 n') ∨ (∃ n' : Nat, (lp (A0 24) (F0 28) x ∧ F' 50 ≤ lm x) ∧ (A' 2 0 = n' ∧ n' ≤ 400) ∧ (0 ≤ F' 55 ∧ F' 55 ≤ n' ∧ 0 ≤ F' 59 ∧ F' 59 ≤ n') ∧ mk (A' 1) n' (F' 55 + 1) ∧ wk (A0 24) (A0 25) (F0 28) (F' 55) (A' 51) (A' 52) (A' 54) n'))))) := by
  refine am_Mt.of (D := 4) ?_
  have hI : rf_I h0 h0 F0 A0 := rf_I.start hR
  obtain ⟨s1, s2, s3, s4⟩ := p3
  have hb4 := p1.2.1
  obtain ⟨t1, t2, t3, t4, t5⟩ := p1.2.2.2.2 (w1.toInt / 4) (by omega) s2
  have hp3 := pr_le (A0 24 (w1.toInt / 4))
  have htl := p2.1 (w1.toInt / 4) (by omega) s2 s3
  refine k_iload 1 rfl rfl rfl ?_
  refine k_push 2 rfl rfl ?_
  have hc1 : (4 : Int32).toInt = 4 := by decide
  obtain ⟨x2, q3⟩ : ∃ q : Int32, q = (w1 / (4 : Int32)) := ⟨_, rfl⟩
  have e4 : x2.toInt = w1.toInt / 4 := by rw [q3]; exact iv_div 4 (by decide) (by decide) (by omega)
  refine k_divZ x2 3 rfl (by decide) q3.symm rfl ?_
  refine k_istore 4 rfl rfl ?_
  refine k_iload 5 rfl (gs_ne rfl rfl rfl) rfl ?_
  refine k_push 6 rfl rfl ?_
  obtain ⟨x5, q6⟩ : ∃ q : Int32, q = (w1 - w1 / (4 : Int32) * (4 : Int32)) := ⟨_, rfl⟩
  have e7 : x5.toInt = w1.toInt % 4 := by rw [q6]; exact iv_rem 4 (by decide) (by decide) (by omega)
  refine k_divZ x5 7 rfl (by decide) q6.symm rfl ?_
  refine k_istore 8 rfl rfl ?_
  have hn9 : x2.toInt = w1.toInt / 4 := by omega
  have hm9 : x5.toInt = w1.toInt % 4 := by omega
  refine k_aload 9 rfl (gs_ne rfl rfl (gs_ne rfl rfl rfl)) rfl ?_
  refine r_gA hI 12 rfl rfl rfl ?_
  refine k_iload 13 rfl (gs_ne rfl rfl gs_eq) rfl ?_
  refine r_ld 25 hI 14 rfl rfl (by omega) (show x2.toInt < 8010 by omega) rfl (fun x8 (e9 : x8.toInt = A0 25 x2.toInt) => ?_)
  rw [e4] at e9
  have hl9 : x8.toInt = A0 25 (w1.toInt / 4) := e9
  refine k_push 17 rfl rfl ?_
  have hc10 : (200 : Int32).toInt = 200 := by decide
  by_cases b11 : x8 ≤ (200 : Int32)
  · refine k_c2 22 rfl rfl (if_pos b11) ?_
    have b11 := iv_le.mp b11
    refine k_aload 23 rfl (gs_ne rfl rfl (gs_ne rfl rfl rfl)) rfl ?_
    refine r_gA hI 26 rfl rfl rfl ?_
    refine k_iload 27 rfl (gs_ne rfl rfl gs_eq) rfl ?_
    refine r_ld 24 hI 28 rfl rfl (by omega) (show x2.toInt < 8010 by omega) rfl (fun x12 (e13 : x12.toInt = A0 24 x2.toInt) => ?_)
    rw [e4] at e13
    have hk9 : x12.toInt = A0 24 (w1.toInt / 4) := e13
    by_cases b14 : x12.toInt < 1 ∨ 5 < x12.toInt
    · refine k_sw 116 rfl (if_pos b14) ?_
      refine k_push 117 rfl rfl ?_
      have hc15 : (-1 : Int32).toInt = -1 := by decide
      exact k_fin rfl rfl ⟨_, _, _, _, rfl, hI, fr1.rf, fr2.rf, ⟨p5, p6, by omega, pc, fun q _ => rfl, fun q _ => rfl, by omega, Or.inl ⟨by decide, by omega, by omega⟩⟩⟩
    · have b14 : x12.toInt = 1 ∨ x12.toInt = 2 ∨ x12.toInt = 3 ∨ x12.toInt = 4 ∨ x12.toInt = 5 := by omega
      rcases b14 with b14 | b14 | b14 | b14 | b14
      · refine k_sw 64 rfl (by unfold am_tb; rw [b14]; decide) ?_
        have hk8 : A0 24 (w1.toInt / 4) = 1 := by omega
        rw [hk8, pr_1 (by omega)] at s4
        have hl8 := htl.2.1 (Or.inl hk8)
        refine k_aload 65 rfl (gs_ne rfl rfl (gs_ne rfl rfl rfl)) rfl ?_
        refine k_iload 66 rfl (gs_ne rfl rfl gs_eq) rfl ?_
        refine k_iload 67 rfl gs_eq rfl ?_
        refine k_rq hI rfl (m_comesToFunction (gn := gn) hI.1 (show 0 ≤ x2.toInt ∧ x2.toInt < 8000 ∧ 0 ≤ (A0 25) x2.toInt ∧ (A0 25) x2.toInt ≤ 200 by rw [hn9]; omega) (show 0 ≤ x5.toInt ∧ x5.toInt ≤ 2 by omega) (show 0 ≤ (F0 50) ∧ (F0 50) ≤ 4250 by omega) (show wr A0 from p5) (show wq A0 from p6) (show (A0 2) 0 = (gn) ∧ (gn) ≤ 400 from p7) (show 0 ≤ (F0 55) ∧ (F0 55) ≤ (gn) ∧ 0 ≤ (F0 59) ∧ (F0 59) ≤ (gn) from p8) (show mk ((A0 1)) (gn) ((F0 55) + 1) from p9) (show ∀ k : Int, 0 ≤ k → k < (F0 55) → 0 ≤ (A0 51) k ∧ (A0 51) k < 8000 from fun k k1 k2 => by have := (pa k k1 k2).1; omega)) rfl rfl rfl hI.rc ?_
        rintro x16 h17 F18 A19 I20 ⟨k22, k23, p21⟩
        replace p21 : (0 ≤ F18 50 ∧ (F18 50 ≤ (F0 50) ∨ F18 50 ≤ 200)) ∧ wr A19 ∧ wq A19 ∧ (∀ q : Int, q ≠ 0 → A19 2 q = (A0 2) q) ∧ (∀ q : Int, 400 ≤ q → A19 1 q = (A0 1) q) ∧ ((x16.toInt = -1 ∧ 0 ≤ A19 2 0 ∧ A19 2 0 ≤ 400) ∨ (x16.toInt = -2 ∧ (gn) < 400 ∧ A19 2 0 = (gn) + 1 ∧ wf (A19 1) 0 ((gn) + 1)) ∨ (x5.toInt = 0 ∧ (gn) < 400 ∧ x16.toInt = 4 * x2.toInt + 1 ∧ A19 2 0 = (gn) + 1 ∧ mk (A19 1) ((gn) + 1) ((F0 55) + 1) ∧ F18 55 = (F0 55) ∧ F18 59 = (F0 59) + 1 ∧ F18 50 = (F0 50)) ∨ (x5.toInt = 2 ∧ (gn) < 400 ∧ 1 ≤ (F0 55) ∧ x16.toInt = 4 * (A0 51) ((F0 55) - 1) + 2 ∧ A19 2 0 = (gn) + 1 ∧ mk (A19 1) ((gn) + 1) ((F0 55)) ∧ F18 55 = (F0 55) - 1 ∧ F18 59 = (A0 52) ((F0 55) - 1) ∧ F18 50 = (A0 54) ((F0 55) - 1))) := p21
        obtain ⟨p21z, p21a, p21b, p21c, p21d, p21e⟩ := p21
        show am_Ok _ _ _ (70, _, [.inl x16], _, 0, 0) _
        have e24 : F18 48 = F0 48 := k22 48 (by decide)
        exact k_fin rfl rfl ⟨_, _, _, _, rfl, I20, (fr1.tr (by decide) fr1.rf k22), (fr2.tr (by decide) fr2.rf k23), ⟨p21a, p21b, by omega, fun q q1 q2 => by rw [(k23 47 (by decide))]; exact Int.le_trans (pc q q1 q2) (by omega), p21c, p21d, by omega, (p21e.elim (fun e => Or.inl e) (fun e => e.elim (fun e => Or.inr (Or.inl ⟨e.1, gn + 1, by omega, by omega, e.2.2.2⟩)) (fun e => e.elim (fun e => Or.inr (Or.inr ⟨gn + 1, out_lam (n := w1.toInt / 4) (by omega) s2 hk8 hl8 rfl (by omega) p4.2.1 e.2.2.2.2.2.2.2 (by omega), ⟨e.2.2.2.1, by omega⟩, by omega, by rw [e.2.2.2.2.2.1]; exact e.2.2.2.2.1, by rw [(k23 51 (by decide)), (k23 52 (by decide)), (k23 54 (by decide)), e.2.2.2.2.2.1]; exact pa.le (Nat.le_succ gn)⟩)) (fun e => Or.inr (Or.inr ⟨gn + 1, out_arg (m := A0 51 (F0 55 - 1)) (pa (F0 55 - 1) (by omega) (by omega)).1.1 (pa (F0 55 - 1) (by omega) (by omega)).1.2.1 (pa (F0 55 - 1) (by omega) (by omega)).1.2.2 (p2.1 _ (pa (F0 55 - 1) (by omega) (by omega)).1.1 (pa (F0 55 - 1) (by omega) (by omega)).1.2.1 (by rw [(pa (F0 55 - 1) (by omega) (by omega)).1.2.2]; decide)) (by have h9 := (pa (F0 55 - 1) (by omega) (by omega)).2.2; omega) e.2.2.2.1, ⟨e.2.2.2.2.1, by omega⟩, by have h9 := (pa (F0 55 - 1) (by omega) (by omega)).2.1; omega, by rw [show F18 55 + 1 = F0 55 by omega]; exact e.2.2.2.2.2.1, by rw [(k23 51 (by decide)), (k23 52 (by decide)), (k23 54 (by decide)), e.2.2.2.2.2.2.1]; exact (pa.le (Nat.le_succ gn)).pop⟩)))))⟩⟩
      · refine k_sw 71 rfl (by unfold am_tb; rw [b14]; decide) ?_
        have hk8 : A0 24 (w1.toInt / 4) = 2 := by omega
        rw [hk8, pr_1 (by omega)] at s4
        have hl8 := htl.2.1 (Or.inr hk8)
        refine k_iload 72 rfl gs_eq rfl ?_
        refine k_push 73 rfl rfl ?_
        have hc25 : (1 : Int32).toInt = 1 := by decide
        by_cases b26 : x5 = (1 : Int32)
        · refine k_c2 76 rfl rfl (if_pos b26) ?_
          have b26 := iv_eq.mp b26
          refine k_aload 77 rfl (gs_ne rfl rfl (gs_ne rfl rfl rfl)) rfl ?_
          refine k_push 78 rfl rfl ?_
          have hc27 : (0 : Int32).toInt = 0 := by decide
          refine k_rq hI rfl (m_reads (gn := gn) (gc := F0 55 + 1) hI.1 (show (A0 2) 0 = (gn) ∧ (gn) ≤ 400 from p7) (show mk ((A0 1)) (gn) (F0 55 + 1) from p9) (show 0 < (F0 55 + 1) by omega)) rfl rfl rfl hI.rc ?_
          rintro x28 h29 F30 A31 I32 ⟨k34, k35, p33⟩
          replace p33 : (x28.toInt = 0 ∧ A31 1 = (A0 1) ∧ A31 2 = (A0 2)) ∨ (x28.toInt = 1 ∧ (gn) < 400 ∧ A31 2 0 = (gn) + 1 ∧ mk (A31 1) ((gn) + 1) ((F0 55 + 1) + ow (0 : Int32).toInt) ∧ (∀ q : Int, q ≠ 0 → A31 2 q = (A0 2) q) ∧ (∀ q : Int, 400 ≤ q → A31 1 q = (A0 1) q)) := p33
          have k34 := fr1.nil k34
          subst k34
          have z36 := iv_01 (x := x28) (by rcases p33 with ⟨e, -⟩ | ⟨e, -⟩ <;> omega)
          show am_Ok _ _ _ (81, _, [.inl x28], _, 0, 0) _
          by_cases b37 : x28 = 0
          · refine k_c1 84 rfl rfl (if_pos b37) ?_
            have b37 := iv_eq0.mp b37
            obtain ⟨-, r1, r2⟩ := p33.resolve_right (fun z => by omega)
            refine k_push 85 rfl rfl ?_
            have hc38 : (-1 : Int32).toInt = -1 := by decide
            exact k_fin rfl rfl ⟨_, _, _, _, rfl, I32, fr1.rf, (fr2.tr (by decide) fr2.rf k35), ⟨p5.fr k35 (by decide), p6.fr k35 (by decide), by omega, fun q q1 q2 => by rw [(k35 47 (by decide))]; exact Int.le_trans (pc q q1 q2) (by omega), fun q hq => by rw [r2], fun q hq => by rw [r1], by omega, Or.inl ⟨by decide, by rw [r2]; omega, by rw [r2]; omega⟩⟩⟩
          · refine k_c1 86 rfl rfl (if_neg b37) ?_
            have b37 := mt iv_eq0.mpr b37
            obtain ⟨-, r1, r2, r3, r4, r5⟩ := p33.resolve_left (fun z => by omega)
            have r3 : mk (A31 1) (gn + 1) (F0 55 + 1 + 1) := by rw [show F0 55 + 1 + 1 = F0 55 + 1 + ow (0 : Int32).toInt by rw [show (0 : Int32).toInt = 0 by decide, ow_0]]; exact r3
            have h4n : lm w1.toInt = lm (4 * (w1.toInt / 4) + 1) := by congr 1; omega
            refine k_aload 87 rfl (gs_ne rfl rfl (gs_ne rfl rfl rfl)) rfl ?_
            refine k_iload 88 rfl (gs_ne rfl rfl gs_eq) rfl ?_
            refine k_rv I32 rfl (m_waits  I32.1 (show 0 ≤ (F0 55) ∧ (F0 55) ≤ 400 by omega) (show 0 ≤ (F0 50) ∧ (F0 50) ≤ 200 by omega) (show wr A31 from p5.fr k35 (by decide)) (show wq A31 from p6.fr k35 (by decide))) rfl rfl rfl I32.rc ?_
            rintro h40 F41 A42 I43 ⟨k45, k46, p44⟩
            replace p44 : F41 55 = (F0 55) + 1 ∧ (A42 51 ((F0 55)) = x2.toInt ∧ A42 52 ((F0 55)) = (F0 59) ∧ A42 54 ((F0 55)) = (F0 50)) ∧ (∀ q : Int, q ≠ (F0 55) → A42 51 q = (A31 51) q ∧ A42 52 q = (A31 52) q ∧ A42 54 q = (A31 54) q) ∧ wq A42 ∧ wr A42 := p44
            obtain ⟨p44a, p44b, p44c, p44d, p44e⟩ := p44
            show am_Ok _ _ _ (91, _, [], _, 0, 0) _
            refine k_push 92 rfl rfl ?_
            refine k_iload 93 rfl (gs_ne rfl rfl gs_eq) rfl ?_
            obtain ⟨x47, q48⟩ : ∃ q : Int32, q = ((4 : Int32) * x2) := ⟨_, rfl⟩
            have e49 : x47.toInt = 4 * x2.toInt := by rw [q48]; exact iv_mulc 4 (by decide) (by omega) (by omega)
            refine k_bin x47 94 rfl q48.symm rfl ?_
            have e50 : F41 48 = F0 48 := k45 48 (by decide)
            have e51 : F41 50 = F0 50 := k45 50 (by decide)
            have e52 : F41 59 = F0 59 := k45 59 (by decide)
            exact k_fin rfl rfl ⟨_, _, _, _, rfl, I43, (fr1.tr (by decide) fr1.rf k45), (fr2.tr (by decide) (fr2.tr (by decide) fr2.rf k35) k46), ⟨p44e, p44d, by omega, fun q q1 q2 => by rw [((k46 47 (by decide)).trans (k35 47 (by decide)))]; exact Int.le_trans (pc q q1 q2) (by omega), fun q hq => by rw [(k46 2 (by decide))]; exact r4 q hq, fun q hq => by rw [(k46 1 (by decide))]; exact r5 q hq, by omega, Or.inr (Or.inr ⟨gn + 1, out_app (n := w1.toInt / 4) (by omega) s2 hk8 hl8 rfl (by omega) p4.2.1 (by omega) (by omega), ⟨by rw [(k46 2 (by decide))]; exact r2, by omega⟩, by omega, by rw [(k46 1 (by decide)), p44a]; exact r3, by rw [p44a]; exact wk.push (pa.le (Nat.le_succ gn)) (fun q hq => by have e9 := p44c q hq; rw [k35 51 (by decide), k35 52 (by decide), k35 54 (by decide)] at e9; exact e9) (by rw [p44b.1, hn9]; exact ⟨by omega, s2, hk8⟩) (by rw [p44b.2.1]; omega) (by rw [p44b.2.2, p44b.1, hn9]; omega)⟩)⟩⟩
        · refine k_c2 84 rfl rfl (if_neg b26) ?_
          have b26 := mt iv_eq.mpr b26
          skip
          refine k_push 85 rfl rfl ?_
          have hc53 : (-1 : Int32).toInt = -1 := by decide
          exact k_fin rfl rfl ⟨_, _, _, _, rfl, hI, fr1.rf, fr2.rf, ⟨p5, p6, by omega, pc, fun q _ => rfl, fun q _ => rfl, by omega, Or.inl ⟨by decide, by omega, by omega⟩⟩⟩
      · refine k_sw 95 rfl (by unfold am_tb; rw [b14]; decide) ?_
        have hk8 : A0 24 (w1.toInt / 4) = 3 := by omega
        rw [hk8, pr_1 (by omega)] at s4
        have hl8 := htl.2.2.1 hk8
        refine k_aload 96 rfl (gs_ne rfl rfl (gs_ne rfl rfl rfl)) rfl ?_
        refine k_iload 97 rfl (gs_ne rfl rfl gs_eq) rfl ?_
        refine k_iload 98 rfl gs_eq rfl ?_
        refine k_rq hI rfl (m_comesToFan  hI.1 (show 0 ≤ x2.toInt ∧ x2.toInt < 8000 ∧ 0 ≤ (A0 25) x2.toInt ∧ (A0 25) x2.toInt ≤ 200 by rw [hn9]; omega) (show 0 ≤ x5.toInt ∧ x5.toInt ≤ 2 by omega) (show 0 ≤ (F0 50) ∧ (F0 50) ≤ 4250 by omega) (show wr A0 from p5) (show 0 ≤ (F0 48) ∧ (F0 48) ≤ 3999 from pb) (show ∀ q : Int, 0 ≤ q → q < 16384 → (A0 47) q ≤ (F0 48) from pc)) rfl rfl rfl hI.rc ?_
        rintro x54 h55 F56 A57 I58 ⟨k60, k61, p59⟩
        replace p59 : (x54.toInt = -1 ∨ (4 * x2.toInt ≤ x54.toInt ∧ x54.toInt ≤ 4 * x2.toInt + 2)) ∧ (F56 50 ≤ (F0 50) ∨ F56 50 ≤ (A0 25) x2.toInt + 1) ∧ wr A57 ∧ (F0 48) ≤ F56 48 ∧ F56 48 ≤ (F0 48) + 1 ∧ (∀ q : Int, 0 ≤ q → q < 16384 → A57 47 q ≤ F56 48) ∧ 0 ≤ F56 50 := p59
        obtain ⟨p59a, p59b, p59c, p59d, p59e, p59f, p59g⟩ := p59
        show am_Ok _ _ _ (101, _, [.inl x54], _, 0, 0) _
        rw [hn9] at p59a p59b
        have e62 : F56 55 = F0 55 := k60 55 (by decide)
        have e63 : F56 59 = F0 59 := k60 59 (by decide)
        exact k_fin rfl rfl ⟨_, _, _, _, rfl, I58, (fr1.tr (by decide) fr1.rf k60), (fr2.tr (by decide) fr2.rf k61), ⟨p59c, p6.fr k61 (by decide), ⟨p59d, p59e⟩, p59f, fun q hq => by rw [(k61 2 (by decide))], fun q hq => by rw [(k61 1 (by decide))], ⟨p59g, by omega⟩, p59a.elim (fun e => Or.inl ⟨e, by rw [(k61 2 (by decide))]; omega, by rw [(k61 2 (by decide))]; omega⟩) (fun e => Or.inr (Or.inr ⟨gn, out_fan (n := w1.toInt / 4) (by omega) s2 hk8 hl8 rfl s4 p4.2.1 p59b (by omega), ⟨by rw [(k61 2 (by decide))]; exact p7.1, p7.2⟩, by omega, by rw [(k61 1 (by decide)), show F56 55 = F0 55 by omega]; exact p9, by rw [(k61 51 (by decide)), (k61 52 (by decide)), (k61 54 (by decide)), show F56 55 = F0 55 by omega]; exact pa⟩))⟩⟩
      · refine k_sw 102 rfl (by unfold am_tb; rw [b14]; decide) ?_
        have hk8 : A0 24 (w1.toInt / 4) = 4 := by omega
        rw [hk8, pr_2 (by omega)] at s4
        have hl8 := htl.2.2.2.1 hk8
        refine k_aload 103 rfl (gs_ne rfl rfl (gs_ne rfl rfl rfl)) rfl ?_
        refine k_iload 104 rfl (gs_ne rfl rfl gs_eq) rfl ?_
        refine k_iload 105 rfl gs_eq rfl ?_
        refine k_rq hI rfl (m_comesToBracket  hI.1 (show 0 ≤ x2.toInt ∧ x2.toInt < 8000 ∧ 0 ≤ (A0 25) x2.toInt ∧ (A0 25) x2.toInt ≤ 200 by rw [hn9]; omega) (show 0 ≤ x5.toInt ∧ x5.toInt ≤ 2 by omega) (show 0 ≤ (F0 50) ∧ (F0 50) ≤ 4250 by omega) (show wr A0 from p5) (show 0 ≤ (F0 48) ∧ (F0 48) ≤ 3999 from pb) (show ∀ q : Int, 0 ≤ q → q < 16384 → (A0 47) q ≤ (F0 48) from pc)) rfl rfl rfl hI.rc ?_
        rintro x64 h65 F66 A67 I68 ⟨k70, k71, p69⟩
        replace p69 : (x64.toInt = -1 ∨ (x5.toInt = 1 ∧ x64.toInt = 4 * x2.toInt ∧ (F66 50 ≤ (F0 50) - 1 ∨ F66 50 ≤ (A0 25) x2.toInt + 1)) ∨ (x5.toInt ≠ 1 ∧ x64.toInt = 4 * x2.toInt + 1 ∧ (F66 50 ≤ (F0 50) + 1 ∨ F66 50 ≤ (A0 25) x2.toInt + 2))) ∧ (F66 50 ≤ (F0 50) + 1 ∨ F66 50 ≤ 202) ∧ wr A67 ∧ (F0 48) ≤ F66 48 ∧ F66 48 ≤ (F0 48) + 1 ∧ (∀ q : Int, 0 ≤ q → q < 16384 → A67 47 q ≤ F66 48) ∧ 0 ≤ F66 50 := p69
        obtain ⟨p69a, p69b, p69c, p69d, p69e, p69f, p69g⟩ := p69
        show am_Ok _ _ _ (108, _, [.inl x64], _, 0, 0) _
        rw [hn9] at p69a
        have e72 : F66 55 = F0 55 := k70 55 (by decide)
        have e73 : F66 59 = F0 59 := k70 59 (by decide)
        exact k_fin rfl rfl ⟨_, _, _, _, rfl, I68, (fr1.tr (by decide) fr1.rf k70), (fr2.tr (by decide) fr2.rf k71), ⟨p69c, p6.fr k71 (by decide), ⟨p69d, p69e⟩, p69f, fun q hq => by rw [(k71 2 (by decide))], fun q hq => by rw [(k71 1 (by decide))], ⟨p69g, by omega⟩, p69a.elim (fun e => Or.inl ⟨e, by rw [(k71 2 (by decide))]; omega, by rw [(k71 2 (by decide))]; omega⟩) (fun e => Or.inr (Or.inr ⟨gn, e.elim (fun e => out_br1 (n := w1.toInt / 4) (by omega) s2 hk8 hl8 rfl (by omega) p4.2.1 e.2.2 (by omega)) (fun e => out_br0 (n := w1.toInt / 4) (by omega) s2 hk8 hl8 rfl (by omega) p4.2.1 e.2.2 (by omega)), ⟨by rw [(k71 2 (by decide))]; exact p7.1, p7.2⟩, by omega, by rw [(k71 1 (by decide)), show F66 55 = F0 55 by omega]; exact p9, by rw [(k71 51 (by decide)), (k71 52 (by decide)), (k71 54 (by decide)), show F66 55 = F0 55 by omega]; exact pa⟩))⟩⟩
      · refine k_sw 109 rfl (by unfold am_tb; rw [b14]; decide) ?_
        have hk8 : A0 24 (w1.toInt / 4) = 5 := by omega
        rw [hk8, pr_2 (by omega)] at s4
        have hl8 := htl.2.2.2.2 hk8
        refine k_aload 110 rfl (gs_ne rfl rfl (gs_ne rfl rfl rfl)) rfl ?_
        refine k_iload 111 rfl (gs_ne rfl rfl gs_eq) rfl ?_
        refine k_iload 112 rfl gs_eq rfl ?_
        refine k_rq hI rfl (m_comesToCurl  hI.1 (show 0 ≤ x2.toInt ∧ x2.toInt < 8000 ∧ 0 ≤ (A0 25) x2.toInt ∧ (A0 25) x2.toInt ≤ 200 by rw [hn9]; omega) (show 0 ≤ x5.toInt ∧ x5.toInt ≤ 2 by omega) (show 0 ≤ (F0 50) ∧ (F0 50) ≤ 4250 by omega) (show wr A0 from p5) (show 0 ≤ (F0 48) ∧ (F0 48) ≤ 3999 from pb) (show ∀ q : Int, 0 ≤ q → q < 16384 → (A0 47) q ≤ (F0 48) from pc)) rfl rfl rfl hI.rc ?_
        rintro x74 h75 F76 A77 I78 ⟨k80, k81, p79⟩
        replace p79 : (x74.toInt = -1 ∨ (x5.toInt = 1 ∧ x74.toInt = 4 * x2.toInt ∧ F76 50 ≤ (F0 50) + 1) ∨ (x5.toInt ≠ 1 ∧ x74.toInt = 4 * x2.toInt + 1 ∧ (F76 50 ≤ (F0 50) - 1 ∨ F76 50 ≤ (A0 25) x2.toInt))) ∧ (F76 50 ≤ (F0 50) + 1 ∨ F76 50 ≤ 202) ∧ wr A77 ∧ (F0 48) ≤ F76 48 ∧ F76 48 ≤ (F0 48) + 1 ∧ (∀ q : Int, 0 ≤ q → q < 16384 → A77 47 q ≤ F76 48) ∧ 0 ≤ F76 50 := p79
        obtain ⟨p79a, p79b, p79c, p79d, p79e, p79f, p79g⟩ := p79
        show am_Ok _ _ _ (115, _, [.inl x74], _, 0, 0) _
        rw [hn9] at p79a
        have e82 : F76 55 = F0 55 := k80 55 (by decide)
        have e83 : F76 59 = F0 59 := k80 59 (by decide)
        exact k_fin rfl rfl ⟨_, _, _, _, rfl, I78, (fr1.tr (by decide) fr1.rf k80), (fr2.tr (by decide) fr2.rf k81), ⟨p79c, p6.fr k81 (by decide), ⟨p79d, p79e⟩, p79f, fun q hq => by rw [(k81 2 (by decide))], fun q hq => by rw [(k81 1 (by decide))], ⟨p79g, by omega⟩, p79a.elim (fun e => Or.inl ⟨e, by rw [(k81 2 (by decide))]; omega, by rw [(k81 2 (by decide))]; omega⟩) (fun e => Or.inr (Or.inr ⟨gn, e.elim (fun e => out_cu1 (n := w1.toInt / 4) (by omega) s2 hk8 hl8 rfl (by omega) p4.2.1 e.2.2 (by omega)) (fun e => out_cu0 (n := w1.toInt / 4) (by omega) s2 hk8 hl8 rfl (by omega) p4.2.1 e.2.2 (by omega)), ⟨by rw [(k81 2 (by decide))]; exact p7.1, p7.2⟩, by omega, by rw [(k81 1 (by decide)), show F76 55 = F0 55 by omega]; exact p9, by rw [(k81 51 (by decide)), (k81 52 (by decide)), (k81 54 (by decide)), show F76 55 = F0 55 by omega]; exact pa⟩))⟩⟩
  · refine k_c2 20 rfl rfl (if_neg b11) ?_
    have b11 := mt iv_le.mpr b11
    refine k_push 21 rfl rfl ?_
    have hc84 : (-1 : Int32).toInt = -1 := by decide
    exact k_fin rfl rfl ⟨_, _, _, _, rfl, hI, fr1.rf, fr2.rf, ⟨p5, p6, by omega, pc, fun q _ => rfl, fun q _ => rfl, by omega, Or.inl ⟨by decide, by omega, by omega⟩⟩⟩
end
