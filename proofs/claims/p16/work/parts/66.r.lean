section
theorem it_w {A : rf_A} {x : Int} (h : ∃ n' : Nat, n' ≤ 400 ∧ A 2 0 = n' ∧ (x = 1 → wf (A 1) 0 n')) (hx : x = 1) : ∃ n' : Nat, n' ≤ 1000 ∧ A 2 0 = n' ∧ wf (A 1) (1300 * 0) n' := by
  obtain ⟨n, h1, h2, h3⟩ := h
  exact ⟨n, by omega, h2, h3 hx⟩
theorem m_isTerm {h0 : am_h} {F0 : rf_f} {A0 : rf_A} {w1 : Int32} {lm : Int → Int} {gT : Int} {gt : Nat} (hR : rf_R h0 F0 A0) (p1 : nn (A0 24) (A0 25) (F0 28) gT) (p2 : nw (A0 24) (A0 25) (A0 26) lm (F0 28)) (p5 : wr A0) (p6 : wq A0) (p7 : A0 2 2 = gt ∧ 1 ≤ gt ∧ gt ≤ 120) (p8 : wf (A0 1) 2600 gt) (p9 : cb (A0 1) 2600 gt 200) (pw : 0 ≤ w1.toInt ∧ w1.toInt ≤ 2) : am_Mt 7 245 [.inr (.inr (some 81)), .inl w1] h0 (rf_Q h0 (fun x F' A' => fr1 [59, 55, 50, 48, 62, 63, 64, 65, 67, 70, 71] F0 F' ∧ fr2 [1, 2, 56, 57, 58, 61, 49, 51, 52, 53, 54, 60, 43, 44, 45, 46, 47, 66, 68, 69] A0 A' ∧ ((x = 0 ∨ x = 1) ∧ (x = 1 → ∃ n' : Nat, n' ≤ 1000 ∧ A' 2 w1.toInt = n' ∧ wf (A' 1) (1300 * w1.toInt) n') ∧ wr A' ∧ wq A' ∧ (∀ q : Int, q ≠ w1.toInt → A' 2 q = A0 2 q) ∧ (∀ q : Int, (0 ≤ q ∧ q < 1300 * w1.toInt) ∨ 1300 * w1.toInt + 1300 ≤ q → A' 1 q = A0 1 q) ∧ A' 2 2 = A0 2 2 ∧ (∀ q : Int, 2600 ≤ q → A' 1 q = A0 1 q)))) := by
  refine am_Mt.of (D := 6) ?_
  have hI : rf_I h0 h0 F0 A0 := rf_I.start hR
  refine k_iload 1 rfl rfl rfl ?_
  by_cases b1 : w1 = 0
  · refine k_c1 4 rfl rfl (if_pos b1) ?_
    have b1 := iv_eq0.mp b1
    refine k_aload 5 rfl rfl rfl ?_
    refine k_rv hI rfl (m_walks (lm := lm) (gT := gT) hI.1 (show nn ((A0 24)) ((A0 25)) ((F0 28)) (gT) from p1) (show nw ((A0 24)) ((A0 25)) ((A0 26)) (lm) ((F0 28)) from p2) (show wr A0 from p5) (show wq A0 from p6)) rfl rfl rfl hI.rc ?_
    rintro h3 F4 A5 I6 ⟨k8, k9, p7⟩
    replace p7 : wr A5 ∧ wq A5 ∧ (∀ q : Int, q ≠ 0 → A5 2 q = (A0 2) q) ∧ (∀ q : Int, 400 ≤ q → A5 1 q = (A0 1) q) ∧ (∃ n' : Nat, n' ≤ 400 ∧ A5 2 0 = n' ∧ (F4 65 = 1 → wf (A5 1) 0 n')) ∧ (F4 65 = 0 ∨ F4 65 = 1) ∧ (F4 63 = -1 ∨ ∃ m, act ((A0 24)) ((A0 26)) ((F0 28)) (F4 63) m) := p7
    obtain ⟨p7a, p7b, p7c, p7d, p7e, p7f, p7g⟩ := p7
    show am_Ok _ _ _ (8, _, [], _, 0, 0) _
    refine k_aload 9 rfl rfl rfl ?_
    refine r_gZ I6 12 rfl rfl rfl (fun x10 (e11 : x10.toInt = F4 65) z12 => ?_)
    exact k_fin rfl (fin_Z z12) ⟨_, _, _, _, rfl, I6, (fr1.tr (by decide) fr1.rf k8), (fr2.tr (by decide) fr2.rf k9), (by rw [show w1.toInt = 0 by omega]; exact ⟨by omega, fun z => it_w p7e (by omega), p7a, p7b, p7c, fun q hq => p7d q (by omega), p7c 2 (by decide), fun q hq => p7d q (by omega)⟩)⟩
  · refine k_c1 13 rfl rfl (if_neg b1) ?_
    have b1 := mt iv_eq0.mpr b1
    refine k_iload 14 rfl rfl rfl ?_
    refine k_push 15 rfl rfl ?_
    have hc13 : (2 : Int32).toInt = 2 := by decide
    by_cases b14 : w1 = (2 : Int32)
    · refine k_c2 35 rfl rfl (if_pos b14) ?_
      have b14 := iv_eq.mp b14
      refine k_push 36 rfl rfl ?_
      have hc15 : (1 : Int32).toInt = 1 := by decide
      refine k_goto 40 rfl rfl ?_
      exact k_fin rfl (fin_Z (Or.inr rfl)) ⟨_, _, _, _, rfl, hI, fr1.rf, fr2.rf, (by rw [show w1.toInt = 2 by omega]; exact ⟨Or.inr (by decide), fun _ => ⟨gt, by omega, p7.1, p8⟩, p5, p6, fun q _ => rfl, fun q _ => rfl, rfl, fun q _ => rfl⟩)⟩
    · refine k_c2 18 rfl rfl (if_neg b14) ?_
      have b14 := mt iv_eq.mpr b14
      have e1 : w1.toInt = 1 := by omega
      refine k_aload 19 rfl rfl rfl ?_
      refine k_push 22 rfl rfl ?_
      have hc16 : (200 : Int32).toInt = 200 := by decide
      refine k_rq hI rfl (m_goesPlain (gt := gt) hI.1 (show (A0 2) 2 = (gt) ∧ 1 ≤ (gt) ∧ (gt) ≤ 120 from p7) (show wf ((A0 1)) 2600 (gt) from p8) (show cb ((A0 1)) 2600 (gt) 200 from p9) (show (200 : Int32).toInt ≤ 200 by decide)) rfl rfl rfl hI.rc ?_
      rintro x17 h18 F19 A20 I21 ⟨k23, k24, p22⟩
      replace p22 : (x17.toInt = 0 ∨ x17.toInt = 1) ∧ (x17.toInt = 1 → ∃ n' : Nat, n' ≤ 1000 ∧ A20 2 1 = n' ∧ wf (A20 1) 1300 n') ∧ (∀ q : Int, (q < 1300 ∨ 2600 ≤ q) → A20 1 q = (A0 1) q) ∧ (∀ q : Int, q ≠ 1 → A20 2 q = (A0 2) q) := p22
      obtain ⟨p22a, p22b, p22c, p22d⟩ := p22
      have z25 := iv_01 (x := x17) p22a
      show am_Ok _ _ _ (25, _, [.inl x17], _, 0, 0) _
      by_cases b26 : x17 = 0
      · refine k_c1 39 rfl rfl (if_pos b26) ?_
        have b26 := iv_eq0.mp b26
        refine k_push 40 rfl rfl ?_
        have hc27 : (0 : Int32).toInt = 0 := by decide
        exact k_fin rfl (fin_Z (Or.inl rfl)) ⟨_, _, _, _, rfl, I21, (fr1.tr (by decide) fr1.rf k23), (fr2.tr (by decide) fr2.rf k24), (by rw [e1]; exact ⟨by first | exact Or.inl (by decide) | exact Or.inr (by decide), fun z => by first | exact absurd z (by decide) | exact p22b hx1, p5.fr k24 (by decide), p6.fr k24 (by decide), p22d, fun q hq => p22c q (by clear p22b; omega), p22d 2 (by decide), fun q hq => p22c q (Or.inr hq)⟩)⟩
      · refine k_c1 28 rfl rfl (if_neg b26) ?_
        have b26 := mt iv_eq0.mpr b26
        have hx1 := (p22a).resolve_left (by assumption)
        refine k_aload 29 rfl rfl rfl ?_
        refine r_gZ I21 32 rfl rfl rfl (fun x28 (e29 : x28.toInt = F19 71) z30 => ?_)
        by_cases b31 : x28 = 0
        · refine k_c1 39 rfl rfl (if_pos b31) ?_
          have b31 := iv_eq0.mp b31
          refine k_push 40 rfl rfl ?_
          have hc32 : (0 : Int32).toInt = 0 := by decide
          exact k_fin rfl (fin_Z (Or.inl rfl)) ⟨_, _, _, _, rfl, I21, (fr1.tr (by decide) fr1.rf k23), (fr2.tr (by decide) fr2.rf k24), (by rw [e1]; exact ⟨by first | exact Or.inl (by decide) | exact Or.inr (by decide), fun z => by first | exact absurd z (by decide) | exact p22b hx1, p5.fr k24 (by decide), p6.fr k24 (by decide), p22d, fun q hq => p22c q (by clear p22b; omega), p22d 2 (by decide), fun q hq => p22c q (Or.inr hq)⟩)⟩
        · refine k_c1 35 rfl rfl (if_neg b31) ?_
          have b31 := mt iv_eq0.mpr b31
          refine k_push 36 rfl rfl ?_
          have hc33 : (1 : Int32).toInt = 1 := by decide
          refine k_goto 40 rfl rfl ?_
          exact k_fin rfl (fin_Z (Or.inr rfl)) ⟨_, _, _, _, rfl, I21, (fr1.tr (by decide) fr1.rf k23), (fr2.tr (by decide) fr2.rf k24), (by rw [e1]; exact ⟨by first | exact Or.inl (by decide) | exact Or.inr (by decide), fun z => by first | exact absurd z (by decide) | exact p22b hx1, p5.fr k24 (by decide), p6.fr k24 (by decide), p22d, fun q hq => p22c q (by clear p22b; omega), p22d 2 (by decide), fun q hq => p22c q (Or.inr hq)⟩)⟩
end
