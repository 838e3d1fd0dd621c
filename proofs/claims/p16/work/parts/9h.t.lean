section
theorem m_isTelling {h0 : am_h} {F0 : rf_f} {A0 : rf_A} {tx : List Int} (hR : rf_R h0 F0 A0) (p1 : 0 ≤ F0 8 ∧ F0 8 ≤ F0 7 ∧ F0 7 ≤ 700) (pT : TP tx (F0 7) (A0 3)) : am_Mt 3 183 [.inr (.inr (some 81))] h0 (rf_Q h0 (fun x F' A' => fr1 [] F0 F' ∧ fr2 [] A0 A' ∧ ((x = 1 ∧ F0 6 = 0 ∧ F0 9 = 1 ∧ tO tx (F0 8) = 61) ∨ (x = 0 ∧ ¬ (F0 6 = 0 ∧ F0 9 = 1 ∧ tO tx (F0 8) = 61))))) := by
  refine am_Mt.of (D := 2) ?_
  have hI : rf_I h0 h0 F0 A0 := rf_I.start hR
  refine k_aload 1 rfl rfl rfl ?_
  refine k_in (d := 0) rfl rfl rfl rfl hI.rc ?_
  refine k_aload 1 rfl rfl rfl ?_
  refine r_gI hI 4 rfl rfl rfl (fun x1 (e2 : x1.toInt = F0 6) => ?_)
  by_cases b3 : x1 = 0
  · refine k_c1 7 rfl rfl (if_pos b3) ?_
    have b3 := iv_eq0.mp b3
    refine k_push 8 rfl rfl ?_
    have hc4 : (1 : Int32).toInt = 1 := by decide
    refine k_goto 12 rfl rfl ?_
    refine k_fin rfl (fin_Z (Or.inr rfl)) ⟨_, _, rfl, rf_len hI hI, ?_⟩
    show am_Ok _ _ _ (4, _, [.inl (1 : Int32)], _, 0, 0) _
    refine k_c1 7 rfl rfl (if_neg (by decide)) ?_
    refine k_aload 8 rfl rfl rfl ?_
    refine r_gI hI 11 rfl rfl rfl (fun x5 (e6 : x5.toInt = F0 9) => ?_)
    refine k_push 12 rfl rfl ?_
    by_cases b7 : x5 = (1 : Int32)
    · refine k_c2 15 rfl rfl (if_pos b7) ?_
      have b7 := iv_eq.mp b7
      refine k_aload 16 rfl rfl rfl ?_
      refine k_aload 17 rfl rfl rfl ?_
      refine k_aload 18 rfl rfl rfl ?_
      refine r_gI hI 21 rfl rfl rfl (fun x8 (e9 : x8.toInt = F0 8) => ?_)
      refine k_rq hI rfl (m_blanksFrom  hI.1 (show 0 ≤ x8.toInt ∧ x8.toInt ≤ (F0 7) ∧ (F0 7) ≤ 700 by omega) (show TP tx ((F0 7)) ((A0 3)) from pT)) rfl rfl rfl hI.rc ?_
      rintro x10 h11 F12 A13 I14 ⟨k16, k17, pq15⟩
      replace pq15 : (x8.toInt ≤ x10.toInt ∧ x10.toInt ≤ (F0 7)) ∧ x10.toInt = tS tx x8.toInt := pq15
      obtain ⟨pq15a, pq15b⟩ := pq15
      have k16 := fr1.nil k16
      subst k16
      have k17 := fr2.nil k17
      subst k17
      show am_Ok _ _ _ (24, _, [.inl x10, .inr (.inr (some 81))], _, 0, 0) _
      have hts : x10.toInt = tS tx (F0 8) := pq15b.trans (congrArg (tS tx) (by omega))
      refine k_rq I14 rfl (m_byteAt  I14.1 (show 0 ≤ x10.toInt ∧ (F0 7) ≤ 700 by omega)) rfl rfl rfl I14.rc ?_
      rintro x18 h19 F20 A21 I22 ⟨k24, k25, pq23⟩
      replace pq23 : (x10.toInt < (F0 7) ∧ x18.toInt = (A0 3) x10.toInt) ∨ ((F0 7) ≤ x10.toInt ∧ x18.toInt = -1) := pq23
      have k24 := fr1.nil k24
      subst k24
      have k25 := fr2.nil k25
      subst k25
      show am_Ok _ _ _ (27, _, [.inl x18], _, 0, 0) _
      have hby := pq23
      rw [hts] at hby
      have h61 := tk_61 pT (by omega) (by omega) hby
      refine k_push 29 rfl rfl ?_
      have hc26 : (61 : Int32).toInt = 61 := by decide
      by_cases b27 : x18 = (61 : Int32)
      · refine k_c2 32 rfl rfl (if_pos b27) ?_
        have b27 := iv_eq.mp b27
        refine k_push 33 rfl rfl ?_
        refine k_goto 37 rfl rfl ?_
        exact k_fin rfl (fin_Z (Or.inr rfl)) ⟨_, _, _, _, rfl, I22, fr1.rf, fr2.rf, show ((1 : Int32).toInt = 1 ∧ F0 6 = 0 ∧ F0 9 = 1 ∧ tO tx (F0 8) = 61) ∨ ((1 : Int32).toInt = 0 ∧ ¬ (F0 6 = 0 ∧ F0 9 = 1 ∧ tO tx (F0 8) = 61)) by omega⟩
      · refine k_c2 36 rfl rfl (if_neg b27) ?_
        have b27 := mt iv_eq.mpr b27
        refine k_push 37 rfl rfl ?_
        have hc28 : (0 : Int32).toInt = 0 := by decide
        exact k_fin rfl (fin_Z (Or.inl rfl)) ⟨_, _, _, _, rfl, I22, fr1.rf, fr2.rf, show ((0 : Int32).toInt = 1 ∧ F0 6 = 0 ∧ F0 9 = 1 ∧ tO tx (F0 8) = 61) ∨ ((0 : Int32).toInt = 0 ∧ ¬ (F0 6 = 0 ∧ F0 9 = 1 ∧ tO tx (F0 8) = 61)) by omega⟩
    · refine k_c2 36 rfl rfl (if_neg b7) ?_
      have b7 := mt iv_eq.mpr b7
      refine k_push 37 rfl rfl ?_
      have hc29 : (0 : Int32).toInt = 0 := by decide
      exact k_fin rfl (fin_Z (Or.inl rfl)) ⟨_, _, _, _, rfl, hI, fr1.rf, fr2.rf, show ((0 : Int32).toInt = 1 ∧ F0 6 = 0 ∧ F0 9 = 1 ∧ tO tx (F0 8) = 61) ∨ ((0 : Int32).toInt = 0 ∧ ¬ (F0 6 = 0 ∧ F0 9 = 1 ∧ tO tx (F0 8) = 61)) by omega⟩
  · refine k_c1 11 rfl rfl (if_neg b3) ?_
    have b3 := mt iv_eq0.mpr b3
    refine k_push 12 rfl rfl ?_
    have hc30 : (0 : Int32).toInt = 0 := by decide
    refine k_fin rfl (fin_Z (Or.inl rfl)) ⟨_, _, rfl, rf_len hI hI, ?_⟩
    show am_Ok _ _ _ (4, _, [.inl (0 : Int32)], _, 0, 0) _
    refine k_c1 36 rfl rfl (if_pos (by decide)) ?_
    refine k_push 37 rfl rfl ?_
    exact k_fin rfl (fin_Z (Or.inl rfl)) ⟨_, _, _, _, rfl, hI, fr1.rf, fr2.rf, show ((0 : Int32).toInt = 1 ∧ F0 6 = 0 ∧ F0 9 = 1 ∧ tO tx (F0 8) = 61) ∨ ((0 : Int32).toInt = 0 ∧ ¬ (F0 6 = 0 ∧ F0 9 = 1 ∧ tO tx (F0 8) = 61)) by omega⟩
end
