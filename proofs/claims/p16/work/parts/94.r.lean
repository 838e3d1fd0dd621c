section
theorem lp_fill {A : rf_A} {s n m i x : Int} {a : Nat} (h : ∀ q : Int, s ≤ q → q < s + n → A a q = -1) (hi : i = s + n) (hm : m = n + 1) (hx : x = -1) : ∀ q : Int, s ≤ q → q < s + m → up2 A a i x a q = -1 := by
  intro q h1 h2
  by_cases z : q = i
  · rw [z]
    exact up2_eq.trans hx
  · rw [up2_ne z]
    exact h q h1 (by omega)
theorem b_X10_laysPart_3 {h0 : am_h} {F0 : rf_f} {A0 : rf_A} {w1 : Int32} {w2 : Int32} {w3 : Int32} {gk gn : Nat} {lm : Int → Int} {gM : Int → Prop} (hrec : ∀ {h0 : am_h} {F0 : rf_f} {A0 : rf_A} {w1 w2 w3 : Int32} {gn : Nat} {lm : Int → Int} {gM : Int → Prop}, rf_R h0 F0 A0 → (sc (A0 1) gk w2.toInt (2600 + F0 30) gn) → (0 ≤ w1.toInt ∧ w1.toInt + gn ≤ 121 ∧ 0 ≤ w2.toInt ∧ w2.toInt + gn ≤ 121 ∧ 0 ≤ w3.toInt ∧ w3.toInt + gn ≤ 121) → (0 ≤ F0 30 ∧ F0 30 + gn ≤ 120) → (ly (A0 24) (A0 25) (A0 26) lm (F0 28) 200 gM) → (F0 27 = F0 28 ∧ 4 * F0 28 + nb gn ≤ 32000) → am_Mt (2 * gk) 193 [.inr (.inr (some 81)), .inl w1, .inl w2, .inl w3] h0 (rf_Q h0 (fun x F' A' => fr1 [27, 28, 30] F0 F' ∧ fr2 [24, 25, 26, 29] A0 A' ∧ ((F' 27 = F' 28 ∧ F0 28 ≤ F' 28 ∧ 4 * F' 28 ≤ 4 * F0 28 + nb gn ∧ F' 30 = F0 30 + gn) ∧ (4 * F0 28 ≤ x ∧ x < 4 * F' 28) ∧ (∀ q : Int, q < 122 * w3.toInt → A' 29 q = A0 29 q) ∧ 2 * ce (A' 29) (122 * w3.toInt) w2.toInt.toNat ≤ gn + 1 ∧ F' 28 = F0 28 + (cs (A0 1) gk w2.toInt (2600 + F0 30) : Int) ∧ (∀ v : Int, 0 ≤ v → v < w2.toInt → (A' 29 (122 * w3.toInt + v) ≠ -1 ↔ us (A0 1) gk w2.toInt (2600 + F0 30) v = true)) ∧ (∃ lm', lw (A' 24) (A' 25) (A' 26) lm' (F' 28) 200 (fun p => gM p ∨ p = x) (A' 29) (fr w3.toInt w2.toInt) (fun _ => w1.toInt + 1) (F0 28) ∧ (∀ p : Int, p < 4 * F0 28 → lm' p = lm p) ∧ lm' x = w1.toInt))))) (p1 : sc (A0 1) (gk + 1) w2.toInt (2600 + F0 30) gn) (p2 : 0 ≤ w1.toInt ∧ w1.toInt + gn ≤ 121 ∧ 0 ≤ w2.toInt ∧ w2.toInt + gn ≤ 121 ∧ 0 ≤ w3.toInt ∧ w3.toInt + gn ≤ 121) (p3 : 0 ≤ F0 30 ∧ F0 30 + gn ≤ 120) (p4 : ly (A0 24) (A0 25) (A0 26) lm (F0 28) 200 gM) (p5 : F0 27 = F0 28 ∧ 4 * F0 28 + nb gn ≤ 32000) : ∀ (n : Nat) {lv : am_l} {h : am_h} {F : rf_f} {A : rf_A} {v1 : Int32} {v2 : Int32} {v3 : Int32} {v4 : Int32}, ((121 - v4.toInt).toNat) = n → am_get lv 0 = some (.inr (.inr (some 81))) → am_get lv 1 = some (.inl v1) → am_get lv 2 = some (.inl v2) → am_get lv 3 = some (.inl v3) → am_get lv 4 = some (.inl v4) → rf_I h0 h F A → fr1 [27, 28, 30] F0 F → fr2 [24, 25, 26, 29] A0 A → (v1.toInt = w1.toInt ∧ v2.toInt = w2.toInt ∧ v3.toInt = w3.toInt ∧ 0 ≤ v4.toInt ∧ v4.toInt ≤ w2.toInt) → (∀ q : Int, 122 * w3.toInt ≤ q → q < 122 * w3.toInt + v4.toInt → A 29 q = -1) → (∀ q : Int, q < 122 * w3.toInt → A 29 q = A0 29 q) → (A 24 = A0 24 ∧ A 25 = A0 25 ∧ A 26 = A0 26) → (F 27 = F0 27 ∧ F 28 = F0 28 ∧ F 30 = F0 30) → am_Ok am_G (2 * gk + 1) 193 (3, lv, [], h, 0, 0) (rf_Q h0 (fun x F' A' => fr1 [27, 28, 30] F0 F' ∧ fr2 [24, 25, 26, 29] A0 A' ∧ ((F' 27 = F' 28 ∧ F0 28 ≤ F' 28 ∧ 4 * F' 28 ≤ 4 * F0 28 + nb gn ∧ F' 30 = F0 30 + gn) ∧ (4 * F0 28 ≤ x ∧ x < 4 * F' 28) ∧ (∀ q : Int, q < 122 * w3.toInt → A' 29 q = A0 29 q) ∧ 2 * ce (A' 29) (122 * w3.toInt) w2.toInt.toNat ≤ gn + 1 ∧ F' 28 = F0 28 + (cs (A0 1) (gk + 1) w2.toInt (2600 + F0 30) : Int) ∧ (∀ v : Int, 0 ≤ v → v < w2.toInt → (A' 29 (122 * w3.toInt + v) ≠ -1 ↔ us (A0 1) (gk + 1) w2.toInt (2600 + F0 30) v = true)) ∧ (∃ lm', lw (A' 24) (A' 25) (A' 26) lm' (F' 28) 200 (fun p => gM p ∨ p = x) (A' 29) (fr w3.toInt w2.toInt) (fun _ => w1.toInt + 1) (F0 28) ∧ (∀ p : Int, p < 4 * F0 28 → lm' p = lm p) ∧ lm' x = w1.toInt)))) := by
  intro n
  induction n using Nat.strongRecOn with
  | ind n ih =>
    intro lv h F A v1 v2 v3 v4 hn g0 g1 g2 g3 g4 hI hF hA i1 i2 i3 i4 i5
    have hn1 := sc_n p1
    have hgk := sc_pos p1
    have hnp := nb_pos gn
    have hb1 := p4.1.2.2
    have hM0 : ∀ p : Int, gM p → p < 4 * F0 28 := fun p z => (p4.lt z).2
    refine k_iload 5 rfl g4 rfl ?_
    refine k_iload 6 rfl g2 rfl ?_
    by_cases b1 : v2 ≤ v4
    · refine k_c2 28 rfl rfl (if_pos b1) ?_
      have b1 := iv_le.mp b1
      refine k_aload 29 rfl g0 rfl ?_
      refine r_gA hI 32 rfl rfl rfl ?_
      refine k_push 35 rfl rfl ?_
      have hc2 : (2600 : Int32).toInt = 2600 := by decide
      refine k_aload 36 rfl g0 rfl ?_
      refine r_gI hI 39 rfl rfl rfl (fun x3 (e4 : x3.toInt = F 30) => ?_)
      obtain ⟨x5, q6⟩ : ∃ q : Int32, q = ((2600 : Int32) + x3) := ⟨_, rfl⟩
      have e7 : x5.toInt = 2600 + x3.toInt := by rw [q6, iv_add (by omega) (by omega)]; omega
      refine k_bin x5 40 rfl q6.symm rfl ?_
      refine r_ld 1 hI 41 rfl rfl (by omega) (show x5.toInt < 3900 by omega) rfl (fun x8 (e9 : x8.toInt = A 1 x5.toInt) => ?_)
      rw [e7] at e9
      have e10 : A 1 = A0 1 := hA 1 (by decide)
      rw [e10] at e9
      refine k_istore 43 rfl rfl ?_
      have hcd : x8.toInt = A0 1 (2600 + F0 30) := e9.trans (congrArg (A0 1) (by omega))
      refine k_aload 44 rfl (gs_ne rfl rfl g0) rfl ?_
      refine k_dup 45 rfl rfl rfl ?_
      refine r_gI hI 48 rfl rfl rfl (fun x11 (e12 : x11.toInt = F 30) => ?_)
      refine k_push 49 rfl rfl ?_
      have hc13 : (1 : Int32).toInt = 1 := by decide
      obtain ⟨x14, q15⟩ : ∃ q : Int32, q = (x11 + (1 : Int32)) := ⟨_, rfl⟩
      have e16 : x14.toInt = x11.toInt + 1 := by rw [q15, iv_add (by omega) (by omega)]; omega
      refine k_bin x14 50 rfl q15.symm rfl ?_
      refine r_pI hI 53 rfl rfl rfl (fun h17 I18 => ?_)
      refine k_iload 55 rfl gs_eq rfl ?_
      by_cases b19 : x8 = 0
      · refine k_c1 58 rfl rfl (if_pos b19) ?_
        have b19 := iv_eq0.mp b19
        obtain ⟨n1, n2, hn9, s1, s2⟩ := sc_app p1 (by omega)
        have hnb9 : nb gn = nb (n1 + n2 + 1) := by rw [hn9]
        have hp30 : 2600 + x14.toInt = 2600 + F0 30 + 1 := by omega
        have hr1 : (A 1) = A0 1 := (hA 1 (by decide))
        refine k_aload 59 rfl (gs_ne rfl rfl g0) rfl ?_
        refine k_iload 60 rfl (gs_ne rfl rfl g1) rfl ?_
        refine k_iload 61 rfl (gs_ne rfl rfl g2) rfl ?_
        refine k_iload 62 rfl (gs_ne rfl rfl g3) rfl ?_
        refine k_rq I18 rfl (m_laysApplication (gk := gk) (gn := n1) (gm := n2) (lm := lm) (gM := gM) I18.1 (hrec) (show sc ((A 1)) (gk) v2.toInt (2600 + (x14.toInt)) (n1) by rw [(hA 1 (by decide))]; exact sc_at s1 (by omega) (by omega)) (show sc ((A 1)) (gk) v2.toInt (2600 + (x14.toInt) + (n1)) (n2) by rw [(hA 1 (by decide))]; exact sc_at s2 (by omega) (by omega)) (show 0 ≤ v1.toInt ∧ v1.toInt + (n1) + (n2) + 1 ≤ 121 ∧ 0 ≤ v2.toInt ∧ v2.toInt + (n1) + (n2) + 1 ≤ 121 ∧ 0 ≤ v3.toInt ∧ v3.toInt + (n1) + (n2) + 1 ≤ 121 by omega) (show 0 ≤ (x14.toInt) ∧ (x14.toInt) + (n1) + (n2) ≤ 120 by omega) (show ly ((A 24)) ((A 25)) ((A 26)) (lm) ((F 28)) 200 (gM) by rw [i4.1, i4.2.1, i4.2.2, i5.2.1]; exact p4) (show (F 27) = (F 28) ∧ 4 * (F 28) + nb ((n1) + (n2) + 1) ≤ 32000 by omega)) (Nat.ble_eq_true_of_le (by omega)) rfl rfl I18.rc ?_
        rintro x20 h21 F22 A23 I24 ⟨k26, k27, p25⟩
        replace p25 : (F22 27 = F22 28 ∧ (F 28) ≤ F22 28 ∧ 4 * F22 28 ≤ 4 * (F 28) + nb ((n1) + (n2) + 1) ∧ F22 30 = (x14.toInt) + (n1) + (n2)) ∧ (4 * (F 28) ≤ x20.toInt ∧ x20.toInt < 4 * F22 28) ∧ (∀ q : Int, q < 122 * v3.toInt → A23 29 q = (A 29) q) ∧ 2 * ce (A23 29) (122 * v3.toInt) v2.toInt.toNat ≤ ((n1) + (n2) + 1) + 1 ∧ F22 28 = (F 28) + (ca (us ((A 1)) (gk) v2.toInt (2600 + (x14.toInt))) (us ((A 1)) (gk) v2.toInt (2600 + (x14.toInt) + (n1))) (cs ((A 1)) (gk) v2.toInt (2600 + (x14.toInt))) (cs ((A 1)) (gk) v2.toInt (2600 + (x14.toInt) + (n1))) v2.toInt.toNat : Int) ∧ (∀ v : Int, 0 ≤ v → v < v2.toInt → (A23 29 (122 * v3.toInt + v) ≠ -1 ↔ (us ((A 1)) (gk) v2.toInt (2600 + (x14.toInt)) v || us ((A 1)) (gk) v2.toInt (2600 + (x14.toInt) + (n1)) v) = true)) ∧ (∃ lm', lw (A23 24) (A23 25) (A23 26) lm' (F22 28) 200 (fun p => (gM) p ∨ p = x20.toInt) (A23 29) (fr v3.toInt v2.toInt) (fun _ => v1.toInt + 1) ((F 28)) ∧ (∀ p : Int, p < 4 * (F 28) → lm' p = (lm) p) ∧ lm' x20.toInt = v1.toInt) := p25
        obtain ⟨p25a, p25b, p25c, p25d, p25f, p25g, p25e⟩ := p25
        show am_Ok _ _ _ (65, _, [.inl x20], _, 0, 0) _
        rw [hr1, hp30, i1.2.1] at p25f
        rw [hr1, hp30, i1.2.1, i1.2.2.1] at p25g
        obtain ⟨lm9, hw9, hl9, ht9⟩ := p25e
        exact k_fin rfl rfl ⟨_, _, _, _, rfl, I24, (fr1.tr (by decide) (fr1.up (by decide) hF) k26), (fr2.tr (by decide) hA k27), ⟨(show F22 27 = F22 28 ∧ F0 28 ≤ F22 28 ∧ 4 * F22 28 ≤ 4 * F0 28 + nb gn ∧ F22 30 = F0 30 + gn by omega), (show 4 * F0 28 ≤ x20.toInt ∧ x20.toInt < 4 * F22 28 by omega), fun q hq => (p25c q (by omega)).trans (i3 q hq), by rw [← i1.2.2.1, ← i1.2.1]; omega, (show F22 28 = F0 28 + (cs (A0 1) (gk + 1) w2.toInt (2600 + F0 30) : Int) by rw [cs_app (by omega) s1]; omega), (fun v h1 h2 => by rw [us_app (by omega) s1]; exact p25g v h1 h2), ⟨lm9, by rw [← i1.1, ← i1.2.1, ← i1.2.2.1, ← i5.2.1]; exact hw9, fun p hp => hl9 p (by omega), by rw [← i1.1]; exact ht9⟩⟩⟩
      · refine k_c1 66 rfl rfl (if_neg b19) ?_
        have b19 := mt iv_eq0.mpr b19
        refine k_iload 68 rfl gs_eq rfl ?_
        refine k_push 69 rfl rfl ?_
        by_cases b28 : x8 = (1 : Int32)
        · refine k_c2 72 rfl rfl (if_pos b28) ?_
          have b28 := iv_eq.mp b28
          obtain ⟨n1, hn9, s1⟩ := sc_lam p1 (by omega)
          have hnb9 : nb gn = nb (n1 + 1) := by rw [hn9]
          have hp30 : 2600 + x14.toInt = 2600 + F0 30 + 1 := by omega
          have hr1 : (A 1) = A0 1 := (hA 1 (by decide))
          refine k_aload 73 rfl (gs_ne rfl rfl g0) rfl ?_
          refine k_iload 74 rfl (gs_ne rfl rfl g1) rfl ?_
          refine k_iload 75 rfl (gs_ne rfl rfl g2) rfl ?_
          refine k_iload 76 rfl (gs_ne rfl rfl g3) rfl ?_
          refine k_rq I18 rfl (m_laysFunction (gk := gk) (gn := n1) (lm := lm) (gM := gM) I18.1 (hrec) (show sc ((A 1)) (gk) (v2.toInt + 1) (2600 + (x14.toInt)) (n1) by rw [(hA 1 (by decide))]; exact sc_at s1 (by omega) (by omega)) (show 0 ≤ v1.toInt ∧ v1.toInt + (n1) + 1 ≤ 121 ∧ 0 ≤ v2.toInt ∧ v2.toInt + (n1) + 1 ≤ 121 ∧ 0 ≤ v3.toInt ∧ v3.toInt + (n1) + 1 ≤ 121 by omega) (show 0 ≤ (x14.toInt) ∧ (x14.toInt) + (n1) ≤ 120 by omega) (show ly ((A 24)) ((A 25)) ((A 26)) (lm) ((F 28)) 200 (gM) by rw [i4.1, i4.2.1, i4.2.2, i5.2.1]; exact p4) (show (F 27) = (F 28) ∧ 4 * (F 28) + nb ((n1) + 1) ≤ 32000 by omega)) (Nat.ble_eq_true_of_le (by omega)) rfl rfl I18.rc ?_
          rintro x29 h30 F31 A32 I33 ⟨k35, k36, p34⟩
          replace p34 : (F31 27 = F31 28 ∧ (F 28) ≤ F31 28 ∧ 4 * F31 28 ≤ 4 * (F 28) + nb ((n1) + 1) ∧ F31 30 = (x14.toInt) + (n1)) ∧ (4 * (F 28) ≤ x29.toInt ∧ x29.toInt < 4 * F31 28) ∧ (∀ q : Int, q < 122 * v3.toInt → A32 29 q = (A 29) q) ∧ 2 * ce (A32 29) (122 * v3.toInt) v2.toInt.toNat ≤ ((n1) + 1) + 1 ∧ F31 28 = (F 28) + (cl (us ((A 1)) (gk) (v2.toInt + 1) (2600 + (x14.toInt))) (cs ((A 1)) (gk) (v2.toInt + 1) (2600 + (x14.toInt))) v2.toInt : Int) ∧ (∀ v : Int, 0 ≤ v → v < v2.toInt → (A32 29 (122 * v3.toInt + v) ≠ -1 ↔ us ((A 1)) (gk) (v2.toInt + 1) (2600 + (x14.toInt)) v = true)) ∧ (∃ lm', lw (A32 24) (A32 25) (A32 26) lm' (F31 28) 200 (fun p => (gM) p ∨ p = x29.toInt) (A32 29) (fr v3.toInt v2.toInt) (fun _ => v1.toInt + 1) ((F 28)) ∧ (∀ p : Int, p < 4 * (F 28) → lm' p = (lm) p) ∧ lm' x29.toInt = v1.toInt) := p34
          obtain ⟨p34a, p34b, p34c, p34d, p34f, p34g, p34e⟩ := p34
          show am_Ok _ _ _ (79, _, [.inl x29], _, 0, 0) _
          rw [hr1, hp30, i1.2.1] at p34f
          rw [hr1, hp30, i1.2.1, i1.2.2.1] at p34g
          obtain ⟨lm9, hw9, hl9, ht9⟩ := p34e
          exact k_fin rfl rfl ⟨_, _, _, _, rfl, I33, (fr1.tr (by decide) (fr1.up (by decide) hF) k35), (fr2.tr (by decide) hA k36), ⟨(show F31 27 = F31 28 ∧ F0 28 ≤ F31 28 ∧ 4 * F31 28 ≤ 4 * F0 28 + nb gn ∧ F31 30 = F0 30 + gn by omega), (show 4 * F0 28 ≤ x29.toInt ∧ x29.toInt < 4 * F31 28 by omega), fun q hq => (p34c q (by omega)).trans (i3 q hq), by rw [← i1.2.2.1, ← i1.2.1]; omega, (show F31 28 = F0 28 + (cs (A0 1) (gk + 1) w2.toInt (2600 + F0 30) : Int) by rw [cs_lam (by omega)]; omega), (fun v h1 h2 => by rw [us_lam (by omega)]; exact p34g v h1 h2), ⟨lm9, by rw [← i1.1, ← i1.2.1, ← i1.2.2.1, ← i5.2.1]; exact hw9, fun p hp => hl9 p (by omega), by rw [← i1.1]; exact ht9⟩⟩⟩
        · refine k_c2 80 rfl rfl (if_neg b28) ?_
          have b28 := mt iv_eq.mpr b28
          obtain ⟨v91, v92, v93⟩ := sc_var p1 (by omega) (by omega)
          have hnb9 : nb gn = 7 := by rw [v93]; exact nb_1
          have hp4 : ly (A 24) (A 25) (A 26) lm (F 28) 200 gM := by rw [i4.1, i4.2.1, i4.2.2, i5.2.1]; exact p4
          refine k_aload 81 rfl (gs_ne rfl rfl g0) rfl ?_
          refine k_push 82 rfl rfl ?_
          have hc37 : (5 : Int32).toInt = 5 := by decide
          refine k_iload 83 rfl (gs_ne rfl rfl g1) rfl ?_
          refine k_rq I18 rfl (m_newNode (gB := 8000) I18.1 (show 0 ≤ (F 28) ∧ (F 28) ≤ (8000) ∧ (8000) ≤ 8000 ∧ 0 ≤ (F 27) ∧ (F 27) ≤ 10000 by omega) (show (∀ q : Int, 0 ≤ q → q < (F 28) → (A 24) q ≠ -1) → (F 28) < (8000) from fun _ => by omega)) (Nat.ble_eq_true_of_le (by omega)) rfl rfl I18.rc ?_
          rintro x38 h39 F40 A41 I42 ⟨k44, k45, p43⟩
          replace p43 : (0 ≤ x38.toInt ∧ F40 28 ≤ (8000) ∧ F40 27 = (F 27) + 1) ∧ (A41 24 x38.toInt = (5 : Int32).toInt ∧ A41 25 x38.toInt = v1.toInt) ∧ (∀ y : Int, y ≠ x38.toInt → A41 24 y = (A 24) y ∧ A41 25 y = (A 25) y) ∧ ((x38.toInt = (F 28) ∧ F40 28 = (F 28) + 1) ∨ (x38.toInt < (F 28) ∧ (A 24) x38.toInt = -1 ∧ F40 28 = (F 28))) := p43
          obtain ⟨p43a, p43b, p43c, p43d⟩ := p43
          show am_Ok _ _ _ (86, _, [.inl x38], _, 0, 0) _
          obtain ⟨hx9, hb9⟩ := hp4.new p43a.1 p43d
          have hly1 := hp4.node (l := w1.toInt) (l0 := w1.toInt + 1) (l1 := w1.toInt) (l2 := 0) hb9 ⟨by rw [← hx9]; exact p43b.1.trans (show (5 : Int32).toInt = 5 by decide), by rw [← hx9]; exact p43b.2.trans i1.1⟩ (fun y hy => p43c y (by rw [hx9]; exact hy)) (by decide) (by omega) (tl_5 (by omega))
          have hq29 : (A41 29) = A 29 := (k45 29 (by decide))
          have hq26 : (A41 26) = A 26 := (k45 26 (by decide))
          refine k_istore 88 rfl rfl ?_
          refine k_aload 89 rfl (gs_ne rfl rfl (gs_ne rfl rfl g0)) rfl ?_
          refine r_gA I42 92 rfl rfl rfl ?_
          refine k_aload 93 rfl (gs_ne rfl rfl (gs_ne rfl rfl g0)) rfl ?_
          refine k_iload 94 rfl (gs_ne rfl rfl (gs_ne rfl rfl g3)) rfl ?_
          refine k_iload 95 rfl (gs_ne rfl rfl (gs_ne rfl rfl g2)) rfl ?_
          refine k_push 96 rfl rfl ?_
          obtain ⟨x46, q47⟩ : ∃ q : Int32, q = (v2 - (1 : Int32)) := ⟨_, rfl⟩
          have e48 : x46.toInt = v2.toInt - 1 := by rw [q47, iv_sub (by omega) (by omega)]; omega
          refine k_bin x46 97 rfl q47.symm rfl ?_
          refine k_iload 99 rfl (gs_ne rfl rfl gs_eq) rfl ?_
          refine k_push 100 rfl rfl ?_
          have hc49 : (2 : Int32).toInt = 2 := by decide
          obtain ⟨x50, q51⟩ : ∃ q : Int32, q = (x8 - (2 : Int32)) := ⟨_, rfl⟩
          have e52 : x50.toInt = x8.toInt - 2 := by rw [q51, iv_sub (by omega) (by omega)]; omega
          refine k_bin x50 101 rfl q51.symm rfl ?_
          obtain ⟨x53, q54⟩ : ∃ q : Int32, q = (x46 - x50) := ⟨_, rfl⟩
          have e55 : x53.toInt = x46.toInt - x50.toInt := by rw [q54, iv_sub (by omega) (by omega)]
          refine k_bin x53 102 rfl q54.symm rfl ?_
          refine k_in (d := 0) rfl (Nat.ble_eq_true_of_le (by omega)) rfl rfl I42.rc ?_
          refine k_push 2 rfl rfl ?_
          have hc56 : (122 : Int32).toInt = 122 := by decide
          refine k_iload 3 rfl rfl rfl ?_
          obtain ⟨x57, q58⟩ : ∃ q : Int32, q = ((122 : Int32) * v3) := ⟨_, rfl⟩
          have e59 : x57.toInt = 122 * v3.toInt := by rw [q58]; exact iv_mulc 122 (by decide) (by omega) (by omega)
          refine k_bin x57 4 rfl q58.symm rfl ?_
          refine k_iload 5 rfl rfl rfl ?_
          obtain ⟨x60, q61⟩ : ∃ q : Int32, q = (x57 + x53) := ⟨_, rfl⟩
          have e62 : x60.toInt = x57.toInt + x53.toInt := by rw [q61, iv_add (by omega) (by omega)]
          refine k_bin x60 6 rfl q61.symm rfl ?_
          refine k_fin rfl rfl ⟨_, _, rfl, rf_len I42 I42, ?_⟩
          show am_Ok _ _ _ (105, _, [.inl x60, .inr (.inr (some (rf_ad 29)))], _, 0, 0) _
          refine k_push 106 rfl rfl ?_
          have hc63 : (4 : Int32).toInt = 4 := by decide
          refine k_iload 108 rfl gs_eq rfl ?_
          obtain ⟨x64, q65⟩ : ∃ q : Int32, q = ((4 : Int32) * x38) := ⟨_, rfl⟩
          have e66 : x64.toInt = 4 * x38.toInt := by rw [q65]; exact iv_mulc 4 (by decide) (by omega) (by omega)
          refine k_bin x64 109 rfl q65.symm rfl ?_
          refine r_st 29 I42 110 rfl rfl (by omega) (show x60.toInt < 30012 by omega) rfl (fun h67 I68 => ?_)
          have he1 : ((up2 A41 29 x60.toInt x64.toInt) 29) x60.toInt = 4 * F0 28 := up2_eq.trans (by omega)
          have he2 : ∀ q : Int, fr w3.toInt w2.toInt q → q ≠ x60.toInt → ((up2 A41 29 x60.toInt x64.toInt) 29) q = -1 := fun q hq hn => (up2_ne hn).trans ((congrFun hq29 q).trans (i2 q hq.1 (by have := hq.2; omega)))
          have hce := ce_one (e := ((up2 A41 29 x60.toInt x64.toInt) 29)) (s := 122 * w3.toInt) (q0 := x60.toInt) w2.toInt.toNat (fun q h1 h2 h3 => he2 q ⟨h1, by omega⟩ h3)
          have hix : 122 * w3.toInt ≤ x60.toInt ∧ x60.toInt < 122 * w3.toInt + w2.toInt := by omega
          refine k_push 111 rfl rfl ?_
          refine k_iload 113 rfl gs_eq rfl ?_
          obtain ⟨x69, q70⟩ : ∃ q : Int32, q = ((4 : Int32) * x38) := ⟨_, rfl⟩
          have e71 : x69.toInt = 4 * x38.toInt := by rw [q70]; exact iv_mulc 4 (by decide) (by omega) (by omega)
          refine k_bin x69 114 rfl q70.symm rfl ?_
          refine k_push 115 rfl rfl ?_
          obtain ⟨x72, q73⟩ : ∃ q : Int32, q = (x69 + (1 : Int32)) := ⟨_, rfl⟩
          have e74 : x72.toInt = x69.toInt + 1 := by rw [q73, iv_add (by omega) (by omega)]; omega
          refine k_bin x72 116 rfl q73.symm rfl ?_
          have e75 : F40 30 = x14.toInt := k44 30 (by decide)
          exact k_fin rfl rfl ⟨_, _, _, _, rfl, I68, (fr1.tr (by decide) (fr1.up (by decide) hF) k44), (fr2.up (by decide) (fr2.tr (by decide) hA k45)), ⟨(show F40 27 = F40 28 ∧ F0 28 ≤ F40 28 ∧ 4 * F40 28 ≤ 4 * F0 28 + nb gn ∧ F40 30 = F0 30 + gn by omega), (show 4 * F0 28 ≤ x72.toInt ∧ x72.toInt < 4 * F40 28 by omega), fun q hq => (up2_ne (by omega)).trans ((congrFun hq29 q).trans (i3 q hq)), (show 2 * ce ((up2 A41 29 x60.toInt x64.toInt) 29) (122 * w3.toInt) w2.toInt.toNat ≤ gn + 1 by omega), (show F40 28 = F0 28 + (cs (A0 1) (gk + 1) w2.toInt (2600 + F0 30) : Int) by rw [cs_var (by omega) (by omega)]; omega), (fun v h1 h2 => by rw [us_var (by omega) (by omega)]; exact us_v he1 (by omega) he2 (by omega) v h1 h2), ⟨ln lm (F 28) (w1.toInt + 1) w1.toInt 0, by rw [up2_k (by decide), up2_k (by decide), up2_k (by decide), hq26]; exact lz_var (q0 := x60.toInt) (by rw [← i5.2.1]; exact hly1) hM0 (by omega) he1 ⟨hix.1, hix.2⟩ he2 (by rw [← i5.2.1]; exact ln_0) (by omega), fun p hp => ln_n (by omega), by rw [show x72.toInt = 4 * F 28 + 1 by omega]; exact ln_1⟩⟩⟩
    · refine k_c2 9 rfl rfl (if_neg b1) ?_
      have b1 := mt iv_le.mpr b1
      refine k_aload 10 rfl g0 rfl ?_
      refine r_gA hI 13 rfl rfl rfl ?_
      refine k_aload 14 rfl g0 rfl ?_
      refine k_iload 15 rfl g3 rfl ?_
      refine k_iload 17 rfl g4 rfl ?_
      refine k_in (d := 0) rfl (Nat.ble_eq_true_of_le (by omega)) rfl rfl hI.rc ?_
      refine k_push 2 rfl rfl ?_
      have hc76 : (122 : Int32).toInt = 122 := by decide
      refine k_iload 3 rfl rfl rfl ?_
      obtain ⟨x77, q78⟩ : ∃ q : Int32, q = ((122 : Int32) * v3) := ⟨_, rfl⟩
      have e79 : x77.toInt = 122 * v3.toInt := by rw [q78]; exact iv_mulc 122 (by decide) (by omega) (by omega)
      refine k_bin x77 4 rfl q78.symm rfl ?_
      refine k_iload 5 rfl rfl rfl ?_
      obtain ⟨x80, q81⟩ : ∃ q : Int32, q = (x77 + v4) := ⟨_, rfl⟩
      have e82 : x80.toInt = x77.toInt + v4.toInt := by rw [q81, iv_add (by omega) (by omega)]
      refine k_bin x80 6 rfl q81.symm rfl ?_
      refine k_fin rfl rfl ⟨_, _, rfl, rf_len hI hI, ?_⟩
      show am_Ok _ _ _ (20, _, [.inl x80, .inr (.inr (some (rf_ad 29)))], _, 0, 0) _
      refine k_push 21 rfl rfl ?_
      have hc83 : (-1 : Int32).toInt = -1 := by decide
      refine r_st 29 hI 22 rfl rfl (by omega) (show x80.toInt < 30012 by omega) rfl (fun h84 I85 => ?_)
      have hc86 : (1 : Int32).toInt = 1 := by decide
      obtain ⟨x87, q88⟩ : ∃ q : Int32, q = v4 + (1 : Int32) := ⟨_, rfl⟩
      have e89 : x87.toInt = v4.toInt + 1 := by rw [q88, iv_add (by omega) (by omega)]; omega
      refine k_iinc x87 25 rfl g4 q88.symm rfl ?_
      refine k_goto 3 rfl rfl ?_
      exact ih _ (show ((121 - x87.toInt).toNat) < n by omega)  rfl (gs_ne rfl rfl g0) (gs_ne rfl rfl g1) (gs_ne rfl rfl g2) (gs_ne rfl rfl g3) gs_eq I85 hF (fr2.up (by decide) hA) (show v1.toInt = w1.toInt ∧ v2.toInt = w2.toInt ∧ v3.toInt = w3.toInt ∧ 0 ≤ x87.toInt ∧ x87.toInt ≤ w2.toInt by omega) (lp_fill i2 (by omega) (by omega) (by decide)) (fun q hq => (up2_ne (by omega)).trans (i3 q hq)) (⟨(up2_k (by decide)).trans i4.1, (up2_k (by decide)).trans i4.2.1, (up2_k (by decide)).trans i4.2.2⟩) (show (F 27) = F0 27 ∧ (F 28) = F0 28 ∧ (F 30) = F0 30 by omega)
theorem m_laysPart {h0 : am_h} {F0 : rf_f} {A0 : rf_A} {w1 : Int32} {w2 : Int32} {w3 : Int32} {gk gn : Nat} {lm : Int → Int} {gM : Int → Prop} (hR : rf_R h0 F0 A0) (hrec : ∀ {h0 : am_h} {F0 : rf_f} {A0 : rf_A} {w1 w2 w3 : Int32} {gn : Nat} {lm : Int → Int} {gM : Int → Prop}, rf_R h0 F0 A0 → (sc (A0 1) gk w2.toInt (2600 + F0 30) gn) → (0 ≤ w1.toInt ∧ w1.toInt + gn ≤ 121 ∧ 0 ≤ w2.toInt ∧ w2.toInt + gn ≤ 121 ∧ 0 ≤ w3.toInt ∧ w3.toInt + gn ≤ 121) → (0 ≤ F0 30 ∧ F0 30 + gn ≤ 120) → (ly (A0 24) (A0 25) (A0 26) lm (F0 28) 200 gM) → (F0 27 = F0 28 ∧ 4 * F0 28 + nb gn ≤ 32000) → am_Mt (2 * gk) 193 [.inr (.inr (some 81)), .inl w1, .inl w2, .inl w3] h0 (rf_Q h0 (fun x F' A' => fr1 [27, 28, 30] F0 F' ∧ fr2 [24, 25, 26, 29] A0 A' ∧ ((F' 27 = F' 28 ∧ F0 28 ≤ F' 28 ∧ 4 * F' 28 ≤ 4 * F0 28 + nb gn ∧ F' 30 = F0 30 + gn) ∧ (4 * F0 28 ≤ x ∧ x < 4 * F' 28) ∧ (∀ q : Int, q < 122 * w3.toInt → A' 29 q = A0 29 q) ∧ 2 * ce (A' 29) (122 * w3.toInt) w2.toInt.toNat ≤ gn + 1 ∧ F' 28 = F0 28 + (cs (A0 1) gk w2.toInt (2600 + F0 30) : Int) ∧ (∀ v : Int, 0 ≤ v → v < w2.toInt → (A' 29 (122 * w3.toInt + v) ≠ -1 ↔ us (A0 1) gk w2.toInt (2600 + F0 30) v = true)) ∧ (∃ lm', lw (A' 24) (A' 25) (A' 26) lm' (F' 28) 200 (fun p => gM p ∨ p = x) (A' 29) (fr w3.toInt w2.toInt) (fun _ => w1.toInt + 1) (F0 28) ∧ (∀ p : Int, p < 4 * F0 28 → lm' p = lm p) ∧ lm' x = w1.toInt))))) (p1 : sc (A0 1) (gk + 1) w2.toInt (2600 + F0 30) gn) (p2 : 0 ≤ w1.toInt ∧ w1.toInt + gn ≤ 121 ∧ 0 ≤ w2.toInt ∧ w2.toInt + gn ≤ 121 ∧ 0 ≤ w3.toInt ∧ w3.toInt + gn ≤ 121) (p3 : 0 ≤ F0 30 ∧ F0 30 + gn ≤ 120) (p4 : ly (A0 24) (A0 25) (A0 26) lm (F0 28) 200 gM) (p5 : F0 27 = F0 28 ∧ 4 * F0 28 + nb gn ≤ 32000) : am_Mt ((2 * gk + 1) + 1) 193 [.inr (.inr (some 81)), .inl w1, .inl w2, .inl w3] h0 (rf_Q h0 (fun x F' A' => fr1 [27, 28, 30] F0 F' ∧ fr2 [24, 25, 26, 29] A0 A' ∧ ((F' 27 = F' 28 ∧ F0 28 ≤ F' 28 ∧ 4 * F' 28 ≤ 4 * F0 28 + nb gn ∧ F' 30 = F0 30 + gn) ∧ (4 * F0 28 ≤ x ∧ x < 4 * F' 28) ∧ (∀ q : Int, q < 122 * w3.toInt → A' 29 q = A0 29 q) ∧ 2 * ce (A' 29) (122 * w3.toInt) w2.toInt.toNat ≤ gn + 1 ∧ F' 28 = F0 28 + (cs (A0 1) (gk + 1) w2.toInt (2600 + F0 30) : Int) ∧ (∀ v : Int, 0 ≤ v → v < w2.toInt → (A' 29 (122 * w3.toInt + v) ≠ -1 ↔ us (A0 1) (gk + 1) w2.toInt (2600 + F0 30) v = true)) ∧ (∃ lm', lw (A' 24) (A' 25) (A' 26) lm' (F' 28) 200 (fun p => gM p ∨ p = x) (A' 29) (fr w3.toInt w2.toInt) (fun _ => w1.toInt + 1) (F0 28) ∧ (∀ p : Int, p < 4 * F0 28 → lm' p = lm p) ∧ lm' x = w1.toInt)))) := by
  refine am_Mt.of (D := (2 * gk + 1)) ?_
  have hI : rf_I h0 h0 F0 A0 := rf_I.start hR
  have hn1 := sc_n p1
  have hgk := sc_pos p1
  have hnp := nb_pos gn
  have hb1 := p4.1.2.2
  have hM0 : ∀ p : Int, gM p → p < 4 * F0 28 := fun p z => (p4.lt z).2
  refine k_push 1 rfl rfl ?_
  have hc90 : (0 : Int32).toInt = 0 := by decide
  refine k_istore 3 rfl rfl ?_
  exact b_X10_laysPart_3 (gk := gk) (gn := gn) (lm := lm) (gM := gM) (w1 := w1) (w2 := w2) (w3 := w3) hrec p1 p2 p3 p4 p5 _  rfl (gs_ne rfl rfl rfl) (gs_ne rfl rfl rfl) (gs_ne rfl rfl rfl) (gs_ne rfl rfl rfl) gs_eq hI fr1.rf fr2.rf (show w1.toInt = w1.toInt ∧ w2.toInt = w2.toInt ∧ w3.toInt = w3.toInt ∧ 0 ≤ (0 : Int32).toInt ∧ (0 : Int32).toInt ≤ w2.toInt by omega) (fun q q1 q2 => absurd q2 (by omega)) (fun q _ => rfl) (⟨rfl, rfl, rfl⟩) (show (F0 27) = F0 27 ∧ (F0 28) = F0 28 ∧ (F0 30) = F0 30 by omega)
end
