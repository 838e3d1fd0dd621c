section
theorem m_laysFunction {h0 : am_h} {F0 : rf_f} {A0 : rf_A} {w1 : Int32} {w2 : Int32} {w3 : Int32} {gk gn : Nat} {lm : Int → Int} {gM : Int → Prop} (hR : rf_R h0 F0 A0) (hrec : ∀ {h0 : am_h} {F0 : rf_f} {A0 : rf_A} {w1 w2 w3 : Int32} {gn : Nat} {lm : Int → Int} {gM : Int → Prop}, rf_R h0 F0 A0 → (sc (A0 1) gk w2.toInt (2600 + F0 30) gn) → (0 ≤ w1.toInt ∧ w1.toInt + gn ≤ 121 ∧ 0 ≤ w2.toInt ∧ w2.toInt + gn ≤ 121 ∧ 0 ≤ w3.toInt ∧ w3.toInt + gn ≤ 121) → (0 ≤ F0 30 ∧ F0 30 + gn ≤ 120) → (ly (A0 24) (A0 25) (A0 26) lm (F0 28) 200 gM) → (F0 27 = F0 28 ∧ 4 * F0 28 + nb gn ≤ 32000) → am_Mt (2 * gk) 193 [.inr (.inr (some 81)), .inl w1, .inl w2, .inl w3] h0 (rf_Q h0 (fun x F' A' => fr1 [27, 28, 30] F0 F' ∧ fr2 [24, 25, 26, 29] A0 A' ∧ ((F' 27 = F' 28 ∧ F0 28 ≤ F' 28 ∧ 4 * F' 28 ≤ 4 * F0 28 + nb gn ∧ F' 30 = F0 30 + gn) ∧ (4 * F0 28 ≤ x ∧ x < 4 * F' 28) ∧ (∀ q : Int, q < 122 * w3.toInt → A' 29 q = A0 29 q) ∧ 2 * ce (A' 29) (122 * w3.toInt) w2.toInt.toNat ≤ gn + 1 ∧ F' 28 = F0 28 + (cs (A0 1) gk w2.toInt (2600 + F0 30) : Int) ∧ (∀ v : Int, 0 ≤ v → v < w2.toInt → (A' 29 (122 * w3.toInt + v) ≠ -1 ↔ us (A0 1) gk w2.toInt (2600 + F0 30) v = true)) ∧ (∃ lm', lw (A' 24) (A' 25) (A' 26) lm' (F' 28) 200 (fun p => gM p ∨ p = x) (A' 29) (fr w3.toInt w2.toInt) (fun _ => w1.toInt + 1) (F0 28) ∧ (∀ p : Int, p < 4 * F0 28 → lm' p = lm p) ∧ lm' x = w1.toInt))))) (p1 : sc (A0 1) gk (w2.toInt + 1) (2600 + F0 30) gn) (p2 : 0 ≤ w1.toInt ∧ w1.toInt + gn + 1 ≤ 121 ∧ 0 ≤ w2.toInt ∧ w2.toInt + gn + 1 ≤ 121 ∧ 0 ≤ w3.toInt ∧ w3.toInt + gn + 1 ≤ 121) (p3 : 0 ≤ F0 30 ∧ F0 30 + gn ≤ 120) (p4 : ly (A0 24) (A0 25) (A0 26) lm (F0 28) 200 gM) (p5 : F0 27 = F0 28 ∧ 4 * F0 28 + nb (gn + 1) ≤ 32000) : am_Mt ((2 * gk) + 1) 194 [.inr (.inr (some 81)), .inl w1, .inl w2, .inl w3] h0 (rf_Q h0 (fun x F' A' => fr1 [27, 28, 30] F0 F' ∧ fr2 [24, 25, 26, 29] A0 A' ∧ ((F' 27 = F' 28 ∧ F0 28 ≤ F' 28 ∧ 4 * F' 28 ≤ 4 * F0 28 + nb (gn + 1) ∧ F' 30 = F0 30 + gn) ∧ (4 * F0 28 ≤ x ∧ x < 4 * F' 28) ∧ (∀ q : Int, q < 122 * w3.toInt → A' 29 q = A0 29 q) ∧ 2 * ce (A' 29) (122 * w3.toInt) w2.toInt.toNat ≤ (gn + 1) + 1 ∧ F' 28 = F0 28 + (cl (us (A0 1) gk (w2.toInt + 1) (2600 + F0 30)) (cs (A0 1) gk (w2.toInt + 1) (2600 + F0 30)) w2.toInt : Int) ∧ (∀ v : Int, 0 ≤ v → v < w2.toInt → (A' 29 (122 * w3.toInt + v) ≠ -1 ↔ us (A0 1) gk (w2.toInt + 1) (2600 + F0 30) v = true)) ∧ (∃ lm', lw (A' 24) (A' 25) (A' 26) lm' (F' 28) 200 (fun p => gM p ∨ p = x) (A' 29) (fr w3.toInt w2.toInt) (fun _ => w1.toInt + 1) (F0 28) ∧ (∀ p : Int, p < 4 * F0 28 → lm' p = lm p) ∧ lm' x = w1.toInt)))) := by
  refine am_Mt.of (D := (2 * gk)) ?_
  have hI : rf_I h0 h0 F0 A0 := rf_I.start hR
  have hn1 := sc_n p1
  have hgk := sc_pos p1
  have hnp := nb_pos gn
  have hb1 := p4.1.2.2
  have hM0 : ∀ p : Int, gM p → p < 4 * F0 28 := fun p z => (p4.lt z).2
  have hnl := nb_lam (a := gn) hn1
  refine k_aload 1 rfl rfl rfl ?_
  refine k_push 2 rfl rfl ?_
  have hc1 : (1 : Int32).toInt = 1 := by decide
  refine k_iload 3 rfl rfl rfl ?_
  refine k_rq hI rfl (m_newNode (gB := 8000) hI.1 (show 0 ≤ (F0 28) ∧ (F0 28) ≤ (8000) ∧ (8000) ≤ 8000 ∧ 0 ≤ (F0 27) ∧ (F0 27) ≤ 10000 by omega) (show (∀ q : Int, 0 ≤ q → q < (F0 28) → (A0 24) q ≠ -1) → (F0 28) < (8000) from fun _ => by omega)) (Nat.ble_eq_true_of_le (by omega)) rfl rfl hI.rc ?_
  rintro x2 h3 F4 A5 I6 ⟨k8, k9, p7⟩
  replace p7 : (0 ≤ x2.toInt ∧ F4 28 ≤ (8000) ∧ F4 27 = (F0 27) + 1) ∧ (A5 24 x2.toInt = (1 : Int32).toInt ∧ A5 25 x2.toInt = w1.toInt) ∧ (∀ y : Int, y ≠ x2.toInt → A5 24 y = (A0 24) y ∧ A5 25 y = (A0 25) y) ∧ ((x2.toInt = (F0 28) ∧ F4 28 = (F0 28) + 1) ∨ (x2.toInt < (F0 28) ∧ (A0 24) x2.toInt = -1 ∧ F4 28 = (F0 28))) := p7
  obtain ⟨p7a, p7b, p7c, p7d⟩ := p7
  show am_Ok _ _ _ (6, _, [.inl x2], _, 0, 0) _
  obtain ⟨hx9, hb9⟩ := p4.new p7a.1 p7d
  have hly1 := p4.node (l0 := w1.toInt) (l1 := w1.toInt) (l2 := w1.toInt + 1) hb9 ⟨by rw [← hx9]; exact p7b.1.trans (show (1 : Int32).toInt = 1 by decide), by rw [← hx9]; exact p7b.2⟩ (fun y hy => p7c y (by rw [hx9]; exact hy)) (by decide) (by omega) (tl_12 (Or.inl rfl))
  have hq29 : (A5 29) = A0 29 := (k9 29 (by decide))
  have hr1 : (A5 1) = A0 1 := (k9 1 (by decide))
  have hr30 : F4 30 = F0 30 := (k8 30 (by decide))
  refine k_istore 8 rfl rfl ?_
  refine k_aload 9 rfl (gs_ne rfl rfl rfl) rfl ?_
  refine k_iload 10 rfl (gs_ne rfl rfl rfl) rfl ?_
  refine k_iload 11 rfl (gs_ne rfl rfl rfl) rfl ?_
  refine k_push 12 rfl rfl ?_
  obtain ⟨x10, q11⟩ : ∃ q : Int32, q = (w2 + (1 : Int32)) := ⟨_, rfl⟩
  have e12 : x10.toInt = w2.toInt + 1 := by rw [q11, iv_add (by omega) (by omega)]; omega
  refine k_bin x10 13 rfl q11.symm rfl ?_
  refine k_iload 14 rfl (gs_ne rfl rfl rfl) rfl ?_
  have e13 : F4 30 = F0 30 := k8 30 (by decide)
  refine k_rq I6 rfl (hrec (gn := gn) (lm := ln lm (F0 28) w1.toInt w1.toInt (w1.toInt + 1)) (gM := (fun p => gM p ∨ (p / 4 = F0 28 ∧ p % 4 < pr 1))) I6.1 (show sc ((A5 1)) gk x10.toInt (2600 + (F4 30)) (gn) by rw [(k9 1 (by decide)), (k8 30 (by decide)), show x10.toInt = w2.toInt + 1 by omega]; exact p1) (show 0 ≤ w1.toInt ∧ w1.toInt + (gn) ≤ 121 ∧ 0 ≤ x10.toInt ∧ x10.toInt + (gn) ≤ 121 ∧ 0 ≤ w3.toInt ∧ w3.toInt + (gn) ≤ 121 by omega) (show 0 ≤ (F4 30) ∧ (F4 30) + (gn) ≤ 120 by omega) (show ly ((A5 24)) ((A5 25)) ((A5 26)) (ln lm (F0 28) w1.toInt w1.toInt (w1.toInt + 1)) ((F4 28)) 200 ((fun p => gM p ∨ (p / 4 = F0 28 ∧ p % 4 < pr 1))) by rw [(k9 26 (by decide))]; exact hly1) (show (F4 27) = (F4 28) ∧ 4 * (F4 28) + nb (gn) ≤ 32000 by omega)) (Nat.ble_eq_true_of_le (by omega)) rfl rfl I6.rc ?_
  rintro x14 h15 F16 A17 I18 ⟨k20, k21, p19⟩
  replace p19 : (F16 27 = F16 28 ∧ (F4 28) ≤ F16 28 ∧ 4 * F16 28 ≤ 4 * (F4 28) + nb (gn) ∧ F16 30 = (F4 30) + (gn)) ∧ (4 * (F4 28) ≤ x14.toInt ∧ x14.toInt < 4 * F16 28) ∧ (∀ q : Int, q < 122 * w3.toInt → A17 29 q = (A5 29) q) ∧ 2 * ce (A17 29) (122 * w3.toInt) x10.toInt.toNat ≤ (gn) + 1 ∧ F16 28 = (F4 28) + (cs ((A5 1)) gk x10.toInt (2600 + (F4 30)) : Int) ∧ (∀ v : Int, 0 ≤ v → v < x10.toInt → (A17 29 (122 * w3.toInt + v) ≠ -1 ↔ us ((A5 1)) gk x10.toInt (2600 + (F4 30)) v = true)) ∧ (∃ lm', lw (A17 24) (A17 25) (A17 26) lm' (F16 28) 200 (fun p => ((fun p => gM p ∨ (p / 4 = F0 28 ∧ p % 4 < pr 1))) p ∨ p = x14.toInt) (A17 29) (fr w3.toInt x10.toInt) (fun _ => w1.toInt + 1) ((F4 28)) ∧ (∀ p : Int, p < 4 * (F4 28) → lm' p = (ln lm (F0 28) w1.toInt w1.toInt (w1.toInt + 1)) p) ∧ lm' x14.toInt = w1.toInt) := p19
  obtain ⟨p19a, p19b, p19c, p19d, p19f, p19g, p19e⟩ := p19
  show am_Ok _ _ _ (17, _, [.inl x14], _, 0, 0) _
  have hcf := p19f
  have hcg := p19g
  rw [hr1, hr30, show x10.toInt = w2.toInt + 1 by omega] at hcf hcg
  obtain ⟨lm2, hw2, hl2, ht2⟩ := p19e
  have hce := p19d
  have hen := p19c
  have hp9 : pr 1 = 3 := by decide
  refine k_istore 19 rfl rfl ?_
  refine k_aload 20 rfl (gs_ne rfl rfl (gs_ne rfl rfl rfl)) rfl ?_
  refine k_push 21 rfl rfl ?_
  have hc22 : (4 : Int32).toInt = 4 := by decide
  refine k_iload 23 rfl (gs_ne rfl rfl gs_eq) rfl ?_
  obtain ⟨x23, q24⟩ : ∃ q : Int32, q = ((4 : Int32) * x2) := ⟨_, rfl⟩
  have e25 : x23.toInt = 4 * x2.toInt := by rw [q24]; exact iv_mulc 4 (by decide) (by omega) (by omega)
  refine k_bin x23 24 rfl q24.symm rfl ?_
  refine k_push 25 rfl rfl ?_
  obtain ⟨x26, q27⟩ : ∃ q : Int32, q = (x23 + (1 : Int32)) := ⟨_, rfl⟩
  have e28 : x26.toInt = x23.toInt + 1 := by rw [q27, iv_add (by omega) (by omega)]; omega
  refine k_bin x26 26 rfl q27.symm rfl ?_
  refine k_iload 28 rfl gs_eq rfl ?_
  refine k_rv I18 rfl (m_wires  I18.1 (show 0 ≤ x26.toInt ∧ x26.toInt < 32040 ∧ 0 ≤ x14.toInt ∧ x14.toInt < 32040 by omega)) (Nat.ble_eq_true_of_le (by omega)) rfl rfl I18.rc ?_
  rintro h30 F31 A32 I33 ⟨k35, k36, p34⟩
  replace p34 : A32 26 x14.toInt = x26.toInt ∧ (x26.toInt ≠ x14.toInt → A32 26 x26.toInt = x14.toInt) ∧ (∀ x : Int, x ≠ x26.toInt → x ≠ x14.toInt → A32 26 x = (A17 26) x) := p34
  obtain ⟨p34a, p34b, p34c⟩ := p34
  have k35 := fr1.nil k35
  subst k35
  show am_Ok _ _ _ (31, _, [], _, 0, 0) _
  have hw3 := hw2.wireG (r := x26.toInt) (s := x14.toInt) (Or.inl (Or.inr ⟨by omega, by omega⟩)) (Or.inr rfl) (by omega) (by rw [ht2, hl2 _ (by omega), show x26.toInt = 4 * F0 28 + 1 by omega, ln_1]) p34a p34b p34c
  have q24 : (A32 24) = _ := (k36 24 (by decide))
  have q25 : (A32 25) = _ := (k36 25 (by decide))
  have q29 : (A32 29) = _ := (k36 29 (by decide))
  rw [← q24, ← q25, ← q29] at hw3
  rw [show x10.toInt = w2.toInt + 1 by omega] at hw3 hce
  rw [← q29] at hce hen hcg
  have hce2 := ce_mono (e := (A32 29)) (s := 122 * w3.toInt) (m := w2.toInt.toNat) (n := (w2.toInt + 1).toNat) (by omega)
  refine k_aload 32 rfl (gs_ne rfl rfl (gs_ne rfl rfl rfl)) rfl ?_
  refine r_gA I33 35 rfl rfl rfl ?_
  refine k_aload 36 rfl (gs_ne rfl rfl (gs_ne rfl rfl rfl)) rfl ?_
  refine k_iload 37 rfl (gs_ne rfl rfl (gs_ne rfl rfl rfl)) rfl ?_
  refine k_iload 38 rfl (gs_ne rfl rfl (gs_ne rfl rfl rfl)) rfl ?_
  refine k_in (d := 0) rfl (Nat.ble_eq_true_of_le (by omega)) rfl rfl I33.rc ?_
  refine k_push 2 rfl rfl ?_
  have hc37 : (122 : Int32).toInt = 122 := by decide
  refine k_iload 3 rfl rfl rfl ?_
  obtain ⟨x38, q39⟩ : ∃ q : Int32, q = ((122 : Int32) * w3) := ⟨_, rfl⟩
  have e40 : x38.toInt = 122 * w3.toInt := by rw [q39]; exact iv_mulc 122 (by decide) (by omega) (by omega)
  refine k_bin x38 4 rfl q39.symm rfl ?_
  refine k_iload 5 rfl rfl rfl ?_
  obtain ⟨x41, q42⟩ : ∃ q : Int32, q = (x38 + w2) := ⟨_, rfl⟩
  have e43 : x41.toInt = x38.toInt + w2.toInt := by rw [q42, iv_add (by omega) (by omega)]
  refine k_bin x41 6 rfl q42.symm rfl ?_
  refine k_fin rfl rfl ⟨_, _, rfl, rf_len I33 I33, ?_⟩
  show am_Ok _ _ _ (41, _, [.inl x41, .inr (.inr (some (rf_ad 29)))], _, 0, 0) _
  refine r_ld 29 I33 42 rfl rfl (by omega) (show x41.toInt < 30012 by omega) rfl (fun x44 (e45 : x44.toInt = A32 29 x41.toInt) => ?_)
  rw [e43] at e45
  rw [e40] at e45
  have e46 : A32 29 = A17 29 := k36 29 (by decide)
  rw [e46] at e45
  refine k_istore 44 rfl rfl ?_
  have hend : x44.toInt = _ := e45
  rw [← q29] at hend
  refine k_aload 45 rfl (gs_ne rfl rfl (gs_ne rfl rfl (gs_ne rfl rfl rfl))) rfl ?_
  refine k_push 46 rfl rfl ?_
  refine k_iload 48 rfl (gs_ne rfl rfl (gs_ne rfl rfl gs_eq)) rfl ?_
  obtain ⟨x47, q48⟩ : ∃ q : Int32, q = ((4 : Int32) * x2) := ⟨_, rfl⟩
  have e49 : x47.toInt = 4 * x2.toInt := by rw [q48]; exact iv_mulc 4 (by decide) (by omega) (by omega)
  refine k_bin x47 49 rfl q48.symm rfl ?_
  refine k_push 50 rfl rfl ?_
  have hc50 : (2 : Int32).toInt = 2 := by decide
  obtain ⟨x51, q52⟩ : ∃ q : Int32, q = (x47 + (2 : Int32)) := ⟨_, rfl⟩
  have e53 : x51.toInt = x47.toInt + 2 := by rw [q52, iv_add (by omega) (by omega)]; omega
  refine k_bin x51 51 rfl q52.symm rfl ?_
  refine k_iload 53 rfl gs_eq rfl ?_
  refine k_push 54 rfl rfl ?_
  have hc54 : (-1 : Int32).toInt = -1 := by decide
  by_cases b55 : x44 = (-1 : Int32)
  · refine k_c2 57 rfl rfl (if_pos b55) ?_
    have b55 := iv_eq.mp b55
    refine k_push 58 rfl rfl ?_
    refine k_aload 59 rfl (gs_ne rfl rfl (gs_ne rfl rfl (gs_ne rfl rfl rfl))) rfl ?_
    refine k_push 61 rfl rfl ?_
    have hc56 : (6 : Int32).toInt = 6 := by decide
    refine k_push 62 rfl rfl ?_
    have hc57 : (0 : Int32).toInt = 0 := by decide
    refine k_rq I33 rfl (m_newNode (gB := 8000) I33.1 (show 0 ≤ (F16 28) ∧ (F16 28) ≤ (8000) ∧ (8000) ≤ 8000 ∧ 0 ≤ (F16 27) ∧ (F16 27) ≤ 10000 by omega) (show (∀ q : Int, 0 ≤ q → q < (F16 28) → (A32 24) q ≠ -1) → (F16 28) < (8000) from fun _ => by omega)) (Nat.ble_eq_true_of_le (by omega)) rfl rfl I33.rc ?_
    rintro x58 h59 F60 A61 I62 ⟨k64, k65, p63⟩
    replace p63 : (0 ≤ x58.toInt ∧ F60 28 ≤ (8000) ∧ F60 27 = (F16 27) + 1) ∧ (A61 24 x58.toInt = (6 : Int32).toInt ∧ A61 25 x58.toInt = (0 : Int32).toInt) ∧ (∀ y : Int, y ≠ x58.toInt → A61 24 y = (A32 24) y ∧ A61 25 y = (A32 25) y) ∧ ((x58.toInt = (F16 28) ∧ F60 28 = (F16 28) + 1) ∨ (x58.toInt < (F16 28) ∧ (A32 24) x58.toInt = -1 ∧ F60 28 = (F16 28))) := p63
    obtain ⟨p63a, p63b, p63c, p63d⟩ := p63
    show am_Ok _ _ _ (65, _, [.inl x58, .inl (4 : Int32), .inl x51, .inr (.inr (some 81))], _, 0, 0) _
    obtain ⟨hx8, hb8⟩ := hw3.1.new p63a.1 p63d
    have q26 : (A61 26) = _ := (k65 26 (by decide))
    obtain ⟨x66, q67⟩ : ∃ q : Int32, q = ((4 : Int32) * x58) := ⟨_, rfl⟩
    have e68 : x66.toInt = 4 * x58.toInt := by rw [q67]; exact iv_mulc 4 (by decide) (by omega) (by omega)
    refine k_bin x66 66 rfl q67.symm rfl ?_
    refine k_goto 71 rfl rfl ?_
    refine k_rv I62 rfl (m_wires  I62.1 (show 0 ≤ x51.toInt ∧ x51.toInt < 32040 ∧ 0 ≤ x66.toInt ∧ x66.toInt < 32040 by omega)) (Nat.ble_eq_true_of_le (by omega)) rfl rfl I62.rc ?_
    rintro h70 F71 A72 I73 ⟨k75, k76, p74⟩
    replace p74 : A72 26 x66.toInt = x51.toInt ∧ (x51.toInt ≠ x66.toInt → A72 26 x51.toInt = x66.toInt) ∧ (∀ x : Int, x ≠ x51.toInt → x ≠ x66.toInt → A72 26 x = (A61 26) x) := p74
    obtain ⟨p74a, p74b, p74c⟩ := p74
    have k75 := fr1.nil k75
    subst k75
    show am_Ok _ _ _ (74, _, [], _, 0, 0) _
    have hw5 := lz_era (s := x66.toInt) (m := x51.toInt) hw3 hb8 ⟨by rw [← hx8]; exact p63b.1.trans (show (6 : Int32).toInt = 6 by decide), by rw [← hx8]; exact p63b.2.trans (show (0 : Int32).toInt = 0 by decide)⟩ (fun y hy => p63c y (by rw [hx8]; exact hy)) (by decide) hM0 (by omega) (by omega) (by omega) (by omega) (by omega) (by omega) (by omega) (by rw [hl2 _ (by omega), show x51.toInt = 4 * F0 28 + 2 by omega, ln_2]) p74a p74b (fun y y1 y2 => (p74c y y1 y2).trans (congrFun q26 y))
    rw [q29] at hw5
    have hgd : ¬ us (A0 1) gk (w2.toInt + 1) (2600 + F0 30) w2.toInt = true := fun z => (hcg w2.toInt (by omega) (by omega)).mpr z (by omega)
    rw [q29] at hce hen hce2 hcg
    have hlm2 : lm2 (4 * F0 28) = w1.toInt := by rw [hl2 _ (by omega), ln_0]
    refine k_push 75 rfl rfl ?_
    refine k_iload 77 rfl (gs_ne rfl rfl (gs_ne rfl rfl gs_eq)) rfl ?_
    obtain ⟨x77, q78⟩ : ∃ q : Int32, q = ((4 : Int32) * x2) := ⟨_, rfl⟩
    have e79 : x77.toInt = 4 * x2.toInt := by rw [q78]; exact iv_mulc 4 (by decide) (by omega) (by omega)
    refine k_bin x77 78 rfl q78.symm rfl ?_
    have e80 : F60 30 = F16 30 := k64 30 (by decide)
    exact k_fin rfl rfl ⟨_, _, _, _, rfl, I73, (fr1.tr (by decide) (fr1.tr (by decide) (fr1.tr (by decide) fr1.rf k8) k20) k64), (fr2.tr (by decide) (fr2.tr (by decide) (fr2.tr (by decide) (fr2.tr (by decide) (fr2.tr (by decide) fr2.rf k9) k21) k36) k65) k76), ⟨(show F60 27 = F60 28 ∧ F0 28 ≤ F60 28 ∧ 4 * F60 28 ≤ 4 * F0 28 + nb (gn + 1) ∧ F60 30 = F0 30 + gn by omega), (show 4 * F0 28 ≤ x77.toInt ∧ x77.toInt < 4 * F60 28 by omega), fun q hq => by rw [((k76 29 (by decide)).trans ((k65 29 (by decide)).trans (k36 29 (by decide))))]; exact (hen q hq).trans (congrFun hq29 q), by rw [((k76 29 (by decide)).trans ((k65 29 (by decide)).trans (k36 29 (by decide))))]; omega, (show F60 28 = F0 28 + (cl (us (A0 1) gk (w2.toInt + 1) (2600 + F0 30)) (cs (A0 1) gk (w2.toInt + 1) (2600 + F0 30)) w2.toInt : Int) by rw [cl_0 hgd]; omega), fun v h1 h2 => by rw [((k76 29 (by decide)).trans ((k65 29 (by decide)).trans (k36 29 (by decide))))]; exact hcg v h1 (by omega), ⟨_, by rw [(k76 24 (by decide)), (k76 25 (by decide)), ((k76 29 (by decide)).trans ((k65 29 (by decide)).trans (k36 29 (by decide)))), show x77.toInt = 4 * F0 28 by omega]; exact ⟨hw5.1, fun q hq hn => by have h9 := hw5.2 q hq hn; exact ⟨by omega, h9.2⟩⟩, (fun p hp => by rw [ln_n (by omega), hl2 p (by omega), ln_n (by omega)]), (by rw [ln_n (by omega), show x77.toInt = 4 * F0 28 by omega]; exact hlm2)⟩⟩⟩
  · refine k_c2 69 rfl rfl (if_neg b55) ?_
    have b55 := mt iv_eq.mpr b55
    obtain ⟨h91, h92, -⟩ := hw3.2 (122 * w3.toInt + w2.toInt) ⟨by omega, by omega⟩ (by omega)
    refine k_iload 71 rfl gs_eq rfl ?_
    refine k_rv I33 rfl (m_wires  I33.1 (show 0 ≤ x51.toInt ∧ x51.toInt < 32040 ∧ 0 ≤ x44.toInt ∧ x44.toInt < 32040 by omega)) (Nat.ble_eq_true_of_le (by omega)) rfl rfl I33.rc ?_
    rintro h82 F83 A84 I85 ⟨k87, k88, p86⟩
    replace p86 : A84 26 x44.toInt = x51.toInt ∧ (x51.toInt ≠ x44.toInt → A84 26 x51.toInt = x44.toInt) ∧ (∀ x : Int, x ≠ x51.toInt → x ≠ x44.toInt → A84 26 x = (A32 26) x) := p86
    obtain ⟨p86a, p86b, p86c⟩ := p86
    have k87 := fr1.nil k87
    subst k87
    show am_Ok _ _ _ (74, _, [], _, 0, 0) _
    have hw5 := lz_end (s := x44.toInt) (m := x51.toInt) hw3 hM0 (by omega) (by omega) (by omega) (by omega) hend (by omega) (by omega) (by rw [hl2 _ (by omega), show x51.toInt = 4 * F0 28 + 2 by omega, ln_2]) p86a p86b p86c
    rw [q24, q25, q29] at hw5
    have hgd : us (A0 1) gk (w2.toInt + 1) (2600 + F0 30) w2.toInt = true := (hcg w2.toInt (by omega) (by omega)).mp (by omega)
    rw [q29] at hce hen hce2 hcg
    have hlm2 : lm2 (4 * F0 28) = w1.toInt := by rw [hl2 _ (by omega), ln_0]
    refine k_push 75 rfl rfl ?_
    refine k_iload 77 rfl (gs_ne rfl rfl (gs_ne rfl rfl gs_eq)) rfl ?_
    obtain ⟨x89, q90⟩ : ∃ q : Int32, q = ((4 : Int32) * x2) := ⟨_, rfl⟩
    have e91 : x89.toInt = 4 * x2.toInt := by rw [q90]; exact iv_mulc 4 (by decide) (by omega) (by omega)
    refine k_bin x89 78 rfl q90.symm rfl ?_
    exact k_fin rfl rfl ⟨_, _, _, _, rfl, I85, (fr1.tr (by decide) (fr1.tr (by decide) fr1.rf k8) k20), (fr2.tr (by decide) (fr2.tr (by decide) (fr2.tr (by decide) (fr2.tr (by decide) fr2.rf k9) k21) k36) k88), ⟨(show F16 27 = F16 28 ∧ F0 28 ≤ F16 28 ∧ 4 * F16 28 ≤ 4 * F0 28 + nb (gn + 1) ∧ F16 30 = F0 30 + gn by omega), (show 4 * F0 28 ≤ x89.toInt ∧ x89.toInt < 4 * F16 28 by omega), fun q hq => by rw [((k88 29 (by decide)).trans (k36 29 (by decide)))]; exact (hen q hq).trans (congrFun hq29 q), by rw [((k88 29 (by decide)).trans (k36 29 (by decide)))]; omega, (show F16 28 = F0 28 + (cl (us (A0 1) gk (w2.toInt + 1) (2600 + F0 30)) (cs (A0 1) gk (w2.toInt + 1) (2600 + F0 30)) w2.toInt : Int) by rw [cl_1 hgd]; omega), fun v h1 h2 => by rw [((k88 29 (by decide)).trans (k36 29 (by decide)))]; exact hcg v h1 (by omega), ⟨_, by rw [((k88 24 (by decide)).trans (k36 24 (by decide))), ((k88 25 (by decide)).trans (k36 25 (by decide))), ((k88 29 (by decide)).trans (k36 29 (by decide))), show x89.toInt = 4 * F0 28 by omega]; exact ⟨hw5.1, fun q hq hn => by have h9 := hw5.2 q hq hn; exact ⟨by omega, h9.2⟩⟩, (fun p hp => by rw [hl2 p (by omega), ln_n (by omega)]), (by rw [show x89.toInt = 4 * F0 28 by omega]; exact hlm2)⟩⟩⟩
end
