section
theorem b_X10_laysApplication_125 {h0 : am_h} {F0 : rf_f} {A0 : rf_A} {w1 : Int32} {w2 : Int32} {w3 : Int32} {gk gn gm : Nat} {lm : Int → Int} {gM : Int → Prop} (hrec : ∀ {h0 : am_h} {F0 : rf_f} {A0 : rf_A} {w1 w2 w3 : Int32} {gn : Nat} {lm : Int → Int} {gM : Int → Prop}, rf_R h0 F0 A0 → (sc (A0 1) gk w2.toInt (2600 + F0 30) gn) → (0 ≤ w1.toInt ∧ w1.toInt + gn ≤ 121 ∧ 0 ≤ w2.toInt ∧ w2.toInt + gn ≤ 121 ∧ 0 ≤ w3.toInt ∧ w3.toInt + gn ≤ 121) → (0 ≤ F0 30 ∧ F0 30 + gn ≤ 120) → (ly (A0 24) (A0 25) (A0 26) lm (F0 28) 200 gM) → (F0 27 = F0 28 ∧ 4 * F0 28 + nb gn ≤ 32000) → am_Mt (2 * gk) 193 [.inr (.inr (some 81)), .inl w1, .inl w2, .inl w3] h0 (rf_Q h0 (fun x F' A' => fr1 [27, 28, 30] F0 F' ∧ fr2 [24, 25, 26, 29] A0 A' ∧ ((F' 27 = F' 28 ∧ F0 28 ≤ F' 28 ∧ 4 * F' 28 ≤ 4 * F0 28 + nb gn ∧ F' 30 = F0 30 + gn) ∧ (4 * F0 28 ≤ x ∧ x < 4 * F' 28) ∧ (∀ q : Int, q < 122 * w3.toInt → A' 29 q = A0 29 q) ∧ 2 * ce (A' 29) (122 * w3.toInt) w2.toInt.toNat ≤ gn + 1 ∧ F' 28 = F0 28 + (cs (A0 1) gk w2.toInt (2600 + F0 30) : Int) ∧ (∀ v : Int, 0 ≤ v → v < w2.toInt → (A' 29 (122 * w3.toInt + v) ≠ -1 ↔ us (A0 1) gk w2.toInt (2600 + F0 30) v = true)) ∧ (∃ lm', lw (A' 24) (A' 25) (A' 26) lm' (F' 28) 200 (fun p => gM p ∨ p = x) (A' 29) (fr w3.toInt w2.toInt) (fun _ => w1.toInt + 1) (F0 28) ∧ (∀ p : Int, p < 4 * F0 28 → lm' p = lm p) ∧ lm' x = w1.toInt))))) (p1 : sc (A0 1) gk w2.toInt (2600 + F0 30) gn) (q1 : sc (A0 1) gk w2.toInt (2600 + F0 30 + gn) gm) (p2 : 0 ≤ w1.toInt ∧ w1.toInt + gn + gm + 1 ≤ 121 ∧ 0 ≤ w2.toInt ∧ w2.toInt + gn + gm + 1 ≤ 121 ∧ 0 ≤ w3.toInt ∧ w3.toInt + gn + gm + 1 ≤ 121) (p3 : 0 ≤ F0 30 ∧ F0 30 + gn + gm ≤ 120) (p4 : ly (A0 24) (A0 25) (A0 26) lm (F0 28) 200 gM) (p5 : F0 27 = F0 28 ∧ 4 * F0 28 + nb (gn + gm + 1) ≤ 32000) : ∀ (n : Nat) {lv : am_l} {h : am_h} {F : rf_f} {A : rf_A} {v1 : Int32} {v2 : Int32} {v3 : Int32} {v4 : Int32} {v5 : Int32} {lm1 : Int → Int} {kc1 kc2 : Nat} {gb : Int}, ((121 - v5.toInt).toNat) = n → am_get lv 0 = some (.inr (.inr (some 81))) → am_get lv 1 = some (.inl v1) → am_get lv 2 = some (.inl v2) → am_get lv 3 = some (.inl v3) → am_get lv 4 = some (.inl v4) → am_get lv 5 = some (.inl v5) → rf_I h0 h F A → fr1 [27, 28, 30] F0 F → fr2 [24, 25, 26, 29] A0 A → (v1.toInt = w1.toInt ∧ v2.toInt = w2.toInt ∧ v3.toInt = w3.toInt ∧ v4.toInt = F0 28 ∧ 0 ≤ v5.toInt ∧ v5.toInt ≤ w2.toInt) → (lw (A 24) (A 25) (A 26) lm1 (F 28) 200 (fun p => gM p ∨ p = 4 * F0 28 + 1) (A 29) (fun q => fr w3.toInt w2.toInt q ∨ (122 * (w3.toInt + 1) + v5.toInt ≤ q ∧ q < 122 * (w3.toInt + 1) + w2.toInt)) (fun _ => w1.toInt + 1) (F0 28)) → (si (A 29) (us (A0 1) gk w2.toInt (2600 + F0 30)) (us (A0 1) gk w2.toInt (2600 + F0 30 + gn)) w3.toInt w2.toInt v5.toInt) → (F 28 = gb + kc2 + cu (fun v => us (A0 1) gk w2.toInt (2600 + F0 30) v && us (A0 1) gk w2.toInt (2600 + F0 30 + gn) v) v5.toInt.toNat) → (F 27 = F 28 ∧ F 28 ≤ gb + kc2 + ce (A 29) (122 * (w3.toInt + 1)) v5.toInt.toNat ∧ F 30 = F0 30 + gn + gm ∧ F0 28 < F 28) → (ce (A 29) (122 * (w3.toInt + 1)) w2.toInt.toNat = kc2 ∧ ce (A 29) (122 * w3.toInt) w2.toInt.toNat ≤ kc1 + ce (A 29) (122 * (w3.toInt + 1)) v5.toInt.toNat) → (gb = F0 28 + 1 + (cs (A0 1) gk w2.toInt (2600 + F0 30) : Int) + (cs (A0 1) gk w2.toInt (2600 + F0 30 + gn) : Int)) → (2 * kc1 ≤ gn + 1 ∧ 2 * kc2 ≤ gm + 1 ∧ 4 * gb ≤ 4 * F0 28 + 4 + nb gn + nb gm) → (∀ q : Int, q < 122 * w3.toInt → A 29 q = A0 29 q) → ((∀ p : Int, p < 4 * F0 28 → lm1 p = lm p) ∧ lm1 (4 * F0 28 + 1) = w1.toInt) → am_Ok am_G (2 * gk) 195 (125, lv, [], h, 0, 0) (rf_Q h0 (fun x F' A' => fr1 [27, 28, 30] F0 F' ∧ fr2 [24, 25, 26, 29] A0 A' ∧ ((F' 27 = F' 28 ∧ F0 28 ≤ F' 28 ∧ 4 * F' 28 ≤ 4 * F0 28 + nb (gn + gm + 1) ∧ F' 30 = F0 30 + gn + gm) ∧ (4 * F0 28 ≤ x ∧ x < 4 * F' 28) ∧ (∀ q : Int, q < 122 * w3.toInt → A' 29 q = A0 29 q) ∧ 2 * ce (A' 29) (122 * w3.toInt) w2.toInt.toNat ≤ (gn + gm + 1) + 1 ∧ F' 28 = F0 28 + (ca (us (A0 1) gk w2.toInt (2600 + F0 30)) (us (A0 1) gk w2.toInt (2600 + F0 30 + gn)) (cs (A0 1) gk w2.toInt (2600 + F0 30)) (cs (A0 1) gk w2.toInt (2600 + F0 30 + gn)) w2.toInt.toNat : Int) ∧ (∀ v : Int, 0 ≤ v → v < w2.toInt → (A' 29 (122 * w3.toInt + v) ≠ -1 ↔ (us (A0 1) gk w2.toInt (2600 + F0 30) v || us (A0 1) gk w2.toInt (2600 + F0 30 + gn) v) = true)) ∧ (∃ lm', lw (A' 24) (A' 25) (A' 26) lm' (F' 28) 200 (fun p => gM p ∨ p = x) (A' 29) (fr w3.toInt w2.toInt) (fun _ => w1.toInt + 1) (F0 28) ∧ (∀ p : Int, p < 4 * F0 28 → lm' p = lm p) ∧ lm' x = w1.toInt)))) := by
  intro n
  induction n using Nat.strongRecOn with
  | ind n ih =>
    intro lv h F A v1 v2 v3 v4 v5 lm1 kc1 kc2 gb hn g0 g1 g2 g3 g4 g5 hI hF hA i1 i2 i8 ib i3 i4 i9 i5 i6 i7
    have hn1 := sc_n p1
    have hgk := sc_pos p1
    have hnp := nb_pos gn
    have hb1 := p4.1.2.2
    have hM0 : ∀ p : Int, gM p → p < 4 * F0 28 := fun p z => (p4.lt z).2
    have hm1 := sc_n q1
    have hnm := nb_pos gm
    have hna := nb_app (a := gn) (b := gm) hn1
    refine k_iload 127 rfl g5 rfl ?_
    refine k_iload 128 rfl g2 rfl ?_
    by_cases b1 : v2 ≤ v5
    · refine k_c2 255 rfl rfl (if_pos b1) ?_
      have b1 := iv_le.mp b1
      refine k_push 256 rfl rfl ?_
      have hc2 : (4 : Int32).toInt = 4 := by decide
      refine k_iload 258 rfl g4 rfl ?_
      obtain ⟨x3, q4⟩ : ∃ q : Int32, q = ((4 : Int32) * v4) := ⟨_, rfl⟩
      have e5 : x3.toInt = 4 * v4.toInt := by rw [q4]; exact iv_mulc 4 (by decide) (by omega) (by omega)
      refine k_bin x3 259 rfl q4.symm rfl ?_
      refine k_push 260 rfl rfl ?_
      have hc6 : (1 : Int32).toInt = 1 := by decide
      obtain ⟨x7, q8⟩ : ∃ q : Int32, q = (x3 + (1 : Int32)) := ⟨_, rfl⟩
      have e9 : x7.toInt = x3.toInt + 1 := by rw [q8, iv_add (by omega) (by omega)]; omega
      refine k_bin x7 261 rfl q8.symm rfl ?_
      exact k_fin rfl rfl ⟨_, _, _, _, rfl, hI, hF, hA, ⟨(show F 27 = F 28 ∧ F0 28 ≤ F 28 ∧ 4 * F 28 ≤ 4 * F0 28 + nb (gn + gm + 1) ∧ F 30 = F0 30 + gn + gm by rw [show v5.toInt = w2.toInt by omega] at i3; omega), (show 4 * F0 28 ≤ x7.toInt ∧ x7.toInt < 4 * F 28 by omega), i6, by rw [show v5.toInt = w2.toInt by omega] at i4; omega, (show F 28 = F0 28 + (ca (us (A0 1) gk w2.toInt (2600 + F0 30)) (us (A0 1) gk w2.toInt (2600 + F0 30 + gn)) (cs (A0 1) gk w2.toInt (2600 + F0 30)) (cs (A0 1) gk w2.toInt (2600 + F0 30 + gn)) w2.toInt.toNat : Int) by have hk2 : kc2 = cu (us (A0 1) gk w2.toInt (2600 + F0 30 + gn)) w2.toInt.toNat := i4.1.symm.trans (ce_cu _ (fun v h1 h2 => (i8 v h1 (by omega)).1)); rw [show v5.toInt = w2.toInt by omega] at ib; unfold ca; omega), (fun v h1 h2 => (i8 v h1 h2).2.1 (by omega)), ⟨lm1, by rw [show x7.toInt = 4 * F0 28 + 1 by omega]; exact i2.cg (fun p => Iff.rfl) (fun q => by unfold fr; omega) (fun q _ => rfl) (fun q _ _ => rfl), i7.1, by rw [show x7.toInt = 4 * F0 28 + 1 by omega]; exact i7.2⟩⟩⟩
    · refine k_c2 131 rfl rfl (if_neg b1) ?_
      have b1 := mt iv_le.mpr b1
      have hcx := cu_nx (g := (fun v => us (A0 1) gk w2.toInt (2600 + F0 30) v && us (A0 1) gk w2.toInt (2600 + F0 30 + gn) v)) (i := v5.toInt) (by omega)
      obtain ⟨u92, -, u91⟩ := i8 v5.toInt (by omega) (by omega)
      have u91 := u91 (by omega)
      refine k_aload 132 rfl g0 rfl ?_
      refine r_gA hI 135 rfl rfl rfl ?_
      refine k_aload 136 rfl g0 rfl ?_
      refine k_iload 137 rfl g3 rfl ?_
      refine k_iload 139 rfl g5 rfl ?_
      refine k_in (d := 0) rfl (Nat.ble_eq_true_of_le (by omega)) rfl rfl hI.rc ?_
      refine k_push 2 rfl rfl ?_
      have hc10 : (122 : Int32).toInt = 122 := by decide
      refine k_iload 3 rfl rfl rfl ?_
      obtain ⟨x11, q12⟩ : ∃ q : Int32, q = ((122 : Int32) * v3) := ⟨_, rfl⟩
      have e13 : x11.toInt = 122 * v3.toInt := by rw [q12]; exact iv_mulc 122 (by decide) (by omega) (by omega)
      refine k_bin x11 4 rfl q12.symm rfl ?_
      refine k_iload 5 rfl rfl rfl ?_
      obtain ⟨x14, q15⟩ : ∃ q : Int32, q = (x11 + v5) := ⟨_, rfl⟩
      have e16 : x14.toInt = x11.toInt + v5.toInt := by rw [q15, iv_add (by omega) (by omega)]
      refine k_bin x14 6 rfl q15.symm rfl ?_
      refine k_fin rfl rfl ⟨_, _, rfl, rf_len hI hI, ?_⟩
      show am_Ok _ _ _ (142, _, [.inl x14, .inr (.inr (some (rf_ad 29)))], _, 0, 0) _
      refine r_ld 29 hI 143 rfl rfl (by omega) (show x14.toInt < 30012 by omega) rfl (fun x17 (e18 : x17.toInt = A 29 x14.toInt) => ?_)
      rw [e16] at e18
      rw [e13] at e18
      refine k_istore 145 rfl rfl ?_
      have ho9 : x17.toInt = A 29 (122 * w3.toInt + v5.toInt) := by rw [e18, i1.2.2.1]
      refine k_aload 146 rfl (gs_ne rfl rfl g0) rfl ?_
      refine r_gA hI 149 rfl rfl rfl ?_
      refine k_aload 150 rfl (gs_ne rfl rfl g0) rfl ?_
      refine k_iload 151 rfl (gs_ne rfl rfl g3) rfl ?_
      refine k_push 152 rfl rfl ?_
      have hc19 : (1 : Int32).toInt = 1 := by decide
      obtain ⟨x20, q21⟩ : ∃ q : Int32, q = (v3 + (1 : Int32)) := ⟨_, rfl⟩
      have e22 : x20.toInt = v3.toInt + 1 := by rw [q21, iv_add (by omega) (by omega)]; omega
      refine k_bin x20 153 rfl q21.symm rfl ?_
      refine k_iload 155 rfl (gs_ne rfl rfl g5) rfl ?_
      refine k_in (d := 0) rfl (Nat.ble_eq_true_of_le (by omega)) rfl rfl hI.rc ?_
      refine k_push 2 rfl rfl ?_
      refine k_iload 3 rfl rfl rfl ?_
      obtain ⟨x23, q24⟩ : ∃ q : Int32, q = ((122 : Int32) * x20) := ⟨_, rfl⟩
      have e25 : x23.toInt = 122 * x20.toInt := by rw [q24]; exact iv_mulc 122 (by decide) (by omega) (by omega)
      refine k_bin x23 4 rfl q24.symm rfl ?_
      refine k_iload 5 rfl rfl rfl ?_
      obtain ⟨x26, q27⟩ : ∃ q : Int32, q = (x23 + v5) := ⟨_, rfl⟩
      have e28 : x26.toInt = x23.toInt + v5.toInt := by rw [q27, iv_add (by omega) (by omega)]
      refine k_bin x26 6 rfl q27.symm rfl ?_
      refine k_fin rfl rfl ⟨_, _, rfl, rf_len hI hI, ?_⟩
      show am_Ok _ _ _ (158, _, [.inl x26, .inr (.inr (some (rf_ad 29)))], _, 0, 0) _
      refine r_ld 29 hI 159 rfl rfl (by omega) (show x26.toInt < 30012 by omega) rfl (fun x29 (e30 : x29.toInt = A 29 x26.toInt) => ?_)
      rw [e28] at e30
      rw [e25] at e30
      rw [e22] at e30
      refine k_istore 161 rfl rfl ?_
      have hone : x17.toInt = A 29 (122 * w3.toInt + v5.toInt) := by rw [ho9]
      have hoth : x29.toInt = A 29 (122 * (w3.toInt + 1) + v5.toInt) := by rw [e30, i1.2.2.1]
      have hcn := ce_nx (e := A 29) (s := 122 * (w3.toInt + 1)) (i := v5.toInt) (by omega)
      have hcm := ce_mono (e := A 29) (s := 122 * (w3.toInt + 1)) (m := (v5.toInt + 1).toNat) (n := w2.toInt.toNat) (by omega)
      refine k_iload 163 rfl (gs_ne rfl rfl gs_eq) rfl ?_
      refine k_push 164 rfl rfl ?_
      have hc31 : (-1 : Int32).toInt = -1 := by decide
      by_cases b32 : x17 = (-1 : Int32)
      · refine k_c2 173 rfl rfl (if_pos b32) ?_
        have b32 := iv_eq.mp b32
        refine k_aload 174 rfl (gs_ne rfl rfl (gs_ne rfl rfl g0)) rfl ?_
        refine r_gA hI 177 rfl rfl rfl ?_
        refine k_aload 178 rfl (gs_ne rfl rfl (gs_ne rfl rfl g0)) rfl ?_
        refine k_iload 179 rfl (gs_ne rfl rfl (gs_ne rfl rfl g3)) rfl ?_
        refine k_iload 181 rfl (gs_ne rfl rfl (gs_ne rfl rfl g5)) rfl ?_
        refine k_in (d := 0) rfl (Nat.ble_eq_true_of_le (by omega)) rfl rfl hI.rc ?_
        refine k_push 2 rfl rfl ?_
        refine k_iload 3 rfl rfl rfl ?_
        obtain ⟨x33, q34⟩ : ∃ q : Int32, q = ((122 : Int32) * v3) := ⟨_, rfl⟩
        have e35 : x33.toInt = 122 * v3.toInt := by rw [q34]; exact iv_mulc 122 (by decide) (by omega) (by omega)
        refine k_bin x33 4 rfl q34.symm rfl ?_
        refine k_iload 5 rfl rfl rfl ?_
        obtain ⟨x36, q37⟩ : ∃ q : Int32, q = (x33 + v5) := ⟨_, rfl⟩
        have e38 : x36.toInt = x33.toInt + v5.toInt := by rw [q37, iv_add (by omega) (by omega)]
        refine k_bin x36 6 rfl q37.symm rfl ?_
        refine k_fin rfl rfl ⟨_, _, rfl, rf_len hI hI, ?_⟩
        show am_Ok _ _ _ (184, _, [.inl x36, .inr (.inr (some (rf_ad 29)))], _, 0, 0) _
        refine k_iload 186 rfl (gs_ne rfl rfl gs_eq) rfl ?_
        refine k_push 187 rfl rfl ?_
        by_cases b39 : x17 = (-1 : Int32)
        · refine k_c2 190 rfl rfl (if_pos b39) ?_
          have b39 := iv_eq.mp b39
          refine k_iload 192 rfl gs_eq rfl ?_
          refine k_goto 197 rfl rfl ?_
          refine r_st 29 hI 198 rfl rfl (by omega) (show x36.toInt < 30012 by omega) rfl (fun h40 I41 => ?_)
          refine k_goto 249 rfl rfl ?_
          have hu1 : ¬ us (A0 1) gk w2.toInt (2600 + F0 30) v5.toInt = true := fun z => u91.mpr z (by omega)
          have hcx1 := hcx.2 (show ¬ (us (A0 1) gk w2.toInt (2600 + F0 30) v5.toInt && us (A0 1) gk w2.toInt (2600 + F0 30 + gn) v5.toInt) = true by rw [Bool.and_eq_true]; exact fun z => hu1 z.1)
          have he1 : ((up2 A 29 x36.toInt x29.toInt) 29) (122 * w3.toInt + v5.toInt) = A 29 (122 * (w3.toInt + 1) + v5.toInt) := by rw [show (122 * w3.toInt + v5.toInt) = x36.toInt by omega]; exact up2_eq.trans hoth
          have he2 : ∀ q : Int, q ≠ (122 * w3.toInt + v5.toInt) → ((up2 A 29 x36.toInt x29.toInt) 29) q = A 29 q := fun q hq => up2_ne (by omega)
          have hcu := ce_up (e := A 29) (e' := ((up2 A 29 x36.toInt x29.toInt) 29)) (s := 122 * w3.toInt) (q0 := (122 * w3.toInt + v5.toInt)) w2.toInt.toNat he2
          have hco : ∀ n : Nat, ce ((up2 A 29 x36.toInt x29.toInt) 29) (122 * (w3.toInt + 1)) n = ce (A 29) (122 * (w3.toInt + 1)) n := fun n => ce_eq n (fun q h1 h2 => by rw [he2 q (by omega)])
          have hsi := si_step i8 (by omega) he2 (by rw [he1, Bool.or_eq_true]; exact ⟨fun z => Or.inr (u92.mp z), fun z => z.elim (fun y => absurd y hu1) (fun y => u92.mpr y)⟩)
          obtain ⟨x42, q43⟩ : ∃ q : Int32, q = v5 + (1 : Int32) := ⟨_, rfl⟩
          have e44 : x42.toInt = v5.toInt + 1 := by rw [q43, iv_add (by omega) (by omega)]; omega
          refine k_iinc x42 252 rfl (gs_ne rfl rfl (gs_ne rfl rfl g5)) q43.symm rfl ?_
          refine k_goto 125 rfl rfl ?_
          exact ih _ (show ((121 - x42.toInt).toNat) < n by omega) (lm1 := lm1) (kc1 := kc1) (kc2 := kc2) (gb := gb) rfl (gs_ne rfl rfl (gs_ne rfl rfl (gs_ne rfl rfl g0))) (gs_ne rfl rfl (gs_ne rfl rfl (gs_ne rfl rfl g1))) (gs_ne rfl rfl (gs_ne rfl rfl (gs_ne rfl rfl g2))) (gs_ne rfl rfl (gs_ne rfl rfl (gs_ne rfl rfl g3))) (gs_ne rfl rfl (gs_ne rfl rfl (gs_ne rfl rfl g4))) gs_eq I41 hF (fr2.up (by decide) hA) (show v1.toInt = w1.toInt ∧ v2.toInt = w2.toInt ∧ v3.toInt = w3.toInt ∧ v4.toInt = F0 28 ∧ 0 ≤ x42.toInt ∧ x42.toInt ≤ w2.toInt by omega) (by rw [show x42.toInt = v5.toInt + 1 by omega, up2_k (by decide), up2_k (by decide), up2_k (by decide)]; exact (lz_mv (q0 := (122 * w3.toInt + v5.toInt)) (r0 := (122 * (w3.toInt + 1) + v5.toInt)) i2 (Or.inl ⟨by omega, by omega⟩) (by omega) (Or.inr ⟨by omega, by omega⟩) (by omega) rfl he1 he2).cg (fun p => Iff.rfl) (fun q => lz_S (by omega)) (fun q _ => rfl) (fun q _ _ => rfl)) ((by rw [show x42.toInt = v5.toInt + 1 by omega]; exact hsi)) ((show F 28 = gb + kc2 + ((cu (fun v => us (A0 1) gk w2.toInt (2600 + F0 30) v && us (A0 1) gk w2.toInt (2600 + F0 30 + gn) v) x42.toInt.toNat : Nat) : Int) by rw [show x42.toInt = v5.toInt + 1 by omega]; omega)) ((show F 27 = F 28 ∧ F 28 ≤ gb + kc2 + ce ((up2 A 29 x36.toInt x29.toInt) 29) (122 * (w3.toInt + 1)) x42.toInt.toNat ∧ F 30 = F0 30 + gn + gm ∧ F0 28 < F 28 by rw [show x42.toInt = v5.toInt + 1 by omega, hco]; omega)) ((show ce ((up2 A 29 x36.toInt x29.toInt) 29) (122 * (w3.toInt + 1)) w2.toInt.toNat = kc2 ∧ ce ((up2 A 29 x36.toInt x29.toInt) 29) (122 * w3.toInt) w2.toInt.toNat ≤ kc1 + ce ((up2 A 29 x36.toInt x29.toInt) 29) (122 * (w3.toInt + 1)) x42.toInt.toNat by rw [show x42.toInt = v5.toInt + 1 by omega, hco, hco]; omega)) (show (gb) = F0 28 + 1 + (cs (A0 1) gk w2.toInt (2600 + F0 30) : Int) + (cs (A0 1) gk w2.toInt (2600 + F0 30 + gn) : Int) by omega) (show 2 * (kc1) ≤ gn + 1 ∧ 2 * (kc2) ≤ gm + 1 ∧ 4 * (gb) ≤ 4 * F0 28 + 4 + nb gn + nb gm by omega) ((fun q hq => (he2 q (by omega)).trans (i6 q hq))) (i7)
        · refine k_c2 195 rfl rfl (if_neg b39) ?_
          have b39 := mt iv_eq.mpr b39
          exfalso
          omega
      · refine k_c2 167 rfl rfl (if_neg b32) ?_
        have b32 := mt iv_eq.mpr b32
        refine k_iload 169 rfl gs_eq rfl ?_
        refine k_push 170 rfl rfl ?_
        by_cases b45 : x29 = (-1 : Int32)
        · refine k_c2 173 rfl rfl (if_pos b45) ?_
          have b45 := iv_eq.mp b45
          refine k_aload 174 rfl (gs_ne rfl rfl (gs_ne rfl rfl g0)) rfl ?_
          refine r_gA hI 177 rfl rfl rfl ?_
          refine k_aload 178 rfl (gs_ne rfl rfl (gs_ne rfl rfl g0)) rfl ?_
          refine k_iload 179 rfl (gs_ne rfl rfl (gs_ne rfl rfl g3)) rfl ?_
          refine k_iload 181 rfl (gs_ne rfl rfl (gs_ne rfl rfl g5)) rfl ?_
          refine k_in (d := 0) rfl (Nat.ble_eq_true_of_le (by omega)) rfl rfl hI.rc ?_
          refine k_push 2 rfl rfl ?_
          refine k_iload 3 rfl rfl rfl ?_
          obtain ⟨x46, q47⟩ : ∃ q : Int32, q = ((122 : Int32) * v3) := ⟨_, rfl⟩
          have e48 : x46.toInt = 122 * v3.toInt := by rw [q47]; exact iv_mulc 122 (by decide) (by omega) (by omega)
          refine k_bin x46 4 rfl q47.symm rfl ?_
          refine k_iload 5 rfl rfl rfl ?_
          obtain ⟨x49, q50⟩ : ∃ q : Int32, q = (x46 + v5) := ⟨_, rfl⟩
          have e51 : x49.toInt = x46.toInt + v5.toInt := by rw [q50, iv_add (by omega) (by omega)]
          refine k_bin x49 6 rfl q50.symm rfl ?_
          refine k_fin rfl rfl ⟨_, _, rfl, rf_len hI hI, ?_⟩
          show am_Ok _ _ _ (184, _, [.inl x49, .inr (.inr (some (rf_ad 29)))], _, 0, 0) _
          refine k_iload 186 rfl (gs_ne rfl rfl gs_eq) rfl ?_
          refine k_push 187 rfl rfl ?_
          by_cases b52 : x17 = (-1 : Int32)
          · refine k_c2 190 rfl rfl (if_pos b52) ?_
            have b52 := iv_eq.mp b52
            exfalso
            omega
          · refine k_c2 195 rfl rfl (if_neg b52) ?_
            have b52 := mt iv_eq.mpr b52
            refine k_iload 197 rfl (gs_ne rfl rfl gs_eq) rfl ?_
            refine r_st 29 hI 198 rfl rfl (by omega) (show x49.toInt < 30012 by omega) rfl (fun h53 I54 => ?_)
            refine k_goto 249 rfl rfl ?_
            have hu1 : us (A0 1) gk w2.toInt (2600 + F0 30) v5.toInt = true := u91.mp (by omega)
            have hu2 : ¬ us (A0 1) gk w2.toInt (2600 + F0 30 + gn) v5.toInt = true := fun z => u92.mpr z (by omega)
            have hcx1 := hcx.2 (show ¬ (us (A0 1) gk w2.toInt (2600 + F0 30) v5.toInt && us (A0 1) gk w2.toInt (2600 + F0 30 + gn) v5.toInt) = true by rw [Bool.and_eq_true]; exact fun z => hu2 z.2)
            have he2 : ∀ q : Int, ((up2 A 29 x49.toInt x17.toInt) 29) q = A 29 q := fun q => by by_cases z : q = x49.toInt; rw [z]; exact up2_eq.trans (hone.trans (congrArg (A 29) (by omega))); exact up2_ne z
            have hcs : ∀ (s : Int) (n : Nat), ce ((up2 A 29 x49.toInt x17.toInt) 29) s n = ce (A 29) s n := fun s n => ce_eq n (fun q h1 h2 => by rw [he2 q])
            have hsi := si_step i8 (by omega) (fun q _ => he2 q) ⟨fun _ => by rw [hu1]; rfl, fun _ => by rw [he2]; omega⟩
            obtain ⟨x55, q56⟩ : ∃ q : Int32, q = v5 + (1 : Int32) := ⟨_, rfl⟩
            have e57 : x55.toInt = v5.toInt + 1 := by rw [q56, iv_add (by omega) (by omega)]; omega
            refine k_iinc x55 252 rfl (gs_ne rfl rfl (gs_ne rfl rfl g5)) q56.symm rfl ?_
            refine k_goto 125 rfl rfl ?_
            exact ih _ (show ((121 - x55.toInt).toNat) < n by omega) (lm1 := lm1) (kc1 := kc1) (kc2 := kc2) (gb := gb) rfl (gs_ne rfl rfl (gs_ne rfl rfl (gs_ne rfl rfl g0))) (gs_ne rfl rfl (gs_ne rfl rfl (gs_ne rfl rfl g1))) (gs_ne rfl rfl (gs_ne rfl rfl (gs_ne rfl rfl g2))) (gs_ne rfl rfl (gs_ne rfl rfl (gs_ne rfl rfl g3))) (gs_ne rfl rfl (gs_ne rfl rfl (gs_ne rfl rfl g4))) gs_eq I54 hF (fr2.up (by decide) hA) (show v1.toInt = w1.toInt ∧ v2.toInt = w2.toInt ∧ v3.toInt = w3.toInt ∧ v4.toInt = F0 28 ∧ 0 ≤ x55.toInt ∧ x55.toInt ≤ w2.toInt by omega) (by rw [show x55.toInt = v5.toInt + 1 by omega, up2_k (by decide), up2_k (by decide), up2_k (by decide)]; exact (lz_keep (r0 := (122 * (w3.toInt + 1) + v5.toInt)) i2 (by omega) he2).cg (fun p => Iff.rfl) (fun q => lz_S (by omega)) (fun q _ => rfl) (fun q _ _ => rfl)) ((by rw [show x55.toInt = v5.toInt + 1 by omega]; exact hsi)) ((show F 28 = gb + kc2 + ((cu (fun v => us (A0 1) gk w2.toInt (2600 + F0 30) v && us (A0 1) gk w2.toInt (2600 + F0 30 + gn) v) x55.toInt.toNat : Nat) : Int) by rw [show x55.toInt = v5.toInt + 1 by omega]; omega)) ((show F 27 = F 28 ∧ F 28 ≤ gb + kc2 + ce ((up2 A 29 x49.toInt x17.toInt) 29) (122 * (w3.toInt + 1)) x55.toInt.toNat ∧ F 30 = F0 30 + gn + gm ∧ F0 28 < F 28 by rw [show x55.toInt = v5.toInt + 1 by omega, hcs]; omega)) ((show ce ((up2 A 29 x49.toInt x17.toInt) 29) (122 * (w3.toInt + 1)) w2.toInt.toNat = kc2 ∧ ce ((up2 A 29 x49.toInt x17.toInt) 29) (122 * w3.toInt) w2.toInt.toNat ≤ kc1 + ce ((up2 A 29 x49.toInt x17.toInt) 29) (122 * (w3.toInt + 1)) x55.toInt.toNat by rw [show x55.toInt = v5.toInt + 1 by omega, hcs, hcs, hcs]; omega)) (show (gb) = F0 28 + 1 + (cs (A0 1) gk w2.toInt (2600 + F0 30) : Int) + (cs (A0 1) gk w2.toInt (2600 + F0 30 + gn) : Int) by omega) (show 2 * (kc1) ≤ gn + 1 ∧ 2 * (kc2) ≤ gm + 1 ∧ 4 * (gb) ≤ 4 * F0 28 + 4 + nb gn + nb gm by omega) ((fun q hq => (he2 q).trans (i6 q hq))) (i7)
        · refine k_c2 201 rfl rfl (if_neg b45) ?_
          have b45 := mt iv_eq.mpr b45
          obtain ⟨s91, s92, -⟩ := i2.2 (122 * w3.toInt + v5.toInt) (Or.inl ⟨by omega, by omega⟩) (by omega)
          obtain ⟨s93, s94, -⟩ := i2.2 (122 * (w3.toInt + 1) + v5.toInt) (Or.inr ⟨by omega, by omega⟩) (by omega)
          refine k_aload 202 rfl (gs_ne rfl rfl (gs_ne rfl rfl g0)) rfl ?_
          refine k_push 203 rfl rfl ?_
          have hc58 : (3 : Int32).toInt = 3 := by decide
          refine k_iload 204 rfl (gs_ne rfl rfl (gs_ne rfl rfl g1)) rfl ?_
          refine k_rq hI rfl (m_newNode (gB := 8000) hI.1 (show 0 ≤ (F 28) ∧ (F 28) ≤ (8000) ∧ (8000) ≤ 8000 ∧ 0 ≤ (F 27) ∧ (F 27) ≤ 10000 by omega) (show (∀ q : Int, 0 ≤ q → q < (F 28) → (A 24) q ≠ -1) → (F 28) < (8000) from fun _ => by omega)) (Nat.ble_eq_true_of_le (by omega)) rfl rfl hI.rc ?_
          rintro x59 h60 F61 A62 I63 ⟨k65, k66, p64⟩
          replace p64 : (0 ≤ x59.toInt ∧ F61 28 ≤ (8000) ∧ F61 27 = (F 27) + 1) ∧ (A62 24 x59.toInt = (3 : Int32).toInt ∧ A62 25 x59.toInt = v1.toInt) ∧ (∀ y : Int, y ≠ x59.toInt → A62 24 y = (A 24) y ∧ A62 25 y = (A 25) y) ∧ ((x59.toInt = (F 28) ∧ F61 28 = (F 28) + 1) ∨ (x59.toInt < (F 28) ∧ (A 24) x59.toInt = -1 ∧ F61 28 = (F 28))) := p64
          obtain ⟨p64a, p64b, p64c, p64d⟩ := p64
          show am_Ok _ _ _ (207, _, [.inl x59], _, 0, 0) _
          obtain ⟨hx9, hb9⟩ := i2.1.new p64a.1 p64d
          have hq26 : (A62 26) = A 26 := (k66 26 (by decide))
          have hq29 : (A62 29) = A 29 := (k66 29 (by decide))
          refine k_istore 209 rfl rfl ?_
          refine k_aload 210 rfl (gs_ne rfl rfl (gs_ne rfl rfl (gs_ne rfl rfl g0))) rfl ?_
          refine k_push 211 rfl rfl ?_
          have hc67 : (4 : Int32).toInt = 4 := by decide
          refine k_iload 213 rfl gs_eq rfl ?_
          obtain ⟨x68, q69⟩ : ∃ q : Int32, q = ((4 : Int32) * x59) := ⟨_, rfl⟩
          have e70 : x68.toInt = 4 * x59.toInt := by rw [q69]; exact iv_mulc 4 (by decide) (by omega) (by omega)
          refine k_bin x68 214 rfl q69.symm rfl ?_
          refine k_push 215 rfl rfl ?_
          obtain ⟨x71, q72⟩ : ∃ q : Int32, q = (x68 + (1 : Int32)) := ⟨_, rfl⟩
          have e73 : x71.toInt = x68.toInt + 1 := by rw [q72, iv_add (by omega) (by omega)]; omega
          refine k_bin x71 216 rfl q72.symm rfl ?_
          refine k_iload 218 rfl (gs_ne rfl rfl (gs_ne rfl rfl gs_eq)) rfl ?_
          refine k_rv I63 rfl (m_wires  I63.1 (show 0 ≤ x71.toInt ∧ x71.toInt < 32040 ∧ 0 ≤ x17.toInt ∧ x17.toInt < 32040 by omega)) (Nat.ble_eq_true_of_le (by omega)) rfl rfl I63.rc ?_
          rintro h75 F76 A77 I78 ⟨k80, k81, p79⟩
          replace p79 : A77 26 x17.toInt = x71.toInt ∧ (x71.toInt ≠ x17.toInt → A77 26 x71.toInt = x17.toInt) ∧ (∀ x : Int, x ≠ x71.toInt → x ≠ x17.toInt → A77 26 x = (A62 26) x) := p79
          obtain ⟨p79a, p79b, p79c⟩ := p79
          have k80 := fr1.nil k80
          subst k80
          show am_Ok _ _ _ (221, _, [], _, 0, 0) _
          have w1a := p79a
          have w1b := p79b
          have w1c := p79c
          rw [hq26] at w1c
          have w1r := x71
          have hr1 : x71.toInt = 4 * F 28 + 1 := by omega
          refine k_aload 222 rfl (gs_ne rfl rfl (gs_ne rfl rfl (gs_ne rfl rfl g0))) rfl ?_
          refine k_push 223 rfl rfl ?_
          refine k_iload 225 rfl gs_eq rfl ?_
          obtain ⟨x82, q83⟩ : ∃ q : Int32, q = ((4 : Int32) * x59) := ⟨_, rfl⟩
          have e84 : x82.toInt = 4 * x59.toInt := by rw [q83]; exact iv_mulc 4 (by decide) (by omega) (by omega)
          refine k_bin x82 226 rfl q83.symm rfl ?_
          refine k_push 227 rfl rfl ?_
          have hc85 : (2 : Int32).toInt = 2 := by decide
          obtain ⟨x86, q87⟩ : ∃ q : Int32, q = (x82 + (2 : Int32)) := ⟨_, rfl⟩
          have e88 : x86.toInt = x82.toInt + 2 := by rw [q87, iv_add (by omega) (by omega)]; omega
          refine k_bin x86 228 rfl q87.symm rfl ?_
          refine k_iload 230 rfl (gs_ne rfl rfl gs_eq) rfl ?_
          refine k_rv I78 rfl (m_wires  I78.1 (show 0 ≤ x86.toInt ∧ x86.toInt < 32040 ∧ 0 ≤ x29.toInt ∧ x29.toInt < 32040 by omega)) (Nat.ble_eq_true_of_le (by omega)) rfl rfl I78.rc ?_
          rintro h90 F91 A92 I93 ⟨k95, k96, p94⟩
          replace p94 : A92 26 x29.toInt = x86.toInt ∧ (x86.toInt ≠ x29.toInt → A92 26 x86.toInt = x29.toInt) ∧ (∀ x : Int, x ≠ x86.toInt → x ≠ x29.toInt → A92 26 x = (A77 26) x) := p94
          obtain ⟨p94a, p94b, p94c⟩ := p94
          have k95 := fr1.nil k95
          subst k95
          show am_Ok _ _ _ (233, _, [], _, 0, 0) _
          refine k_aload 234 rfl (gs_ne rfl rfl (gs_ne rfl rfl (gs_ne rfl rfl g0))) rfl ?_
          refine r_gA I93 237 rfl rfl rfl ?_
          refine k_aload 238 rfl (gs_ne rfl rfl (gs_ne rfl rfl (gs_ne rfl rfl g0))) rfl ?_
          refine k_iload 239 rfl (gs_ne rfl rfl (gs_ne rfl rfl (gs_ne rfl rfl g3))) rfl ?_
          refine k_iload 241 rfl (gs_ne rfl rfl (gs_ne rfl rfl (gs_ne rfl rfl g5))) rfl ?_
          refine k_in (d := 0) rfl (Nat.ble_eq_true_of_le (by omega)) rfl rfl I93.rc ?_
          refine k_push 2 rfl rfl ?_
          refine k_iload 3 rfl rfl rfl ?_
          obtain ⟨x97, q98⟩ : ∃ q : Int32, q = ((122 : Int32) * v3) := ⟨_, rfl⟩
          have e99 : x97.toInt = 122 * v3.toInt := by rw [q98]; exact iv_mulc 122 (by decide) (by omega) (by omega)
          refine k_bin x97 4 rfl q98.symm rfl ?_
          refine k_iload 5 rfl rfl rfl ?_
          obtain ⟨x100, q101⟩ : ∃ q : Int32, q = (x97 + v5) := ⟨_, rfl⟩
          have e102 : x100.toInt = x97.toInt + v5.toInt := by rw [q101, iv_add (by omega) (by omega)]
          refine k_bin x100 6 rfl q101.symm rfl ?_
          refine k_fin rfl rfl ⟨_, _, rfl, rf_len I93 I93, ?_⟩
          show am_Ok _ _ _ (244, _, [.inl x100, .inr (.inr (some (rf_ad 29)))], _, 0, 0) _
          refine k_push 245 rfl rfl ?_
          refine k_iload 247 rfl gs_eq rfl ?_
          obtain ⟨x103, q104⟩ : ∃ q : Int32, q = ((4 : Int32) * x59) := ⟨_, rfl⟩
          have e105 : x103.toInt = 4 * x59.toInt := by rw [q104]; exact iv_mulc 4 (by decide) (by omega) (by omega)
          refine k_bin x103 248 rfl q104.symm rfl ?_
          refine r_st 29 I93 249 rfl rfl (by omega) (show x100.toInt < 30012 by omega) rfl (fun h106 I107 => ?_)
          have hu1 : us (A0 1) gk w2.toInt (2600 + F0 30) v5.toInt = true := u91.mp (by omega)
          have hu2 : us (A0 1) gk w2.toInt (2600 + F0 30 + gn) v5.toInt = true := u92.mp (by omega)
          have hcx1 := hcx.1 (show (us (A0 1) gk w2.toInt (2600 + F0 30) v5.toInt && us (A0 1) gk w2.toInt (2600 + F0 30 + gn) v5.toInt) = true by rw [hu1, hu2]; rfl)
          have he1 : ((up2 A92 29 x100.toInt x103.toInt) 29) (122 * w3.toInt + v5.toInt) = 4 * F 28 := by rw [show (122 * w3.toInt + v5.toInt) = x100.toInt by omega]; exact up2_eq.trans (by omega)
          have he2 : ∀ q : Int, q ≠ (122 * w3.toInt + v5.toInt) → ((up2 A92 29 x100.toInt x103.toInt) 29) q = A 29 q := fun q hq => (up2_ne (by omega)).trans (congrFun ((k96 29 (by decide)).trans ((k81 29 (by decide)).trans hq29)) q)
          have hcs := ce_same (e := A 29) (e' := ((up2 A92 29 x100.toInt x103.toInt) 29)) (q0 := (122 * w3.toInt + v5.toInt)) (by omega) (by omega) he2
          have hsi := si_step i8 (by omega) he2 ⟨fun _ => by rw [hu1]; rfl, fun _ => by omega⟩
          obtain ⟨x108, q109⟩ : ∃ q : Int32, q = v5 + (1 : Int32) := ⟨_, rfl⟩
          have e110 : x108.toInt = v5.toInt + 1 := by rw [q109, iv_add (by omega) (by omega)]; omega
          refine k_iinc x108 252 rfl (gs_ne rfl rfl (gs_ne rfl rfl (gs_ne rfl rfl g5))) q109.symm rfl ?_
          refine k_goto 125 rfl rfl ?_
          have e111 : F61 30 = F 30 := k65 30 (by decide)
          exact ih _ (show ((121 - x108.toInt).toNat) < n by omega) (lm1 := ln lm1 (F 28) (w1.toInt + 1) (w1.toInt + 1) (w1.toInt + 1)) (kc1 := kc1) (kc2 := kc2) (gb := gb) rfl (gs_ne rfl rfl (gs_ne rfl rfl (gs_ne rfl rfl (gs_ne rfl rfl g0)))) (gs_ne rfl rfl (gs_ne rfl rfl (gs_ne rfl rfl (gs_ne rfl rfl g1)))) (gs_ne rfl rfl (gs_ne rfl rfl (gs_ne rfl rfl (gs_ne rfl rfl g2)))) (gs_ne rfl rfl (gs_ne rfl rfl (gs_ne rfl rfl (gs_ne rfl rfl g3)))) (gs_ne rfl rfl (gs_ne rfl rfl (gs_ne rfl rfl (gs_ne rfl rfl g4)))) gs_eq I107 (fr1.tr (by decide) hF k65) (fr2.up (by decide) (fr2.tr (by decide) (fr2.tr (by decide) (fr2.tr (by decide) hA k66) k81) k96)) (show v1.toInt = w1.toInt ∧ v2.toInt = w2.toInt ∧ v3.toInt = w3.toInt ∧ v4.toInt = F0 28 ∧ 0 ≤ x108.toInt ∧ x108.toInt ≤ w2.toInt by omega) (by rw [show x108.toInt = v5.toInt + 1 by omega, up2_k (by decide), up2_k (by decide), up2_k (by decide), k96 24 (by decide), k96 25 (by decide), k81 24 (by decide), k81 25 (by decide)]; exact (lz_fan (l := w1.toInt) (q0 := (122 * w3.toInt + v5.toInt)) (r0 := (122 * (w3.toInt + 1) + v5.toInt)) (m := w1.toInt + 1) (r2 := x86.toInt) (s2 := x29.toInt) i2 hb9 ⟨by rw [← hx9]; exact p64b.1.trans (show (3 : Int32).toInt = 3 by decide), by rw [← hx9]; exact p64b.2.trans i1.1⟩ (fun y hy => p64c y (by rw [hx9]; exact hy)) (by omega) (Or.inl ⟨by omega, by omega⟩) (by omega) (Or.inr ⟨by omega, by omega⟩) (by omega) (by omega) ⟨rfl, rfl⟩ (by omega) hr1 hone w1a w1b w1c (by omega) hoth p94a p94b p94c he1 he2 (by omega)).cg (fun p => Iff.rfl) (fun q => lz_S (by omega)) (fun q _ => rfl) (fun q _ _ => rfl)) ((by rw [show x108.toInt = v5.toInt + 1 by omega]; exact hsi)) ((show F61 28 = gb + kc2 + ((cu (fun v => us (A0 1) gk w2.toInt (2600 + F0 30) v && us (A0 1) gk w2.toInt (2600 + F0 30 + gn) v) x108.toInt.toNat : Nat) : Int) by rw [show x108.toInt = v5.toInt + 1 by omega]; omega)) ((show F61 27 = F61 28 ∧ F61 28 ≤ gb + kc2 + ce ((up2 A92 29 x100.toInt x103.toInt) 29) (122 * (w3.toInt + 1)) x108.toInt.toNat ∧ F61 30 = F0 30 + gn + gm ∧ F0 28 < F61 28 by rw [show x108.toInt = v5.toInt + 1 by omega, hcs]; omega)) ((show ce ((up2 A92 29 x100.toInt x103.toInt) 29) (122 * (w3.toInt + 1)) w2.toInt.toNat = kc2 ∧ ce ((up2 A92 29 x100.toInt x103.toInt) 29) (122 * w3.toInt) w2.toInt.toNat ≤ kc1 + ce ((up2 A92 29 x100.toInt x103.toInt) 29) (122 * (w3.toInt + 1)) x108.toInt.toNat by rw [show x108.toInt = v5.toInt + 1 by omega, hcs, hcs, hcs]; omega)) (show (gb) = F0 28 + 1 + (cs (A0 1) gk w2.toInt (2600 + F0 30) : Int) + (cs (A0 1) gk w2.toInt (2600 + F0 30 + gn) : Int) by omega) (show 2 * (kc1) ≤ gn + 1 ∧ 2 * (kc2) ≤ gm + 1 ∧ 4 * (gb) ≤ 4 * F0 28 + 4 + nb gn + nb gm by omega) ((fun q hq => (he2 q (by omega)).trans (i6 q hq))) (⟨fun p hp => (ln_n (by omega)).trans (i7.1 p hp), (ln_n (by omega)).trans i7.2⟩)
theorem b_X10_laysApplication_47 {h0 : am_h} {F0 : rf_f} {A0 : rf_A} {w1 : Int32} {w2 : Int32} {w3 : Int32} {gk gn gm : Nat} {lm : Int → Int} {gM : Int → Prop} (hrec : ∀ {h0 : am_h} {F0 : rf_f} {A0 : rf_A} {w1 w2 w3 : Int32} {gn : Nat} {lm : Int → Int} {gM : Int → Prop}, rf_R h0 F0 A0 → (sc (A0 1) gk w2.toInt (2600 + F0 30) gn) → (0 ≤ w1.toInt ∧ w1.toInt + gn ≤ 121 ∧ 0 ≤ w2.toInt ∧ w2.toInt + gn ≤ 121 ∧ 0 ≤ w3.toInt ∧ w3.toInt + gn ≤ 121) → (0 ≤ F0 30 ∧ F0 30 + gn ≤ 120) → (ly (A0 24) (A0 25) (A0 26) lm (F0 28) 200 gM) → (F0 27 = F0 28 ∧ 4 * F0 28 + nb gn ≤ 32000) → am_Mt (2 * gk) 193 [.inr (.inr (some 81)), .inl w1, .inl w2, .inl w3] h0 (rf_Q h0 (fun x F' A' => fr1 [27, 28, 30] F0 F' ∧ fr2 [24, 25, 26, 29] A0 A' ∧ ((F' 27 = F' 28 ∧ F0 28 ≤ F' 28 ∧ 4 * F' 28 ≤ 4 * F0 28 + nb gn ∧ F' 30 = F0 30 + gn) ∧ (4 * F0 28 ≤ x ∧ x < 4 * F' 28) ∧ (∀ q : Int, q < 122 * w3.toInt → A' 29 q = A0 29 q) ∧ 2 * ce (A' 29) (122 * w3.toInt) w2.toInt.toNat ≤ gn + 1 ∧ F' 28 = F0 28 + (cs (A0 1) gk w2.toInt (2600 + F0 30) : Int) ∧ (∀ v : Int, 0 ≤ v → v < w2.toInt → (A' 29 (122 * w3.toInt + v) ≠ -1 ↔ us (A0 1) gk w2.toInt (2600 + F0 30) v = true)) ∧ (∃ lm', lw (A' 24) (A' 25) (A' 26) lm' (F' 28) 200 (fun p => gM p ∨ p = x) (A' 29) (fr w3.toInt w2.toInt) (fun _ => w1.toInt + 1) (F0 28) ∧ (∀ p : Int, p < 4 * F0 28 → lm' p = lm p) ∧ lm' x = w1.toInt))))) (p1 : sc (A0 1) gk w2.toInt (2600 + F0 30) gn) (q1 : sc (A0 1) gk w2.toInt (2600 + F0 30 + gn) gm) (p2 : 0 ≤ w1.toInt ∧ w1.toInt + gn + gm + 1 ≤ 121 ∧ 0 ≤ w2.toInt ∧ w2.toInt + gn + gm + 1 ≤ 121 ∧ 0 ≤ w3.toInt ∧ w3.toInt + gn + gm + 1 ≤ 121) (p3 : 0 ≤ F0 30 ∧ F0 30 + gn + gm ≤ 120) (p4 : ly (A0 24) (A0 25) (A0 26) lm (F0 28) 200 gM) (p5 : F0 27 = F0 28 ∧ 4 * F0 28 + nb (gn + gm + 1) ≤ 32000) : ∀ (n : Nat) {lv : am_l} {h : am_h} {F : rf_f} {A : rf_A} {v1 : Int32} {v2 : Int32} {v3 : Int32} {v4 : Int32} {v5 : Int32} {lm1 : Int → Int} {kc1 kc2 : Nat} {gb : Int}, ((121 - v5.toInt).toNat) = n → am_get lv 0 = some (.inr (.inr (some 81))) → am_get lv 1 = some (.inl v1) → am_get lv 2 = some (.inl v2) → am_get lv 3 = some (.inl v3) → am_get lv 4 = some (.inl v4) → am_get lv 5 = some (.inl v5) → rf_I h0 h F A → fr1 [27, 28, 30] F0 F → fr2 [24, 25, 26, 29] A0 A → (v1.toInt = w1.toInt ∧ v2.toInt = w2.toInt ∧ v3.toInt = w3.toInt ∧ v4.toInt = F0 28 ∧ 0 ≤ v5.toInt ∧ v5.toInt ≤ w2.toInt) → (lw (A 24) (A 25) (A 26) lm1 (F 28) 200 (fun p => gM p ∨ p = 4 * F0 28 + 1) (A 29) (fun q => fr w3.toInt w2.toInt q ∨ fr (w3.toInt + 1) w2.toInt q) (fun q => if q < 122 * (w3.toInt + 1) + v5.toInt then w1.toInt + 1 else w1.toInt + 2) (F0 28)) → (∀ v : Int, 0 ≤ v → v < w2.toInt → (A 29 (122 * (w3.toInt + 1) + v) ≠ -1 ↔ us (A0 1) gk w2.toInt (2600 + F0 30 + gn) v = true) ∧ (A 29 (122 * w3.toInt + v) ≠ -1 ↔ us (A0 1) gk w2.toInt (2600 + F0 30) v = true)) → (F 27 = F 28 ∧ F 28 = gb + ce (A 29) (122 * (w3.toInt + 1)) v5.toInt.toNat ∧ F 30 = F0 30 + gn + gm ∧ F0 28 < F 28) → (ce (A 29) (122 * (w3.toInt + 1)) w2.toInt.toNat = kc2 ∧ ce (A 29) (122 * w3.toInt) w2.toInt.toNat = kc1) → (gb = F0 28 + 1 + (cs (A0 1) gk w2.toInt (2600 + F0 30) : Int) + (cs (A0 1) gk w2.toInt (2600 + F0 30 + gn) : Int)) → (2 * kc1 ≤ gn + 1 ∧ 2 * kc2 ≤ gm + 1 ∧ 4 * gb ≤ 4 * F0 28 + 4 + nb gn + nb gm) → (∀ q : Int, q < 122 * w3.toInt → A 29 q = A0 29 q) → ((∀ p : Int, p < 4 * F0 28 → lm1 p = lm p) ∧ lm1 (4 * F0 28 + 1) = w1.toInt) → am_Ok am_G (2 * gk) 195 (47, lv, [], h, 0, 0) (rf_Q h0 (fun x F' A' => fr1 [27, 28, 30] F0 F' ∧ fr2 [24, 25, 26, 29] A0 A' ∧ ((F' 27 = F' 28 ∧ F0 28 ≤ F' 28 ∧ 4 * F' 28 ≤ 4 * F0 28 + nb (gn + gm + 1) ∧ F' 30 = F0 30 + gn + gm) ∧ (4 * F0 28 ≤ x ∧ x < 4 * F' 28) ∧ (∀ q : Int, q < 122 * w3.toInt → A' 29 q = A0 29 q) ∧ 2 * ce (A' 29) (122 * w3.toInt) w2.toInt.toNat ≤ (gn + gm + 1) + 1 ∧ F' 28 = F0 28 + (ca (us (A0 1) gk w2.toInt (2600 + F0 30)) (us (A0 1) gk w2.toInt (2600 + F0 30 + gn)) (cs (A0 1) gk w2.toInt (2600 + F0 30)) (cs (A0 1) gk w2.toInt (2600 + F0 30 + gn)) w2.toInt.toNat : Int) ∧ (∀ v : Int, 0 ≤ v → v < w2.toInt → (A' 29 (122 * w3.toInt + v) ≠ -1 ↔ (us (A0 1) gk w2.toInt (2600 + F0 30) v || us (A0 1) gk w2.toInt (2600 + F0 30 + gn) v) = true)) ∧ (∃ lm', lw (A' 24) (A' 25) (A' 26) lm' (F' 28) 200 (fun p => gM p ∨ p = x) (A' 29) (fr w3.toInt w2.toInt) (fun _ => w1.toInt + 1) (F0 28) ∧ (∀ p : Int, p < 4 * F0 28 → lm' p = lm p) ∧ lm' x = w1.toInt)))) := by
  intro n
  induction n using Nat.strongRecOn with
  | ind n ih =>
    intro lv h F A v1 v2 v3 v4 v5 lm1 kc1 kc2 gb hn g0 g1 g2 g3 g4 g5 hI hF hA i1 i2 i8 i3 i4 i9 i5 i6 i7
    have hn1 := sc_n p1
    have hgk := sc_pos p1
    have hnp := nb_pos gn
    have hb1 := p4.1.2.2
    have hM0 : ∀ p : Int, gM p → p < 4 * F0 28 := fun p z => (p4.lt z).2
    have hm1 := sc_n q1
    have hnm := nb_pos gm
    have hna := nb_app (a := gn) (b := gm) hn1
    refine k_iload 49 rfl g5 rfl ?_
    refine k_iload 50 rfl g2 rfl ?_
    by_cases b112 : v2 ≤ v5
    · refine k_c2 122 rfl rfl (if_pos b112) ?_
      have b112 := iv_le.mp b112
      refine k_push 123 rfl rfl ?_
      have hc113 : (0 : Int32).toInt = 0 := by decide
      refine k_istore 125 rfl rfl ?_
      have hcu0 : F 28 = gb + kc2 + ((cu (fun v => us (A0 1) gk w2.toInt (2600 + F0 30) v && us (A0 1) gk w2.toInt (2600 + F0 30 + gn) v) (0 : Int32).toInt.toNat : Nat) : Int) := by rw [show (0 : Int32).toInt.toNat = 0 by decide, show cu (fun v => us (A0 1) gk w2.toInt (2600 + F0 30) v && us (A0 1) gk w2.toInt (2600 + F0 30 + gn) v) 0 = 0 from rfl]; rw [show v5.toInt = w2.toInt by omega] at i3; omega
      exact b_X10_laysApplication_125 (gk := gk) (gn := gn) (gm := gm) (lm := lm) (gM := gM) (w1 := w1) (w2 := w2) (w3 := w3) hrec p1 q1 p2 p3 p4 p5 _ (lm1 := lm1) (kc1 := kc1) (kc2 := kc2) (gb := gb) rfl (gs_ne rfl rfl g0) (gs_ne rfl rfl g1) (gs_ne rfl rfl g2) (gs_ne rfl rfl g3) (gs_ne rfl rfl g4) gs_eq hI hF hA (show v1.toInt = w1.toInt ∧ v2.toInt = w2.toInt ∧ v3.toInt = w3.toInt ∧ v4.toInt = F0 28 ∧ 0 ≤ (0 : Int32).toInt ∧ (0 : Int32).toInt ≤ w2.toInt by omega) (by rw [show (0 : Int32).toInt = 0 by decide]; exact i2.cg (fun p => Iff.rfl) (fun q => by unfold fr; omega) (fun q _ => rfl) (fun q hq _ => (if_pos (by unfold fr at hq; omega)).symm)) (fun v h1 h2 => ⟨(i8 v h1 h2).1, fun h3 => absurd h3 (by omega), fun _ => (i8 v h1 h2).2⟩) (hcu0) (show (F 27) = (F 28) ∧ (F 28) ≤ (gb) + (kc2) + ce ((A 29)) (122 * (w3.toInt + 1)) (0 : Int32).toInt.toNat ∧ (F 30) = F0 30 + gn + gm ∧ F0 28 < (F 28) by rw [show v5.toInt = w2.toInt by omega] at i3; omega) (show ce ((A 29)) (122 * (w3.toInt + 1)) w2.toInt.toNat = (kc2) ∧ ce ((A 29)) (122 * w3.toInt) w2.toInt.toNat ≤ (kc1) + ce ((A 29)) (122 * (w3.toInt + 1)) (0 : Int32).toInt.toNat by omega) (show (gb) = F0 28 + 1 + (cs (A0 1) gk w2.toInt (2600 + F0 30) : Int) + (cs (A0 1) gk w2.toInt (2600 + F0 30 + gn) : Int) by omega) (show 2 * (kc1) ≤ gn + 1 ∧ 2 * (kc2) ≤ gm + 1 ∧ 4 * (gb) ≤ 4 * F0 28 + 4 + nb gn + nb gm by omega) (show ∀ q : Int, q < 122 * w3.toInt → (A 29) q = A0 29 q from i6) (show (∀ p : Int, p < 4 * F0 28 → (lm1) p = lm p) ∧ (lm1) (4 * F0 28 + 1) = w1.toInt from i7)
    · refine k_c2 53 rfl rfl (if_neg b112) ?_
      have b112 := mt iv_le.mpr b112
      refine k_aload 54 rfl g0 rfl ?_
      refine r_gA hI 57 rfl rfl rfl ?_
      refine k_aload 58 rfl g0 rfl ?_
      refine k_iload 59 rfl g3 rfl ?_
      refine k_push 60 rfl rfl ?_
      have hc114 : (1 : Int32).toInt = 1 := by decide
      obtain ⟨x115, q116⟩ : ∃ q : Int32, q = (v3 + (1 : Int32)) := ⟨_, rfl⟩
      have e117 : x115.toInt = v3.toInt + 1 := by rw [q116, iv_add (by omega) (by omega)]; omega
      refine k_bin x115 61 rfl q116.symm rfl ?_
      refine k_iload 63 rfl g5 rfl ?_
      refine k_in (d := 0) rfl (Nat.ble_eq_true_of_le (by omega)) rfl rfl hI.rc ?_
      refine k_push 2 rfl rfl ?_
      have hc118 : (122 : Int32).toInt = 122 := by decide
      refine k_iload 3 rfl rfl rfl ?_
      obtain ⟨x119, q120⟩ : ∃ q : Int32, q = ((122 : Int32) * x115) := ⟨_, rfl⟩
      have e121 : x119.toInt = 122 * x115.toInt := by rw [q120]; exact iv_mulc 122 (by decide) (by omega) (by omega)
      refine k_bin x119 4 rfl q120.symm rfl ?_
      refine k_iload 5 rfl rfl rfl ?_
      obtain ⟨x122, q123⟩ : ∃ q : Int32, q = (x119 + v5) := ⟨_, rfl⟩
      have e124 : x122.toInt = x119.toInt + v5.toInt := by rw [q123, iv_add (by omega) (by omega)]
      refine k_bin x122 6 rfl q123.symm rfl ?_
      refine k_fin rfl rfl ⟨_, _, rfl, rf_len hI hI, ?_⟩
      show am_Ok _ _ _ (66, _, [.inl x122, .inr (.inr (some (rf_ad 29)))], _, 0, 0) _
      refine r_ld 29 hI 67 rfl rfl (by omega) (show x122.toInt < 30012 by omega) rfl (fun x125 (e126 : x125.toInt = A 29 x122.toInt) => ?_)
      rw [e124] at e126
      rw [e121] at e126
      rw [e117] at e126
      refine k_istore 69 rfl rfl ?_
      have hend : x125.toInt = A 29 (122 * (w3.toInt + 1) + v5.toInt) := by rw [e126, i1.2.2.1]
      have hcn := ce_nx (e := A 29) (s := 122 * (w3.toInt + 1)) (i := v5.toInt) (by omega)
      have hcm := ce_mono (e := A 29) (s := 122 * (w3.toInt + 1)) (m := (v5.toInt + 1).toNat) (n := w2.toInt.toNat) (by omega)
      have htr := trivial
      refine k_iload 71 rfl gs_eq rfl ?_
      refine k_push 72 rfl rfl ?_
      have hc127 : (-1 : Int32).toInt = -1 := by decide
      by_cases b128 : x125 = (-1 : Int32)
      · refine k_c2 75 rfl rfl (if_pos b128) ?_
        have b128 := iv_eq.mp b128
        refine k_goto 116 rfl rfl ?_
        have htr := trivial
        obtain ⟨x129, q130⟩ : ∃ q : Int32, q = v5 + (1 : Int32) := ⟨_, rfl⟩
        have e131 : x129.toInt = v5.toInt + 1 := by rw [q130, iv_add (by omega) (by omega)]; omega
        refine k_iinc x129 119 rfl (gs_ne rfl rfl g5) q130.symm rfl ?_
        refine k_goto 47 rfl rfl ?_
        exact ih _ (show ((121 - x129.toInt).toNat) < n by omega) (lm1 := lm1) (kc1 := kc1) (kc2 := kc2) (gb := gb) rfl (gs_ne rfl rfl (gs_ne rfl rfl g0)) (gs_ne rfl rfl (gs_ne rfl rfl g1)) (gs_ne rfl rfl (gs_ne rfl rfl g2)) (gs_ne rfl rfl (gs_ne rfl rfl g3)) (gs_ne rfl rfl (gs_ne rfl rfl g4)) gs_eq hI hF hA (show v1.toInt = w1.toInt ∧ v2.toInt = w2.toInt ∧ v3.toInt = w3.toInt ∧ v4.toInt = F0 28 ∧ 0 ≤ x129.toInt ∧ x129.toInt ≤ w2.toInt by omega) (by rw [show x129.toInt = v5.toInt + 1 by omega]; exact i2.cg (fun p => Iff.rfl) (fun q => Iff.rfl) (fun q _ => rfl) (fun q hq hn => lva_eq (fun z => hn (by rw [z]; omega)))) (i8) ((show F 27 = F 28 ∧ F 28 = gb + ce (A 29) (122 * (w3.toInt + 1)) x129.toInt.toNat ∧ F 30 = F0 30 + gn + gm ∧ F0 28 < F 28 by rw [show x129.toInt = v5.toInt + 1 by omega]; omega)) (i4) (show (gb) = F0 28 + 1 + (cs (A0 1) gk w2.toInt (2600 + F0 30) : Int) + (cs (A0 1) gk w2.toInt (2600 + F0 30 + gn) : Int) by omega) (show 2 * (kc1) ≤ gn + 1 ∧ 2 * (kc2) ≤ gm + 1 ∧ 4 * (gb) ≤ 4 * F0 28 + 4 + nb gn + nb gm by omega) (i6) (i7)
      · refine k_c2 78 rfl rfl (if_neg b128) ?_
        have b128 := mt iv_eq.mpr b128
        obtain ⟨s91, s92, -⟩ := i2.2 (122 * (w3.toInt + 1) + v5.toInt) (Or.inr ⟨by omega, by omega⟩) (by omega)
        refine k_aload 79 rfl (gs_ne rfl rfl g0) rfl ?_
        refine k_push 80 rfl rfl ?_
        have hc132 : (4 : Int32).toInt = 4 := by decide
        refine k_iload 81 rfl (gs_ne rfl rfl g1) rfl ?_
        refine k_rq hI rfl (m_newNode (gB := 8000) hI.1 (show 0 ≤ (F 28) ∧ (F 28) ≤ (8000) ∧ (8000) ≤ 8000 ∧ 0 ≤ (F 27) ∧ (F 27) ≤ 10000 by omega) (show (∀ q : Int, 0 ≤ q → q < (F 28) → (A 24) q ≠ -1) → (F 28) < (8000) from fun _ => by omega)) (Nat.ble_eq_true_of_le (by omega)) rfl rfl hI.rc ?_
        rintro x133 h134 F135 A136 I137 ⟨k139, k140, p138⟩
        replace p138 : (0 ≤ x133.toInt ∧ F135 28 ≤ (8000) ∧ F135 27 = (F 27) + 1) ∧ (A136 24 x133.toInt = (4 : Int32).toInt ∧ A136 25 x133.toInt = v1.toInt) ∧ (∀ y : Int, y ≠ x133.toInt → A136 24 y = (A 24) y ∧ A136 25 y = (A 25) y) ∧ ((x133.toInt = (F 28) ∧ F135 28 = (F 28) + 1) ∨ (x133.toInt < (F 28) ∧ (A 24) x133.toInt = -1 ∧ F135 28 = (F 28))) := p138
        obtain ⟨p138a, p138b, p138c, p138d⟩ := p138
        show am_Ok _ _ _ (84, _, [.inl x133], _, 0, 0) _
        obtain ⟨hx9, hb9⟩ := i2.1.new p138a.1 p138d
        have hq26 : (A136 26) = A 26 := (k140 26 (by decide))
        have hq29 : (A136 29) = A 29 := (k140 29 (by decide))
        refine k_istore 86 rfl rfl ?_
        refine k_aload 87 rfl (gs_ne rfl rfl (gs_ne rfl rfl g0)) rfl ?_
        refine k_push 88 rfl rfl ?_
        refine k_iload 90 rfl gs_eq rfl ?_
        obtain ⟨x141, q142⟩ : ∃ q : Int32, q = ((4 : Int32) * x133) := ⟨_, rfl⟩
        have e143 : x141.toInt = 4 * x133.toInt := by rw [q142]; exact iv_mulc 4 (by decide) (by omega) (by omega)
        refine k_bin x141 91 rfl q142.symm rfl ?_
        refine k_push 92 rfl rfl ?_
        obtain ⟨x144, q145⟩ : ∃ q : Int32, q = (x141 + (1 : Int32)) := ⟨_, rfl⟩
        have e146 : x144.toInt = x141.toInt + 1 := by rw [q145, iv_add (by omega) (by omega)]; omega
        refine k_bin x144 93 rfl q145.symm rfl ?_
        refine k_iload 95 rfl (gs_ne rfl rfl gs_eq) rfl ?_
        refine k_rv I137 rfl (m_wires  I137.1 (show 0 ≤ x144.toInt ∧ x144.toInt < 32040 ∧ 0 ≤ x125.toInt ∧ x125.toInt < 32040 by omega)) (Nat.ble_eq_true_of_le (by omega)) rfl rfl I137.rc ?_
        rintro h148 F149 A150 I151 ⟨k153, k154, p152⟩
        replace p152 : A150 26 x125.toInt = x144.toInt ∧ (x144.toInt ≠ x125.toInt → A150 26 x144.toInt = x125.toInt) ∧ (∀ x : Int, x ≠ x144.toInt → x ≠ x125.toInt → A150 26 x = (A136 26) x) := p152
        obtain ⟨p152a, p152b, p152c⟩ := p152
        have k153 := fr1.nil k153
        subst k153
        show am_Ok _ _ _ (98, _, [], _, 0, 0) _
        refine k_aload 99 rfl (gs_ne rfl rfl (gs_ne rfl rfl g0)) rfl ?_
        refine r_gA I151 102 rfl rfl rfl ?_
        refine k_aload 103 rfl (gs_ne rfl rfl (gs_ne rfl rfl g0)) rfl ?_
        refine k_iload 104 rfl (gs_ne rfl rfl (gs_ne rfl rfl g3)) rfl ?_
        refine k_push 105 rfl rfl ?_
        obtain ⟨x155, q156⟩ : ∃ q : Int32, q = (v3 + (1 : Int32)) := ⟨_, rfl⟩
        have e157 : x155.toInt = v3.toInt + 1 := by rw [q156, iv_add (by omega) (by omega)]; omega
        refine k_bin x155 106 rfl q156.symm rfl ?_
        refine k_iload 108 rfl (gs_ne rfl rfl (gs_ne rfl rfl g5)) rfl ?_
        refine k_in (d := 0) rfl (Nat.ble_eq_true_of_le (by omega)) rfl rfl I151.rc ?_
        refine k_push 2 rfl rfl ?_
        refine k_iload 3 rfl rfl rfl ?_
        obtain ⟨x158, q159⟩ : ∃ q : Int32, q = ((122 : Int32) * x155) := ⟨_, rfl⟩
        have e160 : x158.toInt = 122 * x155.toInt := by rw [q159]; exact iv_mulc 122 (by decide) (by omega) (by omega)
        refine k_bin x158 4 rfl q159.symm rfl ?_
        refine k_iload 5 rfl rfl rfl ?_
        obtain ⟨x161, q162⟩ : ∃ q : Int32, q = (x158 + v5) := ⟨_, rfl⟩
        have e163 : x161.toInt = x158.toInt + v5.toInt := by rw [q162, iv_add (by omega) (by omega)]
        refine k_bin x161 6 rfl q162.symm rfl ?_
        refine k_fin rfl rfl ⟨_, _, rfl, rf_len I151 I151, ?_⟩
        show am_Ok _ _ _ (111, _, [.inl x161, .inr (.inr (some (rf_ad 29)))], _, 0, 0) _
        refine k_push 112 rfl rfl ?_
        refine k_iload 114 rfl gs_eq rfl ?_
        obtain ⟨x164, q165⟩ : ∃ q : Int32, q = ((4 : Int32) * x133) := ⟨_, rfl⟩
        have e166 : x164.toInt = 4 * x133.toInt := by rw [q165]; exact iv_mulc 4 (by decide) (by omega) (by omega)
        refine k_bin x164 115 rfl q165.symm rfl ?_
        refine r_st 29 I151 116 rfl rfl (by omega) (show x161.toInt < 30012 by omega) rfl (fun h167 I168 => ?_)
        have he1 : ((up2 A150 29 x161.toInt x164.toInt) 29) (122 * (w3.toInt + 1) + v5.toInt) = 4 * F 28 := by rw [show (122 * (w3.toInt + 1) + v5.toInt) = x161.toInt by omega]; exact up2_eq.trans (by omega)
        have he2 : ∀ q : Int, q ≠ (122 * (w3.toInt + 1) + v5.toInt) → ((up2 A150 29 x161.toInt x164.toInt) 29) q = A 29 q := fun q hq => (up2_ne (by omega)).trans (congrFun ((k154 29 (by decide)).trans hq29) q)
        have hcs := ce_same (e := A 29) (e' := ((up2 A150 29 x161.toInt x164.toInt) 29)) (q0 := (122 * (w3.toInt + 1) + v5.toInt)) (by omega) (by omega) he2
        have hst := st_same (e := A 29) (e' := ((up2 A150 29 x161.toInt x164.toInt) 29)) (q0 := (122 * (w3.toInt + 1) + v5.toInt)) (by omega) (by omega) he2
        obtain ⟨x169, q170⟩ : ∃ q : Int32, q = v5 + (1 : Int32) := ⟨_, rfl⟩
        have e171 : x169.toInt = v5.toInt + 1 := by rw [q170, iv_add (by omega) (by omega)]; omega
        refine k_iinc x169 119 rfl (gs_ne rfl rfl (gs_ne rfl rfl g5)) q170.symm rfl ?_
        refine k_goto 47 rfl rfl ?_
        have e172 : F135 30 = F 30 := k139 30 (by decide)
        exact ih _ (show ((121 - x169.toInt).toNat) < n by omega) (lm1 := ln lm1 (F 28) (w1.toInt + 1) (w1.toInt + 1 + 1) 0) (kc1 := kc1) (kc2 := kc2) (gb := gb) rfl (gs_ne rfl rfl (gs_ne rfl rfl (gs_ne rfl rfl g0))) (gs_ne rfl rfl (gs_ne rfl rfl (gs_ne rfl rfl g1))) (gs_ne rfl rfl (gs_ne rfl rfl (gs_ne rfl rfl g2))) (gs_ne rfl rfl (gs_ne rfl rfl (gs_ne rfl rfl g3))) (gs_ne rfl rfl (gs_ne rfl rfl (gs_ne rfl rfl g4))) gs_eq I168 (fr1.tr (by decide) hF k139) (fr2.up (by decide) (fr2.tr (by decide) (fr2.tr (by decide) hA k140) k154)) (show v1.toInt = w1.toInt ∧ v2.toInt = w2.toInt ∧ v3.toInt = w3.toInt ∧ v4.toInt = F0 28 ∧ 0 ≤ x169.toInt ∧ x169.toInt ≤ w2.toInt by omega) (by rw [show x169.toInt = v5.toInt + 1 by omega, up2_k (by decide), up2_k (by decide), up2_k (by decide), k154 24 (by decide), k154 25 (by decide)]; exact lz_brk (l := w1.toInt) (q0 := (122 * (w3.toInt + 1) + v5.toInt)) (r := x144.toInt) (s := x125.toInt) i2 hb9 ⟨by rw [← hx9]; exact p138b.1.trans (show (4 : Int32).toInt = 4 by decide), by rw [← hx9]; exact p138b.2.trans i1.1⟩ (fun y hy => p138c y (by rw [hx9]; exact hy)) (by omega) (Or.inr ⟨by omega, by omega⟩) (by omega) ((if_neg (by omega)).trans (by omega)) (by omega) (by omega) hend p152a p152b (fun y y1 y2 => (p152c y y1 y2).trans (congrFun hq26 y)) he1 he2 (if_pos (by omega)) (fun q hq => lva_eq hq) (by omega)) ((fun v h1 h2 => ⟨(hst _).trans (i8 v h1 h2).1, (hst _).trans (i8 v h1 h2).2⟩)) ((show F135 27 = F135 28 ∧ F135 28 = gb + ce ((up2 A150 29 x161.toInt x164.toInt) 29) (122 * (w3.toInt + 1)) x169.toInt.toNat ∧ F135 30 = F0 30 + gn + gm ∧ F0 28 < F135 28 by rw [show x169.toInt = v5.toInt + 1 by omega, hcs]; omega)) ((show ce ((up2 A150 29 x161.toInt x164.toInt) 29) (122 * (w3.toInt + 1)) w2.toInt.toNat = kc2 ∧ ce ((up2 A150 29 x161.toInt x164.toInt) 29) (122 * w3.toInt) w2.toInt.toNat = kc1 by rw [hcs, hcs]; exact i4)) (show (gb) = F0 28 + 1 + (cs (A0 1) gk w2.toInt (2600 + F0 30) : Int) + (cs (A0 1) gk w2.toInt (2600 + F0 30 + gn) : Int) by omega) (show 2 * (kc1) ≤ gn + 1 ∧ 2 * (kc2) ≤ gm + 1 ∧ 4 * (gb) ≤ 4 * F0 28 + 4 + nb gn + nb gm by omega) ((fun q hq => (he2 q (by omega)).trans (i6 q hq))) (⟨fun p hp => (ln_n (by omega)).trans (i7.1 p hp), (ln_n (by omega)).trans i7.2⟩)
theorem m_laysApplication {h0 : am_h} {F0 : rf_f} {A0 : rf_A} {w1 : Int32} {w2 : Int32} {w3 : Int32} {gk gn gm : Nat} {lm : Int → Int} {gM : Int → Prop} (hR : rf_R h0 F0 A0) (hrec : ∀ {h0 : am_h} {F0 : rf_f} {A0 : rf_A} {w1 w2 w3 : Int32} {gn : Nat} {lm : Int → Int} {gM : Int → Prop}, rf_R h0 F0 A0 → (sc (A0 1) gk w2.toInt (2600 + F0 30) gn) → (0 ≤ w1.toInt ∧ w1.toInt + gn ≤ 121 ∧ 0 ≤ w2.toInt ∧ w2.toInt + gn ≤ 121 ∧ 0 ≤ w3.toInt ∧ w3.toInt + gn ≤ 121) → (0 ≤ F0 30 ∧ F0 30 + gn ≤ 120) → (ly (A0 24) (A0 25) (A0 26) lm (F0 28) 200 gM) → (F0 27 = F0 28 ∧ 4 * F0 28 + nb gn ≤ 32000) → am_Mt (2 * gk) 193 [.inr (.inr (some 81)), .inl w1, .inl w2, .inl w3] h0 (rf_Q h0 (fun x F' A' => fr1 [27, 28, 30] F0 F' ∧ fr2 [24, 25, 26, 29] A0 A' ∧ ((F' 27 = F' 28 ∧ F0 28 ≤ F' 28 ∧ 4 * F' 28 ≤ 4 * F0 28 + nb gn ∧ F' 30 = F0 30 + gn) ∧ (4 * F0 28 ≤ x ∧ x < 4 * F' 28) ∧ (∀ q : Int, q < 122 * w3.toInt → A' 29 q = A0 29 q) ∧ 2 * ce (A' 29) (122 * w3.toInt) w2.toInt.toNat ≤ gn + 1 ∧ F' 28 = F0 28 + (cs (A0 1) gk w2.toInt (2600 + F0 30) : Int) ∧ (∀ v : Int, 0 ≤ v → v < w2.toInt → (A' 29 (122 * w3.toInt + v) ≠ -1 ↔ us (A0 1) gk w2.toInt (2600 + F0 30) v = true)) ∧ (∃ lm', lw (A' 24) (A' 25) (A' 26) lm' (F' 28) 200 (fun p => gM p ∨ p = x) (A' 29) (fr w3.toInt w2.toInt) (fun _ => w1.toInt + 1) (F0 28) ∧ (∀ p : Int, p < 4 * F0 28 → lm' p = lm p) ∧ lm' x = w1.toInt))))) (p1 : sc (A0 1) gk w2.toInt (2600 + F0 30) gn) (q1 : sc (A0 1) gk w2.toInt (2600 + F0 30 + gn) gm) (p2 : 0 ≤ w1.toInt ∧ w1.toInt + gn + gm + 1 ≤ 121 ∧ 0 ≤ w2.toInt ∧ w2.toInt + gn + gm + 1 ≤ 121 ∧ 0 ≤ w3.toInt ∧ w3.toInt + gn + gm + 1 ≤ 121) (p3 : 0 ≤ F0 30 ∧ F0 30 + gn + gm ≤ 120) (p4 : ly (A0 24) (A0 25) (A0 26) lm (F0 28) 200 gM) (p5 : F0 27 = F0 28 ∧ 4 * F0 28 + nb (gn + gm + 1) ≤ 32000) : am_Mt ((2 * gk) + 1) 195 [.inr (.inr (some 81)), .inl w1, .inl w2, .inl w3] h0 (rf_Q h0 (fun x F' A' => fr1 [27, 28, 30] F0 F' ∧ fr2 [24, 25, 26, 29] A0 A' ∧ ((F' 27 = F' 28 ∧ F0 28 ≤ F' 28 ∧ 4 * F' 28 ≤ 4 * F0 28 + nb (gn + gm + 1) ∧ F' 30 = F0 30 + gn + gm) ∧ (4 * F0 28 ≤ x ∧ x < 4 * F' 28) ∧ (∀ q : Int, q < 122 * w3.toInt → A' 29 q = A0 29 q) ∧ 2 * ce (A' 29) (122 * w3.toInt) w2.toInt.toNat ≤ (gn + gm + 1) + 1 ∧ F' 28 = F0 28 + (ca (us (A0 1) gk w2.toInt (2600 + F0 30)) (us (A0 1) gk w2.toInt (2600 + F0 30 + gn)) (cs (A0 1) gk w2.toInt (2600 + F0 30)) (cs (A0 1) gk w2.toInt (2600 + F0 30 + gn)) w2.toInt.toNat : Int) ∧ (∀ v : Int, 0 ≤ v → v < w2.toInt → (A' 29 (122 * w3.toInt + v) ≠ -1 ↔ (us (A0 1) gk w2.toInt (2600 + F0 30) v || us (A0 1) gk w2.toInt (2600 + F0 30 + gn) v) = true)) ∧ (∃ lm', lw (A' 24) (A' 25) (A' 26) lm' (F' 28) 200 (fun p => gM p ∨ p = x) (A' 29) (fr w3.toInt w2.toInt) (fun _ => w1.toInt + 1) (F0 28) ∧ (∀ p : Int, p < 4 * F0 28 → lm' p = lm p) ∧ lm' x = w1.toInt)))) := by
  refine am_Mt.of (D := (2 * gk)) ?_
  have hI : rf_I h0 h0 F0 A0 := rf_I.start hR
  have hn1 := sc_n p1
  have hgk := sc_pos p1
  have hnp := nb_pos gn
  have hb1 := p4.1.2.2
  have hM0 : ∀ p : Int, gM p → p < 4 * F0 28 := fun p z => (p4.lt z).2
  have hm1 := sc_n q1
  have hnm := nb_pos gm
  have hna := nb_app (a := gn) (b := gm) hn1
  refine k_aload 1 rfl rfl rfl ?_
  refine k_push 2 rfl rfl ?_
  have hc173 : (2 : Int32).toInt = 2 := by decide
  refine k_iload 3 rfl rfl rfl ?_
  refine k_rq hI rfl (m_newNode (gB := 8000) hI.1 (show 0 ≤ (F0 28) ∧ (F0 28) ≤ (8000) ∧ (8000) ≤ 8000 ∧ 0 ≤ (F0 27) ∧ (F0 27) ≤ 10000 by omega) (show (∀ q : Int, 0 ≤ q → q < (F0 28) → (A0 24) q ≠ -1) → (F0 28) < (8000) from fun _ => by omega)) (Nat.ble_eq_true_of_le (by omega)) rfl rfl hI.rc ?_
  rintro x174 h175 F176 A177 I178 ⟨k180, k181, p179⟩
  replace p179 : (0 ≤ x174.toInt ∧ F176 28 ≤ (8000) ∧ F176 27 = (F0 27) + 1) ∧ (A177 24 x174.toInt = (2 : Int32).toInt ∧ A177 25 x174.toInt = w1.toInt) ∧ (∀ y : Int, y ≠ x174.toInt → A177 24 y = (A0 24) y ∧ A177 25 y = (A0 25) y) ∧ ((x174.toInt = (F0 28) ∧ F176 28 = (F0 28) + 1) ∨ (x174.toInt < (F0 28) ∧ (A0 24) x174.toInt = -1 ∧ F176 28 = (F0 28))) := p179
  obtain ⟨p179a, p179b, p179c, p179d⟩ := p179
  show am_Ok _ _ _ (6, _, [.inl x174], _, 0, 0) _
  obtain ⟨hx9, hb9⟩ := p4.new p179a.1 p179d
  have hly1 := p4.node (l0 := w1.toInt) (l1 := w1.toInt) (l2 := w1.toInt + 1) hb9 ⟨by rw [← hx9]; exact p179b.1.trans (show (2 : Int32).toInt = 2 by decide), by rw [← hx9]; exact p179b.2⟩ (fun y hy => p179c y (by rw [hx9]; exact hy)) (by decide) (by omega) (tl_12 (Or.inr rfl))
  have hq29 : (A177 29) = A0 29 := (k181 29 (by decide))
  have hr1 : (A177 1) = A0 1 := (k181 1 (by decide))
  have hr30 : F176 30 = F0 30 := (k180 30 (by decide))
  refine k_istore 8 rfl rfl ?_
  refine k_aload 9 rfl (gs_ne rfl rfl rfl) rfl ?_
  refine k_push 10 rfl rfl ?_
  have hc182 : (4 : Int32).toInt = 4 := by decide
  refine k_iload 12 rfl gs_eq rfl ?_
  obtain ⟨x183, q184⟩ : ∃ q : Int32, q = ((4 : Int32) * x174) := ⟨_, rfl⟩
  have e185 : x183.toInt = 4 * x174.toInt := by rw [q184]; exact iv_mulc 4 (by decide) (by omega) (by omega)
  refine k_bin x183 13 rfl q184.symm rfl ?_
  refine k_aload 14 rfl (gs_ne rfl rfl rfl) rfl ?_
  refine k_iload 15 rfl (gs_ne rfl rfl rfl) rfl ?_
  refine k_iload 16 rfl (gs_ne rfl rfl rfl) rfl ?_
  refine k_iload 17 rfl (gs_ne rfl rfl rfl) rfl ?_
  have e186 : F176 30 = F0 30 := k180 30 (by decide)
  refine k_rq I178 rfl (hrec (gn := gn) (lm := ln lm (F0 28) w1.toInt w1.toInt (w1.toInt + 1)) (gM := (fun p => gM p ∨ (p / 4 = F0 28 ∧ p % 4 < pr 2))) I178.1 (show sc ((A177 1)) gk w2.toInt (2600 + (F176 30)) (gn) by rw [(k181 1 (by decide)), (k180 30 (by decide))]; exact p1) (show 0 ≤ w1.toInt ∧ w1.toInt + (gn) ≤ 121 ∧ 0 ≤ w2.toInt ∧ w2.toInt + (gn) ≤ 121 ∧ 0 ≤ w3.toInt ∧ w3.toInt + (gn) ≤ 121 by omega) (show 0 ≤ (F176 30) ∧ (F176 30) + (gn) ≤ 120 by omega) (show ly ((A177 24)) ((A177 25)) ((A177 26)) (ln lm (F0 28) w1.toInt w1.toInt (w1.toInt + 1)) ((F176 28)) 200 ((fun p => gM p ∨ (p / 4 = F0 28 ∧ p % 4 < pr 2))) by rw [(k181 26 (by decide))]; exact hly1) (show (F176 27) = (F176 28) ∧ 4 * (F176 28) + nb (gn) ≤ 32000 by omega)) (Nat.ble_eq_true_of_le (by omega)) rfl rfl I178.rc ?_
  rintro x187 h188 F189 A190 I191 ⟨k193, k194, p192⟩
  replace p192 : (F189 27 = F189 28 ∧ (F176 28) ≤ F189 28 ∧ 4 * F189 28 ≤ 4 * (F176 28) + nb (gn) ∧ F189 30 = (F176 30) + (gn)) ∧ (4 * (F176 28) ≤ x187.toInt ∧ x187.toInt < 4 * F189 28) ∧ (∀ q : Int, q < 122 * w3.toInt → A190 29 q = (A177 29) q) ∧ 2 * ce (A190 29) (122 * w3.toInt) w2.toInt.toNat ≤ (gn) + 1 ∧ F189 28 = (F176 28) + (cs ((A177 1)) gk w2.toInt (2600 + (F176 30)) : Int) ∧ (∀ v : Int, 0 ≤ v → v < w2.toInt → (A190 29 (122 * w3.toInt + v) ≠ -1 ↔ us ((A177 1)) gk w2.toInt (2600 + (F176 30)) v = true)) ∧ (∃ lm', lw (A190 24) (A190 25) (A190 26) lm' (F189 28) 200 (fun p => ((fun p => gM p ∨ (p / 4 = F0 28 ∧ p % 4 < pr 2))) p ∨ p = x187.toInt) (A190 29) (fr w3.toInt w2.toInt) (fun _ => w1.toInt + 1) ((F176 28)) ∧ (∀ p : Int, p < 4 * (F176 28) → lm' p = (ln lm (F0 28) w1.toInt w1.toInt (w1.toInt + 1)) p) ∧ lm' x187.toInt = w1.toInt) := p192
  obtain ⟨p192a, p192b, p192c, p192d, p192f, p192g, p192e⟩ := p192
  show am_Ok _ _ _ (20, _, [.inl x187, .inl x183, .inr (.inr (some 81))], _, 0, 0) _
  have hcf := p192f
  have hcg := p192g
  rw [hr1, hr30] at hcf hcg
  obtain ⟨lm2, hw2, hl2, ht2⟩ := p192e
  have c1 := p192d
  have hen1 := p192c
  rw [hq29] at hen1
  refine k_rv I191 rfl (m_wires  I191.1 (show 0 ≤ x183.toInt ∧ x183.toInt < 32040 ∧ 0 ≤ x187.toInt ∧ x187.toInt < 32040 by omega)) (Nat.ble_eq_true_of_le (by omega)) rfl rfl I191.rc ?_
  rintro h196 F197 A198 I199 ⟨k201, k202, p200⟩
  replace p200 : A198 26 x187.toInt = x183.toInt ∧ (x183.toInt ≠ x187.toInt → A198 26 x183.toInt = x187.toInt) ∧ (∀ x : Int, x ≠ x183.toInt → x ≠ x187.toInt → A198 26 x = (A190 26) x) := p200
  obtain ⟨p200a, p200b, p200c⟩ := p200
  have k201 := fr1.nil k201
  subst k201
  show am_Ok _ _ _ (23, _, [], _, 0, 0) _
  have hw3 := lz_app1 (t := F0 28) (r := x183.toInt) hw2 hM0 (by omega) (by omega) (by rw [ht2, hl2 _ (by omega), show x183.toInt = 4 * F0 28 by omega, ln_0]) p200a p200b p200c
  have q24 : (A198 24) = _ := (k202 24 (by decide))
  have q25 : (A198 25) = _ := (k202 25 (by decide))
  have q29 : (A198 29) = _ := (k202 29 (by decide))
  rw [← q24, ← q25, ← q29] at hw3
  rw [← q29] at c1 hen1 hcg
  have ht1 : (A198 1) = A0 1 := ((k202 1 (by decide)).trans ((k194 1 (by decide)).trans (k181 1 (by decide))))
  have ht30 : F189 30 = F0 30 + gn := by omega
  refine k_aload 24 rfl (gs_ne rfl rfl rfl) rfl ?_
  refine k_push 25 rfl rfl ?_
  refine k_iload 27 rfl gs_eq rfl ?_
  obtain ⟨x203, q204⟩ : ∃ q : Int32, q = ((4 : Int32) * x174) := ⟨_, rfl⟩
  have e205 : x203.toInt = 4 * x174.toInt := by rw [q204]; exact iv_mulc 4 (by decide) (by omega) (by omega)
  refine k_bin x203 28 rfl q204.symm rfl ?_
  refine k_push 29 rfl rfl ?_
  obtain ⟨x206, q207⟩ : ∃ q : Int32, q = (x203 + (2 : Int32)) := ⟨_, rfl⟩
  have e208 : x206.toInt = x203.toInt + 2 := by rw [q207, iv_add (by omega) (by omega)]; omega
  refine k_bin x206 30 rfl q207.symm rfl ?_
  refine k_aload 31 rfl (gs_ne rfl rfl rfl) rfl ?_
  refine k_iload 32 rfl (gs_ne rfl rfl rfl) rfl ?_
  refine k_push 33 rfl rfl ?_
  have hc209 : (1 : Int32).toInt = 1 := by decide
  obtain ⟨x210, q211⟩ : ∃ q : Int32, q = (w1 + (1 : Int32)) := ⟨_, rfl⟩
  have e212 : x210.toInt = w1.toInt + 1 := by rw [q211, iv_add (by omega) (by omega)]; omega
  refine k_bin x210 34 rfl q211.symm rfl ?_
  refine k_iload 35 rfl (gs_ne rfl rfl rfl) rfl ?_
  refine k_iload 36 rfl (gs_ne rfl rfl rfl) rfl ?_
  refine k_push 37 rfl rfl ?_
  obtain ⟨x213, q214⟩ : ∃ q : Int32, q = (w3 + (1 : Int32)) := ⟨_, rfl⟩
  have e215 : x213.toInt = w3.toInt + 1 := by rw [q214, iv_add (by omega) (by omega)]; omega
  refine k_bin x213 38 rfl q214.symm rfl ?_
  refine k_rq I199 rfl (hrec (gn := gm) (lm := lm2) (gM := (sm (fun p => gM p ∨ p = 4 * F0 28 + 1 ∨ p = 4 * F0 28 + 2) (A198 29) (fr w3.toInt w2.toInt))) I199.1 (show sc ((A198 1)) gk w2.toInt (2600 + (F189 30)) (gm) by rw [((k202 1 (by decide)).trans ((k194 1 (by decide)).trans (k181 1 (by decide))))]; exact sc_at q1 (by omega) rfl) (show 0 ≤ x210.toInt ∧ x210.toInt + (gm) ≤ 121 ∧ 0 ≤ w2.toInt ∧ w2.toInt + (gm) ≤ 121 ∧ 0 ≤ x213.toInt ∧ x213.toInt + (gm) ≤ 121 by omega) (show 0 ≤ (F189 30) ∧ (F189 30) + (gm) ≤ 120 by omega) (show ly ((A198 24)) ((A198 25)) ((A198 26)) (lm2) ((F189 28)) 200 ((sm (fun p => gM p ∨ p = 4 * F0 28 + 1 ∨ p = 4 * F0 28 + 2) (A198 29) (fr w3.toInt w2.toInt))) from hw3.1) (show (F189 27) = (F189 28) ∧ 4 * (F189 28) + nb (gm) ≤ 32000 by omega)) (Nat.ble_eq_true_of_le (by omega)) rfl rfl I199.rc ?_
  rintro x216 h217 F218 A219 I220 ⟨k222, k223, p221⟩
  replace p221 : (F218 27 = F218 28 ∧ (F189 28) ≤ F218 28 ∧ 4 * F218 28 ≤ 4 * (F189 28) + nb (gm) ∧ F218 30 = (F189 30) + (gm)) ∧ (4 * (F189 28) ≤ x216.toInt ∧ x216.toInt < 4 * F218 28) ∧ (∀ q : Int, q < 122 * x213.toInt → A219 29 q = (A198 29) q) ∧ 2 * ce (A219 29) (122 * x213.toInt) w2.toInt.toNat ≤ (gm) + 1 ∧ F218 28 = (F189 28) + (cs ((A198 1)) gk w2.toInt (2600 + (F189 30)) : Int) ∧ (∀ v : Int, 0 ≤ v → v < w2.toInt → (A219 29 (122 * x213.toInt + v) ≠ -1 ↔ us ((A198 1)) gk w2.toInt (2600 + (F189 30)) v = true)) ∧ (∃ lm', lw (A219 24) (A219 25) (A219 26) lm' (F218 28) 200 (fun p => ((sm (fun p => gM p ∨ p = 4 * F0 28 + 1 ∨ p = 4 * F0 28 + 2) (A198 29) (fr w3.toInt w2.toInt))) p ∨ p = x216.toInt) (A219 29) (fr x213.toInt w2.toInt) (fun _ => x210.toInt + 1) ((F189 28)) ∧ (∀ p : Int, p < 4 * (F189 28) → lm' p = (lm2) p) ∧ lm' x216.toInt = x210.toInt) := p221
  obtain ⟨p221a, p221b, p221c, p221d, p221f, p221g, p221e⟩ := p221
  show am_Ok _ _ _ (41, _, [.inl x216, .inl x206, .inr (.inr (some 81))], _, 0, 0) _
  have hdf := p221f
  have hdg := p221g
  rw [ht1, ht30, show 2600 + (F0 30 + (gn : Int)) = 2600 + F0 30 + gn by omega] at hdf hdg
  obtain ⟨lm4, hw4, hl4, ht4⟩ := p221e
  have c2 := p221d
  have hen4 := p221c
  have hf1 : x213.toInt = w3.toInt + 1 := by omega
  rw [hf1] at hw4 c2 hen4 hdg
  have hm4 := hw4.merge (lv3 := fun q => if q < 122 * (w3.toInt + 1) + 0 then w1.toInt + 1 else w1.toInt + 2) hw3 (fun q hq => hen4 q (by have := hq.2; omega)) hl4 (by omega) ⟨by omega, by omega⟩ (fun q hq => if_pos (by have := hq.2; omega)) (fun q hq => (if_neg (by have := hq.1; omega)).trans (by omega))
  have c1b : ce (A219 29) (122 * w3.toInt) w2.toInt.toNat = _ := ce_eq w2.toInt.toNat (fun q h1 h2 => by rw [hen4 q (by omega)])
  refine k_rv I220 rfl (m_wires  I220.1 (show 0 ≤ x206.toInt ∧ x206.toInt < 32040 ∧ 0 ≤ x216.toInt ∧ x216.toInt < 32040 by omega)) (Nat.ble_eq_true_of_le (by omega)) rfl rfl I220.rc ?_
  rintro h225 F226 A227 I228 ⟨k230, k231, p229⟩
  replace p229 : A227 26 x216.toInt = x206.toInt ∧ (x206.toInt ≠ x216.toInt → A227 26 x206.toInt = x216.toInt) ∧ (∀ x : Int, x ≠ x206.toInt → x ≠ x216.toInt → A227 26 x = (A219 26) x) := p229
  obtain ⟨p229a, p229b, p229c⟩ := p229
  have k230 := fr1.nil k230
  subst k230
  show am_Ok _ _ _ (44, _, [], _, 0, 0) _
  have hw5 := lz_app2 (t := F0 28) (t1 := 4 * F0 28 + 1) (r := x206.toInt) hm4 hM0 (by omega) (by omega) (by rw [ht4, hl4 _ (by omega), hl2 _ (by omega), show x206.toInt = 4 * F0 28 + 2 by omega, ln_2]; omega) rfl p229a p229b p229c
  have hw6 := hw5.low (show F0 28 ≤ _ by omega)
  have r29 : (A227 29) = _ := (k231 29 (by decide))
  refine k_push 45 rfl rfl ?_
  have hc232 : (0 : Int32).toInt = 0 := by decide
  refine k_istore 47 rfl rfl ?_
  have hce0 : ce (A227 29) (122 * (w3.toInt + 1)) (0 : Int32).toInt.toNat = 0 := by rw [show (0 : Int32).toInt.toNat = 0 by decide]; rfl
  exact b_X10_laysApplication_47 (gk := gk) (gn := gn) (gm := gm) (lm := lm) (gM := gM) (w1 := w1) (w2 := w2) (w3 := w3) hrec p1 q1 p2 p3 p4 p5 _ (lm1 := lm4) (kc1 := _) (kc2 := _) (gb := F218 28) rfl (gs_ne rfl rfl (gs_ne rfl rfl rfl)) (gs_ne rfl rfl (gs_ne rfl rfl rfl)) (gs_ne rfl rfl (gs_ne rfl rfl rfl)) (gs_ne rfl rfl (gs_ne rfl rfl rfl)) (gs_ne rfl rfl gs_eq) gs_eq I228 (fr1.tr (by decide) (fr1.tr (by decide) (fr1.tr (by decide) fr1.rf k180) k193) k222) (fr2.tr (by decide) (fr2.tr (by decide) (fr2.tr (by decide) (fr2.tr (by decide) (fr2.tr (by decide) fr2.rf k181) k194) k202) k223) k231) (show w1.toInt = w1.toInt ∧ w2.toInt = w2.toInt ∧ w3.toInt = w3.toInt ∧ x174.toInt = F0 28 ∧ 0 ≤ (0 : Int32).toInt ∧ (0 : Int32).toInt ≤ w2.toInt by omega) (by rw [(k231 24 (by decide)), (k231 25 (by decide)), (k231 29 (by decide)), show (0 : Int32).toInt = 0 by decide]; exact hw6) (fun v h1 h2 => by rw [r29]; exact ⟨hdg v h1 h2, by rw [hen4 _ (by omega)]; exact hcg v h1 h2⟩) (show (F218 27) = (F218 28) ∧ (F218 28) = (F218 28) + ce ((A227 29)) (122 * (w3.toInt + 1)) (0 : Int32).toInt.toNat ∧ (F218 30) = F0 30 + gn + gm ∧ F0 28 < (F218 28) by omega) (⟨rfl, rfl⟩) (show (F218 28) = F0 28 + 1 + (cs (A0 1) gk w2.toInt (2600 + F0 30) : Int) + (cs (A0 1) gk w2.toInt (2600 + F0 30 + gn) : Int) by omega) (by rw [r29]; omega) (by rw [r29]; exact fun q hq => (hen4 q (by omega)).trans (hen1 q hq)) (⟨fun p hp => by rw [hl4 _ (by omega), hl2 _ (by omega), ln_n (by omega)], by rw [hl4 _ (by omega), hl2 _ (by omega), ln_1]⟩)
end
