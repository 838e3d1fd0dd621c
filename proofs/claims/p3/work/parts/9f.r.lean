section
theorem b_X10_readsTerm_31 {h0 : am_h} {F0 : rf_f} {A0 : rf_A} {gk : Nat} (hrec : ∀ {h0 : am_h} {F0 : rf_f} {A0 : rf_A}, rf_R h0 F0 A0 → (0 ≤ F0 8 ∧ F0 8 ≤ F0 7 ∧ F0 7 ≤ 700 ∧ 0 ≤ F0 20 ∧ F0 20 ≤ 30 ∧ 0 ≤ F0 21 ∧ F0 21 ≤ 12 ∧ 0 ≤ F0 18 ∧ F0 18 ≤ 12 ∧ 0 ≤ F0 23 ∧ F0 23 ≤ 1000000 ∧ (F0 9 = 2 → 0 ≤ F0 11 ∧ F0 11 ≤ 9) ∧ 0 ≤ F0 9 ∧ F0 9 ≤ 4) → (nm (A0 16) (A0 17) (F0 18)) → ((12 - F0 21) + (30 - F0 20) < (gk : Int)) → am_Mt (2 * gk + 5) 182 [.inr (.inr (some 81))] h0 (rf_V h0 (fun F' A' => fr1 [8, 10, 9, 14, 11, 12, 6, 5, 23, 20, 21] F0 F' ∧ fr2 [22] A0 A' ∧ ((F0 8 ≤ F' 8 ∧ F' 8 ≤ F0 7 ∧ F0 20 ≤ F' 20 ∧ F' 20 ≤ 30 ∧ F' 21 = F0 21 ∧ F0 23 ≤ F' 23 ∧ F' 23 ≤ 1000000 ∧ (F' 9 = 2 → 0 ≤ F' 11 ∧ F' 11 ≤ 9) ∧ 0 ≤ F' 9 ∧ F' 9 ≤ 4) ∧ (F' 6 = 0 → F' 20 = F0 20 ∧ F0 6 = 0 ∧ (F' 9 = 0 ∨ F0 8 < F' 8)) ∧ (F' 6 = 0 → F' 23 ≤ 124 → rd1 (A' 22) (A0 22) (F0 23) (F' 23) (F0 20)))))) (p1 : 0 ≤ F0 8 ∧ F0 8 ≤ F0 7 ∧ F0 7 ≤ 700 ∧ 0 ≤ F0 20 ∧ F0 20 ≤ 30 ∧ 0 ≤ F0 21 ∧ F0 21 ≤ 12 ∧ 0 ≤ F0 18 ∧ F0 18 ≤ 12 ∧ 0 ≤ F0 23 ∧ F0 23 ≤ 1000000 ∧ (F0 9 = 2 → 0 ≤ F0 11 ∧ F0 11 ≤ 9) ∧ 0 ≤ F0 9 ∧ F0 9 ≤ 4) (p2 : nm (A0 16) (A0 17) (F0 18)) (p3 : (12 - F0 21) + (30 - F0 20) < (gk : Int) + 1) : ∀ (n : Nat) {lv : am_l} {h : am_h} {F : rf_f} {A : rf_A} {v1 : Int32}, ((10 * (F0 7 - F 8) + F 9 + (if F 6 = 0 then 100 else 0)).toNat) = n → am_get lv 0 = some (.inr (.inr (some 81))) → am_get lv 1 = some (.inl v1) → rf_I h0 h F A → fr1 [8, 10, 9, 14, 11, 12, 6, 5, 23, 20, 21] F0 F → fr2 [22] A0 A → (v1.toInt = F0 23) → ((F0 8 ≤ F 8 ∧ F 8 ≤ F0 7 ∧ F0 20 ≤ F 20 ∧ F 20 ≤ 30 ∧ F 21 = F0 21 ∧ F0 23 ≤ F 23 ∧ F 23 ≤ 1000000 ∧ (F 9 = 2 → 0 ≤ F 11 ∧ F 11 ≤ 9) ∧ 0 ≤ F 9 ∧ F 9 ≤ 4)) → ((F 6 = 0 → F 20 = F0 20 ∧ F0 6 = 0 ∧ (F 9 = 0 ∨ F0 8 < F 8))) → ((F 6 = 0 → F 23 ≤ 124 → rd1 (A 22) (A0 22) (F0 23) (F 23) (F0 20))) → am_Ok am_G (2 * gk + 6) 182 (31, lv, [], h, 0, 0) (rf_V h0 (fun F' A' => fr1 [8, 10, 9, 14, 11, 12, 6, 5, 23, 20, 21] F0 F' ∧ fr2 [22] A0 A' ∧ ((F0 8 ≤ F' 8 ∧ F' 8 ≤ F0 7 ∧ F0 20 ≤ F' 20 ∧ F' 20 ≤ 30 ∧ F' 21 = F0 21 ∧ F0 23 ≤ F' 23 ∧ F' 23 ≤ 1000000 ∧ (F' 9 = 2 → 0 ≤ F' 11 ∧ F' 11 ≤ 9) ∧ 0 ≤ F' 9 ∧ F' 9 ≤ 4) ∧ (F' 6 = 0 → F' 20 = F0 20 ∧ F0 6 = 0 ∧ (F' 9 = 0 ∨ F0 8 < F' 8)) ∧ (F' 6 = 0 → F' 23 ≤ 124 → rd1 (A' 22) (A0 22) (F0 23) (F' 23) (F0 20))))) := by
  intro n
  induction n using Nat.strongRecOn with
  | ind n ih =>
    intro lv h F A v1 hn g0 g1 hI hF hA i0 i1 i2 i3
    refine k_aload 32 rfl g0 rfl ?_
    refine k_rq hI rfl (m_isAtom  hI.1 ) (Nat.ble_eq_true_of_le (by omega)) rfl rfl hI.rc ?_
    rintro x1 h2 F3 A4 I5 ⟨k7, k8, p6⟩
    replace p6 : x1.toInt = 0 ∨ (x1.toInt = 1 ∧ (F 6) = 0 ∧ ((F 9) = 1 ∨ (F 9) = 2 ∨ (F 9) = 3)) := p6
    have k7 := fr1.nil k7
    subst k7
    have k8 := fr2.nil k8
    subst k8
    have z9 := iv_01 (x := x1) (by omega)
    show am_Ok _ _ _ (35, _, [.inl x1], _, 0, 0) _
    by_cases b10 : x1 = 0
    · refine k_c1 51 rfl rfl (if_pos b10) ?_
      have b10 := iv_eq0.mp b10
      exact k_fin rfl rfl ⟨_, _, _, rfl, I5, hF, hA, ⟨i1, i2, i3⟩⟩
    · refine k_c1 38 rfl rfl (if_neg b10) ?_
      have b10 := mt iv_eq0.mpr b10
      refine k_aload 39 rfl g0 rfl ?_
      refine k_iload 40 rfl g1 rfl ?_
      refine k_push 41 rfl rfl ?_
      have hc11 : (0 : Int32).toInt = 0 := by decide
      refine k_rv I5 rfl (m_emitsAhead  I5.1 (show 0 ≤ (F 23) ∧ (F 23) ≤ 1000000 by omega) (show 0 ≤ v1.toInt ∧ v1.toInt ≤ (F 23) by omega)) (Nat.ble_eq_true_of_le (by omega)) rfl rfl I5.rc ?_
      rintro h13 F14 A15 I16 ⟨k18, k19, p17⟩
      replace p17 : ((F 23) ≤ F14 23 ∧ F14 23 ≤ 1000000) ∧ (F14 23 ≤ 124 → F14 23 = (F 23) + 1) ∧ (F14 23 ≤ 124 → A15 22 v1.toInt = (0 : Int32).toInt ∧ (∀ q : Int, q < v1.toInt → A15 22 q = (A 22) q) ∧ ∀ q : Int, v1.toInt ≤ q → q < (F 23) → A15 22 (q + 1) = (A 22) q) := p17
      obtain ⟨p17a, p17b, p17c⟩ := p17
      show am_Ok _ _ _ (44, _, [], _, 0, 0) _
      refine k_aload 45 rfl g0 rfl ?_
      have e20 : F14 8 = F 8 := k18 8 (by decide)
      have e21 : F14 7 = F 7 := k18 7 (by decide)
      have e22 : F 7 = F0 7 := hF 7 (by decide)
      have e23 : F14 20 = F 20 := k18 20 (by decide)
      have e24 : F14 21 = F 21 := k18 21 (by decide)
      have e25 : F14 18 = F 18 := k18 18 (by decide)
      have e26 : F 18 = F0 18 := hF 18 (by decide)
      have e27 : F14 9 = F 9 := k18 9 (by decide)
      have e28 : F14 11 = F 11 := k18 11 (by decide)
      have e29 : F14 6 = F 6 := k18 6 (by decide)
      refine k_rv I16 rfl (m_readsAtom (gk := gk) I16.1 (hrec) (show 0 ≤ (F14 8) ∧ (F14 8) ≤ (F14 7) ∧ (F14 7) ≤ 700 ∧ 0 ≤ (F14 20) ∧ (F14 20) ≤ 30 ∧ 0 ≤ (F14 21) ∧ (F14 21) ≤ 12 ∧ 0 ≤ (F14 18) ∧ (F14 18) ≤ 12 ∧ 0 ≤ (F14 23) ∧ (F14 23) ≤ 1000000 ∧ ((F14 9) = 2 → 0 ≤ (F14 11) ∧ (F14 11) ≤ 9) ∧ 0 ≤ (F14 9) ∧ (F14 9) ≤ 4 by omega) (show nm ((A15 16)) ((A15 17)) ((F14 18)) by rw [((k19 16 (by decide)).trans (hA 16 (by decide))), ((k19 17 (by decide)).trans (hA 17 (by decide))), ((k18 18 (by decide)).trans (hF 18 (by decide)))]; exact p2) (show (12 - (F14 21)) + (30 - (F14 20)) < ((gk) : Int) + 1 by omega)) (Nat.ble_eq_true_of_le (by omega)) rfl rfl I16.rc ?_
      rintro h31 F32 A33 I34 ⟨k36, k37, p35⟩
      replace p35 : ((F14 8) ≤ F32 8 ∧ F32 8 ≤ (F14 7) ∧ (F14 20) ≤ F32 20 ∧ F32 20 ≤ 30 ∧ F32 21 = (F14 21) ∧ (F14 23) ≤ F32 23 ∧ F32 23 ≤ 1000000 ∧ (F32 9 = 2 → 0 ≤ F32 11 ∧ F32 11 ≤ 9) ∧ 0 ≤ F32 9 ∧ F32 9 ≤ 4) ∧ (F32 6 = 0 → F32 20 = (F14 20) ∧ (F14 6) = 0 ∧ (F32 9 = 0 ∨ (F14 8) < F32 8)) ∧ (F32 6 = 0 → F32 23 ≤ 124 → rd1 (A33 22) ((A15 22)) ((F14 23)) (F32 23) ((F14 20))) := p35
      obtain ⟨p35a, p35b, p35c⟩ := p35
      show am_Ok _ _ _ (48, _, [], _, 0, 0) _
      refine k_goto 31 rfl rfl ?_
      exact ih _ ((by rw [← hn]; (repeat' split) <;> omega))  rfl g0 g1 I34 (fr1.tr (by decide) (fr1.tr (by decide) hF k18) k36) (fr2.tr (by decide) (fr2.tr (by decide) hA k19) k37) (show v1.toInt = F0 23 by omega) (show (F0 8 ≤ (F32 8) ∧ (F32 8) ≤ F0 7 ∧ F0 20 ≤ (F32 20) ∧ (F32 20) ≤ 30 ∧ (F32 21) = F0 21 ∧ F0 23 ≤ (F32 23) ∧ (F32 23) ≤ 1000000 ∧ ((F32 9) = 2 → 0 ≤ (F32 11) ∧ (F32 11) ≤ 9) ∧ 0 ≤ (F32 9) ∧ (F32 9) ≤ 4) by omega) (show ((F32 6) = 0 → (F32 20) = F0 20 ∧ F0 6 = 0 ∧ ((F32 9) = 0 ∨ F0 8 < (F32 8))) by omega) (fun z1 z2 => by have z8 : F32 6 = 0 := z1; have z9 : F32 23 ≤ 124 := z2; have h8 := p17c (by omega); have h9 := p35c z8 z9; show rd1 (A33 22) (A0 22) (F0 23) (F32 23) (F0 20); exact rd_app (i3 (by omega) (by omega)) (by rw [← i0]; exact h8.1.trans (by decide)) (fun q q1 q2 => h8.2.2 q (by omega) q2) (fun q hq => h8.2.1 q (by omega)) (rd_cg h9 (by omega) rfl (by omega)))
theorem m_readsTerm {h0 : am_h} {F0 : rf_f} {A0 : rf_A} {gk : Nat} (hR : rf_R h0 F0 A0) (hrec : ∀ {h0 : am_h} {F0 : rf_f} {A0 : rf_A}, rf_R h0 F0 A0 → (0 ≤ F0 8 ∧ F0 8 ≤ F0 7 ∧ F0 7 ≤ 700 ∧ 0 ≤ F0 20 ∧ F0 20 ≤ 30 ∧ 0 ≤ F0 21 ∧ F0 21 ≤ 12 ∧ 0 ≤ F0 18 ∧ F0 18 ≤ 12 ∧ 0 ≤ F0 23 ∧ F0 23 ≤ 1000000 ∧ (F0 9 = 2 → 0 ≤ F0 11 ∧ F0 11 ≤ 9) ∧ 0 ≤ F0 9 ∧ F0 9 ≤ 4) → (nm (A0 16) (A0 17) (F0 18)) → ((12 - F0 21) + (30 - F0 20) < (gk : Int)) → am_Mt (2 * gk + 5) 182 [.inr (.inr (some 81))] h0 (rf_V h0 (fun F' A' => fr1 [8, 10, 9, 14, 11, 12, 6, 5, 23, 20, 21] F0 F' ∧ fr2 [22] A0 A' ∧ ((F0 8 ≤ F' 8 ∧ F' 8 ≤ F0 7 ∧ F0 20 ≤ F' 20 ∧ F' 20 ≤ 30 ∧ F' 21 = F0 21 ∧ F0 23 ≤ F' 23 ∧ F' 23 ≤ 1000000 ∧ (F' 9 = 2 → 0 ≤ F' 11 ∧ F' 11 ≤ 9) ∧ 0 ≤ F' 9 ∧ F' 9 ≤ 4) ∧ (F' 6 = 0 → F' 20 = F0 20 ∧ F0 6 = 0 ∧ (F' 9 = 0 ∨ F0 8 < F' 8)) ∧ (F' 6 = 0 → F' 23 ≤ 124 → rd1 (A' 22) (A0 22) (F0 23) (F' 23) (F0 20)))))) (p1 : 0 ≤ F0 8 ∧ F0 8 ≤ F0 7 ∧ F0 7 ≤ 700 ∧ 0 ≤ F0 20 ∧ F0 20 ≤ 30 ∧ 0 ≤ F0 21 ∧ F0 21 ≤ 12 ∧ 0 ≤ F0 18 ∧ F0 18 ≤ 12 ∧ 0 ≤ F0 23 ∧ F0 23 ≤ 1000000 ∧ (F0 9 = 2 → 0 ≤ F0 11 ∧ F0 11 ≤ 9) ∧ 0 ≤ F0 9 ∧ F0 9 ≤ 4) (p2 : nm (A0 16) (A0 17) (F0 18)) (p3 : (12 - F0 21) + (30 - F0 20) < (gk : Int) + 1) : am_Mt ((2 * gk + 6) + 1) 182 [.inr (.inr (some 81))] h0 (rf_V h0 (fun F' A' => fr1 [8, 10, 9, 14, 11, 12, 6, 5, 23, 20, 21] F0 F' ∧ fr2 [22] A0 A' ∧ ((F0 8 ≤ F' 8 ∧ F' 8 ≤ F0 7 ∧ F0 20 ≤ F' 20 ∧ F' 20 ≤ 30 ∧ F' 21 = F0 21 ∧ F0 23 ≤ F' 23 ∧ F' 23 ≤ 1000000 ∧ (F' 9 = 2 → 0 ≤ F' 11 ∧ F' 11 ≤ 9) ∧ 0 ≤ F' 9 ∧ F' 9 ≤ 4) ∧ (F' 6 = 0 → F' 20 = F0 20 ∧ F0 6 = 0 ∧ (F' 9 = 0 ∨ F0 8 < F' 8)) ∧ (F' 6 = 0 → F' 23 ≤ 124 → rd1 (A' 22) (A0 22) (F0 23) (F' 23) (F0 20))))) := by
  refine am_Mt.of (D := (2 * gk + 6)) ?_
  have hI : rf_I h0 h0 F0 A0 := rf_I.start hR
  refine k_aload 1 rfl rfl rfl ?_
  refine k_in (d := 0) rfl (Nat.ble_eq_true_of_le (by omega)) rfl rfl hI.rc ?_
  refine k_aload 1 rfl rfl rfl ?_
  refine r_gI hI 4 rfl rfl rfl (fun x38 (e39 : x38.toInt = F0 6) => ?_)
  by_cases b40 : x38 = 0
  · refine k_c1 7 rfl rfl (if_pos b40) ?_
    have b40 := iv_eq0.mp b40
    refine k_push 8 rfl rfl ?_
    have hc41 : (1 : Int32).toInt = 1 := by decide
    refine k_goto 12 rfl rfl ?_
    refine k_fin rfl (fin_Z (Or.inr rfl)) ⟨_, _, rfl, rf_len hI hI, ?_⟩
    show am_Ok _ _ _ (4, _, [.inl (1 : Int32)], _, 0, 0) _
    refine k_c1 8 rfl rfl (if_neg (by decide)) ?_
    refine k_aload 9 rfl rfl rfl ?_
    refine k_push 11 rfl rfl ?_
    have hc42 : (92 : Int32).toInt = 92 := by decide
    refine k_in (d := 1) rfl (Nat.ble_eq_true_of_le (by omega)) rfl rfl hI.rc ?_
    refine k_aload 1 rfl rfl rfl ?_
    refine k_in (d := 0) rfl (Nat.ble_eq_true_of_le (by omega)) rfl rfl hI.rc ?_
    refine k_aload 1 rfl rfl rfl ?_
    refine r_gI hI 4 rfl rfl rfl (fun x43 (e44 : x43.toInt = F0 6) => ?_)
    by_cases b45 : x43 = 0
    · refine k_c1 7 rfl rfl (if_pos b45) ?_
      have b45 := iv_eq0.mp b45
      refine k_push 8 rfl rfl ?_
      refine k_goto 12 rfl rfl ?_
      refine k_fin rfl (fin_Z (Or.inr rfl)) ⟨_, _, rfl, rf_len hI hI, ?_⟩
      show am_Ok _ _ _ (4, _, [.inl (1 : Int32)], _, 0, 0) _
      refine k_c1 7 rfl rfl (if_neg (by decide)) ?_
      refine k_aload 8 rfl rfl rfl ?_
      refine r_gI hI 11 rfl rfl rfl (fun x46 (e47 : x46.toInt = F0 9) => ?_)
      refine k_push 12 rfl rfl ?_
      have hc48 : (3 : Int32).toInt = 3 := by decide
      by_cases b49 : x46 = (3 : Int32)
      · refine k_c2 15 rfl rfl (if_pos b49) ?_
        have b49 := iv_eq.mp b49
        refine k_aload 16 rfl rfl rfl ?_
        refine r_gI hI 19 rfl rfl rfl (fun x50 (e51 : x50.toInt = F0 11) => ?_)
        refine k_iload 20 rfl rfl rfl ?_
        by_cases b52 : x50 = (92 : Int32)
        · refine k_c2 23 rfl rfl (if_pos b52) ?_
          have b52 := iv_eq.mp b52
          refine k_push 24 rfl rfl ?_
          refine k_goto 28 rfl rfl ?_
          refine k_fin rfl (fin_Z (Or.inr rfl)) ⟨_, _, rfl, rf_len hI hI, ?_⟩
          show am_Ok _ _ _ (14, _, [.inl (1 : Int32)], _, 0, 0) _
          refine k_c1 17 rfl rfl (if_neg (by decide)) ?_
          refine k_aload 18 rfl rfl rfl ?_
          refine k_rv hI rfl (m_readsFunction (gk := gk) hI.1 (hrec) (show 0 ≤ (F0 8) ∧ (F0 8) ≤ (F0 7) ∧ (F0 7) ≤ 700 ∧ 0 ≤ (F0 20) ∧ (F0 20) ≤ 30 ∧ 0 ≤ (F0 21) ∧ (F0 21) ≤ 12 ∧ 0 ≤ (F0 18) ∧ (F0 18) ≤ 12 ∧ 0 ≤ (F0 23) ∧ (F0 23) ≤ 1000000 ∧ ((F0 9) = 2 → 0 ≤ (F0 11) ∧ (F0 11) ≤ 9) ∧ 0 ≤ (F0 9) ∧ (F0 9) ≤ 4 by omega) (show nm ((A0 16)) ((A0 17)) ((F0 18)) from p2) (show (12 - (F0 21)) + (30 - (F0 20)) < ((gk) : Int) + 1 by omega) (show (F0 6) = 0 by omega)) (Nat.ble_eq_true_of_le (by omega)) rfl rfl hI.rc ?_
          rintro h54 F55 A56 I57 ⟨k59, k60, p58⟩
          replace p58 : ((F0 8) ≤ F55 8 ∧ F55 8 ≤ (F0 7) ∧ (F0 20) ≤ F55 20 ∧ F55 20 ≤ 30 ∧ F55 21 = (F0 21) ∧ (F0 23) ≤ F55 23 ∧ F55 23 ≤ 1000000 ∧ (F55 9 = 2 → 0 ≤ F55 11 ∧ F55 11 ≤ 9) ∧ 0 ≤ F55 9 ∧ F55 9 ≤ 4) ∧ (F55 6 = 0 → F55 20 = (F0 20) ∧ (F0 6) = 0 ∧ (F55 9 = 0 ∨ (F0 8) < F55 8)) ∧ (F55 6 = 0 → F55 23 ≤ 124 → rd1 (A56 22) ((A0 22)) ((F0 23)) (F55 23) ((F0 20))) := p58
          obtain ⟨p58a, p58b, p58c⟩ := p58
          show am_Ok _ _ _ (21, _, [], _, 0, 0) _
          exact k_fin rfl rfl ⟨_, _, _, rfl, I57, (fr1.tr (by decide) fr1.rf k59), (fr2.tr (by decide) fr2.rf k60), ⟨(show (F0 8 ≤ F55 8 ∧ F55 8 ≤ F0 7 ∧ F0 20 ≤ F55 20 ∧ F55 20 ≤ 30 ∧ F55 21 = F0 21 ∧ F0 23 ≤ F55 23 ∧ F55 23 ≤ 1000000 ∧ (F55 9 = 2 → 0 ≤ F55 11 ∧ F55 11 ≤ 9) ∧ 0 ≤ F55 9 ∧ F55 9 ≤ 4) by omega), (show (F55 6 = 0 → F55 20 = F0 20 ∧ F0 6 = 0 ∧ (F55 9 = 0 ∨ F0 8 < F55 8)) by omega), p58c⟩⟩
        · refine k_c2 27 rfl rfl (if_neg b52) ?_
          have b52 := mt iv_eq.mpr b52
          refine k_push 28 rfl rfl ?_
          have hc61 : (0 : Int32).toInt = 0 := by decide
          refine k_fin rfl (fin_Z (Or.inl rfl)) ⟨_, _, rfl, rf_len hI hI, ?_⟩
          show am_Ok _ _ _ (14, _, [.inl (0 : Int32)], _, 0, 0) _
          refine k_c1 22 rfl rfl (if_pos (by decide)) ?_
          refine k_aload 23 rfl rfl rfl ?_
          refine r_gI hI 26 rfl rfl rfl (fun x62 (e63 : x62.toInt = F0 23) => ?_)
          refine k_istore 27 rfl rfl ?_
          refine k_aload 28 rfl (gs_ne rfl rfl rfl) rfl ?_
          refine k_rv hI rfl (m_readsAtom (gk := gk) hI.1 (hrec) (show 0 ≤ (F0 8) ∧ (F0 8) ≤ (F0 7) ∧ (F0 7) ≤ 700 ∧ 0 ≤ (F0 20) ∧ (F0 20) ≤ 30 ∧ 0 ≤ (F0 21) ∧ (F0 21) ≤ 12 ∧ 0 ≤ (F0 18) ∧ (F0 18) ≤ 12 ∧ 0 ≤ (F0 23) ∧ (F0 23) ≤ 1000000 ∧ ((F0 9) = 2 → 0 ≤ (F0 11) ∧ (F0 11) ≤ 9) ∧ 0 ≤ (F0 9) ∧ (F0 9) ≤ 4 by omega) (show nm ((A0 16)) ((A0 17)) ((F0 18)) from p2) (show (12 - (F0 21)) + (30 - (F0 20)) < ((gk) : Int) + 1 by omega)) (Nat.ble_eq_true_of_le (by omega)) rfl rfl hI.rc ?_
          rintro h65 F66 A67 I68 ⟨k70, k71, p69⟩
          replace p69 : ((F0 8) ≤ F66 8 ∧ F66 8 ≤ (F0 7) ∧ (F0 20) ≤ F66 20 ∧ F66 20 ≤ 30 ∧ F66 21 = (F0 21) ∧ (F0 23) ≤ F66 23 ∧ F66 23 ≤ 1000000 ∧ (F66 9 = 2 → 0 ≤ F66 11 ∧ F66 11 ≤ 9) ∧ 0 ≤ F66 9 ∧ F66 9 ≤ 4) ∧ (F66 6 = 0 → F66 20 = (F0 20) ∧ (F0 6) = 0 ∧ (F66 9 = 0 ∨ (F0 8) < F66 8)) ∧ (F66 6 = 0 → F66 23 ≤ 124 → rd1 (A67 22) ((A0 22)) ((F0 23)) (F66 23) ((F0 20))) := p69
          obtain ⟨p69a, p69b, p69c⟩ := p69
          show am_Ok _ _ _ (31, _, [], _, 0, 0) _
          exact b_X10_readsTerm_31 (gk := gk)  hrec p1 p2 p3 _  rfl (gs_ne rfl rfl rfl) gs_eq I68 (fr1.tr (by decide) fr1.rf k70) (fr2.tr (by decide) fr2.rf k71) (show x62.toInt = F0 23 by omega) (show (F0 8 ≤ (F66 8) ∧ (F66 8) ≤ F0 7 ∧ F0 20 ≤ (F66 20) ∧ (F66 20) ≤ 30 ∧ (F66 21) = F0 21 ∧ F0 23 ≤ (F66 23) ∧ (F66 23) ≤ 1000000 ∧ ((F66 9) = 2 → 0 ≤ (F66 11) ∧ (F66 11) ≤ 9) ∧ 0 ≤ (F66 9) ∧ (F66 9) ≤ 4) by omega) (show ((F66 6) = 0 → (F66 20) = F0 20 ∧ F0 6 = 0 ∧ ((F66 9) = 0 ∨ F0 8 < (F66 8))) by omega) (p69c)
      · refine k_c2 27 rfl rfl (if_neg b49) ?_
        have b49 := mt iv_eq.mpr b49
        refine k_push 28 rfl rfl ?_
        have hc72 : (0 : Int32).toInt = 0 := by decide
        refine k_fin rfl (fin_Z (Or.inl rfl)) ⟨_, _, rfl, rf_len hI hI, ?_⟩
        show am_Ok _ _ _ (14, _, [.inl (0 : Int32)], _, 0, 0) _
        refine k_c1 22 rfl rfl (if_pos (by decide)) ?_
        refine k_aload 23 rfl rfl rfl ?_
        refine r_gI hI 26 rfl rfl rfl (fun x73 (e74 : x73.toInt = F0 23) => ?_)
        refine k_istore 27 rfl rfl ?_
        refine k_aload 28 rfl (gs_ne rfl rfl rfl) rfl ?_
        refine k_rv hI rfl (m_readsAtom (gk := gk) hI.1 (hrec) (show 0 ≤ (F0 8) ∧ (F0 8) ≤ (F0 7) ∧ (F0 7) ≤ 700 ∧ 0 ≤ (F0 20) ∧ (F0 20) ≤ 30 ∧ 0 ≤ (F0 21) ∧ (F0 21) ≤ 12 ∧ 0 ≤ (F0 18) ∧ (F0 18) ≤ 12 ∧ 0 ≤ (F0 23) ∧ (F0 23) ≤ 1000000 ∧ ((F0 9) = 2 → 0 ≤ (F0 11) ∧ (F0 11) ≤ 9) ∧ 0 ≤ (F0 9) ∧ (F0 9) ≤ 4 by omega) (show nm ((A0 16)) ((A0 17)) ((F0 18)) from p2) (show (12 - (F0 21)) + (30 - (F0 20)) < ((gk) : Int) + 1 by omega)) (Nat.ble_eq_true_of_le (by omega)) rfl rfl hI.rc ?_
        rintro h76 F77 A78 I79 ⟨k81, k82, p80⟩
        replace p80 : ((F0 8) ≤ F77 8 ∧ F77 8 ≤ (F0 7) ∧ (F0 20) ≤ F77 20 ∧ F77 20 ≤ 30 ∧ F77 21 = (F0 21) ∧ (F0 23) ≤ F77 23 ∧ F77 23 ≤ 1000000 ∧ (F77 9 = 2 → 0 ≤ F77 11 ∧ F77 11 ≤ 9) ∧ 0 ≤ F77 9 ∧ F77 9 ≤ 4) ∧ (F77 6 = 0 → F77 20 = (F0 20) ∧ (F0 6) = 0 ∧ (F77 9 = 0 ∨ (F0 8) < F77 8)) ∧ (F77 6 = 0 → F77 23 ≤ 124 → rd1 (A78 22) ((A0 22)) ((F0 23)) (F77 23) ((F0 20))) := p80
        obtain ⟨p80a, p80b, p80c⟩ := p80
        show am_Ok _ _ _ (31, _, [], _, 0, 0) _
        exact b_X10_readsTerm_31 (gk := gk)  hrec p1 p2 p3 _  rfl (gs_ne rfl rfl rfl) gs_eq I79 (fr1.tr (by decide) fr1.rf k81) (fr2.tr (by decide) fr2.rf k82) (show x73.toInt = F0 23 by omega) (show (F0 8 ≤ (F77 8) ∧ (F77 8) ≤ F0 7 ∧ F0 20 ≤ (F77 20) ∧ (F77 20) ≤ 30 ∧ (F77 21) = F0 21 ∧ F0 23 ≤ (F77 23) ∧ (F77 23) ≤ 1000000 ∧ ((F77 9) = 2 → 0 ≤ (F77 11) ∧ (F77 11) ≤ 9) ∧ 0 ≤ (F77 9) ∧ (F77 9) ≤ 4) by omega) (show ((F77 6) = 0 → (F77 20) = F0 20 ∧ F0 6 = 0 ∧ ((F77 9) = 0 ∨ F0 8 < (F77 8))) by omega) (p80c)
    · refine k_c1 11 rfl rfl (if_neg b45) ?_
      have b45 := mt iv_eq0.mpr b45
      refine k_push 12 rfl rfl ?_
      have hc83 : (0 : Int32).toInt = 0 := by decide
      refine k_fin rfl (fin_Z (Or.inl rfl)) ⟨_, _, rfl, rf_len hI hI, ?_⟩
      show am_Ok _ _ _ (4, _, [.inl (0 : Int32)], _, 0, 0) _
      refine k_c1 27 rfl rfl (if_pos (by decide)) ?_
      refine k_push 28 rfl rfl ?_
      refine k_fin rfl (fin_Z (Or.inl rfl)) ⟨_, _, rfl, rf_len hI hI, ?_⟩
      show am_Ok _ _ _ (14, _, [.inl (0 : Int32)], _, 0, 0) _
      refine k_c1 22 rfl rfl (if_pos (by decide)) ?_
      refine k_aload 23 rfl rfl rfl ?_
      refine r_gI hI 26 rfl rfl rfl (fun x84 (e85 : x84.toInt = F0 23) => ?_)
      refine k_istore 27 rfl rfl ?_
      refine k_aload 28 rfl (gs_ne rfl rfl rfl) rfl ?_
      refine k_rv hI rfl (m_readsAtom (gk := gk) hI.1 (hrec) (show 0 ≤ (F0 8) ∧ (F0 8) ≤ (F0 7) ∧ (F0 7) ≤ 700 ∧ 0 ≤ (F0 20) ∧ (F0 20) ≤ 30 ∧ 0 ≤ (F0 21) ∧ (F0 21) ≤ 12 ∧ 0 ≤ (F0 18) ∧ (F0 18) ≤ 12 ∧ 0 ≤ (F0 23) ∧ (F0 23) ≤ 1000000 ∧ ((F0 9) = 2 → 0 ≤ (F0 11) ∧ (F0 11) ≤ 9) ∧ 0 ≤ (F0 9) ∧ (F0 9) ≤ 4 by omega) (show nm ((A0 16)) ((A0 17)) ((F0 18)) from p2) (show (12 - (F0 21)) + (30 - (F0 20)) < ((gk) : Int) + 1 by omega)) (Nat.ble_eq_true_of_le (by omega)) rfl rfl hI.rc ?_
      rintro h87 F88 A89 I90 ⟨k92, k93, p91⟩
      replace p91 : ((F0 8) ≤ F88 8 ∧ F88 8 ≤ (F0 7) ∧ (F0 20) ≤ F88 20 ∧ F88 20 ≤ 30 ∧ F88 21 = (F0 21) ∧ (F0 23) ≤ F88 23 ∧ F88 23 ≤ 1000000 ∧ (F88 9 = 2 → 0 ≤ F88 11 ∧ F88 11 ≤ 9) ∧ 0 ≤ F88 9 ∧ F88 9 ≤ 4) ∧ (F88 6 = 0 → F88 20 = (F0 20) ∧ (F0 6) = 0 ∧ (F88 9 = 0 ∨ (F0 8) < F88 8)) ∧ (F88 6 = 0 → F88 23 ≤ 124 → rd1 (A89 22) ((A0 22)) ((F0 23)) (F88 23) ((F0 20))) := p91
      obtain ⟨p91a, p91b, p91c⟩ := p91
      show am_Ok _ _ _ (31, _, [], _, 0, 0) _
      exact b_X10_readsTerm_31 (gk := gk)  hrec p1 p2 p3 _  rfl (gs_ne rfl rfl rfl) gs_eq I90 (fr1.tr (by decide) fr1.rf k92) (fr2.tr (by decide) fr2.rf k93) (show x84.toInt = F0 23 by omega) (show (F0 8 ≤ (F88 8) ∧ (F88 8) ≤ F0 7 ∧ F0 20 ≤ (F88 20) ∧ (F88 20) ≤ 30 ∧ (F88 21) = F0 21 ∧ F0 23 ≤ (F88 23) ∧ (F88 23) ≤ 1000000 ∧ ((F88 9) = 2 → 0 ≤ (F88 11) ∧ (F88 11) ≤ 9) ∧ 0 ≤ (F88 9) ∧ (F88 9) ≤ 4) by omega) (show ((F88 6) = 0 → (F88 20) = F0 20 ∧ F0 6 = 0 ∧ ((F88 9) = 0 ∨ F0 8 < (F88 8))) by omega) (p91c)
  · refine k_c1 11 rfl rfl (if_neg b40) ?_
    have b40 := mt iv_eq0.mpr b40
    refine k_push 12 rfl rfl ?_
    have hc94 : (0 : Int32).toInt = 0 := by decide
    refine k_fin rfl (fin_Z (Or.inl rfl)) ⟨_, _, rfl, rf_len hI hI, ?_⟩
    show am_Ok _ _ _ (4, _, [.inl (0 : Int32)], _, 0, 0) _
    refine k_c1 7 rfl rfl (if_pos (by decide)) ?_
    exact k_fin rfl rfl ⟨_, _, _, rfl, hI, fr1.rf, fr2.rf, ⟨(show (F0 8 ≤ F0 8 ∧ F0 8 ≤ F0 7 ∧ F0 20 ≤ F0 20 ∧ F0 20 ≤ 30 ∧ F0 21 = F0 21 ∧ F0 23 ≤ F0 23 ∧ F0 23 ≤ 1000000 ∧ (F0 9 = 2 → 0 ≤ F0 11 ∧ F0 11 ≤ 9) ∧ 0 ≤ F0 9 ∧ F0 9 ≤ 4) by omega), (show (F0 6 = 0 → F0 20 = F0 20 ∧ F0 6 = 0 ∧ (F0 9 = 0 ∨ F0 8 < F0 8)) by omega), fun z => absurd (show F0 6 = 0 from z) (by omega)⟩⟩
end
