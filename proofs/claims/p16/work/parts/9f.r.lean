section
set_option maxHeartbeats 4000000 in
theorem b_X10_readsTerm_31 {h0 : am_h} {F0 : rf_f} {A0 : rf_A} {gk : Nat} {tx : List Int} {gs : mS} (hrec : ∀ {tx : List Int} {gs : mS} {h0 : am_h} {F0 : rf_f} {A0 : rf_A}, rf_R h0 F0 A0 → (0 ≤ F0 8 ∧ F0 8 ≤ F0 7 ∧ F0 7 ≤ 700 ∧ 0 ≤ F0 20 ∧ F0 20 ≤ 30 ∧ 0 ≤ F0 21 ∧ F0 21 ≤ 12 ∧ 0 ≤ F0 18 ∧ F0 18 ≤ 12 ∧ 0 ≤ F0 23 ∧ F0 23 ≤ 1000000 ∧ (F0 9 = 2 → 0 ≤ F0 11 ∧ F0 11 ≤ 9) ∧ 0 ≤ F0 9 ∧ F0 9 ≤ 4) → (nm (A0 16) (A0 17) (F0 18)) → ((12 - F0 21) + (30 - F0 20) < (gk : Int)) → (TP tx (F0 7) (A0 3)) → (imp (F0 6 = 0) (XP tx gs (F0 8) (F0 9) (F0 10) (F0 11) (F0 12) (F0 13) (F0 14) (F0 18) (F0 20) (F0 21) (F0 23) (A0 15) (A0 16) (A0 17) (A0 19) (A0 22))) → am_Mt (2 * gk + 5) 182 [.inr (.inr (some 81))] h0 (rf_V h0 (fun F' A' => fr1 [8, 10, 9, 14, 11, 12, 13, 6, 5, 23, 20, 21] F0 F' ∧ fr2 [22, 19] A0 A' ∧ ((F0 8 ≤ F' 8 ∧ F' 8 ≤ F0 7 ∧ F0 20 ≤ F' 20 ∧ F' 20 ≤ 30 ∧ F' 21 = F0 21 ∧ F0 23 ≤ F' 23 ∧ F' 23 ≤ 1000000 ∧ (F' 9 = 2 → 0 ≤ F' 11 ∧ F' 11 ≤ 9) ∧ 0 ≤ F' 9 ∧ F' 9 ≤ 4) ∧ (F' 6 = 0 → F' 20 = F0 20 ∧ F0 6 = 0 ∧ (F' 9 = 0 ∨ F0 8 < F' 8) ∧ F' 5 = F0 5) ∧ imp (F' 6 = 0) (F' 23 ≤ 124 → rd1 (A' 22) (A0 22) (F0 23) (F' 23) (F0 20)) ∧ (F' 6 = 0 → F' 9 ≠ 1 ∧ F' 9 ≠ 2 ∧ (F' 9 = 3 → F' 11 ≠ 40)) ∧ (F0 6 ≠ 0 → F' 6 = F0 6 ∧ F' 5 = F0 5) ∧ imp (F0 6 = 0) (XT tx gs (F' 5) (F' 6) (F' 8) (F' 9) (F' 10) (F' 11) (F' 12) (F' 13) (F' 14) (F' 18) (F' 20) (F' 21) (F' 23) (A' 15) (A' 16) (A' 17) (A' 19) (A' 22)))))) (p1 : 0 ≤ F0 8 ∧ F0 8 ≤ F0 7 ∧ F0 7 ≤ 700 ∧ 0 ≤ F0 20 ∧ F0 20 ≤ 30 ∧ 0 ≤ F0 21 ∧ F0 21 ≤ 12 ∧ 0 ≤ F0 18 ∧ F0 18 ≤ 12 ∧ 0 ≤ F0 23 ∧ F0 23 ≤ 1000000 ∧ (F0 9 = 2 → 0 ≤ F0 11 ∧ F0 11 ≤ 9) ∧ 0 ≤ F0 9 ∧ F0 9 ≤ 4) (p2 : nm (A0 16) (A0 17) (F0 18)) (p3 : (12 - F0 21) + (30 - F0 20) < (gk : Int) + 1) (pT : TP tx (F0 7) (A0 3)) (p6 : imp (F0 6 = 0) (XP tx gs (F0 8) (F0 9) (F0 10) (F0 11) (F0 12) (F0 13) (F0 14) (F0 18) (F0 20) (F0 21) (F0 23) (A0 15) (A0 16) (A0 17) (A0 19) (A0 22))) : ∀ (n : Nat) {lv : am_l} {h : am_h} {F : rf_f} {A : rf_A} {v1 : Int32}, ((10 * (F0 7 - F 8) + F 9 + (if F 6 = 0 then 100 else 0)).toNat) = n → am_get lv 0 = some (.inr (.inr (some 81))) → am_get lv 1 = some (.inl v1) → rf_I h0 h F A → fr1 [8, 10, 9, 14, 11, 12, 13, 6, 5, 23, 20, 21] F0 F → fr2 [22, 19] A0 A → (v1.toInt = F0 23) → ((F0 8 ≤ F 8 ∧ F 8 ≤ F0 7 ∧ F0 20 ≤ F 20 ∧ F 20 ≤ 30 ∧ F 21 = F0 21 ∧ F0 23 ≤ F 23 ∧ F 23 ≤ 1000000 ∧ (F 9 = 2 → 0 ≤ F 11 ∧ F 11 ≤ 9) ∧ 0 ≤ F 9 ∧ F 9 ≤ 4)) → ((F 6 = 0 → F 20 = F0 20 ∧ F0 6 = 0 ∧ (F 9 = 0 ∨ F0 8 < F 8) ∧ F 5 = F0 5)) → (imp (F 6 = 0) (F 23 ≤ 124 → rd1 (A 22) (A0 22) (F0 23) (F 23) (F0 20))) → (XO tx gs v1.toInt (F 5) (F 6) (F 8) (F 9) (F 10) (F 11) (F 12) (F 13) (F 14) (F 18) (F 20) (F 21) (F 23) (A 15) (A 16) (A 17) (A 19) (A 22)) → (F0 6 = 0) → am_Ok am_G (2 * gk + 6) 182 (31, lv, [], h, 0, 0) (rf_V h0 (fun F' A' => fr1 [8, 10, 9, 14, 11, 12, 13, 6, 5, 23, 20, 21] F0 F' ∧ fr2 [22, 19] A0 A' ∧ ((F0 8 ≤ F' 8 ∧ F' 8 ≤ F0 7 ∧ F0 20 ≤ F' 20 ∧ F' 20 ≤ 30 ∧ F' 21 = F0 21 ∧ F0 23 ≤ F' 23 ∧ F' 23 ≤ 1000000 ∧ (F' 9 = 2 → 0 ≤ F' 11 ∧ F' 11 ≤ 9) ∧ 0 ≤ F' 9 ∧ F' 9 ≤ 4) ∧ (F' 6 = 0 → F' 20 = F0 20 ∧ F0 6 = 0 ∧ (F' 9 = 0 ∨ F0 8 < F' 8) ∧ F' 5 = F0 5) ∧ imp (F' 6 = 0) (F' 23 ≤ 124 → rd1 (A' 22) (A0 22) (F0 23) (F' 23) (F0 20)) ∧ (F' 6 = 0 → F' 9 ≠ 1 ∧ F' 9 ≠ 2 ∧ (F' 9 = 3 → F' 11 ≠ 40)) ∧ (F0 6 ≠ 0 → F' 6 = F0 6 ∧ F' 5 = F0 5) ∧ imp (F0 6 = 0) (XT tx gs (F' 5) (F' 6) (F' 8) (F' 9) (F' 10) (F' 11) (F' 12) (F' 13) (F' 14) (F' 18) (F' 20) (F' 21) (F' 23) (A' 15) (A' 16) (A' 17) (A' 19) (A' 22))))) := by
  intro n
  induction n using Nat.strongRecOn with
  | ind n ih =>
    intro lv h F A v1 hn g0 g1 hI hF hA i0 i1 i2 i3 i4 i5
    refine k_aload 32 rfl g0 rfl ?_
    refine k_rq hI rfl (m_isAtom  hI.1 ) (Nat.ble_eq_true_of_le (by omega)) rfl rfl hI.rc ?_
    rintro x1 h2 F3 A4 I5 ⟨k7, k8, pq6⟩
    replace pq6 : (x1.toInt = 1 ∧ (F 6) = 0 ∧ ((F 9) = 1 ∨ (F 9) = 2 ∨ ((F 9) = 3 ∧ (F 11) = 40))) ∨ (x1.toInt = 0 ∧ ¬ ((F 6) = 0 ∧ ((F 9) = 1 ∨ (F 9) = 2 ∨ ((F 9) = 3 ∧ (F 11) = 40)))) := pq6
    have k7 := fr1.nil k7
    subst k7
    have k8 := fr2.nil k8
    subst k8
    have z9 := iv_01 (x := x1) (by omega)
    show am_Ok _ _ _ (35, _, [.inl x1], _, 0, 0) _
    by_cases b10 : x1 = 0
    · refine k_c1 51 rfl rfl (if_pos b10) ?_
      have b10 := iv_eq0.mp b10
      have e11 : F 18 = F0 18 := hF 18 (by decide)
      exact k_fin rfl rfl ⟨_, _, _, rfl, I5, hF, hA, ⟨i1, i2, i3, (show (F 6 = 0 → F 9 ≠ 1 ∧ F 9 ≠ 2 ∧ (F 9 = 3 → F 11 ≠ 40)) by omega), (show (F0 6 ≠ 0 → F 6 = F0 6 ∧ F 5 = F0 5) by omega), fun _ => rt_e i4 (fun z => by have h9 := (p6 i5).2.2.2.1; have z : F 6 = 0 := z; omega)⟩⟩
    · refine k_c1 38 rfl rfl (if_neg b10) ?_
      have b10 := mt iv_eq0.mpr b10
      have hk1 : F 6 = 0 ∧ (F 9 = 1 ∨ F 9 = 2 ∨ (F 9 = 3 ∧ F 11 = 40)) := by omega
      clear pq6
      obtain ⟨gz, gx1, gx2, gx3, gx4, gx5, gx6, gx7⟩ := i4.1 (by omega)
      have hx20 := (p6 i5).2.2.2.1
      refine k_aload 39 rfl g0 rfl ?_
      refine k_iload 40 rfl g1 rfl ?_
      refine k_push 41 rfl rfl ?_
      have hc12 : (0 : Int32).toInt = 0 := by decide
      refine k_rv I5 rfl (m_emitsAhead  I5.1 (show 0 ≤ (F 23) ∧ (F 23) ≤ 1000000 by omega) (show 0 ≤ v1.toInt ∧ v1.toInt ≤ (F 23) by omega)) (Nat.ble_eq_true_of_le (by omega)) rfl rfl I5.rc ?_
      rintro h14 F15 A16 I17 ⟨k19, k20, pq18⟩
      replace pq18 : ((F 23) ≤ F15 23 ∧ F15 23 ≤ 1000000) ∧ (F15 23 ≤ 124 → F15 23 = (F 23) + 1) ∧ imp (F15 23 ≤ 124) (A16 22 v1.toInt = (0 : Int32).toInt ∧ (∀ q : Int, q < v1.toInt → A16 22 q = (A 22) q) ∧ ∀ q : Int, v1.toInt ≤ q → q < (F 23) → A16 22 (q + 1) = (A 22) q) ∧ (((F 23) < 1000000 → F15 23 = (F 23) + 1) ∧ (¬ (F 23) < 1000000 → F15 23 = (F 23))) := pq18
      obtain ⟨pq18a, pq18b, pq18c, pq18d⟩ := pq18
      show am_Ok _ _ _ (44, _, [], _, 0, 0) _
      have e21 : F15 18 = F 18 := k19 18 (by decide)
      have e22 : F 18 = F0 18 := hF 18 (by decide)
      have e23 : F15 20 = F 20 := k19 20 (by decide)
      have e24 : F15 21 = F 21 := k19 21 (by decide)
      have e25 : F15 8 = F 8 := k19 8 (by decide)
      have e26 : F15 9 = F 9 := k19 9 (by decide)
      have e27 : F15 10 = F 10 := k19 10 (by decide)
      have e28 : F15 11 = F 11 := k19 11 (by decide)
      have e29 : F15 12 = F 12 := k19 12 (by decide)
      have e30 : F15 13 = F 13 := k19 13 (by decide)
      have e31 : F15 14 = F 14 := k19 14 (by decide)
      have hcb : CU (m_B gz) (F15 23) (A16 22) := by unfold m_B ba; rw [if_neg gx3]; exact gx7.1.ahead gx4 gx5 pq18d.1 pq18d.2 (fun z => ⟨(pq18c z).1.trans (by decide), (pq18c z).2⟩)
      refine k_aload 45 rfl g0 rfl ?_
      have e32 : F15 7 = F 7 := k19 7 (by decide)
      have e33 : F 7 = F0 7 := hF 7 (by decide)
      have e34 : F15 6 = F 6 := k19 6 (by decide)
      have e35 : F15 5 = F 5 := k19 5 (by decide)
      refine k_rv I17 rfl (m_readsAtom (gk := gk) (gs := gz) I17.1 (hrec) (show 0 ≤ (F15 8) ∧ (F15 8) ≤ (F15 7) ∧ (F15 7) ≤ 700 ∧ 0 ≤ (F15 20) ∧ (F15 20) ≤ 30 ∧ 0 ≤ (F15 21) ∧ (F15 21) ≤ 12 ∧ 0 ≤ (F15 18) ∧ (F15 18) ≤ 12 ∧ 0 ≤ (F15 23) ∧ (F15 23) ≤ 1000000 ∧ ((F15 9) = 2 → 0 ≤ (F15 11) ∧ (F15 11) ≤ 9) ∧ 0 ≤ (F15 9) ∧ (F15 9) ≤ 4 by omega) (show nm ((A16 16)) ((A16 17)) ((F15 18)) by rw [((k20 16 (by decide)).trans (hA 16 (by decide))), ((k20 17 (by decide)).trans (hA 17 (by decide))), ((k19 18 (by decide)).trans (hF 18 (by decide)))]; exact p2) (show (12 - (F15 21)) + (30 - (F15 20)) < ((gk) : Int) + 1 by omega) (show TP tx ((F15 7)) ((A16 3)) by rw [((k19 7 (by decide)).trans (hF 7 (by decide))), ((k20 3 (by decide)).trans (hA 3 (by decide)))]; exact pT) (show (F15 6) = 0 by omega) (show TKv tx (m_e (gz)) ((F15 8)) ((F15 9)) ((F15 10)) ((F15 11)) ((F15 12)) ((F15 13)) ((F15 14)) from gx6.cg rfl (by omega) (by omega) (by omega) (by omega) (by omega) (by omega) (by omega)) (show RS (gz) (m_B (gz)) ((F15 18)) ((F15 20)) ((F15 21)) ((F15 23)) ((A16 15)) ((A16 16)) ((A16 17)) ((A16 19)) ((A16 22)) from (RS.new gx7 hcb).cg (by omega) (by omega) (by omega) rfl (k20 15 (by decide)) (k20 16 (by decide)) (k20 17 (by decide)) (k20 19 (by decide)) rfl) (show (F15 20) = ((m_ar (gz)).length : Int) by rw [gx2]; omega) (fun _ => gx5) (show (m_st (gz) = 4 ∧ ((F15 9) = 1 ∨ (F15 9) = 2 ∨ ((F15 9) = 3 ∧ (F15 11) = 40))) ∨ ((m_st (gz) = 1 ∨ (m_st (gz) = 0 ∧ ¬ (tO tx (m_e (gz)) = 97 ∧ tO tx (tE tx (m_e (gz))) = 61))) ∧ ((F15 9) = 3 → (F15 11) ≠ 92)) by have h9 := gx1.2.1; omega)) (Nat.ble_eq_true_of_le (by omega)) rfl rfl I17.rc ?_
      rintro h37 F38 A39 I40 ⟨k42, k43, pq41⟩
      replace pq41 : ((F15 8) ≤ F38 8 ∧ F38 8 ≤ (F15 7) ∧ (F15 20) ≤ F38 20 ∧ F38 20 ≤ 30 ∧ F38 21 = (F15 21) ∧ (F15 23) ≤ F38 23 ∧ F38 23 ≤ 1000000 ∧ (F38 9 = 2 → 0 ≤ F38 11 ∧ F38 11 ≤ 9) ∧ 0 ≤ F38 9 ∧ F38 9 ≤ 4) ∧ (F38 6 = 0 → F38 20 = (F15 20) ∧ (F15 6) = 0 ∧ (F38 9 = 0 ∨ (F15 8) < F38 8) ∧ F38 5 = (F15 5)) ∧ imp (F38 6 = 0) (F38 23 ≤ 124 → rd1 (A39 22) ((A16 22)) ((F15 23)) (F38 23) ((F15 20))) ∧ XA tx (gz) (F38 5) (F38 6) (F38 8) (F38 9) (F38 10) (F38 11) (F38 12) (F38 13) (F38 14) (F38 18) (F38 20) (F38 21) (F38 23) (A39 15) (A39 16) (A39 17) (A39 19) (A39 22) := pq41
      obtain ⟨pq41a, pq41b, pq41c, pq41d⟩ := pq41
      show am_Ok _ _ _ (48, _, [], _, 0, 0) _
      refine k_goto 31 rfl rfl ?_
      have e44 : F38 18 = F15 18 := k42 18 (by decide)
      exact ih _ ((by rw [← hn]; (repeat' split) <;> omega))  rfl g0 g1 I40 (fr1.tr (by decide) (fr1.tr (by decide) hF k19) k42) (fr2.tr (by decide) (fr2.tr (by decide) hA k20) k43) (show v1.toInt = F0 23 by omega) (show (F0 8 ≤ (F38 8) ∧ (F38 8) ≤ F0 7 ∧ F0 20 ≤ (F38 20) ∧ (F38 20) ≤ 30 ∧ (F38 21) = F0 21 ∧ F0 23 ≤ (F38 23) ∧ (F38 23) ≤ 1000000 ∧ ((F38 9) = 2 → 0 ≤ (F38 11) ∧ (F38 11) ≤ 9) ∧ 0 ≤ (F38 9) ∧ (F38 9) ≤ 4) by omega) (show ((F38 6) = 0 → (F38 20) = F0 20 ∧ F0 6 = 0 ∧ ((F38 9) = 0 ∨ F0 8 < (F38 8)) ∧ (F38 5) = F0 5) by omega) (fun z1 z2 => by have z8 : F38 6 = 0 := z1; have z9 : F38 23 ≤ 124 := z2; have h8 := pq18c (by omega); have h9 := pq41c z8 z9; show rd1 (A39 22) (A0 22) (F0 23) (F38 23) (F0 20); exact rd_app (i3 (by omega) (by omega)) (by rw [← i0]; exact h8.1.trans (by decide)) (fun q q1 q2 => h8.2.2 q (by omega) q2) (fun q hq => h8.2.1 q (by omega)) (rd_cg h9 (by omega) rfl (by omega))) (show XO tx gs v1.toInt ((F38 5)) ((F38 6)) ((F38 8)) ((F38 9)) ((F38 10)) ((F38 11)) ((F38 12)) ((F38 13)) ((F38 14)) ((F38 18)) ((F38 20)) ((F38 21)) ((F38 23)) ((A39 15)) ((A39 16)) ((A39 17)) ((A39 19)) ((A39 22)) from rt_o gx1 gx2 gx3 gx4 pq41d) (show F0 6 = 0 by omega)
set_option maxHeartbeats 4000000 in
theorem m_readsTerm {h0 : am_h} {F0 : rf_f} {A0 : rf_A} {gk : Nat} {tx : List Int} {gs : mS} (hR : rf_R h0 F0 A0) (hrec : ∀ {tx : List Int} {gs : mS} {h0 : am_h} {F0 : rf_f} {A0 : rf_A}, rf_R h0 F0 A0 → (0 ≤ F0 8 ∧ F0 8 ≤ F0 7 ∧ F0 7 ≤ 700 ∧ 0 ≤ F0 20 ∧ F0 20 ≤ 30 ∧ 0 ≤ F0 21 ∧ F0 21 ≤ 12 ∧ 0 ≤ F0 18 ∧ F0 18 ≤ 12 ∧ 0 ≤ F0 23 ∧ F0 23 ≤ 1000000 ∧ (F0 9 = 2 → 0 ≤ F0 11 ∧ F0 11 ≤ 9) ∧ 0 ≤ F0 9 ∧ F0 9 ≤ 4) → (nm (A0 16) (A0 17) (F0 18)) → ((12 - F0 21) + (30 - F0 20) < (gk : Int)) → (TP tx (F0 7) (A0 3)) → (imp (F0 6 = 0) (XP tx gs (F0 8) (F0 9) (F0 10) (F0 11) (F0 12) (F0 13) (F0 14) (F0 18) (F0 20) (F0 21) (F0 23) (A0 15) (A0 16) (A0 17) (A0 19) (A0 22))) → am_Mt (2 * gk + 5) 182 [.inr (.inr (some 81))] h0 (rf_V h0 (fun F' A' => fr1 [8, 10, 9, 14, 11, 12, 13, 6, 5, 23, 20, 21] F0 F' ∧ fr2 [22, 19] A0 A' ∧ ((F0 8 ≤ F' 8 ∧ F' 8 ≤ F0 7 ∧ F0 20 ≤ F' 20 ∧ F' 20 ≤ 30 ∧ F' 21 = F0 21 ∧ F0 23 ≤ F' 23 ∧ F' 23 ≤ 1000000 ∧ (F' 9 = 2 → 0 ≤ F' 11 ∧ F' 11 ≤ 9) ∧ 0 ≤ F' 9 ∧ F' 9 ≤ 4) ∧ (F' 6 = 0 → F' 20 = F0 20 ∧ F0 6 = 0 ∧ (F' 9 = 0 ∨ F0 8 < F' 8) ∧ F' 5 = F0 5) ∧ imp (F' 6 = 0) (F' 23 ≤ 124 → rd1 (A' 22) (A0 22) (F0 23) (F' 23) (F0 20)) ∧ (F' 6 = 0 → F' 9 ≠ 1 ∧ F' 9 ≠ 2 ∧ (F' 9 = 3 → F' 11 ≠ 40)) ∧ (F0 6 ≠ 0 → F' 6 = F0 6 ∧ F' 5 = F0 5) ∧ imp (F0 6 = 0) (XT tx gs (F' 5) (F' 6) (F' 8) (F' 9) (F' 10) (F' 11) (F' 12) (F' 13) (F' 14) (F' 18) (F' 20) (F' 21) (F' 23) (A' 15) (A' 16) (A' 17) (A' 19) (A' 22)))))) (p1 : 0 ≤ F0 8 ∧ F0 8 ≤ F0 7 ∧ F0 7 ≤ 700 ∧ 0 ≤ F0 20 ∧ F0 20 ≤ 30 ∧ 0 ≤ F0 21 ∧ F0 21 ≤ 12 ∧ 0 ≤ F0 18 ∧ F0 18 ≤ 12 ∧ 0 ≤ F0 23 ∧ F0 23 ≤ 1000000 ∧ (F0 9 = 2 → 0 ≤ F0 11 ∧ F0 11 ≤ 9) ∧ 0 ≤ F0 9 ∧ F0 9 ≤ 4) (p2 : nm (A0 16) (A0 17) (F0 18)) (p3 : (12 - F0 21) + (30 - F0 20) < (gk : Int) + 1) (pT : TP tx (F0 7) (A0 3)) (p6 : imp (F0 6 = 0) (XP tx gs (F0 8) (F0 9) (F0 10) (F0 11) (F0 12) (F0 13) (F0 14) (F0 18) (F0 20) (F0 21) (F0 23) (A0 15) (A0 16) (A0 17) (A0 19) (A0 22))) : am_Mt ((2 * gk + 6) + 1) 182 [.inr (.inr (some 81))] h0 (rf_V h0 (fun F' A' => fr1 [8, 10, 9, 14, 11, 12, 13, 6, 5, 23, 20, 21] F0 F' ∧ fr2 [22, 19] A0 A' ∧ ((F0 8 ≤ F' 8 ∧ F' 8 ≤ F0 7 ∧ F0 20 ≤ F' 20 ∧ F' 20 ≤ 30 ∧ F' 21 = F0 21 ∧ F0 23 ≤ F' 23 ∧ F' 23 ≤ 1000000 ∧ (F' 9 = 2 → 0 ≤ F' 11 ∧ F' 11 ≤ 9) ∧ 0 ≤ F' 9 ∧ F' 9 ≤ 4) ∧ (F' 6 = 0 → F' 20 = F0 20 ∧ F0 6 = 0 ∧ (F' 9 = 0 ∨ F0 8 < F' 8) ∧ F' 5 = F0 5) ∧ imp (F' 6 = 0) (F' 23 ≤ 124 → rd1 (A' 22) (A0 22) (F0 23) (F' 23) (F0 20)) ∧ (F' 6 = 0 → F' 9 ≠ 1 ∧ F' 9 ≠ 2 ∧ (F' 9 = 3 → F' 11 ≠ 40)) ∧ (F0 6 ≠ 0 → F' 6 = F0 6 ∧ F' 5 = F0 5) ∧ imp (F0 6 = 0) (XT tx gs (F' 5) (F' 6) (F' 8) (F' 9) (F' 10) (F' 11) (F' 12) (F' 13) (F' 14) (F' 18) (F' 20) (F' 21) (F' 23) (A' 15) (A' 16) (A' 17) (A' 19) (A' 22))))) := by
  refine am_Mt.of (D := (2 * gk + 6)) ?_
  have hI : rf_I h0 h0 F0 A0 := rf_I.start hR
  refine k_aload 1 rfl rfl rfl ?_
  refine k_in (d := 0) rfl (Nat.ble_eq_true_of_le (by omega)) rfl rfl hI.rc ?_
  refine k_aload 1 rfl rfl rfl ?_
  refine r_gI hI 4 rfl rfl rfl (fun x45 (e46 : x45.toInt = F0 6) => ?_)
  by_cases b47 : x45 = 0
  · refine k_c1 7 rfl rfl (if_pos b47) ?_
    have b47 := iv_eq0.mp b47
    refine k_push 8 rfl rfl ?_
    have hc48 : (1 : Int32).toInt = 1 := by decide
    refine k_goto 12 rfl rfl ?_
    refine k_fin rfl (fin_Z (Or.inr rfl)) ⟨_, _, rfl, rf_len hI hI, ?_⟩
    show am_Ok _ _ _ (4, _, [.inl (1 : Int32)], _, 0, 0) _
    refine k_c1 8 rfl rfl (if_neg (by decide)) ?_
    refine k_aload 9 rfl rfl rfl ?_
    refine k_push 11 rfl rfl ?_
    have hc49 : (92 : Int32).toInt = 92 := by decide
    refine k_in (d := 1) rfl (Nat.ble_eq_true_of_le (by omega)) rfl rfl hI.rc ?_
    refine k_aload 1 rfl rfl rfl ?_
    refine k_in (d := 0) rfl (Nat.ble_eq_true_of_le (by omega)) rfl rfl hI.rc ?_
    refine k_aload 1 rfl rfl rfl ?_
    refine r_gI hI 4 rfl rfl rfl (fun x50 (e51 : x50.toInt = F0 6) => ?_)
    by_cases b52 : x50 = 0
    · refine k_c1 7 rfl rfl (if_pos b52) ?_
      have b52 := iv_eq0.mp b52
      refine k_push 8 rfl rfl ?_
      refine k_goto 12 rfl rfl ?_
      refine k_fin rfl (fin_Z (Or.inr rfl)) ⟨_, _, rfl, rf_len hI hI, ?_⟩
      show am_Ok _ _ _ (4, _, [.inl (1 : Int32)], _, 0, 0) _
      refine k_c1 7 rfl rfl (if_neg (by decide)) ?_
      refine k_aload 8 rfl rfl rfl ?_
      refine r_gI hI 11 rfl rfl rfl (fun x53 (e54 : x53.toInt = F0 9) => ?_)
      refine k_push 12 rfl rfl ?_
      have hc55 : (3 : Int32).toInt = 3 := by decide
      by_cases b56 : x53 = (3 : Int32)
      · refine k_c2 15 rfl rfl (if_pos b56) ?_
        have b56 := iv_eq.mp b56
        refine k_aload 16 rfl rfl rfl ?_
        refine r_gI hI 19 rfl rfl rfl (fun x57 (e58 : x57.toInt = F0 11) => ?_)
        refine k_iload 20 rfl rfl rfl ?_
        by_cases b59 : x57 = (92 : Int32)
        · refine k_c2 23 rfl rfl (if_pos b59) ?_
          have b59 := iv_eq.mp b59
          refine k_push 24 rfl rfl ?_
          refine k_goto 28 rfl rfl ?_
          refine k_fin rfl (fin_Z (Or.inr rfl)) ⟨_, _, rfl, rf_len hI hI, ?_⟩
          show am_Ok _ _ _ (14, _, [.inl (1 : Int32)], _, 0, 0) _
          refine k_c1 17 rfl rfl (if_neg (by decide)) ?_
          refine k_aload 18 rfl rfl rfl ?_
          refine k_rv hI rfl (m_readsFunction (gk := gk) hI.1 (hrec) (show 0 ≤ (F0 8) ∧ (F0 8) ≤ (F0 7) ∧ (F0 7) ≤ 700 ∧ 0 ≤ (F0 20) ∧ (F0 20) ≤ 30 ∧ 0 ≤ (F0 21) ∧ (F0 21) ≤ 12 ∧ 0 ≤ (F0 18) ∧ (F0 18) ≤ 12 ∧ 0 ≤ (F0 23) ∧ (F0 23) ≤ 1000000 ∧ ((F0 9) = 2 → 0 ≤ (F0 11) ∧ (F0 11) ≤ 9) ∧ 0 ≤ (F0 9) ∧ (F0 9) ≤ 4 by omega) (show nm ((A0 16)) ((A0 17)) ((F0 18)) from p2) (show (12 - (F0 21)) + (30 - (F0 20)) < ((gk) : Int) + 1 by omega) (show TP tx ((F0 7)) ((A0 3)) from pT) (show (F0 6) = 0 by omega) (show XP tx gs ((F0 8)) ((F0 9)) ((F0 10)) ((F0 11)) ((F0 12)) ((F0 13)) ((F0 14)) ((F0 18)) ((F0 20)) ((F0 21)) ((F0 23)) ((A0 15)) ((A0 16)) ((A0 17)) ((A0 19)) ((A0 22)) from p6 (by omega)) (show (F0 9) = 3 ∧ (F0 11) = 92 by omega)) (Nat.ble_eq_true_of_le (by omega)) rfl rfl hI.rc ?_
          rintro h61 F62 A63 I64 ⟨k66, k67, pq65⟩
          replace pq65 : ((F0 8) ≤ F62 8 ∧ F62 8 ≤ (F0 7) ∧ (F0 20) ≤ F62 20 ∧ F62 20 ≤ 30 ∧ F62 21 = (F0 21) ∧ (F0 23) ≤ F62 23 ∧ F62 23 ≤ 1000000 ∧ (F62 9 = 2 → 0 ≤ F62 11 ∧ F62 11 ≤ 9) ∧ 0 ≤ F62 9 ∧ F62 9 ≤ 4) ∧ (F62 6 = 0 → F62 20 = (F0 20) ∧ (F0 6) = 0 ∧ (F62 9 = 0 ∨ (F0 8) < F62 8) ∧ F62 5 = (F0 5)) ∧ imp (F62 6 = 0) (F62 23 ≤ 124 → rd1 (A63 22) ((A0 22)) ((F0 23)) (F62 23) ((F0 20))) ∧ (F62 6 = 0 → F62 9 ≠ 1 ∧ F62 9 ≠ 2 ∧ (F62 9 = 3 → F62 11 ≠ 40)) ∧ XT tx gs (F62 5) (F62 6) (F62 8) (F62 9) (F62 10) (F62 11) (F62 12) (F62 13) (F62 14) (F62 18) (F62 20) (F62 21) (F62 23) (A63 15) (A63 16) (A63 17) (A63 19) (A63 22) := pq65
          obtain ⟨pq65a, pq65b, pq65c, pq65d, pq65e⟩ := pq65
          show am_Ok _ _ _ (21, _, [], _, 0, 0) _
          have e68 : F62 18 = F0 18 := k66 18 (by decide)
          exact k_fin rfl rfl ⟨_, _, _, rfl, I64, (fr1.tr (by decide) fr1.rf k66), (fr2.tr (by decide) fr2.rf k67), ⟨(show (F0 8 ≤ F62 8 ∧ F62 8 ≤ F0 7 ∧ F0 20 ≤ F62 20 ∧ F62 20 ≤ 30 ∧ F62 21 = F0 21 ∧ F0 23 ≤ F62 23 ∧ F62 23 ≤ 1000000 ∧ (F62 9 = 2 → 0 ≤ F62 11 ∧ F62 11 ≤ 9) ∧ 0 ≤ F62 9 ∧ F62 9 ≤ 4) by (repeat' apply And.intro) <;> omega), (show (F62 6 = 0 → F62 20 = F0 20 ∧ F0 6 = 0 ∧ (F62 9 = 0 ∨ F0 8 < F62 8) ∧ F62 5 = F0 5) by intro z9; (repeat' apply And.intro) <;> omega), pq65c, (show (F62 6 = 0 → F62 9 ≠ 1 ∧ F62 9 ≠ 2 ∧ (F62 9 = 3 → F62 11 ≠ 40)) by omega), (show (F0 6 ≠ 0 → F62 6 = F0 6 ∧ F62 5 = F0 5) by omega), fun _ => pq65e⟩⟩
        · refine k_c2 27 rfl rfl (if_neg b59) ?_
          have b59 := mt iv_eq.mpr b59
          refine k_push 28 rfl rfl ?_
          have hc69 : (0 : Int32).toInt = 0 := by decide
          refine k_fin rfl (fin_Z (Or.inl rfl)) ⟨_, _, rfl, rf_len hI hI, ?_⟩
          show am_Ok _ _ _ (14, _, [.inl (0 : Int32)], _, 0, 0) _
          refine k_c1 22 rfl rfl (if_pos (by decide)) ?_
          have hx6 := p6 (by omega)
          refine k_aload 23 rfl rfl rfl ?_
          refine r_gI hI 26 rfl rfl rfl (fun x70 (e71 : x70.toInt = F0 23) => ?_)
          refine k_istore 27 rfl rfl ?_
          refine k_aload 28 rfl (gs_ne rfl rfl rfl) rfl ?_
          refine k_rv hI rfl (m_readsAtom (gk := gk) hI.1 (hrec) (show 0 ≤ (F0 8) ∧ (F0 8) ≤ (F0 7) ∧ (F0 7) ≤ 700 ∧ 0 ≤ (F0 20) ∧ (F0 20) ≤ 30 ∧ 0 ≤ (F0 21) ∧ (F0 21) ≤ 12 ∧ 0 ≤ (F0 18) ∧ (F0 18) ≤ 12 ∧ 0 ≤ (F0 23) ∧ (F0 23) ≤ 1000000 ∧ ((F0 9) = 2 → 0 ≤ (F0 11) ∧ (F0 11) ≤ 9) ∧ 0 ≤ (F0 9) ∧ (F0 9) ≤ 4 by omega) (show nm ((A0 16)) ((A0 17)) ((F0 18)) from p2) (show (12 - (F0 21)) + (30 - (F0 20)) < ((gk) : Int) + 1 by omega) (show TP tx ((F0 7)) ((A0 3)) from pT) (show (F0 6) = 0 by omega) (show TKv tx (m_e gs) ((F0 8)) ((F0 9)) ((F0 10)) ((F0 11)) ((F0 12)) ((F0 13)) ((F0 14)) from hx6.1) (show RS gs (m_B gs) ((F0 18)) ((F0 20)) ((F0 21)) ((F0 23)) ((A0 15)) ((A0 16)) ((A0 17)) ((A0 19)) ((A0 22)) from (by unfold m_B ba; rw [if_pos hx6.2.2.1]; exact hx6.2.1)) (show (F0 20) = ((m_ar gs).length : Int) from hx6.2.2.2.1) (fun z => absurd hx6.2.2.1 z) (show (m_st gs = 4 ∧ ((F0 9) = 1 ∨ (F0 9) = 2 ∨ ((F0 9) = 3 ∧ (F0 11) = 40))) ∨ ((m_st gs = 1 ∨ (m_st gs = 0 ∧ ¬ (tO tx (m_e gs) = 97 ∧ tO tx (tE tx (m_e gs)) = 61))) ∧ ((F0 9) = 3 → (F0 11) ≠ 92)) by have h9 := hx6.2.2.2.2; omega)) (Nat.ble_eq_true_of_le (by omega)) rfl rfl hI.rc ?_
          rintro h73 F74 A75 I76 ⟨k78, k79, pq77⟩
          replace pq77 : ((F0 8) ≤ F74 8 ∧ F74 8 ≤ (F0 7) ∧ (F0 20) ≤ F74 20 ∧ F74 20 ≤ 30 ∧ F74 21 = (F0 21) ∧ (F0 23) ≤ F74 23 ∧ F74 23 ≤ 1000000 ∧ (F74 9 = 2 → 0 ≤ F74 11 ∧ F74 11 ≤ 9) ∧ 0 ≤ F74 9 ∧ F74 9 ≤ 4) ∧ (F74 6 = 0 → F74 20 = (F0 20) ∧ (F0 6) = 0 ∧ (F74 9 = 0 ∨ (F0 8) < F74 8) ∧ F74 5 = (F0 5)) ∧ imp (F74 6 = 0) (F74 23 ≤ 124 → rd1 (A75 22) ((A0 22)) ((F0 23)) (F74 23) ((F0 20))) ∧ XA tx gs (F74 5) (F74 6) (F74 8) (F74 9) (F74 10) (F74 11) (F74 12) (F74 13) (F74 14) (F74 18) (F74 20) (F74 21) (F74 23) (A75 15) (A75 16) (A75 17) (A75 19) (A75 22) := pq77
          obtain ⟨pq77a, pq77b, pq77c, pq77d⟩ := pq77
          show am_Ok _ _ _ (31, _, [], _, 0, 0) _
          have e80 : F74 18 = F0 18 := k78 18 (by decide)
          exact b_X10_readsTerm_31 (gk := gk) (tx := tx) (gs := gs)  hrec p1 p2 p3 pT p6 _  rfl (gs_ne rfl rfl rfl) gs_eq I76 (fr1.tr (by decide) fr1.rf k78) (fr2.tr (by decide) fr2.rf k79) (show x70.toInt = F0 23 by omega) (show (F0 8 ≤ (F74 8) ∧ (F74 8) ≤ F0 7 ∧ F0 20 ≤ (F74 20) ∧ (F74 20) ≤ 30 ∧ (F74 21) = F0 21 ∧ F0 23 ≤ (F74 23) ∧ (F74 23) ≤ 1000000 ∧ ((F74 9) = 2 → 0 ≤ (F74 11) ∧ (F74 11) ≤ 9) ∧ 0 ≤ (F74 9) ∧ (F74 9) ≤ 4) by omega) (show ((F74 6) = 0 → (F74 20) = F0 20 ∧ F0 6 = 0 ∧ ((F74 9) = 0 ∨ F0 8 < (F74 8)) ∧ (F74 5) = F0 5) by omega) (pq77c) (show XO tx gs x70.toInt ((F74 5)) ((F74 6)) ((F74 8)) ((F74 9)) ((F74 10)) ((F74 11)) ((F74 12)) ((F74 13)) ((F74 14)) ((F74 18)) ((F74 20)) ((F74 21)) ((F74 23)) ((A75 15)) ((A75 16)) ((A75 17)) ((A75 19)) ((A75 22)) from rt_a pq77d hx6.2.2.1 (by have h9 := hx6.2.1.1.1; omega)) (show F0 6 = 0 by omega)
      · refine k_c2 27 rfl rfl (if_neg b56) ?_
        have b56 := mt iv_eq.mpr b56
        refine k_push 28 rfl rfl ?_
        have hc81 : (0 : Int32).toInt = 0 := by decide
        refine k_fin rfl (fin_Z (Or.inl rfl)) ⟨_, _, rfl, rf_len hI hI, ?_⟩
        show am_Ok _ _ _ (14, _, [.inl (0 : Int32)], _, 0, 0) _
        refine k_c1 22 rfl rfl (if_pos (by decide)) ?_
        have hx6 := p6 (by omega)
        refine k_aload 23 rfl rfl rfl ?_
        refine r_gI hI 26 rfl rfl rfl (fun x82 (e83 : x82.toInt = F0 23) => ?_)
        refine k_istore 27 rfl rfl ?_
        refine k_aload 28 rfl (gs_ne rfl rfl rfl) rfl ?_
        refine k_rv hI rfl (m_readsAtom (gk := gk) hI.1 (hrec) (show 0 ≤ (F0 8) ∧ (F0 8) ≤ (F0 7) ∧ (F0 7) ≤ 700 ∧ 0 ≤ (F0 20) ∧ (F0 20) ≤ 30 ∧ 0 ≤ (F0 21) ∧ (F0 21) ≤ 12 ∧ 0 ≤ (F0 18) ∧ (F0 18) ≤ 12 ∧ 0 ≤ (F0 23) ∧ (F0 23) ≤ 1000000 ∧ ((F0 9) = 2 → 0 ≤ (F0 11) ∧ (F0 11) ≤ 9) ∧ 0 ≤ (F0 9) ∧ (F0 9) ≤ 4 by omega) (show nm ((A0 16)) ((A0 17)) ((F0 18)) from p2) (show (12 - (F0 21)) + (30 - (F0 20)) < ((gk) : Int) + 1 by omega) (show TP tx ((F0 7)) ((A0 3)) from pT) (show (F0 6) = 0 by omega) (show TKv tx (m_e gs) ((F0 8)) ((F0 9)) ((F0 10)) ((F0 11)) ((F0 12)) ((F0 13)) ((F0 14)) from hx6.1) (show RS gs (m_B gs) ((F0 18)) ((F0 20)) ((F0 21)) ((F0 23)) ((A0 15)) ((A0 16)) ((A0 17)) ((A0 19)) ((A0 22)) from (by unfold m_B ba; rw [if_pos hx6.2.2.1]; exact hx6.2.1)) (show (F0 20) = ((m_ar gs).length : Int) from hx6.2.2.2.1) (fun z => absurd hx6.2.2.1 z) (show (m_st gs = 4 ∧ ((F0 9) = 1 ∨ (F0 9) = 2 ∨ ((F0 9) = 3 ∧ (F0 11) = 40))) ∨ ((m_st gs = 1 ∨ (m_st gs = 0 ∧ ¬ (tO tx (m_e gs) = 97 ∧ tO tx (tE tx (m_e gs)) = 61))) ∧ ((F0 9) = 3 → (F0 11) ≠ 92)) by have h9 := hx6.2.2.2.2; omega)) (Nat.ble_eq_true_of_le (by omega)) rfl rfl hI.rc ?_
        rintro h85 F86 A87 I88 ⟨k90, k91, pq89⟩
        replace pq89 : ((F0 8) ≤ F86 8 ∧ F86 8 ≤ (F0 7) ∧ (F0 20) ≤ F86 20 ∧ F86 20 ≤ 30 ∧ F86 21 = (F0 21) ∧ (F0 23) ≤ F86 23 ∧ F86 23 ≤ 1000000 ∧ (F86 9 = 2 → 0 ≤ F86 11 ∧ F86 11 ≤ 9) ∧ 0 ≤ F86 9 ∧ F86 9 ≤ 4) ∧ (F86 6 = 0 → F86 20 = (F0 20) ∧ (F0 6) = 0 ∧ (F86 9 = 0 ∨ (F0 8) < F86 8) ∧ F86 5 = (F0 5)) ∧ imp (F86 6 = 0) (F86 23 ≤ 124 → rd1 (A87 22) ((A0 22)) ((F0 23)) (F86 23) ((F0 20))) ∧ XA tx gs (F86 5) (F86 6) (F86 8) (F86 9) (F86 10) (F86 11) (F86 12) (F86 13) (F86 14) (F86 18) (F86 20) (F86 21) (F86 23) (A87 15) (A87 16) (A87 17) (A87 19) (A87 22) := pq89
        obtain ⟨pq89a, pq89b, pq89c, pq89d⟩ := pq89
        show am_Ok _ _ _ (31, _, [], _, 0, 0) _
        have e92 : F86 18 = F0 18 := k90 18 (by decide)
        exact b_X10_readsTerm_31 (gk := gk) (tx := tx) (gs := gs)  hrec p1 p2 p3 pT p6 _  rfl (gs_ne rfl rfl rfl) gs_eq I88 (fr1.tr (by decide) fr1.rf k90) (fr2.tr (by decide) fr2.rf k91) (show x82.toInt = F0 23 by omega) (show (F0 8 ≤ (F86 8) ∧ (F86 8) ≤ F0 7 ∧ F0 20 ≤ (F86 20) ∧ (F86 20) ≤ 30 ∧ (F86 21) = F0 21 ∧ F0 23 ≤ (F86 23) ∧ (F86 23) ≤ 1000000 ∧ ((F86 9) = 2 → 0 ≤ (F86 11) ∧ (F86 11) ≤ 9) ∧ 0 ≤ (F86 9) ∧ (F86 9) ≤ 4) by omega) (show ((F86 6) = 0 → (F86 20) = F0 20 ∧ F0 6 = 0 ∧ ((F86 9) = 0 ∨ F0 8 < (F86 8)) ∧ (F86 5) = F0 5) by omega) (pq89c) (show XO tx gs x82.toInt ((F86 5)) ((F86 6)) ((F86 8)) ((F86 9)) ((F86 10)) ((F86 11)) ((F86 12)) ((F86 13)) ((F86 14)) ((F86 18)) ((F86 20)) ((F86 21)) ((F86 23)) ((A87 15)) ((A87 16)) ((A87 17)) ((A87 19)) ((A87 22)) from rt_a pq89d hx6.2.2.1 (by have h9 := hx6.2.1.1.1; omega)) (show F0 6 = 0 by omega)
    · refine k_c1 11 rfl rfl (if_neg b52) ?_
      have b52 := mt iv_eq0.mpr b52
      refine k_push 12 rfl rfl ?_
      have hc93 : (0 : Int32).toInt = 0 := by decide
      refine k_fin rfl (fin_Z (Or.inl rfl)) ⟨_, _, rfl, rf_len hI hI, ?_⟩
      show am_Ok _ _ _ (4, _, [.inl (0 : Int32)], _, 0, 0) _
      refine k_c1 27 rfl rfl (if_pos (by decide)) ?_
      refine k_push 28 rfl rfl ?_
      refine k_fin rfl (fin_Z (Or.inl rfl)) ⟨_, _, rfl, rf_len hI hI, ?_⟩
      show am_Ok _ _ _ (14, _, [.inl (0 : Int32)], _, 0, 0) _
      refine k_c1 22 rfl rfl (if_pos (by decide)) ?_
      have hx6 := p6 (by omega)
      refine k_aload 23 rfl rfl rfl ?_
      refine r_gI hI 26 rfl rfl rfl (fun x94 (e95 : x94.toInt = F0 23) => ?_)
      refine k_istore 27 rfl rfl ?_
      refine k_aload 28 rfl (gs_ne rfl rfl rfl) rfl ?_
      refine k_rv hI rfl (m_readsAtom (gk := gk) hI.1 (hrec) (show 0 ≤ (F0 8) ∧ (F0 8) ≤ (F0 7) ∧ (F0 7) ≤ 700 ∧ 0 ≤ (F0 20) ∧ (F0 20) ≤ 30 ∧ 0 ≤ (F0 21) ∧ (F0 21) ≤ 12 ∧ 0 ≤ (F0 18) ∧ (F0 18) ≤ 12 ∧ 0 ≤ (F0 23) ∧ (F0 23) ≤ 1000000 ∧ ((F0 9) = 2 → 0 ≤ (F0 11) ∧ (F0 11) ≤ 9) ∧ 0 ≤ (F0 9) ∧ (F0 9) ≤ 4 by omega) (show nm ((A0 16)) ((A0 17)) ((F0 18)) from p2) (show (12 - (F0 21)) + (30 - (F0 20)) < ((gk) : Int) + 1 by omega) (show TP tx ((F0 7)) ((A0 3)) from pT) (show (F0 6) = 0 by omega) (show TKv tx (m_e gs) ((F0 8)) ((F0 9)) ((F0 10)) ((F0 11)) ((F0 12)) ((F0 13)) ((F0 14)) from hx6.1) (show RS gs (m_B gs) ((F0 18)) ((F0 20)) ((F0 21)) ((F0 23)) ((A0 15)) ((A0 16)) ((A0 17)) ((A0 19)) ((A0 22)) from (by unfold m_B ba; rw [if_pos hx6.2.2.1]; exact hx6.2.1)) (show (F0 20) = ((m_ar gs).length : Int) from hx6.2.2.2.1) (fun z => absurd hx6.2.2.1 z) (show (m_st gs = 4 ∧ ((F0 9) = 1 ∨ (F0 9) = 2 ∨ ((F0 9) = 3 ∧ (F0 11) = 40))) ∨ ((m_st gs = 1 ∨ (m_st gs = 0 ∧ ¬ (tO tx (m_e gs) = 97 ∧ tO tx (tE tx (m_e gs)) = 61))) ∧ ((F0 9) = 3 → (F0 11) ≠ 92)) by have h9 := hx6.2.2.2.2; omega)) (Nat.ble_eq_true_of_le (by omega)) rfl rfl hI.rc ?_
      rintro h97 F98 A99 I100 ⟨k102, k103, pq101⟩
      replace pq101 : ((F0 8) ≤ F98 8 ∧ F98 8 ≤ (F0 7) ∧ (F0 20) ≤ F98 20 ∧ F98 20 ≤ 30 ∧ F98 21 = (F0 21) ∧ (F0 23) ≤ F98 23 ∧ F98 23 ≤ 1000000 ∧ (F98 9 = 2 → 0 ≤ F98 11 ∧ F98 11 ≤ 9) ∧ 0 ≤ F98 9 ∧ F98 9 ≤ 4) ∧ (F98 6 = 0 → F98 20 = (F0 20) ∧ (F0 6) = 0 ∧ (F98 9 = 0 ∨ (F0 8) < F98 8) ∧ F98 5 = (F0 5)) ∧ imp (F98 6 = 0) (F98 23 ≤ 124 → rd1 (A99 22) ((A0 22)) ((F0 23)) (F98 23) ((F0 20))) ∧ XA tx gs (F98 5) (F98 6) (F98 8) (F98 9) (F98 10) (F98 11) (F98 12) (F98 13) (F98 14) (F98 18) (F98 20) (F98 21) (F98 23) (A99 15) (A99 16) (A99 17) (A99 19) (A99 22) := pq101
      obtain ⟨pq101a, pq101b, pq101c, pq101d⟩ := pq101
      show am_Ok _ _ _ (31, _, [], _, 0, 0) _
      have e104 : F98 18 = F0 18 := k102 18 (by decide)
      exact b_X10_readsTerm_31 (gk := gk) (tx := tx) (gs := gs)  hrec p1 p2 p3 pT p6 _  rfl (gs_ne rfl rfl rfl) gs_eq I100 (fr1.tr (by decide) fr1.rf k102) (fr2.tr (by decide) fr2.rf k103) (show x94.toInt = F0 23 by omega) (show (F0 8 ≤ (F98 8) ∧ (F98 8) ≤ F0 7 ∧ F0 20 ≤ (F98 20) ∧ (F98 20) ≤ 30 ∧ (F98 21) = F0 21 ∧ F0 23 ≤ (F98 23) ∧ (F98 23) ≤ 1000000 ∧ ((F98 9) = 2 → 0 ≤ (F98 11) ∧ (F98 11) ≤ 9) ∧ 0 ≤ (F98 9) ∧ (F98 9) ≤ 4) by omega) (show ((F98 6) = 0 → (F98 20) = F0 20 ∧ F0 6 = 0 ∧ ((F98 9) = 0 ∨ F0 8 < (F98 8)) ∧ (F98 5) = F0 5) by omega) (pq101c) (show XO tx gs x94.toInt ((F98 5)) ((F98 6)) ((F98 8)) ((F98 9)) ((F98 10)) ((F98 11)) ((F98 12)) ((F98 13)) ((F98 14)) ((F98 18)) ((F98 20)) ((F98 21)) ((F98 23)) ((A99 15)) ((A99 16)) ((A99 17)) ((A99 19)) ((A99 22)) from rt_a pq101d hx6.2.2.1 (by have h9 := hx6.2.1.1.1; omega)) (show F0 6 = 0 by omega)
  · refine k_c1 11 rfl rfl (if_neg b47) ?_
    have b47 := mt iv_eq0.mpr b47
    refine k_push 12 rfl rfl ?_
    have hc105 : (0 : Int32).toInt = 0 := by decide
    refine k_fin rfl (fin_Z (Or.inl rfl)) ⟨_, _, rfl, rf_len hI hI, ?_⟩
    show am_Ok _ _ _ (4, _, [.inl (0 : Int32)], _, 0, 0) _
    refine k_c1 7 rfl rfl (if_pos (by decide)) ?_
    exact k_fin rfl rfl ⟨_, _, _, rfl, hI, fr1.rf, fr2.rf, ⟨(show (F0 8 ≤ F0 8 ∧ F0 8 ≤ F0 7 ∧ F0 20 ≤ F0 20 ∧ F0 20 ≤ 30 ∧ F0 21 = F0 21 ∧ F0 23 ≤ F0 23 ∧ F0 23 ≤ 1000000 ∧ (F0 9 = 2 → 0 ≤ F0 11 ∧ F0 11 ≤ 9) ∧ 0 ≤ F0 9 ∧ F0 9 ≤ 4) by (repeat' apply And.intro) <;> omega), (show (F0 6 = 0 → F0 20 = F0 20 ∧ F0 6 = 0 ∧ (F0 9 = 0 ∨ F0 8 < F0 8) ∧ F0 5 = F0 5) by intro z9; (repeat' apply And.intro) <;> omega), (fun z => absurd (show F0 6 = 0 from z) (by omega)), (show (F0 6 = 0 → F0 9 ≠ 1 ∧ F0 9 ≠ 2 ∧ (F0 9 = 3 → F0 11 ≠ 40)) by omega), (show (F0 6 ≠ 0 → F0 6 = F0 6 ∧ F0 5 = F0 5) by omega), fun z => absurd z (by omega)⟩⟩
end
