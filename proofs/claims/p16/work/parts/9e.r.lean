section
set_option maxHeartbeats 4000000 in
theorem b_X10_readsFunction_109 {h0 : am_h} {F0 : rf_f} {A0 : rf_A} {gk : Nat} {tx : List Int} {gs : mS} (hrec : ∀ {tx : List Int} {gs : mS} {h0 : am_h} {F0 : rf_f} {A0 : rf_A}, rf_R h0 F0 A0 → (0 ≤ F0 8 ∧ F0 8 ≤ F0 7 ∧ F0 7 ≤ 700 ∧ 0 ≤ F0 20 ∧ F0 20 ≤ 30 ∧ 0 ≤ F0 21 ∧ F0 21 ≤ 12 ∧ 0 ≤ F0 18 ∧ F0 18 ≤ 12 ∧ 0 ≤ F0 23 ∧ F0 23 ≤ 1000000 ∧ (F0 9 = 2 → 0 ≤ F0 11 ∧ F0 11 ≤ 9) ∧ 0 ≤ F0 9 ∧ F0 9 ≤ 4) → (nm (A0 16) (A0 17) (F0 18)) → ((12 - F0 21) + (30 - F0 20) < (gk : Int)) → (TP tx (F0 7) (A0 3)) → (imp (F0 6 = 0) (XP tx gs (F0 8) (F0 9) (F0 10) (F0 11) (F0 12) (F0 13) (F0 14) (F0 18) (F0 20) (F0 21) (F0 23) (A0 15) (A0 16) (A0 17) (A0 19) (A0 22))) → am_Mt (2 * gk + 5) 182 [.inr (.inr (some 81))] h0 (rf_V h0 (fun F' A' => fr1 [8, 10, 9, 14, 11, 12, 13, 6, 5, 23, 20, 21] F0 F' ∧ fr2 [22, 19] A0 A' ∧ ((F0 8 ≤ F' 8 ∧ F' 8 ≤ F0 7 ∧ F0 20 ≤ F' 20 ∧ F' 20 ≤ 30 ∧ F' 21 = F0 21 ∧ F0 23 ≤ F' 23 ∧ F' 23 ≤ 1000000 ∧ (F' 9 = 2 → 0 ≤ F' 11 ∧ F' 11 ≤ 9) ∧ 0 ≤ F' 9 ∧ F' 9 ≤ 4) ∧ (F' 6 = 0 → F' 20 = F0 20 ∧ F0 6 = 0 ∧ (F' 9 = 0 ∨ F0 8 < F' 8) ∧ F' 5 = F0 5) ∧ imp (F' 6 = 0) (F' 23 ≤ 124 → rd1 (A' 22) (A0 22) (F0 23) (F' 23) (F0 20)) ∧ (F' 6 = 0 → F' 9 ≠ 1 ∧ F' 9 ≠ 2 ∧ (F' 9 = 3 → F' 11 ≠ 40)) ∧ (F0 6 ≠ 0 → F' 6 = F0 6 ∧ F' 5 = F0 5) ∧ imp (F0 6 = 0) (XT tx gs (F' 5) (F' 6) (F' 8) (F' 9) (F' 10) (F' 11) (F' 12) (F' 13) (F' 14) (F' 18) (F' 20) (F' 21) (F' 23) (A' 15) (A' 16) (A' 17) (A' 19) (A' 22)))))) (p1 : 0 ≤ F0 8 ∧ F0 8 ≤ F0 7 ∧ F0 7 ≤ 700 ∧ 0 ≤ F0 20 ∧ F0 20 ≤ 30 ∧ 0 ≤ F0 21 ∧ F0 21 ≤ 12 ∧ 0 ≤ F0 18 ∧ F0 18 ≤ 12 ∧ 0 ≤ F0 23 ∧ F0 23 ≤ 1000000 ∧ (F0 9 = 2 → 0 ≤ F0 11 ∧ F0 11 ≤ 9) ∧ 0 ≤ F0 9 ∧ F0 9 ≤ 4) (p2 : nm (A0 16) (A0 17) (F0 18)) (p3 : (12 - F0 21) + (30 - F0 20) < (gk : Int) + 1) (pT : TP tx (F0 7) (A0 3)) (p4 : F0 6 = 0) (p6 : XP tx gs (F0 8) (F0 9) (F0 10) (F0 11) (F0 12) (F0 13) (F0 14) (F0 18) (F0 20) (F0 21) (F0 23) (A0 15) (A0 16) (A0 17) (A0 19) (A0 22)) (p7 : F0 9 = 3 ∧ F0 11 = 92) : ∀ (n : Nat) {lv : am_l} {h : am_h} {F : rf_f} {A : rf_A} {v1 : Int32} {gz : mS}, ((0 : Nat)) = n → am_get lv 0 = some (.inr (.inr (some 81))) → am_get lv 1 = some (.inl v1) → rf_I h0 h F A → fr1 [8, 10, 9, 14, 11, 12, 13, 6, 5, 23, 20, 21] F0 F → fr2 [22, 19] A0 A → (F0 8 ≤ F 8 ∧ F 8 ≤ F0 7 ∧ F 20 = F0 20 + v1.toInt ∧ 0 ≤ v1.toInt ∧ F 20 ≤ 30 ∧ F 21 = F0 21 ∧ F0 23 ≤ F 23 ∧ F 23 ≤ 1000000 ∧ (F 9 = 2 → 0 ≤ F 11 ∧ F 11 ≤ 9) ∧ 0 ≤ F 9 ∧ F 9 ≤ 4 ∧ F 6 = 0 ∧ F 9 ≠ 1 ∧ F 20 ≠ F0 20) → (imp (F 23 ≤ 124) (fu (A 22) (A0 22) (F0 23) (F 23) v1.toInt)) → (XL tx gs (gz) (F 8) (F 9) (F 10) (F 11) (F 12) (F 13) (F 14) (F 18) (F 20) (F 21) (F 23) (A 15) (A 16) (A 17) (A 19) (A 22)) → (m_st gz = 3) → (F 5 = F0 5) → am_Ok am_G (2 * gk + 5) 181 (109, lv, [], h, 0, 0) (rf_V h0 (fun F' A' => fr1 [8, 10, 9, 14, 11, 12, 13, 6, 5, 23, 20, 21] F0 F' ∧ fr2 [22, 19] A0 A' ∧ ((F0 8 ≤ F' 8 ∧ F' 8 ≤ F0 7 ∧ F0 20 ≤ F' 20 ∧ F' 20 ≤ 30 ∧ F' 21 = F0 21 ∧ F0 23 ≤ F' 23 ∧ F' 23 ≤ 1000000 ∧ (F' 9 = 2 → 0 ≤ F' 11 ∧ F' 11 ≤ 9) ∧ 0 ≤ F' 9 ∧ F' 9 ≤ 4) ∧ (F' 6 = 0 → F' 20 = F0 20 ∧ F0 6 = 0 ∧ (F' 9 = 0 ∨ F0 8 < F' 8) ∧ F' 5 = F0 5) ∧ imp (F' 6 = 0) (F' 23 ≤ 124 → rd1 (A' 22) (A0 22) (F0 23) (F' 23) (F0 20)) ∧ (F' 6 = 0 → F' 9 ≠ 1 ∧ F' 9 ≠ 2 ∧ (F' 9 = 3 → F' 11 ≠ 40)) ∧ XT tx gs (F' 5) (F' 6) (F' 8) (F' 9) (F' 10) (F' 11) (F' 12) (F' 13) (F' 14) (F' 18) (F' 20) (F' 21) (F' 23) (A' 15) (A' 16) (A' 17) (A' 19) (A' 22)))) := by
  intro n
  induction n using Nat.strongRecOn with
  | ind n ih =>
    intro lv h F A v1 gz hn g0 g1 hI hF hA i1 hfu hxl i4 i5
    have hp20 := p6.2.2.2.1
    have hi20 := hxl.2.2.2.2.2.1
    refine k_aload 110 rfl g0 rfl ?_
    refine k_push 112 rfl rfl ?_
    have hc1 : (46 : Int32).toInt = 46 := by decide
    have e2 : F 7 = F0 7 := hF 7 (by decide)
    refine k_rv hI rfl (m_must  hI.1 (show 0 ≤ (F 8) ∧ (F 8) ≤ (F 7) ∧ (F 7) ≤ 700 ∧ ((F 9) = 2 → 0 ≤ (F 11) ∧ (F 11) ≤ 9) ∧ 0 ≤ (F 9) ∧ (F 9) ≤ 4 by omega) (show TP tx ((F 7)) ((A 3)) by rw [(hF 7 (by decide)), (hA 3 (by decide))]; exact pT)) (Nat.ble_eq_true_of_le (by omega)) rfl rfl hI.rc ?_
    rintro h4 F5 A6 I7 ⟨k9, k10, pq8⟩
    replace pq8 : ((F 8) ≤ F5 8 ∧ F5 8 ≤ (F 7)) ∧ (F5 6 = 0 → (F 6) = 0 ∧ (F5 9 = 0 ∨ (F 8) < F5 8)) ∧ (F5 9 = 2 → 0 ≤ F5 11 ∧ F5 11 ≤ 9) ∧ (0 ≤ F5 9 ∧ F5 9 ≤ 4) ∧ (((F 6) = 0 ∧ (F 9) = 3 ∧ (F 11) = (46 : Int32).toInt → F5 6 = 0 ∧ F5 5 = (F 5)) ∧ (¬ ((F 6) = 0 ∧ (F 9) = 3 ∧ (F 11) = (46 : Int32).toInt) → F5 6 ≠ 0 ∧ ((F 6) = 0 → F5 6 = 1 ∧ F5 5 = (F 10)) ∧ ((F 6) ≠ 0 → F5 6 = (F 6) ∧ F5 5 = (F 5)))) ∧ imp (F5 6 = 0) (TKv tx ((F 8)) (F5 8) (F5 9) (F5 10) (F5 11) (F5 12) (F5 13) (F5 14)) := pq8
    obtain ⟨pq8a, pq8b, pq8c, pq8d, pq8e, pq8f⟩ := pq8
    have k10 := fr2.nil k10
    subst k10
    show am_Ok _ _ _ (115, _, [], _, 0, 0) _
    have hm9 := pq8e
    rw [show (46 : Int32).toInt = 46 by decide] at hm9
    clear pq8e
    refine k_aload 116 rfl g0 rfl ?_
    have e11 : F5 7 = F 7 := k9 7 (by decide)
    have e12 : F5 20 = F 20 := k9 20 (by decide)
    have e13 : F5 21 = F 21 := k9 21 (by decide)
    have e14 : F5 18 = F 18 := k9 18 (by decide)
    have e15 : F 18 = F0 18 := hF 18 (by decide)
    have e16 : F5 23 = F 23 := k9 23 (by decide)
    refine k_rv I7 rfl (hrec (gs := m_4 tx gz) I7.1 (show 0 ≤ (F5 8) ∧ (F5 8) ≤ (F5 7) ∧ (F5 7) ≤ 700 ∧ 0 ≤ (F5 20) ∧ (F5 20) ≤ 30 ∧ 0 ≤ (F5 21) ∧ (F5 21) ≤ 12 ∧ 0 ≤ (F5 18) ∧ (F5 18) ≤ 12 ∧ 0 ≤ (F5 23) ∧ (F5 23) ≤ 1000000 ∧ ((F5 9) = 2 → 0 ≤ (F5 11) ∧ (F5 11) ≤ 9) ∧ 0 ≤ (F5 9) ∧ (F5 9) ≤ 4 by omega) (show nm ((A 16)) ((A 17)) ((F5 18)) by rw [(hA 16 (by decide)), (hA 17 (by decide)), ((k9 18 (by decide)).trans (hF 18 (by decide)))]; exact p2) (show (12 - (F5 21)) + (30 - (F5 20)) < (gk : Int) by omega) (show TP tx ((F5 7)) ((A 3)) by rw [((k9 7 (by decide)).trans (hF 7 (by decide))), (hA 3 (by decide))]; exact pT) (show imp ((F5 6) = 0) (XP tx (m_4 tx gz) ((F5 8)) ((F5 9)) ((F5 10)) ((F5 11)) ((F5 12)) ((F5 13)) ((F5 14)) ((F5 18)) ((F5 20)) ((F5 21)) ((F5 23)) ((A 15)) ((A 16)) ((A 17)) ((A 19)) ((A 22))) from fun z => rf_p hxl i4 (by omega) (pq8f z) (by omega) (by omega) (by omega) (by omega) rfl rfl rfl rfl rfl)) (Nat.ble_eq_true_of_le (by omega)) rfl rfl I7.rc ?_
    rintro h18 F19 A20 I21 ⟨k23, k24, pq22⟩
    replace pq22 : ((F5 8) ≤ F19 8 ∧ F19 8 ≤ (F5 7) ∧ (F5 20) ≤ F19 20 ∧ F19 20 ≤ 30 ∧ F19 21 = (F5 21) ∧ (F5 23) ≤ F19 23 ∧ F19 23 ≤ 1000000 ∧ (F19 9 = 2 → 0 ≤ F19 11 ∧ F19 11 ≤ 9) ∧ 0 ≤ F19 9 ∧ F19 9 ≤ 4) ∧ (F19 6 = 0 → F19 20 = (F5 20) ∧ (F5 6) = 0 ∧ (F19 9 = 0 ∨ (F5 8) < F19 8) ∧ F19 5 = (F5 5)) ∧ imp (F19 6 = 0) (F19 23 ≤ 124 → rd1 (A20 22) ((A 22)) ((F5 23)) (F19 23) ((F5 20))) ∧ (F19 6 = 0 → F19 9 ≠ 1 ∧ F19 9 ≠ 2 ∧ (F19 9 = 3 → F19 11 ≠ 40)) ∧ ((F5 6) ≠ 0 → F19 6 = (F5 6) ∧ F19 5 = (F5 5)) ∧ imp ((F5 6) = 0) (XT tx (m_4 tx gz) (F19 5) (F19 6) (F19 8) (F19 9) (F19 10) (F19 11) (F19 12) (F19 13) (F19 14) (F19 18) (F19 20) (F19 21) (F19 23) (A20 15) (A20 16) (A20 17) (A20 19) (A20 22)) := pq22
    obtain ⟨pq22a, pq22b, pq22c, pq22d, pq22e, pq22f⟩ := pq22
    show am_Ok _ _ _ (119, _, [], _, 0, 0) _
    have hq1 : (F5 6) = 0 → F 9 = 3 ∧ F 11 = 46 := fun z => by omega
    have hq2 : (F5 6) ≠ 0 → (F19 6 = 1 ∧ F19 5 = F 10 ∧ F19 6 ≠ 0 ∧ ¬ (F 9 = 3 ∧ F 11 = 46)) := fun z => by omega
    have hq3 : F19 6 = 0 → (F5 6) = 0 ∧ F19 5 = F0 5 := fun z => by omega
    clear hm9 pq22e
    refine k_aload 120 rfl g0 rfl ?_
    refine k_dup 121 rfl rfl rfl ?_
    refine r_gI I21 124 rfl rfl rfl (fun x25 (e26 : x25.toInt = F19 20) => ?_)
    refine k_iload 125 rfl g1 rfl ?_
    obtain ⟨x27, q28⟩ : ∃ q : Int32, q = (x25 - v1) := ⟨_, rfl⟩
    have e29 : x27.toInt = x25.toInt - v1.toInt := by rw [q28, iv_sub (by omega) (by omega)]
    refine k_bin x27 126 rfl q28.symm rfl ?_
    refine r_pI I21 129 rfl rfl rfl (fun h30 I31 => ?_)
    have e32 : F19 18 = F5 18 := k23 18 (by decide)
    exact k_fin rfl rfl ⟨_, _, _, rfl, I31, (fr1.up (by decide) (fr1.tr (by decide) (fr1.tr (by decide) hF k9) k23)), (fr2.tr (by decide) hA k24), ⟨(show (F0 8 ≤ F19 8 ∧ F19 8 ≤ F0 7 ∧ F0 20 ≤ x27.toInt ∧ x27.toInt ≤ 30 ∧ F19 21 = F0 21 ∧ F0 23 ≤ F19 23 ∧ F19 23 ≤ 1000000 ∧ (F19 9 = 2 → 0 ≤ F19 11 ∧ F19 11 ≤ 9) ∧ 0 ≤ F19 9 ∧ F19 9 ≤ 4) by (repeat' apply And.intro) <;> omega), (show (F19 6 = 0 → x27.toInt = F0 20 ∧ F0 6 = 0 ∧ (F19 9 = 0 ∨ F0 8 < F19 8) ∧ F19 5 = F0 5) by intro z9; (repeat' apply And.intro) <;> omega), (fun z1 z2 => by have z8 : F19 6 = 0 := z1; have z9 : F19 23 ≤ 124 := z2; have h9 := pq22c (by omega) (by omega); show rd1 (A20 22) (A0 22) (F0 23) (F19 23) (F0 20); exact fu_end (hfu (by omega)) (by omega) (rd_cg h9 (by omega) (by omega) rfl) (by omega)), (show (F19 6 = 0 → F19 9 ≠ 1 ∧ F19 9 ≠ 2 ∧ (F19 9 = 3 → F19 11 ≠ 40)) by omega), (show XT tx gs (F19 5) (F19 6) (F19 8) (F19 9) (F19 10) (F19 11) (F19 12) (F19 13) (F19 14) (F19 18) (x27.toInt) (F19 21) (F19 23) ((A20 15)) ((A20 16)) ((A20 17)) ((A20 19)) ((A20 22)) from (by by_cases zz : (F5 6) = 0; exact rf_e hxl i4 (hq1 zz) (pq22f zz) rfl rfl rfl rfl rfl rfl rfl rfl rfl rfl (fun z => by omega) rfl rfl rfl rfl rfl rfl rfl; exact XT.bad (hq2 zz).2.2.1 (rf_q hxl i4 (by omega) (hq2 zz).2.2.2 (hq2 zz).1 (hq2 zz).2.1)))⟩⟩
set_option maxHeartbeats 4000000 in
theorem b_X10_readsFunction_6 {h0 : am_h} {F0 : rf_f} {A0 : rf_A} {gk : Nat} {tx : List Int} {gs : mS} (hrec : ∀ {tx : List Int} {gs : mS} {h0 : am_h} {F0 : rf_f} {A0 : rf_A}, rf_R h0 F0 A0 → (0 ≤ F0 8 ∧ F0 8 ≤ F0 7 ∧ F0 7 ≤ 700 ∧ 0 ≤ F0 20 ∧ F0 20 ≤ 30 ∧ 0 ≤ F0 21 ∧ F0 21 ≤ 12 ∧ 0 ≤ F0 18 ∧ F0 18 ≤ 12 ∧ 0 ≤ F0 23 ∧ F0 23 ≤ 1000000 ∧ (F0 9 = 2 → 0 ≤ F0 11 ∧ F0 11 ≤ 9) ∧ 0 ≤ F0 9 ∧ F0 9 ≤ 4) → (nm (A0 16) (A0 17) (F0 18)) → ((12 - F0 21) + (30 - F0 20) < (gk : Int)) → (TP tx (F0 7) (A0 3)) → (imp (F0 6 = 0) (XP tx gs (F0 8) (F0 9) (F0 10) (F0 11) (F0 12) (F0 13) (F0 14) (F0 18) (F0 20) (F0 21) (F0 23) (A0 15) (A0 16) (A0 17) (A0 19) (A0 22))) → am_Mt (2 * gk + 5) 182 [.inr (.inr (some 81))] h0 (rf_V h0 (fun F' A' => fr1 [8, 10, 9, 14, 11, 12, 13, 6, 5, 23, 20, 21] F0 F' ∧ fr2 [22, 19] A0 A' ∧ ((F0 8 ≤ F' 8 ∧ F' 8 ≤ F0 7 ∧ F0 20 ≤ F' 20 ∧ F' 20 ≤ 30 ∧ F' 21 = F0 21 ∧ F0 23 ≤ F' 23 ∧ F' 23 ≤ 1000000 ∧ (F' 9 = 2 → 0 ≤ F' 11 ∧ F' 11 ≤ 9) ∧ 0 ≤ F' 9 ∧ F' 9 ≤ 4) ∧ (F' 6 = 0 → F' 20 = F0 20 ∧ F0 6 = 0 ∧ (F' 9 = 0 ∨ F0 8 < F' 8) ∧ F' 5 = F0 5) ∧ imp (F' 6 = 0) (F' 23 ≤ 124 → rd1 (A' 22) (A0 22) (F0 23) (F' 23) (F0 20)) ∧ (F' 6 = 0 → F' 9 ≠ 1 ∧ F' 9 ≠ 2 ∧ (F' 9 = 3 → F' 11 ≠ 40)) ∧ (F0 6 ≠ 0 → F' 6 = F0 6 ∧ F' 5 = F0 5) ∧ imp (F0 6 = 0) (XT tx gs (F' 5) (F' 6) (F' 8) (F' 9) (F' 10) (F' 11) (F' 12) (F' 13) (F' 14) (F' 18) (F' 20) (F' 21) (F' 23) (A' 15) (A' 16) (A' 17) (A' 19) (A' 22)))))) (p1 : 0 ≤ F0 8 ∧ F0 8 ≤ F0 7 ∧ F0 7 ≤ 700 ∧ 0 ≤ F0 20 ∧ F0 20 ≤ 30 ∧ 0 ≤ F0 21 ∧ F0 21 ≤ 12 ∧ 0 ≤ F0 18 ∧ F0 18 ≤ 12 ∧ 0 ≤ F0 23 ∧ F0 23 ≤ 1000000 ∧ (F0 9 = 2 → 0 ≤ F0 11 ∧ F0 11 ≤ 9) ∧ 0 ≤ F0 9 ∧ F0 9 ≤ 4) (p2 : nm (A0 16) (A0 17) (F0 18)) (p3 : (12 - F0 21) + (30 - F0 20) < (gk : Int) + 1) (pT : TP tx (F0 7) (A0 3)) (p4 : F0 6 = 0) (p6 : XP tx gs (F0 8) (F0 9) (F0 10) (F0 11) (F0 12) (F0 13) (F0 14) (F0 18) (F0 20) (F0 21) (F0 23) (A0 15) (A0 16) (A0 17) (A0 19) (A0 22)) (p7 : F0 9 = 3 ∧ F0 11 = 92) : ∀ (n : Nat) {lv : am_l} {h : am_h} {F : rf_f} {A : rf_A} {v1 : Int32} {gz : mS}, ((31 - v1.toInt).toNat) = n → am_get lv 0 = some (.inr (.inr (some 81))) → am_get lv 1 = some (.inl v1) → rf_I h0 h F A → fr1 [8, 10, 9, 14, 11, 12, 13, 6, 5, 23, 20, 21] F0 F → fr2 [22, 19] A0 A → (F0 8 ≤ F 8 ∧ F 8 ≤ F0 7 ∧ F 20 = F0 20 + v1.toInt ∧ 0 ≤ v1.toInt ∧ F 20 ≤ 30 ∧ F 21 = F0 21 ∧ F0 23 ≤ F 23 ∧ F 23 ≤ 1000000 ∧ (F 9 = 2 → 0 ≤ F 11 ∧ F 11 ≤ 9) ∧ 0 ≤ F 9 ∧ F 9 ≤ 4 ∧ F 6 = 0) → (imp (F 23 ≤ 124) (fu (A 22) (A0 22) (F0 23) (F 23) v1.toInt)) → (XL tx gs (gz) (F 8) (F 9) (F 10) (F 11) (F 12) (F 13) (F 14) (F 18) (F 20) (F 21) (F 23) (A 15) (A 16) (A 17) (A 19) (A 22)) → (m_st gz = 3 → F 9 = 1) → (F 5 = F0 5) → am_Ok am_G (2 * gk + 5) 181 (6, lv, [], h, 0, 0) (rf_V h0 (fun F' A' => fr1 [8, 10, 9, 14, 11, 12, 13, 6, 5, 23, 20, 21] F0 F' ∧ fr2 [22, 19] A0 A' ∧ ((F0 8 ≤ F' 8 ∧ F' 8 ≤ F0 7 ∧ F0 20 ≤ F' 20 ∧ F' 20 ≤ 30 ∧ F' 21 = F0 21 ∧ F0 23 ≤ F' 23 ∧ F' 23 ≤ 1000000 ∧ (F' 9 = 2 → 0 ≤ F' 11 ∧ F' 11 ≤ 9) ∧ 0 ≤ F' 9 ∧ F' 9 ≤ 4) ∧ (F' 6 = 0 → F' 20 = F0 20 ∧ F0 6 = 0 ∧ (F' 9 = 0 ∨ F0 8 < F' 8) ∧ F' 5 = F0 5) ∧ imp (F' 6 = 0) (F' 23 ≤ 124 → rd1 (A' 22) (A0 22) (F0 23) (F' 23) (F0 20)) ∧ (F' 6 = 0 → F' 9 ≠ 1 ∧ F' 9 ≠ 2 ∧ (F' 9 = 3 → F' 11 ≠ 40)) ∧ XT tx gs (F' 5) (F' 6) (F' 8) (F' 9) (F' 10) (F' 11) (F' 12) (F' 13) (F' 14) (F' 18) (F' 20) (F' 21) (F' 23) (A' 15) (A' 16) (A' 17) (A' 19) (A' 22)))) := by
  intro n
  induction n using Nat.strongRecOn with
  | ind n ih =>
    intro lv h F A v1 gz hn g0 g1 hI hF hA i1 i2 i3 i4 i5
    have hp20 := p6.2.2.2.1
    have hi20 := i3.2.2.2.2.2.1
    refine k_aload 7 rfl g0 rfl ?_
    refine k_aload 8 rfl g0 rfl ?_
    refine r_gI hI 11 rfl rfl rfl (fun x33 (e34 : x33.toInt = F 9) => ?_)
    refine k_push 12 rfl rfl ?_
    have hc35 : (1 : Int32).toInt = 1 := by decide
    by_cases b36 : x33 = (1 : Int32)
    · refine k_c2 15 rfl rfl (if_pos b36) ?_
      have b36 := iv_eq.mp b36
      refine k_push 16 rfl rfl ?_
      refine k_goto 20 rfl rfl ?_
      refine k_push 21 rfl rfl ?_
      refine k_rq hI rfl (m_check  hI.1 (show (1 : Int32).toInt ≠ 0 by omega)) (Nat.ble_eq_true_of_le (by omega)) rfl rfl hI.rc ?_
      rintro x37 h38 F39 A40 I41 ⟨k43, k44, pq42⟩
      replace pq42 : ((x37.toInt = 1 ∧ (F 6) = 0 ∧ (1 : Int32).toInt ≠ 0 ∧ F39 6 = 0 ∧ F39 5 = (F 5)) ∨ (x37.toInt = 0 ∧ F39 6 ≠ 0 ∧ (((F 6) = 0 ∧ (1 : Int32).toInt = 0 ∧ F39 6 = (1 : Int32).toInt ∧ F39 5 = (F 10)) ∨ ((F 6) ≠ 0 ∧ F39 6 = (F 6) ∧ F39 5 = (F 5))))) := pq42
      have k44 := fr2.nil k44
      subst k44
      have z45 := iv_01 (x := x37) (by omega)
      show am_Ok _ _ _ (24, _, [.inl x37], _, 0, 0) _
      by_cases b46 : x37 = 0
      · refine k_c1 58 rfl rfl (if_pos b46) ?_
        have b46 := iv_eq0.mp b46
        obtain ⟨hk7, hk8, hk9, hne⟩ : F39 6 = 1 ∧ F39 5 = F 10 ∧ F 9 ≠ 1 ∧ F39 6 ≠ 0 := by omega
        clear pq42
        have e47 : F39 8 = F 8 := k43 8 (by decide)
        have e48 : F39 20 = F 20 := k43 20 (by decide)
        have e49 : F39 21 = F 21 := k43 21 (by decide)
        have e50 : F39 23 = F 23 := k43 23 (by decide)
        have e51 : F39 9 = F 9 := k43 9 (by decide)
        have e52 : F39 11 = F 11 := k43 11 (by decide)
        have e53 : F39 10 = F 10 := k43 10 (by decide)
        have e54 : F39 12 = F 12 := k43 12 (by decide)
        have e55 : F39 13 = F 13 := k43 13 (by decide)
        have e56 : F39 14 = F 14 := k43 14 (by decide)
        have e57 : F39 18 = F 18 := k43 18 (by decide)
        have e58 : F 18 = F0 18 := hF 18 (by decide)
        exact k_fin rfl rfl ⟨_, _, _, rfl, I41, (fr1.tr (by decide) hF k43), hA, ⟨(show (F0 8 ≤ F39 8 ∧ F39 8 ≤ F0 7 ∧ F0 20 ≤ F39 20 ∧ F39 20 ≤ 30 ∧ F39 21 = F0 21 ∧ F0 23 ≤ F39 23 ∧ F39 23 ≤ 1000000 ∧ (F39 9 = 2 → 0 ≤ F39 11 ∧ F39 11 ≤ 9) ∧ 0 ≤ F39 9 ∧ F39 9 ≤ 4) by (repeat' apply And.intro) <;> omega), (fun z => absurd (show F39 6 = 0 from z) hne), (fun z => absurd (show F39 6 = 0 from z) hne), (fun z => absurd (show F39 6 = 0 from z) hne), (show XT tx gs (F39 5) (F39 6) (F39 8) (F39 9) (F39 10) (F39 11) (F39 12) (F39 13) (F39 14) (F39 18) (F39 20) (F39 21) (F39 23) ((A 15)) ((A 16)) ((A 17)) ((A 19)) ((A 22)) from XT.bad hne (rf_1 i3 i4 hk9 hk7 hk8))⟩⟩
      · refine k_c1 27 rfl rfl (if_neg b46) ?_
        have b46 := mt iv_eq0.mpr b46
        obtain ⟨hk1, hk2, hk3⟩ : F39 6 = 0 ∧ F39 5 = F 5 ∧ F 9 = 1 := by omega
        clear pq42
        refine k_aload 28 rfl g0 rfl ?_
        refine k_aload 29 rfl g0 rfl ?_
        refine r_gI I41 32 rfl rfl rfl (fun x59 (e60 : x59.toInt = F39 14) => ?_)
        have e61 : F39 14 = F 14 := k43 14 (by decide)
        refine k_push 34 rfl rfl ?_
        have hc62 : (8 : Int32).toInt = 8 := by decide
        by_cases b63 : (8 : Int32) < x59
        · refine k_c2 50 rfl rfl (if_pos b63) ?_
          have b63 := iv_lt.mp b63
          refine k_push 51 rfl rfl ?_
          have hc64 : (0 : Int32).toInt = 0 := by decide
          refine k_push 52 rfl rfl ?_
          have hc65 : (2 : Int32).toInt = 2 := by decide
          refine k_rq I41 rfl (m_check  I41.1 (show (2 : Int32).toInt ≠ 0 by omega)) (Nat.ble_eq_true_of_le (by omega)) rfl rfl I41.rc ?_
          rintro x66 h67 F68 A69 I70 ⟨k72, k73, pq71⟩
          have e74 : F39 10 = F 10 := k43 10 (by decide)
          replace pq71 : ((x66.toInt = 1 ∧ (F39 6) = 0 ∧ (0 : Int32).toInt ≠ 0 ∧ F68 6 = 0 ∧ F68 5 = (F39 5)) ∨ (x66.toInt = 0 ∧ F68 6 ≠ 0 ∧ (((F39 6) = 0 ∧ (0 : Int32).toInt = 0 ∧ F68 6 = (2 : Int32).toInt ∧ F68 5 = (F39 10)) ∨ ((F39 6) ≠ 0 ∧ F68 6 = (F39 6) ∧ F68 5 = (F39 5))))) := pq71
          have k73 := fr2.nil k73
          subst k73
          have z75 := iv_01 (x := x66) (by omega)
          show am_Ok _ _ _ (55, _, [.inl x66], _, 0, 0) _
          by_cases b76 : x66 = 0
          · refine k_c1 58 rfl rfl (if_pos b76) ?_
            have b76 := iv_eq0.mp b76
            obtain ⟨hk7, hk8, hk9, hne⟩ : F68 6 = 2 ∧ F68 5 = F 10 ∧ (8 < F 14 ∨ 30 ≤ F 20) ∧ F68 6 ≠ 0 := by omega
            clear pq71
            have e77 : F68 8 = F39 8 := k72 8 (by decide)
            have e78 : F39 8 = F 8 := k43 8 (by decide)
            have e79 : F68 20 = F39 20 := k72 20 (by decide)
            have e80 : F39 20 = F 20 := k43 20 (by decide)
            have e81 : F68 21 = F39 21 := k72 21 (by decide)
            have e82 : F39 21 = F 21 := k43 21 (by decide)
            have e83 : F68 23 = F39 23 := k72 23 (by decide)
            have e84 : F39 23 = F 23 := k43 23 (by decide)
            have e85 : F68 9 = F39 9 := k72 9 (by decide)
            have e86 : F39 9 = F 9 := k43 9 (by decide)
            have e87 : F68 11 = F39 11 := k72 11 (by decide)
            have e88 : F39 11 = F 11 := k43 11 (by decide)
            have e89 : F68 10 = F39 10 := k72 10 (by decide)
            have e90 : F68 12 = F39 12 := k72 12 (by decide)
            have e91 : F39 12 = F 12 := k43 12 (by decide)
            have e92 : F68 13 = F39 13 := k72 13 (by decide)
            have e93 : F39 13 = F 13 := k43 13 (by decide)
            have e94 : F68 14 = F39 14 := k72 14 (by decide)
            have e95 : F68 18 = F39 18 := k72 18 (by decide)
            have e96 : F39 18 = F 18 := k43 18 (by decide)
            have e97 : F 18 = F0 18 := hF 18 (by decide)
            exact k_fin rfl rfl ⟨_, _, _, rfl, I70, (fr1.tr (by decide) (fr1.tr (by decide) hF k43) k72), hA, ⟨(show (F0 8 ≤ F68 8 ∧ F68 8 ≤ F0 7 ∧ F0 20 ≤ F68 20 ∧ F68 20 ≤ 30 ∧ F68 21 = F0 21 ∧ F0 23 ≤ F68 23 ∧ F68 23 ≤ 1000000 ∧ (F68 9 = 2 → 0 ≤ F68 11 ∧ F68 11 ≤ 9) ∧ 0 ≤ F68 9 ∧ F68 9 ≤ 4) by (repeat' apply And.intro) <;> omega), (fun z => absurd (show F68 6 = 0 from z) hne), (fun z => absurd (show F68 6 = 0 from z) hne), (fun z => absurd (show F68 6 = 0 from z) hne), (show XT tx gs (F68 5) (F68 6) (F68 8) (F68 9) (F68 10) (F68 11) (F68 12) (F68 13) (F68 14) (F68 18) (F68 20) (F68 21) (F68 23) ((A 15)) ((A 16)) ((A 17)) ((A 19)) ((A 22)) from XT.bad hne (rf_2 i3 hk3 hk9 hk7 hk8))⟩⟩
          · refine k_c1 59 rfl rfl (if_neg b76) ?_
            have b76 := mt iv_eq0.mpr b76
            exfalso
            omega
        · refine k_c2 37 rfl rfl (if_neg b63) ?_
          have b63 := mt iv_lt.mpr b63
          refine k_aload 38 rfl g0 rfl ?_
          refine r_gI I41 41 rfl rfl rfl (fun x98 (e99 : x98.toInt = F39 20) => ?_)
          have e100 : F39 20 = F 20 := k43 20 (by decide)
          refine k_push 43 rfl rfl ?_
          have hc101 : (30 : Int32).toInt = 30 := by decide
          by_cases b102 : (30 : Int32) ≤ x98
          · refine k_c2 50 rfl rfl (if_pos b102) ?_
            have b102 := iv_le.mp b102
            refine k_push 51 rfl rfl ?_
            have hc103 : (0 : Int32).toInt = 0 := by decide
            refine k_push 52 rfl rfl ?_
            have hc104 : (2 : Int32).toInt = 2 := by decide
            refine k_rq I41 rfl (m_check  I41.1 (show (2 : Int32).toInt ≠ 0 by omega)) (Nat.ble_eq_true_of_le (by omega)) rfl rfl I41.rc ?_
            rintro x105 h106 F107 A108 I109 ⟨k111, k112, pq110⟩
            have e113 : F39 10 = F 10 := k43 10 (by decide)
            replace pq110 : ((x105.toInt = 1 ∧ (F39 6) = 0 ∧ (0 : Int32).toInt ≠ 0 ∧ F107 6 = 0 ∧ F107 5 = (F39 5)) ∨ (x105.toInt = 0 ∧ F107 6 ≠ 0 ∧ (((F39 6) = 0 ∧ (0 : Int32).toInt = 0 ∧ F107 6 = (2 : Int32).toInt ∧ F107 5 = (F39 10)) ∨ ((F39 6) ≠ 0 ∧ F107 6 = (F39 6) ∧ F107 5 = (F39 5))))) := pq110
            have k112 := fr2.nil k112
            subst k112
            have z114 := iv_01 (x := x105) (by omega)
            show am_Ok _ _ _ (55, _, [.inl x105], _, 0, 0) _
            by_cases b115 : x105 = 0
            · refine k_c1 58 rfl rfl (if_pos b115) ?_
              have b115 := iv_eq0.mp b115
              obtain ⟨hk7, hk8, hk9, hne⟩ : F107 6 = 2 ∧ F107 5 = F 10 ∧ (8 < F 14 ∨ 30 ≤ F 20) ∧ F107 6 ≠ 0 := by omega
              clear pq110
              have e116 : F107 8 = F39 8 := k111 8 (by decide)
              have e117 : F39 8 = F 8 := k43 8 (by decide)
              have e118 : F107 20 = F39 20 := k111 20 (by decide)
              have e119 : F107 21 = F39 21 := k111 21 (by decide)
              have e120 : F39 21 = F 21 := k43 21 (by decide)
              have e121 : F107 23 = F39 23 := k111 23 (by decide)
              have e122 : F39 23 = F 23 := k43 23 (by decide)
              have e123 : F107 9 = F39 9 := k111 9 (by decide)
              have e124 : F39 9 = F 9 := k43 9 (by decide)
              have e125 : F107 11 = F39 11 := k111 11 (by decide)
              have e126 : F39 11 = F 11 := k43 11 (by decide)
              have e127 : F107 10 = F39 10 := k111 10 (by decide)
              have e128 : F107 12 = F39 12 := k111 12 (by decide)
              have e129 : F39 12 = F 12 := k43 12 (by decide)
              have e130 : F107 13 = F39 13 := k111 13 (by decide)
              have e131 : F39 13 = F 13 := k43 13 (by decide)
              have e132 : F107 14 = F39 14 := k111 14 (by decide)
              have e133 : F107 18 = F39 18 := k111 18 (by decide)
              have e134 : F39 18 = F 18 := k43 18 (by decide)
              have e135 : F 18 = F0 18 := hF 18 (by decide)
              exact k_fin rfl rfl ⟨_, _, _, rfl, I109, (fr1.tr (by decide) (fr1.tr (by decide) hF k43) k111), hA, ⟨(show (F0 8 ≤ F107 8 ∧ F107 8 ≤ F0 7 ∧ F0 20 ≤ F107 20 ∧ F107 20 ≤ 30 ∧ F107 21 = F0 21 ∧ F0 23 ≤ F107 23 ∧ F107 23 ≤ 1000000 ∧ (F107 9 = 2 → 0 ≤ F107 11 ∧ F107 11 ≤ 9) ∧ 0 ≤ F107 9 ∧ F107 9 ≤ 4) by (repeat' apply And.intro) <;> omega), (fun z => absurd (show F107 6 = 0 from z) hne), (fun z => absurd (show F107 6 = 0 from z) hne), (fun z => absurd (show F107 6 = 0 from z) hne), (show XT tx gs (F107 5) (F107 6) (F107 8) (F107 9) (F107 10) (F107 11) (F107 12) (F107 13) (F107 14) (F107 18) (F107 20) (F107 21) (F107 23) ((A 15)) ((A 16)) ((A 17)) ((A 19)) ((A 22)) from XT.bad hne (rf_2 i3 hk3 hk9 hk7 hk8))⟩⟩
            · refine k_c1 59 rfl rfl (if_neg b115) ?_
              have b115 := mt iv_eq0.mpr b115
              exfalso
              omega
          · refine k_c2 46 rfl rfl (if_neg b102) ?_
            have b102 := mt iv_le.mpr b102
            refine k_push 47 rfl rfl ?_
            refine k_goto 51 rfl rfl ?_
            refine k_push 52 rfl rfl ?_
            have hc136 : (2 : Int32).toInt = 2 := by decide
            refine k_rq I41 rfl (m_check  I41.1 (show (2 : Int32).toInt ≠ 0 by omega)) (Nat.ble_eq_true_of_le (by omega)) rfl rfl I41.rc ?_
            rintro x137 h138 F139 A140 I141 ⟨k143, k144, pq142⟩
            have e145 : F39 10 = F 10 := k43 10 (by decide)
            replace pq142 : ((x137.toInt = 1 ∧ (F39 6) = 0 ∧ (1 : Int32).toInt ≠ 0 ∧ F139 6 = 0 ∧ F139 5 = (F39 5)) ∨ (x137.toInt = 0 ∧ F139 6 ≠ 0 ∧ (((F39 6) = 0 ∧ (1 : Int32).toInt = 0 ∧ F139 6 = (2 : Int32).toInt ∧ F139 5 = (F39 10)) ∨ ((F39 6) ≠ 0 ∧ F139 6 = (F39 6) ∧ F139 5 = (F39 5))))) := pq142
            have k144 := fr2.nil k144
            subst k144
            have z146 := iv_01 (x := x137) (by omega)
            show am_Ok _ _ _ (55, _, [.inl x137], _, 0, 0) _
            by_cases b147 : x137 = 0
            · refine k_c1 58 rfl rfl (if_pos b147) ?_
              have b147 := iv_eq0.mp b147
              obtain ⟨hk7, hk8, hk9, hne⟩ : F139 6 = 2 ∧ F139 5 = F 10 ∧ (8 < F 14 ∨ 30 ≤ F 20) ∧ F139 6 ≠ 0 := by omega
              clear pq142
              have e148 : F139 8 = F39 8 := k143 8 (by decide)
              have e149 : F39 8 = F 8 := k43 8 (by decide)
              have e150 : F139 20 = F39 20 := k143 20 (by decide)
              have e151 : F139 21 = F39 21 := k143 21 (by decide)
              have e152 : F39 21 = F 21 := k43 21 (by decide)
              have e153 : F139 23 = F39 23 := k143 23 (by decide)
              have e154 : F39 23 = F 23 := k43 23 (by decide)
              have e155 : F139 9 = F39 9 := k143 9 (by decide)
              have e156 : F39 9 = F 9 := k43 9 (by decide)
              have e157 : F139 11 = F39 11 := k143 11 (by decide)
              have e158 : F39 11 = F 11 := k43 11 (by decide)
              have e159 : F139 10 = F39 10 := k143 10 (by decide)
              have e160 : F139 12 = F39 12 := k143 12 (by decide)
              have e161 : F39 12 = F 12 := k43 12 (by decide)
              have e162 : F139 13 = F39 13 := k143 13 (by decide)
              have e163 : F39 13 = F 13 := k43 13 (by decide)
              have e164 : F139 14 = F39 14 := k143 14 (by decide)
              have e165 : F139 18 = F39 18 := k143 18 (by decide)
              have e166 : F39 18 = F 18 := k43 18 (by decide)
              have e167 : F 18 = F0 18 := hF 18 (by decide)
              exact k_fin rfl rfl ⟨_, _, _, rfl, I141, (fr1.tr (by decide) (fr1.tr (by decide) hF k43) k143), hA, ⟨(show (F0 8 ≤ F139 8 ∧ F139 8 ≤ F0 7 ∧ F0 20 ≤ F139 20 ∧ F139 20 ≤ 30 ∧ F139 21 = F0 21 ∧ F0 23 ≤ F139 23 ∧ F139 23 ≤ 1000000 ∧ (F139 9 = 2 → 0 ≤ F139 11 ∧ F139 11 ≤ 9) ∧ 0 ≤ F139 9 ∧ F139 9 ≤ 4) by (repeat' apply And.intro) <;> omega), (fun z => absurd (show F139 6 = 0 from z) hne), (fun z => absurd (show F139 6 = 0 from z) hne), (fun z => absurd (show F139 6 = 0 from z) hne), (show XT tx gs (F139 5) (F139 6) (F139 8) (F139 9) (F139 10) (F139 11) (F139 12) (F139 13) (F139 14) (F139 18) (F139 20) (F139 21) (F139 23) ((A 15)) ((A 16)) ((A 17)) ((A 19)) ((A 22)) from XT.bad hne (rf_2 i3 hk3 hk9 hk7 hk8))⟩⟩
            · refine k_c1 59 rfl rfl (if_neg b147) ?_
              have b147 := mt iv_eq0.mpr b147
              obtain ⟨hk4, hk5, hk6⟩ : F139 6 = 0 ∧ F139 5 = F 5 ∧ (F 14 ≤ 8 ∧ F 20 < 30) := by omega
              clear pq142
              refine k_aload 60 rfl g0 rfl ?_
              refine r_gA I141 63 rfl rfl rfl ?_
              refine k_aload 64 rfl g0 rfl ?_
              refine r_gI I141 67 rfl rfl rfl (fun x168 (e169 : x168.toInt = F139 20) => ?_)
              have e170 : F139 20 = F39 20 := k143 20 (by decide)
              refine k_aload 68 rfl g0 rfl ?_
              refine r_gJ I141 71 rfl rfl rfl (fun y171 (e172 : y171.toInt = F139 13) => ?_)
              have e173 : F139 13 = F39 13 := k143 13 (by decide)
              have e174 : F39 13 = F 13 := k43 13 (by decide)
              refine r_lst 19 I141 72 rfl rfl (by omega) (show x168.toInt < 31 by omega) rfl (fun h175 I176 => ?_)
              have hb19 : ((up2 A 19 x168.toInt y171.toInt) 19) (F 20) = F 13 ∧ ∀ q : Int, q ≠ F 20 → ((up2 A 19 x168.toInt y171.toInt) 19) q = A 19 q := ⟨by rw [show F 20 = x168.toInt by omega]; exact up2_eq.trans (by omega), fun q hq => (up2_ne (by omega)).trans (congrFun (rfl) q)⟩
              refine k_aload 73 rfl g0 rfl ?_
              refine k_dup 74 rfl rfl rfl ?_
              refine r_gI I176 77 rfl rfl rfl (fun x177 (e178 : x177.toInt = F139 20) => ?_)
              refine k_push 78 rfl rfl ?_
              obtain ⟨x179, q180⟩ : ∃ q : Int32, q = (x177 + (1 : Int32)) := ⟨_, rfl⟩
              have e181 : x179.toInt = x177.toInt + 1 := by rw [q180, iv_add (by omega) (by omega)]; omega
              refine k_bin x179 79 rfl q180.symm rfl ?_
              refine r_pI I176 82 rfl rfl rfl (fun h182 I183 => ?_)
              obtain ⟨x184, q185⟩ : ∃ q : Int32, q = v1 + (1 : Int32) := ⟨_, rfl⟩
              have e186 : x184.toInt = v1.toInt + 1 := by rw [q185, iv_add (by omega) (by omega)]; omega
              refine k_iinc x184 85 rfl g1 q185.symm rfl ?_
              have e187 : F139 23 = F39 23 := k143 23 (by decide)
              have e188 : F39 23 = F 23 := k43 23 (by decide)
              have hcu8 : CU (m_c gz) (F139 23) (A 22) := by rw [show F139 23 = F 23 by omega]; exact i3.2.2.2.2.2.2.2.1
              refine k_aload 86 rfl (gs_ne rfl rfl g0) rfl ?_
              refine k_push 87 rfl rfl ?_
              refine k_rv I183 rfl (m_emits  I183.1 (show 0 ≤ (F139 23) ∧ (F139 23) ≤ 1000000 by omega)) (Nat.ble_eq_true_of_le (by omega)) rfl rfl I183.rc ?_
              rintro h190 F191 A192 I193 ⟨k195, k196, pq194⟩
              replace pq194 : ((F139 23) ≤ F191 23 ∧ F191 23 ≤ 1000000) ∧ (F191 23 ≤ 124 → F191 23 = (F139 23) + 1) ∧ imp (F191 23 ≤ 124) (A192 22 ((F139 23)) = (1 : Int32).toInt ∧ ∀ q : Int, q ≠ (F139 23) → A192 22 q = (A 22) q) ∧ (((F139 23) < 1000000 → F191 23 = (F139 23) + 1) ∧ (¬ (F139 23) < 1000000 → F191 23 = (F139 23))) := pq194
              obtain ⟨pq194a, pq194b, pq194c, pq194d⟩ := pq194
              show am_Ok _ _ _ (90, _, [], _, 0, 0) _
              have hfu : imp (F191 23 ≤ 124) (fu (A192 22) (A0 22) (F0 23) (F191 23) (v1.toInt + 1)) := fun z9 => fu_s (h := fu_cg (i2 (by omega)) (by omega) rfl) (pq194b z9) ((pq194c z9).1.trans (by decide)) (pq194c z9).2 (by omega) rfl
              have hr19 : (A192 19) = _ := (k196 19 (by decide))
              rw [← hr19] at hb19
              have hcu9 := hcu8.emit pq194d.1 pq194d.2 pq194c (x := 1) (by decide)
              clear pq194d i2
              refine k_aload 91 rfl (gs_ne rfl rfl g0) rfl ?_
              have e197 : F191 8 = F139 8 := k195 8 (by decide)
              have e198 : F139 8 = F39 8 := k143 8 (by decide)
              have e199 : F39 8 = F 8 := k43 8 (by decide)
              have e200 : F191 7 = F139 7 := k195 7 (by decide)
              have e201 : F139 7 = F39 7 := k143 7 (by decide)
              have e202 : F39 7 = F 7 := k43 7 (by decide)
              have e203 : F 7 = F0 7 := hF 7 (by decide)
              refine k_rv I193 rfl (m_goes  I193.1 (show 0 ≤ (F191 8) ∧ (F191 8) ≤ (F191 7) ∧ (F191 7) ≤ 700 by omega) (show TP tx ((F191 7)) ((A192 3)) by rw [((k195 7 (by decide)).trans ((k143 7 (by decide)).trans ((k43 7 (by decide)).trans (hF 7 (by decide))))), ((k196 3 (by decide)).trans (hA 3 (by decide)))]; exact pT)) (Nat.ble_eq_true_of_le (by omega)) rfl rfl I193.rc ?_
              rintro h205 F206 A207 I208 ⟨k210, k211, pq209⟩
              replace pq209 : ((F191 8) ≤ F206 8 ∧ F206 8 ≤ (F191 7)) ∧ (F206 9 = 0 ∨ (F191 8) < F206 8) ∧ (F206 9 = 2 → 0 ≤ F206 11 ∧ F206 11 ≤ 9) ∧ (0 ≤ F206 9 ∧ F206 9 ≤ 4) ∧ TKv tx ((F191 8)) (F206 8) (F206 9) (F206 10) (F206 11) (F206 12) (F206 13) (F206 14) := pq209
              obtain ⟨pq209a, pq209b, pq209c, pq209d, pq209e⟩ := pq209
              have k211 := fr2.nil k211
              subst k211
              show am_Ok _ _ _ (94, _, [], _, 0, 0) _
              have e212 : F206 18 = F191 18 := k210 18 (by decide)
              have e213 : F191 18 = F139 18 := k195 18 (by decide)
              have e214 : F139 18 = F39 18 := k143 18 (by decide)
              have e215 : F39 18 = F 18 := k43 18 (by decide)
              have e216 : F 18 = F0 18 := hF 18 (by decide)
              have e217 : F206 20 = F191 20 := k210 20 (by decide)
              have e218 : F191 20 = x179.toInt := k195 20 (by decide)
              have e219 : F206 21 = F191 21 := k210 21 (by decide)
              have e220 : F191 21 = F139 21 := k195 21 (by decide)
              have e221 : F139 21 = F39 21 := k143 21 (by decide)
              have e222 : F39 21 = F 21 := k43 21 (by decide)
              have e223 : F206 23 = F191 23 := k210 23 (by decide)
              have hxl : XL tx gs (m_3 tx gz) (F206 8) (F206 9) (F206 10) (F206 11) (F206 12) (F206 13) (F206 14) (F206 18) (F206 20) (F206 21) (F206 23) ((A192 15)) ((A192 16)) ((A192 17)) ((A192 19)) ((A192 22)) := rf_3 i3 hk3 hk6.1 hk6.2 ⟨by rw [show F 20 = F 20 from rfl]; exact hb19.1, hb19.2⟩ (by rw [(k210 23 (by decide))]; exact hcu9) (pq209e.cg (by omega) rfl rfl rfl rfl rfl rfl rfl) (by omega) (by omega) (by omega) (k196 15 (by decide)) (k196 16 (by decide)) (k196 17 (by decide))
              clear pq209e i4
              refine k_aload 95 rfl (gs_ne rfl rfl g0) rfl ?_
              refine k_in (d := 0) rfl (Nat.ble_eq_true_of_le (by omega)) rfl rfl I208.rc ?_
              refine k_aload 1 rfl rfl rfl ?_
              refine r_gI I208 4 rfl rfl rfl (fun x224 (e225 : x224.toInt = F206 6) => ?_)
              have e226 : F206 6 = F191 6 := k210 6 (by decide)
              have e227 : F191 6 = F139 6 := k195 6 (by decide)
              by_cases b228 : x224 = 0
              · refine k_c1 7 rfl rfl (if_pos b228) ?_
                have b228 := iv_eq0.mp b228
                refine k_push 8 rfl rfl ?_
                refine k_goto 12 rfl rfl ?_
                refine k_fin rfl (fin_Z (Or.inr rfl)) ⟨_, _, rfl, rf_len I208 I208, ?_⟩
                show am_Ok _ _ _ (98, _, [.inl (1 : Int32)], _, 0, 0) _
                refine k_c1 101 rfl rfl (if_neg (by decide)) ?_
                refine k_aload 102 rfl (gs_ne rfl rfl g0) rfl ?_
                refine r_gI I208 105 rfl rfl rfl (fun x229 (e230 : x229.toInt = F206 9) => ?_)
                refine k_push 106 rfl rfl ?_
                by_cases b231 : x229 = (1 : Int32)
                · refine k_c2 6 rfl rfl (if_pos b231) ?_
                  have b231 := iv_eq.mp b231
                  have e232 : F206 5 = F191 5 := k210 5 (by decide)
                  have e233 : F191 5 = F139 5 := k195 5 (by decide)
                  exact ih _ (show ((31 - x184.toInt).toNat) < n by omega) (gz := m_3 tx gz) rfl (gs_ne rfl rfl g0) gs_eq I208 (fr1.tr (by decide) (fr1.tr (by decide) (fr1.up (by decide) (fr1.tr (by decide) (fr1.tr (by decide) hF k43) k143)) k195) k210) (fr2.tr (by decide) (fr2.up (by decide) hA) k196) (show F0 8 ≤ (F206 8) ∧ (F206 8) ≤ F0 7 ∧ (F206 20) = F0 20 + x184.toInt ∧ 0 ≤ x184.toInt ∧ (F206 20) ≤ 30 ∧ (F206 21) = F0 21 ∧ F0 23 ≤ (F206 23) ∧ (F206 23) ≤ 1000000 ∧ ((F206 9) = 2 → 0 ≤ (F206 11) ∧ (F206 11) ≤ 9) ∧ 0 ≤ (F206 9) ∧ (F206 9) ≤ 4 ∧ (F206 6) = 0 by (repeat' apply And.intro) <;> omega) (fun z => by have z9 : F206 23 ≤ 124 := z; show fu (A192 22) (A0 22) (F0 23) (F206 23) x184.toInt; exact fu_cg (hfu (by omega)) (by omega) (by omega)) (show XL tx gs ((m_3 tx gz)) ((F206 8)) ((F206 9)) ((F206 10)) ((F206 11)) ((F206 12)) ((F206 13)) ((F206 14)) ((F206 18)) ((F206 20)) ((F206 21)) ((F206 23)) ((A192 15)) ((A192 16)) ((A192 17)) ((A192 19)) ((A192 22)) from hxl) (fun _ => (show F206 9 = 1 by omega)) (show (F206 5) = F0 5 by omega)
                · refine k_c2 109 rfl rfl (if_neg b231) ?_
                  have b231 := mt iv_eq.mpr b231
                  have e234 : F206 5 = F191 5 := k210 5 (by decide)
                  have e235 : F191 5 = F139 5 := k195 5 (by decide)
                  exact b_X10_readsFunction_109 (gk := gk) (tx := tx) (gs := gs)  hrec p1 p2 p3 pT p4 p6 p7 _ (gz := m_3 tx gz) rfl (gs_ne rfl rfl g0) gs_eq I208 (fr1.tr (by decide) (fr1.tr (by decide) (fr1.up (by decide) (fr1.tr (by decide) (fr1.tr (by decide) hF k43) k143)) k195) k210) (fr2.tr (by decide) (fr2.up (by decide) hA) k196) (show F0 8 ≤ (F206 8) ∧ (F206 8) ≤ F0 7 ∧ (F206 20) = F0 20 + x184.toInt ∧ 0 ≤ x184.toInt ∧ (F206 20) ≤ 30 ∧ (F206 21) = F0 21 ∧ F0 23 ≤ (F206 23) ∧ (F206 23) ≤ 1000000 ∧ ((F206 9) = 2 → 0 ≤ (F206 11) ∧ (F206 11) ≤ 9) ∧ 0 ≤ (F206 9) ∧ (F206 9) ≤ 4 ∧ (F206 6) = 0 ∧ (F206 9) ≠ 1 ∧ (F206 20) ≠ F0 20 by (repeat' apply And.intro) <;> omega) (fun z => by have z9 : F206 23 ≤ 124 := z; show fu (A192 22) (A0 22) (F0 23) (F206 23) x184.toInt; exact fu_cg (hfu (by omega)) (by omega) (by omega)) (show XL tx gs ((m_3 tx gz)) ((F206 8)) ((F206 9)) ((F206 10)) ((F206 11)) ((F206 12)) ((F206 13)) ((F206 14)) ((F206 18)) ((F206 20)) ((F206 21)) ((F206 23)) ((A192 15)) ((A192 16)) ((A192 17)) ((A192 19)) ((A192 22)) from hxl) (rfl) (show (F206 5) = F0 5 by omega)
              · refine k_c1 11 rfl rfl (if_neg b228) ?_
                have b228 := mt iv_eq0.mpr b228
                refine k_push 12 rfl rfl ?_
                have hc236 : (0 : Int32).toInt = 0 := by decide
                refine k_fin rfl (fin_Z (Or.inl rfl)) ⟨_, _, rfl, rf_len I208 I208, ?_⟩
                show am_Ok _ _ _ (98, _, [.inl (0 : Int32)], _, 0, 0) _
                refine k_c1 109 rfl rfl (if_pos (by decide)) ?_
                have e237 : F206 5 = F191 5 := k210 5 (by decide)
                have e238 : F191 5 = F139 5 := k195 5 (by decide)
                exact b_X10_readsFunction_109 (gk := gk) (tx := tx) (gs := gs)  hrec p1 p2 p3 pT p4 p6 p7 _ (gz := m_3 tx gz) rfl (gs_ne rfl rfl g0) gs_eq I208 (fr1.tr (by decide) (fr1.tr (by decide) (fr1.up (by decide) (fr1.tr (by decide) (fr1.tr (by decide) hF k43) k143)) k195) k210) (fr2.tr (by decide) (fr2.up (by decide) hA) k196) (show F0 8 ≤ (F206 8) ∧ (F206 8) ≤ F0 7 ∧ (F206 20) = F0 20 + x184.toInt ∧ 0 ≤ x184.toInt ∧ (F206 20) ≤ 30 ∧ (F206 21) = F0 21 ∧ F0 23 ≤ (F206 23) ∧ (F206 23) ≤ 1000000 ∧ ((F206 9) = 2 → 0 ≤ (F206 11) ∧ (F206 11) ≤ 9) ∧ 0 ≤ (F206 9) ∧ (F206 9) ≤ 4 ∧ (F206 6) = 0 ∧ (F206 9) ≠ 1 ∧ (F206 20) ≠ F0 20 by (repeat' apply And.intro) <;> omega) (fun z => by have z9 : F206 23 ≤ 124 := z; show fu (A192 22) (A0 22) (F0 23) (F206 23) x184.toInt; exact fu_cg (hfu (by omega)) (by omega) (by omega)) (show XL tx gs ((m_3 tx gz)) ((F206 8)) ((F206 9)) ((F206 10)) ((F206 11)) ((F206 12)) ((F206 13)) ((F206 14)) ((F206 18)) ((F206 20)) ((F206 21)) ((F206 23)) ((A192 15)) ((A192 16)) ((A192 17)) ((A192 19)) ((A192 22)) from hxl) (rfl) (show (F206 5) = F0 5 by omega)
    · refine k_c2 19 rfl rfl (if_neg b36) ?_
      have b36 := mt iv_eq.mpr b36
      refine k_push 20 rfl rfl ?_
      have hc239 : (0 : Int32).toInt = 0 := by decide
      refine k_push 21 rfl rfl ?_
      refine k_rq hI rfl (m_check  hI.1 (show (1 : Int32).toInt ≠ 0 by omega)) (Nat.ble_eq_true_of_le (by omega)) rfl rfl hI.rc ?_
      rintro x240 h241 F242 A243 I244 ⟨k246, k247, pq245⟩
      replace pq245 : ((x240.toInt = 1 ∧ (F 6) = 0 ∧ (0 : Int32).toInt ≠ 0 ∧ F242 6 = 0 ∧ F242 5 = (F 5)) ∨ (x240.toInt = 0 ∧ F242 6 ≠ 0 ∧ (((F 6) = 0 ∧ (0 : Int32).toInt = 0 ∧ F242 6 = (1 : Int32).toInt ∧ F242 5 = (F 10)) ∨ ((F 6) ≠ 0 ∧ F242 6 = (F 6) ∧ F242 5 = (F 5))))) := pq245
      have k247 := fr2.nil k247
      subst k247
      have z248 := iv_01 (x := x240) (by omega)
      show am_Ok _ _ _ (24, _, [.inl x240], _, 0, 0) _
      by_cases b249 : x240 = 0
      · refine k_c1 58 rfl rfl (if_pos b249) ?_
        have b249 := iv_eq0.mp b249
        obtain ⟨hk7, hk8, hk9, hne⟩ : F242 6 = 1 ∧ F242 5 = F 10 ∧ F 9 ≠ 1 ∧ F242 6 ≠ 0 := by omega
        clear pq245
        have e250 : F242 8 = F 8 := k246 8 (by decide)
        have e251 : F242 20 = F 20 := k246 20 (by decide)
        have e252 : F242 21 = F 21 := k246 21 (by decide)
        have e253 : F242 23 = F 23 := k246 23 (by decide)
        have e254 : F242 9 = F 9 := k246 9 (by decide)
        have e255 : F242 11 = F 11 := k246 11 (by decide)
        have e256 : F242 10 = F 10 := k246 10 (by decide)
        have e257 : F242 12 = F 12 := k246 12 (by decide)
        have e258 : F242 13 = F 13 := k246 13 (by decide)
        have e259 : F242 14 = F 14 := k246 14 (by decide)
        have e260 : F242 18 = F 18 := k246 18 (by decide)
        have e261 : F 18 = F0 18 := hF 18 (by decide)
        exact k_fin rfl rfl ⟨_, _, _, rfl, I244, (fr1.tr (by decide) hF k246), hA, ⟨(show (F0 8 ≤ F242 8 ∧ F242 8 ≤ F0 7 ∧ F0 20 ≤ F242 20 ∧ F242 20 ≤ 30 ∧ F242 21 = F0 21 ∧ F0 23 ≤ F242 23 ∧ F242 23 ≤ 1000000 ∧ (F242 9 = 2 → 0 ≤ F242 11 ∧ F242 11 ≤ 9) ∧ 0 ≤ F242 9 ∧ F242 9 ≤ 4) by (repeat' apply And.intro) <;> omega), (fun z => absurd (show F242 6 = 0 from z) hne), (fun z => absurd (show F242 6 = 0 from z) hne), (fun z => absurd (show F242 6 = 0 from z) hne), (show XT tx gs (F242 5) (F242 6) (F242 8) (F242 9) (F242 10) (F242 11) (F242 12) (F242 13) (F242 14) (F242 18) (F242 20) (F242 21) (F242 23) ((A 15)) ((A 16)) ((A 17)) ((A 19)) ((A 22)) from XT.bad hne (rf_1 i3 i4 hk9 hk7 hk8))⟩⟩
      · refine k_c1 27 rfl rfl (if_neg b249) ?_
        have b249 := mt iv_eq0.mpr b249
        exfalso
        omega
set_option maxHeartbeats 4000000 in
theorem m_readsFunction {h0 : am_h} {F0 : rf_f} {A0 : rf_A} {gk : Nat} {tx : List Int} {gs : mS} (hR : rf_R h0 F0 A0) (hrec : ∀ {tx : List Int} {gs : mS} {h0 : am_h} {F0 : rf_f} {A0 : rf_A}, rf_R h0 F0 A0 → (0 ≤ F0 8 ∧ F0 8 ≤ F0 7 ∧ F0 7 ≤ 700 ∧ 0 ≤ F0 20 ∧ F0 20 ≤ 30 ∧ 0 ≤ F0 21 ∧ F0 21 ≤ 12 ∧ 0 ≤ F0 18 ∧ F0 18 ≤ 12 ∧ 0 ≤ F0 23 ∧ F0 23 ≤ 1000000 ∧ (F0 9 = 2 → 0 ≤ F0 11 ∧ F0 11 ≤ 9) ∧ 0 ≤ F0 9 ∧ F0 9 ≤ 4) → (nm (A0 16) (A0 17) (F0 18)) → ((12 - F0 21) + (30 - F0 20) < (gk : Int)) → (TP tx (F0 7) (A0 3)) → (imp (F0 6 = 0) (XP tx gs (F0 8) (F0 9) (F0 10) (F0 11) (F0 12) (F0 13) (F0 14) (F0 18) (F0 20) (F0 21) (F0 23) (A0 15) (A0 16) (A0 17) (A0 19) (A0 22))) → am_Mt (2 * gk + 5) 182 [.inr (.inr (some 81))] h0 (rf_V h0 (fun F' A' => fr1 [8, 10, 9, 14, 11, 12, 13, 6, 5, 23, 20, 21] F0 F' ∧ fr2 [22, 19] A0 A' ∧ ((F0 8 ≤ F' 8 ∧ F' 8 ≤ F0 7 ∧ F0 20 ≤ F' 20 ∧ F' 20 ≤ 30 ∧ F' 21 = F0 21 ∧ F0 23 ≤ F' 23 ∧ F' 23 ≤ 1000000 ∧ (F' 9 = 2 → 0 ≤ F' 11 ∧ F' 11 ≤ 9) ∧ 0 ≤ F' 9 ∧ F' 9 ≤ 4) ∧ (F' 6 = 0 → F' 20 = F0 20 ∧ F0 6 = 0 ∧ (F' 9 = 0 ∨ F0 8 < F' 8) ∧ F' 5 = F0 5) ∧ imp (F' 6 = 0) (F' 23 ≤ 124 → rd1 (A' 22) (A0 22) (F0 23) (F' 23) (F0 20)) ∧ (F' 6 = 0 → F' 9 ≠ 1 ∧ F' 9 ≠ 2 ∧ (F' 9 = 3 → F' 11 ≠ 40)) ∧ (F0 6 ≠ 0 → F' 6 = F0 6 ∧ F' 5 = F0 5) ∧ imp (F0 6 = 0) (XT tx gs (F' 5) (F' 6) (F' 8) (F' 9) (F' 10) (F' 11) (F' 12) (F' 13) (F' 14) (F' 18) (F' 20) (F' 21) (F' 23) (A' 15) (A' 16) (A' 17) (A' 19) (A' 22)))))) (p1 : 0 ≤ F0 8 ∧ F0 8 ≤ F0 7 ∧ F0 7 ≤ 700 ∧ 0 ≤ F0 20 ∧ F0 20 ≤ 30 ∧ 0 ≤ F0 21 ∧ F0 21 ≤ 12 ∧ 0 ≤ F0 18 ∧ F0 18 ≤ 12 ∧ 0 ≤ F0 23 ∧ F0 23 ≤ 1000000 ∧ (F0 9 = 2 → 0 ≤ F0 11 ∧ F0 11 ≤ 9) ∧ 0 ≤ F0 9 ∧ F0 9 ≤ 4) (p2 : nm (A0 16) (A0 17) (F0 18)) (p3 : (12 - F0 21) + (30 - F0 20) < (gk : Int) + 1) (pT : TP tx (F0 7) (A0 3)) (p4 : F0 6 = 0) (p6 : XP tx gs (F0 8) (F0 9) (F0 10) (F0 11) (F0 12) (F0 13) (F0 14) (F0 18) (F0 20) (F0 21) (F0 23) (A0 15) (A0 16) (A0 17) (A0 19) (A0 22)) (p7 : F0 9 = 3 ∧ F0 11 = 92) : am_Mt ((2 * gk + 5) + 1) 181 [.inr (.inr (some 81))] h0 (rf_V h0 (fun F' A' => fr1 [8, 10, 9, 14, 11, 12, 13, 6, 5, 23, 20, 21] F0 F' ∧ fr2 [22, 19] A0 A' ∧ ((F0 8 ≤ F' 8 ∧ F' 8 ≤ F0 7 ∧ F0 20 ≤ F' 20 ∧ F' 20 ≤ 30 ∧ F' 21 = F0 21 ∧ F0 23 ≤ F' 23 ∧ F' 23 ≤ 1000000 ∧ (F' 9 = 2 → 0 ≤ F' 11 ∧ F' 11 ≤ 9) ∧ 0 ≤ F' 9 ∧ F' 9 ≤ 4) ∧ (F' 6 = 0 → F' 20 = F0 20 ∧ F0 6 = 0 ∧ (F' 9 = 0 ∨ F0 8 < F' 8) ∧ F' 5 = F0 5) ∧ imp (F' 6 = 0) (F' 23 ≤ 124 → rd1 (A' 22) (A0 22) (F0 23) (F' 23) (F0 20)) ∧ (F' 6 = 0 → F' 9 ≠ 1 ∧ F' 9 ≠ 2 ∧ (F' 9 = 3 → F' 11 ≠ 40)) ∧ XT tx gs (F' 5) (F' 6) (F' 8) (F' 9) (F' 10) (F' 11) (F' 12) (F' 13) (F' 14) (F' 18) (F' 20) (F' 21) (F' 23) (A' 15) (A' 16) (A' 17) (A' 19) (A' 22)))) := by
  refine am_Mt.of (D := (2 * gk + 5)) ?_
  have hI : rf_I h0 h0 F0 A0 := rf_I.start hR
  have hp20 := p6.2.2.2.1
  refine k_aload 1 rfl rfl rfl ?_
  refine k_rv hI rfl (m_goes  hI.1 (show 0 ≤ (F0 8) ∧ (F0 8) ≤ (F0 7) ∧ (F0 7) ≤ 700 by omega) (show TP tx ((F0 7)) ((A0 3)) from pT)) (Nat.ble_eq_true_of_le (by omega)) rfl rfl hI.rc ?_
  rintro h263 F264 A265 I266 ⟨k268, k269, pq267⟩
  replace pq267 : ((F0 8) ≤ F264 8 ∧ F264 8 ≤ (F0 7)) ∧ (F264 9 = 0 ∨ (F0 8) < F264 8) ∧ (F264 9 = 2 → 0 ≤ F264 11 ∧ F264 11 ≤ 9) ∧ (0 ≤ F264 9 ∧ F264 9 ≤ 4) ∧ TKv tx ((F0 8)) (F264 8) (F264 9) (F264 10) (F264 11) (F264 12) (F264 13) (F264 14) := pq267
  obtain ⟨pq267a, pq267b, pq267c, pq267d, pq267e⟩ := pq267
  have k269 := fr2.nil k269
  subst k269
  show am_Ok _ _ _ (4, _, [], _, 0, 0) _
  refine k_push 5 rfl rfl ?_
  have hc270 : (0 : Int32).toInt = 0 := by decide
  refine k_istore 6 rfl rfl ?_
  have e271 : F264 20 = F0 20 := k268 20 (by decide)
  have e272 : F264 21 = F0 21 := k268 21 (by decide)
  have e273 : F264 23 = F0 23 := k268 23 (by decide)
  have e274 : F264 6 = F0 6 := k268 6 (by decide)
  have e275 : F264 18 = F0 18 := k268 18 (by decide)
  have e276 : F264 5 = F0 5 := k268 5 (by decide)
  exact b_X10_readsFunction_6 (gk := gk) (tx := tx) (gs := gs)  hrec p1 p2 p3 pT p4 p6 p7 _ (gz := m_2 tx gs) rfl (gs_ne rfl rfl rfl) gs_eq I266 (fr1.tr (by decide) fr1.rf k268) fr2.rf (show F0 8 ≤ (F264 8) ∧ (F264 8) ≤ F0 7 ∧ (F264 20) = F0 20 + (0 : Int32).toInt ∧ 0 ≤ (0 : Int32).toInt ∧ (F264 20) ≤ 30 ∧ (F264 21) = F0 21 ∧ F0 23 ≤ (F264 23) ∧ (F264 23) ≤ 1000000 ∧ ((F264 9) = 2 → 0 ≤ (F264 11) ∧ (F264 11) ≤ 9) ∧ 0 ≤ (F264 9) ∧ (F264 9) ≤ 4 ∧ (F264 6) = 0 by (repeat' apply And.intro) <;> omega) (fun z => fu_cg fu_0 (show F264 23 = F0 23 by omega) (by decide)) (show XL tx gs ((m_2 tx gs)) ((F264 8)) ((F264 9)) ((F264 10)) ((F264 11)) ((F264 12)) ((F264 13)) ((F264 14)) ((F264 18)) ((F264 20)) ((F264 21)) ((F264 23)) ((A0 15)) ((A0 16)) ((A0 17)) ((A0 19)) ((A0 22)) from rf_b p6 p7 pq267e (by omega) (by omega) (by omega) (by omega) (show A0 15 = A0 15 from rfl) (show A0 16 = A0 16 from rfl) (show A0 17 = A0 17 from rfl) (show A0 19 = A0 19 from rfl) (show A0 22 = A0 22 from rfl)) (fun z => absurd z (by show ¬ ((2 : Nat) = 3); decide)) (show (F264 5) = F0 5 by omega)
end
