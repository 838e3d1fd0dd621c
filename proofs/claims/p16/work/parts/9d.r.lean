section
set_option maxHeartbeats 4000000 in
theorem m_readsAtom {h0 : am_h} {F0 : rf_f} {A0 : rf_A} {gk : Nat} {tx : List Int} {gs : mS} (hR : rf_R h0 F0 A0) (hrec : ∀ {tx : List Int} {gs : mS} {h0 : am_h} {F0 : rf_f} {A0 : rf_A}, rf_R h0 F0 A0 → (0 ≤ F0 8 ∧ F0 8 ≤ F0 7 ∧ F0 7 ≤ 700 ∧ 0 ≤ F0 20 ∧ F0 20 ≤ 30 ∧ 0 ≤ F0 21 ∧ F0 21 ≤ 12 ∧ 0 ≤ F0 18 ∧ F0 18 ≤ 12 ∧ 0 ≤ F0 23 ∧ F0 23 ≤ 1000000 ∧ (F0 9 = 2 → 0 ≤ F0 11 ∧ F0 11 ≤ 9) ∧ 0 ≤ F0 9 ∧ F0 9 ≤ 4) → (nm (A0 16) (A0 17) (F0 18)) → ((12 - F0 21) + (30 - F0 20) < (gk : Int)) → (TP tx (F0 7) (A0 3)) → (imp (F0 6 = 0) (XP tx gs (F0 8) (F0 9) (F0 10) (F0 11) (F0 12) (F0 13) (F0 14) (F0 18) (F0 20) (F0 21) (F0 23) (A0 15) (A0 16) (A0 17) (A0 19) (A0 22))) → am_Mt (2 * gk + 5) 182 [.inr (.inr (some 81))] h0 (rf_V h0 (fun F' A' => fr1 [8, 10, 9, 14, 11, 12, 13, 6, 5, 23, 20, 21] F0 F' ∧ fr2 [22, 19] A0 A' ∧ ((F0 8 ≤ F' 8 ∧ F' 8 ≤ F0 7 ∧ F0 20 ≤ F' 20 ∧ F' 20 ≤ 30 ∧ F' 21 = F0 21 ∧ F0 23 ≤ F' 23 ∧ F' 23 ≤ 1000000 ∧ (F' 9 = 2 → 0 ≤ F' 11 ∧ F' 11 ≤ 9) ∧ 0 ≤ F' 9 ∧ F' 9 ≤ 4) ∧ (F' 6 = 0 → F' 20 = F0 20 ∧ F0 6 = 0 ∧ (F' 9 = 0 ∨ F0 8 < F' 8) ∧ F' 5 = F0 5) ∧ imp (F' 6 = 0) (F' 23 ≤ 124 → rd1 (A' 22) (A0 22) (F0 23) (F' 23) (F0 20)) ∧ (F' 6 = 0 → F' 9 ≠ 1 ∧ F' 9 ≠ 2 ∧ (F' 9 = 3 → F' 11 ≠ 40)) ∧ (F0 6 ≠ 0 → F' 6 = F0 6 ∧ F' 5 = F0 5) ∧ imp (F0 6 = 0) (XT tx gs (F' 5) (F' 6) (F' 8) (F' 9) (F' 10) (F' 11) (F' 12) (F' 13) (F' 14) (F' 18) (F' 20) (F' 21) (F' 23) (A' 15) (A' 16) (A' 17) (A' 19) (A' 22)))))) (p1 : 0 ≤ F0 8 ∧ F0 8 ≤ F0 7 ∧ F0 7 ≤ 700 ∧ 0 ≤ F0 20 ∧ F0 20 ≤ 30 ∧ 0 ≤ F0 21 ∧ F0 21 ≤ 12 ∧ 0 ≤ F0 18 ∧ F0 18 ≤ 12 ∧ 0 ≤ F0 23 ∧ F0 23 ≤ 1000000 ∧ (F0 9 = 2 → 0 ≤ F0 11 ∧ F0 11 ≤ 9) ∧ 0 ≤ F0 9 ∧ F0 9 ≤ 4) (p2 : nm (A0 16) (A0 17) (F0 18)) (p3 : (12 - F0 21) + (30 - F0 20) < (gk : Int) + 1) (pT : TP tx (F0 7) (A0 3)) (p5 : F0 6 = 0) (p6 : TKv tx (m_e gs) (F0 8) (F0 9) (F0 10) (F0 11) (F0 12) (F0 13) (F0 14)) (p7 : RS gs (m_B gs) (F0 18) (F0 20) (F0 21) (F0 23) (A0 15) (A0 16) (A0 17) (A0 19) (A0 22)) (p9 : F0 20 = ((m_ar gs).length : Int)) (pc : m_at gs ≠ 0 → m_ch gs ≤ (m_c gs).length) (ps : (m_st gs = 4 ∧ (F0 9 = 1 ∨ F0 9 = 2 ∨ (F0 9 = 3 ∧ F0 11 = 40))) ∨ ((m_st gs = 1 ∨ (m_st gs = 0 ∧ ¬ (tO tx (m_e gs) = 97 ∧ tO tx (tE tx (m_e gs)) = 61))) ∧ (F0 9 = 3 → F0 11 ≠ 92))) : am_Mt ((2 * gk + 5) + 1) 180 [.inr (.inr (some 81))] h0 (rf_V h0 (fun F' A' => fr1 [8, 10, 9, 14, 11, 12, 13, 6, 5, 23, 20, 21] F0 F' ∧ fr2 [22, 19] A0 A' ∧ ((F0 8 ≤ F' 8 ∧ F' 8 ≤ F0 7 ∧ F0 20 ≤ F' 20 ∧ F' 20 ≤ 30 ∧ F' 21 = F0 21 ∧ F0 23 ≤ F' 23 ∧ F' 23 ≤ 1000000 ∧ (F' 9 = 2 → 0 ≤ F' 11 ∧ F' 11 ≤ 9) ∧ 0 ≤ F' 9 ∧ F' 9 ≤ 4) ∧ (F' 6 = 0 → F' 20 = F0 20 ∧ F0 6 = 0 ∧ (F' 9 = 0 ∨ F0 8 < F' 8) ∧ F' 5 = F0 5) ∧ imp (F' 6 = 0) (F' 23 ≤ 124 → rd1 (A' 22) (A0 22) (F0 23) (F' 23) (F0 20)) ∧ XA tx gs (F' 5) (F' 6) (F' 8) (F' 9) (F' 10) (F' 11) (F' 12) (F' 13) (F' 14) (F' 18) (F' 20) (F' 21) (F' 23) (A' 15) (A' 16) (A' 17) (A' 19) (A' 22)))) := by
  refine am_Mt.of (D := (2 * gk + 5)) ?_
  have hI : rf_I h0 h0 F0 A0 := rf_I.start hR
  have hb6 := p6.b
  have p8 : sA tx gs := by unfold sA; omega
  refine k_aload 1 rfl rfl rfl ?_
  refine k_aload 2 rfl rfl rfl ?_
  refine k_rq hI rfl (m_isAtom  hI.1 ) (Nat.ble_eq_true_of_le (by omega)) rfl rfl hI.rc ?_
  rintro x1 h2 F3 A4 I5 ⟨k7, k8, pq6⟩
  replace pq6 : (x1.toInt = 1 ∧ (F0 6) = 0 ∧ ((F0 9) = 1 ∨ (F0 9) = 2 ∨ ((F0 9) = 3 ∧ (F0 11) = 40))) ∨ (x1.toInt = 0 ∧ ¬ ((F0 6) = 0 ∧ ((F0 9) = 1 ∨ (F0 9) = 2 ∨ ((F0 9) = 3 ∧ (F0 11) = 40)))) := pq6
  have k7 := fr1.nil k7
  subst k7
  have k8 := fr2.nil k8
  subst k8
  have z9 := iv_01 (x := x1) (by omega)
  show am_Ok _ _ _ (5, _, [.inl x1, .inr (.inr (some 81))], _, 0, 0) _
  refine k_push 6 rfl rfl ?_
  have hc10 : (1 : Int32).toInt = 1 := by decide
  refine k_rq I5 rfl (m_check  I5.1 (show (1 : Int32).toInt ≠ 0 by omega)) (Nat.ble_eq_true_of_le (by omega)) rfl rfl I5.rc ?_
  rintro x11 h12 F13 A14 I15 ⟨k17, k18, pq16⟩
  replace pq16 : ((x11.toInt = 1 ∧ (F0 6) = 0 ∧ x1.toInt ≠ 0 ∧ F13 6 = 0 ∧ F13 5 = (F0 5)) ∨ (x11.toInt = 0 ∧ F13 6 ≠ 0 ∧ (((F0 6) = 0 ∧ x1.toInt = 0 ∧ F13 6 = (1 : Int32).toInt ∧ F13 5 = (F0 10)) ∨ ((F0 6) ≠ 0 ∧ F13 6 = (F0 6) ∧ F13 5 = (F0 5))))) := pq16
  have k18 := fr2.nil k18
  subst k18
  have z19 := iv_01 (x := x11) (by omega)
  show am_Ok _ _ _ (9, _, [.inl x11], _, 0, 0) _
  by_cases b20 : x11 = 0
  · refine k_c1 12 rfl rfl (if_pos b20) ?_
    have b20 := iv_eq0.mp b20
    have e21 : F13 8 = F0 8 := k17 8 (by decide)
    have e22 : F13 20 = F0 20 := k17 20 (by decide)
    have e23 : F13 21 = F0 21 := k17 21 (by decide)
    have e24 : F13 23 = F0 23 := k17 23 (by decide)
    have e25 : F13 9 = F0 9 := k17 9 (by decide)
    have e26 : F13 11 = F0 11 := k17 11 (by decide)
    have e27 : F13 10 = F0 10 := k17 10 (by decide)
    have e28 : F13 12 = F0 12 := k17 12 (by decide)
    have e29 : F13 13 = F0 13 := k17 13 (by decide)
    have e30 : F13 14 = F0 14 := k17 14 (by decide)
    have e31 : F13 18 = F0 18 := k17 18 (by decide)
    exact k_fin rfl rfl ⟨_, _, _, rfl, I15, (fr1.tr (by decide) fr1.rf k17), fr2.rf, ⟨(show (F0 8 ≤ F13 8 ∧ F13 8 ≤ F0 7 ∧ F0 20 ≤ F13 20 ∧ F13 20 ≤ 30 ∧ F13 21 = F0 21 ∧ F0 23 ≤ F13 23 ∧ F13 23 ≤ 1000000 ∧ (F13 9 = 2 → 0 ≤ F13 11 ∧ F13 11 ≤ 9) ∧ 0 ≤ F13 9 ∧ F13 9 ≤ 4) by omega), (show (F13 6 = 0 → F13 20 = F0 20 ∧ F0 6 = 0 ∧ (F13 9 = 0 ∨ F0 8 < F13 8) ∧ F13 5 = F0 5) by omega), (fun z => absurd (show F13 6 = 0 from z) (by omega)), (show XA tx gs (F13 5) (F13 6) (F13 8) (F13 9) (F13 10) (F13 11) (F13 12) (F13 13) (F13 14) (F13 18) (F13 20) (F13 21) (F13 23) ((A0 15)) ((A0 16)) ((A0 17)) ((A0 19)) ((A0 22)) from XA.bad (by omega) (raa_1 p6 (by omega) (by omega) (by omega) (by omega)))⟩⟩
  · refine k_c1 13 rfl rfl (if_neg b20) ?_
    have b20 := mt iv_eq0.mpr b20
    obtain ⟨hk1, hk2, hk3⟩ : F13 6 = 0 ∧ F13 5 = F0 5 ∧ (F0 9 = 1 ∨ F0 9 = 2 ∨ (F0 9 = 3 ∧ F0 11 = 40)) := by omega
    clear pq16 pq6 ps
    refine k_aload 14 rfl rfl rfl ?_
    refine r_gI I15 17 rfl rfl rfl (fun x32 (e33 : x32.toInt = F13 9) => ?_)
    have e34 : F13 9 = F0 9 := k17 9 (by decide)
    refine k_push 18 rfl rfl ?_
    by_cases b35 : x32 = (1 : Int32)
    · refine k_c2 21 rfl rfl (if_pos b35) ?_
      have b35 := iv_eq.mp b35
      refine k_aload 22 rfl rfl rfl ?_
      have e36 : F13 8 = F0 8 := k17 8 (by decide)
      have e37 : F13 7 = F0 7 := k17 7 (by decide)
      have e38 : F13 20 = F0 20 := k17 20 (by decide)
      have e39 : F13 21 = F0 21 := k17 21 (by decide)
      have e40 : F13 18 = F0 18 := k17 18 (by decide)
      have e41 : F13 23 = F0 23 := k17 23 (by decide)
      have e42 : F13 11 = F0 11 := k17 11 (by decide)
      have e43 : F13 10 = F0 10 := k17 10 (by decide)
      have e44 : F13 12 = F0 12 := k17 12 (by decide)
      have e45 : F13 13 = F0 13 := k17 13 (by decide)
      have e46 : F13 14 = F0 14 := k17 14 (by decide)
      refine k_rv I15 rfl (m_readsName  I15.1 (show 0 ≤ (F13 8) ∧ (F13 8) ≤ (F13 7) ∧ (F13 7) ≤ 700 ∧ 0 ≤ (F13 20) ∧ (F13 20) ≤ 30 ∧ 0 ≤ (F13 21) ∧ (F13 21) ≤ 12 ∧ 0 ≤ (F13 18) ∧ (F13 18) ≤ 12 ∧ 0 ≤ (F13 23) ∧ (F13 23) ≤ 1000000 ∧ ((F13 9) = 2 → 0 ≤ (F13 11) ∧ (F13 11) ≤ 9) ∧ 0 ≤ (F13 9) ∧ (F13 9) ≤ 4 by omega) (show nm ((A0 16)) ((A0 17)) ((F13 18)) by rw [(show A0 16 = A0 16 from rfl), (show A0 17 = A0 17 from rfl), (k17 18 (by decide))]; exact p2) (show (F13 9) = 1 by omega) (show TP tx ((F13 7)) ((A0 3)) by rw [(k17 7 (by decide)), (show A0 3 = A0 3 from rfl)]; exact pT) (show (F13 6) = 0 by omega) (show TKv tx (m_e gs) ((F13 8)) ((F13 9)) ((F13 10)) ((F13 11)) ((F13 12)) ((F13 13)) ((F13 14)) from p6.cg rfl (by omega) (by omega) (by omega) (by omega) (by omega) (by omega) (by omega)) (show RS gs (m_B gs) ((F13 18)) ((F13 20)) ((F13 21)) ((F13 23)) ((A0 15)) ((A0 16)) ((A0 17)) ((A0 19)) ((A0 22)) from p7.cg (by omega) (by omega) (by omega) (by omega) (show A0 15 = A0 15 from rfl) (show A0 16 = A0 16 from rfl) (show A0 17 = A0 17 from rfl) (show A0 19 = A0 19 from rfl) (show A0 22 = A0 22 from rfl)) (show sA tx gs from p8) (show (F13 20) = ((m_ar gs).length : Int) by omega)) (Nat.ble_eq_true_of_le (by omega)) rfl rfl I15.rc ?_
      rintro h48 F49 A50 I51 ⟨k53, k54, pq52⟩
      replace pq52 : ((F13 8) ≤ F49 8 ∧ F49 8 ≤ (F13 7) ∧ (F13 20) ≤ F49 20 ∧ F49 20 ≤ 30 ∧ F49 21 = (F13 21) ∧ (F13 23) ≤ F49 23 ∧ F49 23 ≤ 1000000 ∧ (F49 9 = 2 → 0 ≤ F49 11 ∧ F49 11 ≤ 9) ∧ 0 ≤ F49 9 ∧ F49 9 ≤ 4) ∧ (F49 6 = 0 → F49 20 = (F13 20) ∧ (F13 6) = 0 ∧ (F49 9 = 0 ∨ (F13 8) < F49 8) ∧ F49 5 = (F13 5)) ∧ imp (F49 6 = 0) (F49 23 ≤ 124 → rd1 (A50 22) ((A0 22)) ((F13 23)) (F49 23) ((F13 20))) ∧ PN tx gs (F49 5) (F49 6) (F49 8) (F49 9) (F49 10) (F49 11) (F49 12) (F49 13) (F49 14) (F49 18) (F49 20) (F49 21) (F49 23) (A50 15) (A50 16) (A50 17) (A50 19) (A50 22) := pq52
      obtain ⟨pq52a, pq52b, pq52c, pq52d⟩ := pq52
      show am_Ok _ _ _ (25, _, [], _, 0, 0) _
      refine k_goto 100 rfl rfl ?_
      have e55 : F49 20 = F13 20 := k53 20 (by decide)
      have e56 : F49 21 = F13 21 := k53 21 (by decide)
      have e57 : F49 18 = F13 18 := k53 18 (by decide)
      exact k_fin rfl rfl ⟨_, _, _, rfl, I51, (fr1.tr (by decide) (fr1.tr (by decide) fr1.rf k17) k53), (fr2.tr (by decide) fr2.rf k54), ⟨(show (F0 8 ≤ F49 8 ∧ F49 8 ≤ F0 7 ∧ F0 20 ≤ F49 20 ∧ F49 20 ≤ 30 ∧ F49 21 = F0 21 ∧ F0 23 ≤ F49 23 ∧ F49 23 ≤ 1000000 ∧ (F49 9 = 2 → 0 ≤ F49 11 ∧ F49 11 ≤ 9) ∧ 0 ≤ F49 9 ∧ F49 9 ≤ 4) by omega), (show (F49 6 = 0 → F49 20 = F0 20 ∧ F0 6 = 0 ∧ (F49 9 = 0 ∨ F0 8 < F49 8) ∧ F49 5 = F0 5) by omega), (fun z1 z2 => by have z8 : F49 6 = 0 := z1; have z9 : F49 23 ≤ 124 := z2; exact rd_cg (pq52c z8 z9) (by omega) rfl (by omega)), (show XA tx gs (F49 5) (F49 6) (F49 8) (F49 9) (F49 10) (F49 11) (F49 12) (F49 13) (F49 14) (F49 18) (F49 20) (F49 21) (F49 23) ((A50 15)) ((A50 16)) ((A50 17)) ((A50 19)) ((A50 22)) from ra_n pq52d pc)⟩⟩
    · refine k_c2 28 rfl rfl (if_neg b35) ?_
      have b35 := mt iv_eq.mpr b35
      refine k_aload 29 rfl rfl rfl ?_
      refine r_gI I15 32 rfl rfl rfl (fun x58 (e59 : x58.toInt = F13 9) => ?_)
      refine k_push 33 rfl rfl ?_
      have hc60 : (2 : Int32).toInt = 2 := by decide
      by_cases b61 : x58 = (2 : Int32)
      · refine k_c2 36 rfl rfl (if_pos b61) ?_
        have b61 := iv_eq.mp b61
        refine k_aload 37 rfl rfl rfl ?_
        have e62 : F13 8 = F0 8 := k17 8 (by decide)
        have e63 : F13 7 = F0 7 := k17 7 (by decide)
        have e64 : F13 20 = F0 20 := k17 20 (by decide)
        have e65 : F13 21 = F0 21 := k17 21 (by decide)
        have e66 : F13 18 = F0 18 := k17 18 (by decide)
        have e67 : F13 23 = F0 23 := k17 23 (by decide)
        have e68 : F13 11 = F0 11 := k17 11 (by decide)
        have e69 : F13 10 = F0 10 := k17 10 (by decide)
        have e70 : F13 12 = F0 12 := k17 12 (by decide)
        have e71 : F13 13 = F0 13 := k17 13 (by decide)
        have e72 : F13 14 = F0 14 := k17 14 (by decide)
        refine k_rv I15 rfl (m_readsNumber  I15.1 (show 0 ≤ (F13 8) ∧ (F13 8) ≤ (F13 7) ∧ (F13 7) ≤ 700 ∧ 0 ≤ (F13 20) ∧ (F13 20) ≤ 30 ∧ 0 ≤ (F13 21) ∧ (F13 21) ≤ 12 ∧ 0 ≤ (F13 18) ∧ (F13 18) ≤ 12 ∧ 0 ≤ (F13 23) ∧ (F13 23) ≤ 1000000 ∧ ((F13 9) = 2 → 0 ≤ (F13 11) ∧ (F13 11) ≤ 9) ∧ 0 ≤ (F13 9) ∧ (F13 9) ≤ 4 by omega) (show nm ((A0 16)) ((A0 17)) ((F13 18)) by rw [(show A0 16 = A0 16 from rfl), (show A0 17 = A0 17 from rfl), (k17 18 (by decide))]; exact p2) (show (F13 9) = 2 by omega) (show TP tx ((F13 7)) ((A0 3)) by rw [(k17 7 (by decide)), (show A0 3 = A0 3 from rfl)]; exact pT) (show (F13 6) = 0 by omega) (show TKv tx (m_e gs) ((F13 8)) ((F13 9)) ((F13 10)) ((F13 11)) ((F13 12)) ((F13 13)) ((F13 14)) from p6.cg rfl (by omega) (by omega) (by omega) (by omega) (by omega) (by omega) (by omega)) (show RS gs (m_B gs) ((F13 18)) ((F13 20)) ((F13 21)) ((F13 23)) ((A0 15)) ((A0 16)) ((A0 17)) ((A0 19)) ((A0 22)) from p7.cg (by omega) (by omega) (by omega) (by omega) (show A0 15 = A0 15 from rfl) (show A0 16 = A0 16 from rfl) (show A0 17 = A0 17 from rfl) (show A0 19 = A0 19 from rfl) (show A0 22 = A0 22 from rfl)) (show sA tx gs from p8) (show (F13 20) = ((m_ar gs).length : Int) by omega)) (Nat.ble_eq_true_of_le (by omega)) rfl rfl I15.rc ?_
        rintro h74 F75 A76 I77 ⟨k79, k80, pq78⟩
        replace pq78 : ((F13 8) ≤ F75 8 ∧ F75 8 ≤ (F13 7) ∧ (F13 20) ≤ F75 20 ∧ F75 20 ≤ 30 ∧ F75 21 = (F13 21) ∧ (F13 23) ≤ F75 23 ∧ F75 23 ≤ 1000000 ∧ (F75 9 = 2 → 0 ≤ F75 11 ∧ F75 11 ≤ 9) ∧ 0 ≤ F75 9 ∧ F75 9 ≤ 4) ∧ (F75 6 = 0 → F75 20 = (F13 20) ∧ (F13 6) = 0 ∧ (F75 9 = 0 ∨ (F13 8) < F75 8) ∧ F75 5 = (F13 5)) ∧ imp (F75 6 = 0) (F75 23 ≤ 124 → rd1 (A76 22) ((A0 22)) ((F13 23)) (F75 23) ((F13 20))) ∧ PN tx gs (F75 5) (F75 6) (F75 8) (F75 9) (F75 10) (F75 11) (F75 12) (F75 13) (F75 14) (F75 18) (F75 20) (F75 21) (F75 23) (A76 15) (A76 16) (A76 17) (A76 19) (A76 22) := pq78
        obtain ⟨pq78a, pq78b, pq78c, pq78d⟩ := pq78
        show am_Ok _ _ _ (40, _, [], _, 0, 0) _
        refine k_goto 100 rfl rfl ?_
        have e81 : F75 20 = F13 20 := k79 20 (by decide)
        have e82 : F75 21 = F13 21 := k79 21 (by decide)
        have e83 : F75 18 = F13 18 := k79 18 (by decide)
        exact k_fin rfl rfl ⟨_, _, _, rfl, I77, (fr1.tr (by decide) (fr1.tr (by decide) fr1.rf k17) k79), (fr2.tr (by decide) fr2.rf k80), ⟨(show (F0 8 ≤ F75 8 ∧ F75 8 ≤ F0 7 ∧ F0 20 ≤ F75 20 ∧ F75 20 ≤ 30 ∧ F75 21 = F0 21 ∧ F0 23 ≤ F75 23 ∧ F75 23 ≤ 1000000 ∧ (F75 9 = 2 → 0 ≤ F75 11 ∧ F75 11 ≤ 9) ∧ 0 ≤ F75 9 ∧ F75 9 ≤ 4) by omega), (show (F75 6 = 0 → F75 20 = F0 20 ∧ F0 6 = 0 ∧ (F75 9 = 0 ∨ F0 8 < F75 8) ∧ F75 5 = F0 5) by omega), (fun z1 z2 => by have z8 : F75 6 = 0 := z1; have z9 : F75 23 ≤ 124 := z2; exact rd_cg (pq78c z8 z9) (by omega) rfl (by omega)), (show XA tx gs (F75 5) (F75 6) (F75 8) (F75 9) (F75 10) (F75 11) (F75 12) (F75 13) (F75 14) (F75 18) (F75 20) (F75 21) (F75 23) ((A76 15)) ((A76 16)) ((A76 17)) ((A76 19)) ((A76 22)) from ra_n pq78d pc)⟩⟩
      · refine k_c2 43 rfl rfl (if_neg b61) ?_
        have b61 := mt iv_eq.mpr b61
        have hk4 : F0 9 = 3 ∧ F0 11 = 40 := by omega
        clear hk3
        refine k_aload 44 rfl rfl rfl ?_
        refine k_aload 45 rfl rfl rfl ?_
        refine r_gI I15 48 rfl rfl rfl (fun x84 (e85 : x84.toInt = F13 21) => ?_)
        have e86 : F13 21 = F0 21 := k17 21 (by decide)
        refine k_push 50 rfl rfl ?_
        have hc87 : (12 : Int32).toInt = 12 := by decide
        by_cases b88 : (12 : Int32) ≤ x84
        · refine k_c2 57 rfl rfl (if_pos b88) ?_
          have b88 := iv_le.mp b88
          refine k_push 58 rfl rfl ?_
          have hc89 : (0 : Int32).toInt = 0 := by decide
          refine k_push 59 rfl rfl ?_
          refine k_rq I15 rfl (m_check  I15.1 (show (2 : Int32).toInt ≠ 0 by omega)) (Nat.ble_eq_true_of_le (by omega)) rfl rfl I15.rc ?_
          rintro x90 h91 F92 A93 I94 ⟨k96, k97, pq95⟩
          have e98 : F13 10 = F0 10 := k17 10 (by decide)
          replace pq95 : ((x90.toInt = 1 ∧ (F13 6) = 0 ∧ (0 : Int32).toInt ≠ 0 ∧ F92 6 = 0 ∧ F92 5 = (F13 5)) ∨ (x90.toInt = 0 ∧ F92 6 ≠ 0 ∧ (((F13 6) = 0 ∧ (0 : Int32).toInt = 0 ∧ F92 6 = (2 : Int32).toInt ∧ F92 5 = (F13 10)) ∨ ((F13 6) ≠ 0 ∧ F92 6 = (F13 6) ∧ F92 5 = (F13 5))))) := pq95
          have k97 := fr2.nil k97
          subst k97
          have z99 := iv_01 (x := x90) (by omega)
          show am_Ok _ _ _ (62, _, [.inl x90], _, 0, 0) _
          by_cases b100 : x90 = 0
          · refine k_c1 65 rfl rfl (if_pos b100) ?_
            have b100 := iv_eq0.mp b100
            have e101 : F92 8 = F13 8 := k96 8 (by decide)
            have e102 : F13 8 = F0 8 := k17 8 (by decide)
            have e103 : F92 20 = F13 20 := k96 20 (by decide)
            have e104 : F13 20 = F0 20 := k17 20 (by decide)
            have e105 : F92 21 = F13 21 := k96 21 (by decide)
            have e106 : F92 23 = F13 23 := k96 23 (by decide)
            have e107 : F13 23 = F0 23 := k17 23 (by decide)
            have e108 : F92 9 = F13 9 := k96 9 (by decide)
            have e109 : F92 11 = F13 11 := k96 11 (by decide)
            have e110 : F13 11 = F0 11 := k17 11 (by decide)
            have e111 : F92 10 = F13 10 := k96 10 (by decide)
            have e112 : F92 12 = F13 12 := k96 12 (by decide)
            have e113 : F13 12 = F0 12 := k17 12 (by decide)
            have e114 : F92 13 = F13 13 := k96 13 (by decide)
            have e115 : F13 13 = F0 13 := k17 13 (by decide)
            have e116 : F92 14 = F13 14 := k96 14 (by decide)
            have e117 : F13 14 = F0 14 := k17 14 (by decide)
            have e118 : F92 18 = F13 18 := k96 18 (by decide)
            have e119 : F13 18 = F0 18 := k17 18 (by decide)
            exact k_fin rfl rfl ⟨_, _, _, rfl, I94, (fr1.tr (by decide) (fr1.tr (by decide) fr1.rf k17) k96), fr2.rf, ⟨(show (F0 8 ≤ F92 8 ∧ F92 8 ≤ F0 7 ∧ F0 20 ≤ F92 20 ∧ F92 20 ≤ 30 ∧ F92 21 = F0 21 ∧ F0 23 ≤ F92 23 ∧ F92 23 ≤ 1000000 ∧ (F92 9 = 2 → 0 ≤ F92 11 ∧ F92 11 ≤ 9) ∧ 0 ≤ F92 9 ∧ F92 9 ≤ 4) by omega), (show (F92 6 = 0 → F92 20 = F0 20 ∧ F0 6 = 0 ∧ (F92 9 = 0 ∨ F0 8 < F92 8) ∧ F92 5 = F0 5) by omega), (fun z => absurd (show F92 6 = 0 from z) (by omega)), (show XA tx gs (F92 5) (F92 6) (F92 8) (F92 9) (F92 10) (F92 11) (F92 12) (F92 13) (F92 14) (F92 18) (F92 20) (F92 21) (F92 23) ((A0 15)) ((A0 16)) ((A0 17)) ((A0 19)) ((A0 22)) from XA.bad (by omega) (ra_2 p6 p8 (by omega) p7 (by omega) (by omega) (by omega)))⟩⟩
          · refine k_c1 66 rfl rfl (if_neg b100) ?_
            have b100 := mt iv_eq0.mpr b100
            obtain ⟨hk5, hk6, hk7⟩ : F92 6 = 0 ∧ F92 5 = F0 5 ∧ F0 21 < 12 := by omega
            clear pq95
            have hms := ra_o p6 p8 hk4 p7 hk7
            refine k_aload 67 rfl rfl rfl ?_
            refine k_dup 68 rfl rfl rfl ?_
            refine r_gI I94 71 rfl rfl rfl (fun x120 (e121 : x120.toInt = F92 21) => ?_)
            have e122 : F92 21 = F13 21 := k96 21 (by decide)
            refine k_push 72 rfl rfl ?_
            obtain ⟨x123, q124⟩ : ∃ q : Int32, q = (x120 + (1 : Int32)) := ⟨_, rfl⟩
            have e125 : x123.toInt = x120.toInt + 1 := by rw [q124, iv_add (by omega) (by omega)]; omega
            refine k_bin x123 73 rfl q124.symm rfl ?_
            refine r_pI I94 76 rfl rfl rfl (fun h126 I127 => ?_)
            refine k_aload 77 rfl rfl rfl ?_
            have e128 : F92 8 = F13 8 := k96 8 (by decide)
            have e129 : F13 8 = F0 8 := k17 8 (by decide)
            have e130 : F92 7 = F13 7 := k96 7 (by decide)
            have e131 : F13 7 = F0 7 := k17 7 (by decide)
            refine k_rv I127 rfl (m_goes  I127.1 (show 0 ≤ (F92 8) ∧ (F92 8) ≤ (F92 7) ∧ (F92 7) ≤ 700 by omega) (show TP tx ((F92 7)) ((A0 3)) by rw [((k96 7 (by decide)).trans (k17 7 (by decide))), (show A0 3 = A0 3 from rfl)]; exact pT)) (Nat.ble_eq_true_of_le (by omega)) rfl rfl I127.rc ?_
            rintro h133 F134 A135 I136 ⟨k138, k139, pq137⟩
            replace pq137 : ((F92 8) ≤ F134 8 ∧ F134 8 ≤ (F92 7)) ∧ (F134 9 = 0 ∨ (F92 8) < F134 8) ∧ (F134 9 = 2 → 0 ≤ F134 11 ∧ F134 11 ≤ 9) ∧ (0 ≤ F134 9 ∧ F134 9 ≤ 4) ∧ TKv tx ((F92 8)) (F134 8) (F134 9) (F134 10) (F134 11) (F134 12) (F134 13) (F134 14) := pq137
            obtain ⟨pq137a, pq137b, pq137c, pq137d, pq137e⟩ := pq137
            have k139 := fr2.nil k139
            subst k139
            show am_Ok _ _ _ (80, _, [], _, 0, 0) _
            refine k_aload 81 rfl rfl rfl ?_
            have e140 : F134 7 = F92 7 := k138 7 (by decide)
            have e141 : F134 20 = F92 20 := k138 20 (by decide)
            have e142 : F92 20 = F13 20 := k96 20 (by decide)
            have e143 : F13 20 = F0 20 := k17 20 (by decide)
            have e144 : F134 21 = x123.toInt := k138 21 (by decide)
            have e145 : F134 18 = F92 18 := k138 18 (by decide)
            have e146 : F92 18 = F13 18 := k96 18 (by decide)
            have e147 : F13 18 = F0 18 := k17 18 (by decide)
            have e148 : F134 23 = F92 23 := k138 23 (by decide)
            have e149 : F92 23 = F13 23 := k96 23 (by decide)
            have e150 : F13 23 = F0 23 := k17 23 (by decide)
            have e151 : F134 6 = F92 6 := k138 6 (by decide)
            refine k_rv I136 rfl (hrec (gs := m_1 tx gs) I136.1 (show 0 ≤ (F134 8) ∧ (F134 8) ≤ (F134 7) ∧ (F134 7) ≤ 700 ∧ 0 ≤ (F134 20) ∧ (F134 20) ≤ 30 ∧ 0 ≤ (F134 21) ∧ (F134 21) ≤ 12 ∧ 0 ≤ (F134 18) ∧ (F134 18) ≤ 12 ∧ 0 ≤ (F134 23) ∧ (F134 23) ≤ 1000000 ∧ ((F134 9) = 2 → 0 ≤ (F134 11) ∧ (F134 11) ≤ 9) ∧ 0 ≤ (F134 9) ∧ (F134 9) ≤ 4 by omega) (show nm ((A0 16)) ((A0 17)) ((F134 18)) by rw [(show A0 16 = A0 16 from rfl), (show A0 17 = A0 17 from rfl), ((k138 18 (by decide)).trans ((k96 18 (by decide)).trans (k17 18 (by decide))))]; exact p2) (show (12 - (F134 21)) + (30 - (F134 20)) < (gk : Int) by omega) (show TP tx ((F134 7)) ((A0 3)) by rw [((k138 7 (by decide)).trans ((k96 7 (by decide)).trans (k17 7 (by decide)))), (show A0 3 = A0 3 from rfl)]; exact pT) (show imp ((F134 6) = 0) (XP tx (m_1 tx gs) ((F134 8)) ((F134 9)) ((F134 10)) ((F134 11)) ((F134 12)) ((F134 13)) ((F134 14)) ((F134 18)) ((F134 20)) ((F134 21)) ((F134 23)) ((A0 15)) ((A0 16)) ((A0 17)) ((A0 19)) ((A0 22))) from fun _ => ra_p p7 p9 hk7 (pq137e.cg (by omega) rfl rfl rfl rfl rfl rfl rfl) (by omega) (by omega) (by omega) (by omega) (show A0 15 = A0 15 from rfl) (show A0 16 = A0 16 from rfl) (show A0 17 = A0 17 from rfl) (show A0 19 = A0 19 from rfl) (show A0 22 = A0 22 from rfl))) (Nat.ble_eq_true_of_le (by omega)) rfl rfl I136.rc ?_
            rintro h153 F154 A155 I156 ⟨k158, k159, pq157⟩
            have e160 : F134 5 = F92 5 := k138 5 (by decide)
            replace pq157 : ((F134 8) ≤ F154 8 ∧ F154 8 ≤ (F134 7) ∧ (F134 20) ≤ F154 20 ∧ F154 20 ≤ 30 ∧ F154 21 = (F134 21) ∧ (F134 23) ≤ F154 23 ∧ F154 23 ≤ 1000000 ∧ (F154 9 = 2 → 0 ≤ F154 11 ∧ F154 11 ≤ 9) ∧ 0 ≤ F154 9 ∧ F154 9 ≤ 4) ∧ (F154 6 = 0 → F154 20 = (F134 20) ∧ (F134 6) = 0 ∧ (F154 9 = 0 ∨ (F134 8) < F154 8) ∧ F154 5 = (F134 5)) ∧ imp (F154 6 = 0) (F154 23 ≤ 124 → rd1 (A155 22) ((A0 22)) ((F134 23)) (F154 23) ((F134 20))) ∧ (F154 6 = 0 → F154 9 ≠ 1 ∧ F154 9 ≠ 2 ∧ (F154 9 = 3 → F154 11 ≠ 40)) ∧ ((F134 6) ≠ 0 → F154 6 = (F134 6) ∧ F154 5 = (F134 5)) ∧ imp ((F134 6) = 0) (XT tx (m_1 tx gs) (F154 5) (F154 6) (F154 8) (F154 9) (F154 10) (F154 11) (F154 12) (F154 13) (F154 14) (F154 18) (F154 20) (F154 21) (F154 23) (A155 15) (A155 16) (A155 17) (A155 19) (A155 22)) := pq157
            obtain ⟨pq157a, pq157b, pq157c, pq157d, pq157e, pq157f⟩ := pq157
            show am_Ok _ _ _ (84, _, [], _, 0, 0) _
            refine k_aload 85 rfl rfl rfl ?_
            refine k_push 87 rfl rfl ?_
            have hc161 : (41 : Int32).toInt = 41 := by decide
            have e162 : F154 7 = F134 7 := k158 7 (by decide)
            refine k_rv I156 rfl (m_must  I156.1 (show 0 ≤ (F154 8) ∧ (F154 8) ≤ (F154 7) ∧ (F154 7) ≤ 700 ∧ ((F154 9) = 2 → 0 ≤ (F154 11) ∧ (F154 11) ≤ 9) ∧ 0 ≤ (F154 9) ∧ (F154 9) ≤ 4 by omega) (show TP tx ((F154 7)) ((A155 3)) by rw [((k158 7 (by decide)).trans ((k138 7 (by decide)).trans ((k96 7 (by decide)).trans (k17 7 (by decide))))), (k159 3 (by decide))]; exact pT)) (Nat.ble_eq_true_of_le (by omega)) rfl rfl I156.rc ?_
            rintro h164 F165 A166 I167 ⟨k169, k170, pq168⟩
            replace pq168 : ((F154 8) ≤ F165 8 ∧ F165 8 ≤ (F154 7)) ∧ (F165 6 = 0 → (F154 6) = 0 ∧ (F165 9 = 0 ∨ (F154 8) < F165 8)) ∧ (F165 9 = 2 → 0 ≤ F165 11 ∧ F165 11 ≤ 9) ∧ (0 ≤ F165 9 ∧ F165 9 ≤ 4) ∧ (((F154 6) = 0 ∧ (F154 9) = 3 ∧ (F154 11) = (41 : Int32).toInt → F165 6 = 0 ∧ F165 5 = (F154 5)) ∧ (¬ ((F154 6) = 0 ∧ (F154 9) = 3 ∧ (F154 11) = (41 : Int32).toInt) → F165 6 ≠ 0 ∧ ((F154 6) = 0 → F165 6 = 1 ∧ F165 5 = (F154 10)) ∧ ((F154 6) ≠ 0 → F165 6 = (F154 6) ∧ F165 5 = (F154 5)))) ∧ imp (F165 6 = 0) (TKv tx ((F154 8)) (F165 8) (F165 9) (F165 10) (F165 11) (F165 12) (F165 13) (F165 14)) := pq168
            obtain ⟨pq168a, pq168b, pq168c, pq168d, pq168e, pq168f⟩ := pq168
            have k170 := fr2.nil k170
            subst k170
            show am_Ok _ _ _ (90, _, [], _, 0, 0) _
            have hm9 := pq168e
            rw [show (41 : Int32).toInt = 41 by decide] at hm9
            refine k_aload 91 rfl rfl rfl ?_
            refine k_dup 92 rfl rfl rfl ?_
            refine r_gI I167 95 rfl rfl rfl (fun x171 (e172 : x171.toInt = F165 21) => ?_)
            have e173 : F165 21 = F154 21 := k169 21 (by decide)
            refine k_push 96 rfl rfl ?_
            obtain ⟨x174, q175⟩ : ∃ q : Int32, q = (x171 - (1 : Int32)) := ⟨_, rfl⟩
            have e176 : x174.toInt = x171.toInt - 1 := by rw [q175, iv_sub (by omega) (by omega)]; omega
            refine k_bin x174 97 rfl q175.symm rfl ?_
            refine r_pI I167 100 rfl rfl rfl (fun h177 I178 => ?_)
            have e179 : F165 20 = F154 20 := k169 20 (by decide)
            have e180 : F165 23 = F154 23 := k169 23 (by decide)
            have e181 : F165 18 = F154 18 := k169 18 (by decide)
            have e182 : F154 18 = F134 18 := k158 18 (by decide)
            exact k_fin rfl rfl ⟨_, _, _, rfl, I178, (fr1.up (by decide) (fr1.tr (by decide) (fr1.tr (by decide) (fr1.tr (by decide) (fr1.up (by decide) (fr1.tr (by decide) (fr1.tr (by decide) fr1.rf k17) k96)) k138) k158) k169)), (fr2.tr (by decide) fr2.rf k159), ⟨(show (F0 8 ≤ F165 8 ∧ F165 8 ≤ F0 7 ∧ F0 20 ≤ F165 20 ∧ F165 20 ≤ 30 ∧ x174.toInt = F0 21 ∧ F0 23 ≤ F165 23 ∧ F165 23 ≤ 1000000 ∧ (F165 9 = 2 → 0 ≤ F165 11 ∧ F165 11 ≤ 9) ∧ 0 ≤ F165 9 ∧ F165 9 ≤ 4) by omega), (show (F165 6 = 0 → F165 20 = F0 20 ∧ F0 6 = 0 ∧ (F165 9 = 0 ∨ F0 8 < F165 8) ∧ F165 5 = F0 5) by omega), (fun z1 z2 => by have z8 : F165 6 = 0 := z1; have z9 : F165 23 ≤ 124 := z2; have h9 := pq157c (by omega) (by omega); show rd1 (A155 22) (A0 22) (F0 23) (F165 23) (F0 20); exact rd_cg h9 (by omega) (by omega) (by omega)), (show XA tx gs (F165 5) (F165 6) (F165 8) (F165 9) (F165 10) (F165 11) (F165 12) (F165 13) (F165 14) (F165 18) (F165 20) (x174.toInt) (F165 23) ((A155 15)) ((A155 16)) ((A155 17)) ((A155 19)) ((A155 22)) from ra_c hms (pq157f (by omega)) pc pq157d hm9.1 hm9.2 pq168f (by omega) (by omega) (by omega) (by omega) rfl rfl rfl rfl rfl)⟩⟩
        · refine k_c2 53 rfl rfl (if_neg b88) ?_
          have b88 := mt iv_le.mpr b88
          refine k_push 54 rfl rfl ?_
          refine k_goto 58 rfl rfl ?_
          refine k_push 59 rfl rfl ?_
          refine k_rq I15 rfl (m_check  I15.1 (show (2 : Int32).toInt ≠ 0 by omega)) (Nat.ble_eq_true_of_le (by omega)) rfl rfl I15.rc ?_
          rintro x183 h184 F185 A186 I187 ⟨k189, k190, pq188⟩
          have e191 : F13 10 = F0 10 := k17 10 (by decide)
          replace pq188 : ((x183.toInt = 1 ∧ (F13 6) = 0 ∧ (1 : Int32).toInt ≠ 0 ∧ F185 6 = 0 ∧ F185 5 = (F13 5)) ∨ (x183.toInt = 0 ∧ F185 6 ≠ 0 ∧ (((F13 6) = 0 ∧ (1 : Int32).toInt = 0 ∧ F185 6 = (2 : Int32).toInt ∧ F185 5 = (F13 10)) ∨ ((F13 6) ≠ 0 ∧ F185 6 = (F13 6) ∧ F185 5 = (F13 5))))) := pq188
          have k190 := fr2.nil k190
          subst k190
          have z192 := iv_01 (x := x183) (by omega)
          show am_Ok _ _ _ (62, _, [.inl x183], _, 0, 0) _
          by_cases b193 : x183 = 0
          · refine k_c1 65 rfl rfl (if_pos b193) ?_
            have b193 := iv_eq0.mp b193
            have e194 : F185 8 = F13 8 := k189 8 (by decide)
            have e195 : F13 8 = F0 8 := k17 8 (by decide)
            have e196 : F185 20 = F13 20 := k189 20 (by decide)
            have e197 : F13 20 = F0 20 := k17 20 (by decide)
            have e198 : F185 21 = F13 21 := k189 21 (by decide)
            have e199 : F185 23 = F13 23 := k189 23 (by decide)
            have e200 : F13 23 = F0 23 := k17 23 (by decide)
            have e201 : F185 9 = F13 9 := k189 9 (by decide)
            have e202 : F185 11 = F13 11 := k189 11 (by decide)
            have e203 : F13 11 = F0 11 := k17 11 (by decide)
            have e204 : F185 10 = F13 10 := k189 10 (by decide)
            have e205 : F185 12 = F13 12 := k189 12 (by decide)
            have e206 : F13 12 = F0 12 := k17 12 (by decide)
            have e207 : F185 13 = F13 13 := k189 13 (by decide)
            have e208 : F13 13 = F0 13 := k17 13 (by decide)
            have e209 : F185 14 = F13 14 := k189 14 (by decide)
            have e210 : F13 14 = F0 14 := k17 14 (by decide)
            have e211 : F185 18 = F13 18 := k189 18 (by decide)
            have e212 : F13 18 = F0 18 := k17 18 (by decide)
            exact k_fin rfl rfl ⟨_, _, _, rfl, I187, (fr1.tr (by decide) (fr1.tr (by decide) fr1.rf k17) k189), fr2.rf, ⟨(show (F0 8 ≤ F185 8 ∧ F185 8 ≤ F0 7 ∧ F0 20 ≤ F185 20 ∧ F185 20 ≤ 30 ∧ F185 21 = F0 21 ∧ F0 23 ≤ F185 23 ∧ F185 23 ≤ 1000000 ∧ (F185 9 = 2 → 0 ≤ F185 11 ∧ F185 11 ≤ 9) ∧ 0 ≤ F185 9 ∧ F185 9 ≤ 4) by omega), (show (F185 6 = 0 → F185 20 = F0 20 ∧ F0 6 = 0 ∧ (F185 9 = 0 ∨ F0 8 < F185 8) ∧ F185 5 = F0 5) by omega), (fun z => absurd (show F185 6 = 0 from z) (by omega)), (show XA tx gs (F185 5) (F185 6) (F185 8) (F185 9) (F185 10) (F185 11) (F185 12) (F185 13) (F185 14) (F185 18) (F185 20) (F185 21) (F185 23) ((A0 15)) ((A0 16)) ((A0 17)) ((A0 19)) ((A0 22)) from XA.bad (by omega) (ra_2 p6 p8 (by omega) p7 (by omega) (by omega) (by omega)))⟩⟩
          · refine k_c1 66 rfl rfl (if_neg b193) ?_
            have b193 := mt iv_eq0.mpr b193
            obtain ⟨hk5, hk6, hk7⟩ : F185 6 = 0 ∧ F185 5 = F0 5 ∧ F0 21 < 12 := by omega
            clear pq188
            have hms := ra_o p6 p8 hk4 p7 hk7
            refine k_aload 67 rfl rfl rfl ?_
            refine k_dup 68 rfl rfl rfl ?_
            refine r_gI I187 71 rfl rfl rfl (fun x213 (e214 : x213.toInt = F185 21) => ?_)
            have e215 : F185 21 = F13 21 := k189 21 (by decide)
            refine k_push 72 rfl rfl ?_
            obtain ⟨x216, q217⟩ : ∃ q : Int32, q = (x213 + (1 : Int32)) := ⟨_, rfl⟩
            have e218 : x216.toInt = x213.toInt + 1 := by rw [q217, iv_add (by omega) (by omega)]; omega
            refine k_bin x216 73 rfl q217.symm rfl ?_
            refine r_pI I187 76 rfl rfl rfl (fun h219 I220 => ?_)
            refine k_aload 77 rfl rfl rfl ?_
            have e221 : F185 8 = F13 8 := k189 8 (by decide)
            have e222 : F13 8 = F0 8 := k17 8 (by decide)
            have e223 : F185 7 = F13 7 := k189 7 (by decide)
            have e224 : F13 7 = F0 7 := k17 7 (by decide)
            refine k_rv I220 rfl (m_goes  I220.1 (show 0 ≤ (F185 8) ∧ (F185 8) ≤ (F185 7) ∧ (F185 7) ≤ 700 by omega) (show TP tx ((F185 7)) ((A0 3)) by rw [((k189 7 (by decide)).trans (k17 7 (by decide))), (show A0 3 = A0 3 from rfl)]; exact pT)) (Nat.ble_eq_true_of_le (by omega)) rfl rfl I220.rc ?_
            rintro h226 F227 A228 I229 ⟨k231, k232, pq230⟩
            replace pq230 : ((F185 8) ≤ F227 8 ∧ F227 8 ≤ (F185 7)) ∧ (F227 9 = 0 ∨ (F185 8) < F227 8) ∧ (F227 9 = 2 → 0 ≤ F227 11 ∧ F227 11 ≤ 9) ∧ (0 ≤ F227 9 ∧ F227 9 ≤ 4) ∧ TKv tx ((F185 8)) (F227 8) (F227 9) (F227 10) (F227 11) (F227 12) (F227 13) (F227 14) := pq230
            obtain ⟨pq230a, pq230b, pq230c, pq230d, pq230e⟩ := pq230
            have k232 := fr2.nil k232
            subst k232
            show am_Ok _ _ _ (80, _, [], _, 0, 0) _
            refine k_aload 81 rfl rfl rfl ?_
            have e233 : F227 7 = F185 7 := k231 7 (by decide)
            have e234 : F227 20 = F185 20 := k231 20 (by decide)
            have e235 : F185 20 = F13 20 := k189 20 (by decide)
            have e236 : F13 20 = F0 20 := k17 20 (by decide)
            have e237 : F227 21 = x216.toInt := k231 21 (by decide)
            have e238 : F227 18 = F185 18 := k231 18 (by decide)
            have e239 : F185 18 = F13 18 := k189 18 (by decide)
            have e240 : F13 18 = F0 18 := k17 18 (by decide)
            have e241 : F227 23 = F185 23 := k231 23 (by decide)
            have e242 : F185 23 = F13 23 := k189 23 (by decide)
            have e243 : F13 23 = F0 23 := k17 23 (by decide)
            have e244 : F227 6 = F185 6 := k231 6 (by decide)
            refine k_rv I229 rfl (hrec (gs := m_1 tx gs) I229.1 (show 0 ≤ (F227 8) ∧ (F227 8) ≤ (F227 7) ∧ (F227 7) ≤ 700 ∧ 0 ≤ (F227 20) ∧ (F227 20) ≤ 30 ∧ 0 ≤ (F227 21) ∧ (F227 21) ≤ 12 ∧ 0 ≤ (F227 18) ∧ (F227 18) ≤ 12 ∧ 0 ≤ (F227 23) ∧ (F227 23) ≤ 1000000 ∧ ((F227 9) = 2 → 0 ≤ (F227 11) ∧ (F227 11) ≤ 9) ∧ 0 ≤ (F227 9) ∧ (F227 9) ≤ 4 by omega) (show nm ((A0 16)) ((A0 17)) ((F227 18)) by rw [(show A0 16 = A0 16 from rfl), (show A0 17 = A0 17 from rfl), ((k231 18 (by decide)).trans ((k189 18 (by decide)).trans (k17 18 (by decide))))]; exact p2) (show (12 - (F227 21)) + (30 - (F227 20)) < (gk : Int) by omega) (show TP tx ((F227 7)) ((A0 3)) by rw [((k231 7 (by decide)).trans ((k189 7 (by decide)).trans (k17 7 (by decide)))), (show A0 3 = A0 3 from rfl)]; exact pT) (show imp ((F227 6) = 0) (XP tx (m_1 tx gs) ((F227 8)) ((F227 9)) ((F227 10)) ((F227 11)) ((F227 12)) ((F227 13)) ((F227 14)) ((F227 18)) ((F227 20)) ((F227 21)) ((F227 23)) ((A0 15)) ((A0 16)) ((A0 17)) ((A0 19)) ((A0 22))) from fun _ => ra_p p7 p9 hk7 (pq230e.cg (by omega) rfl rfl rfl rfl rfl rfl rfl) (by omega) (by omega) (by omega) (by omega) (show A0 15 = A0 15 from rfl) (show A0 16 = A0 16 from rfl) (show A0 17 = A0 17 from rfl) (show A0 19 = A0 19 from rfl) (show A0 22 = A0 22 from rfl))) (Nat.ble_eq_true_of_le (by omega)) rfl rfl I229.rc ?_
            rintro h246 F247 A248 I249 ⟨k251, k252, pq250⟩
            have e253 : F227 5 = F185 5 := k231 5 (by decide)
            replace pq250 : ((F227 8) ≤ F247 8 ∧ F247 8 ≤ (F227 7) ∧ (F227 20) ≤ F247 20 ∧ F247 20 ≤ 30 ∧ F247 21 = (F227 21) ∧ (F227 23) ≤ F247 23 ∧ F247 23 ≤ 1000000 ∧ (F247 9 = 2 → 0 ≤ F247 11 ∧ F247 11 ≤ 9) ∧ 0 ≤ F247 9 ∧ F247 9 ≤ 4) ∧ (F247 6 = 0 → F247 20 = (F227 20) ∧ (F227 6) = 0 ∧ (F247 9 = 0 ∨ (F227 8) < F247 8) ∧ F247 5 = (F227 5)) ∧ imp (F247 6 = 0) (F247 23 ≤ 124 → rd1 (A248 22) ((A0 22)) ((F227 23)) (F247 23) ((F227 20))) ∧ (F247 6 = 0 → F247 9 ≠ 1 ∧ F247 9 ≠ 2 ∧ (F247 9 = 3 → F247 11 ≠ 40)) ∧ ((F227 6) ≠ 0 → F247 6 = (F227 6) ∧ F247 5 = (F227 5)) ∧ imp ((F227 6) = 0) (XT tx (m_1 tx gs) (F247 5) (F247 6) (F247 8) (F247 9) (F247 10) (F247 11) (F247 12) (F247 13) (F247 14) (F247 18) (F247 20) (F247 21) (F247 23) (A248 15) (A248 16) (A248 17) (A248 19) (A248 22)) := pq250
            obtain ⟨pq250a, pq250b, pq250c, pq250d, pq250e, pq250f⟩ := pq250
            show am_Ok _ _ _ (84, _, [], _, 0, 0) _
            refine k_aload 85 rfl rfl rfl ?_
            refine k_push 87 rfl rfl ?_
            have hc254 : (41 : Int32).toInt = 41 := by decide
            have e255 : F247 7 = F227 7 := k251 7 (by decide)
            refine k_rv I249 rfl (m_must  I249.1 (show 0 ≤ (F247 8) ∧ (F247 8) ≤ (F247 7) ∧ (F247 7) ≤ 700 ∧ ((F247 9) = 2 → 0 ≤ (F247 11) ∧ (F247 11) ≤ 9) ∧ 0 ≤ (F247 9) ∧ (F247 9) ≤ 4 by omega) (show TP tx ((F247 7)) ((A248 3)) by rw [((k251 7 (by decide)).trans ((k231 7 (by decide)).trans ((k189 7 (by decide)).trans (k17 7 (by decide))))), (k252 3 (by decide))]; exact pT)) (Nat.ble_eq_true_of_le (by omega)) rfl rfl I249.rc ?_
            rintro h257 F258 A259 I260 ⟨k262, k263, pq261⟩
            replace pq261 : ((F247 8) ≤ F258 8 ∧ F258 8 ≤ (F247 7)) ∧ (F258 6 = 0 → (F247 6) = 0 ∧ (F258 9 = 0 ∨ (F247 8) < F258 8)) ∧ (F258 9 = 2 → 0 ≤ F258 11 ∧ F258 11 ≤ 9) ∧ (0 ≤ F258 9 ∧ F258 9 ≤ 4) ∧ (((F247 6) = 0 ∧ (F247 9) = 3 ∧ (F247 11) = (41 : Int32).toInt → F258 6 = 0 ∧ F258 5 = (F247 5)) ∧ (¬ ((F247 6) = 0 ∧ (F247 9) = 3 ∧ (F247 11) = (41 : Int32).toInt) → F258 6 ≠ 0 ∧ ((F247 6) = 0 → F258 6 = 1 ∧ F258 5 = (F247 10)) ∧ ((F247 6) ≠ 0 → F258 6 = (F247 6) ∧ F258 5 = (F247 5)))) ∧ imp (F258 6 = 0) (TKv tx ((F247 8)) (F258 8) (F258 9) (F258 10) (F258 11) (F258 12) (F258 13) (F258 14)) := pq261
            obtain ⟨pq261a, pq261b, pq261c, pq261d, pq261e, pq261f⟩ := pq261
            have k263 := fr2.nil k263
            subst k263
            show am_Ok _ _ _ (90, _, [], _, 0, 0) _
            have hm9 := pq261e
            rw [show (41 : Int32).toInt = 41 by decide] at hm9
            refine k_aload 91 rfl rfl rfl ?_
            refine k_dup 92 rfl rfl rfl ?_
            refine r_gI I260 95 rfl rfl rfl (fun x264 (e265 : x264.toInt = F258 21) => ?_)
            have e266 : F258 21 = F247 21 := k262 21 (by decide)
            refine k_push 96 rfl rfl ?_
            obtain ⟨x267, q268⟩ : ∃ q : Int32, q = (x264 - (1 : Int32)) := ⟨_, rfl⟩
            have e269 : x267.toInt = x264.toInt - 1 := by rw [q268, iv_sub (by omega) (by omega)]; omega
            refine k_bin x267 97 rfl q268.symm rfl ?_
            refine r_pI I260 100 rfl rfl rfl (fun h270 I271 => ?_)
            have e272 : F258 20 = F247 20 := k262 20 (by decide)
            have e273 : F258 23 = F247 23 := k262 23 (by decide)
            have e274 : F258 18 = F247 18 := k262 18 (by decide)
            have e275 : F247 18 = F227 18 := k251 18 (by decide)
            exact k_fin rfl rfl ⟨_, _, _, rfl, I271, (fr1.up (by decide) (fr1.tr (by decide) (fr1.tr (by decide) (fr1.tr (by decide) (fr1.up (by decide) (fr1.tr (by decide) (fr1.tr (by decide) fr1.rf k17) k189)) k231) k251) k262)), (fr2.tr (by decide) fr2.rf k252), ⟨(show (F0 8 ≤ F258 8 ∧ F258 8 ≤ F0 7 ∧ F0 20 ≤ F258 20 ∧ F258 20 ≤ 30 ∧ x267.toInt = F0 21 ∧ F0 23 ≤ F258 23 ∧ F258 23 ≤ 1000000 ∧ (F258 9 = 2 → 0 ≤ F258 11 ∧ F258 11 ≤ 9) ∧ 0 ≤ F258 9 ∧ F258 9 ≤ 4) by omega), (show (F258 6 = 0 → F258 20 = F0 20 ∧ F0 6 = 0 ∧ (F258 9 = 0 ∨ F0 8 < F258 8) ∧ F258 5 = F0 5) by omega), (fun z1 z2 => by have z8 : F258 6 = 0 := z1; have z9 : F258 23 ≤ 124 := z2; have h9 := pq250c (by omega) (by omega); show rd1 (A248 22) (A0 22) (F0 23) (F258 23) (F0 20); exact rd_cg h9 (by omega) (by omega) (by omega)), (show XA tx gs (F258 5) (F258 6) (F258 8) (F258 9) (F258 10) (F258 11) (F258 12) (F258 13) (F258 14) (F258 18) (F258 20) (x267.toInt) (F258 23) ((A248 15)) ((A248 16)) ((A248 17)) ((A248 19)) ((A248 22)) from ra_c hms (pq250f (by omega)) pc pq250d hm9.1 hm9.2 pq261f (by omega) (by omega) (by omega) (by omega) rfl rfl rfl rfl rfl)⟩⟩
end
