section
set_option maxHeartbeats 4000000 in
theorem b_X10_readsAll_34 {h0 : am_h} {F0 : rf_f} {A0 : rf_A} {tx : List Int} (p1 : 0 ≤ F0 7 ∧ F0 7 ≤ 700) (p2 : 0 ≤ F0 23 ∧ F0 23 ≤ 1000000) (pT : TP tx (F0 7) (A0 3)) : ∀ (n : Nat) {lv : am_l} {h : am_h} {F : rf_f} {A : rf_A}, ((13 - F 18 + (if F 6 = 0 then 20 else 0)).toNat) = n → am_get lv 0 = some (.inr (.inr (some 81))) → rf_I h0 h F A → fr1 [8, 10, 9, 14, 11, 12, 13, 6, 5, 23, 20, 21, 18] F0 F → fr2 [22, 19, 15, 17, 16] A0 A → (0 ≤ F 8 ∧ F 8 ≤ F0 7 ∧ 0 ≤ F 20 ∧ F 20 ≤ 30 ∧ F 21 = 0 ∧ 0 ≤ F 18 ∧ F 18 ≤ 12 ∧ 0 ≤ F 23 ∧ F 23 ≤ 1000000 ∧ (F 9 = 2 → 0 ≤ F 11 ∧ F 11 ≤ 9) ∧ 0 ≤ F 9 ∧ F 9 ≤ 4 ∧ (F 6 = 0 → F 20 = 0)) → (nm (A 16) (A 17) (F 18)) → (XJ tx m_0 (F 5) (F 6) (F 8) (F 9) (F 10) (F 11) (F 12) (F 13) (F 14) (F 18) (F 20) (F 21) (F 23) (A 15) (A 16) (A 17) (A 19) (A 22)) → (F 6 = 0 → F 5 = -1) → am_Ok am_G 92 185 (34, lv, [], h, 0, 0) (rf_V h0 (fun F' A' => fr1 [8, 10, 9, 14, 11, 12, 13, 6, 5, 23, 20, 21, 18] F0 F' ∧ fr2 [22, 19, 15, 17, 16] A0 A' ∧ ((0 ≤ F' 23 ∧ F' 23 ≤ 1000000) ∧ (F' 6 = 0 → F' 23 ≤ 120) ∧ imp (F' 6 = 0) (rz (A' 22) (F' 23)) ∧ XZ tx (F' 5) (F' 6) (F' 23) (A' 22)))) := by
  intro n
  induction n using Nat.strongRecOn with
  | ind n ih =>
    intro lv h F A  hn g0 hI hF hA i1 i2 i3 i4
    refine k_aload 35 rfl g0 rfl ?_
    have e1 : F 7 = F0 7 := hF 7 (by decide)
    refine k_rq hI rfl (m_isTelling  hI.1 (show 0 ≤ (F 8) ∧ (F 8) ≤ (F 7) ∧ (F 7) ≤ 700 by omega) (show TP tx ((F 7)) ((A 3)) by rw [(hF 7 (by decide)), (hA 3 (by decide))]; exact pT)) rfl rfl rfl hI.rc ?_
    rintro x2 h3 F4 A5 I6 ⟨k8, k9, pq7⟩
    replace pq7 : (x2.toInt = 1 ∧ (F 6) = 0 ∧ (F 9) = 1 ∧ tO tx ((F 8)) = 61) ∨ (x2.toInt = 0 ∧ ¬ ((F 6) = 0 ∧ (F 9) = 1 ∧ tO tx ((F 8)) = 61)) := pq7
    have k8 := fr1.nil k8
    subst k8
    have k9 := fr2.nil k9
    subst k9
    have z10 := iv_01 (x := x2) (by omega)
    show am_Ok _ _ _ (38, _, [.inl x2], _, 0, 0) _
    by_cases b11 : x2 = 0
    · refine k_c1 48 rfl rfl (if_pos b11) ?_
      have b11 := iv_eq0.mp b11
      have hgz : ∃ gz : mS, imp (F 6 = 0) (Rc tx m_0 gz ∧ XI tx gz (F 8) (F 9) (F 10) (F 11) (F 12) (F 13) (F 14) (F 18) (F 20) (F 21) (F 23) (A 15) (A 16) (A 17) (A 19) (A 22)) := by
        by_cases z : F 6 = 0
        · obtain ⟨s9, y1, y2⟩ := i3.1 z
          exact ⟨s9, fun _ => ⟨y1, y2⟩⟩
        · exact ⟨m_0, fun y => absurd y z⟩
      obtain ⟨gz, hgz⟩ := hgz
      have hnt : imp (F 6 = 0) (¬ (tO tx (m_e gz) = 97 ∧ tO tx (tE tx (m_e gz)) = 61)) := fun z => by have h8 := (hgz z).2.1.o; have h7 := (hgz z).2.1.b.2.1; have h6 := pq7; rw [h7] at h6; omega
      clear pq7
      refine k_aload 49 rfl g0 rfl ?_
      refine k_push 50 rfl rfl ?_
      have hc12 : (0 : Int32).toInt = 0 := by decide
      refine r_pI I6 53 rfl rfl rfl (fun h13 I14 => ?_)
      refine k_aload 54 rfl g0 rfl ?_
      refine k_rv I14 rfl (reads_all (gk := 43) (gs := gz) I14.1 (show 0 ≤ (F 8) ∧ (F 8) ≤ (F 7) ∧ (F 7) ≤ 700 ∧ 0 ≤ (F 20) ∧ (F 20) ≤ 30 ∧ 0 ≤ (F 21) ∧ (F 21) ≤ 12 ∧ 0 ≤ (F 18) ∧ (F 18) ≤ 12 ∧ 0 ≤ ((0 : Int32).toInt) ∧ ((0 : Int32).toInt) ≤ 1000000 ∧ ((F 9) = 2 → 0 ≤ (F 11) ∧ (F 11) ≤ 9) ∧ 0 ≤ (F 9) ∧ (F 9) ≤ 4 by omega) (show nm ((A 16)) ((A 17)) ((F 18)) by rw [(show A 16 = A 16 from rfl), (show A 17 = A 17 from rfl), (show F 18 = F 18 from rfl)]; exact i2) (show (12 - (F 21)) + (30 - (F 20)) < ((43) : Int) by omega) (show TP tx ((F 7)) ((A 3)) by rw [(hF 7 (by decide)), (hA 3 (by decide))]; exact pT) (show imp ((F 6) = 0) (XP tx (gz) ((F 8)) ((F 9)) ((F 10)) ((F 11)) ((F 12)) ((F 13)) ((F 14)) ((F 18)) ((F 20)) ((F 21)) (((0 : Int32).toInt)) ((A 15)) ((A 16)) ((A 17)) ((A 19)) ((A 22))) from fun z => ry_p (hgz z).2 (hnt z) rfl rfl rfl rfl rfl rfl rfl rfl rfl rfl (by omega) rfl rfl rfl)) rfl rfl rfl I14.rc ?_
      rintro h16 F17 A18 I19 ⟨k21, k22, pq20⟩
      replace pq20 : ((F 8) ≤ F17 8 ∧ F17 8 ≤ (F 7) ∧ (F 20) ≤ F17 20 ∧ F17 20 ≤ 30 ∧ F17 21 = (F 21) ∧ ((0 : Int32).toInt) ≤ F17 23 ∧ F17 23 ≤ 1000000 ∧ (F17 9 = 2 → 0 ≤ F17 11 ∧ F17 11 ≤ 9) ∧ 0 ≤ F17 9 ∧ F17 9 ≤ 4) ∧ (F17 6 = 0 → F17 20 = (F 20) ∧ (F 6) = 0 ∧ (F17 9 = 0 ∨ (F 8) < F17 8) ∧ F17 5 = (F 5)) ∧ imp (F17 6 = 0) (F17 23 ≤ 124 → rd1 (A18 22) ((A 22)) (((0 : Int32).toInt)) (F17 23) ((F 20))) ∧ (F17 6 = 0 → F17 9 ≠ 1 ∧ F17 9 ≠ 2 ∧ (F17 9 = 3 → F17 11 ≠ 40)) ∧ ((F 6) ≠ 0 → F17 6 = (F 6) ∧ F17 5 = (F 5)) ∧ imp ((F 6) = 0) (XT tx (gz) (F17 5) (F17 6) (F17 8) (F17 9) (F17 10) (F17 11) (F17 12) (F17 13) (F17 14) (F17 18) (F17 20) (F17 21) (F17 23) (A18 15) (A18 16) (A18 17) (A18 19) (A18 22)) := pq20
      obtain ⟨pq20a, pq20b, pq20c, pq20d, pq20e, pq20f⟩ := pq20
      show am_Ok _ _ _ (57, _, [], _, 0, 0) _
      refine k_aload 58 rfl g0 rfl ?_
      refine k_aload 59 rfl g0 rfl ?_
      refine r_gI I19 62 rfl rfl rfl (fun x23 (e24 : x23.toInt = F17 9) => ?_)
      by_cases b25 : x23 = 0
      · refine k_c1 65 rfl rfl (if_pos b25) ?_
        have b25 := iv_eq0.mp b25
        refine k_push 66 rfl rfl ?_
        have hc26 : (1 : Int32).toInt = 1 := by decide
        refine k_goto 70 rfl rfl ?_
        refine k_push 71 rfl rfl ?_
        refine k_rq I19 rfl (m_check  I19.1 (show (1 : Int32).toInt ≠ 0 by decide)) rfl rfl rfl I19.rc ?_
        rintro x27 h28 F29 A30 I31 ⟨k33, k34, pq32⟩
        replace pq32 : ((x27.toInt = 1 ∧ (F17 6) = 0 ∧ (1 : Int32).toInt ≠ 0 ∧ F29 6 = 0 ∧ F29 5 = (F17 5)) ∨ (x27.toInt = 0 ∧ F29 6 ≠ 0 ∧ (((F17 6) = 0 ∧ (1 : Int32).toInt = 0 ∧ F29 6 = (1 : Int32).toInt ∧ F29 5 = (F17 10)) ∨ ((F17 6) ≠ 0 ∧ F29 6 = (F17 6) ∧ F29 5 = (F17 5))))) := pq32
        have k34 := fr2.nil k34
        subst k34
        have z35 := iv_01 (x := x27) (by omega)
        show am_Ok _ _ _ (74, _, [.inl x27], _, 0, 0) _
        have k91 := pq32
        refine k_pop 75 rfl rfl rfl ?_
        refine k_aload 76 rfl g0 rfl ?_
        refine k_aload 77 rfl g0 rfl ?_
        refine r_gI I31 80 rfl rfl rfl (fun x36 (e37 : x36.toInt = F29 23) => ?_)
        have e38 : F29 23 = F17 23 := k33 23 (by decide)
        refine k_push 82 rfl rfl ?_
        have hc39 : (120 : Int32).toInt = 120 := by decide
        by_cases b40 : (120 : Int32) < x36
        · refine k_c2 89 rfl rfl (if_pos b40) ?_
          have b40 := iv_lt.mp b40
          refine k_push 90 rfl rfl ?_
          refine k_push 91 rfl rfl ?_
          have hc41 : (5 : Int32).toInt = 5 := by decide
          refine k_rq I31 rfl (m_check  I31.1 (show (5 : Int32).toInt ≠ 0 by decide)) rfl rfl rfl I31.rc ?_
          rintro x42 h43 F44 A45 I46 ⟨k48, k49, pq47⟩
          have e50 : F29 10 = F17 10 := k33 10 (by decide)
          replace pq47 : ((x42.toInt = 1 ∧ (F29 6) = 0 ∧ (0 : Int32).toInt ≠ 0 ∧ F44 6 = 0 ∧ F44 5 = (F29 5)) ∨ (x42.toInt = 0 ∧ F44 6 ≠ 0 ∧ (((F29 6) = 0 ∧ (0 : Int32).toInt = 0 ∧ F44 6 = (5 : Int32).toInt ∧ F44 5 = (F29 10)) ∨ ((F29 6) ≠ 0 ∧ F44 6 = (F29 6) ∧ F44 5 = (F29 5))))) := pq47
          have k49 := fr2.nil k49
          subst k49
          have z51 := iv_01 (x := x42) (by omega)
          show am_Ok _ _ _ (94, _, [.inl x42], _, 0, 0) _
          refine k_pop 95 rfl rfl rfl ?_
          have e52 : F44 23 = F29 23 := k48 23 (by decide)
          exact k_fin rfl rfl ⟨_, _, _, rfl, I46, (fr1.tr (by decide) (fr1.tr (by decide) (fr1.tr (by decide) (fr1.up (by decide) hF) k21) k33) k48), (fr2.tr (by decide) hA k22), ⟨(show 0 ≤ F44 23 ∧ F44 23 ≤ 1000000 by omega), (show F44 6 = 0 → F44 23 ≤ 120 by omega), (fun z => by have z8 : F44 6 = 0 := z; have h9 := pq20c (by omega) (by omega); show rz (A18 22) (F44 23); exact ⟨_, rd_cg h9 (by omega) (by omega) (by omega)⟩), (show XZ tx (F44 5) (F44 6) (F44 23) ((A18 22)) from (by by_cases z9 : F 6 = 0; exact ry_e (hgz z9).1 (hgz z9).2 (pq20f z9) pq20d (by omega) (by omega) (by omega) (by omega) (by omega) (by omega) (show A18 22 = A18 22 from rfl); exact ry_b (i3.2 z9) z9 (by omega)))⟩⟩
        · refine k_c2 85 rfl rfl (if_neg b40) ?_
          have b40 := mt iv_lt.mpr b40
          refine k_push 86 rfl rfl ?_
          refine k_goto 90 rfl rfl ?_
          refine k_push 91 rfl rfl ?_
          have hc53 : (5 : Int32).toInt = 5 := by decide
          refine k_rq I31 rfl (m_check  I31.1 (show (5 : Int32).toInt ≠ 0 by decide)) rfl rfl rfl I31.rc ?_
          rintro x54 h55 F56 A57 I58 ⟨k60, k61, pq59⟩
          have e62 : F29 10 = F17 10 := k33 10 (by decide)
          replace pq59 : ((x54.toInt = 1 ∧ (F29 6) = 0 ∧ (1 : Int32).toInt ≠ 0 ∧ F56 6 = 0 ∧ F56 5 = (F29 5)) ∨ (x54.toInt = 0 ∧ F56 6 ≠ 0 ∧ (((F29 6) = 0 ∧ (1 : Int32).toInt = 0 ∧ F56 6 = (5 : Int32).toInt ∧ F56 5 = (F29 10)) ∨ ((F29 6) ≠ 0 ∧ F56 6 = (F29 6) ∧ F56 5 = (F29 5))))) := pq59
          have k61 := fr2.nil k61
          subst k61
          have z63 := iv_01 (x := x54) (by omega)
          show am_Ok _ _ _ (94, _, [.inl x54], _, 0, 0) _
          refine k_pop 95 rfl rfl rfl ?_
          have e64 : F56 23 = F29 23 := k60 23 (by decide)
          exact k_fin rfl rfl ⟨_, _, _, rfl, I58, (fr1.tr (by decide) (fr1.tr (by decide) (fr1.tr (by decide) (fr1.up (by decide) hF) k21) k33) k60), (fr2.tr (by decide) hA k22), ⟨(show 0 ≤ F56 23 ∧ F56 23 ≤ 1000000 by omega), (show F56 6 = 0 → F56 23 ≤ 120 by omega), (fun z => by have z8 : F56 6 = 0 := z; have h9 := pq20c (by omega) (by omega); show rz (A18 22) (F56 23); exact ⟨_, rd_cg h9 (by omega) (by omega) (by omega)⟩), (show XZ tx (F56 5) (F56 6) (F56 23) ((A18 22)) from (by by_cases z9 : F 6 = 0; exact ry_e (hgz z9).1 (hgz z9).2 (pq20f z9) pq20d (by omega) (by omega) (by omega) (by omega) (by omega) (by omega) (show A18 22 = A18 22 from rfl); exact ry_b (i3.2 z9) z9 (by omega)))⟩⟩
      · refine k_c1 69 rfl rfl (if_neg b25) ?_
        have b25 := mt iv_eq0.mpr b25
        refine k_push 70 rfl rfl ?_
        refine k_push 71 rfl rfl ?_
        have hc65 : (1 : Int32).toInt = 1 := by decide
        refine k_rq I19 rfl (m_check  I19.1 (show (1 : Int32).toInt ≠ 0 by decide)) rfl rfl rfl I19.rc ?_
        rintro x66 h67 F68 A69 I70 ⟨k72, k73, pq71⟩
        replace pq71 : ((x66.toInt = 1 ∧ (F17 6) = 0 ∧ (0 : Int32).toInt ≠ 0 ∧ F68 6 = 0 ∧ F68 5 = (F17 5)) ∨ (x66.toInt = 0 ∧ F68 6 ≠ 0 ∧ (((F17 6) = 0 ∧ (0 : Int32).toInt = 0 ∧ F68 6 = (1 : Int32).toInt ∧ F68 5 = (F17 10)) ∨ ((F17 6) ≠ 0 ∧ F68 6 = (F17 6) ∧ F68 5 = (F17 5))))) := pq71
        have k73 := fr2.nil k73
        subst k73
        have z74 := iv_01 (x := x66) (by omega)
        show am_Ok _ _ _ (74, _, [.inl x66], _, 0, 0) _
        have k91 := pq71
        refine k_pop 75 rfl rfl rfl ?_
        refine k_aload 76 rfl g0 rfl ?_
        refine k_aload 77 rfl g0 rfl ?_
        refine r_gI I70 80 rfl rfl rfl (fun x75 (e76 : x75.toInt = F68 23) => ?_)
        have e77 : F68 23 = F17 23 := k72 23 (by decide)
        refine k_push 82 rfl rfl ?_
        have hc78 : (120 : Int32).toInt = 120 := by decide
        by_cases b79 : (120 : Int32) < x75
        · refine k_c2 89 rfl rfl (if_pos b79) ?_
          have b79 := iv_lt.mp b79
          refine k_push 90 rfl rfl ?_
          refine k_push 91 rfl rfl ?_
          have hc80 : (5 : Int32).toInt = 5 := by decide
          refine k_rq I70 rfl (m_check  I70.1 (show (5 : Int32).toInt ≠ 0 by decide)) rfl rfl rfl I70.rc ?_
          rintro x81 h82 F83 A84 I85 ⟨k87, k88, pq86⟩
          have e89 : F68 10 = F17 10 := k72 10 (by decide)
          replace pq86 : ((x81.toInt = 1 ∧ (F68 6) = 0 ∧ (0 : Int32).toInt ≠ 0 ∧ F83 6 = 0 ∧ F83 5 = (F68 5)) ∨ (x81.toInt = 0 ∧ F83 6 ≠ 0 ∧ (((F68 6) = 0 ∧ (0 : Int32).toInt = 0 ∧ F83 6 = (5 : Int32).toInt ∧ F83 5 = (F68 10)) ∨ ((F68 6) ≠ 0 ∧ F83 6 = (F68 6) ∧ F83 5 = (F68 5))))) := pq86
          have k88 := fr2.nil k88
          subst k88
          have z90 := iv_01 (x := x81) (by omega)
          show am_Ok _ _ _ (94, _, [.inl x81], _, 0, 0) _
          refine k_pop 95 rfl rfl rfl ?_
          have e91 : F83 23 = F68 23 := k87 23 (by decide)
          exact k_fin rfl rfl ⟨_, _, _, rfl, I85, (fr1.tr (by decide) (fr1.tr (by decide) (fr1.tr (by decide) (fr1.up (by decide) hF) k21) k72) k87), (fr2.tr (by decide) hA k22), ⟨(show 0 ≤ F83 23 ∧ F83 23 ≤ 1000000 by omega), (show F83 6 = 0 → F83 23 ≤ 120 by omega), (fun z => by have z8 : F83 6 = 0 := z; have h9 := pq20c (by omega) (by omega); show rz (A18 22) (F83 23); exact ⟨_, rd_cg h9 (by omega) (by omega) (by omega)⟩), (show XZ tx (F83 5) (F83 6) (F83 23) ((A18 22)) from (by by_cases z9 : F 6 = 0; exact ry_e (hgz z9).1 (hgz z9).2 (pq20f z9) pq20d (by omega) (by omega) (by omega) (by omega) (by omega) (by omega) (show A18 22 = A18 22 from rfl); exact ry_b (i3.2 z9) z9 (by omega)))⟩⟩
        · refine k_c2 85 rfl rfl (if_neg b79) ?_
          have b79 := mt iv_lt.mpr b79
          refine k_push 86 rfl rfl ?_
          refine k_goto 90 rfl rfl ?_
          refine k_push 91 rfl rfl ?_
          have hc92 : (5 : Int32).toInt = 5 := by decide
          refine k_rq I70 rfl (m_check  I70.1 (show (5 : Int32).toInt ≠ 0 by decide)) rfl rfl rfl I70.rc ?_
          rintro x93 h94 F95 A96 I97 ⟨k99, k100, pq98⟩
          have e101 : F68 10 = F17 10 := k72 10 (by decide)
          replace pq98 : ((x93.toInt = 1 ∧ (F68 6) = 0 ∧ (1 : Int32).toInt ≠ 0 ∧ F95 6 = 0 ∧ F95 5 = (F68 5)) ∨ (x93.toInt = 0 ∧ F95 6 ≠ 0 ∧ (((F68 6) = 0 ∧ (1 : Int32).toInt = 0 ∧ F95 6 = (5 : Int32).toInt ∧ F95 5 = (F68 10)) ∨ ((F68 6) ≠ 0 ∧ F95 6 = (F68 6) ∧ F95 5 = (F68 5))))) := pq98
          have k100 := fr2.nil k100
          subst k100
          have z102 := iv_01 (x := x93) (by omega)
          show am_Ok _ _ _ (94, _, [.inl x93], _, 0, 0) _
          refine k_pop 95 rfl rfl rfl ?_
          have e103 : F95 23 = F68 23 := k99 23 (by decide)
          exact k_fin rfl rfl ⟨_, _, _, rfl, I97, (fr1.tr (by decide) (fr1.tr (by decide) (fr1.tr (by decide) (fr1.up (by decide) hF) k21) k72) k99), (fr2.tr (by decide) hA k22), ⟨(show 0 ≤ F95 23 ∧ F95 23 ≤ 1000000 by omega), (show F95 6 = 0 → F95 23 ≤ 120 by omega), (fun z => by have z8 : F95 6 = 0 := z; have h9 := pq20c (by omega) (by omega); show rz (A18 22) (F95 23); exact ⟨_, rd_cg h9 (by omega) (by omega) (by omega)⟩), (show XZ tx (F95 5) (F95 6) (F95 23) ((A18 22)) from (by by_cases z9 : F 6 = 0; exact ry_e (hgz z9).1 (hgz z9).2 (pq20f z9) pq20d (by omega) (by omega) (by omega) (by omega) (by omega) (by omega) (show A18 22 = A18 22 from rfl); exact ry_b (i3.2 z9) z9 (by omega)))⟩⟩
    · refine k_c1 41 rfl rfl (if_neg b11) ?_
      have b11 := mt iv_eq0.mpr b11
      obtain ⟨gz, gx1, gx2⟩ := i3.1 (by omega)
      refine k_aload 42 rfl g0 rfl ?_
      refine k_rv I6 rfl (m_readsTelling (gs := gz) I6.1 (show 0 ≤ (F 8) ∧ (F 8) ≤ (F 7) ∧ (F 7) ≤ 700 ∧ 0 ≤ (F 20) ∧ (F 20) ≤ 30 ∧ 0 ≤ (F 21) ∧ (F 21) ≤ 12 ∧ 0 ≤ (F 18) ∧ (F 18) ≤ 12 ∧ 0 ≤ (F 23) ∧ (F 23) ≤ 1000000 ∧ ((F 9) = 2 → 0 ≤ (F 11) ∧ (F 11) ≤ 9) ∧ 0 ≤ (F 9) ∧ (F 9) ≤ 4 by omega) (show nm ((A 16)) ((A 17)) ((F 18)) from i2) (show (F 20) = 0 ∧ (F 21) = 0 ∧ (F 6) = 0 by omega) (show TP tx ((F 7)) ((A 3)) by rw [(hF 7 (by decide)), (hA 3 (by decide))]; exact pT) (show XI tx (gz) ((F 8)) ((F 9)) ((F 10)) ((F 11)) ((F 12)) ((F 13)) ((F 14)) ((F 18)) ((F 20)) ((F 21)) ((F 23)) ((A 15)) ((A 16)) ((A 17)) ((A 19)) ((A 22)) from gx2) (show (F 9) = 1 ∧ tO tx ((F 8)) = 61 by omega)) rfl rfl rfl I6.rc ?_
      rintro h105 F106 A107 I108 ⟨k110, k111, pq109⟩
      replace pq109 : ((F 8) ≤ F106 8 ∧ F106 8 ≤ (F 7) ∧ 0 ≤ F106 20 ∧ F106 20 ≤ 30 ∧ F106 21 = 0 ∧ 0 ≤ F106 23 ∧ F106 23 ≤ 1000000 ∧ (F106 9 = 2 → 0 ≤ F106 11 ∧ F106 11 ≤ 9) ∧ 0 ≤ F106 9 ∧ F106 9 ≤ 4) ∧ (F106 6 = 0 → F106 20 = 0 ∧ F106 18 = (F 18) + 1 ∧ F106 5 = (F 5)) ∧ ((F 18) ≤ F106 18 ∧ F106 18 ≤ 12) ∧ nm (A107 16) (A107 17) (F106 18) ∧ XJ tx (gz) (F106 5) (F106 6) (F106 8) (F106 9) (F106 10) (F106 11) (F106 12) (F106 13) (F106 14) (F106 18) (F106 20) (F106 21) (F106 23) (A107 15) (A107 16) (A107 17) (A107 19) (A107 22) := pq109
      obtain ⟨pq109a, pq109b, pq109c, pq109d, pq109e⟩ := pq109
      show am_Ok _ _ _ (45, _, [], _, 0, 0) _
      refine k_goto 34 rfl rfl ?_
      exact ih _ ((by rw [← hn]; (repeat' split) <;> omega))  rfl g0 I108 (fr1.tr (by decide) hF k110) (fr2.tr (by decide) hA k111) (show 0 ≤ (F106 8) ∧ (F106 8) ≤ F0 7 ∧ 0 ≤ (F106 20) ∧ (F106 20) ≤ 30 ∧ (F106 21) = 0 ∧ 0 ≤ (F106 18) ∧ (F106 18) ≤ 12 ∧ 0 ≤ (F106 23) ∧ (F106 23) ≤ 1000000 ∧ ((F106 9) = 2 → 0 ≤ (F106 11) ∧ (F106 11) ≤ 9) ∧ 0 ≤ (F106 9) ∧ (F106 9) ≤ 4 ∧ ((F106 6) = 0 → (F106 20) = 0) by (repeat' apply And.intro) <;> omega) (show nm ((A107 16)) ((A107 17)) ((F106 18)) from pq109d) (show XJ tx m_0 ((F106 5)) ((F106 6)) ((F106 8)) ((F106 9)) ((F106 10)) ((F106 11)) ((F106 12)) ((F106 13)) ((F106 14)) ((F106 18)) ((F106 20)) ((F106 21)) ((F106 23)) ((A107 15)) ((A107 16)) ((A107 17)) ((A107 19)) ((A107 22)) from XJ.tr gx1 pq109e) (show (F106 6) = 0 → (F106 5) = -1 by omega)
set_option maxHeartbeats 4000000 in
theorem m_readsAll {h0 : am_h} {F0 : rf_f} {A0 : rf_A} {tx : List Int} (hR : rf_R h0 F0 A0) (p1 : 0 ≤ F0 7 ∧ F0 7 ≤ 700) (p2 : 0 ≤ F0 23 ∧ F0 23 ≤ 1000000) (pT : TP tx (F0 7) (A0 3)) : am_Mt 93 185 [.inr (.inr (some 81))] h0 (rf_V h0 (fun F' A' => fr1 [8, 10, 9, 14, 11, 12, 13, 6, 5, 23, 20, 21, 18] F0 F' ∧ fr2 [22, 19, 15, 17, 16] A0 A' ∧ ((0 ≤ F' 23 ∧ F' 23 ≤ 1000000) ∧ (F' 6 = 0 → F' 23 ≤ 120) ∧ imp (F' 6 = 0) (rz (A' 22) (F' 23)) ∧ XZ tx (F' 5) (F' 6) (F' 23) (A' 22)))) := by
  refine am_Mt.of (D := 92) ?_
  have hI : rf_I h0 h0 F0 A0 := rf_I.start hR
  refine k_aload 1 rfl rfl rfl ?_
  refine k_push 2 rfl rfl ?_
  have hc112 : (0 : Int32).toInt = 0 := by decide
  refine r_pI hI 5 rfl rfl rfl (fun h113 I114 => ?_)
  refine k_aload 6 rfl rfl rfl ?_
  refine k_push 7 rfl rfl ?_
  refine r_pI I114 10 rfl rfl rfl (fun h115 I116 => ?_)
  refine k_aload 11 rfl rfl rfl ?_
  refine k_push 12 rfl rfl ?_
  have hc117 : (-1 : Int32).toInt = -1 := by decide
  refine r_pI I116 15 rfl rfl rfl (fun h118 I119 => ?_)
  refine k_aload 16 rfl rfl rfl ?_
  refine k_push 17 rfl rfl ?_
  refine r_pI I119 20 rfl rfl rfl (fun h120 I121 => ?_)
  refine k_aload 21 rfl rfl rfl ?_
  refine k_push 22 rfl rfl ?_
  refine r_pI I121 25 rfl rfl rfl (fun h122 I123 => ?_)
  refine k_aload 26 rfl rfl rfl ?_
  refine k_push 27 rfl rfl ?_
  refine r_pI I123 30 rfl rfl rfl (fun h124 I125 => ?_)
  refine k_aload 31 rfl rfl rfl ?_
  refine k_rv I125 rfl (m_goes  I125.1 (show 0 ≤ ((0 : Int32).toInt) ∧ ((0 : Int32).toInt) ≤ (F0 7) ∧ (F0 7) ≤ 700 by omega) (show TP tx ((F0 7)) ((A0 3)) from pT)) rfl rfl rfl I125.rc ?_
  rintro h127 F128 A129 I130 ⟨k132, k133, pq131⟩
  replace pq131 : (((0 : Int32).toInt) ≤ F128 8 ∧ F128 8 ≤ (F0 7)) ∧ (F128 9 = 0 ∨ ((0 : Int32).toInt) < F128 8) ∧ (F128 9 = 2 → 0 ≤ F128 11 ∧ F128 11 ≤ 9) ∧ (0 ≤ F128 9 ∧ F128 9 ≤ 4) ∧ TKv tx (((0 : Int32).toInt)) (F128 8) (F128 9) (F128 10) (F128 11) (F128 12) (F128 13) (F128 14) := pq131
  obtain ⟨pq131a, pq131b, pq131c, pq131d, pq131e⟩ := pq131
  have k133 := fr2.nil k133
  subst k133
  show am_Ok _ _ _ (34, _, [], _, 0, 0) _
  have e134 : F128 20 = (0 : Int32).toInt := k132 20 (by decide)
  have e135 : F128 21 = (0 : Int32).toInt := k132 21 (by decide)
  have e136 : F128 18 = (0 : Int32).toInt := k132 18 (by decide)
  have e137 : F128 23 = F0 23 := k132 23 (by decide)
  have e138 : F128 6 = (0 : Int32).toInt := k132 6 (by decide)
  have e139 : F128 5 = (-1 : Int32).toInt := k132 5 (by decide)
  exact b_X10_readsAll_34 (tx := tx)  p1 p2 pT _  rfl rfl I130 (fr1.tr (by decide) (fr1.up (by decide) (fr1.up (by decide) (fr1.up (by decide) (fr1.up (by decide) (fr1.up (by decide) (fr1.up (by decide) fr1.rf)))))) k132) fr2.rf (show 0 ≤ (F128 8) ∧ (F128 8) ≤ F0 7 ∧ 0 ≤ (F128 20) ∧ (F128 20) ≤ 30 ∧ (F128 21) = 0 ∧ 0 ≤ (F128 18) ∧ (F128 18) ≤ 12 ∧ 0 ≤ (F128 23) ∧ (F128 23) ≤ 1000000 ∧ ((F128 9) = 2 → 0 ≤ (F128 11) ∧ (F128 11) ≤ 9) ∧ 0 ≤ (F128 9) ∧ (F128 9) ≤ 4 ∧ ((F128 6) = 0 → (F128 20) = 0) by (repeat' apply And.intro) <;> omega) ((show nm (A0 16) (A0 17) (F128 18) by rw [show F128 18 = 0 by omega]; exact nm_z)) (show XJ tx m_0 ((F128 5)) ((F128 6)) ((F128 8)) ((F128 9)) ((F128 10)) ((F128 11)) ((F128 12)) ((F128 13)) ((F128 14)) ((F128 18)) ((F128 20)) ((F128 21)) ((F128 23)) ((A0 15)) ((A0 16)) ((A0 17)) ((A0 19)) ((A0 22)) from XJ.ini (pq131e.cg (by decide) rfl rfl rfl rfl rfl rfl rfl) (by omega) (by omega) (by omega) (by omega)) (show (F128 6) = 0 → (F128 5) = -1 by omega)
end
