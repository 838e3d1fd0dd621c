section
theorem b_X10_tell_56 {h0 : am_h} {F0 : rf_f} {A0 : rf_A} {w1 : Int32} {gT : Int} (p1 : nt (A0 24) (A0 25) (A0 26) (F0 28) gT (F0 27)) (p2 : wr A0) (p3 : wq A0) (p4 : tq (A0 1) (A0 2 2)) (p5 : 0 ≤ F0 4 ∧ F0 4 ≤ 700 ∧ 0 ≤ F0 23 ∧ F0 23 ≤ 1000000 ∧ 200 ≤ gT) : ∀ (n : Nat) {lv : am_l} {h : am_h} {F : rf_f} {A : rf_A} {v1 : Int32} {v2 : Int32}, ((120 - v2.toInt).toNat) = n → am_get lv 0 = some (.inr (.inr (some 81))) → am_get lv 1 = some (.inl v1) → am_get lv 2 = some (.inl v2) → rf_I h0 h F A → fr1 [0, 4, 7, 8, 10, 9, 14, 11, 12, 6, 5, 23, 20, 21, 18, 36, 37, 38, 27, 28, 30, 32] F0 F → fr2 [22, 17, 16, 33, 34, 35, 39, 1, 2, 24, 25, 26, 29, 31] A0 A → (0 ≤ v2.toInt ∧ v2.toInt ≤ F 23 ∧ F 23 ≤ 120 ∧ 0 ≤ w1.toInt ∧ w1.toInt ≤ F0 4 ∧ F 4 = 0) → (rz (A 22) (F 23)) → (∀ k : Int, 2600 ≤ k → k < 2600 + v2.toInt → A 1 k = A 22 (k - 2600)) → (nt (A 33) (A 34) (A 35) (F 37) gT (F 36)) → (F 38 = A0 2 2) → (∀ k : Int, 0 ≤ k → k < A0 2 2 → A 39 k = A0 1 (2600 + k)) → am_Ok am_G 241 186 (56, lv, [], h, 0, 0) (rf_Q h0 (fun x F' A' => fr1 [0, 4, 7, 8, 10, 9, 14, 11, 12, 6, 5, 23, 20, 21, 18, 36, 37, 38, 27, 28, 30, 32] F0 F' ∧ fr2 [22, 17, 16, 33, 34, 35, 39, 1, 2, 24, 25, 26, 29, 31] A0 A' ∧ (nt (A' 24) (A' 25) (A' 26) (F' 28) gT (F' 27) ∧ wr A' ∧ wq A' ∧ tq (A' 1) (A' 2 2) ∧ ((0 ≤ w1.toInt ∧ w1.toInt ≤ F0 4 → F' 4 = 0) ∧ (¬ (0 ≤ w1.toInt ∧ w1.toInt ≤ F0 4) → F' 4 = F0 4) ∧ 0 ≤ F' 23 ∧ F' 23 ≤ 1000000)))) := by
  intro n
  induction n using Nat.strongRecOn with
  | ind n ih =>
    intro lv h F A v1 v2 hn g0 g1 g2 hI hF hA i1 i2 i3 i4 i5 i6
    have hq := p4.bd
    refine k_iload 57 rfl g2 rfl ?_
    refine k_aload 58 rfl g0 rfl ?_
    refine r_gI hI 61 rfl rfl rfl (fun x1 (e2 : x1.toInt = F 23) => ?_)
    by_cases b3 : x1 ≤ v2
    · refine k_c2 86 rfl rfl (if_pos b3) ?_
      have b3 := iv_le.mp b3
      obtain ⟨n9, hn9, hs9⟩ := rz_txt i2 i1.2.2.1 (fun k h1 h2 => i3 k h1 (by omega))
      have hb1 := i4.1.1
      have hb2 := i4.1.2.1
      refine k_aload 87 rfl g0 rfl ?_
      refine r_gA hI 90 rfl rfl rfl ?_
      refine k_push 91 rfl rfl ?_
      have hc4 : (2 : Int32).toInt = 2 := by decide
      refine k_aload 92 rfl g0 rfl ?_
      refine r_gI hI 95 rfl rfl rfl (fun x5 (e6 : x5.toInt = F 23) => ?_)
      refine r_st 2 hI 96 rfl rfl (by omega) (show (2 : Int32).toInt < 3 by omega) rfl (fun h7 I8 => ?_)
      refine k_aload 97 rfl g0 rfl ?_
      refine k_rv I8 rfl (m_laysNet (gt := n9) I8.1 (by rw [up2_k (by decide)]; exact hs9) (show (n9) ≤ 120 by omega)) rfl rfl rfl I8.rc ?_
      rintro h10 F11 A12 I13 ⟨k15, k16, p14⟩
      replace p14 : F11 27 = F11 28 ∧ F11 28 = 1 + (cs ((A 1)) 120 0 2600 : Int) ∧ (F11 27 ≤ 400 → nt (A12 24) (A12 25) (A12 26) (F11 28) 200 (F11 27)) := p14
      obtain ⟨p14a, p14b, p14c⟩ := p14
      show am_Ok _ _ _ (100, _, [], _, 0, 0) _
      have hl1 := p14a
      have hl2 := p14b
      refine k_aload 101 rfl g0 rfl ?_
      refine r_gI I13 104 rfl rfl rfl (fun x17 (e18 : x17.toInt = F11 27) => ?_)
      refine k_push 107 rfl rfl ?_
      have hc19 : (400 : Int32).toInt = 400 := by decide
      by_cases b20 : x17 ≤ (400 : Int32)
      · refine k_c2 126 rfl rfl (if_pos b20) ?_
        have b20 := iv_le.mp b20
        refine k_aload 127 rfl g0 rfl ?_
        refine k_rv I13 rfl (m_begins  I13.1 ) rfl rfl rfl I13.rc ?_
        rintro h22 F23 A24 I25 ⟨k27, k28, p26⟩
        show am_Ok _ _ _ (130, _, [], _, 0, 0) _
        refine k_push 131 rfl rfl ?_
        have hc29 : (0 : Int32).toInt = 0 := by decide
        have e30 : F23 28 = F11 28 := k27 28 (by decide)
        have e31 : F23 27 = F11 27 := k27 27 (by decide)
        have e32 : F23 4 = F11 4 := k27 4 (by decide)
        have e33 : F11 4 = F 4 := k15 4 (by decide)
        have e34 : F23 23 = F11 23 := k27 23 (by decide)
        have e35 : F11 23 = F 23 := k15 23 (by decide)
        exact k_fin rfl rfl ⟨_, _, _, _, rfl, I25, (fr1.tr (by decide) (fr1.tr (by decide) hF k15) k27), (fr2.tr (by decide) (fr2.tr (by decide) (fr2.up (by decide) hA) k16) k28), ⟨(by rw [(k28 24 (by decide)), (k28 25 (by decide)), (k28 26 (by decide))]; show nt _ _ _ (F23 28) gT (F23 27); rw [(k27 28 (by decide)), (k27 27 (by decide))]; exact (p14c (by omega)).mono (by omega)), p2.fr (l := [22, 17, 16, 33, 34, 35, 39, 1, 2, 24, 25, 26, 29, 31]) (fr2.tr (by decide) (fr2.tr (by decide) (fr2.up (by decide) hA) k16) k28) (by decide), p3.fr (l := [22, 17, 16, 33, 34, 35, 39, 1, 2, 24, 25, 26, 29, 31]) (fr2.tr (by decide) (fr2.tr (by decide) (fr2.up (by decide) hA) k16) k28) (by decide), ⟨n9, by rw [((k28 2 (by decide)).trans (k16 2 (by decide))), show (2 : Int) = (2 : Int32).toInt by decide]; exact up2_eq.trans (by omega), by rw [((k28 1 (by decide)).trans (k16 1 (by decide))), up2_k (by decide)]; exact hs9, by omega, by rw [((k28 1 (by decide)).trans (k16 1 (by decide))), up2_k (by decide)]; omega⟩, (show ((0 ≤ w1.toInt ∧ w1.toInt ≤ F0 4 → F23 4 = 0) ∧ (¬ (0 ≤ w1.toInt ∧ w1.toInt ≤ F0 4) → F23 4 = F0 4) ∧ 0 ≤ F23 23 ∧ F23 23 ≤ 1000000) by omega)⟩⟩
      · refine k_c2 110 rfl rfl (if_neg b20) ?_
        have b20 := mt iv_le.mpr b20
        have hnt : nt (A12 33) (A12 34) (A12 35) (F11 37) gT (F11 36) := by rw [(k15 37 (by decide)), (k15 36 (by decide))]; exact i4.cg ((k16 33 (by decide)).trans (up2_k (by decide))) ((k16 34 (by decide)).trans (up2_k (by decide))) ((k16 35 (by decide)).trans (up2_k (by decide)))
        have hq39 : (A12 39) = A 39 := (k16 39 (by decide)).trans (up2_k (by decide))
        refine k_aload 111 rfl g0 rfl ?_
        have e36 : F11 37 = F 37 := k15 37 (by decide)
        have e37 : F11 38 = F 38 := k15 38 (by decide)
        refine k_rv I13 rfl (m_comesOld  I13.1 (show 0 ≤ (F11 37) ∧ (F11 37) ≤ 400 by omega) (show 0 ≤ (F11 38) ∧ (F11 38) ≤ 120 by omega)) rfl rfl rfl I13.rc ?_
        rintro h39 F40 A41 I42 ⟨k44, k45, p43⟩
        have e46 : F11 36 = F 36 := k15 36 (by decide)
        replace p43 : (F40 27 = (F11 36) ∧ F40 28 = (F11 37)) ∧ (∀ j : Int, 0 ≤ j → j < (F11 37) → A41 24 j = (A12 33) j ∧ A41 25 j = (A12 34) j) ∧ (∀ p : Int, 0 ≤ p → p < 4 * (F11 37) → A41 26 p = (A12 35) p) ∧ A41 2 2 = (F11 38) ∧ (∀ k : Int, 2600 ≤ k → k < 2600 + (F11 38) → A41 1 k = (A12 39) (k - 2600)) := p43
        obtain ⟨p43a, p43b, p43c, p43d, p43e⟩ := p43
        show am_Ok _ _ _ (114, _, [], _, 0, 0) _
        have hcm : ∀ k : Int, 2600 ≤ k → k < 2600 + A0 2 2 → (A41 1) k = A0 1 k := fun k h1 h2 => by rw [p43e k h1 (by omega), hq39, i6 (k - 2600) (by omega) (by omega)]; congr 1; omega
        refine k_aload 115 rfl g0 rfl ?_
        refine k_push 116 rfl rfl ?_
        have hc47 : (5 : Int32).toInt = 5 := by decide
        refine r_pI I42 119 rfl rfl rfl (fun h48 I49 => ?_)
        refine k_aload 120 rfl g0 rfl ?_
        refine k_iload 121 rfl g1 rfl ?_
        refine r_pI I49 124 rfl rfl rfl (fun h50 I51 => ?_)
        refine k_push 125 rfl rfl ?_
        have e52 : F40 4 = F11 4 := k44 4 (by decide)
        have e53 : F11 4 = F 4 := k15 4 (by decide)
        have e54 : F40 23 = F11 23 := k44 23 (by decide)
        have e55 : F11 23 = F 23 := k15 23 (by decide)
        exact k_fin rfl rfl ⟨_, _, _, _, rfl, I51, (fr1.up (by decide) (fr1.up (by decide) (fr1.tr (by decide) (fr1.tr (by decide) hF k15) k44))), (fr2.tr (by decide) (fr2.tr (by decide) (fr2.up (by decide) hA) k16) k45), ⟨(by show nt (A41 24) (A41 25) (A41 26) (F40 28) gT (F40 27); rw [p43a.1, p43a.2]; exact hnt.agree p43b p43c), p2.fr (l := [22, 17, 16, 33, 34, 35, 39, 1, 2, 24, 25, 26, 29, 31]) (fr2.tr (by decide) (fr2.tr (by decide) (fr2.up (by decide) hA) k16) k45) (by decide), p3.fr (l := [22, 17, 16, 33, 34, 35, 39, 1, 2, 24, 25, 26, 29, 31]) (fr2.tr (by decide) (fr2.tr (by decide) (fr2.up (by decide) hA) k16) k45) (by decide), p4.congr (p43d.trans (by omega)) hcm, (show ((0 ≤ w1.toInt ∧ w1.toInt ≤ F0 4 → F40 4 = 0) ∧ (¬ (0 ≤ w1.toInt ∧ w1.toInt ≤ F0 4) → F40 4 = F0 4) ∧ 0 ≤ F40 23 ∧ F40 23 ≤ 1000000) by omega)⟩⟩
    · refine k_c2 64 rfl rfl (if_neg b3) ?_
      have b3 := mt iv_le.mpr b3
      refine k_aload 65 rfl g0 rfl ?_
      refine r_gA hI 68 rfl rfl rfl ?_
      refine k_push 71 rfl rfl ?_
      have hc56 : (2600 : Int32).toInt = 2600 := by decide
      refine k_iload 72 rfl g2 rfl ?_
      obtain ⟨x57, q58⟩ : ∃ q : Int32, q = ((2600 : Int32) + v2) := ⟨_, rfl⟩
      have e59 : x57.toInt = 2600 + v2.toInt := by rw [q58, iv_add (by omega) (by omega)]; omega
      refine k_bin x57 73 rfl q58.symm rfl ?_
      refine k_aload 74 rfl g0 rfl ?_
      refine r_gA hI 77 rfl rfl rfl ?_
      refine k_iload 78 rfl g2 rfl ?_
      refine r_ld 22 hI 79 rfl rfl (by omega) (show v2.toInt < 130 by omega) rfl (fun x60 (e61 : x60.toInt = A 22 v2.toInt) => ?_)
      have hx9 : x60.toInt = A 22 (x57.toInt - 2600) := e61.trans (congrArg (A 22) (by omega))
      refine r_st 1 hI 80 rfl rfl (by omega) (show x57.toInt < 3900 by omega) rfl (fun h62 I63 => ?_)
      have hc64 : (1 : Int32).toInt = 1 := by decide
      obtain ⟨x65, q66⟩ : ∃ q : Int32, q = v2 + (1 : Int32) := ⟨_, rfl⟩
      have e67 : x65.toInt = v2.toInt + 1 := by rw [q66, iv_add (by omega) (by omega)]; omega
      refine k_iinc x65 83 rfl g2 q66.symm rfl ?_
      refine k_goto 56 rfl rfl ?_
      exact ih _ (show ((120 - x65.toInt).toNat) < n by omega)  rfl (gs_ne rfl rfl g0) (gs_ne rfl rfl g1) gs_eq I63 hF (fr2.up (by decide) hA) (show 0 ≤ x65.toInt ∧ x65.toInt ≤ (F 23) ∧ (F 23) ≤ 120 ∧ 0 ≤ w1.toInt ∧ w1.toInt ≤ F0 4 ∧ (F 4) = 0 by omega) (by rw [up2_k (by decide)]; exact i2) (by rw [up2_k (j := 22) (by decide)]; exact co_1 i3 (by omega) hx9 (by omega)) (i4.cg (up2_k (by decide)) (up2_k (by decide)) (up2_k (by decide))) (show (F 38) = A0 2 2 by omega) (by rw [up2_k (by decide)]; exact i6)
theorem m_tell {h0 : am_h} {F0 : rf_f} {A0 : rf_A} {w1 : Int32} {gT : Int} (hR : rf_R h0 F0 A0) (p1 : nt (A0 24) (A0 25) (A0 26) (F0 28) gT (F0 27)) (p2 : wr A0) (p3 : wq A0) (p4 : tq (A0 1) (A0 2 2)) (p5 : 0 ≤ F0 4 ∧ F0 4 ≤ 700 ∧ 0 ≤ F0 23 ∧ F0 23 ≤ 1000000 ∧ 200 ≤ gT) : am_Mt 242 186 [.inr (.inr (some 81)), .inl w1] h0 (rf_Q h0 (fun x F' A' => fr1 [0, 4, 7, 8, 10, 9, 14, 11, 12, 6, 5, 23, 20, 21, 18, 36, 37, 38, 27, 28, 30, 32] F0 F' ∧ fr2 [22, 17, 16, 33, 34, 35, 39, 1, 2, 24, 25, 26, 29, 31] A0 A' ∧ (nt (A' 24) (A' 25) (A' 26) (F' 28) gT (F' 27) ∧ wr A' ∧ wq A' ∧ tq (A' 1) (A' 2 2) ∧ ((0 ≤ w1.toInt ∧ w1.toInt ≤ F0 4 → F' 4 = 0) ∧ (¬ (0 ≤ w1.toInt ∧ w1.toInt ≤ F0 4) → F' 4 = F0 4) ∧ 0 ≤ F' 23 ∧ F' 23 ≤ 1000000)))) := by
  refine am_Mt.of (D := 241) ?_
  have hI : rf_I h0 h0 F0 A0 := rf_I.start hR
  have hb1 := p1.1.1
  have hb2 := p1.1.2.1
  have hq := p4.bd
  refine k_aload 1 rfl rfl rfl ?_
  refine k_push 2 rfl rfl ?_
  have hc68 : (0 : Int32).toInt = 0 := by decide
  refine r_pI hI 5 rfl rfl rfl (fun h69 I70 => ?_)
  refine k_aload 6 rfl rfl rfl ?_
  refine k_iload 7 rfl rfl rfl ?_
  refine k_push 8 rfl rfl ?_
  refine k_aload 9 rfl rfl rfl ?_
  refine r_gI I70 12 rfl rfl rfl (fun x71 (e72 : x71.toInt = F0 4) => ?_)
  refine k_in (d := 0) rfl rfl rfl rfl rfl ?_
  refine k_iload 1 rfl rfl rfl ?_
  refine k_iload 2 rfl rfl rfl ?_
  by_cases b73 : w1 < (0 : Int32)
  · refine k_c2 14 rfl rfl (if_pos b73) ?_
    have b73 := iv_lt.mp b73
    refine k_push 15 rfl rfl ?_
    refine k_fin rfl (fin_Z (Or.inl rfl)) ⟨_, _, rfl, rf_len I70 I70, ?_⟩
    show am_Ok _ _ _ (15, _, [.inl (0 : Int32), .inr (.inr (some 81))], _, 0, 0) _
    refine k_push 16 rfl rfl ?_
    have hc74 : (1 : Int32).toInt = 1 := by decide
    refine k_in (d := 0) rfl rfl rfl rfl I70.rc ?_
    refine k_aload 1 rfl rfl rfl ?_
    refine r_gI I70 4 rfl rfl rfl (fun x75 (e76 : x75.toInt = (0 : Int32).toInt) => ?_)
    by_cases b77 : x75 = 0
    · refine k_c1 7 rfl rfl (if_pos b77) ?_
      have b77 := iv_eq0.mp b77
      refine k_iload 8 rfl rfl rfl ?_
      refine k_c1 11 rfl rfl (if_pos (by decide)) ?_
      refine k_aload 12 rfl rfl rfl ?_
      refine k_iload 13 rfl rfl rfl ?_
      refine r_pI I70 16 rfl rfl rfl (fun h78 I79 => ?_)
      refine k_aload 17 rfl rfl rfl ?_
      refine r_gI I79 20 rfl rfl rfl (fun x80 (e81 : x80.toInt = (1 : Int32).toInt) => ?_)
      by_cases b82 : x80 = 0
      · refine k_c1 23 rfl rfl (if_pos b82) ?_
        have b82 := iv_eq0.mp b82
        refine k_push 24 rfl rfl ?_
        refine k_goto 28 rfl rfl ?_
        refine k_fin rfl (fin_Z (Or.inr rfl)) ⟨_, _, rfl, rf_len I70 I79, ?_⟩
        show am_Ok _ _ _ (19, _, [.inl (1 : Int32)], _, 0, 0) _
        refine k_c1 24 rfl rfl (if_neg (by decide)) ?_
        refine k_aload 25 rfl rfl rfl ?_
        refine k_push 26 rfl rfl ?_
        refine r_pI I79 29 rfl rfl rfl (fun h83 I84 => ?_)
        refine k_aload 30 rfl rfl rfl ?_
        refine k_iload 31 rfl rfl rfl ?_
        refine r_pI I84 34 rfl rfl rfl (fun h85 I86 => ?_)
        refine k_aload 35 rfl rfl rfl ?_
        refine k_rv I86 rfl (m_readsAll  I86.1 (show 0 ≤ (w1.toInt) ∧ (w1.toInt) ≤ 700 by omega) (show 0 ≤ (F0 23) ∧ (F0 23) ≤ 1000000 by omega)) rfl rfl rfl I86.rc ?_
        rintro h88 F89 A90 I91 ⟨k93, k94, p92⟩
        replace p92 : (0 ≤ F89 23 ∧ F89 23 ≤ 1000000) ∧ (F89 6 = 0 → F89 23 ≤ 120) ∧ (F89 6 = 0 → rz (A90 22) (F89 23)) := p92
        obtain ⟨p92a, p92b, p92c⟩ := p92
        show am_Ok _ _ _ (38, _, [], _, 0, 0) _
        refine k_aload 39 rfl rfl rfl ?_
        refine k_in (d := 0) rfl rfl rfl rfl I91.rc ?_
        refine k_aload 1 rfl rfl rfl ?_
        refine r_gI I91 4 rfl rfl rfl (fun x95 (e96 : x95.toInt = F89 6) => ?_)
        by_cases b97 : x95 = 0
        · refine k_c1 7 rfl rfl (if_pos b97) ?_
          have b97 := iv_eq0.mp b97
          refine k_push 8 rfl rfl ?_
          refine k_goto 12 rfl rfl ?_
          refine k_fin rfl (fin_Z (Or.inr rfl)) ⟨_, _, rfl, rf_len I91 I91, ?_⟩
          show am_Ok _ _ _ (42, _, [.inl (1 : Int32)], _, 0, 0) _
          refine k_c1 50 rfl rfl (if_neg (by decide)) ?_
          have hrz := p92c (by omega)
          have hr1 : (A90 1) = A0 1 := (k94 1 (by decide))
          have hr2 : (A90 2) 2 = A0 2 2 := congrFun (k94 2 (by decide)) 2
          have g24 : (A90 24) = A0 24 := (k94 24 (by decide))
          have g25 : (A90 25) = A0 25 := (k94 25 (by decide))
          have g26 : (A90 26) = A0 26 := (k94 26 (by decide))
          have g27 : F89 27 = F0 27 := (k93 27 (by decide))
          have g28 : F89 28 = F0 28 := (k93 28 (by decide))
          have f23 := p92b (by omega)
          refine k_aload 51 rfl rfl rfl ?_
          have e98 : F89 28 = F0 28 := k93 28 (by decide)
          refine k_rv I91 rfl (m_keepsOld  I91.1 (show 0 ≤ (F89 28) ∧ (F89 28) ≤ 400 by omega) (show 0 ≤ (A90 2) 2 ∧ (A90 2) 2 ≤ 120 by rw [(k94 2 (by decide))]; exact ⟨by omega, hq.2⟩)) rfl rfl rfl I91.rc ?_
          rintro h100 F101 A102 I103 ⟨k105, k106, p104⟩
          have e107 : F89 27 = F0 27 := k93 27 (by decide)
          replace p104 : (F101 36 = (F89 27) ∧ F101 37 = (F89 28)) ∧ (∀ j : Int, 0 ≤ j → j < (F89 28) → A102 33 j = (A90 24) j ∧ A102 34 j = (A90 25) j) ∧ (∀ p : Int, 0 ≤ p → p < 4 * (F89 28) → A102 35 p = (A90 26) p) ∧ F101 38 = (A90 2) 2 ∧ (∀ k : Int, 0 ≤ k → k < (A90 2) 2 → A102 39 k = (A90 1) (2600 + k)) := p104
          obtain ⟨p104a, p104b, p104c, p104d, p104e⟩ := p104
          show am_Ok _ _ _ (54, _, [], _, 0, 0) _
          have hold : nt (A102 33) (A102 34) (A102 35) (F89 28) gT (F89 27) := nt.agree (by rw [g24, g25, g26, g27, g28]; exact p1) p104b p104c
          refine k_push 55 rfl rfl ?_
          refine k_istore 56 rfl rfl ?_
          have e108 : F101 23 = F89 23 := k105 23 (by decide)
          have e109 : F101 4 = F89 4 := k105 4 (by decide)
          have e110 : F89 4 = (0 : Int32).toInt := k93 4 (by decide)
          exact b_X10_tell_56 (gT := gT) (w1 := w1) p1 p2 p3 p4 p5 _  rfl (gs_ne rfl rfl rfl) (gs_ne rfl rfl rfl) gs_eq I103 (fr1.tr (by decide) (fr1.tr (by decide) (fr1.up (by decide) (fr1.up (by decide) (fr1.up (by decide) (fr1.up (by decide) fr1.rf)))) k93) k105) (fr2.tr (by decide) (fr2.tr (by decide) fr2.rf k94) k106) (show 0 ≤ (0 : Int32).toInt ∧ (0 : Int32).toInt ≤ (F101 23) ∧ (F101 23) ≤ 120 ∧ 0 ≤ w1.toInt ∧ w1.toInt ≤ F0 4 ∧ (F101 4) = 0 by omega) (show rz ((A102 22)) ((F101 23)) by rw [(k106 22 (by decide)), (k105 23 (by decide))]; exact hrz) (fun k h1 h2 => absurd h2 (by omega)) (show nt ((A102 33)) ((A102 34)) ((A102 35)) ((F101 37)) gT ((F101 36)) by rw [p104a.1, p104a.2]; exact hold) (show (F101 38) = A0 2 2 by rw [p104d, hr2]) (fun k h1 h2 => by rw [← hr1]; exact p104e k h1 (by rw [hr2]; exact h2))
        · refine k_c1 11 rfl rfl (if_neg b97) ?_
          have b97 := mt iv_eq0.mpr b97
          refine k_push 12 rfl rfl ?_
          refine k_fin rfl (fin_Z (Or.inl rfl)) ⟨_, _, rfl, rf_len I91 I91, ?_⟩
          show am_Ok _ _ _ (42, _, [.inl (0 : Int32)], _, 0, 0) _
          refine k_c1 45 rfl rfl (if_pos (by decide)) ?_
          refine k_aload 46 rfl rfl rfl ?_
          refine r_gI I91 49 rfl rfl rfl (fun x111 (e112 : x111.toInt = F89 6) => ?_)
          have e113 : F89 28 = F0 28 := k93 28 (by decide)
          have e114 : F89 27 = F0 27 := k93 27 (by decide)
          have e115 : F89 4 = (0 : Int32).toInt := k93 4 (by decide)
          exact k_fin rfl rfl ⟨_, _, _, _, rfl, I91, (fr1.tr (by decide) (fr1.up (by decide) (fr1.up (by decide) (fr1.up (by decide) (fr1.up (by decide) fr1.rf)))) k93), (fr2.tr (by decide) fr2.rf k94), ⟨by rw [(k94 24 (by decide)), (k94 25 (by decide)), (k94 26 (by decide)), (k93 28 (by decide)), (k93 27 (by decide))]; exact p1, p2.fr (l := [22, 17, 16, 33, 34, 35, 39, 1, 2, 24, 25, 26, 29, 31]) (fr2.tr (by decide) fr2.rf k94) (by decide), p3.fr (l := [22, 17, 16, 33, 34, 35, 39, 1, 2, 24, 25, 26, 29, 31]) (fr2.tr (by decide) fr2.rf k94) (by decide), by rw [(k94 1 (by decide)), (k94 2 (by decide))]; exact p4, (show ((0 ≤ w1.toInt ∧ w1.toInt ≤ F0 4 → F89 4 = 0) ∧ (¬ (0 ≤ w1.toInt ∧ w1.toInt ≤ F0 4) → F89 4 = F0 4) ∧ 0 ≤ F89 23 ∧ F89 23 ≤ 1000000) by omega)⟩⟩
      · refine k_c1 27 rfl rfl (if_neg b82) ?_
        have b82 := mt iv_eq0.mpr b82
        refine k_push 28 rfl rfl ?_
        refine k_fin rfl (fin_Z (Or.inl rfl)) ⟨_, _, rfl, rf_len I70 I79, ?_⟩
        show am_Ok _ _ _ (19, _, [.inl (0 : Int32)], _, 0, 0) _
        refine k_c1 22 rfl rfl (if_pos (by decide)) ?_
        refine k_push 23 rfl rfl ?_
        exact k_fin rfl rfl ⟨_, _, _, _, rfl, I79, (fr1.up (by decide) (fr1.up (by decide) fr1.rf)), fr2.rf, ⟨p1, p2, p3, p4, (show ((0 ≤ w1.toInt ∧ w1.toInt ≤ F0 4 → F0 4 = 0) ∧ (¬ (0 ≤ w1.toInt ∧ w1.toInt ≤ F0 4) → F0 4 = F0 4) ∧ 0 ≤ F0 23 ∧ F0 23 ≤ 1000000) by omega)⟩⟩
    · refine k_c1 16 rfl rfl (if_neg b77) ?_
      have b77 := mt iv_eq0.mpr b77
      refine k_aload 17 rfl rfl rfl ?_
      refine r_gI I70 20 rfl rfl rfl (fun x116 (e117 : x116.toInt = (0 : Int32).toInt) => ?_)
      by_cases b118 : x116 = 0
      · refine k_c1 23 rfl rfl (if_pos b118) ?_
        have b118 := iv_eq0.mp b118
        refine k_push 24 rfl rfl ?_
        refine k_goto 28 rfl rfl ?_
        refine k_fin rfl (fin_Z (Or.inr rfl)) ⟨_, _, rfl, rf_len I70 I70, ?_⟩
        show am_Ok _ _ _ (19, _, [.inl (1 : Int32)], _, 0, 0) _
        refine k_c1 24 rfl rfl (if_neg (by decide)) ?_
        refine k_aload 25 rfl rfl rfl ?_
        refine k_push 26 rfl rfl ?_
        refine r_pI I70 29 rfl rfl rfl (fun h119 I120 => ?_)
        refine k_aload 30 rfl rfl rfl ?_
        refine k_iload 31 rfl rfl rfl ?_
        refine r_pI I120 34 rfl rfl rfl (fun h121 I122 => ?_)
        refine k_aload 35 rfl rfl rfl ?_
        refine k_rv I122 rfl (m_readsAll  I122.1 (show 0 ≤ (w1.toInt) ∧ (w1.toInt) ≤ 700 by omega) (show 0 ≤ (F0 23) ∧ (F0 23) ≤ 1000000 by omega)) rfl rfl rfl I122.rc ?_
        rintro h124 F125 A126 I127 ⟨k129, k130, p128⟩
        replace p128 : (0 ≤ F125 23 ∧ F125 23 ≤ 1000000) ∧ (F125 6 = 0 → F125 23 ≤ 120) ∧ (F125 6 = 0 → rz (A126 22) (F125 23)) := p128
        obtain ⟨p128a, p128b, p128c⟩ := p128
        show am_Ok _ _ _ (38, _, [], _, 0, 0) _
        refine k_aload 39 rfl rfl rfl ?_
        refine k_in (d := 0) rfl rfl rfl rfl I127.rc ?_
        refine k_aload 1 rfl rfl rfl ?_
        refine r_gI I127 4 rfl rfl rfl (fun x131 (e132 : x131.toInt = F125 6) => ?_)
        by_cases b133 : x131 = 0
        · refine k_c1 7 rfl rfl (if_pos b133) ?_
          have b133 := iv_eq0.mp b133
          refine k_push 8 rfl rfl ?_
          refine k_goto 12 rfl rfl ?_
          refine k_fin rfl (fin_Z (Or.inr rfl)) ⟨_, _, rfl, rf_len I127 I127, ?_⟩
          show am_Ok _ _ _ (42, _, [.inl (1 : Int32)], _, 0, 0) _
          refine k_c1 50 rfl rfl (if_neg (by decide)) ?_
          have hrz := p128c (by omega)
          have hr1 : (A126 1) = A0 1 := (k130 1 (by decide))
          have hr2 : (A126 2) 2 = A0 2 2 := congrFun (k130 2 (by decide)) 2
          have g24 : (A126 24) = A0 24 := (k130 24 (by decide))
          have g25 : (A126 25) = A0 25 := (k130 25 (by decide))
          have g26 : (A126 26) = A0 26 := (k130 26 (by decide))
          have g27 : F125 27 = F0 27 := (k129 27 (by decide))
          have g28 : F125 28 = F0 28 := (k129 28 (by decide))
          have f23 := p128b (by omega)
          refine k_aload 51 rfl rfl rfl ?_
          have e134 : F125 28 = F0 28 := k129 28 (by decide)
          refine k_rv I127 rfl (m_keepsOld  I127.1 (show 0 ≤ (F125 28) ∧ (F125 28) ≤ 400 by omega) (show 0 ≤ (A126 2) 2 ∧ (A126 2) 2 ≤ 120 by rw [(k130 2 (by decide))]; exact ⟨by omega, hq.2⟩)) rfl rfl rfl I127.rc ?_
          rintro h136 F137 A138 I139 ⟨k141, k142, p140⟩
          have e143 : F125 27 = F0 27 := k129 27 (by decide)
          replace p140 : (F137 36 = (F125 27) ∧ F137 37 = (F125 28)) ∧ (∀ j : Int, 0 ≤ j → j < (F125 28) → A138 33 j = (A126 24) j ∧ A138 34 j = (A126 25) j) ∧ (∀ p : Int, 0 ≤ p → p < 4 * (F125 28) → A138 35 p = (A126 26) p) ∧ F137 38 = (A126 2) 2 ∧ (∀ k : Int, 0 ≤ k → k < (A126 2) 2 → A138 39 k = (A126 1) (2600 + k)) := p140
          obtain ⟨p140a, p140b, p140c, p140d, p140e⟩ := p140
          show am_Ok _ _ _ (54, _, [], _, 0, 0) _
          have hold : nt (A138 33) (A138 34) (A138 35) (F125 28) gT (F125 27) := nt.agree (by rw [g24, g25, g26, g27, g28]; exact p1) p140b p140c
          refine k_push 55 rfl rfl ?_
          refine k_istore 56 rfl rfl ?_
          have e144 : F137 23 = F125 23 := k141 23 (by decide)
          have e145 : F137 4 = F125 4 := k141 4 (by decide)
          have e146 : F125 4 = (0 : Int32).toInt := k129 4 (by decide)
          exact b_X10_tell_56 (gT := gT) (w1 := w1) p1 p2 p3 p4 p5 _  rfl (gs_ne rfl rfl rfl) (gs_ne rfl rfl rfl) gs_eq I139 (fr1.tr (by decide) (fr1.tr (by decide) (fr1.up (by decide) (fr1.up (by decide) (fr1.up (by decide) fr1.rf))) k129) k141) (fr2.tr (by decide) (fr2.tr (by decide) fr2.rf k130) k142) (show 0 ≤ (0 : Int32).toInt ∧ (0 : Int32).toInt ≤ (F137 23) ∧ (F137 23) ≤ 120 ∧ 0 ≤ w1.toInt ∧ w1.toInt ≤ F0 4 ∧ (F137 4) = 0 by omega) (show rz ((A138 22)) ((F137 23)) by rw [(k142 22 (by decide)), (k141 23 (by decide))]; exact hrz) (fun k h1 h2 => absurd h2 (by omega)) (show nt ((A138 33)) ((A138 34)) ((A138 35)) ((F137 37)) gT ((F137 36)) by rw [p140a.1, p140a.2]; exact hold) (show (F137 38) = A0 2 2 by rw [p140d, hr2]) (fun k h1 h2 => by rw [← hr1]; exact p140e k h1 (by rw [hr2]; exact h2))
        · refine k_c1 11 rfl rfl (if_neg b133) ?_
          have b133 := mt iv_eq0.mpr b133
          refine k_push 12 rfl rfl ?_
          refine k_fin rfl (fin_Z (Or.inl rfl)) ⟨_, _, rfl, rf_len I127 I127, ?_⟩
          show am_Ok _ _ _ (42, _, [.inl (0 : Int32)], _, 0, 0) _
          refine k_c1 45 rfl rfl (if_pos (by decide)) ?_
          refine k_aload 46 rfl rfl rfl ?_
          refine r_gI I127 49 rfl rfl rfl (fun x147 (e148 : x147.toInt = F125 6) => ?_)
          have e149 : F125 28 = F0 28 := k129 28 (by decide)
          have e150 : F125 27 = F0 27 := k129 27 (by decide)
          have e151 : F125 4 = (0 : Int32).toInt := k129 4 (by decide)
          exact k_fin rfl rfl ⟨_, _, _, _, rfl, I127, (fr1.tr (by decide) (fr1.up (by decide) (fr1.up (by decide) (fr1.up (by decide) fr1.rf))) k129), (fr2.tr (by decide) fr2.rf k130), ⟨by rw [(k130 24 (by decide)), (k130 25 (by decide)), (k130 26 (by decide)), (k129 28 (by decide)), (k129 27 (by decide))]; exact p1, p2.fr (l := [22, 17, 16, 33, 34, 35, 39, 1, 2, 24, 25, 26, 29, 31]) (fr2.tr (by decide) fr2.rf k130) (by decide), p3.fr (l := [22, 17, 16, 33, 34, 35, 39, 1, 2, 24, 25, 26, 29, 31]) (fr2.tr (by decide) fr2.rf k130) (by decide), by rw [(k130 1 (by decide)), (k130 2 (by decide))]; exact p4, (show ((0 ≤ w1.toInt ∧ w1.toInt ≤ F0 4 → F125 4 = 0) ∧ (¬ (0 ≤ w1.toInt ∧ w1.toInt ≤ F0 4) → F125 4 = F0 4) ∧ 0 ≤ F125 23 ∧ F125 23 ≤ 1000000) by omega)⟩⟩
      · refine k_c1 27 rfl rfl (if_neg b118) ?_
        have b118 := mt iv_eq0.mpr b118
        refine k_push 28 rfl rfl ?_
        refine k_fin rfl (fin_Z (Or.inl rfl)) ⟨_, _, rfl, rf_len I70 I70, ?_⟩
        show am_Ok _ _ _ (19, _, [.inl (0 : Int32)], _, 0, 0) _
        refine k_c1 22 rfl rfl (if_pos (by decide)) ?_
        refine k_push 23 rfl rfl ?_
        exact k_fin rfl rfl ⟨_, _, _, _, rfl, I70, (fr1.up (by decide) fr1.rf), fr2.rf, ⟨p1, p2, p3, p4, (show ((0 ≤ w1.toInt ∧ w1.toInt ≤ F0 4 → F0 4 = 0) ∧ (¬ (0 ≤ w1.toInt ∧ w1.toInt ≤ F0 4) → F0 4 = F0 4) ∧ 0 ≤ F0 23 ∧ F0 23 ≤ 1000000) by omega)⟩⟩
  · refine k_c2 5 rfl rfl (if_neg b73) ?_
    have b73 := mt iv_lt.mpr b73
    refine k_iload 6 rfl rfl rfl ?_
    refine k_iload 7 rfl rfl rfl ?_
    by_cases b152 : x71 < w1
    · refine k_c2 14 rfl rfl (if_pos b152) ?_
      have b152 := iv_lt.mp b152
      refine k_push 15 rfl rfl ?_
      refine k_fin rfl (fin_Z (Or.inl rfl)) ⟨_, _, rfl, rf_len I70 I70, ?_⟩
      show am_Ok _ _ _ (15, _, [.inl (0 : Int32), .inr (.inr (some 81))], _, 0, 0) _
      refine k_push 16 rfl rfl ?_
      have hc153 : (1 : Int32).toInt = 1 := by decide
      refine k_in (d := 0) rfl rfl rfl rfl I70.rc ?_
      refine k_aload 1 rfl rfl rfl ?_
      refine r_gI I70 4 rfl rfl rfl (fun x154 (e155 : x154.toInt = (0 : Int32).toInt) => ?_)
      by_cases b156 : x154 = 0
      · refine k_c1 7 rfl rfl (if_pos b156) ?_
        have b156 := iv_eq0.mp b156
        refine k_iload 8 rfl rfl rfl ?_
        refine k_c1 11 rfl rfl (if_pos (by decide)) ?_
        refine k_aload 12 rfl rfl rfl ?_
        refine k_iload 13 rfl rfl rfl ?_
        refine r_pI I70 16 rfl rfl rfl (fun h157 I158 => ?_)
        refine k_aload 17 rfl rfl rfl ?_
        refine r_gI I158 20 rfl rfl rfl (fun x159 (e160 : x159.toInt = (1 : Int32).toInt) => ?_)
        by_cases b161 : x159 = 0
        · refine k_c1 23 rfl rfl (if_pos b161) ?_
          have b161 := iv_eq0.mp b161
          refine k_push 24 rfl rfl ?_
          refine k_goto 28 rfl rfl ?_
          refine k_fin rfl (fin_Z (Or.inr rfl)) ⟨_, _, rfl, rf_len I70 I158, ?_⟩
          show am_Ok _ _ _ (19, _, [.inl (1 : Int32)], _, 0, 0) _
          refine k_c1 24 rfl rfl (if_neg (by decide)) ?_
          refine k_aload 25 rfl rfl rfl ?_
          refine k_push 26 rfl rfl ?_
          refine r_pI I158 29 rfl rfl rfl (fun h162 I163 => ?_)
          refine k_aload 30 rfl rfl rfl ?_
          refine k_iload 31 rfl rfl rfl ?_
          refine r_pI I163 34 rfl rfl rfl (fun h164 I165 => ?_)
          refine k_aload 35 rfl rfl rfl ?_
          refine k_rv I165 rfl (m_readsAll  I165.1 (show 0 ≤ (w1.toInt) ∧ (w1.toInt) ≤ 700 by omega) (show 0 ≤ (F0 23) ∧ (F0 23) ≤ 1000000 by omega)) rfl rfl rfl I165.rc ?_
          rintro h167 F168 A169 I170 ⟨k172, k173, p171⟩
          replace p171 : (0 ≤ F168 23 ∧ F168 23 ≤ 1000000) ∧ (F168 6 = 0 → F168 23 ≤ 120) ∧ (F168 6 = 0 → rz (A169 22) (F168 23)) := p171
          obtain ⟨p171a, p171b, p171c⟩ := p171
          show am_Ok _ _ _ (38, _, [], _, 0, 0) _
          refine k_aload 39 rfl rfl rfl ?_
          refine k_in (d := 0) rfl rfl rfl rfl I170.rc ?_
          refine k_aload 1 rfl rfl rfl ?_
          refine r_gI I170 4 rfl rfl rfl (fun x174 (e175 : x174.toInt = F168 6) => ?_)
          by_cases b176 : x174 = 0
          · refine k_c1 7 rfl rfl (if_pos b176) ?_
            have b176 := iv_eq0.mp b176
            refine k_push 8 rfl rfl ?_
            refine k_goto 12 rfl rfl ?_
            refine k_fin rfl (fin_Z (Or.inr rfl)) ⟨_, _, rfl, rf_len I170 I170, ?_⟩
            show am_Ok _ _ _ (42, _, [.inl (1 : Int32)], _, 0, 0) _
            refine k_c1 50 rfl rfl (if_neg (by decide)) ?_
            have hrz := p171c (by omega)
            have hr1 : (A169 1) = A0 1 := (k173 1 (by decide))
            have hr2 : (A169 2) 2 = A0 2 2 := congrFun (k173 2 (by decide)) 2
            have g24 : (A169 24) = A0 24 := (k173 24 (by decide))
            have g25 : (A169 25) = A0 25 := (k173 25 (by decide))
            have g26 : (A169 26) = A0 26 := (k173 26 (by decide))
            have g27 : F168 27 = F0 27 := (k172 27 (by decide))
            have g28 : F168 28 = F0 28 := (k172 28 (by decide))
            have f23 := p171b (by omega)
            refine k_aload 51 rfl rfl rfl ?_
            have e177 : F168 28 = F0 28 := k172 28 (by decide)
            refine k_rv I170 rfl (m_keepsOld  I170.1 (show 0 ≤ (F168 28) ∧ (F168 28) ≤ 400 by omega) (show 0 ≤ (A169 2) 2 ∧ (A169 2) 2 ≤ 120 by rw [(k173 2 (by decide))]; exact ⟨by omega, hq.2⟩)) rfl rfl rfl I170.rc ?_
            rintro h179 F180 A181 I182 ⟨k184, k185, p183⟩
            have e186 : F168 27 = F0 27 := k172 27 (by decide)
            replace p183 : (F180 36 = (F168 27) ∧ F180 37 = (F168 28)) ∧ (∀ j : Int, 0 ≤ j → j < (F168 28) → A181 33 j = (A169 24) j ∧ A181 34 j = (A169 25) j) ∧ (∀ p : Int, 0 ≤ p → p < 4 * (F168 28) → A181 35 p = (A169 26) p) ∧ F180 38 = (A169 2) 2 ∧ (∀ k : Int, 0 ≤ k → k < (A169 2) 2 → A181 39 k = (A169 1) (2600 + k)) := p183
            obtain ⟨p183a, p183b, p183c, p183d, p183e⟩ := p183
            show am_Ok _ _ _ (54, _, [], _, 0, 0) _
            have hold : nt (A181 33) (A181 34) (A181 35) (F168 28) gT (F168 27) := nt.agree (by rw [g24, g25, g26, g27, g28]; exact p1) p183b p183c
            refine k_push 55 rfl rfl ?_
            refine k_istore 56 rfl rfl ?_
            have e187 : F180 23 = F168 23 := k184 23 (by decide)
            have e188 : F180 4 = F168 4 := k184 4 (by decide)
            have e189 : F168 4 = (0 : Int32).toInt := k172 4 (by decide)
            exact b_X10_tell_56 (gT := gT) (w1 := w1) p1 p2 p3 p4 p5 _  rfl (gs_ne rfl rfl rfl) (gs_ne rfl rfl rfl) gs_eq I182 (fr1.tr (by decide) (fr1.tr (by decide) (fr1.up (by decide) (fr1.up (by decide) (fr1.up (by decide) (fr1.up (by decide) fr1.rf)))) k172) k184) (fr2.tr (by decide) (fr2.tr (by decide) fr2.rf k173) k185) (show 0 ≤ (0 : Int32).toInt ∧ (0 : Int32).toInt ≤ (F180 23) ∧ (F180 23) ≤ 120 ∧ 0 ≤ w1.toInt ∧ w1.toInt ≤ F0 4 ∧ (F180 4) = 0 by omega) (show rz ((A181 22)) ((F180 23)) by rw [(k185 22 (by decide)), (k184 23 (by decide))]; exact hrz) (fun k h1 h2 => absurd h2 (by omega)) (show nt ((A181 33)) ((A181 34)) ((A181 35)) ((F180 37)) gT ((F180 36)) by rw [p183a.1, p183a.2]; exact hold) (show (F180 38) = A0 2 2 by rw [p183d, hr2]) (fun k h1 h2 => by rw [← hr1]; exact p183e k h1 (by rw [hr2]; exact h2))
          · refine k_c1 11 rfl rfl (if_neg b176) ?_
            have b176 := mt iv_eq0.mpr b176
            refine k_push 12 rfl rfl ?_
            refine k_fin rfl (fin_Z (Or.inl rfl)) ⟨_, _, rfl, rf_len I170 I170, ?_⟩
            show am_Ok _ _ _ (42, _, [.inl (0 : Int32)], _, 0, 0) _
            refine k_c1 45 rfl rfl (if_pos (by decide)) ?_
            refine k_aload 46 rfl rfl rfl ?_
            refine r_gI I170 49 rfl rfl rfl (fun x190 (e191 : x190.toInt = F168 6) => ?_)
            have e192 : F168 28 = F0 28 := k172 28 (by decide)
            have e193 : F168 27 = F0 27 := k172 27 (by decide)
            have e194 : F168 4 = (0 : Int32).toInt := k172 4 (by decide)
            exact k_fin rfl rfl ⟨_, _, _, _, rfl, I170, (fr1.tr (by decide) (fr1.up (by decide) (fr1.up (by decide) (fr1.up (by decide) (fr1.up (by decide) fr1.rf)))) k172), (fr2.tr (by decide) fr2.rf k173), ⟨by rw [(k173 24 (by decide)), (k173 25 (by decide)), (k173 26 (by decide)), (k172 28 (by decide)), (k172 27 (by decide))]; exact p1, p2.fr (l := [22, 17, 16, 33, 34, 35, 39, 1, 2, 24, 25, 26, 29, 31]) (fr2.tr (by decide) fr2.rf k173) (by decide), p3.fr (l := [22, 17, 16, 33, 34, 35, 39, 1, 2, 24, 25, 26, 29, 31]) (fr2.tr (by decide) fr2.rf k173) (by decide), by rw [(k173 1 (by decide)), (k173 2 (by decide))]; exact p4, (show ((0 ≤ w1.toInt ∧ w1.toInt ≤ F0 4 → F168 4 = 0) ∧ (¬ (0 ≤ w1.toInt ∧ w1.toInt ≤ F0 4) → F168 4 = F0 4) ∧ 0 ≤ F168 23 ∧ F168 23 ≤ 1000000) by omega)⟩⟩
        · refine k_c1 27 rfl rfl (if_neg b161) ?_
          have b161 := mt iv_eq0.mpr b161
          refine k_push 28 rfl rfl ?_
          refine k_fin rfl (fin_Z (Or.inl rfl)) ⟨_, _, rfl, rf_len I70 I158, ?_⟩
          show am_Ok _ _ _ (19, _, [.inl (0 : Int32)], _, 0, 0) _
          refine k_c1 22 rfl rfl (if_pos (by decide)) ?_
          refine k_push 23 rfl rfl ?_
          exact k_fin rfl rfl ⟨_, _, _, _, rfl, I158, (fr1.up (by decide) (fr1.up (by decide) fr1.rf)), fr2.rf, ⟨p1, p2, p3, p4, (show ((0 ≤ w1.toInt ∧ w1.toInt ≤ F0 4 → F0 4 = 0) ∧ (¬ (0 ≤ w1.toInt ∧ w1.toInt ≤ F0 4) → F0 4 = F0 4) ∧ 0 ≤ F0 23 ∧ F0 23 ≤ 1000000) by omega)⟩⟩
      · refine k_c1 16 rfl rfl (if_neg b156) ?_
        have b156 := mt iv_eq0.mpr b156
        refine k_aload 17 rfl rfl rfl ?_
        refine r_gI I70 20 rfl rfl rfl (fun x195 (e196 : x195.toInt = (0 : Int32).toInt) => ?_)
        by_cases b197 : x195 = 0
        · refine k_c1 23 rfl rfl (if_pos b197) ?_
          have b197 := iv_eq0.mp b197
          refine k_push 24 rfl rfl ?_
          refine k_goto 28 rfl rfl ?_
          refine k_fin rfl (fin_Z (Or.inr rfl)) ⟨_, _, rfl, rf_len I70 I70, ?_⟩
          show am_Ok _ _ _ (19, _, [.inl (1 : Int32)], _, 0, 0) _
          refine k_c1 24 rfl rfl (if_neg (by decide)) ?_
          refine k_aload 25 rfl rfl rfl ?_
          refine k_push 26 rfl rfl ?_
          refine r_pI I70 29 rfl rfl rfl (fun h198 I199 => ?_)
          refine k_aload 30 rfl rfl rfl ?_
          refine k_iload 31 rfl rfl rfl ?_
          refine r_pI I199 34 rfl rfl rfl (fun h200 I201 => ?_)
          refine k_aload 35 rfl rfl rfl ?_
          refine k_rv I201 rfl (m_readsAll  I201.1 (show 0 ≤ (w1.toInt) ∧ (w1.toInt) ≤ 700 by omega) (show 0 ≤ (F0 23) ∧ (F0 23) ≤ 1000000 by omega)) rfl rfl rfl I201.rc ?_
          rintro h203 F204 A205 I206 ⟨k208, k209, p207⟩
          replace p207 : (0 ≤ F204 23 ∧ F204 23 ≤ 1000000) ∧ (F204 6 = 0 → F204 23 ≤ 120) ∧ (F204 6 = 0 → rz (A205 22) (F204 23)) := p207
          obtain ⟨p207a, p207b, p207c⟩ := p207
          show am_Ok _ _ _ (38, _, [], _, 0, 0) _
          refine k_aload 39 rfl rfl rfl ?_
          refine k_in (d := 0) rfl rfl rfl rfl I206.rc ?_
          refine k_aload 1 rfl rfl rfl ?_
          refine r_gI I206 4 rfl rfl rfl (fun x210 (e211 : x210.toInt = F204 6) => ?_)
          by_cases b212 : x210 = 0
          · refine k_c1 7 rfl rfl (if_pos b212) ?_
            have b212 := iv_eq0.mp b212
            refine k_push 8 rfl rfl ?_
            refine k_goto 12 rfl rfl ?_
            refine k_fin rfl (fin_Z (Or.inr rfl)) ⟨_, _, rfl, rf_len I206 I206, ?_⟩
            show am_Ok _ _ _ (42, _, [.inl (1 : Int32)], _, 0, 0) _
            refine k_c1 50 rfl rfl (if_neg (by decide)) ?_
            have hrz := p207c (by omega)
            have hr1 : (A205 1) = A0 1 := (k209 1 (by decide))
            have hr2 : (A205 2) 2 = A0 2 2 := congrFun (k209 2 (by decide)) 2
            have g24 : (A205 24) = A0 24 := (k209 24 (by decide))
            have g25 : (A205 25) = A0 25 := (k209 25 (by decide))
            have g26 : (A205 26) = A0 26 := (k209 26 (by decide))
            have g27 : F204 27 = F0 27 := (k208 27 (by decide))
            have g28 : F204 28 = F0 28 := (k208 28 (by decide))
            have f23 := p207b (by omega)
            refine k_aload 51 rfl rfl rfl ?_
            have e213 : F204 28 = F0 28 := k208 28 (by decide)
            refine k_rv I206 rfl (m_keepsOld  I206.1 (show 0 ≤ (F204 28) ∧ (F204 28) ≤ 400 by omega) (show 0 ≤ (A205 2) 2 ∧ (A205 2) 2 ≤ 120 by rw [(k209 2 (by decide))]; exact ⟨by omega, hq.2⟩)) rfl rfl rfl I206.rc ?_
            rintro h215 F216 A217 I218 ⟨k220, k221, p219⟩
            have e222 : F204 27 = F0 27 := k208 27 (by decide)
            replace p219 : (F216 36 = (F204 27) ∧ F216 37 = (F204 28)) ∧ (∀ j : Int, 0 ≤ j → j < (F204 28) → A217 33 j = (A205 24) j ∧ A217 34 j = (A205 25) j) ∧ (∀ p : Int, 0 ≤ p → p < 4 * (F204 28) → A217 35 p = (A205 26) p) ∧ F216 38 = (A205 2) 2 ∧ (∀ k : Int, 0 ≤ k → k < (A205 2) 2 → A217 39 k = (A205 1) (2600 + k)) := p219
            obtain ⟨p219a, p219b, p219c, p219d, p219e⟩ := p219
            show am_Ok _ _ _ (54, _, [], _, 0, 0) _
            have hold : nt (A217 33) (A217 34) (A217 35) (F204 28) gT (F204 27) := nt.agree (by rw [g24, g25, g26, g27, g28]; exact p1) p219b p219c
            refine k_push 55 rfl rfl ?_
            refine k_istore 56 rfl rfl ?_
            have e223 : F216 23 = F204 23 := k220 23 (by decide)
            have e224 : F216 4 = F204 4 := k220 4 (by decide)
            have e225 : F204 4 = (0 : Int32).toInt := k208 4 (by decide)
            exact b_X10_tell_56 (gT := gT) (w1 := w1) p1 p2 p3 p4 p5 _  rfl (gs_ne rfl rfl rfl) (gs_ne rfl rfl rfl) gs_eq I218 (fr1.tr (by decide) (fr1.tr (by decide) (fr1.up (by decide) (fr1.up (by decide) (fr1.up (by decide) fr1.rf))) k208) k220) (fr2.tr (by decide) (fr2.tr (by decide) fr2.rf k209) k221) (show 0 ≤ (0 : Int32).toInt ∧ (0 : Int32).toInt ≤ (F216 23) ∧ (F216 23) ≤ 120 ∧ 0 ≤ w1.toInt ∧ w1.toInt ≤ F0 4 ∧ (F216 4) = 0 by omega) (show rz ((A217 22)) ((F216 23)) by rw [(k221 22 (by decide)), (k220 23 (by decide))]; exact hrz) (fun k h1 h2 => absurd h2 (by omega)) (show nt ((A217 33)) ((A217 34)) ((A217 35)) ((F216 37)) gT ((F216 36)) by rw [p219a.1, p219a.2]; exact hold) (show (F216 38) = A0 2 2 by rw [p219d, hr2]) (fun k h1 h2 => by rw [← hr1]; exact p219e k h1 (by rw [hr2]; exact h2))
          · refine k_c1 11 rfl rfl (if_neg b212) ?_
            have b212 := mt iv_eq0.mpr b212
            refine k_push 12 rfl rfl ?_
            refine k_fin rfl (fin_Z (Or.inl rfl)) ⟨_, _, rfl, rf_len I206 I206, ?_⟩
            show am_Ok _ _ _ (42, _, [.inl (0 : Int32)], _, 0, 0) _
            refine k_c1 45 rfl rfl (if_pos (by decide)) ?_
            refine k_aload 46 rfl rfl rfl ?_
            refine r_gI I206 49 rfl rfl rfl (fun x226 (e227 : x226.toInt = F204 6) => ?_)
            have e228 : F204 28 = F0 28 := k208 28 (by decide)
            have e229 : F204 27 = F0 27 := k208 27 (by decide)
            have e230 : F204 4 = (0 : Int32).toInt := k208 4 (by decide)
            exact k_fin rfl rfl ⟨_, _, _, _, rfl, I206, (fr1.tr (by decide) (fr1.up (by decide) (fr1.up (by decide) (fr1.up (by decide) fr1.rf))) k208), (fr2.tr (by decide) fr2.rf k209), ⟨by rw [(k209 24 (by decide)), (k209 25 (by decide)), (k209 26 (by decide)), (k208 28 (by decide)), (k208 27 (by decide))]; exact p1, p2.fr (l := [22, 17, 16, 33, 34, 35, 39, 1, 2, 24, 25, 26, 29, 31]) (fr2.tr (by decide) fr2.rf k209) (by decide), p3.fr (l := [22, 17, 16, 33, 34, 35, 39, 1, 2, 24, 25, 26, 29, 31]) (fr2.tr (by decide) fr2.rf k209) (by decide), by rw [(k209 1 (by decide)), (k209 2 (by decide))]; exact p4, (show ((0 ≤ w1.toInt ∧ w1.toInt ≤ F0 4 → F204 4 = 0) ∧ (¬ (0 ≤ w1.toInt ∧ w1.toInt ≤ F0 4) → F204 4 = F0 4) ∧ 0 ≤ F204 23 ∧ F204 23 ≤ 1000000) by omega)⟩⟩
        · refine k_c1 27 rfl rfl (if_neg b197) ?_
          have b197 := mt iv_eq0.mpr b197
          refine k_push 28 rfl rfl ?_
          refine k_fin rfl (fin_Z (Or.inl rfl)) ⟨_, _, rfl, rf_len I70 I70, ?_⟩
          show am_Ok _ _ _ (19, _, [.inl (0 : Int32)], _, 0, 0) _
          refine k_c1 22 rfl rfl (if_pos (by decide)) ?_
          refine k_push 23 rfl rfl ?_
          exact k_fin rfl rfl ⟨_, _, _, _, rfl, I70, (fr1.up (by decide) fr1.rf), fr2.rf, ⟨p1, p2, p3, p4, (show ((0 ≤ w1.toInt ∧ w1.toInt ≤ F0 4 → F0 4 = 0) ∧ (¬ (0 ≤ w1.toInt ∧ w1.toInt ≤ F0 4) → F0 4 = F0 4) ∧ 0 ≤ F0 23 ∧ F0 23 ≤ 1000000) by omega)⟩⟩
    · refine k_c2 10 rfl rfl (if_neg b152) ?_
      have b152 := mt iv_lt.mpr b152
      refine k_push 11 rfl rfl ?_
      have hc231 : (1 : Int32).toInt = 1 := by decide
      refine k_goto 15 rfl rfl ?_
      refine k_fin rfl (fin_Z (Or.inr rfl)) ⟨_, _, rfl, rf_len I70 I70, ?_⟩
      show am_Ok _ _ _ (15, _, [.inl (1 : Int32), .inr (.inr (some 81))], _, 0, 0) _
      refine k_push 16 rfl rfl ?_
      refine k_in (d := 0) rfl rfl rfl rfl I70.rc ?_
      refine k_aload 1 rfl rfl rfl ?_
      refine r_gI I70 4 rfl rfl rfl (fun x232 (e233 : x232.toInt = (0 : Int32).toInt) => ?_)
      by_cases b234 : x232 = 0
      · refine k_c1 7 rfl rfl (if_pos b234) ?_
        have b234 := iv_eq0.mp b234
        refine k_iload 8 rfl rfl rfl ?_
        refine k_c1 16 rfl rfl (if_neg (by decide)) ?_
        refine k_aload 17 rfl rfl rfl ?_
        refine r_gI I70 20 rfl rfl rfl (fun x235 (e236 : x235.toInt = (0 : Int32).toInt) => ?_)
        by_cases b237 : x235 = 0
        · refine k_c1 23 rfl rfl (if_pos b237) ?_
          have b237 := iv_eq0.mp b237
          refine k_push 24 rfl rfl ?_
          refine k_goto 28 rfl rfl ?_
          refine k_fin rfl (fin_Z (Or.inr rfl)) ⟨_, _, rfl, rf_len I70 I70, ?_⟩
          show am_Ok _ _ _ (19, _, [.inl (1 : Int32)], _, 0, 0) _
          refine k_c1 24 rfl rfl (if_neg (by decide)) ?_
          refine k_aload 25 rfl rfl rfl ?_
          refine k_push 26 rfl rfl ?_
          refine r_pI I70 29 rfl rfl rfl (fun h238 I239 => ?_)
          refine k_aload 30 rfl rfl rfl ?_
          refine k_iload 31 rfl rfl rfl ?_
          refine r_pI I239 34 rfl rfl rfl (fun h240 I241 => ?_)
          refine k_aload 35 rfl rfl rfl ?_
          refine k_rv I241 rfl (m_readsAll  I241.1 (show 0 ≤ (w1.toInt) ∧ (w1.toInt) ≤ 700 by omega) (show 0 ≤ (F0 23) ∧ (F0 23) ≤ 1000000 by omega)) rfl rfl rfl I241.rc ?_
          rintro h243 F244 A245 I246 ⟨k248, k249, p247⟩
          replace p247 : (0 ≤ F244 23 ∧ F244 23 ≤ 1000000) ∧ (F244 6 = 0 → F244 23 ≤ 120) ∧ (F244 6 = 0 → rz (A245 22) (F244 23)) := p247
          obtain ⟨p247a, p247b, p247c⟩ := p247
          show am_Ok _ _ _ (38, _, [], _, 0, 0) _
          refine k_aload 39 rfl rfl rfl ?_
          refine k_in (d := 0) rfl rfl rfl rfl I246.rc ?_
          refine k_aload 1 rfl rfl rfl ?_
          refine r_gI I246 4 rfl rfl rfl (fun x250 (e251 : x250.toInt = F244 6) => ?_)
          by_cases b252 : x250 = 0
          · refine k_c1 7 rfl rfl (if_pos b252) ?_
            have b252 := iv_eq0.mp b252
            refine k_push 8 rfl rfl ?_
            refine k_goto 12 rfl rfl ?_
            refine k_fin rfl (fin_Z (Or.inr rfl)) ⟨_, _, rfl, rf_len I246 I246, ?_⟩
            show am_Ok _ _ _ (42, _, [.inl (1 : Int32)], _, 0, 0) _
            refine k_c1 50 rfl rfl (if_neg (by decide)) ?_
            have hrz := p247c (by omega)
            have hr1 : (A245 1) = A0 1 := (k249 1 (by decide))
            have hr2 : (A245 2) 2 = A0 2 2 := congrFun (k249 2 (by decide)) 2
            have g24 : (A245 24) = A0 24 := (k249 24 (by decide))
            have g25 : (A245 25) = A0 25 := (k249 25 (by decide))
            have g26 : (A245 26) = A0 26 := (k249 26 (by decide))
            have g27 : F244 27 = F0 27 := (k248 27 (by decide))
            have g28 : F244 28 = F0 28 := (k248 28 (by decide))
            have f23 := p247b (by omega)
            refine k_aload 51 rfl rfl rfl ?_
            have e253 : F244 28 = F0 28 := k248 28 (by decide)
            refine k_rv I246 rfl (m_keepsOld  I246.1 (show 0 ≤ (F244 28) ∧ (F244 28) ≤ 400 by omega) (show 0 ≤ (A245 2) 2 ∧ (A245 2) 2 ≤ 120 by rw [(k249 2 (by decide))]; exact ⟨by omega, hq.2⟩)) rfl rfl rfl I246.rc ?_
            rintro h255 F256 A257 I258 ⟨k260, k261, p259⟩
            have e262 : F244 27 = F0 27 := k248 27 (by decide)
            replace p259 : (F256 36 = (F244 27) ∧ F256 37 = (F244 28)) ∧ (∀ j : Int, 0 ≤ j → j < (F244 28) → A257 33 j = (A245 24) j ∧ A257 34 j = (A245 25) j) ∧ (∀ p : Int, 0 ≤ p → p < 4 * (F244 28) → A257 35 p = (A245 26) p) ∧ F256 38 = (A245 2) 2 ∧ (∀ k : Int, 0 ≤ k → k < (A245 2) 2 → A257 39 k = (A245 1) (2600 + k)) := p259
            obtain ⟨p259a, p259b, p259c, p259d, p259e⟩ := p259
            show am_Ok _ _ _ (54, _, [], _, 0, 0) _
            have hold : nt (A257 33) (A257 34) (A257 35) (F244 28) gT (F244 27) := nt.agree (by rw [g24, g25, g26, g27, g28]; exact p1) p259b p259c
            refine k_push 55 rfl rfl ?_
            refine k_istore 56 rfl rfl ?_
            have e263 : F256 23 = F244 23 := k260 23 (by decide)
            have e264 : F256 4 = F244 4 := k260 4 (by decide)
            have e265 : F244 4 = (0 : Int32).toInt := k248 4 (by decide)
            exact b_X10_tell_56 (gT := gT) (w1 := w1) p1 p2 p3 p4 p5 _  rfl (gs_ne rfl rfl rfl) (gs_ne rfl rfl rfl) gs_eq I258 (fr1.tr (by decide) (fr1.tr (by decide) (fr1.up (by decide) (fr1.up (by decide) (fr1.up (by decide) fr1.rf))) k248) k260) (fr2.tr (by decide) (fr2.tr (by decide) fr2.rf k249) k261) (show 0 ≤ (0 : Int32).toInt ∧ (0 : Int32).toInt ≤ (F256 23) ∧ (F256 23) ≤ 120 ∧ 0 ≤ w1.toInt ∧ w1.toInt ≤ F0 4 ∧ (F256 4) = 0 by omega) (show rz ((A257 22)) ((F256 23)) by rw [(k261 22 (by decide)), (k260 23 (by decide))]; exact hrz) (fun k h1 h2 => absurd h2 (by omega)) (show nt ((A257 33)) ((A257 34)) ((A257 35)) ((F256 37)) gT ((F256 36)) by rw [p259a.1, p259a.2]; exact hold) (show (F256 38) = A0 2 2 by rw [p259d, hr2]) (fun k h1 h2 => by rw [← hr1]; exact p259e k h1 (by rw [hr2]; exact h2))
          · refine k_c1 11 rfl rfl (if_neg b252) ?_
            have b252 := mt iv_eq0.mpr b252
            refine k_push 12 rfl rfl ?_
            refine k_fin rfl (fin_Z (Or.inl rfl)) ⟨_, _, rfl, rf_len I246 I246, ?_⟩
            show am_Ok _ _ _ (42, _, [.inl (0 : Int32)], _, 0, 0) _
            refine k_c1 45 rfl rfl (if_pos (by decide)) ?_
            refine k_aload 46 rfl rfl rfl ?_
            refine r_gI I246 49 rfl rfl rfl (fun x266 (e267 : x266.toInt = F244 6) => ?_)
            have e268 : F244 28 = F0 28 := k248 28 (by decide)
            have e269 : F244 27 = F0 27 := k248 27 (by decide)
            have e270 : F244 4 = (0 : Int32).toInt := k248 4 (by decide)
            exact k_fin rfl rfl ⟨_, _, _, _, rfl, I246, (fr1.tr (by decide) (fr1.up (by decide) (fr1.up (by decide) (fr1.up (by decide) fr1.rf))) k248), (fr2.tr (by decide) fr2.rf k249), ⟨by rw [(k249 24 (by decide)), (k249 25 (by decide)), (k249 26 (by decide)), (k248 28 (by decide)), (k248 27 (by decide))]; exact p1, p2.fr (l := [22, 17, 16, 33, 34, 35, 39, 1, 2, 24, 25, 26, 29, 31]) (fr2.tr (by decide) fr2.rf k249) (by decide), p3.fr (l := [22, 17, 16, 33, 34, 35, 39, 1, 2, 24, 25, 26, 29, 31]) (fr2.tr (by decide) fr2.rf k249) (by decide), by rw [(k249 1 (by decide)), (k249 2 (by decide))]; exact p4, (show ((0 ≤ w1.toInt ∧ w1.toInt ≤ F0 4 → F244 4 = 0) ∧ (¬ (0 ≤ w1.toInt ∧ w1.toInt ≤ F0 4) → F244 4 = F0 4) ∧ 0 ≤ F244 23 ∧ F244 23 ≤ 1000000) by omega)⟩⟩
        · refine k_c1 27 rfl rfl (if_neg b237) ?_
          have b237 := mt iv_eq0.mpr b237
          refine k_push 28 rfl rfl ?_
          refine k_fin rfl (fin_Z (Or.inl rfl)) ⟨_, _, rfl, rf_len I70 I70, ?_⟩
          show am_Ok _ _ _ (19, _, [.inl (0 : Int32)], _, 0, 0) _
          refine k_c1 22 rfl rfl (if_pos (by decide)) ?_
          refine k_push 23 rfl rfl ?_
          exact k_fin rfl rfl ⟨_, _, _, _, rfl, I70, (fr1.up (by decide) fr1.rf), fr2.rf, ⟨p1, p2, p3, p4, (show ((0 ≤ w1.toInt ∧ w1.toInt ≤ F0 4 → F0 4 = 0) ∧ (¬ (0 ≤ w1.toInt ∧ w1.toInt ≤ F0 4) → F0 4 = F0 4) ∧ 0 ≤ F0 23 ∧ F0 23 ≤ 1000000) by omega)⟩⟩
      · refine k_c1 16 rfl rfl (if_neg b234) ?_
        have b234 := mt iv_eq0.mpr b234
        refine k_aload 17 rfl rfl rfl ?_
        refine r_gI I70 20 rfl rfl rfl (fun x271 (e272 : x271.toInt = (0 : Int32).toInt) => ?_)
        by_cases b273 : x271 = 0
        · refine k_c1 23 rfl rfl (if_pos b273) ?_
          have b273 := iv_eq0.mp b273
          refine k_push 24 rfl rfl ?_
          refine k_goto 28 rfl rfl ?_
          refine k_fin rfl (fin_Z (Or.inr rfl)) ⟨_, _, rfl, rf_len I70 I70, ?_⟩
          show am_Ok _ _ _ (19, _, [.inl (1 : Int32)], _, 0, 0) _
          refine k_c1 24 rfl rfl (if_neg (by decide)) ?_
          refine k_aload 25 rfl rfl rfl ?_
          refine k_push 26 rfl rfl ?_
          refine r_pI I70 29 rfl rfl rfl (fun h274 I275 => ?_)
          refine k_aload 30 rfl rfl rfl ?_
          refine k_iload 31 rfl rfl rfl ?_
          refine r_pI I275 34 rfl rfl rfl (fun h276 I277 => ?_)
          refine k_aload 35 rfl rfl rfl ?_
          refine k_rv I277 rfl (m_readsAll  I277.1 (show 0 ≤ (w1.toInt) ∧ (w1.toInt) ≤ 700 by omega) (show 0 ≤ (F0 23) ∧ (F0 23) ≤ 1000000 by omega)) rfl rfl rfl I277.rc ?_
          rintro h279 F280 A281 I282 ⟨k284, k285, p283⟩
          replace p283 : (0 ≤ F280 23 ∧ F280 23 ≤ 1000000) ∧ (F280 6 = 0 → F280 23 ≤ 120) ∧ (F280 6 = 0 → rz (A281 22) (F280 23)) := p283
          obtain ⟨p283a, p283b, p283c⟩ := p283
          show am_Ok _ _ _ (38, _, [], _, 0, 0) _
          refine k_aload 39 rfl rfl rfl ?_
          refine k_in (d := 0) rfl rfl rfl rfl I282.rc ?_
          refine k_aload 1 rfl rfl rfl ?_
          refine r_gI I282 4 rfl rfl rfl (fun x286 (e287 : x286.toInt = F280 6) => ?_)
          by_cases b288 : x286 = 0
          · refine k_c1 7 rfl rfl (if_pos b288) ?_
            have b288 := iv_eq0.mp b288
            refine k_push 8 rfl rfl ?_
            refine k_goto 12 rfl rfl ?_
            refine k_fin rfl (fin_Z (Or.inr rfl)) ⟨_, _, rfl, rf_len I282 I282, ?_⟩
            show am_Ok _ _ _ (42, _, [.inl (1 : Int32)], _, 0, 0) _
            refine k_c1 50 rfl rfl (if_neg (by decide)) ?_
            have hrz := p283c (by omega)
            have hr1 : (A281 1) = A0 1 := (k285 1 (by decide))
            have hr2 : (A281 2) 2 = A0 2 2 := congrFun (k285 2 (by decide)) 2
            have g24 : (A281 24) = A0 24 := (k285 24 (by decide))
            have g25 : (A281 25) = A0 25 := (k285 25 (by decide))
            have g26 : (A281 26) = A0 26 := (k285 26 (by decide))
            have g27 : F280 27 = F0 27 := (k284 27 (by decide))
            have g28 : F280 28 = F0 28 := (k284 28 (by decide))
            have f23 := p283b (by omega)
            refine k_aload 51 rfl rfl rfl ?_
            have e289 : F280 28 = F0 28 := k284 28 (by decide)
            refine k_rv I282 rfl (m_keepsOld  I282.1 (show 0 ≤ (F280 28) ∧ (F280 28) ≤ 400 by omega) (show 0 ≤ (A281 2) 2 ∧ (A281 2) 2 ≤ 120 by rw [(k285 2 (by decide))]; exact ⟨by omega, hq.2⟩)) rfl rfl rfl I282.rc ?_
            rintro h291 F292 A293 I294 ⟨k296, k297, p295⟩
            have e298 : F280 27 = F0 27 := k284 27 (by decide)
            replace p295 : (F292 36 = (F280 27) ∧ F292 37 = (F280 28)) ∧ (∀ j : Int, 0 ≤ j → j < (F280 28) → A293 33 j = (A281 24) j ∧ A293 34 j = (A281 25) j) ∧ (∀ p : Int, 0 ≤ p → p < 4 * (F280 28) → A293 35 p = (A281 26) p) ∧ F292 38 = (A281 2) 2 ∧ (∀ k : Int, 0 ≤ k → k < (A281 2) 2 → A293 39 k = (A281 1) (2600 + k)) := p295
            obtain ⟨p295a, p295b, p295c, p295d, p295e⟩ := p295
            show am_Ok _ _ _ (54, _, [], _, 0, 0) _
            have hold : nt (A293 33) (A293 34) (A293 35) (F280 28) gT (F280 27) := nt.agree (by rw [g24, g25, g26, g27, g28]; exact p1) p295b p295c
            refine k_push 55 rfl rfl ?_
            refine k_istore 56 rfl rfl ?_
            have e299 : F292 23 = F280 23 := k296 23 (by decide)
            have e300 : F292 4 = F280 4 := k296 4 (by decide)
            have e301 : F280 4 = (0 : Int32).toInt := k284 4 (by decide)
            exact b_X10_tell_56 (gT := gT) (w1 := w1) p1 p2 p3 p4 p5 _  rfl (gs_ne rfl rfl rfl) (gs_ne rfl rfl rfl) gs_eq I294 (fr1.tr (by decide) (fr1.tr (by decide) (fr1.up (by decide) (fr1.up (by decide) (fr1.up (by decide) fr1.rf))) k284) k296) (fr2.tr (by decide) (fr2.tr (by decide) fr2.rf k285) k297) (show 0 ≤ (0 : Int32).toInt ∧ (0 : Int32).toInt ≤ (F292 23) ∧ (F292 23) ≤ 120 ∧ 0 ≤ w1.toInt ∧ w1.toInt ≤ F0 4 ∧ (F292 4) = 0 by omega) (show rz ((A293 22)) ((F292 23)) by rw [(k297 22 (by decide)), (k296 23 (by decide))]; exact hrz) (fun k h1 h2 => absurd h2 (by omega)) (show nt ((A293 33)) ((A293 34)) ((A293 35)) ((F292 37)) gT ((F292 36)) by rw [p295a.1, p295a.2]; exact hold) (show (F292 38) = A0 2 2 by rw [p295d, hr2]) (fun k h1 h2 => by rw [← hr1]; exact p295e k h1 (by rw [hr2]; exact h2))
          · refine k_c1 11 rfl rfl (if_neg b288) ?_
            have b288 := mt iv_eq0.mpr b288
            refine k_push 12 rfl rfl ?_
            refine k_fin rfl (fin_Z (Or.inl rfl)) ⟨_, _, rfl, rf_len I282 I282, ?_⟩
            show am_Ok _ _ _ (42, _, [.inl (0 : Int32)], _, 0, 0) _
            refine k_c1 45 rfl rfl (if_pos (by decide)) ?_
            refine k_aload 46 rfl rfl rfl ?_
            refine r_gI I282 49 rfl rfl rfl (fun x302 (e303 : x302.toInt = F280 6) => ?_)
            have e304 : F280 28 = F0 28 := k284 28 (by decide)
            have e305 : F280 27 = F0 27 := k284 27 (by decide)
            have e306 : F280 4 = (0 : Int32).toInt := k284 4 (by decide)
            exact k_fin rfl rfl ⟨_, _, _, _, rfl, I282, (fr1.tr (by decide) (fr1.up (by decide) (fr1.up (by decide) (fr1.up (by decide) fr1.rf))) k284), (fr2.tr (by decide) fr2.rf k285), ⟨by rw [(k285 24 (by decide)), (k285 25 (by decide)), (k285 26 (by decide)), (k284 28 (by decide)), (k284 27 (by decide))]; exact p1, p2.fr (l := [22, 17, 16, 33, 34, 35, 39, 1, 2, 24, 25, 26, 29, 31]) (fr2.tr (by decide) fr2.rf k285) (by decide), p3.fr (l := [22, 17, 16, 33, 34, 35, 39, 1, 2, 24, 25, 26, 29, 31]) (fr2.tr (by decide) fr2.rf k285) (by decide), by rw [(k285 1 (by decide)), (k285 2 (by decide))]; exact p4, (show ((0 ≤ w1.toInt ∧ w1.toInt ≤ F0 4 → F280 4 = 0) ∧ (¬ (0 ≤ w1.toInt ∧ w1.toInt ≤ F0 4) → F280 4 = F0 4) ∧ 0 ≤ F280 23 ∧ F280 23 ≤ 1000000) by omega)⟩⟩
        · refine k_c1 27 rfl rfl (if_neg b273) ?_
          have b273 := mt iv_eq0.mpr b273
          refine k_push 28 rfl rfl ?_
          refine k_fin rfl (fin_Z (Or.inl rfl)) ⟨_, _, rfl, rf_len I70 I70, ?_⟩
          show am_Ok _ _ _ (19, _, [.inl (0 : Int32)], _, 0, 0) _
          refine k_c1 22 rfl rfl (if_pos (by decide)) ?_
          refine k_push 23 rfl rfl ?_
          exact k_fin rfl rfl ⟨_, _, _, _, rfl, I70, (fr1.up (by decide) fr1.rf), fr2.rf, ⟨p1, p2, p3, p4, (show ((0 ≤ w1.toInt ∧ w1.toInt ≤ F0 4 → F0 4 = 0) ∧ (¬ (0 ≤ w1.toInt ∧ w1.toInt ≤ F0 4) → F0 4 = F0 4) ∧ 0 ≤ F0 23 ∧ F0 23 ≤ 1000000) by omega)⟩⟩
end
