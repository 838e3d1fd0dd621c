section
theorem m_stackAt {h0 : am_h} {F0 : rf_f} {A0 : rf_A} {w1 : Int32}  (hR : rf_R h0 F0 A0) (p1 : 0 ≤ w1.toInt) (p2 : F0 50 ≤ 4300) (p3 : wr A0) : am_Mt 1 224 [.inr (.inr (some 81)), .inl w1] h0 (rf_Q h0 (fun x F' A' => fr1 [] F0 F' ∧ fr2 [] A0 A' ∧ (0 ≤ x ∧ x ≤ 4000))) := by
  refine am_Mt.of (D := 0) ?_
  have hI : rf_I h0 h0 F0 A0 := rf_I.start hR
  refine k_iload 1 rfl rfl rfl ?_
  refine k_aload 2 rfl rfl rfl ?_
  refine r_gI hI 5 rfl rfl rfl (fun x1 (e2 : x1.toInt = F0 50) => ?_)
  by_cases b3 : x1 ≤ w1
  · refine k_c2 17 rfl rfl (if_pos b3) ?_
    have b3 := iv_le.mp b3
    refine k_push 18 rfl rfl ?_
    have hc4 : (0 : Int32).toInt = 0 := by decide
    exact k_fin rfl rfl ⟨_, _, _, _, rfl, hI, fr1.rf, fr2.rf, show 0 ≤ (0 : Int32).toInt ∧ (0 : Int32).toInt ≤ 4000 by have := p3 w1.toInt; omega⟩
  · refine k_c2 8 rfl rfl (if_neg b3) ?_
    have b3 := mt iv_le.mpr b3
    refine k_aload 9 rfl rfl rfl ?_
    refine r_gA hI 12 rfl rfl rfl ?_
    refine k_iload 13 rfl rfl rfl ?_
    refine r_ld 49 hI 14 rfl rfl (by omega) (show w1.toInt < 4300 by omega) rfl (fun x5 (e6 : x5.toInt = A0 49 w1.toInt) => ?_)
    refine k_goto 18 rfl rfl ?_
    exact k_fin rfl rfl ⟨_, _, _, _, rfl, hI, fr1.rf, fr2.rf, show 0 ≤ x5.toInt ∧ x5.toInt ≤ 4000 by have := p3 w1.toInt; omega⟩
theorem b_X10_waits_83 {h0 : am_h} {F0 : rf_f} {A0 : rf_A} {w1 : Int32}  (p1 : 0 ≤ F0 55 ∧ F0 55 ≤ 400) (p2 : 0 ≤ F0 50 ∧ F0 50 ≤ 200) (p3 : wr A0) (p4 : wq A0) : ∀ (n : Nat) {lv : am_l} {h : am_h} {F : rf_f} {A : rf_A} {v1 : Int32} {v2 : Int32} {v3 : Int32}, ((F0 50 - v3.toInt).toNat) = n → am_get lv 0 = some (.inr (.inr (some 81))) → am_get lv 1 = some (.inl v1) → am_get lv 2 = some (.inl v2) → am_get lv 3 = some (.inl v3) → rf_I h0 h F A → fr1 [55] F0 F → fr2 [51, 52, 53, 54, 60] A0 A → (0 ≤ v3.toInt ∧ v3.toInt ≤ F0 50 ∧ 0 ≤ v2.toInt ∧ v2.toInt ≤ 200 * F0 55) → (F 55 = F0 55) → (A 51 (F0 55) = w1.toInt ∧ A 52 (F0 55) = F0 59 ∧ A 54 (F0 55) = F0 50) → (∀ q : Int, q ≠ F0 55 → A 51 q = A0 51 q ∧ A 52 q = A0 52 q ∧ A 54 q = A0 54 q) → (wq A) → (wr A) → am_Ok am_G 0 228 (83, lv, [], h, 0, 0) (rf_V h0 (fun F' A' => fr1 [55] F0 F' ∧ fr2 [51, 52, 53, 54, 60] A0 A' ∧ (F' 55 = F0 55 + 1 ∧ (A' 51 (F0 55) = w1.toInt ∧ A' 52 (F0 55) = F0 59 ∧ A' 54 (F0 55) = F0 50) ∧ (∀ q : Int, q ≠ F0 55 → A' 51 q = A0 51 q ∧ A' 52 q = A0 52 q ∧ A' 54 q = A0 54 q) ∧ wq A' ∧ wr A'))) := by
  intro n
  induction n using Nat.strongRecOn with
  | ind n ih =>
    intro lv h F A v1 v2 v3 hn g0 g1 g2 g3 hI hF hA i1 i2 i3 i4 i5 i6
    refine k_iload 84 rfl g3 rfl ?_
    refine k_aload 85 rfl g0 rfl ?_
    refine r_gI hI 88 rfl rfl rfl (fun x1 (e2 : x1.toInt = F 50) => ?_)
    have e3 : F 50 = F0 50 := hF 50 (by decide)
    by_cases b4 : x1 ≤ v3
    · refine k_c2 111 rfl rfl (if_pos b4) ?_
      have b4 := iv_le.mp b4
      refine k_aload 112 rfl g0 rfl ?_
      refine k_dup 113 rfl rfl rfl ?_
      refine r_gI hI 116 rfl rfl rfl (fun x5 (e6 : x5.toInt = F 55) => ?_)
      refine k_push 117 rfl rfl ?_
      have hc7 : (1 : Int32).toInt = 1 := by decide
      obtain ⟨x8, q9⟩ : ∃ q : Int32, q = (x5 + (1 : Int32)) := ⟨_, rfl⟩
      have e10 : x8.toInt = x5.toInt + 1 := by rw [q9, iv_add (by omega) (by omega)]; omega
      refine k_bin x8 118 rfl q9.symm rfl ?_
      refine r_pI hI 121 rfl rfl rfl (fun h11 I12 => ?_)
      exact k_fin rfl rfl ⟨_, _, _, rfl, I12, (fr1.up (by decide) hF), hA, show (x8.toInt) = F0 55 + 1 ∧ ((A 51) (F0 55) = w1.toInt ∧ (A 52) (F0 55) = F0 59 ∧ (A 54) (F0 55) = F0 50) ∧ (∀ q : Int, q ≠ F0 55 → (A 51) q = A0 51 q ∧ (A 52) q = A0 52 q ∧ (A 54) q = A0 54 q) ∧ wq A ∧ wr A from ⟨by omega, i3, i4, i5, i6⟩⟩
    · refine k_c2 91 rfl rfl (if_neg b4) ?_
      have b4 := mt iv_le.mpr b4
      refine k_aload 92 rfl g0 rfl ?_
      refine r_gA hI 95 rfl rfl rfl ?_
      refine k_iload 96 rfl g2 rfl ?_
      refine k_iload 97 rfl g3 rfl ?_
      obtain ⟨x13, q14⟩ : ∃ q : Int32, q = (v2 + v3) := ⟨_, rfl⟩
      have e15 : x13.toInt = v2.toInt + v3.toInt := by rw [q14, iv_add (by omega) (by omega)]
      refine k_bin x13 98 rfl q14.symm rfl ?_
      refine k_aload 99 rfl g0 rfl ?_
      refine r_gA hI 102 rfl rfl rfl ?_
      refine k_iload 103 rfl g3 rfl ?_
      refine r_ld 49 hI 104 rfl rfl (by omega) (show v3.toInt < 4300 by omega) rfl (fun x16 (e17 : x16.toInt = A 49 v3.toInt) => ?_)
      have e18 : A 49 = A0 49 := hA 49 (by decide)
      rw [e18] at e17
      refine r_st 60 hI 105 rfl rfl (by omega) (show x13.toInt < 400000 by omega) rfl (fun h19 I20 => ?_)
      have hc21 : (1 : Int32).toInt = 1 := by decide
      obtain ⟨x22, q23⟩ : ∃ q : Int32, q = v3 + (1 : Int32) := ⟨_, rfl⟩
      have e24 : x22.toInt = v3.toInt + 1 := by rw [q23, iv_add (by omega) (by omega)]; omega
      refine k_iinc x22 108 rfl g3 q23.symm rfl ?_
      refine k_goto 83 rfl rfl ?_
      exact ih _ (show ((F0 50 - x22.toInt).toNat) < n by omega)  rfl (gs_ne rfl rfl g0) (gs_ne rfl rfl g1) (gs_ne rfl rfl g2) gs_eq I20 hF (fr2.up (by decide) hA) (show 0 ≤ x22.toInt ∧ x22.toInt ≤ F0 50 ∧ 0 ≤ v2.toInt ∧ v2.toInt ≤ 200 * F0 55 by omega) (show (F 55) = F0 55 by omega) (show (A 51) (F0 55) = w1.toInt ∧ (A 52) (F0 55) = F0 59 ∧ (A 54) (F0 55) = F0 50 from i3) (show ∀ q : Int, q ≠ F0 55 → (A 51) q = A0 51 q ∧ (A 52) q = A0 52 q ∧ (A 54) q = A0 54 q from i4) (show wq (up2 A 60 x13.toInt x16.toInt) from i5.o (by decide)) (show wr (up2 A 60 x13.toInt x16.toInt) from i6.u60 (by have := p3 v3.toInt; omega))
theorem m_waits {h0 : am_h} {F0 : rf_f} {A0 : rf_A} {w1 : Int32}  (hR : rf_R h0 F0 A0) (p1 : 0 ≤ F0 55 ∧ F0 55 ≤ 400) (p2 : 0 ≤ F0 50 ∧ F0 50 ≤ 200) (p3 : wr A0) (p4 : wq A0) : am_Mt 1 228 [.inr (.inr (some 81)), .inl w1] h0 (rf_V h0 (fun F' A' => fr1 [55] F0 F' ∧ fr2 [51, 52, 53, 54, 60] A0 A' ∧ (F' 55 = F0 55 + 1 ∧ (A' 51 (F0 55) = w1.toInt ∧ A' 52 (F0 55) = F0 59 ∧ A' 54 (F0 55) = F0 50) ∧ (∀ q : Int, q ≠ F0 55 → A' 51 q = A0 51 q ∧ A' 52 q = A0 52 q ∧ A' 54 q = A0 54 q) ∧ wq A' ∧ wr A'))) := by
  refine am_Mt.of (D := 0) ?_
  have hI : rf_I h0 h0 F0 A0 := rf_I.start hR
  refine k_aload 1 rfl rfl rfl ?_
  refine r_gI hI 4 rfl rfl rfl (fun x25 (e26 : x25.toInt = F0 55) => ?_)
  by_cases b27 : x25 = 0
  · refine k_c1 7 rfl rfl (if_pos b27) ?_
    have b27 := iv_eq0.mp b27
    refine k_push 8 rfl rfl ?_
    have hc28 : (0 : Int32).toInt = 0 := by decide
    refine k_goto 34 rfl rfl ?_
    refine k_istore 35 rfl rfl ?_
    refine k_aload 36 rfl (gs_ne rfl rfl rfl) rfl ?_
    refine r_gA hI 39 rfl rfl rfl ?_
    refine k_aload 40 rfl (gs_ne rfl rfl rfl) rfl ?_
    refine r_gI hI 43 rfl rfl rfl (fun x29 (e30 : x29.toInt = F0 55) => ?_)
    refine k_iload 44 rfl (gs_ne rfl rfl rfl) rfl ?_
    refine r_st 51 hI 45 rfl rfl (by omega) (show x29.toInt < 402 by omega) rfl (fun h31 I32 => ?_)
    refine k_aload 46 rfl (gs_ne rfl rfl rfl) rfl ?_
    refine r_gA I32 49 rfl rfl rfl ?_
    refine k_aload 50 rfl (gs_ne rfl rfl rfl) rfl ?_
    refine r_gI I32 53 rfl rfl rfl (fun x33 (e34 : x33.toInt = F0 55) => ?_)
    refine k_aload 54 rfl (gs_ne rfl rfl rfl) rfl ?_
    refine r_gI I32 57 rfl rfl rfl (fun x35 (e36 : x35.toInt = F0 59) => ?_)
    refine r_st 52 I32 58 rfl rfl (by omega) (show x33.toInt < 402 by omega) rfl (fun h37 I38 => ?_)
    refine k_aload 59 rfl (gs_ne rfl rfl rfl) rfl ?_
    refine r_gA I38 62 rfl rfl rfl ?_
    refine k_aload 63 rfl (gs_ne rfl rfl rfl) rfl ?_
    refine r_gI I38 66 rfl rfl rfl (fun x39 (e40 : x39.toInt = F0 55) => ?_)
    refine k_iload 67 rfl gs_eq rfl ?_
    refine r_st 53 I38 68 rfl rfl (by omega) (show x39.toInt < 402 by omega) rfl (fun h41 I42 => ?_)
    refine k_aload 69 rfl (gs_ne rfl rfl rfl) rfl ?_
    refine r_gA I42 72 rfl rfl rfl ?_
    refine k_aload 73 rfl (gs_ne rfl rfl rfl) rfl ?_
    refine r_gI I42 76 rfl rfl rfl (fun x43 (e44 : x43.toInt = F0 55) => ?_)
    refine k_aload 77 rfl (gs_ne rfl rfl rfl) rfl ?_
    refine r_gI I42 80 rfl rfl rfl (fun x45 (e46 : x45.toInt = F0 50) => ?_)
    refine r_st 54 I42 81 rfl rfl (by omega) (show x43.toInt < 402 by omega) rfl (fun h47 I48 => ?_)
    refine k_push 82 rfl rfl ?_
    refine k_istore 83 rfl rfl ?_
    exact b_X10_waits_83  (w1 := w1) p1 p2 p3 p4 _  rfl (gs_ne rfl rfl (gs_ne rfl rfl rfl)) (gs_ne rfl rfl (gs_ne rfl rfl rfl)) (gs_ne rfl rfl gs_eq) gs_eq I48 fr1.rf (fr2.up (by decide) (fr2.up (by decide) (fr2.up (by decide) (fr2.up (by decide) fr2.rf)))) (show 0 ≤ (0 : Int32).toInt ∧ (0 : Int32).toInt ≤ F0 50 ∧ 0 ≤ (0 : Int32).toInt ∧ (0 : Int32).toInt ≤ 200 * F0 55 by omega) (show (F0 55) = F0 55 by omega) (wt_3 (by omega) (by omega) (by omega) rfl (by omega) (by omega)) (wt_4 (by omega) (by omega) (by omega)) (show wq (up2 (up2 (up2 (up2 A0 51 x29.toInt w1.toInt) 52 x33.toInt x35.toInt) 53 x39.toInt (0 : Int32).toInt) 54 x43.toInt x45.toInt) from ((p4.o (by decide)).o (by decide)).w (k := F0 55) (by omega) (by omega) (by omega) (by omega) (by omega) (by omega)) (show wr (up2 (up2 (up2 (up2 A0 51 x29.toInt w1.toInt) 52 x33.toInt x35.toInt) 53 x39.toInt (0 : Int32).toInt) 54 x43.toInt x45.toInt) from (((p3.o (by decide)).o (by decide)).o (by decide)).o (by decide))
  · refine k_c1 11 rfl rfl (if_neg b27) ?_
    have b27 := mt iv_eq0.mpr b27
    refine k_aload 12 rfl rfl rfl ?_
    refine r_gA hI 15 rfl rfl rfl ?_
    refine k_aload 16 rfl rfl rfl ?_
    refine r_gI hI 19 rfl rfl rfl (fun x49 (e50 : x49.toInt = F0 55) => ?_)
    refine k_push 20 rfl rfl ?_
    have hc51 : (1 : Int32).toInt = 1 := by decide
    obtain ⟨x52, q53⟩ : ∃ q : Int32, q = (x49 - (1 : Int32)) := ⟨_, rfl⟩
    have e54 : x52.toInt = x49.toInt - 1 := by rw [q53, iv_sub (by omega) (by omega)]; omega
    refine k_bin x52 21 rfl q53.symm rfl ?_
    refine r_ld 53 hI 22 rfl rfl (by omega) (show x52.toInt < 402 by omega) rfl (fun x55 (e56 : x55.toInt = A0 53 x52.toInt) => ?_)
    rw [e54] at e56
    refine k_aload 23 rfl rfl rfl ?_
    refine r_gA hI 26 rfl rfl rfl ?_
    refine k_aload 27 rfl rfl rfl ?_
    refine r_gI hI 30 rfl rfl rfl (fun x57 (e58 : x57.toInt = F0 55) => ?_)
    refine k_push 31 rfl rfl ?_
    obtain ⟨x59, q60⟩ : ∃ q : Int32, q = (x57 - (1 : Int32)) := ⟨_, rfl⟩
    have e61 : x59.toInt = x57.toInt - 1 := by rw [q60, iv_sub (by omega) (by omega)]; omega
    refine k_bin x59 32 rfl q60.symm rfl ?_
    refine r_ld 54 hI 33 rfl rfl (by omega) (show x59.toInt < 402 by omega) rfl (fun x62 (e63 : x62.toInt = A0 54 x59.toInt) => ?_)
    rw [e61] at e63
    have hq9 := p4 (F0 55 - 1) (by omega)
    have ha9 : x55.toInt = A0 53 (F0 55 - 1) := by rw [e56]; congr 1; omega
    have hb9 : x62.toInt = A0 54 (F0 55 - 1) := by rw [e63]; congr 1; omega
    obtain ⟨x64, q65⟩ : ∃ q : Int32, q = (x55 + x62) := ⟨_, rfl⟩
    have e66 : x64.toInt = x55.toInt + x62.toInt := by rw [q65, iv_add (by omega) (by omega)]
    refine k_bin x64 34 rfl q65.symm rfl ?_
    refine k_istore 35 rfl rfl ?_
    refine k_aload 36 rfl (gs_ne rfl rfl rfl) rfl ?_
    refine r_gA hI 39 rfl rfl rfl ?_
    refine k_aload 40 rfl (gs_ne rfl rfl rfl) rfl ?_
    refine r_gI hI 43 rfl rfl rfl (fun x67 (e68 : x67.toInt = F0 55) => ?_)
    refine k_iload 44 rfl (gs_ne rfl rfl rfl) rfl ?_
    refine r_st 51 hI 45 rfl rfl (by omega) (show x67.toInt < 402 by omega) rfl (fun h69 I70 => ?_)
    refine k_aload 46 rfl (gs_ne rfl rfl rfl) rfl ?_
    refine r_gA I70 49 rfl rfl rfl ?_
    refine k_aload 50 rfl (gs_ne rfl rfl rfl) rfl ?_
    refine r_gI I70 53 rfl rfl rfl (fun x71 (e72 : x71.toInt = F0 55) => ?_)
    refine k_aload 54 rfl (gs_ne rfl rfl rfl) rfl ?_
    refine r_gI I70 57 rfl rfl rfl (fun x73 (e74 : x73.toInt = F0 59) => ?_)
    refine r_st 52 I70 58 rfl rfl (by omega) (show x71.toInt < 402 by omega) rfl (fun h75 I76 => ?_)
    refine k_aload 59 rfl (gs_ne rfl rfl rfl) rfl ?_
    refine r_gA I76 62 rfl rfl rfl ?_
    refine k_aload 63 rfl (gs_ne rfl rfl rfl) rfl ?_
    refine r_gI I76 66 rfl rfl rfl (fun x77 (e78 : x77.toInt = F0 55) => ?_)
    refine k_iload 67 rfl gs_eq rfl ?_
    refine r_st 53 I76 68 rfl rfl (by omega) (show x77.toInt < 402 by omega) rfl (fun h79 I80 => ?_)
    refine k_aload 69 rfl (gs_ne rfl rfl rfl) rfl ?_
    refine r_gA I80 72 rfl rfl rfl ?_
    refine k_aload 73 rfl (gs_ne rfl rfl rfl) rfl ?_
    refine r_gI I80 76 rfl rfl rfl (fun x81 (e82 : x81.toInt = F0 55) => ?_)
    refine k_aload 77 rfl (gs_ne rfl rfl rfl) rfl ?_
    refine r_gI I80 80 rfl rfl rfl (fun x83 (e84 : x83.toInt = F0 50) => ?_)
    refine r_st 54 I80 81 rfl rfl (by omega) (show x81.toInt < 402 by omega) rfl (fun h85 I86 => ?_)
    refine k_push 82 rfl rfl ?_
    have hc87 : (0 : Int32).toInt = 0 := by decide
    refine k_istore 83 rfl rfl ?_
    exact b_X10_waits_83  (w1 := w1) p1 p2 p3 p4 _  rfl (gs_ne rfl rfl (gs_ne rfl rfl rfl)) (gs_ne rfl rfl (gs_ne rfl rfl rfl)) (gs_ne rfl rfl gs_eq) gs_eq I86 fr1.rf (fr2.up (by decide) (fr2.up (by decide) (fr2.up (by decide) (fr2.up (by decide) fr2.rf)))) (show 0 ≤ (0 : Int32).toInt ∧ (0 : Int32).toInt ≤ F0 50 ∧ 0 ≤ x64.toInt ∧ x64.toInt ≤ 200 * F0 55 by omega) (show (F0 55) = F0 55 by omega) (wt_3 (by omega) (by omega) (by omega) rfl (by omega) (by omega)) (wt_4 (by omega) (by omega) (by omega)) (show wq (up2 (up2 (up2 (up2 A0 51 x67.toInt w1.toInt) 52 x71.toInt x73.toInt) 53 x77.toInt x64.toInt) 54 x81.toInt x83.toInt) from ((p4.o (by decide)).o (by decide)).w (k := F0 55) (by omega) (by omega) (by omega) (by omega) (by omega) (by omega)) (show wr (up2 (up2 (up2 (up2 A0 51 x67.toInt w1.toInt) 52 x71.toInt x73.toInt) 53 x77.toInt x64.toInt) 54 x81.toInt x83.toInt) from (((p3.o (by decide)).o (by decide)).o (by decide)).o (by decide))
theorem b_X10_takesWaiting_38 {h0 : am_h} {F0 : rf_f} {A0 : rf_A}  (p1 : 1 ≤ F0 55 ∧ F0 55 ≤ 402) (p3 : wr A0) (p4 : wq A0) : ∀ (n : Nat) {lv : am_l} {h : am_h} {F : rf_f} {A : rf_A} {v1 : Int32}, ((F 50 - v1.toInt).toNat) = n → am_get lv 0 = some (.inr (.inr (some 81))) → am_get lv 1 = some (.inl v1) → rf_I h0 h F A → fr1 [55, 59, 50] F0 F → fr2 [49] A0 A → (0 ≤ v1.toInt ∧ v1.toInt ≤ 200) → (F 55 = F0 55 - 1 ∧ F 59 = A0 52 (F0 55 - 1) ∧ F 50 = A0 54 (F0 55 - 1)) → (wr A) → am_Ok am_G 0 229 (38, lv, [], h, 0, 0) (rf_V h0 (fun F' A' => fr1 [55, 59, 50] F0 F' ∧ fr2 [49] A0 A' ∧ (F' 55 = F0 55 - 1 ∧ F' 59 = A0 52 (F0 55 - 1) ∧ F' 50 = A0 54 (F0 55 - 1) ∧ wr A'))) := by
  intro n
  induction n using Nat.strongRecOn with
  | ind n ih =>
    intro lv h F A v1 hn g0 g1 hI hF hA i1 i2 i3
    have hq9 := p4 (F0 55 - 1) (by omega)
    refine k_iload 39 rfl g1 rfl ?_
    refine k_aload 40 rfl g0 rfl ?_
    refine r_gI hI 43 rfl rfl rfl (fun x1 (e2 : x1.toInt = F 50) => ?_)
    by_cases b3 : x1 ≤ v1
    · refine k_c2 74 rfl rfl (if_pos b3) ?_
      have b3 := iv_le.mp b3
      exact k_fin rfl rfl ⟨_, _, _, rfl, hI, hF, hA, show (F 55) = F0 55 - 1 ∧ (F 59) = A0 52 (F0 55 - 1) ∧ (F 50) = A0 54 (F0 55 - 1) ∧ wr A from ⟨by omega, by omega, by omega, i3⟩⟩
    · refine k_c2 46 rfl rfl (if_neg b3) ?_
      have b3 := mt iv_le.mpr b3
      refine k_aload 47 rfl g0 rfl ?_
      refine r_gA hI 50 rfl rfl rfl ?_
      refine k_iload 51 rfl g1 rfl ?_
      refine k_aload 52 rfl g0 rfl ?_
      refine r_gA hI 55 rfl rfl rfl ?_
      refine k_aload 56 rfl g0 rfl ?_
      refine r_gA hI 59 rfl rfl rfl ?_
      refine k_aload 60 rfl g0 rfl ?_
      refine r_gI hI 63 rfl rfl rfl (fun x4 (e5 : x4.toInt = F 55) => ?_)
      refine r_ld 53 hI 64 rfl rfl (by omega) (show x4.toInt < 402 by omega) rfl (fun x6 (e7 : x6.toInt = A 53 x4.toInt) => ?_)
      have e8 : A 53 = A0 53 := hA 53 (by decide)
      rw [e8] at e7
      have hf9 : x6.toInt = A0 53 (F0 55 - 1) := by rw [e7]; congr 1; omega
      refine k_iload 65 rfl g1 rfl ?_
      obtain ⟨x9, q10⟩ : ∃ q : Int32, q = (x6 + v1) := ⟨_, rfl⟩
      have e11 : x9.toInt = x6.toInt + v1.toInt := by rw [q10, iv_add (by omega) (by omega)]
      refine k_bin x9 66 rfl q10.symm rfl ?_
      refine r_ld 60 hI 67 rfl rfl (by omega) (show x9.toInt < 400000 by omega) rfl (fun x12 (e13 : x12.toInt = A 60 x9.toInt) => ?_)
      rw [e11] at e13
      have e14 : A 60 = A0 60 := hA 60 (by decide)
      rw [e14] at e13
      have hv9 : 0 ≤ x12.toInt ∧ x12.toInt ≤ 4000 := by rw [e13]; exact (p3 _).2.2.2.2.2.2
      refine r_st 49 hI 68 rfl rfl (by omega) (show v1.toInt < 4300 by omega) rfl (fun h15 I16 => ?_)
      have hc17 : (1 : Int32).toInt = 1 := by decide
      obtain ⟨x18, q19⟩ : ∃ q : Int32, q = v1 + (1 : Int32) := ⟨_, rfl⟩
      have e20 : x18.toInt = v1.toInt + 1 := by rw [q19, iv_add (by omega) (by omega)]; omega
      refine k_iinc x18 71 rfl g1 q19.symm rfl ?_
      refine k_goto 38 rfl rfl ?_
      exact ih _ (show (((F 50) - x18.toInt).toNat) < n by omega)  rfl (gs_ne rfl rfl g0) gs_eq I16 hF (fr2.up (by decide) hA) (show 0 ≤ x18.toInt ∧ x18.toInt ≤ 200 by omega) (show (F 55) = F0 55 - 1 ∧ (F 59) = A0 52 (F0 55 - 1) ∧ (F 50) = A0 54 (F0 55 - 1) by omega) (show wr (up2 A 49 v1.toInt x12.toInt) from i3.u49 hv9)
theorem m_takesWaiting {h0 : am_h} {F0 : rf_f} {A0 : rf_A}  (hR : rf_R h0 F0 A0) (p1 : 1 ≤ F0 55 ∧ F0 55 ≤ 402) (p3 : wr A0) (p4 : wq A0) : am_Mt 1 229 [.inr (.inr (some 81))] h0 (rf_V h0 (fun F' A' => fr1 [55, 59, 50] F0 F' ∧ fr2 [49] A0 A' ∧ (F' 55 = F0 55 - 1 ∧ F' 59 = A0 52 (F0 55 - 1) ∧ F' 50 = A0 54 (F0 55 - 1) ∧ wr A'))) := by
  refine am_Mt.of (D := 0) ?_
  have hI : rf_I h0 h0 F0 A0 := rf_I.start hR
  refine k_aload 1 rfl rfl rfl ?_
  refine k_dup 2 rfl rfl rfl ?_
  refine r_gI hI 5 rfl rfl rfl (fun x21 (e22 : x21.toInt = F0 55) => ?_)
  refine k_push 6 rfl rfl ?_
  have hc23 : (1 : Int32).toInt = 1 := by decide
  obtain ⟨x24, q25⟩ : ∃ q : Int32, q = (x21 - (1 : Int32)) := ⟨_, rfl⟩
  have e26 : x24.toInt = x21.toInt - 1 := by rw [q25, iv_sub (by omega) (by omega)]; omega
  refine k_bin x24 7 rfl q25.symm rfl ?_
  refine r_pI hI 10 rfl rfl rfl (fun h27 I28 => ?_)
  refine k_aload 11 rfl rfl rfl ?_
  refine k_aload 12 rfl rfl rfl ?_
  refine r_gA I28 15 rfl rfl rfl ?_
  refine k_aload 16 rfl rfl rfl ?_
  refine r_gI I28 19 rfl rfl rfl (fun x29 (e30 : x29.toInt = x24.toInt) => ?_)
  refine r_ld 52 I28 20 rfl rfl (by omega) (show x29.toInt < 402 by omega) rfl (fun x31 (e32 : x31.toInt = A0 52 x29.toInt) => ?_)
  have hx59 : x31.toInt = A0 52 (F0 55 - 1) := by rw [e32]; congr 1; omega
  refine r_pI I28 23 rfl rfl rfl (fun h33 I34 => ?_)
  refine k_aload 24 rfl rfl rfl ?_
  refine k_aload 25 rfl rfl rfl ?_
  refine r_gA I34 28 rfl rfl rfl ?_
  refine k_aload 29 rfl rfl rfl ?_
  refine r_gI I34 32 rfl rfl rfl (fun x35 (e36 : x35.toInt = x24.toInt) => ?_)
  refine r_ld 54 I34 33 rfl rfl (by omega) (show x35.toInt < 402 by omega) rfl (fun x37 (e38 : x37.toInt = A0 54 x35.toInt) => ?_)
  have hx50 : x37.toInt = A0 54 (F0 55 - 1) := by rw [e38]; congr 1; omega
  refine r_pI I34 36 rfl rfl rfl (fun h39 I40 => ?_)
  refine k_push 37 rfl rfl ?_
  have hc41 : (0 : Int32).toInt = 0 := by decide
  refine k_istore 38 rfl rfl ?_
  exact b_X10_takesWaiting_38   p1 p3 p4 _  rfl (gs_ne rfl rfl rfl) gs_eq I40 (fr1.up (by decide) (fr1.up (by decide) (fr1.up (by decide) fr1.rf))) fr2.rf (show 0 ≤ (0 : Int32).toInt ∧ (0 : Int32).toInt ≤ 200 by omega) (show (x24.toInt) = F0 55 - 1 ∧ (x31.toInt) = A0 52 (F0 55 - 1) ∧ (x37.toInt) = A0 54 (F0 55 - 1) from ⟨by omega, hx59, hx50⟩) (show wr A0 from p3)
theorem b_X10_goesInto_75 {h0 : am_h} {F0 : rf_f} {A0 : rf_A} {w1 : Int32}  (p1 : 0 ≤ F0 59 ∧ F0 59 ≤ 401) (p2 : 0 ≤ F0 50 ∧ F0 50 ≤ 4300) (p3 : wr A0) (p4 : wq A0) (p5 : 0 ≤ w1.toInt ∧ w1.toInt < 8000 ∧ 0 ≤ A0 25 w1.toInt ∧ A0 25 w1.toInt ≤ 200) : ∀ (n : Nat) {lv : am_l} {h : am_h} {F : rf_f} {A : rf_A} {v1 : Int32} {v2 : Int32} {v3 : Int32} {v4 : Int32}, ((v3.toInt - v4.toInt).toNat) = n → am_get lv 0 = some (.inr (.inr (some 81))) → am_get lv 1 = some (.inl v1) → am_get lv 2 = some (.inl v2) → am_get lv 3 = some (.inl v3) → am_get lv 4 = some (.inl v4) → rf_I h0 h F A → fr1 [59] F0 F → fr2 [56, 57, 58, 61] A0 A → (0 ≤ v4.toInt ∧ v4.toInt ≤ 200 ∧ 0 ≤ v2.toInt ∧ v2.toInt ≤ 200 * F0 59 ∧ 0 ≤ v3.toInt ∧ v3.toInt ≤ 200) → (F 59 = F0 59) → (wq A) → (wr A) → am_Ok am_G 1 230 (75, lv, [], h, 0, 0) (rf_V h0 (fun F' A' => fr1 [59] F0 F' ∧ fr2 [56, 57, 58, 61] A0 A' ∧ (F' 59 = F0 59 + 1 ∧ wq A'))) := by
  intro n
  induction n using Nat.strongRecOn with
  | ind n ih =>
    intro lv h F A v1 v2 v3 v4 hn g0 g1 g2 g3 g4 hI hF hA i1 i2 i5 i6
    refine k_iload 77 rfl g4 rfl ?_
    refine k_iload 78 rfl g3 rfl ?_
    by_cases b1 : v3 ≤ v4
    · refine k_c2 102 rfl rfl (if_pos b1) ?_
      have b1 := iv_le.mp b1
      refine k_aload 103 rfl g0 rfl ?_
      refine k_dup 104 rfl rfl rfl ?_
      refine r_gI hI 107 rfl rfl rfl (fun x2 (e3 : x2.toInt = F 59) => ?_)
      refine k_push 108 rfl rfl ?_
      have hc4 : (1 : Int32).toInt = 1 := by decide
      obtain ⟨x5, q6⟩ : ∃ q : Int32, q = (x2 + (1 : Int32)) := ⟨_, rfl⟩
      have e7 : x5.toInt = x2.toInt + 1 := by rw [q6, iv_add (by omega) (by omega)]; omega
      refine k_bin x5 109 rfl q6.symm rfl ?_
      refine r_pI hI 112 rfl rfl rfl (fun h8 I9 => ?_)
      exact k_fin rfl rfl ⟨_, _, _, rfl, I9, (fr1.up (by decide) hF), hA, show (x5.toInt) = F0 59 + 1 ∧ wq A from ⟨by omega, i5⟩⟩
    · refine k_c2 81 rfl rfl (if_neg b1) ?_
      have b1 := mt iv_le.mpr b1
      refine k_aload 82 rfl g0 rfl ?_
      refine r_gA hI 85 rfl rfl rfl ?_
      refine k_iload 86 rfl g2 rfl ?_
      refine k_iload 88 rfl g4 rfl ?_
      obtain ⟨x10, q11⟩ : ∃ q : Int32, q = (v2 + v4) := ⟨_, rfl⟩
      have e12 : x10.toInt = v2.toInt + v4.toInt := by rw [q11, iv_add (by omega) (by omega)]
      refine k_bin x10 89 rfl q11.symm rfl ?_
      refine k_aload 90 rfl g0 rfl ?_
      refine k_iload 92 rfl g4 rfl ?_
      have e13 : F 50 = F0 50 := hF 50 (by decide)
      refine k_rq hI rfl (m_stackAt  hI.1 (show 0 ≤ v4.toInt by omega) (show (F 50) ≤ 4300 by omega) (show wr A from i6)) rfl rfl rfl hI.rc ?_
      rintro x14 h15 F16 A17 I18 ⟨k20, k21, p19⟩
      replace p19 : 0 ≤ x14.toInt ∧ x14.toInt ≤ 4000 := p19
      have k20 := fr1.nil k20
      subst k20
      have k21 := fr2.nil k21
      subst k21
      show am_Ok _ _ _ (95, _, [.inl x14, .inl x10, .inr (.inr (some (rf_ad 61)))], _, 0, 0) _
      refine r_st 61 I18 96 rfl rfl (by omega) (show x10.toInt < 90000 by omega) rfl (fun h22 I23 => ?_)
      have hc24 : (1 : Int32).toInt = 1 := by decide
      obtain ⟨x25, q26⟩ : ∃ q : Int32, q = v4 + (1 : Int32) := ⟨_, rfl⟩
      have e27 : x25.toInt = v4.toInt + 1 := by rw [q26, iv_add (by omega) (by omega)]; omega
      refine k_iinc x25 99 rfl g4 q26.symm rfl ?_
      refine k_goto 75 rfl rfl ?_
      exact ih _ (show ((v3.toInt - x25.toInt).toNat) < n by omega)  rfl (gs_ne rfl rfl g0) (gs_ne rfl rfl g1) (gs_ne rfl rfl g2) (gs_ne rfl rfl g3) gs_eq I23 hF (fr2.up (by decide) hA) (show 0 ≤ x25.toInt ∧ x25.toInt ≤ 200 ∧ 0 ≤ v2.toInt ∧ v2.toInt ≤ 200 * F0 59 ∧ 0 ≤ v3.toInt ∧ v3.toInt ≤ 200 by omega) (show (F 59) = F0 59 by omega) (show wq (up2 A 61 x10.toInt x14.toInt) from i5.o (by decide)) (show wr (up2 A 61 x10.toInt x14.toInt) from i6.o (by decide))
theorem m_goesInto {h0 : am_h} {F0 : rf_f} {A0 : rf_A} {w1 : Int32}  (hR : rf_R h0 F0 A0) (p1 : 0 ≤ F0 59 ∧ F0 59 ≤ 401) (p2 : 0 ≤ F0 50 ∧ F0 50 ≤ 4300) (p3 : wr A0) (p4 : wq A0) (p5 : 0 ≤ w1.toInt ∧ w1.toInt < 8000 ∧ 0 ≤ A0 25 w1.toInt ∧ A0 25 w1.toInt ≤ 200) : am_Mt 2 230 [.inr (.inr (some 81)), .inl w1] h0 (rf_V h0 (fun F' A' => fr1 [59] F0 F' ∧ fr2 [56, 57, 58, 61] A0 A' ∧ (F' 59 = F0 59 + 1 ∧ wq A'))) := by
  refine am_Mt.of (D := 1) ?_
  have hI : rf_I h0 h0 F0 A0 := rf_I.start hR
  refine k_aload 1 rfl rfl rfl ?_
  refine r_gI hI 4 rfl rfl rfl (fun x28 (e29 : x28.toInt = F0 59) => ?_)
  by_cases b30 : x28 = 0
  · refine k_c1 7 rfl rfl (if_pos b30) ?_
    have b30 := iv_eq0.mp b30
    refine k_push 8 rfl rfl ?_
    have hc31 : (0 : Int32).toInt = 0 := by decide
    refine k_goto 34 rfl rfl ?_
    refine k_istore 35 rfl rfl ?_
    refine k_aload 36 rfl (gs_ne rfl rfl rfl) rfl ?_
    refine r_gA hI 39 rfl rfl rfl ?_
    refine k_iload 40 rfl (gs_ne rfl rfl rfl) rfl ?_
    refine r_ld 25 hI 41 rfl rfl (by omega) (show w1.toInt < 8010 by omega) rfl (fun x32 (e33 : x32.toInt = A0 25 w1.toInt) => ?_)
    refine k_istore 42 rfl rfl ?_
    refine k_aload 43 rfl (gs_ne rfl rfl (gs_ne rfl rfl rfl)) rfl ?_
    refine r_gA hI 46 rfl rfl rfl ?_
    refine k_aload 47 rfl (gs_ne rfl rfl (gs_ne rfl rfl rfl)) rfl ?_
    refine r_gI hI 50 rfl rfl rfl (fun x34 (e35 : x34.toInt = F0 59) => ?_)
    refine k_iload 51 rfl (gs_ne rfl rfl (gs_ne rfl rfl rfl)) rfl ?_
    refine r_st 56 hI 52 rfl rfl (by omega) (show x34.toInt < 402 by omega) rfl (fun h36 I37 => ?_)
    refine k_aload 53 rfl (gs_ne rfl rfl (gs_ne rfl rfl rfl)) rfl ?_
    refine r_gA I37 56 rfl rfl rfl ?_
    refine k_aload 57 rfl (gs_ne rfl rfl (gs_ne rfl rfl rfl)) rfl ?_
    refine r_gI I37 60 rfl rfl rfl (fun x38 (e39 : x38.toInt = F0 59) => ?_)
    refine k_iload 61 rfl (gs_ne rfl rfl gs_eq) rfl ?_
    refine r_st 57 I37 62 rfl rfl (by omega) (show x38.toInt < 402 by omega) rfl (fun h40 I41 => ?_)
    refine k_aload 63 rfl (gs_ne rfl rfl (gs_ne rfl rfl rfl)) rfl ?_
    refine r_gA I41 66 rfl rfl rfl ?_
    refine k_aload 67 rfl (gs_ne rfl rfl (gs_ne rfl rfl rfl)) rfl ?_
    refine r_gI I41 70 rfl rfl rfl (fun x42 (e43 : x42.toInt = F0 59) => ?_)
    refine k_iload 71 rfl gs_eq rfl ?_
    refine r_st 58 I41 72 rfl rfl (by omega) (show x42.toInt < 402 by omega) rfl (fun h44 I45 => ?_)
    refine k_push 73 rfl rfl ?_
    refine k_istore 75 rfl rfl ?_
    exact b_X10_goesInto_75  (w1 := w1) p1 p2 p3 p4 p5 _  rfl (gs_ne rfl rfl (gs_ne rfl rfl (gs_ne rfl rfl rfl))) (gs_ne rfl rfl (gs_ne rfl rfl (gs_ne rfl rfl rfl))) (gs_ne rfl rfl (gs_ne rfl rfl gs_eq)) (gs_ne rfl rfl gs_eq) gs_eq I45 fr1.rf (fr2.up (by decide) (fr2.up (by decide) (fr2.up (by decide) fr2.rf))) (show 0 ≤ (0 : Int32).toInt ∧ (0 : Int32).toInt ≤ 200 ∧ 0 ≤ (0 : Int32).toInt ∧ (0 : Int32).toInt ≤ 200 * F0 59 ∧ 0 ≤ x32.toInt ∧ x32.toInt ≤ 200 by omega) (show (F0 59) = F0 59 by omega) (show wq (up2 (up2 (up2 A0 56 x34.toInt w1.toInt) 57 x38.toInt (0 : Int32).toInt) 58 x42.toInt x32.toInt) from ((p4.o (by decide)).a (k := F0 59) (by omega) (by omega) (by omega) (by omega) (by omega) (by omega))) (show wr (up2 (up2 (up2 A0 56 x34.toInt w1.toInt) 57 x38.toInt (0 : Int32).toInt) 58 x42.toInt x32.toInt) from ((p3.o (by decide)).o (by decide)).o (by decide))
  · refine k_c1 11 rfl rfl (if_neg b30) ?_
    have b30 := mt iv_eq0.mpr b30
    refine k_aload 12 rfl rfl rfl ?_
    refine r_gA hI 15 rfl rfl rfl ?_
    refine k_aload 16 rfl rfl rfl ?_
    refine r_gI hI 19 rfl rfl rfl (fun x46 (e47 : x46.toInt = F0 59) => ?_)
    refine k_push 20 rfl rfl ?_
    have hc48 : (1 : Int32).toInt = 1 := by decide
    obtain ⟨x49, q50⟩ : ∃ q : Int32, q = (x46 - (1 : Int32)) := ⟨_, rfl⟩
    have e51 : x49.toInt = x46.toInt - 1 := by rw [q50, iv_sub (by omega) (by omega)]; omega
    refine k_bin x49 21 rfl q50.symm rfl ?_
    refine r_ld 57 hI 22 rfl rfl (by omega) (show x49.toInt < 402 by omega) rfl (fun x52 (e53 : x52.toInt = A0 57 x49.toInt) => ?_)
    rw [e51] at e53
    refine k_aload 23 rfl rfl rfl ?_
    refine r_gA hI 26 rfl rfl rfl ?_
    refine k_aload 27 rfl rfl rfl ?_
    refine r_gI hI 30 rfl rfl rfl (fun x54 (e55 : x54.toInt = F0 59) => ?_)
    refine k_push 31 rfl rfl ?_
    obtain ⟨x56, q57⟩ : ∃ q : Int32, q = (x54 - (1 : Int32)) := ⟨_, rfl⟩
    have e58 : x56.toInt = x54.toInt - 1 := by rw [q57, iv_sub (by omega) (by omega)]; omega
    refine k_bin x56 32 rfl q57.symm rfl ?_
    refine r_ld 58 hI 33 rfl rfl (by omega) (show x56.toInt < 402 by omega) rfl (fun x59 (e60 : x59.toInt = A0 58 x56.toInt) => ?_)
    rw [e58] at e60
    have hq9 := p4 (F0 59 - 1) (by omega)
    have ha9 : x52.toInt = A0 57 (F0 59 - 1) := by rw [e53]; congr 1; omega
    have hb9 : x59.toInt = A0 58 (F0 59 - 1) := by rw [e60]; congr 1; omega
    obtain ⟨x61, q62⟩ : ∃ q : Int32, q = (x52 + x59) := ⟨_, rfl⟩
    have e63 : x61.toInt = x52.toInt + x59.toInt := by rw [q62, iv_add (by omega) (by omega)]
    refine k_bin x61 34 rfl q62.symm rfl ?_
    refine k_istore 35 rfl rfl ?_
    refine k_aload 36 rfl (gs_ne rfl rfl rfl) rfl ?_
    refine r_gA hI 39 rfl rfl rfl ?_
    refine k_iload 40 rfl (gs_ne rfl rfl rfl) rfl ?_
    refine r_ld 25 hI 41 rfl rfl (by omega) (show w1.toInt < 8010 by omega) rfl (fun x64 (e65 : x64.toInt = A0 25 w1.toInt) => ?_)
    refine k_istore 42 rfl rfl ?_
    refine k_aload 43 rfl (gs_ne rfl rfl (gs_ne rfl rfl rfl)) rfl ?_
    refine r_gA hI 46 rfl rfl rfl ?_
    refine k_aload 47 rfl (gs_ne rfl rfl (gs_ne rfl rfl rfl)) rfl ?_
    refine r_gI hI 50 rfl rfl rfl (fun x66 (e67 : x66.toInt = F0 59) => ?_)
    refine k_iload 51 rfl (gs_ne rfl rfl (gs_ne rfl rfl rfl)) rfl ?_
    refine r_st 56 hI 52 rfl rfl (by omega) (show x66.toInt < 402 by omega) rfl (fun h68 I69 => ?_)
    refine k_aload 53 rfl (gs_ne rfl rfl (gs_ne rfl rfl rfl)) rfl ?_
    refine r_gA I69 56 rfl rfl rfl ?_
    refine k_aload 57 rfl (gs_ne rfl rfl (gs_ne rfl rfl rfl)) rfl ?_
    refine r_gI I69 60 rfl rfl rfl (fun x70 (e71 : x70.toInt = F0 59) => ?_)
    refine k_iload 61 rfl (gs_ne rfl rfl gs_eq) rfl ?_
    refine r_st 57 I69 62 rfl rfl (by omega) (show x70.toInt < 402 by omega) rfl (fun h72 I73 => ?_)
    refine k_aload 63 rfl (gs_ne rfl rfl (gs_ne rfl rfl rfl)) rfl ?_
    refine r_gA I73 66 rfl rfl rfl ?_
    refine k_aload 67 rfl (gs_ne rfl rfl (gs_ne rfl rfl rfl)) rfl ?_
    refine r_gI I73 70 rfl rfl rfl (fun x74 (e75 : x74.toInt = F0 59) => ?_)
    refine k_iload 71 rfl gs_eq rfl ?_
    refine r_st 58 I73 72 rfl rfl (by omega) (show x74.toInt < 402 by omega) rfl (fun h76 I77 => ?_)
    refine k_push 73 rfl rfl ?_
    have hc78 : (0 : Int32).toInt = 0 := by decide
    refine k_istore 75 rfl rfl ?_
    exact b_X10_goesInto_75  (w1 := w1) p1 p2 p3 p4 p5 _  rfl (gs_ne rfl rfl (gs_ne rfl rfl (gs_ne rfl rfl rfl))) (gs_ne rfl rfl (gs_ne rfl rfl (gs_ne rfl rfl rfl))) (gs_ne rfl rfl (gs_ne rfl rfl gs_eq)) (gs_ne rfl rfl gs_eq) gs_eq I77 fr1.rf (fr2.up (by decide) (fr2.up (by decide) (fr2.up (by decide) fr2.rf))) (show 0 ≤ (0 : Int32).toInt ∧ (0 : Int32).toInt ≤ 200 ∧ 0 ≤ x61.toInt ∧ x61.toInt ≤ 200 * F0 59 ∧ 0 ≤ x64.toInt ∧ x64.toInt ≤ 200 by omega) (show (F0 59) = F0 59 by omega) (show wq (up2 (up2 (up2 A0 56 x66.toInt w1.toInt) 57 x70.toInt x61.toInt) 58 x74.toInt x64.toInt) from ((p4.o (by decide)).a (k := F0 59) (by omega) (by omega) (by omega) (by omega) (by omega) (by omega))) (show wr (up2 (up2 (up2 A0 56 x66.toInt w1.toInt) 57 x70.toInt x61.toInt) 58 x74.toInt x64.toInt) from ((p3.o (by decide)).o (by decide)).o (by decide))
theorem b_X10_isAsAround_2 {h0 : am_h} {F0 : rf_f} {A0 : rf_A} {w1 : Int32}  (p1 : 0 ≤ w1.toInt ∧ w1.toInt ≤ 401) (p2 : 0 ≤ F0 50 ∧ F0 50 ≤ 4300) (p3 : wr A0) (p4 : wq A0) : ∀ (n : Nat) {lv : am_l} {h : am_h} {F : rf_f} {A : rf_A} {v1 : Int32} {v2 : Int32}, ((200 - v2.toInt).toNat) = n → am_get lv 0 = some (.inr (.inr (some 81))) → am_get lv 1 = some (.inl v1) → am_get lv 2 = some (.inl v2) → rf_I h0 h F A → fr1 [] F0 F → fr2 [] A0 A → (v1.toInt = w1.toInt ∧ 0 ≤ v2.toInt ∧ v2.toInt ≤ 200) → am_Ok am_G 1 232 (2, lv, [], h, 0, 0) (rf_Q h0 (fun x F' A' => fr1 [] F0 F' ∧ fr2 [] A0 A' ∧ (x = 0 ∨ x = 1))) := by
  intro n
  induction n using Nat.strongRecOn with
  | ind n ih =>
    intro lv h F A v1 v2 hn g0 g1 g2 hI hF hA i1
    have hq9 := p4 v1.toInt (by omega)
    refine k_iload 3 rfl g2 rfl ?_
    refine k_aload 4 rfl g0 rfl ?_
    refine r_gA hI 7 rfl rfl rfl ?_
    refine k_iload 8 rfl g1 rfl ?_
    refine r_ld 58 hI 9 rfl rfl (by omega) (show v1.toInt < 402 by omega) rfl (fun x1 (e2 : x1.toInt = A 58 v1.toInt) => ?_)
    have e3 : A 58 = A0 58 := hA 58 (by decide)
    rw [e3] at e2
    by_cases b4 : x1 ≤ v2
    · refine k_c2 41 rfl rfl (if_pos b4) ?_
      have b4 := iv_le.mp b4
      refine k_push 42 rfl rfl ?_
      have hc5 : (1 : Int32).toInt = 1 := by decide
      exact k_fin rfl (fin_Z (Or.inr rfl)) ⟨_, _, _, _, rfl, hI, hF, hA, show (1 : Int32).toInt = 0 ∨ (1 : Int32).toInt = 1 by omega⟩
    · refine k_c2 12 rfl rfl (if_neg b4) ?_
      have b4 := mt iv_le.mpr b4
      refine k_aload 13 rfl g0 rfl ?_
      refine r_gA hI 16 rfl rfl rfl ?_
      refine k_aload 17 rfl g0 rfl ?_
      refine r_gA hI 20 rfl rfl rfl ?_
      refine k_iload 21 rfl g1 rfl ?_
      refine r_ld 57 hI 22 rfl rfl (by omega) (show v1.toInt < 402 by omega) rfl (fun x6 (e7 : x6.toInt = A 57 v1.toInt) => ?_)
      have e8 : A 57 = A0 57 := hA 57 (by decide)
      rw [e8] at e7
      refine k_iload 23 rfl g2 rfl ?_
      obtain ⟨x9, q10⟩ : ∃ q : Int32, q = (x6 + v2) := ⟨_, rfl⟩
      have e11 : x9.toInt = x6.toInt + v2.toInt := by rw [q10, iv_add (by omega) (by omega)]
      refine k_bin x9 24 rfl q10.symm rfl ?_
      refine r_ld 61 hI 25 rfl rfl (by omega) (show x9.toInt < 90000 by omega) rfl (fun x12 (e13 : x12.toInt = A 61 x9.toInt) => ?_)
      rw [e11] at e13
      have e14 : A 61 = A0 61 := hA 61 (by decide)
      rw [e14] at e13
      refine k_aload 26 rfl g0 rfl ?_
      refine k_iload 27 rfl g2 rfl ?_
      have e15 : F 50 = F0 50 := hF 50 (by decide)
      refine k_rq hI rfl (m_stackAt  hI.1 (show 0 ≤ v2.toInt by omega) (show (F 50) ≤ 4300 by omega) (show wr A by rw [← fr2.nil hA]; exact p3)) rfl rfl rfl hI.rc ?_
      rintro x16 h17 F18 A19 I20 ⟨k22, k23, p21⟩
      replace p21 : 0 ≤ x16.toInt ∧ x16.toInt ≤ 4000 := p21
      have k22 := fr1.nil k22
      subst k22
      have k23 := fr2.nil k23
      subst k23
      show am_Ok _ _ _ (30, _, [.inl x16, .inl x12], _, 0, 0) _
      by_cases b24 : x12 = x16
      · refine k_c2 35 rfl rfl (if_pos b24) ?_
        have b24 := iv_eq.mp b24
        have hc25 : (1 : Int32).toInt = 1 := by decide
        obtain ⟨x26, q27⟩ : ∃ q : Int32, q = v2 + (1 : Int32) := ⟨_, rfl⟩
        have e28 : x26.toInt = v2.toInt + 1 := by rw [q27, iv_add (by omega) (by omega)]; omega
        refine k_iinc x26 38 rfl g2 q27.symm rfl ?_
        refine k_goto 2 rfl rfl ?_
        exact ih _ (show ((200 - x26.toInt).toNat) < n by omega)  rfl (gs_ne rfl rfl g0) (gs_ne rfl rfl g1) gs_eq I20 hF hA (show v1.toInt = w1.toInt ∧ 0 ≤ x26.toInt ∧ x26.toInt ≤ 200 by omega)
      · refine k_c2 33 rfl rfl (if_neg b24) ?_
        have b24 := mt iv_eq.mpr b24
        refine k_push 34 rfl rfl ?_
        have hc29 : (0 : Int32).toInt = 0 := by decide
        exact k_fin rfl (fin_Z (Or.inl rfl)) ⟨_, _, _, _, rfl, I20, hF, hA, show (0 : Int32).toInt = 0 ∨ (0 : Int32).toInt = 1 by omega⟩
theorem m_isAsAround {h0 : am_h} {F0 : rf_f} {A0 : rf_A} {w1 : Int32}  (hR : rf_R h0 F0 A0) (p1 : 0 ≤ w1.toInt ∧ w1.toInt ≤ 401) (p2 : 0 ≤ F0 50 ∧ F0 50 ≤ 4300) (p3 : wr A0) (p4 : wq A0) : am_Mt 2 232 [.inr (.inr (some 81)), .inl w1] h0 (rf_Q h0 (fun x F' A' => fr1 [] F0 F' ∧ fr2 [] A0 A' ∧ (x = 0 ∨ x = 1))) := by
  refine am_Mt.of (D := 1) ?_
  have hI : rf_I h0 h0 F0 A0 := rf_I.start hR
  refine k_push 1 rfl rfl ?_
  have hc30 : (0 : Int32).toInt = 0 := by decide
  refine k_istore 2 rfl rfl ?_
  exact b_X10_isAsAround_2  (w1 := w1) p1 p2 p3 p4 _  rfl (gs_ne rfl rfl rfl) (gs_ne rfl rfl rfl) gs_eq hI fr1.rf fr2.rf (show w1.toInt = w1.toInt ∧ 0 ≤ (0 : Int32).toInt ∧ (0 : Int32).toInt ≤ 200 by omega)
theorem b_X10_betweenTo_7 {h0 : am_h} {F0 : rf_f} {A0 : rf_A} {w1 : Int32}  (p1 : 0 ≤ F0 59 ∧ F0 59 ≤ 402) (p2 : 0 ≤ F0 50 ∧ F0 50 ≤ 4300) (p3 : wr A0) (p4 : wq A0) : ∀ (n : Nat) {lv : am_l} {h : am_h} {F : rf_f} {A : rf_A} {v1 : Int32} {v2 : Int32}, ((v2.toInt + 1).toNat) = n → am_get lv 0 = some (.inr (.inr (some 81))) → am_get lv 1 = some (.inl v1) → am_get lv 2 = some (.inl v2) → rf_I h0 h F A → fr1 [] F0 F → fr2 [] A0 A → (-1 ≤ v2.toInt ∧ v2.toInt ≤ 401 ∧ v2.toInt < F0 59) → am_Ok am_G 2 231 (7, lv, [], h, 0, 0) (rf_Q h0 (fun x F' A' => fr1 [] F0 F' ∧ fr2 [] A0 A' ∧ (-1 ≤ x ∧ x ≤ 401))) := by
  intro n
  induction n using Nat.strongRecOn with
  | ind n ih =>
    intro lv h F A v1 v2 hn g0 g1 g2 hI hF hA i1
    refine k_iload 8 rfl g2 rfl ?_
    by_cases b1 : v2 < 0
    · refine k_c1 44 rfl rfl (if_pos b1) ?_
      have b1 := iv_lt0.mp b1
      refine k_push 45 rfl rfl ?_
      have hc2 : (-1 : Int32).toInt = -1 := by decide
      exact k_fin rfl rfl ⟨_, _, _, _, rfl, hI, hF, hA, show -1 ≤ (-1 : Int32).toInt ∧ (-1 : Int32).toInt ≤ 401 by omega⟩
    · refine k_c1 11 rfl rfl (if_neg b1) ?_
      have b1 := mt iv_lt0.mpr b1
      refine k_aload 12 rfl g0 rfl ?_
      refine r_gA hI 15 rfl rfl rfl ?_
      refine k_iload 16 rfl g2 rfl ?_
      refine r_ld 56 hI 17 rfl rfl (by omega) (show v2.toInt < 402 by omega) rfl (fun x3 (e4 : x3.toInt = A 56 v2.toInt) => ?_)
      have e5 : A 56 = A0 56 := hA 56 (by decide)
      rw [e5] at e4
      refine k_iload 18 rfl g1 rfl ?_
      by_cases b6 : x3 = v1
      · refine k_c2 21 rfl rfl (if_pos b6) ?_
        have b6 := iv_eq.mp b6
        refine k_aload 22 rfl g0 rfl ?_
        refine k_iload 23 rfl g2 rfl ?_
        have e7 : F 50 = F0 50 := hF 50 (by decide)
        refine k_rq hI rfl (m_isAsAround  hI.1 (show 0 ≤ v2.toInt ∧ v2.toInt ≤ 401 by omega) (show 0 ≤ (F 50) ∧ (F 50) ≤ 4300 by omega) (show wr A by rw [← fr2.nil hA]; exact p3) (show wq A by rw [← fr2.nil hA]; exact p4)) rfl rfl rfl hI.rc ?_
        rintro x8 h9 F10 A11 I12 ⟨k14, k15, p13⟩
        replace p13 : x8.toInt = 0 ∨ x8.toInt = 1 := p13
        have k14 := fr1.nil k14
        subst k14
        have k15 := fr2.nil k15
        subst k15
        have z16 := iv_01 (x := x8) p13
        show am_Ok _ _ _ (26, _, [.inl x8], _, 0, 0) _
        by_cases b17 : x8 = 0
        · refine k_c1 38 rfl rfl (if_pos b17) ?_
          have b17 := iv_eq0.mp b17
          have hc18 : (-1 : Int32).toInt = -1 := by decide
          obtain ⟨x19, q20⟩ : ∃ q : Int32, q = v2 + (-1 : Int32) := ⟨_, rfl⟩
          have e21 : x19.toInt = v2.toInt + -1 := by rw [q20, iv_add (by omega) (by omega)]; omega
          refine k_iinc x19 41 rfl g2 q20.symm rfl ?_
          refine k_goto 7 rfl rfl ?_
          exact ih _ (show ((x19.toInt + 1).toNat) < n by omega)  rfl (gs_ne rfl rfl g0) (gs_ne rfl rfl g1) gs_eq I12 hF hA (show -1 ≤ x19.toInt ∧ x19.toInt ≤ 401 ∧ x19.toInt < F0 59 by omega)
        · refine k_c1 29 rfl rfl (if_neg b17) ?_
          have b17 := mt iv_eq0.mpr b17
          refine k_aload 30 rfl g0 rfl ?_
          refine r_gI I12 33 rfl rfl rfl (fun x22 (e23 : x22.toInt = F 59) => ?_)
          have e24 : F 59 = F0 59 := hF 59 (by decide)
          refine k_push 34 rfl rfl ?_
          have hc25 : (1 : Int32).toInt = 1 := by decide
          obtain ⟨x26, q27⟩ : ∃ q : Int32, q = (x22 - (1 : Int32)) := ⟨_, rfl⟩
          have e28 : x26.toInt = x22.toInt - 1 := by rw [q27, iv_sub (by omega) (by omega)]; omega
          refine k_bin x26 35 rfl q27.symm rfl ?_
          refine k_iload 36 rfl g2 rfl ?_
          obtain ⟨x29, q30⟩ : ∃ q : Int32, q = (x26 - v2) := ⟨_, rfl⟩
          have e31 : x29.toInt = x26.toInt - v2.toInt := by rw [q30, iv_sub (by omega) (by omega)]
          refine k_bin x29 37 rfl q30.symm rfl ?_
          exact k_fin rfl rfl ⟨_, _, _, _, rfl, I12, hF, hA, show -1 ≤ x29.toInt ∧ x29.toInt ≤ 401 by omega⟩
      · refine k_c2 38 rfl rfl (if_neg b6) ?_
        have b6 := mt iv_eq.mpr b6
        have hc32 : (-1 : Int32).toInt = -1 := by decide
        obtain ⟨x33, q34⟩ : ∃ q : Int32, q = v2 + (-1 : Int32) := ⟨_, rfl⟩
        have e35 : x33.toInt = v2.toInt + -1 := by rw [q34, iv_add (by omega) (by omega)]; omega
        refine k_iinc x33 41 rfl g2 q34.symm rfl ?_
        refine k_goto 7 rfl rfl ?_
        exact ih _ (show ((x33.toInt + 1).toNat) < n by omega)  rfl (gs_ne rfl rfl g0) (gs_ne rfl rfl g1) gs_eq hI hF hA (show -1 ≤ x33.toInt ∧ x33.toInt ≤ 401 ∧ x33.toInt < F0 59 by omega)
theorem m_betweenTo {h0 : am_h} {F0 : rf_f} {A0 : rf_A} {w1 : Int32}  (hR : rf_R h0 F0 A0) (p1 : 0 ≤ F0 59 ∧ F0 59 ≤ 402) (p2 : 0 ≤ F0 50 ∧ F0 50 ≤ 4300) (p3 : wr A0) (p4 : wq A0) : am_Mt 3 231 [.inr (.inr (some 81)), .inl w1] h0 (rf_Q h0 (fun x F' A' => fr1 [] F0 F' ∧ fr2 [] A0 A' ∧ (-1 ≤ x ∧ x ≤ 401))) := by
  refine am_Mt.of (D := 2) ?_
  have hI : rf_I h0 h0 F0 A0 := rf_I.start hR
  refine k_aload 1 rfl rfl rfl ?_
  refine r_gI hI 4 rfl rfl rfl (fun x36 (e37 : x36.toInt = F0 59) => ?_)
  refine k_push 5 rfl rfl ?_
  have hc38 : (1 : Int32).toInt = 1 := by decide
  obtain ⟨x39, q40⟩ : ∃ q : Int32, q = (x36 - (1 : Int32)) := ⟨_, rfl⟩
  have e41 : x39.toInt = x36.toInt - 1 := by rw [q40, iv_sub (by omega) (by omega)]; omega
  refine k_bin x39 6 rfl q40.symm rfl ?_
  refine k_istore 7 rfl rfl ?_
  exact b_X10_betweenTo_7  (w1 := w1) p1 p2 p3 p4 _  rfl (gs_ne rfl rfl rfl) (gs_ne rfl rfl rfl) gs_eq hI fr1.rf fr2.rf (show -1 ≤ x39.toInt ∧ x39.toInt ≤ 401 ∧ x39.toInt < F0 59 by omega)
end
