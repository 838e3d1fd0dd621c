section
set_option maxHeartbeats 4000000 in
theorem b_X10_readsTelling_120 {h0 : am_h} {F0 : rf_f} {A0 : rf_A} {tx : List Int} {gs : mS} (p1 : 0 ≤ F0 8 ∧ F0 8 ≤ F0 7 ∧ F0 7 ≤ 700 ∧ 0 ≤ F0 20 ∧ F0 20 ≤ 30 ∧ 0 ≤ F0 21 ∧ F0 21 ≤ 12 ∧ 0 ≤ F0 18 ∧ F0 18 ≤ 12 ∧ 0 ≤ F0 23 ∧ F0 23 ≤ 1000000 ∧ (F0 9 = 2 → 0 ≤ F0 11 ∧ F0 11 ≤ 9) ∧ 0 ≤ F0 9 ∧ F0 9 ≤ 4) (p2 : nm (A0 16) (A0 17) (F0 18)) (p3 : F0 20 = 0 ∧ F0 21 = 0 ∧ F0 6 = 0) (pT : TP tx (F0 7) (A0 3)) (p6 : XI tx gs (F0 8) (F0 9) (F0 10) (F0 11) (F0 12) (F0 13) (F0 14) (F0 18) (F0 20) (F0 21) (F0 23) (A0 15) (A0 16) (A0 17) (A0 19) (A0 22)) (p7 : F0 9 = 1 ∧ tO tx (F0 8) = 61) : ∀ (n : Nat) {lv : am_l} {h : am_h} {F : rf_f} {A : rf_A} {v1 : Int64} {v3 : Int32}, ((124 - v3.toInt).toNat) = n → am_get lv 0 = some (.inr (.inr (some 81))) → am_get lv 1 = some (.inr (.inl v1)) → am_get lv 3 = some (.inl v3) → rf_I h0 h F A → fr1 [8, 10, 9, 14, 11, 12, 13, 6, 5, 23, 20, 21, 18] F0 F → fr2 [22, 19, 15, 17, 16] A0 A → (0 ≤ v3.toInt ∧ v3.toInt ≤ 124 ∧ v3.toInt ≤ F 23) → (F 6 = 0 ∧ F 20 = 0 ∧ F 21 = 0 ∧ F0 8 ≤ F 8 ∧ F 8 ≤ F0 7 ∧ 0 ≤ F 23 ∧ F 23 ≤ 1000000 ∧ (F 9 = 2 → 0 ≤ F 11 ∧ F 11 ≤ 9) ∧ 0 ≤ F 9 ∧ F 9 ≤ 4 ∧ F 18 = F0 18 ∧ F0 18 < 12) → (A 17 (F0 18) = F 23 ∧ ∀ j : Int, j ≠ F0 18 → A 17 j = A0 17 j) → (∀ q : Int, q < 124 * F0 18 → A 16 q = A0 16 q) → (∀ j : Int, 0 ≤ j → j < v3.toInt → A 16 (124 * F0 18 + j) = A 22 j) → (imp (F 23 ≤ 124) (rd1 (A 22) (A0 22) 0 (F 23) 0)) → (XK tx gs (F 8) (F 9) (F 10) (F 11) (F 12) (F 13) (F 14) (F 23) (A 22)) → (A 15 (F0 18) = F0 13 ∧ ∀ j : Int, j ≠ F0 18 → A 15 j = A0 15 j) → (F 5 = F0 5 ∧ F0 14 ≤ 8) → am_Ok am_G 91 184 (120, lv, [], h, 0, 0) (rf_V h0 (fun F' A' => fr1 [8, 10, 9, 14, 11, 12, 13, 6, 5, 23, 20, 21, 18] F0 F' ∧ fr2 [22, 19, 15, 17, 16] A0 A' ∧ ((F0 8 ≤ F' 8 ∧ F' 8 ≤ F0 7 ∧ 0 ≤ F' 20 ∧ F' 20 ≤ 30 ∧ F' 21 = 0 ∧ 0 ≤ F' 23 ∧ F' 23 ≤ 1000000 ∧ (F' 9 = 2 → 0 ≤ F' 11 ∧ F' 11 ≤ 9) ∧ 0 ≤ F' 9 ∧ F' 9 ≤ 4) ∧ (F' 6 = 0 → F' 20 = 0 ∧ F' 18 = F0 18 + 1 ∧ F' 5 = F0 5) ∧ (F0 18 ≤ F' 18 ∧ F' 18 ≤ 12) ∧ nm (A' 16) (A' 17) (F' 18) ∧ XJ tx gs (F' 5) (F' 6) (F' 8) (F' 9) (F' 10) (F' 11) (F' 12) (F' 13) (F' 14) (F' 18) (F' 20) (F' 21) (F' 23) (A' 15) (A' 16) (A' 17) (A' 19) (A' 22)))) := by
  intro n
  induction n using Nat.strongRecOn with
  | ind n ih =>
    intro lv h F A v1 v3 hn g0 g1 g3 hI hF hA i1 i2 i3 i4 i5 i6 i7 i8 i9
    refine k_iload 121 rfl g3 rfl ?_
    refine k_aload 122 rfl g0 rfl ?_
    refine r_gI hI 125 rfl rfl rfl (fun x1 (e2 : x1.toInt = F 23) => ?_)
    by_cases b3 : x1 ≤ v3
    · refine k_c2 160 rfl rfl (if_pos b3) ?_
      have b3 := iv_le.mp b3
      refine k_aload 161 rfl g0 rfl ?_
      refine k_dup 162 rfl rfl rfl ?_
      refine r_gI hI 165 rfl rfl rfl (fun x4 (e5 : x4.toInt = F 18) => ?_)
      refine k_push 166 rfl rfl ?_
      have hc6 : (1 : Int32).toInt = 1 := by decide
      obtain ⟨x7, q8⟩ : ∃ q : Int32, q = (x4 + (1 : Int32)) := ⟨_, rfl⟩
      have e9 : x7.toInt = x4.toInt + 1 := by rw [q8, iv_add (by omega) (by omega)]; omega
      refine k_bin x7 167 rfl q8.symm rfl ?_
      refine r_pI hI 170 rfl rfl rfl (fun h10 I11 => ?_)
      exact k_fin rfl rfl ⟨_, _, _, rfl, I11, (fr1.up (by decide) hF), hA, ⟨(show (F0 8 ≤ F 8 ∧ F 8 ≤ F0 7 ∧ 0 ≤ F 20 ∧ F 20 ≤ 30 ∧ F 21 = 0 ∧ 0 ≤ F 23 ∧ F 23 ≤ 1000000 ∧ (F 9 = 2 → 0 ≤ F 11 ∧ F 11 ≤ 9) ∧ 0 ≤ F 9 ∧ F 9 ≤ 4) by (repeat' apply And.intro) <;> omega), (show (F 6 = 0 → F 20 = 0 ∧ x7.toInt = F0 18 + 1 ∧ F 5 = F0 5) by intro z9; (repeat' apply And.intro) <;> omega), (show (F0 18 ≤ x7.toInt ∧ x7.toInt ≤ 12) by omega), nm_new (u := A 22) (t := A0 22) (k := F0 18) (m := F 23) p2 (by omega) i3 (by omega) i4 (fun z => ⟨i6 z, fun j j1 j2 => i5 j j1 (by omega)⟩) (show x7.toInt = F0 18 + 1 by omega), (show XJ tx gs (F 5) (F 6) (F 8) (F 9) (F 10) (F 11) (F 12) (F 13) (F 14) (x7.toInt) (F 20) (F 21) (F 23) ((A 15)) ((A 16)) ((A 17)) ((A 19)) ((A 22)) from rg_e p6 p7.1 i9.2 (by omega) i7 i8 i3 i4 (fun z j j1 j2 => i5 j j1 (by omega)) (by omega) (by omega) (by omega) (by omega))⟩⟩
    · refine k_c2 128 rfl rfl (if_neg b3) ?_
      have b3 := mt iv_le.mpr b3
      refine k_iload 129 rfl g3 rfl ?_
      refine k_push 131 rfl rfl ?_
      have hc12 : (124 : Int32).toInt = 124 := by decide
      by_cases b13 : (124 : Int32) ≤ v3
      · refine k_c2 160 rfl rfl (if_pos b13) ?_
        have b13 := iv_le.mp b13
        refine k_aload 161 rfl g0 rfl ?_
        refine k_dup 162 rfl rfl rfl ?_
        refine r_gI hI 165 rfl rfl rfl (fun x14 (e15 : x14.toInt = F 18) => ?_)
        refine k_push 166 rfl rfl ?_
        have hc16 : (1 : Int32).toInt = 1 := by decide
        obtain ⟨x17, q18⟩ : ∃ q : Int32, q = (x14 + (1 : Int32)) := ⟨_, rfl⟩
        have e19 : x17.toInt = x14.toInt + 1 := by rw [q18, iv_add (by omega) (by omega)]; omega
        refine k_bin x17 167 rfl q18.symm rfl ?_
        refine r_pI hI 170 rfl rfl rfl (fun h20 I21 => ?_)
        exact k_fin rfl rfl ⟨_, _, _, rfl, I21, (fr1.up (by decide) hF), hA, ⟨(show (F0 8 ≤ F 8 ∧ F 8 ≤ F0 7 ∧ 0 ≤ F 20 ∧ F 20 ≤ 30 ∧ F 21 = 0 ∧ 0 ≤ F 23 ∧ F 23 ≤ 1000000 ∧ (F 9 = 2 → 0 ≤ F 11 ∧ F 11 ≤ 9) ∧ 0 ≤ F 9 ∧ F 9 ≤ 4) by (repeat' apply And.intro) <;> omega), (show (F 6 = 0 → F 20 = 0 ∧ x17.toInt = F0 18 + 1 ∧ F 5 = F0 5) by intro z9; (repeat' apply And.intro) <;> omega), (show (F0 18 ≤ x17.toInt ∧ x17.toInt ≤ 12) by omega), nm_new (u := A 22) (t := A0 22) (k := F0 18) (m := F 23) p2 (by omega) i3 (by omega) i4 (fun z => ⟨i6 z, fun j j1 j2 => i5 j j1 (by omega)⟩) (show x17.toInt = F0 18 + 1 by omega), (show XJ tx gs (F 5) (F 6) (F 8) (F 9) (F 10) (F 11) (F 12) (F 13) (F 14) (x17.toInt) (F 20) (F 21) (F 23) ((A 15)) ((A 16)) ((A 17)) ((A 19)) ((A 22)) from rg_e p6 p7.1 i9.2 (by omega) i7 i8 i3 i4 (fun z j j1 j2 => i5 j j1 (by omega)) (by omega) (by omega) (by omega) (by omega))⟩⟩
      · refine k_c2 134 rfl rfl (if_neg b13) ?_
        have b13 := mt iv_le.mpr b13
        refine k_aload 135 rfl g0 rfl ?_
        refine r_gA hI 138 rfl rfl rfl ?_
        refine k_push 140 rfl rfl ?_
        refine k_aload 141 rfl g0 rfl ?_
        refine r_gI hI 144 rfl rfl rfl (fun x22 (e23 : x22.toInt = F 18) => ?_)
        obtain ⟨x24, q25⟩ : ∃ q : Int32, q = ((124 : Int32) * x22) := ⟨_, rfl⟩
        have e26 : x24.toInt = 124 * x22.toInt := by rw [q25]; exact iv_mulc 124 (by decide) (by omega) (by omega)
        refine k_bin x24 145 rfl q25.symm rfl ?_
        refine k_iload 146 rfl g3 rfl ?_
        obtain ⟨x27, q28⟩ : ∃ q : Int32, q = (x24 + v3) := ⟨_, rfl⟩
        have e29 : x27.toInt = x24.toInt + v3.toInt := by rw [q28, iv_add (by omega) (by omega)]
        refine k_bin x27 147 rfl q28.symm rfl ?_
        refine k_aload 148 rfl g0 rfl ?_
        refine r_gA hI 151 rfl rfl rfl ?_
        refine k_iload 152 rfl g3 rfl ?_
        refine r_ld 22 hI 153 rfl rfl (by omega) (show v3.toInt < 130 by omega) rfl (fun x30 (e31 : x30.toInt = A 22 v3.toInt) => ?_)
        have hx9 : x30.toInt = A 22 v3.toInt := e31
        refine r_st 16 hI 154 rfl rfl (by omega) (show x27.toInt < 1488 by omega) rfl (fun h32 I33 => ?_)
        have hc34 : (1 : Int32).toInt = 1 := by decide
        obtain ⟨x35, q36⟩ : ∃ q : Int32, q = v3 + (1 : Int32) := ⟨_, rfl⟩
        have e37 : x35.toInt = v3.toInt + 1 := by rw [q36, iv_add (by omega) (by omega)]; omega
        refine k_iinc x35 157 rfl g3 q36.symm rfl ?_
        refine k_goto 120 rfl rfl ?_
        exact ih _ (show ((124 - x35.toInt).toNat) < n by omega)  rfl (gs_ne rfl rfl g0) (gs_ne rfl rfl g1) gs_eq I33 hF (fr2.up (by decide) hA) (show 0 ≤ x35.toInt ∧ x35.toInt ≤ 124 ∧ x35.toInt ≤ (F 23) by omega) (show (F 6) = 0 ∧ (F 20) = 0 ∧ (F 21) = 0 ∧ F0 8 ≤ (F 8) ∧ (F 8) ≤ F0 7 ∧ 0 ≤ (F 23) ∧ (F 23) ≤ 1000000 ∧ ((F 9) = 2 → 0 ≤ (F 11) ∧ (F 11) ≤ 9) ∧ 0 ≤ (F 9) ∧ (F 9) ≤ 4 ∧ (F 18) = F0 18 ∧ F0 18 < 12 by omega) (⟨(up2_r (by decide)).trans i3.1, fun j hj => (up2_r (by decide)).trans (i3.2 j hj)⟩) (fun q hq => (up2_ne (by omega)).trans (i4 q hq)) (by rw [up2_k (j := 22) (by decide)]; exact ra_1 i5 (by omega) hx9 (by omega)) (fun z => by rw [up2_k (by decide)]; exact i6 z) (by rw [up2_k (by decide)]; exact i7) (⟨(up2_r (by decide)).trans i8.1, fun j hj => (up2_r (by decide)).trans (i8.2 j hj)⟩) (show (F 5) = F0 5 ∧ F0 14 ≤ 8 by omega)
set_option maxHeartbeats 4000000 in
theorem m_readsTelling {h0 : am_h} {F0 : rf_f} {A0 : rf_A} {tx : List Int} {gs : mS} (hR : rf_R h0 F0 A0) (p1 : 0 ≤ F0 8 ∧ F0 8 ≤ F0 7 ∧ F0 7 ≤ 700 ∧ 0 ≤ F0 20 ∧ F0 20 ≤ 30 ∧ 0 ≤ F0 21 ∧ F0 21 ≤ 12 ∧ 0 ≤ F0 18 ∧ F0 18 ≤ 12 ∧ 0 ≤ F0 23 ∧ F0 23 ≤ 1000000 ∧ (F0 9 = 2 → 0 ≤ F0 11 ∧ F0 11 ≤ 9) ∧ 0 ≤ F0 9 ∧ F0 9 ≤ 4) (p2 : nm (A0 16) (A0 17) (F0 18)) (p3 : F0 20 = 0 ∧ F0 21 = 0 ∧ F0 6 = 0) (pT : TP tx (F0 7) (A0 3)) (p6 : XI tx gs (F0 8) (F0 9) (F0 10) (F0 11) (F0 12) (F0 13) (F0 14) (F0 18) (F0 20) (F0 21) (F0 23) (A0 15) (A0 16) (A0 17) (A0 19) (A0 22)) (p7 : F0 9 = 1 ∧ tO tx (F0 8) = 61) : am_Mt 92 184 [.inr (.inr (some 81))] h0 (rf_V h0 (fun F' A' => fr1 [8, 10, 9, 14, 11, 12, 13, 6, 5, 23, 20, 21, 18] F0 F' ∧ fr2 [22, 19, 15, 17, 16] A0 A' ∧ ((F0 8 ≤ F' 8 ∧ F' 8 ≤ F0 7 ∧ 0 ≤ F' 20 ∧ F' 20 ≤ 30 ∧ F' 21 = 0 ∧ 0 ≤ F' 23 ∧ F' 23 ≤ 1000000 ∧ (F' 9 = 2 → 0 ≤ F' 11 ∧ F' 11 ≤ 9) ∧ 0 ≤ F' 9 ∧ F' 9 ≤ 4) ∧ (F' 6 = 0 → F' 20 = 0 ∧ F' 18 = F0 18 + 1 ∧ F' 5 = F0 5) ∧ (F0 18 ≤ F' 18 ∧ F' 18 ≤ 12) ∧ nm (A' 16) (A' 17) (F' 18) ∧ XJ tx gs (F' 5) (F' 6) (F' 8) (F' 9) (F' 10) (F' 11) (F' 12) (F' 13) (F' 14) (F' 18) (F' 20) (F' 21) (F' 23) (A' 15) (A' 16) (A' 17) (A' 19) (A' 22)))) := by
  refine am_Mt.of (D := 91) ?_
  have hI : rf_I h0 h0 F0 A0 := rf_I.start hR
  have hb6 := p6.1.b
  have h61 : tO tx (tE tx (m_e gs)) = 61 := by rw [← hb6.2.1]; exact p7.2
  refine k_aload 1 rfl rfl rfl ?_
  refine k_aload 2 rfl rfl rfl ?_
  refine r_gI hI 5 rfl rfl rfl (fun x38 (e39 : x38.toInt = F0 14) => ?_)
  refine k_push 7 rfl rfl ?_
  have hc40 : (8 : Int32).toInt = 8 := by decide
  by_cases b41 : (8 : Int32) < x38
  · refine k_c2 23 rfl rfl (if_pos b41) ?_
    have b41 := iv_lt.mp b41
    refine k_push 24 rfl rfl ?_
    have hc42 : (0 : Int32).toInt = 0 := by decide
    refine k_push 25 rfl rfl ?_
    have hc43 : (2 : Int32).toInt = 2 := by decide
    refine k_rq hI rfl (m_check  hI.1 (show (2 : Int32).toInt ≠ 0 by decide)) rfl rfl rfl hI.rc ?_
    rintro x44 h45 F46 A47 I48 ⟨k50, k51, pq49⟩
    replace pq49 : ((x44.toInt = 1 ∧ (F0 6) = 0 ∧ (0 : Int32).toInt ≠ 0 ∧ F46 6 = 0 ∧ F46 5 = (F0 5)) ∨ (x44.toInt = 0 ∧ F46 6 ≠ 0 ∧ (((F0 6) = 0 ∧ (0 : Int32).toInt = 0 ∧ F46 6 = (2 : Int32).toInt ∧ F46 5 = (F0 10)) ∨ ((F0 6) ≠ 0 ∧ F46 6 = (F0 6) ∧ F46 5 = (F0 5))))) := pq49
    have k51 := fr2.nil k51
    subst k51
    have z52 := iv_01 (x := x44) (by omega)
    show am_Ok _ _ _ (28, _, [.inl x44], _, 0, 0) _
    by_cases b53 : x44 = 0
    · refine k_c1 56 rfl rfl (if_pos b53) ?_
      have b53 := iv_eq0.mp b53
      obtain ⟨hk7, hk8, hk9, hne⟩ : F46 6 = 2 ∧ F46 5 = F0 10 ∧ (8 < F0 14 ∨ 12 ≤ F0 18) ∧ F46 6 ≠ 0 := by omega
      clear pq49
      have e54 : F46 8 = F0 8 := k50 8 (by decide)
      have e55 : F46 20 = F0 20 := k50 20 (by decide)
      have e56 : F46 21 = F0 21 := k50 21 (by decide)
      have e57 : F46 23 = F0 23 := k50 23 (by decide)
      have e58 : F46 9 = F0 9 := k50 9 (by decide)
      have e59 : F46 11 = F0 11 := k50 11 (by decide)
      have e60 : F46 18 = F0 18 := k50 18 (by decide)
      have e61 : F46 10 = F0 10 := k50 10 (by decide)
      have e62 : F46 12 = F0 12 := k50 12 (by decide)
      have e63 : F46 13 = F0 13 := k50 13 (by decide)
      have e64 : F46 14 = F0 14 := k50 14 (by decide)
      exact k_fin rfl rfl ⟨_, _, _, rfl, I48, (fr1.tr (by decide) fr1.rf k50), fr2.rf, ⟨(show (F0 8 ≤ F46 8 ∧ F46 8 ≤ F0 7 ∧ 0 ≤ F46 20 ∧ F46 20 ≤ 30 ∧ F46 21 = 0 ∧ 0 ≤ F46 23 ∧ F46 23 ≤ 1000000 ∧ (F46 9 = 2 → 0 ≤ F46 11 ∧ F46 11 ≤ 9) ∧ 0 ≤ F46 9 ∧ F46 9 ≤ 4) by (repeat' apply And.intro) <;> omega), (fun z => absurd (show F46 6 = 0 from z) hne), (show (F0 18 ≤ F46 18 ∧ F46 18 ≤ 12) by omega), (by rw [(show A0 16 = A0 16 from rfl), (show A0 17 = A0 17 from rfl)]; show nm (A0 16) (A0 17) (F46 18); rw [show F46 18 = F0 18 by omega]; exact p2), (show XJ tx gs (F46 5) (F46 6) (F46 8) (F46 9) (F46 10) (F46 11) (F46 12) (F46 13) (F46 14) (F46 18) (F46 20) (F46 21) (F46 23) ((A0 15)) ((A0 16)) ((A0 17)) ((A0 19)) ((A0 22)) from XJ.bad hne (rg_2 p6 p7.1 h61 hk9 hk7 hk8))⟩⟩
    · refine k_c1 31 rfl rfl (if_neg b53) ?_
      have b53 := mt iv_eq0.mpr b53
      exfalso
      omega
  · refine k_c2 10 rfl rfl (if_neg b41) ?_
    have b41 := mt iv_lt.mpr b41
    refine k_aload 11 rfl rfl rfl ?_
    refine r_gI hI 14 rfl rfl rfl (fun x65 (e66 : x65.toInt = F0 18) => ?_)
    refine k_push 16 rfl rfl ?_
    have hc67 : (12 : Int32).toInt = 12 := by decide
    by_cases b68 : (12 : Int32) ≤ x65
    · refine k_c2 23 rfl rfl (if_pos b68) ?_
      have b68 := iv_le.mp b68
      refine k_push 24 rfl rfl ?_
      have hc69 : (0 : Int32).toInt = 0 := by decide
      refine k_push 25 rfl rfl ?_
      have hc70 : (2 : Int32).toInt = 2 := by decide
      refine k_rq hI rfl (m_check  hI.1 (show (2 : Int32).toInt ≠ 0 by decide)) rfl rfl rfl hI.rc ?_
      rintro x71 h72 F73 A74 I75 ⟨k77, k78, pq76⟩
      replace pq76 : ((x71.toInt = 1 ∧ (F0 6) = 0 ∧ (0 : Int32).toInt ≠ 0 ∧ F73 6 = 0 ∧ F73 5 = (F0 5)) ∨ (x71.toInt = 0 ∧ F73 6 ≠ 0 ∧ (((F0 6) = 0 ∧ (0 : Int32).toInt = 0 ∧ F73 6 = (2 : Int32).toInt ∧ F73 5 = (F0 10)) ∨ ((F0 6) ≠ 0 ∧ F73 6 = (F0 6) ∧ F73 5 = (F0 5))))) := pq76
      have k78 := fr2.nil k78
      subst k78
      have z79 := iv_01 (x := x71) (by omega)
      show am_Ok _ _ _ (28, _, [.inl x71], _, 0, 0) _
      by_cases b80 : x71 = 0
      · refine k_c1 56 rfl rfl (if_pos b80) ?_
        have b80 := iv_eq0.mp b80
        obtain ⟨hk7, hk8, hk9, hne⟩ : F73 6 = 2 ∧ F73 5 = F0 10 ∧ (8 < F0 14 ∨ 12 ≤ F0 18) ∧ F73 6 ≠ 0 := by omega
        clear pq76
        have e81 : F73 8 = F0 8 := k77 8 (by decide)
        have e82 : F73 20 = F0 20 := k77 20 (by decide)
        have e83 : F73 21 = F0 21 := k77 21 (by decide)
        have e84 : F73 23 = F0 23 := k77 23 (by decide)
        have e85 : F73 9 = F0 9 := k77 9 (by decide)
        have e86 : F73 11 = F0 11 := k77 11 (by decide)
        have e87 : F73 18 = F0 18 := k77 18 (by decide)
        have e88 : F73 10 = F0 10 := k77 10 (by decide)
        have e89 : F73 12 = F0 12 := k77 12 (by decide)
        have e90 : F73 13 = F0 13 := k77 13 (by decide)
        have e91 : F73 14 = F0 14 := k77 14 (by decide)
        exact k_fin rfl rfl ⟨_, _, _, rfl, I75, (fr1.tr (by decide) fr1.rf k77), fr2.rf, ⟨(show (F0 8 ≤ F73 8 ∧ F73 8 ≤ F0 7 ∧ 0 ≤ F73 20 ∧ F73 20 ≤ 30 ∧ F73 21 = 0 ∧ 0 ≤ F73 23 ∧ F73 23 ≤ 1000000 ∧ (F73 9 = 2 → 0 ≤ F73 11 ∧ F73 11 ≤ 9) ∧ 0 ≤ F73 9 ∧ F73 9 ≤ 4) by (repeat' apply And.intro) <;> omega), (fun z => absurd (show F73 6 = 0 from z) hne), (show (F0 18 ≤ F73 18 ∧ F73 18 ≤ 12) by omega), (by rw [(show A0 16 = A0 16 from rfl), (show A0 17 = A0 17 from rfl)]; show nm (A0 16) (A0 17) (F73 18); rw [show F73 18 = F0 18 by omega]; exact p2), (show XJ tx gs (F73 5) (F73 6) (F73 8) (F73 9) (F73 10) (F73 11) (F73 12) (F73 13) (F73 14) (F73 18) (F73 20) (F73 21) (F73 23) ((A0 15)) ((A0 16)) ((A0 17)) ((A0 19)) ((A0 22)) from XJ.bad hne (rg_2 p6 p7.1 h61 hk9 hk7 hk8))⟩⟩
      · refine k_c1 31 rfl rfl (if_neg b80) ?_
        have b80 := mt iv_eq0.mpr b80
        exfalso
        omega
    · refine k_c2 19 rfl rfl (if_neg b68) ?_
      have b68 := mt iv_le.mpr b68
      refine k_push 20 rfl rfl ?_
      have hc92 : (1 : Int32).toInt = 1 := by decide
      refine k_goto 24 rfl rfl ?_
      refine k_push 25 rfl rfl ?_
      have hc93 : (2 : Int32).toInt = 2 := by decide
      refine k_rq hI rfl (m_check  hI.1 (show (2 : Int32).toInt ≠ 0 by decide)) rfl rfl rfl hI.rc ?_
      rintro x94 h95 F96 A97 I98 ⟨k100, k101, pq99⟩
      replace pq99 : ((x94.toInt = 1 ∧ (F0 6) = 0 ∧ (1 : Int32).toInt ≠ 0 ∧ F96 6 = 0 ∧ F96 5 = (F0 5)) ∨ (x94.toInt = 0 ∧ F96 6 ≠ 0 ∧ (((F0 6) = 0 ∧ (1 : Int32).toInt = 0 ∧ F96 6 = (2 : Int32).toInt ∧ F96 5 = (F0 10)) ∨ ((F0 6) ≠ 0 ∧ F96 6 = (F0 6) ∧ F96 5 = (F0 5))))) := pq99
      have k101 := fr2.nil k101
      subst k101
      have z102 := iv_01 (x := x94) (by omega)
      show am_Ok _ _ _ (28, _, [.inl x94], _, 0, 0) _
      by_cases b103 : x94 = 0
      · refine k_c1 56 rfl rfl (if_pos b103) ?_
        have b103 := iv_eq0.mp b103
        obtain ⟨hk7, hk8, hk9, hne⟩ : F96 6 = 2 ∧ F96 5 = F0 10 ∧ (8 < F0 14 ∨ 12 ≤ F0 18) ∧ F96 6 ≠ 0 := by omega
        clear pq99
        have e104 : F96 8 = F0 8 := k100 8 (by decide)
        have e105 : F96 20 = F0 20 := k100 20 (by decide)
        have e106 : F96 21 = F0 21 := k100 21 (by decide)
        have e107 : F96 23 = F0 23 := k100 23 (by decide)
        have e108 : F96 9 = F0 9 := k100 9 (by decide)
        have e109 : F96 11 = F0 11 := k100 11 (by decide)
        have e110 : F96 18 = F0 18 := k100 18 (by decide)
        have e111 : F96 10 = F0 10 := k100 10 (by decide)
        have e112 : F96 12 = F0 12 := k100 12 (by decide)
        have e113 : F96 13 = F0 13 := k100 13 (by decide)
        have e114 : F96 14 = F0 14 := k100 14 (by decide)
        exact k_fin rfl rfl ⟨_, _, _, rfl, I98, (fr1.tr (by decide) fr1.rf k100), fr2.rf, ⟨(show (F0 8 ≤ F96 8 ∧ F96 8 ≤ F0 7 ∧ 0 ≤ F96 20 ∧ F96 20 ≤ 30 ∧ F96 21 = 0 ∧ 0 ≤ F96 23 ∧ F96 23 ≤ 1000000 ∧ (F96 9 = 2 → 0 ≤ F96 11 ∧ F96 11 ≤ 9) ∧ 0 ≤ F96 9 ∧ F96 9 ≤ 4) by (repeat' apply And.intro) <;> omega), (fun z => absurd (show F96 6 = 0 from z) hne), (show (F0 18 ≤ F96 18 ∧ F96 18 ≤ 12) by omega), (by rw [(show A0 16 = A0 16 from rfl), (show A0 17 = A0 17 from rfl)]; show nm (A0 16) (A0 17) (F96 18); rw [show F96 18 = F0 18 by omega]; exact p2), (show XJ tx gs (F96 5) (F96 6) (F96 8) (F96 9) (F96 10) (F96 11) (F96 12) (F96 13) (F96 14) (F96 18) (F96 20) (F96 21) (F96 23) ((A0 15)) ((A0 16)) ((A0 17)) ((A0 19)) ((A0 22)) from XJ.bad hne (rg_2 p6 p7.1 h61 hk9 hk7 hk8))⟩⟩
      · refine k_c1 31 rfl rfl (if_neg b103) ?_
        have b103 := mt iv_eq0.mpr b103
        obtain ⟨hk1, hk2, hk3, hk4⟩ : F96 6 = 0 ∧ F96 5 = F0 5 ∧ F0 14 ≤ 8 ∧ F0 18 < 12 := by omega
        clear pq99
        refine k_aload 32 rfl rfl rfl ?_
        refine k_aload 33 rfl rfl rfl ?_
        refine k_aload 34 rfl rfl rfl ?_
        refine r_gJ I98 37 rfl rfl rfl (fun y115 (e116 : y115.toInt = F96 13) => ?_)
        have e117 : F96 13 = F0 13 := k100 13 (by decide)
        have e118 : F96 18 = F0 18 := k100 18 (by decide)
        refine k_rq I98 rfl (m_nameOf  I98.1 (show 0 ≤ (F96 18) ∧ (F96 18) ≤ 12 by omega)) rfl rfl rfl I98.rc ?_
        rintro x119 h120 F121 A122 I123 ⟨k125, k126, pq124⟩
        replace pq124 : (x119.toInt = -1 ∨ (0 ≤ x119.toInt ∧ x119.toInt < (F96 18))) ∧ (∀ k : Int, 0 ≤ k → k < (F96 18) → (x119.toInt = -1 ∨ k < x119.toInt) → (A0 15) k ≠ y115.toInt) ∧ (x119.toInt ≠ -1 → (A0 15) x119.toInt = y115.toInt) := pq124
        obtain ⟨pq124a, pq124b, pq124c⟩ := pq124
        have k125 := fr1.nil k125
        subst k125
        have k126 := fr2.nil k126
        subst k126
        show am_Ok _ _ _ (40, _, [.inl x119, .inr (.inr (some 81))], _, 0, 0) _
        have hw9 : y115.toInt = F0 13 := by omega
        have hna := pq124a
        have hnb := pq124b
        have hnc := pq124c
        rw [hw9] at hnb hnc
        rw [(k100 18 (by decide))] at hna hnb
        have hgx := rn_N p6.1 p7.1 hk3 p6.2.1 hna hnb hnc
        clear pq124a pq124b pq124c hna hnb hnc
        refine k_push 41 rfl rfl ?_
        have hc127 : (-1 : Int32).toInt = -1 := by decide
        by_cases b128 : x119 = (-1 : Int32)
        · refine k_c2 44 rfl rfl (if_pos b128) ?_
          have b128 := iv_eq.mp b128
          refine k_push 45 rfl rfl ?_
          refine k_goto 49 rfl rfl ?_
          refine k_push 50 rfl rfl ?_
          have hc129 : (4 : Int32).toInt = 4 := by decide
          refine k_rq I123 rfl (m_check  I123.1 (show (4 : Int32).toInt ≠ 0 by decide)) rfl rfl rfl I123.rc ?_
          rintro x130 h131 F132 A133 I134 ⟨k136, k137, pq135⟩
          have e138 : F96 10 = F0 10 := k100 10 (by decide)
          replace pq135 : ((x130.toInt = 1 ∧ (F96 6) = 0 ∧ (1 : Int32).toInt ≠ 0 ∧ F132 6 = 0 ∧ F132 5 = (F96 5)) ∨ (x130.toInt = 0 ∧ F132 6 ≠ 0 ∧ (((F96 6) = 0 ∧ (1 : Int32).toInt = 0 ∧ F132 6 = (4 : Int32).toInt ∧ F132 5 = (F96 10)) ∨ ((F96 6) ≠ 0 ∧ F132 6 = (F96 6) ∧ F132 5 = (F96 5))))) := pq135
          have k137 := fr2.nil k137
          subst k137
          have z139 := iv_01 (x := x130) (by omega)
          show am_Ok _ _ _ (53, _, [.inl x130], _, 0, 0) _
          by_cases b140 : x130 = 0
          · refine k_c1 56 rfl rfl (if_pos b140) ?_
            have b140 := iv_eq0.mp b140
            obtain ⟨hk7, hk8, hk9, hne⟩ : F132 6 = 4 ∧ F132 5 = F0 10 ∧ fi (m_w tx gs) (m_nw gs) ≠ -1 ∧ F132 6 ≠ 0 := by omega
            clear pq135
            have e141 : F132 8 = F96 8 := k136 8 (by decide)
            have e142 : F96 8 = F0 8 := k100 8 (by decide)
            have e143 : F132 20 = F96 20 := k136 20 (by decide)
            have e144 : F96 20 = F0 20 := k100 20 (by decide)
            have e145 : F132 21 = F96 21 := k136 21 (by decide)
            have e146 : F96 21 = F0 21 := k100 21 (by decide)
            have e147 : F132 23 = F96 23 := k136 23 (by decide)
            have e148 : F96 23 = F0 23 := k100 23 (by decide)
            have e149 : F132 9 = F96 9 := k136 9 (by decide)
            have e150 : F96 9 = F0 9 := k100 9 (by decide)
            have e151 : F132 11 = F96 11 := k136 11 (by decide)
            have e152 : F96 11 = F0 11 := k100 11 (by decide)
            have e153 : F132 18 = F96 18 := k136 18 (by decide)
            have e154 : F132 10 = F96 10 := k136 10 (by decide)
            have e155 : F132 12 = F96 12 := k136 12 (by decide)
            have e156 : F96 12 = F0 12 := k100 12 (by decide)
            have e157 : F132 13 = F96 13 := k136 13 (by decide)
            have e158 : F132 14 = F96 14 := k136 14 (by decide)
            have e159 : F96 14 = F0 14 := k100 14 (by decide)
            exact k_fin rfl rfl ⟨_, _, _, rfl, I134, (fr1.tr (by decide) (fr1.tr (by decide) fr1.rf k100) k136), fr2.rf, ⟨(show (F0 8 ≤ F132 8 ∧ F132 8 ≤ F0 7 ∧ 0 ≤ F132 20 ∧ F132 20 ≤ 30 ∧ F132 21 = 0 ∧ 0 ≤ F132 23 ∧ F132 23 ≤ 1000000 ∧ (F132 9 = 2 → 0 ≤ F132 11 ∧ F132 11 ≤ 9) ∧ 0 ≤ F132 9 ∧ F132 9 ≤ 4) by (repeat' apply And.intro) <;> omega), (fun z => absurd (show F132 6 = 0 from z) hne), (show (F0 18 ≤ F132 18 ∧ F132 18 ≤ 12) by omega), (by rw [(show A0 16 = A0 16 from rfl), (show A0 17 = A0 17 from rfl)]; show nm (A0 16) (A0 17) (F132 18); rw [show F132 18 = F0 18 by omega]; exact p2), (show XJ tx gs (F132 5) (F132 6) (F132 8) (F132 9) (F132 10) (F132 11) (F132 12) (F132 13) (F132 14) (F132 18) (F132 20) (F132 21) (F132 23) ((A0 15)) ((A0 16)) ((A0 17)) ((A0 19)) ((A0 22)) from XJ.bad hne (rg_4 p6 p7.1 h61 hk3 hk4 hk9 hk7 hk8))⟩⟩
          · refine k_c1 57 rfl rfl (if_neg b140) ?_
            have b140 := mt iv_eq0.mpr b140
            obtain ⟨hk5, hk6, hk7⟩ : F132 6 = 0 ∧ F132 5 = F0 5 ∧ fi (m_w tx gs) (m_nw gs) = -1 := by omega
            clear pq135
            have hms := rg_m p6 p7.1 h61 hk3 hk4 hk7
            refine k_aload 58 rfl rfl rfl ?_
            refine r_gJ I134 61 rfl rfl rfl (fun y160 (e161 : y160.toInt = F132 13) => ?_)
            have e162 : F132 13 = F96 13 := k136 13 (by decide)
            refine k_lstore 62 rfl rfl ?_
            refine k_aload 63 rfl (gs_ne2 rfl rfl rfl) rfl ?_
            have e163 : F132 8 = F96 8 := k136 8 (by decide)
            have e164 : F96 8 = F0 8 := k100 8 (by decide)
            have e165 : F132 7 = F96 7 := k136 7 (by decide)
            have e166 : F96 7 = F0 7 := k100 7 (by decide)
            refine k_rv I134 rfl (m_goes  I134.1 (show 0 ≤ (F132 8) ∧ (F132 8) ≤ (F132 7) ∧ (F132 7) ≤ 700 by omega) (show TP tx ((F132 7)) ((A0 3)) by rw [((k136 7 (by decide)).trans (k100 7 (by decide))), (show A0 3 = A0 3 from rfl)]; exact pT)) rfl rfl rfl I134.rc ?_
            rintro h168 F169 A170 I171 ⟨k173, k174, pq172⟩
            replace pq172 : ((F132 8) ≤ F169 8 ∧ F169 8 ≤ (F132 7)) ∧ (F169 9 = 0 ∨ (F132 8) < F169 8) ∧ (F169 9 = 2 → 0 ≤ F169 11 ∧ F169 11 ≤ 9) ∧ (0 ≤ F169 9 ∧ F169 9 ≤ 4) ∧ TKv tx ((F132 8)) (F169 8) (F169 9) (F169 10) (F169 11) (F169 12) (F169 13) (F169 14) := pq172
            obtain ⟨pq172a, pq172b, pq172c, pq172d, pq172e⟩ := pq172
            have k174 := fr2.nil k174
            subst k174
            show am_Ok _ _ _ (66, _, [], _, 0, 0) _
            have hg8 := pq172e.b.2.1
            have hgo := pq172e.o
            rw [show (F132 8) = tE tx (m_e gs) by omega] at hg8 hgo
            rw [h61] at hgo
            obtain ⟨hk8, hk9⟩ : F169 9 = 3 ∧ F169 11 = 61 := by omega
            clear hgo pq172e
            refine k_aload 67 rfl (gs_ne2 rfl rfl rfl) rfl ?_
            refine k_push 69 rfl rfl ?_
            have hc175 : (61 : Int32).toInt = 61 := by decide
            have e176 : F169 7 = F132 7 := k173 7 (by decide)
            refine k_rv I171 rfl (m_must  I171.1 (show 0 ≤ (F169 8) ∧ (F169 8) ≤ (F169 7) ∧ (F169 7) ≤ 700 ∧ ((F169 9) = 2 → 0 ≤ (F169 11) ∧ (F169 11) ≤ 9) ∧ 0 ≤ (F169 9) ∧ (F169 9) ≤ 4 by omega) (show TP tx ((F169 7)) ((A0 3)) by rw [((k173 7 (by decide)).trans ((k136 7 (by decide)).trans (k100 7 (by decide)))), (show A0 3 = A0 3 from rfl)]; exact pT)) rfl rfl rfl I171.rc ?_
            rintro h178 F179 A180 I181 ⟨k183, k184, pq182⟩
            have e185 : F169 6 = F132 6 := k173 6 (by decide)
            have e186 : F169 5 = F132 5 := k173 5 (by decide)
            replace pq182 : ((F169 8) ≤ F179 8 ∧ F179 8 ≤ (F169 7)) ∧ (F179 6 = 0 → (F169 6) = 0 ∧ (F179 9 = 0 ∨ (F169 8) < F179 8)) ∧ (F179 9 = 2 → 0 ≤ F179 11 ∧ F179 11 ≤ 9) ∧ (0 ≤ F179 9 ∧ F179 9 ≤ 4) ∧ (((F169 6) = 0 ∧ (F169 9) = 3 ∧ (F169 11) = (61 : Int32).toInt → F179 6 = 0 ∧ F179 5 = (F169 5)) ∧ (¬ ((F169 6) = 0 ∧ (F169 9) = 3 ∧ (F169 11) = (61 : Int32).toInt) → F179 6 ≠ 0 ∧ ((F169 6) = 0 → F179 6 = 1 ∧ F179 5 = (F169 10)) ∧ ((F169 6) ≠ 0 → F179 6 = (F169 6) ∧ F179 5 = (F169 5)))) ∧ imp (F179 6 = 0) (TKv tx ((F169 8)) (F179 8) (F179 9) (F179 10) (F179 11) (F179 12) (F179 13) (F179 14)) := pq182
            obtain ⟨pq182a, pq182b, pq182c, pq182d, pq182e, pq182f⟩ := pq182
            have k184 := fr2.nil k184
            subst k184
            show am_Ok _ _ _ (72, _, [], _, 0, 0) _
            have hm9 := pq182e
            rw [show (61 : Int32).toInt = 61 by decide] at hm9
            obtain ⟨hka, hkb⟩ : F179 6 = 0 ∧ F179 5 = F0 5 := by omega
            clear hm9 pq182e pq182b
            refine k_aload 73 rfl (gs_ne2 rfl rfl rfl) rfl ?_
            refine k_push 74 rfl rfl ?_
            have hc187 : (0 : Int32).toInt = 0 := by decide
            refine r_pI I181 77 rfl rfl rfl (fun h188 I189 => ?_)
            refine k_aload 78 rfl (gs_ne2 rfl rfl rfl) rfl ?_
            have e190 : F179 7 = F169 7 := k183 7 (by decide)
            have e191 : F179 20 = F169 20 := k183 20 (by decide)
            have e192 : F169 20 = F132 20 := k173 20 (by decide)
            have e193 : F132 20 = F96 20 := k136 20 (by decide)
            have e194 : F96 20 = F0 20 := k100 20 (by decide)
            have e195 : F179 21 = F169 21 := k183 21 (by decide)
            have e196 : F169 21 = F132 21 := k173 21 (by decide)
            have e197 : F132 21 = F96 21 := k136 21 (by decide)
            have e198 : F96 21 = F0 21 := k100 21 (by decide)
            have e199 : F179 18 = F169 18 := k183 18 (by decide)
            have e200 : F169 18 = F132 18 := k173 18 (by decide)
            have e201 : F132 18 = F96 18 := k136 18 (by decide)
            refine k_rv I189 rfl (reads_all (gk := 43) (gs := m_5 tx gs) I189.1 (show 0 ≤ (F179 8) ∧ (F179 8) ≤ (F179 7) ∧ (F179 7) ≤ 700 ∧ 0 ≤ (F179 20) ∧ (F179 20) ≤ 30 ∧ 0 ≤ (F179 21) ∧ (F179 21) ≤ 12 ∧ 0 ≤ (F179 18) ∧ (F179 18) ≤ 12 ∧ 0 ≤ ((0 : Int32).toInt) ∧ ((0 : Int32).toInt) ≤ 1000000 ∧ ((F179 9) = 2 → 0 ≤ (F179 11) ∧ (F179 11) ≤ 9) ∧ 0 ≤ (F179 9) ∧ (F179 9) ≤ 4 by omega) (show nm ((A0 16)) ((A0 17)) ((F179 18)) by rw [(show A0 16 = A0 16 from rfl), (show A0 17 = A0 17 from rfl), ((k183 18 (by decide)).trans ((k173 18 (by decide)).trans ((k136 18 (by decide)).trans (k100 18 (by decide)))))]; exact p2) (show (12 - (F179 21)) + (30 - (F179 20)) < ((43) : Int) by omega) (show TP tx ((F179 7)) ((A0 3)) by rw [((k183 7 (by decide)).trans ((k173 7 (by decide)).trans ((k136 7 (by decide)).trans (k100 7 (by decide))))), (show A0 3 = A0 3 from rfl)]; exact pT) (show imp ((F179 6) = 0) (XP tx (m_5 tx gs) ((F179 8)) ((F179 9)) ((F179 10)) ((F179 11)) ((F179 12)) ((F179 13)) ((F179 14)) ((F179 18)) ((F179 20)) ((F179 21)) (((0 : Int32).toInt)) ((A0 15)) ((A0 16)) ((A0 17)) ((A0 19)) ((A0 22))) from fun z => rg_p p6 ((pq182f z).cg (by omega) rfl rfl rfl rfl rfl rfl rfl) (by omega) (by omega) (by omega) (by omega) (show A0 15 = A0 15 from rfl) (show A0 16 = A0 16 from rfl) (show A0 17 = A0 17 from rfl))) rfl rfl rfl I189.rc ?_
            rintro h203 F204 A205 I206 ⟨k208, k209, pq207⟩
            replace pq207 : ((F179 8) ≤ F204 8 ∧ F204 8 ≤ (F179 7) ∧ (F179 20) ≤ F204 20 ∧ F204 20 ≤ 30 ∧ F204 21 = (F179 21) ∧ ((0 : Int32).toInt) ≤ F204 23 ∧ F204 23 ≤ 1000000 ∧ (F204 9 = 2 → 0 ≤ F204 11 ∧ F204 11 ≤ 9) ∧ 0 ≤ F204 9 ∧ F204 9 ≤ 4) ∧ (F204 6 = 0 → F204 20 = (F179 20) ∧ (F179 6) = 0 ∧ (F204 9 = 0 ∨ (F179 8) < F204 8) ∧ F204 5 = (F179 5)) ∧ imp (F204 6 = 0) (F204 23 ≤ 124 → rd1 (A205 22) ((A0 22)) (((0 : Int32).toInt)) (F204 23) ((F179 20))) ∧ (F204 6 = 0 → F204 9 ≠ 1 ∧ F204 9 ≠ 2 ∧ (F204 9 = 3 → F204 11 ≠ 40)) ∧ ((F179 6) ≠ 0 → F204 6 = (F179 6) ∧ F204 5 = (F179 5)) ∧ imp ((F179 6) = 0) (XT tx (m_5 tx gs) (F204 5) (F204 6) (F204 8) (F204 9) (F204 10) (F204 11) (F204 12) (F204 13) (F204 14) (F204 18) (F204 20) (F204 21) (F204 23) (A205 15) (A205 16) (A205 17) (A205 19) (A205 22)) := pq207
            obtain ⟨pq207a, pq207b, pq207c, pq207d, pq207e, pq207f⟩ := pq207
            show am_Ok _ _ _ (81, _, [], _, 0, 0) _
            have hxt := pq207f (by omega)
            have hxn := pq207d
            have hq6 : F204 6 = 0 → F204 5 = F0 5 := fun z => by omega
            refine k_aload 82 rfl (gs_ne2 rfl rfl rfl) rfl ?_
            refine k_push 84 rfl rfl ?_
            have hc210 : (59 : Int32).toInt = 59 := by decide
            have e211 : F204 7 = F179 7 := k208 7 (by decide)
            refine k_rv I206 rfl (m_must  I206.1 (show 0 ≤ (F204 8) ∧ (F204 8) ≤ (F204 7) ∧ (F204 7) ≤ 700 ∧ ((F204 9) = 2 → 0 ≤ (F204 11) ∧ (F204 11) ≤ 9) ∧ 0 ≤ (F204 9) ∧ (F204 9) ≤ 4 by omega) (show TP tx ((F204 7)) ((A205 3)) by rw [((k208 7 (by decide)).trans ((k183 7 (by decide)).trans ((k173 7 (by decide)).trans ((k136 7 (by decide)).trans (k100 7 (by decide)))))), (k209 3 (by decide))]; exact pT)) rfl rfl rfl I206.rc ?_
            rintro h213 F214 A215 I216 ⟨k218, k219, pq217⟩
            replace pq217 : ((F204 8) ≤ F214 8 ∧ F214 8 ≤ (F204 7)) ∧ (F214 6 = 0 → (F204 6) = 0 ∧ (F214 9 = 0 ∨ (F204 8) < F214 8)) ∧ (F214 9 = 2 → 0 ≤ F214 11 ∧ F214 11 ≤ 9) ∧ (0 ≤ F214 9 ∧ F214 9 ≤ 4) ∧ (((F204 6) = 0 ∧ (F204 9) = 3 ∧ (F204 11) = (59 : Int32).toInt → F214 6 = 0 ∧ F214 5 = (F204 5)) ∧ (¬ ((F204 6) = 0 ∧ (F204 9) = 3 ∧ (F204 11) = (59 : Int32).toInt) → F214 6 ≠ 0 ∧ ((F204 6) = 0 → F214 6 = 1 ∧ F214 5 = (F204 10)) ∧ ((F204 6) ≠ 0 → F214 6 = (F204 6) ∧ F214 5 = (F204 5)))) ∧ imp (F214 6 = 0) (TKv tx ((F204 8)) (F214 8) (F214 9) (F214 10) (F214 11) (F214 12) (F214 13) (F214 14)) := pq217
            obtain ⟨pq217a, pq217b, pq217c, pq217d, pq217e, pq217f⟩ := pq217
            have k219 := fr2.nil k219
            subst k219
            show am_Ok _ _ _ (87, _, [], _, 0, 0) _
            have e220 : F214 23 = F204 23 := k218 23 (by decide)
            have hm9 := pq217e
            rw [show (59 : Int32).toInt = 59 by decide] at hm9
            clear pq217e
            refine k_aload 88 rfl (gs_ne2 rfl rfl rfl) rfl ?_
            refine k_in (d := 0) rfl rfl rfl rfl I216.rc ?_
            refine k_aload 1 rfl rfl rfl ?_
            refine r_gI I216 4 rfl rfl rfl (fun x221 (e222 : x221.toInt = F214 6) => ?_)
            by_cases b223 : x221 = 0
            · refine k_c1 7 rfl rfl (if_pos b223) ?_
              have b223 := iv_eq0.mp b223
              refine k_push 8 rfl rfl ?_
              refine k_goto 12 rfl rfl ?_
              refine k_fin rfl (fin_Z (Or.inr rfl)) ⟨_, _, rfl, rf_len I216 I216, ?_⟩
              show am_Ok _ _ _ (91, _, [.inl (1 : Int32)], _, 0, 0) _
              refine k_c1 95 rfl rfl (if_neg (by decide)) ?_
              obtain ⟨hkc, hkd, hke, hkf⟩ : (F204 6) = 0 ∧ ((F204 9) = 3 ∧ (F204 11) = 59) ∧ F214 6 = 0 ∧ F214 5 = F0 5 := by omega
              have hxk : XK tx gs (F214 8) (F214 9) (F214 10) (F214 11) (F214 12) (F214 13) (F214 14) (F214 23) ((A205 22)) := rg_s p6 hms hxt hkc hkd (pq217f hke) (by omega) rfl
              clear hm9 hxn
              refine k_aload 96 rfl (gs_ne2 rfl rfl rfl) rfl ?_
              refine r_gA I216 99 rfl rfl rfl ?_
              refine k_aload 100 rfl (gs_ne2 rfl rfl rfl) rfl ?_
              refine r_gI I216 103 rfl rfl rfl (fun x224 (e225 : x224.toInt = F214 18) => ?_)
              have e226 : F214 18 = F204 18 := k218 18 (by decide)
              have e227 : F204 18 = F179 18 := k208 18 (by decide)
              refine k_lload 104 rfl gs_eq2 rfl ?_
              refine r_lst 15 I216 105 rfl rfl (by omega) (show x224.toInt < 12 by omega) rfl (fun h228 I229 => ?_)
              refine k_aload 106 rfl (gs_ne2 rfl rfl rfl) rfl ?_
              refine r_gA I229 109 rfl rfl rfl ?_
              refine k_aload 110 rfl (gs_ne2 rfl rfl rfl) rfl ?_
              refine r_gI I229 113 rfl rfl rfl (fun x230 (e231 : x230.toInt = F214 18) => ?_)
              refine k_aload 114 rfl (gs_ne2 rfl rfl rfl) rfl ?_
              refine r_gI I229 117 rfl rfl rfl (fun x232 (e233 : x232.toInt = F214 23) => ?_)
              refine r_st 17 I229 118 rfl rfl (by omega) (show x230.toInt < 12 by omega) rfl (fun h234 I235 => ?_)
              refine k_push 119 rfl rfl ?_
              refine k_istore 120 rfl rfl ?_
              have e236 : F214 20 = F204 20 := k218 20 (by decide)
              have e237 : F214 21 = F204 21 := k218 21 (by decide)
              exact b_X10_readsTelling_120 (tx := tx) (gs := gs)  p1 p2 p3 pT p6 p7 _  rfl (gs_ne rfl rfl (gs_ne2 rfl rfl rfl)) (gs_ne rfl rfl gs_eq2) gs_eq I235 (fr1.tr (by decide) (fr1.tr (by decide) (fr1.up (by decide) (fr1.tr (by decide) (fr1.tr (by decide) (fr1.tr (by decide) (fr1.tr (by decide) fr1.rf k100) k136) k173) k183)) k208) k218) (fr2.up (by decide) (fr2.up (by decide) (fr2.tr (by decide) fr2.rf k209))) (show 0 ≤ (0 : Int32).toInt ∧ (0 : Int32).toInt ≤ 124 ∧ (0 : Int32).toInt ≤ (F214 23) by omega) (show (F214 6) = 0 ∧ (F214 20) = 0 ∧ (F214 21) = 0 ∧ F0 8 ≤ (F214 8) ∧ (F214 8) ≤ F0 7 ∧ 0 ≤ (F214 23) ∧ (F214 23) ≤ 1000000 ∧ ((F214 9) = 2 → 0 ≤ (F214 11) ∧ (F214 11) ≤ 9) ∧ 0 ≤ (F214 9) ∧ (F214 9) ≤ 4 ∧ (F214 18) = F0 18 ∧ F0 18 < 12 by (repeat' apply And.intro) <;> omega) (⟨by rw [show F0 18 = x230.toInt by omega]; exact up2_eq.trans (by omega), fun j hj => (up2_ne (by omega)).trans ((up2_r (by decide)).trans (congrFun (k209 17 (by decide)) j))⟩) (fun q hq => (up2_r (by decide)).trans ((up2_r (by decide)).trans (congrFun (k209 16 (by decide)) q))) (fun j h1 h2 => absurd h2 (by omega)) (fun z => by have z9 : F214 23 ≤ 124 := z; rw [up2_k (by decide), up2_k (by decide)]; show rd1 (A205 22) (A0 22) 0 (F214 23) 0; exact rd_cg (pq207c hkc (by omega)) (by omega) (by omega) (by omega)) (by rw [up2_k (by decide), up2_k (by decide)]; exact hxk) (⟨(up2_r (by decide)).trans (by rw [show F0 18 = x224.toInt by omega]; exact up2_eq.trans (by omega)), fun j hj => (up2_r (by decide)).trans ((up2_ne (by omega)).trans (congrFun (k209 15 (by decide)) j))⟩) (show (F214 5) = F0 5 ∧ F0 14 ≤ 8 by omega)
            · refine k_c1 11 rfl rfl (if_neg b223) ?_
              have b223 := mt iv_eq0.mpr b223
              refine k_push 12 rfl rfl ?_
              refine k_fin rfl (fin_Z (Or.inl rfl)) ⟨_, _, rfl, rf_len I216 I216, ?_⟩
              show am_Ok _ _ _ (91, _, [.inl (0 : Int32)], _, 0, 0) _
              refine k_c1 94 rfl rfl (if_pos (by decide)) ?_
              have hzz : ¬ ((F204 6) = 0 ∧ (F204 9) = 3 ∧ (F204 11) = 59) := by omega
              have hne : F214 6 ≠ 0 := by omega
              have e238 : F214 20 = F204 20 := k218 20 (by decide)
              have e239 : F214 21 = F204 21 := k218 21 (by decide)
              have e240 : F214 18 = F204 18 := k218 18 (by decide)
              have e241 : F204 18 = F179 18 := k208 18 (by decide)
              exact k_fin rfl rfl ⟨_, _, _, rfl, I216, (fr1.tr (by decide) (fr1.tr (by decide) (fr1.up (by decide) (fr1.tr (by decide) (fr1.tr (by decide) (fr1.tr (by decide) (fr1.tr (by decide) fr1.rf k100) k136) k173) k183)) k208) k218), (fr2.tr (by decide) fr2.rf k209), ⟨(show (F0 8 ≤ F214 8 ∧ F214 8 ≤ F0 7 ∧ 0 ≤ F214 20 ∧ F214 20 ≤ 30 ∧ F214 21 = 0 ∧ 0 ≤ F214 23 ∧ F214 23 ≤ 1000000 ∧ (F214 9 = 2 → 0 ≤ F214 11 ∧ F214 11 ≤ 9) ∧ 0 ≤ F214 9 ∧ F214 9 ≤ 4) by (repeat' apply And.intro) <;> omega), (fun z => absurd (show F214 6 = 0 from z) hne), (show (F0 18 ≤ F214 18 ∧ F214 18 ≤ 12) by omega), (by rw [(k209 16 (by decide)), (k209 17 (by decide))]; show nm (A0 16) (A0 17) (F214 18); rw [show F214 18 = F0 18 by omega]; exact p2), (show XJ tx gs (F214 5) (F214 6) (F214 8) (F214 9) (F214 10) (F214 11) (F214 12) (F214 13) (F214 14) (F214 18) (F214 20) (F214 21) (F214 23) ((A205 15)) ((A205 16)) ((A205 17)) ((A205 19)) ((A205 22)) from XJ.bad hne (rg_1 p6 hms hxt hxn hm9.2 hzz))⟩⟩
        · refine k_c2 48 rfl rfl (if_neg b128) ?_
          have b128 := mt iv_eq.mpr b128
          refine k_push 49 rfl rfl ?_
          have hc242 : (0 : Int32).toInt = 0 := by decide
          refine k_push 50 rfl rfl ?_
          have hc243 : (4 : Int32).toInt = 4 := by decide
          refine k_rq I123 rfl (m_check  I123.1 (show (4 : Int32).toInt ≠ 0 by decide)) rfl rfl rfl I123.rc ?_
          rintro x244 h245 F246 A247 I248 ⟨k250, k251, pq249⟩
          have e252 : F96 10 = F0 10 := k100 10 (by decide)
          replace pq249 : ((x244.toInt = 1 ∧ (F96 6) = 0 ∧ (0 : Int32).toInt ≠ 0 ∧ F246 6 = 0 ∧ F246 5 = (F96 5)) ∨ (x244.toInt = 0 ∧ F246 6 ≠ 0 ∧ (((F96 6) = 0 ∧ (0 : Int32).toInt = 0 ∧ F246 6 = (4 : Int32).toInt ∧ F246 5 = (F96 10)) ∨ ((F96 6) ≠ 0 ∧ F246 6 = (F96 6) ∧ F246 5 = (F96 5))))) := pq249
          have k251 := fr2.nil k251
          subst k251
          have z253 := iv_01 (x := x244) (by omega)
          show am_Ok _ _ _ (53, _, [.inl x244], _, 0, 0) _
          by_cases b254 : x244 = 0
          · refine k_c1 56 rfl rfl (if_pos b254) ?_
            have b254 := iv_eq0.mp b254
            obtain ⟨hk7, hk8, hk9, hne⟩ : F246 6 = 4 ∧ F246 5 = F0 10 ∧ fi (m_w tx gs) (m_nw gs) ≠ -1 ∧ F246 6 ≠ 0 := by omega
            clear pq249
            have e255 : F246 8 = F96 8 := k250 8 (by decide)
            have e256 : F96 8 = F0 8 := k100 8 (by decide)
            have e257 : F246 20 = F96 20 := k250 20 (by decide)
            have e258 : F96 20 = F0 20 := k100 20 (by decide)
            have e259 : F246 21 = F96 21 := k250 21 (by decide)
            have e260 : F96 21 = F0 21 := k100 21 (by decide)
            have e261 : F246 23 = F96 23 := k250 23 (by decide)
            have e262 : F96 23 = F0 23 := k100 23 (by decide)
            have e263 : F246 9 = F96 9 := k250 9 (by decide)
            have e264 : F96 9 = F0 9 := k100 9 (by decide)
            have e265 : F246 11 = F96 11 := k250 11 (by decide)
            have e266 : F96 11 = F0 11 := k100 11 (by decide)
            have e267 : F246 18 = F96 18 := k250 18 (by decide)
            have e268 : F246 10 = F96 10 := k250 10 (by decide)
            have e269 : F246 12 = F96 12 := k250 12 (by decide)
            have e270 : F96 12 = F0 12 := k100 12 (by decide)
            have e271 : F246 13 = F96 13 := k250 13 (by decide)
            have e272 : F246 14 = F96 14 := k250 14 (by decide)
            have e273 : F96 14 = F0 14 := k100 14 (by decide)
            exact k_fin rfl rfl ⟨_, _, _, rfl, I248, (fr1.tr (by decide) (fr1.tr (by decide) fr1.rf k100) k250), fr2.rf, ⟨(show (F0 8 ≤ F246 8 ∧ F246 8 ≤ F0 7 ∧ 0 ≤ F246 20 ∧ F246 20 ≤ 30 ∧ F246 21 = 0 ∧ 0 ≤ F246 23 ∧ F246 23 ≤ 1000000 ∧ (F246 9 = 2 → 0 ≤ F246 11 ∧ F246 11 ≤ 9) ∧ 0 ≤ F246 9 ∧ F246 9 ≤ 4) by (repeat' apply And.intro) <;> omega), (fun z => absurd (show F246 6 = 0 from z) hne), (show (F0 18 ≤ F246 18 ∧ F246 18 ≤ 12) by omega), (by rw [(show A0 16 = A0 16 from rfl), (show A0 17 = A0 17 from rfl)]; show nm (A0 16) (A0 17) (F246 18); rw [show F246 18 = F0 18 by omega]; exact p2), (show XJ tx gs (F246 5) (F246 6) (F246 8) (F246 9) (F246 10) (F246 11) (F246 12) (F246 13) (F246 14) (F246 18) (F246 20) (F246 21) (F246 23) ((A0 15)) ((A0 16)) ((A0 17)) ((A0 19)) ((A0 22)) from XJ.bad hne (rg_4 p6 p7.1 h61 hk3 hk4 hk9 hk7 hk8))⟩⟩
          · refine k_c1 57 rfl rfl (if_neg b254) ?_
            have b254 := mt iv_eq0.mpr b254
            exfalso
            omega
end
