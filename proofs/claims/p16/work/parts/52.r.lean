section
theorem th_47 {A : rf_A} {b b' p v : Int} (h : ∀ q : Int, 0 ≤ q → q < 16384 → A 47 q ≤ b) (hb : b ≤ b') (hv : v ≤ b') : ∀ q : Int, 0 ≤ q → q < 16384 → up2 A 47 p v 47 q ≤ b' := fun q q1 q2 => by
  rw [up2_if]
  have := h q q1 q2
  split <;> omega
theorem b_X10_thing_27 {h0 : am_h} {F0 : rf_f} {A0 : rf_A} {w1 : Int32} {w2 : Int32} {w3 : Int32}  (p1 : 1 ≤ w1.toInt ∧ w1.toInt ≤ 3 ∧ 0 ≤ w2.toInt ∧ w2.toInt ≤ 4000 ∧ 0 ≤ w3.toInt ∧ w3.toInt ≤ 4000) (p2 : 0 ≤ F0 48 ∧ F0 48 ≤ 3999) (p3 : wr A0) (p4 : ∀ q : Int, 0 ≤ q → q < 16384 → A0 47 q ≤ F0 48) : ∀ (n : Nat) {lv : am_l} {h : am_h} {F : rf_f} {A : rf_A} {v1 : Int32} {v2 : Int32} {v3 : Int32} {v4 : Int32} {v5 : Int32}, (v5.toInt.toNat) = n → am_get lv 0 = some (.inr (.inr (some 81))) → am_get lv 1 = some (.inl v1) → am_get lv 2 = some (.inl v2) → am_get lv 3 = some (.inl v3) → am_get lv 4 = some (.inl v4) → am_get lv 5 = some (.inl v5) → rf_I h0 h F A → fr1 [48] F0 F → fr2 [43, 44, 45, 46, 47] A0 A → (v1.toInt = w1.toInt ∧ v2.toInt = w2.toInt ∧ v3.toInt = w3.toInt) → (0 ≤ v4.toInt ∧ v4.toInt ≤ 16383) → (0 ≤ v5.toInt ∧ v5.toInt ≤ 4000) → (F = F0 ∧ A = A0) → am_Ok am_G 0 223 (27, lv, [], h, 0, 0) (rf_Q h0 (fun x F' A' => fr1 [48] F0 F' ∧ fr2 [43, 44, 45, 46, 47] A0 A' ∧ (1 ≤ x ∧ x ≤ 4000 ∧ F0 48 ≤ F' 48 ∧ F' 48 ≤ F0 48 + 1 ∧ wr A' ∧ (∀ q : Int, 0 ≤ q → q < 16384 → A' 47 q ≤ F' 48)))) := by
  intro n
  induction n using Nat.strongRecOn with
  | ind n ih =>
    intro lv h F A v1 v2 v3 v4 v5 hn g0 g1 g2 g3 g4 g5 hI hF hA ic i1 i2 i3
    have i30 := i3.1.symm
    have i31 := i3.2.symm
    refine k_iload 29 rfl g5 rfl ?_
    by_cases b1 : v5 = 0
    · refine k_c1 80 rfl rfl (if_pos b1) ?_
      have b1 := iv_eq0.mp b1
      have hF48 : F 48 = F0 48 := congrFun i3.1 48
      have p3 : wr A := by rw [i3.2]; exact p3
      have p4 : ∀ q : Int, 0 ≤ q → q < 16384 → A 47 q ≤ F0 48 := by rw [i3.2]; exact p4
      refine k_aload 81 rfl g0 rfl ?_
      refine k_dup 82 rfl rfl rfl ?_
      refine r_gI hI 85 rfl rfl rfl (fun x2 (e3 : x2.toInt = F 48) => ?_)
      refine k_push 86 rfl rfl ?_
      have hc4 : (1 : Int32).toInt = 1 := by decide
      obtain ⟨x5, q6⟩ : ∃ q : Int32, q = (x2 + (1 : Int32)) := ⟨_, rfl⟩
      have e7 : x5.toInt = x2.toInt + 1 := by rw [q6, iv_add (by omega) (by omega)]; omega
      refine k_bin x5 87 rfl q6.symm rfl ?_
      refine r_pI hI 90 rfl rfl rfl (fun h8 I9 => ?_)
      refine k_aload 91 rfl g0 rfl ?_
      refine r_gA I9 94 rfl rfl rfl ?_
      refine k_aload 95 rfl g0 rfl ?_
      refine r_gI I9 98 rfl rfl rfl (fun x10 (e11 : x10.toInt = x5.toInt) => ?_)
      refine k_iload 99 rfl g1 rfl ?_
      refine r_st 43 I9 100 rfl rfl (by omega) (show x10.toInt < 5000 by omega) rfl (fun h12 I13 => ?_)
      refine k_aload 101 rfl g0 rfl ?_
      refine r_gA I13 104 rfl rfl rfl ?_
      refine k_aload 105 rfl g0 rfl ?_
      refine r_gI I13 108 rfl rfl rfl (fun x14 (e15 : x14.toInt = x5.toInt) => ?_)
      refine k_iload 109 rfl g2 rfl ?_
      refine r_st 44 I13 110 rfl rfl (by omega) (show x14.toInt < 5000 by omega) rfl (fun h16 I17 => ?_)
      refine k_aload 111 rfl g0 rfl ?_
      refine r_gA I17 114 rfl rfl rfl ?_
      refine k_aload 115 rfl g0 rfl ?_
      refine r_gI I17 118 rfl rfl rfl (fun x18 (e19 : x18.toInt = x5.toInt) => ?_)
      refine k_iload 119 rfl g3 rfl ?_
      refine r_st 45 I17 120 rfl rfl (by omega) (show x18.toInt < 5000 by omega) rfl (fun h20 I21 => ?_)
      refine k_aload 121 rfl g0 rfl ?_
      refine r_gA I21 124 rfl rfl rfl ?_
      refine k_aload 125 rfl g0 rfl ?_
      refine r_gI I21 128 rfl rfl rfl (fun x22 (e23 : x22.toInt = x5.toInt) => ?_)
      refine k_aload 129 rfl g0 rfl ?_
      refine r_gA I21 132 rfl rfl rfl ?_
      refine k_iload 134 rfl g4 rfl ?_
      refine r_ld 47 I21 135 rfl rfl (by omega) (show v4.toInt < 16384 by omega) rfl (fun x24 (e25 : x24.toInt = A 47 v4.toInt) => ?_)
      have hf9 := p4 v4.toInt (by omega) (by omega)
      have hw9 := p3 v4.toInt
      refine r_st 46 I21 136 rfl rfl (by omega) (show x22.toInt < 5000 by omega) rfl (fun h26 I27 => ?_)
      refine k_aload 137 rfl g0 rfl ?_
      refine r_gA I27 140 rfl rfl rfl ?_
      refine k_iload 142 rfl g4 rfl ?_
      refine k_aload 143 rfl g0 rfl ?_
      refine r_gI I27 146 rfl rfl rfl (fun x28 (e29 : x28.toInt = x5.toInt) => ?_)
      refine r_st 47 I27 147 rfl rfl (by omega) (show v4.toInt < 16384 by omega) rfl (fun h30 I31 => ?_)
      refine k_aload 148 rfl g0 rfl ?_
      refine r_gI I31 151 rfl rfl rfl (fun x32 (e33 : x32.toInt = x5.toInt) => ?_)
      exact k_fin rfl rfl ⟨_, _, _, _, rfl, I31, (fr1.up (by decide) hF), (fr2.up (by decide) (fr2.up (by decide) (fr2.up (by decide) (fr2.up (by decide) (fr2.up (by decide) hA))))), show 1 ≤ x32.toInt ∧ x32.toInt ≤ 4000 ∧ F0 48 ≤ (x5.toInt) ∧ (x5.toInt) ≤ F0 48 + 1 ∧ wr (up2 (up2 (up2 (up2 (up2 A 43 x10.toInt v1.toInt) 44 x14.toInt v2.toInt) 45 x18.toInt v3.toInt) 46 x22.toInt x24.toInt) 47 v4.toInt x28.toInt) ∧ (∀ q : Int, 0 ≤ q → q < 16384 → ((up2 A 47 v4.toInt x28.toInt) 47) q ≤ (x5.toInt)) from ⟨by omega, by omega, by omega, by omega, ((((p3.u43 (by omega)).u44 (by omega)).u45 (by omega)).u46 (by omega)).u47 (by omega), th_47 p4 (by omega) (by omega)⟩⟩
    · refine k_c1 32 rfl rfl (if_neg b1) ?_
      have b1 := mt iv_eq0.mpr b1
      refine k_aload 33 rfl g0 rfl ?_
      refine r_gA hI 36 rfl rfl rfl ?_
      refine k_iload 38 rfl g5 rfl ?_
      refine r_ld 43 hI 39 rfl rfl (by omega) (show v5.toInt < 5000 by omega) rfl (fun x34 (e35 : x34.toInt = A 43 v5.toInt) => ?_)
      refine k_iload 40 rfl g1 rfl ?_
      by_cases b36 : x34 = v1
      · refine k_c2 43 rfl rfl (if_pos b36) ?_
        have b36 := iv_eq.mp b36
        refine k_aload 44 rfl g0 rfl ?_
        refine r_gA hI 47 rfl rfl rfl ?_
        refine k_iload 49 rfl g5 rfl ?_
        refine r_ld 44 hI 50 rfl rfl (by omega) (show v5.toInt < 5000 by omega) rfl (fun x37 (e38 : x37.toInt = A 44 v5.toInt) => ?_)
        refine k_iload 51 rfl g2 rfl ?_
        by_cases b39 : x37 = v2
        · refine k_c2 54 rfl rfl (if_pos b39) ?_
          have b39 := iv_eq.mp b39
          refine k_aload 55 rfl g0 rfl ?_
          refine r_gA hI 58 rfl rfl rfl ?_
          refine k_iload 60 rfl g5 rfl ?_
          refine r_ld 45 hI 61 rfl rfl (by omega) (show v5.toInt < 5000 by omega) rfl (fun x40 (e41 : x40.toInt = A 45 v5.toInt) => ?_)
          refine k_iload 62 rfl g3 rfl ?_
          by_cases b42 : x40 = v3
          · refine k_c2 65 rfl rfl (if_pos b42) ?_
            have b42 := iv_eq.mp b42
            have hF48 : F 48 = F0 48 := congrFun i3.1 48
            have p3 : wr A := by rw [i3.2]; exact p3
            have p4 : ∀ q : Int, 0 ≤ q → q < 16384 → A 47 q ≤ F0 48 := by rw [i3.2]; exact p4
            refine k_iload 67 rfl g5 rfl ?_
            exact k_fin rfl rfl ⟨_, _, _, _, rfl, hI, hF, hA, show 1 ≤ v5.toInt ∧ v5.toInt ≤ 4000 ∧ F0 48 ≤ (F 48) ∧ (F 48) ≤ F0 48 + 1 ∧ wr A ∧ (∀ q : Int, 0 ≤ q → q < 16384 → (A 47) q ≤ (F 48)) from ⟨by omega, by omega, by omega, by omega, p3, fun q q1 q2 => by rw [hF48]; exact p4 q q1 q2⟩⟩
          · refine k_c2 68 rfl rfl (if_neg b42) ?_
            have b42 := mt iv_eq.mpr b42
            refine k_aload 69 rfl g0 rfl ?_
            refine r_gA hI 72 rfl rfl rfl ?_
            refine k_iload 74 rfl g5 rfl ?_
            refine r_ld 46 hI 75 rfl rfl (by omega) (show v5.toInt < 5000 by omega) rfl (fun x43 (e44 : x43.toInt = A 46 v5.toInt) => ?_)
            refine k_istore 77 rfl rfl ?_
            refine k_goto 27 rfl rfl ?_
            exact ih _ (show x43.toInt.toNat < n by have := p3 v5.toInt; rw [← i31] at e44; omega)  rfl (gs_ne rfl rfl g0) (gs_ne rfl rfl g1) (gs_ne rfl rfl g2) (gs_ne rfl rfl g3) (gs_ne rfl rfl g4) gs_eq hI hF hA (show v1.toInt = w1.toInt ∧ v2.toInt = w2.toInt ∧ v3.toInt = w3.toInt by omega) (show 0 ≤ v4.toInt ∧ v4.toInt ≤ 16383 by omega) (show 0 ≤ x43.toInt ∧ x43.toInt ≤ 4000 by have := p3 v5.toInt; rw [← i31] at e44; omega) (show F = F0 ∧ A = A0 from i3)
        · refine k_c2 68 rfl rfl (if_neg b39) ?_
          have b39 := mt iv_eq.mpr b39
          refine k_aload 69 rfl g0 rfl ?_
          refine r_gA hI 72 rfl rfl rfl ?_
          refine k_iload 74 rfl g5 rfl ?_
          refine r_ld 46 hI 75 rfl rfl (by omega) (show v5.toInt < 5000 by omega) rfl (fun x45 (e46 : x45.toInt = A 46 v5.toInt) => ?_)
          refine k_istore 77 rfl rfl ?_
          refine k_goto 27 rfl rfl ?_
          exact ih _ (show x45.toInt.toNat < n by have := p3 v5.toInt; rw [← i31] at e46; omega)  rfl (gs_ne rfl rfl g0) (gs_ne rfl rfl g1) (gs_ne rfl rfl g2) (gs_ne rfl rfl g3) (gs_ne rfl rfl g4) gs_eq hI hF hA (show v1.toInt = w1.toInt ∧ v2.toInt = w2.toInt ∧ v3.toInt = w3.toInt by omega) (show 0 ≤ v4.toInt ∧ v4.toInt ≤ 16383 by omega) (show 0 ≤ x45.toInt ∧ x45.toInt ≤ 4000 by have := p3 v5.toInt; rw [← i31] at e46; omega) (show F = F0 ∧ A = A0 from i3)
      · refine k_c2 68 rfl rfl (if_neg b36) ?_
        have b36 := mt iv_eq.mpr b36
        refine k_aload 69 rfl g0 rfl ?_
        refine r_gA hI 72 rfl rfl rfl ?_
        refine k_iload 74 rfl g5 rfl ?_
        refine r_ld 46 hI 75 rfl rfl (by omega) (show v5.toInt < 5000 by omega) rfl (fun x47 (e48 : x47.toInt = A 46 v5.toInt) => ?_)
        refine k_istore 77 rfl rfl ?_
        refine k_goto 27 rfl rfl ?_
        exact ih _ (show x47.toInt.toNat < n by have := p3 v5.toInt; rw [← i31] at e48; omega)  rfl (gs_ne rfl rfl g0) (gs_ne rfl rfl g1) (gs_ne rfl rfl g2) (gs_ne rfl rfl g3) (gs_ne rfl rfl g4) gs_eq hI hF hA (show v1.toInt = w1.toInt ∧ v2.toInt = w2.toInt ∧ v3.toInt = w3.toInt by omega) (show 0 ≤ v4.toInt ∧ v4.toInt ≤ 16383 by omega) (show 0 ≤ x47.toInt ∧ x47.toInt ≤ 4000 by have := p3 v5.toInt; rw [← i31] at e48; omega) (show F = F0 ∧ A = A0 from i3)
theorem m_thing {h0 : am_h} {F0 : rf_f} {A0 : rf_A} {w1 : Int32} {w2 : Int32} {w3 : Int32}  (hR : rf_R h0 F0 A0) (p1 : 1 ≤ w1.toInt ∧ w1.toInt ≤ 3 ∧ 0 ≤ w2.toInt ∧ w2.toInt ≤ 4000 ∧ 0 ≤ w3.toInt ∧ w3.toInt ≤ 4000) (p2 : 0 ≤ F0 48 ∧ F0 48 ≤ 3999) (p3 : wr A0) (p4 : ∀ q : Int, 0 ≤ q → q < 16384 → A0 47 q ≤ F0 48) : am_Mt 1 223 [.inr (.inr (some 81)), .inl w1, .inl w2, .inl w3] h0 (rf_Q h0 (fun x F' A' => fr1 [48] F0 F' ∧ fr2 [43, 44, 45, 46, 47] A0 A' ∧ (1 ≤ x ∧ x ≤ 4000 ∧ F0 48 ≤ F' 48 ∧ F' 48 ≤ F0 48 + 1 ∧ wr A' ∧ (∀ q : Int, 0 ≤ q → q < 16384 → A' 47 q ≤ F' 48)))) := by
  refine am_Mt.of (D := 0) ?_
  have hI : rf_I h0 h0 F0 A0 := rf_I.start hR
  refine k_iload 1 rfl rfl rfl ?_
  refine k_push 3 rfl rfl ?_
  have hc49 : (31 : Int32).toInt = 31 := by decide
  obtain ⟨x50, q51⟩ : ∃ q : Int32, q = (w1 * (31 : Int32)) := ⟨_, rfl⟩
  have e52 : x50.toInt = w1.toInt * 31 := by rw [q51]; exact iv_mulr 31 (by decide) (by omega) (by omega)
  refine k_bin x50 4 rfl q51.symm rfl ?_
  refine k_iload 5 rfl rfl rfl ?_
  obtain ⟨x53, q54⟩ : ∃ q : Int32, q = (x50 + w2) := ⟨_, rfl⟩
  have e55 : x53.toInt = x50.toInt + w2.toInt := by rw [q54, iv_add (by omega) (by omega)]
  refine k_bin x53 6 rfl q54.symm rfl ?_
  refine k_push 9 rfl rfl ?_
  have hc56 : (1009 : Int32).toInt = 1009 := by decide
  obtain ⟨x57, q58⟩ : ∃ q : Int32, q = (x53 * (1009 : Int32)) := ⟨_, rfl⟩
  have e59 : x57.toInt = x53.toInt * 1009 := by rw [q58]; exact iv_mulr 1009 (by decide) (by omega) (by omega)
  refine k_bin x57 10 rfl q58.symm rfl ?_
  refine k_iload 11 rfl rfl rfl ?_
  obtain ⟨x60, q61⟩ : ∃ q : Int32, q = (x57 + w3) := ⟨_, rfl⟩
  have e62 : x60.toInt = x57.toInt + w3.toInt := by rw [q61, iv_add (by omega) (by omega)]
  refine k_bin x60 12 rfl q61.symm rfl ?_
  refine k_push 15 rfl rfl ?_
  have hc63 : (16383 : Int32).toInt = 16383 := by decide
  obtain ⟨x64, q65⟩ : ∃ q : Int32, q = (x60 &&& (16383 : Int32)) := ⟨_, rfl⟩
  have e66 : 0 ≤ x64.toInt ∧ x64.toInt ≤ (16383 : Int32).toInt := by rw [q65]; exact iv_and (by omega)
  refine k_bin x64 16 rfl q65.symm rfl ?_
  refine k_istore 18 rfl rfl ?_
  refine k_aload 19 rfl (gs_ne rfl rfl rfl) rfl ?_
  refine r_gA hI 22 rfl rfl rfl ?_
  refine k_iload 24 rfl gs_eq rfl ?_
  refine r_ld 47 hI 25 rfl rfl (by omega) (show x64.toInt < 16384 by omega) rfl (fun x67 (e68 : x67.toInt = A0 47 x64.toInt) => ?_)
  refine k_istore 27 rfl rfl ?_
  exact b_X10_thing_27  (w1 := w1) (w2 := w2) (w3 := w3) p1 p2 p3 p4 _  rfl (gs_ne rfl rfl (gs_ne rfl rfl rfl)) (gs_ne rfl rfl (gs_ne rfl rfl rfl)) (gs_ne rfl rfl (gs_ne rfl rfl rfl)) (gs_ne rfl rfl (gs_ne rfl rfl rfl)) (gs_ne rfl rfl gs_eq) gs_eq hI fr1.rf fr2.rf (show w1.toInt = w1.toInt ∧ w2.toInt = w2.toInt ∧ w3.toInt = w3.toInt by omega) (show 0 ≤ x64.toInt ∧ x64.toInt ≤ 16383 by omega) (show 0 ≤ x67.toInt ∧ x67.toInt ≤ 4000 by have := p3 x64.toInt; omega) (show F0 = F0 ∧ A0 = A0 from ⟨rfl, rfl⟩)
theorem b_X10_setStack_38 {h0 : am_h} {F0 : rf_f} {A0 : rf_A} {w1 : Int32} {w2 : Int32}  (p1 : 0 ≤ w1.toInt ∧ w1.toInt ≤ 4290 ∧ 0 ≤ w2.toInt ∧ w2.toInt ≤ 4000) (p2 : 0 ≤ F0 50 ∧ F0 50 ≤ 4299) (p3 : wr A0) : ∀ (n : Nat) {lv : am_l} {h : am_h} {F : rf_f} {A : rf_A} {v1 : Int32} {v2 : Int32}, ((F 50).toNat) = n → am_get lv 0 = some (.inr (.inr (some 81))) → am_get lv 1 = some (.inl v1) → am_get lv 2 = some (.inl v2) → rf_I h0 h F A → fr1 [50] F0 F → fr2 [49] A0 A → (v1.toInt = w1.toInt ∧ v2.toInt = w2.toInt) → (0 ≤ F 50 ∧ (F 50 ≤ F0 50 ∨ F 50 ≤ w1.toInt + 1)) → (wr A) → am_Ok am_G 0 225 (38, lv, [], h, 0, 0) (rf_V h0 (fun F' A' => fr1 [50] F0 F' ∧ fr2 [49] A0 A' ∧ (0 ≤ F' 50 ∧ (F' 50 ≤ F0 50 ∨ F' 50 ≤ w1.toInt + 1) ∧ wr A'))) := by
  intro n
  induction n using Nat.strongRecOn with
  | ind n ih =>
    intro lv h F A v1 v2 hn g0 g1 g2 hI hF hA ic i1 i2
    refine k_aload 39 rfl g0 rfl ?_
    refine r_gI hI 42 rfl rfl rfl (fun x1 (e2 : x1.toInt = F 50) => ?_)
    by_cases b3 : x1 ≤ 0
    · refine k_c1 72 rfl rfl (if_pos b3) ?_
      have b3 := iv_le0.mp b3
      exact k_fin rfl rfl ⟨_, _, _, rfl, hI, hF, hA, show 0 ≤ (F 50) ∧ ((F 50) ≤ F0 50 ∨ (F 50) ≤ w1.toInt + 1) ∧ wr A from ⟨by omega, by omega, i2⟩⟩
    · refine k_c1 45 rfl rfl (if_neg b3) ?_
      have b3 := mt iv_le0.mpr b3
      refine k_aload 46 rfl g0 rfl ?_
      refine r_gA hI 49 rfl rfl rfl ?_
      refine k_aload 50 rfl g0 rfl ?_
      refine r_gI hI 53 rfl rfl rfl (fun x4 (e5 : x4.toInt = F 50) => ?_)
      refine k_push 54 rfl rfl ?_
      have hc6 : (1 : Int32).toInt = 1 := by decide
      obtain ⟨x7, q8⟩ : ∃ q : Int32, q = (x4 - (1 : Int32)) := ⟨_, rfl⟩
      have e9 : x7.toInt = x4.toInt - 1 := by rw [q8, iv_sub (by omega) (by omega)]; omega
      refine k_bin x7 55 rfl q8.symm rfl ?_
      refine r_ld 49 hI 56 rfl rfl (by omega) (show x7.toInt < 4300 by omega) rfl (fun x10 (e11 : x10.toInt = A 49 x7.toInt) => ?_)
      rw [e9] at e11
      by_cases b12 : x10 = 0
      · refine k_c1 59 rfl rfl (if_pos b12) ?_
        have b12 := iv_eq0.mp b12
        refine k_aload 60 rfl g0 rfl ?_
        refine k_dup 61 rfl rfl rfl ?_
        refine r_gI hI 64 rfl rfl rfl (fun x13 (e14 : x13.toInt = F 50) => ?_)
        refine k_push 65 rfl rfl ?_
        obtain ⟨x15, q16⟩ : ∃ q : Int32, q = (x13 - (1 : Int32)) := ⟨_, rfl⟩
        have e17 : x15.toInt = x13.toInt - 1 := by rw [q16, iv_sub (by omega) (by omega)]; omega
        refine k_bin x15 66 rfl q16.symm rfl ?_
        refine r_pI hI 69 rfl rfl rfl (fun h18 I19 => ?_)
        refine k_goto 38 rfl rfl ?_
        exact ih _ (show (((x15.toInt)).toNat) < n by omega)  rfl g0 g1 g2 I19 (fr1.up (by decide) hF) hA (show v1.toInt = w1.toInt ∧ v2.toInt = w2.toInt by omega) (show 0 ≤ (x15.toInt) ∧ ((x15.toInt) ≤ F0 50 ∨ (x15.toInt) ≤ w1.toInt + 1) by omega) (show wr A from i2)
      · refine k_c1 72 rfl rfl (if_neg b12) ?_
        have b12 := mt iv_eq0.mpr b12
        exact k_fin rfl rfl ⟨_, _, _, rfl, hI, hF, hA, show 0 ≤ (F 50) ∧ ((F 50) ≤ F0 50 ∨ (F 50) ≤ w1.toInt + 1) ∧ wr A from ⟨by omega, by omega, i2⟩⟩
theorem b_X10_setStack_0 {h0 : am_h} {F0 : rf_f} {A0 : rf_A} {w1 : Int32} {w2 : Int32}  (p1 : 0 ≤ w1.toInt ∧ w1.toInt ≤ 4290 ∧ 0 ≤ w2.toInt ∧ w2.toInt ≤ 4000) (p2 : 0 ≤ F0 50 ∧ F0 50 ≤ 4299) (p3 : wr A0) : ∀ (n : Nat) {lv : am_l} {h : am_h} {F : rf_f} {A : rf_A} {v1 : Int32} {v2 : Int32}, ((w1.toInt + 1 - F 50).toNat) = n → am_get lv 0 = some (.inr (.inr (some 81))) → am_get lv 1 = some (.inl v1) → am_get lv 2 = some (.inl v2) → rf_I h0 h F A → fr1 [50] F0 F → fr2 [49] A0 A → (v1.toInt = w1.toInt ∧ v2.toInt = w2.toInt) → (0 ≤ F 50 ∧ (F 50 ≤ F0 50 ∨ F 50 ≤ w1.toInt + 1)) → (wr A) → am_Ok am_G 0 225 (0, lv, [], h, 0, 0) (rf_V h0 (fun F' A' => fr1 [50] F0 F' ∧ fr2 [49] A0 A' ∧ (0 ≤ F' 50 ∧ (F' 50 ≤ F0 50 ∨ F' 50 ≤ w1.toInt + 1) ∧ wr A'))) := by
  intro n
  induction n using Nat.strongRecOn with
  | ind n ih =>
    intro lv h F A v1 v2 hn g0 g1 g2 hI hF hA ic i1 i2
    refine k_aload 1 rfl g0 rfl ?_
    refine r_gI hI 4 rfl rfl rfl (fun x20 (e21 : x20.toInt = F 50) => ?_)
    refine k_iload 5 rfl g1 rfl ?_
    by_cases b22 : v1 < x20
    · refine k_c2 31 rfl rfl (if_pos b22) ?_
      have b22 := iv_lt.mp b22
      refine k_aload 32 rfl g0 rfl ?_
      refine r_gA hI 35 rfl rfl rfl ?_
      refine k_iload 36 rfl g1 rfl ?_
      refine k_iload 37 rfl g2 rfl ?_
      refine r_st 49 hI 38 rfl rfl (by omega) (show v1.toInt < 4300 by omega) rfl (fun h23 I24 => ?_)
      exact b_X10_setStack_38  (w1 := w1) (w2 := w2) p1 p2 p3 _  rfl g0 g1 g2 I24 hF (fr2.up (by decide) hA) (show v1.toInt = w1.toInt ∧ v2.toInt = w2.toInt by omega) (show 0 ≤ (F 50) ∧ ((F 50) ≤ F0 50 ∨ (F 50) ≤ w1.toInt + 1) by omega) (show wr (up2 A 49 v1.toInt v2.toInt) from i2.u49 (by omega))
    · refine k_c2 8 rfl rfl (if_neg b22) ?_
      have b22 := mt iv_lt.mpr b22
      refine k_aload 9 rfl g0 rfl ?_
      refine r_gA hI 12 rfl rfl rfl ?_
      refine k_aload 13 rfl g0 rfl ?_
      refine r_gI hI 16 rfl rfl rfl (fun x25 (e26 : x25.toInt = F 50) => ?_)
      refine k_push 17 rfl rfl ?_
      have hc27 : (0 : Int32).toInt = 0 := by decide
      refine r_st 49 hI 18 rfl rfl (by omega) (show x25.toInt < 4300 by omega) rfl (fun h28 I29 => ?_)
      refine k_aload 19 rfl g0 rfl ?_
      refine k_dup 20 rfl rfl rfl ?_
      refine r_gI I29 23 rfl rfl rfl (fun x30 (e31 : x30.toInt = F 50) => ?_)
      refine k_push 24 rfl rfl ?_
      have hc32 : (1 : Int32).toInt = 1 := by decide
      obtain ⟨x33, q34⟩ : ∃ q : Int32, q = (x30 + (1 : Int32)) := ⟨_, rfl⟩
      have e35 : x33.toInt = x30.toInt + 1 := by rw [q34, iv_add (by omega) (by omega)]; omega
      refine k_bin x33 25 rfl q34.symm rfl ?_
      refine r_pI I29 28 rfl rfl rfl (fun h36 I37 => ?_)
      refine k_goto 0 rfl rfl ?_
      exact ih _ (show ((w1.toInt + 1 - (x33.toInt)).toNat) < n by omega)  rfl g0 g1 g2 I37 (fr1.up (by decide) hF) (fr2.up (by decide) hA) (show v1.toInt = w1.toInt ∧ v2.toInt = w2.toInt by omega) (show 0 ≤ (x33.toInt) ∧ ((x33.toInt) ≤ F0 50 ∨ (x33.toInt) ≤ w1.toInt + 1) by omega) (show wr (up2 A 49 x25.toInt (0 : Int32).toInt) from i2.u49 (by omega))
theorem m_setStack {h0 : am_h} {F0 : rf_f} {A0 : rf_A} {w1 : Int32} {w2 : Int32}  (hR : rf_R h0 F0 A0) (p1 : 0 ≤ w1.toInt ∧ w1.toInt ≤ 4290 ∧ 0 ≤ w2.toInt ∧ w2.toInt ≤ 4000) (p2 : 0 ≤ F0 50 ∧ F0 50 ≤ 4299) (p3 : wr A0) : am_Mt 1 225 [.inr (.inr (some 81)), .inl w1, .inl w2] h0 (rf_V h0 (fun F' A' => fr1 [50] F0 F' ∧ fr2 [49] A0 A' ∧ (0 ≤ F' 50 ∧ (F' 50 ≤ F0 50 ∨ F' 50 ≤ w1.toInt + 1) ∧ wr A'))) := by
  refine am_Mt.of (D := 0) ?_
  have hI : rf_I h0 h0 F0 A0 := rf_I.start hR
  exact b_X10_setStack_0  (w1 := w1) (w2 := w2) p1 p2 p3 _  rfl rfl rfl rfl hI fr1.rf fr2.rf (show w1.toInt = w1.toInt ∧ w2.toInt = w2.toInt by omega) (show 0 ≤ (F0 50) ∧ ((F0 50) ≤ F0 50 ∨ (F0 50) ≤ w1.toInt + 1) by omega) (show wr A0 from p3)
theorem b_X10_comesAt_14 {h0 : am_h} {F0 : rf_f} {A0 : rf_A} {w1 : Int32}  (p1 : 0 ≤ w1.toInt) (p2 : 0 ≤ F0 50 ∧ F0 50 ≤ 4290) (p3 : wr A0) : ∀ (n : Nat) {lv : am_l} {h : am_h} {F : rf_f} {A : rf_A} {v1 : Int32} {v2 : Int32}, ((v2.toInt - w1.toInt).toNat) = n → am_get lv 0 = some (.inr (.inr (some 81))) → am_get lv 1 = some (.inl v1) → am_get lv 2 = some (.inl v2) → rf_I h0 h F A → fr1 [50] F0 F → fr2 [49] A0 A → (v1.toInt = w1.toInt) → (F 50 = F0 50 ∧ w1.toInt ≤ v2.toInt ∧ v2.toInt ≤ F0 50 ∧ w1.toInt < F0 50) → (wr A) → am_Ok am_G 0 226 (14, lv, [], h, 0, 0) (rf_V h0 (fun F' A' => fr1 [50] F0 F' ∧ fr2 [49] A0 A' ∧ (0 ≤ F' 50 ∧ (F' 50 = F0 50 ∧ F0 50 ≤ w1.toInt ∨ F' 50 = F0 50 + 1 ∧ w1.toInt < F0 50) ∧ wr A'))) := by
  intro n
  induction n using Nat.strongRecOn with
  | ind n ih =>
    intro lv h F A v1 v2 hn g0 g1 g2 hI hF hA ic i1 i2
    refine k_iload 15 rfl g2 rfl ?_
    refine k_iload 16 rfl g1 rfl ?_
    by_cases b1 : v2 ≤ v1
    · refine k_c2 39 rfl rfl (if_pos b1) ?_
      have b1 := iv_le.mp b1
      refine k_aload 40 rfl g0 rfl ?_
      refine r_gA hI 43 rfl rfl rfl ?_
      refine k_iload 44 rfl g1 rfl ?_
      refine k_push 45 rfl rfl ?_
      have hc2 : (0 : Int32).toInt = 0 := by decide
      refine r_st 49 hI 46 rfl rfl (by omega) (show v1.toInt < 4300 by omega) rfl (fun h3 I4 => ?_)
      refine k_aload 47 rfl g0 rfl ?_
      refine k_dup 48 rfl rfl rfl ?_
      refine r_gI I4 51 rfl rfl rfl (fun x5 (e6 : x5.toInt = F 50) => ?_)
      refine k_push 52 rfl rfl ?_
      have hc7 : (1 : Int32).toInt = 1 := by decide
      obtain ⟨x8, q9⟩ : ∃ q : Int32, q = (x5 + (1 : Int32)) := ⟨_, rfl⟩
      have e10 : x8.toInt = x5.toInt + 1 := by rw [q9, iv_add (by omega) (by omega)]; omega
      refine k_bin x8 53 rfl q9.symm rfl ?_
      refine r_pI I4 56 rfl rfl rfl (fun h11 I12 => ?_)
      exact k_fin rfl rfl ⟨_, _, _, rfl, I12, (fr1.up (by decide) hF), (fr2.up (by decide) hA), show 0 ≤ (x8.toInt) ∧ ((x8.toInt) = F0 50 ∧ F0 50 ≤ w1.toInt ∨ (x8.toInt) = F0 50 + 1 ∧ w1.toInt < F0 50) ∧ wr (up2 A 49 v1.toInt (0 : Int32).toInt) from ⟨by omega, by omega, by first | exact p3 | exact i2.u49 (by omega)⟩⟩
    · refine k_c2 19 rfl rfl (if_neg b1) ?_
      have b1 := mt iv_le.mpr b1
      refine k_aload 20 rfl g0 rfl ?_
      refine r_gA hI 23 rfl rfl rfl ?_
      refine k_iload 24 rfl g2 rfl ?_
      refine k_aload 25 rfl g0 rfl ?_
      refine r_gA hI 28 rfl rfl rfl ?_
      refine k_iload 29 rfl g2 rfl ?_
      refine k_push 30 rfl rfl ?_
      have hc13 : (1 : Int32).toInt = 1 := by decide
      obtain ⟨x14, q15⟩ : ∃ q : Int32, q = (v2 - (1 : Int32)) := ⟨_, rfl⟩
      have e16 : x14.toInt = v2.toInt - 1 := by rw [q15, iv_sub (by omega) (by omega)]; omega
      refine k_bin x14 31 rfl q15.symm rfl ?_
      refine r_ld 49 hI 32 rfl rfl (by omega) (show x14.toInt < 4300 by omega) rfl (fun x17 (e18 : x17.toInt = A 49 x14.toInt) => ?_)
      rw [e16] at e18
      refine r_st 49 hI 33 rfl rfl (by omega) (show v2.toInt < 4300 by omega) rfl (fun h19 I20 => ?_)
      have hc21 : (-1 : Int32).toInt = -1 := by decide
      obtain ⟨x22, q23⟩ : ∃ q : Int32, q = v2 + (-1 : Int32) := ⟨_, rfl⟩
      have e24 : x22.toInt = v2.toInt + -1 := by rw [q23, iv_add (by omega) (by omega)]; omega
      refine k_iinc x22 36 rfl g2 q23.symm rfl ?_
      refine k_goto 14 rfl rfl ?_
      exact ih _ (show ((x22.toInt - w1.toInt).toNat) < n by omega)  rfl (gs_ne rfl rfl g0) (gs_ne rfl rfl g1) gs_eq I20 hF (fr2.up (by decide) hA) (show v1.toInt = w1.toInt by omega) (show (F 50) = F0 50 ∧ w1.toInt ≤ x22.toInt ∧ x22.toInt ≤ F0 50 ∧ w1.toInt < F0 50 by omega) (show wr (up2 A 49 v2.toInt x17.toInt) from i2.u49 (by have := i2 (v2.toInt - 1); omega))
theorem m_comesAt {h0 : am_h} {F0 : rf_f} {A0 : rf_A} {w1 : Int32}  (hR : rf_R h0 F0 A0) (p1 : 0 ≤ w1.toInt) (p2 : 0 ≤ F0 50 ∧ F0 50 ≤ 4290) (p3 : wr A0) : am_Mt 1 226 [.inr (.inr (some 81)), .inl w1] h0 (rf_V h0 (fun F' A' => fr1 [50] F0 F' ∧ fr2 [49] A0 A' ∧ (0 ≤ F' 50 ∧ (F' 50 = F0 50 ∧ F0 50 ≤ w1.toInt ∨ F' 50 = F0 50 + 1 ∧ w1.toInt < F0 50) ∧ wr A'))) := by
  refine am_Mt.of (D := 0) ?_
  have hI : rf_I h0 h0 F0 A0 := rf_I.start hR
  refine k_iload 1 rfl rfl rfl ?_
  refine k_aload 2 rfl rfl rfl ?_
  refine r_gI hI 5 rfl rfl rfl (fun x25 (e26 : x25.toInt = F0 50) => ?_)
  by_cases b27 : w1 < x25
  · refine k_c2 9 rfl rfl (if_pos b27) ?_
    have b27 := iv_lt.mp b27
    refine k_aload 10 rfl rfl rfl ?_
    refine r_gI hI 13 rfl rfl rfl (fun x28 (e29 : x28.toInt = F0 50) => ?_)
    refine k_istore 14 rfl rfl ?_
    exact b_X10_comesAt_14  (w1 := w1) p1 p2 p3 _  rfl (gs_ne rfl rfl rfl) (gs_ne rfl rfl rfl) gs_eq hI fr1.rf fr2.rf (show w1.toInt = w1.toInt by omega) (show (F0 50) = F0 50 ∧ w1.toInt ≤ x28.toInt ∧ x28.toInt ≤ F0 50 ∧ w1.toInt < F0 50 by omega) (show wr A0 from p3)
  · refine k_c2 8 rfl rfl (if_neg b27) ?_
    have b27 := mt iv_lt.mpr b27
    exact k_fin rfl rfl ⟨_, _, _, rfl, hI, fr1.rf, fr2.rf, show 0 ≤ (F0 50) ∧ ((F0 50) = F0 50 ∧ F0 50 ≤ w1.toInt ∨ (F0 50) = F0 50 + 1 ∧ w1.toInt < F0 50) ∧ wr A0 from ⟨by omega, by omega, by first | exact p3 | exact i2.u49 (by omega)⟩⟩
theorem b_X10_goesAt_11 {h0 : am_h} {F0 : rf_f} {A0 : rf_A} {w1 : Int32}  (p1 : 0 ≤ w1.toInt) (p2 : 0 ≤ F0 50 ∧ F0 50 ≤ 4299) (p3 : wr A0) : ∀ (n : Nat) {lv : am_l} {h : am_h} {F : rf_f} {A : rf_A} {v1 : Int32} {v2 : Int32}, ((F0 50 - v2.toInt).toNat) = n → am_get lv 0 = some (.inr (.inr (some 81))) → am_get lv 1 = some (.inl v1) → am_get lv 2 = some (.inl v2) → rf_I h0 h F A → fr1 [50] F0 F → fr2 [49] A0 A → (v1.toInt = w1.toInt) → (F 50 = F0 50 ∧ w1.toInt ≤ v2.toInt ∧ v2.toInt ≤ F0 50 ∧ w1.toInt < F0 50) → (wr A) → am_Ok am_G 0 227 (11, lv, [], h, 0, 0) (rf_V h0 (fun F' A' => fr1 [50] F0 F' ∧ fr2 [49] A0 A' ∧ (0 ≤ F' 50 ∧ (F' 50 = F0 50 ∧ F0 50 ≤ w1.toInt ∨ F' 50 = F0 50 - 1 ∧ w1.toInt < F0 50) ∧ wr A'))) := by
  intro n
  induction n using Nat.strongRecOn with
  | ind n ih =>
    intro lv h F A v1 v2 hn g0 g1 g2 hI hF hA ic i1 i2
    refine k_iload 12 rfl g2 rfl ?_
    refine k_push 13 rfl rfl ?_
    have hc1 : (1 : Int32).toInt = 1 := by decide
    obtain ⟨x2, q3⟩ : ∃ q : Int32, q = (v2 + (1 : Int32)) := ⟨_, rfl⟩
    have e4 : x2.toInt = v2.toInt + 1 := by rw [q3, iv_add (by omega) (by omega)]; omega
    refine k_bin x2 14 rfl q3.symm rfl ?_
    refine k_aload 15 rfl g0 rfl ?_
    refine r_gI hI 18 rfl rfl rfl (fun x5 (e6 : x5.toInt = F 50) => ?_)
    by_cases b7 : x5 ≤ x2
    · refine k_c2 41 rfl rfl (if_pos b7) ?_
      have b7 := iv_le.mp b7
      refine k_aload 42 rfl g0 rfl ?_
      refine k_dup 43 rfl rfl rfl ?_
      refine r_gI hI 46 rfl rfl rfl (fun x8 (e9 : x8.toInt = F 50) => ?_)
      refine k_push 47 rfl rfl ?_
      obtain ⟨x10, q11⟩ : ∃ q : Int32, q = (x8 - (1 : Int32)) := ⟨_, rfl⟩
      have e12 : x10.toInt = x8.toInt - 1 := by rw [q11, iv_sub (by omega) (by omega)]; omega
      refine k_bin x10 48 rfl q11.symm rfl ?_
      refine r_pI hI 51 rfl rfl rfl (fun h13 I14 => ?_)
      exact k_fin rfl rfl ⟨_, _, _, rfl, I14, (fr1.up (by decide) hF), hA, show 0 ≤ (x10.toInt) ∧ ((x10.toInt) = F0 50 ∧ F0 50 ≤ w1.toInt ∨ (x10.toInt) = F0 50 - 1 ∧ w1.toInt < F0 50) ∧ wr A from ⟨by omega, by omega, by first | exact p3 | exact i2⟩⟩
    · refine k_c2 21 rfl rfl (if_neg b7) ?_
      have b7 := mt iv_le.mpr b7
      refine k_aload 22 rfl g0 rfl ?_
      refine r_gA hI 25 rfl rfl rfl ?_
      refine k_iload 26 rfl g2 rfl ?_
      refine k_aload 27 rfl g0 rfl ?_
      refine r_gA hI 30 rfl rfl rfl ?_
      refine k_iload 31 rfl g2 rfl ?_
      refine k_push 32 rfl rfl ?_
      obtain ⟨x15, q16⟩ : ∃ q : Int32, q = (v2 + (1 : Int32)) := ⟨_, rfl⟩
      have e17 : x15.toInt = v2.toInt + 1 := by rw [q16, iv_add (by omega) (by omega)]; omega
      refine k_bin x15 33 rfl q16.symm rfl ?_
      refine r_ld 49 hI 34 rfl rfl (by omega) (show x15.toInt < 4300 by omega) rfl (fun x18 (e19 : x18.toInt = A 49 x15.toInt) => ?_)
      rw [e17] at e19
      refine r_st 49 hI 35 rfl rfl (by omega) (show v2.toInt < 4300 by omega) rfl (fun h20 I21 => ?_)
      obtain ⟨x22, q23⟩ : ∃ q : Int32, q = v2 + (1 : Int32) := ⟨_, rfl⟩
      have e24 : x22.toInt = v2.toInt + 1 := by rw [q23, iv_add (by omega) (by omega)]; omega
      refine k_iinc x22 38 rfl g2 q23.symm rfl ?_
      refine k_goto 11 rfl rfl ?_
      exact ih _ (show ((F0 50 - x22.toInt).toNat) < n by omega)  rfl (gs_ne rfl rfl g0) (gs_ne rfl rfl g1) gs_eq I21 hF (fr2.up (by decide) hA) (show v1.toInt = w1.toInt by omega) (show (F 50) = F0 50 ∧ w1.toInt ≤ x22.toInt ∧ x22.toInt ≤ F0 50 ∧ w1.toInt < F0 50 by omega) (show wr (up2 A 49 v2.toInt x18.toInt) from i2.u49 (by have := i2 (v2.toInt + 1); omega))
theorem m_goesAt {h0 : am_h} {F0 : rf_f} {A0 : rf_A} {w1 : Int32}  (hR : rf_R h0 F0 A0) (p1 : 0 ≤ w1.toInt) (p2 : 0 ≤ F0 50 ∧ F0 50 ≤ 4299) (p3 : wr A0) : am_Mt 1 227 [.inr (.inr (some 81)), .inl w1] h0 (rf_V h0 (fun F' A' => fr1 [50] F0 F' ∧ fr2 [49] A0 A' ∧ (0 ≤ F' 50 ∧ (F' 50 = F0 50 ∧ F0 50 ≤ w1.toInt ∨ F' 50 = F0 50 - 1 ∧ w1.toInt < F0 50) ∧ wr A'))) := by
  refine am_Mt.of (D := 0) ?_
  have hI : rf_I h0 h0 F0 A0 := rf_I.start hR
  refine k_iload 1 rfl rfl rfl ?_
  refine k_aload 2 rfl rfl rfl ?_
  refine r_gI hI 5 rfl rfl rfl (fun x25 (e26 : x25.toInt = F0 50) => ?_)
  by_cases b27 : w1 < x25
  · refine k_c2 9 rfl rfl (if_pos b27) ?_
    have b27 := iv_lt.mp b27
    refine k_iload 10 rfl rfl rfl ?_
    refine k_istore 11 rfl rfl ?_
    exact b_X10_goesAt_11  (w1 := w1) p1 p2 p3 _  rfl (gs_ne rfl rfl rfl) (gs_ne rfl rfl rfl) gs_eq hI fr1.rf fr2.rf (show w1.toInt = w1.toInt by omega) (show (F0 50) = F0 50 ∧ w1.toInt ≤ w1.toInt ∧ w1.toInt ≤ F0 50 ∧ w1.toInt < F0 50 by omega) (show wr A0 from p3)
  · refine k_c2 8 rfl rfl (if_neg b27) ?_
    have b27 := mt iv_lt.mpr b27
    exact k_fin rfl rfl ⟨_, _, _, rfl, hI, fr1.rf, fr2.rf, show 0 ≤ (F0 50) ∧ ((F0 50) = F0 50 ∧ F0 50 ≤ w1.toInt ∨ (F0 50) = F0 50 - 1 ∧ w1.toInt < F0 50) ∧ wr A0 from ⟨by omega, by omega, by first | exact p3 | exact i2⟩⟩
end
