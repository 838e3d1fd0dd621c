section
theorem sm_bd {t u v : Int → Int} {a b i : Int} {x : Nat} (e : ∀ q, q ≠ b → u q = t q) (h1 : t a = x) (hx : x ≤ 1000) (h2 : ∃ y : Nat, y ≤ 1000 ∧ u b = y ∧ wf v i y) : u a ≤ 1000 := by
  obtain ⟨y, hy, h3, -⟩ := h2
  by_cases h : a = b
  · rw [h, h3]
    omega
  · rw [e a h, h1]
    omega
theorem sm_nn : True := trivial
theorem b_X10_same_82 {h0 : am_h} {F0 : rf_f} {A0 : rf_A} {w1 : Int32} {w2 : Int32} {lm : Int → Int} {gT : Int} {gt : Nat} (p1 : nn (A0 24) (A0 25) (F0 28) gT) (p2 : nw (A0 24) (A0 25) (A0 26) lm (F0 28)) (p5 : wr A0) (p6 : wq A0) (p7 : A0 2 2 = gt ∧ 1 ≤ gt ∧ gt ≤ 120) (p8 : wf (A0 1) 2600 gt) (p9 : cb (A0 1) 2600 gt 200) : ∀ (n : Nat) {lv : am_l} {h : am_h} {F : rf_f} {A : rf_A} {v1 : Int32} {v2 : Int32} {v3 : Int32}, ((1000 - v3.toInt).toNat) = n → am_get lv 0 = some (.inr (.inr (some 81))) → am_get lv 1 = some (.inl v1) → am_get lv 2 = some (.inl v2) → am_get lv 3 = some (.inl v3) → rf_I h0 h F A → fr1 [59, 55, 50, 48, 62, 63, 64, 65, 67, 70, 71, 0] F0 F → fr2 [1, 2, 56, 57, 58, 61, 49, 51, 52, 53, 54, 60, 43, 44, 45, 46, 47, 66, 68, 69] A0 A → (0 ≤ v1.toInt ∧ v1.toInt ≤ 2 ∧ 0 ≤ v2.toInt ∧ v2.toInt ≤ 2) → (A 2 v1.toInt ≤ 1000) → (0 ≤ v3.toInt ∧ v3.toInt ≤ 1000) → (wr A) → (wq A) → (A 2 2 = A0 2 2) → (∀ q : Int, 2600 ≤ q → A 1 q = A0 1 q) → am_Ok am_G 7 263 (82, lv, [], h, 0, 0) (rf_Q h0 (fun x F' A' => fr1 [59, 55, 50, 48, 62, 63, 64, 65, 67, 70, 71, 0] F0 F' ∧ fr2 [1, 2, 56, 57, 58, 61, 49, 51, 52, 53, 54, 60, 43, 44, 45, 46, 47, 66, 68, 69] A0 A' ∧ (wr A' ∧ wq A' ∧ A' 2 2 = A0 2 2 ∧ (∀ q : Int, 2600 ≤ q → A' 1 q = A0 1 q)))) := by
  intro n
  induction n using Nat.strongRecOn with
  | ind n ih =>
    intro lv h F A v1 v2 v3 hn g0 g1 g2 g3 hI hF hA i1 i2 i3 ij ik il im
    refine k_iload 83 rfl g3 rfl ?_
    refine k_aload 84 rfl g0 rfl ?_
    refine r_gA hI 87 rfl rfl rfl ?_
    refine k_iload 88 rfl g1 rfl ?_
    refine r_ld 2 hI 89 rfl rfl (by omega) (show v1.toInt < 3 by omega) rfl (fun x1 (e2 : x1.toInt = A 2 v1.toInt) => ?_)
    by_cases b3 : x1 ≤ v3
    · refine k_c2 125 rfl rfl (if_pos b3) ?_
      have b3 := iv_le.mp b3
      refine k_push 126 rfl rfl ?_
      have hc4 : (1 : Int32).toInt = 1 := by decide
      exact k_fin rfl (fin_Z (Or.inr rfl)) ⟨_, _, _, _, rfl, hI, hF, hA, ⟨ij, ik, il, im⟩⟩
    · refine k_c2 92 rfl rfl (if_neg b3) ?_
      have b3 := mt iv_le.mpr b3
      refine k_aload 93 rfl g0 rfl ?_
      refine r_gA hI 96 rfl rfl rfl ?_
      refine k_iload 97 rfl g1 rfl ?_
      refine k_in (d := 0) rfl rfl rfl rfl rfl ?_
      refine k_push 3 rfl rfl ?_
      have hc5 : (1300 : Int32).toInt = 1300 := by decide
      refine k_iload 4 rfl rfl rfl ?_
      obtain ⟨x6, q7⟩ : ∃ q : Int32, q = ((1300 : Int32) * v1) := ⟨_, rfl⟩
      have e8 : x6.toInt = 1300 * v1.toInt := by rw [q7]; exact iv_mulc 1300 (by decide) (by omega) (by omega)
      refine k_bin x6 5 rfl q7.symm rfl ?_
      refine k_fin rfl rfl ⟨_, _, rfl, rf_len hI hI, ?_⟩
      show am_Ok _ _ _ (100, _, [.inl x6, .inr (.inr (some (rf_ad 1)))], _, 0, 0) _
      refine k_iload 101 rfl g3 rfl ?_
      obtain ⟨x9, q10⟩ : ∃ q : Int32, q = (x6 + v3) := ⟨_, rfl⟩
      have e11 : x9.toInt = x6.toInt + v3.toInt := by rw [q10, iv_add (by omega) (by omega)]
      refine k_bin x9 102 rfl q10.symm rfl ?_
      refine r_ld 1 hI 103 rfl rfl (by omega) (show x9.toInt < 3900 by omega) rfl (fun x12 (e13 : x12.toInt = A 1 x9.toInt) => ?_)
      rw [e11] at e13
      rw [e8] at e13
      refine k_aload 104 rfl g0 rfl ?_
      refine r_gA hI 107 rfl rfl rfl ?_
      refine k_iload 108 rfl g2 rfl ?_
      refine k_in (d := 0) rfl rfl rfl rfl rfl ?_
      refine k_push 3 rfl rfl ?_
      refine k_iload 4 rfl rfl rfl ?_
      obtain ⟨x14, q15⟩ : ∃ q : Int32, q = ((1300 : Int32) * v2) := ⟨_, rfl⟩
      have e16 : x14.toInt = 1300 * v2.toInt := by rw [q15]; exact iv_mulc 1300 (by decide) (by omega) (by omega)
      refine k_bin x14 5 rfl q15.symm rfl ?_
      refine k_fin rfl rfl ⟨_, _, rfl, rf_len hI hI, ?_⟩
      show am_Ok _ _ _ (111, _, [.inl x14, .inr (.inr (some (rf_ad 1))), .inl x12], _, 0, 0) _
      refine k_iload 112 rfl g3 rfl ?_
      obtain ⟨x17, q18⟩ : ∃ q : Int32, q = (x14 + v3) := ⟨_, rfl⟩
      have e19 : x17.toInt = x14.toInt + v3.toInt := by rw [q18, iv_add (by omega) (by omega)]
      refine k_bin x17 113 rfl q18.symm rfl ?_
      refine r_ld 1 hI 114 rfl rfl (by omega) (show x17.toInt < 3900 by omega) rfl (fun x20 (e21 : x20.toInt = A 1 x17.toInt) => ?_)
      rw [e19] at e21
      rw [e16] at e21
      by_cases b22 : x12 = x20
      · refine k_c2 119 rfl rfl (if_pos b22) ?_
        have b22 := iv_eq.mp b22
        have hc23 : (1 : Int32).toInt = 1 := by decide
        obtain ⟨x24, q25⟩ : ∃ q : Int32, q = v3 + (1 : Int32) := ⟨_, rfl⟩
        have e26 : x24.toInt = v3.toInt + 1 := by rw [q25, iv_add (by omega) (by omega)]; omega
        refine k_iinc x24 122 rfl g3 q25.symm rfl ?_
        refine k_goto 82 rfl rfl ?_
        exact ih _ (show ((1000 - x24.toInt).toNat) < n by omega)  rfl (gs_ne rfl rfl g0) (gs_ne rfl rfl g1) (gs_ne rfl rfl g2) gs_eq hI hF hA (show 0 ≤ v1.toInt ∧ v1.toInt ≤ 2 ∧ 0 ≤ v2.toInt ∧ v2.toInt ≤ 2 by omega) (show (A 2) v1.toInt ≤ 1000 by omega) (show 0 ≤ x24.toInt ∧ x24.toInt ≤ 1000 by omega) (show wr A from ij) (show wq A from ik) (show (A 2) 2 = A0 2 2 from il) (show ∀ q : Int, 2600 ≤ q → (A 1) q = A0 1 q from im)
      · refine k_c2 117 rfl rfl (if_neg b22) ?_
        have b22 := mt iv_eq.mpr b22
        refine k_push 118 rfl rfl ?_
        have hc27 : (0 : Int32).toInt = 0 := by decide
        exact k_fin rfl (fin_Z (Or.inl rfl)) ⟨_, _, _, _, rfl, hI, hF, hA, ⟨ij, ik, il, im⟩⟩
theorem m_same {h0 : am_h} {F0 : rf_f} {A0 : rf_A} {w1 : Int32} {w2 : Int32} {lm : Int → Int} {gT : Int} {gt : Nat} (hR : rf_R h0 F0 A0) (p1 : nn (A0 24) (A0 25) (F0 28) gT) (p2 : nw (A0 24) (A0 25) (A0 26) lm (F0 28)) (p5 : wr A0) (p6 : wq A0) (p7 : A0 2 2 = gt ∧ 1 ≤ gt ∧ gt ≤ 120) (p8 : wf (A0 1) 2600 gt) (p9 : cb (A0 1) 2600 gt 200) : am_Mt 8 263 [.inr (.inr (some 81)), .inl w1, .inl w2] h0 (rf_Q h0 (fun x F' A' => fr1 [59, 55, 50, 48, 62, 63, 64, 65, 67, 70, 71, 0] F0 F' ∧ fr2 [1, 2, 56, 57, 58, 61, 49, 51, 52, 53, 54, 60, 43, 44, 45, 46, 47, 66, 68, 69] A0 A' ∧ (wr A' ∧ wq A' ∧ A' 2 2 = A0 2 2 ∧ (∀ q : Int, 2600 ≤ q → A' 1 q = A0 1 q)))) := by
  refine am_Mt.of (D := 7) ?_
  have hI : rf_I h0 h0 F0 A0 := rf_I.start hR
  refine k_aload 1 rfl rfl rfl ?_
  refine k_push 2 rfl rfl ?_
  have hc28 : (0 : Int32).toInt = 0 := by decide
  refine r_pI hI 5 rfl rfl rfl (fun h29 I30 => ?_)
  refine k_aload 6 rfl rfl rfl ?_
  refine k_iload 7 rfl rfl rfl ?_
  refine k_in (d := 1) rfl rfl rfl rfl rfl ?_
  refine k_iload 1 rfl rfl rfl ?_
  refine k_push 2 rfl rfl ?_
  refine k_push 3 rfl rfl ?_
  have hc31 : (2 : Int32).toInt = 2 := by decide
  refine k_in (d := 0) rfl rfl rfl rfl rfl ?_
  refine k_iload 1 rfl rfl rfl ?_
  refine k_iload 2 rfl rfl rfl ?_
  by_cases b32 : w1 < (0 : Int32)
  · refine k_c2 14 rfl rfl (if_pos b32) ?_
    have b32 := iv_lt.mp b32
    refine k_push 15 rfl rfl ?_
    refine k_fin rfl (fin_Z (Or.inl rfl)) ⟨_, _, rfl, rf_len I30 I30, ?_⟩
    show am_Ok _ _ _ (6, _, [.inl (0 : Int32)], _, 0, 0) _
    refine k_fin rfl (fin_Z (Or.inl rfl)) ⟨_, _, rfl, rf_len I30 I30, ?_⟩
    show am_Ok _ _ _ (10, _, [.inl (0 : Int32), .inr (.inr (some 81))], _, 0, 0) _
    refine k_c1 24 rfl rfl (if_pos (by decide)) ?_
    refine k_push 25 rfl rfl ?_
    refine k_push 26 rfl rfl ?_
    have hc33 : (1 : Int32).toInt = 1 := by decide
    refine k_in (d := 0) rfl rfl rfl rfl I30.rc ?_
    refine k_aload 1 rfl rfl rfl ?_
    refine r_gI I30 4 rfl rfl rfl (fun x34 (e35 : x34.toInt = (0 : Int32).toInt) => ?_)
    by_cases b36 : x34 = 0
    · refine k_c1 7 rfl rfl (if_pos b36) ?_
      have b36 := iv_eq0.mp b36
      refine k_iload 8 rfl rfl rfl ?_
      refine k_c1 11 rfl rfl (if_pos (by decide)) ?_
      refine k_aload 12 rfl rfl rfl ?_
      refine k_iload 13 rfl rfl rfl ?_
      refine r_pI I30 16 rfl rfl rfl (fun h37 I38 => ?_)
      refine k_aload 17 rfl rfl rfl ?_
      refine r_gI I38 20 rfl rfl rfl (fun x39 (e40 : x39.toInt = (1 : Int32).toInt) => ?_)
      by_cases b41 : x39 = 0
      · refine k_c1 23 rfl rfl (if_pos b41) ?_
        have b41 := iv_eq0.mp b41
        refine k_push 24 rfl rfl ?_
        refine k_goto 28 rfl rfl ?_
        refine k_fin rfl (fin_Z (Or.inr rfl)) ⟨_, _, rfl, rf_len I30 I38, ?_⟩
        show am_Ok _ _ _ (29, _, [.inl (1 : Int32)], _, 0, 0) _
        refine k_c1 32 rfl rfl (if_neg (by decide)) ?_
        refine k_aload 33 rfl rfl rfl ?_
        refine k_aload 34 rfl rfl rfl ?_
        refine k_iload 35 rfl rfl rfl ?_
        refine k_rq I38 rfl (m_isTerm (lm := lm) (gT := gT) (gt := gt) I38.1 (show nn ((A0 24)) ((A0 25)) ((F0 28)) (gT) from p1) (show nw ((A0 24)) ((A0 25)) ((A0 26)) (lm) ((F0 28)) from p2) (show wr A0 from p5) (show wq A0 from p6) (show (A0 2) 2 = (gt) ∧ 1 ≤ (gt) ∧ (gt) ≤ 120 from p7) (show wf ((A0 1)) 2600 (gt) from p8) (show cb ((A0 1)) 2600 (gt) 200 from p9) (show 0 ≤ w1.toInt ∧ w1.toInt ≤ 2 by omega)) rfl rfl rfl I38.rc ?_
        rintro x42 h43 F44 A45 I46 ⟨k48, k49, p47⟩
        replace p47 : (x42.toInt = 0 ∨ x42.toInt = 1) ∧ (x42.toInt = 1 → ∃ n' : Nat, n' ≤ 1000 ∧ A45 2 w1.toInt = n' ∧ wf (A45 1) (1300 * w1.toInt) n') ∧ wr A45 ∧ wq A45 ∧ (∀ q : Int, q ≠ w1.toInt → A45 2 q = (A0 2) q) ∧ (∀ q : Int, (0 ≤ q ∧ q < 1300 * w1.toInt) ∨ 1300 * w1.toInt + 1300 ≤ q → A45 1 q = (A0 1) q) ∧ A45 2 2 = (A0 2) 2 ∧ (∀ q : Int, 2600 ≤ q → A45 1 q = (A0 1) q) := p47
        obtain ⟨p47a, p47b, p47c, p47d, p47e, p47f, p47g, p47h⟩ := p47
        have z50 := iv_01 (x := x42) p47a
        show am_Ok _ _ _ (38, _, [.inl x42, .inr (.inr (some 81))], _, 0, 0) _
        by_cases b51 : x42 = 0
        · refine k_c1 53 rfl rfl (if_pos b51) ?_
          have b51 := iv_eq0.mp b51
          refine k_push 54 rfl rfl ?_
          refine k_push 55 rfl rfl ?_
          refine k_in (d := 0) rfl rfl rfl rfl I46.rc ?_
          refine k_aload 1 rfl rfl rfl ?_
          refine r_gI I46 4 rfl rfl rfl (fun x52 (e53 : x52.toInt = F44 0) => ?_)
          have e54 : F44 0 = (1 : Int32).toInt := k48 0 (by decide)
          by_cases b55 : x52 = 0
          · refine k_c1 7 rfl rfl (if_pos b55) ?_
            have b55 := iv_eq0.mp b55
            refine k_iload 8 rfl rfl rfl ?_
            refine k_c1 11 rfl rfl (if_pos (by decide)) ?_
            refine k_aload 12 rfl rfl rfl ?_
            refine k_iload 13 rfl rfl rfl ?_
            refine r_pI I46 16 rfl rfl rfl (fun h56 I57 => ?_)
            refine k_aload 17 rfl rfl rfl ?_
            refine r_gI I57 20 rfl rfl rfl (fun x58 (e59 : x58.toInt = (2 : Int32).toInt) => ?_)
            by_cases b60 : x58 = 0
            · refine k_c1 23 rfl rfl (if_pos b60) ?_
              have b60 := iv_eq0.mp b60
              refine k_push 24 rfl rfl ?_
              refine k_goto 28 rfl rfl ?_
              refine k_fin rfl (fin_Z (Or.inr rfl)) ⟨_, _, rfl, rf_len I46 I57, ?_⟩
              show am_Ok _ _ _ (58, _, [.inl (1 : Int32)], _, 0, 0) _
              refine k_c1 63 rfl rfl (if_neg (by decide)) ?_
              have hbd : (A45 2) w1.toInt ≤ 1000 := by clear p47b; omega
              clear p47b
              refine k_aload 64 rfl rfl rfl ?_
              refine r_gA I57 67 rfl rfl rfl ?_
              refine k_iload 68 rfl rfl rfl ?_
              refine r_ld 2 I57 69 rfl rfl (by omega) (show w1.toInt < 3 by omega) rfl (fun x61 (e62 : x61.toInt = A45 2 w1.toInt) => ?_)
              refine k_aload 70 rfl rfl rfl ?_
              refine r_gA I57 73 rfl rfl rfl ?_
              refine k_iload 74 rfl rfl rfl ?_
              refine r_ld 2 I57 75 rfl rfl (by omega) (show w2.toInt < 3 by omega) rfl (fun x63 (e64 : x63.toInt = A45 2 w2.toInt) => ?_)
              by_cases b65 : x61 = x63
              · refine k_c2 80 rfl rfl (if_pos b65) ?_
                have b65 := iv_eq.mp b65
                refine k_push 81 rfl rfl ?_
                refine k_istore 82 rfl rfl ?_
                exact b_X10_same_82 (lm := lm) (gT := gT) (gt := gt) (w1 := w1) (w2 := w2) p1 p2 p5 p6 p7 p8 p9 _  rfl (gs_ne rfl rfl rfl) (gs_ne rfl rfl rfl) (gs_ne rfl rfl rfl) gs_eq I57 (fr1.up (by decide) (fr1.tr (by decide) (fr1.up (by decide) (fr1.up (by decide) fr1.rf)) k48)) (fr2.tr (by decide) fr2.rf k49) (show 0 ≤ w1.toInt ∧ w1.toInt ≤ 2 ∧ 0 ≤ w2.toInt ∧ w2.toInt ≤ 2 by omega) (show (A45 2) w1.toInt ≤ 1000 by omega) (show 0 ≤ (0 : Int32).toInt ∧ (0 : Int32).toInt ≤ 1000 by omega) (show wr A45 from p47c) (show wq A45 from p47d) (show (A45 2) 2 = A0 2 2 from p47g) (show ∀ q : Int, 2600 ≤ q → (A45 1) q = A0 1 q from p47h)
              · refine k_c2 78 rfl rfl (if_neg b65) ?_
                have b65 := mt iv_eq.mpr b65
                refine k_push 79 rfl rfl ?_
                exact k_fin rfl (fin_Z (Or.inl rfl)) ⟨_, _, _, _, rfl, I57, (fr1.up (by decide) (fr1.tr (by decide) (fr1.up (by decide) (fr1.up (by decide) fr1.rf)) k48)), (fr2.tr (by decide) fr2.rf k49), ⟨p47c, p47d, p47g, p47h⟩⟩
            · refine k_c1 27 rfl rfl (if_neg b60) ?_
              have b60 := mt iv_eq0.mpr b60
              refine k_push 28 rfl rfl ?_
              refine k_fin rfl (fin_Z (Or.inl rfl)) ⟨_, _, rfl, rf_len I46 I57, ?_⟩
              show am_Ok _ _ _ (58, _, [.inl (0 : Int32)], _, 0, 0) _
              refine k_c1 61 rfl rfl (if_pos (by decide)) ?_
              refine k_push 62 rfl rfl ?_
              exact k_fin rfl (fin_Z (Or.inl rfl)) ⟨_, _, _, _, rfl, I57, (fr1.up (by decide) (fr1.tr (by decide) (fr1.up (by decide) (fr1.up (by decide) fr1.rf)) k48)), (fr2.tr (by decide) fr2.rf k49), ⟨p47c, p47d, p47g, p47h⟩⟩
          · refine k_c1 16 rfl rfl (if_neg b55) ?_
            have b55 := mt iv_eq0.mpr b55
            refine k_aload 17 rfl rfl rfl ?_
            refine r_gI I46 20 rfl rfl rfl (fun x66 (e67 : x66.toInt = F44 0) => ?_)
            by_cases b68 : x66 = 0
            · refine k_c1 23 rfl rfl (if_pos b68) ?_
              have b68 := iv_eq0.mp b68
              refine k_push 24 rfl rfl ?_
              refine k_goto 28 rfl rfl ?_
              refine k_fin rfl (fin_Z (Or.inr rfl)) ⟨_, _, rfl, rf_len I46 I46, ?_⟩
              show am_Ok _ _ _ (58, _, [.inl (1 : Int32)], _, 0, 0) _
              refine k_c1 63 rfl rfl (if_neg (by decide)) ?_
              have hbd : (A45 2) w1.toInt ≤ 1000 := by clear p47b; omega
              clear p47b
              refine k_aload 64 rfl rfl rfl ?_
              refine r_gA I46 67 rfl rfl rfl ?_
              refine k_iload 68 rfl rfl rfl ?_
              refine r_ld 2 I46 69 rfl rfl (by omega) (show w1.toInt < 3 by omega) rfl (fun x69 (e70 : x69.toInt = A45 2 w1.toInt) => ?_)
              refine k_aload 70 rfl rfl rfl ?_
              refine r_gA I46 73 rfl rfl rfl ?_
              refine k_iload 74 rfl rfl rfl ?_
              refine r_ld 2 I46 75 rfl rfl (by omega) (show w2.toInt < 3 by omega) rfl (fun x71 (e72 : x71.toInt = A45 2 w2.toInt) => ?_)
              by_cases b73 : x69 = x71
              · refine k_c2 80 rfl rfl (if_pos b73) ?_
                have b73 := iv_eq.mp b73
                refine k_push 81 rfl rfl ?_
                refine k_istore 82 rfl rfl ?_
                exact b_X10_same_82 (lm := lm) (gT := gT) (gt := gt) (w1 := w1) (w2 := w2) p1 p2 p5 p6 p7 p8 p9 _  rfl (gs_ne rfl rfl rfl) (gs_ne rfl rfl rfl) (gs_ne rfl rfl rfl) gs_eq I46 (fr1.tr (by decide) (fr1.up (by decide) (fr1.up (by decide) fr1.rf)) k48) (fr2.tr (by decide) fr2.rf k49) (show 0 ≤ w1.toInt ∧ w1.toInt ≤ 2 ∧ 0 ≤ w2.toInt ∧ w2.toInt ≤ 2 by omega) (show (A45 2) w1.toInt ≤ 1000 by omega) (show 0 ≤ (0 : Int32).toInt ∧ (0 : Int32).toInt ≤ 1000 by omega) (show wr A45 from p47c) (show wq A45 from p47d) (show (A45 2) 2 = A0 2 2 from p47g) (show ∀ q : Int, 2600 ≤ q → (A45 1) q = A0 1 q from p47h)
              · refine k_c2 78 rfl rfl (if_neg b73) ?_
                have b73 := mt iv_eq.mpr b73
                refine k_push 79 rfl rfl ?_
                exact k_fin rfl (fin_Z (Or.inl rfl)) ⟨_, _, _, _, rfl, I46, (fr1.tr (by decide) (fr1.up (by decide) (fr1.up (by decide) fr1.rf)) k48), (fr2.tr (by decide) fr2.rf k49), ⟨p47c, p47d, p47g, p47h⟩⟩
            · refine k_c1 27 rfl rfl (if_neg b68) ?_
              have b68 := mt iv_eq0.mpr b68
              refine k_push 28 rfl rfl ?_
              refine k_fin rfl (fin_Z (Or.inl rfl)) ⟨_, _, rfl, rf_len I46 I46, ?_⟩
              show am_Ok _ _ _ (58, _, [.inl (0 : Int32)], _, 0, 0) _
              refine k_c1 61 rfl rfl (if_pos (by decide)) ?_
              refine k_push 62 rfl rfl ?_
              exact k_fin rfl (fin_Z (Or.inl rfl)) ⟨_, _, _, _, rfl, I46, (fr1.tr (by decide) (fr1.up (by decide) (fr1.up (by decide) fr1.rf)) k48), (fr2.tr (by decide) fr2.rf k49), ⟨p47c, p47d, p47g, p47h⟩⟩
        · refine k_c1 41 rfl rfl (if_neg b51) ?_
          have b51 := mt iv_eq0.mpr b51
          obtain ⟨gn, hn1, hn2, hn3⟩ := p47b (by clear p47b; omega)
          clear p47b
          have fc := p47c
          have fd := p47d
          have fg := p47g
          have fh := p47h
          refine k_aload 42 rfl rfl rfl ?_
          refine k_iload 43 rfl rfl rfl ?_
          have e74 : F44 28 = F0 28 := k48 28 (by decide)
          refine k_rq I46 rfl (m_isTerm (lm := lm) (gT := gT) (gt := gt) I46.1 (show nn ((A45 24)) ((A45 25)) ((F44 28)) (gT) by rw [(k49 24 (by decide)), (k49 25 (by decide)), k48 28 (by decide)]; exact p1) (show nw ((A45 24)) ((A45 25)) ((A45 26)) (lm) ((F44 28)) by rw [(k49 24 (by decide)), (k49 25 (by decide)), (k49 26 (by decide)), k48 28 (by decide)]; exact p2) (show wr A45 from fc) (show wq A45 from fd) (show (A45 2) 2 = (gt) ∧ 1 ≤ (gt) ∧ (gt) ≤ 120 from ⟨fg.trans p7.1, p7.2⟩) (show wf ((A45 1)) 2600 (gt) from wf_congr (fun q hq => (fh _ (by omega)).symm) p8) (show cb ((A45 1)) 2600 (gt) 200 from cb.congr p9 (fun q hq => (fh _ (by omega)).symm)) (show 0 ≤ w2.toInt ∧ w2.toInt ≤ 2 by omega)) rfl rfl rfl I46.rc ?_
          rintro x75 h76 F77 A78 I79 ⟨k81, k82, p80⟩
          replace p80 : (x75.toInt = 0 ∨ x75.toInt = 1) ∧ (x75.toInt = 1 → ∃ n' : Nat, n' ≤ 1000 ∧ A78 2 w2.toInt = n' ∧ wf (A78 1) (1300 * w2.toInt) n') ∧ wr A78 ∧ wq A78 ∧ (∀ q : Int, q ≠ w2.toInt → A78 2 q = (A45 2) q) ∧ (∀ q : Int, (0 ≤ q ∧ q < 1300 * w2.toInt) ∨ 1300 * w2.toInt + 1300 ≤ q → A78 1 q = (A45 1) q) ∧ A78 2 2 = (A45 2) 2 ∧ (∀ q : Int, 2600 ≤ q → A78 1 q = (A45 1) q) := p80
          obtain ⟨p80a, p80b, p80c, p80d, p80e, p80f, p80g, p80h⟩ := p80
          have z83 := iv_01 (x := x75) p80a
          show am_Ok _ _ _ (46, _, [.inl x75, .inr (.inr (some 81))], _, 0, 0) _
          by_cases b84 : x75 = 0
          · refine k_c1 53 rfl rfl (if_pos b84) ?_
            have b84 := iv_eq0.mp b84
            refine k_push 54 rfl rfl ?_
            refine k_push 55 rfl rfl ?_
            refine k_in (d := 0) rfl rfl rfl rfl I79.rc ?_
            refine k_aload 1 rfl rfl rfl ?_
            refine r_gI I79 4 rfl rfl rfl (fun x85 (e86 : x85.toInt = F77 0) => ?_)
            have e87 : F77 0 = F44 0 := k81 0 (by decide)
            have e88 : F44 0 = (1 : Int32).toInt := k48 0 (by decide)
            by_cases b89 : x85 = 0
            · refine k_c1 7 rfl rfl (if_pos b89) ?_
              have b89 := iv_eq0.mp b89
              refine k_iload 8 rfl rfl rfl ?_
              refine k_c1 11 rfl rfl (if_pos (by decide)) ?_
              refine k_aload 12 rfl rfl rfl ?_
              refine k_iload 13 rfl rfl rfl ?_
              refine r_pI I79 16 rfl rfl rfl (fun h90 I91 => ?_)
              refine k_aload 17 rfl rfl rfl ?_
              refine r_gI I91 20 rfl rfl rfl (fun x92 (e93 : x92.toInt = (2 : Int32).toInt) => ?_)
              by_cases b94 : x92 = 0
              · refine k_c1 23 rfl rfl (if_pos b94) ?_
                have b94 := iv_eq0.mp b94
                refine k_push 24 rfl rfl ?_
                refine k_goto 28 rfl rfl ?_
                refine k_fin rfl (fin_Z (Or.inr rfl)) ⟨_, _, rfl, rf_len I79 I91, ?_⟩
                show am_Ok _ _ _ (58, _, [.inl (1 : Int32)], _, 0, 0) _
                refine k_c1 63 rfl rfl (if_neg (by decide)) ?_
                have hbd : (A78 2) w1.toInt ≤ 1000 := sm_bd p80e hn2 hn1 (p80b (by clear p80b; omega))
                clear p80b
                refine k_aload 64 rfl rfl rfl ?_
                refine r_gA I91 67 rfl rfl rfl ?_
                refine k_iload 68 rfl rfl rfl ?_
                refine r_ld 2 I91 69 rfl rfl (by omega) (show w1.toInt < 3 by omega) rfl (fun x95 (e96 : x95.toInt = A78 2 w1.toInt) => ?_)
                refine k_aload 70 rfl rfl rfl ?_
                refine r_gA I91 73 rfl rfl rfl ?_
                refine k_iload 74 rfl rfl rfl ?_
                refine r_ld 2 I91 75 rfl rfl (by omega) (show w2.toInt < 3 by omega) rfl (fun x97 (e98 : x97.toInt = A78 2 w2.toInt) => ?_)
                by_cases b99 : x95 = x97
                · refine k_c2 80 rfl rfl (if_pos b99) ?_
                  have b99 := iv_eq.mp b99
                  refine k_push 81 rfl rfl ?_
                  refine k_istore 82 rfl rfl ?_
                  exact b_X10_same_82 (lm := lm) (gT := gT) (gt := gt) (w1 := w1) (w2 := w2) p1 p2 p5 p6 p7 p8 p9 _  rfl (gs_ne rfl rfl rfl) (gs_ne rfl rfl rfl) (gs_ne rfl rfl rfl) gs_eq I91 (fr1.up (by decide) (fr1.tr (by decide) (fr1.tr (by decide) (fr1.up (by decide) (fr1.up (by decide) fr1.rf)) k48) k81)) (fr2.tr (by decide) (fr2.tr (by decide) fr2.rf k49) k82) (show 0 ≤ w1.toInt ∧ w1.toInt ≤ 2 ∧ 0 ≤ w2.toInt ∧ w2.toInt ≤ 2 by omega) (show (A78 2) w1.toInt ≤ 1000 by omega) (show 0 ≤ (0 : Int32).toInt ∧ (0 : Int32).toInt ≤ 1000 by omega) (show wr A78 from p80c) (show wq A78 from p80d) (show (A78 2) 2 = A0 2 2 from p80g.trans fg) (show ∀ q : Int, 2600 ≤ q → (A78 1) q = A0 1 q from fun q hq => (p80h q hq).trans (fh q hq))
                · refine k_c2 78 rfl rfl (if_neg b99) ?_
                  have b99 := mt iv_eq.mpr b99
                  refine k_push 79 rfl rfl ?_
                  exact k_fin rfl (fin_Z (Or.inl rfl)) ⟨_, _, _, _, rfl, I91, (fr1.up (by decide) (fr1.tr (by decide) (fr1.tr (by decide) (fr1.up (by decide) (fr1.up (by decide) fr1.rf)) k48) k81)), (fr2.tr (by decide) (fr2.tr (by decide) fr2.rf k49) k82), ⟨p80c, p80d, p80g.trans fg, fun q hq => (p80h q hq).trans (fh q hq)⟩⟩
              · refine k_c1 27 rfl rfl (if_neg b94) ?_
                have b94 := mt iv_eq0.mpr b94
                refine k_push 28 rfl rfl ?_
                refine k_fin rfl (fin_Z (Or.inl rfl)) ⟨_, _, rfl, rf_len I79 I91, ?_⟩
                show am_Ok _ _ _ (58, _, [.inl (0 : Int32)], _, 0, 0) _
                refine k_c1 61 rfl rfl (if_pos (by decide)) ?_
                refine k_push 62 rfl rfl ?_
                exact k_fin rfl (fin_Z (Or.inl rfl)) ⟨_, _, _, _, rfl, I91, (fr1.up (by decide) (fr1.tr (by decide) (fr1.tr (by decide) (fr1.up (by decide) (fr1.up (by decide) fr1.rf)) k48) k81)), (fr2.tr (by decide) (fr2.tr (by decide) fr2.rf k49) k82), ⟨p80c, p80d, p80g.trans fg, fun q hq => (p80h q hq).trans (fh q hq)⟩⟩
            · refine k_c1 16 rfl rfl (if_neg b89) ?_
              have b89 := mt iv_eq0.mpr b89
              refine k_aload 17 rfl rfl rfl ?_
              refine r_gI I79 20 rfl rfl rfl (fun x100 (e101 : x100.toInt = F77 0) => ?_)
              by_cases b102 : x100 = 0
              · refine k_c1 23 rfl rfl (if_pos b102) ?_
                have b102 := iv_eq0.mp b102
                refine k_push 24 rfl rfl ?_
                refine k_goto 28 rfl rfl ?_
                refine k_fin rfl (fin_Z (Or.inr rfl)) ⟨_, _, rfl, rf_len I79 I79, ?_⟩
                show am_Ok _ _ _ (58, _, [.inl (1 : Int32)], _, 0, 0) _
                refine k_c1 63 rfl rfl (if_neg (by decide)) ?_
                have hbd : (A78 2) w1.toInt ≤ 1000 := sm_bd p80e hn2 hn1 (p80b (by clear p80b; omega))
                clear p80b
                refine k_aload 64 rfl rfl rfl ?_
                refine r_gA I79 67 rfl rfl rfl ?_
                refine k_iload 68 rfl rfl rfl ?_
                refine r_ld 2 I79 69 rfl rfl (by omega) (show w1.toInt < 3 by omega) rfl (fun x103 (e104 : x103.toInt = A78 2 w1.toInt) => ?_)
                refine k_aload 70 rfl rfl rfl ?_
                refine r_gA I79 73 rfl rfl rfl ?_
                refine k_iload 74 rfl rfl rfl ?_
                refine r_ld 2 I79 75 rfl rfl (by omega) (show w2.toInt < 3 by omega) rfl (fun x105 (e106 : x105.toInt = A78 2 w2.toInt) => ?_)
                by_cases b107 : x103 = x105
                · refine k_c2 80 rfl rfl (if_pos b107) ?_
                  have b107 := iv_eq.mp b107
                  refine k_push 81 rfl rfl ?_
                  refine k_istore 82 rfl rfl ?_
                  exact b_X10_same_82 (lm := lm) (gT := gT) (gt := gt) (w1 := w1) (w2 := w2) p1 p2 p5 p6 p7 p8 p9 _  rfl (gs_ne rfl rfl rfl) (gs_ne rfl rfl rfl) (gs_ne rfl rfl rfl) gs_eq I79 (fr1.tr (by decide) (fr1.tr (by decide) (fr1.up (by decide) (fr1.up (by decide) fr1.rf)) k48) k81) (fr2.tr (by decide) (fr2.tr (by decide) fr2.rf k49) k82) (show 0 ≤ w1.toInt ∧ w1.toInt ≤ 2 ∧ 0 ≤ w2.toInt ∧ w2.toInt ≤ 2 by omega) (show (A78 2) w1.toInt ≤ 1000 by omega) (show 0 ≤ (0 : Int32).toInt ∧ (0 : Int32).toInt ≤ 1000 by omega) (show wr A78 from p80c) (show wq A78 from p80d) (show (A78 2) 2 = A0 2 2 from p80g.trans fg) (show ∀ q : Int, 2600 ≤ q → (A78 1) q = A0 1 q from fun q hq => (p80h q hq).trans (fh q hq))
                · refine k_c2 78 rfl rfl (if_neg b107) ?_
                  have b107 := mt iv_eq.mpr b107
                  refine k_push 79 rfl rfl ?_
                  exact k_fin rfl (fin_Z (Or.inl rfl)) ⟨_, _, _, _, rfl, I79, (fr1.tr (by decide) (fr1.tr (by decide) (fr1.up (by decide) (fr1.up (by decide) fr1.rf)) k48) k81), (fr2.tr (by decide) (fr2.tr (by decide) fr2.rf k49) k82), ⟨p80c, p80d, p80g.trans fg, fun q hq => (p80h q hq).trans (fh q hq)⟩⟩
              · refine k_c1 27 rfl rfl (if_neg b102) ?_
                have b102 := mt iv_eq0.mpr b102
                refine k_push 28 rfl rfl ?_
                refine k_fin rfl (fin_Z (Or.inl rfl)) ⟨_, _, rfl, rf_len I79 I79, ?_⟩
                show am_Ok _ _ _ (58, _, [.inl (0 : Int32)], _, 0, 0) _
                refine k_c1 61 rfl rfl (if_pos (by decide)) ?_
                refine k_push 62 rfl rfl ?_
                exact k_fin rfl (fin_Z (Or.inl rfl)) ⟨_, _, _, _, rfl, I79, (fr1.tr (by decide) (fr1.tr (by decide) (fr1.up (by decide) (fr1.up (by decide) fr1.rf)) k48) k81), (fr2.tr (by decide) (fr2.tr (by decide) fr2.rf k49) k82), ⟨p80c, p80d, p80g.trans fg, fun q hq => (p80h q hq).trans (fh q hq)⟩⟩
          · refine k_c1 49 rfl rfl (if_neg b84) ?_
            have b84 := mt iv_eq0.mpr b84
            refine k_push 50 rfl rfl ?_
            refine k_goto 54 rfl rfl ?_
            refine k_push 55 rfl rfl ?_
            refine k_in (d := 0) rfl rfl rfl rfl I79.rc ?_
            refine k_aload 1 rfl rfl rfl ?_
            refine r_gI I79 4 rfl rfl rfl (fun x108 (e109 : x108.toInt = F77 0) => ?_)
            have e110 : F77 0 = F44 0 := k81 0 (by decide)
            have e111 : F44 0 = (1 : Int32).toInt := k48 0 (by decide)
            by_cases b112 : x108 = 0
            · refine k_c1 7 rfl rfl (if_pos b112) ?_
              have b112 := iv_eq0.mp b112
              refine k_iload 8 rfl rfl rfl ?_
              refine k_c1 16 rfl rfl (if_neg (by decide)) ?_
              refine k_aload 17 rfl rfl rfl ?_
              refine r_gI I79 20 rfl rfl rfl (fun x113 (e114 : x113.toInt = F77 0) => ?_)
              by_cases b115 : x113 = 0
              · refine k_c1 23 rfl rfl (if_pos b115) ?_
                have b115 := iv_eq0.mp b115
                refine k_push 24 rfl rfl ?_
                refine k_goto 28 rfl rfl ?_
                refine k_fin rfl (fin_Z (Or.inr rfl)) ⟨_, _, rfl, rf_len I79 I79, ?_⟩
                show am_Ok _ _ _ (58, _, [.inl (1 : Int32)], _, 0, 0) _
                refine k_c1 63 rfl rfl (if_neg (by decide)) ?_
                have hbd : (A78 2) w1.toInt ≤ 1000 := sm_bd p80e hn2 hn1 (p80b (by clear p80b; omega))
                clear p80b
                refine k_aload 64 rfl rfl rfl ?_
                refine r_gA I79 67 rfl rfl rfl ?_
                refine k_iload 68 rfl rfl rfl ?_
                refine r_ld 2 I79 69 rfl rfl (by omega) (show w1.toInt < 3 by omega) rfl (fun x116 (e117 : x116.toInt = A78 2 w1.toInt) => ?_)
                refine k_aload 70 rfl rfl rfl ?_
                refine r_gA I79 73 rfl rfl rfl ?_
                refine k_iload 74 rfl rfl rfl ?_
                refine r_ld 2 I79 75 rfl rfl (by omega) (show w2.toInt < 3 by omega) rfl (fun x118 (e119 : x118.toInt = A78 2 w2.toInt) => ?_)
                by_cases b120 : x116 = x118
                · refine k_c2 80 rfl rfl (if_pos b120) ?_
                  have b120 := iv_eq.mp b120
                  refine k_push 81 rfl rfl ?_
                  refine k_istore 82 rfl rfl ?_
                  exact b_X10_same_82 (lm := lm) (gT := gT) (gt := gt) (w1 := w1) (w2 := w2) p1 p2 p5 p6 p7 p8 p9 _  rfl (gs_ne rfl rfl rfl) (gs_ne rfl rfl rfl) (gs_ne rfl rfl rfl) gs_eq I79 (fr1.tr (by decide) (fr1.tr (by decide) (fr1.up (by decide) (fr1.up (by decide) fr1.rf)) k48) k81) (fr2.tr (by decide) (fr2.tr (by decide) fr2.rf k49) k82) (show 0 ≤ w1.toInt ∧ w1.toInt ≤ 2 ∧ 0 ≤ w2.toInt ∧ w2.toInt ≤ 2 by omega) (show (A78 2) w1.toInt ≤ 1000 by omega) (show 0 ≤ (0 : Int32).toInt ∧ (0 : Int32).toInt ≤ 1000 by omega) (show wr A78 from p80c) (show wq A78 from p80d) (show (A78 2) 2 = A0 2 2 from p80g.trans fg) (show ∀ q : Int, 2600 ≤ q → (A78 1) q = A0 1 q from fun q hq => (p80h q hq).trans (fh q hq))
                · refine k_c2 78 rfl rfl (if_neg b120) ?_
                  have b120 := mt iv_eq.mpr b120
                  refine k_push 79 rfl rfl ?_
                  exact k_fin rfl (fin_Z (Or.inl rfl)) ⟨_, _, _, _, rfl, I79, (fr1.tr (by decide) (fr1.tr (by decide) (fr1.up (by decide) (fr1.up (by decide) fr1.rf)) k48) k81), (fr2.tr (by decide) (fr2.tr (by decide) fr2.rf k49) k82), ⟨p80c, p80d, p80g.trans fg, fun q hq => (p80h q hq).trans (fh q hq)⟩⟩
              · refine k_c1 27 rfl rfl (if_neg b115) ?_
                have b115 := mt iv_eq0.mpr b115
                refine k_push 28 rfl rfl ?_
                refine k_fin rfl (fin_Z (Or.inl rfl)) ⟨_, _, rfl, rf_len I79 I79, ?_⟩
                show am_Ok _ _ _ (58, _, [.inl (0 : Int32)], _, 0, 0) _
                refine k_c1 61 rfl rfl (if_pos (by decide)) ?_
                refine k_push 62 rfl rfl ?_
                exact k_fin rfl (fin_Z (Or.inl rfl)) ⟨_, _, _, _, rfl, I79, (fr1.tr (by decide) (fr1.tr (by decide) (fr1.up (by decide) (fr1.up (by decide) fr1.rf)) k48) k81), (fr2.tr (by decide) (fr2.tr (by decide) fr2.rf k49) k82), ⟨p80c, p80d, p80g.trans fg, fun q hq => (p80h q hq).trans (fh q hq)⟩⟩
            · refine k_c1 16 rfl rfl (if_neg b112) ?_
              have b112 := mt iv_eq0.mpr b112
              refine k_aload 17 rfl rfl rfl ?_
              refine r_gI I79 20 rfl rfl rfl (fun x121 (e122 : x121.toInt = F77 0) => ?_)
              by_cases b123 : x121 = 0
              · refine k_c1 23 rfl rfl (if_pos b123) ?_
                have b123 := iv_eq0.mp b123
                refine k_push 24 rfl rfl ?_
                refine k_goto 28 rfl rfl ?_
                refine k_fin rfl (fin_Z (Or.inr rfl)) ⟨_, _, rfl, rf_len I79 I79, ?_⟩
                show am_Ok _ _ _ (58, _, [.inl (1 : Int32)], _, 0, 0) _
                refine k_c1 63 rfl rfl (if_neg (by decide)) ?_
                have hbd : (A78 2) w1.toInt ≤ 1000 := sm_bd p80e hn2 hn1 (p80b (by clear p80b; omega))
                clear p80b
                refine k_aload 64 rfl rfl rfl ?_
                refine r_gA I79 67 rfl rfl rfl ?_
                refine k_iload 68 rfl rfl rfl ?_
                refine r_ld 2 I79 69 rfl rfl (by omega) (show w1.toInt < 3 by omega) rfl (fun x124 (e125 : x124.toInt = A78 2 w1.toInt) => ?_)
                refine k_aload 70 rfl rfl rfl ?_
                refine r_gA I79 73 rfl rfl rfl ?_
                refine k_iload 74 rfl rfl rfl ?_
                refine r_ld 2 I79 75 rfl rfl (by omega) (show w2.toInt < 3 by omega) rfl (fun x126 (e127 : x126.toInt = A78 2 w2.toInt) => ?_)
                by_cases b128 : x124 = x126
                · refine k_c2 80 rfl rfl (if_pos b128) ?_
                  have b128 := iv_eq.mp b128
                  refine k_push 81 rfl rfl ?_
                  refine k_istore 82 rfl rfl ?_
                  exact b_X10_same_82 (lm := lm) (gT := gT) (gt := gt) (w1 := w1) (w2 := w2) p1 p2 p5 p6 p7 p8 p9 _  rfl (gs_ne rfl rfl rfl) (gs_ne rfl rfl rfl) (gs_ne rfl rfl rfl) gs_eq I79 (fr1.tr (by decide) (fr1.tr (by decide) (fr1.up (by decide) (fr1.up (by decide) fr1.rf)) k48) k81) (fr2.tr (by decide) (fr2.tr (by decide) fr2.rf k49) k82) (show 0 ≤ w1.toInt ∧ w1.toInt ≤ 2 ∧ 0 ≤ w2.toInt ∧ w2.toInt ≤ 2 by omega) (show (A78 2) w1.toInt ≤ 1000 by omega) (show 0 ≤ (0 : Int32).toInt ∧ (0 : Int32).toInt ≤ 1000 by omega) (show wr A78 from p80c) (show wq A78 from p80d) (show (A78 2) 2 = A0 2 2 from p80g.trans fg) (show ∀ q : Int, 2600 ≤ q → (A78 1) q = A0 1 q from fun q hq => (p80h q hq).trans (fh q hq))
                · refine k_c2 78 rfl rfl (if_neg b128) ?_
                  have b128 := mt iv_eq.mpr b128
                  refine k_push 79 rfl rfl ?_
                  exact k_fin rfl (fin_Z (Or.inl rfl)) ⟨_, _, _, _, rfl, I79, (fr1.tr (by decide) (fr1.tr (by decide) (fr1.up (by decide) (fr1.up (by decide) fr1.rf)) k48) k81), (fr2.tr (by decide) (fr2.tr (by decide) fr2.rf k49) k82), ⟨p80c, p80d, p80g.trans fg, fun q hq => (p80h q hq).trans (fh q hq)⟩⟩
              · refine k_c1 27 rfl rfl (if_neg b123) ?_
                have b123 := mt iv_eq0.mpr b123
                refine k_push 28 rfl rfl ?_
                refine k_fin rfl (fin_Z (Or.inl rfl)) ⟨_, _, rfl, rf_len I79 I79, ?_⟩
                show am_Ok _ _ _ (58, _, [.inl (0 : Int32)], _, 0, 0) _
                refine k_c1 61 rfl rfl (if_pos (by decide)) ?_
                refine k_push 62 rfl rfl ?_
                exact k_fin rfl (fin_Z (Or.inl rfl)) ⟨_, _, _, _, rfl, I79, (fr1.tr (by decide) (fr1.tr (by decide) (fr1.up (by decide) (fr1.up (by decide) fr1.rf)) k48) k81), (fr2.tr (by decide) (fr2.tr (by decide) fr2.rf k49) k82), ⟨p80c, p80d, p80g.trans fg, fun q hq => (p80h q hq).trans (fh q hq)⟩⟩
      · refine k_c1 27 rfl rfl (if_neg b41) ?_
        have b41 := mt iv_eq0.mpr b41
        refine k_push 28 rfl rfl ?_
        refine k_fin rfl (fin_Z (Or.inl rfl)) ⟨_, _, rfl, rf_len I30 I38, ?_⟩
        show am_Ok _ _ _ (29, _, [.inl (0 : Int32)], _, 0, 0) _
        refine k_c1 61 rfl rfl (if_pos (by decide)) ?_
        refine k_push 62 rfl rfl ?_
        exact k_fin rfl (fin_Z (Or.inl rfl)) ⟨_, _, _, _, rfl, I38, (fr1.up (by decide) (fr1.up (by decide) fr1.rf)), fr2.rf, ⟨p5, p6, rfl, fun q _ => rfl⟩⟩
    · refine k_c1 16 rfl rfl (if_neg b36) ?_
      have b36 := mt iv_eq0.mpr b36
      refine k_aload 17 rfl rfl rfl ?_
      refine r_gI I30 20 rfl rfl rfl (fun x129 (e130 : x129.toInt = (0 : Int32).toInt) => ?_)
      by_cases b131 : x129 = 0
      · refine k_c1 23 rfl rfl (if_pos b131) ?_
        have b131 := iv_eq0.mp b131
        refine k_push 24 rfl rfl ?_
        refine k_goto 28 rfl rfl ?_
        refine k_fin rfl (fin_Z (Or.inr rfl)) ⟨_, _, rfl, rf_len I30 I30, ?_⟩
        show am_Ok _ _ _ (29, _, [.inl (1 : Int32)], _, 0, 0) _
        refine k_c1 32 rfl rfl (if_neg (by decide)) ?_
        refine k_aload 33 rfl rfl rfl ?_
        refine k_aload 34 rfl rfl rfl ?_
        refine k_iload 35 rfl rfl rfl ?_
        refine k_rq I30 rfl (m_isTerm (lm := lm) (gT := gT) (gt := gt) I30.1 (show nn ((A0 24)) ((A0 25)) ((F0 28)) (gT) from p1) (show nw ((A0 24)) ((A0 25)) ((A0 26)) (lm) ((F0 28)) from p2) (show wr A0 from p5) (show wq A0 from p6) (show (A0 2) 2 = (gt) ∧ 1 ≤ (gt) ∧ (gt) ≤ 120 from p7) (show wf ((A0 1)) 2600 (gt) from p8) (show cb ((A0 1)) 2600 (gt) 200 from p9) (show 0 ≤ w1.toInt ∧ w1.toInt ≤ 2 by omega)) rfl rfl rfl I30.rc ?_
        rintro x132 h133 F134 A135 I136 ⟨k138, k139, p137⟩
        replace p137 : (x132.toInt = 0 ∨ x132.toInt = 1) ∧ (x132.toInt = 1 → ∃ n' : Nat, n' ≤ 1000 ∧ A135 2 w1.toInt = n' ∧ wf (A135 1) (1300 * w1.toInt) n') ∧ wr A135 ∧ wq A135 ∧ (∀ q : Int, q ≠ w1.toInt → A135 2 q = (A0 2) q) ∧ (∀ q : Int, (0 ≤ q ∧ q < 1300 * w1.toInt) ∨ 1300 * w1.toInt + 1300 ≤ q → A135 1 q = (A0 1) q) ∧ A135 2 2 = (A0 2) 2 ∧ (∀ q : Int, 2600 ≤ q → A135 1 q = (A0 1) q) := p137
        obtain ⟨p137a, p137b, p137c, p137d, p137e, p137f, p137g, p137h⟩ := p137
        have z140 := iv_01 (x := x132) p137a
        show am_Ok _ _ _ (38, _, [.inl x132, .inr (.inr (some 81))], _, 0, 0) _
        by_cases b141 : x132 = 0
        · refine k_c1 53 rfl rfl (if_pos b141) ?_
          have b141 := iv_eq0.mp b141
          refine k_push 54 rfl rfl ?_
          refine k_push 55 rfl rfl ?_
          refine k_in (d := 0) rfl rfl rfl rfl I136.rc ?_
          refine k_aload 1 rfl rfl rfl ?_
          refine r_gI I136 4 rfl rfl rfl (fun x142 (e143 : x142.toInt = F134 0) => ?_)
          have e144 : F134 0 = (0 : Int32).toInt := k138 0 (by decide)
          by_cases b145 : x142 = 0
          · refine k_c1 7 rfl rfl (if_pos b145) ?_
            have b145 := iv_eq0.mp b145
            refine k_iload 8 rfl rfl rfl ?_
            refine k_c1 11 rfl rfl (if_pos (by decide)) ?_
            refine k_aload 12 rfl rfl rfl ?_
            refine k_iload 13 rfl rfl rfl ?_
            refine r_pI I136 16 rfl rfl rfl (fun h146 I147 => ?_)
            refine k_aload 17 rfl rfl rfl ?_
            refine r_gI I147 20 rfl rfl rfl (fun x148 (e149 : x148.toInt = (2 : Int32).toInt) => ?_)
            by_cases b150 : x148 = 0
            · refine k_c1 23 rfl rfl (if_pos b150) ?_
              have b150 := iv_eq0.mp b150
              refine k_push 24 rfl rfl ?_
              refine k_goto 28 rfl rfl ?_
              refine k_fin rfl (fin_Z (Or.inr rfl)) ⟨_, _, rfl, rf_len I136 I147, ?_⟩
              show am_Ok _ _ _ (58, _, [.inl (1 : Int32)], _, 0, 0) _
              refine k_c1 63 rfl rfl (if_neg (by decide)) ?_
              have hbd : (A135 2) w1.toInt ≤ 1000 := by clear p137b; omega
              clear p137b
              refine k_aload 64 rfl rfl rfl ?_
              refine r_gA I147 67 rfl rfl rfl ?_
              refine k_iload 68 rfl rfl rfl ?_
              refine r_ld 2 I147 69 rfl rfl (by omega) (show w1.toInt < 3 by omega) rfl (fun x151 (e152 : x151.toInt = A135 2 w1.toInt) => ?_)
              refine k_aload 70 rfl rfl rfl ?_
              refine r_gA I147 73 rfl rfl rfl ?_
              refine k_iload 74 rfl rfl rfl ?_
              refine r_ld 2 I147 75 rfl rfl (by omega) (show w2.toInt < 3 by omega) rfl (fun x153 (e154 : x153.toInt = A135 2 w2.toInt) => ?_)
              by_cases b155 : x151 = x153
              · refine k_c2 80 rfl rfl (if_pos b155) ?_
                have b155 := iv_eq.mp b155
                refine k_push 81 rfl rfl ?_
                refine k_istore 82 rfl rfl ?_
                exact b_X10_same_82 (lm := lm) (gT := gT) (gt := gt) (w1 := w1) (w2 := w2) p1 p2 p5 p6 p7 p8 p9 _  rfl (gs_ne rfl rfl rfl) (gs_ne rfl rfl rfl) (gs_ne rfl rfl rfl) gs_eq I147 (fr1.up (by decide) (fr1.tr (by decide) (fr1.up (by decide) fr1.rf) k138)) (fr2.tr (by decide) fr2.rf k139) (show 0 ≤ w1.toInt ∧ w1.toInt ≤ 2 ∧ 0 ≤ w2.toInt ∧ w2.toInt ≤ 2 by omega) (show (A135 2) w1.toInt ≤ 1000 by omega) (show 0 ≤ (0 : Int32).toInt ∧ (0 : Int32).toInt ≤ 1000 by omega) (show wr A135 from p137c) (show wq A135 from p137d) (show (A135 2) 2 = A0 2 2 from p137g) (show ∀ q : Int, 2600 ≤ q → (A135 1) q = A0 1 q from p137h)
              · refine k_c2 78 rfl rfl (if_neg b155) ?_
                have b155 := mt iv_eq.mpr b155
                refine k_push 79 rfl rfl ?_
                exact k_fin rfl (fin_Z (Or.inl rfl)) ⟨_, _, _, _, rfl, I147, (fr1.up (by decide) (fr1.tr (by decide) (fr1.up (by decide) fr1.rf) k138)), (fr2.tr (by decide) fr2.rf k139), ⟨p137c, p137d, p137g, p137h⟩⟩
            · refine k_c1 27 rfl rfl (if_neg b150) ?_
              have b150 := mt iv_eq0.mpr b150
              refine k_push 28 rfl rfl ?_
              refine k_fin rfl (fin_Z (Or.inl rfl)) ⟨_, _, rfl, rf_len I136 I147, ?_⟩
              show am_Ok _ _ _ (58, _, [.inl (0 : Int32)], _, 0, 0) _
              refine k_c1 61 rfl rfl (if_pos (by decide)) ?_
              refine k_push 62 rfl rfl ?_
              exact k_fin rfl (fin_Z (Or.inl rfl)) ⟨_, _, _, _, rfl, I147, (fr1.up (by decide) (fr1.tr (by decide) (fr1.up (by decide) fr1.rf) k138)), (fr2.tr (by decide) fr2.rf k139), ⟨p137c, p137d, p137g, p137h⟩⟩
          · refine k_c1 16 rfl rfl (if_neg b145) ?_
            have b145 := mt iv_eq0.mpr b145
            refine k_aload 17 rfl rfl rfl ?_
            refine r_gI I136 20 rfl rfl rfl (fun x156 (e157 : x156.toInt = F134 0) => ?_)
            by_cases b158 : x156 = 0
            · refine k_c1 23 rfl rfl (if_pos b158) ?_
              have b158 := iv_eq0.mp b158
              refine k_push 24 rfl rfl ?_
              refine k_goto 28 rfl rfl ?_
              refine k_fin rfl (fin_Z (Or.inr rfl)) ⟨_, _, rfl, rf_len I136 I136, ?_⟩
              show am_Ok _ _ _ (58, _, [.inl (1 : Int32)], _, 0, 0) _
              refine k_c1 63 rfl rfl (if_neg (by decide)) ?_
              have hbd : (A135 2) w1.toInt ≤ 1000 := by clear p137b; omega
              clear p137b
              refine k_aload 64 rfl rfl rfl ?_
              refine r_gA I136 67 rfl rfl rfl ?_
              refine k_iload 68 rfl rfl rfl ?_
              refine r_ld 2 I136 69 rfl rfl (by omega) (show w1.toInt < 3 by omega) rfl (fun x159 (e160 : x159.toInt = A135 2 w1.toInt) => ?_)
              refine k_aload 70 rfl rfl rfl ?_
              refine r_gA I136 73 rfl rfl rfl ?_
              refine k_iload 74 rfl rfl rfl ?_
              refine r_ld 2 I136 75 rfl rfl (by omega) (show w2.toInt < 3 by omega) rfl (fun x161 (e162 : x161.toInt = A135 2 w2.toInt) => ?_)
              by_cases b163 : x159 = x161
              · refine k_c2 80 rfl rfl (if_pos b163) ?_
                have b163 := iv_eq.mp b163
                refine k_push 81 rfl rfl ?_
                refine k_istore 82 rfl rfl ?_
                exact b_X10_same_82 (lm := lm) (gT := gT) (gt := gt) (w1 := w1) (w2 := w2) p1 p2 p5 p6 p7 p8 p9 _  rfl (gs_ne rfl rfl rfl) (gs_ne rfl rfl rfl) (gs_ne rfl rfl rfl) gs_eq I136 (fr1.tr (by decide) (fr1.up (by decide) fr1.rf) k138) (fr2.tr (by decide) fr2.rf k139) (show 0 ≤ w1.toInt ∧ w1.toInt ≤ 2 ∧ 0 ≤ w2.toInt ∧ w2.toInt ≤ 2 by omega) (show (A135 2) w1.toInt ≤ 1000 by omega) (show 0 ≤ (0 : Int32).toInt ∧ (0 : Int32).toInt ≤ 1000 by omega) (show wr A135 from p137c) (show wq A135 from p137d) (show (A135 2) 2 = A0 2 2 from p137g) (show ∀ q : Int, 2600 ≤ q → (A135 1) q = A0 1 q from p137h)
              · refine k_c2 78 rfl rfl (if_neg b163) ?_
                have b163 := mt iv_eq.mpr b163
                refine k_push 79 rfl rfl ?_
                exact k_fin rfl (fin_Z (Or.inl rfl)) ⟨_, _, _, _, rfl, I136, (fr1.tr (by decide) (fr1.up (by decide) fr1.rf) k138), (fr2.tr (by decide) fr2.rf k139), ⟨p137c, p137d, p137g, p137h⟩⟩
            · refine k_c1 27 rfl rfl (if_neg b158) ?_
              have b158 := mt iv_eq0.mpr b158
              refine k_push 28 rfl rfl ?_
              refine k_fin rfl (fin_Z (Or.inl rfl)) ⟨_, _, rfl, rf_len I136 I136, ?_⟩
              show am_Ok _ _ _ (58, _, [.inl (0 : Int32)], _, 0, 0) _
              refine k_c1 61 rfl rfl (if_pos (by decide)) ?_
              refine k_push 62 rfl rfl ?_
              exact k_fin rfl (fin_Z (Or.inl rfl)) ⟨_, _, _, _, rfl, I136, (fr1.tr (by decide) (fr1.up (by decide) fr1.rf) k138), (fr2.tr (by decide) fr2.rf k139), ⟨p137c, p137d, p137g, p137h⟩⟩
        · refine k_c1 41 rfl rfl (if_neg b141) ?_
          have b141 := mt iv_eq0.mpr b141
          obtain ⟨gn, hn1, hn2, hn3⟩ := p137b (by clear p137b; omega)
          clear p137b
          have fc := p137c
          have fd := p137d
          have fg := p137g
          have fh := p137h
          refine k_aload 42 rfl rfl rfl ?_
          refine k_iload 43 rfl rfl rfl ?_
          have e164 : F134 28 = F0 28 := k138 28 (by decide)
          refine k_rq I136 rfl (m_isTerm (lm := lm) (gT := gT) (gt := gt) I136.1 (show nn ((A135 24)) ((A135 25)) ((F134 28)) (gT) by rw [(k139 24 (by decide)), (k139 25 (by decide)), k138 28 (by decide)]; exact p1) (show nw ((A135 24)) ((A135 25)) ((A135 26)) (lm) ((F134 28)) by rw [(k139 24 (by decide)), (k139 25 (by decide)), (k139 26 (by decide)), k138 28 (by decide)]; exact p2) (show wr A135 from fc) (show wq A135 from fd) (show (A135 2) 2 = (gt) ∧ 1 ≤ (gt) ∧ (gt) ≤ 120 from ⟨fg.trans p7.1, p7.2⟩) (show wf ((A135 1)) 2600 (gt) from wf_congr (fun q hq => (fh _ (by omega)).symm) p8) (show cb ((A135 1)) 2600 (gt) 200 from cb.congr p9 (fun q hq => (fh _ (by omega)).symm)) (show 0 ≤ w2.toInt ∧ w2.toInt ≤ 2 by omega)) rfl rfl rfl I136.rc ?_
          rintro x165 h166 F167 A168 I169 ⟨k171, k172, p170⟩
          replace p170 : (x165.toInt = 0 ∨ x165.toInt = 1) ∧ (x165.toInt = 1 → ∃ n' : Nat, n' ≤ 1000 ∧ A168 2 w2.toInt = n' ∧ wf (A168 1) (1300 * w2.toInt) n') ∧ wr A168 ∧ wq A168 ∧ (∀ q : Int, q ≠ w2.toInt → A168 2 q = (A135 2) q) ∧ (∀ q : Int, (0 ≤ q ∧ q < 1300 * w2.toInt) ∨ 1300 * w2.toInt + 1300 ≤ q → A168 1 q = (A135 1) q) ∧ A168 2 2 = (A135 2) 2 ∧ (∀ q : Int, 2600 ≤ q → A168 1 q = (A135 1) q) := p170
          obtain ⟨p170a, p170b, p170c, p170d, p170e, p170f, p170g, p170h⟩ := p170
          have z173 := iv_01 (x := x165) p170a
          show am_Ok _ _ _ (46, _, [.inl x165, .inr (.inr (some 81))], _, 0, 0) _
          by_cases b174 : x165 = 0
          · refine k_c1 53 rfl rfl (if_pos b174) ?_
            have b174 := iv_eq0.mp b174
            refine k_push 54 rfl rfl ?_
            refine k_push 55 rfl rfl ?_
            refine k_in (d := 0) rfl rfl rfl rfl I169.rc ?_
            refine k_aload 1 rfl rfl rfl ?_
            refine r_gI I169 4 rfl rfl rfl (fun x175 (e176 : x175.toInt = F167 0) => ?_)
            have e177 : F167 0 = F134 0 := k171 0 (by decide)
            have e178 : F134 0 = (0 : Int32).toInt := k138 0 (by decide)
            by_cases b179 : x175 = 0
            · refine k_c1 7 rfl rfl (if_pos b179) ?_
              have b179 := iv_eq0.mp b179
              refine k_iload 8 rfl rfl rfl ?_
              refine k_c1 11 rfl rfl (if_pos (by decide)) ?_
              refine k_aload 12 rfl rfl rfl ?_
              refine k_iload 13 rfl rfl rfl ?_
              refine r_pI I169 16 rfl rfl rfl (fun h180 I181 => ?_)
              refine k_aload 17 rfl rfl rfl ?_
              refine r_gI I181 20 rfl rfl rfl (fun x182 (e183 : x182.toInt = (2 : Int32).toInt) => ?_)
              by_cases b184 : x182 = 0
              · refine k_c1 23 rfl rfl (if_pos b184) ?_
                have b184 := iv_eq0.mp b184
                refine k_push 24 rfl rfl ?_
                refine k_goto 28 rfl rfl ?_
                refine k_fin rfl (fin_Z (Or.inr rfl)) ⟨_, _, rfl, rf_len I169 I181, ?_⟩
                show am_Ok _ _ _ (58, _, [.inl (1 : Int32)], _, 0, 0) _
                refine k_c1 63 rfl rfl (if_neg (by decide)) ?_
                have hbd : (A168 2) w1.toInt ≤ 1000 := sm_bd p170e hn2 hn1 (p170b (by clear p170b; omega))
                clear p170b
                refine k_aload 64 rfl rfl rfl ?_
                refine r_gA I181 67 rfl rfl rfl ?_
                refine k_iload 68 rfl rfl rfl ?_
                refine r_ld 2 I181 69 rfl rfl (by omega) (show w1.toInt < 3 by omega) rfl (fun x185 (e186 : x185.toInt = A168 2 w1.toInt) => ?_)
                refine k_aload 70 rfl rfl rfl ?_
                refine r_gA I181 73 rfl rfl rfl ?_
                refine k_iload 74 rfl rfl rfl ?_
                refine r_ld 2 I181 75 rfl rfl (by omega) (show w2.toInt < 3 by omega) rfl (fun x187 (e188 : x187.toInt = A168 2 w2.toInt) => ?_)
                by_cases b189 : x185 = x187
                · refine k_c2 80 rfl rfl (if_pos b189) ?_
                  have b189 := iv_eq.mp b189
                  refine k_push 81 rfl rfl ?_
                  refine k_istore 82 rfl rfl ?_
                  exact b_X10_same_82 (lm := lm) (gT := gT) (gt := gt) (w1 := w1) (w2 := w2) p1 p2 p5 p6 p7 p8 p9 _  rfl (gs_ne rfl rfl rfl) (gs_ne rfl rfl rfl) (gs_ne rfl rfl rfl) gs_eq I181 (fr1.up (by decide) (fr1.tr (by decide) (fr1.tr (by decide) (fr1.up (by decide) fr1.rf) k138) k171)) (fr2.tr (by decide) (fr2.tr (by decide) fr2.rf k139) k172) (show 0 ≤ w1.toInt ∧ w1.toInt ≤ 2 ∧ 0 ≤ w2.toInt ∧ w2.toInt ≤ 2 by omega) (show (A168 2) w1.toInt ≤ 1000 by omega) (show 0 ≤ (0 : Int32).toInt ∧ (0 : Int32).toInt ≤ 1000 by omega) (show wr A168 from p170c) (show wq A168 from p170d) (show (A168 2) 2 = A0 2 2 from p170g.trans fg) (show ∀ q : Int, 2600 ≤ q → (A168 1) q = A0 1 q from fun q hq => (p170h q hq).trans (fh q hq))
                · refine k_c2 78 rfl rfl (if_neg b189) ?_
                  have b189 := mt iv_eq.mpr b189
                  refine k_push 79 rfl rfl ?_
                  exact k_fin rfl (fin_Z (Or.inl rfl)) ⟨_, _, _, _, rfl, I181, (fr1.up (by decide) (fr1.tr (by decide) (fr1.tr (by decide) (fr1.up (by decide) fr1.rf) k138) k171)), (fr2.tr (by decide) (fr2.tr (by decide) fr2.rf k139) k172), ⟨p170c, p170d, p170g.trans fg, fun q hq => (p170h q hq).trans (fh q hq)⟩⟩
              · refine k_c1 27 rfl rfl (if_neg b184) ?_
                have b184 := mt iv_eq0.mpr b184
                refine k_push 28 rfl rfl ?_
                refine k_fin rfl (fin_Z (Or.inl rfl)) ⟨_, _, rfl, rf_len I169 I181, ?_⟩
                show am_Ok _ _ _ (58, _, [.inl (0 : Int32)], _, 0, 0) _
                refine k_c1 61 rfl rfl (if_pos (by decide)) ?_
                refine k_push 62 rfl rfl ?_
                exact k_fin rfl (fin_Z (Or.inl rfl)) ⟨_, _, _, _, rfl, I181, (fr1.up (by decide) (fr1.tr (by decide) (fr1.tr (by decide) (fr1.up (by decide) fr1.rf) k138) k171)), (fr2.tr (by decide) (fr2.tr (by decide) fr2.rf k139) k172), ⟨p170c, p170d, p170g.trans fg, fun q hq => (p170h q hq).trans (fh q hq)⟩⟩
            · refine k_c1 16 rfl rfl (if_neg b179) ?_
              have b179 := mt iv_eq0.mpr b179
              refine k_aload 17 rfl rfl rfl ?_
              refine r_gI I169 20 rfl rfl rfl (fun x190 (e191 : x190.toInt = F167 0) => ?_)
              by_cases b192 : x190 = 0
              · refine k_c1 23 rfl rfl (if_pos b192) ?_
                have b192 := iv_eq0.mp b192
                refine k_push 24 rfl rfl ?_
                refine k_goto 28 rfl rfl ?_
                refine k_fin rfl (fin_Z (Or.inr rfl)) ⟨_, _, rfl, rf_len I169 I169, ?_⟩
                show am_Ok _ _ _ (58, _, [.inl (1 : Int32)], _, 0, 0) _
                refine k_c1 63 rfl rfl (if_neg (by decide)) ?_
                have hbd : (A168 2) w1.toInt ≤ 1000 := sm_bd p170e hn2 hn1 (p170b (by clear p170b; omega))
                clear p170b
                refine k_aload 64 rfl rfl rfl ?_
                refine r_gA I169 67 rfl rfl rfl ?_
                refine k_iload 68 rfl rfl rfl ?_
                refine r_ld 2 I169 69 rfl rfl (by omega) (show w1.toInt < 3 by omega) rfl (fun x193 (e194 : x193.toInt = A168 2 w1.toInt) => ?_)
                refine k_aload 70 rfl rfl rfl ?_
                refine r_gA I169 73 rfl rfl rfl ?_
                refine k_iload 74 rfl rfl rfl ?_
                refine r_ld 2 I169 75 rfl rfl (by omega) (show w2.toInt < 3 by omega) rfl (fun x195 (e196 : x195.toInt = A168 2 w2.toInt) => ?_)
                by_cases b197 : x193 = x195
                · refine k_c2 80 rfl rfl (if_pos b197) ?_
                  have b197 := iv_eq.mp b197
                  refine k_push 81 rfl rfl ?_
                  refine k_istore 82 rfl rfl ?_
                  exact b_X10_same_82 (lm := lm) (gT := gT) (gt := gt) (w1 := w1) (w2 := w2) p1 p2 p5 p6 p7 p8 p9 _  rfl (gs_ne rfl rfl rfl) (gs_ne rfl rfl rfl) (gs_ne rfl rfl rfl) gs_eq I169 (fr1.tr (by decide) (fr1.tr (by decide) (fr1.up (by decide) fr1.rf) k138) k171) (fr2.tr (by decide) (fr2.tr (by decide) fr2.rf k139) k172) (show 0 ≤ w1.toInt ∧ w1.toInt ≤ 2 ∧ 0 ≤ w2.toInt ∧ w2.toInt ≤ 2 by omega) (show (A168 2) w1.toInt ≤ 1000 by omega) (show 0 ≤ (0 : Int32).toInt ∧ (0 : Int32).toInt ≤ 1000 by omega) (show wr A168 from p170c) (show wq A168 from p170d) (show (A168 2) 2 = A0 2 2 from p170g.trans fg) (show ∀ q : Int, 2600 ≤ q → (A168 1) q = A0 1 q from fun q hq => (p170h q hq).trans (fh q hq))
                · refine k_c2 78 rfl rfl (if_neg b197) ?_
                  have b197 := mt iv_eq.mpr b197
                  refine k_push 79 rfl rfl ?_
                  exact k_fin rfl (fin_Z (Or.inl rfl)) ⟨_, _, _, _, rfl, I169, (fr1.tr (by decide) (fr1.tr (by decide) (fr1.up (by decide) fr1.rf) k138) k171), (fr2.tr (by decide) (fr2.tr (by decide) fr2.rf k139) k172), ⟨p170c, p170d, p170g.trans fg, fun q hq => (p170h q hq).trans (fh q hq)⟩⟩
              · refine k_c1 27 rfl rfl (if_neg b192) ?_
                have b192 := mt iv_eq0.mpr b192
                refine k_push 28 rfl rfl ?_
                refine k_fin rfl (fin_Z (Or.inl rfl)) ⟨_, _, rfl, rf_len I169 I169, ?_⟩
                show am_Ok _ _ _ (58, _, [.inl (0 : Int32)], _, 0, 0) _
                refine k_c1 61 rfl rfl (if_pos (by decide)) ?_
                refine k_push 62 rfl rfl ?_
                exact k_fin rfl (fin_Z (Or.inl rfl)) ⟨_, _, _, _, rfl, I169, (fr1.tr (by decide) (fr1.tr (by decide) (fr1.up (by decide) fr1.rf) k138) k171), (fr2.tr (by decide) (fr2.tr (by decide) fr2.rf k139) k172), ⟨p170c, p170d, p170g.trans fg, fun q hq => (p170h q hq).trans (fh q hq)⟩⟩
          · refine k_c1 49 rfl rfl (if_neg b174) ?_
            have b174 := mt iv_eq0.mpr b174
            refine k_push 50 rfl rfl ?_
            refine k_goto 54 rfl rfl ?_
            refine k_push 55 rfl rfl ?_
            refine k_in (d := 0) rfl rfl rfl rfl I169.rc ?_
            refine k_aload 1 rfl rfl rfl ?_
            refine r_gI I169 4 rfl rfl rfl (fun x198 (e199 : x198.toInt = F167 0) => ?_)
            have e200 : F167 0 = F134 0 := k171 0 (by decide)
            have e201 : F134 0 = (0 : Int32).toInt := k138 0 (by decide)
            by_cases b202 : x198 = 0
            · refine k_c1 7 rfl rfl (if_pos b202) ?_
              have b202 := iv_eq0.mp b202
              refine k_iload 8 rfl rfl rfl ?_
              refine k_c1 16 rfl rfl (if_neg (by decide)) ?_
              refine k_aload 17 rfl rfl rfl ?_
              refine r_gI I169 20 rfl rfl rfl (fun x203 (e204 : x203.toInt = F167 0) => ?_)
              by_cases b205 : x203 = 0
              · refine k_c1 23 rfl rfl (if_pos b205) ?_
                have b205 := iv_eq0.mp b205
                refine k_push 24 rfl rfl ?_
                refine k_goto 28 rfl rfl ?_
                refine k_fin rfl (fin_Z (Or.inr rfl)) ⟨_, _, rfl, rf_len I169 I169, ?_⟩
                show am_Ok _ _ _ (58, _, [.inl (1 : Int32)], _, 0, 0) _
                refine k_c1 63 rfl rfl (if_neg (by decide)) ?_
                have hbd : (A168 2) w1.toInt ≤ 1000 := sm_bd p170e hn2 hn1 (p170b (by clear p170b; omega))
                clear p170b
                refine k_aload 64 rfl rfl rfl ?_
                refine r_gA I169 67 rfl rfl rfl ?_
                refine k_iload 68 rfl rfl rfl ?_
                refine r_ld 2 I169 69 rfl rfl (by omega) (show w1.toInt < 3 by omega) rfl (fun x206 (e207 : x206.toInt = A168 2 w1.toInt) => ?_)
                refine k_aload 70 rfl rfl rfl ?_
                refine r_gA I169 73 rfl rfl rfl ?_
                refine k_iload 74 rfl rfl rfl ?_
                refine r_ld 2 I169 75 rfl rfl (by omega) (show w2.toInt < 3 by omega) rfl (fun x208 (e209 : x208.toInt = A168 2 w2.toInt) => ?_)
                by_cases b210 : x206 = x208
                · refine k_c2 80 rfl rfl (if_pos b210) ?_
                  have b210 := iv_eq.mp b210
                  refine k_push 81 rfl rfl ?_
                  refine k_istore 82 rfl rfl ?_
                  exact b_X10_same_82 (lm := lm) (gT := gT) (gt := gt) (w1 := w1) (w2 := w2) p1 p2 p5 p6 p7 p8 p9 _  rfl (gs_ne rfl rfl rfl) (gs_ne rfl rfl rfl) (gs_ne rfl rfl rfl) gs_eq I169 (fr1.tr (by decide) (fr1.tr (by decide) (fr1.up (by decide) fr1.rf) k138) k171) (fr2.tr (by decide) (fr2.tr (by decide) fr2.rf k139) k172) (show 0 ≤ w1.toInt ∧ w1.toInt ≤ 2 ∧ 0 ≤ w2.toInt ∧ w2.toInt ≤ 2 by omega) (show (A168 2) w1.toInt ≤ 1000 by omega) (show 0 ≤ (0 : Int32).toInt ∧ (0 : Int32).toInt ≤ 1000 by omega) (show wr A168 from p170c) (show wq A168 from p170d) (show (A168 2) 2 = A0 2 2 from p170g.trans fg) (show ∀ q : Int, 2600 ≤ q → (A168 1) q = A0 1 q from fun q hq => (p170h q hq).trans (fh q hq))
                · refine k_c2 78 rfl rfl (if_neg b210) ?_
                  have b210 := mt iv_eq.mpr b210
                  refine k_push 79 rfl rfl ?_
                  exact k_fin rfl (fin_Z (Or.inl rfl)) ⟨_, _, _, _, rfl, I169, (fr1.tr (by decide) (fr1.tr (by decide) (fr1.up (by decide) fr1.rf) k138) k171), (fr2.tr (by decide) (fr2.tr (by decide) fr2.rf k139) k172), ⟨p170c, p170d, p170g.trans fg, fun q hq => (p170h q hq).trans (fh q hq)⟩⟩
              · refine k_c1 27 rfl rfl (if_neg b205) ?_
                have b205 := mt iv_eq0.mpr b205
                refine k_push 28 rfl rfl ?_
                refine k_fin rfl (fin_Z (Or.inl rfl)) ⟨_, _, rfl, rf_len I169 I169, ?_⟩
                show am_Ok _ _ _ (58, _, [.inl (0 : Int32)], _, 0, 0) _
                refine k_c1 61 rfl rfl (if_pos (by decide)) ?_
                refine k_push 62 rfl rfl ?_
                exact k_fin rfl (fin_Z (Or.inl rfl)) ⟨_, _, _, _, rfl, I169, (fr1.tr (by decide) (fr1.tr (by decide) (fr1.up (by decide) fr1.rf) k138) k171), (fr2.tr (by decide) (fr2.tr (by decide) fr2.rf k139) k172), ⟨p170c, p170d, p170g.trans fg, fun q hq => (p170h q hq).trans (fh q hq)⟩⟩
            · refine k_c1 16 rfl rfl (if_neg b202) ?_
              have b202 := mt iv_eq0.mpr b202
              refine k_aload 17 rfl rfl rfl ?_
              refine r_gI I169 20 rfl rfl rfl (fun x211 (e212 : x211.toInt = F167 0) => ?_)
              by_cases b213 : x211 = 0
              · refine k_c1 23 rfl rfl (if_pos b213) ?_
                have b213 := iv_eq0.mp b213
                refine k_push 24 rfl rfl ?_
                refine k_goto 28 rfl rfl ?_
                refine k_fin rfl (fin_Z (Or.inr rfl)) ⟨_, _, rfl, rf_len I169 I169, ?_⟩
                show am_Ok _ _ _ (58, _, [.inl (1 : Int32)], _, 0, 0) _
                refine k_c1 63 rfl rfl (if_neg (by decide)) ?_
                have hbd : (A168 2) w1.toInt ≤ 1000 := sm_bd p170e hn2 hn1 (p170b (by clear p170b; omega))
                clear p170b
                refine k_aload 64 rfl rfl rfl ?_
                refine r_gA I169 67 rfl rfl rfl ?_
                refine k_iload 68 rfl rfl rfl ?_
                refine r_ld 2 I169 69 rfl rfl (by omega) (show w1.toInt < 3 by omega) rfl (fun x214 (e215 : x214.toInt = A168 2 w1.toInt) => ?_)
                refine k_aload 70 rfl rfl rfl ?_
                refine r_gA I169 73 rfl rfl rfl ?_
                refine k_iload 74 rfl rfl rfl ?_
                refine r_ld 2 I169 75 rfl rfl (by omega) (show w2.toInt < 3 by omega) rfl (fun x216 (e217 : x216.toInt = A168 2 w2.toInt) => ?_)
                by_cases b218 : x214 = x216
                · refine k_c2 80 rfl rfl (if_pos b218) ?_
                  have b218 := iv_eq.mp b218
                  refine k_push 81 rfl rfl ?_
                  refine k_istore 82 rfl rfl ?_
                  exact b_X10_same_82 (lm := lm) (gT := gT) (gt := gt) (w1 := w1) (w2 := w2) p1 p2 p5 p6 p7 p8 p9 _  rfl (gs_ne rfl rfl rfl) (gs_ne rfl rfl rfl) (gs_ne rfl rfl rfl) gs_eq I169 (fr1.tr (by decide) (fr1.tr (by decide) (fr1.up (by decide) fr1.rf) k138) k171) (fr2.tr (by decide) (fr2.tr (by decide) fr2.rf k139) k172) (show 0 ≤ w1.toInt ∧ w1.toInt ≤ 2 ∧ 0 ≤ w2.toInt ∧ w2.toInt ≤ 2 by omega) (show (A168 2) w1.toInt ≤ 1000 by omega) (show 0 ≤ (0 : Int32).toInt ∧ (0 : Int32).toInt ≤ 1000 by omega) (show wr A168 from p170c) (show wq A168 from p170d) (show (A168 2) 2 = A0 2 2 from p170g.trans fg) (show ∀ q : Int, 2600 ≤ q → (A168 1) q = A0 1 q from fun q hq => (p170h q hq).trans (fh q hq))
                · refine k_c2 78 rfl rfl (if_neg b218) ?_
                  have b218 := mt iv_eq.mpr b218
                  refine k_push 79 rfl rfl ?_
                  exact k_fin rfl (fin_Z (Or.inl rfl)) ⟨_, _, _, _, rfl, I169, (fr1.tr (by decide) (fr1.tr (by decide) (fr1.up (by decide) fr1.rf) k138) k171), (fr2.tr (by decide) (fr2.tr (by decide) fr2.rf k139) k172), ⟨p170c, p170d, p170g.trans fg, fun q hq => (p170h q hq).trans (fh q hq)⟩⟩
              · refine k_c1 27 rfl rfl (if_neg b213) ?_
                have b213 := mt iv_eq0.mpr b213
                refine k_push 28 rfl rfl ?_
                refine k_fin rfl (fin_Z (Or.inl rfl)) ⟨_, _, rfl, rf_len I169 I169, ?_⟩
                show am_Ok _ _ _ (58, _, [.inl (0 : Int32)], _, 0, 0) _
                refine k_c1 61 rfl rfl (if_pos (by decide)) ?_
                refine k_push 62 rfl rfl ?_
                exact k_fin rfl (fin_Z (Or.inl rfl)) ⟨_, _, _, _, rfl, I169, (fr1.tr (by decide) (fr1.tr (by decide) (fr1.up (by decide) fr1.rf) k138) k171), (fr2.tr (by decide) (fr2.tr (by decide) fr2.rf k139) k172), ⟨p170c, p170d, p170g.trans fg, fun q hq => (p170h q hq).trans (fh q hq)⟩⟩
      · refine k_c1 27 rfl rfl (if_neg b131) ?_
        have b131 := mt iv_eq0.mpr b131
        refine k_push 28 rfl rfl ?_
        refine k_fin rfl (fin_Z (Or.inl rfl)) ⟨_, _, rfl, rf_len I30 I30, ?_⟩
        show am_Ok _ _ _ (29, _, [.inl (0 : Int32)], _, 0, 0) _
        refine k_c1 61 rfl rfl (if_pos (by decide)) ?_
        refine k_push 62 rfl rfl ?_
        exact k_fin rfl (fin_Z (Or.inl rfl)) ⟨_, _, _, _, rfl, I30, (fr1.up (by decide) fr1.rf), fr2.rf, ⟨p5, p6, rfl, fun q _ => rfl⟩⟩
  · refine k_c2 5 rfl rfl (if_neg b32) ?_
    have b32 := mt iv_lt.mpr b32
    refine k_iload 6 rfl rfl rfl ?_
    refine k_iload 7 rfl rfl rfl ?_
    by_cases b219 : (2 : Int32) < w1
    · refine k_c2 14 rfl rfl (if_pos b219) ?_
      have b219 := iv_lt.mp b219
      refine k_push 15 rfl rfl ?_
      refine k_fin rfl (fin_Z (Or.inl rfl)) ⟨_, _, rfl, rf_len I30 I30, ?_⟩
      show am_Ok _ _ _ (6, _, [.inl (0 : Int32)], _, 0, 0) _
      refine k_fin rfl (fin_Z (Or.inl rfl)) ⟨_, _, rfl, rf_len I30 I30, ?_⟩
      show am_Ok _ _ _ (10, _, [.inl (0 : Int32), .inr (.inr (some 81))], _, 0, 0) _
      refine k_c1 24 rfl rfl (if_pos (by decide)) ?_
      refine k_push 25 rfl rfl ?_
      refine k_push 26 rfl rfl ?_
      have hc220 : (1 : Int32).toInt = 1 := by decide
      refine k_in (d := 0) rfl rfl rfl rfl I30.rc ?_
      refine k_aload 1 rfl rfl rfl ?_
      refine r_gI I30 4 rfl rfl rfl (fun x221 (e222 : x221.toInt = (0 : Int32).toInt) => ?_)
      by_cases b223 : x221 = 0
      · refine k_c1 7 rfl rfl (if_pos b223) ?_
        have b223 := iv_eq0.mp b223
        refine k_iload 8 rfl rfl rfl ?_
        refine k_c1 11 rfl rfl (if_pos (by decide)) ?_
        refine k_aload 12 rfl rfl rfl ?_
        refine k_iload 13 rfl rfl rfl ?_
        refine r_pI I30 16 rfl rfl rfl (fun h224 I225 => ?_)
        refine k_aload 17 rfl rfl rfl ?_
        refine r_gI I225 20 rfl rfl rfl (fun x226 (e227 : x226.toInt = (1 : Int32).toInt) => ?_)
        by_cases b228 : x226 = 0
        · refine k_c1 23 rfl rfl (if_pos b228) ?_
          have b228 := iv_eq0.mp b228
          refine k_push 24 rfl rfl ?_
          refine k_goto 28 rfl rfl ?_
          refine k_fin rfl (fin_Z (Or.inr rfl)) ⟨_, _, rfl, rf_len I30 I225, ?_⟩
          show am_Ok _ _ _ (29, _, [.inl (1 : Int32)], _, 0, 0) _
          refine k_c1 32 rfl rfl (if_neg (by decide)) ?_
          refine k_aload 33 rfl rfl rfl ?_
          refine k_aload 34 rfl rfl rfl ?_
          refine k_iload 35 rfl rfl rfl ?_
          refine k_rq I225 rfl (m_isTerm (lm := lm) (gT := gT) (gt := gt) I225.1 (show nn ((A0 24)) ((A0 25)) ((F0 28)) (gT) from p1) (show nw ((A0 24)) ((A0 25)) ((A0 26)) (lm) ((F0 28)) from p2) (show wr A0 from p5) (show wq A0 from p6) (show (A0 2) 2 = (gt) ∧ 1 ≤ (gt) ∧ (gt) ≤ 120 from p7) (show wf ((A0 1)) 2600 (gt) from p8) (show cb ((A0 1)) 2600 (gt) 200 from p9) (show 0 ≤ w1.toInt ∧ w1.toInt ≤ 2 by omega)) rfl rfl rfl I225.rc ?_
          rintro x229 h230 F231 A232 I233 ⟨k235, k236, p234⟩
          replace p234 : (x229.toInt = 0 ∨ x229.toInt = 1) ∧ (x229.toInt = 1 → ∃ n' : Nat, n' ≤ 1000 ∧ A232 2 w1.toInt = n' ∧ wf (A232 1) (1300 * w1.toInt) n') ∧ wr A232 ∧ wq A232 ∧ (∀ q : Int, q ≠ w1.toInt → A232 2 q = (A0 2) q) ∧ (∀ q : Int, (0 ≤ q ∧ q < 1300 * w1.toInt) ∨ 1300 * w1.toInt + 1300 ≤ q → A232 1 q = (A0 1) q) ∧ A232 2 2 = (A0 2) 2 ∧ (∀ q : Int, 2600 ≤ q → A232 1 q = (A0 1) q) := p234
          obtain ⟨p234a, p234b, p234c, p234d, p234e, p234f, p234g, p234h⟩ := p234
          have z237 := iv_01 (x := x229) p234a
          show am_Ok _ _ _ (38, _, [.inl x229, .inr (.inr (some 81))], _, 0, 0) _
          by_cases b238 : x229 = 0
          · refine k_c1 53 rfl rfl (if_pos b238) ?_
            have b238 := iv_eq0.mp b238
            refine k_push 54 rfl rfl ?_
            refine k_push 55 rfl rfl ?_
            refine k_in (d := 0) rfl rfl rfl rfl I233.rc ?_
            refine k_aload 1 rfl rfl rfl ?_
            refine r_gI I233 4 rfl rfl rfl (fun x239 (e240 : x239.toInt = F231 0) => ?_)
            have e241 : F231 0 = (1 : Int32).toInt := k235 0 (by decide)
            by_cases b242 : x239 = 0
            · refine k_c1 7 rfl rfl (if_pos b242) ?_
              have b242 := iv_eq0.mp b242
              refine k_iload 8 rfl rfl rfl ?_
              refine k_c1 11 rfl rfl (if_pos (by decide)) ?_
              refine k_aload 12 rfl rfl rfl ?_
              refine k_iload 13 rfl rfl rfl ?_
              refine r_pI I233 16 rfl rfl rfl (fun h243 I244 => ?_)
              refine k_aload 17 rfl rfl rfl ?_
              refine r_gI I244 20 rfl rfl rfl (fun x245 (e246 : x245.toInt = (2 : Int32).toInt) => ?_)
              by_cases b247 : x245 = 0
              · refine k_c1 23 rfl rfl (if_pos b247) ?_
                have b247 := iv_eq0.mp b247
                refine k_push 24 rfl rfl ?_
                refine k_goto 28 rfl rfl ?_
                refine k_fin rfl (fin_Z (Or.inr rfl)) ⟨_, _, rfl, rf_len I233 I244, ?_⟩
                show am_Ok _ _ _ (58, _, [.inl (1 : Int32)], _, 0, 0) _
                refine k_c1 63 rfl rfl (if_neg (by decide)) ?_
                have hbd : (A232 2) w1.toInt ≤ 1000 := by clear p234b; omega
                clear p234b
                refine k_aload 64 rfl rfl rfl ?_
                refine r_gA I244 67 rfl rfl rfl ?_
                refine k_iload 68 rfl rfl rfl ?_
                refine r_ld 2 I244 69 rfl rfl (by omega) (show w1.toInt < 3 by omega) rfl (fun x248 (e249 : x248.toInt = A232 2 w1.toInt) => ?_)
                refine k_aload 70 rfl rfl rfl ?_
                refine r_gA I244 73 rfl rfl rfl ?_
                refine k_iload 74 rfl rfl rfl ?_
                refine r_ld 2 I244 75 rfl rfl (by omega) (show w2.toInt < 3 by omega) rfl (fun x250 (e251 : x250.toInt = A232 2 w2.toInt) => ?_)
                by_cases b252 : x248 = x250
                · refine k_c2 80 rfl rfl (if_pos b252) ?_
                  have b252 := iv_eq.mp b252
                  refine k_push 81 rfl rfl ?_
                  refine k_istore 82 rfl rfl ?_
                  exact b_X10_same_82 (lm := lm) (gT := gT) (gt := gt) (w1 := w1) (w2 := w2) p1 p2 p5 p6 p7 p8 p9 _  rfl (gs_ne rfl rfl rfl) (gs_ne rfl rfl rfl) (gs_ne rfl rfl rfl) gs_eq I244 (fr1.up (by decide) (fr1.tr (by decide) (fr1.up (by decide) (fr1.up (by decide) fr1.rf)) k235)) (fr2.tr (by decide) fr2.rf k236) (show 0 ≤ w1.toInt ∧ w1.toInt ≤ 2 ∧ 0 ≤ w2.toInt ∧ w2.toInt ≤ 2 by omega) (show (A232 2) w1.toInt ≤ 1000 by omega) (show 0 ≤ (0 : Int32).toInt ∧ (0 : Int32).toInt ≤ 1000 by omega) (show wr A232 from p234c) (show wq A232 from p234d) (show (A232 2) 2 = A0 2 2 from p234g) (show ∀ q : Int, 2600 ≤ q → (A232 1) q = A0 1 q from p234h)
                · refine k_c2 78 rfl rfl (if_neg b252) ?_
                  have b252 := mt iv_eq.mpr b252
                  refine k_push 79 rfl rfl ?_
                  exact k_fin rfl (fin_Z (Or.inl rfl)) ⟨_, _, _, _, rfl, I244, (fr1.up (by decide) (fr1.tr (by decide) (fr1.up (by decide) (fr1.up (by decide) fr1.rf)) k235)), (fr2.tr (by decide) fr2.rf k236), ⟨p234c, p234d, p234g, p234h⟩⟩
              · refine k_c1 27 rfl rfl (if_neg b247) ?_
                have b247 := mt iv_eq0.mpr b247
                refine k_push 28 rfl rfl ?_
                refine k_fin rfl (fin_Z (Or.inl rfl)) ⟨_, _, rfl, rf_len I233 I244, ?_⟩
                show am_Ok _ _ _ (58, _, [.inl (0 : Int32)], _, 0, 0) _
                refine k_c1 61 rfl rfl (if_pos (by decide)) ?_
                refine k_push 62 rfl rfl ?_
                exact k_fin rfl (fin_Z (Or.inl rfl)) ⟨_, _, _, _, rfl, I244, (fr1.up (by decide) (fr1.tr (by decide) (fr1.up (by decide) (fr1.up (by decide) fr1.rf)) k235)), (fr2.tr (by decide) fr2.rf k236), ⟨p234c, p234d, p234g, p234h⟩⟩
            · refine k_c1 16 rfl rfl (if_neg b242) ?_
              have b242 := mt iv_eq0.mpr b242
              refine k_aload 17 rfl rfl rfl ?_
              refine r_gI I233 20 rfl rfl rfl (fun x253 (e254 : x253.toInt = F231 0) => ?_)
              by_cases b255 : x253 = 0
              · refine k_c1 23 rfl rfl (if_pos b255) ?_
                have b255 := iv_eq0.mp b255
                refine k_push 24 rfl rfl ?_
                refine k_goto 28 rfl rfl ?_
                refine k_fin rfl (fin_Z (Or.inr rfl)) ⟨_, _, rfl, rf_len I233 I233, ?_⟩
                show am_Ok _ _ _ (58, _, [.inl (1 : Int32)], _, 0, 0) _
                refine k_c1 63 rfl rfl (if_neg (by decide)) ?_
                have hbd : (A232 2) w1.toInt ≤ 1000 := by clear p234b; omega
                clear p234b
                refine k_aload 64 rfl rfl rfl ?_
                refine r_gA I233 67 rfl rfl rfl ?_
                refine k_iload 68 rfl rfl rfl ?_
                refine r_ld 2 I233 69 rfl rfl (by omega) (show w1.toInt < 3 by omega) rfl (fun x256 (e257 : x256.toInt = A232 2 w1.toInt) => ?_)
                refine k_aload 70 rfl rfl rfl ?_
                refine r_gA I233 73 rfl rfl rfl ?_
                refine k_iload 74 rfl rfl rfl ?_
                refine r_ld 2 I233 75 rfl rfl (by omega) (show w2.toInt < 3 by omega) rfl (fun x258 (e259 : x258.toInt = A232 2 w2.toInt) => ?_)
                by_cases b260 : x256 = x258
                · refine k_c2 80 rfl rfl (if_pos b260) ?_
                  have b260 := iv_eq.mp b260
                  refine k_push 81 rfl rfl ?_
                  refine k_istore 82 rfl rfl ?_
                  exact b_X10_same_82 (lm := lm) (gT := gT) (gt := gt) (w1 := w1) (w2 := w2) p1 p2 p5 p6 p7 p8 p9 _  rfl (gs_ne rfl rfl rfl) (gs_ne rfl rfl rfl) (gs_ne rfl rfl rfl) gs_eq I233 (fr1.tr (by decide) (fr1.up (by decide) (fr1.up (by decide) fr1.rf)) k235) (fr2.tr (by decide) fr2.rf k236) (show 0 ≤ w1.toInt ∧ w1.toInt ≤ 2 ∧ 0 ≤ w2.toInt ∧ w2.toInt ≤ 2 by omega) (show (A232 2) w1.toInt ≤ 1000 by omega) (show 0 ≤ (0 : Int32).toInt ∧ (0 : Int32).toInt ≤ 1000 by omega) (show wr A232 from p234c) (show wq A232 from p234d) (show (A232 2) 2 = A0 2 2 from p234g) (show ∀ q : Int, 2600 ≤ q → (A232 1) q = A0 1 q from p234h)
                · refine k_c2 78 rfl rfl (if_neg b260) ?_
                  have b260 := mt iv_eq.mpr b260
                  refine k_push 79 rfl rfl ?_
                  exact k_fin rfl (fin_Z (Or.inl rfl)) ⟨_, _, _, _, rfl, I233, (fr1.tr (by decide) (fr1.up (by decide) (fr1.up (by decide) fr1.rf)) k235), (fr2.tr (by decide) fr2.rf k236), ⟨p234c, p234d, p234g, p234h⟩⟩
              · refine k_c1 27 rfl rfl (if_neg b255) ?_
                have b255 := mt iv_eq0.mpr b255
                refine k_push 28 rfl rfl ?_
                refine k_fin rfl (fin_Z (Or.inl rfl)) ⟨_, _, rfl, rf_len I233 I233, ?_⟩
                show am_Ok _ _ _ (58, _, [.inl (0 : Int32)], _, 0, 0) _
                refine k_c1 61 rfl rfl (if_pos (by decide)) ?_
                refine k_push 62 rfl rfl ?_
                exact k_fin rfl (fin_Z (Or.inl rfl)) ⟨_, _, _, _, rfl, I233, (fr1.tr (by decide) (fr1.up (by decide) (fr1.up (by decide) fr1.rf)) k235), (fr2.tr (by decide) fr2.rf k236), ⟨p234c, p234d, p234g, p234h⟩⟩
          · refine k_c1 41 rfl rfl (if_neg b238) ?_
            have b238 := mt iv_eq0.mpr b238
            obtain ⟨gn, hn1, hn2, hn3⟩ := p234b (by clear p234b; omega)
            clear p234b
            have fc := p234c
            have fd := p234d
            have fg := p234g
            have fh := p234h
            refine k_aload 42 rfl rfl rfl ?_
            refine k_iload 43 rfl rfl rfl ?_
            have e261 : F231 28 = F0 28 := k235 28 (by decide)
            refine k_rq I233 rfl (m_isTerm (lm := lm) (gT := gT) (gt := gt) I233.1 (show nn ((A232 24)) ((A232 25)) ((F231 28)) (gT) by rw [(k236 24 (by decide)), (k236 25 (by decide)), k235 28 (by decide)]; exact p1) (show nw ((A232 24)) ((A232 25)) ((A232 26)) (lm) ((F231 28)) by rw [(k236 24 (by decide)), (k236 25 (by decide)), (k236 26 (by decide)), k235 28 (by decide)]; exact p2) (show wr A232 from fc) (show wq A232 from fd) (show (A232 2) 2 = (gt) ∧ 1 ≤ (gt) ∧ (gt) ≤ 120 from ⟨fg.trans p7.1, p7.2⟩) (show wf ((A232 1)) 2600 (gt) from wf_congr (fun q hq => (fh _ (by omega)).symm) p8) (show cb ((A232 1)) 2600 (gt) 200 from cb.congr p9 (fun q hq => (fh _ (by omega)).symm)) (show 0 ≤ w2.toInt ∧ w2.toInt ≤ 2 by omega)) rfl rfl rfl I233.rc ?_
            rintro x262 h263 F264 A265 I266 ⟨k268, k269, p267⟩
            replace p267 : (x262.toInt = 0 ∨ x262.toInt = 1) ∧ (x262.toInt = 1 → ∃ n' : Nat, n' ≤ 1000 ∧ A265 2 w2.toInt = n' ∧ wf (A265 1) (1300 * w2.toInt) n') ∧ wr A265 ∧ wq A265 ∧ (∀ q : Int, q ≠ w2.toInt → A265 2 q = (A232 2) q) ∧ (∀ q : Int, (0 ≤ q ∧ q < 1300 * w2.toInt) ∨ 1300 * w2.toInt + 1300 ≤ q → A265 1 q = (A232 1) q) ∧ A265 2 2 = (A232 2) 2 ∧ (∀ q : Int, 2600 ≤ q → A265 1 q = (A232 1) q) := p267
            obtain ⟨p267a, p267b, p267c, p267d, p267e, p267f, p267g, p267h⟩ := p267
            have z270 := iv_01 (x := x262) p267a
            show am_Ok _ _ _ (46, _, [.inl x262, .inr (.inr (some 81))], _, 0, 0) _
            by_cases b271 : x262 = 0
            · refine k_c1 53 rfl rfl (if_pos b271) ?_
              have b271 := iv_eq0.mp b271
              refine k_push 54 rfl rfl ?_
              refine k_push 55 rfl rfl ?_
              refine k_in (d := 0) rfl rfl rfl rfl I266.rc ?_
              refine k_aload 1 rfl rfl rfl ?_
              refine r_gI I266 4 rfl rfl rfl (fun x272 (e273 : x272.toInt = F264 0) => ?_)
              have e274 : F264 0 = F231 0 := k268 0 (by decide)
              have e275 : F231 0 = (1 : Int32).toInt := k235 0 (by decide)
              by_cases b276 : x272 = 0
              · refine k_c1 7 rfl rfl (if_pos b276) ?_
                have b276 := iv_eq0.mp b276
                refine k_iload 8 rfl rfl rfl ?_
                refine k_c1 11 rfl rfl (if_pos (by decide)) ?_
                refine k_aload 12 rfl rfl rfl ?_
                refine k_iload 13 rfl rfl rfl ?_
                refine r_pI I266 16 rfl rfl rfl (fun h277 I278 => ?_)
                refine k_aload 17 rfl rfl rfl ?_
                refine r_gI I278 20 rfl rfl rfl (fun x279 (e280 : x279.toInt = (2 : Int32).toInt) => ?_)
                by_cases b281 : x279 = 0
                · refine k_c1 23 rfl rfl (if_pos b281) ?_
                  have b281 := iv_eq0.mp b281
                  refine k_push 24 rfl rfl ?_
                  refine k_goto 28 rfl rfl ?_
                  refine k_fin rfl (fin_Z (Or.inr rfl)) ⟨_, _, rfl, rf_len I266 I278, ?_⟩
                  show am_Ok _ _ _ (58, _, [.inl (1 : Int32)], _, 0, 0) _
                  refine k_c1 63 rfl rfl (if_neg (by decide)) ?_
                  have hbd : (A265 2) w1.toInt ≤ 1000 := sm_bd p267e hn2 hn1 (p267b (by clear p267b; omega))
                  clear p267b
                  refine k_aload 64 rfl rfl rfl ?_
                  refine r_gA I278 67 rfl rfl rfl ?_
                  refine k_iload 68 rfl rfl rfl ?_
                  refine r_ld 2 I278 69 rfl rfl (by omega) (show w1.toInt < 3 by omega) rfl (fun x282 (e283 : x282.toInt = A265 2 w1.toInt) => ?_)
                  refine k_aload 70 rfl rfl rfl ?_
                  refine r_gA I278 73 rfl rfl rfl ?_
                  refine k_iload 74 rfl rfl rfl ?_
                  refine r_ld 2 I278 75 rfl rfl (by omega) (show w2.toInt < 3 by omega) rfl (fun x284 (e285 : x284.toInt = A265 2 w2.toInt) => ?_)
                  by_cases b286 : x282 = x284
                  · refine k_c2 80 rfl rfl (if_pos b286) ?_
                    have b286 := iv_eq.mp b286
                    refine k_push 81 rfl rfl ?_
                    refine k_istore 82 rfl rfl ?_
                    exact b_X10_same_82 (lm := lm) (gT := gT) (gt := gt) (w1 := w1) (w2 := w2) p1 p2 p5 p6 p7 p8 p9 _  rfl (gs_ne rfl rfl rfl) (gs_ne rfl rfl rfl) (gs_ne rfl rfl rfl) gs_eq I278 (fr1.up (by decide) (fr1.tr (by decide) (fr1.tr (by decide) (fr1.up (by decide) (fr1.up (by decide) fr1.rf)) k235) k268)) (fr2.tr (by decide) (fr2.tr (by decide) fr2.rf k236) k269) (show 0 ≤ w1.toInt ∧ w1.toInt ≤ 2 ∧ 0 ≤ w2.toInt ∧ w2.toInt ≤ 2 by omega) (show (A265 2) w1.toInt ≤ 1000 by omega) (show 0 ≤ (0 : Int32).toInt ∧ (0 : Int32).toInt ≤ 1000 by omega) (show wr A265 from p267c) (show wq A265 from p267d) (show (A265 2) 2 = A0 2 2 from p267g.trans fg) (show ∀ q : Int, 2600 ≤ q → (A265 1) q = A0 1 q from fun q hq => (p267h q hq).trans (fh q hq))
                  · refine k_c2 78 rfl rfl (if_neg b286) ?_
                    have b286 := mt iv_eq.mpr b286
                    refine k_push 79 rfl rfl ?_
                    exact k_fin rfl (fin_Z (Or.inl rfl)) ⟨_, _, _, _, rfl, I278, (fr1.up (by decide) (fr1.tr (by decide) (fr1.tr (by decide) (fr1.up (by decide) (fr1.up (by decide) fr1.rf)) k235) k268)), (fr2.tr (by decide) (fr2.tr (by decide) fr2.rf k236) k269), ⟨p267c, p267d, p267g.trans fg, fun q hq => (p267h q hq).trans (fh q hq)⟩⟩
                · refine k_c1 27 rfl rfl (if_neg b281) ?_
                  have b281 := mt iv_eq0.mpr b281
                  refine k_push 28 rfl rfl ?_
                  refine k_fin rfl (fin_Z (Or.inl rfl)) ⟨_, _, rfl, rf_len I266 I278, ?_⟩
                  show am_Ok _ _ _ (58, _, [.inl (0 : Int32)], _, 0, 0) _
                  refine k_c1 61 rfl rfl (if_pos (by decide)) ?_
                  refine k_push 62 rfl rfl ?_
                  exact k_fin rfl (fin_Z (Or.inl rfl)) ⟨_, _, _, _, rfl, I278, (fr1.up (by decide) (fr1.tr (by decide) (fr1.tr (by decide) (fr1.up (by decide) (fr1.up (by decide) fr1.rf)) k235) k268)), (fr2.tr (by decide) (fr2.tr (by decide) fr2.rf k236) k269), ⟨p267c, p267d, p267g.trans fg, fun q hq => (p267h q hq).trans (fh q hq)⟩⟩
              · refine k_c1 16 rfl rfl (if_neg b276) ?_
                have b276 := mt iv_eq0.mpr b276
                refine k_aload 17 rfl rfl rfl ?_
                refine r_gI I266 20 rfl rfl rfl (fun x287 (e288 : x287.toInt = F264 0) => ?_)
                by_cases b289 : x287 = 0
                · refine k_c1 23 rfl rfl (if_pos b289) ?_
                  have b289 := iv_eq0.mp b289
                  refine k_push 24 rfl rfl ?_
                  refine k_goto 28 rfl rfl ?_
                  refine k_fin rfl (fin_Z (Or.inr rfl)) ⟨_, _, rfl, rf_len I266 I266, ?_⟩
                  show am_Ok _ _ _ (58, _, [.inl (1 : Int32)], _, 0, 0) _
                  refine k_c1 63 rfl rfl (if_neg (by decide)) ?_
                  have hbd : (A265 2) w1.toInt ≤ 1000 := sm_bd p267e hn2 hn1 (p267b (by clear p267b; omega))
                  clear p267b
                  refine k_aload 64 rfl rfl rfl ?_
                  refine r_gA I266 67 rfl rfl rfl ?_
                  refine k_iload 68 rfl rfl rfl ?_
                  refine r_ld 2 I266 69 rfl rfl (by omega) (show w1.toInt < 3 by omega) rfl (fun x290 (e291 : x290.toInt = A265 2 w1.toInt) => ?_)
                  refine k_aload 70 rfl rfl rfl ?_
                  refine r_gA I266 73 rfl rfl rfl ?_
                  refine k_iload 74 rfl rfl rfl ?_
                  refine r_ld 2 I266 75 rfl rfl (by omega) (show w2.toInt < 3 by omega) rfl (fun x292 (e293 : x292.toInt = A265 2 w2.toInt) => ?_)
                  by_cases b294 : x290 = x292
                  · refine k_c2 80 rfl rfl (if_pos b294) ?_
                    have b294 := iv_eq.mp b294
                    refine k_push 81 rfl rfl ?_
                    refine k_istore 82 rfl rfl ?_
                    exact b_X10_same_82 (lm := lm) (gT := gT) (gt := gt) (w1 := w1) (w2 := w2) p1 p2 p5 p6 p7 p8 p9 _  rfl (gs_ne rfl rfl rfl) (gs_ne rfl rfl rfl) (gs_ne rfl rfl rfl) gs_eq I266 (fr1.tr (by decide) (fr1.tr (by decide) (fr1.up (by decide) (fr1.up (by decide) fr1.rf)) k235) k268) (fr2.tr (by decide) (fr2.tr (by decide) fr2.rf k236) k269) (show 0 ≤ w1.toInt ∧ w1.toInt ≤ 2 ∧ 0 ≤ w2.toInt ∧ w2.toInt ≤ 2 by omega) (show (A265 2) w1.toInt ≤ 1000 by omega) (show 0 ≤ (0 : Int32).toInt ∧ (0 : Int32).toInt ≤ 1000 by omega) (show wr A265 from p267c) (show wq A265 from p267d) (show (A265 2) 2 = A0 2 2 from p267g.trans fg) (show ∀ q : Int, 2600 ≤ q → (A265 1) q = A0 1 q from fun q hq => (p267h q hq).trans (fh q hq))
                  · refine k_c2 78 rfl rfl (if_neg b294) ?_
                    have b294 := mt iv_eq.mpr b294
                    refine k_push 79 rfl rfl ?_
                    exact k_fin rfl (fin_Z (Or.inl rfl)) ⟨_, _, _, _, rfl, I266, (fr1.tr (by decide) (fr1.tr (by decide) (fr1.up (by decide) (fr1.up (by decide) fr1.rf)) k235) k268), (fr2.tr (by decide) (fr2.tr (by decide) fr2.rf k236) k269), ⟨p267c, p267d, p267g.trans fg, fun q hq => (p267h q hq).trans (fh q hq)⟩⟩
                · refine k_c1 27 rfl rfl (if_neg b289) ?_
                  have b289 := mt iv_eq0.mpr b289
                  refine k_push 28 rfl rfl ?_
                  refine k_fin rfl (fin_Z (Or.inl rfl)) ⟨_, _, rfl, rf_len I266 I266, ?_⟩
                  show am_Ok _ _ _ (58, _, [.inl (0 : Int32)], _, 0, 0) _
                  refine k_c1 61 rfl rfl (if_pos (by decide)) ?_
                  refine k_push 62 rfl rfl ?_
                  exact k_fin rfl (fin_Z (Or.inl rfl)) ⟨_, _, _, _, rfl, I266, (fr1.tr (by decide) (fr1.tr (by decide) (fr1.up (by decide) (fr1.up (by decide) fr1.rf)) k235) k268), (fr2.tr (by decide) (fr2.tr (by decide) fr2.rf k236) k269), ⟨p267c, p267d, p267g.trans fg, fun q hq => (p267h q hq).trans (fh q hq)⟩⟩
            · refine k_c1 49 rfl rfl (if_neg b271) ?_
              have b271 := mt iv_eq0.mpr b271
              refine k_push 50 rfl rfl ?_
              refine k_goto 54 rfl rfl ?_
              refine k_push 55 rfl rfl ?_
              refine k_in (d := 0) rfl rfl rfl rfl I266.rc ?_
              refine k_aload 1 rfl rfl rfl ?_
              refine r_gI I266 4 rfl rfl rfl (fun x295 (e296 : x295.toInt = F264 0) => ?_)
              have e297 : F264 0 = F231 0 := k268 0 (by decide)
              have e298 : F231 0 = (1 : Int32).toInt := k235 0 (by decide)
              by_cases b299 : x295 = 0
              · refine k_c1 7 rfl rfl (if_pos b299) ?_
                have b299 := iv_eq0.mp b299
                refine k_iload 8 rfl rfl rfl ?_
                refine k_c1 16 rfl rfl (if_neg (by decide)) ?_
                refine k_aload 17 rfl rfl rfl ?_
                refine r_gI I266 20 rfl rfl rfl (fun x300 (e301 : x300.toInt = F264 0) => ?_)
                by_cases b302 : x300 = 0
                · refine k_c1 23 rfl rfl (if_pos b302) ?_
                  have b302 := iv_eq0.mp b302
                  refine k_push 24 rfl rfl ?_
                  refine k_goto 28 rfl rfl ?_
                  refine k_fin rfl (fin_Z (Or.inr rfl)) ⟨_, _, rfl, rf_len I266 I266, ?_⟩
                  show am_Ok _ _ _ (58, _, [.inl (1 : Int32)], _, 0, 0) _
                  refine k_c1 63 rfl rfl (if_neg (by decide)) ?_
                  have hbd : (A265 2) w1.toInt ≤ 1000 := sm_bd p267e hn2 hn1 (p267b (by clear p267b; omega))
                  clear p267b
                  refine k_aload 64 rfl rfl rfl ?_
                  refine r_gA I266 67 rfl rfl rfl ?_
                  refine k_iload 68 rfl rfl rfl ?_
                  refine r_ld 2 I266 69 rfl rfl (by omega) (show w1.toInt < 3 by omega) rfl (fun x303 (e304 : x303.toInt = A265 2 w1.toInt) => ?_)
                  refine k_aload 70 rfl rfl rfl ?_
                  refine r_gA I266 73 rfl rfl rfl ?_
                  refine k_iload 74 rfl rfl rfl ?_
                  refine r_ld 2 I266 75 rfl rfl (by omega) (show w2.toInt < 3 by omega) rfl (fun x305 (e306 : x305.toInt = A265 2 w2.toInt) => ?_)
                  by_cases b307 : x303 = x305
                  · refine k_c2 80 rfl rfl (if_pos b307) ?_
                    have b307 := iv_eq.mp b307
                    refine k_push 81 rfl rfl ?_
                    refine k_istore 82 rfl rfl ?_
                    exact b_X10_same_82 (lm := lm) (gT := gT) (gt := gt) (w1 := w1) (w2 := w2) p1 p2 p5 p6 p7 p8 p9 _  rfl (gs_ne rfl rfl rfl) (gs_ne rfl rfl rfl) (gs_ne rfl rfl rfl) gs_eq I266 (fr1.tr (by decide) (fr1.tr (by decide) (fr1.up (by decide) (fr1.up (by decide) fr1.rf)) k235) k268) (fr2.tr (by decide) (fr2.tr (by decide) fr2.rf k236) k269) (show 0 ≤ w1.toInt ∧ w1.toInt ≤ 2 ∧ 0 ≤ w2.toInt ∧ w2.toInt ≤ 2 by omega) (show (A265 2) w1.toInt ≤ 1000 by omega) (show 0 ≤ (0 : Int32).toInt ∧ (0 : Int32).toInt ≤ 1000 by omega) (show wr A265 from p267c) (show wq A265 from p267d) (show (A265 2) 2 = A0 2 2 from p267g.trans fg) (show ∀ q : Int, 2600 ≤ q → (A265 1) q = A0 1 q from fun q hq => (p267h q hq).trans (fh q hq))
                  · refine k_c2 78 rfl rfl (if_neg b307) ?_
                    have b307 := mt iv_eq.mpr b307
                    refine k_push 79 rfl rfl ?_
                    exact k_fin rfl (fin_Z (Or.inl rfl)) ⟨_, _, _, _, rfl, I266, (fr1.tr (by decide) (fr1.tr (by decide) (fr1.up (by decide) (fr1.up (by decide) fr1.rf)) k235) k268), (fr2.tr (by decide) (fr2.tr (by decide) fr2.rf k236) k269), ⟨p267c, p267d, p267g.trans fg, fun q hq => (p267h q hq).trans (fh q hq)⟩⟩
                · refine k_c1 27 rfl rfl (if_neg b302) ?_
                  have b302 := mt iv_eq0.mpr b302
                  refine k_push 28 rfl rfl ?_
                  refine k_fin rfl (fin_Z (Or.inl rfl)) ⟨_, _, rfl, rf_len I266 I266, ?_⟩
                  show am_Ok _ _ _ (58, _, [.inl (0 : Int32)], _, 0, 0) _
                  refine k_c1 61 rfl rfl (if_pos (by decide)) ?_
                  refine k_push 62 rfl rfl ?_
                  exact k_fin rfl (fin_Z (Or.inl rfl)) ⟨_, _, _, _, rfl, I266, (fr1.tr (by decide) (fr1.tr (by decide) (fr1.up (by decide) (fr1.up (by decide) fr1.rf)) k235) k268), (fr2.tr (by decide) (fr2.tr (by decide) fr2.rf k236) k269), ⟨p267c, p267d, p267g.trans fg, fun q hq => (p267h q hq).trans (fh q hq)⟩⟩
              · refine k_c1 16 rfl rfl (if_neg b299) ?_
                have b299 := mt iv_eq0.mpr b299
                refine k_aload 17 rfl rfl rfl ?_
                refine r_gI I266 20 rfl rfl rfl (fun x308 (e309 : x308.toInt = F264 0) => ?_)
                by_cases b310 : x308 = 0
                · refine k_c1 23 rfl rfl (if_pos b310) ?_
                  have b310 := iv_eq0.mp b310
                  refine k_push 24 rfl rfl ?_
                  refine k_goto 28 rfl rfl ?_
                  refine k_fin rfl (fin_Z (Or.inr rfl)) ⟨_, _, rfl, rf_len I266 I266, ?_⟩
                  show am_Ok _ _ _ (58, _, [.inl (1 : Int32)], _, 0, 0) _
                  refine k_c1 63 rfl rfl (if_neg (by decide)) ?_
                  have hbd : (A265 2) w1.toInt ≤ 1000 := sm_bd p267e hn2 hn1 (p267b (by clear p267b; omega))
                  clear p267b
                  refine k_aload 64 rfl rfl rfl ?_
                  refine r_gA I266 67 rfl rfl rfl ?_
                  refine k_iload 68 rfl rfl rfl ?_
                  refine r_ld 2 I266 69 rfl rfl (by omega) (show w1.toInt < 3 by omega) rfl (fun x311 (e312 : x311.toInt = A265 2 w1.toInt) => ?_)
                  refine k_aload 70 rfl rfl rfl ?_
                  refine r_gA I266 73 rfl rfl rfl ?_
                  refine k_iload 74 rfl rfl rfl ?_
                  refine r_ld 2 I266 75 rfl rfl (by omega) (show w2.toInt < 3 by omega) rfl (fun x313 (e314 : x313.toInt = A265 2 w2.toInt) => ?_)
                  by_cases b315 : x311 = x313
                  · refine k_c2 80 rfl rfl (if_pos b315) ?_
                    have b315 := iv_eq.mp b315
                    refine k_push 81 rfl rfl ?_
                    refine k_istore 82 rfl rfl ?_
                    exact b_X10_same_82 (lm := lm) (gT := gT) (gt := gt) (w1 := w1) (w2 := w2) p1 p2 p5 p6 p7 p8 p9 _  rfl (gs_ne rfl rfl rfl) (gs_ne rfl rfl rfl) (gs_ne rfl rfl rfl) gs_eq I266 (fr1.tr (by decide) (fr1.tr (by decide) (fr1.up (by decide) (fr1.up (by decide) fr1.rf)) k235) k268) (fr2.tr (by decide) (fr2.tr (by decide) fr2.rf k236) k269) (show 0 ≤ w1.toInt ∧ w1.toInt ≤ 2 ∧ 0 ≤ w2.toInt ∧ w2.toInt ≤ 2 by omega) (show (A265 2) w1.toInt ≤ 1000 by omega) (show 0 ≤ (0 : Int32).toInt ∧ (0 : Int32).toInt ≤ 1000 by omega) (show wr A265 from p267c) (show wq A265 from p267d) (show (A265 2) 2 = A0 2 2 from p267g.trans fg) (show ∀ q : Int, 2600 ≤ q → (A265 1) q = A0 1 q from fun q hq => (p267h q hq).trans (fh q hq))
                  · refine k_c2 78 rfl rfl (if_neg b315) ?_
                    have b315 := mt iv_eq.mpr b315
                    refine k_push 79 rfl rfl ?_
                    exact k_fin rfl (fin_Z (Or.inl rfl)) ⟨_, _, _, _, rfl, I266, (fr1.tr (by decide) (fr1.tr (by decide) (fr1.up (by decide) (fr1.up (by decide) fr1.rf)) k235) k268), (fr2.tr (by decide) (fr2.tr (by decide) fr2.rf k236) k269), ⟨p267c, p267d, p267g.trans fg, fun q hq => (p267h q hq).trans (fh q hq)⟩⟩
                · refine k_c1 27 rfl rfl (if_neg b310) ?_
                  have b310 := mt iv_eq0.mpr b310
                  refine k_push 28 rfl rfl ?_
                  refine k_fin rfl (fin_Z (Or.inl rfl)) ⟨_, _, rfl, rf_len I266 I266, ?_⟩
                  show am_Ok _ _ _ (58, _, [.inl (0 : Int32)], _, 0, 0) _
                  refine k_c1 61 rfl rfl (if_pos (by decide)) ?_
                  refine k_push 62 rfl rfl ?_
                  exact k_fin rfl (fin_Z (Or.inl rfl)) ⟨_, _, _, _, rfl, I266, (fr1.tr (by decide) (fr1.tr (by decide) (fr1.up (by decide) (fr1.up (by decide) fr1.rf)) k235) k268), (fr2.tr (by decide) (fr2.tr (by decide) fr2.rf k236) k269), ⟨p267c, p267d, p267g.trans fg, fun q hq => (p267h q hq).trans (fh q hq)⟩⟩
        · refine k_c1 27 rfl rfl (if_neg b228) ?_
          have b228 := mt iv_eq0.mpr b228
          refine k_push 28 rfl rfl ?_
          refine k_fin rfl (fin_Z (Or.inl rfl)) ⟨_, _, rfl, rf_len I30 I225, ?_⟩
          show am_Ok _ _ _ (29, _, [.inl (0 : Int32)], _, 0, 0) _
          refine k_c1 61 rfl rfl (if_pos (by decide)) ?_
          refine k_push 62 rfl rfl ?_
          exact k_fin rfl (fin_Z (Or.inl rfl)) ⟨_, _, _, _, rfl, I225, (fr1.up (by decide) (fr1.up (by decide) fr1.rf)), fr2.rf, ⟨p5, p6, rfl, fun q _ => rfl⟩⟩
      · refine k_c1 16 rfl rfl (if_neg b223) ?_
        have b223 := mt iv_eq0.mpr b223
        refine k_aload 17 rfl rfl rfl ?_
        refine r_gI I30 20 rfl rfl rfl (fun x316 (e317 : x316.toInt = (0 : Int32).toInt) => ?_)
        by_cases b318 : x316 = 0
        · refine k_c1 23 rfl rfl (if_pos b318) ?_
          have b318 := iv_eq0.mp b318
          refine k_push 24 rfl rfl ?_
          refine k_goto 28 rfl rfl ?_
          refine k_fin rfl (fin_Z (Or.inr rfl)) ⟨_, _, rfl, rf_len I30 I30, ?_⟩
          show am_Ok _ _ _ (29, _, [.inl (1 : Int32)], _, 0, 0) _
          refine k_c1 32 rfl rfl (if_neg (by decide)) ?_
          refine k_aload 33 rfl rfl rfl ?_
          refine k_aload 34 rfl rfl rfl ?_
          refine k_iload 35 rfl rfl rfl ?_
          refine k_rq I30 rfl (m_isTerm (lm := lm) (gT := gT) (gt := gt) I30.1 (show nn ((A0 24)) ((A0 25)) ((F0 28)) (gT) from p1) (show nw ((A0 24)) ((A0 25)) ((A0 26)) (lm) ((F0 28)) from p2) (show wr A0 from p5) (show wq A0 from p6) (show (A0 2) 2 = (gt) ∧ 1 ≤ (gt) ∧ (gt) ≤ 120 from p7) (show wf ((A0 1)) 2600 (gt) from p8) (show cb ((A0 1)) 2600 (gt) 200 from p9) (show 0 ≤ w1.toInt ∧ w1.toInt ≤ 2 by omega)) rfl rfl rfl I30.rc ?_
          rintro x319 h320 F321 A322 I323 ⟨k325, k326, p324⟩
          replace p324 : (x319.toInt = 0 ∨ x319.toInt = 1) ∧ (x319.toInt = 1 → ∃ n' : Nat, n' ≤ 1000 ∧ A322 2 w1.toInt = n' ∧ wf (A322 1) (1300 * w1.toInt) n') ∧ wr A322 ∧ wq A322 ∧ (∀ q : Int, q ≠ w1.toInt → A322 2 q = (A0 2) q) ∧ (∀ q : Int, (0 ≤ q ∧ q < 1300 * w1.toInt) ∨ 1300 * w1.toInt + 1300 ≤ q → A322 1 q = (A0 1) q) ∧ A322 2 2 = (A0 2) 2 ∧ (∀ q : Int, 2600 ≤ q → A322 1 q = (A0 1) q) := p324
          obtain ⟨p324a, p324b, p324c, p324d, p324e, p324f, p324g, p324h⟩ := p324
          have z327 := iv_01 (x := x319) p324a
          show am_Ok _ _ _ (38, _, [.inl x319, .inr (.inr (some 81))], _, 0, 0) _
          by_cases b328 : x319 = 0
          · refine k_c1 53 rfl rfl (if_pos b328) ?_
            have b328 := iv_eq0.mp b328
            refine k_push 54 rfl rfl ?_
            refine k_push 55 rfl rfl ?_
            refine k_in (d := 0) rfl rfl rfl rfl I323.rc ?_
            refine k_aload 1 rfl rfl rfl ?_
            refine r_gI I323 4 rfl rfl rfl (fun x329 (e330 : x329.toInt = F321 0) => ?_)
            have e331 : F321 0 = (0 : Int32).toInt := k325 0 (by decide)
            by_cases b332 : x329 = 0
            · refine k_c1 7 rfl rfl (if_pos b332) ?_
              have b332 := iv_eq0.mp b332
              refine k_iload 8 rfl rfl rfl ?_
              refine k_c1 11 rfl rfl (if_pos (by decide)) ?_
              refine k_aload 12 rfl rfl rfl ?_
              refine k_iload 13 rfl rfl rfl ?_
              refine r_pI I323 16 rfl rfl rfl (fun h333 I334 => ?_)
              refine k_aload 17 rfl rfl rfl ?_
              refine r_gI I334 20 rfl rfl rfl (fun x335 (e336 : x335.toInt = (2 : Int32).toInt) => ?_)
              by_cases b337 : x335 = 0
              · refine k_c1 23 rfl rfl (if_pos b337) ?_
                have b337 := iv_eq0.mp b337
                refine k_push 24 rfl rfl ?_
                refine k_goto 28 rfl rfl ?_
                refine k_fin rfl (fin_Z (Or.inr rfl)) ⟨_, _, rfl, rf_len I323 I334, ?_⟩
                show am_Ok _ _ _ (58, _, [.inl (1 : Int32)], _, 0, 0) _
                refine k_c1 63 rfl rfl (if_neg (by decide)) ?_
                have hbd : (A322 2) w1.toInt ≤ 1000 := by clear p324b; omega
                clear p324b
                refine k_aload 64 rfl rfl rfl ?_
                refine r_gA I334 67 rfl rfl rfl ?_
                refine k_iload 68 rfl rfl rfl ?_
                refine r_ld 2 I334 69 rfl rfl (by omega) (show w1.toInt < 3 by omega) rfl (fun x338 (e339 : x338.toInt = A322 2 w1.toInt) => ?_)
                refine k_aload 70 rfl rfl rfl ?_
                refine r_gA I334 73 rfl rfl rfl ?_
                refine k_iload 74 rfl rfl rfl ?_
                refine r_ld 2 I334 75 rfl rfl (by omega) (show w2.toInt < 3 by omega) rfl (fun x340 (e341 : x340.toInt = A322 2 w2.toInt) => ?_)
                by_cases b342 : x338 = x340
                · refine k_c2 80 rfl rfl (if_pos b342) ?_
                  have b342 := iv_eq.mp b342
                  refine k_push 81 rfl rfl ?_
                  refine k_istore 82 rfl rfl ?_
                  exact b_X10_same_82 (lm := lm) (gT := gT) (gt := gt) (w1 := w1) (w2 := w2) p1 p2 p5 p6 p7 p8 p9 _  rfl (gs_ne rfl rfl rfl) (gs_ne rfl rfl rfl) (gs_ne rfl rfl rfl) gs_eq I334 (fr1.up (by decide) (fr1.tr (by decide) (fr1.up (by decide) fr1.rf) k325)) (fr2.tr (by decide) fr2.rf k326) (show 0 ≤ w1.toInt ∧ w1.toInt ≤ 2 ∧ 0 ≤ w2.toInt ∧ w2.toInt ≤ 2 by omega) (show (A322 2) w1.toInt ≤ 1000 by omega) (show 0 ≤ (0 : Int32).toInt ∧ (0 : Int32).toInt ≤ 1000 by omega) (show wr A322 from p324c) (show wq A322 from p324d) (show (A322 2) 2 = A0 2 2 from p324g) (show ∀ q : Int, 2600 ≤ q → (A322 1) q = A0 1 q from p324h)
                · refine k_c2 78 rfl rfl (if_neg b342) ?_
                  have b342 := mt iv_eq.mpr b342
                  refine k_push 79 rfl rfl ?_
                  exact k_fin rfl (fin_Z (Or.inl rfl)) ⟨_, _, _, _, rfl, I334, (fr1.up (by decide) (fr1.tr (by decide) (fr1.up (by decide) fr1.rf) k325)), (fr2.tr (by decide) fr2.rf k326), ⟨p324c, p324d, p324g, p324h⟩⟩
              · refine k_c1 27 rfl rfl (if_neg b337) ?_
                have b337 := mt iv_eq0.mpr b337
                refine k_push 28 rfl rfl ?_
                refine k_fin rfl (fin_Z (Or.inl rfl)) ⟨_, _, rfl, rf_len I323 I334, ?_⟩
                show am_Ok _ _ _ (58, _, [.inl (0 : Int32)], _, 0, 0) _
                refine k_c1 61 rfl rfl (if_pos (by decide)) ?_
                refine k_push 62 rfl rfl ?_
                exact k_fin rfl (fin_Z (Or.inl rfl)) ⟨_, _, _, _, rfl, I334, (fr1.up (by decide) (fr1.tr (by decide) (fr1.up (by decide) fr1.rf) k325)), (fr2.tr (by decide) fr2.rf k326), ⟨p324c, p324d, p324g, p324h⟩⟩
            · refine k_c1 16 rfl rfl (if_neg b332) ?_
              have b332 := mt iv_eq0.mpr b332
              refine k_aload 17 rfl rfl rfl ?_
              refine r_gI I323 20 rfl rfl rfl (fun x343 (e344 : x343.toInt = F321 0) => ?_)
              by_cases b345 : x343 = 0
              · refine k_c1 23 rfl rfl (if_pos b345) ?_
                have b345 := iv_eq0.mp b345
                refine k_push 24 rfl rfl ?_
                refine k_goto 28 rfl rfl ?_
                refine k_fin rfl (fin_Z (Or.inr rfl)) ⟨_, _, rfl, rf_len I323 I323, ?_⟩
                show am_Ok _ _ _ (58, _, [.inl (1 : Int32)], _, 0, 0) _
                refine k_c1 63 rfl rfl (if_neg (by decide)) ?_
                have hbd : (A322 2) w1.toInt ≤ 1000 := by clear p324b; omega
                clear p324b
                refine k_aload 64 rfl rfl rfl ?_
                refine r_gA I323 67 rfl rfl rfl ?_
                refine k_iload 68 rfl rfl rfl ?_
                refine r_ld 2 I323 69 rfl rfl (by omega) (show w1.toInt < 3 by omega) rfl (fun x346 (e347 : x346.toInt = A322 2 w1.toInt) => ?_)
                refine k_aload 70 rfl rfl rfl ?_
                refine r_gA I323 73 rfl rfl rfl ?_
                refine k_iload 74 rfl rfl rfl ?_
                refine r_ld 2 I323 75 rfl rfl (by omega) (show w2.toInt < 3 by omega) rfl (fun x348 (e349 : x348.toInt = A322 2 w2.toInt) => ?_)
                by_cases b350 : x346 = x348
                · refine k_c2 80 rfl rfl (if_pos b350) ?_
                  have b350 := iv_eq.mp b350
                  refine k_push 81 rfl rfl ?_
                  refine k_istore 82 rfl rfl ?_
                  exact b_X10_same_82 (lm := lm) (gT := gT) (gt := gt) (w1 := w1) (w2 := w2) p1 p2 p5 p6 p7 p8 p9 _  rfl (gs_ne rfl rfl rfl) (gs_ne rfl rfl rfl) (gs_ne rfl rfl rfl) gs_eq I323 (fr1.tr (by decide) (fr1.up (by decide) fr1.rf) k325) (fr2.tr (by decide) fr2.rf k326) (show 0 ≤ w1.toInt ∧ w1.toInt ≤ 2 ∧ 0 ≤ w2.toInt ∧ w2.toInt ≤ 2 by omega) (show (A322 2) w1.toInt ≤ 1000 by omega) (show 0 ≤ (0 : Int32).toInt ∧ (0 : Int32).toInt ≤ 1000 by omega) (show wr A322 from p324c) (show wq A322 from p324d) (show (A322 2) 2 = A0 2 2 from p324g) (show ∀ q : Int, 2600 ≤ q → (A322 1) q = A0 1 q from p324h)
                · refine k_c2 78 rfl rfl (if_neg b350) ?_
                  have b350 := mt iv_eq.mpr b350
                  refine k_push 79 rfl rfl ?_
                  exact k_fin rfl (fin_Z (Or.inl rfl)) ⟨_, _, _, _, rfl, I323, (fr1.tr (by decide) (fr1.up (by decide) fr1.rf) k325), (fr2.tr (by decide) fr2.rf k326), ⟨p324c, p324d, p324g, p324h⟩⟩
              · refine k_c1 27 rfl rfl (if_neg b345) ?_
                have b345 := mt iv_eq0.mpr b345
                refine k_push 28 rfl rfl ?_
                refine k_fin rfl (fin_Z (Or.inl rfl)) ⟨_, _, rfl, rf_len I323 I323, ?_⟩
                show am_Ok _ _ _ (58, _, [.inl (0 : Int32)], _, 0, 0) _
                refine k_c1 61 rfl rfl (if_pos (by decide)) ?_
                refine k_push 62 rfl rfl ?_
                exact k_fin rfl (fin_Z (Or.inl rfl)) ⟨_, _, _, _, rfl, I323, (fr1.tr (by decide) (fr1.up (by decide) fr1.rf) k325), (fr2.tr (by decide) fr2.rf k326), ⟨p324c, p324d, p324g, p324h⟩⟩
          · refine k_c1 41 rfl rfl (if_neg b328) ?_
            have b328 := mt iv_eq0.mpr b328
            obtain ⟨gn, hn1, hn2, hn3⟩ := p324b (by clear p324b; omega)
            clear p324b
            have fc := p324c
            have fd := p324d
            have fg := p324g
            have fh := p324h
            refine k_aload 42 rfl rfl rfl ?_
            refine k_iload 43 rfl rfl rfl ?_
            have e351 : F321 28 = F0 28 := k325 28 (by decide)
            refine k_rq I323 rfl (m_isTerm (lm := lm) (gT := gT) (gt := gt) I323.1 (show nn ((A322 24)) ((A322 25)) ((F321 28)) (gT) by rw [(k326 24 (by decide)), (k326 25 (by decide)), k325 28 (by decide)]; exact p1) (show nw ((A322 24)) ((A322 25)) ((A322 26)) (lm) ((F321 28)) by rw [(k326 24 (by decide)), (k326 25 (by decide)), (k326 26 (by decide)), k325 28 (by decide)]; exact p2) (show wr A322 from fc) (show wq A322 from fd) (show (A322 2) 2 = (gt) ∧ 1 ≤ (gt) ∧ (gt) ≤ 120 from ⟨fg.trans p7.1, p7.2⟩) (show wf ((A322 1)) 2600 (gt) from wf_congr (fun q hq => (fh _ (by omega)).symm) p8) (show cb ((A322 1)) 2600 (gt) 200 from cb.congr p9 (fun q hq => (fh _ (by omega)).symm)) (show 0 ≤ w2.toInt ∧ w2.toInt ≤ 2 by omega)) rfl rfl rfl I323.rc ?_
            rintro x352 h353 F354 A355 I356 ⟨k358, k359, p357⟩
            replace p357 : (x352.toInt = 0 ∨ x352.toInt = 1) ∧ (x352.toInt = 1 → ∃ n' : Nat, n' ≤ 1000 ∧ A355 2 w2.toInt = n' ∧ wf (A355 1) (1300 * w2.toInt) n') ∧ wr A355 ∧ wq A355 ∧ (∀ q : Int, q ≠ w2.toInt → A355 2 q = (A322 2) q) ∧ (∀ q : Int, (0 ≤ q ∧ q < 1300 * w2.toInt) ∨ 1300 * w2.toInt + 1300 ≤ q → A355 1 q = (A322 1) q) ∧ A355 2 2 = (A322 2) 2 ∧ (∀ q : Int, 2600 ≤ q → A355 1 q = (A322 1) q) := p357
            obtain ⟨p357a, p357b, p357c, p357d, p357e, p357f, p357g, p357h⟩ := p357
            have z360 := iv_01 (x := x352) p357a
            show am_Ok _ _ _ (46, _, [.inl x352, .inr (.inr (some 81))], _, 0, 0) _
            by_cases b361 : x352 = 0
            · refine k_c1 53 rfl rfl (if_pos b361) ?_
              have b361 := iv_eq0.mp b361
              refine k_push 54 rfl rfl ?_
              refine k_push 55 rfl rfl ?_
              refine k_in (d := 0) rfl rfl rfl rfl I356.rc ?_
              refine k_aload 1 rfl rfl rfl ?_
              refine r_gI I356 4 rfl rfl rfl (fun x362 (e363 : x362.toInt = F354 0) => ?_)
              have e364 : F354 0 = F321 0 := k358 0 (by decide)
              have e365 : F321 0 = (0 : Int32).toInt := k325 0 (by decide)
              by_cases b366 : x362 = 0
              · refine k_c1 7 rfl rfl (if_pos b366) ?_
                have b366 := iv_eq0.mp b366
                refine k_iload 8 rfl rfl rfl ?_
                refine k_c1 11 rfl rfl (if_pos (by decide)) ?_
                refine k_aload 12 rfl rfl rfl ?_
                refine k_iload 13 rfl rfl rfl ?_
                refine r_pI I356 16 rfl rfl rfl (fun h367 I368 => ?_)
                refine k_aload 17 rfl rfl rfl ?_
                refine r_gI I368 20 rfl rfl rfl (fun x369 (e370 : x369.toInt = (2 : Int32).toInt) => ?_)
                by_cases b371 : x369 = 0
                · refine k_c1 23 rfl rfl (if_pos b371) ?_
                  have b371 := iv_eq0.mp b371
                  refine k_push 24 rfl rfl ?_
                  refine k_goto 28 rfl rfl ?_
                  refine k_fin rfl (fin_Z (Or.inr rfl)) ⟨_, _, rfl, rf_len I356 I368, ?_⟩
                  show am_Ok _ _ _ (58, _, [.inl (1 : Int32)], _, 0, 0) _
                  refine k_c1 63 rfl rfl (if_neg (by decide)) ?_
                  have hbd : (A355 2) w1.toInt ≤ 1000 := sm_bd p357e hn2 hn1 (p357b (by clear p357b; omega))
                  clear p357b
                  refine k_aload 64 rfl rfl rfl ?_
                  refine r_gA I368 67 rfl rfl rfl ?_
                  refine k_iload 68 rfl rfl rfl ?_
                  refine r_ld 2 I368 69 rfl rfl (by omega) (show w1.toInt < 3 by omega) rfl (fun x372 (e373 : x372.toInt = A355 2 w1.toInt) => ?_)
                  refine k_aload 70 rfl rfl rfl ?_
                  refine r_gA I368 73 rfl rfl rfl ?_
                  refine k_iload 74 rfl rfl rfl ?_
                  refine r_ld 2 I368 75 rfl rfl (by omega) (show w2.toInt < 3 by omega) rfl (fun x374 (e375 : x374.toInt = A355 2 w2.toInt) => ?_)
                  by_cases b376 : x372 = x374
                  · refine k_c2 80 rfl rfl (if_pos b376) ?_
                    have b376 := iv_eq.mp b376
                    refine k_push 81 rfl rfl ?_
                    refine k_istore 82 rfl rfl ?_
                    exact b_X10_same_82 (lm := lm) (gT := gT) (gt := gt) (w1 := w1) (w2 := w2) p1 p2 p5 p6 p7 p8 p9 _  rfl (gs_ne rfl rfl rfl) (gs_ne rfl rfl rfl) (gs_ne rfl rfl rfl) gs_eq I368 (fr1.up (by decide) (fr1.tr (by decide) (fr1.tr (by decide) (fr1.up (by decide) fr1.rf) k325) k358)) (fr2.tr (by decide) (fr2.tr (by decide) fr2.rf k326) k359) (show 0 ≤ w1.toInt ∧ w1.toInt ≤ 2 ∧ 0 ≤ w2.toInt ∧ w2.toInt ≤ 2 by omega) (show (A355 2) w1.toInt ≤ 1000 by omega) (show 0 ≤ (0 : Int32).toInt ∧ (0 : Int32).toInt ≤ 1000 by omega) (show wr A355 from p357c) (show wq A355 from p357d) (show (A355 2) 2 = A0 2 2 from p357g.trans fg) (show ∀ q : Int, 2600 ≤ q → (A355 1) q = A0 1 q from fun q hq => (p357h q hq).trans (fh q hq))
                  · refine k_c2 78 rfl rfl (if_neg b376) ?_
                    have b376 := mt iv_eq.mpr b376
                    refine k_push 79 rfl rfl ?_
                    exact k_fin rfl (fin_Z (Or.inl rfl)) ⟨_, _, _, _, rfl, I368, (fr1.up (by decide) (fr1.tr (by decide) (fr1.tr (by decide) (fr1.up (by decide) fr1.rf) k325) k358)), (fr2.tr (by decide) (fr2.tr (by decide) fr2.rf k326) k359), ⟨p357c, p357d, p357g.trans fg, fun q hq => (p357h q hq).trans (fh q hq)⟩⟩
                · refine k_c1 27 rfl rfl (if_neg b371) ?_
                  have b371 := mt iv_eq0.mpr b371
                  refine k_push 28 rfl rfl ?_
                  refine k_fin rfl (fin_Z (Or.inl rfl)) ⟨_, _, rfl, rf_len I356 I368, ?_⟩
                  show am_Ok _ _ _ (58, _, [.inl (0 : Int32)], _, 0, 0) _
                  refine k_c1 61 rfl rfl (if_pos (by decide)) ?_
                  refine k_push 62 rfl rfl ?_
                  exact k_fin rfl (fin_Z (Or.inl rfl)) ⟨_, _, _, _, rfl, I368, (fr1.up (by decide) (fr1.tr (by decide) (fr1.tr (by decide) (fr1.up (by decide) fr1.rf) k325) k358)), (fr2.tr (by decide) (fr2.tr (by decide) fr2.rf k326) k359), ⟨p357c, p357d, p357g.trans fg, fun q hq => (p357h q hq).trans (fh q hq)⟩⟩
              · refine k_c1 16 rfl rfl (if_neg b366) ?_
                have b366 := mt iv_eq0.mpr b366
                refine k_aload 17 rfl rfl rfl ?_
                refine r_gI I356 20 rfl rfl rfl (fun x377 (e378 : x377.toInt = F354 0) => ?_)
                by_cases b379 : x377 = 0
                · refine k_c1 23 rfl rfl (if_pos b379) ?_
                  have b379 := iv_eq0.mp b379
                  refine k_push 24 rfl rfl ?_
                  refine k_goto 28 rfl rfl ?_
                  refine k_fin rfl (fin_Z (Or.inr rfl)) ⟨_, _, rfl, rf_len I356 I356, ?_⟩
                  show am_Ok _ _ _ (58, _, [.inl (1 : Int32)], _, 0, 0) _
                  refine k_c1 63 rfl rfl (if_neg (by decide)) ?_
                  have hbd : (A355 2) w1.toInt ≤ 1000 := sm_bd p357e hn2 hn1 (p357b (by clear p357b; omega))
                  clear p357b
                  refine k_aload 64 rfl rfl rfl ?_
                  refine r_gA I356 67 rfl rfl rfl ?_
                  refine k_iload 68 rfl rfl rfl ?_
                  refine r_ld 2 I356 69 rfl rfl (by omega) (show w1.toInt < 3 by omega) rfl (fun x380 (e381 : x380.toInt = A355 2 w1.toInt) => ?_)
                  refine k_aload 70 rfl rfl rfl ?_
                  refine r_gA I356 73 rfl rfl rfl ?_
                  refine k_iload 74 rfl rfl rfl ?_
                  refine r_ld 2 I356 75 rfl rfl (by omega) (show w2.toInt < 3 by omega) rfl (fun x382 (e383 : x382.toInt = A355 2 w2.toInt) => ?_)
                  by_cases b384 : x380 = x382
                  · refine k_c2 80 rfl rfl (if_pos b384) ?_
                    have b384 := iv_eq.mp b384
                    refine k_push 81 rfl rfl ?_
                    refine k_istore 82 rfl rfl ?_
                    exact b_X10_same_82 (lm := lm) (gT := gT) (gt := gt) (w1 := w1) (w2 := w2) p1 p2 p5 p6 p7 p8 p9 _  rfl (gs_ne rfl rfl rfl) (gs_ne rfl rfl rfl) (gs_ne rfl rfl rfl) gs_eq I356 (fr1.tr (by decide) (fr1.tr (by decide) (fr1.up (by decide) fr1.rf) k325) k358) (fr2.tr (by decide) (fr2.tr (by decide) fr2.rf k326) k359) (show 0 ≤ w1.toInt ∧ w1.toInt ≤ 2 ∧ 0 ≤ w2.toInt ∧ w2.toInt ≤ 2 by omega) (show (A355 2) w1.toInt ≤ 1000 by omega) (show 0 ≤ (0 : Int32).toInt ∧ (0 : Int32).toInt ≤ 1000 by omega) (show wr A355 from p357c) (show wq A355 from p357d) (show (A355 2) 2 = A0 2 2 from p357g.trans fg) (show ∀ q : Int, 2600 ≤ q → (A355 1) q = A0 1 q from fun q hq => (p357h q hq).trans (fh q hq))
                  · refine k_c2 78 rfl rfl (if_neg b384) ?_
                    have b384 := mt iv_eq.mpr b384
                    refine k_push 79 rfl rfl ?_
                    exact k_fin rfl (fin_Z (Or.inl rfl)) ⟨_, _, _, _, rfl, I356, (fr1.tr (by decide) (fr1.tr (by decide) (fr1.up (by decide) fr1.rf) k325) k358), (fr2.tr (by decide) (fr2.tr (by decide) fr2.rf k326) k359), ⟨p357c, p357d, p357g.trans fg, fun q hq => (p357h q hq).trans (fh q hq)⟩⟩
                · refine k_c1 27 rfl rfl (if_neg b379) ?_
                  have b379 := mt iv_eq0.mpr b379
                  refine k_push 28 rfl rfl ?_
                  refine k_fin rfl (fin_Z (Or.inl rfl)) ⟨_, _, rfl, rf_len I356 I356, ?_⟩
                  show am_Ok _ _ _ (58, _, [.inl (0 : Int32)], _, 0, 0) _
                  refine k_c1 61 rfl rfl (if_pos (by decide)) ?_
                  refine k_push 62 rfl rfl ?_
                  exact k_fin rfl (fin_Z (Or.inl rfl)) ⟨_, _, _, _, rfl, I356, (fr1.tr (by decide) (fr1.tr (by decide) (fr1.up (by decide) fr1.rf) k325) k358), (fr2.tr (by decide) (fr2.tr (by decide) fr2.rf k326) k359), ⟨p357c, p357d, p357g.trans fg, fun q hq => (p357h q hq).trans (fh q hq)⟩⟩
            · refine k_c1 49 rfl rfl (if_neg b361) ?_
              have b361 := mt iv_eq0.mpr b361
              refine k_push 50 rfl rfl ?_
              refine k_goto 54 rfl rfl ?_
              refine k_push 55 rfl rfl ?_
              refine k_in (d := 0) rfl rfl rfl rfl I356.rc ?_
              refine k_aload 1 rfl rfl rfl ?_
              refine r_gI I356 4 rfl rfl rfl (fun x385 (e386 : x385.toInt = F354 0) => ?_)
              have e387 : F354 0 = F321 0 := k358 0 (by decide)
              have e388 : F321 0 = (0 : Int32).toInt := k325 0 (by decide)
              by_cases b389 : x385 = 0
              · refine k_c1 7 rfl rfl (if_pos b389) ?_
                have b389 := iv_eq0.mp b389
                refine k_iload 8 rfl rfl rfl ?_
                refine k_c1 16 rfl rfl (if_neg (by decide)) ?_
                refine k_aload 17 rfl rfl rfl ?_
                refine r_gI I356 20 rfl rfl rfl (fun x390 (e391 : x390.toInt = F354 0) => ?_)
                by_cases b392 : x390 = 0
                · refine k_c1 23 rfl rfl (if_pos b392) ?_
                  have b392 := iv_eq0.mp b392
                  refine k_push 24 rfl rfl ?_
                  refine k_goto 28 rfl rfl ?_
                  refine k_fin rfl (fin_Z (Or.inr rfl)) ⟨_, _, rfl, rf_len I356 I356, ?_⟩
                  show am_Ok _ _ _ (58, _, [.inl (1 : Int32)], _, 0, 0) _
                  refine k_c1 63 rfl rfl (if_neg (by decide)) ?_
                  have hbd : (A355 2) w1.toInt ≤ 1000 := sm_bd p357e hn2 hn1 (p357b (by clear p357b; omega))
                  clear p357b
                  refine k_aload 64 rfl rfl rfl ?_
                  refine r_gA I356 67 rfl rfl rfl ?_
                  refine k_iload 68 rfl rfl rfl ?_
                  refine r_ld 2 I356 69 rfl rfl (by omega) (show w1.toInt < 3 by omega) rfl (fun x393 (e394 : x393.toInt = A355 2 w1.toInt) => ?_)
                  refine k_aload 70 rfl rfl rfl ?_
                  refine r_gA I356 73 rfl rfl rfl ?_
                  refine k_iload 74 rfl rfl rfl ?_
                  refine r_ld 2 I356 75 rfl rfl (by omega) (show w2.toInt < 3 by omega) rfl (fun x395 (e396 : x395.toInt = A355 2 w2.toInt) => ?_)
                  by_cases b397 : x393 = x395
                  · refine k_c2 80 rfl rfl (if_pos b397) ?_
                    have b397 := iv_eq.mp b397
                    refine k_push 81 rfl rfl ?_
                    refine k_istore 82 rfl rfl ?_
                    exact b_X10_same_82 (lm := lm) (gT := gT) (gt := gt) (w1 := w1) (w2 := w2) p1 p2 p5 p6 p7 p8 p9 _  rfl (gs_ne rfl rfl rfl) (gs_ne rfl rfl rfl) (gs_ne rfl rfl rfl) gs_eq I356 (fr1.tr (by decide) (fr1.tr (by decide) (fr1.up (by decide) fr1.rf) k325) k358) (fr2.tr (by decide) (fr2.tr (by decide) fr2.rf k326) k359) (show 0 ≤ w1.toInt ∧ w1.toInt ≤ 2 ∧ 0 ≤ w2.toInt ∧ w2.toInt ≤ 2 by omega) (show (A355 2) w1.toInt ≤ 1000 by omega) (show 0 ≤ (0 : Int32).toInt ∧ (0 : Int32).toInt ≤ 1000 by omega) (show wr A355 from p357c) (show wq A355 from p357d) (show (A355 2) 2 = A0 2 2 from p357g.trans fg) (show ∀ q : Int, 2600 ≤ q → (A355 1) q = A0 1 q from fun q hq => (p357h q hq).trans (fh q hq))
                  · refine k_c2 78 rfl rfl (if_neg b397) ?_
                    have b397 := mt iv_eq.mpr b397
                    refine k_push 79 rfl rfl ?_
                    exact k_fin rfl (fin_Z (Or.inl rfl)) ⟨_, _, _, _, rfl, I356, (fr1.tr (by decide) (fr1.tr (by decide) (fr1.up (by decide) fr1.rf) k325) k358), (fr2.tr (by decide) (fr2.tr (by decide) fr2.rf k326) k359), ⟨p357c, p357d, p357g.trans fg, fun q hq => (p357h q hq).trans (fh q hq)⟩⟩
                · refine k_c1 27 rfl rfl (if_neg b392) ?_
                  have b392 := mt iv_eq0.mpr b392
                  refine k_push 28 rfl rfl ?_
                  refine k_fin rfl (fin_Z (Or.inl rfl)) ⟨_, _, rfl, rf_len I356 I356, ?_⟩
                  show am_Ok _ _ _ (58, _, [.inl (0 : Int32)], _, 0, 0) _
                  refine k_c1 61 rfl rfl (if_pos (by decide)) ?_
                  refine k_push 62 rfl rfl ?_
                  exact k_fin rfl (fin_Z (Or.inl rfl)) ⟨_, _, _, _, rfl, I356, (fr1.tr (by decide) (fr1.tr (by decide) (fr1.up (by decide) fr1.rf) k325) k358), (fr2.tr (by decide) (fr2.tr (by decide) fr2.rf k326) k359), ⟨p357c, p357d, p357g.trans fg, fun q hq => (p357h q hq).trans (fh q hq)⟩⟩
              · refine k_c1 16 rfl rfl (if_neg b389) ?_
                have b389 := mt iv_eq0.mpr b389
                refine k_aload 17 rfl rfl rfl ?_
                refine r_gI I356 20 rfl rfl rfl (fun x398 (e399 : x398.toInt = F354 0) => ?_)
                by_cases b400 : x398 = 0
                · refine k_c1 23 rfl rfl (if_pos b400) ?_
                  have b400 := iv_eq0.mp b400
                  refine k_push 24 rfl rfl ?_
                  refine k_goto 28 rfl rfl ?_
                  refine k_fin rfl (fin_Z (Or.inr rfl)) ⟨_, _, rfl, rf_len I356 I356, ?_⟩
                  show am_Ok _ _ _ (58, _, [.inl (1 : Int32)], _, 0, 0) _
                  refine k_c1 63 rfl rfl (if_neg (by decide)) ?_
                  have hbd : (A355 2) w1.toInt ≤ 1000 := sm_bd p357e hn2 hn1 (p357b (by clear p357b; omega))
                  clear p357b
                  refine k_aload 64 rfl rfl rfl ?_
                  refine r_gA I356 67 rfl rfl rfl ?_
                  refine k_iload 68 rfl rfl rfl ?_
                  refine r_ld 2 I356 69 rfl rfl (by omega) (show w1.toInt < 3 by omega) rfl (fun x401 (e402 : x401.toInt = A355 2 w1.toInt) => ?_)
                  refine k_aload 70 rfl rfl rfl ?_
                  refine r_gA I356 73 rfl rfl rfl ?_
                  refine k_iload 74 rfl rfl rfl ?_
                  refine r_ld 2 I356 75 rfl rfl (by omega) (show w2.toInt < 3 by omega) rfl (fun x403 (e404 : x403.toInt = A355 2 w2.toInt) => ?_)
                  by_cases b405 : x401 = x403
                  · refine k_c2 80 rfl rfl (if_pos b405) ?_
                    have b405 := iv_eq.mp b405
                    refine k_push 81 rfl rfl ?_
                    refine k_istore 82 rfl rfl ?_
                    exact b_X10_same_82 (lm := lm) (gT := gT) (gt := gt) (w1 := w1) (w2 := w2) p1 p2 p5 p6 p7 p8 p9 _  rfl (gs_ne rfl rfl rfl) (gs_ne rfl rfl rfl) (gs_ne rfl rfl rfl) gs_eq I356 (fr1.tr (by decide) (fr1.tr (by decide) (fr1.up (by decide) fr1.rf) k325) k358) (fr2.tr (by decide) (fr2.tr (by decide) fr2.rf k326) k359) (show 0 ≤ w1.toInt ∧ w1.toInt ≤ 2 ∧ 0 ≤ w2.toInt ∧ w2.toInt ≤ 2 by omega) (show (A355 2) w1.toInt ≤ 1000 by omega) (show 0 ≤ (0 : Int32).toInt ∧ (0 : Int32).toInt ≤ 1000 by omega) (show wr A355 from p357c) (show wq A355 from p357d) (show (A355 2) 2 = A0 2 2 from p357g.trans fg) (show ∀ q : Int, 2600 ≤ q → (A355 1) q = A0 1 q from fun q hq => (p357h q hq).trans (fh q hq))
                  · refine k_c2 78 rfl rfl (if_neg b405) ?_
                    have b405 := mt iv_eq.mpr b405
                    refine k_push 79 rfl rfl ?_
                    exact k_fin rfl (fin_Z (Or.inl rfl)) ⟨_, _, _, _, rfl, I356, (fr1.tr (by decide) (fr1.tr (by decide) (fr1.up (by decide) fr1.rf) k325) k358), (fr2.tr (by decide) (fr2.tr (by decide) fr2.rf k326) k359), ⟨p357c, p357d, p357g.trans fg, fun q hq => (p357h q hq).trans (fh q hq)⟩⟩
                · refine k_c1 27 rfl rfl (if_neg b400) ?_
                  have b400 := mt iv_eq0.mpr b400
                  refine k_push 28 rfl rfl ?_
                  refine k_fin rfl (fin_Z (Or.inl rfl)) ⟨_, _, rfl, rf_len I356 I356, ?_⟩
                  show am_Ok _ _ _ (58, _, [.inl (0 : Int32)], _, 0, 0) _
                  refine k_c1 61 rfl rfl (if_pos (by decide)) ?_
                  refine k_push 62 rfl rfl ?_
                  exact k_fin rfl (fin_Z (Or.inl rfl)) ⟨_, _, _, _, rfl, I356, (fr1.tr (by decide) (fr1.tr (by decide) (fr1.up (by decide) fr1.rf) k325) k358), (fr2.tr (by decide) (fr2.tr (by decide) fr2.rf k326) k359), ⟨p357c, p357d, p357g.trans fg, fun q hq => (p357h q hq).trans (fh q hq)⟩⟩
        · refine k_c1 27 rfl rfl (if_neg b318) ?_
          have b318 := mt iv_eq0.mpr b318
          refine k_push 28 rfl rfl ?_
          refine k_fin rfl (fin_Z (Or.inl rfl)) ⟨_, _, rfl, rf_len I30 I30, ?_⟩
          show am_Ok _ _ _ (29, _, [.inl (0 : Int32)], _, 0, 0) _
          refine k_c1 61 rfl rfl (if_pos (by decide)) ?_
          refine k_push 62 rfl rfl ?_
          exact k_fin rfl (fin_Z (Or.inl rfl)) ⟨_, _, _, _, rfl, I30, (fr1.up (by decide) fr1.rf), fr2.rf, ⟨p5, p6, rfl, fun q _ => rfl⟩⟩
    · refine k_c2 10 rfl rfl (if_neg b219) ?_
      have b219 := mt iv_lt.mpr b219
      refine k_push 11 rfl rfl ?_
      have hc406 : (1 : Int32).toInt = 1 := by decide
      refine k_goto 15 rfl rfl ?_
      refine k_fin rfl (fin_Z (Or.inr rfl)) ⟨_, _, rfl, rf_len I30 I30, ?_⟩
      show am_Ok _ _ _ (6, _, [.inl (1 : Int32)], _, 0, 0) _
      refine k_fin rfl (fin_Z (Or.inr rfl)) ⟨_, _, rfl, rf_len I30 I30, ?_⟩
      show am_Ok _ _ _ (10, _, [.inl (1 : Int32), .inr (.inr (some 81))], _, 0, 0) _
      refine k_c1 13 rfl rfl (if_neg (by decide)) ?_
      refine k_iload 14 rfl rfl rfl ?_
      refine k_in (d := 1) rfl rfl rfl rfl rfl ?_
      refine k_iload 1 rfl rfl rfl ?_
      refine k_push 2 rfl rfl ?_
      refine k_push 3 rfl rfl ?_
      refine k_in (d := 0) rfl rfl rfl rfl rfl ?_
      refine k_iload 1 rfl rfl rfl ?_
      refine k_iload 2 rfl rfl rfl ?_
      by_cases b407 : w2 < (0 : Int32)
      · refine k_c2 14 rfl rfl (if_pos b407) ?_
        have b407 := iv_lt.mp b407
        refine k_push 15 rfl rfl ?_
        refine k_fin rfl (fin_Z (Or.inl rfl)) ⟨_, _, rfl, rf_len I30 I30, ?_⟩
        show am_Ok _ _ _ (6, _, [.inl (0 : Int32)], _, 0, 0) _
        refine k_fin rfl (fin_Z (Or.inl rfl)) ⟨_, _, rfl, rf_len I30 I30, ?_⟩
        show am_Ok _ _ _ (17, _, [.inl (0 : Int32), .inr (.inr (some 81))], _, 0, 0) _
        refine k_c1 24 rfl rfl (if_pos (by decide)) ?_
        refine k_push 25 rfl rfl ?_
        refine k_push 26 rfl rfl ?_
        refine k_in (d := 0) rfl rfl rfl rfl I30.rc ?_
        refine k_aload 1 rfl rfl rfl ?_
        refine r_gI I30 4 rfl rfl rfl (fun x408 (e409 : x408.toInt = (0 : Int32).toInt) => ?_)
        by_cases b410 : x408 = 0
        · refine k_c1 7 rfl rfl (if_pos b410) ?_
          have b410 := iv_eq0.mp b410
          refine k_iload 8 rfl rfl rfl ?_
          refine k_c1 11 rfl rfl (if_pos (by decide)) ?_
          refine k_aload 12 rfl rfl rfl ?_
          refine k_iload 13 rfl rfl rfl ?_
          refine r_pI I30 16 rfl rfl rfl (fun h411 I412 => ?_)
          refine k_aload 17 rfl rfl rfl ?_
          refine r_gI I412 20 rfl rfl rfl (fun x413 (e414 : x413.toInt = (1 : Int32).toInt) => ?_)
          by_cases b415 : x413 = 0
          · refine k_c1 23 rfl rfl (if_pos b415) ?_
            have b415 := iv_eq0.mp b415
            refine k_push 24 rfl rfl ?_
            refine k_goto 28 rfl rfl ?_
            refine k_fin rfl (fin_Z (Or.inr rfl)) ⟨_, _, rfl, rf_len I30 I412, ?_⟩
            show am_Ok _ _ _ (29, _, [.inl (1 : Int32)], _, 0, 0) _
            refine k_c1 32 rfl rfl (if_neg (by decide)) ?_
            refine k_aload 33 rfl rfl rfl ?_
            refine k_aload 34 rfl rfl rfl ?_
            refine k_iload 35 rfl rfl rfl ?_
            refine k_rq I412 rfl (m_isTerm (lm := lm) (gT := gT) (gt := gt) I412.1 (show nn ((A0 24)) ((A0 25)) ((F0 28)) (gT) from p1) (show nw ((A0 24)) ((A0 25)) ((A0 26)) (lm) ((F0 28)) from p2) (show wr A0 from p5) (show wq A0 from p6) (show (A0 2) 2 = (gt) ∧ 1 ≤ (gt) ∧ (gt) ≤ 120 from p7) (show wf ((A0 1)) 2600 (gt) from p8) (show cb ((A0 1)) 2600 (gt) 200 from p9) (show 0 ≤ w1.toInt ∧ w1.toInt ≤ 2 by omega)) rfl rfl rfl I412.rc ?_
            rintro x416 h417 F418 A419 I420 ⟨k422, k423, p421⟩
            replace p421 : (x416.toInt = 0 ∨ x416.toInt = 1) ∧ (x416.toInt = 1 → ∃ n' : Nat, n' ≤ 1000 ∧ A419 2 w1.toInt = n' ∧ wf (A419 1) (1300 * w1.toInt) n') ∧ wr A419 ∧ wq A419 ∧ (∀ q : Int, q ≠ w1.toInt → A419 2 q = (A0 2) q) ∧ (∀ q : Int, (0 ≤ q ∧ q < 1300 * w1.toInt) ∨ 1300 * w1.toInt + 1300 ≤ q → A419 1 q = (A0 1) q) ∧ A419 2 2 = (A0 2) 2 ∧ (∀ q : Int, 2600 ≤ q → A419 1 q = (A0 1) q) := p421
            obtain ⟨p421a, p421b, p421c, p421d, p421e, p421f, p421g, p421h⟩ := p421
            have z424 := iv_01 (x := x416) p421a
            show am_Ok _ _ _ (38, _, [.inl x416, .inr (.inr (some 81))], _, 0, 0) _
            by_cases b425 : x416 = 0
            · refine k_c1 53 rfl rfl (if_pos b425) ?_
              have b425 := iv_eq0.mp b425
              refine k_push 54 rfl rfl ?_
              refine k_push 55 rfl rfl ?_
              refine k_in (d := 0) rfl rfl rfl rfl I420.rc ?_
              refine k_aload 1 rfl rfl rfl ?_
              refine r_gI I420 4 rfl rfl rfl (fun x426 (e427 : x426.toInt = F418 0) => ?_)
              have e428 : F418 0 = (1 : Int32).toInt := k422 0 (by decide)
              by_cases b429 : x426 = 0
              · refine k_c1 7 rfl rfl (if_pos b429) ?_
                have b429 := iv_eq0.mp b429
                refine k_iload 8 rfl rfl rfl ?_
                refine k_c1 11 rfl rfl (if_pos (by decide)) ?_
                refine k_aload 12 rfl rfl rfl ?_
                refine k_iload 13 rfl rfl rfl ?_
                refine r_pI I420 16 rfl rfl rfl (fun h430 I431 => ?_)
                refine k_aload 17 rfl rfl rfl ?_
                refine r_gI I431 20 rfl rfl rfl (fun x432 (e433 : x432.toInt = (2 : Int32).toInt) => ?_)
                by_cases b434 : x432 = 0
                · refine k_c1 23 rfl rfl (if_pos b434) ?_
                  have b434 := iv_eq0.mp b434
                  refine k_push 24 rfl rfl ?_
                  refine k_goto 28 rfl rfl ?_
                  refine k_fin rfl (fin_Z (Or.inr rfl)) ⟨_, _, rfl, rf_len I420 I431, ?_⟩
                  show am_Ok _ _ _ (58, _, [.inl (1 : Int32)], _, 0, 0) _
                  refine k_c1 63 rfl rfl (if_neg (by decide)) ?_
                  have hbd : (A419 2) w1.toInt ≤ 1000 := by clear p421b; omega
                  clear p421b
                  refine k_aload 64 rfl rfl rfl ?_
                  refine r_gA I431 67 rfl rfl rfl ?_
                  refine k_iload 68 rfl rfl rfl ?_
                  refine r_ld 2 I431 69 rfl rfl (by omega) (show w1.toInt < 3 by omega) rfl (fun x435 (e436 : x435.toInt = A419 2 w1.toInt) => ?_)
                  refine k_aload 70 rfl rfl rfl ?_
                  refine r_gA I431 73 rfl rfl rfl ?_
                  refine k_iload 74 rfl rfl rfl ?_
                  refine r_ld 2 I431 75 rfl rfl (by omega) (show w2.toInt < 3 by omega) rfl (fun x437 (e438 : x437.toInt = A419 2 w2.toInt) => ?_)
                  by_cases b439 : x435 = x437
                  · refine k_c2 80 rfl rfl (if_pos b439) ?_
                    have b439 := iv_eq.mp b439
                    refine k_push 81 rfl rfl ?_
                    refine k_istore 82 rfl rfl ?_
                    exact b_X10_same_82 (lm := lm) (gT := gT) (gt := gt) (w1 := w1) (w2 := w2) p1 p2 p5 p6 p7 p8 p9 _  rfl (gs_ne rfl rfl rfl) (gs_ne rfl rfl rfl) (gs_ne rfl rfl rfl) gs_eq I431 (fr1.up (by decide) (fr1.tr (by decide) (fr1.up (by decide) (fr1.up (by decide) fr1.rf)) k422)) (fr2.tr (by decide) fr2.rf k423) (show 0 ≤ w1.toInt ∧ w1.toInt ≤ 2 ∧ 0 ≤ w2.toInt ∧ w2.toInt ≤ 2 by omega) (show (A419 2) w1.toInt ≤ 1000 by omega) (show 0 ≤ (0 : Int32).toInt ∧ (0 : Int32).toInt ≤ 1000 by omega) (show wr A419 from p421c) (show wq A419 from p421d) (show (A419 2) 2 = A0 2 2 from p421g) (show ∀ q : Int, 2600 ≤ q → (A419 1) q = A0 1 q from p421h)
                  · refine k_c2 78 rfl rfl (if_neg b439) ?_
                    have b439 := mt iv_eq.mpr b439
                    refine k_push 79 rfl rfl ?_
                    exact k_fin rfl (fin_Z (Or.inl rfl)) ⟨_, _, _, _, rfl, I431, (fr1.up (by decide) (fr1.tr (by decide) (fr1.up (by decide) (fr1.up (by decide) fr1.rf)) k422)), (fr2.tr (by decide) fr2.rf k423), ⟨p421c, p421d, p421g, p421h⟩⟩
                · refine k_c1 27 rfl rfl (if_neg b434) ?_
                  have b434 := mt iv_eq0.mpr b434
                  refine k_push 28 rfl rfl ?_
                  refine k_fin rfl (fin_Z (Or.inl rfl)) ⟨_, _, rfl, rf_len I420 I431, ?_⟩
                  show am_Ok _ _ _ (58, _, [.inl (0 : Int32)], _, 0, 0) _
                  refine k_c1 61 rfl rfl (if_pos (by decide)) ?_
                  refine k_push 62 rfl rfl ?_
                  exact k_fin rfl (fin_Z (Or.inl rfl)) ⟨_, _, _, _, rfl, I431, (fr1.up (by decide) (fr1.tr (by decide) (fr1.up (by decide) (fr1.up (by decide) fr1.rf)) k422)), (fr2.tr (by decide) fr2.rf k423), ⟨p421c, p421d, p421g, p421h⟩⟩
              · refine k_c1 16 rfl rfl (if_neg b429) ?_
                have b429 := mt iv_eq0.mpr b429
                refine k_aload 17 rfl rfl rfl ?_
                refine r_gI I420 20 rfl rfl rfl (fun x440 (e441 : x440.toInt = F418 0) => ?_)
                by_cases b442 : x440 = 0
                · refine k_c1 23 rfl rfl (if_pos b442) ?_
                  have b442 := iv_eq0.mp b442
                  refine k_push 24 rfl rfl ?_
                  refine k_goto 28 rfl rfl ?_
                  refine k_fin rfl (fin_Z (Or.inr rfl)) ⟨_, _, rfl, rf_len I420 I420, ?_⟩
                  show am_Ok _ _ _ (58, _, [.inl (1 : Int32)], _, 0, 0) _
                  refine k_c1 63 rfl rfl (if_neg (by decide)) ?_
                  have hbd : (A419 2) w1.toInt ≤ 1000 := by clear p421b; omega
                  clear p421b
                  refine k_aload 64 rfl rfl rfl ?_
                  refine r_gA I420 67 rfl rfl rfl ?_
                  refine k_iload 68 rfl rfl rfl ?_
                  refine r_ld 2 I420 69 rfl rfl (by omega) (show w1.toInt < 3 by omega) rfl (fun x443 (e444 : x443.toInt = A419 2 w1.toInt) => ?_)
                  refine k_aload 70 rfl rfl rfl ?_
                  refine r_gA I420 73 rfl rfl rfl ?_
                  refine k_iload 74 rfl rfl rfl ?_
                  refine r_ld 2 I420 75 rfl rfl (by omega) (show w2.toInt < 3 by omega) rfl (fun x445 (e446 : x445.toInt = A419 2 w2.toInt) => ?_)
                  by_cases b447 : x443 = x445
                  · refine k_c2 80 rfl rfl (if_pos b447) ?_
                    have b447 := iv_eq.mp b447
                    refine k_push 81 rfl rfl ?_
                    refine k_istore 82 rfl rfl ?_
                    exact b_X10_same_82 (lm := lm) (gT := gT) (gt := gt) (w1 := w1) (w2 := w2) p1 p2 p5 p6 p7 p8 p9 _  rfl (gs_ne rfl rfl rfl) (gs_ne rfl rfl rfl) (gs_ne rfl rfl rfl) gs_eq I420 (fr1.tr (by decide) (fr1.up (by decide) (fr1.up (by decide) fr1.rf)) k422) (fr2.tr (by decide) fr2.rf k423) (show 0 ≤ w1.toInt ∧ w1.toInt ≤ 2 ∧ 0 ≤ w2.toInt ∧ w2.toInt ≤ 2 by omega) (show (A419 2) w1.toInt ≤ 1000 by omega) (show 0 ≤ (0 : Int32).toInt ∧ (0 : Int32).toInt ≤ 1000 by omega) (show wr A419 from p421c) (show wq A419 from p421d) (show (A419 2) 2 = A0 2 2 from p421g) (show ∀ q : Int, 2600 ≤ q → (A419 1) q = A0 1 q from p421h)
                  · refine k_c2 78 rfl rfl (if_neg b447) ?_
                    have b447 := mt iv_eq.mpr b447
                    refine k_push 79 rfl rfl ?_
                    exact k_fin rfl (fin_Z (Or.inl rfl)) ⟨_, _, _, _, rfl, I420, (fr1.tr (by decide) (fr1.up (by decide) (fr1.up (by decide) fr1.rf)) k422), (fr2.tr (by decide) fr2.rf k423), ⟨p421c, p421d, p421g, p421h⟩⟩
                · refine k_c1 27 rfl rfl (if_neg b442) ?_
                  have b442 := mt iv_eq0.mpr b442
                  refine k_push 28 rfl rfl ?_
                  refine k_fin rfl (fin_Z (Or.inl rfl)) ⟨_, _, rfl, rf_len I420 I420, ?_⟩
                  show am_Ok _ _ _ (58, _, [.inl (0 : Int32)], _, 0, 0) _
                  refine k_c1 61 rfl rfl (if_pos (by decide)) ?_
                  refine k_push 62 rfl rfl ?_
                  exact k_fin rfl (fin_Z (Or.inl rfl)) ⟨_, _, _, _, rfl, I420, (fr1.tr (by decide) (fr1.up (by decide) (fr1.up (by decide) fr1.rf)) k422), (fr2.tr (by decide) fr2.rf k423), ⟨p421c, p421d, p421g, p421h⟩⟩
            · refine k_c1 41 rfl rfl (if_neg b425) ?_
              have b425 := mt iv_eq0.mpr b425
              obtain ⟨gn, hn1, hn2, hn3⟩ := p421b (by clear p421b; omega)
              clear p421b
              have fc := p421c
              have fd := p421d
              have fg := p421g
              have fh := p421h
              refine k_aload 42 rfl rfl rfl ?_
              refine k_iload 43 rfl rfl rfl ?_
              have e448 : F418 28 = F0 28 := k422 28 (by decide)
              refine k_rq I420 rfl (m_isTerm (lm := lm) (gT := gT) (gt := gt) I420.1 (show nn ((A419 24)) ((A419 25)) ((F418 28)) (gT) by rw [(k423 24 (by decide)), (k423 25 (by decide)), k422 28 (by decide)]; exact p1) (show nw ((A419 24)) ((A419 25)) ((A419 26)) (lm) ((F418 28)) by rw [(k423 24 (by decide)), (k423 25 (by decide)), (k423 26 (by decide)), k422 28 (by decide)]; exact p2) (show wr A419 from fc) (show wq A419 from fd) (show (A419 2) 2 = (gt) ∧ 1 ≤ (gt) ∧ (gt) ≤ 120 from ⟨fg.trans p7.1, p7.2⟩) (show wf ((A419 1)) 2600 (gt) from wf_congr (fun q hq => (fh _ (by omega)).symm) p8) (show cb ((A419 1)) 2600 (gt) 200 from cb.congr p9 (fun q hq => (fh _ (by omega)).symm)) (show 0 ≤ w2.toInt ∧ w2.toInt ≤ 2 by omega)) rfl rfl rfl I420.rc ?_
              rintro x449 h450 F451 A452 I453 ⟨k455, k456, p454⟩
              replace p454 : (x449.toInt = 0 ∨ x449.toInt = 1) ∧ (x449.toInt = 1 → ∃ n' : Nat, n' ≤ 1000 ∧ A452 2 w2.toInt = n' ∧ wf (A452 1) (1300 * w2.toInt) n') ∧ wr A452 ∧ wq A452 ∧ (∀ q : Int, q ≠ w2.toInt → A452 2 q = (A419 2) q) ∧ (∀ q : Int, (0 ≤ q ∧ q < 1300 * w2.toInt) ∨ 1300 * w2.toInt + 1300 ≤ q → A452 1 q = (A419 1) q) ∧ A452 2 2 = (A419 2) 2 ∧ (∀ q : Int, 2600 ≤ q → A452 1 q = (A419 1) q) := p454
              obtain ⟨p454a, p454b, p454c, p454d, p454e, p454f, p454g, p454h⟩ := p454
              have z457 := iv_01 (x := x449) p454a
              show am_Ok _ _ _ (46, _, [.inl x449, .inr (.inr (some 81))], _, 0, 0) _
              by_cases b458 : x449 = 0
              · refine k_c1 53 rfl rfl (if_pos b458) ?_
                have b458 := iv_eq0.mp b458
                refine k_push 54 rfl rfl ?_
                refine k_push 55 rfl rfl ?_
                refine k_in (d := 0) rfl rfl rfl rfl I453.rc ?_
                refine k_aload 1 rfl rfl rfl ?_
                refine r_gI I453 4 rfl rfl rfl (fun x459 (e460 : x459.toInt = F451 0) => ?_)
                have e461 : F451 0 = F418 0 := k455 0 (by decide)
                have e462 : F418 0 = (1 : Int32).toInt := k422 0 (by decide)
                by_cases b463 : x459 = 0
                · refine k_c1 7 rfl rfl (if_pos b463) ?_
                  have b463 := iv_eq0.mp b463
                  refine k_iload 8 rfl rfl rfl ?_
                  refine k_c1 11 rfl rfl (if_pos (by decide)) ?_
                  refine k_aload 12 rfl rfl rfl ?_
                  refine k_iload 13 rfl rfl rfl ?_
                  refine r_pI I453 16 rfl rfl rfl (fun h464 I465 => ?_)
                  refine k_aload 17 rfl rfl rfl ?_
                  refine r_gI I465 20 rfl rfl rfl (fun x466 (e467 : x466.toInt = (2 : Int32).toInt) => ?_)
                  by_cases b468 : x466 = 0
                  · refine k_c1 23 rfl rfl (if_pos b468) ?_
                    have b468 := iv_eq0.mp b468
                    refine k_push 24 rfl rfl ?_
                    refine k_goto 28 rfl rfl ?_
                    refine k_fin rfl (fin_Z (Or.inr rfl)) ⟨_, _, rfl, rf_len I453 I465, ?_⟩
                    show am_Ok _ _ _ (58, _, [.inl (1 : Int32)], _, 0, 0) _
                    refine k_c1 63 rfl rfl (if_neg (by decide)) ?_
                    have hbd : (A452 2) w1.toInt ≤ 1000 := sm_bd p454e hn2 hn1 (p454b (by clear p454b; omega))
                    clear p454b
                    refine k_aload 64 rfl rfl rfl ?_
                    refine r_gA I465 67 rfl rfl rfl ?_
                    refine k_iload 68 rfl rfl rfl ?_
                    refine r_ld 2 I465 69 rfl rfl (by omega) (show w1.toInt < 3 by omega) rfl (fun x469 (e470 : x469.toInt = A452 2 w1.toInt) => ?_)
                    refine k_aload 70 rfl rfl rfl ?_
                    refine r_gA I465 73 rfl rfl rfl ?_
                    refine k_iload 74 rfl rfl rfl ?_
                    refine r_ld 2 I465 75 rfl rfl (by omega) (show w2.toInt < 3 by omega) rfl (fun x471 (e472 : x471.toInt = A452 2 w2.toInt) => ?_)
                    by_cases b473 : x469 = x471
                    · refine k_c2 80 rfl rfl (if_pos b473) ?_
                      have b473 := iv_eq.mp b473
                      refine k_push 81 rfl rfl ?_
                      refine k_istore 82 rfl rfl ?_
                      exact b_X10_same_82 (lm := lm) (gT := gT) (gt := gt) (w1 := w1) (w2 := w2) p1 p2 p5 p6 p7 p8 p9 _  rfl (gs_ne rfl rfl rfl) (gs_ne rfl rfl rfl) (gs_ne rfl rfl rfl) gs_eq I465 (fr1.up (by decide) (fr1.tr (by decide) (fr1.tr (by decide) (fr1.up (by decide) (fr1.up (by decide) fr1.rf)) k422) k455)) (fr2.tr (by decide) (fr2.tr (by decide) fr2.rf k423) k456) (show 0 ≤ w1.toInt ∧ w1.toInt ≤ 2 ∧ 0 ≤ w2.toInt ∧ w2.toInt ≤ 2 by omega) (show (A452 2) w1.toInt ≤ 1000 by omega) (show 0 ≤ (0 : Int32).toInt ∧ (0 : Int32).toInt ≤ 1000 by omega) (show wr A452 from p454c) (show wq A452 from p454d) (show (A452 2) 2 = A0 2 2 from p454g.trans fg) (show ∀ q : Int, 2600 ≤ q → (A452 1) q = A0 1 q from fun q hq => (p454h q hq).trans (fh q hq))
                    · refine k_c2 78 rfl rfl (if_neg b473) ?_
                      have b473 := mt iv_eq.mpr b473
                      refine k_push 79 rfl rfl ?_
                      exact k_fin rfl (fin_Z (Or.inl rfl)) ⟨_, _, _, _, rfl, I465, (fr1.up (by decide) (fr1.tr (by decide) (fr1.tr (by decide) (fr1.up (by decide) (fr1.up (by decide) fr1.rf)) k422) k455)), (fr2.tr (by decide) (fr2.tr (by decide) fr2.rf k423) k456), ⟨p454c, p454d, p454g.trans fg, fun q hq => (p454h q hq).trans (fh q hq)⟩⟩
                  · refine k_c1 27 rfl rfl (if_neg b468) ?_
                    have b468 := mt iv_eq0.mpr b468
                    refine k_push 28 rfl rfl ?_
                    refine k_fin rfl (fin_Z (Or.inl rfl)) ⟨_, _, rfl, rf_len I453 I465, ?_⟩
                    show am_Ok _ _ _ (58, _, [.inl (0 : Int32)], _, 0, 0) _
                    refine k_c1 61 rfl rfl (if_pos (by decide)) ?_
                    refine k_push 62 rfl rfl ?_
                    exact k_fin rfl (fin_Z (Or.inl rfl)) ⟨_, _, _, _, rfl, I465, (fr1.up (by decide) (fr1.tr (by decide) (fr1.tr (by decide) (fr1.up (by decide) (fr1.up (by decide) fr1.rf)) k422) k455)), (fr2.tr (by decide) (fr2.tr (by decide) fr2.rf k423) k456), ⟨p454c, p454d, p454g.trans fg, fun q hq => (p454h q hq).trans (fh q hq)⟩⟩
                · refine k_c1 16 rfl rfl (if_neg b463) ?_
                  have b463 := mt iv_eq0.mpr b463
                  refine k_aload 17 rfl rfl rfl ?_
                  refine r_gI I453 20 rfl rfl rfl (fun x474 (e475 : x474.toInt = F451 0) => ?_)
                  by_cases b476 : x474 = 0
                  · refine k_c1 23 rfl rfl (if_pos b476) ?_
                    have b476 := iv_eq0.mp b476
                    refine k_push 24 rfl rfl ?_
                    refine k_goto 28 rfl rfl ?_
                    refine k_fin rfl (fin_Z (Or.inr rfl)) ⟨_, _, rfl, rf_len I453 I453, ?_⟩
                    show am_Ok _ _ _ (58, _, [.inl (1 : Int32)], _, 0, 0) _
                    refine k_c1 63 rfl rfl (if_neg (by decide)) ?_
                    have hbd : (A452 2) w1.toInt ≤ 1000 := sm_bd p454e hn2 hn1 (p454b (by clear p454b; omega))
                    clear p454b
                    refine k_aload 64 rfl rfl rfl ?_
                    refine r_gA I453 67 rfl rfl rfl ?_
                    refine k_iload 68 rfl rfl rfl ?_
                    refine r_ld 2 I453 69 rfl rfl (by omega) (show w1.toInt < 3 by omega) rfl (fun x477 (e478 : x477.toInt = A452 2 w1.toInt) => ?_)
                    refine k_aload 70 rfl rfl rfl ?_
                    refine r_gA I453 73 rfl rfl rfl ?_
                    refine k_iload 74 rfl rfl rfl ?_
                    refine r_ld 2 I453 75 rfl rfl (by omega) (show w2.toInt < 3 by omega) rfl (fun x479 (e480 : x479.toInt = A452 2 w2.toInt) => ?_)
                    by_cases b481 : x477 = x479
                    · refine k_c2 80 rfl rfl (if_pos b481) ?_
                      have b481 := iv_eq.mp b481
                      refine k_push 81 rfl rfl ?_
                      refine k_istore 82 rfl rfl ?_
                      exact b_X10_same_82 (lm := lm) (gT := gT) (gt := gt) (w1 := w1) (w2 := w2) p1 p2 p5 p6 p7 p8 p9 _  rfl (gs_ne rfl rfl rfl) (gs_ne rfl rfl rfl) (gs_ne rfl rfl rfl) gs_eq I453 (fr1.tr (by decide) (fr1.tr (by decide) (fr1.up (by decide) (fr1.up (by decide) fr1.rf)) k422) k455) (fr2.tr (by decide) (fr2.tr (by decide) fr2.rf k423) k456) (show 0 ≤ w1.toInt ∧ w1.toInt ≤ 2 ∧ 0 ≤ w2.toInt ∧ w2.toInt ≤ 2 by omega) (show (A452 2) w1.toInt ≤ 1000 by omega) (show 0 ≤ (0 : Int32).toInt ∧ (0 : Int32).toInt ≤ 1000 by omega) (show wr A452 from p454c) (show wq A452 from p454d) (show (A452 2) 2 = A0 2 2 from p454g.trans fg) (show ∀ q : Int, 2600 ≤ q → (A452 1) q = A0 1 q from fun q hq => (p454h q hq).trans (fh q hq))
                    · refine k_c2 78 rfl rfl (if_neg b481) ?_
                      have b481 := mt iv_eq.mpr b481
                      refine k_push 79 rfl rfl ?_
                      exact k_fin rfl (fin_Z (Or.inl rfl)) ⟨_, _, _, _, rfl, I453, (fr1.tr (by decide) (fr1.tr (by decide) (fr1.up (by decide) (fr1.up (by decide) fr1.rf)) k422) k455), (fr2.tr (by decide) (fr2.tr (by decide) fr2.rf k423) k456), ⟨p454c, p454d, p454g.trans fg, fun q hq => (p454h q hq).trans (fh q hq)⟩⟩
                  · refine k_c1 27 rfl rfl (if_neg b476) ?_
                    have b476 := mt iv_eq0.mpr b476
                    refine k_push 28 rfl rfl ?_
                    refine k_fin rfl (fin_Z (Or.inl rfl)) ⟨_, _, rfl, rf_len I453 I453, ?_⟩
                    show am_Ok _ _ _ (58, _, [.inl (0 : Int32)], _, 0, 0) _
                    refine k_c1 61 rfl rfl (if_pos (by decide)) ?_
                    refine k_push 62 rfl rfl ?_
                    exact k_fin rfl (fin_Z (Or.inl rfl)) ⟨_, _, _, _, rfl, I453, (fr1.tr (by decide) (fr1.tr (by decide) (fr1.up (by decide) (fr1.up (by decide) fr1.rf)) k422) k455), (fr2.tr (by decide) (fr2.tr (by decide) fr2.rf k423) k456), ⟨p454c, p454d, p454g.trans fg, fun q hq => (p454h q hq).trans (fh q hq)⟩⟩
              · refine k_c1 49 rfl rfl (if_neg b458) ?_
                have b458 := mt iv_eq0.mpr b458
                refine k_push 50 rfl rfl ?_
                refine k_goto 54 rfl rfl ?_
                refine k_push 55 rfl rfl ?_
                refine k_in (d := 0) rfl rfl rfl rfl I453.rc ?_
                refine k_aload 1 rfl rfl rfl ?_
                refine r_gI I453 4 rfl rfl rfl (fun x482 (e483 : x482.toInt = F451 0) => ?_)
                have e484 : F451 0 = F418 0 := k455 0 (by decide)
                have e485 : F418 0 = (1 : Int32).toInt := k422 0 (by decide)
                by_cases b486 : x482 = 0
                · refine k_c1 7 rfl rfl (if_pos b486) ?_
                  have b486 := iv_eq0.mp b486
                  refine k_iload 8 rfl rfl rfl ?_
                  refine k_c1 16 rfl rfl (if_neg (by decide)) ?_
                  refine k_aload 17 rfl rfl rfl ?_
                  refine r_gI I453 20 rfl rfl rfl (fun x487 (e488 : x487.toInt = F451 0) => ?_)
                  by_cases b489 : x487 = 0
                  · refine k_c1 23 rfl rfl (if_pos b489) ?_
                    have b489 := iv_eq0.mp b489
                    refine k_push 24 rfl rfl ?_
                    refine k_goto 28 rfl rfl ?_
                    refine k_fin rfl (fin_Z (Or.inr rfl)) ⟨_, _, rfl, rf_len I453 I453, ?_⟩
                    show am_Ok _ _ _ (58, _, [.inl (1 : Int32)], _, 0, 0) _
                    refine k_c1 63 rfl rfl (if_neg (by decide)) ?_
                    have hbd : (A452 2) w1.toInt ≤ 1000 := sm_bd p454e hn2 hn1 (p454b (by clear p454b; omega))
                    clear p454b
                    refine k_aload 64 rfl rfl rfl ?_
                    refine r_gA I453 67 rfl rfl rfl ?_
                    refine k_iload 68 rfl rfl rfl ?_
                    refine r_ld 2 I453 69 rfl rfl (by omega) (show w1.toInt < 3 by omega) rfl (fun x490 (e491 : x490.toInt = A452 2 w1.toInt) => ?_)
                    refine k_aload 70 rfl rfl rfl ?_
                    refine r_gA I453 73 rfl rfl rfl ?_
                    refine k_iload 74 rfl rfl rfl ?_
                    refine r_ld 2 I453 75 rfl rfl (by omega) (show w2.toInt < 3 by omega) rfl (fun x492 (e493 : x492.toInt = A452 2 w2.toInt) => ?_)
                    by_cases b494 : x490 = x492
                    · refine k_c2 80 rfl rfl (if_pos b494) ?_
                      have b494 := iv_eq.mp b494
                      refine k_push 81 rfl rfl ?_
                      refine k_istore 82 rfl rfl ?_
                      exact b_X10_same_82 (lm := lm) (gT := gT) (gt := gt) (w1 := w1) (w2 := w2) p1 p2 p5 p6 p7 p8 p9 _  rfl (gs_ne rfl rfl rfl) (gs_ne rfl rfl rfl) (gs_ne rfl rfl rfl) gs_eq I453 (fr1.tr (by decide) (fr1.tr (by decide) (fr1.up (by decide) (fr1.up (by decide) fr1.rf)) k422) k455) (fr2.tr (by decide) (fr2.tr (by decide) fr2.rf k423) k456) (show 0 ≤ w1.toInt ∧ w1.toInt ≤ 2 ∧ 0 ≤ w2.toInt ∧ w2.toInt ≤ 2 by omega) (show (A452 2) w1.toInt ≤ 1000 by omega) (show 0 ≤ (0 : Int32).toInt ∧ (0 : Int32).toInt ≤ 1000 by omega) (show wr A452 from p454c) (show wq A452 from p454d) (show (A452 2) 2 = A0 2 2 from p454g.trans fg) (show ∀ q : Int, 2600 ≤ q → (A452 1) q = A0 1 q from fun q hq => (p454h q hq).trans (fh q hq))
                    · refine k_c2 78 rfl rfl (if_neg b494) ?_
                      have b494 := mt iv_eq.mpr b494
                      refine k_push 79 rfl rfl ?_
                      exact k_fin rfl (fin_Z (Or.inl rfl)) ⟨_, _, _, _, rfl, I453, (fr1.tr (by decide) (fr1.tr (by decide) (fr1.up (by decide) (fr1.up (by decide) fr1.rf)) k422) k455), (fr2.tr (by decide) (fr2.tr (by decide) fr2.rf k423) k456), ⟨p454c, p454d, p454g.trans fg, fun q hq => (p454h q hq).trans (fh q hq)⟩⟩
                  · refine k_c1 27 rfl rfl (if_neg b489) ?_
                    have b489 := mt iv_eq0.mpr b489
                    refine k_push 28 rfl rfl ?_
                    refine k_fin rfl (fin_Z (Or.inl rfl)) ⟨_, _, rfl, rf_len I453 I453, ?_⟩
                    show am_Ok _ _ _ (58, _, [.inl (0 : Int32)], _, 0, 0) _
                    refine k_c1 61 rfl rfl (if_pos (by decide)) ?_
                    refine k_push 62 rfl rfl ?_
                    exact k_fin rfl (fin_Z (Or.inl rfl)) ⟨_, _, _, _, rfl, I453, (fr1.tr (by decide) (fr1.tr (by decide) (fr1.up (by decide) (fr1.up (by decide) fr1.rf)) k422) k455), (fr2.tr (by decide) (fr2.tr (by decide) fr2.rf k423) k456), ⟨p454c, p454d, p454g.trans fg, fun q hq => (p454h q hq).trans (fh q hq)⟩⟩
                · refine k_c1 16 rfl rfl (if_neg b486) ?_
                  have b486 := mt iv_eq0.mpr b486
                  refine k_aload 17 rfl rfl rfl ?_
                  refine r_gI I453 20 rfl rfl rfl (fun x495 (e496 : x495.toInt = F451 0) => ?_)
                  by_cases b497 : x495 = 0
                  · refine k_c1 23 rfl rfl (if_pos b497) ?_
                    have b497 := iv_eq0.mp b497
                    refine k_push 24 rfl rfl ?_
                    refine k_goto 28 rfl rfl ?_
                    refine k_fin rfl (fin_Z (Or.inr rfl)) ⟨_, _, rfl, rf_len I453 I453, ?_⟩
                    show am_Ok _ _ _ (58, _, [.inl (1 : Int32)], _, 0, 0) _
                    refine k_c1 63 rfl rfl (if_neg (by decide)) ?_
                    have hbd : (A452 2) w1.toInt ≤ 1000 := sm_bd p454e hn2 hn1 (p454b (by clear p454b; omega))
                    clear p454b
                    refine k_aload 64 rfl rfl rfl ?_
                    refine r_gA I453 67 rfl rfl rfl ?_
                    refine k_iload 68 rfl rfl rfl ?_
                    refine r_ld 2 I453 69 rfl rfl (by omega) (show w1.toInt < 3 by omega) rfl (fun x498 (e499 : x498.toInt = A452 2 w1.toInt) => ?_)
                    refine k_aload 70 rfl rfl rfl ?_
                    refine r_gA I453 73 rfl rfl rfl ?_
                    refine k_iload 74 rfl rfl rfl ?_
                    refine r_ld 2 I453 75 rfl rfl (by omega) (show w2.toInt < 3 by omega) rfl (fun x500 (e501 : x500.toInt = A452 2 w2.toInt) => ?_)
                    by_cases b502 : x498 = x500
                    · refine k_c2 80 rfl rfl (if_pos b502) ?_
                      have b502 := iv_eq.mp b502
                      refine k_push 81 rfl rfl ?_
                      refine k_istore 82 rfl rfl ?_
                      exact b_X10_same_82 (lm := lm) (gT := gT) (gt := gt) (w1 := w1) (w2 := w2) p1 p2 p5 p6 p7 p8 p9 _  rfl (gs_ne rfl rfl rfl) (gs_ne rfl rfl rfl) (gs_ne rfl rfl rfl) gs_eq I453 (fr1.tr (by decide) (fr1.tr (by decide) (fr1.up (by decide) (fr1.up (by decide) fr1.rf)) k422) k455) (fr2.tr (by decide) (fr2.tr (by decide) fr2.rf k423) k456) (show 0 ≤ w1.toInt ∧ w1.toInt ≤ 2 ∧ 0 ≤ w2.toInt ∧ w2.toInt ≤ 2 by omega) (show (A452 2) w1.toInt ≤ 1000 by omega) (show 0 ≤ (0 : Int32).toInt ∧ (0 : Int32).toInt ≤ 1000 by omega) (show wr A452 from p454c) (show wq A452 from p454d) (show (A452 2) 2 = A0 2 2 from p454g.trans fg) (show ∀ q : Int, 2600 ≤ q → (A452 1) q = A0 1 q from fun q hq => (p454h q hq).trans (fh q hq))
                    · refine k_c2 78 rfl rfl (if_neg b502) ?_
                      have b502 := mt iv_eq.mpr b502
                      refine k_push 79 rfl rfl ?_
                      exact k_fin rfl (fin_Z (Or.inl rfl)) ⟨_, _, _, _, rfl, I453, (fr1.tr (by decide) (fr1.tr (by decide) (fr1.up (by decide) (fr1.up (by decide) fr1.rf)) k422) k455), (fr2.tr (by decide) (fr2.tr (by decide) fr2.rf k423) k456), ⟨p454c, p454d, p454g.trans fg, fun q hq => (p454h q hq).trans (fh q hq)⟩⟩
                  · refine k_c1 27 rfl rfl (if_neg b497) ?_
                    have b497 := mt iv_eq0.mpr b497
                    refine k_push 28 rfl rfl ?_
                    refine k_fin rfl (fin_Z (Or.inl rfl)) ⟨_, _, rfl, rf_len I453 I453, ?_⟩
                    show am_Ok _ _ _ (58, _, [.inl (0 : Int32)], _, 0, 0) _
                    refine k_c1 61 rfl rfl (if_pos (by decide)) ?_
                    refine k_push 62 rfl rfl ?_
                    exact k_fin rfl (fin_Z (Or.inl rfl)) ⟨_, _, _, _, rfl, I453, (fr1.tr (by decide) (fr1.tr (by decide) (fr1.up (by decide) (fr1.up (by decide) fr1.rf)) k422) k455), (fr2.tr (by decide) (fr2.tr (by decide) fr2.rf k423) k456), ⟨p454c, p454d, p454g.trans fg, fun q hq => (p454h q hq).trans (fh q hq)⟩⟩
          · refine k_c1 27 rfl rfl (if_neg b415) ?_
            have b415 := mt iv_eq0.mpr b415
            refine k_push 28 rfl rfl ?_
            refine k_fin rfl (fin_Z (Or.inl rfl)) ⟨_, _, rfl, rf_len I30 I412, ?_⟩
            show am_Ok _ _ _ (29, _, [.inl (0 : Int32)], _, 0, 0) _
            refine k_c1 61 rfl rfl (if_pos (by decide)) ?_
            refine k_push 62 rfl rfl ?_
            exact k_fin rfl (fin_Z (Or.inl rfl)) ⟨_, _, _, _, rfl, I412, (fr1.up (by decide) (fr1.up (by decide) fr1.rf)), fr2.rf, ⟨p5, p6, rfl, fun q _ => rfl⟩⟩
        · refine k_c1 16 rfl rfl (if_neg b410) ?_
          have b410 := mt iv_eq0.mpr b410
          refine k_aload 17 rfl rfl rfl ?_
          refine r_gI I30 20 rfl rfl rfl (fun x503 (e504 : x503.toInt = (0 : Int32).toInt) => ?_)
          by_cases b505 : x503 = 0
          · refine k_c1 23 rfl rfl (if_pos b505) ?_
            have b505 := iv_eq0.mp b505
            refine k_push 24 rfl rfl ?_
            refine k_goto 28 rfl rfl ?_
            refine k_fin rfl (fin_Z (Or.inr rfl)) ⟨_, _, rfl, rf_len I30 I30, ?_⟩
            show am_Ok _ _ _ (29, _, [.inl (1 : Int32)], _, 0, 0) _
            refine k_c1 32 rfl rfl (if_neg (by decide)) ?_
            refine k_aload 33 rfl rfl rfl ?_
            refine k_aload 34 rfl rfl rfl ?_
            refine k_iload 35 rfl rfl rfl ?_
            refine k_rq I30 rfl (m_isTerm (lm := lm) (gT := gT) (gt := gt) I30.1 (show nn ((A0 24)) ((A0 25)) ((F0 28)) (gT) from p1) (show nw ((A0 24)) ((A0 25)) ((A0 26)) (lm) ((F0 28)) from p2) (show wr A0 from p5) (show wq A0 from p6) (show (A0 2) 2 = (gt) ∧ 1 ≤ (gt) ∧ (gt) ≤ 120 from p7) (show wf ((A0 1)) 2600 (gt) from p8) (show cb ((A0 1)) 2600 (gt) 200 from p9) (show 0 ≤ w1.toInt ∧ w1.toInt ≤ 2 by omega)) rfl rfl rfl I30.rc ?_
            rintro x506 h507 F508 A509 I510 ⟨k512, k513, p511⟩
            replace p511 : (x506.toInt = 0 ∨ x506.toInt = 1) ∧ (x506.toInt = 1 → ∃ n' : Nat, n' ≤ 1000 ∧ A509 2 w1.toInt = n' ∧ wf (A509 1) (1300 * w1.toInt) n') ∧ wr A509 ∧ wq A509 ∧ (∀ q : Int, q ≠ w1.toInt → A509 2 q = (A0 2) q) ∧ (∀ q : Int, (0 ≤ q ∧ q < 1300 * w1.toInt) ∨ 1300 * w1.toInt + 1300 ≤ q → A509 1 q = (A0 1) q) ∧ A509 2 2 = (A0 2) 2 ∧ (∀ q : Int, 2600 ≤ q → A509 1 q = (A0 1) q) := p511
            obtain ⟨p511a, p511b, p511c, p511d, p511e, p511f, p511g, p511h⟩ := p511
            have z514 := iv_01 (x := x506) p511a
            show am_Ok _ _ _ (38, _, [.inl x506, .inr (.inr (some 81))], _, 0, 0) _
            by_cases b515 : x506 = 0
            · refine k_c1 53 rfl rfl (if_pos b515) ?_
              have b515 := iv_eq0.mp b515
              refine k_push 54 rfl rfl ?_
              refine k_push 55 rfl rfl ?_
              refine k_in (d := 0) rfl rfl rfl rfl I510.rc ?_
              refine k_aload 1 rfl rfl rfl ?_
              refine r_gI I510 4 rfl rfl rfl (fun x516 (e517 : x516.toInt = F508 0) => ?_)
              have e518 : F508 0 = (0 : Int32).toInt := k512 0 (by decide)
              by_cases b519 : x516 = 0
              · refine k_c1 7 rfl rfl (if_pos b519) ?_
                have b519 := iv_eq0.mp b519
                refine k_iload 8 rfl rfl rfl ?_
                refine k_c1 11 rfl rfl (if_pos (by decide)) ?_
                refine k_aload 12 rfl rfl rfl ?_
                refine k_iload 13 rfl rfl rfl ?_
                refine r_pI I510 16 rfl rfl rfl (fun h520 I521 => ?_)
                refine k_aload 17 rfl rfl rfl ?_
                refine r_gI I521 20 rfl rfl rfl (fun x522 (e523 : x522.toInt = (2 : Int32).toInt) => ?_)
                by_cases b524 : x522 = 0
                · refine k_c1 23 rfl rfl (if_pos b524) ?_
                  have b524 := iv_eq0.mp b524
                  refine k_push 24 rfl rfl ?_
                  refine k_goto 28 rfl rfl ?_
                  refine k_fin rfl (fin_Z (Or.inr rfl)) ⟨_, _, rfl, rf_len I510 I521, ?_⟩
                  show am_Ok _ _ _ (58, _, [.inl (1 : Int32)], _, 0, 0) _
                  refine k_c1 63 rfl rfl (if_neg (by decide)) ?_
                  have hbd : (A509 2) w1.toInt ≤ 1000 := by clear p511b; omega
                  clear p511b
                  refine k_aload 64 rfl rfl rfl ?_
                  refine r_gA I521 67 rfl rfl rfl ?_
                  refine k_iload 68 rfl rfl rfl ?_
                  refine r_ld 2 I521 69 rfl rfl (by omega) (show w1.toInt < 3 by omega) rfl (fun x525 (e526 : x525.toInt = A509 2 w1.toInt) => ?_)
                  refine k_aload 70 rfl rfl rfl ?_
                  refine r_gA I521 73 rfl rfl rfl ?_
                  refine k_iload 74 rfl rfl rfl ?_
                  refine r_ld 2 I521 75 rfl rfl (by omega) (show w2.toInt < 3 by omega) rfl (fun x527 (e528 : x527.toInt = A509 2 w2.toInt) => ?_)
                  by_cases b529 : x525 = x527
                  · refine k_c2 80 rfl rfl (if_pos b529) ?_
                    have b529 := iv_eq.mp b529
                    refine k_push 81 rfl rfl ?_
                    refine k_istore 82 rfl rfl ?_
                    exact b_X10_same_82 (lm := lm) (gT := gT) (gt := gt) (w1 := w1) (w2 := w2) p1 p2 p5 p6 p7 p8 p9 _  rfl (gs_ne rfl rfl rfl) (gs_ne rfl rfl rfl) (gs_ne rfl rfl rfl) gs_eq I521 (fr1.up (by decide) (fr1.tr (by decide) (fr1.up (by decide) fr1.rf) k512)) (fr2.tr (by decide) fr2.rf k513) (show 0 ≤ w1.toInt ∧ w1.toInt ≤ 2 ∧ 0 ≤ w2.toInt ∧ w2.toInt ≤ 2 by omega) (show (A509 2) w1.toInt ≤ 1000 by omega) (show 0 ≤ (0 : Int32).toInt ∧ (0 : Int32).toInt ≤ 1000 by omega) (show wr A509 from p511c) (show wq A509 from p511d) (show (A509 2) 2 = A0 2 2 from p511g) (show ∀ q : Int, 2600 ≤ q → (A509 1) q = A0 1 q from p511h)
                  · refine k_c2 78 rfl rfl (if_neg b529) ?_
                    have b529 := mt iv_eq.mpr b529
                    refine k_push 79 rfl rfl ?_
                    exact k_fin rfl (fin_Z (Or.inl rfl)) ⟨_, _, _, _, rfl, I521, (fr1.up (by decide) (fr1.tr (by decide) (fr1.up (by decide) fr1.rf) k512)), (fr2.tr (by decide) fr2.rf k513), ⟨p511c, p511d, p511g, p511h⟩⟩
                · refine k_c1 27 rfl rfl (if_neg b524) ?_
                  have b524 := mt iv_eq0.mpr b524
                  refine k_push 28 rfl rfl ?_
                  refine k_fin rfl (fin_Z (Or.inl rfl)) ⟨_, _, rfl, rf_len I510 I521, ?_⟩
                  show am_Ok _ _ _ (58, _, [.inl (0 : Int32)], _, 0, 0) _
                  refine k_c1 61 rfl rfl (if_pos (by decide)) ?_
                  refine k_push 62 rfl rfl ?_
                  exact k_fin rfl (fin_Z (Or.inl rfl)) ⟨_, _, _, _, rfl, I521, (fr1.up (by decide) (fr1.tr (by decide) (fr1.up (by decide) fr1.rf) k512)), (fr2.tr (by decide) fr2.rf k513), ⟨p511c, p511d, p511g, p511h⟩⟩
              · refine k_c1 16 rfl rfl (if_neg b519) ?_
                have b519 := mt iv_eq0.mpr b519
                refine k_aload 17 rfl rfl rfl ?_
                refine r_gI I510 20 rfl rfl rfl (fun x530 (e531 : x530.toInt = F508 0) => ?_)
                by_cases b532 : x530 = 0
                · refine k_c1 23 rfl rfl (if_pos b532) ?_
                  have b532 := iv_eq0.mp b532
                  refine k_push 24 rfl rfl ?_
                  refine k_goto 28 rfl rfl ?_
                  refine k_fin rfl (fin_Z (Or.inr rfl)) ⟨_, _, rfl, rf_len I510 I510, ?_⟩
                  show am_Ok _ _ _ (58, _, [.inl (1 : Int32)], _, 0, 0) _
                  refine k_c1 63 rfl rfl (if_neg (by decide)) ?_
                  have hbd : (A509 2) w1.toInt ≤ 1000 := by clear p511b; omega
                  clear p511b
                  refine k_aload 64 rfl rfl rfl ?_
                  refine r_gA I510 67 rfl rfl rfl ?_
                  refine k_iload 68 rfl rfl rfl ?_
                  refine r_ld 2 I510 69 rfl rfl (by omega) (show w1.toInt < 3 by omega) rfl (fun x533 (e534 : x533.toInt = A509 2 w1.toInt) => ?_)
                  refine k_aload 70 rfl rfl rfl ?_
                  refine r_gA I510 73 rfl rfl rfl ?_
                  refine k_iload 74 rfl rfl rfl ?_
                  refine r_ld 2 I510 75 rfl rfl (by omega) (show w2.toInt < 3 by omega) rfl (fun x535 (e536 : x535.toInt = A509 2 w2.toInt) => ?_)
                  by_cases b537 : x533 = x535
                  · refine k_c2 80 rfl rfl (if_pos b537) ?_
                    have b537 := iv_eq.mp b537
                    refine k_push 81 rfl rfl ?_
                    refine k_istore 82 rfl rfl ?_
                    exact b_X10_same_82 (lm := lm) (gT := gT) (gt := gt) (w1 := w1) (w2 := w2) p1 p2 p5 p6 p7 p8 p9 _  rfl (gs_ne rfl rfl rfl) (gs_ne rfl rfl rfl) (gs_ne rfl rfl rfl) gs_eq I510 (fr1.tr (by decide) (fr1.up (by decide) fr1.rf) k512) (fr2.tr (by decide) fr2.rf k513) (show 0 ≤ w1.toInt ∧ w1.toInt ≤ 2 ∧ 0 ≤ w2.toInt ∧ w2.toInt ≤ 2 by omega) (show (A509 2) w1.toInt ≤ 1000 by omega) (show 0 ≤ (0 : Int32).toInt ∧ (0 : Int32).toInt ≤ 1000 by omega) (show wr A509 from p511c) (show wq A509 from p511d) (show (A509 2) 2 = A0 2 2 from p511g) (show ∀ q : Int, 2600 ≤ q → (A509 1) q = A0 1 q from p511h)
                  · refine k_c2 78 rfl rfl (if_neg b537) ?_
                    have b537 := mt iv_eq.mpr b537
                    refine k_push 79 rfl rfl ?_
                    exact k_fin rfl (fin_Z (Or.inl rfl)) ⟨_, _, _, _, rfl, I510, (fr1.tr (by decide) (fr1.up (by decide) fr1.rf) k512), (fr2.tr (by decide) fr2.rf k513), ⟨p511c, p511d, p511g, p511h⟩⟩
                · refine k_c1 27 rfl rfl (if_neg b532) ?_
                  have b532 := mt iv_eq0.mpr b532
                  refine k_push 28 rfl rfl ?_
                  refine k_fin rfl (fin_Z (Or.inl rfl)) ⟨_, _, rfl, rf_len I510 I510, ?_⟩
                  show am_Ok _ _ _ (58, _, [.inl (0 : Int32)], _, 0, 0) _
                  refine k_c1 61 rfl rfl (if_pos (by decide)) ?_
                  refine k_push 62 rfl rfl ?_
                  exact k_fin rfl (fin_Z (Or.inl rfl)) ⟨_, _, _, _, rfl, I510, (fr1.tr (by decide) (fr1.up (by decide) fr1.rf) k512), (fr2.tr (by decide) fr2.rf k513), ⟨p511c, p511d, p511g, p511h⟩⟩
            · refine k_c1 41 rfl rfl (if_neg b515) ?_
              have b515 := mt iv_eq0.mpr b515
              obtain ⟨gn, hn1, hn2, hn3⟩ := p511b (by clear p511b; omega)
              clear p511b
              have fc := p511c
              have fd := p511d
              have fg := p511g
              have fh := p511h
              refine k_aload 42 rfl rfl rfl ?_
              refine k_iload 43 rfl rfl rfl ?_
              have e538 : F508 28 = F0 28 := k512 28 (by decide)
              refine k_rq I510 rfl (m_isTerm (lm := lm) (gT := gT) (gt := gt) I510.1 (show nn ((A509 24)) ((A509 25)) ((F508 28)) (gT) by rw [(k513 24 (by decide)), (k513 25 (by decide)), k512 28 (by decide)]; exact p1) (show nw ((A509 24)) ((A509 25)) ((A509 26)) (lm) ((F508 28)) by rw [(k513 24 (by decide)), (k513 25 (by decide)), (k513 26 (by decide)), k512 28 (by decide)]; exact p2) (show wr A509 from fc) (show wq A509 from fd) (show (A509 2) 2 = (gt) ∧ 1 ≤ (gt) ∧ (gt) ≤ 120 from ⟨fg.trans p7.1, p7.2⟩) (show wf ((A509 1)) 2600 (gt) from wf_congr (fun q hq => (fh _ (by omega)).symm) p8) (show cb ((A509 1)) 2600 (gt) 200 from cb.congr p9 (fun q hq => (fh _ (by omega)).symm)) (show 0 ≤ w2.toInt ∧ w2.toInt ≤ 2 by omega)) rfl rfl rfl I510.rc ?_
              rintro x539 h540 F541 A542 I543 ⟨k545, k546, p544⟩
              replace p544 : (x539.toInt = 0 ∨ x539.toInt = 1) ∧ (x539.toInt = 1 → ∃ n' : Nat, n' ≤ 1000 ∧ A542 2 w2.toInt = n' ∧ wf (A542 1) (1300 * w2.toInt) n') ∧ wr A542 ∧ wq A542 ∧ (∀ q : Int, q ≠ w2.toInt → A542 2 q = (A509 2) q) ∧ (∀ q : Int, (0 ≤ q ∧ q < 1300 * w2.toInt) ∨ 1300 * w2.toInt + 1300 ≤ q → A542 1 q = (A509 1) q) ∧ A542 2 2 = (A509 2) 2 ∧ (∀ q : Int, 2600 ≤ q → A542 1 q = (A509 1) q) := p544
              obtain ⟨p544a, p544b, p544c, p544d, p544e, p544f, p544g, p544h⟩ := p544
              have z547 := iv_01 (x := x539) p544a
              show am_Ok _ _ _ (46, _, [.inl x539, .inr (.inr (some 81))], _, 0, 0) _
              by_cases b548 : x539 = 0
              · refine k_c1 53 rfl rfl (if_pos b548) ?_
                have b548 := iv_eq0.mp b548
                refine k_push 54 rfl rfl ?_
                refine k_push 55 rfl rfl ?_
                refine k_in (d := 0) rfl rfl rfl rfl I543.rc ?_
                refine k_aload 1 rfl rfl rfl ?_
                refine r_gI I543 4 rfl rfl rfl (fun x549 (e550 : x549.toInt = F541 0) => ?_)
                have e551 : F541 0 = F508 0 := k545 0 (by decide)
                have e552 : F508 0 = (0 : Int32).toInt := k512 0 (by decide)
                by_cases b553 : x549 = 0
                · refine k_c1 7 rfl rfl (if_pos b553) ?_
                  have b553 := iv_eq0.mp b553
                  refine k_iload 8 rfl rfl rfl ?_
                  refine k_c1 11 rfl rfl (if_pos (by decide)) ?_
                  refine k_aload 12 rfl rfl rfl ?_
                  refine k_iload 13 rfl rfl rfl ?_
                  refine r_pI I543 16 rfl rfl rfl (fun h554 I555 => ?_)
                  refine k_aload 17 rfl rfl rfl ?_
                  refine r_gI I555 20 rfl rfl rfl (fun x556 (e557 : x556.toInt = (2 : Int32).toInt) => ?_)
                  by_cases b558 : x556 = 0
                  · refine k_c1 23 rfl rfl (if_pos b558) ?_
                    have b558 := iv_eq0.mp b558
                    refine k_push 24 rfl rfl ?_
                    refine k_goto 28 rfl rfl ?_
                    refine k_fin rfl (fin_Z (Or.inr rfl)) ⟨_, _, rfl, rf_len I543 I555, ?_⟩
                    show am_Ok _ _ _ (58, _, [.inl (1 : Int32)], _, 0, 0) _
                    refine k_c1 63 rfl rfl (if_neg (by decide)) ?_
                    have hbd : (A542 2) w1.toInt ≤ 1000 := sm_bd p544e hn2 hn1 (p544b (by clear p544b; omega))
                    clear p544b
                    refine k_aload 64 rfl rfl rfl ?_
                    refine r_gA I555 67 rfl rfl rfl ?_
                    refine k_iload 68 rfl rfl rfl ?_
                    refine r_ld 2 I555 69 rfl rfl (by omega) (show w1.toInt < 3 by omega) rfl (fun x559 (e560 : x559.toInt = A542 2 w1.toInt) => ?_)
                    refine k_aload 70 rfl rfl rfl ?_
                    refine r_gA I555 73 rfl rfl rfl ?_
                    refine k_iload 74 rfl rfl rfl ?_
                    refine r_ld 2 I555 75 rfl rfl (by omega) (show w2.toInt < 3 by omega) rfl (fun x561 (e562 : x561.toInt = A542 2 w2.toInt) => ?_)
                    by_cases b563 : x559 = x561
                    · refine k_c2 80 rfl rfl (if_pos b563) ?_
                      have b563 := iv_eq.mp b563
                      refine k_push 81 rfl rfl ?_
                      refine k_istore 82 rfl rfl ?_
                      exact b_X10_same_82 (lm := lm) (gT := gT) (gt := gt) (w1 := w1) (w2 := w2) p1 p2 p5 p6 p7 p8 p9 _  rfl (gs_ne rfl rfl rfl) (gs_ne rfl rfl rfl) (gs_ne rfl rfl rfl) gs_eq I555 (fr1.up (by decide) (fr1.tr (by decide) (fr1.tr (by decide) (fr1.up (by decide) fr1.rf) k512) k545)) (fr2.tr (by decide) (fr2.tr (by decide) fr2.rf k513) k546) (show 0 ≤ w1.toInt ∧ w1.toInt ≤ 2 ∧ 0 ≤ w2.toInt ∧ w2.toInt ≤ 2 by omega) (show (A542 2) w1.toInt ≤ 1000 by omega) (show 0 ≤ (0 : Int32).toInt ∧ (0 : Int32).toInt ≤ 1000 by omega) (show wr A542 from p544c) (show wq A542 from p544d) (show (A542 2) 2 = A0 2 2 from p544g.trans fg) (show ∀ q : Int, 2600 ≤ q → (A542 1) q = A0 1 q from fun q hq => (p544h q hq).trans (fh q hq))
                    · refine k_c2 78 rfl rfl (if_neg b563) ?_
                      have b563 := mt iv_eq.mpr b563
                      refine k_push 79 rfl rfl ?_
                      exact k_fin rfl (fin_Z (Or.inl rfl)) ⟨_, _, _, _, rfl, I555, (fr1.up (by decide) (fr1.tr (by decide) (fr1.tr (by decide) (fr1.up (by decide) fr1.rf) k512) k545)), (fr2.tr (by decide) (fr2.tr (by decide) fr2.rf k513) k546), ⟨p544c, p544d, p544g.trans fg, fun q hq => (p544h q hq).trans (fh q hq)⟩⟩
                  · refine k_c1 27 rfl rfl (if_neg b558) ?_
                    have b558 := mt iv_eq0.mpr b558
                    refine k_push 28 rfl rfl ?_
                    refine k_fin rfl (fin_Z (Or.inl rfl)) ⟨_, _, rfl, rf_len I543 I555, ?_⟩
                    show am_Ok _ _ _ (58, _, [.inl (0 : Int32)], _, 0, 0) _
                    refine k_c1 61 rfl rfl (if_pos (by decide)) ?_
                    refine k_push 62 rfl rfl ?_
                    exact k_fin rfl (fin_Z (Or.inl rfl)) ⟨_, _, _, _, rfl, I555, (fr1.up (by decide) (fr1.tr (by decide) (fr1.tr (by decide) (fr1.up (by decide) fr1.rf) k512) k545)), (fr2.tr (by decide) (fr2.tr (by decide) fr2.rf k513) k546), ⟨p544c, p544d, p544g.trans fg, fun q hq => (p544h q hq).trans (fh q hq)⟩⟩
                · refine k_c1 16 rfl rfl (if_neg b553) ?_
                  have b553 := mt iv_eq0.mpr b553
                  refine k_aload 17 rfl rfl rfl ?_
                  refine r_gI I543 20 rfl rfl rfl (fun x564 (e565 : x564.toInt = F541 0) => ?_)
                  by_cases b566 : x564 = 0
                  · refine k_c1 23 rfl rfl (if_pos b566) ?_
                    have b566 := iv_eq0.mp b566
                    refine k_push 24 rfl rfl ?_
                    refine k_goto 28 rfl rfl ?_
                    refine k_fin rfl (fin_Z (Or.inr rfl)) ⟨_, _, rfl, rf_len I543 I543, ?_⟩
                    show am_Ok _ _ _ (58, _, [.inl (1 : Int32)], _, 0, 0) _
                    refine k_c1 63 rfl rfl (if_neg (by decide)) ?_
                    have hbd : (A542 2) w1.toInt ≤ 1000 := sm_bd p544e hn2 hn1 (p544b (by clear p544b; omega))
                    clear p544b
                    refine k_aload 64 rfl rfl rfl ?_
                    refine r_gA I543 67 rfl rfl rfl ?_
                    refine k_iload 68 rfl rfl rfl ?_
                    refine r_ld 2 I543 69 rfl rfl (by omega) (show w1.toInt < 3 by omega) rfl (fun x567 (e568 : x567.toInt = A542 2 w1.toInt) => ?_)
                    refine k_aload 70 rfl rfl rfl ?_
                    refine r_gA I543 73 rfl rfl rfl ?_
                    refine k_iload 74 rfl rfl rfl ?_
                    refine r_ld 2 I543 75 rfl rfl (by omega) (show w2.toInt < 3 by omega) rfl (fun x569 (e570 : x569.toInt = A542 2 w2.toInt) => ?_)
                    by_cases b571 : x567 = x569
                    · refine k_c2 80 rfl rfl (if_pos b571) ?_
                      have b571 := iv_eq.mp b571
                      refine k_push 81 rfl rfl ?_
                      refine k_istore 82 rfl rfl ?_
                      exact b_X10_same_82 (lm := lm) (gT := gT) (gt := gt) (w1 := w1) (w2 := w2) p1 p2 p5 p6 p7 p8 p9 _  rfl (gs_ne rfl rfl rfl) (gs_ne rfl rfl rfl) (gs_ne rfl rfl rfl) gs_eq I543 (fr1.tr (by decide) (fr1.tr (by decide) (fr1.up (by decide) fr1.rf) k512) k545) (fr2.tr (by decide) (fr2.tr (by decide) fr2.rf k513) k546) (show 0 ≤ w1.toInt ∧ w1.toInt ≤ 2 ∧ 0 ≤ w2.toInt ∧ w2.toInt ≤ 2 by omega) (show (A542 2) w1.toInt ≤ 1000 by omega) (show 0 ≤ (0 : Int32).toInt ∧ (0 : Int32).toInt ≤ 1000 by omega) (show wr A542 from p544c) (show wq A542 from p544d) (show (A542 2) 2 = A0 2 2 from p544g.trans fg) (show ∀ q : Int, 2600 ≤ q → (A542 1) q = A0 1 q from fun q hq => (p544h q hq).trans (fh q hq))
                    · refine k_c2 78 rfl rfl (if_neg b571) ?_
                      have b571 := mt iv_eq.mpr b571
                      refine k_push 79 rfl rfl ?_
                      exact k_fin rfl (fin_Z (Or.inl rfl)) ⟨_, _, _, _, rfl, I543, (fr1.tr (by decide) (fr1.tr (by decide) (fr1.up (by decide) fr1.rf) k512) k545), (fr2.tr (by decide) (fr2.tr (by decide) fr2.rf k513) k546), ⟨p544c, p544d, p544g.trans fg, fun q hq => (p544h q hq).trans (fh q hq)⟩⟩
                  · refine k_c1 27 rfl rfl (if_neg b566) ?_
                    have b566 := mt iv_eq0.mpr b566
                    refine k_push 28 rfl rfl ?_
                    refine k_fin rfl (fin_Z (Or.inl rfl)) ⟨_, _, rfl, rf_len I543 I543, ?_⟩
                    show am_Ok _ _ _ (58, _, [.inl (0 : Int32)], _, 0, 0) _
                    refine k_c1 61 rfl rfl (if_pos (by decide)) ?_
                    refine k_push 62 rfl rfl ?_
                    exact k_fin rfl (fin_Z (Or.inl rfl)) ⟨_, _, _, _, rfl, I543, (fr1.tr (by decide) (fr1.tr (by decide) (fr1.up (by decide) fr1.rf) k512) k545), (fr2.tr (by decide) (fr2.tr (by decide) fr2.rf k513) k546), ⟨p544c, p544d, p544g.trans fg, fun q hq => (p544h q hq).trans (fh q hq)⟩⟩
              · refine k_c1 49 rfl rfl (if_neg b548) ?_
                have b548 := mt iv_eq0.mpr b548
                refine k_push 50 rfl rfl ?_
                refine k_goto 54 rfl rfl ?_
                refine k_push 55 rfl rfl ?_
                refine k_in (d := 0) rfl rfl rfl rfl I543.rc ?_
                refine k_aload 1 rfl rfl rfl ?_
                refine r_gI I543 4 rfl rfl rfl (fun x572 (e573 : x572.toInt = F541 0) => ?_)
                have e574 : F541 0 = F508 0 := k545 0 (by decide)
                have e575 : F508 0 = (0 : Int32).toInt := k512 0 (by decide)
                by_cases b576 : x572 = 0
                · refine k_c1 7 rfl rfl (if_pos b576) ?_
                  have b576 := iv_eq0.mp b576
                  refine k_iload 8 rfl rfl rfl ?_
                  refine k_c1 16 rfl rfl (if_neg (by decide)) ?_
                  refine k_aload 17 rfl rfl rfl ?_
                  refine r_gI I543 20 rfl rfl rfl (fun x577 (e578 : x577.toInt = F541 0) => ?_)
                  by_cases b579 : x577 = 0
                  · refine k_c1 23 rfl rfl (if_pos b579) ?_
                    have b579 := iv_eq0.mp b579
                    refine k_push 24 rfl rfl ?_
                    refine k_goto 28 rfl rfl ?_
                    refine k_fin rfl (fin_Z (Or.inr rfl)) ⟨_, _, rfl, rf_len I543 I543, ?_⟩
                    show am_Ok _ _ _ (58, _, [.inl (1 : Int32)], _, 0, 0) _
                    refine k_c1 63 rfl rfl (if_neg (by decide)) ?_
                    have hbd : (A542 2) w1.toInt ≤ 1000 := sm_bd p544e hn2 hn1 (p544b (by clear p544b; omega))
                    clear p544b
                    refine k_aload 64 rfl rfl rfl ?_
                    refine r_gA I543 67 rfl rfl rfl ?_
                    refine k_iload 68 rfl rfl rfl ?_
                    refine r_ld 2 I543 69 rfl rfl (by omega) (show w1.toInt < 3 by omega) rfl (fun x580 (e581 : x580.toInt = A542 2 w1.toInt) => ?_)
                    refine k_aload 70 rfl rfl rfl ?_
                    refine r_gA I543 73 rfl rfl rfl ?_
                    refine k_iload 74 rfl rfl rfl ?_
                    refine r_ld 2 I543 75 rfl rfl (by omega) (show w2.toInt < 3 by omega) rfl (fun x582 (e583 : x582.toInt = A542 2 w2.toInt) => ?_)
                    by_cases b584 : x580 = x582
                    · refine k_c2 80 rfl rfl (if_pos b584) ?_
                      have b584 := iv_eq.mp b584
                      refine k_push 81 rfl rfl ?_
                      refine k_istore 82 rfl rfl ?_
                      exact b_X10_same_82 (lm := lm) (gT := gT) (gt := gt) (w1 := w1) (w2 := w2) p1 p2 p5 p6 p7 p8 p9 _  rfl (gs_ne rfl rfl rfl) (gs_ne rfl rfl rfl) (gs_ne rfl rfl rfl) gs_eq I543 (fr1.tr (by decide) (fr1.tr (by decide) (fr1.up (by decide) fr1.rf) k512) k545) (fr2.tr (by decide) (fr2.tr (by decide) fr2.rf k513) k546) (show 0 ≤ w1.toInt ∧ w1.toInt ≤ 2 ∧ 0 ≤ w2.toInt ∧ w2.toInt ≤ 2 by omega) (show (A542 2) w1.toInt ≤ 1000 by omega) (show 0 ≤ (0 : Int32).toInt ∧ (0 : Int32).toInt ≤ 1000 by omega) (show wr A542 from p544c) (show wq A542 from p544d) (show (A542 2) 2 = A0 2 2 from p544g.trans fg) (show ∀ q : Int, 2600 ≤ q → (A542 1) q = A0 1 q from fun q hq => (p544h q hq).trans (fh q hq))
                    · refine k_c2 78 rfl rfl (if_neg b584) ?_
                      have b584 := mt iv_eq.mpr b584
                      refine k_push 79 rfl rfl ?_
                      exact k_fin rfl (fin_Z (Or.inl rfl)) ⟨_, _, _, _, rfl, I543, (fr1.tr (by decide) (fr1.tr (by decide) (fr1.up (by decide) fr1.rf) k512) k545), (fr2.tr (by decide) (fr2.tr (by decide) fr2.rf k513) k546), ⟨p544c, p544d, p544g.trans fg, fun q hq => (p544h q hq).trans (fh q hq)⟩⟩
                  · refine k_c1 27 rfl rfl (if_neg b579) ?_
                    have b579 := mt iv_eq0.mpr b579
                    refine k_push 28 rfl rfl ?_
                    refine k_fin rfl (fin_Z (Or.inl rfl)) ⟨_, _, rfl, rf_len I543 I543, ?_⟩
                    show am_Ok _ _ _ (58, _, [.inl (0 : Int32)], _, 0, 0) _
                    refine k_c1 61 rfl rfl (if_pos (by decide)) ?_
                    refine k_push 62 rfl rfl ?_
                    exact k_fin rfl (fin_Z (Or.inl rfl)) ⟨_, _, _, _, rfl, I543, (fr1.tr (by decide) (fr1.tr (by decide) (fr1.up (by decide) fr1.rf) k512) k545), (fr2.tr (by decide) (fr2.tr (by decide) fr2.rf k513) k546), ⟨p544c, p544d, p544g.trans fg, fun q hq => (p544h q hq).trans (fh q hq)⟩⟩
                · refine k_c1 16 rfl rfl (if_neg b576) ?_
                  have b576 := mt iv_eq0.mpr b576
                  refine k_aload 17 rfl rfl rfl ?_
                  refine r_gI I543 20 rfl rfl rfl (fun x585 (e586 : x585.toInt = F541 0) => ?_)
                  by_cases b587 : x585 = 0
                  · refine k_c1 23 rfl rfl (if_pos b587) ?_
                    have b587 := iv_eq0.mp b587
                    refine k_push 24 rfl rfl ?_
                    refine k_goto 28 rfl rfl ?_
                    refine k_fin rfl (fin_Z (Or.inr rfl)) ⟨_, _, rfl, rf_len I543 I543, ?_⟩
                    show am_Ok _ _ _ (58, _, [.inl (1 : Int32)], _, 0, 0) _
                    refine k_c1 63 rfl rfl (if_neg (by decide)) ?_
                    have hbd : (A542 2) w1.toInt ≤ 1000 := sm_bd p544e hn2 hn1 (p544b (by clear p544b; omega))
                    clear p544b
                    refine k_aload 64 rfl rfl rfl ?_
                    refine r_gA I543 67 rfl rfl rfl ?_
                    refine k_iload 68 rfl rfl rfl ?_
                    refine r_ld 2 I543 69 rfl rfl (by omega) (show w1.toInt < 3 by omega) rfl (fun x588 (e589 : x588.toInt = A542 2 w1.toInt) => ?_)
                    refine k_aload 70 rfl rfl rfl ?_
                    refine r_gA I543 73 rfl rfl rfl ?_
                    refine k_iload 74 rfl rfl rfl ?_
                    refine r_ld 2 I543 75 rfl rfl (by omega) (show w2.toInt < 3 by omega) rfl (fun x590 (e591 : x590.toInt = A542 2 w2.toInt) => ?_)
                    by_cases b592 : x588 = x590
                    · refine k_c2 80 rfl rfl (if_pos b592) ?_
                      have b592 := iv_eq.mp b592
                      refine k_push 81 rfl rfl ?_
                      refine k_istore 82 rfl rfl ?_
                      exact b_X10_same_82 (lm := lm) (gT := gT) (gt := gt) (w1 := w1) (w2 := w2) p1 p2 p5 p6 p7 p8 p9 _  rfl (gs_ne rfl rfl rfl) (gs_ne rfl rfl rfl) (gs_ne rfl rfl rfl) gs_eq I543 (fr1.tr (by decide) (fr1.tr (by decide) (fr1.up (by decide) fr1.rf) k512) k545) (fr2.tr (by decide) (fr2.tr (by decide) fr2.rf k513) k546) (show 0 ≤ w1.toInt ∧ w1.toInt ≤ 2 ∧ 0 ≤ w2.toInt ∧ w2.toInt ≤ 2 by omega) (show (A542 2) w1.toInt ≤ 1000 by omega) (show 0 ≤ (0 : Int32).toInt ∧ (0 : Int32).toInt ≤ 1000 by omega) (show wr A542 from p544c) (show wq A542 from p544d) (show (A542 2) 2 = A0 2 2 from p544g.trans fg) (show ∀ q : Int, 2600 ≤ q → (A542 1) q = A0 1 q from fun q hq => (p544h q hq).trans (fh q hq))
                    · refine k_c2 78 rfl rfl (if_neg b592) ?_
                      have b592 := mt iv_eq.mpr b592
                      refine k_push 79 rfl rfl ?_
                      exact k_fin rfl (fin_Z (Or.inl rfl)) ⟨_, _, _, _, rfl, I543, (fr1.tr (by decide) (fr1.tr (by decide) (fr1.up (by decide) fr1.rf) k512) k545), (fr2.tr (by decide) (fr2.tr (by decide) fr2.rf k513) k546), ⟨p544c, p544d, p544g.trans fg, fun q hq => (p544h q hq).trans (fh q hq)⟩⟩
                  · refine k_c1 27 rfl rfl (if_neg b587) ?_
                    have b587 := mt iv_eq0.mpr b587
                    refine k_push 28 rfl rfl ?_
                    refine k_fin rfl (fin_Z (Or.inl rfl)) ⟨_, _, rfl, rf_len I543 I543, ?_⟩
                    show am_Ok _ _ _ (58, _, [.inl (0 : Int32)], _, 0, 0) _
                    refine k_c1 61 rfl rfl (if_pos (by decide)) ?_
                    refine k_push 62 rfl rfl ?_
                    exact k_fin rfl (fin_Z (Or.inl rfl)) ⟨_, _, _, _, rfl, I543, (fr1.tr (by decide) (fr1.tr (by decide) (fr1.up (by decide) fr1.rf) k512) k545), (fr2.tr (by decide) (fr2.tr (by decide) fr2.rf k513) k546), ⟨p544c, p544d, p544g.trans fg, fun q hq => (p544h q hq).trans (fh q hq)⟩⟩
          · refine k_c1 27 rfl rfl (if_neg b505) ?_
            have b505 := mt iv_eq0.mpr b505
            refine k_push 28 rfl rfl ?_
            refine k_fin rfl (fin_Z (Or.inl rfl)) ⟨_, _, rfl, rf_len I30 I30, ?_⟩
            show am_Ok _ _ _ (29, _, [.inl (0 : Int32)], _, 0, 0) _
            refine k_c1 61 rfl rfl (if_pos (by decide)) ?_
            refine k_push 62 rfl rfl ?_
            exact k_fin rfl (fin_Z (Or.inl rfl)) ⟨_, _, _, _, rfl, I30, (fr1.up (by decide) fr1.rf), fr2.rf, ⟨p5, p6, rfl, fun q _ => rfl⟩⟩
      · refine k_c2 5 rfl rfl (if_neg b407) ?_
        have b407 := mt iv_lt.mpr b407
        refine k_iload 6 rfl rfl rfl ?_
        refine k_iload 7 rfl rfl rfl ?_
        by_cases b593 : (2 : Int32) < w2
        · refine k_c2 14 rfl rfl (if_pos b593) ?_
          have b593 := iv_lt.mp b593
          refine k_push 15 rfl rfl ?_
          refine k_fin rfl (fin_Z (Or.inl rfl)) ⟨_, _, rfl, rf_len I30 I30, ?_⟩
          show am_Ok _ _ _ (6, _, [.inl (0 : Int32)], _, 0, 0) _
          refine k_fin rfl (fin_Z (Or.inl rfl)) ⟨_, _, rfl, rf_len I30 I30, ?_⟩
          show am_Ok _ _ _ (17, _, [.inl (0 : Int32), .inr (.inr (some 81))], _, 0, 0) _
          refine k_c1 24 rfl rfl (if_pos (by decide)) ?_
          refine k_push 25 rfl rfl ?_
          refine k_push 26 rfl rfl ?_
          refine k_in (d := 0) rfl rfl rfl rfl I30.rc ?_
          refine k_aload 1 rfl rfl rfl ?_
          refine r_gI I30 4 rfl rfl rfl (fun x594 (e595 : x594.toInt = (0 : Int32).toInt) => ?_)
          by_cases b596 : x594 = 0
          · refine k_c1 7 rfl rfl (if_pos b596) ?_
            have b596 := iv_eq0.mp b596
            refine k_iload 8 rfl rfl rfl ?_
            refine k_c1 11 rfl rfl (if_pos (by decide)) ?_
            refine k_aload 12 rfl rfl rfl ?_
            refine k_iload 13 rfl rfl rfl ?_
            refine r_pI I30 16 rfl rfl rfl (fun h597 I598 => ?_)
            refine k_aload 17 rfl rfl rfl ?_
            refine r_gI I598 20 rfl rfl rfl (fun x599 (e600 : x599.toInt = (1 : Int32).toInt) => ?_)
            by_cases b601 : x599 = 0
            · refine k_c1 23 rfl rfl (if_pos b601) ?_
              have b601 := iv_eq0.mp b601
              refine k_push 24 rfl rfl ?_
              refine k_goto 28 rfl rfl ?_
              refine k_fin rfl (fin_Z (Or.inr rfl)) ⟨_, _, rfl, rf_len I30 I598, ?_⟩
              show am_Ok _ _ _ (29, _, [.inl (1 : Int32)], _, 0, 0) _
              refine k_c1 32 rfl rfl (if_neg (by decide)) ?_
              refine k_aload 33 rfl rfl rfl ?_
              refine k_aload 34 rfl rfl rfl ?_
              refine k_iload 35 rfl rfl rfl ?_
              refine k_rq I598 rfl (m_isTerm (lm := lm) (gT := gT) (gt := gt) I598.1 (show nn ((A0 24)) ((A0 25)) ((F0 28)) (gT) from p1) (show nw ((A0 24)) ((A0 25)) ((A0 26)) (lm) ((F0 28)) from p2) (show wr A0 from p5) (show wq A0 from p6) (show (A0 2) 2 = (gt) ∧ 1 ≤ (gt) ∧ (gt) ≤ 120 from p7) (show wf ((A0 1)) 2600 (gt) from p8) (show cb ((A0 1)) 2600 (gt) 200 from p9) (show 0 ≤ w1.toInt ∧ w1.toInt ≤ 2 by omega)) rfl rfl rfl I598.rc ?_
              rintro x602 h603 F604 A605 I606 ⟨k608, k609, p607⟩
              replace p607 : (x602.toInt = 0 ∨ x602.toInt = 1) ∧ (x602.toInt = 1 → ∃ n' : Nat, n' ≤ 1000 ∧ A605 2 w1.toInt = n' ∧ wf (A605 1) (1300 * w1.toInt) n') ∧ wr A605 ∧ wq A605 ∧ (∀ q : Int, q ≠ w1.toInt → A605 2 q = (A0 2) q) ∧ (∀ q : Int, (0 ≤ q ∧ q < 1300 * w1.toInt) ∨ 1300 * w1.toInt + 1300 ≤ q → A605 1 q = (A0 1) q) ∧ A605 2 2 = (A0 2) 2 ∧ (∀ q : Int, 2600 ≤ q → A605 1 q = (A0 1) q) := p607
              obtain ⟨p607a, p607b, p607c, p607d, p607e, p607f, p607g, p607h⟩ := p607
              have z610 := iv_01 (x := x602) p607a
              show am_Ok _ _ _ (38, _, [.inl x602, .inr (.inr (some 81))], _, 0, 0) _
              by_cases b611 : x602 = 0
              · refine k_c1 53 rfl rfl (if_pos b611) ?_
                have b611 := iv_eq0.mp b611
                refine k_push 54 rfl rfl ?_
                refine k_push 55 rfl rfl ?_
                refine k_in (d := 0) rfl rfl rfl rfl I606.rc ?_
                refine k_aload 1 rfl rfl rfl ?_
                refine r_gI I606 4 rfl rfl rfl (fun x612 (e613 : x612.toInt = F604 0) => ?_)
                have e614 : F604 0 = (1 : Int32).toInt := k608 0 (by decide)
                by_cases b615 : x612 = 0
                · refine k_c1 7 rfl rfl (if_pos b615) ?_
                  have b615 := iv_eq0.mp b615
                  refine k_iload 8 rfl rfl rfl ?_
                  refine k_c1 11 rfl rfl (if_pos (by decide)) ?_
                  refine k_aload 12 rfl rfl rfl ?_
                  refine k_iload 13 rfl rfl rfl ?_
                  refine r_pI I606 16 rfl rfl rfl (fun h616 I617 => ?_)
                  refine k_aload 17 rfl rfl rfl ?_
                  refine r_gI I617 20 rfl rfl rfl (fun x618 (e619 : x618.toInt = (2 : Int32).toInt) => ?_)
                  by_cases b620 : x618 = 0
                  · refine k_c1 23 rfl rfl (if_pos b620) ?_
                    have b620 := iv_eq0.mp b620
                    refine k_push 24 rfl rfl ?_
                    refine k_goto 28 rfl rfl ?_
                    refine k_fin rfl (fin_Z (Or.inr rfl)) ⟨_, _, rfl, rf_len I606 I617, ?_⟩
                    show am_Ok _ _ _ (58, _, [.inl (1 : Int32)], _, 0, 0) _
                    refine k_c1 63 rfl rfl (if_neg (by decide)) ?_
                    have hbd : (A605 2) w1.toInt ≤ 1000 := by clear p607b; omega
                    clear p607b
                    refine k_aload 64 rfl rfl rfl ?_
                    refine r_gA I617 67 rfl rfl rfl ?_
                    refine k_iload 68 rfl rfl rfl ?_
                    refine r_ld 2 I617 69 rfl rfl (by omega) (show w1.toInt < 3 by omega) rfl (fun x621 (e622 : x621.toInt = A605 2 w1.toInt) => ?_)
                    refine k_aload 70 rfl rfl rfl ?_
                    refine r_gA I617 73 rfl rfl rfl ?_
                    refine k_iload 74 rfl rfl rfl ?_
                    refine r_ld 2 I617 75 rfl rfl (by omega) (show w2.toInt < 3 by omega) rfl (fun x623 (e624 : x623.toInt = A605 2 w2.toInt) => ?_)
                    by_cases b625 : x621 = x623
                    · refine k_c2 80 rfl rfl (if_pos b625) ?_
                      have b625 := iv_eq.mp b625
                      refine k_push 81 rfl rfl ?_
                      refine k_istore 82 rfl rfl ?_
                      exact b_X10_same_82 (lm := lm) (gT := gT) (gt := gt) (w1 := w1) (w2 := w2) p1 p2 p5 p6 p7 p8 p9 _  rfl (gs_ne rfl rfl rfl) (gs_ne rfl rfl rfl) (gs_ne rfl rfl rfl) gs_eq I617 (fr1.up (by decide) (fr1.tr (by decide) (fr1.up (by decide) (fr1.up (by decide) fr1.rf)) k608)) (fr2.tr (by decide) fr2.rf k609) (show 0 ≤ w1.toInt ∧ w1.toInt ≤ 2 ∧ 0 ≤ w2.toInt ∧ w2.toInt ≤ 2 by omega) (show (A605 2) w1.toInt ≤ 1000 by omega) (show 0 ≤ (0 : Int32).toInt ∧ (0 : Int32).toInt ≤ 1000 by omega) (show wr A605 from p607c) (show wq A605 from p607d) (show (A605 2) 2 = A0 2 2 from p607g) (show ∀ q : Int, 2600 ≤ q → (A605 1) q = A0 1 q from p607h)
                    · refine k_c2 78 rfl rfl (if_neg b625) ?_
                      have b625 := mt iv_eq.mpr b625
                      refine k_push 79 rfl rfl ?_
                      exact k_fin rfl (fin_Z (Or.inl rfl)) ⟨_, _, _, _, rfl, I617, (fr1.up (by decide) (fr1.tr (by decide) (fr1.up (by decide) (fr1.up (by decide) fr1.rf)) k608)), (fr2.tr (by decide) fr2.rf k609), ⟨p607c, p607d, p607g, p607h⟩⟩
                  · refine k_c1 27 rfl rfl (if_neg b620) ?_
                    have b620 := mt iv_eq0.mpr b620
                    refine k_push 28 rfl rfl ?_
                    refine k_fin rfl (fin_Z (Or.inl rfl)) ⟨_, _, rfl, rf_len I606 I617, ?_⟩
                    show am_Ok _ _ _ (58, _, [.inl (0 : Int32)], _, 0, 0) _
                    refine k_c1 61 rfl rfl (if_pos (by decide)) ?_
                    refine k_push 62 rfl rfl ?_
                    exact k_fin rfl (fin_Z (Or.inl rfl)) ⟨_, _, _, _, rfl, I617, (fr1.up (by decide) (fr1.tr (by decide) (fr1.up (by decide) (fr1.up (by decide) fr1.rf)) k608)), (fr2.tr (by decide) fr2.rf k609), ⟨p607c, p607d, p607g, p607h⟩⟩
                · refine k_c1 16 rfl rfl (if_neg b615) ?_
                  have b615 := mt iv_eq0.mpr b615
                  refine k_aload 17 rfl rfl rfl ?_
                  refine r_gI I606 20 rfl rfl rfl (fun x626 (e627 : x626.toInt = F604 0) => ?_)
                  by_cases b628 : x626 = 0
                  · refine k_c1 23 rfl rfl (if_pos b628) ?_
                    have b628 := iv_eq0.mp b628
                    refine k_push 24 rfl rfl ?_
                    refine k_goto 28 rfl rfl ?_
                    refine k_fin rfl (fin_Z (Or.inr rfl)) ⟨_, _, rfl, rf_len I606 I606, ?_⟩
                    show am_Ok _ _ _ (58, _, [.inl (1 : Int32)], _, 0, 0) _
                    refine k_c1 63 rfl rfl (if_neg (by decide)) ?_
                    have hbd : (A605 2) w1.toInt ≤ 1000 := by clear p607b; omega
                    clear p607b
                    refine k_aload 64 rfl rfl rfl ?_
                    refine r_gA I606 67 rfl rfl rfl ?_
                    refine k_iload 68 rfl rfl rfl ?_
                    refine r_ld 2 I606 69 rfl rfl (by omega) (show w1.toInt < 3 by omega) rfl (fun x629 (e630 : x629.toInt = A605 2 w1.toInt) => ?_)
                    refine k_aload 70 rfl rfl rfl ?_
                    refine r_gA I606 73 rfl rfl rfl ?_
                    refine k_iload 74 rfl rfl rfl ?_
                    refine r_ld 2 I606 75 rfl rfl (by omega) (show w2.toInt < 3 by omega) rfl (fun x631 (e632 : x631.toInt = A605 2 w2.toInt) => ?_)
                    by_cases b633 : x629 = x631
                    · refine k_c2 80 rfl rfl (if_pos b633) ?_
                      have b633 := iv_eq.mp b633
                      refine k_push 81 rfl rfl ?_
                      refine k_istore 82 rfl rfl ?_
                      exact b_X10_same_82 (lm := lm) (gT := gT) (gt := gt) (w1 := w1) (w2 := w2) p1 p2 p5 p6 p7 p8 p9 _  rfl (gs_ne rfl rfl rfl) (gs_ne rfl rfl rfl) (gs_ne rfl rfl rfl) gs_eq I606 (fr1.tr (by decide) (fr1.up (by decide) (fr1.up (by decide) fr1.rf)) k608) (fr2.tr (by decide) fr2.rf k609) (show 0 ≤ w1.toInt ∧ w1.toInt ≤ 2 ∧ 0 ≤ w2.toInt ∧ w2.toInt ≤ 2 by omega) (show (A605 2) w1.toInt ≤ 1000 by omega) (show 0 ≤ (0 : Int32).toInt ∧ (0 : Int32).toInt ≤ 1000 by omega) (show wr A605 from p607c) (show wq A605 from p607d) (show (A605 2) 2 = A0 2 2 from p607g) (show ∀ q : Int, 2600 ≤ q → (A605 1) q = A0 1 q from p607h)
                    · refine k_c2 78 rfl rfl (if_neg b633) ?_
                      have b633 := mt iv_eq.mpr b633
                      refine k_push 79 rfl rfl ?_
                      exact k_fin rfl (fin_Z (Or.inl rfl)) ⟨_, _, _, _, rfl, I606, (fr1.tr (by decide) (fr1.up (by decide) (fr1.up (by decide) fr1.rf)) k608), (fr2.tr (by decide) fr2.rf k609), ⟨p607c, p607d, p607g, p607h⟩⟩
                  · refine k_c1 27 rfl rfl (if_neg b628) ?_
                    have b628 := mt iv_eq0.mpr b628
                    refine k_push 28 rfl rfl ?_
                    refine k_fin rfl (fin_Z (Or.inl rfl)) ⟨_, _, rfl, rf_len I606 I606, ?_⟩
                    show am_Ok _ _ _ (58, _, [.inl (0 : Int32)], _, 0, 0) _
                    refine k_c1 61 rfl rfl (if_pos (by decide)) ?_
                    refine k_push 62 rfl rfl ?_
                    exact k_fin rfl (fin_Z (Or.inl rfl)) ⟨_, _, _, _, rfl, I606, (fr1.tr (by decide) (fr1.up (by decide) (fr1.up (by decide) fr1.rf)) k608), (fr2.tr (by decide) fr2.rf k609), ⟨p607c, p607d, p607g, p607h⟩⟩
              · refine k_c1 41 rfl rfl (if_neg b611) ?_
                have b611 := mt iv_eq0.mpr b611
                obtain ⟨gn, hn1, hn2, hn3⟩ := p607b (by clear p607b; omega)
                clear p607b
                have fc := p607c
                have fd := p607d
                have fg := p607g
                have fh := p607h
                refine k_aload 42 rfl rfl rfl ?_
                refine k_iload 43 rfl rfl rfl ?_
                have e634 : F604 28 = F0 28 := k608 28 (by decide)
                refine k_rq I606 rfl (m_isTerm (lm := lm) (gT := gT) (gt := gt) I606.1 (show nn ((A605 24)) ((A605 25)) ((F604 28)) (gT) by rw [(k609 24 (by decide)), (k609 25 (by decide)), k608 28 (by decide)]; exact p1) (show nw ((A605 24)) ((A605 25)) ((A605 26)) (lm) ((F604 28)) by rw [(k609 24 (by decide)), (k609 25 (by decide)), (k609 26 (by decide)), k608 28 (by decide)]; exact p2) (show wr A605 from fc) (show wq A605 from fd) (show (A605 2) 2 = (gt) ∧ 1 ≤ (gt) ∧ (gt) ≤ 120 from ⟨fg.trans p7.1, p7.2⟩) (show wf ((A605 1)) 2600 (gt) from wf_congr (fun q hq => (fh _ (by omega)).symm) p8) (show cb ((A605 1)) 2600 (gt) 200 from cb.congr p9 (fun q hq => (fh _ (by omega)).symm)) (show 0 ≤ w2.toInt ∧ w2.toInt ≤ 2 by omega)) rfl rfl rfl I606.rc ?_
                rintro x635 h636 F637 A638 I639 ⟨k641, k642, p640⟩
                replace p640 : (x635.toInt = 0 ∨ x635.toInt = 1) ∧ (x635.toInt = 1 → ∃ n' : Nat, n' ≤ 1000 ∧ A638 2 w2.toInt = n' ∧ wf (A638 1) (1300 * w2.toInt) n') ∧ wr A638 ∧ wq A638 ∧ (∀ q : Int, q ≠ w2.toInt → A638 2 q = (A605 2) q) ∧ (∀ q : Int, (0 ≤ q ∧ q < 1300 * w2.toInt) ∨ 1300 * w2.toInt + 1300 ≤ q → A638 1 q = (A605 1) q) ∧ A638 2 2 = (A605 2) 2 ∧ (∀ q : Int, 2600 ≤ q → A638 1 q = (A605 1) q) := p640
                obtain ⟨p640a, p640b, p640c, p640d, p640e, p640f, p640g, p640h⟩ := p640
                have z643 := iv_01 (x := x635) p640a
                show am_Ok _ _ _ (46, _, [.inl x635, .inr (.inr (some 81))], _, 0, 0) _
                by_cases b644 : x635 = 0
                · refine k_c1 53 rfl rfl (if_pos b644) ?_
                  have b644 := iv_eq0.mp b644
                  refine k_push 54 rfl rfl ?_
                  refine k_push 55 rfl rfl ?_
                  refine k_in (d := 0) rfl rfl rfl rfl I639.rc ?_
                  refine k_aload 1 rfl rfl rfl ?_
                  refine r_gI I639 4 rfl rfl rfl (fun x645 (e646 : x645.toInt = F637 0) => ?_)
                  have e647 : F637 0 = F604 0 := k641 0 (by decide)
                  have e648 : F604 0 = (1 : Int32).toInt := k608 0 (by decide)
                  by_cases b649 : x645 = 0
                  · refine k_c1 7 rfl rfl (if_pos b649) ?_
                    have b649 := iv_eq0.mp b649
                    refine k_iload 8 rfl rfl rfl ?_
                    refine k_c1 11 rfl rfl (if_pos (by decide)) ?_
                    refine k_aload 12 rfl rfl rfl ?_
                    refine k_iload 13 rfl rfl rfl ?_
                    refine r_pI I639 16 rfl rfl rfl (fun h650 I651 => ?_)
                    refine k_aload 17 rfl rfl rfl ?_
                    refine r_gI I651 20 rfl rfl rfl (fun x652 (e653 : x652.toInt = (2 : Int32).toInt) => ?_)
                    by_cases b654 : x652 = 0
                    · refine k_c1 23 rfl rfl (if_pos b654) ?_
                      have b654 := iv_eq0.mp b654
                      refine k_push 24 rfl rfl ?_
                      refine k_goto 28 rfl rfl ?_
                      refine k_fin rfl (fin_Z (Or.inr rfl)) ⟨_, _, rfl, rf_len I639 I651, ?_⟩
                      show am_Ok _ _ _ (58, _, [.inl (1 : Int32)], _, 0, 0) _
                      refine k_c1 63 rfl rfl (if_neg (by decide)) ?_
                      have hbd : (A638 2) w1.toInt ≤ 1000 := sm_bd p640e hn2 hn1 (p640b (by clear p640b; omega))
                      clear p640b
                      refine k_aload 64 rfl rfl rfl ?_
                      refine r_gA I651 67 rfl rfl rfl ?_
                      refine k_iload 68 rfl rfl rfl ?_
                      refine r_ld 2 I651 69 rfl rfl (by omega) (show w1.toInt < 3 by omega) rfl (fun x655 (e656 : x655.toInt = A638 2 w1.toInt) => ?_)
                      refine k_aload 70 rfl rfl rfl ?_
                      refine r_gA I651 73 rfl rfl rfl ?_
                      refine k_iload 74 rfl rfl rfl ?_
                      refine r_ld 2 I651 75 rfl rfl (by omega) (show w2.toInt < 3 by omega) rfl (fun x657 (e658 : x657.toInt = A638 2 w2.toInt) => ?_)
                      by_cases b659 : x655 = x657
                      · refine k_c2 80 rfl rfl (if_pos b659) ?_
                        have b659 := iv_eq.mp b659
                        refine k_push 81 rfl rfl ?_
                        refine k_istore 82 rfl rfl ?_
                        exact b_X10_same_82 (lm := lm) (gT := gT) (gt := gt) (w1 := w1) (w2 := w2) p1 p2 p5 p6 p7 p8 p9 _  rfl (gs_ne rfl rfl rfl) (gs_ne rfl rfl rfl) (gs_ne rfl rfl rfl) gs_eq I651 (fr1.up (by decide) (fr1.tr (by decide) (fr1.tr (by decide) (fr1.up (by decide) (fr1.up (by decide) fr1.rf)) k608) k641)) (fr2.tr (by decide) (fr2.tr (by decide) fr2.rf k609) k642) (show 0 ≤ w1.toInt ∧ w1.toInt ≤ 2 ∧ 0 ≤ w2.toInt ∧ w2.toInt ≤ 2 by omega) (show (A638 2) w1.toInt ≤ 1000 by omega) (show 0 ≤ (0 : Int32).toInt ∧ (0 : Int32).toInt ≤ 1000 by omega) (show wr A638 from p640c) (show wq A638 from p640d) (show (A638 2) 2 = A0 2 2 from p640g.trans fg) (show ∀ q : Int, 2600 ≤ q → (A638 1) q = A0 1 q from fun q hq => (p640h q hq).trans (fh q hq))
                      · refine k_c2 78 rfl rfl (if_neg b659) ?_
                        have b659 := mt iv_eq.mpr b659
                        refine k_push 79 rfl rfl ?_
                        exact k_fin rfl (fin_Z (Or.inl rfl)) ⟨_, _, _, _, rfl, I651, (fr1.up (by decide) (fr1.tr (by decide) (fr1.tr (by decide) (fr1.up (by decide) (fr1.up (by decide) fr1.rf)) k608) k641)), (fr2.tr (by decide) (fr2.tr (by decide) fr2.rf k609) k642), ⟨p640c, p640d, p640g.trans fg, fun q hq => (p640h q hq).trans (fh q hq)⟩⟩
                    · refine k_c1 27 rfl rfl (if_neg b654) ?_
                      have b654 := mt iv_eq0.mpr b654
                      refine k_push 28 rfl rfl ?_
                      refine k_fin rfl (fin_Z (Or.inl rfl)) ⟨_, _, rfl, rf_len I639 I651, ?_⟩
                      show am_Ok _ _ _ (58, _, [.inl (0 : Int32)], _, 0, 0) _
                      refine k_c1 61 rfl rfl (if_pos (by decide)) ?_
                      refine k_push 62 rfl rfl ?_
                      exact k_fin rfl (fin_Z (Or.inl rfl)) ⟨_, _, _, _, rfl, I651, (fr1.up (by decide) (fr1.tr (by decide) (fr1.tr (by decide) (fr1.up (by decide) (fr1.up (by decide) fr1.rf)) k608) k641)), (fr2.tr (by decide) (fr2.tr (by decide) fr2.rf k609) k642), ⟨p640c, p640d, p640g.trans fg, fun q hq => (p640h q hq).trans (fh q hq)⟩⟩
                  · refine k_c1 16 rfl rfl (if_neg b649) ?_
                    have b649 := mt iv_eq0.mpr b649
                    refine k_aload 17 rfl rfl rfl ?_
                    refine r_gI I639 20 rfl rfl rfl (fun x660 (e661 : x660.toInt = F637 0) => ?_)
                    by_cases b662 : x660 = 0
                    · refine k_c1 23 rfl rfl (if_pos b662) ?_
                      have b662 := iv_eq0.mp b662
                      refine k_push 24 rfl rfl ?_
                      refine k_goto 28 rfl rfl ?_
                      refine k_fin rfl (fin_Z (Or.inr rfl)) ⟨_, _, rfl, rf_len I639 I639, ?_⟩
                      show am_Ok _ _ _ (58, _, [.inl (1 : Int32)], _, 0, 0) _
                      refine k_c1 63 rfl rfl (if_neg (by decide)) ?_
                      have hbd : (A638 2) w1.toInt ≤ 1000 := sm_bd p640e hn2 hn1 (p640b (by clear p640b; omega))
                      clear p640b
                      refine k_aload 64 rfl rfl rfl ?_
                      refine r_gA I639 67 rfl rfl rfl ?_
                      refine k_iload 68 rfl rfl rfl ?_
                      refine r_ld 2 I639 69 rfl rfl (by omega) (show w1.toInt < 3 by omega) rfl (fun x663 (e664 : x663.toInt = A638 2 w1.toInt) => ?_)
                      refine k_aload 70 rfl rfl rfl ?_
                      refine r_gA I639 73 rfl rfl rfl ?_
                      refine k_iload 74 rfl rfl rfl ?_
                      refine r_ld 2 I639 75 rfl rfl (by omega) (show w2.toInt < 3 by omega) rfl (fun x665 (e666 : x665.toInt = A638 2 w2.toInt) => ?_)
                      by_cases b667 : x663 = x665
                      · refine k_c2 80 rfl rfl (if_pos b667) ?_
                        have b667 := iv_eq.mp b667
                        refine k_push 81 rfl rfl ?_
                        refine k_istore 82 rfl rfl ?_
                        exact b_X10_same_82 (lm := lm) (gT := gT) (gt := gt) (w1 := w1) (w2 := w2) p1 p2 p5 p6 p7 p8 p9 _  rfl (gs_ne rfl rfl rfl) (gs_ne rfl rfl rfl) (gs_ne rfl rfl rfl) gs_eq I639 (fr1.tr (by decide) (fr1.tr (by decide) (fr1.up (by decide) (fr1.up (by decide) fr1.rf)) k608) k641) (fr2.tr (by decide) (fr2.tr (by decide) fr2.rf k609) k642) (show 0 ≤ w1.toInt ∧ w1.toInt ≤ 2 ∧ 0 ≤ w2.toInt ∧ w2.toInt ≤ 2 by omega) (show (A638 2) w1.toInt ≤ 1000 by omega) (show 0 ≤ (0 : Int32).toInt ∧ (0 : Int32).toInt ≤ 1000 by omega) (show wr A638 from p640c) (show wq A638 from p640d) (show (A638 2) 2 = A0 2 2 from p640g.trans fg) (show ∀ q : Int, 2600 ≤ q → (A638 1) q = A0 1 q from fun q hq => (p640h q hq).trans (fh q hq))
                      · refine k_c2 78 rfl rfl (if_neg b667) ?_
                        have b667 := mt iv_eq.mpr b667
                        refine k_push 79 rfl rfl ?_
                        exact k_fin rfl (fin_Z (Or.inl rfl)) ⟨_, _, _, _, rfl, I639, (fr1.tr (by decide) (fr1.tr (by decide) (fr1.up (by decide) (fr1.up (by decide) fr1.rf)) k608) k641), (fr2.tr (by decide) (fr2.tr (by decide) fr2.rf k609) k642), ⟨p640c, p640d, p640g.trans fg, fun q hq => (p640h q hq).trans (fh q hq)⟩⟩
                    · refine k_c1 27 rfl rfl (if_neg b662) ?_
                      have b662 := mt iv_eq0.mpr b662
                      refine k_push 28 rfl rfl ?_
                      refine k_fin rfl (fin_Z (Or.inl rfl)) ⟨_, _, rfl, rf_len I639 I639, ?_⟩
                      show am_Ok _ _ _ (58, _, [.inl (0 : Int32)], _, 0, 0) _
                      refine k_c1 61 rfl rfl (if_pos (by decide)) ?_
                      refine k_push 62 rfl rfl ?_
                      exact k_fin rfl (fin_Z (Or.inl rfl)) ⟨_, _, _, _, rfl, I639, (fr1.tr (by decide) (fr1.tr (by decide) (fr1.up (by decide) (fr1.up (by decide) fr1.rf)) k608) k641), (fr2.tr (by decide) (fr2.tr (by decide) fr2.rf k609) k642), ⟨p640c, p640d, p640g.trans fg, fun q hq => (p640h q hq).trans (fh q hq)⟩⟩
                · refine k_c1 49 rfl rfl (if_neg b644) ?_
                  have b644 := mt iv_eq0.mpr b644
                  refine k_push 50 rfl rfl ?_
                  refine k_goto 54 rfl rfl ?_
                  refine k_push 55 rfl rfl ?_
                  refine k_in (d := 0) rfl rfl rfl rfl I639.rc ?_
                  refine k_aload 1 rfl rfl rfl ?_
                  refine r_gI I639 4 rfl rfl rfl (fun x668 (e669 : x668.toInt = F637 0) => ?_)
                  have e670 : F637 0 = F604 0 := k641 0 (by decide)
                  have e671 : F604 0 = (1 : Int32).toInt := k608 0 (by decide)
                  by_cases b672 : x668 = 0
                  · refine k_c1 7 rfl rfl (if_pos b672) ?_
                    have b672 := iv_eq0.mp b672
                    refine k_iload 8 rfl rfl rfl ?_
                    refine k_c1 16 rfl rfl (if_neg (by decide)) ?_
                    refine k_aload 17 rfl rfl rfl ?_
                    refine r_gI I639 20 rfl rfl rfl (fun x673 (e674 : x673.toInt = F637 0) => ?_)
                    by_cases b675 : x673 = 0
                    · refine k_c1 23 rfl rfl (if_pos b675) ?_
                      have b675 := iv_eq0.mp b675
                      refine k_push 24 rfl rfl ?_
                      refine k_goto 28 rfl rfl ?_
                      refine k_fin rfl (fin_Z (Or.inr rfl)) ⟨_, _, rfl, rf_len I639 I639, ?_⟩
                      show am_Ok _ _ _ (58, _, [.inl (1 : Int32)], _, 0, 0) _
                      refine k_c1 63 rfl rfl (if_neg (by decide)) ?_
                      have hbd : (A638 2) w1.toInt ≤ 1000 := sm_bd p640e hn2 hn1 (p640b (by clear p640b; omega))
                      clear p640b
                      refine k_aload 64 rfl rfl rfl ?_
                      refine r_gA I639 67 rfl rfl rfl ?_
                      refine k_iload 68 rfl rfl rfl ?_
                      refine r_ld 2 I639 69 rfl rfl (by omega) (show w1.toInt < 3 by omega) rfl (fun x676 (e677 : x676.toInt = A638 2 w1.toInt) => ?_)
                      refine k_aload 70 rfl rfl rfl ?_
                      refine r_gA I639 73 rfl rfl rfl ?_
                      refine k_iload 74 rfl rfl rfl ?_
                      refine r_ld 2 I639 75 rfl rfl (by omega) (show w2.toInt < 3 by omega) rfl (fun x678 (e679 : x678.toInt = A638 2 w2.toInt) => ?_)
                      by_cases b680 : x676 = x678
                      · refine k_c2 80 rfl rfl (if_pos b680) ?_
                        have b680 := iv_eq.mp b680
                        refine k_push 81 rfl rfl ?_
                        refine k_istore 82 rfl rfl ?_
                        exact b_X10_same_82 (lm := lm) (gT := gT) (gt := gt) (w1 := w1) (w2 := w2) p1 p2 p5 p6 p7 p8 p9 _  rfl (gs_ne rfl rfl rfl) (gs_ne rfl rfl rfl) (gs_ne rfl rfl rfl) gs_eq I639 (fr1.tr (by decide) (fr1.tr (by decide) (fr1.up (by decide) (fr1.up (by decide) fr1.rf)) k608) k641) (fr2.tr (by decide) (fr2.tr (by decide) fr2.rf k609) k642) (show 0 ≤ w1.toInt ∧ w1.toInt ≤ 2 ∧ 0 ≤ w2.toInt ∧ w2.toInt ≤ 2 by omega) (show (A638 2) w1.toInt ≤ 1000 by omega) (show 0 ≤ (0 : Int32).toInt ∧ (0 : Int32).toInt ≤ 1000 by omega) (show wr A638 from p640c) (show wq A638 from p640d) (show (A638 2) 2 = A0 2 2 from p640g.trans fg) (show ∀ q : Int, 2600 ≤ q → (A638 1) q = A0 1 q from fun q hq => (p640h q hq).trans (fh q hq))
                      · refine k_c2 78 rfl rfl (if_neg b680) ?_
                        have b680 := mt iv_eq.mpr b680
                        refine k_push 79 rfl rfl ?_
                        exact k_fin rfl (fin_Z (Or.inl rfl)) ⟨_, _, _, _, rfl, I639, (fr1.tr (by decide) (fr1.tr (by decide) (fr1.up (by decide) (fr1.up (by decide) fr1.rf)) k608) k641), (fr2.tr (by decide) (fr2.tr (by decide) fr2.rf k609) k642), ⟨p640c, p640d, p640g.trans fg, fun q hq => (p640h q hq).trans (fh q hq)⟩⟩
                    · refine k_c1 27 rfl rfl (if_neg b675) ?_
                      have b675 := mt iv_eq0.mpr b675
                      refine k_push 28 rfl rfl ?_
                      refine k_fin rfl (fin_Z (Or.inl rfl)) ⟨_, _, rfl, rf_len I639 I639, ?_⟩
                      show am_Ok _ _ _ (58, _, [.inl (0 : Int32)], _, 0, 0) _
                      refine k_c1 61 rfl rfl (if_pos (by decide)) ?_
                      refine k_push 62 rfl rfl ?_
                      exact k_fin rfl (fin_Z (Or.inl rfl)) ⟨_, _, _, _, rfl, I639, (fr1.tr (by decide) (fr1.tr (by decide) (fr1.up (by decide) (fr1.up (by decide) fr1.rf)) k608) k641), (fr2.tr (by decide) (fr2.tr (by decide) fr2.rf k609) k642), ⟨p640c, p640d, p640g.trans fg, fun q hq => (p640h q hq).trans (fh q hq)⟩⟩
                  · refine k_c1 16 rfl rfl (if_neg b672) ?_
                    have b672 := mt iv_eq0.mpr b672
                    refine k_aload 17 rfl rfl rfl ?_
                    refine r_gI I639 20 rfl rfl rfl (fun x681 (e682 : x681.toInt = F637 0) => ?_)
                    by_cases b683 : x681 = 0
                    · refine k_c1 23 rfl rfl (if_pos b683) ?_
                      have b683 := iv_eq0.mp b683
                      refine k_push 24 rfl rfl ?_
                      refine k_goto 28 rfl rfl ?_
                      refine k_fin rfl (fin_Z (Or.inr rfl)) ⟨_, _, rfl, rf_len I639 I639, ?_⟩
                      show am_Ok _ _ _ (58, _, [.inl (1 : Int32)], _, 0, 0) _
                      refine k_c1 63 rfl rfl (if_neg (by decide)) ?_
                      have hbd : (A638 2) w1.toInt ≤ 1000 := sm_bd p640e hn2 hn1 (p640b (by clear p640b; omega))
                      clear p640b
                      refine k_aload 64 rfl rfl rfl ?_
                      refine r_gA I639 67 rfl rfl rfl ?_
                      refine k_iload 68 rfl rfl rfl ?_
                      refine r_ld 2 I639 69 rfl rfl (by omega) (show w1.toInt < 3 by omega) rfl (fun x684 (e685 : x684.toInt = A638 2 w1.toInt) => ?_)
                      refine k_aload 70 rfl rfl rfl ?_
                      refine r_gA I639 73 rfl rfl rfl ?_
                      refine k_iload 74 rfl rfl rfl ?_
                      refine r_ld 2 I639 75 rfl rfl (by omega) (show w2.toInt < 3 by omega) rfl (fun x686 (e687 : x686.toInt = A638 2 w2.toInt) => ?_)
                      by_cases b688 : x684 = x686
                      · refine k_c2 80 rfl rfl (if_pos b688) ?_
                        have b688 := iv_eq.mp b688
                        refine k_push 81 rfl rfl ?_
                        refine k_istore 82 rfl rfl ?_
                        exact b_X10_same_82 (lm := lm) (gT := gT) (gt := gt) (w1 := w1) (w2 := w2) p1 p2 p5 p6 p7 p8 p9 _  rfl (gs_ne rfl rfl rfl) (gs_ne rfl rfl rfl) (gs_ne rfl rfl rfl) gs_eq I639 (fr1.tr (by decide) (fr1.tr (by decide) (fr1.up (by decide) (fr1.up (by decide) fr1.rf)) k608) k641) (fr2.tr (by decide) (fr2.tr (by decide) fr2.rf k609) k642) (show 0 ≤ w1.toInt ∧ w1.toInt ≤ 2 ∧ 0 ≤ w2.toInt ∧ w2.toInt ≤ 2 by omega) (show (A638 2) w1.toInt ≤ 1000 by omega) (show 0 ≤ (0 : Int32).toInt ∧ (0 : Int32).toInt ≤ 1000 by omega) (show wr A638 from p640c) (show wq A638 from p640d) (show (A638 2) 2 = A0 2 2 from p640g.trans fg) (show ∀ q : Int, 2600 ≤ q → (A638 1) q = A0 1 q from fun q hq => (p640h q hq).trans (fh q hq))
                      · refine k_c2 78 rfl rfl (if_neg b688) ?_
                        have b688 := mt iv_eq.mpr b688
                        refine k_push 79 rfl rfl ?_
                        exact k_fin rfl (fin_Z (Or.inl rfl)) ⟨_, _, _, _, rfl, I639, (fr1.tr (by decide) (fr1.tr (by decide) (fr1.up (by decide) (fr1.up (by decide) fr1.rf)) k608) k641), (fr2.tr (by decide) (fr2.tr (by decide) fr2.rf k609) k642), ⟨p640c, p640d, p640g.trans fg, fun q hq => (p640h q hq).trans (fh q hq)⟩⟩
                    · refine k_c1 27 rfl rfl (if_neg b683) ?_
                      have b683 := mt iv_eq0.mpr b683
                      refine k_push 28 rfl rfl ?_
                      refine k_fin rfl (fin_Z (Or.inl rfl)) ⟨_, _, rfl, rf_len I639 I639, ?_⟩
                      show am_Ok _ _ _ (58, _, [.inl (0 : Int32)], _, 0, 0) _
                      refine k_c1 61 rfl rfl (if_pos (by decide)) ?_
                      refine k_push 62 rfl rfl ?_
                      exact k_fin rfl (fin_Z (Or.inl rfl)) ⟨_, _, _, _, rfl, I639, (fr1.tr (by decide) (fr1.tr (by decide) (fr1.up (by decide) (fr1.up (by decide) fr1.rf)) k608) k641), (fr2.tr (by decide) (fr2.tr (by decide) fr2.rf k609) k642), ⟨p640c, p640d, p640g.trans fg, fun q hq => (p640h q hq).trans (fh q hq)⟩⟩
            · refine k_c1 27 rfl rfl (if_neg b601) ?_
              have b601 := mt iv_eq0.mpr b601
              refine k_push 28 rfl rfl ?_
              refine k_fin rfl (fin_Z (Or.inl rfl)) ⟨_, _, rfl, rf_len I30 I598, ?_⟩
              show am_Ok _ _ _ (29, _, [.inl (0 : Int32)], _, 0, 0) _
              refine k_c1 61 rfl rfl (if_pos (by decide)) ?_
              refine k_push 62 rfl rfl ?_
              exact k_fin rfl (fin_Z (Or.inl rfl)) ⟨_, _, _, _, rfl, I598, (fr1.up (by decide) (fr1.up (by decide) fr1.rf)), fr2.rf, ⟨p5, p6, rfl, fun q _ => rfl⟩⟩
          · refine k_c1 16 rfl rfl (if_neg b596) ?_
            have b596 := mt iv_eq0.mpr b596
            refine k_aload 17 rfl rfl rfl ?_
            refine r_gI I30 20 rfl rfl rfl (fun x689 (e690 : x689.toInt = (0 : Int32).toInt) => ?_)
            by_cases b691 : x689 = 0
            · refine k_c1 23 rfl rfl (if_pos b691) ?_
              have b691 := iv_eq0.mp b691
              refine k_push 24 rfl rfl ?_
              refine k_goto 28 rfl rfl ?_
              refine k_fin rfl (fin_Z (Or.inr rfl)) ⟨_, _, rfl, rf_len I30 I30, ?_⟩
              show am_Ok _ _ _ (29, _, [.inl (1 : Int32)], _, 0, 0) _
              refine k_c1 32 rfl rfl (if_neg (by decide)) ?_
              refine k_aload 33 rfl rfl rfl ?_
              refine k_aload 34 rfl rfl rfl ?_
              refine k_iload 35 rfl rfl rfl ?_
              refine k_rq I30 rfl (m_isTerm (lm := lm) (gT := gT) (gt := gt) I30.1 (show nn ((A0 24)) ((A0 25)) ((F0 28)) (gT) from p1) (show nw ((A0 24)) ((A0 25)) ((A0 26)) (lm) ((F0 28)) from p2) (show wr A0 from p5) (show wq A0 from p6) (show (A0 2) 2 = (gt) ∧ 1 ≤ (gt) ∧ (gt) ≤ 120 from p7) (show wf ((A0 1)) 2600 (gt) from p8) (show cb ((A0 1)) 2600 (gt) 200 from p9) (show 0 ≤ w1.toInt ∧ w1.toInt ≤ 2 by omega)) rfl rfl rfl I30.rc ?_
              rintro x692 h693 F694 A695 I696 ⟨k698, k699, p697⟩
              replace p697 : (x692.toInt = 0 ∨ x692.toInt = 1) ∧ (x692.toInt = 1 → ∃ n' : Nat, n' ≤ 1000 ∧ A695 2 w1.toInt = n' ∧ wf (A695 1) (1300 * w1.toInt) n') ∧ wr A695 ∧ wq A695 ∧ (∀ q : Int, q ≠ w1.toInt → A695 2 q = (A0 2) q) ∧ (∀ q : Int, (0 ≤ q ∧ q < 1300 * w1.toInt) ∨ 1300 * w1.toInt + 1300 ≤ q → A695 1 q = (A0 1) q) ∧ A695 2 2 = (A0 2) 2 ∧ (∀ q : Int, 2600 ≤ q → A695 1 q = (A0 1) q) := p697
              obtain ⟨p697a, p697b, p697c, p697d, p697e, p697f, p697g, p697h⟩ := p697
              have z700 := iv_01 (x := x692) p697a
              show am_Ok _ _ _ (38, _, [.inl x692, .inr (.inr (some 81))], _, 0, 0) _
              by_cases b701 : x692 = 0
              · refine k_c1 53 rfl rfl (if_pos b701) ?_
                have b701 := iv_eq0.mp b701
                refine k_push 54 rfl rfl ?_
                refine k_push 55 rfl rfl ?_
                refine k_in (d := 0) rfl rfl rfl rfl I696.rc ?_
                refine k_aload 1 rfl rfl rfl ?_
                refine r_gI I696 4 rfl rfl rfl (fun x702 (e703 : x702.toInt = F694 0) => ?_)
                have e704 : F694 0 = (0 : Int32).toInt := k698 0 (by decide)
                by_cases b705 : x702 = 0
                · refine k_c1 7 rfl rfl (if_pos b705) ?_
                  have b705 := iv_eq0.mp b705
                  refine k_iload 8 rfl rfl rfl ?_
                  refine k_c1 11 rfl rfl (if_pos (by decide)) ?_
                  refine k_aload 12 rfl rfl rfl ?_
                  refine k_iload 13 rfl rfl rfl ?_
                  refine r_pI I696 16 rfl rfl rfl (fun h706 I707 => ?_)
                  refine k_aload 17 rfl rfl rfl ?_
                  refine r_gI I707 20 rfl rfl rfl (fun x708 (e709 : x708.toInt = (2 : Int32).toInt) => ?_)
                  by_cases b710 : x708 = 0
                  · refine k_c1 23 rfl rfl (if_pos b710) ?_
                    have b710 := iv_eq0.mp b710
                    refine k_push 24 rfl rfl ?_
                    refine k_goto 28 rfl rfl ?_
                    refine k_fin rfl (fin_Z (Or.inr rfl)) ⟨_, _, rfl, rf_len I696 I707, ?_⟩
                    show am_Ok _ _ _ (58, _, [.inl (1 : Int32)], _, 0, 0) _
                    refine k_c1 63 rfl rfl (if_neg (by decide)) ?_
                    have hbd : (A695 2) w1.toInt ≤ 1000 := by clear p697b; omega
                    clear p697b
                    refine k_aload 64 rfl rfl rfl ?_
                    refine r_gA I707 67 rfl rfl rfl ?_
                    refine k_iload 68 rfl rfl rfl ?_
                    refine r_ld 2 I707 69 rfl rfl (by omega) (show w1.toInt < 3 by omega) rfl (fun x711 (e712 : x711.toInt = A695 2 w1.toInt) => ?_)
                    refine k_aload 70 rfl rfl rfl ?_
                    refine r_gA I707 73 rfl rfl rfl ?_
                    refine k_iload 74 rfl rfl rfl ?_
                    refine r_ld 2 I707 75 rfl rfl (by omega) (show w2.toInt < 3 by omega) rfl (fun x713 (e714 : x713.toInt = A695 2 w2.toInt) => ?_)
                    by_cases b715 : x711 = x713
                    · refine k_c2 80 rfl rfl (if_pos b715) ?_
                      have b715 := iv_eq.mp b715
                      refine k_push 81 rfl rfl ?_
                      refine k_istore 82 rfl rfl ?_
                      exact b_X10_same_82 (lm := lm) (gT := gT) (gt := gt) (w1 := w1) (w2 := w2) p1 p2 p5 p6 p7 p8 p9 _  rfl (gs_ne rfl rfl rfl) (gs_ne rfl rfl rfl) (gs_ne rfl rfl rfl) gs_eq I707 (fr1.up (by decide) (fr1.tr (by decide) (fr1.up (by decide) fr1.rf) k698)) (fr2.tr (by decide) fr2.rf k699) (show 0 ≤ w1.toInt ∧ w1.toInt ≤ 2 ∧ 0 ≤ w2.toInt ∧ w2.toInt ≤ 2 by omega) (show (A695 2) w1.toInt ≤ 1000 by omega) (show 0 ≤ (0 : Int32).toInt ∧ (0 : Int32).toInt ≤ 1000 by omega) (show wr A695 from p697c) (show wq A695 from p697d) (show (A695 2) 2 = A0 2 2 from p697g) (show ∀ q : Int, 2600 ≤ q → (A695 1) q = A0 1 q from p697h)
                    · refine k_c2 78 rfl rfl (if_neg b715) ?_
                      have b715 := mt iv_eq.mpr b715
                      refine k_push 79 rfl rfl ?_
                      exact k_fin rfl (fin_Z (Or.inl rfl)) ⟨_, _, _, _, rfl, I707, (fr1.up (by decide) (fr1.tr (by decide) (fr1.up (by decide) fr1.rf) k698)), (fr2.tr (by decide) fr2.rf k699), ⟨p697c, p697d, p697g, p697h⟩⟩
                  · refine k_c1 27 rfl rfl (if_neg b710) ?_
                    have b710 := mt iv_eq0.mpr b710
                    refine k_push 28 rfl rfl ?_
                    refine k_fin rfl (fin_Z (Or.inl rfl)) ⟨_, _, rfl, rf_len I696 I707, ?_⟩
                    show am_Ok _ _ _ (58, _, [.inl (0 : Int32)], _, 0, 0) _
                    refine k_c1 61 rfl rfl (if_pos (by decide)) ?_
                    refine k_push 62 rfl rfl ?_
                    exact k_fin rfl (fin_Z (Or.inl rfl)) ⟨_, _, _, _, rfl, I707, (fr1.up (by decide) (fr1.tr (by decide) (fr1.up (by decide) fr1.rf) k698)), (fr2.tr (by decide) fr2.rf k699), ⟨p697c, p697d, p697g, p697h⟩⟩
                · refine k_c1 16 rfl rfl (if_neg b705) ?_
                  have b705 := mt iv_eq0.mpr b705
                  refine k_aload 17 rfl rfl rfl ?_
                  refine r_gI I696 20 rfl rfl rfl (fun x716 (e717 : x716.toInt = F694 0) => ?_)
                  by_cases b718 : x716 = 0
                  · refine k_c1 23 rfl rfl (if_pos b718) ?_
                    have b718 := iv_eq0.mp b718
                    refine k_push 24 rfl rfl ?_
                    refine k_goto 28 rfl rfl ?_
                    refine k_fin rfl (fin_Z (Or.inr rfl)) ⟨_, _, rfl, rf_len I696 I696, ?_⟩
                    show am_Ok _ _ _ (58, _, [.inl (1 : Int32)], _, 0, 0) _
                    refine k_c1 63 rfl rfl (if_neg (by decide)) ?_
                    have hbd : (A695 2) w1.toInt ≤ 1000 := by clear p697b; omega
                    clear p697b
                    refine k_aload 64 rfl rfl rfl ?_
                    refine r_gA I696 67 rfl rfl rfl ?_
                    refine k_iload 68 rfl rfl rfl ?_
                    refine r_ld 2 I696 69 rfl rfl (by omega) (show w1.toInt < 3 by omega) rfl (fun x719 (e720 : x719.toInt = A695 2 w1.toInt) => ?_)
                    refine k_aload 70 rfl rfl rfl ?_
                    refine r_gA I696 73 rfl rfl rfl ?_
                    refine k_iload 74 rfl rfl rfl ?_
                    refine r_ld 2 I696 75 rfl rfl (by omega) (show w2.toInt < 3 by omega) rfl (fun x721 (e722 : x721.toInt = A695 2 w2.toInt) => ?_)
                    by_cases b723 : x719 = x721
                    · refine k_c2 80 rfl rfl (if_pos b723) ?_
                      have b723 := iv_eq.mp b723
                      refine k_push 81 rfl rfl ?_
                      refine k_istore 82 rfl rfl ?_
                      exact b_X10_same_82 (lm := lm) (gT := gT) (gt := gt) (w1 := w1) (w2 := w2) p1 p2 p5 p6 p7 p8 p9 _  rfl (gs_ne rfl rfl rfl) (gs_ne rfl rfl rfl) (gs_ne rfl rfl rfl) gs_eq I696 (fr1.tr (by decide) (fr1.up (by decide) fr1.rf) k698) (fr2.tr (by decide) fr2.rf k699) (show 0 ≤ w1.toInt ∧ w1.toInt ≤ 2 ∧ 0 ≤ w2.toInt ∧ w2.toInt ≤ 2 by omega) (show (A695 2) w1.toInt ≤ 1000 by omega) (show 0 ≤ (0 : Int32).toInt ∧ (0 : Int32).toInt ≤ 1000 by omega) (show wr A695 from p697c) (show wq A695 from p697d) (show (A695 2) 2 = A0 2 2 from p697g) (show ∀ q : Int, 2600 ≤ q → (A695 1) q = A0 1 q from p697h)
                    · refine k_c2 78 rfl rfl (if_neg b723) ?_
                      have b723 := mt iv_eq.mpr b723
                      refine k_push 79 rfl rfl ?_
                      exact k_fin rfl (fin_Z (Or.inl rfl)) ⟨_, _, _, _, rfl, I696, (fr1.tr (by decide) (fr1.up (by decide) fr1.rf) k698), (fr2.tr (by decide) fr2.rf k699), ⟨p697c, p697d, p697g, p697h⟩⟩
                  · refine k_c1 27 rfl rfl (if_neg b718) ?_
                    have b718 := mt iv_eq0.mpr b718
                    refine k_push 28 rfl rfl ?_
                    refine k_fin rfl (fin_Z (Or.inl rfl)) ⟨_, _, rfl, rf_len I696 I696, ?_⟩
                    show am_Ok _ _ _ (58, _, [.inl (0 : Int32)], _, 0, 0) _
                    refine k_c1 61 rfl rfl (if_pos (by decide)) ?_
                    refine k_push 62 rfl rfl ?_
                    exact k_fin rfl (fin_Z (Or.inl rfl)) ⟨_, _, _, _, rfl, I696, (fr1.tr (by decide) (fr1.up (by decide) fr1.rf) k698), (fr2.tr (by decide) fr2.rf k699), ⟨p697c, p697d, p697g, p697h⟩⟩
              · refine k_c1 41 rfl rfl (if_neg b701) ?_
                have b701 := mt iv_eq0.mpr b701
                obtain ⟨gn, hn1, hn2, hn3⟩ := p697b (by clear p697b; omega)
                clear p697b
                have fc := p697c
                have fd := p697d
                have fg := p697g
                have fh := p697h
                refine k_aload 42 rfl rfl rfl ?_
                refine k_iload 43 rfl rfl rfl ?_
                have e724 : F694 28 = F0 28 := k698 28 (by decide)
                refine k_rq I696 rfl (m_isTerm (lm := lm) (gT := gT) (gt := gt) I696.1 (show nn ((A695 24)) ((A695 25)) ((F694 28)) (gT) by rw [(k699 24 (by decide)), (k699 25 (by decide)), k698 28 (by decide)]; exact p1) (show nw ((A695 24)) ((A695 25)) ((A695 26)) (lm) ((F694 28)) by rw [(k699 24 (by decide)), (k699 25 (by decide)), (k699 26 (by decide)), k698 28 (by decide)]; exact p2) (show wr A695 from fc) (show wq A695 from fd) (show (A695 2) 2 = (gt) ∧ 1 ≤ (gt) ∧ (gt) ≤ 120 from ⟨fg.trans p7.1, p7.2⟩) (show wf ((A695 1)) 2600 (gt) from wf_congr (fun q hq => (fh _ (by omega)).symm) p8) (show cb ((A695 1)) 2600 (gt) 200 from cb.congr p9 (fun q hq => (fh _ (by omega)).symm)) (show 0 ≤ w2.toInt ∧ w2.toInt ≤ 2 by omega)) rfl rfl rfl I696.rc ?_
                rintro x725 h726 F727 A728 I729 ⟨k731, k732, p730⟩
                replace p730 : (x725.toInt = 0 ∨ x725.toInt = 1) ∧ (x725.toInt = 1 → ∃ n' : Nat, n' ≤ 1000 ∧ A728 2 w2.toInt = n' ∧ wf (A728 1) (1300 * w2.toInt) n') ∧ wr A728 ∧ wq A728 ∧ (∀ q : Int, q ≠ w2.toInt → A728 2 q = (A695 2) q) ∧ (∀ q : Int, (0 ≤ q ∧ q < 1300 * w2.toInt) ∨ 1300 * w2.toInt + 1300 ≤ q → A728 1 q = (A695 1) q) ∧ A728 2 2 = (A695 2) 2 ∧ (∀ q : Int, 2600 ≤ q → A728 1 q = (A695 1) q) := p730
                obtain ⟨p730a, p730b, p730c, p730d, p730e, p730f, p730g, p730h⟩ := p730
                have z733 := iv_01 (x := x725) p730a
                show am_Ok _ _ _ (46, _, [.inl x725, .inr (.inr (some 81))], _, 0, 0) _
                by_cases b734 : x725 = 0
                · refine k_c1 53 rfl rfl (if_pos b734) ?_
                  have b734 := iv_eq0.mp b734
                  refine k_push 54 rfl rfl ?_
                  refine k_push 55 rfl rfl ?_
                  refine k_in (d := 0) rfl rfl rfl rfl I729.rc ?_
                  refine k_aload 1 rfl rfl rfl ?_
                  refine r_gI I729 4 rfl rfl rfl (fun x735 (e736 : x735.toInt = F727 0) => ?_)
                  have e737 : F727 0 = F694 0 := k731 0 (by decide)
                  have e738 : F694 0 = (0 : Int32).toInt := k698 0 (by decide)
                  by_cases b739 : x735 = 0
                  · refine k_c1 7 rfl rfl (if_pos b739) ?_
                    have b739 := iv_eq0.mp b739
                    refine k_iload 8 rfl rfl rfl ?_
                    refine k_c1 11 rfl rfl (if_pos (by decide)) ?_
                    refine k_aload 12 rfl rfl rfl ?_
                    refine k_iload 13 rfl rfl rfl ?_
                    refine r_pI I729 16 rfl rfl rfl (fun h740 I741 => ?_)
                    refine k_aload 17 rfl rfl rfl ?_
                    refine r_gI I741 20 rfl rfl rfl (fun x742 (e743 : x742.toInt = (2 : Int32).toInt) => ?_)
                    by_cases b744 : x742 = 0
                    · refine k_c1 23 rfl rfl (if_pos b744) ?_
                      have b744 := iv_eq0.mp b744
                      refine k_push 24 rfl rfl ?_
                      refine k_goto 28 rfl rfl ?_
                      refine k_fin rfl (fin_Z (Or.inr rfl)) ⟨_, _, rfl, rf_len I729 I741, ?_⟩
                      show am_Ok _ _ _ (58, _, [.inl (1 : Int32)], _, 0, 0) _
                      refine k_c1 63 rfl rfl (if_neg (by decide)) ?_
                      have hbd : (A728 2) w1.toInt ≤ 1000 := sm_bd p730e hn2 hn1 (p730b (by clear p730b; omega))
                      clear p730b
                      refine k_aload 64 rfl rfl rfl ?_
                      refine r_gA I741 67 rfl rfl rfl ?_
                      refine k_iload 68 rfl rfl rfl ?_
                      refine r_ld 2 I741 69 rfl rfl (by omega) (show w1.toInt < 3 by omega) rfl (fun x745 (e746 : x745.toInt = A728 2 w1.toInt) => ?_)
                      refine k_aload 70 rfl rfl rfl ?_
                      refine r_gA I741 73 rfl rfl rfl ?_
                      refine k_iload 74 rfl rfl rfl ?_
                      refine r_ld 2 I741 75 rfl rfl (by omega) (show w2.toInt < 3 by omega) rfl (fun x747 (e748 : x747.toInt = A728 2 w2.toInt) => ?_)
                      by_cases b749 : x745 = x747
                      · refine k_c2 80 rfl rfl (if_pos b749) ?_
                        have b749 := iv_eq.mp b749
                        refine k_push 81 rfl rfl ?_
                        refine k_istore 82 rfl rfl ?_
                        exact b_X10_same_82 (lm := lm) (gT := gT) (gt := gt) (w1 := w1) (w2 := w2) p1 p2 p5 p6 p7 p8 p9 _  rfl (gs_ne rfl rfl rfl) (gs_ne rfl rfl rfl) (gs_ne rfl rfl rfl) gs_eq I741 (fr1.up (by decide) (fr1.tr (by decide) (fr1.tr (by decide) (fr1.up (by decide) fr1.rf) k698) k731)) (fr2.tr (by decide) (fr2.tr (by decide) fr2.rf k699) k732) (show 0 ≤ w1.toInt ∧ w1.toInt ≤ 2 ∧ 0 ≤ w2.toInt ∧ w2.toInt ≤ 2 by omega) (show (A728 2) w1.toInt ≤ 1000 by omega) (show 0 ≤ (0 : Int32).toInt ∧ (0 : Int32).toInt ≤ 1000 by omega) (show wr A728 from p730c) (show wq A728 from p730d) (show (A728 2) 2 = A0 2 2 from p730g.trans fg) (show ∀ q : Int, 2600 ≤ q → (A728 1) q = A0 1 q from fun q hq => (p730h q hq).trans (fh q hq))
                      · refine k_c2 78 rfl rfl (if_neg b749) ?_
                        have b749 := mt iv_eq.mpr b749
                        refine k_push 79 rfl rfl ?_
                        exact k_fin rfl (fin_Z (Or.inl rfl)) ⟨_, _, _, _, rfl, I741, (fr1.up (by decide) (fr1.tr (by decide) (fr1.tr (by decide) (fr1.up (by decide) fr1.rf) k698) k731)), (fr2.tr (by decide) (fr2.tr (by decide) fr2.rf k699) k732), ⟨p730c, p730d, p730g.trans fg, fun q hq => (p730h q hq).trans (fh q hq)⟩⟩
                    · refine k_c1 27 rfl rfl (if_neg b744) ?_
                      have b744 := mt iv_eq0.mpr b744
                      refine k_push 28 rfl rfl ?_
                      refine k_fin rfl (fin_Z (Or.inl rfl)) ⟨_, _, rfl, rf_len I729 I741, ?_⟩
                      show am_Ok _ _ _ (58, _, [.inl (0 : Int32)], _, 0, 0) _
                      refine k_c1 61 rfl rfl (if_pos (by decide)) ?_
                      refine k_push 62 rfl rfl ?_
                      exact k_fin rfl (fin_Z (Or.inl rfl)) ⟨_, _, _, _, rfl, I741, (fr1.up (by decide) (fr1.tr (by decide) (fr1.tr (by decide) (fr1.up (by decide) fr1.rf) k698) k731)), (fr2.tr (by decide) (fr2.tr (by decide) fr2.rf k699) k732), ⟨p730c, p730d, p730g.trans fg, fun q hq => (p730h q hq).trans (fh q hq)⟩⟩
                  · refine k_c1 16 rfl rfl (if_neg b739) ?_
                    have b739 := mt iv_eq0.mpr b739
                    refine k_aload 17 rfl rfl rfl ?_
                    refine r_gI I729 20 rfl rfl rfl (fun x750 (e751 : x750.toInt = F727 0) => ?_)
                    by_cases b752 : x750 = 0
                    · refine k_c1 23 rfl rfl (if_pos b752) ?_
                      have b752 := iv_eq0.mp b752
                      refine k_push 24 rfl rfl ?_
                      refine k_goto 28 rfl rfl ?_
                      refine k_fin rfl (fin_Z (Or.inr rfl)) ⟨_, _, rfl, rf_len I729 I729, ?_⟩
                      show am_Ok _ _ _ (58, _, [.inl (1 : Int32)], _, 0, 0) _
                      refine k_c1 63 rfl rfl (if_neg (by decide)) ?_
                      have hbd : (A728 2) w1.toInt ≤ 1000 := sm_bd p730e hn2 hn1 (p730b (by clear p730b; omega))
                      clear p730b
                      refine k_aload 64 rfl rfl rfl ?_
                      refine r_gA I729 67 rfl rfl rfl ?_
                      refine k_iload 68 rfl rfl rfl ?_
                      refine r_ld 2 I729 69 rfl rfl (by omega) (show w1.toInt < 3 by omega) rfl (fun x753 (e754 : x753.toInt = A728 2 w1.toInt) => ?_)
                      refine k_aload 70 rfl rfl rfl ?_
                      refine r_gA I729 73 rfl rfl rfl ?_
                      refine k_iload 74 rfl rfl rfl ?_
                      refine r_ld 2 I729 75 rfl rfl (by omega) (show w2.toInt < 3 by omega) rfl (fun x755 (e756 : x755.toInt = A728 2 w2.toInt) => ?_)
                      by_cases b757 : x753 = x755
                      · refine k_c2 80 rfl rfl (if_pos b757) ?_
                        have b757 := iv_eq.mp b757
                        refine k_push 81 rfl rfl ?_
                        refine k_istore 82 rfl rfl ?_
                        exact b_X10_same_82 (lm := lm) (gT := gT) (gt := gt) (w1 := w1) (w2 := w2) p1 p2 p5 p6 p7 p8 p9 _  rfl (gs_ne rfl rfl rfl) (gs_ne rfl rfl rfl) (gs_ne rfl rfl rfl) gs_eq I729 (fr1.tr (by decide) (fr1.tr (by decide) (fr1.up (by decide) fr1.rf) k698) k731) (fr2.tr (by decide) (fr2.tr (by decide) fr2.rf k699) k732) (show 0 ≤ w1.toInt ∧ w1.toInt ≤ 2 ∧ 0 ≤ w2.toInt ∧ w2.toInt ≤ 2 by omega) (show (A728 2) w1.toInt ≤ 1000 by omega) (show 0 ≤ (0 : Int32).toInt ∧ (0 : Int32).toInt ≤ 1000 by omega) (show wr A728 from p730c) (show wq A728 from p730d) (show (A728 2) 2 = A0 2 2 from p730g.trans fg) (show ∀ q : Int, 2600 ≤ q → (A728 1) q = A0 1 q from fun q hq => (p730h q hq).trans (fh q hq))
                      · refine k_c2 78 rfl rfl (if_neg b757) ?_
                        have b757 := mt iv_eq.mpr b757
                        refine k_push 79 rfl rfl ?_
                        exact k_fin rfl (fin_Z (Or.inl rfl)) ⟨_, _, _, _, rfl, I729, (fr1.tr (by decide) (fr1.tr (by decide) (fr1.up (by decide) fr1.rf) k698) k731), (fr2.tr (by decide) (fr2.tr (by decide) fr2.rf k699) k732), ⟨p730c, p730d, p730g.trans fg, fun q hq => (p730h q hq).trans (fh q hq)⟩⟩
                    · refine k_c1 27 rfl rfl (if_neg b752) ?_
                      have b752 := mt iv_eq0.mpr b752
                      refine k_push 28 rfl rfl ?_
                      refine k_fin rfl (fin_Z (Or.inl rfl)) ⟨_, _, rfl, rf_len I729 I729, ?_⟩
                      show am_Ok _ _ _ (58, _, [.inl (0 : Int32)], _, 0, 0) _
                      refine k_c1 61 rfl rfl (if_pos (by decide)) ?_
                      refine k_push 62 rfl rfl ?_
                      exact k_fin rfl (fin_Z (Or.inl rfl)) ⟨_, _, _, _, rfl, I729, (fr1.tr (by decide) (fr1.tr (by decide) (fr1.up (by decide) fr1.rf) k698) k731), (fr2.tr (by decide) (fr2.tr (by decide) fr2.rf k699) k732), ⟨p730c, p730d, p730g.trans fg, fun q hq => (p730h q hq).trans (fh q hq)⟩⟩
                · refine k_c1 49 rfl rfl (if_neg b734) ?_
                  have b734 := mt iv_eq0.mpr b734
                  refine k_push 50 rfl rfl ?_
                  refine k_goto 54 rfl rfl ?_
                  refine k_push 55 rfl rfl ?_
                  refine k_in (d := 0) rfl rfl rfl rfl I729.rc ?_
                  refine k_aload 1 rfl rfl rfl ?_
                  refine r_gI I729 4 rfl rfl rfl (fun x758 (e759 : x758.toInt = F727 0) => ?_)
                  have e760 : F727 0 = F694 0 := k731 0 (by decide)
                  have e761 : F694 0 = (0 : Int32).toInt := k698 0 (by decide)
                  by_cases b762 : x758 = 0
                  · refine k_c1 7 rfl rfl (if_pos b762) ?_
                    have b762 := iv_eq0.mp b762
                    refine k_iload 8 rfl rfl rfl ?_
                    refine k_c1 16 rfl rfl (if_neg (by decide)) ?_
                    refine k_aload 17 rfl rfl rfl ?_
                    refine r_gI I729 20 rfl rfl rfl (fun x763 (e764 : x763.toInt = F727 0) => ?_)
                    by_cases b765 : x763 = 0
                    · refine k_c1 23 rfl rfl (if_pos b765) ?_
                      have b765 := iv_eq0.mp b765
                      refine k_push 24 rfl rfl ?_
                      refine k_goto 28 rfl rfl ?_
                      refine k_fin rfl (fin_Z (Or.inr rfl)) ⟨_, _, rfl, rf_len I729 I729, ?_⟩
                      show am_Ok _ _ _ (58, _, [.inl (1 : Int32)], _, 0, 0) _
                      refine k_c1 63 rfl rfl (if_neg (by decide)) ?_
                      have hbd : (A728 2) w1.toInt ≤ 1000 := sm_bd p730e hn2 hn1 (p730b (by clear p730b; omega))
                      clear p730b
                      refine k_aload 64 rfl rfl rfl ?_
                      refine r_gA I729 67 rfl rfl rfl ?_
                      refine k_iload 68 rfl rfl rfl ?_
                      refine r_ld 2 I729 69 rfl rfl (by omega) (show w1.toInt < 3 by omega) rfl (fun x766 (e767 : x766.toInt = A728 2 w1.toInt) => ?_)
                      refine k_aload 70 rfl rfl rfl ?_
                      refine r_gA I729 73 rfl rfl rfl ?_
                      refine k_iload 74 rfl rfl rfl ?_
                      refine r_ld 2 I729 75 rfl rfl (by omega) (show w2.toInt < 3 by omega) rfl (fun x768 (e769 : x768.toInt = A728 2 w2.toInt) => ?_)
                      by_cases b770 : x766 = x768
                      · refine k_c2 80 rfl rfl (if_pos b770) ?_
                        have b770 := iv_eq.mp b770
                        refine k_push 81 rfl rfl ?_
                        refine k_istore 82 rfl rfl ?_
                        exact b_X10_same_82 (lm := lm) (gT := gT) (gt := gt) (w1 := w1) (w2 := w2) p1 p2 p5 p6 p7 p8 p9 _  rfl (gs_ne rfl rfl rfl) (gs_ne rfl rfl rfl) (gs_ne rfl rfl rfl) gs_eq I729 (fr1.tr (by decide) (fr1.tr (by decide) (fr1.up (by decide) fr1.rf) k698) k731) (fr2.tr (by decide) (fr2.tr (by decide) fr2.rf k699) k732) (show 0 ≤ w1.toInt ∧ w1.toInt ≤ 2 ∧ 0 ≤ w2.toInt ∧ w2.toInt ≤ 2 by omega) (show (A728 2) w1.toInt ≤ 1000 by omega) (show 0 ≤ (0 : Int32).toInt ∧ (0 : Int32).toInt ≤ 1000 by omega) (show wr A728 from p730c) (show wq A728 from p730d) (show (A728 2) 2 = A0 2 2 from p730g.trans fg) (show ∀ q : Int, 2600 ≤ q → (A728 1) q = A0 1 q from fun q hq => (p730h q hq).trans (fh q hq))
                      · refine k_c2 78 rfl rfl (if_neg b770) ?_
                        have b770 := mt iv_eq.mpr b770
                        refine k_push 79 rfl rfl ?_
                        exact k_fin rfl (fin_Z (Or.inl rfl)) ⟨_, _, _, _, rfl, I729, (fr1.tr (by decide) (fr1.tr (by decide) (fr1.up (by decide) fr1.rf) k698) k731), (fr2.tr (by decide) (fr2.tr (by decide) fr2.rf k699) k732), ⟨p730c, p730d, p730g.trans fg, fun q hq => (p730h q hq).trans (fh q hq)⟩⟩
                    · refine k_c1 27 rfl rfl (if_neg b765) ?_
                      have b765 := mt iv_eq0.mpr b765
                      refine k_push 28 rfl rfl ?_
                      refine k_fin rfl (fin_Z (Or.inl rfl)) ⟨_, _, rfl, rf_len I729 I729, ?_⟩
                      show am_Ok _ _ _ (58, _, [.inl (0 : Int32)], _, 0, 0) _
                      refine k_c1 61 rfl rfl (if_pos (by decide)) ?_
                      refine k_push 62 rfl rfl ?_
                      exact k_fin rfl (fin_Z (Or.inl rfl)) ⟨_, _, _, _, rfl, I729, (fr1.tr (by decide) (fr1.tr (by decide) (fr1.up (by decide) fr1.rf) k698) k731), (fr2.tr (by decide) (fr2.tr (by decide) fr2.rf k699) k732), ⟨p730c, p730d, p730g.trans fg, fun q hq => (p730h q hq).trans (fh q hq)⟩⟩
                  · refine k_c1 16 rfl rfl (if_neg b762) ?_
                    have b762 := mt iv_eq0.mpr b762
                    refine k_aload 17 rfl rfl rfl ?_
                    refine r_gI I729 20 rfl rfl rfl (fun x771 (e772 : x771.toInt = F727 0) => ?_)
                    by_cases b773 : x771 = 0
                    · refine k_c1 23 rfl rfl (if_pos b773) ?_
                      have b773 := iv_eq0.mp b773
                      refine k_push 24 rfl rfl ?_
                      refine k_goto 28 rfl rfl ?_
                      refine k_fin rfl (fin_Z (Or.inr rfl)) ⟨_, _, rfl, rf_len I729 I729, ?_⟩
                      show am_Ok _ _ _ (58, _, [.inl (1 : Int32)], _, 0, 0) _
                      refine k_c1 63 rfl rfl (if_neg (by decide)) ?_
                      have hbd : (A728 2) w1.toInt ≤ 1000 := sm_bd p730e hn2 hn1 (p730b (by clear p730b; omega))
                      clear p730b
                      refine k_aload 64 rfl rfl rfl ?_
                      refine r_gA I729 67 rfl rfl rfl ?_
                      refine k_iload 68 rfl rfl rfl ?_
                      refine r_ld 2 I729 69 rfl rfl (by omega) (show w1.toInt < 3 by omega) rfl (fun x774 (e775 : x774.toInt = A728 2 w1.toInt) => ?_)
                      refine k_aload 70 rfl rfl rfl ?_
                      refine r_gA I729 73 rfl rfl rfl ?_
                      refine k_iload 74 rfl rfl rfl ?_
                      refine r_ld 2 I729 75 rfl rfl (by omega) (show w2.toInt < 3 by omega) rfl (fun x776 (e777 : x776.toInt = A728 2 w2.toInt) => ?_)
                      by_cases b778 : x774 = x776
                      · refine k_c2 80 rfl rfl (if_pos b778) ?_
                        have b778 := iv_eq.mp b778
                        refine k_push 81 rfl rfl ?_
                        refine k_istore 82 rfl rfl ?_
                        exact b_X10_same_82 (lm := lm) (gT := gT) (gt := gt) (w1 := w1) (w2 := w2) p1 p2 p5 p6 p7 p8 p9 _  rfl (gs_ne rfl rfl rfl) (gs_ne rfl rfl rfl) (gs_ne rfl rfl rfl) gs_eq I729 (fr1.tr (by decide) (fr1.tr (by decide) (fr1.up (by decide) fr1.rf) k698) k731) (fr2.tr (by decide) (fr2.tr (by decide) fr2.rf k699) k732) (show 0 ≤ w1.toInt ∧ w1.toInt ≤ 2 ∧ 0 ≤ w2.toInt ∧ w2.toInt ≤ 2 by omega) (show (A728 2) w1.toInt ≤ 1000 by omega) (show 0 ≤ (0 : Int32).toInt ∧ (0 : Int32).toInt ≤ 1000 by omega) (show wr A728 from p730c) (show wq A728 from p730d) (show (A728 2) 2 = A0 2 2 from p730g.trans fg) (show ∀ q : Int, 2600 ≤ q → (A728 1) q = A0 1 q from fun q hq => (p730h q hq).trans (fh q hq))
                      · refine k_c2 78 rfl rfl (if_neg b778) ?_
                        have b778 := mt iv_eq.mpr b778
                        refine k_push 79 rfl rfl ?_
                        exact k_fin rfl (fin_Z (Or.inl rfl)) ⟨_, _, _, _, rfl, I729, (fr1.tr (by decide) (fr1.tr (by decide) (fr1.up (by decide) fr1.rf) k698) k731), (fr2.tr (by decide) (fr2.tr (by decide) fr2.rf k699) k732), ⟨p730c, p730d, p730g.trans fg, fun q hq => (p730h q hq).trans (fh q hq)⟩⟩
                    · refine k_c1 27 rfl rfl (if_neg b773) ?_
                      have b773 := mt iv_eq0.mpr b773
                      refine k_push 28 rfl rfl ?_
                      refine k_fin rfl (fin_Z (Or.inl rfl)) ⟨_, _, rfl, rf_len I729 I729, ?_⟩
                      show am_Ok _ _ _ (58, _, [.inl (0 : Int32)], _, 0, 0) _
                      refine k_c1 61 rfl rfl (if_pos (by decide)) ?_
                      refine k_push 62 rfl rfl ?_
                      exact k_fin rfl (fin_Z (Or.inl rfl)) ⟨_, _, _, _, rfl, I729, (fr1.tr (by decide) (fr1.tr (by decide) (fr1.up (by decide) fr1.rf) k698) k731), (fr2.tr (by decide) (fr2.tr (by decide) fr2.rf k699) k732), ⟨p730c, p730d, p730g.trans fg, fun q hq => (p730h q hq).trans (fh q hq)⟩⟩
            · refine k_c1 27 rfl rfl (if_neg b691) ?_
              have b691 := mt iv_eq0.mpr b691
              refine k_push 28 rfl rfl ?_
              refine k_fin rfl (fin_Z (Or.inl rfl)) ⟨_, _, rfl, rf_len I30 I30, ?_⟩
              show am_Ok _ _ _ (29, _, [.inl (0 : Int32)], _, 0, 0) _
              refine k_c1 61 rfl rfl (if_pos (by decide)) ?_
              refine k_push 62 rfl rfl ?_
              exact k_fin rfl (fin_Z (Or.inl rfl)) ⟨_, _, _, _, rfl, I30, (fr1.up (by decide) fr1.rf), fr2.rf, ⟨p5, p6, rfl, fun q _ => rfl⟩⟩
        · refine k_c2 10 rfl rfl (if_neg b593) ?_
          have b593 := mt iv_lt.mpr b593
          refine k_push 11 rfl rfl ?_
          refine k_goto 15 rfl rfl ?_
          refine k_fin rfl (fin_Z (Or.inr rfl)) ⟨_, _, rfl, rf_len I30 I30, ?_⟩
          show am_Ok _ _ _ (6, _, [.inl (1 : Int32)], _, 0, 0) _
          refine k_fin rfl (fin_Z (Or.inr rfl)) ⟨_, _, rfl, rf_len I30 I30, ?_⟩
          show am_Ok _ _ _ (17, _, [.inl (1 : Int32), .inr (.inr (some 81))], _, 0, 0) _
          refine k_c1 20 rfl rfl (if_neg (by decide)) ?_
          refine k_push 21 rfl rfl ?_
          refine k_goto 25 rfl rfl ?_
          refine k_push 26 rfl rfl ?_
          refine k_in (d := 0) rfl rfl rfl rfl I30.rc ?_
          refine k_aload 1 rfl rfl rfl ?_
          refine r_gI I30 4 rfl rfl rfl (fun x779 (e780 : x779.toInt = (0 : Int32).toInt) => ?_)
          by_cases b781 : x779 = 0
          · refine k_c1 7 rfl rfl (if_pos b781) ?_
            have b781 := iv_eq0.mp b781
            refine k_iload 8 rfl rfl rfl ?_
            refine k_c1 16 rfl rfl (if_neg (by decide)) ?_
            refine k_aload 17 rfl rfl rfl ?_
            refine r_gI I30 20 rfl rfl rfl (fun x782 (e783 : x782.toInt = (0 : Int32).toInt) => ?_)
            by_cases b784 : x782 = 0
            · refine k_c1 23 rfl rfl (if_pos b784) ?_
              have b784 := iv_eq0.mp b784
              refine k_push 24 rfl rfl ?_
              refine k_goto 28 rfl rfl ?_
              refine k_fin rfl (fin_Z (Or.inr rfl)) ⟨_, _, rfl, rf_len I30 I30, ?_⟩
              show am_Ok _ _ _ (29, _, [.inl (1 : Int32)], _, 0, 0) _
              refine k_c1 32 rfl rfl (if_neg (by decide)) ?_
              refine k_aload 33 rfl rfl rfl ?_
              refine k_aload 34 rfl rfl rfl ?_
              refine k_iload 35 rfl rfl rfl ?_
              refine k_rq I30 rfl (m_isTerm (lm := lm) (gT := gT) (gt := gt) I30.1 (show nn ((A0 24)) ((A0 25)) ((F0 28)) (gT) from p1) (show nw ((A0 24)) ((A0 25)) ((A0 26)) (lm) ((F0 28)) from p2) (show wr A0 from p5) (show wq A0 from p6) (show (A0 2) 2 = (gt) ∧ 1 ≤ (gt) ∧ (gt) ≤ 120 from p7) (show wf ((A0 1)) 2600 (gt) from p8) (show cb ((A0 1)) 2600 (gt) 200 from p9) (show 0 ≤ w1.toInt ∧ w1.toInt ≤ 2 by omega)) rfl rfl rfl I30.rc ?_
              rintro x785 h786 F787 A788 I789 ⟨k791, k792, p790⟩
              replace p790 : (x785.toInt = 0 ∨ x785.toInt = 1) ∧ (x785.toInt = 1 → ∃ n' : Nat, n' ≤ 1000 ∧ A788 2 w1.toInt = n' ∧ wf (A788 1) (1300 * w1.toInt) n') ∧ wr A788 ∧ wq A788 ∧ (∀ q : Int, q ≠ w1.toInt → A788 2 q = (A0 2) q) ∧ (∀ q : Int, (0 ≤ q ∧ q < 1300 * w1.toInt) ∨ 1300 * w1.toInt + 1300 ≤ q → A788 1 q = (A0 1) q) ∧ A788 2 2 = (A0 2) 2 ∧ (∀ q : Int, 2600 ≤ q → A788 1 q = (A0 1) q) := p790
              obtain ⟨p790a, p790b, p790c, p790d, p790e, p790f, p790g, p790h⟩ := p790
              have z793 := iv_01 (x := x785) p790a
              show am_Ok _ _ _ (38, _, [.inl x785, .inr (.inr (some 81))], _, 0, 0) _
              by_cases b794 : x785 = 0
              · refine k_c1 53 rfl rfl (if_pos b794) ?_
                have b794 := iv_eq0.mp b794
                refine k_push 54 rfl rfl ?_
                refine k_push 55 rfl rfl ?_
                refine k_in (d := 0) rfl rfl rfl rfl I789.rc ?_
                refine k_aload 1 rfl rfl rfl ?_
                refine r_gI I789 4 rfl rfl rfl (fun x795 (e796 : x795.toInt = F787 0) => ?_)
                have e797 : F787 0 = (0 : Int32).toInt := k791 0 (by decide)
                by_cases b798 : x795 = 0
                · refine k_c1 7 rfl rfl (if_pos b798) ?_
                  have b798 := iv_eq0.mp b798
                  refine k_iload 8 rfl rfl rfl ?_
                  refine k_c1 11 rfl rfl (if_pos (by decide)) ?_
                  refine k_aload 12 rfl rfl rfl ?_
                  refine k_iload 13 rfl rfl rfl ?_
                  refine r_pI I789 16 rfl rfl rfl (fun h799 I800 => ?_)
                  refine k_aload 17 rfl rfl rfl ?_
                  refine r_gI I800 20 rfl rfl rfl (fun x801 (e802 : x801.toInt = (2 : Int32).toInt) => ?_)
                  by_cases b803 : x801 = 0
                  · refine k_c1 23 rfl rfl (if_pos b803) ?_
                    have b803 := iv_eq0.mp b803
                    refine k_push 24 rfl rfl ?_
                    refine k_goto 28 rfl rfl ?_
                    refine k_fin rfl (fin_Z (Or.inr rfl)) ⟨_, _, rfl, rf_len I789 I800, ?_⟩
                    show am_Ok _ _ _ (58, _, [.inl (1 : Int32)], _, 0, 0) _
                    refine k_c1 63 rfl rfl (if_neg (by decide)) ?_
                    have hbd : (A788 2) w1.toInt ≤ 1000 := by clear p790b; omega
                    clear p790b
                    refine k_aload 64 rfl rfl rfl ?_
                    refine r_gA I800 67 rfl rfl rfl ?_
                    refine k_iload 68 rfl rfl rfl ?_
                    refine r_ld 2 I800 69 rfl rfl (by omega) (show w1.toInt < 3 by omega) rfl (fun x804 (e805 : x804.toInt = A788 2 w1.toInt) => ?_)
                    refine k_aload 70 rfl rfl rfl ?_
                    refine r_gA I800 73 rfl rfl rfl ?_
                    refine k_iload 74 rfl rfl rfl ?_
                    refine r_ld 2 I800 75 rfl rfl (by omega) (show w2.toInt < 3 by omega) rfl (fun x806 (e807 : x806.toInt = A788 2 w2.toInt) => ?_)
                    by_cases b808 : x804 = x806
                    · refine k_c2 80 rfl rfl (if_pos b808) ?_
                      have b808 := iv_eq.mp b808
                      refine k_push 81 rfl rfl ?_
                      refine k_istore 82 rfl rfl ?_
                      exact b_X10_same_82 (lm := lm) (gT := gT) (gt := gt) (w1 := w1) (w2 := w2) p1 p2 p5 p6 p7 p8 p9 _  rfl (gs_ne rfl rfl rfl) (gs_ne rfl rfl rfl) (gs_ne rfl rfl rfl) gs_eq I800 (fr1.up (by decide) (fr1.tr (by decide) (fr1.up (by decide) fr1.rf) k791)) (fr2.tr (by decide) fr2.rf k792) (show 0 ≤ w1.toInt ∧ w1.toInt ≤ 2 ∧ 0 ≤ w2.toInt ∧ w2.toInt ≤ 2 by omega) (show (A788 2) w1.toInt ≤ 1000 by omega) (show 0 ≤ (0 : Int32).toInt ∧ (0 : Int32).toInt ≤ 1000 by omega) (show wr A788 from p790c) (show wq A788 from p790d) (show (A788 2) 2 = A0 2 2 from p790g) (show ∀ q : Int, 2600 ≤ q → (A788 1) q = A0 1 q from p790h)
                    · refine k_c2 78 rfl rfl (if_neg b808) ?_
                      have b808 := mt iv_eq.mpr b808
                      refine k_push 79 rfl rfl ?_
                      exact k_fin rfl (fin_Z (Or.inl rfl)) ⟨_, _, _, _, rfl, I800, (fr1.up (by decide) (fr1.tr (by decide) (fr1.up (by decide) fr1.rf) k791)), (fr2.tr (by decide) fr2.rf k792), ⟨p790c, p790d, p790g, p790h⟩⟩
                  · refine k_c1 27 rfl rfl (if_neg b803) ?_
                    have b803 := mt iv_eq0.mpr b803
                    refine k_push 28 rfl rfl ?_
                    refine k_fin rfl (fin_Z (Or.inl rfl)) ⟨_, _, rfl, rf_len I789 I800, ?_⟩
                    show am_Ok _ _ _ (58, _, [.inl (0 : Int32)], _, 0, 0) _
                    refine k_c1 61 rfl rfl (if_pos (by decide)) ?_
                    refine k_push 62 rfl rfl ?_
                    exact k_fin rfl (fin_Z (Or.inl rfl)) ⟨_, _, _, _, rfl, I800, (fr1.up (by decide) (fr1.tr (by decide) (fr1.up (by decide) fr1.rf) k791)), (fr2.tr (by decide) fr2.rf k792), ⟨p790c, p790d, p790g, p790h⟩⟩
                · refine k_c1 16 rfl rfl (if_neg b798) ?_
                  have b798 := mt iv_eq0.mpr b798
                  refine k_aload 17 rfl rfl rfl ?_
                  refine r_gI I789 20 rfl rfl rfl (fun x809 (e810 : x809.toInt = F787 0) => ?_)
                  by_cases b811 : x809 = 0
                  · refine k_c1 23 rfl rfl (if_pos b811) ?_
                    have b811 := iv_eq0.mp b811
                    refine k_push 24 rfl rfl ?_
                    refine k_goto 28 rfl rfl ?_
                    refine k_fin rfl (fin_Z (Or.inr rfl)) ⟨_, _, rfl, rf_len I789 I789, ?_⟩
                    show am_Ok _ _ _ (58, _, [.inl (1 : Int32)], _, 0, 0) _
                    refine k_c1 63 rfl rfl (if_neg (by decide)) ?_
                    have hbd : (A788 2) w1.toInt ≤ 1000 := by clear p790b; omega
                    clear p790b
                    refine k_aload 64 rfl rfl rfl ?_
                    refine r_gA I789 67 rfl rfl rfl ?_
                    refine k_iload 68 rfl rfl rfl ?_
                    refine r_ld 2 I789 69 rfl rfl (by omega) (show w1.toInt < 3 by omega) rfl (fun x812 (e813 : x812.toInt = A788 2 w1.toInt) => ?_)
                    refine k_aload 70 rfl rfl rfl ?_
                    refine r_gA I789 73 rfl rfl rfl ?_
                    refine k_iload 74 rfl rfl rfl ?_
                    refine r_ld 2 I789 75 rfl rfl (by omega) (show w2.toInt < 3 by omega) rfl (fun x814 (e815 : x814.toInt = A788 2 w2.toInt) => ?_)
                    by_cases b816 : x812 = x814
                    · refine k_c2 80 rfl rfl (if_pos b816) ?_
                      have b816 := iv_eq.mp b816
                      refine k_push 81 rfl rfl ?_
                      refine k_istore 82 rfl rfl ?_
                      exact b_X10_same_82 (lm := lm) (gT := gT) (gt := gt) (w1 := w1) (w2 := w2) p1 p2 p5 p6 p7 p8 p9 _  rfl (gs_ne rfl rfl rfl) (gs_ne rfl rfl rfl) (gs_ne rfl rfl rfl) gs_eq I789 (fr1.tr (by decide) (fr1.up (by decide) fr1.rf) k791) (fr2.tr (by decide) fr2.rf k792) (show 0 ≤ w1.toInt ∧ w1.toInt ≤ 2 ∧ 0 ≤ w2.toInt ∧ w2.toInt ≤ 2 by omega) (show (A788 2) w1.toInt ≤ 1000 by omega) (show 0 ≤ (0 : Int32).toInt ∧ (0 : Int32).toInt ≤ 1000 by omega) (show wr A788 from p790c) (show wq A788 from p790d) (show (A788 2) 2 = A0 2 2 from p790g) (show ∀ q : Int, 2600 ≤ q → (A788 1) q = A0 1 q from p790h)
                    · refine k_c2 78 rfl rfl (if_neg b816) ?_
                      have b816 := mt iv_eq.mpr b816
                      refine k_push 79 rfl rfl ?_
                      exact k_fin rfl (fin_Z (Or.inl rfl)) ⟨_, _, _, _, rfl, I789, (fr1.tr (by decide) (fr1.up (by decide) fr1.rf) k791), (fr2.tr (by decide) fr2.rf k792), ⟨p790c, p790d, p790g, p790h⟩⟩
                  · refine k_c1 27 rfl rfl (if_neg b811) ?_
                    have b811 := mt iv_eq0.mpr b811
                    refine k_push 28 rfl rfl ?_
                    refine k_fin rfl (fin_Z (Or.inl rfl)) ⟨_, _, rfl, rf_len I789 I789, ?_⟩
                    show am_Ok _ _ _ (58, _, [.inl (0 : Int32)], _, 0, 0) _
                    refine k_c1 61 rfl rfl (if_pos (by decide)) ?_
                    refine k_push 62 rfl rfl ?_
                    exact k_fin rfl (fin_Z (Or.inl rfl)) ⟨_, _, _, _, rfl, I789, (fr1.tr (by decide) (fr1.up (by decide) fr1.rf) k791), (fr2.tr (by decide) fr2.rf k792), ⟨p790c, p790d, p790g, p790h⟩⟩
              · refine k_c1 41 rfl rfl (if_neg b794) ?_
                have b794 := mt iv_eq0.mpr b794
                obtain ⟨gn, hn1, hn2, hn3⟩ := p790b (by clear p790b; omega)
                clear p790b
                have fc := p790c
                have fd := p790d
                have fg := p790g
                have fh := p790h
                refine k_aload 42 rfl rfl rfl ?_
                refine k_iload 43 rfl rfl rfl ?_
                have e817 : F787 28 = F0 28 := k791 28 (by decide)
                refine k_rq I789 rfl (m_isTerm (lm := lm) (gT := gT) (gt := gt) I789.1 (show nn ((A788 24)) ((A788 25)) ((F787 28)) (gT) by rw [(k792 24 (by decide)), (k792 25 (by decide)), k791 28 (by decide)]; exact p1) (show nw ((A788 24)) ((A788 25)) ((A788 26)) (lm) ((F787 28)) by rw [(k792 24 (by decide)), (k792 25 (by decide)), (k792 26 (by decide)), k791 28 (by decide)]; exact p2) (show wr A788 from fc) (show wq A788 from fd) (show (A788 2) 2 = (gt) ∧ 1 ≤ (gt) ∧ (gt) ≤ 120 from ⟨fg.trans p7.1, p7.2⟩) (show wf ((A788 1)) 2600 (gt) from wf_congr (fun q hq => (fh _ (by omega)).symm) p8) (show cb ((A788 1)) 2600 (gt) 200 from cb.congr p9 (fun q hq => (fh _ (by omega)).symm)) (show 0 ≤ w2.toInt ∧ w2.toInt ≤ 2 by omega)) rfl rfl rfl I789.rc ?_
                rintro x818 h819 F820 A821 I822 ⟨k824, k825, p823⟩
                replace p823 : (x818.toInt = 0 ∨ x818.toInt = 1) ∧ (x818.toInt = 1 → ∃ n' : Nat, n' ≤ 1000 ∧ A821 2 w2.toInt = n' ∧ wf (A821 1) (1300 * w2.toInt) n') ∧ wr A821 ∧ wq A821 ∧ (∀ q : Int, q ≠ w2.toInt → A821 2 q = (A788 2) q) ∧ (∀ q : Int, (0 ≤ q ∧ q < 1300 * w2.toInt) ∨ 1300 * w2.toInt + 1300 ≤ q → A821 1 q = (A788 1) q) ∧ A821 2 2 = (A788 2) 2 ∧ (∀ q : Int, 2600 ≤ q → A821 1 q = (A788 1) q) := p823
                obtain ⟨p823a, p823b, p823c, p823d, p823e, p823f, p823g, p823h⟩ := p823
                have z826 := iv_01 (x := x818) p823a
                show am_Ok _ _ _ (46, _, [.inl x818, .inr (.inr (some 81))], _, 0, 0) _
                by_cases b827 : x818 = 0
                · refine k_c1 53 rfl rfl (if_pos b827) ?_
                  have b827 := iv_eq0.mp b827
                  refine k_push 54 rfl rfl ?_
                  refine k_push 55 rfl rfl ?_
                  refine k_in (d := 0) rfl rfl rfl rfl I822.rc ?_
                  refine k_aload 1 rfl rfl rfl ?_
                  refine r_gI I822 4 rfl rfl rfl (fun x828 (e829 : x828.toInt = F820 0) => ?_)
                  have e830 : F820 0 = F787 0 := k824 0 (by decide)
                  have e831 : F787 0 = (0 : Int32).toInt := k791 0 (by decide)
                  by_cases b832 : x828 = 0
                  · refine k_c1 7 rfl rfl (if_pos b832) ?_
                    have b832 := iv_eq0.mp b832
                    refine k_iload 8 rfl rfl rfl ?_
                    refine k_c1 11 rfl rfl (if_pos (by decide)) ?_
                    refine k_aload 12 rfl rfl rfl ?_
                    refine k_iload 13 rfl rfl rfl ?_
                    refine r_pI I822 16 rfl rfl rfl (fun h833 I834 => ?_)
                    refine k_aload 17 rfl rfl rfl ?_
                    refine r_gI I834 20 rfl rfl rfl (fun x835 (e836 : x835.toInt = (2 : Int32).toInt) => ?_)
                    by_cases b837 : x835 = 0
                    · refine k_c1 23 rfl rfl (if_pos b837) ?_
                      have b837 := iv_eq0.mp b837
                      refine k_push 24 rfl rfl ?_
                      refine k_goto 28 rfl rfl ?_
                      refine k_fin rfl (fin_Z (Or.inr rfl)) ⟨_, _, rfl, rf_len I822 I834, ?_⟩
                      show am_Ok _ _ _ (58, _, [.inl (1 : Int32)], _, 0, 0) _
                      refine k_c1 63 rfl rfl (if_neg (by decide)) ?_
                      have hbd : (A821 2) w1.toInt ≤ 1000 := sm_bd p823e hn2 hn1 (p823b (by clear p823b; omega))
                      clear p823b
                      refine k_aload 64 rfl rfl rfl ?_
                      refine r_gA I834 67 rfl rfl rfl ?_
                      refine k_iload 68 rfl rfl rfl ?_
                      refine r_ld 2 I834 69 rfl rfl (by omega) (show w1.toInt < 3 by omega) rfl (fun x838 (e839 : x838.toInt = A821 2 w1.toInt) => ?_)
                      refine k_aload 70 rfl rfl rfl ?_
                      refine r_gA I834 73 rfl rfl rfl ?_
                      refine k_iload 74 rfl rfl rfl ?_
                      refine r_ld 2 I834 75 rfl rfl (by omega) (show w2.toInt < 3 by omega) rfl (fun x840 (e841 : x840.toInt = A821 2 w2.toInt) => ?_)
                      by_cases b842 : x838 = x840
                      · refine k_c2 80 rfl rfl (if_pos b842) ?_
                        have b842 := iv_eq.mp b842
                        refine k_push 81 rfl rfl ?_
                        refine k_istore 82 rfl rfl ?_
                        exact b_X10_same_82 (lm := lm) (gT := gT) (gt := gt) (w1 := w1) (w2 := w2) p1 p2 p5 p6 p7 p8 p9 _  rfl (gs_ne rfl rfl rfl) (gs_ne rfl rfl rfl) (gs_ne rfl rfl rfl) gs_eq I834 (fr1.up (by decide) (fr1.tr (by decide) (fr1.tr (by decide) (fr1.up (by decide) fr1.rf) k791) k824)) (fr2.tr (by decide) (fr2.tr (by decide) fr2.rf k792) k825) (show 0 ≤ w1.toInt ∧ w1.toInt ≤ 2 ∧ 0 ≤ w2.toInt ∧ w2.toInt ≤ 2 by omega) (show (A821 2) w1.toInt ≤ 1000 by omega) (show 0 ≤ (0 : Int32).toInt ∧ (0 : Int32).toInt ≤ 1000 by omega) (show wr A821 from p823c) (show wq A821 from p823d) (show (A821 2) 2 = A0 2 2 from p823g.trans fg) (show ∀ q : Int, 2600 ≤ q → (A821 1) q = A0 1 q from fun q hq => (p823h q hq).trans (fh q hq))
                      · refine k_c2 78 rfl rfl (if_neg b842) ?_
                        have b842 := mt iv_eq.mpr b842
                        refine k_push 79 rfl rfl ?_
                        exact k_fin rfl (fin_Z (Or.inl rfl)) ⟨_, _, _, _, rfl, I834, (fr1.up (by decide) (fr1.tr (by decide) (fr1.tr (by decide) (fr1.up (by decide) fr1.rf) k791) k824)), (fr2.tr (by decide) (fr2.tr (by decide) fr2.rf k792) k825), ⟨p823c, p823d, p823g.trans fg, fun q hq => (p823h q hq).trans (fh q hq)⟩⟩
                    · refine k_c1 27 rfl rfl (if_neg b837) ?_
                      have b837 := mt iv_eq0.mpr b837
                      refine k_push 28 rfl rfl ?_
                      refine k_fin rfl (fin_Z (Or.inl rfl)) ⟨_, _, rfl, rf_len I822 I834, ?_⟩
                      show am_Ok _ _ _ (58, _, [.inl (0 : Int32)], _, 0, 0) _
                      refine k_c1 61 rfl rfl (if_pos (by decide)) ?_
                      refine k_push 62 rfl rfl ?_
                      exact k_fin rfl (fin_Z (Or.inl rfl)) ⟨_, _, _, _, rfl, I834, (fr1.up (by decide) (fr1.tr (by decide) (fr1.tr (by decide) (fr1.up (by decide) fr1.rf) k791) k824)), (fr2.tr (by decide) (fr2.tr (by decide) fr2.rf k792) k825), ⟨p823c, p823d, p823g.trans fg, fun q hq => (p823h q hq).trans (fh q hq)⟩⟩
                  · refine k_c1 16 rfl rfl (if_neg b832) ?_
                    have b832 := mt iv_eq0.mpr b832
                    refine k_aload 17 rfl rfl rfl ?_
                    refine r_gI I822 20 rfl rfl rfl (fun x843 (e844 : x843.toInt = F820 0) => ?_)
                    by_cases b845 : x843 = 0
                    · refine k_c1 23 rfl rfl (if_pos b845) ?_
                      have b845 := iv_eq0.mp b845
                      refine k_push 24 rfl rfl ?_
                      refine k_goto 28 rfl rfl ?_
                      refine k_fin rfl (fin_Z (Or.inr rfl)) ⟨_, _, rfl, rf_len I822 I822, ?_⟩
                      show am_Ok _ _ _ (58, _, [.inl (1 : Int32)], _, 0, 0) _
                      refine k_c1 63 rfl rfl (if_neg (by decide)) ?_
                      have hbd : (A821 2) w1.toInt ≤ 1000 := sm_bd p823e hn2 hn1 (p823b (by clear p823b; omega))
                      clear p823b
                      refine k_aload 64 rfl rfl rfl ?_
                      refine r_gA I822 67 rfl rfl rfl ?_
                      refine k_iload 68 rfl rfl rfl ?_
                      refine r_ld 2 I822 69 rfl rfl (by omega) (show w1.toInt < 3 by omega) rfl (fun x846 (e847 : x846.toInt = A821 2 w1.toInt) => ?_)
                      refine k_aload 70 rfl rfl rfl ?_
                      refine r_gA I822 73 rfl rfl rfl ?_
                      refine k_iload 74 rfl rfl rfl ?_
                      refine r_ld 2 I822 75 rfl rfl (by omega) (show w2.toInt < 3 by omega) rfl (fun x848 (e849 : x848.toInt = A821 2 w2.toInt) => ?_)
                      by_cases b850 : x846 = x848
                      · refine k_c2 80 rfl rfl (if_pos b850) ?_
                        have b850 := iv_eq.mp b850
                        refine k_push 81 rfl rfl ?_
                        refine k_istore 82 rfl rfl ?_
                        exact b_X10_same_82 (lm := lm) (gT := gT) (gt := gt) (w1 := w1) (w2 := w2) p1 p2 p5 p6 p7 p8 p9 _  rfl (gs_ne rfl rfl rfl) (gs_ne rfl rfl rfl) (gs_ne rfl rfl rfl) gs_eq I822 (fr1.tr (by decide) (fr1.tr (by decide) (fr1.up (by decide) fr1.rf) k791) k824) (fr2.tr (by decide) (fr2.tr (by decide) fr2.rf k792) k825) (show 0 ≤ w1.toInt ∧ w1.toInt ≤ 2 ∧ 0 ≤ w2.toInt ∧ w2.toInt ≤ 2 by omega) (show (A821 2) w1.toInt ≤ 1000 by omega) (show 0 ≤ (0 : Int32).toInt ∧ (0 : Int32).toInt ≤ 1000 by omega) (show wr A821 from p823c) (show wq A821 from p823d) (show (A821 2) 2 = A0 2 2 from p823g.trans fg) (show ∀ q : Int, 2600 ≤ q → (A821 1) q = A0 1 q from fun q hq => (p823h q hq).trans (fh q hq))
                      · refine k_c2 78 rfl rfl (if_neg b850) ?_
                        have b850 := mt iv_eq.mpr b850
                        refine k_push 79 rfl rfl ?_
                        exact k_fin rfl (fin_Z (Or.inl rfl)) ⟨_, _, _, _, rfl, I822, (fr1.tr (by decide) (fr1.tr (by decide) (fr1.up (by decide) fr1.rf) k791) k824), (fr2.tr (by decide) (fr2.tr (by decide) fr2.rf k792) k825), ⟨p823c, p823d, p823g.trans fg, fun q hq => (p823h q hq).trans (fh q hq)⟩⟩
                    · refine k_c1 27 rfl rfl (if_neg b845) ?_
                      have b845 := mt iv_eq0.mpr b845
                      refine k_push 28 rfl rfl ?_
                      refine k_fin rfl (fin_Z (Or.inl rfl)) ⟨_, _, rfl, rf_len I822 I822, ?_⟩
                      show am_Ok _ _ _ (58, _, [.inl (0 : Int32)], _, 0, 0) _
                      refine k_c1 61 rfl rfl (if_pos (by decide)) ?_
                      refine k_push 62 rfl rfl ?_
                      exact k_fin rfl (fin_Z (Or.inl rfl)) ⟨_, _, _, _, rfl, I822, (fr1.tr (by decide) (fr1.tr (by decide) (fr1.up (by decide) fr1.rf) k791) k824), (fr2.tr (by decide) (fr2.tr (by decide) fr2.rf k792) k825), ⟨p823c, p823d, p823g.trans fg, fun q hq => (p823h q hq).trans (fh q hq)⟩⟩
                · refine k_c1 49 rfl rfl (if_neg b827) ?_
                  have b827 := mt iv_eq0.mpr b827
                  refine k_push 50 rfl rfl ?_
                  refine k_goto 54 rfl rfl ?_
                  refine k_push 55 rfl rfl ?_
                  refine k_in (d := 0) rfl rfl rfl rfl I822.rc ?_
                  refine k_aload 1 rfl rfl rfl ?_
                  refine r_gI I822 4 rfl rfl rfl (fun x851 (e852 : x851.toInt = F820 0) => ?_)
                  have e853 : F820 0 = F787 0 := k824 0 (by decide)
                  have e854 : F787 0 = (0 : Int32).toInt := k791 0 (by decide)
                  by_cases b855 : x851 = 0
                  · refine k_c1 7 rfl rfl (if_pos b855) ?_
                    have b855 := iv_eq0.mp b855
                    refine k_iload 8 rfl rfl rfl ?_
                    refine k_c1 16 rfl rfl (if_neg (by decide)) ?_
                    refine k_aload 17 rfl rfl rfl ?_
                    refine r_gI I822 20 rfl rfl rfl (fun x856 (e857 : x856.toInt = F820 0) => ?_)
                    by_cases b858 : x856 = 0
                    · refine k_c1 23 rfl rfl (if_pos b858) ?_
                      have b858 := iv_eq0.mp b858
                      refine k_push 24 rfl rfl ?_
                      refine k_goto 28 rfl rfl ?_
                      refine k_fin rfl (fin_Z (Or.inr rfl)) ⟨_, _, rfl, rf_len I822 I822, ?_⟩
                      show am_Ok _ _ _ (58, _, [.inl (1 : Int32)], _, 0, 0) _
                      refine k_c1 63 rfl rfl (if_neg (by decide)) ?_
                      have hbd : (A821 2) w1.toInt ≤ 1000 := sm_bd p823e hn2 hn1 (p823b (by clear p823b; omega))
                      clear p823b
                      refine k_aload 64 rfl rfl rfl ?_
                      refine r_gA I822 67 rfl rfl rfl ?_
                      refine k_iload 68 rfl rfl rfl ?_
                      refine r_ld 2 I822 69 rfl rfl (by omega) (show w1.toInt < 3 by omega) rfl (fun x859 (e860 : x859.toInt = A821 2 w1.toInt) => ?_)
                      refine k_aload 70 rfl rfl rfl ?_
                      refine r_gA I822 73 rfl rfl rfl ?_
                      refine k_iload 74 rfl rfl rfl ?_
                      refine r_ld 2 I822 75 rfl rfl (by omega) (show w2.toInt < 3 by omega) rfl (fun x861 (e862 : x861.toInt = A821 2 w2.toInt) => ?_)
                      by_cases b863 : x859 = x861
                      · refine k_c2 80 rfl rfl (if_pos b863) ?_
                        have b863 := iv_eq.mp b863
                        refine k_push 81 rfl rfl ?_
                        refine k_istore 82 rfl rfl ?_
                        exact b_X10_same_82 (lm := lm) (gT := gT) (gt := gt) (w1 := w1) (w2 := w2) p1 p2 p5 p6 p7 p8 p9 _  rfl (gs_ne rfl rfl rfl) (gs_ne rfl rfl rfl) (gs_ne rfl rfl rfl) gs_eq I822 (fr1.tr (by decide) (fr1.tr (by decide) (fr1.up (by decide) fr1.rf) k791) k824) (fr2.tr (by decide) (fr2.tr (by decide) fr2.rf k792) k825) (show 0 ≤ w1.toInt ∧ w1.toInt ≤ 2 ∧ 0 ≤ w2.toInt ∧ w2.toInt ≤ 2 by omega) (show (A821 2) w1.toInt ≤ 1000 by omega) (show 0 ≤ (0 : Int32).toInt ∧ (0 : Int32).toInt ≤ 1000 by omega) (show wr A821 from p823c) (show wq A821 from p823d) (show (A821 2) 2 = A0 2 2 from p823g.trans fg) (show ∀ q : Int, 2600 ≤ q → (A821 1) q = A0 1 q from fun q hq => (p823h q hq).trans (fh q hq))
                      · refine k_c2 78 rfl rfl (if_neg b863) ?_
                        have b863 := mt iv_eq.mpr b863
                        refine k_push 79 rfl rfl ?_
                        exact k_fin rfl (fin_Z (Or.inl rfl)) ⟨_, _, _, _, rfl, I822, (fr1.tr (by decide) (fr1.tr (by decide) (fr1.up (by decide) fr1.rf) k791) k824), (fr2.tr (by decide) (fr2.tr (by decide) fr2.rf k792) k825), ⟨p823c, p823d, p823g.trans fg, fun q hq => (p823h q hq).trans (fh q hq)⟩⟩
                    · refine k_c1 27 rfl rfl (if_neg b858) ?_
                      have b858 := mt iv_eq0.mpr b858
                      refine k_push 28 rfl rfl ?_
                      refine k_fin rfl (fin_Z (Or.inl rfl)) ⟨_, _, rfl, rf_len I822 I822, ?_⟩
                      show am_Ok _ _ _ (58, _, [.inl (0 : Int32)], _, 0, 0) _
                      refine k_c1 61 rfl rfl (if_pos (by decide)) ?_
                      refine k_push 62 rfl rfl ?_
                      exact k_fin rfl (fin_Z (Or.inl rfl)) ⟨_, _, _, _, rfl, I822, (fr1.tr (by decide) (fr1.tr (by decide) (fr1.up (by decide) fr1.rf) k791) k824), (fr2.tr (by decide) (fr2.tr (by decide) fr2.rf k792) k825), ⟨p823c, p823d, p823g.trans fg, fun q hq => (p823h q hq).trans (fh q hq)⟩⟩
                  · refine k_c1 16 rfl rfl (if_neg b855) ?_
                    have b855 := mt iv_eq0.mpr b855
                    refine k_aload 17 rfl rfl rfl ?_
                    refine r_gI I822 20 rfl rfl rfl (fun x864 (e865 : x864.toInt = F820 0) => ?_)
                    by_cases b866 : x864 = 0
                    · refine k_c1 23 rfl rfl (if_pos b866) ?_
                      have b866 := iv_eq0.mp b866
                      refine k_push 24 rfl rfl ?_
                      refine k_goto 28 rfl rfl ?_
                      refine k_fin rfl (fin_Z (Or.inr rfl)) ⟨_, _, rfl, rf_len I822 I822, ?_⟩
                      show am_Ok _ _ _ (58, _, [.inl (1 : Int32)], _, 0, 0) _
                      refine k_c1 63 rfl rfl (if_neg (by decide)) ?_
                      have hbd : (A821 2) w1.toInt ≤ 1000 := sm_bd p823e hn2 hn1 (p823b (by clear p823b; omega))
                      clear p823b
                      refine k_aload 64 rfl rfl rfl ?_
                      refine r_gA I822 67 rfl rfl rfl ?_
                      refine k_iload 68 rfl rfl rfl ?_
                      refine r_ld 2 I822 69 rfl rfl (by omega) (show w1.toInt < 3 by omega) rfl (fun x867 (e868 : x867.toInt = A821 2 w1.toInt) => ?_)
                      refine k_aload 70 rfl rfl rfl ?_
                      refine r_gA I822 73 rfl rfl rfl ?_
                      refine k_iload 74 rfl rfl rfl ?_
                      refine r_ld 2 I822 75 rfl rfl (by omega) (show w2.toInt < 3 by omega) rfl (fun x869 (e870 : x869.toInt = A821 2 w2.toInt) => ?_)
                      by_cases b871 : x867 = x869
                      · refine k_c2 80 rfl rfl (if_pos b871) ?_
                        have b871 := iv_eq.mp b871
                        refine k_push 81 rfl rfl ?_
                        refine k_istore 82 rfl rfl ?_
                        exact b_X10_same_82 (lm := lm) (gT := gT) (gt := gt) (w1 := w1) (w2 := w2) p1 p2 p5 p6 p7 p8 p9 _  rfl (gs_ne rfl rfl rfl) (gs_ne rfl rfl rfl) (gs_ne rfl rfl rfl) gs_eq I822 (fr1.tr (by decide) (fr1.tr (by decide) (fr1.up (by decide) fr1.rf) k791) k824) (fr2.tr (by decide) (fr2.tr (by decide) fr2.rf k792) k825) (show 0 ≤ w1.toInt ∧ w1.toInt ≤ 2 ∧ 0 ≤ w2.toInt ∧ w2.toInt ≤ 2 by omega) (show (A821 2) w1.toInt ≤ 1000 by omega) (show 0 ≤ (0 : Int32).toInt ∧ (0 : Int32).toInt ≤ 1000 by omega) (show wr A821 from p823c) (show wq A821 from p823d) (show (A821 2) 2 = A0 2 2 from p823g.trans fg) (show ∀ q : Int, 2600 ≤ q → (A821 1) q = A0 1 q from fun q hq => (p823h q hq).trans (fh q hq))
                      · refine k_c2 78 rfl rfl (if_neg b871) ?_
                        have b871 := mt iv_eq.mpr b871
                        refine k_push 79 rfl rfl ?_
                        exact k_fin rfl (fin_Z (Or.inl rfl)) ⟨_, _, _, _, rfl, I822, (fr1.tr (by decide) (fr1.tr (by decide) (fr1.up (by decide) fr1.rf) k791) k824), (fr2.tr (by decide) (fr2.tr (by decide) fr2.rf k792) k825), ⟨p823c, p823d, p823g.trans fg, fun q hq => (p823h q hq).trans (fh q hq)⟩⟩
                    · refine k_c1 27 rfl rfl (if_neg b866) ?_
                      have b866 := mt iv_eq0.mpr b866
                      refine k_push 28 rfl rfl ?_
                      refine k_fin rfl (fin_Z (Or.inl rfl)) ⟨_, _, rfl, rf_len I822 I822, ?_⟩
                      show am_Ok _ _ _ (58, _, [.inl (0 : Int32)], _, 0, 0) _
                      refine k_c1 61 rfl rfl (if_pos (by decide)) ?_
                      refine k_push 62 rfl rfl ?_
                      exact k_fin rfl (fin_Z (Or.inl rfl)) ⟨_, _, _, _, rfl, I822, (fr1.tr (by decide) (fr1.tr (by decide) (fr1.up (by decide) fr1.rf) k791) k824), (fr2.tr (by decide) (fr2.tr (by decide) fr2.rf k792) k825), ⟨p823c, p823d, p823g.trans fg, fun q hq => (p823h q hq).trans (fh q hq)⟩⟩
            · refine k_c1 27 rfl rfl (if_neg b784) ?_
              have b784 := mt iv_eq0.mpr b784
              refine k_push 28 rfl rfl ?_
              refine k_fin rfl (fin_Z (Or.inl rfl)) ⟨_, _, rfl, rf_len I30 I30, ?_⟩
              show am_Ok _ _ _ (29, _, [.inl (0 : Int32)], _, 0, 0) _
              refine k_c1 61 rfl rfl (if_pos (by decide)) ?_
              refine k_push 62 rfl rfl ?_
              exact k_fin rfl (fin_Z (Or.inl rfl)) ⟨_, _, _, _, rfl, I30, (fr1.up (by decide) fr1.rf), fr2.rf, ⟨p5, p6, rfl, fun q _ => rfl⟩⟩
          · refine k_c1 16 rfl rfl (if_neg b781) ?_
            have b781 := mt iv_eq0.mpr b781
            refine k_aload 17 rfl rfl rfl ?_
            refine r_gI I30 20 rfl rfl rfl (fun x872 (e873 : x872.toInt = (0 : Int32).toInt) => ?_)
            by_cases b874 : x872 = 0
            · refine k_c1 23 rfl rfl (if_pos b874) ?_
              have b874 := iv_eq0.mp b874
              refine k_push 24 rfl rfl ?_
              refine k_goto 28 rfl rfl ?_
              refine k_fin rfl (fin_Z (Or.inr rfl)) ⟨_, _, rfl, rf_len I30 I30, ?_⟩
              show am_Ok _ _ _ (29, _, [.inl (1 : Int32)], _, 0, 0) _
              refine k_c1 32 rfl rfl (if_neg (by decide)) ?_
              refine k_aload 33 rfl rfl rfl ?_
              refine k_aload 34 rfl rfl rfl ?_
              refine k_iload 35 rfl rfl rfl ?_
              refine k_rq I30 rfl (m_isTerm (lm := lm) (gT := gT) (gt := gt) I30.1 (show nn ((A0 24)) ((A0 25)) ((F0 28)) (gT) from p1) (show nw ((A0 24)) ((A0 25)) ((A0 26)) (lm) ((F0 28)) from p2) (show wr A0 from p5) (show wq A0 from p6) (show (A0 2) 2 = (gt) ∧ 1 ≤ (gt) ∧ (gt) ≤ 120 from p7) (show wf ((A0 1)) 2600 (gt) from p8) (show cb ((A0 1)) 2600 (gt) 200 from p9) (show 0 ≤ w1.toInt ∧ w1.toInt ≤ 2 by omega)) rfl rfl rfl I30.rc ?_
              rintro x875 h876 F877 A878 I879 ⟨k881, k882, p880⟩
              replace p880 : (x875.toInt = 0 ∨ x875.toInt = 1) ∧ (x875.toInt = 1 → ∃ n' : Nat, n' ≤ 1000 ∧ A878 2 w1.toInt = n' ∧ wf (A878 1) (1300 * w1.toInt) n') ∧ wr A878 ∧ wq A878 ∧ (∀ q : Int, q ≠ w1.toInt → A878 2 q = (A0 2) q) ∧ (∀ q : Int, (0 ≤ q ∧ q < 1300 * w1.toInt) ∨ 1300 * w1.toInt + 1300 ≤ q → A878 1 q = (A0 1) q) ∧ A878 2 2 = (A0 2) 2 ∧ (∀ q : Int, 2600 ≤ q → A878 1 q = (A0 1) q) := p880
              obtain ⟨p880a, p880b, p880c, p880d, p880e, p880f, p880g, p880h⟩ := p880
              have z883 := iv_01 (x := x875) p880a
              show am_Ok _ _ _ (38, _, [.inl x875, .inr (.inr (some 81))], _, 0, 0) _
              by_cases b884 : x875 = 0
              · refine k_c1 53 rfl rfl (if_pos b884) ?_
                have b884 := iv_eq0.mp b884
                refine k_push 54 rfl rfl ?_
                refine k_push 55 rfl rfl ?_
                refine k_in (d := 0) rfl rfl rfl rfl I879.rc ?_
                refine k_aload 1 rfl rfl rfl ?_
                refine r_gI I879 4 rfl rfl rfl (fun x885 (e886 : x885.toInt = F877 0) => ?_)
                have e887 : F877 0 = (0 : Int32).toInt := k881 0 (by decide)
                by_cases b888 : x885 = 0
                · refine k_c1 7 rfl rfl (if_pos b888) ?_
                  have b888 := iv_eq0.mp b888
                  refine k_iload 8 rfl rfl rfl ?_
                  refine k_c1 11 rfl rfl (if_pos (by decide)) ?_
                  refine k_aload 12 rfl rfl rfl ?_
                  refine k_iload 13 rfl rfl rfl ?_
                  refine r_pI I879 16 rfl rfl rfl (fun h889 I890 => ?_)
                  refine k_aload 17 rfl rfl rfl ?_
                  refine r_gI I890 20 rfl rfl rfl (fun x891 (e892 : x891.toInt = (2 : Int32).toInt) => ?_)
                  by_cases b893 : x891 = 0
                  · refine k_c1 23 rfl rfl (if_pos b893) ?_
                    have b893 := iv_eq0.mp b893
                    refine k_push 24 rfl rfl ?_
                    refine k_goto 28 rfl rfl ?_
                    refine k_fin rfl (fin_Z (Or.inr rfl)) ⟨_, _, rfl, rf_len I879 I890, ?_⟩
                    show am_Ok _ _ _ (58, _, [.inl (1 : Int32)], _, 0, 0) _
                    refine k_c1 63 rfl rfl (if_neg (by decide)) ?_
                    have hbd : (A878 2) w1.toInt ≤ 1000 := by clear p880b; omega
                    clear p880b
                    refine k_aload 64 rfl rfl rfl ?_
                    refine r_gA I890 67 rfl rfl rfl ?_
                    refine k_iload 68 rfl rfl rfl ?_
                    refine r_ld 2 I890 69 rfl rfl (by omega) (show w1.toInt < 3 by omega) rfl (fun x894 (e895 : x894.toInt = A878 2 w1.toInt) => ?_)
                    refine k_aload 70 rfl rfl rfl ?_
                    refine r_gA I890 73 rfl rfl rfl ?_
                    refine k_iload 74 rfl rfl rfl ?_
                    refine r_ld 2 I890 75 rfl rfl (by omega) (show w2.toInt < 3 by omega) rfl (fun x896 (e897 : x896.toInt = A878 2 w2.toInt) => ?_)
                    by_cases b898 : x894 = x896
                    · refine k_c2 80 rfl rfl (if_pos b898) ?_
                      have b898 := iv_eq.mp b898
                      refine k_push 81 rfl rfl ?_
                      refine k_istore 82 rfl rfl ?_
                      exact b_X10_same_82 (lm := lm) (gT := gT) (gt := gt) (w1 := w1) (w2 := w2) p1 p2 p5 p6 p7 p8 p9 _  rfl (gs_ne rfl rfl rfl) (gs_ne rfl rfl rfl) (gs_ne rfl rfl rfl) gs_eq I890 (fr1.up (by decide) (fr1.tr (by decide) (fr1.up (by decide) fr1.rf) k881)) (fr2.tr (by decide) fr2.rf k882) (show 0 ≤ w1.toInt ∧ w1.toInt ≤ 2 ∧ 0 ≤ w2.toInt ∧ w2.toInt ≤ 2 by omega) (show (A878 2) w1.toInt ≤ 1000 by omega) (show 0 ≤ (0 : Int32).toInt ∧ (0 : Int32).toInt ≤ 1000 by omega) (show wr A878 from p880c) (show wq A878 from p880d) (show (A878 2) 2 = A0 2 2 from p880g) (show ∀ q : Int, 2600 ≤ q → (A878 1) q = A0 1 q from p880h)
                    · refine k_c2 78 rfl rfl (if_neg b898) ?_
                      have b898 := mt iv_eq.mpr b898
                      refine k_push 79 rfl rfl ?_
                      exact k_fin rfl (fin_Z (Or.inl rfl)) ⟨_, _, _, _, rfl, I890, (fr1.up (by decide) (fr1.tr (by decide) (fr1.up (by decide) fr1.rf) k881)), (fr2.tr (by decide) fr2.rf k882), ⟨p880c, p880d, p880g, p880h⟩⟩
                  · refine k_c1 27 rfl rfl (if_neg b893) ?_
                    have b893 := mt iv_eq0.mpr b893
                    refine k_push 28 rfl rfl ?_
                    refine k_fin rfl (fin_Z (Or.inl rfl)) ⟨_, _, rfl, rf_len I879 I890, ?_⟩
                    show am_Ok _ _ _ (58, _, [.inl (0 : Int32)], _, 0, 0) _
                    refine k_c1 61 rfl rfl (if_pos (by decide)) ?_
                    refine k_push 62 rfl rfl ?_
                    exact k_fin rfl (fin_Z (Or.inl rfl)) ⟨_, _, _, _, rfl, I890, (fr1.up (by decide) (fr1.tr (by decide) (fr1.up (by decide) fr1.rf) k881)), (fr2.tr (by decide) fr2.rf k882), ⟨p880c, p880d, p880g, p880h⟩⟩
                · refine k_c1 16 rfl rfl (if_neg b888) ?_
                  have b888 := mt iv_eq0.mpr b888
                  refine k_aload 17 rfl rfl rfl ?_
                  refine r_gI I879 20 rfl rfl rfl (fun x899 (e900 : x899.toInt = F877 0) => ?_)
                  by_cases b901 : x899 = 0
                  · refine k_c1 23 rfl rfl (if_pos b901) ?_
                    have b901 := iv_eq0.mp b901
                    refine k_push 24 rfl rfl ?_
                    refine k_goto 28 rfl rfl ?_
                    refine k_fin rfl (fin_Z (Or.inr rfl)) ⟨_, _, rfl, rf_len I879 I879, ?_⟩
                    show am_Ok _ _ _ (58, _, [.inl (1 : Int32)], _, 0, 0) _
                    refine k_c1 63 rfl rfl (if_neg (by decide)) ?_
                    have hbd : (A878 2) w1.toInt ≤ 1000 := by clear p880b; omega
                    clear p880b
                    refine k_aload 64 rfl rfl rfl ?_
                    refine r_gA I879 67 rfl rfl rfl ?_
                    refine k_iload 68 rfl rfl rfl ?_
                    refine r_ld 2 I879 69 rfl rfl (by omega) (show w1.toInt < 3 by omega) rfl (fun x902 (e903 : x902.toInt = A878 2 w1.toInt) => ?_)
                    refine k_aload 70 rfl rfl rfl ?_
                    refine r_gA I879 73 rfl rfl rfl ?_
                    refine k_iload 74 rfl rfl rfl ?_
                    refine r_ld 2 I879 75 rfl rfl (by omega) (show w2.toInt < 3 by omega) rfl (fun x904 (e905 : x904.toInt = A878 2 w2.toInt) => ?_)
                    by_cases b906 : x902 = x904
                    · refine k_c2 80 rfl rfl (if_pos b906) ?_
                      have b906 := iv_eq.mp b906
                      refine k_push 81 rfl rfl ?_
                      refine k_istore 82 rfl rfl ?_
                      exact b_X10_same_82 (lm := lm) (gT := gT) (gt := gt) (w1 := w1) (w2 := w2) p1 p2 p5 p6 p7 p8 p9 _  rfl (gs_ne rfl rfl rfl) (gs_ne rfl rfl rfl) (gs_ne rfl rfl rfl) gs_eq I879 (fr1.tr (by decide) (fr1.up (by decide) fr1.rf) k881) (fr2.tr (by decide) fr2.rf k882) (show 0 ≤ w1.toInt ∧ w1.toInt ≤ 2 ∧ 0 ≤ w2.toInt ∧ w2.toInt ≤ 2 by omega) (show (A878 2) w1.toInt ≤ 1000 by omega) (show 0 ≤ (0 : Int32).toInt ∧ (0 : Int32).toInt ≤ 1000 by omega) (show wr A878 from p880c) (show wq A878 from p880d) (show (A878 2) 2 = A0 2 2 from p880g) (show ∀ q : Int, 2600 ≤ q → (A878 1) q = A0 1 q from p880h)
                    · refine k_c2 78 rfl rfl (if_neg b906) ?_
                      have b906 := mt iv_eq.mpr b906
                      refine k_push 79 rfl rfl ?_
                      exact k_fin rfl (fin_Z (Or.inl rfl)) ⟨_, _, _, _, rfl, I879, (fr1.tr (by decide) (fr1.up (by decide) fr1.rf) k881), (fr2.tr (by decide) fr2.rf k882), ⟨p880c, p880d, p880g, p880h⟩⟩
                  · refine k_c1 27 rfl rfl (if_neg b901) ?_
                    have b901 := mt iv_eq0.mpr b901
                    refine k_push 28 rfl rfl ?_
                    refine k_fin rfl (fin_Z (Or.inl rfl)) ⟨_, _, rfl, rf_len I879 I879, ?_⟩
                    show am_Ok _ _ _ (58, _, [.inl (0 : Int32)], _, 0, 0) _
                    refine k_c1 61 rfl rfl (if_pos (by decide)) ?_
                    refine k_push 62 rfl rfl ?_
                    exact k_fin rfl (fin_Z (Or.inl rfl)) ⟨_, _, _, _, rfl, I879, (fr1.tr (by decide) (fr1.up (by decide) fr1.rf) k881), (fr2.tr (by decide) fr2.rf k882), ⟨p880c, p880d, p880g, p880h⟩⟩
              · refine k_c1 41 rfl rfl (if_neg b884) ?_
                have b884 := mt iv_eq0.mpr b884
                obtain ⟨gn, hn1, hn2, hn3⟩ := p880b (by clear p880b; omega)
                clear p880b
                have fc := p880c
                have fd := p880d
                have fg := p880g
                have fh := p880h
                refine k_aload 42 rfl rfl rfl ?_
                refine k_iload 43 rfl rfl rfl ?_
                have e907 : F877 28 = F0 28 := k881 28 (by decide)
                refine k_rq I879 rfl (m_isTerm (lm := lm) (gT := gT) (gt := gt) I879.1 (show nn ((A878 24)) ((A878 25)) ((F877 28)) (gT) by rw [(k882 24 (by decide)), (k882 25 (by decide)), k881 28 (by decide)]; exact p1) (show nw ((A878 24)) ((A878 25)) ((A878 26)) (lm) ((F877 28)) by rw [(k882 24 (by decide)), (k882 25 (by decide)), (k882 26 (by decide)), k881 28 (by decide)]; exact p2) (show wr A878 from fc) (show wq A878 from fd) (show (A878 2) 2 = (gt) ∧ 1 ≤ (gt) ∧ (gt) ≤ 120 from ⟨fg.trans p7.1, p7.2⟩) (show wf ((A878 1)) 2600 (gt) from wf_congr (fun q hq => (fh _ (by omega)).symm) p8) (show cb ((A878 1)) 2600 (gt) 200 from cb.congr p9 (fun q hq => (fh _ (by omega)).symm)) (show 0 ≤ w2.toInt ∧ w2.toInt ≤ 2 by omega)) rfl rfl rfl I879.rc ?_
                rintro x908 h909 F910 A911 I912 ⟨k914, k915, p913⟩
                replace p913 : (x908.toInt = 0 ∨ x908.toInt = 1) ∧ (x908.toInt = 1 → ∃ n' : Nat, n' ≤ 1000 ∧ A911 2 w2.toInt = n' ∧ wf (A911 1) (1300 * w2.toInt) n') ∧ wr A911 ∧ wq A911 ∧ (∀ q : Int, q ≠ w2.toInt → A911 2 q = (A878 2) q) ∧ (∀ q : Int, (0 ≤ q ∧ q < 1300 * w2.toInt) ∨ 1300 * w2.toInt + 1300 ≤ q → A911 1 q = (A878 1) q) ∧ A911 2 2 = (A878 2) 2 ∧ (∀ q : Int, 2600 ≤ q → A911 1 q = (A878 1) q) := p913
                obtain ⟨p913a, p913b, p913c, p913d, p913e, p913f, p913g, p913h⟩ := p913
                have z916 := iv_01 (x := x908) p913a
                show am_Ok _ _ _ (46, _, [.inl x908, .inr (.inr (some 81))], _, 0, 0) _
                by_cases b917 : x908 = 0
                · refine k_c1 53 rfl rfl (if_pos b917) ?_
                  have b917 := iv_eq0.mp b917
                  refine k_push 54 rfl rfl ?_
                  refine k_push 55 rfl rfl ?_
                  refine k_in (d := 0) rfl rfl rfl rfl I912.rc ?_
                  refine k_aload 1 rfl rfl rfl ?_
                  refine r_gI I912 4 rfl rfl rfl (fun x918 (e919 : x918.toInt = F910 0) => ?_)
                  have e920 : F910 0 = F877 0 := k914 0 (by decide)
                  have e921 : F877 0 = (0 : Int32).toInt := k881 0 (by decide)
                  by_cases b922 : x918 = 0
                  · refine k_c1 7 rfl rfl (if_pos b922) ?_
                    have b922 := iv_eq0.mp b922
                    refine k_iload 8 rfl rfl rfl ?_
                    refine k_c1 11 rfl rfl (if_pos (by decide)) ?_
                    refine k_aload 12 rfl rfl rfl ?_
                    refine k_iload 13 rfl rfl rfl ?_
                    refine r_pI I912 16 rfl rfl rfl (fun h923 I924 => ?_)
                    refine k_aload 17 rfl rfl rfl ?_
                    refine r_gI I924 20 rfl rfl rfl (fun x925 (e926 : x925.toInt = (2 : Int32).toInt) => ?_)
                    by_cases b927 : x925 = 0
                    · refine k_c1 23 rfl rfl (if_pos b927) ?_
                      have b927 := iv_eq0.mp b927
                      refine k_push 24 rfl rfl ?_
                      refine k_goto 28 rfl rfl ?_
                      refine k_fin rfl (fin_Z (Or.inr rfl)) ⟨_, _, rfl, rf_len I912 I924, ?_⟩
                      show am_Ok _ _ _ (58, _, [.inl (1 : Int32)], _, 0, 0) _
                      refine k_c1 63 rfl rfl (if_neg (by decide)) ?_
                      have hbd : (A911 2) w1.toInt ≤ 1000 := sm_bd p913e hn2 hn1 (p913b (by clear p913b; omega))
                      clear p913b
                      refine k_aload 64 rfl rfl rfl ?_
                      refine r_gA I924 67 rfl rfl rfl ?_
                      refine k_iload 68 rfl rfl rfl ?_
                      refine r_ld 2 I924 69 rfl rfl (by omega) (show w1.toInt < 3 by omega) rfl (fun x928 (e929 : x928.toInt = A911 2 w1.toInt) => ?_)
                      refine k_aload 70 rfl rfl rfl ?_
                      refine r_gA I924 73 rfl rfl rfl ?_
                      refine k_iload 74 rfl rfl rfl ?_
                      refine r_ld 2 I924 75 rfl rfl (by omega) (show w2.toInt < 3 by omega) rfl (fun x930 (e931 : x930.toInt = A911 2 w2.toInt) => ?_)
                      by_cases b932 : x928 = x930
                      · refine k_c2 80 rfl rfl (if_pos b932) ?_
                        have b932 := iv_eq.mp b932
                        refine k_push 81 rfl rfl ?_
                        refine k_istore 82 rfl rfl ?_
                        exact b_X10_same_82 (lm := lm) (gT := gT) (gt := gt) (w1 := w1) (w2 := w2) p1 p2 p5 p6 p7 p8 p9 _  rfl (gs_ne rfl rfl rfl) (gs_ne rfl rfl rfl) (gs_ne rfl rfl rfl) gs_eq I924 (fr1.up (by decide) (fr1.tr (by decide) (fr1.tr (by decide) (fr1.up (by decide) fr1.rf) k881) k914)) (fr2.tr (by decide) (fr2.tr (by decide) fr2.rf k882) k915) (show 0 ≤ w1.toInt ∧ w1.toInt ≤ 2 ∧ 0 ≤ w2.toInt ∧ w2.toInt ≤ 2 by omega) (show (A911 2) w1.toInt ≤ 1000 by omega) (show 0 ≤ (0 : Int32).toInt ∧ (0 : Int32).toInt ≤ 1000 by omega) (show wr A911 from p913c) (show wq A911 from p913d) (show (A911 2) 2 = A0 2 2 from p913g.trans fg) (show ∀ q : Int, 2600 ≤ q → (A911 1) q = A0 1 q from fun q hq => (p913h q hq).trans (fh q hq))
                      · refine k_c2 78 rfl rfl (if_neg b932) ?_
                        have b932 := mt iv_eq.mpr b932
                        refine k_push 79 rfl rfl ?_
                        exact k_fin rfl (fin_Z (Or.inl rfl)) ⟨_, _, _, _, rfl, I924, (fr1.up (by decide) (fr1.tr (by decide) (fr1.tr (by decide) (fr1.up (by decide) fr1.rf) k881) k914)), (fr2.tr (by decide) (fr2.tr (by decide) fr2.rf k882) k915), ⟨p913c, p913d, p913g.trans fg, fun q hq => (p913h q hq).trans (fh q hq)⟩⟩
                    · refine k_c1 27 rfl rfl (if_neg b927) ?_
                      have b927 := mt iv_eq0.mpr b927
                      refine k_push 28 rfl rfl ?_
                      refine k_fin rfl (fin_Z (Or.inl rfl)) ⟨_, _, rfl, rf_len I912 I924, ?_⟩
                      show am_Ok _ _ _ (58, _, [.inl (0 : Int32)], _, 0, 0) _
                      refine k_c1 61 rfl rfl (if_pos (by decide)) ?_
                      refine k_push 62 rfl rfl ?_
                      exact k_fin rfl (fin_Z (Or.inl rfl)) ⟨_, _, _, _, rfl, I924, (fr1.up (by decide) (fr1.tr (by decide) (fr1.tr (by decide) (fr1.up (by decide) fr1.rf) k881) k914)), (fr2.tr (by decide) (fr2.tr (by decide) fr2.rf k882) k915), ⟨p913c, p913d, p913g.trans fg, fun q hq => (p913h q hq).trans (fh q hq)⟩⟩
                  · refine k_c1 16 rfl rfl (if_neg b922) ?_
                    have b922 := mt iv_eq0.mpr b922
                    refine k_aload 17 rfl rfl rfl ?_
                    refine r_gI I912 20 rfl rfl rfl (fun x933 (e934 : x933.toInt = F910 0) => ?_)
                    by_cases b935 : x933 = 0
                    · refine k_c1 23 rfl rfl (if_pos b935) ?_
                      have b935 := iv_eq0.mp b935
                      refine k_push 24 rfl rfl ?_
                      refine k_goto 28 rfl rfl ?_
                      refine k_fin rfl (fin_Z (Or.inr rfl)) ⟨_, _, rfl, rf_len I912 I912, ?_⟩
                      show am_Ok _ _ _ (58, _, [.inl (1 : Int32)], _, 0, 0) _
                      refine k_c1 63 rfl rfl (if_neg (by decide)) ?_
                      have hbd : (A911 2) w1.toInt ≤ 1000 := sm_bd p913e hn2 hn1 (p913b (by clear p913b; omega))
                      clear p913b
                      refine k_aload 64 rfl rfl rfl ?_
                      refine r_gA I912 67 rfl rfl rfl ?_
                      refine k_iload 68 rfl rfl rfl ?_
                      refine r_ld 2 I912 69 rfl rfl (by omega) (show w1.toInt < 3 by omega) rfl (fun x936 (e937 : x936.toInt = A911 2 w1.toInt) => ?_)
                      refine k_aload 70 rfl rfl rfl ?_
                      refine r_gA I912 73 rfl rfl rfl ?_
                      refine k_iload 74 rfl rfl rfl ?_
                      refine r_ld 2 I912 75 rfl rfl (by omega) (show w2.toInt < 3 by omega) rfl (fun x938 (e939 : x938.toInt = A911 2 w2.toInt) => ?_)
                      by_cases b940 : x936 = x938
                      · refine k_c2 80 rfl rfl (if_pos b940) ?_
                        have b940 := iv_eq.mp b940
                        refine k_push 81 rfl rfl ?_
                        refine k_istore 82 rfl rfl ?_
                        exact b_X10_same_82 (lm := lm) (gT := gT) (gt := gt) (w1 := w1) (w2 := w2) p1 p2 p5 p6 p7 p8 p9 _  rfl (gs_ne rfl rfl rfl) (gs_ne rfl rfl rfl) (gs_ne rfl rfl rfl) gs_eq I912 (fr1.tr (by decide) (fr1.tr (by decide) (fr1.up (by decide) fr1.rf) k881) k914) (fr2.tr (by decide) (fr2.tr (by decide) fr2.rf k882) k915) (show 0 ≤ w1.toInt ∧ w1.toInt ≤ 2 ∧ 0 ≤ w2.toInt ∧ w2.toInt ≤ 2 by omega) (show (A911 2) w1.toInt ≤ 1000 by omega) (show 0 ≤ (0 : Int32).toInt ∧ (0 : Int32).toInt ≤ 1000 by omega) (show wr A911 from p913c) (show wq A911 from p913d) (show (A911 2) 2 = A0 2 2 from p913g.trans fg) (show ∀ q : Int, 2600 ≤ q → (A911 1) q = A0 1 q from fun q hq => (p913h q hq).trans (fh q hq))
                      · refine k_c2 78 rfl rfl (if_neg b940) ?_
                        have b940 := mt iv_eq.mpr b940
                        refine k_push 79 rfl rfl ?_
                        exact k_fin rfl (fin_Z (Or.inl rfl)) ⟨_, _, _, _, rfl, I912, (fr1.tr (by decide) (fr1.tr (by decide) (fr1.up (by decide) fr1.rf) k881) k914), (fr2.tr (by decide) (fr2.tr (by decide) fr2.rf k882) k915), ⟨p913c, p913d, p913g.trans fg, fun q hq => (p913h q hq).trans (fh q hq)⟩⟩
                    · refine k_c1 27 rfl rfl (if_neg b935) ?_
                      have b935 := mt iv_eq0.mpr b935
                      refine k_push 28 rfl rfl ?_
                      refine k_fin rfl (fin_Z (Or.inl rfl)) ⟨_, _, rfl, rf_len I912 I912, ?_⟩
                      show am_Ok _ _ _ (58, _, [.inl (0 : Int32)], _, 0, 0) _
                      refine k_c1 61 rfl rfl (if_pos (by decide)) ?_
                      refine k_push 62 rfl rfl ?_
                      exact k_fin rfl (fin_Z (Or.inl rfl)) ⟨_, _, _, _, rfl, I912, (fr1.tr (by decide) (fr1.tr (by decide) (fr1.up (by decide) fr1.rf) k881) k914), (fr2.tr (by decide) (fr2.tr (by decide) fr2.rf k882) k915), ⟨p913c, p913d, p913g.trans fg, fun q hq => (p913h q hq).trans (fh q hq)⟩⟩
                · refine k_c1 49 rfl rfl (if_neg b917) ?_
                  have b917 := mt iv_eq0.mpr b917
                  refine k_push 50 rfl rfl ?_
                  refine k_goto 54 rfl rfl ?_
                  refine k_push 55 rfl rfl ?_
                  refine k_in (d := 0) rfl rfl rfl rfl I912.rc ?_
                  refine k_aload 1 rfl rfl rfl ?_
                  refine r_gI I912 4 rfl rfl rfl (fun x941 (e942 : x941.toInt = F910 0) => ?_)
                  have e943 : F910 0 = F877 0 := k914 0 (by decide)
                  have e944 : F877 0 = (0 : Int32).toInt := k881 0 (by decide)
                  by_cases b945 : x941 = 0
                  · refine k_c1 7 rfl rfl (if_pos b945) ?_
                    have b945 := iv_eq0.mp b945
                    refine k_iload 8 rfl rfl rfl ?_
                    refine k_c1 16 rfl rfl (if_neg (by decide)) ?_
                    refine k_aload 17 rfl rfl rfl ?_
                    refine r_gI I912 20 rfl rfl rfl (fun x946 (e947 : x946.toInt = F910 0) => ?_)
                    by_cases b948 : x946 = 0
                    · refine k_c1 23 rfl rfl (if_pos b948) ?_
                      have b948 := iv_eq0.mp b948
                      refine k_push 24 rfl rfl ?_
                      refine k_goto 28 rfl rfl ?_
                      refine k_fin rfl (fin_Z (Or.inr rfl)) ⟨_, _, rfl, rf_len I912 I912, ?_⟩
                      show am_Ok _ _ _ (58, _, [.inl (1 : Int32)], _, 0, 0) _
                      refine k_c1 63 rfl rfl (if_neg (by decide)) ?_
                      have hbd : (A911 2) w1.toInt ≤ 1000 := sm_bd p913e hn2 hn1 (p913b (by clear p913b; omega))
                      clear p913b
                      refine k_aload 64 rfl rfl rfl ?_
                      refine r_gA I912 67 rfl rfl rfl ?_
                      refine k_iload 68 rfl rfl rfl ?_
                      refine r_ld 2 I912 69 rfl rfl (by omega) (show w1.toInt < 3 by omega) rfl (fun x949 (e950 : x949.toInt = A911 2 w1.toInt) => ?_)
                      refine k_aload 70 rfl rfl rfl ?_
                      refine r_gA I912 73 rfl rfl rfl ?_
                      refine k_iload 74 rfl rfl rfl ?_
                      refine r_ld 2 I912 75 rfl rfl (by omega) (show w2.toInt < 3 by omega) rfl (fun x951 (e952 : x951.toInt = A911 2 w2.toInt) => ?_)
                      by_cases b953 : x949 = x951
                      · refine k_c2 80 rfl rfl (if_pos b953) ?_
                        have b953 := iv_eq.mp b953
                        refine k_push 81 rfl rfl ?_
                        refine k_istore 82 rfl rfl ?_
                        exact b_X10_same_82 (lm := lm) (gT := gT) (gt := gt) (w1 := w1) (w2 := w2) p1 p2 p5 p6 p7 p8 p9 _  rfl (gs_ne rfl rfl rfl) (gs_ne rfl rfl rfl) (gs_ne rfl rfl rfl) gs_eq I912 (fr1.tr (by decide) (fr1.tr (by decide) (fr1.up (by decide) fr1.rf) k881) k914) (fr2.tr (by decide) (fr2.tr (by decide) fr2.rf k882) k915) (show 0 ≤ w1.toInt ∧ w1.toInt ≤ 2 ∧ 0 ≤ w2.toInt ∧ w2.toInt ≤ 2 by omega) (show (A911 2) w1.toInt ≤ 1000 by omega) (show 0 ≤ (0 : Int32).toInt ∧ (0 : Int32).toInt ≤ 1000 by omega) (show wr A911 from p913c) (show wq A911 from p913d) (show (A911 2) 2 = A0 2 2 from p913g.trans fg) (show ∀ q : Int, 2600 ≤ q → (A911 1) q = A0 1 q from fun q hq => (p913h q hq).trans (fh q hq))
                      · refine k_c2 78 rfl rfl (if_neg b953) ?_
                        have b953 := mt iv_eq.mpr b953
                        refine k_push 79 rfl rfl ?_
                        exact k_fin rfl (fin_Z (Or.inl rfl)) ⟨_, _, _, _, rfl, I912, (fr1.tr (by decide) (fr1.tr (by decide) (fr1.up (by decide) fr1.rf) k881) k914), (fr2.tr (by decide) (fr2.tr (by decide) fr2.rf k882) k915), ⟨p913c, p913d, p913g.trans fg, fun q hq => (p913h q hq).trans (fh q hq)⟩⟩
                    · refine k_c1 27 rfl rfl (if_neg b948) ?_
                      have b948 := mt iv_eq0.mpr b948
                      refine k_push 28 rfl rfl ?_
                      refine k_fin rfl (fin_Z (Or.inl rfl)) ⟨_, _, rfl, rf_len I912 I912, ?_⟩
                      show am_Ok _ _ _ (58, _, [.inl (0 : Int32)], _, 0, 0) _
                      refine k_c1 61 rfl rfl (if_pos (by decide)) ?_
                      refine k_push 62 rfl rfl ?_
                      exact k_fin rfl (fin_Z (Or.inl rfl)) ⟨_, _, _, _, rfl, I912, (fr1.tr (by decide) (fr1.tr (by decide) (fr1.up (by decide) fr1.rf) k881) k914), (fr2.tr (by decide) (fr2.tr (by decide) fr2.rf k882) k915), ⟨p913c, p913d, p913g.trans fg, fun q hq => (p913h q hq).trans (fh q hq)⟩⟩
                  · refine k_c1 16 rfl rfl (if_neg b945) ?_
                    have b945 := mt iv_eq0.mpr b945
                    refine k_aload 17 rfl rfl rfl ?_
                    refine r_gI I912 20 rfl rfl rfl (fun x954 (e955 : x954.toInt = F910 0) => ?_)
                    by_cases b956 : x954 = 0
                    · refine k_c1 23 rfl rfl (if_pos b956) ?_
                      have b956 := iv_eq0.mp b956
                      refine k_push 24 rfl rfl ?_
                      refine k_goto 28 rfl rfl ?_
                      refine k_fin rfl (fin_Z (Or.inr rfl)) ⟨_, _, rfl, rf_len I912 I912, ?_⟩
                      show am_Ok _ _ _ (58, _, [.inl (1 : Int32)], _, 0, 0) _
                      refine k_c1 63 rfl rfl (if_neg (by decide)) ?_
                      have hbd : (A911 2) w1.toInt ≤ 1000 := sm_bd p913e hn2 hn1 (p913b (by clear p913b; omega))
                      clear p913b
                      refine k_aload 64 rfl rfl rfl ?_
                      refine r_gA I912 67 rfl rfl rfl ?_
                      refine k_iload 68 rfl rfl rfl ?_
                      refine r_ld 2 I912 69 rfl rfl (by omega) (show w1.toInt < 3 by omega) rfl (fun x957 (e958 : x957.toInt = A911 2 w1.toInt) => ?_)
                      refine k_aload 70 rfl rfl rfl ?_
                      refine r_gA I912 73 rfl rfl rfl ?_
                      refine k_iload 74 rfl rfl rfl ?_
                      refine r_ld 2 I912 75 rfl rfl (by omega) (show w2.toInt < 3 by omega) rfl (fun x959 (e960 : x959.toInt = A911 2 w2.toInt) => ?_)
                      by_cases b961 : x957 = x959
                      · refine k_c2 80 rfl rfl (if_pos b961) ?_
                        have b961 := iv_eq.mp b961
                        refine k_push 81 rfl rfl ?_
                        refine k_istore 82 rfl rfl ?_
                        exact b_X10_same_82 (lm := lm) (gT := gT) (gt := gt) (w1 := w1) (w2 := w2) p1 p2 p5 p6 p7 p8 p9 _  rfl (gs_ne rfl rfl rfl) (gs_ne rfl rfl rfl) (gs_ne rfl rfl rfl) gs_eq I912 (fr1.tr (by decide) (fr1.tr (by decide) (fr1.up (by decide) fr1.rf) k881) k914) (fr2.tr (by decide) (fr2.tr (by decide) fr2.rf k882) k915) (show 0 ≤ w1.toInt ∧ w1.toInt ≤ 2 ∧ 0 ≤ w2.toInt ∧ w2.toInt ≤ 2 by omega) (show (A911 2) w1.toInt ≤ 1000 by omega) (show 0 ≤ (0 : Int32).toInt ∧ (0 : Int32).toInt ≤ 1000 by omega) (show wr A911 from p913c) (show wq A911 from p913d) (show (A911 2) 2 = A0 2 2 from p913g.trans fg) (show ∀ q : Int, 2600 ≤ q → (A911 1) q = A0 1 q from fun q hq => (p913h q hq).trans (fh q hq))
                      · refine k_c2 78 rfl rfl (if_neg b961) ?_
                        have b961 := mt iv_eq.mpr b961
                        refine k_push 79 rfl rfl ?_
                        exact k_fin rfl (fin_Z (Or.inl rfl)) ⟨_, _, _, _, rfl, I912, (fr1.tr (by decide) (fr1.tr (by decide) (fr1.up (by decide) fr1.rf) k881) k914), (fr2.tr (by decide) (fr2.tr (by decide) fr2.rf k882) k915), ⟨p913c, p913d, p913g.trans fg, fun q hq => (p913h q hq).trans (fh q hq)⟩⟩
                    · refine k_c1 27 rfl rfl (if_neg b956) ?_
                      have b956 := mt iv_eq0.mpr b956
                      refine k_push 28 rfl rfl ?_
                      refine k_fin rfl (fin_Z (Or.inl rfl)) ⟨_, _, rfl, rf_len I912 I912, ?_⟩
                      show am_Ok _ _ _ (58, _, [.inl (0 : Int32)], _, 0, 0) _
                      refine k_c1 61 rfl rfl (if_pos (by decide)) ?_
                      refine k_push 62 rfl rfl ?_
                      exact k_fin rfl (fin_Z (Or.inl rfl)) ⟨_, _, _, _, rfl, I912, (fr1.tr (by decide) (fr1.tr (by decide) (fr1.up (by decide) fr1.rf) k881) k914), (fr2.tr (by decide) (fr2.tr (by decide) fr2.rf k882) k915), ⟨p913c, p913d, p913g.trans fg, fun q hq => (p913h q hq).trans (fh q hq)⟩⟩
            · refine k_c1 27 rfl rfl (if_neg b874) ?_
              have b874 := mt iv_eq0.mpr b874
              refine k_push 28 rfl rfl ?_
              refine k_fin rfl (fin_Z (Or.inl rfl)) ⟨_, _, rfl, rf_len I30 I30, ?_⟩
              show am_Ok _ _ _ (29, _, [.inl (0 : Int32)], _, 0, 0) _
              refine k_c1 61 rfl rfl (if_pos (by decide)) ?_
              refine k_push 62 rfl rfl ?_
              exact k_fin rfl (fin_Z (Or.inl rfl)) ⟨_, _, _, _, rfl, I30, (fr1.up (by decide) fr1.rf), fr2.rf, ⟨p5, p6, rfl, fun q _ => rfl⟩⟩
end
