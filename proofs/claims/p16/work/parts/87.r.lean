section
theorem nt.cg {K L w K' L' w' : Int → Int} {b T c : Int} (h : nt K L w b T c) (e1 : K' = K) (e2 : L' = L) (e3 : w' = w) : nt K' L' w' b T c := by
  rw [e1, e2, e3]
  exact h
theorem m_steps {h0 : am_h} {F0 : rf_f} {A0 : rf_A} {w1 : Int32} {lm : Int → Int} {gT : Int} (hR : rf_R h0 F0 A0) (p1 : nn (A0 24) (A0 25) (F0 28) gT) (p2 : nw (A0 24) (A0 25) (A0 26) lm (F0 28)) (p5 : wr A0) (p6 : wq A0) (p3 : F0 27 = cn (A0 24) (F0 28).toNat) (p4 : F0 27 ≤ 400 ∧ gT ≤ 900000) : am_Mt 8 217 [.inr (.inr (some 81)), .inl w1] h0 (rf_Q h0 (fun x F' A' => fr1 [59, 55, 50, 48, 62, 63, 64, 65, 28, 27, 32] F0 F' ∧ fr2 [1, 2, 56, 57, 58, 61, 49, 51, 52, 53, 54, 60, 43, 44, 45, 46, 47, 24, 25, 26, 40, 41, 31] A0 A' ∧ (nt (A' 24) (A' 25) (A' 26) (F' 28) (gT + 1) (F' 27) ∧ (wr A' ∧ wq A' ∧ A' 2 2 = A0 2 2 ∧ (∀ q : Int, 2600 ≤ q → A' 1 q = A0 1 q)) ∧ (-2 ≤ x ∧ x ≤ 5)))) := by
  refine am_Mt.of (D := 7) ?_
  have hI : rf_I h0 h0 F0 A0 := rf_I.start hR
  refine k_aload 1 rfl rfl rfl ?_
  refine k_iload 2 rfl rfl rfl ?_
  refine k_rq hI rfl (m_chosen (lm := lm) (gT := gT) hI.1 (show nn ((A0 24)) ((A0 25)) ((F0 28)) (gT) from p1) (show nw ((A0 24)) ((A0 25)) ((A0 26)) (lm) ((F0 28)) from p2) (show wr A0 from p5) (show wq A0 from p6)) rfl rfl rfl hI.rc ?_
  rintro x1 h2 F3 A4 I5 ⟨k7, k8, p6⟩
  replace p6 : wr A4 ∧ wq A4 ∧ (∀ q : Int, q ≠ 0 → A4 2 q = (A0 2) q) ∧ (∀ q : Int, 400 ≤ q → A4 1 q = (A0 1) q) ∧ (x1.toInt = -1 ∨ ∃ m, act ((A0 24)) ((A0 26)) ((F0 28)) x1.toInt m) := p6
  obtain ⟨p6a, p6b, p6c, p6d, p6g⟩ := p6
  show am_Ok _ _ _ (5, _, [.inl x1], _, 0, 0) _
  refine k_istore 6 rfl rfl ?_
  refine k_iload 7 rfl gs_eq rfl ?_
  refine k_push 8 rfl rfl ?_
  have hc9 : (-1 : Int32).toInt = -1 := by decide
  by_cases b10 : x1 = (-1 : Int32)
  · refine k_c2 11 rfl rfl (if_pos b10) ?_
    have b10 := iv_eq.mp b10
    refine k_push 12 rfl rfl ?_
    have hc11 : (0 : Int32).toInt = 0 := by decide
    have e12 : F3 28 = F0 28 := k7 28 (by decide)
    have e13 : F3 27 = F0 27 := k7 27 (by decide)
    exact k_fin rfl rfl ⟨_, _, _, _, rfl, I5, (fr1.tr (by decide) fr1.rf k7), (fr2.tr (by decide) fr2.rf k8), ⟨by rw [(k8 24 (by decide)), (k8 25 (by decide)), (k8 26 (by decide)), (k7 28 (by decide)), (k7 27 (by decide))]; exact nt_of p1 p2 p3 p4.1 (by omega), ⟨p6a, p6b, p6c 2 (by decide), fun q hq => p6d q (Int.le_trans (by decide) hq)⟩, by omega⟩⟩
  · refine k_c2 13 rfl rfl (if_neg b10) ?_
    have b10 := mt iv_eq.mpr b10
    refine k_aload 14 rfl (gs_ne rfl rfl rfl) rfl ?_
    refine k_iload 15 rfl gs_eq rfl ?_
    have e14 : F3 28 = F0 28 := k7 28 (by decide)
    have e15 : F3 27 = F0 27 := k7 27 (by decide)
    refine k_rq I5 rfl (m_works (lm := lm) (gT := gT) I5.1 (show nn ((A4 24)) ((A4 25)) ((F3 28)) (gT) by rw [(k8 24 (by decide)), (k8 25 (by decide)), (k7 28 (by decide))]; exact p1) (show nw ((A4 24)) ((A4 25)) ((A4 26)) (lm) ((F3 28)) by rw [(k8 24 (by decide)), (k8 25 (by decide)), (k8 26 (by decide)), (k7 28 (by decide))]; exact p2) (show ∃ m, act ((A4 24)) ((A4 26)) ((F3 28)) x1.toInt m by rw [(k8 24 (by decide)), (k8 26 (by decide)), (k7 28 (by decide))]; exact p6g.resolve_left (by omega)) (show (F3 27) = cn ((A4 24)) ((F3 28)).toNat by rw [(k8 24 (by decide)), (k7 28 (by decide)), (k7 27 (by decide))]; exact p3) (show (F3 27) ≤ 400 ∧ (gT) ≤ 1000000 by omega)) rfl rfl rfl I5.rc ?_
    rintro x16 h17 F18 A19 I20 ⟨k22, k23, p21⟩
    replace p21 : nt (A19 24) (A19 25) (A19 26) (F18 28) ((gT) + 1) (F18 27) ∧ (x16.toInt = -2 ∨ x16.toInt = -1 ∨ (1 ≤ x16.toInt ∧ x16.toInt ≤ 5)) := p21
    obtain ⟨p21a, p21b⟩ := p21
    show am_Ok _ _ _ (18, _, [.inl x16], _, 0, 0) _
    refine k_istore 19 rfl rfl ?_
    refine k_iload 20 rfl gs_eq rfl ?_
    by_cases b24 : x16 ≤ 0
    · refine k_c1 43 rfl rfl (if_pos b24) ?_
      have b24 := iv_le0.mp b24
      refine k_iload 44 rfl gs_eq rfl ?_
      exact k_fin rfl rfl ⟨_, _, _, _, rfl, I20, (fr1.tr (by decide) (fr1.tr (by decide) fr1.rf k7) k22), (fr2.tr (by decide) (fr2.tr (by decide) fr2.rf k8) k23), ⟨p21a.cg (rfl) (rfl) (rfl), ⟨(p6a.fr k23 (by decide)), (p6b.fr k23 (by decide)), (congrFun ((rfl).trans (k23 2 (by decide))) 2).trans (p6c 2 (by decide)), fun q hq => (congrFun ((rfl).trans (k23 1 (by decide))) q).trans (p6d q (Int.le_trans (by decide) hq))⟩, by omega⟩⟩
    · refine k_c1 23 rfl rfl (if_neg b24) ?_
      have b24 := mt iv_le0.mpr b24
      refine k_aload 24 rfl (gs_ne rfl rfl (gs_ne rfl rfl rfl)) rfl ?_
      refine r_gA I20 27 rfl rfl rfl ?_
      refine k_push 28 rfl rfl ?_
      have hc25 : (0 : Int32).toInt = 0 := by decide
      refine k_dup2 29 rfl rfl rfl ?_
      refine r_ld 31 I20 30 rfl rfl (by omega) (show (0 : Int32).toInt < 6 by omega) rfl (fun x26 (e27 : x26.toInt = A19 31 (0 : Int32).toInt) => ?_)
      rw [hc25] at e27
      have e28 : A19 31 = A4 31 := k23 31 (by decide)
      rw [e28] at e27
      have e29 : A4 31 = A0 31 := k8 31 (by decide)
      rw [e29] at e27
      refine k_push 31 rfl rfl ?_
      have hc30 : (1 : Int32).toInt = 1 := by decide
      obtain ⟨x31, q32⟩ : ∃ q : Int32, q = (x26 + (1 : Int32)) := ⟨_, rfl⟩
      refine k_bin x31 32 rfl q32.symm rfl ?_
      refine r_st 31 I20 33 rfl rfl (by omega) (show (0 : Int32).toInt < 6 by omega) rfl (fun h34 I35 => ?_)
      refine k_aload 34 rfl (gs_ne rfl rfl (gs_ne rfl rfl rfl)) rfl ?_
      refine r_gA I35 37 rfl rfl rfl ?_
      refine k_iload 38 rfl gs_eq rfl ?_
      refine k_dup2 39 rfl rfl rfl ?_
      refine r_ld 31 I35 40 rfl rfl (by omega) (show x16.toInt < 6 by omega) rfl (fun x36 (e37 : x36.toInt = (up2 A19 31 (0 : Int32).toInt x31.toInt) 31 x16.toInt) => ?_)
      refine k_push 41 rfl rfl ?_
      obtain ⟨x38, q39⟩ : ∃ q : Int32, q = (x36 + (1 : Int32)) := ⟨_, rfl⟩
      refine k_bin x38 42 rfl q39.symm rfl ?_
      refine r_st 31 I35 43 rfl rfl (by omega) (show x16.toInt < 6 by omega) rfl (fun h41 I42 => ?_)
      refine k_iload 44 rfl gs_eq rfl ?_
      exact k_fin rfl rfl ⟨_, _, _, _, rfl, I42, (fr1.tr (by decide) (fr1.tr (by decide) fr1.rf k7) k22), (fr2.up (by decide) (fr2.up (by decide) (fr2.tr (by decide) (fr2.tr (by decide) fr2.rf k8) k23))), ⟨p21a.cg ((up2_k (by decide)).trans (up2_k (by decide))) ((up2_k (by decide)).trans (up2_k (by decide))) ((up2_k (by decide)).trans (up2_k (by decide))), ⟨(p6a.fr k23 (by decide)).fr (l := [31]) (fr2.up (by decide) (fr2.up (by decide) fr2.rf)) (by decide), (p6b.fr k23 (by decide)).fr (l := [31]) (fr2.up (by decide) (fr2.up (by decide) fr2.rf)) (by decide), (congrFun (((up2_k (by decide)).trans (up2_k (by decide))).trans (k23 2 (by decide))) 2).trans (p6c 2 (by decide)), fun q hq => (congrFun (((up2_k (by decide)).trans (up2_k (by decide))).trans (k23 1 (by decide))) q).trans (p6d q (Int.le_trans (by decide) hq))⟩, by omega⟩⟩
theorem m_step {h0 : am_h} {F0 : rf_f} {A0 : rf_A} {w1 : Int32} {lm : Int → Int} {gT : Int} (hR : rf_R h0 F0 A0) (p1 : nn (A0 24) (A0 25) (F0 28) gT) (p2 : nw (A0 24) (A0 25) (A0 26) lm (F0 28)) (p5 : wr A0) (p6 : wq A0) (p3 : F0 27 = cn (A0 24) (F0 28).toNat) (p4 : F0 27 ≤ 400 ∧ gT ≤ 800000) : am_Mt 9 219 [.inr (.inr (some 81)), .inl w1] h0 (rf_Q h0 (fun x F' A' => fr1 [59, 55, 50, 48, 62, 63, 64, 65, 28, 27, 32, 0] F0 F' ∧ fr2 [1, 2, 56, 57, 58, 61, 49, 51, 52, 53, 54, 60, 43, 44, 45, 46, 47, 24, 25, 26, 40, 41, 31] A0 A' ∧ (nt (A' 24) (A' 25) (A' 26) (F' 28) (gT + 1) (F' 27) ∧ (wr A' ∧ wq A' ∧ A' 2 2 = A0 2 2 ∧ (∀ q : Int, 2600 ≤ q → A' 1 q = A0 1 q))))) := by
  refine am_Mt.of (D := 8) ?_
  have hI : rf_I h0 h0 F0 A0 := rf_I.start hR
  refine k_aload 1 rfl rfl rfl ?_
  refine k_push 2 rfl rfl ?_
  have hc1 : (0 : Int32).toInt = 0 := by decide
  refine r_pI hI 5 rfl rfl rfl (fun h2 I3 => ?_)
  refine k_aload 6 rfl rfl rfl ?_
  refine k_iload 7 rfl rfl rfl ?_
  refine k_in (d := 1) rfl rfl rfl rfl rfl ?_
  refine k_iload 1 rfl rfl rfl ?_
  refine k_push 2 rfl rfl ?_
  refine k_push 3 rfl rfl ?_
  have hc4 : (2 : Int32).toInt = 2 := by decide
  refine k_in (d := 0) rfl rfl rfl rfl rfl ?_
  refine k_iload 1 rfl rfl rfl ?_
  refine k_iload 2 rfl rfl rfl ?_
  by_cases b5 : w1 < (0 : Int32)
  · refine k_c2 14 rfl rfl (if_pos b5) ?_
    have b5 := iv_lt.mp b5
    refine k_push 15 rfl rfl ?_
    refine k_fin rfl (fin_Z (Or.inl rfl)) ⟨_, _, rfl, rf_len I3 I3, ?_⟩
    show am_Ok _ _ _ (6, _, [.inl (0 : Int32)], _, 0, 0) _
    refine k_fin rfl (fin_Z (Or.inl rfl)) ⟨_, _, rfl, rf_len I3 I3, ?_⟩
    show am_Ok _ _ _ (10, _, [.inl (0 : Int32), .inr (.inr (some 81))], _, 0, 0) _
    refine k_push 11 rfl rfl ?_
    have hc6 : (1 : Int32).toInt = 1 := by decide
    refine k_in (d := 0) rfl rfl rfl rfl I3.rc ?_
    refine k_aload 1 rfl rfl rfl ?_
    refine r_gI I3 4 rfl rfl rfl (fun x7 (e8 : x7.toInt = (0 : Int32).toInt) => ?_)
    by_cases b9 : x7 = 0
    · refine k_c1 7 rfl rfl (if_pos b9) ?_
      have b9 := iv_eq0.mp b9
      refine k_iload 8 rfl rfl rfl ?_
      refine k_c1 11 rfl rfl (if_pos (by decide)) ?_
      refine k_aload 12 rfl rfl rfl ?_
      refine k_iload 13 rfl rfl rfl ?_
      refine r_pI I3 16 rfl rfl rfl (fun h10 I11 => ?_)
      refine k_aload 17 rfl rfl rfl ?_
      refine r_gI I11 20 rfl rfl rfl (fun x12 (e13 : x12.toInt = (1 : Int32).toInt) => ?_)
      by_cases b14 : x12 = 0
      · refine k_c1 23 rfl rfl (if_pos b14) ?_
        have b14 := iv_eq0.mp b14
        refine k_push 24 rfl rfl ?_
        refine k_goto 28 rfl rfl ?_
        refine k_fin rfl (fin_Z (Or.inr rfl)) ⟨_, _, rfl, rf_len I3 I11, ?_⟩
        show am_Ok _ _ _ (14, _, [.inl (1 : Int32)], _, 0, 0) _
        refine k_c1 17 rfl rfl (if_neg (by decide)) ?_
        refine k_aload 18 rfl rfl rfl ?_
        refine k_iload 19 rfl rfl rfl ?_
        refine k_rq I11 rfl (m_steps (lm := lm) (gT := gT) I11.1 (show nn ((A0 24)) ((A0 25)) ((F0 28)) (gT) from p1) (show nw ((A0 24)) ((A0 25)) ((A0 26)) (lm) ((F0 28)) from p2) (show wr A0 from p5) (show wq A0 from p6) (show (F0 27) = cn ((A0 24)) ((F0 28)).toNat from p3) (show (F0 27) ≤ 400 ∧ (gT) ≤ 900000 by omega)) rfl rfl rfl I11.rc ?_
        rintro x15 h16 F17 A18 I19 ⟨k21, k22, p20⟩
        replace p20 : nt (A18 24) (A18 25) (A18 26) (F17 28) ((gT) + 1) (F17 27) ∧ (wr A18 ∧ wq A18 ∧ A18 2 2 = (A0 2) 2 ∧ (∀ q : Int, 2600 ≤ q → A18 1 q = (A0 1) q)) ∧ (-2 ≤ x15.toInt ∧ x15.toInt ≤ 5) := p20
        obtain ⟨p20a, ⟨p20b, p20c, p20d, p20e⟩, p20f⟩ := p20
        show am_Ok _ _ _ (22, _, [.inl x15], _, 0, 0) _
        refine k_goto 26 rfl rfl ?_
        exact k_fin rfl rfl ⟨_, _, _, _, rfl, I19, (fr1.tr (by decide) (fr1.up (by decide) (fr1.up (by decide) fr1.rf)) k21), (fr2.tr (by decide) fr2.rf k22), ⟨p20a, p20b, p20c, p20d, p20e⟩⟩
      · refine k_c1 27 rfl rfl (if_neg b14) ?_
        have b14 := mt iv_eq0.mpr b14
        refine k_push 28 rfl rfl ?_
        refine k_fin rfl (fin_Z (Or.inl rfl)) ⟨_, _, rfl, rf_len I3 I11, ?_⟩
        show am_Ok _ _ _ (14, _, [.inl (0 : Int32)], _, 0, 0) _
        refine k_c1 25 rfl rfl (if_pos (by decide)) ?_
        refine k_push 26 rfl rfl ?_
        exact k_fin rfl rfl ⟨_, _, _, _, rfl, I11, (fr1.up (by decide) (fr1.up (by decide) fr1.rf)), fr2.rf, ⟨nt_of p1 p2 p3 p4.1 (by omega), p5, p6, rfl, fun q _ => rfl⟩⟩
    · refine k_c1 16 rfl rfl (if_neg b9) ?_
      have b9 := mt iv_eq0.mpr b9
      refine k_aload 17 rfl rfl rfl ?_
      refine r_gI I3 20 rfl rfl rfl (fun x23 (e24 : x23.toInt = (0 : Int32).toInt) => ?_)
      by_cases b25 : x23 = 0
      · refine k_c1 23 rfl rfl (if_pos b25) ?_
        have b25 := iv_eq0.mp b25
        refine k_push 24 rfl rfl ?_
        refine k_goto 28 rfl rfl ?_
        refine k_fin rfl (fin_Z (Or.inr rfl)) ⟨_, _, rfl, rf_len I3 I3, ?_⟩
        show am_Ok _ _ _ (14, _, [.inl (1 : Int32)], _, 0, 0) _
        refine k_c1 17 rfl rfl (if_neg (by decide)) ?_
        refine k_aload 18 rfl rfl rfl ?_
        refine k_iload 19 rfl rfl rfl ?_
        refine k_rq I3 rfl (m_steps (lm := lm) (gT := gT) I3.1 (show nn ((A0 24)) ((A0 25)) ((F0 28)) (gT) from p1) (show nw ((A0 24)) ((A0 25)) ((A0 26)) (lm) ((F0 28)) from p2) (show wr A0 from p5) (show wq A0 from p6) (show (F0 27) = cn ((A0 24)) ((F0 28)).toNat from p3) (show (F0 27) ≤ 400 ∧ (gT) ≤ 900000 by omega)) rfl rfl rfl I3.rc ?_
        rintro x26 h27 F28 A29 I30 ⟨k32, k33, p31⟩
        replace p31 : nt (A29 24) (A29 25) (A29 26) (F28 28) ((gT) + 1) (F28 27) ∧ (wr A29 ∧ wq A29 ∧ A29 2 2 = (A0 2) 2 ∧ (∀ q : Int, 2600 ≤ q → A29 1 q = (A0 1) q)) ∧ (-2 ≤ x26.toInt ∧ x26.toInt ≤ 5) := p31
        obtain ⟨p31a, ⟨p31b, p31c, p31d, p31e⟩, p31f⟩ := p31
        show am_Ok _ _ _ (22, _, [.inl x26], _, 0, 0) _
        refine k_goto 26 rfl rfl ?_
        exact k_fin rfl rfl ⟨_, _, _, _, rfl, I30, (fr1.tr (by decide) (fr1.up (by decide) fr1.rf) k32), (fr2.tr (by decide) fr2.rf k33), ⟨p31a, p31b, p31c, p31d, p31e⟩⟩
      · refine k_c1 27 rfl rfl (if_neg b25) ?_
        have b25 := mt iv_eq0.mpr b25
        refine k_push 28 rfl rfl ?_
        refine k_fin rfl (fin_Z (Or.inl rfl)) ⟨_, _, rfl, rf_len I3 I3, ?_⟩
        show am_Ok _ _ _ (14, _, [.inl (0 : Int32)], _, 0, 0) _
        refine k_c1 25 rfl rfl (if_pos (by decide)) ?_
        refine k_push 26 rfl rfl ?_
        exact k_fin rfl rfl ⟨_, _, _, _, rfl, I3, (fr1.up (by decide) fr1.rf), fr2.rf, ⟨nt_of p1 p2 p3 p4.1 (by omega), p5, p6, rfl, fun q _ => rfl⟩⟩
  · refine k_c2 5 rfl rfl (if_neg b5) ?_
    have b5 := mt iv_lt.mpr b5
    refine k_iload 6 rfl rfl rfl ?_
    refine k_iload 7 rfl rfl rfl ?_
    by_cases b34 : (2 : Int32) < w1
    · refine k_c2 14 rfl rfl (if_pos b34) ?_
      have b34 := iv_lt.mp b34
      refine k_push 15 rfl rfl ?_
      refine k_fin rfl (fin_Z (Or.inl rfl)) ⟨_, _, rfl, rf_len I3 I3, ?_⟩
      show am_Ok _ _ _ (6, _, [.inl (0 : Int32)], _, 0, 0) _
      refine k_fin rfl (fin_Z (Or.inl rfl)) ⟨_, _, rfl, rf_len I3 I3, ?_⟩
      show am_Ok _ _ _ (10, _, [.inl (0 : Int32), .inr (.inr (some 81))], _, 0, 0) _
      refine k_push 11 rfl rfl ?_
      have hc35 : (1 : Int32).toInt = 1 := by decide
      refine k_in (d := 0) rfl rfl rfl rfl I3.rc ?_
      refine k_aload 1 rfl rfl rfl ?_
      refine r_gI I3 4 rfl rfl rfl (fun x36 (e37 : x36.toInt = (0 : Int32).toInt) => ?_)
      by_cases b38 : x36 = 0
      · refine k_c1 7 rfl rfl (if_pos b38) ?_
        have b38 := iv_eq0.mp b38
        refine k_iload 8 rfl rfl rfl ?_
        refine k_c1 11 rfl rfl (if_pos (by decide)) ?_
        refine k_aload 12 rfl rfl rfl ?_
        refine k_iload 13 rfl rfl rfl ?_
        refine r_pI I3 16 rfl rfl rfl (fun h39 I40 => ?_)
        refine k_aload 17 rfl rfl rfl ?_
        refine r_gI I40 20 rfl rfl rfl (fun x41 (e42 : x41.toInt = (1 : Int32).toInt) => ?_)
        by_cases b43 : x41 = 0
        · refine k_c1 23 rfl rfl (if_pos b43) ?_
          have b43 := iv_eq0.mp b43
          refine k_push 24 rfl rfl ?_
          refine k_goto 28 rfl rfl ?_
          refine k_fin rfl (fin_Z (Or.inr rfl)) ⟨_, _, rfl, rf_len I3 I40, ?_⟩
          show am_Ok _ _ _ (14, _, [.inl (1 : Int32)], _, 0, 0) _
          refine k_c1 17 rfl rfl (if_neg (by decide)) ?_
          refine k_aload 18 rfl rfl rfl ?_
          refine k_iload 19 rfl rfl rfl ?_
          refine k_rq I40 rfl (m_steps (lm := lm) (gT := gT) I40.1 (show nn ((A0 24)) ((A0 25)) ((F0 28)) (gT) from p1) (show nw ((A0 24)) ((A0 25)) ((A0 26)) (lm) ((F0 28)) from p2) (show wr A0 from p5) (show wq A0 from p6) (show (F0 27) = cn ((A0 24)) ((F0 28)).toNat from p3) (show (F0 27) ≤ 400 ∧ (gT) ≤ 900000 by omega)) rfl rfl rfl I40.rc ?_
          rintro x44 h45 F46 A47 I48 ⟨k50, k51, p49⟩
          replace p49 : nt (A47 24) (A47 25) (A47 26) (F46 28) ((gT) + 1) (F46 27) ∧ (wr A47 ∧ wq A47 ∧ A47 2 2 = (A0 2) 2 ∧ (∀ q : Int, 2600 ≤ q → A47 1 q = (A0 1) q)) ∧ (-2 ≤ x44.toInt ∧ x44.toInt ≤ 5) := p49
          obtain ⟨p49a, ⟨p49b, p49c, p49d, p49e⟩, p49f⟩ := p49
          show am_Ok _ _ _ (22, _, [.inl x44], _, 0, 0) _
          refine k_goto 26 rfl rfl ?_
          exact k_fin rfl rfl ⟨_, _, _, _, rfl, I48, (fr1.tr (by decide) (fr1.up (by decide) (fr1.up (by decide) fr1.rf)) k50), (fr2.tr (by decide) fr2.rf k51), ⟨p49a, p49b, p49c, p49d, p49e⟩⟩
        · refine k_c1 27 rfl rfl (if_neg b43) ?_
          have b43 := mt iv_eq0.mpr b43
          refine k_push 28 rfl rfl ?_
          refine k_fin rfl (fin_Z (Or.inl rfl)) ⟨_, _, rfl, rf_len I3 I40, ?_⟩
          show am_Ok _ _ _ (14, _, [.inl (0 : Int32)], _, 0, 0) _
          refine k_c1 25 rfl rfl (if_pos (by decide)) ?_
          refine k_push 26 rfl rfl ?_
          exact k_fin rfl rfl ⟨_, _, _, _, rfl, I40, (fr1.up (by decide) (fr1.up (by decide) fr1.rf)), fr2.rf, ⟨nt_of p1 p2 p3 p4.1 (by omega), p5, p6, rfl, fun q _ => rfl⟩⟩
      · refine k_c1 16 rfl rfl (if_neg b38) ?_
        have b38 := mt iv_eq0.mpr b38
        refine k_aload 17 rfl rfl rfl ?_
        refine r_gI I3 20 rfl rfl rfl (fun x52 (e53 : x52.toInt = (0 : Int32).toInt) => ?_)
        by_cases b54 : x52 = 0
        · refine k_c1 23 rfl rfl (if_pos b54) ?_
          have b54 := iv_eq0.mp b54
          refine k_push 24 rfl rfl ?_
          refine k_goto 28 rfl rfl ?_
          refine k_fin rfl (fin_Z (Or.inr rfl)) ⟨_, _, rfl, rf_len I3 I3, ?_⟩
          show am_Ok _ _ _ (14, _, [.inl (1 : Int32)], _, 0, 0) _
          refine k_c1 17 rfl rfl (if_neg (by decide)) ?_
          refine k_aload 18 rfl rfl rfl ?_
          refine k_iload 19 rfl rfl rfl ?_
          refine k_rq I3 rfl (m_steps (lm := lm) (gT := gT) I3.1 (show nn ((A0 24)) ((A0 25)) ((F0 28)) (gT) from p1) (show nw ((A0 24)) ((A0 25)) ((A0 26)) (lm) ((F0 28)) from p2) (show wr A0 from p5) (show wq A0 from p6) (show (F0 27) = cn ((A0 24)) ((F0 28)).toNat from p3) (show (F0 27) ≤ 400 ∧ (gT) ≤ 900000 by omega)) rfl rfl rfl I3.rc ?_
          rintro x55 h56 F57 A58 I59 ⟨k61, k62, p60⟩
          replace p60 : nt (A58 24) (A58 25) (A58 26) (F57 28) ((gT) + 1) (F57 27) ∧ (wr A58 ∧ wq A58 ∧ A58 2 2 = (A0 2) 2 ∧ (∀ q : Int, 2600 ≤ q → A58 1 q = (A0 1) q)) ∧ (-2 ≤ x55.toInt ∧ x55.toInt ≤ 5) := p60
          obtain ⟨p60a, ⟨p60b, p60c, p60d, p60e⟩, p60f⟩ := p60
          show am_Ok _ _ _ (22, _, [.inl x55], _, 0, 0) _
          refine k_goto 26 rfl rfl ?_
          exact k_fin rfl rfl ⟨_, _, _, _, rfl, I59, (fr1.tr (by decide) (fr1.up (by decide) fr1.rf) k61), (fr2.tr (by decide) fr2.rf k62), ⟨p60a, p60b, p60c, p60d, p60e⟩⟩
        · refine k_c1 27 rfl rfl (if_neg b54) ?_
          have b54 := mt iv_eq0.mpr b54
          refine k_push 28 rfl rfl ?_
          refine k_fin rfl (fin_Z (Or.inl rfl)) ⟨_, _, rfl, rf_len I3 I3, ?_⟩
          show am_Ok _ _ _ (14, _, [.inl (0 : Int32)], _, 0, 0) _
          refine k_c1 25 rfl rfl (if_pos (by decide)) ?_
          refine k_push 26 rfl rfl ?_
          exact k_fin rfl rfl ⟨_, _, _, _, rfl, I3, (fr1.up (by decide) fr1.rf), fr2.rf, ⟨nt_of p1 p2 p3 p4.1 (by omega), p5, p6, rfl, fun q _ => rfl⟩⟩
    · refine k_c2 10 rfl rfl (if_neg b34) ?_
      have b34 := mt iv_lt.mpr b34
      refine k_push 11 rfl rfl ?_
      have hc63 : (1 : Int32).toInt = 1 := by decide
      refine k_goto 15 rfl rfl ?_
      refine k_fin rfl (fin_Z (Or.inr rfl)) ⟨_, _, rfl, rf_len I3 I3, ?_⟩
      show am_Ok _ _ _ (6, _, [.inl (1 : Int32)], _, 0, 0) _
      refine k_fin rfl (fin_Z (Or.inr rfl)) ⟨_, _, rfl, rf_len I3 I3, ?_⟩
      show am_Ok _ _ _ (10, _, [.inl (1 : Int32), .inr (.inr (some 81))], _, 0, 0) _
      refine k_push 11 rfl rfl ?_
      refine k_in (d := 0) rfl rfl rfl rfl I3.rc ?_
      refine k_aload 1 rfl rfl rfl ?_
      refine r_gI I3 4 rfl rfl rfl (fun x64 (e65 : x64.toInt = (0 : Int32).toInt) => ?_)
      by_cases b66 : x64 = 0
      · refine k_c1 7 rfl rfl (if_pos b66) ?_
        have b66 := iv_eq0.mp b66
        refine k_iload 8 rfl rfl rfl ?_
        refine k_c1 16 rfl rfl (if_neg (by decide)) ?_
        refine k_aload 17 rfl rfl rfl ?_
        refine r_gI I3 20 rfl rfl rfl (fun x67 (e68 : x67.toInt = (0 : Int32).toInt) => ?_)
        by_cases b69 : x67 = 0
        · refine k_c1 23 rfl rfl (if_pos b69) ?_
          have b69 := iv_eq0.mp b69
          refine k_push 24 rfl rfl ?_
          refine k_goto 28 rfl rfl ?_
          refine k_fin rfl (fin_Z (Or.inr rfl)) ⟨_, _, rfl, rf_len I3 I3, ?_⟩
          show am_Ok _ _ _ (14, _, [.inl (1 : Int32)], _, 0, 0) _
          refine k_c1 17 rfl rfl (if_neg (by decide)) ?_
          refine k_aload 18 rfl rfl rfl ?_
          refine k_iload 19 rfl rfl rfl ?_
          refine k_rq I3 rfl (m_steps (lm := lm) (gT := gT) I3.1 (show nn ((A0 24)) ((A0 25)) ((F0 28)) (gT) from p1) (show nw ((A0 24)) ((A0 25)) ((A0 26)) (lm) ((F0 28)) from p2) (show wr A0 from p5) (show wq A0 from p6) (show (F0 27) = cn ((A0 24)) ((F0 28)).toNat from p3) (show (F0 27) ≤ 400 ∧ (gT) ≤ 900000 by omega)) rfl rfl rfl I3.rc ?_
          rintro x70 h71 F72 A73 I74 ⟨k76, k77, p75⟩
          replace p75 : nt (A73 24) (A73 25) (A73 26) (F72 28) ((gT) + 1) (F72 27) ∧ (wr A73 ∧ wq A73 ∧ A73 2 2 = (A0 2) 2 ∧ (∀ q : Int, 2600 ≤ q → A73 1 q = (A0 1) q)) ∧ (-2 ≤ x70.toInt ∧ x70.toInt ≤ 5) := p75
          obtain ⟨p75a, ⟨p75b, p75c, p75d, p75e⟩, p75f⟩ := p75
          show am_Ok _ _ _ (22, _, [.inl x70], _, 0, 0) _
          refine k_goto 26 rfl rfl ?_
          exact k_fin rfl rfl ⟨_, _, _, _, rfl, I74, (fr1.tr (by decide) (fr1.up (by decide) fr1.rf) k76), (fr2.tr (by decide) fr2.rf k77), ⟨p75a, p75b, p75c, p75d, p75e⟩⟩
        · refine k_c1 27 rfl rfl (if_neg b69) ?_
          have b69 := mt iv_eq0.mpr b69
          refine k_push 28 rfl rfl ?_
          refine k_fin rfl (fin_Z (Or.inl rfl)) ⟨_, _, rfl, rf_len I3 I3, ?_⟩
          show am_Ok _ _ _ (14, _, [.inl (0 : Int32)], _, 0, 0) _
          refine k_c1 25 rfl rfl (if_pos (by decide)) ?_
          refine k_push 26 rfl rfl ?_
          exact k_fin rfl rfl ⟨_, _, _, _, rfl, I3, (fr1.up (by decide) fr1.rf), fr2.rf, ⟨nt_of p1 p2 p3 p4.1 (by omega), p5, p6, rfl, fun q _ => rfl⟩⟩
      · refine k_c1 16 rfl rfl (if_neg b66) ?_
        have b66 := mt iv_eq0.mpr b66
        refine k_aload 17 rfl rfl rfl ?_
        refine r_gI I3 20 rfl rfl rfl (fun x78 (e79 : x78.toInt = (0 : Int32).toInt) => ?_)
        by_cases b80 : x78 = 0
        · refine k_c1 23 rfl rfl (if_pos b80) ?_
          have b80 := iv_eq0.mp b80
          refine k_push 24 rfl rfl ?_
          refine k_goto 28 rfl rfl ?_
          refine k_fin rfl (fin_Z (Or.inr rfl)) ⟨_, _, rfl, rf_len I3 I3, ?_⟩
          show am_Ok _ _ _ (14, _, [.inl (1 : Int32)], _, 0, 0) _
          refine k_c1 17 rfl rfl (if_neg (by decide)) ?_
          refine k_aload 18 rfl rfl rfl ?_
          refine k_iload 19 rfl rfl rfl ?_
          refine k_rq I3 rfl (m_steps (lm := lm) (gT := gT) I3.1 (show nn ((A0 24)) ((A0 25)) ((F0 28)) (gT) from p1) (show nw ((A0 24)) ((A0 25)) ((A0 26)) (lm) ((F0 28)) from p2) (show wr A0 from p5) (show wq A0 from p6) (show (F0 27) = cn ((A0 24)) ((F0 28)).toNat from p3) (show (F0 27) ≤ 400 ∧ (gT) ≤ 900000 by omega)) rfl rfl rfl I3.rc ?_
          rintro x81 h82 F83 A84 I85 ⟨k87, k88, p86⟩
          replace p86 : nt (A84 24) (A84 25) (A84 26) (F83 28) ((gT) + 1) (F83 27) ∧ (wr A84 ∧ wq A84 ∧ A84 2 2 = (A0 2) 2 ∧ (∀ q : Int, 2600 ≤ q → A84 1 q = (A0 1) q)) ∧ (-2 ≤ x81.toInt ∧ x81.toInt ≤ 5) := p86
          obtain ⟨p86a, ⟨p86b, p86c, p86d, p86e⟩, p86f⟩ := p86
          show am_Ok _ _ _ (22, _, [.inl x81], _, 0, 0) _
          refine k_goto 26 rfl rfl ?_
          exact k_fin rfl rfl ⟨_, _, _, _, rfl, I85, (fr1.tr (by decide) (fr1.up (by decide) fr1.rf) k87), (fr2.tr (by decide) fr2.rf k88), ⟨p86a, p86b, p86c, p86d, p86e⟩⟩
        · refine k_c1 27 rfl rfl (if_neg b80) ?_
          have b80 := mt iv_eq0.mpr b80
          refine k_push 28 rfl rfl ?_
          refine k_fin rfl (fin_Z (Or.inl rfl)) ⟨_, _, rfl, rf_len I3 I3, ?_⟩
          show am_Ok _ _ _ (14, _, [.inl (0 : Int32)], _, 0, 0) _
          refine k_c1 25 rfl rfl (if_pos (by decide)) ?_
          refine k_push 26 rfl rfl ?_
          exact k_fin rfl rfl ⟨_, _, _, _, rfl, I3, (fr1.up (by decide) fr1.rf), fr2.rf, ⟨nt_of p1 p2 p3 p4.1 (by omega), p5, p6, rfl, fun q _ => rfl⟩⟩
theorem b_X10_run_39 {h0 : am_h} {F0 : rf_f} {A0 : rf_A} {w1 : Int32} {w2 : Int32} {lm : Int → Int} {gT : Int} (p1 : nn (A0 24) (A0 25) (F0 28) gT) (p2 : nw (A0 24) (A0 25) (A0 26) lm (F0 28)) (p5 : wr A0) (p6 : wq A0) (p3 : F0 27 = cn (A0 24) (F0 28).toNat) (p4 : F0 27 ≤ 400 ∧ gT ≤ 800000) : ∀ (n : Nat) {lv : am_l} {h : am_h} {F : rf_f} {A : rf_A} {v1 : Int32} {v2 : Int32} {v3 : Int32} {lm1 : Int → Int} {T1 : Int}, ((60 - v3.toInt).toNat) = n → am_get lv 0 = some (.inr (.inr (some 81))) → am_get lv 1 = some (.inl v1) → am_get lv 2 = some (.inl v2) → am_get lv 3 = some (.inl v3) → rf_I h0 h F A → fr1 [59, 55, 50, 48, 62, 63, 64, 65, 28, 27, 32, 0] F0 F → fr2 [1, 2, 56, 57, 58, 61, 49, 51, 52, 53, 54, 60, 43, 44, 45, 46, 47, 24, 25, 26, 40, 41, 31] A0 A → (0 ≤ v3.toInt ∧ v3.toInt ≤ 60 ∧ v2.toInt ≤ 60) → (nn (A 24) (A 25) (F 28) T1) → (nw (A 24) (A 25) (A 26) lm1 (F 28)) → (F 27 = cn (A 24) (F 28).toNat) → (wr A) → (wq A) → (A 2 2 = A0 2 2) → (∀ q : Int, 2600 ≤ q → A 1 q = A0 1 q) → (F 27 ≤ 400 ∧ T1 ≤ gT + v3.toInt) → am_Ok am_G 8 220 (39, lv, [], h, 0, 0) (rf_Q h0 (fun x F' A' => fr1 [59, 55, 50, 48, 62, 63, 64, 65, 28, 27, 32, 0] F0 F' ∧ fr2 [1, 2, 56, 57, 58, 61, 49, 51, 52, 53, 54, 60, 43, 44, 45, 46, 47, 24, 25, 26, 40, 41, 31] A0 A' ∧ (nt (A' 24) (A' 25) (A' 26) (F' 28) (gT + 61) (F' 27) ∧ (wr A' ∧ wq A' ∧ A' 2 2 = A0 2 2 ∧ (∀ q : Int, 2600 ≤ q → A' 1 q = A0 1 q))))) := by
  intro n
  induction n using Nat.strongRecOn with
  | ind n ih =>
    intro lv h F A v1 v2 v3 lm1 T1 hn g0 g1 g2 g3 hI hF hA i1 i2 i3 i4 i6 i7 i8 i9 i5
    refine k_iload 40 rfl g3 rfl ?_
    refine k_iload 41 rfl g2 rfl ?_
    by_cases b1 : v2 ≤ v3
    · refine k_c2 58 rfl rfl (if_pos b1) ?_
      have b1 := iv_le.mp b1
      refine k_iload 59 rfl g3 rfl ?_
      exact k_fin rfl rfl ⟨_, _, _, _, rfl, hI, hF, hA, ⟨nt_of i2 i3 i4 i5.1 (by omega), i6, i7, i8, i9⟩⟩
    · refine k_c2 44 rfl rfl (if_neg b1) ?_
      have b1 := mt iv_le.mpr b1
      refine k_aload 45 rfl g0 rfl ?_
      refine k_iload 46 rfl g1 rfl ?_
      refine k_rq hI rfl (m_steps (lm := lm1) (gT := T1) hI.1 (show nn ((A 24)) ((A 25)) ((F 28)) (T1) from i2) (show nw ((A 24)) ((A 25)) ((A 26)) (lm1) ((F 28)) from i3) (show wr A from i6) (show wq A from i7) (show (F 27) = cn ((A 24)) ((F 28)).toNat from i4) (show (F 27) ≤ 400 ∧ (T1) ≤ 900000 by omega)) rfl rfl rfl hI.rc ?_
      rintro x2 h3 F4 A5 I6 ⟨k8, k9, p7⟩
      replace p7 : nt (A5 24) (A5 25) (A5 26) (F4 28) ((T1) + 1) (F4 27) ∧ (wr A5 ∧ wq A5 ∧ A5 2 2 = (A 2) 2 ∧ (∀ q : Int, 2600 ≤ q → A5 1 q = (A 1) q)) ∧ (-2 ≤ x2.toInt ∧ x2.toInt ≤ 5) := p7
      obtain ⟨p7a, ⟨p7b, p7c, p7d, p7e⟩, p7f⟩ := p7
      show am_Ok _ _ _ (49, _, [.inl x2], _, 0, 0) _
      obtain ⟨n1, ⟨lm9, n2⟩, n3, n4⟩ := id p7a
      by_cases b10 : x2 ≤ 0
      · refine k_c1 58 rfl rfl (if_pos b10) ?_
        have b10 := iv_le0.mp b10
        refine k_iload 59 rfl g3 rfl ?_
        exact k_fin rfl rfl ⟨_, _, _, _, rfl, I6, (fr1.tr (by decide) hF k8), (fr2.tr (by decide) hA k9), ⟨p7a.mono (by omega), p7b, p7c, p7d.trans i8, fun q hq => (p7e q hq).trans (i9 q hq)⟩⟩
      · refine k_c1 52 rfl rfl (if_neg b10) ?_
        have b10 := mt iv_le0.mpr b10
        have hc11 : (1 : Int32).toInt = 1 := by decide
        obtain ⟨x12, q13⟩ : ∃ q : Int32, q = v3 + (1 : Int32) := ⟨_, rfl⟩
        have e14 : x12.toInt = v3.toInt + 1 := by rw [q13, iv_add (by omega) (by omega)]; omega
        refine k_iinc x12 55 rfl g3 q13.symm rfl ?_
        refine k_goto 39 rfl rfl ?_
        exact ih _ (show ((60 - x12.toInt).toNat) < n by omega) (lm1 := lm9) (T1 := T1 + 1) rfl (gs_ne rfl rfl g0) (gs_ne rfl rfl g1) (gs_ne rfl rfl g2) gs_eq I6 (fr1.tr (by decide) hF k8) (fr2.tr (by decide) hA k9) (show 0 ≤ x12.toInt ∧ x12.toInt ≤ 60 ∧ v2.toInt ≤ 60 by omega) (show nn ((A5 24)) ((A5 25)) ((F4 28)) (T1 + 1) from n1) (show nw ((A5 24)) ((A5 25)) ((A5 26)) (lm9) ((F4 28)) from n2) (show (F4 27) = cn ((A5 24)) ((F4 28)).toNat from n3) (show wr A5 from p7b) (show wq A5 from p7c) (show (A5 2) 2 = A0 2 2 from p7d.trans i8) (show ∀ q : Int, 2600 ≤ q → (A5 1) q = A0 1 q from fun q hq => (p7e q hq).trans (i9 q hq)) (show (F4 27) ≤ 400 ∧ (T1 + 1) ≤ gT + x12.toInt by omega)
theorem m_run {h0 : am_h} {F0 : rf_f} {A0 : rf_A} {w1 : Int32} {w2 : Int32} {lm : Int → Int} {gT : Int} (hR : rf_R h0 F0 A0) (p1 : nn (A0 24) (A0 25) (F0 28) gT) (p2 : nw (A0 24) (A0 25) (A0 26) lm (F0 28)) (p5 : wr A0) (p6 : wq A0) (p3 : F0 27 = cn (A0 24) (F0 28).toNat) (p4 : F0 27 ≤ 400 ∧ gT ≤ 800000) : am_Mt 9 220 [.inr (.inr (some 81)), .inl w1, .inl w2] h0 (rf_Q h0 (fun x F' A' => fr1 [59, 55, 50, 48, 62, 63, 64, 65, 28, 27, 32, 0] F0 F' ∧ fr2 [1, 2, 56, 57, 58, 61, 49, 51, 52, 53, 54, 60, 43, 44, 45, 46, 47, 24, 25, 26, 40, 41, 31] A0 A' ∧ (nt (A' 24) (A' 25) (A' 26) (F' 28) (gT + 61) (F' 27) ∧ (wr A' ∧ wq A' ∧ A' 2 2 = A0 2 2 ∧ (∀ q : Int, 2600 ≤ q → A' 1 q = A0 1 q))))) := by
  refine am_Mt.of (D := 8) ?_
  have hI : rf_I h0 h0 F0 A0 := rf_I.start hR
  refine k_aload 1 rfl rfl rfl ?_
  refine k_push 2 rfl rfl ?_
  have hc15 : (0 : Int32).toInt = 0 := by decide
  refine r_pI hI 5 rfl rfl rfl (fun h16 I17 => ?_)
  refine k_aload 6 rfl rfl rfl ?_
  refine k_iload 7 rfl rfl rfl ?_
  refine k_in (d := 1) rfl rfl rfl rfl rfl ?_
  refine k_iload 1 rfl rfl rfl ?_
  refine k_push 2 rfl rfl ?_
  refine k_push 3 rfl rfl ?_
  have hc18 : (2 : Int32).toInt = 2 := by decide
  refine k_in (d := 0) rfl rfl rfl rfl rfl ?_
  refine k_iload 1 rfl rfl rfl ?_
  refine k_iload 2 rfl rfl rfl ?_
  by_cases b19 : w1 < (0 : Int32)
  · refine k_c2 14 rfl rfl (if_pos b19) ?_
    have b19 := iv_lt.mp b19
    refine k_push 15 rfl rfl ?_
    refine k_fin rfl (fin_Z (Or.inl rfl)) ⟨_, _, rfl, rf_len I17 I17, ?_⟩
    show am_Ok _ _ _ (6, _, [.inl (0 : Int32)], _, 0, 0) _
    refine k_fin rfl (fin_Z (Or.inl rfl)) ⟨_, _, rfl, rf_len I17 I17, ?_⟩
    show am_Ok _ _ _ (10, _, [.inl (0 : Int32), .inr (.inr (some 81))], _, 0, 0) _
    refine k_c1 27 rfl rfl (if_pos (by decide)) ?_
    refine k_push 28 rfl rfl ?_
    refine k_push 29 rfl rfl ?_
    have hc20 : (1 : Int32).toInt = 1 := by decide
    refine k_in (d := 0) rfl rfl rfl rfl I17.rc ?_
    refine k_aload 1 rfl rfl rfl ?_
    refine r_gI I17 4 rfl rfl rfl (fun x21 (e22 : x21.toInt = (0 : Int32).toInt) => ?_)
    by_cases b23 : x21 = 0
    · refine k_c1 7 rfl rfl (if_pos b23) ?_
      have b23 := iv_eq0.mp b23
      refine k_iload 8 rfl rfl rfl ?_
      refine k_c1 11 rfl rfl (if_pos (by decide)) ?_
      refine k_aload 12 rfl rfl rfl ?_
      refine k_iload 13 rfl rfl rfl ?_
      refine r_pI I17 16 rfl rfl rfl (fun h24 I25 => ?_)
      refine k_aload 17 rfl rfl rfl ?_
      refine r_gI I25 20 rfl rfl rfl (fun x26 (e27 : x26.toInt = (1 : Int32).toInt) => ?_)
      by_cases b28 : x26 = 0
      · refine k_c1 23 rfl rfl (if_pos b28) ?_
        have b28 := iv_eq0.mp b28
        refine k_push 24 rfl rfl ?_
        refine k_goto 28 rfl rfl ?_
        refine k_fin rfl (fin_Z (Or.inr rfl)) ⟨_, _, rfl, rf_len I17 I25, ?_⟩
        show am_Ok _ _ _ (32, _, [.inl (1 : Int32)], _, 0, 0) _
        refine k_c1 37 rfl rfl (if_neg (by decide)) ?_
        refine k_push 38 rfl rfl ?_
        refine k_istore 39 rfl rfl ?_
        exact b_X10_run_39 (lm := lm) (gT := gT) (w1 := w1) (w2 := w2) p1 p2 p5 p6 p3 p4 _ (lm1 := lm) (T1 := gT) rfl (gs_ne rfl rfl rfl) (gs_ne rfl rfl rfl) (gs_ne rfl rfl rfl) gs_eq I25 (fr1.up (by decide) (fr1.up (by decide) fr1.rf)) fr2.rf (show 0 ≤ (0 : Int32).toInt ∧ (0 : Int32).toInt ≤ 60 ∧ w2.toInt ≤ 60 by omega) (show nn ((A0 24)) ((A0 25)) ((F0 28)) (gT) from p1) (show nw ((A0 24)) ((A0 25)) ((A0 26)) (lm) ((F0 28)) from p2) (show (F0 27) = cn ((A0 24)) ((F0 28)).toNat from p3) (show wr A0 from p5) (show wq A0 from p6) (show (A0 2) 2 = A0 2 2 from rfl) (show ∀ q : Int, 2600 ≤ q → (A0 1) q = A0 1 q from fun q _ => rfl) (show (F0 27) ≤ 400 ∧ (gT) ≤ gT + (0 : Int32).toInt by omega)
      · refine k_c1 27 rfl rfl (if_neg b28) ?_
        have b28 := mt iv_eq0.mpr b28
        refine k_push 28 rfl rfl ?_
        refine k_fin rfl (fin_Z (Or.inl rfl)) ⟨_, _, rfl, rf_len I17 I25, ?_⟩
        show am_Ok _ _ _ (32, _, [.inl (0 : Int32)], _, 0, 0) _
        refine k_c1 35 rfl rfl (if_pos (by decide)) ?_
        refine k_push 36 rfl rfl ?_
        exact k_fin rfl rfl ⟨_, _, _, _, rfl, I25, (fr1.up (by decide) (fr1.up (by decide) fr1.rf)), fr2.rf, ⟨nt_of p1 p2 p3 p4.1 (by omega), p5, p6, rfl, fun q _ => rfl⟩⟩
    · refine k_c1 16 rfl rfl (if_neg b23) ?_
      have b23 := mt iv_eq0.mpr b23
      refine k_aload 17 rfl rfl rfl ?_
      refine r_gI I17 20 rfl rfl rfl (fun x29 (e30 : x29.toInt = (0 : Int32).toInt) => ?_)
      by_cases b31 : x29 = 0
      · refine k_c1 23 rfl rfl (if_pos b31) ?_
        have b31 := iv_eq0.mp b31
        refine k_push 24 rfl rfl ?_
        refine k_goto 28 rfl rfl ?_
        refine k_fin rfl (fin_Z (Or.inr rfl)) ⟨_, _, rfl, rf_len I17 I17, ?_⟩
        show am_Ok _ _ _ (32, _, [.inl (1 : Int32)], _, 0, 0) _
        refine k_c1 37 rfl rfl (if_neg (by decide)) ?_
        refine k_push 38 rfl rfl ?_
        refine k_istore 39 rfl rfl ?_
        exact b_X10_run_39 (lm := lm) (gT := gT) (w1 := w1) (w2 := w2) p1 p2 p5 p6 p3 p4 _ (lm1 := lm) (T1 := gT) rfl (gs_ne rfl rfl rfl) (gs_ne rfl rfl rfl) (gs_ne rfl rfl rfl) gs_eq I17 (fr1.up (by decide) fr1.rf) fr2.rf (show 0 ≤ (0 : Int32).toInt ∧ (0 : Int32).toInt ≤ 60 ∧ w2.toInt ≤ 60 by omega) (show nn ((A0 24)) ((A0 25)) ((F0 28)) (gT) from p1) (show nw ((A0 24)) ((A0 25)) ((A0 26)) (lm) ((F0 28)) from p2) (show (F0 27) = cn ((A0 24)) ((F0 28)).toNat from p3) (show wr A0 from p5) (show wq A0 from p6) (show (A0 2) 2 = A0 2 2 from rfl) (show ∀ q : Int, 2600 ≤ q → (A0 1) q = A0 1 q from fun q _ => rfl) (show (F0 27) ≤ 400 ∧ (gT) ≤ gT + (0 : Int32).toInt by omega)
      · refine k_c1 27 rfl rfl (if_neg b31) ?_
        have b31 := mt iv_eq0.mpr b31
        refine k_push 28 rfl rfl ?_
        refine k_fin rfl (fin_Z (Or.inl rfl)) ⟨_, _, rfl, rf_len I17 I17, ?_⟩
        show am_Ok _ _ _ (32, _, [.inl (0 : Int32)], _, 0, 0) _
        refine k_c1 35 rfl rfl (if_pos (by decide)) ?_
        refine k_push 36 rfl rfl ?_
        exact k_fin rfl rfl ⟨_, _, _, _, rfl, I17, (fr1.up (by decide) fr1.rf), fr2.rf, ⟨nt_of p1 p2 p3 p4.1 (by omega), p5, p6, rfl, fun q _ => rfl⟩⟩
  · refine k_c2 5 rfl rfl (if_neg b19) ?_
    have b19 := mt iv_lt.mpr b19
    refine k_iload 6 rfl rfl rfl ?_
    refine k_iload 7 rfl rfl rfl ?_
    by_cases b32 : (2 : Int32) < w1
    · refine k_c2 14 rfl rfl (if_pos b32) ?_
      have b32 := iv_lt.mp b32
      refine k_push 15 rfl rfl ?_
      refine k_fin rfl (fin_Z (Or.inl rfl)) ⟨_, _, rfl, rf_len I17 I17, ?_⟩
      show am_Ok _ _ _ (6, _, [.inl (0 : Int32)], _, 0, 0) _
      refine k_fin rfl (fin_Z (Or.inl rfl)) ⟨_, _, rfl, rf_len I17 I17, ?_⟩
      show am_Ok _ _ _ (10, _, [.inl (0 : Int32), .inr (.inr (some 81))], _, 0, 0) _
      refine k_c1 27 rfl rfl (if_pos (by decide)) ?_
      refine k_push 28 rfl rfl ?_
      refine k_push 29 rfl rfl ?_
      have hc33 : (1 : Int32).toInt = 1 := by decide
      refine k_in (d := 0) rfl rfl rfl rfl I17.rc ?_
      refine k_aload 1 rfl rfl rfl ?_
      refine r_gI I17 4 rfl rfl rfl (fun x34 (e35 : x34.toInt = (0 : Int32).toInt) => ?_)
      by_cases b36 : x34 = 0
      · refine k_c1 7 rfl rfl (if_pos b36) ?_
        have b36 := iv_eq0.mp b36
        refine k_iload 8 rfl rfl rfl ?_
        refine k_c1 11 rfl rfl (if_pos (by decide)) ?_
        refine k_aload 12 rfl rfl rfl ?_
        refine k_iload 13 rfl rfl rfl ?_
        refine r_pI I17 16 rfl rfl rfl (fun h37 I38 => ?_)
        refine k_aload 17 rfl rfl rfl ?_
        refine r_gI I38 20 rfl rfl rfl (fun x39 (e40 : x39.toInt = (1 : Int32).toInt) => ?_)
        by_cases b41 : x39 = 0
        · refine k_c1 23 rfl rfl (if_pos b41) ?_
          have b41 := iv_eq0.mp b41
          refine k_push 24 rfl rfl ?_
          refine k_goto 28 rfl rfl ?_
          refine k_fin rfl (fin_Z (Or.inr rfl)) ⟨_, _, rfl, rf_len I17 I38, ?_⟩
          show am_Ok _ _ _ (32, _, [.inl (1 : Int32)], _, 0, 0) _
          refine k_c1 37 rfl rfl (if_neg (by decide)) ?_
          refine k_push 38 rfl rfl ?_
          refine k_istore 39 rfl rfl ?_
          exact b_X10_run_39 (lm := lm) (gT := gT) (w1 := w1) (w2 := w2) p1 p2 p5 p6 p3 p4 _ (lm1 := lm) (T1 := gT) rfl (gs_ne rfl rfl rfl) (gs_ne rfl rfl rfl) (gs_ne rfl rfl rfl) gs_eq I38 (fr1.up (by decide) (fr1.up (by decide) fr1.rf)) fr2.rf (show 0 ≤ (0 : Int32).toInt ∧ (0 : Int32).toInt ≤ 60 ∧ w2.toInt ≤ 60 by omega) (show nn ((A0 24)) ((A0 25)) ((F0 28)) (gT) from p1) (show nw ((A0 24)) ((A0 25)) ((A0 26)) (lm) ((F0 28)) from p2) (show (F0 27) = cn ((A0 24)) ((F0 28)).toNat from p3) (show wr A0 from p5) (show wq A0 from p6) (show (A0 2) 2 = A0 2 2 from rfl) (show ∀ q : Int, 2600 ≤ q → (A0 1) q = A0 1 q from fun q _ => rfl) (show (F0 27) ≤ 400 ∧ (gT) ≤ gT + (0 : Int32).toInt by omega)
        · refine k_c1 27 rfl rfl (if_neg b41) ?_
          have b41 := mt iv_eq0.mpr b41
          refine k_push 28 rfl rfl ?_
          refine k_fin rfl (fin_Z (Or.inl rfl)) ⟨_, _, rfl, rf_len I17 I38, ?_⟩
          show am_Ok _ _ _ (32, _, [.inl (0 : Int32)], _, 0, 0) _
          refine k_c1 35 rfl rfl (if_pos (by decide)) ?_
          refine k_push 36 rfl rfl ?_
          exact k_fin rfl rfl ⟨_, _, _, _, rfl, I38, (fr1.up (by decide) (fr1.up (by decide) fr1.rf)), fr2.rf, ⟨nt_of p1 p2 p3 p4.1 (by omega), p5, p6, rfl, fun q _ => rfl⟩⟩
      · refine k_c1 16 rfl rfl (if_neg b36) ?_
        have b36 := mt iv_eq0.mpr b36
        refine k_aload 17 rfl rfl rfl ?_
        refine r_gI I17 20 rfl rfl rfl (fun x42 (e43 : x42.toInt = (0 : Int32).toInt) => ?_)
        by_cases b44 : x42 = 0
        · refine k_c1 23 rfl rfl (if_pos b44) ?_
          have b44 := iv_eq0.mp b44
          refine k_push 24 rfl rfl ?_
          refine k_goto 28 rfl rfl ?_
          refine k_fin rfl (fin_Z (Or.inr rfl)) ⟨_, _, rfl, rf_len I17 I17, ?_⟩
          show am_Ok _ _ _ (32, _, [.inl (1 : Int32)], _, 0, 0) _
          refine k_c1 37 rfl rfl (if_neg (by decide)) ?_
          refine k_push 38 rfl rfl ?_
          refine k_istore 39 rfl rfl ?_
          exact b_X10_run_39 (lm := lm) (gT := gT) (w1 := w1) (w2 := w2) p1 p2 p5 p6 p3 p4 _ (lm1 := lm) (T1 := gT) rfl (gs_ne rfl rfl rfl) (gs_ne rfl rfl rfl) (gs_ne rfl rfl rfl) gs_eq I17 (fr1.up (by decide) fr1.rf) fr2.rf (show 0 ≤ (0 : Int32).toInt ∧ (0 : Int32).toInt ≤ 60 ∧ w2.toInt ≤ 60 by omega) (show nn ((A0 24)) ((A0 25)) ((F0 28)) (gT) from p1) (show nw ((A0 24)) ((A0 25)) ((A0 26)) (lm) ((F0 28)) from p2) (show (F0 27) = cn ((A0 24)) ((F0 28)).toNat from p3) (show wr A0 from p5) (show wq A0 from p6) (show (A0 2) 2 = A0 2 2 from rfl) (show ∀ q : Int, 2600 ≤ q → (A0 1) q = A0 1 q from fun q _ => rfl) (show (F0 27) ≤ 400 ∧ (gT) ≤ gT + (0 : Int32).toInt by omega)
        · refine k_c1 27 rfl rfl (if_neg b44) ?_
          have b44 := mt iv_eq0.mpr b44
          refine k_push 28 rfl rfl ?_
          refine k_fin rfl (fin_Z (Or.inl rfl)) ⟨_, _, rfl, rf_len I17 I17, ?_⟩
          show am_Ok _ _ _ (32, _, [.inl (0 : Int32)], _, 0, 0) _
          refine k_c1 35 rfl rfl (if_pos (by decide)) ?_
          refine k_push 36 rfl rfl ?_
          exact k_fin rfl rfl ⟨_, _, _, _, rfl, I17, (fr1.up (by decide) fr1.rf), fr2.rf, ⟨nt_of p1 p2 p3 p4.1 (by omega), p5, p6, rfl, fun q _ => rfl⟩⟩
    · refine k_c2 10 rfl rfl (if_neg b32) ?_
      have b32 := mt iv_lt.mpr b32
      refine k_push 11 rfl rfl ?_
      have hc45 : (1 : Int32).toInt = 1 := by decide
      refine k_goto 15 rfl rfl ?_
      refine k_fin rfl (fin_Z (Or.inr rfl)) ⟨_, _, rfl, rf_len I17 I17, ?_⟩
      show am_Ok _ _ _ (6, _, [.inl (1 : Int32)], _, 0, 0) _
      refine k_fin rfl (fin_Z (Or.inr rfl)) ⟨_, _, rfl, rf_len I17 I17, ?_⟩
      show am_Ok _ _ _ (10, _, [.inl (1 : Int32), .inr (.inr (some 81))], _, 0, 0) _
      refine k_c1 13 rfl rfl (if_neg (by decide)) ?_
      refine k_iload 14 rfl rfl rfl ?_
      refine k_push 15 rfl rfl ?_
      refine k_push 17 rfl rfl ?_
      have hc46 : (60 : Int32).toInt = 60 := by decide
      refine k_in (d := 0) rfl rfl rfl rfl rfl ?_
      refine k_iload 1 rfl rfl rfl ?_
      refine k_iload 2 rfl rfl rfl ?_
      by_cases b47 : w2 < (0 : Int32)
      · refine k_c2 14 rfl rfl (if_pos b47) ?_
        have b47 := iv_lt.mp b47
        refine k_push 15 rfl rfl ?_
        refine k_fin rfl (fin_Z (Or.inl rfl)) ⟨_, _, rfl, rf_len I17 I17, ?_⟩
        show am_Ok _ _ _ (20, _, [.inl (0 : Int32), .inr (.inr (some 81))], _, 0, 0) _
        refine k_c1 27 rfl rfl (if_pos (by decide)) ?_
        refine k_push 28 rfl rfl ?_
        refine k_push 29 rfl rfl ?_
        refine k_in (d := 0) rfl rfl rfl rfl I17.rc ?_
        refine k_aload 1 rfl rfl rfl ?_
        refine r_gI I17 4 rfl rfl rfl (fun x48 (e49 : x48.toInt = (0 : Int32).toInt) => ?_)
        by_cases b50 : x48 = 0
        · refine k_c1 7 rfl rfl (if_pos b50) ?_
          have b50 := iv_eq0.mp b50
          refine k_iload 8 rfl rfl rfl ?_
          refine k_c1 11 rfl rfl (if_pos (by decide)) ?_
          refine k_aload 12 rfl rfl rfl ?_
          refine k_iload 13 rfl rfl rfl ?_
          refine r_pI I17 16 rfl rfl rfl (fun h51 I52 => ?_)
          refine k_aload 17 rfl rfl rfl ?_
          refine r_gI I52 20 rfl rfl rfl (fun x53 (e54 : x53.toInt = (1 : Int32).toInt) => ?_)
          by_cases b55 : x53 = 0
          · refine k_c1 23 rfl rfl (if_pos b55) ?_
            have b55 := iv_eq0.mp b55
            refine k_push 24 rfl rfl ?_
            refine k_goto 28 rfl rfl ?_
            refine k_fin rfl (fin_Z (Or.inr rfl)) ⟨_, _, rfl, rf_len I17 I52, ?_⟩
            show am_Ok _ _ _ (32, _, [.inl (1 : Int32)], _, 0, 0) _
            refine k_c1 37 rfl rfl (if_neg (by decide)) ?_
            refine k_push 38 rfl rfl ?_
            refine k_istore 39 rfl rfl ?_
            exact b_X10_run_39 (lm := lm) (gT := gT) (w1 := w1) (w2 := w2) p1 p2 p5 p6 p3 p4 _ (lm1 := lm) (T1 := gT) rfl (gs_ne rfl rfl rfl) (gs_ne rfl rfl rfl) (gs_ne rfl rfl rfl) gs_eq I52 (fr1.up (by decide) (fr1.up (by decide) fr1.rf)) fr2.rf (show 0 ≤ (0 : Int32).toInt ∧ (0 : Int32).toInt ≤ 60 ∧ w2.toInt ≤ 60 by omega) (show nn ((A0 24)) ((A0 25)) ((F0 28)) (gT) from p1) (show nw ((A0 24)) ((A0 25)) ((A0 26)) (lm) ((F0 28)) from p2) (show (F0 27) = cn ((A0 24)) ((F0 28)).toNat from p3) (show wr A0 from p5) (show wq A0 from p6) (show (A0 2) 2 = A0 2 2 from rfl) (show ∀ q : Int, 2600 ≤ q → (A0 1) q = A0 1 q from fun q _ => rfl) (show (F0 27) ≤ 400 ∧ (gT) ≤ gT + (0 : Int32).toInt by omega)
          · refine k_c1 27 rfl rfl (if_neg b55) ?_
            have b55 := mt iv_eq0.mpr b55
            refine k_push 28 rfl rfl ?_
            refine k_fin rfl (fin_Z (Or.inl rfl)) ⟨_, _, rfl, rf_len I17 I52, ?_⟩
            show am_Ok _ _ _ (32, _, [.inl (0 : Int32)], _, 0, 0) _
            refine k_c1 35 rfl rfl (if_pos (by decide)) ?_
            refine k_push 36 rfl rfl ?_
            exact k_fin rfl rfl ⟨_, _, _, _, rfl, I52, (fr1.up (by decide) (fr1.up (by decide) fr1.rf)), fr2.rf, ⟨nt_of p1 p2 p3 p4.1 (by omega), p5, p6, rfl, fun q _ => rfl⟩⟩
        · refine k_c1 16 rfl rfl (if_neg b50) ?_
          have b50 := mt iv_eq0.mpr b50
          refine k_aload 17 rfl rfl rfl ?_
          refine r_gI I17 20 rfl rfl rfl (fun x56 (e57 : x56.toInt = (0 : Int32).toInt) => ?_)
          by_cases b58 : x56 = 0
          · refine k_c1 23 rfl rfl (if_pos b58) ?_
            have b58 := iv_eq0.mp b58
            refine k_push 24 rfl rfl ?_
            refine k_goto 28 rfl rfl ?_
            refine k_fin rfl (fin_Z (Or.inr rfl)) ⟨_, _, rfl, rf_len I17 I17, ?_⟩
            show am_Ok _ _ _ (32, _, [.inl (1 : Int32)], _, 0, 0) _
            refine k_c1 37 rfl rfl (if_neg (by decide)) ?_
            refine k_push 38 rfl rfl ?_
            refine k_istore 39 rfl rfl ?_
            exact b_X10_run_39 (lm := lm) (gT := gT) (w1 := w1) (w2 := w2) p1 p2 p5 p6 p3 p4 _ (lm1 := lm) (T1 := gT) rfl (gs_ne rfl rfl rfl) (gs_ne rfl rfl rfl) (gs_ne rfl rfl rfl) gs_eq I17 (fr1.up (by decide) fr1.rf) fr2.rf (show 0 ≤ (0 : Int32).toInt ∧ (0 : Int32).toInt ≤ 60 ∧ w2.toInt ≤ 60 by omega) (show nn ((A0 24)) ((A0 25)) ((F0 28)) (gT) from p1) (show nw ((A0 24)) ((A0 25)) ((A0 26)) (lm) ((F0 28)) from p2) (show (F0 27) = cn ((A0 24)) ((F0 28)).toNat from p3) (show wr A0 from p5) (show wq A0 from p6) (show (A0 2) 2 = A0 2 2 from rfl) (show ∀ q : Int, 2600 ≤ q → (A0 1) q = A0 1 q from fun q _ => rfl) (show (F0 27) ≤ 400 ∧ (gT) ≤ gT + (0 : Int32).toInt by omega)
          · refine k_c1 27 rfl rfl (if_neg b58) ?_
            have b58 := mt iv_eq0.mpr b58
            refine k_push 28 rfl rfl ?_
            refine k_fin rfl (fin_Z (Or.inl rfl)) ⟨_, _, rfl, rf_len I17 I17, ?_⟩
            show am_Ok _ _ _ (32, _, [.inl (0 : Int32)], _, 0, 0) _
            refine k_c1 35 rfl rfl (if_pos (by decide)) ?_
            refine k_push 36 rfl rfl ?_
            exact k_fin rfl rfl ⟨_, _, _, _, rfl, I17, (fr1.up (by decide) fr1.rf), fr2.rf, ⟨nt_of p1 p2 p3 p4.1 (by omega), p5, p6, rfl, fun q _ => rfl⟩⟩
      · refine k_c2 5 rfl rfl (if_neg b47) ?_
        have b47 := mt iv_lt.mpr b47
        refine k_iload 6 rfl rfl rfl ?_
        refine k_iload 7 rfl rfl rfl ?_
        by_cases b59 : (60 : Int32) < w2
        · refine k_c2 14 rfl rfl (if_pos b59) ?_
          have b59 := iv_lt.mp b59
          refine k_push 15 rfl rfl ?_
          refine k_fin rfl (fin_Z (Or.inl rfl)) ⟨_, _, rfl, rf_len I17 I17, ?_⟩
          show am_Ok _ _ _ (20, _, [.inl (0 : Int32), .inr (.inr (some 81))], _, 0, 0) _
          refine k_c1 27 rfl rfl (if_pos (by decide)) ?_
          refine k_push 28 rfl rfl ?_
          refine k_push 29 rfl rfl ?_
          refine k_in (d := 0) rfl rfl rfl rfl I17.rc ?_
          refine k_aload 1 rfl rfl rfl ?_
          refine r_gI I17 4 rfl rfl rfl (fun x60 (e61 : x60.toInt = (0 : Int32).toInt) => ?_)
          by_cases b62 : x60 = 0
          · refine k_c1 7 rfl rfl (if_pos b62) ?_
            have b62 := iv_eq0.mp b62
            refine k_iload 8 rfl rfl rfl ?_
            refine k_c1 11 rfl rfl (if_pos (by decide)) ?_
            refine k_aload 12 rfl rfl rfl ?_
            refine k_iload 13 rfl rfl rfl ?_
            refine r_pI I17 16 rfl rfl rfl (fun h63 I64 => ?_)
            refine k_aload 17 rfl rfl rfl ?_
            refine r_gI I64 20 rfl rfl rfl (fun x65 (e66 : x65.toInt = (1 : Int32).toInt) => ?_)
            by_cases b67 : x65 = 0
            · refine k_c1 23 rfl rfl (if_pos b67) ?_
              have b67 := iv_eq0.mp b67
              refine k_push 24 rfl rfl ?_
              refine k_goto 28 rfl rfl ?_
              refine k_fin rfl (fin_Z (Or.inr rfl)) ⟨_, _, rfl, rf_len I17 I64, ?_⟩
              show am_Ok _ _ _ (32, _, [.inl (1 : Int32)], _, 0, 0) _
              refine k_c1 37 rfl rfl (if_neg (by decide)) ?_
              refine k_push 38 rfl rfl ?_
              refine k_istore 39 rfl rfl ?_
              exact b_X10_run_39 (lm := lm) (gT := gT) (w1 := w1) (w2 := w2) p1 p2 p5 p6 p3 p4 _ (lm1 := lm) (T1 := gT) rfl (gs_ne rfl rfl rfl) (gs_ne rfl rfl rfl) (gs_ne rfl rfl rfl) gs_eq I64 (fr1.up (by decide) (fr1.up (by decide) fr1.rf)) fr2.rf (show 0 ≤ (0 : Int32).toInt ∧ (0 : Int32).toInt ≤ 60 ∧ w2.toInt ≤ 60 by omega) (show nn ((A0 24)) ((A0 25)) ((F0 28)) (gT) from p1) (show nw ((A0 24)) ((A0 25)) ((A0 26)) (lm) ((F0 28)) from p2) (show (F0 27) = cn ((A0 24)) ((F0 28)).toNat from p3) (show wr A0 from p5) (show wq A0 from p6) (show (A0 2) 2 = A0 2 2 from rfl) (show ∀ q : Int, 2600 ≤ q → (A0 1) q = A0 1 q from fun q _ => rfl) (show (F0 27) ≤ 400 ∧ (gT) ≤ gT + (0 : Int32).toInt by omega)
            · refine k_c1 27 rfl rfl (if_neg b67) ?_
              have b67 := mt iv_eq0.mpr b67
              refine k_push 28 rfl rfl ?_
              refine k_fin rfl (fin_Z (Or.inl rfl)) ⟨_, _, rfl, rf_len I17 I64, ?_⟩
              show am_Ok _ _ _ (32, _, [.inl (0 : Int32)], _, 0, 0) _
              refine k_c1 35 rfl rfl (if_pos (by decide)) ?_
              refine k_push 36 rfl rfl ?_
              exact k_fin rfl rfl ⟨_, _, _, _, rfl, I64, (fr1.up (by decide) (fr1.up (by decide) fr1.rf)), fr2.rf, ⟨nt_of p1 p2 p3 p4.1 (by omega), p5, p6, rfl, fun q _ => rfl⟩⟩
          · refine k_c1 16 rfl rfl (if_neg b62) ?_
            have b62 := mt iv_eq0.mpr b62
            refine k_aload 17 rfl rfl rfl ?_
            refine r_gI I17 20 rfl rfl rfl (fun x68 (e69 : x68.toInt = (0 : Int32).toInt) => ?_)
            by_cases b70 : x68 = 0
            · refine k_c1 23 rfl rfl (if_pos b70) ?_
              have b70 := iv_eq0.mp b70
              refine k_push 24 rfl rfl ?_
              refine k_goto 28 rfl rfl ?_
              refine k_fin rfl (fin_Z (Or.inr rfl)) ⟨_, _, rfl, rf_len I17 I17, ?_⟩
              show am_Ok _ _ _ (32, _, [.inl (1 : Int32)], _, 0, 0) _
              refine k_c1 37 rfl rfl (if_neg (by decide)) ?_
              refine k_push 38 rfl rfl ?_
              refine k_istore 39 rfl rfl ?_
              exact b_X10_run_39 (lm := lm) (gT := gT) (w1 := w1) (w2 := w2) p1 p2 p5 p6 p3 p4 _ (lm1 := lm) (T1 := gT) rfl (gs_ne rfl rfl rfl) (gs_ne rfl rfl rfl) (gs_ne rfl rfl rfl) gs_eq I17 (fr1.up (by decide) fr1.rf) fr2.rf (show 0 ≤ (0 : Int32).toInt ∧ (0 : Int32).toInt ≤ 60 ∧ w2.toInt ≤ 60 by omega) (show nn ((A0 24)) ((A0 25)) ((F0 28)) (gT) from p1) (show nw ((A0 24)) ((A0 25)) ((A0 26)) (lm) ((F0 28)) from p2) (show (F0 27) = cn ((A0 24)) ((F0 28)).toNat from p3) (show wr A0 from p5) (show wq A0 from p6) (show (A0 2) 2 = A0 2 2 from rfl) (show ∀ q : Int, 2600 ≤ q → (A0 1) q = A0 1 q from fun q _ => rfl) (show (F0 27) ≤ 400 ∧ (gT) ≤ gT + (0 : Int32).toInt by omega)
            · refine k_c1 27 rfl rfl (if_neg b70) ?_
              have b70 := mt iv_eq0.mpr b70
              refine k_push 28 rfl rfl ?_
              refine k_fin rfl (fin_Z (Or.inl rfl)) ⟨_, _, rfl, rf_len I17 I17, ?_⟩
              show am_Ok _ _ _ (32, _, [.inl (0 : Int32)], _, 0, 0) _
              refine k_c1 35 rfl rfl (if_pos (by decide)) ?_
              refine k_push 36 rfl rfl ?_
              exact k_fin rfl rfl ⟨_, _, _, _, rfl, I17, (fr1.up (by decide) fr1.rf), fr2.rf, ⟨nt_of p1 p2 p3 p4.1 (by omega), p5, p6, rfl, fun q _ => rfl⟩⟩
        · refine k_c2 10 rfl rfl (if_neg b59) ?_
          have b59 := mt iv_lt.mpr b59
          refine k_push 11 rfl rfl ?_
          refine k_goto 15 rfl rfl ?_
          refine k_fin rfl (fin_Z (Or.inr rfl)) ⟨_, _, rfl, rf_len I17 I17, ?_⟩
          show am_Ok _ _ _ (20, _, [.inl (1 : Int32), .inr (.inr (some 81))], _, 0, 0) _
          refine k_c1 23 rfl rfl (if_neg (by decide)) ?_
          refine k_push 24 rfl rfl ?_
          refine k_goto 28 rfl rfl ?_
          refine k_push 29 rfl rfl ?_
          refine k_in (d := 0) rfl rfl rfl rfl I17.rc ?_
          refine k_aload 1 rfl rfl rfl ?_
          refine r_gI I17 4 rfl rfl rfl (fun x71 (e72 : x71.toInt = (0 : Int32).toInt) => ?_)
          by_cases b73 : x71 = 0
          · refine k_c1 7 rfl rfl (if_pos b73) ?_
            have b73 := iv_eq0.mp b73
            refine k_iload 8 rfl rfl rfl ?_
            refine k_c1 16 rfl rfl (if_neg (by decide)) ?_
            refine k_aload 17 rfl rfl rfl ?_
            refine r_gI I17 20 rfl rfl rfl (fun x74 (e75 : x74.toInt = (0 : Int32).toInt) => ?_)
            by_cases b76 : x74 = 0
            · refine k_c1 23 rfl rfl (if_pos b76) ?_
              have b76 := iv_eq0.mp b76
              refine k_push 24 rfl rfl ?_
              refine k_goto 28 rfl rfl ?_
              refine k_fin rfl (fin_Z (Or.inr rfl)) ⟨_, _, rfl, rf_len I17 I17, ?_⟩
              show am_Ok _ _ _ (32, _, [.inl (1 : Int32)], _, 0, 0) _
              refine k_c1 37 rfl rfl (if_neg (by decide)) ?_
              refine k_push 38 rfl rfl ?_
              refine k_istore 39 rfl rfl ?_
              exact b_X10_run_39 (lm := lm) (gT := gT) (w1 := w1) (w2 := w2) p1 p2 p5 p6 p3 p4 _ (lm1 := lm) (T1 := gT) rfl (gs_ne rfl rfl rfl) (gs_ne rfl rfl rfl) (gs_ne rfl rfl rfl) gs_eq I17 (fr1.up (by decide) fr1.rf) fr2.rf (show 0 ≤ (0 : Int32).toInt ∧ (0 : Int32).toInt ≤ 60 ∧ w2.toInt ≤ 60 by omega) (show nn ((A0 24)) ((A0 25)) ((F0 28)) (gT) from p1) (show nw ((A0 24)) ((A0 25)) ((A0 26)) (lm) ((F0 28)) from p2) (show (F0 27) = cn ((A0 24)) ((F0 28)).toNat from p3) (show wr A0 from p5) (show wq A0 from p6) (show (A0 2) 2 = A0 2 2 from rfl) (show ∀ q : Int, 2600 ≤ q → (A0 1) q = A0 1 q from fun q _ => rfl) (show (F0 27) ≤ 400 ∧ (gT) ≤ gT + (0 : Int32).toInt by omega)
            · refine k_c1 27 rfl rfl (if_neg b76) ?_
              have b76 := mt iv_eq0.mpr b76
              refine k_push 28 rfl rfl ?_
              refine k_fin rfl (fin_Z (Or.inl rfl)) ⟨_, _, rfl, rf_len I17 I17, ?_⟩
              show am_Ok _ _ _ (32, _, [.inl (0 : Int32)], _, 0, 0) _
              refine k_c1 35 rfl rfl (if_pos (by decide)) ?_
              refine k_push 36 rfl rfl ?_
              exact k_fin rfl rfl ⟨_, _, _, _, rfl, I17, (fr1.up (by decide) fr1.rf), fr2.rf, ⟨nt_of p1 p2 p3 p4.1 (by omega), p5, p6, rfl, fun q _ => rfl⟩⟩
          · refine k_c1 16 rfl rfl (if_neg b73) ?_
            have b73 := mt iv_eq0.mpr b73
            refine k_aload 17 rfl rfl rfl ?_
            refine r_gI I17 20 rfl rfl rfl (fun x77 (e78 : x77.toInt = (0 : Int32).toInt) => ?_)
            by_cases b79 : x77 = 0
            · refine k_c1 23 rfl rfl (if_pos b79) ?_
              have b79 := iv_eq0.mp b79
              refine k_push 24 rfl rfl ?_
              refine k_goto 28 rfl rfl ?_
              refine k_fin rfl (fin_Z (Or.inr rfl)) ⟨_, _, rfl, rf_len I17 I17, ?_⟩
              show am_Ok _ _ _ (32, _, [.inl (1 : Int32)], _, 0, 0) _
              refine k_c1 37 rfl rfl (if_neg (by decide)) ?_
              refine k_push 38 rfl rfl ?_
              refine k_istore 39 rfl rfl ?_
              exact b_X10_run_39 (lm := lm) (gT := gT) (w1 := w1) (w2 := w2) p1 p2 p5 p6 p3 p4 _ (lm1 := lm) (T1 := gT) rfl (gs_ne rfl rfl rfl) (gs_ne rfl rfl rfl) (gs_ne rfl rfl rfl) gs_eq I17 (fr1.up (by decide) fr1.rf) fr2.rf (show 0 ≤ (0 : Int32).toInt ∧ (0 : Int32).toInt ≤ 60 ∧ w2.toInt ≤ 60 by omega) (show nn ((A0 24)) ((A0 25)) ((F0 28)) (gT) from p1) (show nw ((A0 24)) ((A0 25)) ((A0 26)) (lm) ((F0 28)) from p2) (show (F0 27) = cn ((A0 24)) ((F0 28)).toNat from p3) (show wr A0 from p5) (show wq A0 from p6) (show (A0 2) 2 = A0 2 2 from rfl) (show ∀ q : Int, 2600 ≤ q → (A0 1) q = A0 1 q from fun q _ => rfl) (show (F0 27) ≤ 400 ∧ (gT) ≤ gT + (0 : Int32).toInt by omega)
            · refine k_c1 27 rfl rfl (if_neg b79) ?_
              have b79 := mt iv_eq0.mpr b79
              refine k_push 28 rfl rfl ?_
              refine k_fin rfl (fin_Z (Or.inl rfl)) ⟨_, _, rfl, rf_len I17 I17, ?_⟩
              show am_Ok _ _ _ (32, _, [.inl (0 : Int32)], _, 0, 0) _
              refine k_c1 35 rfl rfl (if_pos (by decide)) ?_
              refine k_push 36 rfl rfl ?_
              exact k_fin rfl rfl ⟨_, _, _, _, rfl, I17, (fr1.up (by decide) fr1.rf), fr2.rf, ⟨nt_of p1 p2 p3 p4.1 (by omega), p5, p6, rfl, fun q _ => rfl⟩⟩
end
