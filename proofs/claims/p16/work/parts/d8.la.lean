/-! rows hold numbers of the machine -/
theorem xI.rng {B c s i : Nat} {h h0 : am_h} {F : rf_f} {A : xl_A} {q : Int} (hI : xI h0 B h c s F A) (hi : ob 3 i ∨ ob 11 i) : -2147483648 ≤ gl (A i) q ∧ gl (A i) q < 2147483648 := by
  obtain ⟨mo, z, a, xs, e1, e2, e3, e4, e5, e6, e7, eL⟩ := hI.lst hi
  rw [eL, gl_li]
  split
  · exact ⟨iv_lo _, iv_hi _⟩
  · exact ⟨by decide, by decide⟩
theorem clF_56 {F : rf_f} {A : xl_A} {n : Nat} (h : n < 5604) : (p_X1_clear_56 F A).2.1 n = F n := by
  show up1 (up1 (up1 (up1 F 5604 0) 5605 0) 5606 0) 5607 0 n = F n
  rw [up1_ne (by omega), up1_ne (by omega), up1_ne (by omega), up1_ne (by omega)]
theorem clA_56 {F : rf_f} {A : xl_A} {k : Nat} (h : k ≠ 57) : (p_X1_clear_56 F A).2.2 k = A k := by
  show upl A 57 (List.replicate (402 : Int).toNat (-1)) k = A k
  rw [upl_ne h]
theorem clF_65 {F : rf_f} {A : xl_A} {n : Nat} (h : n < 6504) : (p_X1_clear_65 F A).2.1 n = F n := by
  show up1 (up1 (up1 (up1 F 6504 0) 6505 0) 6506 0) 6507 0 n = F n
  rw [up1_ne (by omega), up1_ne (by omega), up1_ne (by omega), up1_ne (by omega)]
theorem clA_65 {F : rf_f} {A : xl_A} {k : Nat} (h : k ≠ 66) : (p_X1_clear_65 F A).2.2 k = A k := by
  show upl A 66 (List.replicate (402 : Int).toNat (-1)) k = A k
  rw [upl_ne h]
section
theorem yl_X0_lay_56_47 {h0 : am_h} {F0 : rf_f} {A0 : xl_A}   (hnn : ∀ q : Int, 0 ≤ gl (A0 48) q) (hlen : (A0 48).length ≤ 120) : ∀ (n : Nat) {lv : am_l} {h : am_h} {c s : Nat} {u3 : Int32} {v3 : Int} {Fv : rf_f} {Av : xl_A}, ((121 - v3).toNat) = n → am_get lv 0 = some (.inr (.inr (some 74))) → am_get lv 1 = some (.inr (.inr (some 48))) → am_get lv 2 = some (.inr (.inr (some 56))) → am_get lv 3 = some (.inl u3) → u3.toInt = v3 → xI h0 (ob_P h0) h c s Fv Av → am_okL h.length lv = true → (0 ≤ v3 ∧ v3 ≤ ((A0 48).length : Int)) → (∃ S9 : lST, LYv (Fv 7403) 56 (Fv 5605) (Fv 5607) (Av 57) (Av 75) (Av 77) (Av 79) (S9) ∧ (rnl (gl (A0 48)) ((A0 48).length - v3.toNat) v3 S9).2.2.2 = lmt (A0 48) ∧ lBD v3.toNat S9 ∧ WF0 S9.2.1 S9.2.2.1) → (fL9 F0 Fv ∧ aL9 A0 Av) → am_Ok am_G 4 1 (47, lv, [], h, c, s) (xQ h0 (fun x F' A' => ((x : Int) = 0 ∨ (x : Int) = 1) ∧ ((lmt (A0 48) ≤ 400 ∧ (x : Int) = 1) ∨ (400 < lmt (A0 48) ∧ (x : Int) = 0)) ∧ fL9 F0 F' ∧ aL9 A0 A')) := by
  intro n
  induction n using Nat.strongRecOn with
  | ind n ih =>
    intro lv h c s u3 v3  Fv Av hm g0 g1 g2 g3 hv3 hI hL i1 i2 i3
    obtain ⟨S9, j1, j2, j3, j4⟩ := i2
    have f3 : Fv 7403 = 56 := j1.1
    have aa48 : Av 48 = A0 48 := i3.2 48 (by decide)
    have ll48 : (Av 48).length = (A0 48).length := by rw [aa48]
    have ee79 : Av 79 = S9.2.2.1 := j1.2.2.2.2
    have ll79 : (Av 79).length = S9.2.2.1.length := by rw [ee79]
    have jj3b := j3
    obtain ⟨k1, k2, k3⟩ := jj3b
    have kkv := j1.2.1.ov
    refine k_iload 48 rfl g3 rfl ?_
    refine k_aload 49 rfl g1 rfl ?_
    refine k_xq hI rfl (xv_size hI.1 or48) rfl rfl rfl (ty_H.rc3 hI.T or48) hL (so_i so_n) ?_
    rintro x1 h2 c3 s4 F5 A6 I7 L8 ⟨e9, k10, k11⟩
    replace k10 := k10.symm
    subst k10
    replace k11 := k11.symm
    subst k11
    show am_Ok _ _ _ (52, _, [.inl x1, .inl u3], _, c3, s4) _
    by_cases b12 : x1 ≤ u3
    · refine k_c2 141 rfl rfl (if_pos b12) ?_
      have b12 : (((Av 48).length : Nat) : Int) ≤ v3 := by have h9 := iv_le.mp b12; rw [hv3] at h9; rw [e9] at h9; exact h9
      refine k_aload 142 rfl g2 rfl ?_
      refine k_xq I7 rfl (n_X1_isOverfull_56    I7.1) rfl rfl rfl (I7.T.rc oc56 rfl) L8 so_n ?_
      rintro x13 h14 c15 s16 F17 A18 I19 L20 ⟨z21, e22, k23, k24⟩
      replace k23 : F17 = Fv := k23
      replace k24 : A18 = Av := k24
      replace e22 : x13.toInt = Fv 5607 := e22
      have z25 := iv_01 (x := x13) z21
      replace k23 := k23.symm
      subst k23
      replace k24 := k24.symm
      subst k24
      show am_Ok _ _ _ (145, _, [.inl x13], _, c15, s16) _
      by_cases b26 : x13 = 0
      · refine k_c1 148 rfl rfl (if_pos b26) ?_
        have b26 : Fv 5607 = 0 := by have h9 := iv_eq0.mp b26; rw [e22] at h9; exact h9
        refine k_push 149 rfl rfl ?_
        have hc27 : (1 : Int32).toInt = 1 := by decide
        refine k_goto 153 rfl rfl ?_
        exact k_fin rfl (fin_Z (Or.inr rfl)) ⟨_, _, _, _, _, _, rfl, I19, (by (try rw [hc27]); show ((1 : Int) = 0 ∨ (1 : Int) = 1) ∧ ((lmt (A0 48) ≤ 400 ∧ (1 : Int) = 1) ∨ (400 < lmt (A0 48) ∧ (1 : Int) = 0)) ∧ fL9 F0 Fv ∧ aL9 A0 Av; have h9 := rnl_z (t := gl (A0 48)) (S := S9) (show ((A0 48).length : Int) ≤ v3 by omega); rw [h9] at j2; exact ⟨Or.inr rfl, Or.inl ⟨by omega, rfl⟩, i3⟩)⟩
      · refine k_c1 152 rfl rfl (if_neg b26) ?_
        have b26 : ¬ (Fv 5607 = 0) := by have h9 := mt iv_eq0.mpr b26; rw [e22] at h9; exact h9
        refine k_push 153 rfl rfl ?_
        have hc28 : (0 : Int32).toInt = 0 := by decide
        exact k_fin rfl (fin_Z (Or.inl rfl)) ⟨_, _, _, _, _, _, rfl, I19, (by (try rw [hc28]); show ((0 : Int) = 0 ∨ (0 : Int) = 1) ∧ ((lmt (A0 48) ≤ 400 ∧ (0 : Int) = 1) ∨ (400 < lmt (A0 48) ∧ (0 : Int) = 0)) ∧ fL9 F0 Fv ∧ aL9 A0 Av; have h9 := rnl_z (t := gl (A0 48)) (S := S9) (show ((A0 48).length : Int) ≤ v3 by omega); rw [h9] at j2; exact ⟨Or.inl rfl, Or.inr ⟨by omega, rfl⟩, i3⟩)⟩
    · refine k_c2 55 rfl rfl (if_neg b12) ?_
      have b12 : ¬ ((((Av 48).length : Nat) : Int) ≤ v3) := by have h9 := mt iv_le.mpr b12; rw [hv3] at h9; rw [e9] at h9; exact h9
      refine k_aload 56 rfl g2 rfl ?_
      refine k_xq I7 rfl (n_X1_isOverfull_56    I7.1) rfl rfl rfl (I7.T.rc oc56 rfl) L8 so_n ?_
      rintro x29 h30 c31 s32 F33 A34 I35 L36 ⟨z37, e38, k39, k40⟩
      replace k39 : F33 = Fv := k39
      replace k40 : A34 = Av := k40
      replace e38 : x29.toInt = Fv 5607 := e38
      have z41 := iv_01 (x := x29) z37
      replace k39 := k39.symm
      subst k39
      replace k40 := k40.symm
      subst k40
      show am_Ok _ _ _ (59, _, [.inl x29], _, c31, s32) _
      by_cases b42 : x29 = 0
      · refine k_c1 62 rfl rfl (if_pos b42) ?_
        have b42 : Fv 5607 = 0 := by have h9 := iv_eq0.mp b42; rw [e38] at h9; exact h9
        refine k_aload 63 rfl g1 rfl ?_
        refine k_iload 64 rfl g3 rfl ?_
        refine k_xq I35 rfl (y_get hv3 I35.1 or48) rfl rfl rfl (ty_H.rc3 I35.T or48) L36 so_n ?_
        rintro x43 h44 c45 s46 F47 A48 I49 L50 ⟨e51, k52, k53⟩
        replace k52 := k52.symm
        subst k52
        replace k53 := k53.symm
        subst k53
        show am_Ok _ _ _ (67, _, [.inl x43], _, c45, s46) _
        have ss9 : gl (Av 48) (v3) = gl (A0 48) v3 := by rw [aa48]
        have rr9 := hnn v3
        have rr8 := I49.rng or48 (q := v3)
        refine k_istore 69 rfl rfl ?_
        refine k_iload 71 rfl gs_eq rfl ?_
        by_cases b54 : x43 = 0
        · refine k_c1 74 rfl rfl (if_pos b54) ?_
          have b54 : gl (Av 48) (v3) = 0 := by have h9 := iv_eq0.mp b54; rw [e51] at h9; exact h9
          refine k_aload 75 rfl (gs_ne rfl rfl g0) rfl ?_
          refine k_push 76 rfl rfl ?_
          have hc55 : (2 : Int32).toInt = 2 := by decide
          refine k_iload 77 rfl (gs_ne rfl rfl g3) rfl ?_
          refine k_push 78 rfl rfl ?_
          have hc56 : (0 : Int32).toInt = 0 := by decide
          refine k_xv I49 rfl (n_X0_beginFrame_56 hc55 hv3 hc56  (S9) (by exact j1) (by omega) I49.1) rfl rfl rfl (I49.T.rc oc74 rfl) (okL_set (i := 4) (v := .inl x43) rfl L50) so_n ?_
          rintro h58 c59 s60 F61 A62 I63 L64 e65
          show am_Ok _ _ _ (81, _, [], _, c59, s60) _
          refine k_goto 135 rfl rfl ?_
          have hc66 : (1 : Int32).toInt = 1 := by decide
          obtain ⟨x67, q68⟩ : ∃ q : Int32, q = u3 + (1 : Int32) := ⟨_, rfl⟩
          have e69 : x67.toInt = (v3 + 1) := bx_add q68 hv3 hc66 (by omega) (by omega)
          refine k_iinc x67 138 rfl (gs_ne rfl rfl g3) q68.symm rfl ?_
          refine k_goto 47 rfl rfl ?_
          exact ih _ (by omega)  (Fv := F61) (Av := A62) (v3 := (v3 + 1)) rfl (gs_ne rfl rfl (gs_ne rfl rfl g0)) (gs_ne rfl rfl (gs_ne rfl rfl g1)) (gs_ne rfl rfl (gs_ne rfl rfl g2)) gs_eq e69 I63 (okL_set (i := 3) (v := .inl x67) rfl L64) (by omega) (⟨wkl (gl (A0 48) v3) v3 S9, by (rw [wkl_0 (ss9.symm.trans b54)]; exact e65.1), by (rw [← rnl_n (by omega) (by omega)]; exact j2), by (rw [show (v3 + 1).toNat = v3.toNat + 1 by omega]; exact wk_b j3), j4.wkk⟩) (⟨i3.1.tr e65.2.1, i3.2.tr e65.2.2⟩)
        · refine k_c1 84 rfl rfl (if_neg b54) ?_
          have b54 : ¬ (gl (Av 48) (v3) = 0) := by have h9 := mt iv_eq0.mpr b54; rw [e51] at h9; exact h9
          refine k_iload 86 rfl gs_eq rfl ?_
          refine k_push 87 rfl rfl ?_
          have hc70 : (1 : Int32).toInt = 1 := by decide
          by_cases b71 : x43 = (1 : Int32)
          · refine k_c2 90 rfl rfl (if_pos b71) ?_
            have b71 : gl (Av 48) (v3) = 1 := by have h9 := iv_eq.mp b71; rw [e51] at h9; rw [hc70] at h9; exact h9
            refine k_aload 91 rfl (gs_ne rfl rfl g0) rfl ?_
            refine k_push 92 rfl rfl ?_
            refine k_iload 93 rfl (gs_ne rfl rfl g3) rfl ?_
            refine k_push 94 rfl rfl ?_
            have hc72 : (-1 : Int32).toInt = -1 := by decide
            refine k_xv I49 rfl (n_X0_beginFrame_56 hc70 hv3 hc72  (S9) (by exact j1) (by omega) I49.1) rfl rfl rfl (I49.T.rc oc74 rfl) (okL_set (i := 4) (v := .inl x43) rfl L50) so_n ?_
            rintro h74 c75 s76 F77 A78 I79 L80 e81
            show am_Ok _ _ _ (97, _, [], _, c75, s76) _
            refine k_aload 98 rfl (gs_ne rfl rfl g0) rfl ?_
            refine x_gF 79 I79 101 rfl rfl (by decide) rfl ?_
            refine k_push 102 rfl rfl ?_
            refine k_xq I79 rfl (y_add hc72 I79.1 or79) rfl rfl rfl (ty_H.rc3 I79.T or79) L80 so_n ?_
            rintro x82 h83 c84 s85 F86 A87 I88 L89 ⟨e90, k91, k92⟩
            replace k91 := k91.symm
            subst k91
            replace k92 := k92.symm
            subst k92
            have z93 := iv_01 (x := x82) (by rw [e90]; exact (addr_01))
            show am_Ok _ _ _ (105, _, [.inl x82], _, c84, s85) _
            refine k_pop 106 rfl rfl rfl ?_
            have hh79 : addl 79 A78 (-1) 79 = A78 79 ++ [-1] := addl_eq (by rw [mo79, e81.1.2.2.2.2]; show ((S9.2.2.1.length : Nat) : Int) < 120; omega)
            refine k_goto 135 rfl rfl ?_
            obtain ⟨x94, q95⟩ : ∃ q : Int32, q = u3 + (1 : Int32) := ⟨_, rfl⟩
            have e96 : x94.toInt = (v3 + 1) := bx_add q95 hv3 hc70 (by omega) (by omega)
            refine k_iinc x94 138 rfl (gs_ne rfl rfl g3) q95.symm rfl ?_
            refine k_goto 47 rfl rfl ?_
            exact ih _ (by omega)  (Fv := F77) (Av := (addl 79 A78 ((-1)))) (v3 := (v3 + 1)) rfl (gs_ne rfl rfl (gs_ne rfl rfl g0)) (gs_ne rfl rfl (gs_ne rfl rfl g1)) (gs_ne rfl rfl (gs_ne rfl rfl g2)) gs_eq e96 I88 (okL_set (i := 3) (v := .inl x94) rfl L89) (by omega) (⟨wkl (gl (A0 48) v3) v3 S9, by (rw [addl_ne (show 57 ≠ 79 by decide), addl_ne (show 75 ≠ 79 by decide), addl_ne (show 77 ≠ 79 by decide), wkl_1 (ss9.symm.trans b71)]; have h9 := e81.1.neg; rw [← hh79] at h9; exact h9), by (rw [← rnl_n (by omega) (by omega)]; exact j2), by (rw [show (v3 + 1).toNat = v3.toNat + 1 by omega]; exact wk_b j3), j4.wkk⟩) (⟨i3.1.tr e81.2.1, i3.2.tr (fun k hk => (addl_ne (by omega)).trans (e81.2.2 k hk))⟩)
          · refine k_c2 109 rfl rfl (if_neg b71) ?_
            have b71 : ¬ (gl (Av 48) (v3) = 1) := by have h9 := mt iv_eq.mpr b71; rw [e51] at h9; rw [hc70] at h9; exact h9
            refine k_aload 110 rfl (gs_ne rfl rfl g0) rfl ?_
            refine k_aload 111 rfl (gs_ne rfl rfl g0) rfl ?_
            refine k_aload 112 rfl (gs_ne rfl rfl g0) rfl ?_
            refine x_gF 79 I49 115 rfl rfl (by decide) rfl ?_
            refine k_xq I49 rfl (xv_size I49.1 or79) rfl rfl rfl (ty_H.rc3 I49.T or79) (okL_set (i := 4) (v := .inl x43) rfl L50) (xo_r I49 oc74 (xo_r I49 oc74 so_n)) ?_
            rintro x97 h98 c99 s100 F101 A102 I103 L104 ⟨e105, k106, k107⟩
            replace k106 := k106.symm
            subst k106
            replace k107 := k107.symm
            subst k107
            show am_Ok _ _ _ (118, _, [.inl x97, .inr (.inr (some 74)), .inr (.inr (some 74))], _, c99, s100) _
            refine k_push 119 rfl rfl ?_
            obtain ⟨x108, q109⟩ : ∃ q : Int32, q = x97 - (1 : Int32) := ⟨_, rfl⟩
            have e110 : x108.toInt = ((((Av 79).length : Nat) : Int) - 1) := bx_sub q109 e105 hc70 (by omega) (by omega)
            refine k_bin x108 120 rfl q109.symm rfl ?_
            refine k_iload 122 rfl gs_eq rfl ?_
            refine k_push 123 rfl rfl ?_
            have hc111 : (2 : Int32).toInt = 2 := by decide
            obtain ⟨x112, q113⟩ : ∃ q : Int32, q = x43 - (2 : Int32) := ⟨_, rfl⟩
            have e114 : x112.toInt = (gl (Av 48) (v3) - 2) := bx_sub q113 e51 hc111 (by omega) (by omega)
            refine k_bin x112 124 rfl q113.symm rfl ?_
            obtain ⟨x115, q116⟩ : ∃ q : Int32, q = x108 - x112 := ⟨_, rfl⟩
            have e117 : x115.toInt = (((((Av 79).length : Nat) : Int) - 1) - (gl (Av 48) (v3) - 2)) := bx_sub q116 e110 e114 (by omega) (by omega)
            refine k_bin x115 125 rfl q116.symm rfl ?_
            refine k_iload 126 rfl (gs_ne rfl rfl g3) rfl ?_
            refine k_xq I103 rfl (n_X0_layVariable_56 e117 hv3  (S9) (by exact j1) (by omega) I103.1) rfl rfl rfl (I103.T.rc oc74 rfl) L104 (xo_r I103 oc74 so_n) ?_
            rintro x118 h119 c120 s121 F122 A123 I124 L125 e126
            obtain ⟨n127, q128⟩ : ∃ n : Int, x118.toInt = n := ⟨_, rfl⟩
            try rw [q128] at e126
            show am_Ok _ _ _ (129, _, [.inl x118, .inr (.inr (some 74))], _, c120, s121) _
            refine k_iload 130 rfl (gs_ne rfl rfl g3) rfl ?_
            refine k_push 131 rfl rfl ?_
            obtain ⟨x129, q130⟩ : ∃ q : Int32, q = u3 + (1 : Int32) := ⟨_, rfl⟩
            have e131 : x129.toInt = (v3 + 1) := bx_add q130 hv3 hc70 (by omega) (by omega)
            refine k_bin x129 132 rfl q130.symm rfl ?_
            refine k_xv I124 rfl (n_X0_finish_56 q128 e131  ((S9.1, S9.2.1 ++ [(v3, gl S9.2.2.1 (((((Av 79).length : Nat) : Int) - 1) - (gl (Av 48) (v3) - 2)))], ssl S9.2.2.1 (((((Av 79).length : Nat) : Int) - 1) - (gl (Av 48) (v3) - 2)) (S9.2.1.length : Int), S9.2.2.2 + 1)) (by exact e126.1) (by exact j4.var) (by (refine ⟨?_, ?_, ?_⟩; (show S9.1.length ≤ 120; omega); (show (S9.2.1 ++ [_]).length ≤ 120; rw [List.length_append]; show S9.2.1.length + 1 ≤ 120; omega); (show (ssl S9.2.2.1 _ _).length ≤ 120; rw [ssl_len]; omega))) I124.1) rfl rfl rfl (I124.T.rc oc74 rfl) L125 so_n ?_
            rintro h133 c134 s135 F136 A137 I138 L139 e140
            show am_Ok _ _ _ (135, _, [], _, c134, s135) _
            obtain ⟨x141, q142⟩ : ∃ q : Int32, q = u3 + (1 : Int32) := ⟨_, rfl⟩
            have e143 : x141.toInt = (v3 + 1) := bx_add q142 hv3 hc70 (by omega) (by omega)
            refine k_iinc x141 138 rfl (gs_ne rfl rfl g3) q142.symm rfl ?_
            refine k_goto 47 rfl rfl ?_
            exact ih _ (by omega)  (Fv := F136) (Av := A137) (v3 := (v3 + 1)) rfl (gs_ne rfl rfl (gs_ne rfl rfl g0)) (gs_ne rfl rfl (gs_ne rfl rfl g1)) (gs_ne rfl rfl (gs_ne rfl rfl g2)) gs_eq e143 I138 (okL_set (i := 3) (v := .inl x141) rfl L139) (by omega) (⟨wkl (gl (A0 48) v3) v3 S9, by (rw [wkl_2 (by rw [← ss9]; exact b54) (by rw [← ss9]; exact b71)]; have h9 := e140.1; rw [ee79, ss9] at h9; exact h9), by (rw [← rnl_n (by omega) (by omega)]; exact j2), by (rw [show (v3 + 1).toNat = v3.toNat + 1 by omega]; exact wk_b j3), j4.wkk⟩) (⟨(i3.1.tr e126.2.1).tr e140.2.1, (i3.2.tr e126.2.2).tr e140.2.2⟩)
      · refine k_c1 141 rfl rfl (if_neg b42) ?_
        have b42 : ¬ (Fv 5607 = 0) := by have h9 := mt iv_eq0.mpr b42; rw [e38] at h9; exact h9
        refine k_aload 142 rfl g2 rfl ?_
        refine k_xq I35 rfl (n_X1_isOverfull_56    I35.1) rfl rfl rfl (I35.T.rc oc56 rfl) L36 so_n ?_
        rintro x144 h145 c146 s147 F148 A149 I150 L151 ⟨z152, e153, k154, k155⟩
        replace k154 : F148 = Fv := k154
        replace k155 : A149 = Av := k155
        replace e153 : x144.toInt = Fv 5607 := e153
        have z156 := iv_01 (x := x144) z152
        replace k154 := k154.symm
        subst k154
        replace k155 := k155.symm
        subst k155
        show am_Ok _ _ _ (145, _, [.inl x144], _, c146, s147) _
        by_cases b157 : x144 = 0
        · refine k_c1 148 rfl rfl (if_pos b157) ?_
          have b157 : Fv 5607 = 0 := by have h9 := iv_eq0.mp b157; rw [e153] at h9; exact h9
          refine k_push 149 rfl rfl ?_
          have hc158 : (1 : Int32).toInt = 1 := by decide
          refine k_goto 153 rfl rfl ?_
          exact k_fin rfl (fin_Z (Or.inr rfl)) ⟨_, _, _, _, _, _, rfl, I150, (by (try rw [hc158]); show ((1 : Int) = 0 ∨ (1 : Int) = 1) ∧ ((lmt (A0 48) ≤ 400 ∧ (1 : Int) = 1) ∨ (400 < lmt (A0 48) ∧ (1 : Int) = 0)) ∧ fL9 F0 Fv ∧ aL9 A0 Av; exact absurd b157 b42)⟩
        · refine k_c1 152 rfl rfl (if_neg b157) ?_
          have b157 : ¬ (Fv 5607 = 0) := by have h9 := mt iv_eq0.mpr b157; rw [e153] at h9; exact h9
          refine k_push 153 rfl rfl ?_
          have hc159 : (0 : Int32).toInt = 0 := by decide
          exact k_fin rfl (fin_Z (Or.inl rfl)) ⟨_, _, _, _, _, _, rfl, I150, (by (try rw [hc159]); show ((0 : Int) = 0 ∨ (0 : Int) = 1) ∧ ((lmt (A0 48) ≤ 400 ∧ (0 : Int) = 1) ∨ (400 < lmt (A0 48) ∧ (0 : Int) = 0)) ∧ fL9 F0 Fv ∧ aL9 A0 Av; have h9 := rn_m (t := gl (A0 48)) (k := (A0 48).length - v3.toNat) (i := v3) (S := S9); rw [j2] at h9; exact ⟨Or.inl rfl, Or.inr ⟨by omega, rfl⟩, i3⟩)⟩
theorem n_X0_lay_56 {h0 : am_h} {F0 : rf_f} {A0 : xl_A}   (hnn : ∀ q : Int, 0 ≤ gl (A0 48) q) (hlen : (A0 48).length ≤ 120) (hR : xR h0 F0 A0) : am_Mt 5 1 [.inr (.inr (some 74)), .inr (.inr (some 48)), .inr (.inr (some 56))] h0 (xQ h0 (fun x F' A' => ((x : Int) = 0 ∨ (x : Int) = 1) ∧ ((lmt (A0 48) ≤ 400 ∧ (x : Int) = 1) ∨ (400 < lmt (A0 48) ∧ (x : Int) = 0)) ∧ fL9 F0 F' ∧ aL9 A0 A')) := by
  refine am_Mt.of (D := 4) ?_
  have hI : xI h0 (ob_P h0) h0 0 0 F0 A0 := xI.start hR
  have hL : am_okL h0.length (am_args 0 [.inr (.inr (some 74)), .inr (.inr (some 48)), .inr (.inr (some 56))]) = true := (okA_r hI.T oc74 (okA_r hI.T ol48 (okA_r hI.T oc56 okA_n)))
  refine k_aload 1 rfl rfl rfl ?_
  refine k_xv hI rfl (n_X1_clear_56    hI.1) rfl rfl rfl (hI.T.rc oc56 rfl) hL so_n ?_
  rintro h161 c162 s163 F164 A165 I166 L167 ⟨k169, k170⟩
  replace k169 := k169.symm
  subst k169
  replace k170 := k170.symm
  subst k170
  show am_Ok _ _ _ (4, _, [], _, c162, s163) _
  refine k_aload 5 rfl rfl rfl ?_
  refine k_aload 6 rfl rfl rfl ?_
  refine x_pO (τ := 1) (fx_ok := fx_no rfl) I166 9 rfl oc74 rfl rfl rfl oc56 rfl (fun h171 I172 l173 => ?_)
  have L174 := okL_eq l173 L167
  refine k_aload 10 rfl rfl rfl ?_
  refine k_push 11 rfl rfl ?_
  have hc175 : (0 : Int32).toInt = 0 := by decide
  refine x_pI (fx_ok := fx_no rfl) I172 14 rfl oc74 rfl rfl rfl rfl (fun h176 I177 l178 => ?_)
  have L179 := okL_eq l178 L174
  have I180 : xI h0 (ob_P h0) h176 c162 s163 (up1 ((up1 ((p_X1_clear_56 F0 A0).2.1) 7403 ((56 : Nat) : Int))) 7404 (0)) (p_X1_clear_56 F0 A0).2.2 := by have h9 := I177; rw [hc175] at h9; exact h9
  refine k_aload 15 rfl rfl rfl ?_
  refine x_gF 75 I180 18 rfl rfl (by decide) rfl ?_
  refine k_push 19 rfl rfl ?_
  refine k_xv I180 rfl (y_cut hc175 I180.1 or75) rfl rfl rfl (ty_H.rc3 I180.T or75) L179 so_n ?_
  rintro h182 c183 s184 F185 A186 I187 L188 ⟨k190, k191⟩
  replace k190 := k190.symm
  subst k190
  replace k191 := k191.symm
  subst k191
  show am_Ok _ _ _ (22, _, [], _, c183, s184) _
  refine k_aload 23 rfl rfl rfl ?_
  refine x_gF 77 I187 26 rfl rfl (by decide) rfl ?_
  refine k_push 27 rfl rfl ?_
  refine k_xv I187 rfl (y_cut hc175 I187.1 or77) rfl rfl rfl (ty_H.rc3 I187.T or77) L188 so_n ?_
  rintro h193 c194 s195 F196 A197 I198 L199 ⟨k201, k202⟩
  replace k201 := k201.symm
  subst k201
  replace k202 := k202.symm
  subst k202
  show am_Ok _ _ _ (30, _, [], _, c194, s195) _
  refine k_aload 31 rfl rfl rfl ?_
  refine x_gF 79 I198 34 rfl rfl (by decide) rfl ?_
  refine k_push 35 rfl rfl ?_
  refine k_xv I198 rfl (y_cut hc175 I198.1 or79) rfl rfl rfl (ty_H.rc3 I198.T or79) L199 so_n ?_
  rintro h204 c205 s206 F207 A208 I209 L210 ⟨k212, k213⟩
  replace k212 := k212.symm
  subst k212
  replace k213 := k213.symm
  subst k213
  show am_Ok _ _ _ (38, _, [], _, c205, s206) _
  refine k_aload 39 rfl rfl rfl ?_
  refine k_push 40 rfl rfl ?_
  refine k_push 41 rfl rfl ?_
  refine k_xq I209 rfl (n_X1_make_56 hc175 hc175  (0) (by exact (NWv.z (K := List.replicate 402 (-1)) (fun j j0 j1 => gl_rep j0 (by omega)))) I209.1) rfl rfl rfl (I209.T.rc oc56 rfl) L210 so_n ?_
  rintro x214 h215 c216 s217 F218 A219 I220 L221 e222
  obtain ⟨n223, q224⟩ : ∃ n : Int, x214.toInt = n := ⟨_, rfl⟩
  try rw [q224] at e222
  show am_Ok _ _ _ (44, _, [.inl x214], _, c216, s217) _
  obtain ⟨ww1, ww2, ww3⟩ := e222
  refine k_pop 45 rfl rfl rfl ?_
  refine k_push 46 rfl rfl ?_
  refine k_istore 47 rfl rfl ?_
  exact yl_X0_lay_56_47   hnn hlen _  (Fv := F218) (Av := A219) (v3 := 0) rfl (gs_ne rfl rfl rfl) (gs_ne rfl rfl rfl) (gs_ne rfl rfl rfl) gs_eq hc175 I220 (okL_set (i := 3) (v := .inl (0 : Int32)) rfl L221) (by omega) (⟨([], [], [], 1), ⟨ww2 7403 (Or.inr (by omega)), ww1, ww3 75 (by decide) (by decide), ENM.z (ww3 77 (by decide) (by decide)), ww3 79 (by decide) (by decide)⟩, rfl, ⟨Nat.le_refl _, Nat.le_refl _, Nat.le_refl _⟩, WF0.z⟩) (⟨fun n hn => (ww2 n (Or.inl (by omega))).trans ((up1_ne (by omega)).trans ((up1_ne (by omega)).trans (clF_56 (by omega)))), fun k hk => (ww3 k (by omega) (by omega)).trans ((upl_ne (by omega)).trans ((upl_ne (by omega)).trans ((upl_ne (by omega)).trans (clA_56 (by omega)))))⟩)
end
section
theorem yl_X0_lay_65_47 {h0 : am_h} {F0 : rf_f} {A0 : xl_A}   (hnn : ∀ q : Int, 0 ≤ gl (A0 48) q) (hlen : (A0 48).length ≤ 120) : ∀ (n : Nat) {lv : am_l} {h : am_h} {c s : Nat} {u3 : Int32} {v3 : Int} {Fv : rf_f} {Av : xl_A}, ((121 - v3).toNat) = n → am_get lv 0 = some (.inr (.inr (some 74))) → am_get lv 1 = some (.inr (.inr (some 48))) → am_get lv 2 = some (.inr (.inr (some 65))) → am_get lv 3 = some (.inl u3) → u3.toInt = v3 → xI h0 (ob_P h0) h c s Fv Av → am_okL h.length lv = true → (0 ≤ v3 ∧ v3 ≤ ((A0 48).length : Int)) → (∃ S9 : lST, LYv (Fv 7403) 65 (Fv 6505) (Fv 6507) (Av 66) (Av 75) (Av 77) (Av 79) (S9) ∧ (rnl (gl (A0 48)) ((A0 48).length - v3.toNat) v3 S9).2.2.2 = lmt (A0 48) ∧ lBD v3.toNat S9 ∧ WF0 S9.2.1 S9.2.2.1) → (fL9 F0 Fv ∧ aL9 A0 Av) → am_Ok am_G 4 1 (47, lv, [], h, c, s) (xQ h0 (fun x F' A' => ((x : Int) = 0 ∨ (x : Int) = 1) ∧ ((lmt (A0 48) ≤ 400 ∧ (x : Int) = 1) ∨ (400 < lmt (A0 48) ∧ (x : Int) = 0)) ∧ fL9 F0 F' ∧ aL9 A0 A')) := by
  intro n
  induction n using Nat.strongRecOn with
  | ind n ih =>
    intro lv h c s u3 v3  Fv Av hm g0 g1 g2 g3 hv3 hI hL i1 i2 i3
    obtain ⟨S9, j1, j2, j3, j4⟩ := i2
    have f3 : Fv 7403 = 65 := j1.1
    have aa48 : Av 48 = A0 48 := i3.2 48 (by decide)
    have ll48 : (Av 48).length = (A0 48).length := by rw [aa48]
    have ee79 : Av 79 = S9.2.2.1 := j1.2.2.2.2
    have ll79 : (Av 79).length = S9.2.2.1.length := by rw [ee79]
    have jj3b := j3
    obtain ⟨k1, k2, k3⟩ := jj3b
    have kkv := j1.2.1.ov
    refine k_iload 48 rfl g3 rfl ?_
    refine k_aload 49 rfl g1 rfl ?_
    refine k_xq hI rfl (xv_size hI.1 or48) rfl rfl rfl (ty_H.rc3 hI.T or48) hL (so_i so_n) ?_
    rintro x1 h2 c3 s4 F5 A6 I7 L8 ⟨e9, k10, k11⟩
    replace k10 := k10.symm
    subst k10
    replace k11 := k11.symm
    subst k11
    show am_Ok _ _ _ (52, _, [.inl x1, .inl u3], _, c3, s4) _
    by_cases b12 : x1 ≤ u3
    · refine k_c2 141 rfl rfl (if_pos b12) ?_
      have b12 : (((Av 48).length : Nat) : Int) ≤ v3 := by have h9 := iv_le.mp b12; rw [hv3] at h9; rw [e9] at h9; exact h9
      refine k_aload 142 rfl g2 rfl ?_
      refine k_xq I7 rfl (n_X1_isOverfull_65    I7.1) rfl rfl rfl (I7.T.rc oc65 rfl) L8 so_n ?_
      rintro x13 h14 c15 s16 F17 A18 I19 L20 ⟨z21, e22, k23, k24⟩
      replace k23 : F17 = Fv := k23
      replace k24 : A18 = Av := k24
      replace e22 : x13.toInt = Fv 6507 := e22
      have z25 := iv_01 (x := x13) z21
      replace k23 := k23.symm
      subst k23
      replace k24 := k24.symm
      subst k24
      show am_Ok _ _ _ (145, _, [.inl x13], _, c15, s16) _
      by_cases b26 : x13 = 0
      · refine k_c1 148 rfl rfl (if_pos b26) ?_
        have b26 : Fv 6507 = 0 := by have h9 := iv_eq0.mp b26; rw [e22] at h9; exact h9
        refine k_push 149 rfl rfl ?_
        have hc27 : (1 : Int32).toInt = 1 := by decide
        refine k_goto 153 rfl rfl ?_
        exact k_fin rfl (fin_Z (Or.inr rfl)) ⟨_, _, _, _, _, _, rfl, I19, (by (try rw [hc27]); show ((1 : Int) = 0 ∨ (1 : Int) = 1) ∧ ((lmt (A0 48) ≤ 400 ∧ (1 : Int) = 1) ∨ (400 < lmt (A0 48) ∧ (1 : Int) = 0)) ∧ fL9 F0 Fv ∧ aL9 A0 Av; have h9 := rnl_z (t := gl (A0 48)) (S := S9) (show ((A0 48).length : Int) ≤ v3 by omega); rw [h9] at j2; exact ⟨Or.inr rfl, Or.inl ⟨by omega, rfl⟩, i3⟩)⟩
      · refine k_c1 152 rfl rfl (if_neg b26) ?_
        have b26 : ¬ (Fv 6507 = 0) := by have h9 := mt iv_eq0.mpr b26; rw [e22] at h9; exact h9
        refine k_push 153 rfl rfl ?_
        have hc28 : (0 : Int32).toInt = 0 := by decide
        exact k_fin rfl (fin_Z (Or.inl rfl)) ⟨_, _, _, _, _, _, rfl, I19, (by (try rw [hc28]); show ((0 : Int) = 0 ∨ (0 : Int) = 1) ∧ ((lmt (A0 48) ≤ 400 ∧ (0 : Int) = 1) ∨ (400 < lmt (A0 48) ∧ (0 : Int) = 0)) ∧ fL9 F0 Fv ∧ aL9 A0 Av; have h9 := rnl_z (t := gl (A0 48)) (S := S9) (show ((A0 48).length : Int) ≤ v3 by omega); rw [h9] at j2; exact ⟨Or.inl rfl, Or.inr ⟨by omega, rfl⟩, i3⟩)⟩
    · refine k_c2 55 rfl rfl (if_neg b12) ?_
      have b12 : ¬ ((((Av 48).length : Nat) : Int) ≤ v3) := by have h9 := mt iv_le.mpr b12; rw [hv3] at h9; rw [e9] at h9; exact h9
      refine k_aload 56 rfl g2 rfl ?_
      refine k_xq I7 rfl (n_X1_isOverfull_65    I7.1) rfl rfl rfl (I7.T.rc oc65 rfl) L8 so_n ?_
      rintro x29 h30 c31 s32 F33 A34 I35 L36 ⟨z37, e38, k39, k40⟩
      replace k39 : F33 = Fv := k39
      replace k40 : A34 = Av := k40
      replace e38 : x29.toInt = Fv 6507 := e38
      have z41 := iv_01 (x := x29) z37
      replace k39 := k39.symm
      subst k39
      replace k40 := k40.symm
      subst k40
      show am_Ok _ _ _ (59, _, [.inl x29], _, c31, s32) _
      by_cases b42 : x29 = 0
      · refine k_c1 62 rfl rfl (if_pos b42) ?_
        have b42 : Fv 6507 = 0 := by have h9 := iv_eq0.mp b42; rw [e38] at h9; exact h9
        refine k_aload 63 rfl g1 rfl ?_
        refine k_iload 64 rfl g3 rfl ?_
        refine k_xq I35 rfl (y_get hv3 I35.1 or48) rfl rfl rfl (ty_H.rc3 I35.T or48) L36 so_n ?_
        rintro x43 h44 c45 s46 F47 A48 I49 L50 ⟨e51, k52, k53⟩
        replace k52 := k52.symm
        subst k52
        replace k53 := k53.symm
        subst k53
        show am_Ok _ _ _ (67, _, [.inl x43], _, c45, s46) _
        have ss9 : gl (Av 48) (v3) = gl (A0 48) v3 := by rw [aa48]
        have rr9 := hnn v3
        have rr8 := I49.rng or48 (q := v3)
        refine k_istore 69 rfl rfl ?_
        refine k_iload 71 rfl gs_eq rfl ?_
        by_cases b54 : x43 = 0
        · refine k_c1 74 rfl rfl (if_pos b54) ?_
          have b54 : gl (Av 48) (v3) = 0 := by have h9 := iv_eq0.mp b54; rw [e51] at h9; exact h9
          refine k_aload 75 rfl (gs_ne rfl rfl g0) rfl ?_
          refine k_push 76 rfl rfl ?_
          have hc55 : (2 : Int32).toInt = 2 := by decide
          refine k_iload 77 rfl (gs_ne rfl rfl g3) rfl ?_
          refine k_push 78 rfl rfl ?_
          have hc56 : (0 : Int32).toInt = 0 := by decide
          refine k_xv I49 rfl (n_X0_beginFrame_65 hc55 hv3 hc56  (S9) (by exact j1) (by omega) I49.1) rfl rfl rfl (I49.T.rc oc74 rfl) (okL_set (i := 4) (v := .inl x43) rfl L50) so_n ?_
          rintro h58 c59 s60 F61 A62 I63 L64 e65
          show am_Ok _ _ _ (81, _, [], _, c59, s60) _
          refine k_goto 135 rfl rfl ?_
          have hc66 : (1 : Int32).toInt = 1 := by decide
          obtain ⟨x67, q68⟩ : ∃ q : Int32, q = u3 + (1 : Int32) := ⟨_, rfl⟩
          have e69 : x67.toInt = (v3 + 1) := bx_add q68 hv3 hc66 (by omega) (by omega)
          refine k_iinc x67 138 rfl (gs_ne rfl rfl g3) q68.symm rfl ?_
          refine k_goto 47 rfl rfl ?_
          exact ih _ (by omega)  (Fv := F61) (Av := A62) (v3 := (v3 + 1)) rfl (gs_ne rfl rfl (gs_ne rfl rfl g0)) (gs_ne rfl rfl (gs_ne rfl rfl g1)) (gs_ne rfl rfl (gs_ne rfl rfl g2)) gs_eq e69 I63 (okL_set (i := 3) (v := .inl x67) rfl L64) (by omega) (⟨wkl (gl (A0 48) v3) v3 S9, by (rw [wkl_0 (ss9.symm.trans b54)]; exact e65.1), by (rw [← rnl_n (by omega) (by omega)]; exact j2), by (rw [show (v3 + 1).toNat = v3.toNat + 1 by omega]; exact wk_b j3), j4.wkk⟩) (⟨i3.1.tr e65.2.1, i3.2.tr e65.2.2⟩)
        · refine k_c1 84 rfl rfl (if_neg b54) ?_
          have b54 : ¬ (gl (Av 48) (v3) = 0) := by have h9 := mt iv_eq0.mpr b54; rw [e51] at h9; exact h9
          refine k_iload 86 rfl gs_eq rfl ?_
          refine k_push 87 rfl rfl ?_
          have hc70 : (1 : Int32).toInt = 1 := by decide
          by_cases b71 : x43 = (1 : Int32)
          · refine k_c2 90 rfl rfl (if_pos b71) ?_
            have b71 : gl (Av 48) (v3) = 1 := by have h9 := iv_eq.mp b71; rw [e51] at h9; rw [hc70] at h9; exact h9
            refine k_aload 91 rfl (gs_ne rfl rfl g0) rfl ?_
            refine k_push 92 rfl rfl ?_
            refine k_iload 93 rfl (gs_ne rfl rfl g3) rfl ?_
            refine k_push 94 rfl rfl ?_
            have hc72 : (-1 : Int32).toInt = -1 := by decide
            refine k_xv I49 rfl (n_X0_beginFrame_65 hc70 hv3 hc72  (S9) (by exact j1) (by omega) I49.1) rfl rfl rfl (I49.T.rc oc74 rfl) (okL_set (i := 4) (v := .inl x43) rfl L50) so_n ?_
            rintro h74 c75 s76 F77 A78 I79 L80 e81
            show am_Ok _ _ _ (97, _, [], _, c75, s76) _
            refine k_aload 98 rfl (gs_ne rfl rfl g0) rfl ?_
            refine x_gF 79 I79 101 rfl rfl (by decide) rfl ?_
            refine k_push 102 rfl rfl ?_
            refine k_xq I79 rfl (y_add hc72 I79.1 or79) rfl rfl rfl (ty_H.rc3 I79.T or79) L80 so_n ?_
            rintro x82 h83 c84 s85 F86 A87 I88 L89 ⟨e90, k91, k92⟩
            replace k91 := k91.symm
            subst k91
            replace k92 := k92.symm
            subst k92
            have z93 := iv_01 (x := x82) (by rw [e90]; exact (addr_01))
            show am_Ok _ _ _ (105, _, [.inl x82], _, c84, s85) _
            refine k_pop 106 rfl rfl rfl ?_
            have hh79 : addl 79 A78 (-1) 79 = A78 79 ++ [-1] := addl_eq (by rw [mo79, e81.1.2.2.2.2]; show ((S9.2.2.1.length : Nat) : Int) < 120; omega)
            refine k_goto 135 rfl rfl ?_
            obtain ⟨x94, q95⟩ : ∃ q : Int32, q = u3 + (1 : Int32) := ⟨_, rfl⟩
            have e96 : x94.toInt = (v3 + 1) := bx_add q95 hv3 hc70 (by omega) (by omega)
            refine k_iinc x94 138 rfl (gs_ne rfl rfl g3) q95.symm rfl ?_
            refine k_goto 47 rfl rfl ?_
            exact ih _ (by omega)  (Fv := F77) (Av := (addl 79 A78 ((-1)))) (v3 := (v3 + 1)) rfl (gs_ne rfl rfl (gs_ne rfl rfl g0)) (gs_ne rfl rfl (gs_ne rfl rfl g1)) (gs_ne rfl rfl (gs_ne rfl rfl g2)) gs_eq e96 I88 (okL_set (i := 3) (v := .inl x94) rfl L89) (by omega) (⟨wkl (gl (A0 48) v3) v3 S9, by (rw [addl_ne (show 66 ≠ 79 by decide), addl_ne (show 75 ≠ 79 by decide), addl_ne (show 77 ≠ 79 by decide), wkl_1 (ss9.symm.trans b71)]; have h9 := e81.1.neg; rw [← hh79] at h9; exact h9), by (rw [← rnl_n (by omega) (by omega)]; exact j2), by (rw [show (v3 + 1).toNat = v3.toNat + 1 by omega]; exact wk_b j3), j4.wkk⟩) (⟨i3.1.tr e81.2.1, i3.2.tr (fun k hk => (addl_ne (by omega)).trans (e81.2.2 k hk))⟩)
          · refine k_c2 109 rfl rfl (if_neg b71) ?_
            have b71 : ¬ (gl (Av 48) (v3) = 1) := by have h9 := mt iv_eq.mpr b71; rw [e51] at h9; rw [hc70] at h9; exact h9
            refine k_aload 110 rfl (gs_ne rfl rfl g0) rfl ?_
            refine k_aload 111 rfl (gs_ne rfl rfl g0) rfl ?_
            refine k_aload 112 rfl (gs_ne rfl rfl g0) rfl ?_
            refine x_gF 79 I49 115 rfl rfl (by decide) rfl ?_
            refine k_xq I49 rfl (xv_size I49.1 or79) rfl rfl rfl (ty_H.rc3 I49.T or79) (okL_set (i := 4) (v := .inl x43) rfl L50) (xo_r I49 oc74 (xo_r I49 oc74 so_n)) ?_
            rintro x97 h98 c99 s100 F101 A102 I103 L104 ⟨e105, k106, k107⟩
            replace k106 := k106.symm
            subst k106
            replace k107 := k107.symm
            subst k107
            show am_Ok _ _ _ (118, _, [.inl x97, .inr (.inr (some 74)), .inr (.inr (some 74))], _, c99, s100) _
            refine k_push 119 rfl rfl ?_
            obtain ⟨x108, q109⟩ : ∃ q : Int32, q = x97 - (1 : Int32) := ⟨_, rfl⟩
            have e110 : x108.toInt = ((((Av 79).length : Nat) : Int) - 1) := bx_sub q109 e105 hc70 (by omega) (by omega)
            refine k_bin x108 120 rfl q109.symm rfl ?_
            refine k_iload 122 rfl gs_eq rfl ?_
            refine k_push 123 rfl rfl ?_
            have hc111 : (2 : Int32).toInt = 2 := by decide
            obtain ⟨x112, q113⟩ : ∃ q : Int32, q = x43 - (2 : Int32) := ⟨_, rfl⟩
            have e114 : x112.toInt = (gl (Av 48) (v3) - 2) := bx_sub q113 e51 hc111 (by omega) (by omega)
            refine k_bin x112 124 rfl q113.symm rfl ?_
            obtain ⟨x115, q116⟩ : ∃ q : Int32, q = x108 - x112 := ⟨_, rfl⟩
            have e117 : x115.toInt = (((((Av 79).length : Nat) : Int) - 1) - (gl (Av 48) (v3) - 2)) := bx_sub q116 e110 e114 (by omega) (by omega)
            refine k_bin x115 125 rfl q116.symm rfl ?_
            refine k_iload 126 rfl (gs_ne rfl rfl g3) rfl ?_
            refine k_xq I103 rfl (n_X0_layVariable_65 e117 hv3  (S9) (by exact j1) (by omega) I103.1) rfl rfl rfl (I103.T.rc oc74 rfl) L104 (xo_r I103 oc74 so_n) ?_
            rintro x118 h119 c120 s121 F122 A123 I124 L125 e126
            obtain ⟨n127, q128⟩ : ∃ n : Int, x118.toInt = n := ⟨_, rfl⟩
            try rw [q128] at e126
            show am_Ok _ _ _ (129, _, [.inl x118, .inr (.inr (some 74))], _, c120, s121) _
            refine k_iload 130 rfl (gs_ne rfl rfl g3) rfl ?_
            refine k_push 131 rfl rfl ?_
            obtain ⟨x129, q130⟩ : ∃ q : Int32, q = u3 + (1 : Int32) := ⟨_, rfl⟩
            have e131 : x129.toInt = (v3 + 1) := bx_add q130 hv3 hc70 (by omega) (by omega)
            refine k_bin x129 132 rfl q130.symm rfl ?_
            refine k_xv I124 rfl (n_X0_finish_65 q128 e131  ((S9.1, S9.2.1 ++ [(v3, gl S9.2.2.1 (((((Av 79).length : Nat) : Int) - 1) - (gl (Av 48) (v3) - 2)))], ssl S9.2.2.1 (((((Av 79).length : Nat) : Int) - 1) - (gl (Av 48) (v3) - 2)) (S9.2.1.length : Int), S9.2.2.2 + 1)) (by exact e126.1) (by exact j4.var) (by (refine ⟨?_, ?_, ?_⟩; (show S9.1.length ≤ 120; omega); (show (S9.2.1 ++ [_]).length ≤ 120; rw [List.length_append]; show S9.2.1.length + 1 ≤ 120; omega); (show (ssl S9.2.2.1 _ _).length ≤ 120; rw [ssl_len]; omega))) I124.1) rfl rfl rfl (I124.T.rc oc74 rfl) L125 so_n ?_
            rintro h133 c134 s135 F136 A137 I138 L139 e140
            show am_Ok _ _ _ (135, _, [], _, c134, s135) _
            obtain ⟨x141, q142⟩ : ∃ q : Int32, q = u3 + (1 : Int32) := ⟨_, rfl⟩
            have e143 : x141.toInt = (v3 + 1) := bx_add q142 hv3 hc70 (by omega) (by omega)
            refine k_iinc x141 138 rfl (gs_ne rfl rfl g3) q142.symm rfl ?_
            refine k_goto 47 rfl rfl ?_
            exact ih _ (by omega)  (Fv := F136) (Av := A137) (v3 := (v3 + 1)) rfl (gs_ne rfl rfl (gs_ne rfl rfl g0)) (gs_ne rfl rfl (gs_ne rfl rfl g1)) (gs_ne rfl rfl (gs_ne rfl rfl g2)) gs_eq e143 I138 (okL_set (i := 3) (v := .inl x141) rfl L139) (by omega) (⟨wkl (gl (A0 48) v3) v3 S9, by (rw [wkl_2 (by rw [← ss9]; exact b54) (by rw [← ss9]; exact b71)]; have h9 := e140.1; rw [ee79, ss9] at h9; exact h9), by (rw [← rnl_n (by omega) (by omega)]; exact j2), by (rw [show (v3 + 1).toNat = v3.toNat + 1 by omega]; exact wk_b j3), j4.wkk⟩) (⟨(i3.1.tr e126.2.1).tr e140.2.1, (i3.2.tr e126.2.2).tr e140.2.2⟩)
      · refine k_c1 141 rfl rfl (if_neg b42) ?_
        have b42 : ¬ (Fv 6507 = 0) := by have h9 := mt iv_eq0.mpr b42; rw [e38] at h9; exact h9
        refine k_aload 142 rfl g2 rfl ?_
        refine k_xq I35 rfl (n_X1_isOverfull_65    I35.1) rfl rfl rfl (I35.T.rc oc65 rfl) L36 so_n ?_
        rintro x144 h145 c146 s147 F148 A149 I150 L151 ⟨z152, e153, k154, k155⟩
        replace k154 : F148 = Fv := k154
        replace k155 : A149 = Av := k155
        replace e153 : x144.toInt = Fv 6507 := e153
        have z156 := iv_01 (x := x144) z152
        replace k154 := k154.symm
        subst k154
        replace k155 := k155.symm
        subst k155
        show am_Ok _ _ _ (145, _, [.inl x144], _, c146, s147) _
        by_cases b157 : x144 = 0
        · refine k_c1 148 rfl rfl (if_pos b157) ?_
          have b157 : Fv 6507 = 0 := by have h9 := iv_eq0.mp b157; rw [e153] at h9; exact h9
          refine k_push 149 rfl rfl ?_
          have hc158 : (1 : Int32).toInt = 1 := by decide
          refine k_goto 153 rfl rfl ?_
          exact k_fin rfl (fin_Z (Or.inr rfl)) ⟨_, _, _, _, _, _, rfl, I150, (by (try rw [hc158]); show ((1 : Int) = 0 ∨ (1 : Int) = 1) ∧ ((lmt (A0 48) ≤ 400 ∧ (1 : Int) = 1) ∨ (400 < lmt (A0 48) ∧ (1 : Int) = 0)) ∧ fL9 F0 Fv ∧ aL9 A0 Av; exact absurd b157 b42)⟩
        · refine k_c1 152 rfl rfl (if_neg b157) ?_
          have b157 : ¬ (Fv 6507 = 0) := by have h9 := mt iv_eq0.mpr b157; rw [e153] at h9; exact h9
          refine k_push 153 rfl rfl ?_
          have hc159 : (0 : Int32).toInt = 0 := by decide
          exact k_fin rfl (fin_Z (Or.inl rfl)) ⟨_, _, _, _, _, _, rfl, I150, (by (try rw [hc159]); show ((0 : Int) = 0 ∨ (0 : Int) = 1) ∧ ((lmt (A0 48) ≤ 400 ∧ (0 : Int) = 1) ∨ (400 < lmt (A0 48) ∧ (0 : Int) = 0)) ∧ fL9 F0 Fv ∧ aL9 A0 Av; have h9 := rn_m (t := gl (A0 48)) (k := (A0 48).length - v3.toNat) (i := v3) (S := S9); rw [j2] at h9; exact ⟨Or.inl rfl, Or.inr ⟨by omega, rfl⟩, i3⟩)⟩
theorem n_X0_lay_65 {h0 : am_h} {F0 : rf_f} {A0 : xl_A}   (hnn : ∀ q : Int, 0 ≤ gl (A0 48) q) (hlen : (A0 48).length ≤ 120) (hR : xR h0 F0 A0) : am_Mt 5 1 [.inr (.inr (some 74)), .inr (.inr (some 48)), .inr (.inr (some 65))] h0 (xQ h0 (fun x F' A' => ((x : Int) = 0 ∨ (x : Int) = 1) ∧ ((lmt (A0 48) ≤ 400 ∧ (x : Int) = 1) ∨ (400 < lmt (A0 48) ∧ (x : Int) = 0)) ∧ fL9 F0 F' ∧ aL9 A0 A')) := by
  refine am_Mt.of (D := 4) ?_
  have hI : xI h0 (ob_P h0) h0 0 0 F0 A0 := xI.start hR
  have hL : am_okL h0.length (am_args 0 [.inr (.inr (some 74)), .inr (.inr (some 48)), .inr (.inr (some 65))]) = true := (okA_r hI.T oc74 (okA_r hI.T ol48 (okA_r hI.T oc65 okA_n)))
  refine k_aload 1 rfl rfl rfl ?_
  refine k_xv hI rfl (n_X1_clear_65    hI.1) rfl rfl rfl (hI.T.rc oc65 rfl) hL so_n ?_
  rintro h161 c162 s163 F164 A165 I166 L167 ⟨k169, k170⟩
  replace k169 := k169.symm
  subst k169
  replace k170 := k170.symm
  subst k170
  show am_Ok _ _ _ (4, _, [], _, c162, s163) _
  refine k_aload 5 rfl rfl rfl ?_
  refine k_aload 6 rfl rfl rfl ?_
  refine x_pO (τ := 1) (fx_ok := fx_no rfl) I166 9 rfl oc74 rfl rfl rfl oc65 rfl (fun h171 I172 l173 => ?_)
  have L174 := okL_eq l173 L167
  refine k_aload 10 rfl rfl rfl ?_
  refine k_push 11 rfl rfl ?_
  have hc175 : (0 : Int32).toInt = 0 := by decide
  refine x_pI (fx_ok := fx_no rfl) I172 14 rfl oc74 rfl rfl rfl rfl (fun h176 I177 l178 => ?_)
  have L179 := okL_eq l178 L174
  have I180 : xI h0 (ob_P h0) h176 c162 s163 (up1 ((up1 ((p_X1_clear_65 F0 A0).2.1) 7403 ((65 : Nat) : Int))) 7404 (0)) (p_X1_clear_65 F0 A0).2.2 := by have h9 := I177; rw [hc175] at h9; exact h9
  refine k_aload 15 rfl rfl rfl ?_
  refine x_gF 75 I180 18 rfl rfl (by decide) rfl ?_
  refine k_push 19 rfl rfl ?_
  refine k_xv I180 rfl (y_cut hc175 I180.1 or75) rfl rfl rfl (ty_H.rc3 I180.T or75) L179 so_n ?_
  rintro h182 c183 s184 F185 A186 I187 L188 ⟨k190, k191⟩
  replace k190 := k190.symm
  subst k190
  replace k191 := k191.symm
  subst k191
  show am_Ok _ _ _ (22, _, [], _, c183, s184) _
  refine k_aload 23 rfl rfl rfl ?_
  refine x_gF 77 I187 26 rfl rfl (by decide) rfl ?_
  refine k_push 27 rfl rfl ?_
  refine k_xv I187 rfl (y_cut hc175 I187.1 or77) rfl rfl rfl (ty_H.rc3 I187.T or77) L188 so_n ?_
  rintro h193 c194 s195 F196 A197 I198 L199 ⟨k201, k202⟩
  replace k201 := k201.symm
  subst k201
  replace k202 := k202.symm
  subst k202
  show am_Ok _ _ _ (30, _, [], _, c194, s195) _
  refine k_aload 31 rfl rfl rfl ?_
  refine x_gF 79 I198 34 rfl rfl (by decide) rfl ?_
  refine k_push 35 rfl rfl ?_
  refine k_xv I198 rfl (y_cut hc175 I198.1 or79) rfl rfl rfl (ty_H.rc3 I198.T or79) L199 so_n ?_
  rintro h204 c205 s206 F207 A208 I209 L210 ⟨k212, k213⟩
  replace k212 := k212.symm
  subst k212
  replace k213 := k213.symm
  subst k213
  show am_Ok _ _ _ (38, _, [], _, c205, s206) _
  refine k_aload 39 rfl rfl rfl ?_
  refine k_push 40 rfl rfl ?_
  refine k_push 41 rfl rfl ?_
  refine k_xq I209 rfl (n_X1_make_65 hc175 hc175  (0) (by exact (NWv.z (K := List.replicate 402 (-1)) (fun j j0 j1 => gl_rep j0 (by omega)))) I209.1) rfl rfl rfl (I209.T.rc oc65 rfl) L210 so_n ?_
  rintro x214 h215 c216 s217 F218 A219 I220 L221 e222
  obtain ⟨n223, q224⟩ : ∃ n : Int, x214.toInt = n := ⟨_, rfl⟩
  try rw [q224] at e222
  show am_Ok _ _ _ (44, _, [.inl x214], _, c216, s217) _
  obtain ⟨ww1, ww2, ww3⟩ := e222
  refine k_pop 45 rfl rfl rfl ?_
  refine k_push 46 rfl rfl ?_
  refine k_istore 47 rfl rfl ?_
  exact yl_X0_lay_65_47   hnn hlen _  (Fv := F218) (Av := A219) (v3 := 0) rfl (gs_ne rfl rfl rfl) (gs_ne rfl rfl rfl) (gs_ne rfl rfl rfl) gs_eq hc175 I220 (okL_set (i := 3) (v := .inl (0 : Int32)) rfl L221) (by omega) (⟨([], [], [], 1), ⟨ww2 7403 (Or.inr (by omega)), ww1, ww3 75 (by decide) (by decide), ENM.z (ww3 77 (by decide) (by decide)), ww3 79 (by decide) (by decide)⟩, rfl, ⟨Nat.le_refl _, Nat.le_refl _, Nat.le_refl _⟩, WF0.z⟩) (⟨fun n hn => (ww2 n (Or.inl (by omega))).trans ((up1_ne (by omega)).trans ((up1_ne (by omega)).trans (clF_65 (by omega)))), fun k hk => (ww3 k (by omega) (by omega)).trans ((upl_ne (by omega)).trans ((upl_ne (by omega)).trans ((upl_ne (by omega)).trans (clA_65 (by omega)))))⟩)
end
