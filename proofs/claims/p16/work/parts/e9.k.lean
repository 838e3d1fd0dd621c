section
theorem yl_X2_putArgument_37_14 {h0 : am_h} {F0 : rf_f} {A0 : xl_A} {w1 : Int32} {n1 : Int} (hn1 : w1.toInt = n1) {w2 : Int32} {n2 : Int} (hn2 : w2.toInt = n2) {w3 : Int32} {n3 : Int} (hn3 : w3.toInt = n3)  (hn : F0 3202 = 37) (hs : F0 3203 = 39) (hp : 0 ≤ n1 ∧ n1 ≤ n2 ∧ n2 ≤ ((A0 37).length : Int)) (pr3 : 0 ≤ n3 ∧ n3 ≤ 1000) (hC : ∀ q : Int, 0 ≤ gl (A0 37) q ∧ gl (A0 37) q ≤ 1000000) : ∀ (n : Nat) {lv : am_l} {h : am_h} {c s : Nat} {u2 : Int32} {v2 : Int} {u3 : Int32} {v3 : Int} {u4 : Int32} {v4 : Int} {u5 : Int32} {v5 : Int} {Fv : rf_f} {Av : xl_A}, ((1001 - v5).toNat) = n → am_get lv 0 = some (.inr (.inr (some 32))) → am_get lv 2 = some (.inl u2) → am_get lv 3 = some (.inl u3) → am_get lv 4 = some (.inl u4) → am_get lv 5 = some (.inl u5) → u2.toInt = v2 → u3.toInt = v3 → u4.toInt = v4 → u5.toInt = v5 → xI h0 (ob_P h0) h c s Fv Av → am_okL h.length lv = true → (v2 = n2 ∧ v3 = n3 ∧ n1 ≤ v5 ∧ v5 ≤ n2) → (Fv = F0) → (∀ j : Nat, j ≠ 35 → j ≠ 39 → Av j = A0 j) → (∃ g9 : List Int, RA (fR n3) (A0 37) n1 n2 v5 v4 (Av 35) g9 ∧ Av 39 = A0 39 ++ g9) → am_Ok am_G 3 46 (14, lv, [], h, c, s) (xQ h0 (fun x F' A' => ((x : Int) = 0 ∨ (x : Int) = 1) ∧ PA (x) (A0 39) (A' 39) (rsl n3 (slc (A0 37) n1 n2) 0 []) ∧ F' = F0 ∧ ∀ j : Nat, j ≠ 35 → j ≠ 39 → A' j = A0 j)) := by
  intro n
  induction n using Nat.strongRecOn with
  | ind n ih =>
    intro lv h c s u2 v2 u3 v3 u4 v4 u5 v5  Fv Av hm g0 g2 g3 g4 g5 hv2 hv3 hv4 hv5 hI hL i1 i2 i3 i4
    obtain ⟨g9, j1, j2⟩ := i4
    have ll9 : Av 37 = A0 37 := i3 37 (by decide) (by decide)
    have lk9 : (Av 37).length = (A0 37).length := by rw [ll9]
    have f32 : Fv 3202 = 37 := by rw [i2]; exact hn
    have f33 : Fv 3203 = 39 := by rw [i2]; exact hs
    have cp37 := hI.cap or37
    rw [mo37] at cp37
    have cp39 := hI.cap or39
    rw [mo39] at cp39
    obtain ⟨rb1, rb2⟩ := j1.bd
    have hc9 := hC v5
    have gg9 : gl (Av 37) v5 = gl (A0 37) v5 := by rw [ll9]
    have jl9 : ((Av 39).length : Int) = ((A0 39).length : Int) + (g9.length : Int) := by rw [j2, List.length_append]; omega
    refine k_iload 16 rfl g5 rfl ?_
    refine k_iload 17 rfl g2 rfl ?_
    by_cases b1 : u2 ≤ u5
    · refine k_c2 80 rfl rfl (if_pos b1) ?_
      have b1 : v2 ≤ v5 := by have h9 := iv_le.mp b1; rw [hv5] at h9; rw [hv2] at h9; exact h9
      refine k_push 81 rfl rfl ?_
      have hc2 : (1 : Int32).toInt = 1 := by decide
      exact k_fin rfl (fin_Z (Or.inr rfl)) ⟨_, _, _, _, _, _, rfl, hI, (by (try rw [hc2]); show ((1 : Int) = 0 ∨ (1 : Int) = 1) ∧ PA (1) (A0 39) (Av 39) (rsl n3 (slc (A0 37) n1 n2) 0 []) ∧ Fv = F0 ∧ ∀ j : Nat, j ≠ 35 → j ≠ 39 → Av j = A0 j; have h9 := j1.e (by omega); exact ⟨Or.inr rfl, PA.yes rfl (by rw [j2, h9, rsl_gN]) cp39, i2, i3⟩)⟩
    · refine k_c2 20 rfl rfl (if_neg b1) ?_
      have b1 : ¬ (v2 ≤ v5) := by have h9 := mt iv_le.mpr b1; rw [hv5] at h9; rw [hv2] at h9; exact h9
      refine k_aload 21 rfl g0 rfl ?_
      refine x_gO (τ := 3) hI 24 rfl oc32 rfl rfl rfl rfl (fun r3 (e4 : (r3 : Int) = Fv 3202) o5 => ?_)
      obtain rfl : r3 = 37 := by omega
      refine k_iload 26 rfl g5 rfl ?_
      refine k_xq hI rfl (y_get hv5 hI.1 or37) rfl rfl rfl (ty_H.rc3 hI.T or37) hL so_n ?_
      rintro x6 h7 c8 s9 F10 A11 I12 L13 ⟨e14, k15, k16⟩
      replace k15 := k15.symm
      subst k15
      replace k16 := k16.symm
      subst k16
      show am_Ok _ _ _ (29, _, [.inl x6], _, c8, s9) _
      refine k_istore 31 rfl rfl ?_
      refine k_aload 32 rfl (gs_ne rfl rfl g0) rfl ?_
      refine x_gO (τ := 3) I12 35 rfl oc32 rfl rfl rfl rfl (fun r17 (e18 : (r17 : Int) = Fv 3203) o19 => ?_)
      obtain rfl : r17 = 39 := by omega
      refine k_iload 37 rfl gs_eq rfl ?_
      refine k_push 38 rfl rfl ?_
      have hc20 : (2 : Int32).toInt = 2 := by decide
      refine k_iload 40 rfl (gs_ne rfl rfl g4) rfl ?_
      obtain ⟨x21, q22⟩ : ∃ q : Int32, q = (2 : Int32) + u4 := ⟨_, rfl⟩
      have e23 : x21.toInt = (2 + v4) := bx_add q22 hc20 hv4 (by omega) (by omega)
      refine k_bin x21 41 rfl q22.symm rfl ?_
      by_cases b24 : x21 ≤ x6
      · refine k_c2 49 rfl rfl (if_pos b24) ?_
        have b24 : (2 + v4) ≤ gl (Av 37) (v5) := by have h9 := iv_le.mp b24; rw [e14] at h9; rw [e23] at h9; exact h9
        refine k_iload 51 rfl gs_eq rfl ?_
        refine k_iload 52 rfl (gs_ne rfl rfl g3) rfl ?_
        obtain ⟨x25, q26⟩ : ∃ q : Int32, q = x6 + u3 := ⟨_, rfl⟩
        have e27 : x25.toInt = (gl (Av 37) (v5) + v3) := bx_add q26 e14 hv3 (by omega) (by omega)
        refine k_bin x25 53 rfl q26.symm rfl ?_
        have hfr : fR n3 (gl (A0 37) v5) v4 = [(gl (Av 37) (v5) + v3)] := by first | exact fR_lo (by omega) (by omega) | exact fR_hi (by omega) (by omega)
        refine k_xq I12 rfl (y_add e27 I12.1 or39) rfl rfl rfl (ty_H.rc3 I12.T or39) (okL_set (i := 6) (v := .inl x6) rfl L13) so_n ?_
        rintro x28 h29 c30 s31 F32 A33 I34 L35 ⟨e36, k37, k38⟩
        replace k37 := k37.symm
        subst k37
        replace k38 := k38.symm
        subst k38
        have z39 := iv_01 (x := x28) (by rw [e36]; exact (addr_01))
        show am_Ok _ _ _ (56, _, [.inl x28], _, c30, s31) _
        by_cases b40 : x28 = 0
        · refine k_c1 59 rfl rfl (if_pos b40) ?_
          have b40 : addr 39 Av = 0 := by have h9 := iv_eq0.mp b40; rw [e36] at h9; exact h9
          refine k_push 60 rfl rfl ?_
          have hc41 : (0 : Int32).toInt = 0 := by decide
          exact k_fin rfl (fin_Z (Or.inl rfl)) ⟨_, _, _, _, _, _, rfl, I34, (by (try rw [hc41]); show ((0 : Int) = 0 ∨ (0 : Int) = 1) ∧ PA (0) (A0 39) (((addl 39 Av ((gl (Av 37) (v5) + v3)))) 39) (rsl n3 (slc (A0 37) n1 n2) 0 []) ∧ Fv = F0 ∧ ∀ j : Nat, j ≠ 35 → j ≠ 39 → ((addl 39 Av ((gl (Av 37) (v5) + v3)))) j = A0 j; obtain ⟨q9, hq9⟩ := j1.full (by omega) (by omega) (by omega); have h9 := ad_n b40; rw [mo39] at h9; exact ⟨Or.inl rfl, PA.no (by rw [rsl_gN]; exact hq9) (by have h8 : (fR n3 (gl (A0 37) v5) v4).length = 1 := rfl; omega) rfl, i2, fun j h1 h2 => (addl_ne h2).trans (i3 j h1 h2)⟩)⟩
        · refine k_c1 61 rfl rfl (if_neg b40) ?_
          have b40 : ¬ (addr 39 Av = 0) := by have h9 := mt iv_eq0.mpr b40; rw [e36] at h9; exact h9
          refine k_iload 63 rfl gs_eq rfl ?_
          refine k_iload 65 rfl (gs_ne rfl rfl g4) rfl ?_
          refine k_aload 66 rfl (gs_ne rfl rfl g0) rfl ?_
          refine x_gF 35 I34 69 rfl rfl (by decide) rfl ?_
          refine k_xq I34 rfl (n_X2_depthBehind_35 e14 hv4  (by omega) (by rw [addl_ne (by decide)]; omega) I34.1) rfl rfl rfl rfl L35 so_n ?_
          rintro x42 h43 c44 s45 F46 A47 I48 L49 e50
          obtain ⟨n51, q52⟩ : ∃ n : Int, x42.toInt = n := ⟨_, rfl⟩
          try rw [q52] at e50
          show am_Ok _ _ _ (72, _, [.inl x42], _, c44, s45) _
          obtain ⟨w1, w2, w3, w4⟩ := e50
          rw [addl_ne (by decide), gg9] at w1 w2
          refine k_istore 74 rfl rfl ?_
          have hc53 : (1 : Int32).toInt = 1 := by decide
          obtain ⟨x54, q55⟩ : ∃ q : Int32, q = u5 + (1 : Int32) := ⟨_, rfl⟩
          have e56 : x54.toInt = (v5 + 1) := bx_add q55 hv5 hc53 (by omega) (by omega)
          refine k_iinc x54 77 rfl (gs_ne rfl rfl (gs_ne rfl rfl g5)) q55.symm rfl ?_
          refine k_goto 14 rfl rfl ?_
          exact ih _ (by omega)  (Fv := F46) (Av := A47) (v2 := v2) (v3 := v3) (v4 := n51) (v5 := (v5 + 1)) rfl (gs_ne rfl rfl (gs_ne rfl rfl (gs_ne rfl rfl g0))) (gs_ne rfl rfl (gs_ne rfl rfl (gs_ne rfl rfl g2))) (gs_ne rfl rfl (gs_ne rfl rfl (gs_ne rfl rfl g3))) (gs_ne rfl rfl gs_eq) gs_eq hv2 hv3 q52 e56 I48 (okL_set (i := 5) (v := .inl x54) rfl (okL_set (i := 4) (v := .inl x42) rfl L49)) (by omega) (w3.trans i2) (fun j h1 h2 => (w4 j h1).trans ((addl_ne h2).trans (i3 j h1 h2))) (⟨g9 ++ fR n3 (gl (A0 37) v5) v4, by (have h9 := j1.s (by omega) (by omega) (by omega); rw [← w2, ← w1] at h9; exact h9), (w4 39 (by decide)).trans (by rw [addl_eq (ad_y b40), j2, List.append_assoc, hfr])⟩)
      · refine k_c2 44 rfl rfl (if_neg b24) ?_
        have b24 : ¬ ((2 + v4) ≤ gl (Av 37) (v5)) := by have h9 := mt iv_le.mpr b24; rw [e14] at h9; rw [e23] at h9; exact h9
        refine k_iload 46 rfl gs_eq rfl ?_
        refine k_goto 53 rfl rfl ?_
        have hfr : fR n3 (gl (A0 37) v5) v4 = [gl (Av 37) (v5)] := by first | exact fR_lo (by omega) (by omega) | exact fR_hi (by omega) (by omega)
        refine k_xq I12 rfl (y_add e14 I12.1 or39) rfl rfl rfl (ty_H.rc3 I12.T or39) (okL_set (i := 6) (v := .inl x6) rfl L13) so_n ?_
        rintro x57 h58 c59 s60 F61 A62 I63 L64 ⟨e65, k66, k67⟩
        replace k66 := k66.symm
        subst k66
        replace k67 := k67.symm
        subst k67
        have z68 := iv_01 (x := x57) (by rw [e65]; exact (addr_01))
        show am_Ok _ _ _ (56, _, [.inl x57], _, c59, s60) _
        by_cases b69 : x57 = 0
        · refine k_c1 59 rfl rfl (if_pos b69) ?_
          have b69 : addr 39 Av = 0 := by have h9 := iv_eq0.mp b69; rw [e65] at h9; exact h9
          refine k_push 60 rfl rfl ?_
          have hc70 : (0 : Int32).toInt = 0 := by decide
          exact k_fin rfl (fin_Z (Or.inl rfl)) ⟨_, _, _, _, _, _, rfl, I63, (by (try rw [hc70]); show ((0 : Int) = 0 ∨ (0 : Int) = 1) ∧ PA (0) (A0 39) (((addl 39 Av (gl (Av 37) (v5)))) 39) (rsl n3 (slc (A0 37) n1 n2) 0 []) ∧ Fv = F0 ∧ ∀ j : Nat, j ≠ 35 → j ≠ 39 → ((addl 39 Av (gl (Av 37) (v5)))) j = A0 j; obtain ⟨q9, hq9⟩ := j1.full (by omega) (by omega) (by omega); have h9 := ad_n b69; rw [mo39] at h9; exact ⟨Or.inl rfl, PA.no (by rw [rsl_gN]; exact hq9) (by have h8 : (fR n3 (gl (A0 37) v5) v4).length = 1 := rfl; omega) rfl, i2, fun j h1 h2 => (addl_ne h2).trans (i3 j h1 h2)⟩)⟩
        · refine k_c1 61 rfl rfl (if_neg b69) ?_
          have b69 : ¬ (addr 39 Av = 0) := by have h9 := mt iv_eq0.mpr b69; rw [e65] at h9; exact h9
          refine k_iload 63 rfl gs_eq rfl ?_
          refine k_iload 65 rfl (gs_ne rfl rfl g4) rfl ?_
          refine k_aload 66 rfl (gs_ne rfl rfl g0) rfl ?_
          refine x_gF 35 I63 69 rfl rfl (by decide) rfl ?_
          refine k_xq I63 rfl (n_X2_depthBehind_35 e14 hv4  (by omega) (by rw [addl_ne (by decide)]; omega) I63.1) rfl rfl rfl rfl L64 so_n ?_
          rintro x71 h72 c73 s74 F75 A76 I77 L78 e79
          obtain ⟨n80, q81⟩ : ∃ n : Int, x71.toInt = n := ⟨_, rfl⟩
          try rw [q81] at e79
          show am_Ok _ _ _ (72, _, [.inl x71], _, c73, s74) _
          obtain ⟨w1, w2, w3, w4⟩ := e79
          rw [addl_ne (by decide), gg9] at w1 w2
          refine k_istore 74 rfl rfl ?_
          have hc82 : (1 : Int32).toInt = 1 := by decide
          obtain ⟨x83, q84⟩ : ∃ q : Int32, q = u5 + (1 : Int32) := ⟨_, rfl⟩
          have e85 : x83.toInt = (v5 + 1) := bx_add q84 hv5 hc82 (by omega) (by omega)
          refine k_iinc x83 77 rfl (gs_ne rfl rfl (gs_ne rfl rfl g5)) q84.symm rfl ?_
          refine k_goto 14 rfl rfl ?_
          exact ih _ (by omega)  (Fv := F75) (Av := A76) (v2 := v2) (v3 := v3) (v4 := n80) (v5 := (v5 + 1)) rfl (gs_ne rfl rfl (gs_ne rfl rfl (gs_ne rfl rfl g0))) (gs_ne rfl rfl (gs_ne rfl rfl (gs_ne rfl rfl g2))) (gs_ne rfl rfl (gs_ne rfl rfl (gs_ne rfl rfl g3))) (gs_ne rfl rfl gs_eq) gs_eq hv2 hv3 q81 e85 I77 (okL_set (i := 5) (v := .inl x83) rfl (okL_set (i := 4) (v := .inl x71) rfl L78)) (by omega) (w3.trans i2) (fun j h1 h2 => (w4 j h1).trans ((addl_ne h2).trans (i3 j h1 h2))) (⟨g9 ++ fR n3 (gl (A0 37) v5) v4, by (have h9 := j1.s (by omega) (by omega) (by omega); rw [← w2, ← w1] at h9; exact h9), (w4 39 (by decide)).trans (by rw [addl_eq (ad_y b69), j2, List.append_assoc, hfr])⟩)
theorem n_X2_putArgument_37 {h0 : am_h} {F0 : rf_f} {A0 : xl_A} {w1 : Int32} {n1 : Int} (hn1 : w1.toInt = n1) {w2 : Int32} {n2 : Int} (hn2 : w2.toInt = n2) {w3 : Int32} {n3 : Int} (hn3 : w3.toInt = n3)  (hn : F0 3202 = 37) (hs : F0 3203 = 39) (hp : 0 ≤ n1 ∧ n1 ≤ n2 ∧ n2 ≤ ((A0 37).length : Int)) (pr3 : 0 ≤ n3 ∧ n3 ≤ 1000) (hC : ∀ q : Int, 0 ≤ gl (A0 37) q ∧ gl (A0 37) q ≤ 1000000) (hR : xR h0 F0 A0) : am_Mt 4 46 [.inr (.inr (some 32)), .inl w1, .inl w2, .inl w3] h0 (xQ h0 (fun x F' A' => ((x : Int) = 0 ∨ (x : Int) = 1) ∧ PA (x) (A0 39) (A' 39) (rsl n3 (slc (A0 37) n1 n2) 0 []) ∧ F' = F0 ∧ ∀ j : Nat, j ≠ 35 → j ≠ 39 → A' j = A0 j)) := by
  refine am_Mt.of (D := 3) ?_
  have hI : xI h0 (ob_P h0) h0 0 0 F0 A0 := xI.start hR
  have hL : am_okL h0.length (am_args 0 [.inr (.inr (some 32)), .inl w1, .inl w2, .inl w3]) = true := (okA_r hI.T oc32 (okA_i (okA_i (okA_i okA_n))))
  refine k_aload 1 rfl rfl rfl ?_
  refine x_gF 35 hI 4 rfl rfl (by decide) rfl ?_
  refine k_push 5 rfl rfl ?_
  have hc86 : (0 : Int32).toInt = 0 := by decide
  refine k_xv hI rfl (y_cut hc86 hI.1 or35) rfl rfl rfl (ty_H.rc3 hI.T or35) hL so_n ?_
  rintro h88 c89 s90 F91 A92 I93 L94 ⟨k96, k97⟩
  replace k96 := k96.symm
  subst k96
  replace k97 := k97.symm
  subst k97
  show am_Ok _ _ _ (8, _, [], _, c89, s90) _
  refine k_push 9 rfl rfl ?_
  refine k_istore 11 rfl rfl ?_
  refine k_iload 12 rfl (gs_ne rfl rfl rfl) rfl ?_
  refine k_istore 14 rfl rfl ?_
  exact yl_X2_putArgument_37_14 hn1 hn2 hn3  hn hs hp pr3 hC _  (Fv := F0) (Av := (upl A0 35 (cutl (A0 35) (0)))) (v2 := n2) (v3 := n3) (v4 := 0) (v5 := n1) rfl (gs_ne rfl rfl (gs_ne rfl rfl rfl)) (gs_ne rfl rfl (gs_ne rfl rfl rfl)) (gs_ne rfl rfl (gs_ne rfl rfl rfl)) (gs_ne rfl rfl gs_eq) gs_eq hn2 hn3 hc86 hn1 I93 (okL_set (i := 5) (v := .inl w1) rfl (okL_set (i := 4) (v := .inl (0 : Int32)) rfl L94)) (by omega) (rfl) (fun j h1 h2 => upl_ne h1) (⟨[], RA.z (by rw [upl_eq]; exact cutl_0), by rw [upl_ne (by decide), List.append_nil]⟩)
theorem yl_X2_putIn_37_14 {h0 : am_h} {F0 : rf_f} {A0 : xl_A} {w1 : Int32} {n1 : Int} (hn1 : w1.toInt = n1) {w2 : Int32} {n2 : Int} (hn2 : w2.toInt = n2) {w3 : Int32} {n3 : Int} (hn3 : w3.toInt = n3)  (hn : F0 3202 = 37) (hs : F0 3203 = 39) (hp : 0 ≤ n1 ∧ n1 ≤ n2 ∧ n2 ≤ n3 ∧ n3 ≤ ((A0 37).length : Int)) (hC : ∀ q : Int, 0 ≤ gl (A0 37) q ∧ gl (A0 37) q ≤ 1000000) : ∀ (n : Nat) {lv : am_l} {h : am_h} {c s : Nat} {u2 : Int32} {v2 : Int} {u3 : Int32} {v3 : Int} {u4 : Int32} {v4 : Int} {u5 : Int32} {v5 : Int} {Fv : rf_f} {Av : xl_A}, ((1001 - v5).toNat) = n → am_get lv 0 = some (.inr (.inr (some 32))) → am_get lv 2 = some (.inl u2) → am_get lv 3 = some (.inl u3) → am_get lv 4 = some (.inl u4) → am_get lv 5 = some (.inl u5) → u2.toInt = v2 → u3.toInt = v3 → u4.toInt = v4 → u5.toInt = v5 → xI h0 (ob_P h0) h c s Fv Av → am_okL h.length lv = true → (v2 = n2 ∧ v3 = n3 ∧ n1 ≤ v5 ∧ v5 ≤ n2) → (Fv = F0) → (∀ j : Nat, j ≠ 33 → j ≠ 35 → j ≠ 39 → Av j = A0 j) → (∃ g9 : List Int, RA (fS (slc (A0 37) n2 n3)) (A0 37) n1 n2 v5 v4 (Av 33) g9 ∧ Av 39 = A0 39 ++ g9) → am_Ok am_G 4 45 (14, lv, [], h, c, s) (xQ h0 (fun x F' A' => ((x : Int) = 0 ∨ (x : Int) = 1) ∧ PA (x) (A0 39) (A' 39) (sbl (slc (A0 37) n2 n3) (slc (A0 37) n1 n2) 0 []) ∧ F' = F0 ∧ ∀ j : Nat, j ≠ 33 → j ≠ 35 → j ≠ 39 → A' j = A0 j)) := by
  intro n
  induction n using Nat.strongRecOn with
  | ind n ih =>
    intro lv h c s u2 v2 u3 v3 u4 v4 u5 v5  Fv Av hm g0 g2 g3 g4 g5 hv2 hv3 hv4 hv5 hI hL i1 i2 i3 i4
    obtain ⟨g9, j1, j2⟩ := i4
    have ll9 : Av 37 = A0 37 := i3 37 (by decide) (by decide) (by decide)
    have lk9 : (Av 37).length = (A0 37).length := by rw [ll9]
    have f32 : Fv 3202 = 37 := by rw [i2]; exact hn
    have f33 : Fv 3203 = 39 := by rw [i2]; exact hs
    have cp37 := hI.cap or37
    rw [mo37] at cp37
    have cp39 := hI.cap or39
    rw [mo39] at cp39
    obtain ⟨rb1, rb2⟩ := j1.bd
    have hc9 := hC v5
    have gg9 : gl (Av 37) v5 = gl (A0 37) v5 := by rw [ll9]
    have jl9 : ((Av 39).length : Int) = ((A0 39).length : Int) + (g9.length : Int) := by rw [j2, List.length_append]; omega
    refine k_iload 16 rfl g5 rfl ?_
    refine k_iload 17 rfl g2 rfl ?_
    by_cases b1 : u2 ≤ u5
    · refine k_c2 126 rfl rfl (if_pos b1) ?_
      have b1 : v2 ≤ v5 := by have h9 := iv_le.mp b1; rw [hv5] at h9; rw [hv2] at h9; exact h9
      refine k_push 127 rfl rfl ?_
      have hc2 : (1 : Int32).toInt = 1 := by decide
      exact k_fin rfl (fin_Z (Or.inr rfl)) ⟨_, _, _, _, _, _, rfl, hI, (by (try rw [hc2]); show ((1 : Int) = 0 ∨ (1 : Int) = 1) ∧ PA (1) (A0 39) (Av 39) (sbl (slc (A0 37) n2 n3) (slc (A0 37) n1 n2) 0 []) ∧ Fv = F0 ∧ ∀ j : Nat, j ≠ 33 → j ≠ 35 → j ≠ 39 → Av j = A0 j; have h9 := j1.e (by omega); exact ⟨Or.inr rfl, PA.yes rfl (by rw [j2, h9, sbl_gN]) cp39, i2, i3⟩)⟩
    · refine k_c2 20 rfl rfl (if_neg b1) ?_
      have b1 : ¬ (v2 ≤ v5) := by have h9 := mt iv_le.mpr b1; rw [hv5] at h9; rw [hv2] at h9; exact h9
      refine k_aload 21 rfl g0 rfl ?_
      refine x_gO (τ := 3) hI 24 rfl oc32 rfl rfl rfl rfl (fun r3 (e4 : (r3 : Int) = Fv 3202) o5 => ?_)
      obtain rfl : r3 = 37 := by omega
      refine k_iload 26 rfl g5 rfl ?_
      refine k_xq hI rfl (y_get hv5 hI.1 or37) rfl rfl rfl (ty_H.rc3 hI.T or37) hL so_n ?_
      rintro x6 h7 c8 s9 F10 A11 I12 L13 ⟨e14, k15, k16⟩
      replace k15 := k15.symm
      subst k15
      replace k16 := k16.symm
      subst k16
      show am_Ok _ _ _ (29, _, [.inl x6], _, c8, s9) _
      refine k_istore 31 rfl rfl ?_
      refine k_iload 33 rfl gs_eq rfl ?_
      refine k_push 34 rfl rfl ?_
      have hc17 : (2 : Int32).toInt = 2 := by decide
      by_cases b18 : (2 : Int32) ≤ x6
      · refine k_c2 51 rfl rfl (if_pos b18) ?_
        have b18 : 2 ≤ gl (Av 37) (v5) := by have h9 := iv_le.mp b18; rw [e14] at h9; rw [hc17] at h9; exact h9
        refine k_iload 53 rfl gs_eq rfl ?_
        refine k_push 54 rfl rfl ?_
        refine k_iload 56 rfl (gs_ne rfl rfl g4) rfl ?_
        obtain ⟨x19, q20⟩ : ∃ q : Int32, q = (2 : Int32) + u4 := ⟨_, rfl⟩
        have e21 : x19.toInt = (2 + v4) := bx_add q20 hc17 hv4 (by omega) (by omega)
        refine k_bin x19 57 rfl q20.symm rfl ?_
        by_cases b22 : x6 = x19
        · refine k_c2 60 rfl rfl (if_pos b22) ?_
          have b22 : gl (Av 37) (v5) = (2 + v4) := by have h9 := iv_eq.mp b22; rw [e14] at h9; rw [e21] at h9; exact h9
          refine k_aload 61 rfl (gs_ne rfl rfl g0) rfl ?_
          refine k_iload 62 rfl (gs_ne rfl rfl g2) rfl ?_
          refine k_iload 63 rfl (gs_ne rfl rfl g3) rfl ?_
          refine k_iload 65 rfl (gs_ne rfl rfl g4) rfl ?_
          refine k_xq I12 rfl (n_X2_putArgument_37 hv2 hv3 hv4  (by exact f32) (by exact f33) (by omega) (by omega) (fun q => by rw [ll9]; exact hC q) I12.1) rfl rfl rfl (I12.T.rc oc32 rfl) (okL_set (i := 6) (v := .inl x6) rfl L13) so_n ?_
          rintro x23 h24 c25 s26 F27 A28 I29 L30 e31
          have z34 := iv_01 (x := x23) (e31.1)
          obtain ⟨n32, q33⟩ : ∃ n : Int, x23.toInt = n := ⟨_, rfl⟩
          try rw [q33] at e31
          show am_Ok _ _ _ (68, _, [.inl x23], _, c25, s26) _
          refine k_istore 70 rfl rfl ?_
          refine k_goto 100 rfl rfl ?_
          have st9 : PA (n32) (Av 39) ((A28) 39) (fS (slc (A0 37) n2 n3) (gl (A0 37) v5) v4) := by rw [fS_1 (by omega) (by omega)]; have h9 := e31.2.1; rw [ll9, i1.1, i1.2.1] at h9; exact h9
          have fr9 : ∀ j : Nat, j ≠ 35 → j ≠ 39 → (A28) j = Av j := e31.2.2.2
          have ff9 : (F27) = Fv := e31.2.2.1
          refine k_iload 102 rfl gs_eq rfl ?_
          by_cases b35 : x23 = 0
          · refine k_c1 105 rfl rfl (if_pos b35) ?_
            have b35 : n32 = 0 := by have h9 := iv_eq0.mp b35; rw [q33] at h9; exact h9
            refine k_push 106 rfl rfl ?_
            have hc36 : (0 : Int32).toInt = 0 := by decide
            exact k_fin rfl (fin_Z (Or.inl rfl)) ⟨_, _, _, _, _, _, rfl, I29, (by (try rw [hc36]); show ((0 : Int) = 0 ∨ (0 : Int) = 1) ∧ PA (0) (A0 39) (A28 39) (sbl (slc (A0 37) n2 n3) (slc (A0 37) n1 n2) 0 []) ∧ F27 = F0 ∧ ∀ j : Nat, j ≠ 33 → j ≠ 35 → j ≠ 39 → A28 j = A0 j; obtain ⟨q9, hq9⟩ := j1.full (by omega) (by omega) (by omega); have h9 := st9.zz b35; exact ⟨Or.inl rfl, PA.no (by rw [sbl_gN]; exact hq9) (by omega) rfl, ff9.trans i2, fun j h1 h2 h3 => (fr9 j h2 h3).trans (i3 j h1 h2 h3)⟩)⟩
          · refine k_c1 107 rfl rfl (if_neg b35) ?_
            have b35 : ¬ (n32 = 0) := by have h9 := mt iv_eq0.mpr b35; rw [q33] at h9; exact h9
            refine k_iload 109 rfl (gs_ne rfl rfl gs_eq) rfl ?_
            refine k_iload 111 rfl (gs_ne rfl rfl (gs_ne rfl rfl g4)) rfl ?_
            refine k_aload 112 rfl (gs_ne rfl rfl (gs_ne rfl rfl g0)) rfl ?_
            refine x_gF 33 I29 115 rfl rfl (by decide) rfl ?_
            refine k_xq I29 rfl (n_X2_depthBehind_33 e14 hv4  (by omega) (by rw [fr9 33 (by decide) (by decide)]; omega) I29.1) rfl rfl rfl rfl (okL_set (i := 7) (v := .inl x23) rfl L30) so_n ?_
            rintro x37 h38 c39 s40 F41 A42 I43 L44 e45
            obtain ⟨n46, q47⟩ : ∃ n : Int, x37.toInt = n := ⟨_, rfl⟩
            try rw [q47] at e45
            show am_Ok _ _ _ (118, _, [.inl x37], _, c39, s40) _
            obtain ⟨w1, w2, w3, w4⟩ := e45
            rw [fr9 33 (by decide) (by decide), gg9] at w1 w2
            refine k_istore 120 rfl rfl ?_
            have hc48 : (1 : Int32).toInt = 1 := by decide
            obtain ⟨x49, q50⟩ : ∃ q : Int32, q = u5 + (1 : Int32) := ⟨_, rfl⟩
            have e51 : x49.toInt = (v5 + 1) := bx_add q50 hv5 hc48 (by omega) (by omega)
            refine k_iinc x49 123 rfl (gs_ne rfl rfl (gs_ne rfl rfl (gs_ne rfl rfl g5))) q50.symm rfl ?_
            refine k_goto 14 rfl rfl ?_
            exact ih _ (by omega)  (Fv := F41) (Av := A42) (v2 := v2) (v3 := v3) (v4 := n46) (v5 := (v5 + 1)) rfl (gs_ne rfl rfl (gs_ne rfl rfl (gs_ne rfl rfl (gs_ne rfl rfl g0)))) (gs_ne rfl rfl (gs_ne rfl rfl (gs_ne rfl rfl (gs_ne rfl rfl g2)))) (gs_ne rfl rfl (gs_ne rfl rfl (gs_ne rfl rfl (gs_ne rfl rfl g3)))) (gs_ne rfl rfl gs_eq) gs_eq hv2 hv3 q47 e51 I43 (okL_set (i := 5) (v := .inl x49) rfl (okL_set (i := 4) (v := .inl x37) rfl L44)) (by omega) (w3.trans (ff9.trans i2)) (fun j h1 h2 h3 => (w4 j h1).trans ((fr9 j h2 h3).trans (i3 j h1 h2 h3))) (⟨g9 ++ fS (slc (A0 37) n2 n3) (gl (A0 37) v5) v4, by (have h9 := j1.s (by omega) (by omega) (by omega); rw [← w2, ← w1] at h9; exact h9), (w4 39 (by decide)).trans (by rw [(st9.oo b35).1, j2, List.append_assoc])⟩)
        · refine k_c2 73 rfl rfl (if_neg b22) ?_
          have b22 : ¬ (gl (Av 37) (v5) = (2 + v4)) := by have h9 := mt iv_eq.mpr b22; rw [e14] at h9; rw [e21] at h9; exact h9
          refine k_aload 74 rfl (gs_ne rfl rfl g0) rfl ?_
          refine x_gO (τ := 3) I12 77 rfl oc32 rfl rfl rfl rfl (fun r52 (e53 : (r52 : Int) = Fv 3203) o54 => ?_)
          obtain rfl : r52 = 39 := by omega
          refine k_iload 79 rfl gs_eq rfl ?_
          refine k_push 80 rfl rfl ?_
          refine k_iload 82 rfl (gs_ne rfl rfl g4) rfl ?_
          obtain ⟨x55, q56⟩ : ∃ q : Int32, q = (2 : Int32) + u4 := ⟨_, rfl⟩
          have e57 : x55.toInt = (2 + v4) := bx_add q56 hc17 hv4 (by omega) (by omega)
          refine k_bin x55 83 rfl q56.symm rfl ?_
          by_cases b58 : x55 ≤ x6
          · refine k_c2 91 rfl rfl (if_pos b58) ?_
            have b58 : (2 + v4) ≤ gl (Av 37) (v5) := by have h9 := iv_le.mp b58; rw [e14] at h9; rw [e57] at h9; exact h9
            refine k_iload 93 rfl gs_eq rfl ?_
            refine k_push 94 rfl rfl ?_
            have hc59 : (1 : Int32).toInt = 1 := by decide
            obtain ⟨x60, q61⟩ : ∃ q : Int32, q = x6 - (1 : Int32) := ⟨_, rfl⟩
            have e62 : x60.toInt = (gl (Av 37) (v5) - 1) := bx_sub q61 e14 hc59 (by omega) (by omega)
            refine k_bin x60 95 rfl q61.symm rfl ?_
            refine k_xq I12 rfl (y_add e62 I12.1 or39) rfl rfl rfl (ty_H.rc3 I12.T or39) (okL_set (i := 6) (v := .inl x6) rfl L13) so_n ?_
            rintro x63 h64 c65 s66 F67 A68 I69 L70 ⟨e71, k72, k73⟩
            replace k72 := k72.symm
            subst k72
            replace k73 := k73.symm
            subst k73
            have z74 := iv_01 (x := x63) (by rw [e71]; exact (addr_01))
            show am_Ok _ _ _ (98, _, [.inl x63], _, c65, s66) _
            refine k_istore 100 rfl rfl ?_
            have st9 : PA (addr 39 Av) (Av 39) (((addl 39 Av ((gl (Av 37) (v5) - 1)))) 39) (fS (slc (A0 37) n2 n3) (gl (A0 37) v5) v4) := by first | (rw [fS_0 (x := gl (Av 37) (v5)) (by omega) (by omega)]; exact ad_PA mo39 cp39) | (rw [fS_2 (x := gl (Av 37) (v5)) (by omega) (by omega) (by omega)]; exact ad_PA mo39 cp39) | (rw [fS_3 (x := gl (Av 37) (v5) - 1) (by omega) (by omega) (by omega)]; exact ad_PA mo39 cp39)
            have fr9 : ∀ j : Nat, j ≠ 35 → j ≠ 39 → ((addl 39 Av ((gl (Av 37) (v5) - 1)))) j = Av j := fun j h1 h2 => addl_ne h2
            have ff9 : (Fv) = Fv := rfl
            refine k_iload 102 rfl gs_eq rfl ?_
            by_cases b75 : x63 = 0
            · refine k_c1 105 rfl rfl (if_pos b75) ?_
              have b75 : addr 39 Av = 0 := by have h9 := iv_eq0.mp b75; rw [e71] at h9; exact h9
              refine k_push 106 rfl rfl ?_
              have hc76 : (0 : Int32).toInt = 0 := by decide
              exact k_fin rfl (fin_Z (Or.inl rfl)) ⟨_, _, _, _, _, _, rfl, I69, (by (try rw [hc76]); show ((0 : Int) = 0 ∨ (0 : Int) = 1) ∧ PA (0) (A0 39) (((addl 39 Av ((gl (Av 37) (v5) - 1)))) 39) (sbl (slc (A0 37) n2 n3) (slc (A0 37) n1 n2) 0 []) ∧ Fv = F0 ∧ ∀ j : Nat, j ≠ 33 → j ≠ 35 → j ≠ 39 → ((addl 39 Av ((gl (Av 37) (v5) - 1)))) j = A0 j; obtain ⟨q9, hq9⟩ := j1.full (by omega) (by omega) (by omega); have h9 := st9.zz b75; exact ⟨Or.inl rfl, PA.no (by rw [sbl_gN]; exact hq9) (by omega) rfl, ff9.trans i2, fun j h1 h2 h3 => (fr9 j h2 h3).trans (i3 j h1 h2 h3)⟩)⟩
            · refine k_c1 107 rfl rfl (if_neg b75) ?_
              have b75 : ¬ (addr 39 Av = 0) := by have h9 := mt iv_eq0.mpr b75; rw [e71] at h9; exact h9
              refine k_iload 109 rfl (gs_ne rfl rfl gs_eq) rfl ?_
              refine k_iload 111 rfl (gs_ne rfl rfl (gs_ne rfl rfl g4)) rfl ?_
              refine k_aload 112 rfl (gs_ne rfl rfl (gs_ne rfl rfl g0)) rfl ?_
              refine x_gF 33 I69 115 rfl rfl (by decide) rfl ?_
              refine k_xq I69 rfl (n_X2_depthBehind_33 e14 hv4  (by omega) (by rw [fr9 33 (by decide) (by decide)]; omega) I69.1) rfl rfl rfl rfl (okL_set (i := 7) (v := .inl x63) rfl L70) so_n ?_
              rintro x77 h78 c79 s80 F81 A82 I83 L84 e85
              obtain ⟨n86, q87⟩ : ∃ n : Int, x77.toInt = n := ⟨_, rfl⟩
              try rw [q87] at e85
              show am_Ok _ _ _ (118, _, [.inl x77], _, c79, s80) _
              obtain ⟨w1, w2, w3, w4⟩ := e85
              rw [fr9 33 (by decide) (by decide), gg9] at w1 w2
              refine k_istore 120 rfl rfl ?_
              obtain ⟨x88, q89⟩ : ∃ q : Int32, q = u5 + (1 : Int32) := ⟨_, rfl⟩
              have e90 : x88.toInt = (v5 + 1) := bx_add q89 hv5 hc59 (by omega) (by omega)
              refine k_iinc x88 123 rfl (gs_ne rfl rfl (gs_ne rfl rfl (gs_ne rfl rfl g5))) q89.symm rfl ?_
              refine k_goto 14 rfl rfl ?_
              exact ih _ (by omega)  (Fv := F81) (Av := A82) (v2 := v2) (v3 := v3) (v4 := n86) (v5 := (v5 + 1)) rfl (gs_ne rfl rfl (gs_ne rfl rfl (gs_ne rfl rfl (gs_ne rfl rfl g0)))) (gs_ne rfl rfl (gs_ne rfl rfl (gs_ne rfl rfl (gs_ne rfl rfl g2)))) (gs_ne rfl rfl (gs_ne rfl rfl (gs_ne rfl rfl (gs_ne rfl rfl g3)))) (gs_ne rfl rfl gs_eq) gs_eq hv2 hv3 q87 e90 I83 (okL_set (i := 5) (v := .inl x88) rfl (okL_set (i := 4) (v := .inl x77) rfl L84)) (by omega) (w3.trans (ff9.trans i2)) (fun j h1 h2 h3 => (w4 j h1).trans ((fr9 j h2 h3).trans (i3 j h1 h2 h3))) (⟨g9 ++ fS (slc (A0 37) n2 n3) (gl (A0 37) v5) v4, by (have h9 := j1.s (by omega) (by omega) (by omega); rw [← w2, ← w1] at h9; exact h9), (w4 39 (by decide)).trans (by rw [(st9.oo b75).1, j2, List.append_assoc])⟩)
          · refine k_c2 86 rfl rfl (if_neg b58) ?_
            have b58 : ¬ ((2 + v4) ≤ gl (Av 37) (v5)) := by have h9 := mt iv_le.mpr b58; rw [e14] at h9; rw [e57] at h9; exact h9
            refine k_iload 88 rfl gs_eq rfl ?_
            refine k_goto 95 rfl rfl ?_
            refine k_xq I12 rfl (y_add e14 I12.1 or39) rfl rfl rfl (ty_H.rc3 I12.T or39) (okL_set (i := 6) (v := .inl x6) rfl L13) so_n ?_
            rintro x91 h92 c93 s94 F95 A96 I97 L98 ⟨e99, k100, k101⟩
            replace k100 := k100.symm
            subst k100
            replace k101 := k101.symm
            subst k101
            have z102 := iv_01 (x := x91) (by rw [e99]; exact (addr_01))
            show am_Ok _ _ _ (98, _, [.inl x91], _, c93, s94) _
            refine k_istore 100 rfl rfl ?_
            have st9 : PA (addr 39 Av) (Av 39) (((addl 39 Av (gl (Av 37) (v5)))) 39) (fS (slc (A0 37) n2 n3) (gl (A0 37) v5) v4) := by first | (rw [fS_0 (x := gl (Av 37) (v5)) (by omega) (by omega)]; exact ad_PA mo39 cp39) | (rw [fS_2 (x := gl (Av 37) (v5)) (by omega) (by omega) (by omega)]; exact ad_PA mo39 cp39) | (rw [fS_3 (x := gl (Av 37) (v5) - 1) (by omega) (by omega) (by omega)]; exact ad_PA mo39 cp39)
            have fr9 : ∀ j : Nat, j ≠ 35 → j ≠ 39 → ((addl 39 Av (gl (Av 37) (v5)))) j = Av j := fun j h1 h2 => addl_ne h2
            have ff9 : (Fv) = Fv := rfl
            refine k_iload 102 rfl gs_eq rfl ?_
            by_cases b103 : x91 = 0
            · refine k_c1 105 rfl rfl (if_pos b103) ?_
              have b103 : addr 39 Av = 0 := by have h9 := iv_eq0.mp b103; rw [e99] at h9; exact h9
              refine k_push 106 rfl rfl ?_
              have hc104 : (0 : Int32).toInt = 0 := by decide
              exact k_fin rfl (fin_Z (Or.inl rfl)) ⟨_, _, _, _, _, _, rfl, I97, (by (try rw [hc104]); show ((0 : Int) = 0 ∨ (0 : Int) = 1) ∧ PA (0) (A0 39) (((addl 39 Av (gl (Av 37) (v5)))) 39) (sbl (slc (A0 37) n2 n3) (slc (A0 37) n1 n2) 0 []) ∧ Fv = F0 ∧ ∀ j : Nat, j ≠ 33 → j ≠ 35 → j ≠ 39 → ((addl 39 Av (gl (Av 37) (v5)))) j = A0 j; obtain ⟨q9, hq9⟩ := j1.full (by omega) (by omega) (by omega); have h9 := st9.zz b103; exact ⟨Or.inl rfl, PA.no (by rw [sbl_gN]; exact hq9) (by omega) rfl, ff9.trans i2, fun j h1 h2 h3 => (fr9 j h2 h3).trans (i3 j h1 h2 h3)⟩)⟩
            · refine k_c1 107 rfl rfl (if_neg b103) ?_
              have b103 : ¬ (addr 39 Av = 0) := by have h9 := mt iv_eq0.mpr b103; rw [e99] at h9; exact h9
              refine k_iload 109 rfl (gs_ne rfl rfl gs_eq) rfl ?_
              refine k_iload 111 rfl (gs_ne rfl rfl (gs_ne rfl rfl g4)) rfl ?_
              refine k_aload 112 rfl (gs_ne rfl rfl (gs_ne rfl rfl g0)) rfl ?_
              refine x_gF 33 I97 115 rfl rfl (by decide) rfl ?_
              refine k_xq I97 rfl (n_X2_depthBehind_33 e14 hv4  (by omega) (by rw [fr9 33 (by decide) (by decide)]; omega) I97.1) rfl rfl rfl rfl (okL_set (i := 7) (v := .inl x91) rfl L98) so_n ?_
              rintro x105 h106 c107 s108 F109 A110 I111 L112 e113
              obtain ⟨n114, q115⟩ : ∃ n : Int, x105.toInt = n := ⟨_, rfl⟩
              try rw [q115] at e113
              show am_Ok _ _ _ (118, _, [.inl x105], _, c107, s108) _
              obtain ⟨w1, w2, w3, w4⟩ := e113
              rw [fr9 33 (by decide) (by decide), gg9] at w1 w2
              refine k_istore 120 rfl rfl ?_
              have hc116 : (1 : Int32).toInt = 1 := by decide
              obtain ⟨x117, q118⟩ : ∃ q : Int32, q = u5 + (1 : Int32) := ⟨_, rfl⟩
              have e119 : x117.toInt = (v5 + 1) := bx_add q118 hv5 hc116 (by omega) (by omega)
              refine k_iinc x117 123 rfl (gs_ne rfl rfl (gs_ne rfl rfl (gs_ne rfl rfl g5))) q118.symm rfl ?_
              refine k_goto 14 rfl rfl ?_
              exact ih _ (by omega)  (Fv := F109) (Av := A110) (v2 := v2) (v3 := v3) (v4 := n114) (v5 := (v5 + 1)) rfl (gs_ne rfl rfl (gs_ne rfl rfl (gs_ne rfl rfl (gs_ne rfl rfl g0)))) (gs_ne rfl rfl (gs_ne rfl rfl (gs_ne rfl rfl (gs_ne rfl rfl g2)))) (gs_ne rfl rfl (gs_ne rfl rfl (gs_ne rfl rfl (gs_ne rfl rfl g3)))) (gs_ne rfl rfl gs_eq) gs_eq hv2 hv3 q115 e119 I111 (okL_set (i := 5) (v := .inl x117) rfl (okL_set (i := 4) (v := .inl x105) rfl L112)) (by omega) (w3.trans (ff9.trans i2)) (fun j h1 h2 h3 => (w4 j h1).trans ((fr9 j h2 h3).trans (i3 j h1 h2 h3))) (⟨g9 ++ fS (slc (A0 37) n2 n3) (gl (A0 37) v5) v4, by (have h9 := j1.s (by omega) (by omega) (by omega); rw [← w2, ← w1] at h9; exact h9), (w4 39 (by decide)).trans (by rw [(st9.oo b103).1, j2, List.append_assoc])⟩)
      · refine k_c2 37 rfl rfl (if_neg b18) ?_
        have b18 : ¬ (2 ≤ gl (Av 37) (v5)) := by have h9 := mt iv_le.mpr b18; rw [e14] at h9; rw [hc17] at h9; exact h9
        refine k_aload 38 rfl (gs_ne rfl rfl g0) rfl ?_
        refine x_gO (τ := 3) I12 41 rfl oc32 rfl rfl rfl rfl (fun r120 (e121 : (r120 : Int) = Fv 3203) o122 => ?_)
        obtain rfl : r120 = 39 := by omega
        refine k_iload 43 rfl gs_eq rfl ?_
        refine k_xq I12 rfl (y_add e14 I12.1 or39) rfl rfl rfl (ty_H.rc3 I12.T or39) (okL_set (i := 6) (v := .inl x6) rfl L13) so_n ?_
        rintro x123 h124 c125 s126 F127 A128 I129 L130 ⟨e131, k132, k133⟩
        replace k132 := k132.symm
        subst k132
        replace k133 := k133.symm
        subst k133
        have z134 := iv_01 (x := x123) (by rw [e131]; exact (addr_01))
        show am_Ok _ _ _ (46, _, [.inl x123], _, c125, s126) _
        refine k_istore 48 rfl rfl ?_
        refine k_goto 100 rfl rfl ?_
        have st9 : PA (addr 39 Av) (Av 39) (((addl 39 Av (gl (Av 37) (v5)))) 39) (fS (slc (A0 37) n2 n3) (gl (A0 37) v5) v4) := by first | (rw [fS_0 (x := gl (Av 37) (v5)) (by omega) (by omega)]; exact ad_PA mo39 cp39) | (rw [fS_2 (x := gl (Av 37) (v5)) (by omega) (by omega) (by omega)]; exact ad_PA mo39 cp39) | (rw [fS_3 (x := gl (Av 37) (v5) - 1) (by omega) (by omega) (by omega)]; exact ad_PA mo39 cp39)
        have fr9 : ∀ j : Nat, j ≠ 35 → j ≠ 39 → ((addl 39 Av (gl (Av 37) (v5)))) j = Av j := fun j h1 h2 => addl_ne h2
        have ff9 : (Fv) = Fv := rfl
        refine k_iload 102 rfl gs_eq rfl ?_
        by_cases b135 : x123 = 0
        · refine k_c1 105 rfl rfl (if_pos b135) ?_
          have b135 : addr 39 Av = 0 := by have h9 := iv_eq0.mp b135; rw [e131] at h9; exact h9
          refine k_push 106 rfl rfl ?_
          have hc136 : (0 : Int32).toInt = 0 := by decide
          exact k_fin rfl (fin_Z (Or.inl rfl)) ⟨_, _, _, _, _, _, rfl, I129, (by (try rw [hc136]); show ((0 : Int) = 0 ∨ (0 : Int) = 1) ∧ PA (0) (A0 39) (((addl 39 Av (gl (Av 37) (v5)))) 39) (sbl (slc (A0 37) n2 n3) (slc (A0 37) n1 n2) 0 []) ∧ Fv = F0 ∧ ∀ j : Nat, j ≠ 33 → j ≠ 35 → j ≠ 39 → ((addl 39 Av (gl (Av 37) (v5)))) j = A0 j; obtain ⟨q9, hq9⟩ := j1.full (by omega) (by omega) (by omega); have h9 := st9.zz b135; exact ⟨Or.inl rfl, PA.no (by rw [sbl_gN]; exact hq9) (by omega) rfl, ff9.trans i2, fun j h1 h2 h3 => (fr9 j h2 h3).trans (i3 j h1 h2 h3)⟩)⟩
        · refine k_c1 107 rfl rfl (if_neg b135) ?_
          have b135 : ¬ (addr 39 Av = 0) := by have h9 := mt iv_eq0.mpr b135; rw [e131] at h9; exact h9
          refine k_iload 109 rfl (gs_ne rfl rfl gs_eq) rfl ?_
          refine k_iload 111 rfl (gs_ne rfl rfl (gs_ne rfl rfl g4)) rfl ?_
          refine k_aload 112 rfl (gs_ne rfl rfl (gs_ne rfl rfl g0)) rfl ?_
          refine x_gF 33 I129 115 rfl rfl (by decide) rfl ?_
          refine k_xq I129 rfl (n_X2_depthBehind_33 e14 hv4  (by omega) (by rw [fr9 33 (by decide) (by decide)]; omega) I129.1) rfl rfl rfl rfl (okL_set (i := 7) (v := .inl x123) rfl L130) so_n ?_
          rintro x137 h138 c139 s140 F141 A142 I143 L144 e145
          obtain ⟨n146, q147⟩ : ∃ n : Int, x137.toInt = n := ⟨_, rfl⟩
          try rw [q147] at e145
          show am_Ok _ _ _ (118, _, [.inl x137], _, c139, s140) _
          obtain ⟨w1, w2, w3, w4⟩ := e145
          rw [fr9 33 (by decide) (by decide), gg9] at w1 w2
          refine k_istore 120 rfl rfl ?_
          have hc148 : (1 : Int32).toInt = 1 := by decide
          obtain ⟨x149, q150⟩ : ∃ q : Int32, q = u5 + (1 : Int32) := ⟨_, rfl⟩
          have e151 : x149.toInt = (v5 + 1) := bx_add q150 hv5 hc148 (by omega) (by omega)
          refine k_iinc x149 123 rfl (gs_ne rfl rfl (gs_ne rfl rfl (gs_ne rfl rfl g5))) q150.symm rfl ?_
          refine k_goto 14 rfl rfl ?_
          exact ih _ (by omega)  (Fv := F141) (Av := A142) (v2 := v2) (v3 := v3) (v4 := n146) (v5 := (v5 + 1)) rfl (gs_ne rfl rfl (gs_ne rfl rfl (gs_ne rfl rfl (gs_ne rfl rfl g0)))) (gs_ne rfl rfl (gs_ne rfl rfl (gs_ne rfl rfl (gs_ne rfl rfl g2)))) (gs_ne rfl rfl (gs_ne rfl rfl (gs_ne rfl rfl (gs_ne rfl rfl g3)))) (gs_ne rfl rfl gs_eq) gs_eq hv2 hv3 q147 e151 I143 (okL_set (i := 5) (v := .inl x149) rfl (okL_set (i := 4) (v := .inl x137) rfl L144)) (by omega) (w3.trans (ff9.trans i2)) (fun j h1 h2 h3 => (w4 j h1).trans ((fr9 j h2 h3).trans (i3 j h1 h2 h3))) (⟨g9 ++ fS (slc (A0 37) n2 n3) (gl (A0 37) v5) v4, by (have h9 := j1.s (by omega) (by omega) (by omega); rw [← w2, ← w1] at h9; exact h9), (w4 39 (by decide)).trans (by rw [(st9.oo b135).1, j2, List.append_assoc])⟩)
theorem n_X2_putIn_37 {h0 : am_h} {F0 : rf_f} {A0 : xl_A} {w1 : Int32} {n1 : Int} (hn1 : w1.toInt = n1) {w2 : Int32} {n2 : Int} (hn2 : w2.toInt = n2) {w3 : Int32} {n3 : Int} (hn3 : w3.toInt = n3)  (hn : F0 3202 = 37) (hs : F0 3203 = 39) (hp : 0 ≤ n1 ∧ n1 ≤ n2 ∧ n2 ≤ n3 ∧ n3 ≤ ((A0 37).length : Int)) (hC : ∀ q : Int, 0 ≤ gl (A0 37) q ∧ gl (A0 37) q ≤ 1000000) (hR : xR h0 F0 A0) : am_Mt 5 45 [.inr (.inr (some 32)), .inl w1, .inl w2, .inl w3] h0 (xQ h0 (fun x F' A' => ((x : Int) = 0 ∨ (x : Int) = 1) ∧ PA (x) (A0 39) (A' 39) (sbl (slc (A0 37) n2 n3) (slc (A0 37) n1 n2) 0 []) ∧ F' = F0 ∧ ∀ j : Nat, j ≠ 33 → j ≠ 35 → j ≠ 39 → A' j = A0 j)) := by
  refine am_Mt.of (D := 4) ?_
  have hI : xI h0 (ob_P h0) h0 0 0 F0 A0 := xI.start hR
  have hL : am_okL h0.length (am_args 0 [.inr (.inr (some 32)), .inl w1, .inl w2, .inl w3]) = true := (okA_r hI.T oc32 (okA_i (okA_i (okA_i okA_n))))
  refine k_aload 1 rfl rfl rfl ?_
  refine x_gF 33 hI 4 rfl rfl (by decide) rfl ?_
  refine k_push 5 rfl rfl ?_
  have hc152 : (0 : Int32).toInt = 0 := by decide
  refine k_xv hI rfl (y_cut hc152 hI.1 or33) rfl rfl rfl (ty_H.rc3 hI.T or33) hL so_n ?_
  rintro h154 c155 s156 F157 A158 I159 L160 ⟨k162, k163⟩
  replace k162 := k162.symm
  subst k162
  replace k163 := k163.symm
  subst k163
  show am_Ok _ _ _ (8, _, [], _, c155, s156) _
  refine k_push 9 rfl rfl ?_
  refine k_istore 11 rfl rfl ?_
  refine k_iload 12 rfl (gs_ne rfl rfl rfl) rfl ?_
  refine k_istore 14 rfl rfl ?_
  exact yl_X2_putIn_37_14 hn1 hn2 hn3  hn hs hp hC _  (Fv := F0) (Av := (upl A0 33 (cutl (A0 33) (0)))) (v2 := n2) (v3 := n3) (v4 := 0) (v5 := n1) rfl (gs_ne rfl rfl (gs_ne rfl rfl rfl)) (gs_ne rfl rfl (gs_ne rfl rfl rfl)) (gs_ne rfl rfl (gs_ne rfl rfl rfl)) (gs_ne rfl rfl gs_eq) gs_eq hn2 hn3 hc152 hn1 I159 (okL_set (i := 5) (v := .inl w1) rfl (okL_set (i := 4) (v := .inl (0 : Int32)) rfl L160)) (by omega) (rfl) (fun j h1 h2 h3 => upl_ne h1) (⟨[], RA.z (by rw [upl_eq]; exact cutl_0), by rw [upl_ne (by decide), List.append_nil]⟩)
theorem yl_X2_putArgument_39_14 {h0 : am_h} {F0 : rf_f} {A0 : xl_A} {w1 : Int32} {n1 : Int} (hn1 : w1.toInt = n1) {w2 : Int32} {n2 : Int} (hn2 : w2.toInt = n2) {w3 : Int32} {n3 : Int} (hn3 : w3.toInt = n3)  (hn : F0 3202 = 39) (hs : F0 3203 = 37) (hp : 0 ≤ n1 ∧ n1 ≤ n2 ∧ n2 ≤ ((A0 39).length : Int)) (pr3 : 0 ≤ n3 ∧ n3 ≤ 1000) (hC : ∀ q : Int, 0 ≤ gl (A0 39) q ∧ gl (A0 39) q ≤ 1000000) : ∀ (n : Nat) {lv : am_l} {h : am_h} {c s : Nat} {u2 : Int32} {v2 : Int} {u3 : Int32} {v3 : Int} {u4 : Int32} {v4 : Int} {u5 : Int32} {v5 : Int} {Fv : rf_f} {Av : xl_A}, ((1001 - v5).toNat) = n → am_get lv 0 = some (.inr (.inr (some 32))) → am_get lv 2 = some (.inl u2) → am_get lv 3 = some (.inl u3) → am_get lv 4 = some (.inl u4) → am_get lv 5 = some (.inl u5) → u2.toInt = v2 → u3.toInt = v3 → u4.toInt = v4 → u5.toInt = v5 → xI h0 (ob_P h0) h c s Fv Av → am_okL h.length lv = true → (v2 = n2 ∧ v3 = n3 ∧ n1 ≤ v5 ∧ v5 ≤ n2) → (Fv = F0) → (∀ j : Nat, j ≠ 35 → j ≠ 37 → Av j = A0 j) → (∃ g9 : List Int, RA (fR n3) (A0 39) n1 n2 v5 v4 (Av 35) g9 ∧ Av 37 = A0 37 ++ g9) → am_Ok am_G 3 46 (14, lv, [], h, c, s) (xQ h0 (fun x F' A' => ((x : Int) = 0 ∨ (x : Int) = 1) ∧ PA (x) (A0 37) (A' 37) (rsl n3 (slc (A0 39) n1 n2) 0 []) ∧ F' = F0 ∧ ∀ j : Nat, j ≠ 35 → j ≠ 37 → A' j = A0 j)) := by
  intro n
  induction n using Nat.strongRecOn with
  | ind n ih =>
    intro lv h c s u2 v2 u3 v3 u4 v4 u5 v5  Fv Av hm g0 g2 g3 g4 g5 hv2 hv3 hv4 hv5 hI hL i1 i2 i3 i4
    obtain ⟨g9, j1, j2⟩ := i4
    have ll9 : Av 39 = A0 39 := i3 39 (by decide) (by decide)
    have lk9 : (Av 39).length = (A0 39).length := by rw [ll9]
    have f32 : Fv 3202 = 39 := by rw [i2]; exact hn
    have f33 : Fv 3203 = 37 := by rw [i2]; exact hs
    have cp39 := hI.cap or39
    rw [mo39] at cp39
    have cp37 := hI.cap or37
    rw [mo37] at cp37
    obtain ⟨rb1, rb2⟩ := j1.bd
    have hc9 := hC v5
    have gg9 : gl (Av 39) v5 = gl (A0 39) v5 := by rw [ll9]
    have jl9 : ((Av 37).length : Int) = ((A0 37).length : Int) + (g9.length : Int) := by rw [j2, List.length_append]; omega
    refine k_iload 16 rfl g5 rfl ?_
    refine k_iload 17 rfl g2 rfl ?_
    by_cases b1 : u2 ≤ u5
    · refine k_c2 80 rfl rfl (if_pos b1) ?_
      have b1 : v2 ≤ v5 := by have h9 := iv_le.mp b1; rw [hv5] at h9; rw [hv2] at h9; exact h9
      refine k_push 81 rfl rfl ?_
      have hc2 : (1 : Int32).toInt = 1 := by decide
      exact k_fin rfl (fin_Z (Or.inr rfl)) ⟨_, _, _, _, _, _, rfl, hI, (by (try rw [hc2]); show ((1 : Int) = 0 ∨ (1 : Int) = 1) ∧ PA (1) (A0 37) (Av 37) (rsl n3 (slc (A0 39) n1 n2) 0 []) ∧ Fv = F0 ∧ ∀ j : Nat, j ≠ 35 → j ≠ 37 → Av j = A0 j; have h9 := j1.e (by omega); exact ⟨Or.inr rfl, PA.yes rfl (by rw [j2, h9, rsl_gN]) cp37, i2, i3⟩)⟩
    · refine k_c2 20 rfl rfl (if_neg b1) ?_
      have b1 : ¬ (v2 ≤ v5) := by have h9 := mt iv_le.mpr b1; rw [hv5] at h9; rw [hv2] at h9; exact h9
      refine k_aload 21 rfl g0 rfl ?_
      refine x_gO (τ := 3) hI 24 rfl oc32 rfl rfl rfl rfl (fun r3 (e4 : (r3 : Int) = Fv 3202) o5 => ?_)
      obtain rfl : r3 = 39 := by omega
      refine k_iload 26 rfl g5 rfl ?_
      refine k_xq hI rfl (y_get hv5 hI.1 or39) rfl rfl rfl (ty_H.rc3 hI.T or39) hL so_n ?_
      rintro x6 h7 c8 s9 F10 A11 I12 L13 ⟨e14, k15, k16⟩
      replace k15 := k15.symm
      subst k15
      replace k16 := k16.symm
      subst k16
      show am_Ok _ _ _ (29, _, [.inl x6], _, c8, s9) _
      refine k_istore 31 rfl rfl ?_
      refine k_aload 32 rfl (gs_ne rfl rfl g0) rfl ?_
      refine x_gO (τ := 3) I12 35 rfl oc32 rfl rfl rfl rfl (fun r17 (e18 : (r17 : Int) = Fv 3203) o19 => ?_)
      obtain rfl : r17 = 37 := by omega
      refine k_iload 37 rfl gs_eq rfl ?_
      refine k_push 38 rfl rfl ?_
      have hc20 : (2 : Int32).toInt = 2 := by decide
      refine k_iload 40 rfl (gs_ne rfl rfl g4) rfl ?_
      obtain ⟨x21, q22⟩ : ∃ q : Int32, q = (2 : Int32) + u4 := ⟨_, rfl⟩
      have e23 : x21.toInt = (2 + v4) := bx_add q22 hc20 hv4 (by omega) (by omega)
      refine k_bin x21 41 rfl q22.symm rfl ?_
      by_cases b24 : x21 ≤ x6
      · refine k_c2 49 rfl rfl (if_pos b24) ?_
        have b24 : (2 + v4) ≤ gl (Av 39) (v5) := by have h9 := iv_le.mp b24; rw [e14] at h9; rw [e23] at h9; exact h9
        refine k_iload 51 rfl gs_eq rfl ?_
        refine k_iload 52 rfl (gs_ne rfl rfl g3) rfl ?_
        obtain ⟨x25, q26⟩ : ∃ q : Int32, q = x6 + u3 := ⟨_, rfl⟩
        have e27 : x25.toInt = (gl (Av 39) (v5) + v3) := bx_add q26 e14 hv3 (by omega) (by omega)
        refine k_bin x25 53 rfl q26.symm rfl ?_
        have hfr : fR n3 (gl (A0 39) v5) v4 = [(gl (Av 39) (v5) + v3)] := by first | exact fR_lo (by omega) (by omega) | exact fR_hi (by omega) (by omega)
        refine k_xq I12 rfl (y_add e27 I12.1 or37) rfl rfl rfl (ty_H.rc3 I12.T or37) (okL_set (i := 6) (v := .inl x6) rfl L13) so_n ?_
        rintro x28 h29 c30 s31 F32 A33 I34 L35 ⟨e36, k37, k38⟩
        replace k37 := k37.symm
        subst k37
        replace k38 := k38.symm
        subst k38
        have z39 := iv_01 (x := x28) (by rw [e36]; exact (addr_01))
        show am_Ok _ _ _ (56, _, [.inl x28], _, c30, s31) _
        by_cases b40 : x28 = 0
        · refine k_c1 59 rfl rfl (if_pos b40) ?_
          have b40 : addr 37 Av = 0 := by have h9 := iv_eq0.mp b40; rw [e36] at h9; exact h9
          refine k_push 60 rfl rfl ?_
          have hc41 : (0 : Int32).toInt = 0 := by decide
          exact k_fin rfl (fin_Z (Or.inl rfl)) ⟨_, _, _, _, _, _, rfl, I34, (by (try rw [hc41]); show ((0 : Int) = 0 ∨ (0 : Int) = 1) ∧ PA (0) (A0 37) (((addl 37 Av ((gl (Av 39) (v5) + v3)))) 37) (rsl n3 (slc (A0 39) n1 n2) 0 []) ∧ Fv = F0 ∧ ∀ j : Nat, j ≠ 35 → j ≠ 37 → ((addl 37 Av ((gl (Av 39) (v5) + v3)))) j = A0 j; obtain ⟨q9, hq9⟩ := j1.full (by omega) (by omega) (by omega); have h9 := ad_n b40; rw [mo37] at h9; exact ⟨Or.inl rfl, PA.no (by rw [rsl_gN]; exact hq9) (by have h8 : (fR n3 (gl (A0 39) v5) v4).length = 1 := rfl; omega) rfl, i2, fun j h1 h2 => (addl_ne h2).trans (i3 j h1 h2)⟩)⟩
        · refine k_c1 61 rfl rfl (if_neg b40) ?_
          have b40 : ¬ (addr 37 Av = 0) := by have h9 := mt iv_eq0.mpr b40; rw [e36] at h9; exact h9
          refine k_iload 63 rfl gs_eq rfl ?_
          refine k_iload 65 rfl (gs_ne rfl rfl g4) rfl ?_
          refine k_aload 66 rfl (gs_ne rfl rfl g0) rfl ?_
          refine x_gF 35 I34 69 rfl rfl (by decide) rfl ?_
          refine k_xq I34 rfl (n_X2_depthBehind_35 e14 hv4  (by omega) (by rw [addl_ne (by decide)]; omega) I34.1) rfl rfl rfl rfl L35 so_n ?_
          rintro x42 h43 c44 s45 F46 A47 I48 L49 e50
          obtain ⟨n51, q52⟩ : ∃ n : Int, x42.toInt = n := ⟨_, rfl⟩
          try rw [q52] at e50
          show am_Ok _ _ _ (72, _, [.inl x42], _, c44, s45) _
          obtain ⟨w1, w2, w3, w4⟩ := e50
          rw [addl_ne (by decide), gg9] at w1 w2
          refine k_istore 74 rfl rfl ?_
          have hc53 : (1 : Int32).toInt = 1 := by decide
          obtain ⟨x54, q55⟩ : ∃ q : Int32, q = u5 + (1 : Int32) := ⟨_, rfl⟩
          have e56 : x54.toInt = (v5 + 1) := bx_add q55 hv5 hc53 (by omega) (by omega)
          refine k_iinc x54 77 rfl (gs_ne rfl rfl (gs_ne rfl rfl g5)) q55.symm rfl ?_
          refine k_goto 14 rfl rfl ?_
          exact ih _ (by omega)  (Fv := F46) (Av := A47) (v2 := v2) (v3 := v3) (v4 := n51) (v5 := (v5 + 1)) rfl (gs_ne rfl rfl (gs_ne rfl rfl (gs_ne rfl rfl g0))) (gs_ne rfl rfl (gs_ne rfl rfl (gs_ne rfl rfl g2))) (gs_ne rfl rfl (gs_ne rfl rfl (gs_ne rfl rfl g3))) (gs_ne rfl rfl gs_eq) gs_eq hv2 hv3 q52 e56 I48 (okL_set (i := 5) (v := .inl x54) rfl (okL_set (i := 4) (v := .inl x42) rfl L49)) (by omega) (w3.trans i2) (fun j h1 h2 => (w4 j h1).trans ((addl_ne h2).trans (i3 j h1 h2))) (⟨g9 ++ fR n3 (gl (A0 39) v5) v4, by (have h9 := j1.s (by omega) (by omega) (by omega); rw [← w2, ← w1] at h9; exact h9), (w4 37 (by decide)).trans (by rw [addl_eq (ad_y b40), j2, List.append_assoc, hfr])⟩)
      · refine k_c2 44 rfl rfl (if_neg b24) ?_
        have b24 : ¬ ((2 + v4) ≤ gl (Av 39) (v5)) := by have h9 := mt iv_le.mpr b24; rw [e14] at h9; rw [e23] at h9; exact h9
        refine k_iload 46 rfl gs_eq rfl ?_
        refine k_goto 53 rfl rfl ?_
        have hfr : fR n3 (gl (A0 39) v5) v4 = [gl (Av 39) (v5)] := by first | exact fR_lo (by omega) (by omega) | exact fR_hi (by omega) (by omega)
        refine k_xq I12 rfl (y_add e14 I12.1 or37) rfl rfl rfl (ty_H.rc3 I12.T or37) (okL_set (i := 6) (v := .inl x6) rfl L13) so_n ?_
        rintro x57 h58 c59 s60 F61 A62 I63 L64 ⟨e65, k66, k67⟩
        replace k66 := k66.symm
        subst k66
        replace k67 := k67.symm
        subst k67
        have z68 := iv_01 (x := x57) (by rw [e65]; exact (addr_01))
        show am_Ok _ _ _ (56, _, [.inl x57], _, c59, s60) _
        by_cases b69 : x57 = 0
        · refine k_c1 59 rfl rfl (if_pos b69) ?_
          have b69 : addr 37 Av = 0 := by have h9 := iv_eq0.mp b69; rw [e65] at h9; exact h9
          refine k_push 60 rfl rfl ?_
          have hc70 : (0 : Int32).toInt = 0 := by decide
          exact k_fin rfl (fin_Z (Or.inl rfl)) ⟨_, _, _, _, _, _, rfl, I63, (by (try rw [hc70]); show ((0 : Int) = 0 ∨ (0 : Int) = 1) ∧ PA (0) (A0 37) (((addl 37 Av (gl (Av 39) (v5)))) 37) (rsl n3 (slc (A0 39) n1 n2) 0 []) ∧ Fv = F0 ∧ ∀ j : Nat, j ≠ 35 → j ≠ 37 → ((addl 37 Av (gl (Av 39) (v5)))) j = A0 j; obtain ⟨q9, hq9⟩ := j1.full (by omega) (by omega) (by omega); have h9 := ad_n b69; rw [mo37] at h9; exact ⟨Or.inl rfl, PA.no (by rw [rsl_gN]; exact hq9) (by have h8 : (fR n3 (gl (A0 39) v5) v4).length = 1 := rfl; omega) rfl, i2, fun j h1 h2 => (addl_ne h2).trans (i3 j h1 h2)⟩)⟩
        · refine k_c1 61 rfl rfl (if_neg b69) ?_
          have b69 : ¬ (addr 37 Av = 0) := by have h9 := mt iv_eq0.mpr b69; rw [e65] at h9; exact h9
          refine k_iload 63 rfl gs_eq rfl ?_
          refine k_iload 65 rfl (gs_ne rfl rfl g4) rfl ?_
          refine k_aload 66 rfl (gs_ne rfl rfl g0) rfl ?_
          refine x_gF 35 I63 69 rfl rfl (by decide) rfl ?_
          refine k_xq I63 rfl (n_X2_depthBehind_35 e14 hv4  (by omega) (by rw [addl_ne (by decide)]; omega) I63.1) rfl rfl rfl rfl L64 so_n ?_
          rintro x71 h72 c73 s74 F75 A76 I77 L78 e79
          obtain ⟨n80, q81⟩ : ∃ n : Int, x71.toInt = n := ⟨_, rfl⟩
          try rw [q81] at e79
          show am_Ok _ _ _ (72, _, [.inl x71], _, c73, s74) _
          obtain ⟨w1, w2, w3, w4⟩ := e79
          rw [addl_ne (by decide), gg9] at w1 w2
          refine k_istore 74 rfl rfl ?_
          have hc82 : (1 : Int32).toInt = 1 := by decide
          obtain ⟨x83, q84⟩ : ∃ q : Int32, q = u5 + (1 : Int32) := ⟨_, rfl⟩
          have e85 : x83.toInt = (v5 + 1) := bx_add q84 hv5 hc82 (by omega) (by omega)
          refine k_iinc x83 77 rfl (gs_ne rfl rfl (gs_ne rfl rfl g5)) q84.symm rfl ?_
          refine k_goto 14 rfl rfl ?_
          exact ih _ (by omega)  (Fv := F75) (Av := A76) (v2 := v2) (v3 := v3) (v4 := n80) (v5 := (v5 + 1)) rfl (gs_ne rfl rfl (gs_ne rfl rfl (gs_ne rfl rfl g0))) (gs_ne rfl rfl (gs_ne rfl rfl (gs_ne rfl rfl g2))) (gs_ne rfl rfl (gs_ne rfl rfl (gs_ne rfl rfl g3))) (gs_ne rfl rfl gs_eq) gs_eq hv2 hv3 q81 e85 I77 (okL_set (i := 5) (v := .inl x83) rfl (okL_set (i := 4) (v := .inl x71) rfl L78)) (by omega) (w3.trans i2) (fun j h1 h2 => (w4 j h1).trans ((addl_ne h2).trans (i3 j h1 h2))) (⟨g9 ++ fR n3 (gl (A0 39) v5) v4, by (have h9 := j1.s (by omega) (by omega) (by omega); rw [← w2, ← w1] at h9; exact h9), (w4 37 (by decide)).trans (by rw [addl_eq (ad_y b69), j2, List.append_assoc, hfr])⟩)
theorem n_X2_putArgument_39 {h0 : am_h} {F0 : rf_f} {A0 : xl_A} {w1 : Int32} {n1 : Int} (hn1 : w1.toInt = n1) {w2 : Int32} {n2 : Int} (hn2 : w2.toInt = n2) {w3 : Int32} {n3 : Int} (hn3 : w3.toInt = n3)  (hn : F0 3202 = 39) (hs : F0 3203 = 37) (hp : 0 ≤ n1 ∧ n1 ≤ n2 ∧ n2 ≤ ((A0 39).length : Int)) (pr3 : 0 ≤ n3 ∧ n3 ≤ 1000) (hC : ∀ q : Int, 0 ≤ gl (A0 39) q ∧ gl (A0 39) q ≤ 1000000) (hR : xR h0 F0 A0) : am_Mt 4 46 [.inr (.inr (some 32)), .inl w1, .inl w2, .inl w3] h0 (xQ h0 (fun x F' A' => ((x : Int) = 0 ∨ (x : Int) = 1) ∧ PA (x) (A0 37) (A' 37) (rsl n3 (slc (A0 39) n1 n2) 0 []) ∧ F' = F0 ∧ ∀ j : Nat, j ≠ 35 → j ≠ 37 → A' j = A0 j)) := by
  refine am_Mt.of (D := 3) ?_
  have hI : xI h0 (ob_P h0) h0 0 0 F0 A0 := xI.start hR
  have hL : am_okL h0.length (am_args 0 [.inr (.inr (some 32)), .inl w1, .inl w2, .inl w3]) = true := (okA_r hI.T oc32 (okA_i (okA_i (okA_i okA_n))))
  refine k_aload 1 rfl rfl rfl ?_
  refine x_gF 35 hI 4 rfl rfl (by decide) rfl ?_
  refine k_push 5 rfl rfl ?_
  have hc86 : (0 : Int32).toInt = 0 := by decide
  refine k_xv hI rfl (y_cut hc86 hI.1 or35) rfl rfl rfl (ty_H.rc3 hI.T or35) hL so_n ?_
  rintro h88 c89 s90 F91 A92 I93 L94 ⟨k96, k97⟩
  replace k96 := k96.symm
  subst k96
  replace k97 := k97.symm
  subst k97
  show am_Ok _ _ _ (8, _, [], _, c89, s90) _
  refine k_push 9 rfl rfl ?_
  refine k_istore 11 rfl rfl ?_
  refine k_iload 12 rfl (gs_ne rfl rfl rfl) rfl ?_
  refine k_istore 14 rfl rfl ?_
  exact yl_X2_putArgument_39_14 hn1 hn2 hn3  hn hs hp pr3 hC _  (Fv := F0) (Av := (upl A0 35 (cutl (A0 35) (0)))) (v2 := n2) (v3 := n3) (v4 := 0) (v5 := n1) rfl (gs_ne rfl rfl (gs_ne rfl rfl rfl)) (gs_ne rfl rfl (gs_ne rfl rfl rfl)) (gs_ne rfl rfl (gs_ne rfl rfl rfl)) (gs_ne rfl rfl gs_eq) gs_eq hn2 hn3 hc86 hn1 I93 (okL_set (i := 5) (v := .inl w1) rfl (okL_set (i := 4) (v := .inl (0 : Int32)) rfl L94)) (by omega) (rfl) (fun j h1 h2 => upl_ne h1) (⟨[], RA.z (by rw [upl_eq]; exact cutl_0), by rw [upl_ne (by decide), List.append_nil]⟩)
theorem yl_X2_putIn_39_14 {h0 : am_h} {F0 : rf_f} {A0 : xl_A} {w1 : Int32} {n1 : Int} (hn1 : w1.toInt = n1) {w2 : Int32} {n2 : Int} (hn2 : w2.toInt = n2) {w3 : Int32} {n3 : Int} (hn3 : w3.toInt = n3)  (hn : F0 3202 = 39) (hs : F0 3203 = 37) (hp : 0 ≤ n1 ∧ n1 ≤ n2 ∧ n2 ≤ n3 ∧ n3 ≤ ((A0 39).length : Int)) (hC : ∀ q : Int, 0 ≤ gl (A0 39) q ∧ gl (A0 39) q ≤ 1000000) : ∀ (n : Nat) {lv : am_l} {h : am_h} {c s : Nat} {u2 : Int32} {v2 : Int} {u3 : Int32} {v3 : Int} {u4 : Int32} {v4 : Int} {u5 : Int32} {v5 : Int} {Fv : rf_f} {Av : xl_A}, ((1001 - v5).toNat) = n → am_get lv 0 = some (.inr (.inr (some 32))) → am_get lv 2 = some (.inl u2) → am_get lv 3 = some (.inl u3) → am_get lv 4 = some (.inl u4) → am_get lv 5 = some (.inl u5) → u2.toInt = v2 → u3.toInt = v3 → u4.toInt = v4 → u5.toInt = v5 → xI h0 (ob_P h0) h c s Fv Av → am_okL h.length lv = true → (v2 = n2 ∧ v3 = n3 ∧ n1 ≤ v5 ∧ v5 ≤ n2) → (Fv = F0) → (∀ j : Nat, j ≠ 33 → j ≠ 35 → j ≠ 37 → Av j = A0 j) → (∃ g9 : List Int, RA (fS (slc (A0 39) n2 n3)) (A0 39) n1 n2 v5 v4 (Av 33) g9 ∧ Av 37 = A0 37 ++ g9) → am_Ok am_G 4 45 (14, lv, [], h, c, s) (xQ h0 (fun x F' A' => ((x : Int) = 0 ∨ (x : Int) = 1) ∧ PA (x) (A0 37) (A' 37) (sbl (slc (A0 39) n2 n3) (slc (A0 39) n1 n2) 0 []) ∧ F' = F0 ∧ ∀ j : Nat, j ≠ 33 → j ≠ 35 → j ≠ 37 → A' j = A0 j)) := by
  intro n
  induction n using Nat.strongRecOn with
  | ind n ih =>
    intro lv h c s u2 v2 u3 v3 u4 v4 u5 v5  Fv Av hm g0 g2 g3 g4 g5 hv2 hv3 hv4 hv5 hI hL i1 i2 i3 i4
    obtain ⟨g9, j1, j2⟩ := i4
    have ll9 : Av 39 = A0 39 := i3 39 (by decide) (by decide) (by decide)
    have lk9 : (Av 39).length = (A0 39).length := by rw [ll9]
    have f32 : Fv 3202 = 39 := by rw [i2]; exact hn
    have f33 : Fv 3203 = 37 := by rw [i2]; exact hs
    have cp39 := hI.cap or39
    rw [mo39] at cp39
    have cp37 := hI.cap or37
    rw [mo37] at cp37
    obtain ⟨rb1, rb2⟩ := j1.bd
    have hc9 := hC v5
    have gg9 : gl (Av 39) v5 = gl (A0 39) v5 := by rw [ll9]
    have jl9 : ((Av 37).length : Int) = ((A0 37).length : Int) + (g9.length : Int) := by rw [j2, List.length_append]; omega
    refine k_iload 16 rfl g5 rfl ?_
    refine k_iload 17 rfl g2 rfl ?_
    by_cases b1 : u2 ≤ u5
    · refine k_c2 126 rfl rfl (if_pos b1) ?_
      have b1 : v2 ≤ v5 := by have h9 := iv_le.mp b1; rw [hv5] at h9; rw [hv2] at h9; exact h9
      refine k_push 127 rfl rfl ?_
      have hc2 : (1 : Int32).toInt = 1 := by decide
      exact k_fin rfl (fin_Z (Or.inr rfl)) ⟨_, _, _, _, _, _, rfl, hI, (by (try rw [hc2]); show ((1 : Int) = 0 ∨ (1 : Int) = 1) ∧ PA (1) (A0 37) (Av 37) (sbl (slc (A0 39) n2 n3) (slc (A0 39) n1 n2) 0 []) ∧ Fv = F0 ∧ ∀ j : Nat, j ≠ 33 → j ≠ 35 → j ≠ 37 → Av j = A0 j; have h9 := j1.e (by omega); exact ⟨Or.inr rfl, PA.yes rfl (by rw [j2, h9, sbl_gN]) cp37, i2, i3⟩)⟩
    · refine k_c2 20 rfl rfl (if_neg b1) ?_
      have b1 : ¬ (v2 ≤ v5) := by have h9 := mt iv_le.mpr b1; rw [hv5] at h9; rw [hv2] at h9; exact h9
      refine k_aload 21 rfl g0 rfl ?_
      refine x_gO (τ := 3) hI 24 rfl oc32 rfl rfl rfl rfl (fun r3 (e4 : (r3 : Int) = Fv 3202) o5 => ?_)
      obtain rfl : r3 = 39 := by omega
      refine k_iload 26 rfl g5 rfl ?_
      refine k_xq hI rfl (y_get hv5 hI.1 or39) rfl rfl rfl (ty_H.rc3 hI.T or39) hL so_n ?_
      rintro x6 h7 c8 s9 F10 A11 I12 L13 ⟨e14, k15, k16⟩
      replace k15 := k15.symm
      subst k15
      replace k16 := k16.symm
      subst k16
      show am_Ok _ _ _ (29, _, [.inl x6], _, c8, s9) _
      refine k_istore 31 rfl rfl ?_
      refine k_iload 33 rfl gs_eq rfl ?_
      refine k_push 34 rfl rfl ?_
      have hc17 : (2 : Int32).toInt = 2 := by decide
      by_cases b18 : (2 : Int32) ≤ x6
      · refine k_c2 51 rfl rfl (if_pos b18) ?_
        have b18 : 2 ≤ gl (Av 39) (v5) := by have h9 := iv_le.mp b18; rw [e14] at h9; rw [hc17] at h9; exact h9
        refine k_iload 53 rfl gs_eq rfl ?_
        refine k_push 54 rfl rfl ?_
        refine k_iload 56 rfl (gs_ne rfl rfl g4) rfl ?_
        obtain ⟨x19, q20⟩ : ∃ q : Int32, q = (2 : Int32) + u4 := ⟨_, rfl⟩
        have e21 : x19.toInt = (2 + v4) := bx_add q20 hc17 hv4 (by omega) (by omega)
        refine k_bin x19 57 rfl q20.symm rfl ?_
        by_cases b22 : x6 = x19
        · refine k_c2 60 rfl rfl (if_pos b22) ?_
          have b22 : gl (Av 39) (v5) = (2 + v4) := by have h9 := iv_eq.mp b22; rw [e14] at h9; rw [e21] at h9; exact h9
          refine k_aload 61 rfl (gs_ne rfl rfl g0) rfl ?_
          refine k_iload 62 rfl (gs_ne rfl rfl g2) rfl ?_
          refine k_iload 63 rfl (gs_ne rfl rfl g3) rfl ?_
          refine k_iload 65 rfl (gs_ne rfl rfl g4) rfl ?_
          refine k_xq I12 rfl (n_X2_putArgument_39 hv2 hv3 hv4  (by exact f32) (by exact f33) (by omega) (by omega) (fun q => by rw [ll9]; exact hC q) I12.1) rfl rfl rfl (I12.T.rc oc32 rfl) (okL_set (i := 6) (v := .inl x6) rfl L13) so_n ?_
          rintro x23 h24 c25 s26 F27 A28 I29 L30 e31
          have z34 := iv_01 (x := x23) (e31.1)
          obtain ⟨n32, q33⟩ : ∃ n : Int, x23.toInt = n := ⟨_, rfl⟩
          try rw [q33] at e31
          show am_Ok _ _ _ (68, _, [.inl x23], _, c25, s26) _
          refine k_istore 70 rfl rfl ?_
          refine k_goto 100 rfl rfl ?_
          have st9 : PA (n32) (Av 37) ((A28) 37) (fS (slc (A0 39) n2 n3) (gl (A0 39) v5) v4) := by rw [fS_1 (by omega) (by omega)]; have h9 := e31.2.1; rw [ll9, i1.1, i1.2.1] at h9; exact h9
          have fr9 : ∀ j : Nat, j ≠ 35 → j ≠ 37 → (A28) j = Av j := e31.2.2.2
          have ff9 : (F27) = Fv := e31.2.2.1
          refine k_iload 102 rfl gs_eq rfl ?_
          by_cases b35 : x23 = 0
          · refine k_c1 105 rfl rfl (if_pos b35) ?_
            have b35 : n32 = 0 := by have h9 := iv_eq0.mp b35; rw [q33] at h9; exact h9
            refine k_push 106 rfl rfl ?_
            have hc36 : (0 : Int32).toInt = 0 := by decide
            exact k_fin rfl (fin_Z (Or.inl rfl)) ⟨_, _, _, _, _, _, rfl, I29, (by (try rw [hc36]); show ((0 : Int) = 0 ∨ (0 : Int) = 1) ∧ PA (0) (A0 37) (A28 37) (sbl (slc (A0 39) n2 n3) (slc (A0 39) n1 n2) 0 []) ∧ F27 = F0 ∧ ∀ j : Nat, j ≠ 33 → j ≠ 35 → j ≠ 37 → A28 j = A0 j; obtain ⟨q9, hq9⟩ := j1.full (by omega) (by omega) (by omega); have h9 := st9.zz b35; exact ⟨Or.inl rfl, PA.no (by rw [sbl_gN]; exact hq9) (by omega) rfl, ff9.trans i2, fun j h1 h2 h3 => (fr9 j h2 h3).trans (i3 j h1 h2 h3)⟩)⟩
          · refine k_c1 107 rfl rfl (if_neg b35) ?_
            have b35 : ¬ (n32 = 0) := by have h9 := mt iv_eq0.mpr b35; rw [q33] at h9; exact h9
            refine k_iload 109 rfl (gs_ne rfl rfl gs_eq) rfl ?_
            refine k_iload 111 rfl (gs_ne rfl rfl (gs_ne rfl rfl g4)) rfl ?_
            refine k_aload 112 rfl (gs_ne rfl rfl (gs_ne rfl rfl g0)) rfl ?_
            refine x_gF 33 I29 115 rfl rfl (by decide) rfl ?_
            refine k_xq I29 rfl (n_X2_depthBehind_33 e14 hv4  (by omega) (by rw [fr9 33 (by decide) (by decide)]; omega) I29.1) rfl rfl rfl rfl (okL_set (i := 7) (v := .inl x23) rfl L30) so_n ?_
            rintro x37 h38 c39 s40 F41 A42 I43 L44 e45
            obtain ⟨n46, q47⟩ : ∃ n : Int, x37.toInt = n := ⟨_, rfl⟩
            try rw [q47] at e45
            show am_Ok _ _ _ (118, _, [.inl x37], _, c39, s40) _
            obtain ⟨w1, w2, w3, w4⟩ := e45
            rw [fr9 33 (by decide) (by decide), gg9] at w1 w2
            refine k_istore 120 rfl rfl ?_
            have hc48 : (1 : Int32).toInt = 1 := by decide
            obtain ⟨x49, q50⟩ : ∃ q : Int32, q = u5 + (1 : Int32) := ⟨_, rfl⟩
            have e51 : x49.toInt = (v5 + 1) := bx_add q50 hv5 hc48 (by omega) (by omega)
            refine k_iinc x49 123 rfl (gs_ne rfl rfl (gs_ne rfl rfl (gs_ne rfl rfl g5))) q50.symm rfl ?_
            refine k_goto 14 rfl rfl ?_
            exact ih _ (by omega)  (Fv := F41) (Av := A42) (v2 := v2) (v3 := v3) (v4 := n46) (v5 := (v5 + 1)) rfl (gs_ne rfl rfl (gs_ne rfl rfl (gs_ne rfl rfl (gs_ne rfl rfl g0)))) (gs_ne rfl rfl (gs_ne rfl rfl (gs_ne rfl rfl (gs_ne rfl rfl g2)))) (gs_ne rfl rfl (gs_ne rfl rfl (gs_ne rfl rfl (gs_ne rfl rfl g3)))) (gs_ne rfl rfl gs_eq) gs_eq hv2 hv3 q47 e51 I43 (okL_set (i := 5) (v := .inl x49) rfl (okL_set (i := 4) (v := .inl x37) rfl L44)) (by omega) (w3.trans (ff9.trans i2)) (fun j h1 h2 h3 => (w4 j h1).trans ((fr9 j h2 h3).trans (i3 j h1 h2 h3))) (⟨g9 ++ fS (slc (A0 39) n2 n3) (gl (A0 39) v5) v4, by (have h9 := j1.s (by omega) (by omega) (by omega); rw [← w2, ← w1] at h9; exact h9), (w4 37 (by decide)).trans (by rw [(st9.oo b35).1, j2, List.append_assoc])⟩)
        · refine k_c2 73 rfl rfl (if_neg b22) ?_
          have b22 : ¬ (gl (Av 39) (v5) = (2 + v4)) := by have h9 := mt iv_eq.mpr b22; rw [e14] at h9; rw [e21] at h9; exact h9
          refine k_aload 74 rfl (gs_ne rfl rfl g0) rfl ?_
          refine x_gO (τ := 3) I12 77 rfl oc32 rfl rfl rfl rfl (fun r52 (e53 : (r52 : Int) = Fv 3203) o54 => ?_)
          obtain rfl : r52 = 37 := by omega
          refine k_iload 79 rfl gs_eq rfl ?_
          refine k_push 80 rfl rfl ?_
          refine k_iload 82 rfl (gs_ne rfl rfl g4) rfl ?_
          obtain ⟨x55, q56⟩ : ∃ q : Int32, q = (2 : Int32) + u4 := ⟨_, rfl⟩
          have e57 : x55.toInt = (2 + v4) := bx_add q56 hc17 hv4 (by omega) (by omega)
          refine k_bin x55 83 rfl q56.symm rfl ?_
          by_cases b58 : x55 ≤ x6
          · refine k_c2 91 rfl rfl (if_pos b58) ?_
            have b58 : (2 + v4) ≤ gl (Av 39) (v5) := by have h9 := iv_le.mp b58; rw [e14] at h9; rw [e57] at h9; exact h9
            refine k_iload 93 rfl gs_eq rfl ?_
            refine k_push 94 rfl rfl ?_
            have hc59 : (1 : Int32).toInt = 1 := by decide
            obtain ⟨x60, q61⟩ : ∃ q : Int32, q = x6 - (1 : Int32) := ⟨_, rfl⟩
            have e62 : x60.toInt = (gl (Av 39) (v5) - 1) := bx_sub q61 e14 hc59 (by omega) (by omega)
            refine k_bin x60 95 rfl q61.symm rfl ?_
            refine k_xq I12 rfl (y_add e62 I12.1 or37) rfl rfl rfl (ty_H.rc3 I12.T or37) (okL_set (i := 6) (v := .inl x6) rfl L13) so_n ?_
            rintro x63 h64 c65 s66 F67 A68 I69 L70 ⟨e71, k72, k73⟩
            replace k72 := k72.symm
            subst k72
            replace k73 := k73.symm
            subst k73
            have z74 := iv_01 (x := x63) (by rw [e71]; exact (addr_01))
            show am_Ok _ _ _ (98, _, [.inl x63], _, c65, s66) _
            refine k_istore 100 rfl rfl ?_
            have st9 : PA (addr 37 Av) (Av 37) (((addl 37 Av ((gl (Av 39) (v5) - 1)))) 37) (fS (slc (A0 39) n2 n3) (gl (A0 39) v5) v4) := by first | (rw [fS_0 (x := gl (Av 39) (v5)) (by omega) (by omega)]; exact ad_PA mo37 cp37) | (rw [fS_2 (x := gl (Av 39) (v5)) (by omega) (by omega) (by omega)]; exact ad_PA mo37 cp37) | (rw [fS_3 (x := gl (Av 39) (v5) - 1) (by omega) (by omega) (by omega)]; exact ad_PA mo37 cp37)
            have fr9 : ∀ j : Nat, j ≠ 35 → j ≠ 37 → ((addl 37 Av ((gl (Av 39) (v5) - 1)))) j = Av j := fun j h1 h2 => addl_ne h2
            have ff9 : (Fv) = Fv := rfl
            refine k_iload 102 rfl gs_eq rfl ?_
            by_cases b75 : x63 = 0
            · refine k_c1 105 rfl rfl (if_pos b75) ?_
              have b75 : addr 37 Av = 0 := by have h9 := iv_eq0.mp b75; rw [e71] at h9; exact h9
              refine k_push 106 rfl rfl ?_
              have hc76 : (0 : Int32).toInt = 0 := by decide
              exact k_fin rfl (fin_Z (Or.inl rfl)) ⟨_, _, _, _, _, _, rfl, I69, (by (try rw [hc76]); show ((0 : Int) = 0 ∨ (0 : Int) = 1) ∧ PA (0) (A0 37) (((addl 37 Av ((gl (Av 39) (v5) - 1)))) 37) (sbl (slc (A0 39) n2 n3) (slc (A0 39) n1 n2) 0 []) ∧ Fv = F0 ∧ ∀ j : Nat, j ≠ 33 → j ≠ 35 → j ≠ 37 → ((addl 37 Av ((gl (Av 39) (v5) - 1)))) j = A0 j; obtain ⟨q9, hq9⟩ := j1.full (by omega) (by omega) (by omega); have h9 := st9.zz b75; exact ⟨Or.inl rfl, PA.no (by rw [sbl_gN]; exact hq9) (by omega) rfl, ff9.trans i2, fun j h1 h2 h3 => (fr9 j h2 h3).trans (i3 j h1 h2 h3)⟩)⟩
            · refine k_c1 107 rfl rfl (if_neg b75) ?_
              have b75 : ¬ (addr 37 Av = 0) := by have h9 := mt iv_eq0.mpr b75; rw [e71] at h9; exact h9
              refine k_iload 109 rfl (gs_ne rfl rfl gs_eq) rfl ?_
              refine k_iload 111 rfl (gs_ne rfl rfl (gs_ne rfl rfl g4)) rfl ?_
              refine k_aload 112 rfl (gs_ne rfl rfl (gs_ne rfl rfl g0)) rfl ?_
              refine x_gF 33 I69 115 rfl rfl (by decide) rfl ?_
              refine k_xq I69 rfl (n_X2_depthBehind_33 e14 hv4  (by omega) (by rw [fr9 33 (by decide) (by decide)]; omega) I69.1) rfl rfl rfl rfl (okL_set (i := 7) (v := .inl x63) rfl L70) so_n ?_
              rintro x77 h78 c79 s80 F81 A82 I83 L84 e85
              obtain ⟨n86, q87⟩ : ∃ n : Int, x77.toInt = n := ⟨_, rfl⟩
              try rw [q87] at e85
              show am_Ok _ _ _ (118, _, [.inl x77], _, c79, s80) _
              obtain ⟨w1, w2, w3, w4⟩ := e85
              rw [fr9 33 (by decide) (by decide), gg9] at w1 w2
              refine k_istore 120 rfl rfl ?_
              obtain ⟨x88, q89⟩ : ∃ q : Int32, q = u5 + (1 : Int32) := ⟨_, rfl⟩
              have e90 : x88.toInt = (v5 + 1) := bx_add q89 hv5 hc59 (by omega) (by omega)
              refine k_iinc x88 123 rfl (gs_ne rfl rfl (gs_ne rfl rfl (gs_ne rfl rfl g5))) q89.symm rfl ?_
              refine k_goto 14 rfl rfl ?_
              exact ih _ (by omega)  (Fv := F81) (Av := A82) (v2 := v2) (v3 := v3) (v4 := n86) (v5 := (v5 + 1)) rfl (gs_ne rfl rfl (gs_ne rfl rfl (gs_ne rfl rfl (gs_ne rfl rfl g0)))) (gs_ne rfl rfl (gs_ne rfl rfl (gs_ne rfl rfl (gs_ne rfl rfl g2)))) (gs_ne rfl rfl (gs_ne rfl rfl (gs_ne rfl rfl (gs_ne rfl rfl g3)))) (gs_ne rfl rfl gs_eq) gs_eq hv2 hv3 q87 e90 I83 (okL_set (i := 5) (v := .inl x88) rfl (okL_set (i := 4) (v := .inl x77) rfl L84)) (by omega) (w3.trans (ff9.trans i2)) (fun j h1 h2 h3 => (w4 j h1).trans ((fr9 j h2 h3).trans (i3 j h1 h2 h3))) (⟨g9 ++ fS (slc (A0 39) n2 n3) (gl (A0 39) v5) v4, by (have h9 := j1.s (by omega) (by omega) (by omega); rw [← w2, ← w1] at h9; exact h9), (w4 37 (by decide)).trans (by rw [(st9.oo b75).1, j2, List.append_assoc])⟩)
          · refine k_c2 86 rfl rfl (if_neg b58) ?_
            have b58 : ¬ ((2 + v4) ≤ gl (Av 39) (v5)) := by have h9 := mt iv_le.mpr b58; rw [e14] at h9; rw [e57] at h9; exact h9
            refine k_iload 88 rfl gs_eq rfl ?_
            refine k_goto 95 rfl rfl ?_
            refine k_xq I12 rfl (y_add e14 I12.1 or37) rfl rfl rfl (ty_H.rc3 I12.T or37) (okL_set (i := 6) (v := .inl x6) rfl L13) so_n ?_
            rintro x91 h92 c93 s94 F95 A96 I97 L98 ⟨e99, k100, k101⟩
            replace k100 := k100.symm
            subst k100
            replace k101 := k101.symm
            subst k101
            have z102 := iv_01 (x := x91) (by rw [e99]; exact (addr_01))
            show am_Ok _ _ _ (98, _, [.inl x91], _, c93, s94) _
            refine k_istore 100 rfl rfl ?_
            have st9 : PA (addr 37 Av) (Av 37) (((addl 37 Av (gl (Av 39) (v5)))) 37) (fS (slc (A0 39) n2 n3) (gl (A0 39) v5) v4) := by first | (rw [fS_0 (x := gl (Av 39) (v5)) (by omega) (by omega)]; exact ad_PA mo37 cp37) | (rw [fS_2 (x := gl (Av 39) (v5)) (by omega) (by omega) (by omega)]; exact ad_PA mo37 cp37) | (rw [fS_3 (x := gl (Av 39) (v5) - 1) (by omega) (by omega) (by omega)]; exact ad_PA mo37 cp37)
            have fr9 : ∀ j : Nat, j ≠ 35 → j ≠ 37 → ((addl 37 Av (gl (Av 39) (v5)))) j = Av j := fun j h1 h2 => addl_ne h2
            have ff9 : (Fv) = Fv := rfl
            refine k_iload 102 rfl gs_eq rfl ?_
            by_cases b103 : x91 = 0
            · refine k_c1 105 rfl rfl (if_pos b103) ?_
              have b103 : addr 37 Av = 0 := by have h9 := iv_eq0.mp b103; rw [e99] at h9; exact h9
              refine k_push 106 rfl rfl ?_
              have hc104 : (0 : Int32).toInt = 0 := by decide
              exact k_fin rfl (fin_Z (Or.inl rfl)) ⟨_, _, _, _, _, _, rfl, I97, (by (try rw [hc104]); show ((0 : Int) = 0 ∨ (0 : Int) = 1) ∧ PA (0) (A0 37) (((addl 37 Av (gl (Av 39) (v5)))) 37) (sbl (slc (A0 39) n2 n3) (slc (A0 39) n1 n2) 0 []) ∧ Fv = F0 ∧ ∀ j : Nat, j ≠ 33 → j ≠ 35 → j ≠ 37 → ((addl 37 Av (gl (Av 39) (v5)))) j = A0 j; obtain ⟨q9, hq9⟩ := j1.full (by omega) (by omega) (by omega); have h9 := st9.zz b103; exact ⟨Or.inl rfl, PA.no (by rw [sbl_gN]; exact hq9) (by omega) rfl, ff9.trans i2, fun j h1 h2 h3 => (fr9 j h2 h3).trans (i3 j h1 h2 h3)⟩)⟩
            · refine k_c1 107 rfl rfl (if_neg b103) ?_
              have b103 : ¬ (addr 37 Av = 0) := by have h9 := mt iv_eq0.mpr b103; rw [e99] at h9; exact h9
              refine k_iload 109 rfl (gs_ne rfl rfl gs_eq) rfl ?_
              refine k_iload 111 rfl (gs_ne rfl rfl (gs_ne rfl rfl g4)) rfl ?_
              refine k_aload 112 rfl (gs_ne rfl rfl (gs_ne rfl rfl g0)) rfl ?_
              refine x_gF 33 I97 115 rfl rfl (by decide) rfl ?_
              refine k_xq I97 rfl (n_X2_depthBehind_33 e14 hv4  (by omega) (by rw [fr9 33 (by decide) (by decide)]; omega) I97.1) rfl rfl rfl rfl (okL_set (i := 7) (v := .inl x91) rfl L98) so_n ?_
              rintro x105 h106 c107 s108 F109 A110 I111 L112 e113
              obtain ⟨n114, q115⟩ : ∃ n : Int, x105.toInt = n := ⟨_, rfl⟩
              try rw [q115] at e113
              show am_Ok _ _ _ (118, _, [.inl x105], _, c107, s108) _
              obtain ⟨w1, w2, w3, w4⟩ := e113
              rw [fr9 33 (by decide) (by decide), gg9] at w1 w2
              refine k_istore 120 rfl rfl ?_
              have hc116 : (1 : Int32).toInt = 1 := by decide
              obtain ⟨x117, q118⟩ : ∃ q : Int32, q = u5 + (1 : Int32) := ⟨_, rfl⟩
              have e119 : x117.toInt = (v5 + 1) := bx_add q118 hv5 hc116 (by omega) (by omega)
              refine k_iinc x117 123 rfl (gs_ne rfl rfl (gs_ne rfl rfl (gs_ne rfl rfl g5))) q118.symm rfl ?_
              refine k_goto 14 rfl rfl ?_
              exact ih _ (by omega)  (Fv := F109) (Av := A110) (v2 := v2) (v3 := v3) (v4 := n114) (v5 := (v5 + 1)) rfl (gs_ne rfl rfl (gs_ne rfl rfl (gs_ne rfl rfl (gs_ne rfl rfl g0)))) (gs_ne rfl rfl (gs_ne rfl rfl (gs_ne rfl rfl (gs_ne rfl rfl g2)))) (gs_ne rfl rfl (gs_ne rfl rfl (gs_ne rfl rfl (gs_ne rfl rfl g3)))) (gs_ne rfl rfl gs_eq) gs_eq hv2 hv3 q115 e119 I111 (okL_set (i := 5) (v := .inl x117) rfl (okL_set (i := 4) (v := .inl x105) rfl L112)) (by omega) (w3.trans (ff9.trans i2)) (fun j h1 h2 h3 => (w4 j h1).trans ((fr9 j h2 h3).trans (i3 j h1 h2 h3))) (⟨g9 ++ fS (slc (A0 39) n2 n3) (gl (A0 39) v5) v4, by (have h9 := j1.s (by omega) (by omega) (by omega); rw [← w2, ← w1] at h9; exact h9), (w4 37 (by decide)).trans (by rw [(st9.oo b103).1, j2, List.append_assoc])⟩)
      · refine k_c2 37 rfl rfl (if_neg b18) ?_
        have b18 : ¬ (2 ≤ gl (Av 39) (v5)) := by have h9 := mt iv_le.mpr b18; rw [e14] at h9; rw [hc17] at h9; exact h9
        refine k_aload 38 rfl (gs_ne rfl rfl g0) rfl ?_
        refine x_gO (τ := 3) I12 41 rfl oc32 rfl rfl rfl rfl (fun r120 (e121 : (r120 : Int) = Fv 3203) o122 => ?_)
        obtain rfl : r120 = 37 := by omega
        refine k_iload 43 rfl gs_eq rfl ?_
        refine k_xq I12 rfl (y_add e14 I12.1 or37) rfl rfl rfl (ty_H.rc3 I12.T or37) (okL_set (i := 6) (v := .inl x6) rfl L13) so_n ?_
        rintro x123 h124 c125 s126 F127 A128 I129 L130 ⟨e131, k132, k133⟩
        replace k132 := k132.symm
        subst k132
        replace k133 := k133.symm
        subst k133
        have z134 := iv_01 (x := x123) (by rw [e131]; exact (addr_01))
        show am_Ok _ _ _ (46, _, [.inl x123], _, c125, s126) _
        refine k_istore 48 rfl rfl ?_
        refine k_goto 100 rfl rfl ?_
        have st9 : PA (addr 37 Av) (Av 37) (((addl 37 Av (gl (Av 39) (v5)))) 37) (fS (slc (A0 39) n2 n3) (gl (A0 39) v5) v4) := by first | (rw [fS_0 (x := gl (Av 39) (v5)) (by omega) (by omega)]; exact ad_PA mo37 cp37) | (rw [fS_2 (x := gl (Av 39) (v5)) (by omega) (by omega) (by omega)]; exact ad_PA mo37 cp37) | (rw [fS_3 (x := gl (Av 39) (v5) - 1) (by omega) (by omega) (by omega)]; exact ad_PA mo37 cp37)
        have fr9 : ∀ j : Nat, j ≠ 35 → j ≠ 37 → ((addl 37 Av (gl (Av 39) (v5)))) j = Av j := fun j h1 h2 => addl_ne h2
        have ff9 : (Fv) = Fv := rfl
        refine k_iload 102 rfl gs_eq rfl ?_
        by_cases b135 : x123 = 0
        · refine k_c1 105 rfl rfl (if_pos b135) ?_
          have b135 : addr 37 Av = 0 := by have h9 := iv_eq0.mp b135; rw [e131] at h9; exact h9
          refine k_push 106 rfl rfl ?_
          have hc136 : (0 : Int32).toInt = 0 := by decide
          exact k_fin rfl (fin_Z (Or.inl rfl)) ⟨_, _, _, _, _, _, rfl, I129, (by (try rw [hc136]); show ((0 : Int) = 0 ∨ (0 : Int) = 1) ∧ PA (0) (A0 37) (((addl 37 Av (gl (Av 39) (v5)))) 37) (sbl (slc (A0 39) n2 n3) (slc (A0 39) n1 n2) 0 []) ∧ Fv = F0 ∧ ∀ j : Nat, j ≠ 33 → j ≠ 35 → j ≠ 37 → ((addl 37 Av (gl (Av 39) (v5)))) j = A0 j; obtain ⟨q9, hq9⟩ := j1.full (by omega) (by omega) (by omega); have h9 := st9.zz b135; exact ⟨Or.inl rfl, PA.no (by rw [sbl_gN]; exact hq9) (by omega) rfl, ff9.trans i2, fun j h1 h2 h3 => (fr9 j h2 h3).trans (i3 j h1 h2 h3)⟩)⟩
        · refine k_c1 107 rfl rfl (if_neg b135) ?_
          have b135 : ¬ (addr 37 Av = 0) := by have h9 := mt iv_eq0.mpr b135; rw [e131] at h9; exact h9
          refine k_iload 109 rfl (gs_ne rfl rfl gs_eq) rfl ?_
          refine k_iload 111 rfl (gs_ne rfl rfl (gs_ne rfl rfl g4)) rfl ?_
          refine k_aload 112 rfl (gs_ne rfl rfl (gs_ne rfl rfl g0)) rfl ?_
          refine x_gF 33 I129 115 rfl rfl (by decide) rfl ?_
          refine k_xq I129 rfl (n_X2_depthBehind_33 e14 hv4  (by omega) (by rw [fr9 33 (by decide) (by decide)]; omega) I129.1) rfl rfl rfl rfl (okL_set (i := 7) (v := .inl x123) rfl L130) so_n ?_
          rintro x137 h138 c139 s140 F141 A142 I143 L144 e145
          obtain ⟨n146, q147⟩ : ∃ n : Int, x137.toInt = n := ⟨_, rfl⟩
          try rw [q147] at e145
          show am_Ok _ _ _ (118, _, [.inl x137], _, c139, s140) _
          obtain ⟨w1, w2, w3, w4⟩ := e145
          rw [fr9 33 (by decide) (by decide), gg9] at w1 w2
          refine k_istore 120 rfl rfl ?_
          have hc148 : (1 : Int32).toInt = 1 := by decide
          obtain ⟨x149, q150⟩ : ∃ q : Int32, q = u5 + (1 : Int32) := ⟨_, rfl⟩
          have e151 : x149.toInt = (v5 + 1) := bx_add q150 hv5 hc148 (by omega) (by omega)
          refine k_iinc x149 123 rfl (gs_ne rfl rfl (gs_ne rfl rfl (gs_ne rfl rfl g5))) q150.symm rfl ?_
          refine k_goto 14 rfl rfl ?_
          exact ih _ (by omega)  (Fv := F141) (Av := A142) (v2 := v2) (v3 := v3) (v4 := n146) (v5 := (v5 + 1)) rfl (gs_ne rfl rfl (gs_ne rfl rfl (gs_ne rfl rfl (gs_ne rfl rfl g0)))) (gs_ne rfl rfl (gs_ne rfl rfl (gs_ne rfl rfl (gs_ne rfl rfl g2)))) (gs_ne rfl rfl (gs_ne rfl rfl (gs_ne rfl rfl (gs_ne rfl rfl g3)))) (gs_ne rfl rfl gs_eq) gs_eq hv2 hv3 q147 e151 I143 (okL_set (i := 5) (v := .inl x149) rfl (okL_set (i := 4) (v := .inl x137) rfl L144)) (by omega) (w3.trans (ff9.trans i2)) (fun j h1 h2 h3 => (w4 j h1).trans ((fr9 j h2 h3).trans (i3 j h1 h2 h3))) (⟨g9 ++ fS (slc (A0 39) n2 n3) (gl (A0 39) v5) v4, by (have h9 := j1.s (by omega) (by omega) (by omega); rw [← w2, ← w1] at h9; exact h9), (w4 37 (by decide)).trans (by rw [(st9.oo b135).1, j2, List.append_assoc])⟩)
theorem n_X2_putIn_39 {h0 : am_h} {F0 : rf_f} {A0 : xl_A} {w1 : Int32} {n1 : Int} (hn1 : w1.toInt = n1) {w2 : Int32} {n2 : Int} (hn2 : w2.toInt = n2) {w3 : Int32} {n3 : Int} (hn3 : w3.toInt = n3)  (hn : F0 3202 = 39) (hs : F0 3203 = 37) (hp : 0 ≤ n1 ∧ n1 ≤ n2 ∧ n2 ≤ n3 ∧ n3 ≤ ((A0 39).length : Int)) (hC : ∀ q : Int, 0 ≤ gl (A0 39) q ∧ gl (A0 39) q ≤ 1000000) (hR : xR h0 F0 A0) : am_Mt 5 45 [.inr (.inr (some 32)), .inl w1, .inl w2, .inl w3] h0 (xQ h0 (fun x F' A' => ((x : Int) = 0 ∨ (x : Int) = 1) ∧ PA (x) (A0 37) (A' 37) (sbl (slc (A0 39) n2 n3) (slc (A0 39) n1 n2) 0 []) ∧ F' = F0 ∧ ∀ j : Nat, j ≠ 33 → j ≠ 35 → j ≠ 37 → A' j = A0 j)) := by
  refine am_Mt.of (D := 4) ?_
  have hI : xI h0 (ob_P h0) h0 0 0 F0 A0 := xI.start hR
  have hL : am_okL h0.length (am_args 0 [.inr (.inr (some 32)), .inl w1, .inl w2, .inl w3]) = true := (okA_r hI.T oc32 (okA_i (okA_i (okA_i okA_n))))
  refine k_aload 1 rfl rfl rfl ?_
  refine x_gF 33 hI 4 rfl rfl (by decide) rfl ?_
  refine k_push 5 rfl rfl ?_
  have hc152 : (0 : Int32).toInt = 0 := by decide
  refine k_xv hI rfl (y_cut hc152 hI.1 or33) rfl rfl rfl (ty_H.rc3 hI.T or33) hL so_n ?_
  rintro h154 c155 s156 F157 A158 I159 L160 ⟨k162, k163⟩
  replace k162 := k162.symm
  subst k162
  replace k163 := k163.symm
  subst k163
  show am_Ok _ _ _ (8, _, [], _, c155, s156) _
  refine k_push 9 rfl rfl ?_
  refine k_istore 11 rfl rfl ?_
  refine k_iload 12 rfl (gs_ne rfl rfl rfl) rfl ?_
  refine k_istore 14 rfl rfl ?_
  exact yl_X2_putIn_39_14 hn1 hn2 hn3  hn hs hp hC _  (Fv := F0) (Av := (upl A0 33 (cutl (A0 33) (0)))) (v2 := n2) (v3 := n3) (v4 := 0) (v5 := n1) rfl (gs_ne rfl rfl (gs_ne rfl rfl rfl)) (gs_ne rfl rfl (gs_ne rfl rfl rfl)) (gs_ne rfl rfl (gs_ne rfl rfl rfl)) (gs_ne rfl rfl gs_eq) gs_eq hn2 hn3 hc152 hn1 I159 (okL_set (i := 5) (v := .inl w1) rfl (okL_set (i := 4) (v := .inl (0 : Int32)) rfl L160)) (by omega) (rfl) (fun j h1 h2 h3 => upl_ne h1) (⟨[], RA.z (by rw [upl_eq]; exact cutl_0), by rw [upl_ne (by decide), List.append_nil]⟩)
end
