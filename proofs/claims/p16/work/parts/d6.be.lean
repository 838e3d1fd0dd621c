section
theorem yl_X0_bracketEnds_56_2 {h0 : am_h} {F0 : rf_f} {A0 : xl_A} {w1 : Int32} {n1 : Int} (hn1 : w1.toInt = n1)  (S : lST) (hS : LYv (F0 7403) 56 (F0 5605) (F0 5607) (A0 57) (A0 75) (A0 77) (A0 79) (S)) (hW : WF0 S.2.1 S.2.2.1) (hB : S.2.1.length ≤ 120 ∧ S.2.2.1.length ≤ 120) : ∀ (n : Nat) {lv : am_l} {h : am_h} {c s : Nat} {u1 : Int32} {v1 : Int} {u2 : Int32} {v2 : Int} {Fv : rf_f} {Av : xl_A}, ((121 - v2).toNat) = n → am_get lv 0 = some (.inr (.inr (some 74))) → am_get lv 1 = some (.inl u1) → am_get lv 2 = some (.inl u2) → u1.toInt = v1 → u2.toInt = v2 → xI h0 (ob_P h0) h c s Fv Av → am_okL h.length lv = true → (v1 = n1) → (0 ≤ v2 ∧ v2 ≤ (S.2.2.1.length : Int)) → (∃ m9 : Nat, LYv (Fv 7403) 56 (Fv 5605) (Fv 5607) (Av 57) (Av 75) (Av 77) (Av 79) (S.1, S.2.1, S.2.2.1, m9) ∧ m9 + bkn S.2.1 n1 (S.2.2.1.drop v2.toNat) = S.2.2.2 + bkn S.2.1 n1 S.2.2.1) → (fL9 F0 Fv ∧ aL9 A0 Av) → am_Ok am_G 2 6 (2, lv, [], h, c, s) (xV h0 (fun F' A' => LYv (F' 7403) 56 (F' 5605) (F' 5607) (A' 57) (A' 75) (A' 77) (A' 79) (S.1, S.2.1, S.2.2.1, S.2.2.2 + bkn S.2.1 n1 S.2.2.1) ∧ fL9 F0 F' ∧ aL9 A0 A')) := by
  intro n
  induction n using Nat.strongRecOn with
  | ind n ih =>
    intro lv h c s u1 v1 u2 v2  Fv Av hm g0 g1 g2 hv1 hv2 hI hL i0 i1 i2 i3
    obtain ⟨m9, j1, j2⟩ := i2
    have f3 : Fv 7403 = 56 := j1.1
    have ee79 : Av 79 = S.2.2.1 := j1.2.2.2.2
    have ll79 : (Av 79).length = S.2.2.1.length := by rw [ee79]
    have ll77 : ENM (Av 77) S.2.1 := j1.2.2.2.1
    refine k_iload 3 rfl g2 rfl ?_
    refine k_aload 4 rfl g0 rfl ?_
    refine x_gF 79 hI 7 rfl rfl (by decide) rfl ?_
    refine k_xq hI rfl (xv_size hI.1 or79) rfl rfl rfl (ty_H.rc3 hI.T or79) hL (so_i so_n) ?_
    rintro x1 h2 c3 s4 F5 A6 I7 L8 ⟨e9, k10, k11⟩
    replace k10 := k10.symm
    subst k10
    replace k11 := k11.symm
    subst k11
    show am_Ok _ _ _ (10, _, [.inl x1, .inl u2], _, c3, s4) _
    by_cases b12 : x1 ≤ u2
    · refine k_c2 100 rfl rfl (if_pos b12) ?_
      have b12 : (((Av 79).length : Nat) : Int) ≤ v2 := by have h9 := iv_le.mp b12; rw [hv2] at h9; rw [e9] at h9; exact h9
      exact k_fin rfl rfl ⟨_, _, _, _, _, rfl, I7, (by show LYv (Fv 7403) 56 (Fv 5605) (Fv 5607) (Av 57) (Av 75) (Av 77) (Av 79) (S.1, S.2.1, S.2.2.1, S.2.2.2 + bkn S.2.1 n1 S.2.2.1) ∧ fL9 F0 Fv ∧ aL9 A0 Av; exact ⟨by have h9 := bk_z (by omega) j2; rw [← h9]; exact j1, i3⟩)⟩
    · refine k_c2 13 rfl rfl (if_neg b12) ?_
      have b12 : ¬ ((((Av 79).length : Nat) : Int) ≤ v2) := by have h9 := mt iv_le.mpr b12; rw [hv2] at h9; rw [e9] at h9; exact h9
      refine k_aload 14 rfl g0 rfl ?_
      refine x_gF 79 I7 17 rfl rfl (by decide) rfl ?_
      refine k_iload 18 rfl g2 rfl ?_
      refine k_xq I7 rfl (y_get hv2 I7.1 or79) rfl rfl rfl (ty_H.rc3 I7.T or79) L8 so_n ?_
      rintro x13 h14 c15 s16 F17 A18 I19 L20 ⟨e21, k22, k23⟩
      replace k22 := k22.symm
      subst k22
      replace k23 := k23.symm
      subst k23
      show am_Ok _ _ _ (21, _, [.inl x13], _, c15, s16) _
      have gx : gl (Av 79) (v2) = gl S.2.2.1 v2 := by rw [ee79]
      have hx9 := hW.1 (gl S.2.2.1 v2) (List.mem_of_getElem? (gl_at (by omega) (by omega)))
      refine k_istore 22 rfl rfl ?_
      refine k_iload 23 rfl gs_eq rfl ?_
      refine k_push 24 rfl rfl ?_
      have hc24 : (-1 : Int32).toInt = -1 := by decide
      by_cases b25 : x13 = (-1 : Int32)
      · refine k_c2 94 rfl rfl (if_pos b25) ?_
        have b25 : gl (Av 79) (v2) = (-1) := by have h9 := iv_eq.mp b25; rw [e21] at h9; rw [hc24] at h9; exact h9
        have hc26 : (1 : Int32).toInt = 1 := by decide
        obtain ⟨x27, q28⟩ : ∃ q : Int32, q = u2 + (1 : Int32) := ⟨_, rfl⟩
        have e29 : x27.toInt = (v2 + 1) := bx_add q28 hv2 hc26 (by omega) (by omega)
        refine k_iinc x27 97 rfl (gs_ne rfl rfl g2) q28.symm rfl ?_
        refine k_goto 2 rfl rfl ?_
        exact ih _ (by omega)  (Fv := Fv) (Av := Av) (v1 := v1) (v2 := (v2 + 1)) rfl (gs_ne rfl rfl (gs_ne rfl rfl g0)) (gs_ne rfl rfl (gs_ne rfl rfl g1)) gs_eq hv1 e29 I19 (okL_set (i := 2) (v := .inl x27) rfl (okL_set (i := 3) (v := .inl x13) rfl L20)) (i0) (by omega) (⟨m9, j1, bk_s (by omega) (by omega) j2 (by rw [if_neg (fun z9 => by have z8 := z9.1; have z7 := z9.2; omega)]; first | done | exact (Nat.add_zero _).symm)⟩) (i3)
      · refine k_c2 27 rfl rfl (if_neg b25) ?_
        have b25 : ¬ (gl (Av 79) (v2) = (-1)) := by have h9 := mt iv_eq.mpr b25; rw [e21] at h9; rw [hc24] at h9; exact h9
        refine k_aload 28 rfl (gs_ne rfl rfl g0) rfl ?_
        refine x_gF 77 I19 31 rfl rfl (by decide) rfl ?_
        refine k_push 32 rfl rfl ?_
        have hc30 : (3 : Int32).toInt = 3 := by decide
        refine k_iload 33 rfl gs_eq rfl ?_
        obtain ⟨x31, q32⟩ : ∃ q : Int32, q = (3 : Int32) * x13 := ⟨_, rfl⟩
        have e33 : x31.toInt = (3 * gl (Av 79) (v2)) := bx_mul q32 hc30 e21 (by omega) (by omega)
        refine k_bin x31 34 rfl q32.symm rfl ?_
        refine k_push 35 rfl rfl ?_
        have hc34 : (1 : Int32).toInt = 1 := by decide
        obtain ⟨x35, q36⟩ : ∃ q : Int32, q = x31 + (1 : Int32) := ⟨_, rfl⟩
        have e37 : x35.toInt = ((3 * gl (Av 79) (v2)) + 1) := bx_add q36 e33 hc34 (by omega) (by omega)
        refine k_bin x35 36 rfl q36.symm rfl ?_
        refine k_xq I19 rfl (y_get e37 I19.1 or77) rfl rfl rfl (ty_H.rc3 I19.T or77) (okL_set (i := 3) (v := .inl x13) rfl L20) so_n ?_
        rintro x38 h39 c40 s41 F42 A43 I44 L45 ⟨e46, k47, k48⟩
        replace k47 := k47.symm
        subst k47
        replace k48 := k48.symm
        subst k48
        show am_Ok _ _ _ (39, _, [.inl x38], _, c40, s41) _
        have px : gl (Av 77) ((3 * gl (Av 79) (v2)) + 1) = plc S.2.1 (gl S.2.2.1 v2) := by rw [gx]; exact (ll77.2 _ (by omega) (by omega)).1
        refine k_iload 40 rfl (gs_ne rfl rfl g1) rfl ?_
        by_cases b49 : x38 < u1
        · refine k_c2 94 rfl rfl (if_pos b49) ?_
          have b49 : gl (Av 77) (((3 * gl (Av 79) (v2)) + 1)) < v1 := by have h9 := iv_lt.mp b49; rw [e46] at h9; rw [hv1] at h9; exact h9
          obtain ⟨x50, q51⟩ : ∃ q : Int32, q = u2 + (1 : Int32) := ⟨_, rfl⟩
          have e52 : x50.toInt = (v2 + 1) := bx_add q51 hv2 hc34 (by omega) (by omega)
          refine k_iinc x50 97 rfl (gs_ne rfl rfl g2) q51.symm rfl ?_
          refine k_goto 2 rfl rfl ?_
          exact ih _ (by omega)  (Fv := Fv) (Av := Av) (v1 := v1) (v2 := (v2 + 1)) rfl (gs_ne rfl rfl (gs_ne rfl rfl g0)) (gs_ne rfl rfl (gs_ne rfl rfl g1)) gs_eq hv1 e52 I44 (okL_set (i := 2) (v := .inl x50) rfl L45) (i0) (by omega) (⟨m9, j1, bk_s (by omega) (by omega) j2 (by rw [if_neg (fun z9 => by have z8 := z9.1; have z7 := z9.2; omega)]; first | done | exact (Nat.add_zero _).symm)⟩) (i3)
        · refine k_c2 43 rfl rfl (if_neg b49) ?_
          have b49 : ¬ (gl (Av 77) (((3 * gl (Av 79) (v2)) + 1)) < v1) := by have h9 := mt iv_lt.mpr b49; rw [e46] at h9; rw [hv1] at h9; exact h9
          refine k_aload 44 rfl (gs_ne rfl rfl g0) rfl ?_
          refine x_gO (τ := 1) I44 47 rfl oc74 rfl rfl rfl rfl (fun r53 (e54 : (r53 : Int) = Fv 7403) o55 => ?_)
          obtain rfl : r53 = 56 := by omega
          refine k_push 48 rfl rfl ?_
          have hc56 : (4 : Int32).toInt = 4 := by decide
          refine k_aload 49 rfl (gs_ne rfl rfl g0) rfl ?_
          refine x_gI I44 52 rfl oc74 rfl rfl rfl rfl (fun x57 (e58 : x57.toInt = Fv 7404) => ?_)
          refine k_xq I44 rfl (n_X1_make_56 hc56 e58  (m9) (by exact j1.2.1) I44.1) rfl rfl rfl (I44.T.rc oc56 rfl) L45 so_n ?_
          rintro x59 h60 c61 s62 F63 A64 I65 L66 e67
          obtain ⟨n68, q69⟩ : ∃ n : Int, x59.toInt = n := ⟨_, rfl⟩
          try rw [q69] at e67
          show am_Ok _ _ _ (55, _, [.inl x59], _, c61, s62) _
          obtain ⟨ww1, ww2, ww3⟩ := e67
          have gg3 := ww2 7403 (Or.inr (by omega))
          have a75 : A64 75 = Av 75 := ww3 75 (by decide) (by decide)
          have a77 : A64 77 = Av 77 := ww3 77 (by decide) (by decide)
          have a79 : A64 79 = Av 79 := ww3 79 (by decide) (by decide)
          refine k_istore 57 rfl rfl ?_
          refine k_aload 58 rfl (gs_ne rfl rfl (gs_ne rfl rfl g0)) rfl ?_
          refine x_gO (τ := 1) I65 61 rfl oc74 rfl rfl rfl rfl (fun r70 (e71 : (r70 : Int) = F63 7403) o72 => ?_)
          obtain rfl : r70 = 56 := by omega
          refine k_push 62 rfl rfl ?_
          refine k_iload 64 rfl gs_eq rfl ?_
          obtain ⟨x73, q74⟩ : ∃ q : Int32, q = (4 : Int32) * x59 := ⟨_, rfl⟩
          have e75 : x73.toInt = bm (4 * n68) := bm_mul q74 hc56 q69
          refine k_bin x73 65 rfl q74.symm rfl ?_
          refine k_push 66 rfl rfl ?_
          obtain ⟨x76, q77⟩ : ∃ q : Int32, q = x73 + (1 : Int32) := ⟨_, rfl⟩
          have e78 : x76.toInt = bm (bm (4 * n68) + 1) := bm_add q77 e75 hc34
          refine k_bin x76 67 rfl q77.symm rfl ?_
          refine k_aload 68 rfl (gs_ne rfl rfl (gs_ne rfl rfl g0)) rfl ?_
          refine x_gF 77 I65 71 rfl rfl (by decide) rfl ?_
          refine k_push 72 rfl rfl ?_
          refine k_iload 73 rfl (gs_ne rfl rfl gs_eq) rfl ?_
          obtain ⟨x79, q80⟩ : ∃ q : Int32, q = (3 : Int32) * x13 := ⟨_, rfl⟩
          have e81 : x79.toInt = (3 * gl (Av 79) (v2)) := bx_mul q80 hc30 e21 (by omega) (by omega)
          refine k_bin x79 74 rfl q80.symm rfl ?_
          refine k_xq I65 rfl (y_get e81 I65.1 or77) rfl rfl rfl (ty_H.rc3 I65.T or77) (okL_set (i := 4) (v := .inl x59) rfl L66) (so_i (xo_r I65 oc56 so_n)) ?_
          rintro x82 h83 c84 s85 F86 A87 I88 L89 ⟨e90, k91, k92⟩
          replace k91 := k91.symm
          subst k91
          replace k92 := k92.symm
          subst k92
          show am_Ok _ _ _ (77, _, [.inl x82, .inl x76, .inr (.inr (some 56))], _, c84, s85) _
          refine k_xv I88 rfl (n_X1_link_56 e78 e90   I88.1) rfl rfl rfl (I88.T.rc oc56 rfl) L89 so_n ?_
          rintro h94 c95 s96 F97 A98 I99 L100 ⟨k102, k103⟩
          replace k102 : F97 = F63 := k102
          replace k102 := k102.symm
          subst k102
          replace k103 := k103.symm
          subst k103
          show am_Ok _ _ _ (80, _, [], _, c95, s96) _
          refine k_aload 81 rfl (gs_ne rfl rfl (gs_ne rfl rfl g0)) rfl ?_
          refine x_gF 77 I99 84 rfl rfl (by decide) rfl ?_
          refine k_push 85 rfl rfl ?_
          refine k_iload 86 rfl (gs_ne rfl rfl gs_eq) rfl ?_
          obtain ⟨x104, q105⟩ : ∃ q : Int32, q = (3 : Int32) * x13 := ⟨_, rfl⟩
          have e106 : x104.toInt = (3 * gl (Av 79) (v2)) := bx_mul q105 hc30 e21 (by omega) (by omega)
          refine k_bin x104 87 rfl q105.symm rfl ?_
          refine k_push 88 rfl rfl ?_
          refine k_iload 90 rfl gs_eq rfl ?_
          obtain ⟨x107, q108⟩ : ∃ q : Int32, q = (4 : Int32) * x59 := ⟨_, rfl⟩
          have e109 : x107.toInt = bm (4 * n68) := bm_mul q108 hc56 q69
          refine k_bin x107 91 rfl q108.symm rfl ?_
          refine k_xv I99 rfl (y_set e106 e109 I99.1 or77) rfl rfl rfl (ty_H.rc3 I99.T or77) L100 so_n ?_
          rintro h111 c112 s113 F114 A115 I116 L117 ⟨k119, k120⟩
          replace k119 := k119.symm
          subst k119
          replace k120 := k120.symm
          subst k120
          show am_Ok _ _ _ (94, _, [], _, c112, s113) _
          obtain ⟨x121, q122⟩ : ∃ q : Int32, q = u2 + (1 : Int32) := ⟨_, rfl⟩
          have e123 : x121.toInt = (v2 + 1) := bx_add q122 hv2 hc34 (by omega) (by omega)
          refine k_iinc x121 97 rfl (gs_ne rfl rfl (gs_ne rfl rfl g2)) q122.symm rfl ?_
          refine k_goto 2 rfl rfl ?_
          exact ih _ (by omega)  (Fv := F63) (Av := (upl ((p_X1_link_56 (bm (bm (4 * n68) + 1)) (gl (A64 77) ((3 * gl (Av 79) (v2)))) F63 A64).2.2) 77 (ssl ((p_X1_link_56 (bm (bm (4 * n68) + 1)) (gl (A64 77) ((3 * gl (Av 79) (v2)))) F63 A64).2.2 77) ((3 * gl (Av 79) (v2))) (bm (4 * n68))))) (v1 := v1) (v2 := (v2 + 1)) rfl (gs_ne rfl rfl (gs_ne rfl rfl (gs_ne rfl rfl g0))) (gs_ne rfl rfl (gs_ne rfl rfl (gs_ne rfl rfl g1))) gs_eq hv1 e123 I116 (okL_set (i := 2) (v := .inl x121) rfl L117) (i0) (by omega) (⟨m9 + 1, by show LYv (F63 7403) 56 (F63 5605) (F63 5607) (A64 57) (A64 75) (ssl (A64 77) (3 * gl (Av 79) (v2)) _) (A64 79) _; rw [gg3, a75, a77, a79]; exact j1.bk ww1, bk_s (by omega) (by omega) j2 (by rw [if_pos ⟨by omega, by omega⟩])⟩) (⟨i3.1.tr (fun n hn => ww2 n (Or.inl (by omega))), i3.2.tr (fun k hk => (upl_ne (by omega)).trans ((lk_56 (by omega)).trans (ww3 k (by omega) (by omega))))⟩)
theorem n_X0_bracketEnds_56 {h0 : am_h} {F0 : rf_f} {A0 : xl_A} {w1 : Int32} {n1 : Int} (hn1 : w1.toInt = n1)  (S : lST) (hS : LYv (F0 7403) 56 (F0 5605) (F0 5607) (A0 57) (A0 75) (A0 77) (A0 79) (S)) (hW : WF0 S.2.1 S.2.2.1) (hB : S.2.1.length ≤ 120 ∧ S.2.2.1.length ≤ 120) (hR : xR h0 F0 A0) : am_Mt 3 6 [.inr (.inr (some 74)), .inl w1] h0 (xV h0 (fun F' A' => LYv (F' 7403) 56 (F' 5605) (F' 5607) (A' 57) (A' 75) (A' 77) (A' 79) (S.1, S.2.1, S.2.2.1, S.2.2.2 + bkn S.2.1 n1 S.2.2.1) ∧ fL9 F0 F' ∧ aL9 A0 A')) := by
  refine am_Mt.of (D := 2) ?_
  have hI : xI h0 (ob_P h0) h0 0 0 F0 A0 := xI.start hR
  have hL : am_okL h0.length (am_args 0 [.inr (.inr (some 74)), .inl w1]) = true := (okA_r hI.T oc74 (okA_i okA_n))
  refine k_push 1 rfl rfl ?_
  have hc124 : (0 : Int32).toInt = 0 := by decide
  refine k_istore 2 rfl rfl ?_
  exact yl_X0_bracketEnds_56_2 hn1  S hS hW hB _  (Fv := F0) (Av := A0) (v1 := n1) (v2 := 0) rfl (gs_ne rfl rfl rfl) (gs_ne rfl rfl rfl) gs_eq hn1 hc124 hI (okL_set (i := 2) (v := .inl (0 : Int32)) rfl hL) (rfl) (by omega) (⟨S.2.2.2, hS, rfl⟩) (⟨fun n hn => rfl, fun k hk => rfl⟩)
theorem yl_X0_fanEnds_56_2 {h0 : am_h} {F0 : rf_f} {A0 : xl_A} {w1 : Int32} {n1 : Int} (hn1 : w1.toInt = n1) {w2 : Int32} {n2 : Int} (hn2 : w2.toInt = n2)  (S : lST) (hS : LYv (F0 7403) 56 (F0 5605) (F0 5607) (A0 57) (A0 75) (A0 77) (A0 79) (S)) (hW : WF0 S.2.1 S.2.2.1) (hB : S.2.1.length ≤ 120 ∧ S.2.2.1.length ≤ 120) : ∀ (n : Nat) {lv : am_l} {h : am_h} {c s : Nat} {u1 : Int32} {v1 : Int} {u2 : Int32} {v2 : Int} {u3 : Int32} {v3 : Int} {Fv : rf_f} {Av : xl_A}, ((121 - v3).toNat) = n → am_get lv 0 = some (.inr (.inr (some 74))) → am_get lv 1 = some (.inl u1) → am_get lv 2 = some (.inl u2) → am_get lv 3 = some (.inl u3) → u1.toInt = v1 → u2.toInt = v2 → u3.toInt = v3 → xI h0 (ob_P h0) h c s Fv Av → am_okL h.length lv = true → (v1 = n1 ∧ v2 = n2) → (0 ≤ v3 ∧ v3 ≤ (S.2.2.1.length : Int)) → (∃ m9 : Nat, LYv (Fv 7403) 56 (Fv 5605) (Fv 5607) (Av 57) (Av 75) (Av 77) (Av 79) (S.1, S.2.1, lmx (fnv S.2.1 n1 n2) S.2.2.1 v3, m9) ∧ m9 + fnn S.2.1 n1 n2 (S.2.2.1.drop v3.toNat) = S.2.2.2 + fnn S.2.1 n1 n2 S.2.2.1) → (fL9 F0 Fv ∧ aL9 A0 Av) → am_Ok am_G 2 7 (2, lv, [], h, c, s) (xV h0 (fun F' A' => LYv (F' 7403) 56 (F' 5605) (F' 5607) (A' 57) (A' 75) (A' 77) (A' 79) (S.1, S.2.1, S.2.2.1.map (fnv S.2.1 n1 n2), S.2.2.2 + fnn S.2.1 n1 n2 S.2.2.1) ∧ fL9 F0 F' ∧ aL9 A0 A')) := by
  intro n
  induction n using Nat.strongRecOn with
  | ind n ih =>
    intro lv h c s u1 v1 u2 v2 u3 v3  Fv Av hm g0 g1 g2 g3 hv1 hv2 hv3 hI hL i0 i1 i2 i3
    obtain ⟨m9, j1, j2⟩ := i2
    have f3 : Fv 7403 = 56 := j1.1
    have ee79 : Av 79 = lmx (fnv S.2.1 n1 n2) S.2.2.1 v3 := j1.2.2.2.2
    have ll79 : (Av 79).length = S.2.2.1.length := by rw [ee79]; exact lmx_l
    have ll77 : ENM (Av 77) S.2.1 := j1.2.2.2.1
    refine k_iload 3 rfl g3 rfl ?_
    refine k_aload 4 rfl g0 rfl ?_
    refine x_gF 79 hI 7 rfl rfl (by decide) rfl ?_
    refine k_xq hI rfl (xv_size hI.1 or79) rfl rfl rfl (ty_H.rc3 hI.T or79) hL (so_i so_n) ?_
    rintro x1 h2 c3 s4 F5 A6 I7 L8 ⟨e9, k10, k11⟩
    replace k10 := k10.symm
    subst k10
    replace k11 := k11.symm
    subst k11
    show am_Ok _ _ _ (10, _, [.inl x1, .inl u3], _, c3, s4) _
    by_cases b12 : x1 ≤ u3
    · refine k_c2 180 rfl rfl (if_pos b12) ?_
      have b12 : (((Av 79).length : Nat) : Int) ≤ v3 := by have h9 := iv_le.mp b12; rw [hv3] at h9; rw [e9] at h9; exact h9
      exact k_fin rfl rfl ⟨_, _, _, _, _, rfl, I7, (by show LYv (Fv 7403) 56 (Fv 5605) (Fv 5607) (Av 57) (Av 75) (Av 77) (Av 79) (S.1, S.2.1, S.2.2.1.map (fnv S.2.1 n1 n2), S.2.2.2 + fnn S.2.1 n1 n2 S.2.2.1) ∧ fL9 F0 Fv ∧ aL9 A0 Av; exact ⟨by have h9 := fa_z (by omega) j2; have h8 := lmx_e (f := fnv S.2.1 n1 n2) (l := S.2.2.1) (v := v3) (by omega); rw [← h9, ← h8]; exact j1, i3⟩)⟩
    · refine k_c2 13 rfl rfl (if_neg b12) ?_
      have b12 : ¬ ((((Av 79).length : Nat) : Int) ≤ v3) := by have h9 := mt iv_le.mpr b12; rw [hv3] at h9; rw [e9] at h9; exact h9
      refine k_aload 14 rfl g0 rfl ?_
      refine x_gF 79 I7 17 rfl rfl (by decide) rfl ?_
      refine k_iload 18 rfl g3 rfl ?_
      refine k_xq I7 rfl (y_get hv3 I7.1 or79) rfl rfl rfl (ty_H.rc3 I7.T or79) L8 so_n ?_
      rintro x13 h14 c15 s16 F17 A18 I19 L20 ⟨e21, k22, k23⟩
      replace k22 := k22.symm
      subst k22
      replace k23 := k23.symm
      subst k23
      show am_Ok _ _ _ (21, _, [.inl x13], _, c15, s16) _
      have gx : gl (Av 79) (v3) = gl S.2.2.1 v3 := by rw [ee79]; exact lmx_g (by omega) (by omega)
      have hx9 := hW.1 (gl S.2.2.1 v3) (List.mem_of_getElem? (gl_at (by omega) (by omega)))
      refine k_istore 23 rfl rfl ?_
      refine k_iload 25 rfl gs_eq rfl ?_
      refine k_push 26 rfl rfl ?_
      have hc24 : (-1 : Int32).toInt = -1 := by decide
      by_cases b25 : x13 = (-1 : Int32)
      · refine k_c2 174 rfl rfl (if_pos b25) ?_
        have b25 : gl (Av 79) (v3) = (-1) := by have h9 := iv_eq.mp b25; rw [e21] at h9; rw [hc24] at h9; exact h9
        have hc26 : (1 : Int32).toInt = 1 := by decide
        obtain ⟨x27, q28⟩ : ∃ q : Int32, q = u3 + (1 : Int32) := ⟨_, rfl⟩
        have e29 : x27.toInt = (v3 + 1) := bx_add q28 hv3 hc26 (by omega) (by omega)
        refine k_iinc x27 177 rfl (gs_ne rfl rfl g3) q28.symm rfl ?_
        refine k_goto 2 rfl rfl ?_
        exact ih _ (by omega)  (Fv := Fv) (Av := Av) (v1 := v1) (v2 := v2) (v3 := (v3 + 1)) rfl (gs_ne rfl rfl (gs_ne rfl rfl g0)) (gs_ne rfl rfl (gs_ne rfl rfl g1)) (gs_ne rfl rfl (gs_ne rfl rfl g2)) gs_eq hv1 hv2 e29 I19 (okL_set (i := 3) (v := .inl x27) rfl (okL_set (i := 4) (v := .inl x13) rfl L20)) (i0) (by omega) (⟨m9, by rw [lmx_k (by omega) (by omega) (fn_0 (fun z9 => by have z8 := z9.1; have z7 := z9.2.1; have z6 := z9.2.2.1; have z5 := z9.2.2.2; omega))]; exact j1, fa_s (by omega) (by omega) j2 (by rw [if_neg (fun z9 => by have z8 := z9.1; have z7 := z9.2.1; have z6 := z9.2.2.1; have z5 := z9.2.2.2; omega)]; first | done | exact (Nat.add_zero _).symm)⟩) (i3)
      · refine k_c2 29 rfl rfl (if_neg b25) ?_
        have b25 : ¬ (gl (Av 79) (v3) = (-1)) := by have h9 := mt iv_eq.mpr b25; rw [e21] at h9; rw [hc24] at h9; exact h9
        refine k_aload 30 rfl (gs_ne rfl rfl g0) rfl ?_
        refine x_gF 77 I19 33 rfl rfl (by decide) rfl ?_
        refine k_push 34 rfl rfl ?_
        have hc30 : (3 : Int32).toInt = 3 := by decide
        refine k_iload 36 rfl gs_eq rfl ?_
        obtain ⟨x31, q32⟩ : ∃ q : Int32, q = (3 : Int32) * x13 := ⟨_, rfl⟩
        have e33 : x31.toInt = (3 * gl (Av 79) (v3)) := bx_mul q32 hc30 e21 (by omega) (by omega)
        refine k_bin x31 37 rfl q32.symm rfl ?_
        refine k_push 38 rfl rfl ?_
        have hc34 : (1 : Int32).toInt = 1 := by decide
        obtain ⟨x35, q36⟩ : ∃ q : Int32, q = x31 + (1 : Int32) := ⟨_, rfl⟩
        have e37 : x35.toInt = ((3 * gl (Av 79) (v3)) + 1) := bx_add q36 e33 hc34 (by omega) (by omega)
        refine k_bin x35 39 rfl q36.symm rfl ?_
        refine k_xq I19 rfl (y_get e37 I19.1 or77) rfl rfl rfl (ty_H.rc3 I19.T or77) (okL_set (i := 4) (v := .inl x13) rfl L20) so_n ?_
        rintro x38 h39 c40 s41 F42 A43 I44 L45 ⟨e46, k47, k48⟩
        replace k47 := k47.symm
        subst k47
        replace k48 := k48.symm
        subst k48
        show am_Ok _ _ _ (42, _, [.inl x38], _, c40, s41) _
        have px : gl (Av 77) ((3 * gl (Av 79) (v3)) + 1) = plc S.2.1 (gl S.2.2.1 v3) := by rw [gx]; exact (ll77.2 _ (by omega) (by omega)).1
        refine k_iload 43 rfl (gs_ne rfl rfl g2) rfl ?_
        by_cases b49 : u2 ≤ x38
        · refine k_c2 49 rfl rfl (if_pos b49) ?_
          have b49 : v2 ≤ gl (Av 77) (((3 * gl (Av 79) (v3)) + 1)) := by have h9 := iv_le.mp b49; rw [e46] at h9; rw [hv2] at h9; exact h9
          refine k_aload 50 rfl (gs_ne rfl rfl g0) rfl ?_
          refine x_gF 77 I44 53 rfl rfl (by decide) rfl ?_
          refine k_push 54 rfl rfl ?_
          refine k_iload 56 rfl gs_eq rfl ?_
          obtain ⟨x50, q51⟩ : ∃ q : Int32, q = (3 : Int32) * x13 := ⟨_, rfl⟩
          have e52 : x50.toInt = (3 * gl (Av 79) (v3)) := bx_mul q51 hc30 e21 (by omega) (by omega)
          refine k_bin x50 57 rfl q51.symm rfl ?_
          refine k_push 58 rfl rfl ?_
          have hc53 : (2 : Int32).toInt = 2 := by decide
          obtain ⟨x54, q55⟩ : ∃ q : Int32, q = x50 + (2 : Int32) := ⟨_, rfl⟩
          have e56 : x54.toInt = ((3 * gl (Av 79) (v3)) + 2) := bx_add q55 e52 hc53 (by omega) (by omega)
          refine k_bin x54 59 rfl q55.symm rfl ?_
          refine k_xq I44 rfl (y_get e56 I44.1 or77) rfl rfl rfl (ty_H.rc3 I44.T or77) L45 so_n ?_
          rintro x57 h58 c59 s60 F61 A62 I63 L64 ⟨e65, k66, k67⟩
          replace k66 := k66.symm
          subst k66
          replace k67 := k67.symm
          subst k67
          show am_Ok _ _ _ (62, _, [.inl x57], _, c59, s60) _
          have nx9 : gl (Av 77) ((3 * gl (Av 79) (v3)) + 2) = nxt S.2.1 (gl S.2.2.1 v3) := by rw [gx]; exact (ll77.2 _ (by omega) (by omega)).2
          have hy9 := hW.nx (x := gl S.2.2.1 v3) (by omega) (by omega)
          refine k_istore 64 rfl rfl ?_
          refine k_iload 66 rfl gs_eq rfl ?_
          refine k_push 67 rfl rfl ?_
          by_cases b68 : x57 = (-1 : Int32)
          · refine k_c2 174 rfl rfl (if_pos b68) ?_
            have b68 : gl (Av 77) (((3 * gl (Av 79) (v3)) + 2)) = (-1) := by have h9 := iv_eq.mp b68; rw [e65] at h9; rw [hc24] at h9; exact h9
            obtain ⟨x69, q70⟩ : ∃ q : Int32, q = u3 + (1 : Int32) := ⟨_, rfl⟩
            have e71 : x69.toInt = (v3 + 1) := bx_add q70 hv3 hc34 (by omega) (by omega)
            refine k_iinc x69 177 rfl (gs_ne rfl rfl (gs_ne rfl rfl g3)) q70.symm rfl ?_
            refine k_goto 2 rfl rfl ?_
            exact ih _ (by omega)  (Fv := Fv) (Av := Av) (v1 := v1) (v2 := v2) (v3 := (v3 + 1)) rfl (gs_ne rfl rfl (gs_ne rfl rfl (gs_ne rfl rfl g0))) (gs_ne rfl rfl (gs_ne rfl rfl (gs_ne rfl rfl g1))) (gs_ne rfl rfl (gs_ne rfl rfl (gs_ne rfl rfl g2))) gs_eq hv1 hv2 e71 I63 (okL_set (i := 3) (v := .inl x69) rfl (okL_set (i := 5) (v := .inl x57) rfl L64)) (i0) (by omega) (⟨m9, by rw [lmx_k (by omega) (by omega) (fn_0 (fun z9 => by have z8 := z9.1; have z7 := z9.2.1; have z6 := z9.2.2.1; have z5 := z9.2.2.2; omega))]; exact j1, fa_s (by omega) (by omega) j2 (by rw [if_neg (fun z9 => by have z8 := z9.1; have z7 := z9.2.1; have z6 := z9.2.2.1; have z5 := z9.2.2.2; omega)]; first | done | exact (Nat.add_zero _).symm)⟩) (i3)
          · refine k_c2 70 rfl rfl (if_neg b68) ?_
            have b68 : ¬ (gl (Av 77) (((3 * gl (Av 79) (v3)) + 2)) = (-1)) := by have h9 := mt iv_eq.mpr b68; rw [e65] at h9; rw [hc24] at h9; exact h9
            refine k_aload 71 rfl (gs_ne rfl rfl (gs_ne rfl rfl g0)) rfl ?_
            refine x_gF 77 I63 74 rfl rfl (by decide) rfl ?_
            refine k_push 75 rfl rfl ?_
            refine k_iload 77 rfl gs_eq rfl ?_
            obtain ⟨x72, q73⟩ : ∃ q : Int32, q = (3 : Int32) * x57 := ⟨_, rfl⟩
            have e74 : x72.toInt = (3 * gl (Av 77) (((3 * gl (Av 79) (v3)) + 2))) := bx_mul q73 hc30 e65 (by omega) (by omega)
            refine k_bin x72 78 rfl q73.symm rfl ?_
            refine k_push 79 rfl rfl ?_
            obtain ⟨x75, q76⟩ : ∃ q : Int32, q = x72 + (1 : Int32) := ⟨_, rfl⟩
            have e77 : x75.toInt = ((3 * gl (Av 77) (((3 * gl (Av 79) (v3)) + 2))) + 1) := bx_add q76 e74 hc34 (by omega) (by omega)
            refine k_bin x75 80 rfl q76.symm rfl ?_
            refine k_xq I63 rfl (y_get e77 I63.1 or77) rfl rfl rfl (ty_H.rc3 I63.T or77) (okL_set (i := 5) (v := .inl x57) rfl L64) so_n ?_
            rintro x78 h79 c80 s81 F82 A83 I84 L85 ⟨e86, k87, k88⟩
            replace k87 := k87.symm
            subst k87
            replace k88 := k88.symm
            subst k88
            show am_Ok _ _ _ (83, _, [.inl x78], _, c80, s81) _
            have py : gl (Av 77) ((3 * gl (Av 77) ((3 * gl (Av 79) (v3)) + 2)) + 1) = plc S.2.1 (nxt S.2.1 (gl S.2.2.1 v3)) := by rw [nx9]; exact (ll77.2 _ (by omega) (by omega)).1
            refine k_iload 84 rfl (gs_ne rfl rfl (gs_ne rfl rfl g1)) rfl ?_
            by_cases b89 : x78 ≤ u1
            · refine k_c2 174 rfl rfl (if_pos b89) ?_
              have b89 : gl (Av 77) (((3 * gl (Av 77) (((3 * gl (Av 79) (v3)) + 2))) + 1)) ≤ v1 := by have h9 := iv_le.mp b89; rw [e86] at h9; rw [hv1] at h9; exact h9
              obtain ⟨x90, q91⟩ : ∃ q : Int32, q = u3 + (1 : Int32) := ⟨_, rfl⟩
              have e92 : x90.toInt = (v3 + 1) := bx_add q91 hv3 hc34 (by omega) (by omega)
              refine k_iinc x90 177 rfl (gs_ne rfl rfl (gs_ne rfl rfl g3)) q91.symm rfl ?_
              refine k_goto 2 rfl rfl ?_
              exact ih _ (by omega)  (Fv := Fv) (Av := Av) (v1 := v1) (v2 := v2) (v3 := (v3 + 1)) rfl (gs_ne rfl rfl (gs_ne rfl rfl (gs_ne rfl rfl g0))) (gs_ne rfl rfl (gs_ne rfl rfl (gs_ne rfl rfl g1))) (gs_ne rfl rfl (gs_ne rfl rfl (gs_ne rfl rfl g2))) gs_eq hv1 hv2 e92 I84 (okL_set (i := 3) (v := .inl x90) rfl L85) (i0) (by omega) (⟨m9, by rw [lmx_k (by omega) (by omega) (fn_0 (fun z9 => by have z8 := z9.1; have z7 := z9.2.1; have z6 := z9.2.2.1; have z5 := z9.2.2.2; omega))]; exact j1, fa_s (by omega) (by omega) j2 (by rw [if_neg (fun z9 => by have z8 := z9.1; have z7 := z9.2.1; have z6 := z9.2.2.1; have z5 := z9.2.2.2; omega)]; first | done | exact (Nat.add_zero _).symm)⟩) (i3)
            · refine k_c2 87 rfl rfl (if_neg b89) ?_
              have b89 : ¬ (gl (Av 77) (((3 * gl (Av 77) (((3 * gl (Av 79) (v3)) + 2))) + 1)) ≤ v1) := by have h9 := mt iv_le.mpr b89; rw [e86] at h9; rw [hv1] at h9; exact h9
              refine k_aload 88 rfl (gs_ne rfl rfl (gs_ne rfl rfl g0)) rfl ?_
              refine x_gO (τ := 1) I84 91 rfl oc74 rfl rfl rfl rfl (fun r93 (e94 : (r93 : Int) = Fv 7403) o95 => ?_)
              obtain rfl : r93 = 56 := by omega
              refine k_push 92 rfl rfl ?_
              refine k_aload 93 rfl (gs_ne rfl rfl (gs_ne rfl rfl g0)) rfl ?_
              refine x_gI I84 96 rfl oc74 rfl rfl rfl rfl (fun x96 (e97 : x96.toInt = Fv 7404) => ?_)
              refine k_xq I84 rfl (n_X1_make_56 hc30 e97  (m9) (by exact j1.2.1) I84.1) rfl rfl rfl (I84.T.rc oc56 rfl) L85 so_n ?_
              rintro x98 h99 c100 s101 F102 A103 I104 L105 e106
              obtain ⟨n107, q108⟩ : ∃ n : Int, x98.toInt = n := ⟨_, rfl⟩
              try rw [q108] at e106
              show am_Ok _ _ _ (99, _, [.inl x98], _, c100, s101) _
              obtain ⟨ww1, ww2, ww3⟩ := e106
              have gg3 := ww2 7403 (Or.inr (by omega))
              have a75 : A103 75 = Av 75 := ww3 75 (by decide) (by decide)
              have a77 : A103 77 = Av 77 := ww3 77 (by decide) (by decide)
              have a79 : A103 79 = Av 79 := ww3 79 (by decide) (by decide)
              refine k_istore 101 rfl rfl ?_
              refine k_aload 102 rfl (gs_ne rfl rfl (gs_ne rfl rfl (gs_ne rfl rfl g0))) rfl ?_
              refine x_gO (τ := 1) I104 105 rfl oc74 rfl rfl rfl rfl (fun r109 (e110 : (r109 : Int) = F102 7403) o111 => ?_)
              obtain rfl : r109 = 56 := by omega
              refine k_push 106 rfl rfl ?_
              have hc112 : (4 : Int32).toInt = 4 := by decide
              refine k_iload 108 rfl gs_eq rfl ?_
              obtain ⟨x113, q114⟩ : ∃ q : Int32, q = (4 : Int32) * x98 := ⟨_, rfl⟩
              have e115 : x113.toInt = bm (4 * n107) := bm_mul q114 hc112 q108
              refine k_bin x113 109 rfl q114.symm rfl ?_
              refine k_push 110 rfl rfl ?_
              obtain ⟨x116, q117⟩ : ∃ q : Int32, q = x113 + (1 : Int32) := ⟨_, rfl⟩
              have e118 : x116.toInt = bm (bm (4 * n107) + 1) := bm_add q117 e115 hc34
              refine k_bin x116 111 rfl q117.symm rfl ?_
              refine k_aload 112 rfl (gs_ne rfl rfl (gs_ne rfl rfl (gs_ne rfl rfl g0))) rfl ?_
              refine x_gF 77 I104 115 rfl rfl (by decide) rfl ?_
              refine k_push 116 rfl rfl ?_
              refine k_iload 118 rfl (gs_ne rfl rfl gs_eq) rfl ?_
              obtain ⟨x119, q120⟩ : ∃ q : Int32, q = (3 : Int32) * x57 := ⟨_, rfl⟩
              have e121 : x119.toInt = (3 * gl (Av 77) (((3 * gl (Av 79) (v3)) + 2))) := bx_mul q120 hc30 e65 (by omega) (by omega)
              refine k_bin x119 119 rfl q120.symm rfl ?_
              refine k_xq I104 rfl (y_get e121 I104.1 or77) rfl rfl rfl (ty_H.rc3 I104.T or77) (okL_set (i := 6) (v := .inl x98) rfl L105) (so_i (xo_r I104 oc56 so_n)) ?_
              rintro x122 h123 c124 s125 F126 A127 I128 L129 ⟨e130, k131, k132⟩
              replace k131 := k131.symm
              subst k131
              replace k132 := k132.symm
              subst k132
              show am_Ok _ _ _ (122, _, [.inl x122, .inl x116, .inr (.inr (some 56))], _, c124, s125) _
              refine k_xv I128 rfl (n_X1_link_56 e118 e130   I128.1) rfl rfl rfl (I128.T.rc oc56 rfl) L129 so_n ?_
              rintro h134 c135 s136 F137 A138 I139 L140 ⟨k142, k143⟩
              replace k142 : F137 = F102 := k142
              replace k142 := k142.symm
              subst k142
              replace k143 := k143.symm
              subst k143
              show am_Ok _ _ _ (125, _, [], _, c135, s136) _
              refine k_aload 126 rfl (gs_ne rfl rfl (gs_ne rfl rfl (gs_ne rfl rfl g0))) rfl ?_
              refine x_gO (τ := 1) I139 129 rfl oc74 rfl rfl rfl rfl (fun r144 (e145 : (r144 : Int) = F102 7403) o146 => ?_)
              obtain rfl : r144 = 56 := by omega
              refine k_push 130 rfl rfl ?_
              refine k_iload 132 rfl gs_eq rfl ?_
              obtain ⟨x147, q148⟩ : ∃ q : Int32, q = (4 : Int32) * x98 := ⟨_, rfl⟩
              have e149 : x147.toInt = bm (4 * n107) := bm_mul q148 hc112 q108
              refine k_bin x147 133 rfl q148.symm rfl ?_
              refine k_push 134 rfl rfl ?_
              obtain ⟨x150, q151⟩ : ∃ q : Int32, q = x147 + (2 : Int32) := ⟨_, rfl⟩
              have e152 : x150.toInt = bm (bm (4 * n107) + 2) := bm_add q151 e149 hc53
              refine k_bin x150 135 rfl q151.symm rfl ?_
              refine k_aload 136 rfl (gs_ne rfl rfl (gs_ne rfl rfl (gs_ne rfl rfl g0))) rfl ?_
              refine x_gF 77 I139 139 rfl rfl (by decide) rfl ?_
              refine k_push 140 rfl rfl ?_
              refine k_iload 142 rfl (gs_ne rfl rfl (gs_ne rfl rfl gs_eq)) rfl ?_
              obtain ⟨x153, q154⟩ : ∃ q : Int32, q = (3 : Int32) * x13 := ⟨_, rfl⟩
              have e155 : x153.toInt = (3 * gl (Av 79) (v3)) := bx_mul q154 hc30 e21 (by omega) (by omega)
              refine k_bin x153 143 rfl q154.symm rfl ?_
              refine k_xq I139 rfl (y_get e155 I139.1 or77) rfl rfl rfl (ty_H.rc3 I139.T or77) L140 (so_i (xo_r I139 oc56 so_n)) ?_
              rintro x156 h157 c158 s159 F160 A161 I162 L163 ⟨e164, k165, k166⟩
              replace k165 := k165.symm
              subst k165
              replace k166 := k166.symm
              subst k166
              show am_Ok _ _ _ (146, _, [.inl x156, .inl x150, .inr (.inr (some 56))], _, c158, s159) _
              refine k_xv I162 rfl (n_X1_link_56 e152 e164   I162.1) rfl rfl rfl (I162.T.rc oc56 rfl) L163 so_n ?_
              rintro h168 c169 s170 F171 A172 I173 L174 ⟨k176, k177⟩
              replace k176 : F171 = F102 := k176
              replace k176 := k176.symm
              subst k176
              replace k177 := k177.symm
              subst k177
              show am_Ok _ _ _ (149, _, [], _, c169, s170) _
              refine k_aload 150 rfl (gs_ne rfl rfl (gs_ne rfl rfl (gs_ne rfl rfl g0))) rfl ?_
              refine x_gF 77 I173 153 rfl rfl (by decide) rfl ?_
              refine k_push 154 rfl rfl ?_
              refine k_iload 156 rfl (gs_ne rfl rfl gs_eq) rfl ?_
              obtain ⟨x178, q179⟩ : ∃ q : Int32, q = (3 : Int32) * x57 := ⟨_, rfl⟩
              have e180 : x178.toInt = (3 * gl (Av 77) (((3 * gl (Av 79) (v3)) + 2))) := bx_mul q179 hc30 e65 (by omega) (by omega)
              refine k_bin x178 157 rfl q179.symm rfl ?_
              refine k_push 158 rfl rfl ?_
              refine k_iload 160 rfl gs_eq rfl ?_
              obtain ⟨x181, q182⟩ : ∃ q : Int32, q = (4 : Int32) * x98 := ⟨_, rfl⟩
              have e183 : x181.toInt = bm (4 * n107) := bm_mul q182 hc112 q108
              refine k_bin x181 161 rfl q182.symm rfl ?_
              refine k_xv I173 rfl (y_set e180 e183 I173.1 or77) rfl rfl rfl (ty_H.rc3 I173.T or77) L174 so_n ?_
              rintro h185 c186 s187 F188 A189 I190 L191 ⟨k193, k194⟩
              replace k193 := k193.symm
              subst k193
              replace k194 := k194.symm
              subst k194
              show am_Ok _ _ _ (164, _, [], _, c186, s187) _
              refine k_aload 165 rfl (gs_ne rfl rfl (gs_ne rfl rfl (gs_ne rfl rfl g0))) rfl ?_
              refine x_gF 79 I190 168 rfl rfl (by decide) rfl ?_
              refine k_iload 169 rfl (gs_ne rfl rfl (gs_ne rfl rfl (gs_ne rfl rfl g3))) rfl ?_
              refine k_iload 171 rfl (gs_ne rfl rfl gs_eq) rfl ?_
              refine k_xv I190 rfl (y_set hv3 e65 I190.1 or79) rfl rfl rfl (ty_H.rc3 I190.T or79) L191 so_n ?_
              rintro h196 c197 s198 F199 A200 I201 L202 ⟨k204, k205⟩
              replace k204 := k204.symm
              subst k204
              replace k205 := k205.symm
              subst k205
              show am_Ok _ _ _ (174, _, [], _, c197, s198) _
              obtain ⟨x206, q207⟩ : ∃ q : Int32, q = u3 + (1 : Int32) := ⟨_, rfl⟩
              have e208 : x206.toInt = (v3 + 1) := bx_add q207 hv3 hc34 (by omega) (by omega)
              refine k_iinc x206 177 rfl (gs_ne rfl rfl (gs_ne rfl rfl (gs_ne rfl rfl g3))) q207.symm rfl ?_
              refine k_goto 2 rfl rfl ?_
              exact ih _ (by omega)  (Fv := F102) (Av := (upl ((upl ((p_X1_link_56 (bm (bm (4 * n107) + 2)) (gl ((p_X1_link_56 (bm (bm (4 * n107) + 1)) (gl (A103 77) ((3 * gl (Av 77) (((3 * gl (Av 79) (v3)) + 2))))) F102 A103).2.2 77) ((3 * gl (Av 79) (v3)))) F102 ((p_X1_link_56 (bm (bm (4 * n107) + 1)) (gl (A103 77) ((3 * gl (Av 77) (((3 * gl (Av 79) (v3)) + 2))))) F102 A103).2.2)).2.2) 77 (ssl ((p_X1_link_56 (bm (bm (4 * n107) + 2)) (gl ((p_X1_link_56 (bm (bm (4 * n107) + 1)) (gl (A103 77) ((3 * gl (Av 77) (((3 * gl (Av 79) (v3)) + 2))))) F102 A103).2.2 77) ((3 * gl (Av 79) (v3)))) F102 ((p_X1_link_56 (bm (bm (4 * n107) + 1)) (gl (A103 77) ((3 * gl (Av 77) (((3 * gl (Av 79) (v3)) + 2))))) F102 A103).2.2)).2.2 77) ((3 * gl (Av 77) (((3 * gl (Av 79) (v3)) + 2)))) (bm (4 * n107))))) 79 (ssl ((p_X1_link_56 (bm (bm (4 * n107) + 2)) (gl ((p_X1_link_56 (bm (bm (4 * n107) + 1)) (gl (A103 77) ((3 * gl (Av 77) (((3 * gl (Av 79) (v3)) + 2))))) F102 A103).2.2 77) ((3 * gl (Av 79) (v3)))) F102 ((p_X1_link_56 (bm (bm (4 * n107) + 1)) (gl (A103 77) ((3 * gl (Av 77) (((3 * gl (Av 79) (v3)) + 2))))) F102 A103).2.2)).2.2 79) (v3) (gl (Av 77) (((3 * gl (Av 79) (v3)) + 2)))))) (v1 := v1) (v2 := v2) (v3 := (v3 + 1)) rfl (gs_ne rfl rfl (gs_ne rfl rfl (gs_ne rfl rfl (gs_ne rfl rfl g0)))) (gs_ne rfl rfl (gs_ne rfl rfl (gs_ne rfl rfl (gs_ne rfl rfl g1)))) (gs_ne rfl rfl (gs_ne rfl rfl (gs_ne rfl rfl (gs_ne rfl rfl g2)))) gs_eq hv1 hv2 e208 I201 (okL_set (i := 3) (v := .inl x206) rfl L202) (i0) (by omega) (⟨m9 + 1, by show LYv (F102 7403) 56 (F102 5605) (F102 5607) (A103 57) (A103 75) (ssl (A103 77) (3 * gl (Av 77) ((3 * gl (Av 79) (v3)) + 2)) _) (ssl (A103 79) (v3) (gl (Av 77) ((3 * gl (Av 79) (v3)) + 2))) _; rw [gg3, a75, a77, a79]; exact j1.fa ww1 (lmx_s (by omega) (by omega) (by rw [fn_1 ⟨by omega, by omega, by omega, by omega⟩]; omega)).symm, fa_s (by omega) (by omega) j2 (by rw [if_pos ⟨by omega, by omega, by omega, by omega⟩])⟩) (⟨i3.1.tr (fun n hn => ww2 n (Or.inl (by omega))), i3.2.tr (fun k hk => (upl_ne (by omega)).trans ((upl_ne (by omega)).trans ((lk_56 (by omega)).trans ((lk_56 (by omega)).trans (ww3 k (by omega) (by omega))))))⟩)
        · refine k_c2 46 rfl rfl (if_neg b49) ?_
          have b49 : ¬ (v2 ≤ gl (Av 77) (((3 * gl (Av 79) (v3)) + 1))) := by have h9 := mt iv_le.mpr b49; rw [e46] at h9; rw [hv2] at h9; exact h9
          refine k_goto 174 rfl rfl ?_
          obtain ⟨x209, q210⟩ : ∃ q : Int32, q = u3 + (1 : Int32) := ⟨_, rfl⟩
          have e211 : x209.toInt = (v3 + 1) := bx_add q210 hv3 hc34 (by omega) (by omega)
          refine k_iinc x209 177 rfl (gs_ne rfl rfl g3) q210.symm rfl ?_
          refine k_goto 2 rfl rfl ?_
          exact ih _ (by omega)  (Fv := Fv) (Av := Av) (v1 := v1) (v2 := v2) (v3 := (v3 + 1)) rfl (gs_ne rfl rfl (gs_ne rfl rfl g0)) (gs_ne rfl rfl (gs_ne rfl rfl g1)) (gs_ne rfl rfl (gs_ne rfl rfl g2)) gs_eq hv1 hv2 e211 I44 (okL_set (i := 3) (v := .inl x209) rfl L45) (i0) (by omega) (⟨m9, by rw [lmx_k (by omega) (by omega) (fn_0 (fun z9 => by have z8 := z9.1; have z7 := z9.2.1; have z6 := z9.2.2.1; have z5 := z9.2.2.2; omega))]; exact j1, fa_s (by omega) (by omega) j2 (by rw [if_neg (fun z9 => by have z8 := z9.1; have z7 := z9.2.1; have z6 := z9.2.2.1; have z5 := z9.2.2.2; omega)]; first | done | exact (Nat.add_zero _).symm)⟩) (i3)
theorem n_X0_fanEnds_56 {h0 : am_h} {F0 : rf_f} {A0 : xl_A} {w1 : Int32} {n1 : Int} (hn1 : w1.toInt = n1) {w2 : Int32} {n2 : Int} (hn2 : w2.toInt = n2)  (S : lST) (hS : LYv (F0 7403) 56 (F0 5605) (F0 5607) (A0 57) (A0 75) (A0 77) (A0 79) (S)) (hW : WF0 S.2.1 S.2.2.1) (hB : S.2.1.length ≤ 120 ∧ S.2.2.1.length ≤ 120) (hR : xR h0 F0 A0) : am_Mt 3 7 [.inr (.inr (some 74)), .inl w1, .inl w2] h0 (xV h0 (fun F' A' => LYv (F' 7403) 56 (F' 5605) (F' 5607) (A' 57) (A' 75) (A' 77) (A' 79) (S.1, S.2.1, S.2.2.1.map (fnv S.2.1 n1 n2), S.2.2.2 + fnn S.2.1 n1 n2 S.2.2.1) ∧ fL9 F0 F' ∧ aL9 A0 A')) := by
  refine am_Mt.of (D := 2) ?_
  have hI : xI h0 (ob_P h0) h0 0 0 F0 A0 := xI.start hR
  have hL : am_okL h0.length (am_args 0 [.inr (.inr (some 74)), .inl w1, .inl w2]) = true := (okA_r hI.T oc74 (okA_i (okA_i okA_n)))
  refine k_push 1 rfl rfl ?_
  have hc212 : (0 : Int32).toInt = 0 := by decide
  refine k_istore 2 rfl rfl ?_
  exact yl_X0_fanEnds_56_2 hn1 hn2  S hS hW hB _  (Fv := F0) (Av := A0) (v1 := n1) (v2 := n2) (v3 := 0) rfl (gs_ne rfl rfl rfl) (gs_ne rfl rfl rfl) (gs_ne rfl rfl rfl) gs_eq hn1 hn2 hc212 hI (okL_set (i := 3) (v := .inl (0 : Int32)) rfl hL) (⟨rfl, rfl⟩) (by omega) (⟨S.2.2.2, by rw [lmx_0]; exact hS, rfl⟩) (⟨fun n hn => rfl, fun k hk => rfl⟩)
end
section
theorem yl_X0_bracketEnds_65_2 {h0 : am_h} {F0 : rf_f} {A0 : xl_A} {w1 : Int32} {n1 : Int} (hn1 : w1.toInt = n1)  (S : lST) (hS : LYv (F0 7403) 65 (F0 6505) (F0 6507) (A0 66) (A0 75) (A0 77) (A0 79) (S)) (hW : WF0 S.2.1 S.2.2.1) (hB : S.2.1.length ≤ 120 ∧ S.2.2.1.length ≤ 120) : ∀ (n : Nat) {lv : am_l} {h : am_h} {c s : Nat} {u1 : Int32} {v1 : Int} {u2 : Int32} {v2 : Int} {Fv : rf_f} {Av : xl_A}, ((121 - v2).toNat) = n → am_get lv 0 = some (.inr (.inr (some 74))) → am_get lv 1 = some (.inl u1) → am_get lv 2 = some (.inl u2) → u1.toInt = v1 → u2.toInt = v2 → xI h0 (ob_P h0) h c s Fv Av → am_okL h.length lv = true → (v1 = n1) → (0 ≤ v2 ∧ v2 ≤ (S.2.2.1.length : Int)) → (∃ m9 : Nat, LYv (Fv 7403) 65 (Fv 6505) (Fv 6507) (Av 66) (Av 75) (Av 77) (Av 79) (S.1, S.2.1, S.2.2.1, m9) ∧ m9 + bkn S.2.1 n1 (S.2.2.1.drop v2.toNat) = S.2.2.2 + bkn S.2.1 n1 S.2.2.1) → (fL9 F0 Fv ∧ aL9 A0 Av) → am_Ok am_G 2 6 (2, lv, [], h, c, s) (xV h0 (fun F' A' => LYv (F' 7403) 65 (F' 6505) (F' 6507) (A' 66) (A' 75) (A' 77) (A' 79) (S.1, S.2.1, S.2.2.1, S.2.2.2 + bkn S.2.1 n1 S.2.2.1) ∧ fL9 F0 F' ∧ aL9 A0 A')) := by
  intro n
  induction n using Nat.strongRecOn with
  | ind n ih =>
    intro lv h c s u1 v1 u2 v2  Fv Av hm g0 g1 g2 hv1 hv2 hI hL i0 i1 i2 i3
    obtain ⟨m9, j1, j2⟩ := i2
    have f3 : Fv 7403 = 65 := j1.1
    have ee79 : Av 79 = S.2.2.1 := j1.2.2.2.2
    have ll79 : (Av 79).length = S.2.2.1.length := by rw [ee79]
    have ll77 : ENM (Av 77) S.2.1 := j1.2.2.2.1
    refine k_iload 3 rfl g2 rfl ?_
    refine k_aload 4 rfl g0 rfl ?_
    refine x_gF 79 hI 7 rfl rfl (by decide) rfl ?_
    refine k_xq hI rfl (xv_size hI.1 or79) rfl rfl rfl (ty_H.rc3 hI.T or79) hL (so_i so_n) ?_
    rintro x1 h2 c3 s4 F5 A6 I7 L8 ⟨e9, k10, k11⟩
    replace k10 := k10.symm
    subst k10
    replace k11 := k11.symm
    subst k11
    show am_Ok _ _ _ (10, _, [.inl x1, .inl u2], _, c3, s4) _
    by_cases b12 : x1 ≤ u2
    · refine k_c2 100 rfl rfl (if_pos b12) ?_
      have b12 : (((Av 79).length : Nat) : Int) ≤ v2 := by have h9 := iv_le.mp b12; rw [hv2] at h9; rw [e9] at h9; exact h9
      exact k_fin rfl rfl ⟨_, _, _, _, _, rfl, I7, (by show LYv (Fv 7403) 65 (Fv 6505) (Fv 6507) (Av 66) (Av 75) (Av 77) (Av 79) (S.1, S.2.1, S.2.2.1, S.2.2.2 + bkn S.2.1 n1 S.2.2.1) ∧ fL9 F0 Fv ∧ aL9 A0 Av; exact ⟨by have h9 := bk_z (by omega) j2; rw [← h9]; exact j1, i3⟩)⟩
    · refine k_c2 13 rfl rfl (if_neg b12) ?_
      have b12 : ¬ ((((Av 79).length : Nat) : Int) ≤ v2) := by have h9 := mt iv_le.mpr b12; rw [hv2] at h9; rw [e9] at h9; exact h9
      refine k_aload 14 rfl g0 rfl ?_
      refine x_gF 79 I7 17 rfl rfl (by decide) rfl ?_
      refine k_iload 18 rfl g2 rfl ?_
      refine k_xq I7 rfl (y_get hv2 I7.1 or79) rfl rfl rfl (ty_H.rc3 I7.T or79) L8 so_n ?_
      rintro x13 h14 c15 s16 F17 A18 I19 L20 ⟨e21, k22, k23⟩
      replace k22 := k22.symm
      subst k22
      replace k23 := k23.symm
      subst k23
      show am_Ok _ _ _ (21, _, [.inl x13], _, c15, s16) _
      have gx : gl (Av 79) (v2) = gl S.2.2.1 v2 := by rw [ee79]
      have hx9 := hW.1 (gl S.2.2.1 v2) (List.mem_of_getElem? (gl_at (by omega) (by omega)))
      refine k_istore 22 rfl rfl ?_
      refine k_iload 23 rfl gs_eq rfl ?_
      refine k_push 24 rfl rfl ?_
      have hc24 : (-1 : Int32).toInt = -1 := by decide
      by_cases b25 : x13 = (-1 : Int32)
      · refine k_c2 94 rfl rfl (if_pos b25) ?_
        have b25 : gl (Av 79) (v2) = (-1) := by have h9 := iv_eq.mp b25; rw [e21] at h9; rw [hc24] at h9; exact h9
        have hc26 : (1 : Int32).toInt = 1 := by decide
        obtain ⟨x27, q28⟩ : ∃ q : Int32, q = u2 + (1 : Int32) := ⟨_, rfl⟩
        have e29 : x27.toInt = (v2 + 1) := bx_add q28 hv2 hc26 (by omega) (by omega)
        refine k_iinc x27 97 rfl (gs_ne rfl rfl g2) q28.symm rfl ?_
        refine k_goto 2 rfl rfl ?_
        exact ih _ (by omega)  (Fv := Fv) (Av := Av) (v1 := v1) (v2 := (v2 + 1)) rfl (gs_ne rfl rfl (gs_ne rfl rfl g0)) (gs_ne rfl rfl (gs_ne rfl rfl g1)) gs_eq hv1 e29 I19 (okL_set (i := 2) (v := .inl x27) rfl (okL_set (i := 3) (v := .inl x13) rfl L20)) (i0) (by omega) (⟨m9, j1, bk_s (by omega) (by omega) j2 (by rw [if_neg (fun z9 => by have z8 := z9.1; have z7 := z9.2; omega)]; first | done | exact (Nat.add_zero _).symm)⟩) (i3)
      · refine k_c2 27 rfl rfl (if_neg b25) ?_
        have b25 : ¬ (gl (Av 79) (v2) = (-1)) := by have h9 := mt iv_eq.mpr b25; rw [e21] at h9; rw [hc24] at h9; exact h9
        refine k_aload 28 rfl (gs_ne rfl rfl g0) rfl ?_
        refine x_gF 77 I19 31 rfl rfl (by decide) rfl ?_
        refine k_push 32 rfl rfl ?_
        have hc30 : (3 : Int32).toInt = 3 := by decide
        refine k_iload 33 rfl gs_eq rfl ?_
        obtain ⟨x31, q32⟩ : ∃ q : Int32, q = (3 : Int32) * x13 := ⟨_, rfl⟩
        have e33 : x31.toInt = (3 * gl (Av 79) (v2)) := bx_mul q32 hc30 e21 (by omega) (by omega)
        refine k_bin x31 34 rfl q32.symm rfl ?_
        refine k_push 35 rfl rfl ?_
        have hc34 : (1 : Int32).toInt = 1 := by decide
        obtain ⟨x35, q36⟩ : ∃ q : Int32, q = x31 + (1 : Int32) := ⟨_, rfl⟩
        have e37 : x35.toInt = ((3 * gl (Av 79) (v2)) + 1) := bx_add q36 e33 hc34 (by omega) (by omega)
        refine k_bin x35 36 rfl q36.symm rfl ?_
        refine k_xq I19 rfl (y_get e37 I19.1 or77) rfl rfl rfl (ty_H.rc3 I19.T or77) (okL_set (i := 3) (v := .inl x13) rfl L20) so_n ?_
        rintro x38 h39 c40 s41 F42 A43 I44 L45 ⟨e46, k47, k48⟩
        replace k47 := k47.symm
        subst k47
        replace k48 := k48.symm
        subst k48
        show am_Ok _ _ _ (39, _, [.inl x38], _, c40, s41) _
        have px : gl (Av 77) ((3 * gl (Av 79) (v2)) + 1) = plc S.2.1 (gl S.2.2.1 v2) := by rw [gx]; exact (ll77.2 _ (by omega) (by omega)).1
        refine k_iload 40 rfl (gs_ne rfl rfl g1) rfl ?_
        by_cases b49 : x38 < u1
        · refine k_c2 94 rfl rfl (if_pos b49) ?_
          have b49 : gl (Av 77) (((3 * gl (Av 79) (v2)) + 1)) < v1 := by have h9 := iv_lt.mp b49; rw [e46] at h9; rw [hv1] at h9; exact h9
          obtain ⟨x50, q51⟩ : ∃ q : Int32, q = u2 + (1 : Int32) := ⟨_, rfl⟩
          have e52 : x50.toInt = (v2 + 1) := bx_add q51 hv2 hc34 (by omega) (by omega)
          refine k_iinc x50 97 rfl (gs_ne rfl rfl g2) q51.symm rfl ?_
          refine k_goto 2 rfl rfl ?_
          exact ih _ (by omega)  (Fv := Fv) (Av := Av) (v1 := v1) (v2 := (v2 + 1)) rfl (gs_ne rfl rfl (gs_ne rfl rfl g0)) (gs_ne rfl rfl (gs_ne rfl rfl g1)) gs_eq hv1 e52 I44 (okL_set (i := 2) (v := .inl x50) rfl L45) (i0) (by omega) (⟨m9, j1, bk_s (by omega) (by omega) j2 (by rw [if_neg (fun z9 => by have z8 := z9.1; have z7 := z9.2; omega)]; first | done | exact (Nat.add_zero _).symm)⟩) (i3)
        · refine k_c2 43 rfl rfl (if_neg b49) ?_
          have b49 : ¬ (gl (Av 77) (((3 * gl (Av 79) (v2)) + 1)) < v1) := by have h9 := mt iv_lt.mpr b49; rw [e46] at h9; rw [hv1] at h9; exact h9
          refine k_aload 44 rfl (gs_ne rfl rfl g0) rfl ?_
          refine x_gO (τ := 1) I44 47 rfl oc74 rfl rfl rfl rfl (fun r53 (e54 : (r53 : Int) = Fv 7403) o55 => ?_)
          obtain rfl : r53 = 65 := by omega
          refine k_push 48 rfl rfl ?_
          have hc56 : (4 : Int32).toInt = 4 := by decide
          refine k_aload 49 rfl (gs_ne rfl rfl g0) rfl ?_
          refine x_gI I44 52 rfl oc74 rfl rfl rfl rfl (fun x57 (e58 : x57.toInt = Fv 7404) => ?_)
          refine k_xq I44 rfl (n_X1_make_65 hc56 e58  (m9) (by exact j1.2.1) I44.1) rfl rfl rfl (I44.T.rc oc65 rfl) L45 so_n ?_
          rintro x59 h60 c61 s62 F63 A64 I65 L66 e67
          obtain ⟨n68, q69⟩ : ∃ n : Int, x59.toInt = n := ⟨_, rfl⟩
          try rw [q69] at e67
          show am_Ok _ _ _ (55, _, [.inl x59], _, c61, s62) _
          obtain ⟨ww1, ww2, ww3⟩ := e67
          have gg3 := ww2 7403 (Or.inr (by omega))
          have a75 : A64 75 = Av 75 := ww3 75 (by decide) (by decide)
          have a77 : A64 77 = Av 77 := ww3 77 (by decide) (by decide)
          have a79 : A64 79 = Av 79 := ww3 79 (by decide) (by decide)
          refine k_istore 57 rfl rfl ?_
          refine k_aload 58 rfl (gs_ne rfl rfl (gs_ne rfl rfl g0)) rfl ?_
          refine x_gO (τ := 1) I65 61 rfl oc74 rfl rfl rfl rfl (fun r70 (e71 : (r70 : Int) = F63 7403) o72 => ?_)
          obtain rfl : r70 = 65 := by omega
          refine k_push 62 rfl rfl ?_
          refine k_iload 64 rfl gs_eq rfl ?_
          obtain ⟨x73, q74⟩ : ∃ q : Int32, q = (4 : Int32) * x59 := ⟨_, rfl⟩
          have e75 : x73.toInt = bm (4 * n68) := bm_mul q74 hc56 q69
          refine k_bin x73 65 rfl q74.symm rfl ?_
          refine k_push 66 rfl rfl ?_
          obtain ⟨x76, q77⟩ : ∃ q : Int32, q = x73 + (1 : Int32) := ⟨_, rfl⟩
          have e78 : x76.toInt = bm (bm (4 * n68) + 1) := bm_add q77 e75 hc34
          refine k_bin x76 67 rfl q77.symm rfl ?_
          refine k_aload 68 rfl (gs_ne rfl rfl (gs_ne rfl rfl g0)) rfl ?_
          refine x_gF 77 I65 71 rfl rfl (by decide) rfl ?_
          refine k_push 72 rfl rfl ?_
          refine k_iload 73 rfl (gs_ne rfl rfl gs_eq) rfl ?_
          obtain ⟨x79, q80⟩ : ∃ q : Int32, q = (3 : Int32) * x13 := ⟨_, rfl⟩
          have e81 : x79.toInt = (3 * gl (Av 79) (v2)) := bx_mul q80 hc30 e21 (by omega) (by omega)
          refine k_bin x79 74 rfl q80.symm rfl ?_
          refine k_xq I65 rfl (y_get e81 I65.1 or77) rfl rfl rfl (ty_H.rc3 I65.T or77) (okL_set (i := 4) (v := .inl x59) rfl L66) (so_i (xo_r I65 oc65 so_n)) ?_
          rintro x82 h83 c84 s85 F86 A87 I88 L89 ⟨e90, k91, k92⟩
          replace k91 := k91.symm
          subst k91
          replace k92 := k92.symm
          subst k92
          show am_Ok _ _ _ (77, _, [.inl x82, .inl x76, .inr (.inr (some 65))], _, c84, s85) _
          refine k_xv I88 rfl (n_X1_link_65 e78 e90   I88.1) rfl rfl rfl (I88.T.rc oc65 rfl) L89 so_n ?_
          rintro h94 c95 s96 F97 A98 I99 L100 ⟨k102, k103⟩
          replace k102 : F97 = F63 := k102
          replace k102 := k102.symm
          subst k102
          replace k103 := k103.symm
          subst k103
          show am_Ok _ _ _ (80, _, [], _, c95, s96) _
          refine k_aload 81 rfl (gs_ne rfl rfl (gs_ne rfl rfl g0)) rfl ?_
          refine x_gF 77 I99 84 rfl rfl (by decide) rfl ?_
          refine k_push 85 rfl rfl ?_
          refine k_iload 86 rfl (gs_ne rfl rfl gs_eq) rfl ?_
          obtain ⟨x104, q105⟩ : ∃ q : Int32, q = (3 : Int32) * x13 := ⟨_, rfl⟩
          have e106 : x104.toInt = (3 * gl (Av 79) (v2)) := bx_mul q105 hc30 e21 (by omega) (by omega)
          refine k_bin x104 87 rfl q105.symm rfl ?_
          refine k_push 88 rfl rfl ?_
          refine k_iload 90 rfl gs_eq rfl ?_
          obtain ⟨x107, q108⟩ : ∃ q : Int32, q = (4 : Int32) * x59 := ⟨_, rfl⟩
          have e109 : x107.toInt = bm (4 * n68) := bm_mul q108 hc56 q69
          refine k_bin x107 91 rfl q108.symm rfl ?_
          refine k_xv I99 rfl (y_set e106 e109 I99.1 or77) rfl rfl rfl (ty_H.rc3 I99.T or77) L100 so_n ?_
          rintro h111 c112 s113 F114 A115 I116 L117 ⟨k119, k120⟩
          replace k119 := k119.symm
          subst k119
          replace k120 := k120.symm
          subst k120
          show am_Ok _ _ _ (94, _, [], _, c112, s113) _
          obtain ⟨x121, q122⟩ : ∃ q : Int32, q = u2 + (1 : Int32) := ⟨_, rfl⟩
          have e123 : x121.toInt = (v2 + 1) := bx_add q122 hv2 hc34 (by omega) (by omega)
          refine k_iinc x121 97 rfl (gs_ne rfl rfl (gs_ne rfl rfl g2)) q122.symm rfl ?_
          refine k_goto 2 rfl rfl ?_
          exact ih _ (by omega)  (Fv := F63) (Av := (upl ((p_X1_link_65 (bm (bm (4 * n68) + 1)) (gl (A64 77) ((3 * gl (Av 79) (v2)))) F63 A64).2.2) 77 (ssl ((p_X1_link_65 (bm (bm (4 * n68) + 1)) (gl (A64 77) ((3 * gl (Av 79) (v2)))) F63 A64).2.2 77) ((3 * gl (Av 79) (v2))) (bm (4 * n68))))) (v1 := v1) (v2 := (v2 + 1)) rfl (gs_ne rfl rfl (gs_ne rfl rfl (gs_ne rfl rfl g0))) (gs_ne rfl rfl (gs_ne rfl rfl (gs_ne rfl rfl g1))) gs_eq hv1 e123 I116 (okL_set (i := 2) (v := .inl x121) rfl L117) (i0) (by omega) (⟨m9 + 1, by show LYv (F63 7403) 65 (F63 6505) (F63 6507) (A64 66) (A64 75) (ssl (A64 77) (3 * gl (Av 79) (v2)) _) (A64 79) _; rw [gg3, a75, a77, a79]; exact j1.bk ww1, bk_s (by omega) (by omega) j2 (by rw [if_pos ⟨by omega, by omega⟩])⟩) (⟨i3.1.tr (fun n hn => ww2 n (Or.inl (by omega))), i3.2.tr (fun k hk => (upl_ne (by omega)).trans ((lk_65 (by omega)).trans (ww3 k (by omega) (by omega))))⟩)
theorem n_X0_bracketEnds_65 {h0 : am_h} {F0 : rf_f} {A0 : xl_A} {w1 : Int32} {n1 : Int} (hn1 : w1.toInt = n1)  (S : lST) (hS : LYv (F0 7403) 65 (F0 6505) (F0 6507) (A0 66) (A0 75) (A0 77) (A0 79) (S)) (hW : WF0 S.2.1 S.2.2.1) (hB : S.2.1.length ≤ 120 ∧ S.2.2.1.length ≤ 120) (hR : xR h0 F0 A0) : am_Mt 3 6 [.inr (.inr (some 74)), .inl w1] h0 (xV h0 (fun F' A' => LYv (F' 7403) 65 (F' 6505) (F' 6507) (A' 66) (A' 75) (A' 77) (A' 79) (S.1, S.2.1, S.2.2.1, S.2.2.2 + bkn S.2.1 n1 S.2.2.1) ∧ fL9 F0 F' ∧ aL9 A0 A')) := by
  refine am_Mt.of (D := 2) ?_
  have hI : xI h0 (ob_P h0) h0 0 0 F0 A0 := xI.start hR
  have hL : am_okL h0.length (am_args 0 [.inr (.inr (some 74)), .inl w1]) = true := (okA_r hI.T oc74 (okA_i okA_n))
  refine k_push 1 rfl rfl ?_
  have hc124 : (0 : Int32).toInt = 0 := by decide
  refine k_istore 2 rfl rfl ?_
  exact yl_X0_bracketEnds_65_2 hn1  S hS hW hB _  (Fv := F0) (Av := A0) (v1 := n1) (v2 := 0) rfl (gs_ne rfl rfl rfl) (gs_ne rfl rfl rfl) gs_eq hn1 hc124 hI (okL_set (i := 2) (v := .inl (0 : Int32)) rfl hL) (rfl) (by omega) (⟨S.2.2.2, hS, rfl⟩) (⟨fun n hn => rfl, fun k hk => rfl⟩)
theorem yl_X0_fanEnds_65_2 {h0 : am_h} {F0 : rf_f} {A0 : xl_A} {w1 : Int32} {n1 : Int} (hn1 : w1.toInt = n1) {w2 : Int32} {n2 : Int} (hn2 : w2.toInt = n2)  (S : lST) (hS : LYv (F0 7403) 65 (F0 6505) (F0 6507) (A0 66) (A0 75) (A0 77) (A0 79) (S)) (hW : WF0 S.2.1 S.2.2.1) (hB : S.2.1.length ≤ 120 ∧ S.2.2.1.length ≤ 120) : ∀ (n : Nat) {lv : am_l} {h : am_h} {c s : Nat} {u1 : Int32} {v1 : Int} {u2 : Int32} {v2 : Int} {u3 : Int32} {v3 : Int} {Fv : rf_f} {Av : xl_A}, ((121 - v3).toNat) = n → am_get lv 0 = some (.inr (.inr (some 74))) → am_get lv 1 = some (.inl u1) → am_get lv 2 = some (.inl u2) → am_get lv 3 = some (.inl u3) → u1.toInt = v1 → u2.toInt = v2 → u3.toInt = v3 → xI h0 (ob_P h0) h c s Fv Av → am_okL h.length lv = true → (v1 = n1 ∧ v2 = n2) → (0 ≤ v3 ∧ v3 ≤ (S.2.2.1.length : Int)) → (∃ m9 : Nat, LYv (Fv 7403) 65 (Fv 6505) (Fv 6507) (Av 66) (Av 75) (Av 77) (Av 79) (S.1, S.2.1, lmx (fnv S.2.1 n1 n2) S.2.2.1 v3, m9) ∧ m9 + fnn S.2.1 n1 n2 (S.2.2.1.drop v3.toNat) = S.2.2.2 + fnn S.2.1 n1 n2 S.2.2.1) → (fL9 F0 Fv ∧ aL9 A0 Av) → am_Ok am_G 2 7 (2, lv, [], h, c, s) (xV h0 (fun F' A' => LYv (F' 7403) 65 (F' 6505) (F' 6507) (A' 66) (A' 75) (A' 77) (A' 79) (S.1, S.2.1, S.2.2.1.map (fnv S.2.1 n1 n2), S.2.2.2 + fnn S.2.1 n1 n2 S.2.2.1) ∧ fL9 F0 F' ∧ aL9 A0 A')) := by
  intro n
  induction n using Nat.strongRecOn with
  | ind n ih =>
    intro lv h c s u1 v1 u2 v2 u3 v3  Fv Av hm g0 g1 g2 g3 hv1 hv2 hv3 hI hL i0 i1 i2 i3
    obtain ⟨m9, j1, j2⟩ := i2
    have f3 : Fv 7403 = 65 := j1.1
    have ee79 : Av 79 = lmx (fnv S.2.1 n1 n2) S.2.2.1 v3 := j1.2.2.2.2
    have ll79 : (Av 79).length = S.2.2.1.length := by rw [ee79]; exact lmx_l
    have ll77 : ENM (Av 77) S.2.1 := j1.2.2.2.1
    refine k_iload 3 rfl g3 rfl ?_
    refine k_aload 4 rfl g0 rfl ?_
    refine x_gF 79 hI 7 rfl rfl (by decide) rfl ?_
    refine k_xq hI rfl (xv_size hI.1 or79) rfl rfl rfl (ty_H.rc3 hI.T or79) hL (so_i so_n) ?_
    rintro x1 h2 c3 s4 F5 A6 I7 L8 ⟨e9, k10, k11⟩
    replace k10 := k10.symm
    subst k10
    replace k11 := k11.symm
    subst k11
    show am_Ok _ _ _ (10, _, [.inl x1, .inl u3], _, c3, s4) _
    by_cases b12 : x1 ≤ u3
    · refine k_c2 180 rfl rfl (if_pos b12) ?_
      have b12 : (((Av 79).length : Nat) : Int) ≤ v3 := by have h9 := iv_le.mp b12; rw [hv3] at h9; rw [e9] at h9; exact h9
      exact k_fin rfl rfl ⟨_, _, _, _, _, rfl, I7, (by show LYv (Fv 7403) 65 (Fv 6505) (Fv 6507) (Av 66) (Av 75) (Av 77) (Av 79) (S.1, S.2.1, S.2.2.1.map (fnv S.2.1 n1 n2), S.2.2.2 + fnn S.2.1 n1 n2 S.2.2.1) ∧ fL9 F0 Fv ∧ aL9 A0 Av; exact ⟨by have h9 := fa_z (by omega) j2; have h8 := lmx_e (f := fnv S.2.1 n1 n2) (l := S.2.2.1) (v := v3) (by omega); rw [← h9, ← h8]; exact j1, i3⟩)⟩
    · refine k_c2 13 rfl rfl (if_neg b12) ?_
      have b12 : ¬ ((((Av 79).length : Nat) : Int) ≤ v3) := by have h9 := mt iv_le.mpr b12; rw [hv3] at h9; rw [e9] at h9; exact h9
      refine k_aload 14 rfl g0 rfl ?_
      refine x_gF 79 I7 17 rfl rfl (by decide) rfl ?_
      refine k_iload 18 rfl g3 rfl ?_
      refine k_xq I7 rfl (y_get hv3 I7.1 or79) rfl rfl rfl (ty_H.rc3 I7.T or79) L8 so_n ?_
      rintro x13 h14 c15 s16 F17 A18 I19 L20 ⟨e21, k22, k23⟩
      replace k22 := k22.symm
      subst k22
      replace k23 := k23.symm
      subst k23
      show am_Ok _ _ _ (21, _, [.inl x13], _, c15, s16) _
      have gx : gl (Av 79) (v3) = gl S.2.2.1 v3 := by rw [ee79]; exact lmx_g (by omega) (by omega)
      have hx9 := hW.1 (gl S.2.2.1 v3) (List.mem_of_getElem? (gl_at (by omega) (by omega)))
      refine k_istore 23 rfl rfl ?_
      refine k_iload 25 rfl gs_eq rfl ?_
      refine k_push 26 rfl rfl ?_
      have hc24 : (-1 : Int32).toInt = -1 := by decide
      by_cases b25 : x13 = (-1 : Int32)
      · refine k_c2 174 rfl rfl (if_pos b25) ?_
        have b25 : gl (Av 79) (v3) = (-1) := by have h9 := iv_eq.mp b25; rw [e21] at h9; rw [hc24] at h9; exact h9
        have hc26 : (1 : Int32).toInt = 1 := by decide
        obtain ⟨x27, q28⟩ : ∃ q : Int32, q = u3 + (1 : Int32) := ⟨_, rfl⟩
        have e29 : x27.toInt = (v3 + 1) := bx_add q28 hv3 hc26 (by omega) (by omega)
        refine k_iinc x27 177 rfl (gs_ne rfl rfl g3) q28.symm rfl ?_
        refine k_goto 2 rfl rfl ?_
        exact ih _ (by omega)  (Fv := Fv) (Av := Av) (v1 := v1) (v2 := v2) (v3 := (v3 + 1)) rfl (gs_ne rfl rfl (gs_ne rfl rfl g0)) (gs_ne rfl rfl (gs_ne rfl rfl g1)) (gs_ne rfl rfl (gs_ne rfl rfl g2)) gs_eq hv1 hv2 e29 I19 (okL_set (i := 3) (v := .inl x27) rfl (okL_set (i := 4) (v := .inl x13) rfl L20)) (i0) (by omega) (⟨m9, by rw [lmx_k (by omega) (by omega) (fn_0 (fun z9 => by have z8 := z9.1; have z7 := z9.2.1; have z6 := z9.2.2.1; have z5 := z9.2.2.2; omega))]; exact j1, fa_s (by omega) (by omega) j2 (by rw [if_neg (fun z9 => by have z8 := z9.1; have z7 := z9.2.1; have z6 := z9.2.2.1; have z5 := z9.2.2.2; omega)]; first | done | exact (Nat.add_zero _).symm)⟩) (i3)
      · refine k_c2 29 rfl rfl (if_neg b25) ?_
        have b25 : ¬ (gl (Av 79) (v3) = (-1)) := by have h9 := mt iv_eq.mpr b25; rw [e21] at h9; rw [hc24] at h9; exact h9
        refine k_aload 30 rfl (gs_ne rfl rfl g0) rfl ?_
        refine x_gF 77 I19 33 rfl rfl (by decide) rfl ?_
        refine k_push 34 rfl rfl ?_
        have hc30 : (3 : Int32).toInt = 3 := by decide
        refine k_iload 36 rfl gs_eq rfl ?_
        obtain ⟨x31, q32⟩ : ∃ q : Int32, q = (3 : Int32) * x13 := ⟨_, rfl⟩
        have e33 : x31.toInt = (3 * gl (Av 79) (v3)) := bx_mul q32 hc30 e21 (by omega) (by omega)
        refine k_bin x31 37 rfl q32.symm rfl ?_
        refine k_push 38 rfl rfl ?_
        have hc34 : (1 : Int32).toInt = 1 := by decide
        obtain ⟨x35, q36⟩ : ∃ q : Int32, q = x31 + (1 : Int32) := ⟨_, rfl⟩
        have e37 : x35.toInt = ((3 * gl (Av 79) (v3)) + 1) := bx_add q36 e33 hc34 (by omega) (by omega)
        refine k_bin x35 39 rfl q36.symm rfl ?_
        refine k_xq I19 rfl (y_get e37 I19.1 or77) rfl rfl rfl (ty_H.rc3 I19.T or77) (okL_set (i := 4) (v := .inl x13) rfl L20) so_n ?_
        rintro x38 h39 c40 s41 F42 A43 I44 L45 ⟨e46, k47, k48⟩
        replace k47 := k47.symm
        subst k47
        replace k48 := k48.symm
        subst k48
        show am_Ok _ _ _ (42, _, [.inl x38], _, c40, s41) _
        have px : gl (Av 77) ((3 * gl (Av 79) (v3)) + 1) = plc S.2.1 (gl S.2.2.1 v3) := by rw [gx]; exact (ll77.2 _ (by omega) (by omega)).1
        refine k_iload 43 rfl (gs_ne rfl rfl g2) rfl ?_
        by_cases b49 : u2 ≤ x38
        · refine k_c2 49 rfl rfl (if_pos b49) ?_
          have b49 : v2 ≤ gl (Av 77) (((3 * gl (Av 79) (v3)) + 1)) := by have h9 := iv_le.mp b49; rw [e46] at h9; rw [hv2] at h9; exact h9
          refine k_aload 50 rfl (gs_ne rfl rfl g0) rfl ?_
          refine x_gF 77 I44 53 rfl rfl (by decide) rfl ?_
          refine k_push 54 rfl rfl ?_
          refine k_iload 56 rfl gs_eq rfl ?_
          obtain ⟨x50, q51⟩ : ∃ q : Int32, q = (3 : Int32) * x13 := ⟨_, rfl⟩
          have e52 : x50.toInt = (3 * gl (Av 79) (v3)) := bx_mul q51 hc30 e21 (by omega) (by omega)
          refine k_bin x50 57 rfl q51.symm rfl ?_
          refine k_push 58 rfl rfl ?_
          have hc53 : (2 : Int32).toInt = 2 := by decide
          obtain ⟨x54, q55⟩ : ∃ q : Int32, q = x50 + (2 : Int32) := ⟨_, rfl⟩
          have e56 : x54.toInt = ((3 * gl (Av 79) (v3)) + 2) := bx_add q55 e52 hc53 (by omega) (by omega)
          refine k_bin x54 59 rfl q55.symm rfl ?_
          refine k_xq I44 rfl (y_get e56 I44.1 or77) rfl rfl rfl (ty_H.rc3 I44.T or77) L45 so_n ?_
          rintro x57 h58 c59 s60 F61 A62 I63 L64 ⟨e65, k66, k67⟩
          replace k66 := k66.symm
          subst k66
          replace k67 := k67.symm
          subst k67
          show am_Ok _ _ _ (62, _, [.inl x57], _, c59, s60) _
          have nx9 : gl (Av 77) ((3 * gl (Av 79) (v3)) + 2) = nxt S.2.1 (gl S.2.2.1 v3) := by rw [gx]; exact (ll77.2 _ (by omega) (by omega)).2
          have hy9 := hW.nx (x := gl S.2.2.1 v3) (by omega) (by omega)
          refine k_istore 64 rfl rfl ?_
          refine k_iload 66 rfl gs_eq rfl ?_
          refine k_push 67 rfl rfl ?_
          by_cases b68 : x57 = (-1 : Int32)
          · refine k_c2 174 rfl rfl (if_pos b68) ?_
            have b68 : gl (Av 77) (((3 * gl (Av 79) (v3)) + 2)) = (-1) := by have h9 := iv_eq.mp b68; rw [e65] at h9; rw [hc24] at h9; exact h9
            obtain ⟨x69, q70⟩ : ∃ q : Int32, q = u3 + (1 : Int32) := ⟨_, rfl⟩
            have e71 : x69.toInt = (v3 + 1) := bx_add q70 hv3 hc34 (by omega) (by omega)
            refine k_iinc x69 177 rfl (gs_ne rfl rfl (gs_ne rfl rfl g3)) q70.symm rfl ?_
            refine k_goto 2 rfl rfl ?_
            exact ih _ (by omega)  (Fv := Fv) (Av := Av) (v1 := v1) (v2 := v2) (v3 := (v3 + 1)) rfl (gs_ne rfl rfl (gs_ne rfl rfl (gs_ne rfl rfl g0))) (gs_ne rfl rfl (gs_ne rfl rfl (gs_ne rfl rfl g1))) (gs_ne rfl rfl (gs_ne rfl rfl (gs_ne rfl rfl g2))) gs_eq hv1 hv2 e71 I63 (okL_set (i := 3) (v := .inl x69) rfl (okL_set (i := 5) (v := .inl x57) rfl L64)) (i0) (by omega) (⟨m9, by rw [lmx_k (by omega) (by omega) (fn_0 (fun z9 => by have z8 := z9.1; have z7 := z9.2.1; have z6 := z9.2.2.1; have z5 := z9.2.2.2; omega))]; exact j1, fa_s (by omega) (by omega) j2 (by rw [if_neg (fun z9 => by have z8 := z9.1; have z7 := z9.2.1; have z6 := z9.2.2.1; have z5 := z9.2.2.2; omega)]; first | done | exact (Nat.add_zero _).symm)⟩) (i3)
          · refine k_c2 70 rfl rfl (if_neg b68) ?_
            have b68 : ¬ (gl (Av 77) (((3 * gl (Av 79) (v3)) + 2)) = (-1)) := by have h9 := mt iv_eq.mpr b68; rw [e65] at h9; rw [hc24] at h9; exact h9
            refine k_aload 71 rfl (gs_ne rfl rfl (gs_ne rfl rfl g0)) rfl ?_
            refine x_gF 77 I63 74 rfl rfl (by decide) rfl ?_
            refine k_push 75 rfl rfl ?_
            refine k_iload 77 rfl gs_eq rfl ?_
            obtain ⟨x72, q73⟩ : ∃ q : Int32, q = (3 : Int32) * x57 := ⟨_, rfl⟩
            have e74 : x72.toInt = (3 * gl (Av 77) (((3 * gl (Av 79) (v3)) + 2))) := bx_mul q73 hc30 e65 (by omega) (by omega)
            refine k_bin x72 78 rfl q73.symm rfl ?_
            refine k_push 79 rfl rfl ?_
            obtain ⟨x75, q76⟩ : ∃ q : Int32, q = x72 + (1 : Int32) := ⟨_, rfl⟩
            have e77 : x75.toInt = ((3 * gl (Av 77) (((3 * gl (Av 79) (v3)) + 2))) + 1) := bx_add q76 e74 hc34 (by omega) (by omega)
            refine k_bin x75 80 rfl q76.symm rfl ?_
            refine k_xq I63 rfl (y_get e77 I63.1 or77) rfl rfl rfl (ty_H.rc3 I63.T or77) (okL_set (i := 5) (v := .inl x57) rfl L64) so_n ?_
            rintro x78 h79 c80 s81 F82 A83 I84 L85 ⟨e86, k87, k88⟩
            replace k87 := k87.symm
            subst k87
            replace k88 := k88.symm
            subst k88
            show am_Ok _ _ _ (83, _, [.inl x78], _, c80, s81) _
            have py : gl (Av 77) ((3 * gl (Av 77) ((3 * gl (Av 79) (v3)) + 2)) + 1) = plc S.2.1 (nxt S.2.1 (gl S.2.2.1 v3)) := by rw [nx9]; exact (ll77.2 _ (by omega) (by omega)).1
            refine k_iload 84 rfl (gs_ne rfl rfl (gs_ne rfl rfl g1)) rfl ?_
            by_cases b89 : x78 ≤ u1
            · refine k_c2 174 rfl rfl (if_pos b89) ?_
              have b89 : gl (Av 77) (((3 * gl (Av 77) (((3 * gl (Av 79) (v3)) + 2))) + 1)) ≤ v1 := by have h9 := iv_le.mp b89; rw [e86] at h9; rw [hv1] at h9; exact h9
              obtain ⟨x90, q91⟩ : ∃ q : Int32, q = u3 + (1 : Int32) := ⟨_, rfl⟩
              have e92 : x90.toInt = (v3 + 1) := bx_add q91 hv3 hc34 (by omega) (by omega)
              refine k_iinc x90 177 rfl (gs_ne rfl rfl (gs_ne rfl rfl g3)) q91.symm rfl ?_
              refine k_goto 2 rfl rfl ?_
              exact ih _ (by omega)  (Fv := Fv) (Av := Av) (v1 := v1) (v2 := v2) (v3 := (v3 + 1)) rfl (gs_ne rfl rfl (gs_ne rfl rfl (gs_ne rfl rfl g0))) (gs_ne rfl rfl (gs_ne rfl rfl (gs_ne rfl rfl g1))) (gs_ne rfl rfl (gs_ne rfl rfl (gs_ne rfl rfl g2))) gs_eq hv1 hv2 e92 I84 (okL_set (i := 3) (v := .inl x90) rfl L85) (i0) (by omega) (⟨m9, by rw [lmx_k (by omega) (by omega) (fn_0 (fun z9 => by have z8 := z9.1; have z7 := z9.2.1; have z6 := z9.2.2.1; have z5 := z9.2.2.2; omega))]; exact j1, fa_s (by omega) (by omega) j2 (by rw [if_neg (fun z9 => by have z8 := z9.1; have z7 := z9.2.1; have z6 := z9.2.2.1; have z5 := z9.2.2.2; omega)]; first | done | exact (Nat.add_zero _).symm)⟩) (i3)
            · refine k_c2 87 rfl rfl (if_neg b89) ?_
              have b89 : ¬ (gl (Av 77) (((3 * gl (Av 77) (((3 * gl (Av 79) (v3)) + 2))) + 1)) ≤ v1) := by have h9 := mt iv_le.mpr b89; rw [e86] at h9; rw [hv1] at h9; exact h9
              refine k_aload 88 rfl (gs_ne rfl rfl (gs_ne rfl rfl g0)) rfl ?_
              refine x_gO (τ := 1) I84 91 rfl oc74 rfl rfl rfl rfl (fun r93 (e94 : (r93 : Int) = Fv 7403) o95 => ?_)
              obtain rfl : r93 = 65 := by omega
              refine k_push 92 rfl rfl ?_
              refine k_aload 93 rfl (gs_ne rfl rfl (gs_ne rfl rfl g0)) rfl ?_
              refine x_gI I84 96 rfl oc74 rfl rfl rfl rfl (fun x96 (e97 : x96.toInt = Fv 7404) => ?_)
              refine k_xq I84 rfl (n_X1_make_65 hc30 e97  (m9) (by exact j1.2.1) I84.1) rfl rfl rfl (I84.T.rc oc65 rfl) L85 so_n ?_
              rintro x98 h99 c100 s101 F102 A103 I104 L105 e106
              obtain ⟨n107, q108⟩ : ∃ n : Int, x98.toInt = n := ⟨_, rfl⟩
              try rw [q108] at e106
              show am_Ok _ _ _ (99, _, [.inl x98], _, c100, s101) _
              obtain ⟨ww1, ww2, ww3⟩ := e106
              have gg3 := ww2 7403 (Or.inr (by omega))
              have a75 : A103 75 = Av 75 := ww3 75 (by decide) (by decide)
              have a77 : A103 77 = Av 77 := ww3 77 (by decide) (by decide)
              have a79 : A103 79 = Av 79 := ww3 79 (by decide) (by decide)
              refine k_istore 101 rfl rfl ?_
              refine k_aload 102 rfl (gs_ne rfl rfl (gs_ne rfl rfl (gs_ne rfl rfl g0))) rfl ?_
              refine x_gO (τ := 1) I104 105 rfl oc74 rfl rfl rfl rfl (fun r109 (e110 : (r109 : Int) = F102 7403) o111 => ?_)
              obtain rfl : r109 = 65 := by omega
              refine k_push 106 rfl rfl ?_
              have hc112 : (4 : Int32).toInt = 4 := by decide
              refine k_iload 108 rfl gs_eq rfl ?_
              obtain ⟨x113, q114⟩ : ∃ q : Int32, q = (4 : Int32) * x98 := ⟨_, rfl⟩
              have e115 : x113.toInt = bm (4 * n107) := bm_mul q114 hc112 q108
              refine k_bin x113 109 rfl q114.symm rfl ?_
              refine k_push 110 rfl rfl ?_
              obtain ⟨x116, q117⟩ : ∃ q : Int32, q = x113 + (1 : Int32) := ⟨_, rfl⟩
              have e118 : x116.toInt = bm (bm (4 * n107) + 1) := bm_add q117 e115 hc34
              refine k_bin x116 111 rfl q117.symm rfl ?_
              refine k_aload 112 rfl (gs_ne rfl rfl (gs_ne rfl rfl (gs_ne rfl rfl g0))) rfl ?_
              refine x_gF 77 I104 115 rfl rfl (by decide) rfl ?_
              refine k_push 116 rfl rfl ?_
              refine k_iload 118 rfl (gs_ne rfl rfl gs_eq) rfl ?_
              obtain ⟨x119, q120⟩ : ∃ q : Int32, q = (3 : Int32) * x57 := ⟨_, rfl⟩
              have e121 : x119.toInt = (3 * gl (Av 77) (((3 * gl (Av 79) (v3)) + 2))) := bx_mul q120 hc30 e65 (by omega) (by omega)
              refine k_bin x119 119 rfl q120.symm rfl ?_
              refine k_xq I104 rfl (y_get e121 I104.1 or77) rfl rfl rfl (ty_H.rc3 I104.T or77) (okL_set (i := 6) (v := .inl x98) rfl L105) (so_i (xo_r I104 oc65 so_n)) ?_
              rintro x122 h123 c124 s125 F126 A127 I128 L129 ⟨e130, k131, k132⟩
              replace k131 := k131.symm
              subst k131
              replace k132 := k132.symm
              subst k132
              show am_Ok _ _ _ (122, _, [.inl x122, .inl x116, .inr (.inr (some 65))], _, c124, s125) _
              refine k_xv I128 rfl (n_X1_link_65 e118 e130   I128.1) rfl rfl rfl (I128.T.rc oc65 rfl) L129 so_n ?_
              rintro h134 c135 s136 F137 A138 I139 L140 ⟨k142, k143⟩
              replace k142 : F137 = F102 := k142
              replace k142 := k142.symm
              subst k142
              replace k143 := k143.symm
              subst k143
              show am_Ok _ _ _ (125, _, [], _, c135, s136) _
              refine k_aload 126 rfl (gs_ne rfl rfl (gs_ne rfl rfl (gs_ne rfl rfl g0))) rfl ?_
              refine x_gO (τ := 1) I139 129 rfl oc74 rfl rfl rfl rfl (fun r144 (e145 : (r144 : Int) = F102 7403) o146 => ?_)
              obtain rfl : r144 = 65 := by omega
              refine k_push 130 rfl rfl ?_
              refine k_iload 132 rfl gs_eq rfl ?_
              obtain ⟨x147, q148⟩ : ∃ q : Int32, q = (4 : Int32) * x98 := ⟨_, rfl⟩
              have e149 : x147.toInt = bm (4 * n107) := bm_mul q148 hc112 q108
              refine k_bin x147 133 rfl q148.symm rfl ?_
              refine k_push 134 rfl rfl ?_
              obtain ⟨x150, q151⟩ : ∃ q : Int32, q = x147 + (2 : Int32) := ⟨_, rfl⟩
              have e152 : x150.toInt = bm (bm (4 * n107) + 2) := bm_add q151 e149 hc53
              refine k_bin x150 135 rfl q151.symm rfl ?_
              refine k_aload 136 rfl (gs_ne rfl rfl (gs_ne rfl rfl (gs_ne rfl rfl g0))) rfl ?_
              refine x_gF 77 I139 139 rfl rfl (by decide) rfl ?_
              refine k_push 140 rfl rfl ?_
              refine k_iload 142 rfl (gs_ne rfl rfl (gs_ne rfl rfl gs_eq)) rfl ?_
              obtain ⟨x153, q154⟩ : ∃ q : Int32, q = (3 : Int32) * x13 := ⟨_, rfl⟩
              have e155 : x153.toInt = (3 * gl (Av 79) (v3)) := bx_mul q154 hc30 e21 (by omega) (by omega)
              refine k_bin x153 143 rfl q154.symm rfl ?_
              refine k_xq I139 rfl (y_get e155 I139.1 or77) rfl rfl rfl (ty_H.rc3 I139.T or77) L140 (so_i (xo_r I139 oc65 so_n)) ?_
              rintro x156 h157 c158 s159 F160 A161 I162 L163 ⟨e164, k165, k166⟩
              replace k165 := k165.symm
              subst k165
              replace k166 := k166.symm
              subst k166
              show am_Ok _ _ _ (146, _, [.inl x156, .inl x150, .inr (.inr (some 65))], _, c158, s159) _
              refine k_xv I162 rfl (n_X1_link_65 e152 e164   I162.1) rfl rfl rfl (I162.T.rc oc65 rfl) L163 so_n ?_
              rintro h168 c169 s170 F171 A172 I173 L174 ⟨k176, k177⟩
              replace k176 : F171 = F102 := k176
              replace k176 := k176.symm
              subst k176
              replace k177 := k177.symm
              subst k177
              show am_Ok _ _ _ (149, _, [], _, c169, s170) _
              refine k_aload 150 rfl (gs_ne rfl rfl (gs_ne rfl rfl (gs_ne rfl rfl g0))) rfl ?_
              refine x_gF 77 I173 153 rfl rfl (by decide) rfl ?_
              refine k_push 154 rfl rfl ?_
              refine k_iload 156 rfl (gs_ne rfl rfl gs_eq) rfl ?_
              obtain ⟨x178, q179⟩ : ∃ q : Int32, q = (3 : Int32) * x57 := ⟨_, rfl⟩
              have e180 : x178.toInt = (3 * gl (Av 77) (((3 * gl (Av 79) (v3)) + 2))) := bx_mul q179 hc30 e65 (by omega) (by omega)
              refine k_bin x178 157 rfl q179.symm rfl ?_
              refine k_push 158 rfl rfl ?_
              refine k_iload 160 rfl gs_eq rfl ?_
              obtain ⟨x181, q182⟩ : ∃ q : Int32, q = (4 : Int32) * x98 := ⟨_, rfl⟩
              have e183 : x181.toInt = bm (4 * n107) := bm_mul q182 hc112 q108
              refine k_bin x181 161 rfl q182.symm rfl ?_
              refine k_xv I173 rfl (y_set e180 e183 I173.1 or77) rfl rfl rfl (ty_H.rc3 I173.T or77) L174 so_n ?_
              rintro h185 c186 s187 F188 A189 I190 L191 ⟨k193, k194⟩
              replace k193 := k193.symm
              subst k193
              replace k194 := k194.symm
              subst k194
              show am_Ok _ _ _ (164, _, [], _, c186, s187) _
              refine k_aload 165 rfl (gs_ne rfl rfl (gs_ne rfl rfl (gs_ne rfl rfl g0))) rfl ?_
              refine x_gF 79 I190 168 rfl rfl (by decide) rfl ?_
              refine k_iload 169 rfl (gs_ne rfl rfl (gs_ne rfl rfl (gs_ne rfl rfl g3))) rfl ?_
              refine k_iload 171 rfl (gs_ne rfl rfl gs_eq) rfl ?_
              refine k_xv I190 rfl (y_set hv3 e65 I190.1 or79) rfl rfl rfl (ty_H.rc3 I190.T or79) L191 so_n ?_
              rintro h196 c197 s198 F199 A200 I201 L202 ⟨k204, k205⟩
              replace k204 := k204.symm
              subst k204
              replace k205 := k205.symm
              subst k205
              show am_Ok _ _ _ (174, _, [], _, c197, s198) _
              obtain ⟨x206, q207⟩ : ∃ q : Int32, q = u3 + (1 : Int32) := ⟨_, rfl⟩
              have e208 : x206.toInt = (v3 + 1) := bx_add q207 hv3 hc34 (by omega) (by omega)
              refine k_iinc x206 177 rfl (gs_ne rfl rfl (gs_ne rfl rfl (gs_ne rfl rfl g3))) q207.symm rfl ?_
              refine k_goto 2 rfl rfl ?_
              exact ih _ (by omega)  (Fv := F102) (Av := (upl ((upl ((p_X1_link_65 (bm (bm (4 * n107) + 2)) (gl ((p_X1_link_65 (bm (bm (4 * n107) + 1)) (gl (A103 77) ((3 * gl (Av 77) (((3 * gl (Av 79) (v3)) + 2))))) F102 A103).2.2 77) ((3 * gl (Av 79) (v3)))) F102 ((p_X1_link_65 (bm (bm (4 * n107) + 1)) (gl (A103 77) ((3 * gl (Av 77) (((3 * gl (Av 79) (v3)) + 2))))) F102 A103).2.2)).2.2) 77 (ssl ((p_X1_link_65 (bm (bm (4 * n107) + 2)) (gl ((p_X1_link_65 (bm (bm (4 * n107) + 1)) (gl (A103 77) ((3 * gl (Av 77) (((3 * gl (Av 79) (v3)) + 2))))) F102 A103).2.2 77) ((3 * gl (Av 79) (v3)))) F102 ((p_X1_link_65 (bm (bm (4 * n107) + 1)) (gl (A103 77) ((3 * gl (Av 77) (((3 * gl (Av 79) (v3)) + 2))))) F102 A103).2.2)).2.2 77) ((3 * gl (Av 77) (((3 * gl (Av 79) (v3)) + 2)))) (bm (4 * n107))))) 79 (ssl ((p_X1_link_65 (bm (bm (4 * n107) + 2)) (gl ((p_X1_link_65 (bm (bm (4 * n107) + 1)) (gl (A103 77) ((3 * gl (Av 77) (((3 * gl (Av 79) (v3)) + 2))))) F102 A103).2.2 77) ((3 * gl (Av 79) (v3)))) F102 ((p_X1_link_65 (bm (bm (4 * n107) + 1)) (gl (A103 77) ((3 * gl (Av 77) (((3 * gl (Av 79) (v3)) + 2))))) F102 A103).2.2)).2.2 79) (v3) (gl (Av 77) (((3 * gl (Av 79) (v3)) + 2)))))) (v1 := v1) (v2 := v2) (v3 := (v3 + 1)) rfl (gs_ne rfl rfl (gs_ne rfl rfl (gs_ne rfl rfl (gs_ne rfl rfl g0)))) (gs_ne rfl rfl (gs_ne rfl rfl (gs_ne rfl rfl (gs_ne rfl rfl g1)))) (gs_ne rfl rfl (gs_ne rfl rfl (gs_ne rfl rfl (gs_ne rfl rfl g2)))) gs_eq hv1 hv2 e208 I201 (okL_set (i := 3) (v := .inl x206) rfl L202) (i0) (by omega) (⟨m9 + 1, by show LYv (F102 7403) 65 (F102 6505) (F102 6507) (A103 66) (A103 75) (ssl (A103 77) (3 * gl (Av 77) ((3 * gl (Av 79) (v3)) + 2)) _) (ssl (A103 79) (v3) (gl (Av 77) ((3 * gl (Av 79) (v3)) + 2))) _; rw [gg3, a75, a77, a79]; exact j1.fa ww1 (lmx_s (by omega) (by omega) (by rw [fn_1 ⟨by omega, by omega, by omega, by omega⟩]; omega)).symm, fa_s (by omega) (by omega) j2 (by rw [if_pos ⟨by omega, by omega, by omega, by omega⟩])⟩) (⟨i3.1.tr (fun n hn => ww2 n (Or.inl (by omega))), i3.2.tr (fun k hk => (upl_ne (by omega)).trans ((upl_ne (by omega)).trans ((lk_65 (by omega)).trans ((lk_65 (by omega)).trans (ww3 k (by omega) (by omega))))))⟩)
        · refine k_c2 46 rfl rfl (if_neg b49) ?_
          have b49 : ¬ (v2 ≤ gl (Av 77) (((3 * gl (Av 79) (v3)) + 1))) := by have h9 := mt iv_le.mpr b49; rw [e46] at h9; rw [hv2] at h9; exact h9
          refine k_goto 174 rfl rfl ?_
          obtain ⟨x209, q210⟩ : ∃ q : Int32, q = u3 + (1 : Int32) := ⟨_, rfl⟩
          have e211 : x209.toInt = (v3 + 1) := bx_add q210 hv3 hc34 (by omega) (by omega)
          refine k_iinc x209 177 rfl (gs_ne rfl rfl g3) q210.symm rfl ?_
          refine k_goto 2 rfl rfl ?_
          exact ih _ (by omega)  (Fv := Fv) (Av := Av) (v1 := v1) (v2 := v2) (v3 := (v3 + 1)) rfl (gs_ne rfl rfl (gs_ne rfl rfl g0)) (gs_ne rfl rfl (gs_ne rfl rfl g1)) (gs_ne rfl rfl (gs_ne rfl rfl g2)) gs_eq hv1 hv2 e211 I44 (okL_set (i := 3) (v := .inl x209) rfl L45) (i0) (by omega) (⟨m9, by rw [lmx_k (by omega) (by omega) (fn_0 (fun z9 => by have z8 := z9.1; have z7 := z9.2.1; have z6 := z9.2.2.1; have z5 := z9.2.2.2; omega))]; exact j1, fa_s (by omega) (by omega) j2 (by rw [if_neg (fun z9 => by have z8 := z9.1; have z7 := z9.2.1; have z6 := z9.2.2.1; have z5 := z9.2.2.2; omega)]; first | done | exact (Nat.add_zero _).symm)⟩) (i3)
theorem n_X0_fanEnds_65 {h0 : am_h} {F0 : rf_f} {A0 : xl_A} {w1 : Int32} {n1 : Int} (hn1 : w1.toInt = n1) {w2 : Int32} {n2 : Int} (hn2 : w2.toInt = n2)  (S : lST) (hS : LYv (F0 7403) 65 (F0 6505) (F0 6507) (A0 66) (A0 75) (A0 77) (A0 79) (S)) (hW : WF0 S.2.1 S.2.2.1) (hB : S.2.1.length ≤ 120 ∧ S.2.2.1.length ≤ 120) (hR : xR h0 F0 A0) : am_Mt 3 7 [.inr (.inr (some 74)), .inl w1, .inl w2] h0 (xV h0 (fun F' A' => LYv (F' 7403) 65 (F' 6505) (F' 6507) (A' 66) (A' 75) (A' 77) (A' 79) (S.1, S.2.1, S.2.2.1.map (fnv S.2.1 n1 n2), S.2.2.2 + fnn S.2.1 n1 n2 S.2.2.1) ∧ fL9 F0 F' ∧ aL9 A0 A')) := by
  refine am_Mt.of (D := 2) ?_
  have hI : xI h0 (ob_P h0) h0 0 0 F0 A0 := xI.start hR
  have hL : am_okL h0.length (am_args 0 [.inr (.inr (some 74)), .inl w1, .inl w2]) = true := (okA_r hI.T oc74 (okA_i (okA_i okA_n)))
  refine k_push 1 rfl rfl ?_
  have hc212 : (0 : Int32).toInt = 0 := by decide
  refine k_istore 2 rfl rfl ?_
  exact yl_X0_fanEnds_65_2 hn1 hn2  S hS hW hB _  (Fv := F0) (Av := A0) (v1 := n1) (v2 := n2) (v3 := 0) rfl (gs_ne rfl rfl rfl) (gs_ne rfl rfl rfl) (gs_ne rfl rfl rfl) gs_eq hn1 hn2 hc212 hI (okL_set (i := 3) (v := .inl (0 : Int32)) rfl hL) (⟨rfl, rfl⟩) (by omega) (⟨S.2.2.2, by rw [lmx_0]; exact hS, rfl⟩) (⟨fun n hn => rfl, fun k hk => rfl⟩)
end
