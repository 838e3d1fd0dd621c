section
theorem yl_X2_workOff_37_18 {h0 : am_h} {F0 : rf_f} {A0 : xl_A} {w2 : Int32} {n2 : Int} (hn2 : w2.toInt = n2)  (hn : F0 3202 = 37) (hs : F0 3203 = 39) (pL : (A0 46).length ≤ 120) (pw : wL (A0 46)) (pc9 : ∀ x, x ∈ A0 46 → 0 ≤ x ∧ x ≤ 200) (pm : 0 ≤ n2 ∧ n2 ≤ 200) : ∀ (n : Nat) {lv : am_l} {h : am_h} {c s : Nat} {u2 : Int32} {v2 : Int} {Fv : rf_f} {Av : xl_A}, ((201 - Fv 3204).toNat) = n → am_get lv 0 = some (.inr (.inr (some 32))) → am_get lv 1 = some (.inr (.inr (some 46))) → am_get lv 2 = some (.inl u2) → u2.toInt = v2 → xI h0 (ob_P h0) h c s Fv Av → am_okL h.length lv = true → (v2 = n2 ∧ 0 ≤ Fv 3204 ∧ Fv 3204 ≤ n2) → (Av 2 = A0 2 ∧ Av 46 = A0 46) → (WQ (A0 46) n2 Fv Av) → am_Ok am_G 5 41 (18, lv, [], h, c, s) (xV h0 (fun F' A' => WOQ (A0 46) n2 F' A' ∧ A' 2 = A0 2 ∧ A' 46 = A0 46)) := by
  intro n
  induction n using Nat.strongRecOn with
  | ind n ih =>
    intro lv h c s u2 v2  Fv Av hm g0 g1 g2 hv2 hI hL i1 i2 iq
    rcases iq with ⟨f32, f33, hw9⟩ | ⟨f32, f33, hw9⟩
    · refine k_aload 19 rfl g0 rfl ?_
      refine x_gI hI 22 rfl oc32 rfl rfl rfl rfl (fun x1 (e2 : x1.toInt = Fv 3204) => ?_)
      refine k_iload 23 rfl g2 rfl ?_
      by_cases b3 : u2 ≤ x1
      · refine k_c2 150 rfl rfl (if_pos b3) ?_
        have b3 : v2 ≤ Fv 3204 := by have h9 := iv_le.mp b3; rw [e2] at h9; rw [hv2] at h9; exact h9
        exact k_fin rfl rfl ⟨_, _, _, _, _, rfl, hI, (by show WOQ (A0 46) n2 Fv Av ∧ Av 2 = A0 2 ∧ Av 46 = A0 46; exact ⟨Or.inl ⟨f32, f33, hw9.end1 (by omega)⟩, i2.1, i2.2⟩)⟩
      · refine k_c2 26 rfl rfl (if_neg b3) ?_
        have b3 : ¬ (v2 ≤ Fv 3204) := by have h9 := mt iv_le.mpr b3; rw [e2] at h9; rw [hv2] at h9; exact h9
        refine k_aload 27 rfl g0 rfl ?_
        refine x_gZ hI 30 rfl oc32 rfl rfl rfl rfl (fun x4 (e5 : x4.toInt = Fv 3205) z6 => ?_)
        by_cases b7 : x4 = 0
        · refine k_c1 33 rfl rfl (if_pos b7) ?_
          have b7 : Fv 3205 = 0 := by have h9 := iv_eq0.mp b7; rw [e5] at h9; exact h9
          obtain ⟨c1, c2, c3, c4⟩ := hw9.get b7
          refine k_aload 34 rfl g0 rfl ?_
          refine k_xq hI rfl (n_X2_firstRedex_37   (by exact f32) hI.1) rfl rfl rfl (hI.T.rc oc32 rfl) hL so_n ?_
          rintro x8 h9 c10 s11 F12 A13 I14 L15 ⟨e16, k17, k18⟩
          replace k17 : F12 = Fv := k17
          replace k18 : A13 = Av := k18
          replace e16 : x8.toInt = frd (Av 37) := e16
          replace k17 := k17.symm
          subst k17
          replace k18 := k18.symm
          subst k18
          show am_Ok _ _ _ (37, _, [.inl x8], _, c10, s11) _
          refine k_istore 38 rfl rfl ?_
          refine k_iload 39 rfl gs_eq rfl ?_
          refine k_push 40 rfl rfl ?_
          have hc19 : (-1 : Int32).toInt = -1 := by decide
          by_cases b20 : x8 = (-1 : Int32)
          · refine k_c2 43 rfl rfl (if_pos b20) ?_
            have b20 : frd (Av 37) = (-1) := by have h9 := iv_eq.mp b20; rw [e16] at h9; rw [hc19] at h9; exact h9
            exact k_fin rfl rfl ⟨_, _, _, _, _, rfl, I14, (by show WOQ (A0 46) n2 Fv Av ∧ Av 2 = A0 2 ∧ Av 46 = A0 46; exact ⟨Or.inl ⟨f32, f33, Or.inl ⟨b7, c1.stop (by omega) (by omega)⟩⟩, i2.1, i2.2⟩)⟩
          · refine k_c2 44 rfl rfl (if_neg b20) ?_
            have b20 : ¬ (frd (Av 37) = (-1)) := by have h9 := mt iv_eq.mpr b20; rw [e16] at h9; rw [hc19] at h9; exact h9
            obtain ⟨gq9, hz1, hz2, hz3⟩ := frd_y (l := Av 37) (by have h9 := frd_ge (l := Av 37); omega)
            obtain ⟨gp9, gb9, ga9, gz9, hz4, hz5, hz6, hz7, hz8⟩ := RD.ex c2 (fun z9 h9 => (c3 z9 h9).1) hz2 hz3
            have hlR : (Av 37).length = gp9.length + gb9.length + ga9.length + gz9.length + 2 := by rw [hz4]; exact wo_len
            have hC9 : ∀ q : Int, 0 ≤ gl (Av 37) q ∧ gl (Av 37) q ≤ 1000000 := fun q => by have h9 := gl_bd c3 (by omega) q; omega
            refine k_aload 45 rfl (gs_ne rfl rfl g0) rfl ?_
            refine k_iload 46 rfl gs_eq rfl ?_
            refine k_push 47 rfl rfl ?_
            have hc21 : (2 : Int32).toInt = 2 := by decide
            obtain ⟨x22, q23⟩ : ∃ q : Int32, q = x8 + (2 : Int32) := ⟨_, rfl⟩
            have e24 : x22.toInt = (frd (Av 37) + 2) := bx_add q23 e16 hc21 (by omega) (by omega)
            refine k_bin x22 48 rfl q23.symm rfl ?_
            refine k_xq I14 rfl (n_X2_behindTerm_37 e24  (by exact f32) (by omega) I14.1) rfl rfl rfl (I14.T.rc oc32 rfl) (okL_set (i := 3) (v := .inl x8) rfl L15) so_n ?_
            rintro x25 h26 c27 s28 F29 A30 I31 L32 ⟨e33, k34, k35⟩
            replace k34 : F29 = Fv := k34
            replace k35 : A30 = Av := k35
            replace e33 : x25.toInt = ((frd (Av 37) + 2) + ((btl ((Av 37).drop ((frd (Av 37) + 2) : Int).toNat) 1 : Nat) : Int)) := e33
            replace k34 := k34.symm
            subst k34
            replace k35 := k35.symm
            subst k35
            show am_Ok _ _ _ (51, _, [.inl x25], _, c27, s28) _
            have hb1 : ((frd (Av 37) + 2) + ((btl ((Av 37).drop ((frd (Av 37) + 2) : Int).toNat) 1 : Nat) : Int)) = (gp9.length : Int) + 2 + (gb9.length : Int) := wo_b1 hz4 hz6 (by omega)
            refine k_istore 53 rfl rfl ?_
            refine k_aload 54 rfl (gs_ne rfl rfl (gs_ne rfl rfl g0)) rfl ?_
            refine k_iload 56 rfl gs_eq rfl ?_
            refine k_xq I31 rfl (n_X2_behindTerm_37 e33  (by exact f32) (by omega) I31.1) rfl rfl rfl (I31.T.rc oc32 rfl) (okL_set (i := 4) (v := .inl x25) rfl L32) so_n ?_
            rintro x36 h37 c38 s39 F40 A41 I42 L43 ⟨e44, k45, k46⟩
            replace k45 : F40 = Fv := k45
            replace k46 : A41 = Av := k46
            replace e44 : x36.toInt = (((frd (Av 37) + 2) + ((btl ((Av 37).drop ((frd (Av 37) + 2) : Int).toNat) 1 : Nat) : Int)) + ((btl ((Av 37).drop (((frd (Av 37) + 2) + ((btl ((Av 37).drop ((frd (Av 37) + 2) : Int).toNat) 1 : Nat) : Int)) : Int).toNat) 1 : Nat) : Int)) := e44
            replace k45 := k45.symm
            subst k45
            replace k46 := k46.symm
            subst k46
            show am_Ok _ _ _ (59, _, [.inl x36], _, c38, s39) _
            have hb2 : (((frd (Av 37) + 2) + ((btl ((Av 37).drop ((frd (Av 37) + 2) : Int).toNat) 1 : Nat) : Int)) + ((btl ((Av 37).drop (((frd (Av 37) + 2) + ((btl ((Av 37).drop ((frd (Av 37) + 2) : Int).toNat) 1 : Nat) : Int)) : Int).toNat) 1 : Nat) : Int)) = (gp9.length : Int) + 2 + (gb9.length : Int) + (ga9.length : Int) := wo_b2 hz4 hz7 hb1
            refine k_istore 61 rfl rfl ?_
            refine k_aload 62 rfl (gs_ne rfl rfl (gs_ne rfl rfl (gs_ne rfl rfl g0))) rfl ?_
            refine x_gO (τ := 3) I42 65 rfl oc32 rfl rfl rfl rfl (fun r47 (e48 : (r47 : Int) = Fv 3203) o49 => ?_)
            obtain rfl : r47 = 39 := by omega
            refine k_push 66 rfl rfl ?_
            have hc50 : (0 : Int32).toInt = 0 := by decide
            refine k_xv I42 rfl (y_cut hc50 I42.1 or39) rfl rfl rfl (ty_H.rc3 I42.T or39) (okL_set (i := 5) (v := .inl x36) rfl L43) so_n ?_
            rintro h52 c53 s54 F55 A56 I57 L58 ⟨k60, k61⟩
            replace k60 := k60.symm
            subst k60
            replace k61 := k61.symm
            subst k61
            show am_Ok _ _ _ (69, _, [], _, c53, s54) _
            refine k_aload 70 rfl (gs_ne rfl rfl (gs_ne rfl rfl (gs_ne rfl rfl g0))) rfl ?_
            refine k_aload 71 rfl (gs_ne rfl rfl (gs_ne rfl rfl (gs_ne rfl rfl g0))) rfl ?_
            refine k_push 72 rfl rfl ?_
            refine k_iload 73 rfl (gs_ne rfl rfl (gs_ne rfl rfl gs_eq)) rfl ?_
            refine k_xq I57 rfl (n_X2_keep_37 hc50 e16  (by exact f32) (by exact f33) (by rw [upl_ne (by decide)]; omega) I57.1) rfl rfl rfl (I57.T.rc oc32 rfl) L58 (xo_r I57 oc32 so_n) ?_
            rintro x62 h63 c64 s65 F66 A67 I68 L69 e70
            have z73 := iv_01 (x := x62) (e70.1)
            obtain ⟨n71, q72⟩ : ∃ n : Int, x62.toInt = n := ⟨_, rfl⟩
            try rw [q72] at e70
            show am_Ok _ _ _ (76, _, [.inl x62, .inr (.inr (some 32))], _, c64, s65) _
            obtain ⟨kz, ka, kf, kr⟩ := e70
            rw [upl_eq, cutl_0, upl_ne (by decide), wo_s0 hz4 (by omega)] at ka
            have ak1 : A67 37 = Av 37 := (kr 37 (by decide)).trans (upl_ne (by decide))
            have al1 : (A67 37).length = (Av 37).length := by rw [ak1]
            have f32a : F66 3202 = 37 := by rw [kf]; exact f32
            have f33a : F66 3203 = 39 := by rw [kf]; exact f33
            by_cases b74 : x62 = 0
            · refine k_c1 109 rfl rfl (if_pos b74) ?_
              have b74 : n71 = 0 := by have h9 := iv_eq0.mp b74; rw [q72] at h9; exact h9
              have hx1 : 1000 < (gp9.length : Int) := by have h9 := ka.zz b74; rw [List.length_nil] at h9; omega
              refine k_push 110 rfl rfl ?_
              have hc75 : (1 : Int32).toInt = 1 := by decide
              refine k_goto 114 rfl rfl ?_
              have hx4 : (F66) 3204 = Fv 3204 := congrFun kf 3204
              refine x_pZ (fx_ok := fx_no rfl) I68 117 rfl oc32 rfl rfl rfl (Or.inr rfl) rfl (fun h76 I77 l78 => ?_)
              have L79 := okL_eq l78 L69
              have I80 : xI h0 (ob_P h0) h76 c64 s65 (up1 F66 3205 (1)) A67 := by have h9 := I77; rw [hc75] at h9; exact h9
              refine k_aload 118 rfl (gs_ne rfl rfl (gs_ne rfl rfl (gs_ne rfl rfl g0))) rfl ?_
              refine x_gO (τ := 3) I80 121 rfl oc32 rfl rfl rfl rfl (fun r81 (e82 : (r81 : Int) = F66 3202) o83 => ?_)
              obtain rfl : r81 = 37 := by omega
              refine k_astore 123 rfl rfl ?_
              refine k_aload 124 rfl (gs_ne rfl rfl (gs_ne rfl rfl (gs_ne rfl rfl (gs_ne rfl rfl g0)))) rfl ?_
              refine k_aload 125 rfl (gs_ne rfl rfl (gs_ne rfl rfl (gs_ne rfl rfl (gs_ne rfl rfl g0)))) rfl ?_
              refine x_gO (τ := 3) I80 128 rfl oc32 rfl rfl rfl rfl (fun r84 (e85 : (r84 : Int) = F66 3203) o86 => ?_)
              obtain rfl : r84 = 39 := by omega
              refine x_pO (τ := 3) (fx_ok := fx_no rfl) I80 131 rfl oc32 rfl rfl rfl ol39 rfl (fun h87 I88 l89 => ?_)
              have L90 := okL_eq l89 (okL_set (i := 6) (v := .inr (.inr (some 37))) (xo_v I80 ol37) L79)
              refine k_aload 132 rfl (gs_ne rfl rfl (gs_ne rfl rfl (gs_ne rfl rfl (gs_ne rfl rfl g0)))) rfl ?_
              refine k_aload 134 rfl gs_eq rfl ?_
              refine x_pO (τ := 3) (fx_ok := fx_no rfl) I88 137 rfl oc32 rfl rfl rfl ol37 rfl (fun h91 I92 l93 => ?_)
              have L94 := okL_eq l93 L90
              refine k_aload 138 rfl (gs_ne rfl rfl (gs_ne rfl rfl (gs_ne rfl rfl (gs_ne rfl rfl g0)))) rfl ?_
              refine k_dup 139 rfl rfl rfl ?_
              refine x_gI I92 142 rfl oc32 rfl rfl rfl rfl (fun x95 (e96 : x95.toInt = F66 3204) => ?_)
              refine k_push 143 rfl rfl ?_
              obtain ⟨x97, q98⟩ : ∃ q : Int32, q = x95 + (1 : Int32) := ⟨_, rfl⟩
              have e99 : x97.toInt = (F66 3204 + 1) := bx_add q98 e96 hc75 (by omega) (by omega)
              refine k_bin x97 144 rfl q98.symm rfl ?_
              refine x_pI (fx_ok := fx_no rfl) I92 147 rfl oc32 rfl rfl rfl rfl (fun h100 I101 l102 => ?_)
              have L103 := okL_eq l102 L94
              have I104 : xI h0 (ob_P h0) h100 c64 s65 (up1 ((up1 ((up1 (up1 F66 3205 (1)) 3202 ((39 : Nat) : Int))) 3203 ((37 : Nat) : Int))) 3204 ((F66 3204 + 1))) A67 := by have h9 := I101; rw [e99] at h9; exact h9
              refine k_goto 18 rfl rfl ?_
              exact ih _ (by show (201 - (F66 3204 + 1)).toNat < n; omega)  (Fv := (up1 ((up1 ((up1 (up1 F66 3205 (1)) 3202 ((39 : Nat) : Int))) 3203 ((37 : Nat) : Int))) 3204 ((F66 3204 + 1)))) (Av := A67) (v2 := v2) rfl (gs_ne rfl rfl (gs_ne rfl rfl (gs_ne rfl rfl (gs_ne rfl rfl g0)))) (gs_ne rfl rfl (gs_ne rfl rfl (gs_ne rfl rfl (gs_ne rfl rfl g1)))) (gs_ne rfl rfl (gs_ne rfl rfl (gs_ne rfl rfl (gs_ne rfl rfl g2)))) hv2 I104 L103 ((by show v2 = n2 ∧ 0 ≤ F66 3204 + 1 ∧ F66 3204 + 1 ≤ n2; omega)) (⟨(kr 2 (by decide)).trans ((upl_ne (by decide)).trans i2.1), (kr 46 (by decide)).trans ((upl_ne (by decide)).trans i2.2)⟩) (Or.inr ⟨rfl, rfl, (by show WR (A0 46) n2 1 (F66 3204 + 1) (A67 39); exact WR.no c1 (by omega) hz8 (wo_f1 hx1))⟩)
            · refine k_c1 79 rfl rfl (if_neg b74) ?_
              have b74 : ¬ (n71 = 0) := by have h9 := mt iv_eq0.mpr b74; rw [q72] at h9; exact h9
              have ka1 := (ka.oo b74).1
              rw [List.nil_append] at ka1
              refine k_aload 80 rfl (gs_ne rfl rfl (gs_ne rfl rfl (gs_ne rfl rfl g0))) rfl ?_
              refine k_iload 81 rfl (gs_ne rfl rfl (gs_ne rfl rfl gs_eq)) rfl ?_
              refine k_push 82 rfl rfl ?_
              obtain ⟨x105, q106⟩ : ∃ q : Int32, q = x8 + (2 : Int32) := ⟨_, rfl⟩
              have e107 : x105.toInt = (frd (Av 37) + 2) := bx_add q106 e16 hc21 (by omega) (by omega)
              refine k_bin x105 83 rfl q106.symm rfl ?_
              refine k_iload 85 rfl (gs_ne rfl rfl gs_eq) rfl ?_
              refine k_iload 87 rfl gs_eq rfl ?_
              refine k_xq I68 rfl (n_X2_putIn_37 e107 e33 e44  (by exact f32a) (by exact f33a) (by omega) (fun q => by rw [ak1]; exact hC9 q) I68.1) rfl rfl rfl (I68.T.rc oc32 rfl) L69 (xo_r I68 oc32 so_n) ?_
              rintro x108 h109 c110 s111 F112 A113 I114 L115 e116
              have z119 := iv_01 (x := x108) (e116.1)
              obtain ⟨n117, q118⟩ : ∃ n : Int, x108.toInt = n := ⟨_, rfl⟩
              try rw [q118] at e116
              show am_Ok _ _ _ (90, _, [.inl x108, .inr (.inr (some 32))], _, c110, s111) _
              obtain ⟨pz, pa, pf, pr9⟩ := e116
              rw [ak1, wo_s1 hz4 (by omega) hb1, wo_s2 hz4 hb1 hb2, ka1] at pa
              have ak2 : A113 37 = Av 37 := (pr9 37 (by decide) (by decide) (by decide)).trans ak1
              have al2 : (A113 37).length = (Av 37).length := by rw [ak2]
              have f32b : F112 3202 = 37 := by rw [pf]; exact f32a
              have f33b : F112 3203 = 39 := by rw [pf]; exact f33a
              by_cases b120 : x108 = 0
              · refine k_c1 109 rfl rfl (if_pos b120) ?_
                have b120 : n117 = 0 := by have h9 := iv_eq0.mp b120; rw [q118] at h9; exact h9
                have hx2 := pa.zz b120
                refine k_push 110 rfl rfl ?_
                have hc121 : (1 : Int32).toInt = 1 := by decide
                refine k_goto 114 rfl rfl ?_
                have hx4 : (F112) 3204 = Fv 3204 := (congrFun pf 3204).trans (congrFun kf 3204)
                refine x_pZ (fx_ok := fx_no rfl) I114 117 rfl oc32 rfl rfl rfl (Or.inr rfl) rfl (fun h122 I123 l124 => ?_)
                have L125 := okL_eq l124 L115
                have I126 : xI h0 (ob_P h0) h122 c110 s111 (up1 F112 3205 (1)) A113 := by have h9 := I123; rw [hc121] at h9; exact h9
                refine k_aload 118 rfl (gs_ne rfl rfl (gs_ne rfl rfl (gs_ne rfl rfl g0))) rfl ?_
                refine x_gO (τ := 3) I126 121 rfl oc32 rfl rfl rfl rfl (fun r127 (e128 : (r127 : Int) = F112 3202) o129 => ?_)
                obtain rfl : r127 = 37 := by omega
                refine k_astore 123 rfl rfl ?_
                refine k_aload 124 rfl (gs_ne rfl rfl (gs_ne rfl rfl (gs_ne rfl rfl (gs_ne rfl rfl g0)))) rfl ?_
                refine k_aload 125 rfl (gs_ne rfl rfl (gs_ne rfl rfl (gs_ne rfl rfl (gs_ne rfl rfl g0)))) rfl ?_
                refine x_gO (τ := 3) I126 128 rfl oc32 rfl rfl rfl rfl (fun r130 (e131 : (r130 : Int) = F112 3203) o132 => ?_)
                obtain rfl : r130 = 39 := by omega
                refine x_pO (τ := 3) (fx_ok := fx_no rfl) I126 131 rfl oc32 rfl rfl rfl ol39 rfl (fun h133 I134 l135 => ?_)
                have L136 := okL_eq l135 (okL_set (i := 6) (v := .inr (.inr (some 37))) (xo_v I126 ol37) L125)
                refine k_aload 132 rfl (gs_ne rfl rfl (gs_ne rfl rfl (gs_ne rfl rfl (gs_ne rfl rfl g0)))) rfl ?_
                refine k_aload 134 rfl gs_eq rfl ?_
                refine x_pO (τ := 3) (fx_ok := fx_no rfl) I134 137 rfl oc32 rfl rfl rfl ol37 rfl (fun h137 I138 l139 => ?_)
                have L140 := okL_eq l139 L136
                refine k_aload 138 rfl (gs_ne rfl rfl (gs_ne rfl rfl (gs_ne rfl rfl (gs_ne rfl rfl g0)))) rfl ?_
                refine k_dup 139 rfl rfl rfl ?_
                refine x_gI I138 142 rfl oc32 rfl rfl rfl rfl (fun x141 (e142 : x141.toInt = F112 3204) => ?_)
                refine k_push 143 rfl rfl ?_
                obtain ⟨x143, q144⟩ : ∃ q : Int32, q = x141 + (1 : Int32) := ⟨_, rfl⟩
                have e145 : x143.toInt = (F112 3204 + 1) := bx_add q144 e142 hc121 (by omega) (by omega)
                refine k_bin x143 144 rfl q144.symm rfl ?_
                refine x_pI (fx_ok := fx_no rfl) I138 147 rfl oc32 rfl rfl rfl rfl (fun h146 I147 l148 => ?_)
                have L149 := okL_eq l148 L140
                have I150 : xI h0 (ob_P h0) h146 c110 s111 (up1 ((up1 ((up1 (up1 F112 3205 (1)) 3202 ((39 : Nat) : Int))) 3203 ((37 : Nat) : Int))) 3204 ((F112 3204 + 1))) A113 := by have h9 := I147; rw [e145] at h9; exact h9
                refine k_goto 18 rfl rfl ?_
                exact ih _ (by show (201 - (F112 3204 + 1)).toNat < n; omega)  (Fv := (up1 ((up1 ((up1 (up1 F112 3205 (1)) 3202 ((39 : Nat) : Int))) 3203 ((37 : Nat) : Int))) 3204 ((F112 3204 + 1)))) (Av := A113) (v2 := v2) rfl (gs_ne rfl rfl (gs_ne rfl rfl (gs_ne rfl rfl (gs_ne rfl rfl g0)))) (gs_ne rfl rfl (gs_ne rfl rfl (gs_ne rfl rfl (gs_ne rfl rfl g1)))) (gs_ne rfl rfl (gs_ne rfl rfl (gs_ne rfl rfl (gs_ne rfl rfl g2)))) hv2 I150 L149 ((by show v2 = n2 ∧ 0 ≤ F112 3204 + 1 ∧ F112 3204 + 1 ≤ n2; omega)) (⟨(pr9 2 (by decide) (by decide) (by decide)).trans ((kr 2 (by decide)).trans ((upl_ne (by decide)).trans i2.1)), (pr9 46 (by decide) (by decide) (by decide)).trans ((kr 46 (by decide)).trans ((upl_ne (by decide)).trans i2.2))⟩) (Or.inr ⟨rfl, rfl, (by show WR (A0 46) n2 1 (F112 3204 + 1) (A113 39); exact WR.no c1 (by omega) hz8 (wo_f2 hx2))⟩)
              · refine k_c1 93 rfl rfl (if_neg b120) ?_
                have b120 : ¬ (n117 = 0) := by have h9 := mt iv_eq0.mpr b120; rw [q118] at h9; exact h9
                have pa1 := (pa.oo b120).1
                refine k_aload 94 rfl (gs_ne rfl rfl (gs_ne rfl rfl (gs_ne rfl rfl g0))) rfl ?_
                refine k_iload 96 rfl gs_eq rfl ?_
                refine k_aload 97 rfl (gs_ne rfl rfl (gs_ne rfl rfl (gs_ne rfl rfl g0))) rfl ?_
                refine x_gO (τ := 3) I114 100 rfl oc32 rfl rfl rfl rfl (fun r151 (e152 : (r151 : Int) = F112 3202) o153 => ?_)
                obtain rfl : r151 = 37 := by omega
                refine k_xq I114 rfl (xv_size I114.1 or37) rfl rfl rfl (ty_H.rc3 I114.T or37) L115 (so_i (xo_r I114 oc32 (xo_r I114 oc32 so_n))) ?_
                rintro x154 h155 c156 s157 F158 A159 I160 L161 ⟨e162, k163, k164⟩
                replace k163 := k163.symm
                subst k163
                replace k164 := k164.symm
                subst k164
                show am_Ok _ _ _ (103, _, [.inl x154, .inl x36, .inr (.inr (some 32)), .inr (.inr (some 32))], _, c156, s157) _
                refine k_xq I160 rfl (n_X2_keep_37 e44 e162  (by exact f32b) (by exact f33b) (by omega) I160.1) rfl rfl rfl (I160.T.rc oc32 rfl) L161 (xo_r I160 oc32 so_n) ?_
                rintro x165 h166 c167 s168 F169 A170 I171 L172 e173
                have z176 := iv_01 (x := x165) (e173.1)
                obtain ⟨n174, q175⟩ : ∃ n : Int, x165.toInt = n := ⟨_, rfl⟩
                try rw [q175] at e173
                show am_Ok _ _ _ (106, _, [.inl x165, .inr (.inr (some 32))], _, c167, s168) _
                obtain ⟨qz, qa, qf, qr⟩ := e173
                rw [ak2, wo_s3 hz4 hb2 rfl, pa1] at qa
                have f32c : F169 3202 = 37 := by rw [qf]; exact f32b
                have f33c : F169 3203 = 39 := by rw [qf]; exact f33b
                by_cases b177 : x165 = 0
                · refine k_c1 109 rfl rfl (if_pos b177) ?_
                  have b177 : n174 = 0 := by have h9 := iv_eq0.mp b177; rw [q175] at h9; exact h9
                  have hx3 := qa.zz b177
                  refine k_push 110 rfl rfl ?_
                  have hc178 : (1 : Int32).toInt = 1 := by decide
                  refine k_goto 114 rfl rfl ?_
                  have hx4 : (F169) 3204 = Fv 3204 := (congrFun qf 3204).trans ((congrFun pf 3204).trans (congrFun kf 3204))
                  refine x_pZ (fx_ok := fx_no rfl) I171 117 rfl oc32 rfl rfl rfl (Or.inr rfl) rfl (fun h179 I180 l181 => ?_)
                  have L182 := okL_eq l181 L172
                  have I183 : xI h0 (ob_P h0) h179 c167 s168 (up1 F169 3205 (1)) A170 := by have h9 := I180; rw [hc178] at h9; exact h9
                  refine k_aload 118 rfl (gs_ne rfl rfl (gs_ne rfl rfl (gs_ne rfl rfl g0))) rfl ?_
                  refine x_gO (τ := 3) I183 121 rfl oc32 rfl rfl rfl rfl (fun r184 (e185 : (r184 : Int) = F169 3202) o186 => ?_)
                  obtain rfl : r184 = 37 := by omega
                  refine k_astore 123 rfl rfl ?_
                  refine k_aload 124 rfl (gs_ne rfl rfl (gs_ne rfl rfl (gs_ne rfl rfl (gs_ne rfl rfl g0)))) rfl ?_
                  refine k_aload 125 rfl (gs_ne rfl rfl (gs_ne rfl rfl (gs_ne rfl rfl (gs_ne rfl rfl g0)))) rfl ?_
                  refine x_gO (τ := 3) I183 128 rfl oc32 rfl rfl rfl rfl (fun r187 (e188 : (r187 : Int) = F169 3203) o189 => ?_)
                  obtain rfl : r187 = 39 := by omega
                  refine x_pO (τ := 3) (fx_ok := fx_no rfl) I183 131 rfl oc32 rfl rfl rfl ol39 rfl (fun h190 I191 l192 => ?_)
                  have L193 := okL_eq l192 (okL_set (i := 6) (v := .inr (.inr (some 37))) (xo_v I183 ol37) L182)
                  refine k_aload 132 rfl (gs_ne rfl rfl (gs_ne rfl rfl (gs_ne rfl rfl (gs_ne rfl rfl g0)))) rfl ?_
                  refine k_aload 134 rfl gs_eq rfl ?_
                  refine x_pO (τ := 3) (fx_ok := fx_no rfl) I191 137 rfl oc32 rfl rfl rfl ol37 rfl (fun h194 I195 l196 => ?_)
                  have L197 := okL_eq l196 L193
                  refine k_aload 138 rfl (gs_ne rfl rfl (gs_ne rfl rfl (gs_ne rfl rfl (gs_ne rfl rfl g0)))) rfl ?_
                  refine k_dup 139 rfl rfl rfl ?_
                  refine x_gI I195 142 rfl oc32 rfl rfl rfl rfl (fun x198 (e199 : x198.toInt = F169 3204) => ?_)
                  refine k_push 143 rfl rfl ?_
                  obtain ⟨x200, q201⟩ : ∃ q : Int32, q = x198 + (1 : Int32) := ⟨_, rfl⟩
                  have e202 : x200.toInt = (F169 3204 + 1) := bx_add q201 e199 hc178 (by omega) (by omega)
                  refine k_bin x200 144 rfl q201.symm rfl ?_
                  refine x_pI (fx_ok := fx_no rfl) I195 147 rfl oc32 rfl rfl rfl rfl (fun h203 I204 l205 => ?_)
                  have L206 := okL_eq l205 L197
                  have I207 : xI h0 (ob_P h0) h203 c167 s168 (up1 ((up1 ((up1 (up1 F169 3205 (1)) 3202 ((39 : Nat) : Int))) 3203 ((37 : Nat) : Int))) 3204 ((F169 3204 + 1))) A170 := by have h9 := I204; rw [e202] at h9; exact h9
                  refine k_goto 18 rfl rfl ?_
                  exact ih _ (by show (201 - (F169 3204 + 1)).toNat < n; omega)  (Fv := (up1 ((up1 ((up1 (up1 F169 3205 (1)) 3202 ((39 : Nat) : Int))) 3203 ((37 : Nat) : Int))) 3204 ((F169 3204 + 1)))) (Av := A170) (v2 := v2) rfl (gs_ne rfl rfl (gs_ne rfl rfl (gs_ne rfl rfl (gs_ne rfl rfl g0)))) (gs_ne rfl rfl (gs_ne rfl rfl (gs_ne rfl rfl (gs_ne rfl rfl g1)))) (gs_ne rfl rfl (gs_ne rfl rfl (gs_ne rfl rfl (gs_ne rfl rfl g2)))) hv2 I207 L206 ((by show v2 = n2 ∧ 0 ≤ F169 3204 + 1 ∧ F169 3204 + 1 ≤ n2; omega)) (⟨(qr 2 (by decide)).trans ((pr9 2 (by decide) (by decide) (by decide)).trans ((kr 2 (by decide)).trans ((upl_ne (by decide)).trans i2.1))), (qr 46 (by decide)).trans ((pr9 46 (by decide) (by decide) (by decide)).trans ((kr 46 (by decide)).trans ((upl_ne (by decide)).trans i2.2)))⟩) (Or.inr ⟨rfl, rfl, (by show WR (A0 46) n2 1 (F169 3204 + 1) (A170 39); exact WR.no c1 (by omega) hz8 (wo_f3 hx3))⟩)
                · refine k_c1 113 rfl rfl (if_neg b177) ?_
                  have b177 : ¬ (n174 = 0) := by have h9 := mt iv_eq0.mpr b177; rw [q175] at h9; exact h9
                  have hx5 := (qa.oo b177).1
                  rw [List.append_assoc] at hx5
                  have hx6 := (qa.oo b177).2
                  rw [hx5] at hx6
                  refine k_push 114 rfl rfl ?_
                  have hx4 : (F169) 3204 = Fv 3204 := (congrFun qf 3204).trans ((congrFun pf 3204).trans (congrFun kf 3204))
                  refine x_pZ (fx_ok := fx_no rfl) I171 117 rfl oc32 rfl rfl rfl (Or.inl rfl) rfl (fun h208 I209 l210 => ?_)
                  have L211 := okL_eq l210 L172
                  have I212 : xI h0 (ob_P h0) h208 c167 s168 (up1 F169 3205 (0)) A170 := by have h9 := I209; rw [hc50] at h9; exact h9
                  refine k_aload 118 rfl (gs_ne rfl rfl (gs_ne rfl rfl (gs_ne rfl rfl g0))) rfl ?_
                  refine x_gO (τ := 3) I212 121 rfl oc32 rfl rfl rfl rfl (fun r213 (e214 : (r213 : Int) = F169 3202) o215 => ?_)
                  obtain rfl : r213 = 37 := by omega
                  refine k_astore 123 rfl rfl ?_
                  refine k_aload 124 rfl (gs_ne rfl rfl (gs_ne rfl rfl (gs_ne rfl rfl (gs_ne rfl rfl g0)))) rfl ?_
                  refine k_aload 125 rfl (gs_ne rfl rfl (gs_ne rfl rfl (gs_ne rfl rfl (gs_ne rfl rfl g0)))) rfl ?_
                  refine x_gO (τ := 3) I212 128 rfl oc32 rfl rfl rfl rfl (fun r216 (e217 : (r216 : Int) = F169 3203) o218 => ?_)
                  obtain rfl : r216 = 39 := by omega
                  refine x_pO (τ := 3) (fx_ok := fx_no rfl) I212 131 rfl oc32 rfl rfl rfl ol39 rfl (fun h219 I220 l221 => ?_)
                  have L222 := okL_eq l221 (okL_set (i := 6) (v := .inr (.inr (some 37))) (xo_v I212 ol37) L211)
                  refine k_aload 132 rfl (gs_ne rfl rfl (gs_ne rfl rfl (gs_ne rfl rfl (gs_ne rfl rfl g0)))) rfl ?_
                  refine k_aload 134 rfl gs_eq rfl ?_
                  refine x_pO (τ := 3) (fx_ok := fx_no rfl) I220 137 rfl oc32 rfl rfl rfl ol37 rfl (fun h223 I224 l225 => ?_)
                  have L226 := okL_eq l225 L222
                  refine k_aload 138 rfl (gs_ne rfl rfl (gs_ne rfl rfl (gs_ne rfl rfl (gs_ne rfl rfl g0)))) rfl ?_
                  refine k_dup 139 rfl rfl rfl ?_
                  refine x_gI I224 142 rfl oc32 rfl rfl rfl rfl (fun x227 (e228 : x227.toInt = F169 3204) => ?_)
                  refine k_push 143 rfl rfl ?_
                  have hc229 : (1 : Int32).toInt = 1 := by decide
                  obtain ⟨x230, q231⟩ : ∃ q : Int32, q = x227 + (1 : Int32) := ⟨_, rfl⟩
                  have e232 : x230.toInt = (F169 3204 + 1) := bx_add q231 e228 hc229 (by omega) (by omega)
                  refine k_bin x230 144 rfl q231.symm rfl ?_
                  refine x_pI (fx_ok := fx_no rfl) I224 147 rfl oc32 rfl rfl rfl rfl (fun h233 I234 l235 => ?_)
                  have L236 := okL_eq l235 L226
                  have I237 : xI h0 (ob_P h0) h233 c167 s168 (up1 ((up1 ((up1 (up1 F169 3205 (0)) 3202 ((39 : Nat) : Int))) 3203 ((37 : Nat) : Int))) 3204 ((F169 3204 + 1))) A170 := by have h9 := I234; rw [e232] at h9; exact h9
                  refine k_goto 18 rfl rfl ?_
                  exact ih _ (by show (201 - (F169 3204 + 1)).toNat < n; omega)  (Fv := (up1 ((up1 ((up1 (up1 F169 3205 (0)) 3202 ((39 : Nat) : Int))) 3203 ((37 : Nat) : Int))) 3204 ((F169 3204 + 1)))) (Av := A170) (v2 := v2) rfl (gs_ne rfl rfl (gs_ne rfl rfl (gs_ne rfl rfl (gs_ne rfl rfl g0)))) (gs_ne rfl rfl (gs_ne rfl rfl (gs_ne rfl rfl (gs_ne rfl rfl g1)))) (gs_ne rfl rfl (gs_ne rfl rfl (gs_ne rfl rfl (gs_ne rfl rfl g2)))) hv2 I237 L236 ((by show v2 = n2 ∧ 0 ≤ F169 3204 + 1 ∧ F169 3204 + 1 ≤ n2; omega)) (⟨(qr 2 (by decide)).trans ((pr9 2 (by decide) (by decide) (by decide)).trans ((kr 2 (by decide)).trans ((upl_ne (by decide)).trans i2.1))), (qr 46 (by decide)).trans ((pr9 46 (by decide) (by decide) (by decide)).trans ((kr 46 (by decide)).trans ((upl_ne (by decide)).trans i2.2)))⟩) (Or.inr ⟨rfl, rfl, (by show WR (A0 46) n2 0 (F169 3204 + 1) (A170 39); rw [hx4, hx5]; exact WR.ok c1 c2 c3 c4 (by omega) hz8 hx6)⟩)
        · refine k_c1 150 rfl rfl (if_neg b7) ?_
          have b7 : ¬ (Fv 3205 = 0) := by have h9 := mt iv_eq0.mpr b7; rw [e5] at h9; exact h9
          exact k_fin rfl rfl ⟨_, _, _, _, _, rfl, hI, (by show WOQ (A0 46) n2 Fv Av ∧ Av 2 = A0 2 ∧ Av 46 = A0 46; exact ⟨Or.inl ⟨f32, f33, hw9.end2 b7⟩, i2.1, i2.2⟩)⟩
    · refine k_aload 19 rfl g0 rfl ?_
      refine x_gI hI 22 rfl oc32 rfl rfl rfl rfl (fun x238 (e239 : x238.toInt = Fv 3204) => ?_)
      refine k_iload 23 rfl g2 rfl ?_
      by_cases b240 : u2 ≤ x238
      · refine k_c2 150 rfl rfl (if_pos b240) ?_
        have b240 : v2 ≤ Fv 3204 := by have h9 := iv_le.mp b240; rw [e239] at h9; rw [hv2] at h9; exact h9
        exact k_fin rfl rfl ⟨_, _, _, _, _, rfl, hI, (by show WOQ (A0 46) n2 Fv Av ∧ Av 2 = A0 2 ∧ Av 46 = A0 46; exact ⟨Or.inr ⟨f32, f33, hw9.end1 (by omega)⟩, i2.1, i2.2⟩)⟩
      · refine k_c2 26 rfl rfl (if_neg b240) ?_
        have b240 : ¬ (v2 ≤ Fv 3204) := by have h9 := mt iv_le.mpr b240; rw [e239] at h9; rw [hv2] at h9; exact h9
        refine k_aload 27 rfl g0 rfl ?_
        refine x_gZ hI 30 rfl oc32 rfl rfl rfl rfl (fun x241 (e242 : x241.toInt = Fv 3205) z243 => ?_)
        by_cases b244 : x241 = 0
        · refine k_c1 33 rfl rfl (if_pos b244) ?_
          have b244 : Fv 3205 = 0 := by have h9 := iv_eq0.mp b244; rw [e242] at h9; exact h9
          obtain ⟨c1, c2, c3, c4⟩ := hw9.get b244
          refine k_aload 34 rfl g0 rfl ?_
          refine k_xq hI rfl (n_X2_firstRedex_39   (by exact f32) hI.1) rfl rfl rfl (hI.T.rc oc32 rfl) hL so_n ?_
          rintro x245 h246 c247 s248 F249 A250 I251 L252 ⟨e253, k254, k255⟩
          replace k254 : F249 = Fv := k254
          replace k255 : A250 = Av := k255
          replace e253 : x245.toInt = frd (Av 39) := e253
          replace k254 := k254.symm
          subst k254
          replace k255 := k255.symm
          subst k255
          show am_Ok _ _ _ (37, _, [.inl x245], _, c247, s248) _
          refine k_istore 38 rfl rfl ?_
          refine k_iload 39 rfl gs_eq rfl ?_
          refine k_push 40 rfl rfl ?_
          have hc256 : (-1 : Int32).toInt = -1 := by decide
          by_cases b257 : x245 = (-1 : Int32)
          · refine k_c2 43 rfl rfl (if_pos b257) ?_
            have b257 : frd (Av 39) = (-1) := by have h9 := iv_eq.mp b257; rw [e253] at h9; rw [hc256] at h9; exact h9
            exact k_fin rfl rfl ⟨_, _, _, _, _, rfl, I251, (by show WOQ (A0 46) n2 Fv Av ∧ Av 2 = A0 2 ∧ Av 46 = A0 46; exact ⟨Or.inr ⟨f32, f33, Or.inl ⟨b244, c1.stop (by omega) (by omega)⟩⟩, i2.1, i2.2⟩)⟩
          · refine k_c2 44 rfl rfl (if_neg b257) ?_
            have b257 : ¬ (frd (Av 39) = (-1)) := by have h9 := mt iv_eq.mpr b257; rw [e253] at h9; rw [hc256] at h9; exact h9
            obtain ⟨gq9, hz1, hz2, hz3⟩ := frd_y (l := Av 39) (by have h9 := frd_ge (l := Av 39); omega)
            obtain ⟨gp9, gb9, ga9, gz9, hz4, hz5, hz6, hz7, hz8⟩ := RD.ex c2 (fun z9 h9 => (c3 z9 h9).1) hz2 hz3
            have hlR : (Av 39).length = gp9.length + gb9.length + ga9.length + gz9.length + 2 := by rw [hz4]; exact wo_len
            have hC9 : ∀ q : Int, 0 ≤ gl (Av 39) q ∧ gl (Av 39) q ≤ 1000000 := fun q => by have h9 := gl_bd c3 (by omega) q; omega
            refine k_aload 45 rfl (gs_ne rfl rfl g0) rfl ?_
            refine k_iload 46 rfl gs_eq rfl ?_
            refine k_push 47 rfl rfl ?_
            have hc258 : (2 : Int32).toInt = 2 := by decide
            obtain ⟨x259, q260⟩ : ∃ q : Int32, q = x245 + (2 : Int32) := ⟨_, rfl⟩
            have e261 : x259.toInt = (frd (Av 39) + 2) := bx_add q260 e253 hc258 (by omega) (by omega)
            refine k_bin x259 48 rfl q260.symm rfl ?_
            refine k_xq I251 rfl (n_X2_behindTerm_39 e261  (by exact f32) (by omega) I251.1) rfl rfl rfl (I251.T.rc oc32 rfl) (okL_set (i := 3) (v := .inl x245) rfl L252) so_n ?_
            rintro x262 h263 c264 s265 F266 A267 I268 L269 ⟨e270, k271, k272⟩
            replace k271 : F266 = Fv := k271
            replace k272 : A267 = Av := k272
            replace e270 : x262.toInt = ((frd (Av 39) + 2) + ((btl ((Av 39).drop ((frd (Av 39) + 2) : Int).toNat) 1 : Nat) : Int)) := e270
            replace k271 := k271.symm
            subst k271
            replace k272 := k272.symm
            subst k272
            show am_Ok _ _ _ (51, _, [.inl x262], _, c264, s265) _
            have hb1 : ((frd (Av 39) + 2) + ((btl ((Av 39).drop ((frd (Av 39) + 2) : Int).toNat) 1 : Nat) : Int)) = (gp9.length : Int) + 2 + (gb9.length : Int) := wo_b1 hz4 hz6 (by omega)
            refine k_istore 53 rfl rfl ?_
            refine k_aload 54 rfl (gs_ne rfl rfl (gs_ne rfl rfl g0)) rfl ?_
            refine k_iload 56 rfl gs_eq rfl ?_
            refine k_xq I268 rfl (n_X2_behindTerm_39 e270  (by exact f32) (by omega) I268.1) rfl rfl rfl (I268.T.rc oc32 rfl) (okL_set (i := 4) (v := .inl x262) rfl L269) so_n ?_
            rintro x273 h274 c275 s276 F277 A278 I279 L280 ⟨e281, k282, k283⟩
            replace k282 : F277 = Fv := k282
            replace k283 : A278 = Av := k283
            replace e281 : x273.toInt = (((frd (Av 39) + 2) + ((btl ((Av 39).drop ((frd (Av 39) + 2) : Int).toNat) 1 : Nat) : Int)) + ((btl ((Av 39).drop (((frd (Av 39) + 2) + ((btl ((Av 39).drop ((frd (Av 39) + 2) : Int).toNat) 1 : Nat) : Int)) : Int).toNat) 1 : Nat) : Int)) := e281
            replace k282 := k282.symm
            subst k282
            replace k283 := k283.symm
            subst k283
            show am_Ok _ _ _ (59, _, [.inl x273], _, c275, s276) _
            have hb2 : (((frd (Av 39) + 2) + ((btl ((Av 39).drop ((frd (Av 39) + 2) : Int).toNat) 1 : Nat) : Int)) + ((btl ((Av 39).drop (((frd (Av 39) + 2) + ((btl ((Av 39).drop ((frd (Av 39) + 2) : Int).toNat) 1 : Nat) : Int)) : Int).toNat) 1 : Nat) : Int)) = (gp9.length : Int) + 2 + (gb9.length : Int) + (ga9.length : Int) := wo_b2 hz4 hz7 hb1
            refine k_istore 61 rfl rfl ?_
            refine k_aload 62 rfl (gs_ne rfl rfl (gs_ne rfl rfl (gs_ne rfl rfl g0))) rfl ?_
            refine x_gO (τ := 3) I279 65 rfl oc32 rfl rfl rfl rfl (fun r284 (e285 : (r284 : Int) = Fv 3203) o286 => ?_)
            obtain rfl : r284 = 37 := by omega
            refine k_push 66 rfl rfl ?_
            have hc287 : (0 : Int32).toInt = 0 := by decide
            refine k_xv I279 rfl (y_cut hc287 I279.1 or37) rfl rfl rfl (ty_H.rc3 I279.T or37) (okL_set (i := 5) (v := .inl x273) rfl L280) so_n ?_
            rintro h289 c290 s291 F292 A293 I294 L295 ⟨k297, k298⟩
            replace k297 := k297.symm
            subst k297
            replace k298 := k298.symm
            subst k298
            show am_Ok _ _ _ (69, _, [], _, c290, s291) _
            refine k_aload 70 rfl (gs_ne rfl rfl (gs_ne rfl rfl (gs_ne rfl rfl g0))) rfl ?_
            refine k_aload 71 rfl (gs_ne rfl rfl (gs_ne rfl rfl (gs_ne rfl rfl g0))) rfl ?_
            refine k_push 72 rfl rfl ?_
            refine k_iload 73 rfl (gs_ne rfl rfl (gs_ne rfl rfl gs_eq)) rfl ?_
            refine k_xq I294 rfl (n_X2_keep_39 hc287 e253  (by exact f32) (by exact f33) (by rw [upl_ne (by decide)]; omega) I294.1) rfl rfl rfl (I294.T.rc oc32 rfl) L295 (xo_r I294 oc32 so_n) ?_
            rintro x299 h300 c301 s302 F303 A304 I305 L306 e307
            have z310 := iv_01 (x := x299) (e307.1)
            obtain ⟨n308, q309⟩ : ∃ n : Int, x299.toInt = n := ⟨_, rfl⟩
            try rw [q309] at e307
            show am_Ok _ _ _ (76, _, [.inl x299, .inr (.inr (some 32))], _, c301, s302) _
            obtain ⟨kz, ka, kf, kr⟩ := e307
            rw [upl_eq, cutl_0, upl_ne (by decide), wo_s0 hz4 (by omega)] at ka
            have ak1 : A304 39 = Av 39 := (kr 39 (by decide)).trans (upl_ne (by decide))
            have al1 : (A304 39).length = (Av 39).length := by rw [ak1]
            have f32a : F303 3202 = 39 := by rw [kf]; exact f32
            have f33a : F303 3203 = 37 := by rw [kf]; exact f33
            by_cases b311 : x299 = 0
            · refine k_c1 109 rfl rfl (if_pos b311) ?_
              have b311 : n308 = 0 := by have h9 := iv_eq0.mp b311; rw [q309] at h9; exact h9
              have hx1 : 1000 < (gp9.length : Int) := by have h9 := ka.zz b311; rw [List.length_nil] at h9; omega
              refine k_push 110 rfl rfl ?_
              have hc312 : (1 : Int32).toInt = 1 := by decide
              refine k_goto 114 rfl rfl ?_
              have hx4 : (F303) 3204 = Fv 3204 := congrFun kf 3204
              refine x_pZ (fx_ok := fx_no rfl) I305 117 rfl oc32 rfl rfl rfl (Or.inr rfl) rfl (fun h313 I314 l315 => ?_)
              have L316 := okL_eq l315 L306
              have I317 : xI h0 (ob_P h0) h313 c301 s302 (up1 F303 3205 (1)) A304 := by have h9 := I314; rw [hc312] at h9; exact h9
              refine k_aload 118 rfl (gs_ne rfl rfl (gs_ne rfl rfl (gs_ne rfl rfl g0))) rfl ?_
              refine x_gO (τ := 3) I317 121 rfl oc32 rfl rfl rfl rfl (fun r318 (e319 : (r318 : Int) = F303 3202) o320 => ?_)
              obtain rfl : r318 = 39 := by omega
              refine k_astore 123 rfl rfl ?_
              refine k_aload 124 rfl (gs_ne rfl rfl (gs_ne rfl rfl (gs_ne rfl rfl (gs_ne rfl rfl g0)))) rfl ?_
              refine k_aload 125 rfl (gs_ne rfl rfl (gs_ne rfl rfl (gs_ne rfl rfl (gs_ne rfl rfl g0)))) rfl ?_
              refine x_gO (τ := 3) I317 128 rfl oc32 rfl rfl rfl rfl (fun r321 (e322 : (r321 : Int) = F303 3203) o323 => ?_)
              obtain rfl : r321 = 37 := by omega
              refine x_pO (τ := 3) (fx_ok := fx_no rfl) I317 131 rfl oc32 rfl rfl rfl ol37 rfl (fun h324 I325 l326 => ?_)
              have L327 := okL_eq l326 (okL_set (i := 6) (v := .inr (.inr (some 39))) (xo_v I317 ol39) L316)
              refine k_aload 132 rfl (gs_ne rfl rfl (gs_ne rfl rfl (gs_ne rfl rfl (gs_ne rfl rfl g0)))) rfl ?_
              refine k_aload 134 rfl gs_eq rfl ?_
              refine x_pO (τ := 3) (fx_ok := fx_no rfl) I325 137 rfl oc32 rfl rfl rfl ol39 rfl (fun h328 I329 l330 => ?_)
              have L331 := okL_eq l330 L327
              refine k_aload 138 rfl (gs_ne rfl rfl (gs_ne rfl rfl (gs_ne rfl rfl (gs_ne rfl rfl g0)))) rfl ?_
              refine k_dup 139 rfl rfl rfl ?_
              refine x_gI I329 142 rfl oc32 rfl rfl rfl rfl (fun x332 (e333 : x332.toInt = F303 3204) => ?_)
              refine k_push 143 rfl rfl ?_
              obtain ⟨x334, q335⟩ : ∃ q : Int32, q = x332 + (1 : Int32) := ⟨_, rfl⟩
              have e336 : x334.toInt = (F303 3204 + 1) := bx_add q335 e333 hc312 (by omega) (by omega)
              refine k_bin x334 144 rfl q335.symm rfl ?_
              refine x_pI (fx_ok := fx_no rfl) I329 147 rfl oc32 rfl rfl rfl rfl (fun h337 I338 l339 => ?_)
              have L340 := okL_eq l339 L331
              have I341 : xI h0 (ob_P h0) h337 c301 s302 (up1 ((up1 ((up1 (up1 F303 3205 (1)) 3202 ((37 : Nat) : Int))) 3203 ((39 : Nat) : Int))) 3204 ((F303 3204 + 1))) A304 := by have h9 := I338; rw [e336] at h9; exact h9
              refine k_goto 18 rfl rfl ?_
              exact ih _ (by show (201 - (F303 3204 + 1)).toNat < n; omega)  (Fv := (up1 ((up1 ((up1 (up1 F303 3205 (1)) 3202 ((37 : Nat) : Int))) 3203 ((39 : Nat) : Int))) 3204 ((F303 3204 + 1)))) (Av := A304) (v2 := v2) rfl (gs_ne rfl rfl (gs_ne rfl rfl (gs_ne rfl rfl (gs_ne rfl rfl g0)))) (gs_ne rfl rfl (gs_ne rfl rfl (gs_ne rfl rfl (gs_ne rfl rfl g1)))) (gs_ne rfl rfl (gs_ne rfl rfl (gs_ne rfl rfl (gs_ne rfl rfl g2)))) hv2 I341 L340 ((by show v2 = n2 ∧ 0 ≤ F303 3204 + 1 ∧ F303 3204 + 1 ≤ n2; omega)) (⟨(kr 2 (by decide)).trans ((upl_ne (by decide)).trans i2.1), (kr 46 (by decide)).trans ((upl_ne (by decide)).trans i2.2)⟩) (Or.inl ⟨rfl, rfl, (by show WR (A0 46) n2 1 (F303 3204 + 1) (A304 37); exact WR.no c1 (by omega) hz8 (wo_f1 hx1))⟩)
            · refine k_c1 79 rfl rfl (if_neg b311) ?_
              have b311 : ¬ (n308 = 0) := by have h9 := mt iv_eq0.mpr b311; rw [q309] at h9; exact h9
              have ka1 := (ka.oo b311).1
              rw [List.nil_append] at ka1
              refine k_aload 80 rfl (gs_ne rfl rfl (gs_ne rfl rfl (gs_ne rfl rfl g0))) rfl ?_
              refine k_iload 81 rfl (gs_ne rfl rfl (gs_ne rfl rfl gs_eq)) rfl ?_
              refine k_push 82 rfl rfl ?_
              obtain ⟨x342, q343⟩ : ∃ q : Int32, q = x245 + (2 : Int32) := ⟨_, rfl⟩
              have e344 : x342.toInt = (frd (Av 39) + 2) := bx_add q343 e253 hc258 (by omega) (by omega)
              refine k_bin x342 83 rfl q343.symm rfl ?_
              refine k_iload 85 rfl (gs_ne rfl rfl gs_eq) rfl ?_
              refine k_iload 87 rfl gs_eq rfl ?_
              refine k_xq I305 rfl (n_X2_putIn_39 e344 e270 e281  (by exact f32a) (by exact f33a) (by omega) (fun q => by rw [ak1]; exact hC9 q) I305.1) rfl rfl rfl (I305.T.rc oc32 rfl) L306 (xo_r I305 oc32 so_n) ?_
              rintro x345 h346 c347 s348 F349 A350 I351 L352 e353
              have z356 := iv_01 (x := x345) (e353.1)
              obtain ⟨n354, q355⟩ : ∃ n : Int, x345.toInt = n := ⟨_, rfl⟩
              try rw [q355] at e353
              show am_Ok _ _ _ (90, _, [.inl x345, .inr (.inr (some 32))], _, c347, s348) _
              obtain ⟨pz, pa, pf, pr9⟩ := e353
              rw [ak1, wo_s1 hz4 (by omega) hb1, wo_s2 hz4 hb1 hb2, ka1] at pa
              have ak2 : A350 39 = Av 39 := (pr9 39 (by decide) (by decide) (by decide)).trans ak1
              have al2 : (A350 39).length = (Av 39).length := by rw [ak2]
              have f32b : F349 3202 = 39 := by rw [pf]; exact f32a
              have f33b : F349 3203 = 37 := by rw [pf]; exact f33a
              by_cases b357 : x345 = 0
              · refine k_c1 109 rfl rfl (if_pos b357) ?_
                have b357 : n354 = 0 := by have h9 := iv_eq0.mp b357; rw [q355] at h9; exact h9
                have hx2 := pa.zz b357
                refine k_push 110 rfl rfl ?_
                have hc358 : (1 : Int32).toInt = 1 := by decide
                refine k_goto 114 rfl rfl ?_
                have hx4 : (F349) 3204 = Fv 3204 := (congrFun pf 3204).trans (congrFun kf 3204)
                refine x_pZ (fx_ok := fx_no rfl) I351 117 rfl oc32 rfl rfl rfl (Or.inr rfl) rfl (fun h359 I360 l361 => ?_)
                have L362 := okL_eq l361 L352
                have I363 : xI h0 (ob_P h0) h359 c347 s348 (up1 F349 3205 (1)) A350 := by have h9 := I360; rw [hc358] at h9; exact h9
                refine k_aload 118 rfl (gs_ne rfl rfl (gs_ne rfl rfl (gs_ne rfl rfl g0))) rfl ?_
                refine x_gO (τ := 3) I363 121 rfl oc32 rfl rfl rfl rfl (fun r364 (e365 : (r364 : Int) = F349 3202) o366 => ?_)
                obtain rfl : r364 = 39 := by omega
                refine k_astore 123 rfl rfl ?_
                refine k_aload 124 rfl (gs_ne rfl rfl (gs_ne rfl rfl (gs_ne rfl rfl (gs_ne rfl rfl g0)))) rfl ?_
                refine k_aload 125 rfl (gs_ne rfl rfl (gs_ne rfl rfl (gs_ne rfl rfl (gs_ne rfl rfl g0)))) rfl ?_
                refine x_gO (τ := 3) I363 128 rfl oc32 rfl rfl rfl rfl (fun r367 (e368 : (r367 : Int) = F349 3203) o369 => ?_)
                obtain rfl : r367 = 37 := by omega
                refine x_pO (τ := 3) (fx_ok := fx_no rfl) I363 131 rfl oc32 rfl rfl rfl ol37 rfl (fun h370 I371 l372 => ?_)
                have L373 := okL_eq l372 (okL_set (i := 6) (v := .inr (.inr (some 39))) (xo_v I363 ol39) L362)
                refine k_aload 132 rfl (gs_ne rfl rfl (gs_ne rfl rfl (gs_ne rfl rfl (gs_ne rfl rfl g0)))) rfl ?_
                refine k_aload 134 rfl gs_eq rfl ?_
                refine x_pO (τ := 3) (fx_ok := fx_no rfl) I371 137 rfl oc32 rfl rfl rfl ol39 rfl (fun h374 I375 l376 => ?_)
                have L377 := okL_eq l376 L373
                refine k_aload 138 rfl (gs_ne rfl rfl (gs_ne rfl rfl (gs_ne rfl rfl (gs_ne rfl rfl g0)))) rfl ?_
                refine k_dup 139 rfl rfl rfl ?_
                refine x_gI I375 142 rfl oc32 rfl rfl rfl rfl (fun x378 (e379 : x378.toInt = F349 3204) => ?_)
                refine k_push 143 rfl rfl ?_
                obtain ⟨x380, q381⟩ : ∃ q : Int32, q = x378 + (1 : Int32) := ⟨_, rfl⟩
                have e382 : x380.toInt = (F349 3204 + 1) := bx_add q381 e379 hc358 (by omega) (by omega)
                refine k_bin x380 144 rfl q381.symm rfl ?_
                refine x_pI (fx_ok := fx_no rfl) I375 147 rfl oc32 rfl rfl rfl rfl (fun h383 I384 l385 => ?_)
                have L386 := okL_eq l385 L377
                have I387 : xI h0 (ob_P h0) h383 c347 s348 (up1 ((up1 ((up1 (up1 F349 3205 (1)) 3202 ((37 : Nat) : Int))) 3203 ((39 : Nat) : Int))) 3204 ((F349 3204 + 1))) A350 := by have h9 := I384; rw [e382] at h9; exact h9
                refine k_goto 18 rfl rfl ?_
                exact ih _ (by show (201 - (F349 3204 + 1)).toNat < n; omega)  (Fv := (up1 ((up1 ((up1 (up1 F349 3205 (1)) 3202 ((37 : Nat) : Int))) 3203 ((39 : Nat) : Int))) 3204 ((F349 3204 + 1)))) (Av := A350) (v2 := v2) rfl (gs_ne rfl rfl (gs_ne rfl rfl (gs_ne rfl rfl (gs_ne rfl rfl g0)))) (gs_ne rfl rfl (gs_ne rfl rfl (gs_ne rfl rfl (gs_ne rfl rfl g1)))) (gs_ne rfl rfl (gs_ne rfl rfl (gs_ne rfl rfl (gs_ne rfl rfl g2)))) hv2 I387 L386 ((by show v2 = n2 ∧ 0 ≤ F349 3204 + 1 ∧ F349 3204 + 1 ≤ n2; omega)) (⟨(pr9 2 (by decide) (by decide) (by decide)).trans ((kr 2 (by decide)).trans ((upl_ne (by decide)).trans i2.1)), (pr9 46 (by decide) (by decide) (by decide)).trans ((kr 46 (by decide)).trans ((upl_ne (by decide)).trans i2.2))⟩) (Or.inl ⟨rfl, rfl, (by show WR (A0 46) n2 1 (F349 3204 + 1) (A350 37); exact WR.no c1 (by omega) hz8 (wo_f2 hx2))⟩)
              · refine k_c1 93 rfl rfl (if_neg b357) ?_
                have b357 : ¬ (n354 = 0) := by have h9 := mt iv_eq0.mpr b357; rw [q355] at h9; exact h9
                have pa1 := (pa.oo b357).1
                refine k_aload 94 rfl (gs_ne rfl rfl (gs_ne rfl rfl (gs_ne rfl rfl g0))) rfl ?_
                refine k_iload 96 rfl gs_eq rfl ?_
                refine k_aload 97 rfl (gs_ne rfl rfl (gs_ne rfl rfl (gs_ne rfl rfl g0))) rfl ?_
                refine x_gO (τ := 3) I351 100 rfl oc32 rfl rfl rfl rfl (fun r388 (e389 : (r388 : Int) = F349 3202) o390 => ?_)
                obtain rfl : r388 = 39 := by omega
                refine k_xq I351 rfl (xv_size I351.1 or39) rfl rfl rfl (ty_H.rc3 I351.T or39) L352 (so_i (xo_r I351 oc32 (xo_r I351 oc32 so_n))) ?_
                rintro x391 h392 c393 s394 F395 A396 I397 L398 ⟨e399, k400, k401⟩
                replace k400 := k400.symm
                subst k400
                replace k401 := k401.symm
                subst k401
                show am_Ok _ _ _ (103, _, [.inl x391, .inl x273, .inr (.inr (some 32)), .inr (.inr (some 32))], _, c393, s394) _
                refine k_xq I397 rfl (n_X2_keep_39 e281 e399  (by exact f32b) (by exact f33b) (by omega) I397.1) rfl rfl rfl (I397.T.rc oc32 rfl) L398 (xo_r I397 oc32 so_n) ?_
                rintro x402 h403 c404 s405 F406 A407 I408 L409 e410
                have z413 := iv_01 (x := x402) (e410.1)
                obtain ⟨n411, q412⟩ : ∃ n : Int, x402.toInt = n := ⟨_, rfl⟩
                try rw [q412] at e410
                show am_Ok _ _ _ (106, _, [.inl x402, .inr (.inr (some 32))], _, c404, s405) _
                obtain ⟨qz, qa, qf, qr⟩ := e410
                rw [ak2, wo_s3 hz4 hb2 rfl, pa1] at qa
                have f32c : F406 3202 = 39 := by rw [qf]; exact f32b
                have f33c : F406 3203 = 37 := by rw [qf]; exact f33b
                by_cases b414 : x402 = 0
                · refine k_c1 109 rfl rfl (if_pos b414) ?_
                  have b414 : n411 = 0 := by have h9 := iv_eq0.mp b414; rw [q412] at h9; exact h9
                  have hx3 := qa.zz b414
                  refine k_push 110 rfl rfl ?_
                  have hc415 : (1 : Int32).toInt = 1 := by decide
                  refine k_goto 114 rfl rfl ?_
                  have hx4 : (F406) 3204 = Fv 3204 := (congrFun qf 3204).trans ((congrFun pf 3204).trans (congrFun kf 3204))
                  refine x_pZ (fx_ok := fx_no rfl) I408 117 rfl oc32 rfl rfl rfl (Or.inr rfl) rfl (fun h416 I417 l418 => ?_)
                  have L419 := okL_eq l418 L409
                  have I420 : xI h0 (ob_P h0) h416 c404 s405 (up1 F406 3205 (1)) A407 := by have h9 := I417; rw [hc415] at h9; exact h9
                  refine k_aload 118 rfl (gs_ne rfl rfl (gs_ne rfl rfl (gs_ne rfl rfl g0))) rfl ?_
                  refine x_gO (τ := 3) I420 121 rfl oc32 rfl rfl rfl rfl (fun r421 (e422 : (r421 : Int) = F406 3202) o423 => ?_)
                  obtain rfl : r421 = 39 := by omega
                  refine k_astore 123 rfl rfl ?_
                  refine k_aload 124 rfl (gs_ne rfl rfl (gs_ne rfl rfl (gs_ne rfl rfl (gs_ne rfl rfl g0)))) rfl ?_
                  refine k_aload 125 rfl (gs_ne rfl rfl (gs_ne rfl rfl (gs_ne rfl rfl (gs_ne rfl rfl g0)))) rfl ?_
                  refine x_gO (τ := 3) I420 128 rfl oc32 rfl rfl rfl rfl (fun r424 (e425 : (r424 : Int) = F406 3203) o426 => ?_)
                  obtain rfl : r424 = 37 := by omega
                  refine x_pO (τ := 3) (fx_ok := fx_no rfl) I420 131 rfl oc32 rfl rfl rfl ol37 rfl (fun h427 I428 l429 => ?_)
                  have L430 := okL_eq l429 (okL_set (i := 6) (v := .inr (.inr (some 39))) (xo_v I420 ol39) L419)
                  refine k_aload 132 rfl (gs_ne rfl rfl (gs_ne rfl rfl (gs_ne rfl rfl (gs_ne rfl rfl g0)))) rfl ?_
                  refine k_aload 134 rfl gs_eq rfl ?_
                  refine x_pO (τ := 3) (fx_ok := fx_no rfl) I428 137 rfl oc32 rfl rfl rfl ol39 rfl (fun h431 I432 l433 => ?_)
                  have L434 := okL_eq l433 L430
                  refine k_aload 138 rfl (gs_ne rfl rfl (gs_ne rfl rfl (gs_ne rfl rfl (gs_ne rfl rfl g0)))) rfl ?_
                  refine k_dup 139 rfl rfl rfl ?_
                  refine x_gI I432 142 rfl oc32 rfl rfl rfl rfl (fun x435 (e436 : x435.toInt = F406 3204) => ?_)
                  refine k_push 143 rfl rfl ?_
                  obtain ⟨x437, q438⟩ : ∃ q : Int32, q = x435 + (1 : Int32) := ⟨_, rfl⟩
                  have e439 : x437.toInt = (F406 3204 + 1) := bx_add q438 e436 hc415 (by omega) (by omega)
                  refine k_bin x437 144 rfl q438.symm rfl ?_
                  refine x_pI (fx_ok := fx_no rfl) I432 147 rfl oc32 rfl rfl rfl rfl (fun h440 I441 l442 => ?_)
                  have L443 := okL_eq l442 L434
                  have I444 : xI h0 (ob_P h0) h440 c404 s405 (up1 ((up1 ((up1 (up1 F406 3205 (1)) 3202 ((37 : Nat) : Int))) 3203 ((39 : Nat) : Int))) 3204 ((F406 3204 + 1))) A407 := by have h9 := I441; rw [e439] at h9; exact h9
                  refine k_goto 18 rfl rfl ?_
                  exact ih _ (by show (201 - (F406 3204 + 1)).toNat < n; omega)  (Fv := (up1 ((up1 ((up1 (up1 F406 3205 (1)) 3202 ((37 : Nat) : Int))) 3203 ((39 : Nat) : Int))) 3204 ((F406 3204 + 1)))) (Av := A407) (v2 := v2) rfl (gs_ne rfl rfl (gs_ne rfl rfl (gs_ne rfl rfl (gs_ne rfl rfl g0)))) (gs_ne rfl rfl (gs_ne rfl rfl (gs_ne rfl rfl (gs_ne rfl rfl g1)))) (gs_ne rfl rfl (gs_ne rfl rfl (gs_ne rfl rfl (gs_ne rfl rfl g2)))) hv2 I444 L443 ((by show v2 = n2 ∧ 0 ≤ F406 3204 + 1 ∧ F406 3204 + 1 ≤ n2; omega)) (⟨(qr 2 (by decide)).trans ((pr9 2 (by decide) (by decide) (by decide)).trans ((kr 2 (by decide)).trans ((upl_ne (by decide)).trans i2.1))), (qr 46 (by decide)).trans ((pr9 46 (by decide) (by decide) (by decide)).trans ((kr 46 (by decide)).trans ((upl_ne (by decide)).trans i2.2)))⟩) (Or.inl ⟨rfl, rfl, (by show WR (A0 46) n2 1 (F406 3204 + 1) (A407 37); exact WR.no c1 (by omega) hz8 (wo_f3 hx3))⟩)
                · refine k_c1 113 rfl rfl (if_neg b414) ?_
                  have b414 : ¬ (n411 = 0) := by have h9 := mt iv_eq0.mpr b414; rw [q412] at h9; exact h9
                  have hx5 := (qa.oo b414).1
                  rw [List.append_assoc] at hx5
                  have hx6 := (qa.oo b414).2
                  rw [hx5] at hx6
                  refine k_push 114 rfl rfl ?_
                  have hx4 : (F406) 3204 = Fv 3204 := (congrFun qf 3204).trans ((congrFun pf 3204).trans (congrFun kf 3204))
                  refine x_pZ (fx_ok := fx_no rfl) I408 117 rfl oc32 rfl rfl rfl (Or.inl rfl) rfl (fun h445 I446 l447 => ?_)
                  have L448 := okL_eq l447 L409
                  have I449 : xI h0 (ob_P h0) h445 c404 s405 (up1 F406 3205 (0)) A407 := by have h9 := I446; rw [hc287] at h9; exact h9
                  refine k_aload 118 rfl (gs_ne rfl rfl (gs_ne rfl rfl (gs_ne rfl rfl g0))) rfl ?_
                  refine x_gO (τ := 3) I449 121 rfl oc32 rfl rfl rfl rfl (fun r450 (e451 : (r450 : Int) = F406 3202) o452 => ?_)
                  obtain rfl : r450 = 39 := by omega
                  refine k_astore 123 rfl rfl ?_
                  refine k_aload 124 rfl (gs_ne rfl rfl (gs_ne rfl rfl (gs_ne rfl rfl (gs_ne rfl rfl g0)))) rfl ?_
                  refine k_aload 125 rfl (gs_ne rfl rfl (gs_ne rfl rfl (gs_ne rfl rfl (gs_ne rfl rfl g0)))) rfl ?_
                  refine x_gO (τ := 3) I449 128 rfl oc32 rfl rfl rfl rfl (fun r453 (e454 : (r453 : Int) = F406 3203) o455 => ?_)
                  obtain rfl : r453 = 37 := by omega
                  refine x_pO (τ := 3) (fx_ok := fx_no rfl) I449 131 rfl oc32 rfl rfl rfl ol37 rfl (fun h456 I457 l458 => ?_)
                  have L459 := okL_eq l458 (okL_set (i := 6) (v := .inr (.inr (some 39))) (xo_v I449 ol39) L448)
                  refine k_aload 132 rfl (gs_ne rfl rfl (gs_ne rfl rfl (gs_ne rfl rfl (gs_ne rfl rfl g0)))) rfl ?_
                  refine k_aload 134 rfl gs_eq rfl ?_
                  refine x_pO (τ := 3) (fx_ok := fx_no rfl) I457 137 rfl oc32 rfl rfl rfl ol39 rfl (fun h460 I461 l462 => ?_)
                  have L463 := okL_eq l462 L459
                  refine k_aload 138 rfl (gs_ne rfl rfl (gs_ne rfl rfl (gs_ne rfl rfl (gs_ne rfl rfl g0)))) rfl ?_
                  refine k_dup 139 rfl rfl rfl ?_
                  refine x_gI I461 142 rfl oc32 rfl rfl rfl rfl (fun x464 (e465 : x464.toInt = F406 3204) => ?_)
                  refine k_push 143 rfl rfl ?_
                  have hc466 : (1 : Int32).toInt = 1 := by decide
                  obtain ⟨x467, q468⟩ : ∃ q : Int32, q = x464 + (1 : Int32) := ⟨_, rfl⟩
                  have e469 : x467.toInt = (F406 3204 + 1) := bx_add q468 e465 hc466 (by omega) (by omega)
                  refine k_bin x467 144 rfl q468.symm rfl ?_
                  refine x_pI (fx_ok := fx_no rfl) I461 147 rfl oc32 rfl rfl rfl rfl (fun h470 I471 l472 => ?_)
                  have L473 := okL_eq l472 L463
                  have I474 : xI h0 (ob_P h0) h470 c404 s405 (up1 ((up1 ((up1 (up1 F406 3205 (0)) 3202 ((37 : Nat) : Int))) 3203 ((39 : Nat) : Int))) 3204 ((F406 3204 + 1))) A407 := by have h9 := I471; rw [e469] at h9; exact h9
                  refine k_goto 18 rfl rfl ?_
                  exact ih _ (by show (201 - (F406 3204 + 1)).toNat < n; omega)  (Fv := (up1 ((up1 ((up1 (up1 F406 3205 (0)) 3202 ((37 : Nat) : Int))) 3203 ((39 : Nat) : Int))) 3204 ((F406 3204 + 1)))) (Av := A407) (v2 := v2) rfl (gs_ne rfl rfl (gs_ne rfl rfl (gs_ne rfl rfl (gs_ne rfl rfl g0)))) (gs_ne rfl rfl (gs_ne rfl rfl (gs_ne rfl rfl (gs_ne rfl rfl g1)))) (gs_ne rfl rfl (gs_ne rfl rfl (gs_ne rfl rfl (gs_ne rfl rfl g2)))) hv2 I474 L473 ((by show v2 = n2 ∧ 0 ≤ F406 3204 + 1 ∧ F406 3204 + 1 ≤ n2; omega)) (⟨(qr 2 (by decide)).trans ((pr9 2 (by decide) (by decide) (by decide)).trans ((kr 2 (by decide)).trans ((upl_ne (by decide)).trans i2.1))), (qr 46 (by decide)).trans ((pr9 46 (by decide) (by decide) (by decide)).trans ((kr 46 (by decide)).trans ((upl_ne (by decide)).trans i2.2)))⟩) (Or.inl ⟨rfl, rfl, (by show WR (A0 46) n2 0 (F406 3204 + 1) (A407 37); rw [hx4, hx5]; exact WR.ok c1 c2 c3 c4 (by omega) hz8 hx6)⟩)
        · refine k_c1 150 rfl rfl (if_neg b244) ?_
          have b244 : ¬ (Fv 3205 = 0) := by have h9 := mt iv_eq0.mpr b244; rw [e242] at h9; exact h9
          exact k_fin rfl rfl ⟨_, _, _, _, _, rfl, hI, (by show WOQ (A0 46) n2 Fv Av ∧ Av 2 = A0 2 ∧ Av 46 = A0 46; exact ⟨Or.inr ⟨f32, f33, hw9.end2 b244⟩, i2.1, i2.2⟩)⟩
theorem n_X2_workOff_37 {h0 : am_h} {F0 : rf_f} {A0 : xl_A} {w2 : Int32} {n2 : Int} (hn2 : w2.toInt = n2)  (hn : F0 3202 = 37) (hs : F0 3203 = 39) (pL : (A0 46).length ≤ 120) (pw : wL (A0 46)) (pc9 : ∀ x, x ∈ A0 46 → 0 ≤ x ∧ x ≤ 200) (pm : 0 ≤ n2 ∧ n2 ≤ 200) (hR : xR h0 F0 A0) : am_Mt 6 41 [.inr (.inr (some 32)), .inr (.inr (some 46)), .inl w2] h0 (xV h0 (fun F' A' => WOQ (A0 46) n2 F' A' ∧ A' 2 = A0 2 ∧ A' 46 = A0 46)) := by
  refine am_Mt.of (D := 5) ?_
  have hI : xI h0 (ob_P h0) h0 0 0 F0 A0 := xI.start hR
  have hL : am_okL h0.length (am_args 0 [.inr (.inr (some 32)), .inr (.inr (some 46)), .inl w2]) = true := (okA_r hI.T oc32 (okA_r hI.T ol46 (okA_i okA_n)))
  refine k_aload 1 rfl rfl rfl ?_
  refine x_gO (τ := 3) hI 4 rfl oc32 rfl rfl rfl rfl (fun r475 (e476 : (r475 : Int) = F0 3202) o477 => ?_)
  obtain rfl : r475 = 37 := by omega
  refine k_aload 5 rfl rfl rfl ?_
  refine k_xv hI rfl (xw_copy hI.1 or37 or46 (by rw [mo37]; omega)) rfl rfl rfl (ty_H.rc3 hI.T or37) hL so_n ?_
  rintro h479 c480 s481 F482 A483 I484 L485 ⟨k487, k488⟩
  replace k487 := k487.symm
  subst k487
  replace k488 := k488.symm
  subst k488
  show am_Ok _ _ _ (8, _, [], _, c480, s481) _
  refine k_aload 9 rfl rfl rfl ?_
  refine k_push 10 rfl rfl ?_
  have hc489 : (0 : Int32).toInt = 0 := by decide
  refine x_pI (fx_ok := fx_no rfl) I484 13 rfl oc32 rfl rfl rfl rfl (fun h490 I491 l492 => ?_)
  have L493 := okL_eq l492 L485
  have I494 : xI h0 (ob_P h0) h490 c480 s481 (up1 F0 3204 (0)) (upl A0 37 (A0 46)) := by have h9 := I491; rw [hc489] at h9; exact h9
  refine k_aload 14 rfl rfl rfl ?_
  refine k_push 15 rfl rfl ?_
  refine x_pZ (fx_ok := fx_no rfl) I494 18 rfl oc32 rfl rfl rfl (Or.inl rfl) rfl (fun h495 I496 l497 => ?_)
  have L498 := okL_eq l497 L493
  have I499 : xI h0 (ob_P h0) h495 c480 s481 (up1 (up1 F0 3204 (0)) 3205 (0)) (upl A0 37 (A0 46)) := by have h9 := I496; rw [hc489] at h9; exact h9
  exact yl_X2_workOff_37_18 hn2  hn hs pL pw pc9 pm _  (Fv := (up1 (up1 F0 3204 (0)) 3205 (0))) (Av := (upl A0 37 (A0 46))) (v2 := n2) rfl rfl rfl rfl hn2 I499 L498 (⟨rfl, Int.le_refl 0, pm.1⟩) (⟨upl_ne (by decide), upl_ne (by decide)⟩) (Or.inl ⟨hn, hs, (by show WR (A0 46) n2 0 0 (A0 46); exact Or.inl ⟨rfl, PLG.z, pw, fun x hx => (by have h9 := pc9 x hx; omega), (by omega)⟩)⟩)
theorem yl_X2_workOff_39_18 {h0 : am_h} {F0 : rf_f} {A0 : xl_A} {w2 : Int32} {n2 : Int} (hn2 : w2.toInt = n2)  (hn : F0 3202 = 39) (hs : F0 3203 = 37) (pL : (A0 46).length ≤ 120) (pw : wL (A0 46)) (pc9 : ∀ x, x ∈ A0 46 → 0 ≤ x ∧ x ≤ 200) (pm : 0 ≤ n2 ∧ n2 ≤ 200) : ∀ (n : Nat) {lv : am_l} {h : am_h} {c s : Nat} {u2 : Int32} {v2 : Int} {Fv : rf_f} {Av : xl_A}, ((201 - Fv 3204).toNat) = n → am_get lv 0 = some (.inr (.inr (some 32))) → am_get lv 1 = some (.inr (.inr (some 46))) → am_get lv 2 = some (.inl u2) → u2.toInt = v2 → xI h0 (ob_P h0) h c s Fv Av → am_okL h.length lv = true → (v2 = n2 ∧ 0 ≤ Fv 3204 ∧ Fv 3204 ≤ n2) → (Av 2 = A0 2 ∧ Av 46 = A0 46) → (WQ (A0 46) n2 Fv Av) → am_Ok am_G 5 41 (18, lv, [], h, c, s) (xV h0 (fun F' A' => WOQ (A0 46) n2 F' A' ∧ A' 2 = A0 2 ∧ A' 46 = A0 46)) := by
  intro n
  induction n using Nat.strongRecOn with
  | ind n ih =>
    intro lv h c s u2 v2  Fv Av hm g0 g1 g2 hv2 hI hL i1 i2 iq
    rcases iq with ⟨f32, f33, hw9⟩ | ⟨f32, f33, hw9⟩
    · refine k_aload 19 rfl g0 rfl ?_
      refine x_gI hI 22 rfl oc32 rfl rfl rfl rfl (fun x1 (e2 : x1.toInt = Fv 3204) => ?_)
      refine k_iload 23 rfl g2 rfl ?_
      by_cases b3 : u2 ≤ x1
      · refine k_c2 150 rfl rfl (if_pos b3) ?_
        have b3 : v2 ≤ Fv 3204 := by have h9 := iv_le.mp b3; rw [e2] at h9; rw [hv2] at h9; exact h9
        exact k_fin rfl rfl ⟨_, _, _, _, _, rfl, hI, (by show WOQ (A0 46) n2 Fv Av ∧ Av 2 = A0 2 ∧ Av 46 = A0 46; exact ⟨Or.inl ⟨f32, f33, hw9.end1 (by omega)⟩, i2.1, i2.2⟩)⟩
      · refine k_c2 26 rfl rfl (if_neg b3) ?_
        have b3 : ¬ (v2 ≤ Fv 3204) := by have h9 := mt iv_le.mpr b3; rw [e2] at h9; rw [hv2] at h9; exact h9
        refine k_aload 27 rfl g0 rfl ?_
        refine x_gZ hI 30 rfl oc32 rfl rfl rfl rfl (fun x4 (e5 : x4.toInt = Fv 3205) z6 => ?_)
        by_cases b7 : x4 = 0
        · refine k_c1 33 rfl rfl (if_pos b7) ?_
          have b7 : Fv 3205 = 0 := by have h9 := iv_eq0.mp b7; rw [e5] at h9; exact h9
          obtain ⟨c1, c2, c3, c4⟩ := hw9.get b7
          refine k_aload 34 rfl g0 rfl ?_
          refine k_xq hI rfl (n_X2_firstRedex_37   (by exact f32) hI.1) rfl rfl rfl (hI.T.rc oc32 rfl) hL so_n ?_
          rintro x8 h9 c10 s11 F12 A13 I14 L15 ⟨e16, k17, k18⟩
          replace k17 : F12 = Fv := k17
          replace k18 : A13 = Av := k18
          replace e16 : x8.toInt = frd (Av 37) := e16
          replace k17 := k17.symm
          subst k17
          replace k18 := k18.symm
          subst k18
          show am_Ok _ _ _ (37, _, [.inl x8], _, c10, s11) _
          refine k_istore 38 rfl rfl ?_
          refine k_iload 39 rfl gs_eq rfl ?_
          refine k_push 40 rfl rfl ?_
          have hc19 : (-1 : Int32).toInt = -1 := by decide
          by_cases b20 : x8 = (-1 : Int32)
          · refine k_c2 43 rfl rfl (if_pos b20) ?_
            have b20 : frd (Av 37) = (-1) := by have h9 := iv_eq.mp b20; rw [e16] at h9; rw [hc19] at h9; exact h9
            exact k_fin rfl rfl ⟨_, _, _, _, _, rfl, I14, (by show WOQ (A0 46) n2 Fv Av ∧ Av 2 = A0 2 ∧ Av 46 = A0 46; exact ⟨Or.inl ⟨f32, f33, Or.inl ⟨b7, c1.stop (by omega) (by omega)⟩⟩, i2.1, i2.2⟩)⟩
          · refine k_c2 44 rfl rfl (if_neg b20) ?_
            have b20 : ¬ (frd (Av 37) = (-1)) := by have h9 := mt iv_eq.mpr b20; rw [e16] at h9; rw [hc19] at h9; exact h9
            obtain ⟨gq9, hz1, hz2, hz3⟩ := frd_y (l := Av 37) (by have h9 := frd_ge (l := Av 37); omega)
            obtain ⟨gp9, gb9, ga9, gz9, hz4, hz5, hz6, hz7, hz8⟩ := RD.ex c2 (fun z9 h9 => (c3 z9 h9).1) hz2 hz3
            have hlR : (Av 37).length = gp9.length + gb9.length + ga9.length + gz9.length + 2 := by rw [hz4]; exact wo_len
            have hC9 : ∀ q : Int, 0 ≤ gl (Av 37) q ∧ gl (Av 37) q ≤ 1000000 := fun q => by have h9 := gl_bd c3 (by omega) q; omega
            refine k_aload 45 rfl (gs_ne rfl rfl g0) rfl ?_
            refine k_iload 46 rfl gs_eq rfl ?_
            refine k_push 47 rfl rfl ?_
            have hc21 : (2 : Int32).toInt = 2 := by decide
            obtain ⟨x22, q23⟩ : ∃ q : Int32, q = x8 + (2 : Int32) := ⟨_, rfl⟩
            have e24 : x22.toInt = (frd (Av 37) + 2) := bx_add q23 e16 hc21 (by omega) (by omega)
            refine k_bin x22 48 rfl q23.symm rfl ?_
            refine k_xq I14 rfl (n_X2_behindTerm_37 e24  (by exact f32) (by omega) I14.1) rfl rfl rfl (I14.T.rc oc32 rfl) (okL_set (i := 3) (v := .inl x8) rfl L15) so_n ?_
            rintro x25 h26 c27 s28 F29 A30 I31 L32 ⟨e33, k34, k35⟩
            replace k34 : F29 = Fv := k34
            replace k35 : A30 = Av := k35
            replace e33 : x25.toInt = ((frd (Av 37) + 2) + ((btl ((Av 37).drop ((frd (Av 37) + 2) : Int).toNat) 1 : Nat) : Int)) := e33
            replace k34 := k34.symm
            subst k34
            replace k35 := k35.symm
            subst k35
            show am_Ok _ _ _ (51, _, [.inl x25], _, c27, s28) _
            have hb1 : ((frd (Av 37) + 2) + ((btl ((Av 37).drop ((frd (Av 37) + 2) : Int).toNat) 1 : Nat) : Int)) = (gp9.length : Int) + 2 + (gb9.length : Int) := wo_b1 hz4 hz6 (by omega)
            refine k_istore 53 rfl rfl ?_
            refine k_aload 54 rfl (gs_ne rfl rfl (gs_ne rfl rfl g0)) rfl ?_
            refine k_iload 56 rfl gs_eq rfl ?_
            refine k_xq I31 rfl (n_X2_behindTerm_37 e33  (by exact f32) (by omega) I31.1) rfl rfl rfl (I31.T.rc oc32 rfl) (okL_set (i := 4) (v := .inl x25) rfl L32) so_n ?_
            rintro x36 h37 c38 s39 F40 A41 I42 L43 ⟨e44, k45, k46⟩
            replace k45 : F40 = Fv := k45
            replace k46 : A41 = Av := k46
            replace e44 : x36.toInt = (((frd (Av 37) + 2) + ((btl ((Av 37).drop ((frd (Av 37) + 2) : Int).toNat) 1 : Nat) : Int)) + ((btl ((Av 37).drop (((frd (Av 37) + 2) + ((btl ((Av 37).drop ((frd (Av 37) + 2) : Int).toNat) 1 : Nat) : Int)) : Int).toNat) 1 : Nat) : Int)) := e44
            replace k45 := k45.symm
            subst k45
            replace k46 := k46.symm
            subst k46
            show am_Ok _ _ _ (59, _, [.inl x36], _, c38, s39) _
            have hb2 : (((frd (Av 37) + 2) + ((btl ((Av 37).drop ((frd (Av 37) + 2) : Int).toNat) 1 : Nat) : Int)) + ((btl ((Av 37).drop (((frd (Av 37) + 2) + ((btl ((Av 37).drop ((frd (Av 37) + 2) : Int).toNat) 1 : Nat) : Int)) : Int).toNat) 1 : Nat) : Int)) = (gp9.length : Int) + 2 + (gb9.length : Int) + (ga9.length : Int) := wo_b2 hz4 hz7 hb1
            refine k_istore 61 rfl rfl ?_
            refine k_aload 62 rfl (gs_ne rfl rfl (gs_ne rfl rfl (gs_ne rfl rfl g0))) rfl ?_
            refine x_gO (τ := 3) I42 65 rfl oc32 rfl rfl rfl rfl (fun r47 (e48 : (r47 : Int) = Fv 3203) o49 => ?_)
            obtain rfl : r47 = 39 := by omega
            refine k_push 66 rfl rfl ?_
            have hc50 : (0 : Int32).toInt = 0 := by decide
            refine k_xv I42 rfl (y_cut hc50 I42.1 or39) rfl rfl rfl (ty_H.rc3 I42.T or39) (okL_set (i := 5) (v := .inl x36) rfl L43) so_n ?_
            rintro h52 c53 s54 F55 A56 I57 L58 ⟨k60, k61⟩
            replace k60 := k60.symm
            subst k60
            replace k61 := k61.symm
            subst k61
            show am_Ok _ _ _ (69, _, [], _, c53, s54) _
            refine k_aload 70 rfl (gs_ne rfl rfl (gs_ne rfl rfl (gs_ne rfl rfl g0))) rfl ?_
            refine k_aload 71 rfl (gs_ne rfl rfl (gs_ne rfl rfl (gs_ne rfl rfl g0))) rfl ?_
            refine k_push 72 rfl rfl ?_
            refine k_iload 73 rfl (gs_ne rfl rfl (gs_ne rfl rfl gs_eq)) rfl ?_
            refine k_xq I57 rfl (n_X2_keep_37 hc50 e16  (by exact f32) (by exact f33) (by rw [upl_ne (by decide)]; omega) I57.1) rfl rfl rfl (I57.T.rc oc32 rfl) L58 (xo_r I57 oc32 so_n) ?_
            rintro x62 h63 c64 s65 F66 A67 I68 L69 e70
            have z73 := iv_01 (x := x62) (e70.1)
            obtain ⟨n71, q72⟩ : ∃ n : Int, x62.toInt = n := ⟨_, rfl⟩
            try rw [q72] at e70
            show am_Ok _ _ _ (76, _, [.inl x62, .inr (.inr (some 32))], _, c64, s65) _
            obtain ⟨kz, ka, kf, kr⟩ := e70
            rw [upl_eq, cutl_0, upl_ne (by decide), wo_s0 hz4 (by omega)] at ka
            have ak1 : A67 37 = Av 37 := (kr 37 (by decide)).trans (upl_ne (by decide))
            have al1 : (A67 37).length = (Av 37).length := by rw [ak1]
            have f32a : F66 3202 = 37 := by rw [kf]; exact f32
            have f33a : F66 3203 = 39 := by rw [kf]; exact f33
            by_cases b74 : x62 = 0
            · refine k_c1 109 rfl rfl (if_pos b74) ?_
              have b74 : n71 = 0 := by have h9 := iv_eq0.mp b74; rw [q72] at h9; exact h9
              have hx1 : 1000 < (gp9.length : Int) := by have h9 := ka.zz b74; rw [List.length_nil] at h9; omega
              refine k_push 110 rfl rfl ?_
              have hc75 : (1 : Int32).toInt = 1 := by decide
              refine k_goto 114 rfl rfl ?_
              have hx4 : (F66) 3204 = Fv 3204 := congrFun kf 3204
              refine x_pZ (fx_ok := fx_no rfl) I68 117 rfl oc32 rfl rfl rfl (Or.inr rfl) rfl (fun h76 I77 l78 => ?_)
              have L79 := okL_eq l78 L69
              have I80 : xI h0 (ob_P h0) h76 c64 s65 (up1 F66 3205 (1)) A67 := by have h9 := I77; rw [hc75] at h9; exact h9
              refine k_aload 118 rfl (gs_ne rfl rfl (gs_ne rfl rfl (gs_ne rfl rfl g0))) rfl ?_
              refine x_gO (τ := 3) I80 121 rfl oc32 rfl rfl rfl rfl (fun r81 (e82 : (r81 : Int) = F66 3202) o83 => ?_)
              obtain rfl : r81 = 37 := by omega
              refine k_astore 123 rfl rfl ?_
              refine k_aload 124 rfl (gs_ne rfl rfl (gs_ne rfl rfl (gs_ne rfl rfl (gs_ne rfl rfl g0)))) rfl ?_
              refine k_aload 125 rfl (gs_ne rfl rfl (gs_ne rfl rfl (gs_ne rfl rfl (gs_ne rfl rfl g0)))) rfl ?_
              refine x_gO (τ := 3) I80 128 rfl oc32 rfl rfl rfl rfl (fun r84 (e85 : (r84 : Int) = F66 3203) o86 => ?_)
              obtain rfl : r84 = 39 := by omega
              refine x_pO (τ := 3) (fx_ok := fx_no rfl) I80 131 rfl oc32 rfl rfl rfl ol39 rfl (fun h87 I88 l89 => ?_)
              have L90 := okL_eq l89 (okL_set (i := 6) (v := .inr (.inr (some 37))) (xo_v I80 ol37) L79)
              refine k_aload 132 rfl (gs_ne rfl rfl (gs_ne rfl rfl (gs_ne rfl rfl (gs_ne rfl rfl g0)))) rfl ?_
              refine k_aload 134 rfl gs_eq rfl ?_
              refine x_pO (τ := 3) (fx_ok := fx_no rfl) I88 137 rfl oc32 rfl rfl rfl ol37 rfl (fun h91 I92 l93 => ?_)
              have L94 := okL_eq l93 L90
              refine k_aload 138 rfl (gs_ne rfl rfl (gs_ne rfl rfl (gs_ne rfl rfl (gs_ne rfl rfl g0)))) rfl ?_
              refine k_dup 139 rfl rfl rfl ?_
              refine x_gI I92 142 rfl oc32 rfl rfl rfl rfl (fun x95 (e96 : x95.toInt = F66 3204) => ?_)
              refine k_push 143 rfl rfl ?_
              obtain ⟨x97, q98⟩ : ∃ q : Int32, q = x95 + (1 : Int32) := ⟨_, rfl⟩
              have e99 : x97.toInt = (F66 3204 + 1) := bx_add q98 e96 hc75 (by omega) (by omega)
              refine k_bin x97 144 rfl q98.symm rfl ?_
              refine x_pI (fx_ok := fx_no rfl) I92 147 rfl oc32 rfl rfl rfl rfl (fun h100 I101 l102 => ?_)
              have L103 := okL_eq l102 L94
              have I104 : xI h0 (ob_P h0) h100 c64 s65 (up1 ((up1 ((up1 (up1 F66 3205 (1)) 3202 ((39 : Nat) : Int))) 3203 ((37 : Nat) : Int))) 3204 ((F66 3204 + 1))) A67 := by have h9 := I101; rw [e99] at h9; exact h9
              refine k_goto 18 rfl rfl ?_
              exact ih _ (by show (201 - (F66 3204 + 1)).toNat < n; omega)  (Fv := (up1 ((up1 ((up1 (up1 F66 3205 (1)) 3202 ((39 : Nat) : Int))) 3203 ((37 : Nat) : Int))) 3204 ((F66 3204 + 1)))) (Av := A67) (v2 := v2) rfl (gs_ne rfl rfl (gs_ne rfl rfl (gs_ne rfl rfl (gs_ne rfl rfl g0)))) (gs_ne rfl rfl (gs_ne rfl rfl (gs_ne rfl rfl (gs_ne rfl rfl g1)))) (gs_ne rfl rfl (gs_ne rfl rfl (gs_ne rfl rfl (gs_ne rfl rfl g2)))) hv2 I104 L103 ((by show v2 = n2 ∧ 0 ≤ F66 3204 + 1 ∧ F66 3204 + 1 ≤ n2; omega)) (⟨(kr 2 (by decide)).trans ((upl_ne (by decide)).trans i2.1), (kr 46 (by decide)).trans ((upl_ne (by decide)).trans i2.2)⟩) (Or.inr ⟨rfl, rfl, (by show WR (A0 46) n2 1 (F66 3204 + 1) (A67 39); exact WR.no c1 (by omega) hz8 (wo_f1 hx1))⟩)
            · refine k_c1 79 rfl rfl (if_neg b74) ?_
              have b74 : ¬ (n71 = 0) := by have h9 := mt iv_eq0.mpr b74; rw [q72] at h9; exact h9
              have ka1 := (ka.oo b74).1
              rw [List.nil_append] at ka1
              refine k_aload 80 rfl (gs_ne rfl rfl (gs_ne rfl rfl (gs_ne rfl rfl g0))) rfl ?_
              refine k_iload 81 rfl (gs_ne rfl rfl (gs_ne rfl rfl gs_eq)) rfl ?_
              refine k_push 82 rfl rfl ?_
              obtain ⟨x105, q106⟩ : ∃ q : Int32, q = x8 + (2 : Int32) := ⟨_, rfl⟩
              have e107 : x105.toInt = (frd (Av 37) + 2) := bx_add q106 e16 hc21 (by omega) (by omega)
              refine k_bin x105 83 rfl q106.symm rfl ?_
              refine k_iload 85 rfl (gs_ne rfl rfl gs_eq) rfl ?_
              refine k_iload 87 rfl gs_eq rfl ?_
              refine k_xq I68 rfl (n_X2_putIn_37 e107 e33 e44  (by exact f32a) (by exact f33a) (by omega) (fun q => by rw [ak1]; exact hC9 q) I68.1) rfl rfl rfl (I68.T.rc oc32 rfl) L69 (xo_r I68 oc32 so_n) ?_
              rintro x108 h109 c110 s111 F112 A113 I114 L115 e116
              have z119 := iv_01 (x := x108) (e116.1)
              obtain ⟨n117, q118⟩ : ∃ n : Int, x108.toInt = n := ⟨_, rfl⟩
              try rw [q118] at e116
              show am_Ok _ _ _ (90, _, [.inl x108, .inr (.inr (some 32))], _, c110, s111) _
              obtain ⟨pz, pa, pf, pr9⟩ := e116
              rw [ak1, wo_s1 hz4 (by omega) hb1, wo_s2 hz4 hb1 hb2, ka1] at pa
              have ak2 : A113 37 = Av 37 := (pr9 37 (by decide) (by decide) (by decide)).trans ak1
              have al2 : (A113 37).length = (Av 37).length := by rw [ak2]
              have f32b : F112 3202 = 37 := by rw [pf]; exact f32a
              have f33b : F112 3203 = 39 := by rw [pf]; exact f33a
              by_cases b120 : x108 = 0
              · refine k_c1 109 rfl rfl (if_pos b120) ?_
                have b120 : n117 = 0 := by have h9 := iv_eq0.mp b120; rw [q118] at h9; exact h9
                have hx2 := pa.zz b120
                refine k_push 110 rfl rfl ?_
                have hc121 : (1 : Int32).toInt = 1 := by decide
                refine k_goto 114 rfl rfl ?_
                have hx4 : (F112) 3204 = Fv 3204 := (congrFun pf 3204).trans (congrFun kf 3204)
                refine x_pZ (fx_ok := fx_no rfl) I114 117 rfl oc32 rfl rfl rfl (Or.inr rfl) rfl (fun h122 I123 l124 => ?_)
                have L125 := okL_eq l124 L115
                have I126 : xI h0 (ob_P h0) h122 c110 s111 (up1 F112 3205 (1)) A113 := by have h9 := I123; rw [hc121] at h9; exact h9
                refine k_aload 118 rfl (gs_ne rfl rfl (gs_ne rfl rfl (gs_ne rfl rfl g0))) rfl ?_
                refine x_gO (τ := 3) I126 121 rfl oc32 rfl rfl rfl rfl (fun r127 (e128 : (r127 : Int) = F112 3202) o129 => ?_)
                obtain rfl : r127 = 37 := by omega
                refine k_astore 123 rfl rfl ?_
                refine k_aload 124 rfl (gs_ne rfl rfl (gs_ne rfl rfl (gs_ne rfl rfl (gs_ne rfl rfl g0)))) rfl ?_
                refine k_aload 125 rfl (gs_ne rfl rfl (gs_ne rfl rfl (gs_ne rfl rfl (gs_ne rfl rfl g0)))) rfl ?_
                refine x_gO (τ := 3) I126 128 rfl oc32 rfl rfl rfl rfl (fun r130 (e131 : (r130 : Int) = F112 3203) o132 => ?_)
                obtain rfl : r130 = 39 := by omega
                refine x_pO (τ := 3) (fx_ok := fx_no rfl) I126 131 rfl oc32 rfl rfl rfl ol39 rfl (fun h133 I134 l135 => ?_)
                have L136 := okL_eq l135 (okL_set (i := 6) (v := .inr (.inr (some 37))) (xo_v I126 ol37) L125)
                refine k_aload 132 rfl (gs_ne rfl rfl (gs_ne rfl rfl (gs_ne rfl rfl (gs_ne rfl rfl g0)))) rfl ?_
                refine k_aload 134 rfl gs_eq rfl ?_
                refine x_pO (τ := 3) (fx_ok := fx_no rfl) I134 137 rfl oc32 rfl rfl rfl ol37 rfl (fun h137 I138 l139 => ?_)
                have L140 := okL_eq l139 L136
                refine k_aload 138 rfl (gs_ne rfl rfl (gs_ne rfl rfl (gs_ne rfl rfl (gs_ne rfl rfl g0)))) rfl ?_
                refine k_dup 139 rfl rfl rfl ?_
                refine x_gI I138 142 rfl oc32 rfl rfl rfl rfl (fun x141 (e142 : x141.toInt = F112 3204) => ?_)
                refine k_push 143 rfl rfl ?_
                obtain ⟨x143, q144⟩ : ∃ q : Int32, q = x141 + (1 : Int32) := ⟨_, rfl⟩
                have e145 : x143.toInt = (F112 3204 + 1) := bx_add q144 e142 hc121 (by omega) (by omega)
                refine k_bin x143 144 rfl q144.symm rfl ?_
                refine x_pI (fx_ok := fx_no rfl) I138 147 rfl oc32 rfl rfl rfl rfl (fun h146 I147 l148 => ?_)
                have L149 := okL_eq l148 L140
                have I150 : xI h0 (ob_P h0) h146 c110 s111 (up1 ((up1 ((up1 (up1 F112 3205 (1)) 3202 ((39 : Nat) : Int))) 3203 ((37 : Nat) : Int))) 3204 ((F112 3204 + 1))) A113 := by have h9 := I147; rw [e145] at h9; exact h9
                refine k_goto 18 rfl rfl ?_
                exact ih _ (by show (201 - (F112 3204 + 1)).toNat < n; omega)  (Fv := (up1 ((up1 ((up1 (up1 F112 3205 (1)) 3202 ((39 : Nat) : Int))) 3203 ((37 : Nat) : Int))) 3204 ((F112 3204 + 1)))) (Av := A113) (v2 := v2) rfl (gs_ne rfl rfl (gs_ne rfl rfl (gs_ne rfl rfl (gs_ne rfl rfl g0)))) (gs_ne rfl rfl (gs_ne rfl rfl (gs_ne rfl rfl (gs_ne rfl rfl g1)))) (gs_ne rfl rfl (gs_ne rfl rfl (gs_ne rfl rfl (gs_ne rfl rfl g2)))) hv2 I150 L149 ((by show v2 = n2 ∧ 0 ≤ F112 3204 + 1 ∧ F112 3204 + 1 ≤ n2; omega)) (⟨(pr9 2 (by decide) (by decide) (by decide)).trans ((kr 2 (by decide)).trans ((upl_ne (by decide)).trans i2.1)), (pr9 46 (by decide) (by decide) (by decide)).trans ((kr 46 (by decide)).trans ((upl_ne (by decide)).trans i2.2))⟩) (Or.inr ⟨rfl, rfl, (by show WR (A0 46) n2 1 (F112 3204 + 1) (A113 39); exact WR.no c1 (by omega) hz8 (wo_f2 hx2))⟩)
              · refine k_c1 93 rfl rfl (if_neg b120) ?_
                have b120 : ¬ (n117 = 0) := by have h9 := mt iv_eq0.mpr b120; rw [q118] at h9; exact h9
                have pa1 := (pa.oo b120).1
                refine k_aload 94 rfl (gs_ne rfl rfl (gs_ne rfl rfl (gs_ne rfl rfl g0))) rfl ?_
                refine k_iload 96 rfl gs_eq rfl ?_
                refine k_aload 97 rfl (gs_ne rfl rfl (gs_ne rfl rfl (gs_ne rfl rfl g0))) rfl ?_
                refine x_gO (τ := 3) I114 100 rfl oc32 rfl rfl rfl rfl (fun r151 (e152 : (r151 : Int) = F112 3202) o153 => ?_)
                obtain rfl : r151 = 37 := by omega
                refine k_xq I114 rfl (xv_size I114.1 or37) rfl rfl rfl (ty_H.rc3 I114.T or37) L115 (so_i (xo_r I114 oc32 (xo_r I114 oc32 so_n))) ?_
                rintro x154 h155 c156 s157 F158 A159 I160 L161 ⟨e162, k163, k164⟩
                replace k163 := k163.symm
                subst k163
                replace k164 := k164.symm
                subst k164
                show am_Ok _ _ _ (103, _, [.inl x154, .inl x36, .inr (.inr (some 32)), .inr (.inr (some 32))], _, c156, s157) _
                refine k_xq I160 rfl (n_X2_keep_37 e44 e162  (by exact f32b) (by exact f33b) (by omega) I160.1) rfl rfl rfl (I160.T.rc oc32 rfl) L161 (xo_r I160 oc32 so_n) ?_
                rintro x165 h166 c167 s168 F169 A170 I171 L172 e173
                have z176 := iv_01 (x := x165) (e173.1)
                obtain ⟨n174, q175⟩ : ∃ n : Int, x165.toInt = n := ⟨_, rfl⟩
                try rw [q175] at e173
                show am_Ok _ _ _ (106, _, [.inl x165, .inr (.inr (some 32))], _, c167, s168) _
                obtain ⟨qz, qa, qf, qr⟩ := e173
                rw [ak2, wo_s3 hz4 hb2 rfl, pa1] at qa
                have f32c : F169 3202 = 37 := by rw [qf]; exact f32b
                have f33c : F169 3203 = 39 := by rw [qf]; exact f33b
                by_cases b177 : x165 = 0
                · refine k_c1 109 rfl rfl (if_pos b177) ?_
                  have b177 : n174 = 0 := by have h9 := iv_eq0.mp b177; rw [q175] at h9; exact h9
                  have hx3 := qa.zz b177
                  refine k_push 110 rfl rfl ?_
                  have hc178 : (1 : Int32).toInt = 1 := by decide
                  refine k_goto 114 rfl rfl ?_
                  have hx4 : (F169) 3204 = Fv 3204 := (congrFun qf 3204).trans ((congrFun pf 3204).trans (congrFun kf 3204))
                  refine x_pZ (fx_ok := fx_no rfl) I171 117 rfl oc32 rfl rfl rfl (Or.inr rfl) rfl (fun h179 I180 l181 => ?_)
                  have L182 := okL_eq l181 L172
                  have I183 : xI h0 (ob_P h0) h179 c167 s168 (up1 F169 3205 (1)) A170 := by have h9 := I180; rw [hc178] at h9; exact h9
                  refine k_aload 118 rfl (gs_ne rfl rfl (gs_ne rfl rfl (gs_ne rfl rfl g0))) rfl ?_
                  refine x_gO (τ := 3) I183 121 rfl oc32 rfl rfl rfl rfl (fun r184 (e185 : (r184 : Int) = F169 3202) o186 => ?_)
                  obtain rfl : r184 = 37 := by omega
                  refine k_astore 123 rfl rfl ?_
                  refine k_aload 124 rfl (gs_ne rfl rfl (gs_ne rfl rfl (gs_ne rfl rfl (gs_ne rfl rfl g0)))) rfl ?_
                  refine k_aload 125 rfl (gs_ne rfl rfl (gs_ne rfl rfl (gs_ne rfl rfl (gs_ne rfl rfl g0)))) rfl ?_
                  refine x_gO (τ := 3) I183 128 rfl oc32 rfl rfl rfl rfl (fun r187 (e188 : (r187 : Int) = F169 3203) o189 => ?_)
                  obtain rfl : r187 = 39 := by omega
                  refine x_pO (τ := 3) (fx_ok := fx_no rfl) I183 131 rfl oc32 rfl rfl rfl ol39 rfl (fun h190 I191 l192 => ?_)
                  have L193 := okL_eq l192 (okL_set (i := 6) (v := .inr (.inr (some 37))) (xo_v I183 ol37) L182)
                  refine k_aload 132 rfl (gs_ne rfl rfl (gs_ne rfl rfl (gs_ne rfl rfl (gs_ne rfl rfl g0)))) rfl ?_
                  refine k_aload 134 rfl gs_eq rfl ?_
                  refine x_pO (τ := 3) (fx_ok := fx_no rfl) I191 137 rfl oc32 rfl rfl rfl ol37 rfl (fun h194 I195 l196 => ?_)
                  have L197 := okL_eq l196 L193
                  refine k_aload 138 rfl (gs_ne rfl rfl (gs_ne rfl rfl (gs_ne rfl rfl (gs_ne rfl rfl g0)))) rfl ?_
                  refine k_dup 139 rfl rfl rfl ?_
                  refine x_gI I195 142 rfl oc32 rfl rfl rfl rfl (fun x198 (e199 : x198.toInt = F169 3204) => ?_)
                  refine k_push 143 rfl rfl ?_
                  obtain ⟨x200, q201⟩ : ∃ q : Int32, q = x198 + (1 : Int32) := ⟨_, rfl⟩
                  have e202 : x200.toInt = (F169 3204 + 1) := bx_add q201 e199 hc178 (by omega) (by omega)
                  refine k_bin x200 144 rfl q201.symm rfl ?_
                  refine x_pI (fx_ok := fx_no rfl) I195 147 rfl oc32 rfl rfl rfl rfl (fun h203 I204 l205 => ?_)
                  have L206 := okL_eq l205 L197
                  have I207 : xI h0 (ob_P h0) h203 c167 s168 (up1 ((up1 ((up1 (up1 F169 3205 (1)) 3202 ((39 : Nat) : Int))) 3203 ((37 : Nat) : Int))) 3204 ((F169 3204 + 1))) A170 := by have h9 := I204; rw [e202] at h9; exact h9
                  refine k_goto 18 rfl rfl ?_
                  exact ih _ (by show (201 - (F169 3204 + 1)).toNat < n; omega)  (Fv := (up1 ((up1 ((up1 (up1 F169 3205 (1)) 3202 ((39 : Nat) : Int))) 3203 ((37 : Nat) : Int))) 3204 ((F169 3204 + 1)))) (Av := A170) (v2 := v2) rfl (gs_ne rfl rfl (gs_ne rfl rfl (gs_ne rfl rfl (gs_ne rfl rfl g0)))) (gs_ne rfl rfl (gs_ne rfl rfl (gs_ne rfl rfl (gs_ne rfl rfl g1)))) (gs_ne rfl rfl (gs_ne rfl rfl (gs_ne rfl rfl (gs_ne rfl rfl g2)))) hv2 I207 L206 ((by show v2 = n2 ∧ 0 ≤ F169 3204 + 1 ∧ F169 3204 + 1 ≤ n2; omega)) (⟨(qr 2 (by decide)).trans ((pr9 2 (by decide) (by decide) (by decide)).trans ((kr 2 (by decide)).trans ((upl_ne (by decide)).trans i2.1))), (qr 46 (by decide)).trans ((pr9 46 (by decide) (by decide) (by decide)).trans ((kr 46 (by decide)).trans ((upl_ne (by decide)).trans i2.2)))⟩) (Or.inr ⟨rfl, rfl, (by show WR (A0 46) n2 1 (F169 3204 + 1) (A170 39); exact WR.no c1 (by omega) hz8 (wo_f3 hx3))⟩)
                · refine k_c1 113 rfl rfl (if_neg b177) ?_
                  have b177 : ¬ (n174 = 0) := by have h9 := mt iv_eq0.mpr b177; rw [q175] at h9; exact h9
                  have hx5 := (qa.oo b177).1
                  rw [List.append_assoc] at hx5
                  have hx6 := (qa.oo b177).2
                  rw [hx5] at hx6
                  refine k_push 114 rfl rfl ?_
                  have hx4 : (F169) 3204 = Fv 3204 := (congrFun qf 3204).trans ((congrFun pf 3204).trans (congrFun kf 3204))
                  refine x_pZ (fx_ok := fx_no rfl) I171 117 rfl oc32 rfl rfl rfl (Or.inl rfl) rfl (fun h208 I209 l210 => ?_)
                  have L211 := okL_eq l210 L172
                  have I212 : xI h0 (ob_P h0) h208 c167 s168 (up1 F169 3205 (0)) A170 := by have h9 := I209; rw [hc50] at h9; exact h9
                  refine k_aload 118 rfl (gs_ne rfl rfl (gs_ne rfl rfl (gs_ne rfl rfl g0))) rfl ?_
                  refine x_gO (τ := 3) I212 121 rfl oc32 rfl rfl rfl rfl (fun r213 (e214 : (r213 : Int) = F169 3202) o215 => ?_)
                  obtain rfl : r213 = 37 := by omega
                  refine k_astore 123 rfl rfl ?_
                  refine k_aload 124 rfl (gs_ne rfl rfl (gs_ne rfl rfl (gs_ne rfl rfl (gs_ne rfl rfl g0)))) rfl ?_
                  refine k_aload 125 rfl (gs_ne rfl rfl (gs_ne rfl rfl (gs_ne rfl rfl (gs_ne rfl rfl g0)))) rfl ?_
                  refine x_gO (τ := 3) I212 128 rfl oc32 rfl rfl rfl rfl (fun r216 (e217 : (r216 : Int) = F169 3203) o218 => ?_)
                  obtain rfl : r216 = 39 := by omega
                  refine x_pO (τ := 3) (fx_ok := fx_no rfl) I212 131 rfl oc32 rfl rfl rfl ol39 rfl (fun h219 I220 l221 => ?_)
                  have L222 := okL_eq l221 (okL_set (i := 6) (v := .inr (.inr (some 37))) (xo_v I212 ol37) L211)
                  refine k_aload 132 rfl (gs_ne rfl rfl (gs_ne rfl rfl (gs_ne rfl rfl (gs_ne rfl rfl g0)))) rfl ?_
                  refine k_aload 134 rfl gs_eq rfl ?_
                  refine x_pO (τ := 3) (fx_ok := fx_no rfl) I220 137 rfl oc32 rfl rfl rfl ol37 rfl (fun h223 I224 l225 => ?_)
                  have L226 := okL_eq l225 L222
                  refine k_aload 138 rfl (gs_ne rfl rfl (gs_ne rfl rfl (gs_ne rfl rfl (gs_ne rfl rfl g0)))) rfl ?_
                  refine k_dup 139 rfl rfl rfl ?_
                  refine x_gI I224 142 rfl oc32 rfl rfl rfl rfl (fun x227 (e228 : x227.toInt = F169 3204) => ?_)
                  refine k_push 143 rfl rfl ?_
                  have hc229 : (1 : Int32).toInt = 1 := by decide
                  obtain ⟨x230, q231⟩ : ∃ q : Int32, q = x227 + (1 : Int32) := ⟨_, rfl⟩
                  have e232 : x230.toInt = (F169 3204 + 1) := bx_add q231 e228 hc229 (by omega) (by omega)
                  refine k_bin x230 144 rfl q231.symm rfl ?_
                  refine x_pI (fx_ok := fx_no rfl) I224 147 rfl oc32 rfl rfl rfl rfl (fun h233 I234 l235 => ?_)
                  have L236 := okL_eq l235 L226
                  have I237 : xI h0 (ob_P h0) h233 c167 s168 (up1 ((up1 ((up1 (up1 F169 3205 (0)) 3202 ((39 : Nat) : Int))) 3203 ((37 : Nat) : Int))) 3204 ((F169 3204 + 1))) A170 := by have h9 := I234; rw [e232] at h9; exact h9
                  refine k_goto 18 rfl rfl ?_
                  exact ih _ (by show (201 - (F169 3204 + 1)).toNat < n; omega)  (Fv := (up1 ((up1 ((up1 (up1 F169 3205 (0)) 3202 ((39 : Nat) : Int))) 3203 ((37 : Nat) : Int))) 3204 ((F169 3204 + 1)))) (Av := A170) (v2 := v2) rfl (gs_ne rfl rfl (gs_ne rfl rfl (gs_ne rfl rfl (gs_ne rfl rfl g0)))) (gs_ne rfl rfl (gs_ne rfl rfl (gs_ne rfl rfl (gs_ne rfl rfl g1)))) (gs_ne rfl rfl (gs_ne rfl rfl (gs_ne rfl rfl (gs_ne rfl rfl g2)))) hv2 I237 L236 ((by show v2 = n2 ∧ 0 ≤ F169 3204 + 1 ∧ F169 3204 + 1 ≤ n2; omega)) (⟨(qr 2 (by decide)).trans ((pr9 2 (by decide) (by decide) (by decide)).trans ((kr 2 (by decide)).trans ((upl_ne (by decide)).trans i2.1))), (qr 46 (by decide)).trans ((pr9 46 (by decide) (by decide) (by decide)).trans ((kr 46 (by decide)).trans ((upl_ne (by decide)).trans i2.2)))⟩) (Or.inr ⟨rfl, rfl, (by show WR (A0 46) n2 0 (F169 3204 + 1) (A170 39); rw [hx4, hx5]; exact WR.ok c1 c2 c3 c4 (by omega) hz8 hx6)⟩)
        · refine k_c1 150 rfl rfl (if_neg b7) ?_
          have b7 : ¬ (Fv 3205 = 0) := by have h9 := mt iv_eq0.mpr b7; rw [e5] at h9; exact h9
          exact k_fin rfl rfl ⟨_, _, _, _, _, rfl, hI, (by show WOQ (A0 46) n2 Fv Av ∧ Av 2 = A0 2 ∧ Av 46 = A0 46; exact ⟨Or.inl ⟨f32, f33, hw9.end2 b7⟩, i2.1, i2.2⟩)⟩
    · refine k_aload 19 rfl g0 rfl ?_
      refine x_gI hI 22 rfl oc32 rfl rfl rfl rfl (fun x238 (e239 : x238.toInt = Fv 3204) => ?_)
      refine k_iload 23 rfl g2 rfl ?_
      by_cases b240 : u2 ≤ x238
      · refine k_c2 150 rfl rfl (if_pos b240) ?_
        have b240 : v2 ≤ Fv 3204 := by have h9 := iv_le.mp b240; rw [e239] at h9; rw [hv2] at h9; exact h9
        exact k_fin rfl rfl ⟨_, _, _, _, _, rfl, hI, (by show WOQ (A0 46) n2 Fv Av ∧ Av 2 = A0 2 ∧ Av 46 = A0 46; exact ⟨Or.inr ⟨f32, f33, hw9.end1 (by omega)⟩, i2.1, i2.2⟩)⟩
      · refine k_c2 26 rfl rfl (if_neg b240) ?_
        have b240 : ¬ (v2 ≤ Fv 3204) := by have h9 := mt iv_le.mpr b240; rw [e239] at h9; rw [hv2] at h9; exact h9
        refine k_aload 27 rfl g0 rfl ?_
        refine x_gZ hI 30 rfl oc32 rfl rfl rfl rfl (fun x241 (e242 : x241.toInt = Fv 3205) z243 => ?_)
        by_cases b244 : x241 = 0
        · refine k_c1 33 rfl rfl (if_pos b244) ?_
          have b244 : Fv 3205 = 0 := by have h9 := iv_eq0.mp b244; rw [e242] at h9; exact h9
          obtain ⟨c1, c2, c3, c4⟩ := hw9.get b244
          refine k_aload 34 rfl g0 rfl ?_
          refine k_xq hI rfl (n_X2_firstRedex_39   (by exact f32) hI.1) rfl rfl rfl (hI.T.rc oc32 rfl) hL so_n ?_
          rintro x245 h246 c247 s248 F249 A250 I251 L252 ⟨e253, k254, k255⟩
          replace k254 : F249 = Fv := k254
          replace k255 : A250 = Av := k255
          replace e253 : x245.toInt = frd (Av 39) := e253
          replace k254 := k254.symm
          subst k254
          replace k255 := k255.symm
          subst k255
          show am_Ok _ _ _ (37, _, [.inl x245], _, c247, s248) _
          refine k_istore 38 rfl rfl ?_
          refine k_iload 39 rfl gs_eq rfl ?_
          refine k_push 40 rfl rfl ?_
          have hc256 : (-1 : Int32).toInt = -1 := by decide
          by_cases b257 : x245 = (-1 : Int32)
          · refine k_c2 43 rfl rfl (if_pos b257) ?_
            have b257 : frd (Av 39) = (-1) := by have h9 := iv_eq.mp b257; rw [e253] at h9; rw [hc256] at h9; exact h9
            exact k_fin rfl rfl ⟨_, _, _, _, _, rfl, I251, (by show WOQ (A0 46) n2 Fv Av ∧ Av 2 = A0 2 ∧ Av 46 = A0 46; exact ⟨Or.inr ⟨f32, f33, Or.inl ⟨b244, c1.stop (by omega) (by omega)⟩⟩, i2.1, i2.2⟩)⟩
          · refine k_c2 44 rfl rfl (if_neg b257) ?_
            have b257 : ¬ (frd (Av 39) = (-1)) := by have h9 := mt iv_eq.mpr b257; rw [e253] at h9; rw [hc256] at h9; exact h9
            obtain ⟨gq9, hz1, hz2, hz3⟩ := frd_y (l := Av 39) (by have h9 := frd_ge (l := Av 39); omega)
            obtain ⟨gp9, gb9, ga9, gz9, hz4, hz5, hz6, hz7, hz8⟩ := RD.ex c2 (fun z9 h9 => (c3 z9 h9).1) hz2 hz3
            have hlR : (Av 39).length = gp9.length + gb9.length + ga9.length + gz9.length + 2 := by rw [hz4]; exact wo_len
            have hC9 : ∀ q : Int, 0 ≤ gl (Av 39) q ∧ gl (Av 39) q ≤ 1000000 := fun q => by have h9 := gl_bd c3 (by omega) q; omega
            refine k_aload 45 rfl (gs_ne rfl rfl g0) rfl ?_
            refine k_iload 46 rfl gs_eq rfl ?_
            refine k_push 47 rfl rfl ?_
            have hc258 : (2 : Int32).toInt = 2 := by decide
            obtain ⟨x259, q260⟩ : ∃ q : Int32, q = x245 + (2 : Int32) := ⟨_, rfl⟩
            have e261 : x259.toInt = (frd (Av 39) + 2) := bx_add q260 e253 hc258 (by omega) (by omega)
            refine k_bin x259 48 rfl q260.symm rfl ?_
            refine k_xq I251 rfl (n_X2_behindTerm_39 e261  (by exact f32) (by omega) I251.1) rfl rfl rfl (I251.T.rc oc32 rfl) (okL_set (i := 3) (v := .inl x245) rfl L252) so_n ?_
            rintro x262 h263 c264 s265 F266 A267 I268 L269 ⟨e270, k271, k272⟩
            replace k271 : F266 = Fv := k271
            replace k272 : A267 = Av := k272
            replace e270 : x262.toInt = ((frd (Av 39) + 2) + ((btl ((Av 39).drop ((frd (Av 39) + 2) : Int).toNat) 1 : Nat) : Int)) := e270
            replace k271 := k271.symm
            subst k271
            replace k272 := k272.symm
            subst k272
            show am_Ok _ _ _ (51, _, [.inl x262], _, c264, s265) _
            have hb1 : ((frd (Av 39) + 2) + ((btl ((Av 39).drop ((frd (Av 39) + 2) : Int).toNat) 1 : Nat) : Int)) = (gp9.length : Int) + 2 + (gb9.length : Int) := wo_b1 hz4 hz6 (by omega)
            refine k_istore 53 rfl rfl ?_
            refine k_aload 54 rfl (gs_ne rfl rfl (gs_ne rfl rfl g0)) rfl ?_
            refine k_iload 56 rfl gs_eq rfl ?_
            refine k_xq I268 rfl (n_X2_behindTerm_39 e270  (by exact f32) (by omega) I268.1) rfl rfl rfl (I268.T.rc oc32 rfl) (okL_set (i := 4) (v := .inl x262) rfl L269) so_n ?_
            rintro x273 h274 c275 s276 F277 A278 I279 L280 ⟨e281, k282, k283⟩
            replace k282 : F277 = Fv := k282
            replace k283 : A278 = Av := k283
            replace e281 : x273.toInt = (((frd (Av 39) + 2) + ((btl ((Av 39).drop ((frd (Av 39) + 2) : Int).toNat) 1 : Nat) : Int)) + ((btl ((Av 39).drop (((frd (Av 39) + 2) + ((btl ((Av 39).drop ((frd (Av 39) + 2) : Int).toNat) 1 : Nat) : Int)) : Int).toNat) 1 : Nat) : Int)) := e281
            replace k282 := k282.symm
            subst k282
            replace k283 := k283.symm
            subst k283
            show am_Ok _ _ _ (59, _, [.inl x273], _, c275, s276) _
            have hb2 : (((frd (Av 39) + 2) + ((btl ((Av 39).drop ((frd (Av 39) + 2) : Int).toNat) 1 : Nat) : Int)) + ((btl ((Av 39).drop (((frd (Av 39) + 2) + ((btl ((Av 39).drop ((frd (Av 39) + 2) : Int).toNat) 1 : Nat) : Int)) : Int).toNat) 1 : Nat) : Int)) = (gp9.length : Int) + 2 + (gb9.length : Int) + (ga9.length : Int) := wo_b2 hz4 hz7 hb1
            refine k_istore 61 rfl rfl ?_
            refine k_aload 62 rfl (gs_ne rfl rfl (gs_ne rfl rfl (gs_ne rfl rfl g0))) rfl ?_
            refine x_gO (τ := 3) I279 65 rfl oc32 rfl rfl rfl rfl (fun r284 (e285 : (r284 : Int) = Fv 3203) o286 => ?_)
            obtain rfl : r284 = 37 := by omega
            refine k_push 66 rfl rfl ?_
            have hc287 : (0 : Int32).toInt = 0 := by decide
            refine k_xv I279 rfl (y_cut hc287 I279.1 or37) rfl rfl rfl (ty_H.rc3 I279.T or37) (okL_set (i := 5) (v := .inl x273) rfl L280) so_n ?_
            rintro h289 c290 s291 F292 A293 I294 L295 ⟨k297, k298⟩
            replace k297 := k297.symm
            subst k297
            replace k298 := k298.symm
            subst k298
            show am_Ok _ _ _ (69, _, [], _, c290, s291) _
            refine k_aload 70 rfl (gs_ne rfl rfl (gs_ne rfl rfl (gs_ne rfl rfl g0))) rfl ?_
            refine k_aload 71 rfl (gs_ne rfl rfl (gs_ne rfl rfl (gs_ne rfl rfl g0))) rfl ?_
            refine k_push 72 rfl rfl ?_
            refine k_iload 73 rfl (gs_ne rfl rfl (gs_ne rfl rfl gs_eq)) rfl ?_
            refine k_xq I294 rfl (n_X2_keep_39 hc287 e253  (by exact f32) (by exact f33) (by rw [upl_ne (by decide)]; omega) I294.1) rfl rfl rfl (I294.T.rc oc32 rfl) L295 (xo_r I294 oc32 so_n) ?_
            rintro x299 h300 c301 s302 F303 A304 I305 L306 e307
            have z310 := iv_01 (x := x299) (e307.1)
            obtain ⟨n308, q309⟩ : ∃ n : Int, x299.toInt = n := ⟨_, rfl⟩
            try rw [q309] at e307
            show am_Ok _ _ _ (76, _, [.inl x299, .inr (.inr (some 32))], _, c301, s302) _
            obtain ⟨kz, ka, kf, kr⟩ := e307
            rw [upl_eq, cutl_0, upl_ne (by decide), wo_s0 hz4 (by omega)] at ka
            have ak1 : A304 39 = Av 39 := (kr 39 (by decide)).trans (upl_ne (by decide))
            have al1 : (A304 39).length = (Av 39).length := by rw [ak1]
            have f32a : F303 3202 = 39 := by rw [kf]; exact f32
            have f33a : F303 3203 = 37 := by rw [kf]; exact f33
            by_cases b311 : x299 = 0
            · refine k_c1 109 rfl rfl (if_pos b311) ?_
              have b311 : n308 = 0 := by have h9 := iv_eq0.mp b311; rw [q309] at h9; exact h9
              have hx1 : 1000 < (gp9.length : Int) := by have h9 := ka.zz b311; rw [List.length_nil] at h9; omega
              refine k_push 110 rfl rfl ?_
              have hc312 : (1 : Int32).toInt = 1 := by decide
              refine k_goto 114 rfl rfl ?_
              have hx4 : (F303) 3204 = Fv 3204 := congrFun kf 3204
              refine x_pZ (fx_ok := fx_no rfl) I305 117 rfl oc32 rfl rfl rfl (Or.inr rfl) rfl (fun h313 I314 l315 => ?_)
              have L316 := okL_eq l315 L306
              have I317 : xI h0 (ob_P h0) h313 c301 s302 (up1 F303 3205 (1)) A304 := by have h9 := I314; rw [hc312] at h9; exact h9
              refine k_aload 118 rfl (gs_ne rfl rfl (gs_ne rfl rfl (gs_ne rfl rfl g0))) rfl ?_
              refine x_gO (τ := 3) I317 121 rfl oc32 rfl rfl rfl rfl (fun r318 (e319 : (r318 : Int) = F303 3202) o320 => ?_)
              obtain rfl : r318 = 39 := by omega
              refine k_astore 123 rfl rfl ?_
              refine k_aload 124 rfl (gs_ne rfl rfl (gs_ne rfl rfl (gs_ne rfl rfl (gs_ne rfl rfl g0)))) rfl ?_
              refine k_aload 125 rfl (gs_ne rfl rfl (gs_ne rfl rfl (gs_ne rfl rfl (gs_ne rfl rfl g0)))) rfl ?_
              refine x_gO (τ := 3) I317 128 rfl oc32 rfl rfl rfl rfl (fun r321 (e322 : (r321 : Int) = F303 3203) o323 => ?_)
              obtain rfl : r321 = 37 := by omega
              refine x_pO (τ := 3) (fx_ok := fx_no rfl) I317 131 rfl oc32 rfl rfl rfl ol37 rfl (fun h324 I325 l326 => ?_)
              have L327 := okL_eq l326 (okL_set (i := 6) (v := .inr (.inr (some 39))) (xo_v I317 ol39) L316)
              refine k_aload 132 rfl (gs_ne rfl rfl (gs_ne rfl rfl (gs_ne rfl rfl (gs_ne rfl rfl g0)))) rfl ?_
              refine k_aload 134 rfl gs_eq rfl ?_
              refine x_pO (τ := 3) (fx_ok := fx_no rfl) I325 137 rfl oc32 rfl rfl rfl ol39 rfl (fun h328 I329 l330 => ?_)
              have L331 := okL_eq l330 L327
              refine k_aload 138 rfl (gs_ne rfl rfl (gs_ne rfl rfl (gs_ne rfl rfl (gs_ne rfl rfl g0)))) rfl ?_
              refine k_dup 139 rfl rfl rfl ?_
              refine x_gI I329 142 rfl oc32 rfl rfl rfl rfl (fun x332 (e333 : x332.toInt = F303 3204) => ?_)
              refine k_push 143 rfl rfl ?_
              obtain ⟨x334, q335⟩ : ∃ q : Int32, q = x332 + (1 : Int32) := ⟨_, rfl⟩
              have e336 : x334.toInt = (F303 3204 + 1) := bx_add q335 e333 hc312 (by omega) (by omega)
              refine k_bin x334 144 rfl q335.symm rfl ?_
              refine x_pI (fx_ok := fx_no rfl) I329 147 rfl oc32 rfl rfl rfl rfl (fun h337 I338 l339 => ?_)
              have L340 := okL_eq l339 L331
              have I341 : xI h0 (ob_P h0) h337 c301 s302 (up1 ((up1 ((up1 (up1 F303 3205 (1)) 3202 ((37 : Nat) : Int))) 3203 ((39 : Nat) : Int))) 3204 ((F303 3204 + 1))) A304 := by have h9 := I338; rw [e336] at h9; exact h9
              refine k_goto 18 rfl rfl ?_
              exact ih _ (by show (201 - (F303 3204 + 1)).toNat < n; omega)  (Fv := (up1 ((up1 ((up1 (up1 F303 3205 (1)) 3202 ((37 : Nat) : Int))) 3203 ((39 : Nat) : Int))) 3204 ((F303 3204 + 1)))) (Av := A304) (v2 := v2) rfl (gs_ne rfl rfl (gs_ne rfl rfl (gs_ne rfl rfl (gs_ne rfl rfl g0)))) (gs_ne rfl rfl (gs_ne rfl rfl (gs_ne rfl rfl (gs_ne rfl rfl g1)))) (gs_ne rfl rfl (gs_ne rfl rfl (gs_ne rfl rfl (gs_ne rfl rfl g2)))) hv2 I341 L340 ((by show v2 = n2 ∧ 0 ≤ F303 3204 + 1 ∧ F303 3204 + 1 ≤ n2; omega)) (⟨(kr 2 (by decide)).trans ((upl_ne (by decide)).trans i2.1), (kr 46 (by decide)).trans ((upl_ne (by decide)).trans i2.2)⟩) (Or.inl ⟨rfl, rfl, (by show WR (A0 46) n2 1 (F303 3204 + 1) (A304 37); exact WR.no c1 (by omega) hz8 (wo_f1 hx1))⟩)
            · refine k_c1 79 rfl rfl (if_neg b311) ?_
              have b311 : ¬ (n308 = 0) := by have h9 := mt iv_eq0.mpr b311; rw [q309] at h9; exact h9
              have ka1 := (ka.oo b311).1
              rw [List.nil_append] at ka1
              refine k_aload 80 rfl (gs_ne rfl rfl (gs_ne rfl rfl (gs_ne rfl rfl g0))) rfl ?_
              refine k_iload 81 rfl (gs_ne rfl rfl (gs_ne rfl rfl gs_eq)) rfl ?_
              refine k_push 82 rfl rfl ?_
              obtain ⟨x342, q343⟩ : ∃ q : Int32, q = x245 + (2 : Int32) := ⟨_, rfl⟩
              have e344 : x342.toInt = (frd (Av 39) + 2) := bx_add q343 e253 hc258 (by omega) (by omega)
              refine k_bin x342 83 rfl q343.symm rfl ?_
              refine k_iload 85 rfl (gs_ne rfl rfl gs_eq) rfl ?_
              refine k_iload 87 rfl gs_eq rfl ?_
              refine k_xq I305 rfl (n_X2_putIn_39 e344 e270 e281  (by exact f32a) (by exact f33a) (by omega) (fun q => by rw [ak1]; exact hC9 q) I305.1) rfl rfl rfl (I305.T.rc oc32 rfl) L306 (xo_r I305 oc32 so_n) ?_
              rintro x345 h346 c347 s348 F349 A350 I351 L352 e353
              have z356 := iv_01 (x := x345) (e353.1)
              obtain ⟨n354, q355⟩ : ∃ n : Int, x345.toInt = n := ⟨_, rfl⟩
              try rw [q355] at e353
              show am_Ok _ _ _ (90, _, [.inl x345, .inr (.inr (some 32))], _, c347, s348) _
              obtain ⟨pz, pa, pf, pr9⟩ := e353
              rw [ak1, wo_s1 hz4 (by omega) hb1, wo_s2 hz4 hb1 hb2, ka1] at pa
              have ak2 : A350 39 = Av 39 := (pr9 39 (by decide) (by decide) (by decide)).trans ak1
              have al2 : (A350 39).length = (Av 39).length := by rw [ak2]
              have f32b : F349 3202 = 39 := by rw [pf]; exact f32a
              have f33b : F349 3203 = 37 := by rw [pf]; exact f33a
              by_cases b357 : x345 = 0
              · refine k_c1 109 rfl rfl (if_pos b357) ?_
                have b357 : n354 = 0 := by have h9 := iv_eq0.mp b357; rw [q355] at h9; exact h9
                have hx2 := pa.zz b357
                refine k_push 110 rfl rfl ?_
                have hc358 : (1 : Int32).toInt = 1 := by decide
                refine k_goto 114 rfl rfl ?_
                have hx4 : (F349) 3204 = Fv 3204 := (congrFun pf 3204).trans (congrFun kf 3204)
                refine x_pZ (fx_ok := fx_no rfl) I351 117 rfl oc32 rfl rfl rfl (Or.inr rfl) rfl (fun h359 I360 l361 => ?_)
                have L362 := okL_eq l361 L352
                have I363 : xI h0 (ob_P h0) h359 c347 s348 (up1 F349 3205 (1)) A350 := by have h9 := I360; rw [hc358] at h9; exact h9
                refine k_aload 118 rfl (gs_ne rfl rfl (gs_ne rfl rfl (gs_ne rfl rfl g0))) rfl ?_
                refine x_gO (τ := 3) I363 121 rfl oc32 rfl rfl rfl rfl (fun r364 (e365 : (r364 : Int) = F349 3202) o366 => ?_)
                obtain rfl : r364 = 39 := by omega
                refine k_astore 123 rfl rfl ?_
                refine k_aload 124 rfl (gs_ne rfl rfl (gs_ne rfl rfl (gs_ne rfl rfl (gs_ne rfl rfl g0)))) rfl ?_
                refine k_aload 125 rfl (gs_ne rfl rfl (gs_ne rfl rfl (gs_ne rfl rfl (gs_ne rfl rfl g0)))) rfl ?_
                refine x_gO (τ := 3) I363 128 rfl oc32 rfl rfl rfl rfl (fun r367 (e368 : (r367 : Int) = F349 3203) o369 => ?_)
                obtain rfl : r367 = 37 := by omega
                refine x_pO (τ := 3) (fx_ok := fx_no rfl) I363 131 rfl oc32 rfl rfl rfl ol37 rfl (fun h370 I371 l372 => ?_)
                have L373 := okL_eq l372 (okL_set (i := 6) (v := .inr (.inr (some 39))) (xo_v I363 ol39) L362)
                refine k_aload 132 rfl (gs_ne rfl rfl (gs_ne rfl rfl (gs_ne rfl rfl (gs_ne rfl rfl g0)))) rfl ?_
                refine k_aload 134 rfl gs_eq rfl ?_
                refine x_pO (τ := 3) (fx_ok := fx_no rfl) I371 137 rfl oc32 rfl rfl rfl ol39 rfl (fun h374 I375 l376 => ?_)
                have L377 := okL_eq l376 L373
                refine k_aload 138 rfl (gs_ne rfl rfl (gs_ne rfl rfl (gs_ne rfl rfl (gs_ne rfl rfl g0)))) rfl ?_
                refine k_dup 139 rfl rfl rfl ?_
                refine x_gI I375 142 rfl oc32 rfl rfl rfl rfl (fun x378 (e379 : x378.toInt = F349 3204) => ?_)
                refine k_push 143 rfl rfl ?_
                obtain ⟨x380, q381⟩ : ∃ q : Int32, q = x378 + (1 : Int32) := ⟨_, rfl⟩
                have e382 : x380.toInt = (F349 3204 + 1) := bx_add q381 e379 hc358 (by omega) (by omega)
                refine k_bin x380 144 rfl q381.symm rfl ?_
                refine x_pI (fx_ok := fx_no rfl) I375 147 rfl oc32 rfl rfl rfl rfl (fun h383 I384 l385 => ?_)
                have L386 := okL_eq l385 L377
                have I387 : xI h0 (ob_P h0) h383 c347 s348 (up1 ((up1 ((up1 (up1 F349 3205 (1)) 3202 ((37 : Nat) : Int))) 3203 ((39 : Nat) : Int))) 3204 ((F349 3204 + 1))) A350 := by have h9 := I384; rw [e382] at h9; exact h9
                refine k_goto 18 rfl rfl ?_
                exact ih _ (by show (201 - (F349 3204 + 1)).toNat < n; omega)  (Fv := (up1 ((up1 ((up1 (up1 F349 3205 (1)) 3202 ((37 : Nat) : Int))) 3203 ((39 : Nat) : Int))) 3204 ((F349 3204 + 1)))) (Av := A350) (v2 := v2) rfl (gs_ne rfl rfl (gs_ne rfl rfl (gs_ne rfl rfl (gs_ne rfl rfl g0)))) (gs_ne rfl rfl (gs_ne rfl rfl (gs_ne rfl rfl (gs_ne rfl rfl g1)))) (gs_ne rfl rfl (gs_ne rfl rfl (gs_ne rfl rfl (gs_ne rfl rfl g2)))) hv2 I387 L386 ((by show v2 = n2 ∧ 0 ≤ F349 3204 + 1 ∧ F349 3204 + 1 ≤ n2; omega)) (⟨(pr9 2 (by decide) (by decide) (by decide)).trans ((kr 2 (by decide)).trans ((upl_ne (by decide)).trans i2.1)), (pr9 46 (by decide) (by decide) (by decide)).trans ((kr 46 (by decide)).trans ((upl_ne (by decide)).trans i2.2))⟩) (Or.inl ⟨rfl, rfl, (by show WR (A0 46) n2 1 (F349 3204 + 1) (A350 37); exact WR.no c1 (by omega) hz8 (wo_f2 hx2))⟩)
              · refine k_c1 93 rfl rfl (if_neg b357) ?_
                have b357 : ¬ (n354 = 0) := by have h9 := mt iv_eq0.mpr b357; rw [q355] at h9; exact h9
                have pa1 := (pa.oo b357).1
                refine k_aload 94 rfl (gs_ne rfl rfl (gs_ne rfl rfl (gs_ne rfl rfl g0))) rfl ?_
                refine k_iload 96 rfl gs_eq rfl ?_
                refine k_aload 97 rfl (gs_ne rfl rfl (gs_ne rfl rfl (gs_ne rfl rfl g0))) rfl ?_
                refine x_gO (τ := 3) I351 100 rfl oc32 rfl rfl rfl rfl (fun r388 (e389 : (r388 : Int) = F349 3202) o390 => ?_)
                obtain rfl : r388 = 39 := by omega
                refine k_xq I351 rfl (xv_size I351.1 or39) rfl rfl rfl (ty_H.rc3 I351.T or39) L352 (so_i (xo_r I351 oc32 (xo_r I351 oc32 so_n))) ?_
                rintro x391 h392 c393 s394 F395 A396 I397 L398 ⟨e399, k400, k401⟩
                replace k400 := k400.symm
                subst k400
                replace k401 := k401.symm
                subst k401
                show am_Ok _ _ _ (103, _, [.inl x391, .inl x273, .inr (.inr (some 32)), .inr (.inr (some 32))], _, c393, s394) _
                refine k_xq I397 rfl (n_X2_keep_39 e281 e399  (by exact f32b) (by exact f33b) (by omega) I397.1) rfl rfl rfl (I397.T.rc oc32 rfl) L398 (xo_r I397 oc32 so_n) ?_
                rintro x402 h403 c404 s405 F406 A407 I408 L409 e410
                have z413 := iv_01 (x := x402) (e410.1)
                obtain ⟨n411, q412⟩ : ∃ n : Int, x402.toInt = n := ⟨_, rfl⟩
                try rw [q412] at e410
                show am_Ok _ _ _ (106, _, [.inl x402, .inr (.inr (some 32))], _, c404, s405) _
                obtain ⟨qz, qa, qf, qr⟩ := e410
                rw [ak2, wo_s3 hz4 hb2 rfl, pa1] at qa
                have f32c : F406 3202 = 39 := by rw [qf]; exact f32b
                have f33c : F406 3203 = 37 := by rw [qf]; exact f33b
                by_cases b414 : x402 = 0
                · refine k_c1 109 rfl rfl (if_pos b414) ?_
                  have b414 : n411 = 0 := by have h9 := iv_eq0.mp b414; rw [q412] at h9; exact h9
                  have hx3 := qa.zz b414
                  refine k_push 110 rfl rfl ?_
                  have hc415 : (1 : Int32).toInt = 1 := by decide
                  refine k_goto 114 rfl rfl ?_
                  have hx4 : (F406) 3204 = Fv 3204 := (congrFun qf 3204).trans ((congrFun pf 3204).trans (congrFun kf 3204))
                  refine x_pZ (fx_ok := fx_no rfl) I408 117 rfl oc32 rfl rfl rfl (Or.inr rfl) rfl (fun h416 I417 l418 => ?_)
                  have L419 := okL_eq l418 L409
                  have I420 : xI h0 (ob_P h0) h416 c404 s405 (up1 F406 3205 (1)) A407 := by have h9 := I417; rw [hc415] at h9; exact h9
                  refine k_aload 118 rfl (gs_ne rfl rfl (gs_ne rfl rfl (gs_ne rfl rfl g0))) rfl ?_
                  refine x_gO (τ := 3) I420 121 rfl oc32 rfl rfl rfl rfl (fun r421 (e422 : (r421 : Int) = F406 3202) o423 => ?_)
                  obtain rfl : r421 = 39 := by omega
                  refine k_astore 123 rfl rfl ?_
                  refine k_aload 124 rfl (gs_ne rfl rfl (gs_ne rfl rfl (gs_ne rfl rfl (gs_ne rfl rfl g0)))) rfl ?_
                  refine k_aload 125 rfl (gs_ne rfl rfl (gs_ne rfl rfl (gs_ne rfl rfl (gs_ne rfl rfl g0)))) rfl ?_
                  refine x_gO (τ := 3) I420 128 rfl oc32 rfl rfl rfl rfl (fun r424 (e425 : (r424 : Int) = F406 3203) o426 => ?_)
                  obtain rfl : r424 = 37 := by omega
                  refine x_pO (τ := 3) (fx_ok := fx_no rfl) I420 131 rfl oc32 rfl rfl rfl ol37 rfl (fun h427 I428 l429 => ?_)
                  have L430 := okL_eq l429 (okL_set (i := 6) (v := .inr (.inr (some 39))) (xo_v I420 ol39) L419)
                  refine k_aload 132 rfl (gs_ne rfl rfl (gs_ne rfl rfl (gs_ne rfl rfl (gs_ne rfl rfl g0)))) rfl ?_
                  refine k_aload 134 rfl gs_eq rfl ?_
                  refine x_pO (τ := 3) (fx_ok := fx_no rfl) I428 137 rfl oc32 rfl rfl rfl ol39 rfl (fun h431 I432 l433 => ?_)
                  have L434 := okL_eq l433 L430
                  refine k_aload 138 rfl (gs_ne rfl rfl (gs_ne rfl rfl (gs_ne rfl rfl (gs_ne rfl rfl g0)))) rfl ?_
                  refine k_dup 139 rfl rfl rfl ?_
                  refine x_gI I432 142 rfl oc32 rfl rfl rfl rfl (fun x435 (e436 : x435.toInt = F406 3204) => ?_)
                  refine k_push 143 rfl rfl ?_
                  obtain ⟨x437, q438⟩ : ∃ q : Int32, q = x435 + (1 : Int32) := ⟨_, rfl⟩
                  have e439 : x437.toInt = (F406 3204 + 1) := bx_add q438 e436 hc415 (by omega) (by omega)
                  refine k_bin x437 144 rfl q438.symm rfl ?_
                  refine x_pI (fx_ok := fx_no rfl) I432 147 rfl oc32 rfl rfl rfl rfl (fun h440 I441 l442 => ?_)
                  have L443 := okL_eq l442 L434
                  have I444 : xI h0 (ob_P h0) h440 c404 s405 (up1 ((up1 ((up1 (up1 F406 3205 (1)) 3202 ((37 : Nat) : Int))) 3203 ((39 : Nat) : Int))) 3204 ((F406 3204 + 1))) A407 := by have h9 := I441; rw [e439] at h9; exact h9
                  refine k_goto 18 rfl rfl ?_
                  exact ih _ (by show (201 - (F406 3204 + 1)).toNat < n; omega)  (Fv := (up1 ((up1 ((up1 (up1 F406 3205 (1)) 3202 ((37 : Nat) : Int))) 3203 ((39 : Nat) : Int))) 3204 ((F406 3204 + 1)))) (Av := A407) (v2 := v2) rfl (gs_ne rfl rfl (gs_ne rfl rfl (gs_ne rfl rfl (gs_ne rfl rfl g0)))) (gs_ne rfl rfl (gs_ne rfl rfl (gs_ne rfl rfl (gs_ne rfl rfl g1)))) (gs_ne rfl rfl (gs_ne rfl rfl (gs_ne rfl rfl (gs_ne rfl rfl g2)))) hv2 I444 L443 ((by show v2 = n2 ∧ 0 ≤ F406 3204 + 1 ∧ F406 3204 + 1 ≤ n2; omega)) (⟨(qr 2 (by decide)).trans ((pr9 2 (by decide) (by decide) (by decide)).trans ((kr 2 (by decide)).trans ((upl_ne (by decide)).trans i2.1))), (qr 46 (by decide)).trans ((pr9 46 (by decide) (by decide) (by decide)).trans ((kr 46 (by decide)).trans ((upl_ne (by decide)).trans i2.2)))⟩) (Or.inl ⟨rfl, rfl, (by show WR (A0 46) n2 1 (F406 3204 + 1) (A407 37); exact WR.no c1 (by omega) hz8 (wo_f3 hx3))⟩)
                · refine k_c1 113 rfl rfl (if_neg b414) ?_
                  have b414 : ¬ (n411 = 0) := by have h9 := mt iv_eq0.mpr b414; rw [q412] at h9; exact h9
                  have hx5 := (qa.oo b414).1
                  rw [List.append_assoc] at hx5
                  have hx6 := (qa.oo b414).2
                  rw [hx5] at hx6
                  refine k_push 114 rfl rfl ?_
                  have hx4 : (F406) 3204 = Fv 3204 := (congrFun qf 3204).trans ((congrFun pf 3204).trans (congrFun kf 3204))
                  refine x_pZ (fx_ok := fx_no rfl) I408 117 rfl oc32 rfl rfl rfl (Or.inl rfl) rfl (fun h445 I446 l447 => ?_)
                  have L448 := okL_eq l447 L409
                  have I449 : xI h0 (ob_P h0) h445 c404 s405 (up1 F406 3205 (0)) A407 := by have h9 := I446; rw [hc287] at h9; exact h9
                  refine k_aload 118 rfl (gs_ne rfl rfl (gs_ne rfl rfl (gs_ne rfl rfl g0))) rfl ?_
                  refine x_gO (τ := 3) I449 121 rfl oc32 rfl rfl rfl rfl (fun r450 (e451 : (r450 : Int) = F406 3202) o452 => ?_)
                  obtain rfl : r450 = 39 := by omega
                  refine k_astore 123 rfl rfl ?_
                  refine k_aload 124 rfl (gs_ne rfl rfl (gs_ne rfl rfl (gs_ne rfl rfl (gs_ne rfl rfl g0)))) rfl ?_
                  refine k_aload 125 rfl (gs_ne rfl rfl (gs_ne rfl rfl (gs_ne rfl rfl (gs_ne rfl rfl g0)))) rfl ?_
                  refine x_gO (τ := 3) I449 128 rfl oc32 rfl rfl rfl rfl (fun r453 (e454 : (r453 : Int) = F406 3203) o455 => ?_)
                  obtain rfl : r453 = 37 := by omega
                  refine x_pO (τ := 3) (fx_ok := fx_no rfl) I449 131 rfl oc32 rfl rfl rfl ol37 rfl (fun h456 I457 l458 => ?_)
                  have L459 := okL_eq l458 (okL_set (i := 6) (v := .inr (.inr (some 39))) (xo_v I449 ol39) L448)
                  refine k_aload 132 rfl (gs_ne rfl rfl (gs_ne rfl rfl (gs_ne rfl rfl (gs_ne rfl rfl g0)))) rfl ?_
                  refine k_aload 134 rfl gs_eq rfl ?_
                  refine x_pO (τ := 3) (fx_ok := fx_no rfl) I457 137 rfl oc32 rfl rfl rfl ol39 rfl (fun h460 I461 l462 => ?_)
                  have L463 := okL_eq l462 L459
                  refine k_aload 138 rfl (gs_ne rfl rfl (gs_ne rfl rfl (gs_ne rfl rfl (gs_ne rfl rfl g0)))) rfl ?_
                  refine k_dup 139 rfl rfl rfl ?_
                  refine x_gI I461 142 rfl oc32 rfl rfl rfl rfl (fun x464 (e465 : x464.toInt = F406 3204) => ?_)
                  refine k_push 143 rfl rfl ?_
                  have hc466 : (1 : Int32).toInt = 1 := by decide
                  obtain ⟨x467, q468⟩ : ∃ q : Int32, q = x464 + (1 : Int32) := ⟨_, rfl⟩
                  have e469 : x467.toInt = (F406 3204 + 1) := bx_add q468 e465 hc466 (by omega) (by omega)
                  refine k_bin x467 144 rfl q468.symm rfl ?_
                  refine x_pI (fx_ok := fx_no rfl) I461 147 rfl oc32 rfl rfl rfl rfl (fun h470 I471 l472 => ?_)
                  have L473 := okL_eq l472 L463
                  have I474 : xI h0 (ob_P h0) h470 c404 s405 (up1 ((up1 ((up1 (up1 F406 3205 (0)) 3202 ((37 : Nat) : Int))) 3203 ((39 : Nat) : Int))) 3204 ((F406 3204 + 1))) A407 := by have h9 := I471; rw [e469] at h9; exact h9
                  refine k_goto 18 rfl rfl ?_
                  exact ih _ (by show (201 - (F406 3204 + 1)).toNat < n; omega)  (Fv := (up1 ((up1 ((up1 (up1 F406 3205 (0)) 3202 ((37 : Nat) : Int))) 3203 ((39 : Nat) : Int))) 3204 ((F406 3204 + 1)))) (Av := A407) (v2 := v2) rfl (gs_ne rfl rfl (gs_ne rfl rfl (gs_ne rfl rfl (gs_ne rfl rfl g0)))) (gs_ne rfl rfl (gs_ne rfl rfl (gs_ne rfl rfl (gs_ne rfl rfl g1)))) (gs_ne rfl rfl (gs_ne rfl rfl (gs_ne rfl rfl (gs_ne rfl rfl g2)))) hv2 I474 L473 ((by show v2 = n2 ∧ 0 ≤ F406 3204 + 1 ∧ F406 3204 + 1 ≤ n2; omega)) (⟨(qr 2 (by decide)).trans ((pr9 2 (by decide) (by decide) (by decide)).trans ((kr 2 (by decide)).trans ((upl_ne (by decide)).trans i2.1))), (qr 46 (by decide)).trans ((pr9 46 (by decide) (by decide) (by decide)).trans ((kr 46 (by decide)).trans ((upl_ne (by decide)).trans i2.2)))⟩) (Or.inl ⟨rfl, rfl, (by show WR (A0 46) n2 0 (F406 3204 + 1) (A407 37); rw [hx4, hx5]; exact WR.ok c1 c2 c3 c4 (by omega) hz8 hx6)⟩)
        · refine k_c1 150 rfl rfl (if_neg b244) ?_
          have b244 : ¬ (Fv 3205 = 0) := by have h9 := mt iv_eq0.mpr b244; rw [e242] at h9; exact h9
          exact k_fin rfl rfl ⟨_, _, _, _, _, rfl, hI, (by show WOQ (A0 46) n2 Fv Av ∧ Av 2 = A0 2 ∧ Av 46 = A0 46; exact ⟨Or.inr ⟨f32, f33, hw9.end2 b244⟩, i2.1, i2.2⟩)⟩
theorem n_X2_workOff_39 {h0 : am_h} {F0 : rf_f} {A0 : xl_A} {w2 : Int32} {n2 : Int} (hn2 : w2.toInt = n2)  (hn : F0 3202 = 39) (hs : F0 3203 = 37) (pL : (A0 46).length ≤ 120) (pw : wL (A0 46)) (pc9 : ∀ x, x ∈ A0 46 → 0 ≤ x ∧ x ≤ 200) (pm : 0 ≤ n2 ∧ n2 ≤ 200) (hR : xR h0 F0 A0) : am_Mt 6 41 [.inr (.inr (some 32)), .inr (.inr (some 46)), .inl w2] h0 (xV h0 (fun F' A' => WOQ (A0 46) n2 F' A' ∧ A' 2 = A0 2 ∧ A' 46 = A0 46)) := by
  refine am_Mt.of (D := 5) ?_
  have hI : xI h0 (ob_P h0) h0 0 0 F0 A0 := xI.start hR
  have hL : am_okL h0.length (am_args 0 [.inr (.inr (some 32)), .inr (.inr (some 46)), .inl w2]) = true := (okA_r hI.T oc32 (okA_r hI.T ol46 (okA_i okA_n)))
  refine k_aload 1 rfl rfl rfl ?_
  refine x_gO (τ := 3) hI 4 rfl oc32 rfl rfl rfl rfl (fun r475 (e476 : (r475 : Int) = F0 3202) o477 => ?_)
  obtain rfl : r475 = 39 := by omega
  refine k_aload 5 rfl rfl rfl ?_
  refine k_xv hI rfl (xw_copy hI.1 or39 or46 (by rw [mo39]; omega)) rfl rfl rfl (ty_H.rc3 hI.T or39) hL so_n ?_
  rintro h479 c480 s481 F482 A483 I484 L485 ⟨k487, k488⟩
  replace k487 := k487.symm
  subst k487
  replace k488 := k488.symm
  subst k488
  show am_Ok _ _ _ (8, _, [], _, c480, s481) _
  refine k_aload 9 rfl rfl rfl ?_
  refine k_push 10 rfl rfl ?_
  have hc489 : (0 : Int32).toInt = 0 := by decide
  refine x_pI (fx_ok := fx_no rfl) I484 13 rfl oc32 rfl rfl rfl rfl (fun h490 I491 l492 => ?_)
  have L493 := okL_eq l492 L485
  have I494 : xI h0 (ob_P h0) h490 c480 s481 (up1 F0 3204 (0)) (upl A0 39 (A0 46)) := by have h9 := I491; rw [hc489] at h9; exact h9
  refine k_aload 14 rfl rfl rfl ?_
  refine k_push 15 rfl rfl ?_
  refine x_pZ (fx_ok := fx_no rfl) I494 18 rfl oc32 rfl rfl rfl (Or.inl rfl) rfl (fun h495 I496 l497 => ?_)
  have L498 := okL_eq l497 L493
  have I499 : xI h0 (ob_P h0) h495 c480 s481 (up1 (up1 F0 3204 (0)) 3205 (0)) (upl A0 39 (A0 46)) := by have h9 := I496; rw [hc489] at h9; exact h9
  exact yl_X2_workOff_39_18 hn2  hn hs pL pw pc9 pm _  (Fv := (up1 (up1 F0 3204 (0)) 3205 (0))) (Av := (upl A0 39 (A0 46))) (v2 := n2) rfl rfl rfl rfl hn2 I499 L498 (⟨rfl, Int.le_refl 0, pm.1⟩) (⟨upl_ne (by decide), upl_ne (by decide)⟩) (Or.inr ⟨hn, hs, (by show WR (A0 46) n2 0 0 (A0 46); exact Or.inl ⟨rfl, PLG.z, pw, fun x hx => (by have h9 := pc9 x hx; omega), (by omega)⟩)⟩)
theorem n_X2_tooMany {h0 : am_h} {F0 : rf_f} {A0 : xl_A}    (hR : xR h0 F0 A0) : am_Mt 1 39 [.inr (.inr (some 32))] h0 (xQ h0 (fun x F' A' => ((x : Int) = 0 ∨ (x : Int) = 1) ∧ (x : Int) = F0 3205 ∧ F' = F0 ∧ A' = A0)) := by
  refine am_Mt.of (D := 0) ?_
  have hI : xI h0 (ob_P h0) h0 0 0 F0 A0 := xI.start hR
  have hL : am_okL h0.length (am_args 0 [.inr (.inr (some 32))]) = true := (okA_r hI.T oc32 okA_n)
  refine k_aload 1 rfl rfl rfl ?_
  refine x_gZ hI 4 rfl oc32 rfl rfl rfl rfl (fun x1 (e2 : x1.toInt = F0 3205) z3 => ?_)
  exact k_fin rfl (fin_Z z3) ⟨_, _, _, _, _, _, rfl, hI, (by (try rw [e2]); show ((F0 3205 : Int) = 0 ∨ (F0 3205 : Int) = 1) ∧ (F0 3205 : Int) = F0 3205 ∧ F0 = F0 ∧ A0 = A0; exact ⟨by rw [← e2]; exact iv_z2 z3, rfl, rfl, rfl⟩)⟩
theorem n_X2_term_37 {h : am_h} {F : rf_f} {A : xl_A} (hn : F 3202 = 37) (hR : xR h F A) : am_Mt 1 37 [.inr (.inr (some 32))] h (fun r => r = (.inl (some (.inr (.inr (some 37)))), h, 0, 0)) := by
  have hI : xI h (ob_P h) h 0 0 F A := xI.start hR
  refine am_Mt.of (D := 0) ?_
  refine k_aload 1 rfl rfl rfl ?_
  refine x_gO (τ := 3) hI 4 rfl oc32 rfl rfl rfl rfl (fun r (e : (r : Int) = F 3202) o => ?_)
  obtain rfl : r = 37 := by omega
  exact k_fin rfl rfl rfl
theorem n_X2_term_39 {h : am_h} {F : rf_f} {A : xl_A} (hn : F 3202 = 39) (hR : xR h F A) : am_Mt 1 37 [.inr (.inr (some 32))] h (fun r => r = (.inl (some (.inr (.inr (some 39)))), h, 0, 0)) := by
  have hI : xI h (ob_P h) h 0 0 F A := xI.start hR
  refine am_Mt.of (D := 0) ?_
  refine k_aload 1 rfl rfl rfl ?_
  refine x_gO (τ := 3) hI 4 rfl oc32 rfl rfl rfl rfl (fun r (e : (r : Int) = F 3202) o => ?_)
  obtain rfl : r = 39 := by omega
  exact k_fin rfl rfl rfl
theorem n_X9_plain_37 {h0 : am_h} {F0 : rf_f} {A0 : xl_A} {w1 : Int32} {n1 : Int} (hn1 : w1.toInt = n1) (hn : F0 3202 = 37) (hs : F0 3203 = 39) (pL : (A0 46).length ≤ 120) (pw : wL (A0 46)) (pc9 : ∀ x, x ∈ A0 46 → 0 ≤ x ∧ x ≤ 200) (pm : 0 ≤ n1 ∧ n1 ≤ 200) (hR : xR h0 F0 A0) : am_Mt 7 144 [.inr (.inr (some 1)), .inl w1] h0 (xQ h0 (fun x F' A' => PLx (A0 46) n1 x ∧ ((F' 3202 = 37 ∧ F' 3203 = 39) ∨ (F' 3202 = 39 ∧ F' 3203 = 37)) ∧ A' 2 = A0 2 ∧ A' 46 = A0 46)) := by
  refine am_Mt.of (D := 6) ?_
  have hI : xI h0 (ob_P h0) h0 0 0 F0 A0 := xI.start hR
  have hL : am_okL h0.length (am_args 0 [.inr (.inr (some 1)), .inl w1]) = true := okA_r hI.T oc1 (okA_i okA_n)
  refine k_iload 1 rfl rfl rfl ?_
  refine k_c1 4 rfl rfl (if_neg (fun z => by have h9 := iv_lt0.mp z; omega)) ?_
  refine k_iload 5 rfl rfl rfl ?_
  refine k_push 8 rfl rfl ?_
  refine k_c2 21 rfl rfl (if_pos (iv_le.mpr (by rw [hn1, show (200 : Int32).toInt = 200 by decide]; omega))) ?_
  refine k_aload 22 rfl rfl rfl ?_
  refine x_gF 32 hI 25 rfl rfl (by decide) rfl ?_
  refine k_aload 26 rfl rfl rfl ?_
  refine x_gF 46 hI 29 rfl rfl (by decide) rfl ?_
  refine k_iload 30 rfl rfl rfl ?_
  refine k_xv hI rfl (n_X2_workOff_37 hn1 hn hs pL pw pc9 pm hI.1) rfl rfl rfl (hI.T.rc oc32 rfl) hL so_n ?_
  rintro h1 c1 s1 F1 A1 I1 L1 ⟨e1, e2, e3⟩
  show am_Ok _ _ _ (33, _, [], _, c1, s1) _
  refine k_aload 34 rfl rfl rfl ?_
  refine x_gF 32 I1 37 rfl rfl (by decide) rfl ?_
  refine k_xq I1 rfl (n_X2_tooMany I1.1) rfl rfl rfl (I1.T.rc oc32 rfl) L1 so_n ?_
  rintro x2 h2 c2 s2 F2 A2 I2 L2 ⟨z2, f2, k2, k3⟩
  replace k2 := k2.symm
  subst k2
  replace k3 := k3.symm
  subst k3
  show am_Ok _ _ _ (40, _, [.inl x2], _, c2, s2) _
  rcases e1 with ⟨g1, g2, ⟨y1, y2⟩ | ⟨y1, y2⟩⟩ | ⟨g1, g2, ⟨y1, y2⟩ | ⟨y1, y2⟩⟩
  · refine k_c1 47 rfl rfl (if_pos (iv_eq0.mpr (by rw [f2]; exact y1))) ?_
    refine k_aload 48 rfl rfl rfl ?_
    refine x_gF 32 I2 51 rfl rfl (by decide) rfl ?_
    refine k_call0 rfl (n_X2_term_37 g1 I2.1) rfl rfl rfl (I2.T.rc oc32 rfl) ?_
    rintro _ rfl
    refine ⟨Or.inr ⟨L2, so_n⟩, Or.inl ⟨_, rfl, ?_⟩⟩
    show am_Ok _ _ _ (54, _, [.inr (.inr (some 37))], h2, c2, s2) _
    refine k_xq I2 rfl (xv_size I2.1 or37) rfl rfl rfl (ty_H.rc3 I2.T or37) L2 so_n ?_
    rintro x3 h3 c3 s3 F3 A3 I3 L3 ⟨f3, k4, k5⟩
    replace k4 := k4.symm
    subst k4
    replace k5 := k5.symm
    subst k5
    show am_Ok _ _ _ (57, _, [.inl x3], _, c3, s3) _
    exact k_fin rfl rfl ⟨_, _, _, _, _, _, rfl, I3, ⟨_, y2, Or.inr ⟨_, rfl, f3⟩⟩, Or.inl ⟨g1, g2⟩, e2, e3⟩
  · refine k_c1 43 rfl rfl (if_neg (fun z => by have h9 := iv_eq0.mp z; rw [f2, y1] at h9; exact absurd h9 (by decide))) ?_
    refine k_push 44 rfl rfl ?_
    refine k_goto 57 rfl rfl ?_
    exact k_fin rfl rfl ⟨_, _, _, _, _, _, rfl, I2, ⟨_, y2, Or.inl ⟨rfl, by decide⟩⟩, Or.inl ⟨g1, g2⟩, e2, e3⟩
  · refine k_c1 47 rfl rfl (if_pos (iv_eq0.mpr (by rw [f2]; exact y1))) ?_
    refine k_aload 48 rfl rfl rfl ?_
    refine x_gF 32 I2 51 rfl rfl (by decide) rfl ?_
    refine k_call0 rfl (n_X2_term_39 g1 I2.1) rfl rfl rfl (I2.T.rc oc32 rfl) ?_
    rintro _ rfl
    refine ⟨Or.inr ⟨L2, so_n⟩, Or.inl ⟨_, rfl, ?_⟩⟩
    show am_Ok _ _ _ (54, _, [.inr (.inr (some 39))], h2, c2, s2) _
    refine k_xq I2 rfl (xv_size I2.1 or39) rfl rfl rfl (ty_H.rc3 I2.T or39) L2 so_n ?_
    rintro x3 h3 c3 s3 F3 A3 I3 L3 ⟨f3, k4, k5⟩
    replace k4 := k4.symm
    subst k4
    replace k5 := k5.symm
    subst k5
    show am_Ok _ _ _ (57, _, [.inl x3], _, c3, s3) _
    exact k_fin rfl rfl ⟨_, _, _, _, _, _, rfl, I3, ⟨_, y2, Or.inr ⟨_, rfl, f3⟩⟩, Or.inr ⟨g1, g2⟩, e2, e3⟩
  · refine k_c1 43 rfl rfl (if_neg (fun z => by have h9 := iv_eq0.mp z; rw [f2, y1] at h9; exact absurd h9 (by decide))) ?_
    refine k_push 44 rfl rfl ?_
    refine k_goto 57 rfl rfl ?_
    exact k_fin rfl rfl ⟨_, _, _, _, _, _, rfl, I2, ⟨_, y2, Or.inl ⟨rfl, by decide⟩⟩, Or.inr ⟨g1, g2⟩, e2, e3⟩
theorem n_X9_plain_39 {h0 : am_h} {F0 : rf_f} {A0 : xl_A} {w1 : Int32} {n1 : Int} (hn1 : w1.toInt = n1) (hn : F0 3202 = 39) (hs : F0 3203 = 37) (pL : (A0 46).length ≤ 120) (pw : wL (A0 46)) (pc9 : ∀ x, x ∈ A0 46 → 0 ≤ x ∧ x ≤ 200) (pm : 0 ≤ n1 ∧ n1 ≤ 200) (hR : xR h0 F0 A0) : am_Mt 7 144 [.inr (.inr (some 1)), .inl w1] h0 (xQ h0 (fun x F' A' => PLx (A0 46) n1 x ∧ ((F' 3202 = 37 ∧ F' 3203 = 39) ∨ (F' 3202 = 39 ∧ F' 3203 = 37)) ∧ A' 2 = A0 2 ∧ A' 46 = A0 46)) := by
  refine am_Mt.of (D := 6) ?_
  have hI : xI h0 (ob_P h0) h0 0 0 F0 A0 := xI.start hR
  have hL : am_okL h0.length (am_args 0 [.inr (.inr (some 1)), .inl w1]) = true := okA_r hI.T oc1 (okA_i okA_n)
  refine k_iload 1 rfl rfl rfl ?_
  refine k_c1 4 rfl rfl (if_neg (fun z => by have h9 := iv_lt0.mp z; omega)) ?_
  refine k_iload 5 rfl rfl rfl ?_
  refine k_push 8 rfl rfl ?_
  refine k_c2 21 rfl rfl (if_pos (iv_le.mpr (by rw [hn1, show (200 : Int32).toInt = 200 by decide]; omega))) ?_
  refine k_aload 22 rfl rfl rfl ?_
  refine x_gF 32 hI 25 rfl rfl (by decide) rfl ?_
  refine k_aload 26 rfl rfl rfl ?_
  refine x_gF 46 hI 29 rfl rfl (by decide) rfl ?_
  refine k_iload 30 rfl rfl rfl ?_
  refine k_xv hI rfl (n_X2_workOff_39 hn1 hn hs pL pw pc9 pm hI.1) rfl rfl rfl (hI.T.rc oc32 rfl) hL so_n ?_
  rintro h1 c1 s1 F1 A1 I1 L1 ⟨e1, e2, e3⟩
  show am_Ok _ _ _ (33, _, [], _, c1, s1) _
  refine k_aload 34 rfl rfl rfl ?_
  refine x_gF 32 I1 37 rfl rfl (by decide) rfl ?_
  refine k_xq I1 rfl (n_X2_tooMany I1.1) rfl rfl rfl (I1.T.rc oc32 rfl) L1 so_n ?_
  rintro x2 h2 c2 s2 F2 A2 I2 L2 ⟨z2, f2, k2, k3⟩
  replace k2 := k2.symm
  subst k2
  replace k3 := k3.symm
  subst k3
  show am_Ok _ _ _ (40, _, [.inl x2], _, c2, s2) _
  rcases e1 with ⟨g1, g2, ⟨y1, y2⟩ | ⟨y1, y2⟩⟩ | ⟨g1, g2, ⟨y1, y2⟩ | ⟨y1, y2⟩⟩
  · refine k_c1 47 rfl rfl (if_pos (iv_eq0.mpr (by rw [f2]; exact y1))) ?_
    refine k_aload 48 rfl rfl rfl ?_
    refine x_gF 32 I2 51 rfl rfl (by decide) rfl ?_
    refine k_call0 rfl (n_X2_term_37 g1 I2.1) rfl rfl rfl (I2.T.rc oc32 rfl) ?_
    rintro _ rfl
    refine ⟨Or.inr ⟨L2, so_n⟩, Or.inl ⟨_, rfl, ?_⟩⟩
    show am_Ok _ _ _ (54, _, [.inr (.inr (some 37))], h2, c2, s2) _
    refine k_xq I2 rfl (xv_size I2.1 or37) rfl rfl rfl (ty_H.rc3 I2.T or37) L2 so_n ?_
    rintro x3 h3 c3 s3 F3 A3 I3 L3 ⟨f3, k4, k5⟩
    replace k4 := k4.symm
    subst k4
    replace k5 := k5.symm
    subst k5
    show am_Ok _ _ _ (57, _, [.inl x3], _, c3, s3) _
    exact k_fin rfl rfl ⟨_, _, _, _, _, _, rfl, I3, ⟨_, y2, Or.inr ⟨_, rfl, f3⟩⟩, Or.inl ⟨g1, g2⟩, e2, e3⟩
  · refine k_c1 43 rfl rfl (if_neg (fun z => by have h9 := iv_eq0.mp z; rw [f2, y1] at h9; exact absurd h9 (by decide))) ?_
    refine k_push 44 rfl rfl ?_
    refine k_goto 57 rfl rfl ?_
    exact k_fin rfl rfl ⟨_, _, _, _, _, _, rfl, I2, ⟨_, y2, Or.inl ⟨rfl, by decide⟩⟩, Or.inl ⟨g1, g2⟩, e2, e3⟩
  · refine k_c1 47 rfl rfl (if_pos (iv_eq0.mpr (by rw [f2]; exact y1))) ?_
    refine k_aload 48 rfl rfl rfl ?_
    refine x_gF 32 I2 51 rfl rfl (by decide) rfl ?_
    refine k_call0 rfl (n_X2_term_39 g1 I2.1) rfl rfl rfl (I2.T.rc oc32 rfl) ?_
    rintro _ rfl
    refine ⟨Or.inr ⟨L2, so_n⟩, Or.inl ⟨_, rfl, ?_⟩⟩
    show am_Ok _ _ _ (54, _, [.inr (.inr (some 39))], h2, c2, s2) _
    refine k_xq I2 rfl (xv_size I2.1 or39) rfl rfl rfl (ty_H.rc3 I2.T or39) L2 so_n ?_
    rintro x3 h3 c3 s3 F3 A3 I3 L3 ⟨f3, k4, k5⟩
    replace k4 := k4.symm
    subst k4
    replace k5 := k5.symm
    subst k5
    show am_Ok _ _ _ (57, _, [.inl x3], _, c3, s3) _
    exact k_fin rfl rfl ⟨_, _, _, _, _, _, rfl, I3, ⟨_, y2, Or.inr ⟨_, rfl, f3⟩⟩, Or.inr ⟨g1, g2⟩, e2, e3⟩
  · refine k_c1 43 rfl rfl (if_neg (fun z => by have h9 := iv_eq0.mp z; rw [f2, y1] at h9; exact absurd h9 (by decide))) ?_
    refine k_push 44 rfl rfl ?_
    refine k_goto 57 rfl rfl ?_
    exact k_fin rfl rfl ⟨_, _, _, _, _, _, rfl, I2, ⟨_, y2, Or.inl ⟨rfl, by decide⟩⟩, Or.inr ⟨g1, g2⟩, e2, e3⟩
theorem n_X9_plainx {h0 : am_h} {F0 : rf_f} {A0 : xl_A} {w1 : Int32} (hv : w1.toInt < 0 ∨ 200 < w1.toInt) (hR : xR h0 F0 A0) : am_Mt 1 144 [.inr (.inr (some 1)), .inl w1] h0 (fun r => ∃ (h' : am_h) (c s : Nat), r = (.inr 0, h', c + 1, s + 6) ∧ xI h0 (ob_P h0) h' c s F0 A0) := by
  refine am_Mt.of (D := 0) ?_
  have hI : xI h0 (ob_P h0) h0 0 0 F0 A0 := xI.start hR
  refine k_iload 1 rfl rfl rfl ?_
  by_cases b1 : w1 < 0
  · refine k_c1 11 rfl rfl (if_pos b1) ?_
    exact k_fin rfl rfl ⟨_, _, _, rfl, hI⟩
  · refine k_c1 4 rfl rfl (if_neg b1) ?_
    have b1 := mt iv_lt0.mpr b1
    refine k_iload 5 rfl rfl rfl ?_
    refine k_push 8 rfl rfl ?_
    refine k_c2 11 rfl rfl (if_neg (fun z => by rw [iv_le, show (200 : Int32).toInt = 200 by decide] at z; omega)) ?_
    exact k_fin rfl rfl ⟨_, _, _, rfl, hI⟩
end
