section
abbrev w_X1_stepKind : List (Nat × Nat) := []
theorem b_X1_stepKind {B : Nat} {h0 : am_h} {lv : am_l} {h : am_h} {c s : Nat} {v0 : Nat} {v1 : Int32} {v2 : Int32} (g0 : am_get lv 0 = some (.inr (.inr (some v0)))) (o0 : ob 1 v0) (g1 : am_get lv 1 = some (.inl v1)) (g2 : am_get lv 2 = some (.inl v2)) (hL : am_okL h.length lv = true) (hI : ob_I w_X1_stepKind B h0 h c s) : am_Ok am_G 1 27 (0, lv, [], h, c, s) (ty_Q w_X1_stepKind 2 B h0) := by
  refine k_aload 1 rfl g0 rfl ?_
  obtain ⟨fs1, u2, e3, f4, t5⟩ := hI.1.get o0 (k := 0) rfl rfl
  obtain ⟨i6, rfl, o7⟩ := t5
  refine k_get 4 rfl e3 f4 rfl ?_
  refine k_iload 5 rfl g1 rfl ?_
  refine k_cl (W' := []) rfl (rw_get hI.1 (Or.inl o7)) rfl rfl rfl (hI.1.rc3 (Or.inl o7)) hI (by decide) hL so_n ?_
  rintro w8 h9 c10 s11 hv I12 L13 F14
  obtain ⟨_, rfl, x15, rfl⟩ := hv
  show am_Ok _ _ _ (8, _, [.inl x15], h9, c10, s11) _
  refine k_istore 9 rfl rfl ?_
  refine k_aload 10 rfl (gs_ne rfl rfl g0) rfl ?_
  obtain ⟨fs16, u17, e18, f19, t20⟩ := I12.1.get o0 (k := 0) rfl rfl
  obtain ⟨i21, rfl, o22⟩ := t20
  refine k_get 13 rfl e18 f19 rfl ?_
  refine k_iload 14 rfl (gs_ne rfl rfl g2) rfl ?_
  refine k_cl (W' := []) rfl (rw_get I12.1 (Or.inl o22)) rfl rfl rfl (I12.1.rc3 (Or.inl o22)) I12 (by decide) (okL_set (i := 3) (v := .inl x15) rfl L13) so_n ?_
  rintro w23 h24 c25 s26 hv I27 L28 F29
  obtain ⟨_, rfl, x30, rfl⟩ := hv
  show am_Ok _ _ _ (17, _, [.inl x30], h24, c25, s26) _
  refine k_istore 19 rfl rfl ?_
  refine k_iload 20 rfl (gs_ne rfl rfl gs_eq) rfl ?_
  refine k_push 22 rfl rfl ?_
  by_cases b31 : x15 = (6 : Int32)
  · refine k_c2 32 rfl rfl (if_pos b31) ?_
    refine k_push 33 rfl rfl ?_
    exact k_fin rfl rfl ⟨⟨_, rfl, ⟨_, rfl, _, rfl⟩⟩, I27⟩
  · refine k_c2 25 rfl rfl (if_neg b31) ?_
    refine k_iload 27 rfl gs_eq rfl ?_
    refine k_push 29 rfl rfl ?_
    by_cases b32 : x30 = (6 : Int32)
    · refine k_c2 32 rfl rfl (if_pos b32) ?_
      refine k_push 33 rfl rfl ?_
      exact k_fin rfl rfl ⟨⟨_, rfl, ⟨_, rfl, _, rfl⟩⟩, I27⟩
    · refine k_c2 34 rfl rfl (if_neg b32) ?_
      refine k_aload 35 rfl (gs_ne rfl rfl (gs_ne rfl rfl g0)) rfl ?_
      obtain ⟨fs33, u34, e35, f36, t37⟩ := I27.1.get o0 (k := 1) rfl rfl
      obtain ⟨i38, rfl, o39⟩ := t37
      refine k_get 38 rfl e35 f36 rfl ?_
      refine k_iload 39 rfl (gs_ne rfl rfl (gs_ne rfl rfl g1)) rfl ?_
      refine k_cl (W' := []) rfl (rw_get I27.1 (Or.inl o39)) rfl rfl rfl (I27.1.rc3 (Or.inl o39)) I27 (by decide) (okL_set (i := 4) (v := .inl x30) rfl L28) so_n ?_
      rintro w40 h41 c42 s43 hv I44 L45 F46
      obtain ⟨_, rfl, x47, rfl⟩ := hv
      show am_Ok _ _ _ (42, _, [.inl x47], h41, c42, s43) _
      refine k_aload 43 rfl (gs_ne rfl rfl (gs_ne rfl rfl g0)) rfl ?_
      obtain ⟨fs48, u49, e50, f51, t52⟩ := I44.1.get o0 (k := 1) rfl rfl
      obtain ⟨i53, rfl, o54⟩ := t52
      refine k_get 46 rfl e50 f51 rfl ?_
      refine k_iload 47 rfl (gs_ne rfl rfl (gs_ne rfl rfl g2)) rfl ?_
      refine k_cl (W' := []) rfl (rw_get I44.1 (Or.inl o54)) rfl rfl rfl (I44.1.rc3 (Or.inl o54)) I44 (by decide) L45 (so_i so_n) ?_
      rintro w55 h56 c57 s58 hv I59 L60 F61
      obtain ⟨_, rfl, x62, rfl⟩ := hv
      show am_Ok _ _ _ (50, _, [.inl x62, .inl x47], h56, c57, s58) _
      obtain ⟨x63, q64⟩ : ∃ q : Int32, q = (x47 - x62) := ⟨_, rfl⟩
      refine k_bin x63 51 rfl q64.symm rfl ?_
      refine k_istore 53 rfl rfl ?_
      refine k_iload 55 rfl gs_eq rfl ?_
      by_cases b65 : x63 = 0
      · refine k_c1 58 rfl rfl (if_pos b65) ?_
        refine k_iload 59 rfl (gs_ne rfl rfl (gs_ne rfl rfl gs_eq)) rfl ?_
        refine k_iload 61 rfl (gs_ne rfl rfl gs_eq) rfl ?_
        by_cases b66 : x15 = x30
        · refine k_c2 64 rfl rfl (if_pos b66) ?_
          refine k_iload 65 rfl (gs_ne rfl rfl (gs_ne rfl rfl gs_eq)) rfl ?_
          refine k_cl (W' := w_X1_isMover) rfl (c_X1_isMover I59.1 ) rfl rfl rfl rfl I59 (by decide) (okL_set (i := 5) (v := .inl x63) rfl L60) so_n ?_
          rintro w67 h68 c69 s70 hv I71 L72 F73
          obtain ⟨_, rfl, x74, rfl, z75⟩ := hv
          show am_Ok _ _ _ (68, _, [.inl x74], h68, c69, s70) _
          by_cases b76 : x74 = 0
          · refine k_c1 75 rfl rfl (if_pos b76) ?_
            refine k_push 77 rfl rfl ?_
            exact k_fin rfl rfl ⟨⟨_, rfl, ⟨_, rfl, _, rfl⟩⟩, I71⟩
          · refine k_c1 71 rfl rfl (if_neg b76) ?_
            refine k_push 72 rfl rfl ?_
            refine k_goto 77 rfl rfl ?_
            exact k_fin rfl rfl ⟨⟨_, rfl, ⟨_, rfl, _, rfl⟩⟩, I71⟩
        · refine k_c2 78 rfl rfl (if_neg b66) ?_
          refine k_iload 79 rfl (gs_ne rfl rfl (gs_ne rfl rfl gs_eq)) rfl ?_
          refine k_iload 81 rfl (gs_ne rfl rfl gs_eq) rfl ?_
          obtain ⟨x77, q78⟩ : ∃ q : Int32, q = (if x30 < x15 then x30 else x15) := ⟨_, rfl⟩
          refine k_mathZ x77 84 rfl rfl q78.symm rfl ?_
          refine k_push 85 rfl rfl ?_
          by_cases b79 : x77 = (1 : Int32)
          · refine k_c2 88 rfl rfl (if_pos b79) ?_
            refine k_iload 89 rfl (gs_ne rfl rfl (gs_ne rfl rfl gs_eq)) rfl ?_
            refine k_iload 91 rfl (gs_ne rfl rfl gs_eq) rfl ?_
            obtain ⟨x80, q81⟩ : ∃ q : Int32, q = (if x15 < x30 then x30 else x15) := ⟨_, rfl⟩
            refine k_mathZ x80 94 rfl rfl q81.symm rfl ?_
            refine k_push 95 rfl rfl ?_
            by_cases b82 : x80 = (2 : Int32)
            · refine k_c2 98 rfl rfl (if_pos b82) ?_
              refine k_push 99 rfl rfl ?_
              refine k_goto 104 rfl rfl ?_
              exact k_fin rfl rfl ⟨⟨_, rfl, ⟨_, rfl, _, rfl⟩⟩, I59⟩
            · refine k_c2 102 rfl rfl (if_neg b82) ?_
              refine k_push 104 rfl rfl ?_
              exact k_fin rfl rfl ⟨⟨_, rfl, ⟨_, rfl, _, rfl⟩⟩, I59⟩
          · refine k_c2 102 rfl rfl (if_neg b79) ?_
            refine k_push 104 rfl rfl ?_
            exact k_fin rfl rfl ⟨⟨_, rfl, ⟨_, rfl, _, rfl⟩⟩, I59⟩
      · refine k_c1 105 rfl rfl (if_neg b65) ?_
        refine k_iload 107 rfl gs_eq rfl ?_
        by_cases b83 : 0 ≤ x63
        · refine k_c1 114 rfl rfl (if_pos b83) ?_
          refine k_iload 116 rfl (gs_ne rfl rfl gs_eq) rfl ?_
          refine k_istore 118 rfl rfl ?_
          refine k_iload 120 rfl gs_eq rfl ?_
          refine k_cl (W' := w_X1_isMover) rfl (c_X1_isMover I59.1 ) rfl rfl rfl rfl I59 (by decide) (okL_set (i := 6) (v := .inl x30) rfl (okL_set (i := 5) (v := .inl x63) rfl L60)) so_n ?_
          rintro w84 h85 c86 s87 hv I88 L89 F90
          obtain ⟨_, rfl, x91, rfl, z92⟩ := hv
          show am_Ok _ _ _ (123, _, [.inl x91], h85, c86, s87) _
          by_cases b93 : x91 = 0
          · refine k_c1 126 rfl rfl (if_pos b93) ?_
            refine k_push 128 rfl rfl ?_
            exact k_fin rfl rfl ⟨⟨_, rfl, ⟨_, rfl, _, rfl⟩⟩, I88⟩
          · refine k_c1 129 rfl rfl (if_neg b93) ?_
            refine k_iload 131 rfl gs_eq rfl ?_
            refine k_push 132 rfl rfl ?_
            by_cases b94 : x30 = (3 : Int32)
            · refine k_c2 135 rfl rfl (if_pos b94) ?_
              refine k_push 136 rfl rfl ?_
              refine k_goto 140 rfl rfl ?_
              exact k_fin rfl rfl ⟨⟨_, rfl, ⟨_, rfl, _, rfl⟩⟩, I88⟩
            · refine k_c2 139 rfl rfl (if_neg b94) ?_
              refine k_push 140 rfl rfl ?_
              exact k_fin rfl rfl ⟨⟨_, rfl, ⟨_, rfl, _, rfl⟩⟩, I88⟩
        · refine k_c1 110 rfl rfl (if_neg b83) ?_
          refine k_iload 111 rfl (gs_ne rfl rfl (gs_ne rfl rfl gs_eq)) rfl ?_
          refine k_goto 116 rfl rfl ?_
          refine k_istore 118 rfl rfl ?_
          refine k_iload 120 rfl gs_eq rfl ?_
          refine k_cl (W' := w_X1_isMover) rfl (c_X1_isMover I59.1 ) rfl rfl rfl rfl I59 (by decide) (okL_set (i := 6) (v := .inl x15) rfl (okL_set (i := 5) (v := .inl x63) rfl L60)) so_n ?_
          rintro w95 h96 c97 s98 hv I99 L100 F101
          obtain ⟨_, rfl, x102, rfl, z103⟩ := hv
          show am_Ok _ _ _ (123, _, [.inl x102], h96, c97, s98) _
          by_cases b104 : x102 = 0
          · refine k_c1 126 rfl rfl (if_pos b104) ?_
            refine k_push 128 rfl rfl ?_
            exact k_fin rfl rfl ⟨⟨_, rfl, ⟨_, rfl, _, rfl⟩⟩, I99⟩
          · refine k_c1 129 rfl rfl (if_neg b104) ?_
            refine k_iload 131 rfl gs_eq rfl ?_
            refine k_push 132 rfl rfl ?_
            by_cases b105 : x15 = (3 : Int32)
            · refine k_c2 135 rfl rfl (if_pos b105) ?_
              refine k_push 136 rfl rfl ?_
              refine k_goto 140 rfl rfl ?_
              exact k_fin rfl rfl ⟨⟨_, rfl, ⟨_, rfl, _, rfl⟩⟩, I99⟩
            · refine k_c2 139 rfl rfl (if_neg b105) ?_
              refine k_push 140 rfl rfl ?_
              exact k_fin rfl rfl ⟨⟨_, rfl, ⟨_, rfl, _, rfl⟩⟩, I99⟩
theorem c_X1_stepKind {h : am_h} {v0 : Nat} {v1 : Int32} {v2 : Int32} (hT : ty_H h) (o0 : ob 1 v0) : am_Mt 2 27 [.inr (.inr (some v0)), .inl v1, .inl v2] h (ty_Q w_X1_stepKind 2 (ob_P h) h) := am_Mt.of (b_X1_stepKind rfl o0 rfl rfl (okA_r hT o0 (okA_i (okA_i okA_n))) (ob_I.start hT))
abbrev w_X1_erase : List (Nat × Nat) := [(1, 4), (1, 5), (1, 6), (1, 7)]
theorem b_X1_erase_2 {B : Nat} {h0 : am_h} : ∀ (n : Nat) {lv : am_l} {h : am_h} {c s : Nat} {v0 : Nat} {v1 : Int32} , up_m v1 = n → am_get lv 0 = some (.inr (.inr (some v0))) → ob 1 v0 → am_get lv 1 = some (.inl v1) → am_okL h.length lv = true → ob_I w_X1_erase B h0 h c s → am_Ok am_G 2 34 (2, lv, [], h, c, s) (ty_Q w_X1_erase 0 B h0) := by
  intro n
  induction n using Nat.strongRecOn with
  | ind n ih =>
    intro lv h c s v0 v1 hn g0 o0 g1 hL hI
    refine k_iload 3 rfl g1 rfl ?_
    refine k_aload 4 rfl g0 rfl ?_
    refine k_push 7 rfl rfl ?_
    refine k_cl (W' := w_X1_ports) rfl (c_X1_ports hI.1 o0) rfl rfl rfl (hI.1.rc o0 rfl) hI (by decide) hL (so_i so_n) ?_
    rintro w1 h2 c3 s4 hv I5 L6 F7
    obtain ⟨_, rfl, x8, rfl⟩ := hv
    show am_Ok _ _ _ (10, _, [.inl x8, .inl v1], h2, c3, s4) _
    by_cases b9 : x8 ≤ v1
    · refine k_c2 46 rfl rfl (if_pos b9) ?_
      exact k_fin rfl rfl ⟨⟨_, rfl, rfl⟩, I5⟩
    · refine k_c2 13 rfl rfl (if_neg b9) ?_
      refine k_aload 14 rfl g0 rfl ?_
      refine k_push 16 rfl rfl ?_
      refine k_push 17 rfl rfl ?_
      refine k_cl (W' := w_X1_make) rfl (c_X1_make I5.1 o0) rfl rfl rfl (I5.1.rc o0 rfl) I5 (by decide) L6 so_n ?_
      rintro w10 h11 c12 s13 hv I14 L15 F16
      obtain ⟨_, rfl, x17, rfl⟩ := hv
      show am_Ok _ _ _ (20, _, [.inl x17], h11, c12, s13) _
      refine k_istore 21 rfl rfl ?_
      refine k_aload 22 rfl (gs_ne rfl rfl g0) rfl ?_
      refine k_push 23 rfl rfl ?_
      refine k_iload 24 rfl gs_eq rfl ?_
      obtain ⟨x18, q19⟩ : ∃ q : Int32, q = ((4 : Int32) * x17) := ⟨_, rfl⟩
      refine k_bin x18 25 rfl q19.symm rfl ?_
      refine k_aload 26 rfl (gs_ne rfl rfl g0) rfl ?_
      obtain ⟨fs20, u21, e22, f23, t24⟩ := I14.1.get o0 (k := 2) rfl rfl
      obtain ⟨i25, rfl, o26⟩ := t24
      refine k_get 29 rfl e22 f23 rfl ?_
      refine k_push 32 rfl rfl ?_
      refine k_iload 33 rfl (gs_ne rfl rfl g1) rfl ?_
      obtain ⟨x27, q28⟩ : ∃ q : Int32, q = ((1604 : Int32) + v1) := ⟨_, rfl⟩
      refine k_bin x27 34 rfl q28.symm rfl ?_
      refine k_cl (W' := []) rfl (rw_get I14.1 (Or.inl o26)) rfl rfl rfl (I14.1.rc3 (Or.inl o26)) I14 (by decide) (okL_set (i := 2) (v := .inl x17) rfl L15) (so_i (so_r I14 o0 so_n)) ?_
      rintro w29 h30 c31 s32 hv I33 L34 F35
      obtain ⟨_, rfl, x36, rfl⟩ := hv
      show am_Ok _ _ _ (37, _, [.inl x36, .inl x18, .inr (.inr (some v0))], h30, c31, s32) _
      refine k_cl (W' := w_X1_link) rfl (c_X1_link I33.1 o0) rfl rfl rfl (I33.1.rc o0 rfl) I33 (by decide) L34 so_n ?_
      rintro w37 h38 c39 s40 hv I41 L42 F43
      cases hv
      show am_Ok _ _ _ (40, _, [], h38, c39, s40) _
      refine k_iinc (v1 + 1) 43 rfl (gs_ne rfl rfl g1) rfl rfl ?_
      refine k_goto 2 rfl rfl ?_
      exact ih _ (by rw [← hn]; exact up_lt b9) rfl (gs_ne rfl rfl (gs_ne rfl rfl g0)) o0 gs_eq (okL_set (i := 1) (v := .inl (v1 + 1)) rfl L42) I41
theorem b_X1_erase {B : Nat} {h0 : am_h} {lv : am_l} {h : am_h} {c s : Nat} {v0 : Nat} (g0 : am_get lv 0 = some (.inr (.inr (some v0)))) (o0 : ob 1 v0) (hL : am_okL h.length lv = true) (hI : ob_I w_X1_erase B h0 h c s) : am_Ok am_G 2 34 (0, lv, [], h, c, s) (ty_Q w_X1_erase 0 B h0) := by
  refine k_push 1 rfl rfl ?_
  refine k_istore 2 rfl rfl ?_
  exact b_X1_erase_2 _ rfl (gs_ne rfl rfl g0) o0 gs_eq (okL_set (i := 1) (v := .inl (1 : Int32)) rfl hL) hI
theorem c_X1_erase {h : am_h} {v0 : Nat} (hT : ty_H h) (o0 : ob 1 v0) : am_Mt 3 34 [.inr (.inr (some v0))] h (ty_Q w_X1_erase 0 (ob_P h) h) := am_Mt.of (b_X1_erase rfl o0 (okA_r hT o0 okA_n) (ob_I.start hT))
abbrev w_X1_goThrough : List (Nat × Nat) := [(1, 4), (1, 5), (1, 6), (1, 7)]
theorem b_X1_goThrough_169 {B : Nat} {h0 : am_h} {m : Nat} (hO : ∀ {lv : am_l} {h : am_h} {c s : Nat} {v0 : Nat} {v1 : Int32} {v2 : Int32} {v3 : Int32}, up_m v3 < m → am_get lv 0 = some (.inr (.inr (some v0))) → ob 1 v0 → am_get lv 1 = some (.inl v1) → am_get lv 2 = some (.inl v2) → am_get lv 3 = some (.inl v3) → am_okL h.length lv = true → ob_I w_X1_goThrough B h0 h c s → am_Ok am_G 2 35 (118, lv, [], h, c, s) (ty_Q w_X1_goThrough 0 B h0)) : ∀ (n : Nat) {lv : am_l} {h : am_h} {c s : Nat} {v0 : Nat} {v1 : Int32} {v2 : Int32} {v3 : Int32} {v4 : Int32} {v5 : Int32} , up_m v5 = n → am_get lv 0 = some (.inr (.inr (some v0))) → ob 1 v0 → am_get lv 1 = some (.inl v1) → am_get lv 2 = some (.inl v2) → am_get lv 3 = some (.inl v3) → am_get lv 4 = some (.inl v4) → am_get lv 5 = some (.inl v5) → am_okL h.length lv = true → ob_I w_X1_goThrough B h0 h c s → up_m (v3 + 1) < m → am_Ok am_G 2 35 (169, lv, [], h, c, s) (ty_Q w_X1_goThrough 0 B h0) := by
  intro n
  induction n using Nat.strongRecOn with
  | ind n ih =>
    intro lv h c s v0 v1 v2 v3 v4 v5 hn g0 o0 g1 g2 g3 g4 g5 hL hI hOp
    refine k_iload 171 rfl g5 rfl ?_
    refine k_aload 172 rfl g0 rfl ?_
    refine k_push 175 rfl rfl ?_
    refine k_cl (W' := w_X1_ports) rfl (c_X1_ports hI.1 o0) rfl rfl rfl (hI.1.rc o0 rfl) hI (by decide) hL (so_i so_n) ?_
    rintro w1 h2 c3 s4 hv I5 L6 F7
    obtain ⟨_, rfl, x8, rfl⟩ := hv
    show am_Ok _ _ _ (178, _, [.inl x8, .inl v5], h2, c3, s4) _
    by_cases b9 : x8 ≤ v5
    · refine k_c2 213 rfl rfl (if_pos b9) ?_
      refine k_iinc (v3 + 1) 216 rfl g3 rfl rfl ?_
      refine k_goto 118 rfl rfl ?_
      exact hO hOp (gs_ne rfl rfl g0) o0 (gs_ne rfl rfl g1) (gs_ne rfl rfl g2) gs_eq (okL_set (i := 3) (v := .inl (v3 + 1)) rfl L6) I5
    · refine k_c2 181 rfl rfl (if_neg b9) ?_
      refine k_aload 182 rfl g0 rfl ?_
      refine k_push 183 rfl rfl ?_
      refine k_aload 184 rfl g0 rfl ?_
      obtain ⟨fs10, u11, e12, f13, t14⟩ := I5.1.get o0 (k := 3) rfl rfl
      obtain ⟨i15, rfl, o16⟩ := t14
      refine k_get 187 rfl e12 f13 rfl ?_
      refine k_iload 189 rfl g5 rfl ?_
      refine k_push 190 rfl rfl ?_
      obtain ⟨x17, q18⟩ : ∃ q : Int32, q = (v5 - (1 : Int32)) := ⟨_, rfl⟩
      refine k_bin x17 191 rfl q18.symm rfl ?_
      refine k_cl (W' := []) rfl (rw_get I5.1 (Or.inl o16)) rfl rfl rfl (I5.1.rc3 (Or.inl o16)) I5 (by decide) L6 (so_i (so_r I5 o0 so_n)) ?_
      rintro w19 h20 c21 s22 hv I23 L24 F25
      obtain ⟨_, rfl, x26, rfl⟩ := hv
      show am_Ok _ _ _ (194, _, [.inl x26, .inl (4 : Int32), .inr (.inr (some v0))], h20, c21, s22) _
      obtain ⟨x27, q28⟩ : ∃ q : Int32, q = ((4 : Int32) * x26) := ⟨_, rfl⟩
      refine k_bin x27 195 rfl q28.symm rfl ?_
      refine k_iload 196 rfl g3 rfl ?_
      obtain ⟨x29, q30⟩ : ∃ q : Int32, q = (x27 + v3) := ⟨_, rfl⟩
      refine k_bin x29 197 rfl q30.symm rfl ?_
      refine k_push 198 rfl rfl ?_
      refine k_iload 200 rfl g4 rfl ?_
      obtain ⟨x31, q32⟩ : ∃ q : Int32, q = ((4 : Int32) * v4) := ⟨_, rfl⟩
      refine k_bin x31 201 rfl q32.symm rfl ?_
      refine k_iload 203 rfl g5 rfl ?_
      obtain ⟨x33, q34⟩ : ∃ q : Int32, q = (x31 + v5) := ⟨_, rfl⟩
      refine k_bin x33 204 rfl q34.symm rfl ?_
      refine k_cl (W' := w_X1_link) rfl (c_X1_link I23.1 o0) rfl rfl rfl (I23.1.rc o0 rfl) I23 (by decide) L24 so_n ?_
      rintro w35 h36 c37 s38 hv I39 L40 F41
      cases hv
      show am_Ok _ _ _ (207, _, [], h36, c37, s38) _
      refine k_iinc (v5 + 1) 210 rfl g5 rfl rfl ?_
      refine k_goto 169 rfl rfl ?_
      exact ih _ (by rw [← hn]; exact up_lt b9) rfl (gs_ne rfl rfl g0) o0 (gs_ne rfl rfl g1) (gs_ne rfl rfl g2) (gs_ne rfl rfl g3) (gs_ne rfl rfl g4) gs_eq (okL_set (i := 5) (v := .inl (v5 + 1)) rfl L40) I39 hOp
theorem b_X1_goThrough_118 {B : Nat} {h0 : am_h} : ∀ (n : Nat) {lv : am_l} {h : am_h} {c s : Nat} {v0 : Nat} {v1 : Int32} {v2 : Int32} {v3 : Int32} , up_m v3 = n → am_get lv 0 = some (.inr (.inr (some v0))) → ob 1 v0 → am_get lv 1 = some (.inl v1) → am_get lv 2 = some (.inl v2) → am_get lv 3 = some (.inl v3) → am_okL h.length lv = true → ob_I w_X1_goThrough B h0 h c s → am_Ok am_G 2 35 (118, lv, [], h, c, s) (ty_Q w_X1_goThrough 0 B h0) := by
  intro n
  induction n using Nat.strongRecOn with
  | ind n ih =>
    intro lv h c s v0 v1 v2 v3 hn g0 o0 g1 g2 g3 hL hI
    refine k_iload 119 rfl g3 rfl ?_
    refine k_aload 120 rfl g0 rfl ?_
    refine k_push 123 rfl rfl ?_
    refine k_cl (W' := w_X1_ports) rfl (c_X1_ports hI.1 o0) rfl rfl rfl (hI.1.rc o0 rfl) hI (by decide) hL (so_i so_n) ?_
    rintro w42 h43 c44 s45 hv I46 L47 F48
    obtain ⟨_, rfl, x49, rfl⟩ := hv
    show am_Ok _ _ _ (126, _, [.inl x49, .inl v3], h43, c44, s45) _
    by_cases b50 : x49 ≤ v3
    · refine k_c2 219 rfl rfl (if_pos b50) ?_
      exact k_fin rfl rfl ⟨⟨_, rfl, rfl⟩, I46⟩
    · refine k_c2 129 rfl rfl (if_neg b50) ?_
      refine k_aload 130 rfl g0 rfl ?_
      refine k_iload 131 rfl g1 rfl ?_
      refine k_aload 132 rfl g0 rfl ?_
      obtain ⟨fs51, u52, e53, f54, t55⟩ := I46.1.get o0 (k := 1) rfl rfl
      obtain ⟨i56, rfl, o57⟩ := t55
      refine k_get 135 rfl e53 f54 rfl ?_
      refine k_push 138 rfl rfl ?_
      refine k_cl (W' := []) rfl (rw_get I46.1 (Or.inl o57)) rfl rfl rfl (I46.1.rc3 (Or.inl o57)) I46 (by decide) L47 (so_i (so_r I46 o0 so_n)) ?_
      rintro w58 h59 c60 s61 hv I62 L63 F64
      obtain ⟨_, rfl, x65, rfl⟩ := hv
      show am_Ok _ _ _ (141, _, [.inl x65, .inl v1, .inr (.inr (some v0))], h59, c60, s61) _
      refine k_cl (W' := w_X1_make) rfl (c_X1_make I62.1 o0) rfl rfl rfl (I62.1.rc o0 rfl) I62 (by decide) L63 so_n ?_
      rintro w66 h67 c68 s69 hv I70 L71 F72
      obtain ⟨_, rfl, x73, rfl⟩ := hv
      show am_Ok _ _ _ (144, _, [.inl x73], h67, c68, s69) _
      refine k_istore 146 rfl rfl ?_
      refine k_aload 147 rfl (gs_ne rfl rfl g0) rfl ?_
      refine k_push 148 rfl rfl ?_
      refine k_iload 150 rfl gs_eq rfl ?_
      obtain ⟨x74, q75⟩ : ∃ q : Int32, q = ((4 : Int32) * x73) := ⟨_, rfl⟩
      refine k_bin x74 151 rfl q75.symm rfl ?_
      refine k_aload 152 rfl (gs_ne rfl rfl g0) rfl ?_
      obtain ⟨fs76, u77, e78, f79, t80⟩ := I70.1.get o0 (k := 2) rfl rfl
      obtain ⟨i81, rfl, o82⟩ := t80
      refine k_get 155 rfl e78 f79 rfl ?_
      refine k_push 158 rfl rfl ?_
      refine k_iload 159 rfl (gs_ne rfl rfl g3) rfl ?_
      obtain ⟨x83, q84⟩ : ∃ q : Int32, q = ((1604 : Int32) + v3) := ⟨_, rfl⟩
      refine k_bin x83 160 rfl q84.symm rfl ?_
      refine k_cl (W' := []) rfl (rw_get I70.1 (Or.inl o82)) rfl rfl rfl (I70.1.rc3 (Or.inl o82)) I70 (by decide) (okL_set (i := 4) (v := .inl x73) rfl L71) (so_i (so_r I70 o0 so_n)) ?_
      rintro w85 h86 c87 s88 hv I89 L90 F91
      obtain ⟨_, rfl, x92, rfl⟩ := hv
      show am_Ok _ _ _ (163, _, [.inl x92, .inl x74, .inr (.inr (some v0))], h86, c87, s88) _
      refine k_cl (W' := w_X1_link) rfl (c_X1_link I89.1 o0) rfl rfl rfl (I89.1.rc o0 rfl) I89 (by decide) L90 so_n ?_
      rintro w93 h94 c95 s96 hv I97 L98 F99
      cases hv
      show am_Ok _ _ _ (166, _, [], h94, c95, s96) _
      refine k_push 167 rfl rfl ?_
      refine k_istore 169 rfl rfl ?_
      exact b_X1_goThrough_169 (m := n) (fun {lv h c s} => fun hm => ih _ hm rfl) _ rfl (gs_ne rfl rfl (gs_ne rfl rfl g0)) o0 (gs_ne rfl rfl (gs_ne rfl rfl g1)) (gs_ne rfl rfl (gs_ne rfl rfl g2)) (gs_ne rfl rfl (gs_ne rfl rfl g3)) (gs_ne rfl rfl gs_eq) gs_eq (okL_set (i := 5) (v := .inl (1 : Int32)) rfl L98) I97 (by rw [← hn]; exact up_lt b50)
theorem b_X1_goThrough_41 {B : Nat} {h0 : am_h} : ∀ (n : Nat) {lv : am_l} {h : am_h} {c s : Nat} {v0 : Nat} {v1 : Int32} {v2 : Int32} {v3 : Int32} , up_m v3 = n → am_get lv 0 = some (.inr (.inr (some v0))) → ob 1 v0 → am_get lv 1 = some (.inl v1) → am_get lv 2 = some (.inl v2) → am_get lv 3 = some (.inl v3) → am_okL h.length lv = true → ob_I w_X1_goThrough B h0 h c s → am_Ok am_G 2 35 (41, lv, [], h, c, s) (ty_Q w_X1_goThrough 0 B h0) := by
  intro n
  induction n using Nat.strongRecOn with
  | ind n ih =>
    intro lv h c s v0 v1 v2 v3 hn g0 o0 g1 g2 g3 hL hI
    refine k_iload 42 rfl g3 rfl ?_
    refine k_aload 43 rfl g0 rfl ?_
    refine k_push 46 rfl rfl ?_
    refine k_cl (W' := w_X1_ports) rfl (c_X1_ports hI.1 o0) rfl rfl rfl (hI.1.rc o0 rfl) hI (by decide) hL (so_i so_n) ?_
    rintro w100 h101 c102 s103 hv I104 L105 F106
    obtain ⟨_, rfl, x107, rfl⟩ := hv
    show am_Ok _ _ _ (49, _, [.inl x107, .inl v3], h101, c102, s103) _
    by_cases b108 : x107 ≤ v3
    · refine k_c2 116 rfl rfl (if_pos b108) ?_
      refine k_push 117 rfl rfl ?_
      refine k_istore 118 rfl rfl ?_
      exact b_X1_goThrough_118 _ rfl (gs_ne rfl rfl g0) o0 (gs_ne rfl rfl g1) (gs_ne rfl rfl g2) gs_eq (okL_set (i := 3) (v := .inl (1 : Int32)) rfl L105) I104
    · refine k_c2 52 rfl rfl (if_neg b108) ?_
      refine k_aload 53 rfl g0 rfl ?_
      refine k_aload 54 rfl g0 rfl ?_
      obtain ⟨fs109, u110, e111, f112, t113⟩ := I104.1.get o0 (k := 0) rfl rfl
      obtain ⟨i114, rfl, o115⟩ := t113
      refine k_get 57 rfl e111 f112 rfl ?_
      refine k_push 60 rfl rfl ?_
      refine k_cl (W' := []) rfl (rw_get I104.1 (Or.inl o115)) rfl rfl rfl (I104.1.rc3 (Or.inl o115)) I104 (by decide) L105 (so_r I104 o0 so_n) ?_
      rintro w116 h117 c118 s119 hv I120 L121 F122
      obtain ⟨_, rfl, x123, rfl⟩ := hv
      show am_Ok _ _ _ (63, _, [.inl x123, .inr (.inr (some v0))], h117, c118, s119) _
      refine k_aload 64 rfl g0 rfl ?_
      obtain ⟨fs124, u125, e126, f127, t128⟩ := I120.1.get o0 (k := 1) rfl rfl
      obtain ⟨i129, rfl, o130⟩ := t128
      refine k_get 67 rfl e126 f127 rfl ?_
      refine k_push 70 rfl rfl ?_
      refine k_cl (W' := []) rfl (rw_get I120.1 (Or.inl o130)) rfl rfl rfl (I120.1.rc3 (Or.inl o130)) I120 (by decide) L121 (so_i (so_r I120 o0 so_n)) ?_
      rintro w131 h132 c133 s134 hv I135 L136 F137
      obtain ⟨_, rfl, x138, rfl⟩ := hv
      show am_Ok _ _ _ (73, _, [.inl x138, .inl x123, .inr (.inr (some v0))], h132, c133, s134) _
      refine k_iload 74 rfl g2 rfl ?_
      obtain ⟨x139, q140⟩ : ∃ q : Int32, q = (x138 + v2) := ⟨_, rfl⟩
      refine k_bin x139 75 rfl q140.symm rfl ?_
      refine k_cl (W' := w_X1_make) rfl (c_X1_make I135.1 o0) rfl rfl rfl (I135.1.rc o0 rfl) I135 (by decide) L136 so_n ?_
      rintro w141 h142 c143 s144 hv I145 L146 F147
      obtain ⟨_, rfl, x148, rfl⟩ := hv
      show am_Ok _ _ _ (78, _, [.inl x148], h142, c143, s144) _
      refine k_istore 80 rfl rfl ?_
      refine k_aload 81 rfl (gs_ne rfl rfl g0) rfl ?_
      obtain ⟨fs149, u150, e151, f152, t153⟩ := I145.1.get o0 (k := 3) rfl rfl
      obtain ⟨i154, rfl, o155⟩ := t153
      refine k_get 84 rfl e151 f152 rfl ?_
      refine k_iload 86 rfl gs_eq rfl ?_
      refine k_cl (W' := []) rfl ((rw_add (W := []) I145.1 (Or.inl o155)).imp (fun _ z => z.1)) rfl rfl rfl (I145.1.rc3 (Or.inl o155)) I145 (by decide) (okL_set (i := 4) (v := .inl x148) rfl L146) so_n ?_
      rintro w156 h157 c158 s159 hv I160 L161 F162
      obtain ⟨_, rfl, x163, rfl, z164⟩ := hv
      show am_Ok _ _ _ (89, _, [.inl x163], h157, c158, s159) _
      refine k_pop 90 rfl rfl rfl ?_
      refine k_aload 91 rfl (gs_ne rfl rfl g0) rfl ?_
      refine k_push 92 rfl rfl ?_
      refine k_iload 94 rfl gs_eq rfl ?_
      obtain ⟨x165, q166⟩ : ∃ q : Int32, q = ((4 : Int32) * x148) := ⟨_, rfl⟩
      refine k_bin x165 95 rfl q166.symm rfl ?_
      refine k_aload 96 rfl (gs_ne rfl rfl g0) rfl ?_
      obtain ⟨fs167, u168, e169, f170, t171⟩ := I160.1.get o0 (k := 2) rfl rfl
      obtain ⟨i172, rfl, o173⟩ := t171
      refine k_get 99 rfl e169 f170 rfl ?_
      refine k_push 102 rfl rfl ?_
      refine k_iload 103 rfl (gs_ne rfl rfl g3) rfl ?_
      obtain ⟨x174, q175⟩ : ∃ q : Int32, q = ((1600 : Int32) + v3) := ⟨_, rfl⟩
      refine k_bin x174 104 rfl q175.symm rfl ?_
      refine k_cl (W' := []) rfl (rw_get I160.1 (Or.inl o173)) rfl rfl rfl (I160.1.rc3 (Or.inl o173)) I160 (by decide) L161 (so_i (so_r I160 o0 so_n)) ?_
      rintro w176 h177 c178 s179 hv I180 L181 F182
      obtain ⟨_, rfl, x183, rfl⟩ := hv
      show am_Ok _ _ _ (107, _, [.inl x183, .inl x165, .inr (.inr (some v0))], h177, c178, s179) _
      refine k_cl (W' := w_X1_link) rfl (c_X1_link I180.1 o0) rfl rfl rfl (I180.1.rc o0 rfl) I180 (by decide) L181 so_n ?_
      rintro w184 h185 c186 s187 hv I188 L189 F190
      cases hv
      show am_Ok _ _ _ (110, _, [], h185, c186, s187) _
      refine k_iinc (v3 + 1) 113 rfl (gs_ne rfl rfl g3) rfl rfl ?_
      refine k_goto 41 rfl rfl ?_
      exact ih _ (by rw [← hn]; exact up_lt b108) rfl (gs_ne rfl rfl (gs_ne rfl rfl g0)) o0 (gs_ne rfl rfl (gs_ne rfl rfl g1)) (gs_ne rfl rfl (gs_ne rfl rfl g2)) gs_eq (okL_set (i := 3) (v := .inl (v3 + 1)) rfl L189) I188
theorem b_X1_goThrough {B : Nat} {h0 : am_h} {lv : am_l} {h : am_h} {c s : Nat} {v0 : Nat} (g0 : am_get lv 0 = some (.inr (.inr (some v0)))) (o0 : ob 1 v0) (hL : am_okL h.length lv = true) (hI : ob_I w_X1_goThrough B h0 h c s) : am_Ok am_G 2 35 (0, lv, [], h, c, s) (ty_Q w_X1_goThrough 0 B h0) := by
  refine k_aload 1 rfl g0 rfl ?_
  obtain ⟨fs191, u192, e193, f194, t195⟩ := hI.1.get o0 (k := 0) rfl rfl
  obtain ⟨i196, rfl, o197⟩ := t195
  refine k_get 4 rfl e193 f194 rfl ?_
  refine k_push 7 rfl rfl ?_
  refine k_cl (W' := []) rfl (rw_get hI.1 (Or.inl o197)) rfl rfl rfl (hI.1.rc3 (Or.inl o197)) hI (by decide) hL so_n ?_
  rintro w198 h199 c200 s201 hv I202 L203 F204
  obtain ⟨_, rfl, x205, rfl⟩ := hv
  show am_Ok _ _ _ (10, _, [.inl x205], h199, c200, s201) _
  refine k_istore 11 rfl rfl ?_
  refine k_iload 12 rfl gs_eq rfl ?_
  refine k_push 13 rfl rfl ?_
  by_cases b206 : x205 = (4 : Int32)
  · refine k_c2 16 rfl rfl (if_pos b206) ?_
    refine k_push 17 rfl rfl ?_
    refine k_goto 30 rfl rfl ?_
    refine k_istore 31 rfl rfl ?_
    refine k_aload 32 rfl (gs_ne rfl rfl (gs_ne rfl rfl g0)) rfl ?_
    obtain ⟨fs207, u208, e209, f210, t211⟩ := I202.1.get o0 (k := 3) rfl rfl
    obtain ⟨i212, rfl, o213⟩ := t211
    refine k_get 35 rfl e209 f210 rfl ?_
    refine k_push 36 rfl rfl ?_
    refine k_cl (W' := []) rfl (rw_cut (W := []) I202.1 (Or.inl o213)) rfl rfl rfl (I202.1.rc3 (Or.inl o213)) I202 (by decide) (okL_set (i := 2) (v := .inl (1 : Int32)) rfl (okL_set (i := 1) (v := .inl x205) rfl L203)) so_n ?_
    rintro w214 h215 c216 s217 hv I218 L219 F220
    cases hv
    show am_Ok _ _ _ (39, _, [], h215, c216, s217) _
    refine k_push 40 rfl rfl ?_
    refine k_istore 41 rfl rfl ?_
    exact b_X1_goThrough_41 _ rfl (gs_ne rfl rfl (gs_ne rfl rfl (gs_ne rfl rfl g0))) o0 (gs_ne rfl rfl (gs_ne rfl rfl gs_eq)) (gs_ne rfl rfl gs_eq) gs_eq (okL_set (i := 3) (v := .inl (1 : Int32)) rfl L219) I218
  · refine k_c2 20 rfl rfl (if_neg b206) ?_
    refine k_iload 21 rfl gs_eq rfl ?_
    refine k_push 22 rfl rfl ?_
    by_cases b221 : x205 = (5 : Int32)
    · refine k_c2 25 rfl rfl (if_pos b221) ?_
      refine k_push 26 rfl rfl ?_
      refine k_goto 30 rfl rfl ?_
      refine k_istore 31 rfl rfl ?_
      refine k_aload 32 rfl (gs_ne rfl rfl (gs_ne rfl rfl g0)) rfl ?_
      obtain ⟨fs222, u223, e224, f225, t226⟩ := I202.1.get o0 (k := 3) rfl rfl
      obtain ⟨i227, rfl, o228⟩ := t226
      refine k_get 35 rfl e224 f225 rfl ?_
      refine k_push 36 rfl rfl ?_
      refine k_cl (W' := []) rfl (rw_cut (W := []) I202.1 (Or.inl o228)) rfl rfl rfl (I202.1.rc3 (Or.inl o228)) I202 (by decide) (okL_set (i := 2) (v := .inl (-1 : Int32)) rfl (okL_set (i := 1) (v := .inl x205) rfl L203)) so_n ?_
      rintro w229 h230 c231 s232 hv I233 L234 F235
      cases hv
      show am_Ok _ _ _ (39, _, [], h230, c231, s232) _
      refine k_push 40 rfl rfl ?_
      refine k_istore 41 rfl rfl ?_
      exact b_X1_goThrough_41 _ rfl (gs_ne rfl rfl (gs_ne rfl rfl (gs_ne rfl rfl g0))) o0 (gs_ne rfl rfl (gs_ne rfl rfl gs_eq)) (gs_ne rfl rfl gs_eq) gs_eq (okL_set (i := 3) (v := .inl (1 : Int32)) rfl L234) I233
    · refine k_c2 29 rfl rfl (if_neg b221) ?_
      refine k_push 30 rfl rfl ?_
      refine k_istore 31 rfl rfl ?_
      refine k_aload 32 rfl (gs_ne rfl rfl (gs_ne rfl rfl g0)) rfl ?_
      obtain ⟨fs236, u237, e238, f239, t240⟩ := I202.1.get o0 (k := 3) rfl rfl
      obtain ⟨i241, rfl, o242⟩ := t240
      refine k_get 35 rfl e238 f239 rfl ?_
      refine k_push 36 rfl rfl ?_
      refine k_cl (W' := []) rfl (rw_cut (W := []) I202.1 (Or.inl o242)) rfl rfl rfl (I202.1.rc3 (Or.inl o242)) I202 (by decide) (okL_set (i := 2) (v := .inl (0 : Int32)) rfl (okL_set (i := 1) (v := .inl x205) rfl L203)) so_n ?_
      rintro w243 h244 c245 s246 hv I247 L248 F249
      cases hv
      show am_Ok _ _ _ (39, _, [], h244, c245, s246) _
      refine k_push 40 rfl rfl ?_
      refine k_istore 41 rfl rfl ?_
      exact b_X1_goThrough_41 _ rfl (gs_ne rfl rfl (gs_ne rfl rfl (gs_ne rfl rfl g0))) o0 (gs_ne rfl rfl (gs_ne rfl rfl gs_eq)) (gs_ne rfl rfl gs_eq) gs_eq (okL_set (i := 3) (v := .inl (1 : Int32)) rfl L248) I247
theorem c_X1_goThrough {h : am_h} {v0 : Nat} (hT : ty_H h) (o0 : ob 1 v0) : am_Mt 3 35 [.inr (.inr (some v0))] h (ty_Q w_X1_goThrough 0 (ob_P h) h) := am_Mt.of (b_X1_goThrough rfl o0 (okA_r hT o0 okA_n) (ob_I.start hT))
abbrev w_X1_joinPorts : List (Nat × Nat) := []
theorem b_X1_joinPorts_2 {B : Nat} {h0 : am_h} : ∀ (n : Nat) {lv : am_l} {h : am_h} {c s : Nat} {v0 : Nat} {v1 : Int32} , up_m v1 = n → am_get lv 0 = some (.inr (.inr (some v0))) → ob 1 v0 → am_get lv 1 = some (.inl v1) → am_okL h.length lv = true → ob_I w_X1_joinPorts B h0 h c s → am_Ok am_G 2 33 (2, lv, [], h, c, s) (ty_Q w_X1_joinPorts 0 B h0) := by
  intro n
  induction n using Nat.strongRecOn with
  | ind n ih =>
    intro lv h c s v0 v1 hn g0 o0 g1 hL hI
    refine k_iload 3 rfl g1 rfl ?_
    refine k_aload 4 rfl g0 rfl ?_
    refine k_push 7 rfl rfl ?_
    refine k_cl (W' := w_X1_ports) rfl (c_X1_ports hI.1 o0) rfl rfl rfl (hI.1.rc o0 rfl) hI (by decide) hL (so_i so_n) ?_
    rintro w1 h2 c3 s4 hv I5 L6 F7
    obtain ⟨_, rfl, x8, rfl⟩ := hv
    show am_Ok _ _ _ (10, _, [.inl x8, .inl v1], h2, c3, s4) _
    by_cases b9 : x8 ≤ v1
    · refine k_c2 63 rfl rfl (if_pos b9) ?_
      exact k_fin rfl rfl ⟨⟨_, rfl, rfl⟩, I5⟩
    · refine k_c2 13 rfl rfl (if_neg b9) ?_
      refine k_push 16 rfl rfl ?_
      refine k_iload 17 rfl g1 rfl ?_
      obtain ⟨x10, q11⟩ : ∃ q : Int32, q = ((1600 : Int32) + v1) := ⟨_, rfl⟩
      refine k_bin x10 18 rfl q11.symm rfl ?_
      refine k_istore 19 rfl rfl ?_
      refine k_push 22 rfl rfl ?_
      refine k_iload 23 rfl (gs_ne rfl rfl g1) rfl ?_
      obtain ⟨x12, q13⟩ : ∃ q : Int32, q = ((1604 : Int32) + v1) := ⟨_, rfl⟩
      refine k_bin x12 24 rfl q13.symm rfl ?_
      refine k_istore 25 rfl rfl ?_
      refine k_aload 26 rfl (gs_ne rfl rfl (gs_ne rfl rfl g0)) rfl ?_
      obtain ⟨fs14, u15, e16, f17, t18⟩ := I5.1.get o0 (k := 2) rfl rfl
      obtain ⟨i19, rfl, o20⟩ := t18
      refine k_get 29 rfl e16 f17 rfl ?_
      refine k_iload 30 rfl (gs_ne rfl rfl gs_eq) rfl ?_
      refine k_cl (W' := []) rfl (rw_get I5.1 (Or.inl o20)) rfl rfl rfl (I5.1.rc3 (Or.inl o20)) I5 (by decide) (okL_set (i := 3) (v := .inl x12) rfl (okL_set (i := 2) (v := .inl x10) rfl L6)) so_n ?_
      rintro w21 h22 c23 s24 hv I25 L26 F27
      obtain ⟨_, rfl, x28, rfl⟩ := hv
      show am_Ok _ _ _ (33, _, [.inl x28], h22, c23, s24) _
      refine k_iload 34 rfl gs_eq rfl ?_
      by_cases b29 : x28 = x12
      · refine k_c2 57 rfl rfl (if_pos b29) ?_
        refine k_iinc (v1 + 1) 60 rfl (gs_ne rfl rfl (gs_ne rfl rfl g1)) rfl rfl ?_
        refine k_goto 2 rfl rfl ?_
        exact ih _ (by rw [← hn]; exact up_lt b9) rfl (gs_ne rfl rfl (gs_ne rfl rfl (gs_ne rfl rfl g0))) o0 gs_eq (okL_set (i := 1) (v := .inl (v1 + 1)) rfl L26) I25
      · refine k_c2 37 rfl rfl (if_neg b29) ?_
        refine k_aload 38 rfl (gs_ne rfl rfl (gs_ne rfl rfl g0)) rfl ?_
        refine k_aload 39 rfl (gs_ne rfl rfl (gs_ne rfl rfl g0)) rfl ?_
        obtain ⟨fs30, u31, e32, f33, t34⟩ := I25.1.get o0 (k := 2) rfl rfl
        obtain ⟨i35, rfl, o36⟩ := t34
        refine k_get 42 rfl e32 f33 rfl ?_
        refine k_iload 43 rfl (gs_ne rfl rfl gs_eq) rfl ?_
        refine k_cl (W' := []) rfl (rw_get I25.1 (Or.inl o36)) rfl rfl rfl (I25.1.rc3 (Or.inl o36)) I25 (by decide) L26 (so_r I25 o0 so_n) ?_
        rintro w37 h38 c39 s40 hv I41 L42 F43
        obtain ⟨_, rfl, x44, rfl⟩ := hv
        show am_Ok _ _ _ (46, _, [.inl x44, .inr (.inr (some v0))], h38, c39, s40) _
        refine k_aload 47 rfl (gs_ne rfl rfl (gs_ne rfl rfl g0)) rfl ?_
        obtain ⟨fs45, u46, e47, f48, t49⟩ := I41.1.get o0 (k := 2) rfl rfl
        obtain ⟨i50, rfl, o51⟩ := t49
        refine k_get 50 rfl e47 f48 rfl ?_
        refine k_iload 51 rfl gs_eq rfl ?_
        refine k_cl (W' := []) rfl (rw_get I41.1 (Or.inl o51)) rfl rfl rfl (I41.1.rc3 (Or.inl o51)) I41 (by decide) L42 (so_i (so_r I41 o0 so_n)) ?_
        rintro w52 h53 c54 s55 hv I56 L57 F58
        obtain ⟨_, rfl, x59, rfl⟩ := hv
        show am_Ok _ _ _ (54, _, [.inl x59, .inl x44, .inr (.inr (some v0))], h53, c54, s55) _
        refine k_cl (W' := w_X1_link) rfl (c_X1_link I56.1 o0) rfl rfl rfl (I56.1.rc o0 rfl) I56 (by decide) L57 so_n ?_
        rintro w60 h61 c62 s63 hv I64 L65 F66
        cases hv
        show am_Ok _ _ _ (57, _, [], h61, c62, s63) _
        refine k_iinc (v1 + 1) 60 rfl (gs_ne rfl rfl (gs_ne rfl rfl g1)) rfl rfl ?_
        refine k_goto 2 rfl rfl ?_
        exact ih _ (by rw [← hn]; exact up_lt b9) rfl (gs_ne rfl rfl (gs_ne rfl rfl (gs_ne rfl rfl g0))) o0 gs_eq (okL_set (i := 1) (v := .inl (v1 + 1)) rfl L65) I64
theorem b_X1_joinPorts {B : Nat} {h0 : am_h} {lv : am_l} {h : am_h} {c s : Nat} {v0 : Nat} (g0 : am_get lv 0 = some (.inr (.inr (some v0)))) (o0 : ob 1 v0) (hL : am_okL h.length lv = true) (hI : ob_I w_X1_joinPorts B h0 h c s) : am_Ok am_G 2 33 (0, lv, [], h, c, s) (ty_Q w_X1_joinPorts 0 B h0) := by
  refine k_push 1 rfl rfl ?_
  refine k_istore 2 rfl rfl ?_
  exact b_X1_joinPorts_2 _ rfl (gs_ne rfl rfl g0) o0 gs_eq (okL_set (i := 1) (v := .inl (1 : Int32)) rfl hL) hI
theorem c_X1_joinPorts {h : am_h} {v0 : Nat} (hT : ty_H h) (o0 : ob 1 v0) : am_Mt 3 33 [.inr (.inr (some v0))] h (ty_Q w_X1_joinPorts 0 (ob_P h) h) := am_Mt.of (b_X1_joinPorts rfl o0 (okA_r hT o0 okA_n) (ob_I.start hT))
abbrev w_X1_leads : List (Nat × Nat) := []
theorem b_X1_leads {B : Nat} {h0 : am_h} {lv : am_l} {h : am_h} {c s : Nat} {v0 : Nat} {v1 : Int32} {v2 : Int32} (g0 : am_get lv 0 = some (.inr (.inr (some v0)))) (o0 : ob 1 v0) (g1 : am_get lv 1 = some (.inl v1)) (g2 : am_get lv 2 = some (.inl v2)) (hL : am_okL h.length lv = true) (hI : ob_I w_X1_leads B h0 h c s) : am_Ok am_G 1 30 (0, lv, [], h, c, s) (ty_Q w_X1_leads 3 B h0) := by
  refine k_aload 1 rfl g0 rfl ?_
  obtain ⟨fs1, u2, e3, f4, t5⟩ := hI.1.get o0 (k := 0) rfl rfl
  obtain ⟨i6, rfl, o7⟩ := t5
  refine k_get 4 rfl e3 f4 rfl ?_
  refine k_iload 5 rfl g1 rfl ?_
  refine k_cl (W' := []) rfl (rw_get hI.1 (Or.inl o7)) rfl rfl rfl (hI.1.rc3 (Or.inl o7)) hI (by decide) hL so_n ?_
  rintro w8 h9 c10 s11 hv I12 L13 F14
  obtain ⟨_, rfl, x15, rfl⟩ := hv
  show am_Ok _ _ _ (8, _, [.inl x15], h9, c10, s11) _
  refine k_push 10 rfl rfl ?_
  by_cases b16 : x15 = (6 : Int32)
  · refine k_c2 26 rfl rfl (if_pos b16) ?_
    refine k_aload 27 rfl g0 rfl ?_
    obtain ⟨fs17, u18, e19, f20, t21⟩ := I12.1.get o0 (k := 0) rfl rfl
    obtain ⟨i22, rfl, o23⟩ := t21
    refine k_get 30 rfl e19 f20 rfl ?_
    refine k_iload 31 rfl g1 rfl ?_
    refine k_cl (W' := []) rfl (rw_get I12.1 (Or.inl o23)) rfl rfl rfl (I12.1.rc3 (Or.inl o23)) I12 (by decide) L13 so_n ?_
    rintro w24 h25 c26 s27 hv I28 L29 F30
    obtain ⟨_, rfl, x31, rfl⟩ := hv
    show am_Ok _ _ _ (34, _, [.inl x31], h25, c26, s27) _
    refine k_push 36 rfl rfl ?_
    by_cases b32 : x31 = (6 : Int32)
    · refine k_c2 39 rfl rfl (if_pos b32) ?_
      refine k_push 40 rfl rfl ?_
      refine k_goto 44 rfl rfl ?_
      exact k_fin rfl (fin_Z (Or.inr rfl)) ⟨⟨_, rfl, ⟨_, rfl, _, rfl, (Or.inr rfl)⟩⟩, I28⟩
    · refine k_c2 43 rfl rfl (if_neg b32) ?_
      refine k_push 44 rfl rfl ?_
      exact k_fin rfl (fin_Z (Or.inl rfl)) ⟨⟨_, rfl, ⟨_, rfl, _, rfl, (Or.inl rfl)⟩⟩, I28⟩
  · refine k_c2 13 rfl rfl (if_neg b16) ?_
    refine k_aload 14 rfl g0 rfl ?_
    obtain ⟨fs33, u34, e35, f36, t37⟩ := I12.1.get o0 (k := 0) rfl rfl
    obtain ⟨i38, rfl, o39⟩ := t37
    refine k_get 17 rfl e35 f36 rfl ?_
    refine k_iload 18 rfl g2 rfl ?_
    refine k_cl (W' := []) rfl (rw_get I12.1 (Or.inl o39)) rfl rfl rfl (I12.1.rc3 (Or.inl o39)) I12 (by decide) L13 so_n ?_
    rintro w40 h41 c42 s43 hv I44 L45 F46
    obtain ⟨_, rfl, x47, rfl⟩ := hv
    show am_Ok _ _ _ (21, _, [.inl x47], h41, c42, s43) _
    refine k_push 23 rfl rfl ?_
    by_cases b48 : x47 = (6 : Int32)
    · refine k_c2 26 rfl rfl (if_pos b48) ?_
      refine k_aload 27 rfl g0 rfl ?_
      obtain ⟨fs49, u50, e51, f52, t53⟩ := I44.1.get o0 (k := 0) rfl rfl
      obtain ⟨i54, rfl, o55⟩ := t53
      refine k_get 30 rfl e51 f52 rfl ?_
      refine k_iload 31 rfl g1 rfl ?_
      refine k_cl (W' := []) rfl (rw_get I44.1 (Or.inl o55)) rfl rfl rfl (I44.1.rc3 (Or.inl o55)) I44 (by decide) L45 so_n ?_
      rintro w56 h57 c58 s59 hv I60 L61 F62
      obtain ⟨_, rfl, x63, rfl⟩ := hv
      show am_Ok _ _ _ (34, _, [.inl x63], h57, c58, s59) _
      refine k_push 36 rfl rfl ?_
      by_cases b64 : x63 = (6 : Int32)
      · refine k_c2 39 rfl rfl (if_pos b64) ?_
        refine k_push 40 rfl rfl ?_
        refine k_goto 44 rfl rfl ?_
        exact k_fin rfl (fin_Z (Or.inr rfl)) ⟨⟨_, rfl, ⟨_, rfl, _, rfl, (Or.inr rfl)⟩⟩, I60⟩
      · refine k_c2 43 rfl rfl (if_neg b64) ?_
        refine k_push 44 rfl rfl ?_
        exact k_fin rfl (fin_Z (Or.inl rfl)) ⟨⟨_, rfl, ⟨_, rfl, _, rfl, (Or.inl rfl)⟩⟩, I60⟩
    · refine k_c2 45 rfl rfl (if_neg b48) ?_
      refine k_aload 46 rfl g0 rfl ?_
      obtain ⟨fs65, u66, e67, f68, t69⟩ := I44.1.get o0 (k := 1) rfl rfl
      obtain ⟨i70, rfl, o71⟩ := t69
      refine k_get 49 rfl e67 f68 rfl ?_
      refine k_iload 50 rfl g1 rfl ?_
      refine k_cl (W' := []) rfl (rw_get I44.1 (Or.inl o71)) rfl rfl rfl (I44.1.rc3 (Or.inl o71)) I44 (by decide) L45 so_n ?_
      rintro w72 h73 c74 s75 hv I76 L77 F78
      obtain ⟨_, rfl, x79, rfl⟩ := hv
      show am_Ok _ _ _ (53, _, [.inl x79], h73, c74, s75) _
      refine k_aload 54 rfl g0 rfl ?_
      obtain ⟨fs80, u81, e82, f83, t84⟩ := I76.1.get o0 (k := 1) rfl rfl
      obtain ⟨i85, rfl, o86⟩ := t84
      refine k_get 57 rfl e82 f83 rfl ?_
      refine k_iload 58 rfl g2 rfl ?_
      refine k_cl (W' := []) rfl (rw_get I76.1 (Or.inl o86)) rfl rfl rfl (I76.1.rc3 (Or.inl o86)) I76 (by decide) L77 (so_i so_n) ?_
      rintro w87 h88 c89 s90 hv I91 L92 F93
      obtain ⟨_, rfl, x94, rfl⟩ := hv
      show am_Ok _ _ _ (61, _, [.inl x94, .inl x79], h88, c89, s90) _
      by_cases b95 : x94 ≤ x79
      · refine k_c2 68 rfl rfl (if_pos b95) ?_
        refine k_push 69 rfl rfl ?_
        exact k_fin rfl (fin_Z (Or.inl rfl)) ⟨⟨_, rfl, ⟨_, rfl, _, rfl, (Or.inl rfl)⟩⟩, I91⟩
      · refine k_c2 64 rfl rfl (if_neg b95) ?_
        refine k_push 65 rfl rfl ?_
        refine k_goto 69 rfl rfl ?_
        exact k_fin rfl (fin_Z (Or.inr rfl)) ⟨⟨_, rfl, ⟨_, rfl, _, rfl, (Or.inr rfl)⟩⟩, I91⟩
theorem c_X1_leads {h : am_h} {v0 : Nat} {v1 : Int32} {v2 : Int32} (hT : ty_H h) (o0 : ob 1 v0) : am_Mt 2 30 [.inr (.inr (some v0)), .inl v1, .inl v2] h (ty_Q w_X1_leads 3 (ob_P h) h) := am_Mt.of (b_X1_leads rfl o0 rfl rfl (okA_r hT o0 (okA_i (okA_i okA_n))) (ob_I.start hT))
abbrev w_X1_lift : List (Nat × Nat) := [(1, 4), (1, 5)]
theorem b_X1_lift_34 {B : Nat} {h0 : am_h} : ∀ (n : Nat) {lv : am_l} {h : am_h} {c s : Nat} {v0 : Nat} {v1 : Int32} {v2 : Int32} {v3 : Int32} , up_m v3 = n → am_get lv 0 = some (.inr (.inr (some v0))) → ob 1 v0 → am_get lv 1 = some (.inl v1) → am_get lv 2 = some (.inl v2) → am_get lv 3 = some (.inl v3) → am_okL h.length lv = true → ob_I w_X1_lift B h0 h c s → am_Ok am_G 2 32 (34, lv, [], h, c, s) (ty_Q w_X1_lift 0 B h0) := by
  intro n
  induction n using Nat.strongRecOn with
  | ind n ih =>
    intro lv h c s v0 v1 v2 v3 hn g0 o0 g1 g2 g3 hL hI
    refine k_iload 35 rfl g3 rfl ?_
    refine k_aload 36 rfl g0 rfl ?_
    refine k_iload 37 rfl g2 rfl ?_
    refine k_cl (W' := w_X1_ports) rfl (c_X1_ports hI.1 o0) rfl rfl rfl (hI.1.rc o0 rfl) hI (by decide) hL (so_i so_n) ?_
    rintro w1 h2 c3 s4 hv I5 L6 F7
    obtain ⟨_, rfl, x8, rfl⟩ := hv
    show am_Ok _ _ _ (40, _, [.inl x8, .inl v3], h2, c3, s4) _
    by_cases b9 : x8 ≤ v3
    · refine k_c2 70 rfl rfl (if_pos b9) ?_
      refine k_aload 71 rfl g0 rfl ?_
      obtain ⟨fs10, u11, e12, f13, t14⟩ := I5.1.get o0 (k := 0) rfl rfl
      obtain ⟨i15, rfl, o16⟩ := t14
      refine k_get 74 rfl e12 f13 rfl ?_
      refine k_iload 75 rfl g1 rfl ?_
      refine k_push 76 rfl rfl ?_
      refine k_cl (W' := []) rfl (rw_set I5.1 o16) rfl rfl rfl (I5.1.rc3 (Or.inl o16)) I5 (by decide) L6 so_n ?_
      rintro w17 h18 c19 s20 hv I21 L22 F23
      cases hv
      show am_Ok _ _ _ (79, _, [], h18, c19, s20) _
      refine k_aload 80 rfl g0 rfl ?_
      refine k_dup 81 rfl rfl rfl ?_
      obtain ⟨fs24, u25, e26, f27, t28⟩ := I21.1.get o0 (k := 4) rfl rfl
      obtain ⟨x29, rfl⟩ := t28
      refine k_get 84 rfl e26 f27 rfl ?_
      refine k_push 85 rfl rfl ?_
      obtain ⟨x30, q31⟩ : ∃ q : Int32, q = (x29 - (1 : Int32)) := ⟨_, rfl⟩
      refine k_bin x30 86 rfl q31.symm rfl ?_
      obtain ⟨fs32, u33, e34, f35, t36⟩ := I21.1.get o0 (k := 4) rfl rfl
      refine k_put 89 rfl e34 rfl (List.getElem?_eq_some_iff.mp f35).1 rfl ?_
      obtain ⟨h37, E40, I38, l41⟩ := I21.put (v := .inl x30) o0 rfl e34 (k := 4) rfl (show ty_V 0 (.inl x30) from ⟨_, rfl⟩) (by decide) rfl
      rw [E40]
      have L39 := okL_eq l41 L22
      refine k_aload 90 rfl g0 rfl ?_
      refine k_aload 91 rfl g0 rfl ?_
      obtain ⟨fs42, u43, e44, f45, t46⟩ := I38.1.get o0 (k := 5) rfl rfl
      obtain ⟨x47, rfl⟩ := t46
      refine k_get 94 rfl e44 f45 rfl ?_
      refine k_iload 95 rfl g1 rfl ?_
      obtain ⟨x48, q49⟩ : ∃ q : Int32, q = (if v1 < x47 then v1 else x47) := ⟨_, rfl⟩
      refine k_mathZ x48 98 rfl rfl q49.symm rfl ?_
      obtain ⟨fs50, u51, e52, f53, t54⟩ := I38.1.get o0 (k := 5) rfl rfl
      refine k_put 101 rfl e52 rfl (List.getElem?_eq_some_iff.mp f53).1 rfl ?_
      obtain ⟨h55, E58, I56, l59⟩ := I38.put (v := .inl x48) o0 rfl e52 (k := 5) rfl (show ty_V 0 (.inl x48) from ⟨_, rfl⟩) (by decide) rfl
      rw [E58]
      have L57 := okL_eq l59 L39
      exact k_fin rfl rfl ⟨⟨_, rfl, rfl⟩, I56⟩
    · refine k_c2 43 rfl rfl (if_neg b9) ?_
      refine k_aload 44 rfl g0 rfl ?_
      refine k_push 45 rfl rfl ?_
      refine k_iload 46 rfl g2 rfl ?_
      obtain ⟨x60, q61⟩ : ∃ q : Int32, q = ((4 : Int32) * v2) := ⟨_, rfl⟩
      refine k_bin x60 47 rfl q61.symm rfl ?_
      refine k_iload 48 rfl g3 rfl ?_
      obtain ⟨x62, q63⟩ : ∃ q : Int32, q = (x60 + v3) := ⟨_, rfl⟩
      refine k_bin x62 49 rfl q63.symm rfl ?_
      refine k_aload 50 rfl g0 rfl ?_
      obtain ⟨fs64, u65, e66, f67, t68⟩ := I5.1.get o0 (k := 2) rfl rfl
      obtain ⟨i69, rfl, o70⟩ := t68
      refine k_get 53 rfl e66 f67 rfl ?_
      refine k_push 54 rfl rfl ?_
      refine k_iload 55 rfl g1 rfl ?_
      obtain ⟨x71, q72⟩ : ∃ q : Int32, q = ((4 : Int32) * v1) := ⟨_, rfl⟩
      refine k_bin x71 56 rfl q72.symm rfl ?_
      refine k_iload 57 rfl g3 rfl ?_
      obtain ⟨x73, q74⟩ : ∃ q : Int32, q = (x71 + v3) := ⟨_, rfl⟩
      refine k_bin x73 58 rfl q74.symm rfl ?_
      refine k_cl (W' := []) rfl (rw_get I5.1 (Or.inl o70)) rfl rfl rfl (I5.1.rc3 (Or.inl o70)) I5 (by decide) L6 (so_i (so_r I5 o0 so_n)) ?_
      rintro w75 h76 c77 s78 hv I79 L80 F81
      obtain ⟨_, rfl, x82, rfl⟩ := hv
      show am_Ok _ _ _ (61, _, [.inl x82, .inl x62, .inr (.inr (some v0))], h76, c77, s78) _
      refine k_cl (W' := w_X1_link) rfl (c_X1_link I79.1 o0) rfl rfl rfl (I79.1.rc o0 rfl) I79 (by decide) L80 so_n ?_
      rintro w83 h84 c85 s86 hv I87 L88 F89
      cases hv
      show am_Ok _ _ _ (64, _, [], h84, c85, s86) _
      refine k_iinc (v3 + 1) 67 rfl g3 rfl rfl ?_
      refine k_goto 34 rfl rfl ?_
      exact ih _ (by rw [← hn]; exact up_lt b9) rfl (gs_ne rfl rfl g0) o0 (gs_ne rfl rfl g1) (gs_ne rfl rfl g2) gs_eq (okL_set (i := 3) (v := .inl (v3 + 1)) rfl L88) I87
theorem b_X1_lift {B : Nat} {h0 : am_h} {lv : am_l} {h : am_h} {c s : Nat} {v0 : Nat} {v1 : Int32} {v2 : Int32} (g0 : am_get lv 0 = some (.inr (.inr (some v0)))) (o0 : ob 1 v0) (g1 : am_get lv 1 = some (.inl v1)) (g2 : am_get lv 2 = some (.inl v2)) (hL : am_okL h.length lv = true) (hI : ob_I w_X1_lift B h0 h c s) : am_Ok am_G 2 32 (0, lv, [], h, c, s) (ty_Q w_X1_lift 0 B h0) := by
  refine k_aload 1 rfl g0 rfl ?_
  obtain ⟨fs90, u91, e92, f93, t94⟩ := hI.1.get o0 (k := 0) rfl rfl
  obtain ⟨i95, rfl, o96⟩ := t94
  refine k_get 4 rfl e92 f93 rfl ?_
  refine k_iload 5 rfl g2 rfl ?_
  refine k_aload 6 rfl g0 rfl ?_
  obtain ⟨fs97, u98, e99, f100, t101⟩ := hI.1.get o0 (k := 0) rfl rfl
  obtain ⟨i102, rfl, o103⟩ := t101
  refine k_get 9 rfl e99 f100 rfl ?_
  refine k_iload 10 rfl g1 rfl ?_
  refine k_cl (W' := []) rfl (rw_get hI.1 (Or.inl o103)) rfl rfl rfl (hI.1.rc3 (Or.inl o103)) hI (by decide) hL (so_i (so_r hI o96 so_n)) ?_
  rintro w104 h105 c106 s107 hv I108 L109 F110
  obtain ⟨_, rfl, x111, rfl⟩ := hv
  show am_Ok _ _ _ (13, _, [.inl x111, .inl v2, .inr (.inr (some i95))], h105, c106, s107) _
  refine k_cl (W' := []) rfl (rw_set I108.1 o96) rfl rfl rfl (I108.1.rc3 (Or.inl o96)) I108 (by decide) L109 so_n ?_
  rintro w112 h113 c114 s115 hv I116 L117 F118
  cases hv
  show am_Ok _ _ _ (16, _, [], h113, c114, s115) _
  refine k_aload 17 rfl g0 rfl ?_
  obtain ⟨fs119, u120, e121, f122, t123⟩ := I116.1.get o0 (k := 1) rfl rfl
  obtain ⟨i124, rfl, o125⟩ := t123
  refine k_get 20 rfl e121 f122 rfl ?_
  refine k_iload 21 rfl g2 rfl ?_
  refine k_aload 22 rfl g0 rfl ?_
  obtain ⟨fs126, u127, e128, f129, t130⟩ := I116.1.get o0 (k := 1) rfl rfl
  obtain ⟨i131, rfl, o132⟩ := t130
  refine k_get 25 rfl e128 f129 rfl ?_
  refine k_iload 26 rfl g1 rfl ?_
  refine k_cl (W' := []) rfl (rw_get I116.1 (Or.inl o132)) rfl rfl rfl (I116.1.rc3 (Or.inl o132)) I116 (by decide) L117 (so_i (so_r I116 o125 so_n)) ?_
  rintro w133 h134 c135 s136 hv I137 L138 F139
  obtain ⟨_, rfl, x140, rfl⟩ := hv
  show am_Ok _ _ _ (29, _, [.inl x140, .inl v2, .inr (.inr (some i124))], h134, c135, s136) _
  refine k_cl (W' := []) rfl (rw_set I137.1 o125) rfl rfl rfl (I137.1.rc3 (Or.inl o125)) I137 (by decide) L138 so_n ?_
  rintro w141 h142 c143 s144 hv I145 L146 F147
  cases hv
  show am_Ok _ _ _ (32, _, [], h142, c143, s144) _
  refine k_push 33 rfl rfl ?_
  refine k_istore 34 rfl rfl ?_
  exact b_X1_lift_34 _ rfl (gs_ne rfl rfl g0) o0 (gs_ne rfl rfl g1) (gs_ne rfl rfl g2) gs_eq (okL_set (i := 3) (v := .inl (0 : Int32)) rfl L146) I145
theorem c_X1_lift {h : am_h} {v0 : Nat} {v1 : Int32} {v2 : Int32} (hT : ty_H h) (o0 : ob 1 v0) : am_Mt 3 32 [.inr (.inr (some v0)), .inl v1, .inl v2] h (ty_Q w_X1_lift 0 (ob_P h) h) := am_Mt.of (b_X1_lift rfl o0 rfl rfl (okA_r hT o0 (okA_i (okA_i okA_n))) (ob_I.start hT))
abbrev w_X1_newNodes : List (Nat × Nat) := []
theorem b_X1_newNodes {B : Nat} {h0 : am_h} {lv : am_l} {h : am_h} {c s : Nat} {v0 : Nat} {v1 : Int32} {v2 : Int32} {v3 : Int32} (g0 : am_get lv 0 = some (.inr (.inr (some v0)))) (o0 : ob 1 v0) (g1 : am_get lv 1 = some (.inl v1)) (g2 : am_get lv 2 = some (.inl v2)) (g3 : am_get lv 3 = some (.inl v3)) (hL : am_okL h.length lv = true) (hI : ob_I w_X1_newNodes B h0 h c s) : am_Ok am_G 2 31 (0, lv, [], h, c, s) (ty_Q w_X1_newNodes 2 B h0) := by
  refine k_iload 1 rfl g1 rfl ?_
  refine k_push 2 rfl rfl ?_
  by_cases b1 : v1 = (1 : Int32)
  · refine k_c2 10 rfl rfl (if_pos b1) ?_
    refine k_push 11 rfl rfl ?_
    exact k_fin rfl rfl ⟨⟨_, rfl, ⟨_, rfl, _, rfl⟩⟩, hI⟩
  · refine k_c2 5 rfl rfl (if_neg b1) ?_
    refine k_iload 6 rfl g1 rfl ?_
    refine k_push 7 rfl rfl ?_
    by_cases b2 : v1 = (2 : Int32)
    · refine k_c2 10 rfl rfl (if_pos b2) ?_
      refine k_push 11 rfl rfl ?_
      exact k_fin rfl rfl ⟨⟨_, rfl, ⟨_, rfl, _, rfl⟩⟩, hI⟩
    · refine k_c2 12 rfl rfl (if_neg b2) ?_
      refine k_aload 13 rfl g0 rfl ?_
      refine k_iload 14 rfl g2 rfl ?_
      refine k_cl (W' := w_X1_ports) rfl (c_X1_ports hI.1 o0) rfl rfl rfl (hI.1.rc o0 rfl) hI (by decide) hL so_n ?_
      rintro w3 h4 c5 s6 hv I7 L8 F9
      obtain ⟨_, rfl, x10, rfl⟩ := hv
      show am_Ok _ _ _ (17, _, [.inl x10], h4, c5, s6) _
      refine k_push 18 rfl rfl ?_
      obtain ⟨x11, q12⟩ : ∃ q : Int32, q = (x10 - (1 : Int32)) := ⟨_, rfl⟩
      refine k_bin x11 19 rfl q12.symm rfl ?_
      refine k_aload 20 rfl g0 rfl ?_
      refine k_iload 21 rfl g3 rfl ?_
      refine k_cl (W' := w_X1_ports) rfl (c_X1_ports I7.1 o0) rfl rfl rfl (I7.1.rc o0 rfl) I7 (by decide) L8 (so_i so_n) ?_
      rintro w13 h14 c15 s16 hv I17 L18 F19
      obtain ⟨_, rfl, x20, rfl⟩ := hv
      show am_Ok _ _ _ (24, _, [.inl x20, .inl x11], h14, c15, s16) _
      obtain ⟨x21, q22⟩ : ∃ q : Int32, q = (x11 + x20) := ⟨_, rfl⟩
      refine k_bin x21 25 rfl q22.symm rfl ?_
      refine k_push 26 rfl rfl ?_
      obtain ⟨x23, q24⟩ : ∃ q : Int32, q = (x21 - (1 : Int32)) := ⟨_, rfl⟩
      refine k_bin x23 27 rfl q24.symm rfl ?_
      exact k_fin rfl rfl ⟨⟨_, rfl, ⟨_, rfl, _, rfl⟩⟩, I17⟩
theorem c_X1_newNodes {h : am_h} {v0 : Nat} {v1 : Int32} {v2 : Int32} {v3 : Int32} (hT : ty_H h) (o0 : ob 1 v0) : am_Mt 3 31 [.inr (.inr (some v0)), .inl v1, .inl v2, .inl v3] h (ty_Q w_X1_newNodes 2 (ob_P h) h) := am_Mt.of (b_X1_newNodes rfl o0 rfl rfl rfl (okA_r hT o0 (okA_i (okA_i (okA_i okA_n)))) (ob_I.start hT))
abbrev w_X1_workOff : List (Nat × Nat) := [(1, 4), (1, 5), (1, 6), (1, 7)]
theorem b_X1_workOff {B : Nat} {h0 : am_h} {lv : am_l} {h : am_h} {c s : Nat} {v0 : Nat} {v1 : Int32} (g0 : am_get lv 0 = some (.inr (.inr (some v0)))) (o0 : ob 1 v0) (g1 : am_get lv 1 = some (.inl v1)) (hL : am_okL h.length lv = true) (hI : ob_I w_X1_workOff B h0 h c s) : am_Ok am_G 3 29 (0, lv, [], h, c, s) (ty_Q w_X1_workOff 2 B h0) := by
  refine k_aload 1 rfl g0 rfl ?_
  obtain ⟨fs1, u2, e3, f4, t5⟩ := hI.1.get o0 (k := 2) rfl rfl
  obtain ⟨i6, rfl, o7⟩ := t5
  refine k_get 4 rfl e3 f4 rfl ?_
  refine k_push 5 rfl rfl ?_
  refine k_iload 6 rfl g1 rfl ?_
  obtain ⟨x8, q9⟩ : ∃ q : Int32, q = ((4 : Int32) * v1) := ⟨_, rfl⟩
  refine k_bin x8 7 rfl q9.symm rfl ?_
  refine k_cl (W' := []) rfl (rw_get hI.1 (Or.inl o7)) rfl rfl rfl (hI.1.rc3 (Or.inl o7)) hI (by decide) hL so_n ?_
  rintro w10 h11 c12 s13 hv I14 L15 F16
  obtain ⟨_, rfl, x17, rfl⟩ := hv
  show am_Ok _ _ _ (10, _, [.inl x17], h11, c12, s13) _
  refine k_push 11 rfl rfl ?_
  obtain ⟨x18, q19⟩ : ∃ q : Int32, q = (x17 / (4 : Int32)) := ⟨_, rfl⟩
  refine k_divZ x18 12 rfl (by decide) q19.symm rfl ?_
  refine k_istore 13 rfl rfl ?_
  refine k_aload 14 rfl (gs_ne rfl rfl g0) rfl ?_
  refine k_iload 15 rfl (gs_ne rfl rfl g1) rfl ?_
  refine k_iload 16 rfl gs_eq rfl ?_
  refine k_cl (W' := w_X1_stepKind) rfl (c_X1_stepKind I14.1 o0) rfl rfl rfl (I14.1.rc o0 rfl) I14 (by decide) (okL_set (i := 2) (v := .inl x18) rfl L15) so_n ?_
  rintro w20 h21 c22 s23 hv I24 L25 F26
  obtain ⟨_, rfl, x27, rfl⟩ := hv
  show am_Ok _ _ _ (19, _, [.inl x27], h21, c22, s23) _
  refine k_istore 20 rfl rfl ?_
  refine k_iload 21 rfl gs_eq rfl ?_
  refine k_push 23 rfl rfl ?_
  by_cases b28 : x27 = (-2 : Int32)
  · refine k_c2 26 rfl rfl (if_pos b28) ?_
    refine k_push 28 rfl rfl ?_
    exact k_fin rfl rfl ⟨⟨_, rfl, ⟨_, rfl, _, rfl⟩⟩, I24⟩
  · refine k_c2 29 rfl rfl (if_neg b28) ?_
    refine k_aload 30 rfl (gs_ne rfl rfl (gs_ne rfl rfl g0)) rfl ?_
    refine k_iload 31 rfl (gs_ne rfl rfl (gs_ne rfl rfl g1)) rfl ?_
    refine k_iload 32 rfl (gs_ne rfl rfl gs_eq) rfl ?_
    refine k_cl (W' := w_X1_leads) rfl (c_X1_leads I24.1 o0) rfl rfl rfl (I24.1.rc o0 rfl) I24 (by decide) (okL_set (i := 3) (v := .inl x27) rfl L25) so_n ?_
    rintro w29 h30 c31 s32 hv I33 L34 F35
    obtain ⟨_, rfl, x36, rfl, z37⟩ := hv
    show am_Ok _ _ _ (35, _, [.inl x36], h30, c31, s32) _
    refine k_istore 37 rfl rfl ?_
    refine k_iload 39 rfl gs_eq rfl ?_
    by_cases b38 : x36 = 0
    · refine k_c1 46 rfl rfl (if_pos b38) ?_
      refine k_iload 47 rfl (gs_ne rfl rfl (gs_ne rfl rfl gs_eq)) rfl ?_
      refine k_istore 49 rfl rfl ?_
      refine k_iload 51 rfl (gs_ne rfl rfl gs_eq) rfl ?_
      by_cases b39 : x36 = 0
      · refine k_c1 58 rfl rfl (if_pos b39) ?_
        refine k_iload 59 rfl (gs_ne rfl rfl (gs_ne rfl rfl (gs_ne rfl rfl (gs_ne rfl rfl g1)))) rfl ?_
        refine k_istore 61 rfl rfl ?_
        refine k_aload 62 rfl (gs_ne rfl rfl (gs_ne rfl rfl (gs_ne rfl rfl (gs_ne rfl rfl (gs_ne rfl rfl g0))))) rfl ?_
        obtain ⟨fs40, u41, e42, f43, t44⟩ := I33.1.get o0 (k := 4) rfl rfl
        obtain ⟨x45, rfl⟩ := t44
        refine k_get 65 rfl e42 f43 rfl ?_
        refine k_push 66 rfl rfl ?_
        obtain ⟨x46, q47⟩ : ∃ q : Int32, q = (x45 - (2 : Int32)) := ⟨_, rfl⟩
        refine k_bin x46 67 rfl q47.symm rfl ?_
        refine k_aload 68 rfl (gs_ne rfl rfl (gs_ne rfl rfl (gs_ne rfl rfl (gs_ne rfl rfl (gs_ne rfl rfl g0))))) rfl ?_
        refine k_iload 69 rfl (gs_ne rfl rfl (gs_ne rfl rfl (gs_ne rfl rfl gs_eq))) rfl ?_
        refine k_iload 71 rfl (gs_ne rfl rfl gs_eq) rfl ?_
        refine k_iload 73 rfl gs_eq rfl ?_
        refine k_cl (W' := w_X1_newNodes) rfl (c_X1_newNodes I33.1 o0) rfl rfl rfl (I33.1.rc o0 rfl) I33 (by decide) (okL_set (i := 6) (v := .inl v1) rfl (okL_set (i := 5) (v := .inl x18) rfl (okL_set (i := 4) (v := .inl x36) rfl L34))) (so_i so_n) ?_
        rintro w48 h49 c50 s51 hv I52 L53 F54
        obtain ⟨_, rfl, x55, rfl⟩ := hv
        show am_Ok _ _ _ (76, _, [.inl x55, .inl x46], h49, c50, s51) _
        obtain ⟨x56, q57⟩ : ∃ q : Int32, q = (x46 + x55) := ⟨_, rfl⟩
        refine k_bin x56 77 rfl q57.symm rfl ?_
        refine k_push 80 rfl rfl ?_
        by_cases b58 : x56 ≤ (400 : Int32)
        · refine k_c2 85 rfl rfl (if_pos b58) ?_
          refine k_aload 86 rfl (gs_ne rfl rfl (gs_ne rfl rfl (gs_ne rfl rfl (gs_ne rfl rfl (gs_ne rfl rfl g0))))) rfl ?_
          refine k_iload 88 rfl (gs_ne rfl rfl gs_eq) rfl ?_
          refine k_push 91 rfl rfl ?_
          refine k_cl (W' := w_X1_lift) rfl (c_X1_lift I52.1 o0) rfl rfl rfl (I52.1.rc o0 rfl) I52 (by decide) L53 so_n ?_
          rintro w59 h60 c61 s62 hv I63 L64 F65
          cases hv
          show am_Ok _ _ _ (94, _, [], h60, c61, s62) _
          refine k_aload 95 rfl (gs_ne rfl rfl (gs_ne rfl rfl (gs_ne rfl rfl (gs_ne rfl rfl (gs_ne rfl rfl g0))))) rfl ?_
          refine k_iload 97 rfl gs_eq rfl ?_
          refine k_push 100 rfl rfl ?_
          refine k_cl (W' := w_X1_lift) rfl (c_X1_lift I63.1 o0) rfl rfl rfl (I63.1.rc o0 rfl) I63 (by decide) L64 so_n ?_
          rintro w66 h67 c68 s69 hv I70 L71 F72
          cases hv
          show am_Ok _ _ _ (103, _, [], h67, c68, s69) _
          refine k_iload 104 rfl (gs_ne rfl rfl (gs_ne rfl rfl (gs_ne rfl rfl gs_eq))) rfl ?_
          by_cases b73 : x27.toInt < 1 ∨ 5 < x27.toInt
          · refine k_sw 154 rfl (if_pos b73) ?_
            refine k_aload 155 rfl (gs_ne rfl rfl (gs_ne rfl rfl (gs_ne rfl rfl (gs_ne rfl rfl (gs_ne rfl rfl g0))))) rfl ?_
            refine k_cl (W' := w_X1_goThrough) rfl (c_X1_goThrough I70.1 o0) rfl rfl rfl (I70.1.rc o0 rfl) I70 (by decide) L71 so_n ?_
            rintro w74 h75 c76 s77 hv I78 L79 F80
            cases hv
            show am_Ok _ _ _ (158, _, [], h75, c76, s77) _
            refine k_iload 159 rfl (gs_ne rfl rfl (gs_ne rfl rfl (gs_ne rfl rfl gs_eq))) rfl ?_
            exact k_fin rfl rfl ⟨⟨_, rfl, ⟨_, rfl, _, rfl⟩⟩, I78⟩
          · have b73 : x27.toInt = 1 ∨ x27.toInt = 2 ∨ x27.toInt = 3 ∨ x27.toInt = 4 ∨ x27.toInt = 5 := by omega
            rcases b73 with b73 | b73 | b73 | b73 | b73
            · refine k_sw 147 rfl (by unfold am_tb; rw [b73]; decide) ?_
              refine k_aload 148 rfl (gs_ne rfl rfl (gs_ne rfl rfl (gs_ne rfl rfl (gs_ne rfl rfl (gs_ne rfl rfl g0))))) rfl ?_
              refine k_cl (W' := w_X1_joinPorts) rfl (c_X1_joinPorts I70.1 o0) rfl rfl rfl (I70.1.rc o0 rfl) I70 (by decide) L71 so_n ?_
              rintro w81 h82 c83 s84 hv I85 L86 F87
              cases hv
              show am_Ok _ _ _ (151, _, [], h82, c83, s84) _
              refine k_goto 158 rfl rfl ?_
              refine k_iload 159 rfl (gs_ne rfl rfl (gs_ne rfl rfl (gs_ne rfl rfl gs_eq))) rfl ?_
              exact k_fin rfl rfl ⟨⟨_, rfl, ⟨_, rfl, _, rfl⟩⟩, I85⟩
            · refine k_sw 147 rfl (by unfold am_tb; rw [b73]; decide) ?_
              refine k_aload 148 rfl (gs_ne rfl rfl (gs_ne rfl rfl (gs_ne rfl rfl (gs_ne rfl rfl (gs_ne rfl rfl g0))))) rfl ?_
              refine k_cl (W' := w_X1_joinPorts) rfl (c_X1_joinPorts I70.1 o0) rfl rfl rfl (I70.1.rc o0 rfl) I70 (by decide) L71 so_n ?_
              rintro w88 h89 c90 s91 hv I92 L93 F94
              cases hv
              show am_Ok _ _ _ (151, _, [], h89, c90, s91) _
              refine k_goto 158 rfl rfl ?_
              refine k_iload 159 rfl (gs_ne rfl rfl (gs_ne rfl rfl (gs_ne rfl rfl gs_eq))) rfl ?_
              exact k_fin rfl rfl ⟨⟨_, rfl, ⟨_, rfl, _, rfl⟩⟩, I92⟩
            · refine k_sw 154 rfl (by unfold am_tb; rw [b73]; decide) ?_
              refine k_aload 155 rfl (gs_ne rfl rfl (gs_ne rfl rfl (gs_ne rfl rfl (gs_ne rfl rfl (gs_ne rfl rfl g0))))) rfl ?_
              refine k_cl (W' := w_X1_goThrough) rfl (c_X1_goThrough I70.1 o0) rfl rfl rfl (I70.1.rc o0 rfl) I70 (by decide) L71 so_n ?_
              rintro w95 h96 c97 s98 hv I99 L100 F101
              cases hv
              show am_Ok _ _ _ (158, _, [], h96, c97, s98) _
              refine k_iload 159 rfl (gs_ne rfl rfl (gs_ne rfl rfl (gs_ne rfl rfl gs_eq))) rfl ?_
              exact k_fin rfl rfl ⟨⟨_, rfl, ⟨_, rfl, _, rfl⟩⟩, I99⟩
            · refine k_sw 154 rfl (by unfold am_tb; rw [b73]; decide) ?_
              refine k_aload 155 rfl (gs_ne rfl rfl (gs_ne rfl rfl (gs_ne rfl rfl (gs_ne rfl rfl (gs_ne rfl rfl g0))))) rfl ?_
              refine k_cl (W' := w_X1_goThrough) rfl (c_X1_goThrough I70.1 o0) rfl rfl rfl (I70.1.rc o0 rfl) I70 (by decide) L71 so_n ?_
              rintro w102 h103 c104 s105 hv I106 L107 F108
              cases hv
              show am_Ok _ _ _ (158, _, [], h103, c104, s105) _
              refine k_iload 159 rfl (gs_ne rfl rfl (gs_ne rfl rfl (gs_ne rfl rfl gs_eq))) rfl ?_
              exact k_fin rfl rfl ⟨⟨_, rfl, ⟨_, rfl, _, rfl⟩⟩, I106⟩
            · refine k_sw 140 rfl (by unfold am_tb; rw [b73]; decide) ?_
              refine k_aload 141 rfl (gs_ne rfl rfl (gs_ne rfl rfl (gs_ne rfl rfl (gs_ne rfl rfl (gs_ne rfl rfl g0))))) rfl ?_
              refine k_cl (W' := w_X1_erase) rfl (c_X1_erase I70.1 o0) rfl rfl rfl (I70.1.rc o0 rfl) I70 (by decide) L71 so_n ?_
              rintro w109 h110 c111 s112 hv I113 L114 F115
              cases hv
              show am_Ok _ _ _ (144, _, [], h110, c111, s112) _
              refine k_goto 158 rfl rfl ?_
              refine k_iload 159 rfl (gs_ne rfl rfl (gs_ne rfl rfl (gs_ne rfl rfl gs_eq))) rfl ?_
              exact k_fin rfl rfl ⟨⟨_, rfl, ⟨_, rfl, _, rfl⟩⟩, I113⟩
        · refine k_c2 83 rfl rfl (if_neg b58) ?_
          refine k_push 84 rfl rfl ?_
          exact k_fin rfl rfl ⟨⟨_, rfl, ⟨_, rfl, _, rfl⟩⟩, I52⟩
      · refine k_c1 54 rfl rfl (if_neg b39) ?_
        refine k_iload 55 rfl (gs_ne rfl rfl (gs_ne rfl rfl (gs_ne rfl rfl gs_eq))) rfl ?_
        refine k_goto 59 rfl rfl ?_
        refine k_istore 61 rfl rfl ?_
        refine k_aload 62 rfl (gs_ne rfl rfl (gs_ne rfl rfl (gs_ne rfl rfl (gs_ne rfl rfl (gs_ne rfl rfl g0))))) rfl ?_
        obtain ⟨fs116, u117, e118, f119, t120⟩ := I33.1.get o0 (k := 4) rfl rfl
        obtain ⟨x121, rfl⟩ := t120
        refine k_get 65 rfl e118 f119 rfl ?_
        refine k_push 66 rfl rfl ?_
        obtain ⟨x122, q123⟩ : ∃ q : Int32, q = (x121 - (2 : Int32)) := ⟨_, rfl⟩
        refine k_bin x122 67 rfl q123.symm rfl ?_
        refine k_aload 68 rfl (gs_ne rfl rfl (gs_ne rfl rfl (gs_ne rfl rfl (gs_ne rfl rfl (gs_ne rfl rfl g0))))) rfl ?_
        refine k_iload 69 rfl (gs_ne rfl rfl (gs_ne rfl rfl (gs_ne rfl rfl gs_eq))) rfl ?_
        refine k_iload 71 rfl (gs_ne rfl rfl gs_eq) rfl ?_
        refine k_iload 73 rfl gs_eq rfl ?_
        refine k_cl (W' := w_X1_newNodes) rfl (c_X1_newNodes I33.1 o0) rfl rfl rfl (I33.1.rc o0 rfl) I33 (by decide) (okL_set (i := 6) (v := .inl x18) rfl (okL_set (i := 5) (v := .inl x18) rfl (okL_set (i := 4) (v := .inl x36) rfl L34))) (so_i so_n) ?_
        rintro w124 h125 c126 s127 hv I128 L129 F130
        obtain ⟨_, rfl, x131, rfl⟩ := hv
        show am_Ok _ _ _ (76, _, [.inl x131, .inl x122], h125, c126, s127) _
        obtain ⟨x132, q133⟩ : ∃ q : Int32, q = (x122 + x131) := ⟨_, rfl⟩
        refine k_bin x132 77 rfl q133.symm rfl ?_
        refine k_push 80 rfl rfl ?_
        by_cases b134 : x132 ≤ (400 : Int32)
        · refine k_c2 85 rfl rfl (if_pos b134) ?_
          refine k_aload 86 rfl (gs_ne rfl rfl (gs_ne rfl rfl (gs_ne rfl rfl (gs_ne rfl rfl (gs_ne rfl rfl g0))))) rfl ?_
          refine k_iload 88 rfl (gs_ne rfl rfl gs_eq) rfl ?_
          refine k_push 91 rfl rfl ?_
          refine k_cl (W' := w_X1_lift) rfl (c_X1_lift I128.1 o0) rfl rfl rfl (I128.1.rc o0 rfl) I128 (by decide) L129 so_n ?_
          rintro w135 h136 c137 s138 hv I139 L140 F141
          cases hv
          show am_Ok _ _ _ (94, _, [], h136, c137, s138) _
          refine k_aload 95 rfl (gs_ne rfl rfl (gs_ne rfl rfl (gs_ne rfl rfl (gs_ne rfl rfl (gs_ne rfl rfl g0))))) rfl ?_
          refine k_iload 97 rfl gs_eq rfl ?_
          refine k_push 100 rfl rfl ?_
          refine k_cl (W' := w_X1_lift) rfl (c_X1_lift I139.1 o0) rfl rfl rfl (I139.1.rc o0 rfl) I139 (by decide) L140 so_n ?_
          rintro w142 h143 c144 s145 hv I146 L147 F148
          cases hv
          show am_Ok _ _ _ (103, _, [], h143, c144, s145) _
          refine k_iload 104 rfl (gs_ne rfl rfl (gs_ne rfl rfl (gs_ne rfl rfl gs_eq))) rfl ?_
          by_cases b149 : x27.toInt < 1 ∨ 5 < x27.toInt
          · refine k_sw 154 rfl (if_pos b149) ?_
            refine k_aload 155 rfl (gs_ne rfl rfl (gs_ne rfl rfl (gs_ne rfl rfl (gs_ne rfl rfl (gs_ne rfl rfl g0))))) rfl ?_
            refine k_cl (W' := w_X1_goThrough) rfl (c_X1_goThrough I146.1 o0) rfl rfl rfl (I146.1.rc o0 rfl) I146 (by decide) L147 so_n ?_
            rintro w150 h151 c152 s153 hv I154 L155 F156
            cases hv
            show am_Ok _ _ _ (158, _, [], h151, c152, s153) _
            refine k_iload 159 rfl (gs_ne rfl rfl (gs_ne rfl rfl (gs_ne rfl rfl gs_eq))) rfl ?_
            exact k_fin rfl rfl ⟨⟨_, rfl, ⟨_, rfl, _, rfl⟩⟩, I154⟩
          · have b149 : x27.toInt = 1 ∨ x27.toInt = 2 ∨ x27.toInt = 3 ∨ x27.toInt = 4 ∨ x27.toInt = 5 := by omega
            rcases b149 with b149 | b149 | b149 | b149 | b149
            · refine k_sw 147 rfl (by unfold am_tb; rw [b149]; decide) ?_
              refine k_aload 148 rfl (gs_ne rfl rfl (gs_ne rfl rfl (gs_ne rfl rfl (gs_ne rfl rfl (gs_ne rfl rfl g0))))) rfl ?_
              refine k_cl (W' := w_X1_joinPorts) rfl (c_X1_joinPorts I146.1 o0) rfl rfl rfl (I146.1.rc o0 rfl) I146 (by decide) L147 so_n ?_
              rintro w157 h158 c159 s160 hv I161 L162 F163
              cases hv
              show am_Ok _ _ _ (151, _, [], h158, c159, s160) _
              refine k_goto 158 rfl rfl ?_
              refine k_iload 159 rfl (gs_ne rfl rfl (gs_ne rfl rfl (gs_ne rfl rfl gs_eq))) rfl ?_
              exact k_fin rfl rfl ⟨⟨_, rfl, ⟨_, rfl, _, rfl⟩⟩, I161⟩
            · refine k_sw 147 rfl (by unfold am_tb; rw [b149]; decide) ?_
              refine k_aload 148 rfl (gs_ne rfl rfl (gs_ne rfl rfl (gs_ne rfl rfl (gs_ne rfl rfl (gs_ne rfl rfl g0))))) rfl ?_
              refine k_cl (W' := w_X1_joinPorts) rfl (c_X1_joinPorts I146.1 o0) rfl rfl rfl (I146.1.rc o0 rfl) I146 (by decide) L147 so_n ?_
              rintro w164 h165 c166 s167 hv I168 L169 F170
              cases hv
              show am_Ok _ _ _ (151, _, [], h165, c166, s167) _
              refine k_goto 158 rfl rfl ?_
              refine k_iload 159 rfl (gs_ne rfl rfl (gs_ne rfl rfl (gs_ne rfl rfl gs_eq))) rfl ?_
              exact k_fin rfl rfl ⟨⟨_, rfl, ⟨_, rfl, _, rfl⟩⟩, I168⟩
            · refine k_sw 154 rfl (by unfold am_tb; rw [b149]; decide) ?_
              refine k_aload 155 rfl (gs_ne rfl rfl (gs_ne rfl rfl (gs_ne rfl rfl (gs_ne rfl rfl (gs_ne rfl rfl g0))))) rfl ?_
              refine k_cl (W' := w_X1_goThrough) rfl (c_X1_goThrough I146.1 o0) rfl rfl rfl (I146.1.rc o0 rfl) I146 (by decide) L147 so_n ?_
              rintro w171 h172 c173 s174 hv I175 L176 F177
              cases hv
              show am_Ok _ _ _ (158, _, [], h172, c173, s174) _
              refine k_iload 159 rfl (gs_ne rfl rfl (gs_ne rfl rfl (gs_ne rfl rfl gs_eq))) rfl ?_
              exact k_fin rfl rfl ⟨⟨_, rfl, ⟨_, rfl, _, rfl⟩⟩, I175⟩
            · refine k_sw 154 rfl (by unfold am_tb; rw [b149]; decide) ?_
              refine k_aload 155 rfl (gs_ne rfl rfl (gs_ne rfl rfl (gs_ne rfl rfl (gs_ne rfl rfl (gs_ne rfl rfl g0))))) rfl ?_
              refine k_cl (W' := w_X1_goThrough) rfl (c_X1_goThrough I146.1 o0) rfl rfl rfl (I146.1.rc o0 rfl) I146 (by decide) L147 so_n ?_
              rintro w178 h179 c180 s181 hv I182 L183 F184
              cases hv
              show am_Ok _ _ _ (158, _, [], h179, c180, s181) _
              refine k_iload 159 rfl (gs_ne rfl rfl (gs_ne rfl rfl (gs_ne rfl rfl gs_eq))) rfl ?_
              exact k_fin rfl rfl ⟨⟨_, rfl, ⟨_, rfl, _, rfl⟩⟩, I182⟩
            · refine k_sw 140 rfl (by unfold am_tb; rw [b149]; decide) ?_
              refine k_aload 141 rfl (gs_ne rfl rfl (gs_ne rfl rfl (gs_ne rfl rfl (gs_ne rfl rfl (gs_ne rfl rfl g0))))) rfl ?_
              refine k_cl (W' := w_X1_erase) rfl (c_X1_erase I146.1 o0) rfl rfl rfl (I146.1.rc o0 rfl) I146 (by decide) L147 so_n ?_
              rintro w185 h186 c187 s188 hv I189 L190 F191
              cases hv
              show am_Ok _ _ _ (144, _, [], h186, c187, s188) _
              refine k_goto 158 rfl rfl ?_
              refine k_iload 159 rfl (gs_ne rfl rfl (gs_ne rfl rfl (gs_ne rfl rfl gs_eq))) rfl ?_
              exact k_fin rfl rfl ⟨⟨_, rfl, ⟨_, rfl, _, rfl⟩⟩, I189⟩
        · refine k_c2 83 rfl rfl (if_neg b134) ?_
          refine k_push 84 rfl rfl ?_
          exact k_fin rfl rfl ⟨⟨_, rfl, ⟨_, rfl, _, rfl⟩⟩, I128⟩
    · refine k_c1 42 rfl rfl (if_neg b38) ?_
      refine k_iload 43 rfl (gs_ne rfl rfl (gs_ne rfl rfl (gs_ne rfl rfl g1))) rfl ?_
      refine k_goto 47 rfl rfl ?_
      refine k_istore 49 rfl rfl ?_
      refine k_iload 51 rfl (gs_ne rfl rfl gs_eq) rfl ?_
      by_cases b192 : x36 = 0
      · refine k_c1 58 rfl rfl (if_pos b192) ?_
        refine k_iload 59 rfl (gs_ne rfl rfl (gs_ne rfl rfl (gs_ne rfl rfl (gs_ne rfl rfl g1)))) rfl ?_
        refine k_istore 61 rfl rfl ?_
        refine k_aload 62 rfl (gs_ne rfl rfl (gs_ne rfl rfl (gs_ne rfl rfl (gs_ne rfl rfl (gs_ne rfl rfl g0))))) rfl ?_
        obtain ⟨fs193, u194, e195, f196, t197⟩ := I33.1.get o0 (k := 4) rfl rfl
        obtain ⟨x198, rfl⟩ := t197
        refine k_get 65 rfl e195 f196 rfl ?_
        refine k_push 66 rfl rfl ?_
        obtain ⟨x199, q200⟩ : ∃ q : Int32, q = (x198 - (2 : Int32)) := ⟨_, rfl⟩
        refine k_bin x199 67 rfl q200.symm rfl ?_
        refine k_aload 68 rfl (gs_ne rfl rfl (gs_ne rfl rfl (gs_ne rfl rfl (gs_ne rfl rfl (gs_ne rfl rfl g0))))) rfl ?_
        refine k_iload 69 rfl (gs_ne rfl rfl (gs_ne rfl rfl (gs_ne rfl rfl gs_eq))) rfl ?_
        refine k_iload 71 rfl (gs_ne rfl rfl gs_eq) rfl ?_
        refine k_iload 73 rfl gs_eq rfl ?_
        refine k_cl (W' := w_X1_newNodes) rfl (c_X1_newNodes I33.1 o0) rfl rfl rfl (I33.1.rc o0 rfl) I33 (by decide) (okL_set (i := 6) (v := .inl v1) rfl (okL_set (i := 5) (v := .inl v1) rfl (okL_set (i := 4) (v := .inl x36) rfl L34))) (so_i so_n) ?_
        rintro w201 h202 c203 s204 hv I205 L206 F207
        obtain ⟨_, rfl, x208, rfl⟩ := hv
        show am_Ok _ _ _ (76, _, [.inl x208, .inl x199], h202, c203, s204) _
        obtain ⟨x209, q210⟩ : ∃ q : Int32, q = (x199 + x208) := ⟨_, rfl⟩
        refine k_bin x209 77 rfl q210.symm rfl ?_
        refine k_push 80 rfl rfl ?_
        by_cases b211 : x209 ≤ (400 : Int32)
        · refine k_c2 85 rfl rfl (if_pos b211) ?_
          refine k_aload 86 rfl (gs_ne rfl rfl (gs_ne rfl rfl (gs_ne rfl rfl (gs_ne rfl rfl (gs_ne rfl rfl g0))))) rfl ?_
          refine k_iload 88 rfl (gs_ne rfl rfl gs_eq) rfl ?_
          refine k_push 91 rfl rfl ?_
          refine k_cl (W' := w_X1_lift) rfl (c_X1_lift I205.1 o0) rfl rfl rfl (I205.1.rc o0 rfl) I205 (by decide) L206 so_n ?_
          rintro w212 h213 c214 s215 hv I216 L217 F218
          cases hv
          show am_Ok _ _ _ (94, _, [], h213, c214, s215) _
          refine k_aload 95 rfl (gs_ne rfl rfl (gs_ne rfl rfl (gs_ne rfl rfl (gs_ne rfl rfl (gs_ne rfl rfl g0))))) rfl ?_
          refine k_iload 97 rfl gs_eq rfl ?_
          refine k_push 100 rfl rfl ?_
          refine k_cl (W' := w_X1_lift) rfl (c_X1_lift I216.1 o0) rfl rfl rfl (I216.1.rc o0 rfl) I216 (by decide) L217 so_n ?_
          rintro w219 h220 c221 s222 hv I223 L224 F225
          cases hv
          show am_Ok _ _ _ (103, _, [], h220, c221, s222) _
          refine k_iload 104 rfl (gs_ne rfl rfl (gs_ne rfl rfl (gs_ne rfl rfl gs_eq))) rfl ?_
          by_cases b226 : x27.toInt < 1 ∨ 5 < x27.toInt
          · refine k_sw 154 rfl (if_pos b226) ?_
            refine k_aload 155 rfl (gs_ne rfl rfl (gs_ne rfl rfl (gs_ne rfl rfl (gs_ne rfl rfl (gs_ne rfl rfl g0))))) rfl ?_
            refine k_cl (W' := w_X1_goThrough) rfl (c_X1_goThrough I223.1 o0) rfl rfl rfl (I223.1.rc o0 rfl) I223 (by decide) L224 so_n ?_
            rintro w227 h228 c229 s230 hv I231 L232 F233
            cases hv
            show am_Ok _ _ _ (158, _, [], h228, c229, s230) _
            refine k_iload 159 rfl (gs_ne rfl rfl (gs_ne rfl rfl (gs_ne rfl rfl gs_eq))) rfl ?_
            exact k_fin rfl rfl ⟨⟨_, rfl, ⟨_, rfl, _, rfl⟩⟩, I231⟩
          · have b226 : x27.toInt = 1 ∨ x27.toInt = 2 ∨ x27.toInt = 3 ∨ x27.toInt = 4 ∨ x27.toInt = 5 := by omega
            rcases b226 with b226 | b226 | b226 | b226 | b226
            · refine k_sw 147 rfl (by unfold am_tb; rw [b226]; decide) ?_
              refine k_aload 148 rfl (gs_ne rfl rfl (gs_ne rfl rfl (gs_ne rfl rfl (gs_ne rfl rfl (gs_ne rfl rfl g0))))) rfl ?_
              refine k_cl (W' := w_X1_joinPorts) rfl (c_X1_joinPorts I223.1 o0) rfl rfl rfl (I223.1.rc o0 rfl) I223 (by decide) L224 so_n ?_
              rintro w234 h235 c236 s237 hv I238 L239 F240
              cases hv
              show am_Ok _ _ _ (151, _, [], h235, c236, s237) _
              refine k_goto 158 rfl rfl ?_
              refine k_iload 159 rfl (gs_ne rfl rfl (gs_ne rfl rfl (gs_ne rfl rfl gs_eq))) rfl ?_
              exact k_fin rfl rfl ⟨⟨_, rfl, ⟨_, rfl, _, rfl⟩⟩, I238⟩
            · refine k_sw 147 rfl (by unfold am_tb; rw [b226]; decide) ?_
              refine k_aload 148 rfl (gs_ne rfl rfl (gs_ne rfl rfl (gs_ne rfl rfl (gs_ne rfl rfl (gs_ne rfl rfl g0))))) rfl ?_
              refine k_cl (W' := w_X1_joinPorts) rfl (c_X1_joinPorts I223.1 o0) rfl rfl rfl (I223.1.rc o0 rfl) I223 (by decide) L224 so_n ?_
              rintro w241 h242 c243 s244 hv I245 L246 F247
              cases hv
              show am_Ok _ _ _ (151, _, [], h242, c243, s244) _
              refine k_goto 158 rfl rfl ?_
              refine k_iload 159 rfl (gs_ne rfl rfl (gs_ne rfl rfl (gs_ne rfl rfl gs_eq))) rfl ?_
              exact k_fin rfl rfl ⟨⟨_, rfl, ⟨_, rfl, _, rfl⟩⟩, I245⟩
            · refine k_sw 154 rfl (by unfold am_tb; rw [b226]; decide) ?_
              refine k_aload 155 rfl (gs_ne rfl rfl (gs_ne rfl rfl (gs_ne rfl rfl (gs_ne rfl rfl (gs_ne rfl rfl g0))))) rfl ?_
              refine k_cl (W' := w_X1_goThrough) rfl (c_X1_goThrough I223.1 o0) rfl rfl rfl (I223.1.rc o0 rfl) I223 (by decide) L224 so_n ?_
              rintro w248 h249 c250 s251 hv I252 L253 F254
              cases hv
              show am_Ok _ _ _ (158, _, [], h249, c250, s251) _
              refine k_iload 159 rfl (gs_ne rfl rfl (gs_ne rfl rfl (gs_ne rfl rfl gs_eq))) rfl ?_
              exact k_fin rfl rfl ⟨⟨_, rfl, ⟨_, rfl, _, rfl⟩⟩, I252⟩
            · refine k_sw 154 rfl (by unfold am_tb; rw [b226]; decide) ?_
              refine k_aload 155 rfl (gs_ne rfl rfl (gs_ne rfl rfl (gs_ne rfl rfl (gs_ne rfl rfl (gs_ne rfl rfl g0))))) rfl ?_
              refine k_cl (W' := w_X1_goThrough) rfl (c_X1_goThrough I223.1 o0) rfl rfl rfl (I223.1.rc o0 rfl) I223 (by decide) L224 so_n ?_
              rintro w255 h256 c257 s258 hv I259 L260 F261
              cases hv
              show am_Ok _ _ _ (158, _, [], h256, c257, s258) _
              refine k_iload 159 rfl (gs_ne rfl rfl (gs_ne rfl rfl (gs_ne rfl rfl gs_eq))) rfl ?_
              exact k_fin rfl rfl ⟨⟨_, rfl, ⟨_, rfl, _, rfl⟩⟩, I259⟩
            · refine k_sw 140 rfl (by unfold am_tb; rw [b226]; decide) ?_
              refine k_aload 141 rfl (gs_ne rfl rfl (gs_ne rfl rfl (gs_ne rfl rfl (gs_ne rfl rfl (gs_ne rfl rfl g0))))) rfl ?_
              refine k_cl (W' := w_X1_erase) rfl (c_X1_erase I223.1 o0) rfl rfl rfl (I223.1.rc o0 rfl) I223 (by decide) L224 so_n ?_
              rintro w262 h263 c264 s265 hv I266 L267 F268
              cases hv
              show am_Ok _ _ _ (144, _, [], h263, c264, s265) _
              refine k_goto 158 rfl rfl ?_
              refine k_iload 159 rfl (gs_ne rfl rfl (gs_ne rfl rfl (gs_ne rfl rfl gs_eq))) rfl ?_
              exact k_fin rfl rfl ⟨⟨_, rfl, ⟨_, rfl, _, rfl⟩⟩, I266⟩
        · refine k_c2 83 rfl rfl (if_neg b211) ?_
          refine k_push 84 rfl rfl ?_
          exact k_fin rfl rfl ⟨⟨_, rfl, ⟨_, rfl, _, rfl⟩⟩, I205⟩
      · refine k_c1 54 rfl rfl (if_neg b192) ?_
        refine k_iload 55 rfl (gs_ne rfl rfl (gs_ne rfl rfl (gs_ne rfl rfl gs_eq))) rfl ?_
        refine k_goto 59 rfl rfl ?_
        refine k_istore 61 rfl rfl ?_
        refine k_aload 62 rfl (gs_ne rfl rfl (gs_ne rfl rfl (gs_ne rfl rfl (gs_ne rfl rfl (gs_ne rfl rfl g0))))) rfl ?_
        obtain ⟨fs269, u270, e271, f272, t273⟩ := I33.1.get o0 (k := 4) rfl rfl
        obtain ⟨x274, rfl⟩ := t273
        refine k_get 65 rfl e271 f272 rfl ?_
        refine k_push 66 rfl rfl ?_
        obtain ⟨x275, q276⟩ : ∃ q : Int32, q = (x274 - (2 : Int32)) := ⟨_, rfl⟩
        refine k_bin x275 67 rfl q276.symm rfl ?_
        refine k_aload 68 rfl (gs_ne rfl rfl (gs_ne rfl rfl (gs_ne rfl rfl (gs_ne rfl rfl (gs_ne rfl rfl g0))))) rfl ?_
        refine k_iload 69 rfl (gs_ne rfl rfl (gs_ne rfl rfl (gs_ne rfl rfl gs_eq))) rfl ?_
        refine k_iload 71 rfl (gs_ne rfl rfl gs_eq) rfl ?_
        refine k_iload 73 rfl gs_eq rfl ?_
        refine k_cl (W' := w_X1_newNodes) rfl (c_X1_newNodes I33.1 o0) rfl rfl rfl (I33.1.rc o0 rfl) I33 (by decide) (okL_set (i := 6) (v := .inl x18) rfl (okL_set (i := 5) (v := .inl v1) rfl (okL_set (i := 4) (v := .inl x36) rfl L34))) (so_i so_n) ?_
        rintro w277 h278 c279 s280 hv I281 L282 F283
        obtain ⟨_, rfl, x284, rfl⟩ := hv
        show am_Ok _ _ _ (76, _, [.inl x284, .inl x275], h278, c279, s280) _
        obtain ⟨x285, q286⟩ : ∃ q : Int32, q = (x275 + x284) := ⟨_, rfl⟩
        refine k_bin x285 77 rfl q286.symm rfl ?_
        refine k_push 80 rfl rfl ?_
        by_cases b287 : x285 ≤ (400 : Int32)
        · refine k_c2 85 rfl rfl (if_pos b287) ?_
          refine k_aload 86 rfl (gs_ne rfl rfl (gs_ne rfl rfl (gs_ne rfl rfl (gs_ne rfl rfl (gs_ne rfl rfl g0))))) rfl ?_
          refine k_iload 88 rfl (gs_ne rfl rfl gs_eq) rfl ?_
          refine k_push 91 rfl rfl ?_
          refine k_cl (W' := w_X1_lift) rfl (c_X1_lift I281.1 o0) rfl rfl rfl (I281.1.rc o0 rfl) I281 (by decide) L282 so_n ?_
          rintro w288 h289 c290 s291 hv I292 L293 F294
          cases hv
          show am_Ok _ _ _ (94, _, [], h289, c290, s291) _
          refine k_aload 95 rfl (gs_ne rfl rfl (gs_ne rfl rfl (gs_ne rfl rfl (gs_ne rfl rfl (gs_ne rfl rfl g0))))) rfl ?_
          refine k_iload 97 rfl gs_eq rfl ?_
          refine k_push 100 rfl rfl ?_
          refine k_cl (W' := w_X1_lift) rfl (c_X1_lift I292.1 o0) rfl rfl rfl (I292.1.rc o0 rfl) I292 (by decide) L293 so_n ?_
          rintro w295 h296 c297 s298 hv I299 L300 F301
          cases hv
          show am_Ok _ _ _ (103, _, [], h296, c297, s298) _
          refine k_iload 104 rfl (gs_ne rfl rfl (gs_ne rfl rfl (gs_ne rfl rfl gs_eq))) rfl ?_
          by_cases b302 : x27.toInt < 1 ∨ 5 < x27.toInt
          · refine k_sw 154 rfl (if_pos b302) ?_
            refine k_aload 155 rfl (gs_ne rfl rfl (gs_ne rfl rfl (gs_ne rfl rfl (gs_ne rfl rfl (gs_ne rfl rfl g0))))) rfl ?_
            refine k_cl (W' := w_X1_goThrough) rfl (c_X1_goThrough I299.1 o0) rfl rfl rfl (I299.1.rc o0 rfl) I299 (by decide) L300 so_n ?_
            rintro w303 h304 c305 s306 hv I307 L308 F309
            cases hv
            show am_Ok _ _ _ (158, _, [], h304, c305, s306) _
            refine k_iload 159 rfl (gs_ne rfl rfl (gs_ne rfl rfl (gs_ne rfl rfl gs_eq))) rfl ?_
            exact k_fin rfl rfl ⟨⟨_, rfl, ⟨_, rfl, _, rfl⟩⟩, I307⟩
          · have b302 : x27.toInt = 1 ∨ x27.toInt = 2 ∨ x27.toInt = 3 ∨ x27.toInt = 4 ∨ x27.toInt = 5 := by omega
            rcases b302 with b302 | b302 | b302 | b302 | b302
            · refine k_sw 147 rfl (by unfold am_tb; rw [b302]; decide) ?_
              refine k_aload 148 rfl (gs_ne rfl rfl (gs_ne rfl rfl (gs_ne rfl rfl (gs_ne rfl rfl (gs_ne rfl rfl g0))))) rfl ?_
              refine k_cl (W' := w_X1_joinPorts) rfl (c_X1_joinPorts I299.1 o0) rfl rfl rfl (I299.1.rc o0 rfl) I299 (by decide) L300 so_n ?_
              rintro w310 h311 c312 s313 hv I314 L315 F316
              cases hv
              show am_Ok _ _ _ (151, _, [], h311, c312, s313) _
              refine k_goto 158 rfl rfl ?_
              refine k_iload 159 rfl (gs_ne rfl rfl (gs_ne rfl rfl (gs_ne rfl rfl gs_eq))) rfl ?_
              exact k_fin rfl rfl ⟨⟨_, rfl, ⟨_, rfl, _, rfl⟩⟩, I314⟩
            · refine k_sw 147 rfl (by unfold am_tb; rw [b302]; decide) ?_
              refine k_aload 148 rfl (gs_ne rfl rfl (gs_ne rfl rfl (gs_ne rfl rfl (gs_ne rfl rfl (gs_ne rfl rfl g0))))) rfl ?_
              refine k_cl (W' := w_X1_joinPorts) rfl (c_X1_joinPorts I299.1 o0) rfl rfl rfl (I299.1.rc o0 rfl) I299 (by decide) L300 so_n ?_
              rintro w317 h318 c319 s320 hv I321 L322 F323
              cases hv
              show am_Ok _ _ _ (151, _, [], h318, c319, s320) _
              refine k_goto 158 rfl rfl ?_
              refine k_iload 159 rfl (gs_ne rfl rfl (gs_ne rfl rfl (gs_ne rfl rfl gs_eq))) rfl ?_
              exact k_fin rfl rfl ⟨⟨_, rfl, ⟨_, rfl, _, rfl⟩⟩, I321⟩
            · refine k_sw 154 rfl (by unfold am_tb; rw [b302]; decide) ?_
              refine k_aload 155 rfl (gs_ne rfl rfl (gs_ne rfl rfl (gs_ne rfl rfl (gs_ne rfl rfl (gs_ne rfl rfl g0))))) rfl ?_
              refine k_cl (W' := w_X1_goThrough) rfl (c_X1_goThrough I299.1 o0) rfl rfl rfl (I299.1.rc o0 rfl) I299 (by decide) L300 so_n ?_
              rintro w324 h325 c326 s327 hv I328 L329 F330
              cases hv
              show am_Ok _ _ _ (158, _, [], h325, c326, s327) _
              refine k_iload 159 rfl (gs_ne rfl rfl (gs_ne rfl rfl (gs_ne rfl rfl gs_eq))) rfl ?_
              exact k_fin rfl rfl ⟨⟨_, rfl, ⟨_, rfl, _, rfl⟩⟩, I328⟩
            · refine k_sw 154 rfl (by unfold am_tb; rw [b302]; decide) ?_
              refine k_aload 155 rfl (gs_ne rfl rfl (gs_ne rfl rfl (gs_ne rfl rfl (gs_ne rfl rfl (gs_ne rfl rfl g0))))) rfl ?_
              refine k_cl (W' := w_X1_goThrough) rfl (c_X1_goThrough I299.1 o0) rfl rfl rfl (I299.1.rc o0 rfl) I299 (by decide) L300 so_n ?_
              rintro w331 h332 c333 s334 hv I335 L336 F337
              cases hv
              show am_Ok _ _ _ (158, _, [], h332, c333, s334) _
              refine k_iload 159 rfl (gs_ne rfl rfl (gs_ne rfl rfl (gs_ne rfl rfl gs_eq))) rfl ?_
              exact k_fin rfl rfl ⟨⟨_, rfl, ⟨_, rfl, _, rfl⟩⟩, I335⟩
            · refine k_sw 140 rfl (by unfold am_tb; rw [b302]; decide) ?_
              refine k_aload 141 rfl (gs_ne rfl rfl (gs_ne rfl rfl (gs_ne rfl rfl (gs_ne rfl rfl (gs_ne rfl rfl g0))))) rfl ?_
              refine k_cl (W' := w_X1_erase) rfl (c_X1_erase I299.1 o0) rfl rfl rfl (I299.1.rc o0 rfl) I299 (by decide) L300 so_n ?_
              rintro w338 h339 c340 s341 hv I342 L343 F344
              cases hv
              show am_Ok _ _ _ (144, _, [], h339, c340, s341) _
              refine k_goto 158 rfl rfl ?_
              refine k_iload 159 rfl (gs_ne rfl rfl (gs_ne rfl rfl (gs_ne rfl rfl gs_eq))) rfl ?_
              exact k_fin rfl rfl ⟨⟨_, rfl, ⟨_, rfl, _, rfl⟩⟩, I342⟩
        · refine k_c2 83 rfl rfl (if_neg b287) ?_
          refine k_push 84 rfl rfl ?_
          exact k_fin rfl rfl ⟨⟨_, rfl, ⟨_, rfl, _, rfl⟩⟩, I281⟩
theorem c_X1_workOff {h : am_h} {v0 : Nat} {v1 : Int32} (hT : ty_H h) (o0 : ob 1 v0) : am_Mt 4 29 [.inr (.inr (some v0)), .inl v1] h (ty_Q w_X1_workOff 2 (ob_P h) h) := am_Mt.of (b_X1_workOff rfl o0 rfl (okA_r hT o0 (okA_i okA_n)) (ob_I.start hT))
end
