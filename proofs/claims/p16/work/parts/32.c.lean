section
abbrev w_X2_term : List (Nat × Nat) := []
theorem b_X2_term {B : Nat} {h0 : am_h} {lv : am_l} {h : am_h} {c s : Nat} {v0 : Nat} (g0 : am_get lv 0 = some (.inr (.inr (some v0)))) (o0 : ob 2 v0) (hL : am_okL h.length lv = true) (hI : ob_I w_X2_term B h0 h c s) : am_Ok am_G 0 37 (0, lv, [], h, c, s) (ty_Q w_X2_term 7 B h0) := by
  refine k_aload 1 rfl g0 rfl ?_
  obtain ⟨fs1, u2, e3, f4, t5⟩ := hI.1.get o0 (k := 2) rfl rfl
  obtain ⟨i6, rfl, o7⟩ := t5
  refine k_get 4 rfl e3 f4 rfl ?_
  exact k_fin rfl rfl ⟨⟨_, rfl, ⟨_, rfl, _, rfl, o7⟩⟩, hI⟩
theorem c_X2_term {h : am_h} {v0 : Nat} (hT : ty_H h) (o0 : ob 2 v0) : am_Mt 1 37 [.inr (.inr (some v0))] h (ty_Q w_X2_term 7 (ob_P h) h) := am_Mt.of (b_X2_term rfl o0 (okA_r hT o0 okA_n) (ob_I.start hT))
abbrev w_X2_rounds : List (Nat × Nat) := []
theorem b_X2_rounds {B : Nat} {h0 : am_h} {lv : am_l} {h : am_h} {c s : Nat} {v0 : Nat} (g0 : am_get lv 0 = some (.inr (.inr (some v0)))) (o0 : ob 2 v0) (hL : am_okL h.length lv = true) (hI : ob_I w_X2_rounds B h0 h c s) : am_Ok am_G 0 38 (0, lv, [], h, c, s) (ty_Q w_X2_rounds 2 B h0) := by
  refine k_aload 1 rfl g0 rfl ?_
  obtain ⟨fs1, u2, e3, f4, t5⟩ := hI.1.get o0 (k := 4) rfl rfl
  obtain ⟨x6, rfl⟩ := t5
  refine k_get 4 rfl e3 f4 rfl ?_
  exact k_fin rfl rfl ⟨⟨_, rfl, ⟨_, rfl, _, rfl⟩⟩, hI⟩
theorem c_X2_rounds {h : am_h} {v0 : Nat} (hT : ty_H h) (o0 : ob 2 v0) : am_Mt 1 38 [.inr (.inr (some v0))] h (ty_Q w_X2_rounds 2 (ob_P h) h) := am_Mt.of (b_X2_rounds rfl o0 (okA_r hT o0 okA_n) (ob_I.start hT))
abbrev w_X2_tooMany : List (Nat × Nat) := []
theorem b_X2_tooMany {B : Nat} {h0 : am_h} {lv : am_l} {h : am_h} {c s : Nat} {v0 : Nat} (g0 : am_get lv 0 = some (.inr (.inr (some v0)))) (o0 : ob 2 v0) (hL : am_okL h.length lv = true) (hI : ob_I w_X2_tooMany B h0 h c s) : am_Ok am_G 0 39 (0, lv, [], h, c, s) (ty_Q w_X2_tooMany 3 B h0) := by
  refine k_aload 1 rfl g0 rfl ?_
  obtain ⟨fs1, u2, e3, f4, t5⟩ := hI.1.get o0 (k := 5) rfl rfl
  obtain ⟨x6, rfl, z7⟩ := t5
  refine k_get 4 rfl e3 f4 rfl ?_
  exact k_fin rfl (fin_Z z7) ⟨⟨_, rfl, ⟨_, rfl, _, rfl, z7⟩⟩, hI⟩
theorem c_X2_tooMany {h : am_h} {v0 : Nat} (hT : ty_H h) (o0 : ob 2 v0) : am_Mt 1 39 [.inr (.inr (some v0))] h (ty_Q w_X2_tooMany 3 (ob_P h) h) := am_Mt.of (b_X2_tooMany rfl o0 (okA_r hT o0 okA_n) (ob_I.start hT))
abbrev w_X9_isRedex : List (Nat × Nat) := []
theorem b_X9_isRedex {B : Nat} {h0 : am_h} {lv : am_l} {h : am_h} {c s : Nat} {v0 : Nat} {v1 : Int32} (g0 : am_get lv 0 = some (.inr (.inr (some v0)))) (o0 : ob 3 v0 ∨ ob 11 v0) (g1 : am_get lv 1 = some (.inl v1)) (hL : am_okL h.length lv = true) (hI : ob_I w_X9_isRedex B h0 h c s) : am_Ok am_G 1 155 (0, lv, [], h, c, s) (ty_Q w_X9_isRedex 3 B h0) := by
  refine k_iload 1 rfl g1 rfl ?_
  refine k_push 2 rfl rfl ?_
  obtain ⟨x1, q2⟩ : ∃ q : Int32, q = (v1 + (1 : Int32)) := ⟨_, rfl⟩
  refine k_bin x1 3 rfl q2.symm rfl ?_
  refine k_aload 4 rfl g0 rfl ?_
  refine k_cl (W' := []) rfl (rw_size hI.1 o0) rfl rfl rfl (hI.1.rc3 o0) hI (by decide) hL (so_i so_n) ?_
  rintro w3 h4 c5 s6 hv I7 L8 F9
  obtain ⟨_, rfl, x10, rfl⟩ := hv
  show am_Ok _ _ _ (7, _, [.inl x10, .inl x1], h4, c5, s6) _
  by_cases b11 : x10 ≤ x1
  · refine k_c2 33 rfl rfl (if_pos b11) ?_
    refine k_push 34 rfl rfl ?_
    exact k_fin rfl (fin_Z (Or.inl rfl)) ⟨⟨_, rfl, ⟨_, rfl, _, rfl, (Or.inl rfl)⟩⟩, I7⟩
  · refine k_c2 10 rfl rfl (if_neg b11) ?_
    refine k_aload 11 rfl g0 rfl ?_
    refine k_iload 12 rfl g1 rfl ?_
    refine k_cl (W' := []) rfl (rw_get I7.1 o0) rfl rfl rfl (I7.1.rc3 o0) I7 (by decide) L8 so_n ?_
    rintro w12 h13 c14 s15 hv I16 L17 F18
    obtain ⟨_, rfl, x19, rfl⟩ := hv
    show am_Ok _ _ _ (15, _, [.inl x19], h13, c14, s15) _
    by_cases b20 : x19 = 0
    · refine k_c1 18 rfl rfl (if_pos b20) ?_
      refine k_aload 19 rfl g0 rfl ?_
      refine k_iload 20 rfl g1 rfl ?_
      refine k_push 21 rfl rfl ?_
      obtain ⟨x21, q22⟩ : ∃ q : Int32, q = (v1 + (1 : Int32)) := ⟨_, rfl⟩
      refine k_bin x21 22 rfl q22.symm rfl ?_
      refine k_cl (W' := []) rfl (rw_get I16.1 o0) rfl rfl rfl (I16.1.rc3 o0) I16 (by decide) L17 so_n ?_
      rintro w23 h24 c25 s26 hv I27 L28 F29
      obtain ⟨_, rfl, x30, rfl⟩ := hv
      show am_Ok _ _ _ (25, _, [.inl x30], h24, c25, s26) _
      refine k_push 26 rfl rfl ?_
      by_cases b31 : x30 = (1 : Int32)
      · refine k_c2 29 rfl rfl (if_pos b31) ?_
        refine k_push 30 rfl rfl ?_
        refine k_goto 34 rfl rfl ?_
        exact k_fin rfl (fin_Z (Or.inr rfl)) ⟨⟨_, rfl, ⟨_, rfl, _, rfl, (Or.inr rfl)⟩⟩, I27⟩
      · refine k_c2 33 rfl rfl (if_neg b31) ?_
        refine k_push 34 rfl rfl ?_
        exact k_fin rfl (fin_Z (Or.inl rfl)) ⟨⟨_, rfl, ⟨_, rfl, _, rfl, (Or.inl rfl)⟩⟩, I27⟩
    · refine k_c1 33 rfl rfl (if_neg b20) ?_
      refine k_push 34 rfl rfl ?_
      exact k_fin rfl (fin_Z (Or.inl rfl)) ⟨⟨_, rfl, ⟨_, rfl, _, rfl, (Or.inl rfl)⟩⟩, I16⟩
theorem c_X9_isRedex {h : am_h} {v0 : Nat} {v1 : Int32} (hT : ty_H h) (o0 : ob 3 v0 ∨ ob 11 v0) : am_Mt 2 155 [.inr (.inr (some v0)), .inl v1] h (ty_Q w_X9_isRedex 3 (ob_P h) h) := am_Mt.of (b_X9_isRedex rfl o0 rfl (okA_r2 hT o0 (okA_i okA_n)) (ob_I.start hT))
abbrev w_X2_firstRedex : List (Nat × Nat) := []
theorem b_X2_firstRedex_2 {B : Nat} {h0 : am_h} : ∀ (n : Nat) {lv : am_l} {h : am_h} {c s : Nat} {v0 : Nat} {v1 : Int32} , up_m v1 = n → am_get lv 0 = some (.inr (.inr (some v0))) → ob 2 v0 → am_get lv 1 = some (.inl v1) → am_okL h.length lv = true → ob_I w_X2_firstRedex B h0 h c s → am_Ok am_G 2 42 (2, lv, [], h, c, s) (ty_Q w_X2_firstRedex 2 B h0) := by
  intro n
  induction n using Nat.strongRecOn with
  | ind n ih =>
    intro lv h c s v0 v1 hn g0 o0 g1 hL hI
    refine k_iload 3 rfl g1 rfl ?_
    refine k_aload 4 rfl g0 rfl ?_
    obtain ⟨fs1, u2, e3, f4, t5⟩ := hI.1.get o0 (k := 2) rfl rfl
    obtain ⟨i6, rfl, o7⟩ := t5
    refine k_get 7 rfl e3 f4 rfl ?_
    refine k_cl (W' := []) rfl (rw_size hI.1 (Or.inl o7)) rfl rfl rfl (hI.1.rc3 (Or.inl o7)) hI (by decide) hL (so_i so_n) ?_
    rintro w8 h9 c10 s11 hv I12 L13 F14
    obtain ⟨_, rfl, x15, rfl⟩ := hv
    show am_Ok _ _ _ (10, _, [.inl x15, .inl v1], h9, c10, s11) _
    by_cases b16 : x15 ≤ v1
    · refine k_c2 32 rfl rfl (if_pos b16) ?_
      refine k_push 33 rfl rfl ?_
      exact k_fin rfl rfl ⟨⟨_, rfl, ⟨_, rfl, _, rfl⟩⟩, I12⟩
    · refine k_c2 13 rfl rfl (if_neg b16) ?_
      refine k_aload 14 rfl g0 rfl ?_
      obtain ⟨fs17, u18, e19, f20, t21⟩ := I12.1.get o0 (k := 2) rfl rfl
      obtain ⟨i22, rfl, o23⟩ := t21
      refine k_get 17 rfl e19 f20 rfl ?_
      refine k_iload 18 rfl g1 rfl ?_
      refine k_cl (W' := w_X9_isRedex) rfl (c_X9_isRedex I12.1 (Or.inl o23)) rfl rfl rfl rfl I12 (by decide) L13 so_n ?_
      rintro w24 h25 c26 s27 hv I28 L29 F30
      obtain ⟨_, rfl, x31, rfl, z32⟩ := hv
      show am_Ok _ _ _ (21, _, [.inl x31], h25, c26, s27) _
      by_cases b33 : x31 = 0
      · refine k_c1 26 rfl rfl (if_pos b33) ?_
        refine k_iinc (v1 + 1) 29 rfl g1 rfl rfl ?_
        refine k_goto 2 rfl rfl ?_
        exact ih _ (by rw [← hn]; exact up_lt b16) rfl (gs_ne rfl rfl g0) o0 gs_eq (okL_set (i := 1) (v := .inl (v1 + 1)) rfl L29) I28
      · refine k_c1 24 rfl rfl (if_neg b33) ?_
        refine k_iload 25 rfl g1 rfl ?_
        exact k_fin rfl rfl ⟨⟨_, rfl, ⟨_, rfl, _, rfl⟩⟩, I28⟩
theorem b_X2_firstRedex {B : Nat} {h0 : am_h} {lv : am_l} {h : am_h} {c s : Nat} {v0 : Nat} (g0 : am_get lv 0 = some (.inr (.inr (some v0)))) (o0 : ob 2 v0) (hL : am_okL h.length lv = true) (hI : ob_I w_X2_firstRedex B h0 h c s) : am_Ok am_G 2 42 (0, lv, [], h, c, s) (ty_Q w_X2_firstRedex 2 B h0) := by
  refine k_push 1 rfl rfl ?_
  refine k_istore 2 rfl rfl ?_
  exact b_X2_firstRedex_2 _ rfl (gs_ne rfl rfl g0) o0 gs_eq (okL_set (i := 1) (v := .inl (0 : Int32)) rfl hL) hI
theorem c_X2_firstRedex {h : am_h} {v0 : Nat} (hT : ty_H h) (o0 : ob 2 v0) : am_Mt 3 42 [.inr (.inr (some v0))] h (ty_Q w_X2_firstRedex 2 (ob_P h) h) := am_Mt.of (b_X2_firstRedex rfl o0 (okA_r hT o0 okA_n) (ob_I.start hT))
abbrev w_X2_isAtEnd : List (Nat × Nat) := []
theorem b_X2_isAtEnd {B : Nat} {h0 : am_h} {lv : am_l} {h : am_h} {c s : Nat} {v0 : Nat} (g0 : am_get lv 0 = some (.inr (.inr (some v0)))) (o0 : ob 2 v0) (hL : am_okL h.length lv = true) (hI : ob_I w_X2_isAtEnd B h0 h c s) : am_Ok am_G 3 40 (0, lv, [], h, c, s) (ty_Q w_X2_isAtEnd 3 B h0) := by
  refine k_aload 1 rfl g0 rfl ?_
  obtain ⟨fs1, u2, e3, f4, t5⟩ := hI.1.get o0 (k := 5) rfl rfl
  obtain ⟨x6, rfl, z7⟩ := t5
  refine k_get 4 rfl e3 f4 rfl ?_
  by_cases b8 : x6 = 0
  · refine k_c1 7 rfl rfl (if_pos b8) ?_
    refine k_aload 8 rfl g0 rfl ?_
    refine k_cl (W' := w_X2_firstRedex) rfl (c_X2_firstRedex hI.1 o0) rfl rfl rfl (hI.1.rc o0 rfl) hI (by decide) hL so_n ?_
    rintro w9 h10 c11 s12 hv I13 L14 F15
    obtain ⟨_, rfl, x16, rfl⟩ := hv
    show am_Ok _ _ _ (11, _, [.inl x16], h10, c11, s12) _
    refine k_push 12 rfl rfl ?_
    by_cases b17 : x16 = (-1 : Int32)
    · refine k_c2 15 rfl rfl (if_pos b17) ?_
      refine k_push 16 rfl rfl ?_
      refine k_goto 20 rfl rfl ?_
      exact k_fin rfl (fin_Z (Or.inr rfl)) ⟨⟨_, rfl, ⟨_, rfl, _, rfl, (Or.inr rfl)⟩⟩, I13⟩
    · refine k_c2 19 rfl rfl (if_neg b17) ?_
      refine k_push 20 rfl rfl ?_
      exact k_fin rfl (fin_Z (Or.inl rfl)) ⟨⟨_, rfl, ⟨_, rfl, _, rfl, (Or.inl rfl)⟩⟩, I13⟩
  · refine k_c1 19 rfl rfl (if_neg b8) ?_
    refine k_push 20 rfl rfl ?_
    exact k_fin rfl (fin_Z (Or.inl rfl)) ⟨⟨_, rfl, ⟨_, rfl, _, rfl, (Or.inl rfl)⟩⟩, hI⟩
theorem c_X2_isAtEnd {h : am_h} {v0 : Nat} (hT : ty_H h) (o0 : ob 2 v0) : am_Mt 4 40 [.inr (.inr (some v0))] h (ty_Q w_X2_isAtEnd 3 (ob_P h) h) := am_Mt.of (b_X2_isAtEnd rfl o0 (okA_r hT o0 okA_n) (ob_I.start hT))
abbrev w_X2_behindTerm : List (Nat × Nat) := []
theorem b_X2_behindTerm_4 {B : Nat} {h0 : am_h} : ∀ (n : Nat) {lv : am_l} {h : am_h} {c s : Nat} {v0 : Nat} {v1 : Int32} {v2 : Int32} {v3 : Int32} , up_m v3 = n → am_get lv 0 = some (.inr (.inr (some v0))) → ob 2 v0 → am_get lv 1 = some (.inl v1) → am_get lv 2 = some (.inl v2) → am_get lv 3 = some (.inl v3) → am_okL h.length lv = true → ob_I w_X2_behindTerm B h0 h c s → am_Ok am_G 1 43 (4, lv, [], h, c, s) (ty_Q w_X2_behindTerm 2 B h0) := by
  intro n
  induction n using Nat.strongRecOn with
  | ind n ih =>
    intro lv h c s v0 v1 v2 v3 hn g0 o0 g1 g2 g3 hL hI
    refine k_iload 5 rfl g2 rfl ?_
    by_cases b1 : v2 ≤ 0
    · refine k_c1 58 rfl rfl (if_pos b1) ?_
      refine k_iload 59 rfl g3 rfl ?_
      exact k_fin rfl rfl ⟨⟨_, rfl, ⟨_, rfl, _, rfl⟩⟩, hI⟩
    · refine k_c1 8 rfl rfl (if_neg b1) ?_
      refine k_iload 9 rfl g3 rfl ?_
      refine k_aload 10 rfl g0 rfl ?_
      obtain ⟨fs2, u3, e4, f5, t6⟩ := hI.1.get o0 (k := 2) rfl rfl
      obtain ⟨i7, rfl, o8⟩ := t6
      refine k_get 13 rfl e4 f5 rfl ?_
      refine k_cl (W' := []) rfl (rw_size hI.1 (Or.inl o8)) rfl rfl rfl (hI.1.rc3 (Or.inl o8)) hI (by decide) hL (so_i so_n) ?_
      rintro w9 h10 c11 s12 hv I13 L14 F15
      obtain ⟨_, rfl, x16, rfl⟩ := hv
      show am_Ok _ _ _ (16, _, [.inl x16, .inl v3], h10, c11, s12) _
      by_cases b17 : x16 ≤ v3
      · refine k_c2 58 rfl rfl (if_pos b17) ?_
        refine k_iload 59 rfl g3 rfl ?_
        exact k_fin rfl rfl ⟨⟨_, rfl, ⟨_, rfl, _, rfl⟩⟩, I13⟩
      · refine k_c2 19 rfl rfl (if_neg b17) ?_
        refine k_aload 20 rfl g0 rfl ?_
        obtain ⟨fs18, u19, e20, f21, t22⟩ := I13.1.get o0 (k := 2) rfl rfl
        obtain ⟨i23, rfl, o24⟩ := t22
        refine k_get 23 rfl e20 f21 rfl ?_
        refine k_iload 24 rfl g3 rfl ?_
        refine k_cl (W' := []) rfl (rw_get I13.1 (Or.inl o24)) rfl rfl rfl (I13.1.rc3 (Or.inl o24)) I13 (by decide) L14 so_n ?_
        rintro w25 h26 c27 s28 hv I29 L30 F31
        obtain ⟨_, rfl, x32, rfl⟩ := hv
        show am_Ok _ _ _ (27, _, [.inl x32], h26, c27, s28) _
        refine k_istore 29 rfl rfl ?_
        refine k_iload 30 rfl (gs_ne rfl rfl g2) rfl ?_
        refine k_iload 32 rfl gs_eq rfl ?_
        by_cases b33 : x32 = 0
        · refine k_c1 35 rfl rfl (if_pos b33) ?_
          refine k_push 36 rfl rfl ?_
          refine k_goto 50 rfl rfl ?_
          obtain ⟨x34, q35⟩ : ∃ q : Int32, q = (v2 + (1 : Int32)) := ⟨_, rfl⟩
          refine k_bin x34 51 rfl q35.symm rfl ?_
          refine k_istore 52 rfl rfl ?_
          refine k_iinc (v3 + 1) 55 rfl (gs_ne rfl rfl (gs_ne rfl rfl g3)) rfl rfl ?_
          refine k_goto 4 rfl rfl ?_
          exact ih _ (by rw [← hn]; exact up_lt b17) rfl (gs_ne rfl rfl (gs_ne rfl rfl (gs_ne rfl rfl g0))) o0 (gs_ne rfl rfl (gs_ne rfl rfl (gs_ne rfl rfl g1))) (gs_ne rfl rfl gs_eq) gs_eq (okL_set (i := 3) (v := .inl (v3 + 1)) rfl (okL_set (i := 2) (v := .inl x34) rfl (okL_set (i := 4) (v := .inl x32) rfl L30))) I29
        · refine k_c1 39 rfl rfl (if_neg b33) ?_
          refine k_iload 41 rfl gs_eq rfl ?_
          refine k_push 42 rfl rfl ?_
          by_cases b36 : x32 = (1 : Int32)
          · refine k_c2 45 rfl rfl (if_pos b36) ?_
            refine k_push 46 rfl rfl ?_
            refine k_goto 50 rfl rfl ?_
            obtain ⟨x37, q38⟩ : ∃ q : Int32, q = (v2 + (0 : Int32)) := ⟨_, rfl⟩
            refine k_bin x37 51 rfl q38.symm rfl ?_
            refine k_istore 52 rfl rfl ?_
            refine k_iinc (v3 + 1) 55 rfl (gs_ne rfl rfl (gs_ne rfl rfl g3)) rfl rfl ?_
            refine k_goto 4 rfl rfl ?_
            exact ih _ (by rw [← hn]; exact up_lt b17) rfl (gs_ne rfl rfl (gs_ne rfl rfl (gs_ne rfl rfl g0))) o0 (gs_ne rfl rfl (gs_ne rfl rfl (gs_ne rfl rfl g1))) (gs_ne rfl rfl gs_eq) gs_eq (okL_set (i := 3) (v := .inl (v3 + 1)) rfl (okL_set (i := 2) (v := .inl x37) rfl (okL_set (i := 4) (v := .inl x32) rfl L30))) I29
          · refine k_c2 49 rfl rfl (if_neg b36) ?_
            refine k_push 50 rfl rfl ?_
            obtain ⟨x39, q40⟩ : ∃ q : Int32, q = (v2 + (-1 : Int32)) := ⟨_, rfl⟩
            refine k_bin x39 51 rfl q40.symm rfl ?_
            refine k_istore 52 rfl rfl ?_
            refine k_iinc (v3 + 1) 55 rfl (gs_ne rfl rfl (gs_ne rfl rfl g3)) rfl rfl ?_
            refine k_goto 4 rfl rfl ?_
            exact ih _ (by rw [← hn]; exact up_lt b17) rfl (gs_ne rfl rfl (gs_ne rfl rfl (gs_ne rfl rfl g0))) o0 (gs_ne rfl rfl (gs_ne rfl rfl (gs_ne rfl rfl g1))) (gs_ne rfl rfl gs_eq) gs_eq (okL_set (i := 3) (v := .inl (v3 + 1)) rfl (okL_set (i := 2) (v := .inl x39) rfl (okL_set (i := 4) (v := .inl x32) rfl L30))) I29
theorem b_X2_behindTerm {B : Nat} {h0 : am_h} {lv : am_l} {h : am_h} {c s : Nat} {v0 : Nat} {v1 : Int32} (g0 : am_get lv 0 = some (.inr (.inr (some v0)))) (o0 : ob 2 v0) (g1 : am_get lv 1 = some (.inl v1)) (hL : am_okL h.length lv = true) (hI : ob_I w_X2_behindTerm B h0 h c s) : am_Ok am_G 1 43 (0, lv, [], h, c, s) (ty_Q w_X2_behindTerm 2 B h0) := by
  refine k_push 1 rfl rfl ?_
  refine k_istore 2 rfl rfl ?_
  refine k_iload 3 rfl (gs_ne rfl rfl g1) rfl ?_
  refine k_istore 4 rfl rfl ?_
  exact b_X2_behindTerm_4 _ rfl (gs_ne rfl rfl (gs_ne rfl rfl g0)) o0 (gs_ne rfl rfl (gs_ne rfl rfl g1)) (gs_ne rfl rfl gs_eq) gs_eq (okL_set (i := 3) (v := .inl v1) rfl (okL_set (i := 2) (v := .inl (1 : Int32)) rfl hL)) hI
theorem c_X2_behindTerm {h : am_h} {v0 : Nat} {v1 : Int32} (hT : ty_H h) (o0 : ob 2 v0) : am_Mt 2 43 [.inr (.inr (some v0)), .inl v1] h (ty_Q w_X2_behindTerm 2 (ob_P h) h) := am_Mt.of (b_X2_behindTerm rfl o0 rfl (okA_r hT o0 (okA_i okA_n)) (ob_I.start hT))
abbrev w_X2_keep : List (Nat × Nat) := []
theorem b_X2_keep_2 {B : Nat} {h0 : am_h} : ∀ (n : Nat) {lv : am_l} {h : am_h} {c s : Nat} {v0 : Nat} {v1 : Int32} {v2 : Int32} {v3 : Int32} , up_m v3 = n → am_get lv 0 = some (.inr (.inr (some v0))) → ob 2 v0 → am_get lv 1 = some (.inl v1) → am_get lv 2 = some (.inl v2) → am_get lv 3 = some (.inl v3) → am_okL h.length lv = true → ob_I w_X2_keep B h0 h c s → am_Ok am_G 2 44 (2, lv, [], h, c, s) (ty_Q w_X2_keep 3 B h0) := by
  intro n
  induction n using Nat.strongRecOn with
  | ind n ih =>
    intro lv h c s v0 v1 v2 v3 hn g0 o0 g1 g2 g3 hL hI
    refine k_iload 3 rfl g3 rfl ?_
    refine k_iload 4 rfl g2 rfl ?_
    by_cases b1 : v2 ≤ v3
    · refine k_c2 33 rfl rfl (if_pos b1) ?_
      refine k_push 34 rfl rfl ?_
      exact k_fin rfl (fin_Z (Or.inr rfl)) ⟨⟨_, rfl, ⟨_, rfl, _, rfl, (Or.inr rfl)⟩⟩, hI⟩
    · refine k_c2 7 rfl rfl (if_neg b1) ?_
      refine k_aload 8 rfl g0 rfl ?_
      obtain ⟨fs2, u3, e4, f5, t6⟩ := hI.1.get o0 (k := 3) rfl rfl
      obtain ⟨i7, rfl, o8⟩ := t6
      refine k_get 11 rfl e4 f5 rfl ?_
      refine k_aload 12 rfl g0 rfl ?_
      obtain ⟨fs9, u10, e11, f12, t13⟩ := hI.1.get o0 (k := 2) rfl rfl
      obtain ⟨i14, rfl, o15⟩ := t13
      refine k_get 15 rfl e11 f12 rfl ?_
      refine k_iload 16 rfl g3 rfl ?_
      refine k_cl (W' := []) rfl (rw_get hI.1 (Or.inl o15)) rfl rfl rfl (hI.1.rc3 (Or.inl o15)) hI (by decide) hL (so_r hI o8 so_n) ?_
      rintro w16 h17 c18 s19 hv I20 L21 F22
      obtain ⟨_, rfl, x23, rfl⟩ := hv
      show am_Ok _ _ _ (19, _, [.inl x23, .inr (.inr (some i7))], h17, c18, s19) _
      refine k_cl (W' := []) rfl ((rw_add (W := []) I20.1 (Or.inl o8)).imp (fun _ z => z.1)) rfl rfl rfl (I20.1.rc3 (Or.inl o8)) I20 (by decide) L21 so_n ?_
      rintro w24 h25 c26 s27 hv I28 L29 F30
      obtain ⟨_, rfl, x31, rfl, z32⟩ := hv
      show am_Ok _ _ _ (22, _, [.inl x31], h25, c26, s27) _
      by_cases b33 : x31 = 0
      · refine k_c1 25 rfl rfl (if_pos b33) ?_
        refine k_push 26 rfl rfl ?_
        exact k_fin rfl (fin_Z (Or.inl rfl)) ⟨⟨_, rfl, ⟨_, rfl, _, rfl, (Or.inl rfl)⟩⟩, I28⟩
      · refine k_c1 27 rfl rfl (if_neg b33) ?_
        refine k_iinc (v3 + 1) 30 rfl g3 rfl rfl ?_
        refine k_goto 2 rfl rfl ?_
        exact ih _ (by rw [← hn]; exact up_lt b1) rfl (gs_ne rfl rfl g0) o0 (gs_ne rfl rfl g1) (gs_ne rfl rfl g2) gs_eq (okL_set (i := 3) (v := .inl (v3 + 1)) rfl L29) I28
theorem b_X2_keep {B : Nat} {h0 : am_h} {lv : am_l} {h : am_h} {c s : Nat} {v0 : Nat} {v1 : Int32} {v2 : Int32} (g0 : am_get lv 0 = some (.inr (.inr (some v0)))) (o0 : ob 2 v0) (g1 : am_get lv 1 = some (.inl v1)) (g2 : am_get lv 2 = some (.inl v2)) (hL : am_okL h.length lv = true) (hI : ob_I w_X2_keep B h0 h c s) : am_Ok am_G 2 44 (0, lv, [], h, c, s) (ty_Q w_X2_keep 3 B h0) := by
  refine k_iload 1 rfl g1 rfl ?_
  refine k_istore 2 rfl rfl ?_
  exact b_X2_keep_2 _ rfl (gs_ne rfl rfl g0) o0 (gs_ne rfl rfl g1) (gs_ne rfl rfl g2) gs_eq (okL_set (i := 3) (v := .inl v1) rfl hL) hI
theorem c_X2_keep {h : am_h} {v0 : Nat} {v1 : Int32} {v2 : Int32} (hT : ty_H h) (o0 : ob 2 v0) : am_Mt 3 44 [.inr (.inr (some v0)), .inl v1, .inl v2] h (ty_Q w_X2_keep 3 (ob_P h) h) := am_Mt.of (b_X2_keep rfl o0 rfl rfl (okA_r hT o0 (okA_i (okA_i okA_n))) (ob_I.start hT))
abbrev w_X2_depthBehind : List (Nat × Nat) := []
theorem b_X2_depthBehind {B : Nat} {h0 : am_h} {lv : am_l} {h : am_h} {c s : Nat} {v0 : Int32} {v1 : Int32} {v2 : Nat} (g0 : am_get lv 0 = some (.inl v0)) (g1 : am_get lv 1 = some (.inl v1)) (g2 : am_get lv 2 = some (.inr (.inr (some v2)))) (o2 : ob 3 v2) (hL : am_okL h.length lv = true) (hI : ob_I w_X2_depthBehind B h0 h c s) : am_Ok am_G 2 47 (0, lv, [], h, c, s) (ty_Q w_X2_depthBehind 2 B h0) := by
  refine k_iload 1 rfl g0 rfl ?_
  by_cases b1 : v0 = 0
  · refine k_c1 4 rfl rfl (if_pos b1) ?_
    refine k_aload 5 rfl g2 rfl ?_
    refine k_iload 6 rfl g1 rfl ?_
    refine k_cl (W' := []) rfl ((rw_add (W := []) hI.1 (Or.inl o2)).imp (fun _ z => z.1)) rfl rfl rfl (hI.1.rc3 (Or.inl o2)) hI (by decide) hL so_n ?_
    rintro w2 h3 c4 s5 hv I6 L7 F8
    obtain ⟨_, rfl, x9, rfl, z10⟩ := hv
    show am_Ok _ _ _ (9, _, [.inl x9], h3, c4, s5) _
    refine k_pop 10 rfl rfl rfl ?_
    refine k_iload 11 rfl g1 rfl ?_
    exact k_fin rfl rfl ⟨⟨_, rfl, ⟨_, rfl, _, rfl⟩⟩, I6⟩
  · refine k_c1 12 rfl rfl (if_neg b1) ?_
    refine k_iload 13 rfl g0 rfl ?_
    refine k_push 14 rfl rfl ?_
    by_cases b11 : v0 = (1 : Int32)
    · refine k_c2 17 rfl rfl (if_pos b11) ?_
      refine k_iload 18 rfl g1 rfl ?_
      refine k_push 19 rfl rfl ?_
      obtain ⟨x12, q13⟩ : ∃ q : Int32, q = (v1 + (1 : Int32)) := ⟨_, rfl⟩
      refine k_bin x12 20 rfl q13.symm rfl ?_
      refine k_goto 27 rfl rfl ?_
      exact k_fin rfl rfl ⟨⟨_, rfl, ⟨_, rfl, _, rfl⟩⟩, hI⟩
    · refine k_c2 23 rfl rfl (if_neg b11) ?_
      refine k_aload 24 rfl g2 rfl ?_
      refine k_cl (W' := []) rfl (rw_takeLast hI.1 o2) rfl rfl rfl (hI.1.rc3 (Or.inl o2)) hI (by decide) hL so_n ?_
      rintro w14 h15 c16 s17 hv I18 L19 F20
      obtain ⟨_, rfl, x21, rfl⟩ := hv
      show am_Ok _ _ _ (27, _, [.inl x21], h15, c16, s17) _
      exact k_fin rfl rfl ⟨⟨_, rfl, ⟨_, rfl, _, rfl⟩⟩, I18⟩
theorem c_X2_depthBehind {h : am_h} {v0 : Int32} {v1 : Int32} {v2 : Nat} (hT : ty_H h) (o2 : ob 3 v2) : am_Mt 3 47 [.inl v0, .inl v1, .inr (.inr (some v2))] h (ty_Q w_X2_depthBehind 2 (ob_P h) h) := am_Mt.of (b_X2_depthBehind rfl rfl rfl o2 (okA_i (okA_i (okA_r hT o2 okA_n))) (ob_I.start hT))
abbrev w_X2_putArgument : List (Nat × Nat) := []
theorem b_X2_putArgument_14 {B : Nat} {h0 : am_h} : ∀ (n : Nat) {lv : am_l} {h : am_h} {c s : Nat} {v0 : Nat} {v1 : Int32} {v2 : Int32} {v3 : Int32} {v4 : Int32} {v5 : Int32} , up_m v5 = n → am_get lv 0 = some (.inr (.inr (some v0))) → ob 2 v0 → am_get lv 1 = some (.inl v1) → am_get lv 2 = some (.inl v2) → am_get lv 3 = some (.inl v3) → am_get lv 4 = some (.inl v4) → am_get lv 5 = some (.inl v5) → am_okL h.length lv = true → ob_I w_X2_putArgument B h0 h c s → am_Ok am_G 3 46 (14, lv, [], h, c, s) (ty_Q w_X2_putArgument 3 B h0) := by
  intro n
  induction n using Nat.strongRecOn with
  | ind n ih =>
    intro lv h c s v0 v1 v2 v3 v4 v5 hn g0 o0 g1 g2 g3 g4 g5 hL hI
    refine k_iload 16 rfl g5 rfl ?_
    refine k_iload 17 rfl g2 rfl ?_
    by_cases b1 : v2 ≤ v5
    · refine k_c2 80 rfl rfl (if_pos b1) ?_
      refine k_push 81 rfl rfl ?_
      exact k_fin rfl (fin_Z (Or.inr rfl)) ⟨⟨_, rfl, ⟨_, rfl, _, rfl, (Or.inr rfl)⟩⟩, hI⟩
    · refine k_c2 20 rfl rfl (if_neg b1) ?_
      refine k_aload 21 rfl g0 rfl ?_
      obtain ⟨fs2, u3, e4, f5, t6⟩ := hI.1.get o0 (k := 2) rfl rfl
      obtain ⟨i7, rfl, o8⟩ := t6
      refine k_get 24 rfl e4 f5 rfl ?_
      refine k_iload 26 rfl g5 rfl ?_
      refine k_cl (W' := []) rfl (rw_get hI.1 (Or.inl o8)) rfl rfl rfl (hI.1.rc3 (Or.inl o8)) hI (by decide) hL so_n ?_
      rintro w9 h10 c11 s12 hv I13 L14 F15
      obtain ⟨_, rfl, x16, rfl⟩ := hv
      show am_Ok _ _ _ (29, _, [.inl x16], h10, c11, s12) _
      refine k_istore 31 rfl rfl ?_
      refine k_aload 32 rfl (gs_ne rfl rfl g0) rfl ?_
      obtain ⟨fs17, u18, e19, f20, t21⟩ := I13.1.get o0 (k := 3) rfl rfl
      obtain ⟨i22, rfl, o23⟩ := t21
      refine k_get 35 rfl e19 f20 rfl ?_
      refine k_iload 37 rfl gs_eq rfl ?_
      refine k_push 38 rfl rfl ?_
      refine k_iload 40 rfl (gs_ne rfl rfl g4) rfl ?_
      obtain ⟨x24, q25⟩ : ∃ q : Int32, q = ((2 : Int32) + v4) := ⟨_, rfl⟩
      refine k_bin x24 41 rfl q25.symm rfl ?_
      by_cases b26 : x24 ≤ x16
      · refine k_c2 49 rfl rfl (if_pos b26) ?_
        refine k_iload 51 rfl gs_eq rfl ?_
        refine k_iload 52 rfl (gs_ne rfl rfl g3) rfl ?_
        obtain ⟨x27, q28⟩ : ∃ q : Int32, q = (x16 + v3) := ⟨_, rfl⟩
        refine k_bin x27 53 rfl q28.symm rfl ?_
        refine k_cl (W' := []) rfl ((rw_add (W := []) I13.1 (Or.inl o23)).imp (fun _ z => z.1)) rfl rfl rfl (I13.1.rc3 (Or.inl o23)) I13 (by decide) (okL_set (i := 6) (v := .inl x16) rfl L14) so_n ?_
        rintro w29 h30 c31 s32 hv I33 L34 F35
        obtain ⟨_, rfl, x36, rfl, z37⟩ := hv
        show am_Ok _ _ _ (56, _, [.inl x36], h30, c31, s32) _
        by_cases b38 : x36 = 0
        · refine k_c1 59 rfl rfl (if_pos b38) ?_
          refine k_push 60 rfl rfl ?_
          exact k_fin rfl (fin_Z (Or.inl rfl)) ⟨⟨_, rfl, ⟨_, rfl, _, rfl, (Or.inl rfl)⟩⟩, I33⟩
        · refine k_c1 61 rfl rfl (if_neg b38) ?_
          refine k_iload 63 rfl gs_eq rfl ?_
          refine k_iload 65 rfl (gs_ne rfl rfl g4) rfl ?_
          refine k_aload 66 rfl (gs_ne rfl rfl g0) rfl ?_
          obtain ⟨fs39, u40, e41, f42, t43⟩ := I33.1.get o0 (k := 1) rfl rfl
          obtain ⟨i44, rfl, o45⟩ := t43
          refine k_get 69 rfl e41 f42 rfl ?_
          refine k_cl (W' := w_X2_depthBehind) rfl (c_X2_depthBehind I33.1 o45) rfl rfl rfl rfl I33 (by decide) L34 so_n ?_
          rintro w46 h47 c48 s49 hv I50 L51 F52
          obtain ⟨_, rfl, x53, rfl⟩ := hv
          show am_Ok _ _ _ (72, _, [.inl x53], h47, c48, s49) _
          refine k_istore 74 rfl rfl ?_
          refine k_iinc (v5 + 1) 77 rfl (gs_ne rfl rfl (gs_ne rfl rfl g5)) rfl rfl ?_
          refine k_goto 14 rfl rfl ?_
          exact ih _ (by rw [← hn]; exact up_lt b1) rfl (gs_ne rfl rfl (gs_ne rfl rfl (gs_ne rfl rfl g0))) o0 (gs_ne rfl rfl (gs_ne rfl rfl (gs_ne rfl rfl g1))) (gs_ne rfl rfl (gs_ne rfl rfl (gs_ne rfl rfl g2))) (gs_ne rfl rfl (gs_ne rfl rfl (gs_ne rfl rfl g3))) (gs_ne rfl rfl gs_eq) gs_eq (okL_set (i := 5) (v := .inl (v5 + 1)) rfl (okL_set (i := 4) (v := .inl x53) rfl L51)) I50
      · refine k_c2 44 rfl rfl (if_neg b26) ?_
        refine k_iload 46 rfl gs_eq rfl ?_
        refine k_goto 53 rfl rfl ?_
        refine k_cl (W' := []) rfl ((rw_add (W := []) I13.1 (Or.inl o23)).imp (fun _ z => z.1)) rfl rfl rfl (I13.1.rc3 (Or.inl o23)) I13 (by decide) (okL_set (i := 6) (v := .inl x16) rfl L14) so_n ?_
        rintro w54 h55 c56 s57 hv I58 L59 F60
        obtain ⟨_, rfl, x61, rfl, z62⟩ := hv
        show am_Ok _ _ _ (56, _, [.inl x61], h55, c56, s57) _
        by_cases b63 : x61 = 0
        · refine k_c1 59 rfl rfl (if_pos b63) ?_
          refine k_push 60 rfl rfl ?_
          exact k_fin rfl (fin_Z (Or.inl rfl)) ⟨⟨_, rfl, ⟨_, rfl, _, rfl, (Or.inl rfl)⟩⟩, I58⟩
        · refine k_c1 61 rfl rfl (if_neg b63) ?_
          refine k_iload 63 rfl gs_eq rfl ?_
          refine k_iload 65 rfl (gs_ne rfl rfl g4) rfl ?_
          refine k_aload 66 rfl (gs_ne rfl rfl g0) rfl ?_
          obtain ⟨fs64, u65, e66, f67, t68⟩ := I58.1.get o0 (k := 1) rfl rfl
          obtain ⟨i69, rfl, o70⟩ := t68
          refine k_get 69 rfl e66 f67 rfl ?_
          refine k_cl (W' := w_X2_depthBehind) rfl (c_X2_depthBehind I58.1 o70) rfl rfl rfl rfl I58 (by decide) L59 so_n ?_
          rintro w71 h72 c73 s74 hv I75 L76 F77
          obtain ⟨_, rfl, x78, rfl⟩ := hv
          show am_Ok _ _ _ (72, _, [.inl x78], h72, c73, s74) _
          refine k_istore 74 rfl rfl ?_
          refine k_iinc (v5 + 1) 77 rfl (gs_ne rfl rfl (gs_ne rfl rfl g5)) rfl rfl ?_
          refine k_goto 14 rfl rfl ?_
          exact ih _ (by rw [← hn]; exact up_lt b1) rfl (gs_ne rfl rfl (gs_ne rfl rfl (gs_ne rfl rfl g0))) o0 (gs_ne rfl rfl (gs_ne rfl rfl (gs_ne rfl rfl g1))) (gs_ne rfl rfl (gs_ne rfl rfl (gs_ne rfl rfl g2))) (gs_ne rfl rfl (gs_ne rfl rfl (gs_ne rfl rfl g3))) (gs_ne rfl rfl gs_eq) gs_eq (okL_set (i := 5) (v := .inl (v5 + 1)) rfl (okL_set (i := 4) (v := .inl x78) rfl L76)) I75
theorem b_X2_putArgument {B : Nat} {h0 : am_h} {lv : am_l} {h : am_h} {c s : Nat} {v0 : Nat} {v1 : Int32} {v2 : Int32} {v3 : Int32} (g0 : am_get lv 0 = some (.inr (.inr (some v0)))) (o0 : ob 2 v0) (g1 : am_get lv 1 = some (.inl v1)) (g2 : am_get lv 2 = some (.inl v2)) (g3 : am_get lv 3 = some (.inl v3)) (hL : am_okL h.length lv = true) (hI : ob_I w_X2_putArgument B h0 h c s) : am_Ok am_G 3 46 (0, lv, [], h, c, s) (ty_Q w_X2_putArgument 3 B h0) := by
  refine k_aload 1 rfl g0 rfl ?_
  obtain ⟨fs79, u80, e81, f82, t83⟩ := hI.1.get o0 (k := 1) rfl rfl
  obtain ⟨i84, rfl, o85⟩ := t83
  refine k_get 4 rfl e81 f82 rfl ?_
  refine k_push 5 rfl rfl ?_
  refine k_cl (W' := []) rfl (rw_cut (W := []) hI.1 (Or.inl o85)) rfl rfl rfl (hI.1.rc3 (Or.inl o85)) hI (by decide) hL so_n ?_
  rintro w86 h87 c88 s89 hv I90 L91 F92
  cases hv
  show am_Ok _ _ _ (8, _, [], h87, c88, s89) _
  refine k_push 9 rfl rfl ?_
  refine k_istore 11 rfl rfl ?_
  refine k_iload 12 rfl (gs_ne rfl rfl g1) rfl ?_
  refine k_istore 14 rfl rfl ?_
  exact b_X2_putArgument_14 _ rfl (gs_ne rfl rfl (gs_ne rfl rfl g0)) o0 (gs_ne rfl rfl (gs_ne rfl rfl g1)) (gs_ne rfl rfl (gs_ne rfl rfl g2)) (gs_ne rfl rfl (gs_ne rfl rfl g3)) (gs_ne rfl rfl gs_eq) gs_eq (okL_set (i := 5) (v := .inl v1) rfl (okL_set (i := 4) (v := .inl (0 : Int32)) rfl L91)) I90
theorem c_X2_putArgument {h : am_h} {v0 : Nat} {v1 : Int32} {v2 : Int32} {v3 : Int32} (hT : ty_H h) (o0 : ob 2 v0) : am_Mt 4 46 [.inr (.inr (some v0)), .inl v1, .inl v2, .inl v3] h (ty_Q w_X2_putArgument 3 (ob_P h) h) := am_Mt.of (b_X2_putArgument rfl o0 rfl rfl rfl (okA_r hT o0 (okA_i (okA_i (okA_i okA_n)))) (ob_I.start hT))
abbrev w_X2_putIn : List (Nat × Nat) := []
theorem b_X2_putIn_14 {B : Nat} {h0 : am_h} : ∀ (n : Nat) {lv : am_l} {h : am_h} {c s : Nat} {v0 : Nat} {v1 : Int32} {v2 : Int32} {v3 : Int32} {v4 : Int32} {v5 : Int32} , up_m v5 = n → am_get lv 0 = some (.inr (.inr (some v0))) → ob 2 v0 → am_get lv 1 = some (.inl v1) → am_get lv 2 = some (.inl v2) → am_get lv 3 = some (.inl v3) → am_get lv 4 = some (.inl v4) → am_get lv 5 = some (.inl v5) → am_okL h.length lv = true → ob_I w_X2_putIn B h0 h c s → am_Ok am_G 4 45 (14, lv, [], h, c, s) (ty_Q w_X2_putIn 3 B h0) := by
  intro n
  induction n using Nat.strongRecOn with
  | ind n ih =>
    intro lv h c s v0 v1 v2 v3 v4 v5 hn g0 o0 g1 g2 g3 g4 g5 hL hI
    refine k_iload 16 rfl g5 rfl ?_
    refine k_iload 17 rfl g2 rfl ?_
    by_cases b1 : v2 ≤ v5
    · refine k_c2 126 rfl rfl (if_pos b1) ?_
      refine k_push 127 rfl rfl ?_
      exact k_fin rfl (fin_Z (Or.inr rfl)) ⟨⟨_, rfl, ⟨_, rfl, _, rfl, (Or.inr rfl)⟩⟩, hI⟩
    · refine k_c2 20 rfl rfl (if_neg b1) ?_
      refine k_aload 21 rfl g0 rfl ?_
      obtain ⟨fs2, u3, e4, f5, t6⟩ := hI.1.get o0 (k := 2) rfl rfl
      obtain ⟨i7, rfl, o8⟩ := t6
      refine k_get 24 rfl e4 f5 rfl ?_
      refine k_iload 26 rfl g5 rfl ?_
      refine k_cl (W' := []) rfl (rw_get hI.1 (Or.inl o8)) rfl rfl rfl (hI.1.rc3 (Or.inl o8)) hI (by decide) hL so_n ?_
      rintro w9 h10 c11 s12 hv I13 L14 F15
      obtain ⟨_, rfl, x16, rfl⟩ := hv
      show am_Ok _ _ _ (29, _, [.inl x16], h10, c11, s12) _
      refine k_istore 31 rfl rfl ?_
      refine k_iload 33 rfl gs_eq rfl ?_
      refine k_push 34 rfl rfl ?_
      by_cases b17 : (2 : Int32) ≤ x16
      · refine k_c2 51 rfl rfl (if_pos b17) ?_
        refine k_iload 53 rfl gs_eq rfl ?_
        refine k_push 54 rfl rfl ?_
        refine k_iload 56 rfl (gs_ne rfl rfl g4) rfl ?_
        obtain ⟨x18, q19⟩ : ∃ q : Int32, q = ((2 : Int32) + v4) := ⟨_, rfl⟩
        refine k_bin x18 57 rfl q19.symm rfl ?_
        by_cases b20 : x16 = x18
        · refine k_c2 60 rfl rfl (if_pos b20) ?_
          refine k_aload 61 rfl (gs_ne rfl rfl g0) rfl ?_
          refine k_iload 62 rfl (gs_ne rfl rfl g2) rfl ?_
          refine k_iload 63 rfl (gs_ne rfl rfl g3) rfl ?_
          refine k_iload 65 rfl (gs_ne rfl rfl g4) rfl ?_
          refine k_cl (W' := w_X2_putArgument) rfl (c_X2_putArgument I13.1 o0) rfl rfl rfl (I13.1.rc o0 rfl) I13 (by decide) (okL_set (i := 6) (v := .inl x16) rfl L14) so_n ?_
          rintro w21 h22 c23 s24 hv I25 L26 F27
          obtain ⟨_, rfl, x28, rfl, z29⟩ := hv
          show am_Ok _ _ _ (68, _, [.inl x28], h22, c23, s24) _
          refine k_istore 70 rfl rfl ?_
          refine k_goto 100 rfl rfl ?_
          refine k_iload 102 rfl gs_eq rfl ?_
          by_cases b30 : x28 = 0
          · refine k_c1 105 rfl rfl (if_pos b30) ?_
            refine k_push 106 rfl rfl ?_
            exact k_fin rfl (fin_Z (Or.inl rfl)) ⟨⟨_, rfl, ⟨_, rfl, _, rfl, (Or.inl rfl)⟩⟩, I25⟩
          · refine k_c1 107 rfl rfl (if_neg b30) ?_
            refine k_iload 109 rfl (gs_ne rfl rfl gs_eq) rfl ?_
            refine k_iload 111 rfl (gs_ne rfl rfl (gs_ne rfl rfl g4)) rfl ?_
            refine k_aload 112 rfl (gs_ne rfl rfl (gs_ne rfl rfl g0)) rfl ?_
            obtain ⟨fs31, u32, e33, f34, t35⟩ := I25.1.get o0 (k := 0) rfl rfl
            obtain ⟨i36, rfl, o37⟩ := t35
            refine k_get 115 rfl e33 f34 rfl ?_
            refine k_cl (W' := w_X2_depthBehind) rfl (c_X2_depthBehind I25.1 o37) rfl rfl rfl rfl I25 (by decide) (okL_set (i := 7) (v := .inl x28) rfl L26) so_n ?_
            rintro w38 h39 c40 s41 hv I42 L43 F44
            obtain ⟨_, rfl, x45, rfl⟩ := hv
            show am_Ok _ _ _ (118, _, [.inl x45], h39, c40, s41) _
            refine k_istore 120 rfl rfl ?_
            refine k_iinc (v5 + 1) 123 rfl (gs_ne rfl rfl (gs_ne rfl rfl (gs_ne rfl rfl g5))) rfl rfl ?_
            refine k_goto 14 rfl rfl ?_
            exact ih _ (by rw [← hn]; exact up_lt b1) rfl (gs_ne rfl rfl (gs_ne rfl rfl (gs_ne rfl rfl (gs_ne rfl rfl g0)))) o0 (gs_ne rfl rfl (gs_ne rfl rfl (gs_ne rfl rfl (gs_ne rfl rfl g1)))) (gs_ne rfl rfl (gs_ne rfl rfl (gs_ne rfl rfl (gs_ne rfl rfl g2)))) (gs_ne rfl rfl (gs_ne rfl rfl (gs_ne rfl rfl (gs_ne rfl rfl g3)))) (gs_ne rfl rfl gs_eq) gs_eq (okL_set (i := 5) (v := .inl (v5 + 1)) rfl (okL_set (i := 4) (v := .inl x45) rfl L43)) I42
        · refine k_c2 73 rfl rfl (if_neg b20) ?_
          refine k_aload 74 rfl (gs_ne rfl rfl g0) rfl ?_
          obtain ⟨fs46, u47, e48, f49, t50⟩ := I13.1.get o0 (k := 3) rfl rfl
          obtain ⟨i51, rfl, o52⟩ := t50
          refine k_get 77 rfl e48 f49 rfl ?_
          refine k_iload 79 rfl gs_eq rfl ?_
          refine k_push 80 rfl rfl ?_
          refine k_iload 82 rfl (gs_ne rfl rfl g4) rfl ?_
          obtain ⟨x53, q54⟩ : ∃ q : Int32, q = ((2 : Int32) + v4) := ⟨_, rfl⟩
          refine k_bin x53 83 rfl q54.symm rfl ?_
          by_cases b55 : x53 ≤ x16
          · refine k_c2 91 rfl rfl (if_pos b55) ?_
            refine k_iload 93 rfl gs_eq rfl ?_
            refine k_push 94 rfl rfl ?_
            obtain ⟨x56, q57⟩ : ∃ q : Int32, q = (x16 - (1 : Int32)) := ⟨_, rfl⟩
            refine k_bin x56 95 rfl q57.symm rfl ?_
            refine k_cl (W' := []) rfl ((rw_add (W := []) I13.1 (Or.inl o52)).imp (fun _ z => z.1)) rfl rfl rfl (I13.1.rc3 (Or.inl o52)) I13 (by decide) (okL_set (i := 6) (v := .inl x16) rfl L14) so_n ?_
            rintro w58 h59 c60 s61 hv I62 L63 F64
            obtain ⟨_, rfl, x65, rfl, z66⟩ := hv
            show am_Ok _ _ _ (98, _, [.inl x65], h59, c60, s61) _
            refine k_istore 100 rfl rfl ?_
            refine k_iload 102 rfl gs_eq rfl ?_
            by_cases b67 : x65 = 0
            · refine k_c1 105 rfl rfl (if_pos b67) ?_
              refine k_push 106 rfl rfl ?_
              exact k_fin rfl (fin_Z (Or.inl rfl)) ⟨⟨_, rfl, ⟨_, rfl, _, rfl, (Or.inl rfl)⟩⟩, I62⟩
            · refine k_c1 107 rfl rfl (if_neg b67) ?_
              refine k_iload 109 rfl (gs_ne rfl rfl gs_eq) rfl ?_
              refine k_iload 111 rfl (gs_ne rfl rfl (gs_ne rfl rfl g4)) rfl ?_
              refine k_aload 112 rfl (gs_ne rfl rfl (gs_ne rfl rfl g0)) rfl ?_
              obtain ⟨fs68, u69, e70, f71, t72⟩ := I62.1.get o0 (k := 0) rfl rfl
              obtain ⟨i73, rfl, o74⟩ := t72
              refine k_get 115 rfl e70 f71 rfl ?_
              refine k_cl (W' := w_X2_depthBehind) rfl (c_X2_depthBehind I62.1 o74) rfl rfl rfl rfl I62 (by decide) (okL_set (i := 7) (v := .inl x65) rfl L63) so_n ?_
              rintro w75 h76 c77 s78 hv I79 L80 F81
              obtain ⟨_, rfl, x82, rfl⟩ := hv
              show am_Ok _ _ _ (118, _, [.inl x82], h76, c77, s78) _
              refine k_istore 120 rfl rfl ?_
              refine k_iinc (v5 + 1) 123 rfl (gs_ne rfl rfl (gs_ne rfl rfl (gs_ne rfl rfl g5))) rfl rfl ?_
              refine k_goto 14 rfl rfl ?_
              exact ih _ (by rw [← hn]; exact up_lt b1) rfl (gs_ne rfl rfl (gs_ne rfl rfl (gs_ne rfl rfl (gs_ne rfl rfl g0)))) o0 (gs_ne rfl rfl (gs_ne rfl rfl (gs_ne rfl rfl (gs_ne rfl rfl g1)))) (gs_ne rfl rfl (gs_ne rfl rfl (gs_ne rfl rfl (gs_ne rfl rfl g2)))) (gs_ne rfl rfl (gs_ne rfl rfl (gs_ne rfl rfl (gs_ne rfl rfl g3)))) (gs_ne rfl rfl gs_eq) gs_eq (okL_set (i := 5) (v := .inl (v5 + 1)) rfl (okL_set (i := 4) (v := .inl x82) rfl L80)) I79
          · refine k_c2 86 rfl rfl (if_neg b55) ?_
            refine k_iload 88 rfl gs_eq rfl ?_
            refine k_goto 95 rfl rfl ?_
            refine k_cl (W' := []) rfl ((rw_add (W := []) I13.1 (Or.inl o52)).imp (fun _ z => z.1)) rfl rfl rfl (I13.1.rc3 (Or.inl o52)) I13 (by decide) (okL_set (i := 6) (v := .inl x16) rfl L14) so_n ?_
            rintro w83 h84 c85 s86 hv I87 L88 F89
            obtain ⟨_, rfl, x90, rfl, z91⟩ := hv
            show am_Ok _ _ _ (98, _, [.inl x90], h84, c85, s86) _
            refine k_istore 100 rfl rfl ?_
            refine k_iload 102 rfl gs_eq rfl ?_
            by_cases b92 : x90 = 0
            · refine k_c1 105 rfl rfl (if_pos b92) ?_
              refine k_push 106 rfl rfl ?_
              exact k_fin rfl (fin_Z (Or.inl rfl)) ⟨⟨_, rfl, ⟨_, rfl, _, rfl, (Or.inl rfl)⟩⟩, I87⟩
            · refine k_c1 107 rfl rfl (if_neg b92) ?_
              refine k_iload 109 rfl (gs_ne rfl rfl gs_eq) rfl ?_
              refine k_iload 111 rfl (gs_ne rfl rfl (gs_ne rfl rfl g4)) rfl ?_
              refine k_aload 112 rfl (gs_ne rfl rfl (gs_ne rfl rfl g0)) rfl ?_
              obtain ⟨fs93, u94, e95, f96, t97⟩ := I87.1.get o0 (k := 0) rfl rfl
              obtain ⟨i98, rfl, o99⟩ := t97
              refine k_get 115 rfl e95 f96 rfl ?_
              refine k_cl (W' := w_X2_depthBehind) rfl (c_X2_depthBehind I87.1 o99) rfl rfl rfl rfl I87 (by decide) (okL_set (i := 7) (v := .inl x90) rfl L88) so_n ?_
              rintro w100 h101 c102 s103 hv I104 L105 F106
              obtain ⟨_, rfl, x107, rfl⟩ := hv
              show am_Ok _ _ _ (118, _, [.inl x107], h101, c102, s103) _
              refine k_istore 120 rfl rfl ?_
              refine k_iinc (v5 + 1) 123 rfl (gs_ne rfl rfl (gs_ne rfl rfl (gs_ne rfl rfl g5))) rfl rfl ?_
              refine k_goto 14 rfl rfl ?_
              exact ih _ (by rw [← hn]; exact up_lt b1) rfl (gs_ne rfl rfl (gs_ne rfl rfl (gs_ne rfl rfl (gs_ne rfl rfl g0)))) o0 (gs_ne rfl rfl (gs_ne rfl rfl (gs_ne rfl rfl (gs_ne rfl rfl g1)))) (gs_ne rfl rfl (gs_ne rfl rfl (gs_ne rfl rfl (gs_ne rfl rfl g2)))) (gs_ne rfl rfl (gs_ne rfl rfl (gs_ne rfl rfl (gs_ne rfl rfl g3)))) (gs_ne rfl rfl gs_eq) gs_eq (okL_set (i := 5) (v := .inl (v5 + 1)) rfl (okL_set (i := 4) (v := .inl x107) rfl L105)) I104
      · refine k_c2 37 rfl rfl (if_neg b17) ?_
        refine k_aload 38 rfl (gs_ne rfl rfl g0) rfl ?_
        obtain ⟨fs108, u109, e110, f111, t112⟩ := I13.1.get o0 (k := 3) rfl rfl
        obtain ⟨i113, rfl, o114⟩ := t112
        refine k_get 41 rfl e110 f111 rfl ?_
        refine k_iload 43 rfl gs_eq rfl ?_
        refine k_cl (W' := []) rfl ((rw_add (W := []) I13.1 (Or.inl o114)).imp (fun _ z => z.1)) rfl rfl rfl (I13.1.rc3 (Or.inl o114)) I13 (by decide) (okL_set (i := 6) (v := .inl x16) rfl L14) so_n ?_
        rintro w115 h116 c117 s118 hv I119 L120 F121
        obtain ⟨_, rfl, x122, rfl, z123⟩ := hv
        show am_Ok _ _ _ (46, _, [.inl x122], h116, c117, s118) _
        refine k_istore 48 rfl rfl ?_
        refine k_goto 100 rfl rfl ?_
        refine k_iload 102 rfl gs_eq rfl ?_
        by_cases b124 : x122 = 0
        · refine k_c1 105 rfl rfl (if_pos b124) ?_
          refine k_push 106 rfl rfl ?_
          exact k_fin rfl (fin_Z (Or.inl rfl)) ⟨⟨_, rfl, ⟨_, rfl, _, rfl, (Or.inl rfl)⟩⟩, I119⟩
        · refine k_c1 107 rfl rfl (if_neg b124) ?_
          refine k_iload 109 rfl (gs_ne rfl rfl gs_eq) rfl ?_
          refine k_iload 111 rfl (gs_ne rfl rfl (gs_ne rfl rfl g4)) rfl ?_
          refine k_aload 112 rfl (gs_ne rfl rfl (gs_ne rfl rfl g0)) rfl ?_
          obtain ⟨fs125, u126, e127, f128, t129⟩ := I119.1.get o0 (k := 0) rfl rfl
          obtain ⟨i130, rfl, o131⟩ := t129
          refine k_get 115 rfl e127 f128 rfl ?_
          refine k_cl (W' := w_X2_depthBehind) rfl (c_X2_depthBehind I119.1 o131) rfl rfl rfl rfl I119 (by decide) (okL_set (i := 7) (v := .inl x122) rfl L120) so_n ?_
          rintro w132 h133 c134 s135 hv I136 L137 F138
          obtain ⟨_, rfl, x139, rfl⟩ := hv
          show am_Ok _ _ _ (118, _, [.inl x139], h133, c134, s135) _
          refine k_istore 120 rfl rfl ?_
          refine k_iinc (v5 + 1) 123 rfl (gs_ne rfl rfl (gs_ne rfl rfl (gs_ne rfl rfl g5))) rfl rfl ?_
          refine k_goto 14 rfl rfl ?_
          exact ih _ (by rw [← hn]; exact up_lt b1) rfl (gs_ne rfl rfl (gs_ne rfl rfl (gs_ne rfl rfl (gs_ne rfl rfl g0)))) o0 (gs_ne rfl rfl (gs_ne rfl rfl (gs_ne rfl rfl (gs_ne rfl rfl g1)))) (gs_ne rfl rfl (gs_ne rfl rfl (gs_ne rfl rfl (gs_ne rfl rfl g2)))) (gs_ne rfl rfl (gs_ne rfl rfl (gs_ne rfl rfl (gs_ne rfl rfl g3)))) (gs_ne rfl rfl gs_eq) gs_eq (okL_set (i := 5) (v := .inl (v5 + 1)) rfl (okL_set (i := 4) (v := .inl x139) rfl L137)) I136
theorem b_X2_putIn {B : Nat} {h0 : am_h} {lv : am_l} {h : am_h} {c s : Nat} {v0 : Nat} {v1 : Int32} {v2 : Int32} {v3 : Int32} (g0 : am_get lv 0 = some (.inr (.inr (some v0)))) (o0 : ob 2 v0) (g1 : am_get lv 1 = some (.inl v1)) (g2 : am_get lv 2 = some (.inl v2)) (g3 : am_get lv 3 = some (.inl v3)) (hL : am_okL h.length lv = true) (hI : ob_I w_X2_putIn B h0 h c s) : am_Ok am_G 4 45 (0, lv, [], h, c, s) (ty_Q w_X2_putIn 3 B h0) := by
  refine k_aload 1 rfl g0 rfl ?_
  obtain ⟨fs140, u141, e142, f143, t144⟩ := hI.1.get o0 (k := 0) rfl rfl
  obtain ⟨i145, rfl, o146⟩ := t144
  refine k_get 4 rfl e142 f143 rfl ?_
  refine k_push 5 rfl rfl ?_
  refine k_cl (W' := []) rfl (rw_cut (W := []) hI.1 (Or.inl o146)) rfl rfl rfl (hI.1.rc3 (Or.inl o146)) hI (by decide) hL so_n ?_
  rintro w147 h148 c149 s150 hv I151 L152 F153
  cases hv
  show am_Ok _ _ _ (8, _, [], h148, c149, s150) _
  refine k_push 9 rfl rfl ?_
  refine k_istore 11 rfl rfl ?_
  refine k_iload 12 rfl (gs_ne rfl rfl g1) rfl ?_
  refine k_istore 14 rfl rfl ?_
  exact b_X2_putIn_14 _ rfl (gs_ne rfl rfl (gs_ne rfl rfl g0)) o0 (gs_ne rfl rfl (gs_ne rfl rfl g1)) (gs_ne rfl rfl (gs_ne rfl rfl g2)) (gs_ne rfl rfl (gs_ne rfl rfl g3)) (gs_ne rfl rfl gs_eq) gs_eq (okL_set (i := 5) (v := .inl v1) rfl (okL_set (i := 4) (v := .inl (0 : Int32)) rfl L152)) I151
theorem c_X2_putIn {h : am_h} {v0 : Nat} {v1 : Int32} {v2 : Int32} {v3 : Int32} (hT : ty_H h) (o0 : ob 2 v0) : am_Mt 5 45 [.inr (.inr (some v0)), .inl v1, .inl v2, .inl v3] h (ty_Q w_X2_putIn 3 (ob_P h) h) := am_Mt.of (b_X2_putIn rfl o0 rfl rfl rfl (okA_r hT o0 (okA_i (okA_i (okA_i okA_n)))) (ob_I.start hT))
abbrev w_X2_workOff : List (Nat × Nat) := [(2, 2), (2, 3), (2, 4), (2, 5)]
theorem b_X2_workOff_18 {B : Nat} {h0 : am_h} : ∀ (n : Nat) {lv : am_l} {h : am_h} {c s : Nat} {v0 : Nat} {v1 : Nat} {v2 : Int32} {xf : Int32} , up_m xf = n → ob_f h v0 4 = some (.inl xf) → am_get lv 0 = some (.inr (.inr (some v0))) → ob 2 v0 → am_get lv 1 = some (.inr (.inr (some v1))) → ob 3 v1 ∨ ob 11 v1 → am_get lv 2 = some (.inl v2) → am_okL h.length lv = true → ob_I w_X2_workOff B h0 h c s → am_Ok am_G 5 41 (18, lv, [], h, c, s) (ty_Q w_X2_workOff 0 B h0) := by
  intro n
  induction n using Nat.strongRecOn with
  | ind n ih =>
    intro lv h c s v0 v1 v2 xf hn tf g0 o0 g1 o1 g2 hL hI
    refine k_aload 19 rfl g0 rfl ?_
    obtain ⟨fs1, u2, e3, f4, t5⟩ := hI.1.get o0 (k := 4) rfl rfl
    obtain rfl : u2 = .inl xf := ob_f.get tf e3 f4
    refine k_get 22 rfl e3 f4 rfl ?_
    refine k_iload 23 rfl g2 rfl ?_
    by_cases b6 : v2 ≤ xf
    · refine k_c2 150 rfl rfl (if_pos b6) ?_
      exact k_fin rfl rfl ⟨⟨_, rfl, rfl⟩, hI⟩
    · refine k_c2 26 rfl rfl (if_neg b6) ?_
      refine k_aload 27 rfl g0 rfl ?_
      obtain ⟨fs7, u8, e9, f10, t11⟩ := hI.1.get o0 (k := 5) rfl rfl
      obtain ⟨x12, rfl, z13⟩ := t11
      refine k_get 30 rfl e9 f10 rfl ?_
      by_cases b14 : x12 = 0
      · refine k_c1 33 rfl rfl (if_pos b14) ?_
        refine k_aload 34 rfl g0 rfl ?_
        refine k_cl (W' := w_X2_firstRedex) rfl (c_X2_firstRedex hI.1 o0) rfl rfl rfl (hI.1.rc o0 rfl) hI (by decide) hL so_n ?_
        rintro w15 h16 c17 s18 hv I19 L20 F21
        have t22 := ob_Fr.f F21 o0 (by decide) (by decide : (2, 4) ∉ w_X2_firstRedex) tf
        obtain ⟨_, rfl, x23, rfl⟩ := hv
        show am_Ok _ _ _ (37, _, [.inl x23], h16, c17, s18) _
        refine k_istore 38 rfl rfl ?_
        refine k_iload 39 rfl gs_eq rfl ?_
        refine k_push 40 rfl rfl ?_
        by_cases b24 : x23 = (-1 : Int32)
        · refine k_c2 43 rfl rfl (if_pos b24) ?_
          exact k_fin rfl rfl ⟨⟨_, rfl, rfl⟩, I19⟩
        · refine k_c2 44 rfl rfl (if_neg b24) ?_
          refine k_aload 45 rfl (gs_ne rfl rfl g0) rfl ?_
          refine k_iload 46 rfl gs_eq rfl ?_
          refine k_push 47 rfl rfl ?_
          obtain ⟨x25, q26⟩ : ∃ q : Int32, q = (x23 + (2 : Int32)) := ⟨_, rfl⟩
          refine k_bin x25 48 rfl q26.symm rfl ?_
          refine k_cl (W' := w_X2_behindTerm) rfl (c_X2_behindTerm I19.1 o0) rfl rfl rfl (I19.1.rc o0 rfl) I19 (by decide) (okL_set (i := 3) (v := .inl x23) rfl L20) so_n ?_
          rintro w27 h28 c29 s30 hv I31 L32 F33
          have t34 := ob_Fr.f F33 o0 (by decide) (by decide : (2, 4) ∉ w_X2_behindTerm) t22
          obtain ⟨_, rfl, x35, rfl⟩ := hv
          show am_Ok _ _ _ (51, _, [.inl x35], h28, c29, s30) _
          refine k_istore 53 rfl rfl ?_
          refine k_aload 54 rfl (gs_ne rfl rfl (gs_ne rfl rfl g0)) rfl ?_
          refine k_iload 56 rfl gs_eq rfl ?_
          refine k_cl (W' := w_X2_behindTerm) rfl (c_X2_behindTerm I31.1 o0) rfl rfl rfl (I31.1.rc o0 rfl) I31 (by decide) (okL_set (i := 4) (v := .inl x35) rfl L32) so_n ?_
          rintro w36 h37 c38 s39 hv I40 L41 F42
          have t43 := ob_Fr.f F42 o0 (by decide) (by decide : (2, 4) ∉ w_X2_behindTerm) t34
          obtain ⟨_, rfl, x44, rfl⟩ := hv
          show am_Ok _ _ _ (59, _, [.inl x44], h37, c38, s39) _
          refine k_istore 61 rfl rfl ?_
          refine k_aload 62 rfl (gs_ne rfl rfl (gs_ne rfl rfl (gs_ne rfl rfl g0))) rfl ?_
          obtain ⟨fs45, u46, e47, f48, t49⟩ := I40.1.get o0 (k := 3) rfl rfl
          obtain ⟨i50, rfl, o51⟩ := t49
          refine k_get 65 rfl e47 f48 rfl ?_
          refine k_push 66 rfl rfl ?_
          refine k_cl (W' := []) rfl (rw_cut (W := []) I40.1 (Or.inl o51)) rfl rfl rfl (I40.1.rc3 (Or.inl o51)) I40 (by decide) (okL_set (i := 5) (v := .inl x44) rfl L41) so_n ?_
          rintro w52 h53 c54 s55 hv I56 L57 F58
          have t59 := ob_Fr.f F58 o0 (by decide) (by decide : (2, 4) ∉ []) t43
          cases hv
          show am_Ok _ _ _ (69, _, [], h53, c54, s55) _
          refine k_aload 70 rfl (gs_ne rfl rfl (gs_ne rfl rfl (gs_ne rfl rfl g0))) rfl ?_
          refine k_aload 71 rfl (gs_ne rfl rfl (gs_ne rfl rfl (gs_ne rfl rfl g0))) rfl ?_
          refine k_push 72 rfl rfl ?_
          refine k_iload 73 rfl (gs_ne rfl rfl (gs_ne rfl rfl gs_eq)) rfl ?_
          refine k_cl (W' := w_X2_keep) rfl (c_X2_keep I56.1 o0) rfl rfl rfl (I56.1.rc o0 rfl) I56 (by decide) L57 (so_r I56 o0 so_n) ?_
          rintro w60 h61 c62 s63 hv I64 L65 F66
          have t67 := ob_Fr.f F66 o0 (by decide) (by decide : (2, 4) ∉ w_X2_keep) t59
          obtain ⟨_, rfl, x68, rfl, z69⟩ := hv
          show am_Ok _ _ _ (76, _, [.inl x68, .inr (.inr (some v0))], h61, c62, s63) _
          by_cases b70 : x68 = 0
          · refine k_c1 109 rfl rfl (if_pos b70) ?_
            refine k_push 110 rfl rfl ?_
            refine k_goto 114 rfl rfl ?_
            obtain ⟨fs71, u72, e73, f74, t75⟩ := I64.1.get o0 (k := 5) rfl rfl
            refine k_put 117 rfl e73 (okZ_of (Or.inr rfl)) (List.getElem?_eq_some_iff.mp f74).1 rfl ?_
            obtain ⟨h76, E79, I77, l80⟩ := I64.put (v := .inl (1 : Int32)) o0 rfl e73 (k := 5) rfl (show ty_V 1 (.inl (1 : Int32)) from ⟨_, rfl, (Or.inr rfl)⟩) (by decide) rfl
            have t81 := ob_f.ne t67 e73 E79 (by decide)
            rw [E79]
            have L78 := okL_eq l80 L65
            refine k_aload 118 rfl (gs_ne rfl rfl (gs_ne rfl rfl (gs_ne rfl rfl g0))) rfl ?_
            obtain ⟨fs82, u83, e84, f85, t86⟩ := I77.1.get o0 (k := 2) rfl rfl
            obtain ⟨i87, rfl, o88⟩ := t86
            refine k_get 121 rfl e84 f85 rfl ?_
            refine k_astore 123 rfl rfl ?_
            refine k_aload 124 rfl (gs_ne rfl rfl (gs_ne rfl rfl (gs_ne rfl rfl (gs_ne rfl rfl g0)))) rfl ?_
            refine k_aload 125 rfl (gs_ne rfl rfl (gs_ne rfl rfl (gs_ne rfl rfl (gs_ne rfl rfl g0)))) rfl ?_
            obtain ⟨fs89, u90, e91, f92, t93⟩ := I77.1.get o0 (k := 3) rfl rfl
            obtain ⟨i94, rfl, o95⟩ := t93
            refine k_get 128 rfl e91 f92 rfl ?_
            have e96 : fs89 = fs82 := (Prod.mk.inj (Sum.inr.inj (Option.some.inj (e91.symm.trans e84)))).2
            rw [e96] at f92
            refine k_put 131 rfl e84 rfl (List.getElem?_eq_some_iff.mp f85).1 rfl ?_
            have e97 : (h76.set v0 (.inr (2, fs82.set 2 (.inr (.inr (some i94))))))[v0]? = some (.inr (2, fs82.set 2 (.inr (.inr (some i94))))) := List.getElem?_set_self (List.getElem?_eq_some_iff.mp e84).1
            refine k_aload 132 rfl (gs_ne rfl rfl (gs_ne rfl rfl (gs_ne rfl rfl (gs_ne rfl rfl g0)))) rfl ?_
            refine k_aload 134 rfl gs_eq rfl ?_
            refine k_put 137 rfl e97 rfl (by rw [List.length_set]; exact (List.getElem?_eq_some_iff.mp f92).1) rfl ?_
            obtain ⟨h98, E101, I99, l102⟩ := I77.swap o0 e84 f85 f92 o88 o95 (by decide) (by decide)
            have t103 := ob_f.ne t81 e84 rfl (by decide : (2 : Nat) ≠ 4) (v := .inr (.inr (some i94)))
            have t104 := ob_f.ne t103 e97 E101 (by decide)
            rw [E101]
            have L100 := okL_eq l102 (okL_set (i := 6) (v := .inr (.inr (some i87))) (ob_okR I77 o88) L78)
            refine k_aload 138 rfl (gs_ne rfl rfl (gs_ne rfl rfl (gs_ne rfl rfl (gs_ne rfl rfl g0)))) rfl ?_
            refine k_dup 139 rfl rfl rfl ?_
            obtain ⟨fs105, u106, e107, f108, t109⟩ := I99.1.get o0 (k := 4) rfl rfl
            obtain rfl : u106 = .inl xf := ob_f.get t104 e107 f108
            refine k_get 142 rfl e107 f108 rfl ?_
            refine k_push 143 rfl rfl ?_
            obtain ⟨x110, q111⟩ : ∃ q : Int32, q = (xf + (1 : Int32)) := ⟨_, rfl⟩
            refine k_bin x110 144 rfl q111.symm rfl ?_
            obtain ⟨fs112, u113, e114, f115, t116⟩ := I99.1.get o0 (k := 4) rfl rfl
            refine k_put 147 rfl e114 rfl (List.getElem?_eq_some_iff.mp f115).1 rfl ?_
            obtain ⟨h117, E120, I118, l121⟩ := I99.put (v := .inl x110) o0 rfl e114 (k := 4) rfl (show ty_V 0 (.inl x110) from ⟨_, rfl⟩) (by decide) rfl
            have t122 := ob_f.put e114 f115 E120
            rw [E120]
            have L119 := okL_eq l121 L100
            refine k_goto 18 rfl rfl ?_
            exact ih _ (by rw [← hn]; exact (by rw [q111]; exact up_lt b6)) rfl t122 (gs_ne rfl rfl (gs_ne rfl rfl (gs_ne rfl rfl (gs_ne rfl rfl g0)))) o0 (gs_ne rfl rfl (gs_ne rfl rfl (gs_ne rfl rfl (gs_ne rfl rfl g1)))) o1 (gs_ne rfl rfl (gs_ne rfl rfl (gs_ne rfl rfl (gs_ne rfl rfl g2)))) L119 I118
          · refine k_c1 79 rfl rfl (if_neg b70) ?_
            refine k_aload 80 rfl (gs_ne rfl rfl (gs_ne rfl rfl (gs_ne rfl rfl g0))) rfl ?_
            refine k_iload 81 rfl (gs_ne rfl rfl (gs_ne rfl rfl gs_eq)) rfl ?_
            refine k_push 82 rfl rfl ?_
            obtain ⟨x123, q124⟩ : ∃ q : Int32, q = (x23 + (2 : Int32)) := ⟨_, rfl⟩
            refine k_bin x123 83 rfl q124.symm rfl ?_
            refine k_iload 85 rfl (gs_ne rfl rfl gs_eq) rfl ?_
            refine k_iload 87 rfl gs_eq rfl ?_
            refine k_cl (W' := w_X2_putIn) rfl (c_X2_putIn I64.1 o0) rfl rfl rfl (I64.1.rc o0 rfl) I64 (by decide) L65 (so_r I64 o0 so_n) ?_
            rintro w125 h126 c127 s128 hv I129 L130 F131
            have t132 := ob_Fr.f F131 o0 (by decide) (by decide : (2, 4) ∉ w_X2_putIn) t67
            obtain ⟨_, rfl, x133, rfl, z134⟩ := hv
            show am_Ok _ _ _ (90, _, [.inl x133, .inr (.inr (some v0))], h126, c127, s128) _
            by_cases b135 : x133 = 0
            · refine k_c1 109 rfl rfl (if_pos b135) ?_
              refine k_push 110 rfl rfl ?_
              refine k_goto 114 rfl rfl ?_
              obtain ⟨fs136, u137, e138, f139, t140⟩ := I129.1.get o0 (k := 5) rfl rfl
              refine k_put 117 rfl e138 (okZ_of (Or.inr rfl)) (List.getElem?_eq_some_iff.mp f139).1 rfl ?_
              obtain ⟨h141, E144, I142, l145⟩ := I129.put (v := .inl (1 : Int32)) o0 rfl e138 (k := 5) rfl (show ty_V 1 (.inl (1 : Int32)) from ⟨_, rfl, (Or.inr rfl)⟩) (by decide) rfl
              have t146 := ob_f.ne t132 e138 E144 (by decide)
              rw [E144]
              have L143 := okL_eq l145 L130
              refine k_aload 118 rfl (gs_ne rfl rfl (gs_ne rfl rfl (gs_ne rfl rfl g0))) rfl ?_
              obtain ⟨fs147, u148, e149, f150, t151⟩ := I142.1.get o0 (k := 2) rfl rfl
              obtain ⟨i152, rfl, o153⟩ := t151
              refine k_get 121 rfl e149 f150 rfl ?_
              refine k_astore 123 rfl rfl ?_
              refine k_aload 124 rfl (gs_ne rfl rfl (gs_ne rfl rfl (gs_ne rfl rfl (gs_ne rfl rfl g0)))) rfl ?_
              refine k_aload 125 rfl (gs_ne rfl rfl (gs_ne rfl rfl (gs_ne rfl rfl (gs_ne rfl rfl g0)))) rfl ?_
              obtain ⟨fs154, u155, e156, f157, t158⟩ := I142.1.get o0 (k := 3) rfl rfl
              obtain ⟨i159, rfl, o160⟩ := t158
              refine k_get 128 rfl e156 f157 rfl ?_
              have e161 : fs154 = fs147 := (Prod.mk.inj (Sum.inr.inj (Option.some.inj (e156.symm.trans e149)))).2
              rw [e161] at f157
              refine k_put 131 rfl e149 rfl (List.getElem?_eq_some_iff.mp f150).1 rfl ?_
              have e162 : (h141.set v0 (.inr (2, fs147.set 2 (.inr (.inr (some i159))))))[v0]? = some (.inr (2, fs147.set 2 (.inr (.inr (some i159))))) := List.getElem?_set_self (List.getElem?_eq_some_iff.mp e149).1
              refine k_aload 132 rfl (gs_ne rfl rfl (gs_ne rfl rfl (gs_ne rfl rfl (gs_ne rfl rfl g0)))) rfl ?_
              refine k_aload 134 rfl gs_eq rfl ?_
              refine k_put 137 rfl e162 rfl (by rw [List.length_set]; exact (List.getElem?_eq_some_iff.mp f157).1) rfl ?_
              obtain ⟨h163, E166, I164, l167⟩ := I142.swap o0 e149 f150 f157 o153 o160 (by decide) (by decide)
              have t168 := ob_f.ne t146 e149 rfl (by decide : (2 : Nat) ≠ 4) (v := .inr (.inr (some i159)))
              have t169 := ob_f.ne t168 e162 E166 (by decide)
              rw [E166]
              have L165 := okL_eq l167 (okL_set (i := 6) (v := .inr (.inr (some i152))) (ob_okR I142 o153) L143)
              refine k_aload 138 rfl (gs_ne rfl rfl (gs_ne rfl rfl (gs_ne rfl rfl (gs_ne rfl rfl g0)))) rfl ?_
              refine k_dup 139 rfl rfl rfl ?_
              obtain ⟨fs170, u171, e172, f173, t174⟩ := I164.1.get o0 (k := 4) rfl rfl
              obtain rfl : u171 = .inl xf := ob_f.get t169 e172 f173
              refine k_get 142 rfl e172 f173 rfl ?_
              refine k_push 143 rfl rfl ?_
              obtain ⟨x175, q176⟩ : ∃ q : Int32, q = (xf + (1 : Int32)) := ⟨_, rfl⟩
              refine k_bin x175 144 rfl q176.symm rfl ?_
              obtain ⟨fs177, u178, e179, f180, t181⟩ := I164.1.get o0 (k := 4) rfl rfl
              refine k_put 147 rfl e179 rfl (List.getElem?_eq_some_iff.mp f180).1 rfl ?_
              obtain ⟨h182, E185, I183, l186⟩ := I164.put (v := .inl x175) o0 rfl e179 (k := 4) rfl (show ty_V 0 (.inl x175) from ⟨_, rfl⟩) (by decide) rfl
              have t187 := ob_f.put e179 f180 E185
              rw [E185]
              have L184 := okL_eq l186 L165
              refine k_goto 18 rfl rfl ?_
              exact ih _ (by rw [← hn]; exact (by rw [q176]; exact up_lt b6)) rfl t187 (gs_ne rfl rfl (gs_ne rfl rfl (gs_ne rfl rfl (gs_ne rfl rfl g0)))) o0 (gs_ne rfl rfl (gs_ne rfl rfl (gs_ne rfl rfl (gs_ne rfl rfl g1)))) o1 (gs_ne rfl rfl (gs_ne rfl rfl (gs_ne rfl rfl (gs_ne rfl rfl g2)))) L184 I183
            · refine k_c1 93 rfl rfl (if_neg b135) ?_
              refine k_aload 94 rfl (gs_ne rfl rfl (gs_ne rfl rfl (gs_ne rfl rfl g0))) rfl ?_
              refine k_iload 96 rfl gs_eq rfl ?_
              refine k_aload 97 rfl (gs_ne rfl rfl (gs_ne rfl rfl (gs_ne rfl rfl g0))) rfl ?_
              obtain ⟨fs188, u189, e190, f191, t192⟩ := I129.1.get o0 (k := 2) rfl rfl
              obtain ⟨i193, rfl, o194⟩ := t192
              refine k_get 100 rfl e190 f191 rfl ?_
              refine k_cl (W' := []) rfl (rw_size I129.1 (Or.inl o194)) rfl rfl rfl (I129.1.rc3 (Or.inl o194)) I129 (by decide) L130 (so_i (so_r I129 o0 (so_r I129 o0 so_n))) ?_
              rintro w195 h196 c197 s198 hv I199 L200 F201
              have t202 := ob_Fr.f F201 o0 (by decide) (by decide : (2, 4) ∉ []) t132
              obtain ⟨_, rfl, x203, rfl⟩ := hv
              show am_Ok _ _ _ (103, _, [.inl x203, .inl x44, .inr (.inr (some v0)), .inr (.inr (some v0))], h196, c197, s198) _
              refine k_cl (W' := w_X2_keep) rfl (c_X2_keep I199.1 o0) rfl rfl rfl (I199.1.rc o0 rfl) I199 (by decide) L200 (so_r I199 o0 so_n) ?_
              rintro w204 h205 c206 s207 hv I208 L209 F210
              have t211 := ob_Fr.f F210 o0 (by decide) (by decide : (2, 4) ∉ w_X2_keep) t202
              obtain ⟨_, rfl, x212, rfl, z213⟩ := hv
              show am_Ok _ _ _ (106, _, [.inl x212, .inr (.inr (some v0))], h205, c206, s207) _
              by_cases b214 : x212 = 0
              · refine k_c1 109 rfl rfl (if_pos b214) ?_
                refine k_push 110 rfl rfl ?_
                refine k_goto 114 rfl rfl ?_
                obtain ⟨fs215, u216, e217, f218, t219⟩ := I208.1.get o0 (k := 5) rfl rfl
                refine k_put 117 rfl e217 (okZ_of (Or.inr rfl)) (List.getElem?_eq_some_iff.mp f218).1 rfl ?_
                obtain ⟨h220, E223, I221, l224⟩ := I208.put (v := .inl (1 : Int32)) o0 rfl e217 (k := 5) rfl (show ty_V 1 (.inl (1 : Int32)) from ⟨_, rfl, (Or.inr rfl)⟩) (by decide) rfl
                have t225 := ob_f.ne t211 e217 E223 (by decide)
                rw [E223]
                have L222 := okL_eq l224 L209
                refine k_aload 118 rfl (gs_ne rfl rfl (gs_ne rfl rfl (gs_ne rfl rfl g0))) rfl ?_
                obtain ⟨fs226, u227, e228, f229, t230⟩ := I221.1.get o0 (k := 2) rfl rfl
                obtain ⟨i231, rfl, o232⟩ := t230
                refine k_get 121 rfl e228 f229 rfl ?_
                refine k_astore 123 rfl rfl ?_
                refine k_aload 124 rfl (gs_ne rfl rfl (gs_ne rfl rfl (gs_ne rfl rfl (gs_ne rfl rfl g0)))) rfl ?_
                refine k_aload 125 rfl (gs_ne rfl rfl (gs_ne rfl rfl (gs_ne rfl rfl (gs_ne rfl rfl g0)))) rfl ?_
                obtain ⟨fs233, u234, e235, f236, t237⟩ := I221.1.get o0 (k := 3) rfl rfl
                obtain ⟨i238, rfl, o239⟩ := t237
                refine k_get 128 rfl e235 f236 rfl ?_
                have e240 : fs233 = fs226 := (Prod.mk.inj (Sum.inr.inj (Option.some.inj (e235.symm.trans e228)))).2
                rw [e240] at f236
                refine k_put 131 rfl e228 rfl (List.getElem?_eq_some_iff.mp f229).1 rfl ?_
                have e241 : (h220.set v0 (.inr (2, fs226.set 2 (.inr (.inr (some i238))))))[v0]? = some (.inr (2, fs226.set 2 (.inr (.inr (some i238))))) := List.getElem?_set_self (List.getElem?_eq_some_iff.mp e228).1
                refine k_aload 132 rfl (gs_ne rfl rfl (gs_ne rfl rfl (gs_ne rfl rfl (gs_ne rfl rfl g0)))) rfl ?_
                refine k_aload 134 rfl gs_eq rfl ?_
                refine k_put 137 rfl e241 rfl (by rw [List.length_set]; exact (List.getElem?_eq_some_iff.mp f236).1) rfl ?_
                obtain ⟨h242, E245, I243, l246⟩ := I221.swap o0 e228 f229 f236 o232 o239 (by decide) (by decide)
                have t247 := ob_f.ne t225 e228 rfl (by decide : (2 : Nat) ≠ 4) (v := .inr (.inr (some i238)))
                have t248 := ob_f.ne t247 e241 E245 (by decide)
                rw [E245]
                have L244 := okL_eq l246 (okL_set (i := 6) (v := .inr (.inr (some i231))) (ob_okR I221 o232) L222)
                refine k_aload 138 rfl (gs_ne rfl rfl (gs_ne rfl rfl (gs_ne rfl rfl (gs_ne rfl rfl g0)))) rfl ?_
                refine k_dup 139 rfl rfl rfl ?_
                obtain ⟨fs249, u250, e251, f252, t253⟩ := I243.1.get o0 (k := 4) rfl rfl
                obtain rfl : u250 = .inl xf := ob_f.get t248 e251 f252
                refine k_get 142 rfl e251 f252 rfl ?_
                refine k_push 143 rfl rfl ?_
                obtain ⟨x254, q255⟩ : ∃ q : Int32, q = (xf + (1 : Int32)) := ⟨_, rfl⟩
                refine k_bin x254 144 rfl q255.symm rfl ?_
                obtain ⟨fs256, u257, e258, f259, t260⟩ := I243.1.get o0 (k := 4) rfl rfl
                refine k_put 147 rfl e258 rfl (List.getElem?_eq_some_iff.mp f259).1 rfl ?_
                obtain ⟨h261, E264, I262, l265⟩ := I243.put (v := .inl x254) o0 rfl e258 (k := 4) rfl (show ty_V 0 (.inl x254) from ⟨_, rfl⟩) (by decide) rfl
                have t266 := ob_f.put e258 f259 E264
                rw [E264]
                have L263 := okL_eq l265 L244
                refine k_goto 18 rfl rfl ?_
                exact ih _ (by rw [← hn]; exact (by rw [q255]; exact up_lt b6)) rfl t266 (gs_ne rfl rfl (gs_ne rfl rfl (gs_ne rfl rfl (gs_ne rfl rfl g0)))) o0 (gs_ne rfl rfl (gs_ne rfl rfl (gs_ne rfl rfl (gs_ne rfl rfl g1)))) o1 (gs_ne rfl rfl (gs_ne rfl rfl (gs_ne rfl rfl (gs_ne rfl rfl g2)))) L263 I262
              · refine k_c1 113 rfl rfl (if_neg b214) ?_
                refine k_push 114 rfl rfl ?_
                obtain ⟨fs267, u268, e269, f270, t271⟩ := I208.1.get o0 (k := 5) rfl rfl
                refine k_put 117 rfl e269 (okZ_of (Or.inl rfl)) (List.getElem?_eq_some_iff.mp f270).1 rfl ?_
                obtain ⟨h272, E275, I273, l276⟩ := I208.put (v := .inl (0 : Int32)) o0 rfl e269 (k := 5) rfl (show ty_V 1 (.inl (0 : Int32)) from ⟨_, rfl, (Or.inl rfl)⟩) (by decide) rfl
                have t277 := ob_f.ne t211 e269 E275 (by decide)
                rw [E275]
                have L274 := okL_eq l276 L209
                refine k_aload 118 rfl (gs_ne rfl rfl (gs_ne rfl rfl (gs_ne rfl rfl g0))) rfl ?_
                obtain ⟨fs278, u279, e280, f281, t282⟩ := I273.1.get o0 (k := 2) rfl rfl
                obtain ⟨i283, rfl, o284⟩ := t282
                refine k_get 121 rfl e280 f281 rfl ?_
                refine k_astore 123 rfl rfl ?_
                refine k_aload 124 rfl (gs_ne rfl rfl (gs_ne rfl rfl (gs_ne rfl rfl (gs_ne rfl rfl g0)))) rfl ?_
                refine k_aload 125 rfl (gs_ne rfl rfl (gs_ne rfl rfl (gs_ne rfl rfl (gs_ne rfl rfl g0)))) rfl ?_
                obtain ⟨fs285, u286, e287, f288, t289⟩ := I273.1.get o0 (k := 3) rfl rfl
                obtain ⟨i290, rfl, o291⟩ := t289
                refine k_get 128 rfl e287 f288 rfl ?_
                have e292 : fs285 = fs278 := (Prod.mk.inj (Sum.inr.inj (Option.some.inj (e287.symm.trans e280)))).2
                rw [e292] at f288
                refine k_put 131 rfl e280 rfl (List.getElem?_eq_some_iff.mp f281).1 rfl ?_
                have e293 : (h272.set v0 (.inr (2, fs278.set 2 (.inr (.inr (some i290))))))[v0]? = some (.inr (2, fs278.set 2 (.inr (.inr (some i290))))) := List.getElem?_set_self (List.getElem?_eq_some_iff.mp e280).1
                refine k_aload 132 rfl (gs_ne rfl rfl (gs_ne rfl rfl (gs_ne rfl rfl (gs_ne rfl rfl g0)))) rfl ?_
                refine k_aload 134 rfl gs_eq rfl ?_
                refine k_put 137 rfl e293 rfl (by rw [List.length_set]; exact (List.getElem?_eq_some_iff.mp f288).1) rfl ?_
                obtain ⟨h294, E297, I295, l298⟩ := I273.swap o0 e280 f281 f288 o284 o291 (by decide) (by decide)
                have t299 := ob_f.ne t277 e280 rfl (by decide : (2 : Nat) ≠ 4) (v := .inr (.inr (some i290)))
                have t300 := ob_f.ne t299 e293 E297 (by decide)
                rw [E297]
                have L296 := okL_eq l298 (okL_set (i := 6) (v := .inr (.inr (some i283))) (ob_okR I273 o284) L274)
                refine k_aload 138 rfl (gs_ne rfl rfl (gs_ne rfl rfl (gs_ne rfl rfl (gs_ne rfl rfl g0)))) rfl ?_
                refine k_dup 139 rfl rfl rfl ?_
                obtain ⟨fs301, u302, e303, f304, t305⟩ := I295.1.get o0 (k := 4) rfl rfl
                obtain rfl : u302 = .inl xf := ob_f.get t300 e303 f304
                refine k_get 142 rfl e303 f304 rfl ?_
                refine k_push 143 rfl rfl ?_
                obtain ⟨x306, q307⟩ : ∃ q : Int32, q = (xf + (1 : Int32)) := ⟨_, rfl⟩
                refine k_bin x306 144 rfl q307.symm rfl ?_
                obtain ⟨fs308, u309, e310, f311, t312⟩ := I295.1.get o0 (k := 4) rfl rfl
                refine k_put 147 rfl e310 rfl (List.getElem?_eq_some_iff.mp f311).1 rfl ?_
                obtain ⟨h313, E316, I314, l317⟩ := I295.put (v := .inl x306) o0 rfl e310 (k := 4) rfl (show ty_V 0 (.inl x306) from ⟨_, rfl⟩) (by decide) rfl
                have t318 := ob_f.put e310 f311 E316
                rw [E316]
                have L315 := okL_eq l317 L296
                refine k_goto 18 rfl rfl ?_
                exact ih _ (by rw [← hn]; exact (by rw [q307]; exact up_lt b6)) rfl t318 (gs_ne rfl rfl (gs_ne rfl rfl (gs_ne rfl rfl (gs_ne rfl rfl g0)))) o0 (gs_ne rfl rfl (gs_ne rfl rfl (gs_ne rfl rfl (gs_ne rfl rfl g1)))) o1 (gs_ne rfl rfl (gs_ne rfl rfl (gs_ne rfl rfl (gs_ne rfl rfl g2)))) L315 I314
      · refine k_c1 150 rfl rfl (if_neg b14) ?_
        exact k_fin rfl rfl ⟨⟨_, rfl, rfl⟩, hI⟩
theorem b_X2_workOff {B : Nat} {h0 : am_h} {lv : am_l} {h : am_h} {c s : Nat} {v0 : Nat} {v1 : Nat} {v2 : Int32} (g0 : am_get lv 0 = some (.inr (.inr (some v0)))) (o0 : ob 2 v0) (g1 : am_get lv 1 = some (.inr (.inr (some v1)))) (o1 : ob 3 v1 ∨ ob 11 v1) (g2 : am_get lv 2 = some (.inl v2)) (hL : am_okL h.length lv = true) (hI : ob_I w_X2_workOff B h0 h c s) : am_Ok am_G 5 41 (0, lv, [], h, c, s) (ty_Q w_X2_workOff 0 B h0) := by
  refine k_aload 1 rfl g0 rfl ?_
  obtain ⟨fs319, u320, e321, f322, t323⟩ := hI.1.get o0 (k := 2) rfl rfl
  obtain ⟨i324, rfl, o325⟩ := t323
  refine k_get 4 rfl e321 f322 rfl ?_
  refine k_aload 5 rfl g1 rfl ?_
  refine k_cl (W' := []) rfl (rw_copy hI.1 o325 o1) rfl rfl rfl (hI.1.rc3 (Or.inl o325)) hI (by decide) hL so_n ?_
  rintro w326 h327 c328 s329 hv I330 L331 F332
  cases hv
  show am_Ok _ _ _ (8, _, [], h327, c328, s329) _
  refine k_aload 9 rfl g0 rfl ?_
  refine k_push 10 rfl rfl ?_
  obtain ⟨fs333, u334, e335, f336, t337⟩ := I330.1.get o0 (k := 4) rfl rfl
  refine k_put 13 rfl e335 rfl (List.getElem?_eq_some_iff.mp f336).1 rfl ?_
  obtain ⟨h338, E341, I339, l342⟩ := I330.put (v := .inl (0 : Int32)) o0 rfl e335 (k := 4) rfl (show ty_V 0 (.inl (0 : Int32)) from ⟨_, rfl⟩) (by decide) rfl
  rw [E341]
  have L340 := okL_eq l342 L331
  refine k_aload 14 rfl g0 rfl ?_
  refine k_push 15 rfl rfl ?_
  obtain ⟨fs343, u344, e345, f346, t347⟩ := I339.1.get o0 (k := 5) rfl rfl
  refine k_put 18 rfl e345 (okZ_of (Or.inl rfl)) (List.getElem?_eq_some_iff.mp f346).1 rfl ?_
  obtain ⟨h348, E351, I349, l352⟩ := I339.put (v := .inl (0 : Int32)) o0 rfl e345 (k := 5) rfl (show ty_V 1 (.inl (0 : Int32)) from ⟨_, rfl, (Or.inl rfl)⟩) (by decide) rfl
  rw [E351]
  have L350 := okL_eq l352 L340
  obtain ⟨x353, t354⟩ := I349.1.fld o0 (k := 4) rfl rfl
  exact b_X2_workOff_18 _ rfl t354 g0 o0 g1 o1 g2 L350 I349
theorem c_X2_workOff {h : am_h} {v0 : Nat} {v1 : Nat} {v2 : Int32} (hT : ty_H h) (o0 : ob 2 v0) (o1 : ob 3 v1 ∨ ob 11 v1) : am_Mt 6 41 [.inr (.inr (some v0)), .inr (.inr (some v1)), .inl v2] h (ty_Q w_X2_workOff 0 (ob_P h) h) := am_Mt.of (b_X2_workOff rfl o0 rfl o1 rfl (okA_r hT o0 (okA_r2 hT o1 (okA_i okA_n))) (ob_I.start hT))
end
