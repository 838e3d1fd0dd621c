section
abbrev w_X2_term : List (Nat × Nat) := []
theorem b_X2_term {B : Nat} {h0 : am_h} {lv : am_l} {h : am_h} {c s : Nat} {v0 : Nat} (g0 : am_get lv 0 = some (.inr (.inr (some v0)))) (o0 : ob 2 v0) (hL : am_okL h.length lv = true) (hI : ob_I w_X2_term B h0 h c s) : am_Ok am_G 0 37 (0, lv, [], h, c, s) (ty_Q w_X2_term 7 B h0) := by
  refine k_aload 1 rfl g0 rfl ?_
  obtain ⟨fs1, u2, e3, f4, t5⟩ := hI.1.get o0 (k := 2) rfl rfl
  obtain ⟨i6, rfl, o7⟩ := t5
  refine k_get 4 rfl e3 f4 rfl ?_
  exact k_fin rfl rfl ⟨⟨_, rfl, ⟨_, rfl, _, rfl, o7⟩⟩, hI⟩
theorem c_X2_term {h : am_h} {v0 : Nat} (hT : ty_H h) (o0 : ob 2 v0) : am_Mt 1 37 [.inr (.inr (some v0))] h (ty_Q w_X2_term 7 (ob_P h) h) := am_Mt.of (b_X2_term rfl o0 (okA_r hT o0 okA_n) (ob_I.start hT))
abbrev w_X2_rounds : List (Nat × Nat) := []
theorem b_X2_rounds {B : Nat} {h0 : am_h} {lv : am_l} {h : am_h} {c s : Nat} {v0 : Nat} (g0 : am_get lv 0 = some (.inr (.inr (some v0)))) (o0 : ob 2 v0) (hL : am_okL h.length lv = true) (hI : ob_I w_X2_rounds B h0 h c s) : am_Ok am_G 0 38 (0, lv, [], h, c, s) (ty_Q w_X2_rounds 2 B h0) := by
  refine k_aload 1 rfl g0 rfl ?_
  obtain ⟨fs1, u2, e3, f4, t5⟩ := hI.1.get o0 (k := 4) rfl rfl
  obtain ⟨x6, rfl⟩ := t5
  refine k_get 4 rfl e3 f4 rfl ?_
  exact k_fin rfl rfl ⟨⟨_, rfl, ⟨_, rfl, _, rfl⟩⟩, hI⟩
theorem c_X2_rounds {h : am_h} {v0 : Nat} (hT : ty_H h) (o0 : ob 2 v0) : am_Mt 1 38 [.inr (.inr (some v0))] h (ty_Q w_X2_rounds 2 (ob_P h) h) := am_Mt.of (b_X2_rounds rfl o0 (okA_r hT o0 okA_n) (ob_I.start hT))
abbrev w_X2_tooMany : List (Nat × Nat) := []
theorem b_X2_tooMany {B : Nat} {h0 : am_h} {lv : am_l} {h : am_h} {c s : Nat} {v0 : Nat} (g0 : am_get lv 0 = some (.inr (.inr (some v0)))) (o0 : ob 2 v0) (hL : am_okL h.length lv = true) (hI : ob_I w_X2_tooMany B h0 h c s) : am_Ok am_G 0 39 (0, lv, [], h, c, s) (ty_Q w_X2_tooMany 3 B h0) := by
  refine k_aload 1 rfl g0 rfl ?_
  obtain ⟨fs1, u2, e3, f4, t5⟩ := hI.1.get o0 (k := 5) rfl rfl
  obtain ⟨x6, rfl, z7⟩ := t5
  refine k_get 4 rfl e3 f4 rfl ?_
  exact k_fin rfl (fin_Z z7) ⟨⟨_, rfl, ⟨_, rfl, _, rfl, z7⟩⟩, hI⟩
theorem c_X2_tooMany {h : am_h} {v0 : Nat} (hT : ty_H h) (o0 : ob 2 v0) : am_Mt 1 39 [.inr (.inr (some v0))] h (ty_Q w_X2_tooMany 3 (ob_P h) h) := am_Mt.of (b_X2_tooMany rfl o0 (okA_r hT o0 okA_n) (ob_I.start hT))
abbrev w_X9_isRedex : List (Nat × Nat) := []
theorem b_X9_isRedex {B : Nat} {h0 : am_h} {lv : am_l} {h : am_h} {c s : Nat} {v0 : Nat} {v1 : Int32} (g0 : am_get lv 0 = some (.inr (.inr (some v0)))) (o0 : ob 3 v0) (g1 : am_get lv 1 = some (.inl v1)) (hL : am_okL h.length lv = true) (hI : ob_I w_X9_isRedex B h0 h c s) : am_Ok am_G 1 155 (0, lv, [], h, c, s) (ty_Q w_X9_isRedex 3 B h0) := by
  refine k_iload 1 rfl g1 rfl ?_
  refine k_push 2 rfl rfl ?_
  obtain ⟨x1, q2⟩ : ∃ q : Int32, q = (v1 + (1 : Int32)) := ⟨_, rfl⟩
  refine k_bin x1 3 rfl q2.symm rfl ?_
  refine k_aload 4 rfl g0 rfl ?_
  refine k_cl (W' := []) rfl (rw_size hI.1 (Or.inl o0)) rfl rfl rfl (hI.1.rc3 (Or.inl o0)) hI (by decide) hL (so_i so_n) ?_
  rintro w3 h4 c5 s6 hv I7 L8 F9
  obtain ⟨_, rfl, x10, rfl⟩ := hv
  show am_Ok _ _ _ (7, _, [.inl x10, .inl x1], h4, c5, s6) _
  by_cases b11 : x10 ≤ x1
  · refine k_c2 33 rfl rfl (if_pos b11) ?_
    refine k_push 34 rfl rfl ?_
    exact k_fin rfl (fin_Z (Or.inl rfl)) ⟨⟨_, rfl, ⟨_, rfl, _, rfl, (Or.inl rfl)⟩⟩, I7⟩
  · refine k_c2 10 rfl rfl (if_neg b11) ?_
    refine k_aload 11 rfl g0 rfl ?_
    refine k_iload 12 rfl g1 rfl ?_
    refine k_cl (W' := []) rfl (rw_get I7.1 (Or.inl o0)) rfl rfl rfl (I7.1.rc3 (Or.inl o0)) I7 (by decide) L8 so_n ?_
    rintro w12 h13 c14 s15 hv I16 L17 F18
    obtain ⟨_, rfl, x19, rfl⟩ := hv
    show am_Ok _ _ _ (15, _, [.inl x19], h13, c14, s15) _
    by_cases b20 : x19 = 0
    · refine k_c1 18 rfl rfl (if_pos b20) ?_
      refine k_aload 19 rfl g0 rfl ?_
      refine k_iload 20 rfl g1 rfl ?_
      refine k_push 21 rfl rfl ?_
      obtain ⟨x21, q22⟩ : ∃ q : Int32, q = (v1 + (1 : Int32)) := ⟨_, rfl⟩
      refine k_bin x21 22 rfl q22.symm rfl ?_
      refine k_cl (W' := []) rfl (rw_get I16.1 (Or.inl o0)) rfl rfl rfl (I16.1.rc3 (Or.inl o0)) I16 (by decide) L17 so_n ?_
      rintro w23 h24 c25 s26 hv I27 L28 F29
      obtain ⟨_, rfl, x30, rfl⟩ := hv
      show am_Ok _ _ _ (25, _, [.inl x30], h24, c25, s26) _
      refine k_push 26 rfl rfl ?_
      by_cases b31 : x30 = (1 : Int32)
      · refine k_c2 29 rfl rfl (if_pos b31) ?_
        refine k_push 30 rfl rfl ?_
        refine k_goto 34 rfl rfl ?_
        exact k_fin rfl (fin_Z (Or.inr rfl)) ⟨⟨_, rfl, ⟨_, rfl, _, rfl, (Or.inr rfl)⟩⟩, I27⟩
      · refine k_c2 33 rfl rfl (if_neg b31) ?_
        refine k_push 34 rfl rfl ?_
        exact k_fin rfl (fin_Z (Or.inl rfl)) ⟨⟨_, rfl, ⟨_, rfl, _, rfl, (Or.inl rfl)⟩⟩, I27⟩
    · refine k_c1 33 rfl rfl (if_neg b20) ?_
      refine k_push 34 rfl rfl ?_
      exact k_fin rfl (fin_Z (Or.inl rfl)) ⟨⟨_, rfl, ⟨_, rfl, _, rfl, (Or.inl rfl)⟩⟩, I16⟩
theorem c_X9_isRedex {h : am_h} {v0 : Nat} {v1 : Int32} (hT : ty_H h) (o0 : ob 3 v0) : am_Mt 2 155 [.inr (.inr (some v0)), .inl v1] h (ty_Q w_X9_isRedex 3 (ob_P h) h) := am_Mt.of (b_X9_isRedex rfl o0 rfl (okA_r hT o0 (okA_i okA_n)) (ob_I.start hT))
abbrev w_X2_firstRedex : List (Nat × Nat) := []
theorem b_X2_firstRedex_2 {B : Nat} {h0 : am_h} : ∀ (n : Nat) {lv : am_l} {h : am_h} {c s : Nat} {v0 : Nat} {v1 : Int32} , up_m v1 = n → am_get lv 0 = some (.inr (.inr (some v0))) → ob 2 v0 → am_get lv 1 = some (.inl v1) → am_okL h.length lv = true → ob_I w_X2_firstRedex B h0 h c s → am_Ok am_G 2 42 (2, lv, [], h, c, s) (ty_Q w_X2_firstRedex 2 B h0) := by
  intro n
  induction n using Nat.strongRecOn with
  | ind n ih =>
    intro lv h c s v0 v1 hn g0 o0 g1 hL hI
    refine k_iload 3 rfl g1 rfl ?_
    refine k_aload 4 rfl g0 rfl ?_
    obtain ⟨fs1, u2, e3, f4, t5⟩ := hI.1.get o0 (k := 2) rfl rfl
    obtain ⟨i6, rfl, o7⟩ := t5
    refine k_get 7 rfl e3 f4 rfl ?_
    refine k_cl (W' := []) rfl (rw_size hI.1 (Or.inl o7)) rfl rfl rfl (hI.1.rc3 (Or.inl o7)) hI (by decide) hL (so_i so_n) ?_
    rintro w8 h9 c10 s11 hv I12 L13 F14
    obtain ⟨_, rfl, x15, rfl⟩ := hv
    show am_Ok _ _ _ (10, _, [.inl x15, .inl v1], h9, c10, s11) _
    by_cases b16 : x15 ≤ v1
    · refine k_c2 32 rfl rfl (if_pos b16) ?_
      refine k_push 33 rfl rfl ?_
      exact k_fin rfl rfl ⟨⟨_, rfl, ⟨_, rfl, _, rfl⟩⟩, I12⟩
    · refine k_c2 13 rfl rfl (if_neg b16) ?_
      refine k_aload 14 rfl g0 rfl ?_
      obtain ⟨fs17, u18, e19, f20, t21⟩ := I12.1.get o0 (k := 2) rfl rfl
      obtain ⟨i22, rfl, o23⟩ := t21
      refine k_get 17 rfl e19 f20 rfl ?_
      refine k_iload 18 rfl g1 rfl ?_
      refine k_cl (W' := w_X9_isRedex) rfl (c_X9_isRedex I12.1 o23) rfl rfl rfl rfl I12 (by decide) L13 so_n ?_
      rintro w24 h25 c26 s27 hv I28 L29 F30
      obtain ⟨_, rfl, x31, rfl, z32⟩ := hv
      show am_Ok _ _ _ (21, _, [.inl x31], h25, c26, s27) _
      by_cases b33 : x31 = 0
      · refine k_c1 26 rfl rfl (if_pos b33) ?_
        refine k_iinc (v1 + 1) 29 rfl g1 rfl rfl ?_
        refine k_goto 2 rfl rfl ?_
        exact ih _ (by rw [← hn]; exact up_lt b16) rfl (gs_ne rfl rfl g0) o0 gs_eq (okL_set (i := 1) (v := .inl (v1 + 1)) rfl L29) I28
      · refine k_c1 24 rfl rfl (if_neg b33) ?_
        refine k_iload 25 rfl g1 rfl ?_
        exact k_fin rfl rfl ⟨⟨_, rfl, ⟨_, rfl, _, rfl⟩⟩, I28⟩
theorem b_X2_firstRedex {B : Nat} {h0 : am_h} {lv : am_l} {h : am_h} {c s : Nat} {v0 : Nat} (g0 : am_get lv 0 = some (.inr (.inr (some v0)))) (o0 : ob 2 v0) (hL : am_okL h.length lv = true) (hI : ob_I w_X2_firstRedex B h0 h c s) : am_Ok am_G 2 42 (0, lv, [], h, c, s) (ty_Q w_X2_firstRedex 2 B h0) := by
  refine k_push 1 rfl rfl ?_
  refine k_istore 2 rfl rfl ?_
  exact b_X2_firstRedex_2 _ rfl (gs_ne rfl rfl g0) o0 gs_eq (okL_set (i := 1) (v := .inl (0 : Int32)) rfl hL) hI
theorem c_X2_firstRedex {h : am_h} {v0 : Nat} (hT : ty_H h) (o0 : ob 2 v0) : am_Mt 3 42 [.inr (.inr (some v0))] h (ty_Q w_X2_firstRedex 2 (ob_P h) h) := am_Mt.of (b_X2_firstRedex rfl o0 (okA_r hT o0 okA_n) (ob_I.start hT))
abbrev w_X2_isAtEnd : List (Nat × Nat) := []
theorem b_X2_isAtEnd {B : Nat} {h0 : am_h} {lv : am_l} {h : am_h} {c s : Nat} {v0 : Nat} (g0 : am_get lv 0 = some (.inr (.inr (some v0)))) (o0 : ob 2 v0) (hL : am_okL h.length lv = true) (hI : ob_I w_X2_isAtEnd B h0 h c s) : am_Ok am_G 3 40 (0, lv, [], h, c, s) (ty_Q w_X2_isAtEnd 3 B h0) := by
  refine k_aload 1 rfl g0 rfl ?_
  obtain ⟨fs1, u2, e3, f4, t5⟩ := hI.1.get o0 (k := 5) rfl rfl
  obtain ⟨x6, rfl, z7⟩ := t5
  refine k_get 4 rfl e3 f4 rfl ?_
  by_cases b8 : x6 = 0
  · refine k_c1 7 rfl rfl (if_pos b8) ?_
    refine k_aload 8 rfl g0 rfl ?_
    refine k_cl (W' := w_X2_firstRedex) rfl (c_X2_firstRedex hI.1 o0) rfl rfl rfl (hI.1.rc o0 rfl) hI (by decide) hL so_n ?_
    rintro w9 h10 c11 s12 hv I13 L14 F15
    obtain ⟨_, rfl, x16, rfl⟩ := hv
    show am_Ok _ _ _ (11, _, [.inl x16], h10, c11, s12) _
    refine k_push 12 rfl rfl ?_
    by_cases b17 : x16 = (-1 : Int32)
    · refine k_c2 15 rfl rfl (if_pos b17) ?_
      refine k_push 16 rfl rfl ?_
      refine k_goto 20 rfl rfl ?_
      exact k_fin rfl (fin_Z (Or.inr rfl)) ⟨⟨_, rfl, ⟨_, rfl, _, rfl, (Or.inr rfl)⟩⟩, I13⟩
    · refine k_c2 19 rfl rfl (if_neg b17) ?_
      refine k_push 20 rfl rfl ?_
      exact k_fin rfl (fin_Z (Or.inl rfl)) ⟨⟨_, rfl, ⟨_, rfl, _, rfl, (Or.inl rfl)⟩⟩, I13⟩
  · refine k_c1 19 rfl rfl (if_neg b8) ?_
    refine k_push 20 rfl rfl ?_
    exact k_fin rfl (fin_Z (Or.inl rfl)) ⟨⟨_, rfl, ⟨_, rfl, _, rfl, (Or.inl rfl)⟩⟩, hI⟩
theorem c_X2_isAtEnd {h : am_h} {v0 : Nat} (hT : ty_H h) (o0 : ob 2 v0) : am_Mt 4 40 [.inr (.inr (some v0))] h (ty_Q w_X2_isAtEnd 3 (ob_P h) h) := am_Mt.of (b_X2_isAtEnd rfl o0 (okA_r hT o0 okA_n) (ob_I.start hT))
abbrev w_X2_behindTerm : List (Nat × Nat) := []
theorem b_X2_behindTerm_4 {B : Nat} {h0 : am_h} : ∀ (n : Nat) {lv : am_l} {h : am_h} {c s : Nat} {v0 : Nat} {v1 : Int32} {v2 : Int32} {v3 : Int32} , up_m v3 = n → am_get lv 0 = some (.inr (.inr (some v0))) → ob 2 v0 → am_get lv 1 = some (.inl v1) → am_get lv 2 = some (.inl v2) → am_get lv 3 = some (.inl v3) → am_okL h.length lv = true → ob_I w_X2_behindTerm B h0 h c s → am_Ok am_G 1 43 (4, lv, [], h, c, s) (ty_Q w_X2_behindTerm 2 B h0) := by
  intro n
  induction n using Nat.strongRecOn with
  | ind n ih =>
    intro lv h c s v0 v1 v2 v3 hn g0 o0 g1 g2 g3 hL hI
    refine k_iload 5 rfl g2 rfl ?_
    by_cases b1 : v2 ≤ 0
    · refine k_c1 58 rfl rfl (if_pos b1) ?_
      refine k_iload 59 rfl g3 rfl ?_
      exact k_fin rfl rfl ⟨⟨_, rfl, ⟨_, rfl, _, rfl⟩⟩, hI⟩
    · refine k_c1 8 rfl rfl (if_neg b1) ?_
      refine k_iload 9 rfl g3 rfl ?_
      refine k_aload 10 rfl g0 rfl ?_
      obtain ⟨fs2, u3, e4, f5, t6⟩ := hI.1.get o0 (k := 2) rfl rfl
      obtain ⟨i7, rfl, o8⟩ := t6
      refine k_get 13 rfl e4 f5 rfl ?_
      refine k_cl (W' := []) rfl (rw_size hI.1 (Or.inl o8)) rfl rfl rfl (hI.1.rc3 (Or.inl o8)) hI (by decide) hL (so_i so_n) ?_
      rintro w9 h10 c11 s12 hv I13 L14 F15
      obtain ⟨_, rfl, x16, rfl⟩ := hv
      show am_Ok _ _ _ (16, _, [.inl x16, .inl v3], h10, c11, s12) _
      by_cases b17 : x16 ≤ v3
      · refine k_c2 58 rfl rfl (if_pos b17) ?_
        refine k_iload 59 rfl g3 rfl ?_
        exact k_fin rfl rfl ⟨⟨_, rfl, ⟨_, rfl, _, rfl⟩⟩, I13⟩
      · refine k_c2 19 rfl rfl (if_neg b17) ?_
        refine k_aload 20 rfl g0 rfl ?_
        obtain ⟨fs18, u19, e20, f21, t22⟩ := I13.1.get o0 (k := 2) rfl rfl
        obtain ⟨i23, rfl, o24⟩ := t22
        refine k_get 23 rfl e20 f21 rfl ?_
        refine k_iload 24 rfl g3 rfl ?_
        refine k_cl (W' := []) rfl (rw_get I13.1 (Or.inl o24)) rfl rfl rfl (I13.1.rc3 (Or.inl o24)) I13 (by decide) L14 so_n ?_
        rintro w25 h26 c27 s28 hv I29 L30 F31
        obtain ⟨_, rfl, x32, rfl⟩ := hv
        show am_Ok _ _ _ (27, _, [.inl x32], h26, c27, s28) _
        refine k_istore 29 rfl rfl ?_
        refine k_iload 30 rfl (gs_ne rfl rfl g2) rfl ?_
        refine k_iload 32 rfl gs_eq rfl ?_
        by_cases b33 : x32 = 0
        · refine k_c1 35 rfl rfl (if_pos b33) ?_
          refine k_push 36 rfl rfl ?_
          refine k_goto 50 rfl rfl ?_
          obtain ⟨x34, q35⟩ : ∃ q : Int32, q = (v2 + (1 : Int32)) := ⟨_, rfl⟩
          refine k_bin x34 51 rfl q35.symm rfl ?_
          refine k_istore 52 rfl rfl ?_
          refine k_iinc (v3 + 1) 55 rfl (gs_ne rfl rfl (gs_ne rfl rfl g3)) rfl rfl ?_
          refine k_goto 4 rfl rfl ?_
          exact ih _ (by rw [← hn]; exact up_lt b17) rfl (gs_ne rfl rfl (gs_ne rfl rfl (gs_ne rfl rfl g0))) o0 (gs_ne rfl rfl (gs_ne rfl rfl (gs_ne rfl rfl g1))) (gs_ne rfl rfl gs_eq) gs_eq (okL_set (i := 3) (v := .inl (v3 + 1)) rfl (okL_set (i := 2) (v := .inl x34) rfl (okL_set (i := 4) (v := .inl x32) rfl L30))) I29
        · refine k_c1 39 rfl rfl (if_neg b33) ?_
          refine k_iload 41 rfl gs_eq rfl ?_
          refine k_push 42 rfl rfl ?_
          by_cases b36 : x32 = (1 : Int32)
          · refine k_c2 45 rfl rfl (if_pos b36) ?_
            refine k_push 46 rfl rfl ?_
            refine k_goto 50 rfl rfl ?_
            obtain ⟨x37, q38⟩ : ∃ q : Int32, q = (v2 + (0 : Int32)) := ⟨_, rfl⟩
            refine k_bin x37 51 rfl q38.symm rfl ?_
            refine k_istore 52 rfl rfl ?_
            refine k_iinc (v3 + 1) 55 rfl (gs_ne rfl rfl (gs_ne rfl rfl g3)) rfl rfl ?_
            refine k_goto 4 rfl rfl ?_
            exact ih _ (by rw [← hn]; exact up_lt b17) rfl (gs_ne rfl rfl (gs_ne rfl rfl (gs_ne rfl rfl g0))) o0 (gs_ne rfl rfl (gs_ne rfl rfl (gs_ne rfl rfl g1))) (gs_ne rfl rfl gs_eq) gs_eq (okL_set (i := 3) (v := .inl (v3 + 1)) rfl (okL_set (i := 2) (v := .inl x37) rfl (okL_set (i := 4) (v := .inl x32) rfl L30))) I29
          · refine k_c2 49 rfl rfl (if_neg b36) ?_
            refine k_push 50 rfl rfl ?_
            obtain ⟨x39, q40⟩ : ∃ q : Int32, q = (v2 + (-1 : Int32)) := ⟨_, rfl⟩
            refine k_bin x39 51 rfl q40.symm rfl ?_
            refine k_istore 52 rfl rfl ?_
            refine k_iinc (v3 + 1) 55 rfl (gs_ne rfl rfl (gs_ne rfl rfl g3)) rfl rfl ?_
            refine k_goto 4 rfl rfl ?_
            exact ih _ (by rw [← hn]; exact up_lt b17) rfl (gs_ne rfl rfl (gs_ne rfl rfl (gs_ne rfl rfl g0))) o0 (gs_ne rfl rfl (gs_ne rfl rfl (gs_ne rfl rfl g1))) (gs_ne rfl rfl gs_eq) gs_eq (okL_set (i := 3) (v := .inl (v3 + 1)) rfl (okL_set (i := 2) (v := .inl x39) rfl (okL_set (i := 4) (v := .inl x32) rfl L30))) I29
theorem b_X2_behindTerm {B : Nat} {h0 : am_h} {lv : am_l} {h : am_h} {c s : Nat} {v0 : Nat} {v1 : Int32} (g0 : am_get lv 0 = some (.inr (.inr (some v0)))) (o0 : ob 2 v0) (g1 : am_get lv 1 = some (.inl v1)) (hL : am_okL h.length lv = true) (hI : ob_I w_X2_behindTerm B h0 h c s) : am_Ok am_G 1 43 (0, lv, [], h, c, s) (ty_Q w_X2_behindTerm 2 B h0) := by
  refine k_push 1 rfl rfl ?_
  refine k_istore 2 rfl rfl ?_
  refine k_iload 3 rfl (gs_ne rfl rfl g1) rfl ?_
  refine k_istore 4 rfl rfl ?_
  exact b_X2_behindTerm_4 _ rfl (gs_ne rfl rfl (gs_ne rfl rfl g0)) o0 (gs_ne rfl rfl (gs_ne rfl rfl g1)) (gs_ne rfl rfl gs_eq) gs_eq (okL_set (i := 3) (v := .inl v1) rfl (okL_set (i := 2) (v := .inl (1 : Int32)) rfl hL)) hI
theorem c_X2_behindTerm {h : am_h} {v0 : Nat} {v1 : Int32} (hT : ty_H h) (o0 : ob 2 v0) : am_Mt 2 43 [.inr (.inr (some v0)), .inl v1] h (ty_Q w_X2_behindTerm 2 (ob_P h) h) := am_Mt.of (b_X2_behindTerm rfl o0 rfl (okA_r hT o0 (okA_i okA_n)) (ob_I.start hT))
abbrev w_X2_keep : List (Nat × Nat) := []
theorem b_X2_keep_2 {B : Nat} {h0 : am_h} : ∀ (n : Nat) {lv : am_l} {h : am_h} {c s : Nat} {v0 : Nat} {v1 : Int32} {v2 : Int32} {v3 : Int32} , up_m v3 = n → am_get lv 0 = some (.inr (.inr (some v0))) → ob 2 v0 → am_get lv 1 = some (.inl v1) → am_get lv 2 = some (.inl v2) → am_get lv 3 = some (.inl v3) → am_okL h.length lv = true → ob_I w_X2_keep B h0 h c s → am_Ok am_G 2 44 (2, lv, [], h, c, s) (ty_Q w_X2_keep 3 B h0) := by
  intro n
  induction n using Nat.strongRecOn with
  | ind n ih =>
    intro lv h c s v0 v1 v2 v3 hn g0 o0 g1 g2 g3 hL hI
    refine k_iload 3 rfl g3 rfl ?_
    refine k_iload 4 rfl g2 rfl ?_
    by_cases b1 : v2 ≤ v3
    · refine k_c2 33 rfl rfl (if_pos b1) ?_
      refine k_push 34 rfl rfl ?_
      exact k_fin rfl (fin_Z (Or.inr rfl)) ⟨⟨_, rfl, ⟨_, rfl, _, rfl, (Or.inr rfl)⟩⟩, hI⟩
    · refine k_c2 7 rfl rfl (if_neg b1) ?_
      refine k_aload 8 rfl g0 rfl ?_
      obtain ⟨fs2, u3, e4, f5, t6⟩ := hI.1.get o0 (k := 3) rfl rfl
      obtain ⟨i7, rfl, o8⟩ := t6
      refine k_get 11 rfl e4 f5 rfl ?_
      refine k_aload 12 rfl g0 rfl ?_
      obtain ⟨fs9, u10, e11, f12, t13⟩ := hI.1.get o0 (k := 2) rfl rfl
      obtain ⟨i14, rfl, o15⟩ := t13
      refine k_get 15 rfl e11 f12 rfl ?_
      refine k_iload 16 rfl g3 rfl ?_
      refine k_cl (W' := []) rfl (rw_get hI.1 (Or.inl o15)) rfl rfl rfl (hI.1.rc3 (Or.inl o15)) hI (by decide) hL (so_r hI o8 so_n) ?_
      rintro w16 h17 c18 s19 hv I20 L21 F22
      obtain ⟨_, rfl, x23, rfl⟩ := hv
      show am_Ok _ _ _ (19, _, [.inl x23, .inr (.inr (some i7))], h17, c18, s19) _
      refine k_cl (W' := []) rfl ((rw_add (W := []) I20.1 (Or.inl o8)).imp (fun _ z => z.1)) rfl rfl rfl (I20.1.rc3 (Or.inl o8)) I20 (by decide) L21 so_n ?_
      rintro w24 h25 c26 s27 hv I28 L29 F30
      obtain ⟨_, rfl, x31, rfl, z32⟩ := hv
      show am_Ok _ _ _ (22, _, [.inl x31], h25, c26, s27) _
      by_cases b33 : x31 = 0
      · refine k_c1 25 rfl rfl (if_pos b33) ?_
        refine k_push 26 rfl rfl ?_
        exact k_fin rfl (fin_Z (Or.inl rfl)) ⟨⟨_, rfl, ⟨_, rfl, _, rfl, (Or.inl rfl)⟩⟩, I28⟩
      · refine k_c1 27 rfl rfl (if_neg b33) ?_
        refine k_iinc (v3 + 1) 30 rfl g3 rfl rfl ?_
        refine k_goto 2 rfl rfl ?_
        exact ih _ (by rw [← hn]; exact up_lt b1) rfl (gs_ne rfl rfl g0) o0 (gs_ne rfl rfl g1) (gs_ne rfl rfl g2) gs_eq (okL_set (i := 3) (v := .inl (v3 + 1)) rfl L29) I28
theorem b_X2_keep {B : Nat} {h0 : am_h} {lv : am_l} {h : am_h} {c s : Nat} {v0 : Nat} {v1 : Int32} {v2 : Int32} (g0 : am_get lv 0 = some (.inr (.inr (some v0)))) (o0 : ob 2 v0) (g1 : am_get lv 1 = some (.inl v1)) (g2 : am_get lv 2 = some (.inl v2)) (hL : am_okL h.length lv = true) (hI : ob_I w_X2_keep B h0 h c s) : am_Ok am_G 2 44 (0, lv, [], h, c, s) (ty_Q w_X2_keep 3 B h0) := by
  refine k_iload 1 rfl g1 rfl ?_
  refine k_istore 2 rfl rfl ?_
  exact b_X2_keep_2 _ rfl (gs_ne rfl rfl g0) o0 (gs_ne rfl rfl g1) (gs_ne rfl rfl g2) gs_eq (okL_set (i := 3) (v := .inl v1) rfl hL) hI
theorem c_X2_keep {h : am_h} {v0 : Nat} {v1 : Int32} {v2 : Int32} (hT : ty_H h) (o0 : ob 2 v0) : am_Mt 3 44 [.inr (.inr (some v0)), .inl v1, .inl v2] h (ty_Q w_X2_keep 3 (ob_P h) h) := am_Mt.of (b_X2_keep rfl o0 rfl rfl (okA_r hT o0 (okA_i (okA_i okA_n))) (ob_I.start hT))
abbrev w_X2_depthBehind : List (Nat × Nat) := []
theorem b_X2_depthBehind {B : Nat} {h0 : am_h} {lv : am_l} {h : am_h} {c s : Nat} {v0 : Int32} {v1 : Int32} {v2 : Nat} (g0 : am_get lv 0 = some (.inl v0)) (g1 : am_get lv 1 = some (.inl v1)) (g2 : am_get lv 2 = some (.inr (.inr (some v2)))) (o2 : ob 3 v2) (hL : am_okL h.length lv = true) (hI : ob_I w_X2_depthBehind B h0 h c s) : am_Ok am_G 2 47 (0, lv, [], h, c, s) (ty_Q w_X2_depthBehind 2 B h0) := by
  refine k_iload 1 rfl g0 rfl ?_
  by_cases b1 : v0 = 0
  · refine k_c1 4 rfl rfl (if_pos b1) ?_
    refine k_aload 5 rfl g2 rfl ?_
    refine k_iload 6 rfl g1 rfl ?_
    refine k_cl (W' := []) rfl ((rw_add (W := []) hI.1 (Or.inl o2)).imp (fun _ z => z.1)) rfl rfl rfl (hI.1.rc3 (Or.inl o2)) hI (by decide) hL so_n ?_
    rintro w2 h3 c4 s5 hv I6 L7 F8
    obtain ⟨_, rfl, x9, rfl, z10⟩ := hv
    show am_Ok _ _ _ (9, _, [.inl x9], h3, c4, s5) _
    refine k_pop 10 rfl rfl rfl ?_
    refine k_iload 11 rfl g1 rfl ?_
    exact k_fin rfl rfl ⟨⟨_, rfl, ⟨_, rfl, _, rfl⟩⟩, I6⟩
  · refine k_c1 12 rfl rfl (if_neg b1) ?_
    refine k_iload 13 rfl g0 rfl ?_
    refine k_push 14 rfl rfl ?_
    by_cases b11 : v0 = (1 : Int32)
    · refine k_c2 17 rfl rfl (if_pos b11) ?_
      refine k_iload 18 rfl g1 rfl ?_
      refine k_push 19 rfl rfl ?_
      obtain ⟨x12, q13⟩ : ∃ q : Int32, q = (v1 + (1 : Int32)) := ⟨_, rfl⟩
      refine k_bin x12 20 rfl q13.symm rfl ?_
      refine k_goto 27 rfl rfl ?_
      exact k_fin rfl rfl ⟨⟨_, rfl, ⟨_, rfl, _, rfl⟩⟩, hI⟩
    · refine k_c2 23 rfl rfl (if_neg b11) ?_
      refine k_aload 24 rfl g2 rfl ?_
      refine k_cl (W' := []) rfl (rw_takeLast hI.1 o2) rfl rfl rfl (hI.1.rc3 (Or.inl o2)) hI (by decide) hL so_n ?_
      rintro w14 h15 c16 s17 hv I18 L19 F20
      obtain ⟨_, rfl, x21, rfl⟩ := hv
      show am_Ok _ _ _ (27, _, [.inl x21], h15, c16, s17) _
      exact k_fin rfl rfl ⟨⟨_, rfl, ⟨_, rfl, _, rfl⟩⟩, I18⟩
theorem c_X2_depthBehind {h : am_h} {v0 : Int32} {v1 : Int32} {v2 : Nat} (hT : ty_H h) (o2 : ob 3 v2) : am_Mt 3 47 [.inl v0, .inl v1, .inr (.inr (some v2))] h (ty_Q w_X2_depthBehind 2 (ob_P h) h) := am_Mt.of (b_X2_depthBehind rfl rfl rfl o2 (okA_i (okA_i (okA_r hT o2 okA_n))) (ob_I.start hT))
abbrev w_X2_putArgument : List (Nat × Nat) := []
theorem b_X2_putArgument_14 {B : Nat} {h0 : am_h} : ∀ (n : Nat) {lv : am_l} {h : am_h} {c s : Nat} {v0 : Nat} {v1 : Int32} {v2 : Int32} {v3 : Int32} {v4 : Int32} {v5 : Int32} , up_m v5 = n → am_get lv 0 = some (.inr (.inr (some v0))) → ob 2 v0 → am_get lv 1 = some (.inl v1) → am_get lv 2 = some (.inl v2) → am_get lv 3 = some (.inl v3) → am_get lv 4 = some (.inl v4) → am_get lv 5 = some (.inl v5) → am_okL h.length lv = true → ob_I w_X2_putArgument B h0 h c s → am_Ok am_G 3 46 (14, lv, [], h, c, s) (ty_Q w_X2_putArgument 3 B h0) := by
  intro n
  induction n using Nat.strongRecOn with
  | ind n ih =>
    intro lv h c s v0 v1 v2 v3 v4 v5 hn g0 o0 g1 g2 g3 g4 g5 hL hI
    refine k_iload 16 rfl g5 rfl ?_
    refine k_iload 17 rfl g2 rfl ?_
    by_cases b1 : v2 ≤ v5
    · refine k_c2 80 rfl rfl (if_pos b1) ?_
      refine k_push 81 rfl rfl ?_
      exact k_fin rfl (fin_Z (Or.inr rfl)) ⟨⟨_, rfl, ⟨_, rfl, _, rfl, (Or.inr rfl)⟩⟩, hI⟩
    · refine k_c2 20 rfl rfl (if_neg b1) ?_
      refine k_aload 21 rfl g0 rfl ?_
      obtain ⟨fs2, u3, e4, f5, t6⟩ := hI.1.get o0 (k := 2) rfl rfl
      obtain ⟨i7, rfl, o8⟩ := t6
      refine k_get 24 rfl e4 f5 rfl ?_
      refine k_iload 26 rfl g5 rfl ?_
      refine k_cl (W' := []) rfl (rw_get hI.1 (Or.inl o8)) rfl rfl rfl (hI.1.rc3 (Or.inl o8)) hI (by decide) hL so_n ?_
      rintro w9 h10 c11 s12 hv I13 L14 F15
      obtain ⟨_, rfl, x16, rfl⟩ := hv
      show am_Ok _ _ _ (29, _, [.inl x16], h10, c11, s12) _
      refine k_istore 31 rfl rfl ?_
      refine k_aload 32 rfl (gs_ne rfl rfl g0) rfl ?_
      obtain ⟨fs17, u18, e19, f20, t21⟩ := I13.1.get o0 (k := 3) rfl rfl
      obtain ⟨i22, rfl, o23⟩ := t21
      refine k_get 35 rfl e19 f20 rfl ?_
      refine k_iload 37 rfl gs_eq rfl ?_
      refine k_push 38 rfl rfl ?_
      refine k_iload 40 rfl (gs_ne rfl rfl g4) rfl ?_
      obtain ⟨x24, q25⟩ : ∃ q : Int32, q = ((2 : Int32) + v4) := ⟨_, rfl⟩
      refine k_bin x24 41 rfl q25.symm rfl ?_
      by_cases b26 : x24 ≤ x16
      · refine k_c2 49 rfl rfl (if_pos b26) ?_
        refine k_iload 51 rfl gs_eq rfl ?_
        refine k_iload 52 rfl (gs_ne rfl rfl g3) rfl ?_
        obtain ⟨x27, q28⟩ : ∃ q : Int32, q = (x16 + v3) := ⟨_, rfl⟩
        refine k_bin x27 53 rfl q28.symm rfl ?_
        refine k_cl (W' := []) rfl ((rw_add (W := []) I13.1 (Or.inl o23)).imp (fun _ z => z.1)) rfl rfl rfl (I13.1.rc3 (Or.inl o23)) I13 (by decide) (okL_set (i := 6) (v := .inl x16) rfl L14) so_n ?_
        rintro w29 h30 c31 s32 hv I33 L34 F35
        obtain ⟨_, rfl, x36, rfl, z37⟩ := hv
        show am_Ok _ _ _ (56, _, [.inl x36], h30, c31, s32) _
        by_cases b38 : x36 = 0
        · refine k_c1 59 rfl rfl (if_pos b38) ?_
          refine k_push 60 rfl rfl ?_
          exact k_fin rfl (fin_Z (Or.inl rfl)) ⟨⟨_, rfl, ⟨_, rfl, _, rfl, (Or.inl rfl)⟩⟩, I33⟩
        · refine k_c1 61 rfl rfl (if_neg b38) ?_
          refine k_iload 63 rfl gs_eq rfl ?_
          refine k_iload 65 rfl (gs_ne rfl rfl g4) rfl ?_
          refine k_aload 66 rfl (gs_ne rfl rfl g0) rfl ?_
          obtain ⟨fs39, u40, e41, f42, t43⟩ := I33.1.get o0 (k := 1) rfl rfl
          obtain ⟨i44, rfl, o45⟩ := t43
          refine k_get 69 rfl e41 f42 rfl ?_
          refine k_cl (W' := w_X2_depthBehind) rfl (c_X2_depthBehind I33.1 o45) rfl rfl rfl rfl I33 (by decide) L34 so_n ?_
          rintro w46 h47 c48 s49 hv I50 L51 F52
          obtain ⟨_, rfl, x53, rfl⟩ := hv
          show am_Ok _ _ _ (72, _, [.inl x53], h47, c48, s49) _
          refine k_istore 74 rfl rfl ?_
          refine k_iinc (v5 + 1) 77 rfl (gs_ne rfl rfl (gs_ne rfl rfl g5)) rfl rfl ?_
          refine k_goto 14 rfl rfl ?_
          exact ih _ (by rw [← hn]; exact up_lt b1) rfl (gs_ne rfl rfl (gs_ne rfl rfl (gs_ne rfl rfl g0))) o0 (gs_ne rfl rfl (gs_ne rfl rfl (gs_ne rfl rfl g1))) (gs_ne rfl rfl (gs_ne rfl rfl (gs_ne rfl rfl g2))) (gs_ne rfl rfl (gs_ne rfl rfl (gs_ne rfl rfl g3))) (gs_ne rfl rfl gs_eq) gs_eq (okL_set (i := 5) (v := .inl (v5 + 1)) rfl (okL_set (i := 4) (v := .inl x53) rfl L51)) I50
      · refine k_c2 44 rfl rfl (if_neg b26) ?_
        refine k_iload 46 rfl gs_eq rfl ?_
        refine k_goto 53 rfl rfl ?_
        refine k_cl (W' := []) rfl ((rw_add (W := []) I13.1 (Or.inl o23)).imp (fun _ z => z.1)) rfl rfl rfl (I13.1.rc3 (Or.inl o23)) I13 (by decide) (okL_set (i := 6) (v := .inl x16) rfl L14) so_n ?_
        rintro w54 h55 c56 s57 hv I58 L59 F60
        obtain ⟨_, rfl, x61, rfl, z62⟩ := hv
        show am_Ok _ _ _ (56, _, [.inl x61], h55, c56, s57) _
        by_cases b63 : x61 = 0
        · refine k_c1 59 rfl rfl (if_pos b63) ?_
          refine k_push 60 rfl rfl ?_
          exact k_fin rfl (fin_Z (Or.inl rfl)) ⟨⟨_, rfl, ⟨_, rfl, _, rfl, (Or.inl rfl)⟩⟩, I58⟩
        · refine k_c1 61 rfl rfl (if_neg b63) ?_
          refine k_iload 63 rfl gs_eq rfl ?_
          refine k_iload 65 rfl (gs_ne rfl rfl g4) rfl ?_
          refine k_aload 66 rfl (gs_ne rfl rfl g0) rfl ?_
          obtain ⟨fs64, u65, e66, f67, t68⟩ := I58.1.get o0 (k := 1) rfl rfl
          obtain ⟨i69, rfl, o70⟩ := t68
          refine k_get 69 rfl e66 f67 rfl ?_
          refine k_cl (W' := w_X2_depthBehind) rfl (c_X2_depthBehind I58.1 o70) rfl rfl rfl rfl I58 (by decide) L59 so_n ?_
          rintro w71 h72 c73 s74 hv I75 L76 F77
          obtain ⟨_, rfl, x78, rfl⟩ := hv
          show am_Ok _ _ _ (72, _, [.inl x78], h72, c73, s74) _
          refine k_istore 74 rfl rfl ?_
          refine k_iinc (v5 + 1) 77 rfl (gs_ne rfl rfl (gs_ne rfl rfl g5)) rfl rfl ?_
          refine k_goto 14 rfl rfl ?_
          exact ih _ (by rw [← hn]; exact up_lt b1) rfl (gs_ne rfl rfl (gs_ne rfl rfl (gs_ne rfl rfl g0))) o0 (gs_ne rfl rfl (gs_ne rfl rfl (gs_ne rfl rfl g1))) (gs_ne rfl rfl (gs_ne rfl rfl (gs_ne rfl rfl g2))) (gs_ne rfl rfl (gs_ne rfl rfl (gs_ne rfl rfl g3))) (gs_ne rfl rfl gs_eq) gs_eq (okL_set (i := 5) (v := .inl (v5 + 1)) rfl (okL_set (i := 4) (v := .inl x78) rfl L76)) I75
theorem b_X2_putArgument {B : Nat} {h0 : am_h} {lv : am_l} {h : am_h} {c s : Nat} {v0 : Nat} {v1 : Int32} {v2 : Int32} {v3 : Int32} (g0 : am_get lv 0 = some (.inr (.inr (some v0)))) (o0 : ob 2 v0) (g1 : am_get lv 1 = some (.inl v1)) (g2 : am_get lv 2 = some (.inl v2)) (g3 : am_get lv 3 = some (.inl v3)) (hL : am_okL h.length lv = true) (hI : ob_I w_X2_putArgument B h0 h c s) : am_Ok am_G 3 46 (0, lv, [], h, c, s) (ty_Q w_X2_putArgument 3 B h0) := by
  refine k_aload 1 rfl g0 rfl ?_
  obtain ⟨fs79, u80, e81, f82, t83⟩ := hI.1.get o0 (k := 1) rfl rfl
  obtain ⟨i84, rfl, o85⟩ := t83
  refine k_get 4 rfl e81 f82 rfl ?_
  refine k_push 5 rfl rfl ?_
  refine k_cl (W' := []) rfl (rw_cut (W := []) hI.1 (Or.inl o85)) rfl rfl rfl (hI.1.rc3 (Or.inl o85)) hI (by decide) hL so_n ?_
  rintro w86 h87 c88 s89 hv I90 L91 F92
  cases hv
  show am_Ok _ _ _ (8, _, [], h87, c88, s89) _
  refine k_push 9 rfl rfl ?_
  refine k_istore 11 rfl rfl ?_
  refine k_iload 12 rfl (gs_ne rfl rfl g1) rfl ?_
  refine k_istore 14 rfl rfl ?_
  exact b_X2_putArgument_14 _ rfl (gs_ne rfl rfl (gs_ne rfl rfl g0)) o0 (gs_ne rfl rfl (gs_ne rfl rfl g1)) (gs_ne rfl rfl (gs_ne rfl rfl g2)) (gs_ne rfl rfl (gs_ne rfl rfl g3)) (gs_ne rfl rfl gs_eq) gs_eq (okL_set (i := 5) (v := .inl v1) rfl (okL_set (i := 4) (v := .inl (0 : Int32)) rfl L91)) I90
theorem c_X2_putArgument {h : am_h} {v0 : Nat} {v1 : Int32} {v2 : Int32} {v3 : Int32} (hT : ty_H h) (o0 : ob 2 v0) : am_Mt 4 46 [.inr (.inr (some v0)), .inl v1, .inl v2, .inl v3] h (ty_Q w_X2_putArgument 3 (ob_P h) h) := am_Mt.of (b_X2_putArgument rfl o0 rfl rfl rfl (okA_r hT o0 (okA_i (okA_i (okA_i okA_n)))) (ob_I.start hT))
abbrev w_X2_putIn : List (Nat × Nat) := []
theorem b_X2_putIn_14 {B : Nat} {h0 : am_h} : ∀ (n : Nat) {lv : am_l} {h : am_h} {c s : Nat} {v0 : Nat} {v1 : Int32} {v2 : Int32} {v3 : Int32} {v4 : Int32} {v5 : Int32} , up_m v5 = n → am_get lv 0 = some (.inr (.inr (some v0))) → ob 2 v0 → am_get lv 1 = some (.inl v1) → am_get lv 2 = some (.inl v2) → am_get lv 3 = some (.inl v3) → am_get lv 4 = some (.inl v4) → am_get lv 5 = some (.inl v5) → am_okL h.length lv = true → ob_I w_X2_putIn B h0 h c s → am_Ok am_G 4 45 (14, lv, [], h, c, s) (ty_Q w_X2_putIn 3 B h0) := by
  intro n
  induction n using Nat.strongRecOn with
  | ind n ih =>
    intro lv h c s v0 v1 v2 v3 v4 v5 hn g0 o0 g1 g2 g3 g4 g5 hL hI
    refine k_iload 16 rfl g5 rfl ?_
    refine k_iload 17 rfl g2 rfl ?_
    by_cases b1 : v2 ≤ v5
    · refine k_c2 126 rfl rfl (if_pos b1) ?_
      refine k_push 127 rfl rfl ?_
      exact k_fin rfl (fin_Z (Or.inr rfl)) ⟨⟨_, rfl, ⟨_, rfl, _, rfl, (Or.inr rfl)⟩⟩, hI⟩
    · refine k_c2 20 rfl rfl (if_neg b1) ?_
      refine k_aload 21 rfl g0 rfl ?_
      obtain ⟨fs2, u3, e4, f5, t6⟩ := hI.1.get o0 (k := 2) rfl rfl
      obtain ⟨i7, rfl, o8⟩ := t6
      refine k_get 24 rfl e4 f5 rfl ?_
      refine k_iload 26 rfl g5 rfl ?_
      refine k_cl (W' := []) rfl (rw_get hI.1 (Or.inl o8)) rfl rfl rfl (hI.1.rc3 (Or.inl o8)) hI (by decide) hL so_n ?_
      rintro w9 h10 c11 s12 hv I13 L14 F15
      obtain ⟨_, rfl, x16, rfl⟩ := hv
      show am_Ok _ _ _ (29, _, [.inl x16], h10, c11, s12) _
      refine k_istore 31 rfl rfl ?_
      refine k_iload 33 rfl gs_eq rfl ?_
      refine k_push 34 rfl rfl ?_
      by_cases b17 : (2 : Int32) ≤ x16
      · refine k_c2 51 rfl rfl (if_pos b17) ?_
        refine k_iload 53 rfl gs_eq rfl ?_
        refine k_push 54 rfl rfl ?_
        refine k_iload 56 rfl (gs_ne rfl rfl g4) rfl ?_
        obtain ⟨x18, q19⟩ : ∃ q : Int32, q = ((2 : Int32) + v4) := ⟨_, rfl⟩
        refine k_bin x18 57 rfl q19.symm rfl ?_
        by_cases b20 : x16 = x18
        · refine k_c2 60 rfl rfl (if_pos b20) ?_
          refine k_aload 61 rfl (gs_ne rfl rfl g0) rfl ?_
          refine k_iload 62 rfl (gs_ne rfl rfl g2) rfl ?_
          refine k_iload 63 rfl (gs_ne rfl rfl g3) rfl ?_
          refine k_iload 65 rfl (gs_ne rfl rfl g4) rfl ?_
          refine k_cl (W' := w_X2_putArgument) rfl (c_X2_putArgument I13.1 o0) rfl rfl rfl (I13.1.rc o0 rfl) I13 (by decide) (okL_set (i := 6) (v := .inl x16) rfl L14) so_n ?_
          rintro w21 h22 c23 s24 hv I25 L26 F27
          obtain ⟨_, rfl, x28, rfl, z29⟩ := hv
          show am_Ok _ _ _ (68, _, [.inl x28], h22, c23, s24) _
          refine k_istore 70 rfl rfl ?_
          refine k_goto 100 rfl rfl ?_
          refine k_iload 102 rfl gs_eq rfl ?_
          by_cases b30 : x28 = 0
          · refine k_c1 105 rfl rfl (if_pos b30) ?_
            refine k_push 106 rfl rfl ?_
            exact k_fin rfl (fin_Z (Or.inl rfl)) ⟨⟨_, rfl, ⟨_, rfl, _, rfl, (Or.inl rfl)⟩⟩, I25⟩
          · refine k_c1 107 rfl rfl (if_neg b30) ?_
            refine k_iload 109 rfl (gs_ne rfl rfl gs_eq) rfl ?_
            refine k_iload 111 rfl (gs_ne rfl rfl (gs_ne rfl rfl g4)) rfl ?_
            refine k_aload 112 rfl (gs_ne rfl rfl (gs_ne rfl rfl g0)) rfl ?_
            obtain ⟨fs31, u32, e33, f34, t35⟩ := I25.1.get o0 (k := 0) rfl rfl
            obtain ⟨i36, rfl, o37⟩ := t35
            refine k_get 115 rfl e33 f34 rfl ?_
            refine k_cl (W' := w_X2_depthBehind) rfl (c_X2_depthBehind I25.1 o37) rfl rfl rfl rfl I25 (by decide) (okL_set (i := 7) (v := .inl x28) rfl L26) so_n ?_
            rintro w38 h39 c40 s41 hv I42 L43 F44
            obtain ⟨_, rfl, x45, rfl⟩ := hv
            show am_Ok _ _ _ (118, _, [.inl x45], h39, c40, s41) _
            refine k_istore 120 rfl rfl ?_
            refine k_iinc (v5 + 1) 123 rfl (gs_ne rfl rfl (gs_ne rfl rfl (gs_ne rfl rfl g5))) rfl rfl ?_
            refine k_goto 14 rfl rfl ?_
            exact ih _ (by rw [← hn]; exact up_lt b1) rfl (gs_ne rfl rfl (gs_ne rfl rfl (gs_ne rfl rfl (gs_ne rfl rfl g0)))) o0 (gs_ne rfl rfl (gs_ne rfl rfl (gs_ne rfl rfl (gs_ne rfl rfl g1)))) (gs_ne rfl rfl (gs_ne rfl rfl (gs_ne rfl rfl (gs_ne rfl rfl g2)))) (gs_ne rfl rfl (gs_ne rfl rfl (gs_ne rfl rfl (gs_ne rfl rfl g3)))) (gs_ne rfl rfl gs_eq) gs_eq (okL_set (i := 5) (v := .inl (v5 + 1)) rfl (okL_set (i := 4) (v := .inl x45) rfl L43)) I42
        · refine k_c2 73 rfl rfl (if_neg b20) ?_
          refine k_aload 74 rfl (gs_ne rfl rfl g0) rfl ?_
          obtain ⟨fs46, u47, e48, f49, t50⟩ := I13.1.get o0 (k := 3) rfl rfl
          obtain ⟨i51, rfl, o52⟩ := t50
          refine k_get 77 rfl e48 f49 rfl ?_
          refine k_iload 79 rfl gs_eq rfl ?_
          refine k_push 80 rfl rfl ?_
          refine k_iload 82 rfl (gs_ne rfl rfl g4) rfl ?_
          obtain ⟨x53, q54⟩ : ∃ q : Int32, q = ((2 : Int32) + v4) := ⟨_, rfl⟩
          refine k_bin x53 83 rfl q54.symm rfl ?_
          by_cases b55 : x53 ≤ x16
          · refine k_c2 91 rfl rfl (if_pos b55) ?_
            refine k_iload 93 rfl gs_eq rfl ?_
            refine k_push 94 rfl rfl ?_
            obtain ⟨x56, q57⟩ : ∃ q : Int32, q = (x16 - (1 : Int32)) := ⟨_, rfl⟩
            refine k_bin x56 95 rfl q57.symm rfl ?_
            refine k_cl (W' := []) rfl ((rw_add (W := []) I13.1 (Or.inl o52)).imp (fun _ z => z.1)) rfl rfl rfl (I13.1.rc3 (Or.inl o52)) I13 (by decide) (okL_set (i := 6) (v := .inl x16) rfl L14) so_n ?_
            rintro w58 h59 c60 s61 hv I62 L63 F64
            obtain ⟨_, rfl, x65, rfl, z66⟩ := hv
            show am_Ok _ _ _ (98, _, [.inl x65], h59, c60, s61) _
            refine k_istore 100 rfl rfl ?_
            refine k_iload 102 rfl gs_eq rfl ?_
            by_cases b67 : x65 = 0
            · refine k_c1 105 rfl rfl (if_pos b67) ?_
              refine k_push 106 rfl rfl ?_
              exact k_fin rfl (fin_Z (Or.inl rfl)) ⟨⟨_, rfl, ⟨_, rfl, _, rfl, (Or.inl rfl)⟩⟩, I62⟩
            · refine k_c1 107 rfl rfl (if_neg b67) ?_
              refine k_iload 109 rfl (gs_ne rfl rfl gs_eq) rfl ?_
              refine k_iload 111 rfl (gs_ne rfl rfl (gs_ne rfl rfl g4)) rfl ?_
              refine k_aload 112 rfl (gs_ne rfl rfl (gs_ne rfl rfl g0)) rfl ?_
              obtain ⟨fs68, u69, e70, f71, t72⟩ := I62.1.get o0 (k := 0) rfl rfl
              obtain ⟨i73, rfl, o74⟩ := t72
              refine k_get 115 rfl e70 f71 rfl ?_
              refine k_cl (W' := w_X2_depthBehind) rfl (c_X2_depthBehind I62.1 o74) rfl rfl rfl rfl I62 (by decide) (okL_set (i := 7) (v := .inl x65) rfl L63) so_n ?_
              rintro w75 h76 c77 s78 hv I79 L80 F81
              obtain ⟨_, rfl, x82, rfl⟩ := hv
              show am_Ok _ _ _ (118, _, [.inl x82], h76, c77, s78) _
              refine k_istore 120 rfl rfl ?_
              refine k_iinc (v5 + 1) 123 rfl (gs_ne rfl rfl (gs_ne rfl rfl (gs_ne rfl rfl g5))) rfl rfl ?_
              refine k_goto 14 rfl rfl ?_
              exact ih _ (by rw [← hn]; exact up_lt b1) rfl (gs_ne rfl rfl (gs_ne rfl rfl (gs_ne rfl rfl (gs_ne rfl rfl g0)))) o0 (gs_ne rfl rfl (gs_ne rfl rfl (gs_ne rfl rfl (gs_ne rfl rfl g1)))) (gs_ne rfl rfl (gs_ne rfl rfl (gs_ne rfl rfl (gs_ne rfl rfl g2)))) (gs_ne rfl rfl (gs_ne rfl rfl (gs_ne rfl rfl (gs_ne rfl rfl g3)))) (gs_ne rfl rfl gs_eq) gs_eq (okL_set (i := 5) (v := .inl (v5 + 1)) rfl (okL_set (i := 4) (v := .inl x82) rfl L80)) I79
          · refine k_c2 86 rfl rfl (if_neg b55) ?_
            refine k_iload 88 rfl gs_eq rfl ?_
            refine k_goto 95 rfl rfl ?_
            refine k_cl (W' := []) rfl ((rw_add (W := []) I13.1 (Or.inl o52)).imp (fun _ z => z.1)) rfl rfl rfl (I13.1.rc3 (Or.inl o52)) I13 (by decide) (okL_set (i := 6) (v := .inl x16) rfl L14) so_n ?_
            rintro w83 h84 c85 s86 hv I87 L88 F89
            obtain ⟨_, rfl, x90, rfl, z91⟩ := hv
            show am_Ok _ _ _ (98, _, [.inl x90], h84, c85, s86) _
            refine k_istore 100 rfl rfl ?_
            refine k_iload 102 rfl gs_eq rfl ?_
            by_cases b92 : x90 = 0
            · refine k_c1 105 rfl rfl (if_pos b92) ?_
              refine k_push 106 rfl rfl ?_
              exact k_fin rfl (fin_Z (Or.inl rfl)) ⟨⟨_, rfl, ⟨_, rfl, _, rfl, (Or.inl rfl)⟩⟩, I87⟩
            · refine k_c1 107 rfl rfl (if_neg b92) ?_
              refine k_iload 109 rfl (gs_ne rfl rfl gs_eq) rfl ?_
              refine k_iload 111 rfl (gs_ne rfl rfl (gs_ne rfl rfl g4)) rfl ?_
              refine k_aload 112 rfl (gs_ne rfl rfl (gs_ne rfl rfl g0)) rfl ?_
              obtain ⟨fs93, u94, e95, f96, t97⟩ := I87.1.get o0 (k := 0) rfl rfl
              obtain ⟨i98, rfl, o99⟩ := t97
              refine k_get 115 rfl e95 f96 rfl ?_
              refine k_cl (W' := w_X2_depthBehind) rfl (c_X2_depthBehind I87.1 o99) rfl rfl rfl rfl I87 (by decide) (okL_set (i := 7) (v := .inl x90) rfl L88) so_n ?_
              rintro w100 h101 c102 s103 hv I104 L105 F106
              obtain ⟨_, rfl, x107, rfl⟩ := hv
              show am_Ok _ _ _ (118, _, [.inl x107], h101, c102, s103) _
              refine k_istore 120 rfl rfl ?_
              refine k_iinc (v5 + 1) 123 rfl (gs_ne rfl rfl (gs_ne rfl rfl (gs_ne rfl rfl g5))) rfl rfl ?_
              refine k_goto 14 rfl rfl ?_
              exact ih _ (by rw [← hn]; exact up_lt b1) rfl (gs_ne rfl rfl (gs_ne rfl rfl (gs_ne rfl rfl (gs_ne rfl rfl g0)))) o0 (gs_ne rfl rfl (gs_ne rfl rfl (gs_ne rfl rfl (gs_ne rfl rfl g1)))) (gs_ne rfl rfl (gs_ne rfl rfl (gs_ne rfl rfl (gs_ne rfl rfl g2)))) (gs_ne rfl rfl (gs_ne rfl rfl (gs_ne rfl rfl (gs_ne rfl rfl g3)))) (gs_ne rfl rfl gs_eq) gs_eq (okL_set (i := 5) (v := .inl (v5 + 1)) rfl (okL_set (i := 4) (v := .inl x107) rfl L105)) I104
      · refine k_c2 37 rfl rfl (if_neg b17) ?_
        refine k_aload 38 rfl (gs_ne rfl rfl g0) rfl ?_
        obtain ⟨fs108, u109, e110, f111, t112⟩ := I13.1.get o0 (k := 3) rfl rfl
        obtain ⟨i113, rfl, o114⟩ := t112
        refine k_get 41 rfl e110 f111 rfl ?_
        refine k_iload 43 rfl gs_eq rfl ?_
        refine k_cl (W' := []) rfl ((rw_add (W := []) I13.1 (Or.inl o114)).imp (fun _ z => z.1)) rfl rfl rfl (I13.1.rc3 (Or.inl o114)) I13 (by decide) (okL_set (i := 6) (v := .inl x16) rfl L14) so_n ?_
        rintro w115 h116 c117 s118 hv I119 L120 F121
        obtain ⟨_, rfl, x122, rfl, z123⟩ := hv
        show am_Ok _ _ _ (46, _, [.inl x122], h116, c117, s118) _
        refine k_istore 48 rfl rfl ?_
        refine k_goto 100 rfl rfl ?_
        refine k_iload 102 rfl gs_eq rfl ?_
        by_cases b124 : x122 = 0
        · refine k_c1 105 rfl rfl (if_pos b124) ?_
          refine k_push 106 rfl rfl ?_
          exact k_fin rfl (fin_Z (Or.inl rfl)) ⟨⟨_, rfl, ⟨_, rfl, _, rfl, (Or.inl rfl)⟩⟩, I119⟩
        · refine k_c1 107 rfl rfl (if_neg b124) ?_
          refine k_iload 109 rfl (gs_ne rfl rfl gs_eq) rfl ?_
          refine k_iload 111 rfl (gs_ne rfl rfl (gs_ne rfl rfl g4)) rfl ?_
          refine k_aload 112 rfl (gs_ne rfl rfl (gs_ne rfl rfl g0)) rfl ?_
          obtain ⟨fs125, u126, e127, f128, t129⟩ := I119.1.get o0 (k := 0) rfl rfl
          obtain ⟨i130, rfl, o131⟩ := t129
          refine k_get 115 rfl e127 f128 rfl ?_
          refine k_cl (W' := w_X2_depthBehind) rfl (c_X2_depthBehind I119.1 o131) rfl rfl rfl rfl I119 (by decide) (okL_set (i := 7) (v := .inl x122) rfl L120) so_n ?_
          rintro w132 h133 c134 s135 hv I136 L137 F138
          obtain ⟨_, rfl, x139, rfl⟩ := hv
          show am_Ok _ _ _ (118, _, [.inl x139], h133, c134, s135) _
          refine k_istore 120 rfl rfl ?_
          refine k_iinc (v5 + 1) 123 rfl (gs_ne rfl rfl (gs_ne rfl rfl (gs_ne rfl rfl g5))) rfl rfl ?_
          refine k_goto 14 rfl rfl ?_
          exact ih _ (by rw [← hn]; exact up_lt b1) rfl (gs_ne rfl rfl (gs_ne rfl rfl (gs_ne rfl rfl (gs_ne rfl rfl g0)))) o0 (gs_ne rfl rfl (gs_ne rfl rfl (gs_ne rfl rfl (gs_ne rfl rfl g1)))) (gs_ne rfl rfl (gs_ne rfl rfl (gs_ne rfl rfl (gs_ne rfl rfl g2)))) (gs_ne rfl rfl (gs_ne rfl rfl (gs_ne rfl rfl (gs_ne rfl rfl g3)))) (gs_ne rfl rfl gs_eq) gs_eq (okL_set (i := 5) (v := .inl (v5 + 1)) rfl (okL_set (i := 4) (v := .inl x139) rfl L137)) I136
theorem b_X2_putIn {B : Nat} {h0 : am_h} {lv : am_l} {h : am_h} {c s : Nat} {v0 : Nat} {v1 : Int32} {v2 : Int32} {v3 : Int32} (g0 : am_get lv 0 = some (.inr (.inr (some v0)))) (o0 : ob 2 v0) (g1 : am_get lv 1 = some (.inl v1)) (g2 : am_get lv 2 = some (.inl v2)) (g3 : am_get lv 3 = some (.inl v3)) (hL : am_okL h.length lv = true) (hI : ob_I w_X2_putIn B h0 h c s) : am_Ok am_G 4 45 (0, lv, [], h, c, s) (ty_Q w_X2_putIn 3 B h0) := by
  refine k_aload 1 rfl g0 rfl ?_
  obtain ⟨fs140, u141, e142, f143, t144⟩ := hI.1.get o0 (k := 0) rfl rfl
  obtain ⟨i145, rfl, o146⟩ := t144
  refine k_get 4 rfl e142 f143 rfl ?_
  refine k_push 5 rfl rfl ?_
  refine k_cl (W' := []) rfl (rw_cut (W := []) hI.1 (Or.inl o146)) rfl rfl rfl (hI.1.rc3 (Or.inl o146)) hI (by decide) hL so_n ?_
  rintro w147 h148 c149 s150 hv I151 L152 F153
  cases hv
  show am_Ok _ _ _ (8, _, [], h148, c149, s150) _
  refine k_push 9 rfl rfl ?_
  refine k_istore 11 rfl rfl ?_
  refine k_iload 12 rfl (gs_ne rfl rfl g1) rfl ?_
  refine k_istore 14 rfl rfl ?_
  exact b_X2_putIn_14 _ rfl (gs_ne rfl rfl (gs_ne rfl rfl g0)) o0 (gs_ne rfl rfl (gs_ne rfl rfl g1)) (gs_ne rfl rfl (gs_ne rfl rfl g2)) (gs_ne rfl rfl (gs_ne rfl rfl g3)) (gs_ne rfl rfl gs_eq) gs_eq (okL_set (i := 5) (v := .inl v1) rfl (okL_set (i := 4) (v := .inl (0 : Int32)) rfl L152)) I151
theorem c_X2_putIn {h : am_h} {v0 : Nat} {v1 : Int32} {v2 : Int32} {v3 : Int32} (hT : ty_H h) (o0 : ob 2 v0) : am_Mt 5 45 [.inr (.inr (some v0)), .inl v1, .inl v2, .inl v3] h (ty_Q w_X2_putIn 3 (ob_P h) h) := am_Mt.of (b_X2_putIn rfl o0 rfl rfl rfl (okA_r hT o0 (okA_i (okA_i (okA_i okA_n)))) (ob_I.start hT))
abbrev w_X2_workOff : List (Nat × Nat) := [(2, 2), (2, 3), (2, 4), (2, 5)]
theorem b_X2_workOff_18 {B : Nat} {h0 : am_h} : ∀ (n : Nat) {lv : am_l} {h : am_h} {c s : Nat} {v0 : Nat} {v1 : Nat} {v2 : Int32} {xf : Int32} , up_m xf = n → ob_f h v0 4 = some (.inl xf) → am_get lv 0 = some (.inr (.inr (some v0))) → ob 2 v0 → am_get lv 1 = some (.inr (.inr (some v1))) → ob 3 v1 → am_get lv 2 = some (.inl v2) → am_okL h.length lv = true → ob_I w_X2_workOff B h0 h c s → am_Ok am_G 5 41 (18, lv, [], h, c, s) (ty_Q w_X2_workOff 0 B h0) := by
  intro n
  induction n using Nat.strongRecOn with
  | ind n ih =>
    intro lv h c s v0 v1 v2 xf hn tf g0 o0 g1 o1 g2 hL hI
    refine k_aload 19 rfl g0 rfl ?_
    obtain ⟨fs1, u2, e3, f4, t5⟩ := hI.1.get o0 (k := 4) rfl rfl
    obtain rfl : u2 = .inl xf := ob_f.get tf e3 f4
    refine k_get 22 rfl e3 f4 rfl ?_
    refine k_iload 23 rfl g2 rfl ?_
    by_cases b6 : v2 ≤ xf
    · refine k_c2 150 rfl rfl (if_pos b6) ?_
      exact k_fin rfl rfl ⟨⟨_, rfl, rfl⟩, hI⟩
    · refine k_c2 26 rfl rfl (if_neg b6) ?_
      refine k_aload 27 rfl g0 rfl ?_
      obtain ⟨fs7, u8, e9, f10, t11⟩ := hI.1.get o0 (k := 5) rfl rfl
      obtain ⟨x12, rfl, z13⟩ := t11
      refine k_get 30 rfl e9 f10 rfl ?_
      by_cases b14 : x12 = 0
      · refine k_c1 33 rfl rfl (if_pos b14) ?_
        refine k_aload 34 rfl g0 rfl ?_
        refine k_cl (W' := w_X2_firstRedex) rfl (c_X2_firstRedex hI.1 o0) rfl rfl rfl (hI.1.rc o0 rfl) hI (by decide) hL so_n ?_
        rintro w15 h16 c17 s18 hv I19 L20 F21
        have t22 := ob_Fr.f F21 o0 (by decide) (by decide : (2, 4) ∉ w_X2_firstRedex) tf
        obtain ⟨_, rfl, x23, rfl⟩ := hv
        show am_Ok _ _ _ (37, _, [.inl x23], h16, c17, s18) _
        refine k_istore 38 rfl rfl ?_
        refine k_iload 39 rfl gs_eq rfl ?_
        refine k_push 40 rfl rfl ?_
        by_cases b24 : x23 = (-1 : Int32)
        · refine k_c2 43 rfl rfl (if_pos b24) ?_
          exact k_fin rfl rfl ⟨⟨_, rfl, rfl⟩, I19⟩
        · refine k_c2 44 rfl rfl (if_neg b24) ?_
          refine k_aload 45 rfl (gs_ne rfl rfl g0) rfl ?_
          refine k_iload 46 rfl gs_eq rfl ?_
          refine k_push 47 rfl rfl ?_
          obtain ⟨x25, q26⟩ : ∃ q : Int32, q = (x23 + (2 : Int32)) := ⟨_, rfl⟩
          refine k_bin x25 48 rfl q26.symm rfl ?_
          refine k_cl (W' := w_X2_behindTerm) rfl (c_X2_behindTerm I19.1 o0) rfl rfl rfl (I19.1.rc o0 rfl) I19 (by decide) (okL_set (i := 3) (v := .inl x23) rfl L20) so_n ?_
          rintro w27 h28 c29 s30 hv I31 L32 F33
          have t34 := ob_Fr.f F33 o0 (by decide) (by decide : (2, 4) ∉ w_X2_behindTerm) t22
          obtain ⟨_, rfl, x35, rfl⟩ := hv
          show am_Ok _ _ _ (51, _, [.inl x35], h28, c29, s30) _
          refine k_istore 53 rfl rfl ?_
          refine k_aload 54 rfl (gs_ne rfl rfl (gs_ne rfl rfl g0)) rfl ?_
          refine k_iload 56 rfl gs_eq rfl ?_
          refine k_cl (W' := w_X2_behindTerm) rfl (c_X2_behindTerm I31.1 o0) rfl rfl rfl (I31.1.rc o0 rfl) I31 (by decide) (okL_set (i := 4) (v := .inl x35) rfl L32) so_n ?_
          rintro w36 h37 c38 s39 hv I40 L41 F42
          have t43 := ob_Fr.f F42 o0 (by decide) (by decide : (2, 4) ∉ w_X2_behindTerm) t34
          obtain ⟨_, rfl, x44, rfl⟩ := hv
          show am_Ok _ _ _ (59, _, [.inl x44], h37, c38, s39) _
          refine k_istore 61 rfl rfl ?_
          refine k_aload 62 rfl (gs_ne rfl rfl (gs_ne rfl rfl (gs_ne rfl rfl g0))) rfl ?_
          obtain ⟨fs45, u46, e47, f48, t49⟩ := I40.1.get o0 (k := 3) rfl rfl
          obtain ⟨i50, rfl, o51⟩ := t49
          refine k_get 65 rfl e47 f48 rfl ?_
          refine k_push 66 rfl rfl ?_
          refine k_cl (W' := []) rfl (rw_cut (W := []) I40.1 (Or.inl o51)) rfl rfl rfl (I40.1.rc3 (Or.inl o51)) I40 (by decide) (okL_set (i := 5) (v := .inl x44) rfl L41) so_n ?_
          rintro w52 h53 c54 s55 hv I56 L57 F58
          have t59 := ob_Fr.f F58 o0 (by decide) (by decide : (2, 4) ∉ []) t43
          cases hv
          show am_Ok _ _ _ (69, _, [], h53, c54, s55) _
          refine k_aload 70 rfl (gs_ne rfl rfl (gs_ne rfl rfl (gs_ne rfl rfl g0))) rfl ?_
          refine k_aload 71 rfl (gs_ne rfl rfl (gs_ne rfl rfl (gs_ne rfl rfl g0))) rfl ?_
          refine k_push 72 rfl rfl ?_
          refine k_iload 73 rfl (gs_ne rfl rfl (gs_ne rfl rfl gs_eq)) rfl ?_
          refine k_cl (W' := w_X2_keep) rfl (c_X2_keep I56.1 o0) rfl rfl rfl (I56.1.rc o0 rfl) I56 (by decide) L57 (so_r I56 o0 so_n) ?_
          rintro w60 h61 c62 s63 hv I64 L65 F66
          have t67 := ob_Fr.f F66 o0 (by decide) (by decide : (2, 4) ∉ w_X2_keep) t59
          obtain ⟨_, rfl, x68, rfl, z69⟩ := hv
          show am_Ok _ _ _ (76, _, [.inl x68, .inr (.inr (some v0))], h61, c62, s63) _
          by_cases b70 : x68 = 0
          · refine k_c1 109 rfl rfl (if_pos b70) ?_
            refine k_push 110 rfl rfl ?_
            refine k_goto 114 rfl rfl ?_
            obtain ⟨fs71, u72, e73, f74, t75⟩ := I64.1.get o0 (k := 5) rfl rfl
            refine k_put 117 rfl e73 (okZ_of (Or.inr rfl)) (List.getElem?_eq_some_iff.mp f74).1 rfl ?_
            obtain ⟨h76, E79, I77, l80⟩ := I64.put (v := .inl (1 : Int32)) o0 rfl e73 (k := 5) rfl (show ty_V 1 (.inl (1 : Int32)) from ⟨_, rfl, (Or.inr rfl)⟩) (by decide)
            have t81 := ob_f.ne t67 e73 E79 (by decide)
            rw [E79]
            have L78 := okL_eq l80 L65
            refine k_aload 118 rfl (gs_ne rfl rfl (gs_ne rfl rfl (gs_ne rfl rfl g0))) rfl ?_
            obtain ⟨fs82, u83, e84, f85, t86⟩ := I77.1.get o0 (k := 2) rfl rfl
            obtain ⟨i87, rfl, o88⟩ := t86
            refine k_get 121 rfl e84 f85 rfl ?_
            refine k_astore 123 rfl rfl ?_
            refine k_aload 124 rfl (gs_ne rfl rfl (gs_ne rfl rfl (gs_ne rfl rfl (gs_ne rfl rfl g0)))) rfl ?_
            refine k_aload 125 rfl (gs_ne rfl rfl (gs_ne rfl rfl (gs_ne rfl rfl (gs_ne rfl rfl g0)))) rfl ?_
            obtain ⟨fs89, u90, e91, f92, t93⟩ := I77.1.get o0 (k := 3) rfl rfl
            obtain ⟨i94, rfl, o95⟩ := t93
            refine k_get 128 rfl e91 f92 rfl ?_
            obtain ⟨fs96, u97, e98, f99, t100⟩ := I77.1.get o0 (k := 2) rfl rfl
            refine k_put 131 rfl e98 rfl (List.getElem?_eq_some_iff.mp f99).1 rfl ?_
            obtain ⟨h101, E104, I102, l105⟩ := I77.put (v := .inr (.inr (some i94))) o0 rfl e98 (k := 2) rfl (show ty_V 5 (.inr (.inr (some i94))) from ⟨_, rfl, o95⟩) (by decide)
            have t106 := ob_f.ne t81 e98 E104 (by decide)
            rw [E104]
            have L103 := okL_eq l105 (okL_set (i := 6) (v := .inr (.inr (some i87))) (ob_okR I77 o88) L78)
            refine k_aload 132 rfl (gs_ne rfl rfl (gs_ne rfl rfl (gs_ne rfl rfl (gs_ne rfl rfl g0)))) rfl ?_
            refine k_aload 134 rfl gs_eq rfl ?_
            obtain ⟨fs107, u108, e109, f110, t111⟩ := I102.1.get o0 (k := 3) rfl rfl
            refine k_put 137 rfl e109 rfl (List.getElem?_eq_some_iff.mp f110).1 rfl ?_
            obtain ⟨h112, E115, I113, l116⟩ := I102.put (v := .inr (.inr (some i87))) o0 rfl e109 (k := 3) rfl (show ty_V 5 (.inr (.inr (some i87))) from ⟨_, rfl, o88⟩) (by decide)
            have t117 := ob_f.ne t106 e109 E115 (by decide)
            rw [E115]
            have L114 := okL_eq l116 L103
            refine k_aload 138 rfl (gs_ne rfl rfl (gs_ne rfl rfl (gs_ne rfl rfl (gs_ne rfl rfl g0)))) rfl ?_
            refine k_dup 139 rfl rfl rfl ?_
            obtain ⟨fs118, u119, e120, f121, t122⟩ := I113.1.get o0 (k := 4) rfl rfl
            obtain rfl : u119 = .inl xf := ob_f.get t117 e120 f121
            refine k_get 142 rfl e120 f121 rfl ?_
            refine k_push 143 rfl rfl ?_
            obtain ⟨x123, q124⟩ : ∃ q : Int32, q = (xf + (1 : Int32)) := ⟨_, rfl⟩
            refine k_bin x123 144 rfl q124.symm rfl ?_
            obtain ⟨fs125, u126, e127, f128, t129⟩ := I113.1.get o0 (k := 4) rfl rfl
            refine k_put 147 rfl e127 rfl (List.getElem?_eq_some_iff.mp f128).1 rfl ?_
            obtain ⟨h130, E133, I131, l134⟩ := I113.put (v := .inl x123) o0 rfl e127 (k := 4) rfl (show ty_V 0 (.inl x123) from ⟨_, rfl⟩) (by decide)
            have t135 := ob_f.put e127 f128 E133
            rw [E133]
            have L132 := okL_eq l134 L114
            refine k_goto 18 rfl rfl ?_
            exact ih _ (by rw [← hn]; exact (by rw [q124]; exact up_lt b6)) rfl t135 (gs_ne rfl rfl (gs_ne rfl rfl (gs_ne rfl rfl (gs_ne rfl rfl g0)))) o0 (gs_ne rfl rfl (gs_ne rfl rfl (gs_ne rfl rfl (gs_ne rfl rfl g1)))) o1 (gs_ne rfl rfl (gs_ne rfl rfl (gs_ne rfl rfl (gs_ne rfl rfl g2)))) L132 I131
          · refine k_c1 79 rfl rfl (if_neg b70) ?_
            refine k_aload 80 rfl (gs_ne rfl rfl (gs_ne rfl rfl (gs_ne rfl rfl g0))) rfl ?_
            refine k_iload 81 rfl (gs_ne rfl rfl (gs_ne rfl rfl gs_eq)) rfl ?_
            refine k_push 82 rfl rfl ?_
            obtain ⟨x136, q137⟩ : ∃ q : Int32, q = (x23 + (2 : Int32)) := ⟨_, rfl⟩
            refine k_bin x136 83 rfl q137.symm rfl ?_
            refine k_iload 85 rfl (gs_ne rfl rfl gs_eq) rfl ?_
            refine k_iload 87 rfl gs_eq rfl ?_
            refine k_cl (W' := w_X2_putIn) rfl (c_X2_putIn I64.1 o0) rfl rfl rfl (I64.1.rc o0 rfl) I64 (by decide) L65 (so_r I64 o0 so_n) ?_
            rintro w138 h139 c140 s141 hv I142 L143 F144
            have t145 := ob_Fr.f F144 o0 (by decide) (by decide : (2, 4) ∉ w_X2_putIn) t67
            obtain ⟨_, rfl, x146, rfl, z147⟩ := hv
            show am_Ok _ _ _ (90, _, [.inl x146, .inr (.inr (some v0))], h139, c140, s141) _
            by_cases b148 : x146 = 0
            · refine k_c1 109 rfl rfl (if_pos b148) ?_
              refine k_push 110 rfl rfl ?_
              refine k_goto 114 rfl rfl ?_
              obtain ⟨fs149, u150, e151, f152, t153⟩ := I142.1.get o0 (k := 5) rfl rfl
              refine k_put 117 rfl e151 (okZ_of (Or.inr rfl)) (List.getElem?_eq_some_iff.mp f152).1 rfl ?_
              obtain ⟨h154, E157, I155, l158⟩ := I142.put (v := .inl (1 : Int32)) o0 rfl e151 (k := 5) rfl (show ty_V 1 (.inl (1 : Int32)) from ⟨_, rfl, (Or.inr rfl)⟩) (by decide)
              have t159 := ob_f.ne t145 e151 E157 (by decide)
              rw [E157]
              have L156 := okL_eq l158 L143
              refine k_aload 118 rfl (gs_ne rfl rfl (gs_ne rfl rfl (gs_ne rfl rfl g0))) rfl ?_
              obtain ⟨fs160, u161, e162, f163, t164⟩ := I155.1.get o0 (k := 2) rfl rfl
              obtain ⟨i165, rfl, o166⟩ := t164
              refine k_get 121 rfl e162 f163 rfl ?_
              refine k_astore 123 rfl rfl ?_
              refine k_aload 124 rfl (gs_ne rfl rfl (gs_ne rfl rfl (gs_ne rfl rfl (gs_ne rfl rfl g0)))) rfl ?_
              refine k_aload 125 rfl (gs_ne rfl rfl (gs_ne rfl rfl (gs_ne rfl rfl (gs_ne rfl rfl g0)))) rfl ?_
              obtain ⟨fs167, u168, e169, f170, t171⟩ := I155.1.get o0 (k := 3) rfl rfl
              obtain ⟨i172, rfl, o173⟩ := t171
              refine k_get 128 rfl e169 f170 rfl ?_
              obtain ⟨fs174, u175, e176, f177, t178⟩ := I155.1.get o0 (k := 2) rfl rfl
              refine k_put 131 rfl e176 rfl (List.getElem?_eq_some_iff.mp f177).1 rfl ?_
              obtain ⟨h179, E182, I180, l183⟩ := I155.put (v := .inr (.inr (some i172))) o0 rfl e176 (k := 2) rfl (show ty_V 5 (.inr (.inr (some i172))) from ⟨_, rfl, o173⟩) (by decide)
              have t184 := ob_f.ne t159 e176 E182 (by decide)
              rw [E182]
              have L181 := okL_eq l183 (okL_set (i := 6) (v := .inr (.inr (some i165))) (ob_okR I155 o166) L156)
              refine k_aload 132 rfl (gs_ne rfl rfl (gs_ne rfl rfl (gs_ne rfl rfl (gs_ne rfl rfl g0)))) rfl ?_
              refine k_aload 134 rfl gs_eq rfl ?_
              obtain ⟨fs185, u186, e187, f188, t189⟩ := I180.1.get o0 (k := 3) rfl rfl
              refine k_put 137 rfl e187 rfl (List.getElem?_eq_some_iff.mp f188).1 rfl ?_
              obtain ⟨h190, E193, I191, l194⟩ := I180.put (v := .inr (.inr (some i165))) o0 rfl e187 (k := 3) rfl (show ty_V 5 (.inr (.inr (some i165))) from ⟨_, rfl, o166⟩) (by decide)
              have t195 := ob_f.ne t184 e187 E193 (by decide)
              rw [E193]
              have L192 := okL_eq l194 L181
              refine k_aload 138 rfl (gs_ne rfl rfl (gs_ne rfl rfl (gs_ne rfl rfl (gs_ne rfl rfl g0)))) rfl ?_
              refine k_dup 139 rfl rfl rfl ?_
              obtain ⟨fs196, u197, e198, f199, t200⟩ := I191.1.get o0 (k := 4) rfl rfl
              obtain rfl : u197 = .inl xf := ob_f.get t195 e198 f199
              refine k_get 142 rfl e198 f199 rfl ?_
              refine k_push 143 rfl rfl ?_
              obtain ⟨x201, q202⟩ : ∃ q : Int32, q = (xf + (1 : Int32)) := ⟨_, rfl⟩
              refine k_bin x201 144 rfl q202.symm rfl ?_
              obtain ⟨fs203, u204, e205, f206, t207⟩ := I191.1.get o0 (k := 4) rfl rfl
              refine k_put 147 rfl e205 rfl (List.getElem?_eq_some_iff.mp f206).1 rfl ?_
              obtain ⟨h208, E211, I209, l212⟩ := I191.put (v := .inl x201) o0 rfl e205 (k := 4) rfl (show ty_V 0 (.inl x201) from ⟨_, rfl⟩) (by decide)
              have t213 := ob_f.put e205 f206 E211
              rw [E211]
              have L210 := okL_eq l212 L192
              refine k_goto 18 rfl rfl ?_
              exact ih _ (by rw [← hn]; exact (by rw [q202]; exact up_lt b6)) rfl t213 (gs_ne rfl rfl (gs_ne rfl rfl (gs_ne rfl rfl (gs_ne rfl rfl g0)))) o0 (gs_ne rfl rfl (gs_ne rfl rfl (gs_ne rfl rfl (gs_ne rfl rfl g1)))) o1 (gs_ne rfl rfl (gs_ne rfl rfl (gs_ne rfl rfl (gs_ne rfl rfl g2)))) L210 I209
            · refine k_c1 93 rfl rfl (if_neg b148) ?_
              refine k_aload 94 rfl (gs_ne rfl rfl (gs_ne rfl rfl (gs_ne rfl rfl g0))) rfl ?_
              refine k_iload 96 rfl gs_eq rfl ?_
              refine k_aload 97 rfl (gs_ne rfl rfl (gs_ne rfl rfl (gs_ne rfl rfl g0))) rfl ?_
              obtain ⟨fs214, u215, e216, f217, t218⟩ := I142.1.get o0 (k := 2) rfl rfl
              obtain ⟨i219, rfl, o220⟩ := t218
              refine k_get 100 rfl e216 f217 rfl ?_
              refine k_cl (W' := []) rfl (rw_size I142.1 (Or.inl o220)) rfl rfl rfl (I142.1.rc3 (Or.inl o220)) I142 (by decide) L143 (so_i (so_r I142 o0 (so_r I142 o0 so_n))) ?_
              rintro w221 h222 c223 s224 hv I225 L226 F227
              have t228 := ob_Fr.f F227 o0 (by decide) (by decide : (2, 4) ∉ []) t145
              obtain ⟨_, rfl, x229, rfl⟩ := hv
              show am_Ok _ _ _ (103, _, [.inl x229, .inl x44, .inr (.inr (some v0)), .inr (.inr (some v0))], h222, c223, s224) _
              refine k_cl (W' := w_X2_keep) rfl (c_X2_keep I225.1 o0) rfl rfl rfl (I225.1.rc o0 rfl) I225 (by decide) L226 (so_r I225 o0 so_n) ?_
              rintro w230 h231 c232 s233 hv I234 L235 F236
              have t237 := ob_Fr.f F236 o0 (by decide) (by decide : (2, 4) ∉ w_X2_keep) t228
              obtain ⟨_, rfl, x238, rfl, z239⟩ := hv
              show am_Ok _ _ _ (106, _, [.inl x238, .inr (.inr (some v0))], h231, c232, s233) _
              by_cases b240 : x238 = 0
              · refine k_c1 109 rfl rfl (if_pos b240) ?_
                refine k_push 110 rfl rfl ?_
                refine k_goto 114 rfl rfl ?_
                obtain ⟨fs241, u242, e243, f244, t245⟩ := I234.1.get o0 (k := 5) rfl rfl
                refine k_put 117 rfl e243 (okZ_of (Or.inr rfl)) (List.getElem?_eq_some_iff.mp f244).1 rfl ?_
                obtain ⟨h246, E249, I247, l250⟩ := I234.put (v := .inl (1 : Int32)) o0 rfl e243 (k := 5) rfl (show ty_V 1 (.inl (1 : Int32)) from ⟨_, rfl, (Or.inr rfl)⟩) (by decide)
                have t251 := ob_f.ne t237 e243 E249 (by decide)
                rw [E249]
                have L248 := okL_eq l250 L235
                refine k_aload 118 rfl (gs_ne rfl rfl (gs_ne rfl rfl (gs_ne rfl rfl g0))) rfl ?_
                obtain ⟨fs252, u253, e254, f255, t256⟩ := I247.1.get o0 (k := 2) rfl rfl
                obtain ⟨i257, rfl, o258⟩ := t256
                refine k_get 121 rfl e254 f255 rfl ?_
                refine k_astore 123 rfl rfl ?_
                refine k_aload 124 rfl (gs_ne rfl rfl (gs_ne rfl rfl (gs_ne rfl rfl (gs_ne rfl rfl g0)))) rfl ?_
                refine k_aload 125 rfl (gs_ne rfl rfl (gs_ne rfl rfl (gs_ne rfl rfl (gs_ne rfl rfl g0)))) rfl ?_
                obtain ⟨fs259, u260, e261, f262, t263⟩ := I247.1.get o0 (k := 3) rfl rfl
                obtain ⟨i264, rfl, o265⟩ := t263
                refine k_get 128 rfl e261 f262 rfl ?_
                obtain ⟨fs266, u267, e268, f269, t270⟩ := I247.1.get o0 (k := 2) rfl rfl
                refine k_put 131 rfl e268 rfl (List.getElem?_eq_some_iff.mp f269).1 rfl ?_
                obtain ⟨h271, E274, I272, l275⟩ := I247.put (v := .inr (.inr (some i264))) o0 rfl e268 (k := 2) rfl (show ty_V 5 (.inr (.inr (some i264))) from ⟨_, rfl, o265⟩) (by decide)
                have t276 := ob_f.ne t251 e268 E274 (by decide)
                rw [E274]
                have L273 := okL_eq l275 (okL_set (i := 6) (v := .inr (.inr (some i257))) (ob_okR I247 o258) L248)
                refine k_aload 132 rfl (gs_ne rfl rfl (gs_ne rfl rfl (gs_ne rfl rfl (gs_ne rfl rfl g0)))) rfl ?_
                refine k_aload 134 rfl gs_eq rfl ?_
                obtain ⟨fs277, u278, e279, f280, t281⟩ := I272.1.get o0 (k := 3) rfl rfl
                refine k_put 137 rfl e279 rfl (List.getElem?_eq_some_iff.mp f280).1 rfl ?_
                obtain ⟨h282, E285, I283, l286⟩ := I272.put (v := .inr (.inr (some i257))) o0 rfl e279 (k := 3) rfl (show ty_V 5 (.inr (.inr (some i257))) from ⟨_, rfl, o258⟩) (by decide)
                have t287 := ob_f.ne t276 e279 E285 (by decide)
                rw [E285]
                have L284 := okL_eq l286 L273
                refine k_aload 138 rfl (gs_ne rfl rfl (gs_ne rfl rfl (gs_ne rfl rfl (gs_ne rfl rfl g0)))) rfl ?_
                refine k_dup 139 rfl rfl rfl ?_
                obtain ⟨fs288, u289, e290, f291, t292⟩ := I283.1.get o0 (k := 4) rfl rfl
                obtain rfl : u289 = .inl xf := ob_f.get t287 e290 f291
                refine k_get 142 rfl e290 f291 rfl ?_
                refine k_push 143 rfl rfl ?_
                obtain ⟨x293, q294⟩ : ∃ q : Int32, q = (xf + (1 : Int32)) := ⟨_, rfl⟩
                refine k_bin x293 144 rfl q294.symm rfl ?_
                obtain ⟨fs295, u296, e297, f298, t299⟩ := I283.1.get o0 (k := 4) rfl rfl
                refine k_put 147 rfl e297 rfl (List.getElem?_eq_some_iff.mp f298).1 rfl ?_
                obtain ⟨h300, E303, I301, l304⟩ := I283.put (v := .inl x293) o0 rfl e297 (k := 4) rfl (show ty_V 0 (.inl x293) from ⟨_, rfl⟩) (by decide)
                have t305 := ob_f.put e297 f298 E303
                rw [E303]
                have L302 := okL_eq l304 L284
                refine k_goto 18 rfl rfl ?_
                exact ih _ (by rw [← hn]; exact (by rw [q294]; exact up_lt b6)) rfl t305 (gs_ne rfl rfl (gs_ne rfl rfl (gs_ne rfl rfl (gs_ne rfl rfl g0)))) o0 (gs_ne rfl rfl (gs_ne rfl rfl (gs_ne rfl rfl (gs_ne rfl rfl g1)))) o1 (gs_ne rfl rfl (gs_ne rfl rfl (gs_ne rfl rfl (gs_ne rfl rfl g2)))) L302 I301
              · refine k_c1 113 rfl rfl (if_neg b240) ?_
                refine k_push 114 rfl rfl ?_
                obtain ⟨fs306, u307, e308, f309, t310⟩ := I234.1.get o0 (k := 5) rfl rfl
                refine k_put 117 rfl e308 (okZ_of (Or.inl rfl)) (List.getElem?_eq_some_iff.mp f309).1 rfl ?_
                obtain ⟨h311, E314, I312, l315⟩ := I234.put (v := .inl (0 : Int32)) o0 rfl e308 (k := 5) rfl (show ty_V 1 (.inl (0 : Int32)) from ⟨_, rfl, (Or.inl rfl)⟩) (by decide)
                have t316 := ob_f.ne t237 e308 E314 (by decide)
                rw [E314]
                have L313 := okL_eq l315 L235
                refine k_aload 118 rfl (gs_ne rfl rfl (gs_ne rfl rfl (gs_ne rfl rfl g0))) rfl ?_
                obtain ⟨fs317, u318, e319, f320, t321⟩ := I312.1.get o0 (k := 2) rfl rfl
                obtain ⟨i322, rfl, o323⟩ := t321
                refine k_get 121 rfl e319 f320 rfl ?_
                refine k_astore 123 rfl rfl ?_
                refine k_aload 124 rfl (gs_ne rfl rfl (gs_ne rfl rfl (gs_ne rfl rfl (gs_ne rfl rfl g0)))) rfl ?_
                refine k_aload 125 rfl (gs_ne rfl rfl (gs_ne rfl rfl (gs_ne rfl rfl (gs_ne rfl rfl g0)))) rfl ?_
                obtain ⟨fs324, u325, e326, f327, t328⟩ := I312.1.get o0 (k := 3) rfl rfl
                obtain ⟨i329, rfl, o330⟩ := t328
                refine k_get 128 rfl e326 f327 rfl ?_
                obtain ⟨fs331, u332, e333, f334, t335⟩ := I312.1.get o0 (k := 2) rfl rfl
                refine k_put 131 rfl e333 rfl (List.getElem?_eq_some_iff.mp f334).1 rfl ?_
                obtain ⟨h336, E339, I337, l340⟩ := I312.put (v := .inr (.inr (some i329))) o0 rfl e333 (k := 2) rfl (show ty_V 5 (.inr (.inr (some i329))) from ⟨_, rfl, o330⟩) (by decide)
                have t341 := ob_f.ne t316 e333 E339 (by decide)
                rw [E339]
                have L338 := okL_eq l340 (okL_set (i := 6) (v := .inr (.inr (some i322))) (ob_okR I312 o323) L313)
                refine k_aload 132 rfl (gs_ne rfl rfl (gs_ne rfl rfl (gs_ne rfl rfl (gs_ne rfl rfl g0)))) rfl ?_
                refine k_aload 134 rfl gs_eq rfl ?_
                obtain ⟨fs342, u343, e344, f345, t346⟩ := I337.1.get o0 (k := 3) rfl rfl
                refine k_put 137 rfl e344 rfl (List.getElem?_eq_some_iff.mp f345).1 rfl ?_
                obtain ⟨h347, E350, I348, l351⟩ := I337.put (v := .inr (.inr (some i322))) o0 rfl e344 (k := 3) rfl (show ty_V 5 (.inr (.inr (some i322))) from ⟨_, rfl, o323⟩) (by decide)
                have t352 := ob_f.ne t341 e344 E350 (by decide)
                rw [E350]
                have L349 := okL_eq l351 L338
                refine k_aload 138 rfl (gs_ne rfl rfl (gs_ne rfl rfl (gs_ne rfl rfl (gs_ne rfl rfl g0)))) rfl ?_
                refine k_dup 139 rfl rfl rfl ?_
                obtain ⟨fs353, u354, e355, f356, t357⟩ := I348.1.get o0 (k := 4) rfl rfl
                obtain rfl : u354 = .inl xf := ob_f.get t352 e355 f356
                refine k_get 142 rfl e355 f356 rfl ?_
                refine k_push 143 rfl rfl ?_
                obtain ⟨x358, q359⟩ : ∃ q : Int32, q = (xf + (1 : Int32)) := ⟨_, rfl⟩
                refine k_bin x358 144 rfl q359.symm rfl ?_
                obtain ⟨fs360, u361, e362, f363, t364⟩ := I348.1.get o0 (k := 4) rfl rfl
                refine k_put 147 rfl e362 rfl (List.getElem?_eq_some_iff.mp f363).1 rfl ?_
                obtain ⟨h365, E368, I366, l369⟩ := I348.put (v := .inl x358) o0 rfl e362 (k := 4) rfl (show ty_V 0 (.inl x358) from ⟨_, rfl⟩) (by decide)
                have t370 := ob_f.put e362 f363 E368
                rw [E368]
                have L367 := okL_eq l369 L349
                refine k_goto 18 rfl rfl ?_
                exact ih _ (by rw [← hn]; exact (by rw [q359]; exact up_lt b6)) rfl t370 (gs_ne rfl rfl (gs_ne rfl rfl (gs_ne rfl rfl (gs_ne rfl rfl g0)))) o0 (gs_ne rfl rfl (gs_ne rfl rfl (gs_ne rfl rfl (gs_ne rfl rfl g1)))) o1 (gs_ne rfl rfl (gs_ne rfl rfl (gs_ne rfl rfl (gs_ne rfl rfl g2)))) L367 I366
      · refine k_c1 150 rfl rfl (if_neg b14) ?_
        exact k_fin rfl rfl ⟨⟨_, rfl, rfl⟩, hI⟩
theorem b_X2_workOff {B : Nat} {h0 : am_h} {lv : am_l} {h : am_h} {c s : Nat} {v0 : Nat} {v1 : Nat} {v2 : Int32} (g0 : am_get lv 0 = some (.inr (.inr (some v0)))) (o0 : ob 2 v0) (g1 : am_get lv 1 = some (.inr (.inr (some v1)))) (o1 : ob 3 v1) (g2 : am_get lv 2 = some (.inl v2)) (hL : am_okL h.length lv = true) (hI : ob_I w_X2_workOff B h0 h c s) : am_Ok am_G 5 41 (0, lv, [], h, c, s) (ty_Q w_X2_workOff 0 B h0) := by
  refine k_aload 1 rfl g0 rfl ?_
  obtain ⟨fs371, u372, e373, f374, t375⟩ := hI.1.get o0 (k := 2) rfl rfl
  obtain ⟨i376, rfl, o377⟩ := t375
  refine k_get 4 rfl e373 f374 rfl ?_
  refine k_aload 5 rfl g1 rfl ?_
  refine k_cl (W' := []) rfl (rw_copy hI.1 o377 o1) rfl rfl rfl (hI.1.rc3 (Or.inl o377)) hI (by decide) hL so_n ?_
  rintro w378 h379 c380 s381 hv I382 L383 F384
  cases hv
  show am_Ok _ _ _ (8, _, [], h379, c380, s381) _
  refine k_aload 9 rfl g0 rfl ?_
  refine k_push 10 rfl rfl ?_
  obtain ⟨fs385, u386, e387, f388, t389⟩ := I382.1.get o0 (k := 4) rfl rfl
  refine k_put 13 rfl e387 rfl (List.getElem?_eq_some_iff.mp f388).1 rfl ?_
  obtain ⟨h390, E393, I391, l394⟩ := I382.put (v := .inl (0 : Int32)) o0 rfl e387 (k := 4) rfl (show ty_V 0 (.inl (0 : Int32)) from ⟨_, rfl⟩) (by decide)
  rw [E393]
  have L392 := okL_eq l394 L383
  refine k_aload 14 rfl g0 rfl ?_
  refine k_push 15 rfl rfl ?_
  obtain ⟨fs395, u396, e397, f398, t399⟩ := I391.1.get o0 (k := 5) rfl rfl
  refine k_put 18 rfl e397 (okZ_of (Or.inl rfl)) (List.getElem?_eq_some_iff.mp f398).1 rfl ?_
  obtain ⟨h400, E403, I401, l404⟩ := I391.put (v := .inl (0 : Int32)) o0 rfl e397 (k := 5) rfl (show ty_V 1 (.inl (0 : Int32)) from ⟨_, rfl, (Or.inl rfl)⟩) (by decide)
  rw [E403]
  have L402 := okL_eq l404 L392
  obtain ⟨x405, t406⟩ := I401.1.fld o0 (k := 4) rfl rfl
  exact b_X2_workOff_18 _ rfl t406 g0 o0 g1 o1 g2 L402 I401
theorem c_X2_workOff {h : am_h} {v0 : Nat} {v1 : Nat} {v2 : Int32} (hT : ty_H h) (o0 : ob 2 v0) (o1 : ob 3 v1) : am_Mt 6 41 [.inr (.inr (some v0)), .inr (.inr (some v1)), .inl v2] h (ty_Q w_X2_workOff 0 (ob_P h) h) := am_Mt.of (b_X2_workOff rfl o0 rfl o1 rfl (okA_r hT o0 (okA_r hT o1 (okA_i okA_n))) (ob_I.start hT))
end
