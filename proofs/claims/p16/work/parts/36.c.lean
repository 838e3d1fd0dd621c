section
abbrev w_X9_feedNumber : List (Nat × Nat) := [(11, 0), (11, 1), (11, 2)]
abbrev w_X9_feed : List (Nat × Nat) := [(11, 0), (11, 1), (11, 2)]
abbrev w_X9_forget : List (Nat × Nat) := [(9, 17)]
theorem b_X9_forget {B : Nat} {h0 : am_h} {lv : am_l} {h : am_h} {c s : Nat} {v0 : Nat} (g0 : am_get lv 0 = some (.inr (.inr (some v0)))) (o0 : ob 9 v0) (hL : am_okL h.length lv = true) (hI : ob_I w_X9_forget B h0 h c s) : am_Ok am_G 1 150 (0, lv, [], h, c, s) (ty_Q w_X9_forget 0 B h0) := by
  refine k_aload 1 rfl g0 rfl ?_
  refine k_push 2 rfl rfl ?_
  obtain ⟨fs1, u2, e3, f4, t5⟩ := hI.1.get o0 (k := 17) rfl rfl
  refine k_put 5 rfl e3 (okZ_of (Or.inl rfl)) (List.getElem?_eq_some_iff.mp f4).1 rfl ?_
  obtain ⟨h6, E9, I7, l10⟩ := hI.put (v := .inl (0 : Int32)) o0 rfl e3 (k := 17) rfl (show ty_V 1 (.inl (0 : Int32)) from ⟨_, rfl, (Or.inl rfl)⟩) (by decide) rfl
  rw [E9]
  have L8 := okL_eq l10 hL
  refine k_aload 6 rfl g0 rfl ?_
  obtain ⟨fs11, u12, e13, f14, t15⟩ := I7.1.get o0 (k := 9) rfl rfl
  obtain ⟨i16, rfl, o17⟩ := t15
  refine k_get 9 rfl e13 f14 rfl ?_
  refine k_push 11 rfl rfl ?_
  refine k_push 12 rfl rfl ?_
  refine k_cl (W' := []) rfl (rw_fill I7.1 o17) rfl rfl rfl (I7.1.rc3 (Or.inl o17)) I7 (by decide) L8 so_n ?_
  rintro w18 h19 c20 s21 hv I22 L23 F24
  cases hv
  show am_Ok _ _ _ (15, _, [], h19, c20, s21) _
  exact k_fin rfl rfl ⟨⟨_, rfl, rfl⟩, I22⟩
theorem c_X9_forget {h : am_h} {v0 : Nat} (hT : ty_H h) (o0 : ob 9 v0) : am_Mt 2 150 [.inr (.inr (some v0))] h (ty_Q w_X9_forget 0 (ob_P h) h) := am_Mt.of (b_X9_forget rfl o0 (okA_r hT o0 okA_n) (ob_I.start hT))
abbrev w_X9_beginAnew : List (Nat × Nat) := [(9, 14), (9, 17)]
theorem b_X9_beginAnew {B : Nat} {h0 : am_h} {lv : am_l} {h : am_h} {c s : Nat} {v0 : Nat} (g0 : am_get lv 0 = some (.inr (.inr (some v0)))) (o0 : ob 9 v0) (hL : am_okL h.length lv = true) (hI : ob_I w_X9_beginAnew B h0 h c s) : am_Ok am_G 2 149 (0, lv, [], h, c, s) (ty_Q w_X9_beginAnew 0 B h0) := by
  refine k_aload 1 rfl g0 rfl ?_
  obtain ⟨fs1, u2, e3, f4, t5⟩ := hI.1.get o0 (k := 8) rfl rfl
  obtain ⟨i6, rfl, o7⟩ := t5
  refine k_get 4 rfl e3 f4 rfl ?_
  refine k_push 6 rfl rfl ?_
  refine k_push 7 rfl rfl ?_
  refine k_cl (W' := []) rfl (rw_fill hI.1 o7) rfl rfl rfl (hI.1.rc3 (Or.inl o7)) hI (by decide) hL so_n ?_
  rintro w8 h9 c10 s11 hv I12 L13 F14
  cases hv
  show am_Ok _ _ _ (10, _, [], h9, c10, s11) _
  refine k_aload 11 rfl g0 rfl ?_
  refine k_aload 12 rfl g0 rfl ?_
  obtain ⟨fs15, u16, e17, f18, t19⟩ := I12.1.get o0 (k := 10) rfl rfl
  obtain ⟨i20, rfl, o21⟩ := t19
  refine k_get 15 rfl e17 f18 rfl ?_
  refine k_cl (W' := w_X1_size) rfl (c_X1_size I12.1 o21) rfl rfl rfl (I12.1.rc o21 rfl) I12 (by decide) L13 (so_r I12 o0 so_n) ?_
  rintro w22 h23 c24 s25 hv I26 L27 F28
  obtain ⟨_, rfl, x29, rfl⟩ := hv
  show am_Ok _ _ _ (18, _, [.inl x29, .inr (.inr (some v0))], h23, c24, s25) _
  obtain ⟨fs30, u31, e32, f33, t34⟩ := I26.1.get o0 (k := 14) rfl rfl
  refine k_put 21 rfl e32 rfl (List.getElem?_eq_some_iff.mp f33).1 rfl ?_
  obtain ⟨h35, E38, I36, l39⟩ := I26.put (v := .inl x29) o0 rfl e32 (k := 14) rfl (show ty_V 0 (.inl x29) from ⟨_, rfl⟩) (by decide) rfl
  rw [E38]
  have L37 := okL_eq l39 L27
  refine k_aload 22 rfl g0 rfl ?_
  refine k_cl (W' := w_X9_forget) rfl (c_X9_forget I36.1 o0) rfl rfl rfl (I36.1.rc o0 rfl) I36 (by decide) L37 so_n ?_
  rintro w40 h41 c42 s43 hv I44 L45 F46
  cases hv
  show am_Ok _ _ _ (25, _, [], h41, c42, s43) _
  exact k_fin rfl rfl ⟨⟨_, rfl, rfl⟩, I44⟩
theorem c_X9_beginAnew {h : am_h} {v0 : Nat} (hT : ty_H h) (o0 : ob 9 v0) : am_Mt 3 149 [.inr (.inr (some v0))] h (ty_Q w_X9_beginAnew 0 (ob_P h) h) := am_Mt.of (b_X9_beginAnew rfl o0 (okA_r hT o0 okA_n) (ob_I.start hT))
abbrev w_X9_takeProgram : List (Nat × Nat) := [(0, 3), (0, 4), (1, 4), (1, 5), (1, 6), (1, 7), (9, 10), (9, 11), (9, 14), (9, 16), (9, 17)]
abbrev w_X9_tell : List (Nat × Nat) := [(0, 3), (0, 4), (1, 4), (1, 5), (1, 6), (1, 7), (6, 6), (6, 7), (6, 8), (6, 9), (6, 10), (6, 11), (7, 1), (7, 2), (7, 3), (9, 10), (9, 11), (9, 13), (9, 14), (9, 16), (9, 17), (11, 0), (11, 1), (11, 2)]
abbrev w_X9_fault : List (Nat × Nat) := []
theorem b_X9_fault {B : Nat} {h0 : am_h} {lv : am_l} {h : am_h} {c s : Nat} {v0 : Nat} (g0 : am_get lv 0 = some (.inr (.inr (some v0)))) (o0 : ob 9 v0) (hL : am_okL h.length lv = true) (hI : ob_I w_X9_fault B h0 h c s) : am_Ok am_G 0 132 (0, lv, [], h, c, s) (ty_Q w_X9_fault 2 B h0) := by
  refine k_aload 1 rfl g0 rfl ?_
  obtain ⟨fs1, u2, e3, f4, t5⟩ := hI.1.get o0 (k := 13) rfl rfl
  obtain ⟨x6, rfl⟩ := t5
  refine k_get 4 rfl e3 f4 rfl ?_
  exact k_fin rfl rfl ⟨⟨_, rfl, ⟨_, rfl, _, rfl⟩⟩, hI⟩
theorem c_X9_fault {h : am_h} {v0 : Nat} (hT : ty_H h) (o0 : ob 9 v0) : am_Mt 1 132 [.inr (.inr (some v0))] h (ty_Q w_X9_fault 2 (ob_P h) h) := am_Mt.of (b_X9_fault rfl o0 (okA_r hT o0 okA_n) (ob_I.start hT))
abbrev w_X9_again : List (Nat × Nat) := [(0, 3), (0, 4), (1, 4), (1, 5), (1, 6), (1, 7), (9, 14), (9, 17)]
theorem b_X9_again {B : Nat} {h0 : am_h} {lv : am_l} {h : am_h} {c s : Nat} {v0 : Nat} (g0 : am_get lv 0 = some (.inr (.inr (some v0)))) (o0 : ob 9 v0) (hL : am_okL h.length lv = true) (hI : ob_I w_X9_again B h0 h c s) : am_Ok am_G 5 133 (0, lv, [], h, c, s) (ty_Q w_X9_again 2 B h0) := by
  refine k_aload 1 rfl g0 rfl ?_
  obtain ⟨fs1, u2, e3, f4, t5⟩ := hI.1.get o0 (k := 10) rfl rfl
  obtain ⟨i6, rfl, o7⟩ := t5
  refine k_get 4 rfl e3 f4 rfl ?_
  refine k_cl (W' := w_X1_size) rfl (c_X1_size hI.1 o7) rfl rfl rfl (hI.1.rc o7 rfl) hI (by decide) hL so_n ?_
  rintro w8 h9 c10 s11 hv I12 L13 F14
  obtain ⟨_, rfl, x15, rfl⟩ := hv
  show am_Ok _ _ _ (7, _, [.inl x15], h9, c10, s11) _
  refine k_istore 8 rfl rfl ?_
  refine k_aload 9 rfl (gs_ne rfl rfl g0) rfl ?_
  obtain ⟨fs16, u17, e18, f19, t20⟩ := I12.1.get o0 (k := 12) rfl rfl
  obtain ⟨i21, rfl, o22⟩ := t20
  refine k_get 12 rfl e18 f19 rfl ?_
  refine k_aload 13 rfl (gs_ne rfl rfl g0) rfl ?_
  obtain ⟨fs23, u24, e25, f26, t27⟩ := I12.1.get o0 (k := 5) rfl rfl
  obtain ⟨i28, rfl, o29⟩ := t27
  refine k_get 16 rfl e25 f26 rfl ?_
  refine k_aload 17 rfl (gs_ne rfl rfl g0) rfl ?_
  obtain ⟨fs30, u31, e32, f33, t34⟩ := I12.1.get o0 (k := 10) rfl rfl
  obtain ⟨i35, rfl, o36⟩ := t34
  refine k_get 20 rfl e32 f33 rfl ?_
  refine k_cl (W' := w_X0_lay) rfl (c_X0_lay I12.1 o22 (Or.inr o29) o36) rfl rfl rfl (I12.1.rc o22 rfl) I12 (by decide) (okL_set (i := 1) (v := .inl x15) rfl L13) so_n ?_
  rintro w37 h38 c39 s40 hv I41 L42 F43
  obtain ⟨_, rfl, x44, rfl, z45⟩ := hv
  show am_Ok _ _ _ (23, _, [.inl x44], h38, c39, s40) _
  refine k_pop 24 rfl rfl rfl ?_
  refine k_aload 25 rfl (gs_ne rfl rfl g0) rfl ?_
  refine k_cl (W' := w_X9_beginAnew) rfl (c_X9_beginAnew I41.1 o0) rfl rfl rfl (I41.1.rc o0 rfl) I41 (by decide) L42 so_n ?_
  rintro w46 h47 c48 s49 hv I50 L51 F52
  cases hv
  show am_Ok _ _ _ (28, _, [], h47, c48, s49) _
  refine k_iload 29 rfl gs_eq rfl ?_
  exact k_fin rfl rfl ⟨⟨_, rfl, ⟨_, rfl, _, rfl⟩⟩, I50⟩
theorem c_X9_again {h : am_h} {v0 : Nat} (hT : ty_H h) (o0 : ob 9 v0) : am_Mt 6 133 [.inr (.inr (some v0))] h (ty_Q w_X9_again 2 (ob_P h) h) := am_Mt.of (b_X9_again rfl o0 (okA_r hT o0 okA_n) (ob_I.start hT))
abbrev w_X9_noteStep : List (Nat × Nat) := [(9, 14), (9, 17)]
theorem b_X9_noteStep {B : Nat} {h0 : am_h} {lv : am_l} {h : am_h} {c s : Nat} {v0 : Nat} {v1 : Int32} (g0 : am_get lv 0 = some (.inr (.inr (some v0)))) (o0 : ob 9 v0) (g1 : am_get lv 1 = some (.inl v1)) (hL : am_okL h.length lv = true) (hI : ob_I w_X9_noteStep B h0 h c s) : am_Ok am_G 2 151 (0, lv, [], h, c, s) (ty_Q w_X9_noteStep 0 B h0) := by
  refine k_iload 1 rfl g1 rfl ?_
  by_cases b1 : v1 ≤ 0
  · refine k_c1 62 rfl rfl (if_pos b1) ?_
    exact k_fin rfl rfl ⟨⟨_, rfl, rfl⟩, hI⟩
  · refine k_c1 4 rfl rfl (if_neg b1) ?_
    refine k_aload 5 rfl g0 rfl ?_
    obtain ⟨fs2, u3, e4, f5, t6⟩ := hI.1.get o0 (k := 8) rfl rfl
    obtain ⟨i7, rfl, o8⟩ := t6
    refine k_get 8 rfl e4 f5 rfl ?_
    refine k_push 9 rfl rfl ?_
    refine k_aload 10 rfl g0 rfl ?_
    obtain ⟨fs9, u10, e11, f12, t13⟩ := hI.1.get o0 (k := 8) rfl rfl
    obtain ⟨i14, rfl, o15⟩ := t13
    refine k_get 13 rfl e11 f12 rfl ?_
    refine k_push 14 rfl rfl ?_
    refine k_cl (W' := []) rfl (rw_get hI.1 (Or.inl o15)) rfl rfl rfl (hI.1.rc3 (Or.inl o15)) hI (by decide) hL (so_i (so_r hI o8 so_n)) ?_
    rintro w16 h17 c18 s19 hv I20 L21 F22
    obtain ⟨_, rfl, x23, rfl⟩ := hv
    show am_Ok _ _ _ (17, _, [.inl x23, .inl (0 : Int32), .inr (.inr (some i7))], h17, c18, s19) _
    refine k_push 18 rfl rfl ?_
    obtain ⟨x24, q25⟩ : ∃ q : Int32, q = (x23 + (1 : Int32)) := ⟨_, rfl⟩
    refine k_bin x24 19 rfl q25.symm rfl ?_
    refine k_cl (W' := []) rfl (rw_set I20.1 o8) rfl rfl rfl (I20.1.rc3 (Or.inl o8)) I20 (by decide) L21 so_n ?_
    rintro w26 h27 c28 s29 hv I30 L31 F32
    cases hv
    show am_Ok _ _ _ (22, _, [], h27, c28, s29) _
    refine k_aload 23 rfl g0 rfl ?_
    obtain ⟨fs33, u34, e35, f36, t37⟩ := I30.1.get o0 (k := 8) rfl rfl
    obtain ⟨i38, rfl, o39⟩ := t37
    refine k_get 26 rfl e35 f36 rfl ?_
    refine k_iload 27 rfl g1 rfl ?_
    refine k_aload 28 rfl g0 rfl ?_
    obtain ⟨fs40, u41, e42, f43, t44⟩ := I30.1.get o0 (k := 8) rfl rfl
    obtain ⟨i45, rfl, o46⟩ := t44
    refine k_get 31 rfl e42 f43 rfl ?_
    refine k_iload 32 rfl g1 rfl ?_
    refine k_cl (W' := []) rfl (rw_get I30.1 (Or.inl o46)) rfl rfl rfl (I30.1.rc3 (Or.inl o46)) I30 (by decide) L31 (so_i (so_r I30 o39 so_n)) ?_
    rintro w47 h48 c49 s50 hv I51 L52 F53
    obtain ⟨_, rfl, x54, rfl⟩ := hv
    show am_Ok _ _ _ (35, _, [.inl x54, .inl v1, .inr (.inr (some i38))], h48, c49, s50) _
    refine k_push 36 rfl rfl ?_
    obtain ⟨x55, q56⟩ : ∃ q : Int32, q = (x54 + (1 : Int32)) := ⟨_, rfl⟩
    refine k_bin x55 37 rfl q56.symm rfl ?_
    refine k_cl (W' := []) rfl (rw_set I51.1 o39) rfl rfl rfl (I51.1.rc3 (Or.inl o39)) I51 (by decide) L52 so_n ?_
    rintro w57 h58 c59 s60 hv I61 L62 F63
    cases hv
    show am_Ok _ _ _ (40, _, [], h58, c59, s60) _
    refine k_aload 41 rfl g0 rfl ?_
    refine k_aload 42 rfl g0 rfl ?_
    obtain ⟨fs64, u65, e66, f67, t68⟩ := I61.1.get o0 (k := 14) rfl rfl
    obtain ⟨x69, rfl⟩ := t68
    refine k_get 45 rfl e66 f67 rfl ?_
    refine k_aload 46 rfl g0 rfl ?_
    obtain ⟨fs70, u71, e72, f73, t74⟩ := I61.1.get o0 (k := 10) rfl rfl
    obtain ⟨i75, rfl, o76⟩ := t74
    refine k_get 49 rfl e72 f73 rfl ?_
    refine k_cl (W' := w_X1_size) rfl (c_X1_size I61.1 o76) rfl rfl rfl (I61.1.rc o76 rfl) I61 (by decide) L62 (so_i (so_r I61 o0 so_n)) ?_
    rintro w77 h78 c79 s80 hv I81 L82 F83
    obtain ⟨_, rfl, x84, rfl⟩ := hv
    show am_Ok _ _ _ (52, _, [.inl x84, .inl x69, .inr (.inr (some v0))], h78, c79, s80) _
    obtain ⟨x85, q86⟩ : ∃ q : Int32, q = (if x69 < x84 then x84 else x69) := ⟨_, rfl⟩
    refine k_mathZ x85 55 rfl rfl q86.symm rfl ?_
    obtain ⟨fs87, u88, e89, f90, t91⟩ := I81.1.get o0 (k := 14) rfl rfl
    refine k_put 58 rfl e89 rfl (List.getElem?_eq_some_iff.mp f90).1 rfl ?_
    obtain ⟨h92, E95, I93, l96⟩ := I81.put (v := .inl x85) o0 rfl e89 (k := 14) rfl (show ty_V 0 (.inl x85) from ⟨_, rfl⟩) (by decide) rfl
    rw [E95]
    have L94 := okL_eq l96 L82
    refine k_aload 59 rfl g0 rfl ?_
    refine k_cl (W' := w_X9_forget) rfl (c_X9_forget I93.1 o0) rfl rfl rfl (I93.1.rc o0 rfl) I93 (by decide) L94 so_n ?_
    rintro w97 h98 c99 s100 hv I101 L102 F103
    cases hv
    show am_Ok _ _ _ (62, _, [], h98, c99, s100) _
    exact k_fin rfl rfl ⟨⟨_, rfl, rfl⟩, I101⟩
theorem c_X9_noteStep {h : am_h} {v0 : Nat} {v1 : Int32} (hT : ty_H h) (o0 : ob 9 v0) : am_Mt 3 151 [.inr (.inr (some v0)), .inl v1] h (ty_Q w_X9_noteStep 0 (ob_P h) h) := am_Mt.of (b_X9_noteStep rfl o0 rfl (okA_r hT o0 (okA_i okA_n)) (ob_I.start hT))
abbrev w_X9_refuseOtherWays : List (Nat × Nat) := []
theorem b_X9_refuseOtherWays {B : Nat} {h0 : am_h} {lv : am_l} {h : am_h} {c s : Nat} {v0 : Int32} (g0 : am_get lv 0 = some (.inl v0)) (hL : am_okL h.length lv = true) (hI : ob_I w_X9_refuseOtherWays B h0 h c s) : am_Ok am_G 0 156 (0, lv, [], h, c, s) (ty_QX w_X9_refuseOtherWays 0 [0] B h0) := by
  refine k_iload 1 rfl g0 rfl ?_
  by_cases b1 : v0 < 0
  · refine k_c1 9 rfl rfl (if_pos b1) ?_
    exact k_fin rfl rfl (Or.inr ⟨_, rfl, by decide, ob_I.thr hI⟩)
  · refine k_c1 4 rfl rfl (if_neg b1) ?_
    refine k_iload 5 rfl g0 rfl ?_
    refine k_push 6 rfl rfl ?_
    by_cases b2 : v0 ≤ (2 : Int32)
    · refine k_c2 20 rfl rfl (if_pos b2) ?_
      exact k_fin rfl rfl (Or.inl ⟨_, rfl, rfl, hI⟩)
    · refine k_c2 9 rfl rfl (if_neg b2) ?_
      exact k_fin rfl rfl (Or.inr ⟨_, rfl, by decide, ob_I.thr hI⟩)
theorem c_X9_refuseOtherWays {h : am_h} {v0 : Int32} (hT : ty_H h)  : am_Mt 1 156 [.inl v0] h (ty_QX w_X9_refuseOtherWays 0 [0] (ob_P h) h) := am_Mt.of (b_X9_refuseOtherWays rfl (okA_i okA_n) (ob_I.start hT))
abbrev w_X9_workOn : List (Nat × Nat) := [(1, 4), (1, 5), (1, 6), (1, 7), (8, 5), (8, 6), (8, 7), (8, 8), (9, 17)]
theorem b_X9_workOn {B : Nat} {h0 : am_h} {lv : am_l} {h : am_h} {c s : Nat} {v0 : Nat} {v1 : Nat} {v2 : Int32} (g0 : am_get lv 0 = some (.inr (.inr (some v0)))) (o0 : ob 9 v0) (g1 : am_get lv 1 = some (.inr (.inr (some v1)))) (o1 : ob 1 v1) (g2 : am_get lv 2 = some (.inl v2)) (hL : am_okL h.length lv = true) (hI : ob_I w_X9_workOn B h0 h c s) : am_Ok am_G 6 152 (0, lv, [], h, c, s) (ty_Q w_X9_workOn 2 B h0) := by
  refine k_iload 1 rfl g2 rfl ?_
  by_cases b1 : v2 = 0
  · refine k_c1 4 rfl rfl (if_pos b1) ?_
    refine k_aload 5 rfl g1 rfl ?_
    refine k_aload 6 rfl g0 rfl ?_
    obtain ⟨fs2, u3, e4, f5, t6⟩ := hI.1.get o0 (k := 10) rfl rfl
    obtain ⟨i7, rfl, o8⟩ := t6
    refine k_get 9 rfl e4 f5 rfl ?_
    by_cases b9 : (some v1 : Option Nat) = some i7
    · refine k_acmp 12 rfl (ob_il hI o8) (ob_il hI o1) (ob_ne0 o8) (ob_ne0 o1) (if_pos b9) ?_
      refine k_aload 13 rfl g0 rfl ?_
      obtain ⟨fs10, u11, e12, f13, t14⟩ := hI.1.get o0 (k := 17) rfl rfl
      obtain ⟨x15, rfl, z16⟩ := t14
      refine k_get 16 rfl e12 f13 rfl ?_
      by_cases b17 : x15 = 0
      · refine k_c1 19 rfl rfl (if_pos b17) ?_
        refine k_aload 20 rfl g0 rfl ?_
        obtain ⟨fs18, u19, e20, f21, t22⟩ := hI.1.get o0 (k := 2) rfl rfl
        obtain ⟨i23, rfl, o24⟩ := t22
        refine k_get 23 rfl e20 f21 rfl ?_
        refine k_aload 24 rfl g1 rfl ?_
        refine k_push 25 rfl rfl ?_
        refine k_cl (W' := w_X8_go) rfl (c_X8_go hI.1 o24 o1) rfl rfl rfl (hI.1.rc o24 rfl) hI (by decide) hL so_n ?_
        rintro w25 h26 c27 s28 hv I29 L30 F31
        cases hv
        show am_Ok _ _ _ (28, _, [], h26, c27, s28) _
        refine k_aload 29 rfl g0 rfl ?_
        refine k_push 30 rfl rfl ?_
        obtain ⟨fs32, u33, e34, f35, t36⟩ := I29.1.get o0 (k := 17) rfl rfl
        refine k_put 33 rfl e34 (okZ_of (Or.inl rfl)) (List.getElem?_eq_some_iff.mp f35).1 rfl ?_
        obtain ⟨h37, E40, I38, l41⟩ := I29.put (v := .inl (0 : Int32)) o0 rfl e34 (k := 17) rfl (show ty_V 1 (.inl (0 : Int32)) from ⟨_, rfl, (Or.inl rfl)⟩) (by decide) rfl
        rw [E40]
        have L39 := okL_eq l41 L30
        refine k_aload 34 rfl g0 rfl ?_
        obtain ⟨fs42, u43, e44, f45, t46⟩ := I38.1.get o0 (k := 2) rfl rfl
        obtain ⟨i47, rfl, o48⟩ := t46
        refine k_get 37 rfl e44 f45 rfl ?_
        refine k_cl (W' := w_X8_wantedNode) rfl (c_X8_wantedNode I38.1 o48) rfl rfl rfl (I38.1.rc o48 rfl) I38 (by decide) L39 so_n ?_
        rintro w49 h50 c51 s52 hv I53 L54 F55
        obtain ⟨_, rfl, x56, rfl⟩ := hv
        show am_Ok _ _ _ (40, _, [.inl x56], h50, c51, s52) _
        refine k_istore 41 rfl rfl ?_
        refine k_goto 61 rfl rfl ?_
        refine k_iload 62 rfl gs_eq rfl ?_
        refine k_push 63 rfl rfl ?_
        by_cases b57 : x56 = (-1 : Int32)
        · refine k_c2 66 rfl rfl (if_pos b57) ?_
          refine k_push 67 rfl rfl ?_
          refine k_goto 75 rfl rfl ?_
          exact k_fin rfl rfl ⟨⟨_, rfl, ⟨_, rfl, _, rfl⟩⟩, I53⟩
        · refine k_c2 70 rfl rfl (if_neg b57) ?_
          refine k_aload 71 rfl (gs_ne rfl rfl g1) rfl ?_
          refine k_iload 72 rfl gs_eq rfl ?_
          refine k_cl (W' := w_X1_workOff) rfl (c_X1_workOff I53.1 o1) rfl rfl rfl (I53.1.rc o1 rfl) I53 (by decide) (okL_set (i := 3) (v := .inl x56) rfl L54) so_n ?_
          rintro w58 h59 c60 s61 hv I62 L63 F64
          obtain ⟨_, rfl, x65, rfl⟩ := hv
          show am_Ok _ _ _ (75, _, [.inl x65], h59, c60, s61) _
          exact k_fin rfl rfl ⟨⟨_, rfl, ⟨_, rfl, _, rfl⟩⟩, I62⟩
      · refine k_c1 33 rfl rfl (if_neg b17) ?_
        refine k_aload 34 rfl g0 rfl ?_
        obtain ⟨fs66, u67, e68, f69, t70⟩ := hI.1.get o0 (k := 2) rfl rfl
        obtain ⟨i71, rfl, o72⟩ := t70
        refine k_get 37 rfl e68 f69 rfl ?_
        refine k_cl (W' := w_X8_wantedNode) rfl (c_X8_wantedNode hI.1 o72) rfl rfl rfl (hI.1.rc o72 rfl) hI (by decide) hL so_n ?_
        rintro w73 h74 c75 s76 hv I77 L78 F79
        obtain ⟨_, rfl, x80, rfl⟩ := hv
        show am_Ok _ _ _ (40, _, [.inl x80], h74, c75, s76) _
        refine k_istore 41 rfl rfl ?_
        refine k_goto 61 rfl rfl ?_
        refine k_iload 62 rfl gs_eq rfl ?_
        refine k_push 63 rfl rfl ?_
        by_cases b81 : x80 = (-1 : Int32)
        · refine k_c2 66 rfl rfl (if_pos b81) ?_
          refine k_push 67 rfl rfl ?_
          refine k_goto 75 rfl rfl ?_
          exact k_fin rfl rfl ⟨⟨_, rfl, ⟨_, rfl, _, rfl⟩⟩, I77⟩
        · refine k_c2 70 rfl rfl (if_neg b81) ?_
          refine k_aload 71 rfl (gs_ne rfl rfl g1) rfl ?_
          refine k_iload 72 rfl gs_eq rfl ?_
          refine k_cl (W' := w_X1_workOff) rfl (c_X1_workOff I77.1 o1) rfl rfl rfl (I77.1.rc o1 rfl) I77 (by decide) (okL_set (i := 3) (v := .inl x80) rfl L78) so_n ?_
          rintro w82 h83 c84 s85 hv I86 L87 F88
          obtain ⟨_, rfl, x89, rfl⟩ := hv
          show am_Ok _ _ _ (75, _, [.inl x89], h83, c84, s85) _
          exact k_fin rfl rfl ⟨⟨_, rfl, ⟨_, rfl, _, rfl⟩⟩, I86⟩
    · refine k_acmp 19 rfl (ob_il hI o8) (ob_il hI o1) (ob_ne0 o8) (ob_ne0 o1) (if_neg b9) ?_
      refine k_aload 20 rfl g0 rfl ?_
      obtain ⟨fs90, u91, e92, f93, t94⟩ := hI.1.get o0 (k := 2) rfl rfl
      obtain ⟨i95, rfl, o96⟩ := t94
      refine k_get 23 rfl e92 f93 rfl ?_
      refine k_aload 24 rfl g1 rfl ?_
      refine k_push 25 rfl rfl ?_
      refine k_cl (W' := w_X8_go) rfl (c_X8_go hI.1 o96 o1) rfl rfl rfl (hI.1.rc o96 rfl) hI (by decide) hL so_n ?_
      rintro w97 h98 c99 s100 hv I101 L102 F103
      cases hv
      show am_Ok _ _ _ (28, _, [], h98, c99, s100) _
      refine k_aload 29 rfl g0 rfl ?_
      refine k_push 30 rfl rfl ?_
      obtain ⟨fs104, u105, e106, f107, t108⟩ := I101.1.get o0 (k := 17) rfl rfl
      refine k_put 33 rfl e106 (okZ_of (Or.inl rfl)) (List.getElem?_eq_some_iff.mp f107).1 rfl ?_
      obtain ⟨h109, E112, I110, l113⟩ := I101.put (v := .inl (0 : Int32)) o0 rfl e106 (k := 17) rfl (show ty_V 1 (.inl (0 : Int32)) from ⟨_, rfl, (Or.inl rfl)⟩) (by decide) rfl
      rw [E112]
      have L111 := okL_eq l113 L102
      refine k_aload 34 rfl g0 rfl ?_
      obtain ⟨fs114, u115, e116, f117, t118⟩ := I110.1.get o0 (k := 2) rfl rfl
      obtain ⟨i119, rfl, o120⟩ := t118
      refine k_get 37 rfl e116 f117 rfl ?_
      refine k_cl (W' := w_X8_wantedNode) rfl (c_X8_wantedNode I110.1 o120) rfl rfl rfl (I110.1.rc o120 rfl) I110 (by decide) L111 so_n ?_
      rintro w121 h122 c123 s124 hv I125 L126 F127
      obtain ⟨_, rfl, x128, rfl⟩ := hv
      show am_Ok _ _ _ (40, _, [.inl x128], h122, c123, s124) _
      refine k_istore 41 rfl rfl ?_
      refine k_goto 61 rfl rfl ?_
      refine k_iload 62 rfl gs_eq rfl ?_
      refine k_push 63 rfl rfl ?_
      by_cases b129 : x128 = (-1 : Int32)
      · refine k_c2 66 rfl rfl (if_pos b129) ?_
        refine k_push 67 rfl rfl ?_
        refine k_goto 75 rfl rfl ?_
        exact k_fin rfl rfl ⟨⟨_, rfl, ⟨_, rfl, _, rfl⟩⟩, I125⟩
      · refine k_c2 70 rfl rfl (if_neg b129) ?_
        refine k_aload 71 rfl (gs_ne rfl rfl g1) rfl ?_
        refine k_iload 72 rfl gs_eq rfl ?_
        refine k_cl (W' := w_X1_workOff) rfl (c_X1_workOff I125.1 o1) rfl rfl rfl (I125.1.rc o1 rfl) I125 (by decide) (okL_set (i := 3) (v := .inl x128) rfl L126) so_n ?_
        rintro w130 h131 c132 s133 hv I134 L135 F136
        obtain ⟨_, rfl, x137, rfl⟩ := hv
        show am_Ok _ _ _ (75, _, [.inl x137], h131, c132, s133) _
        exact k_fin rfl rfl ⟨⟨_, rfl, ⟨_, rfl, _, rfl⟩⟩, I134⟩
  · refine k_c1 44 rfl rfl (if_neg b1) ?_
    refine k_iload 45 rfl g2 rfl ?_
    refine k_push 46 rfl rfl ?_
    by_cases b138 : v2 = (1 : Int32)
    · refine k_c2 49 rfl rfl (if_pos b138) ?_
      refine k_aload 50 rfl g1 rfl ?_
      refine k_cl (W' := w_X1_leastActive) rfl (c_X1_leastActive hI.1 o1) rfl rfl rfl (hI.1.rc o1 rfl) hI (by decide) hL so_n ?_
      rintro w139 h140 c141 s142 hv I143 L144 F145
      obtain ⟨_, rfl, x146, rfl⟩ := hv
      show am_Ok _ _ _ (53, _, [.inl x146], h140, c141, s142) _
      refine k_goto 60 rfl rfl ?_
      refine k_istore 61 rfl rfl ?_
      refine k_iload 62 rfl gs_eq rfl ?_
      refine k_push 63 rfl rfl ?_
      by_cases b147 : x146 = (-1 : Int32)
      · refine k_c2 66 rfl rfl (if_pos b147) ?_
        refine k_push 67 rfl rfl ?_
        refine k_goto 75 rfl rfl ?_
        exact k_fin rfl rfl ⟨⟨_, rfl, ⟨_, rfl, _, rfl⟩⟩, I143⟩
      · refine k_c2 70 rfl rfl (if_neg b147) ?_
        refine k_aload 71 rfl (gs_ne rfl rfl g1) rfl ?_
        refine k_iload 72 rfl gs_eq rfl ?_
        refine k_cl (W' := w_X1_workOff) rfl (c_X1_workOff I143.1 o1) rfl rfl rfl (I143.1.rc o1 rfl) I143 (by decide) (okL_set (i := 3) (v := .inl x146) rfl L144) so_n ?_
        rintro w148 h149 c150 s151 hv I152 L153 F154
        obtain ⟨_, rfl, x155, rfl⟩ := hv
        show am_Ok _ _ _ (75, _, [.inl x155], h149, c150, s151) _
        exact k_fin rfl rfl ⟨⟨_, rfl, ⟨_, rfl, _, rfl⟩⟩, I152⟩
    · refine k_c2 56 rfl rfl (if_neg b138) ?_
      refine k_aload 57 rfl g1 rfl ?_
      refine k_cl (W' := w_X1_greatestActive) rfl (c_X1_greatestActive hI.1 o1) rfl rfl rfl (hI.1.rc o1 rfl) hI (by decide) hL so_n ?_
      rintro w156 h157 c158 s159 hv I160 L161 F162
      obtain ⟨_, rfl, x163, rfl⟩ := hv
      show am_Ok _ _ _ (60, _, [.inl x163], h157, c158, s159) _
      refine k_istore 61 rfl rfl ?_
      refine k_iload 62 rfl gs_eq rfl ?_
      refine k_push 63 rfl rfl ?_
      by_cases b164 : x163 = (-1 : Int32)
      · refine k_c2 66 rfl rfl (if_pos b164) ?_
        refine k_push 67 rfl rfl ?_
        refine k_goto 75 rfl rfl ?_
        exact k_fin rfl rfl ⟨⟨_, rfl, ⟨_, rfl, _, rfl⟩⟩, I160⟩
      · refine k_c2 70 rfl rfl (if_neg b164) ?_
        refine k_aload 71 rfl (gs_ne rfl rfl g1) rfl ?_
        refine k_iload 72 rfl gs_eq rfl ?_
        refine k_cl (W' := w_X1_workOff) rfl (c_X1_workOff I160.1 o1) rfl rfl rfl (I160.1.rc o1 rfl) I160 (by decide) (okL_set (i := 3) (v := .inl x163) rfl L161) so_n ?_
        rintro w165 h166 c167 s168 hv I169 L170 F171
        obtain ⟨_, rfl, x172, rfl⟩ := hv
        show am_Ok _ _ _ (75, _, [.inl x172], h166, c167, s168) _
        exact k_fin rfl rfl ⟨⟨_, rfl, ⟨_, rfl, _, rfl⟩⟩, I169⟩
theorem c_X9_workOn {h : am_h} {v0 : Nat} {v1 : Nat} {v2 : Int32} (hT : ty_H h) (o0 : ob 9 v0) (o1 : ob 1 v1) : am_Mt 7 152 [.inr (.inr (some v0)), .inr (.inr (some v1)), .inl v2] h (ty_Q w_X9_workOn 2 (ob_P h) h) := am_Mt.of (b_X9_workOn rfl o0 rfl o1 rfl (okA_r hT o0 (okA_r hT o1 (okA_i okA_n))) (ob_I.start hT))
abbrev w_X9_step : List (Nat × Nat) := [(1, 4), (1, 5), (1, 6), (1, 7), (8, 5), (8, 6), (8, 7), (8, 8), (9, 14), (9, 17)]
theorem b_X9_step {B : Nat} {h0 : am_h} {lv : am_l} {h : am_h} {c s : Nat} {v0 : Nat} {v1 : Int32} (g0 : am_get lv 0 = some (.inr (.inr (some v0)))) (o0 : ob 9 v0) (g1 : am_get lv 1 = some (.inl v1)) (hL : am_okL h.length lv = true) (hI : ob_I w_X9_step B h0 h c s) : am_Ok am_G 7 134 (0, lv, [], h, c, s) (ty_QX w_X9_step 2 [0] B h0) := by
  refine k_iload 1 rfl g1 rfl ?_
  refine k_clX (W' := w_X9_refuseOtherWays) rfl (c_X9_refuseOtherWays hI.1 ) rfl rfl rfl rfl hI (by decide) hL so_n rfl ?_ ?_
  · exact fun e8 h2 c3 s4 he hI9 => ⟨rfl, rfl, Or.inr ⟨_, rfl, (thr_sub (by decide) he), hI9⟩⟩
  rintro w1 h2 c3 s4 hv I5 L6 F7
  cases hv
  show am_Ok _ _ _ (4, _, [], h2, c3, s4) _
  refine k_aload 5 rfl g0 rfl ?_
  refine k_aload 6 rfl g0 rfl ?_
  obtain ⟨fs9, u10, e11, f12, t13⟩ := I5.1.get o0 (k := 10) rfl rfl
  obtain ⟨i14, rfl, o15⟩ := t13
  refine k_get 9 rfl e11 f12 rfl ?_
  refine k_iload 10 rfl g1 rfl ?_
  refine k_cl (W' := w_X9_workOn) rfl (c_X9_workOn I5.1 o0 o15) rfl rfl rfl (I5.1.rc o0 rfl) I5 (by decide) L6 so_n ?_
  rintro w16 h17 c18 s19 hv I20 L21 F22
  obtain ⟨_, rfl, x23, rfl⟩ := hv
  show am_Ok _ _ _ (13, _, [.inl x23], h17, c18, s19) _
  refine k_istore 14 rfl rfl ?_
  refine k_aload 15 rfl (gs_ne rfl rfl g0) rfl ?_
  refine k_iload 16 rfl gs_eq rfl ?_
  refine k_cl (W' := w_X9_noteStep) rfl (c_X9_noteStep I20.1 o0) rfl rfl rfl (I20.1.rc o0 rfl) I20 (by decide) (okL_set (i := 2) (v := .inl x23) rfl L21) so_n ?_
  rintro w24 h25 c26 s27 hv I28 L29 F30
  cases hv
  show am_Ok _ _ _ (19, _, [], h25, c26, s27) _
  refine k_iload 20 rfl gs_eq rfl ?_
  exact k_fin rfl rfl (Or.inl ⟨_, rfl, ⟨_, rfl, _, rfl⟩, I28⟩)
theorem c_X9_step {h : am_h} {v0 : Nat} {v1 : Int32} (hT : ty_H h) (o0 : ob 9 v0) : am_Mt 8 134 [.inr (.inr (some v0)), .inl v1] h (ty_QX w_X9_step 2 [0] (ob_P h) h) := am_Mt.of (b_X9_step rfl o0 rfl (okA_r hT o0 (okA_i okA_n)) (ob_I.start hT))
abbrev w_X9_run : List (Nat × Nat) := [(1, 4), (1, 5), (1, 6), (1, 7), (8, 5), (8, 6), (8, 7), (8, 8), (9, 14), (9, 17)]
theorem b_X9_run_26 {B : Nat} {h0 : am_h} : ∀ (n : Nat) {lv : am_l} {h : am_h} {c s : Nat} {v0 : Nat} {v1 : Int32} {v2 : Int32} {v3 : Int32} , up_m v3 = n → am_get lv 0 = some (.inr (.inr (some v0))) → ob 9 v0 → am_get lv 1 = some (.inl v1) → am_get lv 2 = some (.inl v2) → am_get lv 3 = some (.inl v3) → am_okL h.length lv = true → ob_I w_X9_run B h0 h c s → am_Ok am_G 7 135 (26, lv, [], h, c, s) (ty_QX w_X9_run 2 [0] B h0) := by
  intro n
  induction n using Nat.strongRecOn with
  | ind n ih =>
    intro lv h c s v0 v1 v2 v3 hn g0 o0 g1 g2 g3 hL hI
    refine k_iload 27 rfl g3 rfl ?_
    refine k_iload 28 rfl g2 rfl ?_
    by_cases b1 : v2 ≤ v3
    · refine k_c2 61 rfl rfl (if_pos b1) ?_
      refine k_iload 62 rfl g2 rfl ?_
      exact k_fin rfl rfl (Or.inl ⟨_, rfl, ⟨_, rfl, _, rfl⟩, hI⟩)
    · refine k_c2 31 rfl rfl (if_neg b1) ?_
      refine k_aload 32 rfl g0 rfl ?_
      refine k_aload 33 rfl g0 rfl ?_
      obtain ⟨fs2, u3, e4, f5, t6⟩ := hI.1.get o0 (k := 10) rfl rfl
      obtain ⟨i7, rfl, o8⟩ := t6
      refine k_get 36 rfl e4 f5 rfl ?_
      refine k_iload 37 rfl g1 rfl ?_
      refine k_cl (W' := w_X9_workOn) rfl (c_X9_workOn hI.1 o0 o8) rfl rfl rfl (hI.1.rc o0 rfl) hI (by decide) hL so_n ?_
      rintro w9 h10 c11 s12 hv I13 L14 F15
      obtain ⟨_, rfl, x16, rfl⟩ := hv
      show am_Ok _ _ _ (40, _, [.inl x16], h10, c11, s12) _
      refine k_istore 42 rfl rfl ?_
      refine k_iload 44 rfl gs_eq rfl ?_
      by_cases b17 : 0 < x16
      · refine k_c1 49 rfl rfl (if_pos b17) ?_
        refine k_aload 50 rfl (gs_ne rfl rfl g0) rfl ?_
        refine k_iload 52 rfl gs_eq rfl ?_
        refine k_cl (W' := w_X9_noteStep) rfl (c_X9_noteStep I13.1 o0) rfl rfl rfl (I13.1.rc o0 rfl) I13 (by decide) (okL_set (i := 4) (v := .inl x16) rfl L14) so_n ?_
        rintro w18 h19 c20 s21 hv I22 L23 F24
        cases hv
        show am_Ok _ _ _ (55, _, [], h19, c20, s21) _
        refine k_iinc (v3 + 1) 58 rfl (gs_ne rfl rfl g3) rfl rfl ?_
        refine k_goto 26 rfl rfl ?_
        exact ih _ (by rw [← hn]; exact up_lt b1) rfl (gs_ne rfl rfl (gs_ne rfl rfl g0)) o0 (gs_ne rfl rfl (gs_ne rfl rfl g1)) (gs_ne rfl rfl (gs_ne rfl rfl g2)) gs_eq (okL_set (i := 3) (v := .inl (v3 + 1)) rfl L23) I22
      · refine k_c1 47 rfl rfl (if_neg b17) ?_
        refine k_iload 48 rfl (gs_ne rfl rfl g3) rfl ?_
        exact k_fin rfl rfl (Or.inl ⟨_, rfl, ⟨_, rfl, _, rfl⟩, I13⟩)
theorem b_X9_run {B : Nat} {h0 : am_h} {lv : am_l} {h : am_h} {c s : Nat} {v0 : Nat} {v1 : Int32} {v2 : Int32} (g0 : am_get lv 0 = some (.inr (.inr (some v0)))) (o0 : ob 9 v0) (g1 : am_get lv 1 = some (.inl v1)) (g2 : am_get lv 2 = some (.inl v2)) (hL : am_okL h.length lv = true) (hI : ob_I w_X9_run B h0 h c s) : am_Ok am_G 7 135 (0, lv, [], h, c, s) (ty_QX w_X9_run 2 [0] B h0) := by
  refine k_iload 1 rfl g1 rfl ?_
  refine k_clX (W' := w_X9_refuseOtherWays) rfl (c_X9_refuseOtherWays hI.1 ) rfl rfl rfl rfl hI (by decide) hL so_n rfl ?_ ?_
  · exact fun e32 h26 c27 s28 he hI9 => ⟨rfl, rfl, Or.inr ⟨_, rfl, (thr_sub (by decide) he), hI9⟩⟩
  rintro w25 h26 c27 s28 hv I29 L30 F31
  cases hv
  show am_Ok _ _ _ (4, _, [], h26, c27, s28) _
  refine k_iload 5 rfl g2 rfl ?_
  by_cases b33 : v2 < 0
  · refine k_c1 14 rfl rfl (if_pos b33) ?_
    exact k_fin rfl rfl (Or.inr ⟨_, rfl, by decide, ob_I.thr I29⟩)
  · refine k_c1 8 rfl rfl (if_neg b33) ?_
    refine k_iload 9 rfl g2 rfl ?_
    refine k_push 11 rfl rfl ?_
    by_cases b34 : v2 ≤ (60 : Int32)
    · refine k_c2 24 rfl rfl (if_pos b34) ?_
      refine k_push 25 rfl rfl ?_
      refine k_istore 26 rfl rfl ?_
      exact b_X9_run_26 _ rfl (gs_ne rfl rfl g0) o0 (gs_ne rfl rfl g1) (gs_ne rfl rfl g2) gs_eq (okL_set (i := 3) (v := .inl (0 : Int32)) rfl L30) I29
    · refine k_c2 14 rfl rfl (if_neg b34) ?_
      exact k_fin rfl rfl (Or.inr ⟨_, rfl, by decide, ob_I.thr I29⟩)
theorem c_X9_run {h : am_h} {v0 : Nat} {v1 : Int32} {v2 : Int32} (hT : ty_H h) (o0 : ob 9 v0) : am_Mt 8 135 [.inr (.inr (some v0)), .inl v1, .inl v2] h (ty_QX w_X9_run 2 [0] (ob_P h) h) := am_Mt.of (b_X9_run rfl o0 rfl rfl (okA_r hT o0 (okA_i (okA_i okA_n))) (ob_I.start hT))
abbrev w_X9_sizeOf : List (Nat × Nat) := []
theorem b_X9_sizeOf_n {B : Nat} {h0 : am_h} {lv : am_l} {h : am_h} {c s : Nat}  (g0 : am_get lv 0 = some (.inr (.inr none))) (hL : am_okL h.length lv = true) (hI : ob_I w_X9_sizeOf B h0 h c s) : am_Ok am_G 1 154 (0, lv, [], h, c, s) (ty_Q w_X9_sizeOf 2 B h0) := by
  refine k_aload 1 rfl g0 rfl ?_
  refine k_nul 4 rfl rfl ?_
  refine k_push 5 rfl rfl ?_
  refine k_goto 12 rfl rfl ?_
  exact k_fin rfl rfl ⟨⟨_, rfl, ⟨_, rfl, _, rfl⟩⟩, hI⟩
theorem c_X9_sizeOf_n {h : am_h}  (hT : ty_H h)  : am_Mt 2 154 [.inr (.inr none)] h (ty_Q w_X9_sizeOf 2 (ob_P h) h) := am_Mt.of (b_X9_sizeOf_n rfl (okA_0 okA_n) (ob_I.start hT))
theorem b_X9_sizeOf {B : Nat} {h0 : am_h} {lv : am_l} {h : am_h} {c s : Nat} {v0 : Nat} (g0 : am_get lv 0 = some (.inr (.inr (some v0)))) (o0 : ob 3 v0 ∨ ob 11 v0) (hL : am_okL h.length lv = true) (hI : ob_I w_X9_sizeOf B h0 h c s) : am_Ok am_G 1 154 (0, lv, [], h, c, s) (ty_Q w_X9_sizeOf 2 B h0) := by
  refine k_aload 1 rfl g0 rfl ?_
  refine k_non 8 rfl rfl ?_
  refine k_aload 9 rfl g0 rfl ?_
  refine k_cl (W' := []) rfl (rw_size hI.1 o0) rfl rfl rfl (hI.1.rc3 o0) hI (by decide) hL so_n ?_
  rintro w1 h2 c3 s4 hv I5 L6 F7
  obtain ⟨_, rfl, x8, rfl⟩ := hv
  show am_Ok _ _ _ (12, _, [.inl x8], h2, c3, s4) _
  exact k_fin rfl rfl ⟨⟨_, rfl, ⟨_, rfl, _, rfl⟩⟩, I5⟩
theorem c_X9_sizeOf {h : am_h} {v0 : Nat} (hT : ty_H h) (o0 : ob 3 v0 ∨ ob 11 v0) : am_Mt 2 154 [.inr (.inr (some v0))] h (ty_Q w_X9_sizeOf 2 (ob_P h) h) := am_Mt.of (b_X9_sizeOf rfl o0 (okA_r2 hT o0 okA_n) (ob_I.start hT))
abbrev w_X9_termOf : List (Nat × Nat) := [(2, 2), (2, 3), (2, 4), (2, 5), (8, 5), (8, 6), (8, 7), (8, 8), (9, 15), (9, 16), (9, 17)]
theorem b_X9_termOf {B : Nat} {h0 : am_h} {lv : am_l} {h : am_h} {c s : Nat} {v0 : Nat} {v1 : Int32} (g0 : am_get lv 0 = some (.inr (.inr (some v0)))) (o0 : ob 9 v0) (g1 : am_get lv 1 = some (.inl v1)) (hL : am_okL h.length lv = true) (hI : ob_I w_X9_termOf B h0 h c s) : am_Ok am_G 6 153 (0, lv, [], h, c, s) (ty_Q w_X9_termOf 1 B h0) := by
  refine k_iload 1 rfl g1 rfl ?_
  refine k_push 2 rfl rfl ?_
  by_cases b1 : v1 = (2 : Int32)
  · refine k_c2 5 rfl rfl (if_pos b1) ?_
    refine k_aload 6 rfl g0 rfl ?_
    obtain ⟨fs2, u3, e4, f5, t6⟩ := hI.1.get o0 (k := 5) rfl rfl
    obtain ⟨i7, rfl, o8⟩ := t6
    refine k_get 9 rfl e4 f5 rfl ?_
    exact k_fin rfl rfl ⟨⟨_, rfl, (Or.inr ⟨_, rfl, (Or.inr o8)⟩)⟩, hI⟩
  · refine k_c2 10 rfl rfl (if_neg b1) ?_
    refine k_iload 11 rfl g1 rfl ?_
    by_cases b9 : v1 = 0
    · refine k_c1 14 rfl rfl (if_pos b9) ?_
      refine k_aload 15 rfl g0 rfl ?_
      obtain ⟨fs10, u11, e12, f13, t14⟩ := hI.1.get o0 (k := 17) rfl rfl
      obtain ⟨x15, rfl, z16⟩ := t14
      refine k_get 18 rfl e12 f13 rfl ?_
      by_cases b17 : x15 = 0
      · refine k_c1 21 rfl rfl (if_pos b17) ?_
        refine k_aload 22 rfl g0 rfl ?_
        obtain ⟨fs18, u19, e20, f21, t22⟩ := hI.1.get o0 (k := 2) rfl rfl
        obtain ⟨i23, rfl, o24⟩ := t22
        refine k_get 25 rfl e20 f21 rfl ?_
        refine k_aload 26 rfl g0 rfl ?_
        obtain ⟨fs25, u26, e27, f28, t29⟩ := hI.1.get o0 (k := 10) rfl rfl
        obtain ⟨i30, rfl, o31⟩ := t29
        refine k_get 29 rfl e27 f28 rfl ?_
        refine k_push 30 rfl rfl ?_
        refine k_cl (W' := w_X8_go) rfl (c_X8_go hI.1 o24 o31) rfl rfl rfl (hI.1.rc o24 rfl) hI (by decide) hL so_n ?_
        rintro w32 h33 c34 s35 hv I36 L37 F38
        cases hv
        show am_Ok _ _ _ (33, _, [], h33, c34, s35) _
        refine k_aload 34 rfl g0 rfl ?_
        refine k_push 35 rfl rfl ?_
        obtain ⟨fs39, u40, e41, f42, t43⟩ := I36.1.get o0 (k := 17) rfl rfl
        refine k_put 38 rfl e41 (okZ_of (Or.inr rfl)) (List.getElem?_eq_some_iff.mp f42).1 rfl ?_
        obtain ⟨h44, E47, I45, l48⟩ := I36.put (v := .inl (1 : Int32)) o0 rfl e41 (k := 17) rfl (show ty_V 1 (.inl (1 : Int32)) from ⟨_, rfl, (Or.inr rfl)⟩) (by decide) rfl
        rw [E47]
        have L46 := okL_eq l48 L37
        refine k_aload 39 rfl g0 rfl ?_
        obtain ⟨fs49, u50, e51, f52, t53⟩ := I45.1.get o0 (k := 2) rfl rfl
        obtain ⟨i54, rfl, o55⟩ := t53
        refine k_get 42 rfl e51 f52 rfl ?_
        refine k_cl (W' := w_X8_isRead) rfl (c_X8_isRead I45.1 o55) rfl rfl rfl (I45.1.rc o55 rfl) I45 (by decide) L46 so_n ?_
        rintro w56 h57 c58 s59 hv I60 L61 F62
        obtain ⟨_, rfl, x63, rfl, z64⟩ := hv
        show am_Ok _ _ _ (45, _, [.inl x63], h57, c58, s59) _
        by_cases b65 : x63 = 0
        · refine k_c1 58 rfl rfl (if_pos b65) ?_
          refine k_push 59 rfl rfl ?_
          exact k_fin rfl rfl ⟨⟨_, rfl, (Or.inl rfl)⟩, I60⟩
        · refine k_c1 48 rfl rfl (if_neg b65) ?_
          refine k_aload 49 rfl g0 rfl ?_
          obtain ⟨fs66, u67, e68, f69, t70⟩ := I60.1.get o0 (k := 2) rfl rfl
          obtain ⟨i71, rfl, o72⟩ := t70
          refine k_get 52 rfl e68 f69 rfl ?_
          refine k_cl (W' := w_X8_term) rfl (c_X8_term I60.1 o72) rfl rfl rfl (I60.1.rc o72 rfl) I60 (by decide) L61 so_n ?_
          rintro w73 h74 c75 s76 hv I77 L78 F79
          obtain ⟨_, rfl, i80, rfl, o81⟩ := hv
          show am_Ok _ _ _ (55, _, [.inr (.inr (some i80))], h74, c75, s76) _
          refine k_goto 59 rfl rfl ?_
          exact k_fin rfl rfl ⟨⟨_, rfl, (Or.inr ⟨_, rfl, (Or.inl o81)⟩)⟩, I77⟩
      · refine k_c1 38 rfl rfl (if_neg b17) ?_
        refine k_aload 39 rfl g0 rfl ?_
        obtain ⟨fs82, u83, e84, f85, t86⟩ := hI.1.get o0 (k := 2) rfl rfl
        obtain ⟨i87, rfl, o88⟩ := t86
        refine k_get 42 rfl e84 f85 rfl ?_
        refine k_cl (W' := w_X8_isRead) rfl (c_X8_isRead hI.1 o88) rfl rfl rfl (hI.1.rc o88 rfl) hI (by decide) hL so_n ?_
        rintro w89 h90 c91 s92 hv I93 L94 F95
        obtain ⟨_, rfl, x96, rfl, z97⟩ := hv
        show am_Ok _ _ _ (45, _, [.inl x96], h90, c91, s92) _
        by_cases b98 : x96 = 0
        · refine k_c1 58 rfl rfl (if_pos b98) ?_
          refine k_push 59 rfl rfl ?_
          exact k_fin rfl rfl ⟨⟨_, rfl, (Or.inl rfl)⟩, I93⟩
        · refine k_c1 48 rfl rfl (if_neg b98) ?_
          refine k_aload 49 rfl g0 rfl ?_
          obtain ⟨fs99, u100, e101, f102, t103⟩ := I93.1.get o0 (k := 2) rfl rfl
          obtain ⟨i104, rfl, o105⟩ := t103
          refine k_get 52 rfl e101 f102 rfl ?_
          refine k_cl (W' := w_X8_term) rfl (c_X8_term I93.1 o105) rfl rfl rfl (I93.1.rc o105 rfl) I93 (by decide) L94 so_n ?_
          rintro w106 h107 c108 s109 hv I110 L111 F112
          obtain ⟨_, rfl, i113, rfl, o114⟩ := hv
          show am_Ok _ _ _ (55, _, [.inr (.inr (some i113))], h107, c108, s109) _
          refine k_goto 59 rfl rfl ?_
          exact k_fin rfl rfl ⟨⟨_, rfl, (Or.inr ⟨_, rfl, (Or.inl o114)⟩)⟩, I110⟩
    · refine k_c1 60 rfl rfl (if_neg b9) ?_
      refine k_iload 61 rfl g1 rfl ?_
      refine k_push 62 rfl rfl ?_
      by_cases b115 : v1 = (1 : Int32)
      · refine k_c2 67 rfl rfl (if_pos b115) ?_
        refine k_aload 68 rfl g0 rfl ?_
        obtain ⟨fs116, u117, e118, f119, t120⟩ := hI.1.get o0 (k := 16) rfl rfl
        obtain ⟨x121, rfl, z122⟩ := t120
        refine k_get 71 rfl e118 f119 rfl ?_
        by_cases b123 : x121 = 0
        · refine k_c1 74 rfl rfl (if_pos b123) ?_
          refine k_aload 75 rfl g0 rfl ?_
          obtain ⟨fs124, u125, e126, f127, t128⟩ := hI.1.get o0 (k := 3) rfl rfl
          obtain ⟨i129, rfl, o130⟩ := t128
          refine k_get 78 rfl e126 f127 rfl ?_
          refine k_aload 79 rfl g0 rfl ?_
          obtain ⟨fs131, u132, e133, f134, t135⟩ := hI.1.get o0 (k := 5) rfl rfl
          obtain ⟨i136, rfl, o137⟩ := t135
          refine k_get 82 rfl e133 f134 rfl ?_
          refine k_push 85 rfl rfl ?_
          refine k_cl (W' := w_X2_workOff) rfl (c_X2_workOff hI.1 o130 (Or.inr o137)) rfl rfl rfl (hI.1.rc o130 rfl) hI (by decide) hL so_n ?_
          rintro w138 h139 c140 s141 hv I142 L143 F144
          cases hv
          show am_Ok _ _ _ (88, _, [], h139, c140, s141) _
          refine k_aload 89 rfl g0 rfl ?_
          obtain ⟨fs145, u146, e147, f148, t149⟩ := I142.1.get o0 (k := 7) rfl rfl
          obtain ⟨i150, rfl, o151⟩ := t149
          refine k_get 92 rfl e147 f148 rfl ?_
          refine k_aload 93 rfl g0 rfl ?_
          obtain ⟨fs152, u153, e154, f155, t156⟩ := I142.1.get o0 (k := 3) rfl rfl
          obtain ⟨i157, rfl, o158⟩ := t156
          refine k_get 96 rfl e154 f155 rfl ?_
          refine k_cl (W' := w_X2_term) rfl (c_X2_term I142.1 o158) rfl rfl rfl (I142.1.rc o158 rfl) I142 (by decide) L143 (so_r I142 o151 so_n) ?_
          rintro w159 h160 c161 s162 hv I163 L164 F165
          obtain ⟨_, rfl, i166, rfl, o167⟩ := hv
          show am_Ok _ _ _ (99, _, [.inr (.inr (some i166)), .inr (.inr (some i150))], h160, c161, s162) _
          refine k_cl (W' := []) rfl (rw_copy I163.1 o151 (Or.inl o167)) rfl rfl rfl (I163.1.rc3 (Or.inl o151)) I163 (by decide) L164 so_n ?_
          rintro w168 h169 c170 s171 hv I172 L173 F174
          cases hv
          show am_Ok _ _ _ (102, _, [], h169, c170, s171) _
          refine k_aload 103 rfl g0 rfl ?_
          refine k_aload 104 rfl g0 rfl ?_
          obtain ⟨fs175, u176, e177, f178, t179⟩ := I172.1.get o0 (k := 3) rfl rfl
          obtain ⟨i180, rfl, o181⟩ := t179
          refine k_get 107 rfl e177 f178 rfl ?_
          refine k_cl (W' := w_X2_isAtEnd) rfl (c_X2_isAtEnd I172.1 o181) rfl rfl rfl (I172.1.rc o181 rfl) I172 (by decide) L173 (so_r I172 o0 so_n) ?_
          rintro w182 h183 c184 s185 hv I186 L187 F188
          obtain ⟨_, rfl, x189, rfl, z190⟩ := hv
          show am_Ok _ _ _ (110, _, [.inl x189, .inr (.inr (some v0))], h183, c184, s185) _
          by_cases b191 : x189 = 0
          · refine k_c1 123 rfl rfl (if_pos b191) ?_
            refine k_push 124 rfl rfl ?_
            obtain ⟨fs192, u193, e194, f195, t196⟩ := I186.1.get o0 (k := 15) rfl rfl
            refine k_put 127 rfl e194 rfl (List.getElem?_eq_some_iff.mp f195).1 rfl ?_
            obtain ⟨h197, E200, I198, l201⟩ := I186.put (v := .inl (-1 : Int32)) o0 rfl e194 (k := 15) rfl (show ty_V 0 (.inl (-1 : Int32)) from ⟨_, rfl⟩) (by decide) rfl
            rw [E200]
            have L199 := okL_eq l201 L187
            refine k_aload 128 rfl g0 rfl ?_
            refine k_push 129 rfl rfl ?_
            obtain ⟨fs202, u203, e204, f205, t206⟩ := I198.1.get o0 (k := 16) rfl rfl
            refine k_put 132 rfl e204 (okZ_of (Or.inr rfl)) (List.getElem?_eq_some_iff.mp f205).1 rfl ?_
            obtain ⟨h207, E210, I208, l211⟩ := I198.put (v := .inl (1 : Int32)) o0 rfl e204 (k := 16) rfl (show ty_V 1 (.inl (1 : Int32)) from ⟨_, rfl, (Or.inr rfl)⟩) (by decide) rfl
            rw [E210]
            have L209 := okL_eq l211 L199
            refine k_aload 133 rfl g0 rfl ?_
            obtain ⟨fs212, u213, e214, f215, t216⟩ := I208.1.get o0 (k := 15) rfl rfl
            obtain ⟨x217, rfl⟩ := t216
            refine k_get 136 rfl e214 f215 rfl ?_
            refine k_push 137 rfl rfl ?_
            by_cases b218 : x217 = (-1 : Int32)
            · refine k_c2 140 rfl rfl (if_pos b218) ?_
              refine k_push 141 rfl rfl ?_
              refine k_goto 148 rfl rfl ?_
              exact k_fin rfl rfl ⟨⟨_, rfl, (Or.inl rfl)⟩, I208⟩
            · refine k_c2 144 rfl rfl (if_neg b218) ?_
              refine k_aload 145 rfl g0 rfl ?_
              obtain ⟨fs219, u220, e221, f222, t223⟩ := I208.1.get o0 (k := 7) rfl rfl
              obtain ⟨i224, rfl, o225⟩ := t223
              refine k_get 148 rfl e221 f222 rfl ?_
              exact k_fin rfl rfl ⟨⟨_, rfl, (Or.inr ⟨_, rfl, (Or.inl o225)⟩)⟩, I208⟩
          · refine k_c1 113 rfl rfl (if_neg b191) ?_
            refine k_aload 114 rfl g0 rfl ?_
            obtain ⟨fs226, u227, e228, f229, t230⟩ := I186.1.get o0 (k := 3) rfl rfl
            obtain ⟨i231, rfl, o232⟩ := t230
            refine k_get 117 rfl e228 f229 rfl ?_
            refine k_cl (W' := w_X2_rounds) rfl (c_X2_rounds I186.1 o232) rfl rfl rfl (I186.1.rc o232 rfl) I186 (by decide) L187 (so_r I186 o0 so_n) ?_
            rintro w233 h234 c235 s236 hv I237 L238 F239
            obtain ⟨_, rfl, x240, rfl⟩ := hv
            show am_Ok _ _ _ (120, _, [.inl x240, .inr (.inr (some v0))], h234, c235, s236) _
            refine k_goto 124 rfl rfl ?_
            obtain ⟨fs241, u242, e243, f244, t245⟩ := I237.1.get o0 (k := 15) rfl rfl
            refine k_put 127 rfl e243 rfl (List.getElem?_eq_some_iff.mp f244).1 rfl ?_
            obtain ⟨h246, E249, I247, l250⟩ := I237.put (v := .inl x240) o0 rfl e243 (k := 15) rfl (show ty_V 0 (.inl x240) from ⟨_, rfl⟩) (by decide) rfl
            rw [E249]
            have L248 := okL_eq l250 L238
            refine k_aload 128 rfl g0 rfl ?_
            refine k_push 129 rfl rfl ?_
            obtain ⟨fs251, u252, e253, f254, t255⟩ := I247.1.get o0 (k := 16) rfl rfl
            refine k_put 132 rfl e253 (okZ_of (Or.inr rfl)) (List.getElem?_eq_some_iff.mp f254).1 rfl ?_
            obtain ⟨h256, E259, I257, l260⟩ := I247.put (v := .inl (1 : Int32)) o0 rfl e253 (k := 16) rfl (show ty_V 1 (.inl (1 : Int32)) from ⟨_, rfl, (Or.inr rfl)⟩) (by decide) rfl
            rw [E259]
            have L258 := okL_eq l260 L248
            refine k_aload 133 rfl g0 rfl ?_
            obtain ⟨fs261, u262, e263, f264, t265⟩ := I257.1.get o0 (k := 15) rfl rfl
            obtain ⟨x266, rfl⟩ := t265
            refine k_get 136 rfl e263 f264 rfl ?_
            refine k_push 137 rfl rfl ?_
            by_cases b267 : x266 = (-1 : Int32)
            · refine k_c2 140 rfl rfl (if_pos b267) ?_
              refine k_push 141 rfl rfl ?_
              refine k_goto 148 rfl rfl ?_
              exact k_fin rfl rfl ⟨⟨_, rfl, (Or.inl rfl)⟩, I257⟩
            · refine k_c2 144 rfl rfl (if_neg b267) ?_
              refine k_aload 145 rfl g0 rfl ?_
              obtain ⟨fs268, u269, e270, f271, t272⟩ := I257.1.get o0 (k := 7) rfl rfl
              obtain ⟨i273, rfl, o274⟩ := t272
              refine k_get 148 rfl e270 f271 rfl ?_
              exact k_fin rfl rfl ⟨⟨_, rfl, (Or.inr ⟨_, rfl, (Or.inl o274)⟩)⟩, I257⟩
        · refine k_c1 132 rfl rfl (if_neg b123) ?_
          refine k_aload 133 rfl g0 rfl ?_
          obtain ⟨fs275, u276, e277, f278, t279⟩ := hI.1.get o0 (k := 15) rfl rfl
          obtain ⟨x280, rfl⟩ := t279
          refine k_get 136 rfl e277 f278 rfl ?_
          refine k_push 137 rfl rfl ?_
          by_cases b281 : x280 = (-1 : Int32)
          · refine k_c2 140 rfl rfl (if_pos b281) ?_
            refine k_push 141 rfl rfl ?_
            refine k_goto 148 rfl rfl ?_
            exact k_fin rfl rfl ⟨⟨_, rfl, (Or.inl rfl)⟩, hI⟩
          · refine k_c2 144 rfl rfl (if_neg b281) ?_
            refine k_aload 145 rfl g0 rfl ?_
            obtain ⟨fs282, u283, e284, f285, t286⟩ := hI.1.get o0 (k := 7) rfl rfl
            obtain ⟨i287, rfl, o288⟩ := t286
            refine k_get 148 rfl e284 f285 rfl ?_
            exact k_fin rfl rfl ⟨⟨_, rfl, (Or.inr ⟨_, rfl, (Or.inl o288)⟩)⟩, hI⟩
      · refine k_c2 65 rfl rfl (if_neg b115) ?_
        refine k_push 66 rfl rfl ?_
        exact k_fin rfl rfl ⟨⟨_, rfl, (Or.inl rfl)⟩, hI⟩
theorem c_X9_termOf {h : am_h} {v0 : Nat} {v1 : Int32} (hT : ty_H h) (o0 : ob 9 v0) : am_Mt 7 153 [.inr (.inr (some v0)), .inl v1] h (ty_Q w_X9_termOf 1 (ob_P h) h) := am_Mt.of (b_X9_termOf rfl o0 rfl (okA_r hT o0 (okA_i okA_n)) (ob_I.start hT))
abbrev w_X9_count : List (Nat × Nat) := [(2, 2), (2, 3), (2, 4), (2, 5), (8, 5), (8, 6), (8, 7), (8, 8), (9, 15), (9, 16), (9, 17)]
theorem b_X9_count {B : Nat} {h0 : am_h} {lv : am_l} {h : am_h} {c s : Nat} {v0 : Nat} {v1 : Int32} (g0 : am_get lv 0 = some (.inr (.inr (some v0)))) (o0 : ob 9 v0) (g1 : am_get lv 1 = some (.inl v1)) (hL : am_okL h.length lv = true) (hI : ob_I w_X9_count B h0 h c s) : am_Ok am_G 7 136 (0, lv, [], h, c, s) (ty_QX w_X9_count 2 [1] B h0) := by
  refine k_iload 1 rfl g1 rfl ?_
  refine k_push 3 rfl rfl ?_
  by_cases b1 : v1 < (16 : Int32)
  · refine k_c2 24 rfl rfl (if_pos b1) ?_
    refine k_iload 25 rfl g1 rfl ?_
    refine k_push 26 rfl rfl ?_
    by_cases b2 : v1 < (3 : Int32)
    · refine k_c2 46 rfl rfl (if_pos b2) ?_
      refine k_iload 47 rfl g1 rfl ?_
      by_cases b3 : v1.toInt < 0 ∨ 23 < v1.toInt
      · refine k_sw 274 rfl (if_pos b3) ?_
        exact k_fin rfl rfl (Or.inr ⟨_, rfl, by decide, ob_I.thr hI⟩)
      · have b3 : v1.toInt = 0 ∨ v1.toInt = 1 ∨ v1.toInt = 2 ∨ v1.toInt = 3 ∨ v1.toInt = 4 ∨ v1.toInt = 5 ∨ v1.toInt = 6 ∨ v1.toInt = 7 ∨ v1.toInt = 8 ∨ v1.toInt = 9 ∨ v1.toInt = 10 ∨ v1.toInt = 11 ∨ v1.toInt = 12 ∨ v1.toInt = 13 ∨ v1.toInt = 14 ∨ v1.toInt = 15 ∨ v1.toInt = 16 ∨ v1.toInt = 17 ∨ v1.toInt = 18 ∨ v1.toInt = 19 ∨ v1.toInt = 20 ∨ v1.toInt = 21 ∨ v1.toInt = 22 ∨ v1.toInt = 23 := by omega
        rcases b3 with b3 | b3 | b3 | b3 | b3 | b3 | b3 | b3 | b3 | b3 | b3 | b3 | b3 | b3 | b3 | b3 | b3 | b3 | b3 | b3 | b3 | b3 | b3 | b3
        · refine k_sw 156 rfl (by unfold am_tb; rw [b3]; decide) ?_
          refine k_aload 157 rfl g0 rfl ?_
          obtain ⟨fs4, u5, e6, f7, t8⟩ := hI.1.get o0 (k := 10) rfl rfl
          obtain ⟨i9, rfl, o10⟩ := t8
          refine k_get 160 rfl e6 f7 rfl ?_
          refine k_cl (W' := w_X1_size) rfl (c_X1_size hI.1 o10) rfl rfl rfl (hI.1.rc o10 rfl) hI (by decide) hL so_n ?_
          rintro w11 h12 c13 s14 hv I15 L16 F17
          obtain ⟨_, rfl, x18, rfl⟩ := hv
          show am_Ok _ _ _ (163, _, [.inl x18], h12, c13, s14) _
          exact k_fin rfl rfl (Or.inl ⟨_, rfl, ⟨_, rfl, _, rfl⟩, I15⟩)
        · refine k_sw 164 rfl (by unfold am_tb; rw [b3]; decide) ?_
          refine k_aload 165 rfl g0 rfl ?_
          obtain ⟨fs19, u20, e21, f22, t23⟩ := hI.1.get o0 (k := 10) rfl rfl
          obtain ⟨i24, rfl, o25⟩ := t23
          refine k_get 168 rfl e21 f22 rfl ?_
          refine k_cl (W' := w_X1_activeWires) rfl (c_X1_activeWires hI.1 o25) rfl rfl rfl (hI.1.rc o25 rfl) hI (by decide) hL so_n ?_
          rintro w26 h27 c28 s29 hv I30 L31 F32
          obtain ⟨_, rfl, x33, rfl⟩ := hv
          show am_Ok _ _ _ (171, _, [.inl x33], h27, c28, s29) _
          exact k_fin rfl rfl (Or.inl ⟨_, rfl, ⟨_, rfl, _, rfl⟩, I30⟩)
        · refine k_sw 172 rfl (by unfold am_tb; rw [b3]; decide) ?_
          refine k_aload 173 rfl g0 rfl ?_
          obtain ⟨fs34, u35, e36, f37, t38⟩ := hI.1.get o0 (k := 10) rfl rfl
          obtain ⟨i39, rfl, o40⟩ := t38
          refine k_get 176 rfl e36 f37 rfl ?_
          refine k_cl (W' := w_X1_greatestLevel) rfl (c_X1_greatestLevel hI.1 o40) rfl rfl rfl (hI.1.rc o40 rfl) hI (by decide) hL so_n ?_
          rintro w41 h42 c43 s44 hv I45 L46 F47
          obtain ⟨_, rfl, x48, rfl⟩ := hv
          show am_Ok _ _ _ (179, _, [.inl x48], h42, c43, s44) _
          exact k_fin rfl rfl (Or.inl ⟨_, rfl, ⟨_, rfl, _, rfl⟩, I45⟩)
        · refine k_sw 274 rfl (by unfold am_tb; rw [b3]; decide) ?_
          exact k_fin rfl rfl (Or.inr ⟨_, rfl, by decide, ob_I.thr hI⟩)
        · refine k_sw 274 rfl (by unfold am_tb; rw [b3]; decide) ?_
          exact k_fin rfl rfl (Or.inr ⟨_, rfl, by decide, ob_I.thr hI⟩)
        · refine k_sw 274 rfl (by unfold am_tb; rw [b3]; decide) ?_
          exact k_fin rfl rfl (Or.inr ⟨_, rfl, by decide, ob_I.thr hI⟩)
        · refine k_sw 274 rfl (by unfold am_tb; rw [b3]; decide) ?_
          exact k_fin rfl rfl (Or.inr ⟨_, rfl, by decide, ob_I.thr hI⟩)
        · refine k_sw 274 rfl (by unfold am_tb; rw [b3]; decide) ?_
          exact k_fin rfl rfl (Or.inr ⟨_, rfl, by decide, ob_I.thr hI⟩)
        · refine k_sw 274 rfl (by unfold am_tb; rw [b3]; decide) ?_
          exact k_fin rfl rfl (Or.inr ⟨_, rfl, by decide, ob_I.thr hI⟩)
        · refine k_sw 180 rfl (by unfold am_tb; rw [b3]; decide) ?_
          refine k_aload 181 rfl g0 rfl ?_
          obtain ⟨fs49, u50, e51, f52, t53⟩ := hI.1.get o0 (k := 14) rfl rfl
          obtain ⟨x54, rfl⟩ := t53
          refine k_get 184 rfl e51 f52 rfl ?_
          exact k_fin rfl rfl (Or.inl ⟨_, rfl, ⟨_, rfl, _, rfl⟩, hI⟩)
        · refine k_sw 185 rfl (by unfold am_tb; rw [b3]; decide) ?_
          refine k_aload 186 rfl g0 rfl ?_
          refine k_push 187 rfl rfl ?_
          refine k_cl (W' := w_X9_termOf) rfl (c_X9_termOf hI.1 o0) rfl rfl rfl (hI.1.rc o0 rfl) hI (by decide) hL so_n ?_
          rintro w55 h56 c57 s58 hv I59 L60 F61
          rcases hv with rfl | ⟨i62, rfl, o63⟩
          · show am_Ok _ _ _ (190, _, [.inr (.inr none)], h56, c57, s58) _
            refine k_cl (W' := w_X9_sizeOf) rfl (c_X9_sizeOf_n I59.1 ) rfl rfl rfl rfl I59 (by decide) L60 so_n ?_
            rintro w64 h65 c66 s67 hv I68 L69 F70
            obtain ⟨_, rfl, x71, rfl⟩ := hv
            show am_Ok _ _ _ (193, _, [.inl x71], h65, c66, s67) _
            exact k_fin rfl rfl (Or.inl ⟨_, rfl, ⟨_, rfl, _, rfl⟩, I68⟩)
          · show am_Ok _ _ _ (190, _, [.inr (.inr (some i62))], h56, c57, s58) _
            refine k_cl (W' := w_X9_sizeOf) rfl (c_X9_sizeOf I59.1 o63) rfl rfl rfl rfl I59 (by decide) L60 so_n ?_
            rintro w72 h73 c74 s75 hv I76 L77 F78
            obtain ⟨_, rfl, x79, rfl⟩ := hv
            show am_Ok _ _ _ (193, _, [.inl x79], h73, c74, s75) _
            exact k_fin rfl rfl (Or.inl ⟨_, rfl, ⟨_, rfl, _, rfl⟩, I76⟩)
        · refine k_sw 194 rfl (by unfold am_tb; rw [b3]; decide) ?_
          refine k_aload 195 rfl g0 rfl ?_
          refine k_push 196 rfl rfl ?_
          refine k_cl (W' := w_X9_termOf) rfl (c_X9_termOf hI.1 o0) rfl rfl rfl (hI.1.rc o0 rfl) hI (by decide) hL so_n ?_
          rintro w80 h81 c82 s83 hv I84 L85 F86
          rcases hv with rfl | ⟨i87, rfl, o88⟩
          · show am_Ok _ _ _ (199, _, [.inr (.inr none)], h81, c82, s83) _
            refine k_nul 216 rfl rfl ?_
            refine k_push 217 rfl rfl ?_
            exact k_fin rfl rfl (Or.inl ⟨_, rfl, ⟨_, rfl, _, rfl⟩, I84⟩)
          · show am_Ok _ _ _ (199, _, [.inr (.inr (some i87))], h81, c82, s83) _
            refine k_non 202 rfl rfl ?_
            refine k_aload 203 rfl g0 rfl ?_
            obtain ⟨fs89, u90, e91, f92, t93⟩ := I84.1.get o0 (k := 2) rfl rfl
            obtain ⟨i94, rfl, o95⟩ := t93
            refine k_get 206 rfl e91 f92 rfl ?_
            refine k_cl (W' := w_X8_wantedWires) rfl (c_X8_wantedWires I84.1 o95) rfl rfl rfl (I84.1.rc o95 rfl) I84 (by decide) L85 so_n ?_
            rintro w96 h97 c98 s99 hv I100 L101 F102
            obtain ⟨_, rfl, x103, rfl⟩ := hv
            show am_Ok _ _ _ (209, _, [.inl x103], h97, c98, s99) _
            by_cases b104 : x103 = 0
            · refine k_c1 212 rfl rfl (if_pos b104) ?_
              refine k_push 213 rfl rfl ?_
              refine k_goto 217 rfl rfl ?_
              exact k_fin rfl rfl (Or.inl ⟨_, rfl, ⟨_, rfl, _, rfl⟩, I100⟩)
            · refine k_c1 216 rfl rfl (if_neg b104) ?_
              refine k_push 217 rfl rfl ?_
              exact k_fin rfl rfl (Or.inl ⟨_, rfl, ⟨_, rfl, _, rfl⟩, I100⟩)
        · refine k_sw 218 rfl (by unfold am_tb; rw [b3]; decide) ?_
          refine k_aload 219 rfl g0 rfl ?_
          refine k_push 220 rfl rfl ?_
          refine k_cl (W' := w_X9_termOf) rfl (c_X9_termOf hI.1 o0) rfl rfl rfl (hI.1.rc o0 rfl) hI (by decide) hL so_n ?_
          rintro w105 h106 c107 s108 hv I109 L110 F111
          rcases hv with rfl | ⟨i112, rfl, o113⟩
          · show am_Ok _ _ _ (223, _, [.inr (.inr none)], h106, c107, s108) _
            refine k_nul 226 rfl rfl ?_
            refine k_push 227 rfl rfl ?_
            refine k_goto 234 rfl rfl ?_
            exact k_fin rfl rfl (Or.inl ⟨_, rfl, ⟨_, rfl, _, rfl⟩, I109⟩)
          · show am_Ok _ _ _ (223, _, [.inr (.inr (some i112))], h106, c107, s108) _
            refine k_non 230 rfl rfl ?_
            refine k_aload 231 rfl g0 rfl ?_
            obtain ⟨fs114, u115, e116, f117, t118⟩ := I109.1.get o0 (k := 15) rfl rfl
            obtain ⟨x119, rfl⟩ := t118
            refine k_get 234 rfl e116 f117 rfl ?_
            exact k_fin rfl rfl (Or.inl ⟨_, rfl, ⟨_, rfl, _, rfl⟩, I109⟩)
        · refine k_sw 235 rfl (by unfold am_tb; rw [b3]; decide) ?_
          refine k_aload 236 rfl g0 rfl ?_
          refine k_push 237 rfl rfl ?_
          refine k_cl (W' := w_X9_termOf) rfl (c_X9_termOf hI.1 o0) rfl rfl rfl (hI.1.rc o0 rfl) hI (by decide) hL so_n ?_
          rintro w120 h121 c122 s123 hv I124 L125 F126
          rcases hv with rfl | ⟨i127, rfl, o128⟩
          · show am_Ok _ _ _ (240, _, [.inr (.inr none)], h121, c122, s123) _
            refine k_cl (W' := w_X9_sizeOf) rfl (c_X9_sizeOf_n I124.1 ) rfl rfl rfl rfl I124 (by decide) L125 so_n ?_
            rintro w129 h130 c131 s132 hv I133 L134 F135
            obtain ⟨_, rfl, x136, rfl⟩ := hv
            show am_Ok _ _ _ (243, _, [.inl x136], h130, c131, s132) _
            exact k_fin rfl rfl (Or.inl ⟨_, rfl, ⟨_, rfl, _, rfl⟩, I133⟩)
          · show am_Ok _ _ _ (240, _, [.inr (.inr (some i127))], h121, c122, s123) _
            refine k_cl (W' := w_X9_sizeOf) rfl (c_X9_sizeOf I124.1 o128) rfl rfl rfl rfl I124 (by decide) L125 so_n ?_
            rintro w137 h138 c139 s140 hv I141 L142 F143
            obtain ⟨_, rfl, x144, rfl⟩ := hv
            show am_Ok _ _ _ (243, _, [.inl x144], h138, c139, s140) _
            exact k_fin rfl rfl (Or.inl ⟨_, rfl, ⟨_, rfl, _, rfl⟩, I141⟩)
        · refine k_sw 244 rfl (by unfold am_tb; rw [b3]; decide) ?_
          refine k_aload 245 rfl g0 rfl ?_
          obtain ⟨fs145, u146, e147, f148, t149⟩ := hI.1.get o0 (k := 5) rfl rfl
          obtain ⟨i150, rfl, o151⟩ := t149
          refine k_get 248 rfl e147 f148 rfl ?_
          refine k_cl (W' := []) rfl (rw_size hI.1 (Or.inr o151)) rfl rfl rfl (hI.1.rc3 (Or.inr o151)) hI (by decide) hL so_n ?_
          rintro w152 h153 c154 s155 hv I156 L157 F158
          obtain ⟨_, rfl, x159, rfl⟩ := hv
          show am_Ok _ _ _ (251, _, [.inl x159], h153, c154, s155) _
          exact k_fin rfl rfl (Or.inl ⟨_, rfl, ⟨_, rfl, _, rfl⟩, I156⟩)
        · refine k_sw 252 rfl (by unfold am_tb; rw [b3]; decide) ?_
          refine k_aload 253 rfl g0 rfl ?_
          obtain ⟨fs160, u161, e162, f163, t164⟩ := hI.1.get o0 (k := 0) rfl rfl
          obtain ⟨i165, rfl, o166⟩ := t164
          refine k_get 256 rfl e162 f163 rfl ?_
          refine k_cl (W' := []) rfl (rw_size hI.1 (Or.inr o166)) rfl rfl rfl (hI.1.rc3 (Or.inr o166)) hI (by decide) hL so_n ?_
          rintro w167 h168 c169 s170 hv I171 L172 F173
          obtain ⟨_, rfl, x174, rfl⟩ := hv
          show am_Ok _ _ _ (259, _, [.inl x174], h168, c169, s170) _
          exact k_fin rfl rfl (Or.inl ⟨_, rfl, ⟨_, rfl, _, rfl⟩, I171⟩)
        · refine k_sw 274 rfl (by unfold am_tb; rw [b3]; decide) ?_
          exact k_fin rfl rfl (Or.inr ⟨_, rfl, by decide, ob_I.thr hI⟩)
        · refine k_sw 274 rfl (by unfold am_tb; rw [b3]; decide) ?_
          exact k_fin rfl rfl (Or.inr ⟨_, rfl, by decide, ob_I.thr hI⟩)
        · refine k_sw 274 rfl (by unfold am_tb; rw [b3]; decide) ?_
          exact k_fin rfl rfl (Or.inr ⟨_, rfl, by decide, ob_I.thr hI⟩)
        · refine k_sw 274 rfl (by unfold am_tb; rw [b3]; decide) ?_
          exact k_fin rfl rfl (Or.inr ⟨_, rfl, by decide, ob_I.thr hI⟩)
        · refine k_sw 274 rfl (by unfold am_tb; rw [b3]; decide) ?_
          exact k_fin rfl rfl (Or.inr ⟨_, rfl, by decide, ob_I.thr hI⟩)
        · refine k_sw 274 rfl (by unfold am_tb; rw [b3]; decide) ?_
          exact k_fin rfl rfl (Or.inr ⟨_, rfl, by decide, ob_I.thr hI⟩)
        · refine k_sw 274 rfl (by unfold am_tb; rw [b3]; decide) ?_
          exact k_fin rfl rfl (Or.inr ⟨_, rfl, by decide, ob_I.thr hI⟩)
        · refine k_sw 260 rfl (by unfold am_tb; rw [b3]; decide) ?_
          refine k_aload 261 rfl g0 rfl ?_
          refine k_push 262 rfl rfl ?_
          refine k_cl (W' := w_X9_termOf) rfl (c_X9_termOf hI.1 o0) rfl rfl rfl (hI.1.rc o0 rfl) hI (by decide) hL so_n ?_
          rintro w175 h176 c177 s178 hv I179 L180 F181
          rcases hv with rfl | ⟨i182, rfl, o183⟩
          · show am_Ok _ _ _ (265, _, [.inr (.inr none)], h176, c177, s178) _
            refine k_pop 266 rfl rfl rfl ?_
            refine k_aload 267 rfl g0 rfl ?_
            obtain ⟨fs184, u185, e186, f187, t188⟩ := I179.1.get o0 (k := 2) rfl rfl
            obtain ⟨i189, rfl, o190⟩ := t188
            refine k_get 270 rfl e186 f187 rfl ?_
            refine k_cl (W' := w_X8_wires) rfl (c_X8_wires I179.1 o190) rfl rfl rfl (I179.1.rc o190 rfl) I179 (by decide) L180 so_n ?_
            rintro w191 h192 c193 s194 hv I195 L196 F197
            obtain ⟨_, rfl, x198, rfl⟩ := hv
            show am_Ok _ _ _ (273, _, [.inl x198], h192, c193, s194) _
            exact k_fin rfl rfl (Or.inl ⟨_, rfl, ⟨_, rfl, _, rfl⟩, I195⟩)
          · show am_Ok _ _ _ (265, _, [.inr (.inr (some i182))], h176, c177, s178) _
            refine k_pop 266 rfl rfl rfl ?_
            refine k_aload 267 rfl g0 rfl ?_
            obtain ⟨fs199, u200, e201, f202, t203⟩ := I179.1.get o0 (k := 2) rfl rfl
            obtain ⟨i204, rfl, o205⟩ := t203
            refine k_get 270 rfl e201 f202 rfl ?_
            refine k_cl (W' := w_X8_wires) rfl (c_X8_wires I179.1 o205) rfl rfl rfl (I179.1.rc o205 rfl) I179 (by decide) L180 so_n ?_
            rintro w206 h207 c208 s209 hv I210 L211 F212
            obtain ⟨_, rfl, x213, rfl⟩ := hv
            show am_Ok _ _ _ (273, _, [.inl x213], h207, c208, s209) _
            exact k_fin rfl rfl (Or.inl ⟨_, rfl, ⟨_, rfl, _, rfl⟩, I210⟩)
    · refine k_c2 29 rfl rfl (if_neg b2) ?_
      refine k_iload 30 rfl g1 rfl ?_
      refine k_push 32 rfl rfl ?_
      by_cases b214 : (8 : Int32) < v1
      · refine k_c2 46 rfl rfl (if_pos b214) ?_
        refine k_iload 47 rfl g1 rfl ?_
        by_cases b215 : v1.toInt < 0 ∨ 23 < v1.toInt
        · refine k_sw 274 rfl (if_pos b215) ?_
          exact k_fin rfl rfl (Or.inr ⟨_, rfl, by decide, ob_I.thr hI⟩)
        · have b215 : v1.toInt = 0 ∨ v1.toInt = 1 ∨ v1.toInt = 2 ∨ v1.toInt = 3 ∨ v1.toInt = 4 ∨ v1.toInt = 5 ∨ v1.toInt = 6 ∨ v1.toInt = 7 ∨ v1.toInt = 8 ∨ v1.toInt = 9 ∨ v1.toInt = 10 ∨ v1.toInt = 11 ∨ v1.toInt = 12 ∨ v1.toInt = 13 ∨ v1.toInt = 14 ∨ v1.toInt = 15 ∨ v1.toInt = 16 ∨ v1.toInt = 17 ∨ v1.toInt = 18 ∨ v1.toInt = 19 ∨ v1.toInt = 20 ∨ v1.toInt = 21 ∨ v1.toInt = 22 ∨ v1.toInt = 23 := by omega
          rcases b215 with b215 | b215 | b215 | b215 | b215 | b215 | b215 | b215 | b215 | b215 | b215 | b215 | b215 | b215 | b215 | b215 | b215 | b215 | b215 | b215 | b215 | b215 | b215 | b215
          · refine k_sw 156 rfl (by unfold am_tb; rw [b215]; decide) ?_
            refine k_aload 157 rfl g0 rfl ?_
            obtain ⟨fs216, u217, e218, f219, t220⟩ := hI.1.get o0 (k := 10) rfl rfl
            obtain ⟨i221, rfl, o222⟩ := t220
            refine k_get 160 rfl e218 f219 rfl ?_
            refine k_cl (W' := w_X1_size) rfl (c_X1_size hI.1 o222) rfl rfl rfl (hI.1.rc o222 rfl) hI (by decide) hL so_n ?_
            rintro w223 h224 c225 s226 hv I227 L228 F229
            obtain ⟨_, rfl, x230, rfl⟩ := hv
            show am_Ok _ _ _ (163, _, [.inl x230], h224, c225, s226) _
            exact k_fin rfl rfl (Or.inl ⟨_, rfl, ⟨_, rfl, _, rfl⟩, I227⟩)
          · refine k_sw 164 rfl (by unfold am_tb; rw [b215]; decide) ?_
            refine k_aload 165 rfl g0 rfl ?_
            obtain ⟨fs231, u232, e233, f234, t235⟩ := hI.1.get o0 (k := 10) rfl rfl
            obtain ⟨i236, rfl, o237⟩ := t235
            refine k_get 168 rfl e233 f234 rfl ?_
            refine k_cl (W' := w_X1_activeWires) rfl (c_X1_activeWires hI.1 o237) rfl rfl rfl (hI.1.rc o237 rfl) hI (by decide) hL so_n ?_
            rintro w238 h239 c240 s241 hv I242 L243 F244
            obtain ⟨_, rfl, x245, rfl⟩ := hv
            show am_Ok _ _ _ (171, _, [.inl x245], h239, c240, s241) _
            exact k_fin rfl rfl (Or.inl ⟨_, rfl, ⟨_, rfl, _, rfl⟩, I242⟩)
          · refine k_sw 172 rfl (by unfold am_tb; rw [b215]; decide) ?_
            refine k_aload 173 rfl g0 rfl ?_
            obtain ⟨fs246, u247, e248, f249, t250⟩ := hI.1.get o0 (k := 10) rfl rfl
            obtain ⟨i251, rfl, o252⟩ := t250
            refine k_get 176 rfl e248 f249 rfl ?_
            refine k_cl (W' := w_X1_greatestLevel) rfl (c_X1_greatestLevel hI.1 o252) rfl rfl rfl (hI.1.rc o252 rfl) hI (by decide) hL so_n ?_
            rintro w253 h254 c255 s256 hv I257 L258 F259
            obtain ⟨_, rfl, x260, rfl⟩ := hv
            show am_Ok _ _ _ (179, _, [.inl x260], h254, c255, s256) _
            exact k_fin rfl rfl (Or.inl ⟨_, rfl, ⟨_, rfl, _, rfl⟩, I257⟩)
          · refine k_sw 274 rfl (by unfold am_tb; rw [b215]; decide) ?_
            exact k_fin rfl rfl (Or.inr ⟨_, rfl, by decide, ob_I.thr hI⟩)
          · refine k_sw 274 rfl (by unfold am_tb; rw [b215]; decide) ?_
            exact k_fin rfl rfl (Or.inr ⟨_, rfl, by decide, ob_I.thr hI⟩)
          · refine k_sw 274 rfl (by unfold am_tb; rw [b215]; decide) ?_
            exact k_fin rfl rfl (Or.inr ⟨_, rfl, by decide, ob_I.thr hI⟩)
          · refine k_sw 274 rfl (by unfold am_tb; rw [b215]; decide) ?_
            exact k_fin rfl rfl (Or.inr ⟨_, rfl, by decide, ob_I.thr hI⟩)
          · refine k_sw 274 rfl (by unfold am_tb; rw [b215]; decide) ?_
            exact k_fin rfl rfl (Or.inr ⟨_, rfl, by decide, ob_I.thr hI⟩)
          · refine k_sw 274 rfl (by unfold am_tb; rw [b215]; decide) ?_
            exact k_fin rfl rfl (Or.inr ⟨_, rfl, by decide, ob_I.thr hI⟩)
          · refine k_sw 180 rfl (by unfold am_tb; rw [b215]; decide) ?_
            refine k_aload 181 rfl g0 rfl ?_
            obtain ⟨fs261, u262, e263, f264, t265⟩ := hI.1.get o0 (k := 14) rfl rfl
            obtain ⟨x266, rfl⟩ := t265
            refine k_get 184 rfl e263 f264 rfl ?_
            exact k_fin rfl rfl (Or.inl ⟨_, rfl, ⟨_, rfl, _, rfl⟩, hI⟩)
          · refine k_sw 185 rfl (by unfold am_tb; rw [b215]; decide) ?_
            refine k_aload 186 rfl g0 rfl ?_
            refine k_push 187 rfl rfl ?_
            refine k_cl (W' := w_X9_termOf) rfl (c_X9_termOf hI.1 o0) rfl rfl rfl (hI.1.rc o0 rfl) hI (by decide) hL so_n ?_
            rintro w267 h268 c269 s270 hv I271 L272 F273
            rcases hv with rfl | ⟨i274, rfl, o275⟩
            · show am_Ok _ _ _ (190, _, [.inr (.inr none)], h268, c269, s270) _
              refine k_cl (W' := w_X9_sizeOf) rfl (c_X9_sizeOf_n I271.1 ) rfl rfl rfl rfl I271 (by decide) L272 so_n ?_
              rintro w276 h277 c278 s279 hv I280 L281 F282
              obtain ⟨_, rfl, x283, rfl⟩ := hv
              show am_Ok _ _ _ (193, _, [.inl x283], h277, c278, s279) _
              exact k_fin rfl rfl (Or.inl ⟨_, rfl, ⟨_, rfl, _, rfl⟩, I280⟩)
            · show am_Ok _ _ _ (190, _, [.inr (.inr (some i274))], h268, c269, s270) _
              refine k_cl (W' := w_X9_sizeOf) rfl (c_X9_sizeOf I271.1 o275) rfl rfl rfl rfl I271 (by decide) L272 so_n ?_
              rintro w284 h285 c286 s287 hv I288 L289 F290
              obtain ⟨_, rfl, x291, rfl⟩ := hv
              show am_Ok _ _ _ (193, _, [.inl x291], h285, c286, s287) _
              exact k_fin rfl rfl (Or.inl ⟨_, rfl, ⟨_, rfl, _, rfl⟩, I288⟩)
          · refine k_sw 194 rfl (by unfold am_tb; rw [b215]; decide) ?_
            refine k_aload 195 rfl g0 rfl ?_
            refine k_push 196 rfl rfl ?_
            refine k_cl (W' := w_X9_termOf) rfl (c_X9_termOf hI.1 o0) rfl rfl rfl (hI.1.rc o0 rfl) hI (by decide) hL so_n ?_
            rintro w292 h293 c294 s295 hv I296 L297 F298
            rcases hv with rfl | ⟨i299, rfl, o300⟩
            · show am_Ok _ _ _ (199, _, [.inr (.inr none)], h293, c294, s295) _
              refine k_nul 216 rfl rfl ?_
              refine k_push 217 rfl rfl ?_
              exact k_fin rfl rfl (Or.inl ⟨_, rfl, ⟨_, rfl, _, rfl⟩, I296⟩)
            · show am_Ok _ _ _ (199, _, [.inr (.inr (some i299))], h293, c294, s295) _
              refine k_non 202 rfl rfl ?_
              refine k_aload 203 rfl g0 rfl ?_
              obtain ⟨fs301, u302, e303, f304, t305⟩ := I296.1.get o0 (k := 2) rfl rfl
              obtain ⟨i306, rfl, o307⟩ := t305
              refine k_get 206 rfl e303 f304 rfl ?_
              refine k_cl (W' := w_X8_wantedWires) rfl (c_X8_wantedWires I296.1 o307) rfl rfl rfl (I296.1.rc o307 rfl) I296 (by decide) L297 so_n ?_
              rintro w308 h309 c310 s311 hv I312 L313 F314
              obtain ⟨_, rfl, x315, rfl⟩ := hv
              show am_Ok _ _ _ (209, _, [.inl x315], h309, c310, s311) _
              by_cases b316 : x315 = 0
              · refine k_c1 212 rfl rfl (if_pos b316) ?_
                refine k_push 213 rfl rfl ?_
                refine k_goto 217 rfl rfl ?_
                exact k_fin rfl rfl (Or.inl ⟨_, rfl, ⟨_, rfl, _, rfl⟩, I312⟩)
              · refine k_c1 216 rfl rfl (if_neg b316) ?_
                refine k_push 217 rfl rfl ?_
                exact k_fin rfl rfl (Or.inl ⟨_, rfl, ⟨_, rfl, _, rfl⟩, I312⟩)
          · refine k_sw 218 rfl (by unfold am_tb; rw [b215]; decide) ?_
            refine k_aload 219 rfl g0 rfl ?_
            refine k_push 220 rfl rfl ?_
            refine k_cl (W' := w_X9_termOf) rfl (c_X9_termOf hI.1 o0) rfl rfl rfl (hI.1.rc o0 rfl) hI (by decide) hL so_n ?_
            rintro w317 h318 c319 s320 hv I321 L322 F323
            rcases hv with rfl | ⟨i324, rfl, o325⟩
            · show am_Ok _ _ _ (223, _, [.inr (.inr none)], h318, c319, s320) _
              refine k_nul 226 rfl rfl ?_
              refine k_push 227 rfl rfl ?_
              refine k_goto 234 rfl rfl ?_
              exact k_fin rfl rfl (Or.inl ⟨_, rfl, ⟨_, rfl, _, rfl⟩, I321⟩)
            · show am_Ok _ _ _ (223, _, [.inr (.inr (some i324))], h318, c319, s320) _
              refine k_non 230 rfl rfl ?_
              refine k_aload 231 rfl g0 rfl ?_
              obtain ⟨fs326, u327, e328, f329, t330⟩ := I321.1.get o0 (k := 15) rfl rfl
              obtain ⟨x331, rfl⟩ := t330
              refine k_get 234 rfl e328 f329 rfl ?_
              exact k_fin rfl rfl (Or.inl ⟨_, rfl, ⟨_, rfl, _, rfl⟩, I321⟩)
          · refine k_sw 235 rfl (by unfold am_tb; rw [b215]; decide) ?_
            refine k_aload 236 rfl g0 rfl ?_
            refine k_push 237 rfl rfl ?_
            refine k_cl (W' := w_X9_termOf) rfl (c_X9_termOf hI.1 o0) rfl rfl rfl (hI.1.rc o0 rfl) hI (by decide) hL so_n ?_
            rintro w332 h333 c334 s335 hv I336 L337 F338
            rcases hv with rfl | ⟨i339, rfl, o340⟩
            · show am_Ok _ _ _ (240, _, [.inr (.inr none)], h333, c334, s335) _
              refine k_cl (W' := w_X9_sizeOf) rfl (c_X9_sizeOf_n I336.1 ) rfl rfl rfl rfl I336 (by decide) L337 so_n ?_
              rintro w341 h342 c343 s344 hv I345 L346 F347
              obtain ⟨_, rfl, x348, rfl⟩ := hv
              show am_Ok _ _ _ (243, _, [.inl x348], h342, c343, s344) _
              exact k_fin rfl rfl (Or.inl ⟨_, rfl, ⟨_, rfl, _, rfl⟩, I345⟩)
            · show am_Ok _ _ _ (240, _, [.inr (.inr (some i339))], h333, c334, s335) _
              refine k_cl (W' := w_X9_sizeOf) rfl (c_X9_sizeOf I336.1 o340) rfl rfl rfl rfl I336 (by decide) L337 so_n ?_
              rintro w349 h350 c351 s352 hv I353 L354 F355
              obtain ⟨_, rfl, x356, rfl⟩ := hv
              show am_Ok _ _ _ (243, _, [.inl x356], h350, c351, s352) _
              exact k_fin rfl rfl (Or.inl ⟨_, rfl, ⟨_, rfl, _, rfl⟩, I353⟩)
          · refine k_sw 244 rfl (by unfold am_tb; rw [b215]; decide) ?_
            refine k_aload 245 rfl g0 rfl ?_
            obtain ⟨fs357, u358, e359, f360, t361⟩ := hI.1.get o0 (k := 5) rfl rfl
            obtain ⟨i362, rfl, o363⟩ := t361
            refine k_get 248 rfl e359 f360 rfl ?_
            refine k_cl (W' := []) rfl (rw_size hI.1 (Or.inr o363)) rfl rfl rfl (hI.1.rc3 (Or.inr o363)) hI (by decide) hL so_n ?_
            rintro w364 h365 c366 s367 hv I368 L369 F370
            obtain ⟨_, rfl, x371, rfl⟩ := hv
            show am_Ok _ _ _ (251, _, [.inl x371], h365, c366, s367) _
            exact k_fin rfl rfl (Or.inl ⟨_, rfl, ⟨_, rfl, _, rfl⟩, I368⟩)
          · refine k_sw 252 rfl (by unfold am_tb; rw [b215]; decide) ?_
            refine k_aload 253 rfl g0 rfl ?_
            obtain ⟨fs372, u373, e374, f375, t376⟩ := hI.1.get o0 (k := 0) rfl rfl
            obtain ⟨i377, rfl, o378⟩ := t376
            refine k_get 256 rfl e374 f375 rfl ?_
            refine k_cl (W' := []) rfl (rw_size hI.1 (Or.inr o378)) rfl rfl rfl (hI.1.rc3 (Or.inr o378)) hI (by decide) hL so_n ?_
            rintro w379 h380 c381 s382 hv I383 L384 F385
            obtain ⟨_, rfl, x386, rfl⟩ := hv
            show am_Ok _ _ _ (259, _, [.inl x386], h380, c381, s382) _
            exact k_fin rfl rfl (Or.inl ⟨_, rfl, ⟨_, rfl, _, rfl⟩, I383⟩)
          · refine k_sw 274 rfl (by unfold am_tb; rw [b215]; decide) ?_
            exact k_fin rfl rfl (Or.inr ⟨_, rfl, by decide, ob_I.thr hI⟩)
          · refine k_sw 274 rfl (by unfold am_tb; rw [b215]; decide) ?_
            exact k_fin rfl rfl (Or.inr ⟨_, rfl, by decide, ob_I.thr hI⟩)
          · refine k_sw 274 rfl (by unfold am_tb; rw [b215]; decide) ?_
            exact k_fin rfl rfl (Or.inr ⟨_, rfl, by decide, ob_I.thr hI⟩)
          · refine k_sw 274 rfl (by unfold am_tb; rw [b215]; decide) ?_
            exact k_fin rfl rfl (Or.inr ⟨_, rfl, by decide, ob_I.thr hI⟩)
          · refine k_sw 274 rfl (by unfold am_tb; rw [b215]; decide) ?_
            exact k_fin rfl rfl (Or.inr ⟨_, rfl, by decide, ob_I.thr hI⟩)
          · refine k_sw 274 rfl (by unfold am_tb; rw [b215]; decide) ?_
            exact k_fin rfl rfl (Or.inr ⟨_, rfl, by decide, ob_I.thr hI⟩)
          · refine k_sw 274 rfl (by unfold am_tb; rw [b215]; decide) ?_
            exact k_fin rfl rfl (Or.inr ⟨_, rfl, by decide, ob_I.thr hI⟩)
          · refine k_sw 260 rfl (by unfold am_tb; rw [b215]; decide) ?_
            refine k_aload 261 rfl g0 rfl ?_
            refine k_push 262 rfl rfl ?_
            refine k_cl (W' := w_X9_termOf) rfl (c_X9_termOf hI.1 o0) rfl rfl rfl (hI.1.rc o0 rfl) hI (by decide) hL so_n ?_
            rintro w387 h388 c389 s390 hv I391 L392 F393
            rcases hv with rfl | ⟨i394, rfl, o395⟩
            · show am_Ok _ _ _ (265, _, [.inr (.inr none)], h388, c389, s390) _
              refine k_pop 266 rfl rfl rfl ?_
              refine k_aload 267 rfl g0 rfl ?_
              obtain ⟨fs396, u397, e398, f399, t400⟩ := I391.1.get o0 (k := 2) rfl rfl
              obtain ⟨i401, rfl, o402⟩ := t400
              refine k_get 270 rfl e398 f399 rfl ?_
              refine k_cl (W' := w_X8_wires) rfl (c_X8_wires I391.1 o402) rfl rfl rfl (I391.1.rc o402 rfl) I391 (by decide) L392 so_n ?_
              rintro w403 h404 c405 s406 hv I407 L408 F409
              obtain ⟨_, rfl, x410, rfl⟩ := hv
              show am_Ok _ _ _ (273, _, [.inl x410], h404, c405, s406) _
              exact k_fin rfl rfl (Or.inl ⟨_, rfl, ⟨_, rfl, _, rfl⟩, I407⟩)
            · show am_Ok _ _ _ (265, _, [.inr (.inr (some i394))], h388, c389, s390) _
              refine k_pop 266 rfl rfl rfl ?_
              refine k_aload 267 rfl g0 rfl ?_
              obtain ⟨fs411, u412, e413, f414, t415⟩ := I391.1.get o0 (k := 2) rfl rfl
              obtain ⟨i416, rfl, o417⟩ := t415
              refine k_get 270 rfl e413 f414 rfl ?_
              refine k_cl (W' := w_X8_wires) rfl (c_X8_wires I391.1 o417) rfl rfl rfl (I391.1.rc o417 rfl) I391 (by decide) L392 so_n ?_
              rintro w418 h419 c420 s421 hv I422 L423 F424
              obtain ⟨_, rfl, x425, rfl⟩ := hv
              show am_Ok _ _ _ (273, _, [.inl x425], h419, c420, s421) _
              exact k_fin rfl rfl (Or.inl ⟨_, rfl, ⟨_, rfl, _, rfl⟩, I422⟩)
      · refine k_c2 35 rfl rfl (if_neg b214) ?_
        refine k_aload 36 rfl g0 rfl ?_
        obtain ⟨fs426, u427, e428, f429, t430⟩ := hI.1.get o0 (k := 8) rfl rfl
        obtain ⟨i431, rfl, o432⟩ := t430
        refine k_get 39 rfl e428 f429 rfl ?_
        refine k_iload 40 rfl g1 rfl ?_
        refine k_push 41 rfl rfl ?_
        obtain ⟨x433, q434⟩ : ∃ q : Int32, q = (v1 - (3 : Int32)) := ⟨_, rfl⟩
        refine k_bin x433 42 rfl q434.symm rfl ?_
        refine k_cl (W' := []) rfl (rw_get hI.1 (Or.inl o432)) rfl rfl rfl (hI.1.rc3 (Or.inl o432)) hI (by decide) hL so_n ?_
        rintro w435 h436 c437 s438 hv I439 L440 F441
        obtain ⟨_, rfl, x442, rfl⟩ := hv
        show am_Ok _ _ _ (45, _, [.inl x442], h436, c437, s438) _
        exact k_fin rfl rfl (Or.inl ⟨_, rfl, ⟨_, rfl, _, rfl⟩, I439⟩)
  · refine k_c2 6 rfl rfl (if_neg b1) ?_
    refine k_iload 7 rfl g1 rfl ?_
    refine k_push 9 rfl rfl ?_
    by_cases b443 : (23 : Int32) ≤ v1
    · refine k_c2 24 rfl rfl (if_pos b443) ?_
      refine k_iload 25 rfl g1 rfl ?_
      refine k_push 26 rfl rfl ?_
      by_cases b444 : v1 < (3 : Int32)
      · refine k_c2 46 rfl rfl (if_pos b444) ?_
        refine k_iload 47 rfl g1 rfl ?_
        by_cases b445 : v1.toInt < 0 ∨ 23 < v1.toInt
        · refine k_sw 274 rfl (if_pos b445) ?_
          exact k_fin rfl rfl (Or.inr ⟨_, rfl, by decide, ob_I.thr hI⟩)
        · have b445 : v1.toInt = 0 ∨ v1.toInt = 1 ∨ v1.toInt = 2 ∨ v1.toInt = 3 ∨ v1.toInt = 4 ∨ v1.toInt = 5 ∨ v1.toInt = 6 ∨ v1.toInt = 7 ∨ v1.toInt = 8 ∨ v1.toInt = 9 ∨ v1.toInt = 10 ∨ v1.toInt = 11 ∨ v1.toInt = 12 ∨ v1.toInt = 13 ∨ v1.toInt = 14 ∨ v1.toInt = 15 ∨ v1.toInt = 16 ∨ v1.toInt = 17 ∨ v1.toInt = 18 ∨ v1.toInt = 19 ∨ v1.toInt = 20 ∨ v1.toInt = 21 ∨ v1.toInt = 22 ∨ v1.toInt = 23 := by omega
          rcases b445 with b445 | b445 | b445 | b445 | b445 | b445 | b445 | b445 | b445 | b445 | b445 | b445 | b445 | b445 | b445 | b445 | b445 | b445 | b445 | b445 | b445 | b445 | b445 | b445
          · refine k_sw 156 rfl (by unfold am_tb; rw [b445]; decide) ?_
            refine k_aload 157 rfl g0 rfl ?_
            obtain ⟨fs446, u447, e448, f449, t450⟩ := hI.1.get o0 (k := 10) rfl rfl
            obtain ⟨i451, rfl, o452⟩ := t450
            refine k_get 160 rfl e448 f449 rfl ?_
            refine k_cl (W' := w_X1_size) rfl (c_X1_size hI.1 o452) rfl rfl rfl (hI.1.rc o452 rfl) hI (by decide) hL so_n ?_
            rintro w453 h454 c455 s456 hv I457 L458 F459
            obtain ⟨_, rfl, x460, rfl⟩ := hv
            show am_Ok _ _ _ (163, _, [.inl x460], h454, c455, s456) _
            exact k_fin rfl rfl (Or.inl ⟨_, rfl, ⟨_, rfl, _, rfl⟩, I457⟩)
          · refine k_sw 164 rfl (by unfold am_tb; rw [b445]; decide) ?_
            refine k_aload 165 rfl g0 rfl ?_
            obtain ⟨fs461, u462, e463, f464, t465⟩ := hI.1.get o0 (k := 10) rfl rfl
            obtain ⟨i466, rfl, o467⟩ := t465
            refine k_get 168 rfl e463 f464 rfl ?_
            refine k_cl (W' := w_X1_activeWires) rfl (c_X1_activeWires hI.1 o467) rfl rfl rfl (hI.1.rc o467 rfl) hI (by decide) hL so_n ?_
            rintro w468 h469 c470 s471 hv I472 L473 F474
            obtain ⟨_, rfl, x475, rfl⟩ := hv
            show am_Ok _ _ _ (171, _, [.inl x475], h469, c470, s471) _
            exact k_fin rfl rfl (Or.inl ⟨_, rfl, ⟨_, rfl, _, rfl⟩, I472⟩)
          · refine k_sw 172 rfl (by unfold am_tb; rw [b445]; decide) ?_
            refine k_aload 173 rfl g0 rfl ?_
            obtain ⟨fs476, u477, e478, f479, t480⟩ := hI.1.get o0 (k := 10) rfl rfl
            obtain ⟨i481, rfl, o482⟩ := t480
            refine k_get 176 rfl e478 f479 rfl ?_
            refine k_cl (W' := w_X1_greatestLevel) rfl (c_X1_greatestLevel hI.1 o482) rfl rfl rfl (hI.1.rc o482 rfl) hI (by decide) hL so_n ?_
            rintro w483 h484 c485 s486 hv I487 L488 F489
            obtain ⟨_, rfl, x490, rfl⟩ := hv
            show am_Ok _ _ _ (179, _, [.inl x490], h484, c485, s486) _
            exact k_fin rfl rfl (Or.inl ⟨_, rfl, ⟨_, rfl, _, rfl⟩, I487⟩)
          · refine k_sw 274 rfl (by unfold am_tb; rw [b445]; decide) ?_
            exact k_fin rfl rfl (Or.inr ⟨_, rfl, by decide, ob_I.thr hI⟩)
          · refine k_sw 274 rfl (by unfold am_tb; rw [b445]; decide) ?_
            exact k_fin rfl rfl (Or.inr ⟨_, rfl, by decide, ob_I.thr hI⟩)
          · refine k_sw 274 rfl (by unfold am_tb; rw [b445]; decide) ?_
            exact k_fin rfl rfl (Or.inr ⟨_, rfl, by decide, ob_I.thr hI⟩)
          · refine k_sw 274 rfl (by unfold am_tb; rw [b445]; decide) ?_
            exact k_fin rfl rfl (Or.inr ⟨_, rfl, by decide, ob_I.thr hI⟩)
          · refine k_sw 274 rfl (by unfold am_tb; rw [b445]; decide) ?_
            exact k_fin rfl rfl (Or.inr ⟨_, rfl, by decide, ob_I.thr hI⟩)
          · refine k_sw 274 rfl (by unfold am_tb; rw [b445]; decide) ?_
            exact k_fin rfl rfl (Or.inr ⟨_, rfl, by decide, ob_I.thr hI⟩)
          · refine k_sw 180 rfl (by unfold am_tb; rw [b445]; decide) ?_
            refine k_aload 181 rfl g0 rfl ?_
            obtain ⟨fs491, u492, e493, f494, t495⟩ := hI.1.get o0 (k := 14) rfl rfl
            obtain ⟨x496, rfl⟩ := t495
            refine k_get 184 rfl e493 f494 rfl ?_
            exact k_fin rfl rfl (Or.inl ⟨_, rfl, ⟨_, rfl, _, rfl⟩, hI⟩)
          · refine k_sw 185 rfl (by unfold am_tb; rw [b445]; decide) ?_
            refine k_aload 186 rfl g0 rfl ?_
            refine k_push 187 rfl rfl ?_
            refine k_cl (W' := w_X9_termOf) rfl (c_X9_termOf hI.1 o0) rfl rfl rfl (hI.1.rc o0 rfl) hI (by decide) hL so_n ?_
            rintro w497 h498 c499 s500 hv I501 L502 F503
            rcases hv with rfl | ⟨i504, rfl, o505⟩
            · show am_Ok _ _ _ (190, _, [.inr (.inr none)], h498, c499, s500) _
              refine k_cl (W' := w_X9_sizeOf) rfl (c_X9_sizeOf_n I501.1 ) rfl rfl rfl rfl I501 (by decide) L502 so_n ?_
              rintro w506 h507 c508 s509 hv I510 L511 F512
              obtain ⟨_, rfl, x513, rfl⟩ := hv
              show am_Ok _ _ _ (193, _, [.inl x513], h507, c508, s509) _
              exact k_fin rfl rfl (Or.inl ⟨_, rfl, ⟨_, rfl, _, rfl⟩, I510⟩)
            · show am_Ok _ _ _ (190, _, [.inr (.inr (some i504))], h498, c499, s500) _
              refine k_cl (W' := w_X9_sizeOf) rfl (c_X9_sizeOf I501.1 o505) rfl rfl rfl rfl I501 (by decide) L502 so_n ?_
              rintro w514 h515 c516 s517 hv I518 L519 F520
              obtain ⟨_, rfl, x521, rfl⟩ := hv
              show am_Ok _ _ _ (193, _, [.inl x521], h515, c516, s517) _
              exact k_fin rfl rfl (Or.inl ⟨_, rfl, ⟨_, rfl, _, rfl⟩, I518⟩)
          · refine k_sw 194 rfl (by unfold am_tb; rw [b445]; decide) ?_
            refine k_aload 195 rfl g0 rfl ?_
            refine k_push 196 rfl rfl ?_
            refine k_cl (W' := w_X9_termOf) rfl (c_X9_termOf hI.1 o0) rfl rfl rfl (hI.1.rc o0 rfl) hI (by decide) hL so_n ?_
            rintro w522 h523 c524 s525 hv I526 L527 F528
            rcases hv with rfl | ⟨i529, rfl, o530⟩
            · show am_Ok _ _ _ (199, _, [.inr (.inr none)], h523, c524, s525) _
              refine k_nul 216 rfl rfl ?_
              refine k_push 217 rfl rfl ?_
              exact k_fin rfl rfl (Or.inl ⟨_, rfl, ⟨_, rfl, _, rfl⟩, I526⟩)
            · show am_Ok _ _ _ (199, _, [.inr (.inr (some i529))], h523, c524, s525) _
              refine k_non 202 rfl rfl ?_
              refine k_aload 203 rfl g0 rfl ?_
              obtain ⟨fs531, u532, e533, f534, t535⟩ := I526.1.get o0 (k := 2) rfl rfl
              obtain ⟨i536, rfl, o537⟩ := t535
              refine k_get 206 rfl e533 f534 rfl ?_
              refine k_cl (W' := w_X8_wantedWires) rfl (c_X8_wantedWires I526.1 o537) rfl rfl rfl (I526.1.rc o537 rfl) I526 (by decide) L527 so_n ?_
              rintro w538 h539 c540 s541 hv I542 L543 F544
              obtain ⟨_, rfl, x545, rfl⟩ := hv
              show am_Ok _ _ _ (209, _, [.inl x545], h539, c540, s541) _
              by_cases b546 : x545 = 0
              · refine k_c1 212 rfl rfl (if_pos b546) ?_
                refine k_push 213 rfl rfl ?_
                refine k_goto 217 rfl rfl ?_
                exact k_fin rfl rfl (Or.inl ⟨_, rfl, ⟨_, rfl, _, rfl⟩, I542⟩)
              · refine k_c1 216 rfl rfl (if_neg b546) ?_
                refine k_push 217 rfl rfl ?_
                exact k_fin rfl rfl (Or.inl ⟨_, rfl, ⟨_, rfl, _, rfl⟩, I542⟩)
          · refine k_sw 218 rfl (by unfold am_tb; rw [b445]; decide) ?_
            refine k_aload 219 rfl g0 rfl ?_
            refine k_push 220 rfl rfl ?_
            refine k_cl (W' := w_X9_termOf) rfl (c_X9_termOf hI.1 o0) rfl rfl rfl (hI.1.rc o0 rfl) hI (by decide) hL so_n ?_
            rintro w547 h548 c549 s550 hv I551 L552 F553
            rcases hv with rfl | ⟨i554, rfl, o555⟩
            · show am_Ok _ _ _ (223, _, [.inr (.inr none)], h548, c549, s550) _
              refine k_nul 226 rfl rfl ?_
              refine k_push 227 rfl rfl ?_
              refine k_goto 234 rfl rfl ?_
              exact k_fin rfl rfl (Or.inl ⟨_, rfl, ⟨_, rfl, _, rfl⟩, I551⟩)
            · show am_Ok _ _ _ (223, _, [.inr (.inr (some i554))], h548, c549, s550) _
              refine k_non 230 rfl rfl ?_
              refine k_aload 231 rfl g0 rfl ?_
              obtain ⟨fs556, u557, e558, f559, t560⟩ := I551.1.get o0 (k := 15) rfl rfl
              obtain ⟨x561, rfl⟩ := t560
              refine k_get 234 rfl e558 f559 rfl ?_
              exact k_fin rfl rfl (Or.inl ⟨_, rfl, ⟨_, rfl, _, rfl⟩, I551⟩)
          · refine k_sw 235 rfl (by unfold am_tb; rw [b445]; decide) ?_
            refine k_aload 236 rfl g0 rfl ?_
            refine k_push 237 rfl rfl ?_
            refine k_cl (W' := w_X9_termOf) rfl (c_X9_termOf hI.1 o0) rfl rfl rfl (hI.1.rc o0 rfl) hI (by decide) hL so_n ?_
            rintro w562 h563 c564 s565 hv I566 L567 F568
            rcases hv with rfl | ⟨i569, rfl, o570⟩
            · show am_Ok _ _ _ (240, _, [.inr (.inr none)], h563, c564, s565) _
              refine k_cl (W' := w_X9_sizeOf) rfl (c_X9_sizeOf_n I566.1 ) rfl rfl rfl rfl I566 (by decide) L567 so_n ?_
              rintro w571 h572 c573 s574 hv I575 L576 F577
              obtain ⟨_, rfl, x578, rfl⟩ := hv
              show am_Ok _ _ _ (243, _, [.inl x578], h572, c573, s574) _
              exact k_fin rfl rfl (Or.inl ⟨_, rfl, ⟨_, rfl, _, rfl⟩, I575⟩)
            · show am_Ok _ _ _ (240, _, [.inr (.inr (some i569))], h563, c564, s565) _
              refine k_cl (W' := w_X9_sizeOf) rfl (c_X9_sizeOf I566.1 o570) rfl rfl rfl rfl I566 (by decide) L567 so_n ?_
              rintro w579 h580 c581 s582 hv I583 L584 F585
              obtain ⟨_, rfl, x586, rfl⟩ := hv
              show am_Ok _ _ _ (243, _, [.inl x586], h580, c581, s582) _
              exact k_fin rfl rfl (Or.inl ⟨_, rfl, ⟨_, rfl, _, rfl⟩, I583⟩)
          · refine k_sw 244 rfl (by unfold am_tb; rw [b445]; decide) ?_
            refine k_aload 245 rfl g0 rfl ?_
            obtain ⟨fs587, u588, e589, f590, t591⟩ := hI.1.get o0 (k := 5) rfl rfl
            obtain ⟨i592, rfl, o593⟩ := t591
            refine k_get 248 rfl e589 f590 rfl ?_
            refine k_cl (W' := []) rfl (rw_size hI.1 (Or.inr o593)) rfl rfl rfl (hI.1.rc3 (Or.inr o593)) hI (by decide) hL so_n ?_
            rintro w594 h595 c596 s597 hv I598 L599 F600
            obtain ⟨_, rfl, x601, rfl⟩ := hv
            show am_Ok _ _ _ (251, _, [.inl x601], h595, c596, s597) _
            exact k_fin rfl rfl (Or.inl ⟨_, rfl, ⟨_, rfl, _, rfl⟩, I598⟩)
          · refine k_sw 252 rfl (by unfold am_tb; rw [b445]; decide) ?_
            refine k_aload 253 rfl g0 rfl ?_
            obtain ⟨fs602, u603, e604, f605, t606⟩ := hI.1.get o0 (k := 0) rfl rfl
            obtain ⟨i607, rfl, o608⟩ := t606
            refine k_get 256 rfl e604 f605 rfl ?_
            refine k_cl (W' := []) rfl (rw_size hI.1 (Or.inr o608)) rfl rfl rfl (hI.1.rc3 (Or.inr o608)) hI (by decide) hL so_n ?_
            rintro w609 h610 c611 s612 hv I613 L614 F615
            obtain ⟨_, rfl, x616, rfl⟩ := hv
            show am_Ok _ _ _ (259, _, [.inl x616], h610, c611, s612) _
            exact k_fin rfl rfl (Or.inl ⟨_, rfl, ⟨_, rfl, _, rfl⟩, I613⟩)
          · refine k_sw 274 rfl (by unfold am_tb; rw [b445]; decide) ?_
            exact k_fin rfl rfl (Or.inr ⟨_, rfl, by decide, ob_I.thr hI⟩)
          · refine k_sw 274 rfl (by unfold am_tb; rw [b445]; decide) ?_
            exact k_fin rfl rfl (Or.inr ⟨_, rfl, by decide, ob_I.thr hI⟩)
          · refine k_sw 274 rfl (by unfold am_tb; rw [b445]; decide) ?_
            exact k_fin rfl rfl (Or.inr ⟨_, rfl, by decide, ob_I.thr hI⟩)
          · refine k_sw 274 rfl (by unfold am_tb; rw [b445]; decide) ?_
            exact k_fin rfl rfl (Or.inr ⟨_, rfl, by decide, ob_I.thr hI⟩)
          · refine k_sw 274 rfl (by unfold am_tb; rw [b445]; decide) ?_
            exact k_fin rfl rfl (Or.inr ⟨_, rfl, by decide, ob_I.thr hI⟩)
          · refine k_sw 274 rfl (by unfold am_tb; rw [b445]; decide) ?_
            exact k_fin rfl rfl (Or.inr ⟨_, rfl, by decide, ob_I.thr hI⟩)
          · refine k_sw 274 rfl (by unfold am_tb; rw [b445]; decide) ?_
            exact k_fin rfl rfl (Or.inr ⟨_, rfl, by decide, ob_I.thr hI⟩)
          · refine k_sw 260 rfl (by unfold am_tb; rw [b445]; decide) ?_
            refine k_aload 261 rfl g0 rfl ?_
            refine k_push 262 rfl rfl ?_
            refine k_cl (W' := w_X9_termOf) rfl (c_X9_termOf hI.1 o0) rfl rfl rfl (hI.1.rc o0 rfl) hI (by decide) hL so_n ?_
            rintro w617 h618 c619 s620 hv I621 L622 F623
            rcases hv with rfl | ⟨i624, rfl, o625⟩
            · show am_Ok _ _ _ (265, _, [.inr (.inr none)], h618, c619, s620) _
              refine k_pop 266 rfl rfl rfl ?_
              refine k_aload 267 rfl g0 rfl ?_
              obtain ⟨fs626, u627, e628, f629, t630⟩ := I621.1.get o0 (k := 2) rfl rfl
              obtain ⟨i631, rfl, o632⟩ := t630
              refine k_get 270 rfl e628 f629 rfl ?_
              refine k_cl (W' := w_X8_wires) rfl (c_X8_wires I621.1 o632) rfl rfl rfl (I621.1.rc o632 rfl) I621 (by decide) L622 so_n ?_
              rintro w633 h634 c635 s636 hv I637 L638 F639
              obtain ⟨_, rfl, x640, rfl⟩ := hv
              show am_Ok _ _ _ (273, _, [.inl x640], h634, c635, s636) _
              exact k_fin rfl rfl (Or.inl ⟨_, rfl, ⟨_, rfl, _, rfl⟩, I637⟩)
            · show am_Ok _ _ _ (265, _, [.inr (.inr (some i624))], h618, c619, s620) _
              refine k_pop 266 rfl rfl rfl ?_
              refine k_aload 267 rfl g0 rfl ?_
              obtain ⟨fs641, u642, e643, f644, t645⟩ := I621.1.get o0 (k := 2) rfl rfl
              obtain ⟨i646, rfl, o647⟩ := t645
              refine k_get 270 rfl e643 f644 rfl ?_
              refine k_cl (W' := w_X8_wires) rfl (c_X8_wires I621.1 o647) rfl rfl rfl (I621.1.rc o647 rfl) I621 (by decide) L622 so_n ?_
              rintro w648 h649 c650 s651 hv I652 L653 F654
              obtain ⟨_, rfl, x655, rfl⟩ := hv
              show am_Ok _ _ _ (273, _, [.inl x655], h649, c650, s651) _
              exact k_fin rfl rfl (Or.inl ⟨_, rfl, ⟨_, rfl, _, rfl⟩, I652⟩)
      · refine k_c2 29 rfl rfl (if_neg b444) ?_
        refine k_iload 30 rfl g1 rfl ?_
        refine k_push 32 rfl rfl ?_
        by_cases b656 : (8 : Int32) < v1
        · refine k_c2 46 rfl rfl (if_pos b656) ?_
          refine k_iload 47 rfl g1 rfl ?_
          by_cases b657 : v1.toInt < 0 ∨ 23 < v1.toInt
          · refine k_sw 274 rfl (if_pos b657) ?_
            exact k_fin rfl rfl (Or.inr ⟨_, rfl, by decide, ob_I.thr hI⟩)
          · have b657 : v1.toInt = 0 ∨ v1.toInt = 1 ∨ v1.toInt = 2 ∨ v1.toInt = 3 ∨ v1.toInt = 4 ∨ v1.toInt = 5 ∨ v1.toInt = 6 ∨ v1.toInt = 7 ∨ v1.toInt = 8 ∨ v1.toInt = 9 ∨ v1.toInt = 10 ∨ v1.toInt = 11 ∨ v1.toInt = 12 ∨ v1.toInt = 13 ∨ v1.toInt = 14 ∨ v1.toInt = 15 ∨ v1.toInt = 16 ∨ v1.toInt = 17 ∨ v1.toInt = 18 ∨ v1.toInt = 19 ∨ v1.toInt = 20 ∨ v1.toInt = 21 ∨ v1.toInt = 22 ∨ v1.toInt = 23 := by omega
            rcases b657 with b657 | b657 | b657 | b657 | b657 | b657 | b657 | b657 | b657 | b657 | b657 | b657 | b657 | b657 | b657 | b657 | b657 | b657 | b657 | b657 | b657 | b657 | b657 | b657
            · refine k_sw 156 rfl (by unfold am_tb; rw [b657]; decide) ?_
              refine k_aload 157 rfl g0 rfl ?_
              obtain ⟨fs658, u659, e660, f661, t662⟩ := hI.1.get o0 (k := 10) rfl rfl
              obtain ⟨i663, rfl, o664⟩ := t662
              refine k_get 160 rfl e660 f661 rfl ?_
              refine k_cl (W' := w_X1_size) rfl (c_X1_size hI.1 o664) rfl rfl rfl (hI.1.rc o664 rfl) hI (by decide) hL so_n ?_
              rintro w665 h666 c667 s668 hv I669 L670 F671
              obtain ⟨_, rfl, x672, rfl⟩ := hv
              show am_Ok _ _ _ (163, _, [.inl x672], h666, c667, s668) _
              exact k_fin rfl rfl (Or.inl ⟨_, rfl, ⟨_, rfl, _, rfl⟩, I669⟩)
            · refine k_sw 164 rfl (by unfold am_tb; rw [b657]; decide) ?_
              refine k_aload 165 rfl g0 rfl ?_
              obtain ⟨fs673, u674, e675, f676, t677⟩ := hI.1.get o0 (k := 10) rfl rfl
              obtain ⟨i678, rfl, o679⟩ := t677
              refine k_get 168 rfl e675 f676 rfl ?_
              refine k_cl (W' := w_X1_activeWires) rfl (c_X1_activeWires hI.1 o679) rfl rfl rfl (hI.1.rc o679 rfl) hI (by decide) hL so_n ?_
              rintro w680 h681 c682 s683 hv I684 L685 F686
              obtain ⟨_, rfl, x687, rfl⟩ := hv
              show am_Ok _ _ _ (171, _, [.inl x687], h681, c682, s683) _
              exact k_fin rfl rfl (Or.inl ⟨_, rfl, ⟨_, rfl, _, rfl⟩, I684⟩)
            · refine k_sw 172 rfl (by unfold am_tb; rw [b657]; decide) ?_
              refine k_aload 173 rfl g0 rfl ?_
              obtain ⟨fs688, u689, e690, f691, t692⟩ := hI.1.get o0 (k := 10) rfl rfl
              obtain ⟨i693, rfl, o694⟩ := t692
              refine k_get 176 rfl e690 f691 rfl ?_
              refine k_cl (W' := w_X1_greatestLevel) rfl (c_X1_greatestLevel hI.1 o694) rfl rfl rfl (hI.1.rc o694 rfl) hI (by decide) hL so_n ?_
              rintro w695 h696 c697 s698 hv I699 L700 F701
              obtain ⟨_, rfl, x702, rfl⟩ := hv
              show am_Ok _ _ _ (179, _, [.inl x702], h696, c697, s698) _
              exact k_fin rfl rfl (Or.inl ⟨_, rfl, ⟨_, rfl, _, rfl⟩, I699⟩)
            · refine k_sw 274 rfl (by unfold am_tb; rw [b657]; decide) ?_
              exact k_fin rfl rfl (Or.inr ⟨_, rfl, by decide, ob_I.thr hI⟩)
            · refine k_sw 274 rfl (by unfold am_tb; rw [b657]; decide) ?_
              exact k_fin rfl rfl (Or.inr ⟨_, rfl, by decide, ob_I.thr hI⟩)
            · refine k_sw 274 rfl (by unfold am_tb; rw [b657]; decide) ?_
              exact k_fin rfl rfl (Or.inr ⟨_, rfl, by decide, ob_I.thr hI⟩)
            · refine k_sw 274 rfl (by unfold am_tb; rw [b657]; decide) ?_
              exact k_fin rfl rfl (Or.inr ⟨_, rfl, by decide, ob_I.thr hI⟩)
            · refine k_sw 274 rfl (by unfold am_tb; rw [b657]; decide) ?_
              exact k_fin rfl rfl (Or.inr ⟨_, rfl, by decide, ob_I.thr hI⟩)
            · refine k_sw 274 rfl (by unfold am_tb; rw [b657]; decide) ?_
              exact k_fin rfl rfl (Or.inr ⟨_, rfl, by decide, ob_I.thr hI⟩)
            · refine k_sw 180 rfl (by unfold am_tb; rw [b657]; decide) ?_
              refine k_aload 181 rfl g0 rfl ?_
              obtain ⟨fs703, u704, e705, f706, t707⟩ := hI.1.get o0 (k := 14) rfl rfl
              obtain ⟨x708, rfl⟩ := t707
              refine k_get 184 rfl e705 f706 rfl ?_
              exact k_fin rfl rfl (Or.inl ⟨_, rfl, ⟨_, rfl, _, rfl⟩, hI⟩)
            · refine k_sw 185 rfl (by unfold am_tb; rw [b657]; decide) ?_
              refine k_aload 186 rfl g0 rfl ?_
              refine k_push 187 rfl rfl ?_
              refine k_cl (W' := w_X9_termOf) rfl (c_X9_termOf hI.1 o0) rfl rfl rfl (hI.1.rc o0 rfl) hI (by decide) hL so_n ?_
              rintro w709 h710 c711 s712 hv I713 L714 F715
              rcases hv with rfl | ⟨i716, rfl, o717⟩
              · show am_Ok _ _ _ (190, _, [.inr (.inr none)], h710, c711, s712) _
                refine k_cl (W' := w_X9_sizeOf) rfl (c_X9_sizeOf_n I713.1 ) rfl rfl rfl rfl I713 (by decide) L714 so_n ?_
                rintro w718 h719 c720 s721 hv I722 L723 F724
                obtain ⟨_, rfl, x725, rfl⟩ := hv
                show am_Ok _ _ _ (193, _, [.inl x725], h719, c720, s721) _
                exact k_fin rfl rfl (Or.inl ⟨_, rfl, ⟨_, rfl, _, rfl⟩, I722⟩)
              · show am_Ok _ _ _ (190, _, [.inr (.inr (some i716))], h710, c711, s712) _
                refine k_cl (W' := w_X9_sizeOf) rfl (c_X9_sizeOf I713.1 o717) rfl rfl rfl rfl I713 (by decide) L714 so_n ?_
                rintro w726 h727 c728 s729 hv I730 L731 F732
                obtain ⟨_, rfl, x733, rfl⟩ := hv
                show am_Ok _ _ _ (193, _, [.inl x733], h727, c728, s729) _
                exact k_fin rfl rfl (Or.inl ⟨_, rfl, ⟨_, rfl, _, rfl⟩, I730⟩)
            · refine k_sw 194 rfl (by unfold am_tb; rw [b657]; decide) ?_
              refine k_aload 195 rfl g0 rfl ?_
              refine k_push 196 rfl rfl ?_
              refine k_cl (W' := w_X9_termOf) rfl (c_X9_termOf hI.1 o0) rfl rfl rfl (hI.1.rc o0 rfl) hI (by decide) hL so_n ?_
              rintro w734 h735 c736 s737 hv I738 L739 F740
              rcases hv with rfl | ⟨i741, rfl, o742⟩
              · show am_Ok _ _ _ (199, _, [.inr (.inr none)], h735, c736, s737) _
                refine k_nul 216 rfl rfl ?_
                refine k_push 217 rfl rfl ?_
                exact k_fin rfl rfl (Or.inl ⟨_, rfl, ⟨_, rfl, _, rfl⟩, I738⟩)
              · show am_Ok _ _ _ (199, _, [.inr (.inr (some i741))], h735, c736, s737) _
                refine k_non 202 rfl rfl ?_
                refine k_aload 203 rfl g0 rfl ?_
                obtain ⟨fs743, u744, e745, f746, t747⟩ := I738.1.get o0 (k := 2) rfl rfl
                obtain ⟨i748, rfl, o749⟩ := t747
                refine k_get 206 rfl e745 f746 rfl ?_
                refine k_cl (W' := w_X8_wantedWires) rfl (c_X8_wantedWires I738.1 o749) rfl rfl rfl (I738.1.rc o749 rfl) I738 (by decide) L739 so_n ?_
                rintro w750 h751 c752 s753 hv I754 L755 F756
                obtain ⟨_, rfl, x757, rfl⟩ := hv
                show am_Ok _ _ _ (209, _, [.inl x757], h751, c752, s753) _
                by_cases b758 : x757 = 0
                · refine k_c1 212 rfl rfl (if_pos b758) ?_
                  refine k_push 213 rfl rfl ?_
                  refine k_goto 217 rfl rfl ?_
                  exact k_fin rfl rfl (Or.inl ⟨_, rfl, ⟨_, rfl, _, rfl⟩, I754⟩)
                · refine k_c1 216 rfl rfl (if_neg b758) ?_
                  refine k_push 217 rfl rfl ?_
                  exact k_fin rfl rfl (Or.inl ⟨_, rfl, ⟨_, rfl, _, rfl⟩, I754⟩)
            · refine k_sw 218 rfl (by unfold am_tb; rw [b657]; decide) ?_
              refine k_aload 219 rfl g0 rfl ?_
              refine k_push 220 rfl rfl ?_
              refine k_cl (W' := w_X9_termOf) rfl (c_X9_termOf hI.1 o0) rfl rfl rfl (hI.1.rc o0 rfl) hI (by decide) hL so_n ?_
              rintro w759 h760 c761 s762 hv I763 L764 F765
              rcases hv with rfl | ⟨i766, rfl, o767⟩
              · show am_Ok _ _ _ (223, _, [.inr (.inr none)], h760, c761, s762) _
                refine k_nul 226 rfl rfl ?_
                refine k_push 227 rfl rfl ?_
                refine k_goto 234 rfl rfl ?_
                exact k_fin rfl rfl (Or.inl ⟨_, rfl, ⟨_, rfl, _, rfl⟩, I763⟩)
              · show am_Ok _ _ _ (223, _, [.inr (.inr (some i766))], h760, c761, s762) _
                refine k_non 230 rfl rfl ?_
                refine k_aload 231 rfl g0 rfl ?_
                obtain ⟨fs768, u769, e770, f771, t772⟩ := I763.1.get o0 (k := 15) rfl rfl
                obtain ⟨x773, rfl⟩ := t772
                refine k_get 234 rfl e770 f771 rfl ?_
                exact k_fin rfl rfl (Or.inl ⟨_, rfl, ⟨_, rfl, _, rfl⟩, I763⟩)
            · refine k_sw 235 rfl (by unfold am_tb; rw [b657]; decide) ?_
              refine k_aload 236 rfl g0 rfl ?_
              refine k_push 237 rfl rfl ?_
              refine k_cl (W' := w_X9_termOf) rfl (c_X9_termOf hI.1 o0) rfl rfl rfl (hI.1.rc o0 rfl) hI (by decide) hL so_n ?_
              rintro w774 h775 c776 s777 hv I778 L779 F780
              rcases hv with rfl | ⟨i781, rfl, o782⟩
              · show am_Ok _ _ _ (240, _, [.inr (.inr none)], h775, c776, s777) _
                refine k_cl (W' := w_X9_sizeOf) rfl (c_X9_sizeOf_n I778.1 ) rfl rfl rfl rfl I778 (by decide) L779 so_n ?_
                rintro w783 h784 c785 s786 hv I787 L788 F789
                obtain ⟨_, rfl, x790, rfl⟩ := hv
                show am_Ok _ _ _ (243, _, [.inl x790], h784, c785, s786) _
                exact k_fin rfl rfl (Or.inl ⟨_, rfl, ⟨_, rfl, _, rfl⟩, I787⟩)
              · show am_Ok _ _ _ (240, _, [.inr (.inr (some i781))], h775, c776, s777) _
                refine k_cl (W' := w_X9_sizeOf) rfl (c_X9_sizeOf I778.1 o782) rfl rfl rfl rfl I778 (by decide) L779 so_n ?_
                rintro w791 h792 c793 s794 hv I795 L796 F797
                obtain ⟨_, rfl, x798, rfl⟩ := hv
                show am_Ok _ _ _ (243, _, [.inl x798], h792, c793, s794) _
                exact k_fin rfl rfl (Or.inl ⟨_, rfl, ⟨_, rfl, _, rfl⟩, I795⟩)
            · refine k_sw 244 rfl (by unfold am_tb; rw [b657]; decide) ?_
              refine k_aload 245 rfl g0 rfl ?_
              obtain ⟨fs799, u800, e801, f802, t803⟩ := hI.1.get o0 (k := 5) rfl rfl
              obtain ⟨i804, rfl, o805⟩ := t803
              refine k_get 248 rfl e801 f802 rfl ?_
              refine k_cl (W' := []) rfl (rw_size hI.1 (Or.inr o805)) rfl rfl rfl (hI.1.rc3 (Or.inr o805)) hI (by decide) hL so_n ?_
              rintro w806 h807 c808 s809 hv I810 L811 F812
              obtain ⟨_, rfl, x813, rfl⟩ := hv
              show am_Ok _ _ _ (251, _, [.inl x813], h807, c808, s809) _
              exact k_fin rfl rfl (Or.inl ⟨_, rfl, ⟨_, rfl, _, rfl⟩, I810⟩)
            · refine k_sw 252 rfl (by unfold am_tb; rw [b657]; decide) ?_
              refine k_aload 253 rfl g0 rfl ?_
              obtain ⟨fs814, u815, e816, f817, t818⟩ := hI.1.get o0 (k := 0) rfl rfl
              obtain ⟨i819, rfl, o820⟩ := t818
              refine k_get 256 rfl e816 f817 rfl ?_
              refine k_cl (W' := []) rfl (rw_size hI.1 (Or.inr o820)) rfl rfl rfl (hI.1.rc3 (Or.inr o820)) hI (by decide) hL so_n ?_
              rintro w821 h822 c823 s824 hv I825 L826 F827
              obtain ⟨_, rfl, x828, rfl⟩ := hv
              show am_Ok _ _ _ (259, _, [.inl x828], h822, c823, s824) _
              exact k_fin rfl rfl (Or.inl ⟨_, rfl, ⟨_, rfl, _, rfl⟩, I825⟩)
            · refine k_sw 274 rfl (by unfold am_tb; rw [b657]; decide) ?_
              exact k_fin rfl rfl (Or.inr ⟨_, rfl, by decide, ob_I.thr hI⟩)
            · refine k_sw 274 rfl (by unfold am_tb; rw [b657]; decide) ?_
              exact k_fin rfl rfl (Or.inr ⟨_, rfl, by decide, ob_I.thr hI⟩)
            · refine k_sw 274 rfl (by unfold am_tb; rw [b657]; decide) ?_
              exact k_fin rfl rfl (Or.inr ⟨_, rfl, by decide, ob_I.thr hI⟩)
            · refine k_sw 274 rfl (by unfold am_tb; rw [b657]; decide) ?_
              exact k_fin rfl rfl (Or.inr ⟨_, rfl, by decide, ob_I.thr hI⟩)
            · refine k_sw 274 rfl (by unfold am_tb; rw [b657]; decide) ?_
              exact k_fin rfl rfl (Or.inr ⟨_, rfl, by decide, ob_I.thr hI⟩)
            · refine k_sw 274 rfl (by unfold am_tb; rw [b657]; decide) ?_
              exact k_fin rfl rfl (Or.inr ⟨_, rfl, by decide, ob_I.thr hI⟩)
            · refine k_sw 274 rfl (by unfold am_tb; rw [b657]; decide) ?_
              exact k_fin rfl rfl (Or.inr ⟨_, rfl, by decide, ob_I.thr hI⟩)
            · refine k_sw 260 rfl (by unfold am_tb; rw [b657]; decide) ?_
              refine k_aload 261 rfl g0 rfl ?_
              refine k_push 262 rfl rfl ?_
              refine k_cl (W' := w_X9_termOf) rfl (c_X9_termOf hI.1 o0) rfl rfl rfl (hI.1.rc o0 rfl) hI (by decide) hL so_n ?_
              rintro w829 h830 c831 s832 hv I833 L834 F835
              rcases hv with rfl | ⟨i836, rfl, o837⟩
              · show am_Ok _ _ _ (265, _, [.inr (.inr none)], h830, c831, s832) _
                refine k_pop 266 rfl rfl rfl ?_
                refine k_aload 267 rfl g0 rfl ?_
                obtain ⟨fs838, u839, e840, f841, t842⟩ := I833.1.get o0 (k := 2) rfl rfl
                obtain ⟨i843, rfl, o844⟩ := t842
                refine k_get 270 rfl e840 f841 rfl ?_
                refine k_cl (W' := w_X8_wires) rfl (c_X8_wires I833.1 o844) rfl rfl rfl (I833.1.rc o844 rfl) I833 (by decide) L834 so_n ?_
                rintro w845 h846 c847 s848 hv I849 L850 F851
                obtain ⟨_, rfl, x852, rfl⟩ := hv
                show am_Ok _ _ _ (273, _, [.inl x852], h846, c847, s848) _
                exact k_fin rfl rfl (Or.inl ⟨_, rfl, ⟨_, rfl, _, rfl⟩, I849⟩)
              · show am_Ok _ _ _ (265, _, [.inr (.inr (some i836))], h830, c831, s832) _
                refine k_pop 266 rfl rfl rfl ?_
                refine k_aload 267 rfl g0 rfl ?_
                obtain ⟨fs853, u854, e855, f856, t857⟩ := I833.1.get o0 (k := 2) rfl rfl
                obtain ⟨i858, rfl, o859⟩ := t857
                refine k_get 270 rfl e855 f856 rfl ?_
                refine k_cl (W' := w_X8_wires) rfl (c_X8_wires I833.1 o859) rfl rfl rfl (I833.1.rc o859 rfl) I833 (by decide) L834 so_n ?_
                rintro w860 h861 c862 s863 hv I864 L865 F866
                obtain ⟨_, rfl, x867, rfl⟩ := hv
                show am_Ok _ _ _ (273, _, [.inl x867], h861, c862, s863) _
                exact k_fin rfl rfl (Or.inl ⟨_, rfl, ⟨_, rfl, _, rfl⟩, I864⟩)
        · refine k_c2 35 rfl rfl (if_neg b656) ?_
          refine k_aload 36 rfl g0 rfl ?_
          obtain ⟨fs868, u869, e870, f871, t872⟩ := hI.1.get o0 (k := 8) rfl rfl
          obtain ⟨i873, rfl, o874⟩ := t872
          refine k_get 39 rfl e870 f871 rfl ?_
          refine k_iload 40 rfl g1 rfl ?_
          refine k_push 41 rfl rfl ?_
          obtain ⟨x875, q876⟩ : ∃ q : Int32, q = (v1 - (3 : Int32)) := ⟨_, rfl⟩
          refine k_bin x875 42 rfl q876.symm rfl ?_
          refine k_cl (W' := []) rfl (rw_get hI.1 (Or.inl o874)) rfl rfl rfl (hI.1.rc3 (Or.inl o874)) hI (by decide) hL so_n ?_
          rintro w877 h878 c879 s880 hv I881 L882 F883
          obtain ⟨_, rfl, x884, rfl⟩ := hv
          show am_Ok _ _ _ (45, _, [.inl x884], h878, c879, s880) _
          exact k_fin rfl rfl (Or.inl ⟨_, rfl, ⟨_, rfl, _, rfl⟩, I881⟩)
    · refine k_c2 12 rfl rfl (if_neg b443) ?_
      refine k_aload 13 rfl g0 rfl ?_
      obtain ⟨fs885, u886, e887, f888, t889⟩ := hI.1.get o0 (k := 10) rfl rfl
      obtain ⟨i890, rfl, o891⟩ := t889
      refine k_get 16 rfl e887 f888 rfl ?_
      refine k_iload 17 rfl g1 rfl ?_
      refine k_push 19 rfl rfl ?_
      obtain ⟨x892, q893⟩ : ∃ q : Int32, q = (v1 - (16 : Int32)) := ⟨_, rfl⟩
      refine k_bin x892 20 rfl q893.symm rfl ?_
      refine k_cl (W' := w_X1_sizeOfKind) rfl (c_X1_sizeOfKind hI.1 o891) rfl rfl rfl (hI.1.rc o891 rfl) hI (by decide) hL so_n ?_
      rintro w894 h895 c896 s897 hv I898 L899 F900
      obtain ⟨_, rfl, x901, rfl⟩ := hv
      show am_Ok _ _ _ (23, _, [.inl x901], h895, c896, s897) _
      exact k_fin rfl rfl (Or.inl ⟨_, rfl, ⟨_, rfl, _, rfl⟩, I898⟩)
theorem c_X9_count {h : am_h} {v0 : Nat} {v1 : Int32} (hT : ty_H h) (o0 : ob 9 v0) : am_Mt 8 136 [.inr (.inr (some v0)), .inl v1] h (ty_QX w_X9_count 2 [1] (ob_P h) h) := am_Mt.of (b_X9_count rfl o0 rfl (okA_r hT o0 (okA_i okA_n)) (ob_I.start hT))
abbrev w_X9_node : List (Nat × Nat) := []
theorem b_X9_node {B : Nat} {h0 : am_h} {lv : am_l} {h : am_h} {c s : Nat} {v0 : Nat} {v1 : Int32} {v2 : Int32} (g0 : am_get lv 0 = some (.inr (.inr (some v0)))) (o0 : ob 9 v0) (g1 : am_get lv 1 = some (.inl v1)) (g2 : am_get lv 2 = some (.inl v2)) (hL : am_okL h.length lv = true) (hI : ob_I w_X9_node B h0 h c s) : am_Ok am_G 2 137 (0, lv, [], h, c, s) (ty_QX w_X9_node 2 [1] B h0) := by
  refine k_aload 1 rfl g0 rfl ?_
  obtain ⟨fs1, u2, e3, f4, t5⟩ := hI.1.get o0 (k := 10) rfl rfl
  obtain ⟨i6, rfl, o7⟩ := t5
  refine k_get 4 rfl e3 f4 rfl ?_
  refine k_iload 5 rfl g1 rfl ?_
  refine k_cl (W' := w_X1_has) rfl (c_X1_has hI.1 o7) rfl rfl rfl (hI.1.rc o7 rfl) hI (by decide) hL so_n ?_
  rintro w8 h9 c10 s11 hv I12 L13 F14
  obtain ⟨_, rfl, x15, rfl, z16⟩ := hv
  show am_Ok _ _ _ (8, _, [.inl x15], h9, c10, s11) _
  by_cases b17 : x15 = 0
  · refine k_c1 20 rfl rfl (if_pos b17) ?_
    exact k_fin rfl rfl (Or.inr ⟨_, rfl, by decide, ob_I.thr I12⟩)
  · refine k_c1 11 rfl rfl (if_neg b17) ?_
    refine k_iload 12 rfl g2 rfl ?_
    by_cases b18 : v2 < 0
    · refine k_c1 20 rfl rfl (if_pos b18) ?_
      exact k_fin rfl rfl (Or.inr ⟨_, rfl, by decide, ob_I.thr I12⟩)
    · refine k_c1 15 rfl rfl (if_neg b18) ?_
      refine k_iload 16 rfl g2 rfl ?_
      refine k_push 17 rfl rfl ?_
      by_cases b19 : v2 ≤ (4 : Int32)
      · refine k_c2 30 rfl rfl (if_pos b19) ?_
        refine k_iload 31 rfl g2 rfl ?_
        by_cases b20 : v2 = 0
        · refine k_c1 34 rfl rfl (if_pos b20) ?_
          refine k_aload 35 rfl g0 rfl ?_
          obtain ⟨fs21, u22, e23, f24, t25⟩ := I12.1.get o0 (k := 10) rfl rfl
          obtain ⟨i26, rfl, o27⟩ := t25
          refine k_get 38 rfl e23 f24 rfl ?_
          refine k_iload 39 rfl g1 rfl ?_
          refine k_cl (W' := w_X1_kind) rfl (c_X1_kind I12.1 o27) rfl rfl rfl (I12.1.rc o27 rfl) I12 (by decide) L13 so_n ?_
          rintro w28 h29 c30 s31 hv I32 L33 F34
          obtain ⟨_, rfl, x35, rfl⟩ := hv
          show am_Ok _ _ _ (42, _, [.inl x35], h29, c30, s31) _
          exact k_fin rfl rfl (Or.inl ⟨_, rfl, ⟨_, rfl, _, rfl⟩, I32⟩)
        · refine k_c1 43 rfl rfl (if_neg b20) ?_
          refine k_iload 44 rfl g2 rfl ?_
          refine k_push 45 rfl rfl ?_
          by_cases b36 : v2 = (1 : Int32)
          · refine k_c2 48 rfl rfl (if_pos b36) ?_
            refine k_aload 49 rfl g0 rfl ?_
            obtain ⟨fs37, u38, e39, f40, t41⟩ := I12.1.get o0 (k := 10) rfl rfl
            obtain ⟨i42, rfl, o43⟩ := t41
            refine k_get 52 rfl e39 f40 rfl ?_
            refine k_iload 53 rfl g1 rfl ?_
            refine k_cl (W' := w_X1_level) rfl (c_X1_level I12.1 o43) rfl rfl rfl (I12.1.rc o43 rfl) I12 (by decide) L13 so_n ?_
            rintro w44 h45 c46 s47 hv I48 L49 F50
            obtain ⟨_, rfl, x51, rfl⟩ := hv
            show am_Ok _ _ _ (56, _, [.inl x51], h45, c46, s47) _
            exact k_fin rfl rfl (Or.inl ⟨_, rfl, ⟨_, rfl, _, rfl⟩, I48⟩)
          · refine k_c2 57 rfl rfl (if_neg b36) ?_
            refine k_iload 58 rfl g2 rfl ?_
            refine k_push 59 rfl rfl ?_
            obtain ⟨x52, q53⟩ : ∃ q : Int32, q = (v2 - (2 : Int32)) := ⟨_, rfl⟩
            refine k_bin x52 60 rfl q53.symm rfl ?_
            refine k_istore 61 rfl rfl ?_
            refine k_iload 62 rfl gs_eq rfl ?_
            refine k_aload 63 rfl (gs_ne rfl rfl g0) rfl ?_
            obtain ⟨fs54, u55, e56, f57, t58⟩ := I12.1.get o0 (k := 10) rfl rfl
            obtain ⟨i59, rfl, o60⟩ := t58
            refine k_get 66 rfl e56 f57 rfl ?_
            refine k_iload 67 rfl (gs_ne rfl rfl g1) rfl ?_
            refine k_cl (W' := w_X1_ports) rfl (c_X1_ports I12.1 o60) rfl rfl rfl (I12.1.rc o60 rfl) I12 (by decide) (okL_set (i := 3) (v := .inl x52) rfl L13) (so_i so_n) ?_
            rintro w61 h62 c63 s64 hv I65 L66 F67
            obtain ⟨_, rfl, x68, rfl⟩ := hv
            show am_Ok _ _ _ (70, _, [.inl x68, .inl x52], h62, c63, s64) _
            by_cases b69 : x68 ≤ x52
            · refine k_c2 88 rfl rfl (if_pos b69) ?_
              refine k_push 89 rfl rfl ?_
              exact k_fin rfl rfl (Or.inl ⟨_, rfl, ⟨_, rfl, _, rfl⟩, I65⟩)
            · refine k_c2 73 rfl rfl (if_neg b69) ?_
              refine k_aload 74 rfl (gs_ne rfl rfl g0) rfl ?_
              obtain ⟨fs70, u71, e72, f73, t74⟩ := I65.1.get o0 (k := 10) rfl rfl
              obtain ⟨i75, rfl, o76⟩ := t74
              refine k_get 77 rfl e72 f73 rfl ?_
              refine k_push 78 rfl rfl ?_
              refine k_iload 79 rfl (gs_ne rfl rfl g1) rfl ?_
              obtain ⟨x77, q78⟩ : ∃ q : Int32, q = ((4 : Int32) * v1) := ⟨_, rfl⟩
              refine k_bin x77 80 rfl q78.symm rfl ?_
              refine k_iload 81 rfl gs_eq rfl ?_
              obtain ⟨x79, q80⟩ : ∃ q : Int32, q = (x77 + x52) := ⟨_, rfl⟩
              refine k_bin x79 82 rfl q80.symm rfl ?_
              refine k_cl (W' := w_X1_wire) rfl (c_X1_wire I65.1 o76) rfl rfl rfl (I65.1.rc o76 rfl) I65 (by decide) L66 so_n ?_
              rintro w81 h82 c83 s84 hv I85 L86 F87
              obtain ⟨_, rfl, x88, rfl⟩ := hv
              show am_Ok _ _ _ (85, _, [.inl x88], h82, c83, s84) _
              refine k_goto 89 rfl rfl ?_
              exact k_fin rfl rfl (Or.inl ⟨_, rfl, ⟨_, rfl, _, rfl⟩, I85⟩)
      · refine k_c2 20 rfl rfl (if_neg b19) ?_
        exact k_fin rfl rfl (Or.inr ⟨_, rfl, by decide, ob_I.thr I12⟩)
theorem c_X9_node {h : am_h} {v0 : Nat} {v1 : Int32} {v2 : Int32} (hT : ty_H h) (o0 : ob 9 v0) : am_Mt 3 137 [.inr (.inr (some v0)), .inl v1, .inl v2] h (ty_QX w_X9_node 2 [1] (ob_P h) h) := am_Mt.of (b_X9_node rfl o0 rfl rfl (okA_r hT o0 (okA_i (okA_i okA_n))) (ob_I.start hT))
abbrev w_X9_active : List (Nat × Nat) := []
theorem b_X9_active {B : Nat} {h0 : am_h} {lv : am_l} {h : am_h} {c s : Nat} {v0 : Nat} {v1 : Int32} {v2 : Int32} (g0 : am_get lv 0 = some (.inr (.inr (some v0)))) (o0 : ob 9 v0) (g1 : am_get lv 1 = some (.inl v1)) (g2 : am_get lv 2 = some (.inl v2)) (hL : am_okL h.length lv = true) (hI : ob_I w_X9_active B h0 h c s) : am_Ok am_G 3 138 (0, lv, [], h, c, s) (ty_QX w_X9_active 2 [1] B h0) := by
  refine k_iload 1 rfl g1 rfl ?_
  by_cases b1 : v1 < 0
  · refine k_c1 13 rfl rfl (if_pos b1) ?_
    refine k_push 14 rfl rfl ?_
    refine k_goto 25 rfl rfl ?_
    refine k_istore 26 rfl rfl ?_
    refine k_iload 27 rfl gs_eq rfl ?_
    refine k_push 28 rfl rfl ?_
    by_cases b2 : (-1 : Int32) = (-1 : Int32)
    · refine k_c2 31 rfl rfl (if_pos b2) ?_
      exact k_fin rfl rfl (Or.inr ⟨_, rfl, by decide, ob_I.thr hI⟩)
    · refine k_c2 41 rfl rfl (if_neg b2) ?_
      refine k_aload 42 rfl (gs_ne rfl rfl g0) rfl ?_
      obtain ⟨fs3, u4, e5, f6, t7⟩ := hI.1.get o0 (k := 10) rfl rfl
      obtain ⟨i8, rfl, o9⟩ := t7
      refine k_get 45 rfl e5 f6 rfl ?_
      refine k_push 46 rfl rfl ?_
      refine k_iload 47 rfl gs_eq rfl ?_
      obtain ⟨x10, q11⟩ : ∃ q : Int32, q = ((4 : Int32) * (-1 : Int32)) := ⟨_, rfl⟩
      refine k_bin x10 48 rfl q11.symm rfl ?_
      refine k_cl (W' := w_X1_wire) rfl (c_X1_wire hI.1 o9) rfl rfl rfl (hI.1.rc o9 rfl) hI (by decide) (okL_set (i := 3) (v := .inl (-1 : Int32)) rfl hL) so_n ?_
      rintro w12 h13 c14 s15 hv I16 L17 F18
      obtain ⟨_, rfl, x19, rfl⟩ := hv
      show am_Ok _ _ _ (51, _, [.inl x19], h13, c14, s15) _
      refine k_push 52 rfl rfl ?_
      obtain ⟨x20, q21⟩ : ∃ q : Int32, q = (x19 / (4 : Int32)) := ⟨_, rfl⟩
      refine k_divZ x20 53 rfl (by decide) q21.symm rfl ?_
      refine k_istore 55 rfl rfl ?_
      refine k_iload 56 rfl (gs_ne rfl rfl (gs_ne rfl rfl g2)) rfl ?_
      refine k_push 57 rfl rfl ?_
      by_cases b22 : v2 = (2 : Int32)
      · refine k_c2 60 rfl rfl (if_pos b22) ?_
        refine k_aload 61 rfl (gs_ne rfl rfl (gs_ne rfl rfl g0)) rfl ?_
        obtain ⟨fs23, u24, e25, f26, t27⟩ := I16.1.get o0 (k := 10) rfl rfl
        obtain ⟨i28, rfl, o29⟩ := t27
        refine k_get 64 rfl e25 f26 rfl ?_
        refine k_iload 65 rfl (gs_ne rfl rfl gs_eq) rfl ?_
        refine k_iload 67 rfl gs_eq rfl ?_
        refine k_cl (W' := w_X1_stepKind) rfl (c_X1_stepKind I16.1 o29) rfl rfl rfl (I16.1.rc o29 rfl) I16 (by decide) (okL_set (i := 4) (v := .inl x20) rfl L17) so_n ?_
        rintro w30 h31 c32 s33 hv I34 L35 F36
        obtain ⟨_, rfl, x37, rfl⟩ := hv
        show am_Ok _ _ _ (70, _, [.inl x37], h31, c32, s33) _
        exact k_fin rfl rfl (Or.inl ⟨_, rfl, ⟨_, rfl, _, rfl⟩, I34⟩)
      · refine k_c2 71 rfl rfl (if_neg b22) ?_
        refine k_iload 72 rfl (gs_ne rfl rfl (gs_ne rfl rfl g2)) rfl ?_
        by_cases b38 : v2 = 0
        · refine k_c1 75 rfl rfl (if_pos b38) ?_
          refine k_iload 76 rfl (gs_ne rfl rfl gs_eq) rfl ?_
          refine k_goto 81 rfl rfl ?_
          exact k_fin rfl rfl (Or.inl ⟨_, rfl, ⟨_, rfl, _, rfl⟩, I16⟩)
        · refine k_c1 79 rfl rfl (if_neg b38) ?_
          refine k_iload 81 rfl gs_eq rfl ?_
          exact k_fin rfl rfl (Or.inl ⟨_, rfl, ⟨_, rfl, _, rfl⟩, I16⟩)
  · refine k_c1 4 rfl rfl (if_neg b1) ?_
    refine k_iload 5 rfl g2 rfl ?_
    by_cases b39 : v2 < 0
    · refine k_c1 13 rfl rfl (if_pos b39) ?_
      refine k_push 14 rfl rfl ?_
      refine k_goto 25 rfl rfl ?_
      refine k_istore 26 rfl rfl ?_
      refine k_iload 27 rfl gs_eq rfl ?_
      refine k_push 28 rfl rfl ?_
      by_cases b40 : (-1 : Int32) = (-1 : Int32)
      · refine k_c2 31 rfl rfl (if_pos b40) ?_
        exact k_fin rfl rfl (Or.inr ⟨_, rfl, by decide, ob_I.thr hI⟩)
      · refine k_c2 41 rfl rfl (if_neg b40) ?_
        refine k_aload 42 rfl (gs_ne rfl rfl g0) rfl ?_
        obtain ⟨fs41, u42, e43, f44, t45⟩ := hI.1.get o0 (k := 10) rfl rfl
        obtain ⟨i46, rfl, o47⟩ := t45
        refine k_get 45 rfl e43 f44 rfl ?_
        refine k_push 46 rfl rfl ?_
        refine k_iload 47 rfl gs_eq rfl ?_
        obtain ⟨x48, q49⟩ : ∃ q : Int32, q = ((4 : Int32) * (-1 : Int32)) := ⟨_, rfl⟩
        refine k_bin x48 48 rfl q49.symm rfl ?_
        refine k_cl (W' := w_X1_wire) rfl (c_X1_wire hI.1 o47) rfl rfl rfl (hI.1.rc o47 rfl) hI (by decide) (okL_set (i := 3) (v := .inl (-1 : Int32)) rfl hL) so_n ?_
        rintro w50 h51 c52 s53 hv I54 L55 F56
        obtain ⟨_, rfl, x57, rfl⟩ := hv
        show am_Ok _ _ _ (51, _, [.inl x57], h51, c52, s53) _
        refine k_push 52 rfl rfl ?_
        obtain ⟨x58, q59⟩ : ∃ q : Int32, q = (x57 / (4 : Int32)) := ⟨_, rfl⟩
        refine k_divZ x58 53 rfl (by decide) q59.symm rfl ?_
        refine k_istore 55 rfl rfl ?_
        refine k_iload 56 rfl (gs_ne rfl rfl (gs_ne rfl rfl g2)) rfl ?_
        refine k_push 57 rfl rfl ?_
        by_cases b60 : v2 = (2 : Int32)
        · refine k_c2 60 rfl rfl (if_pos b60) ?_
          refine k_aload 61 rfl (gs_ne rfl rfl (gs_ne rfl rfl g0)) rfl ?_
          obtain ⟨fs61, u62, e63, f64, t65⟩ := I54.1.get o0 (k := 10) rfl rfl
          obtain ⟨i66, rfl, o67⟩ := t65
          refine k_get 64 rfl e63 f64 rfl ?_
          refine k_iload 65 rfl (gs_ne rfl rfl gs_eq) rfl ?_
          refine k_iload 67 rfl gs_eq rfl ?_
          refine k_cl (W' := w_X1_stepKind) rfl (c_X1_stepKind I54.1 o67) rfl rfl rfl (I54.1.rc o67 rfl) I54 (by decide) (okL_set (i := 4) (v := .inl x58) rfl L55) so_n ?_
          rintro w68 h69 c70 s71 hv I72 L73 F74
          obtain ⟨_, rfl, x75, rfl⟩ := hv
          show am_Ok _ _ _ (70, _, [.inl x75], h69, c70, s71) _
          exact k_fin rfl rfl (Or.inl ⟨_, rfl, ⟨_, rfl, _, rfl⟩, I72⟩)
        · refine k_c2 71 rfl rfl (if_neg b60) ?_
          refine k_iload 72 rfl (gs_ne rfl rfl (gs_ne rfl rfl g2)) rfl ?_
          by_cases b76 : v2 = 0
          · refine k_c1 75 rfl rfl (if_pos b76) ?_
            refine k_iload 76 rfl (gs_ne rfl rfl gs_eq) rfl ?_
            refine k_goto 81 rfl rfl ?_
            exact k_fin rfl rfl (Or.inl ⟨_, rfl, ⟨_, rfl, _, rfl⟩, I54⟩)
          · refine k_c1 79 rfl rfl (if_neg b76) ?_
            refine k_iload 81 rfl gs_eq rfl ?_
            exact k_fin rfl rfl (Or.inl ⟨_, rfl, ⟨_, rfl, _, rfl⟩, I54⟩)
    · refine k_c1 8 rfl rfl (if_neg b39) ?_
      refine k_iload 9 rfl g2 rfl ?_
      refine k_push 10 rfl rfl ?_
      by_cases b77 : v2 ≤ (2 : Int32)
      · refine k_c2 17 rfl rfl (if_pos b77) ?_
        refine k_aload 18 rfl g0 rfl ?_
        obtain ⟨fs78, u79, e80, f81, t82⟩ := hI.1.get o0 (k := 10) rfl rfl
        obtain ⟨i83, rfl, o84⟩ := t82
        refine k_get 21 rfl e80 f81 rfl ?_
        refine k_iload 22 rfl g1 rfl ?_
        refine k_cl (W' := w_X1_activeNode) rfl (c_X1_activeNode hI.1 o84) rfl rfl rfl (hI.1.rc o84 rfl) hI (by decide) hL so_n ?_
        rintro w85 h86 c87 s88 hv I89 L90 F91
        obtain ⟨_, rfl, x92, rfl⟩ := hv
        show am_Ok _ _ _ (25, _, [.inl x92], h86, c87, s88) _
        refine k_istore 26 rfl rfl ?_
        refine k_iload 27 rfl gs_eq rfl ?_
        refine k_push 28 rfl rfl ?_
        by_cases b93 : x92 = (-1 : Int32)
        · refine k_c2 31 rfl rfl (if_pos b93) ?_
          exact k_fin rfl rfl (Or.inr ⟨_, rfl, by decide, ob_I.thr I89⟩)
        · refine k_c2 41 rfl rfl (if_neg b93) ?_
          refine k_aload 42 rfl (gs_ne rfl rfl g0) rfl ?_
          obtain ⟨fs94, u95, e96, f97, t98⟩ := I89.1.get o0 (k := 10) rfl rfl
          obtain ⟨i99, rfl, o100⟩ := t98
          refine k_get 45 rfl e96 f97 rfl ?_
          refine k_push 46 rfl rfl ?_
          refine k_iload 47 rfl gs_eq rfl ?_
          obtain ⟨x101, q102⟩ : ∃ q : Int32, q = ((4 : Int32) * x92) := ⟨_, rfl⟩
          refine k_bin x101 48 rfl q102.symm rfl ?_
          refine k_cl (W' := w_X1_wire) rfl (c_X1_wire I89.1 o100) rfl rfl rfl (I89.1.rc o100 rfl) I89 (by decide) (okL_set (i := 3) (v := .inl x92) rfl L90) so_n ?_
          rintro w103 h104 c105 s106 hv I107 L108 F109
          obtain ⟨_, rfl, x110, rfl⟩ := hv
          show am_Ok _ _ _ (51, _, [.inl x110], h104, c105, s106) _
          refine k_push 52 rfl rfl ?_
          obtain ⟨x111, q112⟩ : ∃ q : Int32, q = (x110 / (4 : Int32)) := ⟨_, rfl⟩
          refine k_divZ x111 53 rfl (by decide) q112.symm rfl ?_
          refine k_istore 55 rfl rfl ?_
          refine k_iload 56 rfl (gs_ne rfl rfl (gs_ne rfl rfl g2)) rfl ?_
          refine k_push 57 rfl rfl ?_
          by_cases b113 : v2 = (2 : Int32)
          · refine k_c2 60 rfl rfl (if_pos b113) ?_
            refine k_aload 61 rfl (gs_ne rfl rfl (gs_ne rfl rfl g0)) rfl ?_
            obtain ⟨fs114, u115, e116, f117, t118⟩ := I107.1.get o0 (k := 10) rfl rfl
            obtain ⟨i119, rfl, o120⟩ := t118
            refine k_get 64 rfl e116 f117 rfl ?_
            refine k_iload 65 rfl (gs_ne rfl rfl gs_eq) rfl ?_
            refine k_iload 67 rfl gs_eq rfl ?_
            refine k_cl (W' := w_X1_stepKind) rfl (c_X1_stepKind I107.1 o120) rfl rfl rfl (I107.1.rc o120 rfl) I107 (by decide) (okL_set (i := 4) (v := .inl x111) rfl L108) so_n ?_
            rintro w121 h122 c123 s124 hv I125 L126 F127
            obtain ⟨_, rfl, x128, rfl⟩ := hv
            show am_Ok _ _ _ (70, _, [.inl x128], h122, c123, s124) _
            exact k_fin rfl rfl (Or.inl ⟨_, rfl, ⟨_, rfl, _, rfl⟩, I125⟩)
          · refine k_c2 71 rfl rfl (if_neg b113) ?_
            refine k_iload 72 rfl (gs_ne rfl rfl (gs_ne rfl rfl g2)) rfl ?_
            by_cases b129 : v2 = 0
            · refine k_c1 75 rfl rfl (if_pos b129) ?_
              refine k_iload 76 rfl (gs_ne rfl rfl gs_eq) rfl ?_
              refine k_goto 81 rfl rfl ?_
              exact k_fin rfl rfl (Or.inl ⟨_, rfl, ⟨_, rfl, _, rfl⟩, I107⟩)
            · refine k_c1 79 rfl rfl (if_neg b129) ?_
              refine k_iload 81 rfl gs_eq rfl ?_
              exact k_fin rfl rfl (Or.inl ⟨_, rfl, ⟨_, rfl, _, rfl⟩, I107⟩)
      · refine k_c2 13 rfl rfl (if_neg b77) ?_
        refine k_push 14 rfl rfl ?_
        refine k_goto 25 rfl rfl ?_
        refine k_istore 26 rfl rfl ?_
        refine k_iload 27 rfl gs_eq rfl ?_
        refine k_push 28 rfl rfl ?_
        by_cases b130 : (-1 : Int32) = (-1 : Int32)
        · refine k_c2 31 rfl rfl (if_pos b130) ?_
          exact k_fin rfl rfl (Or.inr ⟨_, rfl, by decide, ob_I.thr hI⟩)
        · refine k_c2 41 rfl rfl (if_neg b130) ?_
          refine k_aload 42 rfl (gs_ne rfl rfl g0) rfl ?_
          obtain ⟨fs131, u132, e133, f134, t135⟩ := hI.1.get o0 (k := 10) rfl rfl
          obtain ⟨i136, rfl, o137⟩ := t135
          refine k_get 45 rfl e133 f134 rfl ?_
          refine k_push 46 rfl rfl ?_
          refine k_iload 47 rfl gs_eq rfl ?_
          obtain ⟨x138, q139⟩ : ∃ q : Int32, q = ((4 : Int32) * (-1 : Int32)) := ⟨_, rfl⟩
          refine k_bin x138 48 rfl q139.symm rfl ?_
          refine k_cl (W' := w_X1_wire) rfl (c_X1_wire hI.1 o137) rfl rfl rfl (hI.1.rc o137 rfl) hI (by decide) (okL_set (i := 3) (v := .inl (-1 : Int32)) rfl hL) so_n ?_
          rintro w140 h141 c142 s143 hv I144 L145 F146
          obtain ⟨_, rfl, x147, rfl⟩ := hv
          show am_Ok _ _ _ (51, _, [.inl x147], h141, c142, s143) _
          refine k_push 52 rfl rfl ?_
          obtain ⟨x148, q149⟩ : ∃ q : Int32, q = (x147 / (4 : Int32)) := ⟨_, rfl⟩
          refine k_divZ x148 53 rfl (by decide) q149.symm rfl ?_
          refine k_istore 55 rfl rfl ?_
          refine k_iload 56 rfl (gs_ne rfl rfl (gs_ne rfl rfl g2)) rfl ?_
          refine k_push 57 rfl rfl ?_
          by_cases b150 : v2 = (2 : Int32)
          · refine k_c2 60 rfl rfl (if_pos b150) ?_
            refine k_aload 61 rfl (gs_ne rfl rfl (gs_ne rfl rfl g0)) rfl ?_
            obtain ⟨fs151, u152, e153, f154, t155⟩ := I144.1.get o0 (k := 10) rfl rfl
            obtain ⟨i156, rfl, o157⟩ := t155
            refine k_get 64 rfl e153 f154 rfl ?_
            refine k_iload 65 rfl (gs_ne rfl rfl gs_eq) rfl ?_
            refine k_iload 67 rfl gs_eq rfl ?_
            refine k_cl (W' := w_X1_stepKind) rfl (c_X1_stepKind I144.1 o157) rfl rfl rfl (I144.1.rc o157 rfl) I144 (by decide) (okL_set (i := 4) (v := .inl x148) rfl L145) so_n ?_
            rintro w158 h159 c160 s161 hv I162 L163 F164
            obtain ⟨_, rfl, x165, rfl⟩ := hv
            show am_Ok _ _ _ (70, _, [.inl x165], h159, c160, s161) _
            exact k_fin rfl rfl (Or.inl ⟨_, rfl, ⟨_, rfl, _, rfl⟩, I162⟩)
          · refine k_c2 71 rfl rfl (if_neg b150) ?_
            refine k_iload 72 rfl (gs_ne rfl rfl (gs_ne rfl rfl g2)) rfl ?_
            by_cases b166 : v2 = 0
            · refine k_c1 75 rfl rfl (if_pos b166) ?_
              refine k_iload 76 rfl (gs_ne rfl rfl gs_eq) rfl ?_
              refine k_goto 81 rfl rfl ?_
              exact k_fin rfl rfl (Or.inl ⟨_, rfl, ⟨_, rfl, _, rfl⟩, I144⟩)
            · refine k_c1 79 rfl rfl (if_neg b166) ?_
              refine k_iload 81 rfl gs_eq rfl ?_
              exact k_fin rfl rfl (Or.inl ⟨_, rfl, ⟨_, rfl, _, rfl⟩, I144⟩)
theorem c_X9_active {h : am_h} {v0 : Nat} {v1 : Int32} {v2 : Int32} (hT : ty_H h) (o0 : ob 9 v0) : am_Mt 4 138 [.inr (.inr (some v0)), .inl v1, .inl v2] h (ty_QX w_X9_active 2 [1] (ob_P h) h) := am_Mt.of (b_X9_active rfl o0 rfl rfl (okA_r hT o0 (okA_i (okA_i okA_n))) (ob_I.start hT))
abbrev w_X9_wanted : List (Nat × Nat) := [(2, 2), (2, 3), (2, 4), (2, 5), (8, 5), (8, 6), (8, 7), (8, 8), (9, 15), (9, 16), (9, 17)]
theorem b_X9_wanted {B : Nat} {h0 : am_h} {lv : am_l} {h : am_h} {c s : Nat} {v0 : Nat} {v1 : Int32} (g0 : am_get lv 0 = some (.inr (.inr (some v0)))) (o0 : ob 9 v0) (g1 : am_get lv 1 = some (.inl v1)) (hL : am_okL h.length lv = true) (hI : ob_I w_X9_wanted B h0 h c s) : am_Ok am_G 7 139 (0, lv, [], h, c, s) (ty_QX w_X9_wanted 2 [1] B h0) := by
  refine k_iload 1 rfl g1 rfl ?_
  by_cases b1 : v1 < 0
  · refine k_c1 9 rfl rfl (if_pos b1) ?_
    exact k_fin rfl rfl (Or.inr ⟨_, rfl, by decide, ob_I.thr hI⟩)
  · refine k_c1 4 rfl rfl (if_neg b1) ?_
    refine k_iload 5 rfl g1 rfl ?_
    refine k_push 6 rfl rfl ?_
    by_cases b2 : v1 ≤ (2 : Int32)
    · refine k_c2 19 rfl rfl (if_pos b2) ?_
      refine k_aload 20 rfl g0 rfl ?_
      refine k_push 21 rfl rfl ?_
      refine k_cl (W' := w_X9_termOf) rfl (c_X9_termOf hI.1 o0) rfl rfl rfl (hI.1.rc o0 rfl) hI (by decide) hL so_n ?_
      rintro w3 h4 c5 s6 hv I7 L8 F9
      rcases hv with rfl | ⟨i10, rfl, o11⟩
      · show am_Ok _ _ _ (24, _, [.inr (.inr none)], h4, c5, s6) _
        refine k_pop 25 rfl rfl rfl ?_
        refine k_iload 26 rfl g1 rfl ?_
        refine k_push 27 rfl rfl ?_
        by_cases b12 : v1 = (2 : Int32)
        · refine k_c2 30 rfl rfl (if_pos b12) ?_
          refine k_aload 31 rfl g0 rfl ?_
          obtain ⟨fs13, u14, e15, f16, t17⟩ := I7.1.get o0 (k := 2) rfl rfl
          obtain ⟨i18, rfl, o19⟩ := t17
          refine k_get 34 rfl e15 f16 rfl ?_
          refine k_cl (W' := w_X8_wantedWires) rfl (c_X8_wantedWires I7.1 o19) rfl rfl rfl (I7.1.rc o19 rfl) I7 (by decide) L8 so_n ?_
          rintro w20 h21 c22 s23 hv I24 L25 F26
          obtain ⟨_, rfl, x27, rfl⟩ := hv
          show am_Ok _ _ _ (37, _, [.inl x27], h21, c22, s23) _
          exact k_fin rfl rfl (Or.inl ⟨_, rfl, ⟨_, rfl, _, rfl⟩, I24⟩)
        · refine k_c2 38 rfl rfl (if_neg b12) ?_
          refine k_aload 39 rfl g0 rfl ?_
          obtain ⟨fs28, u29, e30, f31, t32⟩ := I7.1.get o0 (k := 2) rfl rfl
          obtain ⟨i33, rfl, o34⟩ := t32
          refine k_get 42 rfl e30 f31 rfl ?_
          refine k_cl (W' := w_X8_wantedNode) rfl (c_X8_wantedNode I7.1 o34) rfl rfl rfl (I7.1.rc o34 rfl) I7 (by decide) L8 so_n ?_
          rintro w35 h36 c37 s38 hv I39 L40 F41
          obtain ⟨_, rfl, x42, rfl⟩ := hv
          show am_Ok _ _ _ (45, _, [.inl x42], h36, c37, s38) _
          refine k_istore 46 rfl rfl ?_
          refine k_iload 47 rfl gs_eq rfl ?_
          refine k_push 48 rfl rfl ?_
          by_cases b43 : x42 = (-1 : Int32)
          · refine k_c2 51 rfl rfl (if_pos b43) ?_
            refine k_push 52 rfl rfl ?_
            exact k_fin rfl rfl (Or.inl ⟨_, rfl, ⟨_, rfl, _, rfl⟩, I39⟩)
          · refine k_c2 53 rfl rfl (if_neg b43) ?_
            refine k_iload 54 rfl (gs_ne rfl rfl g1) rfl ?_
            by_cases b44 : v1 = 0
            · refine k_c1 57 rfl rfl (if_pos b44) ?_
              refine k_iload 58 rfl gs_eq rfl ?_
              refine k_goto 73 rfl rfl ?_
              exact k_fin rfl rfl (Or.inl ⟨_, rfl, ⟨_, rfl, _, rfl⟩, I39⟩)
            · refine k_c1 61 rfl rfl (if_neg b44) ?_
              refine k_aload 62 rfl (gs_ne rfl rfl g0) rfl ?_
              obtain ⟨fs45, u46, e47, f48, t49⟩ := I39.1.get o0 (k := 10) rfl rfl
              obtain ⟨i50, rfl, o51⟩ := t49
              refine k_get 65 rfl e47 f48 rfl ?_
              refine k_push 66 rfl rfl ?_
              refine k_iload 67 rfl gs_eq rfl ?_
              obtain ⟨x52, q53⟩ : ∃ q : Int32, q = ((4 : Int32) * x42) := ⟨_, rfl⟩
              refine k_bin x52 68 rfl q53.symm rfl ?_
              refine k_cl (W' := w_X1_wire) rfl (c_X1_wire I39.1 o51) rfl rfl rfl (I39.1.rc o51 rfl) I39 (by decide) (okL_set (i := 2) (v := .inl x42) rfl L40) so_n ?_
              rintro w54 h55 c56 s57 hv I58 L59 F60
              obtain ⟨_, rfl, x61, rfl⟩ := hv
              show am_Ok _ _ _ (71, _, [.inl x61], h55, c56, s57) _
              refine k_push 72 rfl rfl ?_
              obtain ⟨x62, q63⟩ : ∃ q : Int32, q = (x61 / (4 : Int32)) := ⟨_, rfl⟩
              refine k_divZ x62 73 rfl (by decide) q63.symm rfl ?_
              exact k_fin rfl rfl (Or.inl ⟨_, rfl, ⟨_, rfl, _, rfl⟩, I58⟩)
      · show am_Ok _ _ _ (24, _, [.inr (.inr (some i10))], h4, c5, s6) _
        refine k_pop 25 rfl rfl rfl ?_
        refine k_iload 26 rfl g1 rfl ?_
        refine k_push 27 rfl rfl ?_
        by_cases b64 : v1 = (2 : Int32)
        · refine k_c2 30 rfl rfl (if_pos b64) ?_
          refine k_aload 31 rfl g0 rfl ?_
          obtain ⟨fs65, u66, e67, f68, t69⟩ := I7.1.get o0 (k := 2) rfl rfl
          obtain ⟨i70, rfl, o71⟩ := t69
          refine k_get 34 rfl e67 f68 rfl ?_
          refine k_cl (W' := w_X8_wantedWires) rfl (c_X8_wantedWires I7.1 o71) rfl rfl rfl (I7.1.rc o71 rfl) I7 (by decide) L8 so_n ?_
          rintro w72 h73 c74 s75 hv I76 L77 F78
          obtain ⟨_, rfl, x79, rfl⟩ := hv
          show am_Ok _ _ _ (37, _, [.inl x79], h73, c74, s75) _
          exact k_fin rfl rfl (Or.inl ⟨_, rfl, ⟨_, rfl, _, rfl⟩, I76⟩)
        · refine k_c2 38 rfl rfl (if_neg b64) ?_
          refine k_aload 39 rfl g0 rfl ?_
          obtain ⟨fs80, u81, e82, f83, t84⟩ := I7.1.get o0 (k := 2) rfl rfl
          obtain ⟨i85, rfl, o86⟩ := t84
          refine k_get 42 rfl e82 f83 rfl ?_
          refine k_cl (W' := w_X8_wantedNode) rfl (c_X8_wantedNode I7.1 o86) rfl rfl rfl (I7.1.rc o86 rfl) I7 (by decide) L8 so_n ?_
          rintro w87 h88 c89 s90 hv I91 L92 F93
          obtain ⟨_, rfl, x94, rfl⟩ := hv
          show am_Ok _ _ _ (45, _, [.inl x94], h88, c89, s90) _
          refine k_istore 46 rfl rfl ?_
          refine k_iload 47 rfl gs_eq rfl ?_
          refine k_push 48 rfl rfl ?_
          by_cases b95 : x94 = (-1 : Int32)
          · refine k_c2 51 rfl rfl (if_pos b95) ?_
            refine k_push 52 rfl rfl ?_
            exact k_fin rfl rfl (Or.inl ⟨_, rfl, ⟨_, rfl, _, rfl⟩, I91⟩)
          · refine k_c2 53 rfl rfl (if_neg b95) ?_
            refine k_iload 54 rfl (gs_ne rfl rfl g1) rfl ?_
            by_cases b96 : v1 = 0
            · refine k_c1 57 rfl rfl (if_pos b96) ?_
              refine k_iload 58 rfl gs_eq rfl ?_
              refine k_goto 73 rfl rfl ?_
              exact k_fin rfl rfl (Or.inl ⟨_, rfl, ⟨_, rfl, _, rfl⟩, I91⟩)
            · refine k_c1 61 rfl rfl (if_neg b96) ?_
              refine k_aload 62 rfl (gs_ne rfl rfl g0) rfl ?_
              obtain ⟨fs97, u98, e99, f100, t101⟩ := I91.1.get o0 (k := 10) rfl rfl
              obtain ⟨i102, rfl, o103⟩ := t101
              refine k_get 65 rfl e99 f100 rfl ?_
              refine k_push 66 rfl rfl ?_
              refine k_iload 67 rfl gs_eq rfl ?_
              obtain ⟨x104, q105⟩ : ∃ q : Int32, q = ((4 : Int32) * x94) := ⟨_, rfl⟩
              refine k_bin x104 68 rfl q105.symm rfl ?_
              refine k_cl (W' := w_X1_wire) rfl (c_X1_wire I91.1 o103) rfl rfl rfl (I91.1.rc o103 rfl) I91 (by decide) (okL_set (i := 2) (v := .inl x94) rfl L92) so_n ?_
              rintro w106 h107 c108 s109 hv I110 L111 F112
              obtain ⟨_, rfl, x113, rfl⟩ := hv
              show am_Ok _ _ _ (71, _, [.inl x113], h107, c108, s109) _
              refine k_push 72 rfl rfl ?_
              obtain ⟨x114, q115⟩ : ∃ q : Int32, q = (x113 / (4 : Int32)) := ⟨_, rfl⟩
              refine k_divZ x114 73 rfl (by decide) q115.symm rfl ?_
              exact k_fin rfl rfl (Or.inl ⟨_, rfl, ⟨_, rfl, _, rfl⟩, I110⟩)
    · refine k_c2 9 rfl rfl (if_neg b2) ?_
      exact k_fin rfl rfl (Or.inr ⟨_, rfl, by decide, ob_I.thr hI⟩)
theorem c_X9_wanted {h : am_h} {v0 : Nat} {v1 : Int32} (hT : ty_H h) (o0 : ob 9 v0) : am_Mt 8 139 [.inr (.inr (some v0)), .inl v1] h (ty_QX w_X9_wanted 2 [1] (ob_P h) h) := am_Mt.of (b_X9_wanted rfl o0 rfl (okA_r hT o0 (okA_i okA_n)) (ob_I.start hT))
abbrev w_X9_part : List (Nat × Nat) := [(2, 2), (2, 3), (2, 4), (2, 5), (8, 5), (8, 6), (8, 7), (8, 8), (9, 15), (9, 16), (9, 17)]
theorem b_X9_part {B : Nat} {h0 : am_h} {lv : am_l} {h : am_h} {c s : Nat} {v0 : Nat} {v1 : Int32} {v2 : Int32} (g0 : am_get lv 0 = some (.inr (.inr (some v0)))) (o0 : ob 9 v0) (g1 : am_get lv 1 = some (.inl v1)) (g2 : am_get lv 2 = some (.inl v2)) (hL : am_okL h.length lv = true) (hI : ob_I w_X9_part B h0 h c s) : am_Ok am_G 7 140 (0, lv, [], h, c, s) (ty_QX w_X9_part 2 [1] B h0) := by
  refine k_aload 1 rfl g0 rfl ?_
  refine k_iload 2 rfl g1 rfl ?_
  refine k_cl (W' := w_X9_termOf) rfl (c_X9_termOf hI.1 o0) rfl rfl rfl (hI.1.rc o0 rfl) hI (by decide) hL so_n ?_
  rintro w1 h2 c3 s4 hv I5 L6 F7
  rcases hv with rfl | ⟨i8, rfl, o9⟩
  · show am_Ok _ _ _ (5, _, [.inr (.inr none)], h2, c3, s4) _
    refine k_astore 6 rfl rfl ?_
    refine k_aload 7 rfl gs_eq rfl ?_
    refine k_nul 22 rfl rfl ?_
    exact k_fin rfl rfl (Or.inr ⟨_, rfl, by decide, ob_I.thr I5⟩)
  · show am_Ok _ _ _ (5, _, [.inr (.inr (some i8))], h2, c3, s4) _
    refine k_astore 6 rfl rfl ?_
    refine k_aload 7 rfl gs_eq rfl ?_
    refine k_non 10 rfl rfl ?_
    refine k_iload 11 rfl (gs_ne rfl rfl g2) rfl ?_
    by_cases b10 : v2 < 0
    · refine k_c1 22 rfl rfl (if_pos b10) ?_
      exact k_fin rfl rfl (Or.inr ⟨_, rfl, by decide, ob_I.thr I5⟩)
    · refine k_c1 14 rfl rfl (if_neg b10) ?_
      refine k_iload 15 rfl (gs_ne rfl rfl g2) rfl ?_
      refine k_aload 16 rfl gs_eq rfl ?_
      refine k_cl (W' := []) rfl (rw_size I5.1 o9) rfl rfl rfl (I5.1.rc3 o9) I5 (by decide) (okL_set (i := 3) (v := .inr (.inr (some i8))) (ob_okR2 I5 o9) L6) (so_i so_n) ?_
      rintro w11 h12 c13 s14 hv I15 L16 F17
      obtain ⟨_, rfl, x18, rfl⟩ := hv
      show am_Ok _ _ _ (19, _, [.inl x18, .inl v2], h12, c13, s14) _
      by_cases b19 : v2 < x18
      · refine k_c2 32 rfl rfl (if_pos b19) ?_
        refine k_aload 33 rfl gs_eq rfl ?_
        refine k_iload 34 rfl (gs_ne rfl rfl g2) rfl ?_
        refine k_cl (W' := []) rfl (rw_get I15.1 o9) rfl rfl rfl (I15.1.rc3 o9) I15 (by decide) L16 so_n ?_
        rintro w20 h21 c22 s23 hv I24 L25 F26
        obtain ⟨_, rfl, x27, rfl⟩ := hv
        show am_Ok _ _ _ (37, _, [.inl x27], h21, c22, s23) _
        exact k_fin rfl rfl (Or.inl ⟨_, rfl, ⟨_, rfl, _, rfl⟩, I24⟩)
      · refine k_c2 22 rfl rfl (if_neg b19) ?_
        exact k_fin rfl rfl (Or.inr ⟨_, rfl, by decide, ob_I.thr I15⟩)
theorem c_X9_part {h : am_h} {v0 : Nat} {v1 : Int32} {v2 : Int32} (hT : ty_H h) (o0 : ob 9 v0) : am_Mt 8 140 [.inr (.inr (some v0)), .inl v1, .inl v2] h (ty_QX w_X9_part 2 [1] (ob_P h) h) := am_Mt.of (b_X9_part rfl o0 rfl rfl (okA_r hT o0 (okA_i (okA_i okA_n))) (ob_I.start hT))
abbrev w_X9_refuseOtherTerms : List (Nat × Nat) := []
theorem b_X9_refuseOtherTerms {B : Nat} {h0 : am_h} {lv : am_l} {h : am_h} {c s : Nat} {v0 : Int32} (g0 : am_get lv 0 = some (.inl v0)) (hL : am_okL h.length lv = true) (hI : ob_I w_X9_refuseOtherTerms B h0 h c s) : am_Ok am_G 0 157 (0, lv, [], h, c, s) (ty_QX w_X9_refuseOtherTerms 0 [0] B h0) := by
  refine k_iload 1 rfl g0 rfl ?_
  by_cases b1 : v0 < 0
  · refine k_c1 9 rfl rfl (if_pos b1) ?_
    exact k_fin rfl rfl (Or.inr ⟨_, rfl, by decide, ob_I.thr hI⟩)
  · refine k_c1 4 rfl rfl (if_neg b1) ?_
    refine k_iload 5 rfl g0 rfl ?_
    refine k_push 6 rfl rfl ?_
    by_cases b2 : v0 ≤ (2 : Int32)
    · refine k_c2 20 rfl rfl (if_pos b2) ?_
      exact k_fin rfl rfl (Or.inl ⟨_, rfl, rfl, hI⟩)
    · refine k_c2 9 rfl rfl (if_neg b2) ?_
      exact k_fin rfl rfl (Or.inr ⟨_, rfl, by decide, ob_I.thr hI⟩)
theorem c_X9_refuseOtherTerms {h : am_h} {v0 : Int32} (hT : ty_H h)  : am_Mt 1 157 [.inl v0] h (ty_QX w_X9_refuseOtherTerms 0 [0] (ob_P h) h) := am_Mt.of (b_X9_refuseOtherTerms rfl (okA_i okA_n) (ob_I.start hT))
abbrev w_X9_say : List (Nat × Nat) := [(2, 2), (2, 3), (2, 4), (2, 5), (8, 5), (8, 6), (8, 7), (8, 8), (9, 15), (9, 16), (9, 17)]
theorem b_X9_say {B : Nat} {h0 : am_h} {lv : am_l} {h : am_h} {c s : Nat} {v0 : Nat} {v1 : Int32} (g0 : am_get lv 0 = some (.inr (.inr (some v0)))) (o0 : ob 9 v0) (g1 : am_get lv 1 = some (.inl v1)) (hL : am_okL h.length lv = true) (hI : ob_I w_X9_say B h0 h c s) : am_Ok am_G 7 141 (0, lv, [], h, c, s) (ty_QX w_X9_say 2 [0] B h0) := by
  refine k_iload 1 rfl g1 rfl ?_
  refine k_clX (W' := w_X9_refuseOtherTerms) rfl (c_X9_refuseOtherTerms hI.1 ) rfl rfl rfl rfl hI (by decide) hL so_n rfl ?_ ?_
  · exact fun e8 h2 c3 s4 he hI9 => ⟨rfl, rfl, Or.inr ⟨_, rfl, (thr_sub (by decide) he), hI9⟩⟩
  rintro w1 h2 c3 s4 hv I5 L6 F7
  cases hv
  show am_Ok _ _ _ (4, _, [], h2, c3, s4) _
  refine k_aload 5 rfl g0 rfl ?_
  refine k_iload 6 rfl g1 rfl ?_
  refine k_cl (W' := w_X9_termOf) rfl (c_X9_termOf I5.1 o0) rfl rfl rfl (I5.1.rc o0 rfl) I5 (by decide) L6 so_n ?_
  rintro w9 h10 c11 s12 hv I13 L14 F15
  rcases hv with rfl | ⟨i16, rfl, o17⟩
  · show am_Ok _ _ _ (9, _, [.inr (.inr none)], h10, c11, s12) _
    refine k_astore 10 rfl rfl ?_
    refine k_aload 11 rfl gs_eq rfl ?_
    refine k_nul 14 rfl rfl ?_
    refine k_push 15 rfl rfl ?_
    refine k_goto 26 rfl rfl ?_
    exact k_fin rfl rfl (Or.inl ⟨_, rfl, ⟨_, rfl, _, rfl⟩, I13⟩)
  · show am_Ok _ _ _ (9, _, [.inr (.inr (some i16))], h10, c11, s12) _
    refine k_astore 10 rfl rfl ?_
    refine k_aload 11 rfl gs_eq rfl ?_
    refine k_non 18 rfl rfl ?_
    refine k_aload 19 rfl (gs_ne rfl rfl g0) rfl ?_
    obtain ⟨fs18, u19, e20, f21, t22⟩ := I13.1.get o0 (k := 4) rfl rfl
    obtain ⟨i23, rfl, o24⟩ := t22
    refine k_get 22 rfl e20 f21 rfl ?_
    refine k_aload 23 rfl gs_eq rfl ?_
    refine k_cl (W' := w_X5_saying) rfl (c_X5_saying I13.1 o24 o17) rfl rfl rfl (I13.1.rc o24 rfl) I13 (by decide) (okL_set (i := 2) (v := .inr (.inr (some i16))) (ob_okR2 I13 o17) L14) so_n ?_
    rintro w25 h26 c27 s28 hv I29 L30 F31
    obtain ⟨_, rfl, x32, rfl⟩ := hv
    show am_Ok _ _ _ (26, _, [.inl x32], h26, c27, s28) _
    exact k_fin rfl rfl (Or.inl ⟨_, rfl, ⟨_, rfl, _, rfl⟩, I29⟩)
theorem c_X9_say {h : am_h} {v0 : Nat} {v1 : Int32} (hT : ty_H h) (o0 : ob 9 v0) : am_Mt 8 141 [.inr (.inr (some v0)), .inl v1] h (ty_QX w_X9_say 2 [0] (ob_P h) h) := am_Mt.of (b_X9_say rfl o0 rfl (okA_r hT o0 (okA_i okA_n)) (ob_I.start hT))
abbrev w_X9_said : List (Nat × Nat) := []
theorem b_X9_said {B : Nat} {h0 : am_h} {lv : am_l} {h : am_h} {c s : Nat} {v0 : Nat} {v1 : Int32} (g0 : am_get lv 0 = some (.inr (.inr (some v0)))) (o0 : ob 9 v0) (g1 : am_get lv 1 = some (.inl v1)) (hL : am_okL h.length lv = true) (hI : ob_I w_X9_said B h0 h c s) : am_Ok am_G 2 142 (0, lv, [], h, c, s) (ty_Q w_X9_said 2 B h0) := by
  refine k_aload 1 rfl g0 rfl ?_
  obtain ⟨fs1, u2, e3, f4, t5⟩ := hI.1.get o0 (k := 4) rfl rfl
  obtain ⟨i6, rfl, o7⟩ := t5
  refine k_get 4 rfl e3 f4 rfl ?_
  refine k_iload 5 rfl g1 rfl ?_
  refine k_cl (W' := w_X5_sign) rfl (c_X5_sign hI.1 o7) rfl rfl rfl (hI.1.rc o7 rfl) hI (by decide) hL so_n ?_
  rintro w8 h9 c10 s11 hv I12 L13 F14
  obtain ⟨_, rfl, x15, rfl⟩ := hv
  show am_Ok _ _ _ (8, _, [.inl x15], h9, c10, s11) _
  exact k_fin rfl rfl ⟨⟨_, rfl, ⟨_, rfl, _, rfl⟩⟩, I12⟩
theorem c_X9_said {h : am_h} {v0 : Nat} {v1 : Int32} (hT : ty_H h) (o0 : ob 9 v0) : am_Mt 3 142 [.inr (.inr (some v0)), .inl v1] h (ty_Q w_X9_said 2 (ob_P h) h) := am_Mt.of (b_X9_said rfl o0 rfl (okA_r hT o0 (okA_i okA_n)) (ob_I.start hT))
abbrev w_X9_same : List (Nat × Nat) := [(2, 2), (2, 3), (2, 4), (2, 5), (8, 5), (8, 6), (8, 7), (8, 8), (9, 15), (9, 16), (9, 17)]
theorem b_X9_same {B : Nat} {h0 : am_h} {lv : am_l} {h : am_h} {c s : Nat} {v0 : Nat} {v1 : Int32} {v2 : Int32} (g0 : am_get lv 0 = some (.inr (.inr (some v0)))) (o0 : ob 9 v0) (g1 : am_get lv 1 = some (.inl v1)) (g2 : am_get lv 2 = some (.inl v2)) (hL : am_okL h.length lv = true) (hI : ob_I w_X9_same B h0 h c s) : am_Ok am_G 7 143 (0, lv, [], h, c, s) (ty_QX w_X9_same 3 [0, 1] B h0) := by
  refine k_iload 1 rfl g1 rfl ?_
  refine k_clX (W' := w_X9_refuseOtherTerms) rfl (c_X9_refuseOtherTerms hI.1 ) rfl rfl rfl rfl hI (by decide) hL so_n rfl ?_ ?_
  · exact fun e8 h2 c3 s4 he hI9 => ⟨rfl, rfl, Or.inr ⟨_, rfl, (thr_sub (by decide) he), hI9⟩⟩
  rintro w1 h2 c3 s4 hv I5 L6 F7
  cases hv
  show am_Ok _ _ _ (4, _, [], h2, c3, s4) _
  refine k_iload 5 rfl g2 rfl ?_
  refine k_clX (W' := w_X9_refuseOtherTerms) rfl (c_X9_refuseOtherTerms I5.1 ) rfl rfl rfl rfl I5 (by decide) L6 so_n rfl ?_ ?_
  · exact fun e16 h10 c11 s12 he hI9 => ⟨rfl, rfl, Or.inr ⟨_, rfl, (thr_sub (by decide) he), hI9⟩⟩
  rintro w9 h10 c11 s12 hv I13 L14 F15
  cases hv
  show am_Ok _ _ _ (8, _, [], h10, c11, s12) _
  refine k_aload 9 rfl g0 rfl ?_
  refine k_iload 10 rfl g1 rfl ?_
  refine k_cl (W' := w_X9_termOf) rfl (c_X9_termOf I13.1 o0) rfl rfl rfl (I13.1.rc o0 rfl) I13 (by decide) L14 so_n ?_
  rintro w17 h18 c19 s20 hv I21 L22 F23
  rcases hv with rfl | ⟨i24, rfl, o25⟩
  · show am_Ok _ _ _ (13, _, [.inr (.inr none)], h18, c19, s20) _
    refine k_astore 14 rfl rfl ?_
    refine k_aload 15 rfl (gs_ne rfl rfl g0) rfl ?_
    refine k_iload 16 rfl (gs_ne rfl rfl g2) rfl ?_
    refine k_cl (W' := w_X9_termOf) rfl (c_X9_termOf I21.1 o0) rfl rfl rfl (I21.1.rc o0 rfl) I21 (by decide) (okL_set (i := 3) (v := .inr (.inr none)) rfl L22) so_n ?_
    rintro w26 h27 c28 s29 hv I30 L31 F32
    rcases hv with rfl | ⟨i33, rfl, o34⟩
    · show am_Ok _ _ _ (19, _, [.inr (.inr none)], h27, c28, s29) _
      refine k_astore 21 rfl rfl ?_
      refine k_aload 22 rfl (gs_ne rfl rfl gs_eq) rfl ?_
      refine k_nul 30 rfl rfl ?_
      exact k_fin rfl rfl (Or.inr ⟨_, rfl, by decide, ob_I.thr I30⟩)
    · show am_Ok _ _ _ (19, _, [.inr (.inr (some i33))], h27, c28, s29) _
      refine k_astore 21 rfl rfl ?_
      refine k_aload 22 rfl (gs_ne rfl rfl gs_eq) rfl ?_
      refine k_nul 30 rfl rfl ?_
      exact k_fin rfl rfl (Or.inr ⟨_, rfl, by decide, ob_I.thr I30⟩)
  · show am_Ok _ _ _ (13, _, [.inr (.inr (some i24))], h18, c19, s20) _
    refine k_astore 14 rfl rfl ?_
    refine k_aload 15 rfl (gs_ne rfl rfl g0) rfl ?_
    refine k_iload 16 rfl (gs_ne rfl rfl g2) rfl ?_
    refine k_cl (W' := w_X9_termOf) rfl (c_X9_termOf I21.1 o0) rfl rfl rfl (I21.1.rc o0 rfl) I21 (by decide) (okL_set (i := 3) (v := .inr (.inr (some i24))) (ob_okR2 I21 o25) L22) so_n ?_
    rintro w35 h36 c37 s38 hv I39 L40 F41
    rcases hv with rfl | ⟨i42, rfl, o43⟩
    · show am_Ok _ _ _ (19, _, [.inr (.inr none)], h36, c37, s38) _
      refine k_astore 21 rfl rfl ?_
      refine k_aload 22 rfl (gs_ne rfl rfl gs_eq) rfl ?_
      refine k_non 25 rfl rfl ?_
      refine k_aload 27 rfl gs_eq rfl ?_
      refine k_nul 30 rfl rfl ?_
      exact k_fin rfl rfl (Or.inr ⟨_, rfl, by decide, ob_I.thr I39⟩)
    · show am_Ok _ _ _ (19, _, [.inr (.inr (some i42))], h36, c37, s38) _
      refine k_astore 21 rfl rfl ?_
      refine k_aload 22 rfl (gs_ne rfl rfl gs_eq) rfl ?_
      refine k_non 25 rfl rfl ?_
      refine k_aload 27 rfl gs_eq rfl ?_
      refine k_non 40 rfl rfl ?_
      refine k_aload 41 rfl (gs_ne rfl rfl gs_eq) rfl ?_
      refine k_aload 43 rfl gs_eq rfl ?_
      refine k_cl (W' := []) rfl (rw_alike I39.1 o25 o43) rfl rfl rfl (I39.1.rc3 o25) I39 (by decide) (okL_set (i := 4) (v := .inr (.inr (some i42))) (ob_okR2 I39 o43) L40) so_n ?_
      rintro w44 h45 c46 s47 hv I48 L49 F50
      obtain ⟨_, rfl, x51, rfl, z52⟩ := hv
      show am_Ok _ _ _ (46, _, [.inl x51], h45, c46, s47) _
      exact k_fin rfl (fin_Z z52) (Or.inl ⟨_, rfl, ⟨_, rfl, _, rfl, z52⟩, I48⟩)
theorem c_X9_same {h : am_h} {v0 : Nat} {v1 : Int32} {v2 : Int32} (hT : ty_H h) (o0 : ob 9 v0) : am_Mt 8 143 [.inr (.inr (some v0)), .inl v1, .inl v2] h (ty_QX w_X9_same 3 [0, 1] (ob_P h) h) := am_Mt.of (b_X9_same rfl o0 rfl rfl (okA_r hT o0 (okA_i (okA_i okA_n))) (ob_I.start hT))
abbrev w_X9_plain : List (Nat × Nat) := [(2, 2), (2, 3), (2, 4), (2, 5)]
theorem b_X9_plain {B : Nat} {h0 : am_h} {lv : am_l} {h : am_h} {c s : Nat} {v0 : Nat} {v1 : Int32} (g0 : am_get lv 0 = some (.inr (.inr (some v0)))) (o0 : ob 9 v0) (g1 : am_get lv 1 = some (.inl v1)) (hL : am_okL h.length lv = true) (hI : ob_I w_X9_plain B h0 h c s) : am_Ok am_G 6 144 (0, lv, [], h, c, s) (ty_QX w_X9_plain 2 [0] B h0) := by
  refine k_iload 1 rfl g1 rfl ?_
  by_cases b1 : v1 < 0
  · refine k_c1 11 rfl rfl (if_pos b1) ?_
    exact k_fin rfl rfl (Or.inr ⟨_, rfl, by decide, ob_I.thr hI⟩)
  · refine k_c1 4 rfl rfl (if_neg b1) ?_
    refine k_iload 5 rfl g1 rfl ?_
    refine k_push 8 rfl rfl ?_
    by_cases b2 : v1 ≤ (200 : Int32)
    · refine k_c2 21 rfl rfl (if_pos b2) ?_
      refine k_aload 22 rfl g0 rfl ?_
      obtain ⟨fs3, u4, e5, f6, t7⟩ := hI.1.get o0 (k := 3) rfl rfl
      obtain ⟨i8, rfl, o9⟩ := t7
      refine k_get 25 rfl e5 f6 rfl ?_
      refine k_aload 26 rfl g0 rfl ?_
      obtain ⟨fs10, u11, e12, f13, t14⟩ := hI.1.get o0 (k := 5) rfl rfl
      obtain ⟨i15, rfl, o16⟩ := t14
      refine k_get 29 rfl e12 f13 rfl ?_
      refine k_iload 30 rfl g1 rfl ?_
      refine k_cl (W' := w_X2_workOff) rfl (c_X2_workOff hI.1 o9 (Or.inr o16)) rfl rfl rfl (hI.1.rc o9 rfl) hI (by decide) hL so_n ?_
      rintro w17 h18 c19 s20 hv I21 L22 F23
      cases hv
      show am_Ok _ _ _ (33, _, [], h18, c19, s20) _
      refine k_aload 34 rfl g0 rfl ?_
      obtain ⟨fs24, u25, e26, f27, t28⟩ := I21.1.get o0 (k := 3) rfl rfl
      obtain ⟨i29, rfl, o30⟩ := t28
      refine k_get 37 rfl e26 f27 rfl ?_
      refine k_cl (W' := w_X2_tooMany) rfl (c_X2_tooMany I21.1 o30) rfl rfl rfl (I21.1.rc o30 rfl) I21 (by decide) L22 so_n ?_
      rintro w31 h32 c33 s34 hv I35 L36 F37
      obtain ⟨_, rfl, x38, rfl, z39⟩ := hv
      show am_Ok _ _ _ (40, _, [.inl x38], h32, c33, s34) _
      by_cases b40 : x38 = 0
      · refine k_c1 47 rfl rfl (if_pos b40) ?_
        refine k_aload 48 rfl g0 rfl ?_
        obtain ⟨fs41, u42, e43, f44, t45⟩ := I35.1.get o0 (k := 3) rfl rfl
        obtain ⟨i46, rfl, o47⟩ := t45
        refine k_get 51 rfl e43 f44 rfl ?_
        refine k_cl (W' := w_X2_term) rfl (c_X2_term I35.1 o47) rfl rfl rfl (I35.1.rc o47 rfl) I35 (by decide) L36 so_n ?_
        rintro w48 h49 c50 s51 hv I52 L53 F54
        obtain ⟨_, rfl, i55, rfl, o56⟩ := hv
        show am_Ok _ _ _ (54, _, [.inr (.inr (some i55))], h49, c50, s51) _
        refine k_cl (W' := []) rfl (rw_size I52.1 (Or.inl o56)) rfl rfl rfl (I52.1.rc3 (Or.inl o56)) I52 (by decide) L53 so_n ?_
        rintro w57 h58 c59 s60 hv I61 L62 F63
        obtain ⟨_, rfl, x64, rfl⟩ := hv
        show am_Ok _ _ _ (57, _, [.inl x64], h58, c59, s60) _
        exact k_fin rfl rfl (Or.inl ⟨_, rfl, ⟨_, rfl, _, rfl⟩, I61⟩)
      · refine k_c1 43 rfl rfl (if_neg b40) ?_
        refine k_push 44 rfl rfl ?_
        refine k_goto 57 rfl rfl ?_
        exact k_fin rfl rfl (Or.inl ⟨_, rfl, ⟨_, rfl, _, rfl⟩, I35⟩)
    · refine k_c2 11 rfl rfl (if_neg b2) ?_
      exact k_fin rfl rfl (Or.inr ⟨_, rfl, by decide, ob_I.thr hI⟩)
theorem c_X9_plain {h : am_h} {v0 : Nat} {v1 : Int32} (hT : ty_H h) (o0 : ob 9 v0) : am_Mt 7 144 [.inr (.inr (some v0)), .inl v1] h (ty_QX w_X9_plain 2 [0] (ob_P h) h) := am_Mt.of (b_X9_plain rfl o0 rfl (okA_r hT o0 (okA_i okA_n)) (ob_I.start hT))
abbrev w_X9_redexes : List (Nat × Nat) := [(2, 2), (2, 3), (2, 4), (2, 5), (8, 5), (8, 6), (8, 7), (8, 8), (9, 15), (9, 16), (9, 17)]
theorem b_X9_redexes_29 {B : Nat} {h0 : am_h} : ∀ (n : Nat) {lv : am_l} {h : am_h} {c s : Nat} {v0 : Nat} {v1 : Int32} {v2 : Nat} {v3 : Int32} {v4 : Int32} , up_m v4 = n → am_get lv 0 = some (.inr (.inr (some v0))) → ob 9 v0 → am_get lv 1 = some (.inl v1) → am_get lv 2 = some (.inr (.inr (some v2))) → ob 3 v2 ∨ ob 11 v2 → am_get lv 3 = some (.inl v3) → am_get lv 4 = some (.inl v4) → am_okL h.length lv = true → ob_I w_X9_redexes B h0 h c s → am_Ok am_G 7 145 (29, lv, [], h, c, s) (ty_QX w_X9_redexes 2 [0, 1] B h0) := by
  intro n
  induction n using Nat.strongRecOn with
  | ind n ih =>
    intro lv h c s v0 v1 v2 v3 v4 hn g0 o0 g1 g2 o2 g3 g4 hL hI
    refine k_iload 31 rfl g4 rfl ?_
    refine k_aload 32 rfl g2 rfl ?_
    refine k_cl (W' := []) rfl (rw_size hI.1 o2) rfl rfl rfl (hI.1.rc3 o2) hI (by decide) hL (so_i so_n) ?_
    rintro w1 h2 c3 s4 hv I5 L6 F7
    obtain ⟨_, rfl, x8, rfl⟩ := hv
    show am_Ok _ _ _ (35, _, [.inl x8, .inl v4], h2, c3, s4) _
    by_cases b9 : x8 ≤ v4
    · refine k_c2 56 rfl rfl (if_pos b9) ?_
      refine k_iload 57 rfl g3 rfl ?_
      exact k_fin rfl rfl (Or.inl ⟨_, rfl, ⟨_, rfl, _, rfl⟩, I5⟩)
    · refine k_c2 38 rfl rfl (if_neg b9) ?_
      refine k_aload 39 rfl g2 rfl ?_
      refine k_iload 41 rfl g4 rfl ?_
      refine k_cl (W' := w_X9_isRedex) rfl (c_X9_isRedex I5.1 o2) rfl rfl rfl rfl I5 (by decide) L6 so_n ?_
      rintro w10 h11 c12 s13 hv I14 L15 F16
      obtain ⟨_, rfl, x17, rfl, z18⟩ := hv
      show am_Ok _ _ _ (44, _, [.inl x17], h11, c12, s13) _
      by_cases b19 : x17 = 0
      · refine k_c1 50 rfl rfl (if_pos b19) ?_
        refine k_iinc (v4 + 1) 53 rfl g4 rfl rfl ?_
        refine k_goto 29 rfl rfl ?_
        exact ih _ (by rw [← hn]; exact up_lt b9) rfl (gs_ne rfl rfl g0) o0 (gs_ne rfl rfl g1) (gs_ne rfl rfl g2) o2 (gs_ne rfl rfl g3) gs_eq (okL_set (i := 4) (v := .inl (v4 + 1)) rfl L15) I14
      · refine k_c1 47 rfl rfl (if_neg b19) ?_
        refine k_iinc (v3 + 1) 50 rfl g3 rfl rfl ?_
        refine k_iinc (v4 + 1) 53 rfl (gs_ne rfl rfl g4) rfl rfl ?_
        refine k_goto 29 rfl rfl ?_
        exact ih _ (by rw [← hn]; exact up_lt b9) rfl (gs_ne rfl rfl (gs_ne rfl rfl g0)) o0 (gs_ne rfl rfl (gs_ne rfl rfl g1)) (gs_ne rfl rfl (gs_ne rfl rfl g2)) o2 (gs_ne rfl rfl gs_eq) gs_eq (okL_set (i := 4) (v := .inl (v4 + 1)) rfl (okL_set (i := 3) (v := .inl (v3 + 1)) rfl L15)) I14
theorem b_X9_redexes {B : Nat} {h0 : am_h} {lv : am_l} {h : am_h} {c s : Nat} {v0 : Nat} {v1 : Int32} (g0 : am_get lv 0 = some (.inr (.inr (some v0)))) (o0 : ob 9 v0) (g1 : am_get lv 1 = some (.inl v1)) (hL : am_okL h.length lv = true) (hI : ob_I w_X9_redexes B h0 h c s) : am_Ok am_G 7 145 (0, lv, [], h, c, s) (ty_QX w_X9_redexes 2 [0, 1] B h0) := by
  refine k_iload 1 rfl g1 rfl ?_
  refine k_clX (W' := w_X9_refuseOtherTerms) rfl (c_X9_refuseOtherTerms hI.1 ) rfl rfl rfl rfl hI (by decide) hL so_n rfl ?_ ?_
  · exact fun e27 h21 c22 s23 he hI9 => ⟨rfl, rfl, Or.inr ⟨_, rfl, (thr_sub (by decide) he), hI9⟩⟩
  rintro w20 h21 c22 s23 hv I24 L25 F26
  cases hv
  show am_Ok _ _ _ (4, _, [], h21, c22, s23) _
  refine k_aload 5 rfl g0 rfl ?_
  refine k_iload 6 rfl g1 rfl ?_
  refine k_cl (W' := w_X9_termOf) rfl (c_X9_termOf I24.1 o0) rfl rfl rfl (I24.1.rc o0 rfl) I24 (by decide) L25 so_n ?_
  rintro w28 h29 c30 s31 hv I32 L33 F34
  rcases hv with rfl | ⟨i35, rfl, o36⟩
  · show am_Ok _ _ _ (9, _, [.inr (.inr none)], h29, c30, s31) _
    refine k_astore 10 rfl rfl ?_
    refine k_aload 11 rfl gs_eq rfl ?_
    refine k_nul 14 rfl rfl ?_
    exact k_fin rfl rfl (Or.inr ⟨_, rfl, by decide, ob_I.thr I32⟩)
  · show am_Ok _ _ _ (9, _, [.inr (.inr (some i35))], h29, c30, s31) _
    refine k_astore 10 rfl rfl ?_
    refine k_aload 11 rfl gs_eq rfl ?_
    refine k_non 24 rfl rfl ?_
    refine k_push 25 rfl rfl ?_
    refine k_istore 26 rfl rfl ?_
    refine k_push 27 rfl rfl ?_
    refine k_istore 29 rfl rfl ?_
    exact b_X9_redexes_29 _ rfl (gs_ne rfl rfl (gs_ne rfl rfl (gs_ne rfl rfl g0))) o0 (gs_ne rfl rfl (gs_ne rfl rfl (gs_ne rfl rfl g1))) (gs_ne rfl rfl (gs_ne rfl rfl gs_eq)) o36 (gs_ne rfl rfl gs_eq) gs_eq (okL_set (i := 4) (v := .inl (0 : Int32)) rfl (okL_set (i := 3) (v := .inl (0 : Int32)) rfl (okL_set (i := 2) (v := .inr (.inr (some i35))) (ob_okR2 I32 o36) L33))) I32
theorem c_X9_redexes {h : am_h} {v0 : Nat} {v1 : Int32} (hT : ty_H h) (o0 : ob 9 v0) : am_Mt 8 145 [.inr (.inr (some v0)), .inl v1] h (ty_QX w_X9_redexes 2 [0, 1] (ob_P h) h) := am_Mt.of (b_X9_redexes rfl o0 rfl (okA_r hT o0 (okA_i okA_n)) (ob_I.start hT))
abbrev w_X9_trial : List (Nat × Nat) := [(1, 4), (1, 5), (1, 6), (1, 7), (8, 5), (8, 6), (8, 7), (8, 8), (9, 17)]
theorem b_X9_trial_81 {B : Nat} {h0 : am_h} : ∀ (n : Nat) {lv : am_l} {h : am_h} {c s : Nat} {v0 : Nat} {v1 : Int32} {v2 : Int32} {v3 : Int32} {v4 : Int32} {v5 : Int32} {v6 : Int32} {v7 : Int32} , (if 0 < v7 then up_m v4 + 1 else 0) = n → am_get lv 0 = some (.inr (.inr (some v0))) → ob 9 v0 → am_get lv 1 = some (.inl v1) → am_get lv 2 = some (.inl v2) → am_get lv 3 = some (.inl v3) → am_get lv 4 = some (.inl v4) → am_get lv 5 = some (.inl v5) → am_get lv 6 = some (.inl v6) → am_get lv 7 = some (.inl v7) → am_okL h.length lv = true → ob_I w_X9_trial B h0 h c s → am_Ok am_G 7 146 (81, lv, [], h, c, s) (ty_QX w_X9_trial 2 [0, 1] B h0) := by
  intro n
  induction n using Nat.strongRecOn with
  | ind n ih =>
    intro lv h c s v0 v1 v2 v3 v4 v5 v6 v7 hn g0 o0 g1 g2 g3 g4 g5 g6 g7 hL hI
    refine k_iload 83 rfl g4 rfl ?_
    refine k_push 86 rfl rfl ?_
    by_cases b1 : (400 : Int32) ≤ v4
    · refine k_c2 153 rfl rfl (if_pos b1) ?_
      refine k_aload 154 rfl g0 rfl ?_
      obtain ⟨fs2, u3, e4, f5, t6⟩ := hI.1.get o0 (k := 9) rfl rfl
      obtain ⟨i7, rfl, o8⟩ := t6
      refine k_get 157 rfl e4 f5 rfl ?_
      refine k_iload 158 rfl g3 rfl ?_
      refine k_iload 160 rfl g4 rfl ?_
      refine k_cl (W' := []) rfl (rw_set hI.1 o8) rfl rfl rfl (hI.1.rc3 (Or.inl o8)) hI (by decide) hL so_n ?_
      rintro w9 h10 c11 s12 hv I13 L14 F15
      cases hv
      show am_Ok _ _ _ (163, _, [], h10, c11, s12) _
      refine k_aload 164 rfl g0 rfl ?_
      obtain ⟨fs16, u17, e18, f19, t20⟩ := I13.1.get o0 (k := 9) rfl rfl
      obtain ⟨i21, rfl, o22⟩ := t20
      refine k_get 167 rfl e18 f19 rfl ?_
      refine k_iload 168 rfl g3 rfl ?_
      refine k_push 169 rfl rfl ?_
      obtain ⟨x23, q24⟩ : ∃ q : Int32, q = (v3 + (1 : Int32)) := ⟨_, rfl⟩
      refine k_bin x23 170 rfl q24.symm rfl ?_
      refine k_iload 172 rfl g5 rfl ?_
      refine k_cl (W' := []) rfl (rw_set I13.1 o22) rfl rfl rfl (I13.1.rc3 (Or.inl o22)) I13 (by decide) L14 so_n ?_
      rintro w25 h26 c27 s28 hv I29 L30 F31
      cases hv
      show am_Ok _ _ _ (175, _, [], h26, c27, s28) _
      refine k_aload 176 rfl g0 rfl ?_
      obtain ⟨fs32, u33, e34, f35, t36⟩ := I29.1.get o0 (k := 9) rfl rfl
      obtain ⟨i37, rfl, o38⟩ := t36
      refine k_get 179 rfl e34 f35 rfl ?_
      refine k_iload 180 rfl g3 rfl ?_
      refine k_push 181 rfl rfl ?_
      obtain ⟨x39, q40⟩ : ∃ q : Int32, q = (v3 + (2 : Int32)) := ⟨_, rfl⟩
      refine k_bin x39 182 rfl q40.symm rfl ?_
      refine k_iload 184 rfl g6 rfl ?_
      refine k_cl (W' := []) rfl (rw_set I29.1 o38) rfl rfl rfl (I29.1.rc3 (Or.inl o38)) I29 (by decide) L30 so_n ?_
      rintro w41 h42 c43 s44 hv I45 L46 F47
      cases hv
      show am_Ok _ _ _ (187, _, [], h42, c43, s44) _
      refine k_aload 188 rfl g0 rfl ?_
      obtain ⟨fs48, u49, e50, f51, t52⟩ := I45.1.get o0 (k := 9) rfl rfl
      obtain ⟨i53, rfl, o54⟩ := t52
      refine k_get 191 rfl e50 f51 rfl ?_
      refine k_iload 192 rfl g3 rfl ?_
      refine k_push 193 rfl rfl ?_
      obtain ⟨x55, q56⟩ : ∃ q : Int32, q = (v3 + (3 : Int32)) := ⟨_, rfl⟩
      refine k_bin x55 194 rfl q56.symm rfl ?_
      refine k_iload 196 rfl g7 rfl ?_
      refine k_cl (W' := []) rfl (rw_set I45.1 o54) rfl rfl rfl (I45.1.rc3 (Or.inl o54)) I45 (by decide) L46 so_n ?_
      rintro w57 h58 c59 s60 hv I61 L62 F63
      cases hv
      show am_Ok _ _ _ (199, _, [], h58, c59, s60) _
      refine k_aload 200 rfl g0 rfl ?_
      obtain ⟨fs64, u65, e66, f67, t68⟩ := I61.1.get o0 (k := 9) rfl rfl
      obtain ⟨i69, rfl, o70⟩ := t68
      refine k_get 203 rfl e66 f67 rfl ?_
      refine k_iload 204 rfl g3 rfl ?_
      refine k_push 205 rfl rfl ?_
      obtain ⟨x71, q72⟩ : ∃ q : Int32, q = (v3 + (4 : Int32)) := ⟨_, rfl⟩
      refine k_bin x71 206 rfl q72.symm rfl ?_
      refine k_push 207 rfl rfl ?_
      refine k_cl (W' := []) rfl (rw_set I61.1 o70) rfl rfl rfl (I61.1.rc3 (Or.inl o70)) I61 (by decide) L62 so_n ?_
      rintro w73 h74 c75 s76 hv I77 L78 F79
      cases hv
      show am_Ok _ _ _ (210, _, [], h74, c75, s76) _
      refine k_aload 211 rfl g0 rfl ?_
      obtain ⟨fs80, u81, e82, f83, t84⟩ := I77.1.get o0 (k := 9) rfl rfl
      obtain ⟨i85, rfl, o86⟩ := t84
      refine k_get 214 rfl e82 f83 rfl ?_
      refine k_iload 215 rfl g3 rfl ?_
      refine k_iload 216 rfl g2 rfl ?_
      obtain ⟨x87, q88⟩ : ∃ q : Int32, q = (v3 + v2) := ⟨_, rfl⟩
      refine k_bin x87 217 rfl q88.symm rfl ?_
      refine k_cl (W' := []) rfl (rw_get I77.1 (Or.inl o86)) rfl rfl rfl (I77.1.rc3 (Or.inl o86)) I77 (by decide) L78 so_n ?_
      rintro w89 h90 c91 s92 hv I93 L94 F95
      obtain ⟨_, rfl, x96, rfl⟩ := hv
      show am_Ok _ _ _ (220, _, [.inl x96], h90, c91, s92) _
      exact k_fin rfl rfl (Or.inl ⟨_, rfl, ⟨_, rfl, _, rfl⟩, I93⟩)
    · refine k_c2 89 rfl rfl (if_neg b1) ?_
      refine k_iload 91 rfl g7 rfl ?_
      by_cases b97 : v7 ≤ 0
      · refine k_c1 153 rfl rfl (if_pos b97) ?_
        refine k_aload 154 rfl g0 rfl ?_
        obtain ⟨fs98, u99, e100, f101, t102⟩ := hI.1.get o0 (k := 9) rfl rfl
        obtain ⟨i103, rfl, o104⟩ := t102
        refine k_get 157 rfl e100 f101 rfl ?_
        refine k_iload 158 rfl g3 rfl ?_
        refine k_iload 160 rfl g4 rfl ?_
        refine k_cl (W' := []) rfl (rw_set hI.1 o104) rfl rfl rfl (hI.1.rc3 (Or.inl o104)) hI (by decide) hL so_n ?_
        rintro w105 h106 c107 s108 hv I109 L110 F111
        cases hv
        show am_Ok _ _ _ (163, _, [], h106, c107, s108) _
        refine k_aload 164 rfl g0 rfl ?_
        obtain ⟨fs112, u113, e114, f115, t116⟩ := I109.1.get o0 (k := 9) rfl rfl
        obtain ⟨i117, rfl, o118⟩ := t116
        refine k_get 167 rfl e114 f115 rfl ?_
        refine k_iload 168 rfl g3 rfl ?_
        refine k_push 169 rfl rfl ?_
        obtain ⟨x119, q120⟩ : ∃ q : Int32, q = (v3 + (1 : Int32)) := ⟨_, rfl⟩
        refine k_bin x119 170 rfl q120.symm rfl ?_
        refine k_iload 172 rfl g5 rfl ?_
        refine k_cl (W' := []) rfl (rw_set I109.1 o118) rfl rfl rfl (I109.1.rc3 (Or.inl o118)) I109 (by decide) L110 so_n ?_
        rintro w121 h122 c123 s124 hv I125 L126 F127
        cases hv
        show am_Ok _ _ _ (175, _, [], h122, c123, s124) _
        refine k_aload 176 rfl g0 rfl ?_
        obtain ⟨fs128, u129, e130, f131, t132⟩ := I125.1.get o0 (k := 9) rfl rfl
        obtain ⟨i133, rfl, o134⟩ := t132
        refine k_get 179 rfl e130 f131 rfl ?_
        refine k_iload 180 rfl g3 rfl ?_
        refine k_push 181 rfl rfl ?_
        obtain ⟨x135, q136⟩ : ∃ q : Int32, q = (v3 + (2 : Int32)) := ⟨_, rfl⟩
        refine k_bin x135 182 rfl q136.symm rfl ?_
        refine k_iload 184 rfl g6 rfl ?_
        refine k_cl (W' := []) rfl (rw_set I125.1 o134) rfl rfl rfl (I125.1.rc3 (Or.inl o134)) I125 (by decide) L126 so_n ?_
        rintro w137 h138 c139 s140 hv I141 L142 F143
        cases hv
        show am_Ok _ _ _ (187, _, [], h138, c139, s140) _
        refine k_aload 188 rfl g0 rfl ?_
        obtain ⟨fs144, u145, e146, f147, t148⟩ := I141.1.get o0 (k := 9) rfl rfl
        obtain ⟨i149, rfl, o150⟩ := t148
        refine k_get 191 rfl e146 f147 rfl ?_
        refine k_iload 192 rfl g3 rfl ?_
        refine k_push 193 rfl rfl ?_
        obtain ⟨x151, q152⟩ : ∃ q : Int32, q = (v3 + (3 : Int32)) := ⟨_, rfl⟩
        refine k_bin x151 194 rfl q152.symm rfl ?_
        refine k_iload 196 rfl g7 rfl ?_
        refine k_cl (W' := []) rfl (rw_set I141.1 o150) rfl rfl rfl (I141.1.rc3 (Or.inl o150)) I141 (by decide) L142 so_n ?_
        rintro w153 h154 c155 s156 hv I157 L158 F159
        cases hv
        show am_Ok _ _ _ (199, _, [], h154, c155, s156) _
        refine k_aload 200 rfl g0 rfl ?_
        obtain ⟨fs160, u161, e162, f163, t164⟩ := I157.1.get o0 (k := 9) rfl rfl
        obtain ⟨i165, rfl, o166⟩ := t164
        refine k_get 203 rfl e162 f163 rfl ?_
        refine k_iload 204 rfl g3 rfl ?_
        refine k_push 205 rfl rfl ?_
        obtain ⟨x167, q168⟩ : ∃ q : Int32, q = (v3 + (4 : Int32)) := ⟨_, rfl⟩
        refine k_bin x167 206 rfl q168.symm rfl ?_
        refine k_push 207 rfl rfl ?_
        refine k_cl (W' := []) rfl (rw_set I157.1 o166) rfl rfl rfl (I157.1.rc3 (Or.inl o166)) I157 (by decide) L158 so_n ?_
        rintro w169 h170 c171 s172 hv I173 L174 F175
        cases hv
        show am_Ok _ _ _ (210, _, [], h170, c171, s172) _
        refine k_aload 211 rfl g0 rfl ?_
        obtain ⟨fs176, u177, e178, f179, t180⟩ := I173.1.get o0 (k := 9) rfl rfl
        obtain ⟨i181, rfl, o182⟩ := t180
        refine k_get 214 rfl e178 f179 rfl ?_
        refine k_iload 215 rfl g3 rfl ?_
        refine k_iload 216 rfl g2 rfl ?_
        obtain ⟨x183, q184⟩ : ∃ q : Int32, q = (v3 + v2) := ⟨_, rfl⟩
        refine k_bin x183 217 rfl q184.symm rfl ?_
        refine k_cl (W' := []) rfl (rw_get I173.1 (Or.inl o182)) rfl rfl rfl (I173.1.rc3 (Or.inl o182)) I173 (by decide) L174 so_n ?_
        rintro w185 h186 c187 s188 hv I189 L190 F191
        obtain ⟨_, rfl, x192, rfl⟩ := hv
        show am_Ok _ _ _ (220, _, [.inl x192], h186, c187, s188) _
        exact k_fin rfl rfl (Or.inl ⟨_, rfl, ⟨_, rfl, _, rfl⟩, I189⟩)
      · refine k_c1 94 rfl rfl (if_neg b97) ?_
        refine k_aload 95 rfl g0 rfl ?_
        refine k_aload 96 rfl g0 rfl ?_
        obtain ⟨fs193, u194, e195, f196, t197⟩ := hI.1.get o0 (k := 11) rfl rfl
        obtain ⟨i198, rfl, o199⟩ := t197
        refine k_get 99 rfl e195 f196 rfl ?_
        refine k_iload 100 rfl g1 rfl ?_
        refine k_cl (W' := w_X9_workOn) rfl (c_X9_workOn hI.1 o0 o199) rfl rfl rfl (hI.1.rc o0 rfl) hI (by decide) hL so_n ?_
        rintro w200 h201 c202 s203 hv I204 L205 F206
        obtain ⟨_, rfl, x207, rfl⟩ := hv
        show am_Ok _ _ _ (103, _, [.inl x207], h201, c202, s203) _
        refine k_istore 105 rfl rfl ?_
        refine k_iload 107 rfl gs_eq rfl ?_
        by_cases b208 : x207 ≤ 0
        · refine k_c1 146 rfl rfl (if_pos b208) ?_
          refine k_iload 148 rfl gs_eq rfl ?_
          refine k_istore 150 rfl rfl ?_
          refine k_goto 81 rfl rfl ?_
          exact ih _ (by rw [← hn]; exact tr_2 b97 b208) rfl (gs_ne rfl rfl (gs_ne rfl rfl g0)) o0 (gs_ne rfl rfl (gs_ne rfl rfl g1)) (gs_ne rfl rfl (gs_ne rfl rfl g2)) (gs_ne rfl rfl (gs_ne rfl rfl g3)) (gs_ne rfl rfl (gs_ne rfl rfl g4)) (gs_ne rfl rfl (gs_ne rfl rfl g5)) (gs_ne rfl rfl (gs_ne rfl rfl g6)) gs_eq (okL_set (i := 7) (v := .inl x207) rfl (okL_set (i := 8) (v := .inl x207) rfl L205)) I204
        · refine k_c1 110 rfl rfl (if_neg b208) ?_
          refine k_iinc (v4 + 1) 113 rfl (gs_ne rfl rfl g4) rfl rfl ?_
          refine k_iload 115 rfl (gs_ne rfl rfl (gs_ne rfl rfl g5)) rfl ?_
          refine k_iload 117 rfl (gs_ne rfl rfl gs_eq) rfl ?_
          refine k_push 118 rfl rfl ?_
          by_cases b209 : x207 = (1 : Int32)
          · refine k_c2 121 rfl rfl (if_pos b209) ?_
            refine k_push 122 rfl rfl ?_
            refine k_goto 126 rfl rfl ?_
            obtain ⟨x210, q211⟩ : ∃ q : Int32, q = (v5 + (1 : Int32)) := ⟨_, rfl⟩
            refine k_bin x210 127 rfl q211.symm rfl ?_
            refine k_istore 129 rfl rfl ?_
            refine k_iload 131 rfl (gs_ne rfl rfl (gs_ne rfl rfl (gs_ne rfl rfl g6))) rfl ?_
            refine k_aload 132 rfl (gs_ne rfl rfl (gs_ne rfl rfl (gs_ne rfl rfl g0))) rfl ?_
            obtain ⟨fs212, u213, e214, f215, t216⟩ := I204.1.get o0 (k := 11) rfl rfl
            obtain ⟨i217, rfl, o218⟩ := t216
            refine k_get 135 rfl e214 f215 rfl ?_
            refine k_cl (W' := w_X1_size) rfl (c_X1_size I204.1 o218) rfl rfl rfl (I204.1.rc o218 rfl) I204 (by decide) (okL_set (i := 5) (v := .inl x210) rfl (okL_set (i := 4) (v := .inl (v4 + 1)) rfl (okL_set (i := 8) (v := .inl x207) rfl L205))) (so_i so_n) ?_
            rintro w219 h220 c221 s222 hv I223 L224 F225
            obtain ⟨_, rfl, x226, rfl⟩ := hv
            show am_Ok _ _ _ (138, _, [.inl x226, .inl v6], h220, c221, s222) _
            obtain ⟨x227, q228⟩ : ∃ q : Int32, q = (if v6 < x226 then x226 else v6) := ⟨_, rfl⟩
            refine k_mathZ x227 141 rfl rfl q228.symm rfl ?_
            refine k_istore 143 rfl rfl ?_
            refine k_goto 150 rfl rfl ?_
            refine k_goto 81 rfl rfl ?_
            exact ih _ (by rw [← hn]; exact tr_1 b97 b1) rfl (gs_ne rfl rfl (gs_ne rfl rfl (gs_ne rfl rfl (gs_ne rfl rfl g0)))) o0 (gs_ne rfl rfl (gs_ne rfl rfl (gs_ne rfl rfl (gs_ne rfl rfl g1)))) (gs_ne rfl rfl (gs_ne rfl rfl (gs_ne rfl rfl (gs_ne rfl rfl g2)))) (gs_ne rfl rfl (gs_ne rfl rfl (gs_ne rfl rfl (gs_ne rfl rfl g3)))) (gs_ne rfl rfl (gs_ne rfl rfl gs_eq)) (gs_ne rfl rfl gs_eq) gs_eq (gs_ne rfl rfl (gs_ne rfl rfl (gs_ne rfl rfl (gs_ne rfl rfl g7)))) (okL_set (i := 6) (v := .inl x227) rfl L224) I223
          · refine k_c2 125 rfl rfl (if_neg b209) ?_
            refine k_push 126 rfl rfl ?_
            obtain ⟨x229, q230⟩ : ∃ q : Int32, q = (v5 + (0 : Int32)) := ⟨_, rfl⟩
            refine k_bin x229 127 rfl q230.symm rfl ?_
            refine k_istore 129 rfl rfl ?_
            refine k_iload 131 rfl (gs_ne rfl rfl (gs_ne rfl rfl (gs_ne rfl rfl g6))) rfl ?_
            refine k_aload 132 rfl (gs_ne rfl rfl (gs_ne rfl rfl (gs_ne rfl rfl g0))) rfl ?_
            obtain ⟨fs231, u232, e233, f234, t235⟩ := I204.1.get o0 (k := 11) rfl rfl
            obtain ⟨i236, rfl, o237⟩ := t235
            refine k_get 135 rfl e233 f234 rfl ?_
            refine k_cl (W' := w_X1_size) rfl (c_X1_size I204.1 o237) rfl rfl rfl (I204.1.rc o237 rfl) I204 (by decide) (okL_set (i := 5) (v := .inl x229) rfl (okL_set (i := 4) (v := .inl (v4 + 1)) rfl (okL_set (i := 8) (v := .inl x207) rfl L205))) (so_i so_n) ?_
            rintro w238 h239 c240 s241 hv I242 L243 F244
            obtain ⟨_, rfl, x245, rfl⟩ := hv
            show am_Ok _ _ _ (138, _, [.inl x245, .inl v6], h239, c240, s241) _
            obtain ⟨x246, q247⟩ : ∃ q : Int32, q = (if v6 < x245 then x245 else v6) := ⟨_, rfl⟩
            refine k_mathZ x246 141 rfl rfl q247.symm rfl ?_
            refine k_istore 143 rfl rfl ?_
            refine k_goto 150 rfl rfl ?_
            refine k_goto 81 rfl rfl ?_
            exact ih _ (by rw [← hn]; exact tr_1 b97 b1) rfl (gs_ne rfl rfl (gs_ne rfl rfl (gs_ne rfl rfl (gs_ne rfl rfl g0)))) o0 (gs_ne rfl rfl (gs_ne rfl rfl (gs_ne rfl rfl (gs_ne rfl rfl g1)))) (gs_ne rfl rfl (gs_ne rfl rfl (gs_ne rfl rfl (gs_ne rfl rfl g2)))) (gs_ne rfl rfl (gs_ne rfl rfl (gs_ne rfl rfl (gs_ne rfl rfl g3)))) (gs_ne rfl rfl (gs_ne rfl rfl gs_eq)) (gs_ne rfl rfl gs_eq) gs_eq (gs_ne rfl rfl (gs_ne rfl rfl (gs_ne rfl rfl (gs_ne rfl rfl g7)))) (okL_set (i := 6) (v := .inl x246) rfl L243) I242
theorem b_X9_trial {B : Nat} {h0 : am_h} {lv : am_l} {h : am_h} {c s : Nat} {v0 : Nat} {v1 : Int32} {v2 : Int32} (g0 : am_get lv 0 = some (.inr (.inr (some v0)))) (o0 : ob 9 v0) (g1 : am_get lv 1 = some (.inl v1)) (g2 : am_get lv 2 = some (.inl v2)) (hL : am_okL h.length lv = true) (hI : ob_I w_X9_trial B h0 h c s) : am_Ok am_G 7 146 (0, lv, [], h, c, s) (ty_QX w_X9_trial 2 [0, 1] B h0) := by
  refine k_iload 1 rfl g1 rfl ?_
  refine k_clX (W' := w_X9_refuseOtherWays) rfl (c_X9_refuseOtherWays hI.1 ) rfl rfl rfl rfl hI (by decide) hL so_n rfl ?_ ?_
  · exact fun e255 h249 c250 s251 he hI9 => ⟨rfl, rfl, Or.inr ⟨_, rfl, (thr_sub (by decide) he), hI9⟩⟩
  rintro w248 h249 c250 s251 hv I252 L253 F254
  cases hv
  show am_Ok _ _ _ (4, _, [], h249, c250, s251) _
  refine k_iload 5 rfl g2 rfl ?_
  by_cases b256 : v2 < 0
  · refine k_c1 13 rfl rfl (if_pos b256) ?_
    exact k_fin rfl rfl (Or.inr ⟨_, rfl, by decide, ob_I.thr I252⟩)
  · refine k_c1 8 rfl rfl (if_neg b256) ?_
    refine k_iload 9 rfl g2 rfl ?_
    refine k_push 10 rfl rfl ?_
    by_cases b257 : v2 ≤ (3 : Int32)
    · refine k_c2 23 rfl rfl (if_pos b257) ?_
      refine k_push 24 rfl rfl ?_
      refine k_iload 25 rfl g1 rfl ?_
      obtain ⟨x258, q259⟩ : ∃ q : Int32, q = ((5 : Int32) * v1) := ⟨_, rfl⟩
      refine k_bin x258 26 rfl q259.symm rfl ?_
      refine k_istore 27 rfl rfl ?_
      refine k_aload 28 rfl (gs_ne rfl rfl g0) rfl ?_
      obtain ⟨fs260, u261, e262, f263, t264⟩ := I252.1.get o0 (k := 9) rfl rfl
      obtain ⟨i265, rfl, o266⟩ := t264
      refine k_get 31 rfl e262 f263 rfl ?_
      refine k_iload 32 rfl gs_eq rfl ?_
      refine k_push 33 rfl rfl ?_
      obtain ⟨x267, q268⟩ : ∃ q : Int32, q = (x258 + (4 : Int32)) := ⟨_, rfl⟩
      refine k_bin x267 34 rfl q268.symm rfl ?_
      refine k_cl (W' := []) rfl (rw_get I252.1 (Or.inl o266)) rfl rfl rfl (I252.1.rc3 (Or.inl o266)) I252 (by decide) (okL_set (i := 3) (v := .inl x258) rfl L253) so_n ?_
      rintro w269 h270 c271 s272 hv I273 L274 F275
      obtain ⟨_, rfl, x276, rfl⟩ := hv
      show am_Ok _ _ _ (37, _, [.inl x276], h270, c271, s272) _
      refine k_push 38 rfl rfl ?_
      by_cases b277 : x276 = (1 : Int32)
      · refine k_c2 41 rfl rfl (if_pos b277) ?_
        refine k_aload 42 rfl (gs_ne rfl rfl g0) rfl ?_
        obtain ⟨fs278, u279, e280, f281, t282⟩ := I273.1.get o0 (k := 9) rfl rfl
        obtain ⟨i283, rfl, o284⟩ := t282
        refine k_get 45 rfl e280 f281 rfl ?_
        refine k_iload 46 rfl gs_eq rfl ?_
        refine k_iload 47 rfl (gs_ne rfl rfl g2) rfl ?_
        obtain ⟨x285, q286⟩ : ∃ q : Int32, q = (x258 + v2) := ⟨_, rfl⟩
        refine k_bin x285 48 rfl q286.symm rfl ?_
        refine k_cl (W' := []) rfl (rw_get I273.1 (Or.inl o284)) rfl rfl rfl (I273.1.rc3 (Or.inl o284)) I273 (by decide) L274 so_n ?_
        rintro w287 h288 c289 s290 hv I291 L292 F293
        obtain ⟨_, rfl, x294, rfl⟩ := hv
        show am_Ok _ _ _ (51, _, [.inl x294], h288, c289, s290) _
        exact k_fin rfl rfl (Or.inl ⟨_, rfl, ⟨_, rfl, _, rfl⟩, I291⟩)
      · refine k_c2 52 rfl rfl (if_neg b277) ?_
        refine k_push 53 rfl rfl ?_
        refine k_istore 55 rfl rfl ?_
        refine k_push 56 rfl rfl ?_
        refine k_istore 58 rfl rfl ?_
        refine k_aload 59 rfl (gs_ne rfl rfl (gs_ne rfl rfl (gs_ne rfl rfl g0))) rfl ?_
        obtain ⟨fs295, u296, e297, f298, t299⟩ := I273.1.get o0 (k := 10) rfl rfl
        obtain ⟨i300, rfl, o301⟩ := t299
        refine k_get 62 rfl e297 f298 rfl ?_
        refine k_cl (W' := w_X1_size) rfl (c_X1_size I273.1 o301) rfl rfl rfl (I273.1.rc o301 rfl) I273 (by decide) (okL_set (i := 5) (v := .inl (0 : Int32)) rfl (okL_set (i := 4) (v := .inl (0 : Int32)) rfl L274)) so_n ?_
        rintro w302 h303 c304 s305 hv I306 L307 F308
        obtain ⟨_, rfl, x309, rfl⟩ := hv
        show am_Ok _ _ _ (65, _, [.inl x309], h303, c304, s305) _
        refine k_istore 67 rfl rfl ?_
        refine k_push 68 rfl rfl ?_
        refine k_istore 70 rfl rfl ?_
        refine k_aload 71 rfl (gs_ne rfl rfl (gs_ne rfl rfl (gs_ne rfl rfl (gs_ne rfl rfl (gs_ne rfl rfl g0))))) rfl ?_
        obtain ⟨fs310, u311, e312, f313, t314⟩ := I306.1.get o0 (k := 11) rfl rfl
        obtain ⟨i315, rfl, o316⟩ := t314
        refine k_get 74 rfl e312 f313 rfl ?_
        refine k_aload 75 rfl (gs_ne rfl rfl (gs_ne rfl rfl (gs_ne rfl rfl (gs_ne rfl rfl (gs_ne rfl rfl g0))))) rfl ?_
        obtain ⟨fs317, u318, e319, f320, t321⟩ := I306.1.get o0 (k := 10) rfl rfl
        obtain ⟨i322, rfl, o323⟩ := t321
        refine k_get 78 rfl e319 f320 rfl ?_
        refine k_cl (W' := w_X1_copy) rfl (c_X1_copy I306.1 o316 o323) rfl rfl rfl (I306.1.rc o316 rfl) I306 (by decide) (okL_set (i := 7) (v := .inl (1 : Int32)) rfl (okL_set (i := 6) (v := .inl x309) rfl L307)) so_n ?_
        rintro w324 h325 c326 s327 hv I328 L329 F330
        cases hv
        show am_Ok _ _ _ (81, _, [], h325, c326, s327) _
        exact b_X9_trial_81 _ rfl (gs_ne rfl rfl (gs_ne rfl rfl (gs_ne rfl rfl (gs_ne rfl rfl (gs_ne rfl rfl g0))))) o0 (gs_ne rfl rfl (gs_ne rfl rfl (gs_ne rfl rfl (gs_ne rfl rfl (gs_ne rfl rfl g1))))) (gs_ne rfl rfl (gs_ne rfl rfl (gs_ne rfl rfl (gs_ne rfl rfl (gs_ne rfl rfl g2))))) (gs_ne rfl rfl (gs_ne rfl rfl (gs_ne rfl rfl (gs_ne rfl rfl gs_eq)))) (gs_ne rfl rfl (gs_ne rfl rfl (gs_ne rfl rfl gs_eq))) (gs_ne rfl rfl (gs_ne rfl rfl gs_eq)) (gs_ne rfl rfl gs_eq) gs_eq L329 I328
    · refine k_c2 13 rfl rfl (if_neg b257) ?_
      exact k_fin rfl rfl (Or.inr ⟨_, rfl, by decide, ob_I.thr I252⟩)
theorem c_X9_trial {h : am_h} {v0 : Nat} {v1 : Int32} {v2 : Int32} (hT : ty_H h) (o0 : ob 9 v0) : am_Mt 8 146 [.inr (.inr (some v0)), .inl v1, .inl v2] h (ty_QX w_X9_trial 2 [0, 1] (ob_P h) h) := am_Mt.of (b_X9_trial rfl o0 rfl rfl (okA_r hT o0 (okA_i (okA_i okA_n))) (ob_I.start hT))
end
