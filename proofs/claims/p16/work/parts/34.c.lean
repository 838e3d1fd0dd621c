section
abbrev w_X7_start : List (Nat × Nat) := []
theorem b_X7_start {B : Nat} {h0 : am_h} {lv : am_l} {h : am_h} {c s : Nat} {v0 : Nat} (g0 : am_get lv 0 = some (.inr (.inr (some v0)))) (o0 : ob 7 v0) (hL : am_okL h.length lv = true) (hI : ob_I w_X7_start B h0 h c s) : am_Ok am_G 0 107 (0, lv, [], h, c, s) (ty_Q w_X7_start 2 B h0) := by
  refine k_aload 1 rfl g0 rfl ?_
  obtain ⟨fs1, u2, e3, f4, t5⟩ := hI.1.get o0 (k := 2) rfl rfl
  obtain ⟨x6, rfl⟩ := t5
  refine k_get 4 rfl e3 f4 rfl ?_
  exact k_fin rfl rfl ⟨⟨_, rfl, ⟨_, rfl, _, rfl⟩⟩, hI⟩
theorem c_X7_start {h : am_h} {v0 : Nat} (hT : ty_H h) (o0 : ob 7 v0) : am_Mt 1 107 [.inr (.inr (some v0))] h (ty_Q w_X7_start 2 (ob_P h) h) := am_Mt.of (b_X7_start rfl o0 (okA_r hT o0 okA_n) (ob_I.start hT))
abbrev w_X6_place : List (Nat × Nat) := []
theorem b_X6_place {B : Nat} {h0 : am_h} {lv : am_l} {h : am_h} {c s : Nat} {v0 : Nat} (g0 : am_get lv 0 = some (.inr (.inr (some v0)))) (o0 : ob 6 v0) (hL : am_okL h.length lv = true) (hI : ob_I w_X6_place B h0 h c s) : am_Ok am_G 1 83 (0, lv, [], h, c, s) (ty_Q w_X6_place 2 B h0) := by
  refine k_aload 1 rfl g0 rfl ?_
  obtain ⟨fs1, u2, e3, f4, t5⟩ := hI.1.get o0 (k := 0) rfl rfl
  obtain ⟨i6, rfl, o7⟩ := t5
  refine k_get 4 rfl e3 f4 rfl ?_
  refine k_cl (W' := w_X7_start) rfl (c_X7_start hI.1 o7) rfl rfl rfl (hI.1.rc o7 rfl) hI (by decide) hL so_n ?_
  rintro w8 h9 c10 s11 hv I12 L13 F14
  obtain ⟨_, rfl, x15, rfl⟩ := hv
  show am_Ok _ _ _ (7, _, [.inl x15], h9, c10, s11) _
  exact k_fin rfl rfl ⟨⟨_, rfl, ⟨_, rfl, _, rfl⟩⟩, I12⟩
theorem c_X6_place {h : am_h} {v0 : Nat} (hT : ty_H h) (o0 : ob 6 v0) : am_Mt 2 83 [.inr (.inr (some v0))] h (ty_Q w_X6_place 2 (ob_P h) h) := am_Mt.of (b_X6_place rfl o0 (okA_r hT o0 okA_n) (ob_I.start hT))
abbrev w_X6_beginItem : List (Nat × Nat) := [(6, 6), (6, 8), (6, 9)]
theorem b_X6_beginItem {B : Nat} {h0 : am_h} {lv : am_l} {h : am_h} {c s : Nat} {v0 : Nat} (g0 : am_get lv 0 = some (.inr (.inr (some v0)))) (o0 : ob 6 v0) (hL : am_okL h.length lv = true) (hI : ob_I w_X6_beginItem B h0 h c s) : am_Ok am_G 1 100 (0, lv, [], h, c, s) (ty_Q w_X6_beginItem 0 B h0) := by
  refine k_aload 1 rfl g0 rfl ?_
  obtain ⟨fs1, u2, e3, f4, t5⟩ := hI.1.get o0 (k := 3) rfl rfl
  obtain ⟨i6, rfl, o7⟩ := t5
  refine k_get 4 rfl e3 f4 rfl ?_
  refine k_push 5 rfl rfl ?_
  refine k_cl (W' := []) rfl (rw_cut (W := []) hI.1 (Or.inl o7)) rfl rfl rfl (hI.1.rc3 (Or.inl o7)) hI (by decide) hL so_n ?_
  rintro w8 h9 c10 s11 hv I12 L13 F14
  cases hv
  show am_Ok _ _ _ (8, _, [], h9, c10, s11) _
  refine k_aload 9 rfl g0 rfl ?_
  refine k_push 10 rfl rfl ?_
  obtain ⟨fs15, u16, e17, f18, t19⟩ := I12.1.get o0 (k := 8) rfl rfl
  refine k_put 13 rfl e17 rfl (List.getElem?_eq_some_iff.mp f18).1 rfl ?_
  obtain ⟨h20, E23, I21, l24⟩ := I12.put (v := .inl (0 : Int32)) o0 rfl e17 (k := 8) rfl (show ty_V 0 (.inl (0 : Int32)) from ⟨_, rfl⟩) (by decide) rfl
  rw [E23]
  have L22 := okL_eq l24 L13
  refine k_aload 14 rfl g0 rfl ?_
  refine k_aload 15 rfl g0 rfl ?_
  obtain ⟨fs25, u26, e27, f28, t29⟩ := I21.1.get o0 (k := 1) rfl rfl
  obtain ⟨i30, rfl, o31⟩ := t29
  refine k_get 18 rfl e27 f28 rfl ?_
  refine k_cl (W' := []) rfl (rw_size I21.1 (Or.inl o31)) rfl rfl rfl (I21.1.rc3 (Or.inl o31)) I21 (by decide) L22 (so_r I21 o0 so_n) ?_
  rintro w32 h33 c34 s35 hv I36 L37 F38
  obtain ⟨_, rfl, x39, rfl⟩ := hv
  show am_Ok _ _ _ (21, _, [.inl x39, .inr (.inr (some v0))], h33, c34, s35) _
  obtain ⟨fs40, u41, e42, f43, t44⟩ := I36.1.get o0 (k := 9) rfl rfl
  refine k_put 24 rfl e42 rfl (List.getElem?_eq_some_iff.mp f43).1 rfl ?_
  obtain ⟨h45, E48, I46, l49⟩ := I36.put (v := .inl x39) o0 rfl e42 (k := 9) rfl (show ty_V 0 (.inl x39) from ⟨_, rfl⟩) (by decide) rfl
  rw [E48]
  have L47 := okL_eq l49 L37
  refine k_aload 25 rfl g0 rfl ?_
  refine k_push 26 rfl rfl ?_
  obtain ⟨fs50, u51, e52, f53, t54⟩ := I46.1.get o0 (k := 6) rfl rfl
  refine k_put 29 rfl e52 rfl (List.getElem?_eq_some_iff.mp f53).1 rfl ?_
  obtain ⟨h55, E58, I56, l59⟩ := I46.put (v := .inl (0 : Int32)) o0 rfl e52 (k := 6) rfl (show ty_V 0 (.inl (0 : Int32)) from ⟨_, rfl⟩) (by decide) rfl
  rw [E58]
  have L57 := okL_eq l59 L47
  exact k_fin rfl rfl ⟨⟨_, rfl, rfl⟩, I56⟩
theorem c_X6_beginItem {h : am_h} {v0 : Nat} (hT : ty_H h) (o0 : ob 6 v0) : am_Mt 2 100 [.inr (.inr (some v0))] h (ty_Q w_X6_beginItem 0 (ob_P h) h) := am_Mt.of (b_X6_beginItem rfl o0 (okA_r hT o0 okA_n) (ob_I.start hT))
abbrev w_X6_isWhole : List (Nat × Nat) := []
theorem b_X6_isWhole {B : Nat} {h0 : am_h} {lv : am_l} {h : am_h} {c s : Nat} {v0 : Nat} (g0 : am_get lv 0 = some (.inr (.inr (some v0)))) (o0 : ob 6 v0) (hL : am_okL h.length lv = true) (hI : ob_I w_X6_isWhole B h0 h c s) : am_Ok am_G 1 102 (0, lv, [], h, c, s) (ty_Q w_X6_isWhole 3 B h0) := by
  refine k_aload 1 rfl g0 rfl ?_
  obtain ⟨fs1, u2, e3, f4, t5⟩ := hI.1.get o0 (k := 6) rfl rfl
  obtain ⟨x6, rfl⟩ := t5
  refine k_get 4 rfl e3 f4 rfl ?_
  refine k_push 5 rfl rfl ?_
  by_cases b7 : x6 = (4 : Int32)
  · refine k_c2 8 rfl rfl (if_pos b7) ?_
    refine k_aload 9 rfl g0 rfl ?_
    obtain ⟨fs8, u9, e10, f11, t12⟩ := hI.1.get o0 (k := 4) rfl rfl
    obtain ⟨i13, rfl, o14⟩ := t12
    refine k_get 12 rfl e10 f11 rfl ?_
    refine k_cl (W' := []) rfl (rw_size hI.1 (Or.inl o14)) rfl rfl rfl (hI.1.rc3 (Or.inl o14)) hI (by decide) hL so_n ?_
    rintro w15 h16 c17 s18 hv I19 L20 F21
    obtain ⟨_, rfl, x22, rfl⟩ := hv
    show am_Ok _ _ _ (15, _, [.inl x22], h16, c17, s18) _
    by_cases b23 : x22 = 0
    · refine k_c1 18 rfl rfl (if_pos b23) ?_
      refine k_push 19 rfl rfl ?_
      refine k_goto 23 rfl rfl ?_
      exact k_fin rfl (fin_Z (Or.inr rfl)) ⟨⟨_, rfl, ⟨_, rfl, _, rfl, (Or.inr rfl)⟩⟩, I19⟩
    · refine k_c1 22 rfl rfl (if_neg b23) ?_
      refine k_push 23 rfl rfl ?_
      exact k_fin rfl (fin_Z (Or.inl rfl)) ⟨⟨_, rfl, ⟨_, rfl, _, rfl, (Or.inl rfl)⟩⟩, I19⟩
  · refine k_c2 22 rfl rfl (if_neg b7) ?_
    refine k_push 23 rfl rfl ?_
    exact k_fin rfl (fin_Z (Or.inl rfl)) ⟨⟨_, rfl, ⟨_, rfl, _, rfl, (Or.inl rfl)⟩⟩, hI⟩
theorem c_X6_isWhole {h : am_h} {v0 : Nat} (hT : ty_H h) (o0 : ob 6 v0) : am_Mt 2 102 [.inr (.inr (some v0))] h (ty_Q w_X6_isWhole 3 (ob_P h) h) := am_Mt.of (b_X6_isWhole rfl o0 (okA_r hT o0 okA_n) (ob_I.start hT))
abbrev w_X6_takeClosing : List (Nat × Nat) := [(6, 7), (6, 8)]
theorem b_X6_takeClosing {B : Nat} {h0 : am_h} {lv : am_l} {h : am_h} {c s : Nat} {v0 : Nat} (g0 : am_get lv 0 = some (.inr (.inr (some v0)))) (o0 : ob 6 v0) (hL : am_okL h.length lv = true) (hI : ob_I w_X6_takeClosing B h0 h c s) : am_Ok am_G 1 96 (0, lv, [], h, c, s) (ty_Q w_X6_takeClosing 2 B h0) := by
  refine k_aload 1 rfl g0 rfl ?_
  obtain ⟨fs1, u2, e3, f4, t5⟩ := hI.1.get o0 (k := 6) rfl rfl
  obtain ⟨x6, rfl⟩ := t5
  refine k_get 4 rfl e3 f4 rfl ?_
  refine k_push 5 rfl rfl ?_
  by_cases b7 : x6 = (4 : Int32)
  · refine k_c2 8 rfl rfl (if_pos b7) ?_
    refine k_aload 9 rfl g0 rfl ?_
    obtain ⟨fs8, u9, e10, f11, t12⟩ := hI.1.get o0 (k := 4) rfl rfl
    obtain ⟨i13, rfl, o14⟩ := t12
    refine k_get 12 rfl e10 f11 rfl ?_
    refine k_cl (W' := []) rfl (rw_size hI.1 (Or.inl o14)) rfl rfl rfl (hI.1.rc3 (Or.inl o14)) hI (by decide) hL so_n ?_
    rintro w15 h16 c17 s18 hv I19 L20 F21
    obtain ⟨_, rfl, x22, rfl⟩ := hv
    show am_Ok _ _ _ (15, _, [.inl x22], h16, c17, s18) _
    by_cases b23 : x22 = 0
    · refine k_c1 18 rfl rfl (if_pos b23) ?_
      refine k_push 19 rfl rfl ?_
      exact k_fin rfl rfl ⟨⟨_, rfl, ⟨_, rfl, _, rfl⟩⟩, I19⟩
    · refine k_c1 20 rfl rfl (if_neg b23) ?_
      refine k_aload 21 rfl g0 rfl ?_
      obtain ⟨fs24, u25, e26, f27, t28⟩ := I19.1.get o0 (k := 3) rfl rfl
      obtain ⟨i29, rfl, o30⟩ := t28
      refine k_get 24 rfl e26 f27 rfl ?_
      refine k_aload 25 rfl g0 rfl ?_
      obtain ⟨fs31, u32, e33, f34, t35⟩ := I19.1.get o0 (k := 4) rfl rfl
      obtain ⟨i36, rfl, o37⟩ := t35
      refine k_get 28 rfl e33 f34 rfl ?_
      refine k_cl (W' := []) rfl (rw_takeLast I19.1 o37) rfl rfl rfl (I19.1.rc3 (Or.inl o37)) I19 (by decide) L20 (so_r I19 o30 so_n) ?_
      rintro w38 h39 c40 s41 hv I42 L43 F44
      obtain ⟨_, rfl, x45, rfl⟩ := hv
      show am_Ok _ _ _ (31, _, [.inl x45, .inr (.inr (some i29))], h39, c40, s41) _
      refine k_cl (W' := []) rfl (rw_cut (W := []) I42.1 (Or.inl o30)) rfl rfl rfl (I42.1.rc3 (Or.inl o30)) I42 (by decide) L43 so_n ?_
      rintro w46 h47 c48 s49 hv I50 L51 F52
      cases hv
      show am_Ok _ _ _ (34, _, [], h47, c48, s49) _
      refine k_aload 35 rfl g0 rfl ?_
      refine k_aload 36 rfl g0 rfl ?_
      obtain ⟨fs53, u54, e55, f56, t57⟩ := I50.1.get o0 (k := 4) rfl rfl
      obtain ⟨i58, rfl, o59⟩ := t57
      refine k_get 39 rfl e55 f56 rfl ?_
      refine k_cl (W' := []) rfl (rw_takeLast I50.1 o59) rfl rfl rfl (I50.1.rc3 (Or.inl o59)) I50 (by decide) L51 (so_r I50 o0 so_n) ?_
      rintro w60 h61 c62 s63 hv I64 L65 F66
      obtain ⟨_, rfl, x67, rfl⟩ := hv
      show am_Ok _ _ _ (42, _, [.inl x67, .inr (.inr (some v0))], h61, c62, s63) _
      obtain ⟨fs68, u69, e70, f71, t72⟩ := I64.1.get o0 (k := 8) rfl rfl
      refine k_put 45 rfl e70 rfl (List.getElem?_eq_some_iff.mp f71).1 rfl ?_
      obtain ⟨h73, E76, I74, l77⟩ := I64.put (v := .inl x67) o0 rfl e70 (k := 8) rfl (show ty_V 0 (.inl x67) from ⟨_, rfl⟩) (by decide) rfl
      rw [E76]
      have L75 := okL_eq l77 L65
      refine k_aload 46 rfl g0 rfl ?_
      refine k_aload 47 rfl g0 rfl ?_
      obtain ⟨fs78, u79, e80, f81, t82⟩ := I74.1.get o0 (k := 4) rfl rfl
      obtain ⟨i83, rfl, o84⟩ := t82
      refine k_get 50 rfl e80 f81 rfl ?_
      refine k_cl (W' := []) rfl (rw_takeLast I74.1 o84) rfl rfl rfl (I74.1.rc3 (Or.inl o84)) I74 (by decide) L75 (so_r I74 o0 so_n) ?_
      rintro w85 h86 c87 s88 hv I89 L90 F91
      obtain ⟨_, rfl, x92, rfl⟩ := hv
      show am_Ok _ _ _ (53, _, [.inl x92, .inr (.inr (some v0))], h86, c87, s88) _
      obtain ⟨fs93, u94, e95, f96, t97⟩ := I89.1.get o0 (k := 7) rfl rfl
      refine k_put 56 rfl e95 rfl (List.getElem?_eq_some_iff.mp f96).1 rfl ?_
      obtain ⟨h98, E101, I99, l102⟩ := I89.put (v := .inl x92) o0 rfl e95 (k := 7) rfl (show ty_V 0 (.inl x92) from ⟨_, rfl⟩) (by decide) rfl
      rw [E101]
      have L100 := okL_eq l102 L90
      refine k_push 57 rfl rfl ?_
      exact k_fin rfl rfl ⟨⟨_, rfl, ⟨_, rfl, _, rfl⟩⟩, I99⟩
  · refine k_c2 18 rfl rfl (if_neg b7) ?_
    refine k_push 19 rfl rfl ?_
    exact k_fin rfl rfl ⟨⟨_, rfl, ⟨_, rfl, _, rfl⟩⟩, hI⟩
theorem c_X6_takeClosing {h : am_h} {v0 : Nat} (hT : ty_H h) (o0 : ob 6 v0) : am_Mt 2 96 [.inr (.inr (some v0))] h (ty_Q w_X6_takeClosing 2 (ob_P h) h) := am_Mt.of (b_X6_takeClosing rfl o0 (okA_r hT o0 okA_n) (ob_I.start hT))
abbrev w_X6_takeFunction : List (Nat × Nat) := [(6, 6)]
theorem b_X6_takeFunction {B : Nat} {h0 : am_h} {lv : am_l} {h : am_h} {c s : Nat} {v0 : Nat} (g0 : am_get lv 0 = some (.inr (.inr (some v0)))) (o0 : ob 6 v0) (hL : am_okL h.length lv = true) (hI : ob_I w_X6_takeFunction B h0 h c s) : am_Ok am_G 0 97 (0, lv, [], h, c, s) (ty_Q w_X6_takeFunction 2 B h0) := by
  refine k_aload 1 rfl g0 rfl ?_
  obtain ⟨fs1, u2, e3, f4, t5⟩ := hI.1.get o0 (k := 6) rfl rfl
  obtain ⟨x6, rfl⟩ := t5
  refine k_get 4 rfl e3 f4 rfl ?_
  by_cases b7 : x6 = 0
  · refine k_c1 17 rfl rfl (if_pos b7) ?_
    refine k_aload 18 rfl g0 rfl ?_
    refine k_push 19 rfl rfl ?_
    obtain ⟨fs8, u9, e10, f11, t12⟩ := hI.1.get o0 (k := 6) rfl rfl
    refine k_put 22 rfl e10 rfl (List.getElem?_eq_some_iff.mp f11).1 rfl ?_
    obtain ⟨h13, E16, I14, l17⟩ := hI.put (v := .inl (2 : Int32)) o0 rfl e10 (k := 6) rfl (show ty_V 0 (.inl (2 : Int32)) from ⟨_, rfl⟩) (by decide) rfl
    rw [E16]
    have L15 := okL_eq l17 hL
    refine k_push 23 rfl rfl ?_
    exact k_fin rfl rfl ⟨⟨_, rfl, ⟨_, rfl, _, rfl⟩⟩, I14⟩
  · refine k_c1 7 rfl rfl (if_neg b7) ?_
    refine k_aload 8 rfl g0 rfl ?_
    obtain ⟨fs18, u19, e20, f21, t22⟩ := hI.1.get o0 (k := 6) rfl rfl
    obtain ⟨x23, rfl⟩ := t22
    refine k_get 11 rfl e20 f21 rfl ?_
    refine k_push 12 rfl rfl ?_
    by_cases b24 : x23 = (1 : Int32)
    · refine k_c2 17 rfl rfl (if_pos b24) ?_
      refine k_aload 18 rfl g0 rfl ?_
      refine k_push 19 rfl rfl ?_
      obtain ⟨fs25, u26, e27, f28, t29⟩ := hI.1.get o0 (k := 6) rfl rfl
      refine k_put 22 rfl e27 rfl (List.getElem?_eq_some_iff.mp f28).1 rfl ?_
      obtain ⟨h30, E33, I31, l34⟩ := hI.put (v := .inl (2 : Int32)) o0 rfl e27 (k := 6) rfl (show ty_V 0 (.inl (2 : Int32)) from ⟨_, rfl⟩) (by decide) rfl
      rw [E33]
      have L32 := okL_eq l34 hL
      refine k_push 23 rfl rfl ?_
      exact k_fin rfl rfl ⟨⟨_, rfl, ⟨_, rfl, _, rfl⟩⟩, I31⟩
    · refine k_c2 15 rfl rfl (if_neg b24) ?_
      refine k_push 16 rfl rfl ?_
      exact k_fin rfl rfl ⟨⟨_, rfl, ⟨_, rfl, _, rfl⟩⟩, hI⟩
theorem c_X6_takeFunction {h : am_h} {v0 : Nat} (hT : ty_H h) (o0 : ob 6 v0) : am_Mt 1 97 [.inr (.inr (some v0))] h (ty_Q w_X6_takeFunction 2 (ob_P h) h) := am_Mt.of (b_X6_takeFunction rfl o0 (okA_r hT o0 okA_n) (ob_I.start hT))
abbrev w_X6_beginAtom : List (Nat × Nat) := [(6, 7), (6, 8)]
theorem b_X6_beginAtom {B : Nat} {h0 : am_h} {lv : am_l} {h : am_h} {c s : Nat} {v0 : Nat} (g0 : am_get lv 0 = some (.inr (.inr (some v0)))) (o0 : ob 6 v0) (hL : am_okL h.length lv = true) (hI : ob_I w_X6_beginAtom B h0 h c s) : am_Ok am_G 2 103 (0, lv, [], h, c, s) (ty_Q w_X6_beginAtom 0 B h0) := by
  refine k_aload 1 rfl g0 rfl ?_
  obtain ⟨fs1, u2, e3, f4, t5⟩ := hI.1.get o0 (k := 8) rfl rfl
  obtain ⟨x6, rfl⟩ := t5
  refine k_get 4 rfl e3 f4 rfl ?_
  by_cases b7 : x6 = 0
  · refine k_c1 7 rfl rfl (if_pos b7) ?_
    refine k_aload 8 rfl g0 rfl ?_
    refine k_aload 9 rfl g0 rfl ?_
    obtain ⟨fs8, u9, e10, f11, t12⟩ := hI.1.get o0 (k := 1) rfl rfl
    obtain ⟨i13, rfl, o14⟩ := t12
    refine k_get 12 rfl e10 f11 rfl ?_
    refine k_cl (W' := []) rfl (rw_size hI.1 (Or.inl o14)) rfl rfl rfl (hI.1.rc3 (Or.inl o14)) hI (by decide) hL (so_r hI o0 so_n) ?_
    rintro w15 h16 c17 s18 hv I19 L20 F21
    obtain ⟨_, rfl, x22, rfl⟩ := hv
    show am_Ok _ _ _ (15, _, [.inl x22, .inr (.inr (some v0))], h16, c17, s18) _
    obtain ⟨fs23, u24, e25, f26, t27⟩ := I19.1.get o0 (k := 7) rfl rfl
    refine k_put 18 rfl e25 rfl (List.getElem?_eq_some_iff.mp f26).1 rfl ?_
    obtain ⟨h28, E31, I29, l32⟩ := I19.put (v := .inl x22) o0 rfl e25 (k := 7) rfl (show ty_V 0 (.inl x22) from ⟨_, rfl⟩) (by decide) rfl
    rw [E31]
    have L30 := okL_eq l32 L20
    refine k_goto 33 rfl rfl ?_
    refine k_aload 34 rfl g0 rfl ?_
    refine k_dup 35 rfl rfl rfl ?_
    obtain ⟨fs33, u34, e35, f36, t37⟩ := I29.1.get o0 (k := 8) rfl rfl
    obtain ⟨x38, rfl⟩ := t37
    refine k_get 38 rfl e35 f36 rfl ?_
    refine k_push 39 rfl rfl ?_
    obtain ⟨x39, q40⟩ : ∃ q : Int32, q = (x38 + (1 : Int32)) := ⟨_, rfl⟩
    refine k_bin x39 40 rfl q40.symm rfl ?_
    obtain ⟨fs41, u42, e43, f44, t45⟩ := I29.1.get o0 (k := 8) rfl rfl
    refine k_put 43 rfl e43 rfl (List.getElem?_eq_some_iff.mp f44).1 rfl ?_
    obtain ⟨h46, E49, I47, l50⟩ := I29.put (v := .inl x39) o0 rfl e43 (k := 8) rfl (show ty_V 0 (.inl x39) from ⟨_, rfl⟩) (by decide) rfl
    rw [E49]
    have L48 := okL_eq l50 L30
    exact k_fin rfl rfl ⟨⟨_, rfl, rfl⟩, I47⟩
  · refine k_c1 21 rfl rfl (if_neg b7) ?_
    refine k_aload 22 rfl g0 rfl ?_
    obtain ⟨fs51, u52, e53, f54, t55⟩ := hI.1.get o0 (k := 1) rfl rfl
    obtain ⟨i56, rfl, o57⟩ := t55
    refine k_get 25 rfl e53 f54 rfl ?_
    refine k_aload 26 rfl g0 rfl ?_
    obtain ⟨fs58, u59, e60, f61, t62⟩ := hI.1.get o0 (k := 7) rfl rfl
    obtain ⟨x63, rfl⟩ := t62
    refine k_get 29 rfl e60 f61 rfl ?_
    refine k_push 30 rfl rfl ?_
    refine k_cl (W' := []) rfl (rw_insert hI.1 o57) rfl rfl rfl (hI.1.rc3 (Or.inl o57)) hI (by decide) hL so_n ?_
    rintro w64 h65 c66 s67 hv I68 L69 F70
    cases hv
    show am_Ok _ _ _ (33, _, [], h65, c66, s67) _
    refine k_aload 34 rfl g0 rfl ?_
    refine k_dup 35 rfl rfl rfl ?_
    obtain ⟨fs71, u72, e73, f74, t75⟩ := I68.1.get o0 (k := 8) rfl rfl
    obtain ⟨x76, rfl⟩ := t75
    refine k_get 38 rfl e73 f74 rfl ?_
    refine k_push 39 rfl rfl ?_
    obtain ⟨x77, q78⟩ : ∃ q : Int32, q = (x76 + (1 : Int32)) := ⟨_, rfl⟩
    refine k_bin x77 40 rfl q78.symm rfl ?_
    obtain ⟨fs79, u80, e81, f82, t83⟩ := I68.1.get o0 (k := 8) rfl rfl
    refine k_put 43 rfl e81 rfl (List.getElem?_eq_some_iff.mp f82).1 rfl ?_
    obtain ⟨h84, E87, I85, l88⟩ := I68.put (v := .inl x77) o0 rfl e81 (k := 8) rfl (show ty_V 0 (.inl x77) from ⟨_, rfl⟩) (by decide) rfl
    rw [E87]
    have L86 := okL_eq l88 L69
    exact k_fin rfl rfl ⟨⟨_, rfl, rfl⟩, I85⟩
theorem c_X6_beginAtom {h : am_h} {v0 : Nat} (hT : ty_H h) (o0 : ob 6 v0) : am_Mt 3 103 [.inr (.inr (some v0))] h (ty_Q w_X6_beginAtom 0 (ob_P h) h) := am_Mt.of (b_X6_beginAtom rfl o0 (okA_r hT o0 okA_n) (ob_I.start hT))
abbrev w_X6_isAtomDue : List (Nat × Nat) := []
theorem b_X6_isAtomDue {B : Nat} {h0 : am_h} {lv : am_l} {h : am_h} {c s : Nat} {v0 : Nat} (g0 : am_get lv 0 = some (.inr (.inr (some v0)))) (o0 : ob 6 v0) (hL : am_okL h.length lv = true) (hI : ob_I w_X6_isAtomDue B h0 h c s) : am_Ok am_G 0 101 (0, lv, [], h, c, s) (ty_Q w_X6_isAtomDue 3 B h0) := by
  refine k_aload 1 rfl g0 rfl ?_
  obtain ⟨fs1, u2, e3, f4, t5⟩ := hI.1.get o0 (k := 6) rfl rfl
  obtain ⟨x6, rfl⟩ := t5
  refine k_get 4 rfl e3 f4 rfl ?_
  by_cases b7 : x6 = 0
  · refine k_c1 23 rfl rfl (if_pos b7) ?_
    refine k_push 24 rfl rfl ?_
    refine k_goto 28 rfl rfl ?_
    exact k_fin rfl (fin_Z (Or.inr rfl)) ⟨⟨_, rfl, ⟨_, rfl, _, rfl, (Or.inr rfl)⟩⟩, hI⟩
  · refine k_c1 7 rfl rfl (if_neg b7) ?_
    refine k_aload 8 rfl g0 rfl ?_
    obtain ⟨fs8, u9, e10, f11, t12⟩ := hI.1.get o0 (k := 6) rfl rfl
    obtain ⟨x13, rfl⟩ := t12
    refine k_get 11 rfl e10 f11 rfl ?_
    refine k_push 12 rfl rfl ?_
    by_cases b14 : x13 = (1 : Int32)
    · refine k_c2 23 rfl rfl (if_pos b14) ?_
      refine k_push 24 rfl rfl ?_
      refine k_goto 28 rfl rfl ?_
      exact k_fin rfl (fin_Z (Or.inr rfl)) ⟨⟨_, rfl, ⟨_, rfl, _, rfl, (Or.inr rfl)⟩⟩, hI⟩
    · refine k_c2 15 rfl rfl (if_neg b14) ?_
      refine k_aload 16 rfl g0 rfl ?_
      obtain ⟨fs15, u16, e17, f18, t19⟩ := hI.1.get o0 (k := 6) rfl rfl
      obtain ⟨x20, rfl⟩ := t19
      refine k_get 19 rfl e17 f18 rfl ?_
      refine k_push 20 rfl rfl ?_
      by_cases b21 : x20 = (4 : Int32)
      · refine k_c2 23 rfl rfl (if_pos b21) ?_
        refine k_push 24 rfl rfl ?_
        refine k_goto 28 rfl rfl ?_
        exact k_fin rfl (fin_Z (Or.inr rfl)) ⟨⟨_, rfl, ⟨_, rfl, _, rfl, (Or.inr rfl)⟩⟩, hI⟩
      · refine k_c2 27 rfl rfl (if_neg b21) ?_
        refine k_push 28 rfl rfl ?_
        exact k_fin rfl (fin_Z (Or.inl rfl)) ⟨⟨_, rfl, ⟨_, rfl, _, rfl, (Or.inl rfl)⟩⟩, hI⟩
theorem c_X6_isAtomDue {h : am_h} {v0 : Nat} (hT : ty_H h) (o0 : ob 6 v0) : am_Mt 1 101 [.inr (.inr (some v0))] h (ty_Q w_X6_isAtomDue 3 (ob_P h) h) := am_Mt.of (b_X6_isAtomDue rfl o0 (okA_r hT o0 okA_n) (ob_I.start hT))
abbrev w_X7_end : List (Nat × Nat) := []
theorem b_X7_end {B : Nat} {h0 : am_h} {lv : am_l} {h : am_h} {c s : Nat} {v0 : Nat} (g0 : am_get lv 0 = some (.inr (.inr (some v0)))) (o0 : ob 7 v0) (hL : am_okL h.length lv = true) (hI : ob_I w_X7_end B h0 h c s) : am_Ok am_G 0 108 (0, lv, [], h, c, s) (ty_Q w_X7_end 2 B h0) := by
  refine k_aload 1 rfl g0 rfl ?_
  obtain ⟨fs1, u2, e3, f4, t5⟩ := hI.1.get o0 (k := 3) rfl rfl
  obtain ⟨x6, rfl⟩ := t5
  refine k_get 4 rfl e3 f4 rfl ?_
  exact k_fin rfl rfl ⟨⟨_, rfl, ⟨_, rfl, _, rfl⟩⟩, hI⟩
theorem c_X7_end {h : am_h} {v0 : Nat} (hT : ty_H h) (o0 : ob 7 v0) : am_Mt 1 108 [.inr (.inr (some v0))] h (ty_Q w_X7_end 2 (ob_P h) h) := am_Mt.of (b_X7_end rfl o0 (okA_r hT o0 okA_n) (ob_I.start hT))
abbrev w_X7_figure : List (Nat × Nat) := []
theorem b_X7_figure {B : Nat} {h0 : am_h} {lv : am_l} {h : am_h} {c s : Nat} {v0 : Nat} (g0 : am_get lv 0 = some (.inr (.inr (some v0)))) (o0 : ob 7 v0) (hL : am_okL h.length lv = true) (hI : ob_I w_X7_figure B h0 h c s) : am_Ok am_G 1 109 (0, lv, [], h, c, s) (ty_Q w_X7_figure 2 B h0) := by
  refine k_aload 1 rfl g0 rfl ?_
  obtain ⟨fs1, u2, e3, f4, t5⟩ := hI.1.get o0 (k := 0) rfl rfl
  obtain ⟨i6, rfl, o7⟩ := t5
  refine k_get 4 rfl e3 f4 rfl ?_
  refine k_aload 5 rfl g0 rfl ?_
  obtain ⟨fs8, u9, e10, f11, t12⟩ := hI.1.get o0 (k := 2) rfl rfl
  obtain ⟨x13, rfl⟩ := t12
  refine k_get 8 rfl e10 f11 rfl ?_
  refine k_cl (W' := []) rfl (rw_get hI.1 (Or.inr o7)) rfl rfl rfl (hI.1.rc3 (Or.inr o7)) hI (by decide) hL so_n ?_
  rintro w14 h15 c16 s17 hv I18 L19 F20
  obtain ⟨_, rfl, x21, rfl⟩ := hv
  show am_Ok _ _ _ (11, _, [.inl x21], h15, c16, s17) _
  refine k_push 13 rfl rfl ?_
  obtain ⟨x22, q23⟩ : ∃ q : Int32, q = (x21 - (48 : Int32)) := ⟨_, rfl⟩
  refine k_bin x22 14 rfl q23.symm rfl ?_
  exact k_fin rfl rfl ⟨⟨_, rfl, ⟨_, rfl, _, rfl⟩⟩, I18⟩
theorem c_X7_figure {h : am_h} {v0 : Nat} (hT : ty_H h) (o0 : ob 7 v0) : am_Mt 2 109 [.inr (.inr (some v0))] h (ty_Q w_X7_figure 2 (ob_P h) h) := am_Mt.of (b_X7_figure rfl o0 (okA_r hT o0 okA_n) (ob_I.start hT))
abbrev w_X6_takeNumber : List (Nat × Nat) := [(6, 6), (6, 7), (6, 8)]
theorem b_X6_takeNumber {B : Nat} {h0 : am_h} {lv : am_l} {h : am_h} {c s : Nat} {v0 : Nat} (g0 : am_get lv 0 = some (.inr (.inr (some v0)))) (o0 : ob 6 v0) (hL : am_okL h.length lv = true) (hI : ob_I w_X6_takeNumber B h0 h c s) : am_Ok am_G 3 94 (0, lv, [], h, c, s) (ty_Q w_X6_takeNumber 2 B h0) := by
  refine k_aload 1 rfl g0 rfl ?_
  refine k_cl (W' := w_X6_isAtomDue) rfl (c_X6_isAtomDue hI.1 o0) rfl rfl rfl (hI.1.rc o0 rfl) hI (by decide) hL so_n ?_
  rintro w1 h2 c3 s4 hv I5 L6 F7
  obtain ⟨_, rfl, x8, rfl, z9⟩ := hv
  show am_Ok _ _ _ (4, _, [.inl x8], h2, c3, s4) _
  by_cases b10 : x8 = 0
  · refine k_c1 7 rfl rfl (if_pos b10) ?_
    refine k_push 8 rfl rfl ?_
    exact k_fin rfl rfl ⟨⟨_, rfl, ⟨_, rfl, _, rfl⟩⟩, I5⟩
  · refine k_c1 9 rfl rfl (if_neg b10) ?_
    refine k_aload 10 rfl g0 rfl ?_
    obtain ⟨fs11, u12, e13, f14, t15⟩ := I5.1.get o0 (k := 0) rfl rfl
    obtain ⟨i16, rfl, o17⟩ := t15
    refine k_get 13 rfl e13 f14 rfl ?_
    refine k_cl (W' := w_X7_end) rfl (c_X7_end I5.1 o17) rfl rfl rfl (I5.1.rc o17 rfl) I5 (by decide) L6 so_n ?_
    rintro w18 h19 c20 s21 hv I22 L23 F24
    obtain ⟨_, rfl, x25, rfl⟩ := hv
    show am_Ok _ _ _ (16, _, [.inl x25], h19, c20, s21) _
    refine k_aload 17 rfl g0 rfl ?_
    obtain ⟨fs26, u27, e28, f29, t30⟩ := I22.1.get o0 (k := 0) rfl rfl
    obtain ⟨i31, rfl, o32⟩ := t30
    refine k_get 20 rfl e28 f29 rfl ?_
    refine k_cl (W' := w_X7_start) rfl (c_X7_start I22.1 o32) rfl rfl rfl (I22.1.rc o32 rfl) I22 (by decide) L23 (so_i so_n) ?_
    rintro w33 h34 c35 s36 hv I37 L38 F39
    obtain ⟨_, rfl, x40, rfl⟩ := hv
    show am_Ok _ _ _ (23, _, [.inl x40, .inl x25], h34, c35, s36) _
    obtain ⟨x41, q42⟩ : ∃ q : Int32, q = (x25 - x40) := ⟨_, rfl⟩
    refine k_bin x41 24 rfl q42.symm rfl ?_
    refine k_push 25 rfl rfl ?_
    by_cases b43 : x41 ≤ (1 : Int32)
    · refine k_c2 30 rfl rfl (if_pos b43) ?_
      refine k_aload 31 rfl g0 rfl ?_
      refine k_cl (W' := w_X6_beginAtom) rfl (c_X6_beginAtom I37.1 o0) rfl rfl rfl (I37.1.rc o0 rfl) I37 (by decide) L38 so_n ?_
      rintro w44 h45 c46 s47 hv I48 L49 F50
      cases hv
      show am_Ok _ _ _ (34, _, [], h45, c46, s47) _
      refine k_aload 35 rfl g0 rfl ?_
      obtain ⟨fs51, u52, e53, f54, t55⟩ := I48.1.get o0 (k := 1) rfl rfl
      obtain ⟨i56, rfl, o57⟩ := t55
      refine k_get 38 rfl e53 f54 rfl ?_
      refine k_push 39 rfl rfl ?_
      refine k_aload 40 rfl g0 rfl ?_
      obtain ⟨fs58, u59, e60, f61, t62⟩ := I48.1.get o0 (k := 0) rfl rfl
      obtain ⟨i63, rfl, o64⟩ := t62
      refine k_get 43 rfl e60 f61 rfl ?_
      refine k_cl (W' := w_X7_figure) rfl (c_X7_figure I48.1 o64) rfl rfl rfl (I48.1.rc o64 rfl) I48 (by decide) L49 (so_i (so_r I48 o57 so_n)) ?_
      rintro w65 h66 c67 s68 hv I69 L70 F71
      obtain ⟨_, rfl, x72, rfl⟩ := hv
      show am_Ok _ _ _ (46, _, [.inl x72, .inl (-1 : Int32), .inr (.inr (some i56))], h66, c67, s68) _
      obtain ⟨x73, q74⟩ : ∃ q : Int32, q = ((-1 : Int32) - x72) := ⟨_, rfl⟩
      refine k_bin x73 47 rfl q74.symm rfl ?_
      refine k_cl (W' := []) rfl ((rw_add (W := []) I69.1 (Or.inl o57)).imp (fun _ z => z.1)) rfl rfl rfl (I69.1.rc3 (Or.inl o57)) I69 (by decide) L70 so_n ?_
      rintro w75 h76 c77 s78 hv I79 L80 F81
      obtain ⟨_, rfl, x82, rfl, z83⟩ := hv
      show am_Ok _ _ _ (50, _, [.inl x82], h76, c77, s78) _
      refine k_pop 51 rfl rfl rfl ?_
      refine k_aload 52 rfl g0 rfl ?_
      refine k_push 53 rfl rfl ?_
      obtain ⟨fs84, u85, e86, f87, t88⟩ := I79.1.get o0 (k := 6) rfl rfl
      refine k_put 56 rfl e86 rfl (List.getElem?_eq_some_iff.mp f87).1 rfl ?_
      obtain ⟨h89, E92, I90, l93⟩ := I79.put (v := .inl (4 : Int32)) o0 rfl e86 (k := 6) rfl (show ty_V 0 (.inl (4 : Int32)) from ⟨_, rfl⟩) (by decide) rfl
      rw [E92]
      have L91 := okL_eq l93 L80
      refine k_push 57 rfl rfl ?_
      exact k_fin rfl rfl ⟨⟨_, rfl, ⟨_, rfl, _, rfl⟩⟩, I90⟩
    · refine k_c2 28 rfl rfl (if_neg b43) ?_
      refine k_push 29 rfl rfl ?_
      exact k_fin rfl rfl ⟨⟨_, rfl, ⟨_, rfl, _, rfl⟩⟩, I37⟩
theorem c_X6_takeNumber {h : am_h} {v0 : Nat} (hT : ty_H h) (o0 : ob 6 v0) : am_Mt 4 94 [.inr (.inr (some v0))] h (ty_Q w_X6_takeNumber 2 (ob_P h) h) := am_Mt.of (b_X6_takeNumber rfl o0 (okA_r hT o0 okA_n) (ob_I.start hT))
abbrev w_X6_takeOpening : List (Nat × Nat) := [(6, 6), (6, 7), (6, 8)]
theorem b_X6_takeOpening {B : Nat} {h0 : am_h} {lv : am_l} {h : am_h} {c s : Nat} {v0 : Nat} (g0 : am_get lv 0 = some (.inr (.inr (some v0)))) (o0 : ob 6 v0) (hL : am_okL h.length lv = true) (hI : ob_I w_X6_takeOpening B h0 h c s) : am_Ok am_G 3 95 (0, lv, [], h, c, s) (ty_Q w_X6_takeOpening 2 B h0) := by
  refine k_aload 1 rfl g0 rfl ?_
  refine k_cl (W' := w_X6_isAtomDue) rfl (c_X6_isAtomDue hI.1 o0) rfl rfl rfl (hI.1.rc o0 rfl) hI (by decide) hL so_n ?_
  rintro w1 h2 c3 s4 hv I5 L6 F7
  obtain ⟨_, rfl, x8, rfl, z9⟩ := hv
  show am_Ok _ _ _ (4, _, [.inl x8], h2, c3, s4) _
  by_cases b10 : x8 = 0
  · refine k_c1 7 rfl rfl (if_pos b10) ?_
    refine k_push 8 rfl rfl ?_
    exact k_fin rfl rfl ⟨⟨_, rfl, ⟨_, rfl, _, rfl⟩⟩, I5⟩
  · refine k_c1 9 rfl rfl (if_neg b10) ?_
    refine k_aload 10 rfl g0 rfl ?_
    obtain ⟨fs11, u12, e13, f14, t15⟩ := I5.1.get o0 (k := 4) rfl rfl
    obtain ⟨i16, rfl, o17⟩ := t15
    refine k_get 13 rfl e13 f14 rfl ?_
    refine k_cl (W' := []) rfl (rw_size I5.1 (Or.inl o17)) rfl rfl rfl (I5.1.rc3 (Or.inl o17)) I5 (by decide) L6 so_n ?_
    rintro w18 h19 c20 s21 hv I22 L23 F24
    obtain ⟨_, rfl, x25, rfl⟩ := hv
    show am_Ok _ _ _ (16, _, [.inl x25], h19, c20, s21) _
    refine k_push 18 rfl rfl ?_
    by_cases b26 : x25 < (36 : Int32)
    · refine k_c2 23 rfl rfl (if_pos b26) ?_
      refine k_aload 24 rfl g0 rfl ?_
      refine k_cl (W' := w_X6_beginAtom) rfl (c_X6_beginAtom I22.1 o0) rfl rfl rfl (I22.1.rc o0 rfl) I22 (by decide) L23 so_n ?_
      rintro w27 h28 c29 s30 hv I31 L32 F33
      cases hv
      show am_Ok _ _ _ (27, _, [], h28, c29, s30) _
      refine k_aload 28 rfl g0 rfl ?_
      obtain ⟨fs34, u35, e36, f37, t38⟩ := I31.1.get o0 (k := 4) rfl rfl
      obtain ⟨i39, rfl, o40⟩ := t38
      refine k_get 31 rfl e36 f37 rfl ?_
      refine k_aload 32 rfl g0 rfl ?_
      obtain ⟨fs41, u42, e43, f44, t45⟩ := I31.1.get o0 (k := 7) rfl rfl
      obtain ⟨x46, rfl⟩ := t45
      refine k_get 35 rfl e43 f44 rfl ?_
      refine k_cl (W' := []) rfl ((rw_add (W := []) I31.1 (Or.inl o40)).imp (fun _ z => z.1)) rfl rfl rfl (I31.1.rc3 (Or.inl o40)) I31 (by decide) L32 so_n ?_
      rintro w47 h48 c49 s50 hv I51 L52 F53
      obtain ⟨_, rfl, x54, rfl, z55⟩ := hv
      show am_Ok _ _ _ (38, _, [.inl x54], h48, c49, s50) _
      refine k_pop 39 rfl rfl rfl ?_
      refine k_aload 40 rfl g0 rfl ?_
      obtain ⟨fs56, u57, e58, f59, t60⟩ := I51.1.get o0 (k := 4) rfl rfl
      obtain ⟨i61, rfl, o62⟩ := t60
      refine k_get 43 rfl e58 f59 rfl ?_
      refine k_aload 44 rfl g0 rfl ?_
      obtain ⟨fs63, u64, e65, f66, t67⟩ := I51.1.get o0 (k := 8) rfl rfl
      obtain ⟨x68, rfl⟩ := t67
      refine k_get 47 rfl e65 f66 rfl ?_
      refine k_cl (W' := []) rfl ((rw_add (W := []) I51.1 (Or.inl o62)).imp (fun _ z => z.1)) rfl rfl rfl (I51.1.rc3 (Or.inl o62)) I51 (by decide) L52 so_n ?_
      rintro w69 h70 c71 s72 hv I73 L74 F75
      obtain ⟨_, rfl, x76, rfl, z77⟩ := hv
      show am_Ok _ _ _ (50, _, [.inl x76], h70, c71, s72) _
      refine k_pop 51 rfl rfl rfl ?_
      refine k_aload 52 rfl g0 rfl ?_
      obtain ⟨fs78, u79, e80, f81, t82⟩ := I73.1.get o0 (k := 4) rfl rfl
      obtain ⟨i83, rfl, o84⟩ := t82
      refine k_get 55 rfl e80 f81 rfl ?_
      refine k_aload 56 rfl g0 rfl ?_
      obtain ⟨fs85, u86, e87, f88, t89⟩ := I73.1.get o0 (k := 3) rfl rfl
      obtain ⟨i90, rfl, o91⟩ := t89
      refine k_get 59 rfl e87 f88 rfl ?_
      refine k_cl (W' := []) rfl (rw_size I73.1 (Or.inl o91)) rfl rfl rfl (I73.1.rc3 (Or.inl o91)) I73 (by decide) L74 (so_r I73 o84 so_n) ?_
      rintro w92 h93 c94 s95 hv I96 L97 F98
      obtain ⟨_, rfl, x99, rfl⟩ := hv
      show am_Ok _ _ _ (62, _, [.inl x99, .inr (.inr (some i83))], h93, c94, s95) _
      refine k_cl (W' := []) rfl ((rw_add (W := []) I96.1 (Or.inl o84)).imp (fun _ z => z.1)) rfl rfl rfl (I96.1.rc3 (Or.inl o84)) I96 (by decide) L97 so_n ?_
      rintro w100 h101 c102 s103 hv I104 L105 F106
      obtain ⟨_, rfl, x107, rfl, z108⟩ := hv
      show am_Ok _ _ _ (65, _, [.inl x107], h101, c102, s103) _
      refine k_pop 66 rfl rfl rfl ?_
      refine k_aload 67 rfl g0 rfl ?_
      refine k_push 68 rfl rfl ?_
      obtain ⟨fs109, u110, e111, f112, t113⟩ := I104.1.get o0 (k := 8) rfl rfl
      refine k_put 71 rfl e111 rfl (List.getElem?_eq_some_iff.mp f112).1 rfl ?_
      obtain ⟨h114, E117, I115, l118⟩ := I104.put (v := .inl (0 : Int32)) o0 rfl e111 (k := 8) rfl (show ty_V 0 (.inl (0 : Int32)) from ⟨_, rfl⟩) (by decide) rfl
      rw [E117]
      have L116 := okL_eq l118 L105
      refine k_aload 72 rfl g0 rfl ?_
      refine k_push 73 rfl rfl ?_
      obtain ⟨fs119, u120, e121, f122, t123⟩ := I115.1.get o0 (k := 6) rfl rfl
      refine k_put 76 rfl e121 rfl (List.getElem?_eq_some_iff.mp f122).1 rfl ?_
      obtain ⟨h124, E127, I125, l128⟩ := I115.put (v := .inl (1 : Int32)) o0 rfl e121 (k := 6) rfl (show ty_V 0 (.inl (1 : Int32)) from ⟨_, rfl⟩) (by decide) rfl
      rw [E127]
      have L126 := okL_eq l128 L116
      refine k_push 77 rfl rfl ?_
      exact k_fin rfl rfl ⟨⟨_, rfl, ⟨_, rfl, _, rfl⟩⟩, I125⟩
    · refine k_c2 21 rfl rfl (if_neg b26) ?_
      refine k_push 22 rfl rfl ?_
      exact k_fin rfl rfl ⟨⟨_, rfl, ⟨_, rfl, _, rfl⟩⟩, I22⟩
theorem c_X6_takeOpening {h : am_h} {v0 : Nat} (hT : ty_H h) (o0 : ob 6 v0) : am_Mt 4 95 [.inr (.inr (some v0))] h (ty_Q w_X6_takeOpening 2 (ob_P h) h) := am_Mt.of (b_X6_takeOpening rfl o0 (okA_r hT o0 okA_n) (ob_I.start hT))
abbrev w_X6_takePoint : List (Nat × Nat) := [(6, 6)]
theorem b_X6_takePoint {B : Nat} {h0 : am_h} {lv : am_l} {h : am_h} {c s : Nat} {v0 : Nat} (g0 : am_get lv 0 = some (.inr (.inr (some v0)))) (o0 : ob 6 v0) (hL : am_okL h.length lv = true) (hI : ob_I w_X6_takePoint B h0 h c s) : am_Ok am_G 0 98 (0, lv, [], h, c, s) (ty_Q w_X6_takePoint 2 B h0) := by
  refine k_aload 1 rfl g0 rfl ?_
  obtain ⟨fs1, u2, e3, f4, t5⟩ := hI.1.get o0 (k := 6) rfl rfl
  obtain ⟨x6, rfl⟩ := t5
  refine k_get 4 rfl e3 f4 rfl ?_
  refine k_push 5 rfl rfl ?_
  by_cases b7 : x6 = (3 : Int32)
  · refine k_c2 10 rfl rfl (if_pos b7) ?_
    refine k_aload 11 rfl g0 rfl ?_
    refine k_push 12 rfl rfl ?_
    obtain ⟨fs8, u9, e10, f11, t12⟩ := hI.1.get o0 (k := 6) rfl rfl
    refine k_put 15 rfl e10 rfl (List.getElem?_eq_some_iff.mp f11).1 rfl ?_
    obtain ⟨h13, E16, I14, l17⟩ := hI.put (v := .inl (1 : Int32)) o0 rfl e10 (k := 6) rfl (show ty_V 0 (.inl (1 : Int32)) from ⟨_, rfl⟩) (by decide) rfl
    rw [E16]
    have L15 := okL_eq l17 hL
    refine k_push 16 rfl rfl ?_
    exact k_fin rfl rfl ⟨⟨_, rfl, ⟨_, rfl, _, rfl⟩⟩, I14⟩
  · refine k_c2 8 rfl rfl (if_neg b7) ?_
    refine k_push 9 rfl rfl ?_
    exact k_fin rfl rfl ⟨⟨_, rfl, ⟨_, rfl, _, rfl⟩⟩, hI⟩
theorem c_X6_takePoint {h : am_h} {v0 : Nat} (hT : ty_H h) (o0 : ob 6 v0) : am_Mt 1 98 [.inr (.inr (some v0))] h (ty_Q w_X6_takePoint 2 (ob_P h) h) := am_Mt.of (b_X6_takePoint rfl o0 (okA_r hT o0 okA_n) (ob_I.start hT))
abbrev w_X6_partsOf : List (Nat × Nat) := []
theorem b_X6_partsOf_5 {B : Nat} {h0 : am_h} : ∀ (n : Nat) {lv : am_l} {h : am_h} {c s : Nat} {v0 : Nat} {v1 : Int32} {v2 : Int32} {v3 : Int32} {v4 : Int32} , up_m v4 = n → am_get lv 0 = some (.inr (.inr (some v0))) → ob 6 v0 → am_get lv 1 = some (.inl v1) → am_get lv 2 = some (.inl v2) → am_get lv 3 = some (.inl v3) → am_get lv 4 = some (.inl v4) → am_okL h.length lv = true → ob_I w_X6_partsOf B h0 h c s → am_Ok am_G 1 87 (5, lv, [], h, c, s) (ty_Q w_X6_partsOf 2 B h0) := by
  intro n
  induction n using Nat.strongRecOn with
  | ind n ih =>
    intro lv h c s v0 v1 v2 v3 v4 hn g0 o0 g1 g2 g3 g4 hL hI
    refine k_iload 7 rfl g4 rfl ?_
    refine k_iload 8 rfl g2 rfl ?_
    by_cases b1 : v2 ≤ v4
    · refine k_c2 86 rfl rfl (if_pos b1) ?_
      refine k_iload 87 rfl g3 rfl ?_
      exact k_fin rfl rfl ⟨⟨_, rfl, ⟨_, rfl, _, rfl⟩⟩, hI⟩
    · refine k_c2 11 rfl rfl (if_neg b1) ?_
      refine k_iload 12 rfl g3 rfl ?_
      refine k_push 14 rfl rfl ?_
      by_cases b2 : (120 : Int32) < v3
      · refine k_c2 86 rfl rfl (if_pos b2) ?_
        refine k_iload 87 rfl g3 rfl ?_
        exact k_fin rfl rfl ⟨⟨_, rfl, ⟨_, rfl, _, rfl⟩⟩, hI⟩
      · refine k_c2 17 rfl rfl (if_neg b2) ?_
        refine k_aload 18 rfl g0 rfl ?_
        obtain ⟨fs3, u4, e5, f6, t7⟩ := hI.1.get o0 (k := 1) rfl rfl
        obtain ⟨i8, rfl, o9⟩ := t7
        refine k_get 21 rfl e5 f6 rfl ?_
        refine k_iload 23 rfl g4 rfl ?_
        refine k_cl (W' := []) rfl (rw_get hI.1 (Or.inl o9)) rfl rfl rfl (hI.1.rc3 (Or.inl o9)) hI (by decide) hL so_n ?_
        rintro w10 h11 c12 s13 hv I14 L15 F16
        obtain ⟨_, rfl, x17, rfl⟩ := hv
        show am_Ok _ _ _ (26, _, [.inl x17], h11, c12, s13) _
        refine k_istore 28 rfl rfl ?_
        refine k_iload 30 rfl gs_eq rfl ?_
        refine k_push 31 rfl rfl ?_
        by_cases b18 : x17 ≤ (-1 : Int32)
        · refine k_c2 40 rfl rfl (if_pos b18) ?_
          refine k_iload 42 rfl gs_eq rfl ?_
          refine k_push 44 rfl rfl ?_
          by_cases b19 : x17 ≤ (-11 : Int32)
          · refine k_c2 61 rfl rfl (if_pos b19) ?_
            refine k_iload 62 rfl (gs_ne rfl rfl g3) rfl ?_
            refine k_aload 63 rfl (gs_ne rfl rfl g0) rfl ?_
            obtain ⟨fs20, u21, e22, f23, t24⟩ := I14.1.get o0 (k := 2) rfl rfl
            obtain ⟨i25, rfl, o26⟩ := t24
            refine k_get 66 rfl e22 f23 rfl ?_
            refine k_push 67 rfl rfl ?_
            refine k_push 69 rfl rfl ?_
            refine k_iload 71 rfl gs_eq rfl ?_
            obtain ⟨x27, q28⟩ : ∃ q : Int32, q = ((-11 : Int32) - x17) := ⟨_, rfl⟩
            refine k_bin x27 72 rfl q28.symm rfl ?_
            obtain ⟨x29, q30⟩ : ∃ q : Int32, q = ((5 : Int32) * x27) := ⟨_, rfl⟩
            refine k_bin x29 73 rfl q30.symm rfl ?_
            refine k_push 74 rfl rfl ?_
            obtain ⟨x31, q32⟩ : ∃ q : Int32, q = (x29 + (4 : Int32)) := ⟨_, rfl⟩
            refine k_bin x31 75 rfl q32.symm rfl ?_
            refine k_cl (W' := []) rfl (rw_get I14.1 (Or.inl o26)) rfl rfl rfl (I14.1.rc3 (Or.inl o26)) I14 (by decide) (okL_set (i := 5) (v := .inl x17) rfl L15) (so_i so_n) ?_
            rintro w33 h34 c35 s36 hv I37 L38 F39
            obtain ⟨_, rfl, x40, rfl⟩ := hv
            show am_Ok _ _ _ (78, _, [.inl x40, .inl v3], h34, c35, s36) _
            obtain ⟨x41, q42⟩ : ∃ q : Int32, q = (v3 + x40) := ⟨_, rfl⟩
            refine k_bin x41 79 rfl q42.symm rfl ?_
            refine k_istore 80 rfl rfl ?_
            refine k_iinc (v4 + 1) 83 rfl (gs_ne rfl rfl (gs_ne rfl rfl g4)) rfl rfl ?_
            refine k_goto 5 rfl rfl ?_
            exact ih _ (by rw [← hn]; exact up_lt b1) rfl (gs_ne rfl rfl (gs_ne rfl rfl (gs_ne rfl rfl g0))) o0 (gs_ne rfl rfl (gs_ne rfl rfl (gs_ne rfl rfl g1))) (gs_ne rfl rfl (gs_ne rfl rfl (gs_ne rfl rfl g2))) (gs_ne rfl rfl gs_eq) gs_eq (okL_set (i := 4) (v := .inl (v4 + 1)) rfl (okL_set (i := 3) (v := .inl x41) rfl L38)) I37
          · refine k_c2 47 rfl rfl (if_neg b19) ?_
            refine k_iload 48 rfl (gs_ne rfl rfl g3) rfl ?_
            refine k_push 49 rfl rfl ?_
            refine k_push 50 rfl rfl ?_
            refine k_push 51 rfl rfl ?_
            refine k_iload 53 rfl gs_eq rfl ?_
            obtain ⟨x43, q44⟩ : ∃ q : Int32, q = ((-1 : Int32) - x17) := ⟨_, rfl⟩
            refine k_bin x43 54 rfl q44.symm rfl ?_
            obtain ⟨x45, q46⟩ : ∃ q : Int32, q = ((2 : Int32) * x43) := ⟨_, rfl⟩
            refine k_bin x45 55 rfl q46.symm rfl ?_
            obtain ⟨x47, q48⟩ : ∃ q : Int32, q = ((3 : Int32) + x45) := ⟨_, rfl⟩
            refine k_bin x47 56 rfl q48.symm rfl ?_
            obtain ⟨x49, q50⟩ : ∃ q : Int32, q = (v3 + x47) := ⟨_, rfl⟩
            refine k_bin x49 57 rfl q50.symm rfl ?_
            refine k_istore 58 rfl rfl ?_
            refine k_goto 80 rfl rfl ?_
            refine k_iinc (v4 + 1) 83 rfl (gs_ne rfl rfl (gs_ne rfl rfl g4)) rfl rfl ?_
            refine k_goto 5 rfl rfl ?_
            exact ih _ (by rw [← hn]; exact up_lt b1) rfl (gs_ne rfl rfl (gs_ne rfl rfl (gs_ne rfl rfl g0))) o0 (gs_ne rfl rfl (gs_ne rfl rfl (gs_ne rfl rfl g1))) (gs_ne rfl rfl (gs_ne rfl rfl (gs_ne rfl rfl g2))) (gs_ne rfl rfl gs_eq) gs_eq (okL_set (i := 4) (v := .inl (v4 + 1)) rfl (okL_set (i := 3) (v := .inl x49) rfl (okL_set (i := 5) (v := .inl x17) rfl L15))) I14
        · refine k_c2 34 rfl rfl (if_neg b18) ?_
          refine k_iinc (v3 + 1) 37 rfl (gs_ne rfl rfl g3) rfl rfl ?_
          refine k_goto 80 rfl rfl ?_
          refine k_iinc (v4 + 1) 83 rfl (gs_ne rfl rfl (gs_ne rfl rfl g4)) rfl rfl ?_
          refine k_goto 5 rfl rfl ?_
          exact ih _ (by rw [← hn]; exact up_lt b1) rfl (gs_ne rfl rfl (gs_ne rfl rfl (gs_ne rfl rfl g0))) o0 (gs_ne rfl rfl (gs_ne rfl rfl (gs_ne rfl rfl g1))) (gs_ne rfl rfl (gs_ne rfl rfl (gs_ne rfl rfl g2))) (gs_ne rfl rfl gs_eq) gs_eq (okL_set (i := 4) (v := .inl (v4 + 1)) rfl (okL_set (i := 3) (v := .inl (v3 + 1)) rfl (okL_set (i := 5) (v := .inl x17) rfl L15))) I14
theorem b_X6_partsOf {B : Nat} {h0 : am_h} {lv : am_l} {h : am_h} {c s : Nat} {v0 : Nat} {v1 : Int32} {v2 : Int32} (g0 : am_get lv 0 = some (.inr (.inr (some v0)))) (o0 : ob 6 v0) (g1 : am_get lv 1 = some (.inl v1)) (g2 : am_get lv 2 = some (.inl v2)) (hL : am_okL h.length lv = true) (hI : ob_I w_X6_partsOf B h0 h c s) : am_Ok am_G 1 87 (0, lv, [], h, c, s) (ty_Q w_X6_partsOf 2 B h0) := by
  refine k_push 1 rfl rfl ?_
  refine k_istore 2 rfl rfl ?_
  refine k_iload 3 rfl (gs_ne rfl rfl g1) rfl ?_
  refine k_istore 5 rfl rfl ?_
  exact b_X6_partsOf_5 _ rfl (gs_ne rfl rfl (gs_ne rfl rfl g0)) o0 (gs_ne rfl rfl (gs_ne rfl rfl g1)) (gs_ne rfl rfl (gs_ne rfl rfl g2)) (gs_ne rfl rfl gs_eq) gs_eq (okL_set (i := 4) (v := .inl v1) rfl (okL_set (i := 3) (v := .inl (0 : Int32)) rfl hL)) hI
theorem c_X6_partsOf {h : am_h} {v0 : Nat} {v1 : Int32} {v2 : Int32} (hT : ty_H h) (o0 : ob 6 v0) : am_Mt 2 87 [.inr (.inr (some v0)), .inl v1, .inl v2] h (ty_Q w_X6_partsOf 2 (ob_P h) h) := am_Mt.of (b_X6_partsOf rfl o0 rfl rfl (okA_r hT o0 (okA_i (okA_i okA_n))) (ob_I.start hT))
abbrev w_X6_takeSemicolon : List (Nat × Nat) := [(6, 6), (6, 8), (6, 9), (6, 10), (6, 11)]
theorem b_X6_takeSemicolon {B : Nat} {h0 : am_h} {lv : am_l} {h : am_h} {c s : Nat} {v0 : Nat} (g0 : am_get lv 0 = some (.inr (.inr (some v0)))) (o0 : ob 6 v0) (hL : am_okL h.length lv = true) (hI : ob_I w_X6_takeSemicolon B h0 h c s) : am_Ok am_G 2 99 (0, lv, [], h, c, s) (ty_Q w_X6_takeSemicolon 2 B h0) := by
  refine k_aload 1 rfl g0 rfl ?_
  refine k_cl (W' := w_X6_isWhole) rfl (c_X6_isWhole hI.1 o0) rfl rfl rfl (hI.1.rc o0 rfl) hI (by decide) hL so_n ?_
  rintro w1 h2 c3 s4 hv I5 L6 F7
  obtain ⟨_, rfl, x8, rfl, z9⟩ := hv
  show am_Ok _ _ _ (4, _, [.inl x8], h2, c3, s4) _
  by_cases b10 : x8 = 0
  · refine k_c1 14 rfl rfl (if_pos b10) ?_
    refine k_push 15 rfl rfl ?_
    exact k_fin rfl rfl ⟨⟨_, rfl, ⟨_, rfl, _, rfl⟩⟩, I5⟩
  · refine k_c1 7 rfl rfl (if_neg b10) ?_
    refine k_aload 8 rfl g0 rfl ?_
    obtain ⟨fs11, u12, e13, f14, t15⟩ := I5.1.get o0 (k := 11) rfl rfl
    obtain ⟨x16, rfl, z17⟩ := t15
    refine k_get 11 rfl e13 f14 rfl ?_
    by_cases b18 : x16 = 0
    · refine k_c1 14 rfl rfl (if_pos b18) ?_
      refine k_push 15 rfl rfl ?_
      exact k_fin rfl rfl ⟨⟨_, rfl, ⟨_, rfl, _, rfl⟩⟩, I5⟩
    · refine k_c1 16 rfl rfl (if_neg b18) ?_
      refine k_push 17 rfl rfl ?_
      refine k_aload 18 rfl g0 rfl ?_
      obtain ⟨fs19, u20, e21, f22, t23⟩ := I5.1.get o0 (k := 10) rfl rfl
      obtain ⟨x24, rfl⟩ := t23
      refine k_get 21 rfl e21 f22 rfl ?_
      obtain ⟨x25, q26⟩ : ∃ q : Int32, q = ((5 : Int32) * x24) := ⟨_, rfl⟩
      refine k_bin x25 22 rfl q26.symm rfl ?_
      refine k_istore 23 rfl rfl ?_
      refine k_aload 24 rfl (gs_ne rfl rfl g0) rfl ?_
      obtain ⟨fs27, u28, e29, f30, t31⟩ := I5.1.get o0 (k := 2) rfl rfl
      obtain ⟨i32, rfl, o33⟩ := t31
      refine k_get 27 rfl e29 f30 rfl ?_
      refine k_iload 28 rfl gs_eq rfl ?_
      refine k_push 29 rfl rfl ?_
      obtain ⟨x34, q35⟩ : ∃ q : Int32, q = (x25 + (3 : Int32)) := ⟨_, rfl⟩
      refine k_bin x34 30 rfl q35.symm rfl ?_
      refine k_aload 31 rfl (gs_ne rfl rfl g0) rfl ?_
      obtain ⟨fs36, u37, e38, f39, t40⟩ := I5.1.get o0 (k := 1) rfl rfl
      obtain ⟨i41, rfl, o42⟩ := t40
      refine k_get 34 rfl e38 f39 rfl ?_
      refine k_cl (W' := []) rfl (rw_size I5.1 (Or.inl o42)) rfl rfl rfl (I5.1.rc3 (Or.inl o42)) I5 (by decide) (okL_set (i := 1) (v := .inl x25) rfl L6) (so_i (so_r I5 o33 so_n)) ?_
      rintro w43 h44 c45 s46 hv I47 L48 F49
      obtain ⟨_, rfl, x50, rfl⟩ := hv
      show am_Ok _ _ _ (37, _, [.inl x50, .inl x34, .inr (.inr (some i32))], h44, c45, s46) _
      refine k_cl (W' := []) rfl (rw_set I47.1 o33) rfl rfl rfl (I47.1.rc3 (Or.inl o33)) I47 (by decide) L48 so_n ?_
      rintro w51 h52 c53 s54 hv I55 L56 F57
      cases hv
      show am_Ok _ _ _ (40, _, [], h52, c53, s54) _
      refine k_aload 41 rfl (gs_ne rfl rfl g0) rfl ?_
      obtain ⟨fs58, u59, e60, f61, t62⟩ := I55.1.get o0 (k := 2) rfl rfl
      obtain ⟨i63, rfl, o64⟩ := t62
      refine k_get 44 rfl e60 f61 rfl ?_
      refine k_iload 45 rfl gs_eq rfl ?_
      refine k_push 46 rfl rfl ?_
      obtain ⟨x65, q66⟩ : ∃ q : Int32, q = (x25 + (4 : Int32)) := ⟨_, rfl⟩
      refine k_bin x65 47 rfl q66.symm rfl ?_
      refine k_aload 48 rfl (gs_ne rfl rfl g0) rfl ?_
      refine k_aload 49 rfl (gs_ne rfl rfl g0) rfl ?_
      obtain ⟨fs67, u68, e69, f70, t71⟩ := I55.1.get o0 (k := 2) rfl rfl
      obtain ⟨i72, rfl, o73⟩ := t71
      refine k_get 52 rfl e69 f70 rfl ?_
      refine k_iload 53 rfl gs_eq rfl ?_
      refine k_push 54 rfl rfl ?_
      obtain ⟨x74, q75⟩ : ∃ q : Int32, q = (x25 + (2 : Int32)) := ⟨_, rfl⟩
      refine k_bin x74 55 rfl q75.symm rfl ?_
      refine k_cl (W' := []) rfl (rw_get I55.1 (Or.inl o73)) rfl rfl rfl (I55.1.rc3 (Or.inl o73)) I55 (by decide) L56 (so_r I55 o0 (so_i (so_r I55 o64 so_n))) ?_
      rintro w76 h77 c78 s79 hv I80 L81 F82
      obtain ⟨_, rfl, x83, rfl⟩ := hv
      show am_Ok _ _ _ (58, _, [.inl x83, .inr (.inr (some v0)), .inl x65, .inr (.inr (some i63))], h77, c78, s79) _
      refine k_aload 59 rfl (gs_ne rfl rfl g0) rfl ?_
      obtain ⟨fs84, u85, e86, f87, t88⟩ := I80.1.get o0 (k := 1) rfl rfl
      obtain ⟨i89, rfl, o90⟩ := t88
      refine k_get 62 rfl e86 f87 rfl ?_
      refine k_cl (W' := []) rfl (rw_size I80.1 (Or.inl o90)) rfl rfl rfl (I80.1.rc3 (Or.inl o90)) I80 (by decide) L81 (so_i (so_r I80 o0 (so_i (so_r I80 o64 so_n)))) ?_
      rintro w91 h92 c93 s94 hv I95 L96 F97
      obtain ⟨_, rfl, x98, rfl⟩ := hv
      show am_Ok _ _ _ (65, _, [.inl x98, .inl x83, .inr (.inr (some v0)), .inl x65, .inr (.inr (some i63))], h92, c93, s94) _
      refine k_cl (W' := w_X6_partsOf) rfl (c_X6_partsOf I95.1 o0) rfl rfl rfl (I95.1.rc o0 rfl) I95 (by decide) L96 (so_i (so_r I95 o64 so_n)) ?_
      rintro w99 h100 c101 s102 hv I103 L104 F105
      obtain ⟨_, rfl, x106, rfl⟩ := hv
      show am_Ok _ _ _ (68, _, [.inl x106, .inl x65, .inr (.inr (some i63))], h100, c101, s102) _
      refine k_cl (W' := []) rfl (rw_set I103.1 o64) rfl rfl rfl (I103.1.rc3 (Or.inl o64)) I103 (by decide) L104 so_n ?_
      rintro w107 h108 c109 s110 hv I111 L112 F113
      cases hv
      show am_Ok _ _ _ (71, _, [], h108, c109, s110) _
      refine k_aload 72 rfl (gs_ne rfl rfl g0) rfl ?_
      refine k_dup 73 rfl rfl rfl ?_
      obtain ⟨fs114, u115, e116, f117, t118⟩ := I111.1.get o0 (k := 10) rfl rfl
      obtain ⟨x119, rfl⟩ := t118
      refine k_get 76 rfl e116 f117 rfl ?_
      refine k_push 77 rfl rfl ?_
      obtain ⟨x120, q121⟩ : ∃ q : Int32, q = (x119 + (1 : Int32)) := ⟨_, rfl⟩
      refine k_bin x120 78 rfl q121.symm rfl ?_
      obtain ⟨fs122, u123, e124, f125, t126⟩ := I111.1.get o0 (k := 10) rfl rfl
      refine k_put 81 rfl e124 rfl (List.getElem?_eq_some_iff.mp f125).1 rfl ?_
      obtain ⟨h127, E130, I128, l131⟩ := I111.put (v := .inl x120) o0 rfl e124 (k := 10) rfl (show ty_V 0 (.inl x120) from ⟨_, rfl⟩) (by decide) rfl
      rw [E130]
      have L129 := okL_eq l131 L112
      refine k_aload 82 rfl (gs_ne rfl rfl g0) rfl ?_
      refine k_push 83 rfl rfl ?_
      obtain ⟨fs132, u133, e134, f135, t136⟩ := I128.1.get o0 (k := 11) rfl rfl
      refine k_put 86 rfl e134 (okZ_of (Or.inl rfl)) (List.getElem?_eq_some_iff.mp f135).1 rfl ?_
      obtain ⟨h137, E140, I138, l141⟩ := I128.put (v := .inl (0 : Int32)) o0 rfl e134 (k := 11) rfl (show ty_V 1 (.inl (0 : Int32)) from ⟨_, rfl, (Or.inl rfl)⟩) (by decide) rfl
      rw [E140]
      have L139 := okL_eq l141 L129
      refine k_aload 87 rfl (gs_ne rfl rfl g0) rfl ?_
      refine k_cl (W' := w_X6_beginItem) rfl (c_X6_beginItem I138.1 o0) rfl rfl rfl (I138.1.rc o0 rfl) I138 (by decide) L139 so_n ?_
      rintro w142 h143 c144 s145 hv I146 L147 F148
      cases hv
      show am_Ok _ _ _ (90, _, [], h143, c144, s145) _
      refine k_push 91 rfl rfl ?_
      exact k_fin rfl rfl ⟨⟨_, rfl, ⟨_, rfl, _, rfl⟩⟩, I146⟩
theorem c_X6_takeSemicolon {h : am_h} {v0 : Nat} (hT : ty_H h) (o0 : ob 6 v0) : am_Mt 3 99 [.inr (.inr (some v0))] h (ty_Q w_X6_takeSemicolon 2 (ob_P h) h) := am_Mt.of (b_X6_takeSemicolon rfl o0 (okA_r hT o0 okA_n) (ob_I.start hT))
abbrev w_X7_isWord : List (Nat × Nat) := []
theorem b_X7_isWord_19 {B : Nat} {h0 : am_h} : ∀ (n : Nat) {lv : am_l} {h : am_h} {c s : Nat} {v0 : Nat} {v1 : Int32} {v2 : Int32} {v3 : Int32} , up_m v3 = n → am_get lv 0 = some (.inr (.inr (some v0))) → ob 7 v0 → am_get lv 1 = some (.inl v1) → am_get lv 2 = some (.inl v2) → am_get lv 3 = some (.inl v3) → am_okL h.length lv = true → ob_I w_X7_isWord B h0 h c s → am_Ok am_G 1 112 (19, lv, [], h, c, s) (ty_Q w_X7_isWord 3 B h0) := by
  intro n
  induction n using Nat.strongRecOn with
  | ind n ih =>
    intro lv h c s v0 v1 v2 v3 hn g0 o0 g1 g2 g3 hL hI
    refine k_iload 20 rfl g3 rfl ?_
    refine k_iload 21 rfl g2 rfl ?_
    by_cases b1 : v2 ≤ v3
    · refine k_c2 58 rfl rfl (if_pos b1) ?_
      refine k_push 59 rfl rfl ?_
      exact k_fin rfl (fin_Z (Or.inr rfl)) ⟨⟨_, rfl, ⟨_, rfl, _, rfl, (Or.inr rfl)⟩⟩, hI⟩
    · refine k_c2 24 rfl rfl (if_neg b1) ?_
      refine k_aload 25 rfl g0 rfl ?_
      obtain ⟨fs2, u3, e4, f5, t6⟩ := hI.1.get o0 (k := 0) rfl rfl
      obtain ⟨i7, rfl, o8⟩ := t6
      refine k_get 28 rfl e4 f5 rfl ?_
      refine k_iload 29 rfl g3 rfl ?_
      refine k_cl (W' := []) rfl (rw_get hI.1 (Or.inr o8)) rfl rfl rfl (hI.1.rc3 (Or.inr o8)) hI (by decide) hL so_n ?_
      rintro w9 h10 c11 s12 hv I13 L14 F15
      obtain ⟨_, rfl, x16, rfl⟩ := hv
      show am_Ok _ _ _ (32, _, [.inl x16], h10, c11, s12) _
      refine k_aload 33 rfl g0 rfl ?_
      obtain ⟨fs17, u18, e19, f20, t21⟩ := I13.1.get o0 (k := 0) rfl rfl
      obtain ⟨i22, rfl, o23⟩ := t21
      refine k_get 36 rfl e19 f20 rfl ?_
      refine k_aload 37 rfl g0 rfl ?_
      obtain ⟨fs24, u25, e26, f27, t28⟩ := I13.1.get o0 (k := 2) rfl rfl
      obtain ⟨x29, rfl⟩ := t28
      refine k_get 40 rfl e26 f27 rfl ?_
      refine k_iload 41 rfl g3 rfl ?_
      obtain ⟨x30, q31⟩ : ∃ q : Int32, q = (x29 + v3) := ⟨_, rfl⟩
      refine k_bin x30 42 rfl q31.symm rfl ?_
      refine k_iload 43 rfl g1 rfl ?_
      obtain ⟨x32, q33⟩ : ∃ q : Int32, q = (x30 - v1) := ⟨_, rfl⟩
      refine k_bin x32 44 rfl q33.symm rfl ?_
      refine k_cl (W' := []) rfl (rw_get I13.1 (Or.inr o23)) rfl rfl rfl (I13.1.rc3 (Or.inr o23)) I13 (by decide) L14 (so_i so_n) ?_
      rintro w34 h35 c36 s37 hv I38 L39 F40
      obtain ⟨_, rfl, x41, rfl⟩ := hv
      show am_Ok _ _ _ (47, _, [.inl x41, .inl x16], h35, c36, s37) _
      by_cases b42 : x16 = x41
      · refine k_c2 52 rfl rfl (if_pos b42) ?_
        refine k_iinc (v3 + 1) 55 rfl g3 rfl rfl ?_
        refine k_goto 19 rfl rfl ?_
        exact ih _ (by rw [← hn]; exact up_lt b1) rfl (gs_ne rfl rfl g0) o0 (gs_ne rfl rfl g1) (gs_ne rfl rfl g2) gs_eq (okL_set (i := 3) (v := .inl (v3 + 1)) rfl L39) I38
      · refine k_c2 50 rfl rfl (if_neg b42) ?_
        refine k_push 51 rfl rfl ?_
        exact k_fin rfl (fin_Z (Or.inl rfl)) ⟨⟨_, rfl, ⟨_, rfl, _, rfl, (Or.inl rfl)⟩⟩, I38⟩
theorem b_X7_isWord {B : Nat} {h0 : am_h} {lv : am_l} {h : am_h} {c s : Nat} {v0 : Nat} {v1 : Int32} {v2 : Int32} (g0 : am_get lv 0 = some (.inr (.inr (some v0)))) (o0 : ob 7 v0) (g1 : am_get lv 1 = some (.inl v1)) (g2 : am_get lv 2 = some (.inl v2)) (hL : am_okL h.length lv = true) (hI : ob_I w_X7_isWord B h0 h c s) : am_Ok am_G 1 112 (0, lv, [], h, c, s) (ty_Q w_X7_isWord 3 B h0) := by
  refine k_iload 1 rfl g2 rfl ?_
  refine k_iload 2 rfl g1 rfl ?_
  obtain ⟨x43, q44⟩ : ∃ q : Int32, q = (v2 - v1) := ⟨_, rfl⟩
  refine k_bin x43 3 rfl q44.symm rfl ?_
  refine k_aload 4 rfl g0 rfl ?_
  obtain ⟨fs45, u46, e47, f48, t49⟩ := hI.1.get o0 (k := 3) rfl rfl
  obtain ⟨x50, rfl⟩ := t49
  refine k_get 7 rfl e47 f48 rfl ?_
  refine k_aload 8 rfl g0 rfl ?_
  obtain ⟨fs51, u52, e53, f54, t55⟩ := hI.1.get o0 (k := 2) rfl rfl
  obtain ⟨x56, rfl⟩ := t55
  refine k_get 11 rfl e53 f54 rfl ?_
  obtain ⟨x57, q58⟩ : ∃ q : Int32, q = (x50 - x56) := ⟨_, rfl⟩
  refine k_bin x57 12 rfl q58.symm rfl ?_
  by_cases b59 : x43 = x57
  · refine k_c2 17 rfl rfl (if_pos b59) ?_
    refine k_iload 18 rfl g1 rfl ?_
    refine k_istore 19 rfl rfl ?_
    exact b_X7_isWord_19 _ rfl (gs_ne rfl rfl g0) o0 (gs_ne rfl rfl g1) (gs_ne rfl rfl g2) gs_eq (okL_set (i := 3) (v := .inl v1) rfl hL) hI
  · refine k_c2 15 rfl rfl (if_neg b59) ?_
    refine k_push 16 rfl rfl ?_
    exact k_fin rfl (fin_Z (Or.inl rfl)) ⟨⟨_, rfl, ⟨_, rfl, _, rfl, (Or.inl rfl)⟩⟩, hI⟩
theorem c_X7_isWord {h : am_h} {v0 : Nat} {v1 : Int32} {v2 : Int32} (hT : ty_H h) (o0 : ob 7 v0) : am_Mt 2 112 [.inr (.inr (some v0)), .inl v1, .inl v2] h (ty_Q w_X7_isWord 3 (ob_P h) h) := am_Mt.of (b_X7_isWord rfl o0 rfl rfl (okA_r hT o0 (okA_i (okA_i okA_n))) (ob_I.start hT))
abbrev w_X6_functionOfWord : List (Nat × Nat) := []
theorem b_X6_functionOfWord_14 {B : Nat} {h0 : am_h} : ∀ (n : Nat) {lv : am_l} {h : am_h} {c s : Nat} {v0 : Nat} {v1 : Int32} {v2 : Int32} , dn_m v2 = n → am_get lv 0 = some (.inr (.inr (some v0))) → ob 6 v0 → am_get lv 1 = some (.inl v1) → am_get lv 2 = some (.inl v2) → am_okL h.length lv = true → ob_I w_X6_functionOfWord B h0 h c s → am_Ok am_G 2 92 (14, lv, [], h, c, s) (ty_Q w_X6_functionOfWord 2 B h0) := by
  intro n
  induction n using Nat.strongRecOn with
  | ind n ih =>
    intro lv h c s v0 v1 v2 hn g0 o0 g1 g2 hL hI
    refine k_iload 15 rfl g2 rfl ?_
    by_cases b1 : v2 < 0
    · refine k_c1 62 rfl rfl (if_pos b1) ?_
      refine k_push 63 rfl rfl ?_
      exact k_fin rfl rfl ⟨⟨_, rfl, ⟨_, rfl, _, rfl⟩⟩, hI⟩
    · refine k_c1 18 rfl rfl (if_neg b1) ?_
      refine k_aload 19 rfl g0 rfl ?_
      obtain ⟨fs2, u3, e4, f5, t6⟩ := hI.1.get o0 (k := 0) rfl rfl
      obtain ⟨i7, rfl, o8⟩ := t6
      refine k_get 22 rfl e4 f5 rfl ?_
      refine k_aload 23 rfl g0 rfl ?_
      obtain ⟨fs9, u10, e11, f12, t13⟩ := hI.1.get o0 (k := 3) rfl rfl
      obtain ⟨i14, rfl, o15⟩ := t13
      refine k_get 26 rfl e11 f12 rfl ?_
      refine k_push 27 rfl rfl ?_
      refine k_iload 28 rfl g2 rfl ?_
      obtain ⟨x16, q17⟩ : ∃ q : Int32, q = ((2 : Int32) * v2) := ⟨_, rfl⟩
      refine k_bin x16 29 rfl q17.symm rfl ?_
      refine k_cl (W' := []) rfl (rw_get hI.1 (Or.inl o15)) rfl rfl rfl (hI.1.rc3 (Or.inl o15)) hI (by decide) hL (so_r hI o8 so_n) ?_
      rintro w18 h19 c20 s21 hv I22 L23 F24
      obtain ⟨_, rfl, x25, rfl⟩ := hv
      show am_Ok _ _ _ (32, _, [.inl x25, .inr (.inr (some i7))], h19, c20, s21) _
      refine k_aload 33 rfl g0 rfl ?_
      obtain ⟨fs26, u27, e28, f29, t30⟩ := I22.1.get o0 (k := 3) rfl rfl
      obtain ⟨i31, rfl, o32⟩ := t30
      refine k_get 36 rfl e28 f29 rfl ?_
      refine k_push 37 rfl rfl ?_
      refine k_iload 38 rfl g2 rfl ?_
      obtain ⟨x33, q34⟩ : ∃ q : Int32, q = ((2 : Int32) * v2) := ⟨_, rfl⟩
      refine k_bin x33 39 rfl q34.symm rfl ?_
      refine k_push 40 rfl rfl ?_
      obtain ⟨x35, q36⟩ : ∃ q : Int32, q = (x33 + (1 : Int32)) := ⟨_, rfl⟩
      refine k_bin x35 41 rfl q36.symm rfl ?_
      refine k_cl (W' := []) rfl (rw_get I22.1 (Or.inl o32)) rfl rfl rfl (I22.1.rc3 (Or.inl o32)) I22 (by decide) L23 (so_i (so_r I22 o8 so_n)) ?_
      rintro w37 h38 c39 s40 hv I41 L42 F43
      obtain ⟨_, rfl, x44, rfl⟩ := hv
      show am_Ok _ _ _ (44, _, [.inl x44, .inl x25, .inr (.inr (some i7))], h38, c39, s40) _
      refine k_cl (W' := w_X7_isWord) rfl (c_X7_isWord I41.1 o8) rfl rfl rfl (I41.1.rc o8 rfl) I41 (by decide) L42 so_n ?_
      rintro w45 h46 c47 s48 hv I49 L50 F51
      obtain ⟨_, rfl, x52, rfl, z53⟩ := hv
      show am_Ok _ _ _ (47, _, [.inl x52], h46, c47, s48) _
      by_cases b54 : x52 = 0
      · refine k_c1 56 rfl rfl (if_pos b54) ?_
        refine k_iinc (v2 + (-1)) 59 rfl g2 rfl rfl ?_
        refine k_goto 14 rfl rfl ?_
        exact ih _ (by rw [← hn]; exact dn_k b1 (by decide)) rfl (gs_ne rfl rfl g0) o0 (gs_ne rfl rfl g1) gs_eq (okL_set (i := 2) (v := .inl (v2 + (-1))) rfl L50) I49
      · refine k_c1 50 rfl rfl (if_neg b54) ?_
        refine k_iload 51 rfl g1 rfl ?_
        refine k_push 52 rfl rfl ?_
        obtain ⟨x55, q56⟩ : ∃ q : Int32, q = (v1 - (1 : Int32)) := ⟨_, rfl⟩
        refine k_bin x55 53 rfl q56.symm rfl ?_
        refine k_iload 54 rfl g2 rfl ?_
        obtain ⟨x57, q58⟩ : ∃ q : Int32, q = (x55 - v2) := ⟨_, rfl⟩
        refine k_bin x57 55 rfl q58.symm rfl ?_
        exact k_fin rfl rfl ⟨⟨_, rfl, ⟨_, rfl, _, rfl⟩⟩, I49⟩
theorem b_X6_functionOfWord {B : Nat} {h0 : am_h} {lv : am_l} {h : am_h} {c s : Nat} {v0 : Nat} (g0 : am_get lv 0 = some (.inr (.inr (some v0)))) (o0 : ob 6 v0) (hL : am_okL h.length lv = true) (hI : ob_I w_X6_functionOfWord B h0 h c s) : am_Ok am_G 2 92 (0, lv, [], h, c, s) (ty_Q w_X6_functionOfWord 2 B h0) := by
  refine k_aload 1 rfl g0 rfl ?_
  obtain ⟨fs59, u60, e61, f62, t63⟩ := hI.1.get o0 (k := 3) rfl rfl
  obtain ⟨i64, rfl, o65⟩ := t63
  refine k_get 4 rfl e61 f62 rfl ?_
  refine k_cl (W' := []) rfl (rw_size hI.1 (Or.inl o65)) rfl rfl rfl (hI.1.rc3 (Or.inl o65)) hI (by decide) hL so_n ?_
  rintro w66 h67 c68 s69 hv I70 L71 F72
  obtain ⟨_, rfl, x73, rfl⟩ := hv
  show am_Ok _ _ _ (7, _, [.inl x73], h67, c68, s69) _
  refine k_push 8 rfl rfl ?_
  obtain ⟨x74, q75⟩ : ∃ q : Int32, q = (x73 / (2 : Int32)) := ⟨_, rfl⟩
  refine k_divZ x74 9 rfl (by decide) q75.symm rfl ?_
  refine k_istore 10 rfl rfl ?_
  refine k_iload 11 rfl gs_eq rfl ?_
  refine k_push 12 rfl rfl ?_
  obtain ⟨x76, q77⟩ : ∃ q : Int32, q = (x74 - (1 : Int32)) := ⟨_, rfl⟩
  refine k_bin x76 13 rfl q77.symm rfl ?_
  refine k_istore 14 rfl rfl ?_
  exact b_X6_functionOfWord_14 _ rfl (gs_ne rfl rfl (gs_ne rfl rfl g0)) o0 (gs_ne rfl rfl gs_eq) gs_eq (okL_set (i := 2) (v := .inl x76) rfl (okL_set (i := 1) (v := .inl x74) rfl L71)) I70
theorem c_X6_functionOfWord {h : am_h} {v0 : Nat} (hT : ty_H h) (o0 : ob 6 v0) : am_Mt 3 92 [.inr (.inr (some v0))] h (ty_Q w_X6_functionOfWord 2 (ob_P h) h) := am_Mt.of (b_X6_functionOfWord rfl o0 (okA_r hT o0 okA_n) (ob_I.start hT))
abbrev w_X6_nameOfWord : List (Nat × Nat) := []
theorem b_X6_nameOfWord_2 {B : Nat} {h0 : am_h} : ∀ (n : Nat) {lv : am_l} {h : am_h} {c s : Nat} {v0 : Nat} {v1 : Int32} , up_m v1 = n → am_get lv 0 = some (.inr (.inr (some v0))) → ob 6 v0 → am_get lv 1 = some (.inl v1) → am_okL h.length lv = true → ob_I w_X6_nameOfWord B h0 h c s → am_Ok am_G 2 93 (2, lv, [], h, c, s) (ty_Q w_X6_nameOfWord 2 B h0) := by
  intro n
  induction n using Nat.strongRecOn with
  | ind n ih =>
    intro lv h c s v0 v1 hn g0 o0 g1 hL hI
    refine k_iload 3 rfl g1 rfl ?_
    refine k_aload 4 rfl g0 rfl ?_
    obtain ⟨fs1, u2, e3, f4, t5⟩ := hI.1.get o0 (k := 10) rfl rfl
    obtain ⟨x6, rfl⟩ := t5
    refine k_get 7 rfl e3 f4 rfl ?_
    by_cases b7 : x6 ≤ v1
    · refine k_c2 50 rfl rfl (if_pos b7) ?_
      refine k_push 51 rfl rfl ?_
      exact k_fin rfl rfl ⟨⟨_, rfl, ⟨_, rfl, _, rfl⟩⟩, hI⟩
    · refine k_c2 10 rfl rfl (if_neg b7) ?_
      refine k_aload 11 rfl g0 rfl ?_
      obtain ⟨fs8, u9, e10, f11, t12⟩ := hI.1.get o0 (k := 0) rfl rfl
      obtain ⟨i13, rfl, o14⟩ := t12
      refine k_get 14 rfl e10 f11 rfl ?_
      refine k_aload 15 rfl g0 rfl ?_
      obtain ⟨fs15, u16, e17, f18, t19⟩ := hI.1.get o0 (k := 2) rfl rfl
      obtain ⟨i20, rfl, o21⟩ := t19
      refine k_get 18 rfl e17 f18 rfl ?_
      refine k_push 19 rfl rfl ?_
      refine k_iload 20 rfl g1 rfl ?_
      obtain ⟨x22, q23⟩ : ∃ q : Int32, q = ((5 : Int32) * v1) := ⟨_, rfl⟩
      refine k_bin x22 21 rfl q23.symm rfl ?_
      refine k_cl (W' := []) rfl (rw_get hI.1 (Or.inl o21)) rfl rfl rfl (hI.1.rc3 (Or.inl o21)) hI (by decide) hL (so_r hI o14 so_n) ?_
      rintro w24 h25 c26 s27 hv I28 L29 F30
      obtain ⟨_, rfl, x31, rfl⟩ := hv
      show am_Ok _ _ _ (24, _, [.inl x31, .inr (.inr (some i13))], h25, c26, s27) _
      refine k_aload 25 rfl g0 rfl ?_
      obtain ⟨fs32, u33, e34, f35, t36⟩ := I28.1.get o0 (k := 2) rfl rfl
      obtain ⟨i37, rfl, o38⟩ := t36
      refine k_get 28 rfl e34 f35 rfl ?_
      refine k_push 29 rfl rfl ?_
      refine k_iload 30 rfl g1 rfl ?_
      obtain ⟨x39, q40⟩ : ∃ q : Int32, q = ((5 : Int32) * v1) := ⟨_, rfl⟩
      refine k_bin x39 31 rfl q40.symm rfl ?_
      refine k_push 32 rfl rfl ?_
      obtain ⟨x41, q42⟩ : ∃ q : Int32, q = (x39 + (1 : Int32)) := ⟨_, rfl⟩
      refine k_bin x41 33 rfl q42.symm rfl ?_
      refine k_cl (W' := []) rfl (rw_get I28.1 (Or.inl o38)) rfl rfl rfl (I28.1.rc3 (Or.inl o38)) I28 (by decide) L29 (so_i (so_r I28 o14 so_n)) ?_
      rintro w43 h44 c45 s46 hv I47 L48 F49
      obtain ⟨_, rfl, x50, rfl⟩ := hv
      show am_Ok _ _ _ (36, _, [.inl x50, .inl x31, .inr (.inr (some i13))], h44, c45, s46) _
      refine k_cl (W' := w_X7_isWord) rfl (c_X7_isWord I47.1 o14) rfl rfl rfl (I47.1.rc o14 rfl) I47 (by decide) L48 so_n ?_
      rintro w51 h52 c53 s54 hv I55 L56 F57
      obtain ⟨_, rfl, x58, rfl, z59⟩ := hv
      show am_Ok _ _ _ (39, _, [.inl x58], h52, c53, s54) _
      by_cases b60 : x58 = 0
      · refine k_c1 44 rfl rfl (if_pos b60) ?_
        refine k_iinc (v1 + 1) 47 rfl g1 rfl rfl ?_
        refine k_goto 2 rfl rfl ?_
        exact ih _ (by rw [← hn]; exact up_lt b7) rfl (gs_ne rfl rfl g0) o0 gs_eq (okL_set (i := 1) (v := .inl (v1 + 1)) rfl L56) I55
      · refine k_c1 42 rfl rfl (if_neg b60) ?_
        refine k_iload 43 rfl g1 rfl ?_
        exact k_fin rfl rfl ⟨⟨_, rfl, ⟨_, rfl, _, rfl⟩⟩, I55⟩
theorem b_X6_nameOfWord {B : Nat} {h0 : am_h} {lv : am_l} {h : am_h} {c s : Nat} {v0 : Nat} (g0 : am_get lv 0 = some (.inr (.inr (some v0)))) (o0 : ob 6 v0) (hL : am_okL h.length lv = true) (hI : ob_I w_X6_nameOfWord B h0 h c s) : am_Ok am_G 2 93 (0, lv, [], h, c, s) (ty_Q w_X6_nameOfWord 2 B h0) := by
  refine k_push 1 rfl rfl ?_
  refine k_istore 2 rfl rfl ?_
  exact b_X6_nameOfWord_2 _ rfl (gs_ne rfl rfl g0) o0 gs_eq (okL_set (i := 1) (v := .inl (0 : Int32)) rfl hL) hI
theorem c_X6_nameOfWord {h : am_h} {v0 : Nat} (hT : ty_H h) (o0 : ob 6 v0) : am_Mt 3 93 [.inr (.inr (some v0))] h (ty_Q w_X6_nameOfWord 2 (ob_P h) h) := am_Mt.of (b_X6_nameOfWord rfl o0 (okA_r hT o0 okA_n) (ob_I.start hT))
abbrev w_X6_takeFunctionName : List (Nat × Nat) := [(6, 6)]
theorem b_X6_takeFunctionName {B : Nat} {h0 : am_h} {lv : am_l} {h : am_h} {c s : Nat} {v0 : Nat} (g0 : am_get lv 0 = some (.inr (.inr (some v0)))) (o0 : ob 6 v0) (hL : am_okL h.length lv = true) (hI : ob_I w_X6_takeFunctionName B h0 h c s) : am_Ok am_G 2 91 (0, lv, [], h, c, s) (ty_Q w_X6_takeFunctionName 2 B h0) := by
  refine k_aload 1 rfl g0 rfl ?_
  obtain ⟨fs1, u2, e3, f4, t5⟩ := hI.1.get o0 (k := 3) rfl rfl
  obtain ⟨i6, rfl, o7⟩ := t5
  refine k_get 4 rfl e3 f4 rfl ?_
  refine k_cl (W' := []) rfl (rw_size hI.1 (Or.inl o7)) rfl rfl rfl (hI.1.rc3 (Or.inl o7)) hI (by decide) hL so_n ?_
  rintro w8 h9 c10 s11 hv I12 L13 F14
  obtain ⟨_, rfl, x15, rfl⟩ := hv
  show am_Ok _ _ _ (7, _, [.inl x15], h9, c10, s11) _
  refine k_push 9 rfl rfl ?_
  by_cases b16 : x15 < (60 : Int32)
  · refine k_c2 14 rfl rfl (if_pos b16) ?_
    refine k_aload 15 rfl g0 rfl ?_
    obtain ⟨fs17, u18, e19, f20, t21⟩ := I12.1.get o0 (k := 3) rfl rfl
    obtain ⟨i22, rfl, o23⟩ := t21
    refine k_get 18 rfl e19 f20 rfl ?_
    refine k_aload 19 rfl g0 rfl ?_
    obtain ⟨fs24, u25, e26, f27, t28⟩ := I12.1.get o0 (k := 0) rfl rfl
    obtain ⟨i29, rfl, o30⟩ := t28
    refine k_get 22 rfl e26 f27 rfl ?_
    refine k_cl (W' := w_X7_start) rfl (c_X7_start I12.1 o30) rfl rfl rfl (I12.1.rc o30 rfl) I12 (by decide) L13 (so_r I12 o23 so_n) ?_
    rintro w31 h32 c33 s34 hv I35 L36 F37
    obtain ⟨_, rfl, x38, rfl⟩ := hv
    show am_Ok _ _ _ (25, _, [.inl x38, .inr (.inr (some i22))], h32, c33, s34) _
    refine k_cl (W' := []) rfl ((rw_add (W := []) I35.1 (Or.inl o23)).imp (fun _ z => z.1)) rfl rfl rfl (I35.1.rc3 (Or.inl o23)) I35 (by decide) L36 so_n ?_
    rintro w39 h40 c41 s42 hv I43 L44 F45
    obtain ⟨_, rfl, x46, rfl, z47⟩ := hv
    show am_Ok _ _ _ (28, _, [.inl x46], h40, c41, s42) _
    refine k_pop 29 rfl rfl rfl ?_
    refine k_aload 30 rfl g0 rfl ?_
    obtain ⟨fs48, u49, e50, f51, t52⟩ := I43.1.get o0 (k := 3) rfl rfl
    obtain ⟨i53, rfl, o54⟩ := t52
    refine k_get 33 rfl e50 f51 rfl ?_
    refine k_aload 34 rfl g0 rfl ?_
    obtain ⟨fs55, u56, e57, f58, t59⟩ := I43.1.get o0 (k := 0) rfl rfl
    obtain ⟨i60, rfl, o61⟩ := t59
    refine k_get 37 rfl e57 f58 rfl ?_
    refine k_cl (W' := w_X7_end) rfl (c_X7_end I43.1 o61) rfl rfl rfl (I43.1.rc o61 rfl) I43 (by decide) L44 (so_r I43 o54 so_n) ?_
    rintro w62 h63 c64 s65 hv I66 L67 F68
    obtain ⟨_, rfl, x69, rfl⟩ := hv
    show am_Ok _ _ _ (40, _, [.inl x69, .inr (.inr (some i53))], h63, c64, s65) _
    refine k_cl (W' := []) rfl ((rw_add (W := []) I66.1 (Or.inl o54)).imp (fun _ z => z.1)) rfl rfl rfl (I66.1.rc3 (Or.inl o54)) I66 (by decide) L67 so_n ?_
    rintro w70 h71 c72 s73 hv I74 L75 F76
    obtain ⟨_, rfl, x77, rfl, z78⟩ := hv
    show am_Ok _ _ _ (43, _, [.inl x77], h71, c72, s73) _
    refine k_pop 44 rfl rfl rfl ?_
    refine k_aload 45 rfl g0 rfl ?_
    obtain ⟨fs79, u80, e81, f82, t83⟩ := I74.1.get o0 (k := 1) rfl rfl
    obtain ⟨i84, rfl, o85⟩ := t83
    refine k_get 48 rfl e81 f82 rfl ?_
    refine k_push 49 rfl rfl ?_
    refine k_cl (W' := []) rfl ((rw_add (W := []) I74.1 (Or.inl o85)).imp (fun _ z => z.1)) rfl rfl rfl (I74.1.rc3 (Or.inl o85)) I74 (by decide) L75 so_n ?_
    rintro w86 h87 c88 s89 hv I90 L91 F92
    obtain ⟨_, rfl, x93, rfl, z94⟩ := hv
    show am_Ok _ _ _ (52, _, [.inl x93], h87, c88, s89) _
    refine k_pop 53 rfl rfl rfl ?_
    refine k_aload 54 rfl g0 rfl ?_
    refine k_push 55 rfl rfl ?_
    obtain ⟨fs95, u96, e97, f98, t99⟩ := I90.1.get o0 (k := 6) rfl rfl
    refine k_put 58 rfl e97 rfl (List.getElem?_eq_some_iff.mp f98).1 rfl ?_
    obtain ⟨h100, E103, I101, l104⟩ := I90.put (v := .inl (3 : Int32)) o0 rfl e97 (k := 6) rfl (show ty_V 0 (.inl (3 : Int32)) from ⟨_, rfl⟩) (by decide) rfl
    rw [E103]
    have L102 := okL_eq l104 L91
    refine k_push 59 rfl rfl ?_
    exact k_fin rfl rfl ⟨⟨_, rfl, ⟨_, rfl, _, rfl⟩⟩, I101⟩
  · refine k_c2 12 rfl rfl (if_neg b16) ?_
    refine k_push 13 rfl rfl ?_
    exact k_fin rfl rfl ⟨⟨_, rfl, ⟨_, rfl, _, rfl⟩⟩, I12⟩
theorem c_X6_takeFunctionName {h : am_h} {v0 : Nat} (hT : ty_H h) (o0 : ob 6 v0) : am_Mt 3 91 [.inr (.inr (some v0))] h (ty_Q w_X6_takeFunctionName 2 (ob_P h) h) := am_Mt.of (b_X6_takeFunctionName rfl o0 (okA_r hT o0 okA_n) (ob_I.start hT))
abbrev w_X7_behindBlanks : List (Nat × Nat) := []
theorem b_X7_behindBlanks_2 {B : Nat} {h0 : am_h} : ∀ (n : Nat) {lv : am_l} {h : am_h} {c s : Nat} {v0 : Nat} {v1 : Int32} {v2 : Int32} , up_m v2 = n → am_get lv 0 = some (.inr (.inr (some v0))) → ob 7 v0 → am_get lv 1 = some (.inl v1) → am_get lv 2 = some (.inl v2) → am_okL h.length lv = true → ob_I w_X7_behindBlanks B h0 h c s → am_Ok am_G 1 113 (2, lv, [], h, c, s) (ty_Q w_X7_behindBlanks 2 B h0) := by
  intro n
  induction n using Nat.strongRecOn with
  | ind n ih =>
    intro lv h c s v0 v1 v2 hn g0 o0 g1 g2 hL hI
    refine k_iload 3 rfl g2 rfl ?_
    refine k_aload 4 rfl g0 rfl ?_
    obtain ⟨fs1, u2, e3, f4, t5⟩ := hI.1.get o0 (k := 0) rfl rfl
    obtain ⟨i6, rfl, o7⟩ := t5
    refine k_get 7 rfl e3 f4 rfl ?_
    refine k_cl (W' := []) rfl (rw_size hI.1 (Or.inr o7)) rfl rfl rfl (hI.1.rc3 (Or.inr o7)) hI (by decide) hL (so_i so_n) ?_
    rintro w8 h9 c10 s11 hv I12 L13 F14
    obtain ⟨_, rfl, x15, rfl⟩ := hv
    show am_Ok _ _ _ (10, _, [.inl x15, .inl v2], h9, c10, s11) _
    by_cases b16 : x15 ≤ v2
    · refine k_c2 45 rfl rfl (if_pos b16) ?_
      refine k_iload 46 rfl g2 rfl ?_
      exact k_fin rfl rfl ⟨⟨_, rfl, ⟨_, rfl, _, rfl⟩⟩, I12⟩
    · refine k_c2 13 rfl rfl (if_neg b16) ?_
      refine k_aload 14 rfl g0 rfl ?_
      obtain ⟨fs17, u18, e19, f20, t21⟩ := I12.1.get o0 (k := 0) rfl rfl
      obtain ⟨i22, rfl, o23⟩ := t21
      refine k_get 17 rfl e19 f20 rfl ?_
      refine k_iload 18 rfl g2 rfl ?_
      refine k_cl (W' := []) rfl (rw_get I12.1 (Or.inr o23)) rfl rfl rfl (I12.1.rc3 (Or.inr o23)) I12 (by decide) L13 so_n ?_
      rintro w24 h25 c26 s27 hv I28 L29 F30
      obtain ⟨_, rfl, x31, rfl⟩ := hv
      show am_Ok _ _ _ (21, _, [.inl x31], h25, c26, s27) _
      refine k_push 23 rfl rfl ?_
      by_cases b32 : x31 = (32 : Int32)
      · refine k_c2 39 rfl rfl (if_pos b32) ?_
        refine k_iinc (v2 + 1) 42 rfl g2 rfl rfl ?_
        refine k_goto 2 rfl rfl ?_
        exact ih _ (by rw [← hn]; exact up_lt b16) rfl (gs_ne rfl rfl g0) o0 (gs_ne rfl rfl g1) gs_eq (okL_set (i := 2) (v := .inl (v2 + 1)) rfl L29) I28
      · refine k_c2 26 rfl rfl (if_neg b32) ?_
        refine k_aload 27 rfl g0 rfl ?_
        obtain ⟨fs33, u34, e35, f36, t37⟩ := I28.1.get o0 (k := 0) rfl rfl
        obtain ⟨i38, rfl, o39⟩ := t37
        refine k_get 30 rfl e35 f36 rfl ?_
        refine k_iload 31 rfl g2 rfl ?_
        refine k_cl (W' := []) rfl (rw_get I28.1 (Or.inr o39)) rfl rfl rfl (I28.1.rc3 (Or.inr o39)) I28 (by decide) L29 so_n ?_
        rintro w40 h41 c42 s43 hv I44 L45 F46
        obtain ⟨_, rfl, x47, rfl⟩ := hv
        show am_Ok _ _ _ (34, _, [.inl x47], h41, c42, s43) _
        refine k_push 36 rfl rfl ?_
        by_cases b48 : x47 = (10 : Int32)
        · refine k_c2 39 rfl rfl (if_pos b48) ?_
          refine k_iinc (v2 + 1) 42 rfl g2 rfl rfl ?_
          refine k_goto 2 rfl rfl ?_
          exact ih _ (by rw [← hn]; exact up_lt b16) rfl (gs_ne rfl rfl g0) o0 (gs_ne rfl rfl g1) gs_eq (okL_set (i := 2) (v := .inl (v2 + 1)) rfl L45) I44
        · refine k_c2 45 rfl rfl (if_neg b48) ?_
          refine k_iload 46 rfl g2 rfl ?_
          exact k_fin rfl rfl ⟨⟨_, rfl, ⟨_, rfl, _, rfl⟩⟩, I44⟩
theorem b_X7_behindBlanks {B : Nat} {h0 : am_h} {lv : am_l} {h : am_h} {c s : Nat} {v0 : Nat} {v1 : Int32} (g0 : am_get lv 0 = some (.inr (.inr (some v0)))) (o0 : ob 7 v0) (g1 : am_get lv 1 = some (.inl v1)) (hL : am_okL h.length lv = true) (hI : ob_I w_X7_behindBlanks B h0 h c s) : am_Ok am_G 1 113 (0, lv, [], h, c, s) (ty_Q w_X7_behindBlanks 2 B h0) := by
  refine k_iload 1 rfl g1 rfl ?_
  refine k_istore 2 rfl rfl ?_
  exact b_X7_behindBlanks_2 _ rfl (gs_ne rfl rfl g0) o0 (gs_ne rfl rfl g1) gs_eq (okL_set (i := 2) (v := .inl v1) rfl hL) hI
theorem c_X7_behindBlanks {h : am_h} {v0 : Nat} {v1 : Int32} (hT : ty_H h) (o0 : ob 7 v0) : am_Mt 2 113 [.inr (.inr (some v0)), .inl v1] h (ty_Q w_X7_behindBlanks 2 (ob_P h) h) := am_Mt.of (b_X7_behindBlanks rfl o0 rfl (okA_r hT o0 (okA_i okA_n)) (ob_I.start hT))
abbrev w_X7_sortOf : List (Nat × Nat) := []
theorem b_X7_sortOf {B : Nat} {h0 : am_h} {lv : am_l} {h : am_h} {c s : Nat} {v0 : Nat} {v1 : Int32} (g0 : am_get lv 0 = some (.inr (.inr (some v0)))) (o0 : ob 7 v0) (g1 : am_get lv 1 = some (.inl v1)) (hL : am_okL h.length lv = true) (hI : ob_I w_X7_sortOf B h0 h c s) : am_Ok am_G 1 114 (0, lv, [], h, c, s) (ty_Q w_X7_sortOf 2 B h0) := by
  refine k_iload 1 rfl g1 rfl ?_
  refine k_aload 2 rfl g0 rfl ?_
  obtain ⟨fs1, u2, e3, f4, t5⟩ := hI.1.get o0 (k := 0) rfl rfl
  obtain ⟨i6, rfl, o7⟩ := t5
  refine k_get 5 rfl e3 f4 rfl ?_
  refine k_cl (W' := []) rfl (rw_size hI.1 (Or.inr o7)) rfl rfl rfl (hI.1.rc3 (Or.inr o7)) hI (by decide) hL (so_i so_n) ?_
  rintro w8 h9 c10 s11 hv I12 L13 F14
  obtain ⟨_, rfl, x15, rfl⟩ := hv
  show am_Ok _ _ _ (8, _, [.inl x15, .inl v1], h9, c10, s11) _
  by_cases b16 : v1 < x15
  · refine k_c2 13 rfl rfl (if_pos b16) ?_
    refine k_aload 14 rfl g0 rfl ?_
    obtain ⟨fs17, u18, e19, f20, t21⟩ := I12.1.get o0 (k := 0) rfl rfl
    obtain ⟨i22, rfl, o23⟩ := t21
    refine k_get 17 rfl e19 f20 rfl ?_
    refine k_iload 18 rfl g1 rfl ?_
    refine k_cl (W' := []) rfl (rw_get I12.1 (Or.inr o23)) rfl rfl rfl (I12.1.rc3 (Or.inr o23)) I12 (by decide) L13 so_n ?_
    rintro w24 h25 c26 s27 hv I28 L29 F30
    obtain ⟨_, rfl, x31, rfl⟩ := hv
    show am_Ok _ _ _ (21, _, [.inl x31], h25, c26, s27) _
    refine k_istore 22 rfl rfl ?_
    refine k_iload 23 rfl gs_eq rfl ?_
    refine k_push 25 rfl rfl ?_
    by_cases b32 : x31 < (97 : Int32)
    · refine k_c2 37 rfl rfl (if_pos b32) ?_
      refine k_iload 38 rfl gs_eq rfl ?_
      refine k_push 40 rfl rfl ?_
      by_cases b33 : x31 < (48 : Int32)
      · refine k_c2 52 rfl rfl (if_pos b33) ?_
        refine k_iload 53 rfl gs_eq rfl ?_
        by_cases b34 : x31.toInt = 40
        · refine k_sw 112 rfl (by simp only [am_lk]; rw [if_pos b34]) ?_
          refine k_iload 113 rfl gs_eq rfl ?_
          exact k_fin rfl rfl ⟨⟨_, rfl, ⟨_, rfl, _, rfl⟩⟩, I28⟩
        by_cases b35 : x31.toInt = 41
        · refine k_sw 112 rfl (by simp only [am_lk]; rw [if_neg b34, if_pos b35]) ?_
          refine k_iload 113 rfl gs_eq rfl ?_
          exact k_fin rfl rfl ⟨⟨_, rfl, ⟨_, rfl, _, rfl⟩⟩, I28⟩
        by_cases b36 : x31.toInt = 46
        · refine k_sw 112 rfl (by simp only [am_lk]; rw [if_neg b34, if_neg b35, if_pos b36]) ?_
          refine k_iload 113 rfl gs_eq rfl ?_
          exact k_fin rfl rfl ⟨⟨_, rfl, ⟨_, rfl, _, rfl⟩⟩, I28⟩
        by_cases b37 : x31.toInt = 59
        · refine k_sw 112 rfl (by simp only [am_lk]; rw [if_neg b34, if_neg b35, if_neg b36, if_pos b37]) ?_
          refine k_iload 113 rfl gs_eq rfl ?_
          exact k_fin rfl rfl ⟨⟨_, rfl, ⟨_, rfl, _, rfl⟩⟩, I28⟩
        by_cases b38 : x31.toInt = 61
        · refine k_sw 112 rfl (by simp only [am_lk]; rw [if_neg b34, if_neg b35, if_neg b36, if_neg b37, if_pos b38]) ?_
          refine k_iload 113 rfl gs_eq rfl ?_
          exact k_fin rfl rfl ⟨⟨_, rfl, ⟨_, rfl, _, rfl⟩⟩, I28⟩
        by_cases b39 : x31.toInt = 92
        · refine k_sw 112 rfl (by simp only [am_lk]; rw [if_neg b34, if_neg b35, if_neg b36, if_neg b37, if_neg b38, if_pos b39]) ?_
          refine k_iload 113 rfl gs_eq rfl ?_
          exact k_fin rfl rfl ⟨⟨_, rfl, ⟨_, rfl, _, rfl⟩⟩, I28⟩
        refine k_sw 114 rfl (by simp only [am_lk]; rw [if_neg b34, if_neg b35, if_neg b36, if_neg b37, if_neg b38, if_neg b39]) ?_
        refine k_push 115 rfl rfl ?_
        exact k_fin rfl rfl ⟨⟨_, rfl, ⟨_, rfl, _, rfl⟩⟩, I28⟩
      · refine k_c2 43 rfl rfl (if_neg b33) ?_
        refine k_iload 44 rfl gs_eq rfl ?_
        refine k_push 46 rfl rfl ?_
        by_cases b40 : (57 : Int32) < x31
        · refine k_c2 52 rfl rfl (if_pos b40) ?_
          refine k_iload 53 rfl gs_eq rfl ?_
          by_cases b41 : x31.toInt = 40
          · refine k_sw 112 rfl (by simp only [am_lk]; rw [if_pos b41]) ?_
            refine k_iload 113 rfl gs_eq rfl ?_
            exact k_fin rfl rfl ⟨⟨_, rfl, ⟨_, rfl, _, rfl⟩⟩, I28⟩
          by_cases b42 : x31.toInt = 41
          · refine k_sw 112 rfl (by simp only [am_lk]; rw [if_neg b41, if_pos b42]) ?_
            refine k_iload 113 rfl gs_eq rfl ?_
            exact k_fin rfl rfl ⟨⟨_, rfl, ⟨_, rfl, _, rfl⟩⟩, I28⟩
          by_cases b43 : x31.toInt = 46
          · refine k_sw 112 rfl (by simp only [am_lk]; rw [if_neg b41, if_neg b42, if_pos b43]) ?_
            refine k_iload 113 rfl gs_eq rfl ?_
            exact k_fin rfl rfl ⟨⟨_, rfl, ⟨_, rfl, _, rfl⟩⟩, I28⟩
          by_cases b44 : x31.toInt = 59
          · refine k_sw 112 rfl (by simp only [am_lk]; rw [if_neg b41, if_neg b42, if_neg b43, if_pos b44]) ?_
            refine k_iload 113 rfl gs_eq rfl ?_
            exact k_fin rfl rfl ⟨⟨_, rfl, ⟨_, rfl, _, rfl⟩⟩, I28⟩
          by_cases b45 : x31.toInt = 61
          · refine k_sw 112 rfl (by simp only [am_lk]; rw [if_neg b41, if_neg b42, if_neg b43, if_neg b44, if_pos b45]) ?_
            refine k_iload 113 rfl gs_eq rfl ?_
            exact k_fin rfl rfl ⟨⟨_, rfl, ⟨_, rfl, _, rfl⟩⟩, I28⟩
          by_cases b46 : x31.toInt = 92
          · refine k_sw 112 rfl (by simp only [am_lk]; rw [if_neg b41, if_neg b42, if_neg b43, if_neg b44, if_neg b45, if_pos b46]) ?_
            refine k_iload 113 rfl gs_eq rfl ?_
            exact k_fin rfl rfl ⟨⟨_, rfl, ⟨_, rfl, _, rfl⟩⟩, I28⟩
          refine k_sw 114 rfl (by simp only [am_lk]; rw [if_neg b41, if_neg b42, if_neg b43, if_neg b44, if_neg b45, if_neg b46]) ?_
          refine k_push 115 rfl rfl ?_
          exact k_fin rfl rfl ⟨⟨_, rfl, ⟨_, rfl, _, rfl⟩⟩, I28⟩
        · refine k_c2 49 rfl rfl (if_neg b40) ?_
          refine k_push 51 rfl rfl ?_
          exact k_fin rfl rfl ⟨⟨_, rfl, ⟨_, rfl, _, rfl⟩⟩, I28⟩
    · refine k_c2 28 rfl rfl (if_neg b32) ?_
      refine k_iload 29 rfl gs_eq rfl ?_
      refine k_push 31 rfl rfl ?_
      by_cases b47 : (122 : Int32) < x31
      · refine k_c2 37 rfl rfl (if_pos b47) ?_
        refine k_iload 38 rfl gs_eq rfl ?_
        refine k_push 40 rfl rfl ?_
        by_cases b48 : x31 < (48 : Int32)
        · refine k_c2 52 rfl rfl (if_pos b48) ?_
          refine k_iload 53 rfl gs_eq rfl ?_
          by_cases b49 : x31.toInt = 40
          · refine k_sw 112 rfl (by simp only [am_lk]; rw [if_pos b49]) ?_
            refine k_iload 113 rfl gs_eq rfl ?_
            exact k_fin rfl rfl ⟨⟨_, rfl, ⟨_, rfl, _, rfl⟩⟩, I28⟩
          by_cases b50 : x31.toInt = 41
          · refine k_sw 112 rfl (by simp only [am_lk]; rw [if_neg b49, if_pos b50]) ?_
            refine k_iload 113 rfl gs_eq rfl ?_
            exact k_fin rfl rfl ⟨⟨_, rfl, ⟨_, rfl, _, rfl⟩⟩, I28⟩
          by_cases b51 : x31.toInt = 46
          · refine k_sw 112 rfl (by simp only [am_lk]; rw [if_neg b49, if_neg b50, if_pos b51]) ?_
            refine k_iload 113 rfl gs_eq rfl ?_
            exact k_fin rfl rfl ⟨⟨_, rfl, ⟨_, rfl, _, rfl⟩⟩, I28⟩
          by_cases b52 : x31.toInt = 59
          · refine k_sw 112 rfl (by simp only [am_lk]; rw [if_neg b49, if_neg b50, if_neg b51, if_pos b52]) ?_
            refine k_iload 113 rfl gs_eq rfl ?_
            exact k_fin rfl rfl ⟨⟨_, rfl, ⟨_, rfl, _, rfl⟩⟩, I28⟩
          by_cases b53 : x31.toInt = 61
          · refine k_sw 112 rfl (by simp only [am_lk]; rw [if_neg b49, if_neg b50, if_neg b51, if_neg b52, if_pos b53]) ?_
            refine k_iload 113 rfl gs_eq rfl ?_
            exact k_fin rfl rfl ⟨⟨_, rfl, ⟨_, rfl, _, rfl⟩⟩, I28⟩
          by_cases b54 : x31.toInt = 92
          · refine k_sw 112 rfl (by simp only [am_lk]; rw [if_neg b49, if_neg b50, if_neg b51, if_neg b52, if_neg b53, if_pos b54]) ?_
            refine k_iload 113 rfl gs_eq rfl ?_
            exact k_fin rfl rfl ⟨⟨_, rfl, ⟨_, rfl, _, rfl⟩⟩, I28⟩
          refine k_sw 114 rfl (by simp only [am_lk]; rw [if_neg b49, if_neg b50, if_neg b51, if_neg b52, if_neg b53, if_neg b54]) ?_
          refine k_push 115 rfl rfl ?_
          exact k_fin rfl rfl ⟨⟨_, rfl, ⟨_, rfl, _, rfl⟩⟩, I28⟩
        · refine k_c2 43 rfl rfl (if_neg b48) ?_
          refine k_iload 44 rfl gs_eq rfl ?_
          refine k_push 46 rfl rfl ?_
          by_cases b55 : (57 : Int32) < x31
          · refine k_c2 52 rfl rfl (if_pos b55) ?_
            refine k_iload 53 rfl gs_eq rfl ?_
            by_cases b56 : x31.toInt = 40
            · refine k_sw 112 rfl (by simp only [am_lk]; rw [if_pos b56]) ?_
              refine k_iload 113 rfl gs_eq rfl ?_
              exact k_fin rfl rfl ⟨⟨_, rfl, ⟨_, rfl, _, rfl⟩⟩, I28⟩
            by_cases b57 : x31.toInt = 41
            · refine k_sw 112 rfl (by simp only [am_lk]; rw [if_neg b56, if_pos b57]) ?_
              refine k_iload 113 rfl gs_eq rfl ?_
              exact k_fin rfl rfl ⟨⟨_, rfl, ⟨_, rfl, _, rfl⟩⟩, I28⟩
            by_cases b58 : x31.toInt = 46
            · refine k_sw 112 rfl (by simp only [am_lk]; rw [if_neg b56, if_neg b57, if_pos b58]) ?_
              refine k_iload 113 rfl gs_eq rfl ?_
              exact k_fin rfl rfl ⟨⟨_, rfl, ⟨_, rfl, _, rfl⟩⟩, I28⟩
            by_cases b59 : x31.toInt = 59
            · refine k_sw 112 rfl (by simp only [am_lk]; rw [if_neg b56, if_neg b57, if_neg b58, if_pos b59]) ?_
              refine k_iload 113 rfl gs_eq rfl ?_
              exact k_fin rfl rfl ⟨⟨_, rfl, ⟨_, rfl, _, rfl⟩⟩, I28⟩
            by_cases b60 : x31.toInt = 61
            · refine k_sw 112 rfl (by simp only [am_lk]; rw [if_neg b56, if_neg b57, if_neg b58, if_neg b59, if_pos b60]) ?_
              refine k_iload 113 rfl gs_eq rfl ?_
              exact k_fin rfl rfl ⟨⟨_, rfl, ⟨_, rfl, _, rfl⟩⟩, I28⟩
            by_cases b61 : x31.toInt = 92
            · refine k_sw 112 rfl (by simp only [am_lk]; rw [if_neg b56, if_neg b57, if_neg b58, if_neg b59, if_neg b60, if_pos b61]) ?_
              refine k_iload 113 rfl gs_eq rfl ?_
              exact k_fin rfl rfl ⟨⟨_, rfl, ⟨_, rfl, _, rfl⟩⟩, I28⟩
            refine k_sw 114 rfl (by simp only [am_lk]; rw [if_neg b56, if_neg b57, if_neg b58, if_neg b59, if_neg b60, if_neg b61]) ?_
            refine k_push 115 rfl rfl ?_
            exact k_fin rfl rfl ⟨⟨_, rfl, ⟨_, rfl, _, rfl⟩⟩, I28⟩
          · refine k_c2 49 rfl rfl (if_neg b55) ?_
            refine k_push 51 rfl rfl ?_
            exact k_fin rfl rfl ⟨⟨_, rfl, ⟨_, rfl, _, rfl⟩⟩, I28⟩
      · refine k_c2 34 rfl rfl (if_neg b47) ?_
        refine k_push 36 rfl rfl ?_
        exact k_fin rfl rfl ⟨⟨_, rfl, ⟨_, rfl, _, rfl⟩⟩, I28⟩
  · refine k_c2 11 rfl rfl (if_neg b16) ?_
    refine k_push 12 rfl rfl ?_
    exact k_fin rfl rfl ⟨⟨_, rfl, ⟨_, rfl, _, rfl⟩⟩, I12⟩
theorem c_X7_sortOf {h : am_h} {v0 : Nat} {v1 : Int32} (hT : ty_H h) (o0 : ob 7 v0) : am_Mt 2 114 [.inr (.inr (some v0)), .inl v1] h (ty_Q w_X7_sortOf 2 (ob_P h) h) := am_Mt.of (b_X7_sortOf rfl o0 rfl (okA_r hT o0 (okA_i okA_n)) (ob_I.start hT))
abbrev w_X7_advance : List (Nat × Nat) := [(7, 1), (7, 2), (7, 3)]
theorem b_X7_advance_66 {B : Nat} {h0 : am_h} : ∀ (n : Nat) {lv : am_l} {h : am_h} {c s : Nat} {v0 : Nat} {xf : Int32} , up_m xf = n → ob_f h v0 3 = some (.inl xf) → am_get lv 0 = some (.inr (.inr (some v0))) → ob 7 v0 → am_okL h.length lv = true → ob_I w_X7_advance B h0 h c s → am_Ok am_G 2 110 (66, lv, [], h, c, s) (ty_Q w_X7_advance 0 B h0) := by
  intro n
  induction n using Nat.strongRecOn with
  | ind n ih =>
    intro lv h c s v0 xf hn tf g0 o0 hL hI
    refine k_aload 67 rfl g0 rfl ?_
    obtain ⟨fs1, u2, e3, f4, t5⟩ := hI.1.get o0 (k := 3) rfl rfl
    obtain rfl : u2 = .inl xf := ob_f.get tf e3 f4
    refine k_get 70 rfl e3 f4 rfl ?_
    refine k_aload 71 rfl g0 rfl ?_
    obtain ⟨fs6, u7, e8, f9, t10⟩ := hI.1.get o0 (k := 0) rfl rfl
    obtain ⟨i11, rfl, o12⟩ := t10
    refine k_get 74 rfl e8 f9 rfl ?_
    refine k_cl (W' := []) rfl (rw_size hI.1 (Or.inr o12)) rfl rfl rfl (hI.1.rc3 (Or.inr o12)) hI (by decide) hL (so_i so_n) ?_
    rintro w13 h14 c15 s16 hv I17 L18 F19
    have t20 := ob_Fr.f F19 o0 (by decide) (by decide : (7, 3) ∉ []) tf
    obtain ⟨_, rfl, x21, rfl⟩ := hv
    show am_Ok _ _ _ (77, _, [.inl x21, .inl xf], h14, c15, s16) _
    by_cases b22 : x21 ≤ xf
    · refine k_c2 108 rfl rfl (if_pos b22) ?_
      exact k_fin rfl rfl ⟨⟨_, rfl, rfl⟩, I17⟩
    · refine k_c2 80 rfl rfl (if_neg b22) ?_
      refine k_aload 81 rfl g0 rfl ?_
      refine k_aload 82 rfl g0 rfl ?_
      obtain ⟨fs23, u24, e25, f26, t27⟩ := I17.1.get o0 (k := 3) rfl rfl
      obtain rfl : u24 = .inl xf := ob_f.get t20 e25 f26
      refine k_get 85 rfl e25 f26 rfl ?_
      refine k_cl (W' := w_X7_sortOf) rfl (c_X7_sortOf I17.1 o0) rfl rfl rfl (I17.1.rc o0 rfl) I17 (by decide) L18 so_n ?_
      rintro w28 h29 c30 s31 hv I32 L33 F34
      have t35 := ob_Fr.f F34 o0 (by decide) (by decide : (7, 3) ∉ w_X7_sortOf) t20
      obtain ⟨_, rfl, x36, rfl⟩ := hv
      show am_Ok _ _ _ (88, _, [.inl x36], h29, c30, s31) _
      refine k_aload 89 rfl g0 rfl ?_
      obtain ⟨fs37, u38, e39, f40, t41⟩ := I32.1.get o0 (k := 1) rfl rfl
      obtain ⟨x42, rfl⟩ := t41
      refine k_get 92 rfl e39 f40 rfl ?_
      by_cases b43 : x36 = x42
      · refine k_c2 95 rfl rfl (if_pos b43) ?_
        refine k_aload 96 rfl g0 rfl ?_
        refine k_dup 97 rfl rfl rfl ?_
        obtain ⟨fs44, u45, e46, f47, t48⟩ := I32.1.get o0 (k := 3) rfl rfl
        obtain rfl : u45 = .inl xf := ob_f.get t35 e46 f47
        refine k_get 100 rfl e46 f47 rfl ?_
        refine k_push 101 rfl rfl ?_
        obtain ⟨x49, q50⟩ : ∃ q : Int32, q = (xf + (1 : Int32)) := ⟨_, rfl⟩
        refine k_bin x49 102 rfl q50.symm rfl ?_
        obtain ⟨fs51, u52, e53, f54, t55⟩ := I32.1.get o0 (k := 3) rfl rfl
        refine k_put 105 rfl e53 rfl (List.getElem?_eq_some_iff.mp f54).1 rfl ?_
        obtain ⟨h56, E59, I57, l60⟩ := I32.put (v := .inl x49) o0 rfl e53 (k := 3) rfl (show ty_V 0 (.inl x49) from ⟨_, rfl⟩) (by decide) rfl
        have t61 := ob_f.put e53 f54 E59
        rw [E59]
        have L58 := okL_eq l60 L33
        refine k_goto 66 rfl rfl ?_
        exact ih _ (by rw [← hn]; exact (by rw [q50]; exact up_lt b22)) rfl t61 g0 o0 L58 I57
      · refine k_c2 108 rfl rfl (if_neg b43) ?_
        exact k_fin rfl rfl ⟨⟨_, rfl, rfl⟩, I32⟩
theorem b_X7_advance {B : Nat} {h0 : am_h} {lv : am_l} {h : am_h} {c s : Nat} {v0 : Nat} (g0 : am_get lv 0 = some (.inr (.inr (some v0)))) (o0 : ob 7 v0) (hL : am_okL h.length lv = true) (hI : ob_I w_X7_advance B h0 h c s) : am_Ok am_G 2 110 (0, lv, [], h, c, s) (ty_Q w_X7_advance 0 B h0) := by
  refine k_aload 1 rfl g0 rfl ?_
  refine k_aload 2 rfl g0 rfl ?_
  refine k_aload 3 rfl g0 rfl ?_
  obtain ⟨fs62, u63, e64, f65, t66⟩ := hI.1.get o0 (k := 3) rfl rfl
  obtain ⟨x67, rfl⟩ := t66
  refine k_get 6 rfl e64 f65 rfl ?_
  refine k_cl (W' := w_X7_behindBlanks) rfl (c_X7_behindBlanks hI.1 o0) rfl rfl rfl (hI.1.rc o0 rfl) hI (by decide) hL (so_r hI o0 so_n) ?_
  rintro w68 h69 c70 s71 hv I72 L73 F74
  obtain ⟨_, rfl, x75, rfl⟩ := hv
  show am_Ok _ _ _ (9, _, [.inl x75, .inr (.inr (some v0))], h69, c70, s71) _
  obtain ⟨fs76, u77, e78, f79, t80⟩ := I72.1.get o0 (k := 2) rfl rfl
  refine k_put 12 rfl e78 rfl (List.getElem?_eq_some_iff.mp f79).1 rfl ?_
  obtain ⟨h81, E84, I82, l85⟩ := I72.put (v := .inl x75) o0 rfl e78 (k := 2) rfl (show ty_V 0 (.inl x75) from ⟨_, rfl⟩) (by decide) rfl
  rw [E84]
  have L83 := okL_eq l85 L73
  refine k_aload 13 rfl g0 rfl ?_
  refine k_aload 14 rfl g0 rfl ?_
  refine k_aload 15 rfl g0 rfl ?_
  obtain ⟨fs86, u87, e88, f89, t90⟩ := I82.1.get o0 (k := 2) rfl rfl
  obtain ⟨x91, rfl⟩ := t90
  refine k_get 18 rfl e88 f89 rfl ?_
  refine k_cl (W' := w_X7_sortOf) rfl (c_X7_sortOf I82.1 o0) rfl rfl rfl (I82.1.rc o0 rfl) I82 (by decide) L83 (so_r I82 o0 so_n) ?_
  rintro w92 h93 c94 s95 hv I96 L97 F98
  obtain ⟨_, rfl, x99, rfl⟩ := hv
  show am_Ok _ _ _ (21, _, [.inl x99, .inr (.inr (some v0))], h93, c94, s95) _
  obtain ⟨fs100, u101, e102, f103, t104⟩ := I96.1.get o0 (k := 1) rfl rfl
  refine k_put 24 rfl e102 rfl (List.getElem?_eq_some_iff.mp f103).1 rfl ?_
  obtain ⟨h105, E108, I106, l109⟩ := I96.put (v := .inl x99) o0 rfl e102 (k := 1) rfl (show ty_V 0 (.inl x99) from ⟨_, rfl⟩) (by decide) rfl
  rw [E108]
  have L107 := okL_eq l109 L97
  refine k_aload 25 rfl g0 rfl ?_
  refine k_aload 26 rfl g0 rfl ?_
  obtain ⟨fs110, u111, e112, f113, t114⟩ := I106.1.get o0 (k := 1) rfl rfl
  obtain ⟨x115, rfl⟩ := t114
  refine k_get 29 rfl e112 f113 rfl ?_
  by_cases b116 : x115 = 0
  · refine k_c1 32 rfl rfl (if_pos b116) ?_
    refine k_aload 33 rfl g0 rfl ?_
    obtain ⟨fs117, u118, e119, f120, t121⟩ := I106.1.get o0 (k := 2) rfl rfl
    obtain ⟨x122, rfl⟩ := t121
    refine k_get 36 rfl e119 f120 rfl ?_
    refine k_goto 45 rfl rfl ?_
    obtain ⟨fs123, u124, e125, f126, t127⟩ := I106.1.get o0 (k := 3) rfl rfl
    refine k_put 48 rfl e125 rfl (List.getElem?_eq_some_iff.mp f126).1 rfl ?_
    obtain ⟨h128, E131, I129, l132⟩ := I106.put (v := .inl x122) o0 rfl e125 (k := 3) rfl (show ty_V 0 (.inl x122) from ⟨_, rfl⟩) (by decide) rfl
    rw [E131]
    have L130 := okL_eq l132 L107
    refine k_aload 49 rfl g0 rfl ?_
    obtain ⟨fs133, u134, e135, f136, t137⟩ := I129.1.get o0 (k := 1) rfl rfl
    obtain ⟨x138, rfl⟩ := t137
    refine k_get 52 rfl e135 f136 rfl ?_
    refine k_push 54 rfl rfl ?_
    by_cases b139 : x138 = (97 : Int32)
    · refine k_c2 66 rfl rfl (if_pos b139) ?_
      obtain ⟨x140, t141⟩ := I129.1.fld o0 (k := 3) rfl rfl
      exact b_X7_advance_66 _ rfl t141 g0 o0 L130 I129
    · refine k_c2 57 rfl rfl (if_neg b139) ?_
      refine k_aload 58 rfl g0 rfl ?_
      obtain ⟨fs142, u143, e144, f145, t146⟩ := I129.1.get o0 (k := 1) rfl rfl
      obtain ⟨x147, rfl⟩ := t146
      refine k_get 61 rfl e144 f145 rfl ?_
      refine k_push 63 rfl rfl ?_
      by_cases b148 : x147 = (48 : Int32)
      · refine k_c2 66 rfl rfl (if_pos b148) ?_
        obtain ⟨x149, t150⟩ := I129.1.fld o0 (k := 3) rfl rfl
        exact b_X7_advance_66 _ rfl t150 g0 o0 L130 I129
      · refine k_c2 108 rfl rfl (if_neg b148) ?_
        exact k_fin rfl rfl ⟨⟨_, rfl, rfl⟩, I129⟩
  · refine k_c1 39 rfl rfl (if_neg b116) ?_
    refine k_aload 40 rfl g0 rfl ?_
    obtain ⟨fs151, u152, e153, f154, t155⟩ := I106.1.get o0 (k := 2) rfl rfl
    obtain ⟨x156, rfl⟩ := t155
    refine k_get 43 rfl e153 f154 rfl ?_
    refine k_push 44 rfl rfl ?_
    obtain ⟨x157, q158⟩ : ∃ q : Int32, q = (x156 + (1 : Int32)) := ⟨_, rfl⟩
    refine k_bin x157 45 rfl q158.symm rfl ?_
    obtain ⟨fs159, u160, e161, f162, t163⟩ := I106.1.get o0 (k := 3) rfl rfl
    refine k_put 48 rfl e161 rfl (List.getElem?_eq_some_iff.mp f162).1 rfl ?_
    obtain ⟨h164, E167, I165, l168⟩ := I106.put (v := .inl x157) o0 rfl e161 (k := 3) rfl (show ty_V 0 (.inl x157) from ⟨_, rfl⟩) (by decide) rfl
    rw [E167]
    have L166 := okL_eq l168 L107
    refine k_aload 49 rfl g0 rfl ?_
    obtain ⟨fs169, u170, e171, f172, t173⟩ := I165.1.get o0 (k := 1) rfl rfl
    obtain ⟨x174, rfl⟩ := t173
    refine k_get 52 rfl e171 f172 rfl ?_
    refine k_push 54 rfl rfl ?_
    by_cases b175 : x174 = (97 : Int32)
    · refine k_c2 66 rfl rfl (if_pos b175) ?_
      obtain ⟨x176, t177⟩ := I165.1.fld o0 (k := 3) rfl rfl
      exact b_X7_advance_66 _ rfl t177 g0 o0 L166 I165
    · refine k_c2 57 rfl rfl (if_neg b175) ?_
      refine k_aload 58 rfl g0 rfl ?_
      obtain ⟨fs178, u179, e180, f181, t182⟩ := I165.1.get o0 (k := 1) rfl rfl
      obtain ⟨x183, rfl⟩ := t182
      refine k_get 61 rfl e180 f181 rfl ?_
      refine k_push 63 rfl rfl ?_
      by_cases b184 : x183 = (48 : Int32)
      · refine k_c2 66 rfl rfl (if_pos b184) ?_
        obtain ⟨x185, t186⟩ := I165.1.fld o0 (k := 3) rfl rfl
        exact b_X7_advance_66 _ rfl t186 g0 o0 L166 I165
      · refine k_c2 108 rfl rfl (if_neg b184) ?_
        exact k_fin rfl rfl ⟨⟨_, rfl, rfl⟩, I165⟩
theorem c_X7_advance {h : am_h} {v0 : Nat} (hT : ty_H h) (o0 : ob 7 v0) : am_Mt 3 110 [.inr (.inr (some v0))] h (ty_Q w_X7_advance 0 (ob_P h) h) := am_Mt.of (b_X7_advance rfl o0 (okA_r hT o0 okA_n) (ob_I.start hT))
abbrev w_X6_takeNewName : List (Nat × Nat) := [(6, 6), (6, 11), (7, 1), (7, 2), (7, 3)]
theorem b_X6_takeNewName {B : Nat} {h0 : am_h} {lv : am_l} {h : am_h} {c s : Nat} {v0 : Nat} {v1 : Int32} (g0 : am_get lv 0 = some (.inr (.inr (some v0)))) (o0 : ob 6 v0) (g1 : am_get lv 1 = some (.inl v1)) (hL : am_okL h.length lv = true) (hI : ob_I w_X6_takeNewName B h0 h c s) : am_Ok am_G 3 90 (0, lv, [], h, c, s) (ty_Q w_X6_takeNewName 2 B h0) := by
  refine k_aload 1 rfl g0 rfl ?_
  obtain ⟨fs1, u2, e3, f4, t5⟩ := hI.1.get o0 (k := 10) rfl rfl
  obtain ⟨x6, rfl⟩ := t5
  refine k_get 4 rfl e3 f4 rfl ?_
  refine k_push 6 rfl rfl ?_
  by_cases b7 : x6 = (12 : Int32)
  · refine k_c2 9 rfl rfl (if_pos b7) ?_
    refine k_push 10 rfl rfl ?_
    exact k_fin rfl rfl ⟨⟨_, rfl, ⟨_, rfl, _, rfl⟩⟩, hI⟩
  · refine k_c2 11 rfl rfl (if_neg b7) ?_
    refine k_iload 12 rfl g1 rfl ?_
    by_cases b8 : v1 = 0
    · refine k_c1 17 rfl rfl (if_pos b8) ?_
      refine k_aload 18 rfl g0 rfl ?_
      obtain ⟨fs9, u10, e11, f12, t13⟩ := hI.1.get o0 (k := 2) rfl rfl
      obtain ⟨i14, rfl, o15⟩ := t13
      refine k_get 21 rfl e11 f12 rfl ?_
      refine k_aload 22 rfl g0 rfl ?_
      obtain ⟨fs16, u17, e18, f19, t20⟩ := hI.1.get o0 (k := 0) rfl rfl
      obtain ⟨i21, rfl, o22⟩ := t20
      refine k_get 25 rfl e18 f19 rfl ?_
      refine k_cl (W' := w_X7_start) rfl (c_X7_start hI.1 o22) rfl rfl rfl (hI.1.rc o22 rfl) hI (by decide) hL (so_r hI o15 so_n) ?_
      rintro w23 h24 c25 s26 hv I27 L28 F29
      obtain ⟨_, rfl, x30, rfl⟩ := hv
      show am_Ok _ _ _ (28, _, [.inl x30, .inr (.inr (some i14))], h24, c25, s26) _
      refine k_cl (W' := []) rfl ((rw_add (W := []) I27.1 (Or.inl o15)).imp (fun _ z => z.1)) rfl rfl rfl (I27.1.rc3 (Or.inl o15)) I27 (by decide) L28 so_n ?_
      rintro w31 h32 c33 s34 hv I35 L36 F37
      obtain ⟨_, rfl, x38, rfl, z39⟩ := hv
      show am_Ok _ _ _ (31, _, [.inl x38], h32, c33, s34) _
      refine k_pop 32 rfl rfl rfl ?_
      refine k_aload 33 rfl g0 rfl ?_
      obtain ⟨fs40, u41, e42, f43, t44⟩ := I35.1.get o0 (k := 2) rfl rfl
      obtain ⟨i45, rfl, o46⟩ := t44
      refine k_get 36 rfl e42 f43 rfl ?_
      refine k_aload 37 rfl g0 rfl ?_
      obtain ⟨fs47, u48, e49, f50, t51⟩ := I35.1.get o0 (k := 0) rfl rfl
      obtain ⟨i52, rfl, o53⟩ := t51
      refine k_get 40 rfl e49 f50 rfl ?_
      refine k_cl (W' := w_X7_end) rfl (c_X7_end I35.1 o53) rfl rfl rfl (I35.1.rc o53 rfl) I35 (by decide) L36 (so_r I35 o46 so_n) ?_
      rintro w54 h55 c56 s57 hv I58 L59 F60
      obtain ⟨_, rfl, x61, rfl⟩ := hv
      show am_Ok _ _ _ (43, _, [.inl x61, .inr (.inr (some i45))], h55, c56, s57) _
      refine k_cl (W' := []) rfl ((rw_add (W := []) I58.1 (Or.inl o46)).imp (fun _ z => z.1)) rfl rfl rfl (I58.1.rc3 (Or.inl o46)) I58 (by decide) L59 so_n ?_
      rintro w62 h63 c64 s65 hv I66 L67 F68
      obtain ⟨_, rfl, x69, rfl, z70⟩ := hv
      show am_Ok _ _ _ (46, _, [.inl x69], h63, c64, s65) _
      refine k_pop 47 rfl rfl rfl ?_
      refine k_aload 48 rfl g0 rfl ?_
      obtain ⟨fs71, u72, e73, f74, t75⟩ := I66.1.get o0 (k := 2) rfl rfl
      obtain ⟨i76, rfl, o77⟩ := t75
      refine k_get 51 rfl e73 f74 rfl ?_
      refine k_aload 52 rfl g0 rfl ?_
      obtain ⟨fs78, u79, e80, f81, t82⟩ := I66.1.get o0 (k := 1) rfl rfl
      obtain ⟨i83, rfl, o84⟩ := t82
      refine k_get 55 rfl e80 f81 rfl ?_
      refine k_cl (W' := []) rfl (rw_size I66.1 (Or.inl o84)) rfl rfl rfl (I66.1.rc3 (Or.inl o84)) I66 (by decide) L67 (so_r I66 o77 so_n) ?_
      rintro w85 h86 c87 s88 hv I89 L90 F91
      obtain ⟨_, rfl, x92, rfl⟩ := hv
      show am_Ok _ _ _ (58, _, [.inl x92, .inr (.inr (some i76))], h86, c87, s88) _
      refine k_cl (W' := []) rfl ((rw_add (W := []) I89.1 (Or.inl o77)).imp (fun _ z => z.1)) rfl rfl rfl (I89.1.rc3 (Or.inl o77)) I89 (by decide) L90 so_n ?_
      rintro w93 h94 c95 s96 hv I97 L98 F99
      obtain ⟨_, rfl, x100, rfl, z101⟩ := hv
      show am_Ok _ _ _ (61, _, [.inl x100], h94, c95, s96) _
      refine k_pop 62 rfl rfl rfl ?_
      refine k_aload 63 rfl g0 rfl ?_
      obtain ⟨fs102, u103, e104, f105, t106⟩ := I97.1.get o0 (k := 2) rfl rfl
      obtain ⟨i107, rfl, o108⟩ := t106
      refine k_get 66 rfl e104 f105 rfl ?_
      refine k_push 67 rfl rfl ?_
      refine k_cl (W' := []) rfl ((rw_add (W := []) I97.1 (Or.inl o108)).imp (fun _ z => z.1)) rfl rfl rfl (I97.1.rc3 (Or.inl o108)) I97 (by decide) L98 so_n ?_
      rintro w109 h110 c111 s112 hv I113 L114 F115
      obtain ⟨_, rfl, x116, rfl, z117⟩ := hv
      show am_Ok _ _ _ (70, _, [.inl x116], h110, c111, s112) _
      refine k_pop 71 rfl rfl rfl ?_
      refine k_aload 72 rfl g0 rfl ?_
      obtain ⟨fs118, u119, e120, f121, t122⟩ := I113.1.get o0 (k := 2) rfl rfl
      obtain ⟨i123, rfl, o124⟩ := t122
      refine k_get 75 rfl e120 f121 rfl ?_
      refine k_push 76 rfl rfl ?_
      refine k_cl (W' := []) rfl ((rw_add (W := []) I113.1 (Or.inl o124)).imp (fun _ z => z.1)) rfl rfl rfl (I113.1.rc3 (Or.inl o124)) I113 (by decide) L114 so_n ?_
      rintro w125 h126 c127 s128 hv I129 L130 F131
      obtain ⟨_, rfl, x132, rfl, z133⟩ := hv
      show am_Ok _ _ _ (79, _, [.inl x132], h126, c127, s128) _
      refine k_pop 80 rfl rfl rfl ?_
      refine k_aload 81 rfl g0 rfl ?_
      refine k_push 82 rfl rfl ?_
      obtain ⟨fs134, u135, e136, f137, t138⟩ := I129.1.get o0 (k := 11) rfl rfl
      refine k_put 85 rfl e136 (okZ_of (Or.inr rfl)) (List.getElem?_eq_some_iff.mp f137).1 rfl ?_
      obtain ⟨h139, E142, I140, l143⟩ := I129.put (v := .inl (1 : Int32)) o0 rfl e136 (k := 11) rfl (show ty_V 1 (.inl (1 : Int32)) from ⟨_, rfl, (Or.inr rfl)⟩) (by decide) rfl
      rw [E142]
      have L141 := okL_eq l143 L130
      refine k_aload 86 rfl g0 rfl ?_
      obtain ⟨fs144, u145, e146, f147, t148⟩ := I140.1.get o0 (k := 0) rfl rfl
      obtain ⟨i149, rfl, o150⟩ := t148
      refine k_get 89 rfl e146 f147 rfl ?_
      refine k_cl (W' := w_X7_advance) rfl (c_X7_advance I140.1 o150) rfl rfl rfl (I140.1.rc o150 rfl) I140 (by decide) L141 so_n ?_
      rintro w151 h152 c153 s154 hv I155 L156 F157
      cases hv
      show am_Ok _ _ _ (92, _, [], h152, c153, s154) _
      refine k_aload 93 rfl g0 rfl ?_
      refine k_push 94 rfl rfl ?_
      obtain ⟨fs158, u159, e160, f161, t162⟩ := I155.1.get o0 (k := 6) rfl rfl
      refine k_put 97 rfl e160 rfl (List.getElem?_eq_some_iff.mp f161).1 rfl ?_
      obtain ⟨h163, E166, I164, l167⟩ := I155.put (v := .inl (1 : Int32)) o0 rfl e160 (k := 6) rfl (show ty_V 0 (.inl (1 : Int32)) from ⟨_, rfl⟩) (by decide) rfl
      rw [E166]
      have L165 := okL_eq l167 L156
      refine k_push 98 rfl rfl ?_
      exact k_fin rfl rfl ⟨⟨_, rfl, ⟨_, rfl, _, rfl⟩⟩, I164⟩
    · refine k_c1 15 rfl rfl (if_neg b8) ?_
      refine k_push 16 rfl rfl ?_
      exact k_fin rfl rfl ⟨⟨_, rfl, ⟨_, rfl, _, rfl⟩⟩, hI⟩
theorem c_X6_takeNewName {h : am_h} {v0 : Nat} {v1 : Int32} (hT : ty_H h) (o0 : ob 6 v0) : am_Mt 4 90 [.inr (.inr (some v0)), .inl v1] h (ty_Q w_X6_takeNewName 2 (ob_P h) h) := am_Mt.of (b_X6_takeNewName rfl o0 rfl (okA_r hT o0 (okA_i okA_n)) (ob_I.start hT))
abbrev w_X7_equalsSignIsNext : List (Nat × Nat) := []
theorem b_X7_equalsSignIsNext {B : Nat} {h0 : am_h} {lv : am_l} {h : am_h} {c s : Nat} {v0 : Nat} (g0 : am_get lv 0 = some (.inr (.inr (some v0)))) (o0 : ob 7 v0) (hL : am_okL h.length lv = true) (hI : ob_I w_X7_equalsSignIsNext B h0 h c s) : am_Ok am_G 2 111 (0, lv, [], h, c, s) (ty_Q w_X7_equalsSignIsNext 3 B h0) := by
  refine k_aload 1 rfl g0 rfl ?_
  refine k_aload 2 rfl g0 rfl ?_
  refine k_aload 3 rfl g0 rfl ?_
  obtain ⟨fs1, u2, e3, f4, t5⟩ := hI.1.get o0 (k := 3) rfl rfl
  obtain ⟨x6, rfl⟩ := t5
  refine k_get 6 rfl e3 f4 rfl ?_
  refine k_cl (W' := w_X7_behindBlanks) rfl (c_X7_behindBlanks hI.1 o0) rfl rfl rfl (hI.1.rc o0 rfl) hI (by decide) hL (so_r hI o0 so_n) ?_
  rintro w7 h8 c9 s10 hv I11 L12 F13
  obtain ⟨_, rfl, x14, rfl⟩ := hv
  show am_Ok _ _ _ (9, _, [.inl x14, .inr (.inr (some v0))], h8, c9, s10) _
  refine k_cl (W' := w_X7_sortOf) rfl (c_X7_sortOf I11.1 o0) rfl rfl rfl (I11.1.rc o0 rfl) I11 (by decide) L12 so_n ?_
  rintro w15 h16 c17 s18 hv I19 L20 F21
  obtain ⟨_, rfl, x22, rfl⟩ := hv
  show am_Ok _ _ _ (12, _, [.inl x22], h16, c17, s18) _
  refine k_push 14 rfl rfl ?_
  by_cases b23 : x22 = (61 : Int32)
  · refine k_c2 17 rfl rfl (if_pos b23) ?_
    refine k_push 18 rfl rfl ?_
    refine k_goto 22 rfl rfl ?_
    exact k_fin rfl (fin_Z (Or.inr rfl)) ⟨⟨_, rfl, ⟨_, rfl, _, rfl, (Or.inr rfl)⟩⟩, I19⟩
  · refine k_c2 21 rfl rfl (if_neg b23) ?_
    refine k_push 22 rfl rfl ?_
    exact k_fin rfl (fin_Z (Or.inl rfl)) ⟨⟨_, rfl, ⟨_, rfl, _, rfl, (Or.inl rfl)⟩⟩, I19⟩
theorem c_X7_equalsSignIsNext {h : am_h} {v0 : Nat} (hT : ty_H h) (o0 : ob 7 v0) : am_Mt 3 111 [.inr (.inr (some v0))] h (ty_Q w_X7_equalsSignIsNext 3 (ob_P h) h) := am_Mt.of (b_X7_equalsSignIsNext rfl o0 (okA_r hT o0 okA_n) (ob_I.start hT))
abbrev w_X6_takeWord : List (Nat × Nat) := [(6, 6), (6, 7), (6, 8), (6, 11), (7, 1), (7, 2), (7, 3)]
theorem b_X6_takeWord {B : Nat} {h0 : am_h} {lv : am_l} {h : am_h} {c s : Nat} {v0 : Nat} (g0 : am_get lv 0 = some (.inr (.inr (some v0)))) (o0 : ob 6 v0) (hL : am_okL h.length lv = true) (hI : ob_I w_X6_takeWord B h0 h c s) : am_Ok am_G 4 89 (0, lv, [], h, c, s) (ty_Q w_X6_takeWord 2 B h0) := by
  refine k_aload 1 rfl g0 rfl ?_
  obtain ⟨fs1, u2, e3, f4, t5⟩ := hI.1.get o0 (k := 0) rfl rfl
  obtain ⟨i6, rfl, o7⟩ := t5
  refine k_get 4 rfl e3 f4 rfl ?_
  refine k_cl (W' := w_X7_end) rfl (c_X7_end hI.1 o7) rfl rfl rfl (hI.1.rc o7 rfl) hI (by decide) hL so_n ?_
  rintro w8 h9 c10 s11 hv I12 L13 F14
  obtain ⟨_, rfl, x15, rfl⟩ := hv
  show am_Ok _ _ _ (7, _, [.inl x15], h9, c10, s11) _
  refine k_aload 8 rfl g0 rfl ?_
  obtain ⟨fs16, u17, e18, f19, t20⟩ := I12.1.get o0 (k := 0) rfl rfl
  obtain ⟨i21, rfl, o22⟩ := t20
  refine k_get 11 rfl e18 f19 rfl ?_
  refine k_cl (W' := w_X7_start) rfl (c_X7_start I12.1 o22) rfl rfl rfl (I12.1.rc o22 rfl) I12 (by decide) L13 (so_i so_n) ?_
  rintro w23 h24 c25 s26 hv I27 L28 F29
  obtain ⟨_, rfl, x30, rfl⟩ := hv
  show am_Ok _ _ _ (14, _, [.inl x30, .inl x15], h24, c25, s26) _
  obtain ⟨x31, q32⟩ : ∃ q : Int32, q = (x15 - x30) := ⟨_, rfl⟩
  refine k_bin x31 15 rfl q32.symm rfl ?_
  refine k_push 17 rfl rfl ?_
  by_cases b33 : x31 ≤ (8 : Int32)
  · refine k_c2 22 rfl rfl (if_pos b33) ?_
    refine k_aload 23 rfl g0 rfl ?_
    obtain ⟨fs34, u35, e36, f37, t38⟩ := I27.1.get o0 (k := 6) rfl rfl
    obtain ⟨x39, rfl⟩ := t38
    refine k_get 26 rfl e36 f37 rfl ?_
    refine k_push 27 rfl rfl ?_
    by_cases b40 : x39 = (2 : Int32)
    · refine k_c2 38 rfl rfl (if_pos b40) ?_
      refine k_aload 39 rfl g0 rfl ?_
      refine k_cl (W' := w_X6_takeFunctionName) rfl (c_X6_takeFunctionName I27.1 o0) rfl rfl rfl (I27.1.rc o0 rfl) I27 (by decide) L28 so_n ?_
      rintro w41 h42 c43 s44 hv I45 L46 F47
      obtain ⟨_, rfl, x48, rfl⟩ := hv
      show am_Ok _ _ _ (42, _, [.inl x48], h42, c43, s44) _
      exact k_fin rfl rfl ⟨⟨_, rfl, ⟨_, rfl, _, rfl⟩⟩, I45⟩
    · refine k_c2 30 rfl rfl (if_neg b40) ?_
      refine k_aload 31 rfl g0 rfl ?_
      obtain ⟨fs49, u50, e51, f52, t53⟩ := I27.1.get o0 (k := 6) rfl rfl
      obtain ⟨x54, rfl⟩ := t53
      refine k_get 34 rfl e51 f52 rfl ?_
      refine k_push 35 rfl rfl ?_
      by_cases b55 : x54 = (3 : Int32)
      · refine k_c2 38 rfl rfl (if_pos b55) ?_
        refine k_aload 39 rfl g0 rfl ?_
        refine k_cl (W' := w_X6_takeFunctionName) rfl (c_X6_takeFunctionName I27.1 o0) rfl rfl rfl (I27.1.rc o0 rfl) I27 (by decide) L28 so_n ?_
        rintro w56 h57 c58 s59 hv I60 L61 F62
        obtain ⟨_, rfl, x63, rfl⟩ := hv
        show am_Ok _ _ _ (42, _, [.inl x63], h57, c58, s59) _
        exact k_fin rfl rfl ⟨⟨_, rfl, ⟨_, rfl, _, rfl⟩⟩, I60⟩
      · refine k_c2 43 rfl rfl (if_neg b55) ?_
        refine k_aload 44 rfl g0 rfl ?_
        refine k_cl (W' := w_X6_nameOfWord) rfl (c_X6_nameOfWord I27.1 o0) rfl rfl rfl (I27.1.rc o0 rfl) I27 (by decide) L28 so_n ?_
        rintro w64 h65 c66 s67 hv I68 L69 F70
        obtain ⟨_, rfl, x71, rfl⟩ := hv
        show am_Ok _ _ _ (47, _, [.inl x71], h65, c66, s67) _
        refine k_istore 48 rfl rfl ?_
        refine k_aload 49 rfl (gs_ne rfl rfl g0) rfl ?_
        obtain ⟨fs72, u73, e74, f75, t76⟩ := I68.1.get o0 (k := 6) rfl rfl
        obtain ⟨x77, rfl⟩ := t76
        refine k_get 52 rfl e74 f75 rfl ?_
        by_cases b78 : x77 = 0
        · refine k_c1 55 rfl rfl (if_pos b78) ?_
          refine k_aload 56 rfl (gs_ne rfl rfl g0) rfl ?_
          obtain ⟨fs79, u80, e81, f82, t83⟩ := I68.1.get o0 (k := 0) rfl rfl
          obtain ⟨i84, rfl, o85⟩ := t83
          refine k_get 59 rfl e81 f82 rfl ?_
          refine k_cl (W' := w_X7_equalsSignIsNext) rfl (c_X7_equalsSignIsNext I68.1 o85) rfl rfl rfl (I68.1.rc o85 rfl) I68 (by decide) (okL_set (i := 1) (v := .inl x71) rfl L69) so_n ?_
          rintro w86 h87 c88 s89 hv I90 L91 F92
          obtain ⟨_, rfl, x93, rfl, z94⟩ := hv
          show am_Ok _ _ _ (62, _, [.inl x93], h87, c88, s89) _
          by_cases b95 : x93 = 0
          · refine k_c1 80 rfl rfl (if_pos b95) ?_
            refine k_aload 81 rfl (gs_ne rfl rfl g0) rfl ?_
            refine k_cl (W' := w_X6_functionOfWord) rfl (c_X6_functionOfWord I90.1 o0) rfl rfl rfl (I90.1.rc o0 rfl) I90 (by decide) L91 so_n ?_
            rintro w96 h97 c98 s99 hv I100 L101 F102
            obtain ⟨_, rfl, x103, rfl⟩ := hv
            show am_Ok _ _ _ (84, _, [.inl x103], h97, c98, s99) _
            refine k_istore 85 rfl rfl ?_
            refine k_iload 86 rfl gs_eq rfl ?_
            refine k_push 87 rfl rfl ?_
            by_cases b104 : x103 = (-1 : Int32)
            · refine k_c2 90 rfl rfl (if_pos b104) ?_
              refine k_iload 91 rfl (gs_ne rfl rfl gs_eq) rfl ?_
              refine k_push 92 rfl rfl ?_
              by_cases b105 : x71 = (-1 : Int32)
              · refine k_c2 95 rfl rfl (if_pos b105) ?_
                refine k_push 96 rfl rfl ?_
                exact k_fin rfl rfl ⟨⟨_, rfl, ⟨_, rfl, _, rfl⟩⟩, I100⟩
              · refine k_c2 97 rfl rfl (if_neg b105) ?_
                refine k_aload 98 rfl (gs_ne rfl rfl (gs_ne rfl rfl g0)) rfl ?_
                refine k_cl (W' := w_X6_beginAtom) rfl (c_X6_beginAtom I100.1 o0) rfl rfl rfl (I100.1.rc o0 rfl) I100 (by decide) (okL_set (i := 2) (v := .inl x103) rfl L101) so_n ?_
                rintro w106 h107 c108 s109 hv I110 L111 F112
                cases hv
                show am_Ok _ _ _ (101, _, [], h107, c108, s109) _
                refine k_aload 102 rfl (gs_ne rfl rfl (gs_ne rfl rfl g0)) rfl ?_
                obtain ⟨fs113, u114, e115, f116, t117⟩ := I110.1.get o0 (k := 1) rfl rfl
                obtain ⟨i118, rfl, o119⟩ := t117
                refine k_get 105 rfl e115 f116 rfl ?_
                refine k_iload 106 rfl gs_eq rfl ?_
                refine k_push 107 rfl rfl ?_
                by_cases b120 : x103 = (-1 : Int32)
                · refine k_c2 110 rfl rfl (if_pos b120) ?_
                  refine k_push 112 rfl rfl ?_
                  refine k_iload 113 rfl (gs_ne rfl rfl gs_eq) rfl ?_
                  obtain ⟨x121, q122⟩ : ∃ q : Int32, q = ((-11 : Int32) - x71) := ⟨_, rfl⟩
                  refine k_bin x121 114 rfl q122.symm rfl ?_
                  refine k_goto 120 rfl rfl ?_
                  refine k_cl (W' := []) rfl ((rw_add (W := []) I110.1 (Or.inl o119)).imp (fun _ z => z.1)) rfl rfl rfl (I110.1.rc3 (Or.inl o119)) I110 (by decide) L111 so_n ?_
                  rintro w123 h124 c125 s126 hv I127 L128 F129
                  obtain ⟨_, rfl, x130, rfl, z131⟩ := hv
                  show am_Ok _ _ _ (123, _, [.inl x130], h124, c125, s126) _
                  refine k_pop 124 rfl rfl rfl ?_
                  refine k_aload 125 rfl (gs_ne rfl rfl (gs_ne rfl rfl g0)) rfl ?_
                  refine k_push 126 rfl rfl ?_
                  obtain ⟨fs132, u133, e134, f135, t136⟩ := I127.1.get o0 (k := 6) rfl rfl
                  refine k_put 129 rfl e134 rfl (List.getElem?_eq_some_iff.mp f135).1 rfl ?_
                  obtain ⟨h137, E140, I138, l141⟩ := I127.put (v := .inl (4 : Int32)) o0 rfl e134 (k := 6) rfl (show ty_V 0 (.inl (4 : Int32)) from ⟨_, rfl⟩) (by decide) rfl
                  rw [E140]
                  have L139 := okL_eq l141 L128
                  refine k_push 130 rfl rfl ?_
                  exact k_fin rfl rfl ⟨⟨_, rfl, ⟨_, rfl, _, rfl⟩⟩, I138⟩
                · refine k_c2 117 rfl rfl (if_neg b120) ?_
                  refine k_push 118 rfl rfl ?_
                  refine k_iload 119 rfl gs_eq rfl ?_
                  obtain ⟨x142, q143⟩ : ∃ q : Int32, q = ((2 : Int32) + x103) := ⟨_, rfl⟩
                  refine k_bin x142 120 rfl q143.symm rfl ?_
                  refine k_cl (W' := []) rfl ((rw_add (W := []) I110.1 (Or.inl o119)).imp (fun _ z => z.1)) rfl rfl rfl (I110.1.rc3 (Or.inl o119)) I110 (by decide) L111 so_n ?_
                  rintro w144 h145 c146 s147 hv I148 L149 F150
                  obtain ⟨_, rfl, x151, rfl, z152⟩ := hv
                  show am_Ok _ _ _ (123, _, [.inl x151], h145, c146, s147) _
                  refine k_pop 124 rfl rfl rfl ?_
                  refine k_aload 125 rfl (gs_ne rfl rfl (gs_ne rfl rfl g0)) rfl ?_
                  refine k_push 126 rfl rfl ?_
                  obtain ⟨fs153, u154, e155, f156, t157⟩ := I148.1.get o0 (k := 6) rfl rfl
                  refine k_put 129 rfl e155 rfl (List.getElem?_eq_some_iff.mp f156).1 rfl ?_
                  obtain ⟨h158, E161, I159, l162⟩ := I148.put (v := .inl (4 : Int32)) o0 rfl e155 (k := 6) rfl (show ty_V 0 (.inl (4 : Int32)) from ⟨_, rfl⟩) (by decide) rfl
                  rw [E161]
                  have L160 := okL_eq l162 L149
                  refine k_push 130 rfl rfl ?_
                  exact k_fin rfl rfl ⟨⟨_, rfl, ⟨_, rfl, _, rfl⟩⟩, I159⟩
            · refine k_c2 97 rfl rfl (if_neg b104) ?_
              refine k_aload 98 rfl (gs_ne rfl rfl (gs_ne rfl rfl g0)) rfl ?_
              refine k_cl (W' := w_X6_beginAtom) rfl (c_X6_beginAtom I100.1 o0) rfl rfl rfl (I100.1.rc o0 rfl) I100 (by decide) (okL_set (i := 2) (v := .inl x103) rfl L101) so_n ?_
              rintro w163 h164 c165 s166 hv I167 L168 F169
              cases hv
              show am_Ok _ _ _ (101, _, [], h164, c165, s166) _
              refine k_aload 102 rfl (gs_ne rfl rfl (gs_ne rfl rfl g0)) rfl ?_
              obtain ⟨fs170, u171, e172, f173, t174⟩ := I167.1.get o0 (k := 1) rfl rfl
              obtain ⟨i175, rfl, o176⟩ := t174
              refine k_get 105 rfl e172 f173 rfl ?_
              refine k_iload 106 rfl gs_eq rfl ?_
              refine k_push 107 rfl rfl ?_
              by_cases b177 : x103 = (-1 : Int32)
              · refine k_c2 110 rfl rfl (if_pos b177) ?_
                refine k_push 112 rfl rfl ?_
                refine k_iload 113 rfl (gs_ne rfl rfl gs_eq) rfl ?_
                obtain ⟨x178, q179⟩ : ∃ q : Int32, q = ((-11 : Int32) - x71) := ⟨_, rfl⟩
                refine k_bin x178 114 rfl q179.symm rfl ?_
                refine k_goto 120 rfl rfl ?_
                refine k_cl (W' := []) rfl ((rw_add (W := []) I167.1 (Or.inl o176)).imp (fun _ z => z.1)) rfl rfl rfl (I167.1.rc3 (Or.inl o176)) I167 (by decide) L168 so_n ?_
                rintro w180 h181 c182 s183 hv I184 L185 F186
                obtain ⟨_, rfl, x187, rfl, z188⟩ := hv
                show am_Ok _ _ _ (123, _, [.inl x187], h181, c182, s183) _
                refine k_pop 124 rfl rfl rfl ?_
                refine k_aload 125 rfl (gs_ne rfl rfl (gs_ne rfl rfl g0)) rfl ?_
                refine k_push 126 rfl rfl ?_
                obtain ⟨fs189, u190, e191, f192, t193⟩ := I184.1.get o0 (k := 6) rfl rfl
                refine k_put 129 rfl e191 rfl (List.getElem?_eq_some_iff.mp f192).1 rfl ?_
                obtain ⟨h194, E197, I195, l198⟩ := I184.put (v := .inl (4 : Int32)) o0 rfl e191 (k := 6) rfl (show ty_V 0 (.inl (4 : Int32)) from ⟨_, rfl⟩) (by decide) rfl
                rw [E197]
                have L196 := okL_eq l198 L185
                refine k_push 130 rfl rfl ?_
                exact k_fin rfl rfl ⟨⟨_, rfl, ⟨_, rfl, _, rfl⟩⟩, I195⟩
              · refine k_c2 117 rfl rfl (if_neg b177) ?_
                refine k_push 118 rfl rfl ?_
                refine k_iload 119 rfl gs_eq rfl ?_
                obtain ⟨x199, q200⟩ : ∃ q : Int32, q = ((2 : Int32) + x103) := ⟨_, rfl⟩
                refine k_bin x199 120 rfl q200.symm rfl ?_
                refine k_cl (W' := []) rfl ((rw_add (W := []) I167.1 (Or.inl o176)).imp (fun _ z => z.1)) rfl rfl rfl (I167.1.rc3 (Or.inl o176)) I167 (by decide) L168 so_n ?_
                rintro w201 h202 c203 s204 hv I205 L206 F207
                obtain ⟨_, rfl, x208, rfl, z209⟩ := hv
                show am_Ok _ _ _ (123, _, [.inl x208], h202, c203, s204) _
                refine k_pop 124 rfl rfl rfl ?_
                refine k_aload 125 rfl (gs_ne rfl rfl (gs_ne rfl rfl g0)) rfl ?_
                refine k_push 126 rfl rfl ?_
                obtain ⟨fs210, u211, e212, f213, t214⟩ := I205.1.get o0 (k := 6) rfl rfl
                refine k_put 129 rfl e212 rfl (List.getElem?_eq_some_iff.mp f213).1 rfl ?_
                obtain ⟨h215, E218, I216, l219⟩ := I205.put (v := .inl (4 : Int32)) o0 rfl e212 (k := 6) rfl (show ty_V 0 (.inl (4 : Int32)) from ⟨_, rfl⟩) (by decide) rfl
                rw [E218]
                have L217 := okL_eq l219 L206
                refine k_push 130 rfl rfl ?_
                exact k_fin rfl rfl ⟨⟨_, rfl, ⟨_, rfl, _, rfl⟩⟩, I216⟩
          · refine k_c1 65 rfl rfl (if_neg b95) ?_
            refine k_aload 66 rfl (gs_ne rfl rfl g0) rfl ?_
            refine k_iload 67 rfl gs_eq rfl ?_
            refine k_push 68 rfl rfl ?_
            by_cases b220 : x71 = (-1 : Int32)
            · refine k_c2 75 rfl rfl (if_pos b220) ?_
              refine k_push 76 rfl rfl ?_
              refine k_cl (W' := w_X6_takeNewName) rfl (c_X6_takeNewName I90.1 o0) rfl rfl rfl (I90.1.rc o0 rfl) I90 (by decide) L91 so_n ?_
              rintro w221 h222 c223 s224 hv I225 L226 F227
              obtain ⟨_, rfl, x228, rfl⟩ := hv
              show am_Ok _ _ _ (79, _, [.inl x228], h222, c223, s224) _
              exact k_fin rfl rfl ⟨⟨_, rfl, ⟨_, rfl, _, rfl⟩⟩, I225⟩
            · refine k_c2 71 rfl rfl (if_neg b220) ?_
              refine k_push 72 rfl rfl ?_
              refine k_goto 76 rfl rfl ?_
              refine k_cl (W' := w_X6_takeNewName) rfl (c_X6_takeNewName I90.1 o0) rfl rfl rfl (I90.1.rc o0 rfl) I90 (by decide) L91 so_n ?_
              rintro w229 h230 c231 s232 hv I233 L234 F235
              obtain ⟨_, rfl, x236, rfl⟩ := hv
              show am_Ok _ _ _ (79, _, [.inl x236], h230, c231, s232) _
              exact k_fin rfl rfl ⟨⟨_, rfl, ⟨_, rfl, _, rfl⟩⟩, I233⟩
        · refine k_c1 80 rfl rfl (if_neg b78) ?_
          refine k_aload 81 rfl (gs_ne rfl rfl g0) rfl ?_
          refine k_cl (W' := w_X6_functionOfWord) rfl (c_X6_functionOfWord I68.1 o0) rfl rfl rfl (I68.1.rc o0 rfl) I68 (by decide) (okL_set (i := 1) (v := .inl x71) rfl L69) so_n ?_
          rintro w237 h238 c239 s240 hv I241 L242 F243
          obtain ⟨_, rfl, x244, rfl⟩ := hv
          show am_Ok _ _ _ (84, _, [.inl x244], h238, c239, s240) _
          refine k_istore 85 rfl rfl ?_
          refine k_iload 86 rfl gs_eq rfl ?_
          refine k_push 87 rfl rfl ?_
          by_cases b245 : x244 = (-1 : Int32)
          · refine k_c2 90 rfl rfl (if_pos b245) ?_
            refine k_iload 91 rfl (gs_ne rfl rfl gs_eq) rfl ?_
            refine k_push 92 rfl rfl ?_
            by_cases b246 : x71 = (-1 : Int32)
            · refine k_c2 95 rfl rfl (if_pos b246) ?_
              refine k_push 96 rfl rfl ?_
              exact k_fin rfl rfl ⟨⟨_, rfl, ⟨_, rfl, _, rfl⟩⟩, I241⟩
            · refine k_c2 97 rfl rfl (if_neg b246) ?_
              refine k_aload 98 rfl (gs_ne rfl rfl (gs_ne rfl rfl g0)) rfl ?_
              refine k_cl (W' := w_X6_beginAtom) rfl (c_X6_beginAtom I241.1 o0) rfl rfl rfl (I241.1.rc o0 rfl) I241 (by decide) (okL_set (i := 2) (v := .inl x244) rfl L242) so_n ?_
              rintro w247 h248 c249 s250 hv I251 L252 F253
              cases hv
              show am_Ok _ _ _ (101, _, [], h248, c249, s250) _
              refine k_aload 102 rfl (gs_ne rfl rfl (gs_ne rfl rfl g0)) rfl ?_
              obtain ⟨fs254, u255, e256, f257, t258⟩ := I251.1.get o0 (k := 1) rfl rfl
              obtain ⟨i259, rfl, o260⟩ := t258
              refine k_get 105 rfl e256 f257 rfl ?_
              refine k_iload 106 rfl gs_eq rfl ?_
              refine k_push 107 rfl rfl ?_
              by_cases b261 : x244 = (-1 : Int32)
              · refine k_c2 110 rfl rfl (if_pos b261) ?_
                refine k_push 112 rfl rfl ?_
                refine k_iload 113 rfl (gs_ne rfl rfl gs_eq) rfl ?_
                obtain ⟨x262, q263⟩ : ∃ q : Int32, q = ((-11 : Int32) - x71) := ⟨_, rfl⟩
                refine k_bin x262 114 rfl q263.symm rfl ?_
                refine k_goto 120 rfl rfl ?_
                refine k_cl (W' := []) rfl ((rw_add (W := []) I251.1 (Or.inl o260)).imp (fun _ z => z.1)) rfl rfl rfl (I251.1.rc3 (Or.inl o260)) I251 (by decide) L252 so_n ?_
                rintro w264 h265 c266 s267 hv I268 L269 F270
                obtain ⟨_, rfl, x271, rfl, z272⟩ := hv
                show am_Ok _ _ _ (123, _, [.inl x271], h265, c266, s267) _
                refine k_pop 124 rfl rfl rfl ?_
                refine k_aload 125 rfl (gs_ne rfl rfl (gs_ne rfl rfl g0)) rfl ?_
                refine k_push 126 rfl rfl ?_
                obtain ⟨fs273, u274, e275, f276, t277⟩ := I268.1.get o0 (k := 6) rfl rfl
                refine k_put 129 rfl e275 rfl (List.getElem?_eq_some_iff.mp f276).1 rfl ?_
                obtain ⟨h278, E281, I279, l282⟩ := I268.put (v := .inl (4 : Int32)) o0 rfl e275 (k := 6) rfl (show ty_V 0 (.inl (4 : Int32)) from ⟨_, rfl⟩) (by decide) rfl
                rw [E281]
                have L280 := okL_eq l282 L269
                refine k_push 130 rfl rfl ?_
                exact k_fin rfl rfl ⟨⟨_, rfl, ⟨_, rfl, _, rfl⟩⟩, I279⟩
              · refine k_c2 117 rfl rfl (if_neg b261) ?_
                refine k_push 118 rfl rfl ?_
                refine k_iload 119 rfl gs_eq rfl ?_
                obtain ⟨x283, q284⟩ : ∃ q : Int32, q = ((2 : Int32) + x244) := ⟨_, rfl⟩
                refine k_bin x283 120 rfl q284.symm rfl ?_
                refine k_cl (W' := []) rfl ((rw_add (W := []) I251.1 (Or.inl o260)).imp (fun _ z => z.1)) rfl rfl rfl (I251.1.rc3 (Or.inl o260)) I251 (by decide) L252 so_n ?_
                rintro w285 h286 c287 s288 hv I289 L290 F291
                obtain ⟨_, rfl, x292, rfl, z293⟩ := hv
                show am_Ok _ _ _ (123, _, [.inl x292], h286, c287, s288) _
                refine k_pop 124 rfl rfl rfl ?_
                refine k_aload 125 rfl (gs_ne rfl rfl (gs_ne rfl rfl g0)) rfl ?_
                refine k_push 126 rfl rfl ?_
                obtain ⟨fs294, u295, e296, f297, t298⟩ := I289.1.get o0 (k := 6) rfl rfl
                refine k_put 129 rfl e296 rfl (List.getElem?_eq_some_iff.mp f297).1 rfl ?_
                obtain ⟨h299, E302, I300, l303⟩ := I289.put (v := .inl (4 : Int32)) o0 rfl e296 (k := 6) rfl (show ty_V 0 (.inl (4 : Int32)) from ⟨_, rfl⟩) (by decide) rfl
                rw [E302]
                have L301 := okL_eq l303 L290
                refine k_push 130 rfl rfl ?_
                exact k_fin rfl rfl ⟨⟨_, rfl, ⟨_, rfl, _, rfl⟩⟩, I300⟩
          · refine k_c2 97 rfl rfl (if_neg b245) ?_
            refine k_aload 98 rfl (gs_ne rfl rfl (gs_ne rfl rfl g0)) rfl ?_
            refine k_cl (W' := w_X6_beginAtom) rfl (c_X6_beginAtom I241.1 o0) rfl rfl rfl (I241.1.rc o0 rfl) I241 (by decide) (okL_set (i := 2) (v := .inl x244) rfl L242) so_n ?_
            rintro w304 h305 c306 s307 hv I308 L309 F310
            cases hv
            show am_Ok _ _ _ (101, _, [], h305, c306, s307) _
            refine k_aload 102 rfl (gs_ne rfl rfl (gs_ne rfl rfl g0)) rfl ?_
            obtain ⟨fs311, u312, e313, f314, t315⟩ := I308.1.get o0 (k := 1) rfl rfl
            obtain ⟨i316, rfl, o317⟩ := t315
            refine k_get 105 rfl e313 f314 rfl ?_
            refine k_iload 106 rfl gs_eq rfl ?_
            refine k_push 107 rfl rfl ?_
            by_cases b318 : x244 = (-1 : Int32)
            · refine k_c2 110 rfl rfl (if_pos b318) ?_
              refine k_push 112 rfl rfl ?_
              refine k_iload 113 rfl (gs_ne rfl rfl gs_eq) rfl ?_
              obtain ⟨x319, q320⟩ : ∃ q : Int32, q = ((-11 : Int32) - x71) := ⟨_, rfl⟩
              refine k_bin x319 114 rfl q320.symm rfl ?_
              refine k_goto 120 rfl rfl ?_
              refine k_cl (W' := []) rfl ((rw_add (W := []) I308.1 (Or.inl o317)).imp (fun _ z => z.1)) rfl rfl rfl (I308.1.rc3 (Or.inl o317)) I308 (by decide) L309 so_n ?_
              rintro w321 h322 c323 s324 hv I325 L326 F327
              obtain ⟨_, rfl, x328, rfl, z329⟩ := hv
              show am_Ok _ _ _ (123, _, [.inl x328], h322, c323, s324) _
              refine k_pop 124 rfl rfl rfl ?_
              refine k_aload 125 rfl (gs_ne rfl rfl (gs_ne rfl rfl g0)) rfl ?_
              refine k_push 126 rfl rfl ?_
              obtain ⟨fs330, u331, e332, f333, t334⟩ := I325.1.get o0 (k := 6) rfl rfl
              refine k_put 129 rfl e332 rfl (List.getElem?_eq_some_iff.mp f333).1 rfl ?_
              obtain ⟨h335, E338, I336, l339⟩ := I325.put (v := .inl (4 : Int32)) o0 rfl e332 (k := 6) rfl (show ty_V 0 (.inl (4 : Int32)) from ⟨_, rfl⟩) (by decide) rfl
              rw [E338]
              have L337 := okL_eq l339 L326
              refine k_push 130 rfl rfl ?_
              exact k_fin rfl rfl ⟨⟨_, rfl, ⟨_, rfl, _, rfl⟩⟩, I336⟩
            · refine k_c2 117 rfl rfl (if_neg b318) ?_
              refine k_push 118 rfl rfl ?_
              refine k_iload 119 rfl gs_eq rfl ?_
              obtain ⟨x340, q341⟩ : ∃ q : Int32, q = ((2 : Int32) + x244) := ⟨_, rfl⟩
              refine k_bin x340 120 rfl q341.symm rfl ?_
              refine k_cl (W' := []) rfl ((rw_add (W := []) I308.1 (Or.inl o317)).imp (fun _ z => z.1)) rfl rfl rfl (I308.1.rc3 (Or.inl o317)) I308 (by decide) L309 so_n ?_
              rintro w342 h343 c344 s345 hv I346 L347 F348
              obtain ⟨_, rfl, x349, rfl, z350⟩ := hv
              show am_Ok _ _ _ (123, _, [.inl x349], h343, c344, s345) _
              refine k_pop 124 rfl rfl rfl ?_
              refine k_aload 125 rfl (gs_ne rfl rfl (gs_ne rfl rfl g0)) rfl ?_
              refine k_push 126 rfl rfl ?_
              obtain ⟨fs351, u352, e353, f354, t355⟩ := I346.1.get o0 (k := 6) rfl rfl
              refine k_put 129 rfl e353 rfl (List.getElem?_eq_some_iff.mp f354).1 rfl ?_
              obtain ⟨h356, E359, I357, l360⟩ := I346.put (v := .inl (4 : Int32)) o0 rfl e353 (k := 6) rfl (show ty_V 0 (.inl (4 : Int32)) from ⟨_, rfl⟩) (by decide) rfl
              rw [E359]
              have L358 := okL_eq l360 L347
              refine k_push 130 rfl rfl ?_
              exact k_fin rfl rfl ⟨⟨_, rfl, ⟨_, rfl, _, rfl⟩⟩, I357⟩
  · refine k_c2 20 rfl rfl (if_neg b33) ?_
    refine k_push 21 rfl rfl ?_
    exact k_fin rfl rfl ⟨⟨_, rfl, ⟨_, rfl, _, rfl⟩⟩, I27⟩
theorem c_X6_takeWord {h : am_h} {v0 : Nat} (hT : ty_H h) (o0 : ob 6 v0) : am_Mt 5 89 [.inr (.inr (some v0))] h (ty_Q w_X6_takeWord 2 (ob_P h) h) := am_Mt.of (b_X6_takeWord rfl o0 (okA_r hT o0 okA_n) (ob_I.start hT))
abbrev w_X7_sort : List (Nat × Nat) := []
theorem b_X7_sort {B : Nat} {h0 : am_h} {lv : am_l} {h : am_h} {c s : Nat} {v0 : Nat} (g0 : am_get lv 0 = some (.inr (.inr (some v0)))) (o0 : ob 7 v0) (hL : am_okL h.length lv = true) (hI : ob_I w_X7_sort B h0 h c s) : am_Ok am_G 0 106 (0, lv, [], h, c, s) (ty_Q w_X7_sort 2 B h0) := by
  refine k_aload 1 rfl g0 rfl ?_
  obtain ⟨fs1, u2, e3, f4, t5⟩ := hI.1.get o0 (k := 1) rfl rfl
  obtain ⟨x6, rfl⟩ := t5
  refine k_get 4 rfl e3 f4 rfl ?_
  exact k_fin rfl rfl ⟨⟨_, rfl, ⟨_, rfl, _, rfl⟩⟩, hI⟩
theorem c_X7_sort {h : am_h} {v0 : Nat} (hT : ty_H h) (o0 : ob 7 v0) : am_Mt 1 106 [.inr (.inr (some v0))] h (ty_Q w_X7_sort 2 (ob_P h) h) := am_Mt.of (b_X7_sort rfl o0 (okA_r hT o0 okA_n) (ob_I.start hT))
abbrev w_X6_take : List (Nat × Nat) := [(6, 6), (6, 7), (6, 8), (6, 9), (6, 10), (6, 11), (7, 1), (7, 2), (7, 3)]
theorem b_X6_take {B : Nat} {h0 : am_h} {lv : am_l} {h : am_h} {c s : Nat} {v0 : Nat} (g0 : am_get lv 0 = some (.inr (.inr (some v0)))) (o0 : ob 6 v0) (hL : am_okL h.length lv = true) (hI : ob_I w_X6_take B h0 h c s) : am_Ok am_G 5 88 (0, lv, [], h, c, s) (ty_Q w_X6_take 2 B h0) := by
  refine k_aload 1 rfl g0 rfl ?_
  obtain ⟨fs1, u2, e3, f4, t5⟩ := hI.1.get o0 (k := 0) rfl rfl
  obtain ⟨i6, rfl, o7⟩ := t5
  refine k_get 4 rfl e3 f4 rfl ?_
  refine k_cl (W' := w_X7_sort) rfl (c_X7_sort hI.1 o7) rfl rfl rfl (hI.1.rc o7 rfl) hI (by decide) hL so_n ?_
  rintro w8 h9 c10 s11 hv I12 L13 F14
  obtain ⟨_, rfl, x15, rfl⟩ := hv
  show am_Ok _ _ _ (7, _, [.inl x15], h9, c10, s11) _
  by_cases b16 : x15.toInt = 0
  · refine k_sw 115 rfl (by simp only [am_lk]; rw [if_pos b16]) ?_
    refine k_aload 116 rfl g0 rfl ?_
    refine k_cl (W' := w_X6_isWhole) rfl (c_X6_isWhole I12.1 o0) rfl rfl rfl (I12.1.rc o0 rfl) I12 (by decide) L13 so_n ?_
    rintro w17 h18 c19 s20 hv I21 L22 F23
    obtain ⟨_, rfl, x24, rfl, z25⟩ := hv
    show am_Ok _ _ _ (119, _, [.inl x24], h18, c19, s20) _
    by_cases b26 : x24 = 0
    · refine k_c1 133 rfl rfl (if_pos b26) ?_
      refine k_push 134 rfl rfl ?_
      exact k_fin rfl rfl ⟨⟨_, rfl, ⟨_, rfl, _, rfl⟩⟩, I21⟩
    · refine k_c1 122 rfl rfl (if_neg b26) ?_
      refine k_aload 123 rfl g0 rfl ?_
      obtain ⟨fs27, u28, e29, f30, t31⟩ := I21.1.get o0 (k := 11) rfl rfl
      obtain ⟨x32, rfl, z33⟩ := t31
      refine k_get 126 rfl e29 f30 rfl ?_
      by_cases b34 : x32 = 0
      · refine k_c1 129 rfl rfl (if_pos b34) ?_
        refine k_push 130 rfl rfl ?_
        refine k_goto 134 rfl rfl ?_
        exact k_fin rfl rfl ⟨⟨_, rfl, ⟨_, rfl, _, rfl⟩⟩, I21⟩
      · refine k_c1 133 rfl rfl (if_neg b34) ?_
        refine k_push 134 rfl rfl ?_
        exact k_fin rfl rfl ⟨⟨_, rfl, ⟨_, rfl, _, rfl⟩⟩, I21⟩
  by_cases b35 : x15.toInt = 40
  · refine k_sw 90 rfl (by simp only [am_lk]; rw [if_neg b16, if_pos b35]) ?_
    refine k_aload 91 rfl g0 rfl ?_
    refine k_cl (W' := w_X6_takeOpening) rfl (c_X6_takeOpening I12.1 o0) rfl rfl rfl (I12.1.rc o0 rfl) I12 (by decide) L13 so_n ?_
    rintro w36 h37 c38 s39 hv I40 L41 F42
    obtain ⟨_, rfl, x43, rfl⟩ := hv
    show am_Ok _ _ _ (94, _, [.inl x43], h37, c38, s39) _
    exact k_fin rfl rfl ⟨⟨_, rfl, ⟨_, rfl, _, rfl⟩⟩, I40⟩
  by_cases b44 : x15.toInt = 41
  · refine k_sw 95 rfl (by simp only [am_lk]; rw [if_neg b16, if_neg b35, if_pos b44]) ?_
    refine k_aload 96 rfl g0 rfl ?_
    refine k_cl (W' := w_X6_takeClosing) rfl (c_X6_takeClosing I12.1 o0) rfl rfl rfl (I12.1.rc o0 rfl) I12 (by decide) L13 so_n ?_
    rintro w45 h46 c47 s48 hv I49 L50 F51
    obtain ⟨_, rfl, x52, rfl⟩ := hv
    show am_Ok _ _ _ (99, _, [.inl x52], h46, c47, s48) _
    exact k_fin rfl rfl ⟨⟨_, rfl, ⟨_, rfl, _, rfl⟩⟩, I49⟩
  by_cases b53 : x15.toInt = 46
  · refine k_sw 105 rfl (by simp only [am_lk]; rw [if_neg b16, if_neg b35, if_neg b44, if_pos b53]) ?_
    refine k_aload 106 rfl g0 rfl ?_
    refine k_cl (W' := w_X6_takePoint) rfl (c_X6_takePoint I12.1 o0) rfl rfl rfl (I12.1.rc o0 rfl) I12 (by decide) L13 so_n ?_
    rintro w54 h55 c56 s57 hv I58 L59 F60
    obtain ⟨_, rfl, x61, rfl⟩ := hv
    show am_Ok _ _ _ (109, _, [.inl x61], h55, c56, s57) _
    exact k_fin rfl rfl ⟨⟨_, rfl, ⟨_, rfl, _, rfl⟩⟩, I58⟩
  by_cases b62 : x15.toInt = 48
  · refine k_sw 85 rfl (by simp only [am_lk]; rw [if_neg b16, if_neg b35, if_neg b44, if_neg b53, if_pos b62]) ?_
    refine k_aload 86 rfl g0 rfl ?_
    refine k_cl (W' := w_X6_takeNumber) rfl (c_X6_takeNumber I12.1 o0) rfl rfl rfl (I12.1.rc o0 rfl) I12 (by decide) L13 so_n ?_
    rintro w63 h64 c65 s66 hv I67 L68 F69
    obtain ⟨_, rfl, x70, rfl⟩ := hv
    show am_Ok _ _ _ (89, _, [.inl x70], h64, c65, s66) _
    exact k_fin rfl rfl ⟨⟨_, rfl, ⟨_, rfl, _, rfl⟩⟩, I67⟩
  by_cases b71 : x15.toInt = 59
  · refine k_sw 110 rfl (by simp only [am_lk]; rw [if_neg b16, if_neg b35, if_neg b44, if_neg b53, if_neg b62, if_pos b71]) ?_
    refine k_aload 111 rfl g0 rfl ?_
    refine k_cl (W' := w_X6_takeSemicolon) rfl (c_X6_takeSemicolon I12.1 o0) rfl rfl rfl (I12.1.rc o0 rfl) I12 (by decide) L13 so_n ?_
    rintro w72 h73 c74 s75 hv I76 L77 F78
    obtain ⟨_, rfl, x79, rfl⟩ := hv
    show am_Ok _ _ _ (114, _, [.inl x79], h73, c74, s75) _
    exact k_fin rfl rfl ⟨⟨_, rfl, ⟨_, rfl, _, rfl⟩⟩, I76⟩
  by_cases b80 : x15.toInt = 92
  · refine k_sw 100 rfl (by simp only [am_lk]; rw [if_neg b16, if_neg b35, if_neg b44, if_neg b53, if_neg b62, if_neg b71, if_pos b80]) ?_
    refine k_aload 101 rfl g0 rfl ?_
    refine k_cl (W' := w_X6_takeFunction) rfl (c_X6_takeFunction I12.1 o0) rfl rfl rfl (I12.1.rc o0 rfl) I12 (by decide) L13 so_n ?_
    rintro w81 h82 c83 s84 hv I85 L86 F87
    obtain ⟨_, rfl, x88, rfl⟩ := hv
    show am_Ok _ _ _ (104, _, [.inl x88], h82, c83, s84) _
    exact k_fin rfl rfl ⟨⟨_, rfl, ⟨_, rfl, _, rfl⟩⟩, I85⟩
  by_cases b89 : x15.toInt = 97
  · refine k_sw 80 rfl (by simp only [am_lk]; rw [if_neg b16, if_neg b35, if_neg b44, if_neg b53, if_neg b62, if_neg b71, if_neg b80, if_pos b89]) ?_
    refine k_aload 81 rfl g0 rfl ?_
    refine k_cl (W' := w_X6_takeWord) rfl (c_X6_takeWord I12.1 o0) rfl rfl rfl (I12.1.rc o0 rfl) I12 (by decide) L13 so_n ?_
    rintro w90 h91 c92 s93 hv I94 L95 F96
    obtain ⟨_, rfl, x97, rfl⟩ := hv
    show am_Ok _ _ _ (84, _, [.inl x97], h91, c92, s93) _
    exact k_fin rfl rfl ⟨⟨_, rfl, ⟨_, rfl, _, rfl⟩⟩, I94⟩
  refine k_sw 135 rfl (by simp only [am_lk]; rw [if_neg b16, if_neg b35, if_neg b44, if_neg b53, if_neg b62, if_neg b71, if_neg b80, if_neg b89]) ?_
  refine k_push 136 rfl rfl ?_
  exact k_fin rfl rfl ⟨⟨_, rfl, ⟨_, rfl, _, rfl⟩⟩, I12⟩
theorem c_X6_take {h : am_h} {v0 : Nat} (hT : ty_H h) (o0 : ob 6 v0) : am_Mt 6 88 [.inr (.inr (some v0))] h (ty_Q w_X6_take 2 (ob_P h) h) := am_Mt.of (b_X6_take rfl o0 (okA_r hT o0 okA_n) (ob_I.start hT))
abbrev w_X7_begin : List (Nat × Nat) := [(7, 1), (7, 2), (7, 3)]
theorem b_X7_begin {B : Nat} {h0 : am_h} {lv : am_l} {h : am_h} {c s : Nat} {v0 : Nat} (g0 : am_get lv 0 = some (.inr (.inr (some v0)))) (o0 : ob 7 v0) (hL : am_okL h.length lv = true) (hI : ob_I w_X7_begin B h0 h c s) : am_Ok am_G 0 105 (0, lv, [], h, c, s) (ty_Q w_X7_begin 0 B h0) := by
  refine k_aload 1 rfl g0 rfl ?_
  refine k_push 2 rfl rfl ?_
  obtain ⟨fs1, u2, e3, f4, t5⟩ := hI.1.get o0 (k := 1) rfl rfl
  refine k_put 5 rfl e3 rfl (List.getElem?_eq_some_iff.mp f4).1 rfl ?_
  obtain ⟨h6, E9, I7, l10⟩ := hI.put (v := .inl (0 : Int32)) o0 rfl e3 (k := 1) rfl (show ty_V 0 (.inl (0 : Int32)) from ⟨_, rfl⟩) (by decide) rfl
  rw [E9]
  have L8 := okL_eq l10 hL
  refine k_aload 6 rfl g0 rfl ?_
  refine k_push 7 rfl rfl ?_
  obtain ⟨fs11, u12, e13, f14, t15⟩ := I7.1.get o0 (k := 2) rfl rfl
  refine k_put 10 rfl e13 rfl (List.getElem?_eq_some_iff.mp f14).1 rfl ?_
  obtain ⟨h16, E19, I17, l20⟩ := I7.put (v := .inl (0 : Int32)) o0 rfl e13 (k := 2) rfl (show ty_V 0 (.inl (0 : Int32)) from ⟨_, rfl⟩) (by decide) rfl
  rw [E19]
  have L18 := okL_eq l20 L8
  refine k_aload 11 rfl g0 rfl ?_
  refine k_push 12 rfl rfl ?_
  obtain ⟨fs21, u22, e23, f24, t25⟩ := I17.1.get o0 (k := 3) rfl rfl
  refine k_put 15 rfl e23 rfl (List.getElem?_eq_some_iff.mp f24).1 rfl ?_
  obtain ⟨h26, E29, I27, l30⟩ := I17.put (v := .inl (0 : Int32)) o0 rfl e23 (k := 3) rfl (show ty_V 0 (.inl (0 : Int32)) from ⟨_, rfl⟩) (by decide) rfl
  rw [E29]
  have L28 := okL_eq l30 L18
  exact k_fin rfl rfl ⟨⟨_, rfl, rfl⟩, I27⟩
theorem c_X7_begin {h : am_h} {v0 : Nat} (hT : ty_H h) (o0 : ob 7 v0) : am_Mt 1 105 [.inr (.inr (some v0))] h (ty_Q w_X7_begin 0 (ob_P h) h) := am_Mt.of (b_X7_begin rfl o0 (okA_r hT o0 okA_n) (ob_I.start hT))
abbrev w_X6_findFault : List (Nat × Nat) := [(6, 6), (6, 7), (6, 8), (6, 9), (6, 10), (6, 11), (7, 1), (7, 2), (7, 3)]
theorem b_X6_findFault_47 {B : Nat} {h0 : am_h} : ∀ (n : Nat) {lv : am_l} {h : am_h} {c s : Nat} {v0 : Nat} {v1 : Int32} , up_m v1 = n → am_get lv 0 = some (.inr (.inr (some v0))) → ob 6 v0 → am_get lv 1 = some (.inl v1) → am_okL h.length lv = true → ob_I w_X6_findFault B h0 h c s → am_Ok am_G 6 84 (47, lv, [], h, c, s) (ty_Q w_X6_findFault 2 B h0) := by
  intro n
  induction n using Nat.strongRecOn with
  | ind n ih =>
    intro lv h c s v0 v1 hn g0 o0 g1 hL hI
    refine k_iload 48 rfl g1 rfl ?_
    refine k_push 51 rfl rfl ?_
    by_cases b1 : (700 : Int32) < v1
    · refine k_c2 88 rfl rfl (if_pos b1) ?_
      refine k_push 89 rfl rfl ?_
      exact k_fin rfl rfl ⟨⟨_, rfl, ⟨_, rfl, _, rfl⟩⟩, hI⟩
    · refine k_c2 54 rfl rfl (if_neg b1) ?_
      refine k_aload 55 rfl g0 rfl ?_
      obtain ⟨fs2, u3, e4, f5, t6⟩ := hI.1.get o0 (k := 0) rfl rfl
      obtain ⟨i7, rfl, o8⟩ := t6
      refine k_get 58 rfl e4 f5 rfl ?_
      refine k_cl (W' := w_X7_advance) rfl (c_X7_advance hI.1 o8) rfl rfl rfl (hI.1.rc o8 rfl) hI (by decide) hL so_n ?_
      rintro w9 h10 c11 s12 hv I13 L14 F15
      cases hv
      show am_Ok _ _ _ (61, _, [], h10, c11, s12) _
      refine k_aload 62 rfl g0 rfl ?_
      refine k_cl (W' := w_X6_take) rfl (c_X6_take I13.1 o0) rfl rfl rfl (I13.1.rc o0 rfl) I13 (by decide) L14 so_n ?_
      rintro w16 h17 c18 s19 hv I20 L21 F22
      obtain ⟨_, rfl, x23, rfl⟩ := hv
      show am_Ok _ _ _ (65, _, [.inl x23], h17, c18, s19) _
      refine k_istore 66 rfl rfl ?_
      refine k_iload 67 rfl gs_eq rfl ?_
      by_cases b24 : x23 = 0
      · refine k_c1 70 rfl rfl (if_pos b24) ?_
        refine k_aload 71 rfl (gs_ne rfl rfl g0) rfl ?_
        obtain ⟨fs25, u26, e27, f28, t29⟩ := I20.1.get o0 (k := 0) rfl rfl
        obtain ⟨i30, rfl, o31⟩ := t29
        refine k_get 74 rfl e27 f28 rfl ?_
        refine k_cl (W' := w_X7_sort) rfl (c_X7_sort I20.1 o31) rfl rfl rfl (I20.1.rc o31 rfl) I20 (by decide) (okL_set (i := 2) (v := .inl x23) rfl L21) so_n ?_
        rintro w32 h33 c34 s35 hv I36 L37 F38
        obtain ⟨_, rfl, x39, rfl⟩ := hv
        show am_Ok _ _ _ (77, _, [.inl x39], h33, c34, s35) _
        by_cases b40 : x39 = 0
        · refine k_c1 80 rfl rfl (if_pos b40) ?_
          refine k_iload 81 rfl gs_eq rfl ?_
          exact k_fin rfl rfl ⟨⟨_, rfl, ⟨_, rfl, _, rfl⟩⟩, I36⟩
        · refine k_c1 82 rfl rfl (if_neg b40) ?_
          refine k_iinc (v1 + 1) 85 rfl (gs_ne rfl rfl g1) rfl rfl ?_
          refine k_goto 47 rfl rfl ?_
          exact ih _ (by rw [← hn]; exact up_lt' b1 (by decide)) rfl (gs_ne rfl rfl (gs_ne rfl rfl g0)) o0 gs_eq (okL_set (i := 1) (v := .inl (v1 + 1)) rfl L37) I36
      · refine k_c1 80 rfl rfl (if_neg b24) ?_
        refine k_iload 81 rfl gs_eq rfl ?_
        exact k_fin rfl rfl ⟨⟨_, rfl, ⟨_, rfl, _, rfl⟩⟩, I20⟩
theorem b_X6_findFault {B : Nat} {h0 : am_h} {lv : am_l} {h : am_h} {c s : Nat} {v0 : Nat} (g0 : am_get lv 0 = some (.inr (.inr (some v0)))) (o0 : ob 6 v0) (hL : am_okL h.length lv = true) (hI : ob_I w_X6_findFault B h0 h c s) : am_Ok am_G 6 84 (0, lv, [], h, c, s) (ty_Q w_X6_findFault 2 B h0) := by
  refine k_aload 1 rfl g0 rfl ?_
  obtain ⟨fs41, u42, e43, f44, t45⟩ := hI.1.get o0 (k := 0) rfl rfl
  obtain ⟨i46, rfl, o47⟩ := t45
  refine k_get 4 rfl e43 f44 rfl ?_
  refine k_cl (W' := w_X7_begin) rfl (c_X7_begin hI.1 o47) rfl rfl rfl (hI.1.rc o47 rfl) hI (by decide) hL so_n ?_
  rintro w48 h49 c50 s51 hv I52 L53 F54
  cases hv
  show am_Ok _ _ _ (7, _, [], h49, c50, s51) _
  refine k_aload 8 rfl g0 rfl ?_
  obtain ⟨fs55, u56, e57, f58, t59⟩ := I52.1.get o0 (k := 1) rfl rfl
  obtain ⟨i60, rfl, o61⟩ := t59
  refine k_get 11 rfl e57 f58 rfl ?_
  refine k_push 12 rfl rfl ?_
  refine k_cl (W' := []) rfl (rw_cut (W := []) I52.1 (Or.inl o61)) rfl rfl rfl (I52.1.rc3 (Or.inl o61)) I52 (by decide) L53 so_n ?_
  rintro w62 h63 c64 s65 hv I66 L67 F68
  cases hv
  show am_Ok _ _ _ (15, _, [], h63, c64, s65) _
  refine k_aload 16 rfl g0 rfl ?_
  obtain ⟨fs69, u70, e71, f72, t73⟩ := I66.1.get o0 (k := 2) rfl rfl
  obtain ⟨i74, rfl, o75⟩ := t73
  refine k_get 19 rfl e71 f72 rfl ?_
  refine k_push 20 rfl rfl ?_
  refine k_cl (W' := []) rfl (rw_cut (W := []) I66.1 (Or.inl o75)) rfl rfl rfl (I66.1.rc3 (Or.inl o75)) I66 (by decide) L67 so_n ?_
  rintro w76 h77 c78 s79 hv I80 L81 F82
  cases hv
  show am_Ok _ _ _ (23, _, [], h77, c78, s79) _
  refine k_aload 24 rfl g0 rfl ?_
  obtain ⟨fs83, u84, e85, f86, t87⟩ := I80.1.get o0 (k := 4) rfl rfl
  obtain ⟨i88, rfl, o89⟩ := t87
  refine k_get 27 rfl e85 f86 rfl ?_
  refine k_push 28 rfl rfl ?_
  refine k_cl (W' := []) rfl (rw_cut (W := []) I80.1 (Or.inl o89)) rfl rfl rfl (I80.1.rc3 (Or.inl o89)) I80 (by decide) L81 so_n ?_
  rintro w90 h91 c92 s93 hv I94 L95 F96
  cases hv
  show am_Ok _ _ _ (31, _, [], h91, c92, s93) _
  refine k_aload 32 rfl g0 rfl ?_
  refine k_push 33 rfl rfl ?_
  obtain ⟨fs97, u98, e99, f100, t101⟩ := I94.1.get o0 (k := 10) rfl rfl
  refine k_put 36 rfl e99 rfl (List.getElem?_eq_some_iff.mp f100).1 rfl ?_
  obtain ⟨h102, E105, I103, l106⟩ := I94.put (v := .inl (0 : Int32)) o0 rfl e99 (k := 10) rfl (show ty_V 0 (.inl (0 : Int32)) from ⟨_, rfl⟩) (by decide) rfl
  rw [E105]
  have L104 := okL_eq l106 L95
  refine k_aload 37 rfl g0 rfl ?_
  refine k_push 38 rfl rfl ?_
  obtain ⟨fs107, u108, e109, f110, t111⟩ := I103.1.get o0 (k := 11) rfl rfl
  refine k_put 41 rfl e109 (okZ_of (Or.inl rfl)) (List.getElem?_eq_some_iff.mp f110).1 rfl ?_
  obtain ⟨h112, E115, I113, l116⟩ := I103.put (v := .inl (0 : Int32)) o0 rfl e109 (k := 11) rfl (show ty_V 1 (.inl (0 : Int32)) from ⟨_, rfl, (Or.inl rfl)⟩) (by decide) rfl
  rw [E115]
  have L114 := okL_eq l116 L104
  refine k_aload 42 rfl g0 rfl ?_
  refine k_cl (W' := w_X6_beginItem) rfl (c_X6_beginItem I113.1 o0) rfl rfl rfl (I113.1.rc o0 rfl) I113 (by decide) L114 so_n ?_
  rintro w117 h118 c119 s120 hv I121 L122 F123
  cases hv
  show am_Ok _ _ _ (45, _, [], h118, c119, s120) _
  refine k_push 46 rfl rfl ?_
  refine k_istore 47 rfl rfl ?_
  exact b_X6_findFault_47 _ rfl (gs_ne rfl rfl g0) o0 gs_eq (okL_set (i := 1) (v := .inl (0 : Int32)) rfl L122) I121
theorem c_X6_findFault {h : am_h} {v0 : Nat} (hT : ty_H h) (o0 : ob 6 v0) : am_Mt 7 84 [.inr (.inr (some v0))] h (ty_Q w_X6_findFault 2 (ob_P h) h) := am_Mt.of (b_X6_findFault rfl o0 (okA_r hT o0 okA_n) (ob_I.start hT))
abbrev w_X6_putNumber : List (Nat × Nat) := []
theorem b_X6_putNumber_14 {B : Nat} {h0 : am_h} : ∀ (n : Nat) {lv : am_l} {h : am_h} {c s : Nat} {v0 : Int32} {v1 : Nat} {v2 : Int32} , up_m v2 = n → am_get lv 0 = some (.inl v0) → am_get lv 1 = some (.inr (.inr (some v1))) → ob 3 v1 → am_get lv 2 = some (.inl v2) → am_okL h.length lv = true → ob_I w_X6_putNumber B h0 h c s → am_Ok am_G 2 86 (14, lv, [], h, c, s) (ty_Q w_X6_putNumber 0 B h0) := by
  intro n
  induction n using Nat.strongRecOn with
  | ind n ih =>
    intro lv h c s v0 v1 v2 hn g0 g1 o1 g2 hL hI
    refine k_iload 15 rfl g2 rfl ?_
    refine k_iload 16 rfl g0 rfl ?_
    by_cases b1 : v0 ≤ v2
    · refine k_c2 37 rfl rfl (if_pos b1) ?_
      refine k_aload 38 rfl g1 rfl ?_
      refine k_push 39 rfl rfl ?_
      refine k_cl (W' := []) rfl ((rw_add (W := []) hI.1 (Or.inl o1)).imp (fun _ z => z.1)) rfl rfl rfl (hI.1.rc3 (Or.inl o1)) hI (by decide) hL so_n ?_
      rintro w2 h3 c4 s5 hv I6 L7 F8
      obtain ⟨_, rfl, x9, rfl, z10⟩ := hv
      show am_Ok _ _ _ (42, _, [.inl x9], h3, c4, s5) _
      refine k_pop 43 rfl rfl rfl ?_
      exact k_fin rfl rfl ⟨⟨_, rfl, rfl⟩, I6⟩
    · refine k_c2 19 rfl rfl (if_neg b1) ?_
      refine k_aload 20 rfl g1 rfl ?_
      refine k_push 21 rfl rfl ?_
      refine k_cl (W' := []) rfl ((rw_add (W := []) hI.1 (Or.inl o1)).imp (fun _ z => z.1)) rfl rfl rfl (hI.1.rc3 (Or.inl o1)) hI (by decide) hL so_n ?_
      rintro w11 h12 c13 s14 hv I15 L16 F17
      obtain ⟨_, rfl, x18, rfl, z19⟩ := hv
      show am_Ok _ _ _ (24, _, [.inl x18], h12, c13, s14) _
      refine k_pop 25 rfl rfl rfl ?_
      refine k_aload 26 rfl g1 rfl ?_
      refine k_push 27 rfl rfl ?_
      refine k_cl (W' := []) rfl ((rw_add (W := []) I15.1 (Or.inl o1)).imp (fun _ z => z.1)) rfl rfl rfl (I15.1.rc3 (Or.inl o1)) I15 (by decide) L16 so_n ?_
      rintro w20 h21 c22 s23 hv I24 L25 F26
      obtain ⟨_, rfl, x27, rfl, z28⟩ := hv
      show am_Ok _ _ _ (30, _, [.inl x27], h21, c22, s23) _
      refine k_pop 31 rfl rfl rfl ?_
      refine k_iinc (v2 + 1) 34 rfl g2 rfl rfl ?_
      refine k_goto 14 rfl rfl ?_
      exact ih _ (by rw [← hn]; exact up_lt b1) rfl (gs_ne rfl rfl g0) (gs_ne rfl rfl g1) o1 gs_eq (okL_set (i := 2) (v := .inl (v2 + 1)) rfl L25) I24
theorem b_X6_putNumber {B : Nat} {h0 : am_h} {lv : am_l} {h : am_h} {c s : Nat} {v0 : Int32} {v1 : Nat} (g0 : am_get lv 0 = some (.inl v0)) (g1 : am_get lv 1 = some (.inr (.inr (some v1)))) (o1 : ob 3 v1) (hL : am_okL h.length lv = true) (hI : ob_I w_X6_putNumber B h0 h c s) : am_Ok am_G 2 86 (0, lv, [], h, c, s) (ty_Q w_X6_putNumber 0 B h0) := by
  refine k_aload 1 rfl g1 rfl ?_
  refine k_push 2 rfl rfl ?_
  refine k_cl (W' := []) rfl ((rw_add (W := []) hI.1 (Or.inl o1)).imp (fun _ z => z.1)) rfl rfl rfl (hI.1.rc3 (Or.inl o1)) hI (by decide) hL so_n ?_
  rintro w29 h30 c31 s32 hv I33 L34 F35
  obtain ⟨_, rfl, x36, rfl, z37⟩ := hv
  show am_Ok _ _ _ (5, _, [.inl x36], h30, c31, s32) _
  refine k_pop 6 rfl rfl rfl ?_
  refine k_aload 7 rfl g1 rfl ?_
  refine k_push 8 rfl rfl ?_
  refine k_cl (W' := []) rfl ((rw_add (W := []) I33.1 (Or.inl o1)).imp (fun _ z => z.1)) rfl rfl rfl (I33.1.rc3 (Or.inl o1)) I33 (by decide) L34 so_n ?_
  rintro w38 h39 c40 s41 hv I42 L43 F44
  obtain ⟨_, rfl, x45, rfl, z46⟩ := hv
  show am_Ok _ _ _ (11, _, [.inl x45], h39, c40, s41) _
  refine k_pop 12 rfl rfl rfl ?_
  refine k_push 13 rfl rfl ?_
  refine k_istore 14 rfl rfl ?_
  exact b_X6_putNumber_14 _ rfl (gs_ne rfl rfl g0) (gs_ne rfl rfl g1) o1 gs_eq (okL_set (i := 2) (v := .inl (0 : Int32)) rfl L43) I42
theorem c_X6_putNumber {h : am_h} {v0 : Int32} {v1 : Nat} (hT : ty_H h) (o1 : ob 3 v1) : am_Mt 3 86 [.inl v0, .inr (.inr (some v1))] h (ty_Q w_X6_putNumber 0 (ob_P h) h) := am_Mt.of (b_X6_putNumber rfl rfl o1 (okA_i (okA_r hT o1 okA_n)) (ob_I.start hT))
abbrev w_X6_putTerm : List (Nat × Nat) := []
theorem b_X6_putTerm_51 {B : Nat} {h0 : am_h} : ∀ (n : Nat) {lv : am_l} {h : am_h} {c s : Nat} {v0 : Nat} {v1 : Nat} {v2 : Int32} {v3 : Int32} {v4 : Int32} , up_m v4 = n → am_get lv 0 = some (.inr (.inr (some v0))) → ob 6 v0 → am_get lv 1 = some (.inr (.inr (some v1))) → ob 3 v1 → am_get lv 2 = some (.inl v2) → am_get lv 3 = some (.inl v3) → am_get lv 4 = some (.inl v4) → am_okL h.length lv = true → ob_I w_X6_putTerm B h0 h c s → am_Ok am_G 3 85 (51, lv, [], h, c, s) (ty_Q w_X6_putTerm 3 B h0) := by
  intro n
  induction n using Nat.strongRecOn with
  | ind n ih =>
    intro lv h c s v0 v1 v2 v3 v4 hn g0 o0 g1 o1 g2 g3 g4 hL hI
    refine k_iload 53 rfl g4 rfl ?_
    refine k_push 56 rfl rfl ?_
    by_cases b1 : (12000 : Int32) ≤ v4
    · refine k_c2 199 rfl rfl (if_pos b1) ?_
      refine k_push 200 rfl rfl ?_
      exact k_fin rfl (fin_Z (Or.inl rfl)) ⟨⟨_, rfl, ⟨_, rfl, _, rfl, (Or.inl rfl)⟩⟩, hI⟩
    · refine k_c2 59 rfl rfl (if_neg b1) ?_
      refine k_iload 60 rfl g2 rfl ?_
      refine k_iload 61 rfl g3 rfl ?_
      by_cases b2 : v2 < v3
      · refine k_c2 95 rfl rfl (if_pos b2) ?_
        refine k_aload 96 rfl g0 rfl ?_
        obtain ⟨fs3, u4, e5, f6, t7⟩ := hI.1.get o0 (k := 1) rfl rfl
        obtain ⟨i8, rfl, o9⟩ := t7
        refine k_get 99 rfl e5 f6 rfl ?_
        refine k_iload 100 rfl g2 rfl ?_
        refine k_cl (W' := []) rfl (rw_get hI.1 (Or.inl o9)) rfl rfl rfl (hI.1.rc3 (Or.inl o9)) hI (by decide) hL so_n ?_
        rintro w10 h11 c12 s13 hv I14 L15 F16
        obtain ⟨_, rfl, x17, rfl⟩ := hv
        show am_Ok _ _ _ (103, _, [.inl x17], h11, c12, s13) _
        refine k_istore 105 rfl rfl ?_
        refine k_iinc (v2 + 1) 108 rfl (gs_ne rfl rfl g2) rfl rfl ?_
        refine k_iload 110 rfl (gs_ne rfl rfl gs_eq) rfl ?_
        refine k_push 111 rfl rfl ?_
        by_cases b18 : x17 ≤ (-1 : Int32)
        · refine k_c2 124 rfl rfl (if_pos b18) ?_
          refine k_iload 126 rfl (gs_ne rfl rfl gs_eq) rfl ?_
          refine k_push 128 rfl rfl ?_
          by_cases b19 : x17 ≤ (-11 : Int32)
          · refine k_c2 142 rfl rfl (if_pos b19) ?_
            refine k_aload 143 rfl (gs_ne rfl rfl (gs_ne rfl rfl g0)) rfl ?_
            obtain ⟨fs20, u21, e22, f23, t24⟩ := I14.1.get o0 (k := 5) rfl rfl
            obtain ⟨i25, rfl, o26⟩ := t24
            refine k_get 146 rfl e22 f23 rfl ?_
            refine k_iload 147 rfl gs_eq rfl ?_
            refine k_cl (W' := []) rfl ((rw_add (W := []) I14.1 (Or.inl o26)).imp (fun _ z => z.1)) rfl rfl rfl (I14.1.rc3 (Or.inl o26)) I14 (by decide) (okL_set (i := 2) (v := .inl (v2 + 1)) rfl (okL_set (i := 5) (v := .inl x17) rfl L15)) so_n ?_
            rintro w27 h28 c29 s30 hv I31 L32 F33
            obtain ⟨_, rfl, x34, rfl, z35⟩ := hv
            show am_Ok _ _ _ (150, _, [.inl x34], h28, c29, s30) _
            refine k_pop 151 rfl rfl rfl ?_
            refine k_aload 152 rfl (gs_ne rfl rfl (gs_ne rfl rfl g0)) rfl ?_
            obtain ⟨fs36, u37, e38, f39, t40⟩ := I31.1.get o0 (k := 5) rfl rfl
            obtain ⟨i41, rfl, o42⟩ := t40
            refine k_get 155 rfl e38 f39 rfl ?_
            refine k_iload 156 rfl (gs_ne rfl rfl (gs_ne rfl rfl g3)) rfl ?_
            refine k_cl (W' := []) rfl ((rw_add (W := []) I31.1 (Or.inl o42)).imp (fun _ z => z.1)) rfl rfl rfl (I31.1.rc3 (Or.inl o42)) I31 (by decide) L32 so_n ?_
            rintro w43 h44 c45 s46 hv I47 L48 F49
            obtain ⟨_, rfl, x50, rfl, z51⟩ := hv
            show am_Ok _ _ _ (159, _, [.inl x50], h44, c45, s46) _
            refine k_pop 160 rfl rfl rfl ?_
            refine k_push 161 rfl rfl ?_
            refine k_push 163 rfl rfl ?_
            refine k_iload 165 rfl (gs_ne rfl rfl gs_eq) rfl ?_
            obtain ⟨x52, q53⟩ : ∃ q : Int32, q = ((-11 : Int32) - x17) := ⟨_, rfl⟩
            refine k_bin x52 166 rfl q53.symm rfl ?_
            obtain ⟨x54, q55⟩ : ∃ q : Int32, q = ((5 : Int32) * x52) := ⟨_, rfl⟩
            refine k_bin x54 167 rfl q55.symm rfl ?_
            refine k_istore 169 rfl rfl ?_
            refine k_aload 170 rfl (gs_ne rfl rfl (gs_ne rfl rfl (gs_ne rfl rfl g0))) rfl ?_
            obtain ⟨fs56, u57, e58, f59, t60⟩ := I47.1.get o0 (k := 2) rfl rfl
            obtain ⟨i61, rfl, o62⟩ := t60
            refine k_get 173 rfl e58 f59 rfl ?_
            refine k_iload 175 rfl gs_eq rfl ?_
            refine k_push 176 rfl rfl ?_
            obtain ⟨x63, q64⟩ : ∃ q : Int32, q = (x54 + (2 : Int32)) := ⟨_, rfl⟩
            refine k_bin x63 177 rfl q64.symm rfl ?_
            refine k_cl (W' := []) rfl (rw_get I47.1 (Or.inl o62)) rfl rfl rfl (I47.1.rc3 (Or.inl o62)) I47 (by decide) (okL_set (i := 6) (v := .inl x54) rfl L48) so_n ?_
            rintro w65 h66 c67 s68 hv I69 L70 F71
            obtain ⟨_, rfl, x72, rfl⟩ := hv
            show am_Ok _ _ _ (180, _, [.inl x72], h66, c67, s68) _
            refine k_istore 181 rfl rfl ?_
            refine k_aload 182 rfl (gs_ne rfl rfl (gs_ne rfl rfl (gs_ne rfl rfl (gs_ne rfl rfl g0)))) rfl ?_
            obtain ⟨fs73, u74, e75, f76, t77⟩ := I69.1.get o0 (k := 2) rfl rfl
            obtain ⟨i78, rfl, o79⟩ := t77
            refine k_get 185 rfl e75 f76 rfl ?_
            refine k_iload 187 rfl (gs_ne rfl rfl gs_eq) rfl ?_
            refine k_push 188 rfl rfl ?_
            obtain ⟨x80, q81⟩ : ∃ q : Int32, q = (x54 + (3 : Int32)) := ⟨_, rfl⟩
            refine k_bin x80 189 rfl q81.symm rfl ?_
            refine k_cl (W' := []) rfl (rw_get I69.1 (Or.inl o79)) rfl rfl rfl (I69.1.rc3 (Or.inl o79)) I69 (by decide) (okL_set (i := 2) (v := .inl x72) rfl L70) so_n ?_
            rintro w82 h83 c84 s85 hv I86 L87 F88
            obtain ⟨_, rfl, x89, rfl⟩ := hv
            show am_Ok _ _ _ (192, _, [.inl x89], h83, c84, s85) _
            refine k_istore 193 rfl rfl ?_
            refine k_iinc (v4 + 1) 196 rfl (gs_ne rfl rfl (gs_ne rfl rfl (gs_ne rfl rfl (gs_ne rfl rfl (gs_ne rfl rfl g4))))) rfl rfl ?_
            refine k_goto 51 rfl rfl ?_
            exact ih _ (by rw [← hn]; exact up_lt b1) rfl (gs_ne rfl rfl (gs_ne rfl rfl (gs_ne rfl rfl (gs_ne rfl rfl (gs_ne rfl rfl (gs_ne rfl rfl g0)))))) o0 (gs_ne rfl rfl (gs_ne rfl rfl (gs_ne rfl rfl (gs_ne rfl rfl (gs_ne rfl rfl (gs_ne rfl rfl g1)))))) o1 (gs_ne rfl rfl (gs_ne rfl rfl gs_eq)) (gs_ne rfl rfl gs_eq) gs_eq (okL_set (i := 4) (v := .inl (v4 + 1)) rfl (okL_set (i := 3) (v := .inl x89) rfl L87)) I86
          · refine k_c2 131 rfl rfl (if_neg b19) ?_
            refine k_push 132 rfl rfl ?_
            refine k_iload 134 rfl (gs_ne rfl rfl gs_eq) rfl ?_
            obtain ⟨x90, q91⟩ : ∃ q : Int32, q = ((-1 : Int32) - x17) := ⟨_, rfl⟩
            refine k_bin x90 135 rfl q91.symm rfl ?_
            refine k_aload 136 rfl (gs_ne rfl rfl (gs_ne rfl rfl g1)) rfl ?_
            refine k_cl (W' := w_X6_putNumber) rfl (c_X6_putNumber I14.1 o1) rfl rfl rfl rfl I14 (by decide) (okL_set (i := 2) (v := .inl (v2 + 1)) rfl (okL_set (i := 5) (v := .inl x17) rfl L15)) so_n ?_
            rintro w92 h93 c94 s95 hv I96 L97 F98
            cases hv
            show am_Ok _ _ _ (139, _, [], h93, c94, s95) _
            refine k_goto 193 rfl rfl ?_
            refine k_iinc (v4 + 1) 196 rfl (gs_ne rfl rfl (gs_ne rfl rfl g4)) rfl rfl ?_
            refine k_goto 51 rfl rfl ?_
            exact ih _ (by rw [← hn]; exact up_lt b1) rfl (gs_ne rfl rfl (gs_ne rfl rfl (gs_ne rfl rfl g0))) o0 (gs_ne rfl rfl (gs_ne rfl rfl (gs_ne rfl rfl g1))) o1 (gs_ne rfl rfl gs_eq) (gs_ne rfl rfl (gs_ne rfl rfl (gs_ne rfl rfl g3))) gs_eq (okL_set (i := 4) (v := .inl (v4 + 1)) rfl L97) I96
        · refine k_c2 114 rfl rfl (if_neg b18) ?_
          refine k_aload 115 rfl (gs_ne rfl rfl (gs_ne rfl rfl g1)) rfl ?_
          refine k_iload 117 rfl (gs_ne rfl rfl gs_eq) rfl ?_
          refine k_cl (W' := []) rfl ((rw_add (W := []) I14.1 (Or.inl o1)).imp (fun _ z => z.1)) rfl rfl rfl (I14.1.rc3 (Or.inl o1)) I14 (by decide) (okL_set (i := 2) (v := .inl (v2 + 1)) rfl (okL_set (i := 5) (v := .inl x17) rfl L15)) so_n ?_
          rintro w99 h100 c101 s102 hv I103 L104 F105
          obtain ⟨_, rfl, x106, rfl, z107⟩ := hv
          show am_Ok _ _ _ (120, _, [.inl x106], h100, c101, s102) _
          refine k_pop 121 rfl rfl rfl ?_
          refine k_goto 193 rfl rfl ?_
          refine k_iinc (v4 + 1) 196 rfl (gs_ne rfl rfl (gs_ne rfl rfl g4)) rfl rfl ?_
          refine k_goto 51 rfl rfl ?_
          exact ih _ (by rw [← hn]; exact up_lt b1) rfl (gs_ne rfl rfl (gs_ne rfl rfl (gs_ne rfl rfl g0))) o0 (gs_ne rfl rfl (gs_ne rfl rfl (gs_ne rfl rfl g1))) o1 (gs_ne rfl rfl gs_eq) (gs_ne rfl rfl (gs_ne rfl rfl (gs_ne rfl rfl g3))) gs_eq (okL_set (i := 4) (v := .inl (v4 + 1)) rfl L104) I103
      · refine k_c2 64 rfl rfl (if_neg b2) ?_
        refine k_aload 65 rfl g0 rfl ?_
        obtain ⟨fs108, u109, e110, f111, t112⟩ := hI.1.get o0 (k := 5) rfl rfl
        obtain ⟨i113, rfl, o114⟩ := t112
        refine k_get 68 rfl e110 f111 rfl ?_
        refine k_cl (W' := []) rfl (rw_size hI.1 (Or.inl o114)) rfl rfl rfl (hI.1.rc3 (Or.inl o114)) hI (by decide) hL so_n ?_
        rintro w115 h116 c117 s118 hv I119 L120 F121
        obtain ⟨_, rfl, x122, rfl⟩ := hv
        show am_Ok _ _ _ (71, _, [.inl x122], h116, c117, s118) _
        by_cases b123 : x122 = 0
        · refine k_c1 74 rfl rfl (if_pos b123) ?_
          refine k_push 75 rfl rfl ?_
          exact k_fin rfl (fin_Z (Or.inr rfl)) ⟨⟨_, rfl, ⟨_, rfl, _, rfl, (Or.inr rfl)⟩⟩, I119⟩
        · refine k_c1 76 rfl rfl (if_neg b123) ?_
          refine k_aload 77 rfl g0 rfl ?_
          obtain ⟨fs124, u125, e126, f127, t128⟩ := I119.1.get o0 (k := 5) rfl rfl
          obtain ⟨i129, rfl, o130⟩ := t128
          refine k_get 80 rfl e126 f127 rfl ?_
          refine k_cl (W' := []) rfl (rw_takeLast I119.1 o130) rfl rfl rfl (I119.1.rc3 (Or.inl o130)) I119 (by decide) L120 so_n ?_
          rintro w131 h132 c133 s134 hv I135 L136 F137
          obtain ⟨_, rfl, x138, rfl⟩ := hv
          show am_Ok _ _ _ (83, _, [.inl x138], h132, c133, s134) _
          refine k_istore 84 rfl rfl ?_
          refine k_aload 85 rfl (gs_ne rfl rfl g0) rfl ?_
          obtain ⟨fs139, u140, e141, f142, t143⟩ := I135.1.get o0 (k := 5) rfl rfl
          obtain ⟨i144, rfl, o145⟩ := t143
          refine k_get 88 rfl e141 f142 rfl ?_
          refine k_cl (W' := []) rfl (rw_takeLast I135.1 o145) rfl rfl rfl (I135.1.rc3 (Or.inl o145)) I135 (by decide) (okL_set (i := 3) (v := .inl x138) rfl L136) so_n ?_
          rintro w146 h147 c148 s149 hv I150 L151 F152
          obtain ⟨_, rfl, x153, rfl⟩ := hv
          show am_Ok _ _ _ (91, _, [.inl x153], h147, c148, s149) _
          refine k_istore 92 rfl rfl ?_
          refine k_goto 193 rfl rfl ?_
          refine k_iinc (v4 + 1) 196 rfl (gs_ne rfl rfl (gs_ne rfl rfl g4)) rfl rfl ?_
          refine k_goto 51 rfl rfl ?_
          exact ih _ (by rw [← hn]; exact up_lt b1) rfl (gs_ne rfl rfl (gs_ne rfl rfl (gs_ne rfl rfl g0))) o0 (gs_ne rfl rfl (gs_ne rfl rfl (gs_ne rfl rfl g1))) o1 (gs_ne rfl rfl gs_eq) (gs_ne rfl rfl (gs_ne rfl rfl gs_eq)) gs_eq (okL_set (i := 4) (v := .inl (v4 + 1)) rfl (okL_set (i := 2) (v := .inl x153) rfl L151)) I150
theorem b_X6_putTerm {B : Nat} {h0 : am_h} {lv : am_l} {h : am_h} {c s : Nat} {v0 : Nat} {v1 : Nat} (g0 : am_get lv 0 = some (.inr (.inr (some v0)))) (o0 : ob 6 v0) (g1 : am_get lv 1 = some (.inr (.inr (some v1)))) (o1 : ob 3 v1) (hL : am_okL h.length lv = true) (hI : ob_I w_X6_putTerm B h0 h c s) : am_Ok am_G 3 85 (0, lv, [], h, c, s) (ty_Q w_X6_putTerm 3 B h0) := by
  refine k_aload 1 rfl g1 rfl ?_
  refine k_push 2 rfl rfl ?_
  refine k_cl (W' := []) rfl (rw_cut (W := []) hI.1 (Or.inl o1)) rfl rfl rfl (hI.1.rc3 (Or.inl o1)) hI (by decide) hL so_n ?_
  rintro w154 h155 c156 s157 hv I158 L159 F160
  cases hv
  show am_Ok _ _ _ (5, _, [], h155, c156, s157) _
  refine k_aload 6 rfl g0 rfl ?_
  refine k_aload 7 rfl g0 rfl ?_
  obtain ⟨fs161, u162, e163, f164, t165⟩ := I158.1.get o0 (k := 9) rfl rfl
  obtain ⟨x166, rfl⟩ := t165
  refine k_get 10 rfl e163 f164 rfl ?_
  refine k_aload 11 rfl g0 rfl ?_
  obtain ⟨fs167, u168, e169, f170, t171⟩ := I158.1.get o0 (k := 1) rfl rfl
  obtain ⟨i172, rfl, o173⟩ := t171
  refine k_get 14 rfl e169 f170 rfl ?_
  refine k_cl (W' := []) rfl (rw_size I158.1 (Or.inl o173)) rfl rfl rfl (I158.1.rc3 (Or.inl o173)) I158 (by decide) L159 (so_i (so_r I158 o0 so_n)) ?_
  rintro w174 h175 c176 s177 hv I178 L179 F180
  obtain ⟨_, rfl, x181, rfl⟩ := hv
  show am_Ok _ _ _ (17, _, [.inl x181, .inl x166, .inr (.inr (some v0))], h175, c176, s177) _
  refine k_cl (W' := w_X6_partsOf) rfl (c_X6_partsOf I178.1 o0) rfl rfl rfl (I178.1.rc o0 rfl) I178 (by decide) L179 so_n ?_
  rintro w182 h183 c184 s185 hv I186 L187 F188
  obtain ⟨_, rfl, x189, rfl⟩ := hv
  show am_Ok _ _ _ (20, _, [.inl x189], h183, c184, s185) _
  refine k_push 22 rfl rfl ?_
  by_cases b190 : x189 ≤ (120 : Int32)
  · refine k_c2 27 rfl rfl (if_pos b190) ?_
    refine k_aload 28 rfl g0 rfl ?_
    obtain ⟨fs191, u192, e193, f194, t195⟩ := I186.1.get o0 (k := 5) rfl rfl
    obtain ⟨i196, rfl, o197⟩ := t195
    refine k_get 31 rfl e193 f194 rfl ?_
    refine k_push 32 rfl rfl ?_
    refine k_cl (W' := []) rfl (rw_cut (W := []) I186.1 (Or.inl o197)) rfl rfl rfl (I186.1.rc3 (Or.inl o197)) I186 (by decide) L187 so_n ?_
    rintro w198 h199 c200 s201 hv I202 L203 F204
    cases hv
    show am_Ok _ _ _ (35, _, [], h199, c200, s201) _
    refine k_aload 36 rfl g0 rfl ?_
    obtain ⟨fs205, u206, e207, f208, t209⟩ := I202.1.get o0 (k := 9) rfl rfl
    obtain ⟨x210, rfl⟩ := t209
    refine k_get 39 rfl e207 f208 rfl ?_
    refine k_istore 40 rfl rfl ?_
    refine k_aload 41 rfl (gs_ne rfl rfl g0) rfl ?_
    obtain ⟨fs211, u212, e213, f214, t215⟩ := I202.1.get o0 (k := 1) rfl rfl
    obtain ⟨i216, rfl, o217⟩ := t215
    refine k_get 44 rfl e213 f214 rfl ?_
    refine k_cl (W' := []) rfl (rw_size I202.1 (Or.inl o217)) rfl rfl rfl (I202.1.rc3 (Or.inl o217)) I202 (by decide) (okL_set (i := 2) (v := .inl x210) rfl L203) so_n ?_
    rintro w218 h219 c220 s221 hv I222 L223 F224
    obtain ⟨_, rfl, x225, rfl⟩ := hv
    show am_Ok _ _ _ (47, _, [.inl x225], h219, c220, s221) _
    refine k_istore 48 rfl rfl ?_
    refine k_push 49 rfl rfl ?_
    refine k_istore 51 rfl rfl ?_
    exact b_X6_putTerm_51 _ rfl (gs_ne rfl rfl (gs_ne rfl rfl (gs_ne rfl rfl g0))) o0 (gs_ne rfl rfl (gs_ne rfl rfl (gs_ne rfl rfl g1))) o1 (gs_ne rfl rfl (gs_ne rfl rfl gs_eq)) (gs_ne rfl rfl gs_eq) gs_eq (okL_set (i := 4) (v := .inl (0 : Int32)) rfl (okL_set (i := 3) (v := .inl x225) rfl L223)) I222
  · refine k_c2 25 rfl rfl (if_neg b190) ?_
    refine k_push 26 rfl rfl ?_
    exact k_fin rfl (fin_Z (Or.inl rfl)) ⟨⟨_, rfl, ⟨_, rfl, _, rfl, (Or.inl rfl)⟩⟩, I186⟩
theorem c_X6_putTerm {h : am_h} {v0 : Nat} {v1 : Nat} (hT : ty_H h) (o0 : ob 6 v0) (o1 : ob 3 v1) : am_Mt 4 85 [.inr (.inr (some v0)), .inr (.inr (some v1))] h (ty_Q w_X6_putTerm 3 (ob_P h) h) := am_Mt.of (b_X6_putTerm rfl o0 rfl o1 (okA_r hT o0 (okA_r hT o1 okA_n)) (ob_I.start hT))
end
