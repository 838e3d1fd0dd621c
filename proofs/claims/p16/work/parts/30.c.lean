section
abbrev w_X1_make : List (Nat × Nat) := [(1, 4), (1, 5), (1, 6), (1, 7)]
theorem b_X1_make_5 {B : Nat} {h0 : am_h} : ∀ (n : Nat) {lv : am_l} {h : am_h} {c s : Nat} {v0 : Nat} {v1 : Int32} {v2 : Int32} {v3 : Int32} , up_m v3 = n → am_get lv 0 = some (.inr (.inr (some v0))) → ob 1 v0 → am_get lv 1 = some (.inl v1) → am_get lv 2 = some (.inl v2) → am_get lv 3 = some (.inl v3) → am_okL h.length lv = true → ob_I w_X1_make B h0 h c s → am_Ok am_G 1 18 (5, lv, [], h, c, s) (ty_Q w_X1_make 2 B h0) := by
  intro n
  induction n using Nat.strongRecOn with
  | ind n ih =>
    intro lv h c s v0 v1 v2 v3 hn g0 o0 g1 g2 g3 hL hI
    refine k_iload 6 rfl g3 rfl ?_
    refine k_push 9 rfl rfl ?_
    by_cases b1 : (400 : Int32) ≤ v3
    · refine k_c2 81 rfl rfl (if_pos b1) ?_
      refine k_aload 82 rfl g0 rfl ?_
      refine k_push 83 rfl rfl ?_
      obtain ⟨fs2, u3, e4, f5, t6⟩ := hI.1.get o0 (k := 7) rfl rfl
      refine k_put 86 rfl e4 (okZ_of (Or.inr rfl)) (List.getElem?_eq_some_iff.mp f5).1 rfl ?_
      obtain ⟨h7, E10, I8, l11⟩ := hI.put (v := .inl (1 : Int32)) o0 rfl e4 (k := 7) rfl (show ty_V 1 (.inl (1 : Int32)) from ⟨_, rfl, (Or.inr rfl)⟩) (by decide) rfl
      rw [E10]
      have L9 := okL_eq l11 hL
      refine k_push 87 rfl rfl ?_
      exact k_fin rfl rfl ⟨⟨_, rfl, ⟨_, rfl, _, rfl⟩⟩, I8⟩
    · refine k_c2 12 rfl rfl (if_neg b1) ?_
      refine k_aload 13 rfl g0 rfl ?_
      obtain ⟨fs12, u13, e14, f15, t16⟩ := hI.1.get o0 (k := 0) rfl rfl
      obtain ⟨i17, rfl, o18⟩ := t16
      refine k_get 16 rfl e14 f15 rfl ?_
      refine k_iload 17 rfl g3 rfl ?_
      refine k_cl (W' := []) rfl (rw_get hI.1 (Or.inl o18)) rfl rfl rfl (hI.1.rc3 (Or.inl o18)) hI (by decide) hL so_n ?_
      rintro w19 h20 c21 s22 hv I23 L24 F25
      obtain ⟨_, rfl, x26, rfl⟩ := hv
      show am_Ok _ _ _ (20, _, [.inl x26], h20, c21, s22) _
      refine k_push 21 rfl rfl ?_
      by_cases b27 : x26 = (-1 : Int32)
      · refine k_c2 24 rfl rfl (if_pos b27) ?_
        refine k_aload 25 rfl g0 rfl ?_
        obtain ⟨fs28, u29, e30, f31, t32⟩ := I23.1.get o0 (k := 0) rfl rfl
        obtain ⟨i33, rfl, o34⟩ := t32
        refine k_get 28 rfl e30 f31 rfl ?_
        refine k_iload 29 rfl g3 rfl ?_
        refine k_iload 30 rfl g1 rfl ?_
        refine k_cl (W' := []) rfl (rw_set I23.1 o34) rfl rfl rfl (I23.1.rc3 (Or.inl o34)) I23 (by decide) L24 so_n ?_
        rintro w35 h36 c37 s38 hv I39 L40 F41
        cases hv
        show am_Ok _ _ _ (33, _, [], h36, c37, s38) _
        refine k_aload 34 rfl g0 rfl ?_
        obtain ⟨fs42, u43, e44, f45, t46⟩ := I39.1.get o0 (k := 1) rfl rfl
        obtain ⟨i47, rfl, o48⟩ := t46
        refine k_get 37 rfl e44 f45 rfl ?_
        refine k_iload 38 rfl g3 rfl ?_
        refine k_iload 39 rfl g2 rfl ?_
        refine k_cl (W' := []) rfl (rw_set I39.1 o48) rfl rfl rfl (I39.1.rc3 (Or.inl o48)) I39 (by decide) L40 so_n ?_
        rintro w49 h50 c51 s52 hv I53 L54 F55
        cases hv
        show am_Ok _ _ _ (42, _, [], h50, c51, s52) _
        refine k_aload 43 rfl g0 rfl ?_
        refine k_dup 44 rfl rfl rfl ?_
        obtain ⟨fs56, u57, e58, f59, t60⟩ := I53.1.get o0 (k := 4) rfl rfl
        obtain ⟨x61, rfl⟩ := t60
        refine k_get 47 rfl e58 f59 rfl ?_
        refine k_push 48 rfl rfl ?_
        obtain ⟨x62, q63⟩ : ∃ q : Int32, q = (x61 + (1 : Int32)) := ⟨_, rfl⟩
        refine k_bin x62 49 rfl q63.symm rfl ?_
        obtain ⟨fs64, u65, e66, f67, t68⟩ := I53.1.get o0 (k := 4) rfl rfl
        refine k_put 52 rfl e66 rfl (List.getElem?_eq_some_iff.mp f67).1 rfl ?_
        obtain ⟨h69, E72, I70, l73⟩ := I53.put (v := .inl x62) o0 rfl e66 (k := 4) rfl (show ty_V 0 (.inl x62) from ⟨_, rfl⟩) (by decide) rfl
        rw [E72]
        have L71 := okL_eq l73 L54
        refine k_aload 53 rfl g0 rfl ?_
        refine k_iload 54 rfl g3 rfl ?_
        refine k_push 55 rfl rfl ?_
        obtain ⟨x74, q75⟩ : ∃ q : Int32, q = (v3 + (1 : Int32)) := ⟨_, rfl⟩
        refine k_bin x74 56 rfl q75.symm rfl ?_
        obtain ⟨fs76, u77, e78, f79, t80⟩ := I70.1.get o0 (k := 5) rfl rfl
        refine k_put 59 rfl e78 rfl (List.getElem?_eq_some_iff.mp f79).1 rfl ?_
        obtain ⟨h81, E84, I82, l85⟩ := I70.put (v := .inl x74) o0 rfl e78 (k := 5) rfl (show ty_V 0 (.inl x74) from ⟨_, rfl⟩) (by decide) rfl
        rw [E84]
        have L83 := okL_eq l85 L71
        refine k_aload 60 rfl g0 rfl ?_
        refine k_aload 61 rfl g0 rfl ?_
        obtain ⟨fs86, u87, e88, f89, t90⟩ := I82.1.get o0 (k := 6) rfl rfl
        obtain ⟨x91, rfl⟩ := t90
        refine k_get 64 rfl e88 f89 rfl ?_
        refine k_iload 65 rfl g3 rfl ?_
        refine k_push 66 rfl rfl ?_
        obtain ⟨x92, q93⟩ : ∃ q : Int32, q = (v3 + (1 : Int32)) := ⟨_, rfl⟩
        refine k_bin x92 67 rfl q93.symm rfl ?_
        obtain ⟨x94, q95⟩ : ∃ q : Int32, q = (if x91 < x92 then x92 else x91) := ⟨_, rfl⟩
        refine k_mathZ x94 70 rfl rfl q95.symm rfl ?_
        obtain ⟨fs96, u97, e98, f99, t100⟩ := I82.1.get o0 (k := 6) rfl rfl
        refine k_put 73 rfl e98 rfl (List.getElem?_eq_some_iff.mp f99).1 rfl ?_
        obtain ⟨h101, E104, I102, l105⟩ := I82.put (v := .inl x94) o0 rfl e98 (k := 6) rfl (show ty_V 0 (.inl x94) from ⟨_, rfl⟩) (by decide) rfl
        rw [E104]
        have L103 := okL_eq l105 L83
        refine k_iload 74 rfl g3 rfl ?_
        exact k_fin rfl rfl ⟨⟨_, rfl, ⟨_, rfl, _, rfl⟩⟩, I102⟩
      · refine k_c2 75 rfl rfl (if_neg b27) ?_
        refine k_iinc (v3 + 1) 78 rfl g3 rfl rfl ?_
        refine k_goto 5 rfl rfl ?_
        exact ih _ (by rw [← hn]; exact up_lt b1) rfl (gs_ne rfl rfl g0) o0 (gs_ne rfl rfl g1) (gs_ne rfl rfl g2) gs_eq (okL_set (i := 3) (v := .inl (v3 + 1)) rfl L24) I23
theorem b_X1_make {B : Nat} {h0 : am_h} {lv : am_l} {h : am_h} {c s : Nat} {v0 : Nat} {v1 : Int32} {v2 : Int32} (g0 : am_get lv 0 = some (.inr (.inr (some v0)))) (o0 : ob 1 v0) (g1 : am_get lv 1 = some (.inl v1)) (g2 : am_get lv 2 = some (.inl v2)) (hL : am_okL h.length lv = true) (hI : ob_I w_X1_make B h0 h c s) : am_Ok am_G 1 18 (0, lv, [], h, c, s) (ty_Q w_X1_make 2 B h0) := by
  refine k_aload 1 rfl g0 rfl ?_
  obtain ⟨fs106, u107, e108, f109, t110⟩ := hI.1.get o0 (k := 5) rfl rfl
  obtain ⟨x111, rfl⟩ := t110
  refine k_get 4 rfl e108 f109 rfl ?_
  refine k_istore 5 rfl rfl ?_
  exact b_X1_make_5 _ rfl (gs_ne rfl rfl g0) o0 (gs_ne rfl rfl g1) (gs_ne rfl rfl g2) gs_eq (okL_set (i := 3) (v := .inl x111) rfl hL) hI
theorem c_X1_make {h : am_h} {v0 : Nat} {v1 : Int32} {v2 : Int32} (hT : ty_H h) (o0 : ob 1 v0) : am_Mt 2 18 [.inr (.inr (some v0)), .inl v1, .inl v2] h (ty_Q w_X1_make 2 (ob_P h) h) := am_Mt.of (b_X1_make rfl o0 rfl rfl (okA_r hT o0 (okA_i (okA_i okA_n))) (ob_I.start hT))
abbrev w_X0_beginFrame : List (Nat × Nat) := [(1, 4), (1, 5), (1, 6), (1, 7)]
theorem b_X0_beginFrame {B : Nat} {h0 : am_h} {lv : am_l} {h : am_h} {c s : Nat} {v0 : Nat} {v1 : Int32} {v2 : Int32} {v3 : Int32} (g0 : am_get lv 0 = some (.inr (.inr (some v0)))) (o0 : ob 0 v0) (g1 : am_get lv 1 = some (.inl v1)) (g2 : am_get lv 2 = some (.inl v2)) (g3 : am_get lv 3 = some (.inl v3)) (hL : am_okL h.length lv = true) (hI : ob_I w_X0_beginFrame B h0 h c s) : am_Ok am_G 2 2 (0, lv, [], h, c, s) (ty_Q w_X0_beginFrame 0 B h0) := by
  refine k_aload 1 rfl g0 rfl ?_
  obtain ⟨fs1, u2, e3, f4, t5⟩ := hI.1.get o0 (k := 0) rfl rfl
  obtain ⟨i6, rfl, o7⟩ := t5
  refine k_get 4 rfl e3 f4 rfl ?_
  refine k_aload 5 rfl g0 rfl ?_
  obtain ⟨fs8, u9, e10, f11, t12⟩ := hI.1.get o0 (k := 3) rfl rfl
  obtain ⟨i13, rfl, o14⟩ := t12
  refine k_get 8 rfl e10 f11 rfl ?_
  refine k_iload 9 rfl g1 rfl ?_
  refine k_aload 10 rfl g0 rfl ?_
  obtain ⟨fs15, u16, e17, f18, t19⟩ := hI.1.get o0 (k := 4) rfl rfl
  obtain ⟨x20, rfl⟩ := t19
  refine k_get 13 rfl e17 f18 rfl ?_
  refine k_cl (W' := w_X1_make) rfl (c_X1_make hI.1 o14) rfl rfl rfl (hI.1.rc o14 rfl) hI (by decide) hL (so_r hI o7 so_n) ?_
  rintro w21 h22 c23 s24 hv I25 L26 F27
  obtain ⟨_, rfl, x28, rfl⟩ := hv
  show am_Ok _ _ _ (16, _, [.inl x28, .inr (.inr (some i6))], h22, c23, s24) _
  refine k_cl (W' := []) rfl ((rw_add (W := []) I25.1 (Or.inl o7)).imp (fun _ z => z.1)) rfl rfl rfl (I25.1.rc3 (Or.inl o7)) I25 (by decide) L26 so_n ?_
  rintro w29 h30 c31 s32 hv I33 L34 F35
  obtain ⟨_, rfl, x36, rfl, z37⟩ := hv
  show am_Ok _ _ _ (19, _, [.inl x36], h30, c31, s32) _
  refine k_pop 20 rfl rfl rfl ?_
  refine k_aload 21 rfl g0 rfl ?_
  obtain ⟨fs38, u39, e40, f41, t42⟩ := I33.1.get o0 (k := 0) rfl rfl
  obtain ⟨i43, rfl, o44⟩ := t42
  refine k_get 24 rfl e40 f41 rfl ?_
  refine k_iload 25 rfl g2 rfl ?_
  refine k_cl (W' := []) rfl ((rw_add (W := []) I33.1 (Or.inl o44)).imp (fun _ z => z.1)) rfl rfl rfl (I33.1.rc3 (Or.inl o44)) I33 (by decide) L34 so_n ?_
  rintro w45 h46 c47 s48 hv I49 L50 F51
  obtain ⟨_, rfl, x52, rfl, z53⟩ := hv
  show am_Ok _ _ _ (28, _, [.inl x52], h46, c47, s48) _
  refine k_pop 29 rfl rfl rfl ?_
  refine k_aload 30 rfl g0 rfl ?_
  obtain ⟨fs54, u55, e56, f57, t58⟩ := I49.1.get o0 (k := 0) rfl rfl
  obtain ⟨i59, rfl, o60⟩ := t58
  refine k_get 33 rfl e56 f57 rfl ?_
  refine k_iload 34 rfl g3 rfl ?_
  refine k_cl (W' := []) rfl ((rw_add (W := []) I49.1 (Or.inl o60)).imp (fun _ z => z.1)) rfl rfl rfl (I49.1.rc3 (Or.inl o60)) I49 (by decide) L50 so_n ?_
  rintro w61 h62 c63 s64 hv I65 L66 F67
  obtain ⟨_, rfl, x68, rfl, z69⟩ := hv
  show am_Ok _ _ _ (37, _, [.inl x68], h62, c63, s64) _
  refine k_pop 38 rfl rfl rfl ?_
  exact k_fin rfl rfl ⟨⟨_, rfl, rfl⟩, I65⟩
theorem c_X0_beginFrame {h : am_h} {v0 : Nat} {v1 : Int32} {v2 : Int32} {v3 : Int32} (hT : ty_H h) (o0 : ob 0 v0) : am_Mt 3 2 [.inr (.inr (some v0)), .inl v1, .inl v2, .inl v3] h (ty_Q w_X0_beginFrame 0 (ob_P h) h) := am_Mt.of (b_X0_beginFrame rfl o0 rfl rfl rfl (okA_r hT o0 (okA_i (okA_i (okA_i okA_n)))) (ob_I.start hT))
abbrev w_X1_link : List (Nat × Nat) := []
theorem b_X1_link {B : Nat} {h0 : am_h} {lv : am_l} {h : am_h} {c s : Nat} {v0 : Nat} {v1 : Int32} {v2 : Int32} (g0 : am_get lv 0 = some (.inr (.inr (some v0)))) (o0 : ob 1 v0) (g1 : am_get lv 1 = some (.inl v1)) (g2 : am_get lv 2 = some (.inl v2)) (hL : am_okL h.length lv = true) (hI : ob_I w_X1_link B h0 h c s) : am_Ok am_G 1 19 (0, lv, [], h, c, s) (ty_Q w_X1_link 0 B h0) := by
  refine k_aload 1 rfl g0 rfl ?_
  obtain ⟨fs1, u2, e3, f4, t5⟩ := hI.1.get o0 (k := 2) rfl rfl
  obtain ⟨i6, rfl, o7⟩ := t5
  refine k_get 4 rfl e3 f4 rfl ?_
  refine k_iload 5 rfl g1 rfl ?_
  refine k_iload 6 rfl g2 rfl ?_
  refine k_cl (W' := []) rfl (rw_set hI.1 o7) rfl rfl rfl (hI.1.rc3 (Or.inl o7)) hI (by decide) hL so_n ?_
  rintro w8 h9 c10 s11 hv I12 L13 F14
  cases hv
  show am_Ok _ _ _ (9, _, [], h9, c10, s11) _
  refine k_aload 10 rfl g0 rfl ?_
  obtain ⟨fs15, u16, e17, f18, t19⟩ := I12.1.get o0 (k := 2) rfl rfl
  obtain ⟨i20, rfl, o21⟩ := t19
  refine k_get 13 rfl e17 f18 rfl ?_
  refine k_iload 14 rfl g2 rfl ?_
  refine k_iload 15 rfl g1 rfl ?_
  refine k_cl (W' := []) rfl (rw_set I12.1 o21) rfl rfl rfl (I12.1.rc3 (Or.inl o21)) I12 (by decide) L13 so_n ?_
  rintro w22 h23 c24 s25 hv I26 L27 F28
  cases hv
  show am_Ok _ _ _ (18, _, [], h23, c24, s25) _
  exact k_fin rfl rfl ⟨⟨_, rfl, rfl⟩, I26⟩
theorem c_X1_link {h : am_h} {v0 : Nat} {v1 : Int32} {v2 : Int32} (hT : ty_H h) (o0 : ob 1 v0) : am_Mt 2 19 [.inr (.inr (some v0)), .inl v1, .inl v2] h (ty_Q w_X1_link 0 (ob_P h) h) := am_Mt.of (b_X1_link rfl o0 rfl rfl (okA_r hT o0 (okA_i (okA_i okA_n))) (ob_I.start hT))
abbrev w_X0_bracketEnds : List (Nat × Nat) := [(1, 4), (1, 5), (1, 6), (1, 7)]
theorem b_X0_bracketEnds_2 {B : Nat} {h0 : am_h} : ∀ (n : Nat) {lv : am_l} {h : am_h} {c s : Nat} {v0 : Nat} {v1 : Int32} {v2 : Int32} , up_m v2 = n → am_get lv 0 = some (.inr (.inr (some v0))) → ob 0 v0 → am_get lv 1 = some (.inl v1) → am_get lv 2 = some (.inl v2) → am_okL h.length lv = true → ob_I w_X0_bracketEnds B h0 h c s → am_Ok am_G 2 6 (2, lv, [], h, c, s) (ty_Q w_X0_bracketEnds 0 B h0) := by
  intro n
  induction n using Nat.strongRecOn with
  | ind n ih =>
    intro lv h c s v0 v1 v2 hn g0 o0 g1 g2 hL hI
    refine k_iload 3 rfl g2 rfl ?_
    refine k_aload 4 rfl g0 rfl ?_
    obtain ⟨fs1, u2, e3, f4, t5⟩ := hI.1.get o0 (k := 2) rfl rfl
    obtain ⟨i6, rfl, o7⟩ := t5
    refine k_get 7 rfl e3 f4 rfl ?_
    refine k_cl (W' := []) rfl (rw_size hI.1 (Or.inl o7)) rfl rfl rfl (hI.1.rc3 (Or.inl o7)) hI (by decide) hL (so_i so_n) ?_
    rintro w8 h9 c10 s11 hv I12 L13 F14
    obtain ⟨_, rfl, x15, rfl⟩ := hv
    show am_Ok _ _ _ (10, _, [.inl x15, .inl v2], h9, c10, s11) _
    by_cases b16 : x15 ≤ v2
    · refine k_c2 100 rfl rfl (if_pos b16) ?_
      exact k_fin rfl rfl ⟨⟨_, rfl, rfl⟩, I12⟩
    · refine k_c2 13 rfl rfl (if_neg b16) ?_
      refine k_aload 14 rfl g0 rfl ?_
      obtain ⟨fs17, u18, e19, f20, t21⟩ := I12.1.get o0 (k := 2) rfl rfl
      obtain ⟨i22, rfl, o23⟩ := t21
      refine k_get 17 rfl e19 f20 rfl ?_
      refine k_iload 18 rfl g2 rfl ?_
      refine k_cl (W' := []) rfl (rw_get I12.1 (Or.inl o23)) rfl rfl rfl (I12.1.rc3 (Or.inl o23)) I12 (by decide) L13 so_n ?_
      rintro w24 h25 c26 s27 hv I28 L29 F30
      obtain ⟨_, rfl, x31, rfl⟩ := hv
      show am_Ok _ _ _ (21, _, [.inl x31], h25, c26, s27) _
      refine k_istore 22 rfl rfl ?_
      refine k_iload 23 rfl gs_eq rfl ?_
      refine k_push 24 rfl rfl ?_
      by_cases b32 : x31 = (-1 : Int32)
      · refine k_c2 94 rfl rfl (if_pos b32) ?_
        refine k_iinc (v2 + 1) 97 rfl (gs_ne rfl rfl g2) rfl rfl ?_
        refine k_goto 2 rfl rfl ?_
        exact ih _ (by rw [← hn]; exact up_lt b16) rfl (gs_ne rfl rfl (gs_ne rfl rfl g0)) o0 (gs_ne rfl rfl (gs_ne rfl rfl g1)) gs_eq (okL_set (i := 2) (v := .inl (v2 + 1)) rfl (okL_set (i := 3) (v := .inl x31) rfl L29)) I28
      · refine k_c2 27 rfl rfl (if_neg b32) ?_
        refine k_aload 28 rfl (gs_ne rfl rfl g0) rfl ?_
        obtain ⟨fs33, u34, e35, f36, t37⟩ := I28.1.get o0 (k := 1) rfl rfl
        obtain ⟨i38, rfl, o39⟩ := t37
        refine k_get 31 rfl e35 f36 rfl ?_
        refine k_push 32 rfl rfl ?_
        refine k_iload 33 rfl gs_eq rfl ?_
        obtain ⟨x40, q41⟩ : ∃ q : Int32, q = ((3 : Int32) * x31) := ⟨_, rfl⟩
        refine k_bin x40 34 rfl q41.symm rfl ?_
        refine k_push 35 rfl rfl ?_
        obtain ⟨x42, q43⟩ : ∃ q : Int32, q = (x40 + (1 : Int32)) := ⟨_, rfl⟩
        refine k_bin x42 36 rfl q43.symm rfl ?_
        refine k_cl (W' := []) rfl (rw_get I28.1 (Or.inl o39)) rfl rfl rfl (I28.1.rc3 (Or.inl o39)) I28 (by decide) (okL_set (i := 3) (v := .inl x31) rfl L29) so_n ?_
        rintro w44 h45 c46 s47 hv I48 L49 F50
        obtain ⟨_, rfl, x51, rfl⟩ := hv
        show am_Ok _ _ _ (39, _, [.inl x51], h45, c46, s47) _
        refine k_iload 40 rfl (gs_ne rfl rfl g1) rfl ?_
        by_cases b52 : x51 < v1
        · refine k_c2 94 rfl rfl (if_pos b52) ?_
          refine k_iinc (v2 + 1) 97 rfl (gs_ne rfl rfl g2) rfl rfl ?_
          refine k_goto 2 rfl rfl ?_
          exact ih _ (by rw [← hn]; exact up_lt b16) rfl (gs_ne rfl rfl (gs_ne rfl rfl g0)) o0 (gs_ne rfl rfl (gs_ne rfl rfl g1)) gs_eq (okL_set (i := 2) (v := .inl (v2 + 1)) rfl L49) I48
        · refine k_c2 43 rfl rfl (if_neg b52) ?_
          refine k_aload 44 rfl (gs_ne rfl rfl g0) rfl ?_
          obtain ⟨fs53, u54, e55, f56, t57⟩ := I48.1.get o0 (k := 3) rfl rfl
          obtain ⟨i58, rfl, o59⟩ := t57
          refine k_get 47 rfl e55 f56 rfl ?_
          refine k_push 48 rfl rfl ?_
          refine k_aload 49 rfl (gs_ne rfl rfl g0) rfl ?_
          obtain ⟨fs60, u61, e62, f63, t64⟩ := I48.1.get o0 (k := 4) rfl rfl
          obtain ⟨x65, rfl⟩ := t64
          refine k_get 52 rfl e62 f63 rfl ?_
          refine k_cl (W' := w_X1_make) rfl (c_X1_make I48.1 o59) rfl rfl rfl (I48.1.rc o59 rfl) I48 (by decide) L49 so_n ?_
          rintro w66 h67 c68 s69 hv I70 L71 F72
          obtain ⟨_, rfl, x73, rfl⟩ := hv
          show am_Ok _ _ _ (55, _, [.inl x73], h67, c68, s69) _
          refine k_istore 57 rfl rfl ?_
          refine k_aload 58 rfl (gs_ne rfl rfl (gs_ne rfl rfl g0)) rfl ?_
          obtain ⟨fs74, u75, e76, f77, t78⟩ := I70.1.get o0 (k := 3) rfl rfl
          obtain ⟨i79, rfl, o80⟩ := t78
          refine k_get 61 rfl e76 f77 rfl ?_
          refine k_push 62 rfl rfl ?_
          refine k_iload 64 rfl gs_eq rfl ?_
          obtain ⟨x81, q82⟩ : ∃ q : Int32, q = ((4 : Int32) * x73) := ⟨_, rfl⟩
          refine k_bin x81 65 rfl q82.symm rfl ?_
          refine k_push 66 rfl rfl ?_
          obtain ⟨x83, q84⟩ : ∃ q : Int32, q = (x81 + (1 : Int32)) := ⟨_, rfl⟩
          refine k_bin x83 67 rfl q84.symm rfl ?_
          refine k_aload 68 rfl (gs_ne rfl rfl (gs_ne rfl rfl g0)) rfl ?_
          obtain ⟨fs85, u86, e87, f88, t89⟩ := I70.1.get o0 (k := 1) rfl rfl
          obtain ⟨i90, rfl, o91⟩ := t89
          refine k_get 71 rfl e87 f88 rfl ?_
          refine k_push 72 rfl rfl ?_
          refine k_iload 73 rfl (gs_ne rfl rfl gs_eq) rfl ?_
          obtain ⟨x92, q93⟩ : ∃ q : Int32, q = ((3 : Int32) * x31) := ⟨_, rfl⟩
          refine k_bin x92 74 rfl q93.symm rfl ?_
          refine k_cl (W' := []) rfl (rw_get I70.1 (Or.inl o91)) rfl rfl rfl (I70.1.rc3 (Or.inl o91)) I70 (by decide) (okL_set (i := 4) (v := .inl x73) rfl L71) (so_i (so_r I70 o80 so_n)) ?_
          rintro w94 h95 c96 s97 hv I98 L99 F100
          obtain ⟨_, rfl, x101, rfl⟩ := hv
          show am_Ok _ _ _ (77, _, [.inl x101, .inl x83, .inr (.inr (some i79))], h95, c96, s97) _
          refine k_cl (W' := w_X1_link) rfl (c_X1_link I98.1 o80) rfl rfl rfl (I98.1.rc o80 rfl) I98 (by decide) L99 so_n ?_
          rintro w102 h103 c104 s105 hv I106 L107 F108
          cases hv
          show am_Ok _ _ _ (80, _, [], h103, c104, s105) _
          refine k_aload 81 rfl (gs_ne rfl rfl (gs_ne rfl rfl g0)) rfl ?_
          obtain ⟨fs109, u110, e111, f112, t113⟩ := I106.1.get o0 (k := 1) rfl rfl
          obtain ⟨i114, rfl, o115⟩ := t113
          refine k_get 84 rfl e111 f112 rfl ?_
          refine k_push 85 rfl rfl ?_
          refine k_iload 86 rfl (gs_ne rfl rfl gs_eq) rfl ?_
          obtain ⟨x116, q117⟩ : ∃ q : Int32, q = ((3 : Int32) * x31) := ⟨_, rfl⟩
          refine k_bin x116 87 rfl q117.symm rfl ?_
          refine k_push 88 rfl rfl ?_
          refine k_iload 90 rfl gs_eq rfl ?_
          obtain ⟨x118, q119⟩ : ∃ q : Int32, q = ((4 : Int32) * x73) := ⟨_, rfl⟩
          refine k_bin x118 91 rfl q119.symm rfl ?_
          refine k_cl (W' := []) rfl (rw_set I106.1 o115) rfl rfl rfl (I106.1.rc3 (Or.inl o115)) I106 (by decide) L107 so_n ?_
          rintro w120 h121 c122 s123 hv I124 L125 F126
          cases hv
          show am_Ok _ _ _ (94, _, [], h121, c122, s123) _
          refine k_iinc (v2 + 1) 97 rfl (gs_ne rfl rfl (gs_ne rfl rfl g2)) rfl rfl ?_
          refine k_goto 2 rfl rfl ?_
          exact ih _ (by rw [← hn]; exact up_lt b16) rfl (gs_ne rfl rfl (gs_ne rfl rfl (gs_ne rfl rfl g0))) o0 (gs_ne rfl rfl (gs_ne rfl rfl (gs_ne rfl rfl g1))) gs_eq (okL_set (i := 2) (v := .inl (v2 + 1)) rfl L125) I124
theorem b_X0_bracketEnds {B : Nat} {h0 : am_h} {lv : am_l} {h : am_h} {c s : Nat} {v0 : Nat} {v1 : Int32} (g0 : am_get lv 0 = some (.inr (.inr (some v0)))) (o0 : ob 0 v0) (g1 : am_get lv 1 = some (.inl v1)) (hL : am_okL h.length lv = true) (hI : ob_I w_X0_bracketEnds B h0 h c s) : am_Ok am_G 2 6 (0, lv, [], h, c, s) (ty_Q w_X0_bracketEnds 0 B h0) := by
  refine k_push 1 rfl rfl ?_
  refine k_istore 2 rfl rfl ?_
  exact b_X0_bracketEnds_2 _ rfl (gs_ne rfl rfl g0) o0 (gs_ne rfl rfl g1) gs_eq (okL_set (i := 2) (v := .inl (0 : Int32)) rfl hL) hI
theorem c_X0_bracketEnds {h : am_h} {v0 : Nat} {v1 : Int32} (hT : ty_H h) (o0 : ob 0 v0) : am_Mt 3 6 [.inr (.inr (some v0)), .inl v1] h (ty_Q w_X0_bracketEnds 0 (ob_P h) h) := am_Mt.of (b_X0_bracketEnds rfl o0 rfl (okA_r hT o0 (okA_i okA_n)) (ob_I.start hT))
abbrev w_X0_fanEnds : List (Nat × Nat) := [(1, 4), (1, 5), (1, 6), (1, 7)]
theorem b_X0_fanEnds_2 {B : Nat} {h0 : am_h} : ∀ (n : Nat) {lv : am_l} {h : am_h} {c s : Nat} {v0 : Nat} {v1 : Int32} {v2 : Int32} {v3 : Int32} , up_m v3 = n → am_get lv 0 = some (.inr (.inr (some v0))) → ob 0 v0 → am_get lv 1 = some (.inl v1) → am_get lv 2 = some (.inl v2) → am_get lv 3 = some (.inl v3) → am_okL h.length lv = true → ob_I w_X0_fanEnds B h0 h c s → am_Ok am_G 2 7 (2, lv, [], h, c, s) (ty_Q w_X0_fanEnds 0 B h0) := by
  intro n
  induction n using Nat.strongRecOn with
  | ind n ih =>
    intro lv h c s v0 v1 v2 v3 hn g0 o0 g1 g2 g3 hL hI
    refine k_iload 3 rfl g3 rfl ?_
    refine k_aload 4 rfl g0 rfl ?_
    obtain ⟨fs1, u2, e3, f4, t5⟩ := hI.1.get o0 (k := 2) rfl rfl
    obtain ⟨i6, rfl, o7⟩ := t5
    refine k_get 7 rfl e3 f4 rfl ?_
    refine k_cl (W' := []) rfl (rw_size hI.1 (Or.inl o7)) rfl rfl rfl (hI.1.rc3 (Or.inl o7)) hI (by decide) hL (so_i so_n) ?_
    rintro w8 h9 c10 s11 hv I12 L13 F14
    obtain ⟨_, rfl, x15, rfl⟩ := hv
    show am_Ok _ _ _ (10, _, [.inl x15, .inl v3], h9, c10, s11) _
    by_cases b16 : x15 ≤ v3
    · refine k_c2 180 rfl rfl (if_pos b16) ?_
      exact k_fin rfl rfl ⟨⟨_, rfl, rfl⟩, I12⟩
    · refine k_c2 13 rfl rfl (if_neg b16) ?_
      refine k_aload 14 rfl g0 rfl ?_
      obtain ⟨fs17, u18, e19, f20, t21⟩ := I12.1.get o0 (k := 2) rfl rfl
      obtain ⟨i22, rfl, o23⟩ := t21
      refine k_get 17 rfl e19 f20 rfl ?_
      refine k_iload 18 rfl g3 rfl ?_
      refine k_cl (W' := []) rfl (rw_get I12.1 (Or.inl o23)) rfl rfl rfl (I12.1.rc3 (Or.inl o23)) I12 (by decide) L13 so_n ?_
      rintro w24 h25 c26 s27 hv I28 L29 F30
      obtain ⟨_, rfl, x31, rfl⟩ := hv
      show am_Ok _ _ _ (21, _, [.inl x31], h25, c26, s27) _
      refine k_istore 23 rfl rfl ?_
      refine k_iload 25 rfl gs_eq rfl ?_
      refine k_push 26 rfl rfl ?_
      by_cases b32 : x31 = (-1 : Int32)
      · refine k_c2 174 rfl rfl (if_pos b32) ?_
        refine k_iinc (v3 + 1) 177 rfl (gs_ne rfl rfl g3) rfl rfl ?_
        refine k_goto 2 rfl rfl ?_
        exact ih _ (by rw [← hn]; exact up_lt b16) rfl (gs_ne rfl rfl (gs_ne rfl rfl g0)) o0 (gs_ne rfl rfl (gs_ne rfl rfl g1)) (gs_ne rfl rfl (gs_ne rfl rfl g2)) gs_eq (okL_set (i := 3) (v := .inl (v3 + 1)) rfl (okL_set (i := 4) (v := .inl x31) rfl L29)) I28
      · refine k_c2 29 rfl rfl (if_neg b32) ?_
        refine k_aload 30 rfl (gs_ne rfl rfl g0) rfl ?_
        obtain ⟨fs33, u34, e35, f36, t37⟩ := I28.1.get o0 (k := 1) rfl rfl
        obtain ⟨i38, rfl, o39⟩ := t37
        refine k_get 33 rfl e35 f36 rfl ?_
        refine k_push 34 rfl rfl ?_
        refine k_iload 36 rfl gs_eq rfl ?_
        obtain ⟨x40, q41⟩ : ∃ q : Int32, q = ((3 : Int32) * x31) := ⟨_, rfl⟩
        refine k_bin x40 37 rfl q41.symm rfl ?_
        refine k_push 38 rfl rfl ?_
        obtain ⟨x42, q43⟩ : ∃ q : Int32, q = (x40 + (1 : Int32)) := ⟨_, rfl⟩
        refine k_bin x42 39 rfl q43.symm rfl ?_
        refine k_cl (W' := []) rfl (rw_get I28.1 (Or.inl o39)) rfl rfl rfl (I28.1.rc3 (Or.inl o39)) I28 (by decide) (okL_set (i := 4) (v := .inl x31) rfl L29) so_n ?_
        rintro w44 h45 c46 s47 hv I48 L49 F50
        obtain ⟨_, rfl, x51, rfl⟩ := hv
        show am_Ok _ _ _ (42, _, [.inl x51], h45, c46, s47) _
        refine k_iload 43 rfl (gs_ne rfl rfl g2) rfl ?_
        by_cases b52 : v2 ≤ x51
        · refine k_c2 49 rfl rfl (if_pos b52) ?_
          refine k_aload 50 rfl (gs_ne rfl rfl g0) rfl ?_
          obtain ⟨fs53, u54, e55, f56, t57⟩ := I48.1.get o0 (k := 1) rfl rfl
          obtain ⟨i58, rfl, o59⟩ := t57
          refine k_get 53 rfl e55 f56 rfl ?_
          refine k_push 54 rfl rfl ?_
          refine k_iload 56 rfl gs_eq rfl ?_
          obtain ⟨x60, q61⟩ : ∃ q : Int32, q = ((3 : Int32) * x31) := ⟨_, rfl⟩
          refine k_bin x60 57 rfl q61.symm rfl ?_
          refine k_push 58 rfl rfl ?_
          obtain ⟨x62, q63⟩ : ∃ q : Int32, q = (x60 + (2 : Int32)) := ⟨_, rfl⟩
          refine k_bin x62 59 rfl q63.symm rfl ?_
          refine k_cl (W' := []) rfl (rw_get I48.1 (Or.inl o59)) rfl rfl rfl (I48.1.rc3 (Or.inl o59)) I48 (by decide) L49 so_n ?_
          rintro w64 h65 c66 s67 hv I68 L69 F70
          obtain ⟨_, rfl, x71, rfl⟩ := hv
          show am_Ok _ _ _ (62, _, [.inl x71], h65, c66, s67) _
          refine k_istore 64 rfl rfl ?_
          refine k_iload 66 rfl gs_eq rfl ?_
          refine k_push 67 rfl rfl ?_
          by_cases b72 : x71 = (-1 : Int32)
          · refine k_c2 174 rfl rfl (if_pos b72) ?_
            refine k_iinc (v3 + 1) 177 rfl (gs_ne rfl rfl (gs_ne rfl rfl g3)) rfl rfl ?_
            refine k_goto 2 rfl rfl ?_
            exact ih _ (by rw [← hn]; exact up_lt b16) rfl (gs_ne rfl rfl (gs_ne rfl rfl (gs_ne rfl rfl g0))) o0 (gs_ne rfl rfl (gs_ne rfl rfl (gs_ne rfl rfl g1))) (gs_ne rfl rfl (gs_ne rfl rfl (gs_ne rfl rfl g2))) gs_eq (okL_set (i := 3) (v := .inl (v3 + 1)) rfl (okL_set (i := 5) (v := .inl x71) rfl L69)) I68
          · refine k_c2 70 rfl rfl (if_neg b72) ?_
            refine k_aload 71 rfl (gs_ne rfl rfl (gs_ne rfl rfl g0)) rfl ?_
            obtain ⟨fs73, u74, e75, f76, t77⟩ := I68.1.get o0 (k := 1) rfl rfl
            obtain ⟨i78, rfl, o79⟩ := t77
            refine k_get 74 rfl e75 f76 rfl ?_
            refine k_push 75 rfl rfl ?_
            refine k_iload 77 rfl gs_eq rfl ?_
            obtain ⟨x80, q81⟩ : ∃ q : Int32, q = ((3 : Int32) * x71) := ⟨_, rfl⟩
            refine k_bin x80 78 rfl q81.symm rfl ?_
            refine k_push 79 rfl rfl ?_
            obtain ⟨x82, q83⟩ : ∃ q : Int32, q = (x80 + (1 : Int32)) := ⟨_, rfl⟩
            refine k_bin x82 80 rfl q83.symm rfl ?_
            refine k_cl (W' := []) rfl (rw_get I68.1 (Or.inl o79)) rfl rfl rfl (I68.1.rc3 (Or.inl o79)) I68 (by decide) (okL_set (i := 5) (v := .inl x71) rfl L69) so_n ?_
            rintro w84 h85 c86 s87 hv I88 L89 F90
            obtain ⟨_, rfl, x91, rfl⟩ := hv
            show am_Ok _ _ _ (83, _, [.inl x91], h85, c86, s87) _
            refine k_iload 84 rfl (gs_ne rfl rfl (gs_ne rfl rfl g1)) rfl ?_
            by_cases b92 : x91 ≤ v1
            · refine k_c2 174 rfl rfl (if_pos b92) ?_
              refine k_iinc (v3 + 1) 177 rfl (gs_ne rfl rfl (gs_ne rfl rfl g3)) rfl rfl ?_
              refine k_goto 2 rfl rfl ?_
              exact ih _ (by rw [← hn]; exact up_lt b16) rfl (gs_ne rfl rfl (gs_ne rfl rfl (gs_ne rfl rfl g0))) o0 (gs_ne rfl rfl (gs_ne rfl rfl (gs_ne rfl rfl g1))) (gs_ne rfl rfl (gs_ne rfl rfl (gs_ne rfl rfl g2))) gs_eq (okL_set (i := 3) (v := .inl (v3 + 1)) rfl L89) I88
            · refine k_c2 87 rfl rfl (if_neg b92) ?_
              refine k_aload 88 rfl (gs_ne rfl rfl (gs_ne rfl rfl g0)) rfl ?_
              obtain ⟨fs93, u94, e95, f96, t97⟩ := I88.1.get o0 (k := 3) rfl rfl
              obtain ⟨i98, rfl, o99⟩ := t97
              refine k_get 91 rfl e95 f96 rfl ?_
              refine k_push 92 rfl rfl ?_
              refine k_aload 93 rfl (gs_ne rfl rfl (gs_ne rfl rfl g0)) rfl ?_
              obtain ⟨fs100, u101, e102, f103, t104⟩ := I88.1.get o0 (k := 4) rfl rfl
              obtain ⟨x105, rfl⟩ := t104
              refine k_get 96 rfl e102 f103 rfl ?_
              refine k_cl (W' := w_X1_make) rfl (c_X1_make I88.1 o99) rfl rfl rfl (I88.1.rc o99 rfl) I88 (by decide) L89 so_n ?_
              rintro w106 h107 c108 s109 hv I110 L111 F112
              obtain ⟨_, rfl, x113, rfl⟩ := hv
              show am_Ok _ _ _ (99, _, [.inl x113], h107, c108, s109) _
              refine k_istore 101 rfl rfl ?_
              refine k_aload 102 rfl (gs_ne rfl rfl (gs_ne rfl rfl (gs_ne rfl rfl g0))) rfl ?_
              obtain ⟨fs114, u115, e116, f117, t118⟩ := I110.1.get o0 (k := 3) rfl rfl
              obtain ⟨i119, rfl, o120⟩ := t118
              refine k_get 105 rfl e116 f117 rfl ?_
              refine k_push 106 rfl rfl ?_
              refine k_iload 108 rfl gs_eq rfl ?_
              obtain ⟨x121, q122⟩ : ∃ q : Int32, q = ((4 : Int32) * x113) := ⟨_, rfl⟩
              refine k_bin x121 109 rfl q122.symm rfl ?_
              refine k_push 110 rfl rfl ?_
              obtain ⟨x123, q124⟩ : ∃ q : Int32, q = (x121 + (1 : Int32)) := ⟨_, rfl⟩
              refine k_bin x123 111 rfl q124.symm rfl ?_
              refine k_aload 112 rfl (gs_ne rfl rfl (gs_ne rfl rfl (gs_ne rfl rfl g0))) rfl ?_
              obtain ⟨fs125, u126, e127, f128, t129⟩ := I110.1.get o0 (k := 1) rfl rfl
              obtain ⟨i130, rfl, o131⟩ := t129
              refine k_get 115 rfl e127 f128 rfl ?_
              refine k_push 116 rfl rfl ?_
              refine k_iload 118 rfl (gs_ne rfl rfl gs_eq) rfl ?_
              obtain ⟨x132, q133⟩ : ∃ q : Int32, q = ((3 : Int32) * x71) := ⟨_, rfl⟩
              refine k_bin x132 119 rfl q133.symm rfl ?_
              refine k_cl (W' := []) rfl (rw_get I110.1 (Or.inl o131)) rfl rfl rfl (I110.1.rc3 (Or.inl o131)) I110 (by decide) (okL_set (i := 6) (v := .inl x113) rfl L111) (so_i (so_r I110 o120 so_n)) ?_
              rintro w134 h135 c136 s137 hv I138 L139 F140
              obtain ⟨_, rfl, x141, rfl⟩ := hv
              show am_Ok _ _ _ (122, _, [.inl x141, .inl x123, .inr (.inr (some i119))], h135, c136, s137) _
              refine k_cl (W' := w_X1_link) rfl (c_X1_link I138.1 o120) rfl rfl rfl (I138.1.rc o120 rfl) I138 (by decide) L139 so_n ?_
              rintro w142 h143 c144 s145 hv I146 L147 F148
              cases hv
              show am_Ok _ _ _ (125, _, [], h143, c144, s145) _
              refine k_aload 126 rfl (gs_ne rfl rfl (gs_ne rfl rfl (gs_ne rfl rfl g0))) rfl ?_
              obtain ⟨fs149, u150, e151, f152, t153⟩ := I146.1.get o0 (k := 3) rfl rfl
              obtain ⟨i154, rfl, o155⟩ := t153
              refine k_get 129 rfl e151 f152 rfl ?_
              refine k_push 130 rfl rfl ?_
              refine k_iload 132 rfl gs_eq rfl ?_
              obtain ⟨x156, q157⟩ : ∃ q : Int32, q = ((4 : Int32) * x113) := ⟨_, rfl⟩
              refine k_bin x156 133 rfl q157.symm rfl ?_
              refine k_push 134 rfl rfl ?_
              obtain ⟨x158, q159⟩ : ∃ q : Int32, q = (x156 + (2 : Int32)) := ⟨_, rfl⟩
              refine k_bin x158 135 rfl q159.symm rfl ?_
              refine k_aload 136 rfl (gs_ne rfl rfl (gs_ne rfl rfl (gs_ne rfl rfl g0))) rfl ?_
              obtain ⟨fs160, u161, e162, f163, t164⟩ := I146.1.get o0 (k := 1) rfl rfl
              obtain ⟨i165, rfl, o166⟩ := t164
              refine k_get 139 rfl e162 f163 rfl ?_
              refine k_push 140 rfl rfl ?_
              refine k_iload 142 rfl (gs_ne rfl rfl (gs_ne rfl rfl gs_eq)) rfl ?_
              obtain ⟨x167, q168⟩ : ∃ q : Int32, q = ((3 : Int32) * x31) := ⟨_, rfl⟩
              refine k_bin x167 143 rfl q168.symm rfl ?_
              refine k_cl (W' := []) rfl (rw_get I146.1 (Or.inl o166)) rfl rfl rfl (I146.1.rc3 (Or.inl o166)) I146 (by decide) L147 (so_i (so_r I146 o155 so_n)) ?_
              rintro w169 h170 c171 s172 hv I173 L174 F175
              obtain ⟨_, rfl, x176, rfl⟩ := hv
              show am_Ok _ _ _ (146, _, [.inl x176, .inl x158, .inr (.inr (some i154))], h170, c171, s172) _
              refine k_cl (W' := w_X1_link) rfl (c_X1_link I173.1 o155) rfl rfl rfl (I173.1.rc o155 rfl) I173 (by decide) L174 so_n ?_
              rintro w177 h178 c179 s180 hv I181 L182 F183
              cases hv
              show am_Ok _ _ _ (149, _, [], h178, c179, s180) _
              refine k_aload 150 rfl (gs_ne rfl rfl (gs_ne rfl rfl (gs_ne rfl rfl g0))) rfl ?_
              obtain ⟨fs184, u185, e186, f187, t188⟩ := I181.1.get o0 (k := 1) rfl rfl
              obtain ⟨i189, rfl, o190⟩ := t188
              refine k_get 153 rfl e186 f187 rfl ?_
              refine k_push 154 rfl rfl ?_
              refine k_iload 156 rfl (gs_ne rfl rfl gs_eq) rfl ?_
              obtain ⟨x191, q192⟩ : ∃ q : Int32, q = ((3 : Int32) * x71) := ⟨_, rfl⟩
              refine k_bin x191 157 rfl q192.symm rfl ?_
              refine k_push 158 rfl rfl ?_
              refine k_iload 160 rfl gs_eq rfl ?_
              obtain ⟨x193, q194⟩ : ∃ q : Int32, q = ((4 : Int32) * x113) := ⟨_, rfl⟩
              refine k_bin x193 161 rfl q194.symm rfl ?_
              refine k_cl (W' := []) rfl (rw_set I181.1 o190) rfl rfl rfl (I181.1.rc3 (Or.inl o190)) I181 (by decide) L182 so_n ?_
              rintro w195 h196 c197 s198 hv I199 L200 F201
              cases hv
              show am_Ok _ _ _ (164, _, [], h196, c197, s198) _
              refine k_aload 165 rfl (gs_ne rfl rfl (gs_ne rfl rfl (gs_ne rfl rfl g0))) rfl ?_
              obtain ⟨fs202, u203, e204, f205, t206⟩ := I199.1.get o0 (k := 2) rfl rfl
              obtain ⟨i207, rfl, o208⟩ := t206
              refine k_get 168 rfl e204 f205 rfl ?_
              refine k_iload 169 rfl (gs_ne rfl rfl (gs_ne rfl rfl (gs_ne rfl rfl g3))) rfl ?_
              refine k_iload 171 rfl (gs_ne rfl rfl gs_eq) rfl ?_
              refine k_cl (W' := []) rfl (rw_set I199.1 o208) rfl rfl rfl (I199.1.rc3 (Or.inl o208)) I199 (by decide) L200 so_n ?_
              rintro w209 h210 c211 s212 hv I213 L214 F215
              cases hv
              show am_Ok _ _ _ (174, _, [], h210, c211, s212) _
              refine k_iinc (v3 + 1) 177 rfl (gs_ne rfl rfl (gs_ne rfl rfl (gs_ne rfl rfl g3))) rfl rfl ?_
              refine k_goto 2 rfl rfl ?_
              exact ih _ (by rw [← hn]; exact up_lt b16) rfl (gs_ne rfl rfl (gs_ne rfl rfl (gs_ne rfl rfl (gs_ne rfl rfl g0)))) o0 (gs_ne rfl rfl (gs_ne rfl rfl (gs_ne rfl rfl (gs_ne rfl rfl g1)))) (gs_ne rfl rfl (gs_ne rfl rfl (gs_ne rfl rfl (gs_ne rfl rfl g2)))) gs_eq (okL_set (i := 3) (v := .inl (v3 + 1)) rfl L214) I213
        · refine k_c2 46 rfl rfl (if_neg b52) ?_
          refine k_goto 174 rfl rfl ?_
          refine k_iinc (v3 + 1) 177 rfl (gs_ne rfl rfl g3) rfl rfl ?_
          refine k_goto 2 rfl rfl ?_
          exact ih _ (by rw [← hn]; exact up_lt b16) rfl (gs_ne rfl rfl (gs_ne rfl rfl g0)) o0 (gs_ne rfl rfl (gs_ne rfl rfl g1)) (gs_ne rfl rfl (gs_ne rfl rfl g2)) gs_eq (okL_set (i := 3) (v := .inl (v3 + 1)) rfl L49) I48
theorem b_X0_fanEnds {B : Nat} {h0 : am_h} {lv : am_l} {h : am_h} {c s : Nat} {v0 : Nat} {v1 : Int32} {v2 : Int32} (g0 : am_get lv 0 = some (.inr (.inr (some v0)))) (o0 : ob 0 v0) (g1 : am_get lv 1 = some (.inl v1)) (g2 : am_get lv 2 = some (.inl v2)) (hL : am_okL h.length lv = true) (hI : ob_I w_X0_fanEnds B h0 h c s) : am_Ok am_G 2 7 (0, lv, [], h, c, s) (ty_Q w_X0_fanEnds 0 B h0) := by
  refine k_push 1 rfl rfl ?_
  refine k_istore 2 rfl rfl ?_
  exact b_X0_fanEnds_2 _ rfl (gs_ne rfl rfl g0) o0 (gs_ne rfl rfl g1) (gs_ne rfl rfl g2) gs_eq (okL_set (i := 3) (v := .inl (0 : Int32)) rfl hL) hI
theorem c_X0_fanEnds {h : am_h} {v0 : Nat} {v1 : Int32} {v2 : Int32} (hT : ty_H h) (o0 : ob 0 v0) : am_Mt 3 7 [.inr (.inr (some v0)), .inl v1, .inl v2] h (ty_Q w_X0_fanEnds 0 (ob_P h) h) := am_Mt.of (b_X0_fanEnds rfl o0 rfl rfl (okA_r hT o0 (okA_i (okA_i okA_n))) (ob_I.start hT))
abbrev w_X0_finishFunction : List (Nat × Nat) := [(1, 4), (1, 5), (1, 6), (1, 7)]
theorem b_X0_finishFunction {B : Nat} {h0 : am_h} {lv : am_l} {h : am_h} {c s : Nat} {v0 : Nat} {v1 : Int32} (g0 : am_get lv 0 = some (.inr (.inr (some v0)))) (o0 : ob 0 v0) (g1 : am_get lv 1 = some (.inl v1)) (hL : am_okL h.length lv = true) (hI : ob_I w_X0_finishFunction B h0 h c s) : am_Ok am_G 2 5 (0, lv, [], h, c, s) (ty_Q w_X0_finishFunction 0 B h0) := by
  refine k_aload 1 rfl g0 rfl ?_
  obtain ⟨fs1, u2, e3, f4, t5⟩ := hI.1.get o0 (k := 2) rfl rfl
  obtain ⟨i6, rfl, o7⟩ := t5
  refine k_get 4 rfl e3 f4 rfl ?_
  refine k_cl (W' := []) rfl (rw_takeLast hI.1 o7) rfl rfl rfl (hI.1.rc3 (Or.inl o7)) hI (by decide) hL so_n ?_
  rintro w8 h9 c10 s11 hv I12 L13 F14
  obtain ⟨_, rfl, x15, rfl⟩ := hv
  show am_Ok _ _ _ (7, _, [.inl x15], h9, c10, s11) _
  refine k_istore 8 rfl rfl ?_
  refine k_iload 9 rfl gs_eq rfl ?_
  refine k_push 10 rfl rfl ?_
  by_cases b16 : x15 = (-1 : Int32)
  · refine k_c2 13 rfl rfl (if_pos b16) ?_
    refine k_push 14 rfl rfl ?_
    refine k_aload 15 rfl (gs_ne rfl rfl g0) rfl ?_
    obtain ⟨fs17, u18, e19, f20, t21⟩ := I12.1.get o0 (k := 3) rfl rfl
    obtain ⟨i22, rfl, o23⟩ := t21
    refine k_get 18 rfl e19 f20 rfl ?_
    refine k_push 20 rfl rfl ?_
    refine k_push 21 rfl rfl ?_
    refine k_cl (W' := w_X1_make) rfl (c_X1_make I12.1 o23) rfl rfl rfl (I12.1.rc o23 rfl) I12 (by decide) (okL_set (i := 2) (v := .inl x15) rfl L13) (so_i so_n) ?_
    rintro w24 h25 c26 s27 hv I28 L29 F30
    obtain ⟨_, rfl, x31, rfl⟩ := hv
    show am_Ok _ _ _ (24, _, [.inl x31, .inl (4 : Int32)], h25, c26, s27) _
    obtain ⟨x32, q33⟩ : ∃ q : Int32, q = ((4 : Int32) * x31) := ⟨_, rfl⟩
    refine k_bin x32 25 rfl q33.symm rfl ?_
    refine k_goto 38 rfl rfl ?_
    refine k_istore 39 rfl rfl ?_
    refine k_aload 40 rfl (gs_ne rfl rfl (gs_ne rfl rfl g0)) rfl ?_
    obtain ⟨fs34, u35, e36, f37, t38⟩ := I28.1.get o0 (k := 3) rfl rfl
    obtain ⟨i39, rfl, o40⟩ := t38
    refine k_get 43 rfl e36 f37 rfl ?_
    refine k_iload 44 rfl gs_eq rfl ?_
    refine k_push 45 rfl rfl ?_
    refine k_iload 46 rfl (gs_ne rfl rfl (gs_ne rfl rfl g1)) rfl ?_
    obtain ⟨x41, q42⟩ : ∃ q : Int32, q = ((4 : Int32) * v1) := ⟨_, rfl⟩
    refine k_bin x41 47 rfl q42.symm rfl ?_
    refine k_push 48 rfl rfl ?_
    obtain ⟨x43, q44⟩ : ∃ q : Int32, q = (x41 + (2 : Int32)) := ⟨_, rfl⟩
    refine k_bin x43 49 rfl q44.symm rfl ?_
    refine k_cl (W' := w_X1_link) rfl (c_X1_link I28.1 o40) rfl rfl rfl (I28.1.rc o40 rfl) I28 (by decide) (okL_set (i := 3) (v := .inl x32) rfl L29) so_n ?_
    rintro w45 h46 c47 s48 hv I49 L50 F51
    cases hv
    show am_Ok _ _ _ (52, _, [], h46, c47, s48) _
    exact k_fin rfl rfl ⟨⟨_, rfl, rfl⟩, I49⟩
  · refine k_c2 28 rfl rfl (if_neg b16) ?_
    refine k_aload 29 rfl (gs_ne rfl rfl g0) rfl ?_
    obtain ⟨fs52, u53, e54, f55, t56⟩ := I12.1.get o0 (k := 1) rfl rfl
    obtain ⟨i57, rfl, o58⟩ := t56
    refine k_get 32 rfl e54 f55 rfl ?_
    refine k_push 33 rfl rfl ?_
    refine k_iload 34 rfl gs_eq rfl ?_
    obtain ⟨x59, q60⟩ : ∃ q : Int32, q = ((3 : Int32) * x15) := ⟨_, rfl⟩
    refine k_bin x59 35 rfl q60.symm rfl ?_
    refine k_cl (W' := []) rfl (rw_get I12.1 (Or.inl o58)) rfl rfl rfl (I12.1.rc3 (Or.inl o58)) I12 (by decide) (okL_set (i := 2) (v := .inl x15) rfl L13) so_n ?_
    rintro w61 h62 c63 s64 hv I65 L66 F67
    obtain ⟨_, rfl, x68, rfl⟩ := hv
    show am_Ok _ _ _ (38, _, [.inl x68], h62, c63, s64) _
    refine k_istore 39 rfl rfl ?_
    refine k_aload 40 rfl (gs_ne rfl rfl (gs_ne rfl rfl g0)) rfl ?_
    obtain ⟨fs69, u70, e71, f72, t73⟩ := I65.1.get o0 (k := 3) rfl rfl
    obtain ⟨i74, rfl, o75⟩ := t73
    refine k_get 43 rfl e71 f72 rfl ?_
    refine k_iload 44 rfl gs_eq rfl ?_
    refine k_push 45 rfl rfl ?_
    refine k_iload 46 rfl (gs_ne rfl rfl (gs_ne rfl rfl g1)) rfl ?_
    obtain ⟨x76, q77⟩ : ∃ q : Int32, q = ((4 : Int32) * v1) := ⟨_, rfl⟩
    refine k_bin x76 47 rfl q77.symm rfl ?_
    refine k_push 48 rfl rfl ?_
    obtain ⟨x78, q79⟩ : ∃ q : Int32, q = (x76 + (2 : Int32)) := ⟨_, rfl⟩
    refine k_bin x78 49 rfl q79.symm rfl ?_
    refine k_cl (W' := w_X1_link) rfl (c_X1_link I65.1 o75) rfl rfl rfl (I65.1.rc o75 rfl) I65 (by decide) (okL_set (i := 3) (v := .inl x68) rfl L66) so_n ?_
    rintro w80 h81 c82 s83 hv I84 L85 F86
    cases hv
    show am_Ok _ _ _ (52, _, [], h81, c82, s83) _
    exact k_fin rfl rfl ⟨⟨_, rfl, rfl⟩, I84⟩
theorem c_X0_finishFunction {h : am_h} {v0 : Nat} {v1 : Int32} (hT : ty_H h) (o0 : ob 0 v0) : am_Mt 3 5 [.inr (.inr (some v0)), .inl v1] h (ty_Q w_X0_finishFunction 0 (ob_P h) h) := am_Mt.of (b_X0_finishFunction rfl o0 rfl (okA_r hT o0 (okA_i okA_n)) (ob_I.start hT))
abbrev w_X0_finish : List (Nat × Nat) := [(0, 4), (1, 4), (1, 5), (1, 6), (1, 7)]
theorem b_X0_finish_13 {B : Nat} {h0 : am_h} : ∀ (n : Nat) {lv : am_l} {h : am_h} {c s : Nat} {v0 : Nat} {v1 : Int32} {v2 : Int32} {v3 : Int32} {v4 : Int32} , dn_m v4 = n → am_get lv 0 = some (.inr (.inr (some v0))) → ob 0 v0 → am_get lv 1 = some (.inl v1) → am_get lv 2 = some (.inl v2) → am_get lv 3 = some (.inl v3) → am_get lv 4 = some (.inl v4) → am_okL h.length lv = true → ob_I w_X0_finish B h0 h c s → am_Ok am_G 3 4 (13, lv, [], h, c, s) (ty_Q w_X0_finish 0 B h0) := by
  intro n
  induction n using Nat.strongRecOn with
  | ind n ih =>
    intro lv h c s v0 v1 v2 v3 v4 hn g0 o0 g1 g2 g3 g4 hL hI
    refine k_iload 15 rfl g4 rfl ?_
    by_cases b1 : v4 < 0
    · refine k_c1 185 rfl rfl (if_pos b1) ?_
      refine k_aload 186 rfl g0 rfl ?_
      obtain ⟨fs2, u3, e4, f5, t6⟩ := hI.1.get o0 (k := 3) rfl rfl
      obtain ⟨i7, rfl, o8⟩ := t6
      refine k_get 189 rfl e4 f5 rfl ?_
      refine k_push 190 rfl rfl ?_
      refine k_iload 191 rfl g3 rfl ?_
      refine k_cl (W' := w_X1_link) rfl (c_X1_link hI.1 o8) rfl rfl rfl (hI.1.rc o8 rfl) hI (by decide) hL so_n ?_
      rintro w9 h10 c11 s12 hv I13 L14 F15
      cases hv
      show am_Ok _ _ _ (194, _, [], h10, c11, s12) _
      exact k_fin rfl rfl ⟨⟨_, rfl, rfl⟩, I13⟩
    · refine k_c1 18 rfl rfl (if_neg b1) ?_
      refine k_aload 19 rfl g0 rfl ?_
      obtain ⟨fs16, u17, e18, f19, t20⟩ := hI.1.get o0 (k := 0) rfl rfl
      obtain ⟨i21, rfl, o22⟩ := t20
      refine k_get 22 rfl e18 f19 rfl ?_
      refine k_iload 24 rfl g4 rfl ?_
      refine k_cl (W' := []) rfl (rw_get hI.1 (Or.inl o22)) rfl rfl rfl (hI.1.rc3 (Or.inl o22)) hI (by decide) hL so_n ?_
      rintro w23 h24 c25 s26 hv I27 L28 F29
      obtain ⟨_, rfl, x30, rfl⟩ := hv
      show am_Ok _ _ _ (27, _, [.inl x30], h24, c25, s26) _
      refine k_istore 29 rfl rfl ?_
      refine k_aload 30 rfl (gs_ne rfl rfl g0) rfl ?_
      obtain ⟨fs31, u32, e33, f34, t35⟩ := I27.1.get o0 (k := 0) rfl rfl
      obtain ⟨i36, rfl, o37⟩ := t35
      refine k_get 33 rfl e33 f34 rfl ?_
      refine k_iload 35 rfl (gs_ne rfl rfl g4) rfl ?_
      refine k_push 36 rfl rfl ?_
      obtain ⟨x38, q39⟩ : ∃ q : Int32, q = (v4 + (2 : Int32)) := ⟨_, rfl⟩
      refine k_bin x38 37 rfl q39.symm rfl ?_
      refine k_cl (W' := []) rfl (rw_get I27.1 (Or.inl o37)) rfl rfl rfl (I27.1.rc3 (Or.inl o37)) I27 (by decide) (okL_set (i := 5) (v := .inl x30) rfl L28) so_n ?_
      rintro w40 h41 c42 s43 hv I44 L45 F46
      obtain ⟨_, rfl, x47, rfl⟩ := hv
      show am_Ok _ _ _ (40, _, [.inl x47], h41, c42, s43) _
      refine k_istore 42 rfl rfl ?_
      refine k_iload 44 rfl gs_eq rfl ?_
      by_cases b48 : x47 = 0
      · refine k_c1 47 rfl rfl (if_pos b48) ?_
        refine k_aload 48 rfl (gs_ne rfl rfl (gs_ne rfl rfl g0)) rfl ?_
        obtain ⟨fs49, u50, e51, f52, t53⟩ := I44.1.get o0 (k := 3) rfl rfl
        obtain ⟨i54, rfl, o55⟩ := t53
        refine k_get 51 rfl e51 f52 rfl ?_
        refine k_push 52 rfl rfl ?_
        refine k_iload 54 rfl (gs_ne rfl rfl gs_eq) rfl ?_
        obtain ⟨x56, q57⟩ : ∃ q : Int32, q = ((4 : Int32) * x30) := ⟨_, rfl⟩
        refine k_bin x56 55 rfl q57.symm rfl ?_
        refine k_iload 56 rfl (gs_ne rfl rfl (gs_ne rfl rfl g3)) rfl ?_
        refine k_cl (W' := w_X1_link) rfl (c_X1_link I44.1 o55) rfl rfl rfl (I44.1.rc o55 rfl) I44 (by decide) (okL_set (i := 6) (v := .inl x47) rfl L45) so_n ?_
        rintro w58 h59 c60 s61 hv I62 L63 F64
        cases hv
        show am_Ok _ _ _ (59, _, [], h59, c60, s61) _
        refine k_aload 60 rfl (gs_ne rfl rfl (gs_ne rfl rfl g0)) rfl ?_
        obtain ⟨fs65, u66, e67, f68, t69⟩ := I62.1.get o0 (k := 0) rfl rfl
        obtain ⟨i70, rfl, o71⟩ := t69
        refine k_get 63 rfl e67 f68 rfl ?_
        refine k_iload 65 rfl (gs_ne rfl rfl (gs_ne rfl rfl g4)) rfl ?_
        refine k_push 66 rfl rfl ?_
        obtain ⟨x72, q73⟩ : ∃ q : Int32, q = (v4 + (2 : Int32)) := ⟨_, rfl⟩
        refine k_bin x72 67 rfl q73.symm rfl ?_
        refine k_iload 68 rfl (gs_ne rfl rfl (gs_ne rfl rfl g2)) rfl ?_
        refine k_cl (W' := []) rfl (rw_set I62.1 o71) rfl rfl rfl (I62.1.rc3 (Or.inl o71)) I62 (by decide) L63 so_n ?_
        rintro w74 h75 c76 s77 hv I78 L79 F80
        cases hv
        show am_Ok _ _ _ (71, _, [], h75, c76, s77) _
        refine k_aload 72 rfl (gs_ne rfl rfl (gs_ne rfl rfl g0)) rfl ?_
        refine k_dup 73 rfl rfl rfl ?_
        obtain ⟨fs81, u82, e83, f84, t85⟩ := I78.1.get o0 (k := 4) rfl rfl
        obtain ⟨x86, rfl⟩ := t85
        refine k_get 76 rfl e83 f84 rfl ?_
        refine k_push 77 rfl rfl ?_
        obtain ⟨x87, q88⟩ : ∃ q : Int32, q = (x86 + (1 : Int32)) := ⟨_, rfl⟩
        refine k_bin x87 78 rfl q88.symm rfl ?_
        obtain ⟨fs89, u90, e91, f92, t93⟩ := I78.1.get o0 (k := 4) rfl rfl
        refine k_put 81 rfl e91 rfl (List.getElem?_eq_some_iff.mp f92).1 rfl ?_
        obtain ⟨h94, E97, I95, l98⟩ := I78.put (v := .inl x87) o0 rfl e91 (k := 4) rfl (show ty_V 0 (.inl x87) from ⟨_, rfl⟩) (by decide) rfl
        rw [E97]
        have L96 := okL_eq l98 L79
        exact k_fin rfl rfl ⟨⟨_, rfl, rfl⟩, I95⟩
      · refine k_c1 82 rfl rfl (if_neg b48) ?_
        refine k_iload 84 rfl gs_eq rfl ?_
        refine k_push 85 rfl rfl ?_
        by_cases b99 : x47 = (-1 : Int32)
        · refine k_c2 88 rfl rfl (if_pos b99) ?_
          refine k_aload 89 rfl (gs_ne rfl rfl (gs_ne rfl rfl g0)) rfl ?_
          obtain ⟨fs100, u101, e102, f103, t104⟩ := I44.1.get o0 (k := 3) rfl rfl
          obtain ⟨i105, rfl, o106⟩ := t104
          refine k_get 92 rfl e102 f103 rfl ?_
          refine k_push 93 rfl rfl ?_
          refine k_iload 95 rfl (gs_ne rfl rfl gs_eq) rfl ?_
          obtain ⟨x107, q108⟩ : ∃ q : Int32, q = ((4 : Int32) * x30) := ⟨_, rfl⟩
          refine k_bin x107 96 rfl q108.symm rfl ?_
          refine k_push 97 rfl rfl ?_
          obtain ⟨x109, q110⟩ : ∃ q : Int32, q = (x107 + (1 : Int32)) := ⟨_, rfl⟩
          refine k_bin x109 98 rfl q110.symm rfl ?_
          refine k_iload 99 rfl (gs_ne rfl rfl (gs_ne rfl rfl g3)) rfl ?_
          refine k_cl (W' := w_X1_link) rfl (c_X1_link I44.1 o106) rfl rfl rfl (I44.1.rc o106 rfl) I44 (by decide) (okL_set (i := 6) (v := .inl x47) rfl L45) so_n ?_
          rintro w111 h112 c113 s114 hv I115 L116 F117
          cases hv
          show am_Ok _ _ _ (102, _, [], h112, c113, s114) _
          refine k_aload 103 rfl (gs_ne rfl rfl (gs_ne rfl rfl g0)) rfl ?_
          refine k_iload 105 rfl (gs_ne rfl rfl gs_eq) rfl ?_
          refine k_cl (W' := w_X0_finishFunction) rfl (c_X0_finishFunction I115.1 o0) rfl rfl rfl (I115.1.rc o0 rfl) I115 (by decide) L116 so_n ?_
          rintro w118 h119 c120 s121 hv I122 L123 F124
          cases hv
          show am_Ok _ _ _ (108, _, [], h119, c120, s121) _
          refine k_push 109 rfl rfl ?_
          refine k_iload 111 rfl (gs_ne rfl rfl gs_eq) rfl ?_
          obtain ⟨x125, q126⟩ : ∃ q : Int32, q = ((4 : Int32) * x30) := ⟨_, rfl⟩
          refine k_bin x125 112 rfl q126.symm rfl ?_
          refine k_istore 113 rfl rfl ?_
          refine k_goto 170 rfl rfl ?_
          refine k_aload 171 rfl (gs_ne rfl rfl (gs_ne rfl rfl (gs_ne rfl rfl g0))) rfl ?_
          obtain ⟨fs127, u128, e129, f130, t131⟩ := I122.1.get o0 (k := 0) rfl rfl
          obtain ⟨i132, rfl, o133⟩ := t131
          refine k_get 174 rfl e129 f130 rfl ?_
          refine k_iload 176 rfl (gs_ne rfl rfl (gs_ne rfl rfl (gs_ne rfl rfl g4))) rfl ?_
          refine k_cl (W' := []) rfl (rw_cut (W := []) I122.1 (Or.inl o133)) rfl rfl rfl (I122.1.rc3 (Or.inl o133)) I122 (by decide) (okL_set (i := 3) (v := .inl x125) rfl L123) so_n ?_
          rintro w134 h135 c136 s137 hv I138 L139 F140
          cases hv
          show am_Ok _ _ _ (179, _, [], h135, c136, s137) _
          refine k_iinc (v4 + (-3)) 182 rfl (gs_ne rfl rfl (gs_ne rfl rfl (gs_ne rfl rfl g4))) rfl rfl ?_
          refine k_goto 13 rfl rfl ?_
          exact ih _ (by rw [← hn]; exact dn_k b1 (by decide)) rfl (gs_ne rfl rfl (gs_ne rfl rfl (gs_ne rfl rfl (gs_ne rfl rfl g0)))) o0 (gs_ne rfl rfl (gs_ne rfl rfl (gs_ne rfl rfl (gs_ne rfl rfl g1)))) (gs_ne rfl rfl (gs_ne rfl rfl (gs_ne rfl rfl (gs_ne rfl rfl g2)))) (gs_ne rfl rfl gs_eq) gs_eq (okL_set (i := 4) (v := .inl (v4 + (-3))) rfl L139) I138
        · refine k_c2 116 rfl rfl (if_neg b99) ?_
          refine k_aload 117 rfl (gs_ne rfl rfl (gs_ne rfl rfl g0)) rfl ?_
          obtain ⟨fs141, u142, e143, f144, t145⟩ := I44.1.get o0 (k := 3) rfl rfl
          obtain ⟨i146, rfl, o147⟩ := t145
          refine k_get 120 rfl e143 f144 rfl ?_
          refine k_push 121 rfl rfl ?_
          refine k_iload 123 rfl (gs_ne rfl rfl gs_eq) rfl ?_
          obtain ⟨x148, q149⟩ : ∃ q : Int32, q = ((4 : Int32) * x30) := ⟨_, rfl⟩
          refine k_bin x148 124 rfl q149.symm rfl ?_
          refine k_push 125 rfl rfl ?_
          obtain ⟨x150, q151⟩ : ∃ q : Int32, q = (x148 + (2 : Int32)) := ⟨_, rfl⟩
          refine k_bin x150 126 rfl q151.symm rfl ?_
          refine k_iload 127 rfl (gs_ne rfl rfl (gs_ne rfl rfl g3)) rfl ?_
          refine k_cl (W' := w_X1_link) rfl (c_X1_link I44.1 o147) rfl rfl rfl (I44.1.rc o147 rfl) I44 (by decide) (okL_set (i := 6) (v := .inl x47) rfl L45) so_n ?_
          rintro w152 h153 c154 s155 hv I156 L157 F158
          cases hv
          show am_Ok _ _ _ (130, _, [], h153, c154, s155) _
          refine k_aload 131 rfl (gs_ne rfl rfl (gs_ne rfl rfl g0)) rfl ?_
          refine k_dup 132 rfl rfl rfl ?_
          obtain ⟨fs159, u160, e161, f162, t163⟩ := I156.1.get o0 (k := 4) rfl rfl
          obtain ⟨x164, rfl⟩ := t163
          refine k_get 135 rfl e161 f162 rfl ?_
          refine k_push 136 rfl rfl ?_
          obtain ⟨x165, q166⟩ : ∃ q : Int32, q = (x164 - (1 : Int32)) := ⟨_, rfl⟩
          refine k_bin x165 137 rfl q166.symm rfl ?_
          obtain ⟨fs167, u168, e169, f170, t171⟩ := I156.1.get o0 (k := 4) rfl rfl
          refine k_put 140 rfl e169 rfl (List.getElem?_eq_some_iff.mp f170).1 rfl ?_
          obtain ⟨h172, E175, I173, l176⟩ := I156.put (v := .inl x165) o0 rfl e169 (k := 4) rfl (show ty_V 0 (.inl x165) from ⟨_, rfl⟩) (by decide) rfl
          rw [E175]
          have L174 := okL_eq l176 L157
          refine k_aload 141 rfl (gs_ne rfl rfl (gs_ne rfl rfl g0)) rfl ?_
          refine k_iload 143 rfl gs_eq rfl ?_
          refine k_cl (W' := w_X0_bracketEnds) rfl (c_X0_bracketEnds I173.1 o0) rfl rfl rfl (I173.1.rc o0 rfl) I173 (by decide) L174 so_n ?_
          rintro w177 h178 c179 s180 hv I181 L182 F183
          cases hv
          show am_Ok _ _ _ (146, _, [], h178, c179, s180) _
          refine k_aload 147 rfl (gs_ne rfl rfl (gs_ne rfl rfl g0)) rfl ?_
          refine k_aload 148 rfl (gs_ne rfl rfl (gs_ne rfl rfl g0)) rfl ?_
          obtain ⟨fs184, u185, e186, f187, t188⟩ := I181.1.get o0 (k := 0) rfl rfl
          obtain ⟨i189, rfl, o190⟩ := t188
          refine k_get 151 rfl e186 f187 rfl ?_
          refine k_iload 153 rfl (gs_ne rfl rfl (gs_ne rfl rfl g4)) rfl ?_
          refine k_push 154 rfl rfl ?_
          obtain ⟨x191, q192⟩ : ∃ q : Int32, q = (v4 + (1 : Int32)) := ⟨_, rfl⟩
          refine k_bin x191 155 rfl q192.symm rfl ?_
          refine k_cl (W' := []) rfl (rw_get I181.1 (Or.inl o190)) rfl rfl rfl (I181.1.rc3 (Or.inl o190)) I181 (by decide) L182 (so_r I181 o0 so_n) ?_
          rintro w193 h194 c195 s196 hv I197 L198 F199
          obtain ⟨_, rfl, x200, rfl⟩ := hv
          show am_Ok _ _ _ (158, _, [.inl x200, .inr (.inr (some v0))], h194, c195, s196) _
          refine k_iload 160 rfl gs_eq rfl ?_
          refine k_cl (W' := w_X0_fanEnds) rfl (c_X0_fanEnds I197.1 o0) rfl rfl rfl (I197.1.rc o0 rfl) I197 (by decide) L198 so_n ?_
          rintro w201 h202 c203 s204 hv I205 L206 F207
          cases hv
          show am_Ok _ _ _ (163, _, [], h202, c203, s204) _
          refine k_push 164 rfl rfl ?_
          refine k_iload 166 rfl (gs_ne rfl rfl gs_eq) rfl ?_
          obtain ⟨x208, q209⟩ : ∃ q : Int32, q = ((4 : Int32) * x30) := ⟨_, rfl⟩
          refine k_bin x208 167 rfl q209.symm rfl ?_
          refine k_push 168 rfl rfl ?_
          obtain ⟨x210, q211⟩ : ∃ q : Int32, q = (x208 + (1 : Int32)) := ⟨_, rfl⟩
          refine k_bin x210 169 rfl q211.symm rfl ?_
          refine k_istore 170 rfl rfl ?_
          refine k_aload 171 rfl (gs_ne rfl rfl (gs_ne rfl rfl (gs_ne rfl rfl g0))) rfl ?_
          obtain ⟨fs212, u213, e214, f215, t216⟩ := I205.1.get o0 (k := 0) rfl rfl
          obtain ⟨i217, rfl, o218⟩ := t216
          refine k_get 174 rfl e214 f215 rfl ?_
          refine k_iload 176 rfl (gs_ne rfl rfl (gs_ne rfl rfl (gs_ne rfl rfl g4))) rfl ?_
          refine k_cl (W' := []) rfl (rw_cut (W := []) I205.1 (Or.inl o218)) rfl rfl rfl (I205.1.rc3 (Or.inl o218)) I205 (by decide) (okL_set (i := 3) (v := .inl x210) rfl L206) so_n ?_
          rintro w219 h220 c221 s222 hv I223 L224 F225
          cases hv
          show am_Ok _ _ _ (179, _, [], h220, c221, s222) _
          refine k_iinc (v4 + (-3)) 182 rfl (gs_ne rfl rfl (gs_ne rfl rfl (gs_ne rfl rfl g4))) rfl rfl ?_
          refine k_goto 13 rfl rfl ?_
          exact ih _ (by rw [← hn]; exact dn_k b1 (by decide)) rfl (gs_ne rfl rfl (gs_ne rfl rfl (gs_ne rfl rfl (gs_ne rfl rfl g0)))) o0 (gs_ne rfl rfl (gs_ne rfl rfl (gs_ne rfl rfl (gs_ne rfl rfl g1)))) (gs_ne rfl rfl (gs_ne rfl rfl (gs_ne rfl rfl (gs_ne rfl rfl g2)))) (gs_ne rfl rfl gs_eq) gs_eq (okL_set (i := 4) (v := .inl (v4 + (-3))) rfl L224) I223
theorem b_X0_finish {B : Nat} {h0 : am_h} {lv : am_l} {h : am_h} {c s : Nat} {v0 : Nat} {v1 : Int32} {v2 : Int32} (g0 : am_get lv 0 = some (.inr (.inr (some v0)))) (o0 : ob 0 v0) (g1 : am_get lv 1 = some (.inl v1)) (g2 : am_get lv 2 = some (.inl v2)) (hL : am_okL h.length lv = true) (hI : ob_I w_X0_finish B h0 h c s) : am_Ok am_G 3 4 (0, lv, [], h, c, s) (ty_Q w_X0_finish 0 B h0) := by
  refine k_iload 1 rfl g1 rfl ?_
  refine k_istore 2 rfl rfl ?_
  refine k_aload 3 rfl (gs_ne rfl rfl g0) rfl ?_
  obtain ⟨fs226, u227, e228, f229, t230⟩ := hI.1.get o0 (k := 0) rfl rfl
  obtain ⟨i231, rfl, o232⟩ := t230
  refine k_get 6 rfl e228 f229 rfl ?_
  refine k_cl (W' := []) rfl (rw_size hI.1 (Or.inl o232)) rfl rfl rfl (hI.1.rc3 (Or.inl o232)) hI (by decide) (okL_set (i := 3) (v := .inl v1) rfl hL) so_n ?_
  rintro w233 h234 c235 s236 hv I237 L238 F239
  obtain ⟨_, rfl, x240, rfl⟩ := hv
  show am_Ok _ _ _ (9, _, [.inl x240], h234, c235, s236) _
  refine k_push 10 rfl rfl ?_
  obtain ⟨x241, q242⟩ : ∃ q : Int32, q = (x240 - (3 : Int32)) := ⟨_, rfl⟩
  refine k_bin x241 11 rfl q242.symm rfl ?_
  refine k_istore 13 rfl rfl ?_
  exact b_X0_finish_13 _ rfl (gs_ne rfl rfl (gs_ne rfl rfl g0)) o0 (gs_ne rfl rfl (gs_ne rfl rfl g1)) (gs_ne rfl rfl (gs_ne rfl rfl g2)) (gs_ne rfl rfl gs_eq) gs_eq (okL_set (i := 4) (v := .inl x241) rfl L238) I237
theorem c_X0_finish {h : am_h} {v0 : Nat} {v1 : Int32} {v2 : Int32} (hT : ty_H h) (o0 : ob 0 v0) : am_Mt 4 4 [.inr (.inr (some v0)), .inl v1, .inl v2] h (ty_Q w_X0_finish 0 (ob_P h) h) := am_Mt.of (b_X0_finish rfl o0 rfl rfl (okA_r hT o0 (okA_i (okA_i okA_n))) (ob_I.start hT))
abbrev w_X0_layVariable : List (Nat × Nat) := [(1, 4), (1, 5), (1, 6), (1, 7)]
theorem b_X0_layVariable {B : Nat} {h0 : am_h} {lv : am_l} {h : am_h} {c s : Nat} {v0 : Nat} {v1 : Int32} {v2 : Int32} (g0 : am_get lv 0 = some (.inr (.inr (some v0)))) (o0 : ob 0 v0) (g1 : am_get lv 1 = some (.inl v1)) (g2 : am_get lv 2 = some (.inl v2)) (hL : am_okL h.length lv = true) (hI : ob_I w_X0_layVariable B h0 h c s) : am_Ok am_G 2 3 (0, lv, [], h, c, s) (ty_Q w_X0_layVariable 2 B h0) := by
  refine k_aload 1 rfl g0 rfl ?_
  obtain ⟨fs1, u2, e3, f4, t5⟩ := hI.1.get o0 (k := 3) rfl rfl
  obtain ⟨i6, rfl, o7⟩ := t5
  refine k_get 4 rfl e3 f4 rfl ?_
  refine k_push 5 rfl rfl ?_
  refine k_aload 6 rfl g0 rfl ?_
  obtain ⟨fs8, u9, e10, f11, t12⟩ := hI.1.get o0 (k := 4) rfl rfl
  obtain ⟨x13, rfl⟩ := t12
  refine k_get 9 rfl e10 f11 rfl ?_
  refine k_cl (W' := w_X1_make) rfl (c_X1_make hI.1 o7) rfl rfl rfl (hI.1.rc o7 rfl) hI (by decide) hL so_n ?_
  rintro w14 h15 c16 s17 hv I18 L19 F20
  obtain ⟨_, rfl, x21, rfl⟩ := hv
  show am_Ok _ _ _ (12, _, [.inl x21], h15, c16, s17) _
  refine k_istore 13 rfl rfl ?_
  refine k_aload 14 rfl (gs_ne rfl rfl g0) rfl ?_
  obtain ⟨fs22, u23, e24, f25, t26⟩ := I18.1.get o0 (k := 1) rfl rfl
  obtain ⟨i27, rfl, o28⟩ := t26
  refine k_get 17 rfl e24 f25 rfl ?_
  refine k_cl (W' := []) rfl (rw_size I18.1 (Or.inl o28)) rfl rfl rfl (I18.1.rc3 (Or.inl o28)) I18 (by decide) (okL_set (i := 3) (v := .inl x21) rfl L19) so_n ?_
  rintro w29 h30 c31 s32 hv I33 L34 F35
  obtain ⟨_, rfl, x36, rfl⟩ := hv
  show am_Ok _ _ _ (20, _, [.inl x36], h30, c31, s32) _
  refine k_push 21 rfl rfl ?_
  obtain ⟨x37, q38⟩ : ∃ q : Int32, q = (x36 / (3 : Int32)) := ⟨_, rfl⟩
  refine k_divZ x37 22 rfl (by decide) q38.symm rfl ?_
  refine k_istore 24 rfl rfl ?_
  refine k_aload 25 rfl (gs_ne rfl rfl (gs_ne rfl rfl g0)) rfl ?_
  obtain ⟨fs39, u40, e41, f42, t43⟩ := I33.1.get o0 (k := 1) rfl rfl
  obtain ⟨i44, rfl, o45⟩ := t43
  refine k_get 28 rfl e41 f42 rfl ?_
  refine k_push 29 rfl rfl ?_
  refine k_iload 30 rfl (gs_ne rfl rfl gs_eq) rfl ?_
  obtain ⟨x46, q47⟩ : ∃ q : Int32, q = ((4 : Int32) * x21) := ⟨_, rfl⟩
  refine k_bin x46 31 rfl q47.symm rfl ?_
  refine k_cl (W' := []) rfl ((rw_add (W := []) I33.1 (Or.inl o45)).imp (fun _ z => z.1)) rfl rfl rfl (I33.1.rc3 (Or.inl o45)) I33 (by decide) (okL_set (i := 4) (v := .inl x37) rfl L34) so_n ?_
  rintro w48 h49 c50 s51 hv I52 L53 F54
  obtain ⟨_, rfl, x55, rfl, z56⟩ := hv
  show am_Ok _ _ _ (34, _, [.inl x55], h49, c50, s51) _
  refine k_pop 35 rfl rfl rfl ?_
  refine k_aload 36 rfl (gs_ne rfl rfl (gs_ne rfl rfl g0)) rfl ?_
  obtain ⟨fs57, u58, e59, f60, t61⟩ := I52.1.get o0 (k := 1) rfl rfl
  obtain ⟨i62, rfl, o63⟩ := t61
  refine k_get 39 rfl e59 f60 rfl ?_
  refine k_iload 40 rfl (gs_ne rfl rfl (gs_ne rfl rfl g2)) rfl ?_
  refine k_cl (W' := []) rfl ((rw_add (W := []) I52.1 (Or.inl o63)).imp (fun _ z => z.1)) rfl rfl rfl (I52.1.rc3 (Or.inl o63)) I52 (by decide) L53 so_n ?_
  rintro w64 h65 c66 s67 hv I68 L69 F70
  obtain ⟨_, rfl, x71, rfl, z72⟩ := hv
  show am_Ok _ _ _ (43, _, [.inl x71], h65, c66, s67) _
  refine k_pop 44 rfl rfl rfl ?_
  refine k_aload 45 rfl (gs_ne rfl rfl (gs_ne rfl rfl g0)) rfl ?_
  obtain ⟨fs73, u74, e75, f76, t77⟩ := I68.1.get o0 (k := 1) rfl rfl
  obtain ⟨i78, rfl, o79⟩ := t77
  refine k_get 48 rfl e75 f76 rfl ?_
  refine k_aload 49 rfl (gs_ne rfl rfl (gs_ne rfl rfl g0)) rfl ?_
  obtain ⟨fs80, u81, e82, f83, t84⟩ := I68.1.get o0 (k := 2) rfl rfl
  obtain ⟨i85, rfl, o86⟩ := t84
  refine k_get 52 rfl e82 f83 rfl ?_
  refine k_iload 53 rfl (gs_ne rfl rfl (gs_ne rfl rfl g1)) rfl ?_
  refine k_cl (W' := []) rfl (rw_get I68.1 (Or.inl o86)) rfl rfl rfl (I68.1.rc3 (Or.inl o86)) I68 (by decide) L69 (so_r I68 o79 so_n) ?_
  rintro w87 h88 c89 s90 hv I91 L92 F93
  obtain ⟨_, rfl, x94, rfl⟩ := hv
  show am_Ok _ _ _ (56, _, [.inl x94, .inr (.inr (some i78))], h88, c89, s90) _
  refine k_cl (W' := []) rfl ((rw_add (W := []) I91.1 (Or.inl o79)).imp (fun _ z => z.1)) rfl rfl rfl (I91.1.rc3 (Or.inl o79)) I91 (by decide) L92 so_n ?_
  rintro w95 h96 c97 s98 hv I99 L100 F101
  obtain ⟨_, rfl, x102, rfl, z103⟩ := hv
  show am_Ok _ _ _ (59, _, [.inl x102], h96, c97, s98) _
  refine k_pop 60 rfl rfl rfl ?_
  refine k_aload 61 rfl (gs_ne rfl rfl (gs_ne rfl rfl g0)) rfl ?_
  obtain ⟨fs104, u105, e106, f107, t108⟩ := I99.1.get o0 (k := 2) rfl rfl
  obtain ⟨i109, rfl, o110⟩ := t108
  refine k_get 64 rfl e106 f107 rfl ?_
  refine k_iload 65 rfl (gs_ne rfl rfl (gs_ne rfl rfl g1)) rfl ?_
  refine k_iload 67 rfl gs_eq rfl ?_
  refine k_cl (W' := []) rfl (rw_set I99.1 o110) rfl rfl rfl (I99.1.rc3 (Or.inl o110)) I99 (by decide) L100 so_n ?_
  rintro w111 h112 c113 s114 hv I115 L116 F117
  cases hv
  show am_Ok _ _ _ (70, _, [], h112, c113, s114) _
  refine k_push 71 rfl rfl ?_
  refine k_iload 72 rfl (gs_ne rfl rfl gs_eq) rfl ?_
  obtain ⟨x118, q119⟩ : ∃ q : Int32, q = ((4 : Int32) * x21) := ⟨_, rfl⟩
  refine k_bin x118 73 rfl q119.symm rfl ?_
  refine k_push 74 rfl rfl ?_
  obtain ⟨x120, q121⟩ : ∃ q : Int32, q = (x118 + (1 : Int32)) := ⟨_, rfl⟩
  refine k_bin x120 75 rfl q121.symm rfl ?_
  exact k_fin rfl rfl ⟨⟨_, rfl, ⟨_, rfl, _, rfl⟩⟩, I115⟩
theorem c_X0_layVariable {h : am_h} {v0 : Nat} {v1 : Int32} {v2 : Int32} (hT : ty_H h) (o0 : ob 0 v0) : am_Mt 3 3 [.inr (.inr (some v0)), .inl v1, .inl v2] h (ty_Q w_X0_layVariable 2 (ob_P h) h) := am_Mt.of (b_X0_layVariable rfl o0 rfl rfl (okA_r hT o0 (okA_i (okA_i okA_n))) (ob_I.start hT))
abbrev w_X1_clear : List (Nat × Nat) := [(1, 4), (1, 5), (1, 6), (1, 7)]
theorem b_X1_clear {B : Nat} {h0 : am_h} {lv : am_l} {h : am_h} {c s : Nat} {v0 : Nat} (g0 : am_get lv 0 = some (.inr (.inr (some v0)))) (o0 : ob 1 v0) (hL : am_okL h.length lv = true) (hI : ob_I w_X1_clear B h0 h c s) : am_Ok am_G 1 9 (0, lv, [], h, c, s) (ty_Q w_X1_clear 0 B h0) := by
  refine k_aload 1 rfl g0 rfl ?_
  obtain ⟨fs1, u2, e3, f4, t5⟩ := hI.1.get o0 (k := 0) rfl rfl
  obtain ⟨i6, rfl, o7⟩ := t5
  refine k_get 4 rfl e3 f4 rfl ?_
  refine k_push 7 rfl rfl ?_
  refine k_push 8 rfl rfl ?_
  refine k_cl (W' := []) rfl (rw_fill hI.1 o7) rfl rfl rfl (hI.1.rc3 (Or.inl o7)) hI (by decide) hL so_n ?_
  rintro w8 h9 c10 s11 hv I12 L13 F14
  cases hv
  show am_Ok _ _ _ (11, _, [], h9, c10, s11) _
  refine k_aload 12 rfl g0 rfl ?_
  refine k_push 13 rfl rfl ?_
  obtain ⟨fs15, u16, e17, f18, t19⟩ := I12.1.get o0 (k := 4) rfl rfl
  refine k_put 16 rfl e17 rfl (List.getElem?_eq_some_iff.mp f18).1 rfl ?_
  obtain ⟨h20, E23, I21, l24⟩ := I12.put (v := .inl (0 : Int32)) o0 rfl e17 (k := 4) rfl (show ty_V 0 (.inl (0 : Int32)) from ⟨_, rfl⟩) (by decide) rfl
  rw [E23]
  have L22 := okL_eq l24 L13
  refine k_aload 17 rfl g0 rfl ?_
  refine k_push 18 rfl rfl ?_
  obtain ⟨fs25, u26, e27, f28, t29⟩ := I21.1.get o0 (k := 5) rfl rfl
  refine k_put 21 rfl e27 rfl (List.getElem?_eq_some_iff.mp f28).1 rfl ?_
  obtain ⟨h30, E33, I31, l34⟩ := I21.put (v := .inl (0 : Int32)) o0 rfl e27 (k := 5) rfl (show ty_V 0 (.inl (0 : Int32)) from ⟨_, rfl⟩) (by decide) rfl
  rw [E33]
  have L32 := okL_eq l34 L22
  refine k_aload 22 rfl g0 rfl ?_
  refine k_push 23 rfl rfl ?_
  obtain ⟨fs35, u36, e37, f38, t39⟩ := I31.1.get o0 (k := 6) rfl rfl
  refine k_put 26 rfl e37 rfl (List.getElem?_eq_some_iff.mp f38).1 rfl ?_
  obtain ⟨h40, E43, I41, l44⟩ := I31.put (v := .inl (0 : Int32)) o0 rfl e37 (k := 6) rfl (show ty_V 0 (.inl (0 : Int32)) from ⟨_, rfl⟩) (by decide) rfl
  rw [E43]
  have L42 := okL_eq l44 L32
  refine k_aload 27 rfl g0 rfl ?_
  refine k_push 28 rfl rfl ?_
  obtain ⟨fs45, u46, e47, f48, t49⟩ := I41.1.get o0 (k := 7) rfl rfl
  refine k_put 31 rfl e47 (okZ_of (Or.inl rfl)) (List.getElem?_eq_some_iff.mp f48).1 rfl ?_
  obtain ⟨h50, E53, I51, l54⟩ := I41.put (v := .inl (0 : Int32)) o0 rfl e47 (k := 7) rfl (show ty_V 1 (.inl (0 : Int32)) from ⟨_, rfl, (Or.inl rfl)⟩) (by decide) rfl
  rw [E53]
  have L52 := okL_eq l54 L42
  exact k_fin rfl rfl ⟨⟨_, rfl, rfl⟩, I51⟩
theorem c_X1_clear {h : am_h} {v0 : Nat} (hT : ty_H h) (o0 : ob 1 v0) : am_Mt 2 9 [.inr (.inr (some v0))] h (ty_Q w_X1_clear 0 (ob_P h) h) := am_Mt.of (b_X1_clear rfl o0 (okA_r hT o0 okA_n) (ob_I.start hT))
abbrev w_X1_isOverfull : List (Nat × Nat) := []
theorem b_X1_isOverfull {B : Nat} {h0 : am_h} {lv : am_l} {h : am_h} {c s : Nat} {v0 : Nat} (g0 : am_get lv 0 = some (.inr (.inr (some v0)))) (o0 : ob 1 v0) (hL : am_okL h.length lv = true) (hI : ob_I w_X1_isOverfull B h0 h c s) : am_Ok am_G 0 12 (0, lv, [], h, c, s) (ty_Q w_X1_isOverfull 3 B h0) := by
  refine k_aload 1 rfl g0 rfl ?_
  obtain ⟨fs1, u2, e3, f4, t5⟩ := hI.1.get o0 (k := 7) rfl rfl
  obtain ⟨x6, rfl, z7⟩ := t5
  refine k_get 4 rfl e3 f4 rfl ?_
  exact k_fin rfl (fin_Z z7) ⟨⟨_, rfl, ⟨_, rfl, _, rfl, z7⟩⟩, hI⟩
theorem c_X1_isOverfull {h : am_h} {v0 : Nat} (hT : ty_H h) (o0 : ob 1 v0) : am_Mt 1 12 [.inr (.inr (some v0))] h (ty_Q w_X1_isOverfull 3 (ob_P h) h) := am_Mt.of (b_X1_isOverfull rfl o0 (okA_r hT o0 okA_n) (ob_I.start hT))
abbrev w_X0_lay : List (Nat × Nat) := [(0, 3), (0, 4), (1, 4), (1, 5), (1, 6), (1, 7)]
theorem b_X0_lay_47 {B : Nat} {h0 : am_h} : ∀ (n : Nat) {lv : am_l} {h : am_h} {c s : Nat} {v0 : Nat} {v1 : Nat} {v2 : Nat} {v3 : Int32} , up_m v3 = n → am_get lv 0 = some (.inr (.inr (some v0))) → ob 0 v0 → am_get lv 1 = some (.inr (.inr (some v1))) → ob 3 v1 ∨ ob 11 v1 → am_get lv 2 = some (.inr (.inr (some v2))) → ob 1 v2 → am_get lv 3 = some (.inl v3) → am_okL h.length lv = true → ob_I w_X0_lay B h0 h c s → am_Ok am_G 4 1 (47, lv, [], h, c, s) (ty_Q w_X0_lay 3 B h0) := by
  intro n
  induction n using Nat.strongRecOn with
  | ind n ih =>
    intro lv h c s v0 v1 v2 v3 hn g0 o0 g1 o1 g2 o2 g3 hL hI
    refine k_iload 48 rfl g3 rfl ?_
    refine k_aload 49 rfl g1 rfl ?_
    refine k_cl (W' := []) rfl (rw_size hI.1 o1) rfl rfl rfl (hI.1.rc3 o1) hI (by decide) hL (so_i so_n) ?_
    rintro w1 h2 c3 s4 hv I5 L6 F7
    obtain ⟨_, rfl, x8, rfl⟩ := hv
    show am_Ok _ _ _ (52, _, [.inl x8, .inl v3], h2, c3, s4) _
    by_cases b9 : x8 ≤ v3
    · refine k_c2 141 rfl rfl (if_pos b9) ?_
      refine k_aload 142 rfl g2 rfl ?_
      refine k_cl (W' := w_X1_isOverfull) rfl (c_X1_isOverfull I5.1 o2) rfl rfl rfl (I5.1.rc o2 rfl) I5 (by decide) L6 so_n ?_
      rintro w10 h11 c12 s13 hv I14 L15 F16
      obtain ⟨_, rfl, x17, rfl, z18⟩ := hv
      show am_Ok _ _ _ (145, _, [.inl x17], h11, c12, s13) _
      by_cases b19 : x17 = 0
      · refine k_c1 148 rfl rfl (if_pos b19) ?_
        refine k_push 149 rfl rfl ?_
        refine k_goto 153 rfl rfl ?_
        exact k_fin rfl (fin_Z (Or.inr rfl)) ⟨⟨_, rfl, ⟨_, rfl, _, rfl, (Or.inr rfl)⟩⟩, I14⟩
      · refine k_c1 152 rfl rfl (if_neg b19) ?_
        refine k_push 153 rfl rfl ?_
        exact k_fin rfl (fin_Z (Or.inl rfl)) ⟨⟨_, rfl, ⟨_, rfl, _, rfl, (Or.inl rfl)⟩⟩, I14⟩
    · refine k_c2 55 rfl rfl (if_neg b9) ?_
      refine k_aload 56 rfl g2 rfl ?_
      refine k_cl (W' := w_X1_isOverfull) rfl (c_X1_isOverfull I5.1 o2) rfl rfl rfl (I5.1.rc o2 rfl) I5 (by decide) L6 so_n ?_
      rintro w20 h21 c22 s23 hv I24 L25 F26
      obtain ⟨_, rfl, x27, rfl, z28⟩ := hv
      show am_Ok _ _ _ (59, _, [.inl x27], h21, c22, s23) _
      by_cases b29 : x27 = 0
      · refine k_c1 62 rfl rfl (if_pos b29) ?_
        refine k_aload 63 rfl g1 rfl ?_
        refine k_iload 64 rfl g3 rfl ?_
        refine k_cl (W' := []) rfl (rw_get I24.1 o1) rfl rfl rfl (I24.1.rc3 o1) I24 (by decide) L25 so_n ?_
        rintro w30 h31 c32 s33 hv I34 L35 F36
        obtain ⟨_, rfl, x37, rfl⟩ := hv
        show am_Ok _ _ _ (67, _, [.inl x37], h31, c32, s33) _
        refine k_istore 69 rfl rfl ?_
        refine k_iload 71 rfl gs_eq rfl ?_
        by_cases b38 : x37 = 0
        · refine k_c1 74 rfl rfl (if_pos b38) ?_
          refine k_aload 75 rfl (gs_ne rfl rfl g0) rfl ?_
          refine k_push 76 rfl rfl ?_
          refine k_iload 77 rfl (gs_ne rfl rfl g3) rfl ?_
          refine k_push 78 rfl rfl ?_
          refine k_cl (W' := w_X0_beginFrame) rfl (c_X0_beginFrame I34.1 o0) rfl rfl rfl (I34.1.rc o0 rfl) I34 (by decide) (okL_set (i := 4) (v := .inl x37) rfl L35) so_n ?_
          rintro w39 h40 c41 s42 hv I43 L44 F45
          cases hv
          show am_Ok _ _ _ (81, _, [], h40, c41, s42) _
          refine k_goto 135 rfl rfl ?_
          refine k_iinc (v3 + 1) 138 rfl (gs_ne rfl rfl g3) rfl rfl ?_
          refine k_goto 47 rfl rfl ?_
          exact ih _ (by rw [← hn]; exact up_lt b9) rfl (gs_ne rfl rfl (gs_ne rfl rfl g0)) o0 (gs_ne rfl rfl (gs_ne rfl rfl g1)) o1 (gs_ne rfl rfl (gs_ne rfl rfl g2)) o2 gs_eq (okL_set (i := 3) (v := .inl (v3 + 1)) rfl L44) I43
        · refine k_c1 84 rfl rfl (if_neg b38) ?_
          refine k_iload 86 rfl gs_eq rfl ?_
          refine k_push 87 rfl rfl ?_
          by_cases b46 : x37 = (1 : Int32)
          · refine k_c2 90 rfl rfl (if_pos b46) ?_
            refine k_aload 91 rfl (gs_ne rfl rfl g0) rfl ?_
            refine k_push 92 rfl rfl ?_
            refine k_iload 93 rfl (gs_ne rfl rfl g3) rfl ?_
            refine k_push 94 rfl rfl ?_
            refine k_cl (W' := w_X0_beginFrame) rfl (c_X0_beginFrame I34.1 o0) rfl rfl rfl (I34.1.rc o0 rfl) I34 (by decide) (okL_set (i := 4) (v := .inl x37) rfl L35) so_n ?_
            rintro w47 h48 c49 s50 hv I51 L52 F53
            cases hv
            show am_Ok _ _ _ (97, _, [], h48, c49, s50) _
            refine k_aload 98 rfl (gs_ne rfl rfl g0) rfl ?_
            obtain ⟨fs54, u55, e56, f57, t58⟩ := I51.1.get o0 (k := 2) rfl rfl
            obtain ⟨i59, rfl, o60⟩ := t58
            refine k_get 101 rfl e56 f57 rfl ?_
            refine k_push 102 rfl rfl ?_
            refine k_cl (W' := []) rfl ((rw_add (W := []) I51.1 (Or.inl o60)).imp (fun _ z => z.1)) rfl rfl rfl (I51.1.rc3 (Or.inl o60)) I51 (by decide) L52 so_n ?_
            rintro w61 h62 c63 s64 hv I65 L66 F67
            obtain ⟨_, rfl, x68, rfl, z69⟩ := hv
            show am_Ok _ _ _ (105, _, [.inl x68], h62, c63, s64) _
            refine k_pop 106 rfl rfl rfl ?_
            refine k_goto 135 rfl rfl ?_
            refine k_iinc (v3 + 1) 138 rfl (gs_ne rfl rfl g3) rfl rfl ?_
            refine k_goto 47 rfl rfl ?_
            exact ih _ (by rw [← hn]; exact up_lt b9) rfl (gs_ne rfl rfl (gs_ne rfl rfl g0)) o0 (gs_ne rfl rfl (gs_ne rfl rfl g1)) o1 (gs_ne rfl rfl (gs_ne rfl rfl g2)) o2 gs_eq (okL_set (i := 3) (v := .inl (v3 + 1)) rfl L66) I65
          · refine k_c2 109 rfl rfl (if_neg b46) ?_
            refine k_aload 110 rfl (gs_ne rfl rfl g0) rfl ?_
            refine k_aload 111 rfl (gs_ne rfl rfl g0) rfl ?_
            refine k_aload 112 rfl (gs_ne rfl rfl g0) rfl ?_
            obtain ⟨fs70, u71, e72, f73, t74⟩ := I34.1.get o0 (k := 2) rfl rfl
            obtain ⟨i75, rfl, o76⟩ := t74
            refine k_get 115 rfl e72 f73 rfl ?_
            refine k_cl (W' := []) rfl (rw_size I34.1 (Or.inl o76)) rfl rfl rfl (I34.1.rc3 (Or.inl o76)) I34 (by decide) (okL_set (i := 4) (v := .inl x37) rfl L35) (so_r I34 o0 (so_r I34 o0 so_n)) ?_
            rintro w77 h78 c79 s80 hv I81 L82 F83
            obtain ⟨_, rfl, x84, rfl⟩ := hv
            show am_Ok _ _ _ (118, _, [.inl x84, .inr (.inr (some v0)), .inr (.inr (some v0))], h78, c79, s80) _
            refine k_push 119 rfl rfl ?_
            obtain ⟨x85, q86⟩ : ∃ q : Int32, q = (x84 - (1 : Int32)) := ⟨_, rfl⟩
            refine k_bin x85 120 rfl q86.symm rfl ?_
            refine k_iload 122 rfl gs_eq rfl ?_
            refine k_push 123 rfl rfl ?_
            obtain ⟨x87, q88⟩ : ∃ q : Int32, q = (x37 - (2 : Int32)) := ⟨_, rfl⟩
            refine k_bin x87 124 rfl q88.symm rfl ?_
            obtain ⟨x89, q90⟩ : ∃ q : Int32, q = (x85 - x87) := ⟨_, rfl⟩
            refine k_bin x89 125 rfl q90.symm rfl ?_
            refine k_iload 126 rfl (gs_ne rfl rfl g3) rfl ?_
            refine k_cl (W' := w_X0_layVariable) rfl (c_X0_layVariable I81.1 o0) rfl rfl rfl (I81.1.rc o0 rfl) I81 (by decide) L82 (so_r I81 o0 so_n) ?_
            rintro w91 h92 c93 s94 hv I95 L96 F97
            obtain ⟨_, rfl, x98, rfl⟩ := hv
            show am_Ok _ _ _ (129, _, [.inl x98, .inr (.inr (some v0))], h92, c93, s94) _
            refine k_iload 130 rfl (gs_ne rfl rfl g3) rfl ?_
            refine k_push 131 rfl rfl ?_
            obtain ⟨x99, q100⟩ : ∃ q : Int32, q = (v3 + (1 : Int32)) := ⟨_, rfl⟩
            refine k_bin x99 132 rfl q100.symm rfl ?_
            refine k_cl (W' := w_X0_finish) rfl (c_X0_finish I95.1 o0) rfl rfl rfl (I95.1.rc o0 rfl) I95 (by decide) L96 so_n ?_
            rintro w101 h102 c103 s104 hv I105 L106 F107
            cases hv
            show am_Ok _ _ _ (135, _, [], h102, c103, s104) _
            refine k_iinc (v3 + 1) 138 rfl (gs_ne rfl rfl g3) rfl rfl ?_
            refine k_goto 47 rfl rfl ?_
            exact ih _ (by rw [← hn]; exact up_lt b9) rfl (gs_ne rfl rfl (gs_ne rfl rfl g0)) o0 (gs_ne rfl rfl (gs_ne rfl rfl g1)) o1 (gs_ne rfl rfl (gs_ne rfl rfl g2)) o2 gs_eq (okL_set (i := 3) (v := .inl (v3 + 1)) rfl L106) I105
      · refine k_c1 141 rfl rfl (if_neg b29) ?_
        refine k_aload 142 rfl g2 rfl ?_
        refine k_cl (W' := w_X1_isOverfull) rfl (c_X1_isOverfull I24.1 o2) rfl rfl rfl (I24.1.rc o2 rfl) I24 (by decide) L25 so_n ?_
        rintro w108 h109 c110 s111 hv I112 L113 F114
        obtain ⟨_, rfl, x115, rfl, z116⟩ := hv
        show am_Ok _ _ _ (145, _, [.inl x115], h109, c110, s111) _
        by_cases b117 : x115 = 0
        · refine k_c1 148 rfl rfl (if_pos b117) ?_
          refine k_push 149 rfl rfl ?_
          refine k_goto 153 rfl rfl ?_
          exact k_fin rfl (fin_Z (Or.inr rfl)) ⟨⟨_, rfl, ⟨_, rfl, _, rfl, (Or.inr rfl)⟩⟩, I112⟩
        · refine k_c1 152 rfl rfl (if_neg b117) ?_
          refine k_push 153 rfl rfl ?_
          exact k_fin rfl (fin_Z (Or.inl rfl)) ⟨⟨_, rfl, ⟨_, rfl, _, rfl, (Or.inl rfl)⟩⟩, I112⟩
theorem b_X0_lay {B : Nat} {h0 : am_h} {lv : am_l} {h : am_h} {c s : Nat} {v0 : Nat} {v1 : Nat} {v2 : Nat} (g0 : am_get lv 0 = some (.inr (.inr (some v0)))) (o0 : ob 0 v0) (g1 : am_get lv 1 = some (.inr (.inr (some v1)))) (o1 : ob 3 v1 ∨ ob 11 v1) (g2 : am_get lv 2 = some (.inr (.inr (some v2)))) (o2 : ob 1 v2) (hL : am_okL h.length lv = true) (hI : ob_I w_X0_lay B h0 h c s) : am_Ok am_G 4 1 (0, lv, [], h, c, s) (ty_Q w_X0_lay 3 B h0) := by
  refine k_aload 1 rfl g2 rfl ?_
  refine k_cl (W' := w_X1_clear) rfl (c_X1_clear hI.1 o2) rfl rfl rfl (hI.1.rc o2 rfl) hI (by decide) hL so_n ?_
  rintro w118 h119 c120 s121 hv I122 L123 F124
  cases hv
  show am_Ok _ _ _ (4, _, [], h119, c120, s121) _
  refine k_aload 5 rfl g0 rfl ?_
  refine k_aload 6 rfl g2 rfl ?_
  obtain ⟨fs125, u126, e127, f128, t129⟩ := I122.1.get o0 (k := 3) rfl rfl
  refine k_put 9 rfl e127 rfl (List.getElem?_eq_some_iff.mp f128).1 rfl ?_
  obtain ⟨h130, E133, I131, l134⟩ := I122.put (v := .inr (.inr (some v2))) o0 rfl e127 (k := 3) rfl (show ty_V 3 (.inr (.inr (some v2))) from ⟨_, rfl, o2⟩) (by decide) rfl
  rw [E133]
  have L132 := okL_eq l134 L123
  refine k_aload 10 rfl g0 rfl ?_
  refine k_push 11 rfl rfl ?_
  obtain ⟨fs135, u136, e137, f138, t139⟩ := I131.1.get o0 (k := 4) rfl rfl
  refine k_put 14 rfl e137 rfl (List.getElem?_eq_some_iff.mp f138).1 rfl ?_
  obtain ⟨h140, E143, I141, l144⟩ := I131.put (v := .inl (0 : Int32)) o0 rfl e137 (k := 4) rfl (show ty_V 0 (.inl (0 : Int32)) from ⟨_, rfl⟩) (by decide) rfl
  rw [E143]
  have L142 := okL_eq l144 L132
  refine k_aload 15 rfl g0 rfl ?_
  obtain ⟨fs145, u146, e147, f148, t149⟩ := I141.1.get o0 (k := 0) rfl rfl
  obtain ⟨i150, rfl, o151⟩ := t149
  refine k_get 18 rfl e147 f148 rfl ?_
  refine k_push 19 rfl rfl ?_
  refine k_cl (W' := []) rfl (rw_cut (W := []) I141.1 (Or.inl o151)) rfl rfl rfl (I141.1.rc3 (Or.inl o151)) I141 (by decide) L142 so_n ?_
  rintro w152 h153 c154 s155 hv I156 L157 F158
  cases hv
  show am_Ok _ _ _ (22, _, [], h153, c154, s155) _
  refine k_aload 23 rfl g0 rfl ?_
  obtain ⟨fs159, u160, e161, f162, t163⟩ := I156.1.get o0 (k := 1) rfl rfl
  obtain ⟨i164, rfl, o165⟩ := t163
  refine k_get 26 rfl e161 f162 rfl ?_
  refine k_push 27 rfl rfl ?_
  refine k_cl (W' := []) rfl (rw_cut (W := []) I156.1 (Or.inl o165)) rfl rfl rfl (I156.1.rc3 (Or.inl o165)) I156 (by decide) L157 so_n ?_
  rintro w166 h167 c168 s169 hv I170 L171 F172
  cases hv
  show am_Ok _ _ _ (30, _, [], h167, c168, s169) _
  refine k_aload 31 rfl g0 rfl ?_
  obtain ⟨fs173, u174, e175, f176, t177⟩ := I170.1.get o0 (k := 2) rfl rfl
  obtain ⟨i178, rfl, o179⟩ := t177
  refine k_get 34 rfl e175 f176 rfl ?_
  refine k_push 35 rfl rfl ?_
  refine k_cl (W' := []) rfl (rw_cut (W := []) I170.1 (Or.inl o179)) rfl rfl rfl (I170.1.rc3 (Or.inl o179)) I170 (by decide) L171 so_n ?_
  rintro w180 h181 c182 s183 hv I184 L185 F186
  cases hv
  show am_Ok _ _ _ (38, _, [], h181, c182, s183) _
  refine k_aload 39 rfl g2 rfl ?_
  refine k_push 40 rfl rfl ?_
  refine k_push 41 rfl rfl ?_
  refine k_cl (W' := w_X1_make) rfl (c_X1_make I184.1 o2) rfl rfl rfl (I184.1.rc o2 rfl) I184 (by decide) L185 so_n ?_
  rintro w187 h188 c189 s190 hv I191 L192 F193
  obtain ⟨_, rfl, x194, rfl⟩ := hv
  show am_Ok _ _ _ (44, _, [.inl x194], h188, c189, s190) _
  refine k_pop 45 rfl rfl rfl ?_
  refine k_push 46 rfl rfl ?_
  refine k_istore 47 rfl rfl ?_
  exact b_X0_lay_47 _ rfl (gs_ne rfl rfl g0) o0 (gs_ne rfl rfl g1) o1 (gs_ne rfl rfl g2) o2 gs_eq (okL_set (i := 3) (v := .inl (0 : Int32)) rfl L192) I191
theorem c_X0_lay {h : am_h} {v0 : Nat} {v1 : Nat} {v2 : Nat} (hT : ty_H h) (o0 : ob 0 v0) (o1 : ob 3 v1 ∨ ob 11 v1) (o2 : ob 1 v2) : am_Mt 5 1 [.inr (.inr (some v0)), .inr (.inr (some v1)), .inr (.inr (some v2))] h (ty_Q w_X0_lay 3 (ob_P h) h) := am_Mt.of (b_X0_lay rfl o0 rfl o1 rfl o2 (okA_r hT o0 (okA_r2 hT o1 (okA_r hT o2 okA_n))) (ob_I.start hT))
abbrev w_X1_copy : List (Nat × Nat) := [(1, 4), (1, 5), (1, 6), (1, 7)]
theorem b_X1_copy {B : Nat} {h0 : am_h} {lv : am_l} {h : am_h} {c s : Nat} {v0 : Nat} {v1 : Nat} (g0 : am_get lv 0 = some (.inr (.inr (some v0)))) (o0 : ob 1 v0) (g1 : am_get lv 1 = some (.inr (.inr (some v1)))) (o1 : ob 1 v1) (hL : am_okL h.length lv = true) (hI : ob_I w_X1_copy B h0 h c s) : am_Ok am_G 2 10 (0, lv, [], h, c, s) (ty_Q w_X1_copy 0 B h0) := by
  refine k_aload 1 rfl g0 rfl ?_
  obtain ⟨fs1, u2, e3, f4, t5⟩ := hI.1.get o0 (k := 0) rfl rfl
  obtain ⟨i6, rfl, o7⟩ := t5
  refine k_get 4 rfl e3 f4 rfl ?_
  refine k_aload 5 rfl g1 rfl ?_
  obtain ⟨fs8, u9, e10, f11, t12⟩ := hI.1.get o1 (k := 0) rfl rfl
  obtain ⟨i13, rfl, o14⟩ := t12
  refine k_get 8 rfl e10 f11 rfl ?_
  refine k_cl (W' := []) rfl (rw_copy hI.1 o7 (Or.inl o14)) rfl rfl rfl (hI.1.rc3 (Or.inl o7)) hI (by decide) hL so_n ?_
  rintro w15 h16 c17 s18 hv I19 L20 F21
  cases hv
  show am_Ok _ _ _ (11, _, [], h16, c17, s18) _
  refine k_aload 12 rfl g0 rfl ?_
  obtain ⟨fs22, u23, e24, f25, t26⟩ := I19.1.get o0 (k := 1) rfl rfl
  obtain ⟨i27, rfl, o28⟩ := t26
  refine k_get 15 rfl e24 f25 rfl ?_
  refine k_aload 16 rfl g1 rfl ?_
  obtain ⟨fs29, u30, e31, f32, t33⟩ := I19.1.get o1 (k := 1) rfl rfl
  obtain ⟨i34, rfl, o35⟩ := t33
  refine k_get 19 rfl e31 f32 rfl ?_
  refine k_cl (W' := []) rfl (rw_copy I19.1 o28 (Or.inl o35)) rfl rfl rfl (I19.1.rc3 (Or.inl o28)) I19 (by decide) L20 so_n ?_
  rintro w36 h37 c38 s39 hv I40 L41 F42
  cases hv
  show am_Ok _ _ _ (22, _, [], h37, c38, s39) _
  refine k_aload 23 rfl g0 rfl ?_
  obtain ⟨fs43, u44, e45, f46, t47⟩ := I40.1.get o0 (k := 2) rfl rfl
  obtain ⟨i48, rfl, o49⟩ := t47
  refine k_get 26 rfl e45 f46 rfl ?_
  refine k_aload 27 rfl g1 rfl ?_
  obtain ⟨fs50, u51, e52, f53, t54⟩ := I40.1.get o1 (k := 2) rfl rfl
  obtain ⟨i55, rfl, o56⟩ := t54
  refine k_get 30 rfl e52 f53 rfl ?_
  refine k_cl (W' := []) rfl (rw_copy I40.1 o49 (Or.inl o56)) rfl rfl rfl (I40.1.rc3 (Or.inl o49)) I40 (by decide) L41 so_n ?_
  rintro w57 h58 c59 s60 hv I61 L62 F63
  cases hv
  show am_Ok _ _ _ (33, _, [], h58, c59, s60) _
  refine k_aload 34 rfl g0 rfl ?_
  refine k_aload 35 rfl g1 rfl ?_
  obtain ⟨fs64, u65, e66, f67, t68⟩ := I61.1.get o1 (k := 4) rfl rfl
  obtain ⟨x69, rfl⟩ := t68
  refine k_get 38 rfl e66 f67 rfl ?_
  obtain ⟨fs70, u71, e72, f73, t74⟩ := I61.1.get o0 (k := 4) rfl rfl
  refine k_put 41 rfl e72 rfl (List.getElem?_eq_some_iff.mp f73).1 rfl ?_
  obtain ⟨h75, E78, I76, l79⟩ := I61.put (v := .inl x69) o0 rfl e72 (k := 4) rfl (show ty_V 0 (.inl x69) from ⟨_, rfl⟩) (by decide) rfl
  rw [E78]
  have L77 := okL_eq l79 L62
  refine k_aload 42 rfl g0 rfl ?_
  refine k_aload 43 rfl g1 rfl ?_
  obtain ⟨fs80, u81, e82, f83, t84⟩ := I76.1.get o1 (k := 5) rfl rfl
  obtain ⟨x85, rfl⟩ := t84
  refine k_get 46 rfl e82 f83 rfl ?_
  obtain ⟨fs86, u87, e88, f89, t90⟩ := I76.1.get o0 (k := 5) rfl rfl
  refine k_put 49 rfl e88 rfl (List.getElem?_eq_some_iff.mp f89).1 rfl ?_
  obtain ⟨h91, E94, I92, l95⟩ := I76.put (v := .inl x85) o0 rfl e88 (k := 5) rfl (show ty_V 0 (.inl x85) from ⟨_, rfl⟩) (by decide) rfl
  rw [E94]
  have L93 := okL_eq l95 L77
  refine k_aload 50 rfl g0 rfl ?_
  refine k_aload 51 rfl g1 rfl ?_
  obtain ⟨fs96, u97, e98, f99, t100⟩ := I92.1.get o1 (k := 6) rfl rfl
  obtain ⟨x101, rfl⟩ := t100
  refine k_get 54 rfl e98 f99 rfl ?_
  obtain ⟨fs102, u103, e104, f105, t106⟩ := I92.1.get o0 (k := 6) rfl rfl
  refine k_put 57 rfl e104 rfl (List.getElem?_eq_some_iff.mp f105).1 rfl ?_
  obtain ⟨h107, E110, I108, l111⟩ := I92.put (v := .inl x101) o0 rfl e104 (k := 6) rfl (show ty_V 0 (.inl x101) from ⟨_, rfl⟩) (by decide) rfl
  rw [E110]
  have L109 := okL_eq l111 L93
  refine k_aload 58 rfl g0 rfl ?_
  refine k_aload 59 rfl g1 rfl ?_
  obtain ⟨fs112, u113, e114, f115, t116⟩ := I108.1.get o1 (k := 7) rfl rfl
  obtain ⟨x117, rfl, z118⟩ := t116
  refine k_get 62 rfl e114 f115 rfl ?_
  obtain ⟨fs119, u120, e121, f122, t123⟩ := I108.1.get o0 (k := 7) rfl rfl
  refine k_put 65 rfl e121 (okZ_of z118) (List.getElem?_eq_some_iff.mp f122).1 rfl ?_
  obtain ⟨h124, E127, I125, l128⟩ := I108.put (v := .inl x117) o0 rfl e121 (k := 7) rfl (show ty_V 1 (.inl x117) from ⟨_, rfl, z118⟩) (by decide) rfl
  rw [E127]
  have L126 := okL_eq l128 L109
  exact k_fin rfl rfl ⟨⟨_, rfl, rfl⟩, I125⟩
theorem c_X1_copy {h : am_h} {v0 : Nat} {v1 : Nat} (hT : ty_H h) (o0 : ob 1 v0) (o1 : ob 1 v1) : am_Mt 3 10 [.inr (.inr (some v0)), .inr (.inr (some v1))] h (ty_Q w_X1_copy 0 (ob_P h) h) := am_Mt.of (b_X1_copy rfl o0 rfl o1 (okA_r hT o0 (okA_r hT o1 okA_n)) (ob_I.start hT))
abbrev w_X1_size : List (Nat × Nat) := []
theorem b_X1_size {B : Nat} {h0 : am_h} {lv : am_l} {h : am_h} {c s : Nat} {v0 : Nat} (g0 : am_get lv 0 = some (.inr (.inr (some v0)))) (o0 : ob 1 v0) (hL : am_okL h.length lv = true) (hI : ob_I w_X1_size B h0 h c s) : am_Ok am_G 0 11 (0, lv, [], h, c, s) (ty_Q w_X1_size 2 B h0) := by
  refine k_aload 1 rfl g0 rfl ?_
  obtain ⟨fs1, u2, e3, f4, t5⟩ := hI.1.get o0 (k := 4) rfl rfl
  obtain ⟨x6, rfl⟩ := t5
  refine k_get 4 rfl e3 f4 rfl ?_
  exact k_fin rfl rfl ⟨⟨_, rfl, ⟨_, rfl, _, rfl⟩⟩, hI⟩
theorem c_X1_size {h : am_h} {v0 : Nat} (hT : ty_H h) (o0 : ob 1 v0) : am_Mt 1 11 [.inr (.inr (some v0))] h (ty_Q w_X1_size 2 (ob_P h) h) := am_Mt.of (b_X1_size rfl o0 (okA_r hT o0 okA_n) (ob_I.start hT))
abbrev w_X1_has : List (Nat × Nat) := []
theorem b_X1_has {B : Nat} {h0 : am_h} {lv : am_l} {h : am_h} {c s : Nat} {v0 : Nat} {v1 : Int32} (g0 : am_get lv 0 = some (.inr (.inr (some v0)))) (o0 : ob 1 v0) (g1 : am_get lv 1 = some (.inl v1)) (hL : am_okL h.length lv = true) (hI : ob_I w_X1_has B h0 h c s) : am_Ok am_G 1 13 (0, lv, [], h, c, s) (ty_Q w_X1_has 3 B h0) := by
  refine k_iload 1 rfl g1 rfl ?_
  by_cases b1 : v1 < 0
  · refine k_c1 27 rfl rfl (if_pos b1) ?_
    refine k_push 28 rfl rfl ?_
    exact k_fin rfl (fin_Z (Or.inl rfl)) ⟨⟨_, rfl, ⟨_, rfl, _, rfl, (Or.inl rfl)⟩⟩, hI⟩
  · refine k_c1 4 rfl rfl (if_neg b1) ?_
    refine k_iload 5 rfl g1 rfl ?_
    refine k_push 8 rfl rfl ?_
    by_cases b2 : (400 : Int32) ≤ v1
    · refine k_c2 27 rfl rfl (if_pos b2) ?_
      refine k_push 28 rfl rfl ?_
      exact k_fin rfl (fin_Z (Or.inl rfl)) ⟨⟨_, rfl, ⟨_, rfl, _, rfl, (Or.inl rfl)⟩⟩, hI⟩
    · refine k_c2 11 rfl rfl (if_neg b2) ?_
      refine k_aload 12 rfl g0 rfl ?_
      obtain ⟨fs3, u4, e5, f6, t7⟩ := hI.1.get o0 (k := 0) rfl rfl
      obtain ⟨i8, rfl, o9⟩ := t7
      refine k_get 15 rfl e5 f6 rfl ?_
      refine k_iload 16 rfl g1 rfl ?_
      refine k_cl (W' := []) rfl (rw_get hI.1 (Or.inl o9)) rfl rfl rfl (hI.1.rc3 (Or.inl o9)) hI (by decide) hL so_n ?_
      rintro w10 h11 c12 s13 hv I14 L15 F16
      obtain ⟨_, rfl, x17, rfl⟩ := hv
      show am_Ok _ _ _ (19, _, [.inl x17], h11, c12, s13) _
      refine k_push 20 rfl rfl ?_
      by_cases b18 : x17 = (-1 : Int32)
      · refine k_c2 27 rfl rfl (if_pos b18) ?_
        refine k_push 28 rfl rfl ?_
        exact k_fin rfl (fin_Z (Or.inl rfl)) ⟨⟨_, rfl, ⟨_, rfl, _, rfl, (Or.inl rfl)⟩⟩, I14⟩
      · refine k_c2 23 rfl rfl (if_neg b18) ?_
        refine k_push 24 rfl rfl ?_
        refine k_goto 28 rfl rfl ?_
        exact k_fin rfl (fin_Z (Or.inr rfl)) ⟨⟨_, rfl, ⟨_, rfl, _, rfl, (Or.inr rfl)⟩⟩, I14⟩
theorem c_X1_has {h : am_h} {v0 : Nat} {v1 : Int32} (hT : ty_H h) (o0 : ob 1 v0) : am_Mt 2 13 [.inr (.inr (some v0)), .inl v1] h (ty_Q w_X1_has 3 (ob_P h) h) := am_Mt.of (b_X1_has rfl o0 rfl (okA_r hT o0 (okA_i okA_n)) (ob_I.start hT))
abbrev w_X1_kind : List (Nat × Nat) := []
theorem b_X1_kind {B : Nat} {h0 : am_h} {lv : am_l} {h : am_h} {c s : Nat} {v0 : Nat} {v1 : Int32} (g0 : am_get lv 0 = some (.inr (.inr (some v0)))) (o0 : ob 1 v0) (g1 : am_get lv 1 = some (.inl v1)) (hL : am_okL h.length lv = true) (hI : ob_I w_X1_kind B h0 h c s) : am_Ok am_G 1 14 (0, lv, [], h, c, s) (ty_Q w_X1_kind 2 B h0) := by
  refine k_aload 1 rfl g0 rfl ?_
  obtain ⟨fs1, u2, e3, f4, t5⟩ := hI.1.get o0 (k := 0) rfl rfl
  obtain ⟨i6, rfl, o7⟩ := t5
  refine k_get 4 rfl e3 f4 rfl ?_
  refine k_iload 5 rfl g1 rfl ?_
  refine k_cl (W' := []) rfl (rw_get hI.1 (Or.inl o7)) rfl rfl rfl (hI.1.rc3 (Or.inl o7)) hI (by decide) hL so_n ?_
  rintro w8 h9 c10 s11 hv I12 L13 F14
  obtain ⟨_, rfl, x15, rfl⟩ := hv
  show am_Ok _ _ _ (8, _, [.inl x15], h9, c10, s11) _
  exact k_fin rfl rfl ⟨⟨_, rfl, ⟨_, rfl, _, rfl⟩⟩, I12⟩
theorem c_X1_kind {h : am_h} {v0 : Nat} {v1 : Int32} (hT : ty_H h) (o0 : ob 1 v0) : am_Mt 2 14 [.inr (.inr (some v0)), .inl v1] h (ty_Q w_X1_kind 2 (ob_P h) h) := am_Mt.of (b_X1_kind rfl o0 rfl (okA_r hT o0 (okA_i okA_n)) (ob_I.start hT))
abbrev w_X1_level : List (Nat × Nat) := []
theorem b_X1_level {B : Nat} {h0 : am_h} {lv : am_l} {h : am_h} {c s : Nat} {v0 : Nat} {v1 : Int32} (g0 : am_get lv 0 = some (.inr (.inr (some v0)))) (o0 : ob 1 v0) (g1 : am_get lv 1 = some (.inl v1)) (hL : am_okL h.length lv = true) (hI : ob_I w_X1_level B h0 h c s) : am_Ok am_G 1 15 (0, lv, [], h, c, s) (ty_Q w_X1_level 2 B h0) := by
  refine k_aload 1 rfl g0 rfl ?_
  obtain ⟨fs1, u2, e3, f4, t5⟩ := hI.1.get o0 (k := 1) rfl rfl
  obtain ⟨i6, rfl, o7⟩ := t5
  refine k_get 4 rfl e3 f4 rfl ?_
  refine k_iload 5 rfl g1 rfl ?_
  refine k_cl (W' := []) rfl (rw_get hI.1 (Or.inl o7)) rfl rfl rfl (hI.1.rc3 (Or.inl o7)) hI (by decide) hL so_n ?_
  rintro w8 h9 c10 s11 hv I12 L13 F14
  obtain ⟨_, rfl, x15, rfl⟩ := hv
  show am_Ok _ _ _ (8, _, [.inl x15], h9, c10, s11) _
  exact k_fin rfl rfl ⟨⟨_, rfl, ⟨_, rfl, _, rfl⟩⟩, I12⟩
theorem c_X1_level {h : am_h} {v0 : Nat} {v1 : Int32} (hT : ty_H h) (o0 : ob 1 v0) : am_Mt 2 15 [.inr (.inr (some v0)), .inl v1] h (ty_Q w_X1_level 2 (ob_P h) h) := am_Mt.of (b_X1_level rfl o0 rfl (okA_r hT o0 (okA_i okA_n)) (ob_I.start hT))
abbrev w_X1_ports : List (Nat × Nat) := []
theorem b_X1_ports {B : Nat} {h0 : am_h} {lv : am_l} {h : am_h} {c s : Nat} {v0 : Nat} {v1 : Int32} (g0 : am_get lv 0 = some (.inr (.inr (some v0)))) (o0 : ob 1 v0) (g1 : am_get lv 1 = some (.inl v1)) (hL : am_okL h.length lv = true) (hI : ob_I w_X1_ports B h0 h c s) : am_Ok am_G 1 16 (0, lv, [], h, c, s) (ty_Q w_X1_ports 2 B h0) := by
  refine k_aload 1 rfl g0 rfl ?_
  obtain ⟨fs1, u2, e3, f4, t5⟩ := hI.1.get o0 (k := 0) rfl rfl
  obtain ⟨i6, rfl, o7⟩ := t5
  refine k_get 4 rfl e3 f4 rfl ?_
  refine k_iload 5 rfl g1 rfl ?_
  refine k_cl (W' := []) rfl (rw_get hI.1 (Or.inl o7)) rfl rfl rfl (hI.1.rc3 (Or.inl o7)) hI (by decide) hL so_n ?_
  rintro w8 h9 c10 s11 hv I12 L13 F14
  obtain ⟨_, rfl, x15, rfl⟩ := hv
  show am_Ok _ _ _ (8, _, [.inl x15], h9, c10, s11) _
  refine k_istore 9 rfl rfl ?_
  refine k_iload 10 rfl gs_eq rfl ?_
  by_cases b16 : x15 < 0
  · refine k_c1 29 rfl rfl (if_pos b16) ?_
    refine k_push 30 rfl rfl ?_
    exact k_fin rfl rfl ⟨⟨_, rfl, ⟨_, rfl, _, rfl⟩⟩, I12⟩
  · refine k_c1 13 rfl rfl (if_neg b16) ?_
    refine k_iload 14 rfl gs_eq rfl ?_
    refine k_push 18 rfl rfl ?_
    by_cases b17 : (7 : Int32) ≤ x15
    · refine k_c2 29 rfl rfl (if_pos b17) ?_
      refine k_push 30 rfl rfl ?_
      exact k_fin rfl rfl ⟨⟨_, rfl, ⟨_, rfl, _, rfl⟩⟩, I12⟩
    · refine k_c2 21 rfl rfl (if_neg b17) ?_
      refine k_pat 26 rfl gs_eq ⟨b16, pat_7 b16 b17⟩ rfl ?_
      generalize am_PT.getD x15.toNatClampNeg 0 = x18
      refine k_goto 30 rfl rfl ?_
      exact k_fin rfl rfl ⟨⟨_, rfl, ⟨_, rfl, _, rfl⟩⟩, I12⟩
theorem c_X1_ports {h : am_h} {v0 : Nat} {v1 : Int32} (hT : ty_H h) (o0 : ob 1 v0) : am_Mt 2 16 [.inr (.inr (some v0)), .inl v1] h (ty_Q w_X1_ports 2 (ob_P h) h) := am_Mt.of (b_X1_ports rfl o0 rfl (okA_r hT o0 (okA_i okA_n)) (ob_I.start hT))
abbrev w_X1_wire : List (Nat × Nat) := []
theorem b_X1_wire {B : Nat} {h0 : am_h} {lv : am_l} {h : am_h} {c s : Nat} {v0 : Nat} {v1 : Int32} (g0 : am_get lv 0 = some (.inr (.inr (some v0)))) (o0 : ob 1 v0) (g1 : am_get lv 1 = some (.inl v1)) (hL : am_okL h.length lv = true) (hI : ob_I w_X1_wire B h0 h c s) : am_Ok am_G 1 17 (0, lv, [], h, c, s) (ty_Q w_X1_wire 2 B h0) := by
  refine k_aload 1 rfl g0 rfl ?_
  obtain ⟨fs1, u2, e3, f4, t5⟩ := hI.1.get o0 (k := 2) rfl rfl
  obtain ⟨i6, rfl, o7⟩ := t5
  refine k_get 4 rfl e3 f4 rfl ?_
  refine k_iload 5 rfl g1 rfl ?_
  refine k_cl (W' := []) rfl (rw_get hI.1 (Or.inl o7)) rfl rfl rfl (hI.1.rc3 (Or.inl o7)) hI (by decide) hL so_n ?_
  rintro w8 h9 c10 s11 hv I12 L13 F14
  obtain ⟨_, rfl, x15, rfl⟩ := hv
  show am_Ok _ _ _ (8, _, [.inl x15], h9, c10, s11) _
  exact k_fin rfl rfl ⟨⟨_, rfl, ⟨_, rfl, _, rfl⟩⟩, I12⟩
theorem c_X1_wire {h : am_h} {v0 : Nat} {v1 : Int32} (hT : ty_H h) (o0 : ob 1 v0) : am_Mt 2 17 [.inr (.inr (some v0)), .inl v1] h (ty_Q w_X1_wire 2 (ob_P h) h) := am_Mt.of (b_X1_wire rfl o0 rfl (okA_r hT o0 (okA_i okA_n)) (ob_I.start hT))
abbrev w_X1_sizeOfKind : List (Nat × Nat) := []
theorem b_X1_sizeOfKind_4 {B : Nat} {h0 : am_h} : ∀ (n : Nat) {lv : am_l} {h : am_h} {c s : Nat} {v0 : Nat} {v1 : Int32} {v2 : Int32} {v3 : Int32} , up_m v3 = n → am_get lv 0 = some (.inr (.inr (some v0))) → ob 1 v0 → am_get lv 1 = some (.inl v1) → am_get lv 2 = some (.inl v2) → am_get lv 3 = some (.inl v3) → am_okL h.length lv = true → ob_I w_X1_sizeOfKind B h0 h c s → am_Ok am_G 1 20 (4, lv, [], h, c, s) (ty_Q w_X1_sizeOfKind 2 B h0) := by
  intro n
  induction n using Nat.strongRecOn with
  | ind n ih =>
    intro lv h c s v0 v1 v2 v3 hn g0 o0 g1 g2 g3 hL hI
    refine k_iload 5 rfl g3 rfl ?_
    refine k_aload 6 rfl g0 rfl ?_
    obtain ⟨fs1, u2, e3, f4, t5⟩ := hI.1.get o0 (k := 6) rfl rfl
    obtain ⟨x6, rfl⟩ := t5
    refine k_get 9 rfl e3 f4 rfl ?_
    by_cases b7 : x6 ≤ v3
    · refine k_c2 33 rfl rfl (if_pos b7) ?_
      refine k_iload 34 rfl g2 rfl ?_
      exact k_fin rfl rfl ⟨⟨_, rfl, ⟨_, rfl, _, rfl⟩⟩, hI⟩
    · refine k_c2 12 rfl rfl (if_neg b7) ?_
      refine k_aload 13 rfl g0 rfl ?_
      obtain ⟨fs8, u9, e10, f11, t12⟩ := hI.1.get o0 (k := 0) rfl rfl
      obtain ⟨i13, rfl, o14⟩ := t12
      refine k_get 16 rfl e10 f11 rfl ?_
      refine k_iload 17 rfl g3 rfl ?_
      refine k_cl (W' := []) rfl (rw_get hI.1 (Or.inl o14)) rfl rfl rfl (hI.1.rc3 (Or.inl o14)) hI (by decide) hL so_n ?_
      rintro w15 h16 c17 s18 hv I19 L20 F21
      obtain ⟨_, rfl, x22, rfl⟩ := hv
      show am_Ok _ _ _ (20, _, [.inl x22], h16, c17, s18) _
      refine k_iload 21 rfl g1 rfl ?_
      by_cases b23 : x22 = v1
      · refine k_c2 24 rfl rfl (if_pos b23) ?_
        refine k_iinc (v2 + 1) 27 rfl g2 rfl rfl ?_
        refine k_iinc (v3 + 1) 30 rfl (gs_ne rfl rfl g3) rfl rfl ?_
        refine k_goto 4 rfl rfl ?_
        exact ih _ (by rw [← hn]; exact up_lt b7) rfl (gs_ne rfl rfl (gs_ne rfl rfl g0)) o0 (gs_ne rfl rfl (gs_ne rfl rfl g1)) (gs_ne rfl rfl gs_eq) gs_eq (okL_set (i := 3) (v := .inl (v3 + 1)) rfl (okL_set (i := 2) (v := .inl (v2 + 1)) rfl L20)) I19
      · refine k_c2 27 rfl rfl (if_neg b23) ?_
        refine k_iinc (v3 + 1) 30 rfl g3 rfl rfl ?_
        refine k_goto 4 rfl rfl ?_
        exact ih _ (by rw [← hn]; exact up_lt b7) rfl (gs_ne rfl rfl g0) o0 (gs_ne rfl rfl g1) (gs_ne rfl rfl g2) gs_eq (okL_set (i := 3) (v := .inl (v3 + 1)) rfl L20) I19
theorem b_X1_sizeOfKind {B : Nat} {h0 : am_h} {lv : am_l} {h : am_h} {c s : Nat} {v0 : Nat} {v1 : Int32} (g0 : am_get lv 0 = some (.inr (.inr (some v0)))) (o0 : ob 1 v0) (g1 : am_get lv 1 = some (.inl v1)) (hL : am_okL h.length lv = true) (hI : ob_I w_X1_sizeOfKind B h0 h c s) : am_Ok am_G 1 20 (0, lv, [], h, c, s) (ty_Q w_X1_sizeOfKind 2 B h0) := by
  refine k_push 1 rfl rfl ?_
  refine k_istore 2 rfl rfl ?_
  refine k_push 3 rfl rfl ?_
  refine k_istore 4 rfl rfl ?_
  exact b_X1_sizeOfKind_4 _ rfl (gs_ne rfl rfl (gs_ne rfl rfl g0)) o0 (gs_ne rfl rfl (gs_ne rfl rfl g1)) (gs_ne rfl rfl gs_eq) gs_eq (okL_set (i := 3) (v := .inl (0 : Int32)) rfl (okL_set (i := 2) (v := .inl (0 : Int32)) rfl hL)) hI
theorem c_X1_sizeOfKind {h : am_h} {v0 : Nat} {v1 : Int32} (hT : ty_H h) (o0 : ob 1 v0) : am_Mt 2 20 [.inr (.inr (some v0)), .inl v1] h (ty_Q w_X1_sizeOfKind 2 (ob_P h) h) := am_Mt.of (b_X1_sizeOfKind rfl o0 rfl (okA_r hT o0 (okA_i okA_n)) (ob_I.start hT))
abbrev w_X1_greatestLevel : List (Nat × Nat) := []
theorem b_X1_greatestLevel_4 {B : Nat} {h0 : am_h} : ∀ (n : Nat) {lv : am_l} {h : am_h} {c s : Nat} {v0 : Nat} {v1 : Int32} {v2 : Int32} , up_m v2 = n → am_get lv 0 = some (.inr (.inr (some v0))) → ob 1 v0 → am_get lv 1 = some (.inl v1) → am_get lv 2 = some (.inl v2) → am_okL h.length lv = true → ob_I w_X1_greatestLevel B h0 h c s → am_Ok am_G 1 21 (4, lv, [], h, c, s) (ty_Q w_X1_greatestLevel 2 B h0) := by
  intro n
  induction n using Nat.strongRecOn with
  | ind n ih =>
    intro lv h c s v0 v1 v2 hn g0 o0 g1 g2 hL hI
    refine k_iload 5 rfl g2 rfl ?_
    refine k_aload 6 rfl g0 rfl ?_
    obtain ⟨fs1, u2, e3, f4, t5⟩ := hI.1.get o0 (k := 6) rfl rfl
    obtain ⟨x6, rfl⟩ := t5
    refine k_get 9 rfl e3 f4 rfl ?_
    by_cases b7 : x6 ≤ v2
    · refine k_c2 43 rfl rfl (if_pos b7) ?_
      refine k_iload 44 rfl g1 rfl ?_
      exact k_fin rfl rfl ⟨⟨_, rfl, ⟨_, rfl, _, rfl⟩⟩, hI⟩
    · refine k_c2 12 rfl rfl (if_neg b7) ?_
      refine k_aload 13 rfl g0 rfl ?_
      obtain ⟨fs8, u9, e10, f11, t12⟩ := hI.1.get o0 (k := 0) rfl rfl
      obtain ⟨i13, rfl, o14⟩ := t12
      refine k_get 16 rfl e10 f11 rfl ?_
      refine k_iload 17 rfl g2 rfl ?_
      refine k_cl (W' := []) rfl (rw_get hI.1 (Or.inl o14)) rfl rfl rfl (hI.1.rc3 (Or.inl o14)) hI (by decide) hL so_n ?_
      rintro w15 h16 c17 s18 hv I19 L20 F21
      obtain ⟨_, rfl, x22, rfl⟩ := hv
      show am_Ok _ _ _ (20, _, [.inl x22], h16, c17, s18) _
      refine k_push 21 rfl rfl ?_
      by_cases b23 : x22 = (-1 : Int32)
      · refine k_c2 37 rfl rfl (if_pos b23) ?_
        refine k_iinc (v2 + 1) 40 rfl g2 rfl rfl ?_
        refine k_goto 4 rfl rfl ?_
        exact ih _ (by rw [← hn]; exact up_lt b7) rfl (gs_ne rfl rfl g0) o0 (gs_ne rfl rfl g1) gs_eq (okL_set (i := 2) (v := .inl (v2 + 1)) rfl L20) I19
      · refine k_c2 24 rfl rfl (if_neg b23) ?_
        refine k_iload 25 rfl g1 rfl ?_
        refine k_aload 26 rfl g0 rfl ?_
        obtain ⟨fs24, u25, e26, f27, t28⟩ := I19.1.get o0 (k := 1) rfl rfl
        obtain ⟨i29, rfl, o30⟩ := t28
        refine k_get 29 rfl e26 f27 rfl ?_
        refine k_iload 30 rfl g2 rfl ?_
        refine k_cl (W' := []) rfl (rw_get I19.1 (Or.inl o30)) rfl rfl rfl (I19.1.rc3 (Or.inl o30)) I19 (by decide) L20 (so_i so_n) ?_
        rintro w31 h32 c33 s34 hv I35 L36 F37
        obtain ⟨_, rfl, x38, rfl⟩ := hv
        show am_Ok _ _ _ (33, _, [.inl x38, .inl v1], h32, c33, s34) _
        obtain ⟨x39, q40⟩ : ∃ q : Int32, q = (if v1 < x38 then x38 else v1) := ⟨_, rfl⟩
        refine k_mathZ x39 36 rfl rfl q40.symm rfl ?_
        refine k_istore 37 rfl rfl ?_
        refine k_iinc (v2 + 1) 40 rfl (gs_ne rfl rfl g2) rfl rfl ?_
        refine k_goto 4 rfl rfl ?_
        exact ih _ (by rw [← hn]; exact up_lt b7) rfl (gs_ne rfl rfl (gs_ne rfl rfl g0)) o0 (gs_ne rfl rfl gs_eq) gs_eq (okL_set (i := 2) (v := .inl (v2 + 1)) rfl (okL_set (i := 1) (v := .inl x39) rfl L36)) I35
theorem b_X1_greatestLevel {B : Nat} {h0 : am_h} {lv : am_l} {h : am_h} {c s : Nat} {v0 : Nat} (g0 : am_get lv 0 = some (.inr (.inr (some v0)))) (o0 : ob 1 v0) (hL : am_okL h.length lv = true) (hI : ob_I w_X1_greatestLevel B h0 h c s) : am_Ok am_G 1 21 (0, lv, [], h, c, s) (ty_Q w_X1_greatestLevel 2 B h0) := by
  refine k_push 1 rfl rfl ?_
  refine k_istore 2 rfl rfl ?_
  refine k_push 3 rfl rfl ?_
  refine k_istore 4 rfl rfl ?_
  exact b_X1_greatestLevel_4 _ rfl (gs_ne rfl rfl (gs_ne rfl rfl g0)) o0 (gs_ne rfl rfl gs_eq) gs_eq (okL_set (i := 2) (v := .inl (0 : Int32)) rfl (okL_set (i := 1) (v := .inl (0 : Int32)) rfl hL)) hI
theorem c_X1_greatestLevel {h : am_h} {v0 : Nat} (hT : ty_H h) (o0 : ob 1 v0) : am_Mt 2 21 [.inr (.inr (some v0))] h (ty_Q w_X1_greatestLevel 2 (ob_P h) h) := am_Mt.of (b_X1_greatestLevel rfl o0 (okA_r hT o0 okA_n) (ob_I.start hT))
abbrev w_X1_isLesserOfActive : List (Nat × Nat) := []
theorem b_X1_isLesserOfActive {B : Nat} {h0 : am_h} {lv : am_l} {h : am_h} {c s : Nat} {v0 : Nat} {v1 : Int32} (g0 : am_get lv 0 = some (.inr (.inr (some v0)))) (o0 : ob 1 v0) (g1 : am_get lv 1 = some (.inl v1)) (hL : am_okL h.length lv = true) (hI : ob_I w_X1_isLesserOfActive B h0 h c s) : am_Ok am_G 1 26 (0, lv, [], h, c, s) (ty_Q w_X1_isLesserOfActive 3 B h0) := by
  refine k_iload 1 rfl g1 rfl ?_
  by_cases b1 : v1 = 0
  · refine k_c1 16 rfl rfl (if_pos b1) ?_
    refine k_push 17 rfl rfl ?_
    exact k_fin rfl (fin_Z (Or.inl rfl)) ⟨⟨_, rfl, ⟨_, rfl, _, rfl, (Or.inl rfl)⟩⟩, hI⟩
  · refine k_c1 4 rfl rfl (if_neg b1) ?_
    refine k_aload 5 rfl g0 rfl ?_
    obtain ⟨fs2, u3, e4, f5, t6⟩ := hI.1.get o0 (k := 0) rfl rfl
    obtain ⟨i7, rfl, o8⟩ := t6
    refine k_get 8 rfl e4 f5 rfl ?_
    refine k_iload 9 rfl g1 rfl ?_
    refine k_cl (W' := []) rfl (rw_get hI.1 (Or.inl o8)) rfl rfl rfl (hI.1.rc3 (Or.inl o8)) hI (by decide) hL so_n ?_
    rintro w9 h10 c11 s12 hv I13 L14 F15
    obtain ⟨_, rfl, x16, rfl⟩ := hv
    show am_Ok _ _ _ (12, _, [.inl x16], h10, c11, s12) _
    refine k_push 13 rfl rfl ?_
    by_cases b17 : x16 = (-1 : Int32)
    · refine k_c2 16 rfl rfl (if_pos b17) ?_
      refine k_push 17 rfl rfl ?_
      exact k_fin rfl (fin_Z (Or.inl rfl)) ⟨⟨_, rfl, ⟨_, rfl, _, rfl, (Or.inl rfl)⟩⟩, I13⟩
    · refine k_c2 18 rfl rfl (if_neg b17) ?_
      refine k_aload 19 rfl g0 rfl ?_
      obtain ⟨fs18, u19, e20, f21, t22⟩ := I13.1.get o0 (k := 2) rfl rfl
      obtain ⟨i23, rfl, o24⟩ := t22
      refine k_get 22 rfl e20 f21 rfl ?_
      refine k_push 23 rfl rfl ?_
      refine k_iload 24 rfl g1 rfl ?_
      obtain ⟨x25, q26⟩ : ∃ q : Int32, q = ((4 : Int32) * v1) := ⟨_, rfl⟩
      refine k_bin x25 25 rfl q26.symm rfl ?_
      refine k_cl (W' := []) rfl (rw_get I13.1 (Or.inl o24)) rfl rfl rfl (I13.1.rc3 (Or.inl o24)) I13 (by decide) L14 so_n ?_
      rintro w27 h28 c29 s30 hv I31 L32 F33
      obtain ⟨_, rfl, x34, rfl⟩ := hv
      show am_Ok _ _ _ (28, _, [.inl x34], h28, c29, s30) _
      refine k_istore 29 rfl rfl ?_
      refine k_iload 30 rfl gs_eq rfl ?_
      refine k_push 31 rfl rfl ?_
      obtain ⟨x35, q36⟩ : ∃ q : Int32, q = (x34 - x34 / (4 : Int32) * (4 : Int32)) := ⟨_, rfl⟩
      refine k_divZ x35 32 rfl (by decide) q36.symm rfl ?_
      by_cases b37 : x35 = 0
      · refine k_c1 35 rfl rfl (if_pos b37) ?_
        refine k_iload 36 rfl gs_eq rfl ?_
        refine k_push 37 rfl rfl ?_
        obtain ⟨x38, q39⟩ : ∃ q : Int32, q = (x34 / (4 : Int32)) := ⟨_, rfl⟩
        refine k_divZ x38 38 rfl (by decide) q39.symm rfl ?_
        refine k_iload 39 rfl (gs_ne rfl rfl g1) rfl ?_
        by_cases b40 : x38 ≤ v1
        · refine k_c2 46 rfl rfl (if_pos b40) ?_
          refine k_push 47 rfl rfl ?_
          exact k_fin rfl (fin_Z (Or.inl rfl)) ⟨⟨_, rfl, ⟨_, rfl, _, rfl, (Or.inl rfl)⟩⟩, I31⟩
        · refine k_c2 42 rfl rfl (if_neg b40) ?_
          refine k_push 43 rfl rfl ?_
          refine k_goto 47 rfl rfl ?_
          exact k_fin rfl (fin_Z (Or.inr rfl)) ⟨⟨_, rfl, ⟨_, rfl, _, rfl, (Or.inr rfl)⟩⟩, I31⟩
      · refine k_c1 46 rfl rfl (if_neg b37) ?_
        refine k_push 47 rfl rfl ?_
        exact k_fin rfl (fin_Z (Or.inl rfl)) ⟨⟨_, rfl, ⟨_, rfl, _, rfl, (Or.inl rfl)⟩⟩, I31⟩
theorem c_X1_isLesserOfActive {h : am_h} {v0 : Nat} {v1 : Int32} (hT : ty_H h) (o0 : ob 1 v0) : am_Mt 2 26 [.inr (.inr (some v0)), .inl v1] h (ty_Q w_X1_isLesserOfActive 3 (ob_P h) h) := am_Mt.of (b_X1_isLesserOfActive rfl o0 rfl (okA_r hT o0 (okA_i okA_n)) (ob_I.start hT))
abbrev w_X1_activeWires : List (Nat × Nat) := []
theorem b_X1_activeWires_4 {B : Nat} {h0 : am_h} : ∀ (n : Nat) {lv : am_l} {h : am_h} {c s : Nat} {v0 : Nat} {v1 : Int32} {v2 : Int32} , up_m v2 = n → am_get lv 0 = some (.inr (.inr (some v0))) → ob 1 v0 → am_get lv 1 = some (.inl v1) → am_get lv 2 = some (.inl v2) → am_okL h.length lv = true → ob_I w_X1_activeWires B h0 h c s → am_Ok am_G 2 22 (4, lv, [], h, c, s) (ty_Q w_X1_activeWires 2 B h0) := by
  intro n
  induction n using Nat.strongRecOn with
  | ind n ih =>
    intro lv h c s v0 v1 v2 hn g0 o0 g1 g2 hL hI
    refine k_iload 5 rfl g2 rfl ?_
    refine k_aload 6 rfl g0 rfl ?_
    obtain ⟨fs1, u2, e3, f4, t5⟩ := hI.1.get o0 (k := 6) rfl rfl
    obtain ⟨x6, rfl⟩ := t5
    refine k_get 9 rfl e3 f4 rfl ?_
    by_cases b7 : x6 ≤ v2
    · refine k_c2 29 rfl rfl (if_pos b7) ?_
      refine k_iload 30 rfl g1 rfl ?_
      exact k_fin rfl rfl ⟨⟨_, rfl, ⟨_, rfl, _, rfl⟩⟩, hI⟩
    · refine k_c2 12 rfl rfl (if_neg b7) ?_
      refine k_aload 13 rfl g0 rfl ?_
      refine k_iload 14 rfl g2 rfl ?_
      refine k_cl (W' := w_X1_isLesserOfActive) rfl (c_X1_isLesserOfActive hI.1 o0) rfl rfl rfl (hI.1.rc o0 rfl) hI (by decide) hL so_n ?_
      rintro w8 h9 c10 s11 hv I12 L13 F14
      obtain ⟨_, rfl, x15, rfl, z16⟩ := hv
      show am_Ok _ _ _ (17, _, [.inl x15], h9, c10, s11) _
      by_cases b17 : x15 = 0
      · refine k_c1 23 rfl rfl (if_pos b17) ?_
        refine k_iinc (v2 + 1) 26 rfl g2 rfl rfl ?_
        refine k_goto 4 rfl rfl ?_
        exact ih _ (by rw [← hn]; exact up_lt b7) rfl (gs_ne rfl rfl g0) o0 (gs_ne rfl rfl g1) gs_eq (okL_set (i := 2) (v := .inl (v2 + 1)) rfl L13) I12
      · refine k_c1 20 rfl rfl (if_neg b17) ?_
        refine k_iinc (v1 + 1) 23 rfl g1 rfl rfl ?_
        refine k_iinc (v2 + 1) 26 rfl (gs_ne rfl rfl g2) rfl rfl ?_
        refine k_goto 4 rfl rfl ?_
        exact ih _ (by rw [← hn]; exact up_lt b7) rfl (gs_ne rfl rfl (gs_ne rfl rfl g0)) o0 (gs_ne rfl rfl gs_eq) gs_eq (okL_set (i := 2) (v := .inl (v2 + 1)) rfl (okL_set (i := 1) (v := .inl (v1 + 1)) rfl L13)) I12
theorem b_X1_activeWires {B : Nat} {h0 : am_h} {lv : am_l} {h : am_h} {c s : Nat} {v0 : Nat} (g0 : am_get lv 0 = some (.inr (.inr (some v0)))) (o0 : ob 1 v0) (hL : am_okL h.length lv = true) (hI : ob_I w_X1_activeWires B h0 h c s) : am_Ok am_G 2 22 (0, lv, [], h, c, s) (ty_Q w_X1_activeWires 2 B h0) := by
  refine k_push 1 rfl rfl ?_
  refine k_istore 2 rfl rfl ?_
  refine k_push 3 rfl rfl ?_
  refine k_istore 4 rfl rfl ?_
  exact b_X1_activeWires_4 _ rfl (gs_ne rfl rfl (gs_ne rfl rfl g0)) o0 (gs_ne rfl rfl gs_eq) gs_eq (okL_set (i := 2) (v := .inl (0 : Int32)) rfl (okL_set (i := 1) (v := .inl (0 : Int32)) rfl hL)) hI
theorem c_X1_activeWires {h : am_h} {v0 : Nat} (hT : ty_H h) (o0 : ob 1 v0) : am_Mt 3 22 [.inr (.inr (some v0))] h (ty_Q w_X1_activeWires 2 (ob_P h) h) := am_Mt.of (b_X1_activeWires rfl o0 (okA_r hT o0 okA_n) (ob_I.start hT))
abbrev w_X1_activeNode : List (Nat × Nat) := []
theorem b_X1_activeNode_4 {B : Nat} {h0 : am_h} : ∀ (n : Nat) {lv : am_l} {h : am_h} {c s : Nat} {v0 : Nat} {v1 : Int32} {v2 : Int32} {v3 : Int32} , up_m v3 = n → am_get lv 0 = some (.inr (.inr (some v0))) → ob 1 v0 → am_get lv 1 = some (.inl v1) → am_get lv 2 = some (.inl v2) → am_get lv 3 = some (.inl v3) → am_okL h.length lv = true → ob_I w_X1_activeNode B h0 h c s → am_Ok am_G 2 25 (4, lv, [], h, c, s) (ty_Q w_X1_activeNode 2 B h0) := by
  intro n
  induction n using Nat.strongRecOn with
  | ind n ih =>
    intro lv h c s v0 v1 v2 v3 hn g0 o0 g1 g2 g3 hL hI
    refine k_iload 5 rfl g3 rfl ?_
    refine k_aload 6 rfl g0 rfl ?_
    obtain ⟨fs1, u2, e3, f4, t5⟩ := hI.1.get o0 (k := 6) rfl rfl
    obtain ⟨x6, rfl⟩ := t5
    refine k_get 9 rfl e3 f4 rfl ?_
    by_cases b7 : x6 ≤ v3
    · refine k_c2 35 rfl rfl (if_pos b7) ?_
      refine k_push 36 rfl rfl ?_
      exact k_fin rfl rfl ⟨⟨_, rfl, ⟨_, rfl, _, rfl⟩⟩, hI⟩
    · refine k_c2 12 rfl rfl (if_neg b7) ?_
      refine k_aload 13 rfl g0 rfl ?_
      refine k_iload 14 rfl g3 rfl ?_
      refine k_cl (W' := w_X1_isLesserOfActive) rfl (c_X1_isLesserOfActive hI.1 o0) rfl rfl rfl (hI.1.rc o0 rfl) hI (by decide) hL so_n ?_
      rintro w8 h9 c10 s11 hv I12 L13 F14
      obtain ⟨_, rfl, x15, rfl, z16⟩ := hv
      show am_Ok _ _ _ (17, _, [.inl x15], h9, c10, s11) _
      by_cases b17 : x15 = 0
      · refine k_c1 29 rfl rfl (if_pos b17) ?_
        refine k_iinc (v3 + 1) 32 rfl g3 rfl rfl ?_
        refine k_goto 4 rfl rfl ?_
        exact ih _ (by rw [← hn]; exact up_lt b7) rfl (gs_ne rfl rfl g0) o0 (gs_ne rfl rfl g1) (gs_ne rfl rfl g2) gs_eq (okL_set (i := 3) (v := .inl (v3 + 1)) rfl L13) I12
      · refine k_c1 20 rfl rfl (if_neg b17) ?_
        refine k_iload 21 rfl g2 rfl ?_
        by_cases b18 : v2 = 0
        · refine k_c1 24 rfl rfl (if_pos b18) ?_
          refine k_iload 25 rfl g3 rfl ?_
          exact k_fin rfl rfl ⟨⟨_, rfl, ⟨_, rfl, _, rfl⟩⟩, I12⟩
        · refine k_c1 26 rfl rfl (if_neg b18) ?_
          refine k_iinc (v2 + (-1)) 29 rfl g2 rfl rfl ?_
          refine k_iinc (v3 + 1) 32 rfl (gs_ne rfl rfl g3) rfl rfl ?_
          refine k_goto 4 rfl rfl ?_
          exact ih _ (by rw [← hn]; exact up_lt b7) rfl (gs_ne rfl rfl (gs_ne rfl rfl g0)) o0 (gs_ne rfl rfl (gs_ne rfl rfl g1)) (gs_ne rfl rfl gs_eq) gs_eq (okL_set (i := 3) (v := .inl (v3 + 1)) rfl (okL_set (i := 2) (v := .inl (v2 + (-1))) rfl L13)) I12
theorem b_X1_activeNode {B : Nat} {h0 : am_h} {lv : am_l} {h : am_h} {c s : Nat} {v0 : Nat} {v1 : Int32} (g0 : am_get lv 0 = some (.inr (.inr (some v0)))) (o0 : ob 1 v0) (g1 : am_get lv 1 = some (.inl v1)) (hL : am_okL h.length lv = true) (hI : ob_I w_X1_activeNode B h0 h c s) : am_Ok am_G 2 25 (0, lv, [], h, c, s) (ty_Q w_X1_activeNode 2 B h0) := by
  refine k_iload 1 rfl g1 rfl ?_
  refine k_istore 2 rfl rfl ?_
  refine k_push 3 rfl rfl ?_
  refine k_istore 4 rfl rfl ?_
  exact b_X1_activeNode_4 _ rfl (gs_ne rfl rfl (gs_ne rfl rfl g0)) o0 (gs_ne rfl rfl (gs_ne rfl rfl g1)) (gs_ne rfl rfl gs_eq) gs_eq (okL_set (i := 3) (v := .inl (0 : Int32)) rfl (okL_set (i := 2) (v := .inl v1) rfl hL)) hI
theorem c_X1_activeNode {h : am_h} {v0 : Nat} {v1 : Int32} (hT : ty_H h) (o0 : ob 1 v0) : am_Mt 3 25 [.inr (.inr (some v0)), .inl v1] h (ty_Q w_X1_activeNode 2 (ob_P h) h) := am_Mt.of (b_X1_activeNode rfl o0 rfl (okA_r hT o0 (okA_i okA_n)) (ob_I.start hT))
abbrev w_X1_leastActive : List (Nat × Nat) := []
theorem b_X1_leastActive {B : Nat} {h0 : am_h} {lv : am_l} {h : am_h} {c s : Nat} {v0 : Nat} (g0 : am_get lv 0 = some (.inr (.inr (some v0)))) (o0 : ob 1 v0) (hL : am_okL h.length lv = true) (hI : ob_I w_X1_leastActive B h0 h c s) : am_Ok am_G 3 23 (0, lv, [], h, c, s) (ty_Q w_X1_leastActive 2 B h0) := by
  refine k_aload 1 rfl g0 rfl ?_
  refine k_push 2 rfl rfl ?_
  refine k_cl (W' := w_X1_activeNode) rfl (c_X1_activeNode hI.1 o0) rfl rfl rfl (hI.1.rc o0 rfl) hI (by decide) hL so_n ?_
  rintro w1 h2 c3 s4 hv I5 L6 F7
  obtain ⟨_, rfl, x8, rfl⟩ := hv
  show am_Ok _ _ _ (5, _, [.inl x8], h2, c3, s4) _
  exact k_fin rfl rfl ⟨⟨_, rfl, ⟨_, rfl, _, rfl⟩⟩, I5⟩
theorem c_X1_leastActive {h : am_h} {v0 : Nat} (hT : ty_H h) (o0 : ob 1 v0) : am_Mt 4 23 [.inr (.inr (some v0))] h (ty_Q w_X1_leastActive 2 (ob_P h) h) := am_Mt.of (b_X1_leastActive rfl o0 (okA_r hT o0 okA_n) (ob_I.start hT))
abbrev w_X1_greatestActive : List (Nat × Nat) := []
theorem b_X1_greatestActive_7 {B : Nat} {h0 : am_h} : ∀ (n : Nat) {lv : am_l} {h : am_h} {c s : Nat} {v0 : Nat} {v1 : Int32} , dn_m v1 = n → am_get lv 0 = some (.inr (.inr (some v0))) → ob 1 v0 → am_get lv 1 = some (.inl v1) → am_okL h.length lv = true → ob_I w_X1_greatestActive B h0 h c s → am_Ok am_G 2 24 (7, lv, [], h, c, s) (ty_Q w_X1_greatestActive 2 B h0) := by
  intro n
  induction n using Nat.strongRecOn with
  | ind n ih =>
    intro lv h c s v0 v1 hn g0 o0 g1 hL hI
    refine k_iload 8 rfl g1 rfl ?_
    by_cases b1 : v1 < 0
    · refine k_c1 27 rfl rfl (if_pos b1) ?_
      refine k_push 28 rfl rfl ?_
      exact k_fin rfl rfl ⟨⟨_, rfl, ⟨_, rfl, _, rfl⟩⟩, hI⟩
    · refine k_c1 11 rfl rfl (if_neg b1) ?_
      refine k_aload 12 rfl g0 rfl ?_
      refine k_iload 13 rfl g1 rfl ?_
      refine k_cl (W' := w_X1_isLesserOfActive) rfl (c_X1_isLesserOfActive hI.1 o0) rfl rfl rfl (hI.1.rc o0 rfl) hI (by decide) hL so_n ?_
      rintro w2 h3 c4 s5 hv I6 L7 F8
      obtain ⟨_, rfl, x9, rfl, z10⟩ := hv
      show am_Ok _ _ _ (16, _, [.inl x9], h3, c4, s5) _
      by_cases b11 : x9 = 0
      · refine k_c1 21 rfl rfl (if_pos b11) ?_
        refine k_iinc (v1 + (-1)) 24 rfl g1 rfl rfl ?_
        refine k_goto 7 rfl rfl ?_
        exact ih _ (by rw [← hn]; exact dn_k b1 (by decide)) rfl (gs_ne rfl rfl g0) o0 gs_eq (okL_set (i := 1) (v := .inl (v1 + (-1))) rfl L7) I6
      · refine k_c1 19 rfl rfl (if_neg b11) ?_
        refine k_iload 20 rfl g1 rfl ?_
        exact k_fin rfl rfl ⟨⟨_, rfl, ⟨_, rfl, _, rfl⟩⟩, I6⟩
theorem b_X1_greatestActive {B : Nat} {h0 : am_h} {lv : am_l} {h : am_h} {c s : Nat} {v0 : Nat} (g0 : am_get lv 0 = some (.inr (.inr (some v0)))) (o0 : ob 1 v0) (hL : am_okL h.length lv = true) (hI : ob_I w_X1_greatestActive B h0 h c s) : am_Ok am_G 2 24 (0, lv, [], h, c, s) (ty_Q w_X1_greatestActive 2 B h0) := by
  refine k_aload 1 rfl g0 rfl ?_
  obtain ⟨fs12, u13, e14, f15, t16⟩ := hI.1.get o0 (k := 6) rfl rfl
  obtain ⟨x17, rfl⟩ := t16
  refine k_get 4 rfl e14 f15 rfl ?_
  refine k_push 5 rfl rfl ?_
  obtain ⟨x18, q19⟩ : ∃ q : Int32, q = (x17 - (1 : Int32)) := ⟨_, rfl⟩
  refine k_bin x18 6 rfl q19.symm rfl ?_
  refine k_istore 7 rfl rfl ?_
  exact b_X1_greatestActive_7 _ rfl (gs_ne rfl rfl g0) o0 gs_eq (okL_set (i := 1) (v := .inl x18) rfl hL) hI
theorem c_X1_greatestActive {h : am_h} {v0 : Nat} (hT : ty_H h) (o0 : ob 1 v0) : am_Mt 3 24 [.inr (.inr (some v0))] h (ty_Q w_X1_greatestActive 2 (ob_P h) h) := am_Mt.of (b_X1_greatestActive rfl o0 (okA_r hT o0 okA_n) (ob_I.start hT))
abbrev w_X1_isMover : List (Nat × Nat) := []
theorem b_X1_isMover {B : Nat} {h0 : am_h} {lv : am_l} {h : am_h} {c s : Nat} {v0 : Int32} (g0 : am_get lv 0 = some (.inl v0)) (hL : am_okL h.length lv = true) (hI : ob_I w_X1_isMover B h0 h c s) : am_Ok am_G 0 28 (0, lv, [], h, c, s) (ty_Q w_X1_isMover 3 B h0) := by
  refine k_iload 1 rfl g0 rfl ?_
  refine k_push 2 rfl rfl ?_
  by_cases b1 : v0 = (3 : Int32)
  · refine k_c2 15 rfl rfl (if_pos b1) ?_
    refine k_push 16 rfl rfl ?_
    refine k_goto 20 rfl rfl ?_
    exact k_fin rfl (fin_Z (Or.inr rfl)) ⟨⟨_, rfl, ⟨_, rfl, _, rfl, (Or.inr rfl)⟩⟩, hI⟩
  · refine k_c2 5 rfl rfl (if_neg b1) ?_
    refine k_iload 6 rfl g0 rfl ?_
    refine k_push 7 rfl rfl ?_
    by_cases b2 : v0 = (4 : Int32)
    · refine k_c2 15 rfl rfl (if_pos b2) ?_
      refine k_push 16 rfl rfl ?_
      refine k_goto 20 rfl rfl ?_
      exact k_fin rfl (fin_Z (Or.inr rfl)) ⟨⟨_, rfl, ⟨_, rfl, _, rfl, (Or.inr rfl)⟩⟩, hI⟩
    · refine k_c2 10 rfl rfl (if_neg b2) ?_
      refine k_iload 11 rfl g0 rfl ?_
      refine k_push 12 rfl rfl ?_
      by_cases b3 : v0 = (5 : Int32)
      · refine k_c2 15 rfl rfl (if_pos b3) ?_
        refine k_push 16 rfl rfl ?_
        refine k_goto 20 rfl rfl ?_
        exact k_fin rfl (fin_Z (Or.inr rfl)) ⟨⟨_, rfl, ⟨_, rfl, _, rfl, (Or.inr rfl)⟩⟩, hI⟩
      · refine k_c2 19 rfl rfl (if_neg b3) ?_
        refine k_push 20 rfl rfl ?_
        exact k_fin rfl (fin_Z (Or.inl rfl)) ⟨⟨_, rfl, ⟨_, rfl, _, rfl, (Or.inl rfl)⟩⟩, hI⟩
theorem c_X1_isMover {h : am_h} {v0 : Int32} (hT : ty_H h)  : am_Mt 1 28 [.inl v0] h (ty_Q w_X1_isMover 3 (ob_P h) h) := am_Mt.of (b_X1_isMover rfl (okA_i okA_n) (ob_I.start hT))
end
