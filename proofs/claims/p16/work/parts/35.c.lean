section
abbrev w_X8_isRead : List (Nat × Nat) := []
theorem b_X8_isRead {B : Nat} {h0 : am_h} {lv : am_l} {h : am_h} {c s : Nat} {v0 : Nat} (g0 : am_get lv 0 = some (.inr (.inr (some v0)))) (o0 : ob 8 v0) (hL : am_okL h.length lv = true) (hI : ob_I w_X8_isRead B h0 h c s) : am_Ok am_G 0 116 (0, lv, [], h, c, s) (ty_Q w_X8_isRead 3 B h0) := by
  refine k_aload 1 rfl g0 rfl ?_
  obtain ⟨fs1, u2, e3, f4, t5⟩ := hI.1.get o0 (k := 8) rfl rfl
  obtain ⟨x6, rfl, z7⟩ := t5
  refine k_get 4 rfl e3 f4 rfl ?_
  exact k_fin rfl (fin_Z z7) ⟨⟨_, rfl, ⟨_, rfl, _, rfl, z7⟩⟩, hI⟩
theorem c_X8_isRead {h : am_h} {v0 : Nat} (hT : ty_H h) (o0 : ob 8 v0) : am_Mt 1 116 [.inr (.inr (some v0))] h (ty_Q w_X8_isRead 3 (ob_P h) h) := am_Mt.of (b_X8_isRead rfl o0 (okA_r hT o0 okA_n) (ob_I.start hT))
abbrev w_X8_term : List (Nat × Nat) := []
theorem b_X8_term {B : Nat} {h0 : am_h} {lv : am_l} {h : am_h} {c s : Nat} {v0 : Nat} (g0 : am_get lv 0 = some (.inr (.inr (some v0)))) (o0 : ob 8 v0) (hL : am_okL h.length lv = true) (hI : ob_I w_X8_term B h0 h c s) : am_Ok am_G 0 117 (0, lv, [], h, c, s) (ty_Q w_X8_term 7 B h0) := by
  refine k_aload 1 rfl g0 rfl ?_
  obtain ⟨fs1, u2, e3, f4, t5⟩ := hI.1.get o0 (k := 1) rfl rfl
  obtain ⟨i6, rfl, o7⟩ := t5
  refine k_get 4 rfl e3 f4 rfl ?_
  exact k_fin rfl rfl ⟨⟨_, rfl, ⟨_, rfl, _, rfl, o7⟩⟩, hI⟩
theorem c_X8_term {h : am_h} {v0 : Nat} (hT : ty_H h) (o0 : ob 8 v0) : am_Mt 1 117 [.inr (.inr (some v0))] h (ty_Q w_X8_term 7 (ob_P h) h) := am_Mt.of (b_X8_term rfl o0 (okA_r hT o0 okA_n) (ob_I.start hT))
abbrev w_X8_wires : List (Nat × Nat) := []
theorem b_X8_wires {B : Nat} {h0 : am_h} {lv : am_l} {h : am_h} {c s : Nat} {v0 : Nat} (g0 : am_get lv 0 = some (.inr (.inr (some v0)))) (o0 : ob 8 v0) (hL : am_okL h.length lv = true) (hI : ob_I w_X8_wires B h0 h c s) : am_Ok am_G 0 118 (0, lv, [], h, c, s) (ty_Q w_X8_wires 2 B h0) := by
  refine k_aload 1 rfl g0 rfl ?_
  obtain ⟨fs1, u2, e3, f4, t5⟩ := hI.1.get o0 (k := 5) rfl rfl
  obtain ⟨x6, rfl⟩ := t5
  refine k_get 4 rfl e3 f4 rfl ?_
  exact k_fin rfl rfl ⟨⟨_, rfl, ⟨_, rfl, _, rfl⟩⟩, hI⟩
theorem c_X8_wires {h : am_h} {v0 : Nat} (hT : ty_H h) (o0 : ob 8 v0) : am_Mt 1 118 [.inr (.inr (some v0))] h (ty_Q w_X8_wires 2 (ob_P h) h) := am_Mt.of (b_X8_wires rfl o0 (okA_r hT o0 okA_n) (ob_I.start hT))
abbrev w_X8_wantedNode : List (Nat × Nat) := []
theorem b_X8_wantedNode {B : Nat} {h0 : am_h} {lv : am_l} {h : am_h} {c s : Nat} {v0 : Nat} (g0 : am_get lv 0 = some (.inr (.inr (some v0)))) (o0 : ob 8 v0) (hL : am_okL h.length lv = true) (hI : ob_I w_X8_wantedNode B h0 h c s) : am_Ok am_G 0 119 (0, lv, [], h, c, s) (ty_Q w_X8_wantedNode 2 B h0) := by
  refine k_aload 1 rfl g0 rfl ?_
  obtain ⟨fs1, u2, e3, f4, t5⟩ := hI.1.get o0 (k := 6) rfl rfl
  obtain ⟨x6, rfl⟩ := t5
  refine k_get 4 rfl e3 f4 rfl ?_
  exact k_fin rfl rfl ⟨⟨_, rfl, ⟨_, rfl, _, rfl⟩⟩, hI⟩
theorem c_X8_wantedNode {h : am_h} {v0 : Nat} (hT : ty_H h) (o0 : ob 8 v0) : am_Mt 1 119 [.inr (.inr (some v0))] h (ty_Q w_X8_wantedNode 2 (ob_P h) h) := am_Mt.of (b_X8_wantedNode rfl o0 (okA_r hT o0 okA_n) (ob_I.start hT))
abbrev w_X8_wantedWires : List (Nat × Nat) := []
theorem b_X8_wantedWires {B : Nat} {h0 : am_h} {lv : am_l} {h : am_h} {c s : Nat} {v0 : Nat} (g0 : am_get lv 0 = some (.inr (.inr (some v0)))) (o0 : ob 8 v0) (hL : am_okL h.length lv = true) (hI : ob_I w_X8_wantedWires B h0 h c s) : am_Ok am_G 0 120 (0, lv, [], h, c, s) (ty_Q w_X8_wantedWires 2 B h0) := by
  refine k_aload 1 rfl g0 rfl ?_
  obtain ⟨fs1, u2, e3, f4, t5⟩ := hI.1.get o0 (k := 7) rfl rfl
  obtain ⟨x6, rfl⟩ := t5
  refine k_get 4 rfl e3 f4 rfl ?_
  exact k_fin rfl rfl ⟨⟨_, rfl, ⟨_, rfl, _, rfl⟩⟩, hI⟩
theorem c_X8_wantedWires {h : am_h} {v0 : Nat} (hT : ty_H h) (o0 : ob 8 v0) : am_Mt 1 120 [.inr (.inr (some v0))] h (ty_Q w_X8_wantedWires 2 (ob_P h) h) := am_Mt.of (b_X8_wantedWires rfl o0 (okA_r hT o0 okA_n) (ob_I.start hT))
abbrev w_X8_lookWhetherWanted : List (Nat × Nat) := [(8, 6), (8, 7)]
theorem b_X8_lookWhetherWanted {B : Nat} {h0 : am_h} {lv : am_l} {h : am_h} {c s : Nat} {v0 : Nat} {v1 : Int32} {v2 : Int32} (g0 : am_get lv 0 = some (.inr (.inr (some v0)))) (o0 : ob 8 v0) (g1 : am_get lv 1 = some (.inl v1)) (g2 : am_get lv 2 = some (.inl v2)) (hL : am_okL h.length lv = true) (hI : ob_I w_X8_lookWhetherWanted B h0 h c s) : am_Ok am_G 0 122 (0, lv, [], h, c, s) (ty_Q w_X8_lookWhetherWanted 0 B h0) := by
  refine k_iload 1 rfl g1 rfl ?_
  refine k_push 2 rfl rfl ?_
  obtain ⟨x1, q2⟩ : ∃ q : Int32, q = (v1 - v1 / (4 : Int32) * (4 : Int32)) := ⟨_, rfl⟩
  refine k_divZ x1 3 rfl (by decide) q2.symm rfl ?_
  by_cases b3 : x1 = 0
  · refine k_c1 6 rfl rfl (if_pos b3) ?_
    refine k_iload 7 rfl g2 rfl ?_
    refine k_push 8 rfl rfl ?_
    obtain ⟨x4, q5⟩ : ∃ q : Int32, q = (v2 - v2 / (4 : Int32) * (4 : Int32)) := ⟨_, rfl⟩
    refine k_divZ x4 9 rfl (by decide) q5.symm rfl ?_
    by_cases b6 : x4 = 0
    · refine k_c1 12 rfl rfl (if_pos b6) ?_
      refine k_push 13 rfl rfl ?_
      refine k_goto 17 rfl rfl ?_
      refine k_istore 18 rfl rfl ?_
      refine k_aload 19 rfl (gs_ne rfl rfl g0) rfl ?_
      obtain ⟨fs7, u8, e9, f10, t11⟩ := hI.1.get o0 (k := 7) rfl rfl
      obtain ⟨x12, rfl⟩ := t11
      refine k_get 22 rfl e9 f10 rfl ?_
      by_cases b13 : x12 = 0
      · refine k_c1 25 rfl rfl (if_pos b13) ?_
        refine k_iload 26 rfl gs_eq rfl ?_
        by_cases b14 : (1 : Int32) = 0
        · refine k_c1 56 rfl rfl (if_pos b14) ?_
          exact k_fin rfl rfl ⟨⟨_, rfl, rfl⟩, hI⟩
        · refine k_c1 29 rfl rfl (if_neg b14) ?_
          refine k_iload 30 rfl (gs_ne rfl rfl g1) rfl ?_
          by_cases b15 : v1 = 0
          · refine k_c1 56 rfl rfl (if_pos b15) ?_
            exact k_fin rfl rfl ⟨⟨_, rfl, rfl⟩, hI⟩
          · refine k_c1 33 rfl rfl (if_neg b15) ?_
            refine k_iload 34 rfl (gs_ne rfl rfl g2) rfl ?_
            by_cases b16 : v2 = 0
            · refine k_c1 56 rfl rfl (if_pos b16) ?_
              exact k_fin rfl rfl ⟨⟨_, rfl, rfl⟩, hI⟩
            · refine k_c1 37 rfl rfl (if_neg b16) ?_
              refine k_aload 38 rfl (gs_ne rfl rfl g0) rfl ?_
              refine k_iload 39 rfl (gs_ne rfl rfl g1) rfl ?_
              refine k_iload 40 rfl (gs_ne rfl rfl g2) rfl ?_
              obtain ⟨x17, q18⟩ : ∃ q : Int32, q = (if v2 < v1 then v2 else v1) := ⟨_, rfl⟩
              refine k_mathZ x17 43 rfl rfl q18.symm rfl ?_
              refine k_push 44 rfl rfl ?_
              obtain ⟨x19, q20⟩ : ∃ q : Int32, q = (x17 / (4 : Int32)) := ⟨_, rfl⟩
              refine k_divZ x19 45 rfl (by decide) q20.symm rfl ?_
              obtain ⟨fs21, u22, e23, f24, t25⟩ := hI.1.get o0 (k := 6) rfl rfl
              refine k_put 48 rfl e23 rfl (List.getElem?_eq_some_iff.mp f24).1 rfl ?_
              obtain ⟨h26, E29, I27, l30⟩ := hI.put (v := .inl x19) o0 rfl e23 (k := 6) rfl (show ty_V 0 (.inl x19) from ⟨_, rfl⟩) (by decide) rfl
              rw [E29]
              have L28 := okL_eq l30 (okL_set (i := 3) (v := .inl (1 : Int32)) rfl hL)
              refine k_aload 49 rfl (gs_ne rfl rfl g0) rfl ?_
              refine k_aload 50 rfl (gs_ne rfl rfl g0) rfl ?_
              obtain ⟨fs31, u32, e33, f34, t35⟩ := I27.1.get o0 (k := 5) rfl rfl
              obtain ⟨x36, rfl⟩ := t35
              refine k_get 53 rfl e33 f34 rfl ?_
              obtain ⟨fs37, u38, e39, f40, t41⟩ := I27.1.get o0 (k := 7) rfl rfl
              refine k_put 56 rfl e39 rfl (List.getElem?_eq_some_iff.mp f40).1 rfl ?_
              obtain ⟨h42, E45, I43, l46⟩ := I27.put (v := .inl x36) o0 rfl e39 (k := 7) rfl (show ty_V 0 (.inl x36) from ⟨_, rfl⟩) (by decide) rfl
              rw [E45]
              have L44 := okL_eq l46 L28
              exact k_fin rfl rfl ⟨⟨_, rfl, rfl⟩, I43⟩
      · refine k_c1 56 rfl rfl (if_neg b13) ?_
        exact k_fin rfl rfl ⟨⟨_, rfl, rfl⟩, hI⟩
    · refine k_c1 16 rfl rfl (if_neg b6) ?_
      refine k_push 17 rfl rfl ?_
      refine k_istore 18 rfl rfl ?_
      refine k_aload 19 rfl (gs_ne rfl rfl g0) rfl ?_
      obtain ⟨fs47, u48, e49, f50, t51⟩ := hI.1.get o0 (k := 7) rfl rfl
      obtain ⟨x52, rfl⟩ := t51
      refine k_get 22 rfl e49 f50 rfl ?_
      by_cases b53 : x52 = 0
      · refine k_c1 25 rfl rfl (if_pos b53) ?_
        refine k_iload 26 rfl gs_eq rfl ?_
        by_cases b54 : (0 : Int32) = 0
        · refine k_c1 56 rfl rfl (if_pos b54) ?_
          exact k_fin rfl rfl ⟨⟨_, rfl, rfl⟩, hI⟩
        · refine k_c1 29 rfl rfl (if_neg b54) ?_
          refine k_iload 30 rfl (gs_ne rfl rfl g1) rfl ?_
          by_cases b55 : v1 = 0
          · refine k_c1 56 rfl rfl (if_pos b55) ?_
            exact k_fin rfl rfl ⟨⟨_, rfl, rfl⟩, hI⟩
          · refine k_c1 33 rfl rfl (if_neg b55) ?_
            refine k_iload 34 rfl (gs_ne rfl rfl g2) rfl ?_
            by_cases b56 : v2 = 0
            · refine k_c1 56 rfl rfl (if_pos b56) ?_
              exact k_fin rfl rfl ⟨⟨_, rfl, rfl⟩, hI⟩
            · refine k_c1 37 rfl rfl (if_neg b56) ?_
              refine k_aload 38 rfl (gs_ne rfl rfl g0) rfl ?_
              refine k_iload 39 rfl (gs_ne rfl rfl g1) rfl ?_
              refine k_iload 40 rfl (gs_ne rfl rfl g2) rfl ?_
              obtain ⟨x57, q58⟩ : ∃ q : Int32, q = (if v2 < v1 then v2 else v1) := ⟨_, rfl⟩
              refine k_mathZ x57 43 rfl rfl q58.symm rfl ?_
              refine k_push 44 rfl rfl ?_
              obtain ⟨x59, q60⟩ : ∃ q : Int32, q = (x57 / (4 : Int32)) := ⟨_, rfl⟩
              refine k_divZ x59 45 rfl (by decide) q60.symm rfl ?_
              obtain ⟨fs61, u62, e63, f64, t65⟩ := hI.1.get o0 (k := 6) rfl rfl
              refine k_put 48 rfl e63 rfl (List.getElem?_eq_some_iff.mp f64).1 rfl ?_
              obtain ⟨h66, E69, I67, l70⟩ := hI.put (v := .inl x59) o0 rfl e63 (k := 6) rfl (show ty_V 0 (.inl x59) from ⟨_, rfl⟩) (by decide) rfl
              rw [E69]
              have L68 := okL_eq l70 (okL_set (i := 3) (v := .inl (0 : Int32)) rfl hL)
              refine k_aload 49 rfl (gs_ne rfl rfl g0) rfl ?_
              refine k_aload 50 rfl (gs_ne rfl rfl g0) rfl ?_
              obtain ⟨fs71, u72, e73, f74, t75⟩ := I67.1.get o0 (k := 5) rfl rfl
              obtain ⟨x76, rfl⟩ := t75
              refine k_get 53 rfl e73 f74 rfl ?_
              obtain ⟨fs77, u78, e79, f80, t81⟩ := I67.1.get o0 (k := 7) rfl rfl
              refine k_put 56 rfl e79 rfl (List.getElem?_eq_some_iff.mp f80).1 rfl ?_
              obtain ⟨h82, E85, I83, l86⟩ := I67.put (v := .inl x76) o0 rfl e79 (k := 7) rfl (show ty_V 0 (.inl x76) from ⟨_, rfl⟩) (by decide) rfl
              rw [E85]
              have L84 := okL_eq l86 L68
              exact k_fin rfl rfl ⟨⟨_, rfl, rfl⟩, I83⟩
      · refine k_c1 56 rfl rfl (if_neg b53) ?_
        exact k_fin rfl rfl ⟨⟨_, rfl, rfl⟩, hI⟩
  · refine k_c1 16 rfl rfl (if_neg b3) ?_
    refine k_push 17 rfl rfl ?_
    refine k_istore 18 rfl rfl ?_
    refine k_aload 19 rfl (gs_ne rfl rfl g0) rfl ?_
    obtain ⟨fs87, u88, e89, f90, t91⟩ := hI.1.get o0 (k := 7) rfl rfl
    obtain ⟨x92, rfl⟩ := t91
    refine k_get 22 rfl e89 f90 rfl ?_
    by_cases b93 : x92 = 0
    · refine k_c1 25 rfl rfl (if_pos b93) ?_
      refine k_iload 26 rfl gs_eq rfl ?_
      by_cases b94 : (0 : Int32) = 0
      · refine k_c1 56 rfl rfl (if_pos b94) ?_
        exact k_fin rfl rfl ⟨⟨_, rfl, rfl⟩, hI⟩
      · refine k_c1 29 rfl rfl (if_neg b94) ?_
        refine k_iload 30 rfl (gs_ne rfl rfl g1) rfl ?_
        by_cases b95 : v1 = 0
        · refine k_c1 56 rfl rfl (if_pos b95) ?_
          exact k_fin rfl rfl ⟨⟨_, rfl, rfl⟩, hI⟩
        · refine k_c1 33 rfl rfl (if_neg b95) ?_
          refine k_iload 34 rfl (gs_ne rfl rfl g2) rfl ?_
          by_cases b96 : v2 = 0
          · refine k_c1 56 rfl rfl (if_pos b96) ?_
            exact k_fin rfl rfl ⟨⟨_, rfl, rfl⟩, hI⟩
          · refine k_c1 37 rfl rfl (if_neg b96) ?_
            refine k_aload 38 rfl (gs_ne rfl rfl g0) rfl ?_
            refine k_iload 39 rfl (gs_ne rfl rfl g1) rfl ?_
            refine k_iload 40 rfl (gs_ne rfl rfl g2) rfl ?_
            obtain ⟨x97, q98⟩ : ∃ q : Int32, q = (if v2 < v1 then v2 else v1) := ⟨_, rfl⟩
            refine k_mathZ x97 43 rfl rfl q98.symm rfl ?_
            refine k_push 44 rfl rfl ?_
            obtain ⟨x99, q100⟩ : ∃ q : Int32, q = (x97 / (4 : Int32)) := ⟨_, rfl⟩
            refine k_divZ x99 45 rfl (by decide) q100.symm rfl ?_
            obtain ⟨fs101, u102, e103, f104, t105⟩ := hI.1.get o0 (k := 6) rfl rfl
            refine k_put 48 rfl e103 rfl (List.getElem?_eq_some_iff.mp f104).1 rfl ?_
            obtain ⟨h106, E109, I107, l110⟩ := hI.put (v := .inl x99) o0 rfl e103 (k := 6) rfl (show ty_V 0 (.inl x99) from ⟨_, rfl⟩) (by decide) rfl
            rw [E109]
            have L108 := okL_eq l110 (okL_set (i := 3) (v := .inl (0 : Int32)) rfl hL)
            refine k_aload 49 rfl (gs_ne rfl rfl g0) rfl ?_
            refine k_aload 50 rfl (gs_ne rfl rfl g0) rfl ?_
            obtain ⟨fs111, u112, e113, f114, t115⟩ := I107.1.get o0 (k := 5) rfl rfl
            obtain ⟨x116, rfl⟩ := t115
            refine k_get 53 rfl e113 f114 rfl ?_
            obtain ⟨fs117, u118, e119, f120, t121⟩ := I107.1.get o0 (k := 7) rfl rfl
            refine k_put 56 rfl e119 rfl (List.getElem?_eq_some_iff.mp f120).1 rfl ?_
            obtain ⟨h122, E125, I123, l126⟩ := I107.put (v := .inl x116) o0 rfl e119 (k := 7) rfl (show ty_V 0 (.inl x116) from ⟨_, rfl⟩) (by decide) rfl
            rw [E125]
            have L124 := okL_eq l126 L108
            exact k_fin rfl rfl ⟨⟨_, rfl, rfl⟩, I123⟩
    · refine k_c1 56 rfl rfl (if_neg b93) ?_
      exact k_fin rfl rfl ⟨⟨_, rfl, rfl⟩, hI⟩
theorem c_X8_lookWhetherWanted {h : am_h} {v0 : Nat} {v1 : Int32} {v2 : Int32} (hT : ty_H h) (o0 : ob 8 v0) : am_Mt 1 122 [.inr (.inr (some v0)), .inl v1, .inl v2] h (ty_Q w_X8_lookWhetherWanted 0 (ob_P h) h) := am_Mt.of (b_X8_lookWhetherWanted rfl o0 rfl rfl (okA_r hT o0 (okA_i (okA_i okA_n))) (ob_I.start hT))
abbrev w_X8_beginApplication : List (Nat × Nat) := []
theorem b_X8_beginApplication {B : Nat} {h0 : am_h} {lv : am_l} {h : am_h} {c s : Nat} {v0 : Nat} {v1 : Int32} (g0 : am_get lv 0 = some (.inr (.inr (some v0)))) (o0 : ob 8 v0) (g1 : am_get lv 1 = some (.inl v1)) (hL : am_okL h.length lv = true) (hI : ob_I w_X8_beginApplication B h0 h c s) : am_Ok am_G 2 125 (0, lv, [], h, c, s) (ty_Q w_X8_beginApplication 3 B h0) := by
  refine k_aload 1 rfl g0 rfl ?_
  obtain ⟨fs1, u2, e3, f4, t5⟩ := hI.1.get o0 (k := 2) rfl rfl
  obtain ⟨i6, rfl, o7⟩ := t5
  refine k_get 4 rfl e3 f4 rfl ?_
  refine k_iload 5 rfl g1 rfl ?_
  refine k_cl (W' := []) rfl ((rw_add (W := []) hI.1 (Or.inl o7)).imp (fun _ z => z.1)) rfl rfl rfl (hI.1.rc3 (Or.inl o7)) hI (by decide) hL so_n ?_
  rintro w8 h9 c10 s11 hv I12 L13 F14
  obtain ⟨_, rfl, x15, rfl, z16⟩ := hv
  show am_Ok _ _ _ (8, _, [.inl x15], h9, c10, s11) _
  refine k_pop 9 rfl rfl rfl ?_
  refine k_aload 10 rfl g0 rfl ?_
  obtain ⟨fs17, u18, e19, f20, t21⟩ := I12.1.get o0 (k := 2) rfl rfl
  obtain ⟨i22, rfl, o23⟩ := t21
  refine k_get 13 rfl e19 f20 rfl ?_
  refine k_aload 14 rfl g0 rfl ?_
  obtain ⟨fs24, u25, e26, f27, t28⟩ := I12.1.get o0 (k := 0) rfl rfl
  obtain ⟨i29, rfl, o30⟩ := t28
  refine k_get 17 rfl e26 f27 rfl ?_
  refine k_cl (W' := w_X4_mark) rfl (c_X4_mark I12.1 o30) rfl rfl rfl (I12.1.rc o30 rfl) I12 (by decide) L13 (so_r I12 o23 so_n) ?_
  rintro w31 h32 c33 s34 hv I35 L36 F37
  obtain ⟨_, rfl, x38, rfl⟩ := hv
  show am_Ok _ _ _ (20, _, [.inl x38, .inr (.inr (some i22))], h32, c33, s34) _
  refine k_cl (W' := []) rfl ((rw_add (W := []) I35.1 (Or.inl o23)).imp (fun _ z => z.1)) rfl rfl rfl (I35.1.rc3 (Or.inl o23)) I35 (by decide) L36 so_n ?_
  rintro w39 h40 c41 s42 hv I43 L44 F45
  obtain ⟨_, rfl, x46, rfl, z47⟩ := hv
  show am_Ok _ _ _ (23, _, [.inl x46], h40, c41, s42) _
  refine k_pop 24 rfl rfl rfl ?_
  refine k_aload 25 rfl g0 rfl ?_
  obtain ⟨fs48, u49, e50, f51, t52⟩ := I43.1.get o0 (k := 2) rfl rfl
  obtain ⟨i53, rfl, o54⟩ := t52
  refine k_get 28 rfl e50 f51 rfl ?_
  refine k_aload 29 rfl g0 rfl ?_
  obtain ⟨fs55, u56, e57, f58, t59⟩ := I43.1.get o0 (k := 3) rfl rfl
  obtain ⟨i60, rfl, o61⟩ := t59
  refine k_get 32 rfl e57 f58 rfl ?_
  refine k_cl (W' := []) rfl (rw_size I43.1 (Or.inl o61)) rfl rfl rfl (I43.1.rc3 (Or.inl o61)) I43 (by decide) L44 (so_r I43 o54 so_n) ?_
  rintro w62 h63 c64 s65 hv I66 L67 F68
  obtain ⟨_, rfl, x69, rfl⟩ := hv
  show am_Ok _ _ _ (35, _, [.inl x69, .inr (.inr (some i53))], h63, c64, s65) _
  refine k_cl (W' := []) rfl ((rw_add (W := []) I66.1 (Or.inl o54)).imp (fun _ z => z.1)) rfl rfl rfl (I66.1.rc3 (Or.inl o54)) I66 (by decide) L67 so_n ?_
  rintro w70 h71 c72 s73 hv I74 L75 F76
  obtain ⟨_, rfl, x77, rfl, z78⟩ := hv
  show am_Ok _ _ _ (38, _, [.inl x77], h71, c72, s73) _
  refine k_pop 39 rfl rfl rfl ?_
  refine k_aload 40 rfl g0 rfl ?_
  obtain ⟨fs79, u80, e81, f82, t83⟩ := I74.1.get o0 (k := 2) rfl rfl
  obtain ⟨i84, rfl, o85⟩ := t83
  refine k_get 43 rfl e81 f82 rfl ?_
  refine k_aload 44 rfl g0 rfl ?_
  obtain ⟨fs86, u87, e88, f89, t90⟩ := I74.1.get o0 (k := 4) rfl rfl
  obtain ⟨i91, rfl, o92⟩ := t90
  refine k_get 47 rfl e88 f89 rfl ?_
  refine k_cl (W' := []) rfl (rw_size I74.1 (Or.inl o92)) rfl rfl rfl (I74.1.rc3 (Or.inl o92)) I74 (by decide) L75 (so_r I74 o85 so_n) ?_
  rintro w93 h94 c95 s96 hv I97 L98 F99
  obtain ⟨_, rfl, x100, rfl⟩ := hv
  show am_Ok _ _ _ (50, _, [.inl x100, .inr (.inr (some i84))], h94, c95, s96) _
  refine k_cl (W' := []) rfl ((rw_add (W := []) I97.1 (Or.inl o85)).imp (fun _ z => z.1)) rfl rfl rfl (I97.1.rc3 (Or.inl o85)) I97 (by decide) L98 so_n ?_
  rintro w101 h102 c103 s104 hv I105 L106 F107
  obtain ⟨_, rfl, x108, rfl, z109⟩ := hv
  show am_Ok _ _ _ (53, _, [.inl x108], h102, c103, s104) _
  refine k_pop 54 rfl rfl rfl ?_
  refine k_aload 55 rfl g0 rfl ?_
  obtain ⟨fs110, u111, e112, f113, t114⟩ := I105.1.get o0 (k := 1) rfl rfl
  obtain ⟨i115, rfl, o116⟩ := t114
  refine k_get 58 rfl e112 f113 rfl ?_
  refine k_push 59 rfl rfl ?_
  refine k_cl (W' := []) rfl ((rw_add (W := []) I105.1 (Or.inl o116)).imp (fun _ z => z.1)) rfl rfl rfl (I105.1.rc3 (Or.inl o116)) I105 (by decide) L106 so_n ?_
  rintro w117 h118 c119 s120 hv I121 L122 F123
  obtain ⟨_, rfl, x124, rfl, z125⟩ := hv
  show am_Ok _ _ _ (62, _, [.inl x124], h118, c119, s120) _
  exact k_fin rfl (fin_Z z125) ⟨⟨_, rfl, ⟨_, rfl, _, rfl, z125⟩⟩, I121⟩
theorem c_X8_beginApplication {h : am_h} {v0 : Nat} {v1 : Int32} (hT : ty_H h) (o0 : ob 8 v0) : am_Mt 3 125 [.inr (.inr (some v0)), .inl v1] h (ty_Q w_X8_beginApplication 3 (ob_P h) h) := am_Mt.of (b_X8_beginApplication rfl o0 rfl (okA_r hT o0 (okA_i okA_n)) (ob_I.start hT))
abbrev w_X8_beginFunction : List (Nat × Nat) := []
theorem b_X8_beginFunction_26 {B : Nat} {h0 : am_h} : ∀ (n : Nat) {lv : am_l} {h : am_h} {c s : Nat} {v0 : Nat} {v1 : Int32} {v2 : Int32} {v3 : Int32} , up_m v3 = n → am_get lv 0 = some (.inr (.inr (some v0))) → ob 8 v0 → am_get lv 1 = some (.inl v1) → am_get lv 2 = some (.inl v2) → am_get lv 3 = some (.inl v3) → am_okL h.length lv = true → ob_I w_X8_beginFunction B h0 h c s → am_Ok am_G 2 124 (26, lv, [], h, c, s) (ty_Q w_X8_beginFunction 3 B h0) := by
  intro n
  induction n using Nat.strongRecOn with
  | ind n ih =>
    intro lv h c s v0 v1 v2 v3 hn g0 o0 g1 g2 g3 hL hI
    refine k_iload 27 rfl g3 rfl ?_
    refine k_iload 28 rfl g2 rfl ?_
    by_cases b1 : v2 ≤ v3
    · refine k_c2 53 rfl rfl (if_pos b1) ?_
      refine k_aload 54 rfl g0 rfl ?_
      obtain ⟨fs2, u3, e4, f5, t6⟩ := hI.1.get o0 (k := 1) rfl rfl
      obtain ⟨i7, rfl, o8⟩ := t6
      refine k_get 57 rfl e4 f5 rfl ?_
      refine k_push 58 rfl rfl ?_
      refine k_cl (W' := []) rfl ((rw_add (W := []) hI.1 (Or.inl o8)).imp (fun _ z => z.1)) rfl rfl rfl (hI.1.rc3 (Or.inl o8)) hI (by decide) hL so_n ?_
      rintro w9 h10 c11 s12 hv I13 L14 F15
      obtain ⟨_, rfl, x16, rfl, z17⟩ := hv
      show am_Ok _ _ _ (61, _, [.inl x16], h10, c11, s12) _
      exact k_fin rfl (fin_Z z17) ⟨⟨_, rfl, ⟨_, rfl, _, rfl, z17⟩⟩, I13⟩
    · refine k_c2 31 rfl rfl (if_neg b1) ?_
      refine k_aload 32 rfl g0 rfl ?_
      obtain ⟨fs18, u19, e20, f21, t22⟩ := hI.1.get o0 (k := 4) rfl rfl
      obtain ⟨i23, rfl, o24⟩ := t22
      refine k_get 35 rfl e20 f21 rfl ?_
      refine k_aload 36 rfl g0 rfl ?_
      obtain ⟨fs25, u26, e27, f28, t29⟩ := hI.1.get o0 (k := 0) rfl rfl
      obtain ⟨i30, rfl, o31⟩ := t29
      refine k_get 39 rfl e27 f28 rfl ?_
      refine k_iload 40 rfl g3 rfl ?_
      refine k_cl (W' := w_X4_at) rfl (c_X4_at hI.1 o31) rfl rfl rfl (hI.1.rc o31 rfl) hI (by decide) hL (so_r hI o24 so_n) ?_
      rintro w32 h33 c34 s35 hv I36 L37 F38
      obtain ⟨_, rfl, x39, rfl⟩ := hv
      show am_Ok _ _ _ (43, _, [.inl x39, .inr (.inr (some i23))], h33, c34, s35) _
      refine k_cl (W' := []) rfl ((rw_add (W := []) I36.1 (Or.inl o24)).imp (fun _ z => z.1)) rfl rfl rfl (I36.1.rc3 (Or.inl o24)) I36 (by decide) L37 so_n ?_
      rintro w40 h41 c42 s43 hv I44 L45 F46
      obtain ⟨_, rfl, x47, rfl, z48⟩ := hv
      show am_Ok _ _ _ (46, _, [.inl x47], h41, c42, s43) _
      refine k_pop 47 rfl rfl rfl ?_
      refine k_iinc (v3 + 1) 50 rfl g3 rfl rfl ?_
      refine k_goto 26 rfl rfl ?_
      exact ih _ (by rw [← hn]; exact up_lt b1) rfl (gs_ne rfl rfl g0) o0 (gs_ne rfl rfl g1) (gs_ne rfl rfl g2) gs_eq (okL_set (i := 3) (v := .inl (v3 + 1)) rfl L45) I44
theorem b_X8_beginFunction {B : Nat} {h0 : am_h} {lv : am_l} {h : am_h} {c s : Nat} {v0 : Nat} {v1 : Int32} {v2 : Int32} (g0 : am_get lv 0 = some (.inr (.inr (some v0)))) (o0 : ob 8 v0) (g1 : am_get lv 1 = some (.inl v1)) (g2 : am_get lv 2 = some (.inl v2)) (hL : am_okL h.length lv = true) (hI : ob_I w_X8_beginFunction B h0 h c s) : am_Ok am_G 2 124 (0, lv, [], h, c, s) (ty_Q w_X8_beginFunction 3 B h0) := by
  refine k_aload 1 rfl g0 rfl ?_
  obtain ⟨fs49, u50, e51, f52, t53⟩ := hI.1.get o0 (k := 3) rfl rfl
  obtain ⟨i54, rfl, o55⟩ := t53
  refine k_get 4 rfl e51 f52 rfl ?_
  refine k_iload 5 rfl g1 rfl ?_
  refine k_cl (W' := []) rfl ((rw_add (W := []) hI.1 (Or.inl o55)).imp (fun _ z => z.1)) rfl rfl rfl (hI.1.rc3 (Or.inl o55)) hI (by decide) hL so_n ?_
  rintro w56 h57 c58 s59 hv I60 L61 F62
  obtain ⟨_, rfl, x63, rfl, z64⟩ := hv
  show am_Ok _ _ _ (8, _, [.inl x63], h57, c58, s59) _
  refine k_pop 9 rfl rfl rfl ?_
  refine k_aload 10 rfl g0 rfl ?_
  obtain ⟨fs65, u66, e67, f68, t69⟩ := I60.1.get o0 (k := 3) rfl rfl
  obtain ⟨i70, rfl, o71⟩ := t69
  refine k_get 13 rfl e67 f68 rfl ?_
  refine k_aload 14 rfl g0 rfl ?_
  obtain ⟨fs72, u73, e74, f75, t76⟩ := I60.1.get o0 (k := 4) rfl rfl
  obtain ⟨i77, rfl, o78⟩ := t76
  refine k_get 17 rfl e74 f75 rfl ?_
  refine k_cl (W' := []) rfl (rw_size I60.1 (Or.inl o78)) rfl rfl rfl (I60.1.rc3 (Or.inl o78)) I60 (by decide) L61 (so_r I60 o71 so_n) ?_
  rintro w79 h80 c81 s82 hv I83 L84 F85
  obtain ⟨_, rfl, x86, rfl⟩ := hv
  show am_Ok _ _ _ (20, _, [.inl x86, .inr (.inr (some i70))], h80, c81, s82) _
  refine k_cl (W' := []) rfl ((rw_add (W := []) I83.1 (Or.inl o71)).imp (fun _ z => z.1)) rfl rfl rfl (I83.1.rc3 (Or.inl o71)) I83 (by decide) L84 so_n ?_
  rintro w87 h88 c89 s90 hv I91 L92 F93
  obtain ⟨_, rfl, x94, rfl, z95⟩ := hv
  show am_Ok _ _ _ (23, _, [.inl x94], h88, c89, s90) _
  refine k_pop 24 rfl rfl rfl ?_
  refine k_push 25 rfl rfl ?_
  refine k_istore 26 rfl rfl ?_
  exact b_X8_beginFunction_26 _ rfl (gs_ne rfl rfl g0) o0 (gs_ne rfl rfl g1) (gs_ne rfl rfl g2) gs_eq (okL_set (i := 3) (v := .inl (0 : Int32)) rfl L92) I91
theorem c_X8_beginFunction {h : am_h} {v0 : Nat} {v1 : Int32} {v2 : Int32} (hT : ty_H h) (o0 : ob 8 v0) : am_Mt 3 124 [.inr (.inr (some v0)), .inl v1, .inl v2] h (ty_Q w_X8_beginFunction 3 (ob_P h) h) := am_Mt.of (b_X8_beginFunction rfl o0 rfl rfl (okA_r hT o0 (okA_i (okA_i okA_n))) (ob_I.start hT))
abbrev w_X8_nextArgument : List (Nat × Nat) := []
theorem b_X8_nextArgument {B : Nat} {h0 : am_h} {lv : am_l} {h : am_h} {c s : Nat} {v0 : Nat} (g0 : am_get lv 0 = some (.inr (.inr (some v0)))) (o0 : ob 8 v0) (hL : am_okL h.length lv = true) (hI : ob_I w_X8_nextArgument B h0 h c s) : am_Ok am_G 3 128 (0, lv, [], h, c, s) (ty_Q w_X8_nextArgument 2 B h0) := by
  refine k_aload 1 rfl g0 rfl ?_
  obtain ⟨fs1, u2, e3, f4, t5⟩ := hI.1.get o0 (k := 2) rfl rfl
  obtain ⟨i6, rfl, o7⟩ := t5
  refine k_get 4 rfl e3 f4 rfl ?_
  refine k_cl (W' := []) rfl (rw_size hI.1 (Or.inl o7)) rfl rfl rfl (hI.1.rc3 (Or.inl o7)) hI (by decide) hL so_n ?_
  rintro w8 h9 c10 s11 hv I12 L13 F14
  obtain ⟨_, rfl, x15, rfl⟩ := hv
  show am_Ok _ _ _ (7, _, [.inl x15], h9, c10, s11) _
  by_cases b16 : x15 = 0
  · refine k_c1 10 rfl rfl (if_pos b16) ?_
    refine k_push 12 rfl rfl ?_
    exact k_fin rfl rfl ⟨⟨_, rfl, ⟨_, rfl, _, rfl⟩⟩, I12⟩
  · refine k_c1 13 rfl rfl (if_neg b16) ?_
    refine k_aload 14 rfl g0 rfl ?_
    obtain ⟨fs17, u18, e19, f20, t21⟩ := I12.1.get o0 (k := 4) rfl rfl
    obtain ⟨i22, rfl, o23⟩ := t21
    refine k_get 17 rfl e19 f20 rfl ?_
    refine k_aload 18 rfl g0 rfl ?_
    obtain ⟨fs24, u25, e26, f27, t28⟩ := I12.1.get o0 (k := 2) rfl rfl
    obtain ⟨i29, rfl, o30⟩ := t28
    refine k_get 21 rfl e26 f27 rfl ?_
    refine k_cl (W' := []) rfl (rw_takeLast I12.1 o30) rfl rfl rfl (I12.1.rc3 (Or.inl o30)) I12 (by decide) L13 (so_r I12 o23 so_n) ?_
    rintro w31 h32 c33 s34 hv I35 L36 F37
    obtain ⟨_, rfl, x38, rfl⟩ := hv
    show am_Ok _ _ _ (24, _, [.inl x38, .inr (.inr (some i22))], h32, c33, s34) _
    refine k_cl (W' := []) rfl (rw_cut (W := []) I35.1 (Or.inl o23)) rfl rfl rfl (I35.1.rc3 (Or.inl o23)) I35 (by decide) L36 so_n ?_
    rintro w39 h40 c41 s42 hv I43 L44 F45
    cases hv
    show am_Ok _ _ _ (27, _, [], h40, c41, s42) _
    refine k_aload 28 rfl g0 rfl ?_
    obtain ⟨fs46, u47, e48, f49, t50⟩ := I43.1.get o0 (k := 3) rfl rfl
    obtain ⟨i51, rfl, o52⟩ := t50
    refine k_get 31 rfl e48 f49 rfl ?_
    refine k_aload 32 rfl g0 rfl ?_
    obtain ⟨fs53, u54, e55, f56, t57⟩ := I43.1.get o0 (k := 2) rfl rfl
    obtain ⟨i58, rfl, o59⟩ := t57
    refine k_get 35 rfl e55 f56 rfl ?_
    refine k_cl (W' := []) rfl (rw_takeLast I43.1 o59) rfl rfl rfl (I43.1.rc3 (Or.inl o59)) I43 (by decide) L44 (so_r I43 o52 so_n) ?_
    rintro w60 h61 c62 s63 hv I64 L65 F66
    obtain ⟨_, rfl, x67, rfl⟩ := hv
    show am_Ok _ _ _ (38, _, [.inl x67, .inr (.inr (some i51))], h61, c62, s63) _
    refine k_cl (W' := []) rfl (rw_cut (W := []) I64.1 (Or.inl o52)) rfl rfl rfl (I64.1.rc3 (Or.inl o52)) I64 (by decide) L65 so_n ?_
    rintro w68 h69 c70 s71 hv I72 L73 F74
    cases hv
    show am_Ok _ _ _ (41, _, [], h69, c70, s71) _
    refine k_aload 42 rfl g0 rfl ?_
    obtain ⟨fs75, u76, e77, f78, t79⟩ := I72.1.get o0 (k := 0) rfl rfl
    obtain ⟨i80, rfl, o81⟩ := t79
    refine k_get 45 rfl e77 f78 rfl ?_
    refine k_aload 46 rfl g0 rfl ?_
    obtain ⟨fs82, u83, e84, f85, t86⟩ := I72.1.get o0 (k := 2) rfl rfl
    obtain ⟨i87, rfl, o88⟩ := t86
    refine k_get 49 rfl e84 f85 rfl ?_
    refine k_cl (W' := []) rfl (rw_takeLast I72.1 o88) rfl rfl rfl (I72.1.rc3 (Or.inl o88)) I72 (by decide) L73 (so_r I72 o81 so_n) ?_
    rintro w89 h90 c91 s92 hv I93 L94 F95
    obtain ⟨_, rfl, x96, rfl⟩ := hv
    show am_Ok _ _ _ (52, _, [.inl x96, .inr (.inr (some i80))], h90, c91, s92) _
    refine k_cl (W' := w_X4_back) rfl (c_X4_back I93.1 o81) rfl rfl rfl (I93.1.rc o81 rfl) I93 (by decide) L94 so_n ?_
    rintro w97 h98 c99 s100 hv I101 L102 F103
    cases hv
    show am_Ok _ _ _ (55, _, [], h98, c99, s100) _
    refine k_push 56 rfl rfl ?_
    refine k_aload 57 rfl g0 rfl ?_
    obtain ⟨fs104, u105, e106, f107, t108⟩ := I101.1.get o0 (k := 2) rfl rfl
    obtain ⟨i109, rfl, o110⟩ := t108
    refine k_get 60 rfl e106 f107 rfl ?_
    refine k_cl (W' := []) rfl (rw_takeLast I101.1 o110) rfl rfl rfl (I101.1.rc3 (Or.inl o110)) I101 (by decide) L102 (so_i so_n) ?_
    rintro w111 h112 c113 s114 hv I115 L116 F117
    obtain ⟨_, rfl, x118, rfl⟩ := hv
    show am_Ok _ _ _ (63, _, [.inl x118, .inl (4 : Int32)], h112, c113, s114) _
    obtain ⟨x119, q120⟩ : ∃ q : Int32, q = ((4 : Int32) * x118) := ⟨_, rfl⟩
    refine k_bin x119 64 rfl q120.symm rfl ?_
    refine k_push 65 rfl rfl ?_
    obtain ⟨x121, q122⟩ : ∃ q : Int32, q = (x119 + (2 : Int32)) := ⟨_, rfl⟩
    refine k_bin x121 66 rfl q122.symm rfl ?_
    exact k_fin rfl rfl ⟨⟨_, rfl, ⟨_, rfl, _, rfl⟩⟩, I115⟩
theorem c_X8_nextArgument {h : am_h} {v0 : Nat} (hT : ty_H h) (o0 : ob 8 v0) : am_Mt 4 128 [.inr (.inr (some v0))] h (ty_Q w_X8_nextArgument 2 (ob_P h) h) := am_Mt.of (b_X8_nextArgument rfl o0 (okA_r hT o0 okA_n) (ob_I.start hT))
abbrev w_X8_isAsThen : List (Nat × Nat) := []
theorem b_X8_isAsThen_2 {B : Nat} {h0 : am_h} : ∀ (n : Nat) {lv : am_l} {h : am_h} {c s : Nat} {v0 : Nat} {v1 : Int32} {v2 : Int32} {v3 : Int32} , up_m v3 = n → am_get lv 0 = some (.inr (.inr (some v0))) → ob 8 v0 → am_get lv 1 = some (.inl v1) → am_get lv 2 = some (.inl v2) → am_get lv 3 = some (.inl v3) → am_okL h.length lv = true → ob_I w_X8_isAsThen B h0 h c s → am_Ok am_G 2 127 (2, lv, [], h, c, s) (ty_Q w_X8_isAsThen 3 B h0) := by
  intro n
  induction n using Nat.strongRecOn with
  | ind n ih =>
    intro lv h c s v0 v1 v2 v3 hn g0 o0 g1 g2 g3 hL hI
    refine k_iload 3 rfl g3 rfl ?_
    refine k_iload 4 rfl g2 rfl ?_
    by_cases b1 : v2 ≤ v3
    · refine k_c2 36 rfl rfl (if_pos b1) ?_
      refine k_push 37 rfl rfl ?_
      exact k_fin rfl (fin_Z (Or.inr rfl)) ⟨⟨_, rfl, ⟨_, rfl, _, rfl, (Or.inr rfl)⟩⟩, hI⟩
    · refine k_c2 7 rfl rfl (if_neg b1) ?_
      refine k_aload 8 rfl g0 rfl ?_
      obtain ⟨fs2, u3, e4, f5, t6⟩ := hI.1.get o0 (k := 4) rfl rfl
      obtain ⟨i7, rfl, o8⟩ := t6
      refine k_get 11 rfl e4 f5 rfl ?_
      refine k_iload 12 rfl g1 rfl ?_
      refine k_iload 13 rfl g3 rfl ?_
      obtain ⟨x9, q10⟩ : ∃ q : Int32, q = (v1 + v3) := ⟨_, rfl⟩
      refine k_bin x9 14 rfl q10.symm rfl ?_
      refine k_cl (W' := []) rfl (rw_get hI.1 (Or.inl o8)) rfl rfl rfl (hI.1.rc3 (Or.inl o8)) hI (by decide) hL so_n ?_
      rintro w11 h12 c13 s14 hv I15 L16 F17
      obtain ⟨_, rfl, x18, rfl⟩ := hv
      show am_Ok _ _ _ (17, _, [.inl x18], h12, c13, s14) _
      refine k_aload 18 rfl g0 rfl ?_
      obtain ⟨fs19, u20, e21, f22, t23⟩ := I15.1.get o0 (k := 0) rfl rfl
      obtain ⟨i24, rfl, o25⟩ := t23
      refine k_get 21 rfl e21 f22 rfl ?_
      refine k_iload 22 rfl g3 rfl ?_
      refine k_cl (W' := w_X4_at) rfl (c_X4_at I15.1 o25) rfl rfl rfl (I15.1.rc o25 rfl) I15 (by decide) L16 (so_i so_n) ?_
      rintro w26 h27 c28 s29 hv I30 L31 F32
      obtain ⟨_, rfl, x33, rfl⟩ := hv
      show am_Ok _ _ _ (25, _, [.inl x33, .inl x18], h27, c28, s29) _
      by_cases b34 : x18 = x33
      · refine k_c2 30 rfl rfl (if_pos b34) ?_
        refine k_iinc (v3 + 1) 33 rfl g3 rfl rfl ?_
        refine k_goto 2 rfl rfl ?_
        exact ih _ (by rw [← hn]; exact up_lt b1) rfl (gs_ne rfl rfl g0) o0 (gs_ne rfl rfl g1) (gs_ne rfl rfl g2) gs_eq (okL_set (i := 3) (v := .inl (v3 + 1)) rfl L31) I30
      · refine k_c2 28 rfl rfl (if_neg b34) ?_
        refine k_push 29 rfl rfl ?_
        exact k_fin rfl (fin_Z (Or.inl rfl)) ⟨⟨_, rfl, ⟨_, rfl, _, rfl, (Or.inl rfl)⟩⟩, I30⟩
theorem b_X8_isAsThen {B : Nat} {h0 : am_h} {lv : am_l} {h : am_h} {c s : Nat} {v0 : Nat} {v1 : Int32} {v2 : Int32} (g0 : am_get lv 0 = some (.inr (.inr (some v0)))) (o0 : ob 8 v0) (g1 : am_get lv 1 = some (.inl v1)) (g2 : am_get lv 2 = some (.inl v2)) (hL : am_okL h.length lv = true) (hI : ob_I w_X8_isAsThen B h0 h c s) : am_Ok am_G 2 127 (0, lv, [], h, c, s) (ty_Q w_X8_isAsThen 3 B h0) := by
  refine k_push 1 rfl rfl ?_
  refine k_istore 2 rfl rfl ?_
  exact b_X8_isAsThen_2 _ rfl (gs_ne rfl rfl g0) o0 (gs_ne rfl rfl g1) (gs_ne rfl rfl g2) gs_eq (okL_set (i := 3) (v := .inl (0 : Int32)) rfl hL) hI
theorem c_X8_isAsThen {h : am_h} {v0 : Nat} {v1 : Int32} {v2 : Int32} (hT : ty_H h) (o0 : ob 8 v0) : am_Mt 3 127 [.inr (.inr (some v0)), .inl v1, .inl v2] h (ty_Q w_X8_isAsThen 3 (ob_P h) h) := am_Mt.of (b_X8_isAsThen rfl o0 rfl rfl (okA_r hT o0 (okA_i (okA_i okA_n))) (ob_I.start hT))
abbrev w_X8_readVariable : List (Nat × Nat) := []
theorem b_X8_readVariable_10 {B : Nat} {h0 : am_h} : ∀ (n : Nat) {lv : am_l} {h : am_h} {c s : Nat} {v0 : Nat} {v1 : Int32} {v2 : Int32} {v3 : Int32} , dn_m v3 = n → am_get lv 0 = some (.inr (.inr (some v0))) → ob 8 v0 → am_get lv 1 = some (.inl v1) → am_get lv 2 = some (.inl v2) → am_get lv 3 = some (.inl v3) → am_okL h.length lv = true → ob_I w_X8_readVariable B h0 h c s → am_Ok am_G 3 126 (10, lv, [], h, c, s) (ty_Q w_X8_readVariable 3 B h0) := by
  intro n
  induction n using Nat.strongRecOn with
  | ind n ih =>
    intro lv h c s v0 v1 v2 v3 hn g0 o0 g1 g2 g3 hL hI
    refine k_iload 11 rfl g3 rfl ?_
    by_cases b1 : v3 < 0
    · refine k_c1 73 rfl rfl (if_pos b1) ?_
      refine k_push 74 rfl rfl ?_
      exact k_fin rfl (fin_Z (Or.inl rfl)) ⟨⟨_, rfl, ⟨_, rfl, _, rfl, (Or.inl rfl)⟩⟩, hI⟩
    · refine k_c1 14 rfl rfl (if_neg b1) ?_
      refine k_aload 15 rfl g0 rfl ?_
      obtain ⟨fs2, u3, e4, f5, t6⟩ := hI.1.get o0 (k := 3) rfl rfl
      obtain ⟨i7, rfl, o8⟩ := t6
      refine k_get 18 rfl e4 f5 rfl ?_
      refine k_iload 19 rfl g3 rfl ?_
      refine k_cl (W' := []) rfl (rw_get hI.1 (Or.inl o8)) rfl rfl rfl (hI.1.rc3 (Or.inl o8)) hI (by decide) hL so_n ?_
      rintro w9 h10 c11 s12 hv I13 L14 F15
      obtain ⟨_, rfl, x16, rfl⟩ := hv
      show am_Ok _ _ _ (22, _, [.inl x16], h10, c11, s12) _
      refine k_iload 23 rfl g1 rfl ?_
      by_cases b17 : x16 = v1
      · refine k_c2 26 rfl rfl (if_pos b17) ?_
        refine k_aload 27 rfl g0 rfl ?_
        refine k_aload 28 rfl g0 rfl ?_
        obtain ⟨fs18, u19, e20, f21, t22⟩ := I13.1.get o0 (k := 3) rfl rfl
        obtain ⟨i23, rfl, o24⟩ := t22
        refine k_get 31 rfl e20 f21 rfl ?_
        refine k_iload 32 rfl g3 rfl ?_
        refine k_push 33 rfl rfl ?_
        obtain ⟨x25, q26⟩ : ∃ q : Int32, q = (v3 + (1 : Int32)) := ⟨_, rfl⟩
        refine k_bin x25 34 rfl q26.symm rfl ?_
        refine k_cl (W' := []) rfl (rw_get I13.1 (Or.inl o24)) rfl rfl rfl (I13.1.rc3 (Or.inl o24)) I13 (by decide) L14 (so_r I13 o0 so_n) ?_
        rintro w27 h28 c29 s30 hv I31 L32 F33
        obtain ⟨_, rfl, x34, rfl⟩ := hv
        show am_Ok _ _ _ (37, _, [.inl x34, .inr (.inr (some v0))], h28, c29, s30) _
        refine k_iload 38 rfl g2 rfl ?_
        refine k_cl (W' := w_X8_isAsThen) rfl (c_X8_isAsThen I31.1 o0) rfl rfl rfl (I31.1.rc o0 rfl) I31 (by decide) L32 so_n ?_
        rintro w35 h36 c37 s38 hv I39 L40 F41
        obtain ⟨_, rfl, x42, rfl, z43⟩ := hv
        show am_Ok _ _ _ (41, _, [.inl x42], h36, c37, s38) _
        by_cases b44 : x42 = 0
        · refine k_c1 67 rfl rfl (if_pos b44) ?_
          refine k_iinc (v3 + (-2)) 70 rfl g3 rfl rfl ?_
          refine k_goto 10 rfl rfl ?_
          exact ih _ (by rw [← hn]; exact dn_k b1 (by decide)) rfl (gs_ne rfl rfl g0) o0 (gs_ne rfl rfl g1) (gs_ne rfl rfl g2) gs_eq (okL_set (i := 3) (v := .inl (v3 + (-2))) rfl L40) I39
        · refine k_c1 44 rfl rfl (if_neg b44) ?_
          refine k_aload 45 rfl g0 rfl ?_
          obtain ⟨fs45, u46, e47, f48, t49⟩ := I39.1.get o0 (k := 1) rfl rfl
          obtain ⟨i50, rfl, o51⟩ := t49
          refine k_get 48 rfl e47 f48 rfl ?_
          refine k_push 49 rfl rfl ?_
          refine k_aload 50 rfl g0 rfl ?_
          obtain ⟨fs52, u53, e54, f55, t56⟩ := I39.1.get o0 (k := 3) rfl rfl
          obtain ⟨i57, rfl, o58⟩ := t56
          refine k_get 53 rfl e54 f55 rfl ?_
          refine k_cl (W' := []) rfl (rw_size I39.1 (Or.inl o58)) rfl rfl rfl (I39.1.rc3 (Or.inl o58)) I39 (by decide) L40 (so_i (so_r I39 o51 so_n)) ?_
          rintro w59 h60 c61 s62 hv I63 L64 F65
          obtain ⟨_, rfl, x66, rfl⟩ := hv
          show am_Ok _ _ _ (56, _, [.inl x66, .inl (2 : Int32), .inr (.inr (some i50))], h60, c61, s62) _
          refine k_push 57 rfl rfl ?_
          obtain ⟨x67, q68⟩ : ∃ q : Int32, q = (x66 - (2 : Int32)) := ⟨_, rfl⟩
          refine k_bin x67 58 rfl q68.symm rfl ?_
          refine k_iload 59 rfl g3 rfl ?_
          obtain ⟨x69, q70⟩ : ∃ q : Int32, q = (x67 - v3) := ⟨_, rfl⟩
          refine k_bin x69 60 rfl q70.symm rfl ?_
          refine k_push 61 rfl rfl ?_
          obtain ⟨x71, q72⟩ : ∃ q : Int32, q = (x69 / (2 : Int32)) := ⟨_, rfl⟩
          refine k_divZ x71 62 rfl (by decide) q72.symm rfl ?_
          obtain ⟨x73, q74⟩ : ∃ q : Int32, q = ((2 : Int32) + x71) := ⟨_, rfl⟩
          refine k_bin x73 63 rfl q74.symm rfl ?_
          refine k_cl (W' := []) rfl ((rw_add (W := []) I63.1 (Or.inl o51)).imp (fun _ z => z.1)) rfl rfl rfl (I63.1.rc3 (Or.inl o51)) I63 (by decide) L64 so_n ?_
          rintro w75 h76 c77 s78 hv I79 L80 F81
          obtain ⟨_, rfl, x82, rfl, z83⟩ := hv
          show am_Ok _ _ _ (66, _, [.inl x82], h76, c77, s78) _
          exact k_fin rfl (fin_Z z83) ⟨⟨_, rfl, ⟨_, rfl, _, rfl, z83⟩⟩, I79⟩
      · refine k_c2 67 rfl rfl (if_neg b17) ?_
        refine k_iinc (v3 + (-2)) 70 rfl g3 rfl rfl ?_
        refine k_goto 10 rfl rfl ?_
        exact ih _ (by rw [← hn]; exact dn_k b1 (by decide)) rfl (gs_ne rfl rfl g0) o0 (gs_ne rfl rfl g1) (gs_ne rfl rfl g2) gs_eq (okL_set (i := 3) (v := .inl (v3 + (-2))) rfl L14) I13
theorem b_X8_readVariable {B : Nat} {h0 : am_h} {lv : am_l} {h : am_h} {c s : Nat} {v0 : Nat} {v1 : Int32} {v2 : Int32} (g0 : am_get lv 0 = some (.inr (.inr (some v0)))) (o0 : ob 8 v0) (g1 : am_get lv 1 = some (.inl v1)) (g2 : am_get lv 2 = some (.inl v2)) (hL : am_okL h.length lv = true) (hI : ob_I w_X8_readVariable B h0 h c s) : am_Ok am_G 3 126 (0, lv, [], h, c, s) (ty_Q w_X8_readVariable 3 B h0) := by
  refine k_aload 1 rfl g0 rfl ?_
  obtain ⟨fs84, u85, e86, f87, t88⟩ := hI.1.get o0 (k := 3) rfl rfl
  obtain ⟨i89, rfl, o90⟩ := t88
  refine k_get 4 rfl e86 f87 rfl ?_
  refine k_cl (W' := []) rfl (rw_size hI.1 (Or.inl o90)) rfl rfl rfl (hI.1.rc3 (Or.inl o90)) hI (by decide) hL so_n ?_
  rintro w91 h92 c93 s94 hv I95 L96 F97
  obtain ⟨_, rfl, x98, rfl⟩ := hv
  show am_Ok _ _ _ (7, _, [.inl x98], h92, c93, s94) _
  refine k_push 8 rfl rfl ?_
  obtain ⟨x99, q100⟩ : ∃ q : Int32, q = (x98 - (2 : Int32)) := ⟨_, rfl⟩
  refine k_bin x99 9 rfl q100.symm rfl ?_
  refine k_istore 10 rfl rfl ?_
  exact b_X8_readVariable_10 _ rfl (gs_ne rfl rfl g0) o0 (gs_ne rfl rfl g1) (gs_ne rfl rfl g2) gs_eq (okL_set (i := 3) (v := .inl x99) rfl L96) I95
theorem c_X8_readVariable {h : am_h} {v0 : Nat} {v1 : Int32} {v2 : Int32} (hT : ty_H h) (o0 : ob 8 v0) : am_Mt 4 126 [.inr (.inr (some v0)), .inl v1, .inl v2] h (ty_Q w_X8_readVariable 3 (ob_P h) h) := am_Mt.of (b_X8_readVariable rfl o0 rfl rfl (okA_r hT o0 (okA_i (okA_i okA_n))) (ob_I.start hT))
abbrev w_X8_pass : List (Nat × Nat) := []
theorem b_X8_pass {B : Nat} {h0 : am_h} {lv : am_l} {h : am_h} {c s : Nat} {v0 : Nat} {v1 : Nat} {v2 : Int32} (g0 : am_get lv 0 = some (.inr (.inr (some v0)))) (o0 : ob 8 v0) (g1 : am_get lv 1 = some (.inr (.inr (some v1)))) (o1 : ob 1 v1) (g2 : am_get lv 2 = some (.inl v2)) (hL : am_okL h.length lv = true) (hI : ob_I w_X8_pass B h0 h c s) : am_Ok am_G 4 123 (0, lv, [], h, c, s) (ty_Q w_X8_pass 2 B h0) := by
  refine k_iload 1 rfl g2 rfl ?_
  refine k_push 2 rfl rfl ?_
  obtain ⟨x1, q2⟩ : ∃ q : Int32, q = (v2 / (4 : Int32)) := ⟨_, rfl⟩
  refine k_divZ x1 3 rfl (by decide) q2.symm rfl ?_
  refine k_istore 4 rfl rfl ?_
  refine k_iload 5 rfl (gs_ne rfl rfl g2) rfl ?_
  refine k_push 6 rfl rfl ?_
  obtain ⟨x3, q4⟩ : ∃ q : Int32, q = (v2 - v2 / (4 : Int32) * (4 : Int32)) := ⟨_, rfl⟩
  refine k_divZ x3 7 rfl (by decide) q4.symm rfl ?_
  refine k_istore 9 rfl rfl ?_
  refine k_aload 10 rfl (gs_ne rfl rfl (gs_ne rfl rfl g1)) rfl ?_
  refine k_iload 11 rfl (gs_ne rfl rfl gs_eq) rfl ?_
  refine k_cl (W' := w_X1_level) rfl (c_X1_level hI.1 o1) rfl rfl rfl (hI.1.rc o1 rfl) hI (by decide) (okL_set (i := 4) (v := .inl x3) rfl (okL_set (i := 3) (v := .inl x1) rfl hL)) so_n ?_
  rintro w5 h6 c7 s8 hv I9 L10 F11
  obtain ⟨_, rfl, x12, rfl⟩ := hv
  show am_Ok _ _ _ (14, _, [.inl x12], h6, c7, s8) _
  refine k_istore 16 rfl rfl ?_
  refine k_iload 18 rfl gs_eq rfl ?_
  refine k_push 21 rfl rfl ?_
  by_cases b13 : x12 ≤ (200 : Int32)
  · refine k_c2 26 rfl rfl (if_pos b13) ?_
    refine k_aload 27 rfl (gs_ne rfl rfl (gs_ne rfl rfl (gs_ne rfl rfl g1))) rfl ?_
    refine k_iload 28 rfl (gs_ne rfl rfl (gs_ne rfl rfl gs_eq)) rfl ?_
    refine k_cl (W' := w_X1_kind) rfl (c_X1_kind I9.1 o1) rfl rfl rfl (I9.1.rc o1 rfl) I9 (by decide) (okL_set (i := 5) (v := .inl x12) rfl L10) so_n ?_
    rintro w14 h15 c16 s17 hv I18 L19 F20
    obtain ⟨_, rfl, x21, rfl⟩ := hv
    show am_Ok _ _ _ (31, _, [.inl x21], h15, c16, s17) _
    by_cases b22 : x21.toInt < 1 ∨ 5 < x21.toInt
    · refine k_sw 263 rfl (if_pos b22) ?_
      refine k_push 264 rfl rfl ?_
      exact k_fin rfl rfl ⟨⟨_, rfl, ⟨_, rfl, _, rfl⟩⟩, I18⟩
    · have b22 : x21.toInt = 1 ∨ x21.toInt = 2 ∨ x21.toInt = 3 ∨ x21.toInt = 4 ∨ x21.toInt = 5 := by omega
      rcases b22 with b22 | b22 | b22 | b22 | b22
      · refine k_sw 64 rfl (by unfold am_tb; rw [b22]; decide) ?_
        refine k_iload 66 rfl (gs_ne rfl rfl gs_eq) rfl ?_
        by_cases b23 : x3 = 0
        · refine k_c1 69 rfl rfl (if_pos b23) ?_
          refine k_aload 70 rfl (gs_ne rfl rfl (gs_ne rfl rfl (gs_ne rfl rfl g0))) rfl ?_
          refine k_iload 71 rfl (gs_ne rfl rfl (gs_ne rfl rfl gs_eq)) rfl ?_
          refine k_iload 73 rfl gs_eq rfl ?_
          refine k_cl (W' := w_X8_beginFunction) rfl (c_X8_beginFunction I18.1 o0) rfl rfl rfl (I18.1.rc o0 rfl) I18 (by decide) L19 so_n ?_
          rintro w24 h25 c26 s27 hv I28 L29 F30
          obtain ⟨_, rfl, x31, rfl, z32⟩ := hv
          show am_Ok _ _ _ (76, _, [.inl x31], h25, c26, s27) _
          by_cases b33 : x31 = 0
          · refine k_c1 87 rfl rfl (if_pos b33) ?_
            refine k_push 88 rfl rfl ?_
            exact k_fin rfl rfl ⟨⟨_, rfl, ⟨_, rfl, _, rfl⟩⟩, I28⟩
          · refine k_c1 79 rfl rfl (if_neg b33) ?_
            refine k_push 80 rfl rfl ?_
            refine k_iload 81 rfl (gs_ne rfl rfl (gs_ne rfl rfl gs_eq)) rfl ?_
            obtain ⟨x34, q35⟩ : ∃ q : Int32, q = ((4 : Int32) * x1) := ⟨_, rfl⟩
            refine k_bin x34 82 rfl q35.symm rfl ?_
            refine k_push 83 rfl rfl ?_
            obtain ⟨x36, q37⟩ : ∃ q : Int32, q = (x34 + (1 : Int32)) := ⟨_, rfl⟩
            refine k_bin x36 84 rfl q37.symm rfl ?_
            refine k_goto 88 rfl rfl ?_
            exact k_fin rfl rfl ⟨⟨_, rfl, ⟨_, rfl, _, rfl⟩⟩, I28⟩
        · refine k_c1 89 rfl rfl (if_neg b23) ?_
          refine k_iload 91 rfl (gs_ne rfl rfl gs_eq) rfl ?_
          refine k_push 92 rfl rfl ?_
          by_cases b38 : x3 = (2 : Int32)
          · refine k_c2 95 rfl rfl (if_pos b38) ?_
            refine k_aload 96 rfl (gs_ne rfl rfl (gs_ne rfl rfl (gs_ne rfl rfl g0))) rfl ?_
            refine k_iload 97 rfl (gs_ne rfl rfl (gs_ne rfl rfl gs_eq)) rfl ?_
            refine k_iload 99 rfl gs_eq rfl ?_
            refine k_cl (W' := w_X8_readVariable) rfl (c_X8_readVariable I18.1 o0) rfl rfl rfl (I18.1.rc o0 rfl) I18 (by decide) L19 so_n ?_
            rintro w39 h40 c41 s42 hv I43 L44 F45
            obtain ⟨_, rfl, x46, rfl, z47⟩ := hv
            show am_Ok _ _ _ (102, _, [.inl x46], h40, c41, s42) _
            by_cases b48 : x46 = 0
            · refine k_c1 112 rfl rfl (if_pos b48) ?_
              refine k_push 113 rfl rfl ?_
              exact k_fin rfl rfl ⟨⟨_, rfl, ⟨_, rfl, _, rfl⟩⟩, I43⟩
            · refine k_c1 105 rfl rfl (if_neg b48) ?_
              refine k_aload 106 rfl (gs_ne rfl rfl (gs_ne rfl rfl (gs_ne rfl rfl g0))) rfl ?_
              refine k_cl (W' := w_X8_nextArgument) rfl (c_X8_nextArgument I43.1 o0) rfl rfl rfl (I43.1.rc o0 rfl) I43 (by decide) L44 so_n ?_
              rintro w49 h50 c51 s52 hv I53 L54 F55
              obtain ⟨_, rfl, x56, rfl⟩ := hv
              show am_Ok _ _ _ (109, _, [.inl x56], h50, c51, s52) _
              refine k_goto 113 rfl rfl ?_
              exact k_fin rfl rfl ⟨⟨_, rfl, ⟨_, rfl, _, rfl⟩⟩, I53⟩
          · refine k_c2 112 rfl rfl (if_neg b38) ?_
            refine k_push 113 rfl rfl ?_
            exact k_fin rfl rfl ⟨⟨_, rfl, ⟨_, rfl, _, rfl⟩⟩, I18⟩
      · refine k_sw 114 rfl (by unfold am_tb; rw [b22]; decide) ?_
        refine k_iload 116 rfl (gs_ne rfl rfl gs_eq) rfl ?_
        refine k_push 117 rfl rfl ?_
        by_cases b57 : x3 = (1 : Int32)
        · refine k_c2 120 rfl rfl (if_pos b57) ?_
          refine k_aload 121 rfl (gs_ne rfl rfl (gs_ne rfl rfl (gs_ne rfl rfl g0))) rfl ?_
          refine k_iload 122 rfl (gs_ne rfl rfl (gs_ne rfl rfl gs_eq)) rfl ?_
          refine k_cl (W' := w_X8_beginApplication) rfl (c_X8_beginApplication I18.1 o0) rfl rfl rfl (I18.1.rc o0 rfl) I18 (by decide) L19 so_n ?_
          rintro w58 h59 c60 s61 hv I62 L63 F64
          obtain ⟨_, rfl, x65, rfl, z66⟩ := hv
          show am_Ok _ _ _ (125, _, [.inl x65], h59, c60, s61) _
          by_cases b67 : x65 = 0
          · refine k_c1 134 rfl rfl (if_pos b67) ?_
            refine k_push 135 rfl rfl ?_
            exact k_fin rfl rfl ⟨⟨_, rfl, ⟨_, rfl, _, rfl⟩⟩, I62⟩
          · refine k_c1 128 rfl rfl (if_neg b67) ?_
            refine k_push 129 rfl rfl ?_
            refine k_iload 130 rfl (gs_ne rfl rfl (gs_ne rfl rfl gs_eq)) rfl ?_
            obtain ⟨x68, q69⟩ : ∃ q : Int32, q = ((4 : Int32) * x1) := ⟨_, rfl⟩
            refine k_bin x68 131 rfl q69.symm rfl ?_
            refine k_goto 135 rfl rfl ?_
            exact k_fin rfl rfl ⟨⟨_, rfl, ⟨_, rfl, _, rfl⟩⟩, I62⟩
        · refine k_c2 134 rfl rfl (if_neg b57) ?_
          refine k_push 135 rfl rfl ?_
          exact k_fin rfl rfl ⟨⟨_, rfl, ⟨_, rfl, _, rfl⟩⟩, I18⟩
      · refine k_sw 136 rfl (by unfold am_tb; rw [b22]; decide) ?_
        refine k_iload 138 rfl (gs_ne rfl rfl gs_eq) rfl ?_
        by_cases b70 : x3 = 0
        · refine k_c1 141 rfl rfl (if_pos b70) ?_
          refine k_aload 142 rfl (gs_ne rfl rfl (gs_ne rfl rfl (gs_ne rfl rfl g0))) rfl ?_
          obtain ⟨fs71, u72, e73, f74, t75⟩ := I18.1.get o0 (k := 0) rfl rfl
          obtain ⟨i76, rfl, o77⟩ := t75
          refine k_get 145 rfl e73 f74 rfl ?_
          refine k_iload 147 rfl gs_eq rfl ?_
          refine k_cl (W' := w_X4_take) rfl (c_X4_take I18.1 o77 (pre_le b13)) rfl rfl rfl (I18.1.rc o77 rfl) I18 (by decide) L19 so_n ?_
          rintro w78 h79 c80 s81 hv I82 L83 F84
          obtain ⟨_, rfl, x85, rfl⟩ := hv
          show am_Ok _ _ _ (150, _, [.inl x85], h79, c80, s81) _
          refine k_istore 152 rfl rfl ?_
          refine k_iload 154 rfl gs_eq rfl ?_
          by_cases b86 : x85 = 0
          · refine k_c1 157 rfl rfl (if_pos b86) ?_
            refine k_push 158 rfl rfl ?_
            refine k_goto 167 rfl rfl ?_
            exact k_fin rfl rfl ⟨⟨_, rfl, ⟨_, rfl, _, rfl⟩⟩, I82⟩
          · refine k_c1 161 rfl rfl (if_neg b86) ?_
            refine k_push 162 rfl rfl ?_
            refine k_iload 163 rfl (gs_ne rfl rfl (gs_ne rfl rfl (gs_ne rfl rfl gs_eq))) rfl ?_
            obtain ⟨x87, q88⟩ : ∃ q : Int32, q = ((4 : Int32) * x1) := ⟨_, rfl⟩
            refine k_bin x87 164 rfl q88.symm rfl ?_
            refine k_iload 166 rfl gs_eq rfl ?_
            obtain ⟨x89, q90⟩ : ∃ q : Int32, q = (x87 + x85) := ⟨_, rfl⟩
            refine k_bin x89 167 rfl q90.symm rfl ?_
            exact k_fin rfl rfl ⟨⟨_, rfl, ⟨_, rfl, _, rfl⟩⟩, I82⟩
        · refine k_c1 168 rfl rfl (if_neg b70) ?_
          refine k_aload 169 rfl (gs_ne rfl rfl (gs_ne rfl rfl (gs_ne rfl rfl g0))) rfl ?_
          obtain ⟨fs91, u92, e93, f94, t95⟩ := I18.1.get o0 (k := 0) rfl rfl
          obtain ⟨i96, rfl, o97⟩ := t95
          refine k_get 172 rfl e93 f94 rfl ?_
          refine k_iload 174 rfl gs_eq rfl ?_
          refine k_iload 176 rfl (gs_ne rfl rfl gs_eq) rfl ?_
          refine k_cl (W' := w_X4_put) rfl (c_X4_put I18.1 o97 (pre_le b13)) rfl rfl rfl (I18.1.rc o97 rfl) I18 (by decide) L19 so_n ?_
          rintro w98 h99 c100 s101 hv I102 L103 F104
          cases hv
          show am_Ok _ _ _ (179, _, [], h99, c100, s101) _
          refine k_push 180 rfl rfl ?_
          refine k_iload 181 rfl (gs_ne rfl rfl (gs_ne rfl rfl gs_eq)) rfl ?_
          obtain ⟨x105, q106⟩ : ∃ q : Int32, q = ((4 : Int32) * x1) := ⟨_, rfl⟩
          refine k_bin x105 182 rfl q106.symm rfl ?_
          exact k_fin rfl rfl ⟨⟨_, rfl, ⟨_, rfl, _, rfl⟩⟩, I102⟩
      · refine k_sw 183 rfl (by unfold am_tb; rw [b22]; decide) ?_
        refine k_iload 185 rfl (gs_ne rfl rfl gs_eq) rfl ?_
        by_cases b107 : x3 = 0
        · refine k_c1 188 rfl rfl (if_pos b107) ?_
          refine k_aload 189 rfl (gs_ne rfl rfl (gs_ne rfl rfl (gs_ne rfl rfl g0))) rfl ?_
          obtain ⟨fs108, u109, e110, f111, t112⟩ := I18.1.get o0 (k := 0) rfl rfl
          obtain ⟨i113, rfl, o114⟩ := t112
          refine k_get 192 rfl e110 f111 rfl ?_
          refine k_iload 194 rfl gs_eq rfl ?_
          refine k_cl (W' := w_X4_uncouple) rfl (c_X4_uncouple I18.1 o114 (pre_le b13)) rfl rfl rfl (I18.1.rc o114 rfl) I18 (by decide) L19 so_n ?_
          rintro w115 h116 c117 s118 hv I119 L120 F121
          obtain ⟨_, rfl, x122, rfl, z123⟩ := hv
          show am_Ok _ _ _ (197, _, [.inl x122], h116, c117, s118) _
          by_cases b124 : x122 = 0
          · refine k_c1 208 rfl rfl (if_pos b124) ?_
            refine k_push 209 rfl rfl ?_
            exact k_fin rfl rfl ⟨⟨_, rfl, ⟨_, rfl, _, rfl⟩⟩, I119⟩
          · refine k_c1 200 rfl rfl (if_neg b124) ?_
            refine k_push 201 rfl rfl ?_
            refine k_iload 202 rfl (gs_ne rfl rfl (gs_ne rfl rfl gs_eq)) rfl ?_
            obtain ⟨x125, q126⟩ : ∃ q : Int32, q = ((4 : Int32) * x1) := ⟨_, rfl⟩
            refine k_bin x125 203 rfl q126.symm rfl ?_
            refine k_push 204 rfl rfl ?_
            obtain ⟨x127, q128⟩ : ∃ q : Int32, q = (x125 + (1 : Int32)) := ⟨_, rfl⟩
            refine k_bin x127 205 rfl q128.symm rfl ?_
            refine k_goto 209 rfl rfl ?_
            exact k_fin rfl rfl ⟨⟨_, rfl, ⟨_, rfl, _, rfl⟩⟩, I119⟩
        · refine k_c1 210 rfl rfl (if_neg b107) ?_
          refine k_aload 211 rfl (gs_ne rfl rfl (gs_ne rfl rfl (gs_ne rfl rfl g0))) rfl ?_
          obtain ⟨fs129, u130, e131, f132, t133⟩ := I18.1.get o0 (k := 0) rfl rfl
          obtain ⟨i134, rfl, o135⟩ := t133
          refine k_get 214 rfl e131 f132 rfl ?_
          refine k_iload 216 rfl gs_eq rfl ?_
          refine k_cl (W' := w_X4_couple) rfl (c_X4_couple I18.1 o135 (pre_le b13)) rfl rfl rfl (I18.1.rc o135 rfl) I18 (by decide) L19 so_n ?_
          rintro w136 h137 c138 s139 hv I140 L141 F142
          cases hv
          show am_Ok _ _ _ (219, _, [], h137, c138, s139) _
          refine k_push 220 rfl rfl ?_
          refine k_iload 221 rfl (gs_ne rfl rfl (gs_ne rfl rfl gs_eq)) rfl ?_
          obtain ⟨x143, q144⟩ : ∃ q : Int32, q = ((4 : Int32) * x1) := ⟨_, rfl⟩
          refine k_bin x143 222 rfl q144.symm rfl ?_
          exact k_fin rfl rfl ⟨⟨_, rfl, ⟨_, rfl, _, rfl⟩⟩, I140⟩
      · refine k_sw 223 rfl (by unfold am_tb; rw [b22]; decide) ?_
        refine k_iload 225 rfl (gs_ne rfl rfl gs_eq) rfl ?_
        by_cases b145 : x3 = 0
        · refine k_c1 228 rfl rfl (if_pos b145) ?_
          refine k_aload 229 rfl (gs_ne rfl rfl (gs_ne rfl rfl (gs_ne rfl rfl g0))) rfl ?_
          obtain ⟨fs146, u147, e148, f149, t150⟩ := I18.1.get o0 (k := 0) rfl rfl
          obtain ⟨i151, rfl, o152⟩ := t150
          refine k_get 232 rfl e148 f149 rfl ?_
          refine k_iload 234 rfl gs_eq rfl ?_
          refine k_cl (W' := w_X4_close) rfl (c_X4_close I18.1 o152) rfl rfl rfl (I18.1.rc o152 rfl) I18 (by decide) L19 so_n ?_
          rintro w153 h154 c155 s156 hv I157 L158 F159
          obtain ⟨_, rfl, x160, rfl, z161⟩ := hv
          show am_Ok _ _ _ (237, _, [.inl x160], h154, c155, s156) _
          by_cases b162 : x160 = 0
          · refine k_c1 248 rfl rfl (if_pos b162) ?_
            refine k_push 249 rfl rfl ?_
            exact k_fin rfl rfl ⟨⟨_, rfl, ⟨_, rfl, _, rfl⟩⟩, I157⟩
          · refine k_c1 240 rfl rfl (if_neg b162) ?_
            refine k_push 241 rfl rfl ?_
            refine k_iload 242 rfl (gs_ne rfl rfl (gs_ne rfl rfl gs_eq)) rfl ?_
            obtain ⟨x163, q164⟩ : ∃ q : Int32, q = ((4 : Int32) * x1) := ⟨_, rfl⟩
            refine k_bin x163 243 rfl q164.symm rfl ?_
            refine k_push 244 rfl rfl ?_
            obtain ⟨x165, q166⟩ : ∃ q : Int32, q = (x163 + (1 : Int32)) := ⟨_, rfl⟩
            refine k_bin x165 245 rfl q166.symm rfl ?_
            refine k_goto 249 rfl rfl ?_
            exact k_fin rfl rfl ⟨⟨_, rfl, ⟨_, rfl, _, rfl⟩⟩, I157⟩
        · refine k_c1 250 rfl rfl (if_neg b145) ?_
          refine k_aload 251 rfl (gs_ne rfl rfl (gs_ne rfl rfl (gs_ne rfl rfl g0))) rfl ?_
          obtain ⟨fs167, u168, e169, f170, t171⟩ := I18.1.get o0 (k := 0) rfl rfl
          obtain ⟨i172, rfl, o173⟩ := t171
          refine k_get 254 rfl e169 f170 rfl ?_
          refine k_iload 256 rfl gs_eq rfl ?_
          refine k_cl (W' := w_X4_open) rfl (c_X4_open I18.1 o173) rfl rfl rfl (I18.1.rc o173 rfl) I18 (by decide) L19 so_n ?_
          rintro w174 h175 c176 s177 hv I178 L179 F180
          cases hv
          show am_Ok _ _ _ (259, _, [], h175, c176, s177) _
          refine k_push 260 rfl rfl ?_
          refine k_iload 261 rfl (gs_ne rfl rfl (gs_ne rfl rfl gs_eq)) rfl ?_
          obtain ⟨x181, q182⟩ : ∃ q : Int32, q = ((4 : Int32) * x1) := ⟨_, rfl⟩
          refine k_bin x181 262 rfl q182.symm rfl ?_
          exact k_fin rfl rfl ⟨⟨_, rfl, ⟨_, rfl, _, rfl⟩⟩, I178⟩
  · refine k_c2 24 rfl rfl (if_neg b13) ?_
    refine k_push 25 rfl rfl ?_
    exact k_fin rfl rfl ⟨⟨_, rfl, ⟨_, rfl, _, rfl⟩⟩, I9⟩
theorem c_X8_pass {h : am_h} {v0 : Nat} {v1 : Nat} {v2 : Int32} (hT : ty_H h) (o0 : ob 8 v0) (o1 : ob 1 v1) : am_Mt 5 123 [.inr (.inr (some v0)), .inr (.inr (some v1)), .inl v2] h (ty_Q w_X8_pass 2 (ob_P h) h) := am_Mt.of (b_X8_pass rfl o0 rfl o1 rfl (okA_r hT o0 (okA_r hT o1 (okA_i okA_n))) (ob_I.start hT))
abbrev w_X8_go : List (Nat × Nat) := [(8, 5), (8, 6), (8, 7), (8, 8)]
theorem b_X8_go_56 {B : Nat} {h0 : am_h} : ∀ (n : Nat) {lv : am_l} {h : am_h} {c s : Nat} {v0 : Nat} {v1 : Nat} {v2 : Int32} {v3 : Int32} {xf : Int32} , up_m xf = n → ob_f h v0 5 = some (.inl xf) → am_get lv 0 = some (.inr (.inr (some v0))) → ob 8 v0 → am_get lv 1 = some (.inr (.inr (some v1))) → ob 1 v1 → am_get lv 2 = some (.inl v2) → am_get lv 3 = some (.inl v3) → am_okL h.length lv = true → ob_I w_X8_go B h0 h c s → am_Ok am_G 5 121 (56, lv, [], h, c, s) (ty_Q w_X8_go 0 B h0) := by
  intro n
  induction n using Nat.strongRecOn with
  | ind n ih =>
    intro lv h c s v0 v1 v2 v3 xf hn tf g0 o0 g1 o1 g2 g3 hL hI
    refine k_iload 57 rfl g3 rfl ?_
    by_cases b1 : v3 < 0
    · refine k_c1 133 rfl rfl (if_pos b1) ?_
      refine k_aload 134 rfl g0 rfl ?_
      refine k_iload 135 rfl g3 rfl ?_
      refine k_push 137 rfl rfl ?_
      by_cases b2 : v3 = (-2 : Int32)
      · refine k_c2 140 rfl rfl (if_pos b2) ?_
        refine k_push 141 rfl rfl ?_
        refine k_goto 145 rfl rfl ?_
        obtain ⟨fs3, u4, e5, f6, t7⟩ := hI.1.get o0 (k := 8) rfl rfl
        refine k_put 148 rfl e5 (okZ_of (Or.inr rfl)) (List.getElem?_eq_some_iff.mp f6).1 rfl ?_
        obtain ⟨h8, E11, I9, l12⟩ := hI.put (v := .inl (1 : Int32)) o0 rfl e5 (k := 8) rfl (show ty_V 1 (.inl (1 : Int32)) from ⟨_, rfl, (Or.inr rfl)⟩) (by decide) rfl
        have t13 := ob_f.ne tf e5 E11 (by decide)
        rw [E11]
        have L10 := okL_eq l12 hL
        exact k_fin rfl rfl ⟨⟨_, rfl, rfl⟩, I9⟩
      · refine k_c2 144 rfl rfl (if_neg b2) ?_
        refine k_push 145 rfl rfl ?_
        obtain ⟨fs14, u15, e16, f17, t18⟩ := hI.1.get o0 (k := 8) rfl rfl
        refine k_put 148 rfl e16 (okZ_of (Or.inl rfl)) (List.getElem?_eq_some_iff.mp f17).1 rfl ?_
        obtain ⟨h19, E22, I20, l23⟩ := hI.put (v := .inl (0 : Int32)) o0 rfl e16 (k := 8) rfl (show ty_V 1 (.inl (0 : Int32)) from ⟨_, rfl, (Or.inl rfl)⟩) (by decide) rfl
        have t24 := ob_f.ne tf e16 E22 (by decide)
        rw [E22]
        have L21 := okL_eq l23 hL
        exact k_fin rfl rfl ⟨⟨_, rfl, rfl⟩, I20⟩
    · refine k_c1 60 rfl rfl (if_neg b1) ?_
      refine k_aload 61 rfl g0 rfl ?_
      obtain ⟨fs25, u26, e27, f28, t29⟩ := hI.1.get o0 (k := 5) rfl rfl
      obtain rfl : u26 = .inl xf := ob_f.get tf e27 f28
      refine k_get 64 rfl e27 f28 rfl ?_
      refine k_push 67 rfl rfl ?_
      by_cases b30 : (4000 : Int32) < xf
      · refine k_c2 133 rfl rfl (if_pos b30) ?_
        refine k_aload 134 rfl g0 rfl ?_
        refine k_iload 135 rfl g3 rfl ?_
        refine k_push 137 rfl rfl ?_
        by_cases b31 : v3 = (-2 : Int32)
        · refine k_c2 140 rfl rfl (if_pos b31) ?_
          refine k_push 141 rfl rfl ?_
          refine k_goto 145 rfl rfl ?_
          obtain ⟨fs32, u33, e34, f35, t36⟩ := hI.1.get o0 (k := 8) rfl rfl
          refine k_put 148 rfl e34 (okZ_of (Or.inr rfl)) (List.getElem?_eq_some_iff.mp f35).1 rfl ?_
          obtain ⟨h37, E40, I38, l41⟩ := hI.put (v := .inl (1 : Int32)) o0 rfl e34 (k := 8) rfl (show ty_V 1 (.inl (1 : Int32)) from ⟨_, rfl, (Or.inr rfl)⟩) (by decide) rfl
          have t42 := ob_f.ne tf e34 E40 (by decide)
          rw [E40]
          have L39 := okL_eq l41 hL
          exact k_fin rfl rfl ⟨⟨_, rfl, rfl⟩, I38⟩
        · refine k_c2 144 rfl rfl (if_neg b31) ?_
          refine k_push 145 rfl rfl ?_
          obtain ⟨fs43, u44, e45, f46, t47⟩ := hI.1.get o0 (k := 8) rfl rfl
          refine k_put 148 rfl e45 (okZ_of (Or.inl rfl)) (List.getElem?_eq_some_iff.mp f46).1 rfl ?_
          obtain ⟨h48, E51, I49, l52⟩ := hI.put (v := .inl (0 : Int32)) o0 rfl e45 (k := 8) rfl (show ty_V 1 (.inl (0 : Int32)) from ⟨_, rfl, (Or.inl rfl)⟩) (by decide) rfl
          have t53 := ob_f.ne tf e45 E51 (by decide)
          rw [E51]
          have L50 := okL_eq l52 hL
          exact k_fin rfl rfl ⟨⟨_, rfl, rfl⟩, I49⟩
      · refine k_c2 70 rfl rfl (if_neg b30) ?_
        refine k_aload 71 rfl g1 rfl ?_
        refine k_iload 72 rfl g3 rfl ?_
        refine k_cl (W' := w_X1_wire) rfl (c_X1_wire hI.1 o1) rfl rfl rfl (hI.1.rc o1 rfl) hI (by decide) hL so_n ?_
        rintro w54 h55 c56 s57 hv I58 L59 F60
        have t61 := ob_Fr.f F60 o0 (by decide) (by decide : (8, 5) ∉ w_X1_wire) tf
        obtain ⟨_, rfl, x62, rfl⟩ := hv
        show am_Ok _ _ _ (75, _, [.inl x62], h55, c56, s57) _
        refine k_istore 77 rfl rfl ?_
        refine k_aload 78 rfl (gs_ne rfl rfl g0) rfl ?_
        refine k_dup 79 rfl rfl rfl ?_
        obtain ⟨fs63, u64, e65, f66, t67⟩ := I58.1.get o0 (k := 5) rfl rfl
        obtain rfl : u64 = .inl xf := ob_f.get t61 e65 f66
        refine k_get 82 rfl e65 f66 rfl ?_
        refine k_push 83 rfl rfl ?_
        obtain ⟨x68, q69⟩ : ∃ q : Int32, q = (xf + (1 : Int32)) := ⟨_, rfl⟩
        refine k_bin x68 84 rfl q69.symm rfl ?_
        obtain ⟨fs70, u71, e72, f73, t74⟩ := I58.1.get o0 (k := 5) rfl rfl
        refine k_put 87 rfl e72 rfl (List.getElem?_eq_some_iff.mp f73).1 rfl ?_
        obtain ⟨h75, E78, I76, l79⟩ := I58.put (v := .inl x68) o0 rfl e72 (k := 5) rfl (show ty_V 0 (.inl x68) from ⟨_, rfl⟩) (by decide) rfl
        have t80 := ob_f.put e72 f73 E78
        rw [E78]
        have L77 := okL_eq l79 (okL_set (i := 4) (v := .inl x62) rfl L59)
        refine k_aload 88 rfl (gs_ne rfl rfl g0) rfl ?_
        refine k_iload 89 rfl (gs_ne rfl rfl g3) rfl ?_
        refine k_iload 91 rfl gs_eq rfl ?_
        refine k_cl (W' := w_X8_lookWhetherWanted) rfl (c_X8_lookWhetherWanted I76.1 o0) rfl rfl rfl (I76.1.rc o0 rfl) I76 (by decide) L77 so_n ?_
        rintro w81 h82 c83 s84 hv I85 L86 F87
        have t88 := ob_Fr.f F87 o0 (by decide) (by decide : (8, 5) ∉ w_X8_lookWhetherWanted) t80
        cases hv
        show am_Ok _ _ _ (94, _, [], h82, c83, s84) _
        refine k_aload 95 rfl (gs_ne rfl rfl g0) rfl ?_
        obtain ⟨fs89, u90, e91, f92, t93⟩ := I85.1.get o0 (k := 7) rfl rfl
        obtain ⟨x94, rfl⟩ := t93
        refine k_get 98 rfl e91 f92 rfl ?_
        by_cases b95 : x94 ≤ 0
        · refine k_c1 108 rfl rfl (if_pos b95) ?_
          refine k_aload 109 rfl (gs_ne rfl rfl g0) rfl ?_
          obtain ⟨fs96, u97, e98, f99, t100⟩ := I85.1.get o0 (k := 5) rfl rfl
          obtain rfl : u97 = .inl x68 := ob_f.get t88 e98 f99
          refine k_get 112 rfl e98 f99 rfl ?_
          refine k_push 115 rfl rfl ?_
          by_cases b101 : x68 ≤ (4000 : Int32)
          · refine k_c2 122 rfl rfl (if_pos b101) ?_
            refine k_aload 123 rfl (gs_ne rfl rfl g0) rfl ?_
            refine k_aload 124 rfl (gs_ne rfl rfl g1) rfl ?_
            refine k_iload 126 rfl gs_eq rfl ?_
            refine k_cl (W' := w_X8_pass) rfl (c_X8_pass I85.1 o0 o1) rfl rfl rfl (I85.1.rc o0 rfl) I85 (by decide) L86 so_n ?_
            rintro w102 h103 c104 s105 hv I106 L107 F108
            have t109 := ob_Fr.f F108 o0 (by decide) (by decide : (8, 5) ∉ w_X8_pass) t88
            obtain ⟨_, rfl, x110, rfl⟩ := hv
            show am_Ok _ _ _ (129, _, [.inl x110], h103, c104, s105) _
            refine k_istore 130 rfl rfl ?_
            refine k_goto 56 rfl rfl ?_
            exact ih _ (by rw [← hn]; exact (by rw [q69]; exact up_lt' b30 (by decide))) rfl t109 (gs_ne rfl rfl (gs_ne rfl rfl g0)) o0 (gs_ne rfl rfl (gs_ne rfl rfl g1)) o1 (gs_ne rfl rfl (gs_ne rfl rfl g2)) gs_eq (okL_set (i := 3) (v := .inl x110) rfl L107) I106
          · refine k_c2 118 rfl rfl (if_neg b101) ?_
            refine k_push 119 rfl rfl ?_
            refine k_goto 129 rfl rfl ?_
            refine k_istore 130 rfl rfl ?_
            refine k_goto 56 rfl rfl ?_
            exact ih _ (by rw [← hn]; exact (by rw [q69]; exact up_lt' b30 (by decide))) rfl t88 (gs_ne rfl rfl (gs_ne rfl rfl g0)) o0 (gs_ne rfl rfl (gs_ne rfl rfl g1)) o1 (gs_ne rfl rfl (gs_ne rfl rfl g2)) gs_eq (okL_set (i := 3) (v := .inl (-1 : Int32)) rfl L86) I85
        · refine k_c1 101 rfl rfl (if_neg b95) ?_
          refine k_iload 102 rfl (gs_ne rfl rfl g2) rfl ?_
          by_cases b111 : v2 = 0
          · refine k_c1 105 rfl rfl (if_pos b111) ?_
            refine k_goto 133 rfl rfl ?_
            refine k_aload 134 rfl (gs_ne rfl rfl g0) rfl ?_
            refine k_iload 135 rfl (gs_ne rfl rfl g3) rfl ?_
            refine k_push 137 rfl rfl ?_
            by_cases b112 : v3 = (-2 : Int32)
            · refine k_c2 140 rfl rfl (if_pos b112) ?_
              refine k_push 141 rfl rfl ?_
              refine k_goto 145 rfl rfl ?_
              obtain ⟨fs113, u114, e115, f116, t117⟩ := I85.1.get o0 (k := 8) rfl rfl
              refine k_put 148 rfl e115 (okZ_of (Or.inr rfl)) (List.getElem?_eq_some_iff.mp f116).1 rfl ?_
              obtain ⟨h118, E121, I119, l122⟩ := I85.put (v := .inl (1 : Int32)) o0 rfl e115 (k := 8) rfl (show ty_V 1 (.inl (1 : Int32)) from ⟨_, rfl, (Or.inr rfl)⟩) (by decide) rfl
              have t123 := ob_f.ne t88 e115 E121 (by decide)
              rw [E121]
              have L120 := okL_eq l122 L86
              exact k_fin rfl rfl ⟨⟨_, rfl, rfl⟩, I119⟩
            · refine k_c2 144 rfl rfl (if_neg b112) ?_
              refine k_push 145 rfl rfl ?_
              obtain ⟨fs124, u125, e126, f127, t128⟩ := I85.1.get o0 (k := 8) rfl rfl
              refine k_put 148 rfl e126 (okZ_of (Or.inl rfl)) (List.getElem?_eq_some_iff.mp f127).1 rfl ?_
              obtain ⟨h129, E132, I130, l133⟩ := I85.put (v := .inl (0 : Int32)) o0 rfl e126 (k := 8) rfl (show ty_V 1 (.inl (0 : Int32)) from ⟨_, rfl, (Or.inl rfl)⟩) (by decide) rfl
              have t134 := ob_f.ne t88 e126 E132 (by decide)
              rw [E132]
              have L131 := okL_eq l133 L86
              exact k_fin rfl rfl ⟨⟨_, rfl, rfl⟩, I130⟩
          · refine k_c1 108 rfl rfl (if_neg b111) ?_
            refine k_aload 109 rfl (gs_ne rfl rfl g0) rfl ?_
            obtain ⟨fs135, u136, e137, f138, t139⟩ := I85.1.get o0 (k := 5) rfl rfl
            obtain rfl : u136 = .inl x68 := ob_f.get t88 e137 f138
            refine k_get 112 rfl e137 f138 rfl ?_
            refine k_push 115 rfl rfl ?_
            by_cases b140 : x68 ≤ (4000 : Int32)
            · refine k_c2 122 rfl rfl (if_pos b140) ?_
              refine k_aload 123 rfl (gs_ne rfl rfl g0) rfl ?_
              refine k_aload 124 rfl (gs_ne rfl rfl g1) rfl ?_
              refine k_iload 126 rfl gs_eq rfl ?_
              refine k_cl (W' := w_X8_pass) rfl (c_X8_pass I85.1 o0 o1) rfl rfl rfl (I85.1.rc o0 rfl) I85 (by decide) L86 so_n ?_
              rintro w141 h142 c143 s144 hv I145 L146 F147
              have t148 := ob_Fr.f F147 o0 (by decide) (by decide : (8, 5) ∉ w_X8_pass) t88
              obtain ⟨_, rfl, x149, rfl⟩ := hv
              show am_Ok _ _ _ (129, _, [.inl x149], h142, c143, s144) _
              refine k_istore 130 rfl rfl ?_
              refine k_goto 56 rfl rfl ?_
              exact ih _ (by rw [← hn]; exact (by rw [q69]; exact up_lt' b30 (by decide))) rfl t148 (gs_ne rfl rfl (gs_ne rfl rfl g0)) o0 (gs_ne rfl rfl (gs_ne rfl rfl g1)) o1 (gs_ne rfl rfl (gs_ne rfl rfl g2)) gs_eq (okL_set (i := 3) (v := .inl x149) rfl L146) I145
            · refine k_c2 118 rfl rfl (if_neg b140) ?_
              refine k_push 119 rfl rfl ?_
              refine k_goto 129 rfl rfl ?_
              refine k_istore 130 rfl rfl ?_
              refine k_goto 56 rfl rfl ?_
              exact ih _ (by rw [← hn]; exact (by rw [q69]; exact up_lt' b30 (by decide))) rfl t88 (gs_ne rfl rfl (gs_ne rfl rfl g0)) o0 (gs_ne rfl rfl (gs_ne rfl rfl g1)) o1 (gs_ne rfl rfl (gs_ne rfl rfl g2)) gs_eq (okL_set (i := 3) (v := .inl (-1 : Int32)) rfl L86) I85
theorem b_X8_go {B : Nat} {h0 : am_h} {lv : am_l} {h : am_h} {c s : Nat} {v0 : Nat} {v1 : Nat} {v2 : Int32} (g0 : am_get lv 0 = some (.inr (.inr (some v0)))) (o0 : ob 8 v0) (g1 : am_get lv 1 = some (.inr (.inr (some v1)))) (o1 : ob 1 v1) (g2 : am_get lv 2 = some (.inl v2)) (hL : am_okL h.length lv = true) (hI : ob_I w_X8_go B h0 h c s) : am_Ok am_G 5 121 (0, lv, [], h, c, s) (ty_Q w_X8_go 0 B h0) := by
  refine k_aload 1 rfl g0 rfl ?_
  obtain ⟨fs150, u151, e152, f153, t154⟩ := hI.1.get o0 (k := 0) rfl rfl
  obtain ⟨i155, rfl, o156⟩ := t154
  refine k_get 4 rfl e152 f153 rfl ?_
  refine k_cl (W' := w_X4_clear) rfl (c_X4_clear hI.1 o156) rfl rfl rfl (hI.1.rc o156 rfl) hI (by decide) hL so_n ?_
  rintro w157 h158 c159 s160 hv I161 L162 F163
  cases hv
  show am_Ok _ _ _ (7, _, [], h158, c159, s160) _
  refine k_aload 8 rfl g0 rfl ?_
  obtain ⟨fs164, u165, e166, f167, t168⟩ := I161.1.get o0 (k := 1) rfl rfl
  obtain ⟨i169, rfl, o170⟩ := t168
  refine k_get 11 rfl e166 f167 rfl ?_
  refine k_push 12 rfl rfl ?_
  refine k_cl (W' := []) rfl (rw_cut (W := []) I161.1 (Or.inl o170)) rfl rfl rfl (I161.1.rc3 (Or.inl o170)) I161 (by decide) L162 so_n ?_
  rintro w171 h172 c173 s174 hv I175 L176 F177
  cases hv
  show am_Ok _ _ _ (15, _, [], h172, c173, s174) _
  refine k_aload 16 rfl g0 rfl ?_
  obtain ⟨fs178, u179, e180, f181, t182⟩ := I175.1.get o0 (k := 2) rfl rfl
  obtain ⟨i183, rfl, o184⟩ := t182
  refine k_get 19 rfl e180 f181 rfl ?_
  refine k_push 20 rfl rfl ?_
  refine k_cl (W' := []) rfl (rw_cut (W := []) I175.1 (Or.inl o184)) rfl rfl rfl (I175.1.rc3 (Or.inl o184)) I175 (by decide) L176 so_n ?_
  rintro w185 h186 c187 s188 hv I189 L190 F191
  cases hv
  show am_Ok _ _ _ (23, _, [], h186, c187, s188) _
  refine k_aload 24 rfl g0 rfl ?_
  obtain ⟨fs192, u193, e194, f195, t196⟩ := I189.1.get o0 (k := 3) rfl rfl
  obtain ⟨i197, rfl, o198⟩ := t196
  refine k_get 27 rfl e194 f195 rfl ?_
  refine k_push 28 rfl rfl ?_
  refine k_cl (W' := []) rfl (rw_cut (W := []) I189.1 (Or.inl o198)) rfl rfl rfl (I189.1.rc3 (Or.inl o198)) I189 (by decide) L190 so_n ?_
  rintro w199 h200 c201 s202 hv I203 L204 F205
  cases hv
  show am_Ok _ _ _ (31, _, [], h200, c201, s202) _
  refine k_aload 32 rfl g0 rfl ?_
  obtain ⟨fs206, u207, e208, f209, t210⟩ := I203.1.get o0 (k := 4) rfl rfl
  obtain ⟨i211, rfl, o212⟩ := t210
  refine k_get 35 rfl e208 f209 rfl ?_
  refine k_push 36 rfl rfl ?_
  refine k_cl (W' := []) rfl (rw_cut (W := []) I203.1 (Or.inl o212)) rfl rfl rfl (I203.1.rc3 (Or.inl o212)) I203 (by decide) L204 so_n ?_
  rintro w213 h214 c215 s216 hv I217 L218 F219
  cases hv
  show am_Ok _ _ _ (39, _, [], h214, c215, s216) _
  refine k_aload 40 rfl g0 rfl ?_
  refine k_push 41 rfl rfl ?_
  obtain ⟨fs220, u221, e222, f223, t224⟩ := I217.1.get o0 (k := 5) rfl rfl
  refine k_put 44 rfl e222 rfl (List.getElem?_eq_some_iff.mp f223).1 rfl ?_
  obtain ⟨h225, E228, I226, l229⟩ := I217.put (v := .inl (0 : Int32)) o0 rfl e222 (k := 5) rfl (show ty_V 0 (.inl (0 : Int32)) from ⟨_, rfl⟩) (by decide) rfl
  rw [E228]
  have L227 := okL_eq l229 L218
  refine k_aload 45 rfl g0 rfl ?_
  refine k_push 46 rfl rfl ?_
  obtain ⟨fs230, u231, e232, f233, t234⟩ := I226.1.get o0 (k := 6) rfl rfl
  refine k_put 49 rfl e232 rfl (List.getElem?_eq_some_iff.mp f233).1 rfl ?_
  obtain ⟨h235, E238, I236, l239⟩ := I226.put (v := .inl (-1 : Int32)) o0 rfl e232 (k := 6) rfl (show ty_V 0 (.inl (-1 : Int32)) from ⟨_, rfl⟩) (by decide) rfl
  rw [E238]
  have L237 := okL_eq l239 L227
  refine k_aload 50 rfl g0 rfl ?_
  refine k_push 51 rfl rfl ?_
  obtain ⟨fs240, u241, e242, f243, t244⟩ := I236.1.get o0 (k := 7) rfl rfl
  refine k_put 54 rfl e242 rfl (List.getElem?_eq_some_iff.mp f243).1 rfl ?_
  obtain ⟨h245, E248, I246, l249⟩ := I236.put (v := .inl (0 : Int32)) o0 rfl e242 (k := 7) rfl (show ty_V 0 (.inl (0 : Int32)) from ⟨_, rfl⟩) (by decide) rfl
  rw [E248]
  have L247 := okL_eq l249 L237
  refine k_push 55 rfl rfl ?_
  refine k_istore 56 rfl rfl ?_
  obtain ⟨x250, t251⟩ := I246.1.fld o0 (k := 5) rfl rfl
  exact b_X8_go_56 _ rfl t251 (gs_ne rfl rfl g0) o0 (gs_ne rfl rfl g1) o1 (gs_ne rfl rfl g2) gs_eq (okL_set (i := 3) (v := .inl (0 : Int32)) rfl L247) I246
theorem c_X8_go {h : am_h} {v0 : Nat} {v1 : Nat} {v2 : Int32} (hT : ty_H h) (o0 : ob 8 v0) (o1 : ob 1 v1) : am_Mt 6 121 [.inr (.inr (some v0)), .inr (.inr (some v1)), .inl v2] h (ty_Q w_X8_go 0 (ob_P h) h) := am_Mt.of (b_X8_go rfl o0 rfl o1 rfl (okA_r hT o0 (okA_r hT o1 (okA_i okA_n))) (ob_I.start hT))
end
