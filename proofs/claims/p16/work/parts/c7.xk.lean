def SMQ (F : rf_f) (A : xl_A) : Prop := ¬ F 411 = 0 → (0 ≤ gl (A 7) (5 * F 410 + 2) ∧ gl (A 7) (5 * F 410 + 2) ≤ ((A 5).length : Int) ∧ ((A 5).length : Int) ≤ 1402) ∧ ∀ i : Int, gl (A 7) (5 * F 410 + 2) ≤ i → i < ((A 5).length : Int) → -50 ≤ gl (A 5) i ∧ 0 ≤ pe (A 7) (gl (A 5) i) ∧ pe (A 7) (gl (A 5) i) ≤ 5000
theorem adl72 {A : xl_A} {v : Int} : addl 7 A v 2 = A 2 := by
  unfold addl
  split
  · exact upl_ne (by decide)
  · rfl
theorem gl_ssl {l : List Int} {q v p : Int} (h : p ≠ q) : gl (ssl l q v) p = gl l p := by
  unfold gl ssl
  by_cases h1 : 0 ≤ q
  · rw [if_pos h1]
    by_cases h2 : 0 ≤ p
    · rw [if_pos h2, if_pos h2, List.getD_eq_getElem?_getD, List.getD_eq_getElem?_getD, List.getElem?_set_ne (by omega)]
    · rw [if_neg h2, if_neg h2]
  · rw [if_neg h1]
theorem gl_sse {l : List Int} {q v : Int} (h0 : 0 ≤ q) (h1 : q < (l.length : Int)) : gl (ssl l q v) q = v := by
  unfold gl ssl
  rw [if_pos h0, if_pos h0, List.getD_eq_getElem?_getD, List.getElem?_set_self (by omega)]
  rfl
theorem pe_ssl {l : List Int} {k v x : Int} (h : ∀ y : Int, 5 * y + 4 ≠ k) : pe (ssl l k v) x = pe l x := by
  unfold pe
  rw [gl_ssl (h _)]
section
def p_X6_takeNewName (n1 : Int) (F0 : rf_f) (A0 : xl_A) : Int × rf_f × xl_A := if F0 410 = 12 then (2, F0, A0) else if n1 = 0 then (0, (up1 ((p_X7_advance (up1 F0 411 (1)) ((addl 7 ((addl 7 ((addl 7 ((addl 7 (addl 7 A0 (F0 1502)) (F0 1503))) (((((addl 7 (addl 7 A0 (F0 1502)) (F0 1503)) 5).length : Nat) : Int)))) (0))) (0)))).2.1) 406 (1)), (p_X7_advance (up1 F0 411 (1)) ((addl 7 ((addl 7 ((addl 7 ((addl 7 (addl 7 A0 (F0 1502)) (F0 1503))) (((((addl 7 (addl 7 A0 (F0 1502)) (F0 1503)) 5).length : Nat) : Int)))) (0))) (0)))).2.2) else (4, F0, A0)
theorem n_X6_takeNewName {h0 : am_h} {F0 : rf_f} {A0 : xl_A} {w1 : Int32} {n1 : Int} (hn1 : w1.toInt = n1) (hz1 : w1 = 0 ∨ w1 = 1) (hp1 : 0 ≤ F0 1502 ∧ F0 1502 ≤ F0 1503 ∧ F0 1503 ≤ ((A0 2).length : Int)) (hp2 : ((A0 2).length : Int) ≤ 700) (hR : xR h0 F0 A0) : am_Mt 4 90 [.inr (.inr (some 4)), .inl w1] h0 (xQ h0 (fun x F' A' => x = (p_X6_takeNewName n1 F0 A0).1 ∧ F' = (p_X6_takeNewName n1 F0 A0).2.1 ∧ A' = (p_X6_takeNewName n1 F0 A0).2.2)) := by
  refine am_Mt.of (D := 3) ?_
  have hI : xI h0 (ob_P h0) h0 0 0 F0 A0 := xI.start hR
  have hL : am_okL h0.length (am_args 0 [.inr (.inr (some 4)), .inl w1]) = true := (okA_r hI.T oc4 (okA_i okA_n))
  refine k_aload 1 rfl rfl rfl ?_
  refine x_gI hI 4 rfl oc4 rfl rfl rfl rfl (fun x1 (e2 : x1.toInt = F0 410) => ?_)
  refine k_push 6 rfl rfl ?_
  have hc3 : (12 : Int32).toInt = 12 := by decide
  by_cases b4 : x1 = (12 : Int32)
  · refine k_c2 9 rfl rfl (if_pos b4) ?_
    have b4 : F0 410 = 12 := by have h9 := iv_eq.mp b4; rw [e2] at h9; rw [hc3] at h9; exact h9
    refine k_push 10 rfl rfl ?_
    have hc5 : (2 : Int32).toInt = 2 := by decide
    exact k_fin rfl rfl ⟨_, _, _, _, _, _, rfl, hI, (by unfold p_X6_takeNewName; rw [if_pos b4]; exact hc5), (by unfold p_X6_takeNewName; rw [if_pos b4]), (by unfold p_X6_takeNewName; rw [if_pos b4])⟩
  · refine k_c2 11 rfl rfl (if_neg b4) ?_
    have b4 : ¬ (F0 410 = 12) := by have h9 := mt iv_eq.mpr b4; rw [e2] at h9; rw [hc3] at h9; exact h9
    refine k_iload 12 rfl rfl rfl ?_
    by_cases b6 : w1 = 0
    · refine k_c1 17 rfl rfl (if_pos b6) ?_
      have b6 : n1 = 0 := by have h9 := iv_eq0.mp b6; rw [hn1] at h9; exact h9
      refine k_aload 18 rfl rfl rfl ?_
      refine x_gF 7 hI 21 rfl rfl (by decide) rfl ?_
      refine k_aload 22 rfl rfl rfl ?_
      refine x_gF 15 hI 25 rfl rfl (by decide) rfl ?_
      refine k_xq hI rfl (n_X7_start    hI.1) rfl rfl rfl (hI.T.rc oc15 rfl) hL (xo_r hI ol7 so_n) ?_
      rintro x7 h8 c9 s10 F11 A12 I13 L14 ⟨e15, k16, k17⟩
      replace k16 : F11 = F0 := k16
      replace k17 : A12 = A0 := k17
      replace e15 : x7.toInt = F0 1502 := e15
      replace k16 := k16.symm
      subst k16
      replace k17 := k17.symm
      subst k17
      show am_Ok _ _ _ (28, _, [.inl x7, .inr (.inr (some 7))], _, c9, s10) _
      refine k_xq I13 rfl (y_add e15 I13.1 or7) rfl rfl rfl (ty_H.rc3 I13.T or7) L14 so_n ?_
      rintro x18 h19 c20 s21 F22 A23 I24 L25 ⟨e26, k27, k28⟩
      replace k27 := k27.symm
      subst k27
      replace k28 := k28.symm
      subst k28
      have z29 := iv_01 (x := x18) (by rw [e26]; exact (addr_01))
      show am_Ok _ _ _ (31, _, [.inl x18], _, c20, s21) _
      refine k_pop 32 rfl rfl rfl ?_
      refine k_aload 33 rfl rfl rfl ?_
      refine x_gF 7 I24 36 rfl rfl (by decide) rfl ?_
      refine k_aload 37 rfl rfl rfl ?_
      refine x_gF 15 I24 40 rfl rfl (by decide) rfl ?_
      refine k_xq I24 rfl (n_X7_end    I24.1) rfl rfl rfl (I24.T.rc oc15 rfl) L25 (xo_r I24 ol7 so_n) ?_
      rintro x30 h31 c32 s33 F34 A35 I36 L37 ⟨e38, k39, k40⟩
      replace k39 : F34 = F0 := k39
      replace k40 : A35 = (addl 7 A0 (F0 1502)) := k40
      replace e38 : x30.toInt = F0 1503 := e38
      replace k39 := k39.symm
      subst k39
      replace k40 := k40.symm
      subst k40
      show am_Ok _ _ _ (43, _, [.inl x30, .inr (.inr (some 7))], _, c32, s33) _
      refine k_xq I36 rfl (y_add e38 I36.1 or7) rfl rfl rfl (ty_H.rc3 I36.T or7) L37 so_n ?_
      rintro x41 h42 c43 s44 F45 A46 I47 L48 ⟨e49, k50, k51⟩
      replace k50 := k50.symm
      subst k50
      replace k51 := k51.symm
      subst k51
      have z52 := iv_01 (x := x41) (by rw [e49]; exact (addr_01))
      show am_Ok _ _ _ (46, _, [.inl x41], _, c43, s44) _
      refine k_pop 47 rfl rfl rfl ?_
      refine k_aload 48 rfl rfl rfl ?_
      refine x_gF 7 I47 51 rfl rfl (by decide) rfl ?_
      refine k_aload 52 rfl rfl rfl ?_
      refine x_gF 5 I47 55 rfl rfl (by decide) rfl ?_
      refine k_xq I47 rfl (xv_size I47.1 or5) rfl rfl rfl (ty_H.rc3 I47.T or5) L48 (xo_r I47 ol7 so_n) ?_
      rintro x53 h54 c55 s56 F57 A58 I59 L60 ⟨e61, k62, k63⟩
      replace k62 := k62.symm
      subst k62
      replace k63 := k63.symm
      subst k63
      show am_Ok _ _ _ (58, _, [.inl x53, .inr (.inr (some 7))], _, c55, s56) _
      refine k_xq I59 rfl (y_add e61 I59.1 or7) rfl rfl rfl (ty_H.rc3 I59.T or7) L60 so_n ?_
      rintro x64 h65 c66 s67 F68 A69 I70 L71 ⟨e72, k73, k74⟩
      replace k73 := k73.symm
      subst k73
      replace k74 := k74.symm
      subst k74
      have z75 := iv_01 (x := x64) (by rw [e72]; exact (addr_01))
      show am_Ok _ _ _ (61, _, [.inl x64], _, c66, s67) _
      refine k_pop 62 rfl rfl rfl ?_
      refine k_aload 63 rfl rfl rfl ?_
      refine x_gF 7 I70 66 rfl rfl (by decide) rfl ?_
      refine k_push 67 rfl rfl ?_
      have hc76 : (0 : Int32).toInt = 0 := by decide
      refine k_xq I70 rfl (y_add hc76 I70.1 or7) rfl rfl rfl (ty_H.rc3 I70.T or7) L71 so_n ?_
      rintro x77 h78 c79 s80 F81 A82 I83 L84 ⟨e85, k86, k87⟩
      replace k86 := k86.symm
      subst k86
      replace k87 := k87.symm
      subst k87
      have z88 := iv_01 (x := x77) (by rw [e85]; exact (addr_01))
      show am_Ok _ _ _ (70, _, [.inl x77], _, c79, s80) _
      refine k_pop 71 rfl rfl rfl ?_
      refine k_aload 72 rfl rfl rfl ?_
      refine x_gF 7 I83 75 rfl rfl (by decide) rfl ?_
      refine k_push 76 rfl rfl ?_
      refine k_xq I83 rfl (y_add hc76 I83.1 or7) rfl rfl rfl (ty_H.rc3 I83.T or7) L84 so_n ?_
      rintro x89 h90 c91 s92 F93 A94 I95 L96 ⟨e97, k98, k99⟩
      replace k98 := k98.symm
      subst k98
      replace k99 := k99.symm
      subst k99
      have z100 := iv_01 (x := x89) (by rw [e97]; exact (addr_01))
      show am_Ok _ _ _ (79, _, [.inl x89], _, c91, s92) _
      refine k_pop 80 rfl rfl rfl ?_
      refine k_aload 81 rfl rfl rfl ?_
      refine k_push 82 rfl rfl ?_
      have hc101 : (1 : Int32).toInt = 1 := by decide
      refine x_pZ (fx_ok := fx_no rfl) I95 85 rfl oc4 rfl rfl rfl (Or.inr rfl) rfl (fun h102 I103 l104 => ?_)
      have L105 := okL_eq l104 L96
      have I106 : xI h0 (ob_P h0) h102 c91 s92 (up1 F0 411 (1)) (addl 7 ((addl 7 ((addl 7 ((addl 7 (addl 7 A0 (F0 1502)) (F0 1503))) (((((addl 7 (addl 7 A0 (F0 1502)) (F0 1503)) 5).length : Nat) : Int)))) (0))) (0)) := by have h9 := I103; rw [hc101] at h9; exact h9
      refine k_aload 86 rfl rfl rfl ?_
      refine x_gF 15 I106 89 rfl rfl (by decide) rfl ?_
      refine k_xv I106 rfl (n_X7_advance   (by (simp only [adl72]; exact ⟨Int.le_trans hp1.1 hp1.2.1, hp1.2.2⟩)) (by (simp only [adl72]; exact hp2)) I106.1) rfl rfl rfl (I106.T.rc oc15 rfl) L105 so_n ?_
      rintro h108 c109 s110 F111 A112 I113 L114 ⟨k116, k117⟩
      replace k116 := k116.symm
      subst k116
      replace k117 := k117.symm
      subst k117
      show am_Ok _ _ _ (92, _, [], _, c109, s110) _
      refine k_aload 93 rfl rfl rfl ?_
      refine k_push 94 rfl rfl ?_
      refine x_pI (fx_ok := fx_no rfl) I113 97 rfl oc4 rfl rfl rfl rfl (fun h118 I119 l120 => ?_)
      have L121 := okL_eq l120 L114
      have I122 : xI h0 (ob_P h0) h118 c109 s110 (up1 ((p_X7_advance (up1 F0 411 (1)) ((addl 7 ((addl 7 ((addl 7 ((addl 7 (addl 7 A0 (F0 1502)) (F0 1503))) (((((addl 7 (addl 7 A0 (F0 1502)) (F0 1503)) 5).length : Nat) : Int)))) (0))) (0)))).2.1) 406 (1)) (p_X7_advance (up1 F0 411 (1)) ((addl 7 ((addl 7 ((addl 7 ((addl 7 (addl 7 A0 (F0 1502)) (F0 1503))) (((((addl 7 (addl 7 A0 (F0 1502)) (F0 1503)) 5).length : Nat) : Int)))) (0))) (0)))).2.2 := by have h9 := I119; rw [hc101] at h9; exact h9
      refine k_push 98 rfl rfl ?_
      exact k_fin rfl rfl ⟨_, _, _, _, _, _, rfl, I122, (by unfold p_X6_takeNewName; rw [if_neg b4, if_pos b6]; exact hc76), (by unfold p_X6_takeNewName; rw [if_neg b4, if_pos b6]), (by unfold p_X6_takeNewName; rw [if_neg b4, if_pos b6])⟩
    · refine k_c1 15 rfl rfl (if_neg b6) ?_
      have b6 : ¬ (n1 = 0) := by have h9 := mt iv_eq0.mpr b6; rw [hn1] at h9; exact h9
      refine k_push 16 rfl rfl ?_
      have hc123 : (4 : Int32).toInt = 4 := by decide
      exact k_fin rfl rfl ⟨_, _, _, _, _, _, rfl, hI, (by unfold p_X6_takeNewName; rw [if_neg b4, if_neg b6]; exact hc123), (by unfold p_X6_takeNewName; rw [if_neg b4, if_neg b6]), (by unfold p_X6_takeNewName; rw [if_neg b4, if_neg b6])⟩
def p_X6_takeSemicolon  (F0 : rf_f) (A0 : xl_A) : Int × rf_f × xl_A := if (p_X6_isWhole F0 A0).1 = 0 then (1, F0, A0) else if F0 411 = 0 then (1, F0, A0) else (0, (p_X6_beginItem ((up1 (up1 F0 410 ((F0 410 + 1))) 411 (0))) ((upl ((upl A0 7 (ssl (A0 7) (((5 * F0 410) + 3)) ((((A0 5).length : Nat) : Int))))) 7 (ssl ((ssl (A0 7) (((5 * F0 410) + 3)) ((((A0 5).length : Nat) : Int)))) (((5 * F0 410) + 4)) ((p_X6_partsOf (gl ((ssl (A0 7) (((5 * F0 410) + 3)) ((((A0 5).length : Nat) : Int)))) (((5 * F0 410) + 2))) (((A0 5).length : Nat) : Int) F0 ((upl A0 7 (ssl (A0 7) (((5 * F0 410) + 3)) ((((A0 5).length : Nat) : Int)))))).1))))).2.1, (p_X6_beginItem ((up1 (up1 F0 410 ((F0 410 + 1))) 411 (0))) ((upl ((upl A0 7 (ssl (A0 7) (((5 * F0 410) + 3)) ((((A0 5).length : Nat) : Int))))) 7 (ssl ((ssl (A0 7) (((5 * F0 410) + 3)) ((((A0 5).length : Nat) : Int)))) (((5 * F0 410) + 4)) ((p_X6_partsOf (gl ((ssl (A0 7) (((5 * F0 410) + 3)) ((((A0 5).length : Nat) : Int)))) (((5 * F0 410) + 2))) (((A0 5).length : Nat) : Int) F0 ((upl A0 7 (ssl (A0 7) (((5 * F0 410) + 3)) ((((A0 5).length : Nat) : Int)))))).1))))).2.2)
theorem n_X6_takeSemicolon {h0 : am_h} {F0 : rf_f} {A0 : xl_A}   (ht : 0 ≤ F0 410 ∧ F0 410 ≤ 12) (hsm : SMQ F0 A0) (hR : xR h0 F0 A0) : am_Mt 3 99 [.inr (.inr (some 4))] h0 (xQ h0 (fun x F' A' => x = (p_X6_takeSemicolon F0 A0).1 ∧ F' = (p_X6_takeSemicolon F0 A0).2.1 ∧ A' = (p_X6_takeSemicolon F0 A0).2.2)) := by
  refine am_Mt.of (D := 2) ?_
  have hI : xI h0 (ob_P h0) h0 0 0 F0 A0 := xI.start hR
  have hL : am_okL h0.length (am_args 0 [.inr (.inr (some 4))]) = true := (okA_r hI.T oc4 okA_n)
  refine k_aload 1 rfl rfl rfl ?_
  refine k_xq hI rfl (n_X6_isWhole    hI.1) rfl rfl rfl (hI.T.rc oc4 rfl) hL so_n ?_
  rintro x1 h2 c3 s4 F5 A6 I7 L8 ⟨e9, k10, k11⟩
  replace k10 := k10.trans f_X6_isWhole.1
  replace k11 := k11.trans f_X6_isWhole.2
  replace k10 := k10.symm
  subst k10
  replace k11 := k11.symm
  subst k11
  have z12 := iv_01 (x := x1) (by rw [e9]; exact z_X6_isWhole)
  show am_Ok _ _ _ (4, _, [.inl x1], _, c3, s4) _
  by_cases b13 : x1 = 0
  · refine k_c1 14 rfl rfl (if_pos b13) ?_
    have b13 : (p_X6_isWhole F0 A0).1 = 0 := by have h9 := iv_eq0.mp b13; rw [e9] at h9; exact h9
    refine k_push 15 rfl rfl ?_
    have hc14 : (1 : Int32).toInt = 1 := by decide
    exact k_fin rfl rfl ⟨_, _, _, _, _, _, rfl, I7, (by unfold p_X6_takeSemicolon; rw [if_pos b13]; exact hc14), (by unfold p_X6_takeSemicolon; rw [if_pos b13]), (by unfold p_X6_takeSemicolon; rw [if_pos b13])⟩
  · refine k_c1 7 rfl rfl (if_neg b13) ?_
    have b13 : ¬ ((p_X6_isWhole F0 A0).1 = 0) := by have h9 := mt iv_eq0.mpr b13; rw [e9] at h9; exact h9
    refine k_aload 8 rfl rfl rfl ?_
    refine x_gZ I7 11 rfl oc4 rfl rfl rfl rfl (fun x15 (e16 : x15.toInt = F0 411) z17 => ?_)
    by_cases b18 : x15 = 0
    · refine k_c1 14 rfl rfl (if_pos b18) ?_
      have b18 : F0 411 = 0 := by have h9 := iv_eq0.mp b18; rw [e16] at h9; exact h9
      refine k_push 15 rfl rfl ?_
      have hc19 : (1 : Int32).toInt = 1 := by decide
      exact k_fin rfl rfl ⟨_, _, _, _, _, _, rfl, I7, (by unfold p_X6_takeSemicolon; rw [if_neg b13, if_pos b18]; exact hc19), (by unfold p_X6_takeSemicolon; rw [if_neg b13, if_pos b18]), (by unfold p_X6_takeSemicolon; rw [if_neg b13, if_pos b18])⟩
    · refine k_c1 16 rfl rfl (if_neg b18) ?_
      have b18 : ¬ (F0 411 = 0) := by have h9 := mt iv_eq0.mpr b18; rw [e16] at h9; exact h9
      obtain ⟨hs1, hs2⟩ := hsm b18
      refine k_push 17 rfl rfl ?_
      have hc20 : (5 : Int32).toInt = 5 := by decide
      refine k_aload 18 rfl rfl rfl ?_
      refine x_gI I7 21 rfl oc4 rfl rfl rfl rfl (fun x21 (e22 : x21.toInt = F0 410) => ?_)
      obtain ⟨x23, q24⟩ : ∃ q : Int32, q = (5 : Int32) * x21 := ⟨_, rfl⟩
      have e25 : x23.toInt = (5 * F0 410) := bx_mul q24 hc20 e22 (by omega) (by omega)
      refine k_bin x23 22 rfl q24.symm rfl ?_
      refine k_istore 23 rfl rfl ?_
      refine k_aload 24 rfl (gs_ne rfl rfl rfl) rfl ?_
      refine x_gF 7 I7 27 rfl rfl (by decide) rfl ?_
      refine k_iload 28 rfl gs_eq rfl ?_
      refine k_push 29 rfl rfl ?_
      have hc26 : (3 : Int32).toInt = 3 := by decide
      obtain ⟨x27, q28⟩ : ∃ q : Int32, q = x23 + (3 : Int32) := ⟨_, rfl⟩
      have e29 : x27.toInt = ((5 * F0 410) + 3) := bx_add q28 e25 hc26 (by omega) (by omega)
      refine k_bin x27 30 rfl q28.symm rfl ?_
      refine k_aload 31 rfl (gs_ne rfl rfl rfl) rfl ?_
      refine x_gF 5 I7 34 rfl rfl (by decide) rfl ?_
      refine k_xq I7 rfl (xv_size I7.1 or5) rfl rfl rfl (ty_H.rc3 I7.T or5) (okL_set rfl L8) (so_i (xo_r I7 ol7 so_n)) ?_
      rintro x30 h31 c32 s33 F34 A35 I36 L37 ⟨e38, k39, k40⟩
      replace k39 := k39.symm
      subst k39
      replace k40 := k40.symm
      subst k40
      show am_Ok _ _ _ (37, _, [.inl x30, .inl x27, .inr (.inr (some 7))], _, c32, s33) _
      refine k_xv I36 rfl (y_set e29 e38 I36.1 or7) rfl rfl rfl (ty_H.rc3 I36.T or7) L37 so_n ?_
      rintro h42 c43 s44 F45 A46 I47 L48 ⟨k50, k51⟩
      replace k50 := k50.symm
      subst k50
      replace k51 := k51.symm
      subst k51
      show am_Ok _ _ _ (40, _, [], _, c43, s44) _
      refine k_aload 41 rfl (gs_ne rfl rfl rfl) rfl ?_
      refine x_gF 7 I47 44 rfl rfl (by decide) rfl ?_
      refine k_iload 45 rfl gs_eq rfl ?_
      refine k_push 46 rfl rfl ?_
      have hc52 : (4 : Int32).toInt = 4 := by decide
      obtain ⟨x53, q54⟩ : ∃ q : Int32, q = x23 + (4 : Int32) := ⟨_, rfl⟩
      have e55 : x53.toInt = ((5 * F0 410) + 4) := bx_add q54 e25 hc52 (by omega) (by omega)
      refine k_bin x53 47 rfl q54.symm rfl ?_
      refine k_aload 48 rfl (gs_ne rfl rfl rfl) rfl ?_
      refine k_aload 49 rfl (gs_ne rfl rfl rfl) rfl ?_
      refine x_gF 7 I47 52 rfl rfl (by decide) rfl ?_
      refine k_iload 53 rfl gs_eq rfl ?_
      refine k_push 54 rfl rfl ?_
      have hc56 : (2 : Int32).toInt = 2 := by decide
      obtain ⟨x57, q58⟩ : ∃ q : Int32, q = x23 + (2 : Int32) := ⟨_, rfl⟩
      have e59 : x57.toInt = ((5 * F0 410) + 2) := bx_add q58 e25 hc56 (by omega) (by omega)
      refine k_bin x57 55 rfl q58.symm rfl ?_
      refine k_xq I47 rfl (y_get e59 I47.1 or7) rfl rfl rfl (ty_H.rc3 I47.T or7) L48 (xo_r I47 oc4 (so_i (xo_r I47 ol7 so_n))) ?_
      rintro x60 h61 c62 s63 F64 A65 I66 L67 ⟨e68, k69, k70⟩
      replace k69 := k69.symm
      subst k69
      replace k70 := k70.symm
      subst k70
      show am_Ok _ _ _ (58, _, [.inl x60, .inr (.inr (some 4)), .inl x53, .inr (.inr (some 7))], _, c62, s63) _
      refine k_aload 59 rfl (gs_ne rfl rfl rfl) rfl ?_
      refine x_gF 5 I66 62 rfl rfl (by decide) rfl ?_
      refine k_xq I66 rfl (xv_size I66.1 or5) rfl rfl rfl (ty_H.rc3 I66.T or5) L67 (so_i (xo_r I66 oc4 (so_i (xo_r I66 ol7 so_n)))) ?_
      rintro x71 h72 c73 s74 F75 A76 I77 L78 ⟨e79, k80, k81⟩
      replace k80 := k80.symm
      subst k80
      replace k81 := k81.symm
      subst k81
      show am_Ok _ _ _ (65, _, [.inl x71, .inl x60, .inr (.inr (some 4)), .inl x53, .inr (.inr (some 7))], _, c73, s74) _
      refine k_xq I77 rfl (n_X6_partsOf e68 e79  (by (rw [upl_eq, gl_ssl (by omega)]; exact ⟨hs1.1, hs1.2.1, Int.le_refl _⟩)) (by exact hs1.2.2) (by intro i i1 i2; have h9 := hs2 i (by rw [upl_eq, gl_ssl (by omega)] at i1; exact i1) i2; show -50 ≤ gl (A0 5) i ∧ 0 ≤ pe (ssl (A0 7) _ _) (gl (A0 5) i) ∧ pe (ssl (A0 7) _ _) (gl (A0 5) i) ≤ 5000; rw [pe_ssl (fun y => by omega)]; exact h9) I77.1) rfl rfl rfl (I77.T.rc oc4 rfl) L78 (so_i (xo_r I77 ol7 so_n)) ?_
      rintro x82 h83 c84 s85 F86 A87 I88 L89 ⟨e90, k91, k92⟩
      replace k91 : F86 = F0 := k91
      replace k92 : A87 = (upl A0 7 (ssl (A0 7) (((5 * F0 410) + 3)) ((((A0 5).length : Nat) : Int)))) := k92
      replace k91 := k91.symm
      subst k91
      replace k92 := k92.symm
      subst k92
      show am_Ok _ _ _ (68, _, [.inl x82, .inl x53, .inr (.inr (some 7))], _, c84, s85) _
      refine k_xv I88 rfl (y_set e55 e90 I88.1 or7) rfl rfl rfl (ty_H.rc3 I88.T or7) L89 so_n ?_
      rintro h94 c95 s96 F97 A98 I99 L100 ⟨k102, k103⟩
      replace k102 := k102.symm
      subst k102
      replace k103 := k103.symm
      subst k103
      show am_Ok _ _ _ (71, _, [], _, c95, s96) _
      refine k_aload 72 rfl (gs_ne rfl rfl rfl) rfl ?_
      refine k_dup 73 rfl rfl rfl ?_
      refine x_gI I99 76 rfl oc4 rfl rfl rfl rfl (fun x104 (e105 : x104.toInt = F0 410) => ?_)
      refine k_push 77 rfl rfl ?_
      have hc106 : (1 : Int32).toInt = 1 := by decide
      obtain ⟨x107, q108⟩ : ∃ q : Int32, q = x104 + (1 : Int32) := ⟨_, rfl⟩
      have e109 : x107.toInt = (F0 410 + 1) := bx_add q108 e105 hc106 (by omega) (by omega)
      refine k_bin x107 78 rfl q108.symm rfl ?_
      refine x_pI (fx_ok := fx_no rfl) I99 81 rfl oc4 rfl rfl rfl rfl (fun h110 I111 l112 => ?_)
      have L113 := okL_eq l112 L100
      have I114 : xI h0 (ob_P h0) h110 c95 s96 (up1 F0 410 ((F0 410 + 1))) (upl ((upl A0 7 (ssl (A0 7) (((5 * F0 410) + 3)) ((((A0 5).length : Nat) : Int))))) 7 (ssl ((ssl (A0 7) (((5 * F0 410) + 3)) ((((A0 5).length : Nat) : Int)))) (((5 * F0 410) + 4)) ((p_X6_partsOf (gl ((ssl (A0 7) (((5 * F0 410) + 3)) ((((A0 5).length : Nat) : Int)))) (((5 * F0 410) + 2))) (((A0 5).length : Nat) : Int) F0 ((upl A0 7 (ssl (A0 7) (((5 * F0 410) + 3)) ((((A0 5).length : Nat) : Int)))))).1))) := by have h9 := I111; rw [e109] at h9; exact h9
      refine k_aload 82 rfl (gs_ne rfl rfl rfl) rfl ?_
      refine k_push 83 rfl rfl ?_
      have hc115 : (0 : Int32).toInt = 0 := by decide
      refine x_pZ (fx_ok := fx_no rfl) I114 86 rfl oc4 rfl rfl rfl (Or.inl rfl) rfl (fun h116 I117 l118 => ?_)
      have L119 := okL_eq l118 L113
      have I120 : xI h0 (ob_P h0) h116 c95 s96 (up1 (up1 F0 410 ((F0 410 + 1))) 411 (0)) (upl ((upl A0 7 (ssl (A0 7) (((5 * F0 410) + 3)) ((((A0 5).length : Nat) : Int))))) 7 (ssl ((ssl (A0 7) (((5 * F0 410) + 3)) ((((A0 5).length : Nat) : Int)))) (((5 * F0 410) + 4)) ((p_X6_partsOf (gl ((ssl (A0 7) (((5 * F0 410) + 3)) ((((A0 5).length : Nat) : Int)))) (((5 * F0 410) + 2))) (((A0 5).length : Nat) : Int) F0 ((upl A0 7 (ssl (A0 7) (((5 * F0 410) + 3)) ((((A0 5).length : Nat) : Int)))))).1))) := by have h9 := I117; rw [hc115] at h9; exact h9
      refine k_aload 87 rfl (gs_ne rfl rfl rfl) rfl ?_
      refine k_xv I120 rfl (n_X6_beginItem    I120.1) rfl rfl rfl (I120.T.rc oc4 rfl) L119 so_n ?_
      rintro h122 c123 s124 F125 A126 I127 L128 ⟨k130, k131⟩
      replace k130 := k130.symm
      subst k130
      replace k131 := k131.symm
      subst k131
      show am_Ok _ _ _ (90, _, [], _, c123, s124) _
      refine k_push 91 rfl rfl ?_
      exact k_fin rfl rfl ⟨_, _, _, _, _, _, rfl, I127, (by unfold p_X6_takeSemicolon; rw [if_neg b13, if_neg b18]; exact hc115), (by unfold p_X6_takeSemicolon; rw [if_neg b13, if_neg b18]), (by unfold p_X6_takeSemicolon; rw [if_neg b13, if_neg b18])⟩
def p_X6_takeWord  (F0 : rf_f) (A0 : xl_A) : Int × rf_f × xl_A := if bm (F0 1503 - F0 1502) ≤ 8 then if F0 406 = 2 then ((p_X6_takeFunctionName F0 A0).1, (p_X6_takeFunctionName F0 A0).2.1, (p_X6_takeFunctionName F0 A0).2.2) else if F0 406 = 3 then ((p_X6_takeFunctionName F0 A0).1, (p_X6_takeFunctionName F0 A0).2.1, (p_X6_takeFunctionName F0 A0).2.2) else if F0 406 = 0 then if (p_X7_equalsSignIsNext F0 A0).1 = 0 then if (p_X6_functionOfWord F0 A0).1 = (-1) then if (p_X6_nameOfWord F0 A0).1 = (-1) then (3, F0, A0) else if (p_X6_functionOfWord F0 A0).1 = (-1) then (0, (up1 ((p_X6_beginAtom F0 A0).2.1) 406 (4)), (addl 5 ((p_X6_beginAtom F0 A0).2.2) (bm ((-11) - (p_X6_nameOfWord F0 A0).1)))) else (0, (up1 ((p_X6_beginAtom F0 A0).2.1) 406 (4)), (addl 5 ((p_X6_beginAtom F0 A0).2.2) (bm (2 + (p_X6_functionOfWord F0 A0).1)))) else if (p_X6_functionOfWord F0 A0).1 = (-1) then (0, (up1 ((p_X6_beginAtom F0 A0).2.1) 406 (4)), (addl 5 ((p_X6_beginAtom F0 A0).2.2) (bm ((-11) - (p_X6_nameOfWord F0 A0).1)))) else (0, (up1 ((p_X6_beginAtom F0 A0).2.1) 406 (4)), (addl 5 ((p_X6_beginAtom F0 A0).2.2) (bm (2 + (p_X6_functionOfWord F0 A0).1)))) else if (p_X6_nameOfWord F0 A0).1 = (-1) then ((p_X6_takeNewName 0 F0 A0).1, (p_X6_takeNewName 0 F0 A0).2.1, (p_X6_takeNewName 0 F0 A0).2.2) else ((p_X6_takeNewName 1 F0 A0).1, (p_X6_takeNewName 1 F0 A0).2.1, (p_X6_takeNewName 1 F0 A0).2.2) else if (p_X6_functionOfWord F0 A0).1 = (-1) then if (p_X6_nameOfWord F0 A0).1 = (-1) then (3, F0, A0) else if (p_X6_functionOfWord F0 A0).1 = (-1) then (0, (up1 ((p_X6_beginAtom F0 A0).2.1) 406 (4)), (addl 5 ((p_X6_beginAtom F0 A0).2.2) (bm ((-11) - (p_X6_nameOfWord F0 A0).1)))) else (0, (up1 ((p_X6_beginAtom F0 A0).2.1) 406 (4)), (addl 5 ((p_X6_beginAtom F0 A0).2.2) (bm (2 + (p_X6_functionOfWord F0 A0).1)))) else if (p_X6_functionOfWord F0 A0).1 = (-1) then (0, (up1 ((p_X6_beginAtom F0 A0).2.1) 406 (4)), (addl 5 ((p_X6_beginAtom F0 A0).2.2) (bm ((-11) - (p_X6_nameOfWord F0 A0).1)))) else (0, (up1 ((p_X6_beginAtom F0 A0).2.1) 406 (4)), (addl 5 ((p_X6_beginAtom F0 A0).2.2) (bm (2 + (p_X6_functionOfWord F0 A0).1)))) else (2, F0, A0)
theorem n_X6_takeWord {h0 : am_h} {F0 : rf_f} {A0 : xl_A}   (hp1 : 0 ≤ F0 1502 ∧ F0 1502 ≤ F0 1503 ∧ F0 1503 ≤ ((A0 2).length : Int)) (hp2 : ((A0 2).length : Int) ≤ 700) (hw9 : PW (A0 2) (A0 9) 2 (((A0 9).length : Int) / 2)) (hw7 : PW (A0 2) (A0 7) 5 (F0 410)) (ht : 0 ≤ F0 410 ∧ F0 410 ≤ 12) (hc9 : ((A0 9).length : Int) ≤ 62) (hR : xR h0 F0 A0) : am_Mt 5 89 [.inr (.inr (some 4))] h0 (xQ h0 (fun x F' A' => x = (p_X6_takeWord F0 A0).1 ∧ F' = (p_X6_takeWord F0 A0).2.1 ∧ A' = (p_X6_takeWord F0 A0).2.2)) := by
  refine am_Mt.of (D := 4) ?_
  have hI : xI h0 (ob_P h0) h0 0 0 F0 A0 := xI.start hR
  have hL : am_okL h0.length (am_args 0 [.inr (.inr (some 4))]) = true := (okA_r hI.T oc4 okA_n)
  refine k_aload 1 rfl rfl rfl ?_
  refine x_gF 15 hI 4 rfl rfl (by decide) rfl ?_
  refine k_xq hI rfl (n_X7_end    hI.1) rfl rfl rfl (hI.T.rc oc15 rfl) hL so_n ?_
  rintro x1 h2 c3 s4 F5 A6 I7 L8 ⟨e9, k10, k11⟩
  replace k10 : F5 = F0 := k10
  replace k11 : A6 = A0 := k11
  replace e9 : x1.toInt = F0 1503 := e9
  replace k10 := k10.symm
  subst k10
  replace k11 := k11.symm
  subst k11
  show am_Ok _ _ _ (7, _, [.inl x1], _, c3, s4) _
  refine k_aload 8 rfl rfl rfl ?_
  refine x_gF 15 I7 11 rfl rfl (by decide) rfl ?_
  refine k_xq I7 rfl (n_X7_start    I7.1) rfl rfl rfl (I7.T.rc oc15 rfl) L8 (so_i so_n) ?_
  rintro x12 h13 c14 s15 F16 A17 I18 L19 ⟨e20, k21, k22⟩
  replace k21 : F16 = F0 := k21
  replace k22 : A17 = A0 := k22
  replace e20 : x12.toInt = F0 1502 := e20
  replace k21 := k21.symm
  subst k21
  replace k22 := k22.symm
  subst k22
  show am_Ok _ _ _ (14, _, [.inl x12, .inl x1], _, c14, s15) _
  obtain ⟨x23, q24⟩ : ∃ q : Int32, q = x1 - x12 := ⟨_, rfl⟩
  have e25 : x23.toInt = bm (F0 1503 - F0 1502) := bm_sub q24 e9 e20
  refine k_bin x23 15 rfl q24.symm rfl ?_
  refine k_push 17 rfl rfl ?_
  have hc26 : (8 : Int32).toInt = 8 := by decide
  by_cases b27 : x23 ≤ (8 : Int32)
  · refine k_c2 22 rfl rfl (if_pos b27) ?_
    have b27 : bm (F0 1503 - F0 1502) ≤ 8 := by have h9 := iv_le.mp b27; rw [e25] at h9; rw [hc26] at h9; exact h9
    refine k_aload 23 rfl rfl rfl ?_
    refine x_gI I18 26 rfl oc4 rfl rfl rfl rfl (fun x28 (e29 : x28.toInt = F0 406) => ?_)
    refine k_push 27 rfl rfl ?_
    have hc30 : (2 : Int32).toInt = 2 := by decide
    by_cases b31 : x28 = (2 : Int32)
    · refine k_c2 38 rfl rfl (if_pos b31) ?_
      have b31 : F0 406 = 2 := by have h9 := iv_eq.mp b31; rw [e29] at h9; rw [hc30] at h9; exact h9
      refine k_aload 39 rfl rfl rfl ?_
      refine k_xq I18 rfl (n_X6_takeFunctionName    I18.1) rfl rfl rfl (I18.T.rc oc4 rfl) L19 so_n ?_
      rintro x32 h33 c34 s35 F36 A37 I38 L39 ⟨e40, k41, k42⟩
      replace k41 := k41.symm
      subst k41
      replace k42 := k42.symm
      subst k42
      show am_Ok _ _ _ (42, _, [.inl x32], _, c34, s35) _
      exact k_fin rfl rfl ⟨_, _, _, _, _, _, rfl, I38, (by unfold p_X6_takeWord; rw [if_pos b27, if_pos b31]; exact e40), (by unfold p_X6_takeWord; rw [if_pos b27, if_pos b31]), (by unfold p_X6_takeWord; rw [if_pos b27, if_pos b31])⟩
    · refine k_c2 30 rfl rfl (if_neg b31) ?_
      have b31 : ¬ (F0 406 = 2) := by have h9 := mt iv_eq.mpr b31; rw [e29] at h9; rw [hc30] at h9; exact h9
      refine k_aload 31 rfl rfl rfl ?_
      refine x_gI I18 34 rfl oc4 rfl rfl rfl rfl (fun x43 (e44 : x43.toInt = F0 406) => ?_)
      refine k_push 35 rfl rfl ?_
      have hc45 : (3 : Int32).toInt = 3 := by decide
      by_cases b46 : x43 = (3 : Int32)
      · refine k_c2 38 rfl rfl (if_pos b46) ?_
        have b46 : F0 406 = 3 := by have h9 := iv_eq.mp b46; rw [e44] at h9; rw [hc45] at h9; exact h9
        refine k_aload 39 rfl rfl rfl ?_
        refine k_xq I18 rfl (n_X6_takeFunctionName    I18.1) rfl rfl rfl (I18.T.rc oc4 rfl) L19 so_n ?_
        rintro x47 h48 c49 s50 F51 A52 I53 L54 ⟨e55, k56, k57⟩
        replace k56 := k56.symm
        subst k56
        replace k57 := k57.symm
        subst k57
        show am_Ok _ _ _ (42, _, [.inl x47], _, c49, s50) _
        exact k_fin rfl rfl ⟨_, _, _, _, _, _, rfl, I53, (by unfold p_X6_takeWord; rw [if_pos b27, if_neg b31, if_pos b46]; exact e55), (by unfold p_X6_takeWord; rw [if_pos b27, if_neg b31, if_pos b46]), (by unfold p_X6_takeWord; rw [if_pos b27, if_neg b31, if_pos b46])⟩
      · refine k_c2 43 rfl rfl (if_neg b46) ?_
        have b46 : ¬ (F0 406 = 3) := by have h9 := mt iv_eq.mpr b46; rw [e44] at h9; rw [hc45] at h9; exact h9
        refine k_aload 44 rfl rfl rfl ?_
        refine k_xq I18 rfl (n_X6_nameOfWord   (by exact hp1) (by exact hp2) (by exact hw7) (by exact ht) I18.1) rfl rfl rfl (I18.T.rc oc4 rfl) L19 so_n ?_
        rintro x58 h59 c60 s61 F62 A63 I64 L65 ⟨e66, k67, k68⟩
        replace k67 : F62 = F0 := k67
        replace k68 : A63 = A0 := k68
        replace k67 := k67.symm
        subst k67
        replace k68 := k68.symm
        subst k68
        show am_Ok _ _ _ (47, _, [.inl x58], _, c60, s61) _
        refine k_istore 48 rfl rfl ?_
        refine k_aload 49 rfl (gs_ne rfl rfl rfl) rfl ?_
        refine x_gI I64 52 rfl oc4 rfl rfl rfl rfl (fun x69 (e70 : x69.toInt = F0 406) => ?_)
        by_cases b71 : x69 = 0
        · refine k_c1 55 rfl rfl (if_pos b71) ?_
          have b71 : F0 406 = 0 := by have h9 := iv_eq0.mp b71; rw [e70] at h9; exact h9
          refine k_aload 56 rfl (gs_ne rfl rfl rfl) rfl ?_
          refine x_gF 15 I64 59 rfl rfl (by decide) rfl ?_
          refine k_xq I64 rfl (n_X7_equalsSignIsNext   (by exact ⟨by omega, hp1.2.2⟩) (by exact hp2) I64.1) rfl rfl rfl (I64.T.rc oc15 rfl) (okL_set rfl L65) so_n ?_
          rintro x72 h73 c74 s75 F76 A77 I78 L79 ⟨e80, k81, k82⟩
          replace k81 := k81.trans f_X7_equalsSignIsNext.1
          replace k82 := k82.trans f_X7_equalsSignIsNext.2
          replace k81 := k81.symm
          subst k81
          replace k82 := k82.symm
          subst k82
          have z83 := iv_01 (x := x72) (by rw [e80]; exact z_X7_equalsSignIsNext)
          show am_Ok _ _ _ (62, _, [.inl x72], _, c74, s75) _
          by_cases b84 : x72 = 0
          · refine k_c1 80 rfl rfl (if_pos b84) ?_
            have b84 : (p_X7_equalsSignIsNext F0 A0).1 = 0 := by have h9 := iv_eq0.mp b84; rw [e80] at h9; exact h9
            refine k_aload 81 rfl (gs_ne rfl rfl rfl) rfl ?_
            refine k_xq I78 rfl (n_X6_functionOfWord   (by exact hp1) (by exact hp2) (by exact hw9) (by exact hc9) I78.1) rfl rfl rfl (I78.T.rc oc4 rfl) L79 so_n ?_
            rintro x85 h86 c87 s88 F89 A90 I91 L92 ⟨e93, k94, k95⟩
            replace k94 : F89 = F0 := k94
            replace k95 : A90 = A0 := k95
            replace k94 := k94.symm
            subst k94
            replace k95 := k95.symm
            subst k95
            show am_Ok _ _ _ (84, _, [.inl x85], _, c87, s88) _
            refine k_istore 85 rfl rfl ?_
            refine k_iload 86 rfl gs_eq rfl ?_
            refine k_push 87 rfl rfl ?_
            have hc96 : (-1 : Int32).toInt = -1 := by decide
            by_cases b97 : x85 = (-1 : Int32)
            · refine k_c2 90 rfl rfl (if_pos b97) ?_
              have b97 : (p_X6_functionOfWord F0 A0).1 = (-1) := by have h9 := iv_eq.mp b97; rw [e93] at h9; rw [hc96] at h9; exact h9
              refine k_iload 91 rfl (gs_ne rfl rfl gs_eq) rfl ?_
              refine k_push 92 rfl rfl ?_
              by_cases b98 : x58 = (-1 : Int32)
              · refine k_c2 95 rfl rfl (if_pos b98) ?_
                have b98 : (p_X6_nameOfWord F0 A0).1 = (-1) := by have h9 := iv_eq.mp b98; rw [e66] at h9; rw [hc96] at h9; exact h9
                refine k_push 96 rfl rfl ?_
                exact k_fin rfl rfl ⟨_, _, _, _, _, _, rfl, I91, (by unfold p_X6_takeWord; rw [if_pos b27, if_neg b31, if_neg b46, if_pos b71, if_pos b84, if_pos b97, if_pos b98]; exact hc45), (by unfold p_X6_takeWord; rw [if_pos b27, if_neg b31, if_neg b46, if_pos b71, if_pos b84, if_pos b97, if_pos b98]), (by unfold p_X6_takeWord; rw [if_pos b27, if_neg b31, if_neg b46, if_pos b71, if_pos b84, if_pos b97, if_pos b98])⟩
              · refine k_c2 97 rfl rfl (if_neg b98) ?_
                have b98 : ¬ ((p_X6_nameOfWord F0 A0).1 = (-1)) := by have h9 := mt iv_eq.mpr b98; rw [e66] at h9; rw [hc96] at h9; exact h9
                refine k_aload 98 rfl (gs_ne rfl rfl (gs_ne rfl rfl rfl)) rfl ?_
                refine k_xv I91 rfl (n_X6_beginAtom    I91.1) rfl rfl rfl (I91.T.rc oc4 rfl) (okL_set rfl L92) so_n ?_
                rintro h100 c101 s102 F103 A104 I105 L106 ⟨k108, k109⟩
                replace k108 := k108.symm
                subst k108
                replace k109 := k109.symm
                subst k109
                show am_Ok _ _ _ (101, _, [], _, c101, s102) _
                refine k_aload 102 rfl (gs_ne rfl rfl (gs_ne rfl rfl rfl)) rfl ?_
                refine x_gF 5 I105 105 rfl rfl (by decide) rfl ?_
                refine k_iload 106 rfl gs_eq rfl ?_
                refine k_push 107 rfl rfl ?_
                by_cases b110 : x85 = (-1 : Int32)
                · refine k_c2 110 rfl rfl (if_pos b110) ?_
                  have b110 : (p_X6_functionOfWord F0 A0).1 = (-1) := by have h9 := iv_eq.mp b110; rw [e93] at h9; rw [hc96] at h9; exact h9
                  refine k_push 112 rfl rfl ?_
                  have hc111 : (-11 : Int32).toInt = -11 := by decide
                  refine k_iload 113 rfl (gs_ne rfl rfl gs_eq) rfl ?_
                  obtain ⟨x112, q113⟩ : ∃ q : Int32, q = (-11 : Int32) - x58 := ⟨_, rfl⟩
                  have e114 : x112.toInt = bm ((-11) - (p_X6_nameOfWord F0 A0).1) := bm_sub q113 hc111 e66
                  refine k_bin x112 114 rfl q113.symm rfl ?_
                  refine k_goto 120 rfl rfl ?_
                  refine k_xq I105 rfl (y_add e114 I105.1 or5) rfl rfl rfl (ty_H.rc3 I105.T or5) L106 so_n ?_
                  rintro x115 h116 c117 s118 F119 A120 I121 L122 ⟨e123, k124, k125⟩
                  replace k124 := k124.symm
                  subst k124
                  replace k125 := k125.symm
                  subst k125
                  have z126 := iv_01 (x := x115) (by rw [e123]; exact (addr_01))
                  show am_Ok _ _ _ (123, _, [.inl x115], _, c117, s118) _
                  refine k_pop 124 rfl rfl rfl ?_
                  refine k_aload 125 rfl (gs_ne rfl rfl (gs_ne rfl rfl rfl)) rfl ?_
                  refine k_push 126 rfl rfl ?_
                  have hc127 : (4 : Int32).toInt = 4 := by decide
                  refine x_pI (fx_ok := fx_no rfl) I121 129 rfl oc4 rfl rfl rfl rfl (fun h128 I129 l130 => ?_)
                  have L131 := okL_eq l130 L122
                  have I132 : xI h0 (ob_P h0) h128 c117 s118 (up1 ((p_X6_beginAtom F0 A0).2.1) 406 (4)) (addl 5 ((p_X6_beginAtom F0 A0).2.2) (bm ((-11) - (p_X6_nameOfWord F0 A0).1))) := by have h9 := I129; rw [hc127] at h9; exact h9
                  refine k_push 130 rfl rfl ?_
                  have hc133 : (0 : Int32).toInt = 0 := by decide
                  exact k_fin rfl rfl ⟨_, _, _, _, _, _, rfl, I132, (by unfold p_X6_takeWord; rw [if_pos b27, if_neg b31, if_neg b46, if_pos b71, if_pos b84, if_pos b97, if_neg b98, if_pos b110]; exact hc133), (by unfold p_X6_takeWord; rw [if_pos b27, if_neg b31, if_neg b46, if_pos b71, if_pos b84, if_pos b97, if_neg b98, if_pos b110]), (by unfold p_X6_takeWord; rw [if_pos b27, if_neg b31, if_neg b46, if_pos b71, if_pos b84, if_pos b97, if_neg b98, if_pos b110])⟩
                · refine k_c2 117 rfl rfl (if_neg b110) ?_
                  have b110 : ¬ ((p_X6_functionOfWord F0 A0).1 = (-1)) := by have h9 := mt iv_eq.mpr b110; rw [e93] at h9; rw [hc96] at h9; exact h9
                  refine k_push 118 rfl rfl ?_
                  refine k_iload 119 rfl gs_eq rfl ?_
                  obtain ⟨x134, q135⟩ : ∃ q : Int32, q = (2 : Int32) + x85 := ⟨_, rfl⟩
                  have e136 : x134.toInt = bm (2 + (p_X6_functionOfWord F0 A0).1) := bm_add q135 hc30 e93
                  refine k_bin x134 120 rfl q135.symm rfl ?_
                  refine k_xq I105 rfl (y_add e136 I105.1 or5) rfl rfl rfl (ty_H.rc3 I105.T or5) L106 so_n ?_
                  rintro x137 h138 c139 s140 F141 A142 I143 L144 ⟨e145, k146, k147⟩
                  replace k146 := k146.symm
                  subst k146
                  replace k147 := k147.symm
                  subst k147
                  have z148 := iv_01 (x := x137) (by rw [e145]; exact (addr_01))
                  show am_Ok _ _ _ (123, _, [.inl x137], _, c139, s140) _
                  refine k_pop 124 rfl rfl rfl ?_
                  refine k_aload 125 rfl (gs_ne rfl rfl (gs_ne rfl rfl rfl)) rfl ?_
                  refine k_push 126 rfl rfl ?_
                  have hc149 : (4 : Int32).toInt = 4 := by decide
                  refine x_pI (fx_ok := fx_no rfl) I143 129 rfl oc4 rfl rfl rfl rfl (fun h150 I151 l152 => ?_)
                  have L153 := okL_eq l152 L144
                  have I154 : xI h0 (ob_P h0) h150 c139 s140 (up1 ((p_X6_beginAtom F0 A0).2.1) 406 (4)) (addl 5 ((p_X6_beginAtom F0 A0).2.2) (bm (2 + (p_X6_functionOfWord F0 A0).1))) := by have h9 := I151; rw [hc149] at h9; exact h9
                  refine k_push 130 rfl rfl ?_
                  have hc155 : (0 : Int32).toInt = 0 := by decide
                  exact k_fin rfl rfl ⟨_, _, _, _, _, _, rfl, I154, (by unfold p_X6_takeWord; rw [if_pos b27, if_neg b31, if_neg b46, if_pos b71, if_pos b84, if_pos b97, if_neg b98, if_neg b110]; exact hc155), (by unfold p_X6_takeWord; rw [if_pos b27, if_neg b31, if_neg b46, if_pos b71, if_pos b84, if_pos b97, if_neg b98, if_neg b110]), (by unfold p_X6_takeWord; rw [if_pos b27, if_neg b31, if_neg b46, if_pos b71, if_pos b84, if_pos b97, if_neg b98, if_neg b110])⟩
            · refine k_c2 97 rfl rfl (if_neg b97) ?_
              have b97 : ¬ ((p_X6_functionOfWord F0 A0).1 = (-1)) := by have h9 := mt iv_eq.mpr b97; rw [e93] at h9; rw [hc96] at h9; exact h9
              refine k_aload 98 rfl (gs_ne rfl rfl (gs_ne rfl rfl rfl)) rfl ?_
              refine k_xv I91 rfl (n_X6_beginAtom    I91.1) rfl rfl rfl (I91.T.rc oc4 rfl) (okL_set rfl L92) so_n ?_
              rintro h157 c158 s159 F160 A161 I162 L163 ⟨k165, k166⟩
              replace k165 := k165.symm
              subst k165
              replace k166 := k166.symm
              subst k166
              show am_Ok _ _ _ (101, _, [], _, c158, s159) _
              refine k_aload 102 rfl (gs_ne rfl rfl (gs_ne rfl rfl rfl)) rfl ?_
              refine x_gF 5 I162 105 rfl rfl (by decide) rfl ?_
              refine k_iload 106 rfl gs_eq rfl ?_
              refine k_push 107 rfl rfl ?_
              by_cases b167 : x85 = (-1 : Int32)
              · refine k_c2 110 rfl rfl (if_pos b167) ?_
                have b167 : (p_X6_functionOfWord F0 A0).1 = (-1) := by have h9 := iv_eq.mp b167; rw [e93] at h9; rw [hc96] at h9; exact h9
                refine k_push 112 rfl rfl ?_
                have hc168 : (-11 : Int32).toInt = -11 := by decide
                refine k_iload 113 rfl (gs_ne rfl rfl gs_eq) rfl ?_
                obtain ⟨x169, q170⟩ : ∃ q : Int32, q = (-11 : Int32) - x58 := ⟨_, rfl⟩
                have e171 : x169.toInt = bm ((-11) - (p_X6_nameOfWord F0 A0).1) := bm_sub q170 hc168 e66
                refine k_bin x169 114 rfl q170.symm rfl ?_
                refine k_goto 120 rfl rfl ?_
                refine k_xq I162 rfl (y_add e171 I162.1 or5) rfl rfl rfl (ty_H.rc3 I162.T or5) L163 so_n ?_
                rintro x172 h173 c174 s175 F176 A177 I178 L179 ⟨e180, k181, k182⟩
                replace k181 := k181.symm
                subst k181
                replace k182 := k182.symm
                subst k182
                have z183 := iv_01 (x := x172) (by rw [e180]; exact (addr_01))
                show am_Ok _ _ _ (123, _, [.inl x172], _, c174, s175) _
                refine k_pop 124 rfl rfl rfl ?_
                refine k_aload 125 rfl (gs_ne rfl rfl (gs_ne rfl rfl rfl)) rfl ?_
                refine k_push 126 rfl rfl ?_
                have hc184 : (4 : Int32).toInt = 4 := by decide
                refine x_pI (fx_ok := fx_no rfl) I178 129 rfl oc4 rfl rfl rfl rfl (fun h185 I186 l187 => ?_)
                have L188 := okL_eq l187 L179
                have I189 : xI h0 (ob_P h0) h185 c174 s175 (up1 ((p_X6_beginAtom F0 A0).2.1) 406 (4)) (addl 5 ((p_X6_beginAtom F0 A0).2.2) (bm ((-11) - (p_X6_nameOfWord F0 A0).1))) := by have h9 := I186; rw [hc184] at h9; exact h9
                refine k_push 130 rfl rfl ?_
                have hc190 : (0 : Int32).toInt = 0 := by decide
                exact k_fin rfl rfl ⟨_, _, _, _, _, _, rfl, I189, (by unfold p_X6_takeWord; rw [if_pos b27, if_neg b31, if_neg b46, if_pos b71, if_pos b84, if_neg b97, if_pos b167]; exact hc190), (by unfold p_X6_takeWord; rw [if_pos b27, if_neg b31, if_neg b46, if_pos b71, if_pos b84, if_neg b97, if_pos b167]), (by unfold p_X6_takeWord; rw [if_pos b27, if_neg b31, if_neg b46, if_pos b71, if_pos b84, if_neg b97, if_pos b167])⟩
              · refine k_c2 117 rfl rfl (if_neg b167) ?_
                have b167 : ¬ ((p_X6_functionOfWord F0 A0).1 = (-1)) := by have h9 := mt iv_eq.mpr b167; rw [e93] at h9; rw [hc96] at h9; exact h9
                refine k_push 118 rfl rfl ?_
                refine k_iload 119 rfl gs_eq rfl ?_
                obtain ⟨x191, q192⟩ : ∃ q : Int32, q = (2 : Int32) + x85 := ⟨_, rfl⟩
                have e193 : x191.toInt = bm (2 + (p_X6_functionOfWord F0 A0).1) := bm_add q192 hc30 e93
                refine k_bin x191 120 rfl q192.symm rfl ?_
                refine k_xq I162 rfl (y_add e193 I162.1 or5) rfl rfl rfl (ty_H.rc3 I162.T or5) L163 so_n ?_
                rintro x194 h195 c196 s197 F198 A199 I200 L201 ⟨e202, k203, k204⟩
                replace k203 := k203.symm
                subst k203
                replace k204 := k204.symm
                subst k204
                have z205 := iv_01 (x := x194) (by rw [e202]; exact (addr_01))
                show am_Ok _ _ _ (123, _, [.inl x194], _, c196, s197) _
                refine k_pop 124 rfl rfl rfl ?_
                refine k_aload 125 rfl (gs_ne rfl rfl (gs_ne rfl rfl rfl)) rfl ?_
                refine k_push 126 rfl rfl ?_
                have hc206 : (4 : Int32).toInt = 4 := by decide
                refine x_pI (fx_ok := fx_no rfl) I200 129 rfl oc4 rfl rfl rfl rfl (fun h207 I208 l209 => ?_)
                have L210 := okL_eq l209 L201
                have I211 : xI h0 (ob_P h0) h207 c196 s197 (up1 ((p_X6_beginAtom F0 A0).2.1) 406 (4)) (addl 5 ((p_X6_beginAtom F0 A0).2.2) (bm (2 + (p_X6_functionOfWord F0 A0).1))) := by have h9 := I208; rw [hc206] at h9; exact h9
                refine k_push 130 rfl rfl ?_
                have hc212 : (0 : Int32).toInt = 0 := by decide
                exact k_fin rfl rfl ⟨_, _, _, _, _, _, rfl, I211, (by unfold p_X6_takeWord; rw [if_pos b27, if_neg b31, if_neg b46, if_pos b71, if_pos b84, if_neg b97, if_neg b167]; exact hc212), (by unfold p_X6_takeWord; rw [if_pos b27, if_neg b31, if_neg b46, if_pos b71, if_pos b84, if_neg b97, if_neg b167]), (by unfold p_X6_takeWord; rw [if_pos b27, if_neg b31, if_neg b46, if_pos b71, if_pos b84, if_neg b97, if_neg b167])⟩
          · refine k_c1 65 rfl rfl (if_neg b84) ?_
            have b84 : ¬ ((p_X7_equalsSignIsNext F0 A0).1 = 0) := by have h9 := mt iv_eq0.mpr b84; rw [e80] at h9; exact h9
            refine k_aload 66 rfl (gs_ne rfl rfl rfl) rfl ?_
            refine k_iload 67 rfl gs_eq rfl ?_
            refine k_push 68 rfl rfl ?_
            have hc213 : (-1 : Int32).toInt = -1 := by decide
            by_cases b214 : x58 = (-1 : Int32)
            · refine k_c2 75 rfl rfl (if_pos b214) ?_
              have b214 : (p_X6_nameOfWord F0 A0).1 = (-1) := by have h9 := iv_eq.mp b214; rw [e66] at h9; rw [hc213] at h9; exact h9
              refine k_push 76 rfl rfl ?_
              have hc215 : (0 : Int32).toInt = 0 := by decide
              refine k_xq I78 rfl (n_X6_takeNewName hc215 (Or.inl rfl) (by exact hp1) (by exact hp2) I78.1) rfl rfl rfl (I78.T.rc oc4 rfl) L79 so_n ?_
              rintro x216 h217 c218 s219 F220 A221 I222 L223 ⟨e224, k225, k226⟩
              replace k225 := k225.symm
              subst k225
              replace k226 := k226.symm
              subst k226
              show am_Ok _ _ _ (79, _, [.inl x216], _, c218, s219) _
              exact k_fin rfl rfl ⟨_, _, _, _, _, _, rfl, I222, (by unfold p_X6_takeWord; rw [if_pos b27, if_neg b31, if_neg b46, if_pos b71, if_neg b84, if_pos b214]; exact e224), (by unfold p_X6_takeWord; rw [if_pos b27, if_neg b31, if_neg b46, if_pos b71, if_neg b84, if_pos b214]), (by unfold p_X6_takeWord; rw [if_pos b27, if_neg b31, if_neg b46, if_pos b71, if_neg b84, if_pos b214])⟩
            · refine k_c2 71 rfl rfl (if_neg b214) ?_
              have b214 : ¬ ((p_X6_nameOfWord F0 A0).1 = (-1)) := by have h9 := mt iv_eq.mpr b214; rw [e66] at h9; rw [hc213] at h9; exact h9
              refine k_push 72 rfl rfl ?_
              have hc227 : (1 : Int32).toInt = 1 := by decide
              refine k_goto 76 rfl rfl ?_
              refine k_xq I78 rfl (n_X6_takeNewName hc227 (Or.inr rfl) (by exact hp1) (by exact hp2) I78.1) rfl rfl rfl (I78.T.rc oc4 rfl) L79 so_n ?_
              rintro x228 h229 c230 s231 F232 A233 I234 L235 ⟨e236, k237, k238⟩
              replace k237 := k237.symm
              subst k237
              replace k238 := k238.symm
              subst k238
              show am_Ok _ _ _ (79, _, [.inl x228], _, c230, s231) _
              exact k_fin rfl rfl ⟨_, _, _, _, _, _, rfl, I234, (by unfold p_X6_takeWord; rw [if_pos b27, if_neg b31, if_neg b46, if_pos b71, if_neg b84, if_neg b214]; exact e236), (by unfold p_X6_takeWord; rw [if_pos b27, if_neg b31, if_neg b46, if_pos b71, if_neg b84, if_neg b214]), (by unfold p_X6_takeWord; rw [if_pos b27, if_neg b31, if_neg b46, if_pos b71, if_neg b84, if_neg b214])⟩
        · refine k_c1 80 rfl rfl (if_neg b71) ?_
          have b71 : ¬ (F0 406 = 0) := by have h9 := mt iv_eq0.mpr b71; rw [e70] at h9; exact h9
          refine k_aload 81 rfl (gs_ne rfl rfl rfl) rfl ?_
          refine k_xq I64 rfl (n_X6_functionOfWord   (by exact hp1) (by exact hp2) (by exact hw9) (by exact hc9) I64.1) rfl rfl rfl (I64.T.rc oc4 rfl) (okL_set rfl L65) so_n ?_
          rintro x239 h240 c241 s242 F243 A244 I245 L246 ⟨e247, k248, k249⟩
          replace k248 : F243 = F0 := k248
          replace k249 : A244 = A0 := k249
          replace k248 := k248.symm
          subst k248
          replace k249 := k249.symm
          subst k249
          show am_Ok _ _ _ (84, _, [.inl x239], _, c241, s242) _
          refine k_istore 85 rfl rfl ?_
          refine k_iload 86 rfl gs_eq rfl ?_
          refine k_push 87 rfl rfl ?_
          have hc250 : (-1 : Int32).toInt = -1 := by decide
          by_cases b251 : x239 = (-1 : Int32)
          · refine k_c2 90 rfl rfl (if_pos b251) ?_
            have b251 : (p_X6_functionOfWord F0 A0).1 = (-1) := by have h9 := iv_eq.mp b251; rw [e247] at h9; rw [hc250] at h9; exact h9
            refine k_iload 91 rfl (gs_ne rfl rfl gs_eq) rfl ?_
            refine k_push 92 rfl rfl ?_
            by_cases b252 : x58 = (-1 : Int32)
            · refine k_c2 95 rfl rfl (if_pos b252) ?_
              have b252 : (p_X6_nameOfWord F0 A0).1 = (-1) := by have h9 := iv_eq.mp b252; rw [e66] at h9; rw [hc250] at h9; exact h9
              refine k_push 96 rfl rfl ?_
              exact k_fin rfl rfl ⟨_, _, _, _, _, _, rfl, I245, (by unfold p_X6_takeWord; rw [if_pos b27, if_neg b31, if_neg b46, if_neg b71, if_pos b251, if_pos b252]; exact hc45), (by unfold p_X6_takeWord; rw [if_pos b27, if_neg b31, if_neg b46, if_neg b71, if_pos b251, if_pos b252]), (by unfold p_X6_takeWord; rw [if_pos b27, if_neg b31, if_neg b46, if_neg b71, if_pos b251, if_pos b252])⟩
            · refine k_c2 97 rfl rfl (if_neg b252) ?_
              have b252 : ¬ ((p_X6_nameOfWord F0 A0).1 = (-1)) := by have h9 := mt iv_eq.mpr b252; rw [e66] at h9; rw [hc250] at h9; exact h9
              refine k_aload 98 rfl (gs_ne rfl rfl (gs_ne rfl rfl rfl)) rfl ?_
              refine k_xv I245 rfl (n_X6_beginAtom    I245.1) rfl rfl rfl (I245.T.rc oc4 rfl) (okL_set rfl L246) so_n ?_
              rintro h254 c255 s256 F257 A258 I259 L260 ⟨k262, k263⟩
              replace k262 := k262.symm
              subst k262
              replace k263 := k263.symm
              subst k263
              show am_Ok _ _ _ (101, _, [], _, c255, s256) _
              refine k_aload 102 rfl (gs_ne rfl rfl (gs_ne rfl rfl rfl)) rfl ?_
              refine x_gF 5 I259 105 rfl rfl (by decide) rfl ?_
              refine k_iload 106 rfl gs_eq rfl ?_
              refine k_push 107 rfl rfl ?_
              by_cases b264 : x239 = (-1 : Int32)
              · refine k_c2 110 rfl rfl (if_pos b264) ?_
                have b264 : (p_X6_functionOfWord F0 A0).1 = (-1) := by have h9 := iv_eq.mp b264; rw [e247] at h9; rw [hc250] at h9; exact h9
                refine k_push 112 rfl rfl ?_
                have hc265 : (-11 : Int32).toInt = -11 := by decide
                refine k_iload 113 rfl (gs_ne rfl rfl gs_eq) rfl ?_
                obtain ⟨x266, q267⟩ : ∃ q : Int32, q = (-11 : Int32) - x58 := ⟨_, rfl⟩
                have e268 : x266.toInt = bm ((-11) - (p_X6_nameOfWord F0 A0).1) := bm_sub q267 hc265 e66
                refine k_bin x266 114 rfl q267.symm rfl ?_
                refine k_goto 120 rfl rfl ?_
                refine k_xq I259 rfl (y_add e268 I259.1 or5) rfl rfl rfl (ty_H.rc3 I259.T or5) L260 so_n ?_
                rintro x269 h270 c271 s272 F273 A274 I275 L276 ⟨e277, k278, k279⟩
                replace k278 := k278.symm
                subst k278
                replace k279 := k279.symm
                subst k279
                have z280 := iv_01 (x := x269) (by rw [e277]; exact (addr_01))
                show am_Ok _ _ _ (123, _, [.inl x269], _, c271, s272) _
                refine k_pop 124 rfl rfl rfl ?_
                refine k_aload 125 rfl (gs_ne rfl rfl (gs_ne rfl rfl rfl)) rfl ?_
                refine k_push 126 rfl rfl ?_
                have hc281 : (4 : Int32).toInt = 4 := by decide
                refine x_pI (fx_ok := fx_no rfl) I275 129 rfl oc4 rfl rfl rfl rfl (fun h282 I283 l284 => ?_)
                have L285 := okL_eq l284 L276
                have I286 : xI h0 (ob_P h0) h282 c271 s272 (up1 ((p_X6_beginAtom F0 A0).2.1) 406 (4)) (addl 5 ((p_X6_beginAtom F0 A0).2.2) (bm ((-11) - (p_X6_nameOfWord F0 A0).1))) := by have h9 := I283; rw [hc281] at h9; exact h9
                refine k_push 130 rfl rfl ?_
                have hc287 : (0 : Int32).toInt = 0 := by decide
                exact k_fin rfl rfl ⟨_, _, _, _, _, _, rfl, I286, (by unfold p_X6_takeWord; rw [if_pos b27, if_neg b31, if_neg b46, if_neg b71, if_pos b251, if_neg b252, if_pos b264]; exact hc287), (by unfold p_X6_takeWord; rw [if_pos b27, if_neg b31, if_neg b46, if_neg b71, if_pos b251, if_neg b252, if_pos b264]), (by unfold p_X6_takeWord; rw [if_pos b27, if_neg b31, if_neg b46, if_neg b71, if_pos b251, if_neg b252, if_pos b264])⟩
              · refine k_c2 117 rfl rfl (if_neg b264) ?_
                have b264 : ¬ ((p_X6_functionOfWord F0 A0).1 = (-1)) := by have h9 := mt iv_eq.mpr b264; rw [e247] at h9; rw [hc250] at h9; exact h9
                refine k_push 118 rfl rfl ?_
                refine k_iload 119 rfl gs_eq rfl ?_
                obtain ⟨x288, q289⟩ : ∃ q : Int32, q = (2 : Int32) + x239 := ⟨_, rfl⟩
                have e290 : x288.toInt = bm (2 + (p_X6_functionOfWord F0 A0).1) := bm_add q289 hc30 e247
                refine k_bin x288 120 rfl q289.symm rfl ?_
                refine k_xq I259 rfl (y_add e290 I259.1 or5) rfl rfl rfl (ty_H.rc3 I259.T or5) L260 so_n ?_
                rintro x291 h292 c293 s294 F295 A296 I297 L298 ⟨e299, k300, k301⟩
                replace k300 := k300.symm
                subst k300
                replace k301 := k301.symm
                subst k301
                have z302 := iv_01 (x := x291) (by rw [e299]; exact (addr_01))
                show am_Ok _ _ _ (123, _, [.inl x291], _, c293, s294) _
                refine k_pop 124 rfl rfl rfl ?_
                refine k_aload 125 rfl (gs_ne rfl rfl (gs_ne rfl rfl rfl)) rfl ?_
                refine k_push 126 rfl rfl ?_
                have hc303 : (4 : Int32).toInt = 4 := by decide
                refine x_pI (fx_ok := fx_no rfl) I297 129 rfl oc4 rfl rfl rfl rfl (fun h304 I305 l306 => ?_)
                have L307 := okL_eq l306 L298
                have I308 : xI h0 (ob_P h0) h304 c293 s294 (up1 ((p_X6_beginAtom F0 A0).2.1) 406 (4)) (addl 5 ((p_X6_beginAtom F0 A0).2.2) (bm (2 + (p_X6_functionOfWord F0 A0).1))) := by have h9 := I305; rw [hc303] at h9; exact h9
                refine k_push 130 rfl rfl ?_
                have hc309 : (0 : Int32).toInt = 0 := by decide
                exact k_fin rfl rfl ⟨_, _, _, _, _, _, rfl, I308, (by unfold p_X6_takeWord; rw [if_pos b27, if_neg b31, if_neg b46, if_neg b71, if_pos b251, if_neg b252, if_neg b264]; exact hc309), (by unfold p_X6_takeWord; rw [if_pos b27, if_neg b31, if_neg b46, if_neg b71, if_pos b251, if_neg b252, if_neg b264]), (by unfold p_X6_takeWord; rw [if_pos b27, if_neg b31, if_neg b46, if_neg b71, if_pos b251, if_neg b252, if_neg b264])⟩
          · refine k_c2 97 rfl rfl (if_neg b251) ?_
            have b251 : ¬ ((p_X6_functionOfWord F0 A0).1 = (-1)) := by have h9 := mt iv_eq.mpr b251; rw [e247] at h9; rw [hc250] at h9; exact h9
            refine k_aload 98 rfl (gs_ne rfl rfl (gs_ne rfl rfl rfl)) rfl ?_
            refine k_xv I245 rfl (n_X6_beginAtom    I245.1) rfl rfl rfl (I245.T.rc oc4 rfl) (okL_set rfl L246) so_n ?_
            rintro h311 c312 s313 F314 A315 I316 L317 ⟨k319, k320⟩
            replace k319 := k319.symm
            subst k319
            replace k320 := k320.symm
            subst k320
            show am_Ok _ _ _ (101, _, [], _, c312, s313) _
            refine k_aload 102 rfl (gs_ne rfl rfl (gs_ne rfl rfl rfl)) rfl ?_
            refine x_gF 5 I316 105 rfl rfl (by decide) rfl ?_
            refine k_iload 106 rfl gs_eq rfl ?_
            refine k_push 107 rfl rfl ?_
            by_cases b321 : x239 = (-1 : Int32)
            · refine k_c2 110 rfl rfl (if_pos b321) ?_
              have b321 : (p_X6_functionOfWord F0 A0).1 = (-1) := by have h9 := iv_eq.mp b321; rw [e247] at h9; rw [hc250] at h9; exact h9
              refine k_push 112 rfl rfl ?_
              have hc322 : (-11 : Int32).toInt = -11 := by decide
              refine k_iload 113 rfl (gs_ne rfl rfl gs_eq) rfl ?_
              obtain ⟨x323, q324⟩ : ∃ q : Int32, q = (-11 : Int32) - x58 := ⟨_, rfl⟩
              have e325 : x323.toInt = bm ((-11) - (p_X6_nameOfWord F0 A0).1) := bm_sub q324 hc322 e66
              refine k_bin x323 114 rfl q324.symm rfl ?_
              refine k_goto 120 rfl rfl ?_
              refine k_xq I316 rfl (y_add e325 I316.1 or5) rfl rfl rfl (ty_H.rc3 I316.T or5) L317 so_n ?_
              rintro x326 h327 c328 s329 F330 A331 I332 L333 ⟨e334, k335, k336⟩
              replace k335 := k335.symm
              subst k335
              replace k336 := k336.symm
              subst k336
              have z337 := iv_01 (x := x326) (by rw [e334]; exact (addr_01))
              show am_Ok _ _ _ (123, _, [.inl x326], _, c328, s329) _
              refine k_pop 124 rfl rfl rfl ?_
              refine k_aload 125 rfl (gs_ne rfl rfl (gs_ne rfl rfl rfl)) rfl ?_
              refine k_push 126 rfl rfl ?_
              have hc338 : (4 : Int32).toInt = 4 := by decide
              refine x_pI (fx_ok := fx_no rfl) I332 129 rfl oc4 rfl rfl rfl rfl (fun h339 I340 l341 => ?_)
              have L342 := okL_eq l341 L333
              have I343 : xI h0 (ob_P h0) h339 c328 s329 (up1 ((p_X6_beginAtom F0 A0).2.1) 406 (4)) (addl 5 ((p_X6_beginAtom F0 A0).2.2) (bm ((-11) - (p_X6_nameOfWord F0 A0).1))) := by have h9 := I340; rw [hc338] at h9; exact h9
              refine k_push 130 rfl rfl ?_
              have hc344 : (0 : Int32).toInt = 0 := by decide
              exact k_fin rfl rfl ⟨_, _, _, _, _, _, rfl, I343, (by unfold p_X6_takeWord; rw [if_pos b27, if_neg b31, if_neg b46, if_neg b71, if_neg b251, if_pos b321]; exact hc344), (by unfold p_X6_takeWord; rw [if_pos b27, if_neg b31, if_neg b46, if_neg b71, if_neg b251, if_pos b321]), (by unfold p_X6_takeWord; rw [if_pos b27, if_neg b31, if_neg b46, if_neg b71, if_neg b251, if_pos b321])⟩
            · refine k_c2 117 rfl rfl (if_neg b321) ?_
              have b321 : ¬ ((p_X6_functionOfWord F0 A0).1 = (-1)) := by have h9 := mt iv_eq.mpr b321; rw [e247] at h9; rw [hc250] at h9; exact h9
              refine k_push 118 rfl rfl ?_
              refine k_iload 119 rfl gs_eq rfl ?_
              obtain ⟨x345, q346⟩ : ∃ q : Int32, q = (2 : Int32) + x239 := ⟨_, rfl⟩
              have e347 : x345.toInt = bm (2 + (p_X6_functionOfWord F0 A0).1) := bm_add q346 hc30 e247
              refine k_bin x345 120 rfl q346.symm rfl ?_
              refine k_xq I316 rfl (y_add e347 I316.1 or5) rfl rfl rfl (ty_H.rc3 I316.T or5) L317 so_n ?_
              rintro x348 h349 c350 s351 F352 A353 I354 L355 ⟨e356, k357, k358⟩
              replace k357 := k357.symm
              subst k357
              replace k358 := k358.symm
              subst k358
              have z359 := iv_01 (x := x348) (by rw [e356]; exact (addr_01))
              show am_Ok _ _ _ (123, _, [.inl x348], _, c350, s351) _
              refine k_pop 124 rfl rfl rfl ?_
              refine k_aload 125 rfl (gs_ne rfl rfl (gs_ne rfl rfl rfl)) rfl ?_
              refine k_push 126 rfl rfl ?_
              have hc360 : (4 : Int32).toInt = 4 := by decide
              refine x_pI (fx_ok := fx_no rfl) I354 129 rfl oc4 rfl rfl rfl rfl (fun h361 I362 l363 => ?_)
              have L364 := okL_eq l363 L355
              have I365 : xI h0 (ob_P h0) h361 c350 s351 (up1 ((p_X6_beginAtom F0 A0).2.1) 406 (4)) (addl 5 ((p_X6_beginAtom F0 A0).2.2) (bm (2 + (p_X6_functionOfWord F0 A0).1))) := by have h9 := I362; rw [hc360] at h9; exact h9
              refine k_push 130 rfl rfl ?_
              have hc366 : (0 : Int32).toInt = 0 := by decide
              exact k_fin rfl rfl ⟨_, _, _, _, _, _, rfl, I365, (by unfold p_X6_takeWord; rw [if_pos b27, if_neg b31, if_neg b46, if_neg b71, if_neg b251, if_neg b321]; exact hc366), (by unfold p_X6_takeWord; rw [if_pos b27, if_neg b31, if_neg b46, if_neg b71, if_neg b251, if_neg b321]), (by unfold p_X6_takeWord; rw [if_pos b27, if_neg b31, if_neg b46, if_neg b71, if_neg b251, if_neg b321])⟩
  · refine k_c2 20 rfl rfl (if_neg b27) ?_
    have b27 : ¬ (bm (F0 1503 - F0 1502) ≤ 8) := by have h9 := mt iv_le.mpr b27; rw [e25] at h9; rw [hc26] at h9; exact h9
    refine k_push 21 rfl rfl ?_
    have hc367 : (2 : Int32).toInt = 2 := by decide
    exact k_fin rfl rfl ⟨_, _, _, _, _, _, rfl, I18, (by unfold p_X6_takeWord; rw [if_neg b27]; exact hc367), (by unfold p_X6_takeWord; rw [if_neg b27]), (by unfold p_X6_takeWord; rw [if_neg b27])⟩
def p_X6_take  (F0 : rf_f) (A0 : xl_A) : Int × rf_f × xl_A := if F0 1501 = 0 then if (p_X6_isWhole F0 A0).1 = 0 then (1, F0, A0) else if F0 411 = 0 then (0, F0, A0) else (1, F0, A0) else (if F0 1501 = 40 then ((p_X6_takeOpening F0 A0).1, (p_X6_takeOpening F0 A0).2.1, (p_X6_takeOpening F0 A0).2.2) else (if F0 1501 = 41 then ((p_X6_takeClosing F0 A0).1, (p_X6_takeClosing F0 A0).2.1, (p_X6_takeClosing F0 A0).2.2) else (if F0 1501 = 46 then ((p_X6_takePoint F0 A0).1, (p_X6_takePoint F0 A0).2.1, (p_X6_takePoint F0 A0).2.2) else (if F0 1501 = 48 then ((p_X6_takeNumber F0 A0).1, (p_X6_takeNumber F0 A0).2.1, (p_X6_takeNumber F0 A0).2.2) else (if F0 1501 = 59 then ((p_X6_takeSemicolon F0 A0).1, (p_X6_takeSemicolon F0 A0).2.1, (p_X6_takeSemicolon F0 A0).2.2) else (if F0 1501 = 92 then ((p_X6_takeFunction F0 A0).1, (p_X6_takeFunction F0 A0).2.1, (p_X6_takeFunction F0 A0).2.2) else (if F0 1501 = 97 then ((p_X6_takeWord F0 A0).1, (p_X6_takeWord F0 A0).2.1, (p_X6_takeWord F0 A0).2.2) else ((1, F0, A0)))))))))
theorem n_X6_take {h0 : am_h} {F0 : rf_f} {A0 : xl_A}   (hp1 : 0 ≤ F0 1502 ∧ F0 1502 ≤ F0 1503 ∧ F0 1503 ≤ ((A0 2).length : Int)) (hp2 : ((A0 2).length : Int) ≤ 700) (hw9 : PW (A0 2) (A0 9) 2 (((A0 9).length : Int) / 2)) (hw7 : PW (A0 2) (A0 7) 5 (F0 410)) (ht : 0 ≤ F0 410 ∧ F0 410 ≤ 12) (hc9 : ((A0 9).length : Int) ≤ 62) (hsm : SMQ F0 A0) (hR : xR h0 F0 A0) : am_Mt 6 88 [.inr (.inr (some 4))] h0 (xQ h0 (fun x F' A' => x = (p_X6_take F0 A0).1 ∧ F' = (p_X6_take F0 A0).2.1 ∧ A' = (p_X6_take F0 A0).2.2)) := by
  refine am_Mt.of (D := 5) ?_
  have hI : xI h0 (ob_P h0) h0 0 0 F0 A0 := xI.start hR
  have hL : am_okL h0.length (am_args 0 [.inr (.inr (some 4))]) = true := (okA_r hI.T oc4 okA_n)
  refine k_aload 1 rfl rfl rfl ?_
  refine x_gF 15 hI 4 rfl rfl (by decide) rfl ?_
  refine k_xq hI rfl (n_X7_sort    hI.1) rfl rfl rfl (hI.T.rc oc15 rfl) hL so_n ?_
  rintro x1 h2 c3 s4 F5 A6 I7 L8 ⟨e9, k10, k11⟩
  replace k10 : F5 = F0 := k10
  replace k11 : A6 = A0 := k11
  replace e9 : x1.toInt = F0 1501 := e9
  replace k10 := k10.symm
  subst k10
  replace k11 := k11.symm
  subst k11
  show am_Ok _ _ _ (7, _, [.inl x1], _, c3, s4) _
  by_cases b12 : x1.toInt = 0
  · refine k_sw 115 rfl (by simp only [am_lk]; rw [if_pos b12]) ?_
    have b13 : F0 1501 = 0 := by rw [e9] at b12; exact b12
    refine k_aload 116 rfl rfl rfl ?_
    refine k_xq I7 rfl (n_X6_isWhole    I7.1) rfl rfl rfl (I7.T.rc oc4 rfl) L8 so_n ?_
    rintro x14 h15 c16 s17 F18 A19 I20 L21 ⟨e22, k23, k24⟩
    replace k23 := k23.trans f_X6_isWhole.1
    replace k24 := k24.trans f_X6_isWhole.2
    replace k23 := k23.symm
    subst k23
    replace k24 := k24.symm
    subst k24
    have z25 := iv_01 (x := x14) (by rw [e22]; exact z_X6_isWhole)
    show am_Ok _ _ _ (119, _, [.inl x14], _, c16, s17) _
    by_cases b26 : x14 = 0
    · refine k_c1 133 rfl rfl (if_pos b26) ?_
      have b26 : (p_X6_isWhole F0 A0).1 = 0 := by have h9 := iv_eq0.mp b26; rw [e22] at h9; exact h9
      refine k_push 134 rfl rfl ?_
      have hc27 : (1 : Int32).toInt = 1 := by decide
      exact k_fin rfl rfl ⟨_, _, _, _, _, _, rfl, I20, (by unfold p_X6_take; rw [if_pos b13, if_pos b26]; exact hc27), (by unfold p_X6_take; rw [if_pos b13, if_pos b26]), (by unfold p_X6_take; rw [if_pos b13, if_pos b26])⟩
    · refine k_c1 122 rfl rfl (if_neg b26) ?_
      have b26 : ¬ ((p_X6_isWhole F0 A0).1 = 0) := by have h9 := mt iv_eq0.mpr b26; rw [e22] at h9; exact h9
      refine k_aload 123 rfl rfl rfl ?_
      refine x_gZ I20 126 rfl oc4 rfl rfl rfl rfl (fun x28 (e29 : x28.toInt = F0 411) z30 => ?_)
      by_cases b31 : x28 = 0
      · refine k_c1 129 rfl rfl (if_pos b31) ?_
        have b31 : F0 411 = 0 := by have h9 := iv_eq0.mp b31; rw [e29] at h9; exact h9
        refine k_push 130 rfl rfl ?_
        have hc32 : (0 : Int32).toInt = 0 := by decide
        refine k_goto 134 rfl rfl ?_
        exact k_fin rfl rfl ⟨_, _, _, _, _, _, rfl, I20, (by unfold p_X6_take; rw [if_pos b13, if_neg b26, if_pos b31]; exact hc32), (by unfold p_X6_take; rw [if_pos b13, if_neg b26, if_pos b31]), (by unfold p_X6_take; rw [if_pos b13, if_neg b26, if_pos b31])⟩
      · refine k_c1 133 rfl rfl (if_neg b31) ?_
        have b31 : ¬ (F0 411 = 0) := by have h9 := mt iv_eq0.mpr b31; rw [e29] at h9; exact h9
        refine k_push 134 rfl rfl ?_
        have hc33 : (1 : Int32).toInt = 1 := by decide
        exact k_fin rfl rfl ⟨_, _, _, _, _, _, rfl, I20, (by unfold p_X6_take; rw [if_pos b13, if_neg b26, if_neg b31]; exact hc33), (by unfold p_X6_take; rw [if_pos b13, if_neg b26, if_neg b31]), (by unfold p_X6_take; rw [if_pos b13, if_neg b26, if_neg b31])⟩
  have b13 : ¬ (F0 1501 = 0) := by rw [e9] at b12; exact b12
  by_cases b34 : x1.toInt = 40
  · refine k_sw 90 rfl (by simp only [am_lk]; rw [if_neg b12, if_pos b34]) ?_
    have b35 : F0 1501 = 40 := by rw [e9] at b34; exact b34
    refine k_aload 91 rfl rfl rfl ?_
    refine k_xq I7 rfl (n_X6_takeOpening    I7.1) rfl rfl rfl (I7.T.rc oc4 rfl) L8 so_n ?_
    rintro x36 h37 c38 s39 F40 A41 I42 L43 ⟨e44, k45, k46⟩
    replace k45 := k45.symm
    subst k45
    replace k46 := k46.symm
    subst k46
    show am_Ok _ _ _ (94, _, [.inl x36], _, c38, s39) _
    exact k_fin rfl rfl ⟨_, _, _, _, _, _, rfl, I42, (by unfold p_X6_take; rw [if_neg b13, if_pos b35]; exact e44), (by unfold p_X6_take; rw [if_neg b13, if_pos b35]), (by unfold p_X6_take; rw [if_neg b13, if_pos b35])⟩
  have b35 : ¬ (F0 1501 = 40) := by rw [e9] at b34; exact b34
  by_cases b47 : x1.toInt = 41
  · refine k_sw 95 rfl (by simp only [am_lk]; rw [if_neg b12, if_neg b34, if_pos b47]) ?_
    have b48 : F0 1501 = 41 := by rw [e9] at b47; exact b47
    refine k_aload 96 rfl rfl rfl ?_
    refine k_xq I7 rfl (n_X6_takeClosing    I7.1) rfl rfl rfl (I7.T.rc oc4 rfl) L8 so_n ?_
    rintro x49 h50 c51 s52 F53 A54 I55 L56 ⟨e57, k58, k59⟩
    replace k58 := k58.symm
    subst k58
    replace k59 := k59.symm
    subst k59
    show am_Ok _ _ _ (99, _, [.inl x49], _, c51, s52) _
    exact k_fin rfl rfl ⟨_, _, _, _, _, _, rfl, I55, (by unfold p_X6_take; rw [if_neg b13, if_neg b35, if_pos b48]; exact e57), (by unfold p_X6_take; rw [if_neg b13, if_neg b35, if_pos b48]), (by unfold p_X6_take; rw [if_neg b13, if_neg b35, if_pos b48])⟩
  have b48 : ¬ (F0 1501 = 41) := by rw [e9] at b47; exact b47
  by_cases b60 : x1.toInt = 46
  · refine k_sw 105 rfl (by simp only [am_lk]; rw [if_neg b12, if_neg b34, if_neg b47, if_pos b60]) ?_
    have b61 : F0 1501 = 46 := by rw [e9] at b60; exact b60
    refine k_aload 106 rfl rfl rfl ?_
    refine k_xq I7 rfl (n_X6_takePoint    I7.1) rfl rfl rfl (I7.T.rc oc4 rfl) L8 so_n ?_
    rintro x62 h63 c64 s65 F66 A67 I68 L69 ⟨e70, k71, k72⟩
    replace k71 := k71.symm
    subst k71
    replace k72 := k72.symm
    subst k72
    show am_Ok _ _ _ (109, _, [.inl x62], _, c64, s65) _
    exact k_fin rfl rfl ⟨_, _, _, _, _, _, rfl, I68, (by unfold p_X6_take; rw [if_neg b13, if_neg b35, if_neg b48, if_pos b61]; exact e70), (by unfold p_X6_take; rw [if_neg b13, if_neg b35, if_neg b48, if_pos b61]), (by unfold p_X6_take; rw [if_neg b13, if_neg b35, if_neg b48, if_pos b61])⟩
  have b61 : ¬ (F0 1501 = 46) := by rw [e9] at b60; exact b60
  by_cases b73 : x1.toInt = 48
  · refine k_sw 85 rfl (by simp only [am_lk]; rw [if_neg b12, if_neg b34, if_neg b47, if_neg b60, if_pos b73]) ?_
    have b74 : F0 1501 = 48 := by rw [e9] at b73; exact b73
    refine k_aload 86 rfl rfl rfl ?_
    refine k_xq I7 rfl (n_X6_takeNumber    I7.1) rfl rfl rfl (I7.T.rc oc4 rfl) L8 so_n ?_
    rintro x75 h76 c77 s78 F79 A80 I81 L82 ⟨e83, k84, k85⟩
    replace k84 := k84.symm
    subst k84
    replace k85 := k85.symm
    subst k85
    show am_Ok _ _ _ (89, _, [.inl x75], _, c77, s78) _
    exact k_fin rfl rfl ⟨_, _, _, _, _, _, rfl, I81, (by unfold p_X6_take; rw [if_neg b13, if_neg b35, if_neg b48, if_neg b61, if_pos b74]; exact e83), (by unfold p_X6_take; rw [if_neg b13, if_neg b35, if_neg b48, if_neg b61, if_pos b74]), (by unfold p_X6_take; rw [if_neg b13, if_neg b35, if_neg b48, if_neg b61, if_pos b74])⟩
  have b74 : ¬ (F0 1501 = 48) := by rw [e9] at b73; exact b73
  by_cases b86 : x1.toInt = 59
  · refine k_sw 110 rfl (by simp only [am_lk]; rw [if_neg b12, if_neg b34, if_neg b47, if_neg b60, if_neg b73, if_pos b86]) ?_
    have b87 : F0 1501 = 59 := by rw [e9] at b86; exact b86
    refine k_aload 111 rfl rfl rfl ?_
    refine k_xq I7 rfl (n_X6_takeSemicolon   (by exact ht) (by exact hsm) I7.1) rfl rfl rfl (I7.T.rc oc4 rfl) L8 so_n ?_
    rintro x88 h89 c90 s91 F92 A93 I94 L95 ⟨e96, k97, k98⟩
    replace k97 := k97.symm
    subst k97
    replace k98 := k98.symm
    subst k98
    show am_Ok _ _ _ (114, _, [.inl x88], _, c90, s91) _
    exact k_fin rfl rfl ⟨_, _, _, _, _, _, rfl, I94, (by unfold p_X6_take; rw [if_neg b13, if_neg b35, if_neg b48, if_neg b61, if_neg b74, if_pos b87]; exact e96), (by unfold p_X6_take; rw [if_neg b13, if_neg b35, if_neg b48, if_neg b61, if_neg b74, if_pos b87]), (by unfold p_X6_take; rw [if_neg b13, if_neg b35, if_neg b48, if_neg b61, if_neg b74, if_pos b87])⟩
  have b87 : ¬ (F0 1501 = 59) := by rw [e9] at b86; exact b86
  by_cases b99 : x1.toInt = 92
  · refine k_sw 100 rfl (by simp only [am_lk]; rw [if_neg b12, if_neg b34, if_neg b47, if_neg b60, if_neg b73, if_neg b86, if_pos b99]) ?_
    have b100 : F0 1501 = 92 := by rw [e9] at b99; exact b99
    refine k_aload 101 rfl rfl rfl ?_
    refine k_xq I7 rfl (n_X6_takeFunction    I7.1) rfl rfl rfl (I7.T.rc oc4 rfl) L8 so_n ?_
    rintro x101 h102 c103 s104 F105 A106 I107 L108 ⟨e109, k110, k111⟩
    replace k110 := k110.symm
    subst k110
    replace k111 := k111.symm
    subst k111
    show am_Ok _ _ _ (104, _, [.inl x101], _, c103, s104) _
    exact k_fin rfl rfl ⟨_, _, _, _, _, _, rfl, I107, (by unfold p_X6_take; rw [if_neg b13, if_neg b35, if_neg b48, if_neg b61, if_neg b74, if_neg b87, if_pos b100]; exact e109), (by unfold p_X6_take; rw [if_neg b13, if_neg b35, if_neg b48, if_neg b61, if_neg b74, if_neg b87, if_pos b100]), (by unfold p_X6_take; rw [if_neg b13, if_neg b35, if_neg b48, if_neg b61, if_neg b74, if_neg b87, if_pos b100])⟩
  have b100 : ¬ (F0 1501 = 92) := by rw [e9] at b99; exact b99
  by_cases b112 : x1.toInt = 97
  · refine k_sw 80 rfl (by simp only [am_lk]; rw [if_neg b12, if_neg b34, if_neg b47, if_neg b60, if_neg b73, if_neg b86, if_neg b99, if_pos b112]) ?_
    have b113 : F0 1501 = 97 := by rw [e9] at b112; exact b112
    refine k_aload 81 rfl rfl rfl ?_
    refine k_xq I7 rfl (n_X6_takeWord   (by exact hp1) (by exact hp2) (by exact hw9) (by exact hw7) (by exact ht) (by exact hc9) I7.1) rfl rfl rfl (I7.T.rc oc4 rfl) L8 so_n ?_
    rintro x114 h115 c116 s117 F118 A119 I120 L121 ⟨e122, k123, k124⟩
    replace k123 := k123.symm
    subst k123
    replace k124 := k124.symm
    subst k124
    show am_Ok _ _ _ (84, _, [.inl x114], _, c116, s117) _
    exact k_fin rfl rfl ⟨_, _, _, _, _, _, rfl, I120, (by unfold p_X6_take; rw [if_neg b13, if_neg b35, if_neg b48, if_neg b61, if_neg b74, if_neg b87, if_neg b100, if_pos b113]; exact e122), (by unfold p_X6_take; rw [if_neg b13, if_neg b35, if_neg b48, if_neg b61, if_neg b74, if_neg b87, if_neg b100, if_pos b113]), (by unfold p_X6_take; rw [if_neg b13, if_neg b35, if_neg b48, if_neg b61, if_neg b74, if_neg b87, if_neg b100, if_pos b113])⟩
  have b113 : ¬ (F0 1501 = 97) := by rw [e9] at b112; exact b112
  refine k_sw 135 rfl (by simp only [am_lk]; rw [if_neg b12, if_neg b34, if_neg b47, if_neg b60, if_neg b73, if_neg b86, if_neg b99, if_neg b112]) ?_
  refine k_push 136 rfl rfl ?_
  have hc125 : (1 : Int32).toInt = 1 := by decide
  exact k_fin rfl rfl ⟨_, _, _, _, _, _, rfl, I7, (by unfold p_X6_take; rw [if_neg b13, if_neg b35, if_neg b48, if_neg b61, if_neg b74, if_neg b87, if_neg b100, if_neg b113]; exact hc125), (by unfold p_X6_take; rw [if_neg b13, if_neg b35, if_neg b48, if_neg b61, if_neg b74, if_neg b87, if_neg b100, if_neg b113]), (by unfold p_X6_take; rw [if_neg b13, if_neg b35, if_neg b48, if_neg b61, if_neg b74, if_neg b87, if_neg b100, if_neg b113])⟩
end
