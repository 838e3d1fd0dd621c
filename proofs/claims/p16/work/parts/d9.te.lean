/-! takeProgram(), tell(): what the class answers, against the machine -/
def TPQ (c : List Int) (F : rf_f) (A : xl_A) (x : Int) (F' : rf_f) (A' : xl_A) : Prop := (x = 0 ∨ x = 1) ∧ ((c.length ≤ 120 ∧ lmt c ≤ 400 ∧ x = 1 ∧ A' 46 = c) ∨ ((120 < c.length ∨ 400 < lmt c) ∧ x = 0 ∧ A' 46 = A 46)) ∧ A' 2 = A 2 ∧ F' 113 = F 113 ∧ (F' 3202 = F 3202 ∧ F' 3203 = F 3203)
def CTQ (T : List Int) (x f113 : Int) (a46 : List Int) : Prop := ∃ r : Int × Int × List Int, Ev T m_0 r ∧ ((r.1 ≠ 0 ∧ x = r.1 ∧ f113 = r.2.1) ∨ (r.1 = 0 ∧ (120 < r.2.2.length ∨ 400 < lmt r.2.2) ∧ x = 5 ∧ f113 = (T.length : Int)) ∨ (r.1 = 0 ∧ r.2.2.length ≤ 120 ∧ lmt r.2.2 ≤ 400 ∧ x = 0 ∧ f113 = -1 ∧ a46 = r.2.2))
section TPS9
variable {ns nw : List (List Int)} {N C T l c : List Int} {x : Int} {k cs : Nat} {F : rf_f} {A : xl_A} {s : mS}
theorem mo46 : (ob_mo 46).toInt = 120 := by decide
theorem nul_nn {m : Nat} (h : x ∈ nul m) : 0 ≤ x := by
  unfold nul at h
  rcases List.mem_cons.mp h with e | h
  · omega
  · rcases List.mem_cons.mp h with e | h
    · omega
    · obtain ⟨l, hl, hx⟩ := List.mem_flatten.mp h
      rw [(List.mem_replicate.mp hl).2] at hx
      rcases List.mem_cons.mp hx with e | hx
      · omega
      · have := List.mem_singleton.mp hx
        omega
theorem xex_nn (hm : NMD T N C cs ns nw) : ∀ {k : Nat}, k ≤ ns.length → ∀ {l : List Int}, xvl k l → ∀ x, x ∈ xex ns l → 0 ≤ x := by
  intro k
  induction k using Nat.strongRecOn with
  | ind k ih =>
    intro hk l hv x hx
    unfold xex at hx
    obtain ⟨w, hw, hxw⟩ := List.mem_flatten.mp hx
    obtain ⟨e, he, rfl⟩ := List.mem_map.mp hw
    have h1 := hv e he
    by_cases h2 : -1 < e
    · rw [xev_p h2] at hxw
      have := List.mem_singleton.mp hxw
      omega
    · by_cases h3 : -11 < e
      · rw [xev_n h2 h3] at hxw
        rcases List.mem_append.mp hxw with z | z
        · exact nul_nn z
        · have := List.mem_singleton.mp z
          omega
      · obtain ⟨c1, c2, -, -, -, -, r5, r6, -⟩ := hm.2.2 (-11 - e).toNat (by omega)
        rw [xev_w h3, List.getD_eq_getElem?_getD, r6] at hxw
        exact ih (-11 - e).toNat (by omega) (by omega) r5 x hxw
theorem cl_nn (hC : CLr T F A s) (q : Int) : 0 ≤ gl (m_c s) q := by
  obtain ⟨-, -, -, -, cs, hc, ⟨m1, m2⟩, m3, m4, -⟩ := hC
  have e : xex (m_ns s) ((A 5).drop cs) = m_c s := m3.2.2.1
  rcases gl_mem (l := m_c s) (v := q) with h | h
  · omega
  · rw [← e] at h ⊢
    exact xex_nn m4 (Nat.le_refl _) m3.2.1 _ h
end TPS9
section
def p_X1_size_56  (F0 : rf_f) (A0 : xl_A) : Int × rf_f × xl_A := (F0 5604, F0, A0)
theorem n_X1_size_56 {h0 : am_h} {F0 : rf_f} {A0 : xl_A}    (hR : xR h0 F0 A0) : am_Mt 1 11 [.inr (.inr (some 56))] h0 (xQ h0 (fun x F' A' => x = (p_X1_size_56 F0 A0).1 ∧ F' = (p_X1_size_56 F0 A0).2.1 ∧ A' = (p_X1_size_56 F0 A0).2.2)) := by
  refine am_Mt.of (D := 0) ?_
  have hI : xI h0 (ob_P h0) h0 0 0 F0 A0 := xI.start hR
  have hL : am_okL h0.length (am_args 0 [.inr (.inr (some 56))]) = true := (okA_r hI.T oc56 okA_n)
  refine k_aload 1 rfl rfl rfl ?_
  refine x_gI hI 4 rfl oc56 rfl rfl rfl rfl (fun x1 (e2 : x1.toInt = F0 5604) => ?_)
  exact k_fin rfl rfl ⟨_, _, _, _, _, _, rfl, hI, e2, rfl, rfl⟩
end
section
def p_X1_size_65  (F0 : rf_f) (A0 : xl_A) : Int × rf_f × xl_A := (F0 6504, F0, A0)
theorem n_X1_size_65 {h0 : am_h} {F0 : rf_f} {A0 : xl_A}    (hR : xR h0 F0 A0) : am_Mt 1 11 [.inr (.inr (some 65))] h0 (xQ h0 (fun x F' A' => x = (p_X1_size_65 F0 A0).1 ∧ F' = (p_X1_size_65 F0 A0).2.1 ∧ A' = (p_X1_size_65 F0 A0).2.2)) := by
  refine am_Mt.of (D := 0) ?_
  have hI : xI h0 (ob_P h0) h0 0 0 F0 A0 := xI.start hR
  have hL : am_okL h0.length (am_args 0 [.inr (.inr (some 65))]) = true := (okA_r hI.T oc65 okA_n)
  refine k_aload 1 rfl rfl rfl ?_
  refine x_gI hI 4 rfl oc65 rfl rfl rfl rfl (fun x1 (e2 : x1.toInt = F0 6504) => ?_)
  exact k_fin rfl rfl ⟨_, _, _, _, _, _, rfl, hI, e2, rfl, rfl⟩
end
section
def p_X9_forget_56_65  (F0 : rf_f) (A0 : xl_A) : Int × rf_f × xl_A := (0, (up1 F0 117 (0)), (upl A0 54 (List.replicate (15 : Int).toNat (0))))
theorem n_X9_forget_56_65 {h0 : am_h} {F0 : rf_f} {A0 : xl_A}    (hR : xR h0 F0 A0) : am_Mt 2 150 [.inr (.inr (some 1))] h0 (xV h0 (fun F' A' => F' = (p_X9_forget_56_65 F0 A0).2.1 ∧ A' = (p_X9_forget_56_65 F0 A0).2.2)) := by
  refine am_Mt.of (D := 1) ?_
  have hI : xI h0 (ob_P h0) h0 0 0 F0 A0 := xI.start hR
  have hL : am_okL h0.length (am_args 0 [.inr (.inr (some 1))]) = true := (okA_r hI.T oc1 okA_n)
  refine k_aload 1 rfl rfl rfl ?_
  refine k_push 2 rfl rfl ?_
  have hc1 : (0 : Int32).toInt = 0 := by decide
  refine x_pZ (fx_ok := fx_no rfl) hI 5 rfl oc1 rfl rfl rfl (Or.inl rfl) rfl (fun h2 I3 l4 => ?_)
  have L5 := okL_eq l4 hL
  have I6 : xI h0 (ob_P h0) h2 0 0 (up1 F0 117 (0)) A0 := by have h9 := I3; rw [hc1] at h9; exact h9
  refine k_aload 6 rfl rfl rfl ?_
  refine x_gF 54 I6 9 rfl rfl (by decide) rfl ?_
  refine k_push 11 rfl rfl ?_
  have hc7 : (15 : Int32).toInt = 15 := by decide
  refine k_push 12 rfl rfl ?_
  refine k_xv I6 rfl (y_fill hc7 hc1 I6.1 or54 (by decide) (by decide)) rfl rfl rfl (ty_H.rc3 I6.T or54) L5 so_n ?_
  rintro h9 c10 s11 F12 A13 I14 L15 ⟨k17, k18⟩
  replace k17 := k17.symm
  subst k17
  replace k18 := k18.symm
  subst k18
  show am_Ok _ _ _ (15, _, [], _, c10, s11) _
  exact k_fin rfl rfl ⟨_, _, _, _, _, rfl, I14, rfl, rfl⟩
def p_X9_beginAnew_56_65  (F0 : rf_f) (A0 : xl_A) : Int × rf_f × xl_A := (0, (p_X9_forget_56_65 ((up1 ((p_X1_size_65 F0 ((upl A0 52 (List.replicate (6 : Int).toNat (0))))).2.1) 114 ((p_X1_size_65 F0 ((upl A0 52 (List.replicate (6 : Int).toNat (0))))).1))) ((p_X1_size_65 F0 ((upl A0 52 (List.replicate (6 : Int).toNat (0))))).2.2)).2.1, (p_X9_forget_56_65 ((up1 ((p_X1_size_65 F0 ((upl A0 52 (List.replicate (6 : Int).toNat (0))))).2.1) 114 ((p_X1_size_65 F0 ((upl A0 52 (List.replicate (6 : Int).toNat (0))))).1))) ((p_X1_size_65 F0 ((upl A0 52 (List.replicate (6 : Int).toNat (0))))).2.2)).2.2)
theorem n_X9_beginAnew_56_65 {h0 : am_h} {F0 : rf_f} {A0 : xl_A}   (hn : F0 110 = 65) (hR : xR h0 F0 A0) : am_Mt 3 149 [.inr (.inr (some 1))] h0 (xV h0 (fun F' A' => F' = (p_X9_beginAnew_56_65 F0 A0).2.1 ∧ A' = (p_X9_beginAnew_56_65 F0 A0).2.2)) := by
  refine am_Mt.of (D := 2) ?_
  have hI : xI h0 (ob_P h0) h0 0 0 F0 A0 := xI.start hR
  have hL : am_okL h0.length (am_args 0 [.inr (.inr (some 1))]) = true := (okA_r hI.T oc1 okA_n)
  refine k_aload 1 rfl rfl rfl ?_
  refine x_gF 52 hI 4 rfl rfl (by decide) rfl ?_
  refine k_push 6 rfl rfl ?_
  have hc1 : (6 : Int32).toInt = 6 := by decide
  refine k_push 7 rfl rfl ?_
  have hc2 : (0 : Int32).toInt = 0 := by decide
  refine k_xv hI rfl (y_fill hc1 hc2 hI.1 or52 (by decide) (by decide)) rfl rfl rfl (ty_H.rc3 hI.T or52) hL so_n ?_
  rintro h4 c5 s6 F7 A8 I9 L10 ⟨k12, k13⟩
  replace k12 := k12.symm
  subst k12
  replace k13 := k13.symm
  subst k13
  show am_Ok _ _ _ (10, _, [], _, c5, s6) _
  refine k_aload 11 rfl rfl rfl ?_
  refine k_aload 12 rfl rfl rfl ?_
  refine x_gO (τ := 1) I9 15 rfl oc1 rfl rfl rfl rfl (fun r14 (e15 : (r14 : Int) = F0 110) o16 => ?_)
  obtain rfl : r14 = 65 := by omega
  refine k_xq I9 rfl (n_X1_size_65    I9.1) rfl rfl rfl (I9.T.rc oc65 rfl) L10 (xo_r I9 oc1 so_n) ?_
  rintro x17 h18 c19 s20 F21 A22 I23 L24 ⟨e25, k26, k27⟩
  replace k26 := k26.symm
  subst k26
  replace k27 := k27.symm
  subst k27
  show am_Ok _ _ _ (18, _, [.inl x17, .inr (.inr (some 1))], _, c19, s20) _
  refine x_pI (fx_ok := fx_no rfl) I23 21 rfl oc1 rfl rfl rfl rfl (fun h28 I29 l30 => ?_)
  have L31 := okL_eq l30 L24
  have I32 : xI h0 (ob_P h0) h28 c19 s20 (up1 ((p_X1_size_65 F0 ((upl A0 52 (List.replicate (6 : Int).toNat (0))))).2.1) 114 ((p_X1_size_65 F0 ((upl A0 52 (List.replicate (6 : Int).toNat (0))))).1)) (p_X1_size_65 F0 ((upl A0 52 (List.replicate (6 : Int).toNat (0))))).2.2 := by have h9 := I29; rw [e25] at h9; exact h9
  refine k_aload 22 rfl rfl rfl ?_
  refine k_xv I32 rfl (n_X9_forget_56_65    I32.1) rfl rfl rfl (I32.T.rc oc1 rfl) L31 so_n ?_
  rintro h34 c35 s36 F37 A38 I39 L40 ⟨k42, k43⟩
  replace k42 := k42.symm
  subst k42
  replace k43 := k43.symm
  subst k43
  show am_Ok _ _ _ (25, _, [], _, c35, s36) _
  exact k_fin rfl rfl ⟨_, _, _, _, _, rfl, I39, rfl, rfl⟩
theorem n_X9_takeProgram_56_65 {h0 : am_h} {F0 : rf_f} {A0 : xl_A}   (T : List Int) (sz : mS) (hC : CLr T F0 A0 sz) (he : m_e sz ≤ (T.length : Int)) (hn : F0 110 = 56) (hs : F0 111 = 65) (hR : xR h0 F0 A0) : am_Mt 6 148 [.inr (.inr (some 1))] h0 (xQ h0 (fun x F' A' => TPQ (m_c sz) F0 A0 (x) (F') (A'))) := by
  refine am_Mt.of (D := 5) ?_
  have hI : xI h0 (ob_P h0) h0 0 0 F0 A0 := xI.start hR
  have hL : am_okL h0.length (am_args 0 [.inr (.inr (some 1))]) = true := (okA_r hI.T oc1 okA_n)
  refine k_aload 1 rfl rfl rfl ?_
  refine x_gF 4 hI 4 rfl rfl (by decide) rfl ?_
  refine k_aload 5 rfl rfl rfl ?_
  refine x_gF 48 hI 8 rfl rfl (by decide) rfl ?_
  refine k_xq hI rfl (n_X6_putTerm   (T) (sz) (by exact hC) (by exact he) hI.1) rfl rfl rfl (hI.T.rc oc4 rfl) hL so_n ?_
  rintro x1 h2 c3 s4 F5 A6 I7 L8 e9
  have z12 := iv_01 (x := x1) (e9.1)
  obtain ⟨n10, q11⟩ : ∃ n : Int, x1.toInt = n := ⟨_, rfl⟩
  try rw [q11] at e9
  show am_Ok _ _ _ (11, _, [.inl x1], _, c3, s4) _
  obtain ⟨u1, u2, u3, u4⟩ := e9
  have f10 : F5 110 = 56 := by rw [u2]; exact hn
  have f11 : F5 111 = 65 := by rw [u2]; exact hs
  have f13 : F5 113 = F0 113 := by rw [u2]
  have fpq : F5 3202 = F0 3202 ∧ F5 3203 = F0 3203 := by rw [u2]; exact ⟨rfl, rfl⟩
  have aa2 : A6 2 = A0 2 := u3 2 (by decide) (by decide)
  have aa46 : A6 46 = A0 46 := u3 46 (by decide) (by decide)
  by_cases b13 : x1 = 0
  · refine k_c1 32 rfl rfl (if_pos b13) ?_
    have b13 : n10 = 0 := by have h9 := iv_eq0.mp b13; rw [q11] at h9; exact h9
    refine k_push 33 rfl rfl ?_
    have hc14 : (0 : Int32).toInt = 0 := by decide
    exact k_fin rfl (fin_Z (Or.inl rfl)) ⟨_, _, _, _, _, _, rfl, I7, (by (try rw [hc14]); show TPQ (m_c sz) F0 A0 (0) (F5) (A6); have cc9 : 120 < (m_c sz).length := u4.elim (fun y => absurd (b13.symm.trans y.2.1) (by decide)) (fun y => y.1); exact ⟨Or.inl rfl, Or.inr ⟨Or.inl cc9, rfl, aa46⟩, aa2, f13, fpq⟩)⟩
  · refine k_c1 14 rfl rfl (if_neg b13) ?_
    have b13 : ¬ (n10 = 0) := by have h9 := mt iv_eq0.mpr b13; rw [q11] at h9; exact h9
    have aa48 : A6 48 = m_c sz ∧ (m_c sz).length ≤ 120 := u4.elim (fun y => ⟨y.2.2, y.1⟩) (fun y => absurd y.2 b13)
    refine k_aload 15 rfl rfl rfl ?_
    refine x_gF 74 I7 18 rfl rfl (by decide) rfl ?_
    refine k_aload 19 rfl rfl rfl ?_
    refine x_gF 48 I7 22 rfl rfl (by decide) rfl ?_
    refine k_aload 23 rfl rfl rfl ?_
    refine x_gO (τ := 1) I7 26 rfl oc1 rfl rfl rfl rfl (fun r15 (e16 : (r15 : Int) = F5 111) o17 => ?_)
    obtain rfl : r15 = 65 := by omega
    refine k_xq I7 rfl (n_X0_lay_65   (by (rw [aa48.1]; exact cl_nn hC)) (by (rw [aa48.1]; exact aa48.2)) I7.1) rfl rfl rfl (I7.T.rc oc74 rfl) L8 so_n ?_
    rintro x18 h19 c20 s21 F22 A23 I24 L25 e26
    have z29 := iv_01 (x := x18) (e26.1)
    obtain ⟨n27, q28⟩ : ∃ n : Int, x18.toInt = n := ⟨_, rfl⟩
    try rw [q28] at e26
    show am_Ok _ _ _ (29, _, [.inl x18], _, c20, s21) _
    obtain ⟨v1, v2, v3, v4⟩ := e26
    rw [aa48.1] at v2
    by_cases b30 : x18 = 0
    · refine k_c1 32 rfl rfl (if_pos b30) ?_
      have b30 : n27 = 0 := by have h9 := iv_eq0.mp b30; rw [q28] at h9; exact h9
      refine k_push 33 rfl rfl ?_
      have hc31 : (0 : Int32).toInt = 0 := by decide
      exact k_fin rfl (fin_Z (Or.inl rfl)) ⟨_, _, _, _, _, _, rfl, I24, (by (try rw [hc31]); show TPQ (m_c sz) F0 A0 (0) (F22) (A23); have cc9 : 400 < lmt (m_c sz) := v2.elim (fun y => absurd (b30.symm.trans y.2) (by decide)) (fun y => y.1); exact ⟨Or.inl rfl, Or.inr ⟨Or.inr cc9, rfl, (v4 46 (by decide)).trans aa46⟩, (v4 2 (by decide)).trans aa2, (v3 113 (by decide)).trans f13, ⟨(v3 3202 (by decide)).trans fpq.1, (v3 3203 (by decide)).trans fpq.2⟩⟩)⟩
    · refine k_c1 34 rfl rfl (if_neg b30) ?_
      have b30 : ¬ (n27 = 0) := by have h9 := mt iv_eq0.mpr b30; rw [q28] at h9; exact h9
      have g10 : F22 110 = 56 := (v3 110 (by decide)).trans f10
      have g11 : F22 111 = 65 := (v3 111 (by decide)).trans f11
      have g13 : F22 113 = F0 113 := (v3 113 (by decide)).trans f13
      have gpq : F22 3202 = F0 3202 ∧ F22 3203 = F0 3203 := ⟨(v3 3202 (by decide)).trans fpq.1, (v3 3203 (by decide)).trans fpq.2⟩
      have bb2 : A23 2 = A0 2 := (v4 2 (by decide)).trans aa2
      have bb48 : A23 48 = m_c sz := (v4 48 (by decide)).trans aa48.1
      have ll48 : ((A23 48).length : Int) ≤ (ob_mo 46).toInt := by rw [bb48, mo46]; have h9 := aa48.2; omega
      refine k_aload 35 rfl rfl rfl ?_
      refine x_gO (τ := 1) I24 38 rfl oc1 rfl rfl rfl rfl (fun r32 (e33 : (r32 : Int) = F22 110) o34 => ?_)
      obtain rfl : r32 = 56 := by omega
      refine k_astore 39 rfl rfl ?_
      refine k_aload 40 rfl (gs_ne rfl rfl rfl) rfl ?_
      refine k_aload 41 rfl (gs_ne rfl rfl rfl) rfl ?_
      refine x_gO (τ := 1) I24 44 rfl oc1 rfl rfl rfl rfl (fun r35 (e36 : (r35 : Int) = F22 111) o37 => ?_)
      obtain rfl : r35 = 65 := by omega
      refine x_pO (τ := 1) (fx_ok := fx_no rfl) I24 47 rfl oc1 rfl rfl rfl oc65 rfl (fun h38 I39 l40 => ?_)
      have L41 := okL_eq l40 (okL_set (i := 1) (v := .inr (.inr (some 56))) (xo_v I24 oc56) L25)
      refine k_aload 48 rfl (gs_ne rfl rfl rfl) rfl ?_
      refine k_aload 49 rfl gs_eq rfl ?_
      refine x_pO (τ := 1) (fx_ok := fx_no rfl) I39 52 rfl oc1 rfl rfl rfl oc56 rfl (fun h42 I43 l44 => ?_)
      have L45 := okL_eq l44 L41
      refine k_aload 53 rfl (gs_ne rfl rfl rfl) rfl ?_
      refine x_gF 46 I43 56 rfl rfl (by decide) rfl ?_
      refine k_aload 57 rfl (gs_ne rfl rfl rfl) rfl ?_
      refine x_gF 48 I43 60 rfl rfl (by decide) rfl ?_
      refine k_xv I43 rfl (xw_copy I43.1 or46 or48 ll48) rfl rfl rfl (ty_H.rc3 I43.T or46) L45 so_n ?_
      rintro h47 c48 s49 F50 A51 I52 L53 ⟨k55, k56⟩
      replace k55 := k55.symm
      subst k55
      replace k56 := k56.symm
      subst k56
      show am_Ok _ _ _ (63, _, [], _, c48, s49) _
      refine k_aload 64 rfl (gs_ne rfl rfl rfl) rfl ?_
      refine k_push 65 rfl rfl ?_
      have hc57 : (0 : Int32).toInt = 0 := by decide
      refine x_pZ (fx_ok := fx_no rfl) I52 68 rfl oc1 rfl rfl rfl (Or.inl rfl) rfl (fun h58 I59 l60 => ?_)
      have L61 := okL_eq l60 L53
      have I62 : xI h0 (ob_P h0) h58 c48 s49 (up1 ((up1 (up1 F22 110 ((65 : Nat) : Int)) 111 ((56 : Nat) : Int))) 116 (0)) (upl A23 46 (A23 48)) := by have h9 := I59; rw [hc57] at h9; exact h9
      refine k_aload 69 rfl (gs_ne rfl rfl rfl) rfl ?_
      refine k_xv I62 rfl (n_X9_beginAnew_56_65   (by rfl) I62.1) rfl rfl rfl (I62.T.rc oc1 rfl) L61 so_n ?_
      rintro h64 c65 s66 F67 A68 I69 L70 ⟨k72, k73⟩
      replace k72 := k72.symm
      subst k72
      replace k73 := k73.symm
      subst k73
      show am_Ok _ _ _ (72, _, [], _, c65, s66) _
      refine k_push 73 rfl rfl ?_
      have hc74 : (1 : Int32).toInt = 1 := by decide
      exact k_fin rfl (fin_Z (Or.inr rfl)) ⟨_, _, _, _, _, _, rfl, I69, (by (try rw [hc74]); show TPQ (m_c sz) F0 A0 (1) ((p_X9_beginAnew_56_65 ((up1 ((up1 (up1 F22 110 ((65 : Nat) : Int)) 111 ((56 : Nat) : Int))) 116 (0))) (upl A23 46 (A23 48))).2.1) ((p_X9_beginAnew_56_65 ((up1 ((up1 (up1 F22 110 ((65 : Nat) : Int)) 111 ((56 : Nat) : Int))) 116 (0))) (upl A23 46 (A23 48))).2.2); have cc9 : lmt (m_c sz) ≤ 400 := v2.elim (fun y => y.1) (fun y => absurd y.2 b30); exact ⟨Or.inr rfl, Or.inl ⟨aa48.2, cc9, rfl, bb48⟩, bb2, g13, gpq⟩)⟩
theorem n_X9_tell_56_65 {h0 : am_h} {F0 : rf_f} {A0 : xl_A} {w1 : Int32} {n1 : Int} (hn1 : w1.toInt = n1)  (hp : 0 ≤ n1 ∧ n1 ≤ ((A0 2).length : Int)) (hl : ((A0 2).length : Int) ≤ 700) (hn : F0 110 = 56) (hs : F0 111 = 65) (hR : xR h0 F0 A0) : am_Mt 8 131 [.inr (.inr (some 1)), .inl w1] h0 (xQ h0 (fun x F' A' => CTQ ((A0 2).take n1.toNat) (x) (F' 113) (A' 46) ∧ A' 2 = [] ∧ imp ((x : Int) ≠ 0) (A' 46 = A0 46) ∧ (F' 3202 = F0 3202 ∧ F' 3203 = F0 3203))) := by
  refine am_Mt.of (D := 7) ?_
  have hI : xI h0 (ob_P h0) h0 0 0 F0 A0 := xI.start hR
  have hL : am_okL h0.length (am_args 0 [.inr (.inr (some 1)), .inl w1]) = true := (okA_r hI.T oc1 (okA_i okA_n))
  refine k_iload 1 rfl rfl rfl ?_
  by_cases b1 : w1 < 0
  · refine k_c1 15 rfl rfl (if_pos b1) ?_
    have b1 : n1 < 0 := by have h9 := iv_lt0.mp b1; rw [hn1] at h9; exact h9
    exact absurd hp (by omega)
  · refine k_c1 4 rfl rfl (if_neg b1) ?_
    have b1 : ¬ (n1 < 0) := by have h9 := mt iv_lt0.mpr b1; rw [hn1] at h9; exact h9
    refine k_iload 5 rfl rfl rfl ?_
    refine k_aload 6 rfl rfl rfl ?_
    refine x_gF 2 hI 9 rfl rfl (by decide) rfl ?_
    refine k_xq hI rfl (xv_size hI.1 or2) rfl rfl rfl (ty_H.rc3 hI.T or2) hL (so_i so_n) ?_
    rintro x2 h3 c4 s5 F6 A7 I8 L9 ⟨e10, k11, k12⟩
    replace k11 := k11.symm
    subst k11
    replace k12 := k12.symm
    subst k12
    show am_Ok _ _ _ (12, _, [.inl x2, .inl w1], _, c4, s5) _
    by_cases b13 : w1 ≤ x2
    · refine k_c2 25 rfl rfl (if_pos b13) ?_
      have b13 : n1 ≤ (((A0 2).length : Nat) : Int) := by have h9 := iv_le.mp b13; rw [hn1] at h9; rw [e10] at h9; exact h9
      refine k_aload 26 rfl rfl rfl ?_
      refine x_gF 2 I8 29 rfl rfl (by decide) rfl ?_
      refine k_iload 30 rfl rfl rfl ?_
      refine k_xv I8 rfl (y_cut hn1 I8.1 or2) rfl rfl rfl (ty_H.rc3 I8.T or2) L9 so_n ?_
      rintro h15 c16 s17 F18 A19 I20 L21 ⟨k23, k24⟩
      replace k23 := k23.symm
      subst k23
      replace k24 := k24.symm
      subst k24
      show am_Ok _ _ _ (33, _, [], _, c16, s17) _
      have t9 : cutl (A0 2) n1 = (A0 2).take n1.toNat := if_pos hp.1
      have tl : (((A0 2).take n1.toNat).length : Int) = n1 := by rw [List.length_take]; omega
      refine k_aload 34 rfl rfl rfl ?_
      refine x_gF 4 I20 37 rfl rfl (by decide) rfl ?_
      refine k_xq I20 rfl (n_X6_findFault   (by (show ((cutl (A0 2) (n1)).length : Int) ≤ 700; rw [t9, tl]; omega)) I20.1) rfl rfl rfl (I20.T.rc oc4 rfl) L21 so_n ?_
      rintro x25 h26 c27 s28 F29 A30 I31 L32 e33
      obtain ⟨n34, q35⟩ : ∃ n : Int, x25.toInt = n := ⟨_, rfl⟩
      try rw [q35] at e33
      show am_Ok _ _ _ (40, _, [.inl x25], _, c27, s28) _
      obtain ⟨⟨z1, z2⟩, rr9, z3, z4, z5, z6⟩ := e33
      rw [upl_eq, t9] at z3 z6
      have zpq : F29 3202 = F0 3202 ∧ F29 3203 = F0 3203 := ⟨(z1 3202 (by omega) (by omega)), (z1 3203 (by omega) (by omega))⟩
      refine k_istore 41 rfl rfl ?_
      refine k_aload 42 rfl (gs_ne rfl rfl rfl) rfl ?_
      refine k_iload 43 rfl gs_eq rfl ?_
      by_cases b36 : x25 = 0
      · refine k_c1 46 rfl rfl (if_pos b36) ?_
        have b36 : n34 = 0 := by have h9 := iv_eq0.mp b36; rw [q35] at h9; exact h9
        refine k_push 47 rfl rfl ?_
        have hc37 : (-1 : Int32).toInt = -1 := by decide
        refine k_goto 57 rfl rfl ?_
        refine x_pI (fx_ok := fx_no rfl) I31 60 rfl oc1 rfl rfl rfl rfl (fun h38 I39 l40 => ?_)
        have L41 := okL_eq l40 (okL_set (i := 2) (v := .inl x25) rfl L32)
        have I42 : xI h0 (ob_P h0) h38 c27 s28 (up1 F29 113 ((-1))) A30 := by have h9 := I39; rw [hc37] at h9; exact h9
        refine k_iload 61 rfl gs_eq rfl ?_
        by_cases b43 : x25 = 0
        · refine k_c1 64 rfl rfl (if_pos b43) ?_
          have b43 : n34 = 0 := by have h9 := iv_eq0.mp b43; rw [q35] at h9; exact h9
          have y0 : rr9.1 = 0 := z4.symm.trans b43
          obtain ⟨sz, y1, y2, y3, y4, y5⟩ := z6 y0
          refine k_aload 65 rfl (gs_ne rfl rfl rfl) rfl ?_
          refine k_xq I42 rfl (n_X9_takeProgram_56_65   (((A0 2).take n1.toNat)) (sz) (by exact CLq.cg y2 rfl rfl rfl rfl rfl rfl) (by exact y3) (by exact (z1 110 (by omega) (by omega)).trans hn) (by exact (z1 111 (by omega) (by omega)).trans hs) I42.1) rfl rfl rfl (I42.T.rc oc1 rfl) L41 so_n ?_
          rintro x44 h45 c46 s47 F48 A49 I50 L51 e52
          have z55 := iv_01 (x := x44) (e52.1)
          obtain ⟨n53, q54⟩ : ∃ n : Int, x44.toInt = n := ⟨_, rfl⟩
          try rw [q54] at e52
          show am_Ok _ _ _ (68, _, [.inl x44], _, c46, s47) _
          obtain ⟨o1, o2, o3, o4, o5⟩ := e52
          by_cases b56 : x44 = 0
          · refine k_c1 71 rfl rfl (if_pos b56) ?_
            have b56 : n53 = 0 := by have h9 := iv_eq0.mp b56; rw [q54] at h9; exact h9
            refine k_push 72 rfl rfl ?_
            have hc57 : (5 : Int32).toInt = 5 := by decide
            refine k_istore 73 rfl rfl ?_
            refine k_aload 74 rfl (gs_ne rfl rfl (gs_ne rfl rfl rfl)) rfl ?_
            refine k_iload 75 rfl (gs_ne rfl rfl (gs_ne rfl rfl rfl)) rfl ?_
            refine x_pI (fx_ok := fx_no rfl) I50 78 rfl oc1 rfl rfl rfl rfl (fun h58 I59 l60 => ?_)
            have L61 := okL_eq l60 (okL_set (i := 2) (v := .inl (5 : Int32)) rfl L51)
            have I62 : xI h0 (ob_P h0) h58 c46 s47 (up1 F48 113 (n1)) A49 := by have h9 := I59; rw [hn1] at h9; exact h9
            refine k_aload 79 rfl (gs_ne rfl rfl (gs_ne rfl rfl rfl)) rfl ?_
            refine x_gF 2 I62 82 rfl rfl (by decide) rfl ?_
            refine k_push 83 rfl rfl ?_
            have hc63 : (0 : Int32).toInt = 0 := by decide
            refine k_xv I62 rfl (y_cut hc63 I62.1 or2) rfl rfl rfl (ty_H.rc3 I62.T or2) L61 so_n ?_
            rintro h65 c66 s67 F68 A69 I70 L71 ⟨k73, k74⟩
            replace k73 := k73.symm
            subst k73
            replace k74 := k74.symm
            subst k74
            show am_Ok _ _ _ (86, _, [], _, c66, s67) _
            refine k_iload 87 rfl gs_eq rfl ?_
            exact k_fin rfl rfl ⟨_, _, _, _, _, _, rfl, I70, (by (try rw [hc57]); show CTQ ((A0 2).take n1.toNat) (5) ((up1 F48 113 (n1)) 113) ((upl A49 2 (cutl (A49 2) (0))) 46) ∧ (upl A49 2 (cutl (A49 2) (0))) 2 = [] ∧ imp ((5 : Int) ≠ 0) ((upl A49 2 (cutl (A49 2) (0))) 46 = A0 46) ∧ ((up1 F48 113 (n1)) 3202 = F0 3202 ∧ (up1 F48 113 (n1)) 3203 = F0 3203); have cc9 : (120 < (m_c sz).length ∨ 400 < lmt (m_c sz)) ∧ A49 46 = A30 46 := o2.elim (fun k => absurd (b56.symm.trans k.2.2.1) (by decide)) (fun k => ⟨k.1, k.2.2⟩); exact ⟨⟨rr9, z3, Or.inr (Or.inl ⟨y0, by rw [y1]; exact cc9.1, rfl, tl.symm⟩)⟩, rfl, fun _ => (upl_ne (by decide)).trans (cc9.2.trans (z2 46 (by decide) (by decide) (by decide) (by decide))), ⟨o5.1.trans zpq.1, o5.2.trans zpq.2⟩⟩)⟩
          · refine k_c1 78 rfl rfl (if_neg b56) ?_
            have b56 : ¬ (n53 = 0) := by have h9 := mt iv_eq0.mpr b56; rw [q54] at h9; exact h9
            refine k_aload 79 rfl (gs_ne rfl rfl rfl) rfl ?_
            refine x_gF 2 I50 82 rfl rfl (by decide) rfl ?_
            refine k_push 83 rfl rfl ?_
            have hc75 : (0 : Int32).toInt = 0 := by decide
            refine k_xv I50 rfl (y_cut hc75 I50.1 or2) rfl rfl rfl (ty_H.rc3 I50.T or2) L51 so_n ?_
            rintro h77 c78 s79 F80 A81 I82 L83 ⟨k85, k86⟩
            replace k85 := k85.symm
            subst k85
            replace k86 := k86.symm
            subst k86
            show am_Ok _ _ _ (86, _, [], _, c78, s79) _
            refine k_iload 87 rfl gs_eq rfl ?_
            exact k_fin rfl rfl ⟨_, _, _, _, _, _, rfl, I82, (by (try rw [q35]); show CTQ ((A0 2).take n1.toNat) (n34) (F48 113) ((upl A49 2 (cutl (A49 2) (0))) 46) ∧ (upl A49 2 (cutl (A49 2) (0))) 2 = [] ∧ imp ((n34 : Int) ≠ 0) ((upl A49 2 (cutl (A49 2) (0))) 46 = A0 46) ∧ (F48 3202 = F0 3202 ∧ F48 3203 = F0 3203); have cc9 : (m_c sz).length ≤ 120 ∧ lmt (m_c sz) ≤ 400 ∧ A49 46 = m_c sz := o2.elim (fun k => ⟨k.1, k.2.1, k.2.2.2⟩) (fun k => absurd k.2.1 b56); exact ⟨⟨rr9, z3, Or.inr (Or.inr ⟨y0, by rw [y1]; exact cc9.1, by rw [y1]; exact cc9.2.1, b36, o4, by rw [y1]; exact (upl_ne (by decide)).trans cc9.2.2⟩)⟩, rfl, fun y => absurd b36 y, ⟨o5.1.trans zpq.1, o5.2.trans zpq.2⟩⟩)⟩
        · refine k_c1 78 rfl rfl (if_neg b43) ?_
          have b43 : ¬ (n34 = 0) := by have h9 := mt iv_eq0.mpr b43; rw [q35] at h9; exact h9
          exact absurd b36 b43
      · refine k_c1 50 rfl rfl (if_neg b36) ?_
        have b36 : ¬ (n34 = 0) := by have h9 := mt iv_eq0.mpr b36; rw [q35] at h9; exact h9
        refine k_aload 51 rfl (gs_ne rfl rfl rfl) rfl ?_
        refine x_gF 4 I31 54 rfl rfl (by decide) rfl ?_
        refine k_xq I31 rfl (n_X6_place    I31.1) rfl rfl rfl (I31.T.rc oc4 rfl) (okL_set (i := 2) (v := .inl x25) rfl L32) (xo_r I31 oc1 so_n) ?_
        rintro x87 h88 c89 s90 F91 A92 I93 L94 ⟨e95, k96, k97⟩
        replace k96 : F91 = F29 := k96
        replace k97 : A92 = A30 := k97
        replace e95 : x87.toInt = F29 1502 := e95
        replace k96 := k96.symm
        subst k96
        replace k97 := k97.symm
        subst k97
        show am_Ok _ _ _ (57, _, [.inl x87, .inr (.inr (some 1))], _, c89, s90) _
        refine x_pI (fx_ok := fx_no rfl) I93 60 rfl oc1 rfl rfl rfl rfl (fun h98 I99 l100 => ?_)
        have L101 := okL_eq l100 L94
        have I102 : xI h0 (ob_P h0) h98 c89 s90 (up1 F29 113 (F29 1502)) A30 := by have h9 := I99; rw [e95] at h9; exact h9
        refine k_iload 61 rfl gs_eq rfl ?_
        by_cases b103 : x25 = 0
        · refine k_c1 64 rfl rfl (if_pos b103) ?_
          have b103 : n34 = 0 := by have h9 := iv_eq0.mp b103; rw [q35] at h9; exact h9
          have y0 : rr9.1 = 0 := z4.symm.trans b103
          obtain ⟨sz, y1, y2, y3, y4, y5⟩ := z6 y0
          exact absurd b103 b36
        · refine k_c1 78 rfl rfl (if_neg b103) ?_
          have b103 : ¬ (n34 = 0) := by have h9 := mt iv_eq0.mpr b103; rw [q35] at h9; exact h9
          refine k_aload 79 rfl (gs_ne rfl rfl rfl) rfl ?_
          refine x_gF 2 I102 82 rfl rfl (by decide) rfl ?_
          refine k_push 83 rfl rfl ?_
          have hc104 : (0 : Int32).toInt = 0 := by decide
          refine k_xv I102 rfl (y_cut hc104 I102.1 or2) rfl rfl rfl (ty_H.rc3 I102.T or2) L101 so_n ?_
          rintro h106 c107 s108 F109 A110 I111 L112 ⟨k114, k115⟩
          replace k114 := k114.symm
          subst k114
          replace k115 := k115.symm
          subst k115
          show am_Ok _ _ _ (86, _, [], _, c107, s108) _
          refine k_iload 87 rfl gs_eq rfl ?_
          exact k_fin rfl rfl ⟨_, _, _, _, _, _, rfl, I111, (by (try rw [q35]); show CTQ ((A0 2).take n1.toNat) (n34) ((up1 F29 113 (F29 1502)) 113) ((upl A30 2 (cutl (A30 2) (0))) 46) ∧ (upl A30 2 (cutl (A30 2) (0))) 2 = [] ∧ imp ((n34 : Int) ≠ 0) ((upl A30 2 (cutl (A30 2) (0))) 46 = A0 46) ∧ ((up1 F29 113 (F29 1502)) 3202 = F0 3202 ∧ (up1 F29 113 (F29 1502)) 3203 = F0 3203); exact ⟨⟨rr9, z3, Or.inl ⟨fun y => b36 (z4.trans y), z4, z5⟩⟩, rfl, fun _ => (upl_ne (by decide)).trans (z2 46 (by decide) (by decide) (by decide) (by decide)), zpq⟩)⟩
    · refine k_c2 15 rfl rfl (if_neg b13) ?_
      have b13 : ¬ (n1 ≤ (((A0 2).length : Nat) : Int)) := by have h9 := mt iv_le.mpr b13; rw [hn1] at h9; rw [e10] at h9; exact h9
      exact absurd hp (by omega)
end
section
def p_X9_forget_65_56  (F0 : rf_f) (A0 : xl_A) : Int × rf_f × xl_A := (0, (up1 F0 117 (0)), (upl A0 54 (List.replicate (15 : Int).toNat (0))))
theorem n_X9_forget_65_56 {h0 : am_h} {F0 : rf_f} {A0 : xl_A}    (hR : xR h0 F0 A0) : am_Mt 2 150 [.inr (.inr (some 1))] h0 (xV h0 (fun F' A' => F' = (p_X9_forget_65_56 F0 A0).2.1 ∧ A' = (p_X9_forget_65_56 F0 A0).2.2)) := by
  refine am_Mt.of (D := 1) ?_
  have hI : xI h0 (ob_P h0) h0 0 0 F0 A0 := xI.start hR
  have hL : am_okL h0.length (am_args 0 [.inr (.inr (some 1))]) = true := (okA_r hI.T oc1 okA_n)
  refine k_aload 1 rfl rfl rfl ?_
  refine k_push 2 rfl rfl ?_
  have hc1 : (0 : Int32).toInt = 0 := by decide
  refine x_pZ (fx_ok := fx_no rfl) hI 5 rfl oc1 rfl rfl rfl (Or.inl rfl) rfl (fun h2 I3 l4 => ?_)
  have L5 := okL_eq l4 hL
  have I6 : xI h0 (ob_P h0) h2 0 0 (up1 F0 117 (0)) A0 := by have h9 := I3; rw [hc1] at h9; exact h9
  refine k_aload 6 rfl rfl rfl ?_
  refine x_gF 54 I6 9 rfl rfl (by decide) rfl ?_
  refine k_push 11 rfl rfl ?_
  have hc7 : (15 : Int32).toInt = 15 := by decide
  refine k_push 12 rfl rfl ?_
  refine k_xv I6 rfl (y_fill hc7 hc1 I6.1 or54 (by decide) (by decide)) rfl rfl rfl (ty_H.rc3 I6.T or54) L5 so_n ?_
  rintro h9 c10 s11 F12 A13 I14 L15 ⟨k17, k18⟩
  replace k17 := k17.symm
  subst k17
  replace k18 := k18.symm
  subst k18
  show am_Ok _ _ _ (15, _, [], _, c10, s11) _
  exact k_fin rfl rfl ⟨_, _, _, _, _, rfl, I14, rfl, rfl⟩
def p_X9_beginAnew_65_56  (F0 : rf_f) (A0 : xl_A) : Int × rf_f × xl_A := (0, (p_X9_forget_65_56 ((up1 ((p_X1_size_56 F0 ((upl A0 52 (List.replicate (6 : Int).toNat (0))))).2.1) 114 ((p_X1_size_56 F0 ((upl A0 52 (List.replicate (6 : Int).toNat (0))))).1))) ((p_X1_size_56 F0 ((upl A0 52 (List.replicate (6 : Int).toNat (0))))).2.2)).2.1, (p_X9_forget_65_56 ((up1 ((p_X1_size_56 F0 ((upl A0 52 (List.replicate (6 : Int).toNat (0))))).2.1) 114 ((p_X1_size_56 F0 ((upl A0 52 (List.replicate (6 : Int).toNat (0))))).1))) ((p_X1_size_56 F0 ((upl A0 52 (List.replicate (6 : Int).toNat (0))))).2.2)).2.2)
theorem n_X9_beginAnew_65_56 {h0 : am_h} {F0 : rf_f} {A0 : xl_A}   (hn : F0 110 = 56) (hR : xR h0 F0 A0) : am_Mt 3 149 [.inr (.inr (some 1))] h0 (xV h0 (fun F' A' => F' = (p_X9_beginAnew_65_56 F0 A0).2.1 ∧ A' = (p_X9_beginAnew_65_56 F0 A0).2.2)) := by
  refine am_Mt.of (D := 2) ?_
  have hI : xI h0 (ob_P h0) h0 0 0 F0 A0 := xI.start hR
  have hL : am_okL h0.length (am_args 0 [.inr (.inr (some 1))]) = true := (okA_r hI.T oc1 okA_n)
  refine k_aload 1 rfl rfl rfl ?_
  refine x_gF 52 hI 4 rfl rfl (by decide) rfl ?_
  refine k_push 6 rfl rfl ?_
  have hc1 : (6 : Int32).toInt = 6 := by decide
  refine k_push 7 rfl rfl ?_
  have hc2 : (0 : Int32).toInt = 0 := by decide
  refine k_xv hI rfl (y_fill hc1 hc2 hI.1 or52 (by decide) (by decide)) rfl rfl rfl (ty_H.rc3 hI.T or52) hL so_n ?_
  rintro h4 c5 s6 F7 A8 I9 L10 ⟨k12, k13⟩
  replace k12 := k12.symm
  subst k12
  replace k13 := k13.symm
  subst k13
  show am_Ok _ _ _ (10, _, [], _, c5, s6) _
  refine k_aload 11 rfl rfl rfl ?_
  refine k_aload 12 rfl rfl rfl ?_
  refine x_gO (τ := 1) I9 15 rfl oc1 rfl rfl rfl rfl (fun r14 (e15 : (r14 : Int) = F0 110) o16 => ?_)
  obtain rfl : r14 = 56 := by omega
  refine k_xq I9 rfl (n_X1_size_56    I9.1) rfl rfl rfl (I9.T.rc oc56 rfl) L10 (xo_r I9 oc1 so_n) ?_
  rintro x17 h18 c19 s20 F21 A22 I23 L24 ⟨e25, k26, k27⟩
  replace k26 := k26.symm
  subst k26
  replace k27 := k27.symm
  subst k27
  show am_Ok _ _ _ (18, _, [.inl x17, .inr (.inr (some 1))], _, c19, s20) _
  refine x_pI (fx_ok := fx_no rfl) I23 21 rfl oc1 rfl rfl rfl rfl (fun h28 I29 l30 => ?_)
  have L31 := okL_eq l30 L24
  have I32 : xI h0 (ob_P h0) h28 c19 s20 (up1 ((p_X1_size_56 F0 ((upl A0 52 (List.replicate (6 : Int).toNat (0))))).2.1) 114 ((p_X1_size_56 F0 ((upl A0 52 (List.replicate (6 : Int).toNat (0))))).1)) (p_X1_size_56 F0 ((upl A0 52 (List.replicate (6 : Int).toNat (0))))).2.2 := by have h9 := I29; rw [e25] at h9; exact h9
  refine k_aload 22 rfl rfl rfl ?_
  refine k_xv I32 rfl (n_X9_forget_65_56    I32.1) rfl rfl rfl (I32.T.rc oc1 rfl) L31 so_n ?_
  rintro h34 c35 s36 F37 A38 I39 L40 ⟨k42, k43⟩
  replace k42 := k42.symm
  subst k42
  replace k43 := k43.symm
  subst k43
  show am_Ok _ _ _ (25, _, [], _, c35, s36) _
  exact k_fin rfl rfl ⟨_, _, _, _, _, rfl, I39, rfl, rfl⟩
theorem n_X9_takeProgram_65_56 {h0 : am_h} {F0 : rf_f} {A0 : xl_A}   (T : List Int) (sz : mS) (hC : CLr T F0 A0 sz) (he : m_e sz ≤ (T.length : Int)) (hn : F0 110 = 65) (hs : F0 111 = 56) (hR : xR h0 F0 A0) : am_Mt 6 148 [.inr (.inr (some 1))] h0 (xQ h0 (fun x F' A' => TPQ (m_c sz) F0 A0 (x) (F') (A'))) := by
  refine am_Mt.of (D := 5) ?_
  have hI : xI h0 (ob_P h0) h0 0 0 F0 A0 := xI.start hR
  have hL : am_okL h0.length (am_args 0 [.inr (.inr (some 1))]) = true := (okA_r hI.T oc1 okA_n)
  refine k_aload 1 rfl rfl rfl ?_
  refine x_gF 4 hI 4 rfl rfl (by decide) rfl ?_
  refine k_aload 5 rfl rfl rfl ?_
  refine x_gF 48 hI 8 rfl rfl (by decide) rfl ?_
  refine k_xq hI rfl (n_X6_putTerm   (T) (sz) (by exact hC) (by exact he) hI.1) rfl rfl rfl (hI.T.rc oc4 rfl) hL so_n ?_
  rintro x1 h2 c3 s4 F5 A6 I7 L8 e9
  have z12 := iv_01 (x := x1) (e9.1)
  obtain ⟨n10, q11⟩ : ∃ n : Int, x1.toInt = n := ⟨_, rfl⟩
  try rw [q11] at e9
  show am_Ok _ _ _ (11, _, [.inl x1], _, c3, s4) _
  obtain ⟨u1, u2, u3, u4⟩ := e9
  have f10 : F5 110 = 65 := by rw [u2]; exact hn
  have f11 : F5 111 = 56 := by rw [u2]; exact hs
  have f13 : F5 113 = F0 113 := by rw [u2]
  have fpq : F5 3202 = F0 3202 ∧ F5 3203 = F0 3203 := by rw [u2]; exact ⟨rfl, rfl⟩
  have aa2 : A6 2 = A0 2 := u3 2 (by decide) (by decide)
  have aa46 : A6 46 = A0 46 := u3 46 (by decide) (by decide)
  by_cases b13 : x1 = 0
  · refine k_c1 32 rfl rfl (if_pos b13) ?_
    have b13 : n10 = 0 := by have h9 := iv_eq0.mp b13; rw [q11] at h9; exact h9
    refine k_push 33 rfl rfl ?_
    have hc14 : (0 : Int32).toInt = 0 := by decide
    exact k_fin rfl (fin_Z (Or.inl rfl)) ⟨_, _, _, _, _, _, rfl, I7, (by (try rw [hc14]); show TPQ (m_c sz) F0 A0 (0) (F5) (A6); have cc9 : 120 < (m_c sz).length := u4.elim (fun y => absurd (b13.symm.trans y.2.1) (by decide)) (fun y => y.1); exact ⟨Or.inl rfl, Or.inr ⟨Or.inl cc9, rfl, aa46⟩, aa2, f13, fpq⟩)⟩
  · refine k_c1 14 rfl rfl (if_neg b13) ?_
    have b13 : ¬ (n10 = 0) := by have h9 := mt iv_eq0.mpr b13; rw [q11] at h9; exact h9
    have aa48 : A6 48 = m_c sz ∧ (m_c sz).length ≤ 120 := u4.elim (fun y => ⟨y.2.2, y.1⟩) (fun y => absurd y.2 b13)
    refine k_aload 15 rfl rfl rfl ?_
    refine x_gF 74 I7 18 rfl rfl (by decide) rfl ?_
    refine k_aload 19 rfl rfl rfl ?_
    refine x_gF 48 I7 22 rfl rfl (by decide) rfl ?_
    refine k_aload 23 rfl rfl rfl ?_
    refine x_gO (τ := 1) I7 26 rfl oc1 rfl rfl rfl rfl (fun r15 (e16 : (r15 : Int) = F5 111) o17 => ?_)
    obtain rfl : r15 = 56 := by omega
    refine k_xq I7 rfl (n_X0_lay_56   (by (rw [aa48.1]; exact cl_nn hC)) (by (rw [aa48.1]; exact aa48.2)) I7.1) rfl rfl rfl (I7.T.rc oc74 rfl) L8 so_n ?_
    rintro x18 h19 c20 s21 F22 A23 I24 L25 e26
    have z29 := iv_01 (x := x18) (e26.1)
    obtain ⟨n27, q28⟩ : ∃ n : Int, x18.toInt = n := ⟨_, rfl⟩
    try rw [q28] at e26
    show am_Ok _ _ _ (29, _, [.inl x18], _, c20, s21) _
    obtain ⟨v1, v2, v3, v4⟩ := e26
    rw [aa48.1] at v2
    by_cases b30 : x18 = 0
    · refine k_c1 32 rfl rfl (if_pos b30) ?_
      have b30 : n27 = 0 := by have h9 := iv_eq0.mp b30; rw [q28] at h9; exact h9
      refine k_push 33 rfl rfl ?_
      have hc31 : (0 : Int32).toInt = 0 := by decide
      exact k_fin rfl (fin_Z (Or.inl rfl)) ⟨_, _, _, _, _, _, rfl, I24, (by (try rw [hc31]); show TPQ (m_c sz) F0 A0 (0) (F22) (A23); have cc9 : 400 < lmt (m_c sz) := v2.elim (fun y => absurd (b30.symm.trans y.2) (by decide)) (fun y => y.1); exact ⟨Or.inl rfl, Or.inr ⟨Or.inr cc9, rfl, (v4 46 (by decide)).trans aa46⟩, (v4 2 (by decide)).trans aa2, (v3 113 (by decide)).trans f13, ⟨(v3 3202 (by decide)).trans fpq.1, (v3 3203 (by decide)).trans fpq.2⟩⟩)⟩
    · refine k_c1 34 rfl rfl (if_neg b30) ?_
      have b30 : ¬ (n27 = 0) := by have h9 := mt iv_eq0.mpr b30; rw [q28] at h9; exact h9
      have g10 : F22 110 = 65 := (v3 110 (by decide)).trans f10
      have g11 : F22 111 = 56 := (v3 111 (by decide)).trans f11
      have g13 : F22 113 = F0 113 := (v3 113 (by decide)).trans f13
      have gpq : F22 3202 = F0 3202 ∧ F22 3203 = F0 3203 := ⟨(v3 3202 (by decide)).trans fpq.1, (v3 3203 (by decide)).trans fpq.2⟩
      have bb2 : A23 2 = A0 2 := (v4 2 (by decide)).trans aa2
      have bb48 : A23 48 = m_c sz := (v4 48 (by decide)).trans aa48.1
      have ll48 : ((A23 48).length : Int) ≤ (ob_mo 46).toInt := by rw [bb48, mo46]; have h9 := aa48.2; omega
      refine k_aload 35 rfl rfl rfl ?_
      refine x_gO (τ := 1) I24 38 rfl oc1 rfl rfl rfl rfl (fun r32 (e33 : (r32 : Int) = F22 110) o34 => ?_)
      obtain rfl : r32 = 65 := by omega
      refine k_astore 39 rfl rfl ?_
      refine k_aload 40 rfl (gs_ne rfl rfl rfl) rfl ?_
      refine k_aload 41 rfl (gs_ne rfl rfl rfl) rfl ?_
      refine x_gO (τ := 1) I24 44 rfl oc1 rfl rfl rfl rfl (fun r35 (e36 : (r35 : Int) = F22 111) o37 => ?_)
      obtain rfl : r35 = 56 := by omega
      refine x_pO (τ := 1) (fx_ok := fx_no rfl) I24 47 rfl oc1 rfl rfl rfl oc56 rfl (fun h38 I39 l40 => ?_)
      have L41 := okL_eq l40 (okL_set (i := 1) (v := .inr (.inr (some 65))) (xo_v I24 oc65) L25)
      refine k_aload 48 rfl (gs_ne rfl rfl rfl) rfl ?_
      refine k_aload 49 rfl gs_eq rfl ?_
      refine x_pO (τ := 1) (fx_ok := fx_no rfl) I39 52 rfl oc1 rfl rfl rfl oc65 rfl (fun h42 I43 l44 => ?_)
      have L45 := okL_eq l44 L41
      refine k_aload 53 rfl (gs_ne rfl rfl rfl) rfl ?_
      refine x_gF 46 I43 56 rfl rfl (by decide) rfl ?_
      refine k_aload 57 rfl (gs_ne rfl rfl rfl) rfl ?_
      refine x_gF 48 I43 60 rfl rfl (by decide) rfl ?_
      refine k_xv I43 rfl (xw_copy I43.1 or46 or48 ll48) rfl rfl rfl (ty_H.rc3 I43.T or46) L45 so_n ?_
      rintro h47 c48 s49 F50 A51 I52 L53 ⟨k55, k56⟩
      replace k55 := k55.symm
      subst k55
      replace k56 := k56.symm
      subst k56
      show am_Ok _ _ _ (63, _, [], _, c48, s49) _
      refine k_aload 64 rfl (gs_ne rfl rfl rfl) rfl ?_
      refine k_push 65 rfl rfl ?_
      have hc57 : (0 : Int32).toInt = 0 := by decide
      refine x_pZ (fx_ok := fx_no rfl) I52 68 rfl oc1 rfl rfl rfl (Or.inl rfl) rfl (fun h58 I59 l60 => ?_)
      have L61 := okL_eq l60 L53
      have I62 : xI h0 (ob_P h0) h58 c48 s49 (up1 ((up1 (up1 F22 110 ((56 : Nat) : Int)) 111 ((65 : Nat) : Int))) 116 (0)) (upl A23 46 (A23 48)) := by have h9 := I59; rw [hc57] at h9; exact h9
      refine k_aload 69 rfl (gs_ne rfl rfl rfl) rfl ?_
      refine k_xv I62 rfl (n_X9_beginAnew_65_56   (by rfl) I62.1) rfl rfl rfl (I62.T.rc oc1 rfl) L61 so_n ?_
      rintro h64 c65 s66 F67 A68 I69 L70 ⟨k72, k73⟩
      replace k72 := k72.symm
      subst k72
      replace k73 := k73.symm
      subst k73
      show am_Ok _ _ _ (72, _, [], _, c65, s66) _
      refine k_push 73 rfl rfl ?_
      have hc74 : (1 : Int32).toInt = 1 := by decide
      exact k_fin rfl (fin_Z (Or.inr rfl)) ⟨_, _, _, _, _, _, rfl, I69, (by (try rw [hc74]); show TPQ (m_c sz) F0 A0 (1) ((p_X9_beginAnew_65_56 ((up1 ((up1 (up1 F22 110 ((56 : Nat) : Int)) 111 ((65 : Nat) : Int))) 116 (0))) (upl A23 46 (A23 48))).2.1) ((p_X9_beginAnew_65_56 ((up1 ((up1 (up1 F22 110 ((56 : Nat) : Int)) 111 ((65 : Nat) : Int))) 116 (0))) (upl A23 46 (A23 48))).2.2); have cc9 : lmt (m_c sz) ≤ 400 := v2.elim (fun y => y.1) (fun y => absurd y.2 b30); exact ⟨Or.inr rfl, Or.inl ⟨aa48.2, cc9, rfl, bb48⟩, bb2, g13, gpq⟩)⟩
theorem n_X9_tell_65_56 {h0 : am_h} {F0 : rf_f} {A0 : xl_A} {w1 : Int32} {n1 : Int} (hn1 : w1.toInt = n1)  (hp : 0 ≤ n1 ∧ n1 ≤ ((A0 2).length : Int)) (hl : ((A0 2).length : Int) ≤ 700) (hn : F0 110 = 65) (hs : F0 111 = 56) (hR : xR h0 F0 A0) : am_Mt 8 131 [.inr (.inr (some 1)), .inl w1] h0 (xQ h0 (fun x F' A' => CTQ ((A0 2).take n1.toNat) (x) (F' 113) (A' 46) ∧ A' 2 = [] ∧ imp ((x : Int) ≠ 0) (A' 46 = A0 46) ∧ (F' 3202 = F0 3202 ∧ F' 3203 = F0 3203))) := by
  refine am_Mt.of (D := 7) ?_
  have hI : xI h0 (ob_P h0) h0 0 0 F0 A0 := xI.start hR
  have hL : am_okL h0.length (am_args 0 [.inr (.inr (some 1)), .inl w1]) = true := (okA_r hI.T oc1 (okA_i okA_n))
  refine k_iload 1 rfl rfl rfl ?_
  by_cases b1 : w1 < 0
  · refine k_c1 15 rfl rfl (if_pos b1) ?_
    have b1 : n1 < 0 := by have h9 := iv_lt0.mp b1; rw [hn1] at h9; exact h9
    exact absurd hp (by omega)
  · refine k_c1 4 rfl rfl (if_neg b1) ?_
    have b1 : ¬ (n1 < 0) := by have h9 := mt iv_lt0.mpr b1; rw [hn1] at h9; exact h9
    refine k_iload 5 rfl rfl rfl ?_
    refine k_aload 6 rfl rfl rfl ?_
    refine x_gF 2 hI 9 rfl rfl (by decide) rfl ?_
    refine k_xq hI rfl (xv_size hI.1 or2) rfl rfl rfl (ty_H.rc3 hI.T or2) hL (so_i so_n) ?_
    rintro x2 h3 c4 s5 F6 A7 I8 L9 ⟨e10, k11, k12⟩
    replace k11 := k11.symm
    subst k11
    replace k12 := k12.symm
    subst k12
    show am_Ok _ _ _ (12, _, [.inl x2, .inl w1], _, c4, s5) _
    by_cases b13 : w1 ≤ x2
    · refine k_c2 25 rfl rfl (if_pos b13) ?_
      have b13 : n1 ≤ (((A0 2).length : Nat) : Int) := by have h9 := iv_le.mp b13; rw [hn1] at h9; rw [e10] at h9; exact h9
      refine k_aload 26 rfl rfl rfl ?_
      refine x_gF 2 I8 29 rfl rfl (by decide) rfl ?_
      refine k_iload 30 rfl rfl rfl ?_
      refine k_xv I8 rfl (y_cut hn1 I8.1 or2) rfl rfl rfl (ty_H.rc3 I8.T or2) L9 so_n ?_
      rintro h15 c16 s17 F18 A19 I20 L21 ⟨k23, k24⟩
      replace k23 := k23.symm
      subst k23
      replace k24 := k24.symm
      subst k24
      show am_Ok _ _ _ (33, _, [], _, c16, s17) _
      have t9 : cutl (A0 2) n1 = (A0 2).take n1.toNat := if_pos hp.1
      have tl : (((A0 2).take n1.toNat).length : Int) = n1 := by rw [List.length_take]; omega
      refine k_aload 34 rfl rfl rfl ?_
      refine x_gF 4 I20 37 rfl rfl (by decide) rfl ?_
      refine k_xq I20 rfl (n_X6_findFault   (by (show ((cutl (A0 2) (n1)).length : Int) ≤ 700; rw [t9, tl]; omega)) I20.1) rfl rfl rfl (I20.T.rc oc4 rfl) L21 so_n ?_
      rintro x25 h26 c27 s28 F29 A30 I31 L32 e33
      obtain ⟨n34, q35⟩ : ∃ n : Int, x25.toInt = n := ⟨_, rfl⟩
      try rw [q35] at e33
      show am_Ok _ _ _ (40, _, [.inl x25], _, c27, s28) _
      obtain ⟨⟨z1, z2⟩, rr9, z3, z4, z5, z6⟩ := e33
      rw [upl_eq, t9] at z3 z6
      have zpq : F29 3202 = F0 3202 ∧ F29 3203 = F0 3203 := ⟨(z1 3202 (by omega) (by omega)), (z1 3203 (by omega) (by omega))⟩
      refine k_istore 41 rfl rfl ?_
      refine k_aload 42 rfl (gs_ne rfl rfl rfl) rfl ?_
      refine k_iload 43 rfl gs_eq rfl ?_
      by_cases b36 : x25 = 0
      · refine k_c1 46 rfl rfl (if_pos b36) ?_
        have b36 : n34 = 0 := by have h9 := iv_eq0.mp b36; rw [q35] at h9; exact h9
        refine k_push 47 rfl rfl ?_
        have hc37 : (-1 : Int32).toInt = -1 := by decide
        refine k_goto 57 rfl rfl ?_
        refine x_pI (fx_ok := fx_no rfl) I31 60 rfl oc1 rfl rfl rfl rfl (fun h38 I39 l40 => ?_)
        have L41 := okL_eq l40 (okL_set (i := 2) (v := .inl x25) rfl L32)
        have I42 : xI h0 (ob_P h0) h38 c27 s28 (up1 F29 113 ((-1))) A30 := by have h9 := I39; rw [hc37] at h9; exact h9
        refine k_iload 61 rfl gs_eq rfl ?_
        by_cases b43 : x25 = 0
        · refine k_c1 64 rfl rfl (if_pos b43) ?_
          have b43 : n34 = 0 := by have h9 := iv_eq0.mp b43; rw [q35] at h9; exact h9
          have y0 : rr9.1 = 0 := z4.symm.trans b43
          obtain ⟨sz, y1, y2, y3, y4, y5⟩ := z6 y0
          refine k_aload 65 rfl (gs_ne rfl rfl rfl) rfl ?_
          refine k_xq I42 rfl (n_X9_takeProgram_65_56   (((A0 2).take n1.toNat)) (sz) (by exact CLq.cg y2 rfl rfl rfl rfl rfl rfl) (by exact y3) (by exact (z1 110 (by omega) (by omega)).trans hn) (by exact (z1 111 (by omega) (by omega)).trans hs) I42.1) rfl rfl rfl (I42.T.rc oc1 rfl) L41 so_n ?_
          rintro x44 h45 c46 s47 F48 A49 I50 L51 e52
          have z55 := iv_01 (x := x44) (e52.1)
          obtain ⟨n53, q54⟩ : ∃ n : Int, x44.toInt = n := ⟨_, rfl⟩
          try rw [q54] at e52
          show am_Ok _ _ _ (68, _, [.inl x44], _, c46, s47) _
          obtain ⟨o1, o2, o3, o4, o5⟩ := e52
          by_cases b56 : x44 = 0
          · refine k_c1 71 rfl rfl (if_pos b56) ?_
            have b56 : n53 = 0 := by have h9 := iv_eq0.mp b56; rw [q54] at h9; exact h9
            refine k_push 72 rfl rfl ?_
            have hc57 : (5 : Int32).toInt = 5 := by decide
            refine k_istore 73 rfl rfl ?_
            refine k_aload 74 rfl (gs_ne rfl rfl (gs_ne rfl rfl rfl)) rfl ?_
            refine k_iload 75 rfl (gs_ne rfl rfl (gs_ne rfl rfl rfl)) rfl ?_
            refine x_pI (fx_ok := fx_no rfl) I50 78 rfl oc1 rfl rfl rfl rfl (fun h58 I59 l60 => ?_)
            have L61 := okL_eq l60 (okL_set (i := 2) (v := .inl (5 : Int32)) rfl L51)
            have I62 : xI h0 (ob_P h0) h58 c46 s47 (up1 F48 113 (n1)) A49 := by have h9 := I59; rw [hn1] at h9; exact h9
            refine k_aload 79 rfl (gs_ne rfl rfl (gs_ne rfl rfl rfl)) rfl ?_
            refine x_gF 2 I62 82 rfl rfl (by decide) rfl ?_
            refine k_push 83 rfl rfl ?_
            have hc63 : (0 : Int32).toInt = 0 := by decide
            refine k_xv I62 rfl (y_cut hc63 I62.1 or2) rfl rfl rfl (ty_H.rc3 I62.T or2) L61 so_n ?_
            rintro h65 c66 s67 F68 A69 I70 L71 ⟨k73, k74⟩
            replace k73 := k73.symm
            subst k73
            replace k74 := k74.symm
            subst k74
            show am_Ok _ _ _ (86, _, [], _, c66, s67) _
            refine k_iload 87 rfl gs_eq rfl ?_
            exact k_fin rfl rfl ⟨_, _, _, _, _, _, rfl, I70, (by (try rw [hc57]); show CTQ ((A0 2).take n1.toNat) (5) ((up1 F48 113 (n1)) 113) ((upl A49 2 (cutl (A49 2) (0))) 46) ∧ (upl A49 2 (cutl (A49 2) (0))) 2 = [] ∧ imp ((5 : Int) ≠ 0) ((upl A49 2 (cutl (A49 2) (0))) 46 = A0 46) ∧ ((up1 F48 113 (n1)) 3202 = F0 3202 ∧ (up1 F48 113 (n1)) 3203 = F0 3203); have cc9 : (120 < (m_c sz).length ∨ 400 < lmt (m_c sz)) ∧ A49 46 = A30 46 := o2.elim (fun k => absurd (b56.symm.trans k.2.2.1) (by decide)) (fun k => ⟨k.1, k.2.2⟩); exact ⟨⟨rr9, z3, Or.inr (Or.inl ⟨y0, by rw [y1]; exact cc9.1, rfl, tl.symm⟩)⟩, rfl, fun _ => (upl_ne (by decide)).trans (cc9.2.trans (z2 46 (by decide) (by decide) (by decide) (by decide))), ⟨o5.1.trans zpq.1, o5.2.trans zpq.2⟩⟩)⟩
          · refine k_c1 78 rfl rfl (if_neg b56) ?_
            have b56 : ¬ (n53 = 0) := by have h9 := mt iv_eq0.mpr b56; rw [q54] at h9; exact h9
            refine k_aload 79 rfl (gs_ne rfl rfl rfl) rfl ?_
            refine x_gF 2 I50 82 rfl rfl (by decide) rfl ?_
            refine k_push 83 rfl rfl ?_
            have hc75 : (0 : Int32).toInt = 0 := by decide
            refine k_xv I50 rfl (y_cut hc75 I50.1 or2) rfl rfl rfl (ty_H.rc3 I50.T or2) L51 so_n ?_
            rintro h77 c78 s79 F80 A81 I82 L83 ⟨k85, k86⟩
            replace k85 := k85.symm
            subst k85
            replace k86 := k86.symm
            subst k86
            show am_Ok _ _ _ (86, _, [], _, c78, s79) _
            refine k_iload 87 rfl gs_eq rfl ?_
            exact k_fin rfl rfl ⟨_, _, _, _, _, _, rfl, I82, (by (try rw [q35]); show CTQ ((A0 2).take n1.toNat) (n34) (F48 113) ((upl A49 2 (cutl (A49 2) (0))) 46) ∧ (upl A49 2 (cutl (A49 2) (0))) 2 = [] ∧ imp ((n34 : Int) ≠ 0) ((upl A49 2 (cutl (A49 2) (0))) 46 = A0 46) ∧ (F48 3202 = F0 3202 ∧ F48 3203 = F0 3203); have cc9 : (m_c sz).length ≤ 120 ∧ lmt (m_c sz) ≤ 400 ∧ A49 46 = m_c sz := o2.elim (fun k => ⟨k.1, k.2.1, k.2.2.2⟩) (fun k => absurd k.2.1 b56); exact ⟨⟨rr9, z3, Or.inr (Or.inr ⟨y0, by rw [y1]; exact cc9.1, by rw [y1]; exact cc9.2.1, b36, o4, by rw [y1]; exact (upl_ne (by decide)).trans cc9.2.2⟩)⟩, rfl, fun y => absurd b36 y, ⟨o5.1.trans zpq.1, o5.2.trans zpq.2⟩⟩)⟩
        · refine k_c1 78 rfl rfl (if_neg b43) ?_
          have b43 : ¬ (n34 = 0) := by have h9 := mt iv_eq0.mpr b43; rw [q35] at h9; exact h9
          exact absurd b36 b43
      · refine k_c1 50 rfl rfl (if_neg b36) ?_
        have b36 : ¬ (n34 = 0) := by have h9 := mt iv_eq0.mpr b36; rw [q35] at h9; exact h9
        refine k_aload 51 rfl (gs_ne rfl rfl rfl) rfl ?_
        refine x_gF 4 I31 54 rfl rfl (by decide) rfl ?_
        refine k_xq I31 rfl (n_X6_place    I31.1) rfl rfl rfl (I31.T.rc oc4 rfl) (okL_set (i := 2) (v := .inl x25) rfl L32) (xo_r I31 oc1 so_n) ?_
        rintro x87 h88 c89 s90 F91 A92 I93 L94 ⟨e95, k96, k97⟩
        replace k96 : F91 = F29 := k96
        replace k97 : A92 = A30 := k97
        replace e95 : x87.toInt = F29 1502 := e95
        replace k96 := k96.symm
        subst k96
        replace k97 := k97.symm
        subst k97
        show am_Ok _ _ _ (57, _, [.inl x87, .inr (.inr (some 1))], _, c89, s90) _
        refine x_pI (fx_ok := fx_no rfl) I93 60 rfl oc1 rfl rfl rfl rfl (fun h98 I99 l100 => ?_)
        have L101 := okL_eq l100 L94
        have I102 : xI h0 (ob_P h0) h98 c89 s90 (up1 F29 113 (F29 1502)) A30 := by have h9 := I99; rw [e95] at h9; exact h9
        refine k_iload 61 rfl gs_eq rfl ?_
        by_cases b103 : x25 = 0
        · refine k_c1 64 rfl rfl (if_pos b103) ?_
          have b103 : n34 = 0 := by have h9 := iv_eq0.mp b103; rw [q35] at h9; exact h9
          have y0 : rr9.1 = 0 := z4.symm.trans b103
          obtain ⟨sz, y1, y2, y3, y4, y5⟩ := z6 y0
          exact absurd b103 b36
        · refine k_c1 78 rfl rfl (if_neg b103) ?_
          have b103 : ¬ (n34 = 0) := by have h9 := mt iv_eq0.mpr b103; rw [q35] at h9; exact h9
          refine k_aload 79 rfl (gs_ne rfl rfl rfl) rfl ?_
          refine x_gF 2 I102 82 rfl rfl (by decide) rfl ?_
          refine k_push 83 rfl rfl ?_
          have hc104 : (0 : Int32).toInt = 0 := by decide
          refine k_xv I102 rfl (y_cut hc104 I102.1 or2) rfl rfl rfl (ty_H.rc3 I102.T or2) L101 so_n ?_
          rintro h106 c107 s108 F109 A110 I111 L112 ⟨k114, k115⟩
          replace k114 := k114.symm
          subst k114
          replace k115 := k115.symm
          subst k115
          show am_Ok _ _ _ (86, _, [], _, c107, s108) _
          refine k_iload 87 rfl gs_eq rfl ?_
          exact k_fin rfl rfl ⟨_, _, _, _, _, _, rfl, I111, (by (try rw [q35]); show CTQ ((A0 2).take n1.toNat) (n34) ((up1 F29 113 (F29 1502)) 113) ((upl A30 2 (cutl (A30 2) (0))) 46) ∧ (upl A30 2 (cutl (A30 2) (0))) 2 = [] ∧ imp ((n34 : Int) ≠ 0) ((upl A30 2 (cutl (A30 2) (0))) 46 = A0 46) ∧ ((up1 F29 113 (F29 1502)) 3202 = F0 3202 ∧ (up1 F29 113 (F29 1502)) 3203 = F0 3203); exact ⟨⟨rr9, z3, Or.inl ⟨fun y => b36 (z4.trans y), z4, z5⟩⟩, rfl, fun _ => (upl_ne (by decide)).trans (z2 46 (by decide) (by decide) (by decide) (by decide)), zpq⟩)⟩
    · refine k_c2 15 rfl rfl (if_neg b13) ?_
      have b13 : ¬ (n1 ≤ (((A0 2).length : Nat) : Int)) := by have h9 := mt iv_le.mpr b13; rw [hn1] at h9; rw [e10] at h9; exact h9
      exact absurd hp (by omega)
end
section
def p_X9_forget_56_56  (F0 : rf_f) (A0 : xl_A) : Int × rf_f × xl_A := (0, (up1 F0 117 (0)), (upl A0 54 (List.replicate (15 : Int).toNat (0))))
theorem n_X9_forget_56_56 {h0 : am_h} {F0 : rf_f} {A0 : xl_A}    (hR : xR h0 F0 A0) : am_Mt 2 150 [.inr (.inr (some 1))] h0 (xV h0 (fun F' A' => F' = (p_X9_forget_56_56 F0 A0).2.1 ∧ A' = (p_X9_forget_56_56 F0 A0).2.2)) := by
  refine am_Mt.of (D := 1) ?_
  have hI : xI h0 (ob_P h0) h0 0 0 F0 A0 := xI.start hR
  have hL : am_okL h0.length (am_args 0 [.inr (.inr (some 1))]) = true := (okA_r hI.T oc1 okA_n)
  refine k_aload 1 rfl rfl rfl ?_
  refine k_push 2 rfl rfl ?_
  have hc1 : (0 : Int32).toInt = 0 := by decide
  refine x_pZ (fx_ok := fx_no rfl) hI 5 rfl oc1 rfl rfl rfl (Or.inl rfl) rfl (fun h2 I3 l4 => ?_)
  have L5 := okL_eq l4 hL
  have I6 : xI h0 (ob_P h0) h2 0 0 (up1 F0 117 (0)) A0 := by have h9 := I3; rw [hc1] at h9; exact h9
  refine k_aload 6 rfl rfl rfl ?_
  refine x_gF 54 I6 9 rfl rfl (by decide) rfl ?_
  refine k_push 11 rfl rfl ?_
  have hc7 : (15 : Int32).toInt = 15 := by decide
  refine k_push 12 rfl rfl ?_
  refine k_xv I6 rfl (y_fill hc7 hc1 I6.1 or54 (by decide) (by decide)) rfl rfl rfl (ty_H.rc3 I6.T or54) L5 so_n ?_
  rintro h9 c10 s11 F12 A13 I14 L15 ⟨k17, k18⟩
  replace k17 := k17.symm
  subst k17
  replace k18 := k18.symm
  subst k18
  show am_Ok _ _ _ (15, _, [], _, c10, s11) _
  exact k_fin rfl rfl ⟨_, _, _, _, _, rfl, I14, rfl, rfl⟩
def p_X9_beginAnew_56_56  (F0 : rf_f) (A0 : xl_A) : Int × rf_f × xl_A := (0, (p_X9_forget_56_56 ((up1 ((p_X1_size_56 F0 ((upl A0 52 (List.replicate (6 : Int).toNat (0))))).2.1) 114 ((p_X1_size_56 F0 ((upl A0 52 (List.replicate (6 : Int).toNat (0))))).1))) ((p_X1_size_56 F0 ((upl A0 52 (List.replicate (6 : Int).toNat (0))))).2.2)).2.1, (p_X9_forget_56_56 ((up1 ((p_X1_size_56 F0 ((upl A0 52 (List.replicate (6 : Int).toNat (0))))).2.1) 114 ((p_X1_size_56 F0 ((upl A0 52 (List.replicate (6 : Int).toNat (0))))).1))) ((p_X1_size_56 F0 ((upl A0 52 (List.replicate (6 : Int).toNat (0))))).2.2)).2.2)
theorem n_X9_beginAnew_56_56 {h0 : am_h} {F0 : rf_f} {A0 : xl_A}   (hn : F0 110 = 56) (hR : xR h0 F0 A0) : am_Mt 3 149 [.inr (.inr (some 1))] h0 (xV h0 (fun F' A' => F' = (p_X9_beginAnew_56_56 F0 A0).2.1 ∧ A' = (p_X9_beginAnew_56_56 F0 A0).2.2)) := by
  refine am_Mt.of (D := 2) ?_
  have hI : xI h0 (ob_P h0) h0 0 0 F0 A0 := xI.start hR
  have hL : am_okL h0.length (am_args 0 [.inr (.inr (some 1))]) = true := (okA_r hI.T oc1 okA_n)
  refine k_aload 1 rfl rfl rfl ?_
  refine x_gF 52 hI 4 rfl rfl (by decide) rfl ?_
  refine k_push 6 rfl rfl ?_
  have hc1 : (6 : Int32).toInt = 6 := by decide
  refine k_push 7 rfl rfl ?_
  have hc2 : (0 : Int32).toInt = 0 := by decide
  refine k_xv hI rfl (y_fill hc1 hc2 hI.1 or52 (by decide) (by decide)) rfl rfl rfl (ty_H.rc3 hI.T or52) hL so_n ?_
  rintro h4 c5 s6 F7 A8 I9 L10 ⟨k12, k13⟩
  replace k12 := k12.symm
  subst k12
  replace k13 := k13.symm
  subst k13
  show am_Ok _ _ _ (10, _, [], _, c5, s6) _
  refine k_aload 11 rfl rfl rfl ?_
  refine k_aload 12 rfl rfl rfl ?_
  refine x_gO (τ := 1) I9 15 rfl oc1 rfl rfl rfl rfl (fun r14 (e15 : (r14 : Int) = F0 110) o16 => ?_)
  obtain rfl : r14 = 56 := by omega
  refine k_xq I9 rfl (n_X1_size_56    I9.1) rfl rfl rfl (I9.T.rc oc56 rfl) L10 (xo_r I9 oc1 so_n) ?_
  rintro x17 h18 c19 s20 F21 A22 I23 L24 ⟨e25, k26, k27⟩
  replace k26 := k26.symm
  subst k26
  replace k27 := k27.symm
  subst k27
  show am_Ok _ _ _ (18, _, [.inl x17, .inr (.inr (some 1))], _, c19, s20) _
  refine x_pI (fx_ok := fx_no rfl) I23 21 rfl oc1 rfl rfl rfl rfl (fun h28 I29 l30 => ?_)
  have L31 := okL_eq l30 L24
  have I32 : xI h0 (ob_P h0) h28 c19 s20 (up1 ((p_X1_size_56 F0 ((upl A0 52 (List.replicate (6 : Int).toNat (0))))).2.1) 114 ((p_X1_size_56 F0 ((upl A0 52 (List.replicate (6 : Int).toNat (0))))).1)) (p_X1_size_56 F0 ((upl A0 52 (List.replicate (6 : Int).toNat (0))))).2.2 := by have h9 := I29; rw [e25] at h9; exact h9
  refine k_aload 22 rfl rfl rfl ?_
  refine k_xv I32 rfl (n_X9_forget_56_56    I32.1) rfl rfl rfl (I32.T.rc oc1 rfl) L31 so_n ?_
  rintro h34 c35 s36 F37 A38 I39 L40 ⟨k42, k43⟩
  replace k42 := k42.symm
  subst k42
  replace k43 := k43.symm
  subst k43
  show am_Ok _ _ _ (25, _, [], _, c35, s36) _
  exact k_fin rfl rfl ⟨_, _, _, _, _, rfl, I39, rfl, rfl⟩
theorem n_X9_takeProgram_56_56 {h0 : am_h} {F0 : rf_f} {A0 : xl_A}   (T : List Int) (sz : mS) (hC : CLr T F0 A0 sz) (he : m_e sz ≤ (T.length : Int)) (hn : F0 110 = 56) (hs : F0 111 = 56) (hR : xR h0 F0 A0) : am_Mt 6 148 [.inr (.inr (some 1))] h0 (xQ h0 (fun x F' A' => TPQ (m_c sz) F0 A0 (x) (F') (A'))) := by
  refine am_Mt.of (D := 5) ?_
  have hI : xI h0 (ob_P h0) h0 0 0 F0 A0 := xI.start hR
  have hL : am_okL h0.length (am_args 0 [.inr (.inr (some 1))]) = true := (okA_r hI.T oc1 okA_n)
  refine k_aload 1 rfl rfl rfl ?_
  refine x_gF 4 hI 4 rfl rfl (by decide) rfl ?_
  refine k_aload 5 rfl rfl rfl ?_
  refine x_gF 48 hI 8 rfl rfl (by decide) rfl ?_
  refine k_xq hI rfl (n_X6_putTerm   (T) (sz) (by exact hC) (by exact he) hI.1) rfl rfl rfl (hI.T.rc oc4 rfl) hL so_n ?_
  rintro x1 h2 c3 s4 F5 A6 I7 L8 e9
  have z12 := iv_01 (x := x1) (e9.1)
  obtain ⟨n10, q11⟩ : ∃ n : Int, x1.toInt = n := ⟨_, rfl⟩
  try rw [q11] at e9
  show am_Ok _ _ _ (11, _, [.inl x1], _, c3, s4) _
  obtain ⟨u1, u2, u3, u4⟩ := e9
  have f10 : F5 110 = 56 := by rw [u2]; exact hn
  have f11 : F5 111 = 56 := by rw [u2]; exact hs
  have f13 : F5 113 = F0 113 := by rw [u2]
  have fpq : F5 3202 = F0 3202 ∧ F5 3203 = F0 3203 := by rw [u2]; exact ⟨rfl, rfl⟩
  have aa2 : A6 2 = A0 2 := u3 2 (by decide) (by decide)
  have aa46 : A6 46 = A0 46 := u3 46 (by decide) (by decide)
  by_cases b13 : x1 = 0
  · refine k_c1 32 rfl rfl (if_pos b13) ?_
    have b13 : n10 = 0 := by have h9 := iv_eq0.mp b13; rw [q11] at h9; exact h9
    refine k_push 33 rfl rfl ?_
    have hc14 : (0 : Int32).toInt = 0 := by decide
    exact k_fin rfl (fin_Z (Or.inl rfl)) ⟨_, _, _, _, _, _, rfl, I7, (by (try rw [hc14]); show TPQ (m_c sz) F0 A0 (0) (F5) (A6); have cc9 : 120 < (m_c sz).length := u4.elim (fun y => absurd (b13.symm.trans y.2.1) (by decide)) (fun y => y.1); exact ⟨Or.inl rfl, Or.inr ⟨Or.inl cc9, rfl, aa46⟩, aa2, f13, fpq⟩)⟩
  · refine k_c1 14 rfl rfl (if_neg b13) ?_
    have b13 : ¬ (n10 = 0) := by have h9 := mt iv_eq0.mpr b13; rw [q11] at h9; exact h9
    have aa48 : A6 48 = m_c sz ∧ (m_c sz).length ≤ 120 := u4.elim (fun y => ⟨y.2.2, y.1⟩) (fun y => absurd y.2 b13)
    refine k_aload 15 rfl rfl rfl ?_
    refine x_gF 74 I7 18 rfl rfl (by decide) rfl ?_
    refine k_aload 19 rfl rfl rfl ?_
    refine x_gF 48 I7 22 rfl rfl (by decide) rfl ?_
    refine k_aload 23 rfl rfl rfl ?_
    refine x_gO (τ := 1) I7 26 rfl oc1 rfl rfl rfl rfl (fun r15 (e16 : (r15 : Int) = F5 111) o17 => ?_)
    obtain rfl : r15 = 56 := by omega
    refine k_xq I7 rfl (n_X0_lay_56   (by (rw [aa48.1]; exact cl_nn hC)) (by (rw [aa48.1]; exact aa48.2)) I7.1) rfl rfl rfl (I7.T.rc oc74 rfl) L8 so_n ?_
    rintro x18 h19 c20 s21 F22 A23 I24 L25 e26
    have z29 := iv_01 (x := x18) (e26.1)
    obtain ⟨n27, q28⟩ : ∃ n : Int, x18.toInt = n := ⟨_, rfl⟩
    try rw [q28] at e26
    show am_Ok _ _ _ (29, _, [.inl x18], _, c20, s21) _
    obtain ⟨v1, v2, v3, v4⟩ := e26
    rw [aa48.1] at v2
    by_cases b30 : x18 = 0
    · refine k_c1 32 rfl rfl (if_pos b30) ?_
      have b30 : n27 = 0 := by have h9 := iv_eq0.mp b30; rw [q28] at h9; exact h9
      refine k_push 33 rfl rfl ?_
      have hc31 : (0 : Int32).toInt = 0 := by decide
      exact k_fin rfl (fin_Z (Or.inl rfl)) ⟨_, _, _, _, _, _, rfl, I24, (by (try rw [hc31]); show TPQ (m_c sz) F0 A0 (0) (F22) (A23); have cc9 : 400 < lmt (m_c sz) := v2.elim (fun y => absurd (b30.symm.trans y.2) (by decide)) (fun y => y.1); exact ⟨Or.inl rfl, Or.inr ⟨Or.inr cc9, rfl, (v4 46 (by decide)).trans aa46⟩, (v4 2 (by decide)).trans aa2, (v3 113 (by decide)).trans f13, ⟨(v3 3202 (by decide)).trans fpq.1, (v3 3203 (by decide)).trans fpq.2⟩⟩)⟩
    · refine k_c1 34 rfl rfl (if_neg b30) ?_
      have b30 : ¬ (n27 = 0) := by have h9 := mt iv_eq0.mpr b30; rw [q28] at h9; exact h9
      have g10 : F22 110 = 56 := (v3 110 (by decide)).trans f10
      have g11 : F22 111 = 56 := (v3 111 (by decide)).trans f11
      have g13 : F22 113 = F0 113 := (v3 113 (by decide)).trans f13
      have gpq : F22 3202 = F0 3202 ∧ F22 3203 = F0 3203 := ⟨(v3 3202 (by decide)).trans fpq.1, (v3 3203 (by decide)).trans fpq.2⟩
      have bb2 : A23 2 = A0 2 := (v4 2 (by decide)).trans aa2
      have bb48 : A23 48 = m_c sz := (v4 48 (by decide)).trans aa48.1
      have ll48 : ((A23 48).length : Int) ≤ (ob_mo 46).toInt := by rw [bb48, mo46]; have h9 := aa48.2; omega
      refine k_aload 35 rfl rfl rfl ?_
      refine x_gO (τ := 1) I24 38 rfl oc1 rfl rfl rfl rfl (fun r32 (e33 : (r32 : Int) = F22 110) o34 => ?_)
      obtain rfl : r32 = 56 := by omega
      refine k_astore 39 rfl rfl ?_
      refine k_aload 40 rfl (gs_ne rfl rfl rfl) rfl ?_
      refine k_aload 41 rfl (gs_ne rfl rfl rfl) rfl ?_
      refine x_gO (τ := 1) I24 44 rfl oc1 rfl rfl rfl rfl (fun r35 (e36 : (r35 : Int) = F22 111) o37 => ?_)
      obtain rfl : r35 = 56 := by omega
      refine x_pO (τ := 1) (fx_ok := fx_no rfl) I24 47 rfl oc1 rfl rfl rfl oc56 rfl (fun h38 I39 l40 => ?_)
      have L41 := okL_eq l40 (okL_set (i := 1) (v := .inr (.inr (some 56))) (xo_v I24 oc56) L25)
      refine k_aload 48 rfl (gs_ne rfl rfl rfl) rfl ?_
      refine k_aload 49 rfl gs_eq rfl ?_
      refine x_pO (τ := 1) (fx_ok := fx_no rfl) I39 52 rfl oc1 rfl rfl rfl oc56 rfl (fun h42 I43 l44 => ?_)
      have L45 := okL_eq l44 L41
      refine k_aload 53 rfl (gs_ne rfl rfl rfl) rfl ?_
      refine x_gF 46 I43 56 rfl rfl (by decide) rfl ?_
      refine k_aload 57 rfl (gs_ne rfl rfl rfl) rfl ?_
      refine x_gF 48 I43 60 rfl rfl (by decide) rfl ?_
      refine k_xv I43 rfl (xw_copy I43.1 or46 or48 ll48) rfl rfl rfl (ty_H.rc3 I43.T or46) L45 so_n ?_
      rintro h47 c48 s49 F50 A51 I52 L53 ⟨k55, k56⟩
      replace k55 := k55.symm
      subst k55
      replace k56 := k56.symm
      subst k56
      show am_Ok _ _ _ (63, _, [], _, c48, s49) _
      refine k_aload 64 rfl (gs_ne rfl rfl rfl) rfl ?_
      refine k_push 65 rfl rfl ?_
      have hc57 : (0 : Int32).toInt = 0 := by decide
      refine x_pZ (fx_ok := fx_no rfl) I52 68 rfl oc1 rfl rfl rfl (Or.inl rfl) rfl (fun h58 I59 l60 => ?_)
      have L61 := okL_eq l60 L53
      have I62 : xI h0 (ob_P h0) h58 c48 s49 (up1 ((up1 (up1 F22 110 ((56 : Nat) : Int)) 111 ((56 : Nat) : Int))) 116 (0)) (upl A23 46 (A23 48)) := by have h9 := I59; rw [hc57] at h9; exact h9
      refine k_aload 69 rfl (gs_ne rfl rfl rfl) rfl ?_
      refine k_xv I62 rfl (n_X9_beginAnew_56_56   (by rfl) I62.1) rfl rfl rfl (I62.T.rc oc1 rfl) L61 so_n ?_
      rintro h64 c65 s66 F67 A68 I69 L70 ⟨k72, k73⟩
      replace k72 := k72.symm
      subst k72
      replace k73 := k73.symm
      subst k73
      show am_Ok _ _ _ (72, _, [], _, c65, s66) _
      refine k_push 73 rfl rfl ?_
      have hc74 : (1 : Int32).toInt = 1 := by decide
      exact k_fin rfl (fin_Z (Or.inr rfl)) ⟨_, _, _, _, _, _, rfl, I69, (by (try rw [hc74]); show TPQ (m_c sz) F0 A0 (1) ((p_X9_beginAnew_56_56 ((up1 ((up1 (up1 F22 110 ((56 : Nat) : Int)) 111 ((56 : Nat) : Int))) 116 (0))) (upl A23 46 (A23 48))).2.1) ((p_X9_beginAnew_56_56 ((up1 ((up1 (up1 F22 110 ((56 : Nat) : Int)) 111 ((56 : Nat) : Int))) 116 (0))) (upl A23 46 (A23 48))).2.2); have cc9 : lmt (m_c sz) ≤ 400 := v2.elim (fun y => y.1) (fun y => absurd y.2 b30); exact ⟨Or.inr rfl, Or.inl ⟨aa48.2, cc9, rfl, bb48⟩, bb2, g13, gpq⟩)⟩
theorem n_X9_tell_56_56 {h0 : am_h} {F0 : rf_f} {A0 : xl_A} {w1 : Int32} {n1 : Int} (hn1 : w1.toInt = n1)  (hp : 0 ≤ n1 ∧ n1 ≤ ((A0 2).length : Int)) (hl : ((A0 2).length : Int) ≤ 700) (hn : F0 110 = 56) (hs : F0 111 = 56) (hR : xR h0 F0 A0) : am_Mt 8 131 [.inr (.inr (some 1)), .inl w1] h0 (xQ h0 (fun x F' A' => CTQ ((A0 2).take n1.toNat) (x) (F' 113) (A' 46) ∧ A' 2 = [] ∧ imp ((x : Int) ≠ 0) (A' 46 = A0 46) ∧ (F' 3202 = F0 3202 ∧ F' 3203 = F0 3203))) := by
  refine am_Mt.of (D := 7) ?_
  have hI : xI h0 (ob_P h0) h0 0 0 F0 A0 := xI.start hR
  have hL : am_okL h0.length (am_args 0 [.inr (.inr (some 1)), .inl w1]) = true := (okA_r hI.T oc1 (okA_i okA_n))
  refine k_iload 1 rfl rfl rfl ?_
  by_cases b1 : w1 < 0
  · refine k_c1 15 rfl rfl (if_pos b1) ?_
    have b1 : n1 < 0 := by have h9 := iv_lt0.mp b1; rw [hn1] at h9; exact h9
    exact absurd hp (by omega)
  · refine k_c1 4 rfl rfl (if_neg b1) ?_
    have b1 : ¬ (n1 < 0) := by have h9 := mt iv_lt0.mpr b1; rw [hn1] at h9; exact h9
    refine k_iload 5 rfl rfl rfl ?_
    refine k_aload 6 rfl rfl rfl ?_
    refine x_gF 2 hI 9 rfl rfl (by decide) rfl ?_
    refine k_xq hI rfl (xv_size hI.1 or2) rfl rfl rfl (ty_H.rc3 hI.T or2) hL (so_i so_n) ?_
    rintro x2 h3 c4 s5 F6 A7 I8 L9 ⟨e10, k11, k12⟩
    replace k11 := k11.symm
    subst k11
    replace k12 := k12.symm
    subst k12
    show am_Ok _ _ _ (12, _, [.inl x2, .inl w1], _, c4, s5) _
    by_cases b13 : w1 ≤ x2
    · refine k_c2 25 rfl rfl (if_pos b13) ?_
      have b13 : n1 ≤ (((A0 2).length : Nat) : Int) := by have h9 := iv_le.mp b13; rw [hn1] at h9; rw [e10] at h9; exact h9
      refine k_aload 26 rfl rfl rfl ?_
      refine x_gF 2 I8 29 rfl rfl (by decide) rfl ?_
      refine k_iload 30 rfl rfl rfl ?_
      refine k_xv I8 rfl (y_cut hn1 I8.1 or2) rfl rfl rfl (ty_H.rc3 I8.T or2) L9 so_n ?_
      rintro h15 c16 s17 F18 A19 I20 L21 ⟨k23, k24⟩
      replace k23 := k23.symm
      subst k23
      replace k24 := k24.symm
      subst k24
      show am_Ok _ _ _ (33, _, [], _, c16, s17) _
      have t9 : cutl (A0 2) n1 = (A0 2).take n1.toNat := if_pos hp.1
      have tl : (((A0 2).take n1.toNat).length : Int) = n1 := by rw [List.length_take]; omega
      refine k_aload 34 rfl rfl rfl ?_
      refine x_gF 4 I20 37 rfl rfl (by decide) rfl ?_
      refine k_xq I20 rfl (n_X6_findFault   (by (show ((cutl (A0 2) (n1)).length : Int) ≤ 700; rw [t9, tl]; omega)) I20.1) rfl rfl rfl (I20.T.rc oc4 rfl) L21 so_n ?_
      rintro x25 h26 c27 s28 F29 A30 I31 L32 e33
      obtain ⟨n34, q35⟩ : ∃ n : Int, x25.toInt = n := ⟨_, rfl⟩
      try rw [q35] at e33
      show am_Ok _ _ _ (40, _, [.inl x25], _, c27, s28) _
      obtain ⟨⟨z1, z2⟩, rr9, z3, z4, z5, z6⟩ := e33
      rw [upl_eq, t9] at z3 z6
      have zpq : F29 3202 = F0 3202 ∧ F29 3203 = F0 3203 := ⟨(z1 3202 (by omega) (by omega)), (z1 3203 (by omega) (by omega))⟩
      refine k_istore 41 rfl rfl ?_
      refine k_aload 42 rfl (gs_ne rfl rfl rfl) rfl ?_
      refine k_iload 43 rfl gs_eq rfl ?_
      by_cases b36 : x25 = 0
      · refine k_c1 46 rfl rfl (if_pos b36) ?_
        have b36 : n34 = 0 := by have h9 := iv_eq0.mp b36; rw [q35] at h9; exact h9
        refine k_push 47 rfl rfl ?_
        have hc37 : (-1 : Int32).toInt = -1 := by decide
        refine k_goto 57 rfl rfl ?_
        refine x_pI (fx_ok := fx_no rfl) I31 60 rfl oc1 rfl rfl rfl rfl (fun h38 I39 l40 => ?_)
        have L41 := okL_eq l40 (okL_set (i := 2) (v := .inl x25) rfl L32)
        have I42 : xI h0 (ob_P h0) h38 c27 s28 (up1 F29 113 ((-1))) A30 := by have h9 := I39; rw [hc37] at h9; exact h9
        refine k_iload 61 rfl gs_eq rfl ?_
        by_cases b43 : x25 = 0
        · refine k_c1 64 rfl rfl (if_pos b43) ?_
          have b43 : n34 = 0 := by have h9 := iv_eq0.mp b43; rw [q35] at h9; exact h9
          have y0 : rr9.1 = 0 := z4.symm.trans b43
          obtain ⟨sz, y1, y2, y3, y4, y5⟩ := z6 y0
          refine k_aload 65 rfl (gs_ne rfl rfl rfl) rfl ?_
          refine k_xq I42 rfl (n_X9_takeProgram_56_56   (((A0 2).take n1.toNat)) (sz) (by exact CLq.cg y2 rfl rfl rfl rfl rfl rfl) (by exact y3) (by exact (z1 110 (by omega) (by omega)).trans hn) (by exact (z1 111 (by omega) (by omega)).trans hs) I42.1) rfl rfl rfl (I42.T.rc oc1 rfl) L41 so_n ?_
          rintro x44 h45 c46 s47 F48 A49 I50 L51 e52
          have z55 := iv_01 (x := x44) (e52.1)
          obtain ⟨n53, q54⟩ : ∃ n : Int, x44.toInt = n := ⟨_, rfl⟩
          try rw [q54] at e52
          show am_Ok _ _ _ (68, _, [.inl x44], _, c46, s47) _
          obtain ⟨o1, o2, o3, o4, o5⟩ := e52
          by_cases b56 : x44 = 0
          · refine k_c1 71 rfl rfl (if_pos b56) ?_
            have b56 : n53 = 0 := by have h9 := iv_eq0.mp b56; rw [q54] at h9; exact h9
            refine k_push 72 rfl rfl ?_
            have hc57 : (5 : Int32).toInt = 5 := by decide
            refine k_istore 73 rfl rfl ?_
            refine k_aload 74 rfl (gs_ne rfl rfl (gs_ne rfl rfl rfl)) rfl ?_
            refine k_iload 75 rfl (gs_ne rfl rfl (gs_ne rfl rfl rfl)) rfl ?_
            refine x_pI (fx_ok := fx_no rfl) I50 78 rfl oc1 rfl rfl rfl rfl (fun h58 I59 l60 => ?_)
            have L61 := okL_eq l60 (okL_set (i := 2) (v := .inl (5 : Int32)) rfl L51)
            have I62 : xI h0 (ob_P h0) h58 c46 s47 (up1 F48 113 (n1)) A49 := by have h9 := I59; rw [hn1] at h9; exact h9
            refine k_aload 79 rfl (gs_ne rfl rfl (gs_ne rfl rfl rfl)) rfl ?_
            refine x_gF 2 I62 82 rfl rfl (by decide) rfl ?_
            refine k_push 83 rfl rfl ?_
            have hc63 : (0 : Int32).toInt = 0 := by decide
            refine k_xv I62 rfl (y_cut hc63 I62.1 or2) rfl rfl rfl (ty_H.rc3 I62.T or2) L61 so_n ?_
            rintro h65 c66 s67 F68 A69 I70 L71 ⟨k73, k74⟩
            replace k73 := k73.symm
            subst k73
            replace k74 := k74.symm
            subst k74
            show am_Ok _ _ _ (86, _, [], _, c66, s67) _
            refine k_iload 87 rfl gs_eq rfl ?_
            exact k_fin rfl rfl ⟨_, _, _, _, _, _, rfl, I70, (by (try rw [hc57]); show CTQ ((A0 2).take n1.toNat) (5) ((up1 F48 113 (n1)) 113) ((upl A49 2 (cutl (A49 2) (0))) 46) ∧ (upl A49 2 (cutl (A49 2) (0))) 2 = [] ∧ imp ((5 : Int) ≠ 0) ((upl A49 2 (cutl (A49 2) (0))) 46 = A0 46) ∧ ((up1 F48 113 (n1)) 3202 = F0 3202 ∧ (up1 F48 113 (n1)) 3203 = F0 3203); have cc9 : (120 < (m_c sz).length ∨ 400 < lmt (m_c sz)) ∧ A49 46 = A30 46 := o2.elim (fun k => absurd (b56.symm.trans k.2.2.1) (by decide)) (fun k => ⟨k.1, k.2.2⟩); exact ⟨⟨rr9, z3, Or.inr (Or.inl ⟨y0, by rw [y1]; exact cc9.1, rfl, tl.symm⟩)⟩, rfl, fun _ => (upl_ne (by decide)).trans (cc9.2.trans (z2 46 (by decide) (by decide) (by decide) (by decide))), ⟨o5.1.trans zpq.1, o5.2.trans zpq.2⟩⟩)⟩
          · refine k_c1 78 rfl rfl (if_neg b56) ?_
            have b56 : ¬ (n53 = 0) := by have h9 := mt iv_eq0.mpr b56; rw [q54] at h9; exact h9
            refine k_aload 79 rfl (gs_ne rfl rfl rfl) rfl ?_
            refine x_gF 2 I50 82 rfl rfl (by decide) rfl ?_
            refine k_push 83 rfl rfl ?_
            have hc75 : (0 : Int32).toInt = 0 := by decide
            refine k_xv I50 rfl (y_cut hc75 I50.1 or2) rfl rfl rfl (ty_H.rc3 I50.T or2) L51 so_n ?_
            rintro h77 c78 s79 F80 A81 I82 L83 ⟨k85, k86⟩
            replace k85 := k85.symm
            subst k85
            replace k86 := k86.symm
            subst k86
            show am_Ok _ _ _ (86, _, [], _, c78, s79) _
            refine k_iload 87 rfl gs_eq rfl ?_
            exact k_fin rfl rfl ⟨_, _, _, _, _, _, rfl, I82, (by (try rw [q35]); show CTQ ((A0 2).take n1.toNat) (n34) (F48 113) ((upl A49 2 (cutl (A49 2) (0))) 46) ∧ (upl A49 2 (cutl (A49 2) (0))) 2 = [] ∧ imp ((n34 : Int) ≠ 0) ((upl A49 2 (cutl (A49 2) (0))) 46 = A0 46) ∧ (F48 3202 = F0 3202 ∧ F48 3203 = F0 3203); have cc9 : (m_c sz).length ≤ 120 ∧ lmt (m_c sz) ≤ 400 ∧ A49 46 = m_c sz := o2.elim (fun k => ⟨k.1, k.2.1, k.2.2.2⟩) (fun k => absurd k.2.1 b56); exact ⟨⟨rr9, z3, Or.inr (Or.inr ⟨y0, by rw [y1]; exact cc9.1, by rw [y1]; exact cc9.2.1, b36, o4, by rw [y1]; exact (upl_ne (by decide)).trans cc9.2.2⟩)⟩, rfl, fun y => absurd b36 y, ⟨o5.1.trans zpq.1, o5.2.trans zpq.2⟩⟩)⟩
        · refine k_c1 78 rfl rfl (if_neg b43) ?_
          have b43 : ¬ (n34 = 0) := by have h9 := mt iv_eq0.mpr b43; rw [q35] at h9; exact h9
          exact absurd b36 b43
      · refine k_c1 50 rfl rfl (if_neg b36) ?_
        have b36 : ¬ (n34 = 0) := by have h9 := mt iv_eq0.mpr b36; rw [q35] at h9; exact h9
        refine k_aload 51 rfl (gs_ne rfl rfl rfl) rfl ?_
        refine x_gF 4 I31 54 rfl rfl (by decide) rfl ?_
        refine k_xq I31 rfl (n_X6_place    I31.1) rfl rfl rfl (I31.T.rc oc4 rfl) (okL_set (i := 2) (v := .inl x25) rfl L32) (xo_r I31 oc1 so_n) ?_
        rintro x87 h88 c89 s90 F91 A92 I93 L94 ⟨e95, k96, k97⟩
        replace k96 : F91 = F29 := k96
        replace k97 : A92 = A30 := k97
        replace e95 : x87.toInt = F29 1502 := e95
        replace k96 := k96.symm
        subst k96
        replace k97 := k97.symm
        subst k97
        show am_Ok _ _ _ (57, _, [.inl x87, .inr (.inr (some 1))], _, c89, s90) _
        refine x_pI (fx_ok := fx_no rfl) I93 60 rfl oc1 rfl rfl rfl rfl (fun h98 I99 l100 => ?_)
        have L101 := okL_eq l100 L94
        have I102 : xI h0 (ob_P h0) h98 c89 s90 (up1 F29 113 (F29 1502)) A30 := by have h9 := I99; rw [e95] at h9; exact h9
        refine k_iload 61 rfl gs_eq rfl ?_
        by_cases b103 : x25 = 0
        · refine k_c1 64 rfl rfl (if_pos b103) ?_
          have b103 : n34 = 0 := by have h9 := iv_eq0.mp b103; rw [q35] at h9; exact h9
          have y0 : rr9.1 = 0 := z4.symm.trans b103
          obtain ⟨sz, y1, y2, y3, y4, y5⟩ := z6 y0
          exact absurd b103 b36
        · refine k_c1 78 rfl rfl (if_neg b103) ?_
          have b103 : ¬ (n34 = 0) := by have h9 := mt iv_eq0.mpr b103; rw [q35] at h9; exact h9
          refine k_aload 79 rfl (gs_ne rfl rfl rfl) rfl ?_
          refine x_gF 2 I102 82 rfl rfl (by decide) rfl ?_
          refine k_push 83 rfl rfl ?_
          have hc104 : (0 : Int32).toInt = 0 := by decide
          refine k_xv I102 rfl (y_cut hc104 I102.1 or2) rfl rfl rfl (ty_H.rc3 I102.T or2) L101 so_n ?_
          rintro h106 c107 s108 F109 A110 I111 L112 ⟨k114, k115⟩
          replace k114 := k114.symm
          subst k114
          replace k115 := k115.symm
          subst k115
          show am_Ok _ _ _ (86, _, [], _, c107, s108) _
          refine k_iload 87 rfl gs_eq rfl ?_
          exact k_fin rfl rfl ⟨_, _, _, _, _, _, rfl, I111, (by (try rw [q35]); show CTQ ((A0 2).take n1.toNat) (n34) ((up1 F29 113 (F29 1502)) 113) ((upl A30 2 (cutl (A30 2) (0))) 46) ∧ (upl A30 2 (cutl (A30 2) (0))) 2 = [] ∧ imp ((n34 : Int) ≠ 0) ((upl A30 2 (cutl (A30 2) (0))) 46 = A0 46) ∧ ((up1 F29 113 (F29 1502)) 3202 = F0 3202 ∧ (up1 F29 113 (F29 1502)) 3203 = F0 3203); exact ⟨⟨rr9, z3, Or.inl ⟨fun y => b36 (z4.trans y), z4, z5⟩⟩, rfl, fun _ => (upl_ne (by decide)).trans (z2 46 (by decide) (by decide) (by decide) (by decide)), zpq⟩)⟩
    · refine k_c2 15 rfl rfl (if_neg b13) ?_
      have b13 : ¬ (n1 ≤ (((A0 2).length : Nat) : Int)) := by have h9 := mt iv_le.mpr b13; rw [hn1] at h9; rw [e10] at h9; exact h9
      exact absurd hp (by omega)
end
section
def p_X9_forget_65_65  (F0 : rf_f) (A0 : xl_A) : Int × rf_f × xl_A := (0, (up1 F0 117 (0)), (upl A0 54 (List.replicate (15 : Int).toNat (0))))
theorem n_X9_forget_65_65 {h0 : am_h} {F0 : rf_f} {A0 : xl_A}    (hR : xR h0 F0 A0) : am_Mt 2 150 [.inr (.inr (some 1))] h0 (xV h0 (fun F' A' => F' = (p_X9_forget_65_65 F0 A0).2.1 ∧ A' = (p_X9_forget_65_65 F0 A0).2.2)) := by
  refine am_Mt.of (D := 1) ?_
  have hI : xI h0 (ob_P h0) h0 0 0 F0 A0 := xI.start hR
  have hL : am_okL h0.length (am_args 0 [.inr (.inr (some 1))]) = true := (okA_r hI.T oc1 okA_n)
  refine k_aload 1 rfl rfl rfl ?_
  refine k_push 2 rfl rfl ?_
  have hc1 : (0 : Int32).toInt = 0 := by decide
  refine x_pZ (fx_ok := fx_no rfl) hI 5 rfl oc1 rfl rfl rfl (Or.inl rfl) rfl (fun h2 I3 l4 => ?_)
  have L5 := okL_eq l4 hL
  have I6 : xI h0 (ob_P h0) h2 0 0 (up1 F0 117 (0)) A0 := by have h9 := I3; rw [hc1] at h9; exact h9
  refine k_aload 6 rfl rfl rfl ?_
  refine x_gF 54 I6 9 rfl rfl (by decide) rfl ?_
  refine k_push 11 rfl rfl ?_
  have hc7 : (15 : Int32).toInt = 15 := by decide
  refine k_push 12 rfl rfl ?_
  refine k_xv I6 rfl (y_fill hc7 hc1 I6.1 or54 (by decide) (by decide)) rfl rfl rfl (ty_H.rc3 I6.T or54) L5 so_n ?_
  rintro h9 c10 s11 F12 A13 I14 L15 ⟨k17, k18⟩
  replace k17 := k17.symm
  subst k17
  replace k18 := k18.symm
  subst k18
  show am_Ok _ _ _ (15, _, [], _, c10, s11) _
  exact k_fin rfl rfl ⟨_, _, _, _, _, rfl, I14, rfl, rfl⟩
def p_X9_beginAnew_65_65  (F0 : rf_f) (A0 : xl_A) : Int × rf_f × xl_A := (0, (p_X9_forget_65_65 ((up1 ((p_X1_size_65 F0 ((upl A0 52 (List.replicate (6 : Int).toNat (0))))).2.1) 114 ((p_X1_size_65 F0 ((upl A0 52 (List.replicate (6 : Int).toNat (0))))).1))) ((p_X1_size_65 F0 ((upl A0 52 (List.replicate (6 : Int).toNat (0))))).2.2)).2.1, (p_X9_forget_65_65 ((up1 ((p_X1_size_65 F0 ((upl A0 52 (List.replicate (6 : Int).toNat (0))))).2.1) 114 ((p_X1_size_65 F0 ((upl A0 52 (List.replicate (6 : Int).toNat (0))))).1))) ((p_X1_size_65 F0 ((upl A0 52 (List.replicate (6 : Int).toNat (0))))).2.2)).2.2)
theorem n_X9_beginAnew_65_65 {h0 : am_h} {F0 : rf_f} {A0 : xl_A}   (hn : F0 110 = 65) (hR : xR h0 F0 A0) : am_Mt 3 149 [.inr (.inr (some 1))] h0 (xV h0 (fun F' A' => F' = (p_X9_beginAnew_65_65 F0 A0).2.1 ∧ A' = (p_X9_beginAnew_65_65 F0 A0).2.2)) := by
  refine am_Mt.of (D := 2) ?_
  have hI : xI h0 (ob_P h0) h0 0 0 F0 A0 := xI.start hR
  have hL : am_okL h0.length (am_args 0 [.inr (.inr (some 1))]) = true := (okA_r hI.T oc1 okA_n)
  refine k_aload 1 rfl rfl rfl ?_
  refine x_gF 52 hI 4 rfl rfl (by decide) rfl ?_
  refine k_push 6 rfl rfl ?_
  have hc1 : (6 : Int32).toInt = 6 := by decide
  refine k_push 7 rfl rfl ?_
  have hc2 : (0 : Int32).toInt = 0 := by decide
  refine k_xv hI rfl (y_fill hc1 hc2 hI.1 or52 (by decide) (by decide)) rfl rfl rfl (ty_H.rc3 hI.T or52) hL so_n ?_
  rintro h4 c5 s6 F7 A8 I9 L10 ⟨k12, k13⟩
  replace k12 := k12.symm
  subst k12
  replace k13 := k13.symm
  subst k13
  show am_Ok _ _ _ (10, _, [], _, c5, s6) _
  refine k_aload 11 rfl rfl rfl ?_
  refine k_aload 12 rfl rfl rfl ?_
  refine x_gO (τ := 1) I9 15 rfl oc1 rfl rfl rfl rfl (fun r14 (e15 : (r14 : Int) = F0 110) o16 => ?_)
  obtain rfl : r14 = 65 := by omega
  refine k_xq I9 rfl (n_X1_size_65    I9.1) rfl rfl rfl (I9.T.rc oc65 rfl) L10 (xo_r I9 oc1 so_n) ?_
  rintro x17 h18 c19 s20 F21 A22 I23 L24 ⟨e25, k26, k27⟩
  replace k26 := k26.symm
  subst k26
  replace k27 := k27.symm
  subst k27
  show am_Ok _ _ _ (18, _, [.inl x17, .inr (.inr (some 1))], _, c19, s20) _
  refine x_pI (fx_ok := fx_no rfl) I23 21 rfl oc1 rfl rfl rfl rfl (fun h28 I29 l30 => ?_)
  have L31 := okL_eq l30 L24
  have I32 : xI h0 (ob_P h0) h28 c19 s20 (up1 ((p_X1_size_65 F0 ((upl A0 52 (List.replicate (6 : Int).toNat (0))))).2.1) 114 ((p_X1_size_65 F0 ((upl A0 52 (List.replicate (6 : Int).toNat (0))))).1)) (p_X1_size_65 F0 ((upl A0 52 (List.replicate (6 : Int).toNat (0))))).2.2 := by have h9 := I29; rw [e25] at h9; exact h9
  refine k_aload 22 rfl rfl rfl ?_
  refine k_xv I32 rfl (n_X9_forget_65_65    I32.1) rfl rfl rfl (I32.T.rc oc1 rfl) L31 so_n ?_
  rintro h34 c35 s36 F37 A38 I39 L40 ⟨k42, k43⟩
  replace k42 := k42.symm
  subst k42
  replace k43 := k43.symm
  subst k43
  show am_Ok _ _ _ (25, _, [], _, c35, s36) _
  exact k_fin rfl rfl ⟨_, _, _, _, _, rfl, I39, rfl, rfl⟩
theorem n_X9_takeProgram_65_65 {h0 : am_h} {F0 : rf_f} {A0 : xl_A}   (T : List Int) (sz : mS) (hC : CLr T F0 A0 sz) (he : m_e sz ≤ (T.length : Int)) (hn : F0 110 = 65) (hs : F0 111 = 65) (hR : xR h0 F0 A0) : am_Mt 6 148 [.inr (.inr (some 1))] h0 (xQ h0 (fun x F' A' => TPQ (m_c sz) F0 A0 (x) (F') (A'))) := by
  refine am_Mt.of (D := 5) ?_
  have hI : xI h0 (ob_P h0) h0 0 0 F0 A0 := xI.start hR
  have hL : am_okL h0.length (am_args 0 [.inr (.inr (some 1))]) = true := (okA_r hI.T oc1 okA_n)
  refine k_aload 1 rfl rfl rfl ?_
  refine x_gF 4 hI 4 rfl rfl (by decide) rfl ?_
  refine k_aload 5 rfl rfl rfl ?_
  refine x_gF 48 hI 8 rfl rfl (by decide) rfl ?_
  refine k_xq hI rfl (n_X6_putTerm   (T) (sz) (by exact hC) (by exact he) hI.1) rfl rfl rfl (hI.T.rc oc4 rfl) hL so_n ?_
  rintro x1 h2 c3 s4 F5 A6 I7 L8 e9
  have z12 := iv_01 (x := x1) (e9.1)
  obtain ⟨n10, q11⟩ : ∃ n : Int, x1.toInt = n := ⟨_, rfl⟩
  try rw [q11] at e9
  show am_Ok _ _ _ (11, _, [.inl x1], _, c3, s4) _
  obtain ⟨u1, u2, u3, u4⟩ := e9
  have f10 : F5 110 = 65 := by rw [u2]; exact hn
  have f11 : F5 111 = 65 := by rw [u2]; exact hs
  have f13 : F5 113 = F0 113 := by rw [u2]
  have fpq : F5 3202 = F0 3202 ∧ F5 3203 = F0 3203 := by rw [u2]; exact ⟨rfl, rfl⟩
  have aa2 : A6 2 = A0 2 := u3 2 (by decide) (by decide)
  have aa46 : A6 46 = A0 46 := u3 46 (by decide) (by decide)
  by_cases b13 : x1 = 0
  · refine k_c1 32 rfl rfl (if_pos b13) ?_
    have b13 : n10 = 0 := by have h9 := iv_eq0.mp b13; rw [q11] at h9; exact h9
    refine k_push 33 rfl rfl ?_
    have hc14 : (0 : Int32).toInt = 0 := by decide
    exact k_fin rfl (fin_Z (Or.inl rfl)) ⟨_, _, _, _, _, _, rfl, I7, (by (try rw [hc14]); show TPQ (m_c sz) F0 A0 (0) (F5) (A6); have cc9 : 120 < (m_c sz).length := u4.elim (fun y => absurd (b13.symm.trans y.2.1) (by decide)) (fun y => y.1); exact ⟨Or.inl rfl, Or.inr ⟨Or.inl cc9, rfl, aa46⟩, aa2, f13, fpq⟩)⟩
  · refine k_c1 14 rfl rfl (if_neg b13) ?_
    have b13 : ¬ (n10 = 0) := by have h9 := mt iv_eq0.mpr b13; rw [q11] at h9; exact h9
    have aa48 : A6 48 = m_c sz ∧ (m_c sz).length ≤ 120 := u4.elim (fun y => ⟨y.2.2, y.1⟩) (fun y => absurd y.2 b13)
    refine k_aload 15 rfl rfl rfl ?_
    refine x_gF 74 I7 18 rfl rfl (by decide) rfl ?_
    refine k_aload 19 rfl rfl rfl ?_
    refine x_gF 48 I7 22 rfl rfl (by decide) rfl ?_
    refine k_aload 23 rfl rfl rfl ?_
    refine x_gO (τ := 1) I7 26 rfl oc1 rfl rfl rfl rfl (fun r15 (e16 : (r15 : Int) = F5 111) o17 => ?_)
    obtain rfl : r15 = 65 := by omega
    refine k_xq I7 rfl (n_X0_lay_65   (by (rw [aa48.1]; exact cl_nn hC)) (by (rw [aa48.1]; exact aa48.2)) I7.1) rfl rfl rfl (I7.T.rc oc74 rfl) L8 so_n ?_
    rintro x18 h19 c20 s21 F22 A23 I24 L25 e26
    have z29 := iv_01 (x := x18) (e26.1)
    obtain ⟨n27, q28⟩ : ∃ n : Int, x18.toInt = n := ⟨_, rfl⟩
    try rw [q28] at e26
    show am_Ok _ _ _ (29, _, [.inl x18], _, c20, s21) _
    obtain ⟨v1, v2, v3, v4⟩ := e26
    rw [aa48.1] at v2
    by_cases b30 : x18 = 0
    · refine k_c1 32 rfl rfl (if_pos b30) ?_
      have b30 : n27 = 0 := by have h9 := iv_eq0.mp b30; rw [q28] at h9; exact h9
      refine k_push 33 rfl rfl ?_
      have hc31 : (0 : Int32).toInt = 0 := by decide
      exact k_fin rfl (fin_Z (Or.inl rfl)) ⟨_, _, _, _, _, _, rfl, I24, (by (try rw [hc31]); show TPQ (m_c sz) F0 A0 (0) (F22) (A23); have cc9 : 400 < lmt (m_c sz) := v2.elim (fun y => absurd (b30.symm.trans y.2) (by decide)) (fun y => y.1); exact ⟨Or.inl rfl, Or.inr ⟨Or.inr cc9, rfl, (v4 46 (by decide)).trans aa46⟩, (v4 2 (by decide)).trans aa2, (v3 113 (by decide)).trans f13, ⟨(v3 3202 (by decide)).trans fpq.1, (v3 3203 (by decide)).trans fpq.2⟩⟩)⟩
    · refine k_c1 34 rfl rfl (if_neg b30) ?_
      have b30 : ¬ (n27 = 0) := by have h9 := mt iv_eq0.mpr b30; rw [q28] at h9; exact h9
      have g10 : F22 110 = 65 := (v3 110 (by decide)).trans f10
      have g11 : F22 111 = 65 := (v3 111 (by decide)).trans f11
      have g13 : F22 113 = F0 113 := (v3 113 (by decide)).trans f13
      have gpq : F22 3202 = F0 3202 ∧ F22 3203 = F0 3203 := ⟨(v3 3202 (by decide)).trans fpq.1, (v3 3203 (by decide)).trans fpq.2⟩
      have bb2 : A23 2 = A0 2 := (v4 2 (by decide)).trans aa2
      have bb48 : A23 48 = m_c sz := (v4 48 (by decide)).trans aa48.1
      have ll48 : ((A23 48).length : Int) ≤ (ob_mo 46).toInt := by rw [bb48, mo46]; have h9 := aa48.2; omega
      refine k_aload 35 rfl rfl rfl ?_
      refine x_gO (τ := 1) I24 38 rfl oc1 rfl rfl rfl rfl (fun r32 (e33 : (r32 : Int) = F22 110) o34 => ?_)
      obtain rfl : r32 = 65 := by omega
      refine k_astore 39 rfl rfl ?_
      refine k_aload 40 rfl (gs_ne rfl rfl rfl) rfl ?_
      refine k_aload 41 rfl (gs_ne rfl rfl rfl) rfl ?_
      refine x_gO (τ := 1) I24 44 rfl oc1 rfl rfl rfl rfl (fun r35 (e36 : (r35 : Int) = F22 111) o37 => ?_)
      obtain rfl : r35 = 65 := by omega
      refine x_pO (τ := 1) (fx_ok := fx_no rfl) I24 47 rfl oc1 rfl rfl rfl oc65 rfl (fun h38 I39 l40 => ?_)
      have L41 := okL_eq l40 (okL_set (i := 1) (v := .inr (.inr (some 65))) (xo_v I24 oc65) L25)
      refine k_aload 48 rfl (gs_ne rfl rfl rfl) rfl ?_
      refine k_aload 49 rfl gs_eq rfl ?_
      refine x_pO (τ := 1) (fx_ok := fx_no rfl) I39 52 rfl oc1 rfl rfl rfl oc65 rfl (fun h42 I43 l44 => ?_)
      have L45 := okL_eq l44 L41
      refine k_aload 53 rfl (gs_ne rfl rfl rfl) rfl ?_
      refine x_gF 46 I43 56 rfl rfl (by decide) rfl ?_
      refine k_aload 57 rfl (gs_ne rfl rfl rfl) rfl ?_
      refine x_gF 48 I43 60 rfl rfl (by decide) rfl ?_
      refine k_xv I43 rfl (xw_copy I43.1 or46 or48 ll48) rfl rfl rfl (ty_H.rc3 I43.T or46) L45 so_n ?_
      rintro h47 c48 s49 F50 A51 I52 L53 ⟨k55, k56⟩
      replace k55 := k55.symm
      subst k55
      replace k56 := k56.symm
      subst k56
      show am_Ok _ _ _ (63, _, [], _, c48, s49) _
      refine k_aload 64 rfl (gs_ne rfl rfl rfl) rfl ?_
      refine k_push 65 rfl rfl ?_
      have hc57 : (0 : Int32).toInt = 0 := by decide
      refine x_pZ (fx_ok := fx_no rfl) I52 68 rfl oc1 rfl rfl rfl (Or.inl rfl) rfl (fun h58 I59 l60 => ?_)
      have L61 := okL_eq l60 L53
      have I62 : xI h0 (ob_P h0) h58 c48 s49 (up1 ((up1 (up1 F22 110 ((65 : Nat) : Int)) 111 ((65 : Nat) : Int))) 116 (0)) (upl A23 46 (A23 48)) := by have h9 := I59; rw [hc57] at h9; exact h9
      refine k_aload 69 rfl (gs_ne rfl rfl rfl) rfl ?_
      refine k_xv I62 rfl (n_X9_beginAnew_65_65   (by rfl) I62.1) rfl rfl rfl (I62.T.rc oc1 rfl) L61 so_n ?_
      rintro h64 c65 s66 F67 A68 I69 L70 ⟨k72, k73⟩
      replace k72 := k72.symm
      subst k72
      replace k73 := k73.symm
      subst k73
      show am_Ok _ _ _ (72, _, [], _, c65, s66) _
      refine k_push 73 rfl rfl ?_
      have hc74 : (1 : Int32).toInt = 1 := by decide
      exact k_fin rfl (fin_Z (Or.inr rfl)) ⟨_, _, _, _, _, _, rfl, I69, (by (try rw [hc74]); show TPQ (m_c sz) F0 A0 (1) ((p_X9_beginAnew_65_65 ((up1 ((up1 (up1 F22 110 ((65 : Nat) : Int)) 111 ((65 : Nat) : Int))) 116 (0))) (upl A23 46 (A23 48))).2.1) ((p_X9_beginAnew_65_65 ((up1 ((up1 (up1 F22 110 ((65 : Nat) : Int)) 111 ((65 : Nat) : Int))) 116 (0))) (upl A23 46 (A23 48))).2.2); have cc9 : lmt (m_c sz) ≤ 400 := v2.elim (fun y => y.1) (fun y => absurd y.2 b30); exact ⟨Or.inr rfl, Or.inl ⟨aa48.2, cc9, rfl, bb48⟩, bb2, g13, gpq⟩)⟩
theorem n_X9_tell_65_65 {h0 : am_h} {F0 : rf_f} {A0 : xl_A} {w1 : Int32} {n1 : Int} (hn1 : w1.toInt = n1)  (hp : 0 ≤ n1 ∧ n1 ≤ ((A0 2).length : Int)) (hl : ((A0 2).length : Int) ≤ 700) (hn : F0 110 = 65) (hs : F0 111 = 65) (hR : xR h0 F0 A0) : am_Mt 8 131 [.inr (.inr (some 1)), .inl w1] h0 (xQ h0 (fun x F' A' => CTQ ((A0 2).take n1.toNat) (x) (F' 113) (A' 46) ∧ A' 2 = [] ∧ imp ((x : Int) ≠ 0) (A' 46 = A0 46) ∧ (F' 3202 = F0 3202 ∧ F' 3203 = F0 3203))) := by
  refine am_Mt.of (D := 7) ?_
  have hI : xI h0 (ob_P h0) h0 0 0 F0 A0 := xI.start hR
  have hL : am_okL h0.length (am_args 0 [.inr (.inr (some 1)), .inl w1]) = true := (okA_r hI.T oc1 (okA_i okA_n))
  refine k_iload 1 rfl rfl rfl ?_
  by_cases b1 : w1 < 0
  · refine k_c1 15 rfl rfl (if_pos b1) ?_
    have b1 : n1 < 0 := by have h9 := iv_lt0.mp b1; rw [hn1] at h9; exact h9
    exact absurd hp (by omega)
  · refine k_c1 4 rfl rfl (if_neg b1) ?_
    have b1 : ¬ (n1 < 0) := by have h9 := mt iv_lt0.mpr b1; rw [hn1] at h9; exact h9
    refine k_iload 5 rfl rfl rfl ?_
    refine k_aload 6 rfl rfl rfl ?_
    refine x_gF 2 hI 9 rfl rfl (by decide) rfl ?_
    refine k_xq hI rfl (xv_size hI.1 or2) rfl rfl rfl (ty_H.rc3 hI.T or2) hL (so_i so_n) ?_
    rintro x2 h3 c4 s5 F6 A7 I8 L9 ⟨e10, k11, k12⟩
    replace k11 := k11.symm
    subst k11
    replace k12 := k12.symm
    subst k12
    show am_Ok _ _ _ (12, _, [.inl x2, .inl w1], _, c4, s5) _
    by_cases b13 : w1 ≤ x2
    · refine k_c2 25 rfl rfl (if_pos b13) ?_
      have b13 : n1 ≤ (((A0 2).length : Nat) : Int) := by have h9 := iv_le.mp b13; rw [hn1] at h9; rw [e10] at h9; exact h9
      refine k_aload 26 rfl rfl rfl ?_
      refine x_gF 2 I8 29 rfl rfl (by decide) rfl ?_
      refine k_iload 30 rfl rfl rfl ?_
      refine k_xv I8 rfl (y_cut hn1 I8.1 or2) rfl rfl rfl (ty_H.rc3 I8.T or2) L9 so_n ?_
      rintro h15 c16 s17 F18 A19 I20 L21 ⟨k23, k24⟩
      replace k23 := k23.symm
      subst k23
      replace k24 := k24.symm
      subst k24
      show am_Ok _ _ _ (33, _, [], _, c16, s17) _
      have t9 : cutl (A0 2) n1 = (A0 2).take n1.toNat := if_pos hp.1
      have tl : (((A0 2).take n1.toNat).length : Int) = n1 := by rw [List.length_take]; omega
      refine k_aload 34 rfl rfl rfl ?_
      refine x_gF 4 I20 37 rfl rfl (by decide) rfl ?_
      refine k_xq I20 rfl (n_X6_findFault   (by (show ((cutl (A0 2) (n1)).length : Int) ≤ 700; rw [t9, tl]; omega)) I20.1) rfl rfl rfl (I20.T.rc oc4 rfl) L21 so_n ?_
      rintro x25 h26 c27 s28 F29 A30 I31 L32 e33
      obtain ⟨n34, q35⟩ : ∃ n : Int, x25.toInt = n := ⟨_, rfl⟩
      try rw [q35] at e33
      show am_Ok _ _ _ (40, _, [.inl x25], _, c27, s28) _
      obtain ⟨⟨z1, z2⟩, rr9, z3, z4, z5, z6⟩ := e33
      rw [upl_eq, t9] at z3 z6
      have zpq : F29 3202 = F0 3202 ∧ F29 3203 = F0 3203 := ⟨(z1 3202 (by omega) (by omega)), (z1 3203 (by omega) (by omega))⟩
      refine k_istore 41 rfl rfl ?_
      refine k_aload 42 rfl (gs_ne rfl rfl rfl) rfl ?_
      refine k_iload 43 rfl gs_eq rfl ?_
      by_cases b36 : x25 = 0
      · refine k_c1 46 rfl rfl (if_pos b36) ?_
        have b36 : n34 = 0 := by have h9 := iv_eq0.mp b36; rw [q35] at h9; exact h9
        refine k_push 47 rfl rfl ?_
        have hc37 : (-1 : Int32).toInt = -1 := by decide
        refine k_goto 57 rfl rfl ?_
        refine x_pI (fx_ok := fx_no rfl) I31 60 rfl oc1 rfl rfl rfl rfl (fun h38 I39 l40 => ?_)
        have L41 := okL_eq l40 (okL_set (i := 2) (v := .inl x25) rfl L32)
        have I42 : xI h0 (ob_P h0) h38 c27 s28 (up1 F29 113 ((-1))) A30 := by have h9 := I39; rw [hc37] at h9; exact h9
        refine k_iload 61 rfl gs_eq rfl ?_
        by_cases b43 : x25 = 0
        · refine k_c1 64 rfl rfl (if_pos b43) ?_
          have b43 : n34 = 0 := by have h9 := iv_eq0.mp b43; rw [q35] at h9; exact h9
          have y0 : rr9.1 = 0 := z4.symm.trans b43
          obtain ⟨sz, y1, y2, y3, y4, y5⟩ := z6 y0
          refine k_aload 65 rfl (gs_ne rfl rfl rfl) rfl ?_
          refine k_xq I42 rfl (n_X9_takeProgram_65_65   (((A0 2).take n1.toNat)) (sz) (by exact CLq.cg y2 rfl rfl rfl rfl rfl rfl) (by exact y3) (by exact (z1 110 (by omega) (by omega)).trans hn) (by exact (z1 111 (by omega) (by omega)).trans hs) I42.1) rfl rfl rfl (I42.T.rc oc1 rfl) L41 so_n ?_
          rintro x44 h45 c46 s47 F48 A49 I50 L51 e52
          have z55 := iv_01 (x := x44) (e52.1)
          obtain ⟨n53, q54⟩ : ∃ n : Int, x44.toInt = n := ⟨_, rfl⟩
          try rw [q54] at e52
          show am_Ok _ _ _ (68, _, [.inl x44], _, c46, s47) _
          obtain ⟨o1, o2, o3, o4, o5⟩ := e52
          by_cases b56 : x44 = 0
          · refine k_c1 71 rfl rfl (if_pos b56) ?_
            have b56 : n53 = 0 := by have h9 := iv_eq0.mp b56; rw [q54] at h9; exact h9
            refine k_push 72 rfl rfl ?_
            have hc57 : (5 : Int32).toInt = 5 := by decide
            refine k_istore 73 rfl rfl ?_
            refine k_aload 74 rfl (gs_ne rfl rfl (gs_ne rfl rfl rfl)) rfl ?_
            refine k_iload 75 rfl (gs_ne rfl rfl (gs_ne rfl rfl rfl)) rfl ?_
            refine x_pI (fx_ok := fx_no rfl) I50 78 rfl oc1 rfl rfl rfl rfl (fun h58 I59 l60 => ?_)
            have L61 := okL_eq l60 (okL_set (i := 2) (v := .inl (5 : Int32)) rfl L51)
            have I62 : xI h0 (ob_P h0) h58 c46 s47 (up1 F48 113 (n1)) A49 := by have h9 := I59; rw [hn1] at h9; exact h9
            refine k_aload 79 rfl (gs_ne rfl rfl (gs_ne rfl rfl rfl)) rfl ?_
            refine x_gF 2 I62 82 rfl rfl (by decide) rfl ?_
            refine k_push 83 rfl rfl ?_
            have hc63 : (0 : Int32).toInt = 0 := by decide
            refine k_xv I62 rfl (y_cut hc63 I62.1 or2) rfl rfl rfl (ty_H.rc3 I62.T or2) L61 so_n ?_
            rintro h65 c66 s67 F68 A69 I70 L71 ⟨k73, k74⟩
            replace k73 := k73.symm
            subst k73
            replace k74 := k74.symm
            subst k74
            show am_Ok _ _ _ (86, _, [], _, c66, s67) _
            refine k_iload 87 rfl gs_eq rfl ?_
            exact k_fin rfl rfl ⟨_, _, _, _, _, _, rfl, I70, (by (try rw [hc57]); show CTQ ((A0 2).take n1.toNat) (5) ((up1 F48 113 (n1)) 113) ((upl A49 2 (cutl (A49 2) (0))) 46) ∧ (upl A49 2 (cutl (A49 2) (0))) 2 = [] ∧ imp ((5 : Int) ≠ 0) ((upl A49 2 (cutl (A49 2) (0))) 46 = A0 46) ∧ ((up1 F48 113 (n1)) 3202 = F0 3202 ∧ (up1 F48 113 (n1)) 3203 = F0 3203); have cc9 : (120 < (m_c sz).length ∨ 400 < lmt (m_c sz)) ∧ A49 46 = A30 46 := o2.elim (fun k => absurd (b56.symm.trans k.2.2.1) (by decide)) (fun k => ⟨k.1, k.2.2⟩); exact ⟨⟨rr9, z3, Or.inr (Or.inl ⟨y0, by rw [y1]; exact cc9.1, rfl, tl.symm⟩)⟩, rfl, fun _ => (upl_ne (by decide)).trans (cc9.2.trans (z2 46 (by decide) (by decide) (by decide) (by decide))), ⟨o5.1.trans zpq.1, o5.2.trans zpq.2⟩⟩)⟩
          · refine k_c1 78 rfl rfl (if_neg b56) ?_
            have b56 : ¬ (n53 = 0) := by have h9 := mt iv_eq0.mpr b56; rw [q54] at h9; exact h9
            refine k_aload 79 rfl (gs_ne rfl rfl rfl) rfl ?_
            refine x_gF 2 I50 82 rfl rfl (by decide) rfl ?_
            refine k_push 83 rfl rfl ?_
            have hc75 : (0 : Int32).toInt = 0 := by decide
            refine k_xv I50 rfl (y_cut hc75 I50.1 or2) rfl rfl rfl (ty_H.rc3 I50.T or2) L51 so_n ?_
            rintro h77 c78 s79 F80 A81 I82 L83 ⟨k85, k86⟩
            replace k85 := k85.symm
            subst k85
            replace k86 := k86.symm
            subst k86
            show am_Ok _ _ _ (86, _, [], _, c78, s79) _
            refine k_iload 87 rfl gs_eq rfl ?_
            exact k_fin rfl rfl ⟨_, _, _, _, _, _, rfl, I82, (by (try rw [q35]); show CTQ ((A0 2).take n1.toNat) (n34) (F48 113) ((upl A49 2 (cutl (A49 2) (0))) 46) ∧ (upl A49 2 (cutl (A49 2) (0))) 2 = [] ∧ imp ((n34 : Int) ≠ 0) ((upl A49 2 (cutl (A49 2) (0))) 46 = A0 46) ∧ (F48 3202 = F0 3202 ∧ F48 3203 = F0 3203); have cc9 : (m_c sz).length ≤ 120 ∧ lmt (m_c sz) ≤ 400 ∧ A49 46 = m_c sz := o2.elim (fun k => ⟨k.1, k.2.1, k.2.2.2⟩) (fun k => absurd k.2.1 b56); exact ⟨⟨rr9, z3, Or.inr (Or.inr ⟨y0, by rw [y1]; exact cc9.1, by rw [y1]; exact cc9.2.1, b36, o4, by rw [y1]; exact (upl_ne (by decide)).trans cc9.2.2⟩)⟩, rfl, fun y => absurd b36 y, ⟨o5.1.trans zpq.1, o5.2.trans zpq.2⟩⟩)⟩
        · refine k_c1 78 rfl rfl (if_neg b43) ?_
          have b43 : ¬ (n34 = 0) := by have h9 := mt iv_eq0.mpr b43; rw [q35] at h9; exact h9
          exact absurd b36 b43
      · refine k_c1 50 rfl rfl (if_neg b36) ?_
        have b36 : ¬ (n34 = 0) := by have h9 := mt iv_eq0.mpr b36; rw [q35] at h9; exact h9
        refine k_aload 51 rfl (gs_ne rfl rfl rfl) rfl ?_
        refine x_gF 4 I31 54 rfl rfl (by decide) rfl ?_
        refine k_xq I31 rfl (n_X6_place    I31.1) rfl rfl rfl (I31.T.rc oc4 rfl) (okL_set (i := 2) (v := .inl x25) rfl L32) (xo_r I31 oc1 so_n) ?_
        rintro x87 h88 c89 s90 F91 A92 I93 L94 ⟨e95, k96, k97⟩
        replace k96 : F91 = F29 := k96
        replace k97 : A92 = A30 := k97
        replace e95 : x87.toInt = F29 1502 := e95
        replace k96 := k96.symm
        subst k96
        replace k97 := k97.symm
        subst k97
        show am_Ok _ _ _ (57, _, [.inl x87, .inr (.inr (some 1))], _, c89, s90) _
        refine x_pI (fx_ok := fx_no rfl) I93 60 rfl oc1 rfl rfl rfl rfl (fun h98 I99 l100 => ?_)
        have L101 := okL_eq l100 L94
        have I102 : xI h0 (ob_P h0) h98 c89 s90 (up1 F29 113 (F29 1502)) A30 := by have h9 := I99; rw [e95] at h9; exact h9
        refine k_iload 61 rfl gs_eq rfl ?_
        by_cases b103 : x25 = 0
        · refine k_c1 64 rfl rfl (if_pos b103) ?_
          have b103 : n34 = 0 := by have h9 := iv_eq0.mp b103; rw [q35] at h9; exact h9
          have y0 : rr9.1 = 0 := z4.symm.trans b103
          obtain ⟨sz, y1, y2, y3, y4, y5⟩ := z6 y0
          exact absurd b103 b36
        · refine k_c1 78 rfl rfl (if_neg b103) ?_
          have b103 : ¬ (n34 = 0) := by have h9 := mt iv_eq0.mpr b103; rw [q35] at h9; exact h9
          refine k_aload 79 rfl (gs_ne rfl rfl rfl) rfl ?_
          refine x_gF 2 I102 82 rfl rfl (by decide) rfl ?_
          refine k_push 83 rfl rfl ?_
          have hc104 : (0 : Int32).toInt = 0 := by decide
          refine k_xv I102 rfl (y_cut hc104 I102.1 or2) rfl rfl rfl (ty_H.rc3 I102.T or2) L101 so_n ?_
          rintro h106 c107 s108 F109 A110 I111 L112 ⟨k114, k115⟩
          replace k114 := k114.symm
          subst k114
          replace k115 := k115.symm
          subst k115
          show am_Ok _ _ _ (86, _, [], _, c107, s108) _
          refine k_iload 87 rfl gs_eq rfl ?_
          exact k_fin rfl rfl ⟨_, _, _, _, _, _, rfl, I111, (by (try rw [q35]); show CTQ ((A0 2).take n1.toNat) (n34) ((up1 F29 113 (F29 1502)) 113) ((upl A30 2 (cutl (A30 2) (0))) 46) ∧ (upl A30 2 (cutl (A30 2) (0))) 2 = [] ∧ imp ((n34 : Int) ≠ 0) ((upl A30 2 (cutl (A30 2) (0))) 46 = A0 46) ∧ ((up1 F29 113 (F29 1502)) 3202 = F0 3202 ∧ (up1 F29 113 (F29 1502)) 3203 = F0 3203); exact ⟨⟨rr9, z3, Or.inl ⟨fun y => b36 (z4.trans y), z4, z5⟩⟩, rfl, fun _ => (upl_ne (by decide)).trans (z2 46 (by decide) (by decide) (by decide) (by decide)), zpq⟩)⟩
    · refine k_c2 15 rfl rfl (if_neg b13) ?_
      have b13 : ¬ (n1 ≤ (((A0 2).length : Nat) : Int)) := by have h9 := mt iv_le.mpr b13; rw [hn1] at h9; rw [e10] at h9; exact h9
      exact absurd hp (by omega)
end
