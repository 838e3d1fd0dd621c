/-! THE CLASS's tokens, exactly -/
section BX
variable {x y q : Int32} {a b : Int}
theorem bx_add (h : q = x + y) (h1 : x.toInt = a) (h2 : y.toInt = b) (l : -2147483648 ≤ a + b) (u : a + b < 2147483648) : q.toInt = a + b := (bm_add h h1 h2).trans (bm_id l u)
theorem bx_sub (h : q = x - y) (h1 : x.toInt = a) (h2 : y.toInt = b) (l : -2147483648 ≤ a - b) (u : a - b < 2147483648) : q.toInt = a - b := (bm_sub h h1 h2).trans (bm_id l u)
theorem bx_mul (h : q = x * y) (h1 : x.toInt = a) (h2 : y.toInt = b) (l : -2147483648 ≤ a * b) (u : a * b < 2147483648) : q.toInt = a * b := (bm_mul h h1 h2).trans (bm_id l u)
theorem tS_n2 {T : List Int} {q : Int} (h0 : 0 ≤ q) (h1 : q < (T.length : Int)) (hb : gl T q = 32 ∨ gl T q = 10) : tS T (q + 1) = tS T q := by
  unfold tS
  refine (tw_step h0 h1 ?_).symm
  unfold bl
  exact decide_eq_true hb
theorem tS_q2 {T : List Int} {q : Int} (h0 : 0 ≤ q) (h : q < (T.length : Int) → ¬ (gl T q = 32 ∨ gl T q = 10)) : tS T q = q := by
  by_cases z : q < (T.length : Int)
  · unfold tS
    refine tw_stop h0 ?_
    unfold bl
    exact decide_eq_false (h z)
  · exact tw_end (by omega)
end BX
section
def p_X7_behindBlanks (n1 : Int) (F0 : rf_f) (A0 : xl_A) : Int × rf_f × xl_A := (tS (A0 2) n1, F0, A0)
theorem yl_X7_behindBlanks_2 {h0 : am_h} {F0 : rf_f} {A0 : xl_A} {w1 : Int32} {n1 : Int} (hn1 : w1.toInt = n1)  (hp1 : 0 ≤ n1 ∧ n1 ≤ ((A0 2).length : Int)) (hp2 : ((A0 2).length : Int) ≤ 700) : ∀ (n : Nat) {lv : am_l} {h : am_h} {c s : Nat} {u1 : Int32} {v1 : Int} {u2 : Int32} {v2 : Int}, ((701 - v2).toNat) = n → am_get lv 0 = some (.inr (.inr (some 15))) → am_get lv 1 = some (.inl u1) → am_get lv 2 = some (.inl u2) → u1.toInt = v1 → u2.toInt = v2 → xI h0 (ob_P h0) h c s F0 A0 → am_okL h.length lv = true → (0 ≤ v2 ∧ v2 ≤ ((A0 2).length : Int)) → (tS (A0 2) v2 = tS (A0 2) n1) → am_Ok am_G 1 113 (2, lv, [], h, c, s) (xQ h0 (fun x F' A' => x = (p_X7_behindBlanks n1 F0 A0).1 ∧ F' = (p_X7_behindBlanks n1 F0 A0).2.1 ∧ A' = (p_X7_behindBlanks n1 F0 A0).2.2)) := by
  intro n
  induction n using Nat.strongRecOn with
  | ind n ih =>
    intro lv h c s u1 v1 u2 v2  hm g0 g1 g2 hv1 hv2 hI hL i1 i2
    refine k_iload 3 rfl g2 rfl ?_
    refine k_aload 4 rfl g0 rfl ?_
    refine x_gF 2 hI 7 rfl rfl (by decide) rfl ?_
    refine k_xq hI rfl (xv_size hI.1 or2) rfl rfl rfl (ty_H.rc3 hI.T or2) hL (so_i so_n) ?_
    rintro x1 h2 c3 s4 F5 A6 I7 L8 ⟨e9, k10, k11⟩
    replace k10 := k10.symm
    subst k10
    replace k11 := k11.symm
    subst k11
    show am_Ok _ _ _ (10, _, [.inl x1, .inl u2], _, c3, s4) _
    by_cases b12 : x1 ≤ u2
    · refine k_c2 45 rfl rfl (if_pos b12) ?_
      have b12 : (((A0 2).length : Nat) : Int) ≤ v2 := by have h9 := iv_le.mp b12; rw [hv2] at h9; rw [e9] at h9; exact h9
      refine k_iload 46 rfl g2 rfl ?_
      exact k_fin rfl rfl ⟨_, _, _, _, _, _, rfl, I7, hv2.trans ((tS_q2 (by omega) (fun z => by omega)).symm.trans i2), rfl, rfl⟩
    · refine k_c2 13 rfl rfl (if_neg b12) ?_
      have b12 : ¬ ((((A0 2).length : Nat) : Int) ≤ v2) := by have h9 := mt iv_le.mpr b12; rw [hv2] at h9; rw [e9] at h9; exact h9
      refine k_aload 14 rfl g0 rfl ?_
      refine x_gF 2 I7 17 rfl rfl (by decide) rfl ?_
      refine k_iload 18 rfl g2 rfl ?_
      refine k_xq I7 rfl (y_get hv2 I7.1 or2) rfl rfl rfl (ty_H.rc3 I7.T or2) L8 so_n ?_
      rintro x13 h14 c15 s16 F17 A18 I19 L20 ⟨e21, k22, k23⟩
      replace k22 := k22.symm
      subst k22
      replace k23 := k23.symm
      subst k23
      show am_Ok _ _ _ (21, _, [.inl x13], _, c15, s16) _
      refine k_push 23 rfl rfl ?_
      have hc24 : (32 : Int32).toInt = 32 := by decide
      by_cases b25 : x13 = (32 : Int32)
      · refine k_c2 39 rfl rfl (if_pos b25) ?_
        have b25 : gl (A0 2) (v2) = 32 := by have h9 := iv_eq.mp b25; rw [e21] at h9; rw [hc24] at h9; exact h9
        have hc26 : (1 : Int32).toInt = 1 := by decide
        obtain ⟨x27, q28⟩ : ∃ q : Int32, q = u2 + (1 : Int32) := ⟨_, rfl⟩
        have e29 : x27.toInt = (v2 + 1) := bx_add q28 hv2 hc26 (by omega) (by omega)
        refine k_iinc x27 42 rfl g2 q28.symm rfl ?_
        refine k_goto 2 rfl rfl ?_
        exact ih _ (by omega)  (v1 := v1) (v2 := (v2 + 1)) rfl (gs_ne rfl rfl g0) (gs_ne rfl rfl g1) gs_eq hv1 e29 I19 (okL_set rfl L20) (by omega) ((tS_n2 (by omega) (by omega) (by omega)).trans i2)
      · refine k_c2 26 rfl rfl (if_neg b25) ?_
        have b25 : ¬ (gl (A0 2) (v2) = 32) := by have h9 := mt iv_eq.mpr b25; rw [e21] at h9; rw [hc24] at h9; exact h9
        refine k_aload 27 rfl g0 rfl ?_
        refine x_gF 2 I19 30 rfl rfl (by decide) rfl ?_
        refine k_iload 31 rfl g2 rfl ?_
        refine k_xq I19 rfl (y_get hv2 I19.1 or2) rfl rfl rfl (ty_H.rc3 I19.T or2) L20 so_n ?_
        rintro x30 h31 c32 s33 F34 A35 I36 L37 ⟨e38, k39, k40⟩
        replace k39 := k39.symm
        subst k39
        replace k40 := k40.symm
        subst k40
        show am_Ok _ _ _ (34, _, [.inl x30], _, c32, s33) _
        refine k_push 36 rfl rfl ?_
        have hc41 : (10 : Int32).toInt = 10 := by decide
        by_cases b42 : x30 = (10 : Int32)
        · refine k_c2 39 rfl rfl (if_pos b42) ?_
          have b42 : gl (A0 2) (v2) = 10 := by have h9 := iv_eq.mp b42; rw [e38] at h9; rw [hc41] at h9; exact h9
          have hc43 : (1 : Int32).toInt = 1 := by decide
          obtain ⟨x44, q45⟩ : ∃ q : Int32, q = u2 + (1 : Int32) := ⟨_, rfl⟩
          have e46 : x44.toInt = (v2 + 1) := bx_add q45 hv2 hc43 (by omega) (by omega)
          refine k_iinc x44 42 rfl g2 q45.symm rfl ?_
          refine k_goto 2 rfl rfl ?_
          exact ih _ (by omega)  (v1 := v1) (v2 := (v2 + 1)) rfl (gs_ne rfl rfl g0) (gs_ne rfl rfl g1) gs_eq hv1 e46 I36 (okL_set rfl L37) (by omega) ((tS_n2 (by omega) (by omega) (by omega)).trans i2)
        · refine k_c2 45 rfl rfl (if_neg b42) ?_
          have b42 : ¬ (gl (A0 2) (v2) = 10) := by have h9 := mt iv_eq.mpr b42; rw [e38] at h9; rw [hc41] at h9; exact h9
          refine k_iload 46 rfl g2 rfl ?_
          exact k_fin rfl rfl ⟨_, _, _, _, _, _, rfl, I36, hv2.trans ((tS_q2 (by omega) (fun z => by omega)).symm.trans i2), rfl, rfl⟩
theorem n_X7_behindBlanks {h0 : am_h} {F0 : rf_f} {A0 : xl_A} {w1 : Int32} {n1 : Int} (hn1 : w1.toInt = n1)  (hp1 : 0 ≤ n1 ∧ n1 ≤ ((A0 2).length : Int)) (hp2 : ((A0 2).length : Int) ≤ 700) (hR : xR h0 F0 A0) : am_Mt 2 113 [.inr (.inr (some 15)), .inl w1] h0 (xQ h0 (fun x F' A' => x = (p_X7_behindBlanks n1 F0 A0).1 ∧ F' = (p_X7_behindBlanks n1 F0 A0).2.1 ∧ A' = (p_X7_behindBlanks n1 F0 A0).2.2)) := by
  refine am_Mt.of (D := 1) ?_
  have hI : xI h0 (ob_P h0) h0 0 0 F0 A0 := xI.start hR
  have hL : am_okL h0.length (am_args 0 [.inr (.inr (some 15)), .inl w1]) = true := (okA_r hI.T oc15 (okA_i okA_n))
  refine k_iload 1 rfl rfl rfl ?_
  refine k_istore 2 rfl rfl ?_
  exact yl_X7_behindBlanks_2 hn1  hp1 hp2 _  (v1 := n1) (v2 := n1) rfl (gs_ne rfl rfl rfl) (gs_ne rfl rfl rfl) gs_eq hn1 hn1 hI (okL_set rfl hL) (by omega) (rfl)
def p_X7_sortOf (n1 : Int) (F0 : rf_f) (A0 : xl_A) : Int × rf_f × xl_A := if n1 < (((A0 2).length : Nat) : Int) then if gl (A0 2) (n1) < 97 then if gl (A0 2) (n1) < 48 then if gl (A0 2) (n1) = 40 then (gl (A0 2) (n1), F0, A0) else (if gl (A0 2) (n1) = 41 then (gl (A0 2) (n1), F0, A0) else (if gl (A0 2) (n1) = 46 then (gl (A0 2) (n1), F0, A0) else (if gl (A0 2) (n1) = 59 then (gl (A0 2) (n1), F0, A0) else (if gl (A0 2) (n1) = 61 then (gl (A0 2) (n1), F0, A0) else (if gl (A0 2) (n1) = 92 then (gl (A0 2) (n1), F0, A0) else ((1, F0, A0))))))) else if 57 < gl (A0 2) (n1) then if gl (A0 2) (n1) = 40 then (gl (A0 2) (n1), F0, A0) else (if gl (A0 2) (n1) = 41 then (gl (A0 2) (n1), F0, A0) else (if gl (A0 2) (n1) = 46 then (gl (A0 2) (n1), F0, A0) else (if gl (A0 2) (n1) = 59 then (gl (A0 2) (n1), F0, A0) else (if gl (A0 2) (n1) = 61 then (gl (A0 2) (n1), F0, A0) else (if gl (A0 2) (n1) = 92 then (gl (A0 2) (n1), F0, A0) else ((1, F0, A0))))))) else (48, F0, A0) else if 122 < gl (A0 2) (n1) then if gl (A0 2) (n1) < 48 then if gl (A0 2) (n1) = 40 then (gl (A0 2) (n1), F0, A0) else (if gl (A0 2) (n1) = 41 then (gl (A0 2) (n1), F0, A0) else (if gl (A0 2) (n1) = 46 then (gl (A0 2) (n1), F0, A0) else (if gl (A0 2) (n1) = 59 then (gl (A0 2) (n1), F0, A0) else (if gl (A0 2) (n1) = 61 then (gl (A0 2) (n1), F0, A0) else (if gl (A0 2) (n1) = 92 then (gl (A0 2) (n1), F0, A0) else ((1, F0, A0))))))) else if 57 < gl (A0 2) (n1) then if gl (A0 2) (n1) = 40 then (gl (A0 2) (n1), F0, A0) else (if gl (A0 2) (n1) = 41 then (gl (A0 2) (n1), F0, A0) else (if gl (A0 2) (n1) = 46 then (gl (A0 2) (n1), F0, A0) else (if gl (A0 2) (n1) = 59 then (gl (A0 2) (n1), F0, A0) else (if gl (A0 2) (n1) = 61 then (gl (A0 2) (n1), F0, A0) else (if gl (A0 2) (n1) = 92 then (gl (A0 2) (n1), F0, A0) else ((1, F0, A0))))))) else (48, F0, A0) else (97, F0, A0) else (0, F0, A0)
theorem n_X7_sortOf {h0 : am_h} {F0 : rf_f} {A0 : xl_A} {w1 : Int32} {n1 : Int} (hn1 : w1.toInt = n1)  (hR : xR h0 F0 A0) : am_Mt 2 114 [.inr (.inr (some 15)), .inl w1] h0 (xQ h0 (fun x F' A' => x = (p_X7_sortOf n1 F0 A0).1 ∧ F' = (p_X7_sortOf n1 F0 A0).2.1 ∧ A' = (p_X7_sortOf n1 F0 A0).2.2)) := by
  refine am_Mt.of (D := 1) ?_
  have hI : xI h0 (ob_P h0) h0 0 0 F0 A0 := xI.start hR
  have hL : am_okL h0.length (am_args 0 [.inr (.inr (some 15)), .inl w1]) = true := (okA_r hI.T oc15 (okA_i okA_n))
  refine k_iload 1 rfl rfl rfl ?_
  refine k_aload 2 rfl rfl rfl ?_
  refine x_gF 2 hI 5 rfl rfl (by decide) rfl ?_
  refine k_xq hI rfl (xv_size hI.1 or2) rfl rfl rfl (ty_H.rc3 hI.T or2) hL (so_i so_n) ?_
  rintro x1 h2 c3 s4 F5 A6 I7 L8 ⟨e9, k10, k11⟩
  replace k10 := k10.symm
  subst k10
  replace k11 := k11.symm
  subst k11
  show am_Ok _ _ _ (8, _, [.inl x1, .inl w1], _, c3, s4) _
  by_cases b12 : w1 < x1
  · refine k_c2 13 rfl rfl (if_pos b12) ?_
    have b12 : n1 < (((A0 2).length : Nat) : Int) := by have h9 := iv_lt.mp b12; rw [hn1] at h9; rw [e9] at h9; exact h9
    refine k_aload 14 rfl rfl rfl ?_
    refine x_gF 2 I7 17 rfl rfl (by decide) rfl ?_
    refine k_iload 18 rfl rfl rfl ?_
    refine k_xq I7 rfl (y_get hn1 I7.1 or2) rfl rfl rfl (ty_H.rc3 I7.T or2) L8 so_n ?_
    rintro x13 h14 c15 s16 F17 A18 I19 L20 ⟨e21, k22, k23⟩
    replace k22 := k22.symm
    subst k22
    replace k23 := k23.symm
    subst k23
    show am_Ok _ _ _ (21, _, [.inl x13], _, c15, s16) _
    refine k_istore 22 rfl rfl ?_
    refine k_iload 23 rfl gs_eq rfl ?_
    refine k_push 25 rfl rfl ?_
    have hc24 : (97 : Int32).toInt = 97 := by decide
    by_cases b25 : x13 < (97 : Int32)
    · refine k_c2 37 rfl rfl (if_pos b25) ?_
      have b25 : gl (A0 2) (n1) < 97 := by have h9 := iv_lt.mp b25; rw [e21] at h9; rw [hc24] at h9; exact h9
      refine k_iload 38 rfl gs_eq rfl ?_
      refine k_push 40 rfl rfl ?_
      have hc26 : (48 : Int32).toInt = 48 := by decide
      by_cases b27 : x13 < (48 : Int32)
      · refine k_c2 52 rfl rfl (if_pos b27) ?_
        have b27 : gl (A0 2) (n1) < 48 := by have h9 := iv_lt.mp b27; rw [e21] at h9; rw [hc26] at h9; exact h9
        refine k_iload 53 rfl gs_eq rfl ?_
        by_cases b28 : x13.toInt = 40
        · refine k_sw 112 rfl (by simp only [am_lk]; rw [if_pos b28]) ?_
          have b29 : gl (A0 2) (n1) = 40 := by rw [e21] at b28; exact b28
          refine k_iload 113 rfl gs_eq rfl ?_
          exact k_fin rfl rfl ⟨_, _, _, _, _, _, rfl, I19, (by unfold p_X7_sortOf; rw [if_pos b12, if_pos b25, if_pos b27, if_pos b29]; exact e21), (by unfold p_X7_sortOf; rw [if_pos b12, if_pos b25, if_pos b27, if_pos b29]), (by unfold p_X7_sortOf; rw [if_pos b12, if_pos b25, if_pos b27, if_pos b29])⟩
        have b29 : ¬ (gl (A0 2) (n1) = 40) := by rw [e21] at b28; exact b28
        by_cases b30 : x13.toInt = 41
        · refine k_sw 112 rfl (by simp only [am_lk]; rw [if_neg b28, if_pos b30]) ?_
          have b31 : gl (A0 2) (n1) = 41 := by rw [e21] at b30; exact b30
          refine k_iload 113 rfl gs_eq rfl ?_
          exact k_fin rfl rfl ⟨_, _, _, _, _, _, rfl, I19, (by unfold p_X7_sortOf; rw [if_pos b12, if_pos b25, if_pos b27, if_neg b29, if_pos b31]; exact e21), (by unfold p_X7_sortOf; rw [if_pos b12, if_pos b25, if_pos b27, if_neg b29, if_pos b31]), (by unfold p_X7_sortOf; rw [if_pos b12, if_pos b25, if_pos b27, if_neg b29, if_pos b31])⟩
        have b31 : ¬ (gl (A0 2) (n1) = 41) := by rw [e21] at b30; exact b30
        by_cases b32 : x13.toInt = 46
        · refine k_sw 112 rfl (by simp only [am_lk]; rw [if_neg b28, if_neg b30, if_pos b32]) ?_
          have b33 : gl (A0 2) (n1) = 46 := by rw [e21] at b32; exact b32
          refine k_iload 113 rfl gs_eq rfl ?_
          exact k_fin rfl rfl ⟨_, _, _, _, _, _, rfl, I19, (by unfold p_X7_sortOf; rw [if_pos b12, if_pos b25, if_pos b27, if_neg b29, if_neg b31, if_pos b33]; exact e21), (by unfold p_X7_sortOf; rw [if_pos b12, if_pos b25, if_pos b27, if_neg b29, if_neg b31, if_pos b33]), (by unfold p_X7_sortOf; rw [if_pos b12, if_pos b25, if_pos b27, if_neg b29, if_neg b31, if_pos b33])⟩
        have b33 : ¬ (gl (A0 2) (n1) = 46) := by rw [e21] at b32; exact b32
        by_cases b34 : x13.toInt = 59
        · refine k_sw 112 rfl (by simp only [am_lk]; rw [if_neg b28, if_neg b30, if_neg b32, if_pos b34]) ?_
          have b35 : gl (A0 2) (n1) = 59 := by rw [e21] at b34; exact b34
          refine k_iload 113 rfl gs_eq rfl ?_
          exact k_fin rfl rfl ⟨_, _, _, _, _, _, rfl, I19, (by unfold p_X7_sortOf; rw [if_pos b12, if_pos b25, if_pos b27, if_neg b29, if_neg b31, if_neg b33, if_pos b35]; exact e21), (by unfold p_X7_sortOf; rw [if_pos b12, if_pos b25, if_pos b27, if_neg b29, if_neg b31, if_neg b33, if_pos b35]), (by unfold p_X7_sortOf; rw [if_pos b12, if_pos b25, if_pos b27, if_neg b29, if_neg b31, if_neg b33, if_pos b35])⟩
        have b35 : ¬ (gl (A0 2) (n1) = 59) := by rw [e21] at b34; exact b34
        by_cases b36 : x13.toInt = 61
        · refine k_sw 112 rfl (by simp only [am_lk]; rw [if_neg b28, if_neg b30, if_neg b32, if_neg b34, if_pos b36]) ?_
          have b37 : gl (A0 2) (n1) = 61 := by rw [e21] at b36; exact b36
          refine k_iload 113 rfl gs_eq rfl ?_
          exact k_fin rfl rfl ⟨_, _, _, _, _, _, rfl, I19, (by unfold p_X7_sortOf; rw [if_pos b12, if_pos b25, if_pos b27, if_neg b29, if_neg b31, if_neg b33, if_neg b35, if_pos b37]; exact e21), (by unfold p_X7_sortOf; rw [if_pos b12, if_pos b25, if_pos b27, if_neg b29, if_neg b31, if_neg b33, if_neg b35, if_pos b37]), (by unfold p_X7_sortOf; rw [if_pos b12, if_pos b25, if_pos b27, if_neg b29, if_neg b31, if_neg b33, if_neg b35, if_pos b37])⟩
        have b37 : ¬ (gl (A0 2) (n1) = 61) := by rw [e21] at b36; exact b36
        by_cases b38 : x13.toInt = 92
        · refine k_sw 112 rfl (by simp only [am_lk]; rw [if_neg b28, if_neg b30, if_neg b32, if_neg b34, if_neg b36, if_pos b38]) ?_
          have b39 : gl (A0 2) (n1) = 92 := by rw [e21] at b38; exact b38
          refine k_iload 113 rfl gs_eq rfl ?_
          exact k_fin rfl rfl ⟨_, _, _, _, _, _, rfl, I19, (by unfold p_X7_sortOf; rw [if_pos b12, if_pos b25, if_pos b27, if_neg b29, if_neg b31, if_neg b33, if_neg b35, if_neg b37, if_pos b39]; exact e21), (by unfold p_X7_sortOf; rw [if_pos b12, if_pos b25, if_pos b27, if_neg b29, if_neg b31, if_neg b33, if_neg b35, if_neg b37, if_pos b39]), (by unfold p_X7_sortOf; rw [if_pos b12, if_pos b25, if_pos b27, if_neg b29, if_neg b31, if_neg b33, if_neg b35, if_neg b37, if_pos b39])⟩
        have b39 : ¬ (gl (A0 2) (n1) = 92) := by rw [e21] at b38; exact b38
        refine k_sw 114 rfl (by simp only [am_lk]; rw [if_neg b28, if_neg b30, if_neg b32, if_neg b34, if_neg b36, if_neg b38]) ?_
        refine k_push 115 rfl rfl ?_
        have hc40 : (1 : Int32).toInt = 1 := by decide
        exact k_fin rfl rfl ⟨_, _, _, _, _, _, rfl, I19, (by unfold p_X7_sortOf; rw [if_pos b12, if_pos b25, if_pos b27, if_neg b29, if_neg b31, if_neg b33, if_neg b35, if_neg b37, if_neg b39]; exact hc40), (by unfold p_X7_sortOf; rw [if_pos b12, if_pos b25, if_pos b27, if_neg b29, if_neg b31, if_neg b33, if_neg b35, if_neg b37, if_neg b39]), (by unfold p_X7_sortOf; rw [if_pos b12, if_pos b25, if_pos b27, if_neg b29, if_neg b31, if_neg b33, if_neg b35, if_neg b37, if_neg b39])⟩
      · refine k_c2 43 rfl rfl (if_neg b27) ?_
        have b27 : ¬ (gl (A0 2) (n1) < 48) := by have h9 := mt iv_lt.mpr b27; rw [e21] at h9; rw [hc26] at h9; exact h9
        refine k_iload 44 rfl gs_eq rfl ?_
        refine k_push 46 rfl rfl ?_
        have hc41 : (57 : Int32).toInt = 57 := by decide
        by_cases b42 : (57 : Int32) < x13
        · refine k_c2 52 rfl rfl (if_pos b42) ?_
          have b42 : 57 < gl (A0 2) (n1) := by have h9 := iv_lt.mp b42; rw [e21] at h9; rw [hc41] at h9; exact h9
          refine k_iload 53 rfl gs_eq rfl ?_
          by_cases b43 : x13.toInt = 40
          · refine k_sw 112 rfl (by simp only [am_lk]; rw [if_pos b43]) ?_
            have b44 : gl (A0 2) (n1) = 40 := by rw [e21] at b43; exact b43
            refine k_iload 113 rfl gs_eq rfl ?_
            exact k_fin rfl rfl ⟨_, _, _, _, _, _, rfl, I19, (by unfold p_X7_sortOf; rw [if_pos b12, if_pos b25, if_neg b27, if_pos b42, if_pos b44]; exact e21), (by unfold p_X7_sortOf; rw [if_pos b12, if_pos b25, if_neg b27, if_pos b42, if_pos b44]), (by unfold p_X7_sortOf; rw [if_pos b12, if_pos b25, if_neg b27, if_pos b42, if_pos b44])⟩
          have b44 : ¬ (gl (A0 2) (n1) = 40) := by rw [e21] at b43; exact b43
          by_cases b45 : x13.toInt = 41
          · refine k_sw 112 rfl (by simp only [am_lk]; rw [if_neg b43, if_pos b45]) ?_
            have b46 : gl (A0 2) (n1) = 41 := by rw [e21] at b45; exact b45
            refine k_iload 113 rfl gs_eq rfl ?_
            exact k_fin rfl rfl ⟨_, _, _, _, _, _, rfl, I19, (by unfold p_X7_sortOf; rw [if_pos b12, if_pos b25, if_neg b27, if_pos b42, if_neg b44, if_pos b46]; exact e21), (by unfold p_X7_sortOf; rw [if_pos b12, if_pos b25, if_neg b27, if_pos b42, if_neg b44, if_pos b46]), (by unfold p_X7_sortOf; rw [if_pos b12, if_pos b25, if_neg b27, if_pos b42, if_neg b44, if_pos b46])⟩
          have b46 : ¬ (gl (A0 2) (n1) = 41) := by rw [e21] at b45; exact b45
          by_cases b47 : x13.toInt = 46
          · refine k_sw 112 rfl (by simp only [am_lk]; rw [if_neg b43, if_neg b45, if_pos b47]) ?_
            have b48 : gl (A0 2) (n1) = 46 := by rw [e21] at b47; exact b47
            refine k_iload 113 rfl gs_eq rfl ?_
            exact k_fin rfl rfl ⟨_, _, _, _, _, _, rfl, I19, (by unfold p_X7_sortOf; rw [if_pos b12, if_pos b25, if_neg b27, if_pos b42, if_neg b44, if_neg b46, if_pos b48]; exact e21), (by unfold p_X7_sortOf; rw [if_pos b12, if_pos b25, if_neg b27, if_pos b42, if_neg b44, if_neg b46, if_pos b48]), (by unfold p_X7_sortOf; rw [if_pos b12, if_pos b25, if_neg b27, if_pos b42, if_neg b44, if_neg b46, if_pos b48])⟩
          have b48 : ¬ (gl (A0 2) (n1) = 46) := by rw [e21] at b47; exact b47
          by_cases b49 : x13.toInt = 59
          · refine k_sw 112 rfl (by simp only [am_lk]; rw [if_neg b43, if_neg b45, if_neg b47, if_pos b49]) ?_
            have b50 : gl (A0 2) (n1) = 59 := by rw [e21] at b49; exact b49
            refine k_iload 113 rfl gs_eq rfl ?_
            exact k_fin rfl rfl ⟨_, _, _, _, _, _, rfl, I19, (by unfold p_X7_sortOf; rw [if_pos b12, if_pos b25, if_neg b27, if_pos b42, if_neg b44, if_neg b46, if_neg b48, if_pos b50]; exact e21), (by unfold p_X7_sortOf; rw [if_pos b12, if_pos b25, if_neg b27, if_pos b42, if_neg b44, if_neg b46, if_neg b48, if_pos b50]), (by unfold p_X7_sortOf; rw [if_pos b12, if_pos b25, if_neg b27, if_pos b42, if_neg b44, if_neg b46, if_neg b48, if_pos b50])⟩
          have b50 : ¬ (gl (A0 2) (n1) = 59) := by rw [e21] at b49; exact b49
          by_cases b51 : x13.toInt = 61
          · refine k_sw 112 rfl (by simp only [am_lk]; rw [if_neg b43, if_neg b45, if_neg b47, if_neg b49, if_pos b51]) ?_
            have b52 : gl (A0 2) (n1) = 61 := by rw [e21] at b51; exact b51
            refine k_iload 113 rfl gs_eq rfl ?_
            exact k_fin rfl rfl ⟨_, _, _, _, _, _, rfl, I19, (by unfold p_X7_sortOf; rw [if_pos b12, if_pos b25, if_neg b27, if_pos b42, if_neg b44, if_neg b46, if_neg b48, if_neg b50, if_pos b52]; exact e21), (by unfold p_X7_sortOf; rw [if_pos b12, if_pos b25, if_neg b27, if_pos b42, if_neg b44, if_neg b46, if_neg b48, if_neg b50, if_pos b52]), (by unfold p_X7_sortOf; rw [if_pos b12, if_pos b25, if_neg b27, if_pos b42, if_neg b44, if_neg b46, if_neg b48, if_neg b50, if_pos b52])⟩
          have b52 : ¬ (gl (A0 2) (n1) = 61) := by rw [e21] at b51; exact b51
          by_cases b53 : x13.toInt = 92
          · refine k_sw 112 rfl (by simp only [am_lk]; rw [if_neg b43, if_neg b45, if_neg b47, if_neg b49, if_neg b51, if_pos b53]) ?_
            have b54 : gl (A0 2) (n1) = 92 := by rw [e21] at b53; exact b53
            refine k_iload 113 rfl gs_eq rfl ?_
            exact k_fin rfl rfl ⟨_, _, _, _, _, _, rfl, I19, (by unfold p_X7_sortOf; rw [if_pos b12, if_pos b25, if_neg b27, if_pos b42, if_neg b44, if_neg b46, if_neg b48, if_neg b50, if_neg b52, if_pos b54]; exact e21), (by unfold p_X7_sortOf; rw [if_pos b12, if_pos b25, if_neg b27, if_pos b42, if_neg b44, if_neg b46, if_neg b48, if_neg b50, if_neg b52, if_pos b54]), (by unfold p_X7_sortOf; rw [if_pos b12, if_pos b25, if_neg b27, if_pos b42, if_neg b44, if_neg b46, if_neg b48, if_neg b50, if_neg b52, if_pos b54])⟩
          have b54 : ¬ (gl (A0 2) (n1) = 92) := by rw [e21] at b53; exact b53
          refine k_sw 114 rfl (by simp only [am_lk]; rw [if_neg b43, if_neg b45, if_neg b47, if_neg b49, if_neg b51, if_neg b53]) ?_
          refine k_push 115 rfl rfl ?_
          have hc55 : (1 : Int32).toInt = 1 := by decide
          exact k_fin rfl rfl ⟨_, _, _, _, _, _, rfl, I19, (by unfold p_X7_sortOf; rw [if_pos b12, if_pos b25, if_neg b27, if_pos b42, if_neg b44, if_neg b46, if_neg b48, if_neg b50, if_neg b52, if_neg b54]; exact hc55), (by unfold p_X7_sortOf; rw [if_pos b12, if_pos b25, if_neg b27, if_pos b42, if_neg b44, if_neg b46, if_neg b48, if_neg b50, if_neg b52, if_neg b54]), (by unfold p_X7_sortOf; rw [if_pos b12, if_pos b25, if_neg b27, if_pos b42, if_neg b44, if_neg b46, if_neg b48, if_neg b50, if_neg b52, if_neg b54])⟩
        · refine k_c2 49 rfl rfl (if_neg b42) ?_
          have b42 : ¬ (57 < gl (A0 2) (n1)) := by have h9 := mt iv_lt.mpr b42; rw [e21] at h9; rw [hc41] at h9; exact h9
          refine k_push 51 rfl rfl ?_
          exact k_fin rfl rfl ⟨_, _, _, _, _, _, rfl, I19, (by unfold p_X7_sortOf; rw [if_pos b12, if_pos b25, if_neg b27, if_neg b42]; exact hc26), (by unfold p_X7_sortOf; rw [if_pos b12, if_pos b25, if_neg b27, if_neg b42]), (by unfold p_X7_sortOf; rw [if_pos b12, if_pos b25, if_neg b27, if_neg b42])⟩
    · refine k_c2 28 rfl rfl (if_neg b25) ?_
      have b25 : ¬ (gl (A0 2) (n1) < 97) := by have h9 := mt iv_lt.mpr b25; rw [e21] at h9; rw [hc24] at h9; exact h9
      refine k_iload 29 rfl gs_eq rfl ?_
      refine k_push 31 rfl rfl ?_
      have hc56 : (122 : Int32).toInt = 122 := by decide
      by_cases b57 : (122 : Int32) < x13
      · refine k_c2 37 rfl rfl (if_pos b57) ?_
        have b57 : 122 < gl (A0 2) (n1) := by have h9 := iv_lt.mp b57; rw [e21] at h9; rw [hc56] at h9; exact h9
        refine k_iload 38 rfl gs_eq rfl ?_
        refine k_push 40 rfl rfl ?_
        have hc58 : (48 : Int32).toInt = 48 := by decide
        by_cases b59 : x13 < (48 : Int32)
        · refine k_c2 52 rfl rfl (if_pos b59) ?_
          have b59 : gl (A0 2) (n1) < 48 := by have h9 := iv_lt.mp b59; rw [e21] at h9; rw [hc58] at h9; exact h9
          refine k_iload 53 rfl gs_eq rfl ?_
          by_cases b60 : x13.toInt = 40
          · refine k_sw 112 rfl (by simp only [am_lk]; rw [if_pos b60]) ?_
            have b61 : gl (A0 2) (n1) = 40 := by rw [e21] at b60; exact b60
            refine k_iload 113 rfl gs_eq rfl ?_
            exact k_fin rfl rfl ⟨_, _, _, _, _, _, rfl, I19, (by unfold p_X7_sortOf; rw [if_pos b12, if_neg b25, if_pos b57, if_pos b59, if_pos b61]; exact e21), (by unfold p_X7_sortOf; rw [if_pos b12, if_neg b25, if_pos b57, if_pos b59, if_pos b61]), (by unfold p_X7_sortOf; rw [if_pos b12, if_neg b25, if_pos b57, if_pos b59, if_pos b61])⟩
          have b61 : ¬ (gl (A0 2) (n1) = 40) := by rw [e21] at b60; exact b60
          by_cases b62 : x13.toInt = 41
          · refine k_sw 112 rfl (by simp only [am_lk]; rw [if_neg b60, if_pos b62]) ?_
            have b63 : gl (A0 2) (n1) = 41 := by rw [e21] at b62; exact b62
            refine k_iload 113 rfl gs_eq rfl ?_
            exact k_fin rfl rfl ⟨_, _, _, _, _, _, rfl, I19, (by unfold p_X7_sortOf; rw [if_pos b12, if_neg b25, if_pos b57, if_pos b59, if_neg b61, if_pos b63]; exact e21), (by unfold p_X7_sortOf; rw [if_pos b12, if_neg b25, if_pos b57, if_pos b59, if_neg b61, if_pos b63]), (by unfold p_X7_sortOf; rw [if_pos b12, if_neg b25, if_pos b57, if_pos b59, if_neg b61, if_pos b63])⟩
          have b63 : ¬ (gl (A0 2) (n1) = 41) := by rw [e21] at b62; exact b62
          by_cases b64 : x13.toInt = 46
          · refine k_sw 112 rfl (by simp only [am_lk]; rw [if_neg b60, if_neg b62, if_pos b64]) ?_
            have b65 : gl (A0 2) (n1) = 46 := by rw [e21] at b64; exact b64
            refine k_iload 113 rfl gs_eq rfl ?_
            exact k_fin rfl rfl ⟨_, _, _, _, _, _, rfl, I19, (by unfold p_X7_sortOf; rw [if_pos b12, if_neg b25, if_pos b57, if_pos b59, if_neg b61, if_neg b63, if_pos b65]; exact e21), (by unfold p_X7_sortOf; rw [if_pos b12, if_neg b25, if_pos b57, if_pos b59, if_neg b61, if_neg b63, if_pos b65]), (by unfold p_X7_sortOf; rw [if_pos b12, if_neg b25, if_pos b57, if_pos b59, if_neg b61, if_neg b63, if_pos b65])⟩
          have b65 : ¬ (gl (A0 2) (n1) = 46) := by rw [e21] at b64; exact b64
          by_cases b66 : x13.toInt = 59
          · refine k_sw 112 rfl (by simp only [am_lk]; rw [if_neg b60, if_neg b62, if_neg b64, if_pos b66]) ?_
            have b67 : gl (A0 2) (n1) = 59 := by rw [e21] at b66; exact b66
            refine k_iload 113 rfl gs_eq rfl ?_
            exact k_fin rfl rfl ⟨_, _, _, _, _, _, rfl, I19, (by unfold p_X7_sortOf; rw [if_pos b12, if_neg b25, if_pos b57, if_pos b59, if_neg b61, if_neg b63, if_neg b65, if_pos b67]; exact e21), (by unfold p_X7_sortOf; rw [if_pos b12, if_neg b25, if_pos b57, if_pos b59, if_neg b61, if_neg b63, if_neg b65, if_pos b67]), (by unfold p_X7_sortOf; rw [if_pos b12, if_neg b25, if_pos b57, if_pos b59, if_neg b61, if_neg b63, if_neg b65, if_pos b67])⟩
          have b67 : ¬ (gl (A0 2) (n1) = 59) := by rw [e21] at b66; exact b66
          by_cases b68 : x13.toInt = 61
          · refine k_sw 112 rfl (by simp only [am_lk]; rw [if_neg b60, if_neg b62, if_neg b64, if_neg b66, if_pos b68]) ?_
            have b69 : gl (A0 2) (n1) = 61 := by rw [e21] at b68; exact b68
            refine k_iload 113 rfl gs_eq rfl ?_
            exact k_fin rfl rfl ⟨_, _, _, _, _, _, rfl, I19, (by unfold p_X7_sortOf; rw [if_pos b12, if_neg b25, if_pos b57, if_pos b59, if_neg b61, if_neg b63, if_neg b65, if_neg b67, if_pos b69]; exact e21), (by unfold p_X7_sortOf; rw [if_pos b12, if_neg b25, if_pos b57, if_pos b59, if_neg b61, if_neg b63, if_neg b65, if_neg b67, if_pos b69]), (by unfold p_X7_sortOf; rw [if_pos b12, if_neg b25, if_pos b57, if_pos b59, if_neg b61, if_neg b63, if_neg b65, if_neg b67, if_pos b69])⟩
          have b69 : ¬ (gl (A0 2) (n1) = 61) := by rw [e21] at b68; exact b68
          by_cases b70 : x13.toInt = 92
          · refine k_sw 112 rfl (by simp only [am_lk]; rw [if_neg b60, if_neg b62, if_neg b64, if_neg b66, if_neg b68, if_pos b70]) ?_
            have b71 : gl (A0 2) (n1) = 92 := by rw [e21] at b70; exact b70
            refine k_iload 113 rfl gs_eq rfl ?_
            exact k_fin rfl rfl ⟨_, _, _, _, _, _, rfl, I19, (by unfold p_X7_sortOf; rw [if_pos b12, if_neg b25, if_pos b57, if_pos b59, if_neg b61, if_neg b63, if_neg b65, if_neg b67, if_neg b69, if_pos b71]; exact e21), (by unfold p_X7_sortOf; rw [if_pos b12, if_neg b25, if_pos b57, if_pos b59, if_neg b61, if_neg b63, if_neg b65, if_neg b67, if_neg b69, if_pos b71]), (by unfold p_X7_sortOf; rw [if_pos b12, if_neg b25, if_pos b57, if_pos b59, if_neg b61, if_neg b63, if_neg b65, if_neg b67, if_neg b69, if_pos b71])⟩
          have b71 : ¬ (gl (A0 2) (n1) = 92) := by rw [e21] at b70; exact b70
          refine k_sw 114 rfl (by simp only [am_lk]; rw [if_neg b60, if_neg b62, if_neg b64, if_neg b66, if_neg b68, if_neg b70]) ?_
          refine k_push 115 rfl rfl ?_
          have hc72 : (1 : Int32).toInt = 1 := by decide
          exact k_fin rfl rfl ⟨_, _, _, _, _, _, rfl, I19, (by unfold p_X7_sortOf; rw [if_pos b12, if_neg b25, if_pos b57, if_pos b59, if_neg b61, if_neg b63, if_neg b65, if_neg b67, if_neg b69, if_neg b71]; exact hc72), (by unfold p_X7_sortOf; rw [if_pos b12, if_neg b25, if_pos b57, if_pos b59, if_neg b61, if_neg b63, if_neg b65, if_neg b67, if_neg b69, if_neg b71]), (by unfold p_X7_sortOf; rw [if_pos b12, if_neg b25, if_pos b57, if_pos b59, if_neg b61, if_neg b63, if_neg b65, if_neg b67, if_neg b69, if_neg b71])⟩
        · refine k_c2 43 rfl rfl (if_neg b59) ?_
          have b59 : ¬ (gl (A0 2) (n1) < 48) := by have h9 := mt iv_lt.mpr b59; rw [e21] at h9; rw [hc58] at h9; exact h9
          refine k_iload 44 rfl gs_eq rfl ?_
          refine k_push 46 rfl rfl ?_
          have hc73 : (57 : Int32).toInt = 57 := by decide
          by_cases b74 : (57 : Int32) < x13
          · refine k_c2 52 rfl rfl (if_pos b74) ?_
            have b74 : 57 < gl (A0 2) (n1) := by have h9 := iv_lt.mp b74; rw [e21] at h9; rw [hc73] at h9; exact h9
            refine k_iload 53 rfl gs_eq rfl ?_
            by_cases b75 : x13.toInt = 40
            · refine k_sw 112 rfl (by simp only [am_lk]; rw [if_pos b75]) ?_
              have b76 : gl (A0 2) (n1) = 40 := by rw [e21] at b75; exact b75
              refine k_iload 113 rfl gs_eq rfl ?_
              exact k_fin rfl rfl ⟨_, _, _, _, _, _, rfl, I19, (by unfold p_X7_sortOf; rw [if_pos b12, if_neg b25, if_pos b57, if_neg b59, if_pos b74, if_pos b76]; exact e21), (by unfold p_X7_sortOf; rw [if_pos b12, if_neg b25, if_pos b57, if_neg b59, if_pos b74, if_pos b76]), (by unfold p_X7_sortOf; rw [if_pos b12, if_neg b25, if_pos b57, if_neg b59, if_pos b74, if_pos b76])⟩
            have b76 : ¬ (gl (A0 2) (n1) = 40) := by rw [e21] at b75; exact b75
            by_cases b77 : x13.toInt = 41
            · refine k_sw 112 rfl (by simp only [am_lk]; rw [if_neg b75, if_pos b77]) ?_
              have b78 : gl (A0 2) (n1) = 41 := by rw [e21] at b77; exact b77
              refine k_iload 113 rfl gs_eq rfl ?_
              exact k_fin rfl rfl ⟨_, _, _, _, _, _, rfl, I19, (by unfold p_X7_sortOf; rw [if_pos b12, if_neg b25, if_pos b57, if_neg b59, if_pos b74, if_neg b76, if_pos b78]; exact e21), (by unfold p_X7_sortOf; rw [if_pos b12, if_neg b25, if_pos b57, if_neg b59, if_pos b74, if_neg b76, if_pos b78]), (by unfold p_X7_sortOf; rw [if_pos b12, if_neg b25, if_pos b57, if_neg b59, if_pos b74, if_neg b76, if_pos b78])⟩
            have b78 : ¬ (gl (A0 2) (n1) = 41) := by rw [e21] at b77; exact b77
            by_cases b79 : x13.toInt = 46
            · refine k_sw 112 rfl (by simp only [am_lk]; rw [if_neg b75, if_neg b77, if_pos b79]) ?_
              have b80 : gl (A0 2) (n1) = 46 := by rw [e21] at b79; exact b79
              refine k_iload 113 rfl gs_eq rfl ?_
              exact k_fin rfl rfl ⟨_, _, _, _, _, _, rfl, I19, (by unfold p_X7_sortOf; rw [if_pos b12, if_neg b25, if_pos b57, if_neg b59, if_pos b74, if_neg b76, if_neg b78, if_pos b80]; exact e21), (by unfold p_X7_sortOf; rw [if_pos b12, if_neg b25, if_pos b57, if_neg b59, if_pos b74, if_neg b76, if_neg b78, if_pos b80]), (by unfold p_X7_sortOf; rw [if_pos b12, if_neg b25, if_pos b57, if_neg b59, if_pos b74, if_neg b76, if_neg b78, if_pos b80])⟩
            have b80 : ¬ (gl (A0 2) (n1) = 46) := by rw [e21] at b79; exact b79
            by_cases b81 : x13.toInt = 59
            · refine k_sw 112 rfl (by simp only [am_lk]; rw [if_neg b75, if_neg b77, if_neg b79, if_pos b81]) ?_
              have b82 : gl (A0 2) (n1) = 59 := by rw [e21] at b81; exact b81
              refine k_iload 113 rfl gs_eq rfl ?_
              exact k_fin rfl rfl ⟨_, _, _, _, _, _, rfl, I19, (by unfold p_X7_sortOf; rw [if_pos b12, if_neg b25, if_pos b57, if_neg b59, if_pos b74, if_neg b76, if_neg b78, if_neg b80, if_pos b82]; exact e21), (by unfold p_X7_sortOf; rw [if_pos b12, if_neg b25, if_pos b57, if_neg b59, if_pos b74, if_neg b76, if_neg b78, if_neg b80, if_pos b82]), (by unfold p_X7_sortOf; rw [if_pos b12, if_neg b25, if_pos b57, if_neg b59, if_pos b74, if_neg b76, if_neg b78, if_neg b80, if_pos b82])⟩
            have b82 : ¬ (gl (A0 2) (n1) = 59) := by rw [e21] at b81; exact b81
            by_cases b83 : x13.toInt = 61
            · refine k_sw 112 rfl (by simp only [am_lk]; rw [if_neg b75, if_neg b77, if_neg b79, if_neg b81, if_pos b83]) ?_
              have b84 : gl (A0 2) (n1) = 61 := by rw [e21] at b83; exact b83
              refine k_iload 113 rfl gs_eq rfl ?_
              exact k_fin rfl rfl ⟨_, _, _, _, _, _, rfl, I19, (by unfold p_X7_sortOf; rw [if_pos b12, if_neg b25, if_pos b57, if_neg b59, if_pos b74, if_neg b76, if_neg b78, if_neg b80, if_neg b82, if_pos b84]; exact e21), (by unfold p_X7_sortOf; rw [if_pos b12, if_neg b25, if_pos b57, if_neg b59, if_pos b74, if_neg b76, if_neg b78, if_neg b80, if_neg b82, if_pos b84]), (by unfold p_X7_sortOf; rw [if_pos b12, if_neg b25, if_pos b57, if_neg b59, if_pos b74, if_neg b76, if_neg b78, if_neg b80, if_neg b82, if_pos b84])⟩
            have b84 : ¬ (gl (A0 2) (n1) = 61) := by rw [e21] at b83; exact b83
            by_cases b85 : x13.toInt = 92
            · refine k_sw 112 rfl (by simp only [am_lk]; rw [if_neg b75, if_neg b77, if_neg b79, if_neg b81, if_neg b83, if_pos b85]) ?_
              have b86 : gl (A0 2) (n1) = 92 := by rw [e21] at b85; exact b85
              refine k_iload 113 rfl gs_eq rfl ?_
              exact k_fin rfl rfl ⟨_, _, _, _, _, _, rfl, I19, (by unfold p_X7_sortOf; rw [if_pos b12, if_neg b25, if_pos b57, if_neg b59, if_pos b74, if_neg b76, if_neg b78, if_neg b80, if_neg b82, if_neg b84, if_pos b86]; exact e21), (by unfold p_X7_sortOf; rw [if_pos b12, if_neg b25, if_pos b57, if_neg b59, if_pos b74, if_neg b76, if_neg b78, if_neg b80, if_neg b82, if_neg b84, if_pos b86]), (by unfold p_X7_sortOf; rw [if_pos b12, if_neg b25, if_pos b57, if_neg b59, if_pos b74, if_neg b76, if_neg b78, if_neg b80, if_neg b82, if_neg b84, if_pos b86])⟩
            have b86 : ¬ (gl (A0 2) (n1) = 92) := by rw [e21] at b85; exact b85
            refine k_sw 114 rfl (by simp only [am_lk]; rw [if_neg b75, if_neg b77, if_neg b79, if_neg b81, if_neg b83, if_neg b85]) ?_
            refine k_push 115 rfl rfl ?_
            have hc87 : (1 : Int32).toInt = 1 := by decide
            exact k_fin rfl rfl ⟨_, _, _, _, _, _, rfl, I19, (by unfold p_X7_sortOf; rw [if_pos b12, if_neg b25, if_pos b57, if_neg b59, if_pos b74, if_neg b76, if_neg b78, if_neg b80, if_neg b82, if_neg b84, if_neg b86]; exact hc87), (by unfold p_X7_sortOf; rw [if_pos b12, if_neg b25, if_pos b57, if_neg b59, if_pos b74, if_neg b76, if_neg b78, if_neg b80, if_neg b82, if_neg b84, if_neg b86]), (by unfold p_X7_sortOf; rw [if_pos b12, if_neg b25, if_pos b57, if_neg b59, if_pos b74, if_neg b76, if_neg b78, if_neg b80, if_neg b82, if_neg b84, if_neg b86])⟩
          · refine k_c2 49 rfl rfl (if_neg b74) ?_
            have b74 : ¬ (57 < gl (A0 2) (n1)) := by have h9 := mt iv_lt.mpr b74; rw [e21] at h9; rw [hc73] at h9; exact h9
            refine k_push 51 rfl rfl ?_
            exact k_fin rfl rfl ⟨_, _, _, _, _, _, rfl, I19, (by unfold p_X7_sortOf; rw [if_pos b12, if_neg b25, if_pos b57, if_neg b59, if_neg b74]; exact hc58), (by unfold p_X7_sortOf; rw [if_pos b12, if_neg b25, if_pos b57, if_neg b59, if_neg b74]), (by unfold p_X7_sortOf; rw [if_pos b12, if_neg b25, if_pos b57, if_neg b59, if_neg b74])⟩
      · refine k_c2 34 rfl rfl (if_neg b57) ?_
        have b57 : ¬ (122 < gl (A0 2) (n1)) := by have h9 := mt iv_lt.mpr b57; rw [e21] at h9; rw [hc56] at h9; exact h9
        refine k_push 36 rfl rfl ?_
        exact k_fin rfl rfl ⟨_, _, _, _, _, _, rfl, I19, (by unfold p_X7_sortOf; rw [if_pos b12, if_neg b25, if_neg b57]; exact hc24), (by unfold p_X7_sortOf; rw [if_pos b12, if_neg b25, if_neg b57]), (by unfold p_X7_sortOf; rw [if_pos b12, if_neg b25, if_neg b57])⟩
  · refine k_c2 11 rfl rfl (if_neg b12) ?_
    have b12 : ¬ (n1 < (((A0 2).length : Nat) : Int)) := by have h9 := mt iv_lt.mpr b12; rw [hn1] at h9; rw [e9] at h9; exact h9
    refine k_push 12 rfl rfl ?_
    have hc88 : (0 : Int32).toInt = 0 := by decide
    exact k_fin rfl rfl ⟨_, _, _, _, _, _, rfl, I7, (by unfold p_X7_sortOf; rw [if_neg b12]; exact hc88), (by unfold p_X7_sortOf; rw [if_neg b12]), (by unfold p_X7_sortOf; rw [if_neg b12])⟩
end
