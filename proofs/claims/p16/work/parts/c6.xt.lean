/-! THE CLASS's tokens, exactly -/
section BX
variable {x y q : Int32} {a b : Int}
theorem bx_add (h : q = x + y) (h1 : x.toInt = a) (h2 : y.toInt = b) (l : -2147483648 ≤ a + b) (u : a + b < 2147483648) : q.toInt = a + b := (bm_add h h1 h2).trans (bm_id l u)
theorem bx_sub (h : q = x - y) (h1 : x.toInt = a) (h2 : y.toInt = b) (l : -2147483648 ≤ a - b) (u : a - b < 2147483648) : q.toInt = a - b := (bm_sub h h1 h2).trans (bm_id l u)
theorem bx_mul (h : q = x * y) (h1 : x.toInt = a) (h2 : y.toInt = b) (l : -2147483648 ≤ a * b) (u : a * b < 2147483648) : q.toInt = a * b := (bm_mul h h1 h2).trans (bm_id l u)
theorem tS_n2 {T : List Int} {q : Int} (h0 : 0 ≤ q) (h1 : q < (T.length : Int)) (hb : gl T q = 32 ∨ gl T q = 10) : tS T (q + 1) = tS T q := by
  unfold tS
  refine (tw_step h0 h1 ?_).symm
  unfold bl
  exact decide_eq_true hb
theorem tS_q2 {T : List Int} {q : Int} (h0 : 0 ≤ q) (h : q < (T.length : Int) → ¬ (gl T q = 32 ∨ gl T q = 10)) : tS T q = q := by
  by_cases z : q < (T.length : Int)
  · unfold tS
    refine tw_stop h0 ?_
    unfold bl
    exact decide_eq_false (h z)
  · exact tw_end (by omega)
theorem bx_div (h : q = x / y) (h1 : x.toInt = a) (h2 : y.toInt = 2) (l : 0 ≤ a) : q.toInt = a / 2 := by
  subst h1
  rw [h]
  exact iv_div 2 h2 (by decide) l
end BX
section
def p_X7_behindBlanks (n1 : Int) (F0 : rf_f) (A0 : xl_A) : Int × rf_f × xl_A := (tS (A0 2) n1, F0, A0)
theorem yl_X7_behindBlanks_2 {h0 : am_h} {F0 : rf_f} {A0 : xl_A} {w1 : Int32} {n1 : Int} (hn1 : w1.toInt = n1)  (hp1 : 0 ≤ n1 ∧ n1 ≤ ((A0 2).length : Int)) (hp2 : ((A0 2).length : Int) ≤ 700) : ∀ (n : Nat) {lv : am_l} {h : am_h} {c s : Nat} {u1 : Int32} {v1 : Int} {u2 : Int32} {v2 : Int}, ((701 - v2).toNat) = n → am_get lv 0 = some (.inr (.inr (some 15))) → am_get lv 1 = some (.inl u1) → am_get lv 2 = some (.inl u2) → u1.toInt = v1 → u2.toInt = v2 → xI h0 (ob_P h0) h c s F0 A0 → am_okL h.length lv = true → (0 ≤ v2 ∧ v2 ≤ ((A0 2).length : Int)) → (tS (A0 2) v2 = tS (A0 2) n1) → am_Ok am_G 1 113 (2, lv, [], h, c, s) (xQ h0 (fun x F' A' => x = (p_X7_behindBlanks n1 F0 A0).1 ∧ F' = (p_X7_behindBlanks n1 F0 A0).2.1 ∧ A' = (p_X7_behindBlanks n1 F0 A0).2.2)) := by
  intro n
  induction n using Nat.strongRecOn with
  | ind n ih =>
    intro lv h c s u1 v1 u2 v2   hm g0 g1 g2 hv1 hv2 hI hL i1 i2
    refine k_iload 3 rfl g2 rfl ?_
    refine k_aload 4 rfl g0 rfl ?_
    refine x_gF 2 hI 7 rfl rfl (by decide) rfl ?_
    refine k_xq hI rfl (xv_size hI.1 or2) rfl rfl rfl (ty_H.rc3 hI.T or2) hL (so_i so_n) ?_
    rintro x1 h2 c3 s4 F5 A6 I7 L8 ⟨e9, k10, k11⟩
    replace k10 := k10.symm
    subst k10
    replace k11 := k11.symm
    subst k11
    show am_Ok _ _ _ (10, _, [.inl x1, .inl u2], _, c3, s4) _
    by_cases b12 : x1 ≤ u2
    · refine k_c2 45 rfl rfl (if_pos b12) ?_
      have b12 : (((A0 2).length : Nat) : Int) ≤ v2 := by have h9 := iv_le.mp b12; rw [hv2] at h9; rw [e9] at h9; exact h9
      refine k_iload 46 rfl g2 rfl ?_
      exact k_fin rfl rfl ⟨_, _, _, _, _, _, rfl, I7, hv2.trans ((tS_q2 (by omega) (fun z => by omega)).symm.trans i2), rfl, rfl⟩
    · refine k_c2 13 rfl rfl (if_neg b12) ?_
      have b12 : ¬ ((((A0 2).length : Nat) : Int) ≤ v2) := by have h9 := mt iv_le.mpr b12; rw [hv2] at h9; rw [e9] at h9; exact h9
      refine k_aload 14 rfl g0 rfl ?_
      refine x_gF 2 I7 17 rfl rfl (by decide) rfl ?_
      refine k_iload 18 rfl g2 rfl ?_
      refine k_xq I7 rfl (y_get hv2 I7.1 or2) rfl rfl rfl (ty_H.rc3 I7.T or2) L8 so_n ?_
      rintro x13 h14 c15 s16 F17 A18 I19 L20 ⟨e21, k22, k23⟩
      replace k22 := k22.symm
      subst k22
      replace k23 := k23.symm
      subst k23
      show am_Ok _ _ _ (21, _, [.inl x13], _, c15, s16) _
      refine k_push 23 rfl rfl ?_
      have hc24 : (32 : Int32).toInt = 32 := by decide
      by_cases b25 : x13 = (32 : Int32)
      · refine k_c2 39 rfl rfl (if_pos b25) ?_
        have b25 : gl (A0 2) (v2) = 32 := by have h9 := iv_eq.mp b25; rw [e21] at h9; rw [hc24] at h9; exact h9
        have hc26 : (1 : Int32).toInt = 1 := by decide
        obtain ⟨x27, q28⟩ : ∃ q : Int32, q = u2 + (1 : Int32) := ⟨_, rfl⟩
        have e29 : x27.toInt = (v2 + 1) := bx_add q28 hv2 hc26 (by omega) (by omega)
        refine k_iinc x27 42 rfl g2 q28.symm rfl ?_
        refine k_goto 2 rfl rfl ?_
        exact ih _ (by omega)  (v1 := v1) (v2 := (v2 + 1)) rfl (gs_ne rfl rfl g0) (gs_ne rfl rfl g1) gs_eq hv1 e29 I19 (okL_set rfl L20) (by omega) ((tS_n2 (by omega) (by omega) (by omega)).trans i2)
      · refine k_c2 26 rfl rfl (if_neg b25) ?_
        have b25 : ¬ (gl (A0 2) (v2) = 32) := by have h9 := mt iv_eq.mpr b25; rw [e21] at h9; rw [hc24] at h9; exact h9
        refine k_aload 27 rfl g0 rfl ?_
        refine x_gF 2 I19 30 rfl rfl (by decide) rfl ?_
        refine k_iload 31 rfl g2 rfl ?_
        refine k_xq I19 rfl (y_get hv2 I19.1 or2) rfl rfl rfl (ty_H.rc3 I19.T or2) L20 so_n ?_
        rintro x30 h31 c32 s33 F34 A35 I36 L37 ⟨e38, k39, k40⟩
        replace k39 := k39.symm
        subst k39
        replace k40 := k40.symm
        subst k40
        show am_Ok _ _ _ (34, _, [.inl x30], _, c32, s33) _
        refine k_push 36 rfl rfl ?_
        have hc41 : (10 : Int32).toInt = 10 := by decide
        by_cases b42 : x30 = (10 : Int32)
        · refine k_c2 39 rfl rfl (if_pos b42) ?_
          have b42 : gl (A0 2) (v2) = 10 := by have h9 := iv_eq.mp b42; rw [e38] at h9; rw [hc41] at h9; exact h9
          have hc43 : (1 : Int32).toInt = 1 := by decide
          obtain ⟨x44, q45⟩ : ∃ q : Int32, q = u2 + (1 : Int32) := ⟨_, rfl⟩
          have e46 : x44.toInt = (v2 + 1) := bx_add q45 hv2 hc43 (by omega) (by omega)
          refine k_iinc x44 42 rfl g2 q45.symm rfl ?_
          refine k_goto 2 rfl rfl ?_
          exact ih _ (by omega)  (v1 := v1) (v2 := (v2 + 1)) rfl (gs_ne rfl rfl g0) (gs_ne rfl rfl g1) gs_eq hv1 e46 I36 (okL_set rfl L37) (by omega) ((tS_n2 (by omega) (by omega) (by omega)).trans i2)
        · refine k_c2 45 rfl rfl (if_neg b42) ?_
          have b42 : ¬ (gl (A0 2) (v2) = 10) := by have h9 := mt iv_eq.mpr b42; rw [e38] at h9; rw [hc41] at h9; exact h9
          refine k_iload 46 rfl g2 rfl ?_
          exact k_fin rfl rfl ⟨_, _, _, _, _, _, rfl, I36, hv2.trans ((tS_q2 (by omega) (fun z => by omega)).symm.trans i2), rfl, rfl⟩
theorem n_X7_behindBlanks {h0 : am_h} {F0 : rf_f} {A0 : xl_A} {w1 : Int32} {n1 : Int} (hn1 : w1.toInt = n1)  (hp1 : 0 ≤ n1 ∧ n1 ≤ ((A0 2).length : Int)) (hp2 : ((A0 2).length : Int) ≤ 700) (hR : xR h0 F0 A0) : am_Mt 2 113 [.inr (.inr (some 15)), .inl w1] h0 (xQ h0 (fun x F' A' => x = (p_X7_behindBlanks n1 F0 A0).1 ∧ F' = (p_X7_behindBlanks n1 F0 A0).2.1 ∧ A' = (p_X7_behindBlanks n1 F0 A0).2.2)) := by
  refine am_Mt.of (D := 1) ?_
  have hI : xI h0 (ob_P h0) h0 0 0 F0 A0 := xI.start hR
  have hL : am_okL h0.length (am_args 0 [.inr (.inr (some 15)), .inl w1]) = true := (okA_r hI.T oc15 (okA_i okA_n))
  refine k_iload 1 rfl rfl rfl ?_
  refine k_istore 2 rfl rfl ?_
  exact yl_X7_behindBlanks_2 hn1  hp1 hp2 _  (v1 := n1) (v2 := n1) rfl (gs_ne rfl rfl rfl) (gs_ne rfl rfl rfl) gs_eq hn1 hn1 hI (okL_set rfl hL) (by omega) (rfl)
def p_X7_sortOf (n1 : Int) (F0 : rf_f) (A0 : xl_A) : Int × rf_f × xl_A := if n1 < (((A0 2).length : Nat) : Int) then if gl (A0 2) (n1) < 97 then if gl (A0 2) (n1) < 48 then if gl (A0 2) (n1) = 40 then (gl (A0 2) (n1), F0, A0) else (if gl (A0 2) (n1) = 41 then (gl (A0 2) (n1), F0, A0) else (if gl (A0 2) (n1) = 46 then (gl (A0 2) (n1), F0, A0) else (if gl (A0 2) (n1) = 59 then (gl (A0 2) (n1), F0, A0) else (if gl (A0 2) (n1) = 61 then (gl (A0 2) (n1), F0, A0) else (if gl (A0 2) (n1) = 92 then (gl (A0 2) (n1), F0, A0) else ((1, F0, A0))))))) else if 57 < gl (A0 2) (n1) then if gl (A0 2) (n1) = 40 then (gl (A0 2) (n1), F0, A0) else (if gl (A0 2) (n1) = 41 then (gl (A0 2) (n1), F0, A0) else (if gl (A0 2) (n1) = 46 then (gl (A0 2) (n1), F0, A0) else (if gl (A0 2) (n1) = 59 then (gl (A0 2) (n1), F0, A0) else (if gl (A0 2) (n1) = 61 then (gl (A0 2) (n1), F0, A0) else (if gl (A0 2) (n1) = 92 then (gl (A0 2) (n1), F0, A0) else ((1, F0, A0))))))) else (48, F0, A0) else if 122 < gl (A0 2) (n1) then if gl (A0 2) (n1) < 48 then if gl (A0 2) (n1) = 40 then (gl (A0 2) (n1), F0, A0) else (if gl (A0 2) (n1) = 41 then (gl (A0 2) (n1), F0, A0) else (if gl (A0 2) (n1) = 46 then (gl (A0 2) (n1), F0, A0) else (if gl (A0 2) (n1) = 59 then (gl (A0 2) (n1), F0, A0) else (if gl (A0 2) (n1) = 61 then (gl (A0 2) (n1), F0, A0) else (if gl (A0 2) (n1) = 92 then (gl (A0 2) (n1), F0, A0) else ((1, F0, A0))))))) else if 57 < gl (A0 2) (n1) then if gl (A0 2) (n1) = 40 then (gl (A0 2) (n1), F0, A0) else (if gl (A0 2) (n1) = 41 then (gl (A0 2) (n1), F0, A0) else (if gl (A0 2) (n1) = 46 then (gl (A0 2) (n1), F0, A0) else (if gl (A0 2) (n1) = 59 then (gl (A0 2) (n1), F0, A0) else (if gl (A0 2) (n1) = 61 then (gl (A0 2) (n1), F0, A0) else (if gl (A0 2) (n1) = 92 then (gl (A0 2) (n1), F0, A0) else ((1, F0, A0))))))) else (48, F0, A0) else (97, F0, A0) else (0, F0, A0)
theorem n_X7_sortOf {h0 : am_h} {F0 : rf_f} {A0 : xl_A} {w1 : Int32} {n1 : Int} (hn1 : w1.toInt = n1)   (hR : xR h0 F0 A0) : am_Mt 2 114 [.inr (.inr (some 15)), .inl w1] h0 (xQ h0 (fun x F' A' => x = (p_X7_sortOf n1 F0 A0).1 ∧ F' = (p_X7_sortOf n1 F0 A0).2.1 ∧ A' = (p_X7_sortOf n1 F0 A0).2.2)) := by
  refine am_Mt.of (D := 1) ?_
  have hI : xI h0 (ob_P h0) h0 0 0 F0 A0 := xI.start hR
  have hL : am_okL h0.length (am_args 0 [.inr (.inr (some 15)), .inl w1]) = true := (okA_r hI.T oc15 (okA_i okA_n))
  refine k_iload 1 rfl rfl rfl ?_
  refine k_aload 2 rfl rfl rfl ?_
  refine x_gF 2 hI 5 rfl rfl (by decide) rfl ?_
  refine k_xq hI rfl (xv_size hI.1 or2) rfl rfl rfl (ty_H.rc3 hI.T or2) hL (so_i so_n) ?_
  rintro x1 h2 c3 s4 F5 A6 I7 L8 ⟨e9, k10, k11⟩
  replace k10 := k10.symm
  subst k10
  replace k11 := k11.symm
  subst k11
  show am_Ok _ _ _ (8, _, [.inl x1, .inl w1], _, c3, s4) _
  by_cases b12 : w1 < x1
  · refine k_c2 13 rfl rfl (if_pos b12) ?_
    have b12 : n1 < (((A0 2).length : Nat) : Int) := by have h9 := iv_lt.mp b12; rw [hn1] at h9; rw [e9] at h9; exact h9
    refine k_aload 14 rfl rfl rfl ?_
    refine x_gF 2 I7 17 rfl rfl (by decide) rfl ?_
    refine k_iload 18 rfl rfl rfl ?_
    refine k_xq I7 rfl (y_get hn1 I7.1 or2) rfl rfl rfl (ty_H.rc3 I7.T or2) L8 so_n ?_
    rintro x13 h14 c15 s16 F17 A18 I19 L20 ⟨e21, k22, k23⟩
    replace k22 := k22.symm
    subst k22
    replace k23 := k23.symm
    subst k23
    show am_Ok _ _ _ (21, _, [.inl x13], _, c15, s16) _
    refine k_istore 22 rfl rfl ?_
    refine k_iload 23 rfl gs_eq rfl ?_
    refine k_push 25 rfl rfl ?_
    have hc24 : (97 : Int32).toInt = 97 := by decide
    by_cases b25 : x13 < (97 : Int32)
    · refine k_c2 37 rfl rfl (if_pos b25) ?_
      have b25 : gl (A0 2) (n1) < 97 := by have h9 := iv_lt.mp b25; rw [e21] at h9; rw [hc24] at h9; exact h9
      refine k_iload 38 rfl gs_eq rfl ?_
      refine k_push 40 rfl rfl ?_
      have hc26 : (48 : Int32).toInt = 48 := by decide
      by_cases b27 : x13 < (48 : Int32)
      · refine k_c2 52 rfl rfl (if_pos b27) ?_
        have b27 : gl (A0 2) (n1) < 48 := by have h9 := iv_lt.mp b27; rw [e21] at h9; rw [hc26] at h9; exact h9
        refine k_iload 53 rfl gs_eq rfl ?_
        by_cases b28 : x13.toInt = 40
        · refine k_sw 112 rfl (by simp only [am_lk]; rw [if_pos b28]) ?_
          have b29 : gl (A0 2) (n1) = 40 := by rw [e21] at b28; exact b28
          refine k_iload 113 rfl gs_eq rfl ?_
          exact k_fin rfl rfl ⟨_, _, _, _, _, _, rfl, I19, (by unfold p_X7_sortOf; rw [if_pos b12, if_pos b25, if_pos b27, if_pos b29]; exact e21), (by unfold p_X7_sortOf; rw [if_pos b12, if_pos b25, if_pos b27, if_pos b29]), (by unfold p_X7_sortOf; rw [if_pos b12, if_pos b25, if_pos b27, if_pos b29])⟩
        have b29 : ¬ (gl (A0 2) (n1) = 40) := by rw [e21] at b28; exact b28
        by_cases b30 : x13.toInt = 41
        · refine k_sw 112 rfl (by simp only [am_lk]; rw [if_neg b28, if_pos b30]) ?_
          have b31 : gl (A0 2) (n1) = 41 := by rw [e21] at b30; exact b30
          refine k_iload 113 rfl gs_eq rfl ?_
          exact k_fin rfl rfl ⟨_, _, _, _, _, _, rfl, I19, (by unfold p_X7_sortOf; rw [if_pos b12, if_pos b25, if_pos b27, if_neg b29, if_pos b31]; exact e21), (by unfold p_X7_sortOf; rw [if_pos b12, if_pos b25, if_pos b27, if_neg b29, if_pos b31]), (by unfold p_X7_sortOf; rw [if_pos b12, if_pos b25, if_pos b27, if_neg b29, if_pos b31])⟩
        have b31 : ¬ (gl (A0 2) (n1) = 41) := by rw [e21] at b30; exact b30
        by_cases b32 : x13.toInt = 46
        · refine k_sw 112 rfl (by simp only [am_lk]; rw [if_neg b28, if_neg b30, if_pos b32]) ?_
          have b33 : gl (A0 2) (n1) = 46 := by rw [e21] at b32; exact b32
          refine k_iload 113 rfl gs_eq rfl ?_
          exact k_fin rfl rfl ⟨_, _, _, _, _, _, rfl, I19, (by unfold p_X7_sortOf; rw [if_pos b12, if_pos b25, if_pos b27, if_neg b29, if_neg b31, if_pos b33]; exact e21), (by unfold p_X7_sortOf; rw [if_pos b12, if_pos b25, if_pos b27, if_neg b29, if_neg b31, if_pos b33]), (by unfold p_X7_sortOf; rw [if_pos b12, if_pos b25, if_pos b27, if_neg b29, if_neg b31, if_pos b33])⟩
        have b33 : ¬ (gl (A0 2) (n1) = 46) := by rw [e21] at b32; exact b32
        by_cases b34 : x13.toInt = 59
        · refine k_sw 112 rfl (by simp only [am_lk]; rw [if_neg b28, if_neg b30, if_neg b32, if_pos b34]) ?_
          have b35 : gl (A0 2) (n1) = 59 := by rw [e21] at b34; exact b34
          refine k_iload 113 rfl gs_eq rfl ?_
          exact k_fin rfl rfl ⟨_, _, _, _, _, _, rfl, I19, (by unfold p_X7_sortOf; rw [if_pos b12, if_pos b25, if_pos b27, if_neg b29, if_neg b31, if_neg b33, if_pos b35]; exact e21), (by unfold p_X7_sortOf; rw [if_pos b12, if_pos b25, if_pos b27, if_neg b29, if_neg b31, if_neg b33, if_pos b35]), (by unfold p_X7_sortOf; rw [if_pos b12, if_pos b25, if_pos b27, if_neg b29, if_neg b31, if_neg b33, if_pos b35])⟩
        have b35 : ¬ (gl (A0 2) (n1) = 59) := by rw [e21] at b34; exact b34
        by_cases b36 : x13.toInt = 61
        · refine k_sw 112 rfl (by simp only [am_lk]; rw [if_neg b28, if_neg b30, if_neg b32, if_neg b34, if_pos b36]) ?_
          have b37 : gl (A0 2) (n1) = 61 := by rw [e21] at b36; exact b36
          refine k_iload 113 rfl gs_eq rfl ?_
          exact k_fin rfl rfl ⟨_, _, _, _, _, _, rfl, I19, (by unfold p_X7_sortOf; rw [if_pos b12, if_pos b25, if_pos b27, if_neg b29, if_neg b31, if_neg b33, if_neg b35, if_pos b37]; exact e21), (by unfold p_X7_sortOf; rw [if_pos b12, if_pos b25, if_pos b27, if_neg b29, if_neg b31, if_neg b33, if_neg b35, if_pos b37]), (by unfold p_X7_sortOf; rw [if_pos b12, if_pos b25, if_pos b27, if_neg b29, if_neg b31, if_neg b33, if_neg b35, if_pos b37])⟩
        have b37 : ¬ (gl (A0 2) (n1) = 61) := by rw [e21] at b36; exact b36
        by_cases b38 : x13.toInt = 92
        · refine k_sw 112 rfl (by simp only [am_lk]; rw [if_neg b28, if_neg b30, if_neg b32, if_neg b34, if_neg b36, if_pos b38]) ?_
          have b39 : gl (A0 2) (n1) = 92 := by rw [e21] at b38; exact b38
          refine k_iload 113 rfl gs_eq rfl ?_
          exact k_fin rfl rfl ⟨_, _, _, _, _, _, rfl, I19, (by unfold p_X7_sortOf; rw [if_pos b12, if_pos b25, if_pos b27, if_neg b29, if_neg b31, if_neg b33, if_neg b35, if_neg b37, if_pos b39]; exact e21), (by unfold p_X7_sortOf; rw [if_pos b12, if_pos b25, if_pos b27, if_neg b29, if_neg b31, if_neg b33, if_neg b35, if_neg b37, if_pos b39]), (by unfold p_X7_sortOf; rw [if_pos b12, if_pos b25, if_pos b27, if_neg b29, if_neg b31, if_neg b33, if_neg b35, if_neg b37, if_pos b39])⟩
        have b39 : ¬ (gl (A0 2) (n1) = 92) := by rw [e21] at b38; exact b38
        refine k_sw 114 rfl (by simp only [am_lk]; rw [if_neg b28, if_neg b30, if_neg b32, if_neg b34, if_neg b36, if_neg b38]) ?_
        refine k_push 115 rfl rfl ?_
        have hc40 : (1 : Int32).toInt = 1 := by decide
        exact k_fin rfl rfl ⟨_, _, _, _, _, _, rfl, I19, (by unfold p_X7_sortOf; rw [if_pos b12, if_pos b25, if_pos b27, if_neg b29, if_neg b31, if_neg b33, if_neg b35, if_neg b37, if_neg b39]; exact hc40), (by unfold p_X7_sortOf; rw [if_pos b12, if_pos b25, if_pos b27, if_neg b29, if_neg b31, if_neg b33, if_neg b35, if_neg b37, if_neg b39]), (by unfold p_X7_sortOf; rw [if_pos b12, if_pos b25, if_pos b27, if_neg b29, if_neg b31, if_neg b33, if_neg b35, if_neg b37, if_neg b39])⟩
      · refine k_c2 43 rfl rfl (if_neg b27) ?_
        have b27 : ¬ (gl (A0 2) (n1) < 48) := by have h9 := mt iv_lt.mpr b27; rw [e21] at h9; rw [hc26] at h9; exact h9
        refine k_iload 44 rfl gs_eq rfl ?_
        refine k_push 46 rfl rfl ?_
        have hc41 : (57 : Int32).toInt = 57 := by decide
        by_cases b42 : (57 : Int32) < x13
        · refine k_c2 52 rfl rfl (if_pos b42) ?_
          have b42 : 57 < gl (A0 2) (n1) := by have h9 := iv_lt.mp b42; rw [e21] at h9; rw [hc41] at h9; exact h9
          refine k_iload 53 rfl gs_eq rfl ?_
          by_cases b43 : x13.toInt = 40
          · refine k_sw 112 rfl (by simp only [am_lk]; rw [if_pos b43]) ?_
            have b44 : gl (A0 2) (n1) = 40 := by rw [e21] at b43; exact b43
            refine k_iload 113 rfl gs_eq rfl ?_
            exact k_fin rfl rfl ⟨_, _, _, _, _, _, rfl, I19, (by unfold p_X7_sortOf; rw [if_pos b12, if_pos b25, if_neg b27, if_pos b42, if_pos b44]; exact e21), (by unfold p_X7_sortOf; rw [if_pos b12, if_pos b25, if_neg b27, if_pos b42, if_pos b44]), (by unfold p_X7_sortOf; rw [if_pos b12, if_pos b25, if_neg b27, if_pos b42, if_pos b44])⟩
          have b44 : ¬ (gl (A0 2) (n1) = 40) := by rw [e21] at b43; exact b43
          by_cases b45 : x13.toInt = 41
          · refine k_sw 112 rfl (by simp only [am_lk]; rw [if_neg b43, if_pos b45]) ?_
            have b46 : gl (A0 2) (n1) = 41 := by rw [e21] at b45; exact b45
            refine k_iload 113 rfl gs_eq rfl ?_
            exact k_fin rfl rfl ⟨_, _, _, _, _, _, rfl, I19, (by unfold p_X7_sortOf; rw [if_pos b12, if_pos b25, if_neg b27, if_pos b42, if_neg b44, if_pos b46]; exact e21), (by unfold p_X7_sortOf; rw [if_pos b12, if_pos b25, if_neg b27, if_pos b42, if_neg b44, if_pos b46]), (by unfold p_X7_sortOf; rw [if_pos b12, if_pos b25, if_neg b27, if_pos b42, if_neg b44, if_pos b46])⟩
          have b46 : ¬ (gl (A0 2) (n1) = 41) := by rw [e21] at b45; exact b45
          by_cases b47 : x13.toInt = 46
          · refine k_sw 112 rfl (by simp only [am_lk]; rw [if_neg b43, if_neg b45, if_pos b47]) ?_
            have b48 : gl (A0 2) (n1) = 46 := by rw [e21] at b47; exact b47
            refine k_iload 113 rfl gs_eq rfl ?_
            exact k_fin rfl rfl ⟨_, _, _, _, _, _, rfl, I19, (by unfold p_X7_sortOf; rw [if_pos b12, if_pos b25, if_neg b27, if_pos b42, if_neg b44, if_neg b46, if_pos b48]; exact e21), (by unfold p_X7_sortOf; rw [if_pos b12, if_pos b25, if_neg b27, if_pos b42, if_neg b44, if_neg b46, if_pos b48]), (by unfold p_X7_sortOf; rw [if_pos b12, if_pos b25, if_neg b27, if_pos b42, if_neg b44, if_neg b46, if_pos b48])⟩
          have b48 : ¬ (gl (A0 2) (n1) = 46) := by rw [e21] at b47; exact b47
          by_cases b49 : x13.toInt = 59
          · refine k_sw 112 rfl (by simp only [am_lk]; rw [if_neg b43, if_neg b45, if_neg b47, if_pos b49]) ?_
            have b50 : gl (A0 2) (n1) = 59 := by rw [e21] at b49; exact b49
            refine k_iload 113 rfl gs_eq rfl ?_
            exact k_fin rfl rfl ⟨_, _, _, _, _, _, rfl, I19, (by unfold p_X7_sortOf; rw [if_pos b12, if_pos b25, if_neg b27, if_pos b42, if_neg b44, if_neg b46, if_neg b48, if_pos b50]; exact e21), (by unfold p_X7_sortOf; rw [if_pos b12, if_pos b25, if_neg b27, if_pos b42, if_neg b44, if_neg b46, if_neg b48, if_pos b50]), (by unfold p_X7_sortOf; rw [if_pos b12, if_pos b25, if_neg b27, if_pos b42, if_neg b44, if_neg b46, if_neg b48, if_pos b50])⟩
          have b50 : ¬ (gl (A0 2) (n1) = 59) := by rw [e21] at b49; exact b49
          by_cases b51 : x13.toInt = 61
          · refine k_sw 112 rfl (by simp only [am_lk]; rw [if_neg b43, if_neg b45, if_neg b47, if_neg b49, if_pos b51]) ?_
            have b52 : gl (A0 2) (n1) = 61 := by rw [e21] at b51; exact b51
            refine k_iload 113 rfl gs_eq rfl ?_
            exact k_fin rfl rfl ⟨_, _, _, _, _, _, rfl, I19, (by unfold p_X7_sortOf; rw [if_pos b12, if_pos b25, if_neg b27, if_pos b42, if_neg b44, if_neg b46, if_neg b48, if_neg b50, if_pos b52]; exact e21), (by unfold p_X7_sortOf; rw [if_pos b12, if_pos b25, if_neg b27, if_pos b42, if_neg b44, if_neg b46, if_neg b48, if_neg b50, if_pos b52]), (by unfold p_X7_sortOf; rw [if_pos b12, if_pos b25, if_neg b27, if_pos b42, if_neg b44, if_neg b46, if_neg b48, if_neg b50, if_pos b52])⟩
          have b52 : ¬ (gl (A0 2) (n1) = 61) := by rw [e21] at b51; exact b51
          by_cases b53 : x13.toInt = 92
          · refine k_sw 112 rfl (by simp only [am_lk]; rw [if_neg b43, if_neg b45, if_neg b47, if_neg b49, if_neg b51, if_pos b53]) ?_
            have b54 : gl (A0 2) (n1) = 92 := by rw [e21] at b53; exact b53
            refine k_iload 113 rfl gs_eq rfl ?_
            exact k_fin rfl rfl ⟨_, _, _, _, _, _, rfl, I19, (by unfold p_X7_sortOf; rw [if_pos b12, if_pos b25, if_neg b27, if_pos b42, if_neg b44, if_neg b46, if_neg b48, if_neg b50, if_neg b52, if_pos b54]; exact e21), (by unfold p_X7_sortOf; rw [if_pos b12, if_pos b25, if_neg b27, if_pos b42, if_neg b44, if_neg b46, if_neg b48, if_neg b50, if_neg b52, if_pos b54]), (by unfold p_X7_sortOf; rw [if_pos b12, if_pos b25, if_neg b27, if_pos b42, if_neg b44, if_neg b46, if_neg b48, if_neg b50, if_neg b52, if_pos b54])⟩
          have b54 : ¬ (gl (A0 2) (n1) = 92) := by rw [e21] at b53; exact b53
          refine k_sw 114 rfl (by simp only [am_lk]; rw [if_neg b43, if_neg b45, if_neg b47, if_neg b49, if_neg b51, if_neg b53]) ?_
          refine k_push 115 rfl rfl ?_
          have hc55 : (1 : Int32).toInt = 1 := by decide
          exact k_fin rfl rfl ⟨_, _, _, _, _, _, rfl, I19, (by unfold p_X7_sortOf; rw [if_pos b12, if_pos b25, if_neg b27, if_pos b42, if_neg b44, if_neg b46, if_neg b48, if_neg b50, if_neg b52, if_neg b54]; exact hc55), (by unfold p_X7_sortOf; rw [if_pos b12, if_pos b25, if_neg b27, if_pos b42, if_neg b44, if_neg b46, if_neg b48, if_neg b50, if_neg b52, if_neg b54]), (by unfold p_X7_sortOf; rw [if_pos b12, if_pos b25, if_neg b27, if_pos b42, if_neg b44, if_neg b46, if_neg b48, if_neg b50, if_neg b52, if_neg b54])⟩
        · refine k_c2 49 rfl rfl (if_neg b42) ?_
          have b42 : ¬ (57 < gl (A0 2) (n1)) := by have h9 := mt iv_lt.mpr b42; rw [e21] at h9; rw [hc41] at h9; exact h9
          refine k_push 51 rfl rfl ?_
          exact k_fin rfl rfl ⟨_, _, _, _, _, _, rfl, I19, (by unfold p_X7_sortOf; rw [if_pos b12, if_pos b25, if_neg b27, if_neg b42]; exact hc26), (by unfold p_X7_sortOf; rw [if_pos b12, if_pos b25, if_neg b27, if_neg b42]), (by unfold p_X7_sortOf; rw [if_pos b12, if_pos b25, if_neg b27, if_neg b42])⟩
    · refine k_c2 28 rfl rfl (if_neg b25) ?_
      have b25 : ¬ (gl (A0 2) (n1) < 97) := by have h9 := mt iv_lt.mpr b25; rw [e21] at h9; rw [hc24] at h9; exact h9
      refine k_iload 29 rfl gs_eq rfl ?_
      refine k_push 31 rfl rfl ?_
      have hc56 : (122 : Int32).toInt = 122 := by decide
      by_cases b57 : (122 : Int32) < x13
      · refine k_c2 37 rfl rfl (if_pos b57) ?_
        have b57 : 122 < gl (A0 2) (n1) := by have h9 := iv_lt.mp b57; rw [e21] at h9; rw [hc56] at h9; exact h9
        refine k_iload 38 rfl gs_eq rfl ?_
        refine k_push 40 rfl rfl ?_
        have hc58 : (48 : Int32).toInt = 48 := by decide
        by_cases b59 : x13 < (48 : Int32)
        · refine k_c2 52 rfl rfl (if_pos b59) ?_
          have b59 : gl (A0 2) (n1) < 48 := by have h9 := iv_lt.mp b59; rw [e21] at h9; rw [hc58] at h9; exact h9
          refine k_iload 53 rfl gs_eq rfl ?_
          by_cases b60 : x13.toInt = 40
          · refine k_sw 112 rfl (by simp only [am_lk]; rw [if_pos b60]) ?_
            have b61 : gl (A0 2) (n1) = 40 := by rw [e21] at b60; exact b60
            refine k_iload 113 rfl gs_eq rfl ?_
            exact k_fin rfl rfl ⟨_, _, _, _, _, _, rfl, I19, (by unfold p_X7_sortOf; rw [if_pos b12, if_neg b25, if_pos b57, if_pos b59, if_pos b61]; exact e21), (by unfold p_X7_sortOf; rw [if_pos b12, if_neg b25, if_pos b57, if_pos b59, if_pos b61]), (by unfold p_X7_sortOf; rw [if_pos b12, if_neg b25, if_pos b57, if_pos b59, if_pos b61])⟩
          have b61 : ¬ (gl (A0 2) (n1) = 40) := by rw [e21] at b60; exact b60
          by_cases b62 : x13.toInt = 41
          · refine k_sw 112 rfl (by simp only [am_lk]; rw [if_neg b60, if_pos b62]) ?_
            have b63 : gl (A0 2) (n1) = 41 := by rw [e21] at b62; exact b62
            refine k_iload 113 rfl gs_eq rfl ?_
            exact k_fin rfl rfl ⟨_, _, _, _, _, _, rfl, I19, (by unfold p_X7_sortOf; rw [if_pos b12, if_neg b25, if_pos b57, if_pos b59, if_neg b61, if_pos b63]; exact e21), (by unfold p_X7_sortOf; rw [if_pos b12, if_neg b25, if_pos b57, if_pos b59, if_neg b61, if_pos b63]), (by unfold p_X7_sortOf; rw [if_pos b12, if_neg b25, if_pos b57, if_pos b59, if_neg b61, if_pos b63])⟩
          have b63 : ¬ (gl (A0 2) (n1) = 41) := by rw [e21] at b62; exact b62
          by_cases b64 : x13.toInt = 46
          · refine k_sw 112 rfl (by simp only [am_lk]; rw [if_neg b60, if_neg b62, if_pos b64]) ?_
            have b65 : gl (A0 2) (n1) = 46 := by rw [e21] at b64; exact b64
            refine k_iload 113 rfl gs_eq rfl ?_
            exact k_fin rfl rfl ⟨_, _, _, _, _, _, rfl, I19, (by unfold p_X7_sortOf; rw [if_pos b12, if_neg b25, if_pos b57, if_pos b59, if_neg b61, if_neg b63, if_pos b65]; exact e21), (by unfold p_X7_sortOf; rw [if_pos b12, if_neg b25, if_pos b57, if_pos b59, if_neg b61, if_neg b63, if_pos b65]), (by unfold p_X7_sortOf; rw [if_pos b12, if_neg b25, if_pos b57, if_pos b59, if_neg b61, if_neg b63, if_pos b65])⟩
          have b65 : ¬ (gl (A0 2) (n1) = 46) := by rw [e21] at b64; exact b64
          by_cases b66 : x13.toInt = 59
          · refine k_sw 112 rfl (by simp only [am_lk]; rw [if_neg b60, if_neg b62, if_neg b64, if_pos b66]) ?_
            have b67 : gl (A0 2) (n1) = 59 := by rw [e21] at b66; exact b66
            refine k_iload 113 rfl gs_eq rfl ?_
            exact k_fin rfl rfl ⟨_, _, _, _, _, _, rfl, I19, (by unfold p_X7_sortOf; rw [if_pos b12, if_neg b25, if_pos b57, if_pos b59, if_neg b61, if_neg b63, if_neg b65, if_pos b67]; exact e21), (by unfold p_X7_sortOf; rw [if_pos b12, if_neg b25, if_pos b57, if_pos b59, if_neg b61, if_neg b63, if_neg b65, if_pos b67]), (by unfold p_X7_sortOf; rw [if_pos b12, if_neg b25, if_pos b57, if_pos b59, if_neg b61, if_neg b63, if_neg b65, if_pos b67])⟩
          have b67 : ¬ (gl (A0 2) (n1) = 59) := by rw [e21] at b66; exact b66
          by_cases b68 : x13.toInt = 61
          · refine k_sw 112 rfl (by simp only [am_lk]; rw [if_neg b60, if_neg b62, if_neg b64, if_neg b66, if_pos b68]) ?_
            have b69 : gl (A0 2) (n1) = 61 := by rw [e21] at b68; exact b68
            refine k_iload 113 rfl gs_eq rfl ?_
            exact k_fin rfl rfl ⟨_, _, _, _, _, _, rfl, I19, (by unfold p_X7_sortOf; rw [if_pos b12, if_neg b25, if_pos b57, if_pos b59, if_neg b61, if_neg b63, if_neg b65, if_neg b67, if_pos b69]; exact e21), (by unfold p_X7_sortOf; rw [if_pos b12, if_neg b25, if_pos b57, if_pos b59, if_neg b61, if_neg b63, if_neg b65, if_neg b67, if_pos b69]), (by unfold p_X7_sortOf; rw [if_pos b12, if_neg b25, if_pos b57, if_pos b59, if_neg b61, if_neg b63, if_neg b65, if_neg b67, if_pos b69])⟩
          have b69 : ¬ (gl (A0 2) (n1) = 61) := by rw [e21] at b68; exact b68
          by_cases b70 : x13.toInt = 92
          · refine k_sw 112 rfl (by simp only [am_lk]; rw [if_neg b60, if_neg b62, if_neg b64, if_neg b66, if_neg b68, if_pos b70]) ?_
            have b71 : gl (A0 2) (n1) = 92 := by rw [e21] at b70; exact b70
            refine k_iload 113 rfl gs_eq rfl ?_
            exact k_fin rfl rfl ⟨_, _, _, _, _, _, rfl, I19, (by unfold p_X7_sortOf; rw [if_pos b12, if_neg b25, if_pos b57, if_pos b59, if_neg b61, if_neg b63, if_neg b65, if_neg b67, if_neg b69, if_pos b71]; exact e21), (by unfold p_X7_sortOf; rw [if_pos b12, if_neg b25, if_pos b57, if_pos b59, if_neg b61, if_neg b63, if_neg b65, if_neg b67, if_neg b69, if_pos b71]), (by unfold p_X7_sortOf; rw [if_pos b12, if_neg b25, if_pos b57, if_pos b59, if_neg b61, if_neg b63, if_neg b65, if_neg b67, if_neg b69, if_pos b71])⟩
          have b71 : ¬ (gl (A0 2) (n1) = 92) := by rw [e21] at b70; exact b70
          refine k_sw 114 rfl (by simp only [am_lk]; rw [if_neg b60, if_neg b62, if_neg b64, if_neg b66, if_neg b68, if_neg b70]) ?_
          refine k_push 115 rfl rfl ?_
          have hc72 : (1 : Int32).toInt = 1 := by decide
          exact k_fin rfl rfl ⟨_, _, _, _, _, _, rfl, I19, (by unfold p_X7_sortOf; rw [if_pos b12, if_neg b25, if_pos b57, if_pos b59, if_neg b61, if_neg b63, if_neg b65, if_neg b67, if_neg b69, if_neg b71]; exact hc72), (by unfold p_X7_sortOf; rw [if_pos b12, if_neg b25, if_pos b57, if_pos b59, if_neg b61, if_neg b63, if_neg b65, if_neg b67, if_neg b69, if_neg b71]), (by unfold p_X7_sortOf; rw [if_pos b12, if_neg b25, if_pos b57, if_pos b59, if_neg b61, if_neg b63, if_neg b65, if_neg b67, if_neg b69, if_neg b71])⟩
        · refine k_c2 43 rfl rfl (if_neg b59) ?_
          have b59 : ¬ (gl (A0 2) (n1) < 48) := by have h9 := mt iv_lt.mpr b59; rw [e21] at h9; rw [hc58] at h9; exact h9
          refine k_iload 44 rfl gs_eq rfl ?_
          refine k_push 46 rfl rfl ?_
          have hc73 : (57 : Int32).toInt = 57 := by decide
          by_cases b74 : (57 : Int32) < x13
          · refine k_c2 52 rfl rfl (if_pos b74) ?_
            have b74 : 57 < gl (A0 2) (n1) := by have h9 := iv_lt.mp b74; rw [e21] at h9; rw [hc73] at h9; exact h9
            refine k_iload 53 rfl gs_eq rfl ?_
            by_cases b75 : x13.toInt = 40
            · refine k_sw 112 rfl (by simp only [am_lk]; rw [if_pos b75]) ?_
              have b76 : gl (A0 2) (n1) = 40 := by rw [e21] at b75; exact b75
              refine k_iload 113 rfl gs_eq rfl ?_
              exact k_fin rfl rfl ⟨_, _, _, _, _, _, rfl, I19, (by unfold p_X7_sortOf; rw [if_pos b12, if_neg b25, if_pos b57, if_neg b59, if_pos b74, if_pos b76]; exact e21), (by unfold p_X7_sortOf; rw [if_pos b12, if_neg b25, if_pos b57, if_neg b59, if_pos b74, if_pos b76]), (by unfold p_X7_sortOf; rw [if_pos b12, if_neg b25, if_pos b57, if_neg b59, if_pos b74, if_pos b76])⟩
            have b76 : ¬ (gl (A0 2) (n1) = 40) := by rw [e21] at b75; exact b75
            by_cases b77 : x13.toInt = 41
            · refine k_sw 112 rfl (by simp only [am_lk]; rw [if_neg b75, if_pos b77]) ?_
              have b78 : gl (A0 2) (n1) = 41 := by rw [e21] at b77; exact b77
              refine k_iload 113 rfl gs_eq rfl ?_
              exact k_fin rfl rfl ⟨_, _, _, _, _, _, rfl, I19, (by unfold p_X7_sortOf; rw [if_pos b12, if_neg b25, if_pos b57, if_neg b59, if_pos b74, if_neg b76, if_pos b78]; exact e21), (by unfold p_X7_sortOf; rw [if_pos b12, if_neg b25, if_pos b57, if_neg b59, if_pos b74, if_neg b76, if_pos b78]), (by unfold p_X7_sortOf; rw [if_pos b12, if_neg b25, if_pos b57, if_neg b59, if_pos b74, if_neg b76, if_pos b78])⟩
            have b78 : ¬ (gl (A0 2) (n1) = 41) := by rw [e21] at b77; exact b77
            by_cases b79 : x13.toInt = 46
            · refine k_sw 112 rfl (by simp only [am_lk]; rw [if_neg b75, if_neg b77, if_pos b79]) ?_
              have b80 : gl (A0 2) (n1) = 46 := by rw [e21] at b79; exact b79
              refine k_iload 113 rfl gs_eq rfl ?_
              exact k_fin rfl rfl ⟨_, _, _, _, _, _, rfl, I19, (by unfold p_X7_sortOf; rw [if_pos b12, if_neg b25, if_pos b57, if_neg b59, if_pos b74, if_neg b76, if_neg b78, if_pos b80]; exact e21), (by unfold p_X7_sortOf; rw [if_pos b12, if_neg b25, if_pos b57, if_neg b59, if_pos b74, if_neg b76, if_neg b78, if_pos b80]), (by unfold p_X7_sortOf; rw [if_pos b12, if_neg b25, if_pos b57, if_neg b59, if_pos b74, if_neg b76, if_neg b78, if_pos b80])⟩
            have b80 : ¬ (gl (A0 2) (n1) = 46) := by rw [e21] at b79; exact b79
            by_cases b81 : x13.toInt = 59
            · refine k_sw 112 rfl (by simp only [am_lk]; rw [if_neg b75, if_neg b77, if_neg b79, if_pos b81]) ?_
              have b82 : gl (A0 2) (n1) = 59 := by rw [e21] at b81; exact b81
              refine k_iload 113 rfl gs_eq rfl ?_
              exact k_fin rfl rfl ⟨_, _, _, _, _, _, rfl, I19, (by unfold p_X7_sortOf; rw [if_pos b12, if_neg b25, if_pos b57, if_neg b59, if_pos b74, if_neg b76, if_neg b78, if_neg b80, if_pos b82]; exact e21), (by unfold p_X7_sortOf; rw [if_pos b12, if_neg b25, if_pos b57, if_neg b59, if_pos b74, if_neg b76, if_neg b78, if_neg b80, if_pos b82]), (by unfold p_X7_sortOf; rw [if_pos b12, if_neg b25, if_pos b57, if_neg b59, if_pos b74, if_neg b76, if_neg b78, if_neg b80, if_pos b82])⟩
            have b82 : ¬ (gl (A0 2) (n1) = 59) := by rw [e21] at b81; exact b81
            by_cases b83 : x13.toInt = 61
            · refine k_sw 112 rfl (by simp only [am_lk]; rw [if_neg b75, if_neg b77, if_neg b79, if_neg b81, if_pos b83]) ?_
              have b84 : gl (A0 2) (n1) = 61 := by rw [e21] at b83; exact b83
              refine k_iload 113 rfl gs_eq rfl ?_
              exact k_fin rfl rfl ⟨_, _, _, _, _, _, rfl, I19, (by unfold p_X7_sortOf; rw [if_pos b12, if_neg b25, if_pos b57, if_neg b59, if_pos b74, if_neg b76, if_neg b78, if_neg b80, if_neg b82, if_pos b84]; exact e21), (by unfold p_X7_sortOf; rw [if_pos b12, if_neg b25, if_pos b57, if_neg b59, if_pos b74, if_neg b76, if_neg b78, if_neg b80, if_neg b82, if_pos b84]), (by unfold p_X7_sortOf; rw [if_pos b12, if_neg b25, if_pos b57, if_neg b59, if_pos b74, if_neg b76, if_neg b78, if_neg b80, if_neg b82, if_pos b84])⟩
            have b84 : ¬ (gl (A0 2) (n1) = 61) := by rw [e21] at b83; exact b83
            by_cases b85 : x13.toInt = 92
            · refine k_sw 112 rfl (by simp only [am_lk]; rw [if_neg b75, if_neg b77, if_neg b79, if_neg b81, if_neg b83, if_pos b85]) ?_
              have b86 : gl (A0 2) (n1) = 92 := by rw [e21] at b85; exact b85
              refine k_iload 113 rfl gs_eq rfl ?_
              exact k_fin rfl rfl ⟨_, _, _, _, _, _, rfl, I19, (by unfold p_X7_sortOf; rw [if_pos b12, if_neg b25, if_pos b57, if_neg b59, if_pos b74, if_neg b76, if_neg b78, if_neg b80, if_neg b82, if_neg b84, if_pos b86]; exact e21), (by unfold p_X7_sortOf; rw [if_pos b12, if_neg b25, if_pos b57, if_neg b59, if_pos b74, if_neg b76, if_neg b78, if_neg b80, if_neg b82, if_neg b84, if_pos b86]), (by unfold p_X7_sortOf; rw [if_pos b12, if_neg b25, if_pos b57, if_neg b59, if_pos b74, if_neg b76, if_neg b78, if_neg b80, if_neg b82, if_neg b84, if_pos b86])⟩
            have b86 : ¬ (gl (A0 2) (n1) = 92) := by rw [e21] at b85; exact b85
            refine k_sw 114 rfl (by simp only [am_lk]; rw [if_neg b75, if_neg b77, if_neg b79, if_neg b81, if_neg b83, if_neg b85]) ?_
            refine k_push 115 rfl rfl ?_
            have hc87 : (1 : Int32).toInt = 1 := by decide
            exact k_fin rfl rfl ⟨_, _, _, _, _, _, rfl, I19, (by unfold p_X7_sortOf; rw [if_pos b12, if_neg b25, if_pos b57, if_neg b59, if_pos b74, if_neg b76, if_neg b78, if_neg b80, if_neg b82, if_neg b84, if_neg b86]; exact hc87), (by unfold p_X7_sortOf; rw [if_pos b12, if_neg b25, if_pos b57, if_neg b59, if_pos b74, if_neg b76, if_neg b78, if_neg b80, if_neg b82, if_neg b84, if_neg b86]), (by unfold p_X7_sortOf; rw [if_pos b12, if_neg b25, if_pos b57, if_neg b59, if_pos b74, if_neg b76, if_neg b78, if_neg b80, if_neg b82, if_neg b84, if_neg b86])⟩
          · refine k_c2 49 rfl rfl (if_neg b74) ?_
            have b74 : ¬ (57 < gl (A0 2) (n1)) := by have h9 := mt iv_lt.mpr b74; rw [e21] at h9; rw [hc73] at h9; exact h9
            refine k_push 51 rfl rfl ?_
            exact k_fin rfl rfl ⟨_, _, _, _, _, _, rfl, I19, (by unfold p_X7_sortOf; rw [if_pos b12, if_neg b25, if_pos b57, if_neg b59, if_neg b74]; exact hc58), (by unfold p_X7_sortOf; rw [if_pos b12, if_neg b25, if_pos b57, if_neg b59, if_neg b74]), (by unfold p_X7_sortOf; rw [if_pos b12, if_neg b25, if_pos b57, if_neg b59, if_neg b74])⟩
      · refine k_c2 34 rfl rfl (if_neg b57) ?_
        have b57 : ¬ (122 < gl (A0 2) (n1)) := by have h9 := mt iv_lt.mpr b57; rw [e21] at h9; rw [hc56] at h9; exact h9
        refine k_push 36 rfl rfl ?_
        exact k_fin rfl rfl ⟨_, _, _, _, _, _, rfl, I19, (by unfold p_X7_sortOf; rw [if_pos b12, if_neg b25, if_neg b57]; exact hc24), (by unfold p_X7_sortOf; rw [if_pos b12, if_neg b25, if_neg b57]), (by unfold p_X7_sortOf; rw [if_pos b12, if_neg b25, if_neg b57])⟩
  · refine k_c2 11 rfl rfl (if_neg b12) ?_
    have b12 : ¬ (n1 < (((A0 2).length : Nat) : Int)) := by have h9 := mt iv_lt.mpr b12; rw [hn1] at h9; rw [e9] at h9; exact h9
    refine k_push 12 rfl rfl ?_
    have hc88 : (0 : Int32).toInt = 0 := by decide
    exact k_fin rfl rfl ⟨_, _, _, _, _, _, rfl, I7, (by unfold p_X7_sortOf; rw [if_neg b12]; exact hc88), (by unfold p_X7_sortOf; rw [if_neg b12]), (by unfold p_X7_sortOf; rw [if_neg b12])⟩
end
theorem so_rr {g : Int} {F0 : rf_f} {A0 : xl_A} (h : ¬ (97 ≤ g ∧ g ≤ 122)) (h2 : ¬ (48 ≤ g ∧ g ≤ 57)) : (if g = 40 then (g, F0, A0) else (if g = 41 then (g, F0, A0) else (if g = 46 then (g, F0, A0) else (if g = 59 then (g, F0, A0) else (if g = 61 then (g, F0, A0) else (if g = 92 then (g, F0, A0) else ((1 : Int), F0, A0))))))) = (sb g, F0, A0) := by
  unfold sb
  rw [if_neg h, if_neg h2]
  by_cases e1 : g = 40
  · rw [if_pos e1, if_pos (by omega)]
  rw [if_neg e1]
  by_cases e2 : g = 41
  · rw [if_pos e2, if_pos (by omega)]
  rw [if_neg e2]
  by_cases e3 : g = 46
  · rw [if_pos e3, if_pos (by omega)]
  rw [if_neg e3]
  by_cases e4 : g = 59
  · rw [if_pos e4, if_pos (by omega)]
  rw [if_neg e4]
  by_cases e5 : g = 61
  · rw [if_pos e5, if_pos (by omega)]
  rw [if_neg e5]
  by_cases e6 : g = 92
  · rw [if_pos e6, if_pos (by omega)]
  rw [if_neg e6, if_neg (by omega)]
theorem so_p {n1 : Int} {F0 : rf_f} {A0 : xl_A} : p_X7_sortOf n1 F0 A0 = (so (A0 2) n1, F0, A0) := by
  unfold p_X7_sortOf so
  by_cases h0 : n1 < (((A0 2).length : Nat) : Int)
  · rw [if_pos h0, if_neg (show ¬ (((A0 2).length : Nat) : Int) ≤ n1 by omega)]
    generalize gl (A0 2) n1 = g
    by_cases a1 : g < 97
    · rw [if_pos a1]
      by_cases a2 : g < 48
      · rw [if_pos a2]
        exact so_rr (by omega) (by omega)
      · rw [if_neg a2]
        by_cases a3 : 57 < g
        · rw [if_pos a3]
          exact so_rr (by omega) (by omega)
        · rw [if_neg a3]
          unfold sb
          rw [if_neg (by omega), if_pos (by omega)]
    · rw [if_neg a1]
      by_cases a4 : 122 < g
      · rw [if_pos a4, if_neg (by omega), if_pos (by omega)]
        exact so_rr (by omega) (by omega)
      · rw [if_neg a4]
        unfold sb
        rw [if_pos (by omega)]
  · rw [if_neg h0, if_pos (show (((A0 2).length : Nat) : Int) ≤ n1 by omega)]
theorem f_X7_sortOf {n1 : Int} {F0 : rf_f} {A0 : xl_A} : (p_X7_sortOf n1 F0 A0).2.1 = F0 ∧ (p_X7_sortOf n1 F0 A0).2.2 = A0 := by
  rw [so_p]
  exact ⟨rfl, rfl⟩
theorem v_X7_sortOf {n1 : Int} {F0 : rf_f} {A0 : xl_A} : (p_X7_sortOf n1 F0 A0).1 = so (A0 2) n1 := by
  rw [so_p]
theorem up1_up1 {F : rf_f} {k : Nat} {a b : Int} : up1 (up1 F k a) k b = up1 F k b := by
  funext j
  unfold up1
  by_cases z : j = k
  · rw [if_pos z, if_pos z]
  · rw [if_neg z, if_neg z, if_neg z]
section
def p_X7_isWord (n1 n2 : Int) (F0 : rf_f) (A0 : xl_A) : Int × rf_f × xl_A := (if slw (A0 2) n1 n2 = slw (A0 2) (F0 1502) (F0 1503) then 1 else 0, F0, A0)
theorem z_X7_isWord {n1 n2 : Int} {F0 : rf_f} {A0 : xl_A} : (p_X7_isWord n1 n2 F0 A0).1 = 0 ∨ (p_X7_isWord n1 n2 F0 A0).1 = 1 := by
  unfold p_X7_isWord
  split
  · exact Or.inr rfl
  · exact Or.inl rfl
theorem slw_eq {T : List Int} {a b p q : Int} (h0 : 0 ≤ a) (h1 : a ≤ b) (h2 : b ≤ (T.length : Int)) (h3 : 0 ≤ p) (h4 : q ≤ (T.length : Int)) (hl : b - a = q - p) (h : ∀ i : Int, a ≤ i → i < b → gl T i = gl T (p + i - a)) : slw T a b = slw T p q := by
  apply List.ext_getElem?
  intro k
  by_cases z : (k : Int) < b - a
  · rw [slw_g h0 h2 z, slw_g h3 h4 (by omega), h (a + k) (by omega) (by omega)]
    congr 2
    omega
  · have l1 := slw_l h0 h1 h2
    have l2 := slw_l h3 (by omega : p ≤ q) h4
    rw [List.getElem?_eq_none (by omega), List.getElem?_eq_none (by omega)]
theorem slw_ne {T : List Int} {a b p q i : Int} (h0 : 0 ≤ a) (h2 : b ≤ (T.length : Int)) (h3 : 0 ≤ p) (h4 : q ≤ (T.length : Int)) (hl : b - a = q - p) (h5 : a ≤ i) (h6 : i < b) (h : gl T i ≠ gl T (p + i - a)) : slw T a b ≠ slw T p q := fun e => by
  have e1 := congrArg (fun l => l[(i - a).toNat]?) e
  have e2 : (slw T a b)[(i - a).toNat]? = (slw T p q)[(i - a).toNat]? := e1
  rw [slw_g h0 h2 (by omega), slw_g h3 h4 (by omega)] at e2
  apply h
  have e3 := Option.some.inj e2
  rw [show a + ((i - a).toNat : Int) = i by omega, show p + ((i - a).toNat : Int) = p + i - a by omega] at e3
  exact e3
theorem slw_nl {T : List Int} {a b p q : Int} (h0 : 0 ≤ a) (h1 : a ≤ b) (h2 : b ≤ (T.length : Int)) (h3 : 0 ≤ p) (h3b : p ≤ q) (h4 : q ≤ (T.length : Int)) (hl : ¬ b - a = q - p) : slw T a b ≠ slw T p q := fun e => by
  have l1 := slw_l h0 h1 h2
  have l2 := slw_l h3 h3b h4
  rw [e] at l1
  omega
theorem yl_X7_isWord_19 {h0 : am_h} {F0 : rf_f} {A0 : xl_A} {w1 : Int32} {n1 : Int} (hn1 : w1.toInt = n1) {w2 : Int32} {n2 : Int} (hn2 : w2.toInt = n2)  (hp1 : 0 ≤ n1 ∧ n1 ≤ n2 ∧ n2 ≤ ((A0 2).length : Int)) (hp2 : ((A0 2).length : Int) ≤ 700) (hp3 : 0 ≤ F0 1502 ∧ F0 1502 ≤ F0 1503 ∧ F0 1503 ≤ ((A0 2).length : Int)) : ∀ (n : Nat) {lv : am_l} {h : am_h} {c s : Nat} {u1 : Int32} {v1 : Int} {u2 : Int32} {v2 : Int} {u3 : Int32} {v3 : Int}, ((701 - v3).toNat) = n → am_get lv 0 = some (.inr (.inr (some 15))) → am_get lv 1 = some (.inl u1) → am_get lv 2 = some (.inl u2) → am_get lv 3 = some (.inl u3) → u1.toInt = v1 → u2.toInt = v2 → u3.toInt = v3 → xI h0 (ob_P h0) h c s F0 A0 → am_okL h.length lv = true → (v1 = n1 ∧ v2 = n2 ∧ n2 - n1 = F0 1503 - F0 1502) → (n1 ≤ v3 ∧ v3 ≤ n2) → (∀ i : Int, n1 ≤ i → i < v3 → gl (A0 2) i = gl (A0 2) (F0 1502 + i - n1)) → am_Ok am_G 1 112 (19, lv, [], h, c, s) (xQ h0 (fun x F' A' => x = (p_X7_isWord n1 n2 F0 A0).1 ∧ F' = (p_X7_isWord n1 n2 F0 A0).2.1 ∧ A' = (p_X7_isWord n1 n2 F0 A0).2.2)) := by
  intro n
  induction n using Nat.strongRecOn with
  | ind n ih =>
    intro lv h c s u1 v1 u2 v2 u3 v3   hm g0 g1 g2 g3 hv1 hv2 hv3 hI hL i0 i1 i2
    refine k_iload 20 rfl g3 rfl ?_
    refine k_iload 21 rfl g2 rfl ?_
    by_cases b1 : u2 ≤ u3
    · refine k_c2 58 rfl rfl (if_pos b1) ?_
      have b1 : v2 ≤ v3 := by have h9 := iv_le.mp b1; rw [hv3] at h9; rw [hv2] at h9; exact h9
      refine k_push 59 rfl rfl ?_
      have hc2 : (1 : Int32).toInt = 1 := by decide
      exact k_fin rfl (fin_Z (Or.inr rfl)) ⟨_, _, _, _, _, _, rfl, hI, hc2.trans ((if_pos (slw_eq (by omega) (by omega) (by omega) (by omega) (by omega) (by omega) (fun i j1 j2 => i2 i j1 (by omega)))).symm), rfl, rfl⟩
    · refine k_c2 24 rfl rfl (if_neg b1) ?_
      have b1 : ¬ (v2 ≤ v3) := by have h9 := mt iv_le.mpr b1; rw [hv3] at h9; rw [hv2] at h9; exact h9
      refine k_aload 25 rfl g0 rfl ?_
      refine x_gF 2 hI 28 rfl rfl (by decide) rfl ?_
      refine k_iload 29 rfl g3 rfl ?_
      refine k_xq hI rfl (y_get hv3 hI.1 or2) rfl rfl rfl (ty_H.rc3 hI.T or2) hL so_n ?_
      rintro x3 h4 c5 s6 F7 A8 I9 L10 ⟨e11, k12, k13⟩
      replace k12 := k12.symm
      subst k12
      replace k13 := k13.symm
      subst k13
      show am_Ok _ _ _ (32, _, [.inl x3], _, c5, s6) _
      refine k_aload 33 rfl g0 rfl ?_
      refine x_gF 2 I9 36 rfl rfl (by decide) rfl ?_
      refine k_aload 37 rfl g0 rfl ?_
      refine x_gI I9 40 rfl oc15 rfl rfl rfl rfl (fun x14 (e15 : x14.toInt = F0 1502) => ?_)
      refine k_iload 41 rfl g3 rfl ?_
      obtain ⟨x16, q17⟩ : ∃ q : Int32, q = x14 + u3 := ⟨_, rfl⟩
      have e18 : x16.toInt = (F0 1502 + v3) := bx_add q17 e15 hv3 (by omega) (by omega)
      refine k_bin x16 42 rfl q17.symm rfl ?_
      refine k_iload 43 rfl g1 rfl ?_
      obtain ⟨x19, q20⟩ : ∃ q : Int32, q = x16 - u1 := ⟨_, rfl⟩
      have e21 : x19.toInt = ((F0 1502 + v3) - v1) := bx_sub q20 e18 hv1 (by omega) (by omega)
      refine k_bin x19 44 rfl q20.symm rfl ?_
      refine k_xq I9 rfl (y_get e21 I9.1 or2) rfl rfl rfl (ty_H.rc3 I9.T or2) L10 (so_i so_n) ?_
      rintro x22 h23 c24 s25 F26 A27 I28 L29 ⟨e30, k31, k32⟩
      replace k31 := k31.symm
      subst k31
      replace k32 := k32.symm
      subst k32
      show am_Ok _ _ _ (47, _, [.inl x22, .inl x3], _, c24, s25) _
      by_cases b33 : x3 = x22
      · refine k_c2 52 rfl rfl (if_pos b33) ?_
        have b33 : gl (A0 2) (v3) = gl (A0 2) (((F0 1502 + v3) - v1)) := by have h9 := iv_eq.mp b33; rw [e11] at h9; rw [e30] at h9; exact h9
        have hc34 : (1 : Int32).toInt = 1 := by decide
        obtain ⟨x35, q36⟩ : ∃ q : Int32, q = u3 + (1 : Int32) := ⟨_, rfl⟩
        have e37 : x35.toInt = (v3 + 1) := bx_add q36 hv3 hc34 (by omega) (by omega)
        refine k_iinc x35 55 rfl g3 q36.symm rfl ?_
        refine k_goto 19 rfl rfl ?_
        exact ih _ (by omega)  (v1 := v1) (v2 := v2) (v3 := (v3 + 1)) rfl (gs_ne rfl rfl g0) (gs_ne rfl rfl g1) (gs_ne rfl rfl g2) gs_eq hv1 hv2 e37 I28 (okL_set rfl L29) (by omega) (by omega) (fun i j1 j2 => by by_cases z : i = v3; exact (by rw [z, ← i0.1]; omega); exact i2 i j1 (by omega))
      · refine k_c2 50 rfl rfl (if_neg b33) ?_
        have b33 : ¬ (gl (A0 2) (v3) = gl (A0 2) (((F0 1502 + v3) - v1))) := by have h9 := mt iv_eq.mpr b33; rw [e11] at h9; rw [e30] at h9; exact h9
        refine k_push 51 rfl rfl ?_
        have hc38 : (0 : Int32).toInt = 0 := by decide
        exact k_fin rfl (fin_Z (Or.inl rfl)) ⟨_, _, _, _, _, _, rfl, I28, hc38.trans ((if_neg (slw_ne (i := v3) (by omega) (by omega) (by omega) (by omega) (by omega) (by omega) (by omega) (by rw [← i0.1]; omega))).symm), rfl, rfl⟩
theorem n_X7_isWord {h0 : am_h} {F0 : rf_f} {A0 : xl_A} {w1 : Int32} {n1 : Int} (hn1 : w1.toInt = n1) {w2 : Int32} {n2 : Int} (hn2 : w2.toInt = n2)  (hp1 : 0 ≤ n1 ∧ n1 ≤ n2 ∧ n2 ≤ ((A0 2).length : Int)) (hp2 : ((A0 2).length : Int) ≤ 700) (hp3 : 0 ≤ F0 1502 ∧ F0 1502 ≤ F0 1503 ∧ F0 1503 ≤ ((A0 2).length : Int)) (hR : xR h0 F0 A0) : am_Mt 2 112 [.inr (.inr (some 15)), .inl w1, .inl w2] h0 (xQ h0 (fun x F' A' => x = (p_X7_isWord n1 n2 F0 A0).1 ∧ F' = (p_X7_isWord n1 n2 F0 A0).2.1 ∧ A' = (p_X7_isWord n1 n2 F0 A0).2.2)) := by
  refine am_Mt.of (D := 1) ?_
  have hI : xI h0 (ob_P h0) h0 0 0 F0 A0 := xI.start hR
  have hL : am_okL h0.length (am_args 0 [.inr (.inr (some 15)), .inl w1, .inl w2]) = true := (okA_r hI.T oc15 (okA_i (okA_i okA_n)))
  refine k_iload 1 rfl rfl rfl ?_
  refine k_iload 2 rfl rfl rfl ?_
  obtain ⟨x39, q40⟩ : ∃ q : Int32, q = w2 - w1 := ⟨_, rfl⟩
  have e41 : x39.toInt = (n2 - n1) := bx_sub q40 hn2 hn1 (by omega) (by omega)
  refine k_bin x39 3 rfl q40.symm rfl ?_
  refine k_aload 4 rfl rfl rfl ?_
  refine x_gI hI 7 rfl oc15 rfl rfl rfl rfl (fun x42 (e43 : x42.toInt = F0 1503) => ?_)
  refine k_aload 8 rfl rfl rfl ?_
  refine x_gI hI 11 rfl oc15 rfl rfl rfl rfl (fun x44 (e45 : x44.toInt = F0 1502) => ?_)
  obtain ⟨x46, q47⟩ : ∃ q : Int32, q = x42 - x44 := ⟨_, rfl⟩
  have e48 : x46.toInt = (F0 1503 - F0 1502) := bx_sub q47 e43 e45 (by omega) (by omega)
  refine k_bin x46 12 rfl q47.symm rfl ?_
  by_cases b49 : x39 = x46
  · refine k_c2 17 rfl rfl (if_pos b49) ?_
    have b49 : (n2 - n1) = (F0 1503 - F0 1502) := by have h9 := iv_eq.mp b49; rw [e41] at h9; rw [e48] at h9; exact h9
    refine k_iload 18 rfl rfl rfl ?_
    refine k_istore 19 rfl rfl ?_
    exact yl_X7_isWord_19 hn1 hn2  hp1 hp2 hp3 _  (v1 := n1) (v2 := n2) (v3 := n1) rfl (gs_ne rfl rfl rfl) (gs_ne rfl rfl rfl) (gs_ne rfl rfl rfl) gs_eq hn1 hn2 hn1 hI (okL_set rfl hL) (by omega) (by omega) (fun i i1 i2 => absurd i2 (by omega))
  · refine k_c2 15 rfl rfl (if_neg b49) ?_
    have b49 : ¬ ((n2 - n1) = (F0 1503 - F0 1502)) := by have h9 := mt iv_eq.mpr b49; rw [e41] at h9; rw [e48] at h9; exact h9
    refine k_push 16 rfl rfl ?_
    have hc50 : (0 : Int32).toInt = 0 := by decide
    exact k_fin rfl (fin_Z (Or.inl rfl)) ⟨_, _, _, _, _, _, rfl, hI, hc50.trans ((if_neg (slw_nl (by omega) (by omega) (by omega) (by omega) (by omega) (by omega) (by omega))).symm), rfl, rfl⟩
end
def PW (T L : List Int) (k : Int) (n : Int) : Prop := ∀ i : Int, 0 ≤ i → i < n → 0 ≤ gl L (k * i) ∧ gl L (k * i) ≤ gl L (k * i + 1) ∧ gl L (k * i + 1) ≤ (T.length : Int)
def wds (T L : List Int) (k : Int) (n : Nat) : List (List Int) := (List.range n).map (fun i : Nat => slw T (gl L (k * (i : Int))) (gl L (k * (i : Int) + 1)))
section WDS
variable {T L w : List Int} {k : Int} {n : Nat} {W : List (List Int)}
theorem wds_l : (wds T L k n).length = n := by
  unfold wds
  rw [List.length_map, List.length_range]
theorem wds_g {i : Nat} (hi : i < n) : (wds T L k n)[i]? = some (slw T (gl L (k * i)) (gl L (k * i + 1))) := by
  unfold wds
  rw [List.getElem?_map, List.getElem?_range hi]
  rfl
theorem fi_none (h : ∀ j : Nat, j < W.length → W[j]? ≠ some w) : fi w W = -1 := by
  refine fi_u (Or.inl ⟨rfl, fun j hj => ?_⟩)
  by_cases z : j < W.length
  · exact h j z hj
  · rw [List.getElem?_eq_none (by omega)] at hj
    cases hj
theorem fi_some {x : Int} (h0 : 0 ≤ x) (h1 : W[x.toNat]? = some w) (h : ∀ j : Nat, (j : Int) < x → W[j]? ≠ some w) : fi w W = x := fi_u (Or.inr ⟨h0, h1, h⟩)
theorem rev_g {j : Nat} (hj : j < W.length) : W.reverse[j]? = W[W.length - 1 - j]? := List.getElem?_reverse hj
theorem fr_none (h : ∀ j : Nat, j < W.length → W[j]? ≠ some w) : fi w W.reverse = -1 := by
  refine fi_none (fun j hj => ?_)
  rw [List.length_reverse] at hj
  rw [rev_g hj]
  exact h _ (by omega)
theorem fr_some {x : Int} (h0 : 0 ≤ x) (hx : x < (W.length : Int)) (h1 : W[x.toNat]? = some w) (h : ∀ j : Nat, x < (j : Int) → j < W.length → W[j]? ≠ some w) : fi w W.reverse = (W.length : Int) - 1 - x := by
  refine fi_some (by omega) ?_ (fun j hj => ?_)
  · rw [rev_g (by omega), show W.length - 1 - ((W.length : Int) - 1 - x).toNat = x.toNat by omega]
    exact h1
  · rw [rev_g (by omega)]
    exact h _ (by omega) (by omega)
theorem iw_t {n1 n2 : Int} {F0 : rf_f} {A0 : xl_A} (h : ¬ (p_X7_isWord n1 n2 F0 A0).1 = 0) : slw (A0 2) n1 n2 = slw (A0 2) (F0 1502) (F0 1503) := by
  by_cases z : slw (A0 2) n1 n2 = slw (A0 2) (F0 1502) (F0 1503)
  · exact z
  · exact absurd (if_neg z) h
theorem iw_f {n1 n2 : Int} {F0 : rf_f} {A0 : xl_A} (h : (p_X7_isWord n1 n2 F0 A0).1 = 0) : slw (A0 2) n1 n2 ≠ slw (A0 2) (F0 1502) (F0 1503) := fun z => by
  have h2 : (p_X7_isWord n1 n2 F0 A0).1 = 1 := if_pos z
  omega
end WDS
section
def p_X6_functionOfWord (F0 : rf_f) (A0 : xl_A) : Int × rf_f × xl_A := (fi (slw (A0 2) (F0 1502) (F0 1503)) (wds (A0 2) (A0 9) 2 ((A0 9).length / 2)).reverse, F0, A0)
theorem yl_X6_functionOfWord_14 {h0 : am_h} {F0 : rf_f} {A0 : xl_A}   (hp1 : 0 ≤ F0 1502 ∧ F0 1502 ≤ F0 1503 ∧ F0 1503 ≤ ((A0 2).length : Int)) (hp2 : ((A0 2).length : Int) ≤ 700) (hp3 : PW (A0 2) (A0 9) 2 (((A0 9).length : Int) / 2)) (hp4 : ((A0 9).length : Int) ≤ 62) : ∀ (n : Nat) {lv : am_l} {h : am_h} {c s : Nat} {u1 : Int32} {v1 : Int} {u2 : Int32} {v2 : Int}, ((v2 + 1).toNat) = n → am_get lv 0 = some (.inr (.inr (some 4))) → am_get lv 1 = some (.inl u1) → am_get lv 2 = some (.inl u2) → u1.toInt = v1 → u2.toInt = v2 → xI h0 (ob_P h0) h c s F0 A0 → am_okL h.length lv = true → (v1 = ((A0 9).length : Int) / 2) → (-1 ≤ v2 ∧ v2 < v1) → (∀ j : Nat, v2 < (j : Int) → (j : Int) < v1 → (wds (A0 2) (A0 9) 2 ((A0 9).length / 2))[j]? ≠ some (slw (A0 2) (F0 1502) (F0 1503))) → am_Ok am_G 2 92 (14, lv, [], h, c, s) (xQ h0 (fun x F' A' => x = (p_X6_functionOfWord F0 A0).1 ∧ F' = (p_X6_functionOfWord F0 A0).2.1 ∧ A' = (p_X6_functionOfWord F0 A0).2.2)) := by
  intro n
  induction n using Nat.strongRecOn with
  | ind n ih =>
    intro lv h c s u1 v1 u2 v2   hm g0 g1 g2 hv1 hv2 hI hL i0 i1 i2
    refine k_iload 15 rfl g2 rfl ?_
    by_cases b1 : u2 < 0
    · refine k_c1 62 rfl rfl (if_pos b1) ?_
      have b1 : v2 < 0 := by have h9 := iv_lt0.mp b1; rw [hv2] at h9; exact h9
      refine k_push 63 rfl rfl ?_
      have hc2 : (-1 : Int32).toInt = -1 := by decide
      exact k_fin rfl rfl ⟨_, _, _, _, _, _, rfl, hI, hc2.trans (by show _ = fi _ _; exact (fr_none (fun j j1 => i2 j (by omega) (by rw [wds_l] at j1; omega))).symm), rfl, rfl⟩
    · refine k_c1 18 rfl rfl (if_neg b1) ?_
      have b1 : ¬ (v2 < 0) := by have h9 := mt iv_lt0.mpr b1; rw [hv2] at h9; exact h9
      refine k_aload 19 rfl g0 rfl ?_
      refine x_gF 15 hI 22 rfl rfl (by decide) rfl ?_
      refine k_aload 23 rfl g0 rfl ?_
      refine x_gF 9 hI 26 rfl rfl (by decide) rfl ?_
      refine k_push 27 rfl rfl ?_
      have hc3 : (2 : Int32).toInt = 2 := by decide
      refine k_iload 28 rfl g2 rfl ?_
      obtain ⟨x4, q5⟩ : ∃ q : Int32, q = (2 : Int32) * u2 := ⟨_, rfl⟩
      have e6 : x4.toInt = (2 * v2) := bx_mul q5 hc3 hv2 (by omega) (by omega)
      refine k_bin x4 29 rfl q5.symm rfl ?_
      refine k_xq hI rfl (y_get e6 hI.1 or9) rfl rfl rfl (ty_H.rc3 hI.T or9) hL (xo_r hI oc15 so_n) ?_
      rintro x7 h8 c9 s10 F11 A12 I13 L14 ⟨e15, k16, k17⟩
      replace k16 := k16.symm
      subst k16
      replace k17 := k17.symm
      subst k17
      show am_Ok _ _ _ (32, _, [.inl x7, .inr (.inr (some 15))], _, c9, s10) _
      refine k_aload 33 rfl g0 rfl ?_
      refine x_gF 9 I13 36 rfl rfl (by decide) rfl ?_
      refine k_push 37 rfl rfl ?_
      refine k_iload 38 rfl g2 rfl ?_
      obtain ⟨x18, q19⟩ : ∃ q : Int32, q = (2 : Int32) * u2 := ⟨_, rfl⟩
      have e20 : x18.toInt = (2 * v2) := bx_mul q19 hc3 hv2 (by omega) (by omega)
      refine k_bin x18 39 rfl q19.symm rfl ?_
      refine k_push 40 rfl rfl ?_
      have hc21 : (1 : Int32).toInt = 1 := by decide
      obtain ⟨x22, q23⟩ : ∃ q : Int32, q = x18 + (1 : Int32) := ⟨_, rfl⟩
      have e24 : x22.toInt = ((2 * v2) + 1) := bx_add q23 e20 hc21 (by omega) (by omega)
      refine k_bin x22 41 rfl q23.symm rfl ?_
      refine k_xq I13 rfl (y_get e24 I13.1 or9) rfl rfl rfl (ty_H.rc3 I13.T or9) L14 (so_i (xo_r I13 oc15 so_n)) ?_
      rintro x25 h26 c27 s28 F29 A30 I31 L32 ⟨e33, k34, k35⟩
      replace k34 := k34.symm
      subst k34
      replace k35 := k35.symm
      subst k35
      show am_Ok _ _ _ (44, _, [.inl x25, .inl x7, .inr (.inr (some 15))], _, c27, s28) _
      refine k_xq I31 rfl (n_X7_isWord e15 e33  (by have h9 := hp3 v2 (by omega) (by omega); exact h9) (by omega) (by omega) I31.1) rfl rfl rfl (I31.T.rc oc15 rfl) L32 so_n ?_
      rintro x36 h37 c38 s39 F40 A41 I42 L43 ⟨e44, k45, k46⟩
      replace k45 : F40 = F0 := k45
      replace k46 : A41 = A0 := k46
      replace k45 := k45.symm
      subst k45
      replace k46 := k46.symm
      subst k46
      have z47 := iv_01 (x := x36) (by rw [e44]; exact z_X7_isWord)
      show am_Ok _ _ _ (47, _, [.inl x36], _, c38, s39) _
      by_cases b48 : x36 = 0
      · refine k_c1 56 rfl rfl (if_pos b48) ?_
        have b48 : (p_X7_isWord (gl (A0 9) ((2 * v2))) (gl (A0 9) (((2 * v2) + 1))) F0 A0).1 = 0 := by have h9 := iv_eq0.mp b48; rw [e44] at h9; exact h9
        have hc49 : (-1 : Int32).toInt = -1 := by decide
        obtain ⟨x50, q51⟩ : ∃ q : Int32, q = u2 + (-1 : Int32) := ⟨_, rfl⟩
        have e52 : x50.toInt = (v2 + -1) := bx_add q51 hv2 hc49 (by omega) (by omega)
        refine k_iinc x50 59 rfl g2 q51.symm rfl ?_
        refine k_goto 14 rfl rfl ?_
        exact ih _ (by omega)  (v1 := v1) (v2 := (v2 + -1)) rfl (gs_ne rfl rfl g0) (gs_ne rfl rfl g1) gs_eq hv1 e52 I42 (okL_set rfl L43) (by omega) (by omega) (fun j j1 j2 => by by_cases z : (j : Int) = v2; exact (by rw [wds_g (by omega)]; intro e9; refine iw_f b48 ?_; rw [← z]; exact Option.some.inj e9); exact i2 j (by omega) j2)
      · refine k_c1 50 rfl rfl (if_neg b48) ?_
        have b48 : ¬ ((p_X7_isWord (gl (A0 9) ((2 * v2))) (gl (A0 9) (((2 * v2) + 1))) F0 A0).1 = 0) := by have h9 := mt iv_eq0.mpr b48; rw [e44] at h9; exact h9
        refine k_iload 51 rfl g1 rfl ?_
        refine k_push 52 rfl rfl ?_
        obtain ⟨x53, q54⟩ : ∃ q : Int32, q = u1 - (1 : Int32) := ⟨_, rfl⟩
        have e55 : x53.toInt = (v1 - 1) := bx_sub q54 hv1 hc21 (by omega) (by omega)
        refine k_bin x53 53 rfl q54.symm rfl ?_
        refine k_iload 54 rfl g2 rfl ?_
        obtain ⟨x56, q57⟩ : ∃ q : Int32, q = x53 - u2 := ⟨_, rfl⟩
        have e58 : x56.toInt = ((v1 - 1) - v2) := bx_sub q57 e55 hv2 (by omega) (by omega)
        refine k_bin x56 55 rfl q57.symm rfl ?_
        exact k_fin rfl rfl ⟨_, _, _, _, _, _, rfl, I42, e58.trans (by show _ = fi _ _; rw [fr_some (x := v2) (by omega) (by rw [wds_l]; omega) (by rw [wds_g (by omega), show ((v2.toNat : Nat) : Int) = v2 by omega]; exact congrArg some (iw_t b48)) (fun j j1 j2 => i2 j j1 (by rw [wds_l] at j2; omega)), wds_l]; omega), rfl, rfl⟩
theorem n_X6_functionOfWord {h0 : am_h} {F0 : rf_f} {A0 : xl_A}   (hp1 : 0 ≤ F0 1502 ∧ F0 1502 ≤ F0 1503 ∧ F0 1503 ≤ ((A0 2).length : Int)) (hp2 : ((A0 2).length : Int) ≤ 700) (hp3 : PW (A0 2) (A0 9) 2 (((A0 9).length : Int) / 2)) (hp4 : ((A0 9).length : Int) ≤ 62) (hR : xR h0 F0 A0) : am_Mt 3 92 [.inr (.inr (some 4))] h0 (xQ h0 (fun x F' A' => x = (p_X6_functionOfWord F0 A0).1 ∧ F' = (p_X6_functionOfWord F0 A0).2.1 ∧ A' = (p_X6_functionOfWord F0 A0).2.2)) := by
  refine am_Mt.of (D := 2) ?_
  have hI : xI h0 (ob_P h0) h0 0 0 F0 A0 := xI.start hR
  have hL : am_okL h0.length (am_args 0 [.inr (.inr (some 4))]) = true := (okA_r hI.T oc4 okA_n)
  refine k_aload 1 rfl rfl rfl ?_
  refine x_gF 9 hI 4 rfl rfl (by decide) rfl ?_
  refine k_xq hI rfl (xv_size hI.1 or9) rfl rfl rfl (ty_H.rc3 hI.T or9) hL so_n ?_
  rintro x59 h60 c61 s62 F63 A64 I65 L66 ⟨e67, k68, k69⟩
  replace k68 := k68.symm
  subst k68
  replace k69 := k69.symm
  subst k69
  show am_Ok _ _ _ (7, _, [.inl x59], _, c61, s62) _
  refine k_push 8 rfl rfl ?_
  have hc70 : (2 : Int32).toInt = 2 := by decide
  obtain ⟨x71, q72⟩ : ∃ q : Int32, q = x59 / (2 : Int32) := ⟨_, rfl⟩
  have e73 : x71.toInt = ((((A0 9).length : Nat) : Int) / 2) := bx_div q72 e67 hc70 (by omega)
  refine k_divZ x71 9 rfl (by decide) q72.symm rfl ?_
  refine k_istore 10 rfl rfl ?_
  refine k_iload 11 rfl gs_eq rfl ?_
  refine k_push 12 rfl rfl ?_
  have hc74 : (1 : Int32).toInt = 1 := by decide
  obtain ⟨x75, q76⟩ : ∃ q : Int32, q = x71 - (1 : Int32) := ⟨_, rfl⟩
  have e77 : x75.toInt = (((((A0 9).length : Nat) : Int) / 2) - 1) := bx_sub q76 e73 hc74 (by omega) (by omega)
  refine k_bin x75 13 rfl q76.symm rfl ?_
  refine k_istore 14 rfl rfl ?_
  exact yl_X6_functionOfWord_14   hp1 hp2 hp3 hp4 _  (v1 := ((((A0 9).length : Nat) : Int) / 2)) (v2 := (((((A0 9).length : Nat) : Int) / 2) - 1)) rfl (gs_ne rfl rfl (gs_ne rfl rfl rfl)) (gs_ne rfl rfl gs_eq) gs_eq e73 e77 I65 (okL_set rfl (okL_set rfl L66)) (by omega) (by omega) (fun j j1 j2 => absurd j1 (by omega))
def p_X6_nameOfWord (F0 : rf_f) (A0 : xl_A) : Int × rf_f × xl_A := (fi (slw (A0 2) (F0 1502) (F0 1503)) (wds (A0 2) (A0 7) 5 (F0 410).toNat), F0, A0)
theorem yl_X6_nameOfWord_2 {h0 : am_h} {F0 : rf_f} {A0 : xl_A}   (hp1 : 0 ≤ F0 1502 ∧ F0 1502 ≤ F0 1503 ∧ F0 1503 ≤ ((A0 2).length : Int)) (hp2 : ((A0 2).length : Int) ≤ 700) (hp3 : PW (A0 2) (A0 7) 5 (F0 410)) (hp4 : 0 ≤ F0 410 ∧ F0 410 ≤ 12) : ∀ (n : Nat) {lv : am_l} {h : am_h} {c s : Nat} {u1 : Int32} {v1 : Int}, ((13 - v1).toNat) = n → am_get lv 0 = some (.inr (.inr (some 4))) → am_get lv 1 = some (.inl u1) → u1.toInt = v1 → xI h0 (ob_P h0) h c s F0 A0 → am_okL h.length lv = true → (0 ≤ v1 ∧ v1 ≤ F0 410) → (∀ j : Nat, (j : Int) < v1 → (wds (A0 2) (A0 7) 5 (F0 410).toNat)[j]? ≠ some (slw (A0 2) (F0 1502) (F0 1503))) → am_Ok am_G 2 93 (2, lv, [], h, c, s) (xQ h0 (fun x F' A' => x = (p_X6_nameOfWord F0 A0).1 ∧ F' = (p_X6_nameOfWord F0 A0).2.1 ∧ A' = (p_X6_nameOfWord F0 A0).2.2)) := by
  intro n
  induction n using Nat.strongRecOn with
  | ind n ih =>
    intro lv h c s u1 v1   hm g0 g1 hv1 hI hL i1 i2
    refine k_iload 3 rfl g1 rfl ?_
    refine k_aload 4 rfl g0 rfl ?_
    refine x_gI hI 7 rfl oc4 rfl rfl rfl rfl (fun x1 (e2 : x1.toInt = F0 410) => ?_)
    by_cases b3 : x1 ≤ u1
    · refine k_c2 50 rfl rfl (if_pos b3) ?_
      have b3 : F0 410 ≤ v1 := by have h9 := iv_le.mp b3; rw [hv1] at h9; rw [e2] at h9; exact h9
      refine k_push 51 rfl rfl ?_
      have hc4 : (-1 : Int32).toInt = -1 := by decide
      exact k_fin rfl rfl ⟨_, _, _, _, _, _, rfl, hI, hc4.trans (by show _ = fi _ _; exact (fi_none (fun j j1 => i2 j (by rw [wds_l] at j1; omega))).symm), rfl, rfl⟩
    · refine k_c2 10 rfl rfl (if_neg b3) ?_
      have b3 : ¬ (F0 410 ≤ v1) := by have h9 := mt iv_le.mpr b3; rw [hv1] at h9; rw [e2] at h9; exact h9
      refine k_aload 11 rfl g0 rfl ?_
      refine x_gF 15 hI 14 rfl rfl (by decide) rfl ?_
      refine k_aload 15 rfl g0 rfl ?_
      refine x_gF 7 hI 18 rfl rfl (by decide) rfl ?_
      refine k_push 19 rfl rfl ?_
      have hc5 : (5 : Int32).toInt = 5 := by decide
      refine k_iload 20 rfl g1 rfl ?_
      obtain ⟨x6, q7⟩ : ∃ q : Int32, q = (5 : Int32) * u1 := ⟨_, rfl⟩
      have e8 : x6.toInt = (5 * v1) := bx_mul q7 hc5 hv1 (by omega) (by omega)
      refine k_bin x6 21 rfl q7.symm rfl ?_
      refine k_xq hI rfl (y_get e8 hI.1 or7) rfl rfl rfl (ty_H.rc3 hI.T or7) hL (xo_r hI oc15 so_n) ?_
      rintro x9 h10 c11 s12 F13 A14 I15 L16 ⟨e17, k18, k19⟩
      replace k18 := k18.symm
      subst k18
      replace k19 := k19.symm
      subst k19
      show am_Ok _ _ _ (24, _, [.inl x9, .inr (.inr (some 15))], _, c11, s12) _
      refine k_aload 25 rfl g0 rfl ?_
      refine x_gF 7 I15 28 rfl rfl (by decide) rfl ?_
      refine k_push 29 rfl rfl ?_
      refine k_iload 30 rfl g1 rfl ?_
      obtain ⟨x20, q21⟩ : ∃ q : Int32, q = (5 : Int32) * u1 := ⟨_, rfl⟩
      have e22 : x20.toInt = (5 * v1) := bx_mul q21 hc5 hv1 (by omega) (by omega)
      refine k_bin x20 31 rfl q21.symm rfl ?_
      refine k_push 32 rfl rfl ?_
      have hc23 : (1 : Int32).toInt = 1 := by decide
      obtain ⟨x24, q25⟩ : ∃ q : Int32, q = x20 + (1 : Int32) := ⟨_, rfl⟩
      have e26 : x24.toInt = ((5 * v1) + 1) := bx_add q25 e22 hc23 (by omega) (by omega)
      refine k_bin x24 33 rfl q25.symm rfl ?_
      refine k_xq I15 rfl (y_get e26 I15.1 or7) rfl rfl rfl (ty_H.rc3 I15.T or7) L16 (so_i (xo_r I15 oc15 so_n)) ?_
      rintro x27 h28 c29 s30 F31 A32 I33 L34 ⟨e35, k36, k37⟩
      replace k36 := k36.symm
      subst k36
      replace k37 := k37.symm
      subst k37
      show am_Ok _ _ _ (36, _, [.inl x27, .inl x9, .inr (.inr (some 15))], _, c29, s30) _
      refine k_xq I33 rfl (n_X7_isWord e17 e35  (by have h9 := hp3 v1 (by omega) (by omega); exact h9) (by omega) (by omega) I33.1) rfl rfl rfl (I33.T.rc oc15 rfl) L34 so_n ?_
      rintro x38 h39 c40 s41 F42 A43 I44 L45 ⟨e46, k47, k48⟩
      replace k47 : F42 = F0 := k47
      replace k48 : A43 = A0 := k48
      replace k47 := k47.symm
      subst k47
      replace k48 := k48.symm
      subst k48
      have z49 := iv_01 (x := x38) (by rw [e46]; exact z_X7_isWord)
      show am_Ok _ _ _ (39, _, [.inl x38], _, c40, s41) _
      by_cases b50 : x38 = 0
      · refine k_c1 44 rfl rfl (if_pos b50) ?_
        have b50 : (p_X7_isWord (gl (A0 7) ((5 * v1))) (gl (A0 7) (((5 * v1) + 1))) F0 A0).1 = 0 := by have h9 := iv_eq0.mp b50; rw [e46] at h9; exact h9
        obtain ⟨x51, q52⟩ : ∃ q : Int32, q = u1 + (1 : Int32) := ⟨_, rfl⟩
        have e53 : x51.toInt = (v1 + 1) := bx_add q52 hv1 hc23 (by omega) (by omega)
        refine k_iinc x51 47 rfl g1 q52.symm rfl ?_
        refine k_goto 2 rfl rfl ?_
        exact ih _ (by omega)  (v1 := (v1 + 1)) rfl (gs_ne rfl rfl g0) gs_eq e53 I44 (okL_set rfl L45) (by omega) (fun j j1 => by by_cases z : (j : Int) = v1; exact (by rw [wds_g (by omega)]; intro e9; refine iw_f b50 ?_; rw [← z]; exact Option.some.inj e9); exact i2 j (by omega))
      · refine k_c1 42 rfl rfl (if_neg b50) ?_
        have b50 : ¬ ((p_X7_isWord (gl (A0 7) ((5 * v1))) (gl (A0 7) (((5 * v1) + 1))) F0 A0).1 = 0) := by have h9 := mt iv_eq0.mpr b50; rw [e46] at h9; exact h9
        refine k_iload 43 rfl g1 rfl ?_
        exact k_fin rfl rfl ⟨_, _, _, _, _, _, rfl, I44, hv1.trans (by show _ = fi _ _; exact (fi_some (x := v1) (by omega) (by rw [wds_g (by omega), show ((v1.toNat : Nat) : Int) = v1 by omega]; exact congrArg some (iw_t b50)) (fun j j1 => i2 j j1)).symm), rfl, rfl⟩
theorem n_X6_nameOfWord {h0 : am_h} {F0 : rf_f} {A0 : xl_A}   (hp1 : 0 ≤ F0 1502 ∧ F0 1502 ≤ F0 1503 ∧ F0 1503 ≤ ((A0 2).length : Int)) (hp2 : ((A0 2).length : Int) ≤ 700) (hp3 : PW (A0 2) (A0 7) 5 (F0 410)) (hp4 : 0 ≤ F0 410 ∧ F0 410 ≤ 12) (hR : xR h0 F0 A0) : am_Mt 3 93 [.inr (.inr (some 4))] h0 (xQ h0 (fun x F' A' => x = (p_X6_nameOfWord F0 A0).1 ∧ F' = (p_X6_nameOfWord F0 A0).2.1 ∧ A' = (p_X6_nameOfWord F0 A0).2.2)) := by
  refine am_Mt.of (D := 2) ?_
  have hI : xI h0 (ob_P h0) h0 0 0 F0 A0 := xI.start hR
  have hL : am_okL h0.length (am_args 0 [.inr (.inr (some 4))]) = true := (okA_r hI.T oc4 okA_n)
  refine k_push 1 rfl rfl ?_
  have hc54 : (0 : Int32).toInt = 0 := by decide
  refine k_istore 2 rfl rfl ?_
  exact yl_X6_nameOfWord_2   hp1 hp2 hp3 hp4 _  (v1 := 0) rfl (gs_ne rfl rfl rfl) gs_eq hc54 hI (okL_set rfl hL) (by omega) (fun j j1 => absurd j1 (by omega))
end
