/-! the Layer, whole: pure steps -/
section LZ0
variable {x i : Int} {S : lST} {t : Int → Int} {f3 nc f5 f7 v : Int} {K a75 a77 a79 c : List Int} {n : Nat}
theorem ne_cons {l : lFr} (h : l ≠ []) : ∃ (f : Int × Int) (r : lFr), l = f :: r := by
  cases l with
  | nil => exact absurd rfl h
  | cons f r => exact ⟨f, r, rfl⟩
theorem wkl_0 (h : x = 0) : wkl x i S = ((i, 0) :: S.1, S.2.1, S.2.2.1, S.2.2.2 + 1) := if_pos h
theorem wkl_1 (h : x = 1) : wkl x i S = ((i, -1) :: S.1, S.2.1, S.2.2.1 ++ [-1], S.2.2.2 + 1) := (if_neg (by omega)).trans (if_pos h)
theorem wkl_2 (h : x ≠ 0) (h1 : x ≠ 1) : wkl x i S = fn3 (i + 1) (S.2.1 ++ [(i, gl S.2.2.1 ((S.2.2.1.length : Int) - 1 - (x - 2)))]) S.1 (ssl S.2.2.1 ((S.2.2.1.length : Int) - 1 - (x - 2)) (S.2.1.length : Int)) (S.2.2.2 + 1) := (if_neg h).trans (if_neg h1)
theorem rnl_n (h0 : 0 ≤ v) (h1 : v < (n : Int)) : rnl t (n - v.toNat) v S = rnl t (n - (v + 1).toNat) (v + 1) (wkl (t v) v S) := by
  have e : n - v.toNat = (n - (v + 1).toNat) + 1 := by omega
  rw [e]
  rfl
theorem rnl_z (h : (n : Int) ≤ v) : rnl t (n - v.toNat) v S = S := by
  have e : n - v.toNat = 0 := by omega
  rw [e]
  rfl
theorem LYv.neg (h : LYv f3 nc f5 f7 K a75 a77 a79 S) : LYv f3 nc f5 f7 K a75 a77 (a79 ++ [-1]) (S.1, S.2.1, S.2.2.1 ++ [-1], S.2.2.2) := ⟨h.1, h.2.1, h.2.2.1, h.2.2.2.1, by rw [h.2.2.2.2]⟩
def lmt (c : List Int) : Nat := (rnl (gl c) c.length 0 ([], [], [], 1)).2.2.2
theorem WF0.z : WF0 [] [] := ⟨fun x hx => (by cases hx), fun q hq => (by cases hq)⟩
theorem ENM.z {L : List Int} (h : L = []) : ENM L [] := ⟨by rw [h]; rfl, fun e e0 e1 => absurd e1 (by show ¬ e < ((0 : Nat) : Int); omega)⟩
end LZ0
section
theorem yl_X0_finish_56_13 {h0 : am_h} {F0 : rf_f} {A0 : xl_A} {w1 : Int32} {n1 : Int} (hn1 : w1.toInt = n1) {w2 : Int32} {n2 : Int} (hn2 : w2.toInt = n2)  (S : lST) (hS : LYv (F0 7403) 56 (F0 5605) (F0 5607) (A0 57) (A0 75) (A0 77) (A0 79) (S)) (hW : WF0 S.2.1 S.2.2.1) (hB : S.1.length ≤ 120 ∧ S.2.1.length ≤ 120 ∧ S.2.2.1.length ≤ 120) : ∀ (n : Nat) {lv : am_l} {h : am_h} {c s : Nat} {u2 : Int32} {v2 : Int} {u3 : Int32} {v3 : Int} {u4 : Int32} {v4 : Int} {Fv : rf_f} {Av : xl_A}, ((v4 + 4).toNat) = n → am_get lv 0 = some (.inr (.inr (some 74))) → am_get lv 2 = some (.inl u2) → am_get lv 3 = some (.inl u3) → am_get lv 4 = some (.inl u4) → u2.toInt = v2 → u3.toInt = v3 → u4.toInt = v4 → xI h0 (ob_P h0) h c s Fv Av → am_okL h.length lv = true → (v2 = n2) → (∃ S9 : lST, LYv (Fv 7403) 56 (Fv 5605) (Fv 5607) (Av 57) (Av 75) (Av 77) (Av 79) (S9) ∧ S9.2.1 = S.2.1 ∧ fn3 n2 S9.2.1 S9.1 S9.2.2.1 S9.2.2.2 = fn3 n2 S.2.1 S.1 S.2.2.1 S.2.2.2 ∧ WF0 S9.2.1 S9.2.2.1 ∧ S9.2.2.1.length ≤ 120 ∧ S9.1.length ≤ 120 ∧ v4 = 3 * (S9.1.length : Int) - 3) → (fL9 F0 Fv ∧ aL9 A0 Av) → am_Ok am_G 3 4 (13, lv, [], h, c, s) (xV h0 (fun F' A' => LYv (F' 7403) 56 (F' 5605) (F' 5607) (A' 57) (A' 75) (A' 77) (A' 79) (fn3 n2 S.2.1 S.1 S.2.2.1 S.2.2.2) ∧ fL9 F0 F' ∧ aL9 A0 A')) := by
  intro n
  induction n using Nat.strongRecOn with
  | ind n ih =>
    intro lv h c s u2 v2 u3 v3 u4 v4  Fv Av hm g0 g2 g3 g4 hv2 hv3 hv4 hI hL i0 i1 i3
    obtain ⟨⟨fr9, EN9, LE9, m9⟩, j1, j2, j3, j4, j5, j6, j7⟩ := i1
    have j2 : EN9 = S.2.1 := j2
    subst j2
    have j3 : fn3 n2 S.2.1 fr9 LE9 m9 = fn3 n2 S.2.1 S.1 S.2.2.1 S.2.2.2 := j3
    have f3 : Fv 7403 = 56 := j1.1
    have j4 : WF0 S.2.1 LE9 := j4
    have j5 : LE9.length ≤ 120 := j5
    have j6 : fr9.length ≤ 120 := j6
    have j7 : v4 = 3 * (fr9.length : Int) - 3 := j7
    refine k_iload 15 rfl g4 rfl ?_
    by_cases b1 : u4 < 0
    · refine k_c1 185 rfl rfl (if_pos b1) ?_
      have b1 : v4 < 0 := by have h9 := iv_lt0.mp b1; rw [hv4] at h9; exact h9
      have hz9 : fr9 = [] := List.eq_nil_of_length_eq_zero (by omega)
      subst hz9
      refine k_aload 186 rfl g0 rfl ?_
      refine x_gO (τ := 1) hI 189 rfl oc74 rfl rfl rfl rfl (fun r2 (e3 : (r2 : Int) = Fv 7403) o4 => ?_)
      obtain rfl : r2 = 56 := by omega
      refine k_push 190 rfl rfl ?_
      have hc5 : (0 : Int32).toInt = 0 := by decide
      refine k_iload 191 rfl g3 rfl ?_
      refine k_xv hI rfl (n_X1_link_56 hc5 hv3   hI.1) rfl rfl rfl (hI.T.rc oc56 rfl) hL so_n ?_
      rintro h7 c8 s9 F10 A11 I12 L13 ⟨k15, k16⟩
      replace k15 : F10 = Fv := k15
      replace k15 := k15.symm
      subst k15
      replace k16 := k16.symm
      subst k16
      show am_Ok _ _ _ (194, _, [], _, c8, s9) _
      exact k_fin rfl rfl ⟨_, _, _, _, _, rfl, I12, (by show LYv (Fv 7403) 56 (Fv 5605) (Fv 5607) (((p_X1_link_56 0 v3 Fv Av).2.2) 57) (((p_X1_link_56 0 v3 Fv Av).2.2) 75) (((p_X1_link_56 0 v3 Fv Av).2.2) 77) (((p_X1_link_56 0 v3 Fv Av).2.2) 79) (fn3 n2 S.2.1 S.1 S.2.2.1 S.2.2.2) ∧ fL9 F0 Fv ∧ aL9 A0 ((p_X1_link_56 0 v3 Fv Av).2.2); refine ⟨?_, i3.1, i3.2.tr (fun k hk => lk_56 (by omega))⟩; rw [← j3]; exact j1)⟩
    · refine k_c1 18 rfl rfl (if_neg b1) ?_
      have b1 : ¬ (v4 < 0) := by have h9 := mt iv_lt0.mpr b1; rw [hv4] at h9; exact h9
      obtain ⟨f9, fr8, hf9⟩ : ∃ (f : Int × Int) (r : lFr), fr9 = f :: r := ne_cons (fun z9 => by rw [z9] at j7; have j7 : v4 = 3 * ((0 : Nat) : Int) - 3 := j7; omega)
      subst hf9
      have j8 : v4 = 3 * ((f9 :: fr8).length : Int) - 3 := j7
      have j9 : v4 = 3 * (fr8.length : Int) := by have h9 : ((f9 :: fr8).length : Int) = ((fr8.length + 1 : Nat) : Int) := rfl; omega
      have j10 : fr8.length ≤ 120 := Nat.le_of_succ_le j6
      obtain ⟨t1, t2, t3, t4⟩ := FRM.top j1.2.2.1
      rw [← j8] at t1 t2 t4
      refine k_aload 19 rfl g0 rfl ?_
      refine x_gF 75 hI 22 rfl rfl (by decide) rfl ?_
      refine k_iload 24 rfl g4 rfl ?_
      refine k_xq hI rfl (y_get hv4 hI.1 or75) rfl rfl rfl (ty_H.rc3 hI.T or75) hL so_n ?_
      rintro x17 h18 c19 s20 F21 A22 I23 L24 ⟨e25, k26, k27⟩
      replace k26 := k26.symm
      subst k26
      replace k27 := k27.symm
      subst k27
      show am_Ok _ _ _ (27, _, [.inl x17], _, c19, s20) _
      refine k_istore 29 rfl rfl ?_
      refine k_aload 30 rfl (gs_ne rfl rfl g0) rfl ?_
      refine x_gF 75 I23 33 rfl rfl (by decide) rfl ?_
      refine k_iload 35 rfl (gs_ne rfl rfl g4) rfl ?_
      refine k_push 36 rfl rfl ?_
      have hc28 : (2 : Int32).toInt = 2 := by decide
      obtain ⟨x29, q30⟩ : ∃ q : Int32, q = u4 + (2 : Int32) := ⟨_, rfl⟩
      have e31 : x29.toInt = (v4 + 2) := bx_add q30 hv4 hc28 (by omega) (by omega)
      refine k_bin x29 37 rfl q30.symm rfl ?_
      refine k_xq I23 rfl (y_get e31 I23.1 or75) rfl rfl rfl (ty_H.rc3 I23.T or75) (okL_set (i := 5) (v := .inl x17) rfl L24) so_n ?_
      rintro x32 h33 c34 s35 F36 A37 I38 L39 ⟨e40, k41, k42⟩
      replace k41 := k41.symm
      subst k41
      replace k42 := k42.symm
      subst k42
      show am_Ok _ _ _ (40, _, [.inl x32], _, c34, s35) _
      refine k_istore 42 rfl rfl ?_
      refine k_iload 44 rfl gs_eq rfl ?_
      by_cases b43 : x32 = 0
      · refine k_c1 47 rfl rfl (if_pos b43) ?_
        have b43 : gl (Av 75) ((v4 + 2)) = 0 := by have h9 := iv_eq0.mp b43; rw [e40] at h9; exact h9
        refine k_aload 48 rfl (gs_ne rfl rfl (gs_ne rfl rfl g0)) rfl ?_
        refine x_gO (τ := 1) I38 51 rfl oc74 rfl rfl rfl rfl (fun r44 (e45 : (r44 : Int) = Fv 7403) o46 => ?_)
        obtain rfl : r44 = 56 := by omega
        refine k_push 52 rfl rfl ?_
        have hc47 : (4 : Int32).toInt = 4 := by decide
        refine k_iload 54 rfl (gs_ne rfl rfl gs_eq) rfl ?_
        obtain ⟨x48, q49⟩ : ∃ q : Int32, q = (4 : Int32) * x17 := ⟨_, rfl⟩
        have e50 : x48.toInt = bm (4 * gl (Av 75) (v4)) := bm_mul q49 hc47 e25
        refine k_bin x48 55 rfl q49.symm rfl ?_
        refine k_iload 56 rfl (gs_ne rfl rfl (gs_ne rfl rfl g3)) rfl ?_
        refine k_xv I38 rfl (n_X1_link_56 e50 hv3   I38.1) rfl rfl rfl (I38.T.rc oc56 rfl) (okL_set (i := 6) (v := .inl x32) rfl L39) so_n ?_
        rintro h52 c53 s54 F55 A56 I57 L58 ⟨k60, k61⟩
        replace k60 : F55 = Fv := k60
        replace k60 := k60.symm
        subst k60
        replace k61 := k61.symm
        subst k61
        show am_Ok _ _ _ (59, _, [], _, c53, s54) _
        refine k_aload 60 rfl (gs_ne rfl rfl (gs_ne rfl rfl g0)) rfl ?_
        refine x_gF 75 I57 63 rfl rfl (by decide) rfl ?_
        refine k_iload 65 rfl (gs_ne rfl rfl (gs_ne rfl rfl g4)) rfl ?_
        refine k_push 66 rfl rfl ?_
        obtain ⟨x62, q63⟩ : ∃ q : Int32, q = u4 + (2 : Int32) := ⟨_, rfl⟩
        have e64 : x62.toInt = (v4 + 2) := bx_add q63 hv4 hc28 (by omega) (by omega)
        refine k_bin x62 67 rfl q63.symm rfl ?_
        refine k_iload 68 rfl (gs_ne rfl rfl (gs_ne rfl rfl g2)) rfl ?_
        refine k_xv I57 rfl (y_set e64 hv2 I57.1 or75) rfl rfl rfl (ty_H.rc3 I57.T or75) L58 so_n ?_
        rintro h66 c67 s68 F69 A70 I71 L72 ⟨k74, k75⟩
        replace k74 := k74.symm
        subst k74
        replace k75 := k75.symm
        subst k75
        show am_Ok _ _ _ (71, _, [], _, c67, s68) _
        refine k_aload 72 rfl (gs_ne rfl rfl (gs_ne rfl rfl g0)) rfl ?_
        refine k_dup 73 rfl rfl rfl ?_
        refine x_gI I71 76 rfl oc74 rfl rfl rfl rfl (fun x76 (e77 : x76.toInt = Fv 7404) => ?_)
        refine k_push 77 rfl rfl ?_
        have hc78 : (1 : Int32).toInt = 1 := by decide
        obtain ⟨x79, q80⟩ : ∃ q : Int32, q = x76 + (1 : Int32) := ⟨_, rfl⟩
        have e81 : x79.toInt = bm (Fv 7404 + 1) := bm_add q80 e77 hc78
        refine k_bin x79 78 rfl q80.symm rfl ?_
        refine x_pI (fx_ok := fx_no rfl) I71 81 rfl oc74 rfl rfl rfl rfl (fun h82 I83 l84 => ?_)
        have L85 := okL_eq l84 L72
        have I86 : xI h0 (ob_P h0) h82 c67 s68 (up1 Fv 7404 (bm (Fv 7404 + 1))) (upl ((p_X1_link_56 (bm (4 * gl (Av 75) (v4))) v3 Fv Av).2.2) 75 (ssl ((p_X1_link_56 (bm (4 * gl (Av 75) (v4))) v3 Fv Av).2.2 75) ((v4 + 2)) (v2))) := by have h9 := I83; rw [e81] at h9; exact h9
        exact k_fin rfl rfl ⟨_, _, _, _, _, rfl, I86, (by show LYv (((up1 Fv 7404 (bm (Fv 7404 + 1)))) 7403) 56 (((up1 Fv 7404 (bm (Fv 7404 + 1)))) 5605) (((up1 Fv 7404 (bm (Fv 7404 + 1)))) 5607) (((upl ((p_X1_link_56 (bm (4 * gl (Av 75) (v4))) v3 Fv Av).2.2) 75 (ssl ((p_X1_link_56 (bm (4 * gl (Av 75) (v4))) v3 Fv Av).2.2 75) ((v4 + 2)) (v2)))) 57) (((upl ((p_X1_link_56 (bm (4 * gl (Av 75) (v4))) v3 Fv Av).2.2) 75 (ssl ((p_X1_link_56 (bm (4 * gl (Av 75) (v4))) v3 Fv Av).2.2 75) ((v4 + 2)) (v2)))) 75) (((upl ((p_X1_link_56 (bm (4 * gl (Av 75) (v4))) v3 Fv Av).2.2) 75 (ssl ((p_X1_link_56 (bm (4 * gl (Av 75) (v4))) v3 Fv Av).2.2 75) ((v4 + 2)) (v2)))) 77) (((upl ((p_X1_link_56 (bm (4 * gl (Av 75) (v4))) v3 Fv Av).2.2) 75 (ssl ((p_X1_link_56 (bm (4 * gl (Av 75) (v4))) v3 Fv Av).2.2 75) ((v4 + 2)) (v2)))) 79) (fn3 n2 S.2.1 S.1 S.2.2.1 S.2.2.2) ∧ fL9 F0 ((up1 Fv 7404 (bm (Fv 7404 + 1)))) ∧ aL9 A0 ((upl ((p_X1_link_56 (bm (4 * gl (Av 75) (v4))) v3 Fv Av).2.2) 75 (ssl ((p_X1_link_56 (bm (4 * gl (Av 75) (v4))) v3 Fv Av).2.2 75) ((v4 + 2)) (v2)))); refine ⟨?_, i3.1.tr (fun n hn => up1_ne (by omega)), i3.2.tr (fun k hk => (upl_ne (by omega)).trans (lk_56 (by omega)))⟩; rw [← j3, fn3_st.1 (t2.symm.trans b43), ← i0]; have h9 := j1.arg (b := v2); rw [← j8] at h9; exact h9)⟩
      · refine k_c1 82 rfl rfl (if_neg b43) ?_
        have b43 : ¬ (gl (Av 75) ((v4 + 2)) = 0) := by have h9 := mt iv_eq0.mpr b43; rw [e40] at h9; exact h9
        refine k_iload 84 rfl gs_eq rfl ?_
        refine k_push 85 rfl rfl ?_
        have hc87 : (-1 : Int32).toInt = -1 := by decide
        by_cases b88 : x32 = (-1 : Int32)
        · refine k_c2 88 rfl rfl (if_pos b88) ?_
          have b88 : gl (Av 75) ((v4 + 2)) = (-1) := by have h9 := iv_eq.mp b88; rw [e40] at h9; rw [hc87] at h9; exact h9
          refine k_aload 89 rfl (gs_ne rfl rfl (gs_ne rfl rfl g0)) rfl ?_
          refine x_gO (τ := 1) I38 92 rfl oc74 rfl rfl rfl rfl (fun r89 (e90 : (r89 : Int) = Fv 7403) o91 => ?_)
          obtain rfl : r89 = 56 := by omega
          refine k_push 93 rfl rfl ?_
          have hc92 : (4 : Int32).toInt = 4 := by decide
          refine k_iload 95 rfl (gs_ne rfl rfl gs_eq) rfl ?_
          obtain ⟨x93, q94⟩ : ∃ q : Int32, q = (4 : Int32) * x17 := ⟨_, rfl⟩
          have e95 : x93.toInt = bm (4 * gl (Av 75) (v4)) := bm_mul q94 hc92 e25
          refine k_bin x93 96 rfl q94.symm rfl ?_
          refine k_push 97 rfl rfl ?_
          have hc96 : (1 : Int32).toInt = 1 := by decide
          obtain ⟨x97, q98⟩ : ∃ q : Int32, q = x93 + (1 : Int32) := ⟨_, rfl⟩
          have e99 : x97.toInt = bm (bm (4 * gl (Av 75) (v4)) + 1) := bm_add q98 e95 hc96
          refine k_bin x97 98 rfl q98.symm rfl ?_
          refine k_iload 99 rfl (gs_ne rfl rfl (gs_ne rfl rfl g3)) rfl ?_
          refine k_xv I38 rfl (n_X1_link_56 e99 hv3   I38.1) rfl rfl rfl (I38.T.rc oc56 rfl) (okL_set (i := 6) (v := .inl x32) rfl L39) so_n ?_
          rintro h101 c102 s103 F104 A105 I106 L107 ⟨k109, k110⟩
          replace k109 : F104 = Fv := k109
          replace k109 := k109.symm
          subst k109
          replace k110 := k110.symm
          subst k110
          show am_Ok _ _ _ (102, _, [], _, c102, s103) _
          refine k_aload 103 rfl (gs_ne rfl rfl (gs_ne rfl rfl g0)) rfl ?_
          refine k_iload 105 rfl (gs_ne rfl rfl gs_eq) rfl ?_
          refine k_xv I106 rfl (n_X0_finishFunction_56 e25  ((f9 :: fr8, S.2.1, LE9, m9)) (by exact j1) I106.1) rfl rfl rfl (I106.T.rc oc74 rfl) L107 so_n ?_
          rintro h112 c113 s114 F115 A116 I117 L118 e119
          show am_Ok _ _ _ (108, _, [], _, c113, s114) _
          refine k_push 109 rfl rfl ?_
          refine k_iload 111 rfl (gs_ne rfl rfl gs_eq) rfl ?_
          obtain ⟨x120, q121⟩ : ∃ q : Int32, q = (4 : Int32) * x17 := ⟨_, rfl⟩
          have e122 : x120.toInt = bm (4 * gl (Av 75) (v4)) := bm_mul q121 hc92 e25
          refine k_bin x120 112 rfl q121.symm rfl ?_
          refine k_istore 113 rfl rfl ?_
          refine k_goto 170 rfl rfl ?_
          refine k_aload 171 rfl (gs_ne rfl rfl (gs_ne rfl rfl (gs_ne rfl rfl g0))) rfl ?_
          refine x_gF 75 I117 174 rfl rfl (by decide) rfl ?_
          refine k_iload 176 rfl (gs_ne rfl rfl (gs_ne rfl rfl (gs_ne rfl rfl g4))) rfl ?_
          refine k_xv I117 rfl (y_cut hv4 I117.1 or75) rfl rfl rfl (ty_H.rc3 I117.T or75) (okL_set (i := 3) (v := .inl x120) rfl L118) so_n ?_
          rintro h124 c125 s126 F127 A128 I129 L130 ⟨k132, k133⟩
          replace k132 := k132.symm
          subst k132
          replace k133 := k133.symm
          subst k133
          show am_Ok _ _ _ (179, _, [], _, c125, s126) _
          have hc134 : (-3 : Int32).toInt = -3 := by decide
          obtain ⟨x135, q136⟩ : ∃ q : Int32, q = u4 + (-3 : Int32) := ⟨_, rfl⟩
          have e137 : x135.toInt = (v4 + -3) := bx_add q136 hv4 hc134 (by omega) (by omega)
          refine k_iinc x135 182 rfl (gs_ne rfl rfl (gs_ne rfl rfl (gs_ne rfl rfl g4))) q136.symm rfl ?_
          refine k_goto 13 rfl rfl ?_
          exact ih _ (by omega)  (Fv := F115) (Av := (upl A116 75 (cutl (A116 75) (v4)))) (v2 := v2) (v3 := bm (4 * gl (Av 75) (v4))) (v4 := (v4 + -3)) rfl (gs_ne rfl rfl (gs_ne rfl rfl (gs_ne rfl rfl (gs_ne rfl rfl g0)))) (gs_ne rfl rfl (gs_ne rfl rfl (gs_ne rfl rfl (gs_ne rfl rfl g2)))) (gs_ne rfl rfl gs_eq) gs_eq hv2 e122 e137 I129 (okL_set (i := 4) (v := .inl x135) rfl L130) (i0) (⟨(fr8, S.2.1, LE9.dropLast, m9 + if LE9.getLastD 0 = -1 then 1 else 0), e119.1.cut j9, rfl, (fn3_st.2.1 (t2.symm.trans b88)).symm.trans j3, j4.dl, by (show LE9.dropLast.length ≤ 120; rw [List.length_dropLast]; omega), by (show fr8.length ≤ 120; exact j10), by (show v4 + -3 = 3 * (fr8.length : Int) - 3; omega)⟩) (⟨i3.1.tr e119.2.1, i3.2.tr (fun k hk => (upl_ne (by omega)).trans ((e119.2.2 k hk).trans (lk_56 (by omega))))⟩)
        · refine k_c2 116 rfl rfl (if_neg b88) ?_
          have b88 : ¬ (gl (Av 75) ((v4 + 2)) = (-1)) := by have h9 := mt iv_eq.mpr b88; rw [e40] at h9; rw [hc87] at h9; exact h9
          refine k_aload 117 rfl (gs_ne rfl rfl (gs_ne rfl rfl g0)) rfl ?_
          refine x_gO (τ := 1) I38 120 rfl oc74 rfl rfl rfl rfl (fun r138 (e139 : (r138 : Int) = Fv 7403) o140 => ?_)
          obtain rfl : r138 = 56 := by omega
          refine k_push 121 rfl rfl ?_
          have hc141 : (4 : Int32).toInt = 4 := by decide
          refine k_iload 123 rfl (gs_ne rfl rfl gs_eq) rfl ?_
          obtain ⟨x142, q143⟩ : ∃ q : Int32, q = (4 : Int32) * x17 := ⟨_, rfl⟩
          have e144 : x142.toInt = bm (4 * gl (Av 75) (v4)) := bm_mul q143 hc141 e25
          refine k_bin x142 124 rfl q143.symm rfl ?_
          refine k_push 125 rfl rfl ?_
          obtain ⟨x145, q146⟩ : ∃ q : Int32, q = x142 + (2 : Int32) := ⟨_, rfl⟩
          have e147 : x145.toInt = bm (bm (4 * gl (Av 75) (v4)) + 2) := bm_add q146 e144 hc28
          refine k_bin x145 126 rfl q146.symm rfl ?_
          refine k_iload 127 rfl (gs_ne rfl rfl (gs_ne rfl rfl g3)) rfl ?_
          refine k_xv I38 rfl (n_X1_link_56 e147 hv3   I38.1) rfl rfl rfl (I38.T.rc oc56 rfl) (okL_set (i := 6) (v := .inl x32) rfl L39) so_n ?_
          rintro h149 c150 s151 F152 A153 I154 L155 ⟨k157, k158⟩
          replace k157 : F152 = Fv := k157
          replace k157 := k157.symm
          subst k157
          replace k158 := k158.symm
          subst k158
          show am_Ok _ _ _ (130, _, [], _, c150, s151) _
          refine k_aload 131 rfl (gs_ne rfl rfl (gs_ne rfl rfl g0)) rfl ?_
          refine k_dup 132 rfl rfl rfl ?_
          refine x_gI I154 135 rfl oc74 rfl rfl rfl rfl (fun x159 (e160 : x159.toInt = Fv 7404) => ?_)
          refine k_push 136 rfl rfl ?_
          have hc161 : (1 : Int32).toInt = 1 := by decide
          obtain ⟨x162, q163⟩ : ∃ q : Int32, q = x159 - (1 : Int32) := ⟨_, rfl⟩
          have e164 : x162.toInt = bm (Fv 7404 - 1) := bm_sub q163 e160 hc161
          refine k_bin x162 137 rfl q163.symm rfl ?_
          refine x_pI (fx_ok := fx_no rfl) I154 140 rfl oc74 rfl rfl rfl rfl (fun h165 I166 l167 => ?_)
          have L168 := okL_eq l167 L155
          have I169 : xI h0 (ob_P h0) h165 c150 s151 (up1 Fv 7404 (bm (Fv 7404 - 1))) (p_X1_link_56 (bm (bm (4 * gl (Av 75) (v4)) + 2)) v3 Fv Av).2.2 := by have h9 := I166; rw [e164] at h9; exact h9
          refine k_aload 141 rfl (gs_ne rfl rfl (gs_ne rfl rfl g0)) rfl ?_
          refine k_iload 143 rfl gs_eq rfl ?_
          refine k_xv I169 rfl (n_X0_bracketEnds_56 e40  ((f9 :: fr8, S.2.1, LE9, m9)) (by exact j1) (by exact j4) (by exact ⟨hB.2.1, j5⟩) I169.1) rfl rfl rfl (I169.T.rc oc74 rfl) L168 so_n ?_
          rintro h171 c172 s173 F174 A175 I176 L177 e178
          show am_Ok _ _ _ (146, _, [], _, c172, s173) _
          have qq1 := (FRM.top e178.1.2.2.1).1
          rw [← j8] at qq1
          refine k_aload 147 rfl (gs_ne rfl rfl (gs_ne rfl rfl g0)) rfl ?_
          refine k_aload 148 rfl (gs_ne rfl rfl (gs_ne rfl rfl g0)) rfl ?_
          refine x_gF 75 I176 151 rfl rfl (by decide) rfl ?_
          refine k_iload 153 rfl (gs_ne rfl rfl (gs_ne rfl rfl g4)) rfl ?_
          refine k_push 154 rfl rfl ?_
          obtain ⟨x179, q180⟩ : ∃ q : Int32, q = u4 + (1 : Int32) := ⟨_, rfl⟩
          have e181 : x179.toInt = (v4 + 1) := bx_add q180 hv4 hc161 (by omega) (by omega)
          refine k_bin x179 155 rfl q180.symm rfl ?_
          refine k_xq I176 rfl (y_get e181 I176.1 or75) rfl rfl rfl (ty_H.rc3 I176.T or75) L177 (xo_r I176 oc74 so_n) ?_
          rintro x182 h183 c184 s185 F186 A187 I188 L189 ⟨e190, k191, k192⟩
          replace k191 := k191.symm
          subst k191
          replace k192 := k192.symm
          subst k192
          show am_Ok _ _ _ (158, _, [.inl x182, .inr (.inr (some 74))], _, c184, s185) _
          refine k_iload 160 rfl gs_eq rfl ?_
          refine k_xv I188 rfl (n_X0_fanEnds_56 e190 e40  ((f9 :: fr8, S.2.1, LE9, m9 + bkn S.2.1 (gl (Av 75) ((v4 + 2))) LE9)) (by exact e178.1) (by exact j4) (by exact ⟨hB.2.1, j5⟩) I188.1) rfl rfl rfl (I188.T.rc oc74 rfl) L189 so_n ?_
          rintro h194 c195 s196 F197 A198 I199 L200 e201
          show am_Ok _ _ _ (163, _, [], _, c195, s196) _
          refine k_push 164 rfl rfl ?_
          refine k_iload 166 rfl (gs_ne rfl rfl gs_eq) rfl ?_
          obtain ⟨x202, q203⟩ : ∃ q : Int32, q = (4 : Int32) * x17 := ⟨_, rfl⟩
          have e204 : x202.toInt = bm (4 * gl (Av 75) (v4)) := bm_mul q203 hc141 e25
          refine k_bin x202 167 rfl q203.symm rfl ?_
          refine k_push 168 rfl rfl ?_
          obtain ⟨x205, q206⟩ : ∃ q : Int32, q = x202 + (1 : Int32) := ⟨_, rfl⟩
          have e207 : x205.toInt = bm (bm (4 * gl (Av 75) (v4)) + 1) := bm_add q206 e204 hc161
          refine k_bin x205 169 rfl q206.symm rfl ?_
          refine k_istore 170 rfl rfl ?_
          refine k_aload 171 rfl (gs_ne rfl rfl (gs_ne rfl rfl (gs_ne rfl rfl g0))) rfl ?_
          refine x_gF 75 I199 174 rfl rfl (by decide) rfl ?_
          refine k_iload 176 rfl (gs_ne rfl rfl (gs_ne rfl rfl (gs_ne rfl rfl g4))) rfl ?_
          refine k_xv I199 rfl (y_cut hv4 I199.1 or75) rfl rfl rfl (ty_H.rc3 I199.T or75) (okL_set (i := 3) (v := .inl x205) rfl L200) so_n ?_
          rintro h209 c210 s211 F212 A213 I214 L215 ⟨k217, k218⟩
          replace k217 := k217.symm
          subst k217
          replace k218 := k218.symm
          subst k218
          show am_Ok _ _ _ (179, _, [], _, c210, s211) _
          have hc219 : (-3 : Int32).toInt = -3 := by decide
          obtain ⟨x220, q221⟩ : ∃ q : Int32, q = u4 + (-3 : Int32) := ⟨_, rfl⟩
          have e222 : x220.toInt = (v4 + -3) := bx_add q221 hv4 hc219 (by omega) (by omega)
          refine k_iinc x220 182 rfl (gs_ne rfl rfl (gs_ne rfl rfl (gs_ne rfl rfl g4))) q221.symm rfl ?_
          refine k_goto 13 rfl rfl ?_
          exact ih _ (by omega)  (Fv := F197) (Av := (upl A198 75 (cutl (A198 75) (v4)))) (v2 := v2) (v3 := bm (bm (4 * gl (Av 75) (v4)) + 1)) (v4 := (v4 + -3)) rfl (gs_ne rfl rfl (gs_ne rfl rfl (gs_ne rfl rfl (gs_ne rfl rfl g0)))) (gs_ne rfl rfl (gs_ne rfl rfl (gs_ne rfl rfl (gs_ne rfl rfl g2)))) (gs_ne rfl rfl gs_eq) gs_eq hv2 e207 e222 I214 (okL_set (i := 4) (v := .inl x220) rfl L215) (i0) (⟨(fr8, S.2.1, LE9.map (fnv S.2.1 f9.1 f9.2), m9 + bkn S.2.1 f9.2 LE9 + fnn S.2.1 f9.1 f9.2 LE9), by (have h9 := e201.1.cut j9; rw [qq1, t2] at h9; exact h9), rfl, (fn3_st.2.2 (by rw [← t2]; exact b43) (by rw [← t2]; exact b88)).symm.trans j3, j4.mp, by (show (LE9.map _).length ≤ 120; rw [List.length_map]; exact j5), by (show fr8.length ≤ 120; exact j10), by (show v4 + -3 = 3 * (fr8.length : Int) - 3; omega)⟩) (⟨i3.1.tr (fun n hn => (e201.2.1 n hn).trans ((e178.2.1 n hn).trans (up1_ne (by omega)))), i3.2.tr (fun k hk => (upl_ne (by omega)).trans ((e201.2.2 k hk).trans ((e178.2.2 k hk).trans (lk_56 (by omega)))))⟩)
theorem n_X0_finish_56 {h0 : am_h} {F0 : rf_f} {A0 : xl_A} {w1 : Int32} {n1 : Int} (hn1 : w1.toInt = n1) {w2 : Int32} {n2 : Int} (hn2 : w2.toInt = n2)  (S : lST) (hS : LYv (F0 7403) 56 (F0 5605) (F0 5607) (A0 57) (A0 75) (A0 77) (A0 79) (S)) (hW : WF0 S.2.1 S.2.2.1) (hB : S.1.length ≤ 120 ∧ S.2.1.length ≤ 120 ∧ S.2.2.1.length ≤ 120) (hR : xR h0 F0 A0) : am_Mt 4 4 [.inr (.inr (some 74)), .inl w1, .inl w2] h0 (xV h0 (fun F' A' => LYv (F' 7403) 56 (F' 5605) (F' 5607) (A' 57) (A' 75) (A' 77) (A' 79) (fn3 n2 S.2.1 S.1 S.2.2.1 S.2.2.2) ∧ fL9 F0 F' ∧ aL9 A0 A')) := by
  refine am_Mt.of (D := 3) ?_
  have hI : xI h0 (ob_P h0) h0 0 0 F0 A0 := xI.start hR
  have hL : am_okL h0.length (am_args 0 [.inr (.inr (some 74)), .inl w1, .inl w2]) = true := (okA_r hI.T oc74 (okA_i (okA_i okA_n)))
  refine k_iload 1 rfl rfl rfl ?_
  refine k_istore 2 rfl rfl ?_
  refine k_aload 3 rfl (gs_ne rfl rfl rfl) rfl ?_
  refine x_gF 75 hI 6 rfl rfl (by decide) rfl ?_
  have ll75 := hS.2.2.1.len
  refine k_xq hI rfl (xv_size hI.1 or75) rfl rfl rfl (ty_H.rc3 hI.T or75) (okL_set (i := 3) (v := .inl w1) rfl hL) so_n ?_
  rintro x223 h224 c225 s226 F227 A228 I229 L230 ⟨e231, k232, k233⟩
  replace k232 := k232.symm
  subst k232
  replace k233 := k233.symm
  subst k233
  show am_Ok _ _ _ (9, _, [.inl x223], _, c225, s226) _
  refine k_push 10 rfl rfl ?_
  have hc234 : (3 : Int32).toInt = 3 := by decide
  obtain ⟨x235, q236⟩ : ∃ q : Int32, q = x223 - (3 : Int32) := ⟨_, rfl⟩
  have e237 : x235.toInt = ((((A0 75).length : Nat) : Int) - 3) := bx_sub q236 e231 hc234 (by omega) (by omega)
  refine k_bin x235 11 rfl q236.symm rfl ?_
  refine k_istore 13 rfl rfl ?_
  exact yl_X0_finish_56_13 hn1 hn2  S hS hW hB _  (Fv := F0) (Av := A0) (v2 := n2) (v3 := n1) (v4 := ((((A0 75).length : Nat) : Int) - 3)) rfl (gs_ne rfl rfl (gs_ne rfl rfl rfl)) (gs_ne rfl rfl (gs_ne rfl rfl rfl)) (gs_ne rfl rfl gs_eq) gs_eq hn2 hn1 e237 I229 (okL_set (i := 4) (v := .inl x235) rfl L230) (rfl) (⟨S, hS, rfl, rfl, hW, hB.2.2, hB.1, by omega⟩) (⟨fun n hn => rfl, fun k hk => rfl⟩)
end
section
theorem yl_X0_finish_65_13 {h0 : am_h} {F0 : rf_f} {A0 : xl_A} {w1 : Int32} {n1 : Int} (hn1 : w1.toInt = n1) {w2 : Int32} {n2 : Int} (hn2 : w2.toInt = n2)  (S : lST) (hS : LYv (F0 7403) 65 (F0 6505) (F0 6507) (A0 66) (A0 75) (A0 77) (A0 79) (S)) (hW : WF0 S.2.1 S.2.2.1) (hB : S.1.length ≤ 120 ∧ S.2.1.length ≤ 120 ∧ S.2.2.1.length ≤ 120) : ∀ (n : Nat) {lv : am_l} {h : am_h} {c s : Nat} {u2 : Int32} {v2 : Int} {u3 : Int32} {v3 : Int} {u4 : Int32} {v4 : Int} {Fv : rf_f} {Av : xl_A}, ((v4 + 4).toNat) = n → am_get lv 0 = some (.inr (.inr (some 74))) → am_get lv 2 = some (.inl u2) → am_get lv 3 = some (.inl u3) → am_get lv 4 = some (.inl u4) → u2.toInt = v2 → u3.toInt = v3 → u4.toInt = v4 → xI h0 (ob_P h0) h c s Fv Av → am_okL h.length lv = true → (v2 = n2) → (∃ S9 : lST, LYv (Fv 7403) 65 (Fv 6505) (Fv 6507) (Av 66) (Av 75) (Av 77) (Av 79) (S9) ∧ S9.2.1 = S.2.1 ∧ fn3 n2 S9.2.1 S9.1 S9.2.2.1 S9.2.2.2 = fn3 n2 S.2.1 S.1 S.2.2.1 S.2.2.2 ∧ WF0 S9.2.1 S9.2.2.1 ∧ S9.2.2.1.length ≤ 120 ∧ S9.1.length ≤ 120 ∧ v4 = 3 * (S9.1.length : Int) - 3) → (fL9 F0 Fv ∧ aL9 A0 Av) → am_Ok am_G 3 4 (13, lv, [], h, c, s) (xV h0 (fun F' A' => LYv (F' 7403) 65 (F' 6505) (F' 6507) (A' 66) (A' 75) (A' 77) (A' 79) (fn3 n2 S.2.1 S.1 S.2.2.1 S.2.2.2) ∧ fL9 F0 F' ∧ aL9 A0 A')) := by
  intro n
  induction n using Nat.strongRecOn with
  | ind n ih =>
    intro lv h c s u2 v2 u3 v3 u4 v4  Fv Av hm g0 g2 g3 g4 hv2 hv3 hv4 hI hL i0 i1 i3
    obtain ⟨⟨fr9, EN9, LE9, m9⟩, j1, j2, j3, j4, j5, j6, j7⟩ := i1
    have j2 : EN9 = S.2.1 := j2
    subst j2
    have j3 : fn3 n2 S.2.1 fr9 LE9 m9 = fn3 n2 S.2.1 S.1 S.2.2.1 S.2.2.2 := j3
    have f3 : Fv 7403 = 65 := j1.1
    have j4 : WF0 S.2.1 LE9 := j4
    have j5 : LE9.length ≤ 120 := j5
    have j6 : fr9.length ≤ 120 := j6
    have j7 : v4 = 3 * (fr9.length : Int) - 3 := j7
    refine k_iload 15 rfl g4 rfl ?_
    by_cases b1 : u4 < 0
    · refine k_c1 185 rfl rfl (if_pos b1) ?_
      have b1 : v4 < 0 := by have h9 := iv_lt0.mp b1; rw [hv4] at h9; exact h9
      have hz9 : fr9 = [] := List.eq_nil_of_length_eq_zero (by omega)
      subst hz9
      refine k_aload 186 rfl g0 rfl ?_
      refine x_gO (τ := 1) hI 189 rfl oc74 rfl rfl rfl rfl (fun r2 (e3 : (r2 : Int) = Fv 7403) o4 => ?_)
      obtain rfl : r2 = 65 := by omega
      refine k_push 190 rfl rfl ?_
      have hc5 : (0 : Int32).toInt = 0 := by decide
      refine k_iload 191 rfl g3 rfl ?_
      refine k_xv hI rfl (n_X1_link_65 hc5 hv3   hI.1) rfl rfl rfl (hI.T.rc oc65 rfl) hL so_n ?_
      rintro h7 c8 s9 F10 A11 I12 L13 ⟨k15, k16⟩
      replace k15 : F10 = Fv := k15
      replace k15 := k15.symm
      subst k15
      replace k16 := k16.symm
      subst k16
      show am_Ok _ _ _ (194, _, [], _, c8, s9) _
      exact k_fin rfl rfl ⟨_, _, _, _, _, rfl, I12, (by show LYv (Fv 7403) 65 (Fv 6505) (Fv 6507) (((p_X1_link_65 0 v3 Fv Av).2.2) 66) (((p_X1_link_65 0 v3 Fv Av).2.2) 75) (((p_X1_link_65 0 v3 Fv Av).2.2) 77) (((p_X1_link_65 0 v3 Fv Av).2.2) 79) (fn3 n2 S.2.1 S.1 S.2.2.1 S.2.2.2) ∧ fL9 F0 Fv ∧ aL9 A0 ((p_X1_link_65 0 v3 Fv Av).2.2); refine ⟨?_, i3.1, i3.2.tr (fun k hk => lk_65 (by omega))⟩; rw [← j3]; exact j1)⟩
    · refine k_c1 18 rfl rfl (if_neg b1) ?_
      have b1 : ¬ (v4 < 0) := by have h9 := mt iv_lt0.mpr b1; rw [hv4] at h9; exact h9
      obtain ⟨f9, fr8, hf9⟩ : ∃ (f : Int × Int) (r : lFr), fr9 = f :: r := ne_cons (fun z9 => by rw [z9] at j7; have j7 : v4 = 3 * ((0 : Nat) : Int) - 3 := j7; omega)
      subst hf9
      have j8 : v4 = 3 * ((f9 :: fr8).length : Int) - 3 := j7
      have j9 : v4 = 3 * (fr8.length : Int) := by have h9 : ((f9 :: fr8).length : Int) = ((fr8.length + 1 : Nat) : Int) := rfl; omega
      have j10 : fr8.length ≤ 120 := Nat.le_of_succ_le j6
      obtain ⟨t1, t2, t3, t4⟩ := FRM.top j1.2.2.1
      rw [← j8] at t1 t2 t4
      refine k_aload 19 rfl g0 rfl ?_
      refine x_gF 75 hI 22 rfl rfl (by decide) rfl ?_
      refine k_iload 24 rfl g4 rfl ?_
      refine k_xq hI rfl (y_get hv4 hI.1 or75) rfl rfl rfl (ty_H.rc3 hI.T or75) hL so_n ?_
      rintro x17 h18 c19 s20 F21 A22 I23 L24 ⟨e25, k26, k27⟩
      replace k26 := k26.symm
      subst k26
      replace k27 := k27.symm
      subst k27
      show am_Ok _ _ _ (27, _, [.inl x17], _, c19, s20) _
      refine k_istore 29 rfl rfl ?_
      refine k_aload 30 rfl (gs_ne rfl rfl g0) rfl ?_
      refine x_gF 75 I23 33 rfl rfl (by decide) rfl ?_
      refine k_iload 35 rfl (gs_ne rfl rfl g4) rfl ?_
      refine k_push 36 rfl rfl ?_
      have hc28 : (2 : Int32).toInt = 2 := by decide
      obtain ⟨x29, q30⟩ : ∃ q : Int32, q = u4 + (2 : Int32) := ⟨_, rfl⟩
      have e31 : x29.toInt = (v4 + 2) := bx_add q30 hv4 hc28 (by omega) (by omega)
      refine k_bin x29 37 rfl q30.symm rfl ?_
      refine k_xq I23 rfl (y_get e31 I23.1 or75) rfl rfl rfl (ty_H.rc3 I23.T or75) (okL_set (i := 5) (v := .inl x17) rfl L24) so_n ?_
      rintro x32 h33 c34 s35 F36 A37 I38 L39 ⟨e40, k41, k42⟩
      replace k41 := k41.symm
      subst k41
      replace k42 := k42.symm
      subst k42
      show am_Ok _ _ _ (40, _, [.inl x32], _, c34, s35) _
      refine k_istore 42 rfl rfl ?_
      refine k_iload 44 rfl gs_eq rfl ?_
      by_cases b43 : x32 = 0
      · refine k_c1 47 rfl rfl (if_pos b43) ?_
        have b43 : gl (Av 75) ((v4 + 2)) = 0 := by have h9 := iv_eq0.mp b43; rw [e40] at h9; exact h9
        refine k_aload 48 rfl (gs_ne rfl rfl (gs_ne rfl rfl g0)) rfl ?_
        refine x_gO (τ := 1) I38 51 rfl oc74 rfl rfl rfl rfl (fun r44 (e45 : (r44 : Int) = Fv 7403) o46 => ?_)
        obtain rfl : r44 = 65 := by omega
        refine k_push 52 rfl rfl ?_
        have hc47 : (4 : Int32).toInt = 4 := by decide
        refine k_iload 54 rfl (gs_ne rfl rfl gs_eq) rfl ?_
        obtain ⟨x48, q49⟩ : ∃ q : Int32, q = (4 : Int32) * x17 := ⟨_, rfl⟩
        have e50 : x48.toInt = bm (4 * gl (Av 75) (v4)) := bm_mul q49 hc47 e25
        refine k_bin x48 55 rfl q49.symm rfl ?_
        refine k_iload 56 rfl (gs_ne rfl rfl (gs_ne rfl rfl g3)) rfl ?_
        refine k_xv I38 rfl (n_X1_link_65 e50 hv3   I38.1) rfl rfl rfl (I38.T.rc oc65 rfl) (okL_set (i := 6) (v := .inl x32) rfl L39) so_n ?_
        rintro h52 c53 s54 F55 A56 I57 L58 ⟨k60, k61⟩
        replace k60 : F55 = Fv := k60
        replace k60 := k60.symm
        subst k60
        replace k61 := k61.symm
        subst k61
        show am_Ok _ _ _ (59, _, [], _, c53, s54) _
        refine k_aload 60 rfl (gs_ne rfl rfl (gs_ne rfl rfl g0)) rfl ?_
        refine x_gF 75 I57 63 rfl rfl (by decide) rfl ?_
        refine k_iload 65 rfl (gs_ne rfl rfl (gs_ne rfl rfl g4)) rfl ?_
        refine k_push 66 rfl rfl ?_
        obtain ⟨x62, q63⟩ : ∃ q : Int32, q = u4 + (2 : Int32) := ⟨_, rfl⟩
        have e64 : x62.toInt = (v4 + 2) := bx_add q63 hv4 hc28 (by omega) (by omega)
        refine k_bin x62 67 rfl q63.symm rfl ?_
        refine k_iload 68 rfl (gs_ne rfl rfl (gs_ne rfl rfl g2)) rfl ?_
        refine k_xv I57 rfl (y_set e64 hv2 I57.1 or75) rfl rfl rfl (ty_H.rc3 I57.T or75) L58 so_n ?_
        rintro h66 c67 s68 F69 A70 I71 L72 ⟨k74, k75⟩
        replace k74 := k74.symm
        subst k74
        replace k75 := k75.symm
        subst k75
        show am_Ok _ _ _ (71, _, [], _, c67, s68) _
        refine k_aload 72 rfl (gs_ne rfl rfl (gs_ne rfl rfl g0)) rfl ?_
        refine k_dup 73 rfl rfl rfl ?_
        refine x_gI I71 76 rfl oc74 rfl rfl rfl rfl (fun x76 (e77 : x76.toInt = Fv 7404) => ?_)
        refine k_push 77 rfl rfl ?_
        have hc78 : (1 : Int32).toInt = 1 := by decide
        obtain ⟨x79, q80⟩ : ∃ q : Int32, q = x76 + (1 : Int32) := ⟨_, rfl⟩
        have e81 : x79.toInt = bm (Fv 7404 + 1) := bm_add q80 e77 hc78
        refine k_bin x79 78 rfl q80.symm rfl ?_
        refine x_pI (fx_ok := fx_no rfl) I71 81 rfl oc74 rfl rfl rfl rfl (fun h82 I83 l84 => ?_)
        have L85 := okL_eq l84 L72
        have I86 : xI h0 (ob_P h0) h82 c67 s68 (up1 Fv 7404 (bm (Fv 7404 + 1))) (upl ((p_X1_link_65 (bm (4 * gl (Av 75) (v4))) v3 Fv Av).2.2) 75 (ssl ((p_X1_link_65 (bm (4 * gl (Av 75) (v4))) v3 Fv Av).2.2 75) ((v4 + 2)) (v2))) := by have h9 := I83; rw [e81] at h9; exact h9
        exact k_fin rfl rfl ⟨_, _, _, _, _, rfl, I86, (by show LYv (((up1 Fv 7404 (bm (Fv 7404 + 1)))) 7403) 65 (((up1 Fv 7404 (bm (Fv 7404 + 1)))) 6505) (((up1 Fv 7404 (bm (Fv 7404 + 1)))) 6507) (((upl ((p_X1_link_65 (bm (4 * gl (Av 75) (v4))) v3 Fv Av).2.2) 75 (ssl ((p_X1_link_65 (bm (4 * gl (Av 75) (v4))) v3 Fv Av).2.2 75) ((v4 + 2)) (v2)))) 66) (((upl ((p_X1_link_65 (bm (4 * gl (Av 75) (v4))) v3 Fv Av).2.2) 75 (ssl ((p_X1_link_65 (bm (4 * gl (Av 75) (v4))) v3 Fv Av).2.2 75) ((v4 + 2)) (v2)))) 75) (((upl ((p_X1_link_65 (bm (4 * gl (Av 75) (v4))) v3 Fv Av).2.2) 75 (ssl ((p_X1_link_65 (bm (4 * gl (Av 75) (v4))) v3 Fv Av).2.2 75) ((v4 + 2)) (v2)))) 77) (((upl ((p_X1_link_65 (bm (4 * gl (Av 75) (v4))) v3 Fv Av).2.2) 75 (ssl ((p_X1_link_65 (bm (4 * gl (Av 75) (v4))) v3 Fv Av).2.2 75) ((v4 + 2)) (v2)))) 79) (fn3 n2 S.2.1 S.1 S.2.2.1 S.2.2.2) ∧ fL9 F0 ((up1 Fv 7404 (bm (Fv 7404 + 1)))) ∧ aL9 A0 ((upl ((p_X1_link_65 (bm (4 * gl (Av 75) (v4))) v3 Fv Av).2.2) 75 (ssl ((p_X1_link_65 (bm (4 * gl (Av 75) (v4))) v3 Fv Av).2.2 75) ((v4 + 2)) (v2)))); refine ⟨?_, i3.1.tr (fun n hn => up1_ne (by omega)), i3.2.tr (fun k hk => (upl_ne (by omega)).trans (lk_65 (by omega)))⟩; rw [← j3, fn3_st.1 (t2.symm.trans b43), ← i0]; have h9 := j1.arg (b := v2); rw [← j8] at h9; exact h9)⟩
      · refine k_c1 82 rfl rfl (if_neg b43) ?_
        have b43 : ¬ (gl (Av 75) ((v4 + 2)) = 0) := by have h9 := mt iv_eq0.mpr b43; rw [e40] at h9; exact h9
        refine k_iload 84 rfl gs_eq rfl ?_
        refine k_push 85 rfl rfl ?_
        have hc87 : (-1 : Int32).toInt = -1 := by decide
        by_cases b88 : x32 = (-1 : Int32)
        · refine k_c2 88 rfl rfl (if_pos b88) ?_
          have b88 : gl (Av 75) ((v4 + 2)) = (-1) := by have h9 := iv_eq.mp b88; rw [e40] at h9; rw [hc87] at h9; exact h9
          refine k_aload 89 rfl (gs_ne rfl rfl (gs_ne rfl rfl g0)) rfl ?_
          refine x_gO (τ := 1) I38 92 rfl oc74 rfl rfl rfl rfl (fun r89 (e90 : (r89 : Int) = Fv 7403) o91 => ?_)
          obtain rfl : r89 = 65 := by omega
          refine k_push 93 rfl rfl ?_
          have hc92 : (4 : Int32).toInt = 4 := by decide
          refine k_iload 95 rfl (gs_ne rfl rfl gs_eq) rfl ?_
          obtain ⟨x93, q94⟩ : ∃ q : Int32, q = (4 : Int32) * x17 := ⟨_, rfl⟩
          have e95 : x93.toInt = bm (4 * gl (Av 75) (v4)) := bm_mul q94 hc92 e25
          refine k_bin x93 96 rfl q94.symm rfl ?_
          refine k_push 97 rfl rfl ?_
          have hc96 : (1 : Int32).toInt = 1 := by decide
          obtain ⟨x97, q98⟩ : ∃ q : Int32, q = x93 + (1 : Int32) := ⟨_, rfl⟩
          have e99 : x97.toInt = bm (bm (4 * gl (Av 75) (v4)) + 1) := bm_add q98 e95 hc96
          refine k_bin x97 98 rfl q98.symm rfl ?_
          refine k_iload 99 rfl (gs_ne rfl rfl (gs_ne rfl rfl g3)) rfl ?_
          refine k_xv I38 rfl (n_X1_link_65 e99 hv3   I38.1) rfl rfl rfl (I38.T.rc oc65 rfl) (okL_set (i := 6) (v := .inl x32) rfl L39) so_n ?_
          rintro h101 c102 s103 F104 A105 I106 L107 ⟨k109, k110⟩
          replace k109 : F104 = Fv := k109
          replace k109 := k109.symm
          subst k109
          replace k110 := k110.symm
          subst k110
          show am_Ok _ _ _ (102, _, [], _, c102, s103) _
          refine k_aload 103 rfl (gs_ne rfl rfl (gs_ne rfl rfl g0)) rfl ?_
          refine k_iload 105 rfl (gs_ne rfl rfl gs_eq) rfl ?_
          refine k_xv I106 rfl (n_X0_finishFunction_65 e25  ((f9 :: fr8, S.2.1, LE9, m9)) (by exact j1) I106.1) rfl rfl rfl (I106.T.rc oc74 rfl) L107 so_n ?_
          rintro h112 c113 s114 F115 A116 I117 L118 e119
          show am_Ok _ _ _ (108, _, [], _, c113, s114) _
          refine k_push 109 rfl rfl ?_
          refine k_iload 111 rfl (gs_ne rfl rfl gs_eq) rfl ?_
          obtain ⟨x120, q121⟩ : ∃ q : Int32, q = (4 : Int32) * x17 := ⟨_, rfl⟩
          have e122 : x120.toInt = bm (4 * gl (Av 75) (v4)) := bm_mul q121 hc92 e25
          refine k_bin x120 112 rfl q121.symm rfl ?_
          refine k_istore 113 rfl rfl ?_
          refine k_goto 170 rfl rfl ?_
          refine k_aload 171 rfl (gs_ne rfl rfl (gs_ne rfl rfl (gs_ne rfl rfl g0))) rfl ?_
          refine x_gF 75 I117 174 rfl rfl (by decide) rfl ?_
          refine k_iload 176 rfl (gs_ne rfl rfl (gs_ne rfl rfl (gs_ne rfl rfl g4))) rfl ?_
          refine k_xv I117 rfl (y_cut hv4 I117.1 or75) rfl rfl rfl (ty_H.rc3 I117.T or75) (okL_set (i := 3) (v := .inl x120) rfl L118) so_n ?_
          rintro h124 c125 s126 F127 A128 I129 L130 ⟨k132, k133⟩
          replace k132 := k132.symm
          subst k132
          replace k133 := k133.symm
          subst k133
          show am_Ok _ _ _ (179, _, [], _, c125, s126) _
          have hc134 : (-3 : Int32).toInt = -3 := by decide
          obtain ⟨x135, q136⟩ : ∃ q : Int32, q = u4 + (-3 : Int32) := ⟨_, rfl⟩
          have e137 : x135.toInt = (v4 + -3) := bx_add q136 hv4 hc134 (by omega) (by omega)
          refine k_iinc x135 182 rfl (gs_ne rfl rfl (gs_ne rfl rfl (gs_ne rfl rfl g4))) q136.symm rfl ?_
          refine k_goto 13 rfl rfl ?_
          exact ih _ (by omega)  (Fv := F115) (Av := (upl A116 75 (cutl (A116 75) (v4)))) (v2 := v2) (v3 := bm (4 * gl (Av 75) (v4))) (v4 := (v4 + -3)) rfl (gs_ne rfl rfl (gs_ne rfl rfl (gs_ne rfl rfl (gs_ne rfl rfl g0)))) (gs_ne rfl rfl (gs_ne rfl rfl (gs_ne rfl rfl (gs_ne rfl rfl g2)))) (gs_ne rfl rfl gs_eq) gs_eq hv2 e122 e137 I129 (okL_set (i := 4) (v := .inl x135) rfl L130) (i0) (⟨(fr8, S.2.1, LE9.dropLast, m9 + if LE9.getLastD 0 = -1 then 1 else 0), e119.1.cut j9, rfl, (fn3_st.2.1 (t2.symm.trans b88)).symm.trans j3, j4.dl, by (show LE9.dropLast.length ≤ 120; rw [List.length_dropLast]; omega), by (show fr8.length ≤ 120; exact j10), by (show v4 + -3 = 3 * (fr8.length : Int) - 3; omega)⟩) (⟨i3.1.tr e119.2.1, i3.2.tr (fun k hk => (upl_ne (by omega)).trans ((e119.2.2 k hk).trans (lk_65 (by omega))))⟩)
        · refine k_c2 116 rfl rfl (if_neg b88) ?_
          have b88 : ¬ (gl (Av 75) ((v4 + 2)) = (-1)) := by have h9 := mt iv_eq.mpr b88; rw [e40] at h9; rw [hc87] at h9; exact h9
          refine k_aload 117 rfl (gs_ne rfl rfl (gs_ne rfl rfl g0)) rfl ?_
          refine x_gO (τ := 1) I38 120 rfl oc74 rfl rfl rfl rfl (fun r138 (e139 : (r138 : Int) = Fv 7403) o140 => ?_)
          obtain rfl : r138 = 65 := by omega
          refine k_push 121 rfl rfl ?_
          have hc141 : (4 : Int32).toInt = 4 := by decide
          refine k_iload 123 rfl (gs_ne rfl rfl gs_eq) rfl ?_
          obtain ⟨x142, q143⟩ : ∃ q : Int32, q = (4 : Int32) * x17 := ⟨_, rfl⟩
          have e144 : x142.toInt = bm (4 * gl (Av 75) (v4)) := bm_mul q143 hc141 e25
          refine k_bin x142 124 rfl q143.symm rfl ?_
          refine k_push 125 rfl rfl ?_
          obtain ⟨x145, q146⟩ : ∃ q : Int32, q = x142 + (2 : Int32) := ⟨_, rfl⟩
          have e147 : x145.toInt = bm (bm (4 * gl (Av 75) (v4)) + 2) := bm_add q146 e144 hc28
          refine k_bin x145 126 rfl q146.symm rfl ?_
          refine k_iload 127 rfl (gs_ne rfl rfl (gs_ne rfl rfl g3)) rfl ?_
          refine k_xv I38 rfl (n_X1_link_65 e147 hv3   I38.1) rfl rfl rfl (I38.T.rc oc65 rfl) (okL_set (i := 6) (v := .inl x32) rfl L39) so_n ?_
          rintro h149 c150 s151 F152 A153 I154 L155 ⟨k157, k158⟩
          replace k157 : F152 = Fv := k157
          replace k157 := k157.symm
          subst k157
          replace k158 := k158.symm
          subst k158
          show am_Ok _ _ _ (130, _, [], _, c150, s151) _
          refine k_aload 131 rfl (gs_ne rfl rfl (gs_ne rfl rfl g0)) rfl ?_
          refine k_dup 132 rfl rfl rfl ?_
          refine x_gI I154 135 rfl oc74 rfl rfl rfl rfl (fun x159 (e160 : x159.toInt = Fv 7404) => ?_)
          refine k_push 136 rfl rfl ?_
          have hc161 : (1 : Int32).toInt = 1 := by decide
          obtain ⟨x162, q163⟩ : ∃ q : Int32, q = x159 - (1 : Int32) := ⟨_, rfl⟩
          have e164 : x162.toInt = bm (Fv 7404 - 1) := bm_sub q163 e160 hc161
          refine k_bin x162 137 rfl q163.symm rfl ?_
          refine x_pI (fx_ok := fx_no rfl) I154 140 rfl oc74 rfl rfl rfl rfl (fun h165 I166 l167 => ?_)
          have L168 := okL_eq l167 L155
          have I169 : xI h0 (ob_P h0) h165 c150 s151 (up1 Fv 7404 (bm (Fv 7404 - 1))) (p_X1_link_65 (bm (bm (4 * gl (Av 75) (v4)) + 2)) v3 Fv Av).2.2 := by have h9 := I166; rw [e164] at h9; exact h9
          refine k_aload 141 rfl (gs_ne rfl rfl (gs_ne rfl rfl g0)) rfl ?_
          refine k_iload 143 rfl gs_eq rfl ?_
          refine k_xv I169 rfl (n_X0_bracketEnds_65 e40  ((f9 :: fr8, S.2.1, LE9, m9)) (by exact j1) (by exact j4) (by exact ⟨hB.2.1, j5⟩) I169.1) rfl rfl rfl (I169.T.rc oc74 rfl) L168 so_n ?_
          rintro h171 c172 s173 F174 A175 I176 L177 e178
          show am_Ok _ _ _ (146, _, [], _, c172, s173) _
          have qq1 := (FRM.top e178.1.2.2.1).1
          rw [← j8] at qq1
          refine k_aload 147 rfl (gs_ne rfl rfl (gs_ne rfl rfl g0)) rfl ?_
          refine k_aload 148 rfl (gs_ne rfl rfl (gs_ne rfl rfl g0)) rfl ?_
          refine x_gF 75 I176 151 rfl rfl (by decide) rfl ?_
          refine k_iload 153 rfl (gs_ne rfl rfl (gs_ne rfl rfl g4)) rfl ?_
          refine k_push 154 rfl rfl ?_
          obtain ⟨x179, q180⟩ : ∃ q : Int32, q = u4 + (1 : Int32) := ⟨_, rfl⟩
          have e181 : x179.toInt = (v4 + 1) := bx_add q180 hv4 hc161 (by omega) (by omega)
          refine k_bin x179 155 rfl q180.symm rfl ?_
          refine k_xq I176 rfl (y_get e181 I176.1 or75) rfl rfl rfl (ty_H.rc3 I176.T or75) L177 (xo_r I176 oc74 so_n) ?_
          rintro x182 h183 c184 s185 F186 A187 I188 L189 ⟨e190, k191, k192⟩
          replace k191 := k191.symm
          subst k191
          replace k192 := k192.symm
          subst k192
          show am_Ok _ _ _ (158, _, [.inl x182, .inr (.inr (some 74))], _, c184, s185) _
          refine k_iload 160 rfl gs_eq rfl ?_
          refine k_xv I188 rfl (n_X0_fanEnds_65 e190 e40  ((f9 :: fr8, S.2.1, LE9, m9 + bkn S.2.1 (gl (Av 75) ((v4 + 2))) LE9)) (by exact e178.1) (by exact j4) (by exact ⟨hB.2.1, j5⟩) I188.1) rfl rfl rfl (I188.T.rc oc74 rfl) L189 so_n ?_
          rintro h194 c195 s196 F197 A198 I199 L200 e201
          show am_Ok _ _ _ (163, _, [], _, c195, s196) _
          refine k_push 164 rfl rfl ?_
          refine k_iload 166 rfl (gs_ne rfl rfl gs_eq) rfl ?_
          obtain ⟨x202, q203⟩ : ∃ q : Int32, q = (4 : Int32) * x17 := ⟨_, rfl⟩
          have e204 : x202.toInt = bm (4 * gl (Av 75) (v4)) := bm_mul q203 hc141 e25
          refine k_bin x202 167 rfl q203.symm rfl ?_
          refine k_push 168 rfl rfl ?_
          obtain ⟨x205, q206⟩ : ∃ q : Int32, q = x202 + (1 : Int32) := ⟨_, rfl⟩
          have e207 : x205.toInt = bm (bm (4 * gl (Av 75) (v4)) + 1) := bm_add q206 e204 hc161
          refine k_bin x205 169 rfl q206.symm rfl ?_
          refine k_istore 170 rfl rfl ?_
          refine k_aload 171 rfl (gs_ne rfl rfl (gs_ne rfl rfl (gs_ne rfl rfl g0))) rfl ?_
          refine x_gF 75 I199 174 rfl rfl (by decide) rfl ?_
          refine k_iload 176 rfl (gs_ne rfl rfl (gs_ne rfl rfl (gs_ne rfl rfl g4))) rfl ?_
          refine k_xv I199 rfl (y_cut hv4 I199.1 or75) rfl rfl rfl (ty_H.rc3 I199.T or75) (okL_set (i := 3) (v := .inl x205) rfl L200) so_n ?_
          rintro h209 c210 s211 F212 A213 I214 L215 ⟨k217, k218⟩
          replace k217 := k217.symm
          subst k217
          replace k218 := k218.symm
          subst k218
          show am_Ok _ _ _ (179, _, [], _, c210, s211) _
          have hc219 : (-3 : Int32).toInt = -3 := by decide
          obtain ⟨x220, q221⟩ : ∃ q : Int32, q = u4 + (-3 : Int32) := ⟨_, rfl⟩
          have e222 : x220.toInt = (v4 + -3) := bx_add q221 hv4 hc219 (by omega) (by omega)
          refine k_iinc x220 182 rfl (gs_ne rfl rfl (gs_ne rfl rfl (gs_ne rfl rfl g4))) q221.symm rfl ?_
          refine k_goto 13 rfl rfl ?_
          exact ih _ (by omega)  (Fv := F197) (Av := (upl A198 75 (cutl (A198 75) (v4)))) (v2 := v2) (v3 := bm (bm (4 * gl (Av 75) (v4)) + 1)) (v4 := (v4 + -3)) rfl (gs_ne rfl rfl (gs_ne rfl rfl (gs_ne rfl rfl (gs_ne rfl rfl g0)))) (gs_ne rfl rfl (gs_ne rfl rfl (gs_ne rfl rfl (gs_ne rfl rfl g2)))) (gs_ne rfl rfl gs_eq) gs_eq hv2 e207 e222 I214 (okL_set (i := 4) (v := .inl x220) rfl L215) (i0) (⟨(fr8, S.2.1, LE9.map (fnv S.2.1 f9.1 f9.2), m9 + bkn S.2.1 f9.2 LE9 + fnn S.2.1 f9.1 f9.2 LE9), by (have h9 := e201.1.cut j9; rw [qq1, t2] at h9; exact h9), rfl, (fn3_st.2.2 (by rw [← t2]; exact b43) (by rw [← t2]; exact b88)).symm.trans j3, j4.mp, by (show (LE9.map _).length ≤ 120; rw [List.length_map]; exact j5), by (show fr8.length ≤ 120; exact j10), by (show v4 + -3 = 3 * (fr8.length : Int) - 3; omega)⟩) (⟨i3.1.tr (fun n hn => (e201.2.1 n hn).trans ((e178.2.1 n hn).trans (up1_ne (by omega)))), i3.2.tr (fun k hk => (upl_ne (by omega)).trans ((e201.2.2 k hk).trans ((e178.2.2 k hk).trans (lk_65 (by omega)))))⟩)
theorem n_X0_finish_65 {h0 : am_h} {F0 : rf_f} {A0 : xl_A} {w1 : Int32} {n1 : Int} (hn1 : w1.toInt = n1) {w2 : Int32} {n2 : Int} (hn2 : w2.toInt = n2)  (S : lST) (hS : LYv (F0 7403) 65 (F0 6505) (F0 6507) (A0 66) (A0 75) (A0 77) (A0 79) (S)) (hW : WF0 S.2.1 S.2.2.1) (hB : S.1.length ≤ 120 ∧ S.2.1.length ≤ 120 ∧ S.2.2.1.length ≤ 120) (hR : xR h0 F0 A0) : am_Mt 4 4 [.inr (.inr (some 74)), .inl w1, .inl w2] h0 (xV h0 (fun F' A' => LYv (F' 7403) 65 (F' 6505) (F' 6507) (A' 66) (A' 75) (A' 77) (A' 79) (fn3 n2 S.2.1 S.1 S.2.2.1 S.2.2.2) ∧ fL9 F0 F' ∧ aL9 A0 A')) := by
  refine am_Mt.of (D := 3) ?_
  have hI : xI h0 (ob_P h0) h0 0 0 F0 A0 := xI.start hR
  have hL : am_okL h0.length (am_args 0 [.inr (.inr (some 74)), .inl w1, .inl w2]) = true := (okA_r hI.T oc74 (okA_i (okA_i okA_n)))
  refine k_iload 1 rfl rfl rfl ?_
  refine k_istore 2 rfl rfl ?_
  refine k_aload 3 rfl (gs_ne rfl rfl rfl) rfl ?_
  refine x_gF 75 hI 6 rfl rfl (by decide) rfl ?_
  have ll75 := hS.2.2.1.len
  refine k_xq hI rfl (xv_size hI.1 or75) rfl rfl rfl (ty_H.rc3 hI.T or75) (okL_set (i := 3) (v := .inl w1) rfl hL) so_n ?_
  rintro x223 h224 c225 s226 F227 A228 I229 L230 ⟨e231, k232, k233⟩
  replace k232 := k232.symm
  subst k232
  replace k233 := k233.symm
  subst k233
  show am_Ok _ _ _ (9, _, [.inl x223], _, c225, s226) _
  refine k_push 10 rfl rfl ?_
  have hc234 : (3 : Int32).toInt = 3 := by decide
  obtain ⟨x235, q236⟩ : ∃ q : Int32, q = x223 - (3 : Int32) := ⟨_, rfl⟩
  have e237 : x235.toInt = ((((A0 75).length : Nat) : Int) - 3) := bx_sub q236 e231 hc234 (by omega) (by omega)
  refine k_bin x235 11 rfl q236.symm rfl ?_
  refine k_istore 13 rfl rfl ?_
  exact yl_X0_finish_65_13 hn1 hn2  S hS hW hB _  (Fv := F0) (Av := A0) (v2 := n2) (v3 := n1) (v4 := ((((A0 75).length : Nat) : Int) - 3)) rfl (gs_ne rfl rfl (gs_ne rfl rfl rfl)) (gs_ne rfl rfl (gs_ne rfl rfl rfl)) (gs_ne rfl rfl gs_eq) gs_eq hn2 hn1 e237 I229 (okL_set (i := 4) (v := .inl x235) rfl L230) (rfl) (⟨S, hS, rfl, rfl, hW, hB.2.2, hB.1, by omega⟩) (⟨fun n hn => rfl, fun k hk => rfl⟩)
end
