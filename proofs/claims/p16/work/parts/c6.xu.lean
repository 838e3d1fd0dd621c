def pe (N : List Int) (x : Int) : Int := if -1 < x then 1 else if -11 < x then 3 + 2 * (-1 - x) else gl N (5 * (-11 - x) + 4)
def pk (N : List Int) : List Int → Int → Int
  | [], p => p
  | x :: l, p => if p ≤ 120 then pk N l (p + pe N x) else p
def sg (C : List Int) (a b : Int) : List Int := (C.drop a.toNat).take (b - a).toNat
section PKS
variable {N C l : List Int} {a b p x : Int}
theorem sg_nil (h : b ≤ a) : sg C a b = [] := by
  unfold sg
  rw [show (b - a).toNat = 0 by omega]
  rfl
theorem sg_cons (h0 : 0 ≤ a) (h1 : a < b) (h2 : b ≤ (C.length : Int)) : sg C a b = gl C a :: sg C (a + 1) b := by
  unfold sg
  rw [drop_gl h0 (by omega), show (b - a).toNat = (b - (a + 1)).toNat + 1 by omega, List.take_succ_cons]
theorem pk_big (h : 120 < p) : pk N l p = p := by
  cases l with
  | nil => rfl
  | cons x l => exact if_neg (by omega)
theorem pk_step (h0 : 0 ≤ a) (h1 : a < b) (h2 : b ≤ (C.length : Int)) (h : p ≤ 120) : pk N (sg C a b) p = pk N (sg C (a + 1) b) (p + pe N (gl C a)) := by
  rw [sg_cons h0 h1 h2]
  exact if_pos h
theorem pe_1 (h : -1 < x) : pe N x = 1 := if_pos h
theorem pe_2 (h : ¬ -1 < x) (h2 : -11 < x) : pe N x = 3 + 2 * (-1 - x) := (if_neg h).trans (if_pos h2)
theorem pe_3 (h : ¬ -1 < x) (h2 : ¬ -11 < x) : pe N x = gl N (5 * (-11 - x) + 4) := (if_neg h).trans (if_neg h2)
end PKS
section
def p_X6_partsOf (n1 n2 : Int) (F0 : rf_f) (A0 : xl_A) : Int × rf_f × xl_A := (pk (A0 7) (sg (A0 5) n1 n2) 0, F0, A0)
theorem yl_X6_partsOf_5 {h0 : am_h} {F0 : rf_f} {A0 : xl_A} {w1 : Int32} {n1 : Int} (hn1 : w1.toInt = n1) {w2 : Int32} {n2 : Int} (hn2 : w2.toInt = n2)  (hp1 : 0 ≤ n1 ∧ n1 ≤ n2 ∧ n2 ≤ ((A0 5).length : Int)) (hp2 : ((A0 5).length : Int) ≤ 1402) (hp3 : ∀ i : Int, n1 ≤ i → i < n2 → -50 ≤ gl (A0 5) i ∧ 0 ≤ pe (A0 7) (gl (A0 5) i) ∧ pe (A0 7) (gl (A0 5) i) ≤ 5000) : ∀ (n : Nat) {lv : am_l} {h : am_h} {c s : Nat} {u1 : Int32} {v1 : Int} {u2 : Int32} {v2 : Int} {u3 : Int32} {v3 : Int} {u4 : Int32} {v4 : Int}, ((1403 - v4).toNat) = n → am_get lv 0 = some (.inr (.inr (some 4))) → am_get lv 1 = some (.inl u1) → am_get lv 2 = some (.inl u2) → am_get lv 3 = some (.inl u3) → am_get lv 4 = some (.inl u4) → u1.toInt = v1 → u2.toInt = v2 → u3.toInt = v3 → u4.toInt = v4 → xI h0 (ob_P h0) h c s F0 A0 → am_okL h.length lv = true → (v1 = n1 ∧ v2 = n2) → (n1 ≤ v4 ∧ v4 ≤ n2) → (0 ≤ v3 ∧ v3 ≤ 5120) → (pk (A0 7) (sg (A0 5) v4 n2) v3 = pk (A0 7) (sg (A0 5) n1 n2) 0) → am_Ok am_G 1 87 (5, lv, [], h, c, s) (xQ h0 (fun x F' A' => x = (p_X6_partsOf n1 n2 F0 A0).1 ∧ F' = (p_X6_partsOf n1 n2 F0 A0).2.1 ∧ A' = (p_X6_partsOf n1 n2 F0 A0).2.2)) := by
  intro n
  induction n using Nat.strongRecOn with
  | ind n ih =>
    intro lv h c s u1 v1 u2 v2 u3 v3 u4 v4   hm g0 g1 g2 g3 g4 hv1 hv2 hv3 hv4 hI hL i0 i1 i2 i3
    refine k_iload 7 rfl g4 rfl ?_
    refine k_iload 8 rfl g2 rfl ?_
    by_cases b1 : u2 ≤ u4
    · refine k_c2 86 rfl rfl (if_pos b1) ?_
      have b1 : v2 ≤ v4 := by have h9 := iv_le.mp b1; rw [hv4] at h9; rw [hv2] at h9; exact h9
      refine k_iload 87 rfl g3 rfl ?_
      exact k_fin rfl rfl ⟨_, _, _, _, _, _, rfl, hI, hv3.trans (by show _ = pk _ _ _; rw [← i3, sg_nil (by omega)]; rfl), rfl, rfl⟩
    · refine k_c2 11 rfl rfl (if_neg b1) ?_
      have b1 : ¬ (v2 ≤ v4) := by have h9 := mt iv_le.mpr b1; rw [hv4] at h9; rw [hv2] at h9; exact h9
      refine k_iload 12 rfl g3 rfl ?_
      refine k_push 14 rfl rfl ?_
      have hc2 : (120 : Int32).toInt = 120 := by decide
      by_cases b3 : (120 : Int32) < u3
      · refine k_c2 86 rfl rfl (if_pos b3) ?_
        have b3 : 120 < v3 := by have h9 := iv_lt.mp b3; rw [hv3] at h9; rw [hc2] at h9; exact h9
        refine k_iload 87 rfl g3 rfl ?_
        exact k_fin rfl rfl ⟨_, _, _, _, _, _, rfl, hI, hv3.trans (by show _ = pk _ _ _; rw [← i3]; exact (pk_big (by omega)).symm), rfl, rfl⟩
      · refine k_c2 17 rfl rfl (if_neg b3) ?_
        have b3 : ¬ (120 < v3) := by have h9 := mt iv_lt.mpr b3; rw [hv3] at h9; rw [hc2] at h9; exact h9
        refine k_aload 18 rfl g0 rfl ?_
        refine x_gF 5 hI 21 rfl rfl (by decide) rfl ?_
        refine k_iload 23 rfl g4 rfl ?_
        refine k_xq hI rfl (y_get hv4 hI.1 or5) rfl rfl rfl (ty_H.rc3 hI.T or5) hL so_n ?_
        rintro x4 h5 c6 s7 F8 A9 I10 L11 ⟨e12, k13, k14⟩
        replace k13 := k13.symm
        subst k13
        replace k14 := k14.symm
        subst k14
        show am_Ok _ _ _ (26, _, [.inl x4], _, c6, s7) _
        have q7 := hp3 v4 (by omega) (by omega)
        refine k_istore 28 rfl rfl ?_
        refine k_iload 30 rfl gs_eq rfl ?_
        refine k_push 31 rfl rfl ?_
        have hc15 : (-1 : Int32).toInt = -1 := by decide
        by_cases b16 : x4 ≤ (-1 : Int32)
        · refine k_c2 40 rfl rfl (if_pos b16) ?_
          have b16 : gl (A0 5) (v4) ≤ (-1) := by have h9 := iv_le.mp b16; rw [e12] at h9; rw [hc15] at h9; exact h9
          refine k_iload 42 rfl gs_eq rfl ?_
          refine k_push 44 rfl rfl ?_
          have hc17 : (-11 : Int32).toInt = -11 := by decide
          by_cases b18 : x4 ≤ (-11 : Int32)
          · refine k_c2 61 rfl rfl (if_pos b18) ?_
            have b18 : gl (A0 5) (v4) ≤ (-11) := by have h9 := iv_le.mp b18; rw [e12] at h9; rw [hc17] at h9; exact h9
            have q8 := hp3 v4 (by omega) (by omega)
            rw [pe_3 (by omega) (by omega)] at q8
            refine k_iload 62 rfl (gs_ne rfl rfl g3) rfl ?_
            refine k_aload 63 rfl (gs_ne rfl rfl g0) rfl ?_
            refine x_gF 7 I10 66 rfl rfl (by decide) rfl ?_
            refine k_push 67 rfl rfl ?_
            have hc19 : (5 : Int32).toInt = 5 := by decide
            refine k_push 69 rfl rfl ?_
            refine k_iload 71 rfl gs_eq rfl ?_
            obtain ⟨x20, q21⟩ : ∃ q : Int32, q = (-11 : Int32) - x4 := ⟨_, rfl⟩
            have e22 : x20.toInt = ((-11) - gl (A0 5) (v4)) := bx_sub q21 hc17 e12 (by omega) (by omega)
            refine k_bin x20 72 rfl q21.symm rfl ?_
            obtain ⟨x23, q24⟩ : ∃ q : Int32, q = (5 : Int32) * x20 := ⟨_, rfl⟩
            have e25 : x23.toInt = (5 * ((-11) - gl (A0 5) (v4))) := bx_mul q24 hc19 e22 (by omega) (by omega)
            refine k_bin x23 73 rfl q24.symm rfl ?_
            refine k_push 74 rfl rfl ?_
            have hc26 : (4 : Int32).toInt = 4 := by decide
            obtain ⟨x27, q28⟩ : ∃ q : Int32, q = x23 + (4 : Int32) := ⟨_, rfl⟩
            have e29 : x27.toInt = ((5 * ((-11) - gl (A0 5) (v4))) + 4) := bx_add q28 e25 hc26 (by omega) (by omega)
            refine k_bin x27 75 rfl q28.symm rfl ?_
            refine k_xq I10 rfl (y_get e29 I10.1 or7) rfl rfl rfl (ty_H.rc3 I10.T or7) (okL_set rfl L11) (so_i so_n) ?_
            rintro x30 h31 c32 s33 F34 A35 I36 L37 ⟨e38, k39, k40⟩
            replace k39 := k39.symm
            subst k39
            replace k40 := k40.symm
            subst k40
            show am_Ok _ _ _ (78, _, [.inl x30, .inl u3], _, c32, s33) _
            obtain ⟨x41, q42⟩ : ∃ q : Int32, q = u3 + x30 := ⟨_, rfl⟩
            have e43 : x41.toInt = (v3 + gl (A0 7) (((5 * ((-11) - gl (A0 5) (v4))) + 4))) := bx_add q42 hv3 e38 (by omega) (by omega)
            refine k_bin x41 79 rfl q42.symm rfl ?_
            refine k_istore 80 rfl rfl ?_
            have hc44 : (1 : Int32).toInt = 1 := by decide
            obtain ⟨x45, q46⟩ : ∃ q : Int32, q = u4 + (1 : Int32) := ⟨_, rfl⟩
            have e47 : x45.toInt = (v4 + 1) := bx_add q46 hv4 hc44 (by omega) (by omega)
            refine k_iinc x45 83 rfl (gs_ne rfl rfl (gs_ne rfl rfl g4)) q46.symm rfl ?_
            refine k_goto 5 rfl rfl ?_
            exact ih _ (by omega)  (v1 := v1) (v2 := v2) (v3 := (v3 + gl (A0 7) (((5 * ((-11) - gl (A0 5) (v4))) + 4)))) (v4 := (v4 + 1)) rfl (gs_ne rfl rfl (gs_ne rfl rfl (gs_ne rfl rfl g0))) (gs_ne rfl rfl (gs_ne rfl rfl (gs_ne rfl rfl g1))) (gs_ne rfl rfl (gs_ne rfl rfl (gs_ne rfl rfl g2))) (gs_ne rfl rfl gs_eq) gs_eq hv1 hv2 e43 e47 I36 (okL_set rfl (okL_set rfl L37)) (by omega) (by omega) (by have h9 := hp3 v4 (by omega) (by omega); (first | rw [pe_1 (by omega)] at h9 | rw [pe_2 (by omega) (by omega)] at h9 | rw [pe_3 (by omega) (by omega)] at h9); omega) (by rw [← i3, pk_step (a := v4) (by omega) (by omega) (by omega) (by omega)]; (first | rw [pe_1 (by omega)] | rw [pe_2 (by omega) (by omega)] | rw [pe_3 (by omega) (by omega)]) <;> (first | rfl | (congr 1; omega)))
          · refine k_c2 47 rfl rfl (if_neg b18) ?_
            have b18 : ¬ (gl (A0 5) (v4) ≤ (-11)) := by have h9 := mt iv_le.mpr b18; rw [e12] at h9; rw [hc17] at h9; exact h9
            refine k_iload 48 rfl (gs_ne rfl rfl g3) rfl ?_
            refine k_push 49 rfl rfl ?_
            have hc48 : (3 : Int32).toInt = 3 := by decide
            refine k_push 50 rfl rfl ?_
            have hc49 : (2 : Int32).toInt = 2 := by decide
            refine k_push 51 rfl rfl ?_
            refine k_iload 53 rfl gs_eq rfl ?_
            obtain ⟨x50, q51⟩ : ∃ q : Int32, q = (-1 : Int32) - x4 := ⟨_, rfl⟩
            have e52 : x50.toInt = ((-1) - gl (A0 5) (v4)) := bx_sub q51 hc15 e12 (by omega) (by omega)
            refine k_bin x50 54 rfl q51.symm rfl ?_
            obtain ⟨x53, q54⟩ : ∃ q : Int32, q = (2 : Int32) * x50 := ⟨_, rfl⟩
            have e55 : x53.toInt = (2 * ((-1) - gl (A0 5) (v4))) := bx_mul q54 hc49 e52 (by omega) (by omega)
            refine k_bin x53 55 rfl q54.symm rfl ?_
            obtain ⟨x56, q57⟩ : ∃ q : Int32, q = (3 : Int32) + x53 := ⟨_, rfl⟩
            have e58 : x56.toInt = (3 + (2 * ((-1) - gl (A0 5) (v4)))) := bx_add q57 hc48 e55 (by omega) (by omega)
            refine k_bin x56 56 rfl q57.symm rfl ?_
            obtain ⟨x59, q60⟩ : ∃ q : Int32, q = u3 + x56 := ⟨_, rfl⟩
            have e61 : x59.toInt = (v3 + (3 + (2 * ((-1) - gl (A0 5) (v4))))) := bx_add q60 hv3 e58 (by omega) (by omega)
            refine k_bin x59 57 rfl q60.symm rfl ?_
            refine k_istore 58 rfl rfl ?_
            refine k_goto 80 rfl rfl ?_
            have hc62 : (1 : Int32).toInt = 1 := by decide
            obtain ⟨x63, q64⟩ : ∃ q : Int32, q = u4 + (1 : Int32) := ⟨_, rfl⟩
            have e65 : x63.toInt = (v4 + 1) := bx_add q64 hv4 hc62 (by omega) (by omega)
            refine k_iinc x63 83 rfl (gs_ne rfl rfl (gs_ne rfl rfl g4)) q64.symm rfl ?_
            refine k_goto 5 rfl rfl ?_
            exact ih _ (by omega)  (v1 := v1) (v2 := v2) (v3 := (v3 + (3 + (2 * ((-1) - gl (A0 5) (v4)))))) (v4 := (v4 + 1)) rfl (gs_ne rfl rfl (gs_ne rfl rfl (gs_ne rfl rfl g0))) (gs_ne rfl rfl (gs_ne rfl rfl (gs_ne rfl rfl g1))) (gs_ne rfl rfl (gs_ne rfl rfl (gs_ne rfl rfl g2))) (gs_ne rfl rfl gs_eq) gs_eq hv1 hv2 e61 e65 I10 (okL_set rfl (okL_set rfl (okL_set rfl L11))) (by omega) (by omega) (by have h9 := hp3 v4 (by omega) (by omega); (first | rw [pe_1 (by omega)] at h9 | rw [pe_2 (by omega) (by omega)] at h9 | rw [pe_3 (by omega) (by omega)] at h9); omega) (by rw [← i3, pk_step (a := v4) (by omega) (by omega) (by omega) (by omega)]; (first | rw [pe_1 (by omega)] | rw [pe_2 (by omega) (by omega)] | rw [pe_3 (by omega) (by omega)]) <;> (first | rfl | (congr 1; omega)))
        · refine k_c2 34 rfl rfl (if_neg b16) ?_
          have b16 : ¬ (gl (A0 5) (v4) ≤ (-1)) := by have h9 := mt iv_le.mpr b16; rw [e12] at h9; rw [hc15] at h9; exact h9
          have hc66 : (1 : Int32).toInt = 1 := by decide
          obtain ⟨x67, q68⟩ : ∃ q : Int32, q = u3 + (1 : Int32) := ⟨_, rfl⟩
          have e69 : x67.toInt = (v3 + 1) := bx_add q68 hv3 hc66 (by omega) (by omega)
          refine k_iinc x67 37 rfl (gs_ne rfl rfl g3) q68.symm rfl ?_
          refine k_goto 80 rfl rfl ?_
          obtain ⟨x70, q71⟩ : ∃ q : Int32, q = u4 + (1 : Int32) := ⟨_, rfl⟩
          have e72 : x70.toInt = (v4 + 1) := bx_add q71 hv4 hc66 (by omega) (by omega)
          refine k_iinc x70 83 rfl (gs_ne rfl rfl (gs_ne rfl rfl g4)) q71.symm rfl ?_
          refine k_goto 5 rfl rfl ?_
          exact ih _ (by omega)  (v1 := v1) (v2 := v2) (v3 := (v3 + 1)) (v4 := (v4 + 1)) rfl (gs_ne rfl rfl (gs_ne rfl rfl (gs_ne rfl rfl g0))) (gs_ne rfl rfl (gs_ne rfl rfl (gs_ne rfl rfl g1))) (gs_ne rfl rfl (gs_ne rfl rfl (gs_ne rfl rfl g2))) (gs_ne rfl rfl gs_eq) gs_eq hv1 hv2 e69 e72 I10 (okL_set rfl (okL_set rfl (okL_set rfl L11))) (by omega) (by omega) (by have h9 := hp3 v4 (by omega) (by omega); (first | rw [pe_1 (by omega)] at h9 | rw [pe_2 (by omega) (by omega)] at h9 | rw [pe_3 (by omega) (by omega)] at h9); omega) (by rw [← i3, pk_step (a := v4) (by omega) (by omega) (by omega) (by omega)]; (first | rw [pe_1 (by omega)] | rw [pe_2 (by omega) (by omega)] | rw [pe_3 (by omega) (by omega)]) <;> (first | rfl | (congr 1; omega)))
theorem n_X6_partsOf {h0 : am_h} {F0 : rf_f} {A0 : xl_A} {w1 : Int32} {n1 : Int} (hn1 : w1.toInt = n1) {w2 : Int32} {n2 : Int} (hn2 : w2.toInt = n2)  (hp1 : 0 ≤ n1 ∧ n1 ≤ n2 ∧ n2 ≤ ((A0 5).length : Int)) (hp2 : ((A0 5).length : Int) ≤ 1402) (hp3 : ∀ i : Int, n1 ≤ i → i < n2 → -50 ≤ gl (A0 5) i ∧ 0 ≤ pe (A0 7) (gl (A0 5) i) ∧ pe (A0 7) (gl (A0 5) i) ≤ 5000) (hR : xR h0 F0 A0) : am_Mt 2 87 [.inr (.inr (some 4)), .inl w1, .inl w2] h0 (xQ h0 (fun x F' A' => x = (p_X6_partsOf n1 n2 F0 A0).1 ∧ F' = (p_X6_partsOf n1 n2 F0 A0).2.1 ∧ A' = (p_X6_partsOf n1 n2 F0 A0).2.2)) := by
  refine am_Mt.of (D := 1) ?_
  have hI : xI h0 (ob_P h0) h0 0 0 F0 A0 := xI.start hR
  have hL : am_okL h0.length (am_args 0 [.inr (.inr (some 4)), .inl w1, .inl w2]) = true := (okA_r hI.T oc4 (okA_i (okA_i okA_n)))
  refine k_push 1 rfl rfl ?_
  have hc73 : (0 : Int32).toInt = 0 := by decide
  refine k_istore 2 rfl rfl ?_
  refine k_iload 3 rfl (gs_ne rfl rfl rfl) rfl ?_
  refine k_istore 5 rfl rfl ?_
  exact yl_X6_partsOf_5 hn1 hn2  hp1 hp2 hp3 _  (v1 := n1) (v2 := n2) (v3 := 0) (v4 := n1) rfl (gs_ne rfl rfl (gs_ne rfl rfl rfl)) (gs_ne rfl rfl (gs_ne rfl rfl rfl)) (gs_ne rfl rfl (gs_ne rfl rfl rfl)) (gs_ne rfl rfl gs_eq) gs_eq hn1 hn2 hc73 hn1 hI (okL_set rfl (okL_set rfl hL)) (by omega) (by omega) (by omega) (rfl)
end
section ADT
variable {T : List Int} {e k : Int}
theorem ad_0 (h : tO T e = 0) : tE T e = tS T e := if_pos h
theorem ad_1 (h0 : tO T e ≠ 0) (h1 : tO T e ≠ 97) (h2 : tO T e ≠ 48) : tE T e = tS T e + 1 := (if_neg h0).trans ((if_neg h1).trans (if_neg h2))
theorem ad_97 (h : tO T e = 97) : tE T e = tw lett T (tS T e) := (if_neg (by omega)).trans (if_pos h)
theorem ad_48 (h : tO T e = 48) : tE T e = tw figu T (tS T e) := (if_neg (by omega)).trans ((if_neg (by omega)).trans (if_pos h))
/-- what is left of a word or number behind k -/
def ak (T : List Int) (e k : Int) : Prop := (tO T e = 97 ∧ tE T e = tw lett T k) ∨ (tO T e = 48 ∧ tE T e = tw figu T k)
theorem ak_0 (h0 : 0 ≤ e) (h1 : e ≤ (T.length : Int)) (h : tO T e = 97 ∨ tO T e = 48) : ak T e (tS T e + 1) ∧ tS T e + 1 ≤ (T.length : Int) := by
  have hb := tS_b (T := T) h0 h1
  rcases h with h | h
  · have h3 := so_lt.mp h
    exact ⟨Or.inl ⟨h, by rw [ad_97 h]; exact tw_step (by omega) h3.1 h3.2⟩, by omega⟩
  · have h3 := so_fg.mp h
    exact ⟨Or.inr ⟨h, by rw [ad_48 h]; exact tw_step (by omega) h3.1 h3.2⟩, by omega⟩
theorem ak_s (h : ak T e k) (h0 : 0 ≤ k) (h1 : so T k = tO T e) : ak T e (k + 1) := by
  rcases h with ⟨h2, h3⟩ | ⟨h2, h3⟩
  · have h4 := so_lt.mp (h1.trans h2)
    exact Or.inl ⟨h2, by rw [h3]; exact tw_step h0 h4.1 h4.2⟩
  · have h4 := so_fg.mp (h1.trans h2)
    exact Or.inr ⟨h2, by rw [h3]; exact tw_step h0 h4.1 h4.2⟩
theorem ak_e (h : ak T e k) (h0 : 0 ≤ k) (h1 : (T.length : Int) ≤ k ∨ so T k ≠ tO T e) : tE T e = k := by
  by_cases z : (T.length : Int) ≤ k
  · rcases h with ⟨h2, h3⟩ | ⟨h2, h3⟩
    · rw [h3, tw_end z]
    · rw [h3, tw_end z]
  · rcases h with ⟨h2, h3⟩ | ⟨h2, h3⟩
    · rw [h3]
      refine tw_stop h0 ?_
      cases y : lett (gl T k) with
      | false => rfl
      | true => exact absurd ((so_lt.mpr ⟨by omega, y⟩).trans h2.symm) (h1.resolve_left z)
    · rw [h3]
      refine tw_stop h0 ?_
      cases y : figu (gl T k) with
      | false => rfl
      | true => exact absurd ((so_fg.mpr ⟨by omega, y⟩).trans h2.symm) (h1.resolve_left z)
end ADT
section
def p_X7_advance (F0 : rf_f) (A0 : xl_A) : Int × rf_f × xl_A := (0, up1 (up1 (up1 F0 1502 (tS (A0 2) (F0 1503))) 1501 (tO (A0 2) (F0 1503))) 1503 (tE (A0 2) (F0 1503)), A0)
theorem yl_X7_advance_66 {h0 : am_h} {F0 : rf_f} {A0 : xl_A}   (hp1 : 0 ≤ F0 1503 ∧ F0 1503 ≤ ((A0 2).length : Int)) (hp2 : ((A0 2).length : Int) ≤ 700) : ∀ (n : Nat) {lv : am_l} {h : am_h} {c s : Nat} {k : Int}, ((701 - k).toNat) = n → am_get lv 0 = some (.inr (.inr (some 15))) → xI h0 (ob_P h0) h c s ((up1 (up1 (up1 F0 1502 (tS (A0 2) (F0 1503))) 1501 (so (A0 2) (tS (A0 2) (F0 1503)))) 1503 k)) A0 → am_okL h.length lv = true → (0 ≤ k ∧ k ≤ ((A0 2).length : Int)) → (ak (A0 2) (F0 1503) k) → am_Ok am_G 2 110 (66, lv, [], h, c, s) (xV h0 (fun F' A' => F' = (p_X7_advance F0 A0).2.1 ∧ A' = (p_X7_advance F0 A0).2.2)) := by
  intro n
  induction n using Nat.strongRecOn with
  | ind n ih =>
    intro lv h c s  k  hm g0 hI hL i1 i2
    refine k_aload 67 rfl g0 rfl ?_
    refine x_gI hI 70 rfl oc15 rfl rfl rfl rfl (fun x1 (e2 : x1.toInt = k) => ?_)
    refine k_aload 71 rfl g0 rfl ?_
    refine x_gF 2 hI 74 rfl rfl (by decide) rfl ?_
    refine k_xq hI rfl (xv_size hI.1 or2) rfl rfl rfl (ty_H.rc3 hI.T or2) hL (so_i so_n) ?_
    rintro x3 h4 c5 s6 F7 A8 I9 L10 ⟨e11, k12, k13⟩
    replace k12 := k12.symm
    subst k12
    replace k13 := k13.symm
    subst k13
    show am_Ok _ _ _ (77, _, [.inl x3, .inl x1], _, c5, s6) _
    by_cases b14 : x3 ≤ x1
    · refine k_c2 108 rfl rfl (if_pos b14) ?_
      have b14 : (((A0 2).length : Nat) : Int) ≤ k := by have h9 := iv_le.mp b14; rw [e2] at h9; rw [e11] at h9; exact h9
      exact k_fin rfl rfl ⟨_, _, _, _, _, rfl, I9, (by show _ = up1 _ 1503 (tE (A0 2) (F0 1503)); rw [ak_e i2 (by omega) (by unfold tO; omega)]; rfl), rfl⟩
    · refine k_c2 80 rfl rfl (if_neg b14) ?_
      have b14 : ¬ ((((A0 2).length : Nat) : Int) ≤ k) := by have h9 := mt iv_le.mpr b14; rw [e2] at h9; rw [e11] at h9; exact h9
      refine k_aload 81 rfl g0 rfl ?_
      refine k_aload 82 rfl g0 rfl ?_
      refine x_gI I9 85 rfl oc15 rfl rfl rfl rfl (fun x15 (e16 : x15.toInt = k) => ?_)
      refine k_xq I9 rfl (n_X7_sortOf e16   I9.1) rfl rfl rfl (I9.T.rc oc15 rfl) L10 so_n ?_
      rintro x17 h18 c19 s20 F21 A22 I23 L24 ⟨e25, k26, k27⟩
      replace k26 := k26.trans f_X7_sortOf.1
      replace k27 := k27.trans f_X7_sortOf.2
      replace e25 : x17.toInt = so (A0 2) (k) := e25.trans v_X7_sortOf
      replace k26 := k26.symm
      subst k26
      replace k27 := k27.symm
      subst k27
      show am_Ok _ _ _ (88, _, [.inl x17], _, c19, s20) _
      refine k_aload 89 rfl g0 rfl ?_
      refine x_gI I23 92 rfl oc15 rfl rfl rfl rfl (fun x28 (e29 : x28.toInt = so (A0 2) (tS (A0 2) (F0 1503))) => ?_)
      by_cases b30 : x17 = x28
      · refine k_c2 95 rfl rfl (if_pos b30) ?_
        have b30 : so (A0 2) (k) = so (A0 2) (tS (A0 2) (F0 1503)) := by have h9 := iv_eq.mp b30; rw [e25] at h9; rw [e29] at h9; exact h9
        refine k_aload 96 rfl g0 rfl ?_
        refine k_dup 97 rfl rfl rfl ?_
        refine x_gI I23 100 rfl oc15 rfl rfl rfl rfl (fun x31 (e32 : x31.toInt = k) => ?_)
        refine k_push 101 rfl rfl ?_
        have hc33 : (1 : Int32).toInt = 1 := by decide
        obtain ⟨x34, q35⟩ : ∃ q : Int32, q = x31 + (1 : Int32) := ⟨_, rfl⟩
        have e36 : x34.toInt = (k + 1) := bx_add q35 e32 hc33 (by omega) (by omega)
        refine k_bin x34 102 rfl q35.symm rfl ?_
        refine x_pI (fx_ok := fx_no rfl) I23 105 rfl oc15 rfl rfl rfl rfl (fun h37 I38 l39 => ?_)
        have L40 := okL_eq l39 L24
        have I41 : xI h0 (ob_P h0) h37 c19 s20 (up1 ((up1 (up1 (up1 F0 1502 (tS (A0 2) (F0 1503))) 1501 (so (A0 2) (tS (A0 2) (F0 1503)))) 1503 k)) 1503 ((k + 1))) A0 := by have h9 := I38; rw [e36] at h9; exact h9
        refine k_goto 66 rfl rfl ?_
        exact ih _ (by omega) (k := ((k + 1)))  rfl g0  (by have h9 := I41; rw [up1_up1] at h9; exact h9) L40 (by omega) (ak_s i2 (by omega) (by unfold tO; omega))
      · refine k_c2 108 rfl rfl (if_neg b30) ?_
        have b30 : ¬ (so (A0 2) (k) = so (A0 2) (tS (A0 2) (F0 1503))) := by have h9 := mt iv_eq.mpr b30; rw [e25] at h9; rw [e29] at h9; exact h9
        exact k_fin rfl rfl ⟨_, _, _, _, _, rfl, I23, (by show _ = up1 _ 1503 (tE (A0 2) (F0 1503)); rw [ak_e i2 (by omega) (by unfold tO; omega)]; rfl), rfl⟩
theorem n_X7_advance {h0 : am_h} {F0 : rf_f} {A0 : xl_A}   (hp1 : 0 ≤ F0 1503 ∧ F0 1503 ≤ ((A0 2).length : Int)) (hp2 : ((A0 2).length : Int) ≤ 700) (hR : xR h0 F0 A0) : am_Mt 3 110 [.inr (.inr (some 15))] h0 (xV h0 (fun F' A' => F' = (p_X7_advance F0 A0).2.1 ∧ A' = (p_X7_advance F0 A0).2.2)) := by
  refine am_Mt.of (D := 2) ?_
  have hI : xI h0 (ob_P h0) h0 0 0 F0 A0 := xI.start hR
  have hL : am_okL h0.length (am_args 0 [.inr (.inr (some 15))]) = true := (okA_r hI.T oc15 okA_n)
  refine k_aload 1 rfl rfl rfl ?_
  refine k_aload 2 rfl rfl rfl ?_
  refine k_aload 3 rfl rfl rfl ?_
  refine x_gI hI 6 rfl oc15 rfl rfl rfl rfl (fun x42 (e43 : x42.toInt = F0 1503) => ?_)
  refine k_xq hI rfl (n_X7_behindBlanks e43  (by omega) (by omega) hI.1) rfl rfl rfl (hI.T.rc oc15 rfl) hL (xo_r hI oc15 so_n) ?_
  rintro x44 h45 c46 s47 F48 A49 I50 L51 ⟨e52, k53, k54⟩
  replace k53 : F48 = F0 := k53
  replace k54 : A49 = A0 := k54
  replace e52 : x44.toInt = tS (A0 2) (F0 1503) := e52
  replace k53 := k53.symm
  subst k53
  replace k54 := k54.symm
  subst k54
  show am_Ok _ _ _ (9, _, [.inl x44, .inr (.inr (some 15))], _, c46, s47) _
  refine x_pI (fx_ok := fx_no rfl) I50 12 rfl oc15 rfl rfl rfl rfl (fun h55 I56 l57 => ?_)
  have L58 := okL_eq l57 L51
  have I59 : xI h0 (ob_P h0) h55 c46 s47 (up1 F0 1502 (tS (A0 2) (F0 1503))) A0 := by have h9 := I56; rw [e52] at h9; exact h9
  refine k_aload 13 rfl rfl rfl ?_
  refine k_aload 14 rfl rfl rfl ?_
  refine k_aload 15 rfl rfl rfl ?_
  refine x_gI I59 18 rfl oc15 rfl rfl rfl rfl (fun x60 (e61 : x60.toInt = tS (A0 2) (F0 1503)) => ?_)
  have q9 := tS_b (T := A0 2) hp1.1 hp1.2
  refine k_xq I59 rfl (n_X7_sortOf e61   I59.1) rfl rfl rfl (I59.T.rc oc15 rfl) L58 (xo_r I59 oc15 so_n) ?_
  rintro x62 h63 c64 s65 F66 A67 I68 L69 ⟨e70, k71, k72⟩
  replace k71 := k71.trans f_X7_sortOf.1
  replace k72 := k72.trans f_X7_sortOf.2
  replace e70 : x62.toInt = so (A0 2) (tS (A0 2) (F0 1503)) := e70.trans v_X7_sortOf
  replace k71 := k71.symm
  subst k71
  replace k72 := k72.symm
  subst k72
  show am_Ok _ _ _ (21, _, [.inl x62, .inr (.inr (some 15))], _, c64, s65) _
  refine x_pI (fx_ok := fx_no rfl) I68 24 rfl oc15 rfl rfl rfl rfl (fun h73 I74 l75 => ?_)
  have L76 := okL_eq l75 L69
  have I77 : xI h0 (ob_P h0) h73 c64 s65 (up1 ((up1 F0 1502 (tS (A0 2) (F0 1503)))) 1501 (so (A0 2) (tS (A0 2) (F0 1503)))) A0 := by have h9 := I74; rw [e70] at h9; exact h9
  refine k_aload 25 rfl rfl rfl ?_
  refine k_aload 26 rfl rfl rfl ?_
  refine x_gI I77 29 rfl oc15 rfl rfl rfl rfl (fun x78 (e79 : x78.toInt = so (A0 2) (tS (A0 2) (F0 1503))) => ?_)
  by_cases b80 : x78 = 0
  · refine k_c1 32 rfl rfl (if_pos b80) ?_
    have b80 : so (A0 2) (tS (A0 2) (F0 1503)) = 0 := by have h9 := iv_eq0.mp b80; rw [e79] at h9; exact h9
    refine k_aload 33 rfl rfl rfl ?_
    refine x_gI I77 36 rfl oc15 rfl rfl rfl rfl (fun x81 (e82 : x81.toInt = tS (A0 2) (F0 1503)) => ?_)
    refine k_goto 45 rfl rfl ?_
    refine x_pI (fx_ok := fx_no rfl) I77 48 rfl oc15 rfl rfl rfl rfl (fun h83 I84 l85 => ?_)
    have L86 := okL_eq l85 L76
    have I87 : xI h0 (ob_P h0) h83 c64 s65 (up1 ((up1 ((up1 F0 1502 (tS (A0 2) (F0 1503)))) 1501 (so (A0 2) (tS (A0 2) (F0 1503))))) 1503 (tS (A0 2) (F0 1503))) A0 := by have h9 := I84; rw [e82] at h9; exact h9
    refine k_aload 49 rfl rfl rfl ?_
    refine x_gI I87 52 rfl oc15 rfl rfl rfl rfl (fun x88 (e89 : x88.toInt = so (A0 2) (tS (A0 2) (F0 1503))) => ?_)
    refine k_push 54 rfl rfl ?_
    have hc90 : (97 : Int32).toInt = 97 := by decide
    by_cases b91 : x88 = (97 : Int32)
    · refine k_c2 66 rfl rfl (if_pos b91) ?_
      have b91 : so (A0 2) (tS (A0 2) (F0 1503)) = 97 := by have h9 := iv_eq.mp b91; rw [e89] at h9; rw [hc90] at h9; exact h9
      exact yl_X7_advance_66   hp1 hp2 _ (k := (tS (A0 2) (F0 1503)))  rfl rfl  I87 L86 (by have h9 := ak_0 (T := A0 2) hp1.1 hp1.2 (by unfold tO; omega); have h8 := tS_b (T := A0 2) hp1.1 hp1.2; omega) (absurd b91 (by omega))
    · refine k_c2 57 rfl rfl (if_neg b91) ?_
      have b91 : ¬ (so (A0 2) (tS (A0 2) (F0 1503)) = 97) := by have h9 := mt iv_eq.mpr b91; rw [e89] at h9; rw [hc90] at h9; exact h9
      refine k_aload 58 rfl rfl rfl ?_
      refine x_gI I87 61 rfl oc15 rfl rfl rfl rfl (fun x92 (e93 : x92.toInt = so (A0 2) (tS (A0 2) (F0 1503))) => ?_)
      refine k_push 63 rfl rfl ?_
      have hc94 : (48 : Int32).toInt = 48 := by decide
      by_cases b95 : x92 = (48 : Int32)
      · refine k_c2 66 rfl rfl (if_pos b95) ?_
        have b95 : so (A0 2) (tS (A0 2) (F0 1503)) = 48 := by have h9 := iv_eq.mp b95; rw [e93] at h9; rw [hc94] at h9; exact h9
        exact yl_X7_advance_66   hp1 hp2 _ (k := (tS (A0 2) (F0 1503)))  rfl rfl  I87 L86 (by have h9 := ak_0 (T := A0 2) hp1.1 hp1.2 (by unfold tO; omega); have h8 := tS_b (T := A0 2) hp1.1 hp1.2; omega) (absurd b95 (by omega))
      · refine k_c2 108 rfl rfl (if_neg b95) ?_
        have b95 : ¬ (so (A0 2) (tS (A0 2) (F0 1503)) = 48) := by have h9 := mt iv_eq.mpr b95; rw [e93] at h9; rw [hc94] at h9; exact h9
        exact k_fin rfl rfl ⟨_, _, _, _, _, rfl, I87, (by show _ = up1 _ 1503 (tE (A0 2) (F0 1503)); first | (rw [ad_0 (by unfold tO; omega)]; rfl) | (rw [ad_1 (by unfold tO; omega) (by unfold tO; omega) (by unfold tO; omega)]; rfl)), rfl⟩
  · refine k_c1 39 rfl rfl (if_neg b80) ?_
    have b80 : ¬ (so (A0 2) (tS (A0 2) (F0 1503)) = 0) := by have h9 := mt iv_eq0.mpr b80; rw [e79] at h9; exact h9
    refine k_aload 40 rfl rfl rfl ?_
    refine x_gI I77 43 rfl oc15 rfl rfl rfl rfl (fun x96 (e97 : x96.toInt = tS (A0 2) (F0 1503)) => ?_)
    refine k_push 44 rfl rfl ?_
    have hc98 : (1 : Int32).toInt = 1 := by decide
    obtain ⟨x99, q100⟩ : ∃ q : Int32, q = x96 + (1 : Int32) := ⟨_, rfl⟩
    have e101 : x99.toInt = (tS (A0 2) (F0 1503) + 1) := bx_add q100 e97 hc98 (by omega) (by omega)
    refine k_bin x99 45 rfl q100.symm rfl ?_
    refine x_pI (fx_ok := fx_no rfl) I77 48 rfl oc15 rfl rfl rfl rfl (fun h102 I103 l104 => ?_)
    have L105 := okL_eq l104 L76
    have I106 : xI h0 (ob_P h0) h102 c64 s65 (up1 ((up1 ((up1 F0 1502 (tS (A0 2) (F0 1503)))) 1501 (so (A0 2) (tS (A0 2) (F0 1503))))) 1503 ((tS (A0 2) (F0 1503) + 1))) A0 := by have h9 := I103; rw [e101] at h9; exact h9
    refine k_aload 49 rfl rfl rfl ?_
    refine x_gI I106 52 rfl oc15 rfl rfl rfl rfl (fun x107 (e108 : x107.toInt = so (A0 2) (tS (A0 2) (F0 1503))) => ?_)
    refine k_push 54 rfl rfl ?_
    have hc109 : (97 : Int32).toInt = 97 := by decide
    by_cases b110 : x107 = (97 : Int32)
    · refine k_c2 66 rfl rfl (if_pos b110) ?_
      have b110 : so (A0 2) (tS (A0 2) (F0 1503)) = 97 := by have h9 := iv_eq.mp b110; rw [e108] at h9; rw [hc109] at h9; exact h9
      exact yl_X7_advance_66   hp1 hp2 _ (k := ((tS (A0 2) (F0 1503) + 1)))  rfl rfl  I106 L105 (by have h9 := ak_0 (T := A0 2) hp1.1 hp1.2 (by unfold tO; omega); have h8 := tS_b (T := A0 2) hp1.1 hp1.2; omega) ((ak_0 hp1.1 hp1.2 (by unfold tO; omega)).1)
    · refine k_c2 57 rfl rfl (if_neg b110) ?_
      have b110 : ¬ (so (A0 2) (tS (A0 2) (F0 1503)) = 97) := by have h9 := mt iv_eq.mpr b110; rw [e108] at h9; rw [hc109] at h9; exact h9
      refine k_aload 58 rfl rfl rfl ?_
      refine x_gI I106 61 rfl oc15 rfl rfl rfl rfl (fun x111 (e112 : x111.toInt = so (A0 2) (tS (A0 2) (F0 1503))) => ?_)
      refine k_push 63 rfl rfl ?_
      have hc113 : (48 : Int32).toInt = 48 := by decide
      by_cases b114 : x111 = (48 : Int32)
      · refine k_c2 66 rfl rfl (if_pos b114) ?_
        have b114 : so (A0 2) (tS (A0 2) (F0 1503)) = 48 := by have h9 := iv_eq.mp b114; rw [e112] at h9; rw [hc113] at h9; exact h9
        exact yl_X7_advance_66   hp1 hp2 _ (k := ((tS (A0 2) (F0 1503) + 1)))  rfl rfl  I106 L105 (by have h9 := ak_0 (T := A0 2) hp1.1 hp1.2 (by unfold tO; omega); have h8 := tS_b (T := A0 2) hp1.1 hp1.2; omega) ((ak_0 hp1.1 hp1.2 (by unfold tO; omega)).1)
      · refine k_c2 108 rfl rfl (if_neg b114) ?_
        have b114 : ¬ (so (A0 2) (tS (A0 2) (F0 1503)) = 48) := by have h9 := mt iv_eq.mpr b114; rw [e112] at h9; rw [hc113] at h9; exact h9
        exact k_fin rfl rfl ⟨_, _, _, _, _, rfl, I106, (by show _ = up1 _ 1503 (tE (A0 2) (F0 1503)); first | (rw [ad_0 (by unfold tO; omega)]; rfl) | (rw [ad_1 (by unfold tO; omega) (by unfold tO; omega) (by unfold tO; omega)]; rfl)), rfl⟩
def p_X7_equalsSignIsNext  (F0 : rf_f) (A0 : xl_A) : Int × rf_f × xl_A := if so (A0 2) (tS (A0 2) (F0 1503)) = 61 then (1, F0, A0) else (0, F0, A0)
theorem z_X7_equalsSignIsNext  {F0 : rf_f} {A0 : xl_A} : (p_X7_equalsSignIsNext F0 A0).1 = 0 ∨ (p_X7_equalsSignIsNext F0 A0).1 = 1 := by
  unfold p_X7_equalsSignIsNext
  repeat' split
  all_goals first | exact Or.inl rfl | exact Or.inr rfl
theorem n_X7_equalsSignIsNext {h0 : am_h} {F0 : rf_f} {A0 : xl_A}   (hp1 : 0 ≤ F0 1503 ∧ F0 1503 ≤ ((A0 2).length : Int)) (hp2 : ((A0 2).length : Int) ≤ 700) (hR : xR h0 F0 A0) : am_Mt 3 111 [.inr (.inr (some 15))] h0 (xQ h0 (fun x F' A' => x = (p_X7_equalsSignIsNext F0 A0).1 ∧ F' = (p_X7_equalsSignIsNext F0 A0).2.1 ∧ A' = (p_X7_equalsSignIsNext F0 A0).2.2)) := by
  refine am_Mt.of (D := 2) ?_
  have hI : xI h0 (ob_P h0) h0 0 0 F0 A0 := xI.start hR
  have hL : am_okL h0.length (am_args 0 [.inr (.inr (some 15))]) = true := (okA_r hI.T oc15 okA_n)
  refine k_aload 1 rfl rfl rfl ?_
  refine k_aload 2 rfl rfl rfl ?_
  refine k_aload 3 rfl rfl rfl ?_
  refine x_gI hI 6 rfl oc15 rfl rfl rfl rfl (fun x1 (e2 : x1.toInt = F0 1503) => ?_)
  refine k_xq hI rfl (n_X7_behindBlanks e2  (by exact hp1) (by exact hp2) hI.1) rfl rfl rfl (hI.T.rc oc15 rfl) hL (xo_r hI oc15 so_n) ?_
  rintro x3 h4 c5 s6 F7 A8 I9 L10 ⟨e11, k12, k13⟩
  replace k12 : F7 = F0 := k12
  replace k13 : A8 = A0 := k13
  replace e11 : x3.toInt = tS (A0 2) (F0 1503) := e11
  replace k12 := k12.symm
  subst k12
  replace k13 := k13.symm
  subst k13
  show am_Ok _ _ _ (9, _, [.inl x3, .inr (.inr (some 15))], _, c5, s6) _
  refine k_xq I9 rfl (n_X7_sortOf e11   I9.1) rfl rfl rfl (I9.T.rc oc15 rfl) L10 so_n ?_
  rintro x14 h15 c16 s17 F18 A19 I20 L21 ⟨e22, k23, k24⟩
  replace k23 := k23.trans f_X7_sortOf.1
  replace k24 := k24.trans f_X7_sortOf.2
  replace e22 : x14.toInt = so (A0 2) (tS (A0 2) (F0 1503)) := e22.trans v_X7_sortOf
  replace k23 := k23.symm
  subst k23
  replace k24 := k24.symm
  subst k24
  show am_Ok _ _ _ (12, _, [.inl x14], _, c16, s17) _
  refine k_push 14 rfl rfl ?_
  have hc25 : (61 : Int32).toInt = 61 := by decide
  by_cases b26 : x14 = (61 : Int32)
  · refine k_c2 17 rfl rfl (if_pos b26) ?_
    have b26 : so (A0 2) (tS (A0 2) (F0 1503)) = 61 := by have h9 := iv_eq.mp b26; rw [e22] at h9; rw [hc25] at h9; exact h9
    refine k_push 18 rfl rfl ?_
    have hc27 : (1 : Int32).toInt = 1 := by decide
    refine k_goto 22 rfl rfl ?_
    exact k_fin rfl (fin_Z (Or.inr rfl)) ⟨_, _, _, _, _, _, rfl, I20, (by unfold p_X7_equalsSignIsNext; rw [if_pos b26]; exact hc27), (by unfold p_X7_equalsSignIsNext; rw [if_pos b26]), (by unfold p_X7_equalsSignIsNext; rw [if_pos b26])⟩
  · refine k_c2 21 rfl rfl (if_neg b26) ?_
    have b26 : ¬ (so (A0 2) (tS (A0 2) (F0 1503)) = 61) := by have h9 := mt iv_eq.mpr b26; rw [e22] at h9; rw [hc25] at h9; exact h9
    refine k_push 22 rfl rfl ?_
    have hc28 : (0 : Int32).toInt = 0 := by decide
    exact k_fin rfl (fin_Z (Or.inl rfl)) ⟨_, _, _, _, _, _, rfl, I20, (by unfold p_X7_equalsSignIsNext; rw [if_neg b26]; exact hc28), (by unfold p_X7_equalsSignIsNext; rw [if_neg b26]), (by unfold p_X7_equalsSignIsNext; rw [if_neg b26])⟩
theorem f_X7_equalsSignIsNext  {F0 : rf_f} {A0 : xl_A} : (p_X7_equalsSignIsNext F0 A0).2.1 = F0 ∧ (p_X7_equalsSignIsNext F0 A0).2.2 = A0 := by
  unfold p_X7_equalsSignIsNext
  repeat' split
  all_goals exact ⟨rfl, rfl⟩
end
