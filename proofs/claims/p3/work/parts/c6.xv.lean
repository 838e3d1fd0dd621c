section
def p_X7_isWord (n1 n2 : Int) (F0 : rf_f) (A0 : xl_A) : Int × rf_f × xl_A := (if slw (A0 2) n1 n2 = slw (A0 2) (F0 1502) (F0 1503) then 1 else 0, F0, A0)
theorem z_X7_isWord {n1 n2 : Int} {F0 : rf_f} {A0 : xl_A} : (p_X7_isWord n1 n2 F0 A0).1 = 0 ∨ (p_X7_isWord n1 n2 F0 A0).1 = 1 := by
  unfold p_X7_isWord
  split
  · exact Or.inr rfl
  · exact Or.inl rfl
theorem slw_eq {T : List Int} {a b p q : Int} (h0 : 0 ≤ a) (h1 : a ≤ b) (h2 : b ≤ (T.length : Int)) (h3 : 0 ≤ p) (h4 : q ≤ (T.length : Int)) (hl : b - a = q - p) (h : ∀ i : Int, a ≤ i → i < b → gl T i = gl T (p + i - a)) : slw T a b = slw T p q := by
  apply List.ext_getElem?
  intro k
  by_cases z : (k : Int) < b - a
  · rw [slw_g h0 h2 z, slw_g h3 h4 (by omega), h (a + k) (by omega) (by omega)]
    congr 2
    omega
  · have l1 := slw_l h0 h1 h2
    have l2 := slw_l h3 (by omega : p ≤ q) h4
    rw [List.getElem?_eq_none (by omega), List.getElem?_eq_none (by omega)]
theorem slw_ne {T : List Int} {a b p q i : Int} (h0 : 0 ≤ a) (h2 : b ≤ (T.length : Int)) (h3 : 0 ≤ p) (h4 : q ≤ (T.length : Int)) (hl : b - a = q - p) (h5 : a ≤ i) (h6 : i < b) (h : gl T i ≠ gl T (p + i - a)) : slw T a b ≠ slw T p q := fun e => by
  have e1 := congrArg (fun l => l[(i - a).toNat]?) e
  have e2 : (slw T a b)[(i - a).toNat]? = (slw T p q)[(i - a).toNat]? := e1
  rw [slw_g h0 h2 (by omega), slw_g h3 h4 (by omega)] at e2
  apply h
  have e3 := Option.some.inj e2
  rw [show a + ((i - a).toNat : Int) = i by omega, show p + ((i - a).toNat : Int) = p + i - a by omega] at e3
  exact e3
theorem slw_nl {T : List Int} {a b p q : Int} (h0 : 0 ≤ a) (h1 : a ≤ b) (h2 : b ≤ (T.length : Int)) (h3 : 0 ≤ p) (h3b : p ≤ q) (h4 : q ≤ (T.length : Int)) (hl : ¬ b - a = q - p) : slw T a b ≠ slw T p q := fun e => by
  have l1 := slw_l h0 h1 h2
  have l2 := slw_l h3 h3b h4
  rw [e] at l1
  omega
theorem yl_X7_isWord_19 {h0 : am_h} {F0 : rf_f} {A0 : xl_A} {w1 : Int32} {n1 : Int} (hn1 : w1.toInt = n1) {w2 : Int32} {n2 : Int} (hn2 : w2.toInt = n2)  (hp1 : 0 ≤ n1 ∧ n1 ≤ n2 ∧ n2 ≤ ((A0 2).length : Int)) (hp2 : ((A0 2).length : Int) ≤ 700) (hp3 : 0 ≤ F0 1502 ∧ F0 1502 ≤ F0 1503 ∧ F0 1503 ≤ ((A0 2).length : Int)) : ∀ (n : Nat) {lv : am_l} {h : am_h} {c s : Nat} {u1 : Int32} {v1 : Int} {u2 : Int32} {v2 : Int} {u3 : Int32} {v3 : Int}, ((701 - v3).toNat) = n → am_get lv 0 = some (.inr (.inr (some 15))) → am_get lv 1 = some (.inl u1) → am_get lv 2 = some (.inl u2) → am_get lv 3 = some (.inl u3) → u1.toInt = v1 → u2.toInt = v2 → u3.toInt = v3 → xI h0 (ob_P h0) h c s F0 A0 → am_okL h.length lv = true → (v1 = n1 ∧ v2 = n2 ∧ n2 - n1 = F0 1503 - F0 1502) → (n1 ≤ v3 ∧ v3 ≤ n2) → (∀ i : Int, n1 ≤ i → i < v3 → gl (A0 2) i = gl (A0 2) (F0 1502 + i - n1)) → am_Ok am_G 1 112 (19, lv, [], h, c, s) (xQ h0 (fun x F' A' => x = (p_X7_isWord n1 n2 F0 A0).1 ∧ F' = (p_X7_isWord n1 n2 F0 A0).2.1 ∧ A' = (p_X7_isWord n1 n2 F0 A0).2.2)) := by
  intro n
  induction n using Nat.strongRecOn with
  | ind n ih =>
    intro lv h c s u1 v1 u2 v2 u3 v3  hm g0 g1 g2 g3 hv1 hv2 hv3 hI hL i0 i1 i2
    refine k_iload 20 rfl g3 rfl ?_
    refine k_iload 21 rfl g2 rfl ?_
    by_cases b1 : u2 ≤ u3
    · refine k_c2 58 rfl rfl (if_pos b1) ?_
      have b1 : v2 ≤ v3 := by have h9 := iv_le.mp b1; rw [hv3] at h9; rw [hv2] at h9; exact h9
      refine k_push 59 rfl rfl ?_
      have hc2 : (1 : Int32).toInt = 1 := by decide
      exact k_fin rfl (fin_Z (Or.inr rfl)) ⟨_, _, _, _, _, _, rfl, hI, hc2.trans ((if_pos (slw_eq (by omega) (by omega) (by omega) (by omega) (by omega) (by omega) (fun i j1 j2 => i2 i j1 (by omega)))).symm), rfl, rfl⟩
    · refine k_c2 24 rfl rfl (if_neg b1) ?_
      have b1 : ¬ (v2 ≤ v3) := by have h9 := mt iv_le.mpr b1; rw [hv3] at h9; rw [hv2] at h9; exact h9
      refine k_aload 25 rfl g0 rfl ?_
      refine x_gF 2 hI 28 rfl rfl (by decide) rfl ?_
      refine k_iload 29 rfl g3 rfl ?_
      refine k_xq hI rfl (y_get hv3 hI.1 or2) rfl rfl rfl (ty_H.rc3 hI.T or2) hL so_n ?_
      rintro x3 h4 c5 s6 F7 A8 I9 L10 ⟨e11, k12, k13⟩
      replace k12 := k12.symm
      subst k12
      replace k13 := k13.symm
      subst k13
      show am_Ok _ _ _ (32, _, [.inl x3], _, c5, s6) _
      refine k_aload 33 rfl g0 rfl ?_
      refine x_gF 2 I9 36 rfl rfl (by decide) rfl ?_
      refine k_aload 37 rfl g0 rfl ?_
      refine x_gI I9 40 rfl oc15 rfl rfl rfl rfl (fun x14 (e15 : x14.toInt = F0 1502) => ?_)
      refine k_iload 41 rfl g3 rfl ?_
      obtain ⟨x16, q17⟩ : ∃ q : Int32, q = x14 + u3 := ⟨_, rfl⟩
      have e18 : x16.toInt = (F0 1502 + v3) := bx_add q17 e15 hv3 (by omega) (by omega)
      refine k_bin x16 42 rfl q17.symm rfl ?_
      refine k_iload 43 rfl g1 rfl ?_
      obtain ⟨x19, q20⟩ : ∃ q : Int32, q = x16 - u1 := ⟨_, rfl⟩
      have e21 : x19.toInt = ((F0 1502 + v3) - v1) := bx_sub q20 e18 hv1 (by omega) (by omega)
      refine k_bin x19 44 rfl q20.symm rfl ?_
      refine k_xq I9 rfl (y_get e21 I9.1 or2) rfl rfl rfl (ty_H.rc3 I9.T or2) L10 (so_i so_n) ?_
      rintro x22 h23 c24 s25 F26 A27 I28 L29 ⟨e30, k31, k32⟩
      replace k31 := k31.symm
      subst k31
      replace k32 := k32.symm
      subst k32
      show am_Ok _ _ _ (47, _, [.inl x22, .inl x3], _, c24, s25) _
      by_cases b33 : x3 = x22
      · refine k_c2 52 rfl rfl (if_pos b33) ?_
        have b33 : gl (A0 2) (v3) = gl (A0 2) (((F0 1502 + v3) - v1)) := by have h9 := iv_eq.mp b33; rw [e11] at h9; rw [e30] at h9; exact h9
        have hc34 : (1 : Int32).toInt = 1 := by decide
        obtain ⟨x35, q36⟩ : ∃ q : Int32, q = u3 + (1 : Int32) := ⟨_, rfl⟩
        have e37 : x35.toInt = (v3 + 1) := bx_add q36 hv3 hc34 (by omega) (by omega)
        refine k_iinc x35 55 rfl g3 q36.symm rfl ?_
        refine k_goto 19 rfl rfl ?_
        exact ih _ (by omega)  (v1 := v1) (v2 := v2) (v3 := (v3 + 1)) rfl (gs_ne rfl rfl g0) (gs_ne rfl rfl g1) (gs_ne rfl rfl g2) gs_eq hv1 hv2 e37 I28 (okL_set rfl L29) (by omega) (by omega) (fun i j1 j2 => by by_cases z : i = v3; exact (by rw [z, ← i0.1]; omega); exact i2 i j1 (by omega))
      · refine k_c2 50 rfl rfl (if_neg b33) ?_
        have b33 : ¬ (gl (A0 2) (v3) = gl (A0 2) (((F0 1502 + v3) - v1))) := by have h9 := mt iv_eq.mpr b33; rw [e11] at h9; rw [e30] at h9; exact h9
        refine k_push 51 rfl rfl ?_
        have hc38 : (0 : Int32).toInt = 0 := by decide
        exact k_fin rfl (fin_Z (Or.inl rfl)) ⟨_, _, _, _, _, _, rfl, I28, hc38.trans ((if_neg (slw_ne (i := v3) (by omega) (by omega) (by omega) (by omega) (by omega) (by omega) (by omega) (by rw [← i0.1]; omega))).symm), rfl, rfl⟩
theorem n_X7_isWord {h0 : am_h} {F0 : rf_f} {A0 : xl_A} {w1 : Int32} {n1 : Int} (hn1 : w1.toInt = n1) {w2 : Int32} {n2 : Int} (hn2 : w2.toInt = n2)  (hp1 : 0 ≤ n1 ∧ n1 ≤ n2 ∧ n2 ≤ ((A0 2).length : Int)) (hp2 : ((A0 2).length : Int) ≤ 700) (hp3 : 0 ≤ F0 1502 ∧ F0 1502 ≤ F0 1503 ∧ F0 1503 ≤ ((A0 2).length : Int)) (hR : xR h0 F0 A0) : am_Mt 2 112 [.inr (.inr (some 15)), .inl w1, .inl w2] h0 (xQ h0 (fun x F' A' => x = (p_X7_isWord n1 n2 F0 A0).1 ∧ F' = (p_X7_isWord n1 n2 F0 A0).2.1 ∧ A' = (p_X7_isWord n1 n2 F0 A0).2.2)) := by
  refine am_Mt.of (D := 1) ?_
  have hI : xI h0 (ob_P h0) h0 0 0 F0 A0 := xI.start hR
  have hL : am_okL h0.length (am_args 0 [.inr (.inr (some 15)), .inl w1, .inl w2]) = true := (okA_r hI.T oc15 (okA_i (okA_i okA_n)))
  refine k_iload 1 rfl rfl rfl ?_
  refine k_iload 2 rfl rfl rfl ?_
  obtain ⟨x39, q40⟩ : ∃ q : Int32, q = w2 - w1 := ⟨_, rfl⟩
  have e41 : x39.toInt = (n2 - n1) := bx_sub q40 hn2 hn1 (by omega) (by omega)
  refine k_bin x39 3 rfl q40.symm rfl ?_
  refine k_aload 4 rfl rfl rfl ?_
  refine x_gI hI 7 rfl oc15 rfl rfl rfl rfl (fun x42 (e43 : x42.toInt = F0 1503) => ?_)
  refine k_aload 8 rfl rfl rfl ?_
  refine x_gI hI 11 rfl oc15 rfl rfl rfl rfl (fun x44 (e45 : x44.toInt = F0 1502) => ?_)
  obtain ⟨x46, q47⟩ : ∃ q : Int32, q = x42 - x44 := ⟨_, rfl⟩
  have e48 : x46.toInt = (F0 1503 - F0 1502) := bx_sub q47 e43 e45 (by omega) (by omega)
  refine k_bin x46 12 rfl q47.symm rfl ?_
  by_cases b49 : x39 = x46
  · refine k_c2 17 rfl rfl (if_pos b49) ?_
    have b49 : (n2 - n1) = (F0 1503 - F0 1502) := by have h9 := iv_eq.mp b49; rw [e41] at h9; rw [e48] at h9; exact h9
    refine k_iload 18 rfl rfl rfl ?_
    refine k_istore 19 rfl rfl ?_
    exact yl_X7_isWord_19 hn1 hn2  hp1 hp2 hp3 _  (v1 := n1) (v2 := n2) (v3 := n1) rfl (gs_ne rfl rfl rfl) (gs_ne rfl rfl rfl) (gs_ne rfl rfl rfl) gs_eq hn1 hn2 hn1 hI (okL_set rfl hL) (by omega) (by omega) (fun i i1 i2 => absurd i2 (by omega))
  · refine k_c2 15 rfl rfl (if_neg b49) ?_
    have b49 : ¬ ((n2 - n1) = (F0 1503 - F0 1502)) := by have h9 := mt iv_eq.mpr b49; rw [e41] at h9; rw [e48] at h9; exact h9
    refine k_push 16 rfl rfl ?_
    have hc50 : (0 : Int32).toInt = 0 := by decide
    exact k_fin rfl (fin_Z (Or.inl rfl)) ⟨_, _, _, _, _, _, rfl, hI, hc50.trans ((if_neg (slw_nl (by omega) (by omega) (by omega) (by omega) (by omega) (by omega) (by omega))).symm), rfl, rfl⟩
end
