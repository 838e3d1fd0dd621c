/-! THE CLASS, method by method, as pure functions of its fields and rows -/
def bm (n : Int) : Int := n.bmod (2 ^ 32)
section XB
variable {x y q : Int32} {a b : Int} {i k l : Nat} {h h0 : am_h} {F : rf_f} {A : xl_A} {B c s : Nat}
theorem bm_add (h : q = x + y) (h1 : x.toInt = a) (h2 : y.toInt = b) : q.toInt = bm (a + b) := by
  rw [h, Int32.toInt_add, h1, h2]
  rfl
theorem bm_sub (h : q = x - y) (h1 : x.toInt = a) (h2 : y.toInt = b) : q.toInt = bm (a - b) := by
  rw [h, Int32.toInt_sub, h1, h2]
  rfl
theorem bm_mul (h : q = x * y) (h1 : x.toInt = a) (h2 : y.toInt = b) : q.toInt = bm (a * b) := by
  rw [h, Int32.toInt_mul, h1, h2]
  rfl
theorem bm_id (h1 : -2147483648 ≤ a) (h2 : a < 2147483648) : bm a = a := iv_bm h1 h2
theorem xo_v (hI : xI h0 B h c s F A) (ho : ob l i) : am_okV h.length (.inr (.inr (some i))) = true := Nat.ble_eq_true_of_le (Nat.le_trans (ob_lt ho) (Nat.le_trans (by decide) hI.len))
theorem xo_r {st : List am_v} (hI : xI h0 B h c s F A) (ho : ob l i) (e : st.all (am_okV h.length) = true) : (.inr (.inr (some i)) :: st : List am_v).all (am_okV h.length) = true := by
  rw [List.all_cons, xo_v hI ho, e]
  rfl
theorem fx_no (e : (fx_T.all (fun t => !(Nat.beq t.1 i && Nat.beq t.2.1 k))) = true) : ∀ r, (i, k, r) ∉ fx_T := fun r hr => by
  have h1 := List.all_eq_true.mp e _ hr
  have h2 : (Nat.beq i i && Nat.beq k k) = true := by rw [Nat.beq_refl, Nat.beq_refl]; rfl
  rw [h2] at h1
  cases h1
theorem y_get (hx : x.toInt = a) (hR : xR h F A) (hi : ob 3 i ∨ ob 11 i) : am_Mt 1 50 [.inr (.inr (some i)), .inl x] h (xQ h (fun y F' A' => y = gl (A i) a ∧ F' = F ∧ A' = A)) := by
  subst hx
  exact xv_get hR hi
theorem y_add (hx : x.toInt = a) (hR : xR h F A) (hi : ob 3 i ∨ ob 11 i) : am_Mt 2 52 [.inr (.inr (some i)), .inl x] h (xQ h (fun y F' A' => y = addr i A ∧ F' = F ∧ A' = addl i A a)) := by
  subst hx
  exact xv_add hR hi
theorem y_set (hx : x.toInt = a) (hy : y.toInt = b) (hR : xR h F A) (hi : ob 3 i ∨ ob 11 i) : am_Mt 1 51 [.inr (.inr (some i)), .inl x, .inl y] h (xV h (fun F' A' => F' = F ∧ A' = upl A i (ssl (A i) a b))) := by
  subst hx
  subst hy
  exact xw_set hR hi
theorem y_cut (hx : x.toInt = a) (hR : xR h F A) (hi : ob 3 i ∨ ob 11 i) : am_Mt 1 56 [.inr (.inr (some i)), .inl x] h (xV h (fun F' A' => F' = F ∧ A' = upl A i (cutl (A i) a))) := by
  subst hx
  exact xw_cut hR hi
theorem y_insert (hx : x.toInt = a) (hy : y.toInt = b) (hR : xR h F A) (hi : ob 3 i ∨ ob 11 i) : am_Mt 2 53 [.inr (.inr (some i)), .inl x, .inl y] h (xV h (fun F' A' => F' = F ∧ A' = insl i A a b)) := by
  subst hx
  subst hy
  exact xv_insert hR hi
theorem y_fill (hx : x.toInt = a) (hy : y.toInt = b) (hR : xR h F A) (hi : ob 3 i ∨ ob 11 i) (hc : (ob_c0 i : Int) = (ob_mo i).toInt) (ha : 0 ≤ a ∧ a ≤ (ob_mo i).toInt) : am_Mt 1 57 [.inr (.inr (some i)), .inl x, .inl y] h (xV h (fun F' A' => F' = F ∧ A' = upl A i (List.replicate a.toNat b))) := by
  subst hx
  subst hy
  exact xw_fill hR hi hc ha
theorem oc1 : ob 9 1 := show 1 ∈ ob_L 9 by decide
theorem oc4 : ob 6 4 := show 4 ∈ ob_L 6 by decide
theorem oc15 : ob 7 15 := show 15 ∈ ob_L 7 by decide
theorem oc74 : ob 0 74 := show 74 ∈ ob_L 0 by decide
theorem oc56 : ob 1 56 := show 56 ∈ ob_L 1 by decide
theorem oc65 : ob 1 65 := show 65 ∈ ob_L 1 by decide
theorem ol2 : ob 11 2 := show 2 ∈ ob_L 11 by decide
theorem or2 : ob 3 2 ∨ ob 11 2 := Or.inr ol2
theorem ol5 : ob 3 5 := show 5 ∈ ob_L 3 by decide
theorem or5 : ob 3 5 ∨ ob 11 5 := Or.inl ol5
theorem ol7 : ob 3 7 := show 7 ∈ ob_L 3 by decide
theorem or7 : ob 3 7 ∨ ob 11 7 := Or.inl ol7
theorem ol9 : ob 3 9 := show 9 ∈ ob_L 3 by decide
theorem or9 : ob 3 9 ∨ ob 11 9 := Or.inl ol9
theorem ol11 : ob 3 11 := show 11 ∈ ob_L 3 by decide
theorem or11 : ob 3 11 ∨ ob 11 11 := Or.inl ol11
theorem ol13 : ob 3 13 := show 13 ∈ ob_L 3 by decide
theorem or13 : ob 3 13 ∨ ob 11 13 := Or.inl ol13
theorem ol46 : ob 3 46 := show 46 ∈ ob_L 3 by decide
theorem or46 : ob 3 46 ∨ ob 11 46 := Or.inl ol46
theorem ol48 : ob 3 48 := show 48 ∈ ob_L 3 by decide
theorem or48 : ob 3 48 ∨ ob 11 48 := Or.inl ol48
theorem ol50 : ob 3 50 := show 50 ∈ ob_L 3 by decide
theorem or50 : ob 3 50 ∨ ob 11 50 := Or.inl ol50
theorem ol52 : ob 3 52 := show 52 ∈ ob_L 3 by decide
theorem or52 : ob 3 52 ∨ ob 11 52 := Or.inl ol52
theorem ol54 : ob 3 54 := show 54 ∈ ob_L 3 by decide
theorem or54 : ob 3 54 ∨ ob 11 54 := Or.inl ol54
theorem ol57 : ob 3 57 := show 57 ∈ ob_L 3 by decide
theorem or57 : ob 3 57 ∨ ob 11 57 := Or.inl ol57
theorem ol59 : ob 3 59 := show 59 ∈ ob_L 3 by decide
theorem or59 : ob 3 59 ∨ ob 11 59 := Or.inl ol59
theorem ol61 : ob 3 61 := show 61 ∈ ob_L 3 by decide
theorem or61 : ob 3 61 ∨ ob 11 61 := Or.inl ol61
theorem ol63 : ob 3 63 := show 63 ∈ ob_L 3 by decide
theorem or63 : ob 3 63 ∨ ob 11 63 := Or.inl ol63
theorem ol66 : ob 3 66 := show 66 ∈ ob_L 3 by decide
theorem or66 : ob 3 66 ∨ ob 11 66 := Or.inl ol66
theorem ol68 : ob 3 68 := show 68 ∈ ob_L 3 by decide
theorem or68 : ob 3 68 ∨ ob 11 68 := Or.inl ol68
theorem ol70 : ob 3 70 := show 70 ∈ ob_L 3 by decide
theorem or70 : ob 3 70 ∨ ob 11 70 := Or.inl ol70
theorem ol72 : ob 3 72 := show 72 ∈ ob_L 3 by decide
theorem or72 : ob 3 72 ∨ ob 11 72 := Or.inl ol72
theorem ol75 : ob 3 75 := show 75 ∈ ob_L 3 by decide
theorem or75 : ob 3 75 ∨ ob 11 75 := Or.inl ol75
theorem ol77 : ob 3 77 := show 77 ∈ ob_L 3 by decide
theorem or77 : ob 3 77 ∨ ob 11 77 := Or.inl ol77
theorem ol79 : ob 3 79 := show 79 ∈ ob_L 3 by decide
theorem or79 : ob 3 79 ∨ ob 11 79 := Or.inl ol79
end XB
section
def p_X7_begin  (F0 : rf_f) (A0 : xl_A) : Int × rf_f × xl_A := (0, (up1 ((up1 (up1 F0 1501 (0)) 1502 (0))) 1503 (0)), A0)
theorem n_X7_begin {h0 : am_h} {F0 : rf_f} {A0 : xl_A}   (hR : xR h0 F0 A0) : am_Mt 1 105 [.inr (.inr (some 15))] h0 (xV h0 (fun F' A' => F' = (p_X7_begin F0 A0).2.1 ∧ A' = (p_X7_begin F0 A0).2.2)) := by
  refine am_Mt.of (D := 0) ?_
  have hI : xI h0 (ob_P h0) h0 0 0 F0 A0 := xI.start hR
  have hL : am_okL h0.length (am_args 0 [.inr (.inr (some 15))]) = true := (okA_r hI.T oc15 okA_n)
  refine k_aload 1 rfl rfl rfl ?_
  refine k_push 2 rfl rfl ?_
  have hc1 : (0 : Int32).toInt = 0 := by decide
  refine x_pI (fx_ok := fx_no rfl) hI 5 rfl oc15 rfl rfl rfl rfl (fun h2 I3 l4 => ?_)
  have L5 := okL_eq l4 hL
  have I6 : xI h0 (ob_P h0) h2 0 0 (up1 F0 1501 (0)) A0 := by have h9 := I3; rw [hc1] at h9; exact h9
  refine k_aload 6 rfl rfl rfl ?_
  refine k_push 7 rfl rfl ?_
  refine x_pI (fx_ok := fx_no rfl) I6 10 rfl oc15 rfl rfl rfl rfl (fun h7 I8 l9 => ?_)
  have L10 := okL_eq l9 L5
  have I11 : xI h0 (ob_P h0) h7 0 0 (up1 (up1 F0 1501 (0)) 1502 (0)) A0 := by have h9 := I8; rw [hc1] at h9; exact h9
  refine k_aload 11 rfl rfl rfl ?_
  refine k_push 12 rfl rfl ?_
  refine x_pI (fx_ok := fx_no rfl) I11 15 rfl oc15 rfl rfl rfl rfl (fun h12 I13 l14 => ?_)
  have L15 := okL_eq l14 L10
  have I16 : xI h0 (ob_P h0) h12 0 0 (up1 ((up1 (up1 F0 1501 (0)) 1502 (0))) 1503 (0)) A0 := by have h9 := I13; rw [hc1] at h9; exact h9
  exact k_fin rfl rfl ⟨_, _, _, _, _, rfl, I16, rfl, rfl⟩
def p_X7_sort  (F0 : rf_f) (A0 : xl_A) : Int × rf_f × xl_A := (F0 1501, F0, A0)
theorem n_X7_sort {h0 : am_h} {F0 : rf_f} {A0 : xl_A}   (hR : xR h0 F0 A0) : am_Mt 1 106 [.inr (.inr (some 15))] h0 (xQ h0 (fun x F' A' => x = (p_X7_sort F0 A0).1 ∧ F' = (p_X7_sort F0 A0).2.1 ∧ A' = (p_X7_sort F0 A0).2.2)) := by
  refine am_Mt.of (D := 0) ?_
  have hI : xI h0 (ob_P h0) h0 0 0 F0 A0 := xI.start hR
  have hL : am_okL h0.length (am_args 0 [.inr (.inr (some 15))]) = true := (okA_r hI.T oc15 okA_n)
  refine k_aload 1 rfl rfl rfl ?_
  refine x_gI hI 4 rfl oc15 rfl rfl rfl rfl (fun x1 (e2 : x1.toInt = F0 1501) => ?_)
  exact k_fin rfl rfl ⟨_, _, _, _, _, _, rfl, hI, e2, rfl, rfl⟩
def p_X7_start  (F0 : rf_f) (A0 : xl_A) : Int × rf_f × xl_A := (F0 1502, F0, A0)
theorem n_X7_start {h0 : am_h} {F0 : rf_f} {A0 : xl_A}   (hR : xR h0 F0 A0) : am_Mt 1 107 [.inr (.inr (some 15))] h0 (xQ h0 (fun x F' A' => x = (p_X7_start F0 A0).1 ∧ F' = (p_X7_start F0 A0).2.1 ∧ A' = (p_X7_start F0 A0).2.2)) := by
  refine am_Mt.of (D := 0) ?_
  have hI : xI h0 (ob_P h0) h0 0 0 F0 A0 := xI.start hR
  have hL : am_okL h0.length (am_args 0 [.inr (.inr (some 15))]) = true := (okA_r hI.T oc15 okA_n)
  refine k_aload 1 rfl rfl rfl ?_
  refine x_gI hI 4 rfl oc15 rfl rfl rfl rfl (fun x1 (e2 : x1.toInt = F0 1502) => ?_)
  exact k_fin rfl rfl ⟨_, _, _, _, _, _, rfl, hI, e2, rfl, rfl⟩
def p_X7_end  (F0 : rf_f) (A0 : xl_A) : Int × rf_f × xl_A := (F0 1503, F0, A0)
theorem n_X7_end {h0 : am_h} {F0 : rf_f} {A0 : xl_A}   (hR : xR h0 F0 A0) : am_Mt 1 108 [.inr (.inr (some 15))] h0 (xQ h0 (fun x F' A' => x = (p_X7_end F0 A0).1 ∧ F' = (p_X7_end F0 A0).2.1 ∧ A' = (p_X7_end F0 A0).2.2)) := by
  refine am_Mt.of (D := 0) ?_
  have hI : xI h0 (ob_P h0) h0 0 0 F0 A0 := xI.start hR
  have hL : am_okL h0.length (am_args 0 [.inr (.inr (some 15))]) = true := (okA_r hI.T oc15 okA_n)
  refine k_aload 1 rfl rfl rfl ?_
  refine x_gI hI 4 rfl oc15 rfl rfl rfl rfl (fun x1 (e2 : x1.toInt = F0 1503) => ?_)
  exact k_fin rfl rfl ⟨_, _, _, _, _, _, rfl, hI, e2, rfl, rfl⟩
def p_X7_figure  (F0 : rf_f) (A0 : xl_A) : Int × rf_f × xl_A := (bm (gl (A0 2) (F0 1502) - 48), F0, A0)
theorem n_X7_figure {h0 : am_h} {F0 : rf_f} {A0 : xl_A}   (hR : xR h0 F0 A0) : am_Mt 2 109 [.inr (.inr (some 15))] h0 (xQ h0 (fun x F' A' => x = (p_X7_figure F0 A0).1 ∧ F' = (p_X7_figure F0 A0).2.1 ∧ A' = (p_X7_figure F0 A0).2.2)) := by
  refine am_Mt.of (D := 1) ?_
  have hI : xI h0 (ob_P h0) h0 0 0 F0 A0 := xI.start hR
  have hL : am_okL h0.length (am_args 0 [.inr (.inr (some 15))]) = true := (okA_r hI.T oc15 okA_n)
  refine k_aload 1 rfl rfl rfl ?_
  refine x_gF 2 hI 4 rfl rfl (by decide) rfl ?_
  refine k_aload 5 rfl rfl rfl ?_
  refine x_gI hI 8 rfl oc15 rfl rfl rfl rfl (fun x1 (e2 : x1.toInt = F0 1502) => ?_)
  refine k_xq hI rfl (y_get e2 hI.1 or2) rfl rfl rfl (ty_H.rc3 hI.T or2) hL so_n ?_
  rintro x3 h4 c5 s6 F7 A8 I9 L10 ⟨e11, rfl, rfl⟩
  show am_Ok _ _ _ (11, _, [.inl x3], _, c5, s6) _
  refine k_push 13 rfl rfl ?_
  have hc12 : (48 : Int32).toInt = 48 := by decide
  obtain ⟨x13, q14⟩ : ∃ q : Int32, q = x3 - (48 : Int32) := ⟨_, rfl⟩
  have e15 : x13.toInt = bm (gl (A0 2) (F0 1502) - 48) := bm_sub q14 e11 hc12
  refine k_bin x13 14 rfl q14.symm rfl ?_
  exact k_fin rfl rfl ⟨_, _, _, _, _, _, rfl, I9, e15, rfl, rfl⟩
def p_X6_place  (F0 : rf_f) (A0 : xl_A) : Int × rf_f × xl_A := ((p_X7_start F0 A0).1, (p_X7_start F0 A0).2.1, (p_X7_start F0 A0).2.2)
theorem n_X6_place {h0 : am_h} {F0 : rf_f} {A0 : xl_A}   (hR : xR h0 F0 A0) : am_Mt 2 83 [.inr (.inr (some 4))] h0 (xQ h0 (fun x F' A' => x = (p_X6_place F0 A0).1 ∧ F' = (p_X6_place F0 A0).2.1 ∧ A' = (p_X6_place F0 A0).2.2)) := by
  refine am_Mt.of (D := 1) ?_
  have hI : xI h0 (ob_P h0) h0 0 0 F0 A0 := xI.start hR
  have hL : am_okL h0.length (am_args 0 [.inr (.inr (some 4))]) = true := (okA_r hI.T oc4 okA_n)
  refine k_aload 1 rfl rfl rfl ?_
  refine x_gF 15 hI 4 rfl rfl (by decide) rfl ?_
  refine k_xq hI rfl (n_X7_start   hI.1) rfl rfl rfl (hI.T.rc oc15 rfl) hL so_n ?_
  rintro x1 h2 c3 s4 F5 A6 I7 L8 ⟨e9, rfl, rfl⟩
  show am_Ok _ _ _ (7, _, [.inl x1], _, c3, s4) _
  exact k_fin rfl rfl ⟨_, _, _, _, _, _, rfl, I7, e9, rfl, rfl⟩
def p_X6_isAtomDue  (F0 : rf_f) (A0 : xl_A) : Int × rf_f × xl_A := if F0 406 = 0 then (1, F0, A0) else if F0 406 = 1 then (1, F0, A0) else if F0 406 = 4 then (1, F0, A0) else (0, F0, A0)
theorem z_X6_isAtomDue  {F0 : rf_f} {A0 : xl_A} : (p_X6_isAtomDue F0 A0).1 = 0 ∨ (p_X6_isAtomDue F0 A0).1 = 1 := by
  unfold p_X6_isAtomDue
  repeat' split
  all_goals first | exact Or.inl rfl | exact Or.inr rfl
theorem n_X6_isAtomDue {h0 : am_h} {F0 : rf_f} {A0 : xl_A}   (hR : xR h0 F0 A0) : am_Mt 1 101 [.inr (.inr (some 4))] h0 (xQ h0 (fun x F' A' => x = (p_X6_isAtomDue F0 A0).1 ∧ F' = (p_X6_isAtomDue F0 A0).2.1 ∧ A' = (p_X6_isAtomDue F0 A0).2.2)) := by
  refine am_Mt.of (D := 0) ?_
  have hI : xI h0 (ob_P h0) h0 0 0 F0 A0 := xI.start hR
  have hL : am_okL h0.length (am_args 0 [.inr (.inr (some 4))]) = true := (okA_r hI.T oc4 okA_n)
  refine k_aload 1 rfl rfl rfl ?_
  refine x_gI hI 4 rfl oc4 rfl rfl rfl rfl (fun x1 (e2 : x1.toInt = F0 406) => ?_)
  by_cases b3 : x1 = 0
  · refine k_c1 23 rfl rfl (if_pos b3) ?_
    have b3 : F0 406 = 0 := by have h9 := iv_eq0.mp b3; rw [e2] at h9; exact h9
    refine k_push 24 rfl rfl ?_
    have hc4 : (1 : Int32).toInt = 1 := by decide
    refine k_goto 28 rfl rfl ?_
    exact k_fin rfl (fin_Z (Or.inr rfl)) ⟨_, _, _, _, _, _, rfl, hI, (by unfold p_X6_isAtomDue; rw [if_pos b3]; exact hc4), (by unfold p_X6_isAtomDue; rw [if_pos b3]), (by unfold p_X6_isAtomDue; rw [if_pos b3])⟩
  · refine k_c1 7 rfl rfl (if_neg b3) ?_
    have b3 : ¬ (F0 406 = 0) := by have h9 := mt iv_eq0.mpr b3; rw [e2] at h9; exact h9
    refine k_aload 8 rfl rfl rfl ?_
    refine x_gI hI 11 rfl oc4 rfl rfl rfl rfl (fun x5 (e6 : x5.toInt = F0 406) => ?_)
    refine k_push 12 rfl rfl ?_
    have hc7 : (1 : Int32).toInt = 1 := by decide
    by_cases b8 : x5 = (1 : Int32)
    · refine k_c2 23 rfl rfl (if_pos b8) ?_
      have b8 : F0 406 = 1 := by have h9 := iv_eq.mp b8; rw [e6] at h9; rw [hc7] at h9; exact h9
      refine k_push 24 rfl rfl ?_
      refine k_goto 28 rfl rfl ?_
      exact k_fin rfl (fin_Z (Or.inr rfl)) ⟨_, _, _, _, _, _, rfl, hI, (by unfold p_X6_isAtomDue; rw [if_neg b3, if_pos b8]; exact hc7), (by unfold p_X6_isAtomDue; rw [if_neg b3, if_pos b8]), (by unfold p_X6_isAtomDue; rw [if_neg b3, if_pos b8])⟩
    · refine k_c2 15 rfl rfl (if_neg b8) ?_
      have b8 : ¬ (F0 406 = 1) := by have h9 := mt iv_eq.mpr b8; rw [e6] at h9; rw [hc7] at h9; exact h9
      refine k_aload 16 rfl rfl rfl ?_
      refine x_gI hI 19 rfl oc4 rfl rfl rfl rfl (fun x9 (e10 : x9.toInt = F0 406) => ?_)
      refine k_push 20 rfl rfl ?_
      have hc11 : (4 : Int32).toInt = 4 := by decide
      by_cases b12 : x9 = (4 : Int32)
      · refine k_c2 23 rfl rfl (if_pos b12) ?_
        have b12 : F0 406 = 4 := by have h9 := iv_eq.mp b12; rw [e10] at h9; rw [hc11] at h9; exact h9
        refine k_push 24 rfl rfl ?_
        refine k_goto 28 rfl rfl ?_
        exact k_fin rfl (fin_Z (Or.inr rfl)) ⟨_, _, _, _, _, _, rfl, hI, (by unfold p_X6_isAtomDue; rw [if_neg b3, if_neg b8, if_pos b12]; exact hc7), (by unfold p_X6_isAtomDue; rw [if_neg b3, if_neg b8, if_pos b12]), (by unfold p_X6_isAtomDue; rw [if_neg b3, if_neg b8, if_pos b12])⟩
      · refine k_c2 27 rfl rfl (if_neg b12) ?_
        have b12 : ¬ (F0 406 = 4) := by have h9 := mt iv_eq.mpr b12; rw [e10] at h9; rw [hc11] at h9; exact h9
        refine k_push 28 rfl rfl ?_
        have hc13 : (0 : Int32).toInt = 0 := by decide
        exact k_fin rfl (fin_Z (Or.inl rfl)) ⟨_, _, _, _, _, _, rfl, hI, (by unfold p_X6_isAtomDue; rw [if_neg b3, if_neg b8, if_neg b12]; exact hc13), (by unfold p_X6_isAtomDue; rw [if_neg b3, if_neg b8, if_neg b12]), (by unfold p_X6_isAtomDue; rw [if_neg b3, if_neg b8, if_neg b12])⟩
def p_X6_isWhole  (F0 : rf_f) (A0 : xl_A) : Int × rf_f × xl_A := if F0 406 = 4 then if (((A0 11).length : Nat) : Int) = 0 then (1, F0, A0) else (0, F0, A0) else (0, F0, A0)
theorem z_X6_isWhole  {F0 : rf_f} {A0 : xl_A} : (p_X6_isWhole F0 A0).1 = 0 ∨ (p_X6_isWhole F0 A0).1 = 1 := by
  unfold p_X6_isWhole
  repeat' split
  all_goals first | exact Or.inl rfl | exact Or.inr rfl
theorem n_X6_isWhole {h0 : am_h} {F0 : rf_f} {A0 : xl_A}   (hR : xR h0 F0 A0) : am_Mt 2 102 [.inr (.inr (some 4))] h0 (xQ h0 (fun x F' A' => x = (p_X6_isWhole F0 A0).1 ∧ F' = (p_X6_isWhole F0 A0).2.1 ∧ A' = (p_X6_isWhole F0 A0).2.2)) := by
  refine am_Mt.of (D := 1) ?_
  have hI : xI h0 (ob_P h0) h0 0 0 F0 A0 := xI.start hR
  have hL : am_okL h0.length (am_args 0 [.inr (.inr (some 4))]) = true := (okA_r hI.T oc4 okA_n)
  refine k_aload 1 rfl rfl rfl ?_
  refine x_gI hI 4 rfl oc4 rfl rfl rfl rfl (fun x1 (e2 : x1.toInt = F0 406) => ?_)
  refine k_push 5 rfl rfl ?_
  have hc3 : (4 : Int32).toInt = 4 := by decide
  by_cases b4 : x1 = (4 : Int32)
  · refine k_c2 8 rfl rfl (if_pos b4) ?_
    have b4 : F0 406 = 4 := by have h9 := iv_eq.mp b4; rw [e2] at h9; rw [hc3] at h9; exact h9
    refine k_aload 9 rfl rfl rfl ?_
    refine x_gF 11 hI 12 rfl rfl (by decide) rfl ?_
    refine k_xq hI rfl (xv_size hI.1 or11) rfl rfl rfl (ty_H.rc3 hI.T or11) hL so_n ?_
    rintro x5 h6 c7 s8 F9 A10 I11 L12 ⟨e13, rfl, rfl⟩
    show am_Ok _ _ _ (15, _, [.inl x5], _, c7, s8) _
    by_cases b14 : x5 = 0
    · refine k_c1 18 rfl rfl (if_pos b14) ?_
      have b14 : (((A0 11).length : Nat) : Int) = 0 := by have h9 := iv_eq0.mp b14; rw [e13] at h9; exact h9
      refine k_push 19 rfl rfl ?_
      have hc15 : (1 : Int32).toInt = 1 := by decide
      refine k_goto 23 rfl rfl ?_
      exact k_fin rfl (fin_Z (Or.inr rfl)) ⟨_, _, _, _, _, _, rfl, I11, (by unfold p_X6_isWhole; rw [if_pos b4, if_pos b14]; exact hc15), (by unfold p_X6_isWhole; rw [if_pos b4, if_pos b14]), (by unfold p_X6_isWhole; rw [if_pos b4, if_pos b14])⟩
    · refine k_c1 22 rfl rfl (if_neg b14) ?_
      have b14 : ¬ ((((A0 11).length : Nat) : Int) = 0) := by have h9 := mt iv_eq0.mpr b14; rw [e13] at h9; exact h9
      refine k_push 23 rfl rfl ?_
      have hc16 : (0 : Int32).toInt = 0 := by decide
      exact k_fin rfl (fin_Z (Or.inl rfl)) ⟨_, _, _, _, _, _, rfl, I11, (by unfold p_X6_isWhole; rw [if_pos b4, if_neg b14]; exact hc16), (by unfold p_X6_isWhole; rw [if_pos b4, if_neg b14]), (by unfold p_X6_isWhole; rw [if_pos b4, if_neg b14])⟩
  · refine k_c2 22 rfl rfl (if_neg b4) ?_
    have b4 : ¬ (F0 406 = 4) := by have h9 := mt iv_eq.mpr b4; rw [e2] at h9; rw [hc3] at h9; exact h9
    refine k_push 23 rfl rfl ?_
    have hc17 : (0 : Int32).toInt = 0 := by decide
    exact k_fin rfl (fin_Z (Or.inl rfl)) ⟨_, _, _, _, _, _, rfl, hI, (by unfold p_X6_isWhole; rw [if_neg b4]; exact hc17), (by unfold p_X6_isWhole; rw [if_neg b4]), (by unfold p_X6_isWhole; rw [if_neg b4])⟩
def p_X6_beginAtom  (F0 : rf_f) (A0 : xl_A) : Int × rf_f × xl_A := if F0 408 = 0 then (0, (up1 (up1 F0 407 ((((A0 5).length : Nat) : Int))) 408 (bm (F0 408 + 1))), A0) else (0, (up1 F0 408 (bm (F0 408 + 1))), (insl 5 A0 (F0 407) (0)))
theorem n_X6_beginAtom {h0 : am_h} {F0 : rf_f} {A0 : xl_A}   (hR : xR h0 F0 A0) : am_Mt 3 103 [.inr (.inr (some 4))] h0 (xV h0 (fun F' A' => F' = (p_X6_beginAtom F0 A0).2.1 ∧ A' = (p_X6_beginAtom F0 A0).2.2)) := by
  refine am_Mt.of (D := 2) ?_
  have hI : xI h0 (ob_P h0) h0 0 0 F0 A0 := xI.start hR
  have hL : am_okL h0.length (am_args 0 [.inr (.inr (some 4))]) = true := (okA_r hI.T oc4 okA_n)
  refine k_aload 1 rfl rfl rfl ?_
  refine x_gI hI 4 rfl oc4 rfl rfl rfl rfl (fun x1 (e2 : x1.toInt = F0 408) => ?_)
  by_cases b3 : x1 = 0
  · refine k_c1 7 rfl rfl (if_pos b3) ?_
    have b3 : F0 408 = 0 := by have h9 := iv_eq0.mp b3; rw [e2] at h9; exact h9
    refine k_aload 8 rfl rfl rfl ?_
    refine k_aload 9 rfl rfl rfl ?_
    refine x_gF 5 hI 12 rfl rfl (by decide) rfl ?_
    refine k_xq hI rfl (xv_size hI.1 or5) rfl rfl rfl (ty_H.rc3 hI.T or5) hL (xo_r hI oc4 so_n) ?_
    rintro x4 h5 c6 s7 F8 A9 I10 L11 ⟨e12, rfl, rfl⟩
    show am_Ok _ _ _ (15, _, [.inl x4, .inr (.inr (some 4))], _, c6, s7) _
    refine x_pI (fx_ok := fx_no rfl) I10 18 rfl oc4 rfl rfl rfl rfl (fun h13 I14 l15 => ?_)
    have L16 := okL_eq l15 L11
    have I17 : xI h0 (ob_P h0) h13 c6 s7 (up1 F0 407 ((((A0 5).length : Nat) : Int))) A0 := by have h9 := I14; rw [e12] at h9; exact h9
    refine k_goto 33 rfl rfl ?_
    refine k_aload 34 rfl rfl rfl ?_
    refine k_dup 35 rfl rfl rfl ?_
    refine x_gI I17 38 rfl oc4 rfl rfl rfl rfl (fun x18 (e19 : x18.toInt = F0 408) => ?_)
    refine k_push 39 rfl rfl ?_
    have hc20 : (1 : Int32).toInt = 1 := by decide
    obtain ⟨x21, q22⟩ : ∃ q : Int32, q = x18 + (1 : Int32) := ⟨_, rfl⟩
    have e23 : x21.toInt = bm (F0 408 + 1) := bm_add q22 e19 hc20
    refine k_bin x21 40 rfl q22.symm rfl ?_
    refine x_pI (fx_ok := fx_no rfl) I17 43 rfl oc4 rfl rfl rfl rfl (fun h24 I25 l26 => ?_)
    have L27 := okL_eq l26 L16
    have I28 : xI h0 (ob_P h0) h24 c6 s7 (up1 (up1 F0 407 ((((A0 5).length : Nat) : Int))) 408 (bm (F0 408 + 1))) A0 := by have h9 := I25; rw [e23] at h9; exact h9
    exact k_fin rfl rfl ⟨_, _, _, _, _, rfl, I28, (by unfold p_X6_beginAtom; rw [if_pos b3]), (by unfold p_X6_beginAtom; rw [if_pos b3])⟩
  · refine k_c1 21 rfl rfl (if_neg b3) ?_
    have b3 : ¬ (F0 408 = 0) := by have h9 := mt iv_eq0.mpr b3; rw [e2] at h9; exact h9
    refine k_aload 22 rfl rfl rfl ?_
    refine x_gF 5 hI 25 rfl rfl (by decide) rfl ?_
    refine k_aload 26 rfl rfl rfl ?_
    refine x_gI hI 29 rfl oc4 rfl rfl rfl rfl (fun x29 (e30 : x29.toInt = F0 407) => ?_)
    refine k_push 30 rfl rfl ?_
    have hc31 : (0 : Int32).toInt = 0 := by decide
    refine k_xv hI rfl (y_insert e30 hc31 hI.1 or5) rfl rfl rfl (ty_H.rc3 hI.T or5) hL so_n ?_
    rintro h33 c34 s35 F36 A37 I38 L39 ⟨rfl, rfl⟩
    show am_Ok _ _ _ (33, _, [], _, c34, s35) _
    refine k_aload 34 rfl rfl rfl ?_
    refine k_dup 35 rfl rfl rfl ?_
    refine x_gI I38 38 rfl oc4 rfl rfl rfl rfl (fun x41 (e42 : x41.toInt = F0 408) => ?_)
    refine k_push 39 rfl rfl ?_
    have hc43 : (1 : Int32).toInt = 1 := by decide
    obtain ⟨x44, q45⟩ : ∃ q : Int32, q = x41 + (1 : Int32) := ⟨_, rfl⟩
    have e46 : x44.toInt = bm (F0 408 + 1) := bm_add q45 e42 hc43
    refine k_bin x44 40 rfl q45.symm rfl ?_
    refine x_pI (fx_ok := fx_no rfl) I38 43 rfl oc4 rfl rfl rfl rfl (fun h47 I48 l49 => ?_)
    have L50 := okL_eq l49 L39
    have I51 : xI h0 (ob_P h0) h47 c34 s35 (up1 F0 408 (bm (F0 408 + 1))) (insl 5 A0 (F0 407) (0)) := by have h9 := I48; rw [e46] at h9; exact h9
    exact k_fin rfl rfl ⟨_, _, _, _, _, rfl, I51, (by unfold p_X6_beginAtom; rw [if_neg b3]), (by unfold p_X6_beginAtom; rw [if_neg b3])⟩
def p_X6_beginItem  (F0 : rf_f) (A0 : xl_A) : Int × rf_f × xl_A := (0, (up1 ((up1 (up1 F0 408 (0)) 409 ((((A0 5).length : Nat) : Int)))) 406 (0)), (upl A0 9 (cutl (A0 9) (0))))
theorem n_X6_beginItem {h0 : am_h} {F0 : rf_f} {A0 : xl_A}   (hR : xR h0 F0 A0) : am_Mt 2 100 [.inr (.inr (some 4))] h0 (xV h0 (fun F' A' => F' = (p_X6_beginItem F0 A0).2.1 ∧ A' = (p_X6_beginItem F0 A0).2.2)) := by
  refine am_Mt.of (D := 1) ?_
  have hI : xI h0 (ob_P h0) h0 0 0 F0 A0 := xI.start hR
  have hL : am_okL h0.length (am_args 0 [.inr (.inr (some 4))]) = true := (okA_r hI.T oc4 okA_n)
  refine k_aload 1 rfl rfl rfl ?_
  refine x_gF 9 hI 4 rfl rfl (by decide) rfl ?_
  refine k_push 5 rfl rfl ?_
  have hc1 : (0 : Int32).toInt = 0 := by decide
  refine k_xv hI rfl (y_cut hc1 hI.1 or9) rfl rfl rfl (ty_H.rc3 hI.T or9) hL so_n ?_
  rintro h3 c4 s5 F6 A7 I8 L9 ⟨rfl, rfl⟩
  show am_Ok _ _ _ (8, _, [], _, c4, s5) _
  refine k_aload 9 rfl rfl rfl ?_
  refine k_push 10 rfl rfl ?_
  refine x_pI (fx_ok := fx_no rfl) I8 13 rfl oc4 rfl rfl rfl rfl (fun h11 I12 l13 => ?_)
  have L14 := okL_eq l13 L9
  have I15 : xI h0 (ob_P h0) h11 c4 s5 (up1 F0 408 (0)) (upl A0 9 (cutl (A0 9) (0))) := by have h9 := I12; rw [hc1] at h9; exact h9
  refine k_aload 14 rfl rfl rfl ?_
  refine k_aload 15 rfl rfl rfl ?_
  refine x_gF 5 I15 18 rfl rfl (by decide) rfl ?_
  refine k_xq I15 rfl (xv_size I15.1 or5) rfl rfl rfl (ty_H.rc3 I15.T or5) L14 (xo_r I15 oc4 so_n) ?_
  rintro x16 h17 c18 s19 F20 A21 I22 L23 ⟨e24, rfl, rfl⟩
  show am_Ok _ _ _ (21, _, [.inl x16, .inr (.inr (some 4))], _, c18, s19) _
  refine x_pI (fx_ok := fx_no rfl) I22 24 rfl oc4 rfl rfl rfl rfl (fun h25 I26 l27 => ?_)
  have L28 := okL_eq l27 L23
  have I29 : xI h0 (ob_P h0) h25 c18 s19 (up1 (up1 F0 408 (0)) 409 ((((A0 5).length : Nat) : Int))) (upl A0 9 (cutl (A0 9) (0))) := by have h9 := I26; rw [e24] at h9; exact h9
  refine k_aload 25 rfl rfl rfl ?_
  refine k_push 26 rfl rfl ?_
  refine x_pI (fx_ok := fx_no rfl) I29 29 rfl oc4 rfl rfl rfl rfl (fun h30 I31 l32 => ?_)
  have L33 := okL_eq l32 L28
  have I34 : xI h0 (ob_P h0) h30 c18 s19 (up1 ((up1 (up1 F0 408 (0)) 409 ((((A0 5).length : Nat) : Int)))) 406 (0)) (upl A0 9 (cutl (A0 9) (0))) := by have h9 := I31; rw [hc1] at h9; exact h9
  exact k_fin rfl rfl ⟨_, _, _, _, _, rfl, I34, rfl, rfl⟩
def p_X6_takeFunction  (F0 : rf_f) (A0 : xl_A) : Int × rf_f × xl_A := if F0 406 = 0 then (0, (up1 F0 406 (2)), A0) else if F0 406 = 1 then (0, (up1 F0 406 (2)), A0) else (1, F0, A0)
theorem n_X6_takeFunction {h0 : am_h} {F0 : rf_f} {A0 : xl_A}   (hR : xR h0 F0 A0) : am_Mt 1 97 [.inr (.inr (some 4))] h0 (xQ h0 (fun x F' A' => x = (p_X6_takeFunction F0 A0).1 ∧ F' = (p_X6_takeFunction F0 A0).2.1 ∧ A' = (p_X6_takeFunction F0 A0).2.2)) := by
  refine am_Mt.of (D := 0) ?_
  have hI : xI h0 (ob_P h0) h0 0 0 F0 A0 := xI.start hR
  have hL : am_okL h0.length (am_args 0 [.inr (.inr (some 4))]) = true := (okA_r hI.T oc4 okA_n)
  refine k_aload 1 rfl rfl rfl ?_
  refine x_gI hI 4 rfl oc4 rfl rfl rfl rfl (fun x1 (e2 : x1.toInt = F0 406) => ?_)
  by_cases b3 : x1 = 0
  · refine k_c1 17 rfl rfl (if_pos b3) ?_
    have b3 : F0 406 = 0 := by have h9 := iv_eq0.mp b3; rw [e2] at h9; exact h9
    refine k_aload 18 rfl rfl rfl ?_
    refine k_push 19 rfl rfl ?_
    have hc4 : (2 : Int32).toInt = 2 := by decide
    refine x_pI (fx_ok := fx_no rfl) hI 22 rfl oc4 rfl rfl rfl rfl (fun h5 I6 l7 => ?_)
    have L8 := okL_eq l7 hL
    have I9 : xI h0 (ob_P h0) h5 0 0 (up1 F0 406 (2)) A0 := by have h9 := I6; rw [hc4] at h9; exact h9
    refine k_push 23 rfl rfl ?_
    have hc10 : (0 : Int32).toInt = 0 := by decide
    exact k_fin rfl rfl ⟨_, _, _, _, _, _, rfl, I9, (by unfold p_X6_takeFunction; rw [if_pos b3]; exact hc10), (by unfold p_X6_takeFunction; rw [if_pos b3]), (by unfold p_X6_takeFunction; rw [if_pos b3])⟩
  · refine k_c1 7 rfl rfl (if_neg b3) ?_
    have b3 : ¬ (F0 406 = 0) := by have h9 := mt iv_eq0.mpr b3; rw [e2] at h9; exact h9
    refine k_aload 8 rfl rfl rfl ?_
    refine x_gI hI 11 rfl oc4 rfl rfl rfl rfl (fun x11 (e12 : x11.toInt = F0 406) => ?_)
    refine k_push 12 rfl rfl ?_
    have hc13 : (1 : Int32).toInt = 1 := by decide
    by_cases b14 : x11 = (1 : Int32)
    · refine k_c2 17 rfl rfl (if_pos b14) ?_
      have b14 : F0 406 = 1 := by have h9 := iv_eq.mp b14; rw [e12] at h9; rw [hc13] at h9; exact h9
      refine k_aload 18 rfl rfl rfl ?_
      refine k_push 19 rfl rfl ?_
      have hc15 : (2 : Int32).toInt = 2 := by decide
      refine x_pI (fx_ok := fx_no rfl) hI 22 rfl oc4 rfl rfl rfl rfl (fun h16 I17 l18 => ?_)
      have L19 := okL_eq l18 hL
      have I20 : xI h0 (ob_P h0) h16 0 0 (up1 F0 406 (2)) A0 := by have h9 := I17; rw [hc15] at h9; exact h9
      refine k_push 23 rfl rfl ?_
      have hc21 : (0 : Int32).toInt = 0 := by decide
      exact k_fin rfl rfl ⟨_, _, _, _, _, _, rfl, I20, (by unfold p_X6_takeFunction; rw [if_neg b3, if_pos b14]; exact hc21), (by unfold p_X6_takeFunction; rw [if_neg b3, if_pos b14]), (by unfold p_X6_takeFunction; rw [if_neg b3, if_pos b14])⟩
    · refine k_c2 15 rfl rfl (if_neg b14) ?_
      have b14 : ¬ (F0 406 = 1) := by have h9 := mt iv_eq.mpr b14; rw [e12] at h9; rw [hc13] at h9; exact h9
      refine k_push 16 rfl rfl ?_
      exact k_fin rfl rfl ⟨_, _, _, _, _, _, rfl, hI, (by unfold p_X6_takeFunction; rw [if_neg b3, if_neg b14]; exact hc13), (by unfold p_X6_takeFunction; rw [if_neg b3, if_neg b14]), (by unfold p_X6_takeFunction; rw [if_neg b3, if_neg b14])⟩
def p_X6_takePoint  (F0 : rf_f) (A0 : xl_A) : Int × rf_f × xl_A := if F0 406 = 3 then (0, (up1 F0 406 (1)), A0) else (1, F0, A0)
theorem n_X6_takePoint {h0 : am_h} {F0 : rf_f} {A0 : xl_A}   (hR : xR h0 F0 A0) : am_Mt 1 98 [.inr (.inr (some 4))] h0 (xQ h0 (fun x F' A' => x = (p_X6_takePoint F0 A0).1 ∧ F' = (p_X6_takePoint F0 A0).2.1 ∧ A' = (p_X6_takePoint F0 A0).2.2)) := by
  refine am_Mt.of (D := 0) ?_
  have hI : xI h0 (ob_P h0) h0 0 0 F0 A0 := xI.start hR
  have hL : am_okL h0.length (am_args 0 [.inr (.inr (some 4))]) = true := (okA_r hI.T oc4 okA_n)
  refine k_aload 1 rfl rfl rfl ?_
  refine x_gI hI 4 rfl oc4 rfl rfl rfl rfl (fun x1 (e2 : x1.toInt = F0 406) => ?_)
  refine k_push 5 rfl rfl ?_
  have hc3 : (3 : Int32).toInt = 3 := by decide
  by_cases b4 : x1 = (3 : Int32)
  · refine k_c2 10 rfl rfl (if_pos b4) ?_
    have b4 : F0 406 = 3 := by have h9 := iv_eq.mp b4; rw [e2] at h9; rw [hc3] at h9; exact h9
    refine k_aload 11 rfl rfl rfl ?_
    refine k_push 12 rfl rfl ?_
    have hc5 : (1 : Int32).toInt = 1 := by decide
    refine x_pI (fx_ok := fx_no rfl) hI 15 rfl oc4 rfl rfl rfl rfl (fun h6 I7 l8 => ?_)
    have L9 := okL_eq l8 hL
    have I10 : xI h0 (ob_P h0) h6 0 0 (up1 F0 406 (1)) A0 := by have h9 := I7; rw [hc5] at h9; exact h9
    refine k_push 16 rfl rfl ?_
    have hc11 : (0 : Int32).toInt = 0 := by decide
    exact k_fin rfl rfl ⟨_, _, _, _, _, _, rfl, I10, (by unfold p_X6_takePoint; rw [if_pos b4]; exact hc11), (by unfold p_X6_takePoint; rw [if_pos b4]), (by unfold p_X6_takePoint; rw [if_pos b4])⟩
  · refine k_c2 8 rfl rfl (if_neg b4) ?_
    have b4 : ¬ (F0 406 = 3) := by have h9 := mt iv_eq.mpr b4; rw [e2] at h9; rw [hc3] at h9; exact h9
    refine k_push 9 rfl rfl ?_
    have hc12 : (1 : Int32).toInt = 1 := by decide
    exact k_fin rfl rfl ⟨_, _, _, _, _, _, rfl, hI, (by unfold p_X6_takePoint; rw [if_neg b4]; exact hc12), (by unfold p_X6_takePoint; rw [if_neg b4]), (by unfold p_X6_takePoint; rw [if_neg b4])⟩
def p_X6_takeClosing  (F0 : rf_f) (A0 : xl_A) : Int × rf_f × xl_A := if F0 406 = 4 then if (((A0 11).length : Nat) : Int) = 0 then (1, F0, A0) else (0, (up1 (up1 F0 408 (((A0 11).dropLast).getLastD 0)) 407 ((((A0 11).dropLast).dropLast).getLastD 0)), (upl ((upl ((upl (upl A0 11 (A0 11).dropLast) 9 (cutl (A0 9) ((A0 11).getLastD 0)))) 11 ((A0 11).dropLast).dropLast)) 11 (((A0 11).dropLast).dropLast).dropLast)) else (1, F0, A0)
theorem n_X6_takeClosing {h0 : am_h} {F0 : rf_f} {A0 : xl_A}   (hR : xR h0 F0 A0) : am_Mt 2 96 [.inr (.inr (some 4))] h0 (xQ h0 (fun x F' A' => x = (p_X6_takeClosing F0 A0).1 ∧ F' = (p_X6_takeClosing F0 A0).2.1 ∧ A' = (p_X6_takeClosing F0 A0).2.2)) := by
  refine am_Mt.of (D := 1) ?_
  have hI : xI h0 (ob_P h0) h0 0 0 F0 A0 := xI.start hR
  have hL : am_okL h0.length (am_args 0 [.inr (.inr (some 4))]) = true := (okA_r hI.T oc4 okA_n)
  refine k_aload 1 rfl rfl rfl ?_
  refine x_gI hI 4 rfl oc4 rfl rfl rfl rfl (fun x1 (e2 : x1.toInt = F0 406) => ?_)
  refine k_push 5 rfl rfl ?_
  have hc3 : (4 : Int32).toInt = 4 := by decide
  by_cases b4 : x1 = (4 : Int32)
  · refine k_c2 8 rfl rfl (if_pos b4) ?_
    have b4 : F0 406 = 4 := by have h9 := iv_eq.mp b4; rw [e2] at h9; rw [hc3] at h9; exact h9
    refine k_aload 9 rfl rfl rfl ?_
    refine x_gF 11 hI 12 rfl rfl (by decide) rfl ?_
    refine k_xq hI rfl (xv_size hI.1 or11) rfl rfl rfl (ty_H.rc3 hI.T or11) hL so_n ?_
    rintro x5 h6 c7 s8 F9 A10 I11 L12 ⟨e13, rfl, rfl⟩
    show am_Ok _ _ _ (15, _, [.inl x5], _, c7, s8) _
    by_cases b14 : x5 = 0
    · refine k_c1 18 rfl rfl (if_pos b14) ?_
      have b14 : (((A0 11).length : Nat) : Int) = 0 := by have h9 := iv_eq0.mp b14; rw [e13] at h9; exact h9
      refine k_push 19 rfl rfl ?_
      have hc15 : (1 : Int32).toInt = 1 := by decide
      exact k_fin rfl rfl ⟨_, _, _, _, _, _, rfl, I11, (by unfold p_X6_takeClosing; rw [if_pos b4, if_pos b14]; exact hc15), (by unfold p_X6_takeClosing; rw [if_pos b4, if_pos b14]), (by unfold p_X6_takeClosing; rw [if_pos b4, if_pos b14])⟩
    · refine k_c1 20 rfl rfl (if_neg b14) ?_
      have b14 : ¬ ((((A0 11).length : Nat) : Int) = 0) := by have h9 := mt iv_eq0.mpr b14; rw [e13] at h9; exact h9
      refine k_aload 21 rfl rfl rfl ?_
      refine x_gF 9 I11 24 rfl rfl (by decide) rfl ?_
      refine k_aload 25 rfl rfl rfl ?_
      refine x_gF 11 I11 28 rfl rfl (by decide) rfl ?_
      refine k_xq I11 rfl (xv_takeLast I11.1 or11) rfl rfl rfl (ty_H.rc3 I11.T or11) L12 (xo_r I11 ol9 so_n) ?_
      rintro x16 h17 c18 s19 F20 A21 I22 L23 ⟨e24, rfl, rfl⟩
      show am_Ok _ _ _ (31, _, [.inl x16, .inr (.inr (some 9))], _, c18, s19) _
      refine k_xv I22 rfl (y_cut e24 I22.1 or9) rfl rfl rfl (ty_H.rc3 I22.T or9) L23 so_n ?_
      rintro h26 c27 s28 F29 A30 I31 L32 ⟨rfl, rfl⟩
      show am_Ok _ _ _ (34, _, [], _, c27, s28) _
      refine k_aload 35 rfl rfl rfl ?_
      refine k_aload 36 rfl rfl rfl ?_
      refine x_gF 11 I31 39 rfl rfl (by decide) rfl ?_
      refine k_xq I31 rfl (xv_takeLast I31.1 or11) rfl rfl rfl (ty_H.rc3 I31.T or11) L32 (xo_r I31 oc4 so_n) ?_
      rintro x34 h35 c36 s37 F38 A39 I40 L41 ⟨e42, rfl, rfl⟩
      show am_Ok _ _ _ (42, _, [.inl x34, .inr (.inr (some 4))], _, c36, s37) _
      refine x_pI (fx_ok := fx_no rfl) I40 45 rfl oc4 rfl rfl rfl rfl (fun h43 I44 l45 => ?_)
      have L46 := okL_eq l45 L41
      have I47 : xI h0 (ob_P h0) h43 c36 s37 (up1 F0 408 (((A0 11).dropLast).getLastD 0)) (upl ((upl (upl A0 11 (A0 11).dropLast) 9 (cutl (A0 9) ((A0 11).getLastD 0)))) 11 ((A0 11).dropLast).dropLast) := by have h9 := I44; rw [e42] at h9; exact h9
      refine k_aload 46 rfl rfl rfl ?_
      refine k_aload 47 rfl rfl rfl ?_
      refine x_gF 11 I47 50 rfl rfl (by decide) rfl ?_
      refine k_xq I47 rfl (xv_takeLast I47.1 or11) rfl rfl rfl (ty_H.rc3 I47.T or11) L46 (xo_r I47 oc4 so_n) ?_
      rintro x48 h49 c50 s51 F52 A53 I54 L55 ⟨e56, rfl, rfl⟩
      show am_Ok _ _ _ (53, _, [.inl x48, .inr (.inr (some 4))], _, c50, s51) _
      refine x_pI (fx_ok := fx_no rfl) I54 56 rfl oc4 rfl rfl rfl rfl (fun h57 I58 l59 => ?_)
      have L60 := okL_eq l59 L55
      have I61 : xI h0 (ob_P h0) h57 c50 s51 (up1 (up1 F0 408 (((A0 11).dropLast).getLastD 0)) 407 ((((A0 11).dropLast).dropLast).getLastD 0)) (upl ((upl ((upl (upl A0 11 (A0 11).dropLast) 9 (cutl (A0 9) ((A0 11).getLastD 0)))) 11 ((A0 11).dropLast).dropLast)) 11 (((A0 11).dropLast).dropLast).dropLast) := by have h9 := I58; rw [e56] at h9; exact h9
      refine k_push 57 rfl rfl ?_
      have hc62 : (0 : Int32).toInt = 0 := by decide
      exact k_fin rfl rfl ⟨_, _, _, _, _, _, rfl, I61, (by unfold p_X6_takeClosing; rw [if_pos b4, if_neg b14]; exact hc62), (by unfold p_X6_takeClosing; rw [if_pos b4, if_neg b14]), (by unfold p_X6_takeClosing; rw [if_pos b4, if_neg b14])⟩
  · refine k_c2 18 rfl rfl (if_neg b4) ?_
    have b4 : ¬ (F0 406 = 4) := by have h9 := mt iv_eq.mpr b4; rw [e2] at h9; rw [hc3] at h9; exact h9
    refine k_push 19 rfl rfl ?_
    have hc63 : (1 : Int32).toInt = 1 := by decide
    exact k_fin rfl rfl ⟨_, _, _, _, _, _, rfl, hI, (by unfold p_X6_takeClosing; rw [if_neg b4]; exact hc63), (by unfold p_X6_takeClosing; rw [if_neg b4]), (by unfold p_X6_takeClosing; rw [if_neg b4])⟩
def p_X6_takeOpening  (F0 : rf_f) (A0 : xl_A) : Int × rf_f × xl_A := if (p_X6_isAtomDue F0 A0).1 = 0 then (1, (p_X6_isAtomDue F0 A0).2.1, (p_X6_isAtomDue F0 A0).2.2) else if ((((p_X6_isAtomDue F0 A0).2.2 11).length : Nat) : Int) < 36 then (0, (up1 ((up1 ((p_X6_beginAtom ((p_X6_isAtomDue F0 A0).2.1) ((p_X6_isAtomDue F0 A0).2.2)).2.1) 408 (0))) 406 (1)), (addl 11 ((addl 11 ((addl 11 ((p_X6_beginAtom ((p_X6_isAtomDue F0 A0).2.1) ((p_X6_isAtomDue F0 A0).2.2)).2.2) ((p_X6_beginAtom ((p_X6_isAtomDue F0 A0).2.1) ((p_X6_isAtomDue F0 A0).2.2)).2.1 407))) ((p_X6_beginAtom ((p_X6_isAtomDue F0 A0).2.1) ((p_X6_isAtomDue F0 A0).2.2)).2.1 408))) (((((addl 11 ((addl 11 ((p_X6_beginAtom ((p_X6_isAtomDue F0 A0).2.1) ((p_X6_isAtomDue F0 A0).2.2)).2.2) ((p_X6_beginAtom ((p_X6_isAtomDue F0 A0).2.1) ((p_X6_isAtomDue F0 A0).2.2)).2.1 407))) ((p_X6_beginAtom ((p_X6_isAtomDue F0 A0).2.1) ((p_X6_isAtomDue F0 A0).2.2)).2.1 408)) 9).length : Nat) : Int)))) else (2, (p_X6_isAtomDue F0 A0).2.1, (p_X6_isAtomDue F0 A0).2.2)
theorem n_X6_takeOpening {h0 : am_h} {F0 : rf_f} {A0 : xl_A}   (hR : xR h0 F0 A0) : am_Mt 4 95 [.inr (.inr (some 4))] h0 (xQ h0 (fun x F' A' => x = (p_X6_takeOpening F0 A0).1 ∧ F' = (p_X6_takeOpening F0 A0).2.1 ∧ A' = (p_X6_takeOpening F0 A0).2.2)) := by
  refine am_Mt.of (D := 3) ?_
  have hI : xI h0 (ob_P h0) h0 0 0 F0 A0 := xI.start hR
  have hL : am_okL h0.length (am_args 0 [.inr (.inr (some 4))]) = true := (okA_r hI.T oc4 okA_n)
  refine k_aload 1 rfl rfl rfl ?_
  refine k_xq hI rfl (n_X6_isAtomDue   hI.1) rfl rfl rfl (hI.T.rc oc4 rfl) hL so_n ?_
  rintro x1 h2 c3 s4 F5 A6 I7 L8 ⟨e9, rfl, rfl⟩
  have z10 := iv_01 (x := x1) (by rw [e9]; exact z_X6_isAtomDue)
  show am_Ok _ _ _ (4, _, [.inl x1], _, c3, s4) _
  by_cases b11 : x1 = 0
  · refine k_c1 7 rfl rfl (if_pos b11) ?_
    have b11 : (p_X6_isAtomDue F0 A0).1 = 0 := by have h9 := iv_eq0.mp b11; rw [e9] at h9; exact h9
    refine k_push 8 rfl rfl ?_
    have hc12 : (1 : Int32).toInt = 1 := by decide
    exact k_fin rfl rfl ⟨_, _, _, _, _, _, rfl, I7, (by unfold p_X6_takeOpening; rw [if_pos b11]; exact hc12), (by unfold p_X6_takeOpening; rw [if_pos b11]), (by unfold p_X6_takeOpening; rw [if_pos b11])⟩
  · refine k_c1 9 rfl rfl (if_neg b11) ?_
    have b11 : ¬ ((p_X6_isAtomDue F0 A0).1 = 0) := by have h9 := mt iv_eq0.mpr b11; rw [e9] at h9; exact h9
    refine k_aload 10 rfl rfl rfl ?_
    refine x_gF 11 I7 13 rfl rfl (by decide) rfl ?_
    refine k_xq I7 rfl (xv_size I7.1 or11) rfl rfl rfl (ty_H.rc3 I7.T or11) L8 so_n ?_
    rintro x13 h14 c15 s16 F17 A18 I19 L20 ⟨e21, rfl, rfl⟩
    show am_Ok _ _ _ (16, _, [.inl x13], _, c15, s16) _
    refine k_push 18 rfl rfl ?_
    have hc22 : (36 : Int32).toInt = 36 := by decide
    by_cases b23 : x13 < (36 : Int32)
    · refine k_c2 23 rfl rfl (if_pos b23) ?_
      have b23 : ((((p_X6_isAtomDue F0 A0).2.2 11).length : Nat) : Int) < 36 := by have h9 := iv_lt.mp b23; rw [e21] at h9; rw [hc22] at h9; exact h9
      refine k_aload 24 rfl rfl rfl ?_
      refine k_xv I19 rfl (n_X6_beginAtom   I19.1) rfl rfl rfl (I19.T.rc oc4 rfl) L20 so_n ?_
      rintro h25 c26 s27 F28 A29 I30 L31 ⟨rfl, rfl⟩
      show am_Ok _ _ _ (27, _, [], _, c26, s27) _
      refine k_aload 28 rfl rfl rfl ?_
      refine x_gF 11 I30 31 rfl rfl (by decide) rfl ?_
      refine k_aload 32 rfl rfl rfl ?_
      refine x_gI I30 35 rfl oc4 rfl rfl rfl rfl (fun x33 (e34 : x33.toInt = (p_X6_beginAtom ((p_X6_isAtomDue F0 A0).2.1) ((p_X6_isAtomDue F0 A0).2.2)).2.1 407) => ?_)
      refine k_xq I30 rfl (y_add e34 I30.1 or11) rfl rfl rfl (ty_H.rc3 I30.T or11) L31 so_n ?_
      rintro x35 h36 c37 s38 F39 A40 I41 L42 ⟨e43, rfl, rfl⟩
      have z44 := iv_01 (x := x35) (by rw [e43]; exact (addr_01))
      show am_Ok _ _ _ (38, _, [.inl x35], _, c37, s38) _
      refine k_pop 39 rfl rfl rfl ?_
      refine k_aload 40 rfl rfl rfl ?_
      refine x_gF 11 I41 43 rfl rfl (by decide) rfl ?_
      refine k_aload 44 rfl rfl rfl ?_
      refine x_gI I41 47 rfl oc4 rfl rfl rfl rfl (fun x45 (e46 : x45.toInt = (p_X6_beginAtom ((p_X6_isAtomDue F0 A0).2.1) ((p_X6_isAtomDue F0 A0).2.2)).2.1 408) => ?_)
      refine k_xq I41 rfl (y_add e46 I41.1 or11) rfl rfl rfl (ty_H.rc3 I41.T or11) L42 so_n ?_
      rintro x47 h48 c49 s50 F51 A52 I53 L54 ⟨e55, rfl, rfl⟩
      have z56 := iv_01 (x := x47) (by rw [e55]; exact (addr_01))
      show am_Ok _ _ _ (50, _, [.inl x47], _, c49, s50) _
      refine k_pop 51 rfl rfl rfl ?_
      refine k_aload 52 rfl rfl rfl ?_
      refine x_gF 11 I53 55 rfl rfl (by decide) rfl ?_
      refine k_aload 56 rfl rfl rfl ?_
      refine x_gF 9 I53 59 rfl rfl (by decide) rfl ?_
      refine k_xq I53 rfl (xv_size I53.1 or9) rfl rfl rfl (ty_H.rc3 I53.T or9) L54 (xo_r I53 ol11 so_n) ?_
      rintro x57 h58 c59 s60 F61 A62 I63 L64 ⟨e65, rfl, rfl⟩
      show am_Ok _ _ _ (62, _, [.inl x57, .inr (.inr (some 11))], _, c59, s60) _
      refine k_xq I63 rfl (y_add e65 I63.1 or11) rfl rfl rfl (ty_H.rc3 I63.T or11) L64 so_n ?_
      rintro x66 h67 c68 s69 F70 A71 I72 L73 ⟨e74, rfl, rfl⟩
      have z75 := iv_01 (x := x66) (by rw [e74]; exact (addr_01))
      show am_Ok _ _ _ (65, _, [.inl x66], _, c68, s69) _
      refine k_pop 66 rfl rfl rfl ?_
      refine k_aload 67 rfl rfl rfl ?_
      refine k_push 68 rfl rfl ?_
      have hc76 : (0 : Int32).toInt = 0 := by decide
      refine x_pI (fx_ok := fx_no rfl) I72 71 rfl oc4 rfl rfl rfl rfl (fun h77 I78 l79 => ?_)
      have L80 := okL_eq l79 L73
      have I81 : xI h0 (ob_P h0) h77 c68 s69 (up1 ((p_X6_beginAtom ((p_X6_isAtomDue F0 A0).2.1) ((p_X6_isAtomDue F0 A0).2.2)).2.1) 408 (0)) (addl 11 ((addl 11 ((addl 11 ((p_X6_beginAtom ((p_X6_isAtomDue F0 A0).2.1) ((p_X6_isAtomDue F0 A0).2.2)).2.2) ((p_X6_beginAtom ((p_X6_isAtomDue F0 A0).2.1) ((p_X6_isAtomDue F0 A0).2.2)).2.1 407))) ((p_X6_beginAtom ((p_X6_isAtomDue F0 A0).2.1) ((p_X6_isAtomDue F0 A0).2.2)).2.1 408))) (((((addl 11 ((addl 11 ((p_X6_beginAtom ((p_X6_isAtomDue F0 A0).2.1) ((p_X6_isAtomDue F0 A0).2.2)).2.2) ((p_X6_beginAtom ((p_X6_isAtomDue F0 A0).2.1) ((p_X6_isAtomDue F0 A0).2.2)).2.1 407))) ((p_X6_beginAtom ((p_X6_isAtomDue F0 A0).2.1) ((p_X6_isAtomDue F0 A0).2.2)).2.1 408)) 9).length : Nat) : Int))) := by have h9 := I78; rw [hc76] at h9; exact h9
      refine k_aload 72 rfl rfl rfl ?_
      refine k_push 73 rfl rfl ?_
      have hc82 : (1 : Int32).toInt = 1 := by decide
      refine x_pI (fx_ok := fx_no rfl) I81 76 rfl oc4 rfl rfl rfl rfl (fun h83 I84 l85 => ?_)
      have L86 := okL_eq l85 L80
      have I87 : xI h0 (ob_P h0) h83 c68 s69 (up1 ((up1 ((p_X6_beginAtom ((p_X6_isAtomDue F0 A0).2.1) ((p_X6_isAtomDue F0 A0).2.2)).2.1) 408 (0))) 406 (1)) (addl 11 ((addl 11 ((addl 11 ((p_X6_beginAtom ((p_X6_isAtomDue F0 A0).2.1) ((p_X6_isAtomDue F0 A0).2.2)).2.2) ((p_X6_beginAtom ((p_X6_isAtomDue F0 A0).2.1) ((p_X6_isAtomDue F0 A0).2.2)).2.1 407))) ((p_X6_beginAtom ((p_X6_isAtomDue F0 A0).2.1) ((p_X6_isAtomDue F0 A0).2.2)).2.1 408))) (((((addl 11 ((addl 11 ((p_X6_beginAtom ((p_X6_isAtomDue F0 A0).2.1) ((p_X6_isAtomDue F0 A0).2.2)).2.2) ((p_X6_beginAtom ((p_X6_isAtomDue F0 A0).2.1) ((p_X6_isAtomDue F0 A0).2.2)).2.1 407))) ((p_X6_beginAtom ((p_X6_isAtomDue F0 A0).2.1) ((p_X6_isAtomDue F0 A0).2.2)).2.1 408)) 9).length : Nat) : Int))) := by have h9 := I84; rw [hc82] at h9; exact h9
      refine k_push 77 rfl rfl ?_
      exact k_fin rfl rfl ⟨_, _, _, _, _, _, rfl, I87, (by unfold p_X6_takeOpening; rw [if_neg b11, if_pos b23]; exact hc76), (by unfold p_X6_takeOpening; rw [if_neg b11, if_pos b23]), (by unfold p_X6_takeOpening; rw [if_neg b11, if_pos b23])⟩
    · refine k_c2 21 rfl rfl (if_neg b23) ?_
      have b23 : ¬ (((((p_X6_isAtomDue F0 A0).2.2 11).length : Nat) : Int) < 36) := by have h9 := mt iv_lt.mpr b23; rw [e21] at h9; rw [hc22] at h9; exact h9
      refine k_push 22 rfl rfl ?_
      have hc88 : (2 : Int32).toInt = 2 := by decide
      exact k_fin rfl rfl ⟨_, _, _, _, _, _, rfl, I19, (by unfold p_X6_takeOpening; rw [if_neg b11, if_neg b23]; exact hc88), (by unfold p_X6_takeOpening; rw [if_neg b11, if_neg b23]), (by unfold p_X6_takeOpening; rw [if_neg b11, if_neg b23])⟩
def p_X6_takeNumber  (F0 : rf_f) (A0 : xl_A) : Int × rf_f × xl_A := if (p_X6_isAtomDue F0 A0).1 = 0 then (1, (p_X6_isAtomDue F0 A0).2.1, (p_X6_isAtomDue F0 A0).2.2) else if bm ((p_X7_end ((p_X6_isAtomDue F0 A0).2.1) ((p_X6_isAtomDue F0 A0).2.2)).1 - (p_X7_start ((p_X7_end ((p_X6_isAtomDue F0 A0).2.1) ((p_X6_isAtomDue F0 A0).2.2)).2.1) ((p_X7_end ((p_X6_isAtomDue F0 A0).2.1) ((p_X6_isAtomDue F0 A0).2.2)).2.2)).1) ≤ 1 then (0, (up1 ((p_X7_figure ((p_X6_beginAtom ((p_X7_start ((p_X7_end ((p_X6_isAtomDue F0 A0).2.1) ((p_X6_isAtomDue F0 A0).2.2)).2.1) ((p_X7_end ((p_X6_isAtomDue F0 A0).2.1) ((p_X6_isAtomDue F0 A0).2.2)).2.2)).2.1) ((p_X7_start ((p_X7_end ((p_X6_isAtomDue F0 A0).2.1) ((p_X6_isAtomDue F0 A0).2.2)).2.1) ((p_X7_end ((p_X6_isAtomDue F0 A0).2.1) ((p_X6_isAtomDue F0 A0).2.2)).2.2)).2.2)).2.1) ((p_X6_beginAtom ((p_X7_start ((p_X7_end ((p_X6_isAtomDue F0 A0).2.1) ((p_X6_isAtomDue F0 A0).2.2)).2.1) ((p_X7_end ((p_X6_isAtomDue F0 A0).2.1) ((p_X6_isAtomDue F0 A0).2.2)).2.2)).2.1) ((p_X7_start ((p_X7_end ((p_X6_isAtomDue F0 A0).2.1) ((p_X6_isAtomDue F0 A0).2.2)).2.1) ((p_X7_end ((p_X6_isAtomDue F0 A0).2.1) ((p_X6_isAtomDue F0 A0).2.2)).2.2)).2.2)).2.2)).2.1) 406 (4)), (addl 5 ((p_X7_figure ((p_X6_beginAtom ((p_X7_start ((p_X7_end ((p_X6_isAtomDue F0 A0).2.1) ((p_X6_isAtomDue F0 A0).2.2)).2.1) ((p_X7_end ((p_X6_isAtomDue F0 A0).2.1) ((p_X6_isAtomDue F0 A0).2.2)).2.2)).2.1) ((p_X7_start ((p_X7_end ((p_X6_isAtomDue F0 A0).2.1) ((p_X6_isAtomDue F0 A0).2.2)).2.1) ((p_X7_end ((p_X6_isAtomDue F0 A0).2.1) ((p_X6_isAtomDue F0 A0).2.2)).2.2)).2.2)).2.1) ((p_X6_beginAtom ((p_X7_start ((p_X7_end ((p_X6_isAtomDue F0 A0).2.1) ((p_X6_isAtomDue F0 A0).2.2)).2.1) ((p_X7_end ((p_X6_isAtomDue F0 A0).2.1) ((p_X6_isAtomDue F0 A0).2.2)).2.2)).2.1) ((p_X7_start ((p_X7_end ((p_X6_isAtomDue F0 A0).2.1) ((p_X6_isAtomDue F0 A0).2.2)).2.1) ((p_X7_end ((p_X6_isAtomDue F0 A0).2.1) ((p_X6_isAtomDue F0 A0).2.2)).2.2)).2.2)).2.2)).2.2) (bm ((-1) - (p_X7_figure ((p_X6_beginAtom ((p_X7_start ((p_X7_end ((p_X6_isAtomDue F0 A0).2.1) ((p_X6_isAtomDue F0 A0).2.2)).2.1) ((p_X7_end ((p_X6_isAtomDue F0 A0).2.1) ((p_X6_isAtomDue F0 A0).2.2)).2.2)).2.1) ((p_X7_start ((p_X7_end ((p_X6_isAtomDue F0 A0).2.1) ((p_X6_isAtomDue F0 A0).2.2)).2.1) ((p_X7_end ((p_X6_isAtomDue F0 A0).2.1) ((p_X6_isAtomDue F0 A0).2.2)).2.2)).2.2)).2.1) ((p_X6_beginAtom ((p_X7_start ((p_X7_end ((p_X6_isAtomDue F0 A0).2.1) ((p_X6_isAtomDue F0 A0).2.2)).2.1) ((p_X7_end ((p_X6_isAtomDue F0 A0).2.1) ((p_X6_isAtomDue F0 A0).2.2)).2.2)).2.1) ((p_X7_start ((p_X7_end ((p_X6_isAtomDue F0 A0).2.1) ((p_X6_isAtomDue F0 A0).2.2)).2.1) ((p_X7_end ((p_X6_isAtomDue F0 A0).2.1) ((p_X6_isAtomDue F0 A0).2.2)).2.2)).2.2)).2.2)).1)))) else (2, (p_X7_start ((p_X7_end ((p_X6_isAtomDue F0 A0).2.1) ((p_X6_isAtomDue F0 A0).2.2)).2.1) ((p_X7_end ((p_X6_isAtomDue F0 A0).2.1) ((p_X6_isAtomDue F0 A0).2.2)).2.2)).2.1, (p_X7_start ((p_X7_end ((p_X6_isAtomDue F0 A0).2.1) ((p_X6_isAtomDue F0 A0).2.2)).2.1) ((p_X7_end ((p_X6_isAtomDue F0 A0).2.1) ((p_X6_isAtomDue F0 A0).2.2)).2.2)).2.2)
theorem n_X6_takeNumber {h0 : am_h} {F0 : rf_f} {A0 : xl_A}   (hR : xR h0 F0 A0) : am_Mt 4 94 [.inr (.inr (some 4))] h0 (xQ h0 (fun x F' A' => x = (p_X6_takeNumber F0 A0).1 ∧ F' = (p_X6_takeNumber F0 A0).2.1 ∧ A' = (p_X6_takeNumber F0 A0).2.2)) := by
  refine am_Mt.of (D := 3) ?_
  have hI : xI h0 (ob_P h0) h0 0 0 F0 A0 := xI.start hR
  have hL : am_okL h0.length (am_args 0 [.inr (.inr (some 4))]) = true := (okA_r hI.T oc4 okA_n)
  refine k_aload 1 rfl rfl rfl ?_
  refine k_xq hI rfl (n_X6_isAtomDue   hI.1) rfl rfl rfl (hI.T.rc oc4 rfl) hL so_n ?_
  rintro x1 h2 c3 s4 F5 A6 I7 L8 ⟨e9, rfl, rfl⟩
  have z10 := iv_01 (x := x1) (by rw [e9]; exact z_X6_isAtomDue)
  show am_Ok _ _ _ (4, _, [.inl x1], _, c3, s4) _
  by_cases b11 : x1 = 0
  · refine k_c1 7 rfl rfl (if_pos b11) ?_
    have b11 : (p_X6_isAtomDue F0 A0).1 = 0 := by have h9 := iv_eq0.mp b11; rw [e9] at h9; exact h9
    refine k_push 8 rfl rfl ?_
    have hc12 : (1 : Int32).toInt = 1 := by decide
    exact k_fin rfl rfl ⟨_, _, _, _, _, _, rfl, I7, (by unfold p_X6_takeNumber; rw [if_pos b11]; exact hc12), (by unfold p_X6_takeNumber; rw [if_pos b11]), (by unfold p_X6_takeNumber; rw [if_pos b11])⟩
  · refine k_c1 9 rfl rfl (if_neg b11) ?_
    have b11 : ¬ ((p_X6_isAtomDue F0 A0).1 = 0) := by have h9 := mt iv_eq0.mpr b11; rw [e9] at h9; exact h9
    refine k_aload 10 rfl rfl rfl ?_
    refine x_gF 15 I7 13 rfl rfl (by decide) rfl ?_
    refine k_xq I7 rfl (n_X7_end   I7.1) rfl rfl rfl (I7.T.rc oc15 rfl) L8 so_n ?_
    rintro x13 h14 c15 s16 F17 A18 I19 L20 ⟨e21, rfl, rfl⟩
    show am_Ok _ _ _ (16, _, [.inl x13], _, c15, s16) _
    refine k_aload 17 rfl rfl rfl ?_
    refine x_gF 15 I19 20 rfl rfl (by decide) rfl ?_
    refine k_xq I19 rfl (n_X7_start   I19.1) rfl rfl rfl (I19.T.rc oc15 rfl) L20 (so_i so_n) ?_
    rintro x22 h23 c24 s25 F26 A27 I28 L29 ⟨e30, rfl, rfl⟩
    show am_Ok _ _ _ (23, _, [.inl x22, .inl x13], _, c24, s25) _
    obtain ⟨x31, q32⟩ : ∃ q : Int32, q = x13 - x22 := ⟨_, rfl⟩
    have e33 : x31.toInt = bm ((p_X7_end ((p_X6_isAtomDue F0 A0).2.1) ((p_X6_isAtomDue F0 A0).2.2)).1 - (p_X7_start ((p_X7_end ((p_X6_isAtomDue F0 A0).2.1) ((p_X6_isAtomDue F0 A0).2.2)).2.1) ((p_X7_end ((p_X6_isAtomDue F0 A0).2.1) ((p_X6_isAtomDue F0 A0).2.2)).2.2)).1) := bm_sub q32 e21 e30
    refine k_bin x31 24 rfl q32.symm rfl ?_
    refine k_push 25 rfl rfl ?_
    have hc34 : (1 : Int32).toInt = 1 := by decide
    by_cases b35 : x31 ≤ (1 : Int32)
    · refine k_c2 30 rfl rfl (if_pos b35) ?_
      have b35 : bm ((p_X7_end ((p_X6_isAtomDue F0 A0).2.1) ((p_X6_isAtomDue F0 A0).2.2)).1 - (p_X7_start ((p_X7_end ((p_X6_isAtomDue F0 A0).2.1) ((p_X6_isAtomDue F0 A0).2.2)).2.1) ((p_X7_end ((p_X6_isAtomDue F0 A0).2.1) ((p_X6_isAtomDue F0 A0).2.2)).2.2)).1) ≤ 1 := by have h9 := iv_le.mp b35; rw [e33] at h9; rw [hc34] at h9; exact h9
      refine k_aload 31 rfl rfl rfl ?_
      refine k_xv I28 rfl (n_X6_beginAtom   I28.1) rfl rfl rfl (I28.T.rc oc4 rfl) L29 so_n ?_
      rintro h37 c38 s39 F40 A41 I42 L43 ⟨rfl, rfl⟩
      show am_Ok _ _ _ (34, _, [], _, c38, s39) _
      refine k_aload 35 rfl rfl rfl ?_
      refine x_gF 5 I42 38 rfl rfl (by decide) rfl ?_
      refine k_push 39 rfl rfl ?_
      have hc45 : (-1 : Int32).toInt = -1 := by decide
      refine k_aload 40 rfl rfl rfl ?_
      refine x_gF 15 I42 43 rfl rfl (by decide) rfl ?_
      refine k_xq I42 rfl (n_X7_figure   I42.1) rfl rfl rfl (I42.T.rc oc15 rfl) L43 (so_i (xo_r I42 ol5 so_n)) ?_
      rintro x46 h47 c48 s49 F50 A51 I52 L53 ⟨e54, rfl, rfl⟩
      show am_Ok _ _ _ (46, _, [.inl x46, .inl (-1 : Int32), .inr (.inr (some 5))], _, c48, s49) _
      obtain ⟨x55, q56⟩ : ∃ q : Int32, q = (-1 : Int32) - x46 := ⟨_, rfl⟩
      have e57 : x55.toInt = bm ((-1) - (p_X7_figure ((p_X6_beginAtom ((p_X7_start ((p_X7_end ((p_X6_isAtomDue F0 A0).2.1) ((p_X6_isAtomDue F0 A0).2.2)).2.1) ((p_X7_end ((p_X6_isAtomDue F0 A0).2.1) ((p_X6_isAtomDue F0 A0).2.2)).2.2)).2.1) ((p_X7_start ((p_X7_end ((p_X6_isAtomDue F0 A0).2.1) ((p_X6_isAtomDue F0 A0).2.2)).2.1) ((p_X7_end ((p_X6_isAtomDue F0 A0).2.1) ((p_X6_isAtomDue F0 A0).2.2)).2.2)).2.2)).2.1) ((p_X6_beginAtom ((p_X7_start ((p_X7_end ((p_X6_isAtomDue F0 A0).2.1) ((p_X6_isAtomDue F0 A0).2.2)).2.1) ((p_X7_end ((p_X6_isAtomDue F0 A0).2.1) ((p_X6_isAtomDue F0 A0).2.2)).2.2)).2.1) ((p_X7_start ((p_X7_end ((p_X6_isAtomDue F0 A0).2.1) ((p_X6_isAtomDue F0 A0).2.2)).2.1) ((p_X7_end ((p_X6_isAtomDue F0 A0).2.1) ((p_X6_isAtomDue F0 A0).2.2)).2.2)).2.2)).2.2)).1) := bm_sub q56 hc45 e54
      refine k_bin x55 47 rfl q56.symm rfl ?_
      refine k_xq I52 rfl (y_add e57 I52.1 or5) rfl rfl rfl (ty_H.rc3 I52.T or5) L53 so_n ?_
      rintro x58 h59 c60 s61 F62 A63 I64 L65 ⟨e66, rfl, rfl⟩
      have z67 := iv_01 (x := x58) (by rw [e66]; exact (addr_01))
      show am_Ok _ _ _ (50, _, [.inl x58], _, c60, s61) _
      refine k_pop 51 rfl rfl rfl ?_
      refine k_aload 52 rfl rfl rfl ?_
      refine k_push 53 rfl rfl ?_
      have hc68 : (4 : Int32).toInt = 4 := by decide
      refine x_pI (fx_ok := fx_no rfl) I64 56 rfl oc4 rfl rfl rfl rfl (fun h69 I70 l71 => ?_)
      have L72 := okL_eq l71 L65
      have I73 : xI h0 (ob_P h0) h69 c60 s61 (up1 ((p_X7_figure ((p_X6_beginAtom ((p_X7_start ((p_X7_end ((p_X6_isAtomDue F0 A0).2.1) ((p_X6_isAtomDue F0 A0).2.2)).2.1) ((p_X7_end ((p_X6_isAtomDue F0 A0).2.1) ((p_X6_isAtomDue F0 A0).2.2)).2.2)).2.1) ((p_X7_start ((p_X7_end ((p_X6_isAtomDue F0 A0).2.1) ((p_X6_isAtomDue F0 A0).2.2)).2.1) ((p_X7_end ((p_X6_isAtomDue F0 A0).2.1) ((p_X6_isAtomDue F0 A0).2.2)).2.2)).2.2)).2.1) ((p_X6_beginAtom ((p_X7_start ((p_X7_end ((p_X6_isAtomDue F0 A0).2.1) ((p_X6_isAtomDue F0 A0).2.2)).2.1) ((p_X7_end ((p_X6_isAtomDue F0 A0).2.1) ((p_X6_isAtomDue F0 A0).2.2)).2.2)).2.1) ((p_X7_start ((p_X7_end ((p_X6_isAtomDue F0 A0).2.1) ((p_X6_isAtomDue F0 A0).2.2)).2.1) ((p_X7_end ((p_X6_isAtomDue F0 A0).2.1) ((p_X6_isAtomDue F0 A0).2.2)).2.2)).2.2)).2.2)).2.1) 406 (4)) (addl 5 ((p_X7_figure ((p_X6_beginAtom ((p_X7_start ((p_X7_end ((p_X6_isAtomDue F0 A0).2.1) ((p_X6_isAtomDue F0 A0).2.2)).2.1) ((p_X7_end ((p_X6_isAtomDue F0 A0).2.1) ((p_X6_isAtomDue F0 A0).2.2)).2.2)).2.1) ((p_X7_start ((p_X7_end ((p_X6_isAtomDue F0 A0).2.1) ((p_X6_isAtomDue F0 A0).2.2)).2.1) ((p_X7_end ((p_X6_isAtomDue F0 A0).2.1) ((p_X6_isAtomDue F0 A0).2.2)).2.2)).2.2)).2.1) ((p_X6_beginAtom ((p_X7_start ((p_X7_end ((p_X6_isAtomDue F0 A0).2.1) ((p_X6_isAtomDue F0 A0).2.2)).2.1) ((p_X7_end ((p_X6_isAtomDue F0 A0).2.1) ((p_X6_isAtomDue F0 A0).2.2)).2.2)).2.1) ((p_X7_start ((p_X7_end ((p_X6_isAtomDue F0 A0).2.1) ((p_X6_isAtomDue F0 A0).2.2)).2.1) ((p_X7_end ((p_X6_isAtomDue F0 A0).2.1) ((p_X6_isAtomDue F0 A0).2.2)).2.2)).2.2)).2.2)).2.2) (bm ((-1) - (p_X7_figure ((p_X6_beginAtom ((p_X7_start ((p_X7_end ((p_X6_isAtomDue F0 A0).2.1) ((p_X6_isAtomDue F0 A0).2.2)).2.1) ((p_X7_end ((p_X6_isAtomDue F0 A0).2.1) ((p_X6_isAtomDue F0 A0).2.2)).2.2)).2.1) ((p_X7_start ((p_X7_end ((p_X6_isAtomDue F0 A0).2.1) ((p_X6_isAtomDue F0 A0).2.2)).2.1) ((p_X7_end ((p_X6_isAtomDue F0 A0).2.1) ((p_X6_isAtomDue F0 A0).2.2)).2.2)).2.2)).2.1) ((p_X6_beginAtom ((p_X7_start ((p_X7_end ((p_X6_isAtomDue F0 A0).2.1) ((p_X6_isAtomDue F0 A0).2.2)).2.1) ((p_X7_end ((p_X6_isAtomDue F0 A0).2.1) ((p_X6_isAtomDue F0 A0).2.2)).2.2)).2.1) ((p_X7_start ((p_X7_end ((p_X6_isAtomDue F0 A0).2.1) ((p_X6_isAtomDue F0 A0).2.2)).2.1) ((p_X7_end ((p_X6_isAtomDue F0 A0).2.1) ((p_X6_isAtomDue F0 A0).2.2)).2.2)).2.2)).2.2)).1))) := by have h9 := I70; rw [hc68] at h9; exact h9
      refine k_push 57 rfl rfl ?_
      have hc74 : (0 : Int32).toInt = 0 := by decide
      exact k_fin rfl rfl ⟨_, _, _, _, _, _, rfl, I73, (by unfold p_X6_takeNumber; rw [if_neg b11, if_pos b35]; exact hc74), (by unfold p_X6_takeNumber; rw [if_neg b11, if_pos b35]), (by unfold p_X6_takeNumber; rw [if_neg b11, if_pos b35])⟩
    · refine k_c2 28 rfl rfl (if_neg b35) ?_
      have b35 : ¬ (bm ((p_X7_end ((p_X6_isAtomDue F0 A0).2.1) ((p_X6_isAtomDue F0 A0).2.2)).1 - (p_X7_start ((p_X7_end ((p_X6_isAtomDue F0 A0).2.1) ((p_X6_isAtomDue F0 A0).2.2)).2.1) ((p_X7_end ((p_X6_isAtomDue F0 A0).2.1) ((p_X6_isAtomDue F0 A0).2.2)).2.2)).1) ≤ 1) := by have h9 := mt iv_le.mpr b35; rw [e33] at h9; rw [hc34] at h9; exact h9
      refine k_push 29 rfl rfl ?_
      have hc75 : (2 : Int32).toInt = 2 := by decide
      exact k_fin rfl rfl ⟨_, _, _, _, _, _, rfl, I28, (by unfold p_X6_takeNumber; rw [if_neg b11, if_neg b35]; exact hc75), (by unfold p_X6_takeNumber; rw [if_neg b11, if_neg b35]), (by unfold p_X6_takeNumber; rw [if_neg b11, if_neg b35])⟩
def p_X6_takeFunctionName  (F0 : rf_f) (A0 : xl_A) : Int × rf_f × xl_A := if (((A0 9).length : Nat) : Int) < 60 then (0, (up1 ((p_X7_end ((p_X7_start F0 A0).2.1) ((addl 9 ((p_X7_start F0 A0).2.2) ((p_X7_start F0 A0).1)))).2.1) 406 (3)), (addl 5 ((addl 9 ((p_X7_end ((p_X7_start F0 A0).2.1) ((addl 9 ((p_X7_start F0 A0).2.2) ((p_X7_start F0 A0).1)))).2.2) ((p_X7_end ((p_X7_start F0 A0).2.1) ((addl 9 ((p_X7_start F0 A0).2.2) ((p_X7_start F0 A0).1)))).1))) (1))) else (2, F0, A0)
theorem n_X6_takeFunctionName {h0 : am_h} {F0 : rf_f} {A0 : xl_A}   (hR : xR h0 F0 A0) : am_Mt 3 91 [.inr (.inr (some 4))] h0 (xQ h0 (fun x F' A' => x = (p_X6_takeFunctionName F0 A0).1 ∧ F' = (p_X6_takeFunctionName F0 A0).2.1 ∧ A' = (p_X6_takeFunctionName F0 A0).2.2)) := by
  refine am_Mt.of (D := 2) ?_
  have hI : xI h0 (ob_P h0) h0 0 0 F0 A0 := xI.start hR
  have hL : am_okL h0.length (am_args 0 [.inr (.inr (some 4))]) = true := (okA_r hI.T oc4 okA_n)
  refine k_aload 1 rfl rfl rfl ?_
  refine x_gF 9 hI 4 rfl rfl (by decide) rfl ?_
  refine k_xq hI rfl (xv_size hI.1 or9) rfl rfl rfl (ty_H.rc3 hI.T or9) hL so_n ?_
  rintro x1 h2 c3 s4 F5 A6 I7 L8 ⟨e9, rfl, rfl⟩
  show am_Ok _ _ _ (7, _, [.inl x1], _, c3, s4) _
  refine k_push 9 rfl rfl ?_
  have hc10 : (60 : Int32).toInt = 60 := by decide
  by_cases b11 : x1 < (60 : Int32)
  · refine k_c2 14 rfl rfl (if_pos b11) ?_
    have b11 : (((A0 9).length : Nat) : Int) < 60 := by have h9 := iv_lt.mp b11; rw [e9] at h9; rw [hc10] at h9; exact h9
    refine k_aload 15 rfl rfl rfl ?_
    refine x_gF 9 I7 18 rfl rfl (by decide) rfl ?_
    refine k_aload 19 rfl rfl rfl ?_
    refine x_gF 15 I7 22 rfl rfl (by decide) rfl ?_
    refine k_xq I7 rfl (n_X7_start   I7.1) rfl rfl rfl (I7.T.rc oc15 rfl) L8 (xo_r I7 ol9 so_n) ?_
    rintro x12 h13 c14 s15 F16 A17 I18 L19 ⟨e20, rfl, rfl⟩
    show am_Ok _ _ _ (25, _, [.inl x12, .inr (.inr (some 9))], _, c14, s15) _
    refine k_xq I18 rfl (y_add e20 I18.1 or9) rfl rfl rfl (ty_H.rc3 I18.T or9) L19 so_n ?_
    rintro x21 h22 c23 s24 F25 A26 I27 L28 ⟨e29, rfl, rfl⟩
    have z30 := iv_01 (x := x21) (by rw [e29]; exact (addr_01))
    show am_Ok _ _ _ (28, _, [.inl x21], _, c23, s24) _
    refine k_pop 29 rfl rfl rfl ?_
    refine k_aload 30 rfl rfl rfl ?_
    refine x_gF 9 I27 33 rfl rfl (by decide) rfl ?_
    refine k_aload 34 rfl rfl rfl ?_
    refine x_gF 15 I27 37 rfl rfl (by decide) rfl ?_
    refine k_xq I27 rfl (n_X7_end   I27.1) rfl rfl rfl (I27.T.rc oc15 rfl) L28 (xo_r I27 ol9 so_n) ?_
    rintro x31 h32 c33 s34 F35 A36 I37 L38 ⟨e39, rfl, rfl⟩
    show am_Ok _ _ _ (40, _, [.inl x31, .inr (.inr (some 9))], _, c33, s34) _
    refine k_xq I37 rfl (y_add e39 I37.1 or9) rfl rfl rfl (ty_H.rc3 I37.T or9) L38 so_n ?_
    rintro x40 h41 c42 s43 F44 A45 I46 L47 ⟨e48, rfl, rfl⟩
    have z49 := iv_01 (x := x40) (by rw [e48]; exact (addr_01))
    show am_Ok _ _ _ (43, _, [.inl x40], _, c42, s43) _
    refine k_pop 44 rfl rfl rfl ?_
    refine k_aload 45 rfl rfl rfl ?_
    refine x_gF 5 I46 48 rfl rfl (by decide) rfl ?_
    refine k_push 49 rfl rfl ?_
    have hc50 : (1 : Int32).toInt = 1 := by decide
    refine k_xq I46 rfl (y_add hc50 I46.1 or5) rfl rfl rfl (ty_H.rc3 I46.T or5) L47 so_n ?_
    rintro x51 h52 c53 s54 F55 A56 I57 L58 ⟨e59, rfl, rfl⟩
    have z60 := iv_01 (x := x51) (by rw [e59]; exact (addr_01))
    show am_Ok _ _ _ (52, _, [.inl x51], _, c53, s54) _
    refine k_pop 53 rfl rfl rfl ?_
    refine k_aload 54 rfl rfl rfl ?_
    refine k_push 55 rfl rfl ?_
    have hc61 : (3 : Int32).toInt = 3 := by decide
    refine x_pI (fx_ok := fx_no rfl) I57 58 rfl oc4 rfl rfl rfl rfl (fun h62 I63 l64 => ?_)
    have L65 := okL_eq l64 L58
    have I66 : xI h0 (ob_P h0) h62 c53 s54 (up1 ((p_X7_end ((p_X7_start F0 A0).2.1) ((addl 9 ((p_X7_start F0 A0).2.2) ((p_X7_start F0 A0).1)))).2.1) 406 (3)) (addl 5 ((addl 9 ((p_X7_end ((p_X7_start F0 A0).2.1) ((addl 9 ((p_X7_start F0 A0).2.2) ((p_X7_start F0 A0).1)))).2.2) ((p_X7_end ((p_X7_start F0 A0).2.1) ((addl 9 ((p_X7_start F0 A0).2.2) ((p_X7_start F0 A0).1)))).1))) (1)) := by have h9 := I63; rw [hc61] at h9; exact h9
    refine k_push 59 rfl rfl ?_
    have hc67 : (0 : Int32).toInt = 0 := by decide
    exact k_fin rfl rfl ⟨_, _, _, _, _, _, rfl, I66, (by unfold p_X6_takeFunctionName; rw [if_pos b11]; exact hc67), (by unfold p_X6_takeFunctionName; rw [if_pos b11]), (by unfold p_X6_takeFunctionName; rw [if_pos b11])⟩
  · refine k_c2 12 rfl rfl (if_neg b11) ?_
    have b11 : ¬ ((((A0 9).length : Nat) : Int) < 60) := by have h9 := mt iv_lt.mpr b11; rw [e9] at h9; rw [hc10] at h9; exact h9
    refine k_push 13 rfl rfl ?_
    have hc68 : (2 : Int32).toInt = 2 := by decide
    exact k_fin rfl rfl ⟨_, _, _, _, _, _, rfl, I7, (by unfold p_X6_takeFunctionName; rw [if_neg b11]; exact hc68), (by unfold p_X6_takeFunctionName; rw [if_neg b11]), (by unfold p_X6_takeFunctionName; rw [if_neg b11])⟩
end
