/-! THE CLASS, method by method, as pure functions of its fields and rows -/
def bm (n : Int) : Int := n.bmod (2 ^ 32)
section XB
variable {x y q : Int32} {a b : Int} {i k l : Nat} {h h0 : am_h} {F : rf_f} {A : xl_A} {B c s : Nat}
theorem bm_add (h : q = x + y) (h1 : x.toInt = a) (h2 : y.toInt = b) : q.toInt = bm (a + b) := by
  rw [h, Int32.toInt_add, h1, h2]
  rfl
theorem bm_sub (h : q = x - y) (h1 : x.toInt = a) (h2 : y.toInt = b) : q.toInt = bm (a - b) := by
  rw [h, Int32.toInt_sub, h1, h2]
  rfl
theorem bm_mul (h : q = x * y) (h1 : x.toInt = a) (h2 : y.toInt = b) : q.toInt = bm (a * b) := by
  rw [h, Int32.toInt_mul, h1, h2]
  rfl
theorem bm_id (h1 : -2147483648 ≤ a) (h2 : a < 2147483648) : bm a = a := iv_bm h1 h2
theorem xo_v (hI : xI h0 B h c s F A) (ho : ob l i) : am_okV h.length (.inr (.inr (some i))) = true := Nat.ble_eq_true_of_le (Nat.le_trans (ob_lt ho) (Nat.le_trans (by decide) hI.len))
theorem xo_r {st : List am_v} (hI : xI h0 B h c s F A) (ho : ob l i) (e : st.all (am_okV h.length) = true) : (.inr (.inr (some i)) :: st : List am_v).all (am_okV h.length) = true := by
  rw [List.all_cons, xo_v hI ho, e]
  rfl
theorem fx_no (e : (fx_T.all (fun t => !(Nat.beq t.1 i && Nat.beq t.2.1 k))) = true) : ∀ r, (i, k, r) ∉ fx_T := fun r hr => by
  have h1 := List.all_eq_true.mp e _ hr
  have h2 : (Nat.beq i i && Nat.beq k k) = true := by rw [Nat.beq_refl, Nat.beq_refl]; rfl
  rw [h2] at h1
  cases h1
theorem y_get (hx : x.toInt = a) (hR : xR h F A) (hi : ob 3 i ∨ ob 11 i) : am_Mt 1 50 [.inr (.inr (some i)), .inl x] h (xQ h (fun y F' A' => y = gl (A i) a ∧ F' = F ∧ A' = A)) := by
  subst hx
  exact xv_get hR hi
theorem y_add (hx : x.toInt = a) (hR : xR h F A) (hi : ob 3 i ∨ ob 11 i) : am_Mt 2 52 [.inr (.inr (some i)), .inl x] h (xQ h (fun y F' A' => y = addr i A ∧ F' = F ∧ A' = addl i A a)) := by
  subst hx
  exact xv_add hR hi
theorem y_set (hx : x.toInt = a) (hy : y.toInt = b) (hR : xR h F A) (hi : ob 3 i ∨ ob 11 i) : am_Mt 1 51 [.inr (.inr (some i)), .inl x, .inl y] h (xV h (fun F' A' => F' = F ∧ A' = upl A i (ssl (A i) a b))) := by
  subst hx
  subst hy
  exact xw_set hR hi
theorem y_cut (hx : x.toInt = a) (hR : xR h F A) (hi : ob 3 i ∨ ob 11 i) : am_Mt 1 56 [.inr (.inr (some i)), .inl x] h (xV h (fun F' A' => F' = F ∧ A' = upl A i (cutl (A i) a))) := by
  subst hx
  exact xw_cut hR hi
theorem y_insert (hx : x.toInt = a) (hy : y.toInt = b) (hR : xR h F A) (hi : ob 3 i ∨ ob 11 i) : am_Mt 2 53 [.inr (.inr (some i)), .inl x, .inl y] h (xV h (fun F' A' => F' = F ∧ A' = insl i A a b)) := by
  subst hx
  subst hy
  exact xv_insert hR hi
theorem y_fill (hx : x.toInt = a) (hy : y.toInt = b) (hR : xR h F A) (hi : ob 3 i ∨ ob 11 i) (hc : (ob_c0 i : Int) = (ob_mo i).toInt) (ha : 0 ≤ a ∧ a ≤ (ob_mo i).toInt) : am_Mt 1 57 [.inr (.inr (some i)), .inl x, .inl y] h (xV h (fun F' A' => F' = F ∧ A' = upl A i (List.replicate a.toNat b))) := by
  subst hx
  subst hy
  exact xw_fill hR hi hc ha
theorem oc1 : ob 9 1 := show 1 ∈ ob_L 9 by decide
theorem oc4 : ob 6 4 := show 4 ∈ ob_L 6 by decide
theorem oc15 : ob 7 15 := show 15 ∈ ob_L 7 by decide
theorem oc74 : ob 0 74 := show 74 ∈ ob_L 0 by decide
theorem oc56 : ob 1 56 := show 56 ∈ ob_L 1 by decide
theorem oc65 : ob 1 65 := show 65 ∈ ob_L 1 by decide
theorem ol2 : ob 11 2 := show 2 ∈ ob_L 11 by decide
theorem or2 : ob 3 2 ∨ ob 11 2 := Or.inr ol2
theorem ol5 : ob 3 5 := show 5 ∈ ob_L 3 by decide
theorem or5 : ob 3 5 ∨ ob 11 5 := Or.inl ol5
theorem ol7 : ob 3 7 := show 7 ∈ ob_L 3 by decide
theorem or7 : ob 3 7 ∨ ob 11 7 := Or.inl ol7
theorem ol9 : ob 3 9 := show 9 ∈ ob_L 3 by decide
theorem or9 : ob 3 9 ∨ ob 11 9 := Or.inl ol9
theorem ol11 : ob 3 11 := show 11 ∈ ob_L 3 by decide
theorem or11 : ob 3 11 ∨ ob 11 11 := Or.inl ol11
theorem ol13 : ob 3 13 := show 13 ∈ ob_L 3 by decide
theorem or13 : ob 3 13 ∨ ob 11 13 := Or.inl ol13
theorem ol46 : ob 11 46 := show 46 ∈ ob_L 11 by decide
theorem or46 : ob 3 46 ∨ ob 11 46 := Or.inr ol46
theorem ol48 : ob 3 48 := show 48 ∈ ob_L 3 by decide
theorem or48 : ob 3 48 ∨ ob 11 48 := Or.inl ol48
theorem ol50 : ob 3 50 := show 50 ∈ ob_L 3 by decide
theorem or50 : ob 3 50 ∨ ob 11 50 := Or.inl ol50
theorem ol52 : ob 3 52 := show 52 ∈ ob_L 3 by decide
theorem or52 : ob 3 52 ∨ ob 11 52 := Or.inl ol52
theorem ol54 : ob 3 54 := show 54 ∈ ob_L 3 by decide
theorem or54 : ob 3 54 ∨ ob 11 54 := Or.inl ol54
theorem ol57 : ob 3 57 := show 57 ∈ ob_L 3 by decide
theorem or57 : ob 3 57 ∨ ob 11 57 := Or.inl ol57
theorem ol59 : ob 3 59 := show 59 ∈ ob_L 3 by decide
theorem or59 : ob 3 59 ∨ ob 11 59 := Or.inl ol59
theorem ol61 : ob 3 61 := show 61 ∈ ob_L 3 by decide
theorem or61 : ob 3 61 ∨ ob 11 61 := Or.inl ol61
theorem ol63 : ob 3 63 := show 63 ∈ ob_L 3 by decide
theorem or63 : ob 3 63 ∨ ob 11 63 := Or.inl ol63
theorem ol66 : ob 3 66 := show 66 ∈ ob_L 3 by decide
theorem or66 : ob 3 66 ∨ ob 11 66 := Or.inl ol66
theorem ol68 : ob 3 68 := show 68 ∈ ob_L 3 by decide
theorem or68 : ob 3 68 ∨ ob 11 68 := Or.inl ol68
theorem ol70 : ob 3 70 := show 70 ∈ ob_L 3 by decide
theorem or70 : ob 3 70 ∨ ob 11 70 := Or.inl ol70
theorem ol72 : ob 3 72 := show 72 ∈ ob_L 3 by decide
theorem or72 : ob 3 72 ∨ ob 11 72 := Or.inl ol72
theorem oc32 : ob 2 32 := show 32 ∈ ob_L 2 by decide
theorem ol33 : ob 3 33 := show 33 ∈ ob_L 3 by decide
theorem or33 : ob 3 33 ∨ ob 11 33 := Or.inl ol33
theorem ol35 : ob 3 35 := show 35 ∈ ob_L 3 by decide
theorem or35 : ob 3 35 ∨ ob 11 35 := Or.inl ol35
theorem ol37 : ob 3 37 := show 37 ∈ ob_L 3 by decide
theorem or37 : ob 3 37 ∨ ob 11 37 := Or.inl ol37
theorem ol39 : ob 3 39 := show 39 ∈ ob_L 3 by decide
theorem or39 : ob 3 39 ∨ ob 11 39 := Or.inl ol39
theorem ol75 : ob 3 75 := show 75 ∈ ob_L 3 by decide
theorem or75 : ob 3 75 ∨ ob 11 75 := Or.inl ol75
theorem ol77 : ob 3 77 := show 77 ∈ ob_L 3 by decide
theorem or77 : ob 3 77 ∨ ob 11 77 := Or.inl ol77
theorem ol79 : ob 3 79 := show 79 ∈ ob_L 3 by decide
theorem or79 : ob 3 79 ∨ ob 11 79 := Or.inl ol79
end XB
section
def p_X7_begin  (F0 : rf_f) (A0 : xl_A) : Int × rf_f × xl_A := (0, (up1 ((up1 (up1 F0 1501 (0)) 1502 (0))) 1503 (0)), A0)
theorem n_X7_begin {h0 : am_h} {F0 : rf_f} {A0 : xl_A}    (hR : xR h0 F0 A0) : am_Mt 1 105 [.inr (.inr (some 15))] h0 (xV h0 (fun F' A' => F' = (p_X7_begin F0 A0).2.1 ∧ A' = (p_X7_begin F0 A0).2.2)) := by
  refine am_Mt.of (D := 0) ?_
  have hI : xI h0 (ob_P h0) h0 0 0 F0 A0 := xI.start hR
  have hL : am_okL h0.length (am_args 0 [.inr (.inr (some 15))]) = true := (okA_r hI.T oc15 okA_n)
  refine k_aload 1 rfl rfl rfl ?_
  refine k_push 2 rfl rfl ?_
  have hc1 : (0 : Int32).toInt = 0 := by decide
  refine x_pI (fx_ok := fx_no rfl) hI 5 rfl oc15 rfl rfl rfl rfl (fun h2 I3 l4 => ?_)
  have L5 := okL_eq l4 hL
  have I6 : xI h0 (ob_P h0) h2 0 0 (up1 F0 1501 (0)) A0 := by have h9 := I3; rw [hc1] at h9; exact h9
  refine k_aload 6 rfl rfl rfl ?_
  refine k_push 7 rfl rfl ?_
  refine x_pI (fx_ok := fx_no rfl) I6 10 rfl oc15 rfl rfl rfl rfl (fun h7 I8 l9 => ?_)
  have L10 := okL_eq l9 L5
  have I11 : xI h0 (ob_P h0) h7 0 0 (up1 (up1 F0 1501 (0)) 1502 (0)) A0 := by have h9 := I8; rw [hc1] at h9; exact h9
  refine k_aload 11 rfl rfl rfl ?_
  refine k_push 12 rfl rfl ?_
  refine x_pI (fx_ok := fx_no rfl) I11 15 rfl oc15 rfl rfl rfl rfl (fun h12 I13 l14 => ?_)
  have L15 := okL_eq l14 L10
  have I16 : xI h0 (ob_P h0) h12 0 0 (up1 ((up1 (up1 F0 1501 (0)) 1502 (0))) 1503 (0)) A0 := by have h9 := I13; rw [hc1] at h9; exact h9
  exact k_fin rfl rfl ⟨_, _, _, _, _, rfl, I16, rfl, rfl⟩
def p_X7_sort  (F0 : rf_f) (A0 : xl_A) : Int × rf_f × xl_A := (F0 1501, F0, A0)
theorem n_X7_sort {h0 : am_h} {F0 : rf_f} {A0 : xl_A}    (hR : xR h0 F0 A0) : am_Mt 1 106 [.inr (.inr (some 15))] h0 (xQ h0 (fun x F' A' => x = (p_X7_sort F0 A0).1 ∧ F' = (p_X7_sort F0 A0).2.1 ∧ A' = (p_X7_sort F0 A0).2.2)) := by
  refine am_Mt.of (D := 0) ?_
  have hI : xI h0 (ob_P h0) h0 0 0 F0 A0 := xI.start hR
  have hL : am_okL h0.length (am_args 0 [.inr (.inr (some 15))]) = true := (okA_r hI.T oc15 okA_n)
  refine k_aload 1 rfl rfl rfl ?_
  refine x_gI hI 4 rfl oc15 rfl rfl rfl rfl (fun x1 (e2 : x1.toInt = F0 1501) => ?_)
  exact k_fin rfl rfl ⟨_, _, _, _, _, _, rfl, hI, e2, rfl, rfl⟩
def p_X7_start  (F0 : rf_f) (A0 : xl_A) : Int × rf_f × xl_A := (F0 1502, F0, A0)
theorem n_X7_start {h0 : am_h} {F0 : rf_f} {A0 : xl_A}    (hR : xR h0 F0 A0) : am_Mt 1 107 [.inr (.inr (some 15))] h0 (xQ h0 (fun x F' A' => x = (p_X7_start F0 A0).1 ∧ F' = (p_X7_start F0 A0).2.1 ∧ A' = (p_X7_start F0 A0).2.2)) := by
  refine am_Mt.of (D := 0) ?_
  have hI : xI h0 (ob_P h0) h0 0 0 F0 A0 := xI.start hR
  have hL : am_okL h0.length (am_args 0 [.inr (.inr (some 15))]) = true := (okA_r hI.T oc15 okA_n)
  refine k_aload 1 rfl rfl rfl ?_
  refine x_gI hI 4 rfl oc15 rfl rfl rfl rfl (fun x1 (e2 : x1.toInt = F0 1502) => ?_)
  exact k_fin rfl rfl ⟨_, _, _, _, _, _, rfl, hI, e2, rfl, rfl⟩
def p_X7_end  (F0 : rf_f) (A0 : xl_A) : Int × rf_f × xl_A := (F0 1503, F0, A0)
theorem n_X7_end {h0 : am_h} {F0 : rf_f} {A0 : xl_A}    (hR : xR h0 F0 A0) : am_Mt 1 108 [.inr (.inr (some 15))] h0 (xQ h0 (fun x F' A' => x = (p_X7_end F0 A0).1 ∧ F' = (p_X7_end F0 A0).2.1 ∧ A' = (p_X7_end F0 A0).2.2)) := by
  refine am_Mt.of (D := 0) ?_
  have hI : xI h0 (ob_P h0) h0 0 0 F0 A0 := xI.start hR
  have hL : am_okL h0.length (am_args 0 [.inr (.inr (some 15))]) = true := (okA_r hI.T oc15 okA_n)
  refine k_aload 1 rfl rfl rfl ?_
  refine x_gI hI 4 rfl oc15 rfl rfl rfl rfl (fun x1 (e2 : x1.toInt = F0 1503) => ?_)
  exact k_fin rfl rfl ⟨_, _, _, _, _, _, rfl, hI, e2, rfl, rfl⟩
def p_X7_figure  (F0 : rf_f) (A0 : xl_A) : Int × rf_f × xl_A := (bm (gl (A0 2) (F0 1502) - 48), F0, A0)
theorem n_X7_figure {h0 : am_h} {F0 : rf_f} {A0 : xl_A}    (hR : xR h0 F0 A0) : am_Mt 2 109 [.inr (.inr (some 15))] h0 (xQ h0 (fun x F' A' => x = (p_X7_figure F0 A0).1 ∧ F' = (p_X7_figure F0 A0).2.1 ∧ A' = (p_X7_figure F0 A0).2.2)) := by
  refine am_Mt.of (D := 1) ?_
  have hI : xI h0 (ob_P h0) h0 0 0 F0 A0 := xI.start hR
  have hL : am_okL h0.length (am_args 0 [.inr (.inr (some 15))]) = true := (okA_r hI.T oc15 okA_n)
  refine k_aload 1 rfl rfl rfl ?_
  refine x_gF 2 hI 4 rfl rfl (by decide) rfl ?_
  refine k_aload 5 rfl rfl rfl ?_
  refine x_gI hI 8 rfl oc15 rfl rfl rfl rfl (fun x1 (e2 : x1.toInt = F0 1502) => ?_)
  refine k_xq hI rfl (y_get e2 hI.1 or2) rfl rfl rfl (ty_H.rc3 hI.T or2) hL so_n ?_
  rintro x3 h4 c5 s6 F7 A8 I9 L10 ⟨e11, k12, k13⟩
  replace k12 := k12.symm
  subst k12
  replace k13 := k13.symm
  subst k13
  show am_Ok _ _ _ (11, _, [.inl x3], _, c5, s6) _
  refine k_push 13 rfl rfl ?_
  have hc14 : (48 : Int32).toInt = 48 := by decide
  obtain ⟨x15, q16⟩ : ∃ q : Int32, q = x3 - (48 : Int32) := ⟨_, rfl⟩
  have e17 : x15.toInt = bm (gl (A0 2) (F0 1502) - 48) := bm_sub q16 e11 hc14
  refine k_bin x15 14 rfl q16.symm rfl ?_
  exact k_fin rfl rfl ⟨_, _, _, _, _, _, rfl, I9, e17, rfl, rfl⟩
def p_X6_place  (F0 : rf_f) (A0 : xl_A) : Int × rf_f × xl_A := (F0 1502, F0, A0)
theorem n_X6_place {h0 : am_h} {F0 : rf_f} {A0 : xl_A}    (hR : xR h0 F0 A0) : am_Mt 2 83 [.inr (.inr (some 4))] h0 (xQ h0 (fun x F' A' => x = (p_X6_place F0 A0).1 ∧ F' = (p_X6_place F0 A0).2.1 ∧ A' = (p_X6_place F0 A0).2.2)) := by
  refine am_Mt.of (D := 1) ?_
  have hI : xI h0 (ob_P h0) h0 0 0 F0 A0 := xI.start hR
  have hL : am_okL h0.length (am_args 0 [.inr (.inr (some 4))]) = true := (okA_r hI.T oc4 okA_n)
  refine k_aload 1 rfl rfl rfl ?_
  refine x_gF 15 hI 4 rfl rfl (by decide) rfl ?_
  refine k_xq hI rfl (n_X7_start    hI.1) rfl rfl rfl (hI.T.rc oc15 rfl) hL so_n ?_
  rintro x1 h2 c3 s4 F5 A6 I7 L8 ⟨e9, k10, k11⟩
  replace k10 : F5 = F0 := k10
  replace k11 : A6 = A0 := k11
  replace e9 : x1.toInt = F0 1502 := e9
  replace k10 := k10.symm
  subst k10
  replace k11 := k11.symm
  subst k11
  show am_Ok _ _ _ (7, _, [.inl x1], _, c3, s4) _
  exact k_fin rfl rfl ⟨_, _, _, _, _, _, rfl, I7, e9, rfl, rfl⟩
def p_X6_isAtomDue  (F0 : rf_f) (A0 : xl_A) : Int × rf_f × xl_A := if F0 406 = 0 then (1, F0, A0) else if F0 406 = 1 then (1, F0, A0) else if F0 406 = 4 then (1, F0, A0) else (0, F0, A0)
theorem z_X6_isAtomDue  {F0 : rf_f} {A0 : xl_A} : (p_X6_isAtomDue F0 A0).1 = 0 ∨ (p_X6_isAtomDue F0 A0).1 = 1 := by
  unfold p_X6_isAtomDue
  repeat' split
  all_goals first | exact Or.inl rfl | exact Or.inr rfl
theorem n_X6_isAtomDue {h0 : am_h} {F0 : rf_f} {A0 : xl_A}    (hR : xR h0 F0 A0) : am_Mt 1 101 [.inr (.inr (some 4))] h0 (xQ h0 (fun x F' A' => x = (p_X6_isAtomDue F0 A0).1 ∧ F' = (p_X6_isAtomDue F0 A0).2.1 ∧ A' = (p_X6_isAtomDue F0 A0).2.2)) := by
  refine am_Mt.of (D := 0) ?_
  have hI : xI h0 (ob_P h0) h0 0 0 F0 A0 := xI.start hR
  have hL : am_okL h0.length (am_args 0 [.inr (.inr (some 4))]) = true := (okA_r hI.T oc4 okA_n)
  refine k_aload 1 rfl rfl rfl ?_
  refine x_gI hI 4 rfl oc4 rfl rfl rfl rfl (fun x1 (e2 : x1.toInt = F0 406) => ?_)
  by_cases b3 : x1 = 0
  · refine k_c1 23 rfl rfl (if_pos b3) ?_
    have b3 : F0 406 = 0 := by have h9 := iv_eq0.mp b3; rw [e2] at h9; exact h9
    refine k_push 24 rfl rfl ?_
    have hc4 : (1 : Int32).toInt = 1 := by decide
    refine k_goto 28 rfl rfl ?_
    exact k_fin rfl (fin_Z (Or.inr rfl)) ⟨_, _, _, _, _, _, rfl, hI, (by unfold p_X6_isAtomDue; rw [if_pos b3]; exact hc4), (by unfold p_X6_isAtomDue; rw [if_pos b3]), (by unfold p_X6_isAtomDue; rw [if_pos b3])⟩
  · refine k_c1 7 rfl rfl (if_neg b3) ?_
    have b3 : ¬ (F0 406 = 0) := by have h9 := mt iv_eq0.mpr b3; rw [e2] at h9; exact h9
    refine k_aload 8 rfl rfl rfl ?_
    refine x_gI hI 11 rfl oc4 rfl rfl rfl rfl (fun x5 (e6 : x5.toInt = F0 406) => ?_)
    refine k_push 12 rfl rfl ?_
    have hc7 : (1 : Int32).toInt = 1 := by decide
    by_cases b8 : x5 = (1 : Int32)
    · refine k_c2 23 rfl rfl (if_pos b8) ?_
      have b8 : F0 406 = 1 := by have h9 := iv_eq.mp b8; rw [e6] at h9; rw [hc7] at h9; exact h9
      refine k_push 24 rfl rfl ?_
      refine k_goto 28 rfl rfl ?_
      exact k_fin rfl (fin_Z (Or.inr rfl)) ⟨_, _, _, _, _, _, rfl, hI, (by unfold p_X6_isAtomDue; rw [if_neg b3, if_pos b8]; exact hc7), (by unfold p_X6_isAtomDue; rw [if_neg b3, if_pos b8]), (by unfold p_X6_isAtomDue; rw [if_neg b3, if_pos b8])⟩
    · refine k_c2 15 rfl rfl (if_neg b8) ?_
      have b8 : ¬ (F0 406 = 1) := by have h9 := mt iv_eq.mpr b8; rw [e6] at h9; rw [hc7] at h9; exact h9
      refine k_aload 16 rfl rfl rfl ?_
      refine x_gI hI 19 rfl oc4 rfl rfl rfl rfl (fun x9 (e10 : x9.toInt = F0 406) => ?_)
      refine k_push 20 rfl rfl ?_
      have hc11 : (4 : Int32).toInt = 4 := by decide
      by_cases b12 : x9 = (4 : Int32)
      · refine k_c2 23 rfl rfl (if_pos b12) ?_
        have b12 : F0 406 = 4 := by have h9 := iv_eq.mp b12; rw [e10] at h9; rw [hc11] at h9; exact h9
        refine k_push 24 rfl rfl ?_
        refine k_goto 28 rfl rfl ?_
        exact k_fin rfl (fin_Z (Or.inr rfl)) ⟨_, _, _, _, _, _, rfl, hI, (by unfold p_X6_isAtomDue; rw [if_neg b3, if_neg b8, if_pos b12]; exact hc7), (by unfold p_X6_isAtomDue; rw [if_neg b3, if_neg b8, if_pos b12]), (by unfold p_X6_isAtomDue; rw [if_neg b3, if_neg b8, if_pos b12])⟩
      · refine k_c2 27 rfl rfl (if_neg b12) ?_
        have b12 : ¬ (F0 406 = 4) := by have h9 := mt iv_eq.mpr b12; rw [e10] at h9; rw [hc11] at h9; exact h9
        refine k_push 28 rfl rfl ?_
        have hc13 : (0 : Int32).toInt = 0 := by decide
        exact k_fin rfl (fin_Z (Or.inl rfl)) ⟨_, _, _, _, _, _, rfl, hI, (by unfold p_X6_isAtomDue; rw [if_neg b3, if_neg b8, if_neg b12]; exact hc13), (by unfold p_X6_isAtomDue; rw [if_neg b3, if_neg b8, if_neg b12]), (by unfold p_X6_isAtomDue; rw [if_neg b3, if_neg b8, if_neg b12])⟩
theorem f_X6_isAtomDue  {F0 : rf_f} {A0 : xl_A} : (p_X6_isAtomDue F0 A0).2.1 = F0 ∧ (p_X6_isAtomDue F0 A0).2.2 = A0 := by
  unfold p_X6_isAtomDue
  repeat' split
  all_goals exact ⟨rfl, rfl⟩
def p_X6_isWhole  (F0 : rf_f) (A0 : xl_A) : Int × rf_f × xl_A := if F0 406 = 4 then if (((A0 11).length : Nat) : Int) = 0 then (1, F0, A0) else (0, F0, A0) else (0, F0, A0)
theorem z_X6_isWhole  {F0 : rf_f} {A0 : xl_A} : (p_X6_isWhole F0 A0).1 = 0 ∨ (p_X6_isWhole F0 A0).1 = 1 := by
  unfold p_X6_isWhole
  repeat' split
  all_goals first | exact Or.inl rfl | exact Or.inr rfl
theorem n_X6_isWhole {h0 : am_h} {F0 : rf_f} {A0 : xl_A}    (hR : xR h0 F0 A0) : am_Mt 2 102 [.inr (.inr (some 4))] h0 (xQ h0 (fun x F' A' => x = (p_X6_isWhole F0 A0).1 ∧ F' = (p_X6_isWhole F0 A0).2.1 ∧ A' = (p_X6_isWhole F0 A0).2.2)) := by
  refine am_Mt.of (D := 1) ?_
  have hI : xI h0 (ob_P h0) h0 0 0 F0 A0 := xI.start hR
  have hL : am_okL h0.length (am_args 0 [.inr (.inr (some 4))]) = true := (okA_r hI.T oc4 okA_n)
  refine k_aload 1 rfl rfl rfl ?_
  refine x_gI hI 4 rfl oc4 rfl rfl rfl rfl (fun x1 (e2 : x1.toInt = F0 406) => ?_)
  refine k_push 5 rfl rfl ?_
  have hc3 : (4 : Int32).toInt = 4 := by decide
  by_cases b4 : x1 = (4 : Int32)
  · refine k_c2 8 rfl rfl (if_pos b4) ?_
    have b4 : F0 406 = 4 := by have h9 := iv_eq.mp b4; rw [e2] at h9; rw [hc3] at h9; exact h9
    refine k_aload 9 rfl rfl rfl ?_
    refine x_gF 11 hI 12 rfl rfl (by decide) rfl ?_
    refine k_xq hI rfl (xv_size hI.1 or11) rfl rfl rfl (ty_H.rc3 hI.T or11) hL so_n ?_
    rintro x5 h6 c7 s8 F9 A10 I11 L12 ⟨e13, k14, k15⟩
    replace k14 := k14.symm
    subst k14
    replace k15 := k15.symm
    subst k15
    show am_Ok _ _ _ (15, _, [.inl x5], _, c7, s8) _
    by_cases b16 : x5 = 0
    · refine k_c1 18 rfl rfl (if_pos b16) ?_
      have b16 : (((A0 11).length : Nat) : Int) = 0 := by have h9 := iv_eq0.mp b16; rw [e13] at h9; exact h9
      refine k_push 19 rfl rfl ?_
      have hc17 : (1 : Int32).toInt = 1 := by decide
      refine k_goto 23 rfl rfl ?_
      exact k_fin rfl (fin_Z (Or.inr rfl)) ⟨_, _, _, _, _, _, rfl, I11, (by unfold p_X6_isWhole; rw [if_pos b4, if_pos b16]; exact hc17), (by unfold p_X6_isWhole; rw [if_pos b4, if_pos b16]), (by unfold p_X6_isWhole; rw [if_pos b4, if_pos b16])⟩
    · refine k_c1 22 rfl rfl (if_neg b16) ?_
      have b16 : ¬ ((((A0 11).length : Nat) : Int) = 0) := by have h9 := mt iv_eq0.mpr b16; rw [e13] at h9; exact h9
      refine k_push 23 rfl rfl ?_
      have hc18 : (0 : Int32).toInt = 0 := by decide
      exact k_fin rfl (fin_Z (Or.inl rfl)) ⟨_, _, _, _, _, _, rfl, I11, (by unfold p_X6_isWhole; rw [if_pos b4, if_neg b16]; exact hc18), (by unfold p_X6_isWhole; rw [if_pos b4, if_neg b16]), (by unfold p_X6_isWhole; rw [if_pos b4, if_neg b16])⟩
  · refine k_c2 22 rfl rfl (if_neg b4) ?_
    have b4 : ¬ (F0 406 = 4) := by have h9 := mt iv_eq.mpr b4; rw [e2] at h9; rw [hc3] at h9; exact h9
    refine k_push 23 rfl rfl ?_
    have hc19 : (0 : Int32).toInt = 0 := by decide
    exact k_fin rfl (fin_Z (Or.inl rfl)) ⟨_, _, _, _, _, _, rfl, hI, (by unfold p_X6_isWhole; rw [if_neg b4]; exact hc19), (by unfold p_X6_isWhole; rw [if_neg b4]), (by unfold p_X6_isWhole; rw [if_neg b4])⟩
theorem f_X6_isWhole  {F0 : rf_f} {A0 : xl_A} : (p_X6_isWhole F0 A0).2.1 = F0 ∧ (p_X6_isWhole F0 A0).2.2 = A0 := by
  unfold p_X6_isWhole
  repeat' split
  all_goals exact ⟨rfl, rfl⟩
def p_X6_beginAtom  (F0 : rf_f) (A0 : xl_A) : Int × rf_f × xl_A := if F0 408 = 0 then (0, (up1 (up1 F0 407 ((((A0 5).length : Nat) : Int))) 408 (bm (F0 408 + 1))), A0) else (0, (up1 F0 408 (bm (F0 408 + 1))), (insl 5 A0 (F0 407) (0)))
theorem n_X6_beginAtom {h0 : am_h} {F0 : rf_f} {A0 : xl_A}    (hR : xR h0 F0 A0) : am_Mt 3 103 [.inr (.inr (some 4))] h0 (xV h0 (fun F' A' => F' = (p_X6_beginAtom F0 A0).2.1 ∧ A' = (p_X6_beginAtom F0 A0).2.2)) := by
  refine am_Mt.of (D := 2) ?_
  have hI : xI h0 (ob_P h0) h0 0 0 F0 A0 := xI.start hR
  have hL : am_okL h0.length (am_args 0 [.inr (.inr (some 4))]) = true := (okA_r hI.T oc4 okA_n)
  refine k_aload 1 rfl rfl rfl ?_
  refine x_gI hI 4 rfl oc4 rfl rfl rfl rfl (fun x1 (e2 : x1.toInt = F0 408) => ?_)
  by_cases b3 : x1 = 0
  · refine k_c1 7 rfl rfl (if_pos b3) ?_
    have b3 : F0 408 = 0 := by have h9 := iv_eq0.mp b3; rw [e2] at h9; exact h9
    refine k_aload 8 rfl rfl rfl ?_
    refine k_aload 9 rfl rfl rfl ?_
    refine x_gF 5 hI 12 rfl rfl (by decide) rfl ?_
    refine k_xq hI rfl (xv_size hI.1 or5) rfl rfl rfl (ty_H.rc3 hI.T or5) hL (xo_r hI oc4 so_n) ?_
    rintro x4 h5 c6 s7 F8 A9 I10 L11 ⟨e12, k13, k14⟩
    replace k13 := k13.symm
    subst k13
    replace k14 := k14.symm
    subst k14
    show am_Ok _ _ _ (15, _, [.inl x4, .inr (.inr (some 4))], _, c6, s7) _
    refine x_pI (fx_ok := fx_no rfl) I10 18 rfl oc4 rfl rfl rfl rfl (fun h15 I16 l17 => ?_)
    have L18 := okL_eq l17 L11
    have I19 : xI h0 (ob_P h0) h15 c6 s7 (up1 F0 407 ((((A0 5).length : Nat) : Int))) A0 := by have h9 := I16; rw [e12] at h9; exact h9
    refine k_goto 33 rfl rfl ?_
    refine k_aload 34 rfl rfl rfl ?_
    refine k_dup 35 rfl rfl rfl ?_
    refine x_gI I19 38 rfl oc4 rfl rfl rfl rfl (fun x20 (e21 : x20.toInt = F0 408) => ?_)
    refine k_push 39 rfl rfl ?_
    have hc22 : (1 : Int32).toInt = 1 := by decide
    obtain ⟨x23, q24⟩ : ∃ q : Int32, q = x20 + (1 : Int32) := ⟨_, rfl⟩
    have e25 : x23.toInt = bm (F0 408 + 1) := bm_add q24 e21 hc22
    refine k_bin x23 40 rfl q24.symm rfl ?_
    refine x_pI (fx_ok := fx_no rfl) I19 43 rfl oc4 rfl rfl rfl rfl (fun h26 I27 l28 => ?_)
    have L29 := okL_eq l28 L18
    have I30 : xI h0 (ob_P h0) h26 c6 s7 (up1 (up1 F0 407 ((((A0 5).length : Nat) : Int))) 408 (bm (F0 408 + 1))) A0 := by have h9 := I27; rw [e25] at h9; exact h9
    exact k_fin rfl rfl ⟨_, _, _, _, _, rfl, I30, (by unfold p_X6_beginAtom; rw [if_pos b3]), (by unfold p_X6_beginAtom; rw [if_pos b3])⟩
  · refine k_c1 21 rfl rfl (if_neg b3) ?_
    have b3 : ¬ (F0 408 = 0) := by have h9 := mt iv_eq0.mpr b3; rw [e2] at h9; exact h9
    refine k_aload 22 rfl rfl rfl ?_
    refine x_gF 5 hI 25 rfl rfl (by decide) rfl ?_
    refine k_aload 26 rfl rfl rfl ?_
    refine x_gI hI 29 rfl oc4 rfl rfl rfl rfl (fun x31 (e32 : x31.toInt = F0 407) => ?_)
    refine k_push 30 rfl rfl ?_
    have hc33 : (0 : Int32).toInt = 0 := by decide
    refine k_xv hI rfl (y_insert e32 hc33 hI.1 or5) rfl rfl rfl (ty_H.rc3 hI.T or5) hL so_n ?_
    rintro h35 c36 s37 F38 A39 I40 L41 ⟨k43, k44⟩
    replace k43 := k43.symm
    subst k43
    replace k44 := k44.symm
    subst k44
    show am_Ok _ _ _ (33, _, [], _, c36, s37) _
    refine k_aload 34 rfl rfl rfl ?_
    refine k_dup 35 rfl rfl rfl ?_
    refine x_gI I40 38 rfl oc4 rfl rfl rfl rfl (fun x45 (e46 : x45.toInt = F0 408) => ?_)
    refine k_push 39 rfl rfl ?_
    have hc47 : (1 : Int32).toInt = 1 := by decide
    obtain ⟨x48, q49⟩ : ∃ q : Int32, q = x45 + (1 : Int32) := ⟨_, rfl⟩
    have e50 : x48.toInt = bm (F0 408 + 1) := bm_add q49 e46 hc47
    refine k_bin x48 40 rfl q49.symm rfl ?_
    refine x_pI (fx_ok := fx_no rfl) I40 43 rfl oc4 rfl rfl rfl rfl (fun h51 I52 l53 => ?_)
    have L54 := okL_eq l53 L41
    have I55 : xI h0 (ob_P h0) h51 c36 s37 (up1 F0 408 (bm (F0 408 + 1))) (insl 5 A0 (F0 407) (0)) := by have h9 := I52; rw [e50] at h9; exact h9
    exact k_fin rfl rfl ⟨_, _, _, _, _, rfl, I55, (by unfold p_X6_beginAtom; rw [if_neg b3]), (by unfold p_X6_beginAtom; rw [if_neg b3])⟩
def p_X6_beginItem  (F0 : rf_f) (A0 : xl_A) : Int × rf_f × xl_A := (0, (up1 ((up1 (up1 F0 408 (0)) 409 ((((A0 5).length : Nat) : Int)))) 406 (0)), (upl A0 9 (cutl (A0 9) (0))))
theorem n_X6_beginItem {h0 : am_h} {F0 : rf_f} {A0 : xl_A}    (hR : xR h0 F0 A0) : am_Mt 2 100 [.inr (.inr (some 4))] h0 (xV h0 (fun F' A' => F' = (p_X6_beginItem F0 A0).2.1 ∧ A' = (p_X6_beginItem F0 A0).2.2)) := by
  refine am_Mt.of (D := 1) ?_
  have hI : xI h0 (ob_P h0) h0 0 0 F0 A0 := xI.start hR
  have hL : am_okL h0.length (am_args 0 [.inr (.inr (some 4))]) = true := (okA_r hI.T oc4 okA_n)
  refine k_aload 1 rfl rfl rfl ?_
  refine x_gF 9 hI 4 rfl rfl (by decide) rfl ?_
  refine k_push 5 rfl rfl ?_
  have hc1 : (0 : Int32).toInt = 0 := by decide
  refine k_xv hI rfl (y_cut hc1 hI.1 or9) rfl rfl rfl (ty_H.rc3 hI.T or9) hL so_n ?_
  rintro h3 c4 s5 F6 A7 I8 L9 ⟨k11, k12⟩
  replace k11 := k11.symm
  subst k11
  replace k12 := k12.symm
  subst k12
  show am_Ok _ _ _ (8, _, [], _, c4, s5) _
  refine k_aload 9 rfl rfl rfl ?_
  refine k_push 10 rfl rfl ?_
  refine x_pI (fx_ok := fx_no rfl) I8 13 rfl oc4 rfl rfl rfl rfl (fun h13 I14 l15 => ?_)
  have L16 := okL_eq l15 L9
  have I17 : xI h0 (ob_P h0) h13 c4 s5 (up1 F0 408 (0)) (upl A0 9 (cutl (A0 9) (0))) := by have h9 := I14; rw [hc1] at h9; exact h9
  refine k_aload 14 rfl rfl rfl ?_
  refine k_aload 15 rfl rfl rfl ?_
  refine x_gF 5 I17 18 rfl rfl (by decide) rfl ?_
  refine k_xq I17 rfl (xv_size I17.1 or5) rfl rfl rfl (ty_H.rc3 I17.T or5) L16 (xo_r I17 oc4 so_n) ?_
  rintro x18 h19 c20 s21 F22 A23 I24 L25 ⟨e26, k27, k28⟩
  replace k27 := k27.symm
  subst k27
  replace k28 := k28.symm
  subst k28
  show am_Ok _ _ _ (21, _, [.inl x18, .inr (.inr (some 4))], _, c20, s21) _
  refine x_pI (fx_ok := fx_no rfl) I24 24 rfl oc4 rfl rfl rfl rfl (fun h29 I30 l31 => ?_)
  have L32 := okL_eq l31 L25
  have I33 : xI h0 (ob_P h0) h29 c20 s21 (up1 (up1 F0 408 (0)) 409 ((((A0 5).length : Nat) : Int))) (upl A0 9 (cutl (A0 9) (0))) := by have h9 := I30; rw [e26] at h9; exact h9
  refine k_aload 25 rfl rfl rfl ?_
  refine k_push 26 rfl rfl ?_
  refine x_pI (fx_ok := fx_no rfl) I33 29 rfl oc4 rfl rfl rfl rfl (fun h34 I35 l36 => ?_)
  have L37 := okL_eq l36 L32
  have I38 : xI h0 (ob_P h0) h34 c20 s21 (up1 ((up1 (up1 F0 408 (0)) 409 ((((A0 5).length : Nat) : Int)))) 406 (0)) (upl A0 9 (cutl (A0 9) (0))) := by have h9 := I35; rw [hc1] at h9; exact h9
  exact k_fin rfl rfl ⟨_, _, _, _, _, rfl, I38, rfl, rfl⟩
def p_X6_takeFunction  (F0 : rf_f) (A0 : xl_A) : Int × rf_f × xl_A := if F0 406 = 0 then (0, (up1 F0 406 (2)), A0) else if F0 406 = 1 then (0, (up1 F0 406 (2)), A0) else (1, F0, A0)
theorem n_X6_takeFunction {h0 : am_h} {F0 : rf_f} {A0 : xl_A}    (hR : xR h0 F0 A0) : am_Mt 1 97 [.inr (.inr (some 4))] h0 (xQ h0 (fun x F' A' => x = (p_X6_takeFunction F0 A0).1 ∧ F' = (p_X6_takeFunction F0 A0).2.1 ∧ A' = (p_X6_takeFunction F0 A0).2.2)) := by
  refine am_Mt.of (D := 0) ?_
  have hI : xI h0 (ob_P h0) h0 0 0 F0 A0 := xI.start hR
  have hL : am_okL h0.length (am_args 0 [.inr (.inr (some 4))]) = true := (okA_r hI.T oc4 okA_n)
  refine k_aload 1 rfl rfl rfl ?_
  refine x_gI hI 4 rfl oc4 rfl rfl rfl rfl (fun x1 (e2 : x1.toInt = F0 406) => ?_)
  by_cases b3 : x1 = 0
  · refine k_c1 17 rfl rfl (if_pos b3) ?_
    have b3 : F0 406 = 0 := by have h9 := iv_eq0.mp b3; rw [e2] at h9; exact h9
    refine k_aload 18 rfl rfl rfl ?_
    refine k_push 19 rfl rfl ?_
    have hc4 : (2 : Int32).toInt = 2 := by decide
    refine x_pI (fx_ok := fx_no rfl) hI 22 rfl oc4 rfl rfl rfl rfl (fun h5 I6 l7 => ?_)
    have L8 := okL_eq l7 hL
    have I9 : xI h0 (ob_P h0) h5 0 0 (up1 F0 406 (2)) A0 := by have h9 := I6; rw [hc4] at h9; exact h9
    refine k_push 23 rfl rfl ?_
    have hc10 : (0 : Int32).toInt = 0 := by decide
    exact k_fin rfl rfl ⟨_, _, _, _, _, _, rfl, I9, (by unfold p_X6_takeFunction; rw [if_pos b3]; exact hc10), (by unfold p_X6_takeFunction; rw [if_pos b3]), (by unfold p_X6_takeFunction; rw [if_pos b3])⟩
  · refine k_c1 7 rfl rfl (if_neg b3) ?_
    have b3 : ¬ (F0 406 = 0) := by have h9 := mt iv_eq0.mpr b3; rw [e2] at h9; exact h9
    refine k_aload 8 rfl rfl rfl ?_
    refine x_gI hI 11 rfl oc4 rfl rfl rfl rfl (fun x11 (e12 : x11.toInt = F0 406) => ?_)
    refine k_push 12 rfl rfl ?_
    have hc13 : (1 : Int32).toInt = 1 := by decide
    by_cases b14 : x11 = (1 : Int32)
    · refine k_c2 17 rfl rfl (if_pos b14) ?_
      have b14 : F0 406 = 1 := by have h9 := iv_eq.mp b14; rw [e12] at h9; rw [hc13] at h9; exact h9
      refine k_aload 18 rfl rfl rfl ?_
      refine k_push 19 rfl rfl ?_
      have hc15 : (2 : Int32).toInt = 2 := by decide
      refine x_pI (fx_ok := fx_no rfl) hI 22 rfl oc4 rfl rfl rfl rfl (fun h16 I17 l18 => ?_)
      have L19 := okL_eq l18 hL
      have I20 : xI h0 (ob_P h0) h16 0 0 (up1 F0 406 (2)) A0 := by have h9 := I17; rw [hc15] at h9; exact h9
      refine k_push 23 rfl rfl ?_
      have hc21 : (0 : Int32).toInt = 0 := by decide
      exact k_fin rfl rfl ⟨_, _, _, _, _, _, rfl, I20, (by unfold p_X6_takeFunction; rw [if_neg b3, if_pos b14]; exact hc21), (by unfold p_X6_takeFunction; rw [if_neg b3, if_pos b14]), (by unfold p_X6_takeFunction; rw [if_neg b3, if_pos b14])⟩
    · refine k_c2 15 rfl rfl (if_neg b14) ?_
      have b14 : ¬ (F0 406 = 1) := by have h9 := mt iv_eq.mpr b14; rw [e12] at h9; rw [hc13] at h9; exact h9
      refine k_push 16 rfl rfl ?_
      exact k_fin rfl rfl ⟨_, _, _, _, _, _, rfl, hI, (by unfold p_X6_takeFunction; rw [if_neg b3, if_neg b14]; exact hc13), (by unfold p_X6_takeFunction; rw [if_neg b3, if_neg b14]), (by unfold p_X6_takeFunction; rw [if_neg b3, if_neg b14])⟩
def p_X6_takePoint  (F0 : rf_f) (A0 : xl_A) : Int × rf_f × xl_A := if F0 406 = 3 then (0, (up1 F0 406 (1)), A0) else (1, F0, A0)
theorem n_X6_takePoint {h0 : am_h} {F0 : rf_f} {A0 : xl_A}    (hR : xR h0 F0 A0) : am_Mt 1 98 [.inr (.inr (some 4))] h0 (xQ h0 (fun x F' A' => x = (p_X6_takePoint F0 A0).1 ∧ F' = (p_X6_takePoint F0 A0).2.1 ∧ A' = (p_X6_takePoint F0 A0).2.2)) := by
  refine am_Mt.of (D := 0) ?_
  have hI : xI h0 (ob_P h0) h0 0 0 F0 A0 := xI.start hR
  have hL : am_okL h0.length (am_args 0 [.inr (.inr (some 4))]) = true := (okA_r hI.T oc4 okA_n)
  refine k_aload 1 rfl rfl rfl ?_
  refine x_gI hI 4 rfl oc4 rfl rfl rfl rfl (fun x1 (e2 : x1.toInt = F0 406) => ?_)
  refine k_push 5 rfl rfl ?_
  have hc3 : (3 : Int32).toInt = 3 := by decide
  by_cases b4 : x1 = (3 : Int32)
  · refine k_c2 10 rfl rfl (if_pos b4) ?_
    have b4 : F0 406 = 3 := by have h9 := iv_eq.mp b4; rw [e2] at h9; rw [hc3] at h9; exact h9
    refine k_aload 11 rfl rfl rfl ?_
    refine k_push 12 rfl rfl ?_
    have hc5 : (1 : Int32).toInt = 1 := by decide
    refine x_pI (fx_ok := fx_no rfl) hI 15 rfl oc4 rfl rfl rfl rfl (fun h6 I7 l8 => ?_)
    have L9 := okL_eq l8 hL
    have I10 : xI h0 (ob_P h0) h6 0 0 (up1 F0 406 (1)) A0 := by have h9 := I7; rw [hc5] at h9; exact h9
    refine k_push 16 rfl rfl ?_
    have hc11 : (0 : Int32).toInt = 0 := by decide
    exact k_fin rfl rfl ⟨_, _, _, _, _, _, rfl, I10, (by unfold p_X6_takePoint; rw [if_pos b4]; exact hc11), (by unfold p_X6_takePoint; rw [if_pos b4]), (by unfold p_X6_takePoint; rw [if_pos b4])⟩
  · refine k_c2 8 rfl rfl (if_neg b4) ?_
    have b4 : ¬ (F0 406 = 3) := by have h9 := mt iv_eq.mpr b4; rw [e2] at h9; rw [hc3] at h9; exact h9
    refine k_push 9 rfl rfl ?_
    have hc12 : (1 : Int32).toInt = 1 := by decide
    exact k_fin rfl rfl ⟨_, _, _, _, _, _, rfl, hI, (by unfold p_X6_takePoint; rw [if_neg b4]; exact hc12), (by unfold p_X6_takePoint; rw [if_neg b4]), (by unfold p_X6_takePoint; rw [if_neg b4])⟩
def p_X6_takeClosing  (F0 : rf_f) (A0 : xl_A) : Int × rf_f × xl_A := if F0 406 = 4 then if (((A0 11).length : Nat) : Int) = 0 then (1, F0, A0) else (0, (up1 (up1 F0 408 (((A0 11).dropLast).getLastD 0)) 407 ((((A0 11).dropLast).dropLast).getLastD 0)), (upl ((upl ((upl (upl A0 11 (A0 11).dropLast) 9 (cutl (A0 9) ((A0 11).getLastD 0)))) 11 ((A0 11).dropLast).dropLast)) 11 (((A0 11).dropLast).dropLast).dropLast)) else (1, F0, A0)
theorem n_X6_takeClosing {h0 : am_h} {F0 : rf_f} {A0 : xl_A}    (hR : xR h0 F0 A0) : am_Mt 2 96 [.inr (.inr (some 4))] h0 (xQ h0 (fun x F' A' => x = (p_X6_takeClosing F0 A0).1 ∧ F' = (p_X6_takeClosing F0 A0).2.1 ∧ A' = (p_X6_takeClosing F0 A0).2.2)) := by
  refine am_Mt.of (D := 1) ?_
  have hI : xI h0 (ob_P h0) h0 0 0 F0 A0 := xI.start hR
  have hL : am_okL h0.length (am_args 0 [.inr (.inr (some 4))]) = true := (okA_r hI.T oc4 okA_n)
  refine k_aload 1 rfl rfl rfl ?_
  refine x_gI hI 4 rfl oc4 rfl rfl rfl rfl (fun x1 (e2 : x1.toInt = F0 406) => ?_)
  refine k_push 5 rfl rfl ?_
  have hc3 : (4 : Int32).toInt = 4 := by decide
  by_cases b4 : x1 = (4 : Int32)
  · refine k_c2 8 rfl rfl (if_pos b4) ?_
    have b4 : F0 406 = 4 := by have h9 := iv_eq.mp b4; rw [e2] at h9; rw [hc3] at h9; exact h9
    refine k_aload 9 rfl rfl rfl ?_
    refine x_gF 11 hI 12 rfl rfl (by decide) rfl ?_
    refine k_xq hI rfl (xv_size hI.1 or11) rfl rfl rfl (ty_H.rc3 hI.T or11) hL so_n ?_
    rintro x5 h6 c7 s8 F9 A10 I11 L12 ⟨e13, k14, k15⟩
    replace k14 := k14.symm
    subst k14
    replace k15 := k15.symm
    subst k15
    show am_Ok _ _ _ (15, _, [.inl x5], _, c7, s8) _
    by_cases b16 : x5 = 0
    · refine k_c1 18 rfl rfl (if_pos b16) ?_
      have b16 : (((A0 11).length : Nat) : Int) = 0 := by have h9 := iv_eq0.mp b16; rw [e13] at h9; exact h9
      refine k_push 19 rfl rfl ?_
      have hc17 : (1 : Int32).toInt = 1 := by decide
      exact k_fin rfl rfl ⟨_, _, _, _, _, _, rfl, I11, (by unfold p_X6_takeClosing; rw [if_pos b4, if_pos b16]; exact hc17), (by unfold p_X6_takeClosing; rw [if_pos b4, if_pos b16]), (by unfold p_X6_takeClosing; rw [if_pos b4, if_pos b16])⟩
    · refine k_c1 20 rfl rfl (if_neg b16) ?_
      have b16 : ¬ ((((A0 11).length : Nat) : Int) = 0) := by have h9 := mt iv_eq0.mpr b16; rw [e13] at h9; exact h9
      refine k_aload 21 rfl rfl rfl ?_
      refine x_gF 9 I11 24 rfl rfl (by decide) rfl ?_
      refine k_aload 25 rfl rfl rfl ?_
      refine x_gF 11 I11 28 rfl rfl (by decide) rfl ?_
      refine k_xq I11 rfl (xv_takeLast I11.1 or11) rfl rfl rfl (ty_H.rc3 I11.T or11) L12 (xo_r I11 ol9 so_n) ?_
      rintro x18 h19 c20 s21 F22 A23 I24 L25 ⟨e26, k27, k28⟩
      replace k27 := k27.symm
      subst k27
      replace k28 := k28.symm
      subst k28
      show am_Ok _ _ _ (31, _, [.inl x18, .inr (.inr (some 9))], _, c20, s21) _
      refine k_xv I24 rfl (y_cut e26 I24.1 or9) rfl rfl rfl (ty_H.rc3 I24.T or9) L25 so_n ?_
      rintro h30 c31 s32 F33 A34 I35 L36 ⟨k38, k39⟩
      replace k38 := k38.symm
      subst k38
      replace k39 := k39.symm
      subst k39
      show am_Ok _ _ _ (34, _, [], _, c31, s32) _
      refine k_aload 35 rfl rfl rfl ?_
      refine k_aload 36 rfl rfl rfl ?_
      refine x_gF 11 I35 39 rfl rfl (by decide) rfl ?_
      refine k_xq I35 rfl (xv_takeLast I35.1 or11) rfl rfl rfl (ty_H.rc3 I35.T or11) L36 (xo_r I35 oc4 so_n) ?_
      rintro x40 h41 c42 s43 F44 A45 I46 L47 ⟨e48, k49, k50⟩
      replace k49 := k49.symm
      subst k49
      replace k50 := k50.symm
      subst k50
      show am_Ok _ _ _ (42, _, [.inl x40, .inr (.inr (some 4))], _, c42, s43) _
      refine x_pI (fx_ok := fx_no rfl) I46 45 rfl oc4 rfl rfl rfl rfl (fun h51 I52 l53 => ?_)
      have L54 := okL_eq l53 L47
      have I55 : xI h0 (ob_P h0) h51 c42 s43 (up1 F0 408 (((A0 11).dropLast).getLastD 0)) (upl ((upl (upl A0 11 (A0 11).dropLast) 9 (cutl (A0 9) ((A0 11).getLastD 0)))) 11 ((A0 11).dropLast).dropLast) := by have h9 := I52; rw [e48] at h9; exact h9
      refine k_aload 46 rfl rfl rfl ?_
      refine k_aload 47 rfl rfl rfl ?_
      refine x_gF 11 I55 50 rfl rfl (by decide) rfl ?_
      refine k_xq I55 rfl (xv_takeLast I55.1 or11) rfl rfl rfl (ty_H.rc3 I55.T or11) L54 (xo_r I55 oc4 so_n) ?_
      rintro x56 h57 c58 s59 F60 A61 I62 L63 ⟨e64, k65, k66⟩
      replace k65 := k65.symm
      subst k65
      replace k66 := k66.symm
      subst k66
      show am_Ok _ _ _ (53, _, [.inl x56, .inr (.inr (some 4))], _, c58, s59) _
      refine x_pI (fx_ok := fx_no rfl) I62 56 rfl oc4 rfl rfl rfl rfl (fun h67 I68 l69 => ?_)
      have L70 := okL_eq l69 L63
      have I71 : xI h0 (ob_P h0) h67 c58 s59 (up1 (up1 F0 408 (((A0 11).dropLast).getLastD 0)) 407 ((((A0 11).dropLast).dropLast).getLastD 0)) (upl ((upl ((upl (upl A0 11 (A0 11).dropLast) 9 (cutl (A0 9) ((A0 11).getLastD 0)))) 11 ((A0 11).dropLast).dropLast)) 11 (((A0 11).dropLast).dropLast).dropLast) := by have h9 := I68; rw [e64] at h9; exact h9
      refine k_push 57 rfl rfl ?_
      have hc72 : (0 : Int32).toInt = 0 := by decide
      exact k_fin rfl rfl ⟨_, _, _, _, _, _, rfl, I71, (by unfold p_X6_takeClosing; rw [if_pos b4, if_neg b16]; exact hc72), (by unfold p_X6_takeClosing; rw [if_pos b4, if_neg b16]), (by unfold p_X6_takeClosing; rw [if_pos b4, if_neg b16])⟩
  · refine k_c2 18 rfl rfl (if_neg b4) ?_
    have b4 : ¬ (F0 406 = 4) := by have h9 := mt iv_eq.mpr b4; rw [e2] at h9; rw [hc3] at h9; exact h9
    refine k_push 19 rfl rfl ?_
    have hc73 : (1 : Int32).toInt = 1 := by decide
    exact k_fin rfl rfl ⟨_, _, _, _, _, _, rfl, hI, (by unfold p_X6_takeClosing; rw [if_neg b4]; exact hc73), (by unfold p_X6_takeClosing; rw [if_neg b4]), (by unfold p_X6_takeClosing; rw [if_neg b4])⟩
def p_X6_takeOpening  (F0 : rf_f) (A0 : xl_A) : Int × rf_f × xl_A := if (p_X6_isAtomDue F0 A0).1 = 0 then (1, F0, A0) else if (((A0 11).length : Nat) : Int) < 36 then (0, (up1 ((up1 ((p_X6_beginAtom F0 A0).2.1) 408 (0))) 406 (1)), (addl 11 ((addl 11 ((addl 11 ((p_X6_beginAtom F0 A0).2.2) ((p_X6_beginAtom F0 A0).2.1 407))) ((p_X6_beginAtom F0 A0).2.1 408))) (((((addl 11 ((addl 11 ((p_X6_beginAtom F0 A0).2.2) ((p_X6_beginAtom F0 A0).2.1 407))) ((p_X6_beginAtom F0 A0).2.1 408)) 9).length : Nat) : Int)))) else (2, F0, A0)
theorem n_X6_takeOpening {h0 : am_h} {F0 : rf_f} {A0 : xl_A}    (hR : xR h0 F0 A0) : am_Mt 4 95 [.inr (.inr (some 4))] h0 (xQ h0 (fun x F' A' => x = (p_X6_takeOpening F0 A0).1 ∧ F' = (p_X6_takeOpening F0 A0).2.1 ∧ A' = (p_X6_takeOpening F0 A0).2.2)) := by
  refine am_Mt.of (D := 3) ?_
  have hI : xI h0 (ob_P h0) h0 0 0 F0 A0 := xI.start hR
  have hL : am_okL h0.length (am_args 0 [.inr (.inr (some 4))]) = true := (okA_r hI.T oc4 okA_n)
  refine k_aload 1 rfl rfl rfl ?_
  refine k_xq hI rfl (n_X6_isAtomDue    hI.1) rfl rfl rfl (hI.T.rc oc4 rfl) hL so_n ?_
  rintro x1 h2 c3 s4 F5 A6 I7 L8 ⟨e9, k10, k11⟩
  replace k10 := k10.trans f_X6_isAtomDue.1
  replace k11 := k11.trans f_X6_isAtomDue.2
  replace k10 := k10.symm
  subst k10
  replace k11 := k11.symm
  subst k11
  have z12 := iv_01 (x := x1) (by rw [e9]; exact z_X6_isAtomDue)
  show am_Ok _ _ _ (4, _, [.inl x1], _, c3, s4) _
  by_cases b13 : x1 = 0
  · refine k_c1 7 rfl rfl (if_pos b13) ?_
    have b13 : (p_X6_isAtomDue F0 A0).1 = 0 := by have h9 := iv_eq0.mp b13; rw [e9] at h9; exact h9
    refine k_push 8 rfl rfl ?_
    have hc14 : (1 : Int32).toInt = 1 := by decide
    exact k_fin rfl rfl ⟨_, _, _, _, _, _, rfl, I7, (by unfold p_X6_takeOpening; rw [if_pos b13]; exact hc14), (by unfold p_X6_takeOpening; rw [if_pos b13]), (by unfold p_X6_takeOpening; rw [if_pos b13])⟩
  · refine k_c1 9 rfl rfl (if_neg b13) ?_
    have b13 : ¬ ((p_X6_isAtomDue F0 A0).1 = 0) := by have h9 := mt iv_eq0.mpr b13; rw [e9] at h9; exact h9
    refine k_aload 10 rfl rfl rfl ?_
    refine x_gF 11 I7 13 rfl rfl (by decide) rfl ?_
    refine k_xq I7 rfl (xv_size I7.1 or11) rfl rfl rfl (ty_H.rc3 I7.T or11) L8 so_n ?_
    rintro x15 h16 c17 s18 F19 A20 I21 L22 ⟨e23, k24, k25⟩
    replace k24 := k24.symm
    subst k24
    replace k25 := k25.symm
    subst k25
    show am_Ok _ _ _ (16, _, [.inl x15], _, c17, s18) _
    refine k_push 18 rfl rfl ?_
    have hc26 : (36 : Int32).toInt = 36 := by decide
    by_cases b27 : x15 < (36 : Int32)
    · refine k_c2 23 rfl rfl (if_pos b27) ?_
      have b27 : (((A0 11).length : Nat) : Int) < 36 := by have h9 := iv_lt.mp b27; rw [e23] at h9; rw [hc26] at h9; exact h9
      refine k_aload 24 rfl rfl rfl ?_
      refine k_xv I21 rfl (n_X6_beginAtom    I21.1) rfl rfl rfl (I21.T.rc oc4 rfl) L22 so_n ?_
      rintro h29 c30 s31 F32 A33 I34 L35 ⟨k37, k38⟩
      replace k37 := k37.symm
      subst k37
      replace k38 := k38.symm
      subst k38
      show am_Ok _ _ _ (27, _, [], _, c30, s31) _
      refine k_aload 28 rfl rfl rfl ?_
      refine x_gF 11 I34 31 rfl rfl (by decide) rfl ?_
      refine k_aload 32 rfl rfl rfl ?_
      refine x_gI I34 35 rfl oc4 rfl rfl rfl rfl (fun x39 (e40 : x39.toInt = (p_X6_beginAtom F0 A0).2.1 407) => ?_)
      refine k_xq I34 rfl (y_add e40 I34.1 or11) rfl rfl rfl (ty_H.rc3 I34.T or11) L35 so_n ?_
      rintro x41 h42 c43 s44 F45 A46 I47 L48 ⟨e49, k50, k51⟩
      replace k50 := k50.symm
      subst k50
      replace k51 := k51.symm
      subst k51
      have z52 := iv_01 (x := x41) (by rw [e49]; exact (addr_01))
      show am_Ok _ _ _ (38, _, [.inl x41], _, c43, s44) _
      refine k_pop 39 rfl rfl rfl ?_
      refine k_aload 40 rfl rfl rfl ?_
      refine x_gF 11 I47 43 rfl rfl (by decide) rfl ?_
      refine k_aload 44 rfl rfl rfl ?_
      refine x_gI I47 47 rfl oc4 rfl rfl rfl rfl (fun x53 (e54 : x53.toInt = (p_X6_beginAtom F0 A0).2.1 408) => ?_)
      refine k_xq I47 rfl (y_add e54 I47.1 or11) rfl rfl rfl (ty_H.rc3 I47.T or11) L48 so_n ?_
      rintro x55 h56 c57 s58 F59 A60 I61 L62 ⟨e63, k64, k65⟩
      replace k64 := k64.symm
      subst k64
      replace k65 := k65.symm
      subst k65
      have z66 := iv_01 (x := x55) (by rw [e63]; exact (addr_01))
      show am_Ok _ _ _ (50, _, [.inl x55], _, c57, s58) _
      refine k_pop 51 rfl rfl rfl ?_
      refine k_aload 52 rfl rfl rfl ?_
      refine x_gF 11 I61 55 rfl rfl (by decide) rfl ?_
      refine k_aload 56 rfl rfl rfl ?_
      refine x_gF 9 I61 59 rfl rfl (by decide) rfl ?_
      refine k_xq I61 rfl (xv_size I61.1 or9) rfl rfl rfl (ty_H.rc3 I61.T or9) L62 (xo_r I61 ol11 so_n) ?_
      rintro x67 h68 c69 s70 F71 A72 I73 L74 ⟨e75, k76, k77⟩
      replace k76 := k76.symm
      subst k76
      replace k77 := k77.symm
      subst k77
      show am_Ok _ _ _ (62, _, [.inl x67, .inr (.inr (some 11))], _, c69, s70) _
      refine k_xq I73 rfl (y_add e75 I73.1 or11) rfl rfl rfl (ty_H.rc3 I73.T or11) L74 so_n ?_
      rintro x78 h79 c80 s81 F82 A83 I84 L85 ⟨e86, k87, k88⟩
      replace k87 := k87.symm
      subst k87
      replace k88 := k88.symm
      subst k88
      have z89 := iv_01 (x := x78) (by rw [e86]; exact (addr_01))
      show am_Ok _ _ _ (65, _, [.inl x78], _, c80, s81) _
      refine k_pop 66 rfl rfl rfl ?_
      refine k_aload 67 rfl rfl rfl ?_
      refine k_push 68 rfl rfl ?_
      have hc90 : (0 : Int32).toInt = 0 := by decide
      refine x_pI (fx_ok := fx_no rfl) I84 71 rfl oc4 rfl rfl rfl rfl (fun h91 I92 l93 => ?_)
      have L94 := okL_eq l93 L85
      have I95 : xI h0 (ob_P h0) h91 c80 s81 (up1 ((p_X6_beginAtom F0 A0).2.1) 408 (0)) (addl 11 ((addl 11 ((addl 11 ((p_X6_beginAtom F0 A0).2.2) ((p_X6_beginAtom F0 A0).2.1 407))) ((p_X6_beginAtom F0 A0).2.1 408))) (((((addl 11 ((addl 11 ((p_X6_beginAtom F0 A0).2.2) ((p_X6_beginAtom F0 A0).2.1 407))) ((p_X6_beginAtom F0 A0).2.1 408)) 9).length : Nat) : Int))) := by have h9 := I92; rw [hc90] at h9; exact h9
      refine k_aload 72 rfl rfl rfl ?_
      refine k_push 73 rfl rfl ?_
      have hc96 : (1 : Int32).toInt = 1 := by decide
      refine x_pI (fx_ok := fx_no rfl) I95 76 rfl oc4 rfl rfl rfl rfl (fun h97 I98 l99 => ?_)
      have L100 := okL_eq l99 L94
      have I101 : xI h0 (ob_P h0) h97 c80 s81 (up1 ((up1 ((p_X6_beginAtom F0 A0).2.1) 408 (0))) 406 (1)) (addl 11 ((addl 11 ((addl 11 ((p_X6_beginAtom F0 A0).2.2) ((p_X6_beginAtom F0 A0).2.1 407))) ((p_X6_beginAtom F0 A0).2.1 408))) (((((addl 11 ((addl 11 ((p_X6_beginAtom F0 A0).2.2) ((p_X6_beginAtom F0 A0).2.1 407))) ((p_X6_beginAtom F0 A0).2.1 408)) 9).length : Nat) : Int))) := by have h9 := I98; rw [hc96] at h9; exact h9
      refine k_push 77 rfl rfl ?_
      exact k_fin rfl rfl ⟨_, _, _, _, _, _, rfl, I101, (by unfold p_X6_takeOpening; rw [if_neg b13, if_pos b27]; exact hc90), (by unfold p_X6_takeOpening; rw [if_neg b13, if_pos b27]), (by unfold p_X6_takeOpening; rw [if_neg b13, if_pos b27])⟩
    · refine k_c2 21 rfl rfl (if_neg b27) ?_
      have b27 : ¬ ((((A0 11).length : Nat) : Int) < 36) := by have h9 := mt iv_lt.mpr b27; rw [e23] at h9; rw [hc26] at h9; exact h9
      refine k_push 22 rfl rfl ?_
      have hc102 : (2 : Int32).toInt = 2 := by decide
      exact k_fin rfl rfl ⟨_, _, _, _, _, _, rfl, I21, (by unfold p_X6_takeOpening; rw [if_neg b13, if_neg b27]; exact hc102), (by unfold p_X6_takeOpening; rw [if_neg b13, if_neg b27]), (by unfold p_X6_takeOpening; rw [if_neg b13, if_neg b27])⟩
def p_X6_takeNumber  (F0 : rf_f) (A0 : xl_A) : Int × rf_f × xl_A := if (p_X6_isAtomDue F0 A0).1 = 0 then (1, F0, A0) else if bm (F0 1503 - F0 1502) ≤ 1 then (0, (up1 ((p_X6_beginAtom F0 A0).2.1) 406 (4)), (addl 5 ((p_X6_beginAtom F0 A0).2.2) (bm ((-1) - bm (gl ((p_X6_beginAtom F0 A0).2.2 2) ((p_X6_beginAtom F0 A0).2.1 1502) - 48))))) else (2, F0, A0)
theorem n_X6_takeNumber {h0 : am_h} {F0 : rf_f} {A0 : xl_A}    (hR : xR h0 F0 A0) : am_Mt 4 94 [.inr (.inr (some 4))] h0 (xQ h0 (fun x F' A' => x = (p_X6_takeNumber F0 A0).1 ∧ F' = (p_X6_takeNumber F0 A0).2.1 ∧ A' = (p_X6_takeNumber F0 A0).2.2)) := by
  refine am_Mt.of (D := 3) ?_
  have hI : xI h0 (ob_P h0) h0 0 0 F0 A0 := xI.start hR
  have hL : am_okL h0.length (am_args 0 [.inr (.inr (some 4))]) = true := (okA_r hI.T oc4 okA_n)
  refine k_aload 1 rfl rfl rfl ?_
  refine k_xq hI rfl (n_X6_isAtomDue    hI.1) rfl rfl rfl (hI.T.rc oc4 rfl) hL so_n ?_
  rintro x1 h2 c3 s4 F5 A6 I7 L8 ⟨e9, k10, k11⟩
  replace k10 := k10.trans f_X6_isAtomDue.1
  replace k11 := k11.trans f_X6_isAtomDue.2
  replace k10 := k10.symm
  subst k10
  replace k11 := k11.symm
  subst k11
  have z12 := iv_01 (x := x1) (by rw [e9]; exact z_X6_isAtomDue)
  show am_Ok _ _ _ (4, _, [.inl x1], _, c3, s4) _
  by_cases b13 : x1 = 0
  · refine k_c1 7 rfl rfl (if_pos b13) ?_
    have b13 : (p_X6_isAtomDue F0 A0).1 = 0 := by have h9 := iv_eq0.mp b13; rw [e9] at h9; exact h9
    refine k_push 8 rfl rfl ?_
    have hc14 : (1 : Int32).toInt = 1 := by decide
    exact k_fin rfl rfl ⟨_, _, _, _, _, _, rfl, I7, (by unfold p_X6_takeNumber; rw [if_pos b13]; exact hc14), (by unfold p_X6_takeNumber; rw [if_pos b13]), (by unfold p_X6_takeNumber; rw [if_pos b13])⟩
  · refine k_c1 9 rfl rfl (if_neg b13) ?_
    have b13 : ¬ ((p_X6_isAtomDue F0 A0).1 = 0) := by have h9 := mt iv_eq0.mpr b13; rw [e9] at h9; exact h9
    refine k_aload 10 rfl rfl rfl ?_
    refine x_gF 15 I7 13 rfl rfl (by decide) rfl ?_
    refine k_xq I7 rfl (n_X7_end    I7.1) rfl rfl rfl (I7.T.rc oc15 rfl) L8 so_n ?_
    rintro x15 h16 c17 s18 F19 A20 I21 L22 ⟨e23, k24, k25⟩
    replace k24 : F19 = F0 := k24
    replace k25 : A20 = A0 := k25
    replace e23 : x15.toInt = F0 1503 := e23
    replace k24 := k24.symm
    subst k24
    replace k25 := k25.symm
    subst k25
    show am_Ok _ _ _ (16, _, [.inl x15], _, c17, s18) _
    refine k_aload 17 rfl rfl rfl ?_
    refine x_gF 15 I21 20 rfl rfl (by decide) rfl ?_
    refine k_xq I21 rfl (n_X7_start    I21.1) rfl rfl rfl (I21.T.rc oc15 rfl) L22 (so_i so_n) ?_
    rintro x26 h27 c28 s29 F30 A31 I32 L33 ⟨e34, k35, k36⟩
    replace k35 : F30 = F0 := k35
    replace k36 : A31 = A0 := k36
    replace e34 : x26.toInt = F0 1502 := e34
    replace k35 := k35.symm
    subst k35
    replace k36 := k36.symm
    subst k36
    show am_Ok _ _ _ (23, _, [.inl x26, .inl x15], _, c28, s29) _
    obtain ⟨x37, q38⟩ : ∃ q : Int32, q = x15 - x26 := ⟨_, rfl⟩
    have e39 : x37.toInt = bm (F0 1503 - F0 1502) := bm_sub q38 e23 e34
    refine k_bin x37 24 rfl q38.symm rfl ?_
    refine k_push 25 rfl rfl ?_
    have hc40 : (1 : Int32).toInt = 1 := by decide
    by_cases b41 : x37 ≤ (1 : Int32)
    · refine k_c2 30 rfl rfl (if_pos b41) ?_
      have b41 : bm (F0 1503 - F0 1502) ≤ 1 := by have h9 := iv_le.mp b41; rw [e39] at h9; rw [hc40] at h9; exact h9
      refine k_aload 31 rfl rfl rfl ?_
      refine k_xv I32 rfl (n_X6_beginAtom    I32.1) rfl rfl rfl (I32.T.rc oc4 rfl) L33 so_n ?_
      rintro h43 c44 s45 F46 A47 I48 L49 ⟨k51, k52⟩
      replace k51 := k51.symm
      subst k51
      replace k52 := k52.symm
      subst k52
      show am_Ok _ _ _ (34, _, [], _, c44, s45) _
      refine k_aload 35 rfl rfl rfl ?_
      refine x_gF 5 I48 38 rfl rfl (by decide) rfl ?_
      refine k_push 39 rfl rfl ?_
      have hc53 : (-1 : Int32).toInt = -1 := by decide
      refine k_aload 40 rfl rfl rfl ?_
      refine x_gF 15 I48 43 rfl rfl (by decide) rfl ?_
      refine k_xq I48 rfl (n_X7_figure    I48.1) rfl rfl rfl (I48.T.rc oc15 rfl) L49 (so_i (xo_r I48 ol5 so_n)) ?_
      rintro x54 h55 c56 s57 F58 A59 I60 L61 ⟨e62, k63, k64⟩
      replace k63 : F58 = (p_X6_beginAtom F0 A0).2.1 := k63
      replace k64 : A59 = (p_X6_beginAtom F0 A0).2.2 := k64
      replace e62 : x54.toInt = bm (gl ((p_X6_beginAtom F0 A0).2.2 2) ((p_X6_beginAtom F0 A0).2.1 1502) - 48) := e62
      replace k63 := k63.symm
      subst k63
      replace k64 := k64.symm
      subst k64
      show am_Ok _ _ _ (46, _, [.inl x54, .inl (-1 : Int32), .inr (.inr (some 5))], _, c56, s57) _
      obtain ⟨x65, q66⟩ : ∃ q : Int32, q = (-1 : Int32) - x54 := ⟨_, rfl⟩
      have e67 : x65.toInt = bm ((-1) - bm (gl ((p_X6_beginAtom F0 A0).2.2 2) ((p_X6_beginAtom F0 A0).2.1 1502) - 48)) := bm_sub q66 hc53 e62
      refine k_bin x65 47 rfl q66.symm rfl ?_
      refine k_xq I60 rfl (y_add e67 I60.1 or5) rfl rfl rfl (ty_H.rc3 I60.T or5) L61 so_n ?_
      rintro x68 h69 c70 s71 F72 A73 I74 L75 ⟨e76, k77, k78⟩
      replace k77 := k77.symm
      subst k77
      replace k78 := k78.symm
      subst k78
      have z79 := iv_01 (x := x68) (by rw [e76]; exact (addr_01))
      show am_Ok _ _ _ (50, _, [.inl x68], _, c70, s71) _
      refine k_pop 51 rfl rfl rfl ?_
      refine k_aload 52 rfl rfl rfl ?_
      refine k_push 53 rfl rfl ?_
      have hc80 : (4 : Int32).toInt = 4 := by decide
      refine x_pI (fx_ok := fx_no rfl) I74 56 rfl oc4 rfl rfl rfl rfl (fun h81 I82 l83 => ?_)
      have L84 := okL_eq l83 L75
      have I85 : xI h0 (ob_P h0) h81 c70 s71 (up1 ((p_X6_beginAtom F0 A0).2.1) 406 (4)) (addl 5 ((p_X6_beginAtom F0 A0).2.2) (bm ((-1) - bm (gl ((p_X6_beginAtom F0 A0).2.2 2) ((p_X6_beginAtom F0 A0).2.1 1502) - 48)))) := by have h9 := I82; rw [hc80] at h9; exact h9
      refine k_push 57 rfl rfl ?_
      have hc86 : (0 : Int32).toInt = 0 := by decide
      exact k_fin rfl rfl ⟨_, _, _, _, _, _, rfl, I85, (by unfold p_X6_takeNumber; rw [if_neg b13, if_pos b41]; exact hc86), (by unfold p_X6_takeNumber; rw [if_neg b13, if_pos b41]), (by unfold p_X6_takeNumber; rw [if_neg b13, if_pos b41])⟩
    · refine k_c2 28 rfl rfl (if_neg b41) ?_
      have b41 : ¬ (bm (F0 1503 - F0 1502) ≤ 1) := by have h9 := mt iv_le.mpr b41; rw [e39] at h9; rw [hc40] at h9; exact h9
      refine k_push 29 rfl rfl ?_
      have hc87 : (2 : Int32).toInt = 2 := by decide
      exact k_fin rfl rfl ⟨_, _, _, _, _, _, rfl, I32, (by unfold p_X6_takeNumber; rw [if_neg b13, if_neg b41]; exact hc87), (by unfold p_X6_takeNumber; rw [if_neg b13, if_neg b41]), (by unfold p_X6_takeNumber; rw [if_neg b13, if_neg b41])⟩
def p_X6_takeFunctionName  (F0 : rf_f) (A0 : xl_A) : Int × rf_f × xl_A := if (((A0 9).length : Nat) : Int) < 60 then (0, (up1 F0 406 (3)), (addl 5 ((addl 9 (addl 9 A0 (F0 1502)) (F0 1503))) (1))) else (2, F0, A0)
theorem n_X6_takeFunctionName {h0 : am_h} {F0 : rf_f} {A0 : xl_A}    (hR : xR h0 F0 A0) : am_Mt 3 91 [.inr (.inr (some 4))] h0 (xQ h0 (fun x F' A' => x = (p_X6_takeFunctionName F0 A0).1 ∧ F' = (p_X6_takeFunctionName F0 A0).2.1 ∧ A' = (p_X6_takeFunctionName F0 A0).2.2)) := by
  refine am_Mt.of (D := 2) ?_
  have hI : xI h0 (ob_P h0) h0 0 0 F0 A0 := xI.start hR
  have hL : am_okL h0.length (am_args 0 [.inr (.inr (some 4))]) = true := (okA_r hI.T oc4 okA_n)
  refine k_aload 1 rfl rfl rfl ?_
  refine x_gF 9 hI 4 rfl rfl (by decide) rfl ?_
  refine k_xq hI rfl (xv_size hI.1 or9) rfl rfl rfl (ty_H.rc3 hI.T or9) hL so_n ?_
  rintro x1 h2 c3 s4 F5 A6 I7 L8 ⟨e9, k10, k11⟩
  replace k10 := k10.symm
  subst k10
  replace k11 := k11.symm
  subst k11
  show am_Ok _ _ _ (7, _, [.inl x1], _, c3, s4) _
  refine k_push 9 rfl rfl ?_
  have hc12 : (60 : Int32).toInt = 60 := by decide
  by_cases b13 : x1 < (60 : Int32)
  · refine k_c2 14 rfl rfl (if_pos b13) ?_
    have b13 : (((A0 9).length : Nat) : Int) < 60 := by have h9 := iv_lt.mp b13; rw [e9] at h9; rw [hc12] at h9; exact h9
    refine k_aload 15 rfl rfl rfl ?_
    refine x_gF 9 I7 18 rfl rfl (by decide) rfl ?_
    refine k_aload 19 rfl rfl rfl ?_
    refine x_gF 15 I7 22 rfl rfl (by decide) rfl ?_
    refine k_xq I7 rfl (n_X7_start    I7.1) rfl rfl rfl (I7.T.rc oc15 rfl) L8 (xo_r I7 ol9 so_n) ?_
    rintro x14 h15 c16 s17 F18 A19 I20 L21 ⟨e22, k23, k24⟩
    replace k23 : F18 = F0 := k23
    replace k24 : A19 = A0 := k24
    replace e22 : x14.toInt = F0 1502 := e22
    replace k23 := k23.symm
    subst k23
    replace k24 := k24.symm
    subst k24
    show am_Ok _ _ _ (25, _, [.inl x14, .inr (.inr (some 9))], _, c16, s17) _
    refine k_xq I20 rfl (y_add e22 I20.1 or9) rfl rfl rfl (ty_H.rc3 I20.T or9) L21 so_n ?_
    rintro x25 h26 c27 s28 F29 A30 I31 L32 ⟨e33, k34, k35⟩
    replace k34 := k34.symm
    subst k34
    replace k35 := k35.symm
    subst k35
    have z36 := iv_01 (x := x25) (by rw [e33]; exact (addr_01))
    show am_Ok _ _ _ (28, _, [.inl x25], _, c27, s28) _
    refine k_pop 29 rfl rfl rfl ?_
    refine k_aload 30 rfl rfl rfl ?_
    refine x_gF 9 I31 33 rfl rfl (by decide) rfl ?_
    refine k_aload 34 rfl rfl rfl ?_
    refine x_gF 15 I31 37 rfl rfl (by decide) rfl ?_
    refine k_xq I31 rfl (n_X7_end    I31.1) rfl rfl rfl (I31.T.rc oc15 rfl) L32 (xo_r I31 ol9 so_n) ?_
    rintro x37 h38 c39 s40 F41 A42 I43 L44 ⟨e45, k46, k47⟩
    replace k46 : F41 = F0 := k46
    replace k47 : A42 = (addl 9 A0 (F0 1502)) := k47
    replace e45 : x37.toInt = F0 1503 := e45
    replace k46 := k46.symm
    subst k46
    replace k47 := k47.symm
    subst k47
    show am_Ok _ _ _ (40, _, [.inl x37, .inr (.inr (some 9))], _, c39, s40) _
    refine k_xq I43 rfl (y_add e45 I43.1 or9) rfl rfl rfl (ty_H.rc3 I43.T or9) L44 so_n ?_
    rintro x48 h49 c50 s51 F52 A53 I54 L55 ⟨e56, k57, k58⟩
    replace k57 := k57.symm
    subst k57
    replace k58 := k58.symm
    subst k58
    have z59 := iv_01 (x := x48) (by rw [e56]; exact (addr_01))
    show am_Ok _ _ _ (43, _, [.inl x48], _, c50, s51) _
    refine k_pop 44 rfl rfl rfl ?_
    refine k_aload 45 rfl rfl rfl ?_
    refine x_gF 5 I54 48 rfl rfl (by decide) rfl ?_
    refine k_push 49 rfl rfl ?_
    have hc60 : (1 : Int32).toInt = 1 := by decide
    refine k_xq I54 rfl (y_add hc60 I54.1 or5) rfl rfl rfl (ty_H.rc3 I54.T or5) L55 so_n ?_
    rintro x61 h62 c63 s64 F65 A66 I67 L68 ⟨e69, k70, k71⟩
    replace k70 := k70.symm
    subst k70
    replace k71 := k71.symm
    subst k71
    have z72 := iv_01 (x := x61) (by rw [e69]; exact (addr_01))
    show am_Ok _ _ _ (52, _, [.inl x61], _, c63, s64) _
    refine k_pop 53 rfl rfl rfl ?_
    refine k_aload 54 rfl rfl rfl ?_
    refine k_push 55 rfl rfl ?_
    have hc73 : (3 : Int32).toInt = 3 := by decide
    refine x_pI (fx_ok := fx_no rfl) I67 58 rfl oc4 rfl rfl rfl rfl (fun h74 I75 l76 => ?_)
    have L77 := okL_eq l76 L68
    have I78 : xI h0 (ob_P h0) h74 c63 s64 (up1 F0 406 (3)) (addl 5 ((addl 9 (addl 9 A0 (F0 1502)) (F0 1503))) (1)) := by have h9 := I75; rw [hc73] at h9; exact h9
    refine k_push 59 rfl rfl ?_
    have hc79 : (0 : Int32).toInt = 0 := by decide
    exact k_fin rfl rfl ⟨_, _, _, _, _, _, rfl, I78, (by unfold p_X6_takeFunctionName; rw [if_pos b13]; exact hc79), (by unfold p_X6_takeFunctionName; rw [if_pos b13]), (by unfold p_X6_takeFunctionName; rw [if_pos b13])⟩
  · refine k_c2 12 rfl rfl (if_neg b13) ?_
    have b13 : ¬ ((((A0 9).length : Nat) : Int) < 60) := by have h9 := mt iv_lt.mpr b13; rw [e9] at h9; rw [hc12] at h9; exact h9
    refine k_push 13 rfl rfl ?_
    have hc80 : (2 : Int32).toInt = 2 := by decide
    exact k_fin rfl rfl ⟨_, _, _, _, _, _, rfl, I7, (by unfold p_X6_takeFunctionName; rw [if_neg b13]; exact hc80), (by unfold p_X6_takeFunctionName; rw [if_neg b13]), (by unfold p_X6_takeFunctionName; rw [if_neg b13])⟩
end
