/-! ROWS, exactly -/
section XW
variable {B c s i a : Nat} {h h1 h2 h0 : am_h} {mo z : Int32} {xs ys : Nat × Int32 × List Int32} {F : rf_f} {A : xl_A}
theorem upl_id : upl A i (A i) = A := by
  funext j
  by_cases e : j = i
  · subst e
    exact upl_eq
  · exact upl_ne e
theorem upl_idl {l : List Int} (e : l = A i) : upl A i l = A := by
  rw [e]
  exact upl_id
theorem gl_li {q : Int} : gl (ob_li z xs) q = if 0 ≤ q ∧ q < z.toInt then (xs.2.2.getD q.toNat xs.2.1).toInt else 0 := by
  unfold gl
  by_cases h1 : 0 ≤ q
  · rw [if_pos h1, List.getD_eq_getElem?_getD, li_get]
    by_cases h2 : q < z.toInt
    · rw [if_pos (show q.toNat < z.toInt.toNat by omega), if_pos ⟨h1, h2⟩]
      rfl
    · rw [if_neg (show ¬ q.toNat < z.toInt.toNat by omega), if_neg (fun e => h2 e.2)]
      rfl
  · rw [if_neg h1, if_neg (fun e => h1 e.1)]
theorem xw_size (hR : xR h F A) (hi : ob 3 i ∨ ob 11 i) : am_Mt 1 49 [.inr (.inr (some i))] h (xQ h (fun x F' A' => F' = F ∧ A' = A ∧ x = ((A i).length : Int))) := by
  obtain ⟨mo, z, a, xs, e1, e2, e3, e4, e5, e6, e7, eL⟩ := (xI.start hR).lst hi
  refine am_Mt.of (D := 0) ?_
  refine k_aload 1 rfl rfl rfl ?_
  refine k_get 4 rfl e1 rfl rfl ?_
  exact k_fin rfl rfl ⟨_, _, _, _, _, _, rfl, xI.start hR, rfl, rfl, by rw [eL, li_len]; omega⟩
theorem xw_get {x : Int32} (hR : xR h F A) (hi : ob 3 i ∨ ob 11 i) : am_Mt 1 50 [.inr (.inr (some i)), .inl x] h (xQ h (fun y F' A' => F' = F ∧ A' = A ∧ y = gl (A i) x.toInt)) := by
  obtain ⟨mo, z, a, xs, e1, e2, e3, e4, e5, e6, e7, eL⟩ := (xI.start hR).lst hi
  refine am_Mt.of (D := 0) ?_
  refine k_iload 1 rfl rfl rfl ?_
  by_cases b1 : x < 0
  · refine k_c1 21 rfl rfl (if_pos b1) ?_
    refine k_push 22 rfl rfl ?_
    exact k_fin rfl rfl ⟨_, _, _, _, _, _, rfl, xI.start hR, rfl, rfl, by rw [eL, gl_li, if_neg (fun e => by rw [iv_lt, iv_0] at b1; omega)]; exact iv_0⟩
  · refine k_c1 4 rfl rfl (if_neg b1) ?_
    refine k_iload 5 rfl rfl rfl ?_
    refine k_aload 6 rfl rfl rfl ?_
    refine k_get 9 rfl e1 rfl rfl ?_
    by_cases b2 : z ≤ x
    · refine k_c2 21 rfl rfl (if_pos b2) ?_
      refine k_push 22 rfl rfl ?_
      exact k_fin rfl rfl ⟨_, _, _, _, _, _, rfl, xI.start hR, rfl, rfl, by rw [eL, gl_li, if_neg (fun e => by rw [iv_le] at b2; omega)]; exact iv_0⟩
    · refine k_c2 12 rfl rfl (if_neg b2) ?_
      refine k_aload 13 rfl rfl rfl ?_
      refine k_get 16 rfl e1 rfl rfl ?_
      refine k_iload 17 rfl rfl rfl ?_
      refine k_iald 18 rfl e3.1 e2 b1 (by rw [iv_cl]; rw [iv_le] at b2; have := iv_nz b1; omega) rfl rfl ?_
      refine k_goto 22 rfl rfl ?_
      exact k_fin rfl rfl ⟨_, _, _, _, _, _, rfl, xI.start hR, rfl, rfl, by rw [eL, gl_li, if_pos ⟨iv_nz b1, by rw [iv_le] at b2; omega⟩]; rfl⟩
theorem li_set {q : Nat} {v : Int32} : ob_li z (xs.1, xs.2.1, am_up xs.2.1 xs.2.2 q v) = (ob_li z xs).set q v.toInt := by
  refine li_ext (by rw [List.length_set, li_len]) (fun p hp => ?_)
  show _ = some ((am_up xs.2.1 xs.2.2 q v).getD p xs.2.1).toInt
  rw [am_up_get]
  by_cases e : p = q
  · subst e
    rw [if_pos rfl, List.getElem?_set_self (by rw [li_len]; exact hp)]
  · rw [if_neg e, List.getElem?_set_ne (fun z => e z.symm), li_get, if_pos hp]
theorem xw_set {x y : Int32} (hR : xR h F A) (hi : ob 3 i ∨ ob 11 i) : am_Mt 1 51 [.inr (.inr (some i)), .inl x, .inl y] h (xV h (fun F' A' => F' = F ∧ A' = upl A i (ssl (A i) x.toInt y.toInt))) := by
  obtain ⟨mo, z, a, xs, e1, e2, e3, e4, e5, e6, e7, eL⟩ := (xI.start hR).lst hi
  have hT := hR.1
  refine am_Mt.of (D := 0) ?_
  refine k_iload 1 rfl rfl rfl ?_
  by_cases b1 : x < 0
  · refine k_c1 19 rfl rfl (if_pos b1) ?_
    exact k_fin rfl rfl ⟨_, _, _, _, _, rfl, xI.start hR, rfl, (upl_idl (by unfold ssl; rw [if_neg (by rw [iv_lt, iv_0] at b1; omega)])).symm⟩
  · refine k_c1 4 rfl rfl (if_neg b1) ?_
    refine k_iload 5 rfl rfl rfl ?_
    refine k_aload 6 rfl rfl rfl ?_
    refine k_get 9 rfl e1 rfl rfl ?_
    by_cases b2 : z ≤ x
    · refine k_c2 19 rfl rfl (if_pos b2) ?_
      exact k_fin rfl rfl ⟨_, _, _, _, _, rfl, xI.start hR, rfl, (upl_idl (by unfold ssl; rw [if_pos (iv_nz b1), List.set_eq_of_length_le (by rw [eL, li_len]; rw [iv_le] at b2; omega)])).symm⟩
    · refine k_c2 12 rfl rfl (if_neg b2) ?_
      refine k_aload 13 rfl rfl rfl ?_
      refine k_get 16 rfl e1 rfl rfl ?_
      refine k_iload 17 rfl rfl rfl ?_
      refine k_iload 18 rfl rfl rfl ?_
      refine k_iast 19 rfl e3.1 e2 b1 (by rw [iv_cl]; rw [iv_le] at b2; have := iv_nz b1; omega) rfl ?_
      obtain ⟨g1, g2, g3⟩ := ob_st.arr (ys := (xs.1, xs.2.1, am_up xs.2.1 xs.2.2 x.toNatClampNeg y)) hT.1 e1 e2 e3 e4 e5 e6 e7 rfl
      refine k_fin rfl rfl ⟨_, _, _, _, _, rfl, (xI.start hR).row hi g1 (l := ssl (A i) x.toInt y.toInt) ?_ (by rw [ob_p_same e1 e2 g2 g3 rfl]; exact Nat.le_refl _) (by rw [ob_p_same e1 e2 g2 g3 rfl]; exact Nat.le_refl _), rfl, rfl⟩
      rw [ob_l_eq g2 g3, li_set]
      unfold ssl
      rw [if_pos (iv_nz b1), eL]
      rfl
def cutl (l : List Int) (n : Int) : List Int := if 0 ≤ n then l.take n.toNat else l
theorem li_cut {x : Int32} (hx : 0 ≤ x.toInt ∧ x.toInt ≤ z.toInt) : ob_li x xs = (ob_li z xs).take x.toInt.toNat := by
  refine li_ext (by rw [List.length_take, li_len]; omega) (fun p hp => ?_)
  rw [List.getElem?_take_of_lt hp, li_get, if_pos (by omega)]
theorem xw_cut {x : Int32} (hR : xR h F A) (hi : ob 3 i ∨ ob 11 i) : am_Mt 1 56 [.inr (.inr (some i)), .inl x] h (xV h (fun F' A' => F' = F ∧ A' = upl A i (cutl (A i) x.toInt))) := by
  obtain ⟨mo, z, a, xs, e1, e2, e3, e4, e5, e6, e7, eL⟩ := (xI.start hR).lst hi
  have hT := hR.1
  refine am_Mt.of (D := 0) ?_
  refine k_iload 1 rfl rfl rfl ?_
  by_cases b1 : x < 0
  · refine k_c1 17 rfl rfl (if_pos b1) ?_
    exact k_fin rfl rfl ⟨_, _, _, _, _, rfl, xI.start hR, rfl, (upl_idl (by unfold cutl; rw [if_neg (by rw [iv_lt, iv_0] at b1; omega)])).symm⟩
  · refine k_c1 4 rfl rfl (if_neg b1) ?_
    refine k_iload 5 rfl rfl rfl ?_
    refine k_aload 6 rfl rfl rfl ?_
    refine k_get 9 rfl e1 rfl rfl ?_
    by_cases b2 : z ≤ x
    · refine k_c2 17 rfl rfl (if_pos b2) ?_
      exact k_fin rfl rfl ⟨_, _, _, _, _, rfl, xI.start hR, rfl, (upl_idl (by unfold cutl; rw [if_pos (iv_nz b1), List.take_of_length_le (by rw [eL, li_len]; rw [iv_le] at b2; omega)])).symm⟩
    · refine k_c2 12 rfl rfl (if_neg b2) ?_
      refine k_aload 13 rfl rfl rfl ?_
      refine k_iload 14 rfl rfl rfl ?_
      refine k_put 17 rfl e1 rfl (Nat.le_refl 3) rfl ?_
      have hx : 0 ≤ x.toInt ∧ x.toInt ≤ z.toInt := by rw [iv_le] at b2; have := iv_nz b1; omega
      obtain ⟨g1, g2, g3⟩ := ob_st.siz (z' := x) hT.1 e1 e2 e3 (by omega) e5 e6 e7
      refine k_fin rfl rfl ⟨_, _, _, _, _, rfl, (xI.start hR).row hi g1 (l := cutl (A i) x.toInt) ?_ (by rw [ob_p_same e1 e2 g2 g3 rfl]; exact Nat.le_refl _) (by rw [ob_p_same e1 e2 g2 g3 rfl]; exact Nat.le_refl _), rfl, rfl⟩
      rw [ob_l_eq g2 g3, li_cut hx]
      unfold cutl
      rw [if_pos hx.1, eL]
theorem xw_takeLast (hR : xR h F A) (hi : ob 3 i ∨ ob 11 i) : am_Mt 1 55 [.inr (.inr (some i))] h (xQ h (fun x F' A' => F' = F ∧ A' = upl A i (A i).dropLast ∧ x = (A i).getLastD 0)) := by
  obtain ⟨mo, z, a, xs, e1, e2, e3, e4, e5, e6, e7, eL⟩ := (xI.start hR).lst hi
  have hT := hR.1
  refine am_Mt.of (D := 0) ?_
  refine k_aload 1 rfl rfl rfl ?_
  refine k_get 4 rfl e1 rfl rfl ?_
  by_cases b1 : z = 0
  · refine k_c1 7 rfl rfl (if_pos b1) ?_
    refine k_push 8 rfl rfl ?_
    have e0 : A i = [] := by
      apply List.eq_nil_of_length_eq_zero
      rw [eL, li_len, b1]
      rfl
    exact k_fin rfl rfl ⟨_, _, _, _, _, _, rfl, xI.start hR, rfl, (upl_idl (by rw [e0]; rfl)).symm, by rw [e0]; exact iv_0⟩
  · refine k_c1 9 rfl rfl (if_neg b1) ?_
    rw [iv_eq, iv_0] at b1
    have hz : (z - 1).toInt = z.toInt - 1 := by
      have h9 := iv_hi z
      rw [iv_sub (by rw [iv_1]; omega) (by rw [iv_1]; omega), iv_1]
    refine k_aload 10 rfl rfl rfl ?_
    refine k_dup 11 rfl rfl rfl ?_
    refine k_get 14 rfl e1 rfl rfl ?_
    refine k_push 15 rfl rfl ?_
    refine k_bin _ 16 rfl rfl rfl ?_
    refine k_put 19 rfl e1 rfl (Nat.le_refl 3) rfl ?_
    obtain ⟨g1, g2, g3⟩ := ob_st.siz (z' := z - 1) hT.1 e1 e2 e3 (by omega) e5 e6 e7
    refine k_aload 20 rfl rfl rfl ?_
    refine k_get 23 rfl g2 rfl rfl ?_
    refine k_aload 24 rfl rfl rfl ?_
    refine k_get 27 rfl g2 rfl rfl ?_
    refine k_iald 28 rfl e3.1 g3 (iv_nn (by omega)) (by rw [iv_cl]; omega) rfl rfl ?_
    have hlen : (A i).length = z.toInt.toNat := by rw [eL, li_len]
    refine k_fin rfl rfl ⟨_, _, _, _, _, _, rfl, (xI.start hR).row hi g1 (l := (A i).dropLast) ?_ (by rw [ob_p_same e1 e2 g2 g3 rfl]; exact Nat.le_refl _) (by rw [ob_p_same e1 e2 g2 g3 rfl]; exact Nat.le_refl _), rfl, rfl, ?_⟩
    · rw [ob_l_eq g2 g3, li_cut (z := z) (by omega), List.dropLast_eq_take, hlen, eL, hz]
      congr 1
      omega
    · rw [List.getLastD_eq_getLast?, List.getLast?_eq_getElem?, hlen, eL, li_get, if_pos (by omega)]
      show _ = ((xs.2.2.getD (z.toInt.toNat - 1) xs.2.1).toInt)
      rw [iv_cl, hz]
      congr 3
      omega
theorem xw_copyOf {n : Int32} (hok : am_okH h.length h = true) (e2 : h[a]? = some (.inl (.inl xs))) (ha : a ≠ 0) (h1 : (xs.1 : Int) < n.toInt) (h2 : n.toInt ≤ 200000) : am_Mt 1 279 [.inr (.inr (some a)), .inl n] h (fun r => ∃ ys : Nat × Int32 × List Int32, ys.1 = n.toInt.toNat ∧ (∀ q, q < xs.1 → ys.2.2.getD q ys.2.1 = xs.2.2.getD q xs.2.1) ∧ r = (.inl (some (.inr (.inr (some h.length)))), h ++ [.inl (.inl ys)], 1, n.toInt.toNat)) := by
  have hal : a < h.length := (List.getElem?_eq_some_iff.mp e2).1
  have hn0 : ¬ n < 0 := iv_nn (by omega)
  have hcl : n.toNatClampNeg = n.toInt.toNat := rfl
  have hxs : xs.1 < 2147483648 := by omega
  have hne : ¬ n = Int32.ofNat xs.1 := fun e => by
    rw [e, iv_n xs.1 hxs] at h1
    omega
  refine am_Mt.of (D := 0) ?_
  refine k_iload 1 rfl rfl rfl ?_
  refine k_aload 2 rfl rfl rfl ?_
  refine k_alen 3 rfl ha e2 rfl ?_
  refine k_c2 14 rfl rfl (if_neg hne) ?_
  refine k_iload 15 rfl rfl rfl ?_
  refine k_newI 17 rfl ?_ hn0 (by rw [hcl]; omega) rfl ?_
  · show (am_okL h.length [(0, .inr (.inr (some a))), (1, .inl n)] && (([.inl n] : List am_v).all (am_okV h.length) && am_okH h.length h)) = true
    have e9 : am_okV h.length (.inr (.inr (some a))) = true := Nat.ble_eq_true_of_le hal
    rw [hok]
    simp only [am_okL, List.all_cons, e9, List.all_nil, Bool.and_self, Bool.true_and, Bool.and_true]
    rfl
  refine k_astore 18 rfl rfl ?_
  refine k_aload 19 rfl rfl rfl ?_
  refine k_push 20 rfl rfl ?_
  refine k_aload 21 rfl rfl rfl ?_
  refine k_push 22 rfl rfl ?_
  refine k_aload 23 rfl rfl rfl ?_
  have f2 : (h ++ [.inl (.inl (n.toNatClampNeg, 0, []))] : am_h)[a]? = some (.inl (.inl xs)) := by rw [List.getElem?_append_left hal]; exact e2
  have f3 : (h ++ [.inl (.inl (n.toNatClampNeg, 0, []))] : am_h)[h.length]? = some (.inl (.inl (n.toNatClampNeg, 0, []))) := by
    rw [List.getElem?_append_right (Nat.le_refl _), Nat.sub_self]
    rfl
  refine k_alen 24 rfl ha f2 rfl ?_
  refine k_iload 25 rfl rfl rfl ?_
  refine k_math 28 rfl rfl rfl ?_
  have hmin : (if n < Int32.ofNat xs.1 then n else Int32.ofNat xs.1) = Int32.ofNat xs.1 := if_neg (by rw [iv_lt, iv_n xs.1 (by omega)]; omega)
  simp only [hmin]
  have hx9 : (Int32.ofNat xs.1).toNatClampNeg = xs.1 := by rw [iv_cl, iv_n xs.1 (by omega)]; omega
  refine k_copy 31 rfl f2 f3 ⟨by omega, ha, by decide, by decide, by decide, iv_nn (by rw [iv_n xs.1 (by omega)]; omega), by rw [hx9]; show 0 + xs.1 ≤ xs.1; omega, by rw [hx9]; show 0 + xs.1 ≤ n.toInt.toNat; omega⟩ rfl ?_
  refine k_aload 32 rfl rfl rfl ?_
  refine k_fin rfl rfl ⟨am_cp xs (n.toNatClampNeg, 0, []) (Int32.toNatClampNeg 0) (Int32.toNatClampNeg 0) (Int32.ofNat xs.1).toNatClampNeg, am_cp_len, fun q hq => ?_, ?_⟩
  · rw [← am_cp_get (by show q < n.toInt.toNat; omega)]
    unfold va_cpy
    rw [hx9, if_pos ⟨Nat.zero_le _, by show q < 0 + xs.1; omega⟩]
    show xs.2.2.getD (0 + (q - 0)) xs.2.1 = _
    rw [show 0 + (q - 0) = q by omega]
  show (_, _, _, _) = (_, _, _, _)
  have e9 : ∀ y : am_e, (h ++ [.inl (.inl (n.toNatClampNeg, 0, []))] : am_h).set h.length y = h ++ [y] := fun y => by
    rw [List.set_append_right _ _ (Nat.le_refl _), Nat.sub_self]
    rfl
  rw [e9, hcl]
  show (_, _, 0 + 1, 0 + n.toInt.toNat) = (_, _, 1, n.toInt.toNat)
  rw [Nat.zero_add, Nat.zero_add]
theorem xw_add50 {D : Nat} {lv : am_l} {Q : am_r → Prop} {x : Int32} (g0 : am_get lv 0 = some (.inr (.inr (some i)))) (g1 : am_get lv 1 = some (.inl x)) (hok : am_okH h.length h = true) (e1 : h[i]? = some (.inr (3, [.inl mo, .inr (.inr (some a)), .inl z]))) (e2 : h[a]? = some (.inl (.inl xs))) (e3 : ob_ar a) (e4 : 0 ≤ z.toInt ∧ z.toInt ≤ (xs.1 : Int)) (e5 : 1 ≤ xs.1 ∧ xs.1 ≤ 100000) (e6 : 1 ≤ mo.toInt ∧ mo.toInt ≤ 100000) (e7 : ob_c i mo xs.1) (hz : z.toInt < (xs.1 : Int)) (K : ∀ (h' : am_h), ob_st h h' i → h'[i]? = some (.inr (3, [.inl mo, .inr (.inr (some a)), .inl (z + 1)])) → h'[a]? = some (.inl (.inl (xs.1, xs.2.1, am_up xs.2.1 xs.2.2 z.toNatClampNeg x))) → Q (.inl (some (.inl 1)), h', c, s)) : am_Ok am_G D 52 (50, lv, [], h, c, s) Q := by
  have q1 : (z + 1).toInt = z.toInt + 1 := by rw [iv_add (by rw [iv_1]; omega) (by rw [iv_1]; omega), iv_1]
  refine k_aload 51 rfl g0 rfl ?_
  refine k_get 54 rfl e1 rfl rfl ?_
  refine k_aload 55 rfl g0 rfl ?_
  refine k_get 58 rfl e1 rfl rfl ?_
  refine k_iload 59 rfl g1 rfl ?_
  refine k_iast 60 rfl e3.1 e2 (iv_nn e4.1) (by rw [iv_cl]; omega) rfl ?_
  obtain ⟨p1, p2, p3⟩ := ob_st.arr (ys := (xs.1, xs.2.1, am_up xs.2.1 xs.2.2 z.toNatClampNeg x)) hok e1 e2 e3 e4 e5 e6 e7 rfl
  refine k_aload 61 rfl g0 rfl ?_
  refine k_dup 62 rfl rfl rfl ?_
  refine k_get 65 rfl p2 rfl rfl ?_
  refine k_push 66 rfl rfl ?_
  refine k_bin _ 67 rfl rfl rfl ?_
  refine k_put 70 rfl p2 rfl (Nat.le_refl 3) rfl ?_
  obtain ⟨r1, r2, r3⟩ := ob_st.siz (z' := z + 1) p1.2.1 p2 p3 e3 (by show 0 ≤ (z + 1).toInt ∧ (z + 1).toInt ≤ (xs.1 : Int); omega) e5 e6 e7
  refine k_push 71 rfl rfl ?_
  exact k_fin rfl rfl (K _ (p1.trans r1) r2 r3)
theorem li_add {x : Int32} (hz : 0 ≤ z.toInt) (h1 : (z + 1).toInt = z.toInt + 1) : ob_li (z + 1) (xs.1, xs.2.1, am_up xs.2.1 xs.2.2 z.toNatClampNeg x) = ob_li z xs ++ [x.toInt] := by
  refine li_ext (by rw [List.length_append, li_len, h1]; show z.toInt.toNat + 1 = _; omega) (fun p hp => ?_)
  show _ = some ((am_up xs.2.1 xs.2.2 z.toInt.toNat x).getD p xs.2.1).toInt
  rw [am_up_get]
  by_cases e : p = z.toInt.toNat
  · rw [if_pos e, List.getElem?_append_right (by rw [li_len]; omega), li_len, e, Nat.sub_self]
    rfl
  · rw [if_neg e, List.getElem?_append_left (by rw [li_len]; omega), li_get, if_pos (by omega)]
theorem li_cg {n : Nat} (hz : z.toInt ≤ (n : Int)) (h : ∀ q, q < n → ys.2.2.getD q ys.2.1 = xs.2.2.getD q xs.2.1) : ob_li z ys = ob_li z xs := li_ext li_len (fun p hp => by rw [li_get, if_pos hp, h p (by omega)])
theorem xw_add {x : Int32} (hR : xR h F A) (hi : ob 3 i ∨ ob 11 i) : am_Mt 2 52 [.inr (.inr (some i)), .inl x] h (xQ h (fun y F' A' => F' = F ∧ (((A i).length : Int) < (ob_mo i).toInt → y = 1 ∧ A' = upl A i (A i ++ [x.toInt])) ∧ ((ob_mo i).toInt ≤ ((A i).length : Int) → y = 0 ∧ A' = A))) := by
  obtain ⟨mo, z, a, xs, e1, e2, e3, e4, e5, e6, e7, eL⟩ := (xI.start hR).lst hi
  have hT := hR.1
  have hi81 : i < 81 := hi.elim ob_lt ob_lt
  have hlen : ((A i).length : Int) = z.toInt := by rw [eL, li_len]; omega
  have hmo : (ob_mo i).toInt = mo.toInt := by rw [← e7.1]
  refine am_Mt.of (D := 1) ?_
  refine k_aload 1 rfl rfl rfl ?_
  refine k_get 4 rfl e1 rfl rfl ?_
  refine k_aload 5 rfl rfl rfl ?_
  refine k_get 8 rfl e1 rfl rfl ?_
  by_cases b1 : z < mo
  · refine k_c2 13 rfl rfl (if_pos b1) ?_
    rw [iv_lt] at b1
    have q9 : (z + 1).toInt = z.toInt + 1 := by rw [iv_add (by rw [iv_1]; omega) (by rw [iv_1]; omega), iv_1]
    refine k_aload 14 rfl rfl rfl ?_
    refine k_get 17 rfl e1 rfl rfl ?_
    refine k_aload 18 rfl rfl rfl ?_
    refine k_get 21 rfl e1 rfl rfl ?_
    refine k_alen 22 rfl e3.1 e2 rfl ?_
    have q0 : (Int32.ofNat xs.1).toInt = (xs.1 : Int) := iv_n xs.1 (by omega)
    by_cases b2 : z < Int32.ofNat xs.1
    · refine k_c2 50 rfl rfl (if_pos b2) ?_
      rw [iv_lt, q0] at b2
      refine xw_add50 (x := x) rfl rfl hT.1 e1 e2 e3 e4 e5 e6 e7 b2 (fun h' s1 f1 f2 => ⟨_, _, _, _, _, _, rfl, (xI.start hR).row hi s1 (l := A i ++ [x.toInt]) ?_ ?_ ?_, rfl, fun _ => ⟨iv_1, rfl⟩, fun u => by omega⟩)
      · rw [ob_l_eq f1 f2, li_add e4.1 q9, eL]
      · rw [ob_p_same e1 e2 f1 f2 rfl]
        exact Nat.le_refl _
      · rw [ob_p_same e1 e2 f1 f2 rfl]
        exact Nat.le_refl _
    · refine k_c2 25 rfl rfl (if_neg b2) ?_
      rw [iv_lt, q0] at b2
      have q2 : (2 * Int32.ofNat xs.1).toInt = 2 * (xs.1 : Int) := by rw [iv_mul (by rw [iv_2, q0]; omega) (by rw [iv_2, q0]; omega), iv_2, q0]
      refine k_aload 26 rfl rfl rfl ?_
      refine k_aload 27 rfl rfl rfl ?_
      refine k_get 30 rfl e1 rfl rfl ?_
      refine k_aload 31 rfl rfl rfl ?_
      refine k_get 34 rfl e1 rfl rfl ?_
      refine k_push 35 rfl rfl ?_
      refine k_aload 36 rfl rfl rfl ?_
      refine k_get 39 rfl e1 rfl rfl ?_
      refine k_alen 40 rfl e3.1 e2 rfl ?_
      refine k_bin _ 41 rfl rfl rfl ?_
      refine k_math 44 rfl rfl rfl ?_
      have q3 : ∃ n : Int32, (if 2 * Int32.ofNat xs.1 < mo then 2 * Int32.ofNat xs.1 else mo) = n ∧ (n.toInt = mo.toInt ∨ n.toInt = 2 * (xs.1 : Int)) ∧ n.toInt ≤ mo.toInt := by
        refine ⟨_, rfl, ?_⟩
        by_cases b3 : 2 * Int32.ofNat xs.1 < mo
        · rw [if_pos b3]
          rw [iv_lt] at b3
          exact ⟨Or.inr q2, by omega⟩
        · rw [if_neg b3]
          exact ⟨Or.inl rfl, Int.le_refl _⟩
      obtain ⟨n, hn, hn1, hn2⟩ := q3
      simp only [hn]
      refine k_call0 rfl (xw_copyOf hT.1 e2 e3.1 (by omega) (by omega)) rfl rfl rfl rfl ?_
      rintro r ⟨ys, hy, hyc, rfl⟩
      have hal : a < h.length := (List.getElem?_eq_some_iff.mp e2).1
      have hil : i < h.length := (List.getElem?_eq_some_iff.mp e1).1
      have okI : am_okV h.length (.inr (.inr (some i))) = true := Nat.ble_eq_true_of_le hil
      refine ⟨Or.inr ⟨?_, ?_⟩, Or.inl ⟨_, rfl, ?_⟩⟩
      · show ([(0, .inr (.inr (some i))), (1, .inl x)] : am_l).all (fun q => am_okV h.length q.2) = true
        simp only [List.all_cons, okI, List.all_nil, Bool.and_self, Bool.true_and]
        rfl
      · show ([.inr (.inr (some i))] : List am_v).all (am_okV h.length) = true
        simp only [List.all_cons, okI, List.all_nil, Bool.and_self]
      · show am_Ok am_G 1 52 (47, [(0, .inr (.inr (some i))), (1, .inl x)], [.inr (.inr (some h.length)), .inr (.inr (some i))], h ++ [.inl (.inl ys)], 0 + 1, 0 + n.toInt.toNat) _
        refine k_put 50 rfl (by rw [List.getElem?_append_left hil]; exact e1) rfl (Nat.le_of_ble_eq_true rfl) rfl ?_
        have hz9 : 0 ≤ z.toInt ∧ z.toInt ≤ (ys.1 : Int) := by omega
        have e8 : ob_c i mo ys.1 := ⟨e7.1, by have := e7.2.1; omega, by omega⟩
        obtain ⟨s1, f1, f2⟩ := ob_st.grow (ys := ys) hT.1 hT.2.1 hi81 e1 hz9 (by omega) e6 e8
        refine xw_add50 (x := x) rfl rfl s1.2.1 f1 f2 ⟨by omega, by have := hT.2.1; omega⟩ hz9 (by omega) e6 e8 (by omega) (fun h' s2 k1 k2 => ⟨_, _, _, _, _, _, rfl, (xI.start hR).row hi (s1.trans s2) (l := A i ++ [x.toInt]) ?_ ?_ ?_, rfl, fun _ => ⟨iv_1, rfl⟩, fun u => by omega⟩)
        · rw [ob_l_eq k1 k2, li_add e4.1 q9, eL, li_cg e4.2 hyc]
        · have w := ob_p_grow e1 e2 k1 k2 (by show ((ys.1 : Nat) : Int) ≤ _; omega) (by show xs.1 < ys.1; omega) (by show ((ys.1 : Nat) : Int) = _ ∨ 2 * xs.1 ≤ ys.1; omega)
          have w1 := w.1
          show 0 + 1 + ob_p h' i ≤ 0 + ob_p h i
          omega
        · have w := ob_p_grow e1 e2 k1 k2 (by show ((ys.1 : Nat) : Int) ≤ _; omega) (by show xs.1 < ys.1; omega) (by show ((ys.1 : Nat) : Int) = _ ∨ 2 * xs.1 ≤ ys.1; omega)
          have w2 := w.2
          show 0 + n.toInt.toNat + ob_p h' i ≤ 0 + ob_p h i
          omega
  · refine k_c2 11 rfl rfl (if_neg b1) ?_
    refine k_push 12 rfl rfl ?_
    rw [iv_lt] at b1
    exact k_fin rfl rfl ⟨_, _, _, _, _, _, rfl, xI.start hR, rfl, fun u => by omega, fun _ => ⟨iv_0, rfl⟩⟩
end XW
