/-! ROWS, exactly: more -/
section XX
variable {B c s i a : Nat} {h h1 h2 h0 : am_h} {mo z : Int32} {xs ys : Nat × Int32 × List Int32} {F : rf_f} {A : xl_A}
theorem li_ins {x y : Int32} {ws : Nat × Int32 × List Int32} (hx : 0 ≤ x.toInt ∧ x.toInt ≤ z.toInt) (h1 : (z + 1).toInt = z.toInt + 1) (h2 : (x + 1).toInt = x.toInt + 1) (h3 : (z - x).toInt = z.toInt - x.toInt) (hc : z.toInt < (xs.1 : Int)) (hw : ws = am_cp xs xs x.toNatClampNeg (x + 1).toNatClampNeg (z - x).toNatClampNeg) : ob_li (z + 1) (ws.1, ws.2.1, am_up ws.2.1 ws.2.2 x.toNatClampNeg y) = il (ob_li z xs) x.toInt y.toInt := by
  have hl : ((ob_li z xs).take x.toInt.toNat).length = x.toInt.toNat := by rw [List.length_take, li_len]; omega
  refine li_ext (by unfold il; rw [List.length_append, hl, List.length_cons, List.length_drop, li_len, h1]; omega) (fun p hp => ?_)
  rw [h1] at hp
  show _ = some ((am_up ws.2.1 ws.2.2 x.toInt.toNat y).getD p ws.2.1).toInt
  rw [am_up_get]
  unfold il
  by_cases e : p = x.toInt.toNat
  · rw [if_pos e, List.getElem?_append_right (by rw [hl]; omega), hl, e, Nat.sub_self]
    rfl
  · rw [if_neg e, hw, ← am_cp_get (by omega)]
    unfold va_cpy
    rw [iv_cl, iv_cl, iv_cl, h2, h3]
    by_cases e2 : p < x.toInt.toNat
    · rw [if_neg (by omega), List.getElem?_append_left (by rw [hl]; exact e2), List.getElem?_take_of_lt e2, li_get, if_pos (by omega)]
    · rw [if_pos (by omega), List.getElem?_append_right (by rw [hl]; omega), hl]
      obtain ⟨m, hm⟩ : ∃ m, p - x.toInt.toNat = m + 1 := ⟨p - x.toInt.toNat - 1, by omega⟩
      rw [hm, List.getElem?_cons_succ, List.getElem?_drop, li_get, if_pos (by omega)]
      congr 3
      omega
theorem xw_ins61 {D : Nat} {lv : am_l} {Q : am_r → Prop} {x y : Int32} (g0 : am_get lv 0 = some (.inr (.inr (some i)))) (g1 : am_get lv 1 = some (.inl x)) (g2 : am_get lv 2 = some (.inl y)) (hok : am_okH h.length h = true) (e1 : h[i]? = some (.inr (3, [.inl mo, .inr (.inr (some a)), .inl z]))) (e2 : h[a]? = some (.inl (.inl xs))) (e3 : ob_ar a) (e4 : 0 ≤ z.toInt ∧ z.toInt ≤ (xs.1 : Int)) (e5 : 1 ≤ xs.1 ∧ xs.1 ≤ 100000) (e6 : 1 ≤ mo.toInt ∧ mo.toInt ≤ 100000) (e7 : ob_c i mo xs.1) (hz : z.toInt < (xs.1 : Int)) (hx : 0 ≤ x.toInt ∧ x.toInt ≤ z.toInt) (K : ∀ (h' : am_h) (ys : Nat × Int32 × List Int32), ob_st h h' i → h'[i]? = some (.inr (3, [.inl mo, .inr (.inr (some a)), .inl (z + 1)])) → h'[a]? = some (.inl (.inl ys)) → ys.1 = xs.1 → ob_li (z + 1) ys = il (ob_li z xs) x.toInt y.toInt → Q (.inl none, h', c, s)) : am_Ok am_G D 53 (61, lv, [], h, c, s) Q := by
  have q1 : (z + 1).toInt = z.toInt + 1 := by rw [iv_add (by rw [iv_1]; omega) (by rw [iv_1]; omega), iv_1]
  have q2 : (x + 1).toInt = x.toInt + 1 := by rw [iv_add (by rw [iv_1]; omega) (by rw [iv_1]; omega), iv_1]
  have q3 : (z - x).toInt = z.toInt - x.toInt := iv_sub (by omega) (by omega)
  refine k_aload 62 rfl g0 rfl ?_
  refine k_get 65 rfl e1 rfl rfl ?_
  refine k_iload 66 rfl g1 rfl ?_
  refine k_aload 67 rfl g0 rfl ?_
  refine k_get 70 rfl e1 rfl rfl ?_
  refine k_iload 71 rfl g1 rfl ?_
  refine k_push 72 rfl rfl ?_
  refine k_bin _ 73 rfl rfl rfl ?_
  refine k_aload 74 rfl g0 rfl ?_
  refine k_get 77 rfl e1 rfl rfl ?_
  refine k_iload 78 rfl g1 rfl ?_
  refine k_bin _ 79 rfl rfl rfl ?_
  refine k_copy 82 rfl e2 e2 ⟨e3.1, e3.1, by decide, iv_nn hx.1, iv_nn (by omega), iv_nn (by omega), by rw [iv_cl, iv_cl]; omega, by rw [iv_cl, iv_cl]; omega⟩ rfl ?_
  obtain ⟨p1, p2, p3⟩ := ob_st.arr (ys := am_cp xs xs x.toNatClampNeg (x + 1).toNatClampNeg (z - x).toNatClampNeg) hok e1 e2 e3 e4 e5 e6 e7 am_cp_len
  have hlen : (am_cp xs xs x.toNatClampNeg (x + 1).toNatClampNeg (z - x).toNatClampNeg).1 = xs.1 := am_cp_len
  have hli := fun (ws : Nat × Int32 × List Int32) (hw : ws = am_cp xs xs x.toNatClampNeg (x + 1).toNatClampNeg (z - x).toNatClampNeg) => li_ins (y := y) hx q1 q2 q3 hz hw
  obtain ⟨ws, hws⟩ : ∃ ws, ws = am_cp xs xs x.toNatClampNeg (x + 1).toNatClampNeg (z - x).toNatClampNeg := ⟨_, rfl⟩
  have hli := hli ws hws
  rw [← hws] at p1 p2 p3 hlen ⊢
  refine k_aload 83 rfl g0 rfl ?_
  refine k_get 86 rfl p2 rfl rfl ?_
  refine k_iload 87 rfl g1 rfl ?_
  refine k_iload 88 rfl g2 rfl ?_
  refine k_iast 89 rfl e3.1 p3 (iv_nn hx.1) (by rw [iv_cl]; omega) rfl ?_
  obtain ⟨u1, u2, u3⟩ := ob_st.arr (ys := (ws.1, ws.2.1, am_up ws.2.1 ws.2.2 x.toNatClampNeg y)) p1.2.1 p2 p3 e3 (by rw [hlen]; exact e4) (by rw [hlen]; exact e5) e6 (by rw [hlen]; exact e7) rfl
  refine k_aload 90 rfl g0 rfl ?_
  refine k_dup 91 rfl rfl rfl ?_
  refine k_get 94 rfl u2 rfl rfl ?_
  refine k_push 95 rfl rfl ?_
  refine k_bin _ 96 rfl rfl rfl ?_
  refine k_put 99 rfl u2 rfl (Nat.le_refl 3) rfl ?_
  obtain ⟨r1, r2, r3⟩ := ob_st.siz (z' := z + 1) u1.2.1 u2 u3 e3 (by show 0 ≤ (z + 1).toInt ∧ (z + 1).toInt ≤ (ws.1 : Int); omega) (by show 1 ≤ ws.1 ∧ ws.1 ≤ 100000; omega) e6 (by show ob_c i mo ws.1; rw [hlen]; exact e7)
  exact k_fin rfl rfl (K _ _ ((p1.trans u1).trans r1) r2 r3 hlen hli)
theorem xw_insert {x y : Int32} (hR : xR h F A) (hi : ob 3 i ∨ ob 11 i) (hx : 0 ≤ x.toInt ∧ x.toInt ≤ ((A i).length : Int)) (hm : ((A i).length : Int) < (ob_mo i).toInt) : am_Mt 2 53 [.inr (.inr (some i)), .inl x, .inl y] h (xV h (fun F' A' => F' = F ∧ A' = upl A i (il (A i) x.toInt y.toInt))) := by
  obtain ⟨mo, z, a, xs, e1, e2, e3, e4, e5, e6, e7, eL⟩ := (xI.start hR).lst hi
  have hT := hR.1
  have hlen : ((A i).length : Int) = z.toInt := by rw [eL, li_len]; omega
  have hmo : (ob_mo i).toInt = mo.toInt := by rw [← e7.1]
  have hi81 : i < 81 := hi.elim ob_lt ob_lt
  refine am_Mt.of (D := 1) ?_
  refine k_iload 1 rfl rfl rfl ?_
  by_cases b1 : x < 0
  · exact absurd b1 (iv_nn hx.1)
  · refine k_c1 4 rfl rfl (if_neg b1) ?_
    refine k_iload 5 rfl rfl rfl ?_
    refine k_aload 6 rfl rfl rfl ?_
    refine k_get 9 rfl e1 rfl rfl ?_
    by_cases b2 : z < x
    · rw [iv_lt] at b2
      omega
    · refine k_c2 12 rfl rfl (if_neg b2) ?_
      refine k_aload 13 rfl rfl rfl ?_
      refine k_get 16 rfl e1 rfl rfl ?_
      refine k_aload 17 rfl rfl rfl ?_
      refine k_get 20 rfl e1 rfl rfl ?_
      by_cases b3 : z < mo
      · refine k_c2 24 rfl rfl (if_pos b3) ?_
        rw [iv_lt] at b2 b3
        have b4 := iv_nz b1
        refine k_aload 25 rfl rfl rfl ?_
        refine k_get 28 rfl e1 rfl rfl ?_
        refine k_aload 29 rfl rfl rfl ?_
        refine k_get 32 rfl e1 rfl rfl ?_
        refine k_alen 33 rfl e3.1 e2 rfl ?_
        have q0 : (Int32.ofNat xs.1).toInt = (xs.1 : Int) := iv_n xs.1 (by omega)
        by_cases b5 : z < Int32.ofNat xs.1
        · refine k_c2 61 rfl rfl (if_pos b5) ?_
          rw [iv_lt, q0] at b5
          refine xw_ins61 (x := x) (y := y) rfl rfl rfl hT.1 e1 e2 e3 e4 e5 e6 e7 b5 (by omega) (fun h' ys s1 f1 f2 f3 f4 => ⟨_, _, _, _, _, rfl, (xI.start hR).row hi s1 (l := il (A i) x.toInt y.toInt) ?_ ?_ ?_, rfl, rfl⟩)
          · rw [ob_l_eq f1 f2, f4, eL]
          · rw [ob_p_same e1 e2 f1 f2 f3]
            exact Nat.le_refl _
          · rw [ob_p_same e1 e2 f1 f2 f3]
            exact Nat.le_refl _
        · refine k_c2 36 rfl rfl (if_neg b5) ?_
          rw [iv_lt, q0] at b5
          have q2 : (2 * Int32.ofNat xs.1).toInt = 2 * (xs.1 : Int) := by rw [iv_mul (by rw [iv_2, q0]; omega) (by rw [iv_2, q0]; omega), iv_2, q0]
          refine k_aload 37 rfl rfl rfl ?_
          refine k_aload 38 rfl rfl rfl ?_
          refine k_get 41 rfl e1 rfl rfl ?_
          refine k_aload 42 rfl rfl rfl ?_
          refine k_get 45 rfl e1 rfl rfl ?_
          refine k_push 46 rfl rfl ?_
          refine k_aload 47 rfl rfl rfl ?_
          refine k_get 50 rfl e1 rfl rfl ?_
          refine k_alen 51 rfl e3.1 e2 rfl ?_
          refine k_bin _ 52 rfl rfl rfl ?_
          refine k_math 55 rfl rfl rfl ?_
          have q3 : ∃ n : Int32, (if 2 * Int32.ofNat xs.1 < mo then 2 * Int32.ofNat xs.1 else mo) = n ∧ (n.toInt = mo.toInt ∨ n.toInt = 2 * (xs.1 : Int)) ∧ n.toInt ≤ mo.toInt := by
            refine ⟨_, rfl, ?_⟩
            by_cases b3 : 2 * Int32.ofNat xs.1 < mo
            · rw [if_pos b3]
              rw [iv_lt] at b3
              exact ⟨Or.inr q2, by omega⟩
            · rw [if_neg b3]
              exact ⟨Or.inl rfl, Int.le_refl _⟩
          obtain ⟨n, hn, hn1, hn2⟩ := q3
          simp only [hn]
          refine k_call0 rfl (xw_copyOf hT.1 e2 e3.1 (by omega) (by omega)) rfl rfl rfl rfl ?_
          rintro r ⟨ys, hy, hyc, rfl⟩
          have hil : i < h.length := (List.getElem?_eq_some_iff.mp e1).1
          have okI : am_okV h.length (.inr (.inr (some i))) = true := Nat.ble_eq_true_of_le hil
          refine ⟨Or.inr ⟨?_, ?_⟩, Or.inl ⟨_, rfl, ?_⟩⟩
          · show ([(0, .inr (.inr (some i))), (1, .inl x), (2, .inl y)] : am_l).all (fun q => am_okV h.length q.2) = true
            simp only [List.all_cons, okI, List.all_nil, Bool.and_self, Bool.true_and]
            rfl
          · show ([.inr (.inr (some i))] : List am_v).all (am_okV h.length) = true
            simp only [List.all_cons, okI, List.all_nil, Bool.and_self]
          · show am_Ok am_G 1 53 (58, [(0, .inr (.inr (some i))), (1, .inl x), (2, .inl y)], [.inr (.inr (some h.length)), .inr (.inr (some i))], h ++ [.inl (.inl ys)], 0 + 1, 0 + n.toInt.toNat) _
            refine k_put 61 rfl (by rw [List.getElem?_append_left hil]; exact e1) rfl (Nat.le_of_ble_eq_true rfl) rfl ?_
            have hz9 : 0 ≤ z.toInt ∧ z.toInt ≤ (ys.1 : Int) := by omega
            have e8 : ob_c i mo ys.1 := ⟨e7.1, by have := e7.2.1; omega, by omega⟩
            obtain ⟨s1, f1, f2⟩ := ob_st.grow (ys := ys) hT.1 hT.2.1 hi81 e1 hz9 (by omega) e6 e8
            refine xw_ins61 (x := x) (y := y) rfl rfl rfl s1.2.1 f1 f2 ⟨by omega, by have := hT.2.1; omega⟩ hz9 (by omega) e6 e8 (by omega) (by omega) (fun h' ys2 s2 k1 k2 k3 k4 => ⟨_, _, _, _, _, rfl, (xI.start hR).row hi (s1.trans s2) (l := il (A i) x.toInt y.toInt) ?_ ?_ ?_, rfl, rfl⟩)
            · rw [ob_l_eq k1 k2, k4, eL, li_cg e4.2 hyc]
            · have w := (ob_p_grow e1 e2 k1 k2 (by omega) (by omega) (by omega)).1
              show 0 + 1 + ob_p h' i ≤ 0 + ob_p h i
              omega
            · have w := (ob_p_grow e1 e2 k1 k2 (by omega) (by omega) (by omega)).2
              show 0 + n.toInt.toNat + ob_p h' i ≤ 0 + ob_p h i
              omega
      · rw [iv_lt] at b3
        omega
theorem xw_cp56 {D : Nat} {lv : am_l} {Q : am_r → Prop} {i2 a2 : Nat} {mo2 z2 : Int32} {xs2 : Nat × Int32 × List Int32} (g0 : am_get lv 0 = some (.inr (.inr (some i)))) (g1 : am_get lv 1 = some (.inr (.inr (some i2)))) (hok : am_okH h.length h = true) (e1 : h[i]? = some (.inr (3, [.inl mo, .inr (.inr (some a)), .inl z]))) (e2 : h[a]? = some (.inl (.inl xs))) (e3 : ob_ar a) (e4 : 0 ≤ z.toInt ∧ z.toInt ≤ (xs.1 : Int)) (e5 : 1 ≤ xs.1 ∧ xs.1 ≤ 100000) (e6 : 1 ≤ mo.toInt ∧ mo.toInt ≤ 100000) (e7 : ob_c i mo xs.1) (d1 : h[i2]? = some (.inr (3, [.inl mo2, .inr (.inr (some a2)), .inl z2]))) (d2 : h[a2]? = some (.inl (.inl xs2))) (d3 : a2 ≠ 0) (d4 : 0 ≤ z2.toInt ∧ z2.toInt ≤ (xs2.1 : Int)) (hz : z2.toInt ≤ (xs.1 : Int)) (K : ∀ (h' : am_h) (ys : Nat × Int32 × List Int32), ob_st h h' i → h'[i]? = some (.inr (3, [.inl mo, .inr (.inr (some a)), .inl z2])) → h'[a]? = some (.inl (.inl ys)) → ys.1 = xs.1 → ob_li z2 ys = ob_li z2 xs2 → Q (.inl none, h', c, s)) : am_Ok am_G D 58 (56, lv, [], h, c, s) Q := by
  refine k_aload 57 rfl g1 rfl ?_
  refine k_get 60 rfl d1 rfl rfl ?_
  refine k_push 61 rfl rfl ?_
  refine k_aload 62 rfl g0 rfl ?_
  refine k_get 65 rfl e1 rfl rfl ?_
  refine k_push 66 rfl rfl ?_
  refine k_aload 67 rfl g1 rfl ?_
  refine k_get 70 rfl d1 rfl rfl ?_
  have hz0 : (0 : Int32).toNatClampNeg = 0 := rfl
  refine k_copy 73 rfl d2 e2 ⟨e3.1, d3, by decide, by decide, by decide, iv_nn d4.1, by rw [hz0, iv_cl]; omega, by rw [hz0, iv_cl]; omega⟩ rfl ?_
  obtain ⟨p1, p2, p3⟩ := ob_st.arr (ys := am_cp xs2 xs (Int32.toNatClampNeg 0) (Int32.toNatClampNeg 0) z2.toNatClampNeg) hok e1 e2 e3 e4 e5 e6 e7 am_cp_len
  have hlen : (am_cp xs2 xs (Int32.toNatClampNeg 0) (Int32.toNatClampNeg 0) z2.toNatClampNeg).1 = xs.1 := am_cp_len
  have d9 : (h.set a (.inl (.inl (am_cp xs2 xs (Int32.toNatClampNeg 0) (Int32.toNatClampNeg 0) z2.toNatClampNeg))))[i2]? = some (.inr (3, [.inl mo2, .inr (.inr (some a2)), .inl z2])) := by
    rw [List.getElem?_set_ne (fun e => ?_)]
    · exact d1
    · subst e
      rw [e2] at d1
      cases d1
  have hli : ob_li z2 (am_cp xs2 xs (Int32.toNatClampNeg 0) (Int32.toNatClampNeg 0) z2.toNatClampNeg) = ob_li z2 xs2 := by
    refine li_cg (n := z2.toInt.toNat) (by omega) (fun q hq => ?_)
    rw [← am_cp_get (by omega)]
    unfold va_cpy
    rw [hz0, iv_cl, if_pos (by omega), show 0 + (q - 0) = q by omega]
  generalize am_cp xs2 xs (Int32.toNatClampNeg 0) (Int32.toNatClampNeg 0) z2.toNatClampNeg = ws at p1 p2 p3 hlen d9 hli ⊢
  refine k_aload 74 rfl g0 rfl ?_
  refine k_aload 75 rfl g1 rfl ?_
  refine k_get 78 rfl d9 rfl rfl ?_
  refine k_put 81 rfl p2 rfl (Nat.le_refl 3) rfl ?_
  obtain ⟨r1, r2, r3⟩ := ob_st.siz (z' := z2) p1.2.1 p2 p3 e3 (by rw [hlen]; omega) (by rw [hlen]; exact e5) e6 (by rw [hlen]; exact e7)
  exact k_fin rfl rfl (K _ _ (p1.trans r1) r2 r3 hlen hli)
theorem xw_copy {i2 : Nat} (hR : xR h F A) (hi : ob 3 i ∨ ob 11 i) (hi2 : ob 3 i2 ∨ ob 11 i2) (hm : ((A i2).length : Int) ≤ (ob_mo i).toInt) : am_Mt 2 58 [.inr (.inr (some i)), .inr (.inr (some i2))] h (xV h (fun F' A' => F' = F ∧ A' = upl A i (A i2))) := by
  obtain ⟨mo, z, a, xs, e1, e2, e3, e4, e5, e6, e7, eL⟩ := (xI.start hR).lst hi
  obtain ⟨mo2, z2, a2, xs2, d1, d2, d3, d4, d5, d6, d7, dL⟩ := (xI.start hR).lst hi2
  have hT := hR.1
  have hlen2 : ((A i2).length : Int) = z2.toInt := by rw [dL, li_len]; omega
  have hmo : (ob_mo i).toInt = mo.toInt := by rw [← e7.1]
  have hi81 : i < 81 := hi.elim ob_lt ob_lt
  refine am_Mt.of (D := 1) ?_
  refine k_aload 1 rfl rfl rfl ?_
  refine k_get 4 rfl d1 rfl rfl ?_
  refine k_aload 5 rfl rfl rfl ?_
  refine k_get 8 rfl e1 rfl rfl ?_
  by_cases b1 : z2 ≤ mo
  · refine k_c2 12 rfl rfl (if_pos b1) ?_
    rw [iv_le] at b1
    refine k_aload 13 rfl rfl rfl ?_
    refine k_get 16 rfl d1 rfl rfl ?_
    refine k_aload 17 rfl rfl rfl ?_
    refine k_get 20 rfl e1 rfl rfl ?_
    refine k_alen 21 rfl e3.1 e2 rfl ?_
    have q0 : (Int32.ofNat xs.1).toInt = (xs.1 : Int) := iv_n xs.1 (by omega)
    by_cases b2 : z2 ≤ Int32.ofNat xs.1
    · refine k_c2 56 rfl rfl (if_pos b2) ?_
      rw [iv_le, q0] at b2
      refine xw_cp56 rfl rfl hT.1 e1 e2 e3 e4 e5 e6 e7 d1 d2 d3.1 d4 b2 (fun h' ys s1 f1 f2 f3 f4 => ⟨_, _, _, _, _, rfl, (xI.start hR).row hi s1 (l := A i2) ?_ ?_ ?_, rfl, rfl⟩)
      · rw [ob_l_eq f1 f2, f4, dL]
      · rw [ob_p_same e1 e2 f1 f2 f3]
        exact Nat.le_refl _
      · rw [ob_p_same e1 e2 f1 f2 f3]
        exact Nat.le_refl _
    · refine k_c2 24 rfl rfl (if_neg b2) ?_
      rw [iv_le, q0] at b2
      have q2 : (2 * Int32.ofNat xs.1).toInt = 2 * (xs.1 : Int) := by rw [iv_mul (by rw [iv_2, q0]; omega) (by rw [iv_2, q0]; omega), iv_2, q0]
      refine k_aload 25 rfl rfl rfl ?_
      refine k_aload 26 rfl rfl rfl ?_
      refine k_get 29 rfl e1 rfl rfl ?_
      refine k_aload 30 rfl rfl rfl ?_
      refine k_get 33 rfl e1 rfl rfl ?_
      refine k_aload 34 rfl rfl rfl ?_
      refine k_get 37 rfl d1 rfl rfl ?_
      refine k_push 38 rfl rfl ?_
      refine k_aload 39 rfl rfl rfl ?_
      refine k_get 42 rfl e1 rfl rfl ?_
      refine k_alen 43 rfl e3.1 e2 rfl ?_
      refine k_bin _ 44 rfl rfl rfl ?_
      refine k_math 47 rfl rfl rfl ?_
      have q3 : ∃ m : Int32, (if z2 < 2 * Int32.ofNat xs.1 then 2 * Int32.ofNat xs.1 else z2) = m ∧ z2.toInt ≤ m.toInt ∧ 2 * (xs.1 : Int) ≤ m.toInt ∧ m.toInt ≤ 200000 := by
        refine ⟨_, rfl, ?_⟩
        by_cases b3 : z2 < 2 * Int32.ofNat xs.1
        · rw [if_pos b3]
          rw [iv_lt] at b3
          omega
        · rw [if_neg b3]
          rw [iv_lt] at b3
          omega
      obtain ⟨m, hm, hm1, hm2, hm3⟩ := q3
      simp only [hm]
      refine k_math 50 rfl rfl rfl ?_
      have q4 : ∃ n : Int32, (if m < mo then m else mo) = n ∧ (n.toInt = mo.toInt ∨ 2 * (xs.1 : Int) ≤ n.toInt) ∧ n.toInt ≤ mo.toInt ∧ z2.toInt ≤ n.toInt := by
        refine ⟨_, rfl, ?_⟩
        by_cases b3 : m < mo
        · rw [if_pos b3]
          rw [iv_lt] at b3
          exact ⟨Or.inr hm2, by omega, hm1⟩
        · rw [if_neg b3]
          exact ⟨Or.inl rfl, Int.le_refl _, b1⟩
      obtain ⟨n, hn, hn1, hn2, hn3⟩ := q4
      simp only [hn]
      refine k_call0 rfl (xw_copyOf hT.1 e2 e3.1 (by omega) (by omega)) rfl rfl rfl rfl ?_
      rintro r ⟨ys, hy, hyc, rfl⟩
      have hil : i < h.length := (List.getElem?_eq_some_iff.mp e1).1
      have hil2 : i2 < h.length := (List.getElem?_eq_some_iff.mp d1).1
      have hal2 : a2 < h.length := (List.getElem?_eq_some_iff.mp d2).1
      have okI : am_okV h.length (.inr (.inr (some i))) = true := Nat.ble_eq_true_of_le hil
      have okI2 : am_okV h.length (.inr (.inr (some i2))) = true := Nat.ble_eq_true_of_le hil2
      have hii : i ≠ i2 := fun e => by
        subst e
        rw [e1] at d1
        cases d1
        omega
      have hai2 : i ≠ a2 := fun e => by
        subst e
        rw [e1] at d2
        cases d2
      refine ⟨Or.inr ⟨?_, ?_⟩, Or.inl ⟨_, rfl, ?_⟩⟩
      · show ([(0, .inr (.inr (some i))), (1, .inr (.inr (some i2)))] : am_l).all (fun q => am_okV h.length q.2) = true
        simp only [List.all_cons, okI, okI2, List.all_nil, Bool.and_self]
      · show ([.inr (.inr (some i))] : List am_v).all (am_okV h.length) = true
        simp only [List.all_cons, okI, List.all_nil, Bool.and_self]
      · show am_Ok am_G 1 58 (53, [(0, .inr (.inr (some i))), (1, .inr (.inr (some i2)))], [.inr (.inr (some h.length)), .inr (.inr (some i))], h ++ [.inl (.inl ys)], 0 + 1, 0 + n.toInt.toNat) _
        refine k_put 56 rfl (by rw [List.getElem?_append_left hil]; exact e1) rfl (Nat.le_of_ble_eq_true rfl) rfl ?_
        have hz9 : 0 ≤ z.toInt ∧ z.toInt ≤ (ys.1 : Int) := by omega
        have e8 : ob_c i mo ys.1 := ⟨e7.1, by have := e7.2.1; omega, by omega⟩
        obtain ⟨s1, f1, f2⟩ := ob_st.grow (ys := ys) hT.1 hT.2.1 hi81 e1 hz9 (by omega) e6 e8
        refine xw_cp56 rfl rfl s1.2.1 f1 f2 ⟨by omega, by have := hT.2.1; omega⟩ hz9 (by omega) e6 e8 (by rw [List.getElem?_set_ne hii, List.getElem?_append_left hil2]; exact d1) (by rw [List.getElem?_set_ne hai2, List.getElem?_append_left hal2]; exact d2) d3.1 d4 (by omega) (fun h' ys2 s2 k1 k2 k3 k4 => ⟨_, _, _, _, _, rfl, (xI.start hR).row hi (s1.trans s2) (l := A i2) ?_ ?_ ?_, rfl, rfl⟩)
        · rw [ob_l_eq k1 k2, k4, dL]
        · have w := (ob_p_grow e1 e2 k1 k2 (by omega) (by omega) (by omega)).1
          show 0 + 1 + ob_p h' i ≤ 0 + ob_p h i
          omega
        · have w := (ob_p_grow e1 e2 k1 k2 (by omega) (by omega) (by omega)).2
          show 0 + n.toInt.toNat + ob_p h' i ≤ 0 + ob_p h i
          omega
  · rw [iv_le] at b1
    omega
/-- fill, where the room is as large as the row may be -/
theorem xw_fill {x y : Int32} (hR : xR h F A) (hi : ob 3 i ∨ ob 11 i) (hc : (ob_c0 i : Int) = (ob_mo i).toInt) (hx : 0 ≤ x.toInt ∧ x.toInt ≤ (ob_mo i).toInt) : am_Mt 1 57 [.inr (.inr (some i)), .inl x, .inl y] h (xV h (fun F' A' => F' = F ∧ A' = upl A i (List.replicate x.toInt.toNat y.toInt))) := by
  obtain ⟨mo, z, a, xs, e1, e2, e3, e4, e5, e6, e7, eL⟩ := (xI.start hR).lst hi
  have hT := hR.1
  have hmo : (ob_mo i).toInt = mo.toInt := by rw [← e7.1]
  have hcap : (xs.1 : Int) = mo.toInt := by have h1 := e7.2.1; have h2 := e7.2.2; omega
  have hai : i ≠ a := fun e => by
    subst e
    rw [e1] at e2
    cases e2
  refine am_Mt.imp (fl_fill (L0 := xs.2.2) (cap := xs.1) (d := xs.2.1) (n := x.toInt.toNat) (K := x.toInt.toNat) (v := y) e1 e2 e3.1 hai (by omega) ⟨Nat.le_refl _, by omega, Or.inl rfl⟩ (by omega)) ?_
  rintro _ rfl
  have q0 : (Int32.ofNat x.toInt.toNat).toInt = x.toInt := by rw [iv_n _ (by omega)]; omega
  obtain ⟨g1, g2, g3⟩ := ob_st.siz (z' := Int32.ofNat x.toInt.toNat) hT.1 e1 e2 e3 (by rw [q0]; omega) e5 e6 e7
  obtain ⟨u1, u2, u3⟩ := ob_st.arr (ys := (xs.1, xs.2.1, List.replicate x.toInt.toNat y ++ xs.2.2.drop x.toInt.toNat)) g1.2.1 g2 g3 e3 (by rw [q0]; omega) e5 e6 e7 rfl
  have v1 : ob_st h (fh h i a mo xs.1 xs.2.1 y xs.2.2 x.toInt.toNat) i := g1.trans u1
  have v2 : (fh h i a mo xs.1 xs.2.1 y xs.2.2 x.toInt.toNat)[i]? = some (.inr (3, [.inl mo, .inr (.inr (some a)), .inl (Int32.ofNat x.toInt.toNat)])) := u2
  have v3 : (fh h i a mo xs.1 xs.2.1 y xs.2.2 x.toInt.toNat)[a]? = some (.inl (.inl (xs.1, xs.2.1, List.replicate x.toInt.toNat y ++ xs.2.2.drop x.toInt.toNat))) := u3
  refine ⟨fh h i a mo xs.1 xs.2.1 y xs.2.2 x.toInt.toNat, 0, 0, F, _, rfl, ?_, rfl, rfl⟩
  refine (xI.start hR).row hi v1 (l := List.replicate x.toInt.toNat y.toInt) ?_ (by rw [ob_p_same e1 e2 v2 v3 rfl]; exact Nat.le_refl _) (by rw [ob_p_same e1 e2 v2 v3 rfl]; exact Nat.le_refl _)
  rw [ob_l_eq v2 v3]
  refine li_ext (by rw [List.length_replicate, q0]) (fun p hp => ?_)
  rw [q0] at hp
  rw [List.getElem?_replicate, if_pos hp]
  show _ = some ((List.replicate x.toInt.toNat y ++ xs.2.2.drop x.toInt.toNat).getD p xs.2.1).toInt
  rw [List.getD_eq_getElem?_getD, List.getElem?_append_left (by rw [List.length_replicate]; exact hp), List.getElem?_replicate, if_pos hp]
  rfl
end XX
