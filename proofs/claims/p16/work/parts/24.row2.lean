section ROW2
variable {W : List (Nat × Nat)} {B c s i a : Nat} {h h1 h2 h0 : am_h} {mo z : Int32} {xs ys : Nat × Int32 × List Int32}
/-- copy's end: the other row's numbers come, so many as it has -/
theorem rw_cp56 {D : Nat} {lv : am_l} {Q : am_r → Prop} {i2 a2 : Nat} {mo2 z2 : Int32} {xs2 : Nat × Int32 × List Int32} (g0 : am_get lv 0 = some (.inr (.inr (some i)))) (g1 : am_get lv 1 = some (.inr (.inr (some i2)))) (hok : am_okH h.length h = true) (e1 : h[i]? = some (.inr (3, [.inl mo, .inr (.inr (some a)), .inl z]))) (e2 : h[a]? = some (.inl (.inl xs))) (e3 : ob_ar a) (e4 : 0 ≤ z.toInt ∧ z.toInt ≤ (xs.1 : Int)) (e5 : 1 ≤ xs.1 ∧ xs.1 ≤ 100000) (e6 : 1 ≤ mo.toInt ∧ mo.toInt ≤ 100000) (e7 : ob_c i mo xs.1) (d1 : h[i2]? = some (.inr (3, [.inl mo2, .inr (.inr (some a2)), .inl z2]))) (d2 : h[a2]? = some (.inl (.inl xs2))) (d3 : a2 ≠ 0) (d4 : 0 ≤ z2.toInt ∧ z2.toInt ≤ (xs2.1 : Int)) (hz : z2.toInt ≤ (xs.1 : Int)) (K : ∀ (h' : am_h) (ys : Nat × Int32 × List Int32), ob_st h h' i → h'[i]? = some (.inr (3, [.inl mo, .inr (.inr (some a)), .inl z2])) → h'[a]? = some (.inl (.inl ys)) → ys.1 = xs.1 → Q (.inl none, h', c, s)) : am_Ok am_G D 58 (56, lv, [], h, c, s) Q := by
  refine k_aload 57 rfl g1 rfl ?_
  refine k_get 60 rfl d1 rfl rfl ?_
  refine k_push 61 rfl rfl ?_
  refine k_aload 62 rfl g0 rfl ?_
  refine k_get 65 rfl e1 rfl rfl ?_
  refine k_push 66 rfl rfl ?_
  refine k_aload 67 rfl g1 rfl ?_
  refine k_get 70 rfl d1 rfl rfl ?_
  have hz0 : (0 : Int32).toNatClampNeg = 0 := rfl
  refine k_copy 73 rfl d2 e2 ⟨e3.1, d3, by decide, by decide, by decide, iv_nn d4.1, by rw [hz0, iv_cl]; omega, by rw [hz0, iv_cl]; omega⟩ rfl ?_
  obtain ⟨p1, p2, p3⟩ := ob_st.arr (ys := am_cp xs2 xs (Int32.toNatClampNeg 0) (Int32.toNatClampNeg 0) z2.toNatClampNeg) hok e1 e2 e3 e4 e5 e6 e7 am_cp_len
  have hlen : (am_cp xs2 xs (Int32.toNatClampNeg 0) (Int32.toNatClampNeg 0) z2.toNatClampNeg).1 = xs.1 := am_cp_len
  have d9 : (h.set a (.inl (.inl (am_cp xs2 xs (Int32.toNatClampNeg 0) (Int32.toNatClampNeg 0) z2.toNatClampNeg))))[i2]? = some (.inr (3, [.inl mo2, .inr (.inr (some a2)), .inl z2])) := by
    rw [List.getElem?_set_ne (fun e => ?_)]
    · exact d1
    · subst e
      rw [e2] at d1
      cases d1
  generalize am_cp xs2 xs (Int32.toNatClampNeg 0) (Int32.toNatClampNeg 0) z2.toNatClampNeg = ws at p1 p2 p3 hlen d9 ⊢
  refine k_aload 74 rfl g0 rfl ?_
  refine k_aload 75 rfl g1 rfl ?_
  refine k_get 78 rfl d9 rfl rfl ?_
  refine k_put 81 rfl p2 rfl (Nat.le_refl 3) rfl ?_
  obtain ⟨r1, r2, r3⟩ := ob_st.siz (z' := z2) p1.2.1 p2 p3 e3 (by rw [hlen]; omega) (by rw [hlen]; exact e5) e6 (by rw [hlen]; exact e7)
  exact k_fin rfl rfl (K _ _ (p1.trans r1) r2 r3 hlen)
theorem rw_copy {i2 : Nat} (hT : ty_H h) (ho : ob 3 i) (ho2 : ob 3 i2 ∨ ob 11 i2) : am_Mt 2 58 [.inr (.inr (some i)), .inr (.inr (some i2))] h (ty_Q [] 0 (ob_P h) h) := by
  obtain ⟨mo, z, a, xs, e1, e2, e3, e4, e5, e6, e7⟩ := hT.row (Or.inl ho)
  obtain ⟨mo2, z2, a2, xs2, d1, d2, d3, d4, d5, d6, d7⟩ := hT.row ho2
  have hi81 : i < 81 := ob_lt ho
  refine am_Mt.of (D := 1) ?_
  refine k_aload 1 rfl rfl rfl ?_
  refine k_get 4 rfl d1 rfl rfl ?_
  refine k_aload 5 rfl rfl rfl ?_
  refine k_get 8 rfl e1 rfl rfl ?_
  by_cases b1 : z2 ≤ mo
  · refine k_c2 12 rfl rfl (if_pos b1) ?_
    rw [iv_le] at b1
    refine k_aload 13 rfl rfl rfl ?_
    refine k_get 16 rfl d1 rfl rfl ?_
    refine k_aload 17 rfl rfl rfl ?_
    refine k_get 20 rfl e1 rfl rfl ?_
    refine k_alen 21 rfl e3.1 e2 rfl ?_
    have q0 : (Int32.ofNat xs.1).toInt = (xs.1 : Int) := iv_n xs.1 (by omega)
    by_cases b2 : z2 ≤ Int32.ofNat xs.1
    · refine k_c2 56 rfl rfl (if_pos b2) ?_
      rw [iv_le, q0] at b2
      refine rw_cp56 rfl rfl hT.1 e1 e2 e3 e4 e5 e6 e7 d1 d2 d3.1 d4 b2 (fun h' ys s1 f1 f2 f3 => ⟨⟨_, rfl, rfl⟩, s1.I (ob_I.start hT) (Or.inl ho) ?_ ?_⟩)
      · rw [ob_p_same e1 e2 f1 f2 f3]
        exact Nat.le_refl _
      · rw [ob_p_same e1 e2 f1 f2 f3]
        exact Nat.le_refl _
    · refine k_c2 24 rfl rfl (if_neg b2) ?_
      rw [iv_le, q0] at b2
      have q2 : (2 * Int32.ofNat xs.1).toInt = 2 * (xs.1 : Int) := by rw [iv_mul (by rw [iv_2, q0]; omega) (by rw [iv_2, q0]; omega), iv_2, q0]
      refine k_aload 25 rfl rfl rfl ?_
      refine k_aload 26 rfl rfl rfl ?_
      refine k_get 29 rfl e1 rfl rfl ?_
      refine k_aload 30 rfl rfl rfl ?_
      refine k_get 33 rfl e1 rfl rfl ?_
      refine k_aload 34 rfl rfl rfl ?_
      refine k_get 37 rfl d1 rfl rfl ?_
      refine k_push 38 rfl rfl ?_
      refine k_aload 39 rfl rfl rfl ?_
      refine k_get 42 rfl e1 rfl rfl ?_
      refine k_alen 43 rfl e3.1 e2 rfl ?_
      refine k_bin _ 44 rfl rfl rfl ?_
      refine k_math 47 rfl rfl rfl ?_
      have q3 : ∃ m : Int32, (if z2 < 2 * Int32.ofNat xs.1 then 2 * Int32.ofNat xs.1 else z2) = m ∧ z2.toInt ≤ m.toInt ∧ 2 * (xs.1 : Int) ≤ m.toInt ∧ m.toInt ≤ 200000 := by
        refine ⟨_, rfl, ?_⟩
        by_cases b3 : z2 < 2 * Int32.ofNat xs.1
        · rw [if_pos b3]
          rw [iv_lt] at b3
          omega
        · rw [if_neg b3]
          rw [iv_lt] at b3
          omega
      obtain ⟨m, hm, hm1, hm2, hm3⟩ := q3
      simp only [hm]
      refine k_math 50 rfl rfl rfl ?_
      have q4 : ∃ n : Int32, (if m < mo then m else mo) = n ∧ (n.toInt = mo.toInt ∨ 2 * (xs.1 : Int) ≤ n.toInt) ∧ n.toInt ≤ mo.toInt ∧ z2.toInt ≤ n.toInt := by
        refine ⟨_, rfl, ?_⟩
        by_cases b3 : m < mo
        · rw [if_pos b3]
          rw [iv_lt] at b3
          exact ⟨Or.inr hm2, by omega, hm1⟩
        · rw [if_neg b3]
          exact ⟨Or.inl rfl, Int.le_refl _, b1⟩
      obtain ⟨n, hn, hn1, hn2, hn3⟩ := q4
      simp only [hn]
      refine k_call0 rfl (rw_copyOf hT.1 e2 e3.1 (by omega) (by omega)) rfl rfl rfl rfl ?_
      rintro r ⟨ys, hy, rfl⟩
      have hil : i < h.length := (List.getElem?_eq_some_iff.mp e1).1
      have hil2 : i2 < h.length := (List.getElem?_eq_some_iff.mp d1).1
      have hal2 : a2 < h.length := (List.getElem?_eq_some_iff.mp d2).1
      have okI : am_okV h.length (.inr (.inr (some i))) = true := Nat.ble_eq_true_of_le hil
      have okI2 : am_okV h.length (.inr (.inr (some i2))) = true := Nat.ble_eq_true_of_le hil2
      have hii : i ≠ i2 := fun e => by
        subst e
        rw [e1] at d1
        cases d1
        omega
      have hai2 : i ≠ a2 := fun e => by
        subst e
        rw [e1] at d2
        cases d2
      refine ⟨Or.inr ⟨?_, ?_⟩, Or.inl ⟨_, rfl, ?_⟩⟩
      · show ([(0, .inr (.inr (some i))), (1, .inr (.inr (some i2)))] : am_l).all (fun q => am_okV h.length q.2) = true
        simp only [List.all_cons, okI, okI2, List.all_nil, Bool.and_self]
      · show ([.inr (.inr (some i))] : List am_v).all (am_okV h.length) = true
        simp only [List.all_cons, okI, List.all_nil, Bool.and_self]
      · show am_Ok am_G 1 58 (53, [(0, .inr (.inr (some i))), (1, .inr (.inr (some i2)))], [.inr (.inr (some h.length)), .inr (.inr (some i))], h ++ [.inl (.inl ys)], 0 + 1, 0 + n.toInt.toNat) _
        refine k_put 56 rfl (by rw [List.getElem?_append_left hil]; exact e1) rfl (Nat.le_of_ble_eq_true rfl) rfl ?_
        have hz9 : 0 ≤ z.toInt ∧ z.toInt ≤ (ys.1 : Int) := by omega
        have e8 : ob_c i mo ys.1 := ⟨e7.1, by have := e7.2.1; omega, by omega⟩
        obtain ⟨s1, f1, f2⟩ := ob_st.grow (ys := ys) hT.1 hT.2.1 hi81 e1 hz9 (by omega) e6 e8
        refine rw_cp56 rfl rfl s1.2.1 f1 f2 ⟨by omega, by have := hT.2.1; omega⟩ hz9 (by omega) e6 e8 (by rw [List.getElem?_set_ne hii, List.getElem?_append_left hil2]; exact d1) (by rw [List.getElem?_set_ne hai2, List.getElem?_append_left hal2]; exact d2) d3.1 d4 (by omega) (fun h' ys2 s2 k1 k2 k3 => ⟨⟨_, rfl, rfl⟩, (s1.trans s2).I (ob_I.start hT) (Or.inl ho) ?_ ?_⟩)
        · have w := (ob_p_grow e1 e2 k1 k2 (by omega) (by omega) (by omega)).1
          show 0 + 1 + ob_p h' i ≤ 0 + ob_p h i
          omega
        · have w := (ob_p_grow e1 e2 k1 k2 (by omega) (by omega) (by omega)).2
          show 0 + n.toInt.toNat + ob_p h' i ≤ 0 + ob_p h i
          omega
  · refine k_c2 11 rfl rfl (if_neg b1) ?_
    exact k_fin rfl rfl ⟨⟨_, rfl, rfl⟩, ob_I.start hT⟩
theorem rw_al15 {D i2 a2 : Nat} {mo2 : Int32} {xs2 : Nat × Int32 × List Int32} {Q : am_r → Prop} (e1 : h[i]? = some (.inr (3, [.inl mo, .inr (.inr (some a)), .inl z]))) (e2 : h[a]? = some (.inl (.inl xs))) (e3 : a ≠ 0) (e4 : z.toInt ≤ (xs.1 : Int)) (d1 : h[i2]? = some (.inr (3, [.inl mo2, .inr (.inr (some a2)), .inl z]))) (d2 : h[a2]? = some (.inl (.inl xs2))) (d3 : a2 ≠ 0) (d4 : z.toInt ≤ (xs2.1 : Int)) (K : ∀ b : Int32, (b = 0 ∨ b = 1) → Q (.inl (some (.inl b)), h, c, s)) : ∀ (n : Nat) {lv : am_l} {w : Int32}, up_m w ≤ n → am_get lv 0 = some (.inr (.inr (some i))) → am_get lv 1 = some (.inr (.inr (some i2))) → am_get lv 2 = some (.inl w) → 0 ≤ w.toInt → am_Ok am_G D 59 (15, lv, [], h, c, s) Q := by
  intro n
  induction n with
  | zero =>
    intro lv w hn g0 g1 g2 hw
    refine k_iload 16 rfl g2 rfl ?_
    refine k_aload 17 rfl g0 rfl ?_
    refine k_get 20 rfl e1 rfl rfl ?_
    by_cases b1 : z ≤ w
    · exact k_c2 46 rfl rfl (if_pos b1) (k_push 47 rfl rfl (k_fin rfl rfl (K 1 (Or.inr rfl))))
    · exfalso
      have := up_lt b1
      omega
  | succ n ih =>
    intro lv w hn g0 g1 g2 hw
    refine k_iload 16 rfl g2 rfl ?_
    refine k_aload 17 rfl g0 rfl ?_
    refine k_get 20 rfl e1 rfl rfl ?_
    by_cases b1 : z ≤ w
    · exact k_c2 46 rfl rfl (if_pos b1) (k_push 47 rfl rfl (k_fin rfl rfl (K 1 (Or.inr rfl))))
    · refine k_c2 23 rfl rfl (if_neg b1) ?_
      have hup := up_lt b1
      rw [iv_le] at b1
      have q1 : (w + 1).toInt = w.toInt + 1 := by
        have := iv_hi z
        rw [iv_add (by rw [iv_1]; omega) (by rw [iv_1]; omega), iv_1]
      refine k_aload 24 rfl g0 rfl ?_
      refine k_get 27 rfl e1 rfl rfl ?_
      refine k_iload 28 rfl g2 rfl ?_
      refine k_iald 29 rfl e3 e2 (iv_nn hw) (by rw [iv_cl]; omega) rfl rfl ?_
      refine k_aload 30 rfl g1 rfl ?_
      refine k_get 33 rfl d1 rfl rfl ?_
      refine k_iload 34 rfl g2 rfl ?_
      refine k_iald 35 rfl d3 d2 (iv_nn hw) (by rw [iv_cl]; omega) rfl rfl ?_
      by_cases b2 : xs.2.2.getD w.toNatClampNeg xs.2.1 = xs2.2.2.getD w.toNatClampNeg xs2.2.1
      · refine k_c2 40 rfl rfl (if_pos b2) ?_
        refine k_iinc (w + 1) 43 rfl g2 rfl rfl ?_
        refine k_goto 15 rfl rfl ?_
        exact ih (by omega) (gs_ne rfl rfl g0) (gs_ne rfl rfl g1) gs_eq (by omega)
      · refine k_c2 38 rfl rfl (if_neg b2) ?_
        exact k_push 39 rfl rfl (k_fin rfl rfl (K 0 (Or.inl rfl)))
theorem rw_alike {i2 : Nat} (hT : ty_H h) (ho : ob 3 i ∨ ob 11 i) (ho2 : ob 3 i2 ∨ ob 11 i2) : am_Mt 1 59 [.inr (.inr (some i)), .inr (.inr (some i2))] h (ty_Q [] 3 (ob_P h) h) := by
  obtain ⟨mo, z, a, xs, e1, e2, e3, e4, e5, e6, e7⟩ := hT.row ho
  obtain ⟨mo2, z2, a2, xs2, d1, d2, d3, d4, d5, d6, d7⟩ := hT.row ho2
  refine am_Mt.of (D := 0) ?_
  refine k_aload 1 rfl rfl rfl ?_
  refine k_get 4 rfl e1 rfl rfl ?_
  refine k_aload 5 rfl rfl rfl ?_
  refine k_get 8 rfl d1 rfl rfl ?_
  by_cases b1 : z = z2
  · refine k_c2 13 rfl rfl (if_pos b1) ?_
    subst b1
    refine k_push 14 rfl rfl ?_
    refine k_istore 15 rfl rfl ?_
    exact rw_al15 e1 e2 e3.1 e4.2 d1 d2 d3.1 d4.2 (fun b hb => ⟨⟨_, rfl, _, rfl, _, rfl, hb⟩, ob_I.start hT⟩) _ (Nat.le_refl _) rfl rfl rfl (by rw [iv_0]; omega)
  · refine k_c2 11 rfl rfl (if_neg b1) ?_
    exact k_push 12 rfl rfl (k_fin rfl rfl ⟨⟨_, rfl, _, rfl, _, rfl, Or.inl rfl⟩, ob_I.start hT⟩)
/-- the tape: how many it has, exactly -/
theorem rw_sizeX (hT : ty_H h) (ho : ob 3 i ∨ ob 11 i) (hz : ob_f h i 2 = some (.inl z)) : am_Mt 1 49 [.inr (.inr (some i))] h (fun r => r = (.inl (some (.inl z)), h, 0, 0)) := by
  obtain ⟨mo9, z9, a, xs, e1, e2, e3, e4, e5, e6, e7⟩ := hT.row ho
  unfold ob_f at hz
  rw [e1] at hz
  cases hz
  refine am_Mt.of (D := 0) ?_
  refine k_aload 1 rfl rfl rfl ?_
  refine k_get 4 rfl e1 rfl rfl ?_
  exact k_fin rfl rfl rfl
theorem rw_cutX {x : Int32} (hT : ty_H h) (ho : ob 3 i ∨ (ob 11 i ∧ ∀ k, k < 3 → (11, k) ∈ W)) (hz : ob_f h i 2 = some (.inl z)) (hm : ob_f h i 0 = some (.inl mo)) (hx : 0 ≤ x.toInt ∧ x.toInt ≤ z.toInt) : am_Mt 1 56 [.inr (.inr (some i)), .inl x] h (fun r => ty_Q W 0 (ob_P h) h r ∧ ob_f r.2.1 i 2 = some (.inl x) ∧ ob_f r.2.1 i 0 = some (.inl mo)) := by
  obtain ⟨mo9, z9, a, xs, e1, e2, e3, e4, e5, e6, e7⟩ := hT.row (ho.elim Or.inl (fun z => Or.inr z.1))
  have hF : ∀ {h' : am_h} {z' : Int32} {a' : Nat}, h'[i]? = some (.inr (3, [.inl mo9, .inr (.inr (some a')), .inl z'])) → ob_f h' i 2 = some (.inl z') ∧ ob_f h' i 0 = some (.inl mo9) := fun {h' z' a'} f1 => by
    unfold ob_f
    rw [f1]
    exact ⟨rfl, rfl⟩
  obtain ⟨k1, k2⟩ := hF e1
  rw [k1] at hz
  cases hz
  rw [k2] at hm
  cases hm
  refine am_Mt.of (D := 0) ?_
  refine k_iload 1 rfl rfl rfl ?_
  refine k_c1 4 rfl rfl (if_neg (iv_nn hx.1)) ?_
  refine k_iload 5 rfl rfl rfl ?_
  refine k_aload 6 rfl rfl rfl ?_
  refine k_get 9 rfl e1 rfl rfl ?_
  by_cases b2 : z ≤ x
  · refine k_c2 17 rfl rfl (if_pos b2) ?_
    have hzx : z = x := by
      rw [iv_le] at b2
      rw [iv_eq]
      omega
    subst hzx
    exact k_fin rfl rfl ⟨⟨⟨_, rfl, rfl⟩, ob_I.start hT⟩, k1, k2⟩
  · refine k_c2 12 rfl rfl (if_neg b2) ?_
    refine k_aload 13 rfl rfl rfl ?_
    refine k_iload 14 rfl rfl rfl ?_
    refine k_put 17 rfl e1 rfl (Nat.le_refl 3) rfl ?_
    obtain ⟨g1, g2, g3⟩ := ob_st.siz (z' := x) hT.1 e1 e2 e3 (by rw [iv_le] at b2; omega) e5 e6 e7
    exact k_fin rfl rfl ⟨⟨⟨_, rfl, rfl⟩, g1.I (ob_I.start hT) ho (by rw [ob_p_same e1 e2 g2 g3 rfl]; exact Nat.le_refl _) (by rw [ob_p_same e1 e2 g2 g3 rfl]; exact Nat.le_refl _)⟩, hF g2⟩
end ROW2
