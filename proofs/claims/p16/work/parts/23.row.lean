/-! THE CLASS'S ROWS: every method of theirs keeps the heap as it must be -/
/-- an answer's type: 0 nothing, 1 a row or null, n + 2: of n -/
def ty_A : Nat → Option am_v → Prop
  | 0, v => v = none
  | 1, v => v = some (.inr (.inr none)) ∨ ∃ i : Nat, v = some (.inr (.inr (some i))) ∧ (ob 3 i ∨ ob 11 i)
  | τ + 2, v => ∃ w, v = some w ∧ ty_V τ w
def ty_Q (W : List (Nat × Nat)) (τ B : Nat) (h0 : am_h) : am_r → Prop := fun r => (∃ v, r.1 = .inl v ∧ ty_A τ v) ∧ ob_I W B h0 r.2.1 r.2.2.1 r.2.2.2
section ROW
variable {W : List (Nat × Nat)} {B c s i a : Nat} {h h1 h2 h0 : am_h} {mo z : Int32} {xs ys : Nat × Int32 × List Int32}
theorem okH_set {n q : Nat} {x : am_e} (e : am_okH n h = true) (hx : am_okE n x = true) : am_okH n (h.set q x) = true := by
  unfold am_okH at *
  rw [List.all_eq_true] at *
  intro y hy
  rcases List.mem_or_eq_of_mem_set hy with hy | rfl
  · exact e y hy
  · exact hx
theorem okE_le {n m : Nat} {x : am_e} (hnm : n ≤ m) (hx : am_okE n x = true) : am_okE m x = true := by
  match x, hx with
  | .inl _, _ => rfl
  | .inr (k, fs), hx =>
    have hx : fs.all (am_okV n) = true := hx
    show fs.all (am_okV m) = true
    rw [List.all_eq_true] at *
    exact fun v hv => okV_le hnm (hx v hv)
theorem okH_le {n m : Nat} (hnm : n ≤ m) (e : am_okH n h = true) : am_okH m h = true := by
  unfold am_okH at *
  rw [List.all_eq_true] at *
  exact fun y hy => okE_le hnm (e y hy)
theorem ob_st.rf (hT : ty_H h) (hi : ob 3 i ∨ ob 11 i) : ob_st h h i := ⟨Nat.le_refl _, hT.1, fun q _ _ _ => rfl, hT.row hi, Or.inl rfl⟩
theorem ob_st.trans (p : ob_st h h1 i) (q : ob_st h1 h2 i) : ob_st h h2 i := by
  refine ⟨Nat.le_trans p.1 q.1, q.2.1, fun k hk hki hka => ?_, q.2.2.2.1, ?_⟩
  · have h3 : k ≠ ob_ra h1 i := by
      rcases p.2.2.2.2 with e | e
      · rw [e]
        exact hka
      · omega
    rw [q.2.2.1 k (Nat.lt_of_lt_of_le hk p.1) hki h3]
    exact p.2.2.1 k hk hki hka
  · rcases q.2.2.2.2 with e | e
    · rw [e]
      exact p.2.2.2.2
    · exact Or.inr (Nat.le_trans p.1 e)
/-- the row's numbers change -/
theorem ob_st.arr (hok : am_okH h.length h = true) (e1 : h[i]? = some (.inr (3, [.inl mo, .inr (.inr (some a)), .inl z]))) (e2 : h[a]? = some (.inl (.inl xs))) (e3 : ob_ar a) (e4 : 0 ≤ z.toInt ∧ z.toInt ≤ (xs.1 : Int)) (e5 : 1 ≤ xs.1 ∧ xs.1 ≤ 100000) (e6 : 1 ≤ mo.toInt ∧ mo.toInt ≤ 100000) (e7 : ob_c i mo xs.1) (hy : ys.1 = xs.1) : ob_st h (h.set a (.inl (.inl ys))) i ∧ (h.set a (.inl (.inl ys)))[i]? = some (.inr (3, [.inl mo, .inr (.inr (some a)), .inl z])) ∧ (h.set a (.inl (.inl ys)))[a]? = some (.inl (.inl ys)) := by
  have hai : a ≠ i := fun e => by
    subst e
    rw [e2] at e1
    cases e1
  have f1 : (h.set a (.inl (.inl ys)))[i]? = some (.inr (3, [.inl mo, .inr (.inr (some a)), .inl z])) := by rw [List.getElem?_set_ne hai]; exact e1
  have f2 : (h.set a (.inl (.inl ys)))[a]? = some (.inl (.inl ys)) := List.getElem?_set_self (List.getElem?_eq_some_iff.mp e2).1
  refine ⟨⟨Nat.le_of_eq List.length_set.symm, by rw [List.length_set]; exact okH_set hok rfl, fun q hq hqi hqa => List.getElem?_set_ne (fun z => hqa (by rw [ob_ra_eq e1]; exact z.symm)), ⟨mo, z, a, ys, f1, f2, e3, by rw [hy]; exact e4, by rw [hy]; exact e5, e6, by rw [hy]; exact e7⟩, Or.inl (by rw [ob_ra_eq f1, ob_ra_eq e1])⟩, f1, f2⟩
/-- how many it has changes -/
theorem ob_st.siz {z' : Int32} (hok : am_okH h.length h = true) (e1 : h[i]? = some (.inr (3, [.inl mo, .inr (.inr (some a)), .inl z]))) (e2 : h[a]? = some (.inl (.inl xs))) (e3 : ob_ar a) (e4 : 0 ≤ z'.toInt ∧ z'.toInt ≤ (xs.1 : Int)) (e5 : 1 ≤ xs.1 ∧ xs.1 ≤ 100000) (e6 : 1 ≤ mo.toInt ∧ mo.toInt ≤ 100000) (e7 : ob_c i mo xs.1) : ob_st h (h.set i (.inr (3, ([.inl mo, .inr (.inr (some a)), .inl z] : List am_v).set 2 (.inl z')))) i ∧ (h.set i (.inr (3, ([.inl mo, .inr (.inr (some a)), .inl z] : List am_v).set 2 (.inl z'))))[i]? = some (.inr (3, [.inl mo, .inr (.inr (some a)), .inl z'])) ∧ (h.set i (.inr (3, ([.inl mo, .inr (.inr (some a)), .inl z] : List am_v).set 2 (.inl z'))))[a]? = some (.inl (.inl xs)) := by
  have hai : i ≠ a := fun e => by
    subst e
    rw [e2] at e1
    cases e1
  have hal : a < h.length := (List.getElem?_eq_some_iff.mp e2).1
  have f1 : (h.set i (.inr (3, ([.inl mo, .inr (.inr (some a)), .inl z] : List am_v).set 2 (.inl z'))))[i]? = some (.inr (3, [.inl mo, .inr (.inr (some a)), .inl z'])) := List.getElem?_set_self (List.getElem?_eq_some_iff.mp e1).1
  have f2 : (h.set i (.inr (3, ([.inl mo, .inr (.inr (some a)), .inl z] : List am_v).set 2 (.inl z'))))[a]? = some (.inl (.inl xs)) := by rw [List.getElem?_set_ne hai]; exact e2
  refine ⟨⟨Nat.le_of_eq List.length_set.symm, ?_, fun q hq hqi _ => List.getElem?_set_ne (fun z => hqi z.symm), ⟨mo, z', a, xs, f1, f2, e3, e4, e5, e6, e7⟩, Or.inl (by rw [ob_ra_eq f1, ob_ra_eq e1])⟩, f1, f2⟩
  rw [List.length_set]
  refine okH_set hok ?_
  show ([.inl mo, .inr (.inr (some a)), .inl z'] : List am_v).all (am_okV h.length) = true
  have e9 : am_okV h.length (.inr (.inr (some a))) = true := Nat.ble_eq_true_of_le hal
  simp only [List.all_cons, e9, List.all_nil, Bool.and_self, Bool.true_and]
  rfl
/-- its place changes -/
theorem ob_st.grow (hok : am_okH h.length h = true) (hlen : 123 ≤ h.length) (hi : i < 81) (e1 : h[i]? = some (.inr (3, [.inl mo, .inr (.inr (some a)), .inl z]))) (e4 : 0 ≤ z.toInt ∧ z.toInt ≤ (ys.1 : Int)) (e5 : 1 ≤ ys.1 ∧ ys.1 ≤ 100000) (e6 : 1 ≤ mo.toInt ∧ mo.toInt ≤ 100000) (e7 : ob_c i mo ys.1) : ob_st h ((h ++ [.inl (.inl ys)] : am_h).set i (.inr (3, ([.inl mo, .inr (.inr (some a)), .inl z] : List am_v).set 1 (.inr (.inr (some h.length)))))) i ∧ ((h ++ [.inl (.inl ys)] : am_h).set i (.inr (3, ([.inl mo, .inr (.inr (some a)), .inl z] : List am_v).set 1 (.inr (.inr (some h.length))))))[i]? = some (.inr (3, [.inl mo, .inr (.inr (some h.length)), .inl z])) ∧ ((h ++ [.inl (.inl ys)] : am_h).set i (.inr (3, ([.inl mo, .inr (.inr (some a)), .inl z] : List am_v).set 1 (.inr (.inr (some h.length))))))[h.length]? = some (.inl (.inl ys)) := by
  have hl2 : (h ++ [.inl (.inl ys)] : am_h).length = h.length + 1 := by simp
  have f1 : ((h ++ [.inl (.inl ys)] : am_h).set i (.inr (3, ([.inl mo, .inr (.inr (some a)), .inl z] : List am_v).set 1 (.inr (.inr (some h.length))))))[i]? = some (.inr (3, [.inl mo, .inr (.inr (some h.length)), .inl z])) := List.getElem?_set_self (by rw [hl2]; omega)
  have f2 : ((h ++ [.inl (.inl ys)] : am_h).set i (.inr (3, ([.inl mo, .inr (.inr (some a)), .inl z] : List am_v).set 1 (.inr (.inr (some h.length))))))[h.length]? = some (.inl (.inl ys)) := by
    rw [List.getElem?_set_ne (by omega), List.getElem?_append_right (Nat.le_refl _), Nat.sub_self]
    rfl
  have hlen9 : ((h ++ [.inl (.inl ys)] : am_h).set i (.inr (3, ([.inl mo, .inr (.inr (some a)), .inl z] : List am_v).set 1 (.inr (.inr (some h.length)))))).length = h.length + 1 := by rw [List.length_set, hl2]
  refine ⟨⟨by rw [hlen9]; omega, ?_, fun q hq hqi _ => ?_, ⟨mo, z, h.length, ys, f1, f2, ⟨by omega, by omega⟩, e4, e5, e6, e7⟩, Or.inr (by rw [ob_ra_eq f1]; exact Nat.le_refl _)⟩, f1, f2⟩
  · rw [hlen9]
    refine okH_set ?_ ?_
    · unfold am_okH
      rw [List.all_append]
      have e9 := okH_le (Nat.le_succ h.length) hok
      unfold am_okH at e9
      rw [e9]
      rfl
    · show ([.inl mo, .inr (.inr (some h.length)), .inl z] : List am_v).all (am_okV (h.length + 1)) = true
      have e9 : am_okV (h.length + 1) (.inr (.inr (some h.length))) = true := Nat.ble_eq_true_of_le (Nat.le_refl _)
      simp only [List.all_cons, e9, List.all_nil, Bool.and_self, Bool.true_and]
      rfl
  · rw [List.getElem?_set_ne (fun z => hqi z.symm), List.getElem?_append_left hq]
theorem ob_p_same {mo z z' : Int32} {a a' : Nat} {xs xs' : Nat × Int32 × List Int32} (e1 : h[i]? = some (.inr (3, [.inl mo, .inr (.inr (some a)), .inl z]))) (e2 : h[a]? = some (.inl (.inl xs))) (f1 : h1[i]? = some (.inr (3, [.inl mo, .inr (.inr (some a')), .inl z']))) (f2 : h1[a']? = some (.inl (.inl xs'))) (hx : xs'.1 = xs.1) : ob_p h1 i = ob_p h i := by rw [ob_p_eq e1 e2, ob_p_eq f1 f2, hx]
theorem ob_p_grow {mo z z' : Int32} {a a' : Nat} {xs xs' : Nat × Int32 × List Int32} (e1 : h[i]? = some (.inr (3, [.inl mo, .inr (.inr (some a)), .inl z]))) (e2 : h[a]? = some (.inl (.inl xs))) (f1 : h1[i]? = some (.inr (3, [.inl mo, .inr (.inr (some a')), .inl z']))) (f2 : h1[a']? = some (.inl (.inl xs'))) (m1 : (xs'.1 : Int) ≤ mo.toInt) (m2 : xs.1 < xs'.1) (m3 : (xs'.1 : Int) = mo.toInt ∨ 2 * xs.1 ≤ xs'.1) : 1 + ob_p h1 i ≤ ob_p h i ∧ xs'.1 + ob_p h1 i ≤ ob_p h i := by
  have a1 : (xs.1 : Int) < mo.toInt := by omega
  rw [ob_p_eq e1 e2, ob_p_eq f1 f2, if_pos a1]
  by_cases hm : (xs'.1 : Int) < mo.toInt
  · rw [if_pos hm]
    omega
  · rw [if_neg hm]
    omega
/-- Arrays.copyOf to a greater length -/
theorem rw_copyOf {n : Int32} (hok : am_okH h.length h = true) (e2 : h[a]? = some (.inl (.inl xs))) (ha : a ≠ 0) (h1 : (xs.1 : Int) < n.toInt) (h2 : n.toInt ≤ 200000) : am_Mt 1 279 [.inr (.inr (some a)), .inl n] h (fun r => ∃ ys : Nat × Int32 × List Int32, ys.1 = n.toInt.toNat ∧ r = (.inl (some (.inr (.inr (some h.length)))), h ++ [.inl (.inl ys)], 1, n.toInt.toNat)) := by
  have hal : a < h.length := (List.getElem?_eq_some_iff.mp e2).1
  have hn0 : ¬ n < 0 := iv_nn (by omega)
  have hcl : n.toNatClampNeg = n.toInt.toNat := rfl
  have hxs : xs.1 < 2147483648 := by omega
  have hne : ¬ n = Int32.ofNat xs.1 := fun e => by
    rw [e, iv_n xs.1 hxs] at h1
    omega
  refine am_Mt.of (D := 0) ?_
  refine k_iload 1 rfl rfl rfl ?_
  refine k_aload 2 rfl rfl rfl ?_
  refine k_alen 3 rfl ha e2 rfl ?_
  refine k_c2 14 rfl rfl (if_neg hne) ?_
  refine k_iload 15 rfl rfl rfl ?_
  refine k_newI 17 rfl ?_ hn0 (by rw [hcl]; omega) rfl ?_
  · show (am_okL h.length [(0, .inr (.inr (some a))), (1, .inl n)] && (([.inl n] : List am_v).all (am_okV h.length) && am_okH h.length h)) = true
    have e9 : am_okV h.length (.inr (.inr (some a))) = true := Nat.ble_eq_true_of_le hal
    rw [hok]
    simp only [am_okL, List.all_cons, e9, List.all_nil, Bool.and_self, Bool.true_and, Bool.and_true]
    rfl
  refine k_astore 18 rfl rfl ?_
  refine k_aload 19 rfl rfl rfl ?_
  refine k_push 20 rfl rfl ?_
  refine k_aload 21 rfl rfl rfl ?_
  refine k_push 22 rfl rfl ?_
  refine k_aload 23 rfl rfl rfl ?_
  have f2 : (h ++ [.inl (.inl (n.toNatClampNeg, 0, []))] : am_h)[a]? = some (.inl (.inl xs)) := by rw [List.getElem?_append_left hal]; exact e2
  have f3 : (h ++ [.inl (.inl (n.toNatClampNeg, 0, []))] : am_h)[h.length]? = some (.inl (.inl (n.toNatClampNeg, 0, []))) := by
    rw [List.getElem?_append_right (Nat.le_refl _), Nat.sub_self]
    rfl
  refine k_alen 24 rfl ha f2 rfl ?_
  refine k_iload 25 rfl rfl rfl ?_
  refine k_math 28 rfl rfl rfl ?_
  have hmin : (if n < Int32.ofNat xs.1 then n else Int32.ofNat xs.1) = Int32.ofNat xs.1 := if_neg (by rw [iv_lt, iv_n xs.1 (by omega)]; omega)
  simp only [hmin]
  have hx9 : (Int32.ofNat xs.1).toNatClampNeg = xs.1 := by rw [iv_cl, iv_n xs.1 (by omega)]; omega
  refine k_copy 31 rfl f2 f3 ⟨by omega, ha, by decide, by decide, by decide, iv_nn (by rw [iv_n xs.1 (by omega)]; omega), by rw [hx9]; show 0 + xs.1 ≤ xs.1; omega, by rw [hx9]; show 0 + xs.1 ≤ n.toInt.toNat; omega⟩ rfl ?_
  refine k_aload 32 rfl rfl rfl ?_
  refine k_fin rfl rfl ⟨am_cp xs (n.toNatClampNeg, 0, []) (Int32.toNatClampNeg 0) (Int32.toNatClampNeg 0) (Int32.ofNat xs.1).toNatClampNeg, am_cp_len, ?_⟩
  show (_, _, _, _) = (_, _, _, _)
  have e9 : ∀ y : am_e, (h ++ [.inl (.inl (n.toNatClampNeg, 0, []))] : am_h).set h.length y = h ++ [y] := fun y => by
    rw [List.set_append_right _ _ (Nat.le_refl _), Nat.sub_self]
    rfl
  rw [e9, hcl]
  show (_, _, 0 + 1, 0 + n.toInt.toNat) = (_, _, 1, n.toInt.toNat)
  rw [Nat.zero_add, Nat.zero_add]
theorem rw_size (hT : ty_H h) (ho : ob 3 i ∨ ob 11 i) : am_Mt 1 49 [.inr (.inr (some i))] h (ty_Q [] 2 (ob_P h) h) := by
  obtain ⟨mo, z, a, xs, e1, e2, e3, e4, e5, e6, e7⟩ := hT.row ho
  refine am_Mt.of (D := 0) ?_
  refine k_aload 1 rfl rfl rfl ?_
  refine k_get 4 rfl e1 rfl rfl ?_
  exact k_fin rfl rfl ⟨⟨_, rfl, _, rfl, _, rfl⟩, ob_I.start hT⟩
theorem rw_get {x : Int32} (hT : ty_H h) (ho : ob 3 i ∨ ob 11 i) : am_Mt 1 50 [.inr (.inr (some i)), .inl x] h (ty_Q [] 2 (ob_P h) h) := by
  obtain ⟨mo, z, a, xs, e1, e2, e3, e4, e5, e6, e7⟩ := hT.row ho
  refine am_Mt.of (D := 0) ?_
  refine k_iload 1 rfl rfl rfl ?_
  by_cases b1 : x < 0
  · refine k_c1 21 rfl rfl (if_pos b1) ?_
    refine k_push 22 rfl rfl ?_
    exact k_fin rfl rfl ⟨⟨_, rfl, _, rfl, _, rfl⟩, ob_I.start hT⟩
  · refine k_c1 4 rfl rfl (if_neg b1) ?_
    refine k_iload 5 rfl rfl rfl ?_
    refine k_aload 6 rfl rfl rfl ?_
    refine k_get 9 rfl e1 rfl rfl ?_
    by_cases b2 : z ≤ x
    · refine k_c2 21 rfl rfl (if_pos b2) ?_
      refine k_push 22 rfl rfl ?_
      exact k_fin rfl rfl ⟨⟨_, rfl, _, rfl, _, rfl⟩, ob_I.start hT⟩
    · refine k_c2 12 rfl rfl (if_neg b2) ?_
      refine k_aload 13 rfl rfl rfl ?_
      refine k_get 16 rfl e1 rfl rfl ?_
      refine k_iload 17 rfl rfl rfl ?_
      refine k_iald 18 rfl e3.1 e2 b1 (by rw [iv_cl]; rw [iv_le] at b2; have := iv_nz b1; omega) rfl rfl ?_
      refine k_goto 22 rfl rfl ?_
      exact k_fin rfl rfl ⟨⟨_, rfl, _, rfl, _, rfl⟩, ob_I.start hT⟩
theorem rw_set {x y : Int32} (hT : ty_H h) (ho : ob 3 i) : am_Mt 1 51 [.inr (.inr (some i)), .inl x, .inl y] h (ty_Q [] 0 (ob_P h) h) := by
  obtain ⟨mo, z, a, xs, e1, e2, e3, e4, e5, e6, e7⟩ := hT.row (Or.inl ho)
  refine am_Mt.of (D := 0) ?_
  refine k_iload 1 rfl rfl rfl ?_
  by_cases b1 : x < 0
  · refine k_c1 19 rfl rfl (if_pos b1) ?_
    exact k_fin rfl rfl ⟨⟨_, rfl, rfl⟩, ob_I.start hT⟩
  · refine k_c1 4 rfl rfl (if_neg b1) ?_
    refine k_iload 5 rfl rfl rfl ?_
    refine k_aload 6 rfl rfl rfl ?_
    refine k_get 9 rfl e1 rfl rfl ?_
    by_cases b2 : z ≤ x
    · refine k_c2 19 rfl rfl (if_pos b2) ?_
      exact k_fin rfl rfl ⟨⟨_, rfl, rfl⟩, ob_I.start hT⟩
    · refine k_c2 12 rfl rfl (if_neg b2) ?_
      refine k_aload 13 rfl rfl rfl ?_
      refine k_get 16 rfl e1 rfl rfl ?_
      refine k_iload 17 rfl rfl rfl ?_
      refine k_iload 18 rfl rfl rfl ?_
      refine k_iast 19 rfl e3.1 e2 b1 (by rw [iv_cl]; rw [iv_le] at b2; have := iv_nz b1; omega) rfl ?_
      obtain ⟨g1, g2, g3⟩ := ob_st.arr (ys := (xs.1, xs.2.1, am_up xs.2.1 xs.2.2 x.toNatClampNeg y)) hT.1 e1 e2 e3 e4 e5 e6 e7 rfl
      exact k_fin rfl rfl ⟨⟨_, rfl, rfl⟩, g1.I (ob_I.start hT) (Or.inl ho) (by rw [ob_p_same e1 e2 g2 g3 rfl]; exact Nat.le_refl _) (by rw [ob_p_same e1 e2 g2 g3 rfl]; exact Nat.le_refl _)⟩
/-- cut: how many it has then -/
theorem rw_cut {x : Int32} (hT : ty_H h) (ho : ob 3 i ∨ (ob 11 i ∧ ∀ k, k < 3 → (11, k) ∈ W)) : am_Mt 1 56 [.inr (.inr (some i)), .inl x] h (ty_Q W 0 (ob_P h) h) := by
  obtain ⟨mo, z, a, xs, e1, e2, e3, e4, e5, e6, e7⟩ := hT.row (ho.elim Or.inl (fun z => Or.inr z.1))
  refine am_Mt.of (D := 0) ?_
  refine k_iload 1 rfl rfl rfl ?_
  by_cases b1 : x < 0
  · refine k_c1 17 rfl rfl (if_pos b1) ?_
    exact k_fin rfl rfl ⟨⟨_, rfl, rfl⟩, ob_I.start hT⟩
  · refine k_c1 4 rfl rfl (if_neg b1) ?_
    refine k_iload 5 rfl rfl rfl ?_
    refine k_aload 6 rfl rfl rfl ?_
    refine k_get 9 rfl e1 rfl rfl ?_
    by_cases b2 : z ≤ x
    · refine k_c2 17 rfl rfl (if_pos b2) ?_
      exact k_fin rfl rfl ⟨⟨_, rfl, rfl⟩, ob_I.start hT⟩
    · refine k_c2 12 rfl rfl (if_neg b2) ?_
      refine k_aload 13 rfl rfl rfl ?_
      refine k_iload 14 rfl rfl rfl ?_
      refine k_put 17 rfl e1 rfl (Nat.le_refl 3) rfl ?_
      obtain ⟨g1, g2, g3⟩ := ob_st.siz (z' := x) hT.1 e1 e2 e3 (by rw [iv_le] at b2; have := iv_nz b1; omega) e5 e6 e7
      exact k_fin rfl rfl ⟨⟨_, rfl, rfl⟩, g1.I (ob_I.start hT) ho (by rw [ob_p_same e1 e2 g2 g3 rfl]; exact Nat.le_refl _) (by rw [ob_p_same e1 e2 g2 g3 rfl]; exact Nat.le_refl _)⟩
theorem rw_takeLast (hT : ty_H h) (ho : ob 3 i) : am_Mt 1 55 [.inr (.inr (some i))] h (ty_Q [] 2 (ob_P h) h) := by
  obtain ⟨mo, z, a, xs, e1, e2, e3, e4, e5, e6, e7⟩ := hT.row (Or.inl ho)
  refine am_Mt.of (D := 0) ?_
  refine k_aload 1 rfl rfl rfl ?_
  refine k_get 4 rfl e1 rfl rfl ?_
  by_cases b1 : z = 0
  · refine k_c1 7 rfl rfl (if_pos b1) ?_
    refine k_push 8 rfl rfl ?_
    exact k_fin rfl rfl ⟨⟨_, rfl, _, rfl, _, rfl⟩, ob_I.start hT⟩
  · refine k_c1 9 rfl rfl (if_neg b1) ?_
    rw [iv_eq, iv_0] at b1
    have hz : (z - 1).toInt = z.toInt - 1 := by
      have h9 := iv_hi z
      rw [iv_sub (by rw [iv_1]; omega) (by rw [iv_1]; omega), iv_1]
    refine k_aload 10 rfl rfl rfl ?_
    refine k_dup 11 rfl rfl rfl ?_
    refine k_get 14 rfl e1 rfl rfl ?_
    refine k_push 15 rfl rfl ?_
    refine k_bin _ 16 rfl rfl rfl ?_
    refine k_put 19 rfl e1 rfl (Nat.le_refl 3) rfl ?_
    obtain ⟨g1, g2, g3⟩ := ob_st.siz (z' := z - 1) hT.1 e1 e2 e3 (by omega) e5 e6 e7
    refine k_aload 20 rfl rfl rfl ?_
    refine k_get 23 rfl g2 rfl rfl ?_
    refine k_aload 24 rfl rfl rfl ?_
    refine k_get 27 rfl g2 rfl rfl ?_
    refine k_iald 28 rfl e3.1 g3 (iv_nn (by omega)) (by rw [iv_cl]; omega) rfl rfl ?_
    exact k_fin rfl rfl ⟨⟨_, rfl, _, rfl, _, rfl⟩, g1.I (ob_I.start hT) (Or.inl ho) (by rw [ob_p_same e1 e2 g2 g3 rfl]; exact Nat.le_refl _) (by rw [ob_p_same e1 e2 g2 g3 rfl]; exact Nat.le_refl _)⟩
theorem rw_drop {x : Int32} (hT : ty_H h) (ho : ob 3 i) : am_Mt 1 54 [.inr (.inr (some i)), .inl x] h (ty_Q [] 0 (ob_P h) h) := by
  obtain ⟨mo, z, a, xs, e1, e2, e3, e4, e5, e6, e7⟩ := hT.row (Or.inl ho)
  refine am_Mt.of (D := 0) ?_
  refine k_iload 1 rfl rfl rfl ?_
  by_cases b1 : x < 0
  · refine k_c1 45 rfl rfl (if_pos b1) ?_
    exact k_fin rfl rfl ⟨⟨_, rfl, rfl⟩, ob_I.start hT⟩
  · refine k_c1 4 rfl rfl (if_neg b1) ?_
    refine k_iload 5 rfl rfl rfl ?_
    refine k_aload 6 rfl rfl rfl ?_
    refine k_get 9 rfl e1 rfl rfl ?_
    by_cases b2 : z ≤ x
    · refine k_c2 45 rfl rfl (if_pos b2) ?_
      exact k_fin rfl rfl ⟨⟨_, rfl, rfl⟩, ob_I.start hT⟩
    · refine k_c2 12 rfl rfl (if_neg b2) ?_
      rw [iv_le] at b2
      have b3 := iv_nz b1
      have q1 : (x + 1).toInt = x.toInt + 1 := by rw [iv_add (by rw [iv_1]; omega) (by rw [iv_1]; omega), iv_1]
      have q2 : (z - x).toInt = z.toInt - x.toInt := iv_sub (by omega) (by omega)
      have q3 : (z - x - 1).toInt = z.toInt - x.toInt - 1 := by rw [iv_sub (by rw [iv_1]; omega) (by rw [iv_1]; omega), iv_1, q2]
      have q4 : (z - 1).toInt = z.toInt - 1 := by rw [iv_sub (by rw [iv_1]; omega) (by rw [iv_1]; omega), iv_1]
      refine k_aload 13 rfl rfl rfl ?_
      refine k_get 16 rfl e1 rfl rfl ?_
      refine k_iload 17 rfl rfl rfl ?_
      refine k_push 18 rfl rfl ?_
      refine k_bin _ 19 rfl rfl rfl ?_
      refine k_aload 20 rfl rfl rfl ?_
      refine k_get 23 rfl e1 rfl rfl ?_
      refine k_iload 24 rfl rfl rfl ?_
      refine k_aload 25 rfl rfl rfl ?_
      refine k_get 28 rfl e1 rfl rfl ?_
      refine k_iload 29 rfl rfl rfl ?_
      refine k_bin _ 30 rfl rfl rfl ?_
      refine k_push 31 rfl rfl ?_
      refine k_bin _ 32 rfl rfl rfl ?_
      refine k_copy 35 rfl e2 e2 ⟨e3.1, e3.1, by decide, iv_nn (by omega), b1, iv_nn (by omega), by rw [iv_cl, iv_cl]; omega, by rw [iv_cl, iv_cl]; omega⟩ rfl ?_
      obtain ⟨g1, g2, g3⟩ := ob_st.arr (ys := am_cp xs xs (x + 1).toNatClampNeg x.toNatClampNeg (z - x - 1).toNatClampNeg) hT.1 e1 e2 e3 e4 e5 e6 e7 am_cp_len
      have g5 : 1 ≤ (am_cp xs xs (x + 1).toNatClampNeg x.toNatClampNeg (z - x - 1).toNatClampNeg).1 ∧ (am_cp xs xs (x + 1).toNatClampNeg x.toNatClampNeg (z - x - 1).toNatClampNeg).1 ≤ 100000 := by rw [am_cp_len]; exact e5
      refine k_aload 36 rfl rfl rfl ?_
      refine k_dup 37 rfl rfl rfl ?_
      refine k_get 40 rfl g2 rfl rfl ?_
      refine k_push 41 rfl rfl ?_
      refine k_bin _ 42 rfl rfl rfl ?_
      refine k_put 45 rfl g2 rfl (Nat.le_refl 3) rfl ?_
      obtain ⟨k1, k2, k3⟩ := ob_st.siz (z' := z - 1) g1.2.1 g2 g3 e3 (by rw [am_cp_len]; omega) g5 e6 (by rw [am_cp_len]; exact e7)
      exact k_fin rfl rfl ⟨⟨_, rfl, rfl⟩, (g1.trans k1).I (ob_I.start hT) (Or.inl ho) (by rw [ob_p_same e1 e2 k2 k3 am_cp_len]; exact Nat.le_refl _) (by rw [ob_p_same e1 e2 k2 k3 am_cp_len]; exact Nat.le_refl _)⟩
theorem rw_add50 {D : Nat} {lv : am_l} {Q : am_r → Prop} {x : Int32} (g0 : am_get lv 0 = some (.inr (.inr (some i)))) (g1 : am_get lv 1 = some (.inl x)) (hok : am_okH h.length h = true) (e1 : h[i]? = some (.inr (3, [.inl mo, .inr (.inr (some a)), .inl z]))) (e2 : h[a]? = some (.inl (.inl xs))) (e3 : ob_ar a) (e4 : 0 ≤ z.toInt ∧ z.toInt ≤ (xs.1 : Int)) (e5 : 1 ≤ xs.1 ∧ xs.1 ≤ 100000) (e6 : 1 ≤ mo.toInt ∧ mo.toInt ≤ 100000) (e7 : ob_c i mo xs.1) (hz : z.toInt < (xs.1 : Int)) (K : ∀ (h' : am_h) (ys : Nat × Int32 × List Int32), ob_st h h' i → h'[i]? = some (.inr (3, [.inl mo, .inr (.inr (some a)), .inl (z + 1)])) → h'[a]? = some (.inl (.inl ys)) → ys.1 = xs.1 → Q (.inl (some (.inl 1)), h', c, s)) : am_Ok am_G D 52 (50, lv, [], h, c, s) Q := by
  have q1 : (z + 1).toInt = z.toInt + 1 := by rw [iv_add (by rw [iv_1]; omega) (by rw [iv_1]; omega), iv_1]
  refine k_aload 51 rfl g0 rfl ?_
  refine k_get 54 rfl e1 rfl rfl ?_
  refine k_aload 55 rfl g0 rfl ?_
  refine k_get 58 rfl e1 rfl rfl ?_
  refine k_iload 59 rfl g1 rfl ?_
  refine k_iast 60 rfl e3.1 e2 (iv_nn e4.1) (by rw [iv_cl]; omega) rfl ?_
  obtain ⟨p1, p2, p3⟩ := ob_st.arr (ys := (xs.1, xs.2.1, am_up xs.2.1 xs.2.2 z.toNatClampNeg x)) hok e1 e2 e3 e4 e5 e6 e7 rfl
  refine k_aload 61 rfl g0 rfl ?_
  refine k_dup 62 rfl rfl rfl ?_
  refine k_get 65 rfl p2 rfl rfl ?_
  refine k_push 66 rfl rfl ?_
  refine k_bin _ 67 rfl rfl rfl ?_
  refine k_put 70 rfl p2 rfl (Nat.le_refl 3) rfl ?_
  obtain ⟨r1, r2, r3⟩ := ob_st.siz (z' := z + 1) p1.2.1 p2 p3 e3 (by show 0 ≤ (z + 1).toInt ∧ (z + 1).toInt ≤ (xs.1 : Int); omega) e5 e6 e7
  refine k_push 71 rfl rfl ?_
  exact k_fin rfl rfl (K _ _ (p1.trans r1) r2 r3 rfl)
theorem rw_add {x : Int32} (hT : ty_H h) (ho : ob 3 i ∨ (ob 11 i ∧ ∀ k, k < 3 → (11, k) ∈ W)) : am_Mt 2 52 [.inr (.inr (some i)), .inl x] h (fun r => ty_Q W 3 (ob_P h) h r ∧ ∀ z mo : Int32, ob_f h i 2 = some (.inl z) → ob_f h i 0 = some (.inl mo) → z < mo → ob_f r.2.1 i 2 = some (.inl (z + 1)) ∧ ob_f r.2.1 i 0 = some (.inl mo)) := by
  have ho9 : ob 3 i ∨ ob 11 i := ho.elim Or.inl (fun z => Or.inr z.1)
  obtain ⟨mo, z, a, xs, e1, e2, e3, e4, e5, e6, e7⟩ := hT.row ho9
  have hi81 : i < 81 := ho9.elim ob_lt ob_lt
  have hfz : ∀ {z9 mo9 : Int32}, ob_f h i 2 = some (.inl z9) → ob_f h i 0 = some (.inl mo9) → z9 = z ∧ mo9 = mo := fun {z9 mo9} f1 f2 => by
    unfold ob_f at f1 f2
    rw [e1] at f1 f2
    cases f1
    cases f2
    exact ⟨rfl, rfl⟩
  have hF : ∀ {h' : am_h} {z' : Int32} {a' : Nat}, h'[i]? = some (.inr (3, [.inl mo, .inr (.inr (some a')), .inl z'])) → ob_f h' i 2 = some (.inl z') ∧ ob_f h' i 0 = some (.inl mo) := fun {h' z' a'} f1 => by
    unfold ob_f
    rw [f1]
    exact ⟨rfl, rfl⟩
  refine am_Mt.of (D := 1) ?_
  refine k_aload 1 rfl rfl rfl ?_
  refine k_get 4 rfl e1 rfl rfl ?_
  refine k_aload 5 rfl rfl rfl ?_
  refine k_get 8 rfl e1 rfl rfl ?_
  by_cases b1 : z < mo
  · refine k_c2 13 rfl rfl (if_pos b1) ?_
    rw [iv_lt] at b1
    refine k_aload 14 rfl rfl rfl ?_
    refine k_get 17 rfl e1 rfl rfl ?_
    refine k_aload 18 rfl rfl rfl ?_
    refine k_get 21 rfl e1 rfl rfl ?_
    refine k_alen 22 rfl e3.1 e2 rfl ?_
    have q0 : (Int32.ofNat xs.1).toInt = (xs.1 : Int) := iv_n xs.1 (by omega)
    by_cases b2 : z < Int32.ofNat xs.1
    · refine k_c2 50 rfl rfl (if_pos b2) ?_
      rw [iv_lt, q0] at b2
      refine rw_add50 (x := x) rfl rfl hT.1 e1 e2 e3 e4 e5 e6 e7 b2 (fun h' ys s1 f1 f2 f3 => ⟨⟨⟨_, rfl, _, rfl, _, rfl, Or.inr rfl⟩, s1.I (ob_I.start hT) ho ?_ ?_⟩, fun z9 mo9 u1 u2 u3 => ?_⟩)
      · rw [ob_p_same e1 e2 f1 f2 f3]
        exact Nat.le_refl _
      · rw [ob_p_same e1 e2 f1 f2 f3]
        exact Nat.le_refl _
      · obtain ⟨rfl, rfl⟩ := hfz u1 u2
        exact hF f1
    · refine k_c2 25 rfl rfl (if_neg b2) ?_
      rw [iv_lt, q0] at b2
      have q2 : (2 * Int32.ofNat xs.1).toInt = 2 * (xs.1 : Int) := by rw [iv_mul (by rw [iv_2, q0]; omega) (by rw [iv_2, q0]; omega), iv_2, q0]
      refine k_aload 26 rfl rfl rfl ?_
      refine k_aload 27 rfl rfl rfl ?_
      refine k_get 30 rfl e1 rfl rfl ?_
      refine k_aload 31 rfl rfl rfl ?_
      refine k_get 34 rfl e1 rfl rfl ?_
      refine k_push 35 rfl rfl ?_
      refine k_aload 36 rfl rfl rfl ?_
      refine k_get 39 rfl e1 rfl rfl ?_
      refine k_alen 40 rfl e3.1 e2 rfl ?_
      refine k_bin _ 41 rfl rfl rfl ?_
      refine k_math 44 rfl rfl rfl ?_
      have q3 : ∃ n : Int32, (if 2 * Int32.ofNat xs.1 < mo then 2 * Int32.ofNat xs.1 else mo) = n ∧ (n.toInt = mo.toInt ∨ n.toInt = 2 * (xs.1 : Int)) ∧ n.toInt ≤ mo.toInt := by
        refine ⟨_, rfl, ?_⟩
        by_cases b3 : 2 * Int32.ofNat xs.1 < mo
        · rw [if_pos b3]
          rw [iv_lt] at b3
          exact ⟨Or.inr q2, by omega⟩
        · rw [if_neg b3]
          exact ⟨Or.inl rfl, Int.le_refl _⟩
      obtain ⟨n, hn, hn1, hn2⟩ := q3
      simp only [hn]
      refine k_call0 rfl (rw_copyOf hT.1 e2 e3.1 (by omega) (by omega)) rfl rfl rfl rfl ?_
      rintro r ⟨ys, hy, rfl⟩
      have hal : a < h.length := (List.getElem?_eq_some_iff.mp e2).1
      have hil : i < h.length := (List.getElem?_eq_some_iff.mp e1).1
      have okI : am_okV h.length (.inr (.inr (some i))) = true := Nat.ble_eq_true_of_le hil
      refine ⟨Or.inr ⟨?_, ?_⟩, Or.inl ⟨_, rfl, ?_⟩⟩
      · show ([(0, .inr (.inr (some i))), (1, .inl x)] : am_l).all (fun q => am_okV h.length q.2) = true
        simp only [List.all_cons, okI, List.all_nil, Bool.and_self, Bool.true_and]
        rfl
      · show ([.inr (.inr (some i))] : List am_v).all (am_okV h.length) = true
        simp only [List.all_cons, okI, List.all_nil, Bool.and_self]
      · show am_Ok am_G 1 52 (47, [(0, .inr (.inr (some i))), (1, .inl x)], [.inr (.inr (some h.length)), .inr (.inr (some i))], h ++ [.inl (.inl ys)], 0 + 1, 0 + n.toInt.toNat) _
        refine k_put 50 rfl (by rw [List.getElem?_append_left hil]; exact e1) rfl (Nat.le_of_ble_eq_true rfl) rfl ?_
        have hz9 : 0 ≤ z.toInt ∧ z.toInt ≤ (ys.1 : Int) := by omega
        have e8 : ob_c i mo ys.1 := ⟨e7.1, by have := e7.2.1; omega, by omega⟩
        obtain ⟨s1, f1, f2⟩ := ob_st.grow (ys := ys) hT.1 hT.2.1 hi81 e1 hz9 (by omega) e6 e8
        refine rw_add50 (x := x) rfl rfl s1.2.1 f1 f2 ⟨by omega, by have := hT.2.1; omega⟩ hz9 (by omega) e6 e8 (by omega) (fun h' ys2 s2 k1 k2 k3 => ⟨⟨⟨_, rfl, _, rfl, _, rfl, Or.inr rfl⟩, (s1.trans s2).I (ob_I.start hT) ho ?_ ?_⟩, fun z9 mo9 u1 u2 u3 => ?_⟩)
        · have w := ob_p_grow e1 e2 k1 k2 (by omega) (by omega) (by omega)
          have w1 := w.1
          show 0 + 1 + ob_p h' i ≤ 0 + ob_p h i
          omega
        · have w := ob_p_grow e1 e2 k1 k2 (by omega) (by omega) (by omega)
          have w2 := w.2
          show 0 + n.toInt.toNat + ob_p h' i ≤ 0 + ob_p h i
          omega
        · obtain ⟨rfl, rfl⟩ := hfz u1 u2
          exact hF k1
  · refine k_c2 11 rfl rfl (if_neg b1) ?_
    refine k_push 12 rfl rfl ?_
    refine k_fin rfl rfl ⟨⟨⟨_, rfl, _, rfl, _, rfl, Or.inl rfl⟩, ob_I.start hT⟩, fun z9 mo9 u1 u2 u3 => ?_⟩
    obtain ⟨rfl, rfl⟩ := hfz u1 u2
    exact absurd u3 b1
theorem rw_ins61 {D : Nat} {lv : am_l} {Q : am_r → Prop} {x y : Int32} (g0 : am_get lv 0 = some (.inr (.inr (some i)))) (g1 : am_get lv 1 = some (.inl x)) (g2 : am_get lv 2 = some (.inl y)) (hok : am_okH h.length h = true) (e1 : h[i]? = some (.inr (3, [.inl mo, .inr (.inr (some a)), .inl z]))) (e2 : h[a]? = some (.inl (.inl xs))) (e3 : ob_ar a) (e4 : 0 ≤ z.toInt ∧ z.toInt ≤ (xs.1 : Int)) (e5 : 1 ≤ xs.1 ∧ xs.1 ≤ 100000) (e6 : 1 ≤ mo.toInt ∧ mo.toInt ≤ 100000) (e7 : ob_c i mo xs.1) (hz : z.toInt < (xs.1 : Int)) (hx : 0 ≤ x.toInt ∧ x.toInt ≤ z.toInt) (K : ∀ (h' : am_h) (ys : Nat × Int32 × List Int32), ob_st h h' i → h'[i]? = some (.inr (3, [.inl mo, .inr (.inr (some a)), .inl (z + 1)])) → h'[a]? = some (.inl (.inl ys)) → ys.1 = xs.1 → Q (.inl none, h', c, s)) : am_Ok am_G D 53 (61, lv, [], h, c, s) Q := by
  have q1 : (z + 1).toInt = z.toInt + 1 := by rw [iv_add (by rw [iv_1]; omega) (by rw [iv_1]; omega), iv_1]
  have q2 : (x + 1).toInt = x.toInt + 1 := by rw [iv_add (by rw [iv_1]; omega) (by rw [iv_1]; omega), iv_1]
  have q3 : (z - x).toInt = z.toInt - x.toInt := iv_sub (by omega) (by omega)
  refine k_aload 62 rfl g0 rfl ?_
  refine k_get 65 rfl e1 rfl rfl ?_
  refine k_iload 66 rfl g1 rfl ?_
  refine k_aload 67 rfl g0 rfl ?_
  refine k_get 70 rfl e1 rfl rfl ?_
  refine k_iload 71 rfl g1 rfl ?_
  refine k_push 72 rfl rfl ?_
  refine k_bin _ 73 rfl rfl rfl ?_
  refine k_aload 74 rfl g0 rfl ?_
  refine k_get 77 rfl e1 rfl rfl ?_
  refine k_iload 78 rfl g1 rfl ?_
  refine k_bin _ 79 rfl rfl rfl ?_
  refine k_copy 82 rfl e2 e2 ⟨e3.1, e3.1, by decide, iv_nn hx.1, iv_nn (by omega), iv_nn (by omega), by rw [iv_cl, iv_cl]; omega, by rw [iv_cl, iv_cl]; omega⟩ rfl ?_
  obtain ⟨p1, p2, p3⟩ := ob_st.arr (ys := am_cp xs xs x.toNatClampNeg (x + 1).toNatClampNeg (z - x).toNatClampNeg) hok e1 e2 e3 e4 e5 e6 e7 am_cp_len
  have hlen : (am_cp xs xs x.toNatClampNeg (x + 1).toNatClampNeg (z - x).toNatClampNeg).1 = xs.1 := am_cp_len
  generalize am_cp xs xs x.toNatClampNeg (x + 1).toNatClampNeg (z - x).toNatClampNeg = ws at p1 p2 p3 hlen ⊢
  refine k_aload 83 rfl g0 rfl ?_
  refine k_get 86 rfl p2 rfl rfl ?_
  refine k_iload 87 rfl g1 rfl ?_
  refine k_iload 88 rfl g2 rfl ?_
  refine k_iast 89 rfl e3.1 p3 (iv_nn hx.1) (by rw [iv_cl]; omega) rfl ?_
  obtain ⟨u1, u2, u3⟩ := ob_st.arr (ys := (ws.1, ws.2.1, am_up ws.2.1 ws.2.2 x.toNatClampNeg y)) p1.2.1 p2 p3 e3 (by rw [hlen]; exact e4) (by rw [hlen]; exact e5) e6 (by rw [hlen]; exact e7) rfl
  refine k_aload 90 rfl g0 rfl ?_
  refine k_dup 91 rfl rfl rfl ?_
  refine k_get 94 rfl u2 rfl rfl ?_
  refine k_push 95 rfl rfl ?_
  refine k_bin _ 96 rfl rfl rfl ?_
  refine k_put 99 rfl u2 rfl (Nat.le_refl 3) rfl ?_
  obtain ⟨r1, r2, r3⟩ := ob_st.siz (z' := z + 1) u1.2.1 u2 u3 e3 (by show 0 ≤ (z + 1).toInt ∧ (z + 1).toInt ≤ (ws.1 : Int); omega) (by show 1 ≤ ws.1 ∧ ws.1 ≤ 100000; omega) e6 (by show ob_c i mo ws.1; rw [hlen]; exact e7)
  exact k_fin rfl rfl (K _ _ ((p1.trans u1).trans r1) r2 r3 hlen)
theorem rw_insert {x y : Int32} (hT : ty_H h) (ho : ob 3 i) : am_Mt 2 53 [.inr (.inr (some i)), .inl x, .inl y] h (ty_Q [] 0 (ob_P h) h) := by
  obtain ⟨mo, z, a, xs, e1, e2, e3, e4, e5, e6, e7⟩ := hT.row (Or.inl ho)
  have hi81 : i < 81 := ob_lt ho
  have hno : am_Ok am_G 1 53 (23, am_args 0 [.inr (.inr (some i)), .inl x, .inl y], [], h, 0, 0) (ty_Q [] 0 (ob_P h) h) := k_fin rfl rfl ⟨⟨_, rfl, rfl⟩, ob_I.start hT⟩
  refine am_Mt.of (D := 1) ?_
  refine k_iload 1 rfl rfl rfl ?_
  by_cases b1 : x < 0
  · exact k_c1 23 rfl rfl (if_pos b1) hno
  · refine k_c1 4 rfl rfl (if_neg b1) ?_
    refine k_iload 5 rfl rfl rfl ?_
    refine k_aload 6 rfl rfl rfl ?_
    refine k_get 9 rfl e1 rfl rfl ?_
    by_cases b2 : z < x
    · exact k_c2 23 rfl rfl (if_pos b2) hno
    · refine k_c2 12 rfl rfl (if_neg b2) ?_
      refine k_aload 13 rfl rfl rfl ?_
      refine k_get 16 rfl e1 rfl rfl ?_
      refine k_aload 17 rfl rfl rfl ?_
      refine k_get 20 rfl e1 rfl rfl ?_
      by_cases b3 : z < mo
      · refine k_c2 24 rfl rfl (if_pos b3) ?_
        rw [iv_lt] at b2 b3
        have b4 := iv_nz b1
        refine k_aload 25 rfl rfl rfl ?_
        refine k_get 28 rfl e1 rfl rfl ?_
        refine k_aload 29 rfl rfl rfl ?_
        refine k_get 32 rfl e1 rfl rfl ?_
        refine k_alen 33 rfl e3.1 e2 rfl ?_
        have q0 : (Int32.ofNat xs.1).toInt = (xs.1 : Int) := iv_n xs.1 (by omega)
        by_cases b5 : z < Int32.ofNat xs.1
        · refine k_c2 61 rfl rfl (if_pos b5) ?_
          rw [iv_lt, q0] at b5
          refine rw_ins61 (x := x) (y := y) rfl rfl rfl hT.1 e1 e2 e3 e4 e5 e6 e7 b5 (by omega) (fun h' ys s1 f1 f2 f3 => ⟨⟨_, rfl, rfl⟩, s1.I (ob_I.start hT) (Or.inl ho) ?_ ?_⟩)
          · rw [ob_p_same e1 e2 f1 f2 f3]
            exact Nat.le_refl _
          · rw [ob_p_same e1 e2 f1 f2 f3]
            exact Nat.le_refl _
        · refine k_c2 36 rfl rfl (if_neg b5) ?_
          rw [iv_lt, q0] at b5
          have q2 : (2 * Int32.ofNat xs.1).toInt = 2 * (xs.1 : Int) := by rw [iv_mul (by rw [iv_2, q0]; omega) (by rw [iv_2, q0]; omega), iv_2, q0]
          refine k_aload 37 rfl rfl rfl ?_
          refine k_aload 38 rfl rfl rfl ?_
          refine k_get 41 rfl e1 rfl rfl ?_
          refine k_aload 42 rfl rfl rfl ?_
          refine k_get 45 rfl e1 rfl rfl ?_
          refine k_push 46 rfl rfl ?_
          refine k_aload 47 rfl rfl rfl ?_
          refine k_get 50 rfl e1 rfl rfl ?_
          refine k_alen 51 rfl e3.1 e2 rfl ?_
          refine k_bin _ 52 rfl rfl rfl ?_
          refine k_math 55 rfl rfl rfl ?_
          have q3 : ∃ n : Int32, (if 2 * Int32.ofNat xs.1 < mo then 2 * Int32.ofNat xs.1 else mo) = n ∧ (n.toInt = mo.toInt ∨ n.toInt = 2 * (xs.1 : Int)) ∧ n.toInt ≤ mo.toInt := by
            refine ⟨_, rfl, ?_⟩
            by_cases b3 : 2 * Int32.ofNat xs.1 < mo
            · rw [if_pos b3]
              rw [iv_lt] at b3
              exact ⟨Or.inr q2, by omega⟩
            · rw [if_neg b3]
              exact ⟨Or.inl rfl, Int.le_refl _⟩
          obtain ⟨n, hn, hn1, hn2⟩ := q3
          simp only [hn]
          refine k_call0 rfl (rw_copyOf hT.1 e2 e3.1 (by omega) (by omega)) rfl rfl rfl rfl ?_
          rintro r ⟨ys, hy, rfl⟩
          have hil : i < h.length := (List.getElem?_eq_some_iff.mp e1).1
          have okI : am_okV h.length (.inr (.inr (some i))) = true := Nat.ble_eq_true_of_le hil
          refine ⟨Or.inr ⟨?_, ?_⟩, Or.inl ⟨_, rfl, ?_⟩⟩
          · show ([(0, .inr (.inr (some i))), (1, .inl x), (2, .inl y)] : am_l).all (fun q => am_okV h.length q.2) = true
            simp only [List.all_cons, okI, List.all_nil, Bool.and_self, Bool.true_and]
            rfl
          · show ([.inr (.inr (some i))] : List am_v).all (am_okV h.length) = true
            simp only [List.all_cons, okI, List.all_nil, Bool.and_self]
          · show am_Ok am_G 1 53 (58, [(0, .inr (.inr (some i))), (1, .inl x), (2, .inl y)], [.inr (.inr (some h.length)), .inr (.inr (some i))], h ++ [.inl (.inl ys)], 0 + 1, 0 + n.toInt.toNat) _
            refine k_put 61 rfl (by rw [List.getElem?_append_left hil]; exact e1) rfl (Nat.le_of_ble_eq_true rfl) rfl ?_
            have hz9 : 0 ≤ z.toInt ∧ z.toInt ≤ (ys.1 : Int) := by omega
            have e8 : ob_c i mo ys.1 := ⟨e7.1, by have := e7.2.1; omega, by omega⟩
            obtain ⟨s1, f1, f2⟩ := ob_st.grow (ys := ys) hT.1 hT.2.1 hi81 e1 hz9 (by omega) e6 e8
            refine rw_ins61 (x := x) (y := y) rfl rfl rfl s1.2.1 f1 f2 ⟨by omega, by have := hT.2.1; omega⟩ hz9 (by omega) e6 e8 (by omega) (by omega) (fun h' ys2 s2 k1 k2 k3 => ⟨⟨_, rfl, rfl⟩, (s1.trans s2).I (ob_I.start hT) (Or.inl ho) ?_ ?_⟩)
            · have w := (ob_p_grow e1 e2 k1 k2 (by omega) (by omega) (by omega)).1
              show 0 + 1 + ob_p h' i ≤ 0 + ob_p h i
              omega
            · have w := (ob_p_grow e1 e2 k1 k2 (by omega) (by omega) (by omega)).2
              show 0 + n.toInt.toNat + ob_p h' i ≤ 0 + ob_p h i
              omega
      · exact k_c2 23 rfl rfl (if_neg b3) hno
theorem rw_fill7 {D : Nat} {x y : Int32} {Q : am_r → Prop} : ∀ (n : Nat) {lv : am_l} {h : am_h} {z w : Int32} {xs : Nat × Int32 × List Int32}, up_m w ≤ n → am_get lv 0 = some (.inr (.inr (some i))) → am_get lv 1 = some (.inl x) → am_get lv 2 = some (.inl y) → am_get lv 3 = some (.inl w) → 0 ≤ w.toInt → am_okH h.length h = true → h[i]? = some (.inr (3, [.inl mo, .inr (.inr (some a)), .inl z])) → h[a]? = some (.inl (.inl xs)) → ob_ar a → (0 ≤ z.toInt ∧ z.toInt ≤ (xs.1 : Int)) → (1 ≤ xs.1 ∧ xs.1 ≤ 100000) → (1 ≤ mo.toInt ∧ mo.toInt ≤ 100000) → ob_c i mo xs.1 → ob 3 i → (∀ (h' : am_h) (z' : Int32) (ys : Nat × Int32 × List Int32), ob_st h h' i → h'[i]? = some (.inr (3, [.inl mo, .inr (.inr (some a)), .inl z'])) → h'[a]? = some (.inl (.inl ys)) → ys.1 = xs.1 → Q (.inl none, h', c, s)) → am_Ok am_G D 57 (7, lv, [], h, c, s) Q := by
  intro n
  induction n with
  | zero =>
    intro lv h z w xs hn g0 g1 g2 g3 hw hok e1 e2 e3 e4 e5 e6 e7 ho K
    have q0 : (Int32.ofNat xs.1).toInt = (xs.1 : Int) := iv_n xs.1 (by omega)
    refine k_iload 8 rfl g3 rfl ?_
    refine k_iload 9 rfl g1 rfl ?_
    have hst : ob_st h h i := ⟨Nat.le_refl _, hok, fun q _ _ _ => rfl, ⟨mo, z, a, xs, e1, e2, e3, e4, e5, e6, e7⟩, Or.inl rfl⟩
    by_cases b1 : x ≤ w
    · exact k_c2 41 rfl rfl (if_pos b1) (k_fin rfl rfl (K _ _ _ hst e1 e2 rfl))
    · exfalso
      have := up_lt b1
      omega
  | succ n ih =>
    intro lv h z w xs hn g0 g1 g2 g3 hw hok e1 e2 e3 e4 e5 e6 e7 ho K
    have q0 : (Int32.ofNat xs.1).toInt = (xs.1 : Int) := iv_n xs.1 (by omega)
    have hst : ob_st h h i := ⟨Nat.le_refl _, hok, fun q _ _ _ => rfl, ⟨mo, z, a, xs, e1, e2, e3, e4, e5, e6, e7⟩, Or.inl rfl⟩
    refine k_iload 8 rfl g3 rfl ?_
    refine k_iload 9 rfl g1 rfl ?_
    by_cases b1 : x ≤ w
    · exact k_c2 41 rfl rfl (if_pos b1) (k_fin rfl rfl (K _ _ _ hst e1 e2 rfl))
    · refine k_c2 12 rfl rfl (if_neg b1) ?_
      have hup := up_lt b1
      refine k_iload 13 rfl g3 rfl ?_
      refine k_aload 14 rfl g0 rfl ?_
      refine k_get 17 rfl e1 rfl rfl ?_
      refine k_alen 18 rfl e3.1 e2 rfl ?_
      by_cases b2 : Int32.ofNat xs.1 ≤ w
      · exact k_c2 41 rfl rfl (if_pos b2) (k_fin rfl rfl (K _ _ _ hst e1 e2 rfl))
      · refine k_c2 21 rfl rfl (if_neg b2) ?_
        rw [iv_le, q0] at b2
        have q1 : (w + 1).toInt = w.toInt + 1 := by rw [iv_add (by rw [iv_1]; omega) (by rw [iv_1]; omega), iv_1]
        refine k_aload 22 rfl g0 rfl ?_
        refine k_get 25 rfl e1 rfl rfl ?_
        refine k_iload 26 rfl g3 rfl ?_
        refine k_iload 27 rfl g2 rfl ?_
        refine k_iast 28 rfl e3.1 e2 (iv_nn hw) (by rw [iv_cl]; omega) rfl ?_
        obtain ⟨p1, p2, p3⟩ := ob_st.arr (ys := (xs.1, xs.2.1, am_up xs.2.1 xs.2.2 w.toNatClampNeg y)) hok e1 e2 e3 e4 e5 e6 e7 rfl
        refine k_aload 29 rfl g0 rfl ?_
        refine k_iload 30 rfl g3 rfl ?_
        refine k_push 31 rfl rfl ?_
        refine k_bin _ 32 rfl rfl rfl ?_
        refine k_put 35 rfl p2 rfl (Nat.le_refl 3) rfl ?_
        obtain ⟨r1, r2, r3⟩ := ob_st.siz (z' := w + 1) p1.2.1 p2 p3 e3 (by show 0 ≤ (w + 1).toInt ∧ (w + 1).toInt ≤ (xs.1 : Int); omega) e5 e6 e7
        refine k_iinc (w + 1) 38 rfl g3 rfl rfl ?_
        refine k_goto 7 rfl rfl ?_
        exact ih (by omega) (gs_ne rfl rfl g0) (gs_ne rfl rfl g1) (gs_ne rfl rfl g2) gs_eq (by omega) r1.2.1 r2 r3 e3 (by show 0 ≤ (w + 1).toInt ∧ (w + 1).toInt ≤ (xs.1 : Int); omega) e5 e6 e7 ho (fun h' z' ys s1 f1 f2 f3 => K h' z' ys ((p1.trans r1).trans s1) f1 f2 f3)
theorem rw_fill {x y : Int32} (hT : ty_H h) (ho : ob 3 i) : am_Mt 1 57 [.inr (.inr (some i)), .inl x, .inl y] h (ty_Q [] 0 (ob_P h) h) := by
  obtain ⟨mo, z, a, xs, e1, e2, e3, e4, e5, e6, e7⟩ := hT.row (Or.inl ho)
  refine am_Mt.of (D := 0) ?_
  refine k_aload 1 rfl rfl rfl ?_
  refine k_push 2 rfl rfl ?_
  refine k_put 5 rfl e1 rfl (Nat.le_refl 3) rfl ?_
  obtain ⟨r1, r2, r3⟩ := ob_st.siz (z' := 0) hT.1 e1 e2 e3 (by rw [iv_0]; omega) e5 e6 e7
  refine k_push 6 rfl rfl ?_
  refine k_istore 7 rfl rfl ?_
  refine rw_fill7 (x := x) (y := y) (w := 0) _ (Nat.le_refl _) rfl rfl rfl rfl (by rw [iv_0]; omega) r1.2.1 r2 r3 e3 (by rw [iv_0]; omega) e5 e6 e7 ho (fun h' z' ys s1 f1 f2 f3 => ⟨⟨_, rfl, rfl⟩, (r1.trans s1).I (ob_I.start hT) (Or.inl ho) ?_ ?_⟩)
  · rw [ob_p_same e1 e2 f1 f2 f3]
    exact Nat.le_refl _
  · rw [ob_p_same e1 e2 f1 f2 f3]
    exact Nat.le_refl _
end ROW
