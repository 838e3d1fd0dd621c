/-! what the walk through the class's code stands on -/
/-- an answer, or something thrown of E -/
def ty_QX (W : List (Nat × Nat)) (τ : Nat) (E : List Nat) (B : Nat) (h0 : am_h) : am_r → Prop := fun r => (∃ v, r.1 = .inl v ∧ ty_A τ v ∧ ob_I W B h0 r.2.1 r.2.2.1 r.2.2.2) ∨ ∃ e, r.1 = .inr e ∧ e ∈ E ∧ ob_I W (B + 6) h0 r.2.1 r.2.2.1 r.2.2.2
section CLS
variable {G : Nat → Nat → Option am_n} {D d j pc c s B i k l τ : Nat} {lv : am_l} {st : List am_v} {h h' h0 : am_h} {Q : am_r → Prop} {W W' : List (Nat × Nat)} {x y z : Int32}
theorem k_cl {k na kd : Nat} {as : List am_v} (hg : G j pc = some (.inr (.inl (k, na, kd)))) (hM : am_Mt d k as h (ty_Q W' τ (ob_P h) h)) (hd : Nat.ble d D = true) (ha : (st.take na).reverse = as) (hb : (Nat.ble na st.length && (Nat.ble (am_words (st.drop na)) 8 && Nat.ble (am_words as) (am_J k).2.2.1)) = true) (hr : am_rc kd h as = true) (hI : ob_I W B h0 h c s) (hW : ∀ x ∈ W', x ∈ W) (hL : am_okL h.length lv = true) (hS : (st.drop na).all (am_okV h.length) = true)
    (K : ∀ (v : Option am_v) (h' : am_h) (c' s' : Nat), ty_A τ v → ob_I W B h0 h' c' s' → am_okL h'.length lv = true → ob_Fr W' h h' → am_Ok G D j (pc + 3, lv, v.toList ++ st.drop na, h', c', s') Q) : am_Ok G D j (pc, lv, st, h, c, s) Q := by
  refine k_call0 hg hM hd ha hb hr (fun r hr9 => ?_)
  obtain ⟨⟨v, e1, e2⟩, e3⟩ := hr9
  exact ⟨Or.inr ⟨hL, hS⟩, Or.inl ⟨v, e1, K v _ _ _ e2 (hI.call hW e3) (okL_le e3.2.1.1 hL) e3.2.1⟩⟩
theorem ob_I.callX {c' s' : Nat} (hI : ob_I W B h0 h c s) (hW : ∀ x ∈ W', x ∈ W) (h2 : ob_I W' (ob_P h + 6) h h' c' s') : ob_I W (B + 6) h0 h' (c + c') (s + s') := ⟨h2.1, hI.2.1.trans (h2.2.1.mono hW), by have a := hI.2.2.1; have b := h2.2.2.1; omega, by have a := hI.2.2.2; have b := h2.2.2.2; omega⟩
theorem k_clX {k na kd : Nat} {as : List am_v} {E : List Nat} (hg : G j pc = some (.inr (.inl (k, na, kd)))) (hM : am_Mt d k as h (ty_QX W' τ E (ob_P h) h)) (hd : Nat.ble d D = true) (ha : (st.take na).reverse = as) (hb : (Nat.ble na st.length && (Nat.ble (am_words (st.drop na)) 8 && Nat.ble (am_words as) (am_J k).2.2.1)) = true) (hr : am_rc kd h as = true) (hI : ob_I W B h0 h c s) (hW : ∀ x ∈ W', x ∈ W) (hL : am_okL h.length lv = true) (hS : (st.drop na).all (am_okV h.length) = true) (hkd : (Nat.beq kd 1 || Nat.beq kd 2) = false)
    (KX : ∀ (e : Nat) (h' : am_h) (c' s' : Nat), e ∈ E → ob_I W (B + 6) h0 h' c' s' → am_X j pc e = none ∧ (am_J j).2.2.2.2.2.2 = [] ∧ Q (.inr e, h', c', s'))
    (K : ∀ (v : Option am_v) (h' : am_h) (c' s' : Nat), ty_A τ v → ob_I W B h0 h' c' s' → am_okL h'.length lv = true → ob_Fr W' h h' → am_Ok G D j (pc + 3, lv, v.toList ++ st.drop na, h', c', s') Q) : am_Ok G D j (pc, lv, st, h, c, s) Q := by
  refine k_call0 hg hM hd ha hb hr (fun r hr9 => ?_)
  rcases hr9 with ⟨v, e1, e2, e3⟩ | ⟨e, e1, e2, e3⟩
  · exact ⟨Or.inr ⟨hL, hS⟩, Or.inl ⟨v, e1, K v _ _ _ e2 (hI.call hW e3) (okL_le e3.2.1.1 hL) e3.2.1⟩⟩
  · have hk := Bool.or_eq_false_iff.mp hkd
    refine ⟨Or.inr ⟨hL, hS⟩, Or.inr ⟨e, e1, fun z => ?_, Or.inr (KX e _ _ _ e2 (hI.callX hW e3))⟩⟩
    rcases z with rfl | rfl
    · cases hk.1
    · cases hk.2
theorem k_mathZ {g : Int32 → Int32 → Int32} {x y : Int32} (z : Int32) (q : Nat) (hg : G j pc = some (.inl (ai_math g))) (hb : Nat.ble (am_words st) 40 = true) (hz : g x y = z) (hp : pc + 3 = q) (H : am_Ok G D j (q, lv, .inl z :: st, h, c, s) Q) : am_Ok G D j (pc, lv, .inl y :: .inl x :: st, h, c, s) Q := by
  subst hz
  exact k_math q hg hb hp H
theorem k_divZ {g : Int32 → Int32 → Int32} {x y : Int32} (z : Int32) (q : Nat) (hg : G j pc = some (.inl (ai_div g))) (hy : ¬ y = 0) (hz : g x y = z) (hp : pc + 1 = q) (H : am_Ok G D j (q, lv, .inl z :: st, h, c, s) Q) : am_Ok G D j (pc, lv, .inl y :: .inl x :: st, h, c, s) Q := by
  subst hz
  exact k_div q hg hy hp H
theorem fin_Z (hb : x = 0 ∨ x = 1) : am_fin 2 (pc, lv, [.inl x], h, c, s) = some (.inl (some (.inl x)), h, c, s) := by
  show (match (if x = 0 ∨ x = 1 then some (some (.inl x)) else none : Option (Option am_v)) with
    | none => (none : Option am_r)
    | some r => some (.inl r, h, c, s)) = _
  rw [if_pos hb]
theorem okZ_of (hb : x = 0 ∨ x = 1) : am_okZ (.inl x) = true := by
  rcases hb with rfl | rfl
  · decide
  · decide
theorem okL_eq (e : h'.length = h.length) (hl : am_okL h.length lv = true) : am_okL h'.length lv = true := by
  rw [e]
  exact hl
theorem okA_n {n p : Nat} : am_okL n (am_args p []) = true := rfl
theorem okA_i {n p : Nat} {as : List am_v} (e : am_okL n (am_args (p + 1) as) = true) : am_okL n (am_args p (.inl x :: as)) = true := e
theorem okA_0 {n p : Nat} {as : List am_v} (e : am_okL n (am_args (p + 1) as) = true) : am_okL n (am_args p (.inr (.inr none) :: as)) = true := e
theorem okA_r {p : Nat} {as : List am_v} (hT : ty_H h) (ho : ob l i) (e : am_okL h.length (am_args (p + 1) as) = true) : am_okL h.length (am_args p (.inr (.inr (some i)) :: as)) = true := by
  show (am_okV h.length (.inr (.inr (some i))) && am_okL h.length (am_args (p + 1) as)) = true
  rw [e]
  have e9 : am_okV h.length (.inr (.inr (some i))) = true := Nat.ble_eq_true_of_le (Nat.le_trans (ob_lt ho) (Nat.le_trans (by decide) hT.2.1))
  rw [e9]
  rfl
theorem okA_r2 {p : Nat} {as : List am_v} (hT : ty_H h) (ho : ob 3 i ∨ ob 11 i) (e : am_okL h.length (am_args (p + 1) as) = true) : am_okL h.length (am_args p (.inr (.inr (some i)) :: as)) = true := ho.elim (fun z => okA_r hT z e) (fun z => okA_r hT z e)
theorem so_0 {n : Nat} {st : List am_v} (e : st.all (am_okV n) = true) : (.inr (.inr none) :: st : List am_v).all (am_okV n) = true := e
theorem ob_il (hI : ob_I W B h0 h c s) (ho : ob l i) : i < h.length := Nat.lt_of_lt_of_le (ob_lt ho) (Nat.le_trans (by decide) hI.len)
theorem ty_H.fld (hT : ty_H h) (ho : ob l i) (h3 : (Nat.beq l 3 || Nat.beq l 11) = false) (hk : (ty_F l)[k]? = some 0) : ∃ x : Int32, ob_f h i k = some (.inl x) := by
  obtain ⟨fs, v, e1, e2, y, rfl⟩ := hT.get ho h3 hk
  refine ⟨y, ?_⟩
  unfold ob_f
  rw [e1]
  exact e2
theorem ob_f.get {fs : List am_v} {v w : am_v} (t : ob_f h i k = some w) (e1 : h[i]? = some (.inr (l, fs))) (e2 : fs[k]? = some v) : v = w := by
  unfold ob_f at t
  rw [e1] at t
  exact Option.some.inj (e2.symm.trans t)
theorem ob_f.put {fs : List am_v} {v w : am_v} (e1 : h[i]? = some (.inr (l, fs))) (e2 : fs[k]? = some v) (e : h.set i (.inr (l, fs.set k w)) = h') : ob_f h' i k = some w := by
  subst e
  unfold ob_f
  rw [List.getElem?_set_self (List.getElem?_eq_some_iff.mp e1).1]
  exact List.getElem?_set_self (List.getElem?_eq_some_iff.mp e2).1
theorem ob_f.ne {fs : List am_v} {v w : am_v} {k2 i2 : Nat} (t : ob_f h i k = some w) (e1 : h[i2]? = some (.inr (l, fs))) (e : h.set i2 (.inr (l, fs.set k2 v)) = h') (hk : k2 ≠ k) : ob_f h' i k = some w := by
  subst e
  unfold ob_f at *
  by_cases hi : i2 = i
  · subst hi
    rw [e1] at t
    rw [List.getElem?_set_self (List.getElem?_eq_some_iff.mp e1).1]
    show (fs.set k2 v)[k]? = some w
    rw [List.getElem?_set_ne hk]
    exact t
  · rw [List.getElem?_set_ne hi]
    exact t
theorem ob_Fr.f {w : am_v} (hF : ob_Fr W' h h') (ho : ob l i) (h3 : l ≠ 3) (hn : (l, k) ∉ W') (t : ob_f h i k = some w) : ob_f h' i k = some w := (hF.2.2.1 l i k ho h3 hn).trans t
theorem pat_7 (b1 : ¬ x < 0) (b2 : ¬ (7 : Int32) ≤ x) : x.toNatClampNeg < 7 := by
  have h1 := iv_nz b1
  rw [iv_le] at b2
  have h2 : (7 : Int32).toInt = 7 := by decide
  rw [iv_cl]
  omega
theorem pre_200 (b : ¬ (200 : Int32) < x) : x.toInt < 2147483647 := by
  rw [iv_lt] at b
  have h2 : (200 : Int32).toInt = 200 := by decide
  omega
theorem pre_le (b : x ≤ (200 : Int32)) : x.toInt < 2147483647 := by
  rw [iv_le] at b
  have h2 : (200 : Int32).toInt = 200 := by decide
  omega
theorem tr_1 {e : Int32} (he : ¬ e ≤ 0) (hx : ¬ y ≤ x) : (if 0 < e then up_m (x + 1) + 1 else 0) < (if 0 < e then up_m x + 1 else 0) := by
  have h1 : 0 < e := by
    rw [iv_le] at he
    rw [iv_lt]
    omega
  rw [if_pos h1, if_pos h1]
  have := up_lt hx
  omega
theorem tr_2 {e e' : Int32} (he : ¬ e ≤ 0) (he' : e' ≤ 0) : (if 0 < e' then up_m x + 1 else 0) < (if 0 < e then up_m y + 1 else 0) := by
  have h1 : 0 < e := by
    rw [iv_le] at he
    rw [iv_lt]
    omega
  have h2 : ¬ 0 < e' := by
    rw [iv_le] at he'
    rw [iv_lt]
    omega
  rw [if_pos h1, if_neg h2]
  omega
theorem ob_I.thr (hI : ob_I W B h0 h c s) : ob_I W (B + 6) h0 h (c + 1) (s + 6) := ⟨hI.1, hI.2.1, by have := hI.2.2.1; omega, by have := hI.2.2.2; omega⟩
theorem thr_sub {E E' : List Nat} {e : Nat} (hE : ∀ x ∈ E', x ∈ E) (he : e ∈ E') : e ∈ E := hE e he
theorem rw_floorMod (hT : ty_H h) (hy : ¬ y = 0) : am_Mt 1 280 [.inl x, .inl y] h (ty_Q [] 2 (ob_P h) h) := by
  refine am_Mt.of (D := 0) ?_
  refine k_iload 1 rfl rfl rfl ?_
  refine k_iload 2 rfl rfl rfl ?_
  refine k_div 3 rfl hy rfl ?_
  refine k_istore 4 rfl rfl ?_
  refine k_iload 5 rfl rfl rfl ?_
  refine k_iload 6 rfl rfl rfl ?_
  refine k_bin _ 7 rfl rfl rfl ?_
  by_cases b : 0 ≤ x ^^^ y
  · refine k_c1 18 rfl rfl (if_pos b) ?_
    refine k_iload 19 rfl rfl rfl ?_
    exact k_fin rfl rfl ⟨⟨_, rfl, _, rfl, _, rfl⟩, ob_I.start hT⟩
  · refine k_c1 10 rfl rfl (if_neg b) ?_
    refine k_iload 11 rfl rfl rfl ?_
    by_cases b2 : x - x / y * y = 0
    · refine k_c1 18 rfl rfl (if_pos b2) ?_
      refine k_iload 19 rfl rfl rfl ?_
      exact k_fin rfl rfl ⟨⟨_, rfl, _, rfl, _, rfl⟩, ob_I.start hT⟩
    · refine k_c1 14 rfl rfl (if_neg b2) ?_
      refine k_iload 15 rfl rfl rfl ?_
      refine k_iload 16 rfl rfl rfl ?_
      refine k_bin _ 17 rfl rfl rfl ?_
      exact k_fin rfl rfl ⟨⟨_, rfl, _, rfl, _, rfl⟩, ob_I.start hT⟩
end CLS
