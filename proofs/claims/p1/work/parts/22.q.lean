/-! one instruction at a time, values unknown -/
section AMQ
variable {J : Nat → am_i} {X : am_t} {G : Nat → Nat → Option am_n} {run : Nat → List am_v → am_h → Option am_r} {j : Nat} {n pc c s : Nat} {lv : am_l} {st : List am_v} {h : am_h} {R : Option (am_r ⊕ am_s)}
theorem q_any {f : am_s → Option am_s} {S : am_s} {p : Nat} {S' : am_l × List am_v × am_h × Nat × Nat} (q : Nat) (hg : G j S.1 = some (.inl f)) (hf : f S = some (p, S')) (hp : p = q) (H : am_it J X G run j none n (q, S') = R) : am_it J X G run j none (n + 1) S = R := by
  subst hp
  rw [am_step rfl hg hf]
  exact H
theorem q_iload {w i : Nat} {v : Int32} (q : Nat) (hg : G j pc = some (.inl (ai_iload w i))) (hv : am_get lv i = some (.inl v)) (hp : pc + w = q) (H : am_it J X G run j none n (q, lv, .inl v :: st, h, c, s) = R) : am_it J X G run j none (n + 1) (pc, lv, st, h, c, s) = R :=
  q_any q hg (show ai_iload w i (pc, lv, st, h, c, s) = some (pc + w, lv, .inl v :: st, h, c, s) from by simp only [ai_iload, hv]) hp H
theorem q_aload {w i : Nat} {v : Option Nat} (q : Nat) (hg : G j pc = some (.inl (ai_aload w i))) (hv : am_get lv i = some (.inr (.inr v))) (hp : pc + w = q) (H : am_it J X G run j none n (q, lv, .inr (.inr v) :: st, h, c, s) = R) : am_it J X G run j none (n + 1) (pc, lv, st, h, c, s) = R :=
  q_any q hg (show ai_aload w i (pc, lv, st, h, c, s) = some (pc + w, lv, .inr (.inr v) :: st, h, c, s) from by simp only [ai_aload, hv]) hp H
theorem q_push {w : Nat} {v : am_v} (q : Nat) (hg : G j pc = some (.inl (ai_push w v))) (hp : pc + w = q) (H : am_it J X G run j none n (q, lv, v :: st, h, c, s) = R) : am_it J X G run j none (n + 1) (pc, lv, st, h, c, s) = R :=
  q_any q hg rfl hp H
theorem q_istore {w i : Nat} {v : Int32} (q : Nat) (hg : G j pc = some (.inl (ai_istore w i))) (hp : pc + w = q) (H : am_it J X G run j none n (q, am_set lv i (.inl v), st, h, c, s) = R) : am_it J X G run j none (n + 1) (pc, lv, .inl v :: st, h, c, s) = R :=
  q_any q hg rfl hp H
theorem q_astore {w i : Nat} {v : Option Nat} (q : Nat) (hg : G j pc = some (.inl (ai_astore w i))) (hp : pc + w = q) (H : am_it J X G run j none n (q, am_set lv i (.inr (.inr v)), st, h, c, s) = R) : am_it J X G run j none (n + 1) (pc, lv, .inr (.inr v) :: st, h, c, s) = R :=
  q_any q hg rfl hp H
theorem q_goto {t : Nat} (q : Nat) (hg : G j pc = some (.inl (ai_goto t))) (hp : t = q) (H : am_it J X G run j none n (q, lv, st, h, c, s) = R) : am_it J X G run j none (n + 1) (pc, lv, st, h, c, s) = R :=
  q_any q hg rfl hp H
theorem q_pop {v : am_v} (q : Nat) (hg : G j pc = some (.inl ai_pop)) (hv : am_isL v = false) (hp : pc + 1 = q) (H : am_it J X G run j none n (q, lv, st, h, c, s) = R) : am_it J X G run j none (n + 1) (pc, lv, v :: st, h, c, s) = R :=
  q_any q hg (show ai_pop (pc, lv, v :: st, h, c, s) = some (pc + 1, lv, st, h, c, s) from by simp only [ai_pop, hv, cond_false]) hp H
theorem q_dup {v : am_v} (q : Nat) (hg : G j pc = some (.inl ai_dup)) (hv : am_isL v = false) (hp : pc + 1 = q) (H : am_it J X G run j none n (q, lv, v :: v :: st, h, c, s) = R) : am_it J X G run j none (n + 1) (pc, lv, v :: st, h, c, s) = R :=
  q_any q hg (show ai_dup (pc, lv, v :: st, h, c, s) = some (pc + 1, lv, v :: v :: st, h, c, s) from by simp only [ai_dup, hv, cond_false]) hp H
theorem q_iinc {i : Nat} {v w : Int32} (z : Int32) (q : Nat) (hg : G j pc = some (.inl (ai_iinc i w))) (hv : am_get lv i = some (.inl v)) (hz : v + w = z) (hp : pc + 3 = q) (H : am_it J X G run j none n (q, am_set lv i (.inl z), st, h, c, s) = R) : am_it J X G run j none (n + 1) (pc, lv, st, h, c, s) = R := by
  subst hz
  exact q_any q hg (show ai_iinc i w (pc, lv, st, h, c, s) = some (pc + 3, am_set lv i (.inl (v + w)), st, h, c, s) from by simp only [ai_iinc, hv]) hp H
theorem q_bin {w : Nat} {g : Int32 → Int32 → Int32} {x y : Int32} (z : Int32) (q : Nat) (hg : G j pc = some (.inl (ai_bin w g))) (hz : g x y = z) (hp : pc + w = q) (H : am_it J X G run j none n (q, lv, .inl z :: st, h, c, s) = R) : am_it J X G run j none (n + 1) (pc, lv, .inl y :: .inl x :: st, h, c, s) = R := by
  subst hz
  exact q_any q hg rfl hp H
theorem q_un {g : Int32 → am_v} {x : Int32} (z : am_v) (q : Nat) (hg : G j pc = some (.inl (ai_un g))) (hz : g x = z) (hp : pc + 1 = q) (H : am_it J X G run j none n (q, lv, z :: st, h, c, s) = R) : am_it J X G run j none (n + 1) (pc, lv, .inl x :: st, h, c, s) = R := by
  subst hz
  exact q_any q hg rfl hp H
theorem q_c1 {f : am_s → Option am_s} {x : Int32} {p : Nat} (q : Nat) (hg : G j pc = some (.inl f)) (hf : f (pc, lv, .inl x :: st, h, c, s) = some (p, lv, st, h, c, s)) (hp : p = q) (H : am_it J X G run j none n (q, lv, st, h, c, s) = R) : am_it J X G run j none (n + 1) (pc, lv, .inl x :: st, h, c, s) = R :=
  q_any q hg hf hp H
theorem q_c2 {f : am_s → Option am_s} {x y : Int32} {p : Nat} (q : Nat) (hg : G j pc = some (.inl f)) (hf : f (pc, lv, .inl y :: .inl x :: st, h, c, s) = some (p, lv, st, h, c, s)) (hp : p = q) (H : am_it J X G run j none n (q, lv, st, h, c, s) = R) : am_it J X G run j none (n + 1) (pc, lv, .inl y :: .inl x :: st, h, c, s) = R :=
  q_any q hg hf hp H
theorem q_null {v : Option Nat} {f : am_s → Option am_s} {p : Nat} (q : Nat) (hg : G j pc = some (.inl f)) (hf : f (pc, lv, .inr (.inr v) :: st, h, c, s) = some (p, lv, st, h, c, s)) (hp : p = q) (H : am_it J X G run j none n (q, lv, st, h, c, s) = R) : am_it J X G run j none (n + 1) (pc, lv, .inr (.inr v) :: st, h, c, s) = R :=
  q_any q hg hf hp H
theorem q_get {ci k i : Nat} {fs : List am_v} {v : am_v} (q : Nat) (hg : G j pc = some (.inl (ai_get ci k))) (h1 : h[i]? = some (.inr (ci, fs))) (h2 : fs[k]? = some v) (hp : pc + 3 = q) (H : am_it J X G run j none n (q, lv, v :: st, h, c, s) = R) : am_it J X G run j none (n + 1) (pc, lv, .inr (.inr (some i)) :: st, h, c, s) = R :=
  q_any q hg (am_get_eq h1 h2) hp H
theorem q_put {ci k i : Nat} {ok : am_v → Bool} {fs : List am_v} {v : am_v} (q : Nat) (hg : G j pc = some (.inl (ai_put ci k ok))) (h1 : h[i]? = some (.inr (ci, fs))) (h2 : ok v = true) (h3 : k < fs.length) (hp : pc + 3 = q) (H : am_it J X G run j none n (q, lv, st, h.set i (.inr (ci, fs.set k v)), c, s) = R) : am_it J X G run j none (n + 1) (pc, lv, v :: .inr (.inr (some i)) :: st, h, c, s) = R :=
  q_any q hg (am_put_eq h1 h2 h3) hp H
theorem am_put_id {τ : Type} {l : List τ} {k : Nat} {v : τ} (h : l[k]? = some v) : l.set k v = l := am_set_self h
/-- a field is set to what it is -/
theorem q_put0 {ci k i : Nat} {ok : am_v → Bool} {fs : List am_v} {v : am_v} (q : Nat) (hg : G j pc = some (.inl (ai_put ci k ok))) (h1 : h[i]? = some (.inr (ci, fs))) (h2 : ok v = true) (h3 : fs[k]? = some v) (hp : pc + 3 = q) (H : am_it J X G run j none n (q, lv, st, h, c, s) = R) : am_it J X G run j none (n + 1) (pc, lv, v :: .inr (.inr (some i)) :: st, h, c, s) = R := by
  refine q_put q hg h1 h2 ((List.getElem?_eq_some_iff.mp h3).1) hp ?_
  rw [am_put_id h3, am_put_id h1]
  exact H
theorem q_iald {i : Int32} {a : Nat} {x : Int32} {xs : Nat × Int32 × List Int32} (q : Nat) (hg : G j pc = some (.inl ai_iald)) (h0 : a ≠ 0) (h1 : h[a]? = some (.inl (.inl xs))) (h2 : ¬ i < 0) (h3 : i.toNatClampNeg < xs.1) (h4 : xs.2.2.getD i.toNatClampNeg xs.2.1 = x) (hp : pc + 1 = q) (H : am_it J X G run j none n (q, lv, .inl x :: st, h, c, s) = R) : am_it J X G run j none (n + 1) (pc, lv, .inl i :: .inr (.inr (some a)) :: st, h, c, s) = R := by
  subst h4
  exact q_any q hg (show ai_iald (pc, lv, .inl i :: .inr (.inr (some a)) :: st, h, c, s) = some (pc + 1, lv, _, h, c, s) from by simp only [ai_iald, h1]; rw [if_pos ⟨h0, h2, h3⟩]) hp H
theorem q_iast {i : Int32} {a : Nat} {x : Int32} {xs : Nat × Int32 × List Int32} (q : Nat) (hg : G j pc = some (.inl ai_iast)) (h0 : a ≠ 0) (h1 : h[a]? = some (.inl (.inl xs))) (h2 : ¬ i < 0) (h3 : i.toNatClampNeg < xs.1) (hp : pc + 1 = q) (H : am_it J X G run j none n (q, lv, st, h.set a (.inl (.inl (xs.1, xs.2.1, am_up xs.2.1 xs.2.2 i.toNatClampNeg x))), c, s) = R) : am_it J X G run j none (n + 1) (pc, lv, .inl x :: .inl i :: .inr (.inr (some a)) :: st, h, c, s) = R :=
  q_any q hg (am_iast_eq h0 h1 h2 h3) hp H
theorem q_alen {a : Nat} {xs : Nat × Int32 × List Int32} (q : Nat) (hg : G j pc = some (.inl ai_alen)) (h0 : a ≠ 0) (h1 : h[a]? = some (.inl (.inl xs))) (hp : pc + 1 = q) (H : am_it J X G run j none n (q, lv, .inl (Int32.ofNat xs.1) :: st, h, c, s) = R) : am_it J X G run j none (n + 1) (pc, lv, .inr (.inr (some a)) :: st, h, c, s) = R :=
  q_any q hg (am_alen_eq h0 h1) hp H
theorem q_slen {xs : List Int32} (q : Nat) (hg : G j pc = some (.inl (ai_slen xs))) (hp : pc + 1 = q) (H : am_it J X G run j none n (q, lv, .inl (Int32.ofNat xs.length) :: st, h, c, s) = R) : am_it J X G run j none (n + 1) (pc, lv, .inr (.inr (some 0)) :: st, h, c, s) = R :=
  q_any q hg rfl hp H
theorem q_sld {i x : Int32} {xs : List Int32} (q : Nat) (hg : G j pc = some (.inl (ai_sld xs))) (h2 : ¬ i < 0) (h3 : i.toNatClampNeg < xs.length) (h4 : xs.getD i.toNatClampNeg 0 = x) (hp : pc + 1 = q) (H : am_it J X G run j none n (q, lv, .inl x :: st, h, c, s) = R) : am_it J X G run j none (n + 1) (pc, lv, .inl i :: .inr (.inr (some 0)) :: st, h, c, s) = R := by
  subst h4
  exact q_any q hg (show ai_sld xs (pc, lv, .inl i :: .inr (.inr (some 0)) :: st, h, c, s) = some (pc + 1, lv, .inl (xs.getD i.toNatClampNeg 0) :: st, h, c, s) from by simp only [ai_sld]; rw [if_pos ⟨h2, h3⟩]) hp H
/-- a call that answers -/
theorem am_callE {k na kd : Nat} {as : List am_v} {h' : am_h} {v : Option am_v} {c' s' : Nat} (hrun : run k as h = some (.inl v, h', c', s')) (ha : (st.take na).reverse = as) (hb : (Nat.ble na st.length && (Nat.ble (am_words (st.drop na)) 8 && Nat.ble (am_words as) (J k).2.2.1)) = true) (hr : am_rc kd h as = true) (hl : h'.length = h.length) : am_call J X run j k na kd (pc, lv, st, h, c, s) = some (.inl (pc + 3, lv, v.toList ++ st.drop na, h', c + c', s + s')) := by
  subst ha
  have h1 := Bool.and_eq_true_iff.mp hb
  have h2 := Bool.and_eq_true_iff.mp h1.2
  unfold am_call
  rw [if_pos ⟨Nat.le_of_ble_eq_true h1.1, Nat.le_of_ble_eq_true h2.1, Nat.le_of_ble_eq_true h2.2, hr⟩, hrun]
  show (if h'.length = h.length ∨ _ then _ else none) = _
  rw [if_pos (Or.inl hl)]
theorem q_call {k na kd : Nat} {as : List am_v} {h' : am_h} {v : Option am_v} {c' s' : Nat} (st' : List am_v) (q : Nat) (hg : G j pc = some (.inr (.inl (k, na, kd)))) (hrun : run k as h = some (.inl v, h', c', s')) (ha : (st.take na).reverse = as) (hb : (Nat.ble na st.length && (Nat.ble (am_words (st.drop na)) 8 && Nat.ble (am_words as) (J k).2.2.1)) = true) (hr : am_rc kd h as = true) (hl : h'.length = h.length) (hst : v.toList ++ st.drop na = st') (hp : pc + 3 = q) (H : am_it J X G run j none n (q, lv, st', h', c + c', s + s') = R) : am_it J X G run j none (n + 1) (pc, lv, st, h, c, s) = R := by
  subst hp
  subst hst
  show (bif am_at none pc then some (.inr (pc, lv, st, h, c, s)) else match G j pc with
    | none => none
    | some (.inl f) => (match f (pc, lv, st, h, c, s) with
      | none => none
      | some S' => am_it J X G run j none n S')
    | some (.inr (.inr kd)) => (match am_fin kd (pc, lv, st, h, c, s) with
      | none => none
      | some r => some (.inl r))
    | some (.inr (.inl q)) => (match am_call J X run j q.1 q.2.1 q.2.2 (pc, lv, st, h, c, s) with
      | none => none
      | some (.inl S') => am_it J X G run j none n S'
      | some (.inr r) => some (.inl r))) = _
  rw [hg]
  show (match am_call J X run j k na kd (pc, lv, st, h, c, s) with
      | none => none
      | some (.inl S') => am_it J X G run j none n S'
      | some (.inr r) => some (.inl r)) = _
  rw [am_callE hrun ha hb hr hl]
  exact H
theorem q_call1s {k kd : Nat} {a1 : am_v} {x : am_v} {h' : am_h} {c' s' : Nat} (q : Nat) (hg : G j pc = some (.inr (.inl (k, 1, kd)))) (hrun : run k [a1] h = some (.inl (some x), h', c', s')) (hb : (Nat.ble (am_words st) 8 && Nat.ble (am_words [a1]) (J k).2.2.1) = true) (hr : am_rc kd h [a1] = true) (hl : h'.length = h.length) (hp : pc + 3 = q) (H : am_it J X G run j none n (q, lv, x :: st, h', c + c', s + s') = R) : am_it J X G run j none (n + 1) (pc, lv, a1 :: st, h, c, s) = R :=
  q_call _ q hg hrun rfl (Bool.and_eq_true_iff.mpr ⟨Nat.ble_eq_true_of_le (by simp only [List.length_cons]; omega), hb⟩) hr hl rfl hp H
theorem q_call1n {k kd : Nat} {a1 : am_v} {h' : am_h} {c' s' : Nat} (q : Nat) (hg : G j pc = some (.inr (.inl (k, 1, kd)))) (hrun : run k [a1] h = some (.inl (none), h', c', s')) (hb : (Nat.ble (am_words st) 8 && Nat.ble (am_words [a1]) (J k).2.2.1) = true) (hr : am_rc kd h [a1] = true) (hl : h'.length = h.length) (hp : pc + 3 = q) (H : am_it J X G run j none n (q, lv, st, h', c + c', s + s') = R) : am_it J X G run j none (n + 1) (pc, lv, a1 :: st, h, c, s) = R :=
  q_call _ q hg hrun rfl (Bool.and_eq_true_iff.mpr ⟨Nat.ble_eq_true_of_le (by simp only [List.length_cons]; omega), hb⟩) hr hl rfl hp H
theorem q_call2s {k kd : Nat} {a1 a2 : am_v} {x : am_v} {h' : am_h} {c' s' : Nat} (q : Nat) (hg : G j pc = some (.inr (.inl (k, 2, kd)))) (hrun : run k [a1, a2] h = some (.inl (some x), h', c', s')) (hb : (Nat.ble (am_words st) 8 && Nat.ble (am_words [a1, a2]) (J k).2.2.1) = true) (hr : am_rc kd h [a1, a2] = true) (hl : h'.length = h.length) (hp : pc + 3 = q) (H : am_it J X G run j none n (q, lv, x :: st, h', c + c', s + s') = R) : am_it J X G run j none (n + 1) (pc, lv, a2 :: a1 :: st, h, c, s) = R :=
  q_call _ q hg hrun rfl (Bool.and_eq_true_iff.mpr ⟨Nat.ble_eq_true_of_le (by simp only [List.length_cons]; omega), hb⟩) hr hl rfl hp H
theorem q_call2n {k kd : Nat} {a1 a2 : am_v} {h' : am_h} {c' s' : Nat} (q : Nat) (hg : G j pc = some (.inr (.inl (k, 2, kd)))) (hrun : run k [a1, a2] h = some (.inl (none), h', c', s')) (hb : (Nat.ble (am_words st) 8 && Nat.ble (am_words [a1, a2]) (J k).2.2.1) = true) (hr : am_rc kd h [a1, a2] = true) (hl : h'.length = h.length) (hp : pc + 3 = q) (H : am_it J X G run j none n (q, lv, st, h', c + c', s + s') = R) : am_it J X G run j none (n + 1) (pc, lv, a2 :: a1 :: st, h, c, s) = R :=
  q_call _ q hg hrun rfl (Bool.and_eq_true_iff.mpr ⟨Nat.ble_eq_true_of_le (by simp only [List.length_cons]; omega), hb⟩) hr hl rfl hp H
theorem q_call3s {k kd : Nat} {a1 a2 a3 : am_v} {x : am_v} {h' : am_h} {c' s' : Nat} (q : Nat) (hg : G j pc = some (.inr (.inl (k, 3, kd)))) (hrun : run k [a1, a2, a3] h = some (.inl (some x), h', c', s')) (hb : (Nat.ble (am_words st) 8 && Nat.ble (am_words [a1, a2, a3]) (J k).2.2.1) = true) (hr : am_rc kd h [a1, a2, a3] = true) (hl : h'.length = h.length) (hp : pc + 3 = q) (H : am_it J X G run j none n (q, lv, x :: st, h', c + c', s + s') = R) : am_it J X G run j none (n + 1) (pc, lv, a3 :: a2 :: a1 :: st, h, c, s) = R :=
  q_call _ q hg hrun rfl (Bool.and_eq_true_iff.mpr ⟨Nat.ble_eq_true_of_le (by simp only [List.length_cons]; omega), hb⟩) hr hl rfl hp H
theorem q_call3n {k kd : Nat} {a1 a2 a3 : am_v} {h' : am_h} {c' s' : Nat} (q : Nat) (hg : G j pc = some (.inr (.inl (k, 3, kd)))) (hrun : run k [a1, a2, a3] h = some (.inl (none), h', c', s')) (hb : (Nat.ble (am_words st) 8 && Nat.ble (am_words [a1, a2, a3]) (J k).2.2.1) = true) (hr : am_rc kd h [a1, a2, a3] = true) (hl : h'.length = h.length) (hp : pc + 3 = q) (H : am_it J X G run j none n (q, lv, st, h', c + c', s + s') = R) : am_it J X G run j none (n + 1) (pc, lv, a3 :: a2 :: a1 :: st, h, c, s) = R :=
  q_call _ q hg hrun rfl (Bool.and_eq_true_iff.mpr ⟨Nat.ble_eq_true_of_le (by simp only [List.length_cons]; omega), hb⟩) hr hl rfl hp H
theorem q_call4s {k kd : Nat} {a1 a2 a3 a4 : am_v} {x : am_v} {h' : am_h} {c' s' : Nat} (q : Nat) (hg : G j pc = some (.inr (.inl (k, 4, kd)))) (hrun : run k [a1, a2, a3, a4] h = some (.inl (some x), h', c', s')) (hb : (Nat.ble (am_words st) 8 && Nat.ble (am_words [a1, a2, a3, a4]) (J k).2.2.1) = true) (hr : am_rc kd h [a1, a2, a3, a4] = true) (hl : h'.length = h.length) (hp : pc + 3 = q) (H : am_it J X G run j none n (q, lv, x :: st, h', c + c', s + s') = R) : am_it J X G run j none (n + 1) (pc, lv, a4 :: a3 :: a2 :: a1 :: st, h, c, s) = R :=
  q_call _ q hg hrun rfl (Bool.and_eq_true_iff.mpr ⟨Nat.ble_eq_true_of_le (by simp only [List.length_cons]; omega), hb⟩) hr hl rfl hp H
theorem q_call4n {k kd : Nat} {a1 a2 a3 a4 : am_v} {h' : am_h} {c' s' : Nat} (q : Nat) (hg : G j pc = some (.inr (.inl (k, 4, kd)))) (hrun : run k [a1, a2, a3, a4] h = some (.inl (none), h', c', s')) (hb : (Nat.ble (am_words st) 8 && Nat.ble (am_words [a1, a2, a3, a4]) (J k).2.2.1) = true) (hr : am_rc kd h [a1, a2, a3, a4] = true) (hl : h'.length = h.length) (hp : pc + 3 = q) (H : am_it J X G run j none n (q, lv, st, h', c + c', s + s') = R) : am_it J X G run j none (n + 1) (pc, lv, a4 :: a3 :: a2 :: a1 :: st, h, c, s) = R :=
  q_call _ q hg hrun rfl (Bool.and_eq_true_iff.mpr ⟨Nat.ble_eq_true_of_le (by simp only [List.length_cons]; omega), hb⟩) hr hl rfl hp H
theorem q_call5s {k kd : Nat} {a1 a2 a3 a4 a5 : am_v} {x : am_v} {h' : am_h} {c' s' : Nat} (q : Nat) (hg : G j pc = some (.inr (.inl (k, 5, kd)))) (hrun : run k [a1, a2, a3, a4, a5] h = some (.inl (some x), h', c', s')) (hb : (Nat.ble (am_words st) 8 && Nat.ble (am_words [a1, a2, a3, a4, a5]) (J k).2.2.1) = true) (hr : am_rc kd h [a1, a2, a3, a4, a5] = true) (hl : h'.length = h.length) (hp : pc + 3 = q) (H : am_it J X G run j none n (q, lv, x :: st, h', c + c', s + s') = R) : am_it J X G run j none (n + 1) (pc, lv, a5 :: a4 :: a3 :: a2 :: a1 :: st, h, c, s) = R :=
  q_call _ q hg hrun rfl (Bool.and_eq_true_iff.mpr ⟨Nat.ble_eq_true_of_le (by simp only [List.length_cons]; omega), hb⟩) hr hl rfl hp H
theorem q_call5n {k kd : Nat} {a1 a2 a3 a4 a5 : am_v} {h' : am_h} {c' s' : Nat} (q : Nat) (hg : G j pc = some (.inr (.inl (k, 5, kd)))) (hrun : run k [a1, a2, a3, a4, a5] h = some (.inl (none), h', c', s')) (hb : (Nat.ble (am_words st) 8 && Nat.ble (am_words [a1, a2, a3, a4, a5]) (J k).2.2.1) = true) (hr : am_rc kd h [a1, a2, a3, a4, a5] = true) (hl : h'.length = h.length) (hp : pc + 3 = q) (H : am_it J X G run j none n (q, lv, st, h', c + c', s + s') = R) : am_it J X G run j none (n + 1) (pc, lv, a5 :: a4 :: a3 :: a2 :: a1 :: st, h, c, s) = R :=
  q_call _ q hg hrun rfl (Bool.and_eq_true_iff.mpr ⟨Nat.ble_eq_true_of_le (by simp only [List.length_cons]; omega), hb⟩) hr hl rfl hp H
theorem q_call6s {k kd : Nat} {a1 a2 a3 a4 a5 a6 : am_v} {x : am_v} {h' : am_h} {c' s' : Nat} (q : Nat) (hg : G j pc = some (.inr (.inl (k, 6, kd)))) (hrun : run k [a1, a2, a3, a4, a5, a6] h = some (.inl (some x), h', c', s')) (hb : (Nat.ble (am_words st) 8 && Nat.ble (am_words [a1, a2, a3, a4, a5, a6]) (J k).2.2.1) = true) (hr : am_rc kd h [a1, a2, a3, a4, a5, a6] = true) (hl : h'.length = h.length) (hp : pc + 3 = q) (H : am_it J X G run j none n (q, lv, x :: st, h', c + c', s + s') = R) : am_it J X G run j none (n + 1) (pc, lv, a6 :: a5 :: a4 :: a3 :: a2 :: a1 :: st, h, c, s) = R :=
  q_call _ q hg hrun rfl (Bool.and_eq_true_iff.mpr ⟨Nat.ble_eq_true_of_le (by simp only [List.length_cons]; omega), hb⟩) hr hl rfl hp H
theorem q_call6n {k kd : Nat} {a1 a2 a3 a4 a5 a6 : am_v} {h' : am_h} {c' s' : Nat} (q : Nat) (hg : G j pc = some (.inr (.inl (k, 6, kd)))) (hrun : run k [a1, a2, a3, a4, a5, a6] h = some (.inl (none), h', c', s')) (hb : (Nat.ble (am_words st) 8 && Nat.ble (am_words [a1, a2, a3, a4, a5, a6]) (J k).2.2.1) = true) (hr : am_rc kd h [a1, a2, a3, a4, a5, a6] = true) (hl : h'.length = h.length) (hp : pc + 3 = q) (H : am_it J X G run j none n (q, lv, st, h', c + c', s + s') = R) : am_it J X G run j none (n + 1) (pc, lv, a6 :: a5 :: a4 :: a3 :: a2 :: a1 :: st, h, c, s) = R :=
  q_call _ q hg hrun rfl (Bool.and_eq_true_iff.mpr ⟨Nat.ble_eq_true_of_le (by simp only [List.length_cons]; omega), hb⟩) hr hl rfl hp H
/-- a call that throws, and what is thrown is caught -/
theorem q_callT {k na kd e : Nat} {as : List am_v} {h' : am_h} {c' s' : Nat} {w : Nat × Nat} (q : Nat) (hg : G j pc = some (.inr (.inl (k, na, kd)))) (hrun : run k as h = some (.inr e, h', c', s')) (ha : (st.take na).reverse = as) (hb : (Nat.ble na st.length && (Nat.ble (am_words (st.drop na)) 8 && Nat.ble (am_words as) (J k).2.2.1)) = true) (hr : am_rc kd h as = true) (hl : h'.length = h.length) (hk : ¬ (kd = 1 ∨ kd = 2)) (hX : X j pc e = some w) (hp : w.1 = q) (H : am_it J X G run j none n (q, am_del lv w.2, [], h', c + c', s + s') = R) : am_it J X G run j none (n + 1) (pc, lv, st, h, c, s) = R := by
  subst hp
  have hc : am_call J X run j k na kd (pc, lv, st, h, c, s) = some (.inl (w.1, am_del lv w.2, [], h', c + c', s + s')) := by
    subst ha
    have h1 := Bool.and_eq_true_iff.mp hb
    have h2 := Bool.and_eq_true_iff.mp h1.2
    unfold am_call
    rw [if_pos ⟨Nat.le_of_ble_eq_true h1.1, Nat.le_of_ble_eq_true h2.1, Nat.le_of_ble_eq_true h2.2, hr⟩, hrun]
    show (if h'.length = h.length ∨ _ then _ else none) = _
    rw [if_pos (Or.inl hl)]
    show (if kd = 1 ∨ kd = 2 then none else _) = _
    rw [if_neg hk]
    show (match X j pc e with
          | some q => _
          | none => _) = _
    rw [hX]
  show (bif am_at none pc then some (.inr (pc, lv, st, h, c, s)) else match G j pc with
    | none => none
    | some (.inl f) => (match f (pc, lv, st, h, c, s) with
      | none => none
      | some S' => am_it J X G run j none n S')
    | some (.inr (.inr kd)) => (match am_fin kd (pc, lv, st, h, c, s) with
      | none => none
      | some r => some (.inl r))
    | some (.inr (.inl q)) => (match am_call J X run j q.1 q.2.1 q.2.2 (pc, lv, st, h, c, s) with
      | none => none
      | some (.inl S') => am_it J X G run j none n S'
      | some (.inr r) => some (.inl r))) = _
  rw [hg]
  show (match am_call J X run j k na kd (pc, lv, st, h, c, s) with
      | none => none
      | some (.inl S') => am_it J X G run j none n S'
      | some (.inr r) => some (.inl r)) = _
  rw [hc]
  exact H
/-- a call that throws, and nothing is caught -/
theorem q_callP {k na kd e : Nat} {as : List am_v} {h' : am_h} {c' s' : Nat} (hg : G j pc = some (.inr (.inl (k, na, kd)))) (hrun : run k as h = some (.inr e, h', c', s')) (ha : (st.take na).reverse = as) (hb : (Nat.ble na st.length && (Nat.ble (am_words (st.drop na)) 8 && Nat.ble (am_words as) (J k).2.2.1)) = true) (hr : am_rc kd h as = true) (hl : h'.length = h.length) (hk : ¬ (kd = 1 ∨ kd = 2)) (hX : X j pc e = none) (hJ : (J j).2.2.2.2.2.2 = []) (H : some (.inl (.inr e, h', c + c', s + s')) = R) : am_it J X G run j none (n + 1) (pc, lv, st, h, c, s) = R := by
  have hc : am_call J X run j k na kd (pc, lv, st, h, c, s) = some (.inr (.inr e, h', c + c', s + s')) := by
    subst ha
    have h1 := Bool.and_eq_true_iff.mp hb
    have h2 := Bool.and_eq_true_iff.mp h1.2
    unfold am_call
    rw [if_pos ⟨Nat.le_of_ble_eq_true h1.1, Nat.le_of_ble_eq_true h2.1, Nat.le_of_ble_eq_true h2.2, hr⟩, hrun]
    show (if h'.length = h.length ∨ _ then _ else none) = _
    rw [if_pos (Or.inl hl)]
    show (if kd = 1 ∨ kd = 2 then none else _) = _
    rw [if_neg hk]
    show (match X j pc e with
          | some q => _
          | none => _) = _
    rw [hX]
    show (if (J j).2.2.2.2.2.2 = [] then _ else none) = _
    rw [if_pos hJ]
  show (bif am_at none pc then some (.inr (pc, lv, st, h, c, s)) else match G j pc with
    | none => none
    | some (.inl f) => (match f (pc, lv, st, h, c, s) with
      | none => none
      | some S' => am_it J X G run j none n S')
    | some (.inr (.inr kd)) => (match am_fin kd (pc, lv, st, h, c, s) with
      | none => none
      | some r => some (.inl r))
    | some (.inr (.inl q)) => (match am_call J X run j q.1 q.2.1 q.2.2 (pc, lv, st, h, c, s) with
      | none => none
      | some (.inl S') => am_it J X G run j none n S'
      | some (.inr r) => some (.inl r))) = _
  rw [hg]
  show (match am_call J X run j k na kd (pc, lv, st, h, c, s) with
      | none => none
      | some (.inl S') => am_it J X G run j none n S'
      | some (.inr r) => some (.inl r)) = _
  rw [hc]
  exact H
theorem q_fin {kd : Nat} {S : am_s} {r : am_r} (hg : G j S.1 = some (.inr (.inr kd))) (hf : am_fin kd S = some r) (H : some (.inl r) = R) : am_it J X G run j none (n + 1) S = R := by
  show (bif am_at none S.1 then some (.inr S) else match G j S.1 with
    | none => none
    | some (.inl f) => (match f S with
      | none => none
      | some S' => am_it J X G run j none n S')
    | some (.inr (.inr kd)) => (match am_fin kd S with
      | none => none
      | some r => some (.inl r))
    | some (.inr (.inl q)) => (match am_call J X run j q.1 q.2.1 q.2.2 S with
      | none => none
      | some (.inl S') => am_it J X G run j none n S'
      | some (.inr r) => some (.inl r))) = _
  rw [hg]
  show (match am_fin kd S with
      | none => none
      | some r => some (.inl r)) = R
  rw [hf]
  exact H
theorem am_rcE {ci i : Nat} {fs : List am_v} {as : List am_v} (h1 : h[i]? = some (.inr (ci, fs))) : am_rc (ci + 3) h (.inr (.inr (some i)) :: as) = true := by
  simp only [am_rc, h1]
  exact Nat.beq_refl ci
end AMQ
theorem am_q0 {d k : Nat} {as : List am_v} {h : am_h} {R : am_r} (H : am_it am_J am_X am_G2 (am_rn d) k none 100000 (0, am_args 0 as, [], h, 0, 0) = some (.inl R)) : am_rn (d + 1) k as h = some R := by
  show (match am_it am_J am_X am_G2 (am_run am_J am_X am_G2 100000 d) k none 100000 (0, am_args 0 as, [], h, 0, 0) with
    | some (.inl r) => some r
    | _ => none) = some R
  rw [H]
