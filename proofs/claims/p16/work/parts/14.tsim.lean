section AMT
variable {p : Program} {l : Launch} {e : Env} {R : Room} {s : State} {m : MethodId} {args : Array Value} {below : List Frame} {meth : Method} {c : Code} {Q : State → Prop} {D : va_G} {cl : List vw_C} {cy : am_cy} {Y : am_y} {A : Nat → Prop} {nL : Nat} {Z : am_z} {I : am_i} {pc : Nat} {H : Heap}
/-- two rows of ints that hold the same -/
def am_sim (x y : Nat × Int32 × List Int32) : Prop := x.1 = y.1 ∧ ∀ j, j < x.1 → x.2.2.getD j x.2.1 = y.2.2.getD j y.2.1
theorem am_arrV {cA : ClassId} {n : Nat} {f g : Nat → Value} (h : ∀ j, j < n → f j = g j) : arrV cA n f = arrV cA n g := by
  unfold arrV
  have e : (fun j : Fin n => f j.val) = fun j : Fin n => g j.val := funext (fun j => h j.val j.isLt)
  rw [e]
theorem am_cellI {cA : ClassId} {n : Nat} {f g : Nat → Int32} (h : ∀ j, j < n → f j = g j) : vp_cell cA (n, .inl f) = vp_cell cA (n, .inl g) := am_arrV (f := fun j => .int (f j)) (g := fun j => .int (g j)) (fun j hj => by rw [h j hj])
theorem am_atI {a n : Nat} {cA : ClassId} {f g : Nat → Int32} (h : ∀ j, j < n → f j = g j) (hH : va_at D cl (a, .inl (cA, n, .inl f)) H) : va_at D cl (a, .inl (cA, n, .inl g)) H := by
  unfold va_at at *
  simp only at *
  rw [← am_cellI h]
  exact hH
theorem am_P_set {ws : va_W} {k a : Nat} {x y : va_E} (hP : va_P D cl (ws.set k (a, x)) H) (h : va_at D cl (a, x) H → va_at D cl (a, y) H) : va_P D cl (ws.set k (a, y)) H := by
  intro i q hq
  by_cases hi : k = i
  · subst hi
    by_cases hk : k < ws.length
    · rw [List.getElem?_set_self hk] at hq
      cases hq
      exact h (hP k (a, x) (by rw [List.getElem?_set_self hk]))
    · rw [List.getElem?_eq_none (by rw [List.length_set]; omega)] at hq
      cases hq
  · rw [List.getElem?_set_ne hi] at hq
    exact hP i q (by rw [List.getElem?_set_ne hi]; exact hq)
theorem am_D_set {ws : va_W} {k a : Nat} {x y : va_E} (hD : va_D A (ws.set k (a, x))) : va_D A (ws.set k (a, y)) := by
  have h1 : ∀ (i : Nat) (q : Nat × va_E), (ws.set k (a, y))[i]? = some q → ∃ q' : Nat × va_E, (ws.set k (a, x))[i]? = some q' ∧ q'.1 = q.1 := fun i q hq => by
    by_cases hi : k = i
    · subst hi
      by_cases hk : k < ws.length
      · rw [List.getElem?_set_self hk] at hq
        cases hq
        exact ⟨(a, x), by rw [List.getElem?_set_self hk], rfl⟩
      · rw [List.getElem?_eq_none (by rw [List.length_set]; omega)] at hq
        cases hq
    · rw [List.getElem?_set_ne hi] at hq
      exact ⟨q, by rw [List.getElem?_set_ne hi]; exact hq, rfl⟩
  refine ⟨fun i j u v hu hv huv => ?_, fun i q hq => ?_⟩
  · obtain ⟨u', e1, e2⟩ := h1 i u hu
    obtain ⟨v', e3, e4⟩ := h1 j v hv
    exact hD.1 i j u' v' e1 e3 (by rw [e2, e4]; exact huv)
  · obtain ⟨q', e1, e2⟩ := h1 i q hq
    rw [← e2]
    exact hD.2 i q' e1
theorem am_set_self {τ : Type} : ∀ {l : List τ} {i : Nat} {x : τ}, l[i]? = some x → l.set i x = l
  | [], _, _, h => by cases h
  | a :: as, 0, x, h => by cases h; rfl
  | a :: as, i + 1, x, h => by
    have h9 := am_set_self (l := as) (i := i) (x := x) (by simpa using h)
    rw [List.set_cons_succ, h9]
/-- one row of ints may be told in another way -/
theorem am_WA.sim {α : List Nat} {lv : am_l} {st : List am_v} {h : am_h} {k n a : Nat} {x y : Nat × Int32 × List Int32} (ha : a ≠ 0) (hx : h[a]? = some (.inl (.inl x))) (hs : am_sim x y) (hk : am_WA p l e R s m args below meth c Q D cl cy Y A nL α (pc, lv, st, h.set a (.inl (.inl y)), k, n)) : am_WA p l e R s m args below meth c Q D cl cy Y A nL α (pc, lv, st, h, k, n) := by
  intro H locs ls hlen hP hD hS hl
  have e0 : am_W cy α h = (am_W cy α h).set (a - 1) (α.getD a 0, am_E cy α (.inl (.inl x))) := (am_set_self (am_W_get hlen hx ha)).symm
  have e1 : (am_W cy α h).set (a - 1) (α.getD a 0, am_E cy α (.inl (.inl y))) = am_W cy α (h.set a (.inl (.inl y))) := am_W_set ha _
  have hP0 : va_P D cl (am_W cy α h) H := hP
  have hD0 : va_D A (am_W cy α h) := hD
  rw [e0] at hP0 hD0
  have hP1 := am_P_set (y := am_E cy α (.inl (.inl y))) hP0 (fun h9 => by
    obtain ⟨x1, x2, x3⟩ := x
    obtain ⟨y1, y2, y3⟩ := y
    obtain ⟨rfl, hs⟩ := hs
    exact am_atI hs h9)
  have hD1 := am_D_set (y := am_E cy α (.inl (.inl y))) hD0
  rw [e1] at hP1 hD1
  exact hk H locs ls (am_al.set hlen ha) hP1 hD1 hS hl
/-- a step that a run of the same frame, without calls, does -/
theorem am_fuse {J : Nat → am_i} {X : am_t} {G : Nat → Nat → Option am_n} {j : Nat} {f : am_s → Option am_s} (hG : am_GJ cl Y Z J X G)
    (hf : ∀ S S' : am_s, S.1 = pc → f S = some S' → ∃ (q n a : Nat) (x y : Nat × Int32 × List Int32) (S1 : am_s), am_it J X G (fun _ _ _ => none) j (some q) n S = some (.inr S1) ∧ a ≠ 0 ∧ S1.2.2.2.1[a]? = some (.inl (.inl x)) ∧ am_sim x y ∧ S' = (S1.1, S1.2.1, S1.2.2.1, S1.2.2.2.1.set a (.inl (.inl y)), S1.2.2.2.2)) : am_St cl Y Z (J j) pc f := by
  intro p l e R s m args below meth c Q D cy A C S S' hpc hf1
  obtain ⟨q, n, a, x, y, S1, h1, h2, h3, h4, rfl⟩ := hf S S' hpc hf1
  obtain ⟨S2, e1, e2⟩ := am_it_to (d := 0) (l := l) (D := D) (cy := cy) hG (fun k as h r _ h9 => by cases h9) n S _ h1
  have e3 : S2 = S1 := e1
  subst e3
  obtain ⟨m1, m2⟩ := e2 p e R s m args below meth c Q A C C.2.2.2.2.2.1 C.2.2.2.2.2.2.1
  refine ⟨m1, fun α hc1 hc2 hk => m2 α hc1 hc2 (fun β => ?_)⟩
  exact am_WA.sim h2 h3 h4 (hk β)
end AMT
