/-! WHAT WAITS TO BE SAID: a row of letters and of parts (below 0) -/
def ng (t : Int → Int) : Nat → Int
  | 0 => 0
  | k + 1 => ng t k + (if t k < 0 then 1 else 0)
def sy (t : Int → Int) (l p M : Int) : Prop := 0 ≤ l ∧ ng t l.toNat = p ∧ ∀ q : Int, 0 ≤ q → q < l → -M ≤ t q
section SAY
variable {t u : Int → Int} {l p M N k v : Int}
theorem ng_bd (t : Int → Int) (j : Nat) : 0 ≤ ng t j ∧ ng t j ≤ j := by
  induction j with
  | zero => exact ⟨Int.le_refl 0, Int.le_refl 0⟩
  | succ j ih =>
    have e : ng t (j + 1) = ng t j + (if t j < 0 then 1 else 0) := rfl
    rw [e]
    split <;> omega
theorem ng_congr (j : Nat) (h : ∀ q : Int, 0 ≤ q → q < j → t q = u q) : ng t j = ng u j := by
  induction j with
  | zero => rfl
  | succ j ih =>
    show ng t j + (if t j < 0 then 1 else 0) = ng u j + (if u j < 0 then 1 else 0)
    rw [ih (fun q h1 h2 => h q h1 (by omega)), h j (by omega) (by omega)]
theorem sy.bd (h : sy t l p M) : 0 ≤ p ∧ p ≤ l := by
  have h1 := ng_bd t l.toNat
  have h2 := h.1
  have h3 := h.2.1
  omega
theorem sy.z : sy t 0 0 M := ⟨Int.le_refl 0, rfl, fun q h1 h2 => absurd h2 (by omega)⟩
theorem sy.le (h : sy t l p M) (hM : M ≤ N) : sy t l p N := ⟨h.1, h.2.1, fun q h1 h2 => by have := h.2.2 q h1 h2; omega⟩
theorem sy.push (h : sy t l p M) (hu : ∀ q : Int, q ≠ l → u q = t q) (hv : u l = v) (hM : -M ≤ v) : (0 ≤ v ∧ sy u (l + 1) p M) ∨ (v < 0 ∧ sy u (l + 1) (p + 1) M) := by
  obtain ⟨h1, h2, h3⟩ := h
  have e1 : (l + 1).toNat = l.toNat + 1 := by omega
  have e2 : ng u (l.toNat + 1) = ng u l.toNat + (if u l.toNat < 0 then 1 else 0) := rfl
  have e3 : ng u l.toNat = ng t l.toNat := ng_congr _ (fun q g1 g2 => hu q (by omega))
  have e4 : ((l.toNat : Nat) : Int) = l := by omega
  rw [e4, hv, e3, h2] at e2
  have e5 : ∀ q : Int, 0 ≤ q → q < l + 1 → -M ≤ u q := fun q g1 g2 => by
    by_cases e : q = l
    · rw [e, hv]
      exact hM
    · rw [hu q e]
      exact h3 q g1 (by omega)
  by_cases hv0 : v < 0
  · rw [if_pos hv0] at e2
    exact Or.inr ⟨hv0, by omega, by rw [e1, e2], e5⟩
  · rw [if_neg hv0] at e2
    exact Or.inl ⟨by omega, by omega, by rw [e1, e2, Int.add_zero], e5⟩
theorem sy.pop (h : sy t l p M) (hl : 0 < l) (hk : k = l - 1) (hv : v = t k) : (0 ≤ v ∧ sy t k p M) ∨ (v < 0 ∧ -M ≤ v ∧ 1 ≤ p ∧ sy t k (p - 1) M) := by
  obtain ⟨h1, h2, h3⟩ := h
  have e1 : l.toNat = k.toNat + 1 := by omega
  have e2 : ng t (k.toNat + 1) = ng t k.toNat + (if t k.toNat < 0 then 1 else 0) := rfl
  have e4 : ((k.toNat : Nat) : Int) = k := by omega
  rw [e4, ← hv, ← e1, h2] at e2
  have e5 := h3 k (by omega) (by omega)
  rw [← hv] at e5
  have e6 := (ng_bd t k.toNat).1
  by_cases hv0 : v < 0
  · rw [if_pos hv0] at e2
    exact Or.inr ⟨hv0, e5, by omega, by omega, by omega, fun q g1 g2 => h3 q g1 (by omega)⟩
  · rw [if_neg hv0] at e2
    exact Or.inl ⟨by omega, by omega, by omega, fun q g1 g2 => h3 q g1 (by omega)⟩
end SAY
