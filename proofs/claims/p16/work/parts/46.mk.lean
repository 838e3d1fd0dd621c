/-! a row that is being made, term by term; bounds of its numbers -/
def mk (t : Int → Int) (n : Nat) (c : Int) : Prop := op t 0 n = c ∧ ∀ m : Nat, m < n → 0 < op t 0 m
def cb (t : Int → Int) (i : Int) (n : Nat) (M : Int) : Prop := ∀ q : Nat, q < n → 0 ≤ t (i + q) ∧ t (i + q) ≤ M
section MK
variable {t u : Int → Int} {i j c M M' v : Int} {n m k : Nat}
theorem mk.app (h : mk t n c) (hc : 0 < c) (hu : ∀ q : Int, q ≠ n → u q = t q) (hv : u n = v) : mk u (n + 1) (c + ow v) := by
  have e : ∀ m : Nat, m ≤ n → op u 0 m = op t 0 m := fun m hm => op_congr (fun q hq => hu _ (by omega))
  refine ⟨?_, fun m hm => ?_⟩
  · rw [op_nx, e n (Nat.le_refl _), h.1, ← hv]
    have e9 : (0 : Int) + (n : Int) = n := by omega
    rw [e9]
  · rw [e m (by omega)]
    by_cases hmn : m = n
    · subst hmn
      rw [h.1]
      exact hc
    · exact h.2 m (by omega)
theorem mk.wf (h : mk t n 0) : wf t 0 n := h
theorem mk.z : mk t 0 1 := ⟨rfl, fun m hm => absurd hm (Nat.not_lt_zero m)⟩
theorem cb.app (h : cb t 0 n M) (hu : ∀ q : Int, q ≠ n → u q = t q) (hv : u n = v) (h1 : 0 ≤ v) (h2 : v ≤ M) : cb u 0 (n + 1) M := fun q hq => by
  by_cases hqn : q = n
  · subst hqn
    have e9 : (0 : Int) + (q : Int) = q := by omega
    rw [e9, hv]
    exact ⟨h1, h2⟩
  · rw [hu _ (by omega)]
    exact h q (by omega)
theorem cb.z : cb t i 0 M := fun q hq => absurd hq (Nat.not_lt_zero q)
theorem cb.le (h : cb t i n M) (hM : M ≤ M') : cb t i n M' := fun q hq => ⟨(h q hq).1, Int.le_trans (h q hq).2 hM⟩
theorem cb.at (h : cb t i n M) {p : Int} (h1 : i ≤ p) (h2 : p < i + n) : 0 ≤ t p ∧ t p ≤ M := by
  have := h (p - i).toNat (by omega)
  rw [show i + ((p - i).toNat : Int) = p by omega] at this
  exact this
theorem cb.sub (h : cb t i n M) (hm : m + k ≤ n) : cb t (i + m) k M := fun q hq => by
  have := h (m + q) (by omega)
  rw [show i + ((m + q : Nat) : Int) = i + m + q by omega] at this
  exact this
theorem cb.congr (h : cb t i n M) (e : ∀ q : Nat, q < n → t (i + q) = u (j + q)) : cb u j n M := fun q hq => by
  rw [← e q hq]
  exact h q hq
/-- an application of a function within a term: its function, its argument -/
theorem redex (w : wf t i n) (hm : m + 1 < n) (h0 : t (i + m) = 0) : ∃ nf na : Nat, wf t (i + m + 1) nf ∧ wf t (i + m + 1 + nf) na ∧ m + 1 + nf + na ≤ n ∧ op t i (m + 1 + nf + na) = op t i m - 1 := by
  obtain ⟨nf, w1, h1⟩ := wf_sub w hm
  rw [show i + ((m + 1 : Nat) : Int) = i + m + 1 by omega] at w1
  have e1 : op t i (m + 1) = op t i m + 1 := by rw [op_nx, h0]; rfl
  have e2 : op t i (m + 1 + nf) = op t i (m + 1) - 1 := op_sub (by rw [show i + ((m + 1 : Nat) : Int) = i + m + 1 by omega]; exact w1)
  have e3 := w.2 m (by omega)
  have h2 : m + 1 + nf < n := by
    rcases Nat.lt_or_ge (m + 1 + nf) n with q | q
    · exact q
    · exfalso
      have : m + 1 + nf = n := by omega
      rw [this, w.1] at e2
      omega
  obtain ⟨na, w2, h3⟩ := wf_sub w h2
  rw [show i + ((m + 1 + nf : Nat) : Int) = i + m + 1 + nf by omega] at w2
  refine ⟨nf, na, w1, w2, h3, ?_⟩
  rw [op_sub (by rw [show i + ((m + 1 + nf : Nat) : Int) = i + m + 1 + nf by omega]; exact w2), e2, e1]
  omega
end MK
