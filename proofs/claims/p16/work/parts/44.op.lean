/-! TERMS AS ROWS OF NUMBERS: how many parts are still to come -/
def ow (c : Int) : Int := if c = 0 then 1 else if c = 1 then 0 else -1
/-- from i, behind n numbers: so many terms are still to come -/
def op (t : Int → Int) (i : Int) : Nat → Int
  | 0 => 1
  | n + 1 => op t i n + ow (t (i + n))
/-- just one term, n numbers from i -/
def wf (t : Int → Int) (i : Int) (n : Nat) : Prop := op t i n = 0 ∧ ∀ m : Nat, m < n → 0 < op t i m
section OP
variable {t u : Int → Int} {i j : Int} {n m k : Nat}
theorem ow_ge (c : Int) : -1 ≤ ow c := by
  unfold ow
  split
  · omega
  · split <;> omega
theorem ow_le (c : Int) : ow c ≤ 1 := by
  unfold ow
  split
  · omega
  · split <;> omega
theorem op_le (n : Nat) : op t i n ≤ n + 1 := by
  induction n with
  | zero => show (1 : Int) ≤ 0 + 1; omega
  | succ n ih =>
    have h1 : op t i (n + 1) = op t i n + ow (t (i + n)) := rfl
    have h2 := ow_le (t (i + n))
    omega
theorem ow_0 : ow 0 = 1 := rfl
theorem ow_1 : ow 1 = 0 := rfl
theorem ow_v {c : Int} (h0 : c ≠ 0) (h1 : c ≠ 1) : ow c = -1 := by
  unfold ow
  rw [if_neg h0, if_neg h1]
theorem op_nx (n : Nat) : op t i (n + 1) = op t i n + ow (t (i + n)) := rfl
theorem op_add (k : Nat) : op t i (m + k) = op t i m + (op t (i + m) k - 1) := by
  induction k with
  | zero =>
    show op t i m = op t i m + (1 - 1)
    omega
  | succ k ih =>
    show op t i (m + k) + ow (t (i + ((m + k : Nat) : Int))) = op t i m + (op t (i + m) k + ow (t (i + m + k)) - 1)
    have e : i + ((m + k : Nat) : Int) = i + m + k := by omega
    rw [ih, e]
    omega
theorem op_congr (h : ∀ q : Nat, q < n → t (i + q) = u (j + q)) : op t i n = op u j n := by
  induction n with
  | zero => rfl
  | succ n ih =>
    show op t i n + ow (t (i + n)) = op u j n + ow (u (j + n))
    rw [ih (fun q hq => h q (by omega)), h n (by omega)]
theorem wf_congr (h : ∀ q : Nat, q < n → t (i + q) = u (j + q)) (w : wf t i n) : wf u j n := by
  refine ⟨?_, fun m hm => ?_⟩
  · rw [← op_congr h]
    exact w.1
  · rw [← op_congr (fun q hq => h q (by omega))]
    exact w.2 m hm
theorem wf_pos (w : wf t i n) : 0 < n := by
  rcases Nat.eq_zero_or_pos n with e | e
  · subst e
    have := w.1
    exact absurd this (by show ¬ (1 : Int) = 0; omega)
  · exact e
/-- the first place where a count that sinks by one at most is down to a bound -/
theorem op_hit (c : Int) (k : Nat) : c < op t i m → op t i (m + k) ≤ c → ∃ k' : Nat, 0 < k' ∧ k' ≤ k ∧ op t i (m + k') = c ∧ ∀ q : Nat, q < k' → c < op t i (m + q) := by
  induction k using Nat.strongRecOn with
  | ind k ih =>
    intro h1 h2
    by_cases h4 : ∃ q, q < k ∧ op t i (m + q) ≤ c
    · obtain ⟨q, h5, h6⟩ := h4
      obtain ⟨k', a, b, d, e⟩ := ih q h5 h1 h6
      exact ⟨k', a, by omega, d, e⟩
    · have h5 : ∀ q : Nat, q < k → c < op t i (m + q) := fun q hq => by
        by_cases h7 : op t i (m + q) ≤ c
        · exact absurd ⟨q, hq, h7⟩ h4
        · omega
      match k, h2, h5 with
      | 0, h2, _ => exact absurd h2 (by show ¬ op t i m ≤ c; omega)
      | k + 1, h2, h5 =>
        refine ⟨k + 1, by omega, Nat.le_refl _, ?_, h5⟩
        have h8 : op t i (m + (k + 1)) = op t i (m + k) + ow (t (i + ((m + k : Nat) : Int))) := rfl
        have h9 := ow_ge (t (i + ((m + k : Nat) : Int)))
        have h6 := h5 k (by omega)
        omega
/-- within a term each place begins one -/
theorem wf_sub (w : wf t i n) (hm : m < n) : ∃ k : Nat, wf t (i + m) k ∧ m + k ≤ n := by
  have h1 := w.2 m hm
  have h2 : op t i (m + (n - m)) ≤ op t i m - 1 := by
    have e : m + (n - m) = n := by omega
    rw [e, w.1]
    omega
  obtain ⟨k, a, b, d, e⟩ := op_hit (t := t) (i := i) (m := m) (op t i m - 1) (n - m) (by omega) h2
  refine ⟨k, ⟨?_, fun q hq => ?_⟩, by omega⟩
  · have := op_add (t := t) (i := i) (m := m) k
    omega
  · have h3 := op_add (t := t) (i := i) (m := m) q
    have h4 := e q hq
    omega
theorem wf_uniq (w : wf t i n) (w2 : wf t i m) : n = m := by
  rcases Nat.lt_trichotomy n m with h | h | h
  · have := w2.2 n h
    have := w.1
    omega
  · exact h
  · have := w.2 m h
    have := w2.1
    omega
theorem op_sub (w2 : wf t (i + m) k) : op t i (m + k) = op t i m - 1 := by
  have := op_add (t := t) (i := i) (m := m) k
  have := w2.1
  omega
end OP
