/-! THE REFERENCE'S NET: nodes, ports, wires, and the level of each wire -/
def pr (k : Int) : Int := if k = 0 ∨ k = 6 then 1 else if k = 4 ∨ k = 5 then 2 else 3
/-- a port of a node that is there -/
def lp (K : Int → Int) (b p : Int) : Prop := 0 ≤ p ∧ p / 4 < b ∧ K (p / 4) ≠ -1 ∧ p % 4 < pr (K (p / 4))
/-- the levels of a node's wires -/
def tl (k lv l0 l1 l2 : Int) : Prop := (k = 0 → l0 = 0) ∧ (k = 1 ∨ k = 2 → l0 = lv ∧ l1 = lv ∧ l2 = lv + 1) ∧ (k = 3 → lv < l0 ∧ l1 = l0 ∧ l2 = l0) ∧ (k = 4 → lv < l0 ∧ l1 = l0 + 1) ∧ (k = 5 → lv ≤ l1 ∧ l0 = l1 + 1)
def nn (K L : Int → Int) (b T : Int) : Prop := 1 ≤ b ∧ b ≤ 400 ∧ K 0 = 0 ∧ L 0 = 0 ∧ ∀ j : Int, 0 ≤ j → j < b → -1 ≤ K j ∧ K j ≤ 6 ∧ 0 ≤ L j ∧ L j ≤ T ∧ (K j = 0 → j = 0)
def nw (K L w lm : Int → Int) (b : Int) : Prop := (∀ j : Int, 0 ≤ j → j < b → K j ≠ -1 → tl (K j) (L j) (lm (4 * j)) (lm (4 * j + 1)) (lm (4 * j + 2))) ∧ ∀ p : Int, lp K b p → lp K b (w p) ∧ w (w p) = p ∧ w p ≠ p ∧ lm (w p) = lm p
/-- the applications whose arguments are still to come -/
def wk (K L : Int → Int) (b w : Int) (a51 a52 a54 : Int → Int) (n : Nat) : Prop := ∀ k : Int, 0 ≤ k → k < w → (0 ≤ a51 k ∧ a51 k < b ∧ K (a51 k) = 2) ∧ (0 ≤ a52 k ∧ a52 k ≤ n) ∧ a54 k ≤ L (a51 k)
section NET
variable {K L w lm a51 a52 a54 b51 b52 b54 : Int → Int} {b T p v : Int} {n m : Nat}
theorem pr_1 {k : Int} (h : k = 1 ∨ k = 2 ∨ k = 3) : pr k = 3 := by
  unfold pr
  rw [if_neg (by omega), if_neg (by omega)]
theorem pr_2 {k : Int} (h : k = 4 ∨ k = 5) : pr k = 2 := by
  unfold pr
  rw [if_neg (by omega), if_pos h]
theorem pr_le (k : Int) : 1 ≤ pr k ∧ pr k ≤ 3 := by
  unfold pr
  split
  · omega
  · split <;> omega
theorem wk.le (h : wk K L b v a51 a52 a54 n) (hn : n ≤ m) : wk K L b v a51 a52 a54 m := fun k h1 h2 => ⟨(h k h1 h2).1, ⟨(h k h1 h2).2.1.1, by have := (h k h1 h2).2.1.2; omega⟩, (h k h1 h2).2.2⟩
theorem wk.pop (h : wk K L b v a51 a52 a54 n) : wk K L b (v - 1) a51 a52 a54 n := fun k h1 h2 => h k h1 (by omega)
theorem wk.z : wk K L b 0 a51 a52 a54 n := fun k h1 h2 => absurd h2 (by omega)
theorem wk.push (h : wk K L b v a51 a52 a54 n) (e : ∀ q : Int, q ≠ v → b51 q = a51 q ∧ b52 q = a52 q ∧ b54 q = a54 q) (h1 : 0 ≤ b51 v ∧ b51 v < b ∧ K (b51 v) = 2) (h2 : 0 ≤ b52 v ∧ b52 v ≤ n) (h3 : b54 v ≤ L (b51 v)) : wk K L b (v + 1) b51 b52 b54 n := fun k g1 g2 => by
  by_cases hk : k = v
  · subst hk
    exact ⟨h1, h2, h3⟩
  · obtain ⟨e1, e2, e3⟩ := e k hk
    rw [e1, e2, e3]
    exact h k g1 (by omega)
/-- a port of a node, told by node and number -/
theorem lp.of {j q : Int} (hj : 0 ≤ j) (hb : j < b) (hK : K j ≠ -1) (hq : 0 ≤ q ∧ q < pr (K j)) : lp K b (4 * j + q) := by
  have h3 := pr_le (K j)
  have e1 : (4 * j + q) / 4 = j := by omega
  have e2 : (4 * j + q) % 4 = q := by omega
  refine ⟨by omega, ?_, ?_, ?_⟩
  · rw [e1]; exact hb
  · rw [e1]; exact hK
  · rw [e1, e2]; exact hq.2
end NET
