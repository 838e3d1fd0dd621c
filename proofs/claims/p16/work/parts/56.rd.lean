section RD
variable {A : rf_A} {i z v w c : Int} {n : Nat}
/-- a part comes behind those that were read -/
theorem rd_fin (hi : i = n) (hz : z = 0) (hw : w = n + 1) (hn : n < 400) (p2 : mk (A 1) n c) (p3 : 0 < c) : up2 (up2 A 1 i v) 2 z w 2 0 = n + 1 ∧ mk (up2 (up2 A 1 i v) 2 z w 1) (n + 1) (c + ow v) ∧ (∀ q : Int, q ≠ 0 → up2 (up2 A 1 i v) 2 z w 2 q = A 2 q) ∧ (∀ q : Int, 400 ≤ q → up2 (up2 A 1 i v) 2 z w 1 q = A 1 q) := by
  have e1 : up2 (up2 A 1 i v) 2 z w 1 = up2 A 1 i v 1 := up2_k (by decide)
  refine ⟨?_, ?_, fun q hq => ?_, fun q hq => ?_⟩
  · rw [up2_if, if_pos hz.symm, hw]
  · rw [e1]
    subst hi
    exact p2.app p3 (fun q hq => up2_ne hq) up2_eq
  · rw [up2_if, if_neg (by rw [hz]; exact hq), up2_r (by decide)]
  · rw [e1, up2_ne (by omega)]
end RD
