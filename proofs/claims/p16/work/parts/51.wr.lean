/-! what the walk's rows hold always -/
def wr (A : rf_A) : Prop := ∀ q : Int, (0 ≤ A 43 q ∧ A 43 q ≤ 3) ∧ (0 ≤ A 44 q ∧ A 44 q ≤ 4000) ∧ (0 ≤ A 45 q ∧ A 45 q ≤ 4000) ∧ (0 ≤ A 46 q ∧ A 46 q ≤ 4000 ∧ (1 ≤ q → A 46 q < q)) ∧ (0 ≤ A 47 q ∧ A 47 q ≤ 4000) ∧ (0 ≤ A 49 q ∧ A 49 q ≤ 4000) ∧ (0 ≤ A 60 q ∧ A 60 q ≤ 4000)
section WR
variable {A A' : rf_A} {q v : Int} {l : List Nat}
theorem up2_r {A : rf_A} {k j : Nat} {q v p : Int} (h : j ≠ k) : up2 A k q v j p = A j p := if_neg h
theorem wr.fr (w : wr A) (h : fr2 l A A') (h1 : ∀ k ∈ [43, 44, 45, 46, 47, 49, 60], k ∉ l) : wr A' := fun q => by
  rw [h 43 (h1 43 (by decide)), h 44 (h1 44 (by decide)), h 45 (h1 45 (by decide)), h 46 (h1 46 (by decide)), h 47 (h1 47 (by decide)), h 49 (h1 49 (by decide)), h 60 (h1 60 (by decide))]
  exact w q
theorem wr.u43 (w : wr A) (h : 0 ≤ v ∧ v ≤ 3) : wr (up2 A 43 q v) := fun p => by
  rw [up2_if, up2_r (by decide), up2_r (by decide), up2_r (by decide), up2_r (by decide), up2_r (by decide), up2_r (by decide)]
  have := w p
  split <;> omega
theorem wr.u44 (w : wr A) (h : 0 ≤ v ∧ v ≤ 4000) : wr (up2 A 44 q v) := fun p => by
  rw [up2_if, up2_r (by decide), up2_r (by decide), up2_r (by decide), up2_r (by decide), up2_r (by decide), up2_r (by decide)]
  have := w p
  split <;> omega
theorem wr.u45 (w : wr A) (h : 0 ≤ v ∧ v ≤ 4000) : wr (up2 A 45 q v) := fun p => by
  rw [up2_if, up2_r (by decide), up2_r (by decide), up2_r (by decide), up2_r (by decide), up2_r (by decide), up2_r (by decide)]
  have := w p
  split <;> omega
theorem wr.u46 (w : wr A) (h : 0 ≤ v ∧ v ≤ 4000 ∧ v < q) : wr (up2 A 46 q v) := fun p => by
  rw [up2_if, up2_r (by decide), up2_r (by decide), up2_r (by decide), up2_r (by decide), up2_r (by decide), up2_r (by decide)]
  have := w p
  split <;> omega
theorem wr.u47 (w : wr A) (h : 0 ≤ v ∧ v ≤ 4000) : wr (up2 A 47 q v) := fun p => by
  rw [up2_if, up2_r (by decide), up2_r (by decide), up2_r (by decide), up2_r (by decide), up2_r (by decide), up2_r (by decide)]
  have := w p
  split <;> omega
theorem wr.u49 (w : wr A) (h : 0 ≤ v ∧ v ≤ 4000) : wr (up2 A 49 q v) := fun p => by
  rw [up2_if, up2_r (by decide), up2_r (by decide), up2_r (by decide), up2_r (by decide), up2_r (by decide), up2_r (by decide)]
  have := w p
  split <;> omega
theorem wr.u60 (w : wr A) (h : 0 ≤ v ∧ v ≤ 4000) : wr (up2 A 60 q v) := fun p => by
  rw [up2_if, up2_r (by decide), up2_r (by decide), up2_r (by decide), up2_r (by decide), up2_r (by decide), up2_r (by decide)]
  have := w p
  split <;> omega
end WR
