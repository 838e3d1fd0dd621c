/-! an active wire; the walk's first look at one -/
def act (K w : Int → Int) (b n m : Int) : Prop := 0 < n ∧ n < b ∧ 0 < m ∧ m < b ∧ K n ≠ -1 ∧ K m ≠ -1 ∧ K n ≠ 0 ∧ K m ≠ 0 ∧ w (4 * n) = 4 * m ∧ w (4 * m) = 4 * n ∧ n ≠ m
section ACT
variable {K L w lm : Int → Int} {b T f t x : Int}
theorem act_of (h1 : nn K L b T) (h2 : nw K L w lm b) (hf : lp K b f) (ht : t = w f) (f4 : f % 4 = 0) (f0 : f / 4 ≠ 0) (t4 : t % 4 = 0) (hk : K (t / 4) ≠ 0) (hx : x = f / 4 ∨ x = t / 4) : ∃ m, act K w b x m := by
  obtain ⟨a1, a2, a3, a4⟩ := h2.2 f hf
  rw [← ht] at a1 a2 a3 a4
  obtain ⟨s1, s2, s3, s4⟩ := hf
  obtain ⟨r1, r2, r3, r4⟩ := a1
  have e1 : 4 * (f / 4) = f := by omega
  have e2 : 4 * (t / 4) = t := by omega
  have n1 := (h1.2.2.2.2 (f / 4) (by omega) s2).2.2.2.2
  have n3 : t / 4 ≠ 0 := fun z => hk (by rw [z]; exact h1.2.2.1)
  have n4 : K (f / 4) ≠ 0 := fun z => f0 (n1 z)
  rcases hx with rfl | rfl
  · exact ⟨t / 4, by omega, s2, by omega, r2, s3, r3, n4, hk, by rw [e1, e2]; exact ht.symm, by rw [e1, e2]; exact a2, by omega⟩
  · exact ⟨f / 4, by omega, r2, by omega, s2, r3, s3, hk, n4, by rw [e1, e2]; exact a2, by rw [e1, e2]; exact ht.symm, by omega⟩
end ACT
