/-! an active wire; the walk's first look at one -/
def act (K w : Int → Int) (b n m : Int) : Prop := 0 < n ∧ n < b ∧ 0 < m ∧ m < b ∧ K n ≠ -1 ∧ K m ≠ -1 ∧ K n ≠ 0 ∧ K m ≠ 0 ∧ w (4 * n) = 4 * m ∧ w (4 * m) = 4 * n ∧ n ≠ m
section ACT
variable {K L w lm : Int → Int} {b T f t x : Int}
theorem act_of (h1 : nn K L b T) (h2 : nw K L w lm b) (hf : lp K b f) (ht : t = w f) (f4 : f % 4 = 0) (f0 : f / 4 ≠ 0) (t4 : t % 4 = 0) (hk : K (t / 4) ≠ 0) (hx : x = f / 4 ∨ x = t / 4) : ∃ m, act K w b x m := by
  obtain ⟨a1, a2, a3, a4⟩ := h2.2 f hf
  rw [← ht] at a1 a2 a3 a4
  obtain ⟨s1, s2, s3, s4⟩ := hf
  obtain ⟨r1, r2, r3, r4⟩ := a1
  have e1 : 4 * (f / 4) = f := by omega
  have e2 : 4 * (t / 4) = t := by omega
  have n1 := (h1.2.2.2.2 (f / 4) (by omega) s2).2.2.2.2
  have n3 : t / 4 ≠ 0 := fun z => hk (by rw [z]; exact h1.2.2.1)
  have n4 : K (f / 4) ≠ 0 := fun z => f0 (n1 z)
  rcases hx with rfl | rfl
  · exact ⟨t / 4, by omega, s2, by omega, r2, s3, r3, n4, hk, by rw [e1, e2]; exact ht.symm, by rw [e1, e2]; exact a2, by omega⟩
  · exact ⟨f / 4, by omega, r2, by omega, s2, r3, s3, hk, n4, by rw [e1, e2]; exact a2, by rw [e1, e2]; exact ht.symm, by omega⟩
end ACT
section WLK
variable {K L w lm a51 a52 a54 : Int → Int} {b T x f50 f55 f59 : Int} {A' : rf_A} {n : Nat}
theorem root_ok (h1 : nn K L b T) (h2 : nw K L w lm b) : lp K b (0 : Int32).toInt ∧ (0 : Int32).toInt ≤ lm (0 : Int32).toInt := by
  rw [show (0 : Int32).toInt = 0 by decide]
  have hb : 0 < b := by have := h1.1; omega
  have hK := h1.2.2.1
  have h3 := lp.of (K := K) (b := b) (j := 0) (q := 0) (by omega) hb (by rw [hK]; decide) ⟨by omega, by rw [hK]; decide⟩
  have h4 := (h2.1 0 (by omega) hb (by rw [hK]; decide)).1 hK
  rw [show (4 : Int) * 0 = 0 by omega] at h4
  rw [show (4 : Int) * 0 + 0 = 0 by omega] at h3
  exact ⟨h3, by omega⟩
theorem wl_wf {t : Int → Int} {P : Prop} (h : x = -1 ∨ (x = -2 ∧ wf t 0 n) ∨ ((lp K b x ∧ f50 ≤ lm x) ∧ P)) (hx : x = -2) : wf t 0 n := by
  rcases h with e | e | e
  · omega
  · exact e.2
  · have := e.1.1.1
    omega
theorem out_sum (h : (x = -1 ∧ 0 ≤ A' 2 0 ∧ A' 2 0 ≤ 400) ∨ (x = -2 ∧ ∃ n' : Nat, n' ≤ 400 ∧ A' 2 0 = n' ∧ wf (A' 1) 0 n') ∨ (∃ n' : Nat, (lp K b x ∧ f50 ≤ lm x) ∧ (A' 2 0 = n' ∧ n' ≤ 400) ∧ (0 ≤ f55 ∧ f55 ≤ n' ∧ 0 ≤ f59 ∧ f59 ≤ n') ∧ mk (A' 1) n' (f55 + 1) ∧ wk K L b f55 a51 a52 a54 n')) : ∃ n' : Nat, (A' 2 0 = n' ∧ n' ≤ 400) ∧ (x = -1 ∨ (x = -2 ∧ wf (A' 1) 0 n') ∨ ((lp K b x ∧ f50 ≤ lm x) ∧ (0 ≤ f55 ∧ f55 ≤ n' ∧ 0 ≤ f59 ∧ f59 ≤ n') ∧ mk (A' 1) n' (f55 + 1) ∧ wk K L b f55 a51 a52 a54 n')) := by
  rcases h with e | ⟨e, n', e1, e2, e3⟩ | ⟨n', e1, e2, e3, e4, e5⟩
  · exact ⟨(A' 2 0).toNat, by omega, Or.inl e.1⟩
  · exact ⟨n', ⟨e2, e1⟩, Or.inr (Or.inl ⟨e, e3⟩)⟩
  · exact ⟨n', e2, Or.inr (Or.inr ⟨e1, e3, e4, e5⟩)⟩
end WLK
