/-! a whole net is laid -/
section N0
variable {K L w w' lm e lv : Int → Int} {b b0 f a x r c s n m i k y : Int}
theorem ly_0 (hb : b = 1) (hk : K 0 = 0) (hl : L 0 = 0) : ly K L w (fun _ => 0) b 200 (fun p => p = 0) := by
  subst hb
  have h0 : pr 0 = 1 := by decide
  have hp : ∀ p : Int, lp K 1 p ↔ p = 0 := by
    intro p
    constructor
    · rintro ⟨h1, h2, h3, h4⟩
      rw [show p / 4 = 0 by omega, hk, h0] at h4
      omega
    · intro z
      subst z
      exact ⟨by omega, by omega, by rw [show (0 : Int) / 4 = 0 by decide, hk]; omega, by rw [show (0 : Int) / 4 = 0 by decide, hk, h0]; omega⟩
  refine ⟨⟨hk, hl, by omega⟩, fun j j1 j2 => ?_, fun j j1 j2 => ?_, fun p hp2 => absurd ((hp p).mp hp2.1) hp2.2, fun p z => (hp p).mpr z⟩
  · rw [show j = 0 by omega, hk, hl]
    exact ⟨by omega, by omega, by omega, by omega, fun _ => rfl⟩
  · rw [show j = 0 by omega, hk, hl]
    exact ⟨fun _ => rfl, fun z => by omega, fun z => by omega, fun z => by omega, fun z => by omega⟩
theorem net_0 (h : lw K L w lm b 200 (fun p => p = 0 ∨ p = x) e (fr f a) lv b0) (ha : a = 0) (hx : 0 < x) (hl : lm 0 = lm x) (hr : r = 0) (w1a : w' x = r) (w1b : r ≠ x → w' r = x) (w1c : ∀ y : Int, y ≠ r → y ≠ x → w' y = w y) (hb : b ≤ 400) (hc : c = b) : nt K L w' b 200 c := by
  subst hr hc
  have g := (h.wireG (r := 0) (s := x) (Or.inl rfl) (Or.inr rfl) (by omega) hl w1a w1b w1c).1
  have hM : ∀ p, ¬ sm (fun p => (p = 0 ∨ p = x) ∧ p ≠ 0 ∧ p ≠ x) e (fr f a) p := by
    rintro p (z | ⟨q, z1, -⟩)
    · rcases z.1 with y | y
      · exact z.2.1 y
      · exact z.2.2 y
    · unfold fr at z1
      omega
  obtain ⟨⟨g1, g2, g3⟩, g4, g5, g6, -⟩ := g
  refine ⟨⟨g3, hb, g1, g2, fun j j1 j2 => ?_⟩, ⟨lm, fun j j1 j2 _ => g5 j j1 j2, pn.iff g6 (fun p => ⟨fun z => ⟨z, hM p⟩, fun z => z.1⟩)⟩, ?_, hb⟩
  · have := g4 j j1 j2
    exact ⟨by omega, this.2.1, this.2.2.1, this.2.2.2.1, this.2.2.2.2⟩
  · have h5 := cn_all (K := K) c.toNat (fun j j1 j2 => by have := (g4 j j1 (by omega)).1; omega)
    omega
end N0
