/-! PORTS AND WIRES: what a step does with them -/
def pn (P : Int → Prop) (w lm : Int → Int) : Prop := ∀ p : Int, P p → P (w p) ∧ w (w p) = p ∧ w p ≠ p ∧ lm (w p) = lm p
section PN
variable {P P' : Int → Prop} {w w' lm lm' : Int → Int} {p q r s : Int}
/-- a new port in place of an old one -/
theorem pn.place (h : pn P w lm) (hp : P p) (hr : ¬ P r) (h1 : w' r = w p) (h2 : w' (w p) = r) (h3 : ∀ x : Int, x ≠ r → x ≠ w p → w' x = w x) (l1 : lm' r = lm p) (l2 : ∀ x : Int, P x → lm' x = lm x) : pn (fun x => (P x ∧ x ≠ p) ∨ x = r) w' lm' := by
  obtain ⟨a1, a2, a3, a4⟩ := h p hp
  have a5 : w p ≠ r := fun e => hr (e ▸ a1)
  intro x hx
  rcases hx with ⟨x1, x2⟩ | x1
  · have x3 : x ≠ r := fun e => hr (e ▸ x1)
    obtain ⟨b1, b2, b3, b4⟩ := h x x1
    by_cases e : x = w p
    · subst e
      refine ⟨Or.inr h2, ?_, ?_, ?_⟩
      · rw [h2, h1]
      · rw [h2]
        exact fun e => a5 e.symm
      · rw [h2, l1, l2 _ a1, a4]
    · have c1 : w x ≠ p := fun e2 => e (by rw [← e2, b2])
      have c2 : w x ≠ w p := fun e2 => x2 (by rw [← b2, e2, a2])
      have c3 : w x ≠ r := fun e2 => hr (e2 ▸ b1)
      rw [h3 x x3 e]
      refine ⟨Or.inl ⟨b1, c1⟩, ?_, b3, ?_⟩
      · rw [h3 (w x) c3 c2, b2]
      · rw [l2 _ b1, l2 _ x1, b4]
  · subst x1
    rw [h1]
    exact ⟨Or.inl ⟨a1, a3⟩, h2, a5, by rw [l1, l2 _ a1, a4]⟩
/-- two ports go, and what they led to is wired -/
theorem pn.join (h : pn P w lm) (hp : P p) (hq : P q) (hpq : p ≠ q) (hl : lm p = lm q) (h1 : w' (w p) = w q) (h2 : w' (w q) = w p) (h3 : ∀ x : Int, x ≠ w p → x ≠ w q → w' x = w x) : pn (fun x => P x ∧ x ≠ p ∧ x ≠ q) w' lm := by
  obtain ⟨a1, a2, a3, a4⟩ := h p hp
  obtain ⟨b1, b2, b3, b4⟩ := h q hq
  have d1 : w p ≠ w q := fun e => hpq (by rw [← a2, e, b2])
  intro x hx
  obtain ⟨x1, x2, x3⟩ := hx
  obtain ⟨c1, c2, c3, c4⟩ := h x x1
  by_cases e1 : x = w p
  · subst e1
    rw [h1]
    refine ⟨⟨b1, fun e => x3 (by rw [← e, b2]), b3⟩, h2, fun e => d1 e.symm, by rw [a4, b4, hl]⟩
  · by_cases e2 : x = w q
    · subst e2
      rw [h2]
      refine ⟨⟨a1, a3, fun e => x2 (by rw [← e, a2])⟩, h1, d1, by rw [a4, b4, hl]⟩
    · rw [h3 x e1 e2]
      have f1 : w x ≠ p := fun e => e1 (by rw [← e, c2])
      have f2 : w x ≠ q := fun e => e2 (by rw [← e, c2])
      have f3 : w x ≠ w p := fun e => x2 (by rw [← c2, e, a2])
      have f4 : w x ≠ w q := fun e => x3 (by rw [← c2, e, b2])
      exact ⟨⟨c1, f1, f2⟩, by rw [h3 _ f3 f4, c2], c3, c4⟩
/-- two new ports, wired to each other -/
theorem pn.pair (h : pn P w lm) (hr : ¬ P r) (hs : ¬ P s) (hrs : r ≠ s) (h1 : w' r = s) (h2 : w' s = r) (h3 : ∀ x : Int, x ≠ r → x ≠ s → w' x = w x) (l1 : lm' r = lm' s) (l2 : ∀ x : Int, P x → lm' x = lm x) : pn (fun x => P x ∨ x = r ∨ x = s) w' lm' := by
  intro x hx
  rcases hx with x1 | x1 | x1
  · obtain ⟨c1, c2, c3, c4⟩ := h x x1
    have f1 : ∀ y : Int, P y → y ≠ r ∧ y ≠ s := fun y hy => ⟨fun e => hr (e ▸ hy), fun e => hs (e ▸ hy)⟩
    rw [h3 x (f1 x x1).1 (f1 x x1).2]
    exact ⟨Or.inl c1, by rw [h3 _ (f1 _ c1).1 (f1 _ c1).2, c2], c3, by rw [l2 _ c1, l2 _ x1, c4]⟩
  · subst x1
    rw [h1]
    exact ⟨Or.inr (Or.inr rfl), h2, fun e => hrs e.symm, l1.symm⟩
  · subst x1
    rw [h2]
    exact ⟨Or.inr (Or.inl rfl), h1, hrs, l1⟩
/-- two ports that are wired to each other go -/
theorem pn.drop (h : pn P w lm) (hp : P p) (hq : w p = q) : pn (fun x => P x ∧ x ≠ p ∧ x ≠ q) w lm := by
  obtain ⟨a1, a2, a3, a4⟩ := h p hp
  rw [hq] at a2
  intro x hx
  obtain ⟨x1, x2, x3⟩ := hx
  obtain ⟨c1, c2, c3, c4⟩ := h x x1
  exact ⟨⟨c1, fun e => x3 (by rw [← c2, e, hq]), fun e => x2 (by rw [← c2, e, a2])⟩, c2, c3, c4⟩
theorem pn.iff (h : pn P w lm) (e : ∀ x : Int, P' x ↔ P x) : pn P' w lm := fun x hx => by
  obtain ⟨c1, c2, c3, c4⟩ := h x ((e x).mp hx)
  exact ⟨(e _).mpr c1, c2, c3, c4⟩
theorem pn.eq (h : pn P w lm) (e : ∀ x : Int, P x → w' x = w x) (l : ∀ x : Int, P x → lm' x = lm x) : pn P w' lm' := fun x hx => by
  obtain ⟨c1, c2, c3, c4⟩ := h x hx
  rw [e x hx]
  exact ⟨c1, by rw [e _ c1, c2], c3, by rw [l _ c1, l _ hx, c4]⟩
end PN
