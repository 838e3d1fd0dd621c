/-! steps of the laying, each as a whole -/
section LZ
variable {K K' L L' w w' w1 w2 lm e e' lv lv' : Int → Int} {b b' b0 T k l m r s q0 r0 x t f a v t1 : Int} {gM M G G' S S' : Int → Prop}
theorem tl_12 {k l : Int} (h : k = 1 ∨ k = 2) : tl k l l l (l + 1) := ⟨fun z => by omega, fun _ => by omega, fun z => by omega, fun z => by omega, fun z => by omega⟩
theorem tl_4 {l m n : Int} (h : l < m) : tl 4 l m (m + 1) n := ⟨fun z => by omega, fun z => by omega, fun z => by omega, fun _ => by omega, fun z => by omega⟩
theorem tl_3 {l m : Int} (h : l < m) : tl 3 l m m m := ⟨fun z => by omega, fun z => by omega, fun _ => by omega, fun z => by omega, fun z => by omega⟩
theorem tl_5 {l m n : Int} (h : l ≤ m) : tl 5 l (m + 1) m n := ⟨fun z => by omega, fun z => by omega, fun z => by omega, fun z => by omega, fun _ => by omega⟩
theorem ly.new (h : ly K L w lm b T M) (hx : 0 ≤ x) (h3 : (x = b ∧ b' = b + 1) ∨ (x < b ∧ K x = -1 ∧ b' = b)) : x = b ∧ b' = b + 1 := by
  rcases h3 with e | e
  · exact e
  · have := (h.2.1 x hx e.1).1
    omega
theorem lw.addS (h : lw K L w lm b T G e S lv b0) (h1 : ∀ q : Int, S' q → S q ∨ e q = -1) (h2 : ∀ q : Int, S q → S' q) : lw K L w lm b T G e S' lv b0 := by
  refine ⟨h.1.iff (fun p => ?_), fun q hq hn => ?_⟩
  · constructor
    · rintro (z | ⟨q, z1, z2, z3⟩)
      · exact Or.inl z
      · rcases h1 q z1 with y | y
        · exact Or.inr ⟨q, y, z2, z3⟩
        · exact absurd (z2.symm.trans y) z3
    · rintro (z | ⟨q, z1, z2, z3⟩)
      · exact Or.inl z
      · exact Or.inr ⟨q, h2 q z1, z2, z3⟩
  · have hS := (h1 q hq).resolve_right hn
    obtain ⟨a1, a2, a3, a4, a5⟩ := h.2 q hS hn
    exact ⟨a1, a2, a3, a4, fun q' z1 z2 => a5 q' ((h1 q' z1).resolve_right (by rw [z2]; exact hn)) z2⟩
/-- a variable -/
theorem lz_var (h : ly K L w lm b' T (fun p => gM p ∨ (p / 4 = b ∧ p % 4 < pr 5))) (hM : ∀ p : Int, gM p → p < 4 * b) (hb : 0 ≤ b) (he : e q0 = 4 * b) (hq : fr f a q0) (he2 : ∀ q : Int, fr f a q → q ≠ q0 → e q = -1) (hl : lm (4 * b) = v) (hx : x = 4 * b + 1) : lw K L w lm b' T (fun p => gM p ∨ p = x) e (fr f a) (fun _ => v) b := by
  have h5 : pr 5 = 2 := by decide
  have h0 : lw K L w lm b' T (fun p => gM p ∨ (p / 4 = b ∧ p % 4 < pr 5)) e (fun _ => False) (fun _ => v) b := ⟨h.iff (fun p => ⟨fun z => by
      rcases z with z | ⟨q, z, -⟩
      · exact z
      · exact z.elim, Or.inl⟩), fun q z => z.elim⟩
  have h1 := h0.slotG (p0 := 4 * b) (q0 := q0) (e' := e) (lv' := fun _ => v) (Or.inr ⟨by omega, by omega⟩) (by omega) hb (fun z => z) he (fun _ _ => rfl) hl (fun _ _ => rfl)
  have h2 := h1.addS (S' := fr f a) (fun q hq2 => by
    by_cases z : q = q0
    · exact Or.inl (Or.inr z)
    · exact Or.inr (he2 q hq2 z)) (fun q z => by
    rcases z with z | z
    · exact z.elim
    · rw [z]
      exact hq)
  refine h2.cg (fun p => ?_) (fun q => Iff.rfl) (fun q _ => rfl) (fun q _ _ => rfl)
  have hp := hM p
  by_cases g : gM p
  · have := hp g
    constructor
    · intro _
      exact ⟨Or.inl g, by omega⟩
    · intro _
      exact Or.inl g
  · constructor
    · rintro (z | z)
      · exact absurd z g
      · exact ⟨Or.inr ⟨by omega, by omega⟩, by omega⟩
    · rintro ⟨z | z, z2⟩
      · exact absurd z g
      · exact Or.inr (by omega)
/-- a bracket at an end -/
theorem lz_brk (h : lw K L w lm b T G e S lv b0) (hb : b' = b + 1) (h1 : K' b = 4 ∧ L' b = l) (h2 : ∀ y : Int, y ≠ b → K' y = K y ∧ L' y = L y) (hl : 0 ≤ l ∧ l ≤ T) (hq : S q0) (hn : e q0 ≠ -1) (hlv : lv q0 = m + 1) (hlm : l < m) (hr : r = 4 * b + 1) (hs : s = e q0) (w1a : w' s = r) (w1b : r ≠ s → w' r = s) (w1c : ∀ y : Int, y ≠ r → y ≠ s → w' y = w y) (he1 : e' q0 = 4 * b) (he2 : ∀ q : Int, q ≠ q0 → e' q = e q) (hv1 : lv' q0 = m) (hv2 : ∀ q : Int, q ≠ q0 → lv' q = lv q) (hb0 : 0 ≤ b0 ∧ b0 ≤ b) : lw K' L' w' (ln lm b m (m + 1) 0) b' T G e' S lv' b0 := by
  have h4 : pr 4 = 2 := by decide
  have hG : ∀ p, G p → p < 4 * b := fun p z => (h.1.lt (Or.inl z)).2
  have g1 := h.node hb h1 h2 (by decide) hl (tl_4 (n := 0) hlm)
  have g2 := g1.wireE (r := r) (s := s) (q0 := q0) (Or.inr ⟨by omega, by omega⟩) hq hn hs (by rw [hr, ln_1, hlv]) w1a w1b w1c
  have g3 := g2.slotG (p0 := 4 * b) (q0 := q0) (e' := e') (lv' := lv') ⟨Or.inr ⟨by omega, by omega⟩, by omega⟩ (by omega) hb0.1 (fun z => z.2 rfl) he1 he2 (by rw [ln_0, hv1]) hv2
  refine g3.cg (fun p => ?_) (fun q => ?_) (fun q _ => rfl) (fun q _ _ => rfl)
  · have hp := hG p
    by_cases g : G p
    · have := hp g
      constructor
      · intro _
        exact ⟨⟨Or.inl g, by omega⟩, by omega⟩
      · intro _
        exact g
    · constructor
      · exact fun z => absurd z g
      · rintro ⟨⟨z | z, z2⟩, z3⟩
        · exact z
        · omega
  · constructor
    · intro z
      by_cases y : q = q0
      · exact Or.inr y
      · exact Or.inl ⟨z, y⟩
    · rintro (z | z)
      · exact z.1
      · rw [z]
        exact hq
/-- a fan for two ends -/
theorem lz_fan {r2 s2 : Int} (h : lw K L w lm b T G e S lv b0) (hb : b' = b + 1) (h1 : K' b = 3 ∧ L' b = l) (h2 : ∀ y : Int, y ≠ b → K' y = K y ∧ L' y = L y) (hl : 0 ≤ l ∧ l ≤ T) (hq : S q0) (hn : e q0 ≠ -1) (hq2 : S r0) (hn2 : e r0 ≠ -1) (hqr : q0 ≠ r0) (hlv : lv q0 = m ∧ lv r0 = m) (hlm : l < m) (hr : r = 4 * b + 1) (hs : s = e q0) (w1a : w1 s = r) (w1b : r ≠ s → w1 r = s) (w1c : ∀ y : Int, y ≠ r → y ≠ s → w1 y = w y) (hr2 : r2 = 4 * b + 2) (hs2 : s2 = e r0) (w2a : w2 s2 = r2) (w2b : r2 ≠ s2 → w2 r2 = s2) (w2c : ∀ y : Int, y ≠ r2 → y ≠ s2 → w2 y = w1 y) (he1 : e' q0 = 4 * b) (he2 : ∀ q : Int, q ≠ q0 → e' q = e q) (hb0 : 0 ≤ b0 ∧ b0 ≤ b) : lw K' L' w2 (ln lm b m m m) b' T G e' (fun q => S q ∧ q ≠ r0) lv b0 := by
  have h4 : pr 3 = 3 := by decide
  have hG : ∀ p, G p → p < 4 * b := fun p z => (h.1.lt (Or.inl z)).2
  have g1 := h.node hb h1 h2 (by decide) hl (tl_3 hlm)
  have g2 := g1.wireE (r := r) (s := s) (q0 := q0) (Or.inr ⟨by omega, by omega⟩) hq hn hs (by rw [hr, ln_1, hlv.1]) w1a w1b w1c
  have g3 := g2.wireE (r := r2) (s := s2) (q0 := r0) ⟨Or.inr ⟨by omega, by omega⟩, by omega⟩ ⟨hq2, fun z => hqr z.symm⟩ hn2 hs2 (by rw [hr2, ln_2, hlv.2]) w2a w2b w2c
  have g4 := g3.slotG (p0 := 4 * b) (q0 := q0) (e' := e') (lv' := lv) ⟨⟨Or.inr ⟨by omega, by omega⟩, by omega⟩, by omega⟩ (by omega) hb0.1 (fun z => z.1.2 rfl) he1 he2 (by rw [ln_0, hlv.1]) (fun _ _ => rfl)
  refine g4.cg (fun p => ?_) (fun q => ?_) (fun q _ => rfl) (fun q _ _ => rfl)
  · have hp := hG p
    by_cases g : G p
    · have := hp g
      constructor
      · intro _
        exact ⟨⟨⟨Or.inl g, by omega⟩, by omega⟩, by omega⟩
      · intro _
        exact g
    · constructor
      · exact fun z => absurd z g
      · rintro ⟨⟨⟨z | z, z2⟩, z3⟩, z4⟩
        · exact z
        · omega
  · constructor
    · rintro ⟨z, z2⟩
      by_cases y : q = q0
      · exact Or.inr y
      · exact Or.inl ⟨⟨z, y⟩, z2⟩
    · rintro (z | z)
      · exact ⟨z.1.1, z.2⟩
      · rw [z]
        exact ⟨hq, hqr⟩
theorem lz_mv (h : lw K L w lm b T G e S lv b0) (hq : S q0) (hn : e q0 = -1) (hq2 : S r0) (hqr : q0 ≠ r0) (hlv : lv q0 = lv r0) (he1 : e' q0 = e r0) (he2 : ∀ q : Int, q ≠ q0 → e' q = e q) : lw K L w lm b T G e' (fun q => S q ∧ q ≠ r0) lv b0 := by
  have g1 := (h.subS hn).mv (q0 := q0) (r0 := r0) (e' := e') (fun z => z.2 rfl) ⟨hq2, fun z => hqr z.symm⟩ he1 he2 hlv
  refine g1.cg (fun p => Iff.rfl) (fun q => ?_) (fun q _ => rfl) (fun q _ _ => rfl)
  constructor
  · rintro ⟨z, z2⟩
    by_cases y : q = q0
    · exact Or.inr y
    · exact Or.inl ⟨⟨z, y⟩, z2⟩
  · rintro (z | z)
    · exact ⟨z.1.1, z.2⟩
    · rw [z]
      exact ⟨hq, hqr⟩
theorem lz_keep (h : lw K L w lm b T G e S lv b0) (hn : e r0 = -1) (he : ∀ q : Int, e' q = e q) : lw K L w lm b T G e' (fun q => S q ∧ q ≠ r0) lv b0 := (h.subS hn).cg (fun p => Iff.rfl) (fun q => Iff.rfl) (fun q _ => he q) (fun q _ _ => rfl)
/-- a function: its body's top, its variable -/
theorem lz_end (h : lw K L w lm b T (fun p => ((gM p ∨ (p / 4 = t ∧ p % 4 < pr 1)) ∨ p = x) ∧ p ≠ r ∧ p ≠ x) e (fr f (a + 1)) (fun _ => v) b0) (hM : ∀ p : Int, gM p → p < 4 * t) (hx : 4 * t + 4 ≤ x) (hr : r = 4 * t + 1) (ht : 0 ≤ t ∧ t ≤ b0) (ha : 0 ≤ a) (hs : s = e (122 * f + a)) (hn : s ≠ -1) (h5 : m = 4 * t + 2) (hl : lm m = v) (w1a : w' s = m) (w1b : m ≠ s → w' m = s) (w1c : ∀ y : Int, y ≠ m → y ≠ s → w' y = w y) : lw K L w' lm b T (fun p => gM p ∨ p = 4 * t) e (fr f a) (fun _ => v) b0 := by
  have h1 : pr 1 = 3 := by decide
  have g1 := h.wireE (r := m) (s := s) (q0 := 122 * f + a) ⟨Or.inl (Or.inr ⟨by omega, by omega⟩), by omega, by omega⟩ ⟨by omega, by omega⟩ (by rw [← hs]; exact hn) hs hl w1a w1b w1c
  refine g1.cg (fun p => ?_) (fun q => ?_) (fun q _ => rfl) (fun q _ _ => rfl)
  · have hp := hM p
    by_cases g : gM p
    · have := hp g
      constructor
      · intro _
        exact ⟨⟨Or.inl (Or.inl g), by omega, by omega⟩, by omega⟩
      · intro _
        exact Or.inl g
    · constructor
      · rintro (z | z)
        · exact absurd z g
        · exact ⟨⟨Or.inl (Or.inr ⟨by omega, by omega⟩), by omega, by omega⟩, by omega⟩
      · rintro ⟨⟨(z | z) | z, z2, z3⟩, z4⟩
        · exact absurd z g
        · exact Or.inr (by omega)
        · exact absurd z z3
  · unfold fr
    omega
theorem lz_era {b2 b3 : Int} (h : lw K L w lm b2 T (fun p => ((gM p ∨ (p / 4 = t ∧ p % 4 < pr 1)) ∨ p = x) ∧ p ≠ r ∧ p ≠ x) e (fr f (a + 1)) (fun _ => v) b0) (hb : b3 = b2 + 1) (h1 : K' b2 = 6 ∧ L' b2 = 0) (h2 : ∀ y : Int, y ≠ b2 → K' y = K y ∧ L' y = L y) (hT : 0 ≤ T) (hM : ∀ p : Int, gM p → p < 4 * t) (hx : 4 * t + 4 ≤ x ∧ x < 4 * b2) (hr : r = 4 * t + 1) (ht : 0 ≤ t ∧ t ≤ b0 ∧ t < b2) (ha : 0 ≤ a) (hn : e (122 * f + a) = -1) (h5 : m = 4 * t + 2) (hs : s = 4 * b2) (hl : lm m = v) (w1a : w' s = m) (w1b : m ≠ s → w' m = s) (w1c : ∀ y : Int, y ≠ m → y ≠ s → w' y = w y) : lw K' L' w' (ln lm b2 v 0 0) b3 T (fun p => gM p ∨ p = 4 * t) e (fr f a) (fun _ => v) b0 := by
  have h1' : pr 1 = 3 := by decide
  have h6 : pr 6 = 1 := by decide
  have g0 := (h.subS hn).node (k := 6) (l := 0) (l0 := v) (l1 := 0) (l2 := 0) hb h1 h2 (by decide) (by omega) ⟨by omega, by omega, by omega, by omega, by omega⟩
  have g1 := g0.wireG (r := m) (s := s) (Or.inl ⟨Or.inl (Or.inr ⟨by omega, by omega⟩), by omega, by omega⟩) (Or.inr ⟨by omega, by omega⟩) (by omega) (by rw [hs, ln_0, ln_n (by omega)]; exact hl) w1a w1b w1c
  refine g1.cg (fun p => ?_) (fun q => ?_) (fun q _ => rfl) (fun q _ _ => rfl)
  · have hp := hM p
    by_cases g : gM p
    · have := hp g
      constructor
      · intro _
        exact ⟨Or.inl ⟨Or.inl (Or.inl g), by omega, by omega⟩, by omega, by omega⟩
      · intro _
        exact Or.inl g
    · constructor
      · rintro (z | z)
        · exact absurd z g
        · exact ⟨Or.inl ⟨Or.inl (Or.inr ⟨by omega, by omega⟩), by omega, by omega⟩, by omega, by omega⟩
      · rintro ⟨⟨(z | z) | z, z2, z3⟩ | z, z4, z5⟩
        · exact absurd z g
        · exact Or.inr (by omega)
        · exact absurd z z3
        · omega
  · unfold fr
    omega
/-- an application: its function's top -/
theorem lz_app1 (h : lw K L w lm b T (fun p => (gM p ∨ (p / 4 = t ∧ p % 4 < pr 2)) ∨ p = x) e S lv b0) (hM : ∀ p : Int, gM p → p < 4 * t) (hx : 4 * t + 4 ≤ x) (hr : r = 4 * t) (hl : lm r = lm x) (w1a : w' x = r) (w1b : r ≠ x → w' r = x) (w1c : ∀ y : Int, y ≠ r → y ≠ x → w' y = w y) : lw K L w' lm b T (fun p => gM p ∨ p = 4 * t + 1 ∨ p = 4 * t + 2) e S lv b0 := by
  have h1 : pr 2 = 3 := by decide
  have g1 := h.wireG (r := r) (s := x) (Or.inl (Or.inr ⟨by omega, by omega⟩)) (Or.inr rfl) (by omega) hl w1a w1b w1c
  refine g1.cg (fun p => ?_) (fun q => Iff.rfl) (fun q _ => rfl) (fun q _ _ => rfl)
  have hp := hM p
  by_cases g : gM p
  · have := hp g
    constructor
    · intro _
      exact ⟨Or.inl (Or.inl g), by omega, by omega⟩
    · intro _
      exact Or.inl g
  · constructor
    · rintro (z | z)
      · exact absurd z g
      · exact ⟨Or.inl (Or.inr ⟨by omega, by omega⟩), by omega, by omega⟩
    · rintro ⟨(z | z) | z, z2, z3⟩
      · exact absurd z g
      · exact Or.inr (by omega)
      · exact absurd z z3
theorem lz_app2 (h : lw K L w lm b T (fun p => (gM p ∨ p = 4 * t + 1 ∨ p = 4 * t + 2) ∨ p = x) e S lv b0) (hM : ∀ p : Int, gM p → p < 4 * t) (hx : 4 * t + 4 ≤ x) (hr : r = 4 * t + 2) (hl : lm r = lm x) (ht : t1 = 4 * t + 1) (w1a : w' x = r) (w1b : r ≠ x → w' r = x) (w1c : ∀ y : Int, y ≠ r → y ≠ x → w' y = w y) : lw K L w' lm b T (fun p => gM p ∨ p = t1) e S lv b0 := by
  have g1 := h.wireG (r := r) (s := x) (Or.inl (Or.inr (by omega))) (Or.inr rfl) (by omega) hl w1a w1b w1c
  refine g1.cg (fun p => ?_) (fun q => Iff.rfl) (fun q _ => rfl) (fun q _ _ => rfl)
  have hp := hM p
  by_cases g : gM p
  · have := hp g
    constructor
    · intro _
      exact ⟨Or.inl (Or.inl g), by omega, by omega⟩
    · intro _
      exact Or.inl g
  · constructor
    · rintro (z | z)
      · exact absurd z g
      · exact ⟨Or.inl (Or.inr (by omega)), by omega, by omega⟩
    · rintro ⟨(z | z) | z, z2, z3⟩
      · exact absurd z g
      · exact Or.inr (by omega)
      · exact absurd z z3
end LZ
