/-! both nodes of a step are aside -/
def ee (K : Int → Int) (x : Int) : Prop := (x / 4 = 8000 ∧ x % 4 < pr (K 8000)) ∨ (x / 4 = 8001 ∧ x % 4 < pr (K 8001))
def ws (K L w lm : Int → Int) (b T c : Int) : Prop := sn K L w lm b T (ee K) (fun _ => False) c ∧ w 32000 = 32004 ∧ lm 32000 = lm 32004 ∧ tl (K 8000) (L 8000) (lm 32000) (lm 32001) (lm 32002) ∧ tl (K 8001) (L 8001) (lm 32004) (lm 32005) (lm 32006) ∧ (1 ≤ K 8000 ∧ K 8000 ≤ 6 ∧ 1 ≤ K 8001 ∧ K 8001 ≤ 6) ∧ (0 ≤ L 8000 ∧ L 8000 + 1 ≤ T ∧ 0 ≤ L 8001 ∧ L 8001 + 1 ≤ T)
/-- joined so far -/
def ej (K : Int → Int) (i x : Int) : Prop := ee K x ∧ (x % 4 = 0 ∨ i ≤ x % 4)
section WS
variable {K K1 K2 L L1 L2 w w1 w2 w' lm : Int → Int} {b T c c1 c2 n o s1 s2 i p q g : Int}
theorem ws_of (h1 : nn K L b T) (h2 : nw K L w lm b) (ha : act K w b n o) (e1 : s1 = 8000) (e2 : s2 = 8001)
  (a1 : K1 s1 = K n ∧ L1 s1 = L n) (a3 : ∀ y : Int, y ≠ n → y ≠ s1 → K1 y = K y) (a4 : ∀ y : Int, y ≠ s1 → L1 y = L y) (a6 : sn K1 L1 w1 (la lm n s1) b (T + 1) (fun x => False ∨ (x / 4 = s1 ∧ x % 4 < pr (K n))) (fun _ => False) c1) (a7 : w (4 * n) / 4 ≠ n → w1 (4 * s1) = w (4 * n))
  (b1 : K2 s2 = K1 o ∧ L2 s2 = L1 o) (b3 : ∀ y : Int, y ≠ o → y ≠ s2 → K2 y = K1 y) (b4 : ∀ y : Int, y ≠ s2 → L2 y = L1 y) (b6 : sn K2 L2 w2 (la (la lm n s1) o s2) b (T + 1) (fun x => (False ∨ (x / 4 = s1 ∧ x % 4 < pr (K n))) ∨ (x / 4 = s2 ∧ x % 4 < pr (K1 o))) (fun _ => False) c2) (b7 : w1 (4 * o) / 4 ≠ o → w2 (4 * s2) = w1 (4 * o)) : ws K2 L2 w2 (la (la lm n s1) o s2) b (T + 1) c2 := by
  subst e1 e2
  obtain ⟨c01, c02, c03, c04, c05, c06, c07, c08, c09, c10, c11⟩ := ha
  have hb := h1.2.1
  have g1 : K2 8000 = K n := by rw [b3 8000 (by omega) (by omega)]; exact a1.1
  have g2 : L2 8000 = L n := by rw [b4 8000 (by omega)]; exact a1.2
  have g3 : K1 o = K o := a3 o (fun z => c11 z.symm) (by omega)
  have g4 : L1 o = L o := a4 o (by omega)
  have p1 := pr_le (K n)
  have p2 := pr_le (K1 o)
  have v1 : w1 32000 = 4 * o := by
    have := a7 (by omega)
    rw [show (4 : Int) * 8000 = 32000 by omega] at this
    omega
  have v2 : w1 (4 * o) = 32000 := by
    have := (a6.2.2.1 32000 (Or.inr (Or.inr ⟨by omega, by omega⟩))).2.1
    rw [v1] at this
    exact this
  have v3 : w2 32004 = 32000 := by
    have := b7 (by omega)
    rw [show (4 : Int) * 8001 = 32004 by omega] at this
    omega
  have v4 : w2 32000 = 32004 := by
    have := (b6.2.2.1 32004 (Or.inr (Or.inr ⟨by omega, by omega⟩))).2.1
    rw [v3] at this
    exact this
  have l1 : ∀ j : Int, 0 ≤ j → j < 4 → la (la lm n 8000) o 8001 (32000 + j) = lm (4 * n + j) := by
    intro j j1 j2
    unfold la
    rw [if_neg (by omega), if_pos (by omega)]
    congr 1
    omega
  have l2 : ∀ j : Int, 0 ≤ j → j < 4 → la (la lm n 8000) o 8001 (32004 + j) = lm (4 * o + j) := by
    intro j j1 j2
    unfold la
    rw [if_pos (by omega), if_neg (by omega)]
    congr 1
    omega
  have t1 := h2.1 n (by omega) (by omega) c05
  have t2 := h2.1 o (by omega) (by omega) c06
  have t3 : lm (4 * o) = lm (4 * n) := by
    have := (h2.2 (4 * n) (by
      have h := lp.of (K := K) (b := b) (j := n) (q := 0) (by omega) c02 c05 ⟨by omega, by omega⟩
      rw [show 4 * n + 0 = 4 * n by omega] at h
      exact h)).2.2.2
    rw [c09] at this
    exact this
  have m0 := l1 0 (by omega) (by omega)
  have m1 := l1 1 (by omega) (by omega)
  have m2 := l1 2 (by omega) (by omega)
  have m4 := l2 0 (by omega) (by omega)
  have m5 := l2 1 (by omega) (by omega)
  have m6 := l2 2 (by omega) (by omega)
  rw [show (32000 : Int) + 0 = 32000 by omega, show 4 * n + 0 = 4 * n by omega] at m0
  rw [show (32000 : Int) + 1 = 32001 by omega] at m1
  rw [show (32000 : Int) + 2 = 32002 by omega] at m2
  rw [show (32004 : Int) + 0 = 32004 by omega, show 4 * o + 0 = 4 * o by omega] at m4
  rw [show (32004 : Int) + 1 = 32005 by omega] at m5
  rw [show (32004 : Int) + 2 = 32006 by omega] at m6
  have n1 := h1.2.2.2.2 n (by omega) (by omega)
  have n2 := h1.2.2.2.2 o (by omega) (by omega)
  refine ⟨b6.iff (fun x => ?_) (fun x => Iff.rfl), v4, by rw [m0, m4, t3], ?_, ?_, ?_, ?_⟩
  · unfold ee
    rw [g1, b1.1]
    constructor
    · rintro (e | e)
      · exact Or.inl (Or.inr e)
      · exact Or.inr e
    · rintro ((e | e) | e)
      · exact e.elim
      · exact Or.inl e
      · exact Or.inr e
  · rw [g1, g2, m0, m1, m2]
    exact t1
  · rw [b1.1, b1.2, g3, g4, m4, m5, m6]
    exact t2
  · rw [g1, b1.1, g3]
    omega
  · rw [g2, b1.2, g4]
    omega
theorem ws.head (h : ws K L w lm b T c) : ∀ x : Int, (ee K x ∧ x % 4 = 0) ↔ (x = 32000 ∨ x = 32004) := by
  intro x
  have p1 := pr_le (K 8000)
  have p2 := pr_le (K 8001)
  unfold ee
  omega
/-- where two are alike the levels of their wires are -/
theorem ws.lev (h : ws K L w lm b T c) (hl : L 8000 = L 8001) (hk : (K 8000 = 1 ∧ K 8001 = 2) ∨ (K 8000 = 2 ∧ K 8001 = 1) ∨ (K 8000 = K 8001 ∧ 3 ≤ K 8000 ∧ K 8000 ≤ 5)) : pr (K 8000) = pr (K 8001) ∧ ∀ i : Int, 1 ≤ i → i < pr (K 8000) → lm (32000 + i) = lm (32004 + i) := by
  obtain ⟨h1, h2, h3, ⟨-, s2, s3, s4, s5⟩, ⟨-, t2, t3, t4, t5⟩, h6, h7⟩ := h
  rcases hk with e | e | e
  · have q1 : pr (K 8000) = 3 := by rw [e.1]; decide
    have q2 : pr (K 8001) = 3 := by rw [e.2]; decide
    refine ⟨by omega, fun i i1 i2 => ?_⟩
    have u1 := s2 (Or.inl e.1)
    have u2 := t2 (Or.inr e.2)
    have i3 : i = 1 ∨ i = 2 := by omega
    rcases i3 with e | e
    · rw [e, show (32000 : Int) + 1 = 32001 by omega, show (32004 : Int) + 1 = 32005 by omega]
      omega
    · rw [e, show (32000 : Int) + 2 = 32002 by omega, show (32004 : Int) + 2 = 32006 by omega]
      omega
  · have q1 : pr (K 8000) = 3 := by rw [e.1]; decide
    have q2 : pr (K 8001) = 3 := by rw [e.2]; decide
    refine ⟨by omega, fun i i1 i2 => ?_⟩
    have u1 := s2 (Or.inr e.1)
    have u2 := t2 (Or.inl e.2)
    have i3 : i = 1 ∨ i = 2 := by omega
    rcases i3 with e | e
    · rw [e, show (32000 : Int) + 1 = 32001 by omega, show (32004 : Int) + 1 = 32005 by omega]
      omega
    · rw [e, show (32000 : Int) + 2 = 32002 by omega, show (32004 : Int) + 2 = 32006 by omega]
      omega
  · refine ⟨by rw [e.1], fun i i1 i2 => ?_⟩
    have q1 := pr_25 _ e.2.1 e.2.2
    have i3 : i = 1 ∨ i = 2 := by omega
    rcases i3 with z | z
    · rw [z, show (32000 : Int) + 1 = 32001 by omega, show (32004 : Int) + 1 = 32005 by omega]
      have i4 : K 8000 = 3 ∨ K 8000 = 4 ∨ K 8000 = 5 := by omega
      rcases i4 with y | y | y
      · have := s3 y
        have := t3 (by omega)
        omega
      · have := s4 y
        have := t4 (by omega)
        omega
      · have := s5 y
        have := t5 (by omega)
        omega
    · rw [z, show (32000 : Int) + 2 = 32002 by omega, show (32004 : Int) + 2 = 32006 by omega]
      have y : K 8000 = 3 := by omega
      have := s3 y
      have := t3 (by omega)
      omega
theorem ej_in (hk : pr (K 8000) = pr (K 8001)) (hi : 1 ≤ i ∧ i < pr (K 8000)) : ej K i (32000 + i) ∧ ej K i (32004 + i) := by
  have p1 := pr_le (K 8000)
  exact ⟨⟨Or.inl ⟨by omega, by omega⟩, Or.inr (by omega)⟩, ⟨Or.inr ⟨by omega, by omega⟩, Or.inr (by omega)⟩⟩
/-- a pair of ports is joined -/
theorem ej_step (h : sn K L w lm b T (ej K i) (fun _ => False) c) (hw : w 32000 = 32004) (hk : pr (K 8000) = pr (K 8001)) (hi : 1 ≤ i ∧ i < pr (K 8000)) (hl : lm (32000 + i) = lm (32004 + i)) (hp : p = 32000 + i) (hq : q = 32004 + i) (h1 : w' (w q) = w p) (h2 : w p ≠ w q → w' (w p) = w q) (h3 : ∀ x : Int, x ≠ w p → x ≠ w q → w' x = w x) : sn K L w' lm b T (ej K (i + 1)) (fun _ => False) c ∧ w' 32000 = 32004 := by
  have p1 := pr_le (K 8000)
  obtain ⟨e1, e2⟩ := ej_in hk hi
  rw [← hp] at e1
  rw [← hq] at e2
  have h4 := h.join e1 e2 (by omega) (by rw [hp, hq]; exact hl) h1 h2 h3
  have k1 := h.keep e1 hw (by omega)
  have k2 := h.keep e2 hw (by omega)
  refine ⟨h4.iff (fun x => ?_) (fun x => Iff.rfl), ?_⟩
  · constructor
    · rintro ⟨x1, x2⟩
      exact ⟨⟨x1, by omega⟩, by omega, by omega⟩
    · rintro ⟨⟨x1, x2⟩, x3, x4⟩
      refine ⟨x1, ?_⟩
      unfold ee at x1
      omega
  · rw [h3 32000 (fun z => k1 z.symm) (fun z => k2 z.symm)]
    exact hw
theorem ej_1 (h : ws K L w lm b T c) : sn K L w lm b T (ej K 1) (fun _ => False) c := h.1.iff (fun x => ⟨fun e => e.1, fun e => ⟨e, by omega⟩⟩) (fun x => Iff.rfl)
theorem ej_end (h : sn K L w lm b T (ej K i) (fun _ => False) c) (hw : w 32000 = 32004) (hk : pr (K 8000) = pr (K 8001)) (hi : pr (K 8000) ≤ i) : nn K L b T ∧ nw K L w lm b ∧ c = cn K b.toNat := by
  have p1 := pr_le (K 8000)
  have p2 := pr_le (K 8001)
  refine h.done (p := 32000) (q := 32004) (fun x => ?_) (fun x z => z) hw
  unfold ej ee
  omega
/-- the other one of an eraser has gone -/
theorem er_end {E : Int → Prop} (h : sn K L w lm b T (fun x => E x ∧ ¬ (x / 4 = g ∧ 0 < x % 4 ∧ x % 4 < pr (K1 g))) (fun _ => False) c) (hw : w 32000 = 32004) (hE : ∀ x : Int, E x ↔ ee K1 x) (hg : (g = 8001 ∧ K1 8000 = 6) ∨ (g = 8000 ∧ K1 8001 = 6)) : nn K L b T ∧ nw K L w lm b ∧ c = cn K b.toNat := by
  have p1 := pr_le (K1 8000)
  have p2 := pr_le (K1 8001)
  have p6 : pr 6 = 1 := by decide
  refine h.done (p := 32000) (q := 32004) (fun x => ?_) (fun x z => z) hw
  rw [hE]
  unfold ee
  rcases hg with e | e
  · rw [e.1, e.2, p6]
    omega
  · rw [e.1, e.2, p6]
    omega
theorem ee_end {E : Int → Prop} (h : sn K L w lm b T (fun x => E x ∧ x % 4 = 0) (fun _ => False) c) (hw : w 32000 = 32004) (hE : ∀ x : Int, E x ↔ ee K1 x) : nn K L b T ∧ nw K L w lm b ∧ c = cn K b.toNat := by
  have p1 := pr_le (K1 8000)
  have p2 := pr_le (K1 8001)
  refine h.done (p := 32000) (q := 32004) (fun x => ?_) (fun x z => z) hw
  rw [hE]
  unfold ee
  omega
theorem e6_end (h : ws K L w lm b T c) (h1 : K 8000 = 6) (h2 : K 8001 = 6) : nn K L b T ∧ nw K L w lm b ∧ c = cn K b.toNat := by
  have p6 : pr 6 = 1 := by decide
  refine h.1.done (p := 32000) (q := 32004) (fun x => ?_) (fun x z => z) h.2.1
  unfold ee
  rw [h1, h2, p6]
  omega
end WS
