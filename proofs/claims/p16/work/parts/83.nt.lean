/-! what a step keeps -/
def hd (P : Prop) : Prop := P
def nt (K L w : Int → Int) (b T c : Int) : Prop := nn K L b T ∧ (∃ lm, nw K L w lm b) ∧ c = cn K b.toNat ∧ c ≤ 400
section WK
variable {K K1 K2 L L1 L2 w lm : Int → Int} {b T c n o s1 s2 g : Int}
theorem wk_th (h : ∃ lm', sn K L w lm' b T (fun x => ee K1 x ∧ x % 4 = 0) (fun _ => False) c) (hw : w 32000 = 32004) : ∃ lm', nn K L b T ∧ nw K L w lm' b ∧ c = cn K b.toNat := by
  obtain ⟨l, h⟩ := h
  exact ⟨l, ee_end h hw (fun x => Iff.rfl)⟩
theorem wk_er (h : ∃ lm', sn K L w lm' b T (fun x => ee K1 x ∧ ¬ (x / 4 = g ∧ 0 < x % 4 ∧ x % 4 < pr (K1 g))) (fun _ => False) c) (hw : w 32000 = 32004) (hg : (g = 8001 ∧ K1 8000 = 6) ∨ (g = 8000 ∧ K1 8001 = 6)) : ∃ lm', nn K L b T ∧ nw K L w lm' b ∧ c = cn K b.toNat := by
  obtain ⟨l, h⟩ := h
  exact ⟨l, er_end h hw (fun x => Iff.rfl) hg⟩
theorem ws_k (e1 : s1 = 8000) (e2 : s2 = 8001) (hn : n < 8000) (ho : o < 8000) (hon : o ≠ n) (a1 : K1 s1 = K n ∧ L1 s1 = L n) (a3 : ∀ y : Int, y ≠ n → y ≠ s1 → K1 y = K y) (a4 : ∀ y : Int, y ≠ s1 → L1 y = L y) (b1 : K2 s2 = K1 o ∧ L2 s2 = L1 o) (b3 : ∀ y : Int, y ≠ o → y ≠ s2 → K2 y = K1 y) (b4 : ∀ y : Int, y ≠ s2 → L2 y = L1 y) : K2 8000 = K n ∧ K2 8001 = K o ∧ L2 8000 = L n ∧ L2 8001 = L o := by
  subst e1 e2
  refine ⟨?_, ?_, ?_, ?_⟩
  · rw [b3 8000 (by omega) (by omega)]
    exact a1.1
  · rw [b1.1]
    exact a3 o hon (by omega)
  · rw [b4 8000 (by omega)]
    exact a1.2
  · rw [b1.2]
    exact a4 o (by omega)
theorem ws.tl0 (h : ws K L w lm b T c) (e : s1 = 8000) : tl (K s1) (L s1) (lm (4 * s1)) (lm (4 * s1 + 1)) (lm (4 * s1 + 2)) := by
  rw [show 4 * s1 = 32000 by omega, show (32000 : Int) + 1 = 32001 by omega, show (32000 : Int) + 2 = 32002 by omega, e]
  exact h.2.2.2.1
theorem ws.tl1 (h : ws K L w lm b T c) (e : s2 = 8001) : tl (K s2) (L s2) (lm (4 * s2)) (lm (4 * s2 + 1)) (lm (4 * s2 + 2)) := by
  rw [show 4 * s2 = 32004 by omega, show (32004 : Int) + 1 = 32005 by omega, show (32004 : Int) + 2 = 32006 by omega, e]
  exact h.2.2.2.2.1
theorem ws.l01 (h : ws K L w lm b T c) (e1 : s1 = 8000) (e2 : s2 = 8001) : lm (4 * s1) = lm (4 * s2) := by
  rw [show 4 * s1 = 32000 by omega, show 4 * s2 = 32004 by omega]
  exact h.2.2.1
theorem ee_01 {x : Int} (e1 : s1 = 8000) (e2 : s2 = 8001) : ee K x ↔ ((x / 4 = s1 ∧ x % 4 < pr (K s1)) ∨ (x / 4 = s2 ∧ x % 4 < pr (K s2))) := by
  rw [e1, e2]
  exact Iff.rfl
theorem ee_10 {x : Int} (e1 : s1 = 8000) (e2 : s2 = 8001) : ee K x ↔ ((x / 4 = s2 ∧ x % 4 < pr (K s2)) ∨ (x / 4 = s1 ∧ x % 4 < pr (K s1))) := by
  rw [e1, e2]
  exact Or.comm
theorem ee_p {i : Int} (hg : g = 8000 ∨ g = 8001) (h1 : 0 < i) (h2 : i < pr (K g)) : ee K (4 * g + i) := by
  have h3 := pr_le (K g)
  rcases hg with e | e
  · subst e
    exact Or.inl ⟨by omega, by omega⟩
  · subst e
    exact Or.inr ⟨by omega, by omega⟩
end WK
