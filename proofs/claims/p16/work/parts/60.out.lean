/-! where one goes on from, and the level of that wire -/
section OUT
variable {K L lm : Int → Int} {b x n m s t w : Int}
theorem w_is (hw : w / 4 = n) : w = 4 * n + w % 4 := by omega
theorem out_fan (hn : 0 ≤ n) (hb : n < b) (hK : K n = 3) (hl : L n < lm (4 * n) ∧ lm (4 * n + 1) = lm (4 * n) ∧ lm (4 * n + 2) = lm (4 * n)) (hw : w / 4 = n) (hw4 : w % 4 < 3) (h0 : s ≤ lm w) (h1 : t ≤ s ∨ t ≤ L n + 1) (hx : 4 * n ≤ x ∧ x ≤ 4 * n + 2) : lp K b x ∧ t ≤ lm x := by
  have e : ∀ y, 4 * n ≤ y → y ≤ 4 * n + 2 → lm y = lm (4 * n) := fun y y1 y2 => by
    have : y = 4 * n ∨ y = 4 * n + 1 ∨ y = 4 * n + 2 := by omega
    rcases this with rfl | rfl | rfl
    · rfl
    · exact hl.2.1
    · exact hl.2.2
  have e1 := e w (by omega) (by omega)
  have e2 := e x hx.1 hx.2
  have h3 := lp.of (K := K) (b := b) (j := n) (q := x - 4 * n) hn hb (by omega) ⟨by omega, by rw [pr_1 (by omega)]; omega⟩
  rw [show 4 * n + (x - 4 * n) = x by omega] at h3
  exact ⟨h3, by omega⟩
theorem out_br1 (hn : 0 ≤ n) (hb : n < b) (hK : K n = 4) (hl : L n < lm (4 * n) ∧ lm (4 * n + 1) = lm (4 * n) + 1) (hw : w / 4 = n) (hw4 : w % 4 = 1) (h0 : s ≤ lm w) (h1 : t ≤ s - 1 ∨ t ≤ L n + 1) (hx : x = 4 * n) : lp K b x ∧ t ≤ lm x := by
  have h3 := lp.of (K := K) (b := b) (j := n) (q := 0) hn hb (by omega) ⟨by omega, by rw [pr_2 (by omega)]; omega⟩
  rw [show 4 * n + 0 = x by omega] at h3
  rw [show w = 4 * n + 1 by omega] at h0
  rw [hx] at h3 ⊢
  exact ⟨h3, by omega⟩
theorem out_br0 (hn : 0 ≤ n) (hb : n < b) (hK : K n = 4) (hl : L n < lm (4 * n) ∧ lm (4 * n + 1) = lm (4 * n) + 1) (hw : w / 4 = n) (hw4 : w % 4 = 0) (h0 : s ≤ lm w) (h1 : t ≤ s + 1 ∨ t ≤ L n + 2) (hx : x = 4 * n + 1) : lp K b x ∧ t ≤ lm x := by
  have h3 := lp.of (K := K) (b := b) (j := n) (q := 1) hn hb (by omega) ⟨by omega, by rw [pr_2 (by omega)]; omega⟩
  rw [show w = 4 * n by omega] at h0
  rw [hx]
  exact ⟨h3, by omega⟩
theorem out_cu1 (hn : 0 ≤ n) (hb : n < b) (hK : K n = 5) (hl : L n ≤ lm (4 * n + 1) ∧ lm (4 * n) = lm (4 * n + 1) + 1) (hw : w / 4 = n) (hw4 : w % 4 = 1) (h0 : s ≤ lm w) (h1 : t ≤ s + 1) (hx : x = 4 * n) : lp K b x ∧ t ≤ lm x := by
  have h3 := lp.of (K := K) (b := b) (j := n) (q := 0) hn hb (by omega) ⟨by omega, by rw [pr_2 (by omega)]; omega⟩
  rw [show 4 * n + 0 = x by omega] at h3
  rw [show w = 4 * n + 1 by omega] at h0
  rw [hx] at h3 ⊢
  exact ⟨h3, by omega⟩
theorem out_cu0 (hn : 0 ≤ n) (hb : n < b) (hK : K n = 5) (hl : L n ≤ lm (4 * n + 1) ∧ lm (4 * n) = lm (4 * n + 1) + 1) (hw : w / 4 = n) (hw4 : w % 4 = 0) (h0 : s ≤ lm w) (h1 : t ≤ s - 1 ∨ t ≤ L n) (hx : x = 4 * n + 1) : lp K b x ∧ t ≤ lm x := by
  have h3 := lp.of (K := K) (b := b) (j := n) (q := 1) hn hb (by omega) ⟨by omega, by rw [pr_2 (by omega)]; omega⟩
  rw [show w = 4 * n by omega] at h0
  rw [hx]
  exact ⟨h3, by omega⟩
theorem out_lam (hn : 0 ≤ n) (hb : n < b) (hK : K n = 1) (hl : lm (4 * n) = L n ∧ lm (4 * n + 1) = L n ∧ lm (4 * n + 2) = L n + 1) (hw : w / 4 = n) (hw4 : w % 4 = 0) (h0 : s ≤ lm w) (h1 : t = s) (hx : x = 4 * n + 1) : lp K b x ∧ t ≤ lm x := by
  have h3 := lp.of (K := K) (b := b) (j := n) (q := 1) hn hb (by omega) ⟨by omega, by rw [pr_1 (by omega)]; omega⟩
  rw [show w = 4 * n by omega] at h0
  rw [hx]
  exact ⟨h3, by omega⟩
theorem out_app (hn : 0 ≤ n) (hb : n < b) (hK : K n = 2) (hl : lm (4 * n) = L n ∧ lm (4 * n + 1) = L n ∧ lm (4 * n + 2) = L n + 1) (hw : w / 4 = n) (hw4 : w % 4 = 1) (h0 : s ≤ lm w) (h1 : t = s) (hx : x = 4 * n) : lp K b x ∧ t ≤ lm x := by
  have h3 := lp.of (K := K) (b := b) (j := n) (q := 0) hn hb (by omega) ⟨by omega, by rw [pr_1 (by omega)]; omega⟩
  rw [show 4 * n + 0 = x by omega] at h3
  rw [show w = 4 * n + 1 by omega] at h0
  rw [hx] at h3 ⊢
  exact ⟨h3, by omega⟩
theorem out_arg (hn : 0 ≤ m) (hb : m < b) (hK : K m = 2) (hl : tl (K m) (L m) (lm (4 * m)) (lm (4 * m + 1)) (lm (4 * m + 2))) (h1 : t ≤ L m) (hx : x = 4 * m + 2) : lp K b x ∧ t ≤ lm x := by
  have h3 := lp.of (K := K) (b := b) (j := m) (q := 2) hn hb (by omega) ⟨by omega, by rw [pr_1 (by omega)]; omega⟩
  have h4 := hl.2.1 (Or.inr hK)
  rw [hx]
  exact ⟨h3, by omega⟩
end OUT
