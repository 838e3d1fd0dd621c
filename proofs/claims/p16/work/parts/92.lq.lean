/-! more for the laying -/
section LQ
variable {K L w lm e e' lv : Int → Int} {b b0 b1 T s i x y q f a v q0 : Int} {G S : Int → Prop}
theorem sc_at {t : Int → Int} {k n : Nat} {d d' i' : Int} (h : sc t k d i n) (e1 : i' = i) (e2 : d' = d) : sc t k d' i' n := by
  rw [e1, e2]
  exact h
theorem lw.low (h : lw K L w lm b T G e S lv b0) (hb : b1 ≤ b0) : lw K L w lm b T G e S lv b1 := ⟨h.1, fun q hq hn => by
  have h9 := h.2 q hq hn
  exact ⟨by omega, h9.2⟩⟩
theorem lva_eq (h : q ≠ s + i) : (if q < s + (i + 1) then x else y) = (if q < s + i then x else y) := by
  by_cases z : q < s + i
  · rw [if_pos z, if_pos (by omega)]
  · rw [if_neg z, if_neg (by omega)]
theorem ce_nx (hi : 0 ≤ i) : (e (s + i) = -1 → ce e s (i + 1).toNat = ce e s i.toNat) ∧ (e (s + i) ≠ -1 → ce e s (i + 1).toNat = ce e s i.toNat + 1) := by
  rw [ce_next hi]
  exact ⟨fun h => by rw [if_pos h]; omega, fun h => by rw [if_neg h]⟩
theorem ce_same (h1 : e q0 ≠ -1) (h2 : e' q0 ≠ -1) (h3 : ∀ q : Int, q ≠ q0 → e' q = e q) : ∀ (s : Int) (n : Nat), ce e' s n = ce e s n := fun s n => ce_eq n (fun q _ _ => by
  by_cases z : q = q0
  · rw [z]
    exact ⟨fun w => absurd w h2, fun w => absurd w h1⟩
  · rw [h3 q z])
theorem lz_S (hv : 0 ≤ v ∧ v < a ∧ a ≤ 121) : (fr f a q ∨ (122 * (f + 1) + (v + 1) ≤ q ∧ q < 122 * (f + 1) + a)) ↔ ((fr f a q ∨ (122 * (f + 1) + v ≤ q ∧ q < 122 * (f + 1) + a)) ∧ q ≠ 122 * (f + 1) + v) := by
  unfold fr
  omega
end LQ
