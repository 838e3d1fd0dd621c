/-! a net is laid by, and comes back -/
section KP
variable {K L w K' L' w' W lm : Int → Int} {A : rf_A} {b T T' c n k x y i m : Int}
theorem nt_of (h1 : nn K L b T) (h2 : nw K L w lm b) (h3 : c = cn K b.toNat) (h4 : c ≤ 400) (hT : T ≤ T') : nt K L w b T' c := ⟨h1.mono hT, ⟨lm, h2⟩, h3, h4⟩
theorem nt.mono (h : nt K L w b T c) (hT : T ≤ T') : nt K L w b T' c := ⟨h.1.mono hT, h.2⟩
theorem lp.agree (e : ∀ j : Int, 0 ≤ j → j < b → K' j = K j ∧ L' j = L j) {p : Int} : lp K' b p ↔ lp K b p := by
  constructor
  · rintro ⟨h1, h2, h3, h4⟩
    rw [(e (p / 4) (by omega) h2).1] at h3 h4
    exact ⟨h1, h2, h3, h4⟩
  · rintro ⟨h1, h2, h3, h4⟩
    rw [← (e (p / 4) (by omega) h2).1] at h3 h4
    exact ⟨h1, h2, h3, h4⟩
theorem nt.agree (h : nt K L w b T c) (e : ∀ j : Int, 0 ≤ j → j < b → K' j = K j ∧ L' j = L j) (f : ∀ p : Int, 0 ≤ p → p < 4 * b → w' p = w p) : nt K' L' w' b T c := by
  obtain ⟨⟨n1, n2, n3, n4, n5⟩, ⟨lm, w1, w2⟩, h3, h4⟩ := h
  have f2 : ∀ p : Int, lp K b p → w' p = w p := fun p hp => f p hp.1 (by have := hp.2.1; omega)
  refine ⟨⟨n1, n2, by rw [(e 0 (by omega) (by omega)).1]; exact n3, by rw [(e 0 (by omega) (by omega)).2]; exact n4, fun j j1 j2 => by rw [(e j j1 j2).1, (e j j1 j2).2]; exact n5 j j1 j2⟩, ⟨lm, fun j j1 j2 j3 => ?_, fun p hp => ?_⟩, ?_, h4⟩
  · rw [(e j j1 j2).1] at j3
    rw [(e j j1 j2).1, (e j j1 j2).2]
    exact w1 j j1 j2 j3
  · have hp1 := (lp.agree e).mp hp
    obtain ⟨g1, g2, g3, g4⟩ := w2 p hp1
    rw [f2 p hp1]
    exact ⟨(lp.agree e).mpr g1, by rw [f2 _ g1]; exact g2, g3, g4⟩
  · rw [h3]
    exact (cn_eq (K := K) (K' := K') b.toNat (fun j j1 j2 => by rw [(e j j1 (by omega)).1])).symm
theorem kp_2 {a d : Nat} (had : a ≠ d) (h : ∀ j : Int, 0 ≤ j → j ≤ n → A a j = K j ∧ A d j = L j) (hk : k = n + 1) (hx : x = K k) (hy : y = L k) : ∀ j : Int, 0 ≤ j → j ≤ k → up2 (up2 A a k x) d k y a j = K j ∧ up2 (up2 A a k x) d k y d j = L j := by
  intro j j1 j2
  rw [up2_r had]
  by_cases e : j = k
  · rw [e]
    exact ⟨up2_eq.trans hx, up2_eq.trans hy⟩
  · rw [up2_ne e, up2_ne e, up2_r (fun z => had z.symm)]
    exact h j j1 (by omega)
theorem kp_1 {a : Nat} (h : ∀ p : Int, 0 ≤ p → p < n → A a p = W p) (hi : i = n) (hx : x = W i) (hm : m = n + 1) : ∀ p : Int, 0 ≤ p → p < m → up2 A a i x a p = W p := by
  intro p p1 p2
  by_cases e : p = i
  · rw [e]
    exact up2_eq.trans hx
  · rw [up2_ne e]
    exact h p p1 (by omega)
theorem kp_0 {a : Nat} (h : ∀ p : Int, 0 ≤ p → p < n → A a p = W p) {d e : Nat} (hd : a ≠ d) (he : a ≠ e) (hm : m ≤ n) : ∀ p : Int, 0 ≤ p → p < m → up2 (up2 A d k x) e k y a p = W p := by
  intro p p1 p2
  rw [up2_r he, up2_r hd]
  exact h p p1 (by omega)
end KP
