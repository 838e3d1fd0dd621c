/-! where the walk keeps what it comes back to -/
def wq (A : rf_A) : Prop := ∀ k : Int, 0 ≤ k → (0 ≤ A 53 k ∧ 0 ≤ A 54 k ∧ A 54 k ≤ 200 ∧ A 53 k + A 54 k ≤ 200 * (k + 1)) ∧ (0 ≤ A 57 k ∧ 0 ≤ A 58 k ∧ A 58 k ≤ 200 ∧ A 57 k + A 58 k ≤ 200 * (k + 1))
section WQ
variable {A A' : rf_A} {q p p' v k f m : Int} {l : List Nat} {i : Nat}
theorem wq.fr (w : wq A) (h : fr2 l A A') (h1 : ∀ k ∈ [53, 54, 57, 58], k ∉ l) : wq A' := fun q hq => by
  rw [h 53 (h1 53 (by decide)), h 54 (h1 54 (by decide)), h 57 (h1 57 (by decide)), h 58 (h1 58 (by decide))]
  exact w q hq
theorem fr2.one : fr2 [i] A (up2 A i q v) := fr2.up (List.mem_singleton.mpr rfl) fr2.rf
theorem wq.o (w : wq A) (h : ∀ k ∈ [53, 54, 57, 58], k ∉ [i]) : wq (up2 A i q v) := w.fr fr2.one h
theorem wr.o (w : wr A) (h : ∀ k ∈ [43, 44, 45, 46, 47, 49, 60], k ∉ [i]) : wr (up2 A i q v) := w.fr fr2.one h
theorem wq.w (w : wq A) (hk : 0 ≤ k) (hf : 0 ≤ f) (hm : 0 ≤ m ∧ m ≤ 200) (h : f + m ≤ 200 * (k + 1)) (hp : p = k) (hp' : p' = k) : wq (up2 (up2 A 53 p f) 54 p' m) := fun j hj => by
  subst hp
  subst hp'
  rw [up2_r (A := up2 A 53 p' f) (k := 54) (j := 53) (by decide), up2_r (A := up2 A 53 p' f) (k := 54) (j := 57) (by decide), up2_r (A := up2 A 53 p' f) (k := 54) (j := 58) (by decide), up2_if, up2_if, up2_r (A := A) (k := 53) (j := 54) (by decide), up2_r (A := A) (k := 53) (j := 57) (by decide), up2_r (A := A) (k := 53) (j := 58) (by decide)]
  have := w j hj
  by_cases e : j = p'
  · rw [if_pos e, if_pos e]
    subst e
    omega
  · rw [if_neg e, if_neg e]
    exact this
theorem wq.a (w : wq A) (hk : 0 ≤ k) (hf : 0 ≤ f) (hm : 0 ≤ m ∧ m ≤ 200) (h : f + m ≤ 200 * (k + 1)) (hp : p = k) (hp' : p' = k) : wq (up2 (up2 A 57 p f) 58 p' m) := fun j hj => by
  subst hp
  subst hp'
  rw [up2_r (A := up2 A 57 p' f) (k := 58) (j := 53) (by decide), up2_r (A := up2 A 57 p' f) (k := 58) (j := 54) (by decide), up2_r (A := up2 A 57 p' f) (k := 58) (j := 57) (by decide), up2_if, up2_if, up2_r (A := A) (k := 57) (j := 53) (by decide), up2_r (A := A) (k := 57) (j := 54) (by decide), up2_r (A := A) (k := 57) (j := 58) (by decide)]
  have := w j hj
  by_cases e : j = p'
  · rw [if_pos e, if_pos e]
    subst e
    omega
  · rw [if_neg e, if_neg e]
    exact this
theorem wt_3 {a b c d v1 v2 v3 v4 y1 y2 y4 : Int} (ha : k = a) (hb : k = b) (hd : k = d) (h1 : v1 = y1) (h2 : v2 = y2) (h4 : v4 = y4) : up2 (up2 (up2 (up2 A 51 a v1) 52 b v2) 53 c v3) 54 d v4 51 k = y1 ∧ up2 (up2 (up2 (up2 A 51 a v1) 52 b v2) 53 c v3) 54 d v4 52 k = y2 ∧ up2 (up2 (up2 (up2 A 51 a v1) 52 b v2) 53 c v3) 54 d v4 54 k = y4 := by
  refine ⟨?_, ?_, ?_⟩
  · rw [up2_r (by decide), up2_r (by decide), up2_r (by decide), up2_if, if_pos ha, h1]
  · rw [up2_r (by decide), up2_r (by decide), up2_if, if_pos hb, h2]
  · rw [up2_if, if_pos hd, h4]
theorem wt_4 {a b c d v1 v2 v3 v4 : Int} (ha : k = a) (hb : k = b) (hd : k = d) : ∀ q : Int, q ≠ k → up2 (up2 (up2 (up2 A 51 a v1) 52 b v2) 53 c v3) 54 d v4 51 q = A 51 q ∧ up2 (up2 (up2 (up2 A 51 a v1) 52 b v2) 53 c v3) 54 d v4 52 q = A 52 q ∧ up2 (up2 (up2 (up2 A 51 a v1) 52 b v2) 53 c v3) 54 d v4 54 q = A 54 q := fun q hq => by
  refine ⟨?_, ?_, ?_⟩
  · rw [up2_r (by decide), up2_r (by decide), up2_r (by decide), up2_if, if_neg (fun z => hq (z.trans ha.symm))]
  · rw [up2_r (by decide), up2_r (by decide), up2_if, if_neg (fun z => hq (z.trans hb.symm)), up2_r (by decide)]
  · rw [up2_if, if_neg (fun z => hq (z.trans hd.symm)), up2_r (by decide), up2_r (by decide), up2_r (by decide)]
end WQ
