/-! LAYING A NET: terms with their scopes, open ports, ends of variables -/
def sc (t : Int → Int) : Nat → Int → Int → Nat → Prop
  | 0, _, _, _ => False
  | k + 1, d, i, n => (t i = 0 ∧ ∃ a b : Nat, n = a + b + 1 ∧ sc t k d (i + 1) a ∧ sc t k d (i + 1 + a) b) ∨ (t i = 1 ∧ ∃ a : Nat, n = a + 1 ∧ sc t k (d + 1) (i + 1) a) ∨ (2 ≤ t i ∧ t i - 2 < d ∧ n = 1)
def ly (K L w lm : Int → Int) (b T : Int) (M : Int → Prop) : Prop := (K 0 = 0 ∧ L 0 = 0 ∧ 1 ≤ b) ∧ (∀ j : Int, 0 ≤ j → j < b → 0 ≤ K j ∧ K j ≤ 6 ∧ 0 ≤ L j ∧ L j ≤ T ∧ (K j = 0 → j = 0)) ∧ (∀ j : Int, 0 ≤ j → j < b → tl (K j) (L j) (lm (4 * j)) (lm (4 * j + 1)) (lm (4 * j + 2))) ∧ pn (fun p => lp K b p ∧ ¬ M p) w lm ∧ (∀ p : Int, M p → lp K b p)
def sm (G : Int → Prop) (e : Int → Int) (S : Int → Prop) (p : Int) : Prop := G p ∨ ∃ q, S q ∧ e q = p ∧ p ≠ -1
def sl (e lm lv : Int → Int) (S G : Int → Prop) (b0 b : Int) : Prop := ∀ q : Int, S q → e q ≠ -1 → 4 * b0 ≤ e q ∧ e q < 4 * b ∧ ¬ G (e q) ∧ lm (e q) = lv q ∧ ∀ q' : Int, S q' → e q' = e q → q' = q
def lw (K L w lm : Int → Int) (b T : Int) (G : Int → Prop) (e : Int → Int) (S : Int → Prop) (lv : Int → Int) (b0 : Int) : Prop := ly K L w lm b T (sm G e S) ∧ sl e lm lv S G b0 b
def fr (f a q : Int) : Prop := 122 * f ≤ q ∧ q < 122 * f + a
def ce (e : Int → Int) (s : Int) : Nat → Nat
  | 0 => 0
  | n + 1 => ce e s n + (if e (s + n) = -1 then 0 else 1)
def nb (n : Nat) : Int := (n : Int) * n + 6 * n
section SC
variable {t : Int → Int} {d i : Int} {k n : Nat}
theorem sc_app (h : sc t (k + 1) d i n) (h0 : t i = 0) : ∃ a b : Nat, n = a + b + 1 ∧ sc t k d (i + 1) a ∧ sc t k d (i + 1 + a) b := by
  rcases h with h | h | h
  · exact h.2
  · omega
  · omega
theorem sc_lam (h : sc t (k + 1) d i n) (h0 : t i = 1) : ∃ a : Nat, n = a + 1 ∧ sc t k (d + 1) (i + 1) a := by
  rcases h with h | h | h
  · omega
  · exact h.2
  · omega
theorem sc_var (h : sc t (k + 1) d i n) (h0 : t i ≠ 0) (h1 : t i ≠ 1) : 2 ≤ t i ∧ t i - 2 < d ∧ n = 1 := by
  rcases h with h | h | h
  · omega
  · omega
  · exact h
theorem sc_pos (h : sc t k d i n) : 1 ≤ k := by
  cases k with
  | zero => exact h.elim
  | succ k => omega
theorem sc_n : ∀ {k : Nat} {d i : Int} {n : Nat}, sc t k d i n → 1 ≤ n
  | 0, _, _, _, h => h.elim
  | k + 1, d, i, n, h => by
    rcases h with ⟨-, a, b, h, -⟩ | ⟨-, a, h, -⟩ | h <;> omega
theorem sc_congr {u : Int → Int} : ∀ {k : Nat} {d i : Int} {n : Nat}, (∀ q : Int, i ≤ q → q < i + n → u q = t q) → sc t k d i n → sc u k d i n
  | 0, _, _, _, _, h => h.elim
  | k + 1, d, i, n, e, h => by
    have hn := sc_n h
    have e0 := e i (by omega) (by omega)
    rcases h with ⟨h0, a, b, h1, h2, h3⟩ | ⟨h0, a, h1, h2⟩ | h
    · exact Or.inl ⟨by rw [e0]; exact h0, a, b, h1, sc_congr (fun q q1 q2 => e q (by omega) (by omega)) h2, sc_congr (fun q q1 q2 => e q (by omega) (by omega)) h3⟩
    · exact Or.inr (Or.inl ⟨by rw [e0]; exact h0, a, h1, sc_congr (fun q q1 q2 => e q (by omega) (by omega)) h2⟩)
    · exact Or.inr (Or.inr (by rw [e0]; exact h))
theorem nb_app {a b : Nat} (ha : 1 ≤ a) : 4 * (2 + (b : Int)) + nb a + nb b ≤ nb (a + b + 1) := by
  unfold nb
  have h1 : (((a + b + 1 : Nat) : Int)) = (a : Int) + b + 1 := by omega
  rw [h1]
  have h2 : ((a : Int) + b + 1) * ((a : Int) + b + 1) = (a : Int) * a + (b : Int) * b + 2 * ((a : Int) * b) + 2 * a + 2 * b + 1 := by
    rw [Int.mul_add, Int.add_mul, Int.add_mul, Int.mul_add, Int.mul_add, Int.mul_comm (b : Int) (a : Int)]
    omega
  have h3 : (b : Int) ≤ (a : Int) * b := by
    have h4 : (0 : Int) ≤ ((a : Int) - 1) * b := Int.mul_nonneg (by omega) (by omega)
    rw [Int.sub_mul] at h4
    omega
  rw [h2]
  omega
theorem nb_lam {a : Nat} (ha : 1 ≤ a) : 8 + nb a ≤ nb (a + 1) := by
  unfold nb
  have h1 : (((a + 1 : Nat) : Int)) = (a : Int) + 1 := by omega
  rw [h1, Int.mul_add, Int.add_mul]
  omega
theorem nb_pos (n : Nat) : 0 ≤ nb n := by
  unfold nb
  have h : (0 : Int) ≤ (n : Int) * n := Int.mul_nonneg (by omega) (by omega)
  omega
theorem nb_1 : nb 1 = 7 := by decide
theorem nb_mono {a b : Nat} (h : a ≤ b) : nb a ≤ nb b := by
  unfold nb
  have h1 : (a : Int) * a ≤ (b : Int) * b := Int.mul_le_mul (by omega) (by omega) (by omega) (by omega)
  omega
end SC
section CE
variable {e e' : Int → Int} {s q0 : Int}
theorem ce_eq : ∀ n : Nat, (∀ q : Int, s ≤ q → q < s + n → (e' q = -1 ↔ e q = -1)) → ce e' s n = ce e s n
  | 0, _ => rfl
  | n + 1, h => by
    have h1 := ce_eq n (fun q h1 h2 => h q h1 (by omega))
    have h2 := h (s + n) (by omega) (by omega)
    unfold ce
    rw [h1]
    by_cases z : e (s + n) = -1
    · rw [if_pos z, if_pos (h2.mpr z)]
    · rw [if_neg z, if_neg (fun y => z (h2.mp y))]
theorem ce_mono : ∀ {m n : Nat}, m ≤ n → ce e s m ≤ ce e s n
  | m, 0, h => by
    have : m = 0 := by omega
    rw [this]
    omega
  | m, n + 1, h => by
    by_cases z : m = n + 1
    · rw [z]
      omega
    · have h1 := ce_mono (m := m) (n := n) (by omega)
      have h2 : ce e s (n + 1) = ce e s n + (if e (s + n) = -1 then 0 else 1) := rfl
      omega
theorem ce_up : ∀ n : Nat, (∀ q : Int, q ≠ q0 → e' q = e q) → ce e' s n ≤ ce e s n + 1 ∧ ((e q0 ≠ -1 ∨ e' q0 = -1) → ce e' s n ≤ ce e s n)
  | 0, _ => ⟨by unfold ce; omega, fun _ => by unfold ce; omega⟩
  | n + 1, h => by
    have h1 := ce_up n h
    by_cases z : s + n = q0
    · have h2 : ce e' s n = ce e s n := ce_eq n (fun q a1 a2 => by rw [h q (by omega)])
      unfold ce
      rw [h2, z]
      constructor
      · split <;> split <;> omega
      · intro h3
        by_cases y : e' q0 = -1
        · rw [if_pos y]
          omega
        · rw [if_neg y, if_neg (fun w => h3.elim (fun u => u w) (fun u => y u))]
          omega
    · unfold ce
      rw [h (s + n) z]
      omega
theorem ce_one : ∀ n : Nat, (∀ q : Int, s ≤ q → q < s + n → q ≠ q0 → e q = -1) → ce e s n ≤ 1 ∧ (s + n ≤ q0 → ce e s n = 0)
  | 0, _ => ⟨by unfold ce; omega, fun _ => rfl⟩
  | n + 1, h => by
    have h1 := ce_one n (fun q a1 a2 => h q a1 (by omega))
    unfold ce
    by_cases z : s + n = q0
    · have h2 := h1.2 (by omega)
      rw [h2]
      constructor
      · split <;> omega
      · intro y
        omega
    · have h3 := h (s + n) (by omega) (by omega) z
      rw [if_pos h3]
      exact ⟨by omega, fun y => by have := h1.2 (by omega); omega⟩
theorem ce_next {i : Int} (hi : 0 ≤ i) : ce e s (i + 1).toNat = ce e s i.toNat + (if e (s + i) = -1 then 0 else 1) := by
  rw [show (i + 1).toNat = i.toNat + 1 by omega]
  have h : ((i.toNat : Nat) : Int) = i := by omega
  have h2 : ce e s (i.toNat + 1) = ce e s i.toNat + (if e (s + (i.toNat : Int)) = -1 then 0 else 1) := rfl
  rw [h2, h]
end CE
section LY
variable {K K' L L' w w' lm lm' e e' lv lv' : Int → Int} {b b' b0 T k l l0 l1 l2 r s q0 r0 p0 x : Int} {M M' G G' S S' S2 : Int → Prop}
theorem ly.iff (h : ly K L w lm b T M) (hM : ∀ p : Int, M' p ↔ M p) : ly K L w lm b T M' := by
  have e1 : M' = M := funext (fun x => propext (hM x))
  rw [e1]
  exact h
theorem ly.lt (h : ly K L w lm b T M) (hp : M x) : 0 ≤ x ∧ x < 4 * b := by
  have h1 := h.2.2.2.2 x hp
  have h2 := h1.1
  have h3 := h1.2.1
  omega
theorem ly.node (h : ly K L w lm b T M) (hb : b' = b + 1) (h1 : K' b = k ∧ L' b = l) (h2 : ∀ y : Int, y ≠ b → K' y = K y ∧ L' y = L y) (hk : 1 ≤ k ∧ k ≤ 6) (hl : 0 ≤ l ∧ l ≤ T) (ht : tl k l l0 l1 l2) : ly K' L' w (ln lm b l0 l1 l2) b' T (fun p => M p ∨ (p / 4 = b ∧ p % 4 < pr k)) := by
  obtain ⟨⟨n1, n2, n3⟩, a1, a2, a3, a5⟩ := h
  subst hb
  have hlp : ∀ y : Int, lp K' (b + 1) y ↔ (lp K b y ∨ (y / 4 = b ∧ y % 4 < pr k)) := by
    intro y
    constructor
    · rintro ⟨e1, e2, e3, e4⟩
      by_cases z : y / 4 = b
      · rw [z, h1.1] at e4
        exact Or.inr ⟨z, e4⟩
      · rw [(h2 _ z).1] at e3 e4
        exact Or.inl ⟨e1, by omega, e3, e4⟩
    · rintro (e | e)
      · obtain ⟨e1, e2, e3, e4⟩ := e
        have z : y / 4 ≠ b := by omega
        rw [← (h2 _ z).1] at e3 e4
        exact ⟨e1, by omega, e3, e4⟩
      · refine ⟨by omega, by omega, ?_, ?_⟩
        · rw [e.1, h1.1]
          omega
        · rw [e.1, h1.1]
          exact e.2
  have hnl : ∀ y : Int, lp K b y → y / 4 ≠ b := by
    intro y hy z
    have := hy.2.1
    omega
  refine ⟨⟨by rw [(h2 0 (by omega)).1]; exact n1, by rw [(h2 0 (by omega)).2]; exact n2, by omega⟩, fun j j1 j2 => ?_, fun j j1 j2 => ?_, ?_, ?_⟩
  · by_cases z : j = b
    · rw [z, h1.1, h1.2]
      exact ⟨by omega, by omega, by omega, by omega, fun q => by omega⟩
    · rw [(h2 _ z).1, (h2 _ z).2]
      exact a1 j j1 (by omega)
  · by_cases z : j = b
    · rw [z, h1.1, h1.2, ln_0, ln_1, ln_2]
      exact ht
    · rw [(h2 _ z).1, (h2 _ z).2, ln_n (by omega), ln_n (by omega), ln_n (by omega)]
      exact a2 j j1 (by omega)
  · have h6 : pn (fun p => lp K b p ∧ ¬ M p) w (ln lm b l0 l1 l2) := a3.eq (fun _ _ => rfl) (fun y hy => ln_n (hnl y hy.1))
    refine h6.iff (fun y => ?_)
    constructor
    · rintro ⟨e1, e2⟩
      rcases (hlp y).mp e1 with z | z
      · exact ⟨z, fun q => e2 (Or.inl q)⟩
      · exact absurd (Or.inr z) e2
    · rintro ⟨e1, e2⟩
      refine ⟨(hlp y).mpr (Or.inl e1), ?_⟩
      rintro (q | q)
      · exact e2 q
      · exact hnl y e1 q.1
  · rintro y (e | e)
    · exact (hlp y).mpr (Or.inl (a5 y e))
    · exact (hlp y).mpr (Or.inr e)
theorem ly.pair (h : ly K L w lm b T M) (hr : M r) (hs : M s) (hrs : r ≠ s) (hl : lm r = lm s) (h1 : w' s = r) (h2 : r ≠ s → w' r = s) (h3 : ∀ x : Int, x ≠ r → x ≠ s → w' x = w x) : ly K L w' lm b T (fun p => M p ∧ p ≠ r ∧ p ≠ s) := by
  obtain ⟨a0, a1, a2, a3, a5⟩ := h
  have h4 := a3.pair (lm' := lm) (fun z => z.2 hr) (fun z => z.2 hs) hrs (h2 hrs) h1 h3 hl (fun _ _ => rfl)
  refine ⟨a0, a1, a2, h4.iff (fun x => ?_), fun x hx => a5 x hx.1⟩
  constructor
  · rintro ⟨e1, e2⟩
    by_cases ex : x = r
    · exact Or.inr (Or.inl ex)
    · by_cases ey : x = s
      · exact Or.inr (Or.inr ey)
      · exact Or.inl ⟨e1, fun z => e2 ⟨z, ex, ey⟩⟩
  · rintro (e | e | e)
    · exact ⟨e.1, fun z => e.2 z.1⟩
    · subst e
      exact ⟨a5 _ hr, fun z => z.2.1 rfl⟩
    · subst e
      exact ⟨a5 _ hs, fun z => z.2.2 rfl⟩
theorem lw.cg (h : lw K L w lm b T G e S lv b0) (hG : ∀ p : Int, G' p ↔ G p) (hS : ∀ q : Int, S' q ↔ S q) (he : ∀ q : Int, S q → e' q = e q) (hl : ∀ q : Int, S q → e q ≠ -1 → lv' q = lv q) : lw K L w lm b T G' e' S' lv' b0 := by
  have e1 : G' = G := funext (fun x => propext (hG x))
  have e2 : S' = S := funext (fun x => propext (hS x))
  rw [e1, e2]
  refine ⟨h.1.iff (fun p => ?_), fun q hq hn => ?_⟩
  · constructor
    · rintro (z | ⟨q, z1, z2, z3⟩)
      · exact Or.inl z
      · rw [he q z1] at z2
        exact Or.inr ⟨q, z1, z2, z3⟩
    · rintro (z | ⟨q, z1, z2, z3⟩)
      · exact Or.inl z
      · exact Or.inr ⟨q, z1, by rw [he q z1]; exact z2, z3⟩
  · rw [he q hq] at hn
    obtain ⟨h1, h2, h3, h4, h5⟩ := h.2 q hq hn
    rw [he q hq, hl q hq hn]
    exact ⟨h1, h2, h3, h4, fun q' g1 g2 => h5 q' g1 (by rw [← he q' g1]; exact g2)⟩
theorem lw.node (h : lw K L w lm b T G e S lv b0) (hb : b' = b + 1) (h1 : K' b = k ∧ L' b = l) (h2 : ∀ y : Int, y ≠ b → K' y = K y ∧ L' y = L y) (hk : 1 ≤ k ∧ k ≤ 6) (hl : 0 ≤ l ∧ l ≤ T) (ht : tl k l l0 l1 l2) : lw K' L' w (ln lm b l0 l1 l2) b' T (fun p => G p ∨ (p / 4 = b ∧ p % 4 < pr k)) e S lv b0 := by
  refine ⟨(h.1.node hb h1 h2 hk hl ht).iff (fun p => ?_), fun q hq hn => ?_⟩
  · constructor
    · rintro ((z | z) | z)
      · exact Or.inl (Or.inl z)
      · exact Or.inr z
      · exact Or.inl (Or.inr z)
    · rintro ((z | z) | z)
      · exact Or.inl (Or.inl z)
      · exact Or.inr z
      · exact Or.inl (Or.inr z)
  · obtain ⟨g1, g2, g3, g4, g5⟩ := h.2 q hq hn
    refine ⟨g1, by omega, ?_, ?_, g5⟩
    · rintro (z | z)
      · exact g3 z
      · omega
    · rw [ln_n (by omega)]
      exact g4
theorem lw.wireG (h : lw K L w lm b T G e S lv b0) (hr : G r) (hs : G s) (hrs : r ≠ s) (hl : lm r = lm s) (h1 : w' s = r) (h2 : r ≠ s → w' r = s) (h3 : ∀ x : Int, x ≠ r → x ≠ s → w' x = w x) : lw K L w' lm b T (fun p => G p ∧ p ≠ r ∧ p ≠ s) e S lv b0 := by
  refine ⟨(h.1.pair (Or.inl hr) (Or.inl hs) hrs hl h1 h2 h3).iff (fun p => ?_), fun q hq hn => ?_⟩
  · constructor
    · rintro (z | ⟨q, z1, z2, z3⟩)
      · exact ⟨Or.inl z.1, z.2⟩
      · have g := (h.2 q z1 (by rw [z2]; exact z3)).2.2.1
        rw [z2] at g
        exact ⟨Or.inr ⟨q, z1, z2, z3⟩, fun y => g (by rw [y]; exact hr), fun y => g (by rw [y]; exact hs)⟩
    · rintro ⟨z | z, z2⟩
      · exact Or.inl ⟨z, z2⟩
      · exact Or.inr z
  · obtain ⟨g1, g2, g3, g4, g5⟩ := h.2 q hq hn
    exact ⟨g1, g2, fun z => g3 z.1, g4, g5⟩
theorem lw.wireE (h : lw K L w lm b T G e S lv b0) (hr : G r) (hq : S q0) (hn : e q0 ≠ -1) (hs : s = e q0) (hl : lm r = lv q0) (h1 : w' s = r) (h2 : r ≠ s → w' r = s) (h3 : ∀ x : Int, x ≠ r → x ≠ s → w' x = w x) : lw K L w' lm b T (fun p => G p ∧ p ≠ r) e (fun q => S q ∧ q ≠ q0) lv b0 := by
  obtain ⟨g1, g2, g3, g4, g5⟩ := h.2 q0 hq hn
  have hrs : r ≠ s := fun z => g3 (by rw [← hs, ← z]; exact hr)
  refine ⟨(h.1.pair (Or.inl hr) (Or.inr ⟨q0, hq, hs.symm, by rw [hs]; exact hn⟩) hrs (by rw [hl, hs, g4]) h1 h2 h3).iff (fun p => ?_), fun q hq2 hn2 => ?_⟩
  · constructor
    · rintro (z | ⟨q, z1, z2, z3⟩)
      · exact ⟨Or.inl z.1, z.2, fun y => g3 (by rw [← hs, ← y]; exact z.1)⟩
      · have g := (h.2 q z1.1 (by rw [z2]; exact z3)).2.2.1
        rw [z2] at g
        exact ⟨Or.inr ⟨q, z1.1, z2, z3⟩, fun y => g (by rw [y]; exact hr), fun y => z1.2 (g5 q z1.1 (by rw [z2, y, hs]))⟩
    · rintro ⟨z | ⟨q, z1, z2, z3⟩, y1, y2⟩
      · exact Or.inl ⟨z, y1⟩
      · exact Or.inr ⟨q, ⟨z1, fun y => y2 (by rw [← z2, y, hs])⟩, z2, z3⟩
  · obtain ⟨a1, a2, a3, a4, a5⟩ := h.2 q hq2.1 hn2
    exact ⟨a1, a2, fun z => a3 z.1, a4, fun q' z1 z2 => a5 q' z1.1 z2⟩
theorem lw.slotG (h : lw K L w lm b T G e S lv b0) (hp : G p0) (hb : 4 * b0 ≤ p0) (hb0 : 0 ≤ b0) (hq : ¬ S q0) (he1 : e' q0 = p0) (he2 : ∀ q : Int, q ≠ q0 → e' q = e q) (hl1 : lm p0 = lv' q0) (hl2 : ∀ q : Int, q ≠ q0 → lv' q = lv q) : lw K L w lm b T (fun p => G p ∧ p ≠ p0) e' (fun q => S q ∨ q = q0) lv' b0 := by
  have hp1 := h.1.lt (Or.inl hp)
  have hne : ∀ q, S q → q ≠ q0 := fun q z y => hq (by rw [← y]; exact z)
  refine ⟨h.1.iff (fun p => ?_), fun q hq2 hn2 => ?_⟩
  · constructor
    · rintro (z | ⟨q, z1 | z1, z2, z3⟩)
      · exact Or.inl z.1
      · rw [he2 q (hne q z1)] at z2
        exact Or.inr ⟨q, z1, z2, z3⟩
      · rw [z1, he1] at z2
        rw [← z2]
        exact Or.inl hp
    · rintro (z | ⟨q, z1, z2, z3⟩)
      · by_cases y : p = p0
        · exact Or.inr ⟨q0, Or.inr rfl, by rw [he1, y], by omega⟩
        · exact Or.inl ⟨z, y⟩
      · exact Or.inr ⟨q, Or.inl z1, by rw [he2 q (hne q z1)]; exact z2, z3⟩
  · rcases hq2 with z | z
    · have hz := hne q z
      rw [he2 q hz] at hn2
      obtain ⟨a1, a2, a3, a4, a5⟩ := h.2 q z hn2
      rw [he2 q hz, hl2 q hz]
      refine ⟨a1, a2, fun y => a3 y.1, a4, fun q' z1 z2 => ?_⟩
      rcases z1 with z1 | z1
      · rw [he2 q' (hne q' z1)] at z2
        exact a5 q' z1 z2
      · rw [z1, he1] at z2
        exact absurd (by rw [← z2]; exact hp) a3
    · rw [z, he1]
      refine ⟨hb, hp1.2, fun y => y.2 rfl, hl1, fun q' z1 z2 => ?_⟩
      rcases z1 with z1 | z1
      · rw [he2 q' (hne q' z1)] at z2
        exact absurd (by rw [z2]; exact hp) (h.2 q' z1 (by omega)).2.2.1
      · exact z1
theorem lw.subS (h : lw K L w lm b T G e S lv b0) (hq : e q0 = -1) : lw K L w lm b T G e (fun q => S q ∧ q ≠ q0) lv b0 := by
  refine ⟨h.1.iff (fun p => ?_), fun q hq2 hn2 => ?_⟩
  · constructor
    · rintro (z | ⟨q, z1, z2, z3⟩)
      · exact Or.inl z
      · exact Or.inr ⟨q, z1.1, z2, z3⟩
    · rintro (z | ⟨q, z1, z2, z3⟩)
      · exact Or.inl z
      · exact Or.inr ⟨q, ⟨z1, fun y => z3 (by rw [← z2, y]; exact hq)⟩, z2, z3⟩
  · obtain ⟨a1, a2, a3, a4, a5⟩ := h.2 q hq2.1 hn2
    exact ⟨a1, a2, a3, a4, fun q' z1 z2 => a5 q' z1.1 z2⟩
theorem lw.mv (h : lw K L w lm b T G e S lv b0) (hq : ¬ S q0) (hr : S r0) (he1 : e' q0 = e r0) (he2 : ∀ q : Int, q ≠ q0 → e' q = e q) (hl1 : lv q0 = lv r0) : lw K L w lm b T G e' (fun q => (S q ∧ q ≠ r0) ∨ q = q0) lv b0 := by
  have hne : ∀ q, S q → q ≠ q0 := fun q z y => hq (by rw [← y]; exact z)
  refine ⟨h.1.iff (fun p => ?_), fun q hq2 hn2 => ?_⟩
  · constructor
    · rintro (z | ⟨q, z1 | z1, z2, z3⟩)
      · exact Or.inl z
      · rw [he2 q (hne q z1.1)] at z2
        exact Or.inr ⟨q, z1.1, z2, z3⟩
      · rw [z1, he1] at z2
        exact Or.inr ⟨r0, hr, z2, z3⟩
    · rintro (z | ⟨q, z1, z2, z3⟩)
      · exact Or.inl z
      · by_cases y : q = r0
        · exact Or.inr ⟨q0, Or.inr rfl, by rw [he1, ← y]; exact z2, z3⟩
        · exact Or.inr ⟨q, Or.inl ⟨z1, y⟩, by rw [he2 q (hne q z1)]; exact z2, z3⟩
  · rcases hq2 with z | z
    · have hz := hne q z.1
      rw [he2 q hz] at hn2
      obtain ⟨a1, a2, a3, a4, a5⟩ := h.2 q z.1 hn2
      rw [he2 q hz]
      refine ⟨a1, a2, a3, a4, fun q' z1 z2 => ?_⟩
      rcases z1 with z1 | z1
      · rw [he2 q' (hne q' z1.1)] at z2
        exact a5 q' z1.1 z2
      · rw [z1, he1] at z2
        exact absurd (a5 r0 hr z2).symm z.2
    · rw [z, he1] at hn2
      obtain ⟨a1, a2, a3, a4, a5⟩ := h.2 r0 hr hn2
      rw [z, he1, hl1]
      refine ⟨a1, a2, a3, a4, fun q' z1 z2 => ?_⟩
      rcases z1 with z1 | z1
      · rw [he2 q' (hne q' z1.1)] at z2
        exact absurd (a5 q' z1.1 z2) z1.2
      · exact z1
theorem lw.merge {lv2 lv3 : Int → Int} (h : lw K' L' w' lm' b' T (fun p => sm G e S p ∨ p = x) e' S2 lv2 b) (h0 : lw K L w lm b T G e S lv b0) (he : ∀ q : Int, S q → e' q = e q) (hl : ∀ p : Int, p < 4 * b → lm' p = lm p) (hx : 4 * b ≤ x) (hb : b0 ≤ b ∧ b ≤ b') (hl1 : ∀ q : Int, S q → lv3 q = lv q) (hl2 : ∀ q : Int, S2 q → lv3 q = lv2 q) : lw K' L' w' lm' b' T (fun p => G p ∨ p = x) e' (fun q => S q ∨ S2 q) lv3 b0 := by
  refine ⟨h.1.iff (fun p => ?_), fun q hq2 hn2 => ?_⟩
  · constructor
    · rintro ((z | z) | ⟨q, z1 | z1, z2, z3⟩)
      · exact Or.inl (Or.inl (Or.inl z))
      · exact Or.inl (Or.inr z)
      · rw [he q z1] at z2
        exact Or.inl (Or.inl (Or.inr ⟨q, z1, z2, z3⟩))
      · exact Or.inr ⟨q, z1, z2, z3⟩
    · rintro (((z | ⟨q, z1, z2, z3⟩) | z) | ⟨q, z1, z2, z3⟩)
      · exact Or.inl (Or.inl z)
      · exact Or.inr ⟨q, Or.inl z1, by rw [he q z1]; exact z2, z3⟩
      · exact Or.inl (Or.inr z)
      · exact Or.inr ⟨q, Or.inr z1, z2, z3⟩
  · rcases hq2 with z | z
    · rw [he q z] at hn2
      obtain ⟨a1, a2, a3, a4, a5⟩ := h0.2 q z hn2
      rw [he q z, hl1 q z]
      refine ⟨a1, by omega, ?_, by rw [hl _ a2]; exact a4, fun q' z1 z2 => ?_⟩
      · rintro (y | y)
        · exact a3 y
        · omega
      · rcases z1 with z1 | z1
        · rw [he q' z1] at z2
          exact a5 q' z1 z2
        · have := (h.2 q' z1 (by rw [z2]; exact hn2)).1
          omega
    · obtain ⟨a1, a2, a3, a4, a5⟩ := h.2 q z hn2
      rw [hl2 q z]
      refine ⟨by omega, a2, ?_, a4, fun q' z1 z2 => ?_⟩
      · rintro (y | y)
        · exact a3 (Or.inl (Or.inl y))
        · exact a3 (Or.inr y)
      · rcases z1 with z1 | z1
        · rw [he q' z1] at z2
          have := (h0.2 q' z1 (by rw [z2]; exact hn2)).2.1
          omega
        · exact a5 q' z1 z2
end LY
