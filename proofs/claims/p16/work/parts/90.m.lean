/-! counts told by the ends -/
theorem sc_ss {t : Int → Int} : ∀ {k : Nat} {d i : Int} {n : Nat}, sc t k d i n → ss t k i = n
  | 0, _, _, _, h => h.elim
  | k + 1, d, i, n, h => by
    unfold ss
    rcases h with ⟨h0, a, b, h1, h2, h3⟩ | ⟨h0, a, h1, h2⟩ | h
    · rw [if_pos h0, sc_ss h2, sc_ss h3, h1]
    · rw [if_neg (by omega), if_pos h0, sc_ss h2, h1]
    · rw [if_neg (by omega), if_neg (by omega), h.2.2]
theorem ce_cu {e : Int → Int} {s : Int} {g : Int → Bool} : ∀ n : Nat, (∀ v : Int, 0 ≤ v → v < n → (e (s + v) ≠ -1 ↔ g v = true)) → ce e s n = cu g n
  | 0, _ => rfl
  | n + 1, h => by
    have h1 := ce_cu n (fun v a b => h v a (by omega))
    have h2 := h n (by omega) (by omega)
    unfold ce cu
    rw [h1]
    by_cases z : e (s + n) = -1
    · rw [if_pos z, if_neg (fun y => h2.mpr y z)]
    · rw [if_neg z, if_pos (h2.mp z)]
section CSX
variable {t : Int → Int} {k n a b : Nat} {d i v : Int}
theorem cs_app (h0 : t i = 0) (h1 : sc t k d (i + 1) a) : cs t (k + 1) d i = ca (us t k d (i + 1)) (us t k d (i + 1 + a)) (cs t k d (i + 1)) (cs t k d (i + 1 + a)) d.toNat := by
  rw [← sc_ss h1]
  exact if_pos h0
theorem us_app (h0 : t i = 0) (h1 : sc t k d (i + 1) a) : us t (k + 1) d i v = (us t k d (i + 1) v || us t k d (i + 1 + a) v) := by
  rw [← sc_ss h1]
  exact if_pos h0
theorem cs_lam (h0 : t i = 1) : cs t (k + 1) d i = cl (us t k (d + 1) (i + 1)) (cs t k (d + 1) (i + 1)) d := (if_neg (by omega)).trans (if_pos h0)
theorem us_lam (h0 : t i = 1) : us t (k + 1) d i v = us t k (d + 1) (i + 1) v := (if_neg (by omega)).trans (if_pos h0)
theorem cs_var (h0 : t i ≠ 0) (h1 : t i ≠ 1) : cs t (k + 1) d i = 1 := (if_neg h0).trans (if_neg h1)
theorem us_var (h0 : t i ≠ 0) (h1 : t i ≠ 1) : us t (k + 1) d i v = decide (v = d - 1 - (t i - 2)) := (if_neg h0).trans (if_neg h1)
end CSX
theorem cl_0 {g : Int → Bool} {c : Nat} {d : Int} (h : ¬ g d = true) : cl g c d = 1 + c + 1 := by
  unfold cl
  rw [if_neg h]
theorem cl_1 {g : Int → Bool} {c : Nat} {d : Int} (h : g d = true) : cl g c d = 1 + c + 0 := by
  unfold cl
  rw [if_pos h]
theorem st_same {e e' : Int → Int} {q0 : Int} (h1 : e q0 ≠ -1) (h2 : e' q0 ≠ -1) (h3 : ∀ q : Int, q ≠ q0 → e' q = e q) : ∀ q : Int, e' q ≠ -1 ↔ e q ≠ -1 := fun q => by
  by_cases z : q = q0
  · rw [z]
    exact ⟨fun _ => h1, fun _ => h2⟩
  · rw [h3 q z]
def si (e : Int → Int) (g1 g2 : Int → Bool) (f a i : Int) : Prop := ∀ v : Int, 0 ≤ v → v < a → (e (122 * (f + 1) + v) ≠ -1 ↔ g2 v = true) ∧ (v < i → (e (122 * f + v) ≠ -1 ↔ (g1 v || g2 v) = true)) ∧ (i ≤ v → (e (122 * f + v) ≠ -1 ↔ g1 v = true))
theorem si_step {e e' : Int → Int} {g1 g2 : Int → Bool} {f a i : Int} (h : si e g1 g2 f a i) (hi : 0 ≤ i ∧ i < a ∧ a ≤ 121) (he : ∀ q : Int, q ≠ 122 * f + i → e' q = e q) (hn : e' (122 * f + i) ≠ -1 ↔ (g1 i || g2 i) = true) : si e' g1 g2 f a (i + 1) := by
  intro v h1 h2
  obtain ⟨a1, a2, a3⟩ := h v h1 h2
  refine ⟨by rw [he _ (by omega)]; exact a1, fun h3 => ?_, fun h3 => by rw [he _ (by omega)]; exact a3 (by omega)⟩
  by_cases z : v = i
  · rw [z]
    exact hn
  · rw [he _ (by omega)]
    exact a2 (by omega)
theorem us_v {e : Int → Int} {f a q0 y c : Int} (he1 : e q0 = y) (hy : y ≠ -1) (he2 : ∀ q : Int, fr f a q → q ≠ q0 → e q = -1) (hq : q0 = 122 * f + c) : ∀ v : Int, 0 ≤ v → v < a → (e (122 * f + v) ≠ -1 ↔ decide (v = c) = true) := by
  intro v h1 h2
  rw [decide_eq_true_iff]
  constructor
  · intro z
    by_cases w : v = c
    · exact w
    · exact absurd (he2 _ ⟨by omega, by omega⟩ (by omega)) z
  · intro z
    rw [z, ← hq, he1]
    exact hy
