/-! the told text -/
def rz (u : Int → Int) (b : Int) : Prop := ∃ t, rd1 u t 0 b 0
def tq (t : Int → Int) (m : Int) : Prop := ∃ n : Nat, m = n ∧ sc t 120 0 2600 n ∧ n ≤ 120 ∧ 1 + (cs t 120 0 2600 : Int) ≤ 400
section CC
variable {t u : Int → Int}
theorem ss_congr : ∀ {k : Nat} {d i : Int} {n : Nat}, (∀ q : Int, i ≤ q → q < i + n → u q = t q) → sc t k d i n → ss u k i = ss t k i := fun e h => by
  rw [sc_ss h, sc_ss (sc_congr e h)]
theorem us_congr : ∀ {k : Nat} {d i : Int} {n : Nat}, (∀ q : Int, i ≤ q → q < i + n → u q = t q) → sc t k d i n → us u k d i = us t k d i
  | 0, _, _, _, _, h => h.elim
  | k + 1, d, i, n, e, h => by
    have hn := sc_n h
    have e0 := e i (by omega) (by omega)
    funext v
    rcases h with ⟨h0, a, b, h1, h2, h3⟩ | ⟨h0, a, h1, h2⟩ | h
    · have g2 := sc_congr (fun q q1 q2 => e q (by omega) (by omega)) h2
      rw [us_app h0 h2, us_app (e0.trans h0) g2, us_congr (fun q q1 q2 => e q (by omega) (by omega)) h2, us_congr (fun q q1 q2 => e q (by omega) (by omega)) h3]
    · rw [us_lam h0, us_lam (e0.trans h0), us_congr (fun q q1 q2 => e q (by omega) (by omega)) h2]
    · rw [us_var (t := t) (by omega) (by omega), us_var (t := u) (by omega) (by omega), e0]
theorem cs_congr : ∀ {k : Nat} {d i : Int} {n : Nat}, (∀ q : Int, i ≤ q → q < i + n → u q = t q) → sc t k d i n → cs u k d i = cs t k d i
  | 0, _, _, _, _, h => h.elim
  | k + 1, d, i, n, e, h => by
    have hn := sc_n h
    have e0 := e i (by omega) (by omega)
    rcases h with ⟨h0, a, b, h1, h2, h3⟩ | ⟨h0, a, h1, h2⟩ | h
    · have g2 := sc_congr (fun q q1 q2 => e q (by omega) (by omega)) h2
      rw [cs_app h0 h2, cs_app (e0.trans h0) g2, us_congr (fun q q1 q2 => e q (by omega) (by omega)) h2, us_congr (fun q q1 q2 => e q (by omega) (by omega)) h3, cs_congr (fun q q1 q2 => e q (by omega) (by omega)) h2, cs_congr (fun q q1 q2 => e q (by omega) (by omega)) h3]
    · rw [cs_lam h0, cs_lam (e0.trans h0), us_congr (fun q q1 q2 => e q (by omega) (by omega)) h2, cs_congr (fun q q1 q2 => e q (by omega) (by omega)) h2]
    · rw [cs_var (t := t) (by omega) (by omega), cs_var (t := u) (by omega) (by omega)]
theorem tq.congr {m m' : Int} (h : tq t m) (hm : m' = m) (e : ∀ q : Int, 2600 ≤ q → q < 2600 + m → u q = t q) : tq u m' := by
  obtain ⟨n, h1, h2, h3, h4⟩ := h
  have e2 : ∀ q : Int, 2600 ≤ q → q < 2600 + n → u q = t q := fun q q1 q2 => e q q1 (by omega)
  exact ⟨n, by omega, sc_congr e2 h2, h3, by rw [cs_congr e2 h2]; exact h4⟩
theorem tq.bd {m : Int} (h : tq t m) : 1 ≤ m ∧ m ≤ 120 := by
  obtain ⟨n, h1, h2, h3, h4⟩ := h
  have := sc_n h2
  omega
theorem rz_txt {b : Int} (h : rz u b) (hb : b ≤ 120) (e : ∀ k : Int, 2600 ≤ k → k < 2600 + b → t k = u (k - 2600)) : ∃ n : Nat, b = n ∧ sc t 120 0 2600 n := by
  obtain ⟨v, n, h1, h2, h3⟩ := h
  refine ⟨n, by omega, sc_up (by omega) (sc_sh (s := 2600) (by omega) (fun q q1 q2 => ?_) h2)⟩
  rw [e (q + 2600) (by omega) (by omega), show q + 2600 - 2600 = q by omega]
theorem ra_1 {A : rf_A} {U : Int → Int} {s m i x y : Int} {a : Nat} (h : ∀ j : Int, 0 ≤ j → j < m → A a (s + j) = U j) (hi : i = s + m) (hx : x = U m) (hy : y = m + 1) : ∀ j : Int, 0 ≤ j → j < y → up2 A a i x a (s + j) = U j := by
  intro j j1 j2
  by_cases e : j = m
  · rw [e, ← hi]
    exact up2_eq.trans hx
  · rw [up2_ne (by omega)]
    exact h j j1 (by omega)
end CC
