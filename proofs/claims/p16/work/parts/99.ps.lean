/-! READING A TEXT: what is read so far is a term -/
def sx (t : Int → Int) (d i : Int) (n : Nat) : Prop := sc t n d i n
def rd1 (u t : Int → Int) (a b d : Int) : Prop := ∃ n : Nat, b = a + n ∧ sx u d a n ∧ ∀ q : Int, q < a → u q = t q
def nm (P N : Int → Int) (c : Int) : Prop := ∀ k : Int, 0 ≤ k → k < c → 0 ≤ N k ∧ N k ≤ 1000000 ∧ (N k ≤ 124 → sx P 0 (124 * k) (N k).toNat)
def nu (u t : Int → Int) (a b k : Int) : Prop := b = a + 2 + 2 * k ∧ u a = 1 ∧ u (a + 1) = 1 ∧ (∀ j : Int, 0 ≤ j → j < k → u (a + 2 + 2 * j) = 0 ∧ u (a + 3 + 2 * j) = 3) ∧ ∀ q : Int, q < a → u q = t q
def fu (u t : Int → Int) (a b k : Int) : Prop := b = a + k ∧ (∀ j : Int, 0 ≤ j → j < k → u (a + j) = 1) ∧ ∀ q : Int, q < a → u q = t q
section PS
variable {t u v P N u' P' N' : Int → Int} {a b c d i s m x y k : Int}
theorem sc_up : ∀ {k k' : Nat} {d i : Int} {n : Nat}, k ≤ k' → sc t k d i n → sc t k' d i n
  | 0, _, _, _, _, _, h => h.elim
  | k + 1, 0, _, _, _, hk, _ => absurd hk (by omega)
  | k + 1, k' + 1, d, i, n, hk, h => by
    rcases h with ⟨h0, a, b, h1, h2, h3⟩ | ⟨h0, a, h1, h2⟩ | h
    · exact Or.inl ⟨h0, a, b, h1, sc_up (by omega) h2, sc_up (by omega) h3⟩
    · exact Or.inr (Or.inl ⟨h0, a, h1, sc_up (by omega) h2⟩)
    · exact Or.inr (Or.inr h)
theorem sc_wk : ∀ {k : Nat} {d d' i : Int} {n : Nat}, d ≤ d' → sc t k d i n → sc t k d' i n
  | 0, _, _, _, _, _, h => h.elim
  | k + 1, d, d', i, n, hd, h => by
    rcases h with ⟨h0, a, b, h1, h2, h3⟩ | ⟨h0, a, h1, h2⟩ | h
    · exact Or.inl ⟨h0, a, b, h1, sc_wk hd h2, sc_wk hd h3⟩
    · exact Or.inr (Or.inl ⟨h0, a, h1, sc_wk (by omega) h2⟩)
    · exact Or.inr (Or.inr ⟨h.1, by omega, h.2.2⟩)
theorem sc_sh {s : Int} : ∀ {k : Nat} {d i i' : Int} {n : Nat}, i' = i + s → (∀ q : Int, i ≤ q → q < i + n → u (q + s) = t q) → sc t k d i n → sc u k d i' n
  | 0, _, _, _, _, _, _, h => h.elim
  | k + 1, d, i, i', n, hi, e, h => by
    have hn := sc_n h
    have e0 := e i (by omega) (by omega)
    rw [← hi] at e0
    rcases h with ⟨h0, a, b, h1, h2, h3⟩ | ⟨h0, a, h1, h2⟩ | h
    · exact Or.inl ⟨by rw [e0]; exact h0, a, b, h1, sc_sh (by omega) (fun q q1 q2 => e q (by omega) (by omega)) h2, sc_sh (by omega) (fun q q1 q2 => e q (by omega) (by omega)) h3⟩
    · exact Or.inr (Or.inl ⟨by rw [e0]; exact h0, a, h1, sc_sh (by omega) (fun q q1 q2 => e q (by omega) (by omega)) h2⟩)
    · exact Or.inr (Or.inr (by rw [e0]; exact h))
theorem sx_app {n n' : Nat} (h0 : t i = 0) (h1 : sx t d (i + 1) n) (h2 : sx t d (i + 1 + n) n') : sx t d i (n + n' + 1) := Or.inl ⟨h0, n, n', rfl, sc_up (by omega) h1, sc_up (by omega) h2⟩
theorem sx_lam {n : Nat} (h0 : t i = 1) (h1 : sx t (d + 1) (i + 1) n) : sx t d i (n + 1) := Or.inr (Or.inl ⟨h0, n, rfl, h1⟩)
theorem sx_var (h0 : 2 ≤ t i) (h1 : t i - 2 < d) : sx t d i 1 := Or.inr (Or.inr ⟨h0, h1, rfl⟩)
theorem rd_var (hb : b = a + 1) (h1 : u a = c) (h2 : ∀ q : Int, q ≠ a → u q = t q) (hc : 2 ≤ c ∧ c - 2 < d) : rd1 u t a b d := ⟨1, hb, sx_var (by rw [h1]; exact hc.1) (by rw [h1]; exact hc.2), fun q hq => h2 q (by omega)⟩
theorem rd_put (hb : b = a + m) (hm : 0 ≤ m) (h : sx P 0 s m.toNat) (h1 : ∀ k : Int, 0 ≤ k → k < m → u (a + k) = P (s + k)) (h2 : ∀ q : Int, q < a → u q = t q) (hd : 0 ≤ d) : rd1 u t a b d := ⟨m.toNat, by omega, sc_wk hd (sc_sh (s := a - s) (by omega) (fun q q1 q2 => by
  have h3 := h1 (q - s) (by omega) (by omega)
  rw [show a + (q - s) = q + (a - s) by omega, show s + (q - s) = q by omega] at h3
  exact h3) h), h2⟩
theorem rd_app (h : rd1 v t a b d) (h0 : u' a = 0) (h1 : ∀ q : Int, a ≤ q → q < b → u' (q + 1) = v q) (h2 : ∀ q : Int, q < a → u' q = v q) (h3 : rd1 u u' (b + 1) c d) : rd1 u t a c d := by
  obtain ⟨n, e1, e2, e3⟩ := h
  obtain ⟨n', f1, f2, f3⟩ := h3
  refine ⟨n + n' + 1, by omega, sx_app ?_ ?_ ?_, fun q hq => ?_⟩
  · rw [f3 a (by omega)]
    exact h0
  · exact sc_sh (s := 1) rfl (fun q q1 q2 => by rw [f3 (q + 1) (by omega)]; exact h1 q q1 (by omega)) e2
  · rw [show a + 1 + (n : Int) = b + 1 by omega]
    exact f2
  · rw [f3 q (by omega), h2 q hq]
    exact e3 q hq
theorem nu_ch : ∀ (m : Nat) {i : Int}, (∀ j : Int, 0 ≤ j → j < m → u (i + 2 * j) = 0 ∧ u (i + 2 * j + 1) = 3) → u (i + 2 * m) = 2 → 2 ≤ d → sx u d i (2 * m + 1)
  | 0, i, _, h2, hd => by
    rw [show i + 2 * ((0 : Nat) : Int) = i by omega] at h2
    exact sx_var (by omega) (by omega)
  | m + 1, i, h1, h2, hd => by
    have h3 := h1 0 (by omega) (by omega)
    rw [show i + 2 * 0 = i by omega] at h3
    have h4 := nu_ch m (i := i + 2) (fun j j1 j2 => by
      have h5 := h1 (j + 1) (by omega) (by omega)
      rw [show i + 2 * (j + 1) = i + 2 + 2 * j by omega] at h5
      exact h5) (by rw [show i + 2 + 2 * (m : Int) = i + 2 * ((m + 1 : Nat) : Int) by omega]; exact h2) hd
    have h6 := sx_app (t := u) (d := d) (n := 1) (n' := 2 * m + 1) h3.1 (sx_var (t := u) (i := i + 1) (d := d) (by omega) (by omega)) (by rw [show i + 1 + ((1 : Nat) : Int) = i + 2 by omega]; exact h4)
    rw [show 1 + (2 * m + 1) + 1 = 2 * (m + 1) + 1 by omega] at h6
    exact h6
theorem nu_0 (hb : b = a + 1) (h1 : v a = 1) (h2 : ∀ q : Int, q ≠ a → v q = t q) (hc : c = b + 1) (h3 : u b = 1) (h4 : ∀ q : Int, q ≠ b → u q = v q) : nu u t a c 0 := ⟨by omega, by rw [h4 a (by omega)]; exact h1, by rw [← hb]; exact h3, fun j j1 j2 => absurd j2 (by omega), fun q hq => by rw [h4 q (by omega)]; exact h2 q (by omega)⟩
theorem nu_s (h : nu t P a b k) (hc : c = b + 1) (h1 : v b = 0) (h2 : ∀ q : Int, q ≠ b → v q = t q) (hx : x = c + 1) (h3 : u c = 3) (h4 : ∀ q : Int, q ≠ c → u q = v q) (hk : 0 ≤ k) (hy : y = k + 1) : nu u P a x y := by
  obtain ⟨e1, e2, e3, e4, e5⟩ := h
  subst hy
  refine ⟨by omega, by rw [h4 _ (by omega), h2 _ (by omega)]; exact e2, by rw [h4 _ (by omega), h2 _ (by omega)]; exact e3, fun j j1 j2 => ?_, fun q hq => by rw [h4 _ (by omega), h2 _ (by omega)]; exact e5 q hq⟩
  by_cases z : j = k
  · rw [z, show a + 2 + 2 * k = b by omega, show a + 3 + 2 * k = c by omega]
    exact ⟨by rw [h4 _ (by omega)]; exact h1, h3⟩
  · rw [h4 _ (by omega), h2 _ (by omega), h4 _ (by omega), h2 _ (by omega)]
    exact e4 j j1 (by omega)
theorem nu_end (h : nu t P a b k) (hk : 0 ≤ k) (hc : c = b + 1) (h1 : u b = 2) (h2 : ∀ q : Int, q ≠ b → u q = t q) (hd : 0 ≤ d) : rd1 u P a c d := by
  obtain ⟨e1, e2, e3, e4, e5⟩ := h
  have h5 := nu_ch (u := u) (d := d + 1 + 1) k.toNat (i := a + 1 + 1) (fun j j1 j2 => by
    have h6 := e4 j j1 (by omega)
    rw [show a + 1 + 1 + 2 * j = a + 2 + 2 * j by omega, show a + 2 + 2 * j + 1 = a + 3 + 2 * j by omega, h2 _ (by omega), h2 _ (by omega)]
    exact h6) (by rw [show a + 1 + 1 + 2 * (k.toNat : Int) = b by omega]; exact h1) (by omega)
  exact ⟨2 * k.toNat + 1 + 1 + 1, by omega, sx_lam (by rw [h2 _ (by omega)]; exact e2) (sx_lam (by rw [h2 _ (by omega)]; exact e3) h5), fun q hq => by rw [h2 _ (by omega)]; exact e5 q hq⟩
theorem fu_0 : fu u u a a 0 := ⟨by omega, fun j j1 j2 => absurd j2 (by omega), fun _ _ => rfl⟩
theorem fu_s (h : fu v t a b k) (hc : c = b + 1) (h1 : u b = 1) (h2 : ∀ q : Int, q ≠ b → u q = v q) (hk : 0 ≤ k) (hy : y = k + 1) : fu u t a c y := by
  obtain ⟨e1, e2, e3⟩ := h
  subst hy
  refine ⟨by omega, fun j j1 j2 => ?_, fun q hq => by rw [h2 _ (by omega)]; exact e3 q hq⟩
  by_cases z : j = k
  · rw [z, ← e1]
    exact h1
  · rw [h2 _ (by omega)]
    exact e2 j j1 (by omega)
theorem fu_ch : ∀ (m : Nat) {a d : Int} {n : Nat}, (∀ j : Int, 0 ≤ j → j < m → u (a + j) = 1) → sx u (d + m) (a + m) n → sx u d a (m + n)
  | 0, a, d, n, _, h => by
    rw [show a + ((0 : Nat) : Int) = a by omega, show d + ((0 : Nat) : Int) = d by omega] at h
    rw [Nat.zero_add]
    exact h
  | m + 1, a, d, n, h1, h => by
    have h2 := h1 0 (by omega) (by omega)
    rw [show a + 0 = a by omega] at h2
    have h3 := fu_ch m (a := a + 1) (d := d + 1) (n := n) (fun j j1 j2 => by
      have h5 := h1 (j + 1) (by omega) (by omega)
      rw [show a + (j + 1) = a + 1 + j by omega] at h5
      exact h5) (by rw [show a + 1 + (m : Int) = a + ((m + 1 : Nat) : Int) by omega, show d + 1 + (m : Int) = d + ((m + 1 : Nat) : Int) by omega]; exact h)
    have h4 := sx_lam h2 h3
    rw [show m + n + 1 = m + 1 + n by omega] at h4
    exact h4
theorem fu_end (h : fu v t a b k) (hk : 0 ≤ k) (h1 : rd1 u v b c m) (hm : m = d + k) : rd1 u t a c d := by
  obtain ⟨e1, e2, e3⟩ := h
  obtain ⟨n, f1, f2, f3⟩ := h1
  refine ⟨k.toNat + n, by omega, fu_ch k.toNat (fun j j1 j2 => ?_) ?_, fun q hq => by rw [f3 _ (by omega)]; exact e3 q hq⟩
  · rw [f3 _ (by omega)]
    exact e2 j j1 (by omega)
  · rw [show d + (k.toNat : Int) = m by omega, show a + (k.toNat : Int) = b by omega]
    exact f2
theorem nm_new (h : nm P N k) (hk : 0 ≤ k) (h1 : N' k = m ∧ ∀ j : Int, j ≠ k → N' j = N j) (hm : 0 ≤ m ∧ m ≤ 1000000) (h2 : ∀ q : Int, q < 124 * k → P' q = P q) (h3 : m ≤ 124 → rd1 u t 0 m 0 ∧ ∀ j : Int, 0 ≤ j → j < m → P' (124 * k + j) = u j) (hc : c = k + 1) : nm P' N' c := by
  intro j j1 j2
  by_cases z : j = k
  · subst z
    rw [h1.1]
    refine ⟨hm.1, hm.2, fun h4 => ?_⟩
    obtain ⟨⟨n, e1, e2, e3⟩, h5⟩ := h3 h4
    have e4 : m.toNat = n := by omega
    rw [e4]
    refine sc_sh (s := 124 * j) (by omega) (fun q q1 q2 => ?_) e2
    rw [show q + 124 * j = 124 * j + q by omega]
    exact h5 q q1 (by omega)
  · rw [h1.2 j z]
    obtain ⟨a1, a2, a3⟩ := h j j1 (by omega)
    exact ⟨a1, a2, fun h4 => sc_congr (fun q q1 q2 => h2 q (by omega)) (a3 h4)⟩
theorem nm_z : nm P N 0 := fun k k1 k2 => absurd k2 (by omega)
end PS
