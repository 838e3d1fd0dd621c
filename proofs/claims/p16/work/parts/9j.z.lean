/-! TELL, against the machine -/
def ltx (c : List Int) : Int → Int := fun q => c.getD (q - 2600).toNat 0
def cnt (c : List Int) : Nat := cs (ltx c) 120 0 2600
def XW (T c : List Int) (f5 f23 : Int) (a22 : Int → Int) : Prop := (∃ p : Int, Ev T m_0 (0, p, c)) ∧ c.length ≤ 120 ∧ f5 = -1 ∧ CU c f23 a22
def TZ (T : List Int) (x f5 : Int) (a b : Int → Int) : Prop := ∃ r : Int × Int × List Int, Ev T m_0 r ∧ ((r.1 ≠ 0 ∧ x = r.1 ∧ f5 = r.2.1) ∨ (r.1 = 0 ∧ 120 < r.2.2.length ∧ x = 5 ∧ f5 = (T.length : Int)) ∨ (r.1 = 0 ∧ r.2.2.length ≤ 120 ∧ sc (ltx r.2.2) 120 0 2600 r.2.2.length ∧ ((400 < 1 + cnt r.2.2 ∧ x = 5 ∧ f5 = (T.length : Int)) ∨ (1 + cnt r.2.2 ≤ 400 ∧ x = 0 ∧ f5 = -1 ∧ b 2 = (r.2.2.length : Int) ∧ ∀ q : Nat, q < r.2.2.length → r.2.2[q]? = some (a (2600 + q))))))
def TS (a b a' b' : Int → Int) : Prop := b' 2 = b 2 ∧ ∀ k : Int, 2600 ≤ k → k < 2600 + b 2 → a' k = a k
section TZS
variable {T c : List Int} {x f5 f6 f23 g5 : Int} {a b a22 a' b' : Int → Int} {n : Nat}
theorem XZ.ok (h : XZ T f5 f6 f23 a22) (h6 : f6 = 0) : ∃ c : List Int, XW T c f5 f23 a22 := by
  obtain ⟨⟨r1, r2, r3⟩, h1, h2⟩ := h
  rcases h2 with ⟨a1, a2, a3⟩ | ⟨a1, a2, a3, a4, a5⟩ | ⟨a1, a2, a3, a4⟩
  · exact absurd (a2.symm.trans h6) a1
  · have a1 : r1 = 0 := a1
    subst a1
    exact ⟨r3, ⟨r2, h1⟩, a2, a4, a5⟩
  · omega
theorem TZ.bad (h : XZ T f5 f6 f23 a22) (h6 : f6 ≠ 0) (hx : x = f6) (h5 : g5 = f5) : TZ T x g5 a b := by
  subst hx h5
  obtain ⟨r, h1, h2⟩ := h
  rcases h2 with a1 | a1 | a1
  · exact ⟨r, h1, Or.inl a1⟩
  · exact absurd a1.2.2.1 h6
  · exact ⟨r, h1, Or.inr (Or.inl a1)⟩
theorem tz_c (h : XW T c f5 f23 a22) (ha : ∀ k : Int, 2600 ≤ k → k < 2600 + f23 → a k = a22 (k - 2600)) (hn : f23 = (n : Int)) (hs : sc a 120 0 2600 n) : c.length = n ∧ sc (ltx c) 120 0 2600 c.length ∧ cnt c = cs a 120 0 2600 ∧ ∀ q : Nat, q < c.length → c[q]? = some (a (2600 + q)) := by
  obtain ⟨-, h1, -, h2, h3⟩ := h
  have hl : c.length = n := by omega
  have hq : ∀ q : Nat, q < c.length → c[q]? = some (a (2600 + q)) := fun q hq => by
    rw [ha (2600 + q) (by omega) (by omega), show (2600 : Int) + q - 2600 = q by omega]
    exact h3 (by omega) q hq
  have he : ∀ q : Int, 2600 ≤ q → q < 2600 + (n : Int) → ltx c q = a q := fun q q1 q2 => by
    have h4 := hq (q - 2600).toNat (by omega)
    unfold ltx
    rw [List.getD_eq_getElem?_getD, h4]
    show a (2600 + ((q - 2600).toNat : Int)) = a q
    congr 1
    omega
  refine ⟨hl, ?_, ?_, hq⟩
  · rw [hl]
    exact sc_congr he hs
  · unfold cnt
    exact cs_congr he hs
theorem TZ.five (h : XW T c f5 f23 a22) (ha : ∀ k : Int, 2600 ≤ k → k < 2600 + f23 → a k = a22 (k - 2600)) (hn : f23 = (n : Int)) (hs : sc a 120 0 2600 n) (hc : 400 < 1 + (cs a 120 0 2600 : Int)) (hx : x = 5) (h5 : g5 = (T.length : Int)) : TZ T x g5 a' b' := by
  obtain ⟨h1, h2, h3, h4⟩ := tz_c h ha hn hs
  obtain ⟨p, hp⟩ := h.1
  exact ⟨_, hp, Or.inr (Or.inr ⟨rfl, h.2.1, h2, Or.inl ⟨by show 400 < 1 + cnt c; omega, hx, h5⟩⟩)⟩
theorem TZ.fine (h : XW T c f5 f23 a22) (ha : ∀ k : Int, 2600 ≤ k → k < 2600 + f23 → a k = a22 (k - 2600)) (hn : f23 = (n : Int)) (hs : sc a 120 0 2600 n) (hc : 1 + (cs a 120 0 2600 : Int) ≤ 400) (hx : x = 0) (h5 : g5 = -1) (r1 : a' = a) (r2 : b' 2 = f23) : TZ T x g5 a' b' := by
  subst r1
  obtain ⟨h1, h2, h3, h4⟩ := tz_c h ha hn hs
  obtain ⟨p, hp⟩ := h.1
  exact ⟨_, hp, Or.inr (Or.inr ⟨rfl, h.2.1, h2, Or.inr ⟨by show 1 + cnt c ≤ 400; omega, hx, h5, by show b' 2 = (c.length : Int); omega, h4⟩⟩)⟩
end TZS
