/-! THE REFERENCE'S READING, held against the text's machine -/
/-- from one follows the other: hidden from omega, which would split it -/
def imp (P Q : Prop) : Prop := P → Q
def TP (T : List Int) (n : Int) (u : Int → Int) : Prop := n = (T.length : Int) ∧ n ≤ 700 ∧ ∀ q : Int, 0 ≤ q → q < n → u q = gl T q ∧ 0 ≤ u q
def TKv (T : List Int) (e f8 f9 f10 f11 f12 f13 f14 : Int) : Prop := (0 ≤ e ∧ e ≤ (T.length : Int)) ∧ f8 = tE T e ∧ f10 = tS T e ∧ ((tO T e = 0 ∧ f9 = 0) ∨ (tO T e = 97 ∧ f9 = 1 ∧ f14 = tE T e - tS T e ∧ (f14 ≤ 8 → f13 = en (slw T (tS T e) (tE T e)))) ∨ (tO T e = 48 ∧ f9 = 2 ∧ f12 = tE T e - tS T e ∧ f11 = gl T (tS T e) - 48) ∨ (tO T e = 1 ∧ f9 = 4) ∨ (tO T e ≠ 0 ∧ tO T e ≠ 97 ∧ tO T e ≠ 48 ∧ tO T e ≠ 1 ∧ f9 = 3 ∧ f11 = tO T e))
def WL (T : List Int) (p q m w : Int) : Prop := 0 ≤ p ∧ p ≤ q ∧ q ≤ (T.length : Int) ∧ m = q - p ∧ tw lett T q = tw lett T p ∧ (∀ x, x ∈ slw T p q → 97 ≤ x ∧ x ≤ 122) ∧ (m ≤ 8 → w = en (slw T p q))
def FL (T : List Int) (p q m : Int) : Prop := 0 ≤ p ∧ p ≤ q ∧ q ≤ (T.length : Int) ∧ m = q - p ∧ tw figu T q = tw figu T p
section TPS
variable {T : List Int} {n e p q q' m m' w w' f8 f9 f10 f11 f12 f13 f14 : Int} {u : Int → Int}
theorem tS_n (hT : TP T n u) (h0 : 0 ≤ q) (h1 : q < n) (hb : u q = 32 ∨ u q = 10) (hq : q' = q + 1) : tS T q' = tS T q := by
  subst hq
  have h2 := hT.2.2 q h0 h1
  have h3 := hT.1
  unfold tS
  refine (tw_step h0 (by omega) ?_).symm
  unfold bl
  rw [← h2.1]
  exact decide_eq_true hb
theorem tS_q (hT : TP T n u) (h0 : 0 ≤ q) (h : q < n → ¬ (u q = 32 ∨ u q = 10)) : tS T q = q := by
  have h3 := hT.1
  by_cases z : q < n
  · have h2 := hT.2.2 q h0 z
    unfold tS
    refine tw_stop h0 ?_
    unfold bl
    rw [← h2.1]
    exact decide_eq_false (h z)
  · exact tw_end (by omega)
theorem tk_end (hT : TP T n u) (h0 : 0 ≤ e) (h1 : e ≤ n) (hp : p = tS T e) (hn : n ≤ p) (h8 : f8 = p) (h9 : f9 = 0) (h10 : f10 = p) : TKv T e f8 f9 f10 f11 f12 f13 f14 := by
  have h3 := hT.1
  have hO : tO T e = 0 := by
    unfold tO
    exact so_e.mpr (by omega)
  have hE : tE T e = tS T e := by
    unfold tE
    rw [if_pos hO]
  exact ⟨⟨h0, by omega⟩, by omega, by omega, Or.inl ⟨hO, h9⟩⟩
theorem WL.z (h0 : 0 ≤ p) (h1 : p ≤ (T.length : Int)) (hq : q = p) (hm : m = 0) (hw : w = 0) : WL T p q m w := by
  subst hq hm hw
  exact ⟨h0, Int.le_refl _, h1, by omega, rfl, fun x hx => (by rw [slw_z] at hx; cases hx), fun _ => by rw [slw_z]; rfl⟩
theorem WL.s (hT : TP T n u) (h : WL T p q m w) (h1 : q < n) (h2 : 97 ≤ u q ∧ u q ≤ 122) (hq : q' = q + 1) (hm : m' = m + 1) (hw : m' ≤ 8 → w' = 27 * w + u q - 97 + 1) : WL T p q' m' w' := by
  obtain ⟨e1, e2, e3, e4, e5, e6, e7⟩ := h
  have h3 := hT.1
  have h4 := hT.2.2 q (by omega) h1
  subst hq
  have hs := slw_s (T := T) (p := p) (q := q) e1 e2 (by omega)
  refine ⟨e1, by omega, by omega, by omega, ?_, fun x hx => ?_, fun z => ?_⟩
  · rw [← e5]
    refine (tw_step (by omega) (by omega) ?_).symm
    unfold lett
    rw [← h4.1]
    exact decide_eq_true h2
  · rw [hs] at hx
    rcases List.mem_append.mp hx with y | y
    · exact e6 x y
    · rw [List.mem_singleton.mp y, ← h4.1]
      exact h2
  · rw [hs, en_s, ← e7 (by omega), ← h4.1]
    exact hw z
theorem WL.b (h : WL T p q m w) (hm : m ≤ 8) : 0 ≤ w ∧ w < 282429536481 := by
  obtain ⟨e1, e2, e3, e4, e5, e6, e7⟩ := h
  rw [e7 hm]
  refine en_b ⟨?_, e6⟩
  have := slw_l (T := T) e1 e2 e3
  omega
theorem WL.fin (hT : TP T n u) (h : WL T p q m w) (h0 : 0 ≤ e) (h1 : e ≤ n) (hp : p = tS T e) (h2 : p < n) (h3 : 97 ≤ u p ∧ u p ≤ 122) (h4 : q < n → ¬ (97 ≤ u q ∧ u q ≤ 122)) (h8 : f8 = q) (h9 : f9 = 1) (h10 : f10 = p) (h13 : f13 = w) (h14 : f14 = m) : TKv T e f8 f9 f10 f11 f12 f13 f14 := by
  obtain ⟨e1, e2, e3, e4, e5, e6, e7⟩ := h
  have k1 := hT.1
  have k2 := hT.2.2 p e1 h2
  have hO : tO T e = 97 := by
    unfold tO
    rw [← hp]
    exact so_lt.mpr ⟨by omega, by unfold lett; rw [← k2.1]; exact decide_eq_true h3⟩
  have hq : tw lett T q = q := by
    by_cases z : q < n
    · refine tw_stop (by omega) ?_
      unfold lett
      rw [← (hT.2.2 q (by omega) z).1]
      exact decide_eq_false (h4 z)
    · exact tw_end (by omega)
  have hE : tE T e = q := by
    unfold tE
    rw [if_neg (by rw [hO]; decide), if_pos hO, ← hp, ← e5, hq]
  refine ⟨⟨h0, by omega⟩, by omega, by omega, Or.inr (Or.inl ⟨hO, h9, by omega, fun z => ?_⟩)⟩
  rw [hE, ← hp, h13]
  exact e7 (by omega)
theorem FL.z (h0 : 0 ≤ p) (h1 : p ≤ (T.length : Int)) (hq : q = p) (hm : m = 0) : FL T p q m := by
  subst hq hm
  exact ⟨h0, Int.le_refl _, h1, by omega, rfl⟩
theorem FL.s (hT : TP T n u) (h : FL T p q m) (h1 : q < n) (h2 : 48 ≤ u q ∧ u q ≤ 57) (hq : q' = q + 1) (hm : m' = m + 1) : FL T p q' m' := by
  obtain ⟨e1, e2, e3, e4, e5⟩ := h
  have h3 := hT.1
  have h4 := hT.2.2 q (by omega) h1
  subst hq
  refine ⟨e1, by omega, by omega, by omega, ?_⟩
  rw [← e5]
  refine (tw_step (by omega) (by omega) ?_).symm
  unfold figu
  rw [← h4.1]
  exact decide_eq_true h2
theorem FL.fin (hT : TP T n u) (h : FL T p q m) (h0 : 0 ≤ e) (h1 : e ≤ n) (hp : p = tS T e) (h2 : p < n) (h3 : 48 ≤ u p ∧ u p ≤ 57) (h4 : q < n → ¬ (48 ≤ u q ∧ u q ≤ 57)) (h8 : f8 = q) (h9 : f9 = 2) (h10 : f10 = p) (h11 : f11 = u p - 48) (h12 : f12 = m) : TKv T e f8 f9 f10 f11 f12 f13 f14 := by
  obtain ⟨e1, e2, e3, e4, e5⟩ := h
  have k1 := hT.1
  have k2 := hT.2.2 p e1 h2
  have hO : tO T e = 48 := by
    unfold tO
    rw [← hp]
    exact so_fg.mpr ⟨by omega, by unfold figu; rw [← k2.1]; exact decide_eq_true h3⟩
  have hq : tw figu T q = q := by
    by_cases z : q < n
    · refine tw_stop (by omega) ?_
      unfold figu
      rw [← (hT.2.2 q (by omega) z).1]
      exact decide_eq_false (h4 z)
    · exact tw_end (by omega)
  have hE : tE T e = q := by
    unfold tE
    rw [if_neg (by rw [hO]; decide), if_neg (by rw [hO]; decide), if_pos hO, ← hp, ← e5, hq]
  exact ⟨⟨h0, by omega⟩, by omega, by omega, Or.inr (Or.inr (Or.inl ⟨hO, h9, by omega, by rw [← hp, ← k2.1]; exact h11⟩))⟩
theorem tk_sg (hT : TP T n u) (h0 : 0 ≤ e) (h1 : e ≤ n) (hp : p = tS T e) (hp0 : 0 ≤ p) (h2 : p < n) (h3 : ¬ (97 ≤ u p ∧ u p ≤ 122)) (h4 : ¬ (48 ≤ u p ∧ u p ≤ 57)) (h8 : f8 = p + 1) (h10 : f10 = p) (h11 : f11 = u p) (h9 : (f9 = 3 ∧ (u p = 92 ∨ u p = 46 ∨ u p = 61 ∨ u p = 59 ∨ u p = 40 ∨ u p = 41)) ∨ (f9 = 4 ∧ ¬ (u p = 92 ∨ u p = 46 ∨ u p = 61 ∨ u p = 59 ∨ u p = 40 ∨ u p = 41))) : TKv T e f8 f9 f10 f11 f12 f13 f14 := by
  have k1 := hT.1
  have k2 := hT.2.2 p hp0 h2
  have hO : tO T e = sb (u p) := by
    unfold tO so
    rw [← hp, if_neg (by omega), k2.1]
  have hs : sb (u p) = if u p = 92 ∨ u p = 46 ∨ u p = 61 ∨ u p = 59 ∨ u p = 40 ∨ u p = 41 then u p else 1 := by
    unfold sb
    rw [if_neg h3, if_neg h4]
  have hE : tO T e ≠ 0 → tO T e ≠ 97 → tO T e ≠ 48 → tE T e = tS T e + 1 := fun a b c => by
    unfold tE
    rw [if_neg a, if_neg b, if_neg c]
  rcases h9 with ⟨a, b⟩ | ⟨a, b⟩
  · rw [if_pos b] at hs
    have hE := hE (by omega) (by omega) (by omega)
    exact ⟨⟨h0, by omega⟩, by omega, by omega, Or.inr (Or.inr (Or.inr (Or.inr ⟨by omega, by omega, by omega, by omega, a, by omega⟩)))⟩
  · rw [if_neg b] at hs
    have hE := hE (by omega) (by omega) (by omega)
    exact ⟨⟨h0, by omega⟩, by omega, by omega, Or.inr (Or.inr (Or.inr (Or.inl ⟨by omega, a⟩)))⟩
theorem tk_61 (hT : TP T n u) (h0 : 0 ≤ e) (h1 : e ≤ n) {x : Int} (hx : (tS T e < n ∧ x = u (tS T e)) ∨ (n ≤ tS T e ∧ x = -1)) : x = 61 ↔ tO T e = 61 := by
  have k1 := hT.1
  have hb := tS_b (T := T) h0 (by omega)
  unfold tO so
  rcases hx with ⟨a, b⟩ | ⟨a, b⟩
  · have k2 := hT.2.2 (tS T e) (by omega) a
    rw [if_neg (by omega), ← k2.1, b]
    unfold sb
    constructor
    · intro z
      rw [z]
      decide
    · intro z
      (repeat' split at z) <;> omega
  · rw [if_pos (by omega), b]
    decide
end TPS
theorem jv_bm {n : Int} (h1 : -9223372036854775808 ≤ n) (h2 : n < 9223372036854775808) : n.bmod (2 ^ 64) = n := Int.bmod_eq_of_le_mul_two (by omega) (by omega)
section JV
variable {x y z : Int64} {c : Int}
theorem jv_add (h : x + y = z) (h1 : -9223372036854775808 ≤ x.toInt + y.toInt) (h2 : x.toInt + y.toInt < 9223372036854775808) : z.toInt = x.toInt + y.toInt := by
  rw [← h, Int64.toInt_add]
  exact jv_bm h1 h2
theorem jv_sub (h : x - y = z) (h1 : -9223372036854775808 ≤ x.toInt - y.toInt) (h2 : x.toInt - y.toInt < 9223372036854775808) : z.toInt = x.toInt - y.toInt := by
  rw [← h, Int64.toInt_sub]
  exact jv_bm h1 h2
theorem jv_mul (h : x * y = z) (hc : x.toInt = c) (h1 : -9223372036854775808 ≤ c * y.toInt) (h2 : c * y.toInt < 9223372036854775808) : z.toInt = c * y.toInt := by
  rw [← h, Int64.toInt_mul, hc]
  exact jv_bm h1 h2
theorem jv_up {a : Int32} (h : a.toInt64 = z) : z.toInt = a.toInt := by
  rw [← h]
  exact Int32.toInt_toInt64 a
theorem jc_eq {v : Int32} (h : lg_cmp x y = v) : v.toInt = 0 ↔ x.toInt = y.toInt := by
  rw [← h]
  exact iv_eq0.symm.trans ((lg_cmp_eq x y).trans Int64.toInt_inj.symm)
end JV
/-- the parts so far; the names; the words around -/
def CU (c : List Int) (n : Int) (u : Int → Int) : Prop := n = min (c.length : Int) 1000000 ∧ (n ≤ 124 → ∀ q : Nat, q < c.length → c[q]? = some (u q))
def NR (ns nw : List (List Int)) (n : Int) (N P M : Int → Int) : Prop := n = (ns.length : Int) ∧ nw.length = ns.length ∧ ns.length ≤ 12 ∧ ∀ k : Nat, k < ns.length → ∃ l w : List Int, ns[k]? = some l ∧ nw[k]? = some w ∧ N k = en w ∧ wok w ∧ M k = min (l.length : Int) 1000000 ∧ (M k ≤ 124 → ∀ q : Nat, q < l.length → l[q]? = some (P (124 * k + q)))
def BD (ar : List (List Int)) (n : Int) (B : Int → Int) : Prop := 0 ≤ n ∧ n ≤ (ar.length : Int) ∧ ar.length ≤ 30 ∧ ∀ k : Nat, (k : Int) < n → ∃ w : List Int, ar[k]? = some w ∧ B k = en w ∧ wok w
section CUS
variable {c l : List Int} {n n' N v x a s : Int} {u u' P : Int → Int}
theorem CU.emit (h : CU c n u) (h1 : n < 1000000 → n' = n + 1) (h2 : ¬ n < 1000000 → n' = n) (h3 : n' ≤ 124 → u' n = v ∧ ∀ q : Int, q ≠ n → u' q = u q) (hx : v = x) : CU (c ++ [x]) n' u' := by
  subst hx
  obtain ⟨e1, e2⟩ := h
  refine ⟨by rw [List.length_append]; show n' = min ((c.length + 1 : Nat) : Int) 1000000; omega, fun z q hq => ?_⟩
  rw [List.length_append] at hq
  have hq : q < c.length + 1 := hq
  obtain ⟨f1, f2⟩ := h3 z
  have hn : n = (c.length : Int) := by omega
  by_cases e : q = c.length
  · rw [e, List.getElem?_append_right (Nat.le_refl _), Nat.sub_self, ← hn, f1]
    rfl
  · rw [List.getElem?_append_left (by omega), f2 q (by omega)]
    exact e2 (by omega) q (by omega)
theorem CU.ahead {ch : Nat} (h : CU c n u) (ha : a = min (ch : Int) 1000000) (hc : ch ≤ c.length) (h1 : n < 1000000 → n' = n + 1) (h2 : ¬ n < 1000000 → n' = n) (h3 : n' ≤ 124 → u' a = 0 ∧ (∀ q : Int, q < a → u' q = u q) ∧ ∀ q : Int, a ≤ q → q < n → u' (q + 1) = u q) : CU (c.take ch ++ 0 :: c.drop ch) n' u' := by
  obtain ⟨e1, e2⟩ := h
  have hl : (c.take ch ++ 0 :: c.drop ch).length = c.length + 1 := by
    rw [List.length_append, List.length_take, List.length_cons, List.length_drop]
    omega
  refine ⟨by rw [hl]; omega, fun z q hq => ?_⟩
  rw [hl] at hq
  obtain ⟨f1, f2, f3⟩ := h3 z
  have hn : n = (c.length : Int) := by omega
  have ha : a = (ch : Int) := by omega
  have hlt : (c.take ch).length = ch := by
    rw [List.length_take]
    omega
  by_cases z1 : q < ch
  · rw [List.getElem?_append_left (by omega), List.getElem?_take_of_lt z1, f2 q (by omega)]
    exact e2 (by omega) q (by omega)
  · rw [List.getElem?_append_right (by omega), hlt]
    by_cases z2 : q = ch
    · rw [z2, Nat.sub_self, ← ha, f1]
      rfl
    · rw [show q - ch = (q - ch - 1) + 1 by omega, List.getElem?_cons_succ, List.getElem?_drop, show ch + (q - ch - 1) = q - 1 by omega]
      have f4 := f3 ((q - 1 : Nat) : Int) (by omega) (by omega)
      rw [show ((q - 1 : Nat) : Int) + 1 = (q : Int) by omega] at f4
      rw [f4]
      exact e2 (by omega) (q - 1) (by omega)
theorem CU.put (h : CU c n u) (hN : N = min (l.length : Int) 1000000) (h1 : n' = min (n + N) 1000000) (h2 : N ≤ 124 → ∀ q : Nat, q < l.length → l[q]? = some (P (s + q))) (h3 : n' ≤ 124 → (∀ k : Int, 0 ≤ k → k < N → u' (n + k) = P (s + k)) ∧ ∀ q : Int, q < n → u' q = u q) : CU (c ++ l) n' u' := by
  obtain ⟨e1, e2⟩ := h
  refine ⟨by rw [List.length_append]; show n' = min ((c.length + l.length : Nat) : Int) 1000000; omega, fun z q hq => ?_⟩
  rw [List.length_append] at hq
  obtain ⟨f1, f2⟩ := h3 z
  have hn : n = (c.length : Int) := by omega
  by_cases z1 : q < c.length
  · rw [List.getElem?_append_left z1, f2 q (by omega)]
    exact e2 (by omega) q z1
  · rw [List.getElem?_append_right (by omega), h2 (by omega) (q - c.length) (by omega), ← f1 ((q - c.length : Nat) : Int) (by omega) (by omega), hn]
    congr 2
    omega
theorem nul_s {k : Nat} : nul (k + 1) = nul k ++ [0] ++ [3] := by
  unfold nul
  rw [List.replicate_succ', List.flatten_append]
  simp only [List.flatten_cons, List.flatten_nil, List.append_assoc, List.cons_append, List.nil_append, List.append_nil]
theorem CU.nil (hn : n = 0) : CU [] n u := ⟨by subst hn; rfl, fun _ q hq => absurd hq (Nat.not_lt_zero q)⟩
end CUS
section NRS
variable {ns nw ar : List (List Int)} {n x : Int} {N P M B : Int → Int} {w : List Int}
/-- the first name that is this word; none -/
theorem NR.fi (h : NR ns nw n N P M) (hw : wok w) (hx : (x = -1 ∧ ∀ k : Int, 0 ≤ k → k < n → N k ≠ en w) ∨ (0 ≤ x ∧ x < n ∧ N x = en w ∧ ∀ k : Int, 0 ≤ k → k < x → N k ≠ en w)) : fi w nw = x := by
  obtain ⟨e1, e2, e3, e4⟩ := h
  have hne : ∀ k : Nat, (k : Int) < n → N k ≠ en w → nw[k]? ≠ some w := fun k h1 h2 h3 => by
    obtain ⟨l, w', -, g2, g3, -⟩ := e4 k (by omega)
    rw [g2] at h3
    exact h2 (by rw [g3, Option.some.inj h3])
  rcases hx with ⟨h1, h2⟩ | ⟨h1, h2, h3, h4⟩
  · refine fi_u (Or.inl ⟨h1, fun k hk => ?_⟩)
    by_cases z : k < ns.length
    · exact hne k (by omega) (h2 k (by omega) (by omega)) hk
    · rw [List.getElem?_eq_none (by omega)] at hk
      cases hk
  · refine fi_u (Or.inr ⟨h1, ?_, fun k hk => hne k (by omega) (h4 k (by omega) hk)⟩)
    obtain ⟨l, w', -, g2, g3, g4, -⟩ := e4 x.toNat (by omega)
    rw [show ((x.toNat : Nat) : Int) = x by omega, h3] at g3
    rw [g2, en_i hw g4 g3]
theorem BD.fi (h : BD ar n B) (hn : n = (ar.length : Int)) (hw : wok w) (hx : (x = -1 ∧ ∀ k : Int, 0 ≤ k → k < n → B (n - 1 - k) ≠ en w) ∨ (0 ≤ x ∧ x < n ∧ B (n - 1 - x) = en w ∧ ∀ k : Int, 0 ≤ k → k < x → B (n - 1 - k) ≠ en w)) : fi w ar.reverse = x := by
  obtain ⟨e1, e2, e3, e4⟩ := h
  have hrv : ∀ k : Nat, (k : Int) < n → ar.reverse[k]? = ar[ar.length - 1 - k]? := fun k hk => List.getElem?_reverse (by omega)
  have hne : ∀ k : Nat, (k : Int) < n → B (n - 1 - k) ≠ en w → ar.reverse[k]? ≠ some w := fun k h1 h2 h3 => by
    obtain ⟨w', g2, g3, -⟩ := e4 (ar.length - 1 - k) (by omega)
    rw [hrv k h1, g2] at h3
    rw [show ((ar.length - 1 - k : Nat) : Int) = n - 1 - k by omega] at g3
    exact h2 (by rw [g3, Option.some.inj h3])
  rcases hx with ⟨h1, h2⟩ | ⟨h1, h2, h3, h4⟩
  · refine fi_u (Or.inl ⟨h1, fun k hk => ?_⟩)
    by_cases z : k < ar.length
    · exact hne k (by omega) (h2 k (by omega) (by omega)) hk
    · rw [List.getElem?_eq_none (by rw [List.length_reverse]; omega)] at hk
      cases hk
  · refine fi_u (Or.inr ⟨h1, ?_, fun k hk => hne k (by omega) (h4 k (by omega) hk)⟩)
    obtain ⟨w', g2, g3, g4⟩ := e4 (ar.length - 1 - x.toNat) (by omega)
    rw [show ((ar.length - 1 - x.toNat : Nat) : Int) = n - 1 - x by omega, h3] at g3
    rw [hrv x.toNat (by omega), g2, en_i hw g4 g3]
end NRS
