/-! counting parts; a name is told -/
def HNM (N : List Int) (ns : List (List Int)) : Prop := ∀ i : Nat, i < ns.length → ∃ w : List Int, ns[i]? = some w ∧ PCN i (gl N (5 * (i : Int) + 4)) w.length
section PKC
variable {T c nv N l : List Int} {F F' : rf_f} {A A' : xl_A} {ch ch' n : Nat} {e e' p x : Int} {ns nw ar : List (List Int)} {cs q : Nat} {nv' : List Int}
theorem nul_l {m : Nat} : (nul m).length = 2 * m + 2 := by
  unfold nul
  have h : ∀ k : Nat, ((List.replicate k [0, 3] : List (List Int)).flatten).length = 2 * k := fun k => by
    induction k with
    | zero => rfl
    | succ k ih =>
      rw [List.replicate_succ, List.flatten_cons, List.length_append, ih]
      show 2 + 2 * k = 2 * (k + 1)
      omega
  show (((List.replicate m [0, 3] : List (List Int)).flatten).length + 1) + 1 = 2 * m + 2
  rw [h]
theorem pe_c (hN : HNM N ns) (hx : -11 - (ns.length : Int) < x) : 1 ≤ (xev ns x).length ∧ 0 ≤ pe N x ∧ (pe N x ≤ 21 ∨ pe N x ≤ 200 * (ns.length : Int)) ∧ ((pe N x ≤ 120 ∧ pe N x = ((xev ns x).length : Int)) ∨ (120 < pe N x ∧ 120 < (xev ns x).length)) := by
  by_cases h1 : -1 < x
  · rw [pe_1 h1, xev_p h1]
    exact ⟨Nat.le_refl _, by decide, Or.inl (by decide), Or.inl ⟨by decide, rfl⟩⟩
  · by_cases h2 : -11 < x
    · have hl : (xev ns x).length = 2 * (-1 - x).toNat + 2 + 1 := by
        rw [xev_n h1 h2, List.length_append, nul_l]
        first | done | rfl
      rw [pe_2 h1 h2, hl]
      omega
    · obtain ⟨w, hw, p1, p2, p3, p4⟩ := hN (-11 - x).toNat (by omega)
      have hl : xev ns x = w := by
        rw [xev_w h2, List.getD_eq_getElem?_getD, hw]
        rfl
      rw [show (5 : Int) * (((-11 - x).toNat : Nat) : Int) + 4 = 5 * (-11 - x) + 4 by omega] at p2 p3 p4
      rw [pe_3 h1 h2, hl]
      omega
theorem pk_c (hN : HNM N ns) : ∀ {l : List Int} {p : Int} {q : Nat}, xvl ns.length l → 0 ≤ p → p ≤ 200 * ((ns.length : Int) + 1) → ((p ≤ 120 ∧ p = (q : Int)) ∨ (120 < p ∧ 120 < q)) → 0 ≤ pk N l p ∧ pk N l p ≤ 200 * ((ns.length : Int) + 1) ∧ ((pk N l p ≤ 120 ∧ pk N l p = ((q + (xex ns l).length : Nat) : Int)) ∨ (120 < pk N l p ∧ 120 < q + (xex ns l).length))
  | [], p, q, _, h0, h1, h2 => ⟨h0, h1, h2⟩
  | x :: l, p, q, hv, h0, h1, h2 => by
    have hx := hv x (List.mem_cons.mpr (Or.inl rfl))
    have hv2 : xvl ns.length l := fun y hy => hv y (List.mem_cons.mpr (Or.inr hy))
    obtain ⟨g1, g2, g3, g4⟩ := pe_c hN hx
    have hl : (xex ns (x :: l)).length = (xev ns x).length + (xex ns l).length := by
      rw [xex_cons, List.length_append]
    by_cases z : p ≤ 120
    · have e : pk N (x :: l) p = pk N l (p + pe N x) := if_pos z
      have ih := pk_c hN (p := p + pe N x) (q := q + (xev ns x).length) hv2 (by omega) (by omega) (by omega)
      rw [e, hl]
      rw [Nat.add_assoc] at ih
      exact ih
    · have e : pk N (x :: l) p = p := if_neg z
      rw [e, hl]
      exact ⟨h0, h1, Or.inr ⟨by omega, by omega⟩⟩
theorem xex_1 (hN : HNM N ns) (hv : xvl ns.length l) (hl : l ≠ []) : 1 ≤ (xex ns l).length := by
  cases l with
  | nil => exact absurd rfl hl
  | cons x l =>
    rw [xex_cons, List.length_append]
    have := (pe_c hN (hv x (List.mem_cons.mpr (Or.inl rfl)))).1
    omega
theorem NMD.hnm {C : List Int} (h : NMD T N C cs ns nw) : HNM N ns := fun i hi => by
  obtain ⟨c1, c2, -, -, -, -, -, g, g2⟩ := h.2.2 i hi
  exact ⟨_, g, g2⟩
theorem ssl_len {k v : Int} : (ssl l k v).length = l.length := by
  unfold ssl
  split
  · rw [List.length_set]
  · rfl
theorem CLq.sem {N1 : List Int} (h : CLq T F A 4 e c ch n ns nw ar [] 1 nv) (he : e ≤ e') (hN : N1 = ssl (A 7) (5 * F 410 + 3) ((A 5).length : Int)) (f6 : F' 406 = 0) (f8 : F' 408 = 0) (f9 : F' 409 = ((A 5).length : Int)) (f10 : F' 410 = F 410 + 1) (f11 : F' 411 = 0) (a2 : A' 2 = A 2) (a5 : A' 5 = A 5) (a7 : A' 7 = ssl N1 (5 * F 410 + 4) (pk N1 (sg (A 5) (gl N1 (5 * F 410 + 2)) ((A 5).length : Int)) 0)) (a9 : A' 9 = []) (a11 : A' 11 = A 11) : CLq T F' A' 0 e' [] ch' 0 (ns ++ [c]) (nw ++ [nv]) [] [] 0 nv' := by
  obtain ⟨h1, ⟨q6, q8, q10, q11⟩, ⟨k0, k1, k2, k3, k4, k5, k6, k7, k8⟩, k9, cs, hc, ⟨m1, m2⟩, m3, m4, m5, m6, m7⟩ := h
  obtain ⟨v1, v2, v3⟩ := m5 rfl
  have hD := m7 rfl
  rw [q10] at hN a7 f10
  have d3 : xvl ns.length ((A 5).drop cs) := m3.2.1
  have d4 : xex ns ((A 5).drop cs) = c := m3.2.2.1
  have d5 : A 11 = [] := m3.2.2.2.2.2
  have l7 : ((A 7).length : Int) = 5 * (ns.length : Int) + 5 := by omega
  have l1 : (N1.length : Int) = 5 * (ns.length : Int) + 5 := by
    rw [hN, ssl_len]
    exact l7
  have n1 : ∀ r : Int, r ≠ 5 * (ns.length : Int) + 3 → gl N1 r = gl (A 7) r := fun r hr => by
    rw [hN]
    exact gl_ssl hr
  have n13 : gl N1 (5 * (ns.length : Int) + 3) = ((A 5).length : Int) := by
    rw [hN]
    exact gl_sse (by omega) (by omega)
  have m41 : NMD T N1 (A 5) cs ns nw := m4.nm (fun r r0 r1 => n1 r (by omega))
  have hs : sg (A 5) (gl N1 (5 * (ns.length : Int) + 2)) ((A 5).length : Int) = (A 5).drop cs := by
    rw [n1 _ (by omega), v3]
    unfold sg
    rw [show ((cs : Int)).toNat = cs by omega]
    exact List.take_of_length_le (by rw [List.length_drop]; omega)
  rw [hs] at a7
  obtain ⟨c0, c1, c2⟩ := pk_c m41.hnm (p := 0) (q := 0) d3 (by omega) (by omega) (Or.inl ⟨by decide, rfl⟩)
  have c3 := xex_1 m41.hnm d3 hD
  rw [d4] at c2 c3
  have n2 : ∀ r : Int, r ≠ 5 * (ns.length : Int) + 4 → gl (A' 7) r = gl N1 r := fun r hr => by
    rw [a7]
    exact gl_ssl hr
  have n24 : gl (A' 7) (5 * (ns.length : Int) + 4) = pk N1 ((A 5).drop cs) 0 := by
    rw [a7]
    exact gl_sse (by omega) (by omega)
  have m42 : NMD T (A' 7) (A 5) cs ns nw := m41.nm (fun r r0 r1 => n2 r (by omega))
  have l2 : (A' 7).length = (A 7).length := by
    rw [a7, ssl_len, hN, ssl_len]
  have hl1 : (ns ++ [c]).length = ns.length + 1 := by
    rw [List.length_append]
    rfl
  unfold CLq
  rw [f8, f9, a2, a5, a9, a11, hl1]
  refine ⟨h1, ⟨f6, rfl, by omega, f11⟩, ⟨Nat.zero_le _, Nat.zero_le _, by omega, Nat.zero_le _, Nat.zero_le _, by omega, fun o ho => (by cases ho), by omega, by omega⟩, ARD.z, (A 5).length, 0, ⟨rfl, Nat.le_refl _⟩, ?_, ?_, fun z => absurd z (by decide), fun _ => ⟨List.drop_length, rfl⟩, fun z => absurd z (by decide)⟩
  · rw [List.drop_length]
    exact ⟨Nat.le_refl _, fun x hx => (by cases hx), rfl, fun _ => rfl, fun z => absurd rfl z, d5⟩
  · obtain ⟨w1, w2, w3⟩ := m42
    have hg : gl (A' 7) (5 * (ns.length : Int)) = gl (A 7) (5 * (ns.length : Int)) ∧ gl (A' 7) (5 * (ns.length : Int) + 1) = gl (A 7) (5 * (ns.length : Int) + 1) ∧ gl (A' 7) (5 * (ns.length : Int) + 2) = (cs : Int) ∧ gl (A' 7) (5 * (ns.length : Int) + 3) = ((A 5).length : Int) := by
      refine ⟨?_, ?_, ?_, ?_⟩
      · rw [n2 _ (by omega), n1 _ (by omega)]
      · rw [n2 _ (by omega), n1 _ (by omega)]
      · rw [n2 _ (by omega), n1 _ (by omega), v3]
      · rw [n2 _ (by omega), n13]
    obtain ⟨hg0, hg1, hg2, hg3⟩ := hg
    refine ⟨?_, ?_, ?_⟩
    · rw [hl1]
      intro i i0 i1
      by_cases z : i = (ns.length : Int)
      · rw [z, hg0, hg1]
        exact v1
      · exact w1 i i0 (by omega)
    · rw [hl1, wds_s, w2, hg0, hg1, v2]
    · intro i hi
      rw [hl1] at hi
      by_cases z : i = ns.length
      · subst z
        have ht : ((A 5).take (A 5).length).drop cs = (A 5).drop cs := by rw [List.take_length]
        refine ⟨cs, (A 5).length, hg2, hg3, m2, Nat.le_refl _, ?_, ?_, ?_⟩
        · rw [ht]
          exact d3
        · rw [ht, xex_more d3, d4, List.getElem?_append_right (Nat.le_refl _), Nat.sub_self]
          first | done | rfl
        · rw [ht, xex_more d3, d4, n24]
          unfold PCN
          omega
      · obtain ⟨r1, r2, g1, g2, g3, g4, g5, g6, g7⟩ := w3 i (by omega)
        have g8 := xex_more (c := c) (xvl_mono (m := ns.length) g5 (by omega))
        exact ⟨r1, r2, g1, g2, g3, Nat.le_trans g4 m2, g5, by rw [g8, List.getElem?_append_left (by omega)]; exact g6, by rw [g8]; exact g7⟩
end PKC
