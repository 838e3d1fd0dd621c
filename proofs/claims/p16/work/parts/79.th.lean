/-! a new node in the place of a port aside; one node goes through another one -/
section PUT
variable {K K' L L' w w' lm lm0 C D C' D' : Int → Int} {b b' T c c' k l l0 l1 l2 p q x low high pa pb d i j : Int} {E E0 M : Int → Prop}
theorem nx_fresh (h3 : (x = b ∧ b' = b + 1) ∨ (x < b ∧ K x = -1 ∧ b' = b)) {y : Int} (h1 : y < b) (h2 : K y ≠ -1) : y ≠ x := by
  intro e
  subst e
  omega
theorem nx_lt (h3 : (x = b ∧ b' = b + 1) ∨ (x < b ∧ K x = -1 ∧ b' = b)) : x < b' ∧ b ≤ b' := by
  omega
theorem sn.put (h : sn K L w lm b T E M c) (hx : 0 ≤ x) (hb : b' ≤ 400) (h1 : K' x = k ∧ L' x = l) (h2 : ∀ y : Int, y ≠ x → K' y = K y ∧ L' y = L y) (h3 : (x = b ∧ b' = b + 1) ∨ (x < b ∧ K x = -1 ∧ b' = b)) (hk : 1 ≤ k ∧ k ≤ 6) (hl : 0 ≤ l ∧ l ≤ T) (ht : tl k l l0 l1 l2) (hc : c' = c + 1) (hp : E p) (hl0 : lm p = l0) (hr : q = 4 * x) (w1 : w' (w p) = q) (w2 : q ≠ w p → w' q = w p) (w3 : ∀ y : Int, y ≠ q → y ≠ w p → w' y = w y) : sn K' L' w' (ln lm x l0 l1 l2) b' T (fun y => E y ∧ y ≠ p) (fun y => M y ∨ (y / 4 = x ∧ 0 < y % 4 ∧ y % 4 < pr k)) c' := by
  have h4 := h.node hx hb h1 h2 h3 hk hl ht hc
  have hx4 := nx_lt h3
  have hp1 := h.2.2.2.1 p hp
  have hpk := pr_le k
  have h5 := h4.place (p := p) (r := q) hp (Or.inr ⟨by omega, by omega⟩) (by rw [hr, ln_0, ln_n (by omega), hl0]) w1 w2 w3
  refine h5.iff (fun y => Iff.rfl) (fun y => ?_)
  constructor
  · rintro (e | e)
    · have e1 := h.2.2.2.2.1 y e
      have e2 := nx_fresh h3 e1.2.1 e1.2.2.1
      exact ⟨Or.inl e, by omega⟩
    · exact ⟨Or.inr ⟨e.1, e.2.2⟩, by omega⟩
  · rintro ⟨e | e, e2⟩
    · exact Or.inl e
    · exact Or.inr ⟨e.1, by omega, e.2⟩
/-- the wire of the two heads stays -/
theorem sn.keep (h : sn K L w lm b T E M c) (hp : E p) (hw : w 32000 = 32004) (hp4 : p ≠ 32004) : w p ≠ 32000 := fun e => hp4 (by
  have h1 := (h.2.2.1 p (Or.inr hp)).2.1
  rw [e, hw] at h1
  exact h1.symm)
def te (E0 : Int → Prop) (low high i j x : Int) : Prop := E0 x ∧ ¬ (x / 4 = low ∧ 0 < x % 4 ∧ x % 4 ≤ i) ∧ ¬ (x / 4 = high ∧ 0 < x % 4 ∧ x % 4 ≤ j)
def tm (C D : Int → Int) (pa pb i j p q x : Int) : Prop := (∃ t, 0 ≤ t ∧ t < i ∧ x / 4 = C t ∧ 0 < x % 4 ∧ x % 4 ≤ pb ∧ ¬ (t < p ∨ (t = p ∧ x % 4 - 1 < q))) ∨ (∃ u, 0 ≤ u ∧ u < j ∧ x / 4 = D u ∧ 0 < x % 4 ∧ x % 4 ≤ pa ∧ ¬ (x % 4 - 1 < p ∨ (x % 4 - 1 = p ∧ u < q)))
def th (K L w lm : Int → Int) (b T : Int) (E0 : Int → Prop) (lm0 C D : Int → Int) (low high pa pb d i j p q c : Int) : Prop :=
  sn K L w lm b T (te E0 low high i j) (tm C D pa pb i j p q) c ∧ (∀ t : Int, 0 ≤ t → t < i → (0 ≤ C t ∧ C t < b ∧ K (C t) ≠ -1) ∧ ∀ y : Int, 0 < y → y ≤ 2 → lm (4 * C t + y) = lm0 (4 * high + y) + d) ∧ (∀ u : Int, 0 ≤ u → u < j → (0 ≤ D u ∧ D u < b ∧ K (D u) ≠ -1) ∧ ∀ y : Int, 0 < y → y ≤ 2 → lm (4 * D u + y) = lm0 (4 * high + (u + 1)) + d) ∧ (∀ x : Int, 32000 ≤ x → lm x = lm0 x) ∧ (∀ t t' : Int, 0 ≤ t → t < i → 0 ≤ t' → t' < i → C t = C t' → t = t') ∧ (∀ t t' : Int, 0 ≤ t → t < j → 0 ≤ t' → t' < j → D t = D t' → t = t') ∧ (∀ t u : Int, 0 ≤ t → t < i → 0 ≤ u → u < j → C t ≠ D u) ∧ w 32000 = 32004
theorem th.start (h : sn K L w lm b T E0 (fun _ => False) c) (hw : w 32000 = 32004) : th K L w lm b T E0 lm C D low high pa pb d 0 0 0 0 c := by
  refine ⟨h.iff (fun x => ?_) (fun x => ?_), fun t t1 t2 => absurd t2 (by omega), fun t t1 t2 => absurd t2 (by omega), fun _ _ => rfl, fun t t' t1 t2 => absurd t2 (by omega), fun t t' t1 t2 => absurd t2 (by omega), fun t t' t1 t2 => absurd t2 (by omega), hw⟩
  · exact ⟨fun e => e.1, fun e => ⟨e, fun z => by omega, fun z => by omega⟩⟩
  · constructor
    · rintro (⟨t, t1, t2, -⟩ | ⟨t, t1, t2, -⟩) <;> omega
    · exact fun z => z.elim
theorem ln_y {y z : Int} (hy : 0 < y ∧ y ≤ 2) (h1 : z = l1) (h2 : z = l2) : ln lm x l0 l1 l2 (4 * x + y) = z := by
  unfold ln
  rw [if_pos (by omega), if_neg (by omega), h1]
  split <;> omega
theorem ln_z {y z : Int} (hy : 0 < y ∧ y ≤ 2) (h1 : y = 1 → z = l1) (h2 : y = 2 → z = l2) : ln lm x l0 l1 l2 (4 * x + y) = z := by
  unfold ln
  rw [if_pos (by omega), if_neg (by omega)]
  split <;> omega
/-- a copy of the high one -/
theorem th.copy (h : th K L w lm b T E0 lm0 C D low high pa pb d i 0 0 0 c) (hi : 0 ≤ i ∧ i < 2) (hx : 0 ≤ x) (hb : b' ≤ 400) (h1 : K' x = k ∧ L' x = l) (h2 : ∀ y : Int, y ≠ x → K' y = K y ∧ L' y = L y) (h3 : (x = b ∧ b' = b + 1) ∨ (x < b ∧ K x = -1 ∧ b' = b)) (hk : 1 ≤ k ∧ k ≤ 5) (hl : 0 ≤ l ∧ l ≤ T) (ht : tl k l l0 (lm0 (4 * high + 1) + d) (lm0 (4 * high + 2) + d)) (hc : c' = c + 1) (hlow : 8000 ≤ low ∧ low ≤ 8001) (hhigh : low ≠ high) (hE : E0 (4 * low + (i + 1))) (hl0 : lm0 (4 * low + (i + 1)) = l0) (hpb : pr k = pb + 1) (hp : p = 4 * low + (i + 1)) (hr : q = 4 * x) (w1 : w' (w p) = q) (w2 : q ≠ w p → w' q = w p) (w3 : ∀ y : Int, y ≠ q → y ≠ w p → w' y = w y) (hC1 : C' i = x) (hC2 : ∀ t : Int, t ≠ i → C' t = C t) : th K' L' w' (ln lm x l0 (lm0 (4 * high + 1) + d) (lm0 (4 * high + 2) + d)) b' T E0 lm0 C' D low high pa pb d (i + 1) 0 0 0 c' := by
  obtain ⟨a1, a2, a3, a4, a5, a6, a7, a8⟩ := h
  have hEp : te E0 low high i 0 p := by
    rw [hp]
    exact ⟨hE, fun z => by omega, fun z => by omega⟩
  have hp1 := a1.2.2.2.1 p hEp
  have hkp := a1.keep hEp a8 (by omega)
  have hx4 := nx_lt h3
  have hs := a1.put (p := p) (q := q) hx hb h1 h2 h3 ⟨hk.1, by omega⟩ hl ht hc hEp (by rw [a4 p hp1.1, hp]; exact hl0) hr w1 w2 w3
  have hold : ∀ t : Int, 0 ≤ t → t < i → C' t = C t ∧ C t ≠ x := fun t t1 t2 => ⟨hC2 t (by omega), nx_fresh h3 (a2 t t1 t2).1.2.1 (a2 t t1 t2).1.2.2⟩
  refine ⟨hs.iff (fun y => ?_) (fun y => ?_), fun t t1 t2 => ?_, fun t t1 t2 => absurd t2 (by omega), fun y hy => ?_, fun t t' t1 t2 t3 t4 e => ?_, fun t t' t1 t2 => absurd t2 (by omega), fun t u t1 t2 t3 t4 => absurd t4 (by omega), ?_⟩
  · constructor
    · rintro ⟨e1, e2, e3⟩
      exact ⟨⟨e1, fun z => e2 ⟨z.1, z.2.1, by omega⟩, e3⟩, fun z => e2 (by omega)⟩
    · rintro ⟨⟨e1, e2, e3⟩, e4⟩
      exact ⟨e1, fun z => e2 ⟨z.1, z.2.1, by omega⟩, e3⟩
  · constructor
    · rintro (⟨t, t1, t2, t3, t4, t5, t6⟩ | ⟨t, t1, t2, -⟩)
      · by_cases e : t = i
        · rw [e, hC1] at t3
          exact Or.inr ⟨t3, t4, by omega⟩
        · rw [hC2 t e] at t3
          exact Or.inl (Or.inl ⟨t, t1, by omega, t3, t4, t5, t6⟩)
      · omega
    · rintro ((⟨t, t1, t2, t3, t4, t5, t6⟩ | ⟨t, t1, t2, -⟩) | e)
      · exact Or.inl ⟨t, t1, by omega, by rw [hC2 t (by omega)]; exact t3, t4, t5, t6⟩
      · omega
      · exact Or.inl ⟨i, by omega, by omega, by rw [hC1]; exact e.1, e.2.1, by omega, by omega⟩
  · by_cases e : t = i
    · rw [e, hC1]
      refine ⟨⟨hx, hx4.1, by rw [h1.1]; omega⟩, fun y y1 y2 => ln_z ⟨y1, y2⟩ (fun z => by rw [z]) (fun z => by rw [z])⟩
    · obtain ⟨o1, o2⟩ := hold t t1 (by omega)
      obtain ⟨b1, b2⟩ := a2 t t1 (by omega)
      rw [o1]
      refine ⟨⟨b1.1, by omega, by rw [(h2 _ o2).1]; exact b1.2.2⟩, fun y y1 y2 => ?_⟩
      rw [ln_n (by omega)]
      exact b2 y y1 y2
  · rw [ln_n (by omega)]
    exact a4 y hy
  · by_cases e1 : t = i
    · by_cases e2 : t' = i
      · omega
      · obtain ⟨o1, o2⟩ := hold t' t3 (by omega)
        rw [e1, hC1, o1] at e
        exact absurd e.symm o2
    · obtain ⟨o1, o2⟩ := hold t t1 (by omega)
      by_cases e2 : t' = i
      · rw [e2, hC1, o1] at e
        exact absurd e o2
      · obtain ⟨o3, o4⟩ := hold t' t3 (by omega)
        rw [o1, o3] at e
        exact a5 t t' t1 (by omega) t3 (by omega) e
  · rw [w3 32000 (by omega) (fun z => hkp z.symm)]
    exact a8
/-- a copy of the low one -/
theorem th.pass (h : th K L w lm b T E0 lm0 C D low high pa pb d i j 0 0 c) (hj : 0 ≤ j ∧ j < 2) (hx : 0 ≤ x) (hb : b' ≤ 400) (h1 : K' x = k ∧ L' x = l) (h2 : ∀ y : Int, y ≠ x → K' y = K y ∧ L' y = L y) (h3 : (x = b ∧ b' = b + 1) ∨ (x < b ∧ K x = -1 ∧ b' = b)) (hk : 1 ≤ k ∧ k ≤ 5) (hl : 0 ≤ l ∧ l ≤ T) (ht : tl k l l0 (l0 + d) (l0 + d)) (hc : c' = c + 1) (hhigh : 8000 ≤ high ∧ high ≤ 8001) (hlow : low ≠ high) (hE : E0 (4 * high + (j + 1))) (hl0 : lm0 (4 * high + (j + 1)) = l0) (hpa : pr k = pa + 1) (hp : p = 4 * high + (j + 1)) (hr : q = 4 * x) (w1 : w' (w p) = q) (w2 : q ≠ w p → w' q = w p) (w3 : ∀ y : Int, y ≠ q → y ≠ w p → w' y = w y) (hD1 : D' j = x) (hD2 : ∀ t : Int, t ≠ j → D' t = D t) : th K' L' w' (ln lm x l0 (l0 + d) (l0 + d)) b' T E0 lm0 C D' low high pa pb d i (j + 1) 0 0 c' := by
  obtain ⟨a1, a2, a3, a4, a5, a6, a7, a8⟩ := h
  have hEp : te E0 low high i j p := by
    rw [hp]
    exact ⟨hE, fun z => by omega, fun z => by omega⟩
  have hp1 := a1.2.2.2.1 p hEp
  have hkp := a1.keep hEp a8 (by omega)
  have hx4 := nx_lt h3
  have hs := a1.put (p := p) (q := q) hx hb h1 h2 h3 ⟨hk.1, by omega⟩ hl ht hc hEp (by rw [a4 p hp1.1, hp]; exact hl0) hr w1 w2 w3
  have hold : ∀ t : Int, 0 ≤ t → t < j → D' t = D t ∧ D t ≠ x := fun t t1 t2 => ⟨hD2 t (by omega), nx_fresh h3 (a3 t t1 t2).1.2.1 (a3 t t1 t2).1.2.2⟩
  have holc : ∀ t : Int, 0 ≤ t → t < i → C t ≠ x := fun t t1 t2 => nx_fresh h3 (a2 t t1 t2).1.2.1 (a2 t t1 t2).1.2.2
  refine ⟨hs.iff (fun y => ?_) (fun y => ?_), fun t t1 t2 => ?_, fun t t1 t2 => ?_, fun y hy => ?_, a5, fun t t' t1 t2 t3 t4 e => ?_, fun t u t1 t2 t3 t4 => ?_, ?_⟩
  · constructor
    · rintro ⟨e1, e2, e3⟩
      exact ⟨⟨e1, e2, fun z => e3 ⟨z.1, z.2.1, by omega⟩⟩, fun z => e3 (by omega)⟩
    · rintro ⟨⟨e1, e2, e3⟩, e4⟩
      exact ⟨e1, e2, fun z => e3 ⟨z.1, z.2.1, by omega⟩⟩
  · constructor
    · rintro (e | ⟨t, t1, t2, t3, t4, t5, t6⟩)
      · exact Or.inl (Or.inl e)
      · by_cases e : t = j
        · rw [e, hD1] at t3
          exact Or.inr ⟨t3, t4, by omega⟩
        · rw [hD2 t e] at t3
          exact Or.inl (Or.inr ⟨t, t1, by omega, t3, t4, t5, t6⟩)
    · rintro ((e | ⟨t, t1, t2, t3, t4, t5, t6⟩) | e)
      · exact Or.inl e
      · exact Or.inr ⟨t, t1, by omega, by rw [hD2 t (by omega)]; exact t3, t4, t5, t6⟩
      · exact Or.inr ⟨j, by omega, by omega, by rw [hD1]; exact e.1, e.2.1, by omega, by omega⟩
  · have o2 := holc t t1 t2
    obtain ⟨b1, b2⟩ := a2 t t1 t2
    refine ⟨⟨b1.1, by omega, by rw [(h2 _ o2).1]; exact b1.2.2⟩, fun y y1 y2 => ?_⟩
    rw [ln_n (by omega)]
    exact b2 y y1 y2
  · by_cases e : t = j
    · rw [e, hD1]
      refine ⟨⟨hx, hx4.1, by rw [h1.1]; omega⟩, fun y y1 y2 => ln_y ⟨y1, y2⟩ (by rw [hl0]) (by rw [hl0])⟩
    · obtain ⟨o1, o2⟩ := hold t t1 (by omega)
      obtain ⟨b1, b2⟩ := a3 t t1 (by omega)
      rw [o1]
      refine ⟨⟨b1.1, by omega, by rw [(h2 _ o2).1]; exact b1.2.2⟩, fun y y1 y2 => ?_⟩
      rw [ln_n (by omega)]
      exact b2 y y1 y2
  · rw [ln_n (by omega)]
    exact a4 y hy
  · by_cases e1 : t = j
    · by_cases e2 : t' = j
      · omega
      · obtain ⟨o1, o2⟩ := hold t' t3 (by omega)
        rw [e1, hD1, o1] at e
        exact absurd e.symm o2
    · obtain ⟨o1, o2⟩ := hold t t1 (by omega)
      by_cases e2 : t' = j
      · rw [e2, hD1, o1] at e
        exact absurd e o2
      · obtain ⟨o3, o4⟩ := hold t' t3 (by omega)
        rw [o1, o3] at e
        exact a6 t t' t1 (by omega) t3 (by omega) e
  · by_cases e1 : u = j
    · rw [e1, hD1]
      exact holc t t1 t2
    · rw [(hold u t3 (by omega)).1]
      exact a7 t u t1 t2 t3 (by omega)
  · rw [w3 32000 (by omega) (fun z => hkp z.symm)]
    exact a8
/-- a copy of each is wired to one of the other -/
theorem th.wire {r s : Int} (h : th K L w lm b T E0 lm0 C D low high pa pb d pa pb p q c) (hp : 0 ≤ p ∧ p < pa ∧ pa ≤ 2) (hq : 0 ≤ q ∧ q < pb ∧ pb ≤ 2) (hr : r = 4 * C p + (q + 1)) (hs : s = 4 * D q + (p + 1)) (h1 : w' s = r) (h2 : r ≠ s → w' r = s) (h3 : ∀ x : Int, x ≠ r → x ≠ s → w' x = w x) : th K L w' lm b T E0 lm0 C D low high pa pb d pa pb p (q + 1) c := by
  obtain ⟨a1, a2, a3, a4, a5, a6, a7, a8⟩ := h
  have c1 := a2 p hp.1 hp.2.1
  have c2 := a3 q hq.1 hq.2.1
  have c3 := a7 p q hp.1 hp.2.1 hq.1 hq.2.1
  have hb := a1.1.2.1
  have hMr : tm C D pa pb pa pb p q r := Or.inl ⟨p, hp.1, hp.2.1, by omega, by omega, by omega, by omega⟩
  have hMs : tm C D pa pb pa pb p q s := Or.inr ⟨q, hq.1, hq.2.1, by omega, by omega, by omega, by omega⟩
  have hsp := a1.pair hMr hMs (by omega) (by rw [hr, hs, c1.2 (q + 1) (by omega) (by omega), c2.2 (p + 1) (by omega) (by omega)]) h1 h2 h3
  refine ⟨hsp.iff (fun y => Iff.rfl) (fun y => ?_), a2, a3, a4, a5, a6, a7, ?_⟩
  · constructor
    · rintro (⟨t, t1, t2, t3, t4, t5, t6⟩ | ⟨t, t1, t2, t3, t4, t5, t6⟩)
      · refine ⟨Or.inl ⟨t, t1, t2, t3, t4, t5, fun z => t6 (by omega)⟩, fun z => ?_, fun z => ?_⟩
        · have e1 : C t = C p := by omega
          have e2 := a5 t p t1 t2 hp.1 hp.2.1 e1
          exact t6 (Or.inr ⟨e2, by omega⟩)
        · exact a7 t q t1 t2 hq.1 hq.2.1 (by omega)
      · refine ⟨Or.inr ⟨t, t1, t2, t3, t4, t5, fun z => t6 (by omega)⟩, fun z => ?_, fun z => ?_⟩
        · exact a7 p t hp.1 hp.2.1 t1 t2 (by omega)
        · have e1 : D t = D q := by omega
          have e2 := a6 t q t1 t2 hq.1 hq.2.1 e1
          exact t6 (Or.inr ⟨by omega, by omega⟩)
    · rintro ⟨⟨t, t1, t2, t3, t4, t5, t6⟩ | ⟨t, t1, t2, t3, t4, t5, t6⟩, y1, y2⟩
      · refine Or.inl ⟨t, t1, t2, t3, t4, t5, ?_⟩
        rintro (z | z)
        · exact t6 (Or.inl z)
        · have z2 : y % 4 - 1 ≠ q := by
            intro z3
            rw [z.1] at t3
            omega
          exact t6 (Or.inr ⟨z.1, by omega⟩)
      · refine Or.inr ⟨t, t1, t2, t3, t4, t5, ?_⟩
        rintro (z | z)
        · exact t6 (Or.inl z)
        · have z2 : t ≠ q := by
            intro z3
            rw [z3] at t3
            omega
          exact t6 (Or.inr ⟨z.1, by omega⟩)
  · rw [h3 32000 (by omega) (by omega)]
    exact a8
theorem th.row (h : th K L w lm b T E0 lm0 C D low high pa pb d pa pb p pb c) : th K L w lm b T E0 lm0 C D low high pa pb d pa pb (p + 1) 0 c := by
  obtain ⟨a1, a2⟩ := h
  refine ⟨a1.iff (fun y => Iff.rfl) (fun y => ?_), a2⟩
  constructor
  · rintro (⟨t, t1, t2, t3, t4, t5, t6⟩ | ⟨t, t1, t2, t3, t4, t5, t6⟩)
    · exact Or.inl ⟨t, t1, t2, t3, t4, t5, by omega⟩
    · exact Or.inr ⟨t, t1, t2, t3, t4, t5, by omega⟩
  · rintro (⟨t, t1, t2, t3, t4, t5, t6⟩ | ⟨t, t1, t2, t3, t4, t5, t6⟩)
    · exact Or.inl ⟨t, t1, t2, t3, t4, t5, by omega⟩
    · exact Or.inr ⟨t, t1, t2, t3, t4, t5, by omega⟩
theorem th.end (h : th K L w lm b T E0 lm0 C D low high pa pb d pa pb pa 0 c) (hE : ∀ x : Int, E0 x → (x / 4 = low ∧ x % 4 ≤ pa) ∨ (x / 4 = high ∧ x % 4 ≤ pb)) : sn K L w lm b T (fun x => E0 x ∧ x % 4 = 0) (fun _ => False) c ∧ w 32000 = 32004 := by
  refine ⟨h.1.iff (fun y => ?_) (fun y => ?_), h.2.2.2.2.2.2.2⟩
  · constructor
    · rintro ⟨e1, e2⟩
      exact ⟨e1, fun z => by omega, fun z => by omega⟩
    · rintro ⟨e1, e2, e3⟩
      refine ⟨e1, ?_⟩
      have := hE y e1
      omega
  · constructor
    · exact fun z => z.elim
    · rintro (⟨t, t1, t2, t3, t4, t5, t6⟩ | ⟨t, t1, t2, t3, t4, t5, t6⟩) <;> omega
end PUT
