/-! A NET IN THE MIDST OF A STEP: ports aside (E), ports not wired yet (M), how many nodes (c) -/
def cn (K : Int → Int) : Nat → Int
  | 0 => 0
  | n + 1 => cn K n + (if K n = -1 then 0 else 1)
def pp (K : Int → Int) (b : Int) (E M : Int → Prop) (x : Int) : Prop := (lp K b x ∧ ¬ M x) ∨ E x
def sn (K L w lm : Int → Int) (b T : Int) (E M : Int → Prop) (c : Int) : Prop :=
  nn K L b T ∧ (∀ j : Int, 0 ≤ j → j < b → K j ≠ -1 → tl (K j) (L j) (lm (4 * j)) (lm (4 * j + 1)) (lm (4 * j + 2))) ∧ pn (pp K b E M) w lm ∧ (∀ x : Int, E x → 32000 ≤ x ∧ x < 32008) ∧ (∀ x : Int, M x → lp K b x) ∧ c = cn K b.toNat
section CN
variable {K K' : Int → Int}
theorem cn_eq : ∀ n : Nat, (∀ j : Int, 0 ≤ j → j < n → (K' j = -1 ↔ K j = -1)) → cn K' n = cn K n
  | 0, _ => rfl
  | n + 1, h => by
    have h1 := cn_eq n (fun j h1 h2 => h j h1 (by omega))
    have h2 := h n (by omega) (by omega)
    unfold cn
    rw [h1]
    by_cases e : K n = -1
    · rw [if_pos e, if_pos (h2.mpr e)]
    · rw [if_neg e, if_neg (fun z => e (h2.mp z))]
theorem cn_all : ∀ n : Nat, (∀ j : Int, 0 ≤ j → j < n → K j ≠ -1) → cn K n = n
  | 0, _ => rfl
  | n + 1, h => by
    have h1 := cn_all n (fun j h1 h2 => h j h1 (by omega))
    unfold cn
    rw [h1, if_neg (h n (by omega) (by omega))]
    omega
theorem cn_bd : ∀ n : Nat, 0 ≤ cn K n ∧ cn K n ≤ n
  | 0 => ⟨Int.le_refl _, Int.le_refl _⟩
  | n + 1 => by
    have h1 := cn_bd n
    unfold cn
    split <;> omega
theorem cn_on {x : Int} (hx : 0 ≤ x) (h0 : K x = -1) (h1 : K' x ≠ -1) : ∀ n : Nat, x < n → (∀ j : Int, 0 ≤ j → j < n → j ≠ x → K' j = K j) → cn K' n = cn K n + 1
  | 0, h, _ => absurd h (by omega)
  | n + 1, h, e => by
    unfold cn
    by_cases hn : x = n
    · have h2 := cn_eq (K := K) (K' := K') n (fun j j1 j2 => by rw [e j j1 (by omega) (by omega)])
      rw [← hn, h2, if_pos h0, if_neg h1]
      omega
    · rw [cn_on hx h0 h1 n (by omega) (fun j j1 j2 => e j j1 (by omega)), e n (by omega) (by omega) (fun z => hn z.symm)]
      omega
end CN
section SN
variable {K K' L L' w w' lm lm' : Int → Int} {b b' T T' c c' : Int} {E M E' M' P P' : Int → Prop} {p q r s x : Int}
theorem lp_lt (hb : b ≤ 400) (h : lp K b x) : 0 ≤ x ∧ x < 1600 := by
  obtain ⟨h1, h2, h3, h4⟩ := h
  omega
theorem pn.ren {f : Int → Int} (h : pn P w lm) (h1 : ∀ y : Int, P' y → ∃ z, P z ∧ y = f z) (h2 : ∀ z : Int, P z → P' (f z)) (h3 : ∀ z : Int, P z → w' (f z) = f (w z)) (h4 : ∀ z : Int, P z → ∀ y : Int, P y → f z = f y → z = y) (h5 : ∀ z : Int, P z → lm' (f z) = lm z) : pn P' w' lm' := by
  intro y hy
  obtain ⟨z, hz, rfl⟩ := h1 y hy
  obtain ⟨a1, a2, a3, a4⟩ := h z hz
  rw [h3 z hz]
  refine ⟨h2 _ a1, ?_, fun e => a3 (h4 _ a1 _ hz e), ?_⟩
  · rw [h3 _ a1, a2]
  · rw [h5 _ a1, h5 _ hz, a4]
theorem nn.mono (h : nn K L b T) (hT : T ≤ T') : nn K L b T' := ⟨h.1, h.2.1, h.2.2.1, h.2.2.2.1, fun j h1 h2 => by
  have h3 := h.2.2.2.2 j h1 h2
  exact ⟨h3.1, h3.2.1, h3.2.2.1, by omega, h3.2.2.2.2⟩⟩
theorem sn.mono (h : sn K L w lm b T E M c) (hT : T ≤ T') : sn K L w lm b T' E M c := ⟨h.1.mono hT, h.2⟩
theorem sn.iff (h : sn K L w lm b T E M c) (hE : ∀ x : Int, E' x ↔ E x) (hM : ∀ x : Int, M' x ↔ M x) : sn K L w lm b T E' M' c := by
  have e1 : E' = E := funext (fun x => propext (hE x))
  have e2 : M' = M := funext (fun x => propext (hM x))
  rw [e1, e2]
  exact h
theorem sn.start (h1 : nn K L b T) (h2 : nw K L w lm b) (h3 : c = cn K b.toNat) : sn K L w lm b T (fun _ => False) (fun _ => False) c :=
  ⟨h1, h2.1, pn.iff (show pn (lp K b) w lm from h2.2) (fun x => ⟨fun h => by
    rcases h with h | h
    · exact h.1
    · exact h.elim, fun h => Or.inl ⟨h, fun z => z⟩⟩), fun x z => z.elim, fun x z => z.elim, h3⟩
theorem sn.lt (h : sn K L w lm b T E M c) (hx : pp K b E M x) : 0 ≤ x ∧ x < 32008 := by
  rcases hx with e | e
  · have := lp_lt h.1.2.1 e.1
    omega
  · have := h.2.2.2.1 x e
    omega
/-- a port of a new node in place of one aside -/
theorem sn.place (h : sn K L w lm b T E M c) (hp : E p) (hr : M r) (hl : lm r = lm p) (h1 : w' (w p) = r) (h2 : r ≠ w p → w' r = w p) (h3 : ∀ x : Int, x ≠ r → x ≠ w p → w' x = w x) : sn K L w' lm b T (fun x => E x ∧ x ≠ p) (fun x => M x ∧ x ≠ r) c := by
  obtain ⟨a1, a2, a3, a4, a5, a6⟩ := h
  have hr1 := lp_lt a1.2.1 (a5 r hr)
  have hr2 : ¬ pp K b E M r := by
    rintro (e | e)
    · exact e.2 hr
    · have := a4 r e
      omega
  have hwp := (a3 p (Or.inr hp)).1
  have hrw : r ≠ w p := fun e => hr2 (e ▸ hwp)
  have h4 := a3.place (lm' := lm) (Or.inr hp) hr2 (h2 hrw) h1 h3 hl (fun _ _ => rfl)
  refine ⟨a1, a2, h4.iff (fun x => ?_), fun x hx => a4 x hx.1, fun x hx => a5 x hx.1, a6⟩
  have hp1 := a4 p hp
  constructor
  · rintro (e | e)
    · by_cases ex : x = r
      · exact Or.inr ex
      · have := lp_lt a1.2.1 e.1
        exact Or.inl ⟨Or.inl ⟨e.1, fun z => e.2 ⟨z, ex⟩⟩, by omega⟩
    · exact Or.inl ⟨Or.inr e.1, e.2⟩
  · rintro (⟨e | e, e2⟩ | e)
    · exact Or.inl ⟨e.1, fun z => e.2 z.1⟩
    · exact Or.inr ⟨e, e2⟩
    · subst e
      exact Or.inl ⟨a5 _ hr, fun z => z.2 rfl⟩
/-- two ports of new nodes -/
theorem sn.pair (h : sn K L w lm b T E M c) (hr : M r) (hs : M s) (hrs : r ≠ s) (hl : lm r = lm s) (h1 : w' s = r) (h2 : r ≠ s → w' r = s) (h3 : ∀ x : Int, x ≠ r → x ≠ s → w' x = w x) : sn K L w' lm b T E (fun x => M x ∧ x ≠ r ∧ x ≠ s) c := by
  obtain ⟨a1, a2, a3, a4, a5, a6⟩ := h
  have hM : ∀ y, M y → ¬ pp K b E M y := by
    rintro y hy (e | e)
    · exact e.2 hy
    · have := a4 y e
      have := lp_lt a1.2.1 (a5 y hy)
      omega
  have h4 := a3.pair (lm' := lm) (hM r hr) (hM s hs) hrs (h2 hrs) h1 h3 hl (fun _ _ => rfl)
  refine ⟨a1, a2, h4.iff (fun x => ?_), a4, fun x hx => a5 x hx.1, a6⟩
  constructor
  · rintro (e | e)
    · by_cases ex : x = r
      · exact Or.inr (Or.inl ex)
      · by_cases ey : x = s
        · exact Or.inr (Or.inr ey)
        · exact Or.inl (Or.inl ⟨e.1, fun z => e.2 ⟨z, ex, ey⟩⟩)
    · exact Or.inl (Or.inr e)
  · rintro ((e | e) | e | e)
    · exact Or.inl ⟨e.1, fun z => e.2 z.1⟩
    · exact Or.inr e
    · subst e
      exact Or.inl ⟨a5 _ hr, fun z => z.2.1 rfl⟩
    · subst e
      exact Or.inl ⟨a5 _ hs, fun z => z.2.2 rfl⟩
/-- two ports aside are joined -/
theorem sn.join (h : sn K L w lm b T E M c) (hp : E p) (hq : E q) (hpq : p ≠ q) (hl : lm p = lm q) (h1 : w' (w q) = w p) (h2 : w p ≠ w q → w' (w p) = w q) (h3 : ∀ x : Int, x ≠ w p → x ≠ w q → w' x = w x) : sn K L w' lm b T (fun x => E x ∧ x ≠ p ∧ x ≠ q) M c := by
  obtain ⟨a1, a2, a3, a4, a5, a6⟩ := h
  have d1 : w p ≠ w q := fun e => hpq (by rw [← (a3 p (Or.inr hp)).2.1, e, (a3 q (Or.inr hq)).2.1])
  have h4 := a3.join (Or.inr hp) (Or.inr hq) hpq hl (h2 d1) h1 h3
  have hp1 := a4 p hp
  have hq1 := a4 q hq
  refine ⟨a1, a2, h4.iff (fun x => ?_), fun x hx => a4 x hx.1, a5, a6⟩
  constructor
  · rintro (e | e)
    · have := lp_lt a1.2.1 e.1
      exact ⟨Or.inl e, by omega, by omega⟩
    · exact ⟨Or.inr e.1, e.2⟩
  · rintro ⟨e | e, e2⟩
    · exact Or.inl e
    · exact Or.inr ⟨e, e2⟩
/-- two ports aside that are wired to each other go, and all is a net again -/
theorem sn.done (h : sn K L w lm b T E M c) (hE : ∀ x : Int, E x ↔ (x = p ∨ x = q)) (hM : ∀ x : Int, ¬ M x) (hq : w p = q) : nn K L b T ∧ nw K L w lm b ∧ c = cn K b.toNat := by
  obtain ⟨a1, a2, a3, a4, a5, a6⟩ := h
  have hp1 := a4 p ((hE p).mpr (Or.inl rfl))
  have hq1 := a4 q ((hE q).mpr (Or.inr rfl))
  have h4 := a3.drop (Or.inr ((hE p).mpr (Or.inl rfl))) hq
  refine ⟨a1, ⟨a2, h4.iff (fun x => ?_)⟩, a6⟩
  constructor
  · intro e
    have := lp_lt a1.2.1 e
    exact ⟨Or.inl ⟨e, hM x⟩, by omega, by omega⟩
  · rintro ⟨e | e, e2, e3⟩
    · exact e.1
    · rcases (hE x).mp e with z | z
      · exact absurd z e2
      · exact absurd z e3
def ln (lm : Int → Int) (x l0 l1 l2 : Int) (y : Int) : Int := if y / 4 = x then (if y % 4 = 0 then l0 else if y % 4 = 1 then l1 else l2) else lm y
theorem ln_0 {l0 l1 l2 : Int} : ln lm x l0 l1 l2 (4 * x) = l0 := by
  unfold ln
  rw [if_pos (by omega), if_pos (by omega)]
theorem ln_1 {l0 l1 l2 : Int} : ln lm x l0 l1 l2 (4 * x + 1) = l1 := by
  unfold ln
  rw [if_pos (by omega), if_neg (by omega), if_pos (by omega)]
theorem ln_2 {l0 l1 l2 : Int} : ln lm x l0 l1 l2 (4 * x + 2) = l2 := by
  unfold ln
  rw [if_pos (by omega), if_neg (by omega), if_neg (by omega)]
theorem ln_n {l0 l1 l2 y : Int} (h : y / 4 ≠ x) : ln lm x l0 l1 l2 y = lm y := by
  unfold ln
  rw [if_neg h]
/-- a new node -/
theorem sn.node {k l l0 l1 l2 : Int} (h : sn K L w lm b T E M c) (hx : 0 ≤ x) (hb : b' ≤ 400) (h1 : K' x = k ∧ L' x = l) (h2 : ∀ y : Int, y ≠ x → K' y = K y ∧ L' y = L y) (h3 : (x = b ∧ b' = b + 1) ∨ (x < b ∧ K x = -1 ∧ b' = b)) (hk : 1 ≤ k ∧ k ≤ 6) (hl : 0 ≤ l ∧ l ≤ T) (ht : tl k l l0 l1 l2) (hc : c' = c + 1) : sn K' L' w (ln lm x l0 l1 l2) b' T E (fun y => M y ∨ (y / 4 = x ∧ y % 4 < pr k)) c' := by
  obtain ⟨⟨n1, n2, n3, n4, n5⟩, a2, a3, a4, a5, a6⟩ := h
  have hx0 : x ≠ 0 := by
    intro z
    rcases h3 with e | e
    · omega
    · rw [z, n3] at e
      omega
  have hnl : ∀ y : Int, lp K b y → y / 4 ≠ x := by
    intro y hy z
    rcases h3 with e | e
    · have := hy.2.1
      omega
    · exact hy.2.2.1 (by rw [z]; exact e.2.1)
  have hnp : ∀ y : Int, pp K b E M y → y / 4 ≠ x := by
    rintro y (e | e)
    · exact hnl y e.1
    · have := a4 y e
      omega
  have hlp : ∀ y : Int, lp K' b' y ↔ (lp K b y ∨ (y / 4 = x ∧ y % 4 < pr k)) := by
    intro y
    constructor
    · rintro ⟨e1, e2, e3, e4⟩
      by_cases z : y / 4 = x
      · rw [z, h1.1] at e4
        exact Or.inr ⟨z, e4⟩
      · rw [(h2 _ z).1] at e3 e4
        exact Or.inl ⟨e1, by omega, e3, e4⟩
    · rintro (e | e)
      · have z := hnl y e
        obtain ⟨e1, e2, e3, e4⟩ := e
        rw [← (h2 _ z).1] at e3 e4
        exact ⟨e1, by omega, e3, e4⟩
      · refine ⟨by omega, by omega, ?_, ?_⟩
        · rw [e.1, h1.1]
          omega
        · rw [e.1, h1.1]
          exact e.2
  refine ⟨⟨by omega, hb, by rw [(h2 0 (fun z => hx0 z.symm)).1]; exact n3, by rw [(h2 0 (fun z => hx0 z.symm)).2]; exact n4, ?_⟩, ?_, ?_, a4, ?_, ?_⟩
  · intro j j1 j2
    by_cases z : j = x
    · subst z
      rw [h1.1, h1.2]
      exact ⟨by omega, by omega, by omega, by omega, fun q => by omega⟩
    · rw [(h2 _ z).1, (h2 _ z).2]
      exact n5 j j1 (by omega)
  · intro j j1 j2 j3
    by_cases z : j = x
    · subst z
      rw [h1.1, h1.2, ln_0, ln_1, ln_2]
      exact ht
    · rw [(h2 _ z).1] at j3
      rw [(h2 _ z).1, (h2 _ z).2, ln_n (by omega), ln_n (by omega), ln_n (by omega)]
      exact a2 j j1 (by omega) j3
  · have h6 : pn (pp K b E M) w (ln lm x l0 l1 l2) := a3.eq (fun _ _ => rfl) (fun y hy => ln_n (hnp y hy))
    refine h6.iff (fun y => ?_)
    constructor
    · rintro (e | e)
      · rcases (hlp y).mp e.1 with z | z
        · exact Or.inl ⟨z, fun q => e.2 (Or.inl q)⟩
        · exact absurd (Or.inr z) e.2
      · exact Or.inr e
    · rintro (e | e)
      · refine Or.inl ⟨(hlp y).mpr (Or.inl e.1), ?_⟩
        rintro (q | q)
        · exact e.2 q
        · exact hnl y e.1 q.1
      · exact Or.inr e
  · rintro y (e | e)
    · exact (hlp y).mpr (Or.inl (a5 y e))
    · exact (hlp y).mpr (Or.inr e)
  · rcases h3 with e | e
    · rw [e.2, show (b + 1).toNat = b.toNat + 1 by omega]
      have h7 : (b.toNat : Int) = b := by omega
      unfold cn
      rw [h7, ← e.1, h1.1, if_neg (by omega), e.1, cn_eq (K := K) (K' := K') b.toNat (fun j j1 j2 => by rw [(h2 j (by omega)).1])]
      omega
    · rw [e.2.2, cn_on (K := K) (K' := K') hx e.2.1 (by rw [h1.1]; omega) b.toNat (by omega) (fun j _ _ hj => (h2 j hj).1)]
      omega
theorem sn.room (h : sn K L w lm b T E M c) (hc : c < 400) : 1 ≤ b ∧ b ≤ 400 ∧ 0 ≤ c ∧ c ≤ 1000 ∧ ((∀ q : Int, 0 ≤ q → q < b → K q ≠ -1) → b < 400) := by
  obtain ⟨a1, a2, a3, a4, a5, a6⟩ := h
  have h1 := a1.1
  have h2 := a1.2.1
  have h3 := cn_bd (K := K) b.toNat
  refine ⟨h1, h2, by omega, by omega, fun h4 => ?_⟩
  have h5 := cn_all (K := K) b.toNat (fun j j1 j2 => h4 j j1 (by omega))
  omega
end SN
