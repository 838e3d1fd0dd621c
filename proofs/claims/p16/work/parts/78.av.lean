/-! a node's ports go aside -/
def rn (n s z : Int) : Int := if z / 4 = n then 4 * s + z % 4 else z
def av (P : Int → Prop) (w0 w : Int → Int) (n s i : Int) : Prop := (∀ j : Int, 0 ≤ j → j < i → w (4 * s + j) = rn n s (w0 (4 * n + j))) ∧ ∀ y : Int, P y → y / 4 ≠ s → w y = if y / 4 ≠ n ∧ w0 y / 4 = n ∧ w0 y % 4 < i then 4 * s + w0 y % 4 else w0 y
def la (lm : Int → Int) (n s y : Int) : Int := if y / 4 = s then lm (4 * n + y % 4) else lm y
section AV
variable {K K' L L' w0 w w' lm : Int → Int} {P E : Int → Prop} {b T c c' n s i o : Int}
theorem av.zero : av P w w n s 0 := ⟨fun j h1 h2 => absurd h2 (by omega), fun y _ _ => by
  have h0 : ¬ w y % 4 < 0 := by omega
  rw [if_neg (fun z => h0 z.2.2)]⟩
theorem av.rd (h : av P w0 w n s i) (hi : 0 ≤ i ∧ i < 4) (hn : P (4 * n + i)) (hs : n ≠ s) : w (4 * n + i) = w0 (4 * n + i) := by
  rw [h.2 _ hn (by omega), if_neg (fun z => z.1 (by omega))]
theorem av.cond (hP : pn P w0 lm) (hi : 0 ≤ i ∧ i < 4) (ho : o = w0 (4 * n + i)) {y : Int} (hy : P y) (hyo : y ≠ o) : (y / 4 ≠ n ∧ w0 y / 4 = n ∧ w0 y % 4 < i + 1) ↔ (y / 4 ≠ n ∧ w0 y / 4 = n ∧ w0 y % 4 < i) := by
  have h1 : w0 y ≠ 4 * n + i := fun e => hyo (by rw [ho, ← e, (hP y hy).2.1])
  omega
theorem av.self (h : av P w0 w n s i) (hP : pn P w0 lm) (hi : 0 ≤ i ∧ i < 4) (hs : ∀ y : Int, P y → y / 4 ≠ s) (hn : P (4 * n + i)) (ho : o = w0 (4 * n + i)) (h4 : o / 4 = n) (h1 : w' (4 * s + i) = 4 * s + o % 4) (h2 : ∀ x : Int, x ≠ 4 * s + i → w' x = w x) : av P w0 w' n s (i + 1) := by
  refine ⟨fun j j1 j2 => ?_, fun y hy y1 => ?_⟩
  · by_cases e : j = i
    · subst e
      rw [h1, ← ho]
      unfold rn
      rw [if_pos h4]
    · rw [h2 _ (by omega)]
      exact h.1 j j1 (by omega)
  · rw [h2 _ (by omega), h.2 y hy y1]
    by_cases e : y = o
    · subst e
      rw [if_neg (fun z => z.1 h4), if_neg (fun z => z.1 h4)]
    · have hc := av.cond hP hi ho hy e
      by_cases z : (y / 4 ≠ n ∧ w0 y / 4 = n ∧ w0 y % 4 < i)
      · rw [if_pos z, if_pos (hc.mpr z)]
      · rw [if_neg z, if_neg (fun q => z (hc.mp q))]
theorem av.other (h : av P w0 w n s i) (hP : pn P w0 lm) (hi : 0 ≤ i ∧ i < 4) (hs : ∀ y : Int, P y → y / 4 ≠ s) (hn : P (4 * n + i)) (ho : o = w0 (4 * n + i)) (h4 : o / 4 ≠ n) (h1 : w' o = 4 * s + i) (h2 : 4 * s + i ≠ o → w' (4 * s + i) = o) (h3 : ∀ x : Int, x ≠ 4 * s + i → x ≠ o → w' x = w x) : av P w0 w' n s (i + 1) := by
  have hoP : P o := by rw [ho]; exact (hP _ hn).1
  have hos := hs o hoP
  refine ⟨fun j j1 j2 => ?_, fun y hy y1 => ?_⟩
  · by_cases e : j = i
    · subst e
      rw [h2 (by omega), ← ho]
      unfold rn
      rw [if_neg h4]
    · rw [h3 _ (by omega) (by omega)]
      exact h.1 j j1 (by omega)
  · by_cases e : y = o
    · subst e
      have h5 : w0 y = 4 * n + i := by rw [ho]; exact (hP _ hn).2.1
      rw [h1, h5, if_pos ⟨h4, by omega, by omega⟩]
      omega
    · rw [h3 _ (by omega) e, h.2 y hy y1]
      have hc := av.cond hP hi ho hy e
      by_cases z : (y / 4 ≠ n ∧ w0 y / 4 = n ∧ w0 y % 4 < i)
      · rw [if_pos z, if_pos (hc.mpr z)]
      · rw [if_neg z, if_neg (fun q => z (hc.mp q))]
theorem av.port (hK : K n ≠ -1) (hn : 0 < n ∧ n < b) (hi : 0 ≤ i ∧ i < pr (K n)) : pp K b E (fun _ => False) (4 * n + i) := Or.inl ⟨lp.of (by omega) hn.2 hK hi, fun z => z⟩
theorem av.out (h : sn K L w0 lm b T E (fun _ => False) c) (hs : 8000 ≤ s) (hE : ∀ x : Int, E x → x / 4 ≠ s) : ∀ y : Int, pp K b E (fun _ => False) y → y / 4 ≠ s := by
  rintro y (e | e)
  · have := lp_lt h.1.2.1 e.1
    omega
  · exact hE y e
theorem av.fin (h : sn K L w0 lm b T E (fun _ => False) c) (hn : 0 < n ∧ n < b) (hK : K n ≠ -1) (hK0 : K n ≠ 0) (hs : 8000 ≤ s ∧ s ≤ 8001) (hE : ∀ x : Int, E x → x / 4 ≠ s) (ha : av (pp K b E (fun _ => False)) w0 w n s (pr (K n))) (k1 : K' n = -1) (k2 : ∀ y : Int, y ≠ n → y ≠ s → K' y = K y) (l1 : ∀ y : Int, y ≠ s → L' y = L y) (hc : c' = c - 1) : sn K' L' w (la lm n s) b T (fun x => E x ∨ (x / 4 = s ∧ x % 4 < pr (K n))) (fun _ => False) c' := by
  have hout := av.out h hs.1 hE
  obtain ⟨⟨n1, n2, n3, n4, n5⟩, a2, a3, a4, a5, a6⟩ := h
  have hp3 := pr_le (K n)
  have hlp : ∀ y : Int, lp K' b y ↔ (lp K b y ∧ y / 4 ≠ n) := by
    intro y
    constructor
    · rintro ⟨e1, e2, e3, e4⟩
      have e5 : y / 4 ≠ n := fun z => e3 (by rw [z]; exact k1)
      rw [k2 _ e5 (by omega)] at e3 e4
      exact ⟨⟨e1, e2, e3, e4⟩, e5⟩
    · rintro ⟨⟨e1, e2, e3, e4⟩, e5⟩
      rw [← k2 _ e5 (by omega)] at e3 e4
      exact ⟨e1, e2, e3, e4⟩
  have hin : ∀ y : Int, pp K b E (fun _ => False) y → y / 4 = n → y % 4 < pr (K n) := by
    rintro y (e | e) hy
    · have := e.1.2.2.2
      rw [hy] at this
      exact this
    · have := a4 y e
      omega
  refine ⟨⟨n1, n2, by rw [k2 0 (by omega) (by omega)]; exact n3, by rw [l1 0 (by omega)]; exact n4, fun j j1 j2 => ?_⟩, fun j j1 j2 j3 => ?_, ?_, ?_, fun x z => z.elim, ?_⟩
  · rw [l1 j (by omega)]
    by_cases z : j = n
    · have h5 := n5 j j1 j2
      rw [z, k1]
      rw [z] at h5
      exact ⟨by omega, by omega, h5.2.2.1, h5.2.2.2.1, fun q => by omega⟩
    · rw [k2 j z (by omega)]
      exact n5 j j1 j2
  · have z : j ≠ n := fun z => j3 (by rw [z]; exact k1)
    rw [k2 j z (by omega)] at j3
    rw [k2 j z (by omega), l1 j (by omega)]
    unfold la
    rw [if_neg (by omega), if_neg (by omega), if_neg (by omega)]
    exact a2 j j1 j2 j3
  · refine a3.ren (f := rn n s) ?_ ?_ ?_ ?_ ?_
    · rintro y (e | e | e)
      · have e1 := (hlp y).mp e.1
        refine ⟨y, Or.inl ⟨e1.1, fun z => z⟩, ?_⟩
        unfold rn
        rw [if_neg e1.2]
      · have := a4 y e
        refine ⟨y, Or.inr e, ?_⟩
        unfold rn
        rw [if_neg (by omega)]
      · refine ⟨4 * n + y % 4, av.port hK hn ⟨by omega, e.2⟩, ?_⟩
        unfold rn
        rw [if_pos (by omega)]
        omega
    · intro z hz
      unfold rn
      by_cases e : z / 4 = n
      · rw [if_pos e]
        have := hin z hz e
        exact Or.inr (Or.inr ⟨by omega, by omega⟩)
      · rw [if_neg e]
        rcases hz with q | q
        · exact Or.inl ⟨(hlp z).mpr ⟨q.1, e⟩, fun z => z⟩
        · exact Or.inr (Or.inl q)
    · intro z hz
      by_cases e : z / 4 = n
      · have h7 := hin z hz e
        have h8 := ha.1 (z % 4) (by omega) h7
        rw [show 4 * n + z % 4 = z by omega] at h8
        rw [← h8]
        congr 1
        unfold rn
        rw [if_pos e]
      · have h8 := ha.2 z hz (hout z hz)
        rw [show rn n s z = z from if_neg e, h8]
        unfold rn
        by_cases e2 : w0 z / 4 = n
        · rw [if_pos ⟨e, e2, hin _ (a3 z hz).1 e2⟩, if_pos e2]
        · rw [if_neg (fun q => e2 q.2.1), if_neg e2]
    · intro z hz y hy
      have h7 := hout z hz
      have h8 := hout y hy
      unfold rn
      split <;> split <;> omega
    · intro z hz
      have h7 := hout z hz
      unfold rn la
      by_cases e : z / 4 = n
      · rw [if_pos e, if_pos (by omega)]
        congr 1
        omega
      · rw [if_neg e, if_neg h7]
  · rintro x (e | e)
    · exact a4 x e
    · omega
  · have h9 := cn_on (K := K') (K' := K) (x := n) (by omega) k1 hK b.toNat (by omega) (fun j j1 j2 j3 => (k2 j j3 (by omega)).symm)
    omega
theorem av.head (ha : av P w0 w n s i) (hi : 0 < i) (h4 : w0 (4 * n) / 4 ≠ n) : w (4 * s) = w0 (4 * n) := by
  have h1 := ha.1 0 (by omega) hi
  rw [show 4 * s + 0 = 4 * s by omega, show 4 * n + 0 = 4 * n by omega] at h1
  rw [h1]
  exact if_neg h4
end AV
