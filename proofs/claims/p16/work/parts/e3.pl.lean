/-! WORKING OFF PLAINLY: parts one by one, as the class goes and as the reference goes -/
def gN (f : Int → Int → List Int) : List Int → Int → List Int → List Int
  | [], _, _ => []
  | c :: cs, d, w => f c d ++ gN f cs (dN c d w).1 (dN c d w).2
def fR (r c d : Int) : List Int := [if c < 2 + d then c else c + r]
def fS (u : List Int) (c d : Int) : List Int := if c < 2 then [c] else if c = 2 + d then rsl d u 0 [] else if c < 2 + d then [c] else [c - 1]
/-- a part of a list -/
def slc (l : List Int) (i j : Int) : List Int := (l.drop i.toNat).take (j - i).toNat
/-- the first application of a function; how long the first term is -/
def frd : List Int → Int
  | [] => -1
  | c :: l => if c = 0 ∧ l.head? = some 1 then 0 else if frd l < 0 then -1 else frd l + 1
def btl : List Int → Int → Nat
  | [], _ => 0
  | c :: l, n => if n ≤ 0 then 0 else btl l (n + ow c) + 1
/-- the depth behind a part, the waiting depths in a row -/
def dpR (c d : Int) (R : List Int) : Int × List Int := if c = 0 then (d, R ++ [d]) else if c = 1 then (d + 1, R) else (R.getLastD 0, R.dropLast)
def RA (f : Int → Int → List Int) (l : List Int) (n1 n2 i d : Int) (R g : List Int) : Prop := ∃ ws : List Int, R = ws.reverse ∧ (ws.length : Int) ≤ i - n1 ∧ (0 ≤ d ∧ d ≤ i - n1) ∧ (∀ x, x ∈ ws → 0 ≤ x ∧ x ≤ i - n1) ∧ gN f (slc l n1 n2) 0 [] = g ++ gN f (slc l i n2) d ws
/-- a list comes behind another one, as far as there is room -/
def PA (x : Int) (b a L : List Int) : Prop := (x = 1 ∧ a = b ++ L ∧ ((b ++ L).length : Int) ≤ 1000) ∨ (x = 0 ∧ 1000 < ((b ++ L).length : Int))
def PLx (L : List Int) (n x : Int) : Prop := ∃ r : Option (List Int), PLN n.toNat L r ∧ ((r = none ∧ x = -1) ∨ ∃ c : List Int, r = some c ∧ x = (c.length : Int))
/-- the reference's open ends, in a row -/
def OE (row : Int → Int) (o k : Int) (l : List Int) (d : Int) (w : List Int) : Prop := ∃ E : List Int, o = (E.length : Int) ∧ wd row 0 E.reverse ∧ EN E k l d w ∧ sE E k
def RC (f : Int → Int → List Int) (L : List Int) (k0 : Int) (row : Int → Int) (o : Int) (j : Nat) (g : List Int) : Prop := (0 ≤ o ∧ o ≤ (j : Int)) ∧ ∃ (d : Int) (w : List Int), gN f L 0 [] = g ++ gN f (L.drop j) d w ∧ (L.drop j = [] ∨ OE row o (k0 + (j : Int)) (L.drop j) d w)
def RO (f : Int → Int → List Int) (L : List Int) (k0 : Int) (row : Int → Int) (o : Int) (j : Nat) (g : List Int) : Prop := (0 ≤ o ∧ o ≤ (j : Int)) ∧ ∃ w E : List Int, o = (E.length : Int) ∧ wd row 0 E.reverse ∧ EN E (k0 + (j : Int)) (L.drop j) o w ∧ sE E (k0 + (j : Int)) ∧ (∀ e, e ∈ E → k0 + (j : Int) < e) ∧ gN f L 0 [] = g ++ gN f (L.drop j) o w
section PLC
variable {u l L g R R' w b a : List Int} {c d d' r i j k n n1 n2 o k0 x y : Int} {f : Int → Int → List Int} {row : Int → Int}
theorem rsl_gN : ∀ {l : List Int} {d : Int} {w : List Int}, rsl r l d w = gN (fR r) l d w
  | [], _, _ => rfl
  | c :: l, d, w => by
    show (if c < 2 + d then c else c + r) :: rsl r l (dN c d w).1 (dN c d w).2 = (if c < 2 + d then c else c + r) :: gN (fR r) l (dN c d w).1 (dN c d w).2
    rw [rsl_gN]
theorem sbl_gN : ∀ {l : List Int} {d : Int} {w : List Int}, sbl u l d w = gN (fS u) l d w
  | [], _, _ => rfl
  | c :: l, d, w => by
    show fS u c d ++ sbl u l (dN c d w).1 (dN c d w).2 = fS u c d ++ gN (fS u) l (dN c d w).1 (dN c d w).2
    rw [sbl_gN]
theorem gl_el (h0 : 0 ≤ i) (h1 : i.toNat < l.length) : gl l i = l[i.toNat] := by
  unfold gl
  rw [if_pos h0, List.getD_eq_getElem?_getD, List.getElem?_eq_getElem h1]
  rfl
theorem sl_0 (h : j ≤ i) : slc l i j = [] := by
  unfold slc
  rw [show (j - i).toNat = 0 by omega, List.take_zero]
theorem sl_cons (h0 : 0 ≤ i) (h1 : i < j) (h2 : j ≤ (l.length : Int)) : slc l i j = gl l i :: slc l (i + 1) j := by
  have e1 : i.toNat < l.length := by omega
  have e2 : l.drop i.toNat = l[i.toNat] :: l.drop (i.toNat + 1) := List.drop_eq_getElem_cons e1
  have e3 : (j - i).toNat = (j - (i + 1)).toNat + 1 := by omega
  have e4 : (i + 1).toNat = i.toNat + 1 := by omega
  unfold slc
  rw [e2, e3, e4, gl_el h0 e1]
  rfl
theorem sl_snoc (h0 : 0 ≤ i) (h1 : i ≤ j) (h2 : j < (l.length : Int)) : slc l i (j + 1) = slc l i j ++ [gl l j] := by
  have e1 : j.toNat < l.length := by omega
  have e3 : (j + 1 - i).toNat = (j - i).toNat + 1 := by omega
  unfold slc
  rw [e3, List.take_add_one, List.getElem?_drop, show i.toNat + (j - i).toNat = j.toNat by omega, List.getElem?_eq_getElem e1, gl_el (by omega) e1]
  rfl
theorem sl_len (h0 : 0 ≤ i) (h1 : i ≤ j) (h2 : j ≤ (l.length : Int)) : ((slc l i j).length : Int) = j - i := by
  unfold slc
  rw [List.length_take, List.length_drop]
  omega
theorem sl_mid {p q z : List Int} (hi : i = (p.length : Int)) (hj : j = (p.length : Int) + (q.length : Int)) : slc (p ++ (q ++ z)) i j = q := by
  unfold slc
  rw [show i.toNat = p.length by omega, show (j - i).toNat = q.length by omega, List.drop_left, List.take_left]
theorem sl_all (hi : i = (b.length : Int)) (hj : j = ((b ++ a).length : Int)) : slc (b ++ a) i j = a := by
  have h1 : ((b ++ a).length : Int) = (b.length : Int) + (a.length : Int) := by rw [List.length_append]; omega
  have h2 := sl_mid (p := b) (q := a) (z := []) hi (by omega : j = (b.length : Int) + (a.length : Int))
  rw [List.append_nil] at h2
  exact h2
theorem pr1_0 : pr1 (c :: l) 0 ↔ c = 0 ∧ l.head? = some 1 := by
  unfold pr1
  constructor
  · rintro ⟨h1, h2⟩
    exact ⟨Option.some.inj h1, by rw [List.head?_eq_getElem?]; exact h2⟩
  · rintro ⟨rfl, h2⟩
    exact ⟨rfl, by rw [List.head?_eq_getElem?] at h2; exact h2⟩
theorem frd_sp : ∀ {l : List Int}, (frd l = -1 ∧ ∀ i : Nat, ¬ pr1 l i) ∨ ∃ i : Nat, frd l = (i : Int) ∧ pr1 l i ∧ ∀ j : Nat, j < i → ¬ pr1 l j
  | [] => Or.inl ⟨rfl, fun i h => by
      have h1 : ([] : List Int)[i]? = some 0 := h.1
      rw [List.getElem?_nil] at h1
      cases h1⟩
  | c :: l => by
    have e : frd (c :: l) = if c = 0 ∧ l.head? = some 1 then 0 else if frd l < 0 then -1 else frd l + 1 := rfl
    rw [e]
    by_cases z : c = 0 ∧ l.head? = some 1
    · rw [if_pos z]
      exact Or.inr ⟨0, rfl, pr1_0.mpr z, fun j hj => absurd hj (Nat.not_lt_zero j)⟩
    · rw [if_neg z]
      rcases frd_sp (l := l) with ⟨h1, h2⟩ | ⟨i, h1, h2, h3⟩
      · rw [h1, if_pos (by decide)]
        refine Or.inl ⟨rfl, fun i h => ?_⟩
        cases i with
        | zero => exact z (pr1_0.mp h)
        | succ i => exact h2 i h
      · rw [h1, if_neg (by omega)]
        refine Or.inr ⟨i + 1, by omega, h2, fun j hj h => ?_⟩
        cases j with
        | zero => exact z (pr1_0.mp h)
        | succ j => exact h3 j (Nat.lt_of_succ_lt_succ hj) h
theorem frd_at {q : Nat} (h : pr1 l q) (hn : ∀ j : Nat, j < q → ¬ pr1 l j) : frd l = (q : Int) := by
  rcases frd_sp (l := l) with ⟨h1, h2⟩ | ⟨p, h1, h2, h3⟩
  · exact absurd h (h2 q)
  · by_cases z : p < q
    · exact absurd h2 (hn p z)
    · by_cases z2 : q < p
      · exact absurd h (h3 q z2)
      · rw [h1, show p = q by omega]
theorem frd_no (h : ∀ q : Nat, ¬ pr1 l q) : frd l = -1 := by
  rcases frd_sp (l := l) with ⟨h1, h2⟩ | ⟨p, h1, h2, h3⟩
  · exact h1
  · exact absurd h2 (h p)
theorem pr1_gl (h0 : 0 ≤ i) : pr1 l i.toNat ↔ i + 1 < (l.length : Int) ∧ gl l i = 0 ∧ gl l (i + 1) = 1 := by
  unfold pr1
  have e2 : (i + 1).toNat = i.toNat + 1 := by omega
  constructor
  · rintro ⟨h1, h2⟩
    obtain ⟨l1, v1⟩ := List.getElem?_eq_some_iff.mp h1
    obtain ⟨l2, v2⟩ := List.getElem?_eq_some_iff.mp h2
    refine ⟨by omega, by rw [gl_el h0 l1]; exact v1, ?_⟩
    have l3 : (i + 1).toNat < l.length := by omega
    rw [gl_el (by omega) l3]
    have h3 : l[(i + 1).toNat]? = some 1 := by rw [e2]; exact h2
    rw [List.getElem?_eq_getElem l3] at h3
    exact Option.some.inj h3
  · rintro ⟨h1, h2, h3⟩
    have l1 : i.toNat < l.length := by omega
    have l3 : (i + 1).toNat < l.length := by omega
    rw [gl_el h0 l1] at h2
    rw [gl_el (by omega) l3] at h3
    refine ⟨by rw [List.getElem?_eq_getElem l1, h2], ?_⟩
    rw [← e2, List.getElem?_eq_getElem l3, h3]
theorem pr1_lt {q : Nat} (h : pr1 l q) : q + 1 < l.length := (List.getElem?_eq_some_iff.mp h.2).1
theorem btl_0 (h : n ≤ 0) : btl l n = 0 := by
  cases l with
  | nil => rfl
  | cons c l => exact if_pos h
theorem btl_c (h : 0 < n) : btl (c :: l) n = btl l (n + ow c) + 1 := if_neg (by omega)
theorem btl_s (h : 0 < n) (h0 : 0 ≤ i) (h1 : i < (l.length : Int)) : btl (l.drop i.toNat) n = btl (l.drop (i + 1).toNat) (n + ow (gl l i)) + 1 := by
  have e1 : i.toNat < l.length := by omega
  rw [List.drop_eq_getElem_cons e1, btl_c h, show (i + 1).toNat = i.toNat + 1 by omega, gl_el h0 e1]
theorem btl_e (h : (l.length : Int) ≤ i) : btl (l.drop i.toNat) n = 0 := by
  rw [List.drop_eq_nil_of_le (by omega)]
  rfl
theorem btl_w : ∀ {t z : List Int} {n : Int}, (∀ q : Nat, q < t.length → 0 < n + oL (t.take q)) → n + oL t = 0 → btl (t ++ z) n = t.length
  | [], z, n, _, h => by
    have h0 : oL [] = 0 := rfl
    show btl z n = 0
    exact btl_0 (by omega)
  | c :: t, z, n, h, h2 => by
    have h0 := h 0 (by show 0 < t.length + 1; omega)
    have e0 : oL (List.take 0 (c :: t)) = 0 := rfl
    have e1 : oL (c :: t) = ow c + oL t := rfl
    have h9 := btl_w (t := t) (z := z) (n := n + ow c) (fun q hq => by
      have h3 := h (q + 1) (by show q + 1 < t.length + 1; omega)
      have e2 : oL (List.take (q + 1) (c :: t)) = ow c + oL (t.take q) := rfl
      omega) (by omega)
    show btl (c :: (t ++ z)) n = t.length + 1
    rw [btl_c (by omega), h9]
theorem btl_1 {t z : List Int} (h : wL t) : btl (t ++ z) 1 = t.length := btl_w (fun q hq => by have := h.2 q hq; omega) (by have := h.1; omega)
theorem btl_at {p t z : List Int} (h : wL t) (hi : i = (p.length : Int)) : btl ((p ++ (t ++ z)).drop i.toNat) 1 = t.length := by
  rw [show i.toNat = p.length by omega, List.drop_left]
  exact btl_1 h
theorem dN_0 (h : c = 0) : dN c d w = (d, d :: w) := if_pos h
theorem dN_1 (h : c = 1) : dN c d w = (d + 1, w) := (if_neg (by omega)).trans (if_pos h)
theorem dN_2 (h : c ≠ 0) (h1 : c ≠ 1) : dN c d w = (w.headD 0, w.tail) := (if_neg h).trans (if_neg h1)
theorem dpR_dN : dpR c d w.reverse = ((dN c d w).1, (dN c d w).2.reverse) := by
  by_cases z : c = 0
  · rw [dN_0 z]
    show dpR c d w.reverse = (d, (d :: w).reverse)
    rw [List.reverse_cons]
    exact if_pos z
  · by_cases z1 : c = 1
    · rw [dN_1 z1]
      exact (if_neg z).trans (if_pos z1)
    · rw [dN_2 z z1]
      refine ((if_neg z).trans (if_neg z1)).trans ?_
      cases w with
      | nil => rfl
      | cons a w =>
        show ((a :: w).reverse.getLastD 0, (a :: w).reverse.dropLast) = (a, w.reverse)
        rw [List.reverse_cons, List.getLastD_concat, List.dropLast_concat]
theorem dN_b {m : Int} (a1 : (w.length : Int) ≤ m) (a2 : 0 ≤ d ∧ d ≤ m) (a3 : ∀ x, x ∈ w → 0 ≤ x ∧ x ≤ m) : ((dN c d w).2.length : Int) ≤ m + 1 ∧ (0 ≤ (dN c d w).1 ∧ (dN c d w).1 ≤ m + 1) ∧ ∀ x, x ∈ (dN c d w).2 → 0 ≤ x ∧ x ≤ m + 1 := by
  by_cases z : c = 0
  · rw [dN_0 z]
    refine ⟨by show ((w.length + 1 : Nat) : Int) ≤ m + 1; omega, ⟨a2.1, by show d ≤ m + 1; omega⟩, fun x hx => ?_⟩
    rcases List.mem_cons.mp hx with rfl | hx
    · omega
    · have := a3 x hx
      omega
  · by_cases z1 : c = 1
    · rw [dN_1 z1]
      refine ⟨by show (w.length : Int) ≤ m + 1; omega, ⟨by show 0 ≤ d + 1; omega, by show d + 1 ≤ m + 1; omega⟩, fun x hx => ?_⟩
      have := a3 x hx
      omega
    · rw [dN_2 z z1]
      cases w with
      | nil => exact ⟨by show ((0 : Nat) : Int) ≤ m + 1; omega, ⟨by show (0 : Int) ≤ 0; omega, by show (0 : Int) ≤ m + 1; omega⟩, fun x hx => by cases hx⟩
      | cons a w =>
        have h1 := a3 a List.mem_cons_self
        have h2 : ((a :: w).length : Int) = (w.length : Int) + 1 := rfl
        refine ⟨by show (w.length : Int) ≤ m + 1; omega, ⟨by show 0 ≤ a; omega, by show a ≤ m + 1; omega⟩, fun x hx => ?_⟩
        have := a3 x (List.mem_cons_of_mem _ hx)
        omega
theorem RA.z (e : R = []) : RA f l n1 n2 n1 0 R [] := ⟨[], e, by show ((0 : Nat) : Int) ≤ n1 - n1; omega, ⟨by omega, by omega⟩, fun x hx => (by cases hx), rfl⟩
theorem RA.s (h : RA f l n1 n2 i d R g) (h0 : 0 ≤ n1 ∧ n1 ≤ i) (h1 : i < n2) (h2 : n2 ≤ (l.length : Int)) : RA f l n1 n2 (i + 1) (dpR (gl l i) d R).1 (dpR (gl l i) d R).2 (g ++ f (gl l i) d) := by
  obtain ⟨ws, rfl, a1, a2, a3, a4⟩ := h
  rw [dpR_dN]
  obtain ⟨b1, b2, b3⟩ := dN_b (c := gl l i) a1 a2 a3
  refine ⟨_, rfl, by omega, by omega, fun x hx => by have := b3 x hx; omega, ?_⟩
  rw [a4, sl_cons (by omega) h1 h2]
  show g ++ (f (gl l i) d ++ gN f _ _ _) = _
  rw [List.append_assoc]
theorem RA.e (h : RA f l n1 n2 i d R g) (hi : n2 ≤ i) : g = gN f (slc l n1 n2) 0 [] := by
  obtain ⟨ws, -, -, -, -, a4⟩ := h
  rw [a4, sl_0 hi]
  exact (List.append_nil g).symm
theorem RA.bd (h : RA f l n1 n2 i d R g) : (0 ≤ d ∧ d ≤ i - n1) ∧ (R.length : Int) ≤ i - n1 := by
  obtain ⟨ws, rfl, a1, a2, -, -⟩ := h
  rw [List.length_reverse]
  exact ⟨a2, a1⟩
theorem RA.full (h : RA f l n1 n2 i d R g) (h0 : 0 ≤ i) (h1 : i < n2) (h2 : n2 ≤ (l.length : Int)) : ∃ q : List Int, gN f (slc l n1 n2) 0 [] = g ++ (f (gl l i) d ++ q) := by
  obtain ⟨ws, -, -, -, -, a4⟩ := h
  rw [a4, sl_cons h0 h1 h2]
  exact ⟨_, rfl⟩
theorem PA.no {m q : List Int} (h : L = g ++ (m ++ q)) (h1 : 1000 < (b.length : Int) + g.length + m.length) (hx : x = 0) : PA x b a L := Or.inr ⟨hx, by
  rw [h, List.length_append, List.length_append, List.length_append]
  omega⟩
theorem PA.yes (hx : x = 1) (ha : a = b ++ L) (hl : (a.length : Int) ≤ 1000) : PA x b a L := Or.inl ⟨hx, ha, by rw [← ha]; exact hl⟩
theorem PA.x01 (h : PA x b a L) : x = 0 ∨ x = 1 := h.elim (fun z => Or.inr z.1) (fun z => Or.inl z.1)
theorem fR_lo (h : c < 2 + d) (e : x = c) : fR r c d = [x] := by
  unfold fR
  rw [if_pos h, e]
theorem fR_hi (h : ¬ c < 2 + d) (e : x = c + r) : fR r c d = [x] := by
  unfold fR
  rw [if_neg h, e]
theorem fS_0 (h : c < 2) (e : x = c) : fS u c d = [x] := by
  unfold fS
  rw [if_pos h, e]
theorem fS_1 (h : ¬ c < 2) (h1 : c = 2 + d) : fS u c d = rsl d u 0 [] := by
  unfold fS
  rw [if_neg h, if_pos h1]
theorem fS_2 (h : ¬ c < 2) (h1 : c < 2 + d) (e : x = c) : fS u c d = [x] := by
  unfold fS
  rw [if_neg h, if_neg (by omega), if_pos h1, e]
theorem fS_3 (h : 2 + d < c) (hd : 0 ≤ d) (e : x = c - 1) : fS u c d = [x] := by
  unfold fS
  rw [if_neg (by omega), if_neg (by omega), if_neg (by omega), e]
/-- how great the parts are -/
theorem gN_ub {D M : Int} : ∀ {l : List Int} {d : Int} {w : List Int}, (∀ c, c ∈ l → ∀ d, 0 ≤ d → d ≤ D → ∀ x, x ∈ f c d → 0 ≤ x ∧ x ≤ M) → 0 ≤ d → d + (l.length : Int) ≤ D → (∀ y, y ∈ w → 0 ≤ y ∧ y + (l.length : Int) ≤ D) → ∀ x, x ∈ gN f l d w → 0 ≤ x ∧ x ≤ M
  | [], _, _, _, _, _, _, x, hx => by cases hx
  | c :: l, d, w, hf, h0, h1, h2, x, hx => by
    have e9 : ((c :: l).length : Int) = (l.length : Int) + 1 := rfl
    rcases List.mem_append.mp hx with hx | hx
    · exact hf c List.mem_cons_self d h0 (by omega) x hx
    · have hd : 0 ≤ (dN c d w).1 ∧ (dN c d w).1 + (l.length : Int) ≤ D ∧ ∀ y, y ∈ (dN c d w).2 → 0 ≤ y ∧ y + (l.length : Int) ≤ D := by
        by_cases z : c = 0
        · rw [dN_0 z]
          refine ⟨h0, by show d + (l.length : Int) ≤ D; omega, fun y hy => ?_⟩
          rcases List.mem_cons.mp hy with rfl | hy
          · omega
          · have := h2 y hy
            omega
        · by_cases z1 : c = 1
          · rw [dN_1 z1]
            refine ⟨by show 0 ≤ d + 1; omega, by show d + 1 + (l.length : Int) ≤ D; omega, fun y hy => ?_⟩
            have := h2 y hy
            omega
          · rw [dN_2 z z1]
            cases w with
            | nil => exact ⟨by show (0 : Int) ≤ 0; omega, by show (0 : Int) + (l.length : Int) ≤ D; omega, fun y hy => by cases hy⟩
            | cons a w =>
              have h3 := h2 a List.mem_cons_self
              refine ⟨h3.1, by show a + (l.length : Int) ≤ D; omega, fun y hy => ?_⟩
              have := h2 y (List.mem_cons_of_mem _ hy)
              omega
      exact gN_ub (fun c' hc' => hf c' (List.mem_cons_of_mem _ hc')) hd.1 hd.2.1 hd.2.2 x hx
theorem rsl_ub {C : Int} (hu : ∀ x, x ∈ l → 0 ≤ x ∧ x ≤ C) (h0 : 0 ≤ r) : ∀ x, x ∈ rsl r l 0 [] → 0 ≤ x ∧ x ≤ C + r := by
  rw [rsl_gN]
  refine gN_ub (D := (l.length : Int)) (fun c hc d d0 d1 x hx => ?_) (Int.le_refl 0) (by omega) (fun y hy => by cases hy)
  have h1 := hu c hc
  have h2 := List.mem_singleton.mp hx
  rw [h2]
  split <;> omega
theorem sbl_ub {C : Int} (hu : ∀ x, x ∈ u → 0 ≤ x ∧ x ≤ C) (hl : ∀ x, x ∈ l → 0 ≤ x ∧ x ≤ C) (hn : (l.length : Int) ≤ 1000) : ∀ x, x ∈ sbl u l 0 [] → 0 ≤ x ∧ x ≤ C + 1000 := by
  rw [sbl_gN]
  refine gN_ub (D := 1000) (fun c hc d d0 d1 x hx => ?_) (Int.le_refl 0) (by omega) (fun y hy => by cases hy)
  have h1 := hl c hc
  unfold fS at hx
  split at hx
  · have h2 := List.mem_singleton.mp hx
    omega
  · split at hx
    · have := rsl_ub hu d0 x hx
      omega
    · split at hx
      · have h2 := List.mem_singleton.mp hx
        omega
      · have h2 := List.mem_singleton.mp hx
        omega
theorem RD.ub {c c' : List Int} {C : Int} (h : RD c c') (hc : ∀ x, x ∈ c → 0 ≤ x ∧ x ≤ C) (hn : (c.length : Int) ≤ 1000) : ∀ x, x ∈ c' → 0 ≤ x ∧ x ≤ C + 1000 := by
  obtain ⟨p, b, a, z, rfl, -, -, -, rfl⟩ := h
  have hlen : (p ++ 0 :: 1 :: (b ++ (a ++ z))).length = p.length + (b.length + (a.length + z.length) + 1 + 1) := by
    rw [List.length_append, List.length_cons, List.length_cons, List.length_append, List.length_append]
  have m1 : ∀ x, x ∈ b → 0 ≤ x ∧ x ≤ C := fun x hx => hc x (List.mem_append_right _ (List.mem_cons_of_mem _ (List.mem_cons_of_mem _ (List.mem_append_left _ hx))))
  have m2 : ∀ x, x ∈ a → 0 ≤ x ∧ x ≤ C := fun x hx => hc x (List.mem_append_right _ (List.mem_cons_of_mem _ (List.mem_cons_of_mem _ (List.mem_append_right _ (List.mem_append_left _ hx)))))
  intro x hx
  rcases List.mem_append.mp hx with hx | hx
  · have := hc x (List.mem_append_left _ hx)
    omega
  · rcases List.mem_append.mp hx with hx | hx
    · exact sbl_ub m2 m1 (by omega) x hx
    · have := hc x (List.mem_append_right _ (List.mem_cons_of_mem _ (List.mem_cons_of_mem _ (List.mem_append_right _ (List.mem_append_right _ hx)))))
      omega
theorem RD.wl {c c' : List Int} (h : RD c c') (hw : wL c) (hn : ∀ x, x ∈ c → 0 ≤ x) : wL c' := by
  obtain ⟨p, b, a, z, rfl, hb, ha, -, rfl⟩ := h
  obtain ⟨b', a', z', e, hb', ha', hw'⟩ := rd_w hw hn
  obtain ⟨rfl, e2⟩ := lead_u e hb hb'
  obtain ⟨rfl, rfl⟩ := lead_u e2 ha ha'
  exact hw'
theorem RD.ex {c : List Int} {q : Nat} (hw : wL c) (hn : ∀ x, x ∈ c → 0 ≤ x) (h : pr1 c q) (h0 : ∀ j : Nat, j < q → ¬ pr1 c j) : ∃ p b a z : List Int, c = p ++ 0 :: 1 :: (b ++ (a ++ z)) ∧ p.length = q ∧ wL b ∧ wL a ∧ RD c (p ++ (sbl a b 0 [] ++ z)) := by
  obtain ⟨l1, v1⟩ := List.getElem?_eq_some_iff.mp h.1
  obtain ⟨l2, v2⟩ := List.getElem?_eq_some_iff.mp h.2
  have e : c = c.take q ++ 0 :: 1 :: c.drop (q + 1 + 1) := by
    have e1 : c.drop q = c[q] :: c.drop (q + 1) := List.drop_eq_getElem_cons l1
    have e2 : c.drop (q + 1) = c[q + 1] :: c.drop (q + 1 + 1) := List.drop_eq_getElem_cons l2
    rw [v1, e2, v2] at e1
    rw [← e1, List.take_append_drop]
  obtain ⟨p, hp⟩ : ∃ p : List Int, p = c.take q := ⟨_, rfl⟩
  have hpl : p.length = q := by rw [hp, List.length_take]; omega
  rw [← hp] at e
  obtain ⟨r, hr⟩ : ∃ r : List Int, r = c.drop (q + 1 + 1) := ⟨_, rfl⟩
  rw [← hr] at e
  obtain ⟨b, a, z, rfl, hb, ha, -⟩ := rd_w (p := p) (q := r) (by rw [← e]; exact hw) (by rw [← e]; exact hn)
  exact ⟨p, b, a, z, e, hpl, hb, ha, p, b, a, z, e, hb, ha, fun i hi => h0 i (by omega), rfl⟩
theorem PLN.go {N m : Nat} {c c' : List Int} (h : ∀ r, PLN (N - m) c r → PLN N L r) (hm : m < N) (hd : RD c c') (hl : (c'.length : Int) ≤ 1000) : ∀ r, PLN (N - (m + 1)) c' r → PLN N L r := fun r hr => h r (by
  rw [show N - m = (N - (m + 1)) + 1 by omega]
  exact Or.inr ⟨c', hd, Or.inr ⟨by omega, hr⟩⟩)
theorem PLN.over {N m : Nat} {c c' : List Int} (h : ∀ r, PLN (N - m) c r → PLN N L r) (hm : m < N) (hd : RD c c') (hl : 1000 < (c'.length : Int)) : PLN N L none := h _ (by
  rw [show N - m = (N - (m + 1)) + 1 by omega]
  exact Or.inr ⟨c', hd, Or.inl ⟨by omega, rfl⟩⟩)
theorem PLN.stop {N m : Nat} {c : List Int} (h : ∀ r, PLN (N - m) c r → PLN N L r) (hm : m < N) (hn : ∀ q : Nat, ¬ pr1 c q) : PLN N L (some c) := h _ (by
  rw [show N - m = (N - (m + 1)) + 1 by omega]
  exact Or.inl ⟨hn, rfl⟩)
theorem PLN.fin {N m : Nat} {c : List Int} (h : ∀ r, PLN (N - m) c r → PLN N L r) (hm : N ≤ m) : PLN N L (some c) := h _ (by
  rw [show N - m = 0 by omega]
  rfl)
theorem PLx.det (h : PLx L n x) (h' : PLx L n y) : x = y := by
  obtain ⟨r, h1, h2⟩ := h
  obtain ⟨r', h3, h4⟩ := h'
  have e := h1.det h3
  subst e
  rcases h2 with ⟨e1, e2⟩ | ⟨c, e1, e2⟩
  · rcases h4 with ⟨e3, e4⟩ | ⟨c', e3, e4⟩
    · rw [e2, e4]
    · rw [e1] at e3
      cases e3
  · rcases h4 with ⟨e3, e4⟩ | ⟨c', e3, e4⟩
    · rw [e1] at e3
      cases e3
    · rw [e1] at e3
      cases e3
      rw [e2, e4]
/-! the reference's walk through a term -/
theorem wd_sn {t t' : Int → Int} {v : Int} (h : wd t 0 g) (hu : ∀ q : Int, q ≠ (g.length : Int) → t' q = t q) (hv : t' (g.length : Int) = v) : wd t' 0 (g ++ [v]) := fun q hq => by
  rw [List.length_append] at hq
  have hq2 : q < g.length + 1 := hq
  by_cases z : q < g.length
  · rw [List.getElem?_append_left z, h q z, hu _ (by omega)]
  · have e : q = g.length := by omega
    subst e
    rw [List.getElem?_append_right (Nat.le_refl _), Nat.sub_self, Int.zero_add, hv]
    rfl
theorem wd_cg {t t' : Int → Int} {i j : Int} (h : wd t i l) (e : ∀ q : Nat, q < l.length → t (i + (q : Int)) = t' (j + (q : Int))) : wd t' j l := fun q hq => by rw [h q hq, e q hq]
theorem wd_dr {t : Int → Int} {i : Int} (h : wd t i l) (j : Nat) : wd t (i + (j : Int)) (l.drop j) := fun q hq => by
  rw [List.length_drop] at hq
  rw [List.getElem?_drop, h (j + q) (by omega), show i + ((j + q : Nat) : Int) = i + (j : Int) + (q : Int) by omega]
theorem wd_mem {t : Int → Int} {i : Int} (h : wd t i l) {q : Nat} (hq : q < l.length) : t (i + (q : Int)) ∈ l := List.mem_of_getElem? (h q hq)
theorem RC.z (hL : wL L) (ho : o = 0) : RC f L k0 row o 0 [] := by
  subst ho
  refine ⟨⟨by omega, by omega⟩, 0, [], rfl, Or.inr ⟨[], rfl, fun q hq => absurd hq (Nat.not_lt_zero q), EN_0 hL, List.Pairwise.nil, fun e he => by cases he⟩⟩
theorem RC.bd {j : Nat} (h : RC f L k0 row o j g) : 0 ≤ o ∧ o ≤ (j : Int) := h.1
theorem RC.oe {j : Nat} (h : RC f L k0 row o j g) (hj : j < L.length) : (0 ≤ o ∧ o ≤ (j : Int)) ∧ ∃ (d : Int) (w E : List Int), gN f L 0 [] = g ++ gN f (L.drop j) d w ∧ o = (E.length : Int) ∧ wd row 0 E.reverse ∧ EN E (k0 + (j : Int)) (L.drop j) d w ∧ sE E (k0 + (j : Int)) := by
  obtain ⟨h0, d, w, h1, h2⟩ := h
  rcases h2 with h2 | ⟨E, e1, e2, e3, e4⟩
  · exfalso
    have h3 := List.length_drop (i := j) (l := L)
    rw [h2] at h3
    have h4 : 0 = L.length - j := h3
    omega
  · exact ⟨h0, d, w, E, h1, e1, e2, e3, e4⟩
theorem wd_top {E : List Int} {x : Int} (h : wd row 0 (x :: E).reverse) : wd row 0 E.reverse ∧ row (E.length : Int) = x := by
  rw [List.reverse_cons] at h
  obtain ⟨h1, h2⟩ := wd_app h
  refine ⟨h1, ?_⟩
  have h3 := h2 0 (by show 0 < 1; omega)
  rw [List.length_reverse] at h3
  have h4 : x = row (0 + (E.length : Int) + ((0 : Nat) : Int)) := Option.some.inj h3
  rw [h4]
  congr 1
  omega
theorem RC.pop {j : Nat} (h : RC f L k0 row o j g) (hj : j < L.length) (ho : 0 < o) (hr : row (o - 1) = k0 + (j : Int)) : RC f L k0 row (o - 1) j g := by
  obtain ⟨h0, d, w, E, h1, e1, e2, e3, e4⟩ := h.oe hj
  cases E with
  | nil =>
    have e1 : o = ((0 : Nat) : Int) := e1
    omega
  | cons x E =>
    have e1 : o = ((E.length + 1 : Nat) : Int) := e1
    obtain ⟨e5, e6⟩ := wd_top e2
    rw [show o - 1 = (E.length : Int) by omega] at hr
    refine ⟨⟨by omega, by omega⟩, d, w, h1, Or.inr ⟨E, by omega, e5, EN_pop (by omega) e3, sE_pop e4⟩⟩
theorem RC.out {j : Nat} (h : RC f L k0 row o j g) (hj : j < L.length) (ho : o ≤ 0 ∨ row (o - 1) ≠ k0 + (j : Int)) : RO f L k0 row o j g := by
  obtain ⟨h0, d, w, E, h1, e1, e2, e3, e4⟩ := h.oe hj
  have hall : ∀ e, e ∈ E → k0 + (j : Int) < e := by
    cases E with
    | nil => exact fun e he => by cases he
    | cons x E =>
      have e9 : o = ((E.length + 1 : Nat) : Int) := e1
      obtain ⟨e5, e6⟩ := wd_top e2
      have hx : x ≠ k0 + (j : Int) := by
        rcases ho with z | z
        · omega
        · rw [show o - 1 = (E.length : Int) by omega, e6] at z
          exact z
      exact sE_out e4 hx
  have hd : d = o := by rw [EN_d e3, cE_all hall, e1]
  subst hd
  exact ⟨h0, w, E, e1, e2, e3, e4, hall, h1⟩
theorem drop_c {j : Nat} {c : Int} (h : L[j]? = some c) : L.drop j = c :: L.drop (j + 1) := by
  obtain ⟨l1, v1⟩ := List.getElem?_eq_some_iff.mp h
  rw [List.drop_eq_getElem_cons l1, v1]
theorem RO.bd {j : Nat} (h : RO f L k0 row o j g) : 0 ≤ o ∧ o ≤ (j : Int) := h.1
theorem RO.full {j : Nat} (h : RO f L k0 row o j g) (hc : L[j]? = some c) : ∃ q : List Int, gN f L 0 [] = g ++ (f c o ++ q) := by
  obtain ⟨-, w, E, -, -, -, -, -, e6⟩ := h
  rw [e6, drop_c hc]
  exact ⟨_, rfl⟩
theorem RO.av {j : Nat} (h : RO f L k0 row o j g) (hc : L[j]? = some c) (h0 : 0 ≤ c) (h1 : c ≠ 1) : RC f L k0 row o (j + 1) (g ++ f c o) := by
  obtain ⟨⟨b1, b2⟩, w, E, e1, e2, e3, e4, e5, e6⟩ := h
  rw [drop_c hc] at e3 e6
  have hk : k0 + ((j + 1 : Nat) : Int) = k0 + (j : Int) + 1 := by omega
  by_cases z : c = 0
  · subst z
    refine ⟨⟨b1, by omega⟩, o, o :: w, ?_, Or.inr ⟨E, e1, e2, ?_, ?_⟩⟩
    · rw [e6, List.append_assoc]
      rfl
    · rw [hk]
      exact EN_a e3
    · rw [hk]
      exact sE_next e4 e5
  · have hg : gN f (c :: L.drop (j + 1)) o w = f c o ++ gN f (L.drop (j + 1)) (w.headD 0) w.tail := by
      show f c o ++ gN f _ (dN c o w).1 (dN c o w).2 = _
      rw [dN_2 z h1]
    rw [hg] at e6
    cases w with
    | nil =>
      obtain ⟨a1, -, -⟩ := e3
      have hnil := wL_var a1 (by omega)
      exact ⟨⟨b1, by omega⟩, 0, [], by rw [e6, List.append_assoc]; rfl, Or.inl hnil⟩
    | cons d2 w =>
      refine ⟨⟨b1, by omega⟩, d2, w, by rw [e6, List.append_assoc]; rfl, Or.inr ⟨E, e1, e2, ?_, ?_⟩⟩
      · rw [hk]
        exact EN_v e3 (by omega)
      · rw [hk]
        exact sE_next e4 e5
theorem RO.f1 {j : Nat} (h : RO f L k0 row o j g) (hc : L[j]? = some 1) : ∃ a b : List Int, L.drop j = a ++ b ∧ wL a ∧ ∀ row' : Int → Int, row' o = k0 + (j : Int) + (a.length : Int) → (∀ q : Int, q ≠ o → row' q = row q) → RC f L k0 row' (o + 1) (j + 1) (g ++ f 1 o) := by
  obtain ⟨⟨b1, b2⟩, w, E, e1, e2, e3, e4, e5, e6⟩ := h
  rw [drop_c hc] at e3 e6 ⊢
  have hk : k0 + ((j + 1 : Nat) : Int) = k0 + (j : Int) + 1 := by omega
  obtain ⟨a, b, h1, h2, h3⟩ := EN_f e3
  refine ⟨a, b, h1, h2, fun row' r1 r2 => ⟨⟨by omega, by omega⟩, o + 1, w, ?_, Or.inr ⟨(k0 + (j : Int) + (a.length : Int)) :: E, by show o + 1 = ((E.length + 1 : Nat) : Int); omega, ?_, ?_, ?_⟩⟩⟩
  · rw [e6, List.append_assoc]
    show g ++ (f 1 o ++ gN f _ (dN 1 o w).1 (dN 1 o w).2) = _
    rw [dN_1 rfl]
  · rw [List.reverse_cons]
    refine wd_sn (wd_cg e2 (fun q hq => (r2 _ ?_).symm)) (fun q hq => rfl) ?_
    · rw [List.length_reverse] at hq
      omega
    · rw [List.length_reverse, ← e1]
      exact r1
  · rw [hk]
    exact h3
  · rw [hk]
    have ha := wL_ne h2
    obtain ⟨a', b', f1, f2, f3⟩ := EN_first e3
    obtain ⟨rfl, -⟩ := lead_u (h1.symm.trans f1) h2 f2
    exact sE_push e4 e5 (by omega) f3
theorem RC.e (h : RC f L k0 row o L.length g) : g = gN f L 0 [] := by
  obtain ⟨-, d, w, h1, -⟩ := h
  rw [h1, List.drop_eq_nil_of_le (Nat.le_refl _)]
  exact (List.append_nil g).symm
end PLC
