/-! THE CLASS'S OBJECTS, typed: which cells they are (the class by its number; 11: the row that is the tape), what their fields hold -/
def ob_L : Nat → List Nat
  | 0 => [74]
  | 1 => [56, 65]
  | 2 => [32]
  | 3 => [5, 7, 9, 11, 13, 18, 20, 22, 24, 26, 28, 30, 33, 35, 37, 39, 42, 44, 48, 50, 52, 54, 57, 59, 61, 63, 66, 68, 70, 72, 75, 77, 79]
  | 4 => [17]
  | 5 => [41]
  | 6 => [4]
  | 7 => [15]
  | 8 => [16]
  | 9 => [1]
  | 10 => []
  | 11 => [2, 46]
  | _ => []
def ob (l i : Nat) : Prop := i ∈ ob_L l
def ob_lab (i : Nat) : Nat := ([12, 9, 11, 12, 6, 3, 12, 3, 12, 3, 12, 3, 12, 3, 12, 7, 8, 4, 3, 12, 3, 12, 3, 12, 3, 12, 3, 12, 3, 12, 3, 12, 2, 3, 12, 3, 12, 3, 12, 3, 12, 5, 3, 12, 3, 12, 11, 12, 3, 12, 3, 12, 3, 12, 3, 12, 1, 3, 12, 3, 12, 3, 12, 3, 12, 1, 3, 12, 3, 12, 3, 12, 3, 12, 0, 3, 12, 3, 12, 3, 12] : List Nat).getD i 12
/-- the fields' types: 0 a number, 1 a truth value, n + 2 an object of n -/
def ty_F : Nat → List Nat
  | 0 => [5, 5, 5, 3, 0]
  | 1 => [5, 5, 5, 5, 0, 0, 0, 1]
  | 2 => [5, 5, 5, 5, 0, 1]
  | 4 => [5, 5, 5]
  | 5 => [5, 5]
  | 6 => [9, 5, 5, 5, 5, 5, 0, 0, 0, 0, 0, 1]
  | 7 => [13, 0, 0, 0]
  | 8 => [6, 5, 5, 5, 5, 0, 0, 0, 1]
  | 9 => [13, 8, 10, 4, 7, 13, 5, 5, 5, 5, 3, 3, 2, 0, 0, 0, 1, 1]
  | _ => []
def ty_V : Nat → am_v → Prop
  | 0, v => ∃ x : Int32, v = .inl x
  | 1, v => ∃ x : Int32, v = .inl x ∧ (x = 0 ∨ x = 1)
  | l + 2, v => ∃ i : Nat, v = .inr (.inr (some i)) ∧ ob l i
/-- a place that the class's rows may lie in -/
def ob_ar (a : Nat) : Prop := a ≠ 0 ∧ (a < 81 ∨ 122 < a)
/-- a row's bound, and how much room it has at first -/
def ob_mo (i : Nat) : Int32 := ([0, 0, 700, 0, 0, 1402, 0, 65, 0, 62, 0, 36, 0, 26, 0, 0, 0, 0, 8204, 0, 20010, 0, 8004, 0, 400, 0, 1600, 0, 800, 0, 80000, 0, 0, 1000, 0, 1000, 0, 1000, 0, 1000, 0, 0, 3000, 0, 2000, 0, 120, 0, 120, 0, 1000, 0, 6, 0, 15, 0, 0, 402, 0, 402, 0, 1608, 0, 2, 0, 0, 402, 0, 402, 0, 1608, 0, 2, 0, 0, 360, 0, 360, 0, 120, 0] : List Int32).getD i 0
def ob_c0 (i : Nat) : Nat := ([0, 0, 80, 0, 0, 128, 0, 5, 0, 16, 0, 9, 0, 8, 0, 0, 0, 0, 32, 0, 100, 0, 64, 0, 64, 0, 32, 0, 32, 0, 64, 0, 0, 32, 0, 32, 0, 64, 0, 64, 0, 0, 64, 0, 32, 0, 64, 0, 64, 0, 64, 0, 6, 0, 15, 0, 0, 402, 0, 402, 0, 1608, 0, 2, 0, 0, 402, 0, 402, 0, 1608, 0, 2, 0, 0, 24, 0, 24, 0, 16, 0] : List Nat).getD i 0
def ob_c (i : Nat) (mo : Int32) (n : Nat) : Prop := mo = ob_mo i ∧ ob_c0 i ≤ n ∧ (n : Int) ≤ mo.toInt
def ob_row (h : am_h) (i : Nat) : Prop := ∃ (mo z : Int32) (a : Nat) (xs : Nat × Int32 × List Int32), h[i]? = some (.inr (3, [.inl mo, .inr (.inr (some a)), .inl z])) ∧ h[a]? = some (.inl (.inl xs)) ∧ ob_ar a ∧ (0 ≤ z.toInt ∧ z.toInt ≤ (xs.1 : Int)) ∧ (1 ≤ xs.1 ∧ xs.1 ≤ 100000) ∧ (1 ≤ mo.toInt ∧ mo.toInt ≤ 100000) ∧ ob_c i mo xs.1
/-- the cell of a row's numbers; what it holds -/
def ob_ra (h : am_h) (i : Nat) : Nat := match h[i]? with
  | some (.inr (_, [_, .inr (.inr (some a)), _])) => a
  | _ => 0
def ob_li (z : Int32) (xs : Nat × Int32 × List Int32) : List Int := (List.range z.toInt.toNat).map (fun q => (xs.2.2.getD q xs.2.1).toInt)
def ob_l (h : am_h) (i : Nat) : List Int := match h[i]? with
  | some (.inr (_, [_, .inr (.inr (some a)), .inl z])) => (match h[a]? with
    | some (.inl (.inl xs)) => ob_li z xs
    | _ => [])
  | _ => []
def ob_R : List Nat := ob_L 11 ++ ob_L 3
def ob_dj (h : am_h) : Prop := ∀ i j : Nat, i ∈ ob_R → j ∈ ob_R → i ≠ j → ob_ra h i ≠ ob_ra h j
def ob_obj (h : am_h) (l i : Nat) : Prop := ∃ fs : List am_v, h[i]? = some (.inr (l, fs)) ∧ fs.length = (ty_F l).length ∧ ∀ (k τ : Nat), (ty_F l)[k]? = some τ → ∃ v : am_v, fs[k]? = some v ∧ ty_V τ v
def ty_H (h : am_h) : Prop := am_okH h.length h = true ∧ 123 ≤ h.length ∧ (∀ (l i : Nat), ob l i → l ≠ 3 → l ≠ 11 → ob_obj h l i) ∧ (∀ i, ob 3 i ∨ ob 11 i → ob_row h i) ∧ ob_dj h
/-- a field -/
def ob_f (h : am_h) (i k : Nat) : Option am_v := match h[i]? with
  | some (.inr (_, fs)) => fs[k]?
  | _ => none
/-- the rows that plain works in: one of them is the term, the other one is free -/
def pqb (h : am_h) : Bool := match ob_f h 32 2, ob_f h 32 3 with
  | some (.inr (.inr (some a))), some (.inr (.inr (some b))) => (Nat.beq a 37 && Nat.beq b 39) || (Nat.beq a 39 && Nat.beq b 37)
  | _, _ => false
/-- what stays: what isn't the class's; the fields that aren't in W (but the rows') -/
def ob_Fr (W : List (Nat × Nat)) (h h' : am_h) : Prop := h.length ≤ h'.length ∧ (∀ a : Nat, (a = 0 ∨ (81 ≤ a ∧ a ≤ 122)) → h'[a]? = h[a]?) ∧ (∀ (l i k : Nat), ob l i → l ≠ 3 → (l, k) ∉ W → ob_f h' i k = ob_f h i k) ∧ (∀ i : Nat, ob 11 i → (11, 1) ∉ W → ob_l h' i = ob_l h i) ∧ pqb h' = pqb h
/-- how much a row may still cost: it grows by doubling up to its bound -/
def ob_p (h : am_h) (i : Nat) : Nat := match h[i]? with
  | some (.inr (_, [.inl mo, .inr (.inr (some a)), .inl _])) => (match h[a]? with
    | some (.inl (.inl xs)) => if (xs.1 : Int) < mo.toInt then 3 * mo.toInt.toNat - 2 * xs.1 else 0
    | _ => 0)
  | _ => 0
def ob_P (h : am_h) : Nat := (ob_R.map (ob_p h)).sum
/-- the class's part of the heap is as it must be; what stayed since h0; what was spent -/
def ob_I (W : List (Nat × Nat)) (B : Nat) (h0 h : am_h) (c s : Nat) : Prop := ty_H h ∧ ob_Fr W h0 h ∧ c + ob_P h ≤ B ∧ s + ob_P h ≤ B
section TYA
variable {W W' : List (Nat × Nat)} {B c s l i k τ : Nat} {h h' h0 : am_h}
theorem ob_lt12 (e : ob l i) : l < 12 := by
  by_cases hl : l < 12
  · exact hl
  · obtain ⟨m, rfl⟩ : ∃ m, l = m + 12 := ⟨l - 12, by omega⟩
    exact absurd e (fun z : i ∈ ([] : List Nat) => by cases z)
theorem ob_all : ∀ l, l < 12 → ∀ i, i ∈ ob_L l → ob_lab i = l ∧ i < 81 ∧ i ≠ 0 := by decide
theorem ob_lab_eq (e : ob l i) : ob_lab i = l := (ob_all l (ob_lt12 e) i e).1
theorem ob_lt (e : ob l i) : i < 81 := (ob_all l (ob_lt12 e) i e).2.1
theorem ob_ne0 (e : ob l i) : i ≠ 0 := (ob_all l (ob_lt12 e) i e).2.2
theorem ob_ne {l2 i2 : Nat} (e : ob l i) (e2 : ob l2 i2) (hn : l ≠ l2) : i ≠ i2 := fun z => by
  subst z
  exact hn ((ob_lab_eq e).symm.trans (ob_lab_eq e2))
theorem ob_R_mem (hi : i ∈ ob_R) : ob 3 i ∨ ob 11 i := (List.mem_append.mp hi).elim Or.inr Or.inl
theorem ob_mem_R (hi : ob 3 i ∨ ob 11 i) : i ∈ ob_R := List.mem_append.mpr (hi.elim Or.inr Or.inl)
theorem ob_R_nd : ob_R.Nodup := by decide
theorem ob_Fr.rf : ob_Fr W h h := ⟨Nat.le_refl _, fun _ _ => rfl, fun _ _ _ _ _ _ => rfl, fun _ _ _ => rfl, rfl⟩
theorem ob_Fr.trans {h2 : am_h} (a : ob_Fr W h h') (b : ob_Fr W h' h2) : ob_Fr W h h2 := ⟨Nat.le_trans a.1 b.1, fun q hq => (b.2.1 q hq).trans (a.2.1 q hq), fun l i k e1 e2 e3 => (b.2.2.1 l i k e1 e2 e3).trans (a.2.2.1 l i k e1 e2 e3), fun i e1 e2 => (b.2.2.2.1 i e1 e2).trans (a.2.2.2.1 i e1 e2), b.2.2.2.2.trans a.2.2.2.2⟩
theorem ob_Fr.mono (hW : ∀ x ∈ W', x ∈ W) (a : ob_Fr W' h h') : ob_Fr W h h' := ⟨a.1, a.2.1, fun l i k e1 e2 e3 => a.2.2.1 l i k e1 e2 (fun z => e3 (hW _ z)), fun i e1 e2 => a.2.2.2.1 i e1 (fun z => e2 (hW _ z)), a.2.2.2.2⟩
theorem ob_I.start (hT : ty_H h) : ob_I W (ob_P h) h h 0 0 := ⟨hT, ob_Fr.rf, by omega, by omega⟩
theorem ob_I.call {c' s' : Nat} (hI : ob_I W B h0 h c s) (hW : ∀ x ∈ W', x ∈ W) (h2 : ob_I W' (ob_P h) h h' c' s') : ob_I W B h0 h' (c + c') (s + s') := ⟨h2.1, hI.2.1.trans (h2.2.1.mono hW), by have a := hI.2.2.1; have b := h2.2.2.1; omega, by have a := hI.2.2.2; have b := h2.2.2.2; omega⟩
theorem ob_I.len (hI : ob_I W B h0 h c s) : 123 ≤ h.length := hI.1.2.1
/-- a field is read -/
theorem ty_H.get (hT : ty_H h) (ho : ob l i) (h3 : (Nat.beq l 3 || Nat.beq l 11) = false) (hk : (ty_F l)[k]? = some τ) : ∃ (fs : List am_v) (v : am_v), h[i]? = some (.inr (l, fs)) ∧ fs[k]? = some v ∧ ty_V τ v := by
  have e := Bool.or_eq_false_iff.mp h3
  obtain ⟨fs, e1, -, e2⟩ := hT.2.2.1 l i ho (fun z => by subst z; cases e.1) (fun z => by subst z; cases e.2)
  obtain ⟨v, e3, e4⟩ := e2 k τ hk
  exact ⟨fs, v, e1, e3, e4⟩
theorem ty_H.row (hT : ty_H h) (ho : ob 3 i ∨ ob 11 i) : ob_row h i := hT.2.2.2.1 i ho
/-- the class of a receiver -/
theorem ty_H.rc {as : List am_v} (hT : ty_H h) (ho : ob l i) (h3 : (Nat.beq l 3 || Nat.beq l 11) = false) : am_rc (l + 3) h (.inr (.inr (some i)) :: as) = true := by
  have e := Bool.or_eq_false_iff.mp h3
  obtain ⟨fs, e1, -, e2⟩ := hT.2.2.1 l i ho (fun z => by subst z; cases e.1) (fun z => by subst z; cases e.2)
  exact am_rcE e1
theorem ty_H.rc3 {as : List am_v} (hT : ty_H h) (ho : ob 3 i ∨ ob 11 i) : am_rc 6 h (.inr (.inr (some i)) :: as) = true := by
  obtain ⟨mo, z, a, xs, e1, -⟩ := hT.row ho
  exact am_rcE e1
theorem ty_okV {v : am_v} {n : Nat} (hn : 81 ≤ n) (hv : ty_V τ v) : am_okV n v = true := by
  match τ, hv with
  | 0, ⟨x, e⟩ => rw [e]; rfl
  | 1, ⟨x, e, _⟩ => rw [e]; rfl
  | l + 2, ⟨i, e, ho⟩ =>
    rw [e]
    exact Nat.ble_eq_true_of_le (Nat.le_trans (ob_lt ho) hn)
theorem ob_okR (hI : ob_I W B h0 h c s) (ho : ob l i) : am_okV h.length (.inr (.inr (some i))) = true := Nat.ble_eq_true_of_le (Nat.le_trans (ob_lt ho) (Nat.le_trans (by decide) hI.len))
theorem so_n {n : Nat} : ([] : List am_v).all (am_okV n) = true := rfl
theorem so_i {n : Nat} {x : Int32} {st : List am_v} (e : st.all (am_okV n) = true) : (.inl x :: st : List am_v).all (am_okV n) = true := e
theorem so_r {st : List am_v} (hI : ob_I W B h0 h c s) (ho : ob l i) (e : st.all (am_okV h.length) = true) : (.inr (.inr (some i)) :: st : List am_v).all (am_okV h.length) = true := by
  rw [List.all_cons, ob_okR hI ho, e]
  rfl
/-- the potential where one cell was changed -/
theorem ob_sum {f g : Nat → Nat} : ∀ {L : List Nat}, L.Nodup → i ∈ L → (∀ j ∈ L, j ≠ i → f j = g j) → (L.map f).sum + g i = (L.map g).sum + f i
  | [], _, hm, _ => by cases hm
  | a :: L, hn, hm, he => by
    have hn2 := List.nodup_cons.mp hn
    rw [List.map_cons, List.map_cons, List.sum_cons, List.sum_cons]
    by_cases e : a = i
    · subst e
      have e2 : L.map f = L.map g := List.map_congr_left (fun j hj => he j (List.mem_cons_of_mem _ hj) (fun z => hn2.1 (by rw [← z]; exact hj)))
      rw [e2]
      omega
    · have hm2 : i ∈ L := (List.mem_cons.mp hm).elim (fun z => absurd z.symm e) id
      have ih := ob_sum hn2.2 hm2 (fun j hj hji => he j (List.mem_cons_of_mem _ hj) hji)
      have e3 := he a List.mem_cons_self e
      omega
theorem ob_p_eq {mo z : Int32} {a : Nat} {xs : Nat × Int32 × List Int32} (e1 : h[i]? = some (.inr (3, [.inl mo, .inr (.inr (some a)), .inl z]))) (e2 : h[a]? = some (.inl (.inl xs))) : ob_p h i = if (xs.1 : Int) < mo.toInt then 3 * mo.toInt.toNat - 2 * xs.1 else 0 := by
  unfold ob_p
  simp only [e1, e2]
theorem ob_ra_eq {mo z : am_v} {a cl : Nat} (e1 : h[i]? = some (.inr (cl, [mo, .inr (.inr (some a)), z]))) : ob_ra h i = a := by
  unfold ob_ra
  simp only [e1]
theorem ob_l_eq {mo z : Int32} {a : Nat} {xs : Nat × Int32 × List Int32} (e1 : h[i]? = some (.inr (3, [.inl mo, .inr (.inr (some a)), .inl z]))) (e2 : h[a]? = some (.inl (.inl xs))) : ob_l h i = ob_li z xs := by
  unfold ob_l
  simp only [e1, e2]
/-- a step on a row's cells: itself, and its numbers' cell, which may be another one then, a new one -/
def ob_st (h h' : am_h) (i : Nat) : Prop := h.length ≤ h'.length ∧ am_okH h'.length h' = true ∧ (∀ q : Nat, q < h.length → q ≠ i → q ≠ ob_ra h i → h'[q]? = h[q]?) ∧ ob_row h' i ∧ (ob_ra h' i = ob_ra h i ∨ h.length ≤ ob_ra h' i)
theorem ob_st.P {j : Nat} (hT : ty_H h) (hs : ob_st h h' i) (hj : j ∈ ob_R) (hji : j ≠ i) (hi : ob 3 i ∨ ob 11 i) : ob_p h' j = ob_p h j ∧ ob_row h' j ∧ ob_l h' j = ob_l h j ∧ ob_ra h' j = ob_ra h j ∧ h'[j]? = h[j]? := by
  obtain ⟨mo, z, a, xs, e1, e2, e3, e4⟩ := hT.row (ob_R_mem hj)
  obtain ⟨mi, zi, ai, xi, d1, d2, -⟩ := hT.row hi
  have hjl : j < h.length := (List.getElem?_eq_some_iff.mp e1).1
  have hal : a < h.length := (List.getElem?_eq_some_iff.mp e2).1
  have hra : ob_ra h i = ai := ob_ra_eq d1
  have hrj : ob_ra h j = a := ob_ra_eq e1
  have f1 : h'[j]? = h[j]? := hs.2.2.1 j hjl hji (fun e => by
    rw [hra] at e
    subst e
    rw [e1] at d2
    cases d2)
  have hai : a ≠ i := fun e => by
    subst e
    rw [e2] at d1
    cases d1
  have f2 : h'[a]? = h[a]? := hs.2.2.1 a hal hai (fun e => hT.2.2.2.2 j i hj (ob_mem_R hi) hji (by rw [hrj]; exact e))
  have g1 := f1.trans e1
  have g2 := f2.trans e2
  exact ⟨by rw [ob_p_eq g1 g2, ob_p_eq e1 e2], ⟨mo, z, a, xs, g1, g2, e3, e4⟩, by rw [ob_l_eq g1 g2, ob_l_eq e1 e2], by rw [ob_ra_eq g1, hrj], f1⟩
theorem ob_st.dj (hT : ty_H h) (hs : ob_st h h' i) (hi : ob 3 i ∨ ob 11 i) : ob_dj h' := by
  have hlt : ∀ j, j ∈ ob_R → ob_ra h j < h.length := fun j hj => by
    obtain ⟨mo, z, a, xs, e1, e2, -⟩ := hT.row (ob_R_mem hj)
    rw [ob_ra_eq e1]
    exact (List.getElem?_eq_some_iff.mp e2).1
  have hmi := ob_mem_R hi
  intro j k hj hk hjk
  by_cases zj : j = i
  · subst zj
    have zk : k ≠ j := fun e => hjk e.symm
    rw [(hs.P hT hk zk hi).2.2.2.1]
    rcases hs.2.2.2.2 with e | e
    · rw [e]
      exact hT.2.2.2.2 j k hj hk hjk
    · have := hlt k hk
      omega
  · rw [(hs.P hT hj zj hi).2.2.2.1]
    by_cases zk : k = i
    · subst zk
      rcases hs.2.2.2.2 with e | e
      · rw [e]
        exact hT.2.2.2.2 j k hj hk hjk
      · have := hlt j hj
        omega
    · rw [(hs.P hT hk zk hi).2.2.2.1]
      exact hT.2.2.2.2 j k hj hk hjk
theorem ob_st.cell {l2 i2 : Nat} (hT : ty_H h) (hs : ob_st h h' i) (hi : ob 3 i ∨ ob 11 i) (ho : ob l2 i2) (h3 : l2 ≠ 3) (hne : i2 ≠ i) : h'[i2]? = h[i2]? := by
  have hl : i2 < h.length := Nat.lt_of_lt_of_le (ob_lt ho) (Nat.le_trans (by decide) hT.2.1)
  obtain ⟨mi, zi, ai, xi, d1, d2, -⟩ := hT.row hi
  refine hs.2.2.1 i2 hl hne (fun e => ?_)
  rw [ob_ra_eq d1] at e
  subst e
  by_cases h11 : l2 = 11
  · subst h11
    obtain ⟨mo9, z9, a9, xs8, g1, -⟩ := hT.row (Or.inr ho)
    rw [d2] at g1
    cases g1
  · obtain ⟨fs, g1, -⟩ := hT.2.2.1 l2 i2 ho h3 h11
    rw [d2] at g1
    cases g1
theorem o232 : ob 2 32 := show 32 ∈ ob_L 2 by decide
theorem pq_of (a : ob_f h' 32 2 = ob_f h 32 2) (b : ob_f h' 32 3 = ob_f h 32 3) : pqb h' = pqb h := by
  unfold pqb
  rw [a, b]
theorem ob_f_eq (e : h'[i]? = h[i]?) : ob_f h' i k = ob_f h i k := by
  unfold ob_f
  rw [e]
theorem ob_okR2 (hI : ob_I W B h0 h c s) (ho : ob 3 i ∨ ob 11 i) : am_okV h.length (.inr (.inr (some i))) = true := ho.elim (ob_okR hI) (ob_okR hI)
theorem so_r2 {st : List am_v} (hI : ob_I W B h0 h c s) (ho : ob 3 i ∨ ob 11 i) (e : st.all (am_okV h.length) = true) : (.inr (.inr (some i)) :: st : List am_v).all (am_okV h.length) = true := ho.elim (fun z => so_r hI z e) (fun z => so_r hI z e)
theorem ob_st.I {c' s' : Nat} (hI : ob_I W B h0 h c s) (hi : ob 3 i ∨ (ob 11 i ∧ ∀ k, k < 3 → (11, k) ∈ W)) (hs : ob_st h h' i) (hc : c' + ob_p h' i ≤ c + ob_p h i) (hs2 : s' + ob_p h' i ≤ s + ob_p h i) : ob_I W B h0 h' c' s' := by
  have hi0 : ob 3 i ∨ ob 11 i := hi.elim Or.inl (fun z => Or.inr z.1)
  have hT := hI.1
  have hsum := ob_sum (i := i) (f := ob_p h') (g := ob_p h) ob_R_nd (ob_mem_R hi0) (fun j hj hji => (hs.P hT hj hji hi0).1)
  have hP : ob_P h' + ob_p h i = ob_P h + ob_p h' i := hsum
  have hcell : ∀ {l2 i2 : Nat}, ob l2 i2 → l2 ≠ 3 → i2 ≠ i → h'[i2]? = h[i2]? := fun {l2 i2} ho h3 hne => hs.cell hT hi0 ho h3 hne
  have h32 : h'[32]? = h[32]? := hcell o232 (by decide) (hi0.elim (fun z => ob_ne o232 z (by decide)) (fun z => ob_ne o232 z (by decide)))
  refine ⟨⟨hs.2.1, Nat.le_trans hT.2.1 hs.1, fun l2 i2 ho h3 h11 => ?_, fun i2 ho => ?_, hs.dj hT hi0⟩, hI.2.1.trans ⟨hs.1, fun a ha => ?_, fun l2 i2 k ho h3 hW => ?_, fun i2 ho hW => ?_, pq_of (ob_f_eq h32) (ob_f_eq h32)⟩, by have := hI.2.2.1; omega, by have := hI.2.2.2; omega⟩
  · have hne : i2 ≠ i := by
      rcases hi0 with z | z
      · exact ob_ne ho z h3
      · exact ob_ne ho z h11
    obtain ⟨fs, g1, g2⟩ := hT.2.2.1 l2 i2 ho h3 h11
    exact ⟨fs, by rw [hcell ho h3 hne]; exact g1, g2⟩
  · by_cases hne : i2 = i
    · subst hne
      exact hs.2.2.2.1
    · exact (hs.P hT (ob_mem_R ho) hne hi0).2.1
  · have hl : a < h.length := by
      have := hT.2.1
      omega
    have hai : a ≠ i := by
      have h1 := hi0.elim (fun z => ob_lt z) (fun z => ob_lt z)
      have h2 := hi0.elim (fun z => ob_ne0 z) (fun z => ob_ne0 z)
      omega
    obtain ⟨mi, zi, ai, xi, d1, d2, d3, -⟩ := hT.row hi0
    refine hs.2.2.1 a hl hai (fun e => ?_)
    rw [ob_ra_eq d1] at e
    have h1 := d3.1
    have h2 := d3.2
    omega
  · by_cases hne : i2 = i
    · subst hne
      rcases hi with z | ⟨z, hz⟩
      · exact absurd ((ob_lab_eq ho).symm.trans (ob_lab_eq z)) h3
      · have h11 : l2 = 11 := (ob_lab_eq ho).symm.trans (ob_lab_eq z)
        subst h11
        have hk3 : ¬ k < 3 := fun z9 => hW (hz k z9)
        have hz1 : ∀ {h9 : am_h}, ob_row h9 i2 → ob_f h9 i2 k = none := fun {h9} hr => by
          obtain ⟨mo9, z9, a9, xs9, g1, -⟩ := hr
          unfold ob_f
          rw [g1]
          show ([.inl mo9, .inr (.inr (some a9)), .inl z9] : List am_v)[k]? = none
          exact List.getElem?_eq_none (by show 3 ≤ k; omega)
        rw [hz1 hs.2.2.2.1, hz1 (hT.row (Or.inr z))]
    · unfold ob_f
      rw [hcell ho h3 hne]
  · by_cases hne : i2 = i
    · subst hne
      rcases hi with z | ⟨z, hz⟩
      · exact absurd ((ob_lab_eq ho).symm.trans (ob_lab_eq z)) (by decide)
      · exact absurd (hz 1 (by decide)) hW
    · exact (hs.P hT (ob_mem_R (Or.inr ho)) hne hi0).2.2.1
/-- a field of an object that isn't a row is set -/
theorem ob_put0 {fs : List am_v} {v : am_v} (hT : ty_H h) (ho : ob l i) (h3 : (Nat.beq l 3 || Nat.beq l 11) = false) (e : h[i]? = some (.inr (l, fs))) (hk : (ty_F l)[k]? = some τ) (hv : ty_V τ v) : ty_H (h.set i (.inr (l, fs.set k v))) ∧ ob_P (h.set i (.inr (l, fs.set k v))) = ob_P h ∧ (∀ a : Nat, (a = 0 ∨ (81 ≤ a ∧ a ≤ 122)) → (h.set i (.inr (l, fs.set k v)))[a]? = h[a]?) ∧ (∀ (l2 i2 k2 : Nat), ob l2 i2 → l2 ≠ 3 → (l2, k2) ≠ (l, k) → ob_f (h.set i (.inr (l, fs.set k v))) i2 k2 = ob_f h i2 k2) ∧ ∀ j : Nat, ob 11 j → ob_l (h.set i (.inr (l, fs.set k v))) j = ob_l h j := by
  have e9 := Bool.or_eq_false_iff.mp h3
  have n3 : l ≠ 3 := fun z => by subst z; cases e9.1
  have n11 : l ≠ 11 := fun z => by subst z; cases e9.2
  have hil : i < h.length := (List.getElem?_eq_some_iff.mp e).1
  have hne : ∀ {q : Nat}, q ≠ i → (h.set i (.inr (l, fs.set k v)))[q]? = h[q]? := fun {q} hq => List.getElem?_set_ne (fun z => hq z.symm)
  have hrow : ∀ j, ob 3 j ∨ ob 11 j → ob_p (h.set i (.inr (l, fs.set k v))) j = ob_p h j ∧ ob_row (h.set i (.inr (l, fs.set k v))) j ∧ ob_l (h.set i (.inr (l, fs.set k v))) j = ob_l h j ∧ ob_ra (h.set i (.inr (l, fs.set k v))) j = ob_ra h j := fun j hj => by
    obtain ⟨mo, z, a, xs, e1, e2, e3⟩ := hT.row hj
    have hji : j ≠ i := fun q => by
      subst q
      rcases hj with q | q
      · exact n3 ((ob_lab_eq ho).symm.trans (ob_lab_eq q))
      · exact n11 ((ob_lab_eq ho).symm.trans (ob_lab_eq q))
    have hai : a ≠ i := fun q => by
      subst q
      rw [e2] at e
      cases e
    have f1 := (hne hji).trans e1
    have f2 := (hne hai).trans e2
    exact ⟨by rw [ob_p_eq f1 f2, ob_p_eq e1 e2], ⟨mo, z, a, xs, f1, f2, e3⟩, by rw [ob_l_eq f1 f2, ob_l_eq e1 e2], by rw [ob_ra_eq f1, ob_ra_eq e1]⟩
  have hP : ob_P (h.set i (.inr (l, fs.set k v))) = ob_P h := by
    unfold ob_P
    rw [List.map_congr_left (fun j hj => (hrow j (ob_R_mem hj)).1)]
  have hfok : fs.all (am_okV h.length) = true := List.all_eq_true.mp hT.1 _ (List.mem_of_getElem? e)
  refine ⟨⟨?_, by rw [List.length_set]; exact hT.2.1, fun l2 i2 ho2 g3 g11 => ?_, fun j hj => (hrow j hj).2.1, fun j j2 hj hj2 hne2 => by rw [(hrow j (ob_R_mem hj)).2.2.2, (hrow j2 (ob_R_mem hj2)).2.2.2]; exact hT.2.2.2.2 j j2 hj hj2 hne2⟩, hP, fun a ha => ?_, fun l2 i2 k2 ho2 g3 hW2 => ?_, fun j hj => (hrow j (Or.inr hj)).2.2.1⟩
  · rw [List.length_set]
    unfold am_okH
    rw [List.all_eq_true]
    intro x hx
    rcases List.mem_or_eq_of_mem_set hx with hx | rfl
    · exact List.all_eq_true.mp hT.1 x hx
    · show (fs.set k v).all (am_okV h.length) = true
      rw [List.all_eq_true]
      intro w hw
      rcases List.mem_or_eq_of_mem_set hw with hw | rfl
      · exact List.all_eq_true.mp hfok w hw
      · exact ty_okV (Nat.le_trans (by decide) hT.2.1) hv
  · by_cases hi2 : i2 = i
    · subst hi2
      have hl2 : l2 = l := (ob_lab_eq ho2).symm.trans (ob_lab_eq ho)
      subst hl2
      obtain ⟨fs9, g1, g2, g4⟩ := hT.2.2.1 l2 i2 ho2 g3 g11
      rw [e] at g1
      cases g1
      refine ⟨fs.set k v, List.getElem?_set_self hil, by rw [List.length_set]; exact g2, fun k2 τ2 hk2 => ?_⟩
      by_cases hkk : k2 = k
      · subst hkk
        have : τ2 = τ := Option.some.inj (hk2.symm.trans hk)
        subst this
        obtain ⟨w, hw, -⟩ := g4 k2 τ2 hk2
        exact ⟨v, List.getElem?_set_self (List.getElem?_eq_some_iff.mp hw).1, hv⟩
      · obtain ⟨w, hw, hw2⟩ := g4 k2 τ2 hk2
        exact ⟨w, by rw [List.getElem?_set_ne (fun z => hkk z.symm)]; exact hw, hw2⟩
    · obtain ⟨fs9, g1, g2⟩ := hT.2.2.1 l2 i2 ho2 g3 g11
      exact ⟨fs9, (hne hi2).trans g1, g2⟩
  · have h1 := ob_lt ho
    have h2 := ob_ne0 ho
    exact hne (by omega)
  · by_cases hi2 : i2 = i
    · subst hi2
      have hl2 : l2 = l := (ob_lab_eq ho2).symm.trans (ob_lab_eq ho)
      subst hl2
      have hkk : k2 ≠ k := fun z => hW2 (by rw [z])
      unfold ob_f
      rw [List.getElem?_set_self hil, e]
      show (fs.set k v)[k2]? = fs[k2]?
      exact List.getElem?_set_ne (fun z => hkk z.symm)
    · unfold ob_f
      rw [hne hi2]
theorem ob_I.put {fs : List am_v} {v : am_v} (hI : ob_I W B h0 h c s) (ho : ob l i) (h3 : (Nat.beq l 3 || Nat.beq l 11) = false) (e : h[i]? = some (.inr (l, fs))) (hk : (ty_F l)[k]? = some τ) (hv : ty_V τ v) (hW : (l, k) ∈ W) (hq : (Nat.beq l 2 && (Nat.beq k 2 || Nat.beq k 3)) = false) : ∃ h', h.set i (.inr (l, fs.set k v)) = h' ∧ ob_I W B h0 h' c s ∧ h'.length = h.length := by
  obtain ⟨b1, b2, b3, b4, b5⟩ := ob_put0 hI.1 ho h3 e hk hv
  have q2 : (2, 2) ≠ (l, k) := fun z => by
    obtain ⟨rfl, rfl⟩ := Prod.mk.inj z
    exact absurd hq (by decide)
  have q3 : (2, 3) ≠ (l, k) := fun z => by
    obtain ⟨rfl, rfl⟩ := Prod.mk.inj z
    exact absurd hq (by decide)
  exact ⟨_, rfl, ⟨b1, hI.2.1.trans ⟨Nat.le_of_eq List.length_set.symm, b3, fun l2 i2 k2 ho2 g3 hW2 => b4 l2 i2 k2 ho2 g3 (fun z => hW2 (by rw [z]; exact hW)), fun j hj _ => b5 j hj, pq_of (b4 2 32 2 o232 (by decide) q2) (b4 2 32 3 o232 (by decide) q3)⟩, by rw [b2]; exact hI.2.2.1, by rw [b2]; exact hI.2.2.2⟩, List.length_set⟩
theorem pqb_eq {fs : List am_v} {a b : Nat} (e : h[32]? = some (.inr (2, fs))) (k2 : fs[2]? = some (.inr (.inr (some a)))) (k3 : fs[3]? = some (.inr (.inr (some b)))) : pqb h = ((Nat.beq a 37 && Nat.beq b 39) || (Nat.beq a 39 && Nat.beq b 37)) := by
  have e2 : ob_f h 32 2 = some (.inr (.inr (some a))) := by
    unfold ob_f
    rw [e]
    exact k2
  have e3 : ob_f h 32 3 = some (.inr (.inr (some b))) := by
    unfold ob_f
    rw [e]
    exact k3
  unfold pqb
  rw [e2, e3]
theorem ob_2 (ho : ob 2 i) : i = 32 := List.mem_singleton.mp ho
/-- the two rows that plain works in change places -/
theorem ob_I.swap {fs : List am_v} {a b : Nat} (hI : ob_I W B h0 h c s) (ho : ob 2 i) (e : h[i]? = some (.inr (2, fs))) (k2 : fs[2]? = some (.inr (.inr (some a)))) (k3 : fs[3]? = some (.inr (.inr (some b)))) (oa : ob 3 a) (ob9 : ob 3 b) (hW2 : (2, 2) ∈ W) (hW3 : (2, 3) ∈ W) : ∃ h', (h.set i (.inr (2, fs.set 2 (.inr (.inr (some b)))))).set i (.inr (2, (fs.set 2 (.inr (.inr (some b)))).set 3 (.inr (.inr (some a))))) = h' ∧ ob_I W B h0 h' c s ∧ h'.length = h.length := by
  obtain rfl := ob_2 ho
  have hil : 32 < h.length := (List.getElem?_eq_some_iff.mp e).1
  obtain ⟨b1, b2, b3, b4, b5⟩ := ob_put0 (k := 2) (τ := 5) (v := .inr (.inr (some b))) hI.1 ho rfl e rfl ⟨b, rfl, ob9⟩
  have e1 : (h.set 32 (.inr (2, fs.set 2 (.inr (.inr (some b))))))[32]? = some (.inr (2, fs.set 2 (.inr (.inr (some b))))) := List.getElem?_set_self hil
  obtain ⟨d1, d2, d3, d4, d5⟩ := ob_put0 (k := 3) (τ := 5) (v := .inr (.inr (some a))) b1 ho rfl e1 rfl ⟨a, rfl, oa⟩
  have l2 : 2 < fs.length := (List.getElem?_eq_some_iff.mp k2).1
  have l3 : 3 < fs.length := (List.getElem?_eq_some_iff.mp k3).1
  have e2 : ((h.set 32 (.inr (2, fs.set 2 (.inr (.inr (some b)))))).set 32 (.inr (2, (fs.set 2 (.inr (.inr (some b)))).set 3 (.inr (.inr (some a))))))[32]? = some (.inr (2, (fs.set 2 (.inr (.inr (some b)))).set 3 (.inr (.inr (some a))))) := List.getElem?_set_self (by rw [List.length_set]; exact hil)
  have p1 := pqb_eq e k2 k3
  have p2 := pqb_eq (a := b) (b := a) e2 (by rw [List.getElem?_set_ne (by decide)]; exact List.getElem?_set_self l2) (List.getElem?_set_self (by rw [List.length_set]; exact l3))
  refine ⟨_, rfl, ⟨d1, hI.2.1.trans ⟨by rw [List.length_set, List.length_set]; exact Nat.le_refl _, fun a9 ha => (d3 a9 ha).trans (b3 a9 ha), fun l9 i9 k9 ho9 g3 hW9 => (d4 l9 i9 k9 ho9 g3 (fun z => hW9 (by rw [z]; exact hW3))).trans (b4 l9 i9 k9 ho9 g3 (fun z => hW9 (by rw [z]; exact hW2))), fun j hj _ => (d5 j hj).trans (b5 j hj), ?_⟩, by rw [d2, b2]; exact hI.2.2.1, by rw [d2, b2]; exact hI.2.2.2⟩, by rw [List.length_set, List.length_set]⟩
  rw [p1, p2]
  cases Nat.beq a 37 <;> cases Nat.beq a 39 <;> cases Nat.beq b 37 <;> cases Nat.beq b 39 <;> rfl
end TYA
