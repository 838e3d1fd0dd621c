/-! the typed heap, looked at by a program -/
def tb_V : Nat → am_v → Bool
  | 0, .inl _ => true
  | 1, .inl x => decide (x = 0 ∨ x = 1)
  | l + 2, .inr (.inr (some i)) => decide (i ∈ ob_L l)
  | _, _ => false
theorem tb_Vs : ∀ {τ : Nat} {v : am_v}, tb_V τ v = true → ty_V τ v
  | 0, .inl x, _ => ⟨x, rfl⟩
  | 1, .inl x, h => ⟨x, rfl, of_decide_eq_true h⟩
  | l + 2, .inr (.inr (some i)), h => ⟨i, rfl, show i ∈ ob_L l from of_decide_eq_true h⟩
def tb_fs : List Nat → List am_v → Bool
  | [], [] => true
  | τ :: ts, v :: vs => tb_V τ v && tb_fs ts vs
  | _, _ => false
theorem tb_fss : ∀ {ts : List Nat} {vs : List am_v}, tb_fs ts vs = true → vs.length = ts.length ∧ ∀ (k τ : Nat), ts[k]? = some τ → ∃ v : am_v, vs[k]? = some v ∧ ty_V τ v
  | [], [], _ => ⟨rfl, fun k τ h => by simp at h⟩
  | τ :: ts, v :: vs, h => by
    have h1 := Bool.and_eq_true_iff.mp h
    obtain ⟨e1, e2⟩ := tb_fss h1.2
    refine ⟨by rw [List.length_cons, List.length_cons, e1], fun k τ' hk => ?_⟩
    match k, hk with
    | 0, hk =>
      cases hk
      exact ⟨v, rfl, tb_Vs h1.1⟩
    | k + 1, hk => exact e2 k τ' hk
def tb_obj (h : am_h) (l i : Nat) : Bool := match h[i]? with
  | some (.inr (l', fs)) => Nat.beq l' l && tb_fs (ty_F l) fs
  | _ => false
theorem tb_objs {h : am_h} {l i : Nat} (H : tb_obj h l i = true) : ob_obj h l i := by
  unfold tb_obj at H
  split at H
  · rename_i l' fs e
    have h1 := Bool.and_eq_true_iff.mp H
    have h2 : l' = l := Nat.eq_of_beq_eq_true h1.1
    subst h2
    obtain ⟨e1, e2⟩ := tb_fss h1.2
    exact ⟨fs, e, e1, e2⟩
  · cases H
def tb_ar (h : am_h) (i : Nat) (mo z : Int32) (a : Nat) : Bool := match h[a]? with
  | some (.inl (.inl xs)) => decide ((a ≠ 0 ∧ (a < 81 ∨ 122 < a)) ∧ (0 ≤ z.toInt ∧ z.toInt ≤ (xs.1 : Int)) ∧ (1 ≤ xs.1 ∧ xs.1 ≤ 100000) ∧ (1 ≤ mo.toInt ∧ mo.toInt ≤ 100000) ∧ (mo = ob_mo i ∧ ob_c0 i ≤ xs.1 ∧ (xs.1 : Int) ≤ mo.toInt))
  | _ => false
def tb_row (h : am_h) (i : Nat) : Bool := match h[i]? with
  | some (.inr (3, [.inl mo, .inr (.inr (some a)), .inl z])) => tb_ar h i mo z a
  | _ => false
theorem tb_rows {h : am_h} {i : Nat} (H : tb_row h i = true) : ob_row h i := by
  unfold tb_row at H
  split at H
  · rename_i mo a z e
    unfold tb_ar at H
    split at H
    · rename_i xs e2
      obtain ⟨d1, d2, d3, d4, d5⟩ := of_decide_eq_true H
      exact ⟨mo, z, a, xs, e, e2, d1, d2, d3, d4, d5⟩
    · cases H
  · cases H
def tb_dj (h : am_h) : Bool := ob_R.all (fun i => ob_R.all (fun j => Nat.beq i j || !(Nat.beq (ob_ra h i) (ob_ra h j))))
theorem tb_djs {h : am_h} (H : tb_dj h = true) : ob_dj h := by
  intro i j hi hj hij e
  have h1 := List.all_eq_true.mp (List.all_eq_true.mp H i hi) j hj
  rcases Bool.or_eq_true_iff.mp h1 with h2 | h2
  · exact hij (Nat.eq_of_beq_eq_true h2)
  · rw [e] at h2
    have h3 : Nat.beq (ob_ra h j) (ob_ra h j) = true := Nat.beq_refl _
    rw [h3] at h2
    cases h2
def tb_H (h : am_h) : Bool := (am_okH h.length h && (Nat.ble 123 h.length && tb_dj h)) && (([0, 1, 2, 4, 5, 6, 7, 8, 9].all (fun l => (ob_L l).all (tb_obj h l))) && ob_R.all (tb_row h))
theorem tb_cls : ∀ l, l < 12 → l ≠ 3 → l ≠ 11 → l ∈ [0, 1, 2, 4, 5, 6, 7, 8, 9] ∨ ob_L l = [] := by decide
theorem tb_Hs {h : am_h} (H : tb_H h = true) : ty_H h := by
  have h1 := Bool.and_eq_true_iff.mp H
  have h2 := Bool.and_eq_true_iff.mp h1.1
  have h3 := Bool.and_eq_true_iff.mp h1.2
  have h2b := Bool.and_eq_true_iff.mp h2.2
  refine ⟨h2.1, Nat.le_of_ble_eq_true h2b.1, fun l i hi h4 h5 => ?_, fun i hi => tb_rows (List.all_eq_true.mp h3.2 i (ob_mem_R hi)), tb_djs h2b.2⟩
  rcases tb_cls l (ob_lt12 hi) h4 h5 with e | e
  · exact tb_objs (List.all_eq_true.mp (List.all_eq_true.mp h3.1 l e) i hi)
  · exfalso
    have h6 : i ∈ ob_L l := hi
    rw [e] at h6
    cases h6
