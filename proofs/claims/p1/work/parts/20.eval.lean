section AME
def am_or (f g : am_s → Option am_s) : am_s → Option am_s := fun S => match f S with
  | some x => some x
  | none => g S
theorem am_St.or {cl : List vw_C} {Y : am_y} {Z : am_z} {I : am_i} {pc : Nat} {f g : am_s → Option am_s} (hf : am_St cl Y Z I pc f) (hg : am_St cl Y Z I pc g) : am_St cl Y Z I pc (am_or f g) := by
  intro p l e R s m args below meth c Q D cy A C S S' hpc h
  unfold am_or at h
  split at h
  · rename_i x hx
    cases h
    exact hf p l e R s m args below meth c Q D cy A C S S' hpc hx
  · exact hg p l e R s m args below meth c Q D cy A C S S' hpc h
/-- the program, its long loops done at once -/
def am_G2 : Nat → Nat → Option am_n := fun j pc =>
  bif Nat.beq j 57 && Nat.beq pc 7 then some (.inl (am_or ai_fillR (ai_iload 1 3)))
  else bif Nat.beq j 197 && Nat.beq pc 2 then some (.inl (ai_fillM 24 8000 (-1)))
  else bif Nat.beq j 201 && Nat.beq pc 2 then some (.inl (ai_fillM 24 8000 (-1)))
  else bif Nat.beq j 235 && Nat.beq pc 2 then some (.inl (ai_fillM 47 16384 0))
  else am_G j pc
variable {Y : am_y}
theorem am_fill57 : am_St vwCl Y (am_Z Y) iX3_fill 7 (am_or ai_fillR (ai_iload 1 3)) := am_St.or (am_fillR_ok (j := 57) am_GJ0 rfl rfl rfl rfl rfl rfl rfl rfl rfl rfl rfl rfl rfl rfl rfl rfl rfl rfl rfl rfl) oX3_fill_7
theorem am_fill197 : am_St vwCl Y (am_Z Y) iX10_laysNet 2 (ai_fillM 24 8000 (-1)) := am_fillM_ok (j := 197) (NN := 8000) am_GJ0 (by decide) (by decide) rfl rfl rfl rfl rfl rfl rfl rfl rfl rfl
theorem am_fill201 : am_St vwCl Y (am_Z Y) iX10_comesNet 2 (ai_fillM 24 8000 (-1)) := am_fillM_ok (j := 201) (NN := 8000) am_GJ0 (by decide) (by decide) rfl rfl rfl rfl rfl rfl rfl rfl rfl rfl
theorem am_fill235 : am_St vwCl Y (am_Z Y) iX10_walks 2 (ai_fillM 47 16384 0) := am_fillM_ok (j := 235) (NN := 16384) am_GJ0 (by decide) (by decide) rfl rfl rfl rfl rfl rfl rfl rfl rfl rfl
theorem am_bb {a b x y : Nat} (h : (Nat.beq a x && Nat.beq b y) = true) : a = x ∧ b = y := ⟨Nat.eq_of_beq_eq_true (Bool.and_eq_true_iff.mp h).1, Nat.eq_of_beq_eq_true (Bool.and_eq_true_iff.mp h).2⟩
theorem am_GJ3 : ∀ (j pc : Nat) (i : am_n), am_G2 j pc = some i → am_ok vwCl Y (am_Z Y) am_J j pc i ∧ am_Mi (am_J j) := by
  intro j pc i h
  unfold am_G2 at h
  cases h1 : Nat.beq j 57 && Nat.beq pc 7 with
  | true =>
    rw [h1] at h
    obtain ⟨rfl, rfl⟩ := am_bb h1
    cases h
    exact ⟨am_fill57, mX3_fill⟩
  | false =>
  rw [h1] at h
  cases h2 : Nat.beq j 197 && Nat.beq pc 2 with
  | true =>
    rw [h2] at h
    obtain ⟨rfl, rfl⟩ := am_bb h2
    cases h
    exact ⟨am_fill197, mX10_laysNet⟩
  | false =>
  rw [h2] at h
  cases h3 : Nat.beq j 201 && Nat.beq pc 2 with
  | true =>
    rw [h3] at h
    obtain ⟨rfl, rfl⟩ := am_bb h3
    cases h
    exact ⟨am_fill201, mX10_comesNet⟩
  | false =>
  rw [h3] at h
  cases h4 : Nat.beq j 235 && Nat.beq pc 2 with
  | true =>
    rw [h4] at h
    obtain ⟨rfl, rfl⟩ := am_bb h4
    cases h
    exact ⟨am_fill235, mX10_walks⟩
  | false =>
  rw [h4] at h
  exact am_GJ1 j pc i h
theorem am_GJ4 : am_GJ vwCl Y (am_Z Y) am_J am_X am_G2 := ⟨am_GJ3, am_GJ2⟩
end AME
abbrev am_rn (d : Nat) := am_run am_J am_X am_G2 100000 d
def am_ev : am_v → am_v → Bool
  | .inl x, .inl y => decide (x = y)
  | .inr (.inl x), .inr (.inl y) => decide (x = y)
  | .inr (.inr x), .inr (.inr y) => decide (x = y)
  | _, _ => false
theorem am_ev_eq : ∀ {x y : am_v}, am_ev x y = true → x = y
  | .inl x, .inl y, h => by rw [of_decide_eq_true h]
  | .inr (.inl x), .inr (.inl y), h => by rw [of_decide_eq_true h]
  | .inr (.inr x), .inr (.inr y), h => by rw [of_decide_eq_true h]
def am_el {τ : Type} (f : τ → τ → Bool) : List τ → List τ → Bool
  | [], [] => true
  | x :: xs, y :: ys => f x y && am_el f xs ys
  | _, _ => false
theorem am_el_eq {τ : Type} {f : τ → τ → Bool} (hf : ∀ {x y}, f x y = true → x = y) : ∀ {xs ys : List τ}, am_el f xs ys = true → xs = ys
  | [], [], _ => rfl
  | x :: xs, y :: ys, h => by
    have h2 := Bool.and_eq_true_iff.mp h
    rw [hf h2.1, am_el_eq hf h2.2]
def am_ee : am_e → am_e → Bool
  | .inl (.inl x), .inl (.inl y) => decide (x = y)
  | .inl (.inr (.inl x)), .inl (.inr (.inl y)) => decide (x = y)
  | .inl (.inr (.inr x)), .inl (.inr (.inr y)) => decide (x = y)
  | .inr x, .inr y => Nat.beq x.1 y.1 && am_el am_ev x.2 y.2
  | _, _ => false
theorem am_ee_eq : ∀ {x y : am_e}, am_ee x y = true → x = y
  | .inl (.inl x), .inl (.inl y), h => by rw [of_decide_eq_true h]
  | .inl (.inr (.inl x)), .inl (.inr (.inl y)), h => by rw [of_decide_eq_true h]
  | .inl (.inr (.inr x)), .inl (.inr (.inr y)), h => by rw [of_decide_eq_true h]
  | .inr (a, b), .inr (c, d), h => by
    have h2 := Bool.and_eq_true_iff.mp h
    have h3 : a = c := Nat.eq_of_beq_eq_true h2.1
    have h4 : b = d := am_el_eq am_ev_eq h2.2
    rw [h3, h4]
def am_eo : Option am_v ⊕ Nat → Option am_v ⊕ Nat → Bool
  | .inl none, .inl none => true
  | .inl (some x), .inl (some y) => am_ev x y
  | .inr x, .inr y => Nat.beq x y
  | _, _ => false
theorem am_eo_eq : ∀ {x y : Option am_v ⊕ Nat}, am_eo x y = true → x = y
  | .inl none, .inl none, _ => rfl
  | .inl (some x), .inl (some y), h => by rw [am_ev_eq h]
  | .inr x, .inr y, h => by rw [Nat.eq_of_beq_eq_true h]
def am_er : Option am_r → am_r → Bool
  | some x, y => am_eo x.1 y.1 && (am_el am_ee x.2.1 y.2.1 && (Nat.beq x.2.2.1 y.2.2.1 && Nat.beq x.2.2.2 y.2.2.2))
  | none, _ => false
theorem am_er_eq : ∀ {x : Option am_r} {y : am_r}, am_er x y = true → x = some y
  | some (a, b, c, d), (a2, b2, c2, d2), h => by
    have h1 := Bool.and_eq_true_iff.mp h
    have h2 := Bool.and_eq_true_iff.mp h1.2
    have h3 := Bool.and_eq_true_iff.mp h2.2
    have e1 : a = a2 := am_eo_eq h1.1
    have e2 : b = b2 := am_el_eq am_ee_eq h2.1
    have e3 : c = c2 := Nat.eq_of_beq_eq_true h3.1
    have e4 : d = d2 := Nat.eq_of_beq_eq_true h3.2
    rw [e1, e2, e3, e4]
theorem try_size : am_rn 3 49 [.inr (.inr (some 1))] [.inl (.inl (0, 0, [])), .inr (3, [.inl 700, .inr (.inr none), .inl 17])] = some (.inl (some (.inl 17)), [.inl (.inl (0, 0, [])), .inr (3, [.inl 700, .inr (.inr none), .inl 17])], 0, 0) := am_er_eq (by decide +kernel)
theorem try_fill : am_rn 3 57 [.inr (.inr (some 1)), .inl 60, .inl (-1)] [.inl (.inl (0, 0, [])), .inr (3, [.inl 700, .inr (.inr (some 2)), .inl 0]), .inl (.inl (60, 0, []))] = some (.inl none, [.inl (.inl (0, 0, [])), .inr (3, [.inl 700, .inr (.inr (some 2)), .inl 60]), .inl (.inl (60, -1, []))], 0, 0) := am_er_eq (by decide +kernel)
/-- a fresh object of the class, and of the reference -/
def am_x0 : am_h := [.inl (.inl (0, 0, [])), .inr (9, [.inr (.inr none), .inr (.inr none), .inr (.inr none), .inr (.inr none), .inr (.inr none), .inr (.inr none), .inr (.inr none), .inr (.inr none), .inr (.inr none), .inr (.inr none), .inr (.inr none), .inr (.inr none), .inr (.inr none), .inl 0, .inl 0, .inl 0, .inl 0, .inl 0])]
theorem try_new : (am_rn 12 129 [.inr (.inr (some 1))] am_x0).isSome = true := by decide +kernel
