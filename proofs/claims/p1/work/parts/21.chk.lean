theorem am_getD {τ : Type} {o : Option τ} {d : τ} (h : o.isSome = true) : o = some (o.getD d) := by
  cases o with
  | none => cases h
  | some x => rfl
def am_ref (i : Nat) : am_v := .inr (.inr (some i))
/-- the class, made -/
def am_rX : am_r := (am_rn 12 129 [.inr (.inr (some 1))] am_x0).getD (.inl none, [], 0, 0)
theorem am_rX_eq : am_rn 12 129 [.inr (.inr (some 1))] am_x0 = some am_rX := am_getD try_new
/-- a fresh object of the reference -/
def am_m0 : am_e := .inr (10, [.inl 0, .inr (.inr none), .inr (.inr none), .inr (.inr none), .inl 0, .inl 0, .inl 0, .inl 0, .inl 0, .inl 0, .inl 0, .inl 0, .inl 0, .inr (.inl 0), .inl 0, .inr (.inr none), .inr (.inr none), .inr (.inr none), .inl 0, .inr (.inr none), .inl 0, .inl 0, .inr (.inr none), .inl 0, .inr (.inr none), .inr (.inr none), .inr (.inr none), .inl 0, .inl 0, .inr (.inr none), .inl 0, .inr (.inr none), .inl 0, .inr (.inr none), .inr (.inr none), .inr (.inr none), .inl 0, .inl 0, .inl 0, .inr (.inr none), .inr (.inr none), .inr (.inr none), .inr (.inr none), .inr (.inr none), .inr (.inr none), .inr (.inr none), .inr (.inr none), .inr (.inr none), .inl 0, .inr (.inr none), .inl 0, .inr (.inr none), .inr (.inr none), .inr (.inr none), .inr (.inr none), .inl 0, .inr (.inr none), .inr (.inr none), .inr (.inr none), .inl 0, .inr (.inr none), .inr (.inr none), .inl 0, .inl 0, .inl 0, .inl 0, .inr (.inr none), .inl 0, .inr (.inr none), .inr (.inr none), .inl 0, .inl 0, .inr (.inr none), .inl 0, .inr (.inr none), .inl 0])
def am_h1 : am_h := am_rX.2.1 ++ [am_m0]
def am_m : Nat := am_rX.2.1.length
def am_rM : am_r := (am_rn 12 158 [am_ref am_m] am_h1).getD (.inl none, [], 0, 0)
theorem am_rM_is : (am_rn 12 158 [am_ref am_m] am_h1).isSome = true := by decide +kernel
theorem am_rM_eq : am_rn 12 158 [am_ref am_m] am_h1 = some am_rM := am_getD am_rM_is
/-- both made, and the law's row for an answer -/
def am_h2 : am_h := am_rM.2.1 ++ [.inl (.inr (.inl (1, 0, [])))]
def am_o : Nat := am_rM.2.1.length
