/-! the class's object, made: the first part, computed -/
def lx_0 : am_h := [.inl (.inl (0, 0, [])), .inr (9, [.inr (.inr none), .inr (.inr none), .inr (.inr none), .inr (.inr none), .inr (.inr none), .inr (.inr none), .inr (.inr none), .inr (.inr none), .inr (.inr none), .inr (.inr none), .inr (.inr none), .inr (.inr none), .inr (.inr none), .inl 0, .inl 0, .inl 0, .inl 0, .inl 0])]
def lx_a : Option (am_r ⊕ am_s) := am_it am_J am_X am_G (am_rr 2000 6) 129 (some 149) 2000 (0, am_args 0 [.inr (.inr (some 1))], [], lx_0, 0, 0)
def lx_s : am_s := match lx_a with
  | some (.inr S) => S
  | _ => (0, [], [], [], 0, 0)
def lx_t : Bool := match lx_a with
  | some (.inr S) => Nat.beq S.1 149 && Nat.beq S.2.2.2.1.length 57
  | _ => false
theorem lx_is : lx_t = true := by decide +kernel
theorem lx_e : lx_a = some (.inr lx_s) := by
  have h := lx_is
  unfold lx_t at h
  unfold lx_s
  split at h
  · rename_i S e
    rw [e]
  · cases h
