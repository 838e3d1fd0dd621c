theorem so_p {n1 : Int} {F0 : rf_f} {A0 : xl_A} : p_X7_sortOf n1 F0 A0 = (so (A0 2) n1, F0, A0) := by
  unfold p_X7_sortOf so sb
  (repeat' split) <;> first | rfl | (exfalso; omega) | (congr 1; omega)
theorem up1_up1 {F : rf_f} {k : Nat} {a b : Int} : up1 (up1 F k a) k b = up1 F k b := by
  funext j
  unfold up1
  by_cases z : j = k
  · rw [if_pos z, if_pos z]
  · rw [if_neg z, if_neg z, if_neg z]
