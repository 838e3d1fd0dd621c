/-! told anew -/
theorem rd_cg {u t : Int → Int} {a b d a' b' d' : Int} (h : rd1 u t a b d) (e1 : a' = a) (e2 : b' = b) (e3 : d' = d) : rd1 u t a' b' d' := by
  rw [e1, e2, e3]
  exact h
theorem fu_cg {u t : Int → Int} {a b k b' k' : Int} (h : fu u t a b k) (e1 : b' = b) (e2 : k' = k) : fu u t a b' k' := by
  rw [e1, e2]
  exact h
