/-! more of numbers: facts of the values in Int -/
section NUM2
variable {x y : Int32}
theorem iv_mulc (c : Int) (hc : x.toInt = c) (h1 : -2147483648 ≤ c * y.toInt) (h2 : c * y.toInt < 2147483648) : (x * y).toInt = c * y.toInt := by
  rw [← hc] at h1 h2 ⊢
  exact iv_mul h1 h2
theorem iv_mulr (c : Int) (hc : y.toInt = c) (h1 : -2147483648 ≤ x.toInt * c) (h2 : x.toInt * c < 2147483648) : (x * y).toInt = x.toInt * c := by
  rw [← hc] at h1 h2 ⊢
  exact iv_mul h1 h2
theorem iv_div (c : Int) (hc : y.toInt = c) (h0 : 0 < c) (hx : 0 ≤ x.toInt) : (x / y).toInt = x.toInt / c := by
  have h1 := iv_hi x
  rw [Int32.toInt_div, hc, Int.tdiv_eq_ediv_of_nonneg hx]
  have h2 : 0 ≤ x.toInt / c := Int.ediv_nonneg hx (Int.le_of_lt h0)
  have h3 : x.toInt / c ≤ x.toInt := Int.ediv_le_self c hx
  exact iv_bm (by omega) (by omega)
theorem iv_rem (c : Int) (hc : y.toInt = c) (h0 : 0 < c) (hx : 0 ≤ x.toInt) : (x - x / y * y).toInt = x.toInt % c := by
  have h1 := iv_hi x
  have hd := iv_div c hc h0 hx
  have h2 : 0 ≤ x.toInt / c := Int.ediv_nonneg hx (Int.le_of_lt h0)
  have h4 := Int.mul_ediv_add_emod x.toInt c
  have h5 := Int.emod_nonneg x.toInt (Int.ne_of_gt h0)
  have h8 : 0 ≤ c * (x.toInt / c) := Int.mul_nonneg (Int.le_of_lt h0) h2
  have h7 : x.toInt / c * c = c * (x.toInt / c) := Int.mul_comm _ _
  have h6 : (x / y * y).toInt = x.toInt / c * c := by
    rw [iv_mulr c hc, hd]
    · rw [hd, Int.mul_comm]; omega
    · rw [hd, Int.mul_comm]; omega
  rw [iv_sub (by rw [h6]; omega) (by rw [h6]; omega), h6]
  omega
theorem iv_and (hy : 0 ≤ y.toInt) : 0 ≤ (x &&& y).toInt ∧ (x &&& y).toInt ≤ y.toInt := by
  have e1 : ∀ z : Int32, z.toInt = z.toBitVec.toInt := fun _ => rfl
  have e2 : (x &&& y).toBitVec = x.toBitVec &&& y.toBitVec := rfl
  have e3 := BitVec.toInt_eq_toNat_cond y.toBitVec
  have e4 := BitVec.toInt_eq_toNat_cond (x.toBitVec &&& y.toBitVec)
  have e5 : (x.toBitVec &&& y.toBitVec).toNat ≤ y.toBitVec.toNat := by
    rw [BitVec.toNat_and]
    exact Nat.and_le_right
  have e6 := y.toBitVec.isLt
  rw [e1 y] at hy ⊢
  rw [e1, e2]
  by_cases h9 : 2 * y.toBitVec.toNat < 2 ^ 32
  · rw [if_pos h9] at e3
    rw [if_pos (by omega)] at e4
    omega
  · rw [if_neg h9] at e3
    omega
theorem iv_lt0 : x < 0 ↔ x.toInt < 0 := by rw [iv_lt, iv_0]
theorem iv_le0 : x ≤ 0 ↔ x.toInt ≤ 0 := by rw [iv_le, iv_0]
theorem iv_gt0 : 0 < x ↔ 0 < x.toInt := by rw [iv_lt, iv_0]
theorem iv_ge0 : 0 ≤ x ↔ 0 ≤ x.toInt := by rw [iv_le, iv_0]
theorem iv_eq0 : x = 0 ↔ x.toInt = 0 := by rw [iv_eq, iv_0]
theorem iv_01 (h : x.toInt = 0 ∨ x.toInt = 1) : x = 0 ∨ x = 1 := by
  rcases h with h | h
  · exact Or.inl (iv_eq.mpr (h.trans iv_0.symm))
  · exact Or.inr (iv_eq.mpr (h.trans iv_1.symm))
theorem up1_eq {F : rf_f} {k : Nat} {v : Int} : up1 F k v k = v := if_pos rfl
theorem up1_ne {F : rf_f} {k j : Nat} {v : Int} (h : j ≠ k) : up1 F k v j = F j := if_neg h
theorem up2_k {A : rf_A} {k j : Nat} {q v : Int} (h : j ≠ k) : up2 A k q v j = A j := funext (fun p => if_neg h)
theorem up2_eq {A : rf_A} {k : Nat} {q v : Int} : up2 A k q v k q = v := by
  show (if k = k then (if q = q then v else A k q) else A k q) = v
  rw [if_pos rfl, if_pos rfl]
theorem up2_ne {A : rf_A} {k : Nat} {q v p : Int} (h : p ≠ q) : up2 A k q v k p = A k p := by
  show (if k = k then (if p = q then v else A k p) else A k p) = A k p
  rw [if_pos rfl, if_neg h]
theorem up2_if {A : rf_A} {k : Nat} {q v p : Int} : up2 A k q v k p = if p = q then v else A k p := by
  show (if k = k then (if p = q then v else A k p) else A k p) = _
  rw [if_pos rfl]
end NUM2
