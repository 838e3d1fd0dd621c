/-! numbers -/
section NUM
variable {x y : Int32}
theorem iv_hi (x : Int32) : x.toInt < 2147483648 := x.toInt_lt
theorem iv_lo (x : Int32) : -2147483648 ≤ x.toInt := x.le_toInt
theorem iv_lt : x < y ↔ x.toInt < y.toInt := Int32.lt_iff_toInt_lt
theorem iv_le : x ≤ y ↔ x.toInt ≤ y.toInt := Int32.le_iff_toInt_le
theorem iv_0 : (0 : Int32).toInt = 0 := by decide
theorem iv_1 : (1 : Int32).toInt = 1 := by decide
theorem iv_2 : (2 : Int32).toInt = 2 := by decide
theorem iv_3 : (3 : Int32).toInt = 3 := by decide
theorem iv_4 : (4 : Int32).toInt = 4 := by decide
theorem iv_m1 : (-1 : Int32).toInt = -1 := by decide
theorem iv_n (n : Nat) (h : n < 2147483648) : (Int32.ofNat n).toInt = (n : Int) := Int32.toInt_ofNat_of_lt h
theorem iv_cl (x : Int32) : x.toNatClampNeg = x.toInt.toNat := rfl
theorem iv_nn (h : 0 ≤ x.toInt) : ¬ x < 0 := by
  rw [iv_lt, iv_0]
  omega
theorem iv_nz (h : ¬ x < 0) : 0 ≤ x.toInt := by
  rw [iv_lt, iv_0] at h
  omega
theorem iv_bm {n : Int} (h1 : -2147483648 ≤ n) (h2 : n < 2147483648) : n.bmod (2 ^ 32) = n := Int.bmod_eq_of_le_mul_two (by omega) (by omega)
theorem iv_add (h1 : -2147483648 ≤ x.toInt + y.toInt) (h2 : x.toInt + y.toInt < 2147483648) : (x + y).toInt = x.toInt + y.toInt := by
  rw [Int32.toInt_add]
  exact iv_bm h1 h2
theorem iv_sub (h1 : -2147483648 ≤ x.toInt - y.toInt) (h2 : x.toInt - y.toInt < 2147483648) : (x - y).toInt = x.toInt - y.toInt := by
  rw [Int32.toInt_sub]
  exact iv_bm h1 h2
theorem iv_mul (h1 : -2147483648 ≤ x.toInt * y.toInt) (h2 : x.toInt * y.toInt < 2147483648) : (x * y).toInt = x.toInt * y.toInt := by
  rw [Int32.toInt_mul]
  exact iv_bm h1 h2
theorem iv_eq : x = y ↔ x.toInt = y.toInt := Int32.toInt_inj.symm
/-- counters: how far they may still go -/
def up_m (x : Int32) : Nat := (2147483647 - x.toInt).toNat
def dn_m (x : Int32) : Nat := (x.toInt + 2147483648).toNat
theorem up_lt (h : ¬ y ≤ x) : up_m (x + 1) < up_m x := by
  rw [iv_le] at h
  have h1 := iv_hi y
  have h2 := iv_lo x
  have h3 : (x + 1).toInt = x.toInt + 1 := by rw [iv_add (by rw [iv_1]; omega) (by rw [iv_1]; omega), iv_1]
  unfold up_m
  rw [h3]
  omega
theorem up_lt' (h : ¬ y < x) (hy : y.toInt < 2147483647) : up_m (x + 1) < up_m x := by
  rw [iv_lt] at h
  have h2 := iv_lo x
  have h3 : (x + 1).toInt = x.toInt + 1 := by rw [iv_add (by rw [iv_1]; omega) (by rw [iv_1]; omega), iv_1]
  unfold up_m
  rw [h3]
  omega
theorem dn_lt (h : ¬ x ≤ y) : dn_m (x + -1) < dn_m x := by
  rw [iv_le] at h
  have h1 := iv_hi x
  have h2 := iv_lo y
  have h3 : (x + -1).toInt = x.toInt + -1 := by rw [iv_add (by rw [iv_m1]; omega) (by rw [iv_m1]; omega), iv_m1]
  unfold dn_m
  rw [h3]
  omega
theorem dn_k {k : Int32} (h : ¬ x < 0) (hk : -100 ≤ k.toInt ∧ k.toInt < 0) : dn_m (x + k) < dn_m x := by
  rw [iv_lt, iv_0] at h
  have h1 := iv_hi x
  have h3 : (x + k).toInt = x.toInt + k.toInt := iv_add (by omega) (by omega)
  unfold dn_m
  rw [h3]
  omega
end NUM
