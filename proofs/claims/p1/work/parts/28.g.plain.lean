/-- a range, piece by piece -/
theorem am_pc {p : Nat → Bool} {a N : Nat} (h0 : ∀ i, i < a → p i = true) (h1 : (List.range N).all (fun i => p (a + i)) = true) : ∀ i, i < a + N → p i = true := by
  intro i hi
  by_cases h : i < a
  · exact h0 i h
  · have h2 := List.all_eq_true.mp h1 (i - a) (List.mem_range.mpr (by omega))
    have e : a + (i - a) = i := by omega
    replace h2 : p (a + (i - a)) = true := h2
    rw [e] at h2
    exact h2
theorem am_pcE {p : Nat → Bool} {N M : Nat} (h : ∀ i, i < M → p i = true) (hN : N ≤ M) : (List.range N).all p = true := List.all_eq_true.mpr (fun i hi => h i (Nat.lt_of_lt_of_le (List.mem_range.mp hi) hN))
theorem am_pc0 {p : Nat → Bool} : ∀ i, i < 0 → p i = true := fun i hi => absurd hi (Nat.not_lt_zero i)
theorem k_plain_0 : (List.range 16).all (fun i => am_chk2 am_h2 am_m am_o 277 265 [.inl (nI (0 + i))]) = true := by decide +kernel
theorem k_plain_1 : (List.range 16).all (fun i => am_chk2 am_h2 am_m am_o 277 265 [.inl (nI (16 + i))]) = true := by decide +kernel
theorem k_plain_2 : (List.range 16).all (fun i => am_chk2 am_h2 am_m am_o 277 265 [.inl (nI (32 + i))]) = true := by decide +kernel
theorem k_plain_3 : (List.range 16).all (fun i => am_chk2 am_h2 am_m am_o 277 265 [.inl (nI (48 + i))]) = true := by decide +kernel
theorem k_plain_4 : (List.range 16).all (fun i => am_chk2 am_h2 am_m am_o 277 265 [.inl (nI (64 + i))]) = true := by decide +kernel
theorem k_plain_5 : (List.range 16).all (fun i => am_chk2 am_h2 am_m am_o 277 265 [.inl (nI (80 + i))]) = true := by decide +kernel
theorem k_plain_6 : (List.range 16).all (fun i => am_chk2 am_h2 am_m am_o 277 265 [.inl (nI (96 + i))]) = true := by decide +kernel
theorem k_plain_7 : (List.range 16).all (fun i => am_chk2 am_h2 am_m am_o 277 265 [.inl (nI (112 + i))]) = true := by decide +kernel
theorem k_plain_8 : (List.range 16).all (fun i => am_chk2 am_h2 am_m am_o 277 265 [.inl (nI (128 + i))]) = true := by decide +kernel
theorem k_plain_9 : (List.range 16).all (fun i => am_chk2 am_h2 am_m am_o 277 265 [.inl (nI (144 + i))]) = true := by decide +kernel
theorem k_plain_10 : (List.range 16).all (fun i => am_chk2 am_h2 am_m am_o 277 265 [.inl (nI (160 + i))]) = true := by decide +kernel
theorem k_plain_11 : (List.range 16).all (fun i => am_chk2 am_h2 am_m am_o 277 265 [.inl (nI (176 + i))]) = true := by decide +kernel
theorem k_plain_12 : (List.range 16).all (fun i => am_chk2 am_h2 am_m am_o 277 265 [.inl (nI (192 + i))]) = true := by decide +kernel
theorem k_plain : (List.range 201).all (fun i => am_chk2 am_h2 am_m am_o 277 265 [.inl (nI i)]) = true := am_pcE (p := fun i => am_chk2 am_h2 am_m am_o 277 265 [.inl (nI i)]) (M := 208) (am_pc (a := 192) (N := 16) (am_pc (a := 176) (N := 16) (am_pc (a := 160) (N := 16) (am_pc (a := 144) (N := 16) (am_pc (a := 128) (N := 16) (am_pc (a := 112) (N := 16) (am_pc (a := 96) (N := 16) (am_pc (a := 80) (N := 16) (am_pc (a := 64) (N := 16) (am_pc (a := 48) (N := 16) (am_pc (a := 32) (N := 16) (am_pc (a := 16) (N := 16) (am_pc (a := 0) (N := 16) am_pc0 k_plain_0) k_plain_1) k_plain_2) k_plain_3) k_plain_4) k_plain_5) k_plain_6) k_plain_7) k_plain_8) k_plain_9) k_plain_10) k_plain_11) k_plain_12) (by decide)
