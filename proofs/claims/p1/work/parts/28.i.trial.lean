theorem k_trial_00 : am_chk2 am_h2 am_m am_o 279 223 [.inl (nI 0), .inl (nI 0)] = true := by decide +kernel
theorem k_trial_01 : am_chk2 am_h2 am_m am_o 279 223 [.inl (nI 0), .inl (nI 1)] = true := by decide +kernel
theorem k_trial_02 : am_chk2 am_h2 am_m am_o 279 223 [.inl (nI 0), .inl (nI 2)] = true := by decide +kernel
theorem k_trial_03 : am_chk2 am_h2 am_m am_o 279 223 [.inl (nI 0), .inl (nI 3)] = true := by decide +kernel
theorem k_trial_10 : am_chk2 am_h2 am_m am_o 279 223 [.inl (nI 1), .inl (nI 0)] = true := by decide +kernel
theorem k_trial_11 : am_chk2 am_h2 am_m am_o 279 223 [.inl (nI 1), .inl (nI 1)] = true := by decide +kernel
theorem k_trial_12 : am_chk2 am_h2 am_m am_o 279 223 [.inl (nI 1), .inl (nI 2)] = true := by decide +kernel
theorem k_trial_13 : am_chk2 am_h2 am_m am_o 279 223 [.inl (nI 1), .inl (nI 3)] = true := by decide +kernel
theorem k_trial_20 : am_chk2 am_h2 am_m am_o 279 223 [.inl (nI 2), .inl (nI 0)] = true := by decide +kernel
theorem k_trial_21 : am_chk2 am_h2 am_m am_o 279 223 [.inl (nI 2), .inl (nI 1)] = true := by decide +kernel
theorem k_trial_22 : am_chk2 am_h2 am_m am_o 279 223 [.inl (nI 2), .inl (nI 2)] = true := by decide +kernel
theorem k_trial_23 : am_chk2 am_h2 am_m am_o 279 223 [.inl (nI 2), .inl (nI 3)] = true := by decide +kernel
theorem am_all4 {p : Nat → Bool} (h0 : p 0 = true) (h1 : p 1 = true) (h2 : p 2 = true) (h3 : p 3 = true) : (List.range 4).all p = true := by
  show (p 0 && (p 1 && (p 2 && (p 3 && true)))) = true
  rw [h0, h1, h2, h3]
  all_goals rfl
theorem k_trial_0 : (List.range 4).all (fun j => am_chk2 am_h2 am_m am_o 279 223 [.inl (nI 0), .inl (nI j)]) = true := am_all4 (p := fun j => am_chk2 am_h2 am_m am_o 279 223 [.inl (nI 0), .inl (nI j)]) k_trial_00 k_trial_01 k_trial_02 k_trial_03
theorem k_trial_1 : (List.range 4).all (fun j => am_chk2 am_h2 am_m am_o 279 223 [.inl (nI 1), .inl (nI j)]) = true := am_all4 (p := fun j => am_chk2 am_h2 am_m am_o 279 223 [.inl (nI 1), .inl (nI j)]) k_trial_10 k_trial_11 k_trial_12 k_trial_13
theorem k_trial_2 : (List.range 4).all (fun j => am_chk2 am_h2 am_m am_o 279 223 [.inl (nI 2), .inl (nI j)]) = true := am_all4 (p := fun j => am_chk2 am_h2 am_m am_o 279 223 [.inl (nI 2), .inl (nI j)]) k_trial_20 k_trial_21 k_trial_22 k_trial_23
theorem k_trial : (List.range 3).all (fun i => (List.range 4).all (fun j => am_chk2 am_h2 am_m am_o 279 223 [.inl (nI i), .inl (nI j)])) = true := am_all3 (p := fun i => (List.range 4).all (fun j => am_chk2 am_h2 am_m am_o 279 223 [.inl (nI i), .inl (nI j)])) k_trial_0 k_trial_1 k_trial_2
