theorem k_trial_0 : (List.range 4).all (fun j => am_chk2 am_h2 am_m am_o 279 223 [.inl (nI 0), .inl (nI j)]) = true := by decide +kernel
theorem k_trial_1 : (List.range 4).all (fun j => am_chk2 am_h2 am_m am_o 279 223 [.inl (nI 1), .inl (nI j)]) = true := by decide +kernel
theorem k_trial_2 : (List.range 4).all (fun j => am_chk2 am_h2 am_m am_o 279 223 [.inl (nI 2), .inl (nI j)]) = true := by decide +kernel
theorem am_all3 {p : Nat → Bool} (h0 : p 0 = true) (h1 : p 1 = true) (h2 : p 2 = true) : (List.range 3).all p = true := by
  show (p 0 && (p 1 && (p 2 && true))) = true
  rw [h0, h1, h2]
  all_goals rfl
theorem k_trial : (List.range 3).all (fun i => (List.range 4).all (fun j => am_chk2 am_h2 am_m am_o 279 223 [.inl (nI i), .inl (nI j)])) = true := am_all3 k_trial_0 k_trial_1 k_trial_2
