theorem k_run_0_0 : (List.range 8).all (fun j => am_chk2 am_h2 am_m am_o 269 221 [.inl (nI 0), .inl (nI (0 + j))]) = true := by decide +kernel
theorem k_run_0_1 : (List.range 8).all (fun j => am_chk2 am_h2 am_m am_o 269 221 [.inl (nI 0), .inl (nI (8 + j))]) = true := by decide +kernel
theorem k_run_0_2 : (List.range 8).all (fun j => am_chk2 am_h2 am_m am_o 269 221 [.inl (nI 0), .inl (nI (16 + j))]) = true := by decide +kernel
theorem k_run_0_3 : (List.range 8).all (fun j => am_chk2 am_h2 am_m am_o 269 221 [.inl (nI 0), .inl (nI (24 + j))]) = true := by decide +kernel
theorem k_run_0_4 : (List.range 8).all (fun j => am_chk2 am_h2 am_m am_o 269 221 [.inl (nI 0), .inl (nI (32 + j))]) = true := by decide +kernel
theorem k_run_0_5 : (List.range 8).all (fun j => am_chk2 am_h2 am_m am_o 269 221 [.inl (nI 0), .inl (nI (40 + j))]) = true := by decide +kernel
theorem k_run_0_6 : (List.range 8).all (fun j => am_chk2 am_h2 am_m am_o 269 221 [.inl (nI 0), .inl (nI (48 + j))]) = true := by decide +kernel
theorem k_run_0_7 : (List.range 8).all (fun j => am_chk2 am_h2 am_m am_o 269 221 [.inl (nI 0), .inl (nI (56 + j))]) = true := by decide +kernel
theorem k_run_0 : (List.range 61).all (fun j => am_chk2 am_h2 am_m am_o 269 221 [.inl (nI 0), .inl (nI j)]) = true := am_pcE (p := fun j => am_chk2 am_h2 am_m am_o 269 221 [.inl (nI 0), .inl (nI j)]) (M := 64) (am_pc (a := 56) (N := 8) (am_pc (a := 48) (N := 8) (am_pc (a := 40) (N := 8) (am_pc (a := 32) (N := 8) (am_pc (a := 24) (N := 8) (am_pc (a := 16) (N := 8) (am_pc (a := 8) (N := 8) (am_pc (a := 0) (N := 8) am_pc0 k_run_0_0) k_run_0_1) k_run_0_2) k_run_0_3) k_run_0_4) k_run_0_5) k_run_0_6) k_run_0_7) (by decide)
theorem k_run_1_0 : (List.range 16).all (fun j => am_chk2 am_h2 am_m am_o 269 221 [.inl (nI 1), .inl (nI (0 + j))]) = true := by decide +kernel
theorem k_run_1_1 : (List.range 16).all (fun j => am_chk2 am_h2 am_m am_o 269 221 [.inl (nI 1), .inl (nI (16 + j))]) = true := by decide +kernel
theorem k_run_1_2 : (List.range 16).all (fun j => am_chk2 am_h2 am_m am_o 269 221 [.inl (nI 1), .inl (nI (32 + j))]) = true := by decide +kernel
theorem k_run_1_3 : (List.range 16).all (fun j => am_chk2 am_h2 am_m am_o 269 221 [.inl (nI 1), .inl (nI (48 + j))]) = true := by decide +kernel
theorem k_run_1 : (List.range 61).all (fun j => am_chk2 am_h2 am_m am_o 269 221 [.inl (nI 1), .inl (nI j)]) = true := am_pcE (p := fun j => am_chk2 am_h2 am_m am_o 269 221 [.inl (nI 1), .inl (nI j)]) (M := 64) (am_pc (a := 48) (N := 16) (am_pc (a := 32) (N := 16) (am_pc (a := 16) (N := 16) (am_pc (a := 0) (N := 16) am_pc0 k_run_1_0) k_run_1_1) k_run_1_2) k_run_1_3) (by decide)
theorem k_run_2_0 : (List.range 16).all (fun j => am_chk2 am_h2 am_m am_o 269 221 [.inl (nI 2), .inl (nI (0 + j))]) = true := by decide +kernel
theorem k_run_2_1 : (List.range 16).all (fun j => am_chk2 am_h2 am_m am_o 269 221 [.inl (nI 2), .inl (nI (16 + j))]) = true := by decide +kernel
theorem k_run_2_2 : (List.range 16).all (fun j => am_chk2 am_h2 am_m am_o 269 221 [.inl (nI 2), .inl (nI (32 + j))]) = true := by decide +kernel
theorem k_run_2_3 : (List.range 16).all (fun j => am_chk2 am_h2 am_m am_o 269 221 [.inl (nI 2), .inl (nI (48 + j))]) = true := by decide +kernel
theorem k_run_2 : (List.range 61).all (fun j => am_chk2 am_h2 am_m am_o 269 221 [.inl (nI 2), .inl (nI j)]) = true := am_pcE (p := fun j => am_chk2 am_h2 am_m am_o 269 221 [.inl (nI 2), .inl (nI j)]) (M := 64) (am_pc (a := 48) (N := 16) (am_pc (a := 32) (N := 16) (am_pc (a := 16) (N := 16) (am_pc (a := 0) (N := 16) am_pc0 k_run_2_0) k_run_2_1) k_run_2_2) k_run_2_3) (by decide)
theorem am_all3 {p : Nat → Bool} (h0 : p 0 = true) (h1 : p 1 = true) (h2 : p 2 = true) : (List.range 3).all p = true := by
  show (p 0 && (p 1 && (p 2 && true))) = true
  rw [h0, h1, h2]
  all_goals rfl
theorem k_run : (List.range 3).all (fun i => (List.range 61).all (fun j => am_chk2 am_h2 am_m am_o 269 221 [.inl (nI i), .inl (nI j)])) = true := am_all3 (p := fun i => (List.range 61).all (fun j => am_chk2 am_h2 am_m am_o 269 221 [.inl (nI i), .inl (nI j)])) k_run_0 k_run_1 k_run_2
