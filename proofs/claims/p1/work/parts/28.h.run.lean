theorem k_run : (List.range 3).all (fun i => (List.range 61).all (fun j => am_chk2 am_h2 am_m am_o 269 221 [.inl (nI i), .inl (nI j)])) = true := by decide +kernel
