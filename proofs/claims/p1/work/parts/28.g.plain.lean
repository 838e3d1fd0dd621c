theorem k_plain : (List.range 201).all (fun i => am_chk2 am_h2 am_m am_o 277 265 [.inl (nI i)]) = true := by decide +kernel
