/-! the values within their ranges, computed -/
theorem k_pb : (am_pb am_h2 am_m 0 && (am_pb am_h2 am_m 1 && am_pb am_h2 am_m 2)) = true := by decide +kernel
theorem k_1 : (am_chq am_h2 am_m 132 188 [] && (am_chq am_h2 am_m 133 204 [] && am_chk2 am_h2 am_m am_o 267 187 [.inl 0])) = true := by decide +kernel
theorem k_step : (List.range 3).all (fun i => am_chk2 am_h2 am_m am_o 268 220 [.inl (nI i)]) = true := by decide +kernel
theorem k_count : (List.range 24).all (fun i => am_chk2 am_h2 am_m am_o 270 250 [.inl (nI i)]) = true := by decide +kernel
theorem k_wanted : (List.range 3).all (fun i => am_chk2 am_h2 am_m am_o 273 253 [.inl (nI i)]) = true := by decide +kernel
theorem k_say : (List.range 3).all (fun i => am_chk2 am_h2 am_m am_o 275 262 [.inl (nI i)]) = true := by decide +kernel
theorem k_redexes : (List.range 3).all (fun i => am_chk2 am_h2 am_m am_o 278 266 [.inl (nI i)]) = true := by decide +kernel
theorem k_node : (List.range 3).all (fun i => (List.range 5).all (fun j => am_chk2 am_h2 am_m am_o 271 251 [.inl (nI i), .inl (nI j)])) = true := by decide +kernel
theorem k_part : (List.range 3).all (fun i => (List.range 2).all (fun j => am_chk2 am_h2 am_m am_o 274 256 [.inl (nI i), .inl (nI j)])) = true := by decide +kernel
theorem k_same : (List.range 3).all (fun i => (List.range 3).all (fun j => am_chk2 am_h2 am_m am_o 276 264 [.inl (nI i), .inl (nI j)])) = true := by decide +kernel
