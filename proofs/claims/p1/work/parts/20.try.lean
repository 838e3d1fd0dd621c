abbrev am_rn (d : Nat) := am_run am_J am_X am_G 100000 d
theorem try_size : am_rn 3 49 [.inr (.inr (some 1))] [.inl (.inl [5]), .inr (3, [.inl 700, .inr (.inr none), .inl 17])] = some (.inl (some (.inl 17)), [.inl (.inl [5]), .inr (3, [.inl 700, .inr (.inr none), .inl 17])], 0, 0) := by
  decide +kernel
set_option maxRecDepth 100000 in
theorem try_init : am_rn 3 48 [.inr (.inr (some 1)), .inl 80, .inl 700] [.inl (.inl [5]), .inr (3, [.inl 0, .inr (.inr none), .inl 0])] = some (.inl none, [.inl (.inl [5]), .inr (3, [.inl 700, .inr (.inr (some 2)), .inl 0]), .inl (.inl (List.replicate 80 0))], 1, 80) := by
  decide +kernel
