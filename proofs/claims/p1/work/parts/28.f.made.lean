/-! what the law's first instructions need of the two objects -/
theorem k_rX1 : am_eo am_rX.1 (.inl none) = true := by decide +kernel
theorem k_oX : am_okH am_rX.2.1.length am_rX.2.1 = true := by decide +kernel
theorem k_rM1 : am_eo am_rM.1 (.inl none) = true := by decide +kernel
theorem k_oM : am_okH am_rM.2.1.length am_rM.2.1 = true := by decide +kernel
theorem k_len : (Nat.ble 2 am_m && Nat.ble (am_m + 1) am_o) = true := by decide +kernel
theorem k_room : (Nat.ble (am_rX.2.2.1 + am_rM.2.2.1) 590000 && Nat.ble (am_rX.2.2.2 + am_rM.2.2.2) 7290000) = true := by decide +kernel
