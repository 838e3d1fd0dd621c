/-! the pure claim, out of what was computed -/
theorem am_h2E : am_rM.2.1 ++ [(.inl (.inr (.inl (1, 0, []))) : am_e)] = am_h2 := rfl
theorem am_mE : am_rX.2.1.length = am_m := rfl
theorem am_oE : am_rM.2.1.length = am_o := rfl
theorem am_eX : am_rn 12 129 [.inr (.inr (some 1))] am_x0 = some (.inl none, am_rX.2.1, am_rX.2.2.1, am_rX.2.2.2) := am_resE am_rX_eq k_rX1
theorem am_eM0 : am_rn 12 158 [am_ref am_m] am_h1 = some (.inl none, am_rM.2.1, am_rM.2.2.1, am_rM.2.2.2) := am_resE am_rM_eq k_rM1
theorem am_eM : am_rn 12 158 [.inr (.inr (some am_m))] (am_rX.2.1 ++ [am_m0]) = some (.inl none, am_rM.2.1, am_rM.2.2.1, am_rM.2.2.2) := am_eM0
theorem k_1a : am_chq am_h2 am_m 132 188 [] = true := (Bool.and_eq_true_iff.mp k_1).1
theorem k_1b : am_chq am_h2 am_m 133 204 [] = true := (Bool.and_eq_true_iff.mp (Bool.and_eq_true_iff.mp k_1).2).1
theorem k_1c : am_chk2 am_h2 am_m am_o 267 187 [.inl 0] = true := (Bool.and_eq_true_iff.mp (Bool.and_eq_true_iff.mp k_1).2).2
theorem k_fx : ∃ fx : List am_v, am_h2[1]? = some (.inr (9, fx)) := by
  obtain ⟨fx, fm, ft, fn, fk, fy, fr, t, ta, net, kr, ka, tl, r, tm, xs, ys, zs, hX, -⟩ := am_faE k_fa
  exact ⟨fx, hX⟩
theorem am_zb2 {m o : Nat} (h : (Nat.ble 2 m && Nat.ble (m + 1) o) = true) : 1 < m ∧ m < o := ⟨Nat.le_of_ble_eq_true (Bool.and_eq_true_iff.mp h).1, Nat.le_of_ble_eq_true (Bool.and_eq_true_iff.mp h).2⟩
theorem am_zb3 {a b : Nat} (h : (Nat.ble a 590000 && Nat.ble b 7290000) = true) : a ≤ 590000 ∧ b ≤ 7290000 := ⟨Nat.le_of_ble_eq_true (Bool.and_eq_true_iff.mp h).1, Nat.le_of_ble_eq_true (Bool.and_eq_true_iff.mp h).2⟩
theorem k_len2 : 1 < am_m ∧ am_m < am_o := am_zb2 (m := am_m) (o := am_o) k_len
theorem k_room2 : am_rX.2.2.1 + am_rM.2.2.1 ≤ 590000 ∧ am_rX.2.2.2 + am_rM.2.2.2 ≤ 7290000 := am_zb3 (a := am_rX.2.2.1 + am_rM.2.2.1) (b := am_rX.2.2.2 + am_rM.2.2.2) k_room
/-- THE PURE CLAIM: the law's run, computed -/
theorem am_law (Y : am_y) (hY : Y.2.length ≤ 6) : ∃ (n c k : Nat) (h' : am_h), am_it am_J am_X (am_GL Y) (am_rn 12) 281 none n (0, [(0, .inr (.inr (some 0)))], [], [.inl (.inl (0, 0, []))], 0, 0) = some (.inl (.inl (some (.inl 1)), h', c, k)) ∧ c ≤ 600002 ∧ k ≤ 7302232 := by
  obtain ⟨fx, hX⟩ := k_fx
  exact am_lawG (hX := am_rX.2.1) (hM := am_rM.2.1) (h := am_h2) (cX := am_rX.2.2.1) (sX := am_rX.2.2.2) (cM := am_rM.2.2.1) (sM := am_rM.2.2.2) (m := am_m) (o := am_o) (fx := fx) am_eX am_mE k_oX k_len2.1 am_eM k_oM am_oE k_len2.2 am_h2E k_room2.1 k_room2.2 hX
    (a_feed k_fa) (a_tell k_fa k_1c) (am_chqE k_1a) (am_chqE k_1b) (a_step k_fa k_step) (a_run k_fa k_run) (a_count k_fa k_count) (a_node k_fa k_node) (a_active k_fa) (a_wanted k_fa k_wanted) (a_part k_fa k_pb k_part) (a_say k_fa k_say) (a_said k_fa) (a_same k_fa k_same) (a_plain k_fa k_plain) (a_redexes k_fa k_redexes) (a_trial k_fa k_trial) (a_sameB k_fa k_sameB) Y hY
