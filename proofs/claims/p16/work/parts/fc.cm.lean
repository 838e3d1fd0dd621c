/-! FanNetModel(), computed till its text is put down -/
def lm_f : List am_v := [.inl 0, .inr (.inr none), .inr (.inr none), .inr (.inr none), .inl 0, .inl 0, .inl 0, .inl 0, .inl 0, .inl 0, .inl 0, .inl 0, .inl 0, .inr (.inl 0), .inl 0, .inr (.inr none), .inr (.inr none), .inr (.inr none), .inl 0, .inr (.inr none), .inl 0, .inl 0, .inr (.inr none), .inl 0, .inr (.inr none), .inr (.inr none), .inr (.inr none), .inl 0, .inl 0, .inr (.inr none), .inl 0, .inr (.inr none), .inl 0, .inr (.inr none), .inr (.inr none), .inr (.inr none), .inl 0, .inl 0, .inl 0, .inr (.inr none), .inr (.inr none), .inr (.inr none), .inr (.inr none), .inr (.inr none), .inr (.inr none), .inr (.inr none), .inr (.inr none), .inr (.inr none), .inl 0, .inr (.inr none), .inl 0, .inr (.inr none), .inr (.inr none), .inr (.inr none), .inr (.inr none), .inl 0, .inr (.inr none), .inr (.inr none), .inr (.inr none), .inl 0, .inr (.inr none), .inr (.inr none), .inl 0, .inl 0, .inl 0, .inl 0, .inr (.inr none), .inl 0, .inr (.inr none), .inr (.inr none), .inl 0, .inl 0, .inr (.inr none), .inl 0, .inr (.inr none), .inl 0]
def lm_0 : am_h := lc_r.2.1 ++ [.inr (10, lm_f)]
def lm_a : Option (am_r ⊕ am_s) := am_it am_J am_X am_G (am_rl 3000 2) 158 (some 355) 3000 (0, am_args 0 [.inr (.inr (some 81))], [], lm_0, 0, 0)
def lm_s : am_s := match lm_a with
  | some (.inr S) => S
  | _ => (0, [], [], [], 0, 0)
def rzz (h : am_h) : Bool := (List.range 76).all (fun k => match h[rf_ad k]? with
  | some (.inl (.inl xs)) => decide (xs.2.1 = 0) && xs.2.2.isEmpty
  | some (.inl (.inr (.inl xs))) => decide (xs.2.1 = 0) && xs.2.2.isEmpty
  | _ => true)
def lm_e : am_e := .inl (.inr (.inl (1, 0, [])))
def lm_q (S : am_s) : Bool := Nat.beq S.1 355 && (decide (am_get S.2.1 0 = some (.inr (.inr (some 81)))) && (S.2.2.1.isEmpty && (Nat.beq S.2.2.2.1.length 122 && (Nat.ble S.2.2.2.2.1 200 && Nat.ble S.2.2.2.2.2 1000000))))
def lm_p (h : am_h) : Bool := rb h && (rzz h && (decide (rc_F h 4 = 0) && (decide (rc_F h 23 = 0) && decide (rc_F h 73 = 0))))
def lm_n (h : am_h) : Bool := fx_T.all (fun t => decide (ob_f h t.1 t.2.1 = some (.inr (.inr (some t.2.2))))) && ((ob_l h 2).isEmpty && (pqb h && decide (ob_l h 46 = [1, 2])))
def lm_t : Bool := match lm_a with
  | some (.inr S) => lm_q S
  | _ => false
theorem lm_is : lm_t = true := by decide +kernel
theorem lm_pis : lm_p lm_s.2.2.2.1 = true := by decide +kernel
theorem lm_c1 : tb_H (lm_s.2.2.2.1 ++ [lm_e]) = true := by decide +kernel
theorem lm_c2 : Nat.ble (ob_P (lm_s.2.2.2.1 ++ [lm_e])) 500000 = true := by decide +kernel
theorem lm_c3 : lm_n (lm_s.2.2.2.1 ++ [lm_e]) = true := by decide +kernel
