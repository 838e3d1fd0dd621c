theorem am_getD {τ : Type} {o : Option τ} {d : τ} (h : o.isSome = true) : o = some (o.getD d) := by
  cases o with
  | none => cases h
  | some x => rfl
def am_ref (i : Nat) : am_v := .inr (.inr (some i))
/-- the class, made -/
def am_rX : am_r := (am_rn 12 129 [.inr (.inr (some 1))] am_x0).getD (.inl none, [], 0, 0)
theorem am_rX_eq : am_rn 12 129 [.inr (.inr (some 1))] am_x0 = some am_rX := am_getD try_new
/-- a fresh object of the reference -/
def am_m0 : am_e := .inr (10, [.inl 0, .inr (.inr none), .inr (.inr none), .inr (.inr none), .inl 0, .inl 0, .inl 0, .inl 0, .inl 0, .inl 0, .inl 0, .inl 0, .inl 0, .inr (.inl 0), .inl 0, .inr (.inr none), .inr (.inr none), .inr (.inr none), .inl 0, .inr (.inr none), .inl 0, .inl 0, .inr (.inr none), .inl 0, .inr (.inr none), .inr (.inr none), .inr (.inr none), .inl 0, .inl 0, .inr (.inr none), .inl 0, .inr (.inr none), .inl 0, .inr (.inr none), .inr (.inr none), .inr (.inr none), .inl 0, .inl 0, .inl 0, .inr (.inr none), .inr (.inr none), .inr (.inr none), .inr (.inr none), .inr (.inr none), .inr (.inr none), .inr (.inr none), .inr (.inr none), .inr (.inr none), .inl 0, .inr (.inr none), .inl 0, .inr (.inr none), .inr (.inr none), .inr (.inr none), .inr (.inr none), .inl 0, .inr (.inr none), .inr (.inr none), .inr (.inr none), .inl 0, .inr (.inr none), .inr (.inr none), .inl 0, .inl 0, .inl 0, .inl 0, .inr (.inr none), .inl 0, .inr (.inr none), .inr (.inr none), .inl 0, .inl 0, .inr (.inr none), .inl 0, .inr (.inr none), .inl 0])
def am_h1 : am_h := am_rX.2.1 ++ [am_m0]
def am_m : Nat := am_rX.2.1.length
def am_rM : am_r := (am_rn 12 158 [am_ref am_m] am_h1).getD (.inl none, [], 0, 0)
theorem am_rM_is : (am_rn 12 158 [am_ref am_m] am_h1).isSome = true := by decide +kernel
theorem am_rM_eq : am_rn 12 158 [am_ref am_m] am_h1 = some am_rM := am_getD am_rM_is
/-- both made, and the law's row for an answer -/
def am_h2 : am_h := am_rM.2.1 ++ [.inl (.inr (.inl (1, 0, [])))]
def am_o : Nat := am_rM.2.1.length
/-- a call through the law's helper k, the reference's method k2, at these values: all agrees -/
def am_chk (k k2 : Nat) (as : List am_v) : Bool := match am_rn 12 k (am_ref 1 :: (as ++ [am_ref am_o])) am_h2 with
  | some (.inl (some (.inl kx)), hx, cx, sx) => (match am_rn 12 k2 (am_ref am_m :: as) hx with
    | some (.inl (some (.inl b)), hm, cm, sm) => (match am_rn 12 159 [am_ref am_m] hm with
      | some (.inl (some (.inl t)), ht, 0, 0) => decide (t = kx) && (Nat.beq hx.length am_h2.length && (Nat.beq hm.length am_h2.length && (Nat.beq ht.length am_h2.length && (Nat.ble (cx + cm) 1000 && (Nat.ble (sx + sm) 10000 && (if kx = 0 then (match ht[am_o]? with
        | some (.inl (.inr (.inl xs))) => decide (xs.2.2.getD 0 xs.2.1 = b.toInt64) && Nat.beq xs.1 1
        | _ => false) else true))))))
      | _ => false)
    | _ => false)
  | _ => false
theorem chk_tell : am_chk 267 187 [.inl 0] = true := by decide +kernel
theorem chk_step : am_chk 268 220 [.inl 0] = true := by decide +kernel
theorem chk_count : (List.range 24).all (fun i => am_chk 270 250 [.inl (Int32.ofNat i)]) = true := by decide +kernel
