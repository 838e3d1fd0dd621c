/-! FanNet(), computed -/
def lc_a : Option am_r := am_rl 3000 12 129 [.inr (.inr (some 1))] lx_0
def lc_r : am_r := match lc_a with
  | some r => r
  | none => (.inl none, [], 0, 0)
def lc_q : am_r → Bool := fun r => (match r.1 with
  | .inl none => true
  | _ => false) && (Nat.beq r.2.1.length 81 && (am_okH 81 r.2.1 && (Nat.ble r.2.2.1 1000 && Nat.ble r.2.2.2 100000)))
def lc_t : Bool := match lc_a with
  | some r => lc_q r
  | none => false
theorem lc_is : lc_t = true := by decide +kernel
