/-! the reference's cells, looked at by a program; its fields and rows read off them -/
def rc_F (h : am_h) : rf_f := fun k => match h[(81 : Nat)]? with
  | some (.inr (_, fs)) => (match fs[k]? with
    | some (.inl x) => x.toInt
    | some (.inr (.inl y)) => y.toInt
    | _ => 0)
  | _ => 0
def rc_A (h : am_h) : rf_A := fun k q => match h[rf_ad k]? with
  | some (.inl (.inl xs)) => if 0 ≤ q ∧ q < (xs.1 : Int) then (xs.2.2.getD q.toNat xs.2.1).toInt else 0
  | some (.inl (.inr (.inl xs))) => if 0 ≤ q ∧ q < (xs.1 : Int) then (xs.2.2.getD q.toNat xs.2.1).toInt else 0
  | _ => 0
def rb_v (t a : Nat) : am_v → Bool
  | .inl x => Nat.beq t 0 || (Nat.beq t 1 && decide (x = 0 ∨ x = 1))
  | .inr (.inl _) => Nat.beq t 2
  | .inr (.inr (some b)) => Nat.ble 3 t && Nat.beq b a
  | .inr (.inr none) => false
def rb_a (t n : Nat) : Option am_e → Bool
  | some (.inl (.inl xs)) => Nat.beq t 3 && Nat.beq xs.1 n
  | some (.inl (.inr (.inl xs))) => Nat.beq t 4 && Nat.beq xs.1 n
  | some (.inl (.inr (.inr xs))) => Nat.beq t 5 && Nat.beq xs.1 n
  | _ => false
def rb_f (fs : List am_v) (k : Nat) : Bool := match fs[k]? with
  | some v => rb_v (rf_T k) (rf_ad k) v
  | none => false
def rb (h : am_h) : Bool := (match h[(81 : Nat)]? with
  | some (.inr (ci, fs)) => Nat.beq ci 10 && (Nat.beq fs.length 76 && (List.range 76).all (rb_f fs))
  | _ => false) && (List.range 76).all (fun k => Nat.blt (rf_T k) 3 || rb_a (rf_T k) (rf_n k) h[rf_ad k]?)
theorem rb_R {h : am_h} (H : rb h = true) : rf_R h (rc_F h) (rc_A h) := by
  have h1 := Bool.and_eq_true_iff.mp H
  refine ⟨?_, fun k hk => ?_⟩
  · have h2 := h1.1
    split at h2
    · rename_i ci fs e
      have h3 := Bool.and_eq_true_iff.mp h2
      have h4 := Bool.and_eq_true_iff.mp h3.2
      have h5 : ci = 10 := Nat.eq_of_beq_eq_true h3.1
      subst h5
      refine ⟨fs, e, Nat.eq_of_beq_eq_true h4.1, fun k hk => ?_⟩
      have h6 := List.all_eq_true.mp h4.2 k (List.mem_range.mpr hk)
      unfold rb_f at h6
      split at h6
      · rename_i v e2
        refine ⟨v, e2, ?_⟩
        have hF : ∀ x : Int32, v = .inl x → rc_F h k = x.toInt := fun x hx => by
          unfold rc_F
          rw [e]
          simp only [e2, hx]
        have hG : ∀ y : Int64, v = .inr (.inl y) → rc_F h k = y.toInt := fun y hx => by
          unfold rc_F
          rw [e]
          simp only [e2, hx]
        unfold rf_v
        match v, e2, h6, hF, hG with
        | .inl x, e2, h6, hF, hG =>
          have h7 := Bool.or_eq_true_iff.mp h6
          rcases h7 with h7 | h7
          · rw [Nat.eq_of_beq_eq_true h7]
            exact ⟨x, rfl, (hF x rfl).symm⟩
          · have h8 := Bool.and_eq_true_iff.mp h7
            rw [Nat.eq_of_beq_eq_true h8.1]
            exact ⟨x, rfl, (hF x rfl).symm, of_decide_eq_true h8.2⟩
        | .inr (.inl y), e2, h6, hF, hG =>
          rw [Nat.eq_of_beq_eq_true h6]
          exact ⟨y, rfl, (hG y rfl).symm⟩
        | .inr (.inr (some b)), e2, h6, hF, hG =>
          have h8 := Bool.and_eq_true_iff.mp h6
          have h9 := Nat.le_of_ble_eq_true h8.1
          rw [Nat.eq_of_beq_eq_true h8.2]
          split
          · omega
          · omega
          · omega
          · rfl
      · cases h6
    · cases h2
  · have h6 := List.all_eq_true.mp h1.2 k (List.mem_range.mpr hk)
    rcases Bool.or_eq_true_iff.mp h6 with h7 | h7
    · have h8 := am_blt h7
      unfold rf_a
      split
      · omega
      · omega
      · omega
      · trivial
    · unfold rf_a
      cases hc : h[rf_ad k]? with
      | none =>
        rw [hc] at h7
        cases h7
      | some e =>
        rw [hc] at h7
        match e, hc, h7 with
        | .inl (.inl xs), hc, h7 =>
          have h8 := Bool.and_eq_true_iff.mp h7
          rw [Nat.eq_of_beq_eq_true h8.1]
          have h9 := Nat.eq_of_beq_eq_true h8.2
          refine ⟨xs, rfl, h9, fun q hq => ?_⟩
          unfold rc_A
          simp only [hc]
          rw [if_pos ⟨by omega, by omega⟩]
          rfl
        | .inl (.inr (.inl xs)), hc, h7 =>
          have h8 := Bool.and_eq_true_iff.mp h7
          rw [Nat.eq_of_beq_eq_true h8.1]
          have h9 := Nat.eq_of_beq_eq_true h8.2
          refine ⟨xs, rfl, h9, fun q hq => ?_⟩
          unfold rc_A
          simp only [hc]
          rw [if_pos ⟨by omega, by omega⟩]
          rfl
        | .inl (.inr (.inr xs)), hc, h7 =>
          have h8 := Bool.and_eq_true_iff.mp h7
          rw [Nat.eq_of_beq_eq_true h8.1]
          exact ⟨xs, rfl, Nat.eq_of_beq_eq_true h8.2⟩
        | .inr _, hc, h7 => cases h7
