/-! runs in which Row.fill is told at once -/
def am_Px (G : Nat → Nat → Option am_n) (D j : Nat) (Q : am_r → Prop) : am_r ⊕ am_s → Prop
  | .inl r => Q r
  | .inr S => am_Ok G D j S Q
section RN
variable {G : Nat → Nat → Option am_n} {D j : Nat} {o : Option Nat} {run : Nat → List am_v → am_h → Option am_r} {Q : am_r → Prop}
theorem am_itG (hrun : ∀ (k : Nat) (as : List am_v) (h : am_h) (r : am_r), run k as h = some r → am_Mt D k as h (fun q => q = r)) : ∀ (n : Nat) (S : am_s) (x : am_r ⊕ am_s), am_it am_J am_X G run j o n S = some x → am_Px G D j Q x → am_Ok G D j S Q := by
  intro n
  induction n with
  | zero => intro S x e; cases e
  | succ n ih =>
    intro S x e H
    cases ha : am_at o S.1 with
    | true =>
      unfold am_it at e
      rw [ha] at e
      cases e
      exact H
    | false =>
      cases hg : G j S.1 with
      | none =>
        exfalso
        unfold am_it at e
        rw [ha, hg] at e
        cases e
      | some i =>
        match i, hg with
        | .inl f, hg =>
          cases hf : f S with
          | none =>
            exfalso
            unfold am_it at e
            rw [ha, hg] at e
            simp only [cond_false, hf] at e
            cases e
          | some S1 =>
            rw [am_step ha hg hf] at e
            obtain ⟨p1, S2⟩ := S1
            exact k_any p1 hg hf rfl (ih _ x e H)
        | .inr (.inr kd), hg =>
          cases hf : am_fin kd S with
          | none =>
            exfalso
            unfold am_it at e
            rw [ha, hg] at e
            simp only [cond_false, hf] at e
            cases e
          | some r =>
            rw [am_stepF ha hg hf] at e
            cases e
            exact k_fin hg hf H
        | .inr (.inl (k, na, kd)), hg =>
          cases hf : am_call am_J am_X run j k na kd S with
          | none =>
            exfalso
            unfold am_it at e
            rw [ha, hg] at e
            simp only [cond_false, hf] at e
            cases e
          | some y =>
            have hf0 := hf
            obtain ⟨pc, lv, st, h, c, s⟩ := S
            unfold am_call at hf
            split at hf
            · rename_i hcond
              obtain ⟨q1, q2, q3, q4⟩ := hcond
              cases hc : run k (st.take na).reverse h with
              | none =>
                exfalso
                simp only [hc] at hf
                cases hf
              | some r =>
                simp only [hc] at hf
                split at hf
                · rename_i hok
                  obtain ⟨r1, h', c', s'⟩ := r
                  refine k_call0 (k := k) (na := na) (kd := kd) (d := D) hg (hrun _ _ _ _ hc) (Nat.ble_eq_true_of_le (Nat.le_refl D)) rfl (Bool.and_eq_true_iff.mpr ⟨Nat.ble_eq_true_of_le q1, Bool.and_eq_true_iff.mpr ⟨Nat.ble_eq_true_of_le q2, Nat.ble_eq_true_of_le q3⟩⟩) q4 ?_
                  rintro _ rfl
                  refine ⟨hok, ?_⟩
                  match r1, hf with
                  | .inl v, hf =>
                    cases hf
                    rw [am_stepC ha hg hf0] at e
                    exact Or.inl ⟨v, rfl, ih _ x e H⟩
                  | .inr ex, hf =>
                    refine Or.inr ⟨ex, rfl, ?_⟩
                    simp only at hf
                    split at hf
                    · cases hf
                    · rename_i hkd
                      refine ⟨hkd, ?_⟩
                      split at hf
                      · rename_i w hw
                        cases hf
                        rw [am_stepC ha hg hf0] at e
                        exact Or.inl ⟨w, hw, ih _ x e H⟩
                      · rename_i hw
                        split at hf
                        · rename_i hj
                          cases hf
                          rw [am_stepX ha hg hf0] at e
                          cases e
                          exact Or.inr ⟨hw, hj, H⟩
                        · cases hf
                · cases hf
            · cases hf
end RN
/-- Row.fill at once -/
def am_fl (as : List am_v) (h : am_h) : Option am_r := match as with
  | [.inr (.inr (some r)), .inl nn, .inl v] => (match h[r]? with
    | some (.inr (ci, [.inl mo, .inr (.inr (some a)), .inl z])) => (match h[a]? with
      | some (.inl (.inl xs)) => if ci = 3 ∧ a ≠ 0 ∧ r ≠ a ∧ ¬ nn < 0 ∧ nn.toNatClampNeg ≤ xs.1 ∧ xs.1 < 2147483648 then some (.inl none, fh h r a mo xs.1 xs.2.1 v xs.2.2 nn.toNatClampNeg, 0, 0) else none
      | _ => none)
    | _ => none)
  | _ => none
theorem am_fls {as : List am_v} {h : am_h} {r : am_r} (e : am_fl as h = some r) : am_Mt 1 57 as h (fun q => q = r) := by
  unfold am_fl at e
  split at e
  · rename_i r0 nn v
    split at e
    · rename_i ci mo a z e1
      split at e
      · rename_i xs e2
        split at e
        · rename_i hc
          obtain ⟨c1, c2, c3, c4, c5, c6⟩ := hc
          subst c1
          cases e
          have h1 := iv_nz c4
          exact fl_fill (n := nn.toNatClampNeg) e1 e2 c2 c3 (by rw [iv_cl]; omega) ⟨Nat.le_refl _, c5, Or.inl rfl⟩ c6
        · cases e
      · cases e
    · cases e
  · cases e
def am_rl (N : Nat) : Nat → Nat → List am_v → am_h → Option am_r
  | 0, _, _, _ => none
  | d + 1, k, as, h => bif Nat.beq k 57 then am_fl as h else (match am_it am_J am_X am_G (am_rl N d) k none N (0, am_args 0 as, [], h, 0, 0) with
    | some (.inl r) => some r
    | _ => none)
theorem am_rls {N : Nat} : ∀ (D k : Nat) (as : List am_v) (h : am_h) (r : am_r), am_rl N D k as h = some r → am_Mt D k as h (fun q => q = r) := by
  intro D
  induction D with
  | zero => intro k as h r e; cases e
  | succ D ih =>
    intro k as h r e
    unfold am_rl at e
    cases hk : Nat.beq k 57 with
    | true =>
      rw [hk] at e
      rw [Nat.eq_of_beq_eq_true hk]
      exact am_Mt.up (Nat.ble_eq_true_of_le (by omega)) (am_fls e)
    | false =>
      rw [hk] at e
      simp only [cond_false] at e
      split at e
      · rename_i r1 hit
        cases e
        exact am_Mt.of (am_itG ih N _ _ hit rfl)
      · cases e
