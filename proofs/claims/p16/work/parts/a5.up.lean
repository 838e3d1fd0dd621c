/-! more steps change nothing -/
section UPN
variable {G : Nat → Nat → Option am_n} {j : Nat} {o : Option Nat} {J : Nat → am_i} {X : am_t} {run : Nat → List am_v → am_h → Option am_r}
theorem am_it_le : ∀ {n n' : Nat} {S : am_s} {x : am_r ⊕ am_s}, n ≤ n' → am_it J X G run j o n S = some x → am_it J X G run j o n' S = some x
  | 0, _, _, _, _, h => by cases h
  | n + 1, 0, _, _, hn, _ => absurd hn (by omega)
  | n + 1, n' + 1, S, x, hn, h => by
    have hn2 : n ≤ n' := by omega
    cases ha : am_at o S.1 with
    | true =>
      unfold am_it at h ⊢
      rw [ha] at h ⊢
      exact h
    | false =>
      cases hg : G j S.1 with
      | none =>
        exfalso
        unfold am_it at h
        rw [ha, hg] at h
        cases h
      | some i =>
        match i, hg with
        | .inl f, hg =>
          cases hf : f S with
          | none =>
            exfalso
            unfold am_it at h
            rw [ha, hg] at h
            simp only [cond_false, hf] at h
            cases h
          | some S1 =>
            rw [am_step ha hg hf] at h ⊢
            exact am_it_le hn2 h
        | .inr (.inr kd), hg =>
          cases hf : am_fin kd S with
          | none =>
            exfalso
            unfold am_it at h
            rw [ha, hg] at h
            simp only [cond_false, hf] at h
            cases h
          | some r =>
            rw [am_stepF ha hg hf] at h ⊢
            exact h
        | .inr (.inl q), hg =>
          cases hf : am_call J X run j q.1 q.2.1 q.2.2 S with
          | none =>
            exfalso
            unfold am_it at h
            rw [ha, hg] at h
            simp only [cond_false, hf] at h
            cases h
          | some y =>
            match y, hf with
            | .inl S1, hf =>
              rw [am_stepC ha hg hf] at h
              rw [am_stepC ha hg hf]
              exact am_it_le hn2 h
            | .inr r, hf =>
              rw [am_stepX ha hg hf] at h
              rw [am_stepX ha hg hf]
              exact h
theorem am_rr_N {N N' : Nat} (hN : N ≤ N') : ∀ {D k : Nat} {as : List am_v} {h : am_h} {r : am_r}, am_rr N D k as h = some r → am_rr N' D k as h = some r := by
  intro D
  induction D with
  | zero => intro k as h r e; cases e
  | succ D ih =>
    intro k as h r e
    show (match am_it am_J am_X am_G (am_run am_J am_X am_G N' D) k none N' (0, am_args 0 as, [], h, 0, 0) with
      | some (.inl r) => some r
      | _ => none) = some r
    have e1 : (match am_it am_J am_X am_G (am_run am_J am_X am_G N D) k none N (0, am_args 0 as, [], h, 0, 0) with
      | some (.inl r) => some r
      | _ => none) = some r := e
    split at e1 <;> first | (cases e1; done) | skip
    rename_i r1 hit
    rw [am_it_le hN (am_it_mono (fun k as h r => ih) _ _ _ hit)]
    exact e1
/-- what was computed is a method's run -/
theorem am_Mt.calc {N D k : Nat} {as : List am_v} {h : am_h} {r : am_r} {Q : am_r → Prop} (e : am_rr N D k as h = some r) (hQ : Q r) : am_Mt D k as h Q := ⟨r, ⟨N, fun N' hN => am_rr_N hN e⟩, hQ⟩
/-- what was computed of a frame till a place, and on from there -/
theorem am_Ok.calc {N D n p : Nat} {S S' : am_s} {Q : am_r → Prop} (e : am_it am_J am_X G (am_rr N D) j (some p) n S = some (.inr S')) (H : am_Ok G D j S' Q) : am_Ok G D j S Q := by
  obtain ⟨r, ⟨M, hM⟩, hQ⟩ := H
  suffices h : ∀ (n : Nat) (S : am_s), am_it am_J am_X G (am_rr N D) j (some p) n S = some (.inr S') → ∀ m N', M ≤ m → M ≤ N' → N ≤ N' → am_it am_J am_X G (am_rr N' D) j none (n + m) S = some (.inl r) by
    exact ⟨r, ⟨n + M + N, fun m N' h1 h2 => by
      have h3 := h n S e (m - n) N' (by omega) (by omega) (by omega)
      rw [show n + (m - n) = m by omega] at h3
      exact h3⟩, hQ⟩
  intro n
  induction n with
  | zero => intro S e; cases e
  | succ n ih =>
    intro S e m N' h1 h2 h3
    cases ha : am_at (some p) S.1 with
    | true =>
      have e2 : S = S' := by
        unfold am_it at e
        rw [ha] at e
        cases e
        rfl
      rw [e2]
      exact am_it_le (by omega) (hM m N' h1 h2)
    | false =>
      rw [show n + 1 + m = (n + m) + 1 by omega]
      cases hg : G j S.1 with
      | none =>
        exfalso
        unfold am_it at e
        rw [ha, hg] at e
        cases e
      | some i =>
        match i, hg with
        | .inl f, hg =>
          cases hf : f S with
          | none =>
            exfalso
            unfold am_it at e
            rw [ha, hg] at e
            simp only [cond_false, hf] at e
            cases e
          | some S1 =>
            rw [am_step ha hg hf] at e
            rw [am_step rfl hg hf]
            exact ih S1 e m N' h1 h2 h3
        | .inr (.inr kd), hg =>
          exfalso
          cases hf : am_fin kd S with
          | none =>
            unfold am_it at e
            rw [ha, hg] at e
            simp only [cond_false, hf] at e
            cases e
          | some r =>
            rw [am_stepF ha hg hf] at e
            cases e
        | .inr (.inl q), hg =>
          cases hf : am_call am_J am_X (am_rr N D) j q.1 q.2.1 q.2.2 S with
          | none =>
            exfalso
            unfold am_it at e
            rw [ha, hg] at e
            simp only [cond_false, hf] at e
            cases e
          | some y =>
            have hf2 := am_call_mono (J := am_J) (X := am_X) (j := j) (fun k as h r => am_rr_N h3) hf
            match y, hf, hf2 with
            | .inl S1, hf, hf2 =>
              rw [am_stepC ha hg hf] at e
              rw [am_stepC rfl hg hf2]
              exact ih S1 e m N' h1 h2 h3
            | .inr r, hf, hf2 =>
              exfalso
              rw [am_stepX ha hg hf] at e
              cases e
end UPN
