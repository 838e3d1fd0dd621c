/-! runs of frames and methods that end in a wanted way -/
section OKA
variable {G : Nat → Nat → Option am_n} {j : Nat} {o : Option Nat}
theorem am_step {J : Nat → am_i} {X : am_t} {run : Nat → List am_v → am_h → Option am_r} {n : Nat} {f : am_s → Option am_s} {S S' : am_s} (ho : am_at o S.1 = false) (hg : G j S.1 = some (.inl f)) (hf : f S = some S') : am_it J X G run j o (n + 1) S = am_it J X G run j o n S' := by
  show (bif am_at o S.1 then some (.inr S) else match G j S.1 with
    | none => none
    | some (.inl f) => (match f S with
      | none => none
      | some S' => am_it J X G run j o n S')
    | some (.inr (.inr kd)) => (match am_fin kd S with
      | none => none
      | some r => some (.inl r))
    | some (.inr (.inl q)) => (match am_call J X run j q.1 q.2.1 q.2.2 S with
      | none => none
      | some (.inl S') => am_it J X G run j o n S'
      | some (.inr r) => some (.inl r))) = _
  rw [ho, hg]
  simp only [cond_false, hf]
theorem am_stepC {J : Nat → am_i} {X : am_t} {run : Nat → List am_v → am_h → Option am_r} {n : Nat} {q : Nat × Nat × Nat} {S S' : am_s} (ho : am_at o S.1 = false) (hg : G j S.1 = some (.inr (.inl q))) (hf : am_call J X run j q.1 q.2.1 q.2.2 S = some (.inl S')) : am_it J X G run j o (n + 1) S = am_it J X G run j o n S' := by
  show (bif am_at o S.1 then some (.inr S) else match G j S.1 with
    | none => none
    | some (.inl f) => (match f S with
      | none => none
      | some S' => am_it J X G run j o n S')
    | some (.inr (.inr kd)) => (match am_fin kd S with
      | none => none
      | some r => some (.inl r))
    | some (.inr (.inl q)) => (match am_call J X run j q.1 q.2.1 q.2.2 S with
      | none => none
      | some (.inl S') => am_it J X G run j o n S'
      | some (.inr r) => some (.inl r))) = _
  rw [ho, hg]
  simp only [cond_false, hf]
theorem am_stepX {J : Nat → am_i} {X : am_t} {run : Nat → List am_v → am_h → Option am_r} {n : Nat} {q : Nat × Nat × Nat} {S : am_s} {r : am_r} (ho : am_at o S.1 = false) (hg : G j S.1 = some (.inr (.inl q))) (hf : am_call J X run j q.1 q.2.1 q.2.2 S = some (.inr r)) : am_it J X G run j o (n + 1) S = some (.inl r) := by
  show (bif am_at o S.1 then some (.inr S) else match G j S.1 with
    | none => none
    | some (.inl f) => (match f S with
      | none => none
      | some S' => am_it J X G run j o n S')
    | some (.inr (.inr kd)) => (match am_fin kd S with
      | none => none
      | some r => some (.inl r))
    | some (.inr (.inl q)) => (match am_call J X run j q.1 q.2.1 q.2.2 S with
      | none => none
      | some (.inl S') => am_it J X G run j o n S'
      | some (.inr r) => some (.inl r))) = _
  rw [ho, hg]
  simp only [cond_false, hf]
theorem am_stepF {J : Nat → am_i} {X : am_t} {run : Nat → List am_v → am_h → Option am_r} {n kd : Nat} {S : am_s} {r : am_r} (ho : am_at o S.1 = false) (hg : G j S.1 = some (.inr (.inr kd))) (hf : am_fin kd S = some r) : am_it J X G run j o (n + 1) S = some (.inl r) := by
  show (bif am_at o S.1 then some (.inr S) else match G j S.1 with
    | none => none
    | some (.inl f) => (match f S with
      | none => none
      | some S' => am_it J X G run j o n S')
    | some (.inr (.inr kd)) => (match am_fin kd S with
      | none => none
      | some r => some (.inl r))
    | some (.inr (.inl q)) => (match am_call J X run j q.1 q.2.1 q.2.2 S with
      | none => none
      | some (.inl S') => am_it J X G run j o n S'
      | some (.inr r) => some (.inl r))) = _
  rw [ho, hg]
  simp only [cond_false, hf]
theorem am_call_mono {J : Nat → am_i} {X : am_t} {run run' : Nat → List am_v → am_h → Option am_r} (hr : ∀ k as h r, run k as h = some r → run' k as h = some r) {k na kd : Nat} {S : am_s} {y : am_s ⊕ am_r} (e : am_call J X run j k na kd S = some y) : am_call J X run' j k na kd S = some y := by
  unfold am_call at e ⊢
  split at e
  · rename_i hg
    rw [if_pos hg]
    cases hc : run k (S.2.2.1.take na).reverse S.2.2.2.1 with
    | none =>
      rw [hc] at e
      exact absurd e (fun z => by cases z)
    | some r =>
      rw [hc] at e
      rw [hr _ _ _ _ hc]
      exact e
  · cases e
theorem am_it_mono {J : Nat → am_i} {X : am_t} {run run' : Nat → List am_v → am_h → Option am_r} (hr : ∀ k as h r, run k as h = some r → run' k as h = some r) : ∀ (n : Nat) (S : am_s) (x : am_r ⊕ am_s), am_it J X G run j o n S = some x → am_it J X G run' j o n S = some x := by
  intro n
  induction n with
  | zero => intro S x h; cases h
  | succ n ih =>
    intro S x h
    cases ha : am_at o S.1 with
    | true =>
      unfold am_it at h ⊢
      rw [ha] at h ⊢
      exact h
    | false =>
      cases hg : G j S.1 with
      | none =>
        exfalso
        unfold am_it at h
        rw [ha, hg] at h
        cases h
      | some i =>
        match i, hg with
        | .inl f, hg =>
          cases hf : f S with
          | none =>
            exfalso
            unfold am_it at h
            rw [ha, hg] at h
            simp only [cond_false, hf] at h
            cases h
          | some S1 =>
            rw [am_step ha hg hf] at h ⊢
            exact ih S1 x h
        | .inr (.inr kd), hg =>
          cases hf : am_fin kd S with
          | none =>
            exfalso
            unfold am_it at h
            rw [ha, hg] at h
            simp only [cond_false, hf] at h
            cases h
          | some r =>
            rw [am_stepF ha hg hf] at h ⊢
            exact h
        | .inr (.inl q), hg =>
          cases hf : am_call J X run j q.1 q.2.1 q.2.2 S with
          | none =>
            exfalso
            unfold am_it at h
            rw [ha, hg] at h
            simp only [cond_false, hf] at h
            cases h
          | some y =>
            match y, hf with
            | .inl S1, hf =>
              rw [am_stepC ha hg hf] at h
              rw [am_stepC ha hg (am_call_mono hr hf)]
              exact ih S1 x h
            | .inr r, hf =>
              rw [am_stepX ha hg hf] at h
              rw [am_stepX ha hg (am_call_mono hr hf)]
              exact h
abbrev am_rr (N D : Nat) : Nat → List am_v → am_h → Option am_r := am_run am_J am_X am_G N D
theorem am_rr_s {N : Nat} : ∀ {D k : Nat} {as : List am_v} {h : am_h} {r : am_r}, am_rr N D k as h = some r → am_rr N (D + 1) k as h = some r := by
  intro D
  induction D with
  | zero => intro k as h r e; cases e
  | succ D ih =>
    intro k as h r e
    show (match am_it am_J am_X am_G (am_run am_J am_X am_G N (D + 1)) k none N (0, am_args 0 as, [], h, 0, 0) with
      | some (.inl r) => some r
      | _ => none) = some r
    have e1 : (match am_it am_J am_X am_G (am_run am_J am_X am_G N D) k none N (0, am_args 0 as, [], h, 0, 0) with
      | some (.inl r) => some r
      | _ => none) = some r := e
    split at e1 <;> first | (cases e1; done) | skip
    rename_i r1 hit
    rw [am_it_mono (fun k as h r => ih) _ _ _ hit]
    exact e1
theorem am_rr_up {N D D' k : Nat} {as : List am_v} {h : am_h} {r : am_r} (hd : D ≤ D') (e : am_rr N D k as h = some r) : am_rr N D' k as h = some r := by
  obtain ⟨m, rfl⟩ := Nat.le.dest hd
  clear hd
  induction m with
  | zero => exact e
  | succ m ih => exact am_rr_s ih
end OKA
/-- a method's run answers r -/
def am_Rr (D k : Nat) (as : List am_v) (h : am_h) (r : am_r) : Prop := ∃ N, ∀ N', N ≤ N' → am_rr N' D k as h = some r
/-- a frame's run answers r -/
def am_It (G : Nat → Nat → Option am_n) (D j : Nat) (S : am_s) (r : am_r) : Prop := ∃ N, ∀ n N', N ≤ n → N ≤ N' → am_it am_J am_X G (am_rr N' D) j none n S = some (.inl r)
def am_Ok (G : Nat → Nat → Option am_n) (D j : Nat) (S : am_s) (Q : am_r → Prop) : Prop := ∃ r, am_It G D j S r ∧ Q r
def am_Mt (D k : Nat) (as : List am_v) (h : am_h) (Q : am_r → Prop) : Prop := ∃ r, am_Rr D k as h r ∧ Q r
section OKB
variable {G : Nat → Nat → Option am_n} {D d j pc c s : Nat} {lv : am_l} {st : List am_v} {h : am_h} {Q : am_r → Prop}
theorem am_Mt.of {k : Nat} {as : List am_v} (H : am_Ok am_G D k (0, am_args 0 as, [], h, 0, 0) Q) : am_Mt (D + 1) k as h Q := by
  obtain ⟨r, ⟨N, hN⟩, hQ⟩ := H
  refine ⟨r, ⟨N, fun N' h1 => ?_⟩, hQ⟩
  show (match am_it am_J am_X am_G (am_run am_J am_X am_G N' D) k none N' (0, am_args 0 as, [], h, 0, 0) with
      | some (.inl r) => some r
      | _ => none) = some r
  rw [hN N' N' h1 h1]
theorem am_Mt.up {k : Nat} {as : List am_v} (hd : Nat.ble d D = true) (H : am_Mt d k as h Q) : am_Mt D k as h Q := by
  obtain ⟨r, ⟨N, hN⟩, hQ⟩ := H
  exact ⟨r, ⟨N, fun N' h1 => am_rr_up (Nat.le_of_ble_eq_true hd) (hN N' h1)⟩, hQ⟩
theorem am_Mt.imp {k : Nat} {as : List am_v} {Q' : am_r → Prop} (H : am_Mt d k as h Q) (hq : ∀ r, Q r → Q' r) : am_Mt d k as h Q' := by
  obtain ⟨r, h1, h2⟩ := H
  exact ⟨r, h1, hq r h2⟩
theorem am_Ok.imp {S : am_s} {Q' : am_r → Prop} (H : am_Ok G D j S Q) (hq : ∀ r, Q r → Q' r) : am_Ok G D j S Q' := by
  obtain ⟨r, h1, h2⟩ := H
  exact ⟨r, h1, hq r h2⟩
theorem k_any {f : am_s → Option am_s} {S : am_s} {p : Nat} {S' : am_l × List am_v × am_h × Nat × Nat} (q : Nat) (hg : G j S.1 = some (.inl f)) (hf : f S = some (p, S')) (hp : p = q) (H : am_Ok G D j (q, S') Q) : am_Ok G D j S Q := by
  subst hp
  obtain ⟨r, ⟨N, hN⟩, hQ⟩ := H
  refine ⟨r, ⟨N + 1, fun n N' h1 h2 => ?_⟩, hQ⟩
  match n, h1 with
  | n + 1, h1 =>
    rw [am_step rfl hg hf]
    exact hN n N' (Nat.le_of_succ_le_succ h1) (Nat.le_of_succ_le h2)
theorem k_fin {kd : Nat} {S : am_s} {r : am_r} (hg : G j S.1 = some (.inr (.inr kd))) (hf : am_fin kd S = some r) (H : Q r) : am_Ok G D j S Q := by
  refine ⟨r, ⟨1, fun n N' h1 h2 => ?_⟩, H⟩
  match n, h1 with
  | n + 1, h1 => exact am_stepF rfl hg hf
theorem am_get_eq {ci k i pc c n : Nat} {lv : am_l} {r fs : List am_v} {h : am_h} {v : am_v} (h1 : h[i]? = some (.inr (ci, fs))) (h2 : fs[k]? = some v) : ai_get ci k (pc, lv, .inr (.inr (some i)) :: r, h, c, n) = some (pc + 3, lv, v :: r, h, c, n) := by
  simp [ai_get, h1, h2]
theorem am_put_eq {ci k i pc c n : Nat} {ok : am_v → Bool} {lv : am_l} {r fs : List am_v} {h : am_h} {v : am_v} (h1 : h[i]? = some (.inr (ci, fs))) (h2 : ok v = true) (h3 : k < fs.length) : ai_put ci k ok (pc, lv, v :: .inr (.inr (some i)) :: r, h, c, n) = some (pc + 3, lv, r, h.set i (.inr (ci, fs.set k v)), c, n) := by
  simp [ai_put, h1, h2, h3]
theorem am_iast_eq {i : Int32} {a pc c n : Nat} {lv : am_l} {r : List am_v} {h : am_h} {x : Int32} {xs : Nat × Int32 × List Int32} (h0 : a ≠ 0) (h1 : h[a]? = some (.inl (.inl xs))) (h2 : ¬ i < 0) (h3 : i.toNatClampNeg < xs.1) : ai_iast (pc, lv, .inl x :: .inl i :: .inr (.inr (some a)) :: r, h, c, n) = some (pc + 1, lv, r, h.set a (.inl (.inl (xs.1, xs.2.1, am_up xs.2.1 xs.2.2 i.toNatClampNeg x))), c, n) := by
  simp only [ai_iast, h1]
  rw [if_pos ⟨h0, h2, h3⟩]
theorem am_alen_eq {a pc c n : Nat} {lv : am_l} {r : List am_v} {h : am_h} {xs : Nat × Int32 × List Int32} (h0 : a ≠ 0) (h1 : h[a]? = some (.inl (.inl xs))) : ai_alen (pc, lv, .inr (.inr (some a)) :: r, h, c, n) = some (pc + 1, lv, .inl (Int32.ofNat xs.1) :: r, h, c, n) := by
  simp [ai_alen, h1, h0]
theorem am_put_id {τ : Type} {l : List τ} {k : Nat} {v : τ} (h : l[k]? = some v) : l.set k v = l := am_set_self h
theorem k_iload {w i : Nat} {v : Int32} (q : Nat) (hg : G j pc = some (.inl (ai_iload w i))) (hv : am_get lv i = some (.inl v)) (hp : pc + w = q) (H : am_Ok G D j (q, lv, .inl v :: st, h, c, s) Q) : am_Ok G D j (pc, lv, st, h, c, s) Q :=
  k_any q hg (show ai_iload w i (pc, lv, st, h, c, s) = some (pc + w, lv, .inl v :: st, h, c, s) from by simp only [ai_iload, hv]) hp H
theorem k_aload {w i : Nat} {v : Option Nat} (q : Nat) (hg : G j pc = some (.inl (ai_aload w i))) (hv : am_get lv i = some (.inr (.inr v))) (hp : pc + w = q) (H : am_Ok G D j (q, lv, .inr (.inr v) :: st, h, c, s) Q) : am_Ok G D j (pc, lv, st, h, c, s) Q :=
  k_any q hg (show ai_aload w i (pc, lv, st, h, c, s) = some (pc + w, lv, .inr (.inr v) :: st, h, c, s) from by simp only [ai_aload, hv]) hp H
theorem k_push {w : Nat} {v : am_v} (q : Nat) (hg : G j pc = some (.inl (ai_push w v))) (hp : pc + w = q) (H : am_Ok G D j (q, lv, v :: st, h, c, s) Q) : am_Ok G D j (pc, lv, st, h, c, s) Q :=
  k_any q hg rfl hp H
theorem k_istore {w i : Nat} {v : Int32} (q : Nat) (hg : G j pc = some (.inl (ai_istore w i))) (hp : pc + w = q) (H : am_Ok G D j (q, am_set lv i (.inl v), st, h, c, s) Q) : am_Ok G D j (pc, lv, .inl v :: st, h, c, s) Q :=
  k_any q hg rfl hp H
theorem k_astore {w i : Nat} {v : Option Nat} (q : Nat) (hg : G j pc = some (.inl (ai_astore w i))) (hp : pc + w = q) (H : am_Ok G D j (q, am_set lv i (.inr (.inr v)), st, h, c, s) Q) : am_Ok G D j (pc, lv, .inr (.inr v) :: st, h, c, s) Q :=
  k_any q hg rfl hp H
theorem k_goto {t : Nat} (q : Nat) (hg : G j pc = some (.inl (ai_goto t))) (hp : t = q) (H : am_Ok G D j (q, lv, st, h, c, s) Q) : am_Ok G D j (pc, lv, st, h, c, s) Q :=
  k_any q hg rfl hp H
theorem k_pop {v : am_v} (q : Nat) (hg : G j pc = some (.inl ai_pop)) (hv : am_isL v = false) (hp : pc + 1 = q) (H : am_Ok G D j (q, lv, st, h, c, s) Q) : am_Ok G D j (pc, lv, v :: st, h, c, s) Q :=
  k_any q hg (show ai_pop (pc, lv, v :: st, h, c, s) = some (pc + 1, lv, st, h, c, s) from by simp only [ai_pop, hv, cond_false]) hp H
theorem k_dup {v : am_v} (q : Nat) (hg : G j pc = some (.inl ai_dup)) (hv : am_isL v = false) (hp : pc + 1 = q) (H : am_Ok G D j (q, lv, v :: v :: st, h, c, s) Q) : am_Ok G D j (pc, lv, v :: st, h, c, s) Q :=
  k_any q hg (show ai_dup (pc, lv, v :: st, h, c, s) = some (pc + 1, lv, v :: v :: st, h, c, s) from by simp only [ai_dup, hv, cond_false]) hp H
theorem k_iinc {i : Nat} {v w : Int32} (z : Int32) (q : Nat) (hg : G j pc = some (.inl (ai_iinc i w))) (hv : am_get lv i = some (.inl v)) (hz : v + w = z) (hp : pc + 3 = q) (H : am_Ok G D j (q, am_set lv i (.inl z), st, h, c, s) Q) : am_Ok G D j (pc, lv, st, h, c, s) Q := by
  subst hz
  exact k_any q hg (show ai_iinc i w (pc, lv, st, h, c, s) = some (pc + 3, am_set lv i (.inl (v + w)), st, h, c, s) from by simp only [ai_iinc, hv]) hp H
theorem k_bin {w : Nat} {g : Int32 → Int32 → Int32} {x y : Int32} (z : Int32) (q : Nat) (hg : G j pc = some (.inl (ai_bin w g))) (hz : g x y = z) (hp : pc + w = q) (H : am_Ok G D j (q, lv, .inl z :: st, h, c, s) Q) : am_Ok G D j (pc, lv, .inl y :: .inl x :: st, h, c, s) Q := by
  subst hz
  exact k_any q hg rfl hp H
theorem k_un {g : Int32 → am_v} {x : Int32} (z : am_v) (q : Nat) (hg : G j pc = some (.inl (ai_un g))) (hz : g x = z) (hp : pc + 1 = q) (H : am_Ok G D j (q, lv, z :: st, h, c, s) Q) : am_Ok G D j (pc, lv, .inl x :: st, h, c, s) Q := by
  subst hz
  exact k_any q hg rfl hp H
theorem k_c1 {f : am_s → Option am_s} {x : Int32} {p : Nat} (q : Nat) (hg : G j pc = some (.inl f)) (hf : f (pc, lv, .inl x :: st, h, c, s) = some (p, lv, st, h, c, s)) (hp : p = q) (H : am_Ok G D j (q, lv, st, h, c, s) Q) : am_Ok G D j (pc, lv, .inl x :: st, h, c, s) Q :=
  k_any q hg hf hp H
theorem k_c2 {f : am_s → Option am_s} {x y : Int32} {p : Nat} (q : Nat) (hg : G j pc = some (.inl f)) (hf : f (pc, lv, .inl y :: .inl x :: st, h, c, s) = some (p, lv, st, h, c, s)) (hp : p = q) (H : am_Ok G D j (q, lv, st, h, c, s) Q) : am_Ok G D j (pc, lv, .inl y :: .inl x :: st, h, c, s) Q :=
  k_any q hg hf hp H
theorem k_null {v : Option Nat} {f : am_s → Option am_s} {p : Nat} (q : Nat) (hg : G j pc = some (.inl f)) (hf : f (pc, lv, .inr (.inr v) :: st, h, c, s) = some (p, lv, st, h, c, s)) (hp : p = q) (H : am_Ok G D j (q, lv, st, h, c, s) Q) : am_Ok G D j (pc, lv, .inr (.inr v) :: st, h, c, s) Q :=
  k_any q hg hf hp H
theorem k_get {ci k i : Nat} {fs : List am_v} {v : am_v} (q : Nat) (hg : G j pc = some (.inl (ai_get ci k))) (h1 : h[i]? = some (.inr (ci, fs))) (h2 : fs[k]? = some v) (hp : pc + 3 = q) (H : am_Ok G D j (q, lv, v :: st, h, c, s) Q) : am_Ok G D j (pc, lv, .inr (.inr (some i)) :: st, h, c, s) Q :=
  k_any q hg (am_get_eq h1 h2) hp H
theorem k_put {ci k i : Nat} {ok : am_v → Bool} {fs : List am_v} {v : am_v} (q : Nat) (hg : G j pc = some (.inl (ai_put ci k ok))) (h1 : h[i]? = some (.inr (ci, fs))) (h2 : ok v = true) (h3 : k < fs.length) (hp : pc + 3 = q) (H : am_Ok G D j (q, lv, st, h.set i (.inr (ci, fs.set k v)), c, s) Q) : am_Ok G D j (pc, lv, v :: .inr (.inr (some i)) :: st, h, c, s) Q :=
  k_any q hg (am_put_eq h1 h2 h3) hp H
/-- a field is set to what it is -/
theorem k_put0 {ci k i : Nat} {ok : am_v → Bool} {fs : List am_v} {v : am_v} (q : Nat) (hg : G j pc = some (.inl (ai_put ci k ok))) (h1 : h[i]? = some (.inr (ci, fs))) (h2 : ok v = true) (h3 : fs[k]? = some v) (hp : pc + 3 = q) (H : am_Ok G D j (q, lv, st, h, c, s) Q) : am_Ok G D j (pc, lv, v :: .inr (.inr (some i)) :: st, h, c, s) Q := by
  refine k_put q hg h1 h2 ((List.getElem?_eq_some_iff.mp h3).1) hp ?_
  rw [am_put_id h3, am_put_id h1]
  exact H
theorem k_iald {i : Int32} {a : Nat} {x : Int32} {xs : Nat × Int32 × List Int32} (q : Nat) (hg : G j pc = some (.inl ai_iald)) (h0 : a ≠ 0) (h1 : h[a]? = some (.inl (.inl xs))) (h2 : ¬ i < 0) (h3 : i.toNatClampNeg < xs.1) (h4 : xs.2.2.getD i.toNatClampNeg xs.2.1 = x) (hp : pc + 1 = q) (H : am_Ok G D j (q, lv, .inl x :: st, h, c, s) Q) : am_Ok G D j (pc, lv, .inl i :: .inr (.inr (some a)) :: st, h, c, s) Q := by
  subst h4
  exact k_any q hg (show ai_iald (pc, lv, .inl i :: .inr (.inr (some a)) :: st, h, c, s) = some (pc + 1, lv, _, h, c, s) from by simp only [ai_iald, h1]; rw [if_pos ⟨h0, h2, h3⟩]) hp H
theorem k_iast {i : Int32} {a : Nat} {x : Int32} {xs : Nat × Int32 × List Int32} (q : Nat) (hg : G j pc = some (.inl ai_iast)) (h0 : a ≠ 0) (h1 : h[a]? = some (.inl (.inl xs))) (h2 : ¬ i < 0) (h3 : i.toNatClampNeg < xs.1) (hp : pc + 1 = q) (H : am_Ok G D j (q, lv, st, h.set a (.inl (.inl (xs.1, xs.2.1, am_up xs.2.1 xs.2.2 i.toNatClampNeg x))), c, s) Q) : am_Ok G D j (pc, lv, .inl x :: .inl i :: .inr (.inr (some a)) :: st, h, c, s) Q :=
  k_any q hg (am_iast_eq h0 h1 h2 h3) hp H
theorem k_alen {a : Nat} {xs : Nat × Int32 × List Int32} (q : Nat) (hg : G j pc = some (.inl ai_alen)) (h0 : a ≠ 0) (h1 : h[a]? = some (.inl (.inl xs))) (hp : pc + 1 = q) (H : am_Ok G D j (q, lv, .inl (Int32.ofNat xs.1) :: st, h, c, s) Q) : am_Ok G D j (pc, lv, .inr (.inr (some a)) :: st, h, c, s) Q :=
  k_any q hg (am_alen_eq h0 h1) hp H
theorem k_slen {xs : List Int32} (q : Nat) (hg : G j pc = some (.inl (ai_slen xs))) (hp : pc + 1 = q) (H : am_Ok G D j (q, lv, .inl (Int32.ofNat xs.length) :: st, h, c, s) Q) : am_Ok G D j (pc, lv, .inr (.inr (some 0)) :: st, h, c, s) Q :=
  k_any q hg rfl hp H
theorem k_sld {i x : Int32} {xs : List Int32} (q : Nat) (hg : G j pc = some (.inl (ai_sld xs))) (h2 : ¬ i < 0) (h3 : i.toNatClampNeg < xs.length) (h4 : xs.getD i.toNatClampNeg 0 = x) (hp : pc + 1 = q) (H : am_Ok G D j (q, lv, .inl x :: st, h, c, s) Q) : am_Ok G D j (pc, lv, .inl i :: .inr (.inr (some 0)) :: st, h, c, s) Q := by
  subst h4
  exact k_any q hg (show ai_sld xs (pc, lv, .inl i :: .inr (.inr (some 0)) :: st, h, c, s) = some (pc + 1, lv, .inl (xs.getD i.toNatClampNeg 0) :: st, h, c, s) from by simp only [ai_sld]; rw [if_pos ⟨h2, h3⟩]) hp H
theorem k_lload {w i : Nat} {v : Int64} (q : Nat) (hg : G j pc = some (.inl (ai_lload w i))) (hv : am_get lv i = some (.inr (.inl v))) (hp : pc + w = q) (H : am_Ok G D j (q, lv, .inr (.inl v) :: st, h, c, s) Q) : am_Ok G D j (pc, lv, st, h, c, s) Q :=
  k_any q hg (show ai_lload w i (pc, lv, st, h, c, s) = some (pc + w, lv, .inr (.inl v) :: st, h, c, s) from by simp only [ai_lload, hv]) hp H
theorem k_lstore {w i : Nat} {v : Int64} (q : Nat) (hg : G j pc = some (.inl (ai_lstore w i))) (hp : pc + w = q) (H : am_Ok G D j (q, am_set2 lv i (.inr (.inl v)), st, h, c, s) Q) : am_Ok G D j (pc, lv, .inr (.inl v) :: st, h, c, s) Q :=
  k_any q hg rfl hp H
theorem k_binL {g : Int64 → Int64 → am_v} {x y : Int64} (q : Nat) (hg : G j pc = some (.inl (ai_binL g))) (hp : pc + 1 = q) (H : am_Ok G D j (q, lv, g x y :: st, h, c, s) Q) : am_Ok G D j (pc, lv, .inr (.inl y) :: .inr (.inl x) :: st, h, c, s) Q :=
  k_any q hg rfl hp H
theorem k_dup2 {v w : am_v} (q : Nat) (hg : G j pc = some (.inl ai_dup2)) (hv : (am_isL v || am_isL w) = false) (hp : pc + 1 = q) (H : am_Ok G D j (q, lv, v :: w :: v :: w :: st, h, c, s) Q) : am_Ok G D j (pc, lv, v :: w :: st, h, c, s) Q :=
  k_any q hg (show ai_dup2 (pc, lv, v :: w :: st, h, c, s) = some (pc + 1, lv, v :: w :: v :: w :: st, h, c, s) from by simp only [ai_dup2, hv, cond_false]) hp H
theorem k_div {g : Int32 → Int32 → Int32} {x y : Int32} (q : Nat) (hg : G j pc = some (.inl (ai_div g))) (hy : ¬ y = 0) (hp : pc + 1 = q) (H : am_Ok G D j (q, lv, .inl (g x y) :: st, h, c, s) Q) : am_Ok G D j (pc, lv, .inl y :: .inl x :: st, h, c, s) Q :=
  k_any q hg (show ai_div g (pc, lv, .inl y :: .inl x :: st, h, c, s) = some (pc + 1, lv, .inl (g x y) :: st, h, c, s) from by simp only [ai_div]; rw [if_neg hy]) hp H
theorem k_math {g : Int32 → Int32 → Int32} {x y : Int32} (q : Nat) (hg : G j pc = some (.inl (ai_math g))) (hb : Nat.ble (am_words st) 40 = true) (hp : pc + 3 = q) (H : am_Ok G D j (q, lv, .inl (g x y) :: st, h, c, s) Q) : am_Ok G D j (pc, lv, .inl y :: .inl x :: st, h, c, s) Q :=
  k_any q hg (show ai_math g (pc, lv, .inl y :: .inl x :: st, h, c, s) = some (pc + 3, lv, .inl (g x y) :: st, h, c, s) from by simp only [ai_math]; rw [if_pos (Nat.le_of_ble_eq_true hb)]) hp H
theorem k_sw {g : Int32 → Nat} {x : Int32} (q : Nat) (hg : G j pc = some (.inl (ai_sw g))) (hp : g x = q) (H : am_Ok G D j (q, lv, st, h, c, s) Q) : am_Ok G D j (pc, lv, .inl x :: st, h, c, s) Q :=
  k_any q hg rfl hp H
theorem k_nul {a b : Nat} (q : Nat) (hg : G j pc = some (.inl (ai_ifnull a b))) (hp : a = q) (H : am_Ok G D j (q, lv, st, h, c, s) Q) : am_Ok G D j (pc, lv, .inr (.inr none) :: st, h, c, s) Q :=
  k_any q hg rfl hp H
theorem k_non {a b i : Nat} (q : Nat) (hg : G j pc = some (.inl (ai_ifnull a b))) (hp : b = q) (H : am_Ok G D j (q, lv, st, h, c, s) Q) : am_Ok G D j (pc, lv, .inr (.inr (some i)) :: st, h, c, s) Q :=
  k_any q hg rfl hp H
theorem k_pat {i : Nat} {x : Int32} (q : Nat) (hg : G j pc = some (.inl (ai_pat i))) (hv : am_get lv i = some (.inl x)) (hx : ¬ x < 0 ∧ x.toNatClampNeg < 7) (hp : pc + 5 = q) (H : am_Ok G D j (q, lv, .inl (am_PT.getD x.toNatClampNeg 0) :: st, h, c, s) Q) : am_Ok G D j (pc, lv, st, h, c, s) Q :=
  k_any q hg (show ai_pat i (pc, lv, st, h, c, s) = some (pc + 5, lv, .inl (am_PT.getD x.toNatClampNeg 0) :: st, h, c, s) from by simp only [ai_pat, hv]; rw [if_pos hx]) hp H
theorem k_acmp {tgt i i2 : Nat} (q : Nat) (hg : G j pc = some (.inl (ai_acmpne tgt))) (h1 : i < h.length) (h2 : i2 < h.length) (h3 : i ≠ 0) (h4 : i2 ≠ 0) (hp : (if some i2 = some i then pc + 3 else tgt) = q) (H : am_Ok G D j (q, lv, st, h, c, s) Q) : am_Ok G D j (pc, lv, .inr (.inr (some i)) :: .inr (.inr (some i2)) :: st, h, c, s) Q :=
  k_any q hg (show ai_acmpne tgt (pc, lv, .inr (.inr (some i)) :: .inr (.inr (some i2)) :: st, h, c, s) = some (_, lv, st, h, c, s) from by
    simp only [ai_acmpne]
    rw [if_pos ⟨Nat.ble_eq_true_of_le h1, Nat.ble_eq_true_of_le h2, fun e => h3 (Option.some.inj e), fun e => h4 (Option.some.inj e)⟩]) hp H
theorem k_lald {i : Int32} {a : Nat} {xs : Nat × Int64 × List Int64} (q : Nat) (hg : G j pc = some (.inl ai_lald)) (h1 : h[a]? = some (.inl (.inr (.inl xs)))) (h2 : ¬ i < 0) (h3 : i.toNatClampNeg < xs.1) (hp : pc + 1 = q) (H : am_Ok G D j (q, lv, .inr (.inl (xs.2.2.getD i.toNatClampNeg xs.2.1)) :: st, h, c, s) Q) : am_Ok G D j (pc, lv, .inl i :: .inr (.inr (some a)) :: st, h, c, s) Q :=
  k_any q hg (show ai_lald (pc, lv, .inl i :: .inr (.inr (some a)) :: st, h, c, s) = some (pc + 1, lv, _, h, c, s) from by simp only [ai_lald, h1]; rw [if_pos ⟨h2, h3⟩]) hp H
theorem k_last {i : Int32} {a : Nat} {x : Int64} {xs : Nat × Int64 × List Int64} (q : Nat) (hg : G j pc = some (.inl ai_last)) (h1 : h[a]? = some (.inl (.inr (.inl xs)))) (h2 : ¬ i < 0) (h3 : i.toNatClampNeg < xs.1) (hp : pc + 1 = q) (H : am_Ok G D j (q, lv, st, h.set a (.inl (.inr (.inl (xs.1, xs.2.1, am_up xs.2.1 xs.2.2 i.toNatClampNeg x)))), c, s) Q) : am_Ok G D j (pc, lv, .inr (.inl x) :: .inl i :: .inr (.inr (some a)) :: st, h, c, s) Q :=
  k_any q hg (show ai_last (pc, lv, .inr (.inl x) :: .inl i :: .inr (.inr (some a)) :: st, h, c, s) = some (pc + 1, lv, st, _, c, s) from by simp only [ai_last, h1]; rw [if_pos ⟨h2, h3⟩]) hp H
theorem k_bald {i : Int32} {a : Nat} {xs : Nat × Int32 × List Int32} (q : Nat) (hg : G j pc = some (.inl ai_bald)) (h1 : h[a]? = some (.inl (.inr (.inr xs)))) (h2 : ¬ i < 0) (h3 : i.toNatClampNeg < xs.1) (hp : pc + 1 = q) (H : am_Ok G D j (q, lv, .inl (xs.2.2.getD i.toNatClampNeg xs.2.1) :: st, h, c, s) Q) : am_Ok G D j (pc, lv, .inl i :: .inr (.inr (some a)) :: st, h, c, s) Q :=
  k_any q hg (show ai_bald (pc, lv, .inl i :: .inr (.inr (some a)) :: st, h, c, s) = some (pc + 1, lv, _, h, c, s) from by simp only [ai_bald, h1]; rw [if_pos ⟨h2, h3⟩]) hp H
theorem k_bast {i x : Int32} {a : Nat} {xs : Nat × Int32 × List Int32} (q : Nat) (hg : G j pc = some (.inl ai_bast)) (h1 : h[a]? = some (.inl (.inr (.inr xs)))) (h2 : ¬ i < 0) (h3 : i.toNatClampNeg < xs.1) (hp : pc + 1 = q) (H : am_Ok G D j (q, lv, st, h.set a (.inl (.inr (.inr (xs.1, xs.2.1, am_up xs.2.1 xs.2.2 i.toNatClampNeg x.toInt8.toInt32)))), c, s) Q) : am_Ok G D j (pc, lv, .inl x :: .inl i :: .inr (.inr (some a)) :: st, h, c, s) Q :=
  k_any q hg (show ai_bast (pc, lv, .inl x :: .inl i :: .inr (.inr (some a)) :: st, h, c, s) = some (pc + 1, lv, st, _, c, s) from by simp only [ai_bast, h1]; rw [if_pos ⟨h2, h3⟩]) hp H
theorem k_newI {x : Int32} (q : Nat) (hg : G j pc = some (.inl ai_newI)) (h1 : am_okS (pc, lv, .inl x :: st, h, c, s) = true) (h2 : ¬ x < 0) (h3 : x.toNatClampNeg ≤ 1000000) (hp : pc + 2 = q) (H : am_Ok G D j (q, lv, .inr (.inr (some h.length)) :: st, h ++ [.inl (.inl (x.toNatClampNeg, 0, []))], c + 1, s + x.toNatClampNeg) Q) : am_Ok G D j (pc, lv, .inl x :: st, h, c, s) Q :=
  k_any q hg (show ai_newI (pc, lv, .inl x :: st, h, c, s) = some (pc + 2, lv, _, _, _, _) from by simp only [ai_newI]; rw [if_pos ⟨h1, h2, h3⟩]) hp H
theorem k_copy {n dp sp : Int32} {a a0 : Nat} {xs ys : Nat × Int32 × List Int32} (q : Nat) (hg : G j pc = some (.inl ai_copy)) (h1 : h[a0]? = some (.inl (.inl xs))) (h2 : h[a]? = some (.inl (.inl ys))) (h3 : a ≠ 0 ∧ a0 ≠ 0 ∧ am_words st ≤ 40 ∧ ¬ sp < 0 ∧ ¬ dp < 0 ∧ ¬ n < 0 ∧ sp.toNatClampNeg + n.toNatClampNeg ≤ xs.1 ∧ dp.toNatClampNeg + n.toNatClampNeg ≤ ys.1) (hp : pc + 3 = q) (H : am_Ok G D j (q, lv, st, h.set a (.inl (.inl (am_cp xs ys sp.toNatClampNeg dp.toNatClampNeg n.toNatClampNeg))), c, s) Q) : am_Ok G D j (pc, lv, .inl n :: .inl dp :: .inr (.inr (some a)) :: .inl sp :: .inr (.inr (some a0)) :: st, h, c, s) Q :=
  k_any q hg (show ai_copy (pc, lv, .inl n :: .inl dp :: .inr (.inr (some a)) :: .inl sp :: .inr (.inr (some a0)) :: st, h, c, s) = some (pc + 3, lv, st, _, c, s) from by simp only [ai_copy, h1, h2]; rw [if_pos h3]) hp H
/-- a call: what is known of the callee's run gives how it goes on -/
theorem k_call0 {k na kd : Nat} {as : List am_v} {P : am_r → Prop} (hg : G j pc = some (.inr (.inl (k, na, kd)))) (hM : am_Mt d k as h P) (hd : Nat.ble d D = true) (ha : (st.take na).reverse = as) (hb : (Nat.ble na st.length && (Nat.ble (am_words (st.drop na)) 8 && Nat.ble (am_words as) (am_J k).2.2.1)) = true) (hr : am_rc kd h as = true)
    (hK : ∀ r, P r → (r.2.1.length = h.length ∨ (am_okL h.length lv = true ∧ (st.drop na).all (am_okV h.length) = true)) ∧ ((∃ v, r.1 = .inl v ∧ am_Ok G D j (pc + 3, lv, v.toList ++ st.drop na, r.2.1, c + r.2.2.1, s + r.2.2.2) Q) ∨ (∃ e, r.1 = .inr e ∧ ¬ (kd = 1 ∨ kd = 2) ∧ ((∃ w, am_X j pc e = some w ∧ am_Ok G D j (w.1, am_del lv w.2, [], r.2.1, c + r.2.2.1, s + r.2.2.2) Q) ∨ (am_X j pc e = none ∧ (am_J j).2.2.2.2.2.2 = [] ∧ Q (.inr e, r.2.1, c + r.2.2.1, s + r.2.2.2)))))) : am_Ok G D j (pc, lv, st, h, c, s) Q := by
  subst ha
  have h1 := Bool.and_eq_true_iff.mp hb
  have h2 := Bool.and_eq_true_iff.mp h1.2
  obtain ⟨r, ⟨N0, hN0⟩, hP⟩ := am_Mt.up hd hM
  obtain ⟨hok, hK⟩ := hK r hP
  obtain ⟨r1, h', c', s'⟩ := r
  have hcall : ∀ N', N0 ≤ N' → am_call am_J am_X (am_rr N' D) j k na kd (pc, lv, st, h, c, s) = (match (generalizing := false) r1 with
        | .inl v => some (.inl (pc + 3, lv, v.toList ++ st.drop na, h', c + c', s + s'))
        | .inr e => if kd = 1 ∨ kd = 2 then none else (match am_X j pc e with
          | some q => some (.inl (q.1, am_del lv q.2, [], h', c + c', s + s'))
          | none => if (am_J j).2.2.2.2.2.2 = [] then some (.inr (.inr e, h', c + c', s + s')) else none)) := fun N' h9 => by
    unfold am_call
    rw [if_pos ⟨Nat.le_of_ble_eq_true h1.1, Nat.le_of_ble_eq_true h2.1, Nat.le_of_ble_eq_true h2.2, hr⟩, hN0 N' h9]
    show (if h'.length = h.length ∨ _ then _ else none) = _
    rw [if_pos hok]
    cases r1 <;> rfl
  rcases hK with ⟨v, hv, H⟩ | ⟨e, he, hkd, ⟨w, hw, H⟩ | ⟨hw, hj, H⟩⟩
  · have hv : r1 = .inl v := hv
    subst hv
    obtain ⟨r, ⟨N, hN⟩, hQ⟩ := H
    refine ⟨r, ⟨N + N0 + 1, fun n N' g1 g2 => ?_⟩, hQ⟩
    match n, g1 with
    | n + 1, g1 =>
      rw [am_stepC rfl hg (hcall N' (by omega))]
      exact hN n N' (by omega) (by omega)
  · have he : r1 = .inr e := he
    subst he
    obtain ⟨r, ⟨N, hN⟩, hQ⟩ := H
    refine ⟨r, ⟨N + N0 + 1, fun n N' g1 g2 => ?_⟩, hQ⟩
    match n, g1 with
    | n + 1, g1 =>
      have hc := hcall N' (by omega)
      simp only [if_neg hkd, hw] at hc
      rw [am_stepC rfl hg hc]
      exact hN n N' (by omega) (by omega)
  · have he : r1 = .inr e := he
    subst he
    refine ⟨_, ⟨N0 + 1, fun n N' g1 g2 => ?_⟩, H⟩
    match n, g1 with
    | n + 1, g1 =>
      have hc := hcall N' (by omega)
      simp only [if_neg hkd, hw, hj, if_true] at hc
      exact am_stepX rfl hg hc
theorem am_rcE {ci i : Nat} {fs : List am_v} {as : List am_v} (h1 : h[i]? = some (.inr (ci, fs))) : am_rc (ci + 3) h (.inr (.inr (some i)) :: as) = true := by
  simp only [am_rc, h1]
  exact Nat.beq_refl ci
/-- locals, set and looked up -/
theorem am_get_f {i : Nat} {v : am_v} {f : Nat × am_v → Bool} : ∀ {lv : am_l}, am_get lv i = some v → f (i, v) = true → am_get (lv.filter f) i = some v
  | [], e, _ => by cases e
  | q :: r, e, hf => by
    unfold am_get at e
    cases hb : Nat.beq q.1 i with
    | true =>
      rw [hb] at e
      have h1 : q.1 = i := Nat.eq_of_beq_eq_true hb
      have h2 : q.2 = v := Option.some.inj e
      have h3 : q = (i, v) := by rw [← h1, ← h2]
      rw [List.filter_cons, h3, if_pos hf]
      show (bif Nat.beq i i then some v else _) = some v
      rw [Nat.beq_refl]
      rfl
    | false =>
      rw [hb] at e
      have ih := am_get_f (f := f) (lv := r) e hf
      rw [List.filter_cons]
      split
      · show (bif Nat.beq q.1 i then some q.2 else am_get (r.filter f) i) = some v
        rw [hb]
        exact ih
      · exact ih
theorem gs_eq {i : Nat} {v : am_v} : am_get (am_set lv i v) i = some v := by
  show (bif Nat.beq i i then some v else _) = some v
  rw [Nat.beq_refl]
  rfl
theorem gs_eq2 {i : Nat} {v : am_v} : am_get (am_set2 lv i v) i = some v := by
  show (bif Nat.beq i i then some v else _) = some v
  rw [Nat.beq_refl]
  rfl
theorem gs_ne {i k : Nat} {v w : am_v} (hk : Nat.beq i k = false) (hw : (!(k + 1 == i && am_isL w)) = true) (e : am_get lv k = some w) : am_get (am_set lv i v) k = some w := by
  show (bif Nat.beq i k then some v else _) = some w
  rw [hk]
  refine am_get_f e ?_
  have h1 : (k == i) = false := by
    refine beq_eq_false_iff_ne.mpr (fun z => ?_)
    subst z
    rw [Nat.beq_refl] at hk
    cases hk
  simp only [h1, hw, Bool.not_false, Bool.and_self]
theorem gs_ne2 {i k : Nat} {v w : am_v} (hk : Nat.beq i k = false) (hw : (!(k == i + 1) && !(k + 1 == i && am_isL w)) = true) (e : am_get lv k = some w) : am_get (am_set2 lv i v) k = some w := by
  show (bif Nat.beq i k then some v else _) = some w
  rw [hk]
  refine am_get_f e ?_
  have h1 : (k == i) = false := by
    refine beq_eq_false_iff_ne.mpr (fun z => ?_)
    subst z
    rw [Nat.beq_refl] at hk
    cases hk
  simp only [h1, hw, Bool.not_false, Bool.and_self]
theorem gs_del {i k : Nat} {w : am_v} (hk : (!(k == i) && !(k + 1 == i && am_isL w)) = true) (e : am_get lv k = some w) : am_get (am_del lv i) k = some w := am_get_f e hk
theorem okL_set {n i : Nat} {v : am_v} (hv : am_okV n v = true) (hl : am_okL n lv = true) : am_okL n (am_set lv i v) = true := by
  unfold am_okL am_set at *
  rw [List.all_cons, Bool.and_eq_true]
  refine ⟨hv, ?_⟩
  rw [List.all_eq_true] at *
  exact fun q hq => hl q (List.mem_filter.mp hq).1
theorem okL_set2 {n i : Nat} {v : am_v} (hv : am_okV n v = true) (hl : am_okL n lv = true) : am_okL n (am_set2 lv i v) = true := by
  unfold am_okL am_set2 at *
  rw [List.all_cons, Bool.and_eq_true]
  refine ⟨hv, ?_⟩
  rw [List.all_eq_true] at *
  exact fun q hq => hl q (List.mem_filter.mp hq).1
theorem okV_le {n m : Nat} {v : am_v} (hnm : n ≤ m) (hv : am_okV n v = true) : am_okV m v = true := by
  match v, hv with
  | .inl _, _ => rfl
  | .inr (.inl _), _ => rfl
  | .inr (.inr none), _ => rfl
  | .inr (.inr (some i)), hv => exact Nat.ble_eq_true_of_le (Nat.le_trans (Nat.le_of_ble_eq_true hv) hnm)
theorem okL_le {n m : Nat} (hnm : n ≤ m) (hl : am_okL n lv = true) : am_okL m lv = true := by
  unfold am_okL at *
  rw [List.all_eq_true] at *
  exact fun q hq => okV_le hnm (hl q hq)
end OKB
