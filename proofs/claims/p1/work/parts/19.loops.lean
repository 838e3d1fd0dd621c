section AML
variable {J : Nat → am_i} {X : am_t} {G : Nat → Nat → Option am_n} {run : Nat → List am_v → am_h → Option am_r} {j : Nat} {o : Option Nat}
theorem am_step {n : Nat} {f : am_s → Option am_s} {S S' : am_s} (ho : am_at o S.1 = false) (hg : G j S.1 = some (.inl f)) (hf : f S = some S') : am_it J X G run j o (n + 1) S = am_it J X G run j o n S' := by
  show (bif am_at o S.1 then some (.inr S) else match G j S.1 with
    | none => none
    | some (.inl f) => (match f S with
      | none => none
      | some S' => am_it J X G run j o n S')
    | some (.inr (.inr kd)) => (match am_fin kd S with
      | none => none
      | some r => some (.inl r))
    | some (.inr (.inl q)) => (match am_call J X run j q.1 q.2.1 q.2.2 S with
      | none => none
      | some (.inl S') => am_it J X G run j o n S'
      | some (.inr r) => some (.inl r))) = _
  rw [ho, hg]
  simp only [cond_false, hf]
/-- from S the run comes to S' -/
def am_go (J : Nat → am_i) (X : am_t) (G : Nat → Nat → Option am_n) (run : Nat → List am_v → am_h → Option am_r) (j : Nat) (o : Option Nat) (S S' : am_s) : Prop := ∃ n, ∀ m, am_it J X G run j o (n + m) S = am_it J X G run j o m S'
theorem am_go.rf {S : am_s} : am_go J X G run j o S S := ⟨0, fun m => by rw [Nat.zero_add]⟩
theorem am_go.trans {S S1 S2 : am_s} (h1 : am_go J X G run j o S S1) (h2 : am_go J X G run j o S1 S2) : am_go J X G run j o S S2 := by
  obtain ⟨n1, h1⟩ := h1
  obtain ⟨n2, h2⟩ := h2
  exact ⟨n1 + n2, fun m => by rw [Nat.add_assoc, h1, h2]⟩
theorem am_go.st (f : am_s → Option am_s) {S S' S2 : am_s} (ho : am_at o S.1 = false) (hg : G j S.1 = some (.inl f)) (hf : f S = some S') (h : am_go J X G run j o S' S2) : am_go J X G run j o S S2 := am_go.trans ⟨1, fun m => by rw [Nat.add_comm]; exact am_step ho hg hf⟩ h
theorem am_go.stop {S S' : am_s} (h : am_go J X G run j o S S') (ho : am_at o S'.1 = true) : ∃ n, am_it J X G run j o n S = some (.inr S') := by
  obtain ⟨n, h⟩ := h
  refine ⟨n + 1, ?_⟩
  rw [h]
  unfold am_it
  rw [ho]
  rfl
theorem am_get_eq {ci k i pc c n : Nat} {lv : am_l} {r fs : List am_v} {h : am_h} {v : am_v} (h1 : h[i]? = some (.inr (ci, fs))) (h2 : fs[k]? = some v) : ai_get ci k (pc, lv, .inr (.inr (some i)) :: r, h, c, n) = some (pc + 3, lv, v :: r, h, c, n) := by
  simp [ai_get, h1, h2]
theorem am_put_eq {ci k i pc c n : Nat} {ok : am_v → Bool} {lv : am_l} {r fs : List am_v} {h : am_h} {v : am_v} (h1 : h[i]? = some (.inr (ci, fs))) (h2 : ok v = true) (h3 : k < fs.length) : ai_put ci k ok (pc, lv, v :: .inr (.inr (some i)) :: r, h, c, n) = some (pc + 3, lv, r, h.set i (.inr (ci, fs.set k v)), c, n) := by
  simp [ai_put, h1, h2, h3]
theorem am_iast_eq {i : Int32} {a pc c n : Nat} {lv : am_l} {r : List am_v} {h : am_h} {x : Int32} {xs : Nat × Int32 × List Int32} (h0 : a ≠ 0) (h1 : h[a]? = some (.inl (.inl xs))) (h2 : ¬ i < 0) (h3 : i.toNatClampNeg < xs.1) : ai_iast (pc, lv, .inl x :: .inl i :: .inr (.inr (some a)) :: r, h, c, n) = some (pc + 1, lv, r, h.set a (.inl (.inl (xs.1, xs.2.1, am_up xs.2.1 xs.2.2 i.toNatClampNeg x))), c, n) := by
  simp only [ai_iast, h1]
  rw [if_pos ⟨h0, h2, h3⟩]
theorem am_alen_eq {a pc c n : Nat} {lv : am_l} {r : List am_v} {h : am_h} {xs : Nat × Int32 × List Int32} (h0 : a ≠ 0) (h1 : h[a]? = some (.inl (.inl xs))) : ai_alen (pc, lv, .inr (.inr (some a)) :: r, h, c, n) = some (pc + 1, lv, .inl (Int32.ofNat xs.1) :: r, h, c, n) := by
  simp [ai_alen, h1, h0]
/-- a row whose first k places are v -/
theorem am_sim_fill {N : Nat} {d v : Int32} {xs : List Int32} (hk : ∀ j, j < N → xs.getD j d = v) : am_sim (N, d, xs) (N, v, []) := ⟨rfl, fun j hj => by rw [show (N, d, xs).2.2.getD j (N, d, xs).2.1 = xs.getD j d from rfl, hk j hj]; rfl⟩
end AML
section AMP
variable {J : Nat → am_i} {X : am_t} {G : Nat → Nat → Option am_n} {run : Nat → List am_v → am_h → Option am_r} {j : Nat}
theorem am_len_of {h : am_h} {a : Nat} {x : am_e} (hx : h[a]? = some x) : a < h.length := (List.getElem?_eq_some_iff.mp hx).1
/-- the reference's own loop that fills a row -/
theorem am_loopM {k0 N L : Nat} {v NN : Int32} (hN : N < 2 ^ 31) (hL : N ≤ L) (hNN : NN = nI N) (g2 : G j 2 = some (.inl (ai_iload 1 1))) (g3 : G j 3 = some (.inl (ai_push 3 (.inl NN)))) (g6 : G j 6 = some (.inl (ai_icmp_ge 22))) (g9 : G j 9 = some (.inl (ai_aload 1 0))) (g10 : G j 10 = some (.inl (ai_get 10 k0))) (g13 : G j 13 = some (.inl (ai_iload 1 1))) (g14 : G j 14 = some (.inl (ai_push 1 (.inl v)))) (g15 : G j 15 = some (.inl ai_iast)) (g16 : G j 16 = some (.inl (ai_iinc 1 1))) (g19 : G j 19 = some (.inl (ai_goto 2))) {m a c n : Nat} {fs : List am_v} {d : Int32} (hf : fs[k0]? = some (.inr (.inr (some a)))) (ha : a ≠ 0) (hma : a ≠ m) :
    ∀ (r i : Nat) (xs : List Int32) (h : am_h), i + r = N → h[m]? = some (.inr (10, fs)) → h[a]? = some (.inl (.inl (L, d, xs))) → (∀ q, q < i → xs.getD q d = v) → ∃ xs' : List Int32, ((∀ q, q < N → xs'.getD q d = v) ∧ ∀ q, N ≤ q → xs'.getD q d = xs.getD q d) ∧ am_go J X G run j (some 22) (2, [(1, .inl (nI i)), (0, .inr (.inr (some m)))], [], h, c, n) (22, [(1, .inl (nI N)), (0, .inr (.inr (some m)))], [], h.set a (.inl (.inl (L, d, xs'))), c, n) := by
  intro r
  induction r with
  | zero =>
    intro i xs h hi hm hx hq
    have e : i = N := hi
    subst e
    refine ⟨xs, ⟨hq, fun _ _ => rfl⟩, ?_⟩
    rw [am_set_self hx]
    refine am_go.st _ rfl g2 rfl ?_
    refine am_go.st _ rfl g3 rfl ?_
    refine am_go.st _ rfl g6 (S' := (22, [(1, .inl (nI i)), (0, .inr (.inr (some m)))], [], h, c, n)) ?_ am_go.rf
    simp only [ai_icmp_ge]
    rw [hNN, if_pos (nI_le (Nat.le_refl i) hN)]
  | succ r ih =>
    intro i xs h hi hm hx hq
    have hlt : i < N := by omega
    have hi31 : i < 2 ^ 31 := Nat.lt_trans hlt hN
    have hla := am_len_of hx
    obtain ⟨xs', q1, q2⟩ := ih (i + 1) (am_up d xs i v) (h.set a (.inl (.inl (L, d, am_up d xs i v)))) (by omega) (by rw [List.getElem?_set_ne hma]; exact hm) (by rw [List.getElem?_set_self hla]) (fun q hq9 => by
      rw [am_up_get]
      by_cases e : q = i
      · rw [if_pos e]
      · rw [if_neg e]
        exact hq q (by omega))
    refine ⟨xs', ⟨q1.1, fun q hq9 => by rw [q1.2 q hq9, am_up_get, if_neg (by omega)]⟩, ?_⟩
    rw [List.set_set] at q2
    refine am_go.st _ rfl g2 rfl ?_
    refine am_go.st _ rfl g3 rfl ?_
    refine am_go.st _ rfl g6 (S' := (9, [(1, .inl (nI i)), (0, .inr (.inr (some m)))], [], h, c, n)) ?_ ?_
    · simp only [ai_icmp_ge]
      rw [hNN, if_neg (nI_ge hlt hN)]
    refine am_go.st _ rfl g9 rfl ?_
    refine am_go.st _ rfl g10 (am_get_eq hm hf) ?_
    refine am_go.st _ rfl g13 rfl ?_
    refine am_go.st _ rfl g14 rfl ?_
    refine am_go.st _ rfl g15 (am_iast_eq ha hx (nI_pos hi31) (by rw [nI_clamp hi31]; exact Nat.lt_of_lt_of_le hlt hL)) ?_
    rw [nI_clamp hi31]
    refine am_go.st _ rfl g16 (S' := (19, [(1, .inl (nI i + 1)), (0, .inr (.inr (some m)))], [], h.set a (.inl (.inl (L, d, am_up d xs i v))), c, n)) rfl ?_
    refine am_go.st _ rfl g19 (S' := (2, [(1, .inl (nI i + 1)), (0, .inr (.inr (some m)))], [], h.set a (.inl (.inl (L, d, am_up d xs i v))), c, n)) rfl ?_
    rw [nI_1]
    exact q2
/-- a row whose first N places are v -/
def am_fl (N : Nat) (v : Int32) (xs : Nat × Int32 × List Int32) : Nat × Int32 × List Int32 := if xs.1 = N then (N, v, []) else (xs.1, xs.2.1, List.replicate N v ++ xs.2.2.drop N)
theorem am_fl_sim {N L : Nat} {d v : Int32} {xs xs' : List Int32} (h1 : ∀ q, q < N → xs'.getD q d = v) (h2 : ∀ q, N ≤ q → xs'.getD q d = xs.getD q d) : am_sim (L, d, xs') (am_fl N v (L, d, xs)) := by
  unfold am_fl
  by_cases e : L = N
  · rw [if_pos e]
    subst e
    exact am_sim_fill h1
  · rw [if_neg e]
    refine ⟨rfl, fun j hj => ?_⟩
    show xs'.getD j d = (List.replicate N v ++ xs.drop N).getD j d
    by_cases hjn : j < N
    · rw [h1 j hjn, List.getD, List.getElem?_append_left (by rw [List.length_replicate]; exact hjn), List.getElem?_replicate, if_pos hjn]
      rfl
    · rw [h2 j (Nat.le_of_not_lt hjn), List.getD, List.getD, List.getElem?_append_right (by rw [List.length_replicate]; exact Nat.le_of_not_lt hjn), List.length_replicate, List.getElem?_drop, Nat.add_sub_cancel' (Nat.le_of_not_lt hjn)]
def ai_fillM (k0 N : Nat) (v : Int32) : am_s → Option am_s := fun S => match S with
  | (_, [(1, .inl x), (0, .inr (.inr (some m)))], [], h, c, n) => (match h[m]? with
    | some (.inr (10, fs)) => (match fs[k0]? with
      | some (.inr (.inr (some a))) => (match h[a]? with
        | some (.inl (.inl xs)) => if x = 0 ∧ a ≠ 0 ∧ N ≤ xs.1 then some (22, [(1, .inl (nI N)), (0, .inr (.inr (some m)))], [], h.set a (.inl (.inl (am_fl N v xs))), c, n) else none
        | _ => none)
      | _ => none)
    | _ => none)
  | _ => none
theorem am_fillM_ok {cl : List vw_C} {Y : am_y} {Z : am_z} {k0 N : Nat} {v NN : Int32} (hG : am_GJ cl Y Z J X G) (hN : N < 2 ^ 31) (hNN : NN = nI N) (g2 : G j 2 = some (.inl (ai_iload 1 1))) (g3 : G j 3 = some (.inl (ai_push 3 (.inl NN)))) (g6 : G j 6 = some (.inl (ai_icmp_ge 22))) (g9 : G j 9 = some (.inl (ai_aload 1 0))) (g10 : G j 10 = some (.inl (ai_get 10 k0))) (g13 : G j 13 = some (.inl (ai_iload 1 1))) (g14 : G j 14 = some (.inl (ai_push 1 (.inl v)))) (g15 : G j 15 = some (.inl ai_iast)) (g16 : G j 16 = some (.inl (ai_iinc 1 1))) (g19 : G j 19 = some (.inl (ai_goto 2))) : am_St cl Y Z (J j) 2 (ai_fillM k0 N v) := by
  refine am_fuse hG (fun S S' hpc hf => ?_)
  unfold ai_fillM at hf
  split at hf <;> first | (cases hf; done) | skip
  rename_i pc x m h c n
  split at hf <;> first | (cases hf; done) | skip
  rename_i fs hm
  split at hf <;> first | (cases hf; done) | skip
  rename_i a ha
  split at hf <;> first | (cases hf; done) | skip
  rename_i xs hx
  split at hf <;> first | (cases hf; done) | skip
  rename_i hc
  obtain ⟨rfl, ha0, hN9⟩ := hc
  obtain ⟨x1, d, xs⟩ := xs
  have hN9 : N ≤ x1 := hN9
  have hpc : pc = 2 := hpc
  subst hpc
  cases hf
  have hne : a ≠ m := fun e => by
    subst e
    rw [hm] at hx
    cases hx
  obtain ⟨xs', q1, q2⟩ := am_loopM (J := J) (X := X) (run := fun _ _ _ => none) (c := c) (n := n) (d := d) hN hN9 hNN g2 g3 g6 g9 g10 g13 g14 g15 g16 g19 ha ha0 hne N 0 xs h (Nat.zero_add _) hm hx (fun q h9 => absurd h9 (Nat.not_lt_zero q))
  obtain ⟨k, hk⟩ := q2.stop rfl
  refine ⟨22, k, a, (x1, d, xs'), am_fl N v (x1, d, xs), _, hk, ha0, ?_, am_fl_sim q1.1 q1.2, ?_⟩
  · exact List.getElem?_set_self (am_len_of hx)
  · show _ = (22, _, _, (h.set a _).set a _, c, n)
    rw [List.set_set]
/-- Row.fill's loop -/
theorem am_loopR {N : Nat} {nn v : Int32} (hN : N < 2 ^ 31) (hnn : nI N ≤ nn) (g7 : G j 7 = some (.inl (ai_iload 1 3))) (g8 : G j 8 = some (.inl (ai_iload 1 1))) (g9 : G j 9 = some (.inl (ai_icmp_ge 41))) (g12 : G j 12 = some (.inl (ai_iload 1 3))) (g13 : G j 13 = some (.inl (ai_aload 1 0))) (g14 : G j 14 = some (.inl (ai_get 3 1))) (g17 : G j 17 = some (.inl ai_alen)) (g18 : G j 18 = some (.inl (ai_icmp_ge 41))) (g21 : G j 21 = some (.inl (ai_aload 1 0))) (g22 : G j 22 = some (.inl (ai_get 3 1))) (g25 : G j 25 = some (.inl (ai_iload 1 3))) (g26 : G j 26 = some (.inl (ai_iload 1 2))) (g27 : G j 27 = some (.inl ai_iast)) (g28 : G j 28 = some (.inl (ai_aload 1 0))) (g29 : G j 29 = some (.inl (ai_iload 1 3))) (g30 : G j 30 = some (.inl (ai_push 1 (.inl 1)))) (g31 : G j 31 = some (.inl (ai_bin 1 (fun x y => x + y)))) (g32 : G j 32 = some (.inl (ai_put 3 2 am_okI))) (g35 : G j 35 = some (.inl (ai_iinc 3 1))) (g38 : G j 38 = some (.inl (ai_goto 7))) {m a c n : Nat} {mo : am_v} {d : Int32} (ha : a ≠ 0) (hma : a ≠ m) :
    ∀ (r i : Nat) (xs : List Int32) (h : am_h), i + r = N → h[m]? = some (.inr (3, [mo, .inr (.inr (some a)), .inl (nI i)])) → h[a]? = some (.inl (.inl (N, d, xs))) → (∀ q, q < i → xs.getD q d = v) → ∃ xs' : List Int32, (∀ q, q < N → xs'.getD q d = v) ∧ am_go J X G run j (some 41) (7, [(3, .inl (nI i)), (0, .inr (.inr (some m))), (1, .inl nn), (2, .inl v)], [], h, c, n) (41, [(3, .inl (nI N)), (0, .inr (.inr (some m))), (1, .inl nn), (2, .inl v)], [], (h.set a (.inl (.inl (N, d, xs')))).set m (.inr (3, [mo, .inr (.inr (some a)), .inl (nI N)])), c, n) := by
  intro r
  induction r with
  | zero =>
    intro i xs h hi hm hx hq
    have e : i = N := hi
    subst e
    refine ⟨xs, hq, ?_⟩
    rw [am_set_self hx, am_set_self hm]
    refine am_go.st _ rfl g7 rfl ?_
    refine am_go.st _ rfl g8 rfl ?_
    by_cases hc : nn ≤ nI i
    · refine am_go.st _ rfl g9 (S' := (41, [(3, .inl (nI i)), (0, .inr (.inr (some m))), (1, .inl nn), (2, .inl v)], [], h, c, n)) ?_ am_go.rf
      simp only [ai_icmp_ge]
      rw [if_pos hc]
    · refine am_go.st _ rfl g9 (S' := (12, [(3, .inl (nI i)), (0, .inr (.inr (some m))), (1, .inl nn), (2, .inl v)], [], h, c, n)) ?_ ?_
      · simp only [ai_icmp_ge]
        rw [if_neg hc]
      refine am_go.st _ rfl g12 rfl ?_
      refine am_go.st _ rfl g13 rfl ?_
      refine am_go.st _ rfl g14 (am_get_eq hm rfl) ?_
      refine am_go.st _ rfl g17 (am_alen_eq ha hx) ?_
      refine am_go.st _ rfl g18 (S' := (41, [(3, .inl (nI i)), (0, .inr (.inr (some m))), (1, .inl nn), (2, .inl v)], [], h, c, n)) ?_ am_go.rf
      simp only [ai_icmp_ge]
      rw [if_pos (show Int32.ofNat i ≤ nI i from nI_le (Nat.le_refl i) hN)]
  | succ r ih =>
    intro i xs h hi hm hx hq
    have hlt : i < N := by omega
    have hi31 : i < 2 ^ 31 := Nat.lt_trans hlt hN
    have hla := am_len_of hx
    have hlm := am_len_of hm
    have hma2 : m ≠ a := fun e => hma e.symm
    have hn9 : ¬ nn ≤ nI i := fun z => nI_ge hlt hN (Int32.le_trans hnn z)
    have hh1 : (h.set a (.inl (.inl (N, d, am_up d xs i v))))[m]? = some (.inr (3, [mo, .inr (.inr (some a)), .inl (nI i)])) := by rw [List.getElem?_set_ne hma]; exact hm
    obtain ⟨xs', q1, q2⟩ := ih (i + 1) (am_up d xs i v) ((h.set a (.inl (.inl (N, d, am_up d xs i v)))).set m (.inr (3, [mo, .inr (.inr (some a)), .inl (nI (i + 1))]))) (by omega) (by rw [List.getElem?_set_self (by rw [List.length_set]; exact hlm)]) (by rw [List.getElem?_set_ne hma2, List.getElem?_set_self hla]) (fun q hq9 => by
      rw [am_up_get]
      by_cases e : q = i
      · rw [if_pos e]
      · rw [if_neg e]
        exact hq q (by omega))
    refine ⟨xs', q1, ?_⟩
    rw [List.set_comm _ _ hma2, List.set_set, List.set_set] at q2
    refine am_go.st _ rfl g7 rfl ?_
    refine am_go.st _ rfl g8 rfl ?_
    refine am_go.st _ rfl g9 (S' := (12, [(3, .inl (nI i)), (0, .inr (.inr (some m))), (1, .inl nn), (2, .inl v)], [], h, c, n)) ?_ ?_
    · simp only [ai_icmp_ge]
      rw [if_neg hn9]
    refine am_go.st _ rfl g12 rfl ?_
    refine am_go.st _ rfl g13 rfl ?_
    refine am_go.st _ rfl g14 (am_get_eq hm rfl) ?_
    refine am_go.st _ rfl g17 (am_alen_eq ha hx) ?_
    refine am_go.st _ rfl g18 (S' := (21, [(3, .inl (nI i)), (0, .inr (.inr (some m))), (1, .inl nn), (2, .inl v)], [], h, c, n)) ?_ ?_
    · simp only [ai_icmp_ge]
      rw [if_neg (show ¬ Int32.ofNat N ≤ nI i from nI_ge hlt hN)]
    refine am_go.st _ rfl g21 rfl ?_
    refine am_go.st _ rfl g22 (am_get_eq hm rfl) ?_
    refine am_go.st _ rfl g25 rfl ?_
    refine am_go.st _ rfl g26 rfl ?_
    refine am_go.st _ rfl g27 (am_iast_eq ha hx (nI_pos hi31) (by rw [nI_clamp hi31]; exact hlt)) ?_
    rw [nI_clamp hi31]
    refine am_go.st _ rfl g28 rfl ?_
    refine am_go.st _ rfl g29 rfl ?_
    refine am_go.st _ rfl g30 rfl ?_
    refine am_go.st _ rfl g31 rfl ?_
    refine am_go.st _ rfl g32 (am_put_eq hh1 rfl (by show 2 < 3; omega)) ?_
    refine am_go.st _ rfl g35 (S' := (38, [(3, .inl (nI i + 1)), (0, .inr (.inr (some m))), (1, .inl nn), (2, .inl v)], [], (h.set a (.inl (.inl (N, d, am_up d xs i v)))).set m (.inr (3, [mo, .inr (.inr (some a)), .inl (nI i + 1)])), c, n)) rfl ?_
    refine am_go.st _ rfl g38 (S' := (7, [(3, .inl (nI i + 1)), (0, .inr (.inr (some m))), (1, .inl nn), (2, .inl v)], [], (h.set a (.inl (.inl (N, d, am_up d xs i v)))).set m (.inr (3, [mo, .inr (.inr (some a)), .inl (nI i + 1)])), c, n)) rfl ?_
    rw [nI_1]
    exact q2
def ai_fillR : am_s → Option am_s := fun S => match S with
  | (_, [(3, .inl x), (0, .inr (.inr (some m))), (1, .inl nn), (2, .inl v)], [], h, c, n) => (match h[m]? with
    | some (.inr (3, [mo, .inr (.inr (some a)), .inl z])) => (match h[a]? with
        | some (.inl (.inl xs)) => if x = 0 ∧ z = 0 ∧ a ≠ 0 ∧ xs.1 < 2147483648 ∧ nI xs.1 ≤ nn then some (41, [(3, .inl (nI xs.1)), (0, .inr (.inr (some m))), (1, .inl nn), (2, .inl v)], [], (h.set a (.inl (.inl (xs.1, v, [])))).set m (.inr (3, [mo, .inr (.inr (some a)), .inl (nI xs.1)])), c, n) else none
        | _ => none)
    | _ => none)
  | _ => none
theorem am_fillR_ok {cl : List vw_C} {Y : am_y} {Z : am_z} (hG : am_GJ cl Y Z J X G) (g7 : G j 7 = some (.inl (ai_iload 1 3))) (g8 : G j 8 = some (.inl (ai_iload 1 1))) (g9 : G j 9 = some (.inl (ai_icmp_ge 41))) (g12 : G j 12 = some (.inl (ai_iload 1 3))) (g13 : G j 13 = some (.inl (ai_aload 1 0))) (g14 : G j 14 = some (.inl (ai_get 3 1))) (g17 : G j 17 = some (.inl ai_alen)) (g18 : G j 18 = some (.inl (ai_icmp_ge 41))) (g21 : G j 21 = some (.inl (ai_aload 1 0))) (g22 : G j 22 = some (.inl (ai_get 3 1))) (g25 : G j 25 = some (.inl (ai_iload 1 3))) (g26 : G j 26 = some (.inl (ai_iload 1 2))) (g27 : G j 27 = some (.inl ai_iast)) (g28 : G j 28 = some (.inl (ai_aload 1 0))) (g29 : G j 29 = some (.inl (ai_iload 1 3))) (g30 : G j 30 = some (.inl (ai_push 1 (.inl 1)))) (g31 : G j 31 = some (.inl (ai_bin 1 (fun x y => x + y)))) (g32 : G j 32 = some (.inl (ai_put 3 2 am_okI))) (g35 : G j 35 = some (.inl (ai_iinc 3 1))) (g38 : G j 38 = some (.inl (ai_goto 7))) : am_St cl Y Z (J j) 7 ai_fillR := by
  refine am_fuse hG (fun S S' hpc hf => ?_)
  unfold ai_fillR at hf
  split at hf <;> first | (cases hf; done) | skip
  rename_i pc x m nn v h c n
  split at hf <;> first | (cases hf; done) | skip
  rename_i mo a z hm
  split at hf <;> first | (cases hf; done) | skip
  rename_i xs hx
  split at hf <;> first | (cases hf; done) | skip
  rename_i hc
  obtain ⟨rfl, rfl, ha0, hN, hnn⟩ := hc
  obtain ⟨x1, d, xs⟩ := xs
  have hpc : pc = 7 := hpc
  subst hpc
  cases hf
  have hne : a ≠ m := fun e => by
    subst e
    rw [hm] at hx
    cases hx
  have hne2 : m ≠ a := fun e => hne e.symm
  obtain ⟨xs', q1, q2⟩ := am_loopR (J := J) (X := X) (run := fun _ _ _ => none) (c := c) (n := n) (d := d) (v := v) (nn := nn) (N := x1) hN hnn g7 g8 g9 g12 g13 g14 g17 g18 g21 g22 g25 g26 g27 g28 g29 g30 g31 g32 g35 g38 ha0 hne x1 0 xs h (Nat.zero_add _) hm hx (fun q h9 => absurd h9 (Nat.not_lt_zero q))
  obtain ⟨k, hk⟩ := q2.stop rfl
  refine ⟨41, k, a, (x1, d, xs'), (x1, v, []), _, hk, ha0, ?_, am_sim_fill q1, ?_⟩
  · show ((h.set a _).set m _)[a]? = _
    rw [List.getElem?_set_ne hne2]
    exact List.getElem?_set_self (am_len_of hx)
  · show _ = (41, _, _, ((h.set a _).set m _).set a _, c, n)
    rw [List.set_comm _ _ hne2, List.set_set]
end AMP
