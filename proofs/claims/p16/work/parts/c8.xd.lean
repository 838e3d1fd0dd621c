/-! THE CLASS's fields and rows against the machine's state -/
def fF9 (F F' : rf_f) : Prop := ∀ n : Nat, (n < 406 ∨ 411 < n) → (n < 1501 ∨ 1503 < n) → F' n = F n
def fA9 (A A' : xl_A) : Prop := ∀ k : Nat, k ≠ 5 → k ≠ 7 → k ≠ 9 → k ≠ 11 → A' k = A k
def CLq (T : List Int) (F : rf_f) (A : xl_A) (st : Nat) (e : Int) (c : List Int) (ch n : Nat) (ns nw ar : List (List Int)) (op : List (Nat × Nat × Nat)) (na : Nat) (nv : List Int) : Prop :=
  (A 2 = T ∧ (T.length : Int) ≤ 700) ∧
  (F 406 = (st : Int) ∧ F 408 = (n : Int) ∧ F 410 = (ns.length : Int) ∧ F 411 = (na : Int)) ∧
  (st ≤ 4 ∧ na ≤ 1 ∧ ns.length + na ≤ 12 ∧ ar.length ≤ 30 ∧ op.length ≤ 12 ∧ (n : Int) ≤ e ∧ (∀ o, o ∈ op → (o.2.1 : Int) ≤ e) ∧ ((A 5).length : Int) ≤ 2 * e ∧ (A 7).length = 5 * ns.length + 5 * na) ∧
  ARD T (A 9) ar ∧
  ∃ cs hc : Nat, (F 409 = (cs : Int) ∧ cs ≤ (A 5).length) ∧ CDD ns ((A 5).drop cs) cs hc c ch n (F 407) op (A 11) ∧ NMD T (A 7) (A 5) cs ns nw ∧ (na = 1 → NVD T (A 7) ns.length nv cs) ∧ (st = 0 → (A 5).drop cs = [] ∧ na = 0) ∧ (st = 4 → (A 5).drop cs ≠ [])
abbrev CLr (T : List Int) (F : rf_f) (A : xl_A) (s : mS) : Prop := CLq T F A (m_st s) (m_e s) (m_c s) (m_ch s) (m_at s) (m_ns s) (m_nw s) (m_ar s) (m_op s) (m_na s) (m_nv s)
section CLS
variable {T c nv : List Int} {F F' F'' : rf_f} {A A' A'' : xl_A} {st ch n na k i : Nat} {e e' a b v x : Int} {ns nw ar : List (List Int)} {op : List (Nat × Nat × Nat)} {s : mS}
theorem fF9.rf : fF9 F F := fun _ _ _ => rfl
theorem fF9.tr (h : fF9 F F') (h2 : fF9 F' F'') : fF9 F F'' := fun n a b => (h2 n a b).trans (h n a b)
theorem fF9.up (h : fF9 F F') (hk : (406 ≤ k ∧ k ≤ 411) ∨ (1501 ≤ k ∧ k ≤ 1503)) : fF9 F (up1 F' k v) := fun n h1 h2 => (up1_ne (by omega)).trans (h n h1 h2)
theorem fA9.rf : fA9 A A := fun _ _ _ _ _ => rfl
theorem fA9.tr (h : fA9 A A') (h2 : fA9 A' A'') : fA9 A A'' := fun n a b c d => (h2 n a b c d).trans (h n a b c d)
theorem fA9.up {l : List Int} (h : fA9 A A') (hk : k = 5 ∨ k = 7 ∨ k = 9 ∨ k = 11) : fA9 A (upl A' k l) := fun n a b c d => (upl_ne (by omega)).trans (h n a b c d)
theorem addl_ne (hj : k ≠ i) : addl i A v k = A k := by
  unfold addl
  split
  · exact upl_ne hj
  · rfl
theorem addl_eq (h : ((A i).length : Int) < (ob_mo i).toInt) : addl i A v i = A i ++ [v] := by
  unfold addl
  rw [if_pos h, upl_eq]
theorem fA9.add (h : fA9 A A') (hk : k = 5 ∨ k = 7 ∨ k = 9 ∨ k = 11) : fA9 A (addl k A' v) := fun n a b c d => (addl_ne (by omega)).trans (h n a b c d)
theorem fA9.ins {q : Int} (h : fA9 A A') (hk : k = 5 ∨ k = 7 ∨ k = 9 ∨ k = 11) : fA9 A (insl k A' q v) := by
  unfold insl
  split
  · exact h.up hk
  · exact h
theorem mo5 : (ob_mo 5).toInt = 1402 := by decide
theorem mo7 : (ob_mo 7).toInt = 65 := by decide
theorem mo9 : (ob_mo 9).toInt = 62 := by decide
theorem mo11 : (ob_mo 11).toInt = 36 := by decide
theorem drop_s {C X : List Int} {m : Nat} (h : m ≤ C.length) : (C ++ X).drop m = C.drop m ++ X := List.drop_append_of_le_length h
theorem take_s {C X : List Int} {m : Nat} (h : m ≤ C.length) : (C ++ X).take m = C.take m := List.take_append_of_le_length h
theorem ne_s {X : List Int} {y : Int} : X ++ [y] ≠ [] := fun z => by
  have := congrArg List.length z
  rw [List.length_append] at this
  exact absurd this (by show X.length + 1 ≠ 0; omega)
/-- another place in the grammar alone -/
theorem CLq.go (h : CLq T F A st e c ch n ns nw ar op na nv) (hk : k ≠ 0 ∧ k < 4) (he : e ≤ e') (f6 : F' 406 = (k : Int)) (f7 : F' 407 = F 407) (f8 : F' 408 = F 408) (f9 : F' 409 = F 409) (f10 : F' 410 = F 410) (f11 : F' 411 = F 411) : CLq T F' A k e' c ch n ns nw ar op na nv := by
  obtain ⟨h1, ⟨q6, q8, q10, q11⟩, ⟨k0, k1, k2, k3, k4, k5, k6, k7, k8⟩, k9, cs, hc, ⟨m1, m2⟩, m3, m4, m5, m6, m7⟩ := h
  unfold CLq
  rw [f7, f8, f9, f10, f11]
  exact ⟨h1, ⟨f6, q8, q10, q11⟩, ⟨by omega, k1, k2, k3, k4, Int.le_trans k5 he, fun o ho => Int.le_trans (k6 o ho) he, by omega, k8⟩, k9, cs, hc, ⟨m1, m2⟩, m3, m4, m5, fun z => absurd z hk.1, fun z => absurd z (by omega)⟩
/-- only the tokens move -/
theorem CLq.cg (h : CLq T F A st e c ch n ns nw ar op na nv) (f6 : F' 406 = F 406) (f7 : F' 407 = F 407) (f8 : F' 408 = F 408) (f9 : F' 409 = F 409) (f10 : F' 410 = F 410) (f11 : F' 411 = F 411) : CLq T F' A st e c ch n ns nw ar op na nv := by
  unfold CLq
  rw [f6, f7, f8, f9, f10, f11]
  exact h
/-- a function's name -/
theorem CLq.fn (h : CLq T F A st e c ch n ns nw ar op na nv) (har : ar.length < 30) (he : e + 1 ≤ e') (hb : 0 ≤ a ∧ a ≤ b ∧ b ≤ (T.length : Int)) (f6 : F' 406 = 3) (f7 : F' 407 = F 407) (f8 : F' 408 = F 408) (f9 : F' 409 = F 409) (f10 : F' 410 = F 410) (f11 : F' 411 = F 411) (a2 : A' 2 = A 2) (a5 : A' 5 = A 5 ++ [1]) (a7 : A' 7 = A 7) (a9 : A' 9 = A 9 ++ [a, b]) (a11 : A' 11 = A 11) : CLq T F' A' 3 e' (c ++ [1]) ch n ns nw (ar ++ [slw T a b]) op na nv := by
  obtain ⟨h1, ⟨q6, q8, q10, q11⟩, ⟨k0, k1, k2, k3, k4, k5, k6, k7, k8⟩, k9, cs, hc, ⟨m1, m2⟩, m3, m4, m5, m6, m7⟩ := h
  obtain ⟨q, g3⟩ := m3.part (x := 1) (by omega)
  rw [xev_p (by decide)] at g3
  unfold CLq
  rw [f7, f8, f9, f10, f11, a2, a5, a7, a9, a11]
  refine ⟨h1, ⟨f6, q8, q10, q11⟩, ⟨by decide, k1, k2, ?_, k4, by omega, fun o ho => ?_, ?_, k8⟩, k9.add hb, cs, q, ⟨m1, ?_⟩, by rw [drop_s m2]; exact g3, m4.cg (take_s m2), m5, fun z => absurd z (by decide), fun z => absurd z (by decide)⟩
  · rw [List.length_append]
    show ar.length + 1 ≤ 30
    omega
  · have := k6 o ho
    omega
  · rw [List.length_append]
    show (((A 5).length + 1 : Nat) : Int) ≤ 2 * e'
    omega
  · rw [List.length_append]
    omega
/-- an atom of one entry; F and A are those behind beginAtom() -/
def BAq (T : List Int) (F F' : rf_f) (A A' : xl_A) (c : List Int) (ch n : Nat) (ns nw : List (List Int)) (op : List (Nat × Nat × Nat)) (na : Nat) (nv : List Int) : Prop := (F' 406 = F 406 ∧ F' 409 = F 409 ∧ F' 410 = F 410 ∧ F' 411 = F 411 ∧ F' 1501 = F 1501 ∧ F' 1502 = F 1502 ∧ F' 1503 = F 1503 ∧ F' 408 = ((n + 1 : Nat) : Int)) ∧ (A' 2 = A 2 ∧ A' 7 = A 7 ∧ A' 9 = A 9 ∧ A' 11 = A 11 ∧ (A' 5).length ≤ (A 5).length + 1) ∧ ∃ cs hc : Nat, (F 409 = (cs : Int) ∧ cs ≤ (A' 5).length ∧ F' 407 = ((cs + hc : Nat) : Int)) ∧ CBD ns ((A' 5).drop cs) cs hc (ba c ch n) (bc c ch n) op (A 11) ∧ NMD T (A 7) (A' 5) cs ns nw ∧ (na = 1 → NVD T (A 7) ns.length nv cs)
theorem CLq.bgn9 (h : CLq T F A st e c ch n ns nw ar op na nv) (he : e ≤ (T.length : Int)) : BAq T F (p_X6_beginAtom F A).2.1 A (p_X6_beginAtom F A).2.2 c ch n ns nw op na nv := by
  obtain ⟨h1, ⟨q6, q8, q10, q11⟩, ⟨k0, k1, k2, k3, k4, k5, k6, k7, k8⟩, k9, cs, hc, ⟨m1, m2⟩, m3, m4, m5, m6, m7⟩ := h
  have hb : bm (F 408 + 1) = ((n + 1 : Nat) : Int) := by
    rw [bm_id (by omega) (by omega)]
    omega
  have g := m3.bgn
  by_cases z : n = 0
  · have e1 : p_X6_beginAtom F A = (0, up1 (up1 F 407 (((A 5).length : Nat) : Int)) 408 (bm (F 408 + 1)), A) := if_pos (by omega)
    rw [e1]
    have e2 : bD ((A 5).drop cs) hc n = (A 5).drop cs := if_pos z
    have e3 := m3.2.2.2.1 z
    rw [List.length_drop] at e3
    rw [e2] at g
    exact ⟨⟨rfl, rfl, rfl, rfl, rfl, rfl, rfl, hb⟩, ⟨rfl, rfl, rfl, rfl, Nat.le_succ _⟩, cs, hc, ⟨m1, m2, by show (((A 5).length : Nat) : Int) = _; omega⟩, g, m4, m5⟩
  · have e1 : p_X6_beginAtom F A = (0, up1 F 408 (bm (F 408 + 1)), insl 5 A (F 407) 0) := if_neg (by omega)
    have e3 := (m3.2.2.2.2.1 z).1
    have e4 := m3.1
    rw [List.length_drop] at e4
    have e5 : insl 5 A (F 407) 0 = upl A 5 ((A 5).take (cs + hc) ++ 0 :: (A 5).drop (cs + hc)) := by
      unfold insl il
      rw [if_pos (by rw [mo5]; omega), e3]
      rfl
    have e6 : ((A 5).take (cs + hc)).length = cs + hc := by rw [List.length_take]; omega
    have e7 : ((A 5).take (cs + hc) ++ 0 :: (A 5).drop (cs + hc)).drop cs = bD ((A 5).drop cs) hc n := by
      unfold bD
      rw [if_neg z, List.drop_append_of_le_length (by omega), List.drop_take, List.drop_drop, show cs + hc - cs = hc by omega]
    have e8 : ((A 5).take (cs + hc) ++ 0 :: (A 5).drop (cs + hc)).take cs = (A 5).take cs := by
      rw [List.take_append_of_le_length (by omega), List.take_take, Nat.min_eq_left (by omega)]
    have e9 : ((A 5).take (cs + hc) ++ 0 :: (A 5).drop (cs + hc)).length = (A 5).length + 1 := by
      rw [List.length_append, e6, List.length_cons, List.length_drop]
      omega
    obtain ⟨Y, hY⟩ : ∃ Y : List Int, Y = (A 5).take (cs + hc) ++ 0 :: (A 5).drop (cs + hc) := ⟨_, rfl⟩
    rw [← hY] at e5 e7 e8 e9
    have e10 : upl A 5 Y 5 = Y := upl_eq
    rw [e1, e5]
    refine ⟨⟨rfl, rfl, rfl, rfl, rfl, rfl, rfl, hb⟩, ⟨rfl, rfl, rfl, rfl, ?_⟩, cs, hc, ⟨m1, ?_, e3⟩, ?_, ?_, m5⟩
    · show (upl A 5 Y 5).length ≤ (A 5).length + 1
      rw [e10, e9]
      exact Nat.le_refl _
    · show cs ≤ (upl A 5 Y 5).length
      rw [e10, e9]
      omega
    · show CBD ns ((upl A 5 Y 5).drop cs) cs hc (ba c ch n) (bc c ch n) op (A 11)
      rw [e10, e7]
      exact g
    · show NMD T (A 7) (upl A 5 Y 5) cs ns nw
      rw [e10]
      exact m4.cg e8
theorem CLq.atom (h : CLq T F A st e c ch n ns nw ar op na nv) (hB : BAq T F F'' A A'' c ch n ns nw op na nv) (he : e + 1 ≤ e') (hx : -11 - (ns.length : Int) < x) (f6 : F' 406 = 4) (f7 : F' 407 = F'' 407) (f8 : F' 408 = F'' 408) (f9 : F' 409 = F'' 409) (f10 : F' 410 = F'' 410) (f11 : F' 411 = F'' 411) (a2 : A' 2 = A'' 2) (a5 : A' 5 = A'' 5 ++ [x]) (a7 : A' 7 = A'' 7) (a9 : A' 9 = A'' 9) (a11 : A' 11 = A'' 11) : CLq T F' A' 4 e' (ba c ch n ++ xev ns x) (bc c ch n) (n + 1) ns nw ar op na nv := by
  obtain ⟨h1, ⟨q6, q8, q10, q11⟩, ⟨k0, k1, k2, k3, k4, k5, k6, k7, k8⟩, k9, -⟩ := h
  obtain ⟨⟨b1, b2, b3, b4, -, -, -, b5⟩, ⟨c1, c2, c3, c4, c5⟩, cs, hc, ⟨d1, d2, d3⟩, d4, d5, d6⟩ := hB
  unfold CLq
  rw [f7, f8, f9, f10, f11, a2, a5, a7, a9, a11, b2, b3, b4, c1, c2, c3, c4]
  refine ⟨h1, ⟨f6, b5, q10, q11⟩, ⟨by decide, k1, k2, k3, k4, by omega, fun o ho => ?_, ?_, k8⟩, k9, cs, hc, ⟨d1, ?_⟩, ?_, d5.cg (take_s d2), d6, fun z => absurd z (by decide), fun _ => by rw [drop_s d2]; exact ne_s⟩
  · have := k6 o ho
    omega
  · rw [List.length_append]
    show (((A'' 5).length + 1 : Nat) : Int) ≤ 2 * e'
    omega
  · rw [List.length_append]
    omega
  · rw [drop_s d2, d3]
    exact d4.add hx (by omega)
/-- a parenthesis is opened -/
theorem CLq.opn (h : CLq T F A st e c ch n ns nw ar op na nv) (hB : BAq T F F'' A A'' c ch n ns nw op na nv) (he : e + 1 ≤ e') (hop : op.length < 12) (f6 : F' 406 = 1) (f8 : F' 408 = 0) (f9 : F' 409 = F'' 409) (f10 : F' 410 = F'' 410) (f11 : F' 411 = F'' 411) (a2 : A' 2 = A'' 2) (a5 : A' 5 = A'' 5) (a7 : A' 7 = A'' 7) (a9 : A' 9 = A'' 9) (a11 : A' 11 = ((A'' 11 ++ [F'' 407]) ++ [F'' 408]) ++ [((A'' 9).length : Int)]) : CLq T F' A' 1 e' (ba c ch n) ch 0 ns nw ar ((bc c ch n, n + 1, ar.length) :: op) na nv := by
  obtain ⟨h1, ⟨q6, q8, q10, q11⟩, ⟨k0, k1, k2, k3, k4, k5, k6, k7, k8⟩, k9, -⟩ := h
  obtain ⟨⟨b1, b2, b3, b4, -, -, -, b5⟩, ⟨c1, c2, c3, c4, c5⟩, cs, hc, ⟨d1, d2, d3⟩, d4, d5, d6⟩ := hB
  unfold CLq
  rw [f8, f9, f10, f11, a2, a5, a7, a9, a11, b2, b3, b4, c1, c2, c3, c4, d3, b5]
  have e9 : (((A 9).length : Nat) : Int) = 2 * (ar.length : Int) := by
    have := k9.1
    omega
  refine ⟨h1, ⟨f6, rfl, q10, q11⟩, ⟨by decide, k1, k2, k3, ?_, by omega, fun o ho => ?_, by omega, k8⟩, k9, cs, _, ⟨d1, d2⟩, by rw [e9]; exact d4.opn, d5, d6, fun z => absurd z (by decide), fun z => absurd z (by decide)⟩
  · show op.length + 1 ≤ 12
    omega
  · rcases List.mem_cons.mp ho with z | z
    · rw [z]
      show ((n + 1 : Nat) : Int) ≤ e'
      omega
    · have := k6 o z
      omega
/-- a parenthesis is closed -/
theorem CLq.clo {o : Nat × Nat × Nat} (h : CLq T F A 4 e c ch n ns nw ar (o :: op) na nv) (he : e ≤ e') : ∃ (O' : List Int) (q : Nat), A 11 = ((O' ++ [((q : Nat) : Int)]) ++ [(o.2.1 : Int)]) ++ [2 * (o.2.2 : Int)] ∧ ∀ (F' : rf_f) (A' : xl_A), F' 406 = F 406 → F' 407 = (q : Int) → F' 408 = (o.2.1 : Int) → F' 409 = F 409 → F' 410 = F 410 → F' 411 = F 411 → A' 2 = A 2 → A' 5 = A 5 → A' 7 = A 7 → A' 9 = (A 9).take (2 * o.2.2) → A' 11 = O' → CLq T F' A' 4 e' c o.1 o.2.1 ns nw (ar.take o.2.2) op na nv := by
  obtain ⟨h1, ⟨q6, q8, q10, q11⟩, ⟨k0, k1, k2, k3, k4, k5, k6, k7, k8⟩, k9, cs, hc, ⟨m1, m2⟩, m3, m4, m5, m6, m7⟩ := h
  obtain ⟨O', q, e1, g3⟩ := m3.clo
  refine ⟨O', cs + q, e1, fun F' A' f6 f7 f8 f9 f10 f11 a2 a5 a7 a9 a11 => ?_⟩
  unfold CLq
  rw [f6, f7, f8, f9, f10, f11, a2, a5, a7, a9, a11]
  have k4 : op.length + 1 ≤ 12 := k4
  have ho := k6 o (List.mem_cons.mpr (Or.inl rfl))
  exact ⟨h1, ⟨q6, rfl, q10, q11⟩, ⟨k0, k1, k2, by rw [List.length_take]; omega, by omega, by omega, fun p hp => by have := k6 p (List.mem_cons.mpr (Or.inr hp)); omega, by omega, k8⟩, k9.cut, cs, q, ⟨m1, m2⟩, g3, m4, m5, m6, m7⟩
/-- a name is begun -/
theorem CLq.nam (h : CLq T F A 0 e c ch n ns nw ar op na nv) (hn : ns.length < 12) (he : e + 1 ≤ e') (hb : 0 ≤ a ∧ a ≤ b ∧ b ≤ (T.length : Int)) (f6 : F' 406 = 1) (f7 : F' 407 = F 407) (f8 : F' 408 = F 408) (f9 : F' 409 = F 409) (f10 : F' 410 = F 410) (f11 : F' 411 = 1) (a2 : A' 2 = A 2) (a5 : A' 5 = A 5) (a7 : A' 7 = ((((A 7 ++ [a]) ++ [b]) ++ [((A 5).length : Int)]) ++ [0]) ++ [0]) (a9 : A' 9 = A 9) (a11 : A' 11 = A 11) : CLq T F' A' 1 e' c ch n ns nw ar op 1 (slw T a b) := by
  obtain ⟨h1, ⟨q6, q8, q10, q11⟩, ⟨k0, k1, k2, k3, k4, k5, k6, k7, k8⟩, k9, cs, hc, ⟨m1, m2⟩, m3, m4, m5, m6, m7⟩ := h
  obtain ⟨m8, m9⟩ := m6 rfl
  have e0 := congrArg List.length m8
  rw [List.length_drop] at e0
  have e0 : (A 5).length - cs = 0 := e0
  have el : ((A 7).length : Int) = 5 * (ns.length : Int) := by omega
  have e7 : A' 7 = A 7 ++ [a, b, ((A 5).length : Int), 0, 0] := by
    rw [a7, List.append_assoc, List.append_assoc, List.append_assoc, List.append_assoc]
    rfl
  have g0 : gl (A' 7) (5 * (ns.length : Int)) = a := by
    rw [e7, gl_ap2 (by omega), show 5 * (ns.length : Int) - ((A 7).length : Int) = 0 by omega]
    rfl
  have g1 : gl (A' 7) (5 * (ns.length : Int) + 1) = b := by
    rw [e7, gl_ap2 (by omega), show 5 * (ns.length : Int) + 1 - ((A 7).length : Int) = 1 by omega]
    rfl
  have g2 : gl (A' 7) (5 * (ns.length : Int) + 2) = (cs : Int) := by
    rw [e7, gl_ap2 (by omega), show 5 * (ns.length : Int) + 2 - ((A 7).length : Int) = 2 by omega]
    show (((A 5).length : Nat) : Int) = (cs : Int)
    omega
  have m4 := m4.nm (N' := A' 7) (fun q q0 q1 => by rw [e7]; exact gl_ap (by omega))
  have hl : (A' 7).length = 5 * ns.length + 5 * 1 := by
    rw [e7, List.length_append, k8, m9]
    rfl
  unfold CLq
  rw [f7, f8, f9, f10, f11, a2, a5, a9, a11]
  refine ⟨h1, ⟨f6, q8, q10, rfl⟩, ⟨by decide, Nat.le_refl _, by omega, k3, k4, by omega, fun o ho => ?_, by omega, hl⟩, k9, cs, hc, ⟨m1, m2⟩, m3, m4, fun _ => ⟨?_, ?_, g2⟩, fun z => absurd z (by decide), fun z => absurd z (by decide)⟩
  · have := k6 o ho
    omega
  · rw [g0, g1]
    exact hb
  · rw [g0, g1]
end CLS
