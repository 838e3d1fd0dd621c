section AMS
variable {l : Launch} {D : va_G} {cl : List vw_C} {cy : am_cy} {Y : am_y} {Z : am_z} {J : Nat → am_i} {X : am_t} {G : Nat → Nat → Option am_n} {run : Nat → List am_v → am_h → Option am_r} {j d : Nat} {o : Option Nat}
set_option maxRecDepth 100000 in
theorem am_hf2 (d : Nat) : 60 * d + 360 ≤ 60 * (d + 1) + 300 := by omega
set_option maxRecDepth 100000 in
theorem am_hf3 (d : Nat) : 360 ≤ 60 * (d + 1) + 300 := by omega
theorem am_hf4 (d : Nat) : 12 ≤ d + 1 + 11 := by omega
/-- where a frame's run has come to -/
def am_end (J : Nat → am_i) (X : am_t) (G : Nat → Nat → Option am_n) (run : Nat → List am_v → am_h → Option am_r) (j : Nat) (x : am_r ⊕ am_s) (S' : am_s) : Prop := match x with
  | .inr S0 => S' = S0
  | .inl r => (∃ kd, G j S'.1 = some (.inr (.inr kd)) ∧ am_fin kd S' = some r) ∨ ∃ q, G j S'.1 = some (.inr (.inl q)) ∧ am_call J X run j q.1 q.2.1 q.2.2 S' = some (.inr r)
/-- from S the machine comes to S' -/
def am_To (cl : List vw_C) (Y : am_y) (Z : am_z) (I : am_i) (d : Nat) (l : Launch) (D : va_G) (cy : am_cy) (S S' : am_s) : Prop :=
  ∀ (p : Program) (e : Env) (R : Room) (s : State) (m : MethodId) (args : Array Value) (below : List Frame) (meth : Method) (c : Code) (Q : State → Prop) (A : Nat → Prop), am_C p R s m args meth c D cl cy A Z I → d + 12 ≤ R.frames → 60 * d + 360 ≤ R.locals →
  (S.2.2.2.2.1 ≤ S'.2.2.2.2.1 ∧ S.2.2.2.2.2 ≤ S'.2.2.2.2.2) ∧ ∀ (α : List Nat), S'.2.2.2.2.1 ≤ R.cells → S'.2.2.2.2.2 ≤ R.slots → (∀ β : List Nat, am_WA p l e R s m args below meth c Q D cl cy Y A I.2.2.1 (α ++ β) S') → am_WA p l e R s m args below meth c Q D cl cy Y A I.2.2.1 α S
theorem am_To.rf {I : am_i} {S : am_s} : am_To cl Y Z I d l D cy S S := fun p e R s m args below meth c Q A C h1 h2 => ⟨⟨Nat.le_refl _, Nat.le_refl _⟩, fun α h3 h4 hk => am_k0 hk⟩
theorem am_To.trans {I : am_i} {S S1 S2 : am_s} (h1 : am_To cl Y Z I d l D cy S S1) (h2 : am_To cl Y Z I d l D cy S1 S2) : am_To cl Y Z I d l D cy S S2 := fun p e R s m args below meth c Q A C hf hl => by
  obtain ⟨a1, b1⟩ := h1 p e R s m args below meth c Q A C hf hl
  obtain ⟨a2, b2⟩ := h2 p e R s m args below meth c Q A C hf hl
  refine ⟨⟨Nat.le_trans a1.1 a2.1, Nat.le_trans a1.2 a2.2⟩, fun α h3 h4 hk => b1 α (Nat.le_trans a2.1 h3) (Nat.le_trans a2.2 h4) (fun β => b2 (α ++ β) h3 h4 (fun γ => ?_))⟩
  have h9 := hk (β ++ γ)
  rwa [← List.append_assoc] at h9
/-- what is known of the machine's tables -/
def am_GJ (cl : List vw_C) (Y : am_y) (Z : am_z) (J : Nat → am_i) (X : am_t) (G : Nat → Nat → Option am_n) : Prop := (∀ (j pc : Nat) (i : am_n), G j pc = some i → am_ok cl Y Z J j pc i ∧ am_Mi (J j)) ∧ ∀ (j pc x : Nat) (q : Nat × Nat), X j pc x = some q → am_Ct cl Z (J j) pc x q
theorem am_St.to {I : am_i} {f : am_s → Option am_s} {S S' : am_s} (h : am_St cl Y Z I S.1 f) (hf : f S = some S') : am_To cl Y Z I d l D cy S S' := fun p e R s m args below meth c Q A C h1 h2 => h p l e R s m args below meth c Q D cy A C S S' rfl hf
/-- the callees' contracts -/
def am_Rn (cl : List vw_C) (Y : am_y) (Z : am_z) (J : Nat → am_i) (d : Nat) (l : Launch) (D : va_G) (cy : am_cy) (run : Nat → List am_v → am_h → Option am_r) : Prop := ∀ (k : Nat) (as : List am_v) (h : am_h) (r : am_r), am_words as ≤ (J k).2.2.1 → run k as h = some r → am_Met l D cl cy Y Z (J k) d as h r
theorem am_okL_del {n : Nat} {lv : am_l} {i : Nat} (h : am_okL n lv = true) : am_okL n (am_del lv i) = true := by
  unfold am_okL am_del at *
  rw [List.all_eq_true] at *
  exact fun q hq => h q (List.mem_filter.mp hq).1
/-- locals and the rest of the stack mean behind a call what they meant before -/
theorem am_cong {α β : List Nat} {lv : am_l} {rest : List am_v} {h h' : am_h} (hlen : am_al Y α h) (hb : am_al Y (α ++ β) h') (hg : h'.length = h.length ∨ (am_okL h.length lv = true ∧ rest.all (am_okV h.length) = true)) : am_L (α ++ β) lv = am_L α lv ∧ rest.map (am_V (α ++ β)) = rest.map (am_V α) := by
  rcases hg with hg | ⟨g1, g2⟩
  · have hβ : β = [] := by
      have h9 : α.length + β.length = h.length := by rw [← hg, ← hb.1]; simp
      have h8 := hlen.1
      exact List.length_eq_zero_iff.mp (by omega)
    subst hβ
    rw [List.append_nil]
    exact ⟨rfl, rfl⟩
  · exact ⟨am_L_app β (by rw [hlen.1]; exact g1), am_Vs_app β (by rw [hlen.1]; exact g2)⟩
theorem am_call.to {k na kd : Nat} {S S' : am_s} (hG : am_GJ cl Y Z J X G) (hC : am_Cl cl Y Z (J j) (J k) S.1 na kd) (hrun : am_Rn cl Y Z J d l D cy run) (hf : am_call J X run j k na kd S = some (.inl S')) : am_To cl Y Z (J j) d l D cy S S' := by
  obtain ⟨pc, lv, st, h, k0, n0⟩ := S
  unfold am_call at hf
  split at hf <;> first | (cases hf; done) | skip
  rename_i hg
  obtain ⟨g1, g2, g3, g4⟩ := hg
  split at hf <;> first | (cases hf; done) | skip
  rename_i r hr
  split at hf <;> first | (cases hf; done) | skip
  rename_i hok
  have hst : st = (st.take na).reverse.reverse ++ st.drop na := by rw [List.reverse_reverse, List.take_append_drop]
  have hna : (st.take na).reverse.length = na := by rw [List.length_reverse, List.length_take]; exact Nat.min_eq_left g1
  split at hf
  · rename_i v hv
    cases hf
    intro p e R s m args below meth c Q A C h1 h2
    refine ⟨⟨Nat.le_add_right _ _, Nat.le_add_right _ _⟩, fun α h3 h4 hk => ?_⟩
    intro H locs ls hlen hP hD hS hl
    have h9 := hC p l e R s m args below meth c Q D cy A d C h1 h2 lv (st.take na).reverse (st.drop na) h k0 n0 r hna g2 g4 (hrun k _ _ r g3 hr) (fun _ => ⟨v, hv⟩) h3 h4 α H locs ls hlen hP hD hS hl
      (fun v9 β H1 locs1 e1 hb hP1 hD1 hS1 => by
        have e2 : v9 = v := by
          rw [hv] at e1
          cases e1
          rfl
        subst e2
        obtain ⟨c1, c2⟩ := am_cong hlen hb hok
        refine W.eq ?_ (hk β H1 locs1 ls hb hP1 hD1 hS1 (by show lv_has ls (J j).2.2.1 (am_L (α ++ β) lv); rw [c1]; exact hl))
        show F0 m (pc + 3) ls _ = F0 m (pc + 3) ls ((v9.toList ++ st.drop na).map (am_V (α ++ β)))
        rw [List.map_append, c2]
        cases v9 <;> rfl)
      (fun x β H1 locs1 q ce e1 => by rw [hv] at e1; cases e1)
    rw [← hst] at h9
    exact h9
  · rename_i x hv
    split at hf <;> first | (cases hf; done) | skip
    rename_i hkd
    split at hf
    · rename_i q hq
      cases hf
      intro p e R s m args below meth c Q A C h1 h2
      refine ⟨⟨Nat.le_add_right _ _, Nat.le_add_right _ _⟩, fun α h3 h4 hk => ?_⟩
      intro H locs ls hlen hP hD hS hl
      have h9 := hC p l e R s m args below meth c Q D cy A d C h1 h2 lv (st.take na).reverse (st.drop na) h k0 n0 r hna g2 g4 (hrun k _ _ r g3 hr) (fun z => absurd z hkd) h3 h4 α H locs ls hlen hP hD hS hl
        (fun v9 β H1 locs1 e1 => by rw [hv] at e1; cases e1)
        (fun x9 β H1 locs1 a ce e1 hb hP1 hD1 hS1 hce hcv hcl => by
          have e2 : x9 = x := by
            rw [hv] at e1
            cases e1
            rfl
          subst e2
          refine hG.2 j pc x9 q hq p l e R s m args below meth c Q D cy A C (am_L α lv) _ _ _ H1 locs1 ls a ce hl hce hcv hcl (fun ls2 hl2 => ?_)
          have hok2 : r.2.1.length = h.length ∨ (am_okL h.length (am_del lv q.2) = true ∧ ([] : List am_v).all (am_okV h.length) = true) := by
            rcases hok with hok | hok
            · exact Or.inl hok
            · exact Or.inr ⟨am_okL_del hok.1, rfl⟩
          obtain ⟨c1, -⟩ := am_cong hlen hb hok2
          have c3 : (am_L α lv).filter (fun z => !(z.1 == q.2) && !(z.1 + 1 == q.2 && z.2.category == 2)) = am_L α (am_del lv q.2) := am_filter (fun a b => !(a == q.2) && !(a + 1 == q.2 && b)) lv
          rw [c3, ← c1] at hl2
          exact hk β H1 locs1 ls2 hb hP1 hD1 hS1 hl2)
      rw [← hst] at h9
      exact h9
    · split at hf <;> cases hf
theorem am_it_to (hG : am_GJ cl Y Z J X G) (hrun : am_Rn cl Y Z J d l D cy run) : ∀ (n : Nat) (S : am_s) (x : am_r ⊕ am_s), am_it J X G run j o n S = some x → ∃ S', am_end J X G run j x S' ∧ am_To cl Y Z (J j) d l D cy S S' := by
  intro n
  induction n with
  | zero => intro S x h; cases h
  | succ n ih =>
    intro S x h
    unfold am_it at h
    cases ha : am_at o S.1 with
    | true =>
      rw [ha] at h
      cases h
      exact ⟨S, rfl, am_To.rf⟩
    | false =>
      rw [ha] at h
      simp only [cond_false] at h
      split at h <;> first | (cases h; done) | skip
      · rename_i f hg
        split at h <;> first | (cases h; done) | skip
        rename_i S1 hf
        obtain ⟨S', e1, e2⟩ := ih S1 x h
        exact ⟨S', e1, am_To.trans (am_St.to (hG.1 j S.1 _ hg).1 hf) e2⟩
      · rename_i kd hg
        split at h <;> first | (cases h; done) | skip
        rename_i r hr
        cases h
        exact ⟨S, Or.inl ⟨kd, hg, hr⟩, am_To.rf⟩
      · rename_i q hg
        split at h <;> first | (cases h; done) | skip
        · rename_i S1 hf
          obtain ⟨S', e1, e2⟩ := ih S1 x h
          exact ⟨S', e1, am_To.trans (am_call.to hG (hG.1 j S.1 _ hg).1 hrun hf) e2⟩
        · rename_i r hf
          cases h
          exact ⟨S, Or.inr ⟨q, hg, hf⟩, am_To.rf⟩
theorem am_P_kept {ws : va_W} {H H1 : Heap} (h : va_P D cl ws H) (hk : ∀ q : Nat, q < H.size → H1[q]? = H[q]?) : va_P D cl ws H1 := fun k q hq => (h k q hq).kept (hk q.1 (h k q hq).lt)
/-- the frame's body, at its end -/
theorem am_body (hst : l.stackTraces = false) (hG : am_GJ cl Y Z J X G) (hrun : am_Rn cl Y Z J d l D cy run) {p : Program} {e : Env} {s : State} {m : MethodId} {args : Array Value} {below : List Frame} {meth : Method} {c : Code} {R : Room} {k : Nat} {as : List am_v} {α : List Nat} {h : am_h} {r : am_r} {S' : am_s} (hR1 : R.cells = r.2.2.1) (hR2 : R.slots = r.2.2.2) (hR3 : d + 12 ≤ R.frames) (hR4 : 60 * d + 360 ≤ R.locals) (hr : meth.sig.returnType = (J k).2.2.2.2.2.1)
    (C : am_C p R s m args meth c D cl cy (va_A (am_W cy α h) s.heap.size) Z (J k)) (hE : am_end J X G run k (.inl r) S') (β : List Nat) : S'.2.2.2.2.1 ≤ r.2.2.1 ∧ S'.2.2.2.2.2 ≤ r.2.2.2 ∧ am_WA p l e R s m args below meth c (vx_MQ below (am_Post D cl cy Y α h s.heap.size r) (am_Xc D cl cy Y α h s.heap.size r) args s r.2.2.1 r.2.2.2 (va_A (am_W cy α h) s.heap.size)) D cl cy Y (va_A (am_W cy α h) s.heap.size) (J k).2.2.1 (α ++ β) S' := by
  have hx := C.1.1
  have hb := C.1.2.1
  have hlocks := C.2.2.2.2.2.2.2.1
  obtain ⟨pc', lv', st', h', k', n'⟩ := S'
  rcases hE with ⟨kd, hg, hfin⟩ | ⟨q, hg, hcall⟩
  · have hEn := (hG.1 k pc' _ hg).1
    match kd, hfin, hEn with
    | x + 4, hfin, hEn =>
      simp only [am_fin] at hfin
      split at hfin <;> first | (cases hfin; done) | skip
      rename_i hw8
      cases hfin
      refine ⟨Nat.le_succ _, Nat.le_add_right _ _, ?_⟩
      intro H locs ls hlen hP hD hS hl
      refine hEn p l e R s m args below meth c D cy _ _ _ _ _ _ C hst (st'.map (am_V (α ++ β))) k' n' H locs ls (by rw [am_words_eq]; exact hw8) (Nat.le_refl _) (Nat.le_refl _) (by rw [hR1]; exact Nat.le_refl _) (by rw [hR2]; exact Nat.le_refl _) hS (by rw [C.1.2.2.1]; exact hl.1) hS.2.2 (fun t _ h2 h3 => ?_)
      exact ⟨⟨x, β, rfl, rfl, hlen, am_P_kept hP h3, hD⟩, Nat.le_trans hS.1 h2, fun q h4 h5 => by rw [h3 q (Nat.lt_of_lt_of_le h4 hS.1)]; exact hS.2.1 q h4 h5⟩
    | 0, hfin, hEn =>
      simp only [am_fin] at hfin
      split at hfin <;> first | (cases hfin; done) | skip
      rename_i v hret
      cases hfin
      refine ⟨Nat.le_refl _, Nat.le_refl _, ?_⟩
      intro H locs ls hlen hP hD hS hl
      rcases hEn with ⟨-, hd, ht⟩ | ⟨z, -, -⟩ | ⟨z, -, -⟩ | ⟨z, -, -⟩ <;> first | (cases z; done) | skip
      match st', hret with
      | [], hret =>
        have hr1 : none = v := Option.some.inj hret
        subst hr1
        exact vx_ret (W.vret hx hb (by rw [hr, ht]) (fun t h9 _ => ⟨⟨none, β, rfl, rfl, hlen, by rw [h9]; exact hP, hD⟩, hS.F h9⟩) hS.2.2 hd)
    | 1, hfin, hEn =>
      simp only [am_fin] at hfin
      split at hfin <;> first | (cases hfin; done) | skip
      rename_i v hret
      cases hfin
      refine ⟨Nat.le_refl _, Nat.le_refl _, ?_⟩
      intro H locs ls hlen hP hD hS hl
      rcases hEn with ⟨z, -, -⟩ | ⟨-, hd, ht⟩ | ⟨z, -, -⟩ | ⟨z, -, -⟩ <;> first | (cases z; done) | skip
      match st', hret with
      | [.inl x], hret =>
        have hr1 : some (.inl x) = v := Option.some.inj hret
        subst hr1
        exact vx_ret (W.iret (v := x) hx hb (by rw [hr, ht]) (fun t h9 _ => ⟨⟨some (.inl x), β, rfl, rfl, hlen, by rw [h9]; exact hP, hD⟩, hS.F h9⟩) hS.2.2 hd)
    | 2, hfin, hEn =>
      simp only [am_fin] at hfin
      split at hfin <;> first | (cases hfin; done) | skip
      rename_i v hret
      cases hfin
      refine ⟨Nat.le_refl _, Nat.le_refl _, ?_⟩
      intro H locs ls hlen hP hD hS hl
      rcases hEn with ⟨z, -, -⟩ | ⟨z, -, -⟩ | ⟨-, hd, ht⟩ | ⟨z, -, -⟩ <;> first | (cases z; done) | skip
      match st', hret with
      | [.inl x], hret =>
        simp only [am_ret] at hret
        split at hret <;> first | (cases hret; done) | skip
        rename_i hx01
        have hr1 : some (.inl x) = v := Option.some.inj hret
        subst hr1
        exact vx_ret (W.zret (v := x) (ty := .boolean) hx hb (by rw [hr, ht]) (by rcases hx01 with rfl | rfl <;> rfl) (fun t h9 _ => ⟨⟨some (.inl x), β, rfl, rfl, hlen, by rw [h9]; exact hP, hD⟩, hS.F h9⟩) hS.2.2 hd)
    | 3, hfin, hEn =>
      simp only [am_fin] at hfin
      split at hfin <;> first | (cases hfin; done) | skip
      rename_i v hret
      cases hfin
      refine ⟨Nat.le_refl _, Nat.le_refl _, ?_⟩
      intro H locs ls hlen hP hD hS hl
      rcases hEn with ⟨z, -, -⟩ | ⟨z, -, -⟩ | ⟨z, -, -⟩ | ⟨-, hd, rt, ht, hrt⟩ <;> first | (cases z; done) | skip
      match st', hret with
      | [.inr (.inr y)], hret =>
        have hr1 : some (.inr (.inr y)) = v := Option.some.inj hret
        subst hr1
        refine vx_ret (W.aret (v := am_V (α ++ β) (.inr (.inr y))) (rt := rt) hx hb (by rw [hr, ht]) hrt ?_ (fun t h9 _ => ⟨⟨some (.inr (.inr y)), β, rfl, rfl, hlen, by rw [h9]; exact hP, hD⟩, hS.F h9⟩) hS.2.2 hd)
        cases y with
        | none => exact Or.inl rfl
        | some y => exact Or.inr ⟨_, rfl⟩
  · have hC := (hG.1 k pc' _ hg).1
    unfold am_call at hcall
    split at hcall <;> first | (cases hcall; done) | skip
    rename_i hg9
    obtain ⟨g1, g2, g3, g4⟩ := hg9
    split at hcall <;> first | (cases hcall; done) | skip
    rename_i r0 hr0
    split at hcall <;> first | (cases hcall; done) | skip
    rename_i hok
    split at hcall <;> first | (cases hcall; done) | skip
    rename_i x hv
    split at hcall <;> first | (cases hcall; done) | skip
    rename_i hkd
    split at hcall <;> first | (cases hcall; done) | skip
    split at hcall <;> first | (cases hcall; done) | skip
    rename_i hhh
    cases hcall
    refine ⟨Nat.le_add_right _ _, Nat.le_add_right _ _, ?_⟩
    have hst9 : st' = (st'.take q.2.1).reverse.reverse ++ st'.drop q.2.1 := by rw [List.reverse_reverse, List.take_append_drop]
    have hna : (st'.take q.2.1).reverse.length = q.2.1 := by rw [List.length_reverse, List.length_take]; exact Nat.min_eq_left g1
    intro H locs ls hlen hP hD hS hl
    have h9 := hC p l e R s m args below meth c (vx_MQ below (am_Post D cl cy Y α h s.heap.size (.inr x, r0.2.1, k' + r0.2.2.1, n' + r0.2.2.2)) (am_Xc D cl cy Y α h s.heap.size (.inr x, r0.2.1, k' + r0.2.2.1, n' + r0.2.2.2)) args s (k' + r0.2.2.1) (n' + r0.2.2.2) (va_A (am_W cy α h) s.heap.size)) D cy (va_A (am_W cy α h) s.heap.size) d C hR3 hR4 lv' (st'.take q.2.1).reverse (st'.drop q.2.1) h' k' n' r0 hna g2 g4 (hrun _ _ _ r0 g3 hr0) (fun z => absurd z hkd) (by rw [hR1]; exact Nat.le_refl _) (by rw [hR2]; exact Nat.le_refl _) (α ++ β) H locs ls hlen hP hD hS hl
      (fun v9 γ H1 locs1 e1 => by rw [hv] at e1; cases e1)
      (fun x9 γ H1 locs1 a ce e1 hb1 hP1 hD1 hS1 hce hcv hcl => by
        have e2 : x9 = x := by
          rw [hv] at e1
          cases e1
          rfl
        subst e2
        refine vx_out (E := am_xn x9) (fun z hz => ?_) hlocks hce hcv hcl (fun t h1 _ => ?_) hS1.2.2 (Nat.le_refl _) (Nat.le_refl _)
        · rw [C.2.2.2.2.2.2.2.2, hhh] at hz
          cases hz
        · rw [List.append_assoc] at hb1 hP1 hD1
          exact ⟨⟨x9, β ++ γ, rfl, rfl, hb1, by rw [h1]; exact hP1, hD1⟩, hS1.F h1⟩)
    rw [← hst9] at h9
    exact h9
/-- a contract from the body's walk, the method named plainly (its class, or itself) -/
theorem am_ofW {y : MethodName} {ws ws' : List Cond} {rm : Room} {Pc : Array Value → State → Prop} {Qc : Array Value → State → Outcome → State → Prop} {XC : String → State → State → Prop} {mc ms : Nat} {free : Addr → Prop} {cc : ByteArray} {maxL : Nat} {ret : Option FieldType}
    (hy : plainFor y = true) (hw : ws = Cond.code y cc maxL ret :: ws')
    (body : ∀ p e s m args below meth c s₁, BodyLoose p l y (headSpec ws rm) cc maxL ret e s m args below meth c s₁ → c.maxLocals = maxL → (∀ x ∈ c.exceptionTable.toList, False) → Pc args s →
      W p l e (headSpec ws rm).room s m args below meth c s.heap [] 0 0 (vx_MQ below Qc XC args s mc ms free) (entryFrame m args maxL)) : vx_Met l y ws rm Pc Qc XC mc ms free := by
  refine MetFree.of_bodySF (code := cc) (maxLocals := maxL) (ret := ret) hy ?_ ?_
  · intro args s m h hn
    obtain ⟨meth, c, h1, h2, h3, h4, h5, h6, -, -⟩ := Cond.code_spec hn (atoms_spec (ws := ws) h _ (by rw [hw]; exact List.mem_cons_self))
    exact ⟨meth, c, h1, h2, h3, h4, h5, h6⟩
  · intro p e s m args below meth c s₁ B hml hP _
    have hh0 : s₁.heap = s.heap := by rw [B.state]; rfl
    have ht : ∀ x ∈ c.exceptionTable.toList, False := by
      obtain ⟨meth9, c9, h1, h2, -, -, -, -, h7, -⟩ := Cond.code_spec B.named (atoms_spec (ws := ws) B.pre _ (by rw [hw]; exact List.mem_cons_self))
      cases Option.some.inj (h1.symm.trans B.method)
      cases Option.some.inj (h2.symm.trans (Stand.of_body B).code)
      intro x hx
      rw [Array.isEmpty_iff.mp h7] at hx
      cases hx
    obtain ⟨t, a1, o, b1, b2, b3⟩ := body p e s m args below meth c s₁ B hml ht hP s₁ hh0 (Stand.of_body B)
    exact ⟨t, o, a1, b1, b2, b3⟩
/-- a frame's end gives the contract -/
theorem am_met (hst : l.stackTraces = false) {k : Nat} {as : List am_v} {h : am_h} {r : am_r} {S' : am_s} (hMi : am_Mi (J k)) (hw : am_words as ≤ (J k).2.2.1) (hG : am_GJ cl Y Z J X G) (hrun : am_Rn cl Y Z J d l D cy run) (hE : am_end J X G run k (.inl r) S') (hT : am_To cl Y Z (J k) d l D cy (0, am_args 0 as, [], h, 0, 0) S') : am_Met l D cl cy Y Z (J k) (d + 1) as h r := by
  intro α sz hlen
  obtain ⟨⟨ws', hws⟩, hown⟩ := hMi
  have key : ∀ (p : Program) (e : Env) (s : State) (m : MethodId) (args : Array Value) (below : List Frame) (meth : Method) (c : Code) (s₁ : State), BodyLoose p l (J k).2.2.2.2.1 (headSpec (J k).2.2.2.1 (am_rm (d + 1) r.2.2.1 r.2.2.2)) (J k).2.1 (J k).2.2.1 (J k).2.2.2.2.2.1 e s m args below meth c s₁ → c.maxLocals = (J k).2.2.1 → c.exceptionTable.toList = tableOf (J k).2.2.2.2.2.2 → am_Pre D cl cy Z as α h sz args s →
      W p l e (headSpec (J k).2.2.2.1 (am_rm (d + 1) r.2.2.1 r.2.2.2)).room s m args below meth c s.heap [] 0 0 (vx_MQ below (am_Post D cl cy Y α h sz r) (am_Xc D cl cy Y α h sz r) args s r.2.2.1 r.2.2.2 (va_A (am_W cy α h) sz)) (entryFrame m args (J k).2.2.1) := by
    intro p e s m args below meth c s₁ B hml htab hv
    obtain ⟨rfl, hsz, hP, hK, hD0, hZ0⟩ := hv
    have hts := atoms_spec (ws := (J k).2.2.2.1) B.pre
    have ho : s.vm.findClass (J k).1 = some m.cls := by rw [hown]; exact findClass_of_methodNamed B.named
    subst hsz
    have hD := hD0.self (sz := s.heap.size)
    have hS : va_S (va_A (am_W cy α h) s.heap.size) s.heap s.heap [] := va_S.rf
    have C : am_C p (am_rm (d + 1) r.2.2.1 r.2.2.2) s m (as.map (am_V α)).toArray meth c D cl cy (va_A (am_W cy α h) s.heap.size) Z (J k) :=
      ⟨⟨B.exec, B.bytes, hml, ho, hts⟩, hK, fun q hq => Or.inr hq, hZ0, fun hn => by rw [← hn]; exact (name_of_methodNamed B.named B.method).1, am_hf4 d, am_hf3 d, B.notSynchronized, htab⟩
    have hl := lv_entry (as.map (am_V α)) (n := (J k).2.2.1) (by rw [am_sl]; exact hw)
    rw [lg_entry_eq]
    generalize (lg_sl (as.map (am_V α)) ++ List.replicate ((J k).2.2.1 - (lg_sl (as.map (am_V α))).length) Slot.unset).toArray = ls at hl ⊢
    rw [← am_args_L] at hl
    have hf1 : d + 12 ≤ (am_rm (d + 1) r.2.2.1 r.2.2.2).frames := by show d + 12 ≤ d + 1 + 11; omega
    have hf2 : 60 * d + 360 ≤ (am_rm (d + 1) r.2.2.1 r.2.2.2).locals := am_hf2 d
    have hB := fun β => am_body (as := as) (below := below) (e := e) hst hG hrun (R := am_rm (d + 1) r.2.2.1 r.2.2.2) rfl rfl hf1 hf2 B.returns C hE β
    exact (hT p e (am_rm (d + 1) r.2.2.1 r.2.2.2) s m _ below meth c _ _ C hf1 hf2).2 α (hB []).1 (hB []).2.1 (fun β => (hB β).2.2) s.heap [] ls hlen hP hD hS hl
  rcases hws with ⟨hws, htb, hpl⟩ | ⟨hws, hpl⟩
  · refine am_ofW (cc := (J k).2.1) (maxL := (J k).2.2.1) (ret := (J k).2.2.2.2.2.1) hpl hws ?_
    intro p e s m args below meth c s₁ B hml hno hv
    have htab : c.exceptionTable.toList = tableOf (J k).2.2.2.2.2.2 := by
      rw [htb]
      exact List.eq_nil_iff_forall_not_mem.mpr hno
    exact key p e s m args below meth c s₁ B hml htab hv
  · refine vx_ofWH (cc := (J k).2.1) (maxL := (J k).2.2.1) (ret := (J k).2.2.2.2.2.1) (hh := (J k).2.2.2.2.2.2) hpl hws ?_
    intro p e s m args below meth c s₁ B hml hv
    exact key p e s m args below meth c s₁ B hml (vx_table (x := (J k).2.2.2.2.1) B (atoms_spec (ws := (J k).2.2.2.1) B.pre _ (by rw [hws]; exact List.mem_cons_self))) hv
/-- EVERY RUN THAT IS COMPUTED IS THE MACHINE'S -/
theorem am_run_ok (hst : l.stackTraces = false) (hG : am_GJ cl Y Z J X G) (N : Nat) (D : va_G) (cy : am_cy) : ∀ d : Nat, am_Rn cl Y Z J d l D cy (am_run J X G N d) := by
  intro d
  induction d with
  | zero => intro k as h r _ h2; cases h2
  | succ d ih =>
    intro k as h r hw h2
    unfold am_run at h2
    split at h2 <;> first | (cases h2; done) | skip
    rename_i r' hit
    cases h2
    obtain ⟨S', e1, e2⟩ := am_it_to (o := none) hG ih N _ _ hit
    have hMi : am_Mi (J k) := by
      rcases e1 with ⟨kd, hg, -⟩ | ⟨q, hg, -⟩
      · exact (hG.1 k _ _ hg).2
      · exact (hG.1 k _ _ hg).2
    exact am_met hst hMi hw hG ih e1 e2
end AMS
