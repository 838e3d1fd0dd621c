section AMS
variable {l : Launch} {D : va_G} {cl : List vw_C} {cy : am_cy} {Z : am_z} {J : Nat → am_i} {G : Nat → Nat → Option am_n} {run : Nat → List am_v → am_h → Option am_r} {j d : Nat} {o : Option Nat}
/-- where a frame's run has come to -/
def am_end (G : Nat → Nat → Option am_n) (j : Nat) (x : am_r ⊕ am_s) (S' : am_s) : Prop := match x with
  | .inr S0 => S' = S0
  | .inl r => ∃ kd, G j S'.1 = some (.inr (.inr kd)) ∧ am_ret kd S'.2.2.1 = some r.1 ∧ S'.2.2.2 = r.2
/-- from S the machine comes to S' -/
def am_To (cl : List vw_C) (Z : am_z) (I : am_i) (d : Nat) (l : Launch) (D : va_G) (cy : am_cy) (S S' : am_s) : Prop :=
  ∀ (p : Program) (e : Env) (R : Room) (s : State) (m : MethodId) (args : Array Value) (below : List Frame) (meth : Method) (c : Code) (Q : State → Prop) (A : Nat → Prop), am_C p R s m args meth c D cl cy A Z I → d + 2 ≤ R.frames → 60 * (d + 2) ≤ R.locals →
  (S.2.2.2.2.1 ≤ S'.2.2.2.2.1 ∧ S.2.2.2.2.2 ≤ S'.2.2.2.2.2) ∧ ∀ (α : List Nat), S'.2.2.2.2.1 ≤ R.cells → S'.2.2.2.2.2 ≤ R.slots → (∀ β : List Nat, am_WA p l e R s m args below meth c Q D cl cy A I.2.2.1 (α ++ β) S') → am_WA p l e R s m args below meth c Q D cl cy A I.2.2.1 α S
theorem am_To.rf {I : am_i} {S : am_s} : am_To cl Z I d l D cy S S := fun p e R s m args below meth c Q A C h1 h2 => ⟨⟨Nat.le_refl _, Nat.le_refl _⟩, fun α h3 h4 hk => am_k0 hk⟩
theorem am_To.trans {I : am_i} {S S1 S2 : am_s} (h1 : am_To cl Z I d l D cy S S1) (h2 : am_To cl Z I d l D cy S1 S2) : am_To cl Z I d l D cy S S2 := fun p e R s m args below meth c Q A C hf hl => by
  obtain ⟨a1, b1⟩ := h1 p e R s m args below meth c Q A C hf hl
  obtain ⟨a2, b2⟩ := h2 p e R s m args below meth c Q A C hf hl
  refine ⟨⟨Nat.le_trans a1.1 a2.1, Nat.le_trans a1.2 a2.2⟩, fun α h3 h4 hk => b1 α (Nat.le_trans a2.1 h3) (Nat.le_trans a2.2 h4) (fun β => b2 (α ++ β) h3 h4 (fun γ => ?_))⟩
  have h9 := hk (β ++ γ)
  rwa [← List.append_assoc] at h9
/-- what is known of the machine's tables -/
def am_GJ (cl : List vw_C) (Z : am_z) (J : Nat → am_i) (G : Nat → Nat → Option am_n) : Prop := ∀ (j pc : Nat) (i : am_n), G j pc = some i → am_ok cl Z J j pc i ∧ am_Mi (J j)
theorem am_St.to {I : am_i} {f : am_s → Option am_s} {S S' : am_s} (h : am_St cl Z I S.1 f) (hf : f S = some S') : am_To cl Z I d l D cy S S' := fun p e R s m args below meth c Q A C h1 h2 => h p l e R s m args below meth c Q D cy A C S S' rfl hf
/-- the callees' contracts -/
def am_Rn (cl : List vw_C) (Z : am_z) (J : Nat → am_i) (d : Nat) (l : Launch) (D : va_G) (cy : am_cy) (run : Nat → List am_v → am_h → Option am_r) : Prop := ∀ (k : Nat) (as : List am_v) (h : am_h) (r : am_r), am_words as ≤ (J k).2.2.1 → run k as h = some r → am_Met l D cl cy Z (J k) d as h r
theorem am_call.to {k na kd : Nat} {S S' : am_s} (hC : am_Cl cl Z (J j) (J k) S.1 na kd) (hrun : am_Rn cl Z J d l D cy run) (hf : am_call J run k na kd S = some S') : am_To cl Z (J j) d l D cy S S' := by
  obtain ⟨pc, lv, st, h, k0, n0⟩ := S
  unfold am_call at hf
  split at hf <;> first | (cases hf; done) | skip
  rename_i hg
  obtain ⟨g1, g2, g3, g4⟩ := hg
  split at hf <;> first | (cases hf; done) | skip
  rename_i r hr
  split at hf <;> first | (cases hf; done) | skip
  rename_i hok
  cases hf
  intro p e R s m args below meth c Q A C h1 h2
  refine ⟨⟨Nat.le_add_right _ _, Nat.le_add_right _ _⟩, fun α h3 h4 hk => ?_⟩
  have hst : st = (st.take na).reverse.reverse ++ st.drop na := by rw [List.reverse_reverse, List.take_append_drop]
  have h9 := hC p l e R s m args below meth c Q D cy A d C h1 h2 lv (st.take na).reverse (st.drop na) h k0 n0 r (by rw [List.length_reverse, List.length_take]; exact Nat.min_eq_left g1) g2 g4 (hrun k _ _ r g3 hr) h3 h4 hok α hk
  rw [← hst] at h9
  exact h9
theorem am_it_to (hG : am_GJ cl Z J G) (hrun : am_Rn cl Z J d l D cy run) : ∀ (n : Nat) (S : am_s) (x : am_r ⊕ am_s), am_it J G run j o n S = some x → ∃ S', am_end G j x S' ∧ am_To cl Z (J j) d l D cy S S' := by
  intro n
  induction n with
  | zero => intro S x h; cases h
  | succ n ih =>
    intro S x h
    unfold am_it at h
    cases ha : am_at o S.1 with
    | true =>
      rw [ha] at h
      cases h
      exact ⟨S, rfl, am_To.rf⟩
    | false =>
      rw [ha] at h
      simp only [cond_false] at h
      split at h <;> first | (cases h; done) | skip
      · rename_i f hg
        split at h <;> first | (cases h; done) | skip
        rename_i S1 hf
        obtain ⟨S', e1, e2⟩ := ih S1 x h
        exact ⟨S', e1, am_To.trans (am_St.to (hG j S.1 _ hg).1 hf) e2⟩
      · rename_i kd hg
        split at h <;> first | (cases h; done) | skip
        rename_i r hr
        cases h
        exact ⟨S, ⟨kd, hg, hr, rfl⟩, am_To.rf⟩
      · rename_i q hg
        split at h <;> first | (cases h; done) | skip
        rename_i S1 hf
        obtain ⟨S', e1, e2⟩ := ih S1 x h
        exact ⟨S', e1, am_To.trans (am_call.to (hG j S.1 _ hg).1 hrun hf) e2⟩
/-- a frame's end gives the contract -/
theorem am_met (hZ : am_Zok Z) {k : Nat} {as : List am_v} {h : am_h} {r : am_r} {S' : am_s} (hMi : am_Mi (J k)) (hw : am_words as ≤ (J k).2.2.1) (hG : am_GJ cl Z J G) (hE : am_end G k (.inl r) S') (hT : am_To cl Z (J k) d l D cy (0, am_args 0 as, [], h, 0, 0) S') : am_Met l D cl cy Z (J k) (d + 1) as h r := by
  intro α sz hlen
  obtain ⟨⟨ws', hws⟩, hpl, hown⟩ := hMi
  refine Met.ofW (cc := (J k).2.1) (maxL := (J k).2.2.1) (ret := (J k).2.2.2.2.2) hpl hws ?_
  intro p e s m args below meth c s₁ B hml hv
  obtain ⟨rfl, hsz, hP, hK, hD0, hZ0⟩ := hv
  have hx := B.exec
  have hb := B.bytes
  have hr := B.returns
  have hts := atoms_spec (ws := (J k).2.2.2.1) B.pre
  have ho : s.vm.findClass (J k).1 = some m.cls := by rw [hown]; exact findClass_of_methodNamed B.named
  have hlocks := B.notSynchronized
  subst hsz
  have hD := hD0.self (sz := s.heap.size)
  have hS : va_S (va_A (am_W cy α h) s.heap.size) s.heap s.heap [] := va_S.rf
  have C : am_C p (am_rm (d + 1) r.2.2.1 r.2.2.2) s m (as.map (am_V α)).toArray meth c D cl cy (va_A (am_W cy α h) s.heap.size) Z (J k) :=
    ⟨⟨hx, hb, hml, ho, hts⟩, hK, fun q hq => Or.inr hq, hZ0, fun hn => by rw [← hn]; exact (name_of_methodNamed B.named B.method).1, Nat.succ_le_succ (Nat.zero_le _), by show 60 ≤ 60 * (d + 1 + 1); omega⟩
  obtain ⟨kd, hg, hret, hend⟩ := hE
  obtain ⟨pc', lv', st', h', k', n'⟩ := S'
  have e1 : h' = r.2.1 := congrArg (fun q : am_h × Nat × Nat => q.1) hend
  have e2 : k' = r.2.2.1 := congrArg (fun q : am_h × Nat × Nat => q.2.1) hend
  have e3 : n' = r.2.2.2 := congrArg (fun q : am_h × Nat × Nat => q.2.2) hend
  subst e1 e2 e3
  have hl := lv_entry (as.map (am_V α)) (n := (J k).2.2.1) (by rw [am_sl]; exact hw)
  rw [lg_entry_eq]
  generalize (lg_sl (as.map (am_V α)) ++ List.replicate ((J k).2.2.1 - (lg_sl (as.map (am_V α))).length) Slot.unset).toArray = ls at hl ⊢
  rw [← am_args_L] at hl
  refine (hT p e (am_rm (d + 1) r.2.2.1 r.2.2.2) s m _ below meth c _ _ C (Nat.le_refl _) (Nat.le_refl _)).2 α (Nat.le_refl _) (Nat.le_refl _) (fun β => ?_) s.heap [] ls hlen hP hD hS hl
  intro H locs ls2 hlen2 hP2 hD2 hS2 hl2
  have hRt := (hG k pc' _ hg).1
  have hq : ∀ (v : Option Value), v = r.1.map (am_V (α ++ β)) → ∀ t : State, t.heap = H → am_Post D cl cy α h s.heap.size r.1 r.2.1 (as.map (am_V α)).toArray s (.returned v) t := fun v hv t ht =>
    ⟨⟨β, by rw [hv], hlen2, by rw [ht]; exact hP2, hD2⟩, hS2.F ht⟩
  rcases hRt with ⟨rfl, hd, ht⟩ | ⟨rfl, hd, ht⟩ | ⟨rfl, hd, ht⟩ | ⟨rfl, hd, n, ht⟩
  · match st', hret with
    | [], hret =>
      have hr1 : none = r.1 := Option.some.inj hret
      exact W.vret hx hb (by rw [hr, ht]) (fun t h9 _ => hq none (by rw [← hr1]; rfl) t h9) hS2.2.2 hd
  · match st', hret with
    | [.inl x], hret =>
      have hr1 : some (.inl x) = r.1 := Option.some.inj hret
      exact W.iret (v := x) hx hb (by rw [hr, ht]) (fun t h9 _ => hq (some (.int x)) (by rw [← hr1]; rfl) t h9) hS2.2.2 hd
  · match st', hret with
    | [.inl x], hret =>
      simp only [am_ret] at hret
      split at hret <;> first | (cases hret; done) | skip
      rename_i hx01
      have hr1 : some (.inl x) = r.1 := Option.some.inj hret
      exact W.zret (v := x) (ty := .boolean) hx hb (by rw [hr, ht]) (by rcases hx01 with rfl | rfl <;> rfl) (fun t h9 _ => hq (some (.int x)) (by rw [← hr1]; rfl) t h9) hS2.2.2 hd
  · match st', hret with
    | [.inr (.inr y)], hret =>
      have hr1 : some (.inr (.inr y)) = r.1 := Option.some.inj hret
      refine W.aret (v := am_V (α ++ β) (.inr (.inr y))) (rt := .object n) hx hb (by rw [hr, ht]) (Or.inl ⟨n, rfl⟩) ?_ (fun t h9 _ => hq (some (am_V (α ++ β) (.inr (.inr y)))) (by rw [← hr1]; rfl) t h9) hS2.2.2 hd
      cases y with
      | none => exact Or.inl rfl
      | some y => exact Or.inr ⟨_, rfl⟩
/-- EVERY RUN THAT IS COMPUTED IS THE MACHINE'S -/
theorem am_run_ok (hZ : am_Zok Z) (hG : am_GJ cl Z J G) (N : Nat) (l : Launch) (D : va_G) (cy : am_cy) : ∀ d : Nat, am_Rn cl Z J d l D cy (am_run J G N d) := by
  intro d
  induction d with
  | zero => intro k as h r _ h2; cases h2
  | succ d ih =>
    intro k as h r hw h2
    unfold am_run at h2
    split at h2 <;> first | (cases h2; done) | skip
    rename_i r' hit
    cases h2
    obtain ⟨S', e1, e2⟩ := am_it_to (o := none) hG ih N _ _ hit
    have hMi : am_Mi (J k) := by
      obtain ⟨kd, hg, -, -⟩ := e1
      exact (hG k _ _ hg).2
    exact am_met hZ hMi hw hG e1 e2
end AMS
