section AMG
/-- an instruction: a step; a call (method, how many values, 0 static, 1 special, class + 2 virtual); an end (0 nothing, 1 int, 2 boolean, 3 reference) -/
abbrev am_n : Type := (am_s → Option am_s) ⊕ ((Nat × Nat × Nat) ⊕ Nat)
abbrev am_r : Type := Option am_v × am_h × Nat × Nat
def am_args : Nat → List am_v → am_l
  | _, [] => []
  | i, v :: vs => (i, v) :: am_args (bif am_isL v then i + 2 else i + 1) vs
theorem am_args_L (α : List Nat) : ∀ (i : Nat) (vs : List am_v), am_L α (am_args i vs) = lv_args i (vs.map (am_V α))
  | _, [] => rfl
  | i, v :: vs => by
    have h := am_args_L α (bif am_isL v then i + 2 else i + 1) vs
    have h2 : (if (am_V α v).category = 2 then i + 2 else i + 1) = (bif am_isL v then i + 2 else i + 1) := by
      match v with
      | .inl x => rfl
      | .inr (.inl x) => rfl
      | .inr (.inr none) => rfl
      | .inr (.inr (some i)) => rfl
    show (i, am_V α v) :: am_L α _ = (i, am_V α v) :: lv_args (if (am_V α v).category = 2 then i + 2 else i + 1) _
    rw [h2, h]
theorem am_sl (α : List Nat) : ∀ vs : List am_v, (lg_sl (vs.map (am_V α))).length = am_words vs
  | [] => rfl
  | v :: vs => by
    have h := am_sl α vs
    have h2 : lg_sl ((v :: vs).map (am_V α)) = (if (am_V α v).category = 2 then [Slot.val (am_V α v), .second] else [.val (am_V α v)]) ++ lg_sl (vs.map (am_V α)) := rfl
    rw [h2, List.length_append, h]
    match v with
    | .inl x => rfl
    | .inr (.inl x) => rfl
    | .inr (.inr none) => rfl
    | .inr (.inr (some i)) => rfl
def am_rc (kd : Nat) (h : am_h) (as : List am_v) : Bool := match kd, as with
  | 0, _ => true
  | 1, .inr (.inr (some _)) :: _ => true
  | ci + 2, .inr (.inr (some i)) :: _ => (match h[i]? with
    | some (.inr (c9, _)) => Nat.beq c9 ci
    | _ => false)
  | _, _ => false
def am_ret (kd : Nat) (st : List am_v) : Option (Option am_v) := match kd, st with
  | 0, [] => some none
  | 1, [.inl x] => some (some (.inl x))
  | 2, [.inl x] => if x = 0 ∨ x = 1 then some (some (.inl x)) else none
  | 3, [.inr (.inr r)] => some (some (.inr (.inr r)))
  | _, _ => none
def am_at (o : Option Nat) (pc : Nat) : Bool := match o with
  | none => false
  | some q => Nat.beq q pc
def am_call (J : Nat → am_i) (run : Nat → List am_v → am_h → Option am_r) (k na kd : Nat) (S : am_s) : Option am_s :=
  if na ≤ S.2.2.1.length ∧ am_words (S.2.2.1.drop na) ≤ 8 ∧ am_words (S.2.2.1.take na).reverse ≤ (J k).2.2.1 ∧ am_rc kd S.2.2.2.1 (S.2.2.1.take na).reverse = true then
    match run k (S.2.2.1.take na).reverse S.2.2.2.1 with
    | none => none
    | some r => if r.2.1.length = S.2.2.2.1.length ∨ (am_okL S.2.2.2.1.length S.2.1 = true ∧ (S.2.2.1.drop na).all (am_okV S.2.2.2.1.length) = true) then
        some (S.1 + 3, S.2.1, r.1.toList ++ S.2.2.1.drop na, r.2.1, S.2.2.2.2.1 + r.2.2.1, S.2.2.2.2.2 + r.2.2.2) else none
  else none
/-- a frame's instructions, till it ends or comes to a place -/
def am_it (J : Nat → am_i) (G : Nat → Nat → Option am_n) (run : Nat → List am_v → am_h → Option am_r) (j : Nat) (o : Option Nat) : Nat → am_s → Option (am_r ⊕ am_s)
  | 0, _ => none
  | n + 1, S => bif am_at o S.1 then some (.inr S) else match G j S.1 with
    | none => none
    | some (.inl f) => (match f S with
      | none => none
      | some S' => am_it J G run j o n S')
    | some (.inr (.inr kd)) => (match am_ret kd S.2.2.1 with
      | none => none
      | some r => some (.inl (r, S.2.2.2)))
    | some (.inr (.inl q)) => (match am_call J run q.1 q.2.1 q.2.2 S with
      | none => none
      | some S' => am_it J G run j o n S')
/-- a method's run; N: the most instructions of a frame; then the depth -/
def am_run (J : Nat → am_i) (G : Nat → Nat → Option am_n) (N : Nat) : Nat → Nat → List am_v → am_h → Option am_r
  | 0, _, _, _ => none
  | d + 1, k, as, h => (match am_it J G (am_run J G N d) k none N (0, am_args 0 as, [], h, 0, 0) with
    | some (.inl r) => some r
    | _ => none)
def am_rm (d mc ms : Nat) : Room := { frames := d + 1, cells := mc, slots := ms, locals := 60 * (d + 1) }
def am_Pre (D : va_G) (cl : List vw_C) (cy : am_cy) (Z : am_z) (vs : List am_v) (α : List Nat) (h : am_h) (sz : Nat) : Array Value → State → Prop := va_Pc (vs.map (am_V α)) (fun U => U.heap.size = sz ∧ va_P D cl (am_W cy α h) U.heap ∧ va_K D cl (am_T cy) U ∧ va_D (fun _ => True) (am_W cy α h) ∧ Z (va_A (am_W cy α h) sz) U)
def am_Post (D : va_G) (cl : List vw_C) (cy : am_cy) (α : List Nat) (h : am_h) (sz : Nat) (r : Option am_v) (h' : am_h) : Array Value → State → Outcome → State → Prop := fun _ st oc t => (∃ β : List Nat, oc = .returned (r.map (am_V (α ++ β))) ∧ (α ++ β).length = h'.length ∧ va_P D cl (am_W cy (α ++ β) h') t.heap ∧ va_D (va_A (am_W cy α h) sz) (am_W cy (α ++ β) h')) ∧ va_F (va_A (am_W cy α h) sz) st t
/-- a method's contract at one run -/
def am_Met (l : Launch) (D : va_G) (cl : List vw_C) (cy : am_cy) (Z : am_z) (K : am_i) (d : Nat) (vs : List am_v) (h : am_h) (r : am_r) : Prop := ∀ (α : List Nat) (sz : Nat), α.length = h.length → Met l K.2.2.2.2.1 K.2.2.2.1 (am_rm d r.2.2.1 r.2.2.2) (am_Pre D cl cy Z vs α h sz) (am_Post D cl cy α h sz r.1 r.2.1) r.2.2.1 r.2.2.2 (va_A (am_W cy α h) sz)
/-- the further facts of the start stay -/
def am_Zok (Z : am_z) : Prop := ∀ (A A' : Nat → Prop) (s U : State), Z A s → (∀ q, A' q → A q) → (∀ q, q < s.heap.size → ¬ A q → U.heap[q]? = s.heap[q]?) → s.WarmedH U.vm → Z A' U
/-- a call, given the callee's contract -/
def am_Cl (cl : List vw_C) (Z : am_z) (I K : am_i) (pc na kd : Nat) : Prop :=
  ∀ (p : Program) (l : Launch) (e : Env) (R : Room) (s : State) (m : MethodId) (args : Array Value) (below : List Frame) (meth : Method) (c : Code) (Q : State → Prop) (D : va_G) (cy : am_cy) (A : Nat → Prop) (d : Nat), am_C p R s m args meth c D cl cy A Z I → d + 2 ≤ R.frames → 60 * (d + 2) ≤ R.locals →
  ∀ (lv : am_l) (as rest : List am_v) (h : am_h) (k n : Nat) (r : am_r), as.length = na → am_words rest ≤ 8 → am_rc kd h as = true → am_Met l D cl cy Z K d as h r → k + r.2.2.1 ≤ R.cells → n + r.2.2.2 ≤ R.slots →
  (r.2.1.length = h.length ∨ (am_okL h.length lv = true ∧ rest.all (am_okV h.length) = true)) →
  ∀ (α : List Nat), (∀ β : List Nat, am_WA p l e R s m args below meth c Q D cl cy A I.2.2.1 (α ++ β) (pc + 3, lv, r.1.toList ++ rest, r.2.1, k + r.2.2.1, n + r.2.2.2)) → am_WA p l e R s m args below meth c Q D cl cy A I.2.2.1 α (pc, lv, as.reverse ++ rest, h, k, n)
def am_Rt (I : am_i) (pc kd : Nat) : Prop := (kd = 0 ∧ decode I.2.1 pc = .ok (.return_, 1) ∧ I.2.2.2.2.2 = none) ∨ (kd = 1 ∧ decode I.2.1 pc = .ok (.ireturn, 1) ∧ I.2.2.2.2.2 = some .int) ∨ (kd = 2 ∧ decode I.2.1 pc = .ok (.ireturn, 1) ∧ I.2.2.2.2.2 = some .boolean) ∨ (kd = 3 ∧ decode I.2.1 pc = .ok (.areturn, 1) ∧ ∃ n, I.2.2.2.2.2 = some (.object n))
def am_ok (cl : List vw_C) (Z : am_z) (J : Nat → am_i) (j pc : Nat) : am_n → Prop
  | .inl f => am_St cl Z (J j) pc f
  | .inr (.inl q) => am_Cl cl Z (J j) (J q.1) pc q.2.1 q.2.2
  | .inr (.inr kd) => am_Rt (J j) pc kd
def am_Mi (K : am_i) : Prop := (∃ ws', K.2.2.2.1 = Cond.code K.2.2.2.2.1 K.2.1 K.2.2.1 K.2.2.2.2.2 :: ws') ∧ plainName K.2.2.2.2.1.cls = true ∧ K.1 = K.2.2.2.2.1.cls
variable {p : Program} {l : Launch} {e : Env} {R : Room} {s : State} {m : MethodId} {args : Array Value} {below : List Frame} {meth : Method} {c : Code} {Q : State → Prop} {D : va_G} {cl : List vw_C} {cy : am_cy} {A : Nat → Prop} {nL : Nat} {Z : am_z} {I K : am_i} {pc : Nat} {H : Heap} {locs : List Loc}
theorem am_free {ws : va_W} {H0 : Heap} (hD : va_D A ws) (hS : va_S A H0 H locs) (hA : ∀ q, H0.size ≤ q → A q) : ∀ q, va_A ws H.size q → A q := fun q hq => by
  rcases hq with ⟨k, e, hk⟩ | hq
  · exact hD.2 k (q, e) hk
  · exact hA q (Nat.le_trans hS.1 hq)
/-- the row behind every call -/
theorem am_callR {α : List Nat} {h h' : am_h} {sz mc ms cells slots : Nat} {r : Option am_v} {a : Array Value} {st0 rest : List Value} {ls : Array Slot} {free A0 : Nat → Prop} {H0 : Heap} (hr : va_Run p l e R s m args below meth c H locs cells slots mc ms (F0 m pc ls st0) rest (am_Post D cl cy α h sz r h' a) free) (hS : va_S A0 H0 H locs) (hA : ∀ q, q < H.size → va_A (am_W cy α h) sz q → A0 q) (hf : ∀ q, free q → A0 q)
    (kk : ∀ (β : List Nat) (H1 : Heap) (locs1 : List Loc), (α ++ β).length = h'.length → va_P D cl (am_W cy (α ++ β) h') H1 → va_D (va_A (am_W cy α h) sz) (am_W cy (α ++ β) h') → va_S A0 H0 H1 locs1 → W p l e R s m args below meth c H1 locs1 (cells + mc) (slots + ms) Q (F0 m (pc + 3) ls ((r.map (am_V (α ++ β))).toList ++ rest))) : W p l e R s m args below meth c H locs cells slots Q (F0 m pc ls st0) := by
  intro T hT X
  obtain ⟨v, st₀, t, T', L, h0, X', hL, e1, e2, ⟨⟨β, hv, hb1, hb2, hb3⟩, hz, hk⟩, st⟩ := hr T hT X
  obtain rfl : v = r.map (am_V (α ++ β)) := by
    cases hv
    rfl
  rw [h0] at hz hk
  obtain ⟨t2, a1, b1⟩ := kk β T'.heap (locs ++ L) hb1 (by rw [e1]; exact hb2) hb3
    ⟨Nat.le_trans hS.1 (by rw [e1]; exact hz), fun q h1 h2 => by rw [e1, hk q (Nat.lt_of_lt_of_le h1 hS.1) (fun z => h2 (hA q (Nat.lt_of_lt_of_le h1 hS.1) z))]; exact hS.2.1 q h1 h2, fun q hq => by
      rcases List.mem_append.mp hq with h | h
      · exact hS.2.2 q h
      · exact hf _ (hL q h)⟩ T' rfl X'
  exact ⟨t2, st t2 a1, b1⟩
theorem am_blind (hZ : am_Zok Z) {vs : List am_v} {α : List Nat} {h : am_h} {sz : Nat} : FrameBlind (am_Pre D cl cy Z vs α h sz) := fun a U g mk q => by
  obtain ⟨q0, q1, qP, qK, qD, qZ⟩ := q
  exact ⟨q0, q1, qP, va_K.moved (u := U) (U := U.calling g mk a) (Vm.Alike.refl U.vm) qK, qD, hZ _ _ U (U.calling g mk a) qZ (fun _ z => z) (fun _ _ _ => rfl) (State.WarmedH.refl U)⟩
theorem am_preOf (hZ : am_Zok Z) (C : am_C p R s m args meth c D cl cy A Z I) {α : List Nat} {h : am_h} (as : List am_v) (hP : va_P D cl (am_W cy α h) H) (hD : va_D A (am_W cy α h)) (hS : va_S A s.heap H locs) : ∀ U : State, U.heap = H → s.WarmedH U.vm → am_Pre D cl cy Z as α h H.size (as.map (am_V α)).toArray U := fun U hU hW =>
  ⟨rfl, by rw [hU], by rw [hU]; exact hP, va_K.moved hW.alike C.2.1, hD.weaken (fun _ _ _ _ => trivial), hZ A _ s U C.2.2.2.1 (am_free hD hS C.2.2.1) (fun q h1 h2 => by rw [hU]; exact hS.2.1 q h1 h2) hW⟩
/-- behind a call -/
theorem am_behind {α β : List Nat} {lv : am_l} {rest : List am_v} {h : am_h} {r : am_r} {k n : Nat} {ls : Array Slot} {H1 : Heap} {locs1 : List Loc} (C : am_C p R s m args meth c D cl cy A Z I) (hlen : α.length = h.length) (hb : (α ++ β).length = r.2.1.length) (hfree : ∀ q, va_A (am_W cy α h) H.size q → A q) (hP1 : va_P D cl (am_W cy (α ++ β) r.2.1) H1) (hD1 : va_D (va_A (am_W cy α h) H.size) (am_W cy (α ++ β) r.2.1)) (hS1 : va_S A s.heap H1 locs1) (hl : lv_has ls I.2.2.1 (am_L α lv))
    (hg : r.2.1.length = h.length ∨ (am_okL h.length lv = true ∧ rest.all (am_okV h.length) = true))
    (hk : ∀ β : List Nat, am_WA p l e R s m args below meth c Q D cl cy A I.2.2.1 (α ++ β) (pc + 3, lv, r.1.toList ++ rest, r.2.1, k, n)) : W p l e R s m args below meth c H1 locs1 k n Q (F0 m (pc + 3) ls ((r.1.map (am_V (α ++ β))).toList ++ rest.map (am_V α))) := by
  have hL : am_L (α ++ β) lv = am_L α lv ∧ rest.map (am_V (α ++ β)) = rest.map (am_V α) := by
    rcases hg with hg | ⟨g1, g2⟩
    · have hβ : β = [] := by
        have h9 : α.length + β.length = h.length := by rw [← hg, ← hb]; simp
        exact List.length_eq_zero_iff.mp (by omega)
      subst hβ
      rw [List.append_nil]
      exact ⟨rfl, rfl⟩
    · exact ⟨am_L_app β (by rw [hlen]; exact g1), am_Vs_app β (by rw [hlen]; exact g2)⟩
  have h2 := hk β H1 locs1 ls hb hP1 ⟨hD1.1, fun k q hq => hfree _ (hD1.2 k q hq)⟩ hS1 (by show lv_has ls I.2.2.1 (am_L (α ++ β) lv); rw [hL.1]; exact hl)
  refine W.eq ?_ h2
  show F0 m (pc + 3) ls _ = F0 m (pc + 3) ls ((r.1.toList ++ rest).map (am_V (α ++ β)))
  rw [List.map_append, hL.2]
  cases r.1 <;> rfl
theorem as_callV (hZ : am_Zok Z) {C : String} {T : u_T} {N ci index n : Nat} {ws' : List Cond} (hd : decode I.2.1 pc = .ok (.invokevirtual index, 3)) (hg : GoodIn I.2.2.2.1 (wsV I.1 index C K.2.2.2.2.1 K.2.2.2.1)) (hw : K.2.2.2.1 = Cond.code K.2.2.2.2.1 K.2.1 K.2.2.1 K.2.2.2.2.2 :: ws') (hy : K.2.2.2.2.1.cls = C ∧ K.2.2.2.2.1.cls ≠ "java/lang/invoke/MethodHandle" ∧ K.2.2.2.2.1.cls ≠ "java/lang/invoke/VarHandle" ∧ (parseMethodDescriptor K.2.2.2.2.1.desc).map (fun d => d.parameters.length) = some n) (hc : cl[ci]? = some (C, T, N)) (hm : K.2.2.1 ≤ 40) : am_Cl cl Z I K pc (n + 1) (ci + 2) := by
  intro p l e R s m args below meth c Q D cy A d C hR1 hR2 lv as rest h k n9 r hna hw8 hrc hM hc1 hc2 hgo α hk
  intro H locs ls hlen hP hD hS hl
  match as, hna, hrc with
  | .inr (.inr (some i)) :: as, hna, hrc =>
    simp only [am_rc] at hrc
    split at hrc <;> first | (cases hrc; done) | skip
    rename_i c9 fs hx
    have hc9 : c9 = ci := Nat.eq_of_beq_eq_true hrc
    subst hc9
    have hl9 : α.length = h.length := hlen
    have hr1 : (d + 1) + 1 ≤ R.frames := by omega
    have hr2 : 8 + (K.2.2.1 + 11) + 60 * (d + 1) ≤ R.locals := by omega
    have hrun := va_runV (l := l) (e := e) (below := below) (meth := meth) (locs := locs) (cells := k) (slots := n9) (As := as.map (am_V α)) (rest := rest.map (am_V α)) (g := F0 m pc ls ((((.inr (.inr (some i)) :: as : List am_v).reverse ++ rest)).map (am_V α))) C.1 (hM α H.size hl9) (cwV (maxL := K.2.2.1) n C.1.2.2.2.2 hg hw rfl rfl hy ⟨hr1, hr2⟩) ⟨am_blind hZ, va_recv C.2.1 hP hc (am_W_get hlen hx), am_preOf hZ C (.inr (.inr (some i)) :: as) hP hD hS⟩ rfl (by rw [List.length_map]; have h9 : as.length + 1 = n + 1 := hna; omega) hl.1 (by
      show ((.inr (.inr (some i)) :: as : List am_v).reverse ++ rest).map (am_V α) = _
      rw [List.reverse_cons, List.append_assoc, List.map_append, List.map_append, List.map_reverse]
      rfl) (lv_room (by rw [am_words_eq]; exact hw8)) hd ⟨hc1, hc2⟩
    exact am_callR hrun hS (fun q _ z => am_free hD hS C.2.2.1 q z) (am_free hD hS C.2.2.1) (fun β H1 locs1 hb hP1 hD1 hS1 => am_behind C hl9 hb (am_free hD hS C.2.2.1) hP1 hD1 hS1 hl hgo hk)
theorem as_callS (hZ : am_Zok Z) {index n : Nat} {ws' : List Cond} (hd : decode I.2.1 pc = .ok (.invokestatic index, 3)) (hg : GoodIn I.2.2.2.1 (wsS I.1 index K.2.2.2.2.1 K.2.2.2.1)) (hw : K.2.2.2.1 = Cond.code K.2.2.2.2.1 K.2.1 K.2.2.1 K.2.2.2.2.2 :: ws') (hy : K.2.2.2.2.1.cls = I.1 ∧ K.2.2.2.2.1.cls ≠ "java/lang/invoke/MethodHandle" ∧ K.2.2.2.2.1.cls ≠ "java/lang/invoke/VarHandle" ∧ (parseMethodDescriptor K.2.2.2.2.1.desc).map (fun d => d.parameters.length) = some n) (hm : K.2.2.1 ≤ 40) : am_Cl cl Z I K pc n 0 := by
  intro p l e R s m args below meth c Q D cy A d C hR1 hR2 lv as rest h k n9 r hna hw8 hrc hM hc1 hc2 hgo α hk
  intro H locs ls hlen hP hD hS hl
  have hl9 : α.length = h.length := hlen
  have hr1 : (d + 1) + 1 ≤ R.frames := by omega
  have hr2 : 8 + (K.2.2.1 + 11) + 60 * (d + 1) ≤ R.locals := by omega
  have hrun := va_runS (l := l) (e := e) (below := below) (meth := meth) (locs := locs) (cells := k) (slots := n9) (As := as.map (am_V α)) (rest := rest.map (am_V α)) (g := F0 m pc ls ((as.reverse ++ rest).map (am_V α))) C.1 (hM α H.size hl9) (cwS (maxL := K.2.2.1) n C.1.2.2.2.2 hg hw rfl rfl hy ⟨hr1, hr2⟩) ⟨am_blind hZ, am_preOf hZ C as hP hD hS⟩ rfl (by rw [List.length_map]; exact hna) hl.1 (by
    show (as.reverse ++ rest).map (am_V α) = _
    rw [List.map_append, List.map_reverse]) (lv_room (by rw [am_words_eq]; exact hw8)) hd ⟨hc1, hc2⟩
  exact am_callR hrun hS (fun q _ z => am_free hD hS C.2.2.1 q z) (am_free hD hS C.2.2.1) (fun β H1 locs1 hb hP1 hD1 hS1 => am_behind C hl9 hb (am_free hD hS C.2.2.1) hP1 hD1 hS1 hl hgo hk)
theorem as_callI (hZ : am_Zok Z) {index n : Nat} {ws' : List Cond} (hd : decode I.2.1 pc = .ok (.invokespecial index, 3)) (hg : GoodIn I.2.2.2.1 K.2.2.2.1) (hw : K.2.2.2.1 = Cond.code K.2.2.2.2.1 K.2.1 K.2.2.1 K.2.2.2.2.2 :: ws') (hret : K.2.2.2.2.2 = none) (hy1 : K.2.2.2.2.1.name = "<init>") (hm1 : Cond.initialized K.2.2.2.2.1.cls ∈ I.2.2.2.1) (hm2 : Cond.methodLink I.1 index K.2.2.2.2.1 ∈ I.2.2.2.1) (hm3 : Cond.instanceMethod K.2.2.2.2.1 ∈ I.2.2.2.1) (hy : K.2.2.2.2.1.cls ≠ "java/lang/invoke/MethodHandle" ∧ K.2.2.2.2.1.cls ≠ "java/lang/invoke/VarHandle" ∧ (parseMethodDescriptor K.2.2.2.2.1.desc).map (fun d => d.parameters.length) = some n) (hm : K.2.2.1 ≤ 40) : am_Cl cl Z I K pc (n + 1) 1 := by
  intro p l e R s m args below meth c Q D cy A d C hR1 hR2 lv as rest h k n9 r hna hw8 hrc hM hc1 hc2 hgo α hk
  intro H locs ls hlen hP hD hS hl
  match as, hna, hrc with
  | .inr (.inr (some i)) :: as, hna, hrc =>
    have hl9 : α.length = h.length := hlen
    have hr1 : (d + 1) + 1 ≤ R.frames := by omega
    have hr2 : 8 + (K.2.2.1 + 11) + 60 * (d + 1) ≤ R.locals := by omega
    rw [hret] at hw
    have hrun := va_runI (l := l) (e := e) (below := below) (meth := meth) (locs := locs) (cells := k) (slots := n9) (As := as.map (am_V α)) (rest := rest.map (am_V α)) (b := α.getD i 0) (g := F0 m pc ls ((((.inr (.inr (some i)) :: as : List am_v).reverse ++ rest)).map (am_V α))) C.1 (hM α H.size hl9) (cwI (maxL := K.2.2.1) n C.1.2.2.2.2 hg hw rfl rfl (C.1.2.2.2.2 _ hm1) (C.1.2.2.2.2 _ hm2) (C.1.2.2.2.2 _ hm3) hy1 hy ⟨hr1, hr2⟩) ⟨am_blind hZ, am_preOf hZ C (.inr (.inr (some i)) :: as) hP hD hS⟩ rfl (by rw [List.length_map]; have h9 : as.length + 1 = n + 1 := hna; omega) hl.1 (by
      show ((.inr (.inr (some i)) :: as : List am_v).reverse ++ rest).map (am_V α) = _
      rw [List.reverse_cons, List.append_assoc, List.map_append, List.map_append, List.map_reverse]
      rfl) (lv_room (by rw [am_words_eq]; exact hw8)) hd ⟨hc1, hc2⟩
    exact am_callR hrun hS (fun q _ z => am_free hD hS C.2.2.1 q z) (am_free hD hS C.2.2.1) (fun β H1 locs1 hb hP1 hD1 hS1 => am_behind C hl9 hb (am_free hD hS C.2.2.1) hP1 hD1 hS1 hl hgo hk)
theorem as_callIN (hZ : am_Zok Z) {index n : Nat} {host : String} {ws' : List Cond} (hd : decode I.2.1 pc = .ok (.invokespecial index, 3)) (hg : GoodIn I.2.2.2.1 K.2.2.2.1) (hw : K.2.2.2.1 = Cond.code K.2.2.2.2.1 K.2.1 K.2.2.1 K.2.2.2.2.2 :: ws') (hret : K.2.2.2.2.2 = none) (hy1 : K.2.2.2.2.1.name = "<init>") (hm1 : Cond.initialized K.2.2.2.2.1.cls ∈ I.2.2.2.1) (hm2 : ∀ A s, Z A s → va_Nw (.methodLinkNest I.1 index K.2.2.2.2.1 host) s) (hm3 : Cond.instanceMethod K.2.2.2.2.1 ∈ I.2.2.2.1) (hy : K.2.2.2.2.1.cls ≠ "java/lang/invoke/MethodHandle" ∧ K.2.2.2.2.1.cls ≠ "java/lang/invoke/VarHandle" ∧ (parseMethodDescriptor K.2.2.2.2.1.desc).map (fun d => d.parameters.length) = some n) (hm : K.2.2.1 ≤ 40) : am_Cl cl Z I K pc (n + 1) 1 := by
  intro p l e R s m args below meth c Q D cy A d C hR1 hR2 lv as rest h k n9 r hna hw8 hrc hM hc1 hc2 hgo α hk
  intro H locs ls hlen hP hD hS hl
  match as, hna, hrc with
  | .inr (.inr (some i)) :: as, hna, hrc =>
    have hl9 : α.length = h.length := hlen
    have hr1 : (d + 1) + 1 ≤ R.frames := by omega
    have hr2 : 8 + (K.2.2.1 + 11) + 60 * (d + 1) ≤ R.locals := by omega
    rw [hret] at hw
    have hrun := va_runIN (l := l) (e := e) (below := below) (meth := meth) (locs := locs) (cells := k) (slots := n9) (As := as.map (am_V α)) (rest := rest.map (am_V α)) (b := α.getD i 0) (g := F0 m pc ls ((((.inr (.inr (some i)) :: as : List am_v).reverse ++ rest)).map (am_V α))) C.1 (hM α H.size hl9) ⟨va_cnB (maxL := K.2.2.1) n C.1.2.2.2.2 hg hw rfl rfl (hm2 A s C.2.2.2.1) (C.1.2.2.2.2 _ hm1) hy ⟨hr1, hr2⟩, hy1, C.1.2.2.2.2 _ hm3⟩ ⟨am_blind hZ, am_preOf hZ C (.inr (.inr (some i)) :: as) hP hD hS⟩ rfl (by rw [List.length_map]; have h9 : as.length + 1 = n + 1 := hna; omega) hl.1 (by
      show ((.inr (.inr (some i)) :: as : List am_v).reverse ++ rest).map (am_V α) = _
      rw [List.reverse_cons, List.append_assoc, List.map_append, List.map_append, List.map_reverse]
      rfl) (lv_room (by rw [am_words_eq]; exact hw8)) hd ⟨hc1, hc2⟩
    exact am_callR hrun hS (fun q _ z => am_free hD hS C.2.2.1 q z) (am_free hD hS C.2.2.1) (fun β H1 locs1 hb hP1 hD1 hS1 => am_behind C hl9 hb (am_free hD hS C.2.2.1) hP1 hD1 hS1 hl hgo hk)
theorem as_callSN (hZ : am_Zok Z) {index n : Nat} {host : String} {ws' : List Cond} (hd : decode I.2.1 pc = .ok (.invokestatic index, 3)) (hg : GoodIn I.2.2.2.1 K.2.2.2.1) (hw : K.2.2.2.1 = Cond.code K.2.2.2.2.1 K.2.1 K.2.2.1 K.2.2.2.2.2 :: ws') (hm1 : Cond.initialized K.2.2.2.2.1.cls ∈ I.2.2.2.1) (hm2 : ∀ A s, Z A s → va_Nw (.methodLinkNest I.1 index K.2.2.2.2.1 host) s) (hm3 : Cond.static K.2.2.2.2.1 ∈ I.2.2.2.1) (hy : K.2.2.2.2.1.cls ≠ "java/lang/invoke/MethodHandle" ∧ K.2.2.2.2.1.cls ≠ "java/lang/invoke/VarHandle" ∧ (parseMethodDescriptor K.2.2.2.2.1.desc).map (fun d => d.parameters.length) = some n) (hm : K.2.2.1 ≤ 40) : am_Cl cl Z I K pc n 0 := by
  intro p l e R s m args below meth c Q D cy A d C hR1 hR2 lv as rest h k n9 r hna hw8 hrc hM hc1 hc2 hgo α hk
  intro H locs ls hlen hP hD hS hl
  have hl9 : α.length = h.length := hlen
  have hr1 : (d + 1) + 1 ≤ R.frames := by omega
  have hr2 : 8 + (K.2.2.1 + 11) + 60 * (d + 1) ≤ R.locals := by omega
  have hrun := va_runSN (l := l) (e := e) (below := below) (meth := meth) (locs := locs) (cells := k) (slots := n9) (As := as.map (am_V α)) (rest := rest.map (am_V α)) (g := F0 m pc ls ((as.reverse ++ rest).map (am_V α))) C.1 (hM α H.size hl9) ⟨va_cnB (maxL := K.2.2.1) n C.1.2.2.2.2 hg hw rfl rfl (hm2 A s C.2.2.2.1) (C.1.2.2.2.2 _ hm1) hy ⟨hr1, hr2⟩, C.1.2.2.2.2 _ hm3, trivial⟩ ⟨am_blind hZ, am_preOf hZ C as hP hD hS⟩ rfl (by rw [List.length_map]; exact hna) hl.1 (by
    show (as.reverse ++ rest).map (am_V α) = _
    rw [List.map_append, List.map_reverse]) (lv_room (by rw [am_words_eq]; exact hw8)) hd ⟨hc1, hc2⟩
  exact am_callR hrun hS (fun q _ z => am_free hD hS C.2.2.1 q z) (am_free hD hS C.2.2.1) (fun β H1 locs1 hb hP1 hD1 hS1 => am_behind C hl9 hb (am_free hD hS C.2.2.1) hP1 hD1 hS1 hl hgo hk)
end AMG
