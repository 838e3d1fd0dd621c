section AMG
/-- an instruction: a step; a call (method, how many values, 0 static, 1 special, 2 static within the nest, class + 3 virtual); an end (0 nothing, 1 int, 2 boolean, 3 reference; 4 and on: throws) -/
abbrev am_n : Type := (am_s → Option am_s) ⊕ ((Nat × Nat × Nat) ⊕ Nat)
/-- what a method answers, or the number of what it throws; cells; how many were made -/
abbrev am_r : Type := (Option am_v ⊕ Nat) × am_h × Nat × Nat
def am_args : Nat → List am_v → am_l
  | _, [] => []
  | i, v :: vs => (i, v) :: am_args (bif am_isL v then i + 2 else i + 1) vs
theorem am_args_L (α : List Nat) : ∀ (i : Nat) (vs : List am_v), am_L α (am_args i vs) = lv_args i (vs.map (am_V α))
  | _, [] => rfl
  | i, v :: vs => by
    have h := am_args_L α (bif am_isL v then i + 2 else i + 1) vs
    have h2 : (if (am_V α v).category = 2 then i + 2 else i + 1) = (bif am_isL v then i + 2 else i + 1) := by
      match v with
      | .inl x => rfl
      | .inr (.inl x) => rfl
      | .inr (.inr none) => rfl
      | .inr (.inr (some i)) => rfl
    show (i, am_V α v) :: am_L α _ = (i, am_V α v) :: lv_args (if (am_V α v).category = 2 then i + 2 else i + 1) _
    rw [h2, h]
theorem am_sl (α : List Nat) : ∀ vs : List am_v, (lg_sl (vs.map (am_V α))).length = am_words vs
  | [] => rfl
  | v :: vs => by
    have h := am_sl α vs
    have h2 : lg_sl ((v :: vs).map (am_V α)) = (if (am_V α v).category = 2 then [Slot.val (am_V α v), .second] else [.val (am_V α v)]) ++ lg_sl (vs.map (am_V α)) := rfl
    rw [h2, List.length_append, h]
    match v with
    | .inl x => rfl
    | .inr (.inl x) => rfl
    | .inr (.inr none) => rfl
    | .inr (.inr (some i)) => rfl
def am_rc (kd : Nat) (h : am_h) (as : List am_v) : Bool := match kd, as with
  | 0, _ => true
  | 1, .inr (.inr (some _)) :: _ => true
  | 2, _ => true
  | ci + 3, .inr (.inr (some i)) :: _ => (match h[i]? with
    | some (.inr (c9, _)) => Nat.beq c9 ci
    | _ => false)
  | _, _ => false
def am_ret (kd : Nat) (st : List am_v) : Option (Option am_v) := match kd, st with
  | 0, [] => some none
  | 1, [.inl x] => some (some (.inl x))
  | 2, [.inl x] => if x = 0 ∨ x = 1 then some (some (.inl x)) else none
  | 3, [.inr (.inr r)] => some (some (.inr (.inr r)))
  | _, _ => none
/-- an end's result: an answer, or what is thrown -/
def am_fin (kd : Nat) (S : am_s) : Option am_r := match kd with
  | e + 4 => if am_words S.2.2.1 ≤ 8 then some (.inr e, S.2.2.2.1, S.2.2.2.2.1 + 1, S.2.2.2.2.2 + 6) else none
  | kd => (match am_ret kd S.2.2.1 with
    | none => none
    | some r => some (.inl r, S.2.2.2))
def am_at (o : Option Nat) (pc : Nat) : Bool := match o with
  | none => false
  | some q => Nat.beq q pc
/-- the handler's table: method, place, what is thrown: where one goes on (behind the store of what was thrown), into which local it went -/
abbrev am_t : Type := Nat → Nat → Nat → Option (Nat × Nat)
def am_del (lv : am_l) (i : Nat) : am_l := lv.filter (fun q => !(q.1 == i) && !(q.1 + 1 == i && am_isL q.2))
/-- a call: one goes on, or what is thrown goes through -/
def am_call (J : Nat → am_i) (X : am_t) (run : Nat → List am_v → am_h → Option am_r) (j k na kd : Nat) (S : am_s) : Option (am_s ⊕ am_r) :=
  if na ≤ S.2.2.1.length ∧ am_words (S.2.2.1.drop na) ≤ 8 ∧ am_words (S.2.2.1.take na).reverse ≤ (J k).2.2.1 ∧ am_rc kd S.2.2.2.1 (S.2.2.1.take na).reverse = true then
    match run k (S.2.2.1.take na).reverse S.2.2.2.1 with
    | none => none
    | some r => if r.2.1.length = S.2.2.2.1.length ∨ (am_okL S.2.2.2.1.length S.2.1 = true ∧ (S.2.2.1.drop na).all (am_okV S.2.2.2.1.length) = true) then
        (match r.1 with
        | .inl v => some (.inl (S.1 + 3, S.2.1, v.toList ++ S.2.2.1.drop na, r.2.1, S.2.2.2.2.1 + r.2.2.1, S.2.2.2.2.2 + r.2.2.2))
        | .inr e => if kd = 1 ∨ kd = 2 then none else (match X j S.1 e with
          | some q => some (.inl (q.1, am_del S.2.1 q.2, [], r.2.1, S.2.2.2.2.1 + r.2.2.1, S.2.2.2.2.2 + r.2.2.2))
          | none => if (J j).2.2.2.2.2.2 = [] then some (.inr (.inr e, r.2.1, S.2.2.2.2.1 + r.2.2.1, S.2.2.2.2.2 + r.2.2.2)) else none)) else none
  else none
/-- a frame's instructions, till it ends or comes to a place -/
def am_it (J : Nat → am_i) (X : am_t) (G : Nat → Nat → Option am_n) (run : Nat → List am_v → am_h → Option am_r) (j : Nat) (o : Option Nat) : Nat → am_s → Option (am_r ⊕ am_s)
  | 0, _ => none
  | n + 1, S => bif am_at o S.1 then some (.inr S) else match G j S.1 with
    | none => none
    | some (.inl f) => (match f S with
      | none => none
      | some S' => am_it J X G run j o n S')
    | some (.inr (.inr kd)) => (match am_fin kd S with
      | none => none
      | some r => some (.inl r))
    | some (.inr (.inl q)) => (match am_call J X run j q.1 q.2.1 q.2.2 S with
      | none => none
      | some (.inl S') => am_it J X G run j o n S'
      | some (.inr r) => some (.inl r))
/-- a method's run; N: the most instructions of a frame; then the depth -/
def am_run (J : Nat → am_i) (X : am_t) (G : Nat → Nat → Option am_n) (N : Nat) : Nat → Nat → List am_v → am_h → Option am_r
  | 0, _, _, _ => none
  | d + 1, k, as, h => (match am_it J X G (am_run J X G N d) k none N (0, am_args 0 as, [], h, 0, 0) with
    | some (.inl r) => some r
    | _ => none)
def am_rm (d mc ms : Nat) : Room := { frames := d + 11, cells := mc, slots := ms, locals := 60 * d + 300 }
def am_xn : Nat → String
  | 0 => "java/lang/IllegalArgumentException"
  | _ => "java/util/NoSuchElementException"
def am_Pre (D : va_G) (cl : List vw_C) (cy : am_cy) (Z : am_z) (vs : List am_v) (α : List Nat) (h : am_h) (sz : Nat) : Array Value → State → Prop := va_Pc (vs.map (am_V α)) (fun U => U.heap.size = sz ∧ va_P D cl (am_W cy α h) U.heap ∧ va_K D cl (am_T cy) U ∧ va_D (fun _ => True) (am_W cy α h) ∧ Z (va_A (am_W cy α h) sz) U)
/-- the world behind a method -/
def am_Wd (D : va_G) (cl : List vw_C) (cy : am_cy) (Y : am_y) (α : List Nat) (h : am_h) (sz : Nat) (h' : am_h) (β : List Nat) (t : State) : Prop := am_al Y (α ++ β) h' ∧ va_P D cl (am_W cy (α ++ β) h') t.heap ∧ va_D (va_A (am_W cy α h) sz) (am_W cy (α ++ β) h')
def am_Post (D : va_G) (cl : List vw_C) (cy : am_cy) (Y : am_y) (α : List Nat) (h : am_h) (sz : Nat) (r : am_r) : Array Value → State → Outcome → State → Prop := fun _ st oc t => (∃ (v : Option am_v) (β : List Nat), r.1 = .inl v ∧ oc = .returned (v.map (am_V (α ++ β))) ∧ am_Wd D cl cy Y α h sz r.2.1 β t) ∧ va_F (va_A (am_W cy α h) sz) st t
def am_Xc (D : va_G) (cl : List vw_C) (cy : am_cy) (Y : am_y) (α : List Nat) (h : am_h) (sz : Nat) (r : am_r) : String → State → State → Prop := fun E st t => (∃ (e : Nat) (β : List Nat), r.1 = .inr e ∧ E = am_xn e ∧ am_Wd D cl cy Y α h sz r.2.1 β t) ∧ va_F (va_A (am_W cy α h) sz) st t
/-- a method's contract at one run -/
def am_Met (l : Launch) (D : va_G) (cl : List vw_C) (cy : am_cy) (Y : am_y) (Z : am_z) (K : am_i) (d : Nat) (vs : List am_v) (h : am_h) (r : am_r) : Prop := ∀ (α : List Nat) (sz : Nat), am_al Y α h → vx_Met l K.2.2.2.2.1 K.2.2.2.1 (am_rm d r.2.2.1 r.2.2.2) (am_Pre D cl cy Z vs α h sz) (am_Post D cl cy Y α h sz r) (am_Xc D cl cy Y α h sz r) r.2.2.1 r.2.2.2 (va_A (am_W cy α h) sz)
/-- the further facts of the start stay -/
def am_Zok (Z : am_z) : Prop := ∀ (A A' : Nat → Prop) (s U : State), Z A s → (∀ q, A' q → A q) → s.heap.size ≤ U.heap.size → (∀ q, q < s.heap.size → ¬ A q → U.heap[q]? = s.heap[q]?) → s.WarmedH U.vm → Z A' U
/-- a call, given the callee's contract: it answers, or it throws -/
def am_Cl (cl : List vw_C) (Y : am_y) (Z : am_z) (I K : am_i) (pc na kd : Nat) : Prop :=
  ∀ (p : Program) (l : Launch) (e : Env) (R : Room) (s : State) (m : MethodId) (args : Array Value) (below : List Frame) (meth : Method) (c : Code) (Q : State → Prop) (D : va_G) (cy : am_cy) (A : Nat → Prop) (d : Nat), am_C p R s m args meth c D cl cy A Z I → d + 12 ≤ R.frames → 60 * d + 360 ≤ R.locals →
  ∀ (lv : am_l) (as rest : List am_v) (h : am_h) (k n : Nat) (r : am_r), as.length = na → am_words rest ≤ 8 → am_rc kd h as = true → am_Met l D cl cy Y Z K d as h r → (kd = 1 ∨ kd = 2 → ∃ v, r.1 = .inl v) → k + r.2.2.1 ≤ R.cells → n + r.2.2.2 ≤ R.slots →
  ∀ (α : List Nat) (H : Heap) (locs : List Loc) (ls : Array Slot), am_al Y α h → va_P D cl (am_W cy α h) H → va_D A (am_W cy α h) → va_S A s.heap H locs → lv_has ls I.2.2.1 (am_L α lv) →
  (∀ (v : Option am_v) (β : List Nat) (H1 : Heap) (locs1 : List Loc), r.1 = .inl v → am_al Y (α ++ β) r.2.1 → va_P D cl (am_W cy (α ++ β) r.2.1) H1 → va_D A (am_W cy (α ++ β) r.2.1) → va_S A s.heap H1 locs1 → W p l e R s m args below meth c H1 locs1 (k + r.2.2.1) (n + r.2.2.2) Q (F0 m (pc + 3) ls ((v.map (am_V (α ++ β))).toList ++ rest.map (am_V α)))) →
  (∀ (x : Nat) (β : List Nat) (H1 : Heap) (locs1 : List Loc) (q : Addr) (ce : Cell), r.1 = .inr x → am_al Y (α ++ β) r.2.1 → va_P D cl (am_W cy (α ++ β) r.2.1) H1 → va_D A (am_W cy (α ++ β) r.2.1) → va_S A s.heap H1 locs1 → H1[q]? = some ce → ce.vm = .none → s.vm.findClass (am_xn x) = some ce.cls → vx_W p l e R s m args below meth c H1 locs1 (k + r.2.2.1) (n + r.2.2.2) Q (F0 m pc ls (rest.map (am_V α))) q) →
  W p l e R s m args below meth c H locs k n Q (F0 m pc ls ((as.reverse ++ rest).map (am_V α)))
def am_Rt (I : am_i) (pc kd : Nat) : Prop := (kd = 0 ∧ decode I.2.1 pc = .ok (.return_, 1) ∧ I.2.2.2.2.2.1 = none) ∨ (kd = 1 ∧ decode I.2.1 pc = .ok (.ireturn, 1) ∧ I.2.2.2.2.2.1 = some .int) ∨ (kd = 2 ∧ decode I.2.1 pc = .ok (.ireturn, 1) ∧ I.2.2.2.2.2.1 = some .boolean) ∨ (kd = 3 ∧ decode I.2.1 pc = .ok (.areturn, 1) ∧ ∃ rt, I.2.2.2.2.2.1 = some rt ∧ ((∃ n, rt = .object n) ∨ ∃ t, rt = .array t))
/-- a throw: the end of the frame -/
def am_Tw (cl : List vw_C) (Z : am_z) (I : am_i) (pc x : Nat) : Prop :=
  ∀ (p : Program) (l : Launch) (e : Env) (R : Room) (s : State) (m : MethodId) (args : Array Value) (below : List Frame) (meth : Method) (c : Code) (D : va_G) (cy : am_cy) (A : Nat → Prop) (Qc : Array Value → State → Outcome → State → Prop) (XC : String → State → State → Prop) (free : Addr → Prop) (mc ms : Nat), am_C p R s m args meth c D cl cy A Z I → l.stackTraces = false →
  ∀ (rest : List Value) (k n : Nat) (H : Heap) (locs : List Loc) (ls : Array Slot), (rest.map fun v => v.category).sum ≤ 8 → k + 1 ≤ mc → n + 6 ≤ ms → mc ≤ R.cells → ms ≤ R.slots → va_S A s.heap H locs → ls.size = c.maxLocals → (∀ z ∈ locs, free z.base) →
  (∀ t : State, s.vm.Alike t.vm → H.size ≤ t.heap.size → (∀ q : Nat, q < H.size → t.heap[q]? = H[q]?) → XC (am_xn x) s t) →
  W p l e R s m args below meth c H locs k n (vx_MQ below Qc XC args s mc ms free) (F0 m pc ls rest)
def am_En (cl : List vw_C) (Z : am_z) (I : am_i) (pc : Nat) : Nat → Prop
  | x + 4 => am_Tw cl Z I pc x
  | kd => am_Rt I pc kd
/-- a handler: what was thrown at pc goes into local q.2, one goes on at q.1 -/
def am_Ct (cl : List vw_C) (Z : am_z) (I : am_i) (pc x : Nat) (q : Nat × Nat) : Prop :=
  ∀ (p : Program) (l : Launch) (e : Env) (R : Room) (s : State) (m : MethodId) (args : Array Value) (below : List Frame) (meth : Method) (c : Code) (Q : State → Prop) (D : va_G) (cy : am_cy) (A : Nat → Prop), am_C p R s m args meth c D cl cy A Z I →
  ∀ (lv : List (Nat × Value)) (rest : List Value) (k n : Nat) (H : Heap) (locs : List Loc) (ls : Array Slot) (a : Addr) (ce : Cell), lv_has ls I.2.2.1 lv → H[a]? = some ce → ce.vm = .none → s.vm.findClass (am_xn x) = some ce.cls →
  (∀ ls' : Array Slot, lv_has ls' I.2.2.1 (lv.filter (fun z => !(z.1 == q.2) && !(z.1 + 1 == q.2 && z.2.category == 2))) → W p l e R s m args below meth c H locs k n Q (F0 m q.1 ls' [])) →
  vx_W p l e R s m args below meth c H locs k n Q (F0 m pc ls rest) a
def am_ok (cl : List vw_C) (Y : am_y) (Z : am_z) (J : Nat → am_i) (j pc : Nat) : am_n → Prop
  | .inl f => am_St cl Y Z (J j) pc f
  | .inr (.inl q) => am_Cl cl Y Z (J j) (J q.1) pc q.2.1 q.2.2
  | .inr (.inr kd) => am_En cl Z (J j) pc kd
def am_Mi (K : am_i) : Prop := (∃ ws', (K.2.2.2.1 = Cond.code K.2.2.2.2.1 K.2.1 K.2.2.1 K.2.2.2.2.2.1 :: ws' ∧ K.2.2.2.2.2.2 = [] ∧ plainFor K.2.2.2.2.1 = true) ∨ (K.2.2.2.1 = Cond.codeWith K.2.2.2.2.1 K.2.1 K.2.2.1 K.2.2.2.2.2.1 K.2.2.2.2.2.2 :: ws' ∧ plainName K.2.2.2.2.1.cls = true)) ∧ K.1 = K.2.2.2.2.1.cls
variable {p : Program} {l : Launch} {e : Env} {R : Room} {s : State} {m : MethodId} {args : Array Value} {below : List Frame} {meth : Method} {c : Code} {Q : State → Prop} {D : va_G} {cl : List vw_C} {cy : am_cy} {Y : am_y} {A : Nat → Prop} {nL : Nat} {Z : am_z} {I K : am_i} {pc : Nat} {H : Heap} {locs : List Loc}
theorem am_free {ws : va_W} {H0 : Heap} (hD : va_D A ws) (hS : va_S A H0 H locs) (hA : ∀ q, H0.size ≤ q → A q) : ∀ q, va_A ws H.size q → A q := fun q hq => by
  rcases hq with ⟨k, e, hk⟩ | hq
  · exact hD.2 k (q, e) hk
  · exact hA q (Nat.le_trans hS.1 hq)
set_option maxRecDepth 100000 in
theorem am_hr2 {k d r : Nat} (hm : k ≤ 40) (h : 60 * d + 360 ≤ r) : 8 + (k + 11) + (60 * d + 300) ≤ r := by omega
/-- the row behind every call -/
theorem am_callR {α : List Nat} {h : am_h} {mc ms cells slots : Nat} {r : am_r} {a : Array Value} {st0 rest : List Value} {ls : Array Slot} (hD : va_D A (am_W cy α h)) (hA : ∀ q, s.heap.size ≤ q → A q) (hr : vx_Run p l e R s m args below meth c H locs cells slots mc ms (F0 m pc ls st0) rest (am_Post D cl cy Y α h H.size r a) (am_Xc D cl cy Y α h H.size r) (va_A (am_W cy α h) H.size)) (hS : va_S A s.heap H locs)
    (kk : ∀ (v : Option am_v) (β : List Nat) (H1 : Heap) (locs1 : List Loc), r.1 = .inl v → am_al Y (α ++ β) r.2.1 → va_P D cl (am_W cy (α ++ β) r.2.1) H1 → va_D A (am_W cy (α ++ β) r.2.1) → va_S A s.heap H1 locs1 → W p l e R s m args below meth c H1 locs1 (cells + mc) (slots + ms) Q (F0 m (pc + 3) ls ((v.map (am_V (α ++ β))).toList ++ rest)))
    (kx : ∀ (x : Nat) (β : List Nat) (H1 : Heap) (locs1 : List Loc) (q : Addr) (ce : Cell), r.1 = .inr x → am_al Y (α ++ β) r.2.1 → va_P D cl (am_W cy (α ++ β) r.2.1) H1 → va_D A (am_W cy (α ++ β) r.2.1) → va_S A s.heap H1 locs1 → H1[q]? = some ce → ce.vm = .none → s.vm.findClass (am_xn x) = some ce.cls → vx_W p l e R s m args below meth c H1 locs1 (cells + mc) (slots + ms) Q (F0 m pc ls rest) q) : W p l e R s m args below meth c H locs cells slots Q (F0 m pc ls st0) := by
  have hfree := am_free hD hS hA
  intro T hT X
  rcases hr T hT X with ⟨v, st₀, t, T', L, h0, X', hL, e1, e2, ⟨⟨v9, β, hr1, hv, b1, b2, b3⟩, hF⟩, st⟩ | ⟨q, st₀, t, T', L, E, ce, h0, X', hL, e1, e2, ⟨⟨x, β, hr1, rfl, b1, b2, b3⟩, hF⟩, hce, hcv, hcl, st⟩
  · obtain rfl : v = v9.map (am_V (α ++ β)) := by
      cases hv
      rfl
    obtain ⟨k1, k2, k3⟩ := vx_keep h0 e1 hS (fun q _ z => hfree q z) hfree hL hF
    obtain ⟨t2, a1, b9⟩ := kk v9 β T'.heap (locs ++ L) hr1 b1 (by rw [e1]; exact b2) ⟨b3.1, fun k q hq => hfree _ (b3.2 k q hq)⟩ k3 T' rfl X'
    exact ⟨t2, st t2 a1, b9⟩
  · obtain ⟨k1, k2, k3⟩ := vx_keep h0 e1 hS (fun q _ z => hfree q z) hfree hL hF
    obtain ⟨t2, a1, b9⟩ := kx x β T'.heap (locs ++ L) q ce hr1 b1 (by rw [e1]; exact b2) ⟨b3.1, fun k q hq => hfree _ (b3.2 k q hq)⟩ k3 (by rw [e1]; exact hce) hcv hcl T' rfl X'
    exact ⟨t2, st.trans a1, b9⟩
/-- .. of one that only answers -/
theorem am_callM {α : List Nat} {h : am_h} {mc ms cells slots : Nat} {r : am_r} {a : Array Value} {st0 rest : List Value} {ls : Array Slot} (hD : va_D A (am_W cy α h)) (hA : ∀ q, s.heap.size ≤ q → A q) (hr : va_Run p l e R s m args below meth c H locs cells slots mc ms (F0 m pc ls st0) rest (am_Post D cl cy Y α h H.size r a) (va_A (am_W cy α h) H.size)) (hS : va_S A s.heap H locs)
    (kk : ∀ (v : Option am_v) (β : List Nat) (H1 : Heap) (locs1 : List Loc), r.1 = .inl v → am_al Y (α ++ β) r.2.1 → va_P D cl (am_W cy (α ++ β) r.2.1) H1 → va_D A (am_W cy (α ++ β) r.2.1) → va_S A s.heap H1 locs1 → W p l e R s m args below meth c H1 locs1 (cells + mc) (slots + ms) Q (F0 m (pc + 3) ls ((v.map (am_V (α ++ β))).toList ++ rest))) : W p l e R s m args below meth c H locs cells slots Q (F0 m pc ls st0) := by
  have hfree := am_free hD hS hA
  intro T hT X
  obtain ⟨v, st₀, t, T', L, h0, X', hL, e1, e2, ⟨⟨v9, β, hr1, hv, b1, b2, b3⟩, hF⟩, st⟩ := hr T hT X
  obtain rfl : v = v9.map (am_V (α ++ β)) := by
    cases hv
    rfl
  obtain ⟨k1, k2, k3⟩ := vx_keep h0 e1 hS (fun q _ z => hfree q z) hfree hL hF
  obtain ⟨t2, a1, b9⟩ := kk v9 β T'.heap (locs ++ L) hr1 b1 (by rw [e1]; exact b2) ⟨b3.1, fun k q hq => hfree _ (b3.2 k q hq)⟩ k3 T' rfl X'
  exact ⟨t2, st t2 a1, b9⟩
theorem am_blind (hZ : am_Zok Z) {vs : List am_v} {α : List Nat} {h : am_h} {sz : Nat} : FrameBlind (am_Pre D cl cy Z vs α h sz) := fun a U g mk q => by
  obtain ⟨q0, q1, qP, qK, qD, qZ⟩ := q
  exact ⟨q0, q1, qP, va_K.moved (u := U) (U := U.calling g mk a) (Vm.Alike.refl U.vm) qK, qD, hZ _ _ U (U.calling g mk a) qZ (fun _ z => z) (Nat.le_refl _) (fun _ _ _ => rfl) (State.WarmedH.refl U)⟩
theorem am_preOf (hZ : am_Zok Z) (C : am_C p R s m args meth c D cl cy A Z I) {α : List Nat} {h : am_h} (as : List am_v) (hP : va_P D cl (am_W cy α h) H) (hD : va_D A (am_W cy α h)) (hS : va_S A s.heap H locs) : ∀ U : State, U.heap = H → s.WarmedH U.vm → am_Pre D cl cy Z as α h H.size (as.map (am_V α)).toArray U := fun U hU hW =>
  ⟨rfl, by rw [hU], by rw [hU]; exact hP, va_K.moved hW.alike C.2.1, hD.weaken (fun _ _ _ _ => trivial), hZ A _ s U C.2.2.2.1 (am_free hD hS C.2.2.1) (by rw [hU]; exact hS.1) (fun q h1 h2 => by rw [hU]; exact hS.2.1 q h1 h2) hW⟩
/-- a contract of one that answers, as the plain calls take it -/
theorem am_plain {y : MethodName} {ws : List Cond} {rm : Room} {Pc : Array Value → State → Prop} {α : List Nat} {h : am_h} {sz mc ms : Nat} {r : am_r} {free : Addr → Prop} (hv : ∃ v, r.1 = .inl v) (hM : vx_Met l y ws rm Pc (am_Post D cl cy Y α h sz r) (am_Xc D cl cy Y α h sz r) mc ms free) : Met l y ws rm Pc (am_Post D cl cy Y α h sz r) mc ms free := by
  intro p e ha hc hk s m args below hf hfit hheap happ
  obtain ⟨k, o, h1, h2, h3, h4⟩ := hM p e ha hc hk s m args below hf hfit hheap happ
  refine ⟨k, o, h1, h2, h3, ?_⟩
  rcases h4 with h4 | ⟨q, rfl, E, ce, L, ⟨⟨x, β, hx, -⟩, -⟩, -⟩
  · exact h4
  · obtain ⟨v, hv⟩ := hv
    rw [hv] at hx
    cases hx
theorem as_callV (hZ : am_Zok Z) {C : String} {T : u_T} {N ci index n : Nat} {ws' : List Cond} (hd : decode I.2.1 pc = .ok (.invokevirtual index, 3)) (hg : GoodIn I.2.2.2.1 (wsV I.1 index C K.2.2.2.2.1 K.2.2.2.1)) (hw : K.2.2.2.1 = Cond.code K.2.2.2.2.1 K.2.1 K.2.2.1 K.2.2.2.2.2.1 :: ws') (hy : K.2.2.2.2.1.cls = C ∧ K.2.2.2.2.1.cls ≠ "java/lang/invoke/MethodHandle" ∧ K.2.2.2.2.1.cls ≠ "java/lang/invoke/VarHandle" ∧ (parseMethodDescriptor K.2.2.2.2.1.desc).map (fun d => d.parameters.length) = some n) (hc : cl[ci]? = some (C, T, N)) (hm : K.2.2.1 ≤ 40) : am_Cl cl Y Z I K pc (n + 1) (ci + 3) := by
  intro p l e R s m args below meth c Q D cy A d C hR1 hR2 lv as rest h k n9 r hna hw8 hrc hM hno hc1 hc2 α H locs ls hlen hP hD hS hl kk kx
  match as, hna, hrc with
  | .inr (.inr (some i)) :: as, hna, hrc =>
    simp only [am_rc] at hrc
    split at hrc <;> first | (cases hrc; done) | skip
    rename_i c9 fs hx
    have hc9 : c9 = ci := Nat.eq_of_beq_eq_true hrc
    subst hc9
    have hr1 : (d + 11) + 1 ≤ R.frames := by omega
    have hr2 : 8 + (K.2.2.1 + 11) + (60 * d + 300) ≤ R.locals := am_hr2 hm hR2
    have hrun := vx_runV (l := l) (e := e) (below := below) (meth := meth) (locs := locs) (cells := k) (slots := n9) (As := as.map (am_V α)) (rest := rest.map (am_V α)) (g := F0 m pc ls ((((.inr (.inr (some i)) :: as : List am_v).reverse ++ rest)).map (am_V α))) C.1 (hM α H.size hlen) (cwV (maxL := K.2.2.1) n C.1.2.2.2.2 hg hw rfl rfl hy ⟨hr1, hr2⟩) ⟨am_blind hZ, va_recv C.2.1 hP hc (am_W_get hlen hx (am_al.ne hlen hx (fun xs z => by cases z))), am_preOf hZ C (.inr (.inr (some i)) :: as) hP hD hS⟩ rfl (by rw [List.length_map]; have h9 : as.length + 1 = n + 1 := hna; omega) hl.1 (by
      show ((.inr (.inr (some i)) :: as : List am_v).reverse ++ rest).map (am_V α) = _
      rw [List.reverse_cons, List.append_assoc, List.map_append, List.map_append, List.map_reverse]
      rfl) (lv_room (by rw [am_words_eq]; exact hw8)) hd ⟨hc1, hc2⟩
    exact am_callR hD C.2.2.1 hrun hS kk kx
theorem as_callS (hZ : am_Zok Z) {index n : Nat} {ws' : List Cond} (hd : decode I.2.1 pc = .ok (.invokestatic index, 3)) (hg : GoodIn I.2.2.2.1 (va_wsS I.1 index K.2.2.2.2.1 K.2.2.2.1)) (hw : K.2.2.2.1 = Cond.code K.2.2.2.2.1 K.2.1 K.2.2.1 K.2.2.2.2.2.1 :: ws') (hy : K.2.2.2.2.1.cls ≠ "java/lang/invoke/MethodHandle" ∧ K.2.2.2.2.1.cls ≠ "java/lang/invoke/VarHandle" ∧ (parseMethodDescriptor K.2.2.2.2.1.desc).map (fun d => d.parameters.length) = some n) (hm : K.2.2.1 ≤ 40) : am_Cl cl Y Z I K pc n 0 := by
  intro p l e R s m args below meth c Q D cy A d C hR1 hR2 lv as rest h k n9 r hna hw8 hrc hM hno hc1 hc2 α H locs ls hlen hP hD hS hl kk kx
  have hr1 : (d + 11) + 1 ≤ R.frames := by omega
  have hr2 : 8 + (K.2.2.1 + 11) + (60 * d + 300) ≤ R.locals := am_hr2 hm hR2
  have hrun := vx_runS (l := l) (e := e) (below := below) (meth := meth) (locs := locs) (cells := k) (slots := n9) (As := as.map (am_V α)) (rest := rest.map (am_V α)) (g := F0 m pc ls ((as.reverse ++ rest).map (am_V α))) C.1 (hM α H.size hlen) (va_cwS (maxL := K.2.2.1) n C.1.2.2.2.2 hg hw rfl rfl hy ⟨hr1, hr2⟩) ⟨am_blind hZ, am_preOf hZ C as hP hD hS⟩ rfl (by rw [List.length_map]; exact hna) hl.1 (by
    show (as.reverse ++ rest).map (am_V α) = _
    rw [List.map_append, List.map_reverse]) (lv_room (by rw [am_words_eq]; exact hw8)) hd ⟨hc1, hc2⟩
  exact am_callR hD C.2.2.1 hrun hS kk kx
/-- a static method with handlers -/
theorem as_callSX (hZ : am_Zok Z) {index n : Nat} {ws' : List Cond} (hd : decode I.2.1 pc = .ok (.invokestatic index, 3)) (hg : GoodIn I.2.2.2.1 (va_wsS I.1 index K.2.2.2.2.1 K.2.2.2.1)) (hw : K.2.2.2.1 = Cond.codeWith K.2.2.2.2.1 K.2.1 K.2.2.1 K.2.2.2.2.2.1 K.2.2.2.2.2.2 :: ws') (hy : K.2.2.2.2.1.cls ≠ "java/lang/invoke/MethodHandle" ∧ K.2.2.2.2.1.cls ≠ "java/lang/invoke/VarHandle" ∧ (parseMethodDescriptor K.2.2.2.2.1.desc).map (fun d => d.parameters.length) = some n) (hm : K.2.2.1 ≤ 40) : am_Cl cl Y Z I K pc n 0 := by
  intro p l e R s m args below meth c Q D cy A d C hR1 hR2 lv as rest h k n9 r hna hw8 hrc hM hno hc1 hc2 α H locs ls hlen hP hD hS hl kk kx
  have hr1 : (d + 11) + 1 ≤ R.frames := by omega
  have hr2 : 8 + (K.2.2.1 + 11) + (60 * d + 300) ≤ R.locals := am_hr2 hm hR2
  have hrun := vx_runSX (l := l) (e := e) (below := below) (meth := meth) (locs := locs) (cells := k) (slots := n9) (As := as.map (am_V α)) (rest := rest.map (am_V α)) (g := F0 m pc ls ((as.reverse ++ rest).map (am_V α))) C.1 (hM α H.size hlen) (vx_cwSW (maxL := K.2.2.1) n C.1.2.2.2.2 hg hw rfl rfl hy ⟨hr1, hr2⟩) ⟨am_blind hZ, am_preOf hZ C as hP hD hS⟩ rfl (by rw [List.length_map]; exact hna) hl.1 (by
    show (as.reverse ++ rest).map (am_V α) = _
    rw [List.map_append, List.map_reverse]) (lv_room (by rw [am_words_eq]; exact hw8)) hd ⟨hc1, hc2⟩
  exact am_callR hD C.2.2.1 hrun hS kk kx
theorem as_callI (hZ : am_Zok Z) {index n : Nat} {ws' : List Cond} (hd : decode I.2.1 pc = .ok (.invokespecial index, 3)) (hg : GoodIn I.2.2.2.1 K.2.2.2.1) (hw : K.2.2.2.1 = Cond.code K.2.2.2.2.1 K.2.1 K.2.2.1 K.2.2.2.2.2.1 :: ws') (hret : K.2.2.2.2.2.1 = none) (hy1 : K.2.2.2.2.1.name = "<init>") (hm1 : Cond.initialized K.2.2.2.2.1.cls ∈ I.2.2.2.1) (hm2 : Cond.methodLink I.1 index K.2.2.2.2.1 ∈ I.2.2.2.1) (hm3 : Cond.instanceMethod K.2.2.2.2.1 ∈ I.2.2.2.1) (hy : K.2.2.2.2.1.cls ≠ "java/lang/invoke/MethodHandle" ∧ K.2.2.2.2.1.cls ≠ "java/lang/invoke/VarHandle" ∧ (parseMethodDescriptor K.2.2.2.2.1.desc).map (fun d => d.parameters.length) = some n) (hm : K.2.2.1 ≤ 40) : am_Cl cl Y Z I K pc (n + 1) 1 := by
  intro p l e R s m args below meth c Q D cy A d C hR1 hR2 lv as rest h k n9 r hna hw8 hrc hM hno hc1 hc2 α H locs ls hlen hP hD hS hl kk kx
  match as, hna, hrc with
  | .inr (.inr (some i)) :: as, hna, hrc =>
    have hr1 : (d + 11) + 1 ≤ R.frames := by omega
    have hr2 : 8 + (K.2.2.1 + 11) + (60 * d + 300) ≤ R.locals := am_hr2 hm hR2
    rw [hret] at hw
    have hrun := va_runI (l := l) (e := e) (below := below) (meth := meth) (locs := locs) (cells := k) (slots := n9) (As := as.map (am_V α)) (rest := rest.map (am_V α)) (b := α.getD i 0) (g := F0 m pc ls ((((.inr (.inr (some i)) :: as : List am_v).reverse ++ rest)).map (am_V α))) C.1 (am_plain (hno (Or.inl rfl)) (hM α H.size hlen)) (cwI (maxL := K.2.2.1) n C.1.2.2.2.2 hg hw rfl rfl (C.1.2.2.2.2 _ hm1) (C.1.2.2.2.2 _ hm2) (C.1.2.2.2.2 _ hm3) hy1 hy ⟨hr1, hr2⟩) ⟨am_blind hZ, am_preOf hZ C (.inr (.inr (some i)) :: as) hP hD hS⟩ rfl (by rw [List.length_map]; have h9 : as.length + 1 = n + 1 := hna; omega) hl.1 (by
      show ((.inr (.inr (some i)) :: as : List am_v).reverse ++ rest).map (am_V α) = _
      rw [List.reverse_cons, List.append_assoc, List.map_append, List.map_append, List.map_reverse]
      rfl) (lv_room (by rw [am_words_eq]; exact hw8)) hd ⟨hc1, hc2⟩
    exact am_callM hD C.2.2.1 hrun hS kk
theorem as_callIN (hZ : am_Zok Z) {index n : Nat} {host : String} {ws' : List Cond} (hd : decode I.2.1 pc = .ok (.invokespecial index, 3)) (hg : GoodIn I.2.2.2.1 K.2.2.2.1) (hw : K.2.2.2.1 = Cond.code K.2.2.2.2.1 K.2.1 K.2.2.1 K.2.2.2.2.2.1 :: ws') (hret : K.2.2.2.2.2.1 = none) (hy1 : K.2.2.2.2.1.name = "<init>") (hm1 : Cond.initialized K.2.2.2.2.1.cls ∈ I.2.2.2.1) (hm2 : ∀ A s, Z A s → va_Nw (.methodLinkNest I.1 index K.2.2.2.2.1 host) s) (hm3 : Cond.instanceMethod K.2.2.2.2.1 ∈ I.2.2.2.1) (hy : K.2.2.2.2.1.cls ≠ "java/lang/invoke/MethodHandle" ∧ K.2.2.2.2.1.cls ≠ "java/lang/invoke/VarHandle" ∧ (parseMethodDescriptor K.2.2.2.2.1.desc).map (fun d => d.parameters.length) = some n) (hm : K.2.2.1 ≤ 40) : am_Cl cl Y Z I K pc (n + 1) 1 := by
  intro p l e R s m args below meth c Q D cy A d C hR1 hR2 lv as rest h k n9 r hna hw8 hrc hM hno hc1 hc2 α H locs ls hlen hP hD hS hl kk kx
  match as, hna, hrc with
  | .inr (.inr (some i)) :: as, hna, hrc =>
    have hr1 : (d + 11) + 1 ≤ R.frames := by omega
    have hr2 : 8 + (K.2.2.1 + 11) + (60 * d + 300) ≤ R.locals := am_hr2 hm hR2
    rw [hret] at hw
    have hrun := va_runIN (l := l) (e := e) (below := below) (meth := meth) (locs := locs) (cells := k) (slots := n9) (As := as.map (am_V α)) (rest := rest.map (am_V α)) (b := α.getD i 0) (g := F0 m pc ls ((((.inr (.inr (some i)) :: as : List am_v).reverse ++ rest)).map (am_V α))) C.1 (am_plain (hno (Or.inl rfl)) (hM α H.size hlen)) ⟨va_cnB (maxL := K.2.2.1) n C.1.2.2.2.2 hg hw rfl rfl (hm2 A s C.2.2.2.1) (C.1.2.2.2.2 _ hm1) hy ⟨hr1, hr2⟩, hy1, C.1.2.2.2.2 _ hm3⟩ ⟨am_blind hZ, am_preOf hZ C (.inr (.inr (some i)) :: as) hP hD hS⟩ rfl (by rw [List.length_map]; have h9 : as.length + 1 = n + 1 := hna; omega) hl.1 (by
      show ((.inr (.inr (some i)) :: as : List am_v).reverse ++ rest).map (am_V α) = _
      rw [List.reverse_cons, List.append_assoc, List.map_append, List.map_append, List.map_reverse]
      rfl) (lv_room (by rw [am_words_eq]; exact hw8)) hd ⟨hc1, hc2⟩
    exact am_callM hD C.2.2.1 hrun hS kk
theorem as_callSN (hZ : am_Zok Z) {index n : Nat} {host : String} {ws' : List Cond} (hd : decode I.2.1 pc = .ok (.invokestatic index, 3)) (hg : GoodIn I.2.2.2.1 K.2.2.2.1) (hw : K.2.2.2.1 = Cond.code K.2.2.2.2.1 K.2.1 K.2.2.1 K.2.2.2.2.2.1 :: ws') (hm1 : Cond.initialized K.2.2.2.2.1.cls ∈ I.2.2.2.1) (hm2 : ∀ A s, Z A s → va_Nw (.methodLinkNest I.1 index K.2.2.2.2.1 host) s) (hm3 : Cond.static K.2.2.2.2.1 ∈ I.2.2.2.1) (hy : K.2.2.2.2.1.cls ≠ "java/lang/invoke/MethodHandle" ∧ K.2.2.2.2.1.cls ≠ "java/lang/invoke/VarHandle" ∧ (parseMethodDescriptor K.2.2.2.2.1.desc).map (fun d => d.parameters.length) = some n) (hm : K.2.2.1 ≤ 40) : am_Cl cl Y Z I K pc n 2 := by
  intro p l e R s m args below meth c Q D cy A d C hR1 hR2 lv as rest h k n9 r hna hw8 hrc hM hno hc1 hc2 α H locs ls hlen hP hD hS hl kk kx
  have hr1 : (d + 11) + 1 ≤ R.frames := by omega
  have hr2 : 8 + (K.2.2.1 + 11) + (60 * d + 300) ≤ R.locals := am_hr2 hm hR2
  have hrun := va_runSN (l := l) (e := e) (below := below) (meth := meth) (locs := locs) (cells := k) (slots := n9) (As := as.map (am_V α)) (rest := rest.map (am_V α)) (g := F0 m pc ls ((as.reverse ++ rest).map (am_V α))) C.1 (am_plain (hno (Or.inr rfl)) (hM α H.size hlen)) ⟨va_cnB (maxL := K.2.2.1) n C.1.2.2.2.2 hg hw rfl rfl (hm2 A s C.2.2.2.1) (C.1.2.2.2.2 _ hm1) hy ⟨hr1, hr2⟩, C.1.2.2.2.2 _ hm3, trivial⟩ ⟨am_blind hZ, am_preOf hZ C as hP hD hS⟩ rfl (by rw [List.length_map]; exact hna) hl.1 (by
    show (as.reverse ++ rest).map (am_V α) = _
    rw [List.map_append, List.map_reverse]) (lv_room (by rw [am_words_eq]; exact hw8)) hd ⟨hc1, hc2⟩
  exact am_callM hD C.2.2.1 hrun hS kk
end AMG
