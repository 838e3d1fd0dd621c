section AM
/-- the machine at an abstract state -/
def am_WA (p : Program) (l : Launch) (e : Env) (R : Room) (s : State) (m : MethodId) (args : Array Value) (below : List Frame) (meth : Method) (c : Code) (Q : State → Prop) (D : va_G) (cl : List vw_C) (cy : am_cy) (Y : am_y) (A : Nat → Prop) (nL : Nat) (α : List Nat) (S : am_s) : Prop :=
  ∀ (H : Heap) (locs : List Loc) (ls : Array Slot), am_al Y α S.2.2.2.1 → va_P D cl (am_W cy α S.2.2.2.1) H → va_D A (am_W cy α S.2.2.2.1) → va_S A s.heap H locs → lv_has ls nL (am_L α S.2.1) → W p l e R s m args below meth c H locs S.2.2.2.2.1 S.2.2.2.2.2 Q (F0 m S.1 ls (S.2.2.1.map (am_V α)))
/-- what holds throughout a method -/
def am_C (p : Program) (R : Room) (s : State) (m : MethodId) (args : Array Value) (meth : Method) (c : Code) (D : va_G) (cl : List vw_C) (cy : am_cy) (A : Nat → Prop) (Z : am_z) (I : am_i) : Prop :=
  CallFix p m c I.2.1 I.2.2.1 s args I.2.2.2.1 I.1 ∧ va_K D cl (am_T cy) s ∧ (∀ q, s.heap.size ≤ q → A q) ∧ Z A s ∧ (I.2.2.2.2.1.name = "<init>" → meth.name = "<init>") ∧ 12 ≤ R.frames ∧ 360 ≤ R.locals ∧ meth.locks = false ∧ c.exceptionTable.toList = tableOf I.2.2.2.2.2.2
/-- an instruction of the method does what f says -/
def am_St (cl : List vw_C) (Y : am_y) (Z : am_z) (I : am_i) (pc : Nat) (f : am_s → Option am_s) : Prop :=
  ∀ (p : Program) (l : Launch) (e : Env) (R : Room) (s : State) (m : MethodId) (args : Array Value) (below : List Frame) (meth : Method) (c : Code) (Q : State → Prop) (D : va_G) (cy : am_cy) (A : Nat → Prop), am_C p R s m args meth c D cl cy A Z I →
  ∀ (S S' : am_s), S.1 = pc → f S = some S' → (S.2.2.2.2.1 ≤ S'.2.2.2.2.1 ∧ S.2.2.2.2.2 ≤ S'.2.2.2.2.2) ∧ ∀ (α : List Nat), S'.2.2.2.2.1 ≤ R.cells → S'.2.2.2.2.2 ≤ R.slots →
    (∀ β : List Nat, am_WA p l e R s m args below meth c Q D cl cy Y A I.2.2.1 (α ++ β) S') → am_WA p l e R s m args below meth c Q D cl cy Y A I.2.2.1 α S
variable {p : Program} {l : Launch} {e : Env} {R : Room} {s : State} {m : MethodId} {args : Array Value} {below : List Frame} {meth : Method} {c : Code} {Q : State → Prop} {D : va_G} {cl : List vw_C} {cy : am_cy} {Y : am_y} {A : Nat → Prop} {nL : Nat} {Z : am_z} {I : am_i} {pc : Nat}
theorem am_k0 {α : List Nat} {S : am_s} (h : ∀ β : List Nat, am_WA p l e R s m args below meth c Q D cl cy Y A nL (α ++ β) S) : am_WA p l e R s m args below meth c Q D cl cy Y A nL α S := by
  have h0 := h []
  rwa [List.append_nil] at h0
def ai_push (n : Nat) (v : am_v) : am_s → Option am_s := fun S => some (S.1 + n, S.2.1, v :: S.2.2.1, S.2.2.2)
theorem as_iconst {x : Int} {v : Int32} (hd : decode I.2.1 pc = .ok (.iconst x, 1)) (hv : Int32.ofInt x = v) : am_St cl Y Z I pc (ai_push 1 (.inl v)) := by
  intro p l e R s m args below meth c Q D cy A C S S' hpc hf
  obtain ⟨pc', lv, st, h, k, n⟩ := S
  obtain rfl : pc' = pc := hpc
  simp only [ai_push] at hf
  cases hf
  refine ⟨⟨Nat.le_refl _, Nat.le_refl _⟩, fun α hc1 hc2 hk => ?_⟩
  replace hk := am_k0 hk
  intro H locs ls hlen hP hD hS hl
  exact lv_iconst C.1.1 C.1.2.1 hd hv (hk H locs ls hlen hP hD hS hl)
theorem as_bipush {x : Int} {v : Int32} (hd : decode I.2.1 pc = .ok (.bipush x, 2)) (hv : (Int8.ofInt x).toInt32 = v) : am_St cl Y Z I pc (ai_push 2 (.inl v)) := by
  intro p l e R s m args below meth c Q D cy A C S S' hpc hf
  obtain ⟨pc', lv, st, h, k, n⟩ := S
  obtain rfl : pc' = pc := hpc
  simp only [ai_push] at hf
  cases hf
  refine ⟨⟨Nat.le_refl _, Nat.le_refl _⟩, fun α hc1 hc2 hk => ?_⟩
  replace hk := am_k0 hk
  intro H locs ls hlen hP hD hS hl
  exact lv_bipush C.1.1 C.1.2.1 hd hv (hk H locs ls hlen hP hD hS hl)
theorem as_sipush {x : Int} {v : Int32} (hd : decode I.2.1 pc = .ok (.sipush x, 3)) (hv : (Int16.ofInt x).toInt32 = v) : am_St cl Y Z I pc (ai_push 3 (.inl v)) := by
  intro p l e R s m args below meth c Q D cy A C S S' hpc hf
  obtain ⟨pc', lv, st, h, k, n⟩ := S
  obtain rfl : pc' = pc := hpc
  simp only [ai_push] at hf
  cases hf
  refine ⟨⟨Nat.le_refl _, Nat.le_refl _⟩, fun α hc1 hc2 hk => ?_⟩
  replace hk := am_k0 hk
  intro H locs ls hlen hP hD hS hl
  exact lv_sipush C.1.1 C.1.2.1 hd hv (hk H locs ls hlen hP hD hS hl)
theorem as_lconst {x : Fin 2} {v : Int64} (hd : decode I.2.1 pc = .ok (.lconst x, 1)) (hv : Int64.ofNat (x : Nat) = v) : am_St cl Y Z I pc (ai_push 1 (.inr (.inl v))) := by
  intro p l e R s m args below meth c Q D cy A C S S' hpc hf
  obtain ⟨pc', lv, st, h, k, n⟩ := S
  obtain rfl : pc' = pc := hpc
  simp only [ai_push] at hf
  cases hf
  refine ⟨⟨Nat.le_refl _, Nat.le_refl _⟩, fun α hc1 hc2 hk => ?_⟩
  replace hk := am_k0 hk
  intro H locs ls hlen hP hD hS hl
  exact lv_lconst C.1.1 C.1.2.1 hd hv (hk H locs ls hlen hP hD hS hl)
theorem as_null (hd : decode I.2.1 pc = .ok (.aconst_null, 1)) : am_St cl Y Z I pc (ai_push 1 (.inr (.inr none))) := by
  intro p l e R s m args below meth c Q D cy A C S S' hpc hf
  obtain ⟨pc', lv, st, h, k, n⟩ := S
  obtain rfl : pc' = pc := hpc
  simp only [ai_push] at hf
  cases hf
  refine ⟨⟨Nat.le_refl _, Nat.le_refl _⟩, fun α hc1 hc2 hk => ?_⟩
  replace hk := am_k0 hk
  intro H locs ls hlen hP hD hS hl
  exact lv_null C.1.1 C.1.2.1 hd (hk H locs ls hlen hP hD hS hl)
theorem as_ldc {x : Nat} {v : Int32} (hd : decode I.2.1 pc = .ok (.ldc x, 2)) (hm : Cond.constant I.1 x v ∈ I.2.2.2.1) : am_St cl Y Z I pc (ai_push 2 (.inl v)) := by
  intro p l e R s m args below meth c Q D cy A C S S' hpc hf
  obtain ⟨pc', lv, st, h, k, n⟩ := S
  obtain rfl : pc' = pc := hpc
  simp only [ai_push] at hf
  cases hf
  refine ⟨⟨Nat.le_refl _, Nat.le_refl _⟩, fun α hc1 hc2 hk => ?_⟩
  replace hk := am_k0 hk
  intro H locs ls hlen hP hD hS hl
  exact lv_ldc C.1.1 C.1.2.1 C.1.2.2.2.1 (C.1.2.2.2.2 _ hm) hd (hk H locs ls hlen hP hD hS hl)
theorem as_ldc2 {x : Nat} {v : Int64} (hd : decode I.2.1 pc = .ok (.ldc2_w x, 3)) (hm : Cond.constantLong I.1 x v ∈ I.2.2.2.1) : am_St cl Y Z I pc (ai_push 3 (.inr (.inl v))) := by
  intro p l e R s m args below meth c Q D cy A C S S' hpc hf
  obtain ⟨pc', lv, st, h, k, n⟩ := S
  obtain rfl : pc' = pc := hpc
  simp only [ai_push] at hf
  cases hf
  refine ⟨⟨Nat.le_refl _, Nat.le_refl _⟩, fun α hc1 hc2 hk => ?_⟩
  replace hk := am_k0 hk
  intro H locs ls hlen hP hD hS hl
  exact lv_ldc2 C.1.1 C.1.2.1 C.1.2.2.2.1 (C.1.2.2.2.2 _ hm) hd (hk H locs ls hlen hP hD hS hl)
def ai_iload (n i : Nat) : am_s → Option am_s := fun S => match am_get S.2.1 i with
  | some (.inl x) => some (S.1 + n, S.2.1, .inl x :: S.2.2.1, S.2.2.2)
  | _ => none
def ai_lload (n i : Nat) : am_s → Option am_s := fun S => match am_get S.2.1 i with
  | some (.inr (.inl x)) => some (S.1 + n, S.2.1, .inr (.inl x) :: S.2.2.1, S.2.2.2)
  | _ => none
def ai_aload (n i : Nat) : am_s → Option am_s := fun S => match am_get S.2.1 i with
  | some (.inr (.inr x)) => some (S.1 + n, S.2.1, .inr (.inr x) :: S.2.2.1, S.2.2.2)
  | _ => none
theorem as_iload_n {k : Fin 4} {i : Nat} (hd : decode I.2.1 pc = .ok (.iload_n k, 1)) (hi : (k : Nat) = i) : am_St cl Y Z I pc (ai_iload 1 i) := by
  intro p l e R s m args below meth c Q D cy A C S S' hpc hf
  obtain ⟨pc', lv, st, h, k, n⟩ := S
  obtain rfl : pc' = pc := hpc
  simp only [ai_iload] at hf
  split at hf <;> first | (cases hf; done) | skip
  rename_i x hg
  cases hf
  refine ⟨⟨Nat.le_refl _, Nat.le_refl _⟩, fun α hc1 hc2 hk => ?_⟩
  replace hk := am_k0 hk
  intro H locs ls hlen hP hD hS hl
  exact lv_iload_n C.1.1 C.1.2.1 hd hi (am_get_ls hl hg) (hk H locs ls hlen hP hD hS hl)
theorem as_iload {i : Nat} (hd : decode I.2.1 pc = .ok (.iload i, 2)) : am_St cl Y Z I pc (ai_iload 2 i) := by
  intro p l e R s m args below meth c Q D cy A C S S' hpc hf
  obtain ⟨pc', lv, st, h, k, n⟩ := S
  obtain rfl : pc' = pc := hpc
  simp only [ai_iload] at hf
  split at hf <;> first | (cases hf; done) | skip
  rename_i x hg
  cases hf
  refine ⟨⟨Nat.le_refl _, Nat.le_refl _⟩, fun α hc1 hc2 hk => ?_⟩
  replace hk := am_k0 hk
  intro H locs ls hlen hP hD hS hl
  exact lv_iload C.1.1 C.1.2.1 hd (am_get_ls hl hg) (hk H locs ls hlen hP hD hS hl)
theorem as_lload_n {k : Fin 4} {i : Nat} (hd : decode I.2.1 pc = .ok (.lload_n k, 1)) (hi : (k : Nat) = i) : am_St cl Y Z I pc (ai_lload 1 i) := by
  intro p l e R s m args below meth c Q D cy A C S S' hpc hf
  obtain ⟨pc', lv, st, h, k, n⟩ := S
  obtain rfl : pc' = pc := hpc
  simp only [ai_lload] at hf
  split at hf <;> first | (cases hf; done) | skip
  rename_i x hg
  cases hf
  refine ⟨⟨Nat.le_refl _, Nat.le_refl _⟩, fun α hc1 hc2 hk => ?_⟩
  replace hk := am_k0 hk
  intro H locs ls hlen hP hD hS hl
  exact lv_lload_n C.1.1 C.1.2.1 hd hi (am_get_ls hl hg) (hk H locs ls hlen hP hD hS hl)
theorem as_lload {i : Nat} (hd : decode I.2.1 pc = .ok (.lload i, 2)) : am_St cl Y Z I pc (ai_lload 2 i) := by
  intro p l e R s m args below meth c Q D cy A C S S' hpc hf
  obtain ⟨pc', lv, st, h, k, n⟩ := S
  obtain rfl : pc' = pc := hpc
  simp only [ai_lload] at hf
  split at hf <;> first | (cases hf; done) | skip
  rename_i x hg
  cases hf
  refine ⟨⟨Nat.le_refl _, Nat.le_refl _⟩, fun α hc1 hc2 hk => ?_⟩
  replace hk := am_k0 hk
  intro H locs ls hlen hP hD hS hl
  exact lv_lload C.1.1 C.1.2.1 hd (am_get_ls hl hg) (hk H locs ls hlen hP hD hS hl)
theorem as_aload_n {k : Fin 4} {i : Nat} (hd : decode I.2.1 pc = .ok (.aload_n k, 1)) (hi : (k : Nat) = i) : am_St cl Y Z I pc (ai_aload 1 i) := by
  intro p l e R s m args below meth c Q D cy A C S S' hpc hf
  obtain ⟨pc', lv, st, h, k, n⟩ := S
  obtain rfl : pc' = pc := hpc
  simp only [ai_aload] at hf
  split at hf <;> first | (cases hf; done) | skip
  rename_i x hg
  cases hf
  refine ⟨⟨Nat.le_refl _, Nat.le_refl _⟩, fun α hc1 hc2 hk => ?_⟩
  replace hk := am_k0 hk
  intro H locs ls hlen hP hD hS hl
  cases x with
  | none => exact lv_aload_nN C.1.1 C.1.2.1 hd hi (am_get_ls hl hg) (hk H locs ls hlen hP hD hS hl)
  | some x => exact lv_aload_n C.1.1 C.1.2.1 hd hi (am_get_ls hl hg) (hk H locs ls hlen hP hD hS hl)
theorem as_aload {i : Nat} (hd : decode I.2.1 pc = .ok (.aload i, 2)) : am_St cl Y Z I pc (ai_aload 2 i) := by
  intro p l e R s m args below meth c Q D cy A C S S' hpc hf
  obtain ⟨pc', lv, st, h, k, n⟩ := S
  obtain rfl : pc' = pc := hpc
  simp only [ai_aload] at hf
  split at hf <;> first | (cases hf; done) | skip
  rename_i x hg
  cases hf
  refine ⟨⟨Nat.le_refl _, Nat.le_refl _⟩, fun α hc1 hc2 hk => ?_⟩
  replace hk := am_k0 hk
  intro H locs ls hlen hP hD hS hl
  cases x with
  | none => exact lv_aloadN C.1.1 C.1.2.1 hd (am_get_ls hl hg) (hk H locs ls hlen hP hD hS hl)
  | some x => exact lv_aload C.1.1 C.1.2.1 hd (am_get_ls hl hg) (hk H locs ls hlen hP hD hS hl)
def ai_istore (n i : Nat) : am_s → Option am_s := fun S => match S.2.2.1 with
  | .inl x :: r => some (S.1 + n, am_set S.2.1 i (.inl x), r, S.2.2.2)
  | _ => none
def ai_lstore (n i : Nat) : am_s → Option am_s := fun S => match S.2.2.1 with
  | .inr (.inl x) :: r => some (S.1 + n, am_set2 S.2.1 i (.inr (.inl x)), r, S.2.2.2)
  | _ => none
def ai_astore (n i : Nat) : am_s → Option am_s := fun S => match S.2.2.1 with
  | .inr (.inr x) :: r => some (S.1 + n, am_set S.2.1 i (.inr (.inr x)), r, S.2.2.2)
  | _ => none
theorem as_istore_n {k : Fin 4} {i : Nat} (hd : decode I.2.1 pc = .ok (.istore_n k, 1)) (hi : (k : Nat) = i) (hn : i < I.2.2.1) : am_St cl Y Z I pc (ai_istore 1 i) := by
  intro p l e R s m args below meth c Q D cy A C S S' hpc hf
  obtain ⟨pc', lv, st, h, k, n⟩ := S
  obtain rfl : pc' = pc := hpc
  simp only [ai_istore] at hf
  split at hf <;> first | (cases hf; done) | skip
  rename_i x r
  cases hf
  refine ⟨⟨Nat.le_refl _, Nat.le_refl _⟩, fun α hc1 hc2 hk => ?_⟩
  replace hk := am_k0 hk
  intro H locs ls hlen hP hD hS hl
  exact lv_istore_n C.1.1 C.1.2.1 hd hi hl hn (am_set_L (v := .inl x)) (fun ls2 hl2 => hk H locs ls2 hlen hP hD hS hl2)
theorem as_istore {i : Nat} (hd : decode I.2.1 pc = .ok (.istore i, 2)) (hn : i < I.2.2.1) : am_St cl Y Z I pc (ai_istore 2 i) := by
  intro p l e R s m args below meth c Q D cy A C S S' hpc hf
  obtain ⟨pc', lv, st, h, k, n⟩ := S
  obtain rfl : pc' = pc := hpc
  simp only [ai_istore] at hf
  split at hf <;> first | (cases hf; done) | skip
  rename_i x r
  cases hf
  refine ⟨⟨Nat.le_refl _, Nat.le_refl _⟩, fun α hc1 hc2 hk => ?_⟩
  replace hk := am_k0 hk
  intro H locs ls hlen hP hD hS hl
  exact lv_istore C.1.1 C.1.2.1 hd hl hn (am_set_L (v := .inl x)) (fun ls2 hl2 => hk H locs ls2 hlen hP hD hS hl2)
theorem as_lstore_n {k : Fin 4} {i : Nat} (hd : decode I.2.1 pc = .ok (.lstore_n k, 1)) (hi : (k : Nat) = i) (hn : i + 1 < I.2.2.1) : am_St cl Y Z I pc (ai_lstore 1 i) := by
  intro p l e R s m args below meth c Q D cy A C S S' hpc hf
  obtain ⟨pc', lv, st, h, k, n⟩ := S
  obtain rfl : pc' = pc := hpc
  simp only [ai_lstore] at hf
  split at hf <;> first | (cases hf; done) | skip
  rename_i x r
  cases hf
  refine ⟨⟨Nat.le_refl _, Nat.le_refl _⟩, fun α hc1 hc2 hk => ?_⟩
  replace hk := am_k0 hk
  intro H locs ls hlen hP hD hS hl
  exact lv_lstore_n C.1.1 C.1.2.1 hd hi hl hn (am_set2_L (v := .inr (.inl x))) (fun ls2 hl2 => hk H locs ls2 hlen hP hD hS hl2)
theorem as_astore_n {k : Fin 4} {i : Nat} (hd : decode I.2.1 pc = .ok (.astore_n k, 1)) (hi : (k : Nat) = i) (hn : i < I.2.2.1) : am_St cl Y Z I pc (ai_astore 1 i) := by
  intro p l e R s m args below meth c Q D cy A C S S' hpc hf
  obtain ⟨pc', lv, st, h, k, n⟩ := S
  obtain rfl : pc' = pc := hpc
  simp only [ai_astore] at hf
  split at hf <;> first | (cases hf; done) | skip
  rename_i x r
  cases hf
  refine ⟨⟨Nat.le_refl _, Nat.le_refl _⟩, fun α hc1 hc2 hk => ?_⟩
  replace hk := am_k0 hk
  intro H locs ls hlen hP hD hS hl
  cases x with
  | none => exact lv_astore_nN C.1.1 C.1.2.1 hd hi hl hn (am_set_L (v := .inr (.inr none))) (fun ls2 hl2 => hk H locs ls2 hlen hP hD hS hl2)
  | some x => exact lv_astore_n C.1.1 C.1.2.1 hd hi hl hn (am_set_L (v := .inr (.inr (some x)))) (fun ls2 hl2 => hk H locs ls2 hlen hP hD hS hl2)
theorem as_astore {i : Nat} (hd : decode I.2.1 pc = .ok (.astore i, 2)) (hn : i < I.2.2.1) : am_St cl Y Z I pc (ai_astore 2 i) := by
  intro p l e R s m args below meth c Q D cy A C S S' hpc hf
  obtain ⟨pc', lv, st, h, k, n⟩ := S
  obtain rfl : pc' = pc := hpc
  simp only [ai_astore] at hf
  split at hf <;> first | (cases hf; done) | skip
  rename_i x r
  cases hf
  refine ⟨⟨Nat.le_refl _, Nat.le_refl _⟩, fun α hc1 hc2 hk => ?_⟩
  replace hk := am_k0 hk
  intro H locs ls hlen hP hD hS hl
  cases x with
  | none => exact lv_astoreN C.1.1 C.1.2.1 hd hl hn (am_set_L (v := .inr (.inr none))) (fun ls2 hl2 => hk H locs ls2 hlen hP hD hS hl2)
  | some x => exact lv_astore C.1.1 C.1.2.1 hd hl hn (am_set_L (v := .inr (.inr (some x)))) (fun ls2 hl2 => hk H locs ls2 hlen hP hD hS hl2)
def ai_iinc (i : Nat) (v : Int32) : am_s → Option am_s := fun S => match am_get S.2.1 i with
  | some (.inl x) => some (S.1 + 3, am_set S.2.1 i (.inl (x + v)), S.2.2.1, S.2.2.2)
  | _ => none
theorem as_iinc {i : Nat} {x : Int} {v : Int32} (hd : decode I.2.1 pc = .ok (.iinc i x, 3)) (hv : Int32.ofInt x = v) (hn : i < I.2.2.1) : am_St cl Y Z I pc (ai_iinc i v) := by
  intro p l e R s m args below meth c Q D cy A C S S' hpc hf
  obtain ⟨pc', lv, st, h, k, n⟩ := S
  obtain rfl : pc' = pc := hpc
  simp only [ai_iinc] at hf
  split at hf <;> first | (cases hf; done) | skip
  rename_i y hg
  cases hf
  refine ⟨⟨Nat.le_refl _, Nat.le_refl _⟩, fun α hc1 hc2 hk => ?_⟩
  replace hk := am_k0 hk
  intro H locs ls hlen hP hD hS hl
  obtain ⟨k9, hk9⟩ := am_L_idx (α := α) (am_get_mem hg)
  exact lv_iinc C.1.1 C.1.2.1 hd hl hk9 (by rw [hv]) hn (am_set_L (v := .inl (y + v))) (fun ls2 hl2 => hk H locs ls2 hlen hP hD hS hl2)
def ai_bin (n : Nat) (g : Int32 → Int32 → Int32) : am_s → Option am_s := fun S => match S.2.2.1 with
  | .inl y :: .inl x :: r => some (S.1 + n, S.2.1, .inl (g x y) :: r, S.2.2.2)
  | _ => none
def ai_div (g : Int32 → Int32 → Int32) : am_s → Option am_s := fun S => match S.2.2.1 with
  | .inl y :: .inl x :: r => if y = 0 then none else some (S.1 + 1, S.2.1, .inl (g x y) :: r, S.2.2.2)
  | _ => none
def ai_binL (g : Int64 → Int64 → am_v) : am_s → Option am_s := fun S => match S.2.2.1 with
  | .inr (.inl y) :: .inr (.inl x) :: r => some (S.1 + 1, S.2.1, g x y :: r, S.2.2.2)
  | _ => none
def ai_un (g : Int32 → am_v) : am_s → Option am_s := fun S => match S.2.2.1 with
  | .inl x :: r => some (S.1 + 1, S.2.1, g x :: r, S.2.2.2)
  | _ => none
theorem as_iadd (hd : decode I.2.1 pc = .ok (.iadd, 1)) : am_St cl Y Z I pc (ai_bin 1 (fun x y => x + y)) := by
  intro p l e R s m args below meth c Q D cy A C S S' hpc hf
  obtain ⟨pc', lv, st, h, k, n⟩ := S
  obtain rfl : pc' = pc := hpc
  simp only [ai_bin] at hf
  split at hf <;> first | (cases hf; done) | skip
  rename_i y x r
  cases hf
  refine ⟨⟨Nat.le_refl _, Nat.le_refl _⟩, fun α hc1 hc2 hk => ?_⟩
  replace hk := am_k0 hk
  intro H locs ls hlen hP hD hS hl
  exact lv_iadd C.1.1 C.1.2.1 hd (hk H locs ls hlen hP hD hS hl)
theorem as_isub (hd : decode I.2.1 pc = .ok (.isub, 1)) : am_St cl Y Z I pc (ai_bin 1 (fun x y => x - y)) := by
  intro p l e R s m args below meth c Q D cy A C S S' hpc hf
  obtain ⟨pc', lv, st, h, k, n⟩ := S
  obtain rfl : pc' = pc := hpc
  simp only [ai_bin] at hf
  split at hf <;> first | (cases hf; done) | skip
  rename_i y x r
  cases hf
  refine ⟨⟨Nat.le_refl _, Nat.le_refl _⟩, fun α hc1 hc2 hk => ?_⟩
  replace hk := am_k0 hk
  intro H locs ls hlen hP hD hS hl
  exact lv_isub C.1.1 C.1.2.1 hd (hk H locs ls hlen hP hD hS hl)
theorem as_imul (hd : decode I.2.1 pc = .ok (.imul, 1)) : am_St cl Y Z I pc (ai_bin 1 (fun x y => x * y)) := by
  intro p l e R s m args below meth c Q D cy A C S S' hpc hf
  obtain ⟨pc', lv, st, h, k, n⟩ := S
  obtain rfl : pc' = pc := hpc
  simp only [ai_bin] at hf
  split at hf <;> first | (cases hf; done) | skip
  rename_i y x r
  cases hf
  refine ⟨⟨Nat.le_refl _, Nat.le_refl _⟩, fun α hc1 hc2 hk => ?_⟩
  replace hk := am_k0 hk
  intro H locs ls hlen hP hD hS hl
  exact lv_imul C.1.1 C.1.2.1 hd (hk H locs ls hlen hP hD hS hl)
theorem as_iand (hd : decode I.2.1 pc = .ok (.iand, 1)) : am_St cl Y Z I pc (ai_bin 1 (fun x y => x &&& y)) := by
  intro p l e R s m args below meth c Q D cy A C S S' hpc hf
  obtain ⟨pc', lv, st, h, k, n⟩ := S
  obtain rfl : pc' = pc := hpc
  simp only [ai_bin] at hf
  split at hf <;> first | (cases hf; done) | skip
  rename_i y x r
  cases hf
  refine ⟨⟨Nat.le_refl _, Nat.le_refl _⟩, fun α hc1 hc2 hk => ?_⟩
  replace hk := am_k0 hk
  intro H locs ls hlen hP hD hS hl
  exact lv_iand C.1.1 C.1.2.1 hd (hk H locs ls hlen hP hD hS hl)
theorem as_ior (hd : decode I.2.1 pc = .ok (.ior, 1)) : am_St cl Y Z I pc (ai_bin 1 (fun x y => x ||| y)) := by
  intro p l e R s m args below meth c Q D cy A C S S' hpc hf
  obtain ⟨pc', lv, st, h, k, n⟩ := S
  obtain rfl : pc' = pc := hpc
  simp only [ai_bin] at hf
  split at hf <;> first | (cases hf; done) | skip
  rename_i y x r
  cases hf
  refine ⟨⟨Nat.le_refl _, Nat.le_refl _⟩, fun α hc1 hc2 hk => ?_⟩
  replace hk := am_k0 hk
  intro H locs ls hlen hP hD hS hl
  exact lv_ior C.1.1 C.1.2.1 hd (hk H locs ls hlen hP hD hS hl)
theorem as_ishl (hd : decode I.2.1 pc = .ok (.ishl, 1)) : am_St cl Y Z I pc (ai_bin 1 (fun x y => x <<< (y &&& 31))) := by
  intro p l e R s m args below meth c Q D cy A C S S' hpc hf
  obtain ⟨pc', lv, st, h, k, n⟩ := S
  obtain rfl : pc' = pc := hpc
  simp only [ai_bin] at hf
  split at hf <;> first | (cases hf; done) | skip
  rename_i y x r
  cases hf
  refine ⟨⟨Nat.le_refl _, Nat.le_refl _⟩, fun α hc1 hc2 hk => ?_⟩
  replace hk := am_k0 hk
  intro H locs ls hlen hP hD hS hl
  exact lv_ishl C.1.1 C.1.2.1 hd (hk H locs ls hlen hP hD hS hl)
theorem as_ishr (hd : decode I.2.1 pc = .ok (.ishr, 1)) : am_St cl Y Z I pc (ai_bin 1 (fun x y => x >>> (y &&& 31))) := by
  intro p l e R s m args below meth c Q D cy A C S S' hpc hf
  obtain ⟨pc', lv, st, h, k, n⟩ := S
  obtain rfl : pc' = pc := hpc
  simp only [ai_bin] at hf
  split at hf <;> first | (cases hf; done) | skip
  rename_i y x r
  cases hf
  refine ⟨⟨Nat.le_refl _, Nat.le_refl _⟩, fun α hc1 hc2 hk => ?_⟩
  replace hk := am_k0 hk
  intro H locs ls hlen hP hD hS hl
  exact lv_ishr C.1.1 C.1.2.1 hd (hk H locs ls hlen hP hD hS hl)
theorem as_iushr (hd : decode I.2.1 pc = .ok (.iushr, 1)) : am_St cl Y Z I pc (ai_bin 1 (fun x y => (x.toUInt32 >>> (y.toUInt32 &&& Int32.toUInt32 31)).toInt32)) := by
  intro p l e R s m args below meth c Q D cy A C S S' hpc hf
  obtain ⟨pc', lv, st, h, k, n⟩ := S
  obtain rfl : pc' = pc := hpc
  simp only [ai_bin] at hf
  split at hf <;> first | (cases hf; done) | skip
  rename_i y x r
  cases hf
  refine ⟨⟨Nat.le_refl _, Nat.le_refl _⟩, fun α hc1 hc2 hk => ?_⟩
  replace hk := am_k0 hk
  intro H locs ls hlen hP hD hS hl
  exact lv_iushr C.1.1 C.1.2.1 hd rfl (hk H locs ls hlen hP hD hS hl)
theorem as_idiv (hd : decode I.2.1 pc = .ok (.idiv, 1)) : am_St cl Y Z I pc (ai_div (fun x y => x / y)) := by
  intro p l e R s m args below meth c Q D cy A C S S' hpc hf
  obtain ⟨pc', lv, st, h, k, n⟩ := S
  obtain rfl : pc' = pc := hpc
  simp only [ai_div] at hf
  split at hf <;> first | (cases hf; done) | skip
  rename_i y x r
  split at hf <;> first | (cases hf; done) | skip
  rename_i hne
  cases hf
  refine ⟨⟨Nat.le_refl _, Nat.le_refl _⟩, fun α hc1 hc2 hk => ?_⟩
  replace hk := am_k0 hk
  intro H locs ls hlen hP hD hS hl
  exact lv_idiv C.1.1 C.1.2.1 hd hne (hk H locs ls hlen hP hD hS hl)
theorem as_irem (hd : decode I.2.1 pc = .ok (.irem, 1)) : am_St cl Y Z I pc (ai_div (fun x y => x - x / y * y)) := by
  intro p l e R s m args below meth c Q D cy A C S S' hpc hf
  obtain ⟨pc', lv, st, h, k, n⟩ := S
  obtain rfl : pc' = pc := hpc
  simp only [ai_div] at hf
  split at hf <;> first | (cases hf; done) | skip
  rename_i y x r
  split at hf <;> first | (cases hf; done) | skip
  rename_i hne
  cases hf
  refine ⟨⟨Nat.le_refl _, Nat.le_refl _⟩, fun α hc1 hc2 hk => ?_⟩
  replace hk := am_k0 hk
  intro H locs ls hlen hP hD hS hl
  exact lv_irem C.1.1 C.1.2.1 hd hne (hk H locs ls hlen hP hD hS hl)
theorem as_ladd (hd : decode I.2.1 pc = .ok (.ladd, 1)) : am_St cl Y Z I pc (ai_binL (fun x y => .inr (.inl (x + y)))) := by
  intro p l e R s m args below meth c Q D cy A C S S' hpc hf
  obtain ⟨pc', lv, st, h, k, n⟩ := S
  obtain rfl : pc' = pc := hpc
  simp only [ai_binL] at hf
  split at hf <;> first | (cases hf; done) | skip
  rename_i y x r
  cases hf
  refine ⟨⟨Nat.le_refl _, Nat.le_refl _⟩, fun α hc1 hc2 hk => ?_⟩
  replace hk := am_k0 hk
  intro H locs ls hlen hP hD hS hl
  exact lv_ladd C.1.1 C.1.2.1 hd (hk H locs ls hlen hP hD hS hl)
theorem as_lsub (hd : decode I.2.1 pc = .ok (.lsub, 1)) : am_St cl Y Z I pc (ai_binL (fun x y => .inr (.inl (x - y)))) := by
  intro p l e R s m args below meth c Q D cy A C S S' hpc hf
  obtain ⟨pc', lv, st, h, k, n⟩ := S
  obtain rfl : pc' = pc := hpc
  simp only [ai_binL] at hf
  split at hf <;> first | (cases hf; done) | skip
  rename_i y x r
  cases hf
  refine ⟨⟨Nat.le_refl _, Nat.le_refl _⟩, fun α hc1 hc2 hk => ?_⟩
  replace hk := am_k0 hk
  intro H locs ls hlen hP hD hS hl
  exact lv_lsub C.1.1 C.1.2.1 hd (hk H locs ls hlen hP hD hS hl)
theorem as_lmul (hd : decode I.2.1 pc = .ok (.lmul, 1)) : am_St cl Y Z I pc (ai_binL (fun x y => .inr (.inl (x * y)))) := by
  intro p l e R s m args below meth c Q D cy A C S S' hpc hf
  obtain ⟨pc', lv, st, h, k, n⟩ := S
  obtain rfl : pc' = pc := hpc
  simp only [ai_binL] at hf
  split at hf <;> first | (cases hf; done) | skip
  rename_i y x r
  cases hf
  refine ⟨⟨Nat.le_refl _, Nat.le_refl _⟩, fun α hc1 hc2 hk => ?_⟩
  replace hk := am_k0 hk
  intro H locs ls hlen hP hD hS hl
  exact lv_lmul C.1.1 C.1.2.1 hd (hk H locs ls hlen hP hD hS hl)
theorem as_lcmp (hd : decode I.2.1 pc = .ok (.lcmp, 1)) : am_St cl Y Z I pc (ai_binL (fun x y => .inl (lg_cmp x y))) := by
  intro p l e R s m args below meth c Q D cy A C S S' hpc hf
  obtain ⟨pc', lv, st, h, k, n⟩ := S
  obtain rfl : pc' = pc := hpc
  simp only [ai_binL] at hf
  split at hf <;> first | (cases hf; done) | skip
  rename_i y x r
  cases hf
  refine ⟨⟨Nat.le_refl _, Nat.le_refl _⟩, fun α hc1 hc2 hk => ?_⟩
  replace hk := am_k0 hk
  intro H locs ls hlen hP hD hS hl
  exact W.lcmp C.1.1 C.1.2.1 hd (hk H locs ls hlen hP hD hS hl)
theorem as_i2l (hd : decode I.2.1 pc = .ok (.i2l, 1)) : am_St cl Y Z I pc (ai_un (fun x => .inr (.inl x.toInt64))) := by
  intro p l e R s m args below meth c Q D cy A C S S' hpc hf
  obtain ⟨pc', lv, st, h, k, n⟩ := S
  obtain rfl : pc' = pc := hpc
  simp only [ai_un] at hf
  split at hf <;> first | (cases hf; done) | skip
  rename_i x r
  cases hf
  refine ⟨⟨Nat.le_refl _, Nat.le_refl _⟩, fun α hc1 hc2 hk => ?_⟩
  replace hk := am_k0 hk
  intro H locs ls hlen hP hD hS hl
  exact lv_i2l C.1.1 C.1.2.1 hd rfl (hk H locs ls hlen hP hD hS hl)
theorem as_i2b (hd : decode I.2.1 pc = .ok (.i2b, 1)) : am_St cl Y Z I pc (ai_un (fun x => .inl x.toInt8.toInt32)) := by
  intro p l e R s m args below meth c Q D cy A C S S' hpc hf
  obtain ⟨pc', lv, st, h, k, n⟩ := S
  obtain rfl : pc' = pc := hpc
  simp only [ai_un] at hf
  split at hf <;> first | (cases hf; done) | skip
  rename_i x r
  cases hf
  refine ⟨⟨Nat.le_refl _, Nat.le_refl _⟩, fun α hc1 hc2 hk => ?_⟩
  replace hk := am_k0 hk
  intro H locs ls hlen hP hD hS hl
  exact lv_i2b C.1.1 C.1.2.1 hd rfl (hk H locs ls hlen hP hD hS hl)
def ai_dup : am_s → Option am_s := fun S => match S.2.2.1 with
  | v :: r => bif am_isL v then none else some (S.1 + 1, S.2.1, v :: v :: r, S.2.2.2)
  | _ => none
def ai_pop : am_s → Option am_s := fun S => match S.2.2.1 with
  | v :: r => bif am_isL v then none else some (S.1 + 1, S.2.1, r, S.2.2.2)
  | _ => none
def ai_dup2 : am_s → Option am_s := fun S => match S.2.2.1 with
  | v :: w :: r => bif am_isL v || am_isL w then none else some (S.1 + 1, S.2.1, v :: w :: v :: w :: r, S.2.2.2)
  | _ => none
theorem as_dup (hd : decode I.2.1 pc = .ok (.dup, 1)) : am_St cl Y Z I pc (ai_dup) := by
  intro p l e R s m args below meth c Q D cy A C S S' hpc hf
  obtain ⟨pc', lv, st, h, k, n⟩ := S
  obtain rfl : pc' = pc := hpc
  simp only [ai_dup] at hf
  split at hf <;> first | (cases hf; done) | skip
  rename_i v r
  cases hb : am_isL v with
  | true => rw [hb] at hf; cases hf
  | false =>
  rw [hb] at hf
  cases hf
  refine ⟨⟨Nat.le_refl _, Nat.le_refl _⟩, fun α hc1 hc2 hk => ?_⟩
  replace hk := am_k0 hk
  intro H locs ls hlen hP hD hS hl
  exact lv_dup C.1.1 C.1.2.1 hd (am_cat1 hb) (hk H locs ls hlen hP hD hS hl)
theorem as_pop (hd : decode I.2.1 pc = .ok (.pop, 1)) : am_St cl Y Z I pc (ai_pop) := by
  intro p l e R s m args below meth c Q D cy A C S S' hpc hf
  obtain ⟨pc', lv, st, h, k, n⟩ := S
  obtain rfl : pc' = pc := hpc
  simp only [ai_pop] at hf
  split at hf <;> first | (cases hf; done) | skip
  rename_i v r
  cases hb : am_isL v with
  | true => rw [hb] at hf; cases hf
  | false =>
  rw [hb] at hf
  cases hf
  refine ⟨⟨Nat.le_refl _, Nat.le_refl _⟩, fun α hc1 hc2 hk => ?_⟩
  replace hk := am_k0 hk
  intro H locs ls hlen hP hD hS hl
  exact lv_pop C.1.1 C.1.2.1 hd (am_cat1 hb) (hk H locs ls hlen hP hD hS hl)
theorem as_dup2 (hd : decode I.2.1 pc = .ok (.dup2, 1)) : am_St cl Y Z I pc (ai_dup2) := by
  intro p l e R s m args below meth c Q D cy A C S S' hpc hf
  obtain ⟨pc', lv, st, h, k, n⟩ := S
  obtain rfl : pc' = pc := hpc
  simp only [ai_dup2] at hf
  split at hf <;> first | (cases hf; done) | skip
  rename_i v w r
  cases hb : am_isL v with
  | true => rw [hb] at hf; cases hf
  | false =>
  cases hb2 : am_isL w with
  | true => rw [hb, hb2] at hf; cases hf
  | false =>
  rw [hb, hb2] at hf
  cases hf
  refine ⟨⟨Nat.le_refl _, Nat.le_refl _⟩, fun α hc1 hc2 hk => ?_⟩
  replace hk := am_k0 hk
  intro H locs ls hlen hP hD hS hl
  exact lv_dup2_11 C.1.1 C.1.2.1 hd (am_cat1 hb) (am_cat1 hb2) (hk H locs ls hlen hP hD hS hl)
def ai_goto (tgt : Nat) : am_s → Option am_s := fun S => some (tgt, S.2)
theorem as_goto {off : Int} {tgt : Nat} (hd : decode I.2.1 pc = .ok (.goto off, 3)) (ht : (pc : Int) + off = (tgt : Int)) : am_St cl Y Z I pc (ai_goto tgt) := by
  intro p l e R s m args below meth c Q D cy A C S S' hpc hf
  obtain ⟨pc', lv, st, h, k, n⟩ := S
  obtain rfl : pc' = pc := hpc
  simp only [ai_goto] at hf
  cases hf
  refine ⟨⟨Nat.le_refl _, Nat.le_refl _⟩, fun α hc1 hc2 hk => ?_⟩
  replace hk := am_k0 hk
  intro H locs ls hlen hP hD hS hl
  exact lv_goto C.1.1 C.1.2.1 hd ht (hk H locs ls hlen hP hD hS hl)
def ai_if_eq (tgt : Nat) : am_s → Option am_s := fun S => match S.2.2.1 with
  | .inl x :: r => some (if x = 0 then tgt else S.1 + 3, S.2.1, r, S.2.2.2)
  | _ => none
theorem as_if_eq {off : Int} {tgt : Nat} (hd : decode I.2.1 pc = .ok (.ifCond .eq off, 3)) (ht : (pc : Int) + off = (tgt : Int)) : am_St cl Y Z I pc (ai_if_eq tgt) := by
  intro p l e R s m args below meth c Q D cy A C S S' hpc hf
  obtain ⟨pc', lv, st, h, k, n⟩ := S
  obtain rfl : pc' = pc := hpc
  simp only [ai_if_eq] at hf
  split at hf <;> first | (cases hf; done) | skip
  rename_i x r
  cases hf
  refine ⟨⟨Nat.le_refl _, Nat.le_refl _⟩, fun α hc1 hc2 hk => ?_⟩
  replace hk := am_k0 hk
  intro H locs ls hlen hP hD hS hl
  exact lv_if_eq C.1.1 C.1.2.1 hd ht (fun hx => (W.eq (g2 := F0 m (if x = 0 then tgt else pc' + 3) ls (r.map (am_V α))) (by rw [if_pos hx]) (hk H locs ls hlen hP hD hS hl))) (fun hx => (W.eq (g2 := F0 m (if x = 0 then tgt else pc' + 3) ls (r.map (am_V α))) (by rw [if_neg hx]) (hk H locs ls hlen hP hD hS hl)))
def ai_icmp_eq (tgt : Nat) : am_s → Option am_s := fun S => match S.2.2.1 with
  | .inl y :: .inl x :: r => some (if x = y then tgt else S.1 + 3, S.2.1, r, S.2.2.2)
  | _ => none
theorem as_icmp_eq {off : Int} {tgt : Nat} (hd : decode I.2.1 pc = .ok (.if_icmp .eq off, 3)) (ht : (pc : Int) + off = (tgt : Int)) : am_St cl Y Z I pc (ai_icmp_eq tgt) := by
  intro p l e R s m args below meth c Q D cy A C S S' hpc hf
  obtain ⟨pc', lv, st, h, k, n⟩ := S
  obtain rfl : pc' = pc := hpc
  simp only [ai_icmp_eq] at hf
  split at hf <;> first | (cases hf; done) | skip
  rename_i y x r
  cases hf
  refine ⟨⟨Nat.le_refl _, Nat.le_refl _⟩, fun α hc1 hc2 hk => ?_⟩
  replace hk := am_k0 hk
  intro H locs ls hlen hP hD hS hl
  exact lv_icmp_eq C.1.1 C.1.2.1 hd ht (fun hx => (W.eq (g2 := F0 m (if x = y then tgt else pc' + 3) ls (r.map (am_V α))) (by rw [if_pos hx]) (hk H locs ls hlen hP hD hS hl))) (fun hx => (W.eq (g2 := F0 m (if x = y then tgt else pc' + 3) ls (r.map (am_V α))) (by rw [if_neg hx]) (hk H locs ls hlen hP hD hS hl)))
def ai_if_ne (tgt : Nat) : am_s → Option am_s := fun S => match S.2.2.1 with
  | .inl x :: r => some (if x = 0 then S.1 + 3 else tgt, S.2.1, r, S.2.2.2)
  | _ => none
theorem as_if_ne {off : Int} {tgt : Nat} (hd : decode I.2.1 pc = .ok (.ifCond .ne off, 3)) (ht : (pc : Int) + off = (tgt : Int)) : am_St cl Y Z I pc (ai_if_ne tgt) := by
  intro p l e R s m args below meth c Q D cy A C S S' hpc hf
  obtain ⟨pc', lv, st, h, k, n⟩ := S
  obtain rfl : pc' = pc := hpc
  simp only [ai_if_ne] at hf
  split at hf <;> first | (cases hf; done) | skip
  rename_i x r
  cases hf
  refine ⟨⟨Nat.le_refl _, Nat.le_refl _⟩, fun α hc1 hc2 hk => ?_⟩
  replace hk := am_k0 hk
  intro H locs ls hlen hP hD hS hl
  exact lv_if_ne C.1.1 C.1.2.1 hd ht (fun hx => (W.eq (g2 := F0 m (if x = 0 then pc' + 3 else tgt) ls (r.map (am_V α))) (by rw [if_neg hx]) (hk H locs ls hlen hP hD hS hl))) (fun hx => (W.eq (g2 := F0 m (if x = 0 then pc' + 3 else tgt) ls (r.map (am_V α))) (by rw [if_pos hx]) (hk H locs ls hlen hP hD hS hl)))
def ai_icmp_ne (tgt : Nat) : am_s → Option am_s := fun S => match S.2.2.1 with
  | .inl y :: .inl x :: r => some (if x = y then S.1 + 3 else tgt, S.2.1, r, S.2.2.2)
  | _ => none
theorem as_icmp_ne {off : Int} {tgt : Nat} (hd : decode I.2.1 pc = .ok (.if_icmp .ne off, 3)) (ht : (pc : Int) + off = (tgt : Int)) : am_St cl Y Z I pc (ai_icmp_ne tgt) := by
  intro p l e R s m args below meth c Q D cy A C S S' hpc hf
  obtain ⟨pc', lv, st, h, k, n⟩ := S
  obtain rfl : pc' = pc := hpc
  simp only [ai_icmp_ne] at hf
  split at hf <;> first | (cases hf; done) | skip
  rename_i y x r
  cases hf
  refine ⟨⟨Nat.le_refl _, Nat.le_refl _⟩, fun α hc1 hc2 hk => ?_⟩
  replace hk := am_k0 hk
  intro H locs ls hlen hP hD hS hl
  exact lv_icmp_ne C.1.1 C.1.2.1 hd ht (fun hx => (W.eq (g2 := F0 m (if x = y then pc' + 3 else tgt) ls (r.map (am_V α))) (by rw [if_neg hx]) (hk H locs ls hlen hP hD hS hl))) (fun hx => (W.eq (g2 := F0 m (if x = y then pc' + 3 else tgt) ls (r.map (am_V α))) (by rw [if_pos hx]) (hk H locs ls hlen hP hD hS hl)))
def ai_if_lt (tgt : Nat) : am_s → Option am_s := fun S => match S.2.2.1 with
  | .inl x :: r => some (if x < 0 then tgt else S.1 + 3, S.2.1, r, S.2.2.2)
  | _ => none
theorem as_if_lt {off : Int} {tgt : Nat} (hd : decode I.2.1 pc = .ok (.ifCond .lt off, 3)) (ht : (pc : Int) + off = (tgt : Int)) : am_St cl Y Z I pc (ai_if_lt tgt) := by
  intro p l e R s m args below meth c Q D cy A C S S' hpc hf
  obtain ⟨pc', lv, st, h, k, n⟩ := S
  obtain rfl : pc' = pc := hpc
  simp only [ai_if_lt] at hf
  split at hf <;> first | (cases hf; done) | skip
  rename_i x r
  cases hf
  refine ⟨⟨Nat.le_refl _, Nat.le_refl _⟩, fun α hc1 hc2 hk => ?_⟩
  replace hk := am_k0 hk
  intro H locs ls hlen hP hD hS hl
  exact lv_if_lt C.1.1 C.1.2.1 hd ht (fun hx => (W.eq (g2 := F0 m (if x < 0 then tgt else pc' + 3) ls (r.map (am_V α))) (by rw [if_pos hx]) (hk H locs ls hlen hP hD hS hl))) (fun hx => (W.eq (g2 := F0 m (if x < 0 then tgt else pc' + 3) ls (r.map (am_V α))) (by rw [if_neg hx]) (hk H locs ls hlen hP hD hS hl)))
def ai_icmp_lt (tgt : Nat) : am_s → Option am_s := fun S => match S.2.2.1 with
  | .inl y :: .inl x :: r => some (if x < y then tgt else S.1 + 3, S.2.1, r, S.2.2.2)
  | _ => none
theorem as_icmp_lt {off : Int} {tgt : Nat} (hd : decode I.2.1 pc = .ok (.if_icmp .lt off, 3)) (ht : (pc : Int) + off = (tgt : Int)) : am_St cl Y Z I pc (ai_icmp_lt tgt) := by
  intro p l e R s m args below meth c Q D cy A C S S' hpc hf
  obtain ⟨pc', lv, st, h, k, n⟩ := S
  obtain rfl : pc' = pc := hpc
  simp only [ai_icmp_lt] at hf
  split at hf <;> first | (cases hf; done) | skip
  rename_i y x r
  cases hf
  refine ⟨⟨Nat.le_refl _, Nat.le_refl _⟩, fun α hc1 hc2 hk => ?_⟩
  replace hk := am_k0 hk
  intro H locs ls hlen hP hD hS hl
  exact lv_icmp_lt C.1.1 C.1.2.1 hd ht (fun hx => (W.eq (g2 := F0 m (if x < y then tgt else pc' + 3) ls (r.map (am_V α))) (by rw [if_pos hx]) (hk H locs ls hlen hP hD hS hl))) (fun hx => (W.eq (g2 := F0 m (if x < y then tgt else pc' + 3) ls (r.map (am_V α))) (by rw [if_neg hx]) (hk H locs ls hlen hP hD hS hl)))
def ai_if_ge (tgt : Nat) : am_s → Option am_s := fun S => match S.2.2.1 with
  | .inl x :: r => some (if 0 ≤ x then tgt else S.1 + 3, S.2.1, r, S.2.2.2)
  | _ => none
theorem as_if_ge {off : Int} {tgt : Nat} (hd : decode I.2.1 pc = .ok (.ifCond .ge off, 3)) (ht : (pc : Int) + off = (tgt : Int)) : am_St cl Y Z I pc (ai_if_ge tgt) := by
  intro p l e R s m args below meth c Q D cy A C S S' hpc hf
  obtain ⟨pc', lv, st, h, k, n⟩ := S
  obtain rfl : pc' = pc := hpc
  simp only [ai_if_ge] at hf
  split at hf <;> first | (cases hf; done) | skip
  rename_i x r
  cases hf
  refine ⟨⟨Nat.le_refl _, Nat.le_refl _⟩, fun α hc1 hc2 hk => ?_⟩
  replace hk := am_k0 hk
  intro H locs ls hlen hP hD hS hl
  exact lv_if_ge C.1.1 C.1.2.1 hd ht (fun hx => (W.eq (g2 := F0 m (if 0 ≤ x then tgt else pc' + 3) ls (r.map (am_V α))) (by rw [if_pos hx]) (hk H locs ls hlen hP hD hS hl))) (fun hx => (W.eq (g2 := F0 m (if 0 ≤ x then tgt else pc' + 3) ls (r.map (am_V α))) (by rw [if_neg hx]) (hk H locs ls hlen hP hD hS hl)))
def ai_icmp_ge (tgt : Nat) : am_s → Option am_s := fun S => match S.2.2.1 with
  | .inl y :: .inl x :: r => some (if y ≤ x then tgt else S.1 + 3, S.2.1, r, S.2.2.2)
  | _ => none
theorem as_icmp_ge {off : Int} {tgt : Nat} (hd : decode I.2.1 pc = .ok (.if_icmp .ge off, 3)) (ht : (pc : Int) + off = (tgt : Int)) : am_St cl Y Z I pc (ai_icmp_ge tgt) := by
  intro p l e R s m args below meth c Q D cy A C S S' hpc hf
  obtain ⟨pc', lv, st, h, k, n⟩ := S
  obtain rfl : pc' = pc := hpc
  simp only [ai_icmp_ge] at hf
  split at hf <;> first | (cases hf; done) | skip
  rename_i y x r
  cases hf
  refine ⟨⟨Nat.le_refl _, Nat.le_refl _⟩, fun α hc1 hc2 hk => ?_⟩
  replace hk := am_k0 hk
  intro H locs ls hlen hP hD hS hl
  exact lv_icmp_ge C.1.1 C.1.2.1 hd ht (fun hx => (W.eq (g2 := F0 m (if y ≤ x then tgt else pc' + 3) ls (r.map (am_V α))) (by rw [if_pos hx]) (hk H locs ls hlen hP hD hS hl))) (fun hx => (W.eq (g2 := F0 m (if y ≤ x then tgt else pc' + 3) ls (r.map (am_V α))) (by rw [if_neg hx]) (hk H locs ls hlen hP hD hS hl)))
def ai_if_gt (tgt : Nat) : am_s → Option am_s := fun S => match S.2.2.1 with
  | .inl x :: r => some (if 0 < x then tgt else S.1 + 3, S.2.1, r, S.2.2.2)
  | _ => none
theorem as_if_gt {off : Int} {tgt : Nat} (hd : decode I.2.1 pc = .ok (.ifCond .gt off, 3)) (ht : (pc : Int) + off = (tgt : Int)) : am_St cl Y Z I pc (ai_if_gt tgt) := by
  intro p l e R s m args below meth c Q D cy A C S S' hpc hf
  obtain ⟨pc', lv, st, h, k, n⟩ := S
  obtain rfl : pc' = pc := hpc
  simp only [ai_if_gt] at hf
  split at hf <;> first | (cases hf; done) | skip
  rename_i x r
  cases hf
  refine ⟨⟨Nat.le_refl _, Nat.le_refl _⟩, fun α hc1 hc2 hk => ?_⟩
  replace hk := am_k0 hk
  intro H locs ls hlen hP hD hS hl
  exact lv_if_gt C.1.1 C.1.2.1 hd ht (fun hx => (W.eq (g2 := F0 m (if 0 < x then tgt else pc' + 3) ls (r.map (am_V α))) (by rw [if_pos hx]) (hk H locs ls hlen hP hD hS hl))) (fun hx => (W.eq (g2 := F0 m (if 0 < x then tgt else pc' + 3) ls (r.map (am_V α))) (by rw [if_neg hx]) (hk H locs ls hlen hP hD hS hl)))
def ai_icmp_gt (tgt : Nat) : am_s → Option am_s := fun S => match S.2.2.1 with
  | .inl y :: .inl x :: r => some (if y < x then tgt else S.1 + 3, S.2.1, r, S.2.2.2)
  | _ => none
theorem as_icmp_gt {off : Int} {tgt : Nat} (hd : decode I.2.1 pc = .ok (.if_icmp .gt off, 3)) (ht : (pc : Int) + off = (tgt : Int)) : am_St cl Y Z I pc (ai_icmp_gt tgt) := by
  intro p l e R s m args below meth c Q D cy A C S S' hpc hf
  obtain ⟨pc', lv, st, h, k, n⟩ := S
  obtain rfl : pc' = pc := hpc
  simp only [ai_icmp_gt] at hf
  split at hf <;> first | (cases hf; done) | skip
  rename_i y x r
  cases hf
  refine ⟨⟨Nat.le_refl _, Nat.le_refl _⟩, fun α hc1 hc2 hk => ?_⟩
  replace hk := am_k0 hk
  intro H locs ls hlen hP hD hS hl
  exact lv_icmp_gt C.1.1 C.1.2.1 hd ht (fun hx => (W.eq (g2 := F0 m (if y < x then tgt else pc' + 3) ls (r.map (am_V α))) (by rw [if_pos hx]) (hk H locs ls hlen hP hD hS hl))) (fun hx => (W.eq (g2 := F0 m (if y < x then tgt else pc' + 3) ls (r.map (am_V α))) (by rw [if_neg hx]) (hk H locs ls hlen hP hD hS hl)))
def ai_if_le (tgt : Nat) : am_s → Option am_s := fun S => match S.2.2.1 with
  | .inl x :: r => some (if x ≤ 0 then tgt else S.1 + 3, S.2.1, r, S.2.2.2)
  | _ => none
theorem as_if_le {off : Int} {tgt : Nat} (hd : decode I.2.1 pc = .ok (.ifCond .le off, 3)) (ht : (pc : Int) + off = (tgt : Int)) : am_St cl Y Z I pc (ai_if_le tgt) := by
  intro p l e R s m args below meth c Q D cy A C S S' hpc hf
  obtain ⟨pc', lv, st, h, k, n⟩ := S
  obtain rfl : pc' = pc := hpc
  simp only [ai_if_le] at hf
  split at hf <;> first | (cases hf; done) | skip
  rename_i x r
  cases hf
  refine ⟨⟨Nat.le_refl _, Nat.le_refl _⟩, fun α hc1 hc2 hk => ?_⟩
  replace hk := am_k0 hk
  intro H locs ls hlen hP hD hS hl
  exact lv_if_le C.1.1 C.1.2.1 hd ht (fun hx => (W.eq (g2 := F0 m (if x ≤ 0 then tgt else pc' + 3) ls (r.map (am_V α))) (by rw [if_pos hx]) (hk H locs ls hlen hP hD hS hl))) (fun hx => (W.eq (g2 := F0 m (if x ≤ 0 then tgt else pc' + 3) ls (r.map (am_V α))) (by rw [if_neg hx]) (hk H locs ls hlen hP hD hS hl)))
def ai_icmp_le (tgt : Nat) : am_s → Option am_s := fun S => match S.2.2.1 with
  | .inl y :: .inl x :: r => some (if x ≤ y then tgt else S.1 + 3, S.2.1, r, S.2.2.2)
  | _ => none
theorem as_icmp_le {off : Int} {tgt : Nat} (hd : decode I.2.1 pc = .ok (.if_icmp .le off, 3)) (ht : (pc : Int) + off = (tgt : Int)) : am_St cl Y Z I pc (ai_icmp_le tgt) := by
  intro p l e R s m args below meth c Q D cy A C S S' hpc hf
  obtain ⟨pc', lv, st, h, k, n⟩ := S
  obtain rfl : pc' = pc := hpc
  simp only [ai_icmp_le] at hf
  split at hf <;> first | (cases hf; done) | skip
  rename_i y x r
  cases hf
  refine ⟨⟨Nat.le_refl _, Nat.le_refl _⟩, fun α hc1 hc2 hk => ?_⟩
  replace hk := am_k0 hk
  intro H locs ls hlen hP hD hS hl
  exact lv_icmp_le C.1.1 C.1.2.1 hd ht (fun hx => (W.eq (g2 := F0 m (if x ≤ y then tgt else pc' + 3) ls (r.map (am_V α))) (by rw [if_pos hx]) (hk H locs ls hlen hP hD hS hl))) (fun hx => (W.eq (g2 := F0 m (if x ≤ y then tgt else pc' + 3) ls (r.map (am_V α))) (by rw [if_neg hx]) (hk H locs ls hlen hP hD hS hl)))
def ai_ifnull (a b : Nat) : am_s → Option am_s := fun S => match S.2.2.1 with
  | .inr (.inr none) :: r => some (a, S.2.1, r, S.2.2.2)
  | .inr (.inr (some _)) :: r => some (b, S.2.1, r, S.2.2.2)
  | _ => none
theorem as_ifnull {off : Int} {tgt : Nat} (hd : decode I.2.1 pc = .ok (.ifnull off, 3)) (ht : (pc : Int) + off = (tgt : Int)) : am_St cl Y Z I pc (ai_ifnull tgt (pc + 3)) := by
  intro p l e R s m args below meth c Q D cy A C S S' hpc hf
  obtain ⟨pc', lv, st, h, k, n⟩ := S
  obtain rfl : pc' = pc := hpc
  simp only [ai_ifnull] at hf
  split at hf <;> first | (cases hf; done) | skip
  · rename_i r
    cases hf
    refine ⟨⟨Nat.le_refl _, Nat.le_refl _⟩, fun α hc1 hc2 hk => ?_⟩
    replace hk := am_k0 hk
    intro H locs ls hlen hP hD hS hl
    exact lv_ifnullN C.1.1 C.1.2.1 hd ht (hk H locs ls hlen hP hD hS hl)
  · rename_i x r
    cases hf
    refine ⟨⟨Nat.le_refl _, Nat.le_refl _⟩, fun α hc1 hc2 hk => ?_⟩
    replace hk := am_k0 hk
    intro H locs ls hlen hP hD hS hl
    exact lv_ifnull C.1.1 C.1.2.1 hd (hk H locs ls hlen hP hD hS hl)
theorem as_ifnonnull {off : Int} {tgt : Nat} (hd : decode I.2.1 pc = .ok (.ifnonnull off, 3)) (ht : (pc : Int) + off = (tgt : Int)) : am_St cl Y Z I pc (ai_ifnull (pc + 3) tgt) := by
  intro p l e R s m args below meth c Q D cy A C S S' hpc hf
  obtain ⟨pc', lv, st, h, k, n⟩ := S
  obtain rfl : pc' = pc := hpc
  simp only [ai_ifnull] at hf
  split at hf <;> first | (cases hf; done) | skip
  · rename_i r
    cases hf
    refine ⟨⟨Nat.le_refl _, Nat.le_refl _⟩, fun α hc1 hc2 hk => ?_⟩
    replace hk := am_k0 hk
    intro H locs ls hlen hP hD hS hl
    exact lv_ifnonnullN C.1.1 C.1.2.1 hd (hk H locs ls hlen hP hD hS hl)
  · rename_i x r
    cases hf
    refine ⟨⟨Nat.le_refl _, Nat.le_refl _⟩, fun α hc1 hc2 hk => ?_⟩
    replace hk := am_k0 hk
    intro H locs ls hlen hP hD hS hl
    exact lv_ifnonnull C.1.1 C.1.2.1 hd ht (hk H locs ls hlen hP hD hS hl)
def ai_sw (g : Int32 → Nat) : am_s → Option am_s := fun S => match S.2.2.1 with
  | .inl x :: r => some (g x, S.2.1, r, S.2.2.2)
  | _ => none
/-- a table of targets from a least number on -/
def am_tb (d : Nat) (lo hi : Int) (ts : List Nat) (x : Int32) : Nat := if x.toInt < lo ∨ hi < x.toInt then d else ts.getD (x.toInt - lo).toNat 0
def am_lk (d : Nat) : List (Int × Nat) → Int32 → Nat
  | [], _ => d
  | q :: r, x => if x.toInt = q.1 then q.2 else am_lk d r x
theorem as_table {dflt lo hi : Int} {offs : Array Int} {len : Nat} {d : Nat} {ts : List Nat} (hd : decode I.2.1 pc = .ok (.tableswitch dflt lo hi offs, len)) (h0 : (pc : Int) + dflt = (d : Int)) (hsz : offs.toList.map (fun o => (pc : Int) + o) = ts.map (fun t : Nat => (t : Int))) (hlen0 : ts.length = (hi - lo).toNat + 1) : am_St cl Y Z I pc (ai_sw (am_tb d lo hi ts)) := by
  intro p l e R s m args below meth c Q D cy A C S S' hpc hf
  obtain ⟨pc', lv, st, h, k, n⟩ := S
  obtain rfl : pc' = pc := hpc
  simp only [ai_sw] at hf
  split at hf <;> first | (cases hf; done) | skip
  rename_i x r
  cases hf
  refine ⟨⟨Nat.le_refl _, Nat.le_refl _⟩, fun α hc1 hc2 hk => ?_⟩
  replace hk := am_k0 hk
  intro H locs ls hlen hP hD hS hl
  by_cases hx : x.toInt < lo ∨ hi < x.toInt
  · exact lv_tableOut C.1.1 C.1.2.1 hd hx h0 (W.eq (g2 := F0 m (am_tb d lo hi ts x) ls (r.map (am_V α))) (by unfold am_tb; rw [if_pos hx]) (hk H locs ls hlen hP hD hS hl))
  · have h1 : ¬ x.toInt < lo := fun z => hx (Or.inl z)
    have h2 : ¬ hi < x.toInt := fun z => hx (Or.inr z)
    have hi0 : (x.toInt - lo).toNat < ts.length := by omega
    have hoff := congrArg (fun q : List Int => q[(x.toInt - lo).toNat]?) hsz
    simp only [List.getElem?_map, List.getElem?_eq_getElem hi0, Option.map_some] at hoff
    obtain ⟨off, ho, he⟩ := Option.map_eq_some_iff.mp hoff
    refine lv_tableIn C.1.1 C.1.2.1 hd h1 h2 (by rw [← Array.getElem?_toList]; exact ho) he (W.eq (g2 := F0 m (am_tb d lo hi ts x) ls (r.map (am_V α))) ?_ (hk H locs ls hlen hP hD hS hl))
    unfold am_tb
    rw [if_neg hx]
    simp [List.getD, List.getElem?_eq_getElem hi0]
theorem am_lk_eq {pc : Nat} {d : Nat} {dflt : Int} (h0 : (pc : Int) + dflt = (d : Int)) (x : Int32) : ∀ (ps : List (Int × Int)) (qs : List (Int × Nat)), ps.map (fun q => (q.1, (pc : Int) + q.2)) = qs.map (fun q => (q.1, (q.2 : Int))) → (pc : Int) + Op.lookupswitch.offset ps dflt x.toInt = (am_lk d qs x : Int)
  | [], [], _ => h0
  | [], q :: qs, h => by cases h
  | a :: ps, [], h => by cases h
  | a :: ps, q :: qs, h => by
    simp only [List.map_cons, List.cons.injEq, Prod.mk.injEq] at h
    have ih := am_lk_eq h0 x ps qs h.2
    unfold am_lk
    unfold Op.lookupswitch.offset
    by_cases hx : x.toInt = q.1
    · rw [if_pos hx]
      simp_all
    · rw [if_neg hx]
      have hx2 : ¬ q.1 = x.toInt := fun z => hx z.symm
      simp_all
theorem as_lookup {dflt : Int} {ps : Array (Int × Int)} {len : Nat} {d : Nat} {qs : List (Int × Nat)} (hd : decode I.2.1 pc = .ok (.lookupswitch dflt ps, len)) (hp : (ps.toList.zip (ps.toList.drop 1)).all (fun (a, next) => a.1 < next.1) = true) (h0 : (pc : Int) + dflt = (d : Int)) (hq : ps.toList.map (fun q => (q.1, (pc : Int) + q.2)) = qs.map (fun q => (q.1, (q.2 : Int)))) : am_St cl Y Z I pc (ai_sw (am_lk d qs)) := by
  intro p l e R s m args below meth c Q D cy A C S S' hpc hf
  obtain ⟨pc', lv, st, h, k, n⟩ := S
  obtain rfl : pc' = pc := hpc
  simp only [ai_sw] at hf
  split at hf <;> first | (cases hf; done) | skip
  rename_i x r
  cases hf
  refine ⟨⟨Nat.le_refl _, Nat.le_refl _⟩, fun α hc1 hc2 hk => ?_⟩
  replace hk := am_k0 hk
  intro H locs ls hlen hP hD hS hl
  exact lv_lookup C.1.1 C.1.2.1 hd hp rfl (am_lk_eq h0 x ps.toList qs hq) (hk H locs ls hlen hP hD hS hl)
end AM
