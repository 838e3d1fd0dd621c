section AMC
variable {p : Program} {l : Launch} {e : Env} {R : Room} {s : State} {m : MethodId} {args : Array Value} {below : List Frame} {meth : Method} {c : Code} {Q : State → Prop} {D : va_G} {cl : List vw_C} {cy : am_cy} {Y : am_y} {A : Nat → Prop} {nL : Nat} {Z : am_z} {I : am_i} {pc : Nat}
def ai_get (ci k : Nat) : am_s → Option am_s := fun S => match S.2.2.1 with
  | .inr (.inr (some i)) :: r => match S.2.2.2.1[i]? with
    | some (.inr (c9, fs)) => if c9 = ci then (match fs[k]? with
      | some v => some (S.1 + 3, S.2.1, v :: r, S.2.2.2)
      | none => none) else none
    | _ => none
  | _ => none
theorem as_get {C : String} {T : u_T} {N ci k index : Nat} (hd : decode I.2.1 pc = .ok (.getfield index, 3)) (hin : ∀ w ∈ u_ws C T N, w ∈ I.2.2.2.1) (hc : cl[ci]? = some (C, T, N)) (hk : k < N) (hm : Cond.fieldLink I.1 index (T k).1 (T k).2.1 (T k).2.2.1 ∈ I.2.2.2.1) : am_St cl Y Z I pc (ai_get ci k) := by
  intro p l e R s m args below meth c Q D cy A C S S' hpc hf
  obtain ⟨pc', lv, st, h, k, n⟩ := S
  obtain rfl : pc' = pc := hpc
  simp only [ai_get] at hf
  split at hf <;> first | (cases hf; done) | skip
  rename_i i r
  split at hf <;> first | (cases hf; done) | skip
  rename_i c9 fs hg
  split at hf <;> first | (cases hf; done) | skip
  rename_i hc9
  split at hf <;> first | (cases hf; done) | skip
  rename_i v hv
  subst hc9
  cases hf
  refine ⟨⟨Nat.le_refl _, Nat.le_refl _⟩, fun α hc1 hc2 hk => ?_⟩
  replace hk := am_k0 hk
  intro H locs ls hlen hP hD hS hl
  exact va_get C.1.1 C.1.2.1 C.1.2.2.2.2 hin C.1.2.2.2.1 C.2.1 hP (i - 1) (am_W_get hlen hg (am_al.ne hlen hg (fun xs z => by cases z))) hc _ ‹_› (C.1.2.2.2.2 _ hm) (fun _ h9 => h9) (by rw [List.getElem?_map, hv]; rfl) hd (hk H locs ls hlen hP hD hS hl)
def ai_put (ci k : Nat) (ok : am_v → Bool) : am_s → Option am_s := fun S => match S.2.2.1 with
  | v :: .inr (.inr (some i)) :: r => match S.2.2.2.1[i]? with
    | some (.inr (c9, fs)) => if c9 = ci ∧ ok v = true ∧ k < fs.length then some (S.1 + 3, S.2.1, r, S.2.2.2.1.set i (.inr (ci, fs.set k v)), S.2.2.2.2) else none
    | _ => none
  | _ => none
def am_okI : am_v → Bool | .inl _ => true | _ => false
def am_okJ : am_v → Bool | .inr (.inl _) => true | _ => false
def am_okR : am_v → Bool | .inr (.inr _) => true | _ => false
def am_okZ : am_v → Bool | .inl x => x == 0 || x == 1 | _ => false
def am_okT (ty : FieldType) (ok : am_v → Bool) : Prop := ∀ (α : List Nat) (v : am_v), ok v = true → narrow ty (am_V α v) = am_V α v ∧ fits ty (am_V α v) = true
theorem am_okT_I : am_okT .int am_okI := fun α v h => match v, h with | .inl _, _ => ⟨rfl, rfl⟩
theorem am_okT_J : am_okT .long am_okJ := fun α v h => match v, h with | .inr (.inl _), _ => ⟨rfl, rfl⟩
theorem am_okT_O (n : String) : am_okT (.object n) am_okR := fun α v h => match v, h with | .inr (.inr none), _ => ⟨rfl, rfl⟩ | .inr (.inr (some _)), _ => ⟨rfl, rfl⟩
theorem am_okT_A (t : FieldType) : am_okT (.array t) am_okR := fun α v h => match v, h with | .inr (.inr none), _ => ⟨rfl, rfl⟩ | .inr (.inr (some _)), _ => ⟨rfl, rfl⟩
theorem am_okT_Z : am_okT .boolean am_okZ := fun α v h => match v, h with
  | .inl x, h => by
    have h2 : x = 0 ∨ x = 1 := by simpa [am_okZ] using h
    rcases h2 with rfl | rfl <;> exact ⟨rfl, rfl⟩
theorem am_map_set {α : List Nat} {fs : List am_v} {k : Nat} {v : am_v} : (fs.map (am_V α)).set k (am_V α v) = (fs.set k v).map (am_V α) := by rw [List.map_set]
theorem as_put {C : String} {T : u_T} {N ci k index : Nat} {ty : Nat → FieldType} {ok : am_v → Bool} (hd : decode I.2.1 pc = .ok (.putfield index, 3)) (hin : ∀ w ∈ u_ws C T N, w ∈ I.2.2.2.1) (hty : ∀ k, k < N → parseFieldDescriptor (T k).2.2.1 = some (ty k)) (hnm : ∀ a, a < N → ∀ b, b < N → a ≠ b → (T a).2.1 ≠ (T b).2.1) (hc : cl[ci]? = some (C, T, N)) (hk : k < N) (hm : Cond.fieldLink I.1 index (T k).1 (T k).2.1 (T k).2.2.1 ∈ I.2.2.2.1) (hok : am_okT (ty k) ok)
    (hfin : (T k).2.2.2 = false ∨ ((T k).2.2.2 = true ∧ I.2.2.2.2.1.name = "<init>" ∧ (T k).1 = I.1)) : am_St cl Y Z I pc (ai_put ci k ok) := by
  intro p l e R s m args below meth c Q D cy A C S S' hpc hf
  obtain ⟨pc', lv, st, h, k0, n⟩ := S
  obtain rfl : pc' = pc := hpc
  simp only [ai_put] at hf
  split at hf <;> first | (cases hf; done) | skip
  rename_i v i r
  split at hf <;> first | (cases hf; done) | skip
  rename_i c9 fs hg
  split at hf <;> first | (cases hf; done) | skip
  rename_i hc9
  obtain ⟨hc9, hv, hl9⟩ := hc9
  subst hc9
  cases hf
  refine ⟨⟨Nat.le_refl _, Nat.le_refl _⟩, fun α hc1 hc2 hk9 => ?_⟩
  replace hk9 := am_k0 hk9
  intro H locs ls hlen hP hD hS hl
  have he := hok α v hv
  have hi0 : i ≠ 0 := am_al.ne hlen hg (fun xs z => by cases z)
  have hW : (am_W cy α h).set (i - 1) (α.getD i 0, .inr (c9, (fs.map (am_V α)).set k (am_V α v))) = am_W cy α (h.set i (.inr (c9, fs.set k v))) := by
    rw [am_map_set]
    exact am_W_set hi0 (.inr (c9, fs.set k v))
  have kk : ∀ (H1 : Heap) (locs1 : List Loc), va_P D cl ((am_W cy α h).set (i - 1) (α.getD i 0, .inr (c9, (fs.map (am_V α)).set k (am_V α v)))) H1 → va_D A ((am_W cy α h).set (i - 1) (α.getD i 0, .inr (c9, (fs.map (am_V α)).set k (am_V α v)))) → va_S A s.heap H1 locs1 → W p l e R s m args below meth c H1 locs1 k0 n Q (F0 m (pc' + 3) ls (r.map (am_V α))) := fun H1 locs1 hP1 hD1 hS1 => by
    rw [hW] at hP1 hD1
    exact hk9 H1 locs1 ls (hlen.set hi0) hP1 hD1 hS1 hl
  rcases hfin with hfin | ⟨hfin, hin2, hdecl⟩
  · exact va_put C.1.1 C.1.2.1 C.1.2.2.2.2 hin ty hty hnm C.1.2.2.2.1 C.2.1 hP hD hS (i - 1) (am_W_get hlen hg hi0) hc k hk (C.1.2.2.2.2 _ hm) (fun _ h9 => h9) hfin (hty k hk) he.1 he.2 (by simpa using hl9) hd kk
  · exact va_putF C.1.1 C.1.2.1 C.1.2.2.2.2 hin ty hty hnm C.1.2.2.2.1 C.2.1 hP hD hS (i - 1) (am_W_get hlen hg hi0) hc k hk (C.1.2.2.2.2 _ hm) (fun _ h9 => h9) hfin (C.2.2.2.2.1 hin2) hdecl (hty k hk) he.1 he.2 (by simpa using hl9) hd kk
def am_in (i : Int32) (n : Nat) : Prop := ¬ i < 0 ∧ i.toNatClampNeg < n
theorem am_in_vp {i : Int32} {n : Nat} (h : ¬ i < 0 ∧ i.toNatClampNeg < n) : vp_in i n := fun z => z.elim h.1 (fun w => Nat.not_lt.mpr w h.2)
def ai_iald : am_s → Option am_s := fun S => match S.2.2.1 with
  | .inl i :: .inr (.inr (some a)) :: r => match S.2.2.2.1[a]? with
    | some (.inl (.inl xs)) => if a ≠ 0 ∧ ¬ i < 0 ∧ i.toNatClampNeg < xs.1 then some (S.1 + 1, S.2.1, .inl (xs.2.2.getD i.toNatClampNeg xs.2.1) :: r, S.2.2.2) else none
    | _ => none
  | _ => none
def ai_lald : am_s → Option am_s := fun S => match S.2.2.1 with
  | .inl i :: .inr (.inr (some a)) :: r => match S.2.2.2.1[a]? with
    | some (.inl (.inr (.inl xs))) => if ¬ i < 0 ∧ i.toNatClampNeg < xs.1 then some (S.1 + 1, S.2.1, .inr (.inl (xs.2.2.getD i.toNatClampNeg xs.2.1)) :: r, S.2.2.2) else none
    | _ => none
  | _ => none
def ai_bald : am_s → Option am_s := fun S => match S.2.2.1 with
  | .inl i :: .inr (.inr (some a)) :: r => match S.2.2.2.1[a]? with
    | some (.inl (.inr (.inr xs))) => if ¬ i < 0 ∧ i.toNatClampNeg < xs.1 then some (S.1 + 1, S.2.1, .inl (xs.2.2.getD i.toNatClampNeg xs.2.1) :: r, S.2.2.2) else none
    | _ => none
  | _ => none
def ai_iast : am_s → Option am_s := fun S => match S.2.2.1 with
  | .inl x :: .inl i :: .inr (.inr (some a)) :: r => match S.2.2.2.1[a]? with
    | some (.inl (.inl xs)) => if a ≠ 0 ∧ ¬ i < 0 ∧ i.toNatClampNeg < xs.1 then some (S.1 + 1, S.2.1, r, S.2.2.2.1.set a (.inl (.inl (xs.1, xs.2.1, am_up xs.2.1 xs.2.2 i.toNatClampNeg x))), S.2.2.2.2) else none
    | _ => none
  | _ => none
def ai_last : am_s → Option am_s := fun S => match S.2.2.1 with
  | .inr (.inl x) :: .inl i :: .inr (.inr (some a)) :: r => match S.2.2.2.1[a]? with
    | some (.inl (.inr (.inl xs))) => if ¬ i < 0 ∧ i.toNatClampNeg < xs.1 then some (S.1 + 1, S.2.1, r, S.2.2.2.1.set a (.inl (.inr (.inl (xs.1, xs.2.1, am_up xs.2.1 xs.2.2 i.toNatClampNeg x)))), S.2.2.2.2) else none
    | _ => none
  | _ => none
def ai_bast : am_s → Option am_s := fun S => match S.2.2.1 with
  | .inl x :: .inl i :: .inr (.inr (some a)) :: r => match S.2.2.2.1[a]? with
    | some (.inl (.inr (.inr xs))) => if ¬ i < 0 ∧ i.toNatClampNeg < xs.1 then some (S.1 + 1, S.2.1, r, S.2.2.2.1.set a (.inl (.inr (.inr (xs.1, xs.2.1, am_up xs.2.1 xs.2.2 i.toNatClampNeg x.toInt8.toInt32)))), S.2.2.2.2) else none
    | _ => none
  | _ => none
def ai_alen : am_s → Option am_s := fun S => match S.2.2.1 with
  | .inr (.inr (some a)) :: r => match S.2.2.2.1[a]? with
    | some (.inl (.inl xs)) => if a ≠ 0 then some (S.1 + 1, S.2.1, .inl (Int32.ofNat xs.1) :: r, S.2.2.2) else none
    | some (.inl (.inr (.inl xs))) => some (S.1 + 1, S.2.1, .inl (Int32.ofNat xs.1) :: r, S.2.2.2)
    | some (.inl (.inr (.inr xs))) => some (S.1 + 1, S.2.1, .inl (Int32.ofNat xs.1) :: r, S.2.2.2)
    | _ => none
  | _ => none
theorem as_iald (hd : decode I.2.1 pc = .ok (.iaload, 1)) : am_St cl Y Z I pc ai_iald := by
  intro p l e R s m args below meth c Q D cy A C S S' hpc hf
  obtain ⟨pc', lv, st, h, k, n⟩ := S
  obtain rfl : pc' = pc := hpc
  simp only [ai_iald] at hf
  split at hf <;> first | (cases hf; done) | skip
  rename_i i a r
  split at hf <;> first | (cases hf; done) | skip
  rename_i xs hg
  split at hf <;> first | (cases hf; done) | skip
  rename_i hi
  obtain ⟨ha, hi⟩ := hi
  cases hf
  refine ⟨⟨Nat.le_refl _, Nat.le_refl _⟩, fun α hc1 hc2 hk => ?_⟩
  replace hk := am_k0 hk
  intro H locs ls hlen hP hD hS hl
  exact va_iald C.1.1 C.1.2.1 C.2.1 hP (a - 1) 0 (am_W_get hlen hg ha) rfl (am_in_vp hi) hd (hk H locs ls hlen hP hD hS hl)
/-- the script among the start's facts -/
def am_ZX (Y : am_y) (Z : am_z) : Prop := ∀ (A : Nat → Prop) (s : State), Z A s → va_X Y.1 Y.2.length (fun j => Y.2.getD j 0) s s.heap ∧ Y.1 < s.heap.size ∧ ¬ A Y.1
/-- a number of the script -/
def ai_sld (xs : List Int32) : am_s → Option am_s := fun S => match S.2.2.1 with
  | .inl i :: .inr (.inr (some 0)) :: r => if ¬ i < 0 ∧ i.toNatClampNeg < xs.length then some (S.1 + 1, S.2.1, .inl (xs.getD i.toNatClampNeg 0) :: r, S.2.2.2) else none
  | _ => none
def ai_slen (xs : List Int32) : am_s → Option am_s := fun S => match S.2.2.1 with
  | .inr (.inr (some 0)) :: r => some (S.1 + 1, S.2.1, .inl (Int32.ofNat xs.length) :: r, S.2.2.2)
  | _ => none
theorem as_sld (hZX : am_ZX Y Z) (hd : decode I.2.1 pc = .ok (.iaload, 1)) : am_St cl Y Z I pc (ai_sld Y.2) := by
  intro p l e R s m args below meth c Q D cy A C S S' hpc hf
  obtain ⟨pc', lv, st, h, k, n⟩ := S
  obtain rfl : pc' = pc := hpc
  simp only [ai_sld] at hf
  split at hf <;> first | (cases hf; done) | skip
  rename_i i r
  split at hf <;> first | (cases hf; done) | skip
  rename_i hi
  cases hf
  refine ⟨⟨Nat.le_refl _, Nat.le_refl _⟩, fun α hc1 hc2 hk => ?_⟩
  replace hk := am_k0 hk
  intro H locs ls hlen hP hD hS hl
  obtain ⟨x1, x2, x3⟩ := hZX A s C.2.2.2.1
  have hb : α.getD 0 0 = Y.1 := hlen.2.1
  show W p l e R s m args below meth c H locs k n Q (F0 m pc' ls (.int i :: .ref (α.getD 0 0) :: r.map (am_V α)))
  rw [hb]
  exact va_sld C.1.1 C.1.2.1 x1 x2 x3 hS (am_in_vp hi) hd (hk H locs ls hlen hP hD hS hl)
theorem as_slen (hZX : am_ZX Y Z) (hd : decode I.2.1 pc = .ok (.arraylength, 1)) : am_St cl Y Z I pc (ai_slen Y.2) := by
  intro p l e R s m args below meth c Q D cy A C S S' hpc hf
  obtain ⟨pc', lv, st, h, k, n⟩ := S
  obtain rfl : pc' = pc := hpc
  simp only [ai_slen] at hf
  split at hf <;> first | (cases hf; done) | skip
  rename_i r
  cases hf
  refine ⟨⟨Nat.le_refl _, Nat.le_refl _⟩, fun α hc1 hc2 hk => ?_⟩
  replace hk := am_k0 hk
  intro H locs ls hlen hP hD hS hl
  obtain ⟨x1, x2, x3⟩ := hZX A s C.2.2.2.1
  have hb : α.getD 0 0 = Y.1 := hlen.2.1
  show W p l e R s m args below meth c H locs k n Q (F0 m pc' ls (.ref (α.getD 0 0) :: r.map (am_V α)))
  rw [hb]
  exact va_slen C.1.1 C.1.2.1 x1 x2 x3 hS hd (hk H locs ls hlen hP hD hS hl)
theorem as_lald (hd : decode I.2.1 pc = .ok (.laload, 1)) : am_St cl Y Z I pc ai_lald := by
  intro p l e R s m args below meth c Q D cy A C S S' hpc hf
  obtain ⟨pc', lv, st, h, k, n⟩ := S
  obtain rfl : pc' = pc := hpc
  simp only [ai_lald] at hf
  split at hf <;> first | (cases hf; done) | skip
  rename_i i a r
  split at hf <;> first | (cases hf; done) | skip
  rename_i xs hg
  split at hf <;> first | (cases hf; done) | skip
  rename_i hi
  cases hf
  refine ⟨⟨Nat.le_refl _, Nat.le_refl _⟩, fun α hc1 hc2 hk => ?_⟩
  replace hk := am_k0 hk
  intro H locs ls hlen hP hD hS hl
  exact va_lald C.1.1 C.1.2.1 C.2.1 hP (a - 1) 1 (am_W_get hlen hg (am_al.ne hlen hg (fun xs z => by cases z))) rfl (am_in_vp hi) hd (hk H locs ls hlen hP hD hS hl)
theorem as_bald (hd : decode I.2.1 pc = .ok (.baload, 1)) : am_St cl Y Z I pc ai_bald := by
  intro p l e R s m args below meth c Q D cy A C S S' hpc hf
  obtain ⟨pc', lv, st, h, k, n⟩ := S
  obtain rfl : pc' = pc := hpc
  simp only [ai_bald] at hf
  split at hf <;> first | (cases hf; done) | skip
  rename_i i a r
  split at hf <;> first | (cases hf; done) | skip
  rename_i xs hg
  split at hf <;> first | (cases hf; done) | skip
  rename_i hi
  cases hf
  refine ⟨⟨Nat.le_refl _, Nat.le_refl _⟩, fun α hc1 hc2 hk => ?_⟩
  replace hk := am_k0 hk
  intro H locs ls hlen hP hD hS hl
  exact va_bald C.1.1 C.1.2.1 C.2.1 hP (a - 1) 2 (am_W_get hlen hg (am_al.ne hlen hg (fun xs z => by cases z))) rfl (am_in_vp hi) hd (hk H locs ls hlen hP hD hS hl)
theorem as_iast (hd : decode I.2.1 pc = .ok (.iastore, 1)) : am_St cl Y Z I pc ai_iast := by
  intro p l e R s m args below meth c Q D cy A C S S' hpc hf
  obtain ⟨pc', lv, st, h, k, n⟩ := S
  obtain rfl : pc' = pc := hpc
  simp only [ai_iast] at hf
  split at hf <;> first | (cases hf; done) | skip
  rename_i x i a r
  split at hf <;> first | (cases hf; done) | skip
  rename_i xs hg
  split at hf <;> first | (cases hf; done) | skip
  rename_i hi
  obtain ⟨ha0, hi⟩ := hi
  cases hf
  refine ⟨⟨Nat.le_refl _, Nat.le_refl _⟩, fun α hc1 hc2 hk => ?_⟩
  replace hk := am_k0 hk
  intro H locs ls hlen hP hD hS hl
  have ha0 : a ≠ 0 := ha0
  have hW : (am_W cy α h).set (a - 1) (α.getD a 0, .inl (cy.1, xs.1, .inl (upd (fun j => xs.2.2.getD j xs.2.1) i.toNatClampNeg x))) = am_W cy α (h.set a (.inl (.inl (xs.1, xs.2.1, am_up xs.2.1 xs.2.2 i.toNatClampNeg x)))) := by
    rw [am_up_eq, ← am_W_set ha0 (.inl (.inl (xs.1, xs.2.1, am_up xs.2.1 xs.2.2 i.toNatClampNeg x)))]
    rfl
  refine va_iast C.1.1 C.1.2.1 C.2.1 hP hD hS (a - 1) 0 (am_W_get hlen hg ha0) rfl (am_in_vp hi) hd (fun H1 locs1 hP1 hD1 hS1 => ?_)
  rw [hW] at hP1 hD1
  exact hk H1 locs1 ls (hlen.set ha0) hP1 hD1 hS1 hl
theorem as_last (hd : decode I.2.1 pc = .ok (.lastore, 1)) : am_St cl Y Z I pc ai_last := by
  intro p l e R s m args below meth c Q D cy A C S S' hpc hf
  obtain ⟨pc', lv, st, h, k, n⟩ := S
  obtain rfl : pc' = pc := hpc
  simp only [ai_last] at hf
  split at hf <;> first | (cases hf; done) | skip
  rename_i x i a r
  split at hf <;> first | (cases hf; done) | skip
  rename_i xs hg
  split at hf <;> first | (cases hf; done) | skip
  rename_i hi
  cases hf
  refine ⟨⟨Nat.le_refl _, Nat.le_refl _⟩, fun α hc1 hc2 hk => ?_⟩
  replace hk := am_k0 hk
  intro H locs ls hlen hP hD hS hl
  have ha0 : a ≠ 0 := am_al.ne hlen hg (fun xs z => by cases z)
  have hW : (am_W cy α h).set (a - 1) (α.getD a 0, .inl (cy.2.1, xs.1, .inr (.inl (vp_updL (fun j => xs.2.2.getD j xs.2.1) i.toNatClampNeg x)))) = am_W cy α (h.set a (.inl (.inr (.inl (xs.1, xs.2.1, am_up xs.2.1 xs.2.2 i.toNatClampNeg x))))) := by
    rw [am_up_eqL, ← am_W_set ha0 (.inl (.inr (.inl (xs.1, xs.2.1, am_up xs.2.1 xs.2.2 i.toNatClampNeg x))))]
    rfl
  refine va_last C.1.1 C.1.2.1 C.2.1 hP hD hS (a - 1) 1 (am_W_get hlen hg ha0) rfl (am_in_vp hi) hd (fun H1 locs1 hP1 hD1 hS1 => ?_)
  rw [hW] at hP1 hD1
  exact hk H1 locs1 ls (hlen.set ha0) hP1 hD1 hS1 hl
theorem as_bast (hd : decode I.2.1 pc = .ok (.bastore, 1)) : am_St cl Y Z I pc ai_bast := by
  intro p l e R s m args below meth c Q D cy A C S S' hpc hf
  obtain ⟨pc', lv, st, h, k, n⟩ := S
  obtain rfl : pc' = pc := hpc
  simp only [ai_bast] at hf
  split at hf <;> first | (cases hf; done) | skip
  rename_i x i a r
  split at hf <;> first | (cases hf; done) | skip
  rename_i xs hg
  split at hf <;> first | (cases hf; done) | skip
  rename_i hi
  cases hf
  refine ⟨⟨Nat.le_refl _, Nat.le_refl _⟩, fun α hc1 hc2 hk => ?_⟩
  replace hk := am_k0 hk
  intro H locs ls hlen hP hD hS hl
  have ha0 : a ≠ 0 := am_al.ne hlen hg (fun xs z => by cases z)
  have hW : (am_W cy α h).set (a - 1) (α.getD a 0, .inl (cy.2.2, xs.1, .inl (upd (fun j => xs.2.2.getD j xs.2.1) i.toNatClampNeg (vp_nar .byte x)))) = am_W cy α (h.set a (.inl (.inr (.inr (xs.1, xs.2.1, am_up xs.2.1 xs.2.2 i.toNatClampNeg x.toInt8.toInt32))))) := by
    rw [vp_nar_byte, am_up_eq, ← am_W_set ha0 (.inl (.inr (.inr (xs.1, xs.2.1, am_up xs.2.1 xs.2.2 i.toNatClampNeg x.toInt8.toInt32))))]
    rfl
  refine va_bast C.1.1 C.1.2.1 C.2.1 hP hD hS (a - 1) 2 (am_W_get hlen hg ha0) rfl (am_in_vp hi) hd (fun H1 locs1 hP1 hD1 hS1 => ?_)
  rw [hW] at hP1 hD1
  exact hk H1 locs1 ls (hlen.set ha0) hP1 hD1 hS1 hl
theorem as_alen (hd : decode I.2.1 pc = .ok (.arraylength, 1)) : am_St cl Y Z I pc ai_alen := by
  intro p l e R s m args below meth c Q D cy A C S S' hpc hf
  obtain ⟨pc', lv, st, h, k, n⟩ := S
  obtain rfl : pc' = pc := hpc
  simp only [ai_alen] at hf
  split at hf <;> first | (cases hf; done) | skip
  rename_i a r
  split at hf <;> first | (cases hf; done) | skip
  · rename_i xs hg
    split at hf <;> first | (cases hf; done) | skip
    rename_i ha
    cases hf
    refine ⟨⟨Nat.le_refl _, Nat.le_refl _⟩, fun α hc1 hc2 hk => ?_⟩
    replace hk := am_k0 hk
    intro H locs ls hlen hP hD hS hl
    exact va_alen C.1.1 C.1.2.1 C.2.1 hP (a - 1) 0 (am_W_get hlen hg ha) rfl rfl hd (hk H locs ls hlen hP hD hS hl)
  · rename_i xs hg
    cases hf
    refine ⟨⟨Nat.le_refl _, Nat.le_refl _⟩, fun α hc1 hc2 hk => ?_⟩
    replace hk := am_k0 hk
    intro H locs ls hlen hP hD hS hl
    exact va_alen C.1.1 C.1.2.1 C.2.1 hP (a - 1) 1 (am_W_get hlen hg (am_al.ne hlen hg (fun xs z => by cases z))) rfl rfl hd (hk H locs ls hlen hP hD hS hl)
  · rename_i xs hg
    cases hf
    refine ⟨⟨Nat.le_refl _, Nat.le_refl _⟩, fun α hc1 hc2 hk => ?_⟩
    replace hk := am_k0 hk
    intro H locs ls hlen hP hD hS hl
    exact va_alen C.1.1 C.1.2.1 C.2.1 hP (a - 1) 2 (am_W_get hlen hg (am_al.ne hlen hg (fun xs z => by cases z))) rfl rfl hd (hk H locs ls hlen hP hD hS hl)
/-- all numbers of cells in a state are of cells that are there -/
def am_okS (S : am_s) : Bool := am_okL S.2.2.2.1.length S.2.1 && (S.2.2.1.all (am_okV S.2.2.2.1.length) && am_okH S.2.2.2.1.length S.2.2.2.1)
theorem am_okS_1 {S : am_s} (h : am_okS S = true) : am_okL S.2.2.2.1.length S.2.1 = true ∧ S.2.2.1.all (am_okV S.2.2.2.1.length) = true ∧ am_okH S.2.2.2.1.length S.2.2.2.1 = true := by
  have h1 := Bool.and_eq_true_iff.mp h
  have h2 := Bool.and_eq_true_iff.mp h1.2
  exact ⟨h1.1, h2.1, h2.2⟩
theorem am_getD_last {α : List Nat} {q n : Nat} (h : α.length = n) : (α ++ [q]).getD n 0 = q := by
  subst h
  simp [List.getD]
def ai_new (ci N : Nat) (fs : List am_v) : am_s → Option am_s := fun S => if am_okS S = true then some (S.1 + 3, S.2.1, .inr (.inr (some S.2.2.2.1.length)) :: S.2.2.1, S.2.2.2.1 ++ [.inr (ci, fs)], S.2.2.2.2.1 + 1, S.2.2.2.2.2 + N) else none
theorem as_new {C : String} {T : u_T} {N ci index : Nat} {ty : Nat → FieldType} {fs : List am_v} (hd : decode I.2.1 pc = .ok (.new index, 3)) (hin : ∀ w ∈ u_ws C T N, w ∈ I.2.2.2.1) (hty : ∀ k, k < N → parseFieldDescriptor (T k).2.2.1 = some (ty k)) (hc : cl[ci]? = some (C, T, N)) (hm1 : Cond.classLink I.1 index C ∈ I.2.2.2.1) (hm2 : Cond.instantiable C N ∈ I.2.2.2.1) (hm3 : Cond.initialized C ∈ I.2.2.2.1) (hok : fs.all (am_okV 0) = true) (hfs : ∀ j, j < N → defaultValue (ty j) = vp_V (fs.map (am_V [])) j) : am_St cl Y Z I pc (ai_new ci N fs) := by
  intro p l e R s m args below meth c Q D cy A C S S' hpc hf
  obtain ⟨pc', lv, st, h, k, n⟩ := S
  obtain rfl : pc' = pc := hpc
  simp only [ai_new] at hf
  split at hf <;> first | (cases hf; done) | skip
  rename_i hS0
  obtain ⟨o1, o2, o3⟩ := am_okS_1 hS0
  cases hf
  refine ⟨⟨Nat.le_succ _, Nat.le_add_right _ _⟩, fun α hc1 hc2 hk => ?_⟩
  intro H locs ls hlen hP hD hS hl
  have hmap : ∀ α' : List Nat, fs.map (am_V α') = fs.map (am_V []) := fun α' => by
    have h9 := am_Vs_app (α := []) α' (fs := fs) hok
    simpa using h9
  refine va_new C.1.1 C.1.2.1 C.1.2.2.2.2 hin ty hty C.1.2.2.2.1 (C.1.2.2.2.2 _ hm1) (C.1.2.2.2.2 _ hm2) (C.1.2.2.2.2 _ hm3) C.2.1 hP hD hS C.2.2.1 hc (fs := fs.map (am_V [])) hfs hc1 hc2 hd (fun q H1 hP1 hD1 hS1 => ?_)
  have hh : α.length = h.length := hlen.1
  have hW : am_W cy α h ++ [(q, Sum.inr (ci, fs.map (am_V [])))] = am_W cy (α ++ [q]) (h ++ [.inr (ci, fs)]) := am_W_app hlen (by rw [hh]; exact o3) q (.inr (ci, fs)) _ (by show Sum.inr (ci, fs.map (am_V (α ++ [q]))) = _; rw [hmap])
  have hP1 : va_P D cl (am_W cy α h ++ [(q, Sum.inr (ci, fs.map (am_V [])))]) H1 := hP1
  have hD1 : va_D A (am_W cy α h ++ [(q, Sum.inr (ci, fs.map (am_V [])))]) := hD1
  rw [hW] at hP1 hD1
  have hl2 : lv_has ls I.2.2.1 (am_L (α ++ [q]) lv) := by
    rw [am_L_app [q] (by rw [hh]; exact o1)]
    exact hl
  refine W.eq ?_ (hk [q] H1 locs ls hlen.app hP1 hD1 hS1 hl2)
  show F0 m (pc' + 3) ls (.ref q :: st.map (am_V α)) = F0 m (pc' + 3) ls (Value.ref ((α ++ [q]).getD h.length 0) :: st.map (am_V (α ++ [q])))
  rw [am_getD_last hh, am_Vs_app [q] (by rw [hh]; exact o2)]
def ai_newI : am_s → Option am_s := fun S => match S.2.2.1 with
  | .inl x :: r => if am_okS S = true ∧ ¬ x < 0 ∧ x.toNatClampNeg ≤ 1000000 then some (S.1 + 2, S.2.1, .inr (.inr (some S.2.2.2.1.length)) :: r, S.2.2.2.1 ++ [.inl (.inl (x.toNatClampNeg, 0, []))], S.2.2.2.2.1 + 1, S.2.2.2.2.2 + x.toNatClampNeg) else none
  | _ => none
theorem as_newI (hd : decode I.2.1 pc = .ok (.newarray .int, 2)) (hm : Cond.arrayClass .int ∈ I.2.2.2.1) : am_St cl Y Z I pc ai_newI := by
  intro p l e R s m args below meth c Q D cy A C S S' hpc hf
  obtain ⟨pc', lv, st, h, k, n⟩ := S
  obtain rfl : pc' = pc := hpc
  simp only [ai_newI] at hf
  split at hf <;> first | (cases hf; done) | skip
  rename_i x r
  split at hf <;> first | (cases hf; done) | skip
  rename_i hS0
  obtain ⟨hS0, hx, hx2⟩ := hS0
  obtain ⟨o1, o2, o3⟩ := am_okS_1 hS0
  cases hf
  refine ⟨⟨Nat.le_succ _, Nat.le_add_right _ _⟩, fun α hc1 hc2 hk => ?_⟩
  intro H locs ls hlen hP hD hS hl
  have hh : α.length = h.length := hlen.1
  refine va_newa (atype := .int) (ty := .int) (a0 := (x.toNatClampNeg, .inl (fun _ => (0 : Int32)))) C.1.1 C.1.2.1 (C.1.2.2.2.2 _ hm) rfl C.2.1 hP hD hS C.2.2.1 (fun cA => rfl) hx rfl (Nat.le_trans (Nat.mul_le_mul hx2 (show componentBytes .int ≤ 8 by decide)) (Nat.le_of_ble_eq_true rfl)) hc1 hc2 hd (fun q cA H1 hK1 hP1 hD1 hS1 => ?_)
  have e1 : s.vm.findClass ("[" ++ (FieldType.int).toString) = some cA := (hK1.2 3 (cA, .int) rfl).2
  have e2 : s.vm.findClass ("[" ++ (FieldType.int).toString) = some cy.1 := (C.2.1.2 0 (cy.1, .int) rfl).2
  have e3 : cA = cy.1 := Option.some.inj (e1.symm.trans e2)
  subst e3
  have hW : am_W cy α h ++ [(q, Sum.inl (cy.1, (x.toNatClampNeg, .inl (fun _ => (0 : Int32)))))] = am_W cy (α ++ [q]) (h ++ [.inl (.inl (x.toNatClampNeg, 0, []))]) := am_W_app hlen (by rw [hh]; exact o3) q (.inl (.inl (x.toNatClampNeg, 0, []))) _ (by rfl)
  have hP1 : va_P D cl (am_W cy α h ++ [(q, Sum.inl (cy.1, (x.toNatClampNeg, .inl (fun _ => (0 : Int32)))))]) H1 := hP1
  have hD1 : va_D A (am_W cy α h ++ [(q, Sum.inl (cy.1, (x.toNatClampNeg, .inl (fun _ => (0 : Int32)))))]) := hD1
  rw [hW] at hP1 hD1
  have hl2 : lv_has ls I.2.2.1 (am_L (α ++ [q]) lv) := by
    rw [am_L_app [q] (by rw [hh]; exact o1)]
    exact hl
  refine W.eq ?_ (hk [q] H1 locs ls hlen.app hP1 hD1 hS1 hl2)
  have o4 : r.all (am_okV h.length) = true := (Bool.and_eq_true_iff.mp (by simpa only [List.all_cons] using o2)).2
  show F0 m (pc' + 2) ls (.ref q :: r.map (am_V α)) = F0 m (pc' + 2) ls (Value.ref ((α ++ [q]).getD h.length 0) :: r.map (am_V (α ++ [q])))
  rw [am_getD_last hh, am_Vs_app [q] (by rw [hh]; exact o4)]
def ai_newJ : am_s → Option am_s := fun S => match S.2.2.1 with
  | .inl x :: r => if am_okS S = true ∧ ¬ x < 0 ∧ x.toNatClampNeg ≤ 1000000 then some (S.1 + 2, S.2.1, .inr (.inr (some S.2.2.2.1.length)) :: r, S.2.2.2.1 ++ [.inl (.inr (.inl (x.toNatClampNeg, 0, [])))], S.2.2.2.2.1 + 1, S.2.2.2.2.2 + x.toNatClampNeg) else none
  | _ => none
theorem as_newJ (hd : decode I.2.1 pc = .ok (.newarray .long, 2)) (hm : Cond.arrayClass .long ∈ I.2.2.2.1) : am_St cl Y Z I pc ai_newJ := by
  intro p l e R s m args below meth c Q D cy A C S S' hpc hf
  obtain ⟨pc', lv, st, h, k, n⟩ := S
  obtain rfl : pc' = pc := hpc
  simp only [ai_newJ] at hf
  split at hf <;> first | (cases hf; done) | skip
  rename_i x r
  split at hf <;> first | (cases hf; done) | skip
  rename_i hS0
  obtain ⟨hS0, hx, hx2⟩ := hS0
  obtain ⟨o1, o2, o3⟩ := am_okS_1 hS0
  cases hf
  refine ⟨⟨Nat.le_succ _, Nat.le_add_right _ _⟩, fun α hc1 hc2 hk => ?_⟩
  intro H locs ls hlen hP hD hS hl
  have hh : α.length = h.length := hlen.1
  refine va_newa (atype := .long) (ty := .long) (a0 := (x.toNatClampNeg, .inr (.inl (fun _ => (0 : Int64))))) C.1.1 C.1.2.1 (C.1.2.2.2.2 _ hm) rfl C.2.1 hP hD hS C.2.2.1 (fun cA => rfl) hx rfl (Nat.le_trans (Nat.mul_le_mul hx2 (show componentBytes .long ≤ 8 by decide)) (Nat.le_of_ble_eq_true rfl)) hc1 hc2 hd (fun q cA H1 hK1 hP1 hD1 hS1 => ?_)
  have e1 : s.vm.findClass ("[" ++ (FieldType.long).toString) = some cA := (hK1.2 3 (cA, .long) rfl).2
  have e2 : s.vm.findClass ("[" ++ (FieldType.long).toString) = some cy.2.1 := (C.2.1.2 1 (cy.2.1, .long) rfl).2
  have e3 : cA = cy.2.1 := Option.some.inj (e1.symm.trans e2)
  subst e3
  have hW : am_W cy α h ++ [(q, Sum.inl (cy.2.1, (x.toNatClampNeg, .inr (.inl (fun _ => (0 : Int64))))))] = am_W cy (α ++ [q]) (h ++ [.inl (.inr (.inl (x.toNatClampNeg, 0, [])))]) := am_W_app hlen (by rw [hh]; exact o3) q (.inl (.inr (.inl (x.toNatClampNeg, 0, [])))) _ (by rfl)
  have hP1 : va_P D cl (am_W cy α h ++ [(q, Sum.inl (cy.2.1, (x.toNatClampNeg, .inr (.inl (fun _ => (0 : Int64))))))]) H1 := hP1
  have hD1 : va_D A (am_W cy α h ++ [(q, Sum.inl (cy.2.1, (x.toNatClampNeg, .inr (.inl (fun _ => (0 : Int64))))))]) := hD1
  rw [hW] at hP1 hD1
  have hl2 : lv_has ls I.2.2.1 (am_L (α ++ [q]) lv) := by
    rw [am_L_app [q] (by rw [hh]; exact o1)]
    exact hl
  refine W.eq ?_ (hk [q] H1 locs ls hlen.app hP1 hD1 hS1 hl2)
  have o4 : r.all (am_okV h.length) = true := (Bool.and_eq_true_iff.mp (by simpa only [List.all_cons] using o2)).2
  show F0 m (pc' + 2) ls (.ref q :: r.map (am_V α)) = F0 m (pc' + 2) ls (Value.ref ((α ++ [q]).getD h.length 0) :: r.map (am_V (α ++ [q])))
  rw [am_getD_last hh, am_Vs_app [q] (by rw [hh]; exact o4)]
def ai_newB : am_s → Option am_s := fun S => match S.2.2.1 with
  | .inl x :: r => if am_okS S = true ∧ ¬ x < 0 ∧ x.toNatClampNeg ≤ 1000000 then some (S.1 + 2, S.2.1, .inr (.inr (some S.2.2.2.1.length)) :: r, S.2.2.2.1 ++ [.inl (.inr (.inr (x.toNatClampNeg, 0, [])))], S.2.2.2.2.1 + 1, S.2.2.2.2.2 + x.toNatClampNeg) else none
  | _ => none
theorem as_newB (hd : decode I.2.1 pc = .ok (.newarray .byte, 2)) (hm : Cond.arrayClass .byte ∈ I.2.2.2.1) : am_St cl Y Z I pc ai_newB := by
  intro p l e R s m args below meth c Q D cy A C S S' hpc hf
  obtain ⟨pc', lv, st, h, k, n⟩ := S
  obtain rfl : pc' = pc := hpc
  simp only [ai_newB] at hf
  split at hf <;> first | (cases hf; done) | skip
  rename_i x r
  split at hf <;> first | (cases hf; done) | skip
  rename_i hS0
  obtain ⟨hS0, hx, hx2⟩ := hS0
  obtain ⟨o1, o2, o3⟩ := am_okS_1 hS0
  cases hf
  refine ⟨⟨Nat.le_succ _, Nat.le_add_right _ _⟩, fun α hc1 hc2 hk => ?_⟩
  intro H locs ls hlen hP hD hS hl
  have hh : α.length = h.length := hlen.1
  refine va_newa (atype := .byte) (ty := .byte) (a0 := (x.toNatClampNeg, .inl (fun _ => (0 : Int32)))) C.1.1 C.1.2.1 (C.1.2.2.2.2 _ hm) rfl C.2.1 hP hD hS C.2.2.1 (fun cA => rfl) hx rfl (Nat.le_trans (Nat.mul_le_mul hx2 (show componentBytes .byte ≤ 8 by decide)) (Nat.le_of_ble_eq_true rfl)) hc1 hc2 hd (fun q cA H1 hK1 hP1 hD1 hS1 => ?_)
  have e1 : s.vm.findClass ("[" ++ (FieldType.byte).toString) = some cA := (hK1.2 3 (cA, .byte) rfl).2
  have e2 : s.vm.findClass ("[" ++ (FieldType.byte).toString) = some cy.2.2 := (C.2.1.2 2 (cy.2.2, .byte) rfl).2
  have e3 : cA = cy.2.2 := Option.some.inj (e1.symm.trans e2)
  subst e3
  have hW : am_W cy α h ++ [(q, Sum.inl (cy.2.2, (x.toNatClampNeg, .inl (fun _ => (0 : Int32)))))] = am_W cy (α ++ [q]) (h ++ [.inl (.inr (.inr (x.toNatClampNeg, 0, [])))]) := am_W_app hlen (by rw [hh]; exact o3) q (.inl (.inr (.inr (x.toNatClampNeg, 0, [])))) _ (by rfl)
  have hP1 : va_P D cl (am_W cy α h ++ [(q, Sum.inl (cy.2.2, (x.toNatClampNeg, .inl (fun _ => (0 : Int32)))))]) H1 := hP1
  have hD1 : va_D A (am_W cy α h ++ [(q, Sum.inl (cy.2.2, (x.toNatClampNeg, .inl (fun _ => (0 : Int32)))))]) := hD1
  rw [hW] at hP1 hD1
  have hl2 : lv_has ls I.2.2.1 (am_L (α ++ [q]) lv) := by
    rw [am_L_app [q] (by rw [hh]; exact o1)]
    exact hl
  refine W.eq ?_ (hk [q] H1 locs ls hlen.app hP1 hD1 hS1 hl2)
  have o4 : r.all (am_okV h.length) = true := (Bool.and_eq_true_iff.mp (by simpa only [List.all_cons] using o2)).2
  show F0 m (pc' + 2) ls (.ref q :: r.map (am_V α)) = F0 m (pc' + 2) ls (Value.ref ((α ++ [q]).getD h.length 0) :: r.map (am_V (α ++ [q])))
  rw [am_getD_last hh, am_Vs_app [q] (by rw [hh]; exact o4)]
def ai_math (g : Int32 → Int32 → Int32) : am_s → Option am_s := fun S => match S.2.2.1 with
  | .inl y :: .inl x :: r => if am_words r ≤ 40 then some (S.1 + 3, S.2.1, .inl (g x y) :: r, S.2.2.2) else none
  | _ => none
theorem as_max {index : Nat} (hd : decode I.2.1 pc = .ok (.invokestatic index, 3)) (hm1 : Cond.methodLink I.1 index Lib.Math.max.name ∈ I.2.2.2.1) (hm2 : Cond.static Lib.Math.max.name ∈ I.2.2.2.1) (hm3 : Cond.initialized "java/lang/Math" ∈ I.2.2.2.1) (hm4 : Cond.code Lib.Math.max.name Lib.Math.max.code 2 (some .int) ∈ I.2.2.2.1) : am_St cl Y Z I pc (ai_math (fun x y => if x < y then y else x)) := by
  intro p l e R s m args below meth c Q D cy A C S S' hpc hf
  obtain ⟨pc', lv, st, h, k, n⟩ := S
  obtain rfl : pc' = pc := hpc
  simp only [ai_math] at hf
  split at hf <;> first | (cases hf; done) | skip
  rename_i y x r
  split at hf <;> first | (cases hf; done) | skip
  rename_i hw
  cases hf
  refine ⟨⟨Nat.le_refl _, Nat.le_refl _⟩, fun α hc1 hc2 hk => ?_⟩
  replace hk := am_k0 hk
  intro H locs ls hlen hP hD hS hl
  have hR : 200 ≤ R.locals := Nat.le_trans (by decide) C.2.2.2.2.2.2.1
  exact va_mmax C.1.1 C.1.2.1 (by rw [C.1.2.2.1, hl.1]) C.1.2.2.2.1 (C.1.2.2.2.2 _ hm1) (C.1.2.2.2.2 _ hm2) (C.1.2.2.2.2 _ hm3) (C.1.2.2.2.2 _ hm4) (Nat.le_trans (by decide) C.2.2.2.2.2.1) (by rw [am_words_eq]; omega) hc1 hc2 hd (hk H locs ls hlen hP hD hS hl)
theorem as_min {index : Nat} (hd : decode I.2.1 pc = .ok (.invokestatic index, 3)) (hm1 : Cond.methodLink I.1 index Lib.Math.min.name ∈ I.2.2.2.1) (hm2 : Cond.static Lib.Math.min.name ∈ I.2.2.2.1) (hm3 : Cond.initialized "java/lang/Math" ∈ I.2.2.2.1) (hm4 : Cond.code Lib.Math.min.name Lib.Math.min.code 2 (some .int) ∈ I.2.2.2.1) : am_St cl Y Z I pc (ai_math (fun x y => if y < x then y else x)) := by
  intro p l e R s m args below meth c Q D cy A C S S' hpc hf
  obtain ⟨pc', lv, st, h, k, n⟩ := S
  obtain rfl : pc' = pc := hpc
  simp only [ai_math] at hf
  split at hf <;> first | (cases hf; done) | skip
  rename_i y x r
  split at hf <;> first | (cases hf; done) | skip
  rename_i hw
  cases hf
  refine ⟨⟨Nat.le_refl _, Nat.le_refl _⟩, fun α hc1 hc2 hk => ?_⟩
  replace hk := am_k0 hk
  intro H locs ls hlen hP hD hS hl
  have hR : 200 ≤ R.locals := Nat.le_trans (by decide) C.2.2.2.2.2.2.1
  exact va_mmin C.1.1 C.1.2.1 (by rw [C.1.2.2.1, hl.1]) C.1.2.2.2.1 (C.1.2.2.2.2 _ hm1) (C.1.2.2.2.2 _ hm2) (C.1.2.2.2.2 _ hm3) (C.1.2.2.2.2 _ hm4) (Nat.le_trans (by decide) C.2.2.2.2.2.1) (by rw [am_words_eq]; omega) hc1 hc2 hd (hk H locs ls hlen hP hD hS hl)
def ai_obj : am_s → Option am_s := fun S => match S.2.2.1 with
  | .inr (.inr (some _)) :: r => if am_words r ≤ 8 then some (S.1 + 3, S.2.1, r, S.2.2.2) else none
  | _ => none
theorem as_obj {index : Nat} (hd : decode I.2.1 pc = .ok (.invokespecial index, 3)) (hm1 : Cond.methodLink I.1 index objectInit ∈ I.2.2.2.1) (hm2 : Cond.instanceMethod objectInit ∈ I.2.2.2.1) (hm3 : Cond.code objectInit ⟨#[0xb1]⟩ 1 none ∈ I.2.2.2.1) : am_St cl Y Z I pc ai_obj := by
  intro p l e R s m args below meth c Q D cy A C S S' hpc hf
  obtain ⟨pc', lv, st, h, k, n⟩ := S
  obtain rfl : pc' = pc := hpc
  simp only [ai_obj] at hf
  split at hf <;> first | (cases hf; done) | skip
  rename_i x r
  split at hf <;> first | (cases hf; done) | skip
  rename_i hw
  cases hf
  refine ⟨⟨Nat.le_refl _, Nat.le_refl _⟩, fun α hc1 hc2 hk => ?_⟩
  replace hk := am_k0 hk
  intro H locs ls hlen hP hD hS hl
  have hR : 200 ≤ R.locals := Nat.le_trans (by decide) C.2.2.2.2.2.2.1
  have hw2 : ((r.map (am_V α)).map fun v => v.category).sum ≤ 8 := by rw [am_words_eq]; exact hw
  refine W.objInit (g := F0 m pc' ls (.ref (α.getD x 0) :: r.map (am_V α))) C.1.1 C.1.2.1 C.1.2.2.2.1 (C.1.2.2.2.2 _ hm1) (C.1.2.2.2.2 _ hm2) (C.1.2.2.2.2 _ hm3) rfl (by rw [C.1.2.2.1]; exact hl.1) rfl hd (Nat.le_trans (by decide) C.2.2.2.2.2.1) ?_ (hk H locs ls hlen hP hD hS hl)
  have h9 := lv_room (m := m) (pc := pc') (ls := ls) (rest := .ref (α.getD x 0) :: r.map (am_V α)) hw2
  omega
end AMC
