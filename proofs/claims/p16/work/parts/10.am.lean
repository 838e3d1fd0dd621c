/-! AN ABSTRACT MACHINE over plain data: values, cells by numbers in place of addresses; a step that is proved once for each kind of instruction; then runs are computed. -/
abbrev am_v : Type := Int32 ⊕ (Int64 ⊕ Option Nat)
/-- a cell: a row of ints, of longs, of bytes (its length, what stands behind the listed ones, the listed ones), or an object (its class, its fields) -/
abbrev am_e : Type := ((Nat × Int32 × List Int32) ⊕ ((Nat × Int64 × List Int64) ⊕ (Nat × Int32 × List Int32))) ⊕ (Nat × List am_v)
abbrev am_h : Type := List am_e
abbrev am_l : Type := List (Nat × am_v)
/-- pc, locals, stack, cells, how many cells and slots were made -/
abbrev am_s : Type := Nat × am_l × List am_v × am_h × Nat × Nat
abbrev am_cy : Type := ClassId × ClassId × ClassId
/-- a method: its class, code, locals, words, name, type, table of handlers -/
abbrev am_i : Type := String × ByteArray × Nat × List Cond × MethodName × Option FieldType × List (Nat × Nat × Nat × Nat)
/-- the law's script: its address, its numbers; cell 0 of every state stands for it, is empty there, and is never used but by the law's own steps -/
abbrev am_y : Type := Nat × List Int32
abbrev am_z : Type := (Nat → Prop) → State → Prop
def am_V (α : List Nat) : am_v → Value
  | .inl x => .int x
  | .inr (.inl x) => .long x
  | .inr (.inr none) => .null
  | .inr (.inr (some i)) => .ref (α.getD i 0)
def am_E (cy : am_cy) (α : List Nat) : am_e → va_E
  | .inl (.inl xs) => .inl (cy.1, xs.1, .inl (fun j => xs.2.2.getD j xs.2.1))
  | .inl (.inr (.inl xs)) => .inl (cy.2.1, xs.1, .inr (.inl (fun j => xs.2.2.getD j xs.2.1)))
  | .inl (.inr (.inr xs)) => .inl (cy.2.2, xs.1, .inl (fun j => xs.2.2.getD j xs.2.1))
  | .inr (k, fs) => .inr (k, fs.map (am_V α))
def am_W (cy : am_cy) (α : List Nat) (h : am_h) : va_W := (List.zipWith (fun a x => (a, am_E cy α x)) α h).drop 1
/-- addresses and cells fit, the script is the first -/
def am_al (Y : am_y) (α : List Nat) (h : am_h) : Prop := α.length = h.length ∧ α.getD 0 0 = Y.1 ∧ h[0]? = some (.inl (.inl (0, 0, [])))
def am_L (α : List Nat) (lv : am_l) : List (Nat × Value) := lv.map (fun q => (q.1, am_V α q.2))
def am_T (cy : am_cy) : List (ClassId × FieldType) := [(cy.1, .int), (cy.2.1, .long), (cy.2.2, .byte)]
def am_okV (n : Nat) : am_v → Bool
  | .inr (.inr (some i)) => Nat.blt i n
  | _ => true
def am_okE (n : Nat) : am_e → Bool
  | .inr (_, fs) => fs.all (am_okV n)
  | _ => true
def am_okH (n : Nat) (h : am_h) : Bool := h.all (am_okE n)
def am_okL (n : Nat) (lv : am_l) : Bool := lv.all (fun q => am_okV n q.2)
def am_isL : am_v → Bool
  | .inr (.inl _) => true
  | _ => false
theorem am_blt {i n : Nat} (h : Nat.blt i n = true) : i < n := Nat.le_of_ble_eq_true h
theorem am_V_app {α : List Nat} {v : am_v} (β : List Nat) (h : am_okV α.length v = true) : am_V (α ++ β) v = am_V α v := by
  match v, h with
  | .inl x, _ => rfl
  | .inr (.inl x), _ => rfl
  | .inr (.inr none), _ => rfl
  | .inr (.inr (some i)), h =>
    have h1 : i < α.length := am_blt h
    show Value.ref ((α ++ β).getD i 0) = Value.ref (α.getD i 0)
    simp [List.getD, List.getElem?_append_left h1]
theorem am_Vs_app {α : List Nat} (β : List Nat) : ∀ {fs : List am_v}, fs.all (am_okV α.length) = true → fs.map (am_V (α ++ β)) = fs.map (am_V α)
  | [], _ => rfl
  | v :: fs, h => by
    have h2 := Bool.and_eq_true_iff.mp (by simpa only [List.all_cons] using h)
    rw [List.map_cons, List.map_cons, am_V_app β h2.1, am_Vs_app β h2.2]
theorem am_E_app {cy : am_cy} {α : List Nat} {x : am_e} (β : List Nat) (h : am_okE α.length x = true) : am_E cy (α ++ β) x = am_E cy α x := by
  match x, h with
  | .inl (.inl _), _ => rfl
  | .inl (.inr (.inl _)), _ => rfl
  | .inl (.inr (.inr _)), _ => rfl
  | .inr (k, fs), h =>
    show Sum.inr (k, fs.map (am_V (α ++ β))) = Sum.inr (k, fs.map (am_V α))
    rw [am_Vs_app β h]
theorem am_L_app {α : List Nat} (β : List Nat) : ∀ {lv : am_l}, am_okL α.length lv = true → am_L (α ++ β) lv = am_L α lv
  | [], _ => rfl
  | q :: lv, h => by
    have h2 := Bool.and_eq_true_iff.mp (by simpa only [am_okL, List.all_cons] using h)
    have h3 : am_L (α ++ β) lv = am_L α lv := am_L_app β h2.2
    show (q.1, am_V (α ++ β) q.2) :: am_L (α ++ β) lv = (q.1, am_V α q.2) :: am_L α lv
    rw [am_V_app β h2.1, h3]
theorem am_zw_set {τ υ ω : Type} (f : τ → υ → ω) (d : τ) (x : υ) : ∀ (a : List τ) (b : List υ) (i : Nat), (List.zipWith f a b).set i (f (a.getD i d) x) = List.zipWith f a (b.set i x)
  | [], b, i => by simp
  | a :: as, [], i => by simp
  | a :: as, b :: bs, 0 => by simp
  | a :: as, b :: bs, i + 1 => by
    have h := am_zw_set f d x as bs i
    simpa using h
theorem am_W_set {cy : am_cy} {α : List Nat} {h : am_h} {i : Nat} (hi : i ≠ 0) (x : am_e) : (am_W cy α h).set (i - 1) (α.getD i 0, am_E cy α x) = am_W cy α (h.set i x) := by
  have h1 := am_zw_set (fun a x => (a, am_E cy α x)) 0 x α h i
  unfold am_W
  rw [← h1, List.drop_set, if_neg (by omega)]
theorem am_W_get {Y : am_y} {cy : am_cy} {α : List Nat} {h : am_h} (hl : am_al Y α h) {i : Nat} {x : am_e} (hx : h[i]? = some x) (hi0 : i ≠ 0) : (am_W cy α h)[i - 1]? = some (α.getD i 0, am_E cy α x) := by
  have hi : i < h.length := (List.getElem?_eq_some_iff.mp hx).1
  have ha : i < α.length := by rw [hl.1]; exact hi
  have h2 : α[i]? = some (α.getD i 0) := by simp [List.getD, List.getElem?_eq_getElem ha]
  unfold am_W
  have e9 : 1 + (i - 1) = i := by omega
  rw [List.getElem?_drop, e9, List.getElem?_zipWith, h2, hx]
/-- a cell that isn't an array of ints isn't the script -/
theorem am_al.ne {Y : am_y} {α : List Nat} {h : am_h} (hl : am_al Y α h) {i : Nat} {x : am_e} (hx : h[i]? = some x) (hn : ∀ xs, x ≠ .inl (.inl xs)) : i ≠ 0 := fun e => by
  subst e
  exact hn _ (Option.some.inj (hx.symm.trans hl.2.2))
theorem am_al.set {Y : am_y} {α : List Nat} {h : am_h} (hl : am_al Y α h) {i : Nat} {x : am_e} (hi : i ≠ 0) : am_al Y α (h.set i x) := ⟨by rw [List.length_set]; exact hl.1, hl.2.1, by rw [List.getElem?_set_ne hi]; exact hl.2.2⟩
theorem am_al.pos {Y : am_y} {α : List Nat} {h : am_h} (hl : am_al Y α h) : 0 < α.length := by
  rw [hl.1]
  exact (List.getElem?_eq_some_iff.mp hl.2.2).1
theorem am_al.app {Y : am_y} {α : List Nat} {h : am_h} (hl : am_al Y α h) {q : Nat} {x : am_e} : am_al Y (α ++ [q]) (h ++ [x]) := by
  have h1 := hl.pos
  have h2 : 0 < h.length := by rw [← hl.1]; exact h1
  refine ⟨by simp [hl.1], ?_, ?_⟩
  · have h3 := hl.2.1
    simp only [List.getD] at h3 ⊢
    rw [List.getElem?_append_left h1]
    exact h3
  · rw [List.getElem?_append_left h2]
    exact hl.2.2
theorem am_zw_congr {τ υ ω : Type} {f g : τ → υ → ω} : ∀ (a : List τ) (b : List υ), (∀ x, ∀ y ∈ b, f x y = g x y) → List.zipWith f a b = List.zipWith g a b
  | [], b, _ => by simp
  | a :: as, [], _ => by simp
  | a :: as, b :: bs, h => by
    rw [List.zipWith_cons_cons, List.zipWith_cons_cons, h a b List.mem_cons_self, am_zw_congr as bs (fun x y hy => h x y (List.mem_cons_of_mem _ hy))]
theorem am_W_app {Y : am_y} {cy : am_cy} {α : List Nat} {h : am_h} (hl : am_al Y α h) (hok : am_okH α.length h = true) (q : Nat) (x : am_e) (e : va_E) (he : am_E cy (α ++ [q]) x = e) : am_W cy α h ++ [(q, e)] = am_W cy (α ++ [q]) (h ++ [x]) := by
  unfold am_W
  rw [List.zipWith_append hl.1]
  have h1 : List.zipWith (fun a x => (a, am_E cy (α ++ [q]) x)) α h = List.zipWith (fun a x => (a, am_E cy α x)) α h := by
    refine am_zw_congr α h (fun a y hy => ?_)
    rw [am_E_app [q] (List.all_eq_true.mp hok y hy)]
  have h2 : 1 ≤ (List.zipWith (fun a x => (a, am_E cy α x)) α h).length := by
    rw [List.length_zipWith, ← hl.1, Nat.min_self]
    exact hl.pos
  rw [h1, List.drop_append_of_le_length h2]
  simp [he]
theorem am_cat (α : List Nat) (v : am_v) : ((am_V α v).category == 2) = am_isL v := by
  match v with
  | .inl x => rfl
  | .inr (.inl x) => rfl
  | .inr (.inr none) => rfl
  | .inr (.inr (some i)) => rfl
theorem am_cat1 {α : List Nat} {v : am_v} (h : am_isL v = false) : (am_V α v).category = 1 := by
  match v, h with
  | .inl x, _ => rfl
  | .inr (.inr none), _ => rfl
  | .inr (.inr (some i)), _ => rfl
theorem am_cat2 (α : List Nat) (v : am_v) : (am_V α v).category ≤ 2 := by
  match v with
  | .inl x => exact Nat.le_of_ble_eq_true rfl
  | .inr (.inl x) => exact Nat.le_of_ble_eq_true rfl
  | .inr (.inr none) => exact Nat.le_of_ble_eq_true rfl
  | .inr (.inr (some i)) => exact Nat.le_of_ble_eq_true rfl
/-- how many words a stack takes -/
def am_words : List am_v → Nat
  | [] => 0
  | v :: r => (bif am_isL v then 2 else 1) + am_words r
theorem am_words_eq (α : List Nat) : ∀ st : List am_v, ((st.map (am_V α)).map fun v => v.category).sum = am_words st
  | [] => rfl
  | v :: r => by
    have h : (am_V α v).category = (bif am_isL v then 2 else 1) := by
      match v with
      | .inl x => rfl
      | .inr (.inl x) => rfl
      | .inr (.inr none) => rfl
      | .inr (.inr (some i)) => rfl
    rw [List.map_cons, List.map_cons, List.sum_cons, am_words_eq α r, h]
    rfl
def am_get : am_l → Nat → Option am_v
  | [], _ => none
  | q :: r, i => bif Nat.beq q.1 i then some q.2 else am_get r i
theorem am_get_mem {i : Nat} {v : am_v} : ∀ {lv : am_l}, am_get lv i = some v → (i, v) ∈ lv
  | [], h => by cases h
  | q :: r, h => by
    unfold am_get at h
    cases hb : Nat.beq q.1 i with
    | true =>
      rw [hb] at h
      have h1 : q.1 = i := Nat.eq_of_beq_eq_true hb
      have h2 : q.2 = v := Option.some.inj h
      rw [← h1, ← h2]
      exact List.mem_cons_self
    | false =>
      rw [hb] at h
      exact List.mem_cons_of_mem _ (am_get_mem h)
theorem am_get_ls {ls : Array Slot} {nL : Nat} {α : List Nat} {lv : am_l} {i : Nat} {v : am_v} (hl : lv_has ls nL (am_L α lv)) (h : am_get lv i = some v) : ls[i]? = some (.val (am_V α v)) :=
  hl.2.2 (i, am_V α v) (List.mem_map.mpr ⟨(i, v), am_get_mem h, rfl⟩)
theorem am_L_idx {α : List Nat} {i : Nat} {v : am_v} : ∀ {lv : am_l}, (i, v) ∈ lv → ∃ k : Nat, (am_L α lv)[k]? = some (i, am_V α v) := fun {lv} h => by
  have h2 : (i, am_V α v) ∈ am_L α lv := List.mem_map.mpr ⟨(i, v), h, rfl⟩
  exact List.getElem?_of_mem h2
def am_set (lv : am_l) (i : Nat) (v : am_v) : am_l := (i, v) :: lv.filter (fun q => !(q.1 == i) && !(q.1 + 1 == i && am_isL q.2))
def am_set2 (lv : am_l) (i : Nat) (v : am_v) : am_l := (i, v) :: lv.filter (fun q => !(q.1 == i) && (!(q.1 == i + 1) && !(q.1 + 1 == i && am_isL q.2)))
theorem am_filter {α : List Nat} (f : Nat → Bool → Bool) : ∀ lv : am_l, (am_L α lv).filter (fun q => f q.1 (q.2.category == 2)) = am_L α (lv.filter (fun q => f q.1 (am_isL q.2)))
  | [] => rfl
  | q :: lv => by
    have h := am_filter (α := α) f lv
    show ((q.1, am_V α q.2) :: am_L α lv).filter _ = am_L α ((q :: lv).filter _)
    rw [List.filter_cons, List.filter_cons, h, am_cat]
    cases hb : f q.1 (am_isL q.2) with
    | true => simp [am_L]
    | false => simp
theorem am_set_L {α : List Nat} {lv : am_l} {i : Nat} {v : am_v} : (i, am_V α v) :: (am_L α lv).filter (fun q => !(q.1 == i) && !(q.1 + 1 == i && q.2.category == 2)) = am_L α (am_set lv i v) := by
  have h := am_filter (α := α) (fun a b => !(a == i) && !(a + 1 == i && b)) lv
  show _ = (i, am_V α v) :: am_L α _
  rw [← h]
theorem am_set2_L {α : List Nat} {lv : am_l} {i : Nat} {v : am_v} : (i, am_V α v) :: (am_L α lv).filter (fun q => !(q.1 == i) && (!(q.1 == i + 1) && !(q.1 + 1 == i && q.2.category == 2))) = am_L α (am_set2 lv i v) := by
  have h := am_filter (α := α) (fun a b => !(a == i) && (!(a == i + 1) && !(a + 1 == i && b))) lv
  show _ = (i, am_V α v) :: am_L α _
  rw [← h]
/-- a place of a row set anew; done lazily, so that a long listed part is looked at no further than needed -/
def am_up {τ : Type} (d : τ) : List τ → Nat → τ → List τ
  | [], k, x => List.replicate k d ++ [x]
  | _ :: ys, 0, x => x :: ys
  | y :: ys, k + 1, x => y :: am_up d ys k x
theorem am_up_get {τ : Type} {d : τ} {x : τ} : ∀ {xs : List τ} {k : Nat} (j : Nat), (am_up d xs k x).getD j d = if j = k then x else xs.getD j d
  | [], k, j => by
    show (List.replicate k d ++ [x]).getD j d = if j = k then x else ([] : List τ).getD j d
    simp only [List.getD]
    by_cases h2 : j < k
    · rw [List.getElem?_append_left (by rw [List.length_replicate]; omega), List.getElem?_replicate, if_pos h2, if_neg (by omega)]
      rfl
    · rw [List.getElem?_append_right (by rw [List.length_replicate]; omega), List.length_replicate]
      by_cases h3 : j = k
      · subst h3
        simp
      · rw [if_neg h3, List.getElem?_eq_none (by simp; omega)]
        rfl
  | y :: ys, 0, 0 => by simp [am_up, List.getD]
  | y :: ys, 0, j + 1 => by simp [am_up, List.getD]
  | y :: ys, k + 1, 0 => by simp [am_up, List.getD]
  | y :: ys, k + 1, j + 1 => by
    have h := am_up_get (d := d) (x := x) (xs := ys) (k := k) j
    show (am_up d ys k x).getD j d = if j + 1 = k + 1 then x else ys.getD j d
    rw [h]
    by_cases e : j = k
    · rw [if_pos e, if_pos (by omega)]
    · rw [if_neg e, if_neg (by omega)]
theorem am_up_eq {xs : List Int32} {d : Int32} {k : Nat} {x : Int32} : upd (fun j => xs.getD j d) k x = fun j => (am_up d xs k x).getD j d := by
  funext j
  rw [am_up_get]
  rfl
theorem am_up_eqL {xs : List Int64} {d : Int64} {k : Nat} {x : Int64} : vp_updL (fun j => xs.getD j d) k x = fun j => (am_up d xs k x).getD j d := by
  funext j
  rw [am_up_get]
  rfl
