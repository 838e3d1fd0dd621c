/-! THE CLASS, exactly: its fields as numbers (100 times the cell and the field; an object by its cell), its rows as lists -/
section XL
variable {z : Int32} {xs : Nat × Int32 × List Int32}
theorem li_len : (ob_li z xs).length = z.toInt.toNat := by
  unfold ob_li
  rw [List.length_map, List.length_range]
theorem li_get {q : Nat} : (ob_li z xs)[q]? = if q < z.toInt.toNat then some ((xs.2.2.getD q xs.2.1).toInt) else none := by
  unfold ob_li
  rw [List.getElem?_map]
  by_cases h : q < z.toInt.toNat
  · rw [if_pos h, List.getElem?_range h]
    rfl
  · rw [if_neg h, List.getElem?_eq_none (by rw [List.length_range]; omega)]
    rfl
theorem li_ext {l : List Int} (hl : l.length = z.toInt.toNat) (h : ∀ q : Nat, q < z.toInt.toNat → l[q]? = some ((xs.2.2.getD q xs.2.1).toInt)) : ob_li z xs = l := by
  apply List.ext_getElem?
  intro q
  rw [li_get]
  by_cases hq : q < z.toInt.toNat
  · rw [if_pos hq, h q hq]
  · rw [if_neg hq, List.getElem?_eq_none (by omega)]
end XL
def gl (l : List Int) (q : Int) : Int := if 0 ≤ q then l.getD q.toNat 0 else 0
def ssl (l : List Int) (q v : Int) : List Int := if 0 ≤ q then l.set q.toNat v else l
def il (l : List Int) (q v : Int) : List Int := l.take q.toNat ++ v :: l.drop q.toNat
abbrev xl_A : Type := Nat → List Int
def upl (A : xl_A) (i : Nat) (l : List Int) : xl_A := fun j => if j = i then l else A j
/-- a field as a number -/
def xl_v : Option am_v → Int
  | some (.inl x) => x.toInt
  | some (.inr (.inr (some r))) => (r : Int)
  | _ => 0
def xl_f (h : am_h) (n : Nat) : Int := bif Nat.blt (ob_lab (n / 100)) 10 && !(Nat.beq (ob_lab (n / 100)) 3) then xl_v (ob_f h (n / 100) (n % 100)) else 0
/-- fields that never change -/
def fx_T : List (Nat × Nat × Nat) := [(1, 0, 2), (1, 1, 4), (1, 2, 16), (1, 3, 32), (1, 4, 41), (1, 5, 46), (1, 6, 48), (1, 7, 50), (1, 8, 52), (1, 9, 54), (1, 12, 74), (4, 0, 15), (4, 1, 5), (4, 2, 7), (4, 3, 9), (4, 4, 11), (4, 5, 13), (15, 0, 2), (32, 0, 33), (32, 1, 35), (74, 0, 75), (74, 1, 77), (74, 2, 79), (56, 0, 57), (56, 1, 59), (56, 2, 61), (56, 3, 63), (65, 0, 66), (65, 1, 68), (65, 2, 70), (65, 3, 72)]
def fx (h : am_h) : Prop := ∀ t ∈ fx_T, ob_f h t.1 t.2.1 = some (.inr (.inr (some t.2.2)))
def xR (h : am_h) (F : rf_f) (A : xl_A) : Prop := ty_H h ∧ fx h ∧ (∀ n, xl_f h n = F n) ∧ ∀ i, i ∈ ob_R → ob_l h i = A i
def xI (h0 : am_h) (B : Nat) (h : am_h) (c s : Nat) (F : rf_f) (A : xl_A) : Prop := xR h F A ∧ (h0.length ≤ h.length ∧ ∀ a : Nat, (a = 0 ∨ (81 ≤ a ∧ a ≤ 122)) → h[a]? = h0[a]?) ∧ c + ob_P h ≤ B ∧ s + ob_P h ≤ B
def xQ (h0 : am_h) (P : Int → rf_f → xl_A → Prop) : am_r → Prop := fun r => ∃ (x : Int32) (h' : am_h) (c s : Nat) (F' : rf_f) (A' : xl_A), r = (.inl (some (.inl x)), h', c, s) ∧ xI h0 (ob_P h0) h' c s F' A' ∧ P x.toInt F' A'
def xV (h0 : am_h) (P : rf_f → xl_A → Prop) : am_r → Prop := fun r => ∃ (h' : am_h) (c s : Nat) (F' : rf_f) (A' : xl_A), r = (.inl none, h', c, s) ∧ xI h0 (ob_P h0) h' c s F' A' ∧ P F' A'
section XI
variable {G : Nat → Nat → Option am_n} {D d j pc c s B i k l n : Nat} {lv : am_l} {st : List am_v} {h h' h0 : am_h} {Q : am_r → Prop} {F F' : rf_f} {A A' : xl_A} {x : Int32}
theorem upl_eq {l : List Int} : upl A i l i = l := if_pos rfl
theorem upl_ne {l : List Int} (hj : j ≠ i) : upl A i l j = A j := if_neg hj
theorem xI.start (hR : xR h F A) : xI h (ob_P h) h 0 0 F A := ⟨hR, ⟨Nat.le_refl _, fun _ _ => rfl⟩, by omega, by omega⟩
theorem xI.T (hI : xI h0 B h c s F A) : ty_H h := hI.1.1
theorem xI.len (hI : xI h0 B h c s F A) : 123 ≤ h.length := hI.1.1.2.1
theorem xI.call {c' s' : Nat} (hI : xI h0 B h c s F A) (h2 : xI h (ob_P h) h' c' s' F' A') : xI h0 B h' (c + c') (s + s') F' A' := ⟨h2.1, ⟨Nat.le_trans hI.2.1.1 h2.2.1.1, fun a ha => (h2.2.1.2 a ha).trans (hI.2.1.2 a ha)⟩, by have a := hI.2.2.1; have b := h2.2.2.1; omega, by have a := hI.2.2.2; have b := h2.2.2.2; omega⟩
theorem ob_R_lab : ∀ i, i ∈ ob_R → (Nat.blt (ob_lab i) 10 && !(Nat.beq (ob_lab i) 3)) = false := by decide
theorem ob_lab_ob : ∀ i, i < 81 → (Nat.blt (ob_lab i) 10 && !(Nat.beq (ob_lab i) 3)) = true → i ∈ ob_L (ob_lab i) ∧ ob_lab i ≠ 3 ∧ ob_lab i ≠ 11 := by decide
theorem ob_lab_81 {i : Nat} (hi : (Nat.blt (ob_lab i) 10 && !(Nat.beq (ob_lab i) 3)) = true) : i < 81 := by
  by_cases z : i < 81
  · exact z
  · exfalso
    have e : ob_lab i = 12 := by
      unfold ob_lab
      rw [List.getD_eq_getElem?_getD, List.getElem?_eq_none (by show 81 ≤ i; omega)]
      rfl
    rw [e] at hi
    cases hi
theorem fx_ob : ∀ t, t ∈ fx_T → ob (ob_lab t.1) t.1 ∧ ob_lab t.1 ≠ 3 ∧ ob_lab t.1 ≠ 11 := by
  show ∀ t, t ∈ fx_T → t.1 ∈ ob_L (ob_lab t.1) ∧ ob_lab t.1 ≠ 3 ∧ ob_lab t.1 ≠ 11
  decide
/-- a row changes -/
theorem xI.row {c' s' : Nat} {l : List Int} (hI : xI h0 B h c s F A) (hi : ob 3 i ∨ ob 11 i) (hs : ob_st h h' i) (hl : ob_l h' i = l) (hc : c' + ob_p h' i ≤ c + ob_p h i) (hs2 : s' + ob_p h' i ≤ s + ob_p h i) : xI h0 B h' c' s' F (upl A i l) := by
  have hT := hI.1.1
  have hb : ob_I [(11, 0), (11, 1), (11, 2)] B h h' c' s' := by
    refine ob_st.I (c := c) (s := s) ⟨hT, ob_Fr.rf, hI.2.2.1, hI.2.2.2⟩ (hi.elim Or.inl (fun z => Or.inr ⟨z, fun k hk => ?_⟩)) hs hc hs2
    match k, hk with
    | 0, _ => decide
    | 1, _ => decide
    | 2, _ => decide
    | k + 3, hk => omega
  have hcell : ∀ q : Nat, (Nat.blt (ob_lab q) 10 && !(Nat.beq (ob_lab q) 3)) = true → h'[q]? = h[q]? := fun q hq => by
    obtain ⟨o1, o2, o3⟩ := ob_lab_ob q (ob_lab_81 hq) hq
    refine hs.cell hT hi o1 o2 (fun e => ?_)
    subst e
    rcases hi with z | z
    · exact o2 (ob_lab_eq z)
    · exact o3 (ob_lab_eq z)
  refine ⟨⟨hb.1, fun t ht => ?_, fun n => ?_, fun q hq => ?_⟩, ⟨Nat.le_trans hI.2.1.1 hb.2.1.1, fun a ha => (hb.2.1.2.1 a ha).trans (hI.2.1.2 a ha)⟩, hb.2.2.1, hb.2.2.2⟩
  · obtain ⟨o1, o2, o3⟩ := fx_ob t ht
    have e : h'[t.1]? = h[t.1]? := hs.cell hT hi o1 o2 (fun e => by
      rcases hi with z | z
      · exact o2 (by rw [e]; exact ob_lab_eq z)
      · exact o3 (by rw [e]; exact ob_lab_eq z))
    have h9 := hI.1.2.1 t ht
    unfold ob_f at h9 ⊢
    rw [e]
    exact h9
  · rw [← hI.1.2.2.1 n]
    unfold xl_f
    cases hq : Nat.blt (ob_lab (n / 100)) 10 && !(Nat.beq (ob_lab (n / 100)) 3) with
    | false => rfl
    | true =>
      show xl_v (ob_f h' (n / 100) (n % 100)) = xl_v (ob_f h (n / 100) (n % 100))
      unfold ob_f
      rw [hcell _ hq]
  · by_cases e : q = i
    · subst e
      rw [hl, upl_eq]
    · rw [upl_ne e, (hs.P hT hq e hi).2.2.1]
      exact hI.1.2.2.2 q hq
/-- what a row holds -/
theorem xI.lst (hI : xI h0 B h c s F A) (hi : ob 3 i ∨ ob 11 i) : ∃ (mo z : Int32) (a : Nat) (xs : Nat × Int32 × List Int32), h[i]? = some (.inr (3, [.inl mo, .inr (.inr (some a)), .inl z])) ∧ h[a]? = some (.inl (.inl xs)) ∧ ob_ar a ∧ (0 ≤ z.toInt ∧ z.toInt ≤ (xs.1 : Int)) ∧ (1 ≤ xs.1 ∧ xs.1 ≤ 100000) ∧ (1 ≤ mo.toInt ∧ mo.toInt ≤ 100000) ∧ ob_c i mo xs.1 ∧ A i = ob_li z xs := by
  obtain ⟨mo, z, a, xs, e1, e2, e3, e4, e5, e6, e7⟩ := hI.1.1.row hi
  exact ⟨mo, z, a, xs, e1, e2, e3, e4, e5, e6, e7, by rw [← hI.1.2.2.2 i (ob_mem_R hi), ob_l_eq e1 e2]⟩
/-- a field is read -/
theorem xI.fld (hI : xI h0 B h c s F A) (ho : ob l i) (h3 : (Nat.beq l 3 || Nat.beq l 11) = false) (hk : k < 100) {fs : List am_v} {v : am_v} (e1 : h[i]? = some (.inr (l, fs))) (e2 : fs[k]? = some v) : F (100 * i + k) = xl_v (some v) := by
  rw [← hI.1.2.2.1 (100 * i + k)]
  have e9 := Bool.or_eq_false_iff.mp h3
  have hl : ob_lab i = l := ob_lab_eq ho
  have n12 := ob_lt12 ho
  have n10 : l ≠ 10 := fun z => by
    subst z
    exact absurd ho (fun z : i ∈ ([] : List Nat) => by cases z)
  have n11 : l ≠ 11 := fun z => by subst z; cases e9.2
  have d1 : (100 * i + k) / 100 = i := by omega
  have d2 : (100 * i + k) % 100 = k := by omega
  unfold xl_f
  rw [d1, d2, hl]
  have b1 : Nat.blt l 10 = true := Nat.ble_eq_true_of_le (by omega)
  rw [b1, e9.1]
  show xl_v (ob_f h i k) = _
  unfold ob_f
  rw [e1]
  show xl_v fs[k]? = _
  rw [e2]
theorem x_gI (hI : xI h0 B h c s F A) (q : Nat) (hg : G j pc = some (.inl (ai_get l k))) (ho : ob l i) (h3 : (Nat.beq l 3 || Nat.beq l 11) = false) (hk : (ty_F l)[k]? = some 0) (hk9 : Nat.blt k 100 = true) (hp : pc + 3 = q) (K : ∀ x : Int32, x.toInt = F (100 * i + k) → am_Ok G D j (q, lv, .inl x :: st, h, c, s) Q) : am_Ok G D j (pc, lv, .inr (.inr (some i)) :: st, h, c, s) Q := by
  obtain ⟨fs, v, e1, e2, y, rfl⟩ := hI.1.1.get ho h3 hk
  exact k_get q hg e1 e2 hp (K y (hI.fld ho h3 (am_blt hk9) e1 e2).symm)
theorem x_gZ (hI : xI h0 B h c s F A) (q : Nat) (hg : G j pc = some (.inl (ai_get l k))) (ho : ob l i) (h3 : (Nat.beq l 3 || Nat.beq l 11) = false) (hk : (ty_F l)[k]? = some 1) (hk9 : Nat.blt k 100 = true) (hp : pc + 3 = q) (K : ∀ x : Int32, x.toInt = F (100 * i + k) → (x = 0 ∨ x = 1) → am_Ok G D j (q, lv, .inl x :: st, h, c, s) Q) : am_Ok G D j (pc, lv, .inr (.inr (some i)) :: st, h, c, s) Q := by
  obtain ⟨fs, v, e1, e2, y, rfl, hy⟩ := hI.1.1.get ho h3 hk
  exact k_get q hg e1 e2 hp (K y (hI.fld ho h3 (am_blt hk9) e1 e2).symm hy)
theorem x_gF (r : Nat) (hI : xI h0 B h c s F A) (q : Nat) (hg : G j pc = some (.inl (ai_get l k))) (hl : ob_lab i = l) (hf : (i, k, r) ∈ fx_T) (hp : pc + 3 = q) (K : am_Ok G D j (q, lv, .inr (.inr (some r)) :: st, h, c, s) Q) : am_Ok G D j (pc, lv, .inr (.inr (some i)) :: st, h, c, s) Q := by
  have h9 := hI.1.2.1 _ hf
  obtain ⟨o1, o2, o3⟩ := fx_ob _ hf
  obtain ⟨fs, g1, -⟩ := hI.1.1.2.2.1 _ _ o1 o2 o3
  have g2 : h[i]? = some (.inr (l, fs)) := by rw [← hl]; exact g1
  have h8 : ob_f h i k = some (.inr (.inr (some r))) := h9
  unfold ob_f at h8
  rw [g2] at h8
  exact k_get q hg g2 h8 hp K
/-- an object's own field that holds an object -/
theorem x_gO {τ : Nat} (hI : xI h0 B h c s F A) (q : Nat) (hg : G j pc = some (.inl (ai_get l k))) (ho : ob l i) (h3 : (Nat.beq l 3 || Nat.beq l 11) = false) (hk : (ty_F l)[k]? = some (τ + 2)) (hk9 : Nat.blt k 100 = true) (hp : pc + 3 = q) (K : ∀ r : Nat, (r : Int) = F (100 * i + k) → ob τ r → am_Ok G D j (q, lv, .inr (.inr (some r)) :: st, h, c, s) Q) : am_Ok G D j (pc, lv, .inr (.inr (some i)) :: st, h, c, s) Q := by
  obtain ⟨fs, v, e1, e2, y, rfl, hy⟩ := hI.1.1.get ho h3 hk
  exact k_get q hg e1 e2 hp (K y (hI.fld ho h3 (am_blt hk9) e1 e2).symm hy)
/-- a field is set -/
theorem xI.put {τ : Nat} {fs : List am_v} {v : am_v} (hI : xI h0 B h c s F A) (ho : ob l i) (h3 : (Nat.beq l 3 || Nat.beq l 11) = false) (e : h[i]? = some (.inr (l, fs))) (hk : (ty_F l)[k]? = some τ) (hk9 : Nat.blt k 100 = true) (hv : ty_V τ v) (hx : ∀ r, (i, k, r) ∉ fx_T) : xI h0 B (h.set i (.inr (l, fs.set k v))) c s (up1 F (100 * i + k) (xl_v (some v))) A := by
  have hT := hI.1.1
  obtain ⟨b1, b2, b3, -, -⟩ := ob_put0 (k := k) hT ho h3 e hk hv
  have hil : i < h.length := (List.getElem?_eq_some_iff.mp e).1
  have hk8 := am_blt hk9
  obtain ⟨fs9, g1, g2, g4⟩ := hT.2.2.1 l i ho (fun z => by subst z; cases (Bool.or_eq_false_iff.mp h3).1) (fun z => by subst z; cases (Bool.or_eq_false_iff.mp h3).2)
  rw [e] at g1
  cases g1
  obtain ⟨w, hw, -⟩ := g4 k τ hk
  have hkl : k < fs.length := (List.getElem?_eq_some_iff.mp hw).1
  have hf : ∀ q p : Nat, ¬ (q = i ∧ p = k) → ob_f (h.set i (.inr (l, fs.set k v))) q p = ob_f h q p := fun q p hn => by
    unfold ob_f
    by_cases hq : q = i
    · subst hq
      rw [List.getElem?_set_self hil, e]
      show (fs.set k v)[p]? = fs[p]?
      exact List.getElem?_set_ne (fun z => hn ⟨rfl, z.symm⟩)
    · rw [List.getElem?_set_ne (fun z => hq z.symm)]
  have hfk : ob_f (h.set i (.inr (l, fs.set k v))) i k = some v := by
    unfold ob_f
    rw [List.getElem?_set_self hil]
    exact List.getElem?_set_self hkl
  refine ⟨⟨b1, fun t ht => ?_, fun n => ?_, fun q hq => ?_⟩, ⟨by rw [List.length_set]; exact hI.2.1.1, fun a ha => (b3 a ha).trans (hI.2.1.2 a ha)⟩, by rw [b2]; exact hI.2.2.1, by rw [b2]; exact hI.2.2.2⟩
  · rw [hf t.1 t.2.1 (fun z => hx t.2.2 (by rw [← z.1, ← z.2]; exact ht))]
    exact hI.1.2.1 t ht
  · show _ = (if n = 100 * i + k then xl_v (some v) else F n)
    by_cases hn : n = 100 * i + k
    · rw [if_pos hn]
      subst hn
      have e9 := Bool.or_eq_false_iff.mp h3
      have n12 := ob_lt12 ho
      have n10 : l ≠ 10 := fun z => by
        subst z
        exact absurd ho (fun z : i ∈ ([] : List Nat) => by cases z)
      have n11 : l ≠ 11 := fun z => by subst z; cases e9.2
      have d1 : (100 * i + k) / 100 = i := by omega
      have d2 : (100 * i + k) % 100 = k := by omega
      have b1 : Nat.blt l 10 = true := Nat.ble_eq_true_of_le (by omega)
      unfold xl_f
      rw [d1, d2, ob_lab_eq ho, b1, e9.1]
      show xl_v (ob_f _ i k) = _
      rw [hfk]
    · rw [if_neg hn, ← hI.1.2.2.1 n]
      unfold xl_f
      rw [hf (n / 100) (n % 100) (fun z => hn (by omega))]
  · rw [← hI.1.2.2.2 q hq]
    have hq3 := ob_R_mem hq
    obtain ⟨mo, z, a, xs, d1, d2, -⟩ := hT.row hq3
    have hqi : q ≠ i := fun z => by
      subst z
      rw [e] at d1
      cases d1
      cases h3
    have hai : a ≠ i := fun z => by
      subst z
      rw [e] at d2
      cases d2
    rw [ob_l_eq (h := h) d1 d2, ob_l_eq (h := h.set i _) (by rw [List.getElem?_set_ne (fun z => hqi z.symm)]; exact d1) (by rw [List.getElem?_set_ne (fun z => hai z.symm)]; exact d2)]
theorem x_pI {fx_ok : ∀ r, (i, k, r) ∉ fx_T} (hI : xI h0 B h c s F A) (q : Nat) (hg : G j pc = some (.inl (ai_put l k am_okI))) (ho : ob l i) (h3 : (Nat.beq l 3 || Nat.beq l 11) = false) (hk : (ty_F l)[k]? = some 0) (hk9 : Nat.blt k 100 = true) (hp : pc + 3 = q) (K : ∀ h', xI h0 B h' c s (up1 F (100 * i + k) x.toInt) A → h'.length = h.length → am_Ok G D j (q, lv, st, h', c, s) Q) : am_Ok G D j (pc, lv, .inl x :: .inr (.inr (some i)) :: st, h, c, s) Q := by
  obtain ⟨fs, v, e1, e2, -⟩ := hI.1.1.get ho h3 hk
  exact k_put q hg e1 rfl (List.getElem?_eq_some_iff.mp e2).1 hp (K _ (hI.put ho h3 e1 hk hk9 ⟨x, rfl⟩ fx_ok) List.length_set)
theorem x_pZ {fx_ok : ∀ r, (i, k, r) ∉ fx_T} (hI : xI h0 B h c s F A) (q : Nat) (hg : G j pc = some (.inl (ai_put l k am_okZ))) (ho : ob l i) (h3 : (Nat.beq l 3 || Nat.beq l 11) = false) (hk : (ty_F l)[k]? = some 1) (hk9 : Nat.blt k 100 = true) (hx : x = 0 ∨ x = 1) (hp : pc + 3 = q) (K : ∀ h', xI h0 B h' c s (up1 F (100 * i + k) x.toInt) A → h'.length = h.length → am_Ok G D j (q, lv, st, h', c, s) Q) : am_Ok G D j (pc, lv, .inl x :: .inr (.inr (some i)) :: st, h, c, s) Q := by
  obtain ⟨fs, v, e1, e2, -⟩ := hI.1.1.get ho h3 hk
  exact k_put q hg e1 (okZ_of hx) (List.getElem?_eq_some_iff.mp e2).1 hp (K _ (hI.put ho h3 e1 hk hk9 ⟨x, rfl, hx⟩ fx_ok) List.length_set)
/-- calls -/
theorem k_xq {k na kd : Nat} {as : List am_v} {P : Int → rf_f → xl_A → Prop} (hI : xI h0 B h c s F A) (hg : G j pc = some (.inr (.inl (k, na, kd)))) (hM : am_Mt d k as h (xQ h P)) (hd : Nat.ble d D = true) (ha : (st.take na).reverse = as) (hb : (Nat.ble na st.length && (Nat.ble (am_words (st.drop na)) 8 && Nat.ble (am_words as) (am_J k).2.2.1)) = true) (hr : am_rc kd h as = true) (hL : am_okL h.length lv = true) (hS : (st.drop na).all (am_okV h.length) = true)
    (K : ∀ (x : Int32) (h' : am_h) (c' s' : Nat) (F' : rf_f) (A' : xl_A), xI h0 B h' c' s' F' A' → am_okL h'.length lv = true → P x.toInt F' A' → am_Ok G D j (pc + 3, lv, .inl x :: st.drop na, h', c', s') Q) : am_Ok G D j (pc, lv, st, h, c, s) Q := by
  refine k_call0 hg hM hd ha hb hr (fun r hr9 => ?_)
  obtain ⟨x, h', c', s', F', A', rfl, e3, e4⟩ := hr9
  exact ⟨Or.inr ⟨hL, hS⟩, Or.inl ⟨_, rfl, K x h' _ _ F' A' (hI.call e3) (okL_le e3.2.1.1 hL) e4⟩⟩
theorem k_xv {k na kd : Nat} {as : List am_v} {P : rf_f → xl_A → Prop} (hI : xI h0 B h c s F A) (hg : G j pc = some (.inr (.inl (k, na, kd)))) (hM : am_Mt d k as h (xV h P)) (hd : Nat.ble d D = true) (ha : (st.take na).reverse = as) (hb : (Nat.ble na st.length && (Nat.ble (am_words (st.drop na)) 8 && Nat.ble (am_words as) (am_J k).2.2.1)) = true) (hr : am_rc kd h as = true) (hL : am_okL h.length lv = true) (hS : (st.drop na).all (am_okV h.length) = true)
    (K : ∀ (h' : am_h) (c' s' : Nat) (F' : rf_f) (A' : xl_A), xI h0 B h' c' s' F' A' → am_okL h'.length lv = true → P F' A' → am_Ok G D j (pc + 3, lv, st.drop na, h', c', s') Q) : am_Ok G D j (pc, lv, st, h, c, s) Q := by
  refine k_call0 hg hM hd ha hb hr (fun r hr9 => ?_)
  obtain ⟨h', c', s', F', A', rfl, e3, e4⟩ := hr9
  exact ⟨Or.inr ⟨hL, hS⟩, Or.inl ⟨_, rfl, K h' _ _ F' A' (hI.call e3) (okL_le e3.2.1.1 hL) e4⟩⟩
end XI
