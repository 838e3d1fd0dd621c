/-! THE REFERENCE'S CELLS: its fields and rows as functions -/
def rf_T (k : Nat) : Nat := ([0, 3, 3, 3, 0, 0, 0, 0, 0, 0, 0, 0, 0, 2, 0, 4, 3, 3, 0, 4, 0, 0, 3, 0, 3, 3, 3, 0, 0, 3, 0, 3, 0, 3, 3, 3, 0, 0, 0, 3, 3, 3, 3, 3, 3, 3, 3, 3, 0, 3, 0, 3, 3, 3, 3, 0, 3, 3, 3, 0, 3, 3, 0, 0, 0, 1, 3, 0, 3, 3, 0, 1, 5, 0, 3, 0] : List Nat).getD k 9
def rf_ad (k : Nat) : Nat := ([0, 82, 83, 84, 0, 0, 0, 0, 0, 0, 0, 0, 0, 0, 0, 85, 86, 87, 0, 88, 0, 0, 89, 0, 90, 91, 92, 0, 0, 93, 0, 94, 0, 95, 96, 97, 0, 0, 0, 98, 99, 100, 101, 102, 103, 104, 105, 106, 0, 107, 0, 108, 109, 110, 111, 0, 112, 113, 114, 0, 115, 116, 0, 0, 0, 0, 117, 0, 118, 119, 0, 0, 120, 0, 121, 0] : List Nat).getD k 0
def rf_n (k : Nat) : Nat := ([0, 3900, 3, 700, 0, 0, 0, 0, 0, 0, 0, 0, 0, 0, 0, 12, 1488, 12, 0, 31, 0, 0, 130, 0, 8010, 8010, 32040, 0, 0, 30012, 0, 6, 0, 400, 400, 1600, 0, 0, 0, 130, 2, 2, 4, 5000, 5000, 5000, 5000, 16384, 0, 4300, 0, 402, 402, 402, 402, 0, 402, 402, 402, 0, 400000, 90000, 0, 0, 0, 0, 2700, 0, 1300, 1300, 0, 0, 12000, 0, 4096, 0] : List Nat).getD k 0
abbrev rf_f : Type := Nat → Int
abbrev rf_A : Type := Nat → Int → Int
def up1 (F : rf_f) (k : Nat) (v : Int) : rf_f := fun j => if j = k then v else F j
def up2 (A : rf_A) (k : Nat) (q v : Int) : rf_A := fun j p => if j = k then (if p = q then v else A j p) else A j p
def rf_v (k : Nat) (v : am_v) (F : rf_f) : Prop := match rf_T k with
  | 0 => ∃ x : Int32, v = .inl x ∧ x.toInt = F k
  | 1 => ∃ x : Int32, v = .inl x ∧ x.toInt = F k ∧ (x = 0 ∨ x = 1)
  | 2 => ∃ y : Int64, v = .inr (.inl y) ∧ y.toInt = F k
  | _ => v = .inr (.inr (some (rf_ad k)))
def rf_a (k : Nat) (h : am_h) (A : rf_A) : Prop := match rf_T k with
  | 3 => ∃ xs : Nat × Int32 × List Int32, h[rf_ad k]? = some (.inl (.inl xs)) ∧ xs.1 = rf_n k ∧ ∀ q : Nat, q < rf_n k → (xs.2.2.getD q xs.2.1).toInt = A k (q : Int)
  | 4 => ∃ xs : Nat × Int64 × List Int64, h[rf_ad k]? = some (.inl (.inr (.inl xs))) ∧ xs.1 = rf_n k ∧ ∀ q : Nat, q < rf_n k → (xs.2.2.getD q xs.2.1).toInt = A k (q : Int)
  | 5 => ∃ xs : Nat × Int32 × List Int32, h[rf_ad k]? = some (.inl (.inr (.inr xs))) ∧ xs.1 = rf_n k
  | _ => True
def rf_R (h : am_h) (F : rf_f) (A : rf_A) : Prop := (∃ fs : List am_v, h[81]? = some (.inr (10, fs)) ∧ fs.length = 76 ∧ ∀ k, k < 76 → ∃ v : am_v, fs[k]? = some v ∧ rf_v k v F) ∧ ∀ k, k < 76 → rf_a k h A
def rf_Fr (h0 h : am_h) : Prop := h.length = h0.length ∧ ∀ a : Nat, (a < 81 ∨ 121 < a) → h[a]? = h0[a]?
def rf_I (h0 h : am_h) (F : rf_f) (A : rf_A) : Prop := rf_R h F A ∧ rf_Fr h0 h
/-- an answer and what holds of it -/
def rf_Q (h0 : am_h) (P : Int → rf_f → rf_A → Prop) : am_r → Prop := fun r => ∃ (x : Int32) (h' : am_h) (F' : rf_f) (A' : rf_A), r = (.inl (some (.inl x)), h', 0, 0) ∧ rf_I h0 h' F' A' ∧ P x.toInt F' A'
def rf_V (h0 : am_h) (P : rf_f → rf_A → Prop) : am_r → Prop := fun r => ∃ (h' : am_h) (F' : rf_f) (A' : rf_A), r = (.inl none, h', 0, 0) ∧ rf_I h0 h' F' A' ∧ P F' A'
section RF
variable {G : Nat → Nat → Option am_n} {D d j pc k : Nat} {lv : am_l} {st : List am_v} {h h' h0 : am_h} {Q : am_r → Prop} {F : rf_f} {A : rf_A}
theorem rf_ad_ne : ∀ k, k < 76 → 3 ≤ rf_T k → 82 ≤ rf_ad k ∧ rf_ad k ≤ 121 := by decide
theorem rf_ad_inj : ∀ k, k < 76 → ∀ j, j < 76 → 3 ≤ rf_T k → rf_ad k = rf_ad j → k = j := by decide +kernel
theorem rf_Fr.rf : rf_Fr h h := ⟨rfl, fun _ _ => rfl⟩
theorem rf_Fr.trans {h2 : am_h} (a : rf_Fr h h') (b : rf_Fr h' h2) : rf_Fr h h2 := ⟨b.1.trans a.1, fun q hq => (b.2 q hq).trans (a.2 q hq)⟩
theorem rf_I.start (hR : rf_R h F A) : rf_I h h F A := ⟨hR, rf_Fr.rf⟩
theorem rf_I.rc {as : List am_v} (hI : rf_I h0 h F A) : am_rc 13 h (.inr (.inr (some 81)) :: as) = true := by
  obtain ⟨fs, e, -⟩ := hI.1.1
  exact am_rcE e
theorem rf_Fr.set {a : Nat} {x : am_e} (ha : 81 ≤ a ∧ a ≤ 121) : rf_Fr h (h.set a x) := ⟨List.length_set, fun q hq => List.getElem?_set_ne (by omega)⟩
/-- fields -/
theorem r_gI (hI : rf_I h0 h F A) (q : Nat) (hg : G j pc = some (.inl (ai_get 10 k))) (hk : (Nat.blt k 76 && Nat.beq (rf_T k) 0) = true) (hp : pc + 3 = q) (K : ∀ x : Int32, x.toInt = F k → am_Ok G D j (q, lv, .inl x :: st, h, 0, 0) Q) : am_Ok G D j (pc, lv, .inr (.inr (some 81)) :: st, h, 0, 0) Q := by
  have h1 := Bool.and_eq_true_iff.mp hk
  obtain ⟨fs, e, hn, hf⟩ := hI.1.1
  obtain ⟨v, e2, hv⟩ := hf k (am_blt h1.1)
  unfold rf_v at hv
  rw [Nat.eq_of_beq_eq_true h1.2] at hv
  obtain ⟨x, rfl, hx⟩ := hv
  exact k_get q hg e e2 hp (K x hx)
theorem r_gZ (hI : rf_I h0 h F A) (q : Nat) (hg : G j pc = some (.inl (ai_get 10 k))) (hk : (Nat.blt k 76 && Nat.beq (rf_T k) 1) = true) (hp : pc + 3 = q) (K : ∀ x : Int32, x.toInt = F k → (x = 0 ∨ x = 1) → am_Ok G D j (q, lv, .inl x :: st, h, 0, 0) Q) : am_Ok G D j (pc, lv, .inr (.inr (some 81)) :: st, h, 0, 0) Q := by
  have h1 := Bool.and_eq_true_iff.mp hk
  obtain ⟨fs, e, hn, hf⟩ := hI.1.1
  obtain ⟨v, e2, hv⟩ := hf k (am_blt h1.1)
  unfold rf_v at hv
  rw [Nat.eq_of_beq_eq_true h1.2] at hv
  obtain ⟨x, rfl, hx, hx2⟩ := hv
  exact k_get q hg e e2 hp (K x hx hx2)
theorem r_gJ (hI : rf_I h0 h F A) (q : Nat) (hg : G j pc = some (.inl (ai_get 10 k))) (hk : (Nat.blt k 76 && Nat.beq (rf_T k) 2) = true) (hp : pc + 3 = q) (K : ∀ y : Int64, y.toInt = F k → am_Ok G D j (q, lv, .inr (.inl y) :: st, h, 0, 0) Q) : am_Ok G D j (pc, lv, .inr (.inr (some 81)) :: st, h, 0, 0) Q := by
  have h1 := Bool.and_eq_true_iff.mp hk
  obtain ⟨fs, e, hn, hf⟩ := hI.1.1
  obtain ⟨v, e2, hv⟩ := hf k (am_blt h1.1)
  unfold rf_v at hv
  rw [Nat.eq_of_beq_eq_true h1.2] at hv
  obtain ⟨x, rfl, hx⟩ := hv
  exact k_get q hg e e2 hp (K x hx)
theorem r_gA (hI : rf_I h0 h F A) (q : Nat) (hg : G j pc = some (.inl (ai_get 10 k))) (hk : (Nat.blt k 76 && Nat.ble 3 (rf_T k)) = true) (hp : pc + 3 = q) (K : am_Ok G D j (q, lv, .inr (.inr (some (rf_ad k))) :: st, h, 0, 0) Q) : am_Ok G D j (pc, lv, .inr (.inr (some 81)) :: st, h, 0, 0) Q := by
  have h1 := Bool.and_eq_true_iff.mp hk
  obtain ⟨fs, e, hn, hf⟩ := hI.1.1
  obtain ⟨v, e2, hv⟩ := hf k (am_blt h1.1)
  have h3 := Nat.le_of_ble_eq_true h1.2
  unfold rf_v at hv
  split at hv
  · rename_i e9; omega
  · rename_i e9; omega
  · rename_i e9; omega
  · subst hv
    exact k_get q hg e e2 hp K
theorem rf_put {x : am_e} {fs : List am_v} {v w : am_v} {F' : rf_f} (hI : rf_I h0 h F A) (e : h[81]? = some (.inr (10, fs))) (hk : k < 76) (hv : rf_v k w F') (hF : ∀ i, i ≠ k → F' i = F i) : rf_I h0 (h.set 81 (.inr (10, fs.set k w))) F' A := by
  obtain ⟨fs9, e9, hn, hf⟩ := hI.1.1
  rw [e] at e9
  cases e9
  refine ⟨⟨⟨fs.set k w, List.getElem?_set_self (List.getElem?_eq_some_iff.mp e).1, by rw [List.length_set]; exact hn, fun i hi => ?_⟩, fun i hi => ?_⟩, hI.2.trans (rf_Fr.set ⟨by omega, by omega⟩)⟩
  · obtain ⟨u, e2, hu⟩ := hf i hi
    by_cases hik : i = k
    · subst hik
      exact ⟨w, List.getElem?_set_self (List.getElem?_eq_some_iff.mp e2).1, hv⟩
    · refine ⟨u, by rw [List.getElem?_set_ne (fun z => hik z.symm)]; exact e2, ?_⟩
      unfold rf_v at hu ⊢
      rw [hF i hik]
      exact hu
  · have ha := hI.1.2 i hi
    have hne : ∀ {y : am_e}, 3 ≤ rf_T i → (h.set 81 y)[rf_ad i]? = h[rf_ad i]? := fun {y} h3 => by
      have := rf_ad_ne i hi h3
      exact List.getElem?_set_ne (by omega)
    unfold rf_a at ha ⊢
    split at ha
    · rename_i h3
      rw [hne (by omega)]
      exact ha
    · rename_i h3
      rw [hne (by omega)]
      exact ha
    · rename_i h3
      rw [hne (by omega)]
      exact ha
    · trivial
theorem r_pI {x : Int32} (hI : rf_I h0 h F A) (q : Nat) (hg : G j pc = some (.inl (ai_put 10 k am_okI))) (hk : (Nat.blt k 76 && Nat.beq (rf_T k) 0) = true) (hp : pc + 3 = q) (K : ∀ h', rf_I h0 h' (up1 F k x.toInt) A → am_Ok G D j (q, lv, st, h', 0, 0) Q) : am_Ok G D j (pc, lv, .inl x :: .inr (.inr (some 81)) :: st, h, 0, 0) Q := by
  have h1 := Bool.and_eq_true_iff.mp hk
  have hk7 := am_blt h1.1
  obtain ⟨fs, e, hn, hf⟩ := hI.1.1
  obtain ⟨v, e2, hv⟩ := hf k hk7
  refine k_put q hg e rfl (List.getElem?_eq_some_iff.mp e2).1 hp (K _ (rf_put (x := .inr (0, [])) (v := v) hI e hk7 ?_ (fun i hi => if_neg hi)))
  unfold rf_v
  rw [Nat.eq_of_beq_eq_true h1.2]
  exact ⟨x, rfl, (if_pos rfl).symm⟩
theorem r_pZ {x : Int32} (hI : rf_I h0 h F A) (q : Nat) (hg : G j pc = some (.inl (ai_put 10 k am_okZ))) (hk : (Nat.blt k 76 && Nat.beq (rf_T k) 1) = true) (hx : x = 0 ∨ x = 1) (hp : pc + 3 = q) (K : ∀ h', rf_I h0 h' (up1 F k x.toInt) A → am_Ok G D j (q, lv, st, h', 0, 0) Q) : am_Ok G D j (pc, lv, .inl x :: .inr (.inr (some 81)) :: st, h, 0, 0) Q := by
  have h1 := Bool.and_eq_true_iff.mp hk
  have hk7 := am_blt h1.1
  obtain ⟨fs, e, hn, hf⟩ := hI.1.1
  obtain ⟨v, e2, hv⟩ := hf k hk7
  refine k_put q hg e (okZ_of hx) (List.getElem?_eq_some_iff.mp e2).1 hp (K _ (rf_put (x := .inr (0, [])) (v := v) hI e hk7 ?_ (fun i hi => if_neg hi)))
  unfold rf_v
  rw [Nat.eq_of_beq_eq_true h1.2]
  exact ⟨x, rfl, (if_pos rfl).symm, hx⟩
theorem r_pJ {y : Int64} (hI : rf_I h0 h F A) (q : Nat) (hg : G j pc = some (.inl (ai_put 10 k am_okJ))) (hk : (Nat.blt k 76 && Nat.beq (rf_T k) 2) = true) (hp : pc + 3 = q) (K : ∀ h', rf_I h0 h' (up1 F k y.toInt) A → am_Ok G D j (q, lv, st, h', 0, 0) Q) : am_Ok G D j (pc, lv, .inr (.inl y) :: .inr (.inr (some 81)) :: st, h, 0, 0) Q := by
  have h1 := Bool.and_eq_true_iff.mp hk
  have hk7 := am_blt h1.1
  obtain ⟨fs, e, hn, hf⟩ := hI.1.1
  obtain ⟨v, e2, hv⟩ := hf k hk7
  refine k_put q hg e rfl (List.getElem?_eq_some_iff.mp e2).1 hp (K _ (rf_put (x := .inr (0, [])) (v := v) hI e hk7 ?_ (fun i hi => if_neg hi)))
  unfold rf_v
  rw [Nat.eq_of_beq_eq_true h1.2]
  exact ⟨y, rfl, (if_pos rfl).symm⟩
/-- rows -/
theorem rf_row (hI : rf_I h0 h F A) (hk : (Nat.blt k 76 && Nat.beq (rf_T k) 3) = true) : ∃ xs : Nat × Int32 × List Int32, h[rf_ad k]? = some (.inl (.inl xs)) ∧ xs.1 = rf_n k ∧ ∀ q : Nat, q < rf_n k → (xs.2.2.getD q xs.2.1).toInt = A k (q : Int) := by
  have h1 := Bool.and_eq_true_iff.mp hk
  have ha := hI.1.2 k (am_blt h1.1)
  unfold rf_a at ha
  rw [Nat.eq_of_beq_eq_true h1.2] at ha
  exact ha
theorem rf_a0 (hk : (Nat.blt k 76 && Nat.ble 3 (rf_T k)) = true) : rf_ad k ≠ 0 := by
  have h1 := Bool.and_eq_true_iff.mp hk
  have := rf_ad_ne k (am_blt h1.1) (Nat.le_of_ble_eq_true h1.2)
  omega
theorem r_ld {i : Int32} (k : Nat) (hI : rf_I h0 h F A) (q : Nat) (hg : G j pc = some (.inl ai_iald)) (hk : (Nat.blt k 76 && Nat.beq (rf_T k) 3) = true) (h1 : 0 ≤ i.toInt) (h2 : i.toInt < (rf_n k : Int)) (hp : pc + 1 = q) (K : ∀ x : Int32, x.toInt = A k i.toInt → am_Ok G D j (q, lv, .inl x :: st, h, 0, 0) Q) : am_Ok G D j (pc, lv, .inl i :: .inr (.inr (some (rf_ad k))) :: st, h, 0, 0) Q := by
  obtain ⟨xs, e1, e2, e3⟩ := rf_row hI hk
  have hb := Bool.and_eq_true_iff.mp hk
  have h0 : rf_ad k ≠ 0 := rf_a0 (Bool.and_eq_true_iff.mpr ⟨hb.1, by rw [Nat.eq_of_beq_eq_true hb.2]; rfl⟩)
  have hcl : ((i.toNatClampNeg : Nat) : Int) = i.toInt := by rw [iv_cl]; omega
  refine k_iald q hg h0 e1 (iv_nn h1) (by omega) rfl hp (K _ ?_)
  rw [e3 i.toNatClampNeg (by omega), hcl]
theorem rf_st {i x : Int32} {xs : Nat × Int32 × List Int32} (hI : rf_I h0 h F A) (hk : (Nat.blt k 76 && Nat.beq (rf_T k) 3) = true) (e1 : h[rf_ad k]? = some (.inl (.inl xs))) (h1 : 0 ≤ i.toInt) : rf_I h0 (h.set (rf_ad k) (.inl (.inl (xs.1, xs.2.1, am_up xs.2.1 xs.2.2 i.toNatClampNeg x)))) F (up2 A k i.toInt x.toInt) := by
  obtain ⟨ys, f1, e2, e3⟩ := rf_row hI hk
  rw [e1] at f1
  cases f1
  have hb := Bool.and_eq_true_iff.mp hk
  have hk7 := am_blt hb.1
  have hT : rf_T k = 3 := Nat.eq_of_beq_eq_true hb.2
  have had := rf_ad_ne k hk7 (by omega)
  have hcl : ((i.toNatClampNeg : Nat) : Int) = i.toInt := by rw [iv_cl]; omega
  refine ⟨⟨?_, fun p hp => ?_⟩, hI.2.trans (rf_Fr.set ⟨by omega, by omega⟩)⟩
  · obtain ⟨fs, e, hn, hf⟩ := hI.1.1
    exact ⟨fs, by rw [List.getElem?_set_ne (by omega)]; exact e, hn, hf⟩
  · have ha := hI.1.2 p hp
    by_cases hpk : p = k
    · subst hpk
      unfold rf_a
      rw [hT]
      refine ⟨_, List.getElem?_set_self (List.getElem?_eq_some_iff.mp e1).1, e2, fun q hq => ?_⟩
      show ((am_up xs.2.1 xs.2.2 i.toNatClampNeg x).getD q xs.2.1).toInt = _
      rw [am_up_get]
      show _ = (if p = p then (if (q : Int) = i.toInt then x.toInt else A p q) else A p q)
      rw [if_pos rfl]
      by_cases hqi : q = i.toNatClampNeg
      · rw [if_pos hqi, if_pos (by omega)]
      · rw [if_neg hqi, if_neg (by omega)]
        exact e3 q hq
    · have hA : ∀ q : Int, up2 A k i.toInt x.toInt p q = A p q := fun q => if_neg hpk
      have hne : ∀ {y : am_e}, 3 ≤ rf_T p → (h.set (rf_ad k) y)[rf_ad p]? = h[rf_ad p]? := fun {y} h3 => List.getElem?_set_ne (fun z => hpk (rf_ad_inj k hk7 p hp (by omega) z).symm)
      unfold rf_a at ha ⊢
      split at ha
      · rename_i h3
        rw [hne (by omega)]
        obtain ⟨ws, w1, w2, w3⟩ := ha
        exact ⟨ws, w1, w2, fun q hq => by rw [hA]; exact w3 q hq⟩
      · rename_i h3
        rw [hne (by omega)]
        obtain ⟨ws, w1, w2, w3⟩ := ha
        exact ⟨ws, w1, w2, fun q hq => by rw [hA]; exact w3 q hq⟩
      · rename_i h3
        rw [hne (by omega)]
        exact ha
      · trivial
theorem r_st {i x : Int32} (k : Nat) (hI : rf_I h0 h F A) (q : Nat) (hg : G j pc = some (.inl ai_iast)) (hk : (Nat.blt k 76 && Nat.beq (rf_T k) 3) = true) (h1 : 0 ≤ i.toInt) (h2 : i.toInt < (rf_n k : Int)) (hp : pc + 1 = q) (K : ∀ h', rf_I h0 h' F (up2 A k i.toInt x.toInt) → am_Ok G D j (q, lv, st, h', 0, 0) Q) : am_Ok G D j (pc, lv, .inl x :: .inl i :: .inr (.inr (some (rf_ad k))) :: st, h, 0, 0) Q := by
  obtain ⟨xs, e1, e2, e3⟩ := rf_row hI hk
  have hb := Bool.and_eq_true_iff.mp hk
  have h0 : rf_ad k ≠ 0 := rf_a0 (Bool.and_eq_true_iff.mpr ⟨hb.1, by rw [Nat.eq_of_beq_eq_true hb.2]; rfl⟩)
  have hcl : ((i.toNatClampNeg : Nat) : Int) = i.toInt := by rw [iv_cl]; omega
  exact k_iast q hg h0 e1 (iv_nn h1) (by omega) hp (K _ (rf_st hI hk e1 h1))
/-- other rows' cells change, nothing that is told of them -/
theorem rf_cell {A' : rf_A} {y : am_e} (hI : rf_I h0 h F A) (hA : ∀ p, p ≠ k → A' p = A p) (hk7 : k < 76) (h3 : 4 ≤ rf_T k) (hy : ∀ (g : am_h), g[rf_ad k]? = some y → rf_a k g A') : rf_I h0 (h.set (rf_ad k) y) F A' := by
  have had := rf_ad_ne k hk7 (by omega)
  refine ⟨⟨?_, fun p hp => ?_⟩, hI.2.trans (rf_Fr.set ⟨by omega, by omega⟩)⟩
  · obtain ⟨fs, e, hn, hf⟩ := hI.1.1
    exact ⟨fs, by rw [List.getElem?_set_ne (by omega)]; exact e, hn, hf⟩
  · have ha := hI.1.2 p hp
    by_cases hpk : p = k
    · subst hpk
      have hl : rf_ad p < h.length := by
        unfold rf_a at ha
        split at ha
        · obtain ⟨xs, e, -⟩ := ha; exact (List.getElem?_eq_some_iff.mp e).1
        · obtain ⟨xs, e, -⟩ := ha; exact (List.getElem?_eq_some_iff.mp e).1
        · obtain ⟨xs, e, -⟩ := ha; exact (List.getElem?_eq_some_iff.mp e).1
        · rename_i n1 n2 n3
          exfalso
          have : rf_T p = 4 ∨ rf_T p = 5 := by
            have h9 : ∀ q, q < 76 → rf_T q ≤ 5 := by decide
            have := h9 p hp
            omega
          rcases this with z | z
          · exact n2 z
          · exact n3 z
      exact hy _ (List.getElem?_set_self hl)
    · have hne : ∀ {y : am_e}, 3 ≤ rf_T p → (h.set (rf_ad k) y)[rf_ad p]? = h[rf_ad p]? := fun {y} h3 => List.getElem?_set_ne (fun z => hpk (rf_ad_inj k hk7 p hp (by omega) z).symm)
      unfold rf_a at ha ⊢
      rw [hA p hpk]
      split at ha
      · rename_i h3
        rw [hne (by omega)]
        exact ha
      · rename_i h3
        rw [hne (by omega)]
        exact ha
      · rename_i h3
        rw [hne (by omega)]
        exact ha
      · trivial
theorem rf_rowJ (hI : rf_I h0 h F A) (hk : (Nat.blt k 76 && Nat.beq (rf_T k) 4) = true) : ∃ xs : Nat × Int64 × List Int64, h[rf_ad k]? = some (.inl (.inr (.inl xs))) ∧ xs.1 = rf_n k ∧ ∀ q : Nat, q < rf_n k → (xs.2.2.getD q xs.2.1).toInt = A k (q : Int) := by
  have h1 := Bool.and_eq_true_iff.mp hk
  have ha := hI.1.2 k (am_blt h1.1)
  unfold rf_a at ha
  rw [Nat.eq_of_beq_eq_true h1.2] at ha
  exact ha
theorem rf_rowB (hI : rf_I h0 h F A) (hk : (Nat.blt k 76 && Nat.beq (rf_T k) 5) = true) : ∃ xs : Nat × Int32 × List Int32, h[rf_ad k]? = some (.inl (.inr (.inr xs))) ∧ xs.1 = rf_n k := by
  have h1 := Bool.and_eq_true_iff.mp hk
  have ha := hI.1.2 k (am_blt h1.1)
  unfold rf_a at ha
  rw [Nat.eq_of_beq_eq_true h1.2] at ha
  exact ha
theorem r_lld {i : Int32} (k : Nat) (hI : rf_I h0 h F A) (q : Nat) (hg : G j pc = some (.inl ai_lald)) (hk : (Nat.blt k 76 && Nat.beq (rf_T k) 4) = true) (h1 : 0 ≤ i.toInt) (h2 : i.toInt < (rf_n k : Int)) (hp : pc + 1 = q) (K : ∀ y : Int64, y.toInt = A k i.toInt → am_Ok G D j (q, lv, .inr (.inl y) :: st, h, 0, 0) Q) : am_Ok G D j (pc, lv, .inl i :: .inr (.inr (some (rf_ad k))) :: st, h, 0, 0) Q := by
  obtain ⟨xs, e1, e2, e3⟩ := rf_rowJ hI hk
  have hcl : ((i.toNatClampNeg : Nat) : Int) = i.toInt := by rw [iv_cl]; omega
  refine k_lald q hg e1 (iv_nn h1) (by omega) hp (K _ ?_)
  rw [e3 i.toNatClampNeg (by omega), hcl]
theorem r_lst {i : Int32} {y : Int64} (k : Nat) (hI : rf_I h0 h F A) (q : Nat) (hg : G j pc = some (.inl ai_last)) (hk : (Nat.blt k 76 && Nat.beq (rf_T k) 4) = true) (h1 : 0 ≤ i.toInt) (h2 : i.toInt < (rf_n k : Int)) (hp : pc + 1 = q) (K : ∀ h', rf_I h0 h' F (up2 A k i.toInt y.toInt) → am_Ok G D j (q, lv, st, h', 0, 0) Q) : am_Ok G D j (pc, lv, .inr (.inl y) :: .inl i :: .inr (.inr (some (rf_ad k))) :: st, h, 0, 0) Q := by
  obtain ⟨xs, e1, e2, e3⟩ := rf_rowJ hI hk
  have hb := Bool.and_eq_true_iff.mp hk
  have hT : rf_T k = 4 := Nat.eq_of_beq_eq_true hb.2
  have hcl : ((i.toNatClampNeg : Nat) : Int) = i.toInt := by rw [iv_cl]; omega
  refine k_last q hg e1 (iv_nn h1) (by omega) hp (K _ (rf_cell hI (fun p hp9 => funext (fun z => if_neg hp9)) (am_blt hb.1) (by omega) (fun g hg9 => ?_)))
  unfold rf_a
  rw [hT]
  refine ⟨_, hg9, e2, fun q hq => ?_⟩
  show ((am_up xs.2.1 xs.2.2 i.toNatClampNeg y).getD q xs.2.1).toInt = _
  rw [am_up_get]
  show _ = (if k = k then (if (q : Int) = i.toInt then y.toInt else A k q) else A k q)
  rw [if_pos rfl]
  by_cases hqi : q = i.toNatClampNeg
  · rw [if_pos hqi, if_pos (by omega)]
  · rw [if_neg hqi, if_neg (by omega)]
    exact e3 q hq
theorem r_bld {i : Int32} (k : Nat) (hI : rf_I h0 h F A) (q : Nat) (hg : G j pc = some (.inl ai_bald)) (hk : (Nat.blt k 76 && Nat.beq (rf_T k) 5) = true) (h1 : 0 ≤ i.toInt) (h2 : i.toInt < (rf_n k : Int)) (hp : pc + 1 = q) (K : ∀ x : Int32, am_Ok G D j (q, lv, .inl x :: st, h, 0, 0) Q) : am_Ok G D j (pc, lv, .inl i :: .inr (.inr (some (rf_ad k))) :: st, h, 0, 0) Q := by
  obtain ⟨xs, e1, e2⟩ := rf_rowB hI hk
  exact k_bald q hg e1 (iv_nn h1) (by rw [iv_cl]; omega) hp (K _)
theorem r_bst {i x : Int32} (k : Nat) (hI : rf_I h0 h F A) (q : Nat) (hg : G j pc = some (.inl ai_bast)) (hk : (Nat.blt k 76 && Nat.beq (rf_T k) 5) = true) (h1 : 0 ≤ i.toInt) (h2 : i.toInt < (rf_n k : Int)) (hp : pc + 1 = q) (K : ∀ h', rf_I h0 h' F A → am_Ok G D j (q, lv, st, h', 0, 0) Q) : am_Ok G D j (pc, lv, .inl x :: .inl i :: .inr (.inr (some (rf_ad k))) :: st, h, 0, 0) Q := by
  obtain ⟨xs, e1, e2⟩ := rf_rowB hI hk
  have hb := Bool.and_eq_true_iff.mp hk
  have hT : rf_T k = 5 := Nat.eq_of_beq_eq_true hb.2
  refine k_bast q hg e1 (iv_nn h1) (by rw [iv_cl]; omega) hp (K _ (rf_cell hI (fun _ _ => rfl) (am_blt hb.1) (by omega) (fun g hg9 => ?_)))
  unfold rf_a
  rw [hT]
  exact ⟨_, hg9, e2⟩
/-- calls -/
theorem k_rq {k na kd : Nat} {as : List am_v} {P : Int → rf_f → rf_A → Prop} (hI : rf_I h0 h F A) (hg : G j pc = some (.inr (.inl (k, na, kd)))) (hM : am_Mt d k as h (rf_Q h P)) (hd : Nat.ble d D = true) (ha : (st.take na).reverse = as) (hb : (Nat.ble na st.length && (Nat.ble (am_words (st.drop na)) 8 && Nat.ble (am_words as) (am_J k).2.2.1)) = true) (hr : am_rc kd h as = true)
    (K : ∀ (x : Int32) (h' : am_h) (F' : rf_f) (A' : rf_A), rf_I h0 h' F' A' → P x.toInt F' A' → am_Ok G D j (pc + 3, lv, .inl x :: st.drop na, h', 0, 0) Q) : am_Ok G D j (pc, lv, st, h, 0, 0) Q := by
  refine k_call0 hg hM hd ha hb hr (fun r hr9 => ?_)
  obtain ⟨x, h', F', A', rfl, h1, h2⟩ := hr9
  exact ⟨Or.inl h1.2.1, Or.inl ⟨_, rfl, K x h' F' A' ⟨h1.1, hI.2.trans h1.2⟩ h2⟩⟩
theorem k_rv {k na kd : Nat} {as : List am_v} {P : rf_f → rf_A → Prop} (hI : rf_I h0 h F A) (hg : G j pc = some (.inr (.inl (k, na, kd)))) (hM : am_Mt d k as h (rf_V h P)) (hd : Nat.ble d D = true) (ha : (st.take na).reverse = as) (hb : (Nat.ble na st.length && (Nat.ble (am_words (st.drop na)) 8 && Nat.ble (am_words as) (am_J k).2.2.1)) = true) (hr : am_rc kd h as = true)
    (K : ∀ (h' : am_h) (F' : rf_f) (A' : rf_A), rf_I h0 h' F' A' → P F' A' → am_Ok G D j (pc + 3, lv, st.drop na, h', 0, 0) Q) : am_Ok G D j (pc, lv, st, h, 0, 0) Q := by
  refine k_call0 hg hM hd ha hb hr (fun r hr9 => ?_)
  obtain ⟨h', F', A', rfl, h1, h2⟩ := hr9
  exact ⟨Or.inl h1.2.1, Or.inl ⟨_, rfl, K h' F' A' ⟨h1.1, hI.2.trans h1.2⟩ h2⟩⟩
/-- a call, walked into -/
theorem k_in {k na kd : Nat} {as : List am_v} (hg : G j pc = some (.inr (.inl (k, na, kd)))) (hd : Nat.ble (d + 1) D = true) (ha : (st.take na).reverse = as) (hb : (Nat.ble na st.length && (Nat.ble (am_words (st.drop na)) 8 && Nat.ble (am_words as) (am_J k).2.2.1)) = true) (hr : am_rc kd h as = true)
    (K : am_Ok am_G d k (0, am_args 0 as, [], h, 0, 0) (fun r => ∃ (v : Option am_v) (h' : am_h), r = (.inl v, h', 0, 0) ∧ h'.length = h.length ∧ am_Ok G D j (pc + 3, lv, v.toList ++ st.drop na, h', 0, 0) Q)) : am_Ok G D j (pc, lv, st, h, 0, 0) Q := by
  refine k_call0 hg (am_Mt.of K) hd ha hb hr (fun r hr9 => ?_)
  obtain ⟨v, h', rfl, h1, h2⟩ := hr9
  exact ⟨Or.inl h1, Or.inl ⟨_, rfl, h2⟩⟩
theorem rf_len {h1 h2 : am_h} {F' : rf_f} {A' : rf_A} (a : rf_I h0 h1 F A) (b : rf_I h0 h2 F' A') : h2.length = h1.length := b.2.1.trans a.2.1.symm
end RF
