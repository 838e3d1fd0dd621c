/-! THE LAW'S HEAP: class, reference, and the row for an answer, side by side -/
theorem ob_91 : ob 9 1 := show 1 ∈ ob_L 9 by decide
/-- the tape: what it holds; objects that stay -/
def tlh (h : am_h) (T : List Int × List Int) : Prop := fx h ∧ ob_l h 2 = T.1 ∧ ob_l h 46 = T.2 ∧ pqb h = true
section LH
variable {h h' h2 : am_h} {F : rf_f} {A : rf_A} {n : Nat}
theorem rf_R.cg (hR : rf_R h F A) (e : ∀ a : Nat, 81 ≤ a → a ≤ 121 → h'[a]? = h[a]?) : rf_R h' F A := by
  obtain ⟨⟨fs, e1, e2⟩, e3⟩ := hR
  refine ⟨⟨fs, by rw [e 81 (by omega) (by omega)]; exact e1, e2⟩, fun k hk => ?_⟩
  have h3 := e3 k hk
  have h4 := rf_ad_ne k hk
  unfold rf_a at h3 ⊢
  split at h3
  · rename_i h5
    have h6 := h4 (by omega)
    rw [e (rf_ad k) (by omega) (by omega)]
    exact h3
  · rename_i h5
    have h6 := h4 (by omega)
    rw [e (rf_ad k) (by omega) (by omega)]
    exact h3
  · rename_i h5
    have h6 := h4 (by omega)
    rw [e (rf_ad k) (by omega) (by omega)]
    exact h3
  · trivial
theorem okH_mem (H : am_okH n h = true) {a : Nat} {e : am_e} (he : h[a]? = some e) : am_okE n e = true := List.all_eq_true.mp H e (List.mem_of_getElem? he)
theorem okH_of (H : ∀ (a : Nat) (e : am_e), h[a]? = some e → am_okE n e = true) : am_okH n h = true := List.all_eq_true.mpr (fun e he => by
  obtain ⟨a, ha⟩ := List.getElem?_of_mem he
  exact H a e ha)
theorem rf_ad_le : ∀ k, k < 76 → rf_ad k ≤ 121 := by decide
def rf_k (a : Nat) : Nat := ((List.range 76).find? (fun k => Nat.beq (rf_ad k) a && Nat.ble 3 (rf_T k))).getD 0
theorem rf_ad_k : ∀ a, a < 122 → 82 ≤ a → rf_k a < 76 ∧ rf_ad (rf_k a) = a ∧ (rf_T (rf_k a) = 3 ∨ rf_T (rf_k a) = 4 ∨ rf_T (rf_k a) = 5) := by decide +kernel
theorem rf_ad_on (a : Nat) (h1 : a < 122) (h2 : 82 ≤ a) : ∃ k, k < 76 ∧ rf_ad k = a ∧ (rf_T k = 3 ∨ rf_T k = 4 ∨ rf_T k = 5) := ⟨rf_k a, rf_ad_k a h1 h2⟩
theorem rf_okE (hR : rf_R h F A) (hl : 123 ≤ n) {a : Nat} (ha : 81 ≤ a ∧ a ≤ 121) {e : am_e} (he : h[a]? = some e) : am_okE n e = true := by
  by_cases z : a = 81
  · subst z
    obtain ⟨⟨fs, e1, e2, e3⟩, -⟩ := hR
    rw [e1] at he
    cases he
    refine List.all_eq_true.mpr (fun v hv => ?_)
    obtain ⟨k, hk⟩ := List.getElem?_of_mem hv
    have hk2 : k < 76 := by rw [← e2]; exact (List.getElem?_eq_some_iff.mp hk).1
    obtain ⟨w, e4, e5⟩ := e3 k hk2
    rw [hk] at e4
    cases e4
    unfold rf_v at e5
    split at e5
    · obtain ⟨x, rfl, -⟩ := e5
      rfl
    · obtain ⟨x, rfl, -⟩ := e5
      rfl
    · obtain ⟨x, rfl, -⟩ := e5
      rfl
    · subst e5
      have := rf_ad_le k hk2
      exact Nat.ble_eq_true_of_le (by omega)
  · obtain ⟨k, hk, e1, e2⟩ := rf_ad_on a (by omega) (by omega)
    have h3 := hR.2 k hk
    unfold rf_a at h3
    rcases e2 with e2 | e2 | e2
    · rw [e2, e1] at h3
      obtain ⟨xs, e4, -⟩ := h3
      rw [he] at e4
      cases e4
      rfl
    · rw [e2, e1] at h3
      obtain ⟨xs, e4, -⟩ := h3
      rw [he] at e4
      cases e4
      rfl
    · rw [e2, e1] at h3
      obtain ⟨xs, e4, -⟩ := h3
      rw [he] at e4
      cases e4
      rfl
/-- what isn't the class's has changed -/
theorem ty_cg (hT : ty_H h) (hl : h'.length = h.length) (hc : ∀ a : Nat, (a < 81 ∨ 122 < a) → h'[a]? = h[a]?) (hok : am_okH h'.length h' = true) : ty_H h' ∧ ob_P h' = ob_P h ∧ ∀ T : List Int × List Int, tlh h T → tlh h' T := by
  have hr : ∀ i, ob 3 i ∨ ob 11 i → ob_row h' i ∧ ob_p h' i = ob_p h i ∧ ob_ra h' i = ob_ra h i ∧ ob_l h' i = ob_l h i := by
    intro i hi
    have hi81 : i < 81 := hi.elim ob_lt ob_lt
    obtain ⟨mo, z, a, xs, e1, e2, e3, e4⟩ := hT.row hi
    have f1 : h'[i]? = some (.inr (3, [.inl mo, .inr (.inr (some a)), .inl z])) := by rw [hc i (Or.inl hi81)]; exact e1
    have f2 : h'[a]? = some (.inl (.inl xs)) := by rw [hc a e3.2]; exact e2
    exact ⟨⟨mo, z, a, xs, f1, f2, e3, e4⟩, by rw [ob_p_eq f1 f2, ob_p_eq e1 e2], by rw [ob_ra_eq f1, ob_ra_eq e1], by rw [ob_l_eq f1 f2, ob_l_eq e1 e2]⟩
  refine ⟨⟨hok, by rw [hl]; exact hT.2.1, fun l i hi h3 h11 => ?_, fun i hi => (hr i hi).1, fun i j hi hj hij => by rw [(hr i (ob_R_mem hi)).2.2.1, (hr j (ob_R_mem hj)).2.2.1]; exact hT.2.2.2.2 i j hi hj hij⟩, ?_, fun z hz => ?_⟩
  · obtain ⟨fs, e1, e2⟩ := hT.2.2.1 l i hi h3 h11
    exact ⟨fs, by rw [hc i (Or.inl (ob_lt hi))]; exact e1, e2⟩
  · unfold ob_P
    rw [List.map_congr_left (fun i hi => (hr i (ob_R_mem hi)).2.1)]
  · refine ⟨fun t ht => ?_, ((hr 2 (Or.inr ob_112)).2.2.2).trans hz.2.1, ((hr 46 (Or.inr ob_1146)).2.2.2).trans hz.2.2.1, (pq_of (ob_f_eq (hc 32 (Or.inl (by omega)))) (ob_f_eq (hc 32 (Or.inl (by omega))))).trans hz.2.2.2⟩
    obtain ⟨o1, o2, o3⟩ := fx_ob t ht
    have e : h'[t.1]? = h[t.1]? := hc t.1 (Or.inl (ob_lt o1))
    have h9 := hz.1 t ht
    unfold ob_f at h9 ⊢
    rw [e]
    exact h9
/-- a call of the reference, seen from the class -/
theorem ty_rf (hT : ty_H h) (hF : rf_Fr h h') (hR : rf_R h' F A) : ty_H h' ∧ ob_P h' = ob_P h ∧ ∀ T : List Int × List Int, tlh h T → tlh h' T := by
  refine ty_cg hT hF.1 (fun a ha => hF.2 a (by omega)) (okH_of (fun a e he => ?_))
  by_cases ha : 81 ≤ a ∧ a ≤ 121
  · exact rf_okE hR (by rw [hF.1]; exact hT.2.1) ha he
  · rw [hF.2 a (by omega)] at he
    rw [hF.1]
    exact okH_mem hT.1 he
/-- the row for an answer -/
def oc (h : am_h) : Prop := ∃ xs : Nat × Int64 × List Int64, h[122]? = some (.inl (.inr (.inl xs))) ∧ xs.1 = 1
theorem ty_out {e : Nat × Int64 × List Int64} (hT : ty_H h) : ty_H (h.set 122 (.inl (.inr (.inl e)))) ∧ ob_P (h.set 122 (.inl (.inr (.inl e)))) = ob_P h ∧ ∀ T : List Int × List Int, tlh h T → tlh (h.set 122 (.inl (.inr (.inl e)))) T := by
  refine ty_cg hT List.length_set (fun a ha => List.getElem?_set_ne (by omega)) (okH_of (fun a y he => ?_))
  rw [List.length_set]
  by_cases z : 122 = a
  · subst z
    rw [List.getElem?_set_self (by have := hT.2.1; omega)] at he
    cases he
    rfl
  · rw [List.getElem?_set_ne z] at he
    exact okH_mem hT.1 he
/-- a call of the class within the law: what it gives -/
def lQ (h : am_h) (P : am_h → Prop) : am_r → Prop := fun r => ∃ y : Int32, r.1 = .inl (some (.inl y)) ∧ ty_H r.2.1 ∧ h.length ≤ r.2.1.length ∧ (∀ a : Nat, (a = 0 ∨ (81 ≤ a ∧ a ≤ 121)) → r.2.1[a]? = h[a]?) ∧ oc r.2.1 ∧ (r.2.2.1 + ob_P r.2.1 ≤ ob_P h + 6 ∧ r.2.2.2 + ob_P r.2.1 ≤ ob_P h + 6) ∧ P r.2.1
/-- the frame's stay of the tape -/
theorem tlh_fr {W : List (Nat × Nat)} (hF : ob_Fr W h h') (h0 : (11, 1) ∉ W) (h1 : ∀ t, t ∈ fx_T → (ob_lab t.1, t.2.1) ∉ W) : ∀ T : List Int × List Int, tlh h T → tlh h' T := fun T hT => by
  refine ⟨fun t ht => ?_, (hF.2.2.2.1 2 ob_112 h0).trans hT.2.1, (hF.2.2.2.1 46 ob_1146 h0).trans hT.2.2.1, hF.2.2.2.2.trans hT.2.2.2⟩
  obtain ⟨o1, o2, o3⟩ := fx_ob t ht
  rw [hF.2.2.1 _ _ _ o1 o2 (h1 t ht)]
  exact hT.1 t ht
/-- from the typed heap to exact rows -/
theorem tlh.xR {T : List Int × List Int} (hT : ty_H h) (t : tlh h T) : xR h (xl_f h) (ob_l h) := ⟨hT, t.1, fun _ => rfl, fun _ _ => rfl⟩
theorem xR.tlh {F : rf_f} {A : xl_A} (hR : xR h F A) (hp : pqb h = true) : tlh h (A 2, A 46) := ⟨hR.2.1, hR.2.2.2 2 (ob_mem_R (Or.inr ob_112)), hR.2.2.2 46 (ob_mem_R (Or.inr ob_1146)), hp⟩
/-- the two rows that plain works in, as fields -/
theorem pq_obj (hT : ty_H h) : ∃ (fs : List am_v) (a b : Nat), h[32]? = some (.inr (2, fs)) ∧ fs[2]? = some (.inr (.inr (some a))) ∧ fs[3]? = some (.inr (.inr (some b))) := by
  obtain ⟨fs, e1, -, e3⟩ := hT.2.2.1 2 32 o232 (by decide) (by decide)
  obtain ⟨v, e4, a, rfl, -⟩ := e3 2 5 rfl
  obtain ⟨w, e5, b, rfl, -⟩ := e3 3 5 rfl
  exact ⟨fs, a, b, e1, e4, e5⟩
theorem pq_ab {F : rf_f} {A : xl_A} (hR : xR h F A) : ∃ a b : Nat, F 3202 = (a : Int) ∧ F 3203 = (b : Int) ∧ pqb h = ((Nat.beq a 37 && Nat.beq b 39) || (Nat.beq a 39 && Nat.beq b 37)) := by
  obtain ⟨fs, a, b, e1, e2, e3⟩ := pq_obj hR.1
  have f2 := (xI.start hR).fld (k := 2) o232 rfl (am_blt rfl) e1 e2
  have f3 := (xI.start hR).fld (k := 3) o232 rfl (am_blt rfl) e1 e3
  exact ⟨a, b, f2, f3, pqb_eq e1 e2 e3⟩
theorem pq_F {F : rf_f} {A : xl_A} (hR : xR h F A) (hp : pqb h = true) : (F 3202 = 37 ∧ F 3203 = 39) ∨ (F 3202 = 39 ∧ F 3203 = 37) := by
  obtain ⟨a, b, f2, f3, e⟩ := pq_ab hR
  rw [e] at hp
  rcases Bool.or_eq_true_iff.mp hp with h9 | h9
  · obtain ⟨h7, h8⟩ := Bool.and_eq_true_iff.mp h9
    have h7 := Nat.eq_of_beq_eq_true h7
    have h8 := Nat.eq_of_beq_eq_true h8
    exact Or.inl ⟨by omega, by omega⟩
  · obtain ⟨h7, h8⟩ := Bool.and_eq_true_iff.mp h9
    have h7 := Nat.eq_of_beq_eq_true h7
    have h8 := Nat.eq_of_beq_eq_true h8
    exact Or.inr ⟨by omega, by omega⟩
theorem F_pq {F : rf_f} {A : xl_A} (hR : xR h F A) (hq : (F 3202 = 37 ∧ F 3203 = 39) ∨ (F 3202 = 39 ∧ F 3203 = 37)) : pqb h = true := by
  obtain ⟨a, b, f2, f3, e⟩ := pq_ab hR
  rw [e]
  rcases hq with h9 | h9
  · have h7 : a = 37 := by omega
    have h8 : b = 39 := by omega
    subst h7
    subst h8
    rfl
  · have h7 : a = 39 := by omega
    have h8 : b = 37 := by omega
    subst h7
    subst h8
    rfl
theorem tlh.len {T : List Int × List Int} (hT : ty_H h) (t : tlh h T) : (T.1.length : Int) ≤ 700 := by
  have h9 := (xI.start (t.xR hT)).cap or2
  rw [mo2, t.2.1] at h9
  exact h9
theorem net_of {T : List Int × List Int} {k : Nat} (hT : ty_H h) (t : tlh h T) (hk : (ty_F 9)[k]? = some 3) (hk9 : Nat.blt k 100 = true) : xl_f h (100 * 1 + k) = 56 ∨ xl_f h (100 * 1 + k) = 65 := by
  have hI := xI.start (t.xR hT)
  obtain ⟨fs, v, e1, e2, y, rfl, hy⟩ := hI.1.1.get ob_91 rfl hk
  have e3 := hI.fld ob_91 rfl (am_blt hk9) e1 e2
  have h9 : y ∈ ([56, 65] : List Nat) := hy
  rw [e3]
  rcases List.mem_cons.mp h9 with e | h9
  · rw [e]
    exact Or.inl rfl
  · rw [List.mem_singleton.mp h9]
    exact Or.inr rfl
theorem lk_ok (hT : ty_H h) : ([.inl 0, .inr (.inr (some 122))] : List am_v).all (am_okV h.length) = true := by
  have e9 : am_okV h.length (.inr (.inr (some 122))) = true := Nat.ble_eq_true_of_le hT.2.1
  show (true && (am_okV h.length (.inr (.inr (some 122))) && true)) = true
  rw [e9]
  rfl
theorem lk_L1 {v : Int32} (hT : ty_H h) : am_okL h.length (am_args 0 [.inr (.inr (some 1)), .inl v, .inr (.inr (some 122))]) = true := by
  refine okA_r hT ob_91 (okA_i ?_)
  have e9 : am_okV h.length (.inr (.inr (some 122))) = true := Nat.ble_eq_true_of_le hT.2.1
  show (am_okV h.length (.inr (.inr (some 122))) && true) = true
  rw [e9]
  rfl
theorem lk_L2 {v w : Int32} (hT : ty_H h) : am_okL h.length (am_args 0 [.inr (.inr (some 1)), .inl v, .inl w, .inr (.inr (some 122))]) = true := by
  refine okA_r hT ob_91 (okA_i (okA_i ?_))
  have e9 : am_okV h.length (.inr (.inr (some 122))) = true := Nat.ble_eq_true_of_le hT.2.1
  show (am_okV h.length (.inr (.inr (some 122))) && true) = true
  rw [e9]
  rfl
end LH
