/-! THE LAW'S HELPERS: a call of the class, its answer laid by -/
section LA
variable {h h' : am_h} {W : List (Nat × Nat)} {c s : Nat} {P : am_h → Prop} {y : Int32}
theorem oc.fr (ho : oc h) (hF : ob_Fr W h h') : ∃ xs : Nat × Int64 × List Int64, h'[122]? = some (.inl (.inr (.inl xs))) ∧ xs.1 = 1 := by
  obtain ⟨xs, e1, e2⟩ := ho
  exact ⟨xs, by rw [hF.2.1 122 (Or.inr ⟨by omega, by omega⟩)]; exact e1, e2⟩
theorem lQ_ok {e : Nat × Int64 × List Int64} (hI : ob_I W (ob_P h) h h' c s) (he : e.1 = 1) (hP : P (h'.set 122 (.inl (.inr (.inl e))))) : lQ h P (.inl (some (.inl y)), h'.set 122 (.inl (.inr (.inl e))), 0 + c, 0 + s) := by
  obtain ⟨t1, t2, -⟩ := ty_out (e := e) hI.1
  refine ⟨y, rfl, t1, by show h.length ≤ (h'.set 122 (.inl (.inr (.inl e)))).length; rw [List.length_set]; exact hI.2.1.1, fun a ha => ?_, ⟨e, List.getElem?_set_self (by have := hI.1.2.1; omega), he⟩, ?_, hP⟩
  · show (h'.set 122 (.inl (.inr (.inl e))))[a]? = _
    rw [List.getElem?_set_ne (by omega)]
    exact hI.2.1.2.1 a (by omega)
  · show 0 + c + ob_P (h'.set 122 (.inl (.inr (.inl e)))) ≤ _ ∧ 0 + s + ob_P (h'.set 122 (.inl (.inr (.inl e)))) ≤ _
    rw [t2]
    have a := hI.2.2.1
    have b := hI.2.2.2
    omega
theorem lQ_ex (hI : ob_I W (ob_P h + 6) h h' c s) (ho : oc h) (hP : P h') : lQ h P (.inl (some (.inl y)), h', 0 + c, 0 + s) := by
  obtain ⟨xs, f1, f2⟩ := ho.fr hI.2.1
  refine ⟨y, rfl, hI.1, hI.2.1.1, fun a ha => hI.2.1.2.1 a (by omega), ⟨xs, f1, f2⟩, ?_, hP⟩
  show 0 + c + ob_P h' ≤ _ ∧ 0 + s + ob_P h' ≤ _
  have a := hI.2.2.1
  have b := hI.2.2.2
  omega
end LA

theorem l_step {h : am_h} {v1 : Int32} (hT : ty_H h) (ho : oc h) : am_Mt 9 267 [.inr (.inr (some 1)), .inl v1, .inr (.inr (some 122))] h (lQ h (fun h' => ∀ T : List Int × List Int, tlh h T → tlh h' T)) := by
  refine am_Mt.of (D := 8) ?_
  refine k_aload 1 rfl rfl rfl ?_
  refine k_push 2 rfl rfl ?_
  refine k_aload 3 rfl rfl rfl ?_
  refine k_iload 4 rfl rfl rfl ?_
  refine k_call0 rfl (c_X9_step hT ob_91) rfl rfl rfl (hT.rc ob_91 rfl) ?_
  rintro ⟨r1, h', c, s⟩ hr
  refine ⟨Or.inr ⟨lk_L1 hT, lk_ok hT⟩, ?_⟩
  rcases hr with ⟨v, e1, ⟨w, e2, x, e3⟩, hI⟩ | ⟨e, e1, e2, hI⟩
  · refine Or.inl ⟨v, e1, ?_⟩
    subst e2
    subst e3
    obtain ⟨xs, f1, f2⟩ := ho.fr hI.2.1
    show am_Ok _ _ _ (7, _, [.inl x, .inl 0, .inr (.inr (some 122))], h', 0 + c, 0 + s) _
    refine k_un _ 8 rfl rfl rfl ?_
    refine k_last 9 rfl f1 (by decide) (by rw [f2]; decide) rfl ?_
    refine k_goto 15 rfl rfl ?_
    refine k_push 16 rfl rfl ?_
    exact k_fin rfl rfl (lQ_ok hI f2 (fun z hz => (ty_out hI.1).2.2 z (tlh_fr hI.2.1 (by decide) (by decide) z hz)))
  · refine Or.inr ⟨e, e1, by decide, Or.inl ?_⟩
    rcases List.mem_singleton.mp e2 with rfl
    refine ⟨_, rfl, ?_⟩
    refine k_push 14 rfl rfl ?_
    exact k_fin rfl rfl (lQ_ex hI ho (tlh_fr hI.2.1 (by decide) (by decide)))
theorem l_run {h : am_h} {v1 v2 : Int32} (hT : ty_H h) (ho : oc h) : am_Mt 9 268 [.inr (.inr (some 1)), .inl v1, .inl v2, .inr (.inr (some 122))] h (lQ h (fun h' => ∀ T : List Int × List Int, tlh h T → tlh h' T)) := by
  refine am_Mt.of (D := 8) ?_
  refine k_aload 1 rfl rfl rfl ?_
  refine k_push 2 rfl rfl ?_
  refine k_aload 3 rfl rfl rfl ?_
  refine k_iload 4 rfl rfl rfl ?_
  refine k_iload 5 rfl rfl rfl ?_
  refine k_call0 rfl (c_X9_run hT ob_91) rfl rfl rfl (hT.rc ob_91 rfl) ?_
  rintro ⟨r1, h', c, s⟩ hr
  refine ⟨Or.inr ⟨lk_L2 hT, lk_ok hT⟩, ?_⟩
  rcases hr with ⟨v, e1, ⟨w, e2, x, e3⟩, hI⟩ | ⟨e, e1, e2, hI⟩
  · refine Or.inl ⟨v, e1, ?_⟩
    subst e2
    subst e3
    obtain ⟨xs, f1, f2⟩ := ho.fr hI.2.1
    show am_Ok _ _ _ (8, _, [.inl x, .inl 0, .inr (.inr (some 122))], h', 0 + c, 0 + s) _
    refine k_un _ 9 rfl rfl rfl ?_
    refine k_last 10 rfl f1 (by decide) (by rw [f2]; decide) rfl ?_
    refine k_goto 17 rfl rfl ?_
    refine k_push 18 rfl rfl ?_
    exact k_fin rfl rfl (lQ_ok hI f2 (fun z hz => (ty_out hI.1).2.2 z (tlh_fr hI.2.1 (by decide) (by decide) z hz)))
  · refine Or.inr ⟨e, e1, by decide, Or.inl ?_⟩
    rcases List.mem_singleton.mp e2 with rfl
    refine ⟨_, rfl, ?_⟩
    refine k_push 16 rfl rfl ?_
    exact k_fin rfl rfl (lQ_ex hI ho (tlh_fr hI.2.1 (by decide) (by decide)))
theorem l_count {h : am_h} {v1 : Int32} (hT : ty_H h) (ho : oc h) : am_Mt 9 269 [.inr (.inr (some 1)), .inl v1, .inr (.inr (some 122))] h (lQ h (fun h' => ∀ T : List Int × List Int, tlh h T → tlh h' T)) := by
  refine am_Mt.of (D := 8) ?_
  refine k_aload 1 rfl rfl rfl ?_
  refine k_push 2 rfl rfl ?_
  refine k_aload 3 rfl rfl rfl ?_
  refine k_iload 4 rfl rfl rfl ?_
  refine k_call0 rfl (c_X9_count hT ob_91) rfl rfl rfl (hT.rc ob_91 rfl) ?_
  rintro ⟨r1, h', c, s⟩ hr
  refine ⟨Or.inr ⟨lk_L1 hT, lk_ok hT⟩, ?_⟩
  rcases hr with ⟨v, e1, ⟨w, e2, x, e3⟩, hI⟩ | ⟨e, e1, e2, hI⟩
  · refine Or.inl ⟨v, e1, ?_⟩
    subst e2
    subst e3
    obtain ⟨xs, f1, f2⟩ := ho.fr hI.2.1
    show am_Ok _ _ _ (7, _, [.inl x, .inl 0, .inr (.inr (some 122))], h', 0 + c, 0 + s) _
    refine k_un _ 8 rfl rfl rfl ?_
    refine k_last 9 rfl f1 (by decide) (by rw [f2]; decide) rfl ?_
    refine k_goto 15 rfl rfl ?_
    refine k_push 16 rfl rfl ?_
    exact k_fin rfl rfl (lQ_ok hI f2 (fun z hz => (ty_out hI.1).2.2 z (tlh_fr hI.2.1 (by decide) (by decide) z hz)))
  · refine Or.inr ⟨e, e1, by decide, Or.inl ?_⟩
    rcases List.mem_singleton.mp e2 with rfl
    refine ⟨_, rfl, ?_⟩
    refine k_push 14 rfl rfl ?_
    exact k_fin rfl rfl (lQ_ex hI ho (tlh_fr hI.2.1 (by decide) (by decide)))
theorem l_node {h : am_h} {v1 v2 : Int32} (hT : ty_H h) (ho : oc h) : am_Mt 9 270 [.inr (.inr (some 1)), .inl v1, .inl v2, .inr (.inr (some 122))] h (lQ h (fun h' => ∀ T : List Int × List Int, tlh h T → tlh h' T)) := by
  refine am_Mt.of (D := 8) ?_
  refine k_aload 1 rfl rfl rfl ?_
  refine k_push 2 rfl rfl ?_
  refine k_aload 3 rfl rfl rfl ?_
  refine k_iload 4 rfl rfl rfl ?_
  refine k_iload 5 rfl rfl rfl ?_
  refine k_call0 rfl (c_X9_node hT ob_91) rfl rfl rfl (hT.rc ob_91 rfl) ?_
  rintro ⟨r1, h', c, s⟩ hr
  refine ⟨Or.inr ⟨lk_L2 hT, lk_ok hT⟩, ?_⟩
  rcases hr with ⟨v, e1, ⟨w, e2, x, e3⟩, hI⟩ | ⟨e, e1, e2, hI⟩
  · refine Or.inl ⟨v, e1, ?_⟩
    subst e2
    subst e3
    obtain ⟨xs, f1, f2⟩ := ho.fr hI.2.1
    show am_Ok _ _ _ (8, _, [.inl x, .inl 0, .inr (.inr (some 122))], h', 0 + c, 0 + s) _
    refine k_un _ 9 rfl rfl rfl ?_
    refine k_last 10 rfl f1 (by decide) (by rw [f2]; decide) rfl ?_
    refine k_goto 17 rfl rfl ?_
    refine k_push 18 rfl rfl ?_
    exact k_fin rfl rfl (lQ_ok hI f2 (fun z hz => (ty_out hI.1).2.2 z (tlh_fr hI.2.1 (by decide) (by decide) z hz)))
  · refine Or.inr ⟨e, e1, by decide, Or.inl ?_⟩
    rcases List.mem_singleton.mp e2 with rfl
    refine ⟨_, rfl, ?_⟩
    refine k_push 16 rfl rfl ?_
    exact k_fin rfl rfl (lQ_ex hI ho (tlh_fr hI.2.1 (by decide) (by decide)))
theorem l_active {h : am_h} {v1 v2 : Int32} (hT : ty_H h) (ho : oc h) : am_Mt 9 271 [.inr (.inr (some 1)), .inl v1, .inl v2, .inr (.inr (some 122))] h (lQ h (fun h' => ∀ T : List Int × List Int, tlh h T → tlh h' T)) := by
  refine am_Mt.of (D := 8) ?_
  refine k_aload 1 rfl rfl rfl ?_
  refine k_push 2 rfl rfl ?_
  refine k_aload 3 rfl rfl rfl ?_
  refine k_iload 4 rfl rfl rfl ?_
  refine k_iload 5 rfl rfl rfl ?_
  refine k_call0 rfl (c_X9_active hT ob_91) rfl rfl rfl (hT.rc ob_91 rfl) ?_
  rintro ⟨r1, h', c, s⟩ hr
  refine ⟨Or.inr ⟨lk_L2 hT, lk_ok hT⟩, ?_⟩
  rcases hr with ⟨v, e1, ⟨w, e2, x, e3⟩, hI⟩ | ⟨e, e1, e2, hI⟩
  · refine Or.inl ⟨v, e1, ?_⟩
    subst e2
    subst e3
    obtain ⟨xs, f1, f2⟩ := ho.fr hI.2.1
    show am_Ok _ _ _ (8, _, [.inl x, .inl 0, .inr (.inr (some 122))], h', 0 + c, 0 + s) _
    refine k_un _ 9 rfl rfl rfl ?_
    refine k_last 10 rfl f1 (by decide) (by rw [f2]; decide) rfl ?_
    refine k_goto 17 rfl rfl ?_
    refine k_push 18 rfl rfl ?_
    exact k_fin rfl rfl (lQ_ok hI f2 (fun z hz => (ty_out hI.1).2.2 z (tlh_fr hI.2.1 (by decide) (by decide) z hz)))
  · refine Or.inr ⟨e, e1, by decide, Or.inl ?_⟩
    rcases List.mem_singleton.mp e2 with rfl
    refine ⟨_, rfl, ?_⟩
    refine k_push 16 rfl rfl ?_
    exact k_fin rfl rfl (lQ_ex hI ho (tlh_fr hI.2.1 (by decide) (by decide)))
theorem l_wanted {h : am_h} {v1 : Int32} (hT : ty_H h) (ho : oc h) : am_Mt 9 272 [.inr (.inr (some 1)), .inl v1, .inr (.inr (some 122))] h (lQ h (fun h' => ∀ T : List Int × List Int, tlh h T → tlh h' T)) := by
  refine am_Mt.of (D := 8) ?_
  refine k_aload 1 rfl rfl rfl ?_
  refine k_push 2 rfl rfl ?_
  refine k_aload 3 rfl rfl rfl ?_
  refine k_iload 4 rfl rfl rfl ?_
  refine k_call0 rfl (c_X9_wanted hT ob_91) rfl rfl rfl (hT.rc ob_91 rfl) ?_
  rintro ⟨r1, h', c, s⟩ hr
  refine ⟨Or.inr ⟨lk_L1 hT, lk_ok hT⟩, ?_⟩
  rcases hr with ⟨v, e1, ⟨w, e2, x, e3⟩, hI⟩ | ⟨e, e1, e2, hI⟩
  · refine Or.inl ⟨v, e1, ?_⟩
    subst e2
    subst e3
    obtain ⟨xs, f1, f2⟩ := ho.fr hI.2.1
    show am_Ok _ _ _ (7, _, [.inl x, .inl 0, .inr (.inr (some 122))], h', 0 + c, 0 + s) _
    refine k_un _ 8 rfl rfl rfl ?_
    refine k_last 9 rfl f1 (by decide) (by rw [f2]; decide) rfl ?_
    refine k_goto 15 rfl rfl ?_
    refine k_push 16 rfl rfl ?_
    exact k_fin rfl rfl (lQ_ok hI f2 (fun z hz => (ty_out hI.1).2.2 z (tlh_fr hI.2.1 (by decide) (by decide) z hz)))
  · refine Or.inr ⟨e, e1, by decide, Or.inl ?_⟩
    rcases List.mem_singleton.mp e2 with rfl
    refine ⟨_, rfl, ?_⟩
    refine k_push 14 rfl rfl ?_
    exact k_fin rfl rfl (lQ_ex hI ho (tlh_fr hI.2.1 (by decide) (by decide)))
theorem l_part {h : am_h} {v1 v2 : Int32} (hT : ty_H h) (ho : oc h) : am_Mt 9 273 [.inr (.inr (some 1)), .inl v1, .inl v2, .inr (.inr (some 122))] h (lQ h (fun h' => ∀ T : List Int × List Int, tlh h T → tlh h' T)) := by
  refine am_Mt.of (D := 8) ?_
  refine k_aload 1 rfl rfl rfl ?_
  refine k_push 2 rfl rfl ?_
  refine k_aload 3 rfl rfl rfl ?_
  refine k_iload 4 rfl rfl rfl ?_
  refine k_iload 5 rfl rfl rfl ?_
  refine k_call0 rfl (c_X9_part hT ob_91) rfl rfl rfl (hT.rc ob_91 rfl) ?_
  rintro ⟨r1, h', c, s⟩ hr
  refine ⟨Or.inr ⟨lk_L2 hT, lk_ok hT⟩, ?_⟩
  rcases hr with ⟨v, e1, ⟨w, e2, x, e3⟩, hI⟩ | ⟨e, e1, e2, hI⟩
  · refine Or.inl ⟨v, e1, ?_⟩
    subst e2
    subst e3
    obtain ⟨xs, f1, f2⟩ := ho.fr hI.2.1
    show am_Ok _ _ _ (8, _, [.inl x, .inl 0, .inr (.inr (some 122))], h', 0 + c, 0 + s) _
    refine k_un _ 9 rfl rfl rfl ?_
    refine k_last 10 rfl f1 (by decide) (by rw [f2]; decide) rfl ?_
    refine k_goto 17 rfl rfl ?_
    refine k_push 18 rfl rfl ?_
    exact k_fin rfl rfl (lQ_ok hI f2 (fun z hz => (ty_out hI.1).2.2 z (tlh_fr hI.2.1 (by decide) (by decide) z hz)))
  · refine Or.inr ⟨e, e1, by decide, Or.inl ?_⟩
    rcases List.mem_singleton.mp e2 with rfl
    refine ⟨_, rfl, ?_⟩
    refine k_push 16 rfl rfl ?_
    exact k_fin rfl rfl (lQ_ex hI ho (tlh_fr hI.2.1 (by decide) (by decide)))
theorem l_say {h : am_h} {v1 : Int32} (hT : ty_H h) (ho : oc h) : am_Mt 9 274 [.inr (.inr (some 1)), .inl v1, .inr (.inr (some 122))] h (lQ h (fun h' => ∀ T : List Int × List Int, tlh h T → tlh h' T)) := by
  refine am_Mt.of (D := 8) ?_
  refine k_aload 1 rfl rfl rfl ?_
  refine k_push 2 rfl rfl ?_
  refine k_aload 3 rfl rfl rfl ?_
  refine k_iload 4 rfl rfl rfl ?_
  refine k_call0 rfl (c_X9_say hT ob_91) rfl rfl rfl (hT.rc ob_91 rfl) ?_
  rintro ⟨r1, h', c, s⟩ hr
  refine ⟨Or.inr ⟨lk_L1 hT, lk_ok hT⟩, ?_⟩
  rcases hr with ⟨v, e1, ⟨w, e2, x, e3⟩, hI⟩ | ⟨e, e1, e2, hI⟩
  · refine Or.inl ⟨v, e1, ?_⟩
    subst e2
    subst e3
    obtain ⟨xs, f1, f2⟩ := ho.fr hI.2.1
    show am_Ok _ _ _ (7, _, [.inl x, .inl 0, .inr (.inr (some 122))], h', 0 + c, 0 + s) _
    refine k_un _ 8 rfl rfl rfl ?_
    refine k_last 9 rfl f1 (by decide) (by rw [f2]; decide) rfl ?_
    refine k_goto 15 rfl rfl ?_
    refine k_push 16 rfl rfl ?_
    exact k_fin rfl rfl (lQ_ok hI f2 (fun z hz => (ty_out hI.1).2.2 z (tlh_fr hI.2.1 (by decide) (by decide) z hz)))
  · refine Or.inr ⟨e, e1, by decide, Or.inl ?_⟩
    rcases List.mem_singleton.mp e2 with rfl
    refine ⟨_, rfl, ?_⟩
    refine k_push 14 rfl rfl ?_
    exact k_fin rfl rfl (lQ_ex hI ho (tlh_fr hI.2.1 (by decide) (by decide)))
theorem l_same {h : am_h} {v1 v2 : Int32} (hT : ty_H h) (ho : oc h) : am_Mt 9 275 [.inr (.inr (some 1)), .inl v1, .inl v2, .inr (.inr (some 122))] h (lQ h (fun h' => ∀ T : List Int × List Int, tlh h T → tlh h' T)) := by
  refine am_Mt.of (D := 8) ?_
  refine k_aload 1 rfl rfl rfl ?_
  refine k_push 2 rfl rfl ?_
  refine k_aload 3 rfl rfl rfl ?_
  refine k_iload 4 rfl rfl rfl ?_
  refine k_iload 5 rfl rfl rfl ?_
  refine k_call0 rfl (c_X9_same hT ob_91) rfl rfl rfl (hT.rc ob_91 rfl) ?_
  rintro ⟨r1, h', c, s⟩ hr
  refine ⟨Or.inr ⟨lk_L2 hT, lk_ok hT⟩, ?_⟩
  rcases hr with ⟨v, e1, ⟨w, e2, x, e3, e4⟩, hI⟩ | ⟨e, e1, e2, hI⟩
  · refine Or.inl ⟨v, e1, ?_⟩
    subst e2
    subst e3
    obtain ⟨xs, f1, f2⟩ := ho.fr hI.2.1
    show am_Ok _ _ _ (8, _, [.inl x, .inl 0, .inr (.inr (some 122))], h', 0 + c, 0 + s) _
    rcases e4 with rfl | rfl
    · refine k_c1 15 rfl rfl (if_pos rfl) ?_
      refine k_push 16 rfl rfl ?_
      refine k_last 17 rfl f1 (by decide) (by rw [f2]; decide) rfl ?_
      refine k_goto 28 rfl rfl ?_
      refine k_push 29 rfl rfl ?_
      exact k_fin rfl rfl (lQ_ok hI f2 (fun z hz => (ty_out hI.1).2.2 z (tlh_fr hI.2.1 (by decide) (by decide) z hz)))
    · refine k_c1 11 rfl rfl (if_neg (by decide)) ?_
      refine k_push 12 rfl rfl ?_
      refine k_goto 16 rfl rfl ?_
      refine k_last 17 rfl f1 (by decide) (by rw [f2]; decide) rfl ?_
      refine k_goto 28 rfl rfl ?_
      refine k_push 29 rfl rfl ?_
      exact k_fin rfl rfl (lQ_ok hI f2 (fun z hz => (ty_out hI.1).2.2 z (tlh_fr hI.2.1 (by decide) (by decide) z hz)))
  · refine Or.inr ⟨e, e1, by decide, Or.inl ?_⟩
    rcases List.mem_cons.mp e2 with rfl | e2
    · refine ⟨_, rfl, ?_⟩
      refine k_push 23 rfl rfl ?_
      exact k_fin rfl rfl (lQ_ex hI ho (tlh_fr hI.2.1 (by decide) (by decide)))
    · rcases List.mem_singleton.mp e2 with rfl
      refine ⟨_, rfl, ?_⟩
      refine k_push 27 rfl rfl ?_
      exact k_fin rfl rfl (lQ_ex hI ho (tlh_fr hI.2.1 (by decide) (by decide)))
theorem l_redexes {h : am_h} {v1 : Int32} (hT : ty_H h) (ho : oc h) : am_Mt 9 277 [.inr (.inr (some 1)), .inl v1, .inr (.inr (some 122))] h (lQ h (fun h' => ∀ T : List Int × List Int, tlh h T → tlh h' T)) := by
  refine am_Mt.of (D := 8) ?_
  refine k_aload 1 rfl rfl rfl ?_
  refine k_push 2 rfl rfl ?_
  refine k_aload 3 rfl rfl rfl ?_
  refine k_iload 4 rfl rfl rfl ?_
  refine k_call0 rfl (c_X9_redexes hT ob_91) rfl rfl rfl (hT.rc ob_91 rfl) ?_
  rintro ⟨r1, h', c, s⟩ hr
  refine ⟨Or.inr ⟨lk_L1 hT, lk_ok hT⟩, ?_⟩
  rcases hr with ⟨v, e1, ⟨w, e2, x, e3⟩, hI⟩ | ⟨e, e1, e2, hI⟩
  · refine Or.inl ⟨v, e1, ?_⟩
    subst e2
    subst e3
    obtain ⟨xs, f1, f2⟩ := ho.fr hI.2.1
    show am_Ok _ _ _ (7, _, [.inl x, .inl 0, .inr (.inr (some 122))], h', 0 + c, 0 + s) _
    refine k_un _ 8 rfl rfl rfl ?_
    refine k_last 9 rfl f1 (by decide) (by rw [f2]; decide) rfl ?_
    refine k_goto 18 rfl rfl ?_
    refine k_push 19 rfl rfl ?_
    exact k_fin rfl rfl (lQ_ok hI f2 (fun z hz => (ty_out hI.1).2.2 z (tlh_fr hI.2.1 (by decide) (by decide) z hz)))
  · refine Or.inr ⟨e, e1, by decide, Or.inl ?_⟩
    rcases List.mem_cons.mp e2 with rfl | e2
    · refine ⟨_, rfl, ?_⟩
      refine k_push 14 rfl rfl ?_
      exact k_fin rfl rfl (lQ_ex hI ho (tlh_fr hI.2.1 (by decide) (by decide)))
    · rcases List.mem_singleton.mp e2 with rfl
      refine ⟨_, rfl, ?_⟩
      refine k_push 17 rfl rfl ?_
      exact k_fin rfl rfl (lQ_ex hI ho (tlh_fr hI.2.1 (by decide) (by decide)))
theorem l_trial {h : am_h} {v1 v2 : Int32} (hT : ty_H h) (ho : oc h) : am_Mt 9 278 [.inr (.inr (some 1)), .inl v1, .inl v2, .inr (.inr (some 122))] h (lQ h (fun h' => ∀ T : List Int × List Int, tlh h T → tlh h' T)) := by
  refine am_Mt.of (D := 8) ?_
  refine k_aload 1 rfl rfl rfl ?_
  refine k_push 2 rfl rfl ?_
  refine k_aload 3 rfl rfl rfl ?_
  refine k_iload 4 rfl rfl rfl ?_
  refine k_iload 5 rfl rfl rfl ?_
  refine k_call0 rfl (c_X9_trial hT ob_91) rfl rfl rfl (hT.rc ob_91 rfl) ?_
  rintro ⟨r1, h', c, s⟩ hr
  refine ⟨Or.inr ⟨lk_L2 hT, lk_ok hT⟩, ?_⟩
  rcases hr with ⟨v, e1, ⟨w, e2, x, e3⟩, hI⟩ | ⟨e, e1, e2, hI⟩
  · refine Or.inl ⟨v, e1, ?_⟩
    subst e2
    subst e3
    obtain ⟨xs, f1, f2⟩ := ho.fr hI.2.1
    show am_Ok _ _ _ (8, _, [.inl x, .inl 0, .inr (.inr (some 122))], h', 0 + c, 0 + s) _
    refine k_un _ 9 rfl rfl rfl ?_
    refine k_last 10 rfl f1 (by decide) (by rw [f2]; decide) rfl ?_
    refine k_goto 21 rfl rfl ?_
    refine k_push 22 rfl rfl ?_
    exact k_fin rfl rfl (lQ_ok hI f2 (fun z hz => (ty_out hI.1).2.2 z (tlh_fr hI.2.1 (by decide) (by decide) z hz)))
  · refine Or.inr ⟨e, e1, by decide, Or.inl ?_⟩
    rcases List.mem_cons.mp e2 with rfl | e2
    · refine ⟨_, rfl, ?_⟩
      refine k_push 16 rfl rfl ?_
      exact k_fin rfl rfl (lQ_ex hI ho (tlh_fr hI.2.1 (by decide) (by decide)))
    · rcases List.mem_singleton.mp e2 with rfl
      refine ⟨_, rfl, ?_⟩
      refine k_push 20 rfl rfl ?_
      exact k_fin rfl rfl (lQ_ex hI ho (tlh_fr hI.2.1 (by decide) (by decide)))

/-! tell, with its answer -/
def CTx (T L : List Int) (x : Int) (L' : List Int) : Prop := (∃ f : Int, CTQ T x f L') ∧ imp (x ≠ 0) (L' = L)
section TE9
variable {h : am_h} {v1 : Int32} {T : List Int × List Int}
theorem n_tell (hT : ty_H h) (t : tlh h T) (hv : 0 ≤ v1.toInt ∧ v1.toInt ≤ (T.1.length : Int)) : am_Mt 8 131 [.inr (.inr (some 1)), .inl v1] h (xQ h (fun x F' A' => CTx (T.1.take v1.toInt.toNat) T.2 x (A' 46) ∧ A' 2 = [] ∧ ((F' 3202 = 37 ∧ F' 3203 = 39) ∨ (F' 3202 = 39 ∧ F' 3203 = 37)))) := by
  have hR := t.xR hT
  have hl := t.len hT
  have hq := pq_F hR t.2.2.2
  obtain ⟨t1, t2, t3, t4⟩ := t
  have ha := net_of (k := 10) hT ⟨t1, t2, t3, t4⟩ rfl rfl
  have hb := net_of (k := 11) hT ⟨t1, t2, t3, t4⟩ rfl rfl
  rw [← t2] at hv hl ⊢
  rw [← t3]
  have hgo : ∀ {Q : Int → rf_f → xl_A → Prop}, (∀ x F' A', Q x F' A' → (∃ f : Int, CTQ ((ob_l h 2).take v1.toInt.toNat) x f (A' 46)) ∧ A' 2 = [] ∧ imp (x ≠ 0) (A' 46 = ob_l h 46) ∧ (F' 3202 = xl_f h 3202 ∧ F' 3203 = xl_f h 3203)) → am_Mt 8 131 [.inr (.inr (some 1)), .inl v1] h (xQ h Q) → am_Mt 8 131 [.inr (.inr (some 1)), .inl v1] h (xQ h (fun x F' A' => CTx ((ob_l h 2).take v1.toInt.toNat) (ob_l h 46) x (A' 46) ∧ A' 2 = [] ∧ ((F' 3202 = 37 ∧ F' 3203 = 39) ∨ (F' 3202 = 39 ∧ F' 3203 = 37)))) := fun hq9 hm => by
    refine am_Mt.imp hm ?_
    rintro r ⟨x, h', c, s, F', A', e, hI, hq1⟩
    obtain ⟨q1, q2, q3, q4, q5⟩ := hq9 _ _ _ hq1
    exact ⟨x, h', c, s, F', A', e, hI, ⟨q1, q3⟩, q2, by rw [q4, q5]; exact hq⟩
  rcases ha with ha | ha
  · rcases hb with hb | hb
    · exact hgo (fun x F' A' q => ⟨⟨_, q.1⟩, q.2.1, q.2.2.1, q.2.2.2⟩) (n_X9_tell_56_56 rfl hv hl ha hb hR)
    · exact hgo (fun x F' A' q => ⟨⟨_, q.1⟩, q.2.1, q.2.2.1, q.2.2.2⟩) (n_X9_tell_56_65 rfl hv hl ha hb hR)
  · rcases hb with hb | hb
    · exact hgo (fun x F' A' q => ⟨⟨_, q.1⟩, q.2.1, q.2.2.1, q.2.2.2⟩) (n_X9_tell_65_56 rfl hv hl ha hb hR)
    · exact hgo (fun x F' A' q => ⟨⟨_, q.1⟩, q.2.1, q.2.2.1, q.2.2.2⟩) (n_X9_tell_65_65 rfl hv hl ha hb hR)
theorem n_tellx (hT : ty_H h) (t : tlh h T) (hv : v1.toInt < 0 ∨ (T.1.length : Int) < v1.toInt) : am_Mt 2 131 [.inr (.inr (some 1)), .inl v1] h (fun r => ∃ (h' : am_h) (c s : Nat), r = (.inr 0, h', c + 1, s + 6) ∧ xI h (ob_P h) h' c s (xl_f h) (ob_l h)) := by
  have hR := t.xR hT
  obtain ⟨t1, t2, t3, t4⟩ := t
  rw [← t2] at hv
  refine am_Mt.of (D := 1) ?_
  have hI : xI h (ob_P h) h 0 0 (xl_f h) (ob_l h) := xI.start hR
  have hL : am_okL h.length (am_args 0 [.inr (.inr (some 1)), .inl v1]) = true := okA_r hI.T ob_91 (okA_i okA_n)
  refine k_iload 1 rfl rfl rfl ?_
  by_cases b1 : v1 < 0
  · refine k_c1 15 rfl rfl (if_pos b1) ?_
    exact k_fin rfl rfl ⟨_, _, _, rfl, hI⟩
  · refine k_c1 4 rfl rfl (if_neg b1) ?_
    have b1 := mt iv_lt0.mpr b1
    refine k_iload 5 rfl rfl rfl ?_
    refine k_aload 6 rfl rfl rfl ?_
    refine x_gF 2 hI 9 rfl rfl (by decide) rfl ?_
    refine k_xq hI rfl (xv_size hI.1 or2) rfl rfl rfl (ty_H.rc3 hI.T or2) hL (so_i so_n) ?_
    rintro x1 h2 c3 s4 F5 A6 I7 L8 ⟨e9, k10, k11⟩
    replace k10 := k10.symm
    subst k10
    replace k11 := k11.symm
    subst k11
    show am_Ok _ _ _ (12, _, [.inl x1, .inl v1], _, c3, s4) _
    refine k_c2 15 rfl rfl (if_neg (fun z => by rw [iv_le, e9] at z; omega)) ?_
    exact k_fin rfl rfl ⟨_, _, _, rfl, I7⟩
/-- the row for an answer holds one -/
def ou (h : am_h) (x : Int) : Prop := ∃ (e : Nat × Int64 × List Int64) (w : Int32), h[122]? = some (.inl (.inr (.inl e))) ∧ e.1 = 1 ∧ w.toInt = x ∧ e.2.2.getD 0 e.2.1 = w.toInt64
def lQ2 (h : am_h) (P : Int32 → am_h → Prop) : am_r → Prop := fun r => ∃ y : Int32, r.1 = .inl (some (.inl y)) ∧ ty_H r.2.1 ∧ h.length ≤ r.2.1.length ∧ (∀ a : Nat, (a = 0 ∨ (81 ≤ a ∧ a ≤ 121)) → r.2.1[a]? = h[a]?) ∧ oc r.2.1 ∧ (r.2.2.1 + ob_P r.2.1 ≤ ob_P h + 6 ∧ r.2.2.2 + ob_P r.2.1 ≤ ob_P h + 6) ∧ P y r.2.1
theorem up_0 {x d : Int64} {l : List Int64} : (am_up d l 0 x).getD 0 d = x := by
  rw [am_up_get, if_pos rfl]
theorem l_tell (hT : ty_H h) (ho : oc h) (t : tlh h T) : am_Mt 9 266 [.inr (.inr (some 1)), .inl v1, .inr (.inr (some 122))] h (lQ2 h (fun y h' => (0 ≤ v1.toInt ∧ v1.toInt ≤ (T.1.length : Int) ∧ y = 0 ∧ ∃ (L' : List Int) (x : Int), tlh h' ([], L') ∧ CTx (T.1.take v1.toInt.toNat) T.2 x L') ∨ ((v1.toInt < 0 ∨ (T.1.length : Int) < v1.toInt) ∧ y = 1 ∧ tlh h' T))) := by
  refine am_Mt.of (D := 8) ?_
  refine k_aload 1 rfl rfl rfl ?_
  refine k_push 2 rfl rfl ?_
  refine k_aload 3 rfl rfl rfl ?_
  refine k_iload 4 rfl rfl rfl ?_
  by_cases hv : 0 ≤ v1.toInt ∧ v1.toInt ≤ (T.1.length : Int)
  · refine k_call0 rfl (n_tell hT t hv) rfl rfl rfl (hT.rc ob_91 rfl) ?_
    rintro r ⟨x, h', c, s, F', A', rfl, hI, q1, q2, q3⟩
    refine ⟨Or.inr ⟨lk_L1 hT, lk_ok hT⟩, Or.inl ⟨_, rfl, ?_⟩⟩
    show am_Ok _ _ _ (7, _, [.inl x, .inl 0, .inr (.inr (some 122))], h', 0 + c, 0 + s) _
    obtain ⟨xs, f1, f2⟩ := ho
    have f3 : h'[122]? = some (.inl (.inr (.inl xs))) := by rw [hI.2.1.2 122 (Or.inr ⟨by omega, by omega⟩)]; exact f1
    refine k_un _ 8 rfl rfl rfl ?_
    refine k_last 9 rfl f3 (by decide) (by rw [f2]; decide) rfl ?_
    refine k_goto 15 rfl rfl ?_
    refine k_push 16 rfl rfl ?_
    have hT' : ty_H h' := hI.1.1
    have h123 := hT'.2.1
    refine k_fin rfl rfl ?_
    obtain ⟨e, he⟩ : ∃ e : Nat × Int64 × List Int64, e = (xs.1, xs.2.1, am_up xs.2.1 xs.2.2 (0 : Int32).toNatClampNeg x.toInt64) := ⟨_, rfl⟩
    rw [← he]
    obtain ⟨t1, t2, t3⟩ := ty_out (e := e) hT'
    have hs : (h'.set 122 (.inl (.inr (.inl e))))[122]? = some (.inl (.inr (.inl e))) := List.getElem?_set_self (by omega)
    have he1 : e.1 = 1 := by rw [he]; exact f2
    refine ⟨0, rfl, t1, by show h.length ≤ (h'.set 122 (.inl (.inr (.inl e)))).length; rw [List.length_set]; exact hI.2.1.1, fun a ha => ?_, ⟨e, hs, he1⟩, ?_, Or.inl ⟨hv.1, hv.2, rfl, A' 46, x.toInt, t3 _ (by have h9 := hI.1.tlh (F_pq hI.1 q3); rw [q2] at h9; exact h9), q1⟩⟩
    · show (h'.set 122 (.inl (.inr (.inl e))))[a]? = _
      rw [List.getElem?_set_ne (by omega)]
      exact hI.2.1.2 a (by omega)
    · show 0 + c + ob_P (h'.set 122 (.inl (.inr (.inl e)))) ≤ _ ∧ 0 + s + ob_P (h'.set 122 (.inl (.inr (.inl e)))) ≤ _
      rw [t2]
      have a := hI.2.2.1
      have b := hI.2.2.2
      omega
  · refine k_call0 rfl (n_tellx hT t (by omega)) rfl rfl rfl (hT.rc ob_91 rfl) ?_
    rintro r ⟨h', c, s, rfl, hI⟩
    refine ⟨Or.inr ⟨lk_L1 hT, lk_ok hT⟩, Or.inr ⟨0, rfl, by decide, Or.inl ?_⟩⟩
    refine ⟨_, rfl, ?_⟩
    refine k_push 14 rfl rfl ?_
    refine k_fin rfl rfl ⟨1, rfl, hI.1.1, hI.2.1.1, fun a ha => hI.2.1.2 a (by omega), ?_, ?_, Or.inr ⟨by omega, rfl, ?_⟩⟩
    · obtain ⟨xs, f1, f2⟩ := ho
      exact ⟨xs, by show h'[122]? = _; rw [hI.2.1.2 122 (Or.inr ⟨by omega, by omega⟩)]; exact f1, f2⟩
    · have a := hI.2.2.1
      have b := hI.2.2.2
      show 0 + (c + 1) + ob_P h' ≤ _ ∧ 0 + (s + 6) + ob_P h' ≤ _
      omega
    · have h9 := hI.1.tlh (F_pq hI.1 (pq_F (t.xR hT) t.2.2.2))
      rw [t.2.1, t.2.2.1] at h9
      exact h9
/-! plain, with its answer -/
theorem n_plain (hT : ty_H h) (t : tlh h T) (pL : T.2.length ≤ 120) (pw : wL T.2) (pc9 : ∀ x, x ∈ T.2 → 0 ≤ x ∧ x ≤ 200) (hv : 0 ≤ v1.toInt ∧ v1.toInt ≤ 200) : am_Mt 7 144 [.inr (.inr (some 1)), .inl v1] h (xQ h (fun x F' A' => PLx T.2 v1.toInt x ∧ ((F' 3202 = 37 ∧ F' 3203 = 39) ∨ (F' 3202 = 39 ∧ F' 3203 = 37)) ∧ A' 2 = T.1 ∧ A' 46 = T.2)) := by
  have hR := t.xR hT
  have hq := pq_F hR t.2.2.2
  obtain ⟨t1, t2, t3, t4⟩ := t
  rw [← t3] at pL pw pc9 ⊢
  rw [← t2]
  rcases hq with ⟨a, b⟩ | ⟨a, b⟩
  · exact n_X9_plain_37 rfl a b pL pw pc9 hv hR
  · exact n_X9_plain_39 rfl a b pL pw pc9 hv hR
theorem l_plain (hT : ty_H h) (ho : oc h) (t : tlh h T) (pL : T.2.length ≤ 120) (pw : wL T.2) (pc9 : ∀ x, x ∈ T.2 → 0 ≤ x ∧ x ≤ 200) : am_Mt 9 276 [.inr (.inr (some 1)), .inl v1, .inr (.inr (some 122))] h (lQ2 h (fun y h' => (0 ≤ v1.toInt ∧ v1.toInt ≤ 200 ∧ y = 0 ∧ tlh h' T ∧ ∃ x : Int, PLx T.2 v1.toInt x ∧ ou h' x) ∨ ((v1.toInt < 0 ∨ 200 < v1.toInt) ∧ y = 1 ∧ tlh h' T))) := by
  refine am_Mt.of (D := 8) ?_
  refine k_aload 1 rfl rfl rfl ?_
  refine k_push 2 rfl rfl ?_
  refine k_aload 3 rfl rfl rfl ?_
  refine k_iload 4 rfl rfl rfl ?_
  by_cases hv : 0 ≤ v1.toInt ∧ v1.toInt ≤ 200
  · refine k_call0 rfl (n_plain hT t pL pw pc9 hv) rfl rfl rfl (hT.rc ob_91 rfl) ?_
    rintro r ⟨x, h', c, s, F', A', rfl, hI, q1, q2, q3, q4⟩
    refine ⟨Or.inr ⟨lk_L1 hT, lk_ok hT⟩, Or.inl ⟨_, rfl, ?_⟩⟩
    show am_Ok _ _ _ (7, _, [.inl x, .inl 0, .inr (.inr (some 122))], h', 0 + c, 0 + s) _
    obtain ⟨xs, f1, f2⟩ := ho
    have f3 : h'[122]? = some (.inl (.inr (.inl xs))) := by rw [hI.2.1.2 122 (Or.inr ⟨by omega, by omega⟩)]; exact f1
    refine k_un _ 8 rfl rfl rfl ?_
    refine k_last 9 rfl f3 (by decide) (by rw [f2]; decide) rfl ?_
    refine k_goto 15 rfl rfl ?_
    refine k_push 16 rfl rfl ?_
    have hT' : ty_H h' := hI.1.1
    have h123 := hT'.2.1
    refine k_fin rfl rfl ?_
    obtain ⟨e, he⟩ : ∃ e : Nat × Int64 × List Int64, e = (xs.1, xs.2.1, am_up xs.2.1 xs.2.2 (0 : Int32).toNatClampNeg x.toInt64) := ⟨_, rfl⟩
    rw [← he]
    obtain ⟨t1, t2, t3⟩ := ty_out (e := e) hT'
    have hs : (h'.set 122 (.inl (.inr (.inl e))))[122]? = some (.inl (.inr (.inl e))) := List.getElem?_set_self (by omega)
    have he1 : e.1 = 1 := by rw [he]; exact f2
    refine ⟨0, rfl, t1, by show h.length ≤ (h'.set 122 (.inl (.inr (.inl e)))).length; rw [List.length_set]; exact hI.2.1.1, fun a ha => ?_, ⟨e, hs, he1⟩, ?_, Or.inl ⟨hv.1, hv.2, rfl, t3 _ (by have h9 := hI.1.tlh (F_pq hI.1 q2); rw [q3, q4] at h9; exact h9), x.toInt, q1, e, x, hs, he1, rfl, ?_⟩⟩
    · show (h'.set 122 (.inl (.inr (.inl e))))[a]? = _
      rw [List.getElem?_set_ne (by omega)]
      exact hI.2.1.2 a (by omega)
    · show 0 + c + ob_P (h'.set 122 (.inl (.inr (.inl e)))) ≤ _ ∧ 0 + s + ob_P (h'.set 122 (.inl (.inr (.inl e)))) ≤ _
      rw [t2]
      have a := hI.2.2.1
      have b := hI.2.2.2
      omega
    · rw [he]
      exact up_0
  · refine k_call0 rfl (n_X9_plainx (by omega) (t.xR hT)) rfl rfl rfl (hT.rc ob_91 rfl) ?_
    rintro r ⟨h', c, s, rfl, hI⟩
    refine ⟨Or.inr ⟨lk_L1 hT, lk_ok hT⟩, Or.inr ⟨0, rfl, by decide, Or.inl ?_⟩⟩
    refine ⟨_, rfl, ?_⟩
    refine k_push 14 rfl rfl ?_
    refine k_fin rfl rfl ⟨1, rfl, hI.1.1, hI.2.1.1, fun a ha => hI.2.1.2 a (by omega), ?_, ?_, Or.inr ⟨by omega, rfl, ?_⟩⟩
    · obtain ⟨xs, f1, f2⟩ := ho
      exact ⟨xs, by show h'[122]? = _; rw [hI.2.1.2 122 (Or.inr ⟨by omega, by omega⟩)]; exact f1, f2⟩
    · have a := hI.2.2.1
      have b := hI.2.2.2
      show 0 + (c + 1) + ob_P h' ≤ _ ∧ 0 + (s + 6) + ob_P h' ≤ _
      omega
    · have h9 := hI.1.tlh (F_pq hI.1 (pq_F (t.xR hT) t.2.2.2))
      rw [t.2.1, t.2.2.1] at h9
      exact h9
end TE9
