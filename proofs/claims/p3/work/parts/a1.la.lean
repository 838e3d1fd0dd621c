/-! THE LAW'S HELPERS: a call of the class, its answer laid by -/
section LA
variable {h h' : am_h} {W : List (Nat × Nat)} {c s : Nat} {P : am_h → Prop} {y : Int32}
theorem oc.fr (ho : oc h) (hF : ob_Fr W h h') : ∃ xs : Nat × Int64 × List Int64, h'[122]? = some (.inl (.inr (.inl xs))) ∧ xs.1 = 1 := by
  obtain ⟨xs, e1, e2⟩ := ho
  exact ⟨xs, by rw [hF.2.1 122 (Or.inr ⟨by omega, by omega⟩)]; exact e1, e2⟩
theorem lQ_ok {e : Nat × Int64 × List Int64} (hI : ob_I W (ob_P h) h h' c s) (he : e.1 = 1) (hP : P (h'.set 122 (.inl (.inr (.inl e))))) : lQ h P (.inl (some (.inl y)), h'.set 122 (.inl (.inr (.inl e))), 0 + c, 0 + s) := by
  obtain ⟨t1, t2, -⟩ := ty_out (e := e) hI.1
  refine ⟨y, rfl, t1, by show h.length ≤ (h'.set 122 (.inl (.inr (.inl e)))).length; rw [List.length_set]; exact hI.2.1.1, fun a ha => ?_, ⟨e, List.getElem?_set_self (by have := hI.1.2.1; omega), he⟩, ?_, hP⟩
  · show (h'.set 122 (.inl (.inr (.inl e))))[a]? = _
    rw [List.getElem?_set_ne (by omega)]
    exact hI.2.1.2.1 a (by omega)
  · show 0 + c + ob_P (h'.set 122 (.inl (.inr (.inl e)))) ≤ _ ∧ 0 + s + ob_P (h'.set 122 (.inl (.inr (.inl e)))) ≤ _
    rw [t2]
    have a := hI.2.2.1
    have b := hI.2.2.2
    omega
theorem lQ_ex (hI : ob_I W (ob_P h + 6) h h' c s) (ho : oc h) (hP : P h') : lQ h P (.inl (some (.inl y)), h', 0 + c, 0 + s) := by
  obtain ⟨xs, f1, f2⟩ := ho.fr hI.2.1
  refine ⟨y, rfl, hI.1, hI.2.1.1, fun a ha => hI.2.1.2.1 a (by omega), ⟨xs, f1, f2⟩, ?_, hP⟩
  show 0 + c + ob_P h' ≤ _ ∧ 0 + s + ob_P h' ≤ _
  have a := hI.2.2.1
  have b := hI.2.2.2
  omega
end LA

theorem l_tell {h : am_h} {v1 z : Int32} (hT : ty_H h) (ho : oc h) (t : tp h z) (hz : 0 ≤ z.toInt ∧ z.toInt ≤ 700) : am_Mt 9 266 [.inr (.inr (some 1)), .inl v1, .inr (.inr (some 122))] h (lQ h (fun h' => ((v1.toInt < 0 ∨ z.toInt < v1.toInt) ∧ tp h' z) ∨ (0 ≤ v1.toInt ∧ v1.toInt ≤ z.toInt ∧ tp h' 0))) := by
  refine am_Mt.of (D := 8) ?_
  refine k_aload 1 rfl rfl rfl ?_
  refine k_push 2 rfl rfl ?_
  refine k_aload 3 rfl rfl rfl ?_
  refine k_iload 4 rfl rfl rfl ?_
  refine k_call0 rfl (c_X9_tell hT ob_91 t hz) rfl rfl rfl (hT.rc ob_91 rfl) ?_
  rintro ⟨r1, h', c, s⟩ ⟨hr, ht⟩
  refine ⟨Or.inr ⟨lk_L1 hT, lk_ok hT⟩, ?_⟩
  rcases hr with ⟨v, e1, ⟨w, e2, x, e3⟩, hI⟩ | ⟨e, e1, e2, hI⟩
  · refine Or.inl ⟨v, e1, ?_⟩
    subst e2
    subst e3
    obtain ⟨xs, f1, f2⟩ := ho.fr hI.2.1
    show am_Ok _ _ _ (7, _, [.inl x, .inl 0, .inr (.inr (some 122))], h', 0 + c, 0 + s) _
    refine k_un _ 8 rfl rfl rfl ?_
    refine k_last 9 rfl f1 (by decide) (by rw [f2]; decide) rfl ?_
    refine k_goto 15 rfl rfl ?_
    refine k_push 16 rfl rfl ?_
    exact k_fin rfl rfl (lQ_ok hI f2 (ht.imp (fun q => ⟨q.1, (ty_out hI.1).2.2 _ q.2⟩) (fun q => ⟨q.1, q.2.1, (ty_out hI.1).2.2 _ q.2.2⟩)))
  · refine Or.inr ⟨e, e1, by decide, Or.inl ?_⟩
    rcases List.mem_singleton.mp e2 with rfl
    refine ⟨_, rfl, ?_⟩
    refine k_push 14 rfl rfl ?_
    exact k_fin rfl rfl (lQ_ex hI ho ht)
theorem l_step {h : am_h} {v1 : Int32} (hT : ty_H h) (ho : oc h) : am_Mt 9 267 [.inr (.inr (some 1)), .inl v1, .inr (.inr (some 122))] h (lQ h (fun h' => ∀ z : Int32, tp h z → tp h' z)) := by
  refine am_Mt.of (D := 8) ?_
  refine k_aload 1 rfl rfl rfl ?_
  refine k_push 2 rfl rfl ?_
  refine k_aload 3 rfl rfl rfl ?_
  refine k_iload 4 rfl rfl rfl ?_
  refine k_call0 rfl (c_X9_step hT ob_91) rfl rfl rfl (hT.rc ob_91 rfl) ?_
  rintro ⟨r1, h', c, s⟩ hr
  refine ⟨Or.inr ⟨lk_L1 hT, lk_ok hT⟩, ?_⟩
  rcases hr with ⟨v, e1, ⟨w, e2, x, e3⟩, hI⟩ | ⟨e, e1, e2, hI⟩
  · refine Or.inl ⟨v, e1, ?_⟩
    subst e2
    subst e3
    obtain ⟨xs, f1, f2⟩ := ho.fr hI.2.1
    show am_Ok _ _ _ (7, _, [.inl x, .inl 0, .inr (.inr (some 122))], h', 0 + c, 0 + s) _
    refine k_un _ 8 rfl rfl rfl ?_
    refine k_last 9 rfl f1 (by decide) (by rw [f2]; decide) rfl ?_
    refine k_goto 15 rfl rfl ?_
    refine k_push 16 rfl rfl ?_
    exact k_fin rfl rfl (lQ_ok hI f2 (fun z hz => (ty_out hI.1).2.2 z (tp_fr hI.2.1 (by decide) (by decide) z hz)))
  · refine Or.inr ⟨e, e1, by decide, Or.inl ?_⟩
    rcases List.mem_singleton.mp e2 with rfl
    refine ⟨_, rfl, ?_⟩
    refine k_push 14 rfl rfl ?_
    exact k_fin rfl rfl (lQ_ex hI ho (tp_fr hI.2.1 (by decide) (by decide)))
theorem l_run {h : am_h} {v1 v2 : Int32} (hT : ty_H h) (ho : oc h) : am_Mt 9 268 [.inr (.inr (some 1)), .inl v1, .inl v2, .inr (.inr (some 122))] h (lQ h (fun h' => ∀ z : Int32, tp h z → tp h' z)) := by
  refine am_Mt.of (D := 8) ?_
  refine k_aload 1 rfl rfl rfl ?_
  refine k_push 2 rfl rfl ?_
  refine k_aload 3 rfl rfl rfl ?_
  refine k_iload 4 rfl rfl rfl ?_
  refine k_iload 5 rfl rfl rfl ?_
  refine k_call0 rfl (c_X9_run hT ob_91) rfl rfl rfl (hT.rc ob_91 rfl) ?_
  rintro ⟨r1, h', c, s⟩ hr
  refine ⟨Or.inr ⟨lk_L2 hT, lk_ok hT⟩, ?_⟩
  rcases hr with ⟨v, e1, ⟨w, e2, x, e3⟩, hI⟩ | ⟨e, e1, e2, hI⟩
  · refine Or.inl ⟨v, e1, ?_⟩
    subst e2
    subst e3
    obtain ⟨xs, f1, f2⟩ := ho.fr hI.2.1
    show am_Ok _ _ _ (8, _, [.inl x, .inl 0, .inr (.inr (some 122))], h', 0 + c, 0 + s) _
    refine k_un _ 9 rfl rfl rfl ?_
    refine k_last 10 rfl f1 (by decide) (by rw [f2]; decide) rfl ?_
    refine k_goto 17 rfl rfl ?_
    refine k_push 18 rfl rfl ?_
    exact k_fin rfl rfl (lQ_ok hI f2 (fun z hz => (ty_out hI.1).2.2 z (tp_fr hI.2.1 (by decide) (by decide) z hz)))
  · refine Or.inr ⟨e, e1, by decide, Or.inl ?_⟩
    rcases List.mem_singleton.mp e2 with rfl
    refine ⟨_, rfl, ?_⟩
    refine k_push 16 rfl rfl ?_
    exact k_fin rfl rfl (lQ_ex hI ho (tp_fr hI.2.1 (by decide) (by decide)))
theorem l_count {h : am_h} {v1 : Int32} (hT : ty_H h) (ho : oc h) : am_Mt 9 269 [.inr (.inr (some 1)), .inl v1, .inr (.inr (some 122))] h (lQ h (fun h' => ∀ z : Int32, tp h z → tp h' z)) := by
  refine am_Mt.of (D := 8) ?_
  refine k_aload 1 rfl rfl rfl ?_
  refine k_push 2 rfl rfl ?_
  refine k_aload 3 rfl rfl rfl ?_
  refine k_iload 4 rfl rfl rfl ?_
  refine k_call0 rfl (c_X9_count hT ob_91) rfl rfl rfl (hT.rc ob_91 rfl) ?_
  rintro ⟨r1, h', c, s⟩ hr
  refine ⟨Or.inr ⟨lk_L1 hT, lk_ok hT⟩, ?_⟩
  rcases hr with ⟨v, e1, ⟨w, e2, x, e3⟩, hI⟩ | ⟨e, e1, e2, hI⟩
  · refine Or.inl ⟨v, e1, ?_⟩
    subst e2
    subst e3
    obtain ⟨xs, f1, f2⟩ := ho.fr hI.2.1
    show am_Ok _ _ _ (7, _, [.inl x, .inl 0, .inr (.inr (some 122))], h', 0 + c, 0 + s) _
    refine k_un _ 8 rfl rfl rfl ?_
    refine k_last 9 rfl f1 (by decide) (by rw [f2]; decide) rfl ?_
    refine k_goto 15 rfl rfl ?_
    refine k_push 16 rfl rfl ?_
    exact k_fin rfl rfl (lQ_ok hI f2 (fun z hz => (ty_out hI.1).2.2 z (tp_fr hI.2.1 (by decide) (by decide) z hz)))
  · refine Or.inr ⟨e, e1, by decide, Or.inl ?_⟩
    rcases List.mem_singleton.mp e2 with rfl
    refine ⟨_, rfl, ?_⟩
    refine k_push 14 rfl rfl ?_
    exact k_fin rfl rfl (lQ_ex hI ho (tp_fr hI.2.1 (by decide) (by decide)))
theorem l_node {h : am_h} {v1 v2 : Int32} (hT : ty_H h) (ho : oc h) : am_Mt 9 270 [.inr (.inr (some 1)), .inl v1, .inl v2, .inr (.inr (some 122))] h (lQ h (fun h' => ∀ z : Int32, tp h z → tp h' z)) := by
  refine am_Mt.of (D := 8) ?_
  refine k_aload 1 rfl rfl rfl ?_
  refine k_push 2 rfl rfl ?_
  refine k_aload 3 rfl rfl rfl ?_
  refine k_iload 4 rfl rfl rfl ?_
  refine k_iload 5 rfl rfl rfl ?_
  refine k_call0 rfl (c_X9_node hT ob_91) rfl rfl rfl (hT.rc ob_91 rfl) ?_
  rintro ⟨r1, h', c, s⟩ hr
  refine ⟨Or.inr ⟨lk_L2 hT, lk_ok hT⟩, ?_⟩
  rcases hr with ⟨v, e1, ⟨w, e2, x, e3⟩, hI⟩ | ⟨e, e1, e2, hI⟩
  · refine Or.inl ⟨v, e1, ?_⟩
    subst e2
    subst e3
    obtain ⟨xs, f1, f2⟩ := ho.fr hI.2.1
    show am_Ok _ _ _ (8, _, [.inl x, .inl 0, .inr (.inr (some 122))], h', 0 + c, 0 + s) _
    refine k_un _ 9 rfl rfl rfl ?_
    refine k_last 10 rfl f1 (by decide) (by rw [f2]; decide) rfl ?_
    refine k_goto 17 rfl rfl ?_
    refine k_push 18 rfl rfl ?_
    exact k_fin rfl rfl (lQ_ok hI f2 (fun z hz => (ty_out hI.1).2.2 z (tp_fr hI.2.1 (by decide) (by decide) z hz)))
  · refine Or.inr ⟨e, e1, by decide, Or.inl ?_⟩
    rcases List.mem_singleton.mp e2 with rfl
    refine ⟨_, rfl, ?_⟩
    refine k_push 16 rfl rfl ?_
    exact k_fin rfl rfl (lQ_ex hI ho (tp_fr hI.2.1 (by decide) (by decide)))
theorem l_active {h : am_h} {v1 v2 : Int32} (hT : ty_H h) (ho : oc h) : am_Mt 9 271 [.inr (.inr (some 1)), .inl v1, .inl v2, .inr (.inr (some 122))] h (lQ h (fun h' => ∀ z : Int32, tp h z → tp h' z)) := by
  refine am_Mt.of (D := 8) ?_
  refine k_aload 1 rfl rfl rfl ?_
  refine k_push 2 rfl rfl ?_
  refine k_aload 3 rfl rfl rfl ?_
  refine k_iload 4 rfl rfl rfl ?_
  refine k_iload 5 rfl rfl rfl ?_
  refine k_call0 rfl (c_X9_active hT ob_91) rfl rfl rfl (hT.rc ob_91 rfl) ?_
  rintro ⟨r1, h', c, s⟩ hr
  refine ⟨Or.inr ⟨lk_L2 hT, lk_ok hT⟩, ?_⟩
  rcases hr with ⟨v, e1, ⟨w, e2, x, e3⟩, hI⟩ | ⟨e, e1, e2, hI⟩
  · refine Or.inl ⟨v, e1, ?_⟩
    subst e2
    subst e3
    obtain ⟨xs, f1, f2⟩ := ho.fr hI.2.1
    show am_Ok _ _ _ (8, _, [.inl x, .inl 0, .inr (.inr (some 122))], h', 0 + c, 0 + s) _
    refine k_un _ 9 rfl rfl rfl ?_
    refine k_last 10 rfl f1 (by decide) (by rw [f2]; decide) rfl ?_
    refine k_goto 17 rfl rfl ?_
    refine k_push 18 rfl rfl ?_
    exact k_fin rfl rfl (lQ_ok hI f2 (fun z hz => (ty_out hI.1).2.2 z (tp_fr hI.2.1 (by decide) (by decide) z hz)))
  · refine Or.inr ⟨e, e1, by decide, Or.inl ?_⟩
    rcases List.mem_singleton.mp e2 with rfl
    refine ⟨_, rfl, ?_⟩
    refine k_push 16 rfl rfl ?_
    exact k_fin rfl rfl (lQ_ex hI ho (tp_fr hI.2.1 (by decide) (by decide)))
theorem l_wanted {h : am_h} {v1 : Int32} (hT : ty_H h) (ho : oc h) : am_Mt 9 272 [.inr (.inr (some 1)), .inl v1, .inr (.inr (some 122))] h (lQ h (fun h' => ∀ z : Int32, tp h z → tp h' z)) := by
  refine am_Mt.of (D := 8) ?_
  refine k_aload 1 rfl rfl rfl ?_
  refine k_push 2 rfl rfl ?_
  refine k_aload 3 rfl rfl rfl ?_
  refine k_iload 4 rfl rfl rfl ?_
  refine k_call0 rfl (c_X9_wanted hT ob_91) rfl rfl rfl (hT.rc ob_91 rfl) ?_
  rintro ⟨r1, h', c, s⟩ hr
  refine ⟨Or.inr ⟨lk_L1 hT, lk_ok hT⟩, ?_⟩
  rcases hr with ⟨v, e1, ⟨w, e2, x, e3⟩, hI⟩ | ⟨e, e1, e2, hI⟩
  · refine Or.inl ⟨v, e1, ?_⟩
    subst e2
    subst e3
    obtain ⟨xs, f1, f2⟩ := ho.fr hI.2.1
    show am_Ok _ _ _ (7, _, [.inl x, .inl 0, .inr (.inr (some 122))], h', 0 + c, 0 + s) _
    refine k_un _ 8 rfl rfl rfl ?_
    refine k_last 9 rfl f1 (by decide) (by rw [f2]; decide) rfl ?_
    refine k_goto 15 rfl rfl ?_
    refine k_push 16 rfl rfl ?_
    exact k_fin rfl rfl (lQ_ok hI f2 (fun z hz => (ty_out hI.1).2.2 z (tp_fr hI.2.1 (by decide) (by decide) z hz)))
  · refine Or.inr ⟨e, e1, by decide, Or.inl ?_⟩
    rcases List.mem_singleton.mp e2 with rfl
    refine ⟨_, rfl, ?_⟩
    refine k_push 14 rfl rfl ?_
    exact k_fin rfl rfl (lQ_ex hI ho (tp_fr hI.2.1 (by decide) (by decide)))
theorem l_part {h : am_h} {v1 v2 : Int32} (hT : ty_H h) (ho : oc h) : am_Mt 9 273 [.inr (.inr (some 1)), .inl v1, .inl v2, .inr (.inr (some 122))] h (lQ h (fun h' => ∀ z : Int32, tp h z → tp h' z)) := by
  refine am_Mt.of (D := 8) ?_
  refine k_aload 1 rfl rfl rfl ?_
  refine k_push 2 rfl rfl ?_
  refine k_aload 3 rfl rfl rfl ?_
  refine k_iload 4 rfl rfl rfl ?_
  refine k_iload 5 rfl rfl rfl ?_
  refine k_call0 rfl (c_X9_part hT ob_91) rfl rfl rfl (hT.rc ob_91 rfl) ?_
  rintro ⟨r1, h', c, s⟩ hr
  refine ⟨Or.inr ⟨lk_L2 hT, lk_ok hT⟩, ?_⟩
  rcases hr with ⟨v, e1, ⟨w, e2, x, e3⟩, hI⟩ | ⟨e, e1, e2, hI⟩
  · refine Or.inl ⟨v, e1, ?_⟩
    subst e2
    subst e3
    obtain ⟨xs, f1, f2⟩ := ho.fr hI.2.1
    show am_Ok _ _ _ (8, _, [.inl x, .inl 0, .inr (.inr (some 122))], h', 0 + c, 0 + s) _
    refine k_un _ 9 rfl rfl rfl ?_
    refine k_last 10 rfl f1 (by decide) (by rw [f2]; decide) rfl ?_
    refine k_goto 17 rfl rfl ?_
    refine k_push 18 rfl rfl ?_
    exact k_fin rfl rfl (lQ_ok hI f2 (fun z hz => (ty_out hI.1).2.2 z (tp_fr hI.2.1 (by decide) (by decide) z hz)))
  · refine Or.inr ⟨e, e1, by decide, Or.inl ?_⟩
    rcases List.mem_singleton.mp e2 with rfl
    refine ⟨_, rfl, ?_⟩
    refine k_push 16 rfl rfl ?_
    exact k_fin rfl rfl (lQ_ex hI ho (tp_fr hI.2.1 (by decide) (by decide)))
theorem l_say {h : am_h} {v1 : Int32} (hT : ty_H h) (ho : oc h) : am_Mt 9 274 [.inr (.inr (some 1)), .inl v1, .inr (.inr (some 122))] h (lQ h (fun h' => ∀ z : Int32, tp h z → tp h' z)) := by
  refine am_Mt.of (D := 8) ?_
  refine k_aload 1 rfl rfl rfl ?_
  refine k_push 2 rfl rfl ?_
  refine k_aload 3 rfl rfl rfl ?_
  refine k_iload 4 rfl rfl rfl ?_
  refine k_call0 rfl (c_X9_say hT ob_91) rfl rfl rfl (hT.rc ob_91 rfl) ?_
  rintro ⟨r1, h', c, s⟩ hr
  refine ⟨Or.inr ⟨lk_L1 hT, lk_ok hT⟩, ?_⟩
  rcases hr with ⟨v, e1, ⟨w, e2, x, e3⟩, hI⟩ | ⟨e, e1, e2, hI⟩
  · refine Or.inl ⟨v, e1, ?_⟩
    subst e2
    subst e3
    obtain ⟨xs, f1, f2⟩ := ho.fr hI.2.1
    show am_Ok _ _ _ (7, _, [.inl x, .inl 0, .inr (.inr (some 122))], h', 0 + c, 0 + s) _
    refine k_un _ 8 rfl rfl rfl ?_
    refine k_last 9 rfl f1 (by decide) (by rw [f2]; decide) rfl ?_
    refine k_goto 15 rfl rfl ?_
    refine k_push 16 rfl rfl ?_
    exact k_fin rfl rfl (lQ_ok hI f2 (fun z hz => (ty_out hI.1).2.2 z (tp_fr hI.2.1 (by decide) (by decide) z hz)))
  · refine Or.inr ⟨e, e1, by decide, Or.inl ?_⟩
    rcases List.mem_singleton.mp e2 with rfl
    refine ⟨_, rfl, ?_⟩
    refine k_push 14 rfl rfl ?_
    exact k_fin rfl rfl (lQ_ex hI ho (tp_fr hI.2.1 (by decide) (by decide)))
theorem l_same {h : am_h} {v1 v2 : Int32} (hT : ty_H h) (ho : oc h) : am_Mt 9 275 [.inr (.inr (some 1)), .inl v1, .inl v2, .inr (.inr (some 122))] h (lQ h (fun h' => ∀ z : Int32, tp h z → tp h' z)) := by
  refine am_Mt.of (D := 8) ?_
  refine k_aload 1 rfl rfl rfl ?_
  refine k_push 2 rfl rfl ?_
  refine k_aload 3 rfl rfl rfl ?_
  refine k_iload 4 rfl rfl rfl ?_
  refine k_iload 5 rfl rfl rfl ?_
  refine k_call0 rfl (c_X9_same hT ob_91) rfl rfl rfl (hT.rc ob_91 rfl) ?_
  rintro ⟨r1, h', c, s⟩ hr
  refine ⟨Or.inr ⟨lk_L2 hT, lk_ok hT⟩, ?_⟩
  rcases hr with ⟨v, e1, ⟨w, e2, x, e3, e4⟩, hI⟩ | ⟨e, e1, e2, hI⟩
  · refine Or.inl ⟨v, e1, ?_⟩
    subst e2
    subst e3
    obtain ⟨xs, f1, f2⟩ := ho.fr hI.2.1
    show am_Ok _ _ _ (8, _, [.inl x, .inl 0, .inr (.inr (some 122))], h', 0 + c, 0 + s) _
    rcases e4 with rfl | rfl
    · refine k_c1 15 rfl rfl (if_pos rfl) ?_
      refine k_push 16 rfl rfl ?_
      refine k_last 17 rfl f1 (by decide) (by rw [f2]; decide) rfl ?_
      refine k_goto 28 rfl rfl ?_
      refine k_push 29 rfl rfl ?_
      exact k_fin rfl rfl (lQ_ok hI f2 (fun z hz => (ty_out hI.1).2.2 z (tp_fr hI.2.1 (by decide) (by decide) z hz)))
    · refine k_c1 11 rfl rfl (if_neg (by decide)) ?_
      refine k_push 12 rfl rfl ?_
      refine k_goto 16 rfl rfl ?_
      refine k_last 17 rfl f1 (by decide) (by rw [f2]; decide) rfl ?_
      refine k_goto 28 rfl rfl ?_
      refine k_push 29 rfl rfl ?_
      exact k_fin rfl rfl (lQ_ok hI f2 (fun z hz => (ty_out hI.1).2.2 z (tp_fr hI.2.1 (by decide) (by decide) z hz)))
  · refine Or.inr ⟨e, e1, by decide, Or.inl ?_⟩
    rcases List.mem_cons.mp e2 with rfl | e2
    · refine ⟨_, rfl, ?_⟩
      refine k_push 23 rfl rfl ?_
      exact k_fin rfl rfl (lQ_ex hI ho (tp_fr hI.2.1 (by decide) (by decide)))
    · rcases List.mem_singleton.mp e2 with rfl
      refine ⟨_, rfl, ?_⟩
      refine k_push 27 rfl rfl ?_
      exact k_fin rfl rfl (lQ_ex hI ho (tp_fr hI.2.1 (by decide) (by decide)))
theorem l_plain {h : am_h} {v1 : Int32} (hT : ty_H h) (ho : oc h) : am_Mt 9 276 [.inr (.inr (some 1)), .inl v1, .inr (.inr (some 122))] h (lQ h (fun h' => ∀ z : Int32, tp h z → tp h' z)) := by
  refine am_Mt.of (D := 8) ?_
  refine k_aload 1 rfl rfl rfl ?_
  refine k_push 2 rfl rfl ?_
  refine k_aload 3 rfl rfl rfl ?_
  refine k_iload 4 rfl rfl rfl ?_
  refine k_call0 rfl (c_X9_plain hT ob_91) rfl rfl rfl (hT.rc ob_91 rfl) ?_
  rintro ⟨r1, h', c, s⟩ hr
  refine ⟨Or.inr ⟨lk_L1 hT, lk_ok hT⟩, ?_⟩
  rcases hr with ⟨v, e1, ⟨w, e2, x, e3⟩, hI⟩ | ⟨e, e1, e2, hI⟩
  · refine Or.inl ⟨v, e1, ?_⟩
    subst e2
    subst e3
    obtain ⟨xs, f1, f2⟩ := ho.fr hI.2.1
    show am_Ok _ _ _ (7, _, [.inl x, .inl 0, .inr (.inr (some 122))], h', 0 + c, 0 + s) _
    refine k_un _ 8 rfl rfl rfl ?_
    refine k_last 9 rfl f1 (by decide) (by rw [f2]; decide) rfl ?_
    refine k_goto 15 rfl rfl ?_
    refine k_push 16 rfl rfl ?_
    exact k_fin rfl rfl (lQ_ok hI f2 (fun z hz => (ty_out hI.1).2.2 z (tp_fr hI.2.1 (by decide) (by decide) z hz)))
  · refine Or.inr ⟨e, e1, by decide, Or.inl ?_⟩
    rcases List.mem_singleton.mp e2 with rfl
    refine ⟨_, rfl, ?_⟩
    refine k_push 14 rfl rfl ?_
    exact k_fin rfl rfl (lQ_ex hI ho (tp_fr hI.2.1 (by decide) (by decide)))
theorem l_redexes {h : am_h} {v1 : Int32} (hT : ty_H h) (ho : oc h) : am_Mt 9 277 [.inr (.inr (some 1)), .inl v1, .inr (.inr (some 122))] h (lQ h (fun h' => ∀ z : Int32, tp h z → tp h' z)) := by
  refine am_Mt.of (D := 8) ?_
  refine k_aload 1 rfl rfl rfl ?_
  refine k_push 2 rfl rfl ?_
  refine k_aload 3 rfl rfl rfl ?_
  refine k_iload 4 rfl rfl rfl ?_
  refine k_call0 rfl (c_X9_redexes hT ob_91) rfl rfl rfl (hT.rc ob_91 rfl) ?_
  rintro ⟨r1, h', c, s⟩ hr
  refine ⟨Or.inr ⟨lk_L1 hT, lk_ok hT⟩, ?_⟩
  rcases hr with ⟨v, e1, ⟨w, e2, x, e3⟩, hI⟩ | ⟨e, e1, e2, hI⟩
  · refine Or.inl ⟨v, e1, ?_⟩
    subst e2
    subst e3
    obtain ⟨xs, f1, f2⟩ := ho.fr hI.2.1
    show am_Ok _ _ _ (7, _, [.inl x, .inl 0, .inr (.inr (some 122))], h', 0 + c, 0 + s) _
    refine k_un _ 8 rfl rfl rfl ?_
    refine k_last 9 rfl f1 (by decide) (by rw [f2]; decide) rfl ?_
    refine k_goto 18 rfl rfl ?_
    refine k_push 19 rfl rfl ?_
    exact k_fin rfl rfl (lQ_ok hI f2 (fun z hz => (ty_out hI.1).2.2 z (tp_fr hI.2.1 (by decide) (by decide) z hz)))
  · refine Or.inr ⟨e, e1, by decide, Or.inl ?_⟩
    rcases List.mem_cons.mp e2 with rfl | e2
    · refine ⟨_, rfl, ?_⟩
      refine k_push 14 rfl rfl ?_
      exact k_fin rfl rfl (lQ_ex hI ho (tp_fr hI.2.1 (by decide) (by decide)))
    · rcases List.mem_singleton.mp e2 with rfl
      refine ⟨_, rfl, ?_⟩
      refine k_push 17 rfl rfl ?_
      exact k_fin rfl rfl (lQ_ex hI ho (tp_fr hI.2.1 (by decide) (by decide)))
theorem l_trial {h : am_h} {v1 v2 : Int32} (hT : ty_H h) (ho : oc h) : am_Mt 9 278 [.inr (.inr (some 1)), .inl v1, .inl v2, .inr (.inr (some 122))] h (lQ h (fun h' => ∀ z : Int32, tp h z → tp h' z)) := by
  refine am_Mt.of (D := 8) ?_
  refine k_aload 1 rfl rfl rfl ?_
  refine k_push 2 rfl rfl ?_
  refine k_aload 3 rfl rfl rfl ?_
  refine k_iload 4 rfl rfl rfl ?_
  refine k_iload 5 rfl rfl rfl ?_
  refine k_call0 rfl (c_X9_trial hT ob_91) rfl rfl rfl (hT.rc ob_91 rfl) ?_
  rintro ⟨r1, h', c, s⟩ hr
  refine ⟨Or.inr ⟨lk_L2 hT, lk_ok hT⟩, ?_⟩
  rcases hr with ⟨v, e1, ⟨w, e2, x, e3⟩, hI⟩ | ⟨e, e1, e2, hI⟩
  · refine Or.inl ⟨v, e1, ?_⟩
    subst e2
    subst e3
    obtain ⟨xs, f1, f2⟩ := ho.fr hI.2.1
    show am_Ok _ _ _ (8, _, [.inl x, .inl 0, .inr (.inr (some 122))], h', 0 + c, 0 + s) _
    refine k_un _ 9 rfl rfl rfl ?_
    refine k_last 10 rfl f1 (by decide) (by rw [f2]; decide) rfl ?_
    refine k_goto 21 rfl rfl ?_
    refine k_push 22 rfl rfl ?_
    exact k_fin rfl rfl (lQ_ok hI f2 (fun z hz => (ty_out hI.1).2.2 z (tp_fr hI.2.1 (by decide) (by decide) z hz)))
  · refine Or.inr ⟨e, e1, by decide, Or.inl ?_⟩
    rcases List.mem_cons.mp e2 with rfl | e2
    · refine ⟨_, rfl, ?_⟩
      refine k_push 16 rfl rfl ?_
      exact k_fin rfl rfl (lQ_ex hI ho (tp_fr hI.2.1 (by decide) (by decide)))
    · rcases List.mem_singleton.mp e2 with rfl
      refine ⟨_, rfl, ?_⟩
      refine k_push 20 rfl rfl ?_
      exact k_fin rfl rfl (lQ_ex hI ho (tp_fr hI.2.1 (by decide) (by decide)))
