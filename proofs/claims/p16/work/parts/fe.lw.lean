/-! THE LAW, from its beginning to its loop -/
theorem lm_o : am_okH 122 lm_s.2.2.2.1 = true := by decide +kernel
section LWA
variable {G : Nat → Nat → Option am_n} {D j pc c s : Nat} {lv : am_l} {st : List am_v} {h : am_h} {Q : am_r → Prop} {F : rf_f} {A : rf_A}
theorem k_new {ci N : Nat} {fs : List am_v} (q : Nat) (hg : G j pc = some (.inl (ai_new ci N fs))) (h1 : am_okS (pc, lv, st, h, c, s) = true) (hp : pc + 3 = q) (H : am_Ok G D j (q, lv, .inr (.inr (some h.length)) :: st, h ++ [.inr (ci, fs)], c + 1, s + N) Q) : am_Ok G D j (pc, lv, st, h, c, s) Q :=
  k_any q hg (show ai_new ci N fs (pc, lv, st, h, c, s) = some (pc + 3, lv, _, _, _, _) from by simp only [ai_new]; rw [if_pos h1]) hp H
theorem k_newJ {x : Int32} (q : Nat) (hg : G j pc = some (.inl ai_newJ)) (h1 : am_okS (pc, lv, .inl x :: st, h, c, s) = true) (h2 : ¬ x < 0) (h3 : x.toNatClampNeg ≤ 1000000) (hp : pc + 2 = q) (H : am_Ok G D j (q, lv, .inr (.inr (some h.length)) :: st, h ++ [.inl (.inr (.inl (x.toNatClampNeg, 0, [])))], c + 1, s + x.toNatClampNeg) Q) : am_Ok G D j (pc, lv, .inl x :: st, h, c, s) Q :=
  k_any q hg (show ai_newJ (pc, lv, .inl x :: st, h, c, s) = some (pc + 2, lv, _, _, _, _) from by simp only [ai_newJ]; rw [if_pos ⟨h1, h2, h3⟩]) hp H
theorem rf_okE2 {n : Nat} (hR : rf_R h F A) (hl : 122 ≤ n) {a : Nat} (ha : 81 ≤ a ∧ a ≤ 121) {e : am_e} (he : h[a]? = some e) : am_okE n e = true := by
  by_cases z : a = 81
  · subst z
    obtain ⟨⟨fs, e1, e2, e3⟩, -⟩ := hR
    rw [e1] at he
    cases he
    refine List.all_eq_true.mpr (fun v hv => ?_)
    obtain ⟨k, hk⟩ := List.getElem?_of_mem hv
    have hk2 : k < 76 := by rw [← e2]; exact (List.getElem?_eq_some_iff.mp hk).1
    obtain ⟨w, e4, e5⟩ := e3 k hk2
    rw [hk] at e4
    cases e4
    unfold rf_v at e5
    split at e5
    · obtain ⟨x, rfl, -⟩ := e5
      rfl
    · obtain ⟨x, rfl, -⟩ := e5
      rfl
    · obtain ⟨x, rfl, -⟩ := e5
      rfl
    · subst e5
      have := rf_ad_le k hk2
      exact Nat.ble_eq_true_of_le (by omega)
  · obtain ⟨k, hk, e1, e2⟩ := rf_ad_on a (by omega) (by omega)
    have h3 := hR.2 k hk
    unfold rf_a at h3
    rcases e2 with e2 | e2 | e2
    · rw [e2, e1] at h3
      obtain ⟨xs, e4, -⟩ := h3
      rw [he] at e4
      cases e4
      rfl
    · rw [e2, e1] at h3
      obtain ⟨xs, e4, -⟩ := h3
      rw [he] at e4
      cases e4
      rfl
    · rw [e2, e1] at h3
      obtain ⟨xs, e4, -⟩ := h3
      rw [he] at e4
      cases e4
      rfl
end LWA
theorem lm_tl {h : am_h} (h9 : lm_n h = true) : tlh h ([], [1, 2]) := by
  have h7 := Bool.and_eq_true_iff.mp h9
  have h8 := Bool.and_eq_true_iff.mp h7.2
  have h6 := Bool.and_eq_true_iff.mp h8.2
  exact ⟨fun t ht => of_decide_eq_true (List.all_eq_true.mp h7.1 t ht), List.isEmpty_iff.mp h8.1, of_decide_eq_true h6.2, h6.1⟩
/-- what the law's loop needs, at its beginning -/
theorem lw_beg {hL h' : am_h} {F : rf_f} {A : rf_A} (hlL : hL.length = 122) (hTX : ty_H (hL ++ [lm_e])) (hp0 : tlh (hL ++ [lm_e]) ([], [1, 2])) (hl : h'.length = 122) (hR : rf_R h' F A) (hc : ∀ a : Nat, a < 81 → h'[a]? = hL[a]?) : ty_H (h' ++ [lm_e]) ∧ ob_P (h' ++ [lm_e]) = ob_P (hL ++ [lm_e]) ∧ tlh (h' ++ [lm_e]) ([], [1, 2]) ∧ oc (h' ++ [lm_e]) ∧ rf_R (h' ++ [lm_e]) F A ∧ (h' ++ [lm_e]).length = 123 := by
  have n1 : (h' ++ [lm_e]).length = 123 := by rw [List.length_append, hl]; rfl
  have n2 : (hL ++ [lm_e]).length = 123 := by rw [List.length_append, hlL]; rfl
  have hR2 : rf_R (h' ++ [lm_e]) F A := hR.cg (fun a q1 q2 => List.getElem?_append_left (by omega))
  have hcell : ∀ a : Nat, (a < 81 ∨ 122 < a) → (h' ++ [lm_e])[a]? = (hL ++ [lm_e])[a]? := by
    intro a ha
    rcases ha with ha | ha
    · rw [List.getElem?_append_left (by omega), List.getElem?_append_left (by omega)]
      exact hc a ha
    · rw [List.getElem?_eq_none (by omega), List.getElem?_eq_none (by omega)]
  have e122 : (h' ++ [lm_e])[122]? = some lm_e := by
    rw [List.getElem?_append_right (by omega), hl]
    rfl
  have hok : am_okH (h' ++ [lm_e]).length (h' ++ [lm_e]) = true := okH_of (fun a e he => by
    rw [n1]
    by_cases h1 : a < 81
    · rw [hcell a (Or.inl h1)] at he
      have h2 := okH_mem hTX.1 he
      rw [n2] at h2
      exact h2
    · by_cases h2 : a ≤ 121
      · exact rf_okE hR2 (Nat.le_refl _) ⟨by omega, h2⟩ he
      · have h3 : a < 123 := by rw [← n1]; exact (List.getElem?_eq_some_iff.mp he).1
        have h4 : a = 122 := by omega
        subst h4
        rw [e122] at he
        cases he
        rfl)
  obtain ⟨a1, a2, a3⟩ := ty_cg hTX (by rw [n1, n2]) hcell hok
  exact ⟨a1, a2, a3 ([], [1, 2]) hp0, ⟨(1, 0, []), e122, rfl⟩, hR2, n1⟩
theorem law_all (Y : am_y) (hY : Y.2.length ≤ 3072) : am_Ok (am_GL Y) 260 281 (0, [(0, .inr (.inr (some 0)))], [], [.inl (.inl (0, 0, []))], 0, 0) (lz 502000 1700000) := by
  obtain ⟨hC, c9, s9, er, hlC, hokC, hc9, hs9⟩ := lc_x
  have hm : am_Mt 12 129 [.inr (.inr (some 1))] lx_0 (fun q => q = (.inl none, hC, c9, s9)) := by
    have h9 := am_rls (N := 3000) 12 129 _ lx_0 lc_r lc_e.1
    rw [er] at h9
    exact h9
  have e0 : hC ++ [.inr (10, lm_f)] = lm_0 := by
    unfold lm_0
    rw [er]
  have el : lm_0.length = 82 := by
    rw [← e0, List.length_append, hlC]
    rfl
  obtain ⟨lv9, hL, c8, s8, eS, -, hlL, -, -⟩ := lm_x
  have eL : lm_s.2.2.2.1 = hL := by rw [eS]
  have hTX : ty_H (hL ++ [lm_e]) := by
    rw [← eL]
    exact tb_Hs lm_c1
  have hPX : ob_P (hL ++ [lm_e]) ≤ 500000 := by
    have h9 := lm_c2
    rw [eL] at h9
    exact Nat.le_of_ble_eq_true h9
  have hpX : tlh (hL ++ [lm_e]) ([], [1, 2]) := by
    rw [← eL]
    exact lm_tl lm_c3
  have hoX : am_okH 122 hL = true := by
    rw [← eL]
    exact lm_o
  refine k_new 3 rfl rfl rfl ?_
  refine k_dup 4 rfl rfl rfl ?_
  show am_Ok (am_GL Y) 260 281 (4, [(0, .inr (.inr (some 0)))], [.inr (.inr (some 1)), .inr (.inr (some 1))], lx_0, 1, 18) _
  refine k_call0 rfl hm rfl rfl rfl rfl ?_
  rintro _ rfl
  refine ⟨Or.inr ⟨rfl, rfl⟩, Or.inl ⟨none, rfl, ?_⟩⟩
  show am_Ok (am_GL Y) 260 281 (7, [(0, .inr (.inr (some 0)))], [.inr (.inr (some 1))], hC, 1 + c9, 18 + s9) _
  refine k_astore 8 rfl rfl ?_
  refine k_new 11 rfl (show (am_okL hC.length _ && (List.all [] (am_okV hC.length) && am_okH hC.length hC)) = true by rw [hlC, hokC]; rfl) rfl ?_
  rw [hlC]
  show am_Ok (am_GL Y) 260 281 (11, _, [.inr (.inr (some 81))], hC ++ [.inr (10, lm_f)], 1 + c9 + 1, 18 + s9 + 76) _
  rw [e0]
  refine k_dup 12 rfl rfl rfl ?_
  refine k_call0 rfl lm_m rfl rfl rfl rfl ?_
  rintro _ ⟨h', F, A, c3, s3, rfl, hR, hri, hl', hcl, hc3, hs3⟩
  rw [eL] at hcl
  refine ⟨Or.inr ⟨by rw [el]; rfl, by rw [el]; rfl⟩, Or.inl ⟨none, rfl, ?_⟩⟩
  show am_Ok (am_GL Y) 260 281 (15, _, [.inr (.inr (some 81))], h', 1 + c9 + 1 + c3, 18 + s9 + 76 + s3) _
  have hok' : am_okH 122 h' = true := okH_of (fun a e he => by
    have h3 : a < 122 := by rw [← hl']; exact (List.getElem?_eq_some_iff.mp he).1
    by_cases h1 : a < 81
    · rw [hcl a h1] at he
      exact okH_mem hoX he
    · exact rf_okE2 hR (Nat.le_refl _) ⟨by omega, by omega⟩ he)
  refine k_astore 16 rfl rfl ?_
  refine k_push 17 rfl rfl ?_
  refine k_newJ 19 rfl (show (am_okL h'.length _ && (List.all [.inl 1] (am_okV h'.length) && am_okH h'.length h')) = true by rw [hl', hok']; rfl) (by decide) (by decide) rfl ?_
  rw [hl']
  show am_Ok (am_GL Y) 260 281 (19, _, [.inr (.inr (some 122))], h' ++ [lm_e], 1 + c9 + 1 + c3 + 1, 18 + s9 + 76 + s3 + 1) _
  refine k_astore 20 rfl rfl ?_
  refine k_push 21 rfl rfl ?_
  refine k_istore 23 rfl rfl ?_
  obtain ⟨a1, a2, a3, a4, a5, a6⟩ := lw_beg hlL hTX hpX hl' hR hcl
  have i0 : (0 : Int32).toInt.toNat = 0 := by decide
  exact law_loop Y hY 502000 1700000 _ rfl rfl rfl rfl rfl rfl (by rw [a6]; rfl) a1 a4 a3 a5 hri (by decide) (by decide) (by rw [i0]; omega)
