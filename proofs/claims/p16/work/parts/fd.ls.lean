/-! THE LAW, from its beginning -/
theorem lc_e : lc_a = some lc_r ∧ lc_q lc_r = true := by
  have h := lc_is
  unfold lc_t at h
  unfold lc_r
  split at h
  · rename_i r e
    rw [e]
    exact ⟨rfl, h⟩
  · cases h
theorem lm_e1 : lm_a = some (.inr lm_s) ∧ lm_q lm_s = true := by
  have h := lm_is
  unfold lm_t at h
  unfold lm_s
  split at h
  · rename_i S e
    rw [e]
    exact ⟨rfl, h⟩
  · cases h
theorem lc_x : ∃ (h : am_h) (c s : Nat), lc_r = (.inl none, h, c, s) ∧ h.length = 81 ∧ am_okH 81 h = true ∧ c ≤ 1000 ∧ s ≤ 100000 := by
  have h := lc_e.2
  generalize lc_r = r at h ⊢
  obtain ⟨v, h0, c, s⟩ := r
  have h1 := Bool.and_eq_true_iff.mp h
  have h2 := Bool.and_eq_true_iff.mp h1.2
  have h3 := Bool.and_eq_true_iff.mp h2.2
  have h4 := Bool.and_eq_true_iff.mp h3.2
  have h5 := h1.1
  refine ⟨h0, c, s, ?_, Nat.eq_of_beq_eq_true h2.1, h3.1, Nat.le_of_ble_eq_true h4.1, Nat.le_of_ble_eq_true h4.2⟩
  match v, h5 with
  | .inl none, _ => rfl
theorem lm_x : ∃ (lv : am_l) (h : am_h) (c s : Nat), lm_s = (355, lv, [], h, c, s) ∧ am_get lv 0 = some (.inr (.inr (some 81))) ∧ h.length = 122 ∧ c ≤ 200 ∧ s ≤ 1000000 := by
  have h := lm_e1.2
  generalize lm_s = S at h ⊢
  obtain ⟨pc, lv, st, h0, c, s⟩ := S
  have h1 := Bool.and_eq_true_iff.mp h
  have h2 := Bool.and_eq_true_iff.mp h1.2
  have h3 := Bool.and_eq_true_iff.mp h2.2
  have h4 := Bool.and_eq_true_iff.mp h3.2
  have h5 := Bool.and_eq_true_iff.mp h4.2
  have e1 : pc = 355 := Nat.eq_of_beq_eq_true h1.1
  have e2 : st = [] := List.isEmpty_iff.mp h3.1
  exact ⟨lv, h0, c, s, by rw [e1, e2], of_decide_eq_true h2.1, Nat.eq_of_beq_eq_true h4.1, Nat.le_of_ble_eq_true h5.1, Nat.le_of_ble_eq_true h5.2⟩
theorem rzz_0 {h : am_h} (H : rzz h = true) {k : Nat} (hk : k < 76) (q : Int) : rc_A h k q = 0 := by
  have h1 := List.all_eq_true.mp H k (List.mem_range.mpr hk)
  unfold rc_A
  split
  · rename_i xs e
    simp only [e] at h1
    have h2 := Bool.and_eq_true_iff.mp h1
    rw [of_decide_eq_true h2.1, List.isEmpty_iff.mp h2.2]
    split
    · exact iv_0
    · rfl
  · rename_i xs e
    simp only [e] at h1
    have h2 := Bool.and_eq_true_iff.mp h1
    rw [of_decide_eq_true h2.1, List.isEmpty_iff.mp h2.2]
    split
    · rfl
    · rfl
  · rfl
section YST
variable {G : Nat → Nat → Option am_n} {D j pc c s k : Nat} {lv : am_l} {st : List am_v} {h h0 : am_h} {Q : am_r → Prop} {F : rf_f} {A : rf_A}
theorem y_gA (k : Nat) (hI : rf_I h0 h F A) (q : Nat) (hg : G j pc = some (.inl (ai_get 10 k))) (hk : (Nat.blt k 76 && Nat.ble 3 (rf_T k)) = true) (hp : pc + 3 = q) (K : am_Ok G D j (q, lv, .inr (.inr (some (rf_ad k))) :: st, h, c, s) Q) : am_Ok G D j (pc, lv, .inr (.inr (some 81)) :: st, h, c, s) Q := by
  have h1 := Bool.and_eq_true_iff.mp hk
  obtain ⟨fs, e, hn, hf⟩ := hI.1.1
  obtain ⟨v, e2, hv⟩ := hf k (am_blt h1.1)
  have h3 := Nat.le_of_ble_eq_true h1.2
  unfold rf_v at hv
  split at hv
  · rename_i e9; omega
  · rename_i e9; omega
  · rename_i e9; omega
  · subst hv
    exact k_get q hg e e2 hp K
theorem y_st {i x : Int32} (k : Nat) (hI : rf_I h0 h F A) (q : Nat) (hg : G j pc = some (.inl ai_iast)) (hk : (Nat.blt k 76 && Nat.beq (rf_T k) 3) = true) (h1 : 0 ≤ i.toInt) (h2 : i.toInt < (rf_n k : Int)) (hp : pc + 1 = q) (K : ∀ h', rf_I h0 h' F (up2 A k i.toInt x.toInt) → am_Ok G D j (q, lv, st, h', c, s) Q) : am_Ok G D j (pc, lv, .inl x :: .inl i :: .inr (.inr (some (rf_ad k))) :: st, h, c, s) Q := by
  obtain ⟨xs, e1, e2, e3⟩ := rf_row hI hk
  have hb := Bool.and_eq_true_iff.mp hk
  have h0 : rf_ad k ≠ 0 := rf_a0 (Bool.and_eq_true_iff.mpr ⟨hb.1, by rw [Nat.eq_of_beq_eq_true hb.2]; rfl⟩)
  have hcl : ((i.toNatClampNeg : Nat) : Int) = i.toInt := by rw [iv_cl]; omega
  exact k_iast q hg h0 e1 (iv_nn h1) (by omega) hp (K _ (rf_st hI hk e1 h1))
end YST
theorem sc_two {t : Int → Int} (h1 : t 2600 = 1) (h2 : t 2601 = 2) (k : Nat) : sc t (k + 2) 0 2600 2 := by
  have h3 : t (2600 + 1) = 2 := h2
  exact Or.inr (Or.inl ⟨h1, 1, rfl, Or.inr (Or.inr ⟨by rw [h3]; decide, by rw [h3]; decide, rfl⟩)⟩)
theorem cs_two {t : Int → Int} (h1 : t 2600 = 1) (h2 : t 2601 = 2) (k : Nat) : cs t (k + 2) 0 2600 ≤ 3 := by
  have h3 : t (2600 + 1) = 2 := h2
  have e1 : cs t (k + 1) (0 + 1) (2600 + 1) = 1 := by
    unfold cs
    rw [h3, if_neg (by decide), if_neg (by decide)]
  unfold cs
  rw [h1, if_neg (by decide), if_pos rfl, e1]
  unfold cl
  split <;> omega
def lm_R : am_r → Prop := fun r => ∃ (h' : am_h) (F : rf_f) (A : rf_A) (c s : Nat), r = (.inl none, h', c, s) ∧ rf_R h' F A ∧ ri F A 200 ([], [1, 2]) ∧ h'.length = 122 ∧ (∀ a : Nat, a < 81 → h'[a]? = lm_s.2.2.2.1[a]?) ∧ c ≤ 200 ∧ s ≤ 1000000
theorem lm_m : am_Mt 243 158 [.inr (.inr (some 81))] lm_0 lm_R := by
  refine am_Mt.of (D := 242) ?_
  obtain ⟨lv, h, c, s, eS, g0, hl, hc, hs⟩ := lm_x
  have hp : lm_p h = true := by
    have h9 := lm_pis
    rw [eS] at h9
    exact h9
  have p1 := Bool.and_eq_true_iff.mp hp
  have p2 := Bool.and_eq_true_iff.mp p1.2
  have p3 := Bool.and_eq_true_iff.mp p2.2
  have p4 := Bool.and_eq_true_iff.mp p3.2
  have f4 : rc_F h 4 = 0 := of_decide_eq_true p3.1
  have f23 : rc_F h 23 = 0 := of_decide_eq_true p4.1
  have f73 : rc_F h 73 = 0 := of_decide_eq_true p4.2
  have hI : rf_I h h (rc_F h) (rc_A h) := rf_I.start (rb_R p1.1)
  refine am_itG (run := am_rl 3000 2) (o := some 355) (fun k as h r e => am_Mt.up rfl (am_rls 2 k as h r e)) 3000 _ (.inr lm_s) lm_e1.1 ?_
  have eS2 := eS
  rw [eS2]
  show am_Ok am_G 242 158 (355, lv, [], h, c, s) _
  have d0 : (2600 : Int32).toInt = 2600 := by decide
  have d1 : (2601 : Int32).toInt = 2601 := by decide
  refine k_aload 356 rfl g0 rfl ?_
  refine y_gA 1 hI 359 rfl rfl rfl ?_
  refine k_push 362 rfl rfl ?_
  refine k_push 363 rfl rfl ?_
  refine y_st 1 hI 364 rfl rfl (by rw [d0]; decide) (by rw [d0]; decide) rfl (fun h1 I1 => ?_)
  refine k_aload 365 rfl g0 rfl ?_
  refine y_gA 1 I1 368 rfl rfl rfl ?_
  refine k_push 371 rfl rfl ?_
  refine k_push 372 rfl rfl ?_
  refine y_st 1 I1 373 rfl rfl (by rw [d1]; decide) (by rw [d1]; decide) rfl (fun h2 I2 => ?_)
  refine k_aload 374 rfl g0 rfl ?_
  refine y_gA 2 I2 377 rfl rfl rfl ?_
  refine k_push 378 rfl rfl ?_
  refine k_push 379 rfl rfl ?_
  refine y_st 2 I2 380 rfl rfl (by rw [iv_2]; decide) (by rw [iv_2]; decide) rfl (fun h3 I3 => ?_)
  refine k_aload 381 rfl g0 rfl ?_
  rw [d0, d1, iv_1, iv_2] at I3
  obtain ⟨A3, hA3⟩ : ∃ A3 : rf_A, A3 = up2 (up2 (up2 (rc_A h) 1 2600 1) 1 2601 2) 2 2 2 := ⟨_, rfl⟩
  rw [← hA3] at I3
  have tk : ∀ k : Nat, k ≠ 1 → k ≠ 2 → k < 76 → ∀ q : Int, A3 k q = 0 := fun k k1 k2 k3 q => by
    rw [hA3, up2_k k2, up2_k k1, up2_k k1]
    exact rzz_0 p2.1 k3 q
  have t1 : A3 1 2600 = 1 := by
    rw [hA3, up2_k (show (1 : Nat) ≠ 2 by decide), up2_ne (show (2600 : Int) ≠ 2601 by decide), up2_eq]
  have t2 : A3 1 2601 = 2 := by
    rw [hA3, up2_k (show (1 : Nat) ≠ 2 by decide), up2_eq]
  have t3 : A3 2 2 = 2 := by
    rw [hA3, up2_eq]
  have s1 : sc (A3 1) 120 0 2600 2 := sc_two t1 t2 118
  have s2 : 1 + (cs (A3 1) 120 0 2600 : Int) ≤ 400 := by
    have := cs_two t1 t2 118
    have h9 : cs (A3 1) 120 0 2600 ≤ 3 := this
    omega
  have w1 : wr A3 := fun q => by
    rw [tk 43 (by decide) (by decide) (by decide) q, tk 44 (by decide) (by decide) (by decide) q, tk 45 (by decide) (by decide) (by decide) q, tk 46 (by decide) (by decide) (by decide) q, tk 47 (by decide) (by decide) (by decide) q, tk 49 (by decide) (by decide) (by decide) q, tk 60 (by decide) (by decide) (by decide) q]
    exact ⟨by omega, by omega, by omega, ⟨by omega, by omega, fun _ => by omega⟩, by omega, by omega, by omega⟩
  have w2 : wq A3 := fun q hq => by
    rw [tk 53 (by decide) (by decide) (by decide) q, tk 54 (by decide) (by decide) (by decide) q, tk 57 (by decide) (by decide) (by decide) q, tk 58 (by decide) (by decide) (by decide) q]
    omega
  clear hA3 tk
  refine k_call0 rfl (m_lays (gt := 2) I3.1 s1 (by omega) s2) rfl rfl rfl I3.rc ?_
  rintro _ ⟨h4, F4, A4, rfl, I4, g1, g2, n0⟩
  refine ⟨Or.inl I4.2.1, Or.inl ⟨none, rfl, ?_⟩⟩
  show am_Ok am_G 242 158 (384, lv, [], h4, c + 0, s + 0) _
  have hF : rf_Fr h h4 := I3.2.trans I4.2
  refine k_fin rfl rfl ⟨h4, F4, A4, c + 0, s + 0, rfl, I4.1, ⟨n0, w1.fr g2 (by decide), w2.fr g2 (by decide), ?_, ?_, ?_, ?_⟩, hF.1.trans hl, fun a ha => ?_, hc, hs⟩
  · rw [g1 73 (by decide), f73]
    decide
  · rw [g2 1 (by decide), g2 2 (by decide)]
    exact ⟨2, t3, s1, by omega, s2⟩
  · rw [g1 23 (by decide), f23]
    decide
  · rw [g1 4 (by decide), f4]
    refine ⟨TP.nil rfl, ?_⟩
    rw [g2 1 (by decide), g2 2 (by decide)]
    refine ⟨t3, fun q hq => ?_⟩
    match q, hq with
    | 0, _ => exact congrArg some t1.symm
    | 1, _ => exact congrArg some t2.symm
    | q + 2, hq => exact absurd hq (by show ¬ q + 2 < 2; omega)
  · rw [hF.2 a (Or.inl ha), eS]
