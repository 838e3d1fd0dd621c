/-! THE TAPE: feed, tell -/
def tp (h : am_h) (z : Int32) : Prop := ob_f h 2 0 = some (.inl 700) ∧ ob_f h 2 2 = some (.inl z)
section TAPE
variable {G : Nat → Nat → Option am_n} {D d j pc c s B i k l τ : Nat} {lv : am_l} {st : List am_v} {h h' h0 : am_h} {Q : am_r → Prop} {W W' : List (Nat × Nat)} {x y z : Int32}
theorem k_clE {k na kd : Nat} {as : List am_v} {E : am_r → Prop} (hg : G j pc = some (.inr (.inl (k, na, kd)))) (hM : am_Mt d k as h (fun r => ty_Q W' τ (ob_P h) h r ∧ E r)) (hd : Nat.ble d D = true) (ha : (st.take na).reverse = as) (hb : (Nat.ble na st.length && (Nat.ble (am_words (st.drop na)) 8 && Nat.ble (am_words as) (am_J k).2.2.1)) = true) (hr : am_rc kd h as = true) (hI : ob_I W B h0 h c s) (hW : ∀ x ∈ W', x ∈ W) (hL : am_okL h.length lv = true) (hS : (st.drop na).all (am_okV h.length) = true)
    (K : ∀ (v : Option am_v) (h' : am_h) (c' s' c2 s2 : Nat), ty_A τ v → ob_I W B h0 h' c' s' → am_okL h'.length lv = true → E (.inl v, h', c2, s2) → am_Ok G D j (pc + 3, lv, v.toList ++ st.drop na, h', c', s') Q) : am_Ok G D j (pc, lv, st, h, c, s) Q := by
  refine k_call0 hg hM hd ha hb hr (fun r hr9 => ?_)
  obtain ⟨r1, h2, c2, s2⟩ := r
  obtain ⟨⟨⟨v, e1, e2⟩, e3⟩, e4⟩ := hr9
  have e1 : r1 = .inl v := e1
  subst e1
  exact ⟨Or.inr ⟨hL, hS⟩, Or.inl ⟨v, rfl, K v _ _ _ c2 s2 e2 (hI.call hW e3) (okL_le e3.2.1.1 hL) e4⟩⟩
theorem ob_11 (ho : ob 11 i) : i = 2 := List.mem_singleton.mp ho
theorem ob_112 : ob 11 2 := List.mem_singleton.mpr rfl
abbrev w_T : List (Nat × Nat) := [(11, 0), (11, 1), (11, 2)]
theorem w_T3 : ∀ k, k < 3 → ((11, k) : Nat × Nat) ∈ w_T := by decide
theorem tp.fr (t : tp h z) (hF : ob_Fr W h h') (h0 : ((11, 0) : Nat × Nat) ∉ W) (h2 : ((11, 2) : Nat × Nat) ∉ W) : tp h' z := ⟨ob_Fr.f hF ob_112 (by decide) h0 t.1, ob_Fr.f hF ob_112 (by decide) h2 t.2⟩
theorem tp_add (hT : ty_H h) (t : tp h z) (hz : z.toInt < 700) : am_Mt 2 52 [.inr (.inr (some 2)), .inl x] h (fun r => ty_Q w_T 3 (ob_P h) h r ∧ tp r.2.1 (z + 1)) := (rw_add (W := w_T) hT (Or.inr ⟨ob_112, w_T3⟩)).imp (fun r hr => ⟨hr.1, (hr.2 z 700 t.2 t.1 (by rw [iv_lt]; exact hz)).2, (hr.2 z 700 t.2 t.1 (by rw [iv_lt]; exact hz)).1⟩)
theorem c_X9_feedNumber {v0 : Nat} {v1 : Int32} (hT : ty_H h) (o0 : ob 9 v0) (t : tp h z) (hz : 0 ≤ z.toInt ∧ z.toInt + 4 ≤ 700) : am_Mt 3 147 [.inr (.inr (some v0)), .inl v1] h (fun r => ty_Q w_T 0 (ob_P h) h r ∧ tp r.2.1 (z + 1 + 1 + 1 + 1)) := by
  have q1 : (z + 1).toInt = z.toInt + 1 := by rw [iv_add (by rw [iv_1]; omega) (by rw [iv_1]; omega), iv_1]
  have q2 : (z + 1 + 1).toInt = z.toInt + 2 := by rw [iv_add (by rw [iv_1]; omega) (by rw [iv_1]; omega), iv_1, q1]; omega
  have q3 : (z + 1 + 1 + 1).toInt = z.toInt + 3 := by rw [iv_add (by rw [iv_1]; omega) (by rw [iv_1]; omega), iv_1, q2]; omega
  refine am_Mt.of (D := 2) ?_
  have hL0 : am_okL h.length (am_args 0 [.inr (.inr (some v0)), .inl v1]) = true := okA_r hT o0 (okA_i okA_n)
  have I0 : ob_I w_T (ob_P h) h h 0 0 := ob_I.start hT
  refine k_aload 1 rfl rfl rfl ?_
  obtain ⟨fs1, u1, e1, f1, i1, rfl, o1⟩ := I0.1.get o0 (k := 0) rfl rfl
  obtain rfl := ob_11 o1
  refine k_get 4 rfl e1 f1 rfl ?_
  refine k_iload 5 rfl rfl rfl ?_
  refine k_push 7 rfl rfl ?_
  refine k_bin _ 8 rfl rfl rfl ?_
  refine k_clE (W' := w_T) rfl (tp_add I0.1 t (by omega)) rfl rfl rfl (I0.1.rc3 (Or.inr ob_112)) I0 (fun _ hz => hz) hL0 so_n ?_
  rintro w1 h1 c1 s1 cc1 ss1 ⟨_, rfl, x1, rfl, z1⟩ I1 L1 t1
  show am_Ok _ _ _ (11, _, [.inl x1], h1, c1, s1) _
  refine k_pop 12 rfl rfl rfl ?_
  refine k_aload 13 rfl rfl rfl ?_
  obtain ⟨fs13, u13, e13, f13, i13, rfl, o13⟩ := I1.1.get o0 (k := 0) rfl rfl
  obtain rfl := ob_11 o13
  refine k_get 16 rfl e13 f13 rfl ?_
  refine k_iload 17 rfl rfl rfl ?_
  refine k_push 19 rfl rfl ?_
  refine k_bin _ 20 rfl rfl rfl ?_
  refine k_push 23 rfl rfl ?_
  refine k_bin _ 24 rfl rfl rfl ?_
  refine k_clE (W' := w_T) rfl (tp_add I1.1 t1 (by omega)) rfl rfl rfl (I1.1.rc3 (Or.inr ob_112)) I1 (fun _ hz => hz) L1 so_n ?_
  rintro w2 h2 c2 s2 cc2 ss2 ⟨_, rfl, x2, rfl, z2⟩ I2 L2 t2
  show am_Ok _ _ _ (27, _, [.inl x2], h2, c2, s2) _
  refine k_pop 28 rfl rfl rfl ?_
  refine k_aload 29 rfl rfl rfl ?_
  obtain ⟨fs29, u29, e29, f29, i29, rfl, o29⟩ := I2.1.get o0 (k := 0) rfl rfl
  obtain rfl := ob_11 o29
  refine k_get 32 rfl e29 f29 rfl ?_
  refine k_iload 33 rfl rfl rfl ?_
  refine k_push 35 rfl rfl ?_
  refine k_bin _ 36 rfl rfl rfl ?_
  refine k_push 39 rfl rfl ?_
  refine k_bin _ 40 rfl rfl rfl ?_
  refine k_clE (W' := w_T) rfl (tp_add I2.1 t2 (by omega)) rfl rfl rfl (I2.1.rc3 (Or.inr ob_112)) I2 (fun _ hz => hz) L2 so_n ?_
  rintro w3 h3 c3 s3 cc3 ss3 ⟨_, rfl, x3, rfl, z3⟩ I3 L3 t3
  show am_Ok _ _ _ (43, _, [.inl x3], h3, c3, s3) _
  refine k_pop 44 rfl rfl rfl ?_
  refine k_aload 45 rfl rfl rfl ?_
  obtain ⟨fs45, u45, e45, f45, i45, rfl, o45⟩ := I3.1.get o0 (k := 0) rfl rfl
  obtain rfl := ob_11 o45
  refine k_get 48 rfl e45 f45 rfl ?_
  refine k_iload 49 rfl rfl rfl ?_
  refine k_push 52 rfl rfl ?_
  refine k_bin _ 53 rfl rfl rfl ?_
  refine k_clE (W' := w_T) rfl (tp_add I3.1 t3 (by omega)) rfl rfl rfl (I3.1.rc3 (Or.inr ob_112)) I3 (fun _ hz => hz) L3 so_n ?_
  rintro w4 h4 c4 s4 cc4 ss4 ⟨_, rfl, x4, rfl, z4⟩ I4 L4 t4
  show am_Ok _ _ _ (56, _, [.inl x4], h4, c4, s4) _
  refine k_pop 57 rfl rfl rfl ?_
  exact k_fin rfl rfl ⟨⟨⟨_, rfl, rfl⟩, I4⟩, t4⟩
theorem plus4 {w : Int32} {a b : Int} (e : w.toInt = a + b) (h1 : 0 ≤ a + b) (h2 : a + b ≤ 100000) : (w + 1 + 1 + 1 + 1).toInt = a + (b + 4) := by
  have q1 : (w + 1).toInt = a + b + 1 := by rw [iv_add (by rw [iv_1]; omega) (by rw [iv_1]; omega), iv_1, e]
  have q2 : (w + 1 + 1).toInt = a + b + 2 := by rw [iv_add (by rw [iv_1]; omega) (by rw [iv_1]; omega), iv_1, q1]; omega
  have q3 : (w + 1 + 1 + 1).toInt = a + b + 3 := by rw [iv_add (by rw [iv_1]; omega) (by rw [iv_1]; omega), iv_1, q2]; omega
  rw [iv_add (by rw [iv_1]; omega) (by rw [iv_1]; omega), iv_1, q3]
  omega
theorem c_X9_feed {v0 : Nat} {v1 v2 v3 v4 v5 : Int32} (hT : ty_H h) (o0 : ob 9 v0) (t : tp h z) (hz : 0 ≤ z.toInt ∧ z.toInt ≤ 700) : am_Mt 4 130 [.inr (.inr (some v0)), .inl v1, .inl v2, .inl v3, .inl v4, .inl v5] h (fun r => ty_Q w_T 2 (ob_P h) h r ∧ ∃ y z2 : Int32, r.1 = .inl (some (.inl y)) ∧ tp r.2.1 z2 ∧ ((680 < z.toInt ∧ y.toInt = -1 ∧ z2 = z) ∨ (z.toInt ≤ 680 ∧ y.toInt = z.toInt + 20 ∧ z2.toInt = z.toInt + 20))) := by
  refine am_Mt.of (D := 3) ?_
  have hL0 : am_okL h.length (am_args 0 [.inr (.inr (some v0)), .inl v1, .inl v2, .inl v3, .inl v4, .inl v5]) = true := okA_r hT o0 (okA_i (okA_i (okA_i (okA_i (okA_i okA_n)))))
  have I0 : ob_I w_T (ob_P h) h h 0 0 := ob_I.start hT
  have q20 : (20 : Int32).toInt = 20 := by decide
  have q700 : (700 : Int32).toInt = 700 := by decide
  have q0 : (z + 20).toInt = z.toInt + 20 := by rw [iv_add (by rw [q20]; omega) (by rw [q20]; omega), q20]
  refine k_aload 1 rfl rfl rfl ?_
  obtain ⟨fsA, uA, eA, fA, iA, rfl, oA⟩ := I0.1.get o0 (k := 0) rfl rfl
  obtain rfl := ob_11 oA
  refine k_get 4 rfl eA fA rfl ?_
  refine k_call0 rfl (rw_sizeX hT (Or.inr ob_112) t.2) rfl rfl rfl (I0.1.rc3 (Or.inr ob_112)) ?_
  rintro r rfl
  refine ⟨Or.inl rfl, Or.inl ⟨_, rfl, ?_⟩⟩
  show am_Ok _ _ _ (7, _, [.inl z], h, 0, 0) _
  refine k_push 9 rfl rfl ?_
  refine k_bin (z + 20) 10 rfl rfl rfl ?_
  refine k_push 13 rfl rfl ?_
  by_cases b : z + 20 ≤ 700
  · refine k_c2 18 rfl rfl (if_pos b) ?_
    rw [iv_le, q0, q700] at b
    refine k_aload 19 rfl rfl rfl ?_
    refine k_iload 20 rfl rfl rfl ?_
    have r1 : (z + 1 + 1 + 1 + 1).toInt = z.toInt + 4 := plus4 (Int.add_zero _).symm (by omega) (by omega)
    refine k_clE (W' := w_T) rfl (c_X9_feedNumber I0.1 o0 t (by omega)) rfl rfl rfl (I0.1.rc o0 rfl) I0 (fun _ hz => hz) hL0 so_n ?_
    rintro w1 h1 c1 s1 cc1 ss1 hv1 I1 L1 t1
    cases hv1
    show am_Ok _ _ _ (23, _, [], h1, c1, s1) _
    refine k_aload 24 rfl rfl rfl ?_
    refine k_iload 25 rfl rfl rfl ?_
    have r2 : (z + 1 + 1 + 1 + 1 + 1 + 1 + 1 + 1).toInt = z.toInt + 8 := plus4 r1 (by omega) (by omega)
    refine k_clE (W' := w_T) rfl (c_X9_feedNumber I1.1 o0 t1 (by omega)) rfl rfl rfl (I1.1.rc o0 rfl) I1 (fun _ hz => hz) L1 so_n ?_
    rintro w2 h2 c2 s2 cc2 ss2 hv2 I2 L2 t2
    cases hv2
    show am_Ok _ _ _ (28, _, [], h2, c2, s2) _
    refine k_aload 29 rfl rfl rfl ?_
    refine k_iload 30 rfl rfl rfl ?_
    have r3 : (z + 1 + 1 + 1 + 1 + 1 + 1 + 1 + 1 + 1 + 1 + 1 + 1).toInt = z.toInt + 12 := plus4 r2 (by omega) (by omega)
    refine k_clE (W' := w_T) rfl (c_X9_feedNumber I2.1 o0 t2 (by omega)) rfl rfl rfl (I2.1.rc o0 rfl) I2 (fun _ hz => hz) L2 so_n ?_
    rintro w3 h3 c3 s3 cc3 ss3 hv3 I3 L3 t3
    cases hv3
    show am_Ok _ _ _ (33, _, [], h3, c3, s3) _
    refine k_aload 34 rfl rfl rfl ?_
    refine k_iload 36 rfl rfl rfl ?_
    have r4 : (z + 1 + 1 + 1 + 1 + 1 + 1 + 1 + 1 + 1 + 1 + 1 + 1 + 1 + 1 + 1 + 1).toInt = z.toInt + 16 := plus4 r3 (by omega) (by omega)
    refine k_clE (W' := w_T) rfl (c_X9_feedNumber I3.1 o0 t3 (by omega)) rfl rfl rfl (I3.1.rc o0 rfl) I3 (fun _ hz => hz) L3 so_n ?_
    rintro w4 h4 c4 s4 cc4 ss4 hv4 I4 L4 t4
    cases hv4
    show am_Ok _ _ _ (39, _, [], h4, c4, s4) _
    refine k_aload 40 rfl rfl rfl ?_
    refine k_iload 42 rfl rfl rfl ?_
    have r5 : (z + 1 + 1 + 1 + 1 + 1 + 1 + 1 + 1 + 1 + 1 + 1 + 1 + 1 + 1 + 1 + 1 + 1 + 1 + 1 + 1).toInt = z.toInt + 20 := plus4 r4 (by omega) (by omega)
    refine k_clE (W' := w_T) rfl (c_X9_feedNumber I4.1 o0 t4 (by omega)) rfl rfl rfl (I4.1.rc o0 rfl) I4 (fun _ hz => hz) L4 so_n ?_
    rintro w5 h5 c5 s5 cc5 ss5 hv5 I5 L5 t5
    cases hv5
    show am_Ok _ _ _ (45, _, [], h5, c5, s5) _
    refine k_aload 46 rfl rfl rfl ?_
    obtain ⟨fsB, uB, eB, fB, iB, rfl, oB⟩ := I5.1.get o0 (k := 0) rfl rfl
    obtain rfl := ob_11 oB
    refine k_get 49 rfl eB fB rfl ?_
    refine k_call0 rfl (rw_sizeX I5.1 (Or.inr ob_112) t5.2) rfl rfl rfl (I5.1.rc3 (Or.inr ob_112)) ?_
    rintro r rfl
    refine ⟨Or.inl rfl, Or.inl ⟨_, rfl, ?_⟩⟩
    show am_Ok _ _ _ (52, _, [.inl (z + 1 + 1 + 1 + 1 + 1 + 1 + 1 + 1 + 1 + 1 + 1 + 1 + 1 + 1 + 1 + 1 + 1 + 1 + 1 + 1)], h5, c5, s5) _
    exact k_fin rfl rfl ⟨⟨⟨_, rfl, _, rfl, _, rfl⟩, I5⟩, _, _, rfl, t5, Or.inr ⟨by omega, r5, r5⟩⟩
  · refine k_c2 16 rfl rfl (if_neg b) ?_
    rw [iv_le, q0, q700] at b
    refine k_push 17 rfl rfl ?_
    exact k_fin rfl rfl ⟨⟨⟨_, rfl, _, rfl, _, rfl⟩, I0⟩, _, _, rfl, t, Or.inl ⟨by omega, by decide, rfl⟩⟩
/-- tell: refused if the tape has not so many; else the tape is empty behind it -/
theorem c_X9_tell {v0 : Nat} {v1 : Int32} (hT : ty_H h) (o0 : ob 9 v0) (t : tp h z) (hz : 0 ≤ z.toInt ∧ z.toInt ≤ 700) : am_Mt 8 131 [.inr (.inr (some v0)), .inl v1] h (fun r => ty_QX w_X9_tell 2 [0] (ob_P h) h r ∧ (((v1.toInt < 0 ∨ z.toInt < v1.toInt) ∧ tp r.2.1 z) ∨ (0 ≤ v1.toInt ∧ v1.toInt ≤ z.toInt ∧ tp r.2.1 0))) := by
  refine am_Mt.of (D := 7) ?_
  have hL0 : am_okL h.length (am_args 0 [.inr (.inr (some v0)), .inl v1]) = true := okA_r hT o0 (okA_i okA_n)
  have I0 : ob_I w_X9_tell (ob_P h) h h 0 0 := ob_I.start hT
  have hno : (v1.toInt < 0 ∨ z.toInt < v1.toInt) → am_Ok am_G 7 131 (15, am_args 0 [.inr (.inr (some v0)), .inl v1], [], h, 0, 0) (fun r => ty_QX w_X9_tell 2 [0] (ob_P h) h r ∧ (((v1.toInt < 0 ∨ z.toInt < v1.toInt) ∧ tp r.2.1 z) ∨ (0 ≤ v1.toInt ∧ v1.toInt ≤ z.toInt ∧ tp r.2.1 0))) := fun hb => k_fin rfl rfl ⟨Or.inr ⟨_, rfl, by decide, ob_I.thr I0⟩, Or.inl ⟨hb, t⟩⟩
  refine k_iload 1 rfl rfl rfl ?_
  by_cases b1 : v1 < 0
  · exact k_c1 15 rfl rfl (if_pos b1) (hno (Or.inl (by rw [iv_lt, iv_0] at b1; exact b1)))
  refine k_c1 4 rfl rfl (if_neg b1) ?_
  refine k_iload 5 rfl rfl rfl ?_
  refine k_aload 6 rfl rfl rfl ?_
  obtain ⟨fsA, uA, eA, fA, iA, rfl, oA⟩ := I0.1.get o0 (k := 0) rfl rfl
  obtain rfl := ob_11 oA
  refine k_get 9 rfl eA fA rfl ?_
  refine k_call0 rfl (rw_sizeX hT (Or.inr ob_112) t.2) rfl rfl rfl (I0.1.rc3 (Or.inr ob_112)) ?_
  rintro r rfl
  refine ⟨Or.inl rfl, Or.inl ⟨_, rfl, ?_⟩⟩
  show am_Ok _ _ _ (12, _, [.inl z, .inl v1], h, 0, 0) _
  by_cases b2 : v1 ≤ z
  · refine k_c2 25 rfl rfl (if_pos b2) ?_
    rw [iv_le] at b2
    have b3 := iv_nz b1
    refine k_aload 26 rfl rfl rfl ?_
    refine k_get 29 rfl eA fA rfl ?_
    refine k_iload 30 rfl rfl rfl ?_
    refine k_clE (W' := w_T) rfl (rw_cutX (W := w_T) hT (Or.inr ⟨ob_112, w_T3⟩) t.2 t.1 ⟨b3, b2⟩) rfl rfl rfl (I0.1.rc3 (Or.inr ob_112)) I0 (by decide) hL0 so_n ?_
    rintro w1 h1 c1 s1 cc1 ss1 hv1 I1 L1 t1
    cases hv1
    have t1 : tp h1 v1 := ⟨t1.2, t1.1⟩
    show am_Ok _ _ _ (33, _, [], h1, c1, s1) _
    refine k_aload 34 rfl rfl rfl ?_
    obtain ⟨fsB, uB, eB, fB, iB, rfl, oB⟩ := I1.1.get o0 (k := 1) rfl rfl
    refine k_get 37 rfl eB fB rfl ?_
    refine k_cl (W' := w_X6_findFault) rfl (c_X6_findFault I1.1 oB) rfl rfl rfl (I1.1.rc oB rfl) I1 (by decide) L1 so_n ?_
    rintro w2 h2 c2 s2 ⟨_, rfl, x2, rfl⟩ I2 L2 F2
    have t2 : tp h2 v1 := t1.fr F2 (by decide) (by decide)
    show am_Ok _ _ _ (40, _, [.inl x2], h2, c2, s2) _
    refine k_istore 41 rfl rfl ?_
    have hend : ∀ {lv : am_l} {h9 : am_h} {c9 s9 : Nat} {x9 : Int32}, am_get lv 0 = some (.inr (.inr (some v0))) → am_get lv 2 = some (.inl x9) → am_okL h9.length lv = true → ob_I w_X9_tell (ob_P h) h h9 c9 s9 → tp h9 v1 → am_Ok am_G 7 131 (78, lv, [], h9, c9, s9) (fun r => ty_QX w_X9_tell 2 [0] (ob_P h) h r ∧ (((v1.toInt < 0 ∨ z.toInt < v1.toInt) ∧ tp r.2.1 z) ∨ (0 ≤ v1.toInt ∧ v1.toInt ≤ z.toInt ∧ tp r.2.1 0))) := by
      intro lv h9 c9 s9 x9 g0 g2 L9 I9 t9
      refine k_aload 79 rfl g0 rfl ?_
      obtain ⟨fsC, uC, eC, fC, iC, rfl, oC⟩ := I9.1.get o0 (k := 0) rfl rfl
      obtain rfl := ob_11 oC
      refine k_get 82 rfl eC fC rfl ?_
      refine k_push 83 rfl rfl ?_
      refine k_clE (W' := w_T) rfl (rw_cutX (W := w_T) (x := 0) I9.1 (Or.inr ⟨ob_112, w_T3⟩) t9.2 t9.1 (by rw [iv_0]; omega)) rfl rfl rfl (I9.1.rc3 (Or.inr ob_112)) I9 (by decide) L9 so_n ?_
      rintro w3 h3 c3 s3 cc3 ss3 hv3 I3 L3 t3
      cases hv3
      show am_Ok _ _ _ (86, _, [], h3, c3, s3) _
      refine k_iload 87 rfl g2 rfl ?_
      exact k_fin rfl rfl ⟨Or.inl ⟨_, rfl, ⟨_, rfl, _, rfl⟩, I3⟩, Or.inr ⟨b3, b2, t3.2, t3.1⟩⟩
    have hmid : ∀ {lv : am_l} {h9 : am_h} {c9 s9 : Nat} {y : Int32}, am_get lv 0 = some (.inr (.inr (some v0))) → am_get lv 1 = some (.inl v1) → am_get lv 2 = some (.inl x2) → am_okL h9.length lv = true → ob_I w_X9_tell (ob_P h) h h9 c9 s9 → tp h9 v1 → am_Ok am_G 7 131 (57, lv, [.inl y, .inr (.inr (some v0))], h9, c9, s9) (fun r => ty_QX w_X9_tell 2 [0] (ob_P h) h r ∧ (((v1.toInt < 0 ∨ z.toInt < v1.toInt) ∧ tp r.2.1 z) ∨ (0 ≤ v1.toInt ∧ v1.toInt ≤ z.toInt ∧ tp r.2.1 0))) := by
      intro lv h9 c9 s9 y g0 g1 g2 L9 I9 t9
      obtain ⟨fsD, uD, eD, fD, tD⟩ := I9.1.get o0 (k := 13) rfl rfl
      refine k_put 60 rfl eD rfl (List.getElem?_eq_some_iff.mp fD).1 rfl ?_
      obtain ⟨hD, ED, ID, lD⟩ := I9.put (v := .inl y) o0 rfl eD (k := 13) rfl (show ty_V 0 (.inl y) from ⟨_, rfl⟩) (by decide)
      have tD2 : tp hD v1 := ⟨ob_f.ne t9.1 eD ED (by decide), ob_f.ne t9.2 eD ED (by decide)⟩
      rw [ED]
      have LD := okL_eq lD L9
      refine k_iload 61 rfl g2 rfl ?_
      by_cases b4 : x2 = 0
      · refine k_c1 64 rfl rfl (if_pos b4) ?_
        refine k_aload 65 rfl g0 rfl ?_
        refine k_cl (W' := w_X9_takeProgram) rfl (c_X9_takeProgram ID.1 o0) rfl rfl rfl (ID.1.rc o0 rfl) ID (by decide) LD so_n ?_
        rintro w4 h4 c4 s4 ⟨_, rfl, x4, rfl, z4⟩ I4 L4 F4
        have t4 : tp h4 v1 := tD2.fr F4 (by decide) (by decide)
        show am_Ok _ _ _ (68, _, [.inl x4], h4, c4, s4) _
        by_cases b5 : x4 = 0
        · refine k_c1 71 rfl rfl (if_pos b5) ?_
          refine k_push 72 rfl rfl ?_
          refine k_istore 73 rfl rfl ?_
          refine k_aload 74 rfl (gs_ne rfl rfl g0) rfl ?_
          refine k_iload 75 rfl (gs_ne rfl rfl g1) rfl ?_
          obtain ⟨fsE, uE, eE, fE, tE⟩ := I4.1.get o0 (k := 13) rfl rfl
          refine k_put 78 rfl eE rfl (List.getElem?_eq_some_iff.mp fE).1 rfl ?_
          obtain ⟨hE, EE, IE, lE⟩ := I4.put (v := .inl v1) o0 rfl eE (k := 13) rfl (show ty_V 0 (.inl v1) from ⟨_, rfl⟩) (by decide)
          have tE2 : tp hE v1 := ⟨ob_f.ne t4.1 eE EE (by decide), ob_f.ne t4.2 eE EE (by decide)⟩
          rw [EE]
          exact hend (gs_ne rfl rfl g0) gs_eq (okL_eq lE (okL_set (i := 2) (v := .inl 5) rfl L4)) IE tE2
        · exact k_c1 78 rfl rfl (if_neg b5) (hend g0 g2 L4 I4 t4)
      · exact k_c1 78 rfl rfl (if_neg b4) (hend g0 g2 LD ID tD2)
    have L3 : am_okL h2.length (am_set (am_args 0 [.inr (.inr (some v0)), .inl v1]) 2 (.inl x2)) = true := okL_set (i := 2) (v := .inl x2) rfl L2
    refine k_aload 42 rfl rfl rfl ?_
    refine k_iload 43 rfl rfl rfl ?_
    by_cases b3 : x2 = 0
    · refine k_c1 46 rfl rfl (if_pos b3) ?_
      refine k_push 47 rfl rfl ?_
      refine k_goto 57 rfl rfl ?_
      exact hmid rfl rfl rfl L3 I2 t2
    · refine k_c1 50 rfl rfl (if_neg b3) ?_
      refine k_aload 51 rfl rfl rfl ?_
      obtain ⟨fsF, uF, eF, fF, iF, rfl, oF⟩ := I2.1.get o0 (k := 1) rfl rfl
      refine k_get 54 rfl eF fF rfl ?_
      refine k_cl (W' := w_X6_place) rfl (c_X6_place I2.1 oF) rfl rfl rfl (I2.1.rc oF rfl) I2 (by decide) L3 (so_r I2 o0 so_n) ?_
      rintro w5 h5 c5 s5 ⟨_, rfl, x5, rfl⟩ I5 L5 F5
      have t5 : tp h5 v1 := t2.fr F5 (by decide) (by decide)
      show am_Ok _ _ _ (57, _, [.inl x5, .inr (.inr (some v0))], h5, c5, s5) _
      exact hmid rfl rfl rfl L5 I5 t5
  · refine k_c2 15 rfl rfl (if_neg b2) (hno (Or.inr ?_))
    rw [iv_le] at b2
    omega
end TAPE
