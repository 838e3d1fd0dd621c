section
theorem b_X10_laysNet_2 {h0 : am_h} {F0 : rf_f} {A0 : rf_A} {gt : Nat} (p1 : sc (A0 1) 120 0 2600 gt) (p2 : gt ≤ 120) : ∀ (n : Nat) {lv : am_l} {h : am_h} {F : rf_f} {A : rf_A} {v1 : Int32}, ((8000 - v1.toInt).toNat) = n → am_get lv 0 = some (.inr (.inr (some 81))) → am_get lv 1 = some (.inl v1) → rf_I h0 h F A → fr1 [27, 28, 30] F0 F → fr2 [24, 25, 26, 29] A0 A → (0 ≤ v1.toInt ∧ v1.toInt ≤ 8000) → am_Ok am_G 240 196 (2, lv, [], h, 0, 0) (rf_V h0 (fun F' A' => fr1 [27, 28, 30] F0 F' ∧ fr2 [24, 25, 26, 29] A0 A' ∧ (F' 27 = F' 28 ∧ F' 28 = 1 + (cs (A0 1) 120 0 2600 : Int) ∧ (F' 27 ≤ 400 → nt (A' 24) (A' 25) (A' 26) (F' 28) 200 (F' 27))))) := by
  intro n
  induction n using Nat.strongRecOn with
  | ind n ih =>
    intro lv h F A v1 hn g0 g1 hI hF hA i1
    refine k_iload 3 rfl g1 rfl ?_
    refine k_push 6 rfl rfl ?_
    have hc1 : (8000 : Int32).toInt = 8000 := by decide
    by_cases b2 : (8000 : Int32) ≤ v1
    · refine k_c2 22 rfl rfl (if_pos b2) ?_
      have b2 := iv_le.mp b2
      have hnb := nb_mono (a := gt) (b := 120) p2
      have hnb2 : nb 120 = 15120 := by decide
      refine k_aload 23 rfl g0 rfl ?_
      refine k_push 24 rfl rfl ?_
      have hc3 : (0 : Int32).toInt = 0 := by decide
      refine r_pI hI 27 rfl rfl rfl (fun h4 I5 => ?_)
      refine k_aload 28 rfl g0 rfl ?_
      refine k_push 29 rfl rfl ?_
      refine r_pI I5 32 rfl rfl rfl (fun h6 I7 => ?_)
      refine k_aload 33 rfl g0 rfl ?_
      refine k_push 34 rfl rfl ?_
      refine k_push 35 rfl rfl ?_
      refine k_rq I7 rfl (m_newNode (gB := 8000) I7.1 (show 0 ≤ ((0 : Int32).toInt) ∧ ((0 : Int32).toInt) ≤ (8000) ∧ (8000) ≤ 8000 ∧ 0 ≤ ((0 : Int32).toInt) ∧ ((0 : Int32).toInt) ≤ 10000 by omega) (show (∀ q : Int, 0 ≤ q → q < ((0 : Int32).toInt) → (A 24) q ≠ -1) → ((0 : Int32).toInt) < (8000) from fun _ => by omega)) rfl rfl rfl I7.rc ?_
      rintro x8 h9 F10 A11 I12 ⟨k14, k15, p13⟩
      replace p13 : (0 ≤ x8.toInt ∧ F10 28 ≤ (8000) ∧ F10 27 = ((0 : Int32).toInt) + 1) ∧ (A11 24 x8.toInt = (0 : Int32).toInt ∧ A11 25 x8.toInt = (0 : Int32).toInt) ∧ (∀ y : Int, y ≠ x8.toInt → A11 24 y = (A 24) y ∧ A11 25 y = (A 25) y) ∧ ((x8.toInt = ((0 : Int32).toInt) ∧ F10 28 = ((0 : Int32).toInt) + 1) ∨ (x8.toInt < ((0 : Int32).toInt) ∧ (A 24) x8.toInt = -1 ∧ F10 28 = ((0 : Int32).toInt))) := p13
      obtain ⟨p13a, p13b, p13c, p13d⟩ := p13
      show am_Ok _ _ _ (38, _, [.inl x8], _, 0, 0) _
      have hx0 : x8.toInt = 0 := by omega
      have hb0 : F10 28 = 1 := by omega
      have hk0 : (A11 24) 0 = 0 := (congrArg (A11 24) hx0.symm).trans (p13b.1.trans (by decide))
      have hl0 : (A11 25) 0 = 0 := (congrArg (A11 25) hx0.symm).trans (p13b.2.trans (by decide))
      refine k_pop 39 rfl rfl rfl ?_
      refine k_aload 40 rfl g0 rfl ?_
      refine k_push 41 rfl rfl ?_
      refine r_pI I12 44 rfl rfl rfl (fun h16 I17 => ?_)
      have hr1 : (A11 1) = A0 1 := ((k15 1 (by decide)).trans (hA 1 (by decide)))
      have hr30 : 2600 + (0 : Int32).toInt = 2600 := by omega
      refine k_aload 45 rfl g0 rfl ?_
      refine k_push 46 rfl rfl ?_
      refine k_aload 47 rfl g0 rfl ?_
      refine k_push 48 rfl rfl ?_
      refine k_push 49 rfl rfl ?_
      refine k_push 50 rfl rfl ?_
      refine k_rq I17 rfl (lays_all (gk := 120) (gn := gt) (lm := (fun _ => 0)) (gM := (fun p => p = 0)) I17.1 (show sc ((A11 1)) (120) (0 : Int32).toInt (2600 + ((0 : Int32).toInt)) (gt) by rw [((k15 1 (by decide)).trans (hA 1 (by decide)))]; exact sc_at p1 (by omega) (by decide)) (show 0 ≤ (0 : Int32).toInt ∧ (0 : Int32).toInt + (gt) ≤ 121 ∧ 0 ≤ (0 : Int32).toInt ∧ (0 : Int32).toInt + (gt) ≤ 121 ∧ 0 ≤ (0 : Int32).toInt ∧ (0 : Int32).toInt + (gt) ≤ 121 by omega) (show 0 ≤ ((0 : Int32).toInt) ∧ ((0 : Int32).toInt) + (gt) ≤ 120 by omega) (show ly ((A11 24)) ((A11 25)) ((A11 26)) ((fun _ => 0)) ((F10 28)) 200 ((fun p => p = 0)) from ly_0 hb0 hk0 hl0) (show (F10 27) = (F10 28) ∧ 4 * (F10 28) + nb (gt) ≤ 32000 by omega)) rfl rfl rfl I17.rc ?_
      rintro x18 h19 F20 A21 I22 ⟨k24, k25, p23⟩
      replace p23 : (F20 27 = F20 28 ∧ (F10 28) ≤ F20 28 ∧ 4 * F20 28 ≤ 4 * (F10 28) + nb (gt) ∧ F20 30 = ((0 : Int32).toInt) + (gt)) ∧ (4 * (F10 28) ≤ x18.toInt ∧ x18.toInt < 4 * F20 28) ∧ (∀ q : Int, q < 122 * (0 : Int32).toInt → A21 29 q = (A11 29) q) ∧ 2 * ce (A21 29) (122 * (0 : Int32).toInt) (0 : Int32).toInt.toNat ≤ (gt) + 1 ∧ F20 28 = (F10 28) + (cs ((A11 1)) (120) (0 : Int32).toInt (2600 + ((0 : Int32).toInt)) : Int) ∧ (∀ v : Int, 0 ≤ v → v < (0 : Int32).toInt → (A21 29 (122 * (0 : Int32).toInt + v) ≠ -1 ↔ us ((A11 1)) (120) (0 : Int32).toInt (2600 + ((0 : Int32).toInt)) v = true)) ∧ (∃ lm', lw (A21 24) (A21 25) (A21 26) lm' (F20 28) 200 (fun p => ((fun p => p = 0)) p ∨ p = x18.toInt) (A21 29) (fr (0 : Int32).toInt (0 : Int32).toInt) (fun _ => (0 : Int32).toInt + 1) ((F10 28)) ∧ (∀ p : Int, p < 4 * (F10 28) → lm' p = ((fun _ => 0)) p) ∧ lm' x18.toInt = (0 : Int32).toInt) := p23
      obtain ⟨p23a, p23b, p23c, p23d, p23f, p23g, p23e⟩ := p23
      show am_Ok _ _ _ (53, _, [.inl x18, .inl (0 : Int32), .inr (.inr (some 81))], _, 0, 0) _
      obtain ⟨lm2, hw2, hl2, ht2⟩ := p23e
      have hcf := p23f
      rw [hr1, hr30, show (0 : Int32).toInt = 0 by decide] at hcf
      refine k_rv I22 rfl (m_wires  I22.1 (show 0 ≤ (0 : Int32).toInt ∧ (0 : Int32).toInt < 32040 ∧ 0 ≤ x18.toInt ∧ x18.toInt < 32040 by omega)) rfl rfl rfl I22.rc ?_
      rintro h27 F28 A29 I30 ⟨k32, k33, p31⟩
      replace p31 : A29 26 x18.toInt = (0 : Int32).toInt ∧ ((0 : Int32).toInt ≠ x18.toInt → A29 26 (0 : Int32).toInt = x18.toInt) ∧ (∀ x : Int, x ≠ (0 : Int32).toInt → x ≠ x18.toInt → A29 26 x = (A21 26) x) := p31
      obtain ⟨p31a, p31b, p31c⟩ := p31
      have k32 := fr1.nil k32
      subst k32
      show am_Ok _ _ _ (56, _, [], _, 0, 0) _
      exact k_fin rfl rfl ⟨_, _, _, rfl, I30, (fr1.tr (by decide) (fr1.up (by decide) (fr1.tr (by decide) (fr1.up (by decide) (fr1.up (by decide) hF)) k14)) k24), (fr2.tr (by decide) (fr2.tr (by decide) (fr2.tr (by decide) hA k15) k25) k33), ⟨(show F20 27 = F20 28 by omega), (show F20 28 = 1 + (cs (A0 1) 120 0 2600 : Int) by omega), fun z9 => by rw [(k33 24 (by decide)), (k33 25 (by decide))]; exact net_0 hw2 (by decide) (by omega) (by rw [ht2, hl2 0 (by omega)]; decide) (by decide) p31a p31b p31c (by omega) (by omega)⟩⟩
    · refine k_c2 9 rfl rfl (if_neg b2) ?_
      have b2 := mt iv_le.mpr b2
      refine k_aload 10 rfl g0 rfl ?_
      refine r_gA hI 13 rfl rfl rfl ?_
      refine k_iload 14 rfl g1 rfl ?_
      refine k_push 15 rfl rfl ?_
      have hc34 : (-1 : Int32).toInt = -1 := by decide
      refine r_st 24 hI 16 rfl rfl (by omega) (show v1.toInt < 8010 by omega) rfl (fun h35 I36 => ?_)
      have hc37 : (1 : Int32).toInt = 1 := by decide
      obtain ⟨x38, q39⟩ : ∃ q : Int32, q = v1 + (1 : Int32) := ⟨_, rfl⟩
      have e40 : x38.toInt = v1.toInt + 1 := by rw [q39, iv_add (by omega) (by omega)]; omega
      refine k_iinc x38 19 rfl g1 q39.symm rfl ?_
      refine k_goto 2 rfl rfl ?_
      exact ih _ (show ((8000 - x38.toInt).toNat) < n by omega)  rfl (gs_ne rfl rfl g0) gs_eq I36 hF (fr2.up (by decide) hA) (show 0 ≤ x38.toInt ∧ x38.toInt ≤ 8000 by omega)
theorem m_laysNet {h0 : am_h} {F0 : rf_f} {A0 : rf_A} {gt : Nat} (hR : rf_R h0 F0 A0) (p1 : sc (A0 1) 120 0 2600 gt) (p2 : gt ≤ 120) : am_Mt 241 196 [.inr (.inr (some 81))] h0 (rf_V h0 (fun F' A' => fr1 [27, 28, 30] F0 F' ∧ fr2 [24, 25, 26, 29] A0 A' ∧ (F' 27 = F' 28 ∧ F' 28 = 1 + (cs (A0 1) 120 0 2600 : Int) ∧ (F' 27 ≤ 400 → nt (A' 24) (A' 25) (A' 26) (F' 28) 200 (F' 27))))) := by
  refine am_Mt.of (D := 240) ?_
  have hI : rf_I h0 h0 F0 A0 := rf_I.start hR
  refine k_push 1 rfl rfl ?_
  have hc41 : (0 : Int32).toInt = 0 := by decide
  refine k_istore 2 rfl rfl ?_
  exact b_X10_laysNet_2 (gt := gt)  p1 p2 _  rfl (gs_ne rfl rfl rfl) gs_eq hI fr1.rf fr2.rf (show 0 ≤ (0 : Int32).toInt ∧ (0 : Int32).toInt ≤ 8000 by omega)
theorem b_X10_begins_2 {h0 : am_h} {F0 : rf_f} {A0 : rf_A}   : ∀ (n : Nat) {lv : am_l} {h : am_h} {F : rf_f} {A : rf_A} {v1 : Int32}, ((6 - v1.toInt).toNat) = n → am_get lv 0 = some (.inr (.inr (some 81))) → am_get lv 1 = some (.inl v1) → rf_I h0 h F A → fr1 [32] F0 F → fr2 [31] A0 A → (0 ≤ v1.toInt ∧ v1.toInt ≤ 6) → am_Ok am_G 0 197 (2, lv, [], h, 0, 0) (rf_V h0 (fun F' A' => fr1 [32] F0 F' ∧ fr2 [31] A0 A' ∧ (True))) := by
  intro n
  induction n using Nat.strongRecOn with
  | ind n ih =>
    intro lv h F A v1 hn g0 g1 hI hF hA i1
    refine k_iload 3 rfl g1 rfl ?_
    refine k_push 5 rfl rfl ?_
    have hc1 : (6 : Int32).toInt = 6 := by decide
    by_cases b2 : (6 : Int32) ≤ v1
    · refine k_c2 21 rfl rfl (if_pos b2) ?_
      have b2 := iv_le.mp b2
      refine k_aload 22 rfl g0 rfl ?_
      refine k_aload 23 rfl g0 rfl ?_
      refine r_gI hI 26 rfl rfl rfl (fun x3 (e4 : x3.toInt = F 27) => ?_)
      have e5 : F 27 = F0 27 := hF 27 (by decide)
      refine r_pI hI 29 rfl rfl rfl (fun h6 I7 => ?_)
      exact k_fin rfl rfl ⟨_, _, _, rfl, I7, (fr1.up (by decide) hF), hA, show True from trivial⟩
    · refine k_c2 8 rfl rfl (if_neg b2) ?_
      have b2 := mt iv_le.mpr b2
      refine k_aload 9 rfl g0 rfl ?_
      refine r_gA hI 12 rfl rfl rfl ?_
      refine k_iload 13 rfl g1 rfl ?_
      refine k_push 14 rfl rfl ?_
      have hc8 : (0 : Int32).toInt = 0 := by decide
      refine r_st 31 hI 15 rfl rfl (by omega) (show v1.toInt < 6 by omega) rfl (fun h9 I10 => ?_)
      have hc11 : (1 : Int32).toInt = 1 := by decide
      obtain ⟨x12, q13⟩ : ∃ q : Int32, q = v1 + (1 : Int32) := ⟨_, rfl⟩
      have e14 : x12.toInt = v1.toInt + 1 := by rw [q13, iv_add (by omega) (by omega)]; omega
      refine k_iinc x12 18 rfl g1 q13.symm rfl ?_
      refine k_goto 2 rfl rfl ?_
      exact ih _ (show ((6 - x12.toInt).toNat) < n by omega)  rfl (gs_ne rfl rfl g0) gs_eq I10 hF (fr2.up (by decide) hA) (show 0 ≤ x12.toInt ∧ x12.toInt ≤ 6 by omega)
theorem m_begins {h0 : am_h} {F0 : rf_f} {A0 : rf_A}  (hR : rf_R h0 F0 A0)  : am_Mt 1 197 [.inr (.inr (some 81))] h0 (rf_V h0 (fun F' A' => fr1 [32] F0 F' ∧ fr2 [31] A0 A' ∧ (True))) := by
  refine am_Mt.of (D := 0) ?_
  have hI : rf_I h0 h0 F0 A0 := rf_I.start hR
  refine k_push 1 rfl rfl ?_
  have hc15 : (0 : Int32).toInt = 0 := by decide
  refine k_istore 2 rfl rfl ?_
  exact b_X10_begins_2    _  rfl (gs_ne rfl rfl rfl) gs_eq hI fr1.rf fr2.rf (show 0 ≤ (0 : Int32).toInt ∧ (0 : Int32).toInt ≤ 6 by omega)
theorem m_lays {h0 : am_h} {F0 : rf_f} {A0 : rf_A} {gt : Nat} (hR : rf_R h0 F0 A0) (p1 : sc (A0 1) 120 0 2600 gt) (p2 : gt ≤ 120) (p3 : 1 + (cs (A0 1) 120 0 2600 : Int) ≤ 400) : am_Mt 242 198 [.inr (.inr (some 81))] h0 (rf_V h0 (fun F' A' => fr1 [27, 28, 30, 32] F0 F' ∧ fr2 [24, 25, 26, 29, 31] A0 A' ∧ (nt (A' 24) (A' 25) (A' 26) (F' 28) 200 (F' 27)))) := by
  refine am_Mt.of (D := 241) ?_
  have hI : rf_I h0 h0 F0 A0 := rf_I.start hR
  refine k_aload 1 rfl rfl rfl ?_
  refine k_rv hI rfl (m_laysNet (gt := gt) hI.1 (show sc ((A0 1)) 120 0 2600 (gt) from p1) (show (gt) ≤ 120 by omega)) rfl rfl rfl hI.rc ?_
  rintro h2 F3 A4 I5 ⟨k7, k8, p6⟩
  replace p6 : F3 27 = F3 28 ∧ F3 28 = 1 + (cs ((A0 1)) 120 0 2600 : Int) ∧ (F3 27 ≤ 400 → nt (A4 24) (A4 25) (A4 26) (F3 28) 200 (F3 27)) := p6
  obtain ⟨p6a, p6b, p6c⟩ := p6
  show am_Ok _ _ _ (4, _, [], _, 0, 0) _
  refine k_aload 5 rfl rfl rfl ?_
  refine k_rv I5 rfl (m_begins  I5.1 ) rfl rfl rfl I5.rc ?_
  rintro h10 F11 A12 I13 ⟨k15, k16, p14⟩
  show am_Ok _ _ _ (8, _, [], _, 0, 0) _
  have e17 : F11 28 = F3 28 := k15 28 (by decide)
  have e18 : F11 27 = F3 27 := k15 27 (by decide)
  exact k_fin rfl rfl ⟨_, _, _, rfl, I13, (fr1.tr (by decide) (fr1.tr (by decide) fr1.rf k7) k15), (fr2.tr (by decide) (fr2.tr (by decide) fr2.rf k8) k16), by rw [(k16 24 (by decide)), (k16 25 (by decide)), (k16 26 (by decide)), (k15 28 (by decide)), (k15 27 (by decide))]; exact p6c (by omega)⟩
theorem m_again {h0 : am_h} {F0 : rf_f} {A0 : rf_A} {gt : Nat} (hR : rf_R h0 F0 A0) (p1 : sc (A0 1) 120 0 2600 gt) (p2 : gt ≤ 120) (p3 : 1 + (cs (A0 1) 120 0 2600 : Int) ≤ 400) (p5 : wr A0) (p6 : wq A0) : am_Mt 243 203 [.inr (.inr (some 81))] h0 (rf_Q h0 (fun x F' A' => fr1 [27, 28, 30, 32, 0] F0 F' ∧ fr2 [24, 25, 26, 29, 31] A0 A' ∧ (nt (A' 24) (A' 25) (A' 26) (F' 28) 200 (F' 27) ∧ (wr A' ∧ wq A' ∧ A' 2 2 = A0 2 2 ∧ (∀ q : Int, 2600 ≤ q → A' 1 q = A0 1 q))))) := by
  refine am_Mt.of (D := 242) ?_
  have hI : rf_I h0 h0 F0 A0 := rf_I.start hR
  refine k_aload 1 rfl rfl rfl ?_
  refine k_push 2 rfl rfl ?_
  have hc1 : (0 : Int32).toInt = 0 := by decide
  refine r_pI hI 5 rfl rfl rfl (fun h2 I3 => ?_)
  refine k_aload 6 rfl rfl rfl ?_
  refine r_gI I3 9 rfl rfl rfl (fun x4 (e5 : x4.toInt = F0 27) => ?_)
  refine k_istore 10 rfl rfl ?_
  refine k_aload 11 rfl (gs_ne rfl rfl rfl) rfl ?_
  refine k_rv I3 rfl (m_lays (gt := gt) I3.1 (show sc ((A0 1)) 120 0 2600 (gt) from p1) (show (gt) ≤ 120 by omega) (show 1 + (cs ((A0 1)) 120 0 2600 : Int) ≤ 400 from p3)) rfl rfl rfl I3.rc ?_
  rintro h7 F8 A9 I10 ⟨k12, k13, p11⟩
  replace p11 : nt (A9 24) (A9 25) (A9 26) (F8 28) 200 (F8 27) := p11
  show am_Ok _ _ _ (14, _, [], _, 0, 0) _
  refine k_iload 15 rfl gs_eq rfl ?_
  exact k_fin rfl rfl ⟨_, _, _, _, rfl, I10, (fr1.tr (by decide) (fr1.up (by decide) fr1.rf) k12), (fr2.tr (by decide) fr2.rf k13), ⟨p11, p5.fr k13 (by decide), p6.fr k13 (by decide), by rw [k13 2 (by decide)], by rw [k13 1 (by decide)]; exact fun q _ => rfl⟩⟩
end
