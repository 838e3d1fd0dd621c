section
def dv (k : Int) : Int := if k = 4 then 1 else if k = 5 then -1 else 0
theorem dv_le (k : Int) : -1 ≤ dv k ∧ dv k ≤ 1 := by
  unfold dv
  split
  · omega
  · split <;> omega
theorem pr_25 (k : Int) (h1 : 3 ≤ k) (h2 : k ≤ 5) : 2 ≤ pr k ∧ pr k ≤ 3 ∧ (pr k = 3 → k = 3) := by
  unfold pr
  split
  · omega
  · split <;> omega
theorem pr_15 (k : Int) (h1 : 1 ≤ k) (h2 : k ≤ 5) : 2 ≤ pr k ∧ pr k ≤ 3 ∧ (pr k = 3 → k ≤ 3) := by
  unfold pr
  split
  · omega
  · split <;> omega
theorem th_lo {k lv low i : Int} {f : Int → Int} (h : tl k lv (f (4 * low)) (f (4 * low + 1)) (f (4 * low + 2))) (hk : 3 ≤ k ∧ k ≤ 5) (hi : 0 ≤ i ∧ i + 1 < pr k) : f (4 * low + (i + 1)) = f (4 * low) + dv k := by
  have h3 := pr_25 k hk.1 hk.2
  obtain ⟨-, -, t3, t4, t5⟩ := h
  have hi2 : i = 0 ∨ i = 1 := by omega
  unfold dv
  rcases hi2 with e | e
  · rw [e, show (0 : Int) + 1 = 1 by omega]
    split
    · have := t4 (by omega)
      omega
    · split
      · have := t5 (by omega)
        omega
      · have := t3 (by omega)
        omega
  · rw [e, show (1 : Int) + 1 = 2 by omega]
    have := t3 (by omega)
    rw [if_neg (by omega), if_neg (by omega)]
    omega
theorem th_hi {k lv l0 l1 l2 d : Int} (h : tl k lv l0 l1 l2) (hk : 1 ≤ k ∧ k ≤ 5) : tl k (lv + d) (l0 + d) (l1 + d) (l2 + d) := by
  obtain ⟨t1, t2, t3, t4, t5⟩ := h
  refine ⟨fun z => by omega, fun z => ?_, fun z => ?_, fun z => ?_, fun z => ?_⟩
  · have := t2 z
    omega
  · have := t3 z
    omega
  · have := t4 z
    omega
  · have := t5 z
    omega
theorem th_ps {ka kb la lb high j : Int} {f : Int → Int} (h : tl kb lb (f (4 * high)) (f (4 * high + 1)) (f (4 * high + 2))) (hk : 3 ≤ ka ∧ ka ≤ 5 ∧ 1 ≤ kb ∧ kb ≤ 5) (hl : la < lb) (hj : 0 ≤ j ∧ j + 1 < pr kb) : tl ka la (f (4 * high + (j + 1))) (f (4 * high + (j + 1)) + dv ka) (f (4 * high + (j + 1)) + dv ka) := by
  have h3 := pr_15 kb hk.2.2.1 hk.2.2.2
  have h4 : la < f (4 * high + (j + 1)) := by
    obtain ⟨t1, t2, t3, t4, t5⟩ := h
    have hi2 : j = 0 ∨ j = 1 := by omega
    rcases hi2 with e | e
    · rw [e, show (0 : Int) + 1 = 1 by omega]
      by_cases k1 : kb = 1 ∨ kb = 2
      · have := t2 k1
        omega
      · by_cases k2 : kb = 3
        · have := t3 k2
          omega
        · by_cases k3 : kb = 4
          · have := t4 k3
            omega
          · have := t5 (by omega)
            omega
    · rw [e, show (1 : Int) + 1 = 2 by omega]
      by_cases k1 : kb = 1 ∨ kb = 2
      · have := t2 k1
        omega
      · have := t3 (by omega)
        omega
  refine ⟨fun z => by omega, fun z => by omega, fun z => ?_, fun z => ?_, fun z => ?_⟩
  · have : dv ka = 0 := by rw [z]; decide
    omega
  · have : dv ka = 1 := by rw [z]; decide
    omega
  · have : dv ka = -1 := by rw [z]; decide
    omega
theorem b_X10_goesThrough_191 {h0 : am_h} {F0 : rf_f} {A0 : rf_A} {w1 : Int32} {w2 : Int32} {lm : Int → Int} {gT : Int} {gE : Int → Prop} (p1 : sn (A0 24) (A0 25) (A0 26) lm (F0 28) gT gE (fun _ => False) (F0 27)) (p2 : (w1.toInt = 8000 ∧ w2.toInt = 8001) ∨ (w1.toInt = 8001 ∧ w2.toInt = 8000)) (p3 : 3 ≤ (A0 24 w1.toInt) ∧ (A0 24 w1.toInt) ≤ 5 ∧ 1 ≤ (A0 24 w2.toInt) ∧ (A0 24 w2.toInt) ≤ 5) (p4 : 0 ≤ A0 25 w1.toInt ∧ A0 25 w1.toInt < A0 25 w2.toInt ∧ A0 25 w2.toInt + 1 ≤ gT ∧ gT ≤ 2000000) (p5 : tl (A0 24 w1.toInt) (A0 25 w1.toInt) (lm (4 * w1.toInt)) (lm (4 * w1.toInt + 1)) (lm (4 * w1.toInt + 2))) (p6 : tl (A0 24 w2.toInt) (A0 25 w2.toInt) (lm (4 * w2.toInt)) (lm (4 * w2.toInt + 1)) (lm (4 * w2.toInt + 2))) (p7 : lm (4 * w1.toInt) = lm (4 * w2.toInt)) (p8 : ∀ x : Int, gE x ↔ ((x / 4 = w1.toInt ∧ x % 4 < pr (A0 24 w1.toInt)) ∨ (x / 4 = w2.toInt ∧ x % 4 < pr (A0 24 w2.toInt)))) (p9 : F0 27 + pr (A0 24 w1.toInt) + pr (A0 24 w2.toInt) ≤ 402) (pa : A0 26 32000 = 32004) : ∀ (n : Nat) {lv : am_l} {h : am_h} {F : rf_f} {A : rf_A} {v1 : Int32} {v2 : Int32} {v3 : Int32} {v4 : Int32} {v5 : Int32} {v6 : Int32} {v7 : Int32} {lm1 : Int → Int}, (((2 - v6.toInt) * 4 + (2 - v7.toInt)).toNat) = n → am_get lv 0 = some (.inr (.inr (some 81))) → am_get lv 1 = some (.inl v1) → am_get lv 2 = some (.inl v2) → am_get lv 3 = some (.inl v3) → am_get lv 4 = some (.inl v4) → am_get lv 5 = some (.inl v5) → am_get lv 6 = some (.inl v6) → am_get lv 7 = some (.inl v7) → rf_I h0 h F A → fr1 [28, 27] F0 F → fr2 [24, 25, 26, 40, 41] A0 A → (v1.toInt = w1.toInt ∧ v2.toInt = w2.toInt ∧ v3.toInt = dv (A0 24 w1.toInt) ∧ v4.toInt = pr (A0 24 w1.toInt) - 1 ∧ v5.toInt = pr (A0 24 w2.toInt) - 1) → (0 ≤ v6.toInt ∧ v6.toInt < v4.toInt) → (0 ≤ v7.toInt ∧ v7.toInt ≤ v5.toInt) → (th (A 24) (A 25) (A 26) lm1 (F 28) gT gE lm (A 40) (A 41) w1.toInt w2.toInt v4.toInt v5.toInt v3.toInt v4.toInt v5.toInt v6.toInt v7.toInt (F 27)) → (F 27 ≤ 400) → am_Ok am_G 2 215 (191, lv, [], h, 0, 0) (rf_V h0 (fun F' A' => fr1 [28, 27] F0 F' ∧ fr2 [24, 25, 26, 40, 41] A0 A' ∧ ((∃ lm', sn (A' 24) (A' 25) (A' 26) lm' (F' 28) gT (fun x => gE x ∧ x % 4 = 0) (fun _ => False) (F' 27)) ∧ A' 26 32000 = 32004 ∧ F' 27 ≤ 400))) := by
  intro n
  induction n using Nat.strongRecOn with
  | ind n ih =>
    intro lv h F A v1 v2 v3 v4 v5 v6 v7 lm1 hn g0 g1 g2 g3 g4 g5 g6 g7 hI hF hA i1 i2 i3 i4 i6
    have hdv := dv_le (A0 24 w1.toInt)
    have hpr1 := pr_25 (A0 24 w1.toInt) p3.1 p3.2.1
    have hpr2 := pr_15 (A0 24 w2.toInt) p3.2.2.1 p3.2.2.2
    refine k_iload 193 rfl g7 rfl ?_
    refine k_iload 195 rfl g5 rfl ?_
    by_cases b1 : v5 ≤ v7
    · refine k_c2 236 rfl rfl (if_pos b1) ?_
      have b1 := iv_le.mp b1
      have hc2 : (1 : Int32).toInt = 1 := by decide
      obtain ⟨x3, q4⟩ : ∃ q : Int32, q = v6 + (1 : Int32) := ⟨_, rfl⟩
      have e5 : x3.toInt = v6.toInt + 1 := by rw [q4, iv_add (by omega) (by omega)]; omega
      refine k_iinc x3 239 rfl g6 q4.symm rfl ?_
      refine k_goto 181 rfl rfl ?_
      refine k_iload 183 rfl gs_eq rfl ?_
      refine k_iload 185 rfl (gs_ne rfl rfl g4) rfl ?_
      by_cases b6 : v4 ≤ x3
      · refine k_c2 242 rfl rfl (if_pos b6) ?_
        have b6 := iv_le.mp b6
        exact k_fin rfl rfl ⟨_, _, _, rfl, hI, hF, hA, (by rw [show v7.toInt = v5.toInt by omega] at i4; exact ⟨⟨lm1, (th.end (by have h9 := i4.row; rw [show v6.toInt + 1 = v4.toInt by omega] at h9; exact h9) (fun x hx => by have := (p8 x).mp hx; omega)).1⟩, i4.2.2.2.2.2.2.2, i6⟩)⟩
      · refine k_c2 188 rfl rfl (if_neg b6) ?_
        have b6 := mt iv_le.mpr b6
        refine k_push 189 rfl rfl ?_
        have hc7 : (0 : Int32).toInt = 0 := by decide
        refine k_istore 191 rfl rfl ?_
        exact ih _ (show (((2 - x3.toInt) * 4 + (2 - (0 : Int32).toInt)).toNat) < n by omega) (lm1 := lm1) rfl (gs_ne rfl rfl (gs_ne rfl rfl g0)) (gs_ne rfl rfl (gs_ne rfl rfl g1)) (gs_ne rfl rfl (gs_ne rfl rfl g2)) (gs_ne rfl rfl (gs_ne rfl rfl g3)) (gs_ne rfl rfl (gs_ne rfl rfl g4)) (gs_ne rfl rfl (gs_ne rfl rfl g5)) (gs_ne rfl rfl gs_eq) gs_eq hI hF hA (show v1.toInt = w1.toInt ∧ v2.toInt = w2.toInt ∧ v3.toInt = dv (A0 24 w1.toInt) ∧ v4.toInt = pr (A0 24 w1.toInt) - 1 ∧ v5.toInt = pr (A0 24 w2.toInt) - 1 by omega) (show 0 ≤ x3.toInt ∧ x3.toInt < v4.toInt by omega) (show 0 ≤ (0 : Int32).toInt ∧ (0 : Int32).toInt ≤ v5.toInt by omega) (by rw [show x3.toInt = v6.toInt + 1 by omega, show (0 : Int32).toInt = 0 by omega]; rw [show v7.toInt = v5.toInt by omega] at i4; exact i4.row) (show (F 27) ≤ 400 by omega)
    · refine k_c2 198 rfl rfl (if_neg b1) ?_
      have b1 := mt iv_le.mpr b1
      have hc9 := (i4.2.1 v6.toInt (by omega) (by omega)).1
      have hd9 := (i4.2.2.1 v7.toInt (by omega) (by omega)).1
      have hb9 := i4.1.1.2.1
      refine k_aload 199 rfl g0 rfl ?_
      refine k_push 200 rfl rfl ?_
      have hc8 : (4 : Int32).toInt = 4 := by decide
      refine k_aload 201 rfl g0 rfl ?_
      refine r_gA hI 204 rfl rfl rfl ?_
      refine k_iload 206 rfl g6 rfl ?_
      refine r_ld 40 hI 207 rfl rfl (by omega) (show v6.toInt < 2 by omega) rfl (fun x9 (e10 : x9.toInt = A 40 v6.toInt) => ?_)
      obtain ⟨x11, q12⟩ : ∃ q : Int32, q = ((4 : Int32) * x9) := ⟨_, rfl⟩
      have e13 : x11.toInt = 4 * x9.toInt := by rw [q12]; exact iv_mulc 4 (by decide) (by omega) (by omega)
      refine k_bin x11 208 rfl q12.symm rfl ?_
      refine k_iload 210 rfl g7 rfl ?_
      obtain ⟨x14, q15⟩ : ∃ q : Int32, q = (x11 + v7) := ⟨_, rfl⟩
      have e16 : x14.toInt = x11.toInt + v7.toInt := by rw [q15, iv_add (by omega) (by omega)]
      refine k_bin x14 211 rfl q15.symm rfl ?_
      refine k_push 212 rfl rfl ?_
      have hc17 : (1 : Int32).toInt = 1 := by decide
      obtain ⟨x18, q19⟩ : ∃ q : Int32, q = (x14 + (1 : Int32)) := ⟨_, rfl⟩
      have e20 : x18.toInt = x14.toInt + 1 := by rw [q19, iv_add (by omega) (by omega)]; omega
      refine k_bin x18 213 rfl q19.symm rfl ?_
      refine k_push 214 rfl rfl ?_
      refine k_aload 215 rfl g0 rfl ?_
      refine r_gA hI 218 rfl rfl rfl ?_
      refine k_iload 220 rfl g7 rfl ?_
      refine r_ld 41 hI 221 rfl rfl (by omega) (show v7.toInt < 2 by omega) rfl (fun x21 (e22 : x21.toInt = A 41 v7.toInt) => ?_)
      obtain ⟨x23, q24⟩ : ∃ q : Int32, q = ((4 : Int32) * x21) := ⟨_, rfl⟩
      have e25 : x23.toInt = 4 * x21.toInt := by rw [q24]; exact iv_mulc 4 (by decide) (by omega) (by omega)
      refine k_bin x23 222 rfl q24.symm rfl ?_
      refine k_iload 224 rfl g6 rfl ?_
      obtain ⟨x26, q27⟩ : ∃ q : Int32, q = (x23 + v6) := ⟨_, rfl⟩
      have e28 : x26.toInt = x23.toInt + v6.toInt := by rw [q27, iv_add (by omega) (by omega)]
      refine k_bin x26 225 rfl q27.symm rfl ?_
      refine k_push 226 rfl rfl ?_
      obtain ⟨x29, q30⟩ : ∃ q : Int32, q = (x26 + (1 : Int32)) := ⟨_, rfl⟩
      have e31 : x29.toInt = x26.toInt + 1 := by rw [q30, iv_add (by omega) (by omega)]; omega
      refine k_bin x29 227 rfl q30.symm rfl ?_
      refine k_rv hI rfl (m_wires  hI.1 (show 0 ≤ x18.toInt ∧ x18.toInt < 32040 ∧ 0 ≤ x29.toInt ∧ x29.toInt < 32040 by omega)) rfl rfl rfl hI.rc ?_
      rintro h33 F34 A35 I36 ⟨k38, k39, p37⟩
      replace p37 : A35 26 x29.toInt = x18.toInt ∧ (x18.toInt ≠ x29.toInt → A35 26 x18.toInt = x29.toInt) ∧ (∀ x : Int, x ≠ x18.toInt → x ≠ x29.toInt → A35 26 x = (A 26) x) := p37
      obtain ⟨p37a, p37b, p37c⟩ := p37
      have k38 := fr1.nil k38
      subst k38
      show am_Ok _ _ _ (230, _, [], _, 0, 0) _
      obtain ⟨x40, q41⟩ : ∃ q : Int32, q = v7 + (1 : Int32) := ⟨_, rfl⟩
      have e42 : x40.toInt = v7.toInt + 1 := by rw [q41, iv_add (by omega) (by omega)]; omega
      refine k_iinc x40 233 rfl g7 q41.symm rfl ?_
      refine k_goto 191 rfl rfl ?_
      exact ih _ (show (((2 - v6.toInt) * 4 + (2 - x40.toInt)).toNat) < n by omega) (lm1 := lm1) rfl (gs_ne rfl rfl g0) (gs_ne rfl rfl g1) (gs_ne rfl rfl g2) (gs_ne rfl rfl g3) (gs_ne rfl rfl g4) (gs_ne rfl rfl g5) (gs_ne rfl rfl g6) gs_eq I36 hF (fr2.tr (by decide) hA k39) (show v1.toInt = w1.toInt ∧ v2.toInt = w2.toInt ∧ v3.toInt = dv (A0 24 w1.toInt) ∧ v4.toInt = pr (A0 24 w1.toInt) - 1 ∧ v5.toInt = pr (A0 24 w2.toInt) - 1 by omega) (show 0 ≤ v6.toInt ∧ v6.toInt < v4.toInt by omega) (show 0 ≤ x40.toInt ∧ x40.toInt ≤ v5.toInt by omega) (by rw [show x40.toInt = v7.toInt + 1 by omega, (k39 24 (by decide)), (k39 25 (by decide)), (k39 40 (by decide)), (k39 41 (by decide))]; exact i4.wire ⟨by omega, by omega, by omega⟩ ⟨by omega, by omega, by omega⟩ (by omega) (by omega) p37a p37b p37c) (show (F 27) ≤ 400 by omega)
theorem b_X10_goesThrough_121 {h0 : am_h} {F0 : rf_f} {A0 : rf_A} {w1 : Int32} {w2 : Int32} {lm : Int → Int} {gT : Int} {gE : Int → Prop} (p1 : sn (A0 24) (A0 25) (A0 26) lm (F0 28) gT gE (fun _ => False) (F0 27)) (p2 : (w1.toInt = 8000 ∧ w2.toInt = 8001) ∨ (w1.toInt = 8001 ∧ w2.toInt = 8000)) (p3 : 3 ≤ (A0 24 w1.toInt) ∧ (A0 24 w1.toInt) ≤ 5 ∧ 1 ≤ (A0 24 w2.toInt) ∧ (A0 24 w2.toInt) ≤ 5) (p4 : 0 ≤ A0 25 w1.toInt ∧ A0 25 w1.toInt < A0 25 w2.toInt ∧ A0 25 w2.toInt + 1 ≤ gT ∧ gT ≤ 2000000) (p5 : tl (A0 24 w1.toInt) (A0 25 w1.toInt) (lm (4 * w1.toInt)) (lm (4 * w1.toInt + 1)) (lm (4 * w1.toInt + 2))) (p6 : tl (A0 24 w2.toInt) (A0 25 w2.toInt) (lm (4 * w2.toInt)) (lm (4 * w2.toInt + 1)) (lm (4 * w2.toInt + 2))) (p7 : lm (4 * w1.toInt) = lm (4 * w2.toInt)) (p8 : ∀ x : Int, gE x ↔ ((x / 4 = w1.toInt ∧ x % 4 < pr (A0 24 w1.toInt)) ∨ (x / 4 = w2.toInt ∧ x % 4 < pr (A0 24 w2.toInt)))) (p9 : F0 27 + pr (A0 24 w1.toInt) + pr (A0 24 w2.toInt) ≤ 402) (pa : A0 26 32000 = 32004) : ∀ (n : Nat) {lv : am_l} {h : am_h} {F : rf_f} {A : rf_A} {v1 : Int32} {v2 : Int32} {v3 : Int32} {v4 : Int32} {v5 : Int32} {v6 : Int32} {lm1 : Int → Int}, ((2 - v6.toInt).toNat) = n → am_get lv 0 = some (.inr (.inr (some 81))) → am_get lv 1 = some (.inl v1) → am_get lv 2 = some (.inl v2) → am_get lv 3 = some (.inl v3) → am_get lv 4 = some (.inl v4) → am_get lv 5 = some (.inl v5) → am_get lv 6 = some (.inl v6) → rf_I h0 h F A → fr1 [28, 27] F0 F → fr2 [24, 25, 26, 40, 41] A0 A → (v1.toInt = w1.toInt ∧ v2.toInt = w2.toInt ∧ v3.toInt = dv (A0 24 w1.toInt) ∧ v4.toInt = pr (A0 24 w1.toInt) - 1 ∧ v5.toInt = pr (A0 24 w2.toInt) - 1) → (0 ≤ v6.toInt ∧ v6.toInt ≤ v5.toInt) → (th (A 24) (A 25) (A 26) lm1 (F 28) gT gE lm (A 40) (A 41) w1.toInt w2.toInt v4.toInt v5.toInt v3.toInt v4.toInt v6.toInt 0 0 (F 27)) → (F 27 = F0 27 + v4.toInt + v6.toInt) → (∀ y : Int, 8000 ≤ y → A 24 y = A0 24 y ∧ A 25 y = A0 25 y) → am_Ok am_G 2 215 (121, lv, [], h, 0, 0) (rf_V h0 (fun F' A' => fr1 [28, 27] F0 F' ∧ fr2 [24, 25, 26, 40, 41] A0 A' ∧ ((∃ lm', sn (A' 24) (A' 25) (A' 26) lm' (F' 28) gT (fun x => gE x ∧ x % 4 = 0) (fun _ => False) (F' 27)) ∧ A' 26 32000 = 32004 ∧ F' 27 ≤ 400))) := by
  intro n
  induction n using Nat.strongRecOn with
  | ind n ih =>
    intro lv h F A v1 v2 v3 v4 v5 v6 lm1 hn g0 g1 g2 g3 g4 g5 g6 hI hF hA i1 i2 i3 i4 i5
    have hdv := dv_le (A0 24 w1.toInt)
    have hpr1 := pr_25 (A0 24 w1.toInt) p3.1 p3.2.1
    have hpr2 := pr_15 (A0 24 w2.toInt) p3.2.2.1 p3.2.2.2
    refine k_iload 123 rfl g6 rfl ?_
    refine k_iload 125 rfl g5 rfl ?_
    by_cases b43 : v5 ≤ v6
    · refine k_c2 178 rfl rfl (if_pos b43) ?_
      have b43 := iv_le.mp b43
      refine k_push 179 rfl rfl ?_
      have hc44 : (0 : Int32).toInt = 0 := by decide
      refine k_istore 181 rfl rfl ?_
      refine k_iload 183 rfl gs_eq rfl ?_
      refine k_iload 185 rfl (gs_ne rfl rfl g4) rfl ?_
      by_cases b45 : v4 ≤ (0 : Int32)
      · refine k_c2 242 rfl rfl (if_pos b45) ?_
        have b45 := iv_le.mp b45
        exact k_fin rfl rfl ⟨_, _, _, rfl, hI, hF, hA, (by exfalso; omega)⟩
      · refine k_c2 188 rfl rfl (if_neg b45) ?_
        have b45 := mt iv_le.mpr b45
        refine k_push 189 rfl rfl ?_
        refine k_istore 191 rfl rfl ?_
        exact b_X10_goesThrough_191 (lm := lm) (gT := gT) (gE := gE) (w1 := w1) (w2 := w2) p1 p2 p3 p4 p5 p6 p7 p8 p9 pa _ (lm1 := lm1) rfl (gs_ne rfl rfl (gs_ne rfl rfl g0)) (gs_ne rfl rfl (gs_ne rfl rfl g1)) (gs_ne rfl rfl (gs_ne rfl rfl g2)) (gs_ne rfl rfl (gs_ne rfl rfl g3)) (gs_ne rfl rfl (gs_ne rfl rfl g4)) (gs_ne rfl rfl (gs_ne rfl rfl g5)) (gs_ne rfl rfl gs_eq) gs_eq hI hF hA (show v1.toInt = w1.toInt ∧ v2.toInt = w2.toInt ∧ v3.toInt = dv (A0 24 w1.toInt) ∧ v4.toInt = pr (A0 24 w1.toInt) - 1 ∧ v5.toInt = pr (A0 24 w2.toInt) - 1 by omega) (show 0 ≤ (0 : Int32).toInt ∧ (0 : Int32).toInt < v4.toInt by omega) (show 0 ≤ (0 : Int32).toInt ∧ (0 : Int32).toInt ≤ v5.toInt by omega) (by rw [show (0 : Int32).toInt = 0 by decide, show v5.toInt = v6.toInt by omega]; rw [show v5.toInt = v6.toInt by omega] at i3; exact i3) (show (F 27) ≤ 400 by omega)
    · refine k_c2 128 rfl rfl (if_neg b43) ?_
      have b43 := mt iv_le.mpr b43
      have hE9 : gE (4 * w2.toInt + (v6.toInt + 1)) := (p8 _).mpr (Or.inr ⟨by omega, by omega⟩)
      have hw9 := i3.1.lt (i3.1.2.2.1 (4 * w2.toInt + (v6.toInt + 1)) (Or.inr ⟨hE9, by omega, by omega⟩)).1
      refine k_aload 129 rfl g0 rfl ?_
      refine r_gA hI 132 rfl rfl rfl ?_
      refine k_iload 134 rfl g6 rfl ?_
      refine k_aload 135 rfl g0 rfl ?_
      refine k_aload 136 rfl g0 rfl ?_
      refine r_gA hI 139 rfl rfl rfl ?_
      refine k_iload 140 rfl g1 rfl ?_
      refine r_ld 24 hI 141 rfl rfl (by omega) (show v1.toInt < 8010 by omega) rfl (fun x46 (e47 : x46.toInt = A 24 v1.toInt) => ?_)
      refine k_aload 142 rfl g0 rfl ?_
      refine r_gA hI 145 rfl rfl rfl ?_
      refine k_iload 146 rfl g1 rfl ?_
      refine r_ld 25 hI 147 rfl rfl (by omega) (show v1.toInt < 8010 by omega) rfl (fun x48 (e49 : x48.toInt = A 25 v1.toInt) => ?_)
      have hl9 : x48.toInt = A0 25 w1.toInt := by rw [e49, i1.1]; exact (i5 _ (by omega)).2
      have hk9 : x46.toInt = A0 24 w1.toInt := by rw [e47, i1.1]; exact (i5 _ (by omega)).1
      obtain ⟨r1, r2, r3, r4, r5⟩ := i3.1.room (show F 27 < 400 by omega)
      refine k_rq hI rfl (m_newNode (gB := 400) hI.1 (show 0 ≤ (F 28) ∧ (F 28) ≤ (400) ∧ (400) ≤ 8000 ∧ 0 ≤ (F 27) ∧ (F 27) ≤ 10000 by omega) (show (∀ q : Int, 0 ≤ q → q < (F 28) → (A 24) q ≠ -1) → (F 28) < (400) from r5)) rfl rfl rfl hI.rc ?_
      rintro x50 h51 F52 A53 I54 ⟨k56, k57, p55⟩
      replace p55 : (0 ≤ x50.toInt ∧ F52 28 ≤ (400) ∧ F52 27 = (F 27) + 1) ∧ (A53 24 x50.toInt = x46.toInt ∧ A53 25 x50.toInt = x48.toInt) ∧ (∀ y : Int, y ≠ x50.toInt → A53 24 y = (A 24) y ∧ A53 25 y = (A 25) y) ∧ ((x50.toInt = (F 28) ∧ F52 28 = (F 28) + 1) ∨ (x50.toInt < (F 28) ∧ (A 24) x50.toInt = -1 ∧ F52 28 = (F 28))) := p55
      obtain ⟨p55a, p55b, p55c, p55d⟩ := p55
      show am_Ok _ _ _ (150, _, [.inl x50, .inl v6, .inr (.inr (some (rf_ad 41)))], _, 0, 0) _
      obtain ⟨xn, hxn⟩ : ∃ z : Int, z = x50.toInt := ⟨_, rfl⟩
      rw [← hxn] at p55a p55b p55c p55d
      have hq26 : (A53 26) = A 26 := (k57 26 (by decide))
      have hq40 : (A53 41) = A 41 := (k57 41 (by decide))
      refine r_st 41 I54 151 rfl rfl (by omega) (show v6.toInt < 2 by omega) rfl (fun h58 I59 => ?_)
      have hc1 : ((up2 A53 41 v6.toInt x50.toInt) 41) v6.toInt = xn := up2_eq.trans hxn.symm
      have hc2 : ∀ t : Int, t ≠ v6.toInt → ((up2 A53 41 v6.toInt x50.toInt) 41) t = A 41 t := fun t ht => (up2_ne ht).trans (congrFun hq40 t)
      refine k_aload 152 rfl g0 rfl ?_
      refine k_push 153 rfl rfl ?_
      have hc60 : (4 : Int32).toInt = 4 := by decide
      refine k_iload 154 rfl g2 rfl ?_
      obtain ⟨x61, q62⟩ : ∃ q : Int32, q = ((4 : Int32) * v2) := ⟨_, rfl⟩
      have e63 : x61.toInt = 4 * v2.toInt := by rw [q62]; exact iv_mulc 4 (by decide) (by omega) (by omega)
      refine k_bin x61 155 rfl q62.symm rfl ?_
      refine k_iload 157 rfl g6 rfl ?_
      obtain ⟨x64, q65⟩ : ∃ q : Int32, q = (x61 + v6) := ⟨_, rfl⟩
      have e66 : x64.toInt = x61.toInt + v6.toInt := by rw [q65, iv_add (by omega) (by omega)]
      refine k_bin x64 158 rfl q65.symm rfl ?_
      refine k_push 159 rfl rfl ?_
      have hc67 : (1 : Int32).toInt = 1 := by decide
      obtain ⟨x68, q69⟩ : ∃ q : Int32, q = (x64 + (1 : Int32)) := ⟨_, rfl⟩
      have e70 : x68.toInt = x64.toInt + 1 := by rw [q69, iv_add (by omega) (by omega)]; omega
      refine k_bin x68 160 rfl q69.symm rfl ?_
      refine k_push 161 rfl rfl ?_
      refine k_aload 162 rfl g0 rfl ?_
      refine r_gA I59 165 rfl rfl rfl ?_
      refine k_iload 167 rfl g6 rfl ?_
      refine r_ld 41 I59 168 rfl rfl (by omega) (show v6.toInt < 2 by omega) rfl (fun x71 (e72 : x71.toInt = (up2 A53 41 v6.toInt x50.toInt) 41 v6.toInt) => ?_)
      have hy9 : x71.toInt = xn := e72.trans hc1
      obtain ⟨x73, q74⟩ : ∃ q : Int32, q = ((4 : Int32) * x71) := ⟨_, rfl⟩
      have e75 : x73.toInt = 4 * x71.toInt := by rw [q74]; exact iv_mulc 4 (by decide) (by omega) (by omega)
      refine k_bin x73 169 rfl q74.symm rfl ?_
      refine k_rv I59 rfl (m_inPlaceOf  I59.1 (show 0 ≤ x68.toInt ∧ x68.toInt < 32040 ∧ 0 ≤ x73.toInt ∧ x73.toInt < 32040 by omega) (by rw [up2_r (by decide), hq26, show x68.toInt = 4 * w2.toInt + (v6.toInt + 1) by omega]; omega)) rfl rfl rfl I59.rc ?_
      rintro h77 F78 A79 I80 ⟨k82, k83, p81⟩
      replace p81 : A79 26 ((A53 26) x68.toInt) = x73.toInt ∧ (x73.toInt ≠ (A53 26) x68.toInt → A79 26 x73.toInt = (A53 26) x68.toInt) ∧ (∀ x : Int, x ≠ x73.toInt → x ≠ (A53 26) x68.toInt → A79 26 x = (A53 26) x) := p81
      obtain ⟨p81a, p81b, p81c⟩ := p81
      have k82 := fr1.nil k82
      subst k82
      show am_Ok _ _ _ (172, _, [], _, 0, 0) _
      rw [hq26] at p81a p81b p81c
      obtain ⟨x84, q85⟩ : ∃ q : Int32, q = v6 + (1 : Int32) := ⟨_, rfl⟩
      have e86 : x84.toInt = v6.toInt + 1 := by rw [q85, iv_add (by omega) (by omega)]; omega
      refine k_iinc x84 175 rfl g6 q85.symm rfl ?_
      refine k_goto 121 rfl rfl ?_
      have hth9 : th (A79 24) (A79 25) (A79 26) (ln lm1 xn (lm (4 * w2.toInt + (v6.toInt + 1))) (lm (4 * w2.toInt + (v6.toInt + 1)) + v3.toInt) (lm (4 * w2.toInt + (v6.toInt + 1)) + v3.toInt)) (F52 28) gT gE lm (A79 40) (A79 41) w1.toInt w2.toInt v4.toInt v5.toInt v3.toInt v4.toInt x84.toInt 0 0 (F52 27) := by rw [show x84.toInt = v6.toInt + 1 by omega, (k83 24 (by decide)), (k83 25 (by decide)), ((k83 40 (by decide)).trans (k57 40 (by decide))), (k83 41 (by decide))]; exact i3.pass (k := A0 24 w1.toInt) (l := A0 25 w1.toInt) (p := x68.toInt) (q := x73.toInt) ⟨by omega, by omega⟩ p55a.1 p55a.2.1 ⟨p55b.1.trans hk9, p55b.2.trans hl9⟩ p55c p55d ⟨by omega, by omega⟩ ⟨by omega, by omega⟩ (by rw [i1.2.2.1]; exact th_ps p6 p3 p4.2.1 ⟨by omega, by omega⟩) p55a.2.2 (by omega) (by omega) hE9 rfl (by omega) (by omega) (by omega) p81a p81b p81c hc1 hc2
      exact ih _ (show ((2 - x84.toInt).toNat) < n by omega) (lm1 := ln lm1 xn (lm (4 * w2.toInt + (v6.toInt + 1))) (lm (4 * w2.toInt + (v6.toInt + 1)) + v3.toInt) (lm (4 * w2.toInt + (v6.toInt + 1)) + v3.toInt)) rfl (gs_ne rfl rfl g0) (gs_ne rfl rfl g1) (gs_ne rfl rfl g2) (gs_ne rfl rfl g3) (gs_ne rfl rfl g4) (gs_ne rfl rfl g5) gs_eq I80 (fr1.tr (by decide) hF k56) (fr2.tr (by decide) (fr2.up (by decide) (fr2.tr (by decide) hA k57)) k83) (show v1.toInt = w1.toInt ∧ v2.toInt = w2.toInt ∧ v3.toInt = dv (A0 24 w1.toInt) ∧ v4.toInt = pr (A0 24 w1.toInt) - 1 ∧ v5.toInt = pr (A0 24 w2.toInt) - 1 by omega) (show 0 ≤ x84.toInt ∧ x84.toInt ≤ v5.toInt by omega) (show th ((A79 24)) ((A79 25)) ((A79 26)) (ln lm1 xn (lm (4 * w2.toInt + (v6.toInt + 1))) (lm (4 * w2.toInt + (v6.toInt + 1)) + v3.toInt) (lm (4 * w2.toInt + (v6.toInt + 1)) + v3.toInt)) ((F52 28)) gT gE lm ((A79 40)) ((A79 41)) w1.toInt w2.toInt v4.toInt v5.toInt v3.toInt v4.toInt x84.toInt 0 0 ((F52 27)) from hth9) (show (F52 27) = F0 27 + v4.toInt + x84.toInt by omega) (fun y hy => by rw [(k83 24 (by decide)), (k83 25 (by decide))]; exact ⟨(p55c y (by omega)).1.trans (i5 y hy).1, (p55c y (by omega)).2.trans (i5 y hy).2⟩)
theorem b_X10_goesThrough_59 {h0 : am_h} {F0 : rf_f} {A0 : rf_A} {w1 : Int32} {w2 : Int32} {lm : Int → Int} {gT : Int} {gE : Int → Prop} (p1 : sn (A0 24) (A0 25) (A0 26) lm (F0 28) gT gE (fun _ => False) (F0 27)) (p2 : (w1.toInt = 8000 ∧ w2.toInt = 8001) ∨ (w1.toInt = 8001 ∧ w2.toInt = 8000)) (p3 : 3 ≤ (A0 24 w1.toInt) ∧ (A0 24 w1.toInt) ≤ 5 ∧ 1 ≤ (A0 24 w2.toInt) ∧ (A0 24 w2.toInt) ≤ 5) (p4 : 0 ≤ A0 25 w1.toInt ∧ A0 25 w1.toInt < A0 25 w2.toInt ∧ A0 25 w2.toInt + 1 ≤ gT ∧ gT ≤ 2000000) (p5 : tl (A0 24 w1.toInt) (A0 25 w1.toInt) (lm (4 * w1.toInt)) (lm (4 * w1.toInt + 1)) (lm (4 * w1.toInt + 2))) (p6 : tl (A0 24 w2.toInt) (A0 25 w2.toInt) (lm (4 * w2.toInt)) (lm (4 * w2.toInt + 1)) (lm (4 * w2.toInt + 2))) (p7 : lm (4 * w1.toInt) = lm (4 * w2.toInt)) (p8 : ∀ x : Int, gE x ↔ ((x / 4 = w1.toInt ∧ x % 4 < pr (A0 24 w1.toInt)) ∨ (x / 4 = w2.toInt ∧ x % 4 < pr (A0 24 w2.toInt)))) (p9 : F0 27 + pr (A0 24 w1.toInt) + pr (A0 24 w2.toInt) ≤ 402) (pa : A0 26 32000 = 32004) : ∀ (n : Nat) {lv : am_l} {h : am_h} {F : rf_f} {A : rf_A} {v1 : Int32} {v2 : Int32} {v3 : Int32} {v4 : Int32} {v5 : Int32} {v6 : Int32} {lm1 : Int → Int}, ((2 - v6.toInt).toNat) = n → am_get lv 0 = some (.inr (.inr (some 81))) → am_get lv 1 = some (.inl v1) → am_get lv 2 = some (.inl v2) → am_get lv 3 = some (.inl v3) → am_get lv 4 = some (.inl v4) → am_get lv 5 = some (.inl v5) → am_get lv 6 = some (.inl v6) → rf_I h0 h F A → fr1 [28, 27] F0 F → fr2 [24, 25, 26, 40, 41] A0 A → (v1.toInt = w1.toInt ∧ v2.toInt = w2.toInt ∧ v3.toInt = dv (A0 24 w1.toInt) ∧ v4.toInt = pr (A0 24 w1.toInt) - 1 ∧ v5.toInt = pr (A0 24 w2.toInt) - 1) → (0 ≤ v6.toInt ∧ v6.toInt ≤ v4.toInt) → (th (A 24) (A 25) (A 26) lm1 (F 28) gT gE lm (A 40) (A 41) w1.toInt w2.toInt v4.toInt v5.toInt v3.toInt v6.toInt 0 0 0 (F 27)) → (F 27 = F0 27 + v6.toInt) → (∀ y : Int, 8000 ≤ y → A 24 y = A0 24 y ∧ A 25 y = A0 25 y) → am_Ok am_G 2 215 (59, lv, [], h, 0, 0) (rf_V h0 (fun F' A' => fr1 [28, 27] F0 F' ∧ fr2 [24, 25, 26, 40, 41] A0 A' ∧ ((∃ lm', sn (A' 24) (A' 25) (A' 26) lm' (F' 28) gT (fun x => gE x ∧ x % 4 = 0) (fun _ => False) (F' 27)) ∧ A' 26 32000 = 32004 ∧ F' 27 ≤ 400))) := by
  intro n
  induction n using Nat.strongRecOn with
  | ind n ih =>
    intro lv h F A v1 v2 v3 v4 v5 v6 lm1 hn g0 g1 g2 g3 g4 g5 g6 hI hF hA i1 i2 i3 i4 i5
    have hdv := dv_le (A0 24 w1.toInt)
    have hpr1 := pr_25 (A0 24 w1.toInt) p3.1 p3.2.1
    have hpr2 := pr_15 (A0 24 w2.toInt) p3.2.2.1 p3.2.2.2
    refine k_iload 61 rfl g6 rfl ?_
    refine k_iload 63 rfl g4 rfl ?_
    by_cases b87 : v4 ≤ v6
    · refine k_c2 118 rfl rfl (if_pos b87) ?_
      have b87 := iv_le.mp b87
      refine k_push 119 rfl rfl ?_
      have hc88 : (0 : Int32).toInt = 0 := by decide
      refine k_istore 121 rfl rfl ?_
      exact b_X10_goesThrough_121 (lm := lm) (gT := gT) (gE := gE) (w1 := w1) (w2 := w2) p1 p2 p3 p4 p5 p6 p7 p8 p9 pa _ (lm1 := lm1) rfl (gs_ne rfl rfl g0) (gs_ne rfl rfl g1) (gs_ne rfl rfl g2) (gs_ne rfl rfl g3) (gs_ne rfl rfl g4) (gs_ne rfl rfl g5) gs_eq hI hF hA (show v1.toInt = w1.toInt ∧ v2.toInt = w2.toInt ∧ v3.toInt = dv (A0 24 w1.toInt) ∧ v4.toInt = pr (A0 24 w1.toInt) - 1 ∧ v5.toInt = pr (A0 24 w2.toInt) - 1 by omega) (show 0 ≤ (0 : Int32).toInt ∧ (0 : Int32).toInt ≤ v5.toInt by omega) (by rw [show (0 : Int32).toInt = 0 by decide, show v4.toInt = v6.toInt by omega]; rw [show v4.toInt = v6.toInt by omega] at i3; exact i3) (show (F 27) = F0 27 + v4.toInt + (0 : Int32).toInt by omega) (show ∀ y : Int, 8000 ≤ y → (A 24) y = A0 24 y ∧ (A 25) y = A0 25 y from i5)
    · refine k_c2 66 rfl rfl (if_neg b87) ?_
      have b87 := mt iv_le.mpr b87
      have hE9 : gE (4 * w1.toInt + (v6.toInt + 1)) := (p8 _).mpr (Or.inl ⟨by omega, by omega⟩)
      have hw9 := i3.1.lt (i3.1.2.2.1 (4 * w1.toInt + (v6.toInt + 1)) (Or.inr ⟨hE9, by omega, by omega⟩)).1
      refine k_aload 67 rfl g0 rfl ?_
      refine r_gA hI 70 rfl rfl rfl ?_
      refine k_iload 72 rfl g6 rfl ?_
      refine k_aload 73 rfl g0 rfl ?_
      refine k_aload 74 rfl g0 rfl ?_
      refine r_gA hI 77 rfl rfl rfl ?_
      refine k_iload 78 rfl g2 rfl ?_
      refine r_ld 24 hI 79 rfl rfl (by omega) (show v2.toInt < 8010 by omega) rfl (fun x89 (e90 : x89.toInt = A 24 v2.toInt) => ?_)
      refine k_aload 80 rfl g0 rfl ?_
      refine r_gA hI 83 rfl rfl rfl ?_
      refine k_iload 84 rfl g2 rfl ?_
      refine r_ld 25 hI 85 rfl rfl (by omega) (show v2.toInt < 8010 by omega) rfl (fun x91 (e92 : x91.toInt = A 25 v2.toInt) => ?_)
      have hl9 : x91.toInt = A0 25 w2.toInt := by rw [e92, i1.2.1]; exact (i5 _ (by omega)).2
      refine k_iload 86 rfl g3 rfl ?_
      obtain ⟨x93, q94⟩ : ∃ q : Int32, q = (x91 + v3) := ⟨_, rfl⟩
      have e95 : x93.toInt = x91.toInt + v3.toInt := by rw [q94, iv_add (by omega) (by omega)]
      refine k_bin x93 87 rfl q94.symm rfl ?_
      have hk9 : x89.toInt = A0 24 w2.toInt := by rw [e90, i1.2.1]; exact (i5 _ (by omega)).1
      obtain ⟨r1, r2, r3, r4, r5⟩ := i3.1.room (show F 27 < 400 by omega)
      refine k_rq hI rfl (m_newNode (gB := 400) hI.1 (show 0 ≤ (F 28) ∧ (F 28) ≤ (400) ∧ (400) ≤ 8000 ∧ 0 ≤ (F 27) ∧ (F 27) ≤ 10000 by omega) (show (∀ q : Int, 0 ≤ q → q < (F 28) → (A 24) q ≠ -1) → (F 28) < (400) from r5)) rfl rfl rfl hI.rc ?_
      rintro x96 h97 F98 A99 I100 ⟨k102, k103, p101⟩
      replace p101 : (0 ≤ x96.toInt ∧ F98 28 ≤ (400) ∧ F98 27 = (F 27) + 1) ∧ (A99 24 x96.toInt = x89.toInt ∧ A99 25 x96.toInt = x93.toInt) ∧ (∀ y : Int, y ≠ x96.toInt → A99 24 y = (A 24) y ∧ A99 25 y = (A 25) y) ∧ ((x96.toInt = (F 28) ∧ F98 28 = (F 28) + 1) ∨ (x96.toInt < (F 28) ∧ (A 24) x96.toInt = -1 ∧ F98 28 = (F 28))) := p101
      obtain ⟨p101a, p101b, p101c, p101d⟩ := p101
      show am_Ok _ _ _ (90, _, [.inl x96, .inl v6, .inr (.inr (some (rf_ad 40)))], _, 0, 0) _
      obtain ⟨xn, hxn⟩ : ∃ z : Int, z = x96.toInt := ⟨_, rfl⟩
      rw [← hxn] at p101a p101b p101c p101d
      have hq26 : (A99 26) = A 26 := (k103 26 (by decide))
      have hq40 : (A99 40) = A 40 := (k103 40 (by decide))
      refine r_st 40 I100 91 rfl rfl (by omega) (show v6.toInt < 2 by omega) rfl (fun h104 I105 => ?_)
      have hc1 : ((up2 A99 40 v6.toInt x96.toInt) 40) v6.toInt = xn := up2_eq.trans hxn.symm
      have hc2 : ∀ t : Int, t ≠ v6.toInt → ((up2 A99 40 v6.toInt x96.toInt) 40) t = A 40 t := fun t ht => (up2_ne ht).trans (congrFun hq40 t)
      refine k_aload 92 rfl g0 rfl ?_
      refine k_push 93 rfl rfl ?_
      have hc106 : (4 : Int32).toInt = 4 := by decide
      refine k_iload 94 rfl g1 rfl ?_
      obtain ⟨x107, q108⟩ : ∃ q : Int32, q = ((4 : Int32) * v1) := ⟨_, rfl⟩
      have e109 : x107.toInt = 4 * v1.toInt := by rw [q108]; exact iv_mulc 4 (by decide) (by omega) (by omega)
      refine k_bin x107 95 rfl q108.symm rfl ?_
      refine k_iload 97 rfl g6 rfl ?_
      obtain ⟨x110, q111⟩ : ∃ q : Int32, q = (x107 + v6) := ⟨_, rfl⟩
      have e112 : x110.toInt = x107.toInt + v6.toInt := by rw [q111, iv_add (by omega) (by omega)]
      refine k_bin x110 98 rfl q111.symm rfl ?_
      refine k_push 99 rfl rfl ?_
      have hc113 : (1 : Int32).toInt = 1 := by decide
      obtain ⟨x114, q115⟩ : ∃ q : Int32, q = (x110 + (1 : Int32)) := ⟨_, rfl⟩
      have e116 : x114.toInt = x110.toInt + 1 := by rw [q115, iv_add (by omega) (by omega)]; omega
      refine k_bin x114 100 rfl q115.symm rfl ?_
      refine k_push 101 rfl rfl ?_
      refine k_aload 102 rfl g0 rfl ?_
      refine r_gA I105 105 rfl rfl rfl ?_
      refine k_iload 107 rfl g6 rfl ?_
      refine r_ld 40 I105 108 rfl rfl (by omega) (show v6.toInt < 2 by omega) rfl (fun x117 (e118 : x117.toInt = (up2 A99 40 v6.toInt x96.toInt) 40 v6.toInt) => ?_)
      have hy9 : x117.toInt = xn := e118.trans hc1
      obtain ⟨x119, q120⟩ : ∃ q : Int32, q = ((4 : Int32) * x117) := ⟨_, rfl⟩
      have e121 : x119.toInt = 4 * x117.toInt := by rw [q120]; exact iv_mulc 4 (by decide) (by omega) (by omega)
      refine k_bin x119 109 rfl q120.symm rfl ?_
      refine k_rv I105 rfl (m_inPlaceOf  I105.1 (show 0 ≤ x114.toInt ∧ x114.toInt < 32040 ∧ 0 ≤ x119.toInt ∧ x119.toInt < 32040 by omega) (by rw [up2_r (by decide), hq26, show x114.toInt = 4 * w1.toInt + (v6.toInt + 1) by omega]; omega)) rfl rfl rfl I105.rc ?_
      rintro h123 F124 A125 I126 ⟨k128, k129, p127⟩
      replace p127 : A125 26 ((A99 26) x114.toInt) = x119.toInt ∧ (x119.toInt ≠ (A99 26) x114.toInt → A125 26 x119.toInt = (A99 26) x114.toInt) ∧ (∀ x : Int, x ≠ x119.toInt → x ≠ (A99 26) x114.toInt → A125 26 x = (A99 26) x) := p127
      obtain ⟨p127a, p127b, p127c⟩ := p127
      have k128 := fr1.nil k128
      subst k128
      show am_Ok _ _ _ (112, _, [], _, 0, 0) _
      rw [hq26] at p127a p127b p127c
      obtain ⟨x130, q131⟩ : ∃ q : Int32, q = v6 + (1 : Int32) := ⟨_, rfl⟩
      have e132 : x130.toInt = v6.toInt + 1 := by rw [q131, iv_add (by omega) (by omega)]; omega
      refine k_iinc x130 115 rfl g6 q131.symm rfl ?_
      refine k_goto 59 rfl rfl ?_
      have hth9 : th (A125 24) (A125 25) (A125 26) (ln lm1 xn (lm (4 * w2.toInt) + v3.toInt) (lm (4 * w2.toInt + 1) + v3.toInt) (lm (4 * w2.toInt + 2) + v3.toInt)) (F98 28) gT gE lm (A125 40) (A125 41) w1.toInt w2.toInt v4.toInt v5.toInt v3.toInt x130.toInt 0 0 0 (F98 27) := by rw [show x130.toInt = v6.toInt + 1 by omega, (k129 24 (by decide)), (k129 25 (by decide)), (k129 40 (by decide)), ((k129 41 (by decide)).trans (k103 41 (by decide)))]; exact i3.copy (k := A0 24 w2.toInt) (l := A0 25 w2.toInt + v3.toInt) (p := x114.toInt) (q := x119.toInt) ⟨by omega, by omega⟩ p101a.1 p101a.2.1 ⟨p101b.1.trans hk9, p101b.2.trans (by omega)⟩ p101c p101d ⟨by omega, by omega⟩ ⟨by omega, by omega⟩ (th_hi p6 p3.2.2) p101a.2.2 (by omega) (by omega) hE9 (by rw [th_lo p5 ⟨p3.1, p3.2.1⟩ ⟨by omega, by omega⟩, p7, i1.2.2.1]) (by omega) (by omega) (by omega) p127a p127b p127c hc1 hc2
      exact ih _ (show ((2 - x130.toInt).toNat) < n by omega) (lm1 := ln lm1 xn (lm (4 * w2.toInt) + v3.toInt) (lm (4 * w2.toInt + 1) + v3.toInt) (lm (4 * w2.toInt + 2) + v3.toInt)) rfl (gs_ne rfl rfl g0) (gs_ne rfl rfl g1) (gs_ne rfl rfl g2) (gs_ne rfl rfl g3) (gs_ne rfl rfl g4) (gs_ne rfl rfl g5) gs_eq I126 (fr1.tr (by decide) hF k102) (fr2.tr (by decide) (fr2.up (by decide) (fr2.tr (by decide) hA k103)) k129) (show v1.toInt = w1.toInt ∧ v2.toInt = w2.toInt ∧ v3.toInt = dv (A0 24 w1.toInt) ∧ v4.toInt = pr (A0 24 w1.toInt) - 1 ∧ v5.toInt = pr (A0 24 w2.toInt) - 1 by omega) (show 0 ≤ x130.toInt ∧ x130.toInt ≤ v4.toInt by omega) (show th ((A125 24)) ((A125 25)) ((A125 26)) (ln lm1 xn (lm (4 * w2.toInt) + v3.toInt) (lm (4 * w2.toInt + 1) + v3.toInt) (lm (4 * w2.toInt + 2) + v3.toInt)) ((F98 28)) gT gE lm ((A125 40)) ((A125 41)) w1.toInt w2.toInt v4.toInt v5.toInt v3.toInt x130.toInt 0 0 0 ((F98 27)) from hth9) (show (F98 27) = F0 27 + x130.toInt by omega) (fun y hy => by rw [(k129 24 (by decide)), (k129 25 (by decide))]; exact ⟨(p101c y (by omega)).1.trans (i5 y hy).1, (p101c y (by omega)).2.trans (i5 y hy).2⟩)
theorem m_goesThrough {h0 : am_h} {F0 : rf_f} {A0 : rf_A} {w1 : Int32} {w2 : Int32} {lm : Int → Int} {gT : Int} {gE : Int → Prop} (hR : rf_R h0 F0 A0) (p1 : sn (A0 24) (A0 25) (A0 26) lm (F0 28) gT gE (fun _ => False) (F0 27)) (p2 : (w1.toInt = 8000 ∧ w2.toInt = 8001) ∨ (w1.toInt = 8001 ∧ w2.toInt = 8000)) (p3 : 3 ≤ (A0 24 w1.toInt) ∧ (A0 24 w1.toInt) ≤ 5 ∧ 1 ≤ (A0 24 w2.toInt) ∧ (A0 24 w2.toInt) ≤ 5) (p4 : 0 ≤ A0 25 w1.toInt ∧ A0 25 w1.toInt < A0 25 w2.toInt ∧ A0 25 w2.toInt + 1 ≤ gT ∧ gT ≤ 2000000) (p5 : tl (A0 24 w1.toInt) (A0 25 w1.toInt) (lm (4 * w1.toInt)) (lm (4 * w1.toInt + 1)) (lm (4 * w1.toInt + 2))) (p6 : tl (A0 24 w2.toInt) (A0 25 w2.toInt) (lm (4 * w2.toInt)) (lm (4 * w2.toInt + 1)) (lm (4 * w2.toInt + 2))) (p7 : lm (4 * w1.toInt) = lm (4 * w2.toInt)) (p8 : ∀ x : Int, gE x ↔ ((x / 4 = w1.toInt ∧ x % 4 < pr (A0 24 w1.toInt)) ∨ (x / 4 = w2.toInt ∧ x % 4 < pr (A0 24 w2.toInt)))) (p9 : F0 27 + pr (A0 24 w1.toInt) + pr (A0 24 w2.toInt) ≤ 402) (pa : A0 26 32000 = 32004) : am_Mt 3 215 [.inr (.inr (some 81)), .inl w1, .inl w2] h0 (rf_V h0 (fun F' A' => fr1 [28, 27] F0 F' ∧ fr2 [24, 25, 26, 40, 41] A0 A' ∧ ((∃ lm', sn (A' 24) (A' 25) (A' 26) lm' (F' 28) gT (fun x => gE x ∧ x % 4 = 0) (fun _ => False) (F' 27)) ∧ A' 26 32000 = 32004 ∧ F' 27 ≤ 400))) := by
  refine am_Mt.of (D := 2) ?_
  have hI : rf_I h0 h0 F0 A0 := rf_I.start hR
  have hdv := dv_le (A0 24 w1.toInt)
  have hpr1 := pr_25 (A0 24 w1.toInt) p3.1 p3.2.1
  have hpr2 := pr_15 (A0 24 w2.toInt) p3.2.2.1 p3.2.2.2
  refine k_aload 1 rfl rfl rfl ?_
  refine r_gA hI 4 rfl rfl rfl ?_
  refine k_iload 5 rfl rfl rfl ?_
  refine r_ld 24 hI 6 rfl rfl (by omega) (show w1.toInt < 8010 by omega) rfl (fun x133 (e134 : x133.toInt = A0 24 w1.toInt) => ?_)
  refine k_push 7 rfl rfl ?_
  have hc135 : (4 : Int32).toInt = 4 := by decide
  by_cases b136 : x133 = (4 : Int32)
  · refine k_c2 10 rfl rfl (if_pos b136) ?_
    have b136 := iv_eq.mp b136
    refine k_push 11 rfl rfl ?_
    have hc137 : (1 : Int32).toInt = 1 := by decide
    refine k_goto 29 rfl rfl ?_
    refine k_istore 30 rfl rfl ?_
    refine k_aload 31 rfl (gs_ne rfl rfl rfl) rfl ?_
    refine r_gA hI 34 rfl rfl rfl ?_
    refine k_iload 35 rfl (gs_ne rfl rfl rfl) rfl ?_
    refine r_ld 24 hI 36 rfl rfl (by omega) (show w1.toInt < 8010 by omega) rfl (fun x138 (e139 : x138.toInt = A0 24 w1.toInt) => ?_)
    refine k_rq hI rfl (m_portsOf  hI.1 ) rfl rfl rfl rfl ?_
    rintro x140 h141 F142 A143 I144 ⟨k146, k147, p145⟩
    replace p145 : x140.toInt = pr x138.toInt := p145
    have k146 := fr1.nil k146
    subst k146
    have k147 := fr2.nil k147
    subst k147
    show am_Ok _ _ _ (39, _, [.inl x140], _, 0, 0) _
    have hpa9 : x140.toInt = pr (A0 24 w1.toInt) := by rw [p145, e139]
    refine k_push 40 rfl rfl ?_
    obtain ⟨x148, q149⟩ : ∃ q : Int32, q = (x140 - (1 : Int32)) := ⟨_, rfl⟩
    have e150 : x148.toInt = x140.toInt - 1 := by rw [q149, iv_sub (by omega) (by omega)]; omega
    refine k_bin x148 41 rfl q149.symm rfl ?_
    refine k_istore 43 rfl rfl ?_
    refine k_aload 44 rfl (gs_ne rfl rfl (gs_ne rfl rfl rfl)) rfl ?_
    refine r_gA I144 47 rfl rfl rfl ?_
    refine k_iload 48 rfl (gs_ne rfl rfl (gs_ne rfl rfl rfl)) rfl ?_
    refine r_ld 24 I144 49 rfl rfl (by omega) (show w2.toInt < 8010 by omega) rfl (fun x151 (e152 : x151.toInt = A0 24 w2.toInt) => ?_)
    refine k_rq I144 rfl (m_portsOf  I144.1 ) rfl rfl rfl rfl ?_
    rintro x153 h154 F155 A156 I157 ⟨k159, k160, p158⟩
    replace p158 : x153.toInt = pr x151.toInt := p158
    have k159 := fr1.nil k159
    subst k159
    have k160 := fr2.nil k160
    subst k160
    show am_Ok _ _ _ (52, _, [.inl x153], _, 0, 0) _
    have hpb9 : x153.toInt = pr (A0 24 w2.toInt) := by rw [p158, e152]
    refine k_push 53 rfl rfl ?_
    obtain ⟨x161, q162⟩ : ∃ q : Int32, q = (x153 - (1 : Int32)) := ⟨_, rfl⟩
    have e163 : x161.toInt = x153.toInt - 1 := by rw [q162, iv_sub (by omega) (by omega)]; omega
    refine k_bin x161 54 rfl q162.symm rfl ?_
    refine k_istore 56 rfl rfl ?_
    refine k_push 57 rfl rfl ?_
    have hc164 : (0 : Int32).toInt = 0 := by decide
    refine k_istore 59 rfl rfl ?_
    have hdv9 : (1 : Int32).toInt = dv (A0 24 w1.toInt) := by unfold dv; split <;> (try split) <;> omega
    exact b_X10_goesThrough_59 (lm := lm) (gT := gT) (gE := gE) (w1 := w1) (w2 := w2) p1 p2 p3 p4 p5 p6 p7 p8 p9 pa _ (lm1 := lm) rfl (gs_ne rfl rfl (gs_ne rfl rfl (gs_ne rfl rfl (gs_ne rfl rfl rfl)))) (gs_ne rfl rfl (gs_ne rfl rfl (gs_ne rfl rfl (gs_ne rfl rfl rfl)))) (gs_ne rfl rfl (gs_ne rfl rfl (gs_ne rfl rfl (gs_ne rfl rfl rfl)))) (gs_ne rfl rfl (gs_ne rfl rfl (gs_ne rfl rfl gs_eq))) (gs_ne rfl rfl (gs_ne rfl rfl gs_eq)) (gs_ne rfl rfl gs_eq) gs_eq I157 fr1.rf fr2.rf (show w1.toInt = w1.toInt ∧ w2.toInt = w2.toInt ∧ (1 : Int32).toInt = dv (A0 24 w1.toInt) ∧ x148.toInt = pr (A0 24 w1.toInt) - 1 ∧ x161.toInt = pr (A0 24 w2.toInt) - 1 by omega) (show 0 ≤ (0 : Int32).toInt ∧ (0 : Int32).toInt ≤ x148.toInt by omega) (show th ((A0 24)) ((A0 25)) ((A0 26)) (lm) ((F0 28)) gT gE lm ((A0 40)) ((A0 41)) w1.toInt w2.toInt x148.toInt x161.toInt (1 : Int32).toInt (0 : Int32).toInt 0 0 0 ((F0 27)) from th.start p1 pa) (show (F0 27) = F0 27 + (0 : Int32).toInt by omega) (show ∀ y : Int, 8000 ≤ y → (A0 24) y = A0 24 y ∧ (A0 25) y = A0 25 y from fun y _ => ⟨rfl, rfl⟩)
  · refine k_c2 14 rfl rfl (if_neg b136) ?_
    have b136 := mt iv_eq.mpr b136
    refine k_aload 15 rfl rfl rfl ?_
    refine r_gA hI 18 rfl rfl rfl ?_
    refine k_iload 19 rfl rfl rfl ?_
    refine r_ld 24 hI 20 rfl rfl (by omega) (show w1.toInt < 8010 by omega) rfl (fun x165 (e166 : x165.toInt = A0 24 w1.toInt) => ?_)
    refine k_push 21 rfl rfl ?_
    have hc167 : (5 : Int32).toInt = 5 := by decide
    by_cases b168 : x165 = (5 : Int32)
    · refine k_c2 24 rfl rfl (if_pos b168) ?_
      have b168 := iv_eq.mp b168
      refine k_push 25 rfl rfl ?_
      have hc169 : (-1 : Int32).toInt = -1 := by decide
      refine k_goto 29 rfl rfl ?_
      refine k_istore 30 rfl rfl ?_
      refine k_aload 31 rfl (gs_ne rfl rfl rfl) rfl ?_
      refine r_gA hI 34 rfl rfl rfl ?_
      refine k_iload 35 rfl (gs_ne rfl rfl rfl) rfl ?_
      refine r_ld 24 hI 36 rfl rfl (by omega) (show w1.toInt < 8010 by omega) rfl (fun x170 (e171 : x170.toInt = A0 24 w1.toInt) => ?_)
      refine k_rq hI rfl (m_portsOf  hI.1 ) rfl rfl rfl rfl ?_
      rintro x172 h173 F174 A175 I176 ⟨k178, k179, p177⟩
      replace p177 : x172.toInt = pr x170.toInt := p177
      have k178 := fr1.nil k178
      subst k178
      have k179 := fr2.nil k179
      subst k179
      show am_Ok _ _ _ (39, _, [.inl x172], _, 0, 0) _
      have hpa9 : x172.toInt = pr (A0 24 w1.toInt) := by rw [p177, e171]
      refine k_push 40 rfl rfl ?_
      have hc180 : (1 : Int32).toInt = 1 := by decide
      obtain ⟨x181, q182⟩ : ∃ q : Int32, q = (x172 - (1 : Int32)) := ⟨_, rfl⟩
      have e183 : x181.toInt = x172.toInt - 1 := by rw [q182, iv_sub (by omega) (by omega)]; omega
      refine k_bin x181 41 rfl q182.symm rfl ?_
      refine k_istore 43 rfl rfl ?_
      refine k_aload 44 rfl (gs_ne rfl rfl (gs_ne rfl rfl rfl)) rfl ?_
      refine r_gA I176 47 rfl rfl rfl ?_
      refine k_iload 48 rfl (gs_ne rfl rfl (gs_ne rfl rfl rfl)) rfl ?_
      refine r_ld 24 I176 49 rfl rfl (by omega) (show w2.toInt < 8010 by omega) rfl (fun x184 (e185 : x184.toInt = A0 24 w2.toInt) => ?_)
      refine k_rq I176 rfl (m_portsOf  I176.1 ) rfl rfl rfl rfl ?_
      rintro x186 h187 F188 A189 I190 ⟨k192, k193, p191⟩
      replace p191 : x186.toInt = pr x184.toInt := p191
      have k192 := fr1.nil k192
      subst k192
      have k193 := fr2.nil k193
      subst k193
      show am_Ok _ _ _ (52, _, [.inl x186], _, 0, 0) _
      have hpb9 : x186.toInt = pr (A0 24 w2.toInt) := by rw [p191, e185]
      refine k_push 53 rfl rfl ?_
      obtain ⟨x194, q195⟩ : ∃ q : Int32, q = (x186 - (1 : Int32)) := ⟨_, rfl⟩
      have e196 : x194.toInt = x186.toInt - 1 := by rw [q195, iv_sub (by omega) (by omega)]; omega
      refine k_bin x194 54 rfl q195.symm rfl ?_
      refine k_istore 56 rfl rfl ?_
      refine k_push 57 rfl rfl ?_
      have hc197 : (0 : Int32).toInt = 0 := by decide
      refine k_istore 59 rfl rfl ?_
      have hdv9 : (-1 : Int32).toInt = dv (A0 24 w1.toInt) := by unfold dv; split <;> (try split) <;> omega
      exact b_X10_goesThrough_59 (lm := lm) (gT := gT) (gE := gE) (w1 := w1) (w2 := w2) p1 p2 p3 p4 p5 p6 p7 p8 p9 pa _ (lm1 := lm) rfl (gs_ne rfl rfl (gs_ne rfl rfl (gs_ne rfl rfl (gs_ne rfl rfl rfl)))) (gs_ne rfl rfl (gs_ne rfl rfl (gs_ne rfl rfl (gs_ne rfl rfl rfl)))) (gs_ne rfl rfl (gs_ne rfl rfl (gs_ne rfl rfl (gs_ne rfl rfl rfl)))) (gs_ne rfl rfl (gs_ne rfl rfl (gs_ne rfl rfl gs_eq))) (gs_ne rfl rfl (gs_ne rfl rfl gs_eq)) (gs_ne rfl rfl gs_eq) gs_eq I190 fr1.rf fr2.rf (show w1.toInt = w1.toInt ∧ w2.toInt = w2.toInt ∧ (-1 : Int32).toInt = dv (A0 24 w1.toInt) ∧ x181.toInt = pr (A0 24 w1.toInt) - 1 ∧ x194.toInt = pr (A0 24 w2.toInt) - 1 by omega) (show 0 ≤ (0 : Int32).toInt ∧ (0 : Int32).toInt ≤ x181.toInt by omega) (show th ((A0 24)) ((A0 25)) ((A0 26)) (lm) ((F0 28)) gT gE lm ((A0 40)) ((A0 41)) w1.toInt w2.toInt x181.toInt x194.toInt (-1 : Int32).toInt (0 : Int32).toInt 0 0 0 ((F0 27)) from th.start p1 pa) (show (F0 27) = F0 27 + (0 : Int32).toInt by omega) (show ∀ y : Int, 8000 ≤ y → (A0 24) y = A0 24 y ∧ (A0 25) y = A0 25 y from fun y _ => ⟨rfl, rfl⟩)
    · refine k_c2 28 rfl rfl (if_neg b168) ?_
      have b168 := mt iv_eq.mpr b168
      refine k_push 29 rfl rfl ?_
      have hc198 : (0 : Int32).toInt = 0 := by decide
      refine k_istore 30 rfl rfl ?_
      refine k_aload 31 rfl (gs_ne rfl rfl rfl) rfl ?_
      refine r_gA hI 34 rfl rfl rfl ?_
      refine k_iload 35 rfl (gs_ne rfl rfl rfl) rfl ?_
      refine r_ld 24 hI 36 rfl rfl (by omega) (show w1.toInt < 8010 by omega) rfl (fun x199 (e200 : x199.toInt = A0 24 w1.toInt) => ?_)
      refine k_rq hI rfl (m_portsOf  hI.1 ) rfl rfl rfl rfl ?_
      rintro x201 h202 F203 A204 I205 ⟨k207, k208, p206⟩
      replace p206 : x201.toInt = pr x199.toInt := p206
      have k207 := fr1.nil k207
      subst k207
      have k208 := fr2.nil k208
      subst k208
      show am_Ok _ _ _ (39, _, [.inl x201], _, 0, 0) _
      have hpa9 : x201.toInt = pr (A0 24 w1.toInt) := by rw [p206, e200]
      refine k_push 40 rfl rfl ?_
      have hc209 : (1 : Int32).toInt = 1 := by decide
      obtain ⟨x210, q211⟩ : ∃ q : Int32, q = (x201 - (1 : Int32)) := ⟨_, rfl⟩
      have e212 : x210.toInt = x201.toInt - 1 := by rw [q211, iv_sub (by omega) (by omega)]; omega
      refine k_bin x210 41 rfl q211.symm rfl ?_
      refine k_istore 43 rfl rfl ?_
      refine k_aload 44 rfl (gs_ne rfl rfl (gs_ne rfl rfl rfl)) rfl ?_
      refine r_gA I205 47 rfl rfl rfl ?_
      refine k_iload 48 rfl (gs_ne rfl rfl (gs_ne rfl rfl rfl)) rfl ?_
      refine r_ld 24 I205 49 rfl rfl (by omega) (show w2.toInt < 8010 by omega) rfl (fun x213 (e214 : x213.toInt = A0 24 w2.toInt) => ?_)
      refine k_rq I205 rfl (m_portsOf  I205.1 ) rfl rfl rfl rfl ?_
      rintro x215 h216 F217 A218 I219 ⟨k221, k222, p220⟩
      replace p220 : x215.toInt = pr x213.toInt := p220
      have k221 := fr1.nil k221
      subst k221
      have k222 := fr2.nil k222
      subst k222
      show am_Ok _ _ _ (52, _, [.inl x215], _, 0, 0) _
      have hpb9 : x215.toInt = pr (A0 24 w2.toInt) := by rw [p220, e214]
      refine k_push 53 rfl rfl ?_
      obtain ⟨x223, q224⟩ : ∃ q : Int32, q = (x215 - (1 : Int32)) := ⟨_, rfl⟩
      have e225 : x223.toInt = x215.toInt - 1 := by rw [q224, iv_sub (by omega) (by omega)]; omega
      refine k_bin x223 54 rfl q224.symm rfl ?_
      refine k_istore 56 rfl rfl ?_
      refine k_push 57 rfl rfl ?_
      refine k_istore 59 rfl rfl ?_
      have hdv9 : (0 : Int32).toInt = dv (A0 24 w1.toInt) := by unfold dv; split <;> (try split) <;> omega
      exact b_X10_goesThrough_59 (lm := lm) (gT := gT) (gE := gE) (w1 := w1) (w2 := w2) p1 p2 p3 p4 p5 p6 p7 p8 p9 pa _ (lm1 := lm) rfl (gs_ne rfl rfl (gs_ne rfl rfl (gs_ne rfl rfl (gs_ne rfl rfl rfl)))) (gs_ne rfl rfl (gs_ne rfl rfl (gs_ne rfl rfl (gs_ne rfl rfl rfl)))) (gs_ne rfl rfl (gs_ne rfl rfl (gs_ne rfl rfl (gs_ne rfl rfl rfl)))) (gs_ne rfl rfl (gs_ne rfl rfl (gs_ne rfl rfl gs_eq))) (gs_ne rfl rfl (gs_ne rfl rfl gs_eq)) (gs_ne rfl rfl gs_eq) gs_eq I219 fr1.rf fr2.rf (show w1.toInt = w1.toInt ∧ w2.toInt = w2.toInt ∧ (0 : Int32).toInt = dv (A0 24 w1.toInt) ∧ x210.toInt = pr (A0 24 w1.toInt) - 1 ∧ x223.toInt = pr (A0 24 w2.toInt) - 1 by omega) (show 0 ≤ (0 : Int32).toInt ∧ (0 : Int32).toInt ≤ x210.toInt by omega) (show th ((A0 24)) ((A0 25)) ((A0 26)) (lm) ((F0 28)) gT gE lm ((A0 40)) ((A0 41)) w1.toInt w2.toInt x210.toInt x223.toInt (0 : Int32).toInt (0 : Int32).toInt 0 0 0 ((F0 27)) from th.start p1 pa) (show (F0 27) = F0 27 + (0 : Int32).toInt by omega) (show ∀ y : Int, 8000 ≤ y → (A0 24) y = A0 24 y ∧ (A0 25) y = A0 25 y from fun y _ => ⟨rfl, rfl⟩)
end
