section
theorem wo_fm {t u : Int → Int} {gm gk gn : Nat} {M : Int} (h : 1000 < gm ∨ (mk u gm (op t 1300 gk) ∧ cb u 0 gm M)) (h1 : gm ≤ 1000) (h2 : gk = gn → op t 1300 gn = 0) (h3 : gk = gn) : mk u gm 0 ∧ cb u 0 gm M := by
  rcases h with z | z
  · exfalso
    omega
  · rw [h3, h2 h3] at z
    exact z
theorem wo_cp {A : rf_A} {u : Int → Int} {gk : Nat} {p v : Int} (h : ∀ q : Nat, q < gk → A 1 (1300 + q) = u q) (hp : p = 1300 + gk) (hv : v = u gk) : ∀ q : Nat, q < gk + 1 → up2 A 1 p v 1 (1300 + q) = u q := fun q hq => by
  by_cases e : q = gk
  · subst e
    rw [hp, up2_eq, hv]
  · rw [up2_ne (by omega)]
    exact h q (by omega)
theorem b_X10_worksOff_269 {h0 : am_h} {F0 : rf_f} {A0 : rf_A} {w1 : Int32} {w2 : Int32} {gn ga nf na : Nat} {gC : Int} (p0 : w2.toInt = ga) (p1 : w1.toInt = 1300 ∧ gn ≤ 1000 ∧ A0 2 1 = gn) (p2 : wf (A0 1) 1300 gn) (p3 : ga + 1 + nf + na ≤ gn) (p4 : wf (A0 1) (1300 + (ga : Int) + 1) nf) (p5 : wf (A0 1) (1300 + (ga : Int) + 1 + nf) na) (p6 : A0 1 (1300 + (ga : Int) + 1) = 1) (p7 : cb (A0 1) 1300 gn gC) (p8 : 0 ≤ gC ∧ gC ≤ 900000) (p9 : op (A0 1) 1300 (ga + 1 + nf + na) = op (A0 1) 1300 ga - 1) : ∀ (n : Nat) {lv : am_l} {h : am_h} {F : rf_f} {A : rf_A} {v1 : Int32} {v2 : Int32} {v3 : Int32} {v4 : Int32} {v5 : Int32} {v6 : Int32} {v8 : Int32} {gk gm : Nat}, (gm - gk) = n → am_get lv 0 = some (.inr (.inr (some 81))) → am_get lv 1 = some (.inl v1) → am_get lv 2 = some (.inl v2) → am_get lv 3 = some (.inl v3) → am_get lv 4 = some (.inl v4) → am_get lv 5 = some (.inl v5) → am_get lv 6 = some (.inl v6) → am_get lv 8 = some (.inl v8) → rf_I h0 h F A → fr1 [67] F0 F → fr2 [66, 68, 69, 1, 2] A0 A → (v1.toInt = 1300 ∧ v2.toInt = ga ∧ v3.toInt = gn ∧ v4.toInt = ga + 2 ∧ v5.toInt = ga + 1 + nf ∧ v6.toInt = ga + 1 + nf + na) → (A 2 = A0 2) → (v8.toInt = gk ∧ gk ≤ gm) → (F 67 = gm ∧ gm ≤ 1000) → (mk (A 66) gm 0) → (cb (A 66) 0 gm (gC + 1300)) → (∀ q : Nat, q < gk → A 1 (1300 + q) = A 66 q) → (∀ q : Int, (q < 1300 ∨ 2600 ≤ q) → A 1 q = A0 1 q) → am_Ok am_G 2 243 (269, lv, [], h, 0, 0) (rf_Q h0 (fun x F' A' => fr1 [67] F0 F' ∧ fr2 [66, 68, 69, 1, 2] A0 A' ∧ ((x = 0 ∧ A' 1 = A0 1 ∧ A' 2 = A0 2) ∨ (x = 1 ∧ ∃ n' : Nat, n' ≤ 1000 ∧ A' 2 1 = n' ∧ (∀ q : Int, q ≠ 1 → A' 2 q = A0 2 q) ∧ wf (A' 1) 1300 n' ∧ cb (A' 1) 1300 n' (gC + 1300) ∧ ∀ q : Int, (q < 1300 ∨ 2600 ≤ q) → A' 1 q = A0 1 q)))) := by
  intro n
  induction n using Nat.strongRecOn with
  | ind n ih =>
    intro lv h F A v1 v2 v3 v4 v5 v6 v8 gk gm hn g0 g1 g2 g3 g4 g5 g6 g8 hI hF hA ic i0 i1 i2 i3 i4 i5 i6
    refine k_iload 271 rfl g8 rfl ?_
    refine k_aload 272 rfl g0 rfl ?_
    refine r_gI hI 275 rfl rfl rfl (fun x1 (e2 : x1.toInt = F 67) => ?_)
    by_cases b3 : x1 ≤ v8
    · refine k_c2 300 rfl rfl (if_pos b3) ?_
      have b3 := iv_le.mp b3
      refine k_aload 301 rfl g0 rfl ?_
      refine r_gA hI 304 rfl rfl rfl ?_
      refine k_push 305 rfl rfl ?_
      have hc4 : (1 : Int32).toInt = 1 := by decide
      refine k_aload 306 rfl g0 rfl ?_
      refine r_gI hI 309 rfl rfl rfl (fun x5 (e6 : x5.toInt = F 67) => ?_)
      refine r_st 2 hI 310 rfl rfl (by omega) (show (1 : Int32).toInt < 3 by omega) rfl (fun h7 I8 => ?_)
      refine k_push 311 rfl rfl ?_
      exact k_fin rfl (fin_Z (Or.inr rfl)) ⟨_, _, _, _, rfl, I8, hF, (fr2.up (by decide) hA), show ((1 : Int32).toInt = 0 ∧ (A 1) = A0 1 ∧ ((up2 A 2 (1 : Int32).toInt x5.toInt) 2) = A0 2) ∨ ((1 : Int32).toInt = 1 ∧ ∃ n' : Nat, n' ≤ 1000 ∧ ((up2 A 2 (1 : Int32).toInt x5.toInt) 2) 1 = n' ∧ (∀ q : Int, q ≠ 1 → ((up2 A 2 (1 : Int32).toInt x5.toInt) 2) q = A0 2 q) ∧ wf ((A 1)) 1300 n' ∧ cb ((A 1)) 1300 n' (gC + 1300) ∧ ∀ q : Int, (q < 1300 ∨ 2600 ≤ q) → (A 1) q = A0 1 q) from Or.inr ⟨by omega, gm, i2.2, by rw [show (1 : Int) = (1 : Int32).toInt by decide, up2_eq]; omega, fun q hq => by rw [up2_ne (by omega), i0], wf_congr (fun q hq => by rw [Int.zero_add]; exact (i5 q (by omega)).symm) i3, cb.congr i4 (fun q hq => by rw [Int.zero_add]; exact (i5 q (by omega)).symm), i6⟩⟩
    · refine k_c2 278 rfl rfl (if_neg b3) ?_
      have b3 := mt iv_le.mpr b3
      refine k_aload 279 rfl g0 rfl ?_
      refine r_gA hI 282 rfl rfl rfl ?_
      refine k_iload 283 rfl g1 rfl ?_
      refine k_iload 285 rfl g8 rfl ?_
      obtain ⟨x9, q10⟩ : ∃ q : Int32, q = (v1 + v8) := ⟨_, rfl⟩
      have e11 : x9.toInt = v1.toInt + v8.toInt := by rw [q10, iv_add (by omega) (by omega)]
      refine k_bin x9 286 rfl q10.symm rfl ?_
      refine k_aload 287 rfl g0 rfl ?_
      refine r_gA hI 290 rfl rfl rfl ?_
      refine k_iload 292 rfl g8 rfl ?_
      refine r_ld 66 hI 293 rfl rfl (by omega) (show v8.toInt < 2700 by omega) rfl (fun x12 (e13 : x12.toInt = A 66 v8.toInt) => ?_)
      refine r_st 1 hI 294 rfl rfl (by omega) (show x9.toInt < 3900 by omega) rfl (fun h14 I15 => ?_)
      have hc16 : (1 : Int32).toInt = 1 := by decide
      obtain ⟨x17, q18⟩ : ∃ q : Int32, q = v8 + (1 : Int32) := ⟨_, rfl⟩
      have e19 : x17.toInt = v8.toInt + 1 := by rw [q18, iv_add (by omega) (by omega)]; omega
      refine k_iinc x17 297 rfl g8 q18.symm rfl ?_
      refine k_goto 269 rfl rfl ?_
      have hi5 : ∀ q : Nat, q < gk + 1 → ((up2 A 1 x9.toInt x12.toInt) 1) (1300 + q) = A 66 q := wo_cp i5 (by omega) (by rw [show (gk : Int) = v8.toInt by omega]; omega)
      exact ih _ (show ((gm) - (gk + 1)) < n by omega) (gk := gk + 1) (gm := gm) rfl (gs_ne rfl rfl g0) (gs_ne rfl rfl g1) (gs_ne rfl rfl g2) (gs_ne rfl rfl g3) (gs_ne rfl rfl g4) (gs_ne rfl rfl g5) (gs_ne rfl rfl g6) gs_eq I15 hF (fr2.up (by decide) hA) (show v1.toInt = 1300 ∧ v2.toInt = ga ∧ v3.toInt = gn ∧ v4.toInt = ga + 2 ∧ v5.toInt = ga + 1 + nf ∧ v6.toInt = ga + 1 + nf + na by omega) (show (A 2) = A0 2 from i0) (show x17.toInt = (gk + 1) ∧ (gk + 1) ≤ (gm) by omega) (show (F 67) = (gm) ∧ (gm) ≤ 1000 by omega) (show mk ((A 66)) (gm) 0 from i3) (show cb ((A 66)) 0 (gm) (gC + 1300) from i4) (show ∀ q : Nat, q < (gk + 1) → ((up2 A 1 x9.toInt x12.toInt) 1) (1300 + q) = (A 66) q from hi5) (show ∀ q : Int, (q < 1300 ∨ 2600 ≤ q) → ((up2 A 1 x9.toInt x12.toInt) 1) q = A0 1 q from fun q hq => by rw [up2_ne (by omega)]; exact i6 q hq)
theorem b_X10_worksOff_219 {h0 : am_h} {F0 : rf_f} {A0 : rf_A} {w1 : Int32} {w2 : Int32} {gn ga nf na : Nat} {gC : Int} (p0 : w2.toInt = ga) (p1 : w1.toInt = 1300 ∧ gn ≤ 1000 ∧ A0 2 1 = gn) (p2 : wf (A0 1) 1300 gn) (p3 : ga + 1 + nf + na ≤ gn) (p4 : wf (A0 1) (1300 + (ga : Int) + 1) nf) (p5 : wf (A0 1) (1300 + (ga : Int) + 1 + nf) na) (p6 : A0 1 (1300 + (ga : Int) + 1) = 1) (p7 : cb (A0 1) 1300 gn gC) (p8 : 0 ≤ gC ∧ gC ≤ 900000) (p9 : op (A0 1) 1300 (ga + 1 + nf + na) = op (A0 1) 1300 ga - 1) : ∀ (n : Nat) {lv : am_l} {h : am_h} {F : rf_f} {A : rf_A} {v1 : Int32} {v2 : Int32} {v3 : Int32} {v4 : Int32} {v5 : Int32} {v6 : Int32} {v8 : Int32} {gk gm : Nat}, (gn - gk) = n → am_get lv 0 = some (.inr (.inr (some 81))) → am_get lv 1 = some (.inl v1) → am_get lv 2 = some (.inl v2) → am_get lv 3 = some (.inl v3) → am_get lv 4 = some (.inl v4) → am_get lv 5 = some (.inl v5) → am_get lv 6 = some (.inl v6) → am_get lv 8 = some (.inl v8) → rf_I h0 h F A → fr1 [67] F0 F → fr2 [66, 68, 69, 1, 2] A0 A → (v1.toInt = 1300 ∧ v2.toInt = ga ∧ v3.toInt = gn ∧ v4.toInt = ga + 2 ∧ v5.toInt = ga + 1 + nf ∧ v6.toInt = ga + 1 + nf + na) → (A 1 = A0 1 ∧ A 2 = A0 2) → (v8.toInt = gk ∧ gk ≤ gn) → (F 67 = gm ∧ gm ≤ 2001) → (1000 < gm ∨ (mk (A 66) gm (op (A0 1) 1300 gk) ∧ cb (A 66) 0 gm (gC + 1300))) → am_Ok am_G 2 243 (219, lv, [], h, 0, 0) (rf_Q h0 (fun x F' A' => fr1 [67] F0 F' ∧ fr2 [66, 68, 69, 1, 2] A0 A' ∧ ((x = 0 ∧ A' 1 = A0 1 ∧ A' 2 = A0 2) ∨ (x = 1 ∧ ∃ n' : Nat, n' ≤ 1000 ∧ A' 2 1 = n' ∧ (∀ q : Int, q ≠ 1 → A' 2 q = A0 2 q) ∧ wf (A' 1) 1300 n' ∧ cb (A' 1) 1300 n' (gC + 1300) ∧ ∀ q : Int, (q < 1300 ∨ 2600 ≤ q) → A' 1 q = A0 1 q)))) := by
  intro n
  induction n using Nat.strongRecOn with
  | ind n ih =>
    intro lv h F A v1 v2 v3 v4 v5 v6 v8 gk gm hn g0 g1 g2 g3 g4 g5 g6 g8 hI hF hA ic i0 i1 i2 i3
    have hp9 := p2.2 gk
    have hw9 := op_nx (t := A0 1) (i := 1300) gk
    refine k_iload 221 rfl g8 rfl ?_
    refine k_iload 222 rfl g3 rfl ?_
    by_cases b20 : v3 ≤ v8
    · refine k_c2 254 rfl rfl (if_pos b20) ?_
      have b20 := iv_le.mp b20
      refine k_aload 255 rfl g0 rfl ?_
      refine r_gI hI 258 rfl rfl rfl (fun x21 (e22 : x21.toInt = F 67) => ?_)
      refine k_push 261 rfl rfl ?_
      have hc23 : (1000 : Int32).toInt = 1000 := by decide
      by_cases b24 : x21 ≤ (1000 : Int32)
      · refine k_c2 266 rfl rfl (if_pos b24) ?_
        have b24 := iv_le.mp b24
        have hfm : mk (A 66) gm 0 ∧ cb (A 66) 0 gm (gC + 1300) := wo_fm i3 (by omega) (fun e9 => p2.1) (by omega)
        refine k_push 267 rfl rfl ?_
        have hc25 : (0 : Int32).toInt = 0 := by decide
        refine k_istore 269 rfl rfl ?_
        exact b_X10_worksOff_269 (gn := gn) (ga := ga) (nf := nf) (na := na) (gC := gC) (w1 := w1) (w2 := w2) p0 p1 p2 p3 p4 p5 p6 p7 p8 p9 _ (gk := 0) (gm := gm) rfl (gs_ne rfl rfl g0) (gs_ne rfl rfl g1) (gs_ne rfl rfl g2) (gs_ne rfl rfl g3) (gs_ne rfl rfl g4) (gs_ne rfl rfl g5) (gs_ne rfl rfl g6) gs_eq hI hF hA (show v1.toInt = 1300 ∧ v2.toInt = ga ∧ v3.toInt = gn ∧ v4.toInt = ga + 2 ∧ v5.toInt = ga + 1 + nf ∧ v6.toInt = ga + 1 + nf + na by omega) (show (A 2) = A0 2 from i0.2) (show (0 : Int32).toInt = (0) ∧ (0) ≤ (gm) by omega) (show (F 67) = (gm) ∧ (gm) ≤ 1000 by omega) (show mk ((A 66)) (gm) 0 from hfm.1) (show cb ((A 66)) 0 (gm) (gC + 1300) from hfm.2) (show ∀ q : Nat, q < (0) → (A 1) (1300 + q) = (A 66) q from fun q hq => absurd hq (Nat.not_lt_zero q)) (show ∀ q : Int, (q < 1300 ∨ 2600 ≤ q) → (A 1) q = A0 1 q from fun q _ => by rw [i0.1])
      · refine k_c2 264 rfl rfl (if_neg b24) ?_
        have b24 := mt iv_le.mpr b24
        refine k_push 265 rfl rfl ?_
        have hc26 : (0 : Int32).toInt = 0 := by decide
        exact k_fin rfl (fin_Z (Or.inl rfl)) ⟨_, _, _, _, rfl, hI, hF, hA, show ((0 : Int32).toInt = 0 ∧ (A 1) = A0 1 ∧ (A 2) = A0 2) ∨ ((0 : Int32).toInt = 1 ∧ ∃ n' : Nat, n' ≤ 1000 ∧ (A 2) 1 = n' ∧ (∀ q : Int, q ≠ 1 → (A 2) q = A0 2 q) ∧ wf ((A 1)) 1300 n' ∧ cb ((A 1)) 1300 n' (gC + 1300) ∧ ∀ q : Int, (q < 1300 ∨ 2600 ≤ q) → (A 1) q = A0 1 q) from Or.inl ⟨by omega, i0.1, i0.2⟩⟩
    · refine k_c2 225 rfl rfl (if_neg b20) ?_
      have b20 := mt iv_le.mpr b20
      refine k_aload 226 rfl g0 rfl ?_
      refine r_gI hI 229 rfl rfl rfl (fun x27 (e28 : x27.toInt = F 67) => ?_)
      refine k_push 232 rfl rfl ?_
      have hc29 : (1000 : Int32).toInt = 1000 := by decide
      by_cases b30 : (1000 : Int32) < x27
      · refine k_c2 254 rfl rfl (if_pos b30) ?_
        have b30 := iv_lt.mp b30
        refine k_aload 255 rfl g0 rfl ?_
        refine r_gI hI 258 rfl rfl rfl (fun x31 (e32 : x31.toInt = F 67) => ?_)
        refine k_push 261 rfl rfl ?_
        by_cases b33 : x31 ≤ (1000 : Int32)
        · refine k_c2 266 rfl rfl (if_pos b33) ?_
          have b33 := iv_le.mp b33
          have hfm : mk (A 66) gm 0 ∧ cb (A 66) 0 gm (gC + 1300) := wo_fm i3 (by omega) (fun e9 => p2.1) (by omega)
          refine k_push 267 rfl rfl ?_
          have hc34 : (0 : Int32).toInt = 0 := by decide
          refine k_istore 269 rfl rfl ?_
          exact b_X10_worksOff_269 (gn := gn) (ga := ga) (nf := nf) (na := na) (gC := gC) (w1 := w1) (w2 := w2) p0 p1 p2 p3 p4 p5 p6 p7 p8 p9 _ (gk := 0) (gm := gm) rfl (gs_ne rfl rfl g0) (gs_ne rfl rfl g1) (gs_ne rfl rfl g2) (gs_ne rfl rfl g3) (gs_ne rfl rfl g4) (gs_ne rfl rfl g5) (gs_ne rfl rfl g6) gs_eq hI hF hA (show v1.toInt = 1300 ∧ v2.toInt = ga ∧ v3.toInt = gn ∧ v4.toInt = ga + 2 ∧ v5.toInt = ga + 1 + nf ∧ v6.toInt = ga + 1 + nf + na by omega) (show (A 2) = A0 2 from i0.2) (show (0 : Int32).toInt = (0) ∧ (0) ≤ (gm) by omega) (show (F 67) = (gm) ∧ (gm) ≤ 1000 by omega) (show mk ((A 66)) (gm) 0 from hfm.1) (show cb ((A 66)) 0 (gm) (gC + 1300) from hfm.2) (show ∀ q : Nat, q < (0) → (A 1) (1300 + q) = (A 66) q from fun q hq => absurd hq (Nat.not_lt_zero q)) (show ∀ q : Int, (q < 1300 ∨ 2600 ≤ q) → (A 1) q = A0 1 q from fun q _ => by rw [i0.1])
        · refine k_c2 264 rfl rfl (if_neg b33) ?_
          have b33 := mt iv_le.mpr b33
          refine k_push 265 rfl rfl ?_
          have hc35 : (0 : Int32).toInt = 0 := by decide
          exact k_fin rfl (fin_Z (Or.inl rfl)) ⟨_, _, _, _, rfl, hI, hF, hA, show ((0 : Int32).toInt = 0 ∧ (A 1) = A0 1 ∧ (A 2) = A0 2) ∨ ((0 : Int32).toInt = 1 ∧ ∃ n' : Nat, n' ≤ 1000 ∧ (A 2) 1 = n' ∧ (∀ q : Int, q ≠ 1 → (A 2) q = A0 2 q) ∧ wf ((A 1)) 1300 n' ∧ cb ((A 1)) 1300 n' (gC + 1300) ∧ ∀ q : Int, (q < 1300 ∨ 2600 ≤ q) → (A 1) q = A0 1 q) from Or.inl ⟨by omega, i0.1, i0.2⟩⟩
      · refine k_c2 235 rfl rfl (if_neg b30) ?_
        have b30 := mt iv_lt.mpr b30
        obtain ⟨hmk9, hcb9⟩ := i3.resolve_left (by omega)
        refine k_aload 236 rfl g0 rfl ?_
        refine k_aload 237 rfl g0 rfl ?_
        refine r_gA hI 240 rfl rfl rfl ?_
        refine k_iload 241 rfl g1 rfl ?_
        refine k_iload 243 rfl g8 rfl ?_
        obtain ⟨x36, q37⟩ : ∃ q : Int32, q = (v1 + v8) := ⟨_, rfl⟩
        have e38 : x36.toInt = v1.toInt + v8.toInt := by rw [q37, iv_add (by omega) (by omega)]
        refine k_bin x36 244 rfl q37.symm rfl ?_
        refine r_ld 1 hI 245 rfl rfl (by omega) (show x36.toInt < 3900 by omega) rfl (fun x39 (e40 : x39.toInt = A 1 x36.toInt) => ?_)
        rw [e38] at e40
        rw [i0.1] at e40
        have hat := cb.at p7 (p := v1.toInt + v8.toInt) (by omega) (by omega)
        have hcode : ow (A0 1 (1300 + (gk : Int))) = ow x39.toInt := by rw [e40, show v1.toInt + v8.toInt = 1300 + (gk : Int) by omega]
        have hb9 : 0 ≤ x39.toInt ∧ x39.toInt ≤ gC := by rw [e40]; exact hat
        refine k_rv hI rfl (m_makes (gm := gm) (gc := op (A0 1) 1300 gk) (gM := gC + 1300) hI.1 (show (F 67) = (gm) ∧ (gm) ≤ 2599 by omega) (show mk ((A 66)) (gm) (op (A0 1) 1300 gk) from hmk9) (show 0 < (op (A0 1) 1300 gk) by omega) (show cb ((A 66)) 0 (gm) (gC + 1300) from hcb9) (show 0 ≤ x39.toInt ∧ x39.toInt ≤ (gC + 1300) by omega)) rfl rfl rfl hI.rc ?_
        rintro h42 F43 A44 I45 ⟨k47, k48, p46⟩
        replace p46 : F43 67 = (gm) + 1 ∧ mk (A44 66) ((gm) + 1) ((op (A0 1) 1300 gk) + ow x39.toInt) ∧ cb (A44 66) 0 ((gm) + 1) (gC + 1300) := p46
        obtain ⟨p46a, p46b, p46c⟩ := p46
        show am_Ok _ _ _ (248, _, [], _, 0, 0) _
        have hc49 : (1 : Int32).toInt = 1 := by decide
        obtain ⟨x50, q51⟩ : ∃ q : Int32, q = v8 + (1 : Int32) := ⟨_, rfl⟩
        have e52 : x50.toInt = v8.toInt + 1 := by rw [q51, iv_add (by omega) (by omega)]; omega
        refine k_iinc x50 251 rfl g8 q51.symm rfl ?_
        refine k_goto 219 rfl rfl ?_
        exact ih _ (show (gn - (gk + 1)) < n by omega) (gk := gk + 1) (gm := gm + 1) rfl (gs_ne rfl rfl g0) (gs_ne rfl rfl g1) (gs_ne rfl rfl g2) (gs_ne rfl rfl g3) (gs_ne rfl rfl g4) (gs_ne rfl rfl g5) (gs_ne rfl rfl g6) gs_eq I45 (fr1.tr (by decide) hF k47) (fr2.tr (by decide) hA k48) (show v1.toInt = 1300 ∧ v2.toInt = ga ∧ v3.toInt = gn ∧ v4.toInt = ga + 2 ∧ v5.toInt = ga + 1 + nf ∧ v6.toInt = ga + 1 + nf + na by omega) (show (A44 1) = A0 1 ∧ (A44 2) = A0 2 from ⟨((k48 1 (by decide))).trans i0.1, ((k48 2 (by decide))).trans i0.2⟩) (show x50.toInt = (gk + 1) ∧ (gk + 1) ≤ gn by omega) (show (F43 67) = (gm + 1) ∧ (gm + 1) ≤ 2001 by omega) (show 1000 < (gm + 1) ∨ (mk ((A44 66)) (gm + 1) (op (A0 1) 1300 (gk + 1)) ∧ cb ((A44 66)) 0 (gm + 1) (gC + 1300)) from Or.inr ⟨by rw [hw9, hcode]; exact p46b, p46c⟩)
theorem b_X10_worksOff_88 {h0 : am_h} {F0 : rf_f} {A0 : rf_A} {w1 : Int32} {w2 : Int32} {gn ga nf na : Nat} {gC : Int} (p0 : w2.toInt = ga) (p1 : w1.toInt = 1300 ∧ gn ≤ 1000 ∧ A0 2 1 = gn) (p2 : wf (A0 1) 1300 gn) (p3 : ga + 1 + nf + na ≤ gn) (p4 : wf (A0 1) (1300 + (ga : Int) + 1) nf) (p5 : wf (A0 1) (1300 + (ga : Int) + 1 + nf) na) (p6 : A0 1 (1300 + (ga : Int) + 1) = 1) (p7 : cb (A0 1) 1300 gn gC) (p8 : 0 ≤ gC ∧ gC ≤ 900000) (p9 : op (A0 1) 1300 (ga + 1 + nf + na) = op (A0 1) 1300 ga - 1) {h : am_h} {F : rf_f} {A : rf_A} {v1 : Int32} {v2 : Int32} {v3 : Int32} {v4 : Int32} {v5 : Int32} {v6 : Int32} {v8 : Int32} {b7 : Int} (hI : rf_I h0 h F A) (hF : fr1 [67] F0 F) (hA : fr2 [66, 68, 69, 1, 2] A0 A) (i0 : b7 ≤ 1000) (K : ∀ (lv : am_l) (v7 : Int32), am_get lv 0 = some (.inr (.inr (some 81))) → am_get lv 1 = some (.inl v1) → am_get lv 2 = some (.inl v2) → am_get lv 3 = some (.inl v3) → am_get lv 4 = some (.inl v4) → am_get lv 5 = some (.inl v5) → am_get lv 6 = some (.inl v6) → am_get lv 7 = some (.inl v7) → am_get lv 8 = some (.inl v8) → (0 ≤ v7.toInt ∧ v7.toInt ≤ b7) → am_Ok am_G 2 243 (113, lv, [], h, 0, 0) (rf_Q h0 (fun x F' A' => fr1 [67] F0 F' ∧ fr2 [66, 68, 69, 1, 2] A0 A' ∧ ((x = 0 ∧ A' 1 = A0 1 ∧ A' 2 = A0 2) ∨ (x = 1 ∧ ∃ n' : Nat, n' ≤ 1000 ∧ A' 2 1 = n' ∧ (∀ q : Int, q ≠ 1 → A' 2 q = A0 2 q) ∧ wf (A' 1) 1300 n' ∧ cb (A' 1) 1300 n' (gC + 1300) ∧ ∀ q : Int, (q < 1300 ∨ 2600 ≤ q) → A' 1 q = A0 1 q))))) : ∀ (n : Nat) {lv : am_l} {v7 : Int32}, (v7.toInt.toNat) = n → am_get lv 0 = some (.inr (.inr (some 81))) → am_get lv 1 = some (.inl v1) → am_get lv 2 = some (.inl v2) → am_get lv 3 = some (.inl v3) → am_get lv 4 = some (.inl v4) → am_get lv 5 = some (.inl v5) → am_get lv 6 = some (.inl v6) → am_get lv 7 = some (.inl v7) → am_get lv 8 = some (.inl v8) → (0 ≤ v7.toInt ∧ v7.toInt ≤ b7) → am_Ok am_G 2 243 (88, lv, [], h, 0, 0) (rf_Q h0 (fun x F' A' => fr1 [67] F0 F' ∧ fr2 [66, 68, 69, 1, 2] A0 A' ∧ ((x = 0 ∧ A' 1 = A0 1 ∧ A' 2 = A0 2) ∨ (x = 1 ∧ ∃ n' : Nat, n' ≤ 1000 ∧ A' 2 1 = n' ∧ (∀ q : Int, q ≠ 1 → A' 2 q = A0 2 q) ∧ wf (A' 1) 1300 n' ∧ cb (A' 1) 1300 n' (gC + 1300) ∧ ∀ q : Int, (q < 1300 ∨ 2600 ≤ q) → A' 1 q = A0 1 q)))) := by
  intro n
  induction n using Nat.strongRecOn with
  | ind n ih =>
    intro lv v7 hn g0 g1 g2 g3 g4 g5 g6 g7 g8 i1
    refine k_iload 90 rfl g7 rfl ?_
    by_cases b53 : v7 ≤ 0
    · refine k_c1 113 rfl rfl (if_pos b53) ?_
      have b53 := iv_le0.mp b53
      exact K _ v7 g0 g1 g2 g3 g4 g5 g6 g7 g8 (show 0 ≤ v7.toInt ∧ v7.toInt ≤ b7 by omega)
    · refine k_c1 93 rfl rfl (if_neg b53) ?_
      have b53 := mt iv_le0.mpr b53
      refine k_aload 94 rfl g0 rfl ?_
      refine r_gA hI 97 rfl rfl rfl ?_
      refine k_iload 99 rfl g7 rfl ?_
      refine k_push 100 rfl rfl ?_
      have hc54 : (1 : Int32).toInt = 1 := by decide
      obtain ⟨x55, q56⟩ : ∃ q : Int32, q = (v7 - (1 : Int32)) := ⟨_, rfl⟩
      have e57 : x55.toInt = v7.toInt - 1 := by rw [q56, iv_sub (by omega) (by omega)]; omega
      refine k_bin x55 101 rfl q56.symm rfl ?_
      refine r_ld 69 hI 102 rfl rfl (by omega) (show x55.toInt < 1300 by omega) rfl (fun x58 (e59 : x58.toInt = A 69 x55.toInt) => ?_)
      rw [e57] at e59
      refine k_iload 104 rfl g8 rfl ?_
      by_cases b60 : x58 = v8
      · refine k_c2 107 rfl rfl (if_pos b60) ?_
        have b60 := iv_eq.mp b60
        have hc61 : (-1 : Int32).toInt = -1 := by decide
        obtain ⟨x62, q63⟩ : ∃ q : Int32, q = v7 + (-1 : Int32) := ⟨_, rfl⟩
        have e64 : x62.toInt = v7.toInt + -1 := by rw [q63, iv_add (by omega) (by omega)]; omega
        refine k_iinc x62 110 rfl g7 q63.symm rfl ?_
        refine k_goto 88 rfl rfl ?_
        exact ih _ (show (x62.toInt.toNat) < n by omega)  rfl (gs_ne rfl rfl g0) (gs_ne rfl rfl g1) (gs_ne rfl rfl g2) (gs_ne rfl rfl g3) (gs_ne rfl rfl g4) (gs_ne rfl rfl g5) (gs_ne rfl rfl g6) gs_eq (gs_ne rfl rfl g8) (show 0 ≤ x62.toInt ∧ x62.toInt ≤ b7 by omega)
      · refine k_c2 113 rfl rfl (if_neg b60) ?_
        have b60 := mt iv_eq.mpr b60
        exact K _ v7 g0 g1 g2 g3 g4 g5 g6 g7 g8 (show 0 ≤ v7.toInt ∧ v7.toInt ≤ b7 by omega)
theorem b_X10_worksOff_71 {h0 : am_h} {F0 : rf_f} {A0 : rf_A} {w1 : Int32} {w2 : Int32} {gn ga nf na : Nat} {gC : Int} (p0 : w2.toInt = ga) (p1 : w1.toInt = 1300 ∧ gn ≤ 1000 ∧ A0 2 1 = gn) (p2 : wf (A0 1) 1300 gn) (p3 : ga + 1 + nf + na ≤ gn) (p4 : wf (A0 1) (1300 + (ga : Int) + 1) nf) (p5 : wf (A0 1) (1300 + (ga : Int) + 1 + nf) na) (p6 : A0 1 (1300 + (ga : Int) + 1) = 1) (p7 : cb (A0 1) 1300 gn gC) (p8 : 0 ≤ gC ∧ gC ≤ 900000) (p9 : op (A0 1) 1300 (ga + 1 + nf + na) = op (A0 1) 1300 ga - 1) : ∀ (n : Nat) {lv : am_l} {h : am_h} {F : rf_f} {A : rf_A} {v1 : Int32} {v2 : Int32} {v3 : Int32} {v4 : Int32} {v5 : Int32} {v6 : Int32} {v7 : Int32} {v8 : Int32} {gj gm : Nat}, (nf - gj) = n → am_get lv 0 = some (.inr (.inr (some 81))) → am_get lv 1 = some (.inl v1) → am_get lv 2 = some (.inl v2) → am_get lv 3 = some (.inl v3) → am_get lv 4 = some (.inl v4) → am_get lv 5 = some (.inl v5) → am_get lv 6 = some (.inl v6) → am_get lv 7 = some (.inl v7) → am_get lv 8 = some (.inl v8) → rf_I h0 h F A → fr1 [67] F0 F → fr2 [66, 68, 69, 1, 2] A0 A → (v1.toInt = 1300 ∧ v2.toInt = ga ∧ v3.toInt = gn ∧ v4.toInt = ga + 2 ∧ v5.toInt = ga + 1 + nf ∧ v6.toInt = ga + 1 + nf + na) → (A 1 = A0 1 ∧ A 2 = A0 2) → (v8.toInt = ga + 2 + gj ∧ gj + 1 ≤ nf) → (0 ≤ v7.toInt ∧ v7.toInt ≤ gj) → (F 67 = gm ∧ gm ≤ 2000) → (mk (A 66) gm (op (A0 1) 1300 ga + op (A0 1) (1300 + (ga : Int) + 1) (1 + gj) - 1)) → (cb (A 66) 0 gm (gC + 1300)) → am_Ok am_G 2 243 (71, lv, [], h, 0, 0) (rf_Q h0 (fun x F' A' => fr1 [67] F0 F' ∧ fr2 [66, 68, 69, 1, 2] A0 A' ∧ ((x = 0 ∧ A' 1 = A0 1 ∧ A' 2 = A0 2) ∨ (x = 1 ∧ ∃ n' : Nat, n' ≤ 1000 ∧ A' 2 1 = n' ∧ (∀ q : Int, q ≠ 1 → A' 2 q = A0 2 q) ∧ wf (A' 1) 1300 n' ∧ cb (A' 1) 1300 n' (gC + 1300) ∧ ∀ q : Int, (q < 1300 ∨ 2600 ≤ q) → A' 1 q = A0 1 q)))) := by
  intro n
  induction n using Nat.strongRecOn with
  | ind n ih =>
    intro lv h F A v1 v2 v3 v4 v5 v6 v7 v8 gj gm hn g0 g1 g2 g3 g4 g5 g6 g7 g8 hI hF hA ic i0 i1 i2 i3 i4 i5
    have hp9 := p4.2 (1 + gj)
    have hw9 := op_nx (t := A0 1) (i := 1300 + (ga : Int) + 1) (1 + gj)
    have hna := wf_pos p5
    have hc0 : 0 < op (A0 1) 1300 ga := p2.2 ga (by omega)
    refine k_iload 73 rfl g8 rfl ?_
    refine k_iload 75 rfl g5 rfl ?_
    by_cases b65 : v5 ≤ v8
    · refine k_c2 215 rfl rfl (if_pos b65) ?_
      have b65 := iv_le.mp b65
      refine k_iload 217 rfl g6 rfl ?_
      refine k_istore 219 rfl rfl ?_
      have hdis : 1000 < gm ∨ (mk (A 66) gm (op (A0 1) 1300 (ga + 1 + nf + na)) ∧ cb (A 66) 0 gm (gC + 1300)) := by first | exact Or.inl (by omega) | exact Or.inr ⟨by rw [p9, show op (A0 1) 1300 ga - 1 = op (A0 1) 1300 ga + op (A0 1) (1300 + (ga : Int) + 1) (1 + gj) - 1 by rw [show 1 + gj = nf by omega, p4.1]; omega]; exact i4, i5⟩
      exact b_X10_worksOff_219 (gn := gn) (ga := ga) (nf := nf) (na := na) (gC := gC) (w1 := w1) (w2 := w2) p0 p1 p2 p3 p4 p5 p6 p7 p8 p9 _ (gk := ga + 1 + nf + na) (gm := gm) rfl (gs_ne rfl rfl g0) (gs_ne rfl rfl g1) (gs_ne rfl rfl g2) (gs_ne rfl rfl g3) (gs_ne rfl rfl g4) (gs_ne rfl rfl g5) (gs_ne rfl rfl g6) gs_eq hI hF hA (show v1.toInt = 1300 ∧ v2.toInt = ga ∧ v3.toInt = gn ∧ v4.toInt = ga + 2 ∧ v5.toInt = ga + 1 + nf ∧ v6.toInt = ga + 1 + nf + na by omega) (show (A 1) = A0 1 ∧ (A 2) = A0 2 from i0) (show v6.toInt = (ga + 1 + nf + na) ∧ (ga + 1 + nf + na) ≤ gn by omega) (show (F 67) = (gm) ∧ (gm) ≤ 2001 by omega) (show 1000 < (gm) ∨ (mk ((A 66)) (gm) (op (A0 1) 1300 (ga + 1 + nf + na)) ∧ cb ((A 66)) 0 (gm) (gC + 1300)) from hdis)
    · refine k_c2 78 rfl rfl (if_neg b65) ?_
      have b65 := mt iv_le.mpr b65
      refine k_aload 79 rfl g0 rfl ?_
      refine r_gI hI 82 rfl rfl rfl (fun x66 (e67 : x66.toInt = F 67) => ?_)
      refine k_push 85 rfl rfl ?_
      have hc68 : (1000 : Int32).toInt = 1000 := by decide
      by_cases b69 : (1000 : Int32) < x66
      · refine k_c2 215 rfl rfl (if_pos b69) ?_
        have b69 := iv_lt.mp b69
        refine k_iload 217 rfl g6 rfl ?_
        refine k_istore 219 rfl rfl ?_
        have hdis : 1000 < gm ∨ (mk (A 66) gm (op (A0 1) 1300 (ga + 1 + nf + na)) ∧ cb (A 66) 0 gm (gC + 1300)) := by first | exact Or.inl (by omega) | exact Or.inr ⟨by rw [p9, show op (A0 1) 1300 ga - 1 = op (A0 1) 1300 ga + op (A0 1) (1300 + (ga : Int) + 1) (1 + gj) - 1 by rw [show 1 + gj = nf by omega, p4.1]; omega]; exact i4, i5⟩
        exact b_X10_worksOff_219 (gn := gn) (ga := ga) (nf := nf) (na := na) (gC := gC) (w1 := w1) (w2 := w2) p0 p1 p2 p3 p4 p5 p6 p7 p8 p9 _ (gk := ga + 1 + nf + na) (gm := gm) rfl (gs_ne rfl rfl g0) (gs_ne rfl rfl g1) (gs_ne rfl rfl g2) (gs_ne rfl rfl g3) (gs_ne rfl rfl g4) (gs_ne rfl rfl g5) (gs_ne rfl rfl g6) gs_eq hI hF hA (show v1.toInt = 1300 ∧ v2.toInt = ga ∧ v3.toInt = gn ∧ v4.toInt = ga + 2 ∧ v5.toInt = ga + 1 + nf ∧ v6.toInt = ga + 1 + nf + na by omega) (show (A 1) = A0 1 ∧ (A 2) = A0 2 from i0) (show v6.toInt = (ga + 1 + nf + na) ∧ (ga + 1 + nf + na) ≤ gn by omega) (show (F 67) = (gm) ∧ (gm) ≤ 2001 by omega) (show 1000 < (gm) ∨ (mk ((A 66)) (gm) (op (A0 1) 1300 (ga + 1 + nf + na)) ∧ cb ((A 66)) 0 (gm) (gC + 1300)) from hdis)
      · refine k_c2 88 rfl rfl (if_neg b69) ?_
        have b69 := mt iv_lt.mpr b69
        refine b_X10_worksOff_88 (w1 := w1) (w2 := w2) (gn := gn) (ga := ga) (nf := nf) (na := na) (gC := gC) (b7 := v7.toInt) p0 p1 p2 p3 p4 p5 p6 p7 p8 p9 hI hF hA (show (v7.toInt) ≤ 1000 by omega) (fun lv70 x71 g72 g73 g74 g75 g76 g77 g78 g79 g80 p81 => ?_) _ rfl g0 g1 g2 g3 g4 g5 g6 g7 g8 (show 0 ≤ v7.toInt ∧ v7.toInt ≤ (v7.toInt) by omega)
        have p81 : 0 ≤ x71.toInt ∧ x71.toInt ≤ (v7.toInt) := p81
        refine k_aload 114 rfl g72 rfl ?_
        refine r_gA hI 117 rfl rfl rfl ?_
        refine k_iload 118 rfl g73 rfl ?_
        refine k_iload 120 rfl g80 rfl ?_
        obtain ⟨x82, q83⟩ : ∃ q : Int32, q = (v1 + v8) := ⟨_, rfl⟩
        have e84 : x82.toInt = v1.toInt + v8.toInt := by rw [q83, iv_add (by omega) (by omega)]
        refine k_bin x82 121 rfl q83.symm rfl ?_
        refine r_ld 1 hI 122 rfl rfl (by omega) (show x82.toInt < 3900 by omega) rfl (fun x85 (e86 : x85.toInt = A 1 x82.toInt) => ?_)
        rw [e84] at e86
        refine k_istore 124 rfl rfl ?_
        rw [i0.1] at e86
        have hat := cb.at p7 (p := v1.toInt + v8.toInt) (by omega) (by omega)
        have hcode : ow (A0 1 (1300 + (ga : Int) + 1 + ((1 + gj : Nat) : Int))) = ow x85.toInt := by rw [e86, show v1.toInt + v8.toInt = 1300 + (ga : Int) + 1 + ((1 + gj : Nat) : Int) by omega]
        have hb9 : 0 ≤ x85.toInt ∧ x85.toInt ≤ gC := by rw [e86]; exact hat
        refine k_iload 126 rfl gs_eq rfl ?_
        refine k_push 127 rfl rfl ?_
        have hc87 : (1 : Int32).toInt = 1 := by decide
        by_cases b88 : x85 = (1 : Int32)
        · refine k_c2 130 rfl rfl (if_pos b88) ?_
          have b88 := iv_eq.mp b88
          refine k_aload 131 rfl (gs_ne rfl rfl g72) rfl ?_
          refine k_push 132 rfl rfl ?_
          refine k_rv hI rfl (m_makes (gm := gm) (gc := op (A0 1) 1300 ga + op (A0 1) (1300 + (ga : Int) + 1) (1 + gj) - 1) (gM := gC + 1300) hI.1 (show (F 67) = (gm) ∧ (gm) ≤ 2599 by omega) (show mk ((A 66)) (gm) (op (A0 1) 1300 ga + op (A0 1) (1300 + (ga : Int) + 1) (1 + gj) - 1) from i4) (show 0 < (op (A0 1) 1300 ga + op (A0 1) (1300 + (ga : Int) + 1) (1 + gj) - 1) by omega) (show cb ((A 66)) 0 (gm) (gC + 1300) from i5) (show 0 ≤ (1 : Int32).toInt ∧ (1 : Int32).toInt ≤ (gC + 1300) by omega)) rfl rfl rfl hI.rc ?_
          rintro h90 F91 A92 I93 ⟨k95, k96, p94⟩
          replace p94 : F91 67 = (gm) + 1 ∧ mk (A92 66) ((gm) + 1) ((op (A0 1) 1300 ga + op (A0 1) (1300 + (ga : Int) + 1) (1 + gj) - 1) + ow (1 : Int32).toInt) ∧ cb (A92 66) 0 ((gm) + 1) (gC + 1300) := p94
          obtain ⟨p94a, p94b, p94c⟩ := p94
          show am_Ok _ _ _ (135, _, [], _, 0, 0) _
          obtain ⟨ns9, ws9, hs9⟩ := wf_sub p4 (m := 1 + gj) (by omega)
          refine k_aload 136 rfl (gs_ne rfl rfl g72) rfl ?_
          refine r_gA I93 139 rfl rfl rfl ?_
          refine k_iload 141 rfl (gs_ne rfl rfl g79) rfl ?_
          refine k_aload 142 rfl (gs_ne rfl rfl g72) rfl ?_
          refine k_iload 143 rfl (gs_ne rfl rfl g73) rfl ?_
          refine k_iload 145 rfl (gs_ne rfl rfl g80) rfl ?_
          refine k_rq I93 rfl (m_behind (n9 := ns9) I93.1 (show 0 ≤ v1.toInt ∧ 0 ≤ v8.toInt ∧ v1.toInt + v8.toInt + (ns9) ≤ 3900 by omega) (show wf ((A92 1)) (v1.toInt + v8.toInt) (ns9) by rw [((k96 1 (by decide))).trans i0.1, show v1.toInt + v8.toInt = 1300 + (ga : Int) + 1 + ((1 + gj : Nat) : Int) by omega]; exact ws9)) rfl rfl rfl I93.rc ?_
          rintro x97 h98 F99 A100 I101 ⟨k103, k104, p102⟩
          replace p102 : x97.toInt = v8.toInt + (ns9) := p102
          have k103 := fr1.nil k103
          subst k103
          have k104 := fr2.nil k104
          subst k104
          show am_Ok _ _ _ (148, _, [.inl x97, .inl x71, .inr (.inr (some (rf_ad 69)))], _, 0, 0) _
          refine r_st 69 I101 149 rfl rfl (by omega) (show x71.toInt < 1300 by omega) rfl (fun h105 I106 => ?_)
          obtain ⟨x107, q108⟩ : ∃ q : Int32, q = x71 + (1 : Int32) := ⟨_, rfl⟩
          have e109 : x107.toInt = x71.toInt + 1 := by rw [q108, iv_add (by omega) (by omega)]; omega
          refine k_iinc x107 152 rfl (gs_ne rfl rfl g79) q108.symm rfl ?_
          refine k_goto 209 rfl rfl ?_
          obtain ⟨x110, q111⟩ : ∃ q : Int32, q = v8 + (1 : Int32) := ⟨_, rfl⟩
          have e112 : x110.toInt = v8.toInt + 1 := by rw [q111, iv_add (by omega) (by omega)]; omega
          refine k_iinc x110 212 rfl (gs_ne rfl rfl (gs_ne rfl rfl g80)) q111.symm rfl ?_
          refine k_goto 71 rfl rfl ?_
          have hmk : mk (A92 66) (gm + 1) (op (A0 1) 1300 ga + op (A0 1) (1300 + (ga : Int) + 1) (1 + (gj + 1)) - 1) := by rw [show 1 + (gj + 1) = 1 + gj + 1 by omega, hw9, hcode, show op (A0 1) 1300 ga + (op (A0 1) (1300 + (ga : Int) + 1) (1 + gj) + ow x85.toInt) - 1 = op (A0 1) 1300 ga + op (A0 1) (1300 + (ga : Int) + 1) (1 + gj) - 1 + ow (1 : Int32).toInt by rw [show ow x85.toInt = ow (1 : Int32).toInt by first | rfl | (rw [ow_v (by omega) (by omega), ow_v (by omega) (by omega)]) | (rw [show x85.toInt = 1 by omega]; rfl)]; omega]; exact p94b
          have hcb : cb (A92 66) 0 (gm + 1) (gC + 1300) := p94c
          exact ih _ (show (nf - (gj + 1)) < n by omega) (gj := gj + 1) (gm := gm + 1) rfl (gs_ne rfl rfl (gs_ne rfl rfl (gs_ne rfl rfl g72))) (gs_ne rfl rfl (gs_ne rfl rfl (gs_ne rfl rfl g73))) (gs_ne rfl rfl (gs_ne rfl rfl (gs_ne rfl rfl g74))) (gs_ne rfl rfl (gs_ne rfl rfl (gs_ne rfl rfl g75))) (gs_ne rfl rfl (gs_ne rfl rfl (gs_ne rfl rfl g76))) (gs_ne rfl rfl (gs_ne rfl rfl (gs_ne rfl rfl g77))) (gs_ne rfl rfl (gs_ne rfl rfl (gs_ne rfl rfl g78))) (gs_ne rfl rfl gs_eq) gs_eq I106 (fr1.tr (by decide) hF k95) (fr2.up (by decide) (fr2.tr (by decide) hA k96)) (show v1.toInt = 1300 ∧ v2.toInt = ga ∧ v3.toInt = gn ∧ v4.toInt = ga + 2 ∧ v5.toInt = ga + 1 + nf ∧ v6.toInt = ga + 1 + nf + na by omega) (show (A92 1) = A0 1 ∧ (A92 2) = A0 2 from ⟨((k96 1 (by decide))).trans i0.1, ((k96 2 (by decide))).trans i0.2⟩) (show x110.toInt = ga + 2 + (gj + 1) ∧ (gj + 1) + 1 ≤ nf by omega) (show 0 ≤ x107.toInt ∧ x107.toInt ≤ (gj + 1) by omega) (show (F91 67) = (gm + 1) ∧ (gm + 1) ≤ 2000 by omega) (show mk ((A92 66)) (gm + 1) (op (A0 1) 1300 ga + op (A0 1) (1300 + (ga : Int) + 1) (1 + (gj + 1)) - 1) from hmk) (show cb ((A92 66)) 0 (gm + 1) (gC + 1300) from hcb)
        · refine k_c2 155 rfl rfl (if_neg b88) ?_
          have b88 := mt iv_eq.mpr b88
          refine k_iload 157 rfl gs_eq rfl ?_
          by_cases b113 : x85 = 0
          · refine k_c1 169 rfl rfl (if_pos b113) ?_
            have b113 := iv_eq0.mp b113
            refine k_aload 170 rfl (gs_ne rfl rfl g72) rfl ?_
            refine k_iload 172 rfl gs_eq rfl ?_
            refine k_rv hI rfl (m_makes (gm := gm) (gc := op (A0 1) 1300 ga + op (A0 1) (1300 + (ga : Int) + 1) (1 + gj) - 1) (gM := gC + 1300) hI.1 (show (F 67) = (gm) ∧ (gm) ≤ 2599 by omega) (show mk ((A 66)) (gm) (op (A0 1) 1300 ga + op (A0 1) (1300 + (ga : Int) + 1) (1 + gj) - 1) from i4) (show 0 < (op (A0 1) 1300 ga + op (A0 1) (1300 + (ga : Int) + 1) (1 + gj) - 1) by omega) (show cb ((A 66)) 0 (gm) (gC + 1300) from i5) (show 0 ≤ x85.toInt ∧ x85.toInt ≤ (gC + 1300) by omega)) rfl rfl rfl hI.rc ?_
            rintro h115 F116 A117 I118 ⟨k120, k121, p119⟩
            replace p119 : F116 67 = (gm) + 1 ∧ mk (A117 66) ((gm) + 1) ((op (A0 1) 1300 ga + op (A0 1) (1300 + (ga : Int) + 1) (1 + gj) - 1) + ow x85.toInt) ∧ cb (A117 66) 0 ((gm) + 1) (gC + 1300) := p119
            obtain ⟨p119a, p119b, p119c⟩ := p119
            show am_Ok _ _ _ (175, _, [], _, 0, 0) _
            refine k_goto 209 rfl rfl ?_
            obtain ⟨x122, q123⟩ : ∃ q : Int32, q = v8 + (1 : Int32) := ⟨_, rfl⟩
            have e124 : x122.toInt = v8.toInt + 1 := by rw [q123, iv_add (by omega) (by omega)]; omega
            refine k_iinc x122 212 rfl (gs_ne rfl rfl g80) q123.symm rfl ?_
            refine k_goto 71 rfl rfl ?_
            have hmk : mk (A117 66) (gm + 1) (op (A0 1) 1300 ga + op (A0 1) (1300 + (ga : Int) + 1) (1 + (gj + 1)) - 1) := by rw [show 1 + (gj + 1) = 1 + gj + 1 by omega, hw9, hcode, show op (A0 1) 1300 ga + (op (A0 1) (1300 + (ga : Int) + 1) (1 + gj) + ow x85.toInt) - 1 = op (A0 1) 1300 ga + op (A0 1) (1300 + (ga : Int) + 1) (1 + gj) - 1 + ow x85.toInt by rw [show ow x85.toInt = ow x85.toInt by first | rfl | (rw [ow_v (by omega) (by omega), ow_v (by omega) (by omega)]) | (rw [show x85.toInt = 1 by omega]; rfl)]; omega]; exact p119b
            have hcb : cb (A117 66) 0 (gm + 1) (gC + 1300) := p119c
            exact ih _ (show (nf - (gj + 1)) < n by omega) (gj := gj + 1) (gm := gm + 1) rfl (gs_ne rfl rfl (gs_ne rfl rfl g72)) (gs_ne rfl rfl (gs_ne rfl rfl g73)) (gs_ne rfl rfl (gs_ne rfl rfl g74)) (gs_ne rfl rfl (gs_ne rfl rfl g75)) (gs_ne rfl rfl (gs_ne rfl rfl g76)) (gs_ne rfl rfl (gs_ne rfl rfl g77)) (gs_ne rfl rfl (gs_ne rfl rfl g78)) (gs_ne rfl rfl (gs_ne rfl rfl g79)) gs_eq I118 (fr1.tr (by decide) hF k120) (fr2.tr (by decide) hA k121) (show v1.toInt = 1300 ∧ v2.toInt = ga ∧ v3.toInt = gn ∧ v4.toInt = ga + 2 ∧ v5.toInt = ga + 1 + nf ∧ v6.toInt = ga + 1 + nf + na by omega) (show (A117 1) = A0 1 ∧ (A117 2) = A0 2 from ⟨((k121 1 (by decide))).trans i0.1, ((k121 2 (by decide))).trans i0.2⟩) (show x122.toInt = ga + 2 + (gj + 1) ∧ (gj + 1) + 1 ≤ nf by omega) (show 0 ≤ x71.toInt ∧ x71.toInt ≤ (gj + 1) by omega) (show (F116 67) = (gm + 1) ∧ (gm + 1) ≤ 2000 by omega) (show mk ((A117 66)) (gm + 1) (op (A0 1) 1300 ga + op (A0 1) (1300 + (ga : Int) + 1) (1 + (gj + 1)) - 1) from hmk) (show cb ((A117 66)) 0 (gm + 1) (gC + 1300) from hcb)
          · refine k_c1 160 rfl rfl (if_neg b113) ?_
            have b113 := mt iv_eq0.mpr b113
            refine k_iload 162 rfl gs_eq rfl ?_
            refine k_push 163 rfl rfl ?_
            have hc125 : (2 : Int32).toInt = 2 := by decide
            obtain ⟨x126, q127⟩ : ∃ q : Int32, q = (x85 - (2 : Int32)) := ⟨_, rfl⟩
            have e128 : x126.toInt = x85.toInt - 2 := by rw [q127, iv_sub (by omega) (by omega)]; omega
            refine k_bin x126 164 rfl q127.symm rfl ?_
            refine k_iload 166 rfl (gs_ne rfl rfl g79) rfl ?_
            by_cases b129 : x71 ≤ x126
            · refine k_c2 178 rfl rfl (if_pos b129) ?_
              have b129 := iv_le.mp b129
              refine k_iload 180 rfl gs_eq rfl ?_
              refine k_push 181 rfl rfl ?_
              obtain ⟨x130, q131⟩ : ∃ q : Int32, q = (x85 - (2 : Int32)) := ⟨_, rfl⟩
              have e132 : x130.toInt = x85.toInt - 2 := by rw [q131, iv_sub (by omega) (by omega)]; omega
              refine k_bin x130 182 rfl q131.symm rfl ?_
              refine k_iload 184 rfl (gs_ne rfl rfl g79) rfl ?_
              by_cases b133 : x130 = x71
              · refine k_c2 187 rfl rfl (if_pos b133) ?_
                have b133 := iv_eq.mp b133
                refine k_aload 188 rfl (gs_ne rfl rfl g72) rfl ?_
                refine k_iload 189 rfl (gs_ne rfl rfl g73) rfl ?_
                refine k_iload 191 rfl (gs_ne rfl rfl g77) rfl ?_
                refine k_iload 193 rfl (gs_ne rfl rfl g78) rfl ?_
                refine k_iload 195 rfl (gs_ne rfl rfl g79) rfl ?_
                refine k_rv hI rfl (m_makesArgument (gm := gm) (ga := na) (gc := op (A0 1) 1300 ga + op (A0 1) (1300 + (ga : Int) + 1) (1 + gj) - 1) (gC := gC) (gM := gC + 1300) hI.1 (show (F 67) = (gm) ∧ (gm) + (na) ≤ 2600 ∧ (na) ≤ 1000 by omega) (show mk ((A 66)) (gm) (op (A0 1) 1300 ga + op (A0 1) (1300 + (ga : Int) + 1) (1 + gj) - 1) from i4) (show 0 < (op (A0 1) 1300 ga + op (A0 1) (1300 + (ga : Int) + 1) (1 + gj) - 1) by omega) (show cb ((A 66)) 0 (gm) (gC + 1300) from i5) (show 0 ≤ v1.toInt ∧ 0 ≤ v5.toInt ∧ v1.toInt + v5.toInt + (na) ≤ 3900 ∧ v6.toInt = v5.toInt + (na) ∧ 0 ≤ x71.toInt ∧ x71.toInt ≤ 1300 ∧ v5.toInt ≤ 3900 ∧ v1.toInt ≤ 3900 by omega) (show wf ((A 1)) (v1.toInt + v5.toInt) (na) by rw [i0.1, show v1.toInt + v5.toInt = 1300 + (ga : Int) + 1 + nf by omega]; exact p5) (show cb ((A 1)) (v1.toInt + v5.toInt) (na) (gC) by rw [i0.1, show v1.toInt + v5.toInt = 1300 + ((ga + 1 + nf : Nat) : Int) by omega]; exact cb.sub p7 (by omega)) (show 0 ≤ (gC) ∧ (gC) ≤ 1000000 ∧ (gC) + 1300 ≤ (gC + 1300) by omega)) rfl rfl rfl hI.rc ?_
                rintro h135 F136 A137 I138 ⟨k140, k141, p139⟩
                replace p139 : F136 67 = (gm) + (na) ∧ mk (A137 66) ((gm) + (na)) ((op (A0 1) 1300 ga + op (A0 1) (1300 + (ga : Int) + 1) (1 + gj) - 1) - 1) ∧ cb (A137 66) 0 ((gm) + (na)) (gC + 1300) := p139
                obtain ⟨p139a, p139b, p139c⟩ := p139
                show am_Ok _ _ _ (198, _, [], _, 0, 0) _
                refine k_goto 209 rfl rfl ?_
                obtain ⟨x142, q143⟩ : ∃ q : Int32, q = v8 + (1 : Int32) := ⟨_, rfl⟩
                have e144 : x142.toInt = v8.toInt + 1 := by rw [q143, iv_add (by omega) (by omega)]; omega
                refine k_iinc x142 212 rfl (gs_ne rfl rfl g80) q143.symm rfl ?_
                refine k_goto 71 rfl rfl ?_
                have hmk : mk (A137 66) (gm + na) (op (A0 1) 1300 ga + op (A0 1) (1300 + (ga : Int) + 1) (1 + (gj + 1)) - 1) := by rw [show 1 + (gj + 1) = 1 + gj + 1 by omega, hw9, hcode, show op (A0 1) 1300 ga + (op (A0 1) (1300 + (ga : Int) + 1) (1 + gj) + ow x85.toInt) - 1 = op (A0 1) 1300 ga + op (A0 1) (1300 + (ga : Int) + 1) (1 + gj) - 1 - 1 by rw [ow_v (by omega) (by omega)]; omega]; exact p139b
                have hcb : cb (A137 66) 0 (gm + na) (gC + 1300) := p139c
                exact ih _ (show (nf - (gj + 1)) < n by omega) (gj := gj + 1) (gm := gm + na) rfl (gs_ne rfl rfl (gs_ne rfl rfl g72)) (gs_ne rfl rfl (gs_ne rfl rfl g73)) (gs_ne rfl rfl (gs_ne rfl rfl g74)) (gs_ne rfl rfl (gs_ne rfl rfl g75)) (gs_ne rfl rfl (gs_ne rfl rfl g76)) (gs_ne rfl rfl (gs_ne rfl rfl g77)) (gs_ne rfl rfl (gs_ne rfl rfl g78)) (gs_ne rfl rfl (gs_ne rfl rfl g79)) gs_eq I138 (fr1.tr (by decide) hF k140) (fr2.tr (by decide) hA k141) (show v1.toInt = 1300 ∧ v2.toInt = ga ∧ v3.toInt = gn ∧ v4.toInt = ga + 2 ∧ v5.toInt = ga + 1 + nf ∧ v6.toInt = ga + 1 + nf + na by omega) (show (A137 1) = A0 1 ∧ (A137 2) = A0 2 from ⟨((k141 1 (by decide))).trans i0.1, ((k141 2 (by decide))).trans i0.2⟩) (show x142.toInt = ga + 2 + (gj + 1) ∧ (gj + 1) + 1 ≤ nf by omega) (show 0 ≤ x71.toInt ∧ x71.toInt ≤ (gj + 1) by omega) (show (F136 67) = (gm + na) ∧ (gm + na) ≤ 2000 by omega) (show mk ((A137 66)) (gm + na) (op (A0 1) 1300 ga + op (A0 1) (1300 + (ga : Int) + 1) (1 + (gj + 1)) - 1) from hmk) (show cb ((A137 66)) 0 (gm + na) (gC + 1300) from hcb)
              · refine k_c2 201 rfl rfl (if_neg b133) ?_
                have b133 := mt iv_eq.mpr b133
                refine k_aload 202 rfl (gs_ne rfl rfl g72) rfl ?_
                refine k_iload 204 rfl gs_eq rfl ?_
                refine k_push 205 rfl rfl ?_
                obtain ⟨x145, q146⟩ : ∃ q : Int32, q = (x85 - (1 : Int32)) := ⟨_, rfl⟩
                have e147 : x145.toInt = x85.toInt - 1 := by rw [q146, iv_sub (by omega) (by omega)]; omega
                refine k_bin x145 206 rfl q146.symm rfl ?_
                refine k_rv hI rfl (m_makes (gm := gm) (gc := op (A0 1) 1300 ga + op (A0 1) (1300 + (ga : Int) + 1) (1 + gj) - 1) (gM := gC + 1300) hI.1 (show (F 67) = (gm) ∧ (gm) ≤ 2599 by omega) (show mk ((A 66)) (gm) (op (A0 1) 1300 ga + op (A0 1) (1300 + (ga : Int) + 1) (1 + gj) - 1) from i4) (show 0 < (op (A0 1) 1300 ga + op (A0 1) (1300 + (ga : Int) + 1) (1 + gj) - 1) by omega) (show cb ((A 66)) 0 (gm) (gC + 1300) from i5) (show 0 ≤ x145.toInt ∧ x145.toInt ≤ (gC + 1300) by omega)) rfl rfl rfl hI.rc ?_
                rintro h149 F150 A151 I152 ⟨k154, k155, p153⟩
                replace p153 : F150 67 = (gm) + 1 ∧ mk (A151 66) ((gm) + 1) ((op (A0 1) 1300 ga + op (A0 1) (1300 + (ga : Int) + 1) (1 + gj) - 1) + ow x145.toInt) ∧ cb (A151 66) 0 ((gm) + 1) (gC + 1300) := p153
                obtain ⟨p153a, p153b, p153c⟩ := p153
                show am_Ok _ _ _ (209, _, [], _, 0, 0) _
                obtain ⟨x156, q157⟩ : ∃ q : Int32, q = v8 + (1 : Int32) := ⟨_, rfl⟩
                have e158 : x156.toInt = v8.toInt + 1 := by rw [q157, iv_add (by omega) (by omega)]; omega
                refine k_iinc x156 212 rfl (gs_ne rfl rfl g80) q157.symm rfl ?_
                refine k_goto 71 rfl rfl ?_
                have hmk : mk (A151 66) (gm + 1) (op (A0 1) 1300 ga + op (A0 1) (1300 + (ga : Int) + 1) (1 + (gj + 1)) - 1) := by rw [show 1 + (gj + 1) = 1 + gj + 1 by omega, hw9, hcode, show op (A0 1) 1300 ga + (op (A0 1) (1300 + (ga : Int) + 1) (1 + gj) + ow x85.toInt) - 1 = op (A0 1) 1300 ga + op (A0 1) (1300 + (ga : Int) + 1) (1 + gj) - 1 + ow x145.toInt by rw [show ow x85.toInt = ow x145.toInt by first | rfl | (rw [ow_v (by omega) (by omega), ow_v (by omega) (by omega)]) | (rw [show x85.toInt = 1 by omega]; rfl)]; omega]; exact p153b
                have hcb : cb (A151 66) 0 (gm + 1) (gC + 1300) := p153c
                exact ih _ (show (nf - (gj + 1)) < n by omega) (gj := gj + 1) (gm := gm + 1) rfl (gs_ne rfl rfl (gs_ne rfl rfl g72)) (gs_ne rfl rfl (gs_ne rfl rfl g73)) (gs_ne rfl rfl (gs_ne rfl rfl g74)) (gs_ne rfl rfl (gs_ne rfl rfl g75)) (gs_ne rfl rfl (gs_ne rfl rfl g76)) (gs_ne rfl rfl (gs_ne rfl rfl g77)) (gs_ne rfl rfl (gs_ne rfl rfl g78)) (gs_ne rfl rfl (gs_ne rfl rfl g79)) gs_eq I152 (fr1.tr (by decide) hF k154) (fr2.tr (by decide) hA k155) (show v1.toInt = 1300 ∧ v2.toInt = ga ∧ v3.toInt = gn ∧ v4.toInt = ga + 2 ∧ v5.toInt = ga + 1 + nf ∧ v6.toInt = ga + 1 + nf + na by omega) (show (A151 1) = A0 1 ∧ (A151 2) = A0 2 from ⟨((k155 1 (by decide))).trans i0.1, ((k155 2 (by decide))).trans i0.2⟩) (show x156.toInt = ga + 2 + (gj + 1) ∧ (gj + 1) + 1 ≤ nf by omega) (show 0 ≤ x71.toInt ∧ x71.toInt ≤ (gj + 1) by omega) (show (F150 67) = (gm + 1) ∧ (gm + 1) ≤ 2000 by omega) (show mk ((A151 66)) (gm + 1) (op (A0 1) 1300 ga + op (A0 1) (1300 + (ga : Int) + 1) (1 + (gj + 1)) - 1) from hmk) (show cb ((A151 66)) 0 (gm + 1) (gC + 1300) from hcb)
            · refine k_c2 169 rfl rfl (if_neg b129) ?_
              have b129 := mt iv_le.mpr b129
              refine k_aload 170 rfl (gs_ne rfl rfl g72) rfl ?_
              refine k_iload 172 rfl gs_eq rfl ?_
              refine k_rv hI rfl (m_makes (gm := gm) (gc := op (A0 1) 1300 ga + op (A0 1) (1300 + (ga : Int) + 1) (1 + gj) - 1) (gM := gC + 1300) hI.1 (show (F 67) = (gm) ∧ (gm) ≤ 2599 by omega) (show mk ((A 66)) (gm) (op (A0 1) 1300 ga + op (A0 1) (1300 + (ga : Int) + 1) (1 + gj) - 1) from i4) (show 0 < (op (A0 1) 1300 ga + op (A0 1) (1300 + (ga : Int) + 1) (1 + gj) - 1) by omega) (show cb ((A 66)) 0 (gm) (gC + 1300) from i5) (show 0 ≤ x85.toInt ∧ x85.toInt ≤ (gC + 1300) by omega)) rfl rfl rfl hI.rc ?_
              rintro h160 F161 A162 I163 ⟨k165, k166, p164⟩
              replace p164 : F161 67 = (gm) + 1 ∧ mk (A162 66) ((gm) + 1) ((op (A0 1) 1300 ga + op (A0 1) (1300 + (ga : Int) + 1) (1 + gj) - 1) + ow x85.toInt) ∧ cb (A162 66) 0 ((gm) + 1) (gC + 1300) := p164
              obtain ⟨p164a, p164b, p164c⟩ := p164
              show am_Ok _ _ _ (175, _, [], _, 0, 0) _
              refine k_goto 209 rfl rfl ?_
              obtain ⟨x167, q168⟩ : ∃ q : Int32, q = v8 + (1 : Int32) := ⟨_, rfl⟩
              have e169 : x167.toInt = v8.toInt + 1 := by rw [q168, iv_add (by omega) (by omega)]; omega
              refine k_iinc x167 212 rfl (gs_ne rfl rfl g80) q168.symm rfl ?_
              refine k_goto 71 rfl rfl ?_
              have hmk : mk (A162 66) (gm + 1) (op (A0 1) 1300 ga + op (A0 1) (1300 + (ga : Int) + 1) (1 + (gj + 1)) - 1) := by rw [show 1 + (gj + 1) = 1 + gj + 1 by omega, hw9, hcode, show op (A0 1) 1300 ga + (op (A0 1) (1300 + (ga : Int) + 1) (1 + gj) + ow x85.toInt) - 1 = op (A0 1) 1300 ga + op (A0 1) (1300 + (ga : Int) + 1) (1 + gj) - 1 + ow x85.toInt by rw [show ow x85.toInt = ow x85.toInt by first | rfl | (rw [ow_v (by omega) (by omega), ow_v (by omega) (by omega)]) | (rw [show x85.toInt = 1 by omega]; rfl)]; omega]; exact p164b
              have hcb : cb (A162 66) 0 (gm + 1) (gC + 1300) := p164c
              exact ih _ (show (nf - (gj + 1)) < n by omega) (gj := gj + 1) (gm := gm + 1) rfl (gs_ne rfl rfl (gs_ne rfl rfl g72)) (gs_ne rfl rfl (gs_ne rfl rfl g73)) (gs_ne rfl rfl (gs_ne rfl rfl g74)) (gs_ne rfl rfl (gs_ne rfl rfl g75)) (gs_ne rfl rfl (gs_ne rfl rfl g76)) (gs_ne rfl rfl (gs_ne rfl rfl g77)) (gs_ne rfl rfl (gs_ne rfl rfl g78)) (gs_ne rfl rfl (gs_ne rfl rfl g79)) gs_eq I163 (fr1.tr (by decide) hF k165) (fr2.tr (by decide) hA k166) (show v1.toInt = 1300 ∧ v2.toInt = ga ∧ v3.toInt = gn ∧ v4.toInt = ga + 2 ∧ v5.toInt = ga + 1 + nf ∧ v6.toInt = ga + 1 + nf + na by omega) (show (A162 1) = A0 1 ∧ (A162 2) = A0 2 from ⟨((k166 1 (by decide))).trans i0.1, ((k166 2 (by decide))).trans i0.2⟩) (show x167.toInt = ga + 2 + (gj + 1) ∧ (gj + 1) + 1 ≤ nf by omega) (show 0 ≤ x71.toInt ∧ x71.toInt ≤ (gj + 1) by omega) (show (F161 67) = (gm + 1) ∧ (gm + 1) ≤ 2000 by omega) (show mk ((A162 66)) (gm + 1) (op (A0 1) 1300 ga + op (A0 1) (1300 + (ga : Int) + 1) (1 + (gj + 1)) - 1) from hmk) (show cb ((A162 66)) 0 (gm + 1) (gC + 1300) from hcb)
theorem b_X10_worksOff_39 {h0 : am_h} {F0 : rf_f} {A0 : rf_A} {w1 : Int32} {w2 : Int32} {gn ga nf na : Nat} {gC : Int} (p0 : w2.toInt = ga) (p1 : w1.toInt = 1300 ∧ gn ≤ 1000 ∧ A0 2 1 = gn) (p2 : wf (A0 1) 1300 gn) (p3 : ga + 1 + nf + na ≤ gn) (p4 : wf (A0 1) (1300 + (ga : Int) + 1) nf) (p5 : wf (A0 1) (1300 + (ga : Int) + 1 + nf) na) (p6 : A0 1 (1300 + (ga : Int) + 1) = 1) (p7 : cb (A0 1) 1300 gn gC) (p8 : 0 ≤ gC ∧ gC ≤ 900000) (p9 : op (A0 1) 1300 (ga + 1 + nf + na) = op (A0 1) 1300 ga - 1) : ∀ (n : Nat) {lv : am_l} {h : am_h} {F : rf_f} {A : rf_A} {v1 : Int32} {v2 : Int32} {v3 : Int32} {v4 : Int32} {v5 : Int32} {v6 : Int32} {v7 : Int32} {gk : Nat}, (ga - gk) = n → am_get lv 0 = some (.inr (.inr (some 81))) → am_get lv 1 = some (.inl v1) → am_get lv 2 = some (.inl v2) → am_get lv 3 = some (.inl v3) → am_get lv 4 = some (.inl v4) → am_get lv 5 = some (.inl v5) → am_get lv 6 = some (.inl v6) → am_get lv 7 = some (.inl v7) → rf_I h0 h F A → fr1 [67] F0 F → fr2 [66, 68, 69, 1, 2] A0 A → (v1.toInt = 1300 ∧ v2.toInt = ga ∧ v3.toInt = gn ∧ v4.toInt = ga + 2 ∧ v5.toInt = ga + 1 + nf ∧ v6.toInt = ga + 1 + nf + na) → (A 1 = A0 1 ∧ A 2 = A0 2) → (v7.toInt = gk ∧ gk ≤ ga) → (F 67 = gk) → (mk (A 66) gk (op (A0 1) 1300 gk)) → (cb (A 66) 0 gk (gC + 1300)) → am_Ok am_G 2 243 (39, lv, [], h, 0, 0) (rf_Q h0 (fun x F' A' => fr1 [67] F0 F' ∧ fr2 [66, 68, 69, 1, 2] A0 A' ∧ ((x = 0 ∧ A' 1 = A0 1 ∧ A' 2 = A0 2) ∨ (x = 1 ∧ ∃ n' : Nat, n' ≤ 1000 ∧ A' 2 1 = n' ∧ (∀ q : Int, q ≠ 1 → A' 2 q = A0 2 q) ∧ wf (A' 1) 1300 n' ∧ cb (A' 1) 1300 n' (gC + 1300) ∧ ∀ q : Int, (q < 1300 ∨ 2600 ≤ q) → A' 1 q = A0 1 q)))) := by
  intro n
  induction n using Nat.strongRecOn with
  | ind n ih =>
    intro lv h F A v1 v2 v3 v4 v5 v6 v7 gk hn g0 g1 g2 g3 g4 g5 g6 g7 hI hF hA ic i0 i1 i2 i3 i4
    have hp9 := p2.2 gk
    have hw9 := op_nx (t := A0 1) (i := 1300) gk
    have hna := wf_pos p5
    have hnf := wf_pos p4
    refine k_iload 41 rfl g7 rfl ?_
    refine k_iload 42 rfl g2 rfl ?_
    by_cases b170 : v2 ≤ v7
    · refine k_c2 64 rfl rfl (if_pos b170) ?_
      have b170 := iv_le.mp b170
      refine k_push 65 rfl rfl ?_
      have hc171 : (0 : Int32).toInt = 0 := by decide
      refine k_istore 67 rfl rfl ?_
      refine k_iload 69 rfl (gs_ne rfl rfl g4) rfl ?_
      refine k_istore 71 rfl rfl ?_
      have e9 : gk = ga := by omega
      have hmk0 : mk (A 66) ga (op (A0 1) 1300 ga + op (A0 1) (1300 + (ga : Int) + 1) (1 + 0) - 1) := by rw [show op (A0 1) (1300 + (ga : Int) + 1) (1 + 0) = 1 + ow (A0 1 (1300 + (ga : Int) + 1 + ((0 : Nat) : Int))) from rfl, show (1300 : Int) + (ga : Int) + 1 + ((0 : Nat) : Int) = 1300 + (ga : Int) + 1 by omega, p6, ow_1, show op (A0 1) 1300 ga + (1 + 0) - 1 = op (A0 1) 1300 ga by omega, ← e9]; exact i3
      have hcb0 : cb (A 66) 0 ga (gC + 1300) := by rw [← e9]; exact i4
      exact b_X10_worksOff_71 (gn := gn) (ga := ga) (nf := nf) (na := na) (gC := gC) (w1 := w1) (w2 := w2) p0 p1 p2 p3 p4 p5 p6 p7 p8 p9 _ (gj := 0) (gm := ga) rfl (gs_ne rfl rfl (gs_ne rfl rfl g0)) (gs_ne rfl rfl (gs_ne rfl rfl g1)) (gs_ne rfl rfl (gs_ne rfl rfl g2)) (gs_ne rfl rfl (gs_ne rfl rfl g3)) (gs_ne rfl rfl (gs_ne rfl rfl g4)) (gs_ne rfl rfl (gs_ne rfl rfl g5)) (gs_ne rfl rfl (gs_ne rfl rfl g6)) (gs_ne rfl rfl gs_eq) gs_eq hI hF hA (show v1.toInt = 1300 ∧ v2.toInt = ga ∧ v3.toInt = gn ∧ v4.toInt = ga + 2 ∧ v5.toInt = ga + 1 + nf ∧ v6.toInt = ga + 1 + nf + na by omega) (show (A 1) = A0 1 ∧ (A 2) = A0 2 from i0) (show v4.toInt = ga + 2 + (0) ∧ (0) + 1 ≤ nf by omega) (show 0 ≤ (0 : Int32).toInt ∧ (0 : Int32).toInt ≤ (0) by omega) (show (F 67) = (ga) ∧ (ga) ≤ 2000 by omega) (show mk ((A 66)) (ga) (op (A0 1) 1300 ga + op (A0 1) (1300 + (ga : Int) + 1) (1 + (0)) - 1) from hmk0) (show cb ((A 66)) 0 (ga) (gC + 1300) from hcb0)
    · refine k_c2 45 rfl rfl (if_neg b170) ?_
      have b170 := mt iv_le.mpr b170
      refine k_aload 46 rfl g0 rfl ?_
      refine k_aload 47 rfl g0 rfl ?_
      refine r_gA hI 50 rfl rfl rfl ?_
      refine k_iload 51 rfl g1 rfl ?_
      refine k_iload 53 rfl g7 rfl ?_
      obtain ⟨x172, q173⟩ : ∃ q : Int32, q = (v1 + v7) := ⟨_, rfl⟩
      have e174 : x172.toInt = v1.toInt + v7.toInt := by rw [q173, iv_add (by omega) (by omega)]
      refine k_bin x172 54 rfl q173.symm rfl ?_
      refine r_ld 1 hI 55 rfl rfl (by omega) (show x172.toInt < 3900 by omega) rfl (fun x175 (e176 : x175.toInt = A 1 x172.toInt) => ?_)
      rw [e174] at e176
      rw [i0.1] at e176
      have hat := cb.at p7 (p := v1.toInt + v7.toInt) (by omega) (by omega)
      have hcode : ow (A0 1 (1300 + (gk : Int))) = ow x175.toInt := by rw [e176, show v1.toInt + v7.toInt = 1300 + (gk : Int) by omega]
      have hb9 : 0 ≤ x175.toInt ∧ x175.toInt ≤ gC := by rw [e176]; exact hat
      refine k_rv hI rfl (m_makes (gm := gk) (gc := op (A0 1) 1300 gk) (gM := gC + 1300) hI.1 (show (F 67) = (gk) ∧ (gk) ≤ 2599 by omega) (show mk ((A 66)) (gk) (op (A0 1) 1300 gk) from i3) (show 0 < (op (A0 1) 1300 gk) by omega) (show cb ((A 66)) 0 (gk) (gC + 1300) from i4) (show 0 ≤ x175.toInt ∧ x175.toInt ≤ (gC + 1300) by omega)) rfl rfl rfl hI.rc ?_
      rintro h178 F179 A180 I181 ⟨k183, k184, p182⟩
      replace p182 : F179 67 = (gk) + 1 ∧ mk (A180 66) ((gk) + 1) ((op (A0 1) 1300 gk) + ow x175.toInt) ∧ cb (A180 66) 0 ((gk) + 1) (gC + 1300) := p182
      obtain ⟨p182a, p182b, p182c⟩ := p182
      show am_Ok _ _ _ (58, _, [], _, 0, 0) _
      have hc185 : (1 : Int32).toInt = 1 := by decide
      obtain ⟨x186, q187⟩ : ∃ q : Int32, q = v7 + (1 : Int32) := ⟨_, rfl⟩
      have e188 : x186.toInt = v7.toInt + 1 := by rw [q187, iv_add (by omega) (by omega)]; omega
      refine k_iinc x186 61 rfl g7 q187.symm rfl ?_
      refine k_goto 39 rfl rfl ?_
      exact ih _ (show (ga - (gk + 1)) < n by omega) (gk := gk + 1) rfl (gs_ne rfl rfl g0) (gs_ne rfl rfl g1) (gs_ne rfl rfl g2) (gs_ne rfl rfl g3) (gs_ne rfl rfl g4) (gs_ne rfl rfl g5) (gs_ne rfl rfl g6) gs_eq I181 (fr1.tr (by decide) hF k183) (fr2.tr (by decide) hA k184) (show v1.toInt = 1300 ∧ v2.toInt = ga ∧ v3.toInt = gn ∧ v4.toInt = ga + 2 ∧ v5.toInt = ga + 1 + nf ∧ v6.toInt = ga + 1 + nf + na by omega) (show (A180 1) = A0 1 ∧ (A180 2) = A0 2 from ⟨((k184 1 (by decide))).trans i0.1, ((k184 2 (by decide))).trans i0.2⟩) (show x186.toInt = (gk + 1) ∧ (gk + 1) ≤ ga by omega) (show (F179 67) = (gk + 1) by omega) (show mk ((A180 66)) (gk + 1) (op (A0 1) 1300 (gk + 1)) by rw [hw9, hcode]; exact p182b) (show cb ((A180 66)) 0 (gk + 1) (gC + 1300) from p182c)
theorem m_worksOff {h0 : am_h} {F0 : rf_f} {A0 : rf_A} {w1 : Int32} {w2 : Int32} {gn ga nf na : Nat} {gC : Int} (hR : rf_R h0 F0 A0) (p0 : w2.toInt = ga) (p1 : w1.toInt = 1300 ∧ gn ≤ 1000 ∧ A0 2 1 = gn) (p2 : wf (A0 1) 1300 gn) (p3 : ga + 1 + nf + na ≤ gn) (p4 : wf (A0 1) (1300 + (ga : Int) + 1) nf) (p5 : wf (A0 1) (1300 + (ga : Int) + 1 + nf) na) (p6 : A0 1 (1300 + (ga : Int) + 1) = 1) (p7 : cb (A0 1) 1300 gn gC) (p8 : 0 ≤ gC ∧ gC ≤ 900000) (p9 : op (A0 1) 1300 (ga + 1 + nf + na) = op (A0 1) 1300 ga - 1) : am_Mt 3 243 [.inr (.inr (some 81)), .inl w1, .inl w2] h0 (rf_Q h0 (fun x F' A' => fr1 [67] F0 F' ∧ fr2 [66, 68, 69, 1, 2] A0 A' ∧ ((x = 0 ∧ A' 1 = A0 1 ∧ A' 2 = A0 2) ∨ (x = 1 ∧ ∃ n' : Nat, n' ≤ 1000 ∧ A' 2 1 = n' ∧ (∀ q : Int, q ≠ 1 → A' 2 q = A0 2 q) ∧ wf (A' 1) 1300 n' ∧ cb (A' 1) 1300 n' (gC + 1300) ∧ ∀ q : Int, (q < 1300 ∨ 2600 ≤ q) → A' 1 q = A0 1 q)))) := by
  refine am_Mt.of (D := 2) ?_
  have hI : rf_I h0 h0 F0 A0 := rf_I.start hR
  have hna := wf_pos p5
  have hnf := wf_pos p4
  refine k_aload 1 rfl rfl rfl ?_
  refine r_gA hI 4 rfl rfl rfl ?_
  refine k_push 5 rfl rfl ?_
  have hc189 : (1 : Int32).toInt = 1 := by decide
  refine r_ld 2 hI 6 rfl rfl (by omega) (show (1 : Int32).toInt < 3 by omega) rfl (fun x190 (e191 : x190.toInt = A0 2 (1 : Int32).toInt) => ?_)
  rw [hc189] at e191
  refine k_istore 7 rfl rfl ?_
  refine k_iload 8 rfl (gs_ne rfl rfl rfl) rfl ?_
  refine k_push 9 rfl rfl ?_
  have hc192 : (2 : Int32).toInt = 2 := by decide
  obtain ⟨x193, q194⟩ : ∃ q : Int32, q = (w2 + (2 : Int32)) := ⟨_, rfl⟩
  have e195 : x193.toInt = w2.toInt + 2 := by rw [q194, iv_add (by omega) (by omega)]; omega
  refine k_bin x193 10 rfl q194.symm rfl ?_
  refine k_istore 12 rfl rfl ?_
  refine k_aload 13 rfl (gs_ne rfl rfl (gs_ne rfl rfl rfl)) rfl ?_
  refine k_iload 14 rfl (gs_ne rfl rfl (gs_ne rfl rfl rfl)) rfl ?_
  refine k_iload 15 rfl (gs_ne rfl rfl (gs_ne rfl rfl rfl)) rfl ?_
  refine k_push 16 rfl rfl ?_
  obtain ⟨x196, q197⟩ : ∃ q : Int32, q = (w2 + (1 : Int32)) := ⟨_, rfl⟩
  have e198 : x196.toInt = w2.toInt + 1 := by rw [q197, iv_add (by omega) (by omega)]; omega
  refine k_bin x196 17 rfl q197.symm rfl ?_
  refine k_rq hI rfl (m_behind (n9 := nf) hI.1 (show 0 ≤ w1.toInt ∧ 0 ≤ x196.toInt ∧ w1.toInt + x196.toInt + (nf) ≤ 3900 by omega) (show wf ((A0 1)) (w1.toInt + x196.toInt) (nf) by rw [show w1.toInt + x196.toInt = 1300 + (ga : Int) + 1 by omega]; exact p4)) rfl rfl rfl hI.rc ?_
  rintro x199 h200 F201 A202 I203 ⟨k205, k206, p204⟩
  replace p204 : x199.toInt = x196.toInt + (nf) := p204
  have k205 := fr1.nil k205
  subst k205
  have k206 := fr2.nil k206
  subst k206
  show am_Ok _ _ _ (20, _, [.inl x199], _, 0, 0) _
  refine k_istore 22 rfl rfl ?_
  refine k_aload 23 rfl (gs_ne rfl rfl (gs_ne rfl rfl (gs_ne rfl rfl rfl))) rfl ?_
  refine k_iload 24 rfl (gs_ne rfl rfl (gs_ne rfl rfl (gs_ne rfl rfl rfl))) rfl ?_
  refine k_iload 26 rfl gs_eq rfl ?_
  refine k_rq I203 rfl (m_behind (n9 := na) I203.1 (show 0 ≤ w1.toInt ∧ 0 ≤ x199.toInt ∧ w1.toInt + x199.toInt + (na) ≤ 3900 by omega) (show wf ((A0 1)) (w1.toInt + x199.toInt) (na) by rw [show w1.toInt + x199.toInt = 1300 + (ga : Int) + 1 + nf by omega]; exact p5)) rfl rfl rfl I203.rc ?_
  rintro x207 h208 F209 A210 I211 ⟨k213, k214, p212⟩
  replace p212 : x207.toInt = x199.toInt + (na) := p212
  have k213 := fr1.nil k213
  subst k213
  have k214 := fr2.nil k214
  subst k214
  show am_Ok _ _ _ (29, _, [.inl x207], _, 0, 0) _
  refine k_istore 31 rfl rfl ?_
  refine k_aload 32 rfl (gs_ne rfl rfl (gs_ne rfl rfl (gs_ne rfl rfl (gs_ne rfl rfl rfl)))) rfl ?_
  refine k_push 33 rfl rfl ?_
  have hc215 : (0 : Int32).toInt = 0 := by decide
  refine r_pI I211 36 rfl rfl rfl (fun h216 I217 => ?_)
  refine k_push 37 rfl rfl ?_
  refine k_istore 39 rfl rfl ?_
  exact b_X10_worksOff_39 (gn := gn) (ga := ga) (nf := nf) (na := na) (gC := gC) (w1 := w1) (w2 := w2) p0 p1 p2 p3 p4 p5 p6 p7 p8 p9 _ (gk := 0) rfl (gs_ne rfl rfl (gs_ne rfl rfl (gs_ne rfl rfl (gs_ne rfl rfl (gs_ne rfl rfl rfl))))) (gs_ne rfl rfl (gs_ne rfl rfl (gs_ne rfl rfl (gs_ne rfl rfl (gs_ne rfl rfl rfl))))) (gs_ne rfl rfl (gs_ne rfl rfl (gs_ne rfl rfl (gs_ne rfl rfl (gs_ne rfl rfl rfl))))) (gs_ne rfl rfl (gs_ne rfl rfl (gs_ne rfl rfl (gs_ne rfl rfl gs_eq)))) (gs_ne rfl rfl (gs_ne rfl rfl (gs_ne rfl rfl gs_eq))) (gs_ne rfl rfl (gs_ne rfl rfl gs_eq)) (gs_ne rfl rfl gs_eq) gs_eq I217 (fr1.up (by decide) fr1.rf) fr2.rf (show w1.toInt = 1300 ∧ w2.toInt = ga ∧ x190.toInt = gn ∧ x193.toInt = ga + 2 ∧ x199.toInt = ga + 1 + nf ∧ x207.toInt = ga + 1 + nf + na by omega) (show (A0 1) = A0 1 ∧ (A0 2) = A0 2 from ⟨rfl, rfl⟩) (show (0 : Int32).toInt = (0) ∧ (0) ≤ ga by omega) (show ((0 : Int32).toInt) = (0) by omega) (show mk ((A0 66)) (0) (op (A0 1) 1300 (0)) from mk.z) (show cb ((A0 66)) 0 (0) (gC + 1300) from cb.z)
end
