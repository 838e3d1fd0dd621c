section
theorem b_X10_worksOffE_269 {h0 : am_h} {F0 : rf_f} {A0 : rf_A} {w1 : Int32} {w2 : Int32} {gP gB gV gZ : List Int} {gC : Int} (p0 : w2.toInt = (gP.length : Int)) (p1 : w1.toInt = 1300 ∧ gP.length + gB.length + gV.length + gZ.length + 2 ≤ 1000 ∧ A0 2 1 = (gP.length : Int) + gB.length + gV.length + gZ.length + 2) (p2 : wd (A0 1) 1300 (gP ++ 0 :: 1 :: (gB ++ (gV ++ gZ)))) (p4 : wL gB) (p5 : wL gV) (p7 : ∀ z9, z9 ∈ gP ++ 0 :: 1 :: (gB ++ (gV ++ gZ)) → 0 ≤ z9 ∧ z9 ≤ gC) (p8 : 0 ≤ gC ∧ gC ≤ 900000) : ∀ (n : Nat) {lv : am_l} {h : am_h} {F : rf_f} {A : rf_A} {v1 : Int32} {v2 : Int32} {v3 : Int32} {v4 : Int32} {v5 : Int32} {v6 : Int32} {v8 : Int32} {gk gm : Nat}, (gm - gk) = n → am_get lv 0 = some (.inr (.inr (some 81))) → am_get lv 1 = some (.inl v1) → am_get lv 2 = some (.inl v2) → am_get lv 3 = some (.inl v3) → am_get lv 4 = some (.inl v4) → am_get lv 5 = some (.inl v5) → am_get lv 6 = some (.inl v6) → am_get lv 8 = some (.inl v8) → rf_I h0 h F A → fr1 [67] F0 F → fr2 [66, 68, 69, 1, 2] A0 A → (v1.toInt = 1300 ∧ v2.toInt = gP.length ∧ v3.toInt = gP.length + gB.length + gV.length + gZ.length + 2 ∧ v4.toInt = gP.length + 2 ∧ v5.toInt = gP.length + 2 + gB.length ∧ v6.toInt = gP.length + 2 + gB.length + gV.length) → (A 2 = A0 2) → (v8.toInt = gk ∧ gk ≤ gm) → (F 67 = (gm : Int) ∧ gm ≤ 1000) → (gm = (gP ++ (sbl gV gB 0 [] ++ gZ)).length ∧ wd (A 66) 0 (gP ++ (sbl gV gB 0 [] ++ gZ))) → (∀ q : Nat, q < gk → A 1 (1300 + q) = A 66 q) → (∀ q : Int, (q < 1300 ∨ 2600 ≤ q) → A 1 q = A0 1 q) → am_Ok am_G 2 243 (269, lv, [], h, 0, 0) (rf_Q h0 (fun x F' A' => fr1 [67] F0 F' ∧ fr2 [66, 68, 69, 1, 2] A0 A' ∧ ((x = 0 ∧ 1000 < ((gP ++ (sbl gV gB 0 [] ++ gZ)).length : Int) ∧ A' 1 = A0 1 ∧ A' 2 = A0 2) ∨ (x = 1 ∧ ((gP ++ (sbl gV gB 0 [] ++ gZ)).length : Int) ≤ 1000 ∧ A' 2 1 = ((gP ++ (sbl gV gB 0 [] ++ gZ)).length : Int) ∧ (∀ q : Int, q ≠ 1 → A' 2 q = A0 2 q) ∧ wd (A' 1) 1300 (gP ++ (sbl gV gB 0 [] ++ gZ)) ∧ ∀ q : Int, (q < 1300 ∨ 2600 ≤ q) → A' 1 q = A0 1 q)))) := by
  intro n
  induction n using Nat.strongRecOn with
  | ind n ih =>
    intro lv h F A v1 v2 v3 v4 v5 v6 v8 gk gm hn g0 g1 g2 g3 g4 g5 g6 g8 hI hF hA ic i0 i1 i2 i3 i5 i6
    refine k_iload 271 rfl g8 rfl ?_
    refine k_aload 272 rfl g0 rfl ?_
    refine r_gI hI 275 rfl rfl rfl (fun x1 (e2 : x1.toInt = F 67) => ?_)
    by_cases b3 : x1 ≤ v8
    · refine k_c2 300 rfl rfl (if_pos b3) ?_
      have b3 := iv_le.mp b3
      refine k_aload 301 rfl g0 rfl ?_
      refine r_gA hI 304 rfl rfl rfl ?_
      refine k_push 305 rfl rfl ?_
      have hc4 : (1 : Int32).toInt = 1 := by decide
      refine k_aload 306 rfl g0 rfl ?_
      refine r_gI hI 309 rfl rfl rfl (fun x5 (e6 : x5.toInt = F 67) => ?_)
      refine r_st 2 hI 310 rfl rfl (by omega) (show (1 : Int32).toInt < 3 by omega) rfl (fun h7 I8 => ?_)
      refine k_push 311 rfl rfl ?_
      exact k_fin rfl (fin_Z (Or.inr rfl)) ⟨_, _, _, _, rfl, I8, hF, (fr2.up (by decide) hA), show ((1 : Int32).toInt = 0 ∧ 1000 < ((gP ++ (sbl gV gB 0 [] ++ gZ)).length : Int) ∧ (A 1) = A0 1 ∧ ((up2 A 2 (1 : Int32).toInt x5.toInt) 2) = A0 2) ∨ ((1 : Int32).toInt = 1 ∧ ((gP ++ (sbl gV gB 0 [] ++ gZ)).length : Int) ≤ 1000 ∧ ((up2 A 2 (1 : Int32).toInt x5.toInt) 2) 1 = ((gP ++ (sbl gV gB 0 [] ++ gZ)).length : Int) ∧ (∀ q : Int, q ≠ 1 → ((up2 A 2 (1 : Int32).toInt x5.toInt) 2) q = A0 2 q) ∧ wd ((A 1)) 1300 (gP ++ (sbl gV gB 0 [] ++ gZ)) ∧ ∀ q : Int, (q < 1300 ∨ 2600 ≤ q) → (A 1) q = A0 1 q) from Or.inr ⟨by omega, by omega, by rw [show (1 : Int) = (1 : Int32).toInt by decide, up2_eq]; omega, fun q hq => by rw [up2_ne (by omega), i0], wd_cg i3.2 (fun q hq => by rw [Int.zero_add]; exact (i5 q (by omega)).symm), i6⟩⟩
    · refine k_c2 278 rfl rfl (if_neg b3) ?_
      have b3 := mt iv_le.mpr b3
      refine k_aload 279 rfl g0 rfl ?_
      refine r_gA hI 282 rfl rfl rfl ?_
      refine k_iload 283 rfl g1 rfl ?_
      refine k_iload 285 rfl g8 rfl ?_
      obtain ⟨x9, q10⟩ : ∃ q : Int32, q = (v1 + v8) := ⟨_, rfl⟩
      have e11 : x9.toInt = v1.toInt + v8.toInt := by rw [q10, iv_add (by omega) (by omega)]
      refine k_bin x9 286 rfl q10.symm rfl ?_
      refine k_aload 287 rfl g0 rfl ?_
      refine r_gA hI 290 rfl rfl rfl ?_
      refine k_iload 292 rfl g8 rfl ?_
      refine r_ld 66 hI 293 rfl rfl (by omega) (show v8.toInt < 2700 by omega) rfl (fun x12 (e13 : x12.toInt = A 66 v8.toInt) => ?_)
      refine r_st 1 hI 294 rfl rfl (by omega) (show x9.toInt < 3900 by omega) rfl (fun h14 I15 => ?_)
      have hc16 : (1 : Int32).toInt = 1 := by decide
      obtain ⟨x17, q18⟩ : ∃ q : Int32, q = v8 + (1 : Int32) := ⟨_, rfl⟩
      have e19 : x17.toInt = v8.toInt + 1 := by rw [q18, iv_add (by omega) (by omega)]; omega
      refine k_iinc x17 297 rfl g8 q18.symm rfl ?_
      refine k_goto 269 rfl rfl ?_
      have hi5 : ∀ q : Nat, q < gk + 1 → ((up2 A 1 x9.toInt x12.toInt) 1) (1300 + q) = A 66 q := wo_cp i5 (by omega) (by rw [show (gk : Int) = v8.toInt by omega]; omega)
      exact ih _ (show ((gm) - (gk + 1)) < n by omega) (gk := gk + 1) (gm := gm) rfl (gs_ne rfl rfl g0) (gs_ne rfl rfl g1) (gs_ne rfl rfl g2) (gs_ne rfl rfl g3) (gs_ne rfl rfl g4) (gs_ne rfl rfl g5) (gs_ne rfl rfl g6) gs_eq I15 hF (fr2.up (by decide) hA) (show v1.toInt = 1300 ∧ v2.toInt = gP.length ∧ v3.toInt = gP.length + gB.length + gV.length + gZ.length + 2 ∧ v4.toInt = gP.length + 2 ∧ v5.toInt = gP.length + 2 + gB.length ∧ v6.toInt = gP.length + 2 + gB.length + gV.length by omega) (show (A 2) = A0 2 from i0) (show x17.toInt = (gk + 1) ∧ (gk + 1) ≤ (gm) by omega) (show (F 67) = ((gm) : Int) ∧ (gm) ≤ 1000 by omega) (show (gm) = (gP ++ (sbl gV gB 0 [] ++ gZ)).length ∧ wd ((A 66)) 0 (gP ++ (sbl gV gB 0 [] ++ gZ)) from i3) (show ∀ q : Nat, q < (gk + 1) → ((up2 A 1 x9.toInt x12.toInt) 1) (1300 + q) = (A 66) q from hi5) (show ∀ q : Int, (q < 1300 ∨ 2600 ≤ q) → ((up2 A 1 x9.toInt x12.toInt) 1) q = A0 1 q from fun q hq => by rw [up2_ne (by omega)]; exact i6 q hq)
theorem b_X10_worksOffE_219 {h0 : am_h} {F0 : rf_f} {A0 : rf_A} {w1 : Int32} {w2 : Int32} {gP gB gV gZ : List Int} {gC : Int} (p0 : w2.toInt = (gP.length : Int)) (p1 : w1.toInt = 1300 ∧ gP.length + gB.length + gV.length + gZ.length + 2 ≤ 1000 ∧ A0 2 1 = (gP.length : Int) + gB.length + gV.length + gZ.length + 2) (p2 : wd (A0 1) 1300 (gP ++ 0 :: 1 :: (gB ++ (gV ++ gZ)))) (p4 : wL gB) (p5 : wL gV) (p7 : ∀ z9, z9 ∈ gP ++ 0 :: 1 :: (gB ++ (gV ++ gZ)) → 0 ≤ z9 ∧ z9 ≤ gC) (p8 : 0 ≤ gC ∧ gC ≤ 900000) : ∀ (n : Nat) {lv : am_l} {h : am_h} {F : rf_f} {A : rf_A} {v1 : Int32} {v2 : Int32} {v3 : Int32} {v4 : Int32} {v5 : Int32} {v6 : Int32} {v8 : Int32} {gk gm : Nat}, (gZ.length - gk) = n → am_get lv 0 = some (.inr (.inr (some 81))) → am_get lv 1 = some (.inl v1) → am_get lv 2 = some (.inl v2) → am_get lv 3 = some (.inl v3) → am_get lv 4 = some (.inl v4) → am_get lv 5 = some (.inl v5) → am_get lv 6 = some (.inl v6) → am_get lv 8 = some (.inl v8) → rf_I h0 h F A → fr1 [67] F0 F → fr2 [66, 68, 69, 1, 2] A0 A → (v1.toInt = 1300 ∧ v2.toInt = gP.length ∧ v3.toInt = gP.length + gB.length + gV.length + gZ.length + 2 ∧ v4.toInt = gP.length + 2 ∧ v5.toInt = gP.length + 2 + gB.length ∧ v6.toInt = gP.length + 2 + gB.length + gV.length) → (A 1 = A0 1 ∧ A 2 = A0 2) → (v8.toInt = gP.length + 2 + gB.length + gV.length + gk ∧ gk ≤ gZ.length) → (F 67 = (gm : Int) ∧ gm ≤ 2001) → (WO3 (A 66) gm gk gP (sbl gV gB 0 []) gZ) → am_Ok am_G 2 243 (219, lv, [], h, 0, 0) (rf_Q h0 (fun x F' A' => fr1 [67] F0 F' ∧ fr2 [66, 68, 69, 1, 2] A0 A' ∧ ((x = 0 ∧ 1000 < ((gP ++ (sbl gV gB 0 [] ++ gZ)).length : Int) ∧ A' 1 = A0 1 ∧ A' 2 = A0 2) ∨ (x = 1 ∧ ((gP ++ (sbl gV gB 0 [] ++ gZ)).length : Int) ≤ 1000 ∧ A' 2 1 = ((gP ++ (sbl gV gB 0 [] ++ gZ)).length : Int) ∧ (∀ q : Int, q ≠ 1 → A' 2 q = A0 2 q) ∧ wd (A' 1) 1300 (gP ++ (sbl gV gB 0 [] ++ gZ)) ∧ ∀ q : Int, (q < 1300 ∨ 2600 ≤ q) → A' 1 q = A0 1 q)))) := by
  intro n
  induction n using Nat.strongRecOn with
  | ind n ih =>
    intro lv h F A v1 v2 v3 v4 v5 v6 v8 gk gm hn g0 g1 g2 g3 g4 g5 g6 g8 hI hF hA ic i0 i1 i2 i3
    obtain ⟨wP, wF, wB, wV, wZ⟩ := wo_sp p2
    refine k_iload 221 rfl g8 rfl ?_
    refine k_iload 222 rfl g3 rfl ?_
    by_cases b20 : v3 ≤ v8
    · refine k_c2 254 rfl rfl (if_pos b20) ?_
      have b20 := iv_le.mp b20
      refine k_aload 255 rfl g0 rfl ?_
      refine r_gI hI 258 rfl rfl rfl (fun x21 (e22 : x21.toInt = F 67) => ?_)
      refine k_push 261 rfl rfl ?_
      have hc23 : (1000 : Int32).toInt = 1000 := by decide
      by_cases b24 : x21 ≤ (1000 : Int32)
      · refine k_c2 266 rfl rfl (if_pos b24) ?_
        have b24 := iv_le.mp b24
        have hfm := i3.good (by omega) (by omega)
        refine k_push 267 rfl rfl ?_
        have hc25 : (0 : Int32).toInt = 0 := by decide
        refine k_istore 269 rfl rfl ?_
        exact b_X10_worksOffE_269 (gP := gP) (gB := gB) (gV := gV) (gZ := gZ) (gC := gC) (w1 := w1) (w2 := w2) p0 p1 p2 p4 p5 p7 p8 _ (gk := 0) (gm := gm) rfl (gs_ne rfl rfl g0) (gs_ne rfl rfl g1) (gs_ne rfl rfl g2) (gs_ne rfl rfl g3) (gs_ne rfl rfl g4) (gs_ne rfl rfl g5) (gs_ne rfl rfl g6) gs_eq hI hF hA (show v1.toInt = 1300 ∧ v2.toInt = gP.length ∧ v3.toInt = gP.length + gB.length + gV.length + gZ.length + 2 ∧ v4.toInt = gP.length + 2 ∧ v5.toInt = gP.length + 2 + gB.length ∧ v6.toInt = gP.length + 2 + gB.length + gV.length by omega) (show (A 2) = A0 2 from i0.2) (show (0 : Int32).toInt = (0) ∧ (0) ≤ (gm) by omega) (show (F 67) = ((gm) : Int) ∧ (gm) ≤ 1000 by omega) (show (gm) = (gP ++ (sbl gV gB 0 [] ++ gZ)).length ∧ wd ((A 66)) 0 (gP ++ (sbl gV gB 0 [] ++ gZ)) from hfm) (show ∀ q : Nat, q < (0) → (A 1) (1300 + q) = (A 66) q from fun q hq => absurd hq (Nat.not_lt_zero q)) (show ∀ q : Int, (q < 1300 ∨ 2600 ≤ q) → (A 1) q = A0 1 q from fun q _ => by rw [i0.1])
      · refine k_c2 264 rfl rfl (if_neg b24) ?_
        have b24 := mt iv_le.mpr b24
        refine k_push 265 rfl rfl ?_
        have hc26 : (0 : Int32).toInt = 0 := by decide
        exact k_fin rfl (fin_Z (Or.inl rfl)) ⟨_, _, _, _, rfl, hI, hF, hA, show ((0 : Int32).toInt = 0 ∧ 1000 < ((gP ++ (sbl gV gB 0 [] ++ gZ)).length : Int) ∧ (A 1) = A0 1 ∧ (A 2) = A0 2) ∨ ((0 : Int32).toInt = 1 ∧ ((gP ++ (sbl gV gB 0 [] ++ gZ)).length : Int) ≤ 1000 ∧ (A 2) 1 = ((gP ++ (sbl gV gB 0 [] ++ gZ)).length : Int) ∧ (∀ q : Int, q ≠ 1 → (A 2) q = A0 2 q) ∧ wd ((A 1)) 1300 (gP ++ (sbl gV gB 0 [] ++ gZ)) ∧ ∀ q : Int, (q < 1300 ∨ 2600 ≤ q) → (A 1) q = A0 1 q) from Or.inl ⟨by omega, i3.bad (by omega), i0.1, i0.2⟩⟩
    · refine k_c2 225 rfl rfl (if_neg b20) ?_
      have b20 := mt iv_le.mpr b20
      refine k_aload 226 rfl g0 rfl ?_
      refine r_gI hI 229 rfl rfl rfl (fun x27 (e28 : x27.toInt = F 67) => ?_)
      refine k_push 232 rfl rfl ?_
      have hc29 : (1000 : Int32).toInt = 1000 := by decide
      by_cases b30 : (1000 : Int32) < x27
      · refine k_c2 254 rfl rfl (if_pos b30) ?_
        have b30 := iv_lt.mp b30
        refine k_aload 255 rfl g0 rfl ?_
        refine r_gI hI 258 rfl rfl rfl (fun x31 (e32 : x31.toInt = F 67) => ?_)
        refine k_push 261 rfl rfl ?_
        by_cases b33 : x31 ≤ (1000 : Int32)
        · refine k_c2 266 rfl rfl (if_pos b33) ?_
          have b33 := iv_le.mp b33
          have hfm := i3.good (by omega) (by omega)
          refine k_push 267 rfl rfl ?_
          have hc34 : (0 : Int32).toInt = 0 := by decide
          refine k_istore 269 rfl rfl ?_
          exact b_X10_worksOffE_269 (gP := gP) (gB := gB) (gV := gV) (gZ := gZ) (gC := gC) (w1 := w1) (w2 := w2) p0 p1 p2 p4 p5 p7 p8 _ (gk := 0) (gm := gm) rfl (gs_ne rfl rfl g0) (gs_ne rfl rfl g1) (gs_ne rfl rfl g2) (gs_ne rfl rfl g3) (gs_ne rfl rfl g4) (gs_ne rfl rfl g5) (gs_ne rfl rfl g6) gs_eq hI hF hA (show v1.toInt = 1300 ∧ v2.toInt = gP.length ∧ v3.toInt = gP.length + gB.length + gV.length + gZ.length + 2 ∧ v4.toInt = gP.length + 2 ∧ v5.toInt = gP.length + 2 + gB.length ∧ v6.toInt = gP.length + 2 + gB.length + gV.length by omega) (show (A 2) = A0 2 from i0.2) (show (0 : Int32).toInt = (0) ∧ (0) ≤ (gm) by omega) (show (F 67) = ((gm) : Int) ∧ (gm) ≤ 1000 by omega) (show (gm) = (gP ++ (sbl gV gB 0 [] ++ gZ)).length ∧ wd ((A 66)) 0 (gP ++ (sbl gV gB 0 [] ++ gZ)) from hfm) (show ∀ q : Nat, q < (0) → (A 1) (1300 + q) = (A 66) q from fun q hq => absurd hq (Nat.not_lt_zero q)) (show ∀ q : Int, (q < 1300 ∨ 2600 ≤ q) → (A 1) q = A0 1 q from fun q _ => by rw [i0.1])
        · refine k_c2 264 rfl rfl (if_neg b33) ?_
          have b33 := mt iv_le.mpr b33
          refine k_push 265 rfl rfl ?_
          have hc35 : (0 : Int32).toInt = 0 := by decide
          exact k_fin rfl (fin_Z (Or.inl rfl)) ⟨_, _, _, _, rfl, hI, hF, hA, show ((0 : Int32).toInt = 0 ∧ 1000 < ((gP ++ (sbl gV gB 0 [] ++ gZ)).length : Int) ∧ (A 1) = A0 1 ∧ (A 2) = A0 2) ∨ ((0 : Int32).toInt = 1 ∧ ((gP ++ (sbl gV gB 0 [] ++ gZ)).length : Int) ≤ 1000 ∧ (A 2) 1 = ((gP ++ (sbl gV gB 0 [] ++ gZ)).length : Int) ∧ (∀ q : Int, q ≠ 1 → (A 2) q = A0 2 q) ∧ wd ((A 1)) 1300 (gP ++ (sbl gV gB 0 [] ++ gZ)) ∧ ∀ q : Int, (q < 1300 ∨ 2600 ≤ q) → (A 1) q = A0 1 q) from Or.inl ⟨by omega, i3.bad (by omega), i0.1, i0.2⟩⟩
      · refine k_c2 235 rfl rfl (if_neg b30) ?_
        have b30 := mt iv_lt.mpr b30
        have hx3 := i3.mid (by omega)
        have hl7 := WO3.len (P := gP) (S := sbl gV gB 0 []) hx3.2.1
        refine k_aload 236 rfl g0 rfl ?_
        refine k_aload 237 rfl g0 rfl ?_
        refine r_gA hI 240 rfl rfl rfl ?_
        refine k_iload 241 rfl g1 rfl ?_
        refine k_iload 243 rfl g8 rfl ?_
        obtain ⟨x36, q37⟩ : ∃ q : Int32, q = (v1 + v8) := ⟨_, rfl⟩
        have e38 : x36.toInt = v1.toInt + v8.toInt := by rw [q37, iv_add (by omega) (by omega)]
        refine k_bin x36 244 rfl q37.symm rfl ?_
        refine r_ld 1 hI 245 rfl rfl (by omega) (show x36.toInt < 3900 by omega) rfl (fun x39 (e40 : x39.toInt = A 1 x36.toInt) => ?_)
        rw [e38] at e40
        rw [i0.1] at e40
        have hcd : gZ[gk]? = some x39.toInt := by rw [wZ gk (by omega), e40, show v1.toInt + v8.toInt = 1300 + (gP.length : Int) + 2 + (gB.length : Int) + (gV.length : Int) + (gk : Int) by omega]
        refine k_rv hI rfl (m_makesE (gA := gP ++ (sbl gV gB 0 [] ++ gZ.take gk)) hI.1 (show (F 67) = ((gP ++ (sbl gV gB 0 [] ++ gZ.take gk)).length : Int) ∧ (gP ++ (sbl gV gB 0 [] ++ gZ.take gk)).length ≤ 2599 by omega) (show wd ((A 66)) 0 (gP ++ (sbl gV gB 0 [] ++ gZ.take gk)) from hx3.2.2)) rfl rfl rfl hI.rc ?_
        rintro h42 F43 A44 I45 ⟨k47, k48, pq46⟩
        replace pq46 : F43 67 = ((gP ++ (sbl gV gB 0 [] ++ gZ.take gk)).length : Int) + 1 ∧ wd (A44 66) 0 ((gP ++ (sbl gV gB 0 [] ++ gZ.take gk)) ++ [x39.toInt]) := pq46
        obtain ⟨pq46a, pq46b⟩ := pq46
        show am_Ok _ _ _ (248, _, [], _, 0, 0) _
        have hc49 : (1 : Int32).toInt = 1 := by decide
        obtain ⟨x50, q51⟩ : ∃ q : Int32, q = v8 + (1 : Int32) := ⟨_, rfl⟩
        have e52 : x50.toInt = v8.toInt + 1 := by rw [q51, iv_add (by omega) (by omega)]; omega
        refine k_iinc x50 251 rfl g8 q51.symm rfl ?_
        refine k_goto 219 rfl rfl ?_
        exact ih _ (show (gZ.length - (gk + 1)) < n by omega) (gk := gk + 1) (gm := gm + 1) rfl (gs_ne rfl rfl g0) (gs_ne rfl rfl g1) (gs_ne rfl rfl g2) (gs_ne rfl rfl g3) (gs_ne rfl rfl g4) (gs_ne rfl rfl g5) (gs_ne rfl rfl g6) gs_eq I45 (fr1.tr (by decide) hF k47) (fr2.tr (by decide) hA k48) (show v1.toInt = 1300 ∧ v2.toInt = gP.length ∧ v3.toInt = gP.length + gB.length + gV.length + gZ.length + 2 ∧ v4.toInt = gP.length + 2 ∧ v5.toInt = gP.length + 2 + gB.length ∧ v6.toInt = gP.length + 2 + gB.length + gV.length by omega) (show (A44 1) = A0 1 ∧ (A44 2) = A0 2 from ⟨((k48 1 (by decide))).trans i0.1, ((k48 2 (by decide))).trans i0.2⟩) (show x50.toInt = gP.length + 2 + gB.length + gV.length + (gk + 1) ∧ (gk + 1) ≤ gZ.length by omega) (show (F43 67) = ((gm + 1) : Int) ∧ (gm + 1) ≤ 2001 by omega) (show WO3 ((A44 66)) (gm + 1) (gk + 1) gP (sbl gV gB 0 []) gZ from WO3.nx hx3.1 hcd pq46b)
theorem b_X10_worksOffE_88 {h0 : am_h} {F0 : rf_f} {A0 : rf_A} {w1 : Int32} {w2 : Int32} {gP gB gV gZ : List Int} {gC : Int} (p0 : w2.toInt = (gP.length : Int)) (p1 : w1.toInt = 1300 ∧ gP.length + gB.length + gV.length + gZ.length + 2 ≤ 1000 ∧ A0 2 1 = (gP.length : Int) + gB.length + gV.length + gZ.length + 2) (p2 : wd (A0 1) 1300 (gP ++ 0 :: 1 :: (gB ++ (gV ++ gZ)))) (p4 : wL gB) (p5 : wL gV) (p7 : ∀ z9, z9 ∈ gP ++ 0 :: 1 :: (gB ++ (gV ++ gZ)) → 0 ≤ z9 ∧ z9 ≤ gC) (p8 : 0 ≤ gC ∧ gC ≤ 900000) {h : am_h} {F : rf_f} {A : rf_A} {v1 : Int32} {v2 : Int32} {v3 : Int32} {v4 : Int32} {v5 : Int32} {v6 : Int32} {v8 : Int32} {b7 : Int} {gj : Nat} {gd : List Int} (hI : rf_I h0 h F A) (hF : fr1 [67] F0 F) (hA : fr2 [66, 68, 69, 1, 2] A0 A) (i0 : b7 ≤ 1000) (i9 : gj < gB.length ∧ v8.toInt = gP.length + 2 + gj) (K : ∀ (lv : am_l) (v7 : Int32), am_get lv 0 = some (.inr (.inr (some 81))) → am_get lv 1 = some (.inl v1) → am_get lv 2 = some (.inl v2) → am_get lv 3 = some (.inl v3) → am_get lv 4 = some (.inl v4) → am_get lv 5 = some (.inl v5) → am_get lv 6 = some (.inl v6) → am_get lv 7 = some (.inl v7) → am_get lv 8 = some (.inl v8) → (0 ≤ v7.toInt ∧ v7.toInt ≤ b7) → (RO (fS gV) gB ((gP.length : Int) + 2) (A 69) v7.toInt gj gd) → am_Ok am_G 2 243 (113, lv, [], h, 0, 0) (rf_Q h0 (fun x F' A' => fr1 [67] F0 F' ∧ fr2 [66, 68, 69, 1, 2] A0 A' ∧ ((x = 0 ∧ 1000 < ((gP ++ (sbl gV gB 0 [] ++ gZ)).length : Int) ∧ A' 1 = A0 1 ∧ A' 2 = A0 2) ∨ (x = 1 ∧ ((gP ++ (sbl gV gB 0 [] ++ gZ)).length : Int) ≤ 1000 ∧ A' 2 1 = ((gP ++ (sbl gV gB 0 [] ++ gZ)).length : Int) ∧ (∀ q : Int, q ≠ 1 → A' 2 q = A0 2 q) ∧ wd (A' 1) 1300 (gP ++ (sbl gV gB 0 [] ++ gZ)) ∧ ∀ q : Int, (q < 1300 ∨ 2600 ≤ q) → A' 1 q = A0 1 q))))) : ∀ (n : Nat) {lv : am_l} {v7 : Int32}, (v7.toInt.toNat) = n → am_get lv 0 = some (.inr (.inr (some 81))) → am_get lv 1 = some (.inl v1) → am_get lv 2 = some (.inl v2) → am_get lv 3 = some (.inl v3) → am_get lv 4 = some (.inl v4) → am_get lv 5 = some (.inl v5) → am_get lv 6 = some (.inl v6) → am_get lv 7 = some (.inl v7) → am_get lv 8 = some (.inl v8) → (0 ≤ v7.toInt ∧ v7.toInt ≤ b7) → (RC (fS gV) gB ((gP.length : Int) + 2) (A 69) v7.toInt gj gd) → am_Ok am_G 2 243 (88, lv, [], h, 0, 0) (rf_Q h0 (fun x F' A' => fr1 [67] F0 F' ∧ fr2 [66, 68, 69, 1, 2] A0 A' ∧ ((x = 0 ∧ 1000 < ((gP ++ (sbl gV gB 0 [] ++ gZ)).length : Int) ∧ A' 1 = A0 1 ∧ A' 2 = A0 2) ∨ (x = 1 ∧ ((gP ++ (sbl gV gB 0 [] ++ gZ)).length : Int) ≤ 1000 ∧ A' 2 1 = ((gP ++ (sbl gV gB 0 [] ++ gZ)).length : Int) ∧ (∀ q : Int, q ≠ 1 → A' 2 q = A0 2 q) ∧ wd (A' 1) 1300 (gP ++ (sbl gV gB 0 [] ++ gZ)) ∧ ∀ q : Int, (q < 1300 ∨ 2600 ≤ q) → A' 1 q = A0 1 q)))) := by
  intro n
  induction n using Nat.strongRecOn with
  | ind n ih =>
    intro lv v7 hn g0 g1 g2 g3 g4 g5 g6 g7 g8 i1 ir
    refine k_iload 90 rfl g7 rfl ?_
    by_cases b53 : v7 ≤ 0
    · refine k_c1 113 rfl rfl (if_pos b53) ?_
      have b53 := iv_le0.mp b53
      exact K _ v7 g0 g1 g2 g3 g4 g5 g6 g7 g8 (show 0 ≤ v7.toInt ∧ v7.toInt ≤ b7 by omega) (show RO (fS gV) gB ((gP.length : Int) + 2) ((A 69)) v7.toInt gj gd by first | exact ir.out i9.1 (Or.inl (by omega)) | exact ir.out i9.1 (Or.inr (by omega)))
    · refine k_c1 93 rfl rfl (if_neg b53) ?_
      have b53 := mt iv_le0.mpr b53
      refine k_aload 94 rfl g0 rfl ?_
      refine r_gA hI 97 rfl rfl rfl ?_
      refine k_iload 99 rfl g7 rfl ?_
      refine k_push 100 rfl rfl ?_
      have hc54 : (1 : Int32).toInt = 1 := by decide
      obtain ⟨x55, q56⟩ : ∃ q : Int32, q = (v7 - (1 : Int32)) := ⟨_, rfl⟩
      have e57 : x55.toInt = v7.toInt - 1 := by rw [q56, iv_sub (by omega) (by omega)]; omega
      refine k_bin x55 101 rfl q56.symm rfl ?_
      refine r_ld 69 hI 102 rfl rfl (by omega) (show x55.toInt < 1300 by omega) rfl (fun x58 (e59 : x58.toInt = A 69 x55.toInt) => ?_)
      rw [e57] at e59
      refine k_iload 104 rfl g8 rfl ?_
      by_cases b60 : x58 = v8
      · refine k_c2 107 rfl rfl (if_pos b60) ?_
        have b60 := iv_eq.mp b60
        have hc61 : (-1 : Int32).toInt = -1 := by decide
        obtain ⟨x62, q63⟩ : ∃ q : Int32, q = v7 + (-1 : Int32) := ⟨_, rfl⟩
        have e64 : x62.toInt = v7.toInt + -1 := by rw [q63, iv_add (by omega) (by omega)]; omega
        refine k_iinc x62 110 rfl g7 q63.symm rfl ?_
        refine k_goto 88 rfl rfl ?_
        exact ih _ (show (x62.toInt.toNat) < n by omega)  rfl (gs_ne rfl rfl g0) (gs_ne rfl rfl g1) (gs_ne rfl rfl g2) (gs_ne rfl rfl g3) (gs_ne rfl rfl g4) (gs_ne rfl rfl g5) (gs_ne rfl rfl g6) gs_eq (gs_ne rfl rfl g8) (show 0 ≤ x62.toInt ∧ x62.toInt ≤ b7 by omega) (show RC (fS gV) gB ((gP.length : Int) + 2) ((A 69)) x62.toInt gj gd by rw [show x62.toInt = v7.toInt - 1 by omega]; exact ir.pop i9.1 (by omega) (by omega))
      · refine k_c2 113 rfl rfl (if_neg b60) ?_
        have b60 := mt iv_eq.mpr b60
        exact K _ v7 g0 g1 g2 g3 g4 g5 g6 g7 g8 (show 0 ≤ v7.toInt ∧ v7.toInt ≤ b7 by omega) (show RO (fS gV) gB ((gP.length : Int) + 2) ((A 69)) v7.toInt gj gd by first | exact ir.out i9.1 (Or.inl (by omega)) | exact ir.out i9.1 (Or.inr (by omega)))
theorem b_X10_worksOffE_71 {h0 : am_h} {F0 : rf_f} {A0 : rf_A} {w1 : Int32} {w2 : Int32} {gP gB gV gZ : List Int} {gC : Int} (p0 : w2.toInt = (gP.length : Int)) (p1 : w1.toInt = 1300 ∧ gP.length + gB.length + gV.length + gZ.length + 2 ≤ 1000 ∧ A0 2 1 = (gP.length : Int) + gB.length + gV.length + gZ.length + 2) (p2 : wd (A0 1) 1300 (gP ++ 0 :: 1 :: (gB ++ (gV ++ gZ)))) (p4 : wL gB) (p5 : wL gV) (p7 : ∀ z9, z9 ∈ gP ++ 0 :: 1 :: (gB ++ (gV ++ gZ)) → 0 ≤ z9 ∧ z9 ≤ gC) (p8 : 0 ≤ gC ∧ gC ≤ 900000) : ∀ (n : Nat) {lv : am_l} {h : am_h} {F : rf_f} {A : rf_A} {v1 : Int32} {v2 : Int32} {v3 : Int32} {v4 : Int32} {v5 : Int32} {v6 : Int32} {v7 : Int32} {v8 : Int32} {gj : Nat} {gd : List Int}, (gB.length - gj) = n → am_get lv 0 = some (.inr (.inr (some 81))) → am_get lv 1 = some (.inl v1) → am_get lv 2 = some (.inl v2) → am_get lv 3 = some (.inl v3) → am_get lv 4 = some (.inl v4) → am_get lv 5 = some (.inl v5) → am_get lv 6 = some (.inl v6) → am_get lv 7 = some (.inl v7) → am_get lv 8 = some (.inl v8) → rf_I h0 h F A → fr1 [67] F0 F → fr2 [66, 68, 69, 1, 2] A0 A → (v1.toInt = 1300 ∧ v2.toInt = gP.length ∧ v3.toInt = gP.length + gB.length + gV.length + gZ.length + 2 ∧ v4.toInt = gP.length + 2 ∧ v5.toInt = gP.length + 2 + gB.length ∧ v6.toInt = gP.length + 2 + gB.length + gV.length) → (A 1 = A0 1 ∧ A 2 = A0 2) → (v8.toInt = gP.length + 2 + gj ∧ gj ≤ gB.length) → (0 ≤ v7.toInt ∧ v7.toInt ≤ gj) → (F 67 = (gP.length : Int) + gd.length ∧ gP.length + gd.length ≤ 2000) → (wd (A 66) 0 (gP ++ gd)) → (RC (fS gV) gB ((gP.length : Int) + 2) (A 69) v7.toInt gj gd) → am_Ok am_G 2 243 (71, lv, [], h, 0, 0) (rf_Q h0 (fun x F' A' => fr1 [67] F0 F' ∧ fr2 [66, 68, 69, 1, 2] A0 A' ∧ ((x = 0 ∧ 1000 < ((gP ++ (sbl gV gB 0 [] ++ gZ)).length : Int) ∧ A' 1 = A0 1 ∧ A' 2 = A0 2) ∨ (x = 1 ∧ ((gP ++ (sbl gV gB 0 [] ++ gZ)).length : Int) ≤ 1000 ∧ A' 2 1 = ((gP ++ (sbl gV gB 0 [] ++ gZ)).length : Int) ∧ (∀ q : Int, q ≠ 1 → A' 2 q = A0 2 q) ∧ wd (A' 1) 1300 (gP ++ (sbl gV gB 0 [] ++ gZ)) ∧ ∀ q : Int, (q < 1300 ∨ 2600 ≤ q) → A' 1 q = A0 1 q)))) := by
  intro n
  induction n using Nat.strongRecOn with
  | ind n ih =>
    intro lv h F A v1 v2 v3 v4 v5 v6 v7 v8 gj gd hn g0 g1 g2 g3 g4 g5 g6 g7 g8 hI hF hA ic i0 i1 i2 i3 i4 ir
    obtain ⟨wP, wF, wB, wV, wZ⟩ := wo_sp p2
    have hl8 : (gP ++ gd).length = gP.length + gd.length := List.length_append
    refine k_iload 73 rfl g8 rfl ?_
    refine k_iload 75 rfl g5 rfl ?_
    by_cases b65 : v5 ≤ v8
    · refine k_c2 215 rfl rfl (if_pos b65) ?_
      have b65 := iv_le.mp b65
      refine k_iload 217 rfl g6 rfl ?_
      refine k_istore 219 rfl rfl ?_
      have hw3 : WO3 (A 66) (gP.length + gd.length) 0 gP (sbl gV gB 0 []) gZ := by first | exact WO3.of1 ir (by omega) i4 | exact WO3.of2 ir (by omega)
      exact b_X10_worksOffE_219 (gP := gP) (gB := gB) (gV := gV) (gZ := gZ) (gC := gC) (w1 := w1) (w2 := w2) p0 p1 p2 p4 p5 p7 p8 _ (gk := 0) (gm := gP.length + gd.length) rfl (gs_ne rfl rfl g0) (gs_ne rfl rfl g1) (gs_ne rfl rfl g2) (gs_ne rfl rfl g3) (gs_ne rfl rfl g4) (gs_ne rfl rfl g5) (gs_ne rfl rfl g6) gs_eq hI hF hA (show v1.toInt = 1300 ∧ v2.toInt = gP.length ∧ v3.toInt = gP.length + gB.length + gV.length + gZ.length + 2 ∧ v4.toInt = gP.length + 2 ∧ v5.toInt = gP.length + 2 + gB.length ∧ v6.toInt = gP.length + 2 + gB.length + gV.length by omega) (show (A 1) = A0 1 ∧ (A 2) = A0 2 from i0) (show v6.toInt = gP.length + 2 + gB.length + gV.length + (0) ∧ (0) ≤ gZ.length by omega) (show (F 67) = ((gP.length + gd.length) : Int) ∧ (gP.length + gd.length) ≤ 2001 by omega) (show WO3 ((A 66)) (gP.length + gd.length) (0) gP (sbl gV gB 0 []) gZ from hw3)
    · refine k_c2 78 rfl rfl (if_neg b65) ?_
      have b65 := mt iv_le.mpr b65
      refine k_aload 79 rfl g0 rfl ?_
      refine r_gI hI 82 rfl rfl rfl (fun x66 (e67 : x66.toInt = F 67) => ?_)
      refine k_push 85 rfl rfl ?_
      have hc68 : (1000 : Int32).toInt = 1000 := by decide
      by_cases b69 : (1000 : Int32) < x66
      · refine k_c2 215 rfl rfl (if_pos b69) ?_
        have b69 := iv_lt.mp b69
        refine k_iload 217 rfl g6 rfl ?_
        refine k_istore 219 rfl rfl ?_
        have hw3 : WO3 (A 66) (gP.length + gd.length) 0 gP (sbl gV gB 0 []) gZ := by first | exact WO3.of1 ir (by omega) i4 | exact WO3.of2 ir (by omega)
        exact b_X10_worksOffE_219 (gP := gP) (gB := gB) (gV := gV) (gZ := gZ) (gC := gC) (w1 := w1) (w2 := w2) p0 p1 p2 p4 p5 p7 p8 _ (gk := 0) (gm := gP.length + gd.length) rfl (gs_ne rfl rfl g0) (gs_ne rfl rfl g1) (gs_ne rfl rfl g2) (gs_ne rfl rfl g3) (gs_ne rfl rfl g4) (gs_ne rfl rfl g5) (gs_ne rfl rfl g6) gs_eq hI hF hA (show v1.toInt = 1300 ∧ v2.toInt = gP.length ∧ v3.toInt = gP.length + gB.length + gV.length + gZ.length + 2 ∧ v4.toInt = gP.length + 2 ∧ v5.toInt = gP.length + 2 + gB.length ∧ v6.toInt = gP.length + 2 + gB.length + gV.length by omega) (show (A 1) = A0 1 ∧ (A 2) = A0 2 from i0) (show v6.toInt = gP.length + 2 + gB.length + gV.length + (0) ∧ (0) ≤ gZ.length by omega) (show (F 67) = ((gP.length + gd.length) : Int) ∧ (gP.length + gd.length) ≤ 2001 by omega) (show WO3 ((A 66)) (gP.length + gd.length) (0) gP (sbl gV gB 0 []) gZ from hw3)
      · refine k_c2 88 rfl rfl (if_neg b69) ?_
        have b69 := mt iv_lt.mpr b69
        refine b_X10_worksOffE_88 (w1 := w1) (w2 := w2) (gP := gP) (gB := gB) (gV := gV) (gZ := gZ) (gC := gC) (b7 := v7.toInt) (gj := gj) (gd := gd) p0 p1 p2 p4 p5 p7 p8 hI hF hA (show (v7.toInt) ≤ 1000 by omega) (show (gj) < gB.length ∧ v8.toInt = gP.length + 2 + (gj) by omega) (fun lv70 x71 g72 g73 g74 g75 g76 g77 g78 g79 g80 p81 p82 => ?_) _ rfl g0 g1 g2 g3 g4 g5 g6 g7 g8 (show 0 ≤ v7.toInt ∧ v7.toInt ≤ (v7.toInt) by omega) (show RC (fS gV) gB ((gP.length : Int) + 2) ((A 69)) v7.toInt (gj) (gd) from ir)
        have p81 : 0 ≤ x71.toInt ∧ x71.toInt ≤ (v7.toInt) := p81
        have p82 : RO (fS gV) gB ((gP.length : Int) + 2) ((A 69)) x71.toInt (gj) (gd) := p82
        refine k_aload 114 rfl g72 rfl ?_
        refine r_gA hI 117 rfl rfl rfl ?_
        refine k_iload 118 rfl g73 rfl ?_
        refine k_iload 120 rfl g80 rfl ?_
        obtain ⟨x83, q84⟩ : ∃ q : Int32, q = (v1 + v8) := ⟨_, rfl⟩
        have e85 : x83.toInt = v1.toInt + v8.toInt := by rw [q84, iv_add (by omega) (by omega)]
        refine k_bin x83 121 rfl q84.symm rfl ?_
        refine r_ld 1 hI 122 rfl rfl (by omega) (show x83.toInt < 3900 by omega) rfl (fun x86 (e87 : x86.toInt = A 1 x83.toInt) => ?_)
        rw [e85] at e87
        refine k_istore 124 rfl rfl ?_
        rw [i0.1] at e87
        have hcd : gB[gj]? = some x86.toInt := by rw [wB gj (by omega), e87, show v1.toInt + v8.toInt = 1300 + (gP.length : Int) + 2 + (gj : Int) by omega]
        have hb9 : 0 ≤ x86.toInt ∧ x86.toInt ≤ gC := p7 _ (wo_mB (List.mem_of_getElem? hcd))
        refine k_iload 126 rfl gs_eq rfl ?_
        refine k_push 127 rfl rfl ?_
        have hc88 : (1 : Int32).toInt = 1 := by decide
        by_cases b89 : x86 = (1 : Int32)
        · refine k_c2 130 rfl rfl (if_pos b89) ?_
          have b89 := iv_eq.mp b89
          refine k_aload 131 rfl (gs_ne rfl rfl g72) rfl ?_
          refine k_push 132 rfl rfl ?_
          have ho8 : fS gV x86.toInt x71.toInt = [((1 : Int32)).toInt] := fS_0 (by omega) (by omega)
          refine k_rv hI rfl (m_makesE (gA := gP ++ gd) hI.1 (show (F 67) = ((gP ++ gd).length : Int) ∧ (gP ++ gd).length ≤ 2599 by omega) (show wd ((A 66)) 0 (gP ++ gd) from i4)) rfl rfl rfl hI.rc ?_
          rintro h91 F92 A93 I94 ⟨k96, k97, pq95⟩
          replace pq95 : F92 67 = ((gP ++ gd).length : Int) + 1 ∧ wd (A93 66) 0 ((gP ++ gd) ++ [(1 : Int32).toInt]) := pq95
          obtain ⟨pq95a, pq95b⟩ := pq95
          show am_Ok _ _ _ (135, _, [], _, 0, 0) _
          obtain ⟨ga9, gb9, hs9, hw9, hf9⟩ := p82.f1 (by rw [hcd, show x86.toInt = 1 by omega])
          have hz9 : wd (A0 1) (1300 + (gP.length : Int) + 2 + (gj : Int)) ga9 := (wd_app (by have h9 := wd_dr wB gj; rw [hs9] at h9; exact h9)).1
          have hlz9 : gj + ga9.length ≤ gB.length := by have h9 := congrArg List.length hs9; rw [List.length_drop, List.length_append] at h9; omega
          have hw8 := wf_wd hz9 hw9
          have hr69 : (A93 69) = A 69 := (k97 69 (by decide))
          refine k_aload 136 rfl (gs_ne rfl rfl g72) rfl ?_
          refine r_gA I94 139 rfl rfl rfl ?_
          refine k_iload 141 rfl (gs_ne rfl rfl g79) rfl ?_
          refine k_aload 142 rfl (gs_ne rfl rfl g72) rfl ?_
          refine k_iload 143 rfl (gs_ne rfl rfl g73) rfl ?_
          refine k_iload 145 rfl (gs_ne rfl rfl g80) rfl ?_
          refine k_rq I94 rfl (m_behind (n9 := ga9.length) I94.1 (show 0 ≤ v1.toInt ∧ 0 ≤ v8.toInt ∧ v1.toInt + v8.toInt + (ga9.length) ≤ 3900 by omega) (show wf ((A93 1)) (v1.toInt + v8.toInt) (ga9.length) by rw [show (A93 1) = A0 1 from ((k97 1 (by decide))).trans i0.1, show v1.toInt + v8.toInt = 1300 + (gP.length : Int) + 2 + (gj : Int) by omega]; exact hw8)) rfl rfl rfl I94.rc ?_
          rintro x98 h99 F100 A101 I102 ⟨k104, k105, pq103⟩
          replace pq103 : x98.toInt = v8.toInt + (ga9.length) := pq103
          have k104 := fr1.nil k104
          subst k104
          have k105 := fr2.nil k105
          subst k105
          show am_Ok _ _ _ (148, _, [.inl x98, .inl x71, .inr (.inr (some (rf_ad 69)))], _, 0, 0) _
          refine r_st 69 I102 149 rfl rfl (by omega) (show x71.toInt < 1300 by omega) rfl (fun h106 I107 => ?_)
          obtain ⟨x108, q109⟩ : ∃ q : Int32, q = x71 + (1 : Int32) := ⟨_, rfl⟩
          have e110 : x108.toInt = x71.toInt + 1 := by rw [q109, iv_add (by omega) (by omega)]; omega
          refine k_iinc x108 152 rfl (gs_ne rfl rfl g79) q109.symm rfl ?_
          refine k_goto 209 rfl rfl ?_
          obtain ⟨x111, q112⟩ : ∃ q : Int32, q = v8 + (1 : Int32) := ⟨_, rfl⟩
          have e113 : x111.toInt = v8.toInt + 1 := by rw [q112, iv_add (by omega) (by omega)]; omega
          refine k_iinc x111 212 rfl (gs_ne rfl rfl (gs_ne rfl rfl g80)) q112.symm rfl ?_
          refine k_goto 71 rfl rfl ?_
          have hl7 : (gd ++ [((1 : Int32)).toInt]).length = gd.length + 1 := by rw [List.length_append]; rfl
          have hmk : wd (A93 66) 0 (gP ++ (gd ++ [((1 : Int32)).toInt])) := by rw [← List.append_assoc]; exact pq95b
          have hrc : RC (fS gV) gB ((gP.length : Int) + 2) ((up2 A93 69 x71.toInt x98.toInt) 69) x108.toInt (gj + 1) (gd ++ [((1 : Int32)).toInt]) := by rw [show x108.toInt = x71.toInt + 1 by omega, ← ho8, show x86.toInt = 1 by omega]; exact hf9 _ (up2_eq.trans (by omega)) (fun q hq => (up2_ne hq).trans (congrFun hr69 q))
          exact ih _ (show (gB.length - (gj + 1)) < n by omega) (gj := gj + 1) (gd := gd ++ [((1 : Int32)).toInt]) rfl (gs_ne rfl rfl (gs_ne rfl rfl (gs_ne rfl rfl g72))) (gs_ne rfl rfl (gs_ne rfl rfl (gs_ne rfl rfl g73))) (gs_ne rfl rfl (gs_ne rfl rfl (gs_ne rfl rfl g74))) (gs_ne rfl rfl (gs_ne rfl rfl (gs_ne rfl rfl g75))) (gs_ne rfl rfl (gs_ne rfl rfl (gs_ne rfl rfl g76))) (gs_ne rfl rfl (gs_ne rfl rfl (gs_ne rfl rfl g77))) (gs_ne rfl rfl (gs_ne rfl rfl (gs_ne rfl rfl g78))) (gs_ne rfl rfl gs_eq) gs_eq I107 (fr1.tr (by decide) hF k96) (fr2.up (by decide) (fr2.tr (by decide) hA k97)) (show v1.toInt = 1300 ∧ v2.toInt = gP.length ∧ v3.toInt = gP.length + gB.length + gV.length + gZ.length + 2 ∧ v4.toInt = gP.length + 2 ∧ v5.toInt = gP.length + 2 + gB.length ∧ v6.toInt = gP.length + 2 + gB.length + gV.length by omega) (show (A93 1) = A0 1 ∧ (A93 2) = A0 2 from ⟨((k97 1 (by decide))).trans i0.1, ((k97 2 (by decide))).trans i0.2⟩) (show x111.toInt = gP.length + 2 + (gj + 1) ∧ (gj + 1) ≤ gB.length by omega) (show 0 ≤ x108.toInt ∧ x108.toInt ≤ (gj + 1) by omega) (show (F92 67) = (gP.length : Int) + (gd ++ [((1 : Int32)).toInt]).length ∧ gP.length + (gd ++ [((1 : Int32)).toInt]).length ≤ 2000 by omega) (show wd ((A93 66)) 0 (gP ++ (gd ++ [((1 : Int32)).toInt])) from hmk) (show RC (fS gV) gB ((gP.length : Int) + 2) (((up2 A93 69 x71.toInt x98.toInt) 69)) x108.toInt (gj + 1) (gd ++ [((1 : Int32)).toInt]) from hrc)
        · refine k_c2 155 rfl rfl (if_neg b89) ?_
          have b89 := mt iv_eq.mpr b89
          refine k_iload 157 rfl gs_eq rfl ?_
          by_cases b114 : x86 = 0
          · refine k_c1 169 rfl rfl (if_pos b114) ?_
            have b114 := iv_eq0.mp b114
            refine k_aload 170 rfl (gs_ne rfl rfl g72) rfl ?_
            refine k_iload 172 rfl gs_eq rfl ?_
            have ho8 : fS gV x86.toInt x71.toInt = [(x86).toInt] := by first | exact fS_0 (by omega) (by omega) | exact fS_2 (by omega) (by omega) (by omega)
            refine k_rv hI rfl (m_makesE (gA := gP ++ gd) hI.1 (show (F 67) = ((gP ++ gd).length : Int) ∧ (gP ++ gd).length ≤ 2599 by omega) (show wd ((A 66)) 0 (gP ++ gd) from i4)) rfl rfl rfl hI.rc ?_
            rintro h116 F117 A118 I119 ⟨k121, k122, pq120⟩
            replace pq120 : F117 67 = ((gP ++ gd).length : Int) + 1 ∧ wd (A118 66) 0 ((gP ++ gd) ++ [x86.toInt]) := pq120
            obtain ⟨pq120a, pq120b⟩ := pq120
            show am_Ok _ _ _ (175, _, [], _, 0, 0) _
            refine k_goto 209 rfl rfl ?_
            obtain ⟨x123, q124⟩ : ∃ q : Int32, q = v8 + (1 : Int32) := ⟨_, rfl⟩
            have e125 : x123.toInt = v8.toInt + 1 := by rw [q124, iv_add (by omega) (by omega)]; omega
            refine k_iinc x123 212 rfl (gs_ne rfl rfl g80) q124.symm rfl ?_
            refine k_goto 71 rfl rfl ?_
            have hl7 : (gd ++ [(x86).toInt]).length = gd.length + 1 := by rw [List.length_append]; rfl
            have hmk : wd (A118 66) 0 (gP ++ (gd ++ [(x86).toInt])) := by rw [← List.append_assoc]; exact pq120b
            have hrc : RC (fS gV) gB ((gP.length : Int) + 2) (A118 69) x71.toInt (gj + 1) (gd ++ [(x86).toInt]) := by rw [show (A118 69) = A 69 from (k122 69 (by decide)), ← ho8]; exact p82.av hcd (by omega) (by omega)
            exact ih _ (show (gB.length - (gj + 1)) < n by omega) (gj := gj + 1) (gd := gd ++ [(x86).toInt]) rfl (gs_ne rfl rfl (gs_ne rfl rfl g72)) (gs_ne rfl rfl (gs_ne rfl rfl g73)) (gs_ne rfl rfl (gs_ne rfl rfl g74)) (gs_ne rfl rfl (gs_ne rfl rfl g75)) (gs_ne rfl rfl (gs_ne rfl rfl g76)) (gs_ne rfl rfl (gs_ne rfl rfl g77)) (gs_ne rfl rfl (gs_ne rfl rfl g78)) (gs_ne rfl rfl (gs_ne rfl rfl g79)) gs_eq I119 (fr1.tr (by decide) hF k121) (fr2.tr (by decide) hA k122) (show v1.toInt = 1300 ∧ v2.toInt = gP.length ∧ v3.toInt = gP.length + gB.length + gV.length + gZ.length + 2 ∧ v4.toInt = gP.length + 2 ∧ v5.toInt = gP.length + 2 + gB.length ∧ v6.toInt = gP.length + 2 + gB.length + gV.length by omega) (show (A118 1) = A0 1 ∧ (A118 2) = A0 2 from ⟨((k122 1 (by decide))).trans i0.1, ((k122 2 (by decide))).trans i0.2⟩) (show x123.toInt = gP.length + 2 + (gj + 1) ∧ (gj + 1) ≤ gB.length by omega) (show 0 ≤ x71.toInt ∧ x71.toInt ≤ (gj + 1) by omega) (show (F117 67) = (gP.length : Int) + (gd ++ [(x86).toInt]).length ∧ gP.length + (gd ++ [(x86).toInt]).length ≤ 2000 by omega) (show wd ((A118 66)) 0 (gP ++ (gd ++ [(x86).toInt])) from hmk) (show RC (fS gV) gB ((gP.length : Int) + 2) ((A118 69)) x71.toInt (gj + 1) (gd ++ [(x86).toInt]) from hrc)
          · refine k_c1 160 rfl rfl (if_neg b114) ?_
            have b114 := mt iv_eq0.mpr b114
            refine k_iload 162 rfl gs_eq rfl ?_
            refine k_push 163 rfl rfl ?_
            have hc126 : (2 : Int32).toInt = 2 := by decide
            obtain ⟨x127, q128⟩ : ∃ q : Int32, q = (x86 - (2 : Int32)) := ⟨_, rfl⟩
            have e129 : x127.toInt = x86.toInt - 2 := by rw [q128, iv_sub (by omega) (by omega)]; omega
            refine k_bin x127 164 rfl q128.symm rfl ?_
            refine k_iload 166 rfl (gs_ne rfl rfl g79) rfl ?_
            by_cases b130 : x71 ≤ x127
            · refine k_c2 178 rfl rfl (if_pos b130) ?_
              have b130 := iv_le.mp b130
              refine k_iload 180 rfl gs_eq rfl ?_
              refine k_push 181 rfl rfl ?_
              obtain ⟨x131, q132⟩ : ∃ q : Int32, q = (x86 - (2 : Int32)) := ⟨_, rfl⟩
              have e133 : x131.toInt = x86.toInt - 2 := by rw [q132, iv_sub (by omega) (by omega)]; omega
              refine k_bin x131 182 rfl q132.symm rfl ?_
              refine k_iload 184 rfl (gs_ne rfl rfl g79) rfl ?_
              by_cases b134 : x131 = x71
              · refine k_c2 187 rfl rfl (if_pos b134) ?_
                have b134 := iv_eq.mp b134
                refine k_aload 188 rfl (gs_ne rfl rfl g72) rfl ?_
                refine k_iload 189 rfl (gs_ne rfl rfl g73) rfl ?_
                refine k_iload 191 rfl (gs_ne rfl rfl g77) rfl ?_
                refine k_iload 193 rfl (gs_ne rfl rfl g78) rfl ?_
                refine k_iload 195 rfl (gs_ne rfl rfl g79) rfl ?_
                have ho8 : fS gV x86.toInt x71.toInt = rsl x71.toInt gV 0 [] := fS_1 (by omega) (by omega)
                refine k_rv hI rfl (m_makesArgumentE (gA := gP ++ gd) (gU := gV) (gC := gC) hI.1 (show (F 67) = ((gP ++ gd).length : Int) ∧ (gP ++ gd).length + (gV).length ≤ 2600 ∧ (gV).length ≤ 1000 by omega) (show wd ((A 66)) 0 (gP ++ gd) from i4) (show 0 ≤ v1.toInt ∧ 0 ≤ v5.toInt ∧ v1.toInt + v5.toInt + (gV).length ≤ 3900 ∧ v6.toInt = v5.toInt + (gV).length ∧ 0 ≤ x71.toInt ∧ x71.toInt ≤ 1300 ∧ v5.toInt ≤ 3900 ∧ v1.toInt ≤ 3900 by omega) (show wd ((A 1)) (v1.toInt + v5.toInt) (gV) by rw [i0.1, show v1.toInt + v5.toInt = 1300 + (gP.length : Int) + 2 + (gB.length : Int) by omega]; exact wV) (show ∀ z9, z9 ∈ (gV) → 0 ≤ z9 ∧ z9 ≤ (gC) from fun z9 h9 => p7 z9 (wo_mV h9)) (show 0 ≤ (gC) ∧ (gC) ≤ 1000000 by omega) (show wL (gV) from p5)) rfl rfl rfl hI.rc ?_
                rintro h136 F137 A138 I139 ⟨k141, k142, pq140⟩
                replace pq140 : F137 67 = ((gP ++ gd).length : Int) + (gV).length ∧ wd (A138 66) 0 ((gP ++ gd) ++ rsl x71.toInt (gV) 0 []) := pq140
                obtain ⟨pq140a, pq140b⟩ := pq140
                show am_Ok _ _ _ (198, _, [], _, 0, 0) _
                refine k_goto 209 rfl rfl ?_
                obtain ⟨x143, q144⟩ : ∃ q : Int32, q = v8 + (1 : Int32) := ⟨_, rfl⟩
                have e145 : x143.toInt = v8.toInt + 1 := by rw [q144, iv_add (by omega) (by omega)]; omega
                refine k_iinc x143 212 rfl (gs_ne rfl rfl g80) q144.symm rfl ?_
                refine k_goto 71 rfl rfl ?_
                have hl7 : (gd ++ rsl x71.toInt gV 0 []).length = gd.length + gV.length := by rw [List.length_append, rsl_len]
                have hmk : wd (A138 66) 0 (gP ++ (gd ++ rsl x71.toInt gV 0 [])) := by rw [← List.append_assoc]; exact pq140b
                have hrc : RC (fS gV) gB ((gP.length : Int) + 2) (A138 69) x71.toInt (gj + 1) (gd ++ rsl x71.toInt gV 0 []) := by rw [show (A138 69) = A 69 from (k142 69 (by decide)), ← ho8]; exact p82.av hcd (by omega) (by omega)
                exact ih _ (show (gB.length - (gj + 1)) < n by omega) (gj := gj + 1) (gd := gd ++ rsl x71.toInt gV 0 []) rfl (gs_ne rfl rfl (gs_ne rfl rfl g72)) (gs_ne rfl rfl (gs_ne rfl rfl g73)) (gs_ne rfl rfl (gs_ne rfl rfl g74)) (gs_ne rfl rfl (gs_ne rfl rfl g75)) (gs_ne rfl rfl (gs_ne rfl rfl g76)) (gs_ne rfl rfl (gs_ne rfl rfl g77)) (gs_ne rfl rfl (gs_ne rfl rfl g78)) (gs_ne rfl rfl (gs_ne rfl rfl g79)) gs_eq I139 (fr1.tr (by decide) hF k141) (fr2.tr (by decide) hA k142) (show v1.toInt = 1300 ∧ v2.toInt = gP.length ∧ v3.toInt = gP.length + gB.length + gV.length + gZ.length + 2 ∧ v4.toInt = gP.length + 2 ∧ v5.toInt = gP.length + 2 + gB.length ∧ v6.toInt = gP.length + 2 + gB.length + gV.length by omega) (show (A138 1) = A0 1 ∧ (A138 2) = A0 2 from ⟨((k142 1 (by decide))).trans i0.1, ((k142 2 (by decide))).trans i0.2⟩) (show x143.toInt = gP.length + 2 + (gj + 1) ∧ (gj + 1) ≤ gB.length by omega) (show 0 ≤ x71.toInt ∧ x71.toInt ≤ (gj + 1) by omega) (show (F137 67) = (gP.length : Int) + (gd ++ rsl x71.toInt gV 0 []).length ∧ gP.length + (gd ++ rsl x71.toInt gV 0 []).length ≤ 2000 by omega) (show wd ((A138 66)) 0 (gP ++ (gd ++ rsl x71.toInt gV 0 [])) from hmk) (show RC (fS gV) gB ((gP.length : Int) + 2) ((A138 69)) x71.toInt (gj + 1) (gd ++ rsl x71.toInt gV 0 []) from hrc)
              · refine k_c2 201 rfl rfl (if_neg b134) ?_
                have b134 := mt iv_eq.mpr b134
                refine k_aload 202 rfl (gs_ne rfl rfl g72) rfl ?_
                refine k_iload 204 rfl gs_eq rfl ?_
                refine k_push 205 rfl rfl ?_
                obtain ⟨x146, q147⟩ : ∃ q : Int32, q = (x86 - (1 : Int32)) := ⟨_, rfl⟩
                have e148 : x146.toInt = x86.toInt - 1 := by rw [q147, iv_sub (by omega) (by omega)]; omega
                refine k_bin x146 206 rfl q147.symm rfl ?_
                have ho8 : fS gV x86.toInt x71.toInt = [(x146).toInt] := fS_3 (by omega) (by omega) (by omega)
                refine k_rv hI rfl (m_makesE (gA := gP ++ gd) hI.1 (show (F 67) = ((gP ++ gd).length : Int) ∧ (gP ++ gd).length ≤ 2599 by omega) (show wd ((A 66)) 0 (gP ++ gd) from i4)) rfl rfl rfl hI.rc ?_
                rintro h150 F151 A152 I153 ⟨k155, k156, pq154⟩
                replace pq154 : F151 67 = ((gP ++ gd).length : Int) + 1 ∧ wd (A152 66) 0 ((gP ++ gd) ++ [x146.toInt]) := pq154
                obtain ⟨pq154a, pq154b⟩ := pq154
                show am_Ok _ _ _ (209, _, [], _, 0, 0) _
                obtain ⟨x157, q158⟩ : ∃ q : Int32, q = v8 + (1 : Int32) := ⟨_, rfl⟩
                have e159 : x157.toInt = v8.toInt + 1 := by rw [q158, iv_add (by omega) (by omega)]; omega
                refine k_iinc x157 212 rfl (gs_ne rfl rfl g80) q158.symm rfl ?_
                refine k_goto 71 rfl rfl ?_
                have hl7 : (gd ++ [(x146).toInt]).length = gd.length + 1 := by rw [List.length_append]; rfl
                have hmk : wd (A152 66) 0 (gP ++ (gd ++ [(x146).toInt])) := by rw [← List.append_assoc]; exact pq154b
                have hrc : RC (fS gV) gB ((gP.length : Int) + 2) (A152 69) x71.toInt (gj + 1) (gd ++ [(x146).toInt]) := by rw [show (A152 69) = A 69 from (k156 69 (by decide)), ← ho8]; exact p82.av hcd (by omega) (by omega)
                exact ih _ (show (gB.length - (gj + 1)) < n by omega) (gj := gj + 1) (gd := gd ++ [(x146).toInt]) rfl (gs_ne rfl rfl (gs_ne rfl rfl g72)) (gs_ne rfl rfl (gs_ne rfl rfl g73)) (gs_ne rfl rfl (gs_ne rfl rfl g74)) (gs_ne rfl rfl (gs_ne rfl rfl g75)) (gs_ne rfl rfl (gs_ne rfl rfl g76)) (gs_ne rfl rfl (gs_ne rfl rfl g77)) (gs_ne rfl rfl (gs_ne rfl rfl g78)) (gs_ne rfl rfl (gs_ne rfl rfl g79)) gs_eq I153 (fr1.tr (by decide) hF k155) (fr2.tr (by decide) hA k156) (show v1.toInt = 1300 ∧ v2.toInt = gP.length ∧ v3.toInt = gP.length + gB.length + gV.length + gZ.length + 2 ∧ v4.toInt = gP.length + 2 ∧ v5.toInt = gP.length + 2 + gB.length ∧ v6.toInt = gP.length + 2 + gB.length + gV.length by omega) (show (A152 1) = A0 1 ∧ (A152 2) = A0 2 from ⟨((k156 1 (by decide))).trans i0.1, ((k156 2 (by decide))).trans i0.2⟩) (show x157.toInt = gP.length + 2 + (gj + 1) ∧ (gj + 1) ≤ gB.length by omega) (show 0 ≤ x71.toInt ∧ x71.toInt ≤ (gj + 1) by omega) (show (F151 67) = (gP.length : Int) + (gd ++ [(x146).toInt]).length ∧ gP.length + (gd ++ [(x146).toInt]).length ≤ 2000 by omega) (show wd ((A152 66)) 0 (gP ++ (gd ++ [(x146).toInt])) from hmk) (show RC (fS gV) gB ((gP.length : Int) + 2) ((A152 69)) x71.toInt (gj + 1) (gd ++ [(x146).toInt]) from hrc)
            · refine k_c2 169 rfl rfl (if_neg b130) ?_
              have b130 := mt iv_le.mpr b130
              refine k_aload 170 rfl (gs_ne rfl rfl g72) rfl ?_
              refine k_iload 172 rfl gs_eq rfl ?_
              have ho8 : fS gV x86.toInt x71.toInt = [(x86).toInt] := by first | exact fS_0 (by omega) (by omega) | exact fS_2 (by omega) (by omega) (by omega)
              refine k_rv hI rfl (m_makesE (gA := gP ++ gd) hI.1 (show (F 67) = ((gP ++ gd).length : Int) ∧ (gP ++ gd).length ≤ 2599 by omega) (show wd ((A 66)) 0 (gP ++ gd) from i4)) rfl rfl rfl hI.rc ?_
              rintro h161 F162 A163 I164 ⟨k166, k167, pq165⟩
              replace pq165 : F162 67 = ((gP ++ gd).length : Int) + 1 ∧ wd (A163 66) 0 ((gP ++ gd) ++ [x86.toInt]) := pq165
              obtain ⟨pq165a, pq165b⟩ := pq165
              show am_Ok _ _ _ (175, _, [], _, 0, 0) _
              refine k_goto 209 rfl rfl ?_
              obtain ⟨x168, q169⟩ : ∃ q : Int32, q = v8 + (1 : Int32) := ⟨_, rfl⟩
              have e170 : x168.toInt = v8.toInt + 1 := by rw [q169, iv_add (by omega) (by omega)]; omega
              refine k_iinc x168 212 rfl (gs_ne rfl rfl g80) q169.symm rfl ?_
              refine k_goto 71 rfl rfl ?_
              have hl7 : (gd ++ [(x86).toInt]).length = gd.length + 1 := by rw [List.length_append]; rfl
              have hmk : wd (A163 66) 0 (gP ++ (gd ++ [(x86).toInt])) := by rw [← List.append_assoc]; exact pq165b
              have hrc : RC (fS gV) gB ((gP.length : Int) + 2) (A163 69) x71.toInt (gj + 1) (gd ++ [(x86).toInt]) := by rw [show (A163 69) = A 69 from (k167 69 (by decide)), ← ho8]; exact p82.av hcd (by omega) (by omega)
              exact ih _ (show (gB.length - (gj + 1)) < n by omega) (gj := gj + 1) (gd := gd ++ [(x86).toInt]) rfl (gs_ne rfl rfl (gs_ne rfl rfl g72)) (gs_ne rfl rfl (gs_ne rfl rfl g73)) (gs_ne rfl rfl (gs_ne rfl rfl g74)) (gs_ne rfl rfl (gs_ne rfl rfl g75)) (gs_ne rfl rfl (gs_ne rfl rfl g76)) (gs_ne rfl rfl (gs_ne rfl rfl g77)) (gs_ne rfl rfl (gs_ne rfl rfl g78)) (gs_ne rfl rfl (gs_ne rfl rfl g79)) gs_eq I164 (fr1.tr (by decide) hF k166) (fr2.tr (by decide) hA k167) (show v1.toInt = 1300 ∧ v2.toInt = gP.length ∧ v3.toInt = gP.length + gB.length + gV.length + gZ.length + 2 ∧ v4.toInt = gP.length + 2 ∧ v5.toInt = gP.length + 2 + gB.length ∧ v6.toInt = gP.length + 2 + gB.length + gV.length by omega) (show (A163 1) = A0 1 ∧ (A163 2) = A0 2 from ⟨((k167 1 (by decide))).trans i0.1, ((k167 2 (by decide))).trans i0.2⟩) (show x168.toInt = gP.length + 2 + (gj + 1) ∧ (gj + 1) ≤ gB.length by omega) (show 0 ≤ x71.toInt ∧ x71.toInt ≤ (gj + 1) by omega) (show (F162 67) = (gP.length : Int) + (gd ++ [(x86).toInt]).length ∧ gP.length + (gd ++ [(x86).toInt]).length ≤ 2000 by omega) (show wd ((A163 66)) 0 (gP ++ (gd ++ [(x86).toInt])) from hmk) (show RC (fS gV) gB ((gP.length : Int) + 2) ((A163 69)) x71.toInt (gj + 1) (gd ++ [(x86).toInt]) from hrc)
theorem b_X10_worksOffE_39 {h0 : am_h} {F0 : rf_f} {A0 : rf_A} {w1 : Int32} {w2 : Int32} {gP gB gV gZ : List Int} {gC : Int} (p0 : w2.toInt = (gP.length : Int)) (p1 : w1.toInt = 1300 ∧ gP.length + gB.length + gV.length + gZ.length + 2 ≤ 1000 ∧ A0 2 1 = (gP.length : Int) + gB.length + gV.length + gZ.length + 2) (p2 : wd (A0 1) 1300 (gP ++ 0 :: 1 :: (gB ++ (gV ++ gZ)))) (p4 : wL gB) (p5 : wL gV) (p7 : ∀ z9, z9 ∈ gP ++ 0 :: 1 :: (gB ++ (gV ++ gZ)) → 0 ≤ z9 ∧ z9 ≤ gC) (p8 : 0 ≤ gC ∧ gC ≤ 900000) : ∀ (n : Nat) {lv : am_l} {h : am_h} {F : rf_f} {A : rf_A} {v1 : Int32} {v2 : Int32} {v3 : Int32} {v4 : Int32} {v5 : Int32} {v6 : Int32} {v7 : Int32} {gk : Nat}, (gP.length - gk) = n → am_get lv 0 = some (.inr (.inr (some 81))) → am_get lv 1 = some (.inl v1) → am_get lv 2 = some (.inl v2) → am_get lv 3 = some (.inl v3) → am_get lv 4 = some (.inl v4) → am_get lv 5 = some (.inl v5) → am_get lv 6 = some (.inl v6) → am_get lv 7 = some (.inl v7) → rf_I h0 h F A → fr1 [67] F0 F → fr2 [66, 68, 69, 1, 2] A0 A → (v1.toInt = 1300 ∧ v2.toInt = gP.length ∧ v3.toInt = gP.length + gB.length + gV.length + gZ.length + 2 ∧ v4.toInt = gP.length + 2 ∧ v5.toInt = gP.length + 2 + gB.length ∧ v6.toInt = gP.length + 2 + gB.length + gV.length) → (A 1 = A0 1 ∧ A 2 = A0 2) → (v7.toInt = gk ∧ gk ≤ gP.length) → (F 67 = (gk : Int)) → (wd (A 66) 0 (gP.take gk)) → am_Ok am_G 2 243 (39, lv, [], h, 0, 0) (rf_Q h0 (fun x F' A' => fr1 [67] F0 F' ∧ fr2 [66, 68, 69, 1, 2] A0 A' ∧ ((x = 0 ∧ 1000 < ((gP ++ (sbl gV gB 0 [] ++ gZ)).length : Int) ∧ A' 1 = A0 1 ∧ A' 2 = A0 2) ∨ (x = 1 ∧ ((gP ++ (sbl gV gB 0 [] ++ gZ)).length : Int) ≤ 1000 ∧ A' 2 1 = ((gP ++ (sbl gV gB 0 [] ++ gZ)).length : Int) ∧ (∀ q : Int, q ≠ 1 → A' 2 q = A0 2 q) ∧ wd (A' 1) 1300 (gP ++ (sbl gV gB 0 [] ++ gZ)) ∧ ∀ q : Int, (q < 1300 ∨ 2600 ≤ q) → A' 1 q = A0 1 q)))) := by
  intro n
  induction n using Nat.strongRecOn with
  | ind n ih =>
    intro lv h F A v1 v2 v3 v4 v5 v6 v7 gk hn g0 g1 g2 g3 g4 g5 g6 g7 hI hF hA ic i0 i1 i2 i3
    obtain ⟨wP, wF, wB, wV, wZ⟩ := wo_sp p2
    have hl9 : (gP.take gk).length = gk := tk_len i1.2
    refine k_iload 41 rfl g7 rfl ?_
    refine k_iload 42 rfl g2 rfl ?_
    by_cases b171 : v2 ≤ v7
    · refine k_c2 64 rfl rfl (if_pos b171) ?_
      have b171 := iv_le.mp b171
      refine k_push 65 rfl rfl ?_
      have hc172 : (0 : Int32).toInt = 0 := by decide
      refine k_istore 67 rfl rfl ?_
      refine k_iload 69 rfl (gs_ne rfl rfl g4) rfl ?_
      refine k_istore 71 rfl rfl ?_
      have e9 : gk = gP.length := by omega
      have hmk0 : wd (A 66) 0 (gP ++ []) := by rw [List.append_nil]; have h9 := i3; rw [e9, List.take_of_length_le (Nat.le_refl _)] at h9; exact h9
      exact b_X10_worksOffE_71 (gP := gP) (gB := gB) (gV := gV) (gZ := gZ) (gC := gC) (w1 := w1) (w2 := w2) p0 p1 p2 p4 p5 p7 p8 _ (gj := 0) (gd := ([] : List Int)) rfl (gs_ne rfl rfl (gs_ne rfl rfl g0)) (gs_ne rfl rfl (gs_ne rfl rfl g1)) (gs_ne rfl rfl (gs_ne rfl rfl g2)) (gs_ne rfl rfl (gs_ne rfl rfl g3)) (gs_ne rfl rfl (gs_ne rfl rfl g4)) (gs_ne rfl rfl (gs_ne rfl rfl g5)) (gs_ne rfl rfl (gs_ne rfl rfl g6)) (gs_ne rfl rfl gs_eq) gs_eq hI hF hA (show v1.toInt = 1300 ∧ v2.toInt = gP.length ∧ v3.toInt = gP.length + gB.length + gV.length + gZ.length + 2 ∧ v4.toInt = gP.length + 2 ∧ v5.toInt = gP.length + 2 + gB.length ∧ v6.toInt = gP.length + 2 + gB.length + gV.length by omega) (show (A 1) = A0 1 ∧ (A 2) = A0 2 from i0) (show v4.toInt = gP.length + 2 + (0) ∧ (0) ≤ gB.length by omega) (show 0 ≤ (0 : Int32).toInt ∧ (0 : Int32).toInt ≤ (0) by omega) (show (F 67) = (gP.length : Int) + (([] : List Int)).length ∧ gP.length + (([] : List Int)).length ≤ 2000 from ⟨by rw [List.length_nil]; omega, by rw [List.length_nil]; omega⟩) (show wd ((A 66)) 0 (gP ++ (([] : List Int))) from hmk0) (show RC (fS gV) gB ((gP.length : Int) + 2) ((A 69)) (0 : Int32).toInt (0) (([] : List Int)) from RC.z p4 (by omega))
    · refine k_c2 45 rfl rfl (if_neg b171) ?_
      have b171 := mt iv_le.mpr b171
      refine k_aload 46 rfl g0 rfl ?_
      refine k_aload 47 rfl g0 rfl ?_
      refine r_gA hI 50 rfl rfl rfl ?_
      refine k_iload 51 rfl g1 rfl ?_
      refine k_iload 53 rfl g7 rfl ?_
      obtain ⟨x173, q174⟩ : ∃ q : Int32, q = (v1 + v7) := ⟨_, rfl⟩
      have e175 : x173.toInt = v1.toInt + v7.toInt := by rw [q174, iv_add (by omega) (by omega)]
      refine k_bin x173 54 rfl q174.symm rfl ?_
      refine r_ld 1 hI 55 rfl rfl (by omega) (show x173.toInt < 3900 by omega) rfl (fun x176 (e177 : x176.toInt = A 1 x173.toInt) => ?_)
      rw [e175] at e177
      rw [i0.1] at e177
      have hcd : gP[gk]? = some x176.toInt := by rw [wP gk (by omega), e177, show v1.toInt + v7.toInt = 1300 + (gk : Int) by omega]
      refine k_rv hI rfl (m_makesE (gA := gP.take gk) hI.1 (show (F 67) = ((gP.take gk).length : Int) ∧ (gP.take gk).length ≤ 2599 by omega) (show wd ((A 66)) 0 (gP.take gk) from i3)) rfl rfl rfl hI.rc ?_
      rintro h179 F180 A181 I182 ⟨k184, k185, pq183⟩
      replace pq183 : F180 67 = ((gP.take gk).length : Int) + 1 ∧ wd (A181 66) 0 ((gP.take gk) ++ [x176.toInt]) := pq183
      obtain ⟨pq183a, pq183b⟩ := pq183
      show am_Ok _ _ _ (58, _, [], _, 0, 0) _
      have hc186 : (1 : Int32).toInt = 1 := by decide
      obtain ⟨x187, q188⟩ : ∃ q : Int32, q = v7 + (1 : Int32) := ⟨_, rfl⟩
      have e189 : x187.toInt = v7.toInt + 1 := by rw [q188, iv_add (by omega) (by omega)]; omega
      refine k_iinc x187 61 rfl g7 q188.symm rfl ?_
      refine k_goto 39 rfl rfl ?_
      exact ih _ (show (gP.length - (gk + 1)) < n by omega) (gk := gk + 1) rfl (gs_ne rfl rfl g0) (gs_ne rfl rfl g1) (gs_ne rfl rfl g2) (gs_ne rfl rfl g3) (gs_ne rfl rfl g4) (gs_ne rfl rfl g5) (gs_ne rfl rfl g6) gs_eq I182 (fr1.tr (by decide) hF k184) (fr2.tr (by decide) hA k185) (show v1.toInt = 1300 ∧ v2.toInt = gP.length ∧ v3.toInt = gP.length + gB.length + gV.length + gZ.length + 2 ∧ v4.toInt = gP.length + 2 ∧ v5.toInt = gP.length + 2 + gB.length ∧ v6.toInt = gP.length + 2 + gB.length + gV.length by omega) (show (A181 1) = A0 1 ∧ (A181 2) = A0 2 from ⟨((k185 1 (by decide))).trans i0.1, ((k185 2 (by decide))).trans i0.2⟩) (show x187.toInt = (gk + 1) ∧ (gk + 1) ≤ gP.length by omega) (show (F180 67) = ((gk + 1) : Int) by omega) (show wd ((A181 66)) 0 (gP.take (gk + 1)) by rw [wo_tk hcd]; exact pq183b)
theorem m_worksOffE {h0 : am_h} {F0 : rf_f} {A0 : rf_A} {w1 : Int32} {w2 : Int32} {gP gB gV gZ : List Int} {gC : Int} (hR : rf_R h0 F0 A0) (p0 : w2.toInt = (gP.length : Int)) (p1 : w1.toInt = 1300 ∧ gP.length + gB.length + gV.length + gZ.length + 2 ≤ 1000 ∧ A0 2 1 = (gP.length : Int) + gB.length + gV.length + gZ.length + 2) (p2 : wd (A0 1) 1300 (gP ++ 0 :: 1 :: (gB ++ (gV ++ gZ)))) (p4 : wL gB) (p5 : wL gV) (p7 : ∀ z9, z9 ∈ gP ++ 0 :: 1 :: (gB ++ (gV ++ gZ)) → 0 ≤ z9 ∧ z9 ≤ gC) (p8 : 0 ≤ gC ∧ gC ≤ 900000) : am_Mt 3 243 [.inr (.inr (some 81)), .inl w1, .inl w2] h0 (rf_Q h0 (fun x F' A' => fr1 [67] F0 F' ∧ fr2 [66, 68, 69, 1, 2] A0 A' ∧ ((x = 0 ∧ 1000 < ((gP ++ (sbl gV gB 0 [] ++ gZ)).length : Int) ∧ A' 1 = A0 1 ∧ A' 2 = A0 2) ∨ (x = 1 ∧ ((gP ++ (sbl gV gB 0 [] ++ gZ)).length : Int) ≤ 1000 ∧ A' 2 1 = ((gP ++ (sbl gV gB 0 [] ++ gZ)).length : Int) ∧ (∀ q : Int, q ≠ 1 → A' 2 q = A0 2 q) ∧ wd (A' 1) 1300 (gP ++ (sbl gV gB 0 [] ++ gZ)) ∧ ∀ q : Int, (q < 1300 ∨ 2600 ≤ q) → A' 1 q = A0 1 q)))) := by
  refine am_Mt.of (D := 2) ?_
  have hI : rf_I h0 h0 F0 A0 := rf_I.start hR
  obtain ⟨wP, wF, wB, wV, wZ⟩ := wo_sp p2
  have hl1 : (1 :: gB).length = gB.length + 1 := rfl
  refine k_aload 1 rfl rfl rfl ?_
  refine r_gA hI 4 rfl rfl rfl ?_
  refine k_push 5 rfl rfl ?_
  have hc190 : (1 : Int32).toInt = 1 := by decide
  refine r_ld 2 hI 6 rfl rfl (by omega) (show (1 : Int32).toInt < 3 by omega) rfl (fun x191 (e192 : x191.toInt = A0 2 (1 : Int32).toInt) => ?_)
  rw [hc190] at e192
  refine k_istore 7 rfl rfl ?_
  refine k_iload 8 rfl (gs_ne rfl rfl rfl) rfl ?_
  refine k_push 9 rfl rfl ?_
  have hc193 : (2 : Int32).toInt = 2 := by decide
  obtain ⟨x194, q195⟩ : ∃ q : Int32, q = (w2 + (2 : Int32)) := ⟨_, rfl⟩
  have e196 : x194.toInt = w2.toInt + 2 := by rw [q195, iv_add (by omega) (by omega)]; omega
  refine k_bin x194 10 rfl q195.symm rfl ?_
  refine k_istore 12 rfl rfl ?_
  refine k_aload 13 rfl (gs_ne rfl rfl (gs_ne rfl rfl rfl)) rfl ?_
  refine k_iload 14 rfl (gs_ne rfl rfl (gs_ne rfl rfl rfl)) rfl ?_
  refine k_iload 15 rfl (gs_ne rfl rfl (gs_ne rfl rfl rfl)) rfl ?_
  refine k_push 16 rfl rfl ?_
  obtain ⟨x197, q198⟩ : ∃ q : Int32, q = (w2 + (1 : Int32)) := ⟨_, rfl⟩
  have e199 : x197.toInt = w2.toInt + 1 := by rw [q198, iv_add (by omega) (by omega)]; omega
  refine k_bin x197 17 rfl q198.symm rfl ?_
  refine k_rq hI rfl (m_behind (n9 := (1 :: gB).length) hI.1 (show 0 ≤ w1.toInt ∧ 0 ≤ x197.toInt ∧ w1.toInt + x197.toInt + ((1 :: gB).length) ≤ 3900 by have h9 : (1 :: gB).length = gB.length + 1 := rfl; omega) (show wf ((A0 1)) (w1.toInt + x197.toInt) ((1 :: gB).length) by rw [show w1.toInt + x197.toInt = 1300 + (gP.length : Int) + 1 by omega]; exact wf_wd wF (wL_f p4))) rfl rfl rfl hI.rc ?_
  rintro x200 h201 F202 A203 I204 ⟨k206, k207, pq205⟩
  replace pq205 : x200.toInt = x197.toInt + ((1 :: gB).length) := pq205
  have k206 := fr1.nil k206
  subst k206
  have k207 := fr2.nil k207
  subst k207
  show am_Ok _ _ _ (20, _, [.inl x200], _, 0, 0) _
  refine k_istore 22 rfl rfl ?_
  refine k_aload 23 rfl (gs_ne rfl rfl (gs_ne rfl rfl (gs_ne rfl rfl rfl))) rfl ?_
  refine k_iload 24 rfl (gs_ne rfl rfl (gs_ne rfl rfl (gs_ne rfl rfl rfl))) rfl ?_
  refine k_iload 26 rfl gs_eq rfl ?_
  refine k_rq I204 rfl (m_behind (n9 := gV.length) I204.1 (show 0 ≤ w1.toInt ∧ 0 ≤ x200.toInt ∧ w1.toInt + x200.toInt + (gV.length) ≤ 3900 by have h9 : (1 :: gB).length = gB.length + 1 := rfl; omega) (show wf ((A0 1)) (w1.toInt + x200.toInt) (gV.length) by have h9 : (1 :: gB).length = gB.length + 1 := rfl; rw [show w1.toInt + x200.toInt = 1300 + (gP.length : Int) + 2 + (gB.length : Int) by omega]; exact wf_wd wV p5)) rfl rfl rfl I204.rc ?_
  rintro x208 h209 F210 A211 I212 ⟨k214, k215, pq213⟩
  replace pq213 : x208.toInt = x200.toInt + (gV.length) := pq213
  have k214 := fr1.nil k214
  subst k214
  have k215 := fr2.nil k215
  subst k215
  show am_Ok _ _ _ (29, _, [.inl x208], _, 0, 0) _
  refine k_istore 31 rfl rfl ?_
  refine k_aload 32 rfl (gs_ne rfl rfl (gs_ne rfl rfl (gs_ne rfl rfl (gs_ne rfl rfl rfl)))) rfl ?_
  refine k_push 33 rfl rfl ?_
  have hc216 : (0 : Int32).toInt = 0 := by decide
  refine r_pI I212 36 rfl rfl rfl (fun h217 I218 => ?_)
  refine k_push 37 rfl rfl ?_
  refine k_istore 39 rfl rfl ?_
  exact b_X10_worksOffE_39 (gP := gP) (gB := gB) (gV := gV) (gZ := gZ) (gC := gC) (w1 := w1) (w2 := w2) p0 p1 p2 p4 p5 p7 p8 _ (gk := 0) rfl (gs_ne rfl rfl (gs_ne rfl rfl (gs_ne rfl rfl (gs_ne rfl rfl (gs_ne rfl rfl rfl))))) (gs_ne rfl rfl (gs_ne rfl rfl (gs_ne rfl rfl (gs_ne rfl rfl (gs_ne rfl rfl rfl))))) (gs_ne rfl rfl (gs_ne rfl rfl (gs_ne rfl rfl (gs_ne rfl rfl (gs_ne rfl rfl rfl))))) (gs_ne rfl rfl (gs_ne rfl rfl (gs_ne rfl rfl (gs_ne rfl rfl gs_eq)))) (gs_ne rfl rfl (gs_ne rfl rfl (gs_ne rfl rfl gs_eq))) (gs_ne rfl rfl (gs_ne rfl rfl gs_eq)) (gs_ne rfl rfl gs_eq) gs_eq I218 (fr1.up (by decide) fr1.rf) fr2.rf (show w1.toInt = 1300 ∧ w2.toInt = gP.length ∧ x191.toInt = gP.length + gB.length + gV.length + gZ.length + 2 ∧ x194.toInt = gP.length + 2 ∧ x200.toInt = gP.length + 2 + gB.length ∧ x208.toInt = gP.length + 2 + gB.length + gV.length by omega) (show (A0 1) = A0 1 ∧ (A0 2) = A0 2 from ⟨rfl, rfl⟩) (show (0 : Int32).toInt = (0) ∧ (0) ≤ gP.length by omega) (show ((0 : Int32).toInt) = ((0) : Int) by omega) ((fun q hq => absurd hq (Nat.not_lt_zero q)))
end
