/-! putNumber(), putTerm(): names put in -/
section PNS
variable {A B : xl_A} {l : List Int} {v : Int} {i k : Nat}
theorem upl_upl {l' : List Int} : upl (upl A i l) i l' = upl A i l' := by
  funext j
  by_cases z : j = i
  · rw [z, upl_eq, upl_eq]
  · rw [upl_ne z, upl_ne z, upl_ne z]
theorem mo48 : (ob_mo 48).toInt = 120 := by decide
theorem mo13 : (ob_mo 13).toInt = 26 := by decide
theorem a48 (h : (l.length : Int) < 120) : addl 48 (upl A 48 l) v = upl A 48 (l ++ [v]) := by
  unfold addl
  rw [if_pos (by rw [upl_eq, mo48]; exact h), upl_eq, upl_upl]
theorem pn_0 (h : ((A 48).length : Int) + 3 ≤ 120) : addl 48 (addl 48 A 1) 1 = upl A 48 (A 48 ++ nul 0) := by
  have e : addl 48 A 1 = upl A 48 (A 48 ++ [1]) := by
    unfold addl
    rw [if_pos (by rw [mo48]; omega)]
  rw [e, a48 (by rw [List.length_append]; show (((A 48).length + 1 : Nat) : Int) < 120; omega), List.append_assoc]
  first | done | rfl
theorem pn_s (hB : B = upl A 48 (A 48 ++ nul k)) (h : ((A 48).length : Int) + 2 * (k : Int) + 4 ≤ 120) : addl 48 (addl 48 B 0) 3 = upl A 48 (A 48 ++ nul (k + 1)) := by
  have hl : (A 48 ++ nul k).length = (A 48).length + (2 * k + 2) := by rw [List.length_append, nul_l]
  rw [hB, a48 (by omega), a48 (by rw [List.length_append, hl]; show (((A 48).length + (2 * k + 2) + 1 : Nat) : Int) < 120; omega), nul_s, ← List.append_assoc, ← List.append_assoc]
theorem pn_e (hB : B = upl A 48 (A 48 ++ nul k)) (h : ((A 48).length : Int) + 2 * (k : Int) + 3 ≤ 120) : addl 48 B 2 = upl A 48 (A 48 ++ (nul k ++ [2])) := by
  have hl : (A 48 ++ nul k).length = (A 48).length + (2 * k + 2) := by rw [List.length_append, nul_l]
  rw [hB, a48 (by omega), List.append_assoc]
end PNS
section
def p_X6_putNumber (n1 : Int) (F0 : rf_f) (A0 : xl_A) : Int × rf_f × xl_A := (0, F0, upl A0 48 (A0 48 ++ (nul n1.toNat ++ [2])))
theorem yl_X6_putNumber_14 {h0 : am_h} {F0 : rf_f} {A0 : xl_A} {w1 : Int32} {n1 : Int} (hn1 : w1.toInt = n1)  (hp1 : 0 ≤ n1 ∧ n1 ≤ 9) (hp2 : ((A0 48).length : Int) + 2 * n1 + 3 ≤ 120) : ∀ (n : Nat) {lv : am_l} {h : am_h} {c s : Nat} {u0 : Int32} {v0 : Int} {u2 : Int32} {v2 : Int} {Av : xl_A}, ((10 - v2).toNat) = n → am_get lv 0 = some (.inl u0) → am_get lv 1 = some (.inr (.inr (some 48))) → am_get lv 2 = some (.inl u2) → u0.toInt = v0 → u2.toInt = v2 → xI h0 (ob_P h0) h c s F0 Av → am_okL h.length lv = true → (v0 = n1) → (0 ≤ v2 ∧ v2 ≤ n1) → (Av = upl A0 48 (A0 48 ++ nul v2.toNat)) → am_Ok am_G 2 86 (14, lv, [], h, c, s) (xV h0 (fun F' A' => F' = (p_X6_putNumber n1 F0 A0).2.1 ∧ A' = (p_X6_putNumber n1 F0 A0).2.2)) := by
  intro n
  induction n using Nat.strongRecOn with
  | ind n ih =>
    intro lv h c s u0 v0 u2 v2  Av hm g0 g1 g2 hv0 hv2 hI hL i0 i1 i2
    refine k_iload 15 rfl g2 rfl ?_
    refine k_iload 16 rfl g0 rfl ?_
    by_cases b1 : u0 ≤ u2
    · refine k_c2 37 rfl rfl (if_pos b1) ?_
      have b1 : v0 ≤ v2 := by have h9 := iv_le.mp b1; rw [hv2] at h9; rw [hv0] at h9; exact h9
      refine k_aload 38 rfl g1 rfl ?_
      refine k_push 39 rfl rfl ?_
      have hc2 : (2 : Int32).toInt = 2 := by decide
      refine k_xq hI rfl (y_add hc2 hI.1 or48) rfl rfl rfl (ty_H.rc3 hI.T or48) hL so_n ?_
      rintro x3 h4 c5 s6 F7 A8 I9 L10 ⟨e11, k12, k13⟩
      replace k12 := k12.symm
      subst k12
      replace k13 := k13.symm
      subst k13
      have z14 := iv_01 (x := x3) (by rw [e11]; exact (addr_01))
      show am_Ok _ _ _ (42, _, [.inl x3], _, c5, s6) _
      refine k_pop 43 rfl rfl rfl ?_
      exact k_fin rfl rfl ⟨_, _, _, _, _, rfl, I9, rfl, (by rw [pn_e i2 (by omega), show v2.toNat = n1.toNat by omega]; rfl)⟩
    · refine k_c2 19 rfl rfl (if_neg b1) ?_
      have b1 : ¬ (v0 ≤ v2) := by have h9 := mt iv_le.mpr b1; rw [hv2] at h9; rw [hv0] at h9; exact h9
      refine k_aload 20 rfl g1 rfl ?_
      refine k_push 21 rfl rfl ?_
      have hc15 : (0 : Int32).toInt = 0 := by decide
      refine k_xq hI rfl (y_add hc15 hI.1 or48) rfl rfl rfl (ty_H.rc3 hI.T or48) hL so_n ?_
      rintro x16 h17 c18 s19 F20 A21 I22 L23 ⟨e24, k25, k26⟩
      replace k25 := k25.symm
      subst k25
      replace k26 := k26.symm
      subst k26
      have z27 := iv_01 (x := x16) (by rw [e24]; exact (addr_01))
      show am_Ok _ _ _ (24, _, [.inl x16], _, c18, s19) _
      refine k_pop 25 rfl rfl rfl ?_
      refine k_aload 26 rfl g1 rfl ?_
      refine k_push 27 rfl rfl ?_
      have hc28 : (3 : Int32).toInt = 3 := by decide
      refine k_xq I22 rfl (y_add hc28 I22.1 or48) rfl rfl rfl (ty_H.rc3 I22.T or48) L23 so_n ?_
      rintro x29 h30 c31 s32 F33 A34 I35 L36 ⟨e37, k38, k39⟩
      replace k38 := k38.symm
      subst k38
      replace k39 := k39.symm
      subst k39
      have z40 := iv_01 (x := x29) (by rw [e37]; exact (addr_01))
      show am_Ok _ _ _ (30, _, [.inl x29], _, c31, s32) _
      refine k_pop 31 rfl rfl rfl ?_
      have hc41 : (1 : Int32).toInt = 1 := by decide
      obtain ⟨x42, q43⟩ : ∃ q : Int32, q = u2 + (1 : Int32) := ⟨_, rfl⟩
      have e44 : x42.toInt = (v2 + 1) := bx_add q43 hv2 hc41 (by omega) (by omega)
      refine k_iinc x42 34 rfl g2 q43.symm rfl ?_
      refine k_goto 14 rfl rfl ?_
      exact ih _ (by omega)  (Av := (addl 48 (addl 48 Av (0)) (3))) (v0 := v0) (v2 := (v2 + 1)) rfl (gs_ne rfl rfl g0) (gs_ne rfl rfl g1) gs_eq hv0 e44 I35 (okL_set rfl L36) (by omega) (by omega) (by rw [pn_s i2 (by omega), show v2.toNat + 1 = (v2 + 1).toNat by omega])
theorem n_X6_putNumber {h0 : am_h} {F0 : rf_f} {A0 : xl_A} {w1 : Int32} {n1 : Int} (hn1 : w1.toInt = n1)  (hp1 : 0 ≤ n1 ∧ n1 ≤ 9) (hp2 : ((A0 48).length : Int) + 2 * n1 + 3 ≤ 120) (hR : xR h0 F0 A0) : am_Mt 3 86 [.inl w1, .inr (.inr (some 48))] h0 (xV h0 (fun F' A' => F' = (p_X6_putNumber n1 F0 A0).2.1 ∧ A' = (p_X6_putNumber n1 F0 A0).2.2)) := by
  refine am_Mt.of (D := 2) ?_
  have hI : xI h0 (ob_P h0) h0 0 0 F0 A0 := xI.start hR
  have hL : am_okL h0.length (am_args 0 [.inl w1, .inr (.inr (some 48))]) = true := (okA_i (okA_r hI.T ol48 okA_n))
  refine k_aload 1 rfl rfl rfl ?_
  refine k_push 2 rfl rfl ?_
  have hc45 : (1 : Int32).toInt = 1 := by decide
  refine k_xq hI rfl (y_add hc45 hI.1 or48) rfl rfl rfl (ty_H.rc3 hI.T or48) hL so_n ?_
  rintro x46 h47 c48 s49 F50 A51 I52 L53 ⟨e54, k55, k56⟩
  replace k55 := k55.symm
  subst k55
  replace k56 := k56.symm
  subst k56
  have z57 := iv_01 (x := x46) (by rw [e54]; exact (addr_01))
  show am_Ok _ _ _ (5, _, [.inl x46], _, c48, s49) _
  refine k_pop 6 rfl rfl rfl ?_
  refine k_aload 7 rfl rfl rfl ?_
  refine k_push 8 rfl rfl ?_
  refine k_xq I52 rfl (y_add hc45 I52.1 or48) rfl rfl rfl (ty_H.rc3 I52.T or48) L53 so_n ?_
  rintro x58 h59 c60 s61 F62 A63 I64 L65 ⟨e66, k67, k68⟩
  replace k67 := k67.symm
  subst k67
  replace k68 := k68.symm
  subst k68
  have z69 := iv_01 (x := x58) (by rw [e66]; exact (addr_01))
  show am_Ok _ _ _ (11, _, [.inl x58], _, c60, s61) _
  refine k_pop 12 rfl rfl rfl ?_
  refine k_push 13 rfl rfl ?_
  have hc70 : (0 : Int32).toInt = 0 := by decide
  refine k_istore 14 rfl rfl ?_
  exact yl_X6_putNumber_14 hn1  hp1 hp2 _  (Av := (addl 48 (addl 48 A0 (1)) (1))) (v0 := n1) (v2 := 0) rfl (gs_ne rfl rfl rfl) (gs_ne rfl rfl rfl) gs_eq hn1 hc70 I64 (okL_set rfl L65) (rfl) (by omega) (pn_0 (by omega))
end
