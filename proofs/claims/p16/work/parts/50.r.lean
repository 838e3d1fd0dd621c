section
theorem wo_cp2 {A : rf_A} {u : Int → Int} {gk : Nat} {p v : Int} (h : ∀ q : Nat, q < gk → A 1 (1300 + q) = u (2600 + q)) (hp : p = 1300 + gk) (hv : v = u (2600 + (gk : Int))) : ∀ q : Nat, q < gk + 1 → up2 A 1 p v 1 (1300 + q) = u (2600 + q) := fun q hq => by
  by_cases e : q = gk
  · subst e
    rw [hp, up2_eq, hv]
  · rw [up2_ne (by omega)]
    exact h q (by omega)
theorem b_X10_goesPlain_60 {h0 : am_h} {F0 : rf_f} {A0 : rf_A} {w1 : Int32} {gt : Nat} (p1 : A0 2 2 = gt ∧ 1 ≤ gt ∧ gt ≤ 120) (p2 : wf (A0 1) 2600 gt) (p3 : cb (A0 1) 2600 gt 200) (p4 : w1.toInt ≤ 200) : ∀ (n : Nat) {lv : am_l} {h : am_h} {F : rf_f} {A : rf_A} {v1 : Int32} {gn gr : Nat}, (200 - gr) = n → am_get lv 0 = some (.inr (.inr (some 81))) → am_get lv 1 = some (.inl v1) → rf_I h0 h F A → fr1 [67, 70, 71] F0 F → fr2 [66, 68, 69, 1, 2] A0 A → (v1.toInt = w1.toInt) → (F 70 = gr ∧ gr ≤ 200) → (A 2 1 = gn ∧ gn ≤ 1000) → (wf (A 1) 1300 gn) → (cb (A 1) 1300 gn (200 + 1300 * gr)) → (∀ q : Int, (q < 1300 ∨ 2600 ≤ q) → A 1 q = A0 1 q) → (∀ q : Int, q ≠ 1 → A 2 q = A0 2 q) → am_Ok am_G 3 244 (60, lv, [], h, 0, 0) (rf_Q h0 (fun x F' A' => fr1 [67, 70, 71] F0 F' ∧ fr2 [66, 68, 69, 1, 2] A0 A' ∧ ((x = 0 ∨ x = 1) ∧ (x = 1 → ∃ n' : Nat, n' ≤ 1000 ∧ A' 2 1 = n' ∧ wf (A' 1) 1300 n') ∧ (∀ q : Int, (q < 1300 ∨ 2600 ≤ q) → A' 1 q = A0 1 q) ∧ (∀ q : Int, q ≠ 1 → A' 2 q = A0 2 q)))) := by
  intro n
  induction n using Nat.strongRecOn with
  | ind n ih =>
    intro lv h F A v1 gn gr hn g0 g1 hI hF hA ic i0 i1 i2 i3 i4 i5
    refine k_aload 61 rfl g0 rfl ?_
    refine r_gI hI 64 rfl rfl rfl (fun x1 (e2 : x1.toInt = F 70) => ?_)
    refine k_iload 65 rfl g1 rfl ?_
    by_cases b3 : v1 ≤ x1
    · refine k_c2 120 rfl rfl (if_pos b3) ?_
      have b3 := iv_le.mp b3
      refine k_aload 121 rfl g0 rfl ?_
      refine k_aload 122 rfl g0 rfl ?_
      refine k_push 125 rfl rfl ?_
      have hc4 : (1300 : Int32).toInt = 1300 := by decide
      refine k_aload 126 rfl g0 rfl ?_
      refine r_gA hI 129 rfl rfl rfl ?_
      refine k_push 130 rfl rfl ?_
      have hc5 : (1 : Int32).toInt = 1 := by decide
      refine r_ld 2 hI 131 rfl rfl (by omega) (show (1 : Int32).toInt < 3 by omega) rfl (fun x6 (e7 : x6.toInt = A 2 (1 : Int32).toInt) => ?_)
      rw [hc5] at e7
      refine k_rq hI rfl (m_firstRedex  hI.1 (show 0 ≤ (1300 : Int32).toInt ∧ (1300 : Int32).toInt ≤ 2600 ∧ 0 ≤ x6.toInt ∧ x6.toInt ≤ 1300 by omega)) rfl rfl rfl hI.rc ?_
      rintro x8 h9 F10 A11 I12 ⟨k14, k15, p13⟩
      replace p13 : x8.toInt = -1 ∨ (0 ≤ x8.toInt ∧ x8.toInt + 1 < x6.toInt ∧ (A 1) ((1300 : Int32).toInt + x8.toInt) = 0 ∧ (A 1) ((1300 : Int32).toInt + x8.toInt + 1) = 1) := p13
      have k14 := fr1.nil k14
      subst k14
      have k15 := fr2.nil k15
      subst k15
      show am_Ok _ _ _ (134, _, [.inl x8, .inr (.inr (some 81))], _, 0, 0) _
      refine k_push 135 rfl rfl ?_
      have hc16 : (-1 : Int32).toInt = -1 := by decide
      by_cases b17 : x8 = (-1 : Int32)
      · refine k_c2 138 rfl rfl (if_pos b17) ?_
        have b17 := iv_eq.mp b17
        refine k_push 139 rfl rfl ?_
        refine k_goto 143 rfl rfl ?_
        refine r_pZ I12 146 rfl rfl (Or.inr rfl) rfl (fun h18 I19 => ?_)
        refine k_push 147 rfl rfl ?_
        exact k_fin rfl (fin_Z (Or.inr rfl)) ⟨_, _, _, _, rfl, I19, (fr1.up (by decide) hF), hA, show ((1 : Int32).toInt = 0 ∨ (1 : Int32).toInt = 1) ∧ ((1 : Int32).toInt = 1 → ∃ n' : Nat, n' ≤ 1000 ∧ (A 2) 1 = n' ∧ wf ((A 1)) 1300 n') ∧ (∀ q : Int, (q < 1300 ∨ 2600 ≤ q) → (A 1) q = A0 1 q) ∧ (∀ q : Int, q ≠ 1 → (A 2) q = A0 2 q) from ⟨Or.inr (by omega), fun _ => ⟨gn, i1.2, i1.1, i2⟩, i4, i5⟩⟩
      · refine k_c2 142 rfl rfl (if_neg b17) ?_
        have b17 := mt iv_eq.mpr b17
        refine k_push 143 rfl rfl ?_
        have hc20 : (0 : Int32).toInt = 0 := by decide
        refine r_pZ I12 146 rfl rfl (Or.inl rfl) rfl (fun h21 I22 => ?_)
        refine k_push 147 rfl rfl ?_
        exact k_fin rfl (fin_Z (Or.inr rfl)) ⟨_, _, _, _, rfl, I22, (fr1.up (by decide) hF), hA, show ((1 : Int32).toInt = 0 ∨ (1 : Int32).toInt = 1) ∧ ((1 : Int32).toInt = 1 → ∃ n' : Nat, n' ≤ 1000 ∧ (A 2) 1 = n' ∧ wf ((A 1)) 1300 n') ∧ (∀ q : Int, (q < 1300 ∨ 2600 ≤ q) → (A 1) q = A0 1 q) ∧ (∀ q : Int, q ≠ 1 → (A 2) q = A0 2 q) from ⟨Or.inr (by omega), fun _ => ⟨gn, i1.2, i1.1, i2⟩, i4, i5⟩⟩
    · refine k_c2 68 rfl rfl (if_neg b3) ?_
      have b3 := mt iv_le.mpr b3
      refine k_aload 69 rfl g0 rfl ?_
      refine k_push 72 rfl rfl ?_
      have hc23 : (1300 : Int32).toInt = 1300 := by decide
      refine k_aload 73 rfl g0 rfl ?_
      refine r_gA hI 76 rfl rfl rfl ?_
      refine k_push 77 rfl rfl ?_
      have hc24 : (1 : Int32).toInt = 1 := by decide
      refine r_ld 2 hI 78 rfl rfl (by omega) (show (1 : Int32).toInt < 3 by omega) rfl (fun x25 (e26 : x25.toInt = A 2 (1 : Int32).toInt) => ?_)
      rw [hc24] at e26
      refine k_rq hI rfl (m_firstRedex  hI.1 (show 0 ≤ (1300 : Int32).toInt ∧ (1300 : Int32).toInt ≤ 2600 ∧ 0 ≤ x25.toInt ∧ x25.toInt ≤ 1300 by omega)) rfl rfl rfl hI.rc ?_
      rintro x27 h28 F29 A30 I31 ⟨k33, k34, p32⟩
      replace p32 : x27.toInt = -1 ∨ (0 ≤ x27.toInt ∧ x27.toInt + 1 < x25.toInt ∧ (A 1) ((1300 : Int32).toInt + x27.toInt) = 0 ∧ (A 1) ((1300 : Int32).toInt + x27.toInt + 1) = 1) := p32
      have k33 := fr1.nil k33
      subst k33
      have k34 := fr2.nil k34
      subst k34
      show am_Ok _ _ _ (81, _, [.inl x27], _, 0, 0) _
      refine k_istore 82 rfl rfl ?_
      have hfr := p32
      rw [show (1300 : Int32).toInt = 1300 by decide] at hfr
      refine k_iload 83 rfl gs_eq rfl ?_
      refine k_push 84 rfl rfl ?_
      have hc35 : (-1 : Int32).toInt = -1 := by decide
      by_cases b36 : x27 = (-1 : Int32)
      · refine k_c2 87 rfl rfl (if_pos b36) ?_
        have b36 := iv_eq.mp b36
        refine k_aload 88 rfl (gs_ne rfl rfl g0) rfl ?_
        refine k_push 89 rfl rfl ?_
        refine r_pZ I31 92 rfl rfl (Or.inr rfl) rfl (fun h37 I38 => ?_)
        refine k_push 93 rfl rfl ?_
        exact k_fin rfl (fin_Z (Or.inr rfl)) ⟨_, _, _, _, rfl, I38, (fr1.up (by decide) hF), hA, show ((1 : Int32).toInt = 0 ∨ (1 : Int32).toInt = 1) ∧ ((1 : Int32).toInt = 1 → ∃ n' : Nat, n' ≤ 1000 ∧ (A 2) 1 = n' ∧ wf ((A 1)) 1300 n') ∧ (∀ q : Int, (q < 1300 ∨ 2600 ≤ q) → (A 1) q = A0 1 q) ∧ (∀ q : Int, q ≠ 1 → (A 2) q = A0 2 q) from ⟨Or.inr (by omega), fun _ => ⟨gn, i1.2, i1.1, i2⟩, i4, i5⟩⟩
      · refine k_c2 94 rfl rfl (if_neg b36) ?_
        have b36 := mt iv_eq.mpr b36
        obtain ⟨y1, y2, y3, y4⟩ := hfr.resolve_left (by omega)
        obtain ⟨gz, hgz⟩ : ∃ g : Nat, x27.toInt = (g : Int) := ⟨x27.toInt.toNat, by omega⟩
        rw [hgz] at y3 y4
        obtain ⟨nf9, na9, r1, r2, r3, r4⟩ := redex i2 (m := gz) (by omega) y3
        refine k_aload 95 rfl (gs_ne rfl rfl g0) rfl ?_
        refine k_push 98 rfl rfl ?_
        refine k_iload 99 rfl gs_eq rfl ?_
        refine k_rq I31 rfl (m_worksOff (gn := gn) (ga := gz) (nf := nf9) (na := na9) (gC := 200 + 1300 * (gr : Int)) I31.1 (show x27.toInt = (gz) from hgz) (show (1300 : Int32).toInt = 1300 ∧ (gn) ≤ 1000 ∧ (A 2) 1 = (gn) from ⟨by decide, i1.2, i1.1⟩) (show wf ((A 1)) 1300 (gn) from i2) (show (gz) + 1 + (nf9) + (na9) ≤ (gn) from r3) (show wf ((A 1)) (1300 + ((gz) : Int) + 1) (nf9) from r1) (show wf ((A 1)) (1300 + ((gz) : Int) + 1 + (nf9)) (na9) from r2) (show (A 1) (1300 + ((gz) : Int) + 1) = 1 from y4) (show cb ((A 1)) 1300 (gn) (200 + 1300 * (gr : Int)) from i3) (show 0 ≤ (200 + 1300 * (gr : Int)) ∧ (200 + 1300 * (gr : Int)) ≤ 900000 by omega) (show op ((A 1)) 1300 ((gz) + 1 + (nf9) + (na9)) = op ((A 1)) 1300 (gz) - 1 from r4)) rfl rfl rfl I31.rc ?_
        rintro x39 h40 F41 A42 I43 ⟨k45, k46, p44⟩
        replace p44 : (x39.toInt = 0 ∧ A42 1 = (A 1) ∧ A42 2 = (A 2)) ∨ (x39.toInt = 1 ∧ ∃ n' : Nat, n' ≤ 1000 ∧ A42 2 1 = n' ∧ (∀ q : Int, q ≠ 1 → A42 2 q = (A 2) q) ∧ wf (A42 1) 1300 n' ∧ cb (A42 1) 1300 n' ((200 + 1300 * (gr : Int)) + 1300) ∧ ∀ q : Int, (q < 1300 ∨ 2600 ≤ q) → A42 1 q = (A 1) q) := p44
        have z47 := iv_01 (x := x39) (by rcases p44 with ⟨e, -⟩ | ⟨e, -⟩ <;> omega)
        show am_Ok _ _ _ (102, _, [.inl x39], _, 0, 0) _
        by_cases b48 : x39 = 0
        · refine k_c1 105 rfl rfl (if_pos b48) ?_
          have b48 := iv_eq0.mp b48
          refine k_push 106 rfl rfl ?_
          have hc49 : (0 : Int32).toInt = 0 := by decide
          obtain ⟨-, n7, n8⟩ := p44.resolve_right (fun z => by omega)
          exact k_fin rfl (fin_Z (Or.inl rfl)) ⟨_, _, _, _, rfl, I43, (fr1.tr (by decide) hF k45), (fr2.tr (by decide) hA k46), show ((0 : Int32).toInt = 0 ∨ (0 : Int32).toInt = 1) ∧ ((0 : Int32).toInt = 1 → ∃ n' : Nat, n' ≤ 1000 ∧ (A42 2) 1 = n' ∧ wf ((A42 1)) 1300 n') ∧ (∀ q : Int, (q < 1300 ∨ 2600 ≤ q) → (A42 1) q = A0 1 q) ∧ (∀ q : Int, q ≠ 1 → (A42 2) q = A0 2 q) from ⟨Or.inl (by omega), fun z => by omega, fun q hq => by rw [n7]; exact i4 q hq, fun q hq => by rw [n8]; exact i5 q hq⟩⟩
        · refine k_c1 107 rfl rfl (if_neg b48) ?_
          have b48 := mt iv_eq0.mpr b48
          obtain ⟨-, n9, n1, n2, n3, n4, n5, n6⟩ := p44.resolve_left (fun z => by omega)
          refine k_aload 108 rfl (gs_ne rfl rfl g0) rfl ?_
          refine k_dup 109 rfl rfl rfl ?_
          refine r_gI I43 112 rfl rfl rfl (fun x50 (e51 : x50.toInt = F41 70) => ?_)
          have e52 : F41 70 = F 70 := k45 70 (by decide)
          refine k_push 113 rfl rfl ?_
          obtain ⟨x53, q54⟩ : ∃ q : Int32, q = (x50 + (1 : Int32)) := ⟨_, rfl⟩
          have e55 : x53.toInt = x50.toInt + 1 := by rw [q54, iv_add (by omega) (by omega)]; omega
          refine k_bin x53 114 rfl q54.symm rfl ?_
          refine r_pI I43 117 rfl rfl rfl (fun h56 I57 => ?_)
          refine k_goto 60 rfl rfl ?_
          exact ih _ (show (200 - (gr + 1)) < n by omega) (gn := n9) (gr := gr + 1) rfl (gs_ne rfl rfl g0) (gs_ne rfl rfl g1) I57 (fr1.up (by decide) (fr1.tr (by decide) hF k45)) (fr2.tr (by decide) hA k46) (show v1.toInt = w1.toInt by omega) (show (x53.toInt) = (gr + 1) ∧ (gr + 1) ≤ 200 by omega) (show (A42 2) 1 = (n9) ∧ (n9) ≤ 1000 from ⟨n2, n1⟩) (show wf ((A42 1)) 1300 (n9) from n4) (show cb ((A42 1)) 1300 (n9) (200 + 1300 * (gr + 1)) by rw [show 200 + 1300 * ((gr : Int) + 1) = 200 + 1300 * (gr : Int) + 1300 by omega]; exact n5) (show ∀ q : Int, (q < 1300 ∨ 2600 ≤ q) → (A42 1) q = A0 1 q from fun q hq => (n6 q hq).trans (i4 q hq)) (show ∀ q : Int, q ≠ 1 → (A42 2) q = A0 2 q from fun q hq => (n3 q hq).trans (i5 q hq))
theorem b_X10_goesPlain_2 {h0 : am_h} {F0 : rf_f} {A0 : rf_A} {w1 : Int32} {gt : Nat} (p1 : A0 2 2 = gt ∧ 1 ≤ gt ∧ gt ≤ 120) (p2 : wf (A0 1) 2600 gt) (p3 : cb (A0 1) 2600 gt 200) (p4 : w1.toInt ≤ 200) : ∀ (n : Nat) {lv : am_l} {h : am_h} {F : rf_f} {A : rf_A} {v1 : Int32} {v2 : Int32} {gk : Nat}, (gt - gk) = n → am_get lv 0 = some (.inr (.inr (some 81))) → am_get lv 1 = some (.inl v1) → am_get lv 2 = some (.inl v2) → rf_I h0 h F A → fr1 [67, 70, 71] F0 F → fr2 [66, 68, 69, 1, 2] A0 A → (v1.toInt = w1.toInt) → (A 2 = A0 2) → (v2.toInt = gk ∧ gk ≤ gt) → (∀ q : Nat, q < gk → A 1 (1300 + q) = A0 1 (2600 + q)) → (∀ q : Int, (q < 1300 ∨ 2600 ≤ q) → A 1 q = A0 1 q) → am_Ok am_G 3 244 (2, lv, [], h, 0, 0) (rf_Q h0 (fun x F' A' => fr1 [67, 70, 71] F0 F' ∧ fr2 [66, 68, 69, 1, 2] A0 A' ∧ ((x = 0 ∨ x = 1) ∧ (x = 1 → ∃ n' : Nat, n' ≤ 1000 ∧ A' 2 1 = n' ∧ wf (A' 1) 1300 n') ∧ (∀ q : Int, (q < 1300 ∨ 2600 ≤ q) → A' 1 q = A0 1 q) ∧ (∀ q : Int, q ≠ 1 → A' 2 q = A0 2 q)))) := by
  intro n
  induction n using Nat.strongRecOn with
  | ind n ih =>
    intro lv h F A v1 v2 gk hn g0 g1 g2 hI hF hA ic i0 i1 i2 i3
    refine k_iload 3 rfl g2 rfl ?_
    refine k_aload 4 rfl g0 rfl ?_
    refine r_gA hI 7 rfl rfl rfl ?_
    refine k_push 8 rfl rfl ?_
    have hc58 : (2 : Int32).toInt = 2 := by decide
    refine r_ld 2 hI 9 rfl rfl (by omega) (show (2 : Int32).toInt < 3 by omega) rfl (fun x59 (e60 : x59.toInt = A 2 (2 : Int32).toInt) => ?_)
    rw [hc58] at e60
    have hn9 : x59.toInt = gt := by rw [e60, i0]; exact p1.1
    by_cases b61 : x59 ≤ v2
    · refine k_c2 38 rfl rfl (if_pos b61) ?_
      have b61 := iv_le.mp b61
      refine k_aload 39 rfl g0 rfl ?_
      refine r_gA hI 42 rfl rfl rfl ?_
      refine k_push 43 rfl rfl ?_
      have hc62 : (1 : Int32).toInt = 1 := by decide
      refine k_aload 44 rfl g0 rfl ?_
      refine r_gA hI 47 rfl rfl rfl ?_
      refine k_push 48 rfl rfl ?_
      refine r_ld 2 hI 49 rfl rfl (by omega) (show (2 : Int32).toInt < 3 by omega) rfl (fun x63 (e64 : x63.toInt = A 2 (2 : Int32).toInt) => ?_)
      rw [hc58] at e64
      have hn8 : x63.toInt = gt := by rw [e64, i0]; exact p1.1
      refine r_st 2 hI 50 rfl rfl (by omega) (show (1 : Int32).toInt < 3 by omega) rfl (fun h65 I66 => ?_)
      refine k_aload 51 rfl g0 rfl ?_
      refine k_push 52 rfl rfl ?_
      have hc67 : (0 : Int32).toInt = 0 := by decide
      refine r_pI I66 55 rfl rfl rfl (fun h68 I69 => ?_)
      refine k_aload 56 rfl g0 rfl ?_
      refine k_push 57 rfl rfl ?_
      refine r_pZ I69 60 rfl rfl (Or.inl rfl) rfl (fun h70 I71 => ?_)
      have hh1 : ((up2 A 2 (1 : Int32).toInt x63.toInt) 2) 1 = gt ∧ gt ≤ 1000 := by refine ⟨?_, by omega⟩; rw [show (1 : Int) = (1 : Int32).toInt by decide, up2_eq]; exact hn8
      exact b_X10_goesPlain_60 (gt := gt) (w1 := w1) p1 p2 p3 p4 _ (gn := gt) (gr := 0) rfl g0 g1 I71 (fr1.up (by decide) (fr1.up (by decide) hF)) (fr2.up (by decide) hA) (show v1.toInt = w1.toInt by omega) (show ((0 : Int32).toInt) = (0) ∧ (0) ≤ 200 by omega) (show ((up2 A 2 (1 : Int32).toInt x63.toInt) 2) 1 = (gt) ∧ (gt) ≤ 1000 from hh1) (show wf ((A 1)) 1300 (gt) from wf_congr (fun q hq => (i2 q (by omega)).symm) p2) (show cb ((A 1)) 1300 (gt) (200 + 1300 * (0)) from cb.congr (p3.le (by omega)) (fun q hq => (i2 q (by omega)).symm)) (show ∀ q : Int, (q < 1300 ∨ 2600 ≤ q) → (A 1) q = A0 1 q from i3) (show ∀ q : Int, q ≠ 1 → ((up2 A 2 (1 : Int32).toInt x63.toInt) 2) q = A0 2 q from fun q hq => by rw [up2_ne (by omega), i0])
    · refine k_c2 12 rfl rfl (if_neg b61) ?_
      have b61 := mt iv_le.mpr b61
      refine k_aload 13 rfl g0 rfl ?_
      refine r_gA hI 16 rfl rfl rfl ?_
      refine k_push 19 rfl rfl ?_
      have hc72 : (1300 : Int32).toInt = 1300 := by decide
      refine k_iload 20 rfl g2 rfl ?_
      obtain ⟨x73, q74⟩ : ∃ q : Int32, q = ((1300 : Int32) + v2) := ⟨_, rfl⟩
      have e75 : x73.toInt = 1300 + v2.toInt := by rw [q74, iv_add (by omega) (by omega)]; omega
      refine k_bin x73 21 rfl q74.symm rfl ?_
      refine k_aload 22 rfl g0 rfl ?_
      refine r_gA hI 25 rfl rfl rfl ?_
      refine k_push 28 rfl rfl ?_
      have hc76 : (2600 : Int32).toInt = 2600 := by decide
      refine k_iload 29 rfl g2 rfl ?_
      obtain ⟨x77, q78⟩ : ∃ q : Int32, q = ((2600 : Int32) + v2) := ⟨_, rfl⟩
      have e79 : x77.toInt = 2600 + v2.toInt := by rw [q78, iv_add (by omega) (by omega)]; omega
      refine k_bin x77 30 rfl q78.symm rfl ?_
      refine r_ld 1 hI 31 rfl rfl (by omega) (show x77.toInt < 3900 by omega) rfl (fun x80 (e81 : x80.toInt = A 1 x77.toInt) => ?_)
      rw [e79] at e81
      have hq9 : x80.toInt = A0 1 (2600 + (gk : Int)) := by rw [e81, show (2600 : Int) + v2.toInt = 2600 + (gk : Int) by omega]; exact i3 _ (by omega)
      refine r_st 1 hI 32 rfl rfl (by omega) (show x73.toInt < 3900 by omega) rfl (fun h82 I83 => ?_)
      have hc84 : (1 : Int32).toInt = 1 := by decide
      obtain ⟨x85, q86⟩ : ∃ q : Int32, q = v2 + (1 : Int32) := ⟨_, rfl⟩
      have e87 : x85.toInt = v2.toInt + 1 := by rw [q86, iv_add (by omega) (by omega)]; omega
      refine k_iinc x85 35 rfl g2 q86.symm rfl ?_
      refine k_goto 2 rfl rfl ?_
      exact ih _ (show (gt - (gk + 1)) < n by omega) (gk := gk + 1) rfl (gs_ne rfl rfl g0) (gs_ne rfl rfl g1) gs_eq I83 hF (fr2.up (by decide) hA) (show v1.toInt = w1.toInt by omega) (show (A 2) = A0 2 from i0) (show x85.toInt = (gk + 1) ∧ (gk + 1) ≤ gt by omega) (show ∀ q : Nat, q < (gk + 1) → ((up2 A 1 x73.toInt x80.toInt) 1) (1300 + q) = A0 1 (2600 + q) from wo_cp2 i2 (by omega) (by omega)) (show ∀ q : Int, (q < 1300 ∨ 2600 ≤ q) → ((up2 A 1 x73.toInt x80.toInt) 1) q = A0 1 q from fun q hq => by rw [up2_ne (by omega)]; exact i3 q hq)
theorem m_goesPlain {h0 : am_h} {F0 : rf_f} {A0 : rf_A} {w1 : Int32} {gt : Nat} (hR : rf_R h0 F0 A0) (p1 : A0 2 2 = gt ∧ 1 ≤ gt ∧ gt ≤ 120) (p2 : wf (A0 1) 2600 gt) (p3 : cb (A0 1) 2600 gt 200) (p4 : w1.toInt ≤ 200) : am_Mt 4 244 [.inr (.inr (some 81)), .inl w1] h0 (rf_Q h0 (fun x F' A' => fr1 [67, 70, 71] F0 F' ∧ fr2 [66, 68, 69, 1, 2] A0 A' ∧ ((x = 0 ∨ x = 1) ∧ (x = 1 → ∃ n' : Nat, n' ≤ 1000 ∧ A' 2 1 = n' ∧ wf (A' 1) 1300 n') ∧ (∀ q : Int, (q < 1300 ∨ 2600 ≤ q) → A' 1 q = A0 1 q) ∧ (∀ q : Int, q ≠ 1 → A' 2 q = A0 2 q)))) := by
  refine am_Mt.of (D := 3) ?_
  have hI : rf_I h0 h0 F0 A0 := rf_I.start hR
  refine k_push 1 rfl rfl ?_
  have hc88 : (0 : Int32).toInt = 0 := by decide
  refine k_istore 2 rfl rfl ?_
  exact b_X10_goesPlain_2 (gt := gt) (w1 := w1) p1 p2 p3 p4 _ (gk := 0) rfl (gs_ne rfl rfl rfl) (gs_ne rfl rfl rfl) gs_eq hI fr1.rf fr2.rf (show w1.toInt = w1.toInt by omega) (show (A0 2) = A0 2 from rfl) (show (0 : Int32).toInt = (0) ∧ (0) ≤ gt by omega) (show ∀ q : Nat, q < (0) → (A0 1) (1300 + q) = A0 1 (2600 + q) from fun q hq => absurd hq (Nat.not_lt_zero q)) (show ∀ q : Int, (q < 1300 ∨ 2600 ≤ q) → (A0 1) q = A0 1 q from fun q _ => rfl)
end
