section
theorem sa_lt {t : Int → Int} {i : Int} {a b : Nat} (h : wf t i b) (hab : a ≤ b) (h1 : 1 ≤ op t i a) : a < b := Nat.lt_of_le_of_ne hab (fun e => by rw [e, h.1] at h1; omega)
theorem sa_4 {t : Int → Int} {i f : Int} (h : f = 1) : 0 ≤ f ∧ f ≤ op t i 0 + 2 * ((0 : Nat) : Int) := by
  have e : op t i 0 = 1 := rfl
  omega
theorem sa_5 {t : Int → Int} {i f g : Int} (h : f = 1) (hg : g = 0) : 0 ≤ g ∧ g + f ≤ op t i 0 + 5 * ((0 : Nat) : Int) := by
  have e : op t i 0 = 1 := rfl
  omega
theorem b_X10_say_47 {h0 : am_h} {F0 : rf_f} {A0 : rf_A} {w1 : Int32} {lm : Int → Int} {gT : Int} {gt : Nat} (p1 : nn (A0 24) (A0 25) (F0 28) gT) (p2 : nw (A0 24) (A0 25) (A0 26) lm (F0 28)) (p5 : wr A0) (p6 : wq A0) (p7 : A0 2 2 = gt ∧ 1 ≤ gt ∧ gt ≤ 120) (p8 : wf (A0 1) 2600 gt) (p9 : cb (A0 1) 2600 gt 200) (ps : 0 ≤ F0 73 ∧ F0 73 ≤ 12000) : ∀ (n : Nat) {lv : am_l} {h : am_h} {F : rf_f} {A : rf_A} {v1 : Int32} {v2 : Int32} {gf gn : Nat}, ((5 * ((gn : Int) - gf) + F 75).toNat) = n → am_get lv 0 = some (.inr (.inr (some 81))) → am_get lv 1 = some (.inl v1) → am_get lv 2 = some (.inl v2) → rf_I h0 h F A → fr1 [59, 55, 50, 48, 62, 63, 64, 65, 67, 70, 71, 0, 73, 75] F0 F → fr2 [1, 2, 56, 57, 58, 61, 49, 51, 52, 53, 54, 60, 43, 44, 45, 46, 47, 66, 68, 69, 74] A0 A → (v1.toInt = w1.toInt ∧ 0 ≤ w1.toInt ∧ w1.toInt ≤ 2) → (v2.toInt = gf ∧ gf ≤ gn ∧ gn ≤ 1000) → (wf (A 1) (1300 * w1.toInt) gn) → (sy (A 74) (F 75) (op (A 1) (1300 * w1.toInt) gf) (4 * gf + 4)) → (0 ≤ F 75 ∧ F 75 ≤ op (A 1) (1300 * w1.toInt) gf + 2 * gf) → (0 ≤ F 73 ∧ F 73 + F 75 ≤ op (A 1) (1300 * w1.toInt) gf + 5 * gf) → (wr A) → (wq A) → (A 2 2 = A0 2 2) → (∀ q : Int, 2600 ≤ q → A 1 q = A0 1 q) → am_Ok am_G 7 261 (47, lv, [], h, 0, 0) (rf_Q h0 (fun x F' A' => fr1 [59, 55, 50, 48, 62, 63, 64, 65, 67, 70, 71, 0, 73, 75] F0 F' ∧ fr2 [1, 2, 56, 57, 58, 61, 49, 51, 52, 53, 54, 60, 43, 44, 45, 46, 47, 66, 68, 69, 74] A0 A' ∧ ((0 ≤ F' 73 ∧ F' 73 ≤ 12000) ∧ wr A' ∧ wq A' ∧ A' 2 2 = A0 2 2 ∧ (∀ q : Int, 2600 ≤ q → A' 1 q = A0 1 q)))) := by
  intro n
  induction n using Nat.strongRecOn with
  | ind n ih =>
    intro lv h F A v1 v2 gf gn hn g0 g1 g2 hI hF hA ic i1 i2 i3 i4 i5 i6 i7 i8 i9
    have hopl := op_le (t := A 1) (i := 1300 * w1.toInt) gf
    refine k_aload 48 rfl g0 rfl ?_
    refine r_gI hI 51 rfl rfl rfl (fun x1 (e2 : x1.toInt = F 75) => ?_)
    by_cases b3 : x1 ≤ 0
    · refine k_c1 109 rfl rfl (if_pos b3) ?_
      have b3 := iv_le0.mp b3
      refine k_aload 110 rfl g0 rfl ?_
      refine r_gI hI 113 rfl rfl rfl (fun x4 (e5 : x4.toInt = F 73) => ?_)
      exact k_fin rfl rfl ⟨_, _, _, _, rfl, hI, hF, hA, ⟨by omega, i6, i7, i8, i9⟩⟩
    · refine k_c1 54 rfl rfl (if_neg b3) ?_
      have b3 := mt iv_le0.mpr b3
      refine k_aload 55 rfl g0 rfl ?_
      refine k_dup 56 rfl rfl rfl ?_
      refine r_gI hI 59 rfl rfl rfl (fun x6 (e7 : x6.toInt = F 75) => ?_)
      refine k_push 60 rfl rfl ?_
      have hc8 : (1 : Int32).toInt = 1 := by decide
      obtain ⟨x9, q10⟩ : ∃ q : Int32, q = (x6 - (1 : Int32)) := ⟨_, rfl⟩
      have e11 : x9.toInt = x6.toInt - 1 := by rw [q10, iv_sub (by omega) (by omega)]; omega
      refine k_bin x9 61 rfl q10.symm rfl ?_
      refine r_pI hI 64 rfl rfl rfl (fun h12 I13 => ?_)
      refine k_aload 65 rfl g0 rfl ?_
      refine r_gA I13 68 rfl rfl rfl ?_
      refine k_aload 69 rfl g0 rfl ?_
      refine r_gI I13 72 rfl rfl rfl (fun x14 (e15 : x14.toInt = x9.toInt) => ?_)
      refine r_ld 74 I13 73 rfl rfl (by omega) (show x14.toInt < 4096 by omega) rfl (fun x16 (e17 : x16.toInt = A 74 x14.toInt) => ?_)
      refine k_istore 74 rfl rfl ?_
      obtain ⟨k7, hk7⟩ : ∃ k, x9.toInt = k := ⟨_, rfl⟩
      have hopl := op_le (t := A 1) (i := 1300 * w1.toInt) gf
      have ypop := i3.pop (k := x9.toInt) (v := x16.toInt) (by omega) (by omega) (by first | exact e17 | (rw [e17]; congr 1 <;> omega))
      refine k_iload 75 rfl gs_eq rfl ?_
      by_cases b18 : x16 < 0
      · refine k_c1 86 rfl rfl (if_pos b18) ?_
        have b18 := iv_lt0.mp b18
        obtain ⟨-, ym, yp, y9⟩ := ypop.resolve_left (fun z => by omega)
        have hlt : gf < gn := sa_lt i2 (by omega) yp
        refine k_aload 87 rfl (gs_ne rfl rfl g0) rfl ?_
        refine k_iload 88 rfl (gs_ne rfl rfl g1) rfl ?_
        refine k_in (d := 0) rfl rfl rfl rfl rfl ?_
        refine k_push 3 rfl rfl ?_
        have hc19 : (1300 : Int32).toInt = 1300 := by decide
        refine k_iload 4 rfl rfl rfl ?_
        obtain ⟨x20, q21⟩ : ∃ q : Int32, q = ((1300 : Int32) * v1) := ⟨_, rfl⟩
        have e22 : x20.toInt = 1300 * v1.toInt := by rw [q21]; exact iv_mulc 1300 (by decide) (by omega) (by omega)
        refine k_bin x20 5 rfl q21.symm rfl ?_
        refine k_fin rfl rfl ⟨_, _, rfl, rf_len I13 I13, ?_⟩
        show am_Ok _ _ _ (91, _, [.inl x20, .inr (.inr (some 81))], _, 0, 0) _
        refine k_iload 92 rfl (gs_ne rfl rfl g2) rfl ?_
        refine k_push 93 rfl rfl ?_
        have hc23 : (-1 : Int32).toInt = -1 := by decide
        refine k_iload 94 rfl gs_eq rfl ?_
        obtain ⟨x24, q25⟩ : ∃ q : Int32, q = ((-1 : Int32) - x16) := ⟨_, rfl⟩
        have e26 : x24.toInt = -1 - x16.toInt := by rw [q25, iv_sub (by omega) (by omega)]; omega
        refine k_bin x24 95 rfl q25.symm rfl ?_
        refine k_push 96 rfl rfl ?_
        have hc27 : (4 : Int32).toInt = 4 := by decide
        obtain ⟨x28, q29⟩ : ∃ q : Int32, q = (x24 / (4 : Int32)) := ⟨_, rfl⟩
        have e30 : x28.toInt = x24.toInt / 4 := by rw [q29]; exact iv_div 4 (by decide) (by decide) (by omega)
        refine k_divZ x28 97 rfl (by decide) q29.symm rfl ?_
        refine k_push 98 rfl rfl ?_
        refine k_iload 99 rfl gs_eq rfl ?_
        obtain ⟨x31, q32⟩ : ∃ q : Int32, q = ((-1 : Int32) - x16) := ⟨_, rfl⟩
        have e33 : x31.toInt = -1 - x16.toInt := by rw [q32, iv_sub (by omega) (by omega)]; omega
        refine k_bin x31 100 rfl q32.symm rfl ?_
        refine k_push 101 rfl rfl ?_
        obtain ⟨x34, q35⟩ : ∃ q : Int32, q = (x31 - x31 / (4 : Int32) * (4 : Int32)) := ⟨_, rfl⟩
        have e36 : x34.toInt = x31.toInt % 4 := by rw [q35]; exact iv_rem 4 (by decide) (by decide) (by omega)
        refine k_divZ x34 102 rfl (by decide) q35.symm rfl ?_
        refine k_rq I13 rfl (m_saysPart (gp := op (A 1) (1300 * w1.toInt) gf - 1) (gM := 4 * (gf : Int) + 8) I13.1 (show 0 ≤ (x9.toInt) ∧ (x9.toInt) + 4 ≤ 4096 ∧ 0 ≤ (F 73) ∧ (F 73) + 5 ≤ 12000 by omega) (show sy ((A 74)) ((x9.toInt)) (op (A 1) (1300 * w1.toInt) gf - 1) (4 * (gf : Int) + 8) from y9.le (by omega)) (show 0 ≤ x20.toInt ∧ x20.toInt ≤ 3900 ∧ 0 ≤ v2.toInt ∧ v2.toInt ≤ 3900 ∧ x20.toInt + v2.toInt < 3900 by omega) (show 0 ≤ x28.toInt ∧ x28.toInt ≤ 2000 ∧ 0 ≤ x34.toInt ∧ x34.toInt ≤ 3 ∧ 4 * x28.toInt + 5 ≤ (4 * (gf : Int) + 8) by omega)) rfl rfl rfl I13.rc ?_
        rintro x37 h38 F39 A40 I41 ⟨k43, k44, p42⟩
        replace p42 : x37.toInt = v2.toInt + 1 ∧ sy (A40 74) (F39 75) ((op (A 1) (1300 * w1.toInt) gf - 1) + 1 + ow ((A 1) (x20.toInt + v2.toInt))) (4 * (gf : Int) + 8) ∧ F39 75 ≤ (x9.toInt) + 3 + ow ((A 1) (x20.toInt + v2.toInt)) ∧ (F 73) ≤ F39 73 ∧ F39 73 + F39 75 ≤ (F 73) + (x9.toInt) + 6 + ow ((A 1) (x20.toInt + v2.toInt)) := p42
        obtain ⟨p42a, p42b, p42c, p42d, p42e⟩ := p42
        show am_Ok _ _ _ (105, _, [.inl x37], _, 0, 0) _
        refine k_istore 106 rfl rfl ?_
        refine k_goto 47 rfl rfl ?_
        have hop : op (A 1) (1300 * w1.toInt) (gf + 1) = op (A 1) (1300 * w1.toInt) gf + ow (A 1 (x20.toInt + v2.toInt)) := by rw [op_nx, show 1300 * w1.toInt + (gf : Int) = x20.toInt + v2.toInt by omega]
        have hval : op (A40 1) (1300 * w1.toInt) (gf + 1) = op (A 1) (1300 * w1.toInt) gf - 1 + 1 + ow (A 1 (x20.toInt + v2.toInt)) := by rw [(k44 1 (by decide)), hop]; omega
        have hb3 : sy (A40 74) (F39 75) (op (A40 1) (1300 * w1.toInt) (gf + 1)) (4 * ((gf + 1 : Nat) : Int) + 4) := by rw [hval, show 4 * ((gf + 1 : Nat) : Int) + 4 = 4 * (gf : Int) + 8 by omega]; exact p42b
        have hb0 := And.intro hb3.1 (ow_le (A 1 (x20.toInt + v2.toInt)))
        have hb4 : 0 ≤ F39 75 ∧ F39 75 ≤ op (A40 1) (1300 * w1.toInt) (gf + 1) + 2 * ((gf + 1 : Nat) : Int) := by omega
        have hb5 : 0 ≤ F39 73 ∧ F39 73 + F39 75 ≤ op (A40 1) (1300 * w1.toInt) (gf + 1) + 5 * ((gf + 1 : Nat) : Int) := by omega
        exact ih _ (show ((5 * (((gn) : Int) - (gf + 1)) + (F39 75)).toNat) < n by omega) (gf := gf + 1) (gn := gn) rfl (gs_ne rfl rfl (gs_ne rfl rfl g0)) (gs_ne rfl rfl (gs_ne rfl rfl g1)) gs_eq I41 (fr1.tr (by decide) (fr1.up (by decide) hF) k43) (fr2.tr (by decide) hA k44) (show v1.toInt = w1.toInt ∧ 0 ≤ w1.toInt ∧ w1.toInt ≤ 2 by omega) (show x37.toInt = (gf + 1) ∧ (gf + 1) ≤ (gn) ∧ (gn) ≤ 1000 by omega) ((by rw [(k44 1 (by decide))]; exact i2)) (hb3) (hb4) (hb5) ((i6.fr k44 (by decide))) ((i7.fr k44 (by decide))) ((by rw [(k44 2 (by decide))]; exact i8)) ((by rw [(k44 1 (by decide))]; exact i9))
      · refine k_c1 78 rfl rfl (if_neg b18) ?_
        have b18 := mt iv_lt0.mpr b18
        have y9 := (ypop.resolve_right (fun z => by omega)).2
        refine k_aload 79 rfl (gs_ne rfl rfl g0) rfl ?_
        refine k_iload 80 rfl gs_eq rfl ?_
        refine k_rv I13 rfl (m_says  I13.1 (show 0 ≤ (F 73) ∧ (F 73) < 12000 by omega)) rfl rfl rfl I13.rc ?_
        rintro h46 F47 A48 I49 ⟨k51, k52, p50⟩
        replace p50 : F47 73 = (F 73) + 1 := p50
        have k52 := fr2.nil k52
        subst k52
        show am_Ok _ _ _ (83, _, [], _, 0, 0) _
        refine k_goto 106 rfl rfl ?_
        refine k_goto 47 rfl rfl ?_
        have hq7 : F47 75 = k7 := (k51 75 (by decide)).trans hk7
        have hq8 : F47 73 = F 73 + 1 := p50
        have hb3 : sy (A 74) (F47 75) (op (A 1) (1300 * w1.toInt) gf) (4 * (gf : Int) + 4) := by rw [hq7, ← hk7]; exact y9
        have hb0 := hb3.1
        have hb4 : 0 ≤ F47 75 ∧ F47 75 ≤ op (A 1) (1300 * w1.toInt) (gf) + 2 * ((gf : Nat) : Int) := by omega
        have hb5 : 0 ≤ F47 73 ∧ F47 73 + F47 75 ≤ op (A 1) (1300 * w1.toInt) (gf) + 5 * ((gf : Nat) : Int) := by omega
        have e53 : F47 75 = x9.toInt := k51 75 (by decide)
        exact ih _ (show ((5 * (((gn) : Int) - (gf)) + (F47 75)).toNat) < n by omega) (gf := gf) (gn := gn) rfl (gs_ne rfl rfl g0) (gs_ne rfl rfl g1) (gs_ne rfl rfl g2) I49 (fr1.tr (by decide) (fr1.up (by decide) hF) k51) hA (show v1.toInt = w1.toInt ∧ 0 ≤ w1.toInt ∧ w1.toInt ≤ 2 by omega) (show v2.toInt = (gf) ∧ (gf) ≤ (gn) ∧ (gn) ≤ 1000 by omega) ((by rw [(show A 1 = A 1 from rfl)]; exact i2)) (hb3) (hb4) (hb5) (i6) (i7) ((by rw [(show A 2 = A 2 from rfl)]; exact i8)) ((by rw [(show A 1 = A 1 from rfl)]; exact i9))
theorem m_say {h0 : am_h} {F0 : rf_f} {A0 : rf_A} {w1 : Int32} {lm : Int → Int} {gT : Int} {gt : Nat} (hR : rf_R h0 F0 A0) (p1 : nn (A0 24) (A0 25) (F0 28) gT) (p2 : nw (A0 24) (A0 25) (A0 26) lm (F0 28)) (p5 : wr A0) (p6 : wq A0) (p7 : A0 2 2 = gt ∧ 1 ≤ gt ∧ gt ≤ 120) (p8 : wf (A0 1) 2600 gt) (p9 : cb (A0 1) 2600 gt 200) (ps : 0 ≤ F0 73 ∧ F0 73 ≤ 12000) : am_Mt 8 261 [.inr (.inr (some 81)), .inl w1] h0 (rf_Q h0 (fun x F' A' => fr1 [59, 55, 50, 48, 62, 63, 64, 65, 67, 70, 71, 0, 73, 75] F0 F' ∧ fr2 [1, 2, 56, 57, 58, 61, 49, 51, 52, 53, 54, 60, 43, 44, 45, 46, 47, 66, 68, 69, 74] A0 A' ∧ ((0 ≤ F' 73 ∧ F' 73 ≤ 12000) ∧ wr A' ∧ wq A' ∧ A' 2 2 = A0 2 2 ∧ (∀ q : Int, 2600 ≤ q → A' 1 q = A0 1 q)))) := by
  refine am_Mt.of (D := 7) ?_
  have hI : rf_I h0 h0 F0 A0 := rf_I.start hR
  refine k_aload 1 rfl rfl rfl ?_
  refine k_push 2 rfl rfl ?_
  have hc54 : (0 : Int32).toInt = 0 := by decide
  refine r_pI hI 5 rfl rfl rfl (fun h55 I56 => ?_)
  refine k_aload 6 rfl rfl rfl ?_
  refine k_iload 7 rfl rfl rfl ?_
  refine k_in (d := 1) rfl rfl rfl rfl rfl ?_
  refine k_iload 1 rfl rfl rfl ?_
  refine k_push 2 rfl rfl ?_
  refine k_push 3 rfl rfl ?_
  have hc57 : (2 : Int32).toInt = 2 := by decide
  refine k_in (d := 0) rfl rfl rfl rfl rfl ?_
  refine k_iload 1 rfl rfl rfl ?_
  refine k_iload 2 rfl rfl rfl ?_
  by_cases b58 : w1 < (0 : Int32)
  · refine k_c2 14 rfl rfl (if_pos b58) ?_
    have b58 := iv_lt.mp b58
    refine k_push 15 rfl rfl ?_
    refine k_fin rfl (fin_Z (Or.inl rfl)) ⟨_, _, rfl, rf_len I56 I56, ?_⟩
    show am_Ok _ _ _ (6, _, [.inl (0 : Int32)], _, 0, 0) _
    refine k_fin rfl (fin_Z (Or.inl rfl)) ⟨_, _, rfl, rf_len I56 I56, ?_⟩
    show am_Ok _ _ _ (10, _, [.inl (0 : Int32), .inr (.inr (some 81))], _, 0, 0) _
    refine k_push 11 rfl rfl ?_
    have hc59 : (1 : Int32).toInt = 1 := by decide
    refine k_in (d := 0) rfl rfl rfl rfl I56.rc ?_
    refine k_aload 1 rfl rfl rfl ?_
    refine r_gI I56 4 rfl rfl rfl (fun x60 (e61 : x60.toInt = (0 : Int32).toInt) => ?_)
    by_cases b62 : x60 = 0
    · refine k_c1 7 rfl rfl (if_pos b62) ?_
      have b62 := iv_eq0.mp b62
      refine k_iload 8 rfl rfl rfl ?_
      refine k_c1 11 rfl rfl (if_pos (by decide)) ?_
      refine k_aload 12 rfl rfl rfl ?_
      refine k_iload 13 rfl rfl rfl ?_
      refine r_pI I56 16 rfl rfl rfl (fun h63 I64 => ?_)
      refine k_aload 17 rfl rfl rfl ?_
      refine r_gI I64 20 rfl rfl rfl (fun x65 (e66 : x65.toInt = (1 : Int32).toInt) => ?_)
      by_cases b67 : x65 = 0
      · refine k_c1 23 rfl rfl (if_pos b67) ?_
        have b67 := iv_eq0.mp b67
        refine k_push 24 rfl rfl ?_
        refine k_goto 28 rfl rfl ?_
        refine k_fin rfl (fin_Z (Or.inr rfl)) ⟨_, _, rfl, rf_len I56 I64, ?_⟩
        show am_Ok _ _ _ (14, _, [.inl (1 : Int32)], _, 0, 0) _
        refine k_c1 19 rfl rfl (if_neg (by decide)) ?_
        refine k_aload 20 rfl rfl rfl ?_
        refine k_iload 21 rfl rfl rfl ?_
        refine k_rq I64 rfl (m_isTerm (lm := lm) (gT := gT) (gt := gt) I64.1 (show nn ((A0 24)) ((A0 25)) ((F0 28)) (gT) from p1) (show nw ((A0 24)) ((A0 25)) ((A0 26)) (lm) ((F0 28)) from p2) (show wr A0 from p5) (show wq A0 from p6) (show (A0 2) 2 = (gt) ∧ 1 ≤ (gt) ∧ (gt) ≤ 120 from p7) (show wf ((A0 1)) 2600 (gt) from p8) (show cb ((A0 1)) 2600 (gt) 200 from p9) (show 0 ≤ w1.toInt ∧ w1.toInt ≤ 2 by omega)) rfl rfl rfl I64.rc ?_
        rintro x68 h69 F70 A71 I72 ⟨k74, k75, p73⟩
        replace p73 : (x68.toInt = 0 ∨ x68.toInt = 1) ∧ (x68.toInt = 1 → ∃ n' : Nat, n' ≤ 1000 ∧ A71 2 w1.toInt = n' ∧ wf (A71 1) (1300 * w1.toInt) n') ∧ wr A71 ∧ wq A71 ∧ (∀ q : Int, q ≠ w1.toInt → A71 2 q = (A0 2) q) ∧ (∀ q : Int, (0 ≤ q ∧ q < 1300 * w1.toInt) ∨ 1300 * w1.toInt + 1300 ≤ q → A71 1 q = (A0 1) q) ∧ A71 2 2 = (A0 2) 2 ∧ (∀ q : Int, 2600 ≤ q → A71 1 q = (A0 1) q) := p73
        obtain ⟨p73a, p73b, p73c, p73d, p73e, p73f, p73g, p73h⟩ := p73
        have z76 := iv_01 (x := x68) p73a
        show am_Ok _ _ _ (24, _, [.inl x68], _, 0, 0) _
        by_cases b77 : x68 = 0
        · refine k_c1 27 rfl rfl (if_pos b77) ?_
          have b77 := iv_eq0.mp b77
          clear p73b
          refine k_push 28 rfl rfl ?_
          have hc78 : (-1 : Int32).toInt = -1 := by decide
          have e79 : F70 73 = F0 73 := k74 73 (by decide)
          exact k_fin rfl rfl ⟨_, _, _, _, rfl, I72, (fr1.tr (by decide) (fr1.up (by decide) (fr1.up (by decide) fr1.rf)) k74), (fr2.tr (by decide) fr2.rf k75), ⟨by omega, p73c, p73d, p73g, p73h⟩⟩
        · refine k_c1 29 rfl rfl (if_neg b77) ?_
          have b77 := mt iv_eq0.mpr b77
          obtain ⟨gn, hn1, hn2, hn3⟩ := p73b ((p73a).resolve_left (by assumption))
          clear p73b
          refine k_aload 30 rfl rfl rfl ?_
          refine k_push 31 rfl rfl ?_
          refine r_pI I72 34 rfl rfl rfl (fun h80 I81 => ?_)
          refine k_aload 35 rfl rfl rfl ?_
          refine k_push 36 rfl rfl ?_
          refine r_pI I81 39 rfl rfl rfl (fun h82 I83 => ?_)
          refine k_aload 40 rfl rfl rfl ?_
          refine k_push 41 rfl rfl ?_
          refine k_push 42 rfl rfl ?_
          refine k_rv I83 rfl (m_waitsPart (gp := 0) (gM := 4) I83.1 (show 0 ≤ ((0 : Int32).toInt) ∧ ((0 : Int32).toInt) < 4096 by omega) (show sy ((A71 74)) (((0 : Int32).toInt)) (0) (4) by rw [show (0 : Int32).toInt = 0 by decide]; exact sy.z) (show 0 ≤ (0 : Int32).toInt ∧ (0 : Int32).toInt ≤ 3000 ∧ 0 ≤ (0 : Int32).toInt ∧ (0 : Int32).toInt ≤ 3 ∧ 4 * (0 : Int32).toInt + (0 : Int32).toInt + 1 ≤ (4) by omega)) rfl rfl rfl I83.rc ?_
          rintro h85 F86 A87 I88 ⟨k90, k91, p89⟩
          replace p89 : F86 75 = ((0 : Int32).toInt) + 1 ∧ sy (A87 74) (F86 75) ((0) + 1) (4) := p89
          obtain ⟨p89a, p89b⟩ := p89
          show am_Ok _ _ _ (45, _, [], _, 0, 0) _
          refine k_push 46 rfl rfl ?_
          refine k_istore 47 rfl rfl ?_
          have e92 : F86 73 = (0 : Int32).toInt := k90 73 (by decide)
          exact b_X10_say_47 (lm := lm) (gT := gT) (gt := gt) (w1 := w1) p1 p2 p5 p6 p7 p8 p9 ps _ (gf := 0) (gn := gn) rfl (gs_ne rfl rfl rfl) (gs_ne rfl rfl rfl) gs_eq I88 (fr1.tr (by decide) (fr1.up (by decide) (fr1.up (by decide) (fr1.tr (by decide) (fr1.up (by decide) (fr1.up (by decide) fr1.rf)) k74))) k90) (fr2.tr (by decide) (fr2.tr (by decide) fr2.rf k75) k91) (show w1.toInt = w1.toInt ∧ 0 ≤ w1.toInt ∧ w1.toInt ≤ 2 by omega) (show (0 : Int32).toInt = (0) ∧ (0) ≤ (gn) ∧ (gn) ≤ 1000 by omega) ((by rw [(k91 1 (by decide))]; exact hn3)) ((by have y := p89b; rw [show (0 : Int) + 1 = 1 by omega] at y; exact y.le (by omega))) ((sa_4 (by omega))) ((sa_5 (by omega) (by omega))) ((p73c.fr k91 (by decide))) ((p73d.fr k91 (by decide))) ((by rw [(k91 2 (by decide))]; exact p73g)) ((fun q hq => by rw [(k91 1 (by decide))]; exact p73h q hq))
      · refine k_c1 27 rfl rfl (if_neg b67) ?_
        have b67 := mt iv_eq0.mpr b67
        refine k_push 28 rfl rfl ?_
        refine k_fin rfl (fin_Z (Or.inl rfl)) ⟨_, _, rfl, rf_len I56 I64, ?_⟩
        show am_Ok _ _ _ (14, _, [.inl (0 : Int32)], _, 0, 0) _
        refine k_c1 17 rfl rfl (if_pos (by decide)) ?_
        refine k_push 18 rfl rfl ?_
        exact k_fin rfl rfl ⟨_, _, _, _, rfl, I64, (fr1.up (by decide) (fr1.up (by decide) fr1.rf)), fr2.rf, show (0 ≤ (F0 73) ∧ (F0 73) ≤ 12000) ∧ wr A0 ∧ wq A0 ∧ (A0 2) 2 = A0 2 2 ∧ (∀ q : Int, 2600 ≤ q → (A0 1) q = A0 1 q) from ⟨by omega, p5, p6, rfl, fun q _ => rfl⟩⟩
    · refine k_c1 16 rfl rfl (if_neg b62) ?_
      have b62 := mt iv_eq0.mpr b62
      refine k_aload 17 rfl rfl rfl ?_
      refine r_gI I56 20 rfl rfl rfl (fun x93 (e94 : x93.toInt = (0 : Int32).toInt) => ?_)
      by_cases b95 : x93 = 0
      · refine k_c1 23 rfl rfl (if_pos b95) ?_
        have b95 := iv_eq0.mp b95
        refine k_push 24 rfl rfl ?_
        refine k_goto 28 rfl rfl ?_
        refine k_fin rfl (fin_Z (Or.inr rfl)) ⟨_, _, rfl, rf_len I56 I56, ?_⟩
        show am_Ok _ _ _ (14, _, [.inl (1 : Int32)], _, 0, 0) _
        refine k_c1 19 rfl rfl (if_neg (by decide)) ?_
        refine k_aload 20 rfl rfl rfl ?_
        refine k_iload 21 rfl rfl rfl ?_
        refine k_rq I56 rfl (m_isTerm (lm := lm) (gT := gT) (gt := gt) I56.1 (show nn ((A0 24)) ((A0 25)) ((F0 28)) (gT) from p1) (show nw ((A0 24)) ((A0 25)) ((A0 26)) (lm) ((F0 28)) from p2) (show wr A0 from p5) (show wq A0 from p6) (show (A0 2) 2 = (gt) ∧ 1 ≤ (gt) ∧ (gt) ≤ 120 from p7) (show wf ((A0 1)) 2600 (gt) from p8) (show cb ((A0 1)) 2600 (gt) 200 from p9) (show 0 ≤ w1.toInt ∧ w1.toInt ≤ 2 by omega)) rfl rfl rfl I56.rc ?_
        rintro x96 h97 F98 A99 I100 ⟨k102, k103, p101⟩
        replace p101 : (x96.toInt = 0 ∨ x96.toInt = 1) ∧ (x96.toInt = 1 → ∃ n' : Nat, n' ≤ 1000 ∧ A99 2 w1.toInt = n' ∧ wf (A99 1) (1300 * w1.toInt) n') ∧ wr A99 ∧ wq A99 ∧ (∀ q : Int, q ≠ w1.toInt → A99 2 q = (A0 2) q) ∧ (∀ q : Int, (0 ≤ q ∧ q < 1300 * w1.toInt) ∨ 1300 * w1.toInt + 1300 ≤ q → A99 1 q = (A0 1) q) ∧ A99 2 2 = (A0 2) 2 ∧ (∀ q : Int, 2600 ≤ q → A99 1 q = (A0 1) q) := p101
        obtain ⟨p101a, p101b, p101c, p101d, p101e, p101f, p101g, p101h⟩ := p101
        have z104 := iv_01 (x := x96) p101a
        show am_Ok _ _ _ (24, _, [.inl x96], _, 0, 0) _
        by_cases b105 : x96 = 0
        · refine k_c1 27 rfl rfl (if_pos b105) ?_
          have b105 := iv_eq0.mp b105
          clear p101b
          refine k_push 28 rfl rfl ?_
          have hc106 : (-1 : Int32).toInt = -1 := by decide
          have e107 : F98 73 = F0 73 := k102 73 (by decide)
          exact k_fin rfl rfl ⟨_, _, _, _, rfl, I100, (fr1.tr (by decide) (fr1.up (by decide) fr1.rf) k102), (fr2.tr (by decide) fr2.rf k103), ⟨by omega, p101c, p101d, p101g, p101h⟩⟩
        · refine k_c1 29 rfl rfl (if_neg b105) ?_
          have b105 := mt iv_eq0.mpr b105
          obtain ⟨gn, hn1, hn2, hn3⟩ := p101b ((p101a).resolve_left (by assumption))
          clear p101b
          refine k_aload 30 rfl rfl rfl ?_
          refine k_push 31 rfl rfl ?_
          refine r_pI I100 34 rfl rfl rfl (fun h108 I109 => ?_)
          refine k_aload 35 rfl rfl rfl ?_
          refine k_push 36 rfl rfl ?_
          refine r_pI I109 39 rfl rfl rfl (fun h110 I111 => ?_)
          refine k_aload 40 rfl rfl rfl ?_
          refine k_push 41 rfl rfl ?_
          refine k_push 42 rfl rfl ?_
          refine k_rv I111 rfl (m_waitsPart (gp := 0) (gM := 4) I111.1 (show 0 ≤ ((0 : Int32).toInt) ∧ ((0 : Int32).toInt) < 4096 by omega) (show sy ((A99 74)) (((0 : Int32).toInt)) (0) (4) by rw [show (0 : Int32).toInt = 0 by decide]; exact sy.z) (show 0 ≤ (0 : Int32).toInt ∧ (0 : Int32).toInt ≤ 3000 ∧ 0 ≤ (0 : Int32).toInt ∧ (0 : Int32).toInt ≤ 3 ∧ 4 * (0 : Int32).toInt + (0 : Int32).toInt + 1 ≤ (4) by omega)) rfl rfl rfl I111.rc ?_
          rintro h113 F114 A115 I116 ⟨k118, k119, p117⟩
          replace p117 : F114 75 = ((0 : Int32).toInt) + 1 ∧ sy (A115 74) (F114 75) ((0) + 1) (4) := p117
          obtain ⟨p117a, p117b⟩ := p117
          show am_Ok _ _ _ (45, _, [], _, 0, 0) _
          refine k_push 46 rfl rfl ?_
          refine k_istore 47 rfl rfl ?_
          have e120 : F114 73 = (0 : Int32).toInt := k118 73 (by decide)
          exact b_X10_say_47 (lm := lm) (gT := gT) (gt := gt) (w1 := w1) p1 p2 p5 p6 p7 p8 p9 ps _ (gf := 0) (gn := gn) rfl (gs_ne rfl rfl rfl) (gs_ne rfl rfl rfl) gs_eq I116 (fr1.tr (by decide) (fr1.up (by decide) (fr1.up (by decide) (fr1.tr (by decide) (fr1.up (by decide) fr1.rf) k102))) k118) (fr2.tr (by decide) (fr2.tr (by decide) fr2.rf k103) k119) (show w1.toInt = w1.toInt ∧ 0 ≤ w1.toInt ∧ w1.toInt ≤ 2 by omega) (show (0 : Int32).toInt = (0) ∧ (0) ≤ (gn) ∧ (gn) ≤ 1000 by omega) ((by rw [(k119 1 (by decide))]; exact hn3)) ((by have y := p117b; rw [show (0 : Int) + 1 = 1 by omega] at y; exact y.le (by omega))) ((sa_4 (by omega))) ((sa_5 (by omega) (by omega))) ((p101c.fr k119 (by decide))) ((p101d.fr k119 (by decide))) ((by rw [(k119 2 (by decide))]; exact p101g)) ((fun q hq => by rw [(k119 1 (by decide))]; exact p101h q hq))
      · refine k_c1 27 rfl rfl (if_neg b95) ?_
        have b95 := mt iv_eq0.mpr b95
        refine k_push 28 rfl rfl ?_
        refine k_fin rfl (fin_Z (Or.inl rfl)) ⟨_, _, rfl, rf_len I56 I56, ?_⟩
        show am_Ok _ _ _ (14, _, [.inl (0 : Int32)], _, 0, 0) _
        refine k_c1 17 rfl rfl (if_pos (by decide)) ?_
        refine k_push 18 rfl rfl ?_
        exact k_fin rfl rfl ⟨_, _, _, _, rfl, I56, (fr1.up (by decide) fr1.rf), fr2.rf, show (0 ≤ (F0 73) ∧ (F0 73) ≤ 12000) ∧ wr A0 ∧ wq A0 ∧ (A0 2) 2 = A0 2 2 ∧ (∀ q : Int, 2600 ≤ q → (A0 1) q = A0 1 q) from ⟨by omega, p5, p6, rfl, fun q _ => rfl⟩⟩
  · refine k_c2 5 rfl rfl (if_neg b58) ?_
    have b58 := mt iv_lt.mpr b58
    refine k_iload 6 rfl rfl rfl ?_
    refine k_iload 7 rfl rfl rfl ?_
    by_cases b121 : (2 : Int32) < w1
    · refine k_c2 14 rfl rfl (if_pos b121) ?_
      have b121 := iv_lt.mp b121
      refine k_push 15 rfl rfl ?_
      refine k_fin rfl (fin_Z (Or.inl rfl)) ⟨_, _, rfl, rf_len I56 I56, ?_⟩
      show am_Ok _ _ _ (6, _, [.inl (0 : Int32)], _, 0, 0) _
      refine k_fin rfl (fin_Z (Or.inl rfl)) ⟨_, _, rfl, rf_len I56 I56, ?_⟩
      show am_Ok _ _ _ (10, _, [.inl (0 : Int32), .inr (.inr (some 81))], _, 0, 0) _
      refine k_push 11 rfl rfl ?_
      have hc122 : (1 : Int32).toInt = 1 := by decide
      refine k_in (d := 0) rfl rfl rfl rfl I56.rc ?_
      refine k_aload 1 rfl rfl rfl ?_
      refine r_gI I56 4 rfl rfl rfl (fun x123 (e124 : x123.toInt = (0 : Int32).toInt) => ?_)
      by_cases b125 : x123 = 0
      · refine k_c1 7 rfl rfl (if_pos b125) ?_
        have b125 := iv_eq0.mp b125
        refine k_iload 8 rfl rfl rfl ?_
        refine k_c1 11 rfl rfl (if_pos (by decide)) ?_
        refine k_aload 12 rfl rfl rfl ?_
        refine k_iload 13 rfl rfl rfl ?_
        refine r_pI I56 16 rfl rfl rfl (fun h126 I127 => ?_)
        refine k_aload 17 rfl rfl rfl ?_
        refine r_gI I127 20 rfl rfl rfl (fun x128 (e129 : x128.toInt = (1 : Int32).toInt) => ?_)
        by_cases b130 : x128 = 0
        · refine k_c1 23 rfl rfl (if_pos b130) ?_
          have b130 := iv_eq0.mp b130
          refine k_push 24 rfl rfl ?_
          refine k_goto 28 rfl rfl ?_
          refine k_fin rfl (fin_Z (Or.inr rfl)) ⟨_, _, rfl, rf_len I56 I127, ?_⟩
          show am_Ok _ _ _ (14, _, [.inl (1 : Int32)], _, 0, 0) _
          refine k_c1 19 rfl rfl (if_neg (by decide)) ?_
          refine k_aload 20 rfl rfl rfl ?_
          refine k_iload 21 rfl rfl rfl ?_
          refine k_rq I127 rfl (m_isTerm (lm := lm) (gT := gT) (gt := gt) I127.1 (show nn ((A0 24)) ((A0 25)) ((F0 28)) (gT) from p1) (show nw ((A0 24)) ((A0 25)) ((A0 26)) (lm) ((F0 28)) from p2) (show wr A0 from p5) (show wq A0 from p6) (show (A0 2) 2 = (gt) ∧ 1 ≤ (gt) ∧ (gt) ≤ 120 from p7) (show wf ((A0 1)) 2600 (gt) from p8) (show cb ((A0 1)) 2600 (gt) 200 from p9) (show 0 ≤ w1.toInt ∧ w1.toInt ≤ 2 by omega)) rfl rfl rfl I127.rc ?_
          rintro x131 h132 F133 A134 I135 ⟨k137, k138, p136⟩
          replace p136 : (x131.toInt = 0 ∨ x131.toInt = 1) ∧ (x131.toInt = 1 → ∃ n' : Nat, n' ≤ 1000 ∧ A134 2 w1.toInt = n' ∧ wf (A134 1) (1300 * w1.toInt) n') ∧ wr A134 ∧ wq A134 ∧ (∀ q : Int, q ≠ w1.toInt → A134 2 q = (A0 2) q) ∧ (∀ q : Int, (0 ≤ q ∧ q < 1300 * w1.toInt) ∨ 1300 * w1.toInt + 1300 ≤ q → A134 1 q = (A0 1) q) ∧ A134 2 2 = (A0 2) 2 ∧ (∀ q : Int, 2600 ≤ q → A134 1 q = (A0 1) q) := p136
          obtain ⟨p136a, p136b, p136c, p136d, p136e, p136f, p136g, p136h⟩ := p136
          have z139 := iv_01 (x := x131) p136a
          show am_Ok _ _ _ (24, _, [.inl x131], _, 0, 0) _
          by_cases b140 : x131 = 0
          · refine k_c1 27 rfl rfl (if_pos b140) ?_
            have b140 := iv_eq0.mp b140
            clear p136b
            refine k_push 28 rfl rfl ?_
            have hc141 : (-1 : Int32).toInt = -1 := by decide
            have e142 : F133 73 = F0 73 := k137 73 (by decide)
            exact k_fin rfl rfl ⟨_, _, _, _, rfl, I135, (fr1.tr (by decide) (fr1.up (by decide) (fr1.up (by decide) fr1.rf)) k137), (fr2.tr (by decide) fr2.rf k138), ⟨by omega, p136c, p136d, p136g, p136h⟩⟩
          · refine k_c1 29 rfl rfl (if_neg b140) ?_
            have b140 := mt iv_eq0.mpr b140
            obtain ⟨gn, hn1, hn2, hn3⟩ := p136b ((p136a).resolve_left (by assumption))
            clear p136b
            refine k_aload 30 rfl rfl rfl ?_
            refine k_push 31 rfl rfl ?_
            refine r_pI I135 34 rfl rfl rfl (fun h143 I144 => ?_)
            refine k_aload 35 rfl rfl rfl ?_
            refine k_push 36 rfl rfl ?_
            refine r_pI I144 39 rfl rfl rfl (fun h145 I146 => ?_)
            refine k_aload 40 rfl rfl rfl ?_
            refine k_push 41 rfl rfl ?_
            refine k_push 42 rfl rfl ?_
            refine k_rv I146 rfl (m_waitsPart (gp := 0) (gM := 4) I146.1 (show 0 ≤ ((0 : Int32).toInt) ∧ ((0 : Int32).toInt) < 4096 by omega) (show sy ((A134 74)) (((0 : Int32).toInt)) (0) (4) by rw [show (0 : Int32).toInt = 0 by decide]; exact sy.z) (show 0 ≤ (0 : Int32).toInt ∧ (0 : Int32).toInt ≤ 3000 ∧ 0 ≤ (0 : Int32).toInt ∧ (0 : Int32).toInt ≤ 3 ∧ 4 * (0 : Int32).toInt + (0 : Int32).toInt + 1 ≤ (4) by omega)) rfl rfl rfl I146.rc ?_
            rintro h148 F149 A150 I151 ⟨k153, k154, p152⟩
            replace p152 : F149 75 = ((0 : Int32).toInt) + 1 ∧ sy (A150 74) (F149 75) ((0) + 1) (4) := p152
            obtain ⟨p152a, p152b⟩ := p152
            show am_Ok _ _ _ (45, _, [], _, 0, 0) _
            refine k_push 46 rfl rfl ?_
            refine k_istore 47 rfl rfl ?_
            have e155 : F149 73 = (0 : Int32).toInt := k153 73 (by decide)
            exact b_X10_say_47 (lm := lm) (gT := gT) (gt := gt) (w1 := w1) p1 p2 p5 p6 p7 p8 p9 ps _ (gf := 0) (gn := gn) rfl (gs_ne rfl rfl rfl) (gs_ne rfl rfl rfl) gs_eq I151 (fr1.tr (by decide) (fr1.up (by decide) (fr1.up (by decide) (fr1.tr (by decide) (fr1.up (by decide) (fr1.up (by decide) fr1.rf)) k137))) k153) (fr2.tr (by decide) (fr2.tr (by decide) fr2.rf k138) k154) (show w1.toInt = w1.toInt ∧ 0 ≤ w1.toInt ∧ w1.toInt ≤ 2 by omega) (show (0 : Int32).toInt = (0) ∧ (0) ≤ (gn) ∧ (gn) ≤ 1000 by omega) ((by rw [(k154 1 (by decide))]; exact hn3)) ((by have y := p152b; rw [show (0 : Int) + 1 = 1 by omega] at y; exact y.le (by omega))) ((sa_4 (by omega))) ((sa_5 (by omega) (by omega))) ((p136c.fr k154 (by decide))) ((p136d.fr k154 (by decide))) ((by rw [(k154 2 (by decide))]; exact p136g)) ((fun q hq => by rw [(k154 1 (by decide))]; exact p136h q hq))
        · refine k_c1 27 rfl rfl (if_neg b130) ?_
          have b130 := mt iv_eq0.mpr b130
          refine k_push 28 rfl rfl ?_
          refine k_fin rfl (fin_Z (Or.inl rfl)) ⟨_, _, rfl, rf_len I56 I127, ?_⟩
          show am_Ok _ _ _ (14, _, [.inl (0 : Int32)], _, 0, 0) _
          refine k_c1 17 rfl rfl (if_pos (by decide)) ?_
          refine k_push 18 rfl rfl ?_
          exact k_fin rfl rfl ⟨_, _, _, _, rfl, I127, (fr1.up (by decide) (fr1.up (by decide) fr1.rf)), fr2.rf, show (0 ≤ (F0 73) ∧ (F0 73) ≤ 12000) ∧ wr A0 ∧ wq A0 ∧ (A0 2) 2 = A0 2 2 ∧ (∀ q : Int, 2600 ≤ q → (A0 1) q = A0 1 q) from ⟨by omega, p5, p6, rfl, fun q _ => rfl⟩⟩
      · refine k_c1 16 rfl rfl (if_neg b125) ?_
        have b125 := mt iv_eq0.mpr b125
        refine k_aload 17 rfl rfl rfl ?_
        refine r_gI I56 20 rfl rfl rfl (fun x156 (e157 : x156.toInt = (0 : Int32).toInt) => ?_)
        by_cases b158 : x156 = 0
        · refine k_c1 23 rfl rfl (if_pos b158) ?_
          have b158 := iv_eq0.mp b158
          refine k_push 24 rfl rfl ?_
          refine k_goto 28 rfl rfl ?_
          refine k_fin rfl (fin_Z (Or.inr rfl)) ⟨_, _, rfl, rf_len I56 I56, ?_⟩
          show am_Ok _ _ _ (14, _, [.inl (1 : Int32)], _, 0, 0) _
          refine k_c1 19 rfl rfl (if_neg (by decide)) ?_
          refine k_aload 20 rfl rfl rfl ?_
          refine k_iload 21 rfl rfl rfl ?_
          refine k_rq I56 rfl (m_isTerm (lm := lm) (gT := gT) (gt := gt) I56.1 (show nn ((A0 24)) ((A0 25)) ((F0 28)) (gT) from p1) (show nw ((A0 24)) ((A0 25)) ((A0 26)) (lm) ((F0 28)) from p2) (show wr A0 from p5) (show wq A0 from p6) (show (A0 2) 2 = (gt) ∧ 1 ≤ (gt) ∧ (gt) ≤ 120 from p7) (show wf ((A0 1)) 2600 (gt) from p8) (show cb ((A0 1)) 2600 (gt) 200 from p9) (show 0 ≤ w1.toInt ∧ w1.toInt ≤ 2 by omega)) rfl rfl rfl I56.rc ?_
          rintro x159 h160 F161 A162 I163 ⟨k165, k166, p164⟩
          replace p164 : (x159.toInt = 0 ∨ x159.toInt = 1) ∧ (x159.toInt = 1 → ∃ n' : Nat, n' ≤ 1000 ∧ A162 2 w1.toInt = n' ∧ wf (A162 1) (1300 * w1.toInt) n') ∧ wr A162 ∧ wq A162 ∧ (∀ q : Int, q ≠ w1.toInt → A162 2 q = (A0 2) q) ∧ (∀ q : Int, (0 ≤ q ∧ q < 1300 * w1.toInt) ∨ 1300 * w1.toInt + 1300 ≤ q → A162 1 q = (A0 1) q) ∧ A162 2 2 = (A0 2) 2 ∧ (∀ q : Int, 2600 ≤ q → A162 1 q = (A0 1) q) := p164
          obtain ⟨p164a, p164b, p164c, p164d, p164e, p164f, p164g, p164h⟩ := p164
          have z167 := iv_01 (x := x159) p164a
          show am_Ok _ _ _ (24, _, [.inl x159], _, 0, 0) _
          by_cases b168 : x159 = 0
          · refine k_c1 27 rfl rfl (if_pos b168) ?_
            have b168 := iv_eq0.mp b168
            clear p164b
            refine k_push 28 rfl rfl ?_
            have hc169 : (-1 : Int32).toInt = -1 := by decide
            have e170 : F161 73 = F0 73 := k165 73 (by decide)
            exact k_fin rfl rfl ⟨_, _, _, _, rfl, I163, (fr1.tr (by decide) (fr1.up (by decide) fr1.rf) k165), (fr2.tr (by decide) fr2.rf k166), ⟨by omega, p164c, p164d, p164g, p164h⟩⟩
          · refine k_c1 29 rfl rfl (if_neg b168) ?_
            have b168 := mt iv_eq0.mpr b168
            obtain ⟨gn, hn1, hn2, hn3⟩ := p164b ((p164a).resolve_left (by assumption))
            clear p164b
            refine k_aload 30 rfl rfl rfl ?_
            refine k_push 31 rfl rfl ?_
            refine r_pI I163 34 rfl rfl rfl (fun h171 I172 => ?_)
            refine k_aload 35 rfl rfl rfl ?_
            refine k_push 36 rfl rfl ?_
            refine r_pI I172 39 rfl rfl rfl (fun h173 I174 => ?_)
            refine k_aload 40 rfl rfl rfl ?_
            refine k_push 41 rfl rfl ?_
            refine k_push 42 rfl rfl ?_
            refine k_rv I174 rfl (m_waitsPart (gp := 0) (gM := 4) I174.1 (show 0 ≤ ((0 : Int32).toInt) ∧ ((0 : Int32).toInt) < 4096 by omega) (show sy ((A162 74)) (((0 : Int32).toInt)) (0) (4) by rw [show (0 : Int32).toInt = 0 by decide]; exact sy.z) (show 0 ≤ (0 : Int32).toInt ∧ (0 : Int32).toInt ≤ 3000 ∧ 0 ≤ (0 : Int32).toInt ∧ (0 : Int32).toInt ≤ 3 ∧ 4 * (0 : Int32).toInt + (0 : Int32).toInt + 1 ≤ (4) by omega)) rfl rfl rfl I174.rc ?_
            rintro h176 F177 A178 I179 ⟨k181, k182, p180⟩
            replace p180 : F177 75 = ((0 : Int32).toInt) + 1 ∧ sy (A178 74) (F177 75) ((0) + 1) (4) := p180
            obtain ⟨p180a, p180b⟩ := p180
            show am_Ok _ _ _ (45, _, [], _, 0, 0) _
            refine k_push 46 rfl rfl ?_
            refine k_istore 47 rfl rfl ?_
            have e183 : F177 73 = (0 : Int32).toInt := k181 73 (by decide)
            exact b_X10_say_47 (lm := lm) (gT := gT) (gt := gt) (w1 := w1) p1 p2 p5 p6 p7 p8 p9 ps _ (gf := 0) (gn := gn) rfl (gs_ne rfl rfl rfl) (gs_ne rfl rfl rfl) gs_eq I179 (fr1.tr (by decide) (fr1.up (by decide) (fr1.up (by decide) (fr1.tr (by decide) (fr1.up (by decide) fr1.rf) k165))) k181) (fr2.tr (by decide) (fr2.tr (by decide) fr2.rf k166) k182) (show w1.toInt = w1.toInt ∧ 0 ≤ w1.toInt ∧ w1.toInt ≤ 2 by omega) (show (0 : Int32).toInt = (0) ∧ (0) ≤ (gn) ∧ (gn) ≤ 1000 by omega) ((by rw [(k182 1 (by decide))]; exact hn3)) ((by have y := p180b; rw [show (0 : Int) + 1 = 1 by omega] at y; exact y.le (by omega))) ((sa_4 (by omega))) ((sa_5 (by omega) (by omega))) ((p164c.fr k182 (by decide))) ((p164d.fr k182 (by decide))) ((by rw [(k182 2 (by decide))]; exact p164g)) ((fun q hq => by rw [(k182 1 (by decide))]; exact p164h q hq))
        · refine k_c1 27 rfl rfl (if_neg b158) ?_
          have b158 := mt iv_eq0.mpr b158
          refine k_push 28 rfl rfl ?_
          refine k_fin rfl (fin_Z (Or.inl rfl)) ⟨_, _, rfl, rf_len I56 I56, ?_⟩
          show am_Ok _ _ _ (14, _, [.inl (0 : Int32)], _, 0, 0) _
          refine k_c1 17 rfl rfl (if_pos (by decide)) ?_
          refine k_push 18 rfl rfl ?_
          exact k_fin rfl rfl ⟨_, _, _, _, rfl, I56, (fr1.up (by decide) fr1.rf), fr2.rf, show (0 ≤ (F0 73) ∧ (F0 73) ≤ 12000) ∧ wr A0 ∧ wq A0 ∧ (A0 2) 2 = A0 2 2 ∧ (∀ q : Int, 2600 ≤ q → (A0 1) q = A0 1 q) from ⟨by omega, p5, p6, rfl, fun q _ => rfl⟩⟩
    · refine k_c2 10 rfl rfl (if_neg b121) ?_
      have b121 := mt iv_lt.mpr b121
      refine k_push 11 rfl rfl ?_
      have hc184 : (1 : Int32).toInt = 1 := by decide
      refine k_goto 15 rfl rfl ?_
      refine k_fin rfl (fin_Z (Or.inr rfl)) ⟨_, _, rfl, rf_len I56 I56, ?_⟩
      show am_Ok _ _ _ (6, _, [.inl (1 : Int32)], _, 0, 0) _
      refine k_fin rfl (fin_Z (Or.inr rfl)) ⟨_, _, rfl, rf_len I56 I56, ?_⟩
      show am_Ok _ _ _ (10, _, [.inl (1 : Int32), .inr (.inr (some 81))], _, 0, 0) _
      refine k_push 11 rfl rfl ?_
      refine k_in (d := 0) rfl rfl rfl rfl I56.rc ?_
      refine k_aload 1 rfl rfl rfl ?_
      refine r_gI I56 4 rfl rfl rfl (fun x185 (e186 : x185.toInt = (0 : Int32).toInt) => ?_)
      by_cases b187 : x185 = 0
      · refine k_c1 7 rfl rfl (if_pos b187) ?_
        have b187 := iv_eq0.mp b187
        refine k_iload 8 rfl rfl rfl ?_
        refine k_c1 16 rfl rfl (if_neg (by decide)) ?_
        refine k_aload 17 rfl rfl rfl ?_
        refine r_gI I56 20 rfl rfl rfl (fun x188 (e189 : x188.toInt = (0 : Int32).toInt) => ?_)
        by_cases b190 : x188 = 0
        · refine k_c1 23 rfl rfl (if_pos b190) ?_
          have b190 := iv_eq0.mp b190
          refine k_push 24 rfl rfl ?_
          refine k_goto 28 rfl rfl ?_
          refine k_fin rfl (fin_Z (Or.inr rfl)) ⟨_, _, rfl, rf_len I56 I56, ?_⟩
          show am_Ok _ _ _ (14, _, [.inl (1 : Int32)], _, 0, 0) _
          refine k_c1 19 rfl rfl (if_neg (by decide)) ?_
          refine k_aload 20 rfl rfl rfl ?_
          refine k_iload 21 rfl rfl rfl ?_
          refine k_rq I56 rfl (m_isTerm (lm := lm) (gT := gT) (gt := gt) I56.1 (show nn ((A0 24)) ((A0 25)) ((F0 28)) (gT) from p1) (show nw ((A0 24)) ((A0 25)) ((A0 26)) (lm) ((F0 28)) from p2) (show wr A0 from p5) (show wq A0 from p6) (show (A0 2) 2 = (gt) ∧ 1 ≤ (gt) ∧ (gt) ≤ 120 from p7) (show wf ((A0 1)) 2600 (gt) from p8) (show cb ((A0 1)) 2600 (gt) 200 from p9) (show 0 ≤ w1.toInt ∧ w1.toInt ≤ 2 by omega)) rfl rfl rfl I56.rc ?_
          rintro x191 h192 F193 A194 I195 ⟨k197, k198, p196⟩
          replace p196 : (x191.toInt = 0 ∨ x191.toInt = 1) ∧ (x191.toInt = 1 → ∃ n' : Nat, n' ≤ 1000 ∧ A194 2 w1.toInt = n' ∧ wf (A194 1) (1300 * w1.toInt) n') ∧ wr A194 ∧ wq A194 ∧ (∀ q : Int, q ≠ w1.toInt → A194 2 q = (A0 2) q) ∧ (∀ q : Int, (0 ≤ q ∧ q < 1300 * w1.toInt) ∨ 1300 * w1.toInt + 1300 ≤ q → A194 1 q = (A0 1) q) ∧ A194 2 2 = (A0 2) 2 ∧ (∀ q : Int, 2600 ≤ q → A194 1 q = (A0 1) q) := p196
          obtain ⟨p196a, p196b, p196c, p196d, p196e, p196f, p196g, p196h⟩ := p196
          have z199 := iv_01 (x := x191) p196a
          show am_Ok _ _ _ (24, _, [.inl x191], _, 0, 0) _
          by_cases b200 : x191 = 0
          · refine k_c1 27 rfl rfl (if_pos b200) ?_
            have b200 := iv_eq0.mp b200
            clear p196b
            refine k_push 28 rfl rfl ?_
            have hc201 : (-1 : Int32).toInt = -1 := by decide
            have e202 : F193 73 = F0 73 := k197 73 (by decide)
            exact k_fin rfl rfl ⟨_, _, _, _, rfl, I195, (fr1.tr (by decide) (fr1.up (by decide) fr1.rf) k197), (fr2.tr (by decide) fr2.rf k198), ⟨by omega, p196c, p196d, p196g, p196h⟩⟩
          · refine k_c1 29 rfl rfl (if_neg b200) ?_
            have b200 := mt iv_eq0.mpr b200
            obtain ⟨gn, hn1, hn2, hn3⟩ := p196b ((p196a).resolve_left (by assumption))
            clear p196b
            refine k_aload 30 rfl rfl rfl ?_
            refine k_push 31 rfl rfl ?_
            refine r_pI I195 34 rfl rfl rfl (fun h203 I204 => ?_)
            refine k_aload 35 rfl rfl rfl ?_
            refine k_push 36 rfl rfl ?_
            refine r_pI I204 39 rfl rfl rfl (fun h205 I206 => ?_)
            refine k_aload 40 rfl rfl rfl ?_
            refine k_push 41 rfl rfl ?_
            refine k_push 42 rfl rfl ?_
            refine k_rv I206 rfl (m_waitsPart (gp := 0) (gM := 4) I206.1 (show 0 ≤ ((0 : Int32).toInt) ∧ ((0 : Int32).toInt) < 4096 by omega) (show sy ((A194 74)) (((0 : Int32).toInt)) (0) (4) by rw [show (0 : Int32).toInt = 0 by decide]; exact sy.z) (show 0 ≤ (0 : Int32).toInt ∧ (0 : Int32).toInt ≤ 3000 ∧ 0 ≤ (0 : Int32).toInt ∧ (0 : Int32).toInt ≤ 3 ∧ 4 * (0 : Int32).toInt + (0 : Int32).toInt + 1 ≤ (4) by omega)) rfl rfl rfl I206.rc ?_
            rintro h208 F209 A210 I211 ⟨k213, k214, p212⟩
            replace p212 : F209 75 = ((0 : Int32).toInt) + 1 ∧ sy (A210 74) (F209 75) ((0) + 1) (4) := p212
            obtain ⟨p212a, p212b⟩ := p212
            show am_Ok _ _ _ (45, _, [], _, 0, 0) _
            refine k_push 46 rfl rfl ?_
            refine k_istore 47 rfl rfl ?_
            have e215 : F209 73 = (0 : Int32).toInt := k213 73 (by decide)
            exact b_X10_say_47 (lm := lm) (gT := gT) (gt := gt) (w1 := w1) p1 p2 p5 p6 p7 p8 p9 ps _ (gf := 0) (gn := gn) rfl (gs_ne rfl rfl rfl) (gs_ne rfl rfl rfl) gs_eq I211 (fr1.tr (by decide) (fr1.up (by decide) (fr1.up (by decide) (fr1.tr (by decide) (fr1.up (by decide) fr1.rf) k197))) k213) (fr2.tr (by decide) (fr2.tr (by decide) fr2.rf k198) k214) (show w1.toInt = w1.toInt ∧ 0 ≤ w1.toInt ∧ w1.toInt ≤ 2 by omega) (show (0 : Int32).toInt = (0) ∧ (0) ≤ (gn) ∧ (gn) ≤ 1000 by omega) ((by rw [(k214 1 (by decide))]; exact hn3)) ((by have y := p212b; rw [show (0 : Int) + 1 = 1 by omega] at y; exact y.le (by omega))) ((sa_4 (by omega))) ((sa_5 (by omega) (by omega))) ((p196c.fr k214 (by decide))) ((p196d.fr k214 (by decide))) ((by rw [(k214 2 (by decide))]; exact p196g)) ((fun q hq => by rw [(k214 1 (by decide))]; exact p196h q hq))
        · refine k_c1 27 rfl rfl (if_neg b190) ?_
          have b190 := mt iv_eq0.mpr b190
          refine k_push 28 rfl rfl ?_
          refine k_fin rfl (fin_Z (Or.inl rfl)) ⟨_, _, rfl, rf_len I56 I56, ?_⟩
          show am_Ok _ _ _ (14, _, [.inl (0 : Int32)], _, 0, 0) _
          refine k_c1 17 rfl rfl (if_pos (by decide)) ?_
          refine k_push 18 rfl rfl ?_
          exact k_fin rfl rfl ⟨_, _, _, _, rfl, I56, (fr1.up (by decide) fr1.rf), fr2.rf, show (0 ≤ (F0 73) ∧ (F0 73) ≤ 12000) ∧ wr A0 ∧ wq A0 ∧ (A0 2) 2 = A0 2 2 ∧ (∀ q : Int, 2600 ≤ q → (A0 1) q = A0 1 q) from ⟨by omega, p5, p6, rfl, fun q _ => rfl⟩⟩
      · refine k_c1 16 rfl rfl (if_neg b187) ?_
        have b187 := mt iv_eq0.mpr b187
        refine k_aload 17 rfl rfl rfl ?_
        refine r_gI I56 20 rfl rfl rfl (fun x216 (e217 : x216.toInt = (0 : Int32).toInt) => ?_)
        by_cases b218 : x216 = 0
        · refine k_c1 23 rfl rfl (if_pos b218) ?_
          have b218 := iv_eq0.mp b218
          refine k_push 24 rfl rfl ?_
          refine k_goto 28 rfl rfl ?_
          refine k_fin rfl (fin_Z (Or.inr rfl)) ⟨_, _, rfl, rf_len I56 I56, ?_⟩
          show am_Ok _ _ _ (14, _, [.inl (1 : Int32)], _, 0, 0) _
          refine k_c1 19 rfl rfl (if_neg (by decide)) ?_
          refine k_aload 20 rfl rfl rfl ?_
          refine k_iload 21 rfl rfl rfl ?_
          refine k_rq I56 rfl (m_isTerm (lm := lm) (gT := gT) (gt := gt) I56.1 (show nn ((A0 24)) ((A0 25)) ((F0 28)) (gT) from p1) (show nw ((A0 24)) ((A0 25)) ((A0 26)) (lm) ((F0 28)) from p2) (show wr A0 from p5) (show wq A0 from p6) (show (A0 2) 2 = (gt) ∧ 1 ≤ (gt) ∧ (gt) ≤ 120 from p7) (show wf ((A0 1)) 2600 (gt) from p8) (show cb ((A0 1)) 2600 (gt) 200 from p9) (show 0 ≤ w1.toInt ∧ w1.toInt ≤ 2 by omega)) rfl rfl rfl I56.rc ?_
          rintro x219 h220 F221 A222 I223 ⟨k225, k226, p224⟩
          replace p224 : (x219.toInt = 0 ∨ x219.toInt = 1) ∧ (x219.toInt = 1 → ∃ n' : Nat, n' ≤ 1000 ∧ A222 2 w1.toInt = n' ∧ wf (A222 1) (1300 * w1.toInt) n') ∧ wr A222 ∧ wq A222 ∧ (∀ q : Int, q ≠ w1.toInt → A222 2 q = (A0 2) q) ∧ (∀ q : Int, (0 ≤ q ∧ q < 1300 * w1.toInt) ∨ 1300 * w1.toInt + 1300 ≤ q → A222 1 q = (A0 1) q) ∧ A222 2 2 = (A0 2) 2 ∧ (∀ q : Int, 2600 ≤ q → A222 1 q = (A0 1) q) := p224
          obtain ⟨p224a, p224b, p224c, p224d, p224e, p224f, p224g, p224h⟩ := p224
          have z227 := iv_01 (x := x219) p224a
          show am_Ok _ _ _ (24, _, [.inl x219], _, 0, 0) _
          by_cases b228 : x219 = 0
          · refine k_c1 27 rfl rfl (if_pos b228) ?_
            have b228 := iv_eq0.mp b228
            clear p224b
            refine k_push 28 rfl rfl ?_
            have hc229 : (-1 : Int32).toInt = -1 := by decide
            have e230 : F221 73 = F0 73 := k225 73 (by decide)
            exact k_fin rfl rfl ⟨_, _, _, _, rfl, I223, (fr1.tr (by decide) (fr1.up (by decide) fr1.rf) k225), (fr2.tr (by decide) fr2.rf k226), ⟨by omega, p224c, p224d, p224g, p224h⟩⟩
          · refine k_c1 29 rfl rfl (if_neg b228) ?_
            have b228 := mt iv_eq0.mpr b228
            obtain ⟨gn, hn1, hn2, hn3⟩ := p224b ((p224a).resolve_left (by assumption))
            clear p224b
            refine k_aload 30 rfl rfl rfl ?_
            refine k_push 31 rfl rfl ?_
            refine r_pI I223 34 rfl rfl rfl (fun h231 I232 => ?_)
            refine k_aload 35 rfl rfl rfl ?_
            refine k_push 36 rfl rfl ?_
            refine r_pI I232 39 rfl rfl rfl (fun h233 I234 => ?_)
            refine k_aload 40 rfl rfl rfl ?_
            refine k_push 41 rfl rfl ?_
            refine k_push 42 rfl rfl ?_
            refine k_rv I234 rfl (m_waitsPart (gp := 0) (gM := 4) I234.1 (show 0 ≤ ((0 : Int32).toInt) ∧ ((0 : Int32).toInt) < 4096 by omega) (show sy ((A222 74)) (((0 : Int32).toInt)) (0) (4) by rw [show (0 : Int32).toInt = 0 by decide]; exact sy.z) (show 0 ≤ (0 : Int32).toInt ∧ (0 : Int32).toInt ≤ 3000 ∧ 0 ≤ (0 : Int32).toInt ∧ (0 : Int32).toInt ≤ 3 ∧ 4 * (0 : Int32).toInt + (0 : Int32).toInt + 1 ≤ (4) by omega)) rfl rfl rfl I234.rc ?_
            rintro h236 F237 A238 I239 ⟨k241, k242, p240⟩
            replace p240 : F237 75 = ((0 : Int32).toInt) + 1 ∧ sy (A238 74) (F237 75) ((0) + 1) (4) := p240
            obtain ⟨p240a, p240b⟩ := p240
            show am_Ok _ _ _ (45, _, [], _, 0, 0) _
            refine k_push 46 rfl rfl ?_
            refine k_istore 47 rfl rfl ?_
            have e243 : F237 73 = (0 : Int32).toInt := k241 73 (by decide)
            exact b_X10_say_47 (lm := lm) (gT := gT) (gt := gt) (w1 := w1) p1 p2 p5 p6 p7 p8 p9 ps _ (gf := 0) (gn := gn) rfl (gs_ne rfl rfl rfl) (gs_ne rfl rfl rfl) gs_eq I239 (fr1.tr (by decide) (fr1.up (by decide) (fr1.up (by decide) (fr1.tr (by decide) (fr1.up (by decide) fr1.rf) k225))) k241) (fr2.tr (by decide) (fr2.tr (by decide) fr2.rf k226) k242) (show w1.toInt = w1.toInt ∧ 0 ≤ w1.toInt ∧ w1.toInt ≤ 2 by omega) (show (0 : Int32).toInt = (0) ∧ (0) ≤ (gn) ∧ (gn) ≤ 1000 by omega) ((by rw [(k242 1 (by decide))]; exact hn3)) ((by have y := p240b; rw [show (0 : Int) + 1 = 1 by omega] at y; exact y.le (by omega))) ((sa_4 (by omega))) ((sa_5 (by omega) (by omega))) ((p224c.fr k242 (by decide))) ((p224d.fr k242 (by decide))) ((by rw [(k242 2 (by decide))]; exact p224g)) ((fun q hq => by rw [(k242 1 (by decide))]; exact p224h q hq))
        · refine k_c1 27 rfl rfl (if_neg b218) ?_
          have b218 := mt iv_eq0.mpr b218
          refine k_push 28 rfl rfl ?_
          refine k_fin rfl (fin_Z (Or.inl rfl)) ⟨_, _, rfl, rf_len I56 I56, ?_⟩
          show am_Ok _ _ _ (14, _, [.inl (0 : Int32)], _, 0, 0) _
          refine k_c1 17 rfl rfl (if_pos (by decide)) ?_
          refine k_push 18 rfl rfl ?_
          exact k_fin rfl rfl ⟨_, _, _, _, rfl, I56, (fr1.up (by decide) fr1.rf), fr2.rf, show (0 ≤ (F0 73) ∧ (F0 73) ≤ 12000) ∧ wr A0 ∧ wq A0 ∧ (A0 2) 2 = A0 2 2 ∧ (∀ q : Int, 2600 ≤ q → (A0 1) q = A0 1 q) from ⟨by omega, p5, p6, rfl, fun q _ => rfl⟩⟩
end
