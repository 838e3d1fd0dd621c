section
theorem b_X10_goesAside_26 {h0 : am_h} {F0 : rf_f} {A0 : rf_A} {w1 : Int32} {w2 : Int32} {lm : Int → Int} {gT : Int} {gE : Int → Prop} (p1 : sn (A0 24) (A0 25) (A0 26) lm (F0 28) gT gE (fun _ => False) (F0 27)) (p2 : 0 < w1.toInt ∧ w1.toInt < F0 28) (p3 : A0 24 w1.toInt ≠ -1 ∧ A0 24 w1.toInt ≠ 0) (p4 : 8000 ≤ w2.toInt ∧ w2.toInt ≤ 8001) (p5 : ∀ x : Int, gE x → x / 4 ≠ w2.toInt) : ∀ (n : Nat) {lv : am_l} {h : am_h} {F : rf_f} {A : rf_A} {v1 : Int32} {v2 : Int32} {v3 : Int32}, ((3 - v3.toInt).toNat) = n → am_get lv 0 = some (.inr (.inr (some 81))) → am_get lv 1 = some (.inl v1) → am_get lv 2 = some (.inl v2) → am_get lv 3 = some (.inl v3) → rf_I h0 h F A → fr1 [27] F0 F → fr2 [24, 25, 26] A0 A → (v1.toInt = w1.toInt ∧ v2.toInt = w2.toInt) → (0 ≤ v3.toInt ∧ v3.toInt ≤ pr (A0 24 w1.toInt)) → (A 24 w2.toInt = A0 24 w1.toInt ∧ A 25 w2.toInt = A0 25 w1.toInt) → (∀ y : Int, y ≠ w2.toInt → A 24 y = A0 24 y ∧ A 25 y = A0 25 y) → (av (pp (A0 24) (F0 28) gE (fun _ => False)) (A0 26) (A 26) w1.toInt w2.toInt v3.toInt) → (F 27 = F0 27) → am_Ok am_G 1 211 (26, lv, [], h, 0, 0) (rf_V h0 (fun F' A' => fr1 [27] F0 F' ∧ fr2 [24, 25, 26] A0 A' ∧ ((A' 24 w2.toInt = A0 24 w1.toInt ∧ A' 25 w2.toInt = A0 25 w1.toInt) ∧ A' 24 w1.toInt = -1 ∧ (∀ y : Int, y ≠ w1.toInt → y ≠ w2.toInt → A' 24 y = A0 24 y) ∧ (∀ y : Int, y ≠ w2.toInt → A' 25 y = A0 25 y) ∧ F' 27 = F0 27 - 1 ∧ sn (A' 24) (A' 25) (A' 26) (la lm w1.toInt w2.toInt) (F0 28) gT (fun x => gE x ∨ (x / 4 = w2.toInt ∧ x % 4 < pr (A0 24 w1.toInt))) (fun _ => False) (F' 27) ∧ (A0 26 (4 * w1.toInt) / 4 ≠ w1.toInt → A' 26 (4 * w2.toInt) = A0 26 (4 * w1.toInt))))) := by
  intro n
  induction n using Nat.strongRecOn with
  | ind n ih =>
    intro lv h F A v1 v2 v3 hn g0 g1 g2 g3 hI hF hA i1 i2 i3 i4 i5 i6
    have hb4 := p1.1.2.1
    have hcb := cn_bd (K := A0 24) (F0 28).toNat
    have hc6 := p1.2.2.2.2.2
    have hp3 := pr_le (A0 24 w1.toInt)
    refine k_iload 27 rfl g3 rfl ?_
    refine k_aload 28 rfl g0 rfl ?_
    refine r_gA hI 31 rfl rfl rfl ?_
    refine k_iload 32 rfl g1 rfl ?_
    refine r_ld 24 hI 33 rfl rfl (by omega) (show v1.toInt < 8010 by omega) rfl (fun x1 (e2 : x1.toInt = A 24 v1.toInt) => ?_)
    refine k_rq hI rfl (m_portsOf  hI.1 ) rfl rfl rfl rfl ?_
    rintro x3 h4 F5 A6 I7 ⟨k9, k10, p8⟩
    replace p8 : x3.toInt = pr x1.toInt := p8
    have k9 := fr1.nil k9
    subst k9
    have k10 := fr2.nil k10
    subst k10
    show am_Ok _ _ _ (36, _, [.inl x3, .inl v3], _, 0, 0) _
    have hpr : x3.toInt = pr (A0 24 w1.toInt) := by rw [p8, e2, i1.1, (i4 _ (by omega)).1]
    by_cases b11 : x3 ≤ v3
    · refine k_c2 97 rfl rfl (if_pos b11) ?_
      have b11 := iv_le.mp b11
      refine k_aload 98 rfl g0 rfl ?_
      refine r_gA I7 101 rfl rfl rfl ?_
      refine k_iload 102 rfl g1 rfl ?_
      refine k_push 103 rfl rfl ?_
      have hc12 : (-1 : Int32).toInt = -1 := by decide
      refine r_st 24 I7 104 rfl rfl (by omega) (show v1.toInt < 8010 by omega) rfl (fun h13 I14 => ?_)
      refine k_aload 105 rfl g0 rfl ?_
      refine k_dup 106 rfl rfl rfl ?_
      refine r_gI I14 109 rfl rfl rfl (fun x15 (e16 : x15.toInt = F 27) => ?_)
      refine k_push 110 rfl rfl ?_
      have hc17 : (1 : Int32).toInt = 1 := by decide
      obtain ⟨x18, q19⟩ : ∃ q : Int32, q = (x15 - (1 : Int32)) := ⟨_, rfl⟩
      have e20 : x18.toInt = x15.toInt - 1 := by rw [q19, iv_sub (by omega) (by omega)]; omega
      refine k_bin x18 111 rfl q19.symm rfl ?_
      refine r_pI I14 114 rfl rfl rfl (fun h21 I22 => ?_)
      exact k_fin rfl rfl ⟨_, _, _, rfl, I22, (fr1.up (by decide) hF), (fr2.up (by decide) hA), ⟨⟨(up2_ne (by omega)).trans i3.1, (up2_r (by decide)).trans i3.2⟩, by rw [← i1.1]; exact up2_eq.trans (by decide), fun y y1 y2 => (up2_ne (by omega)).trans (i4 y y2).1, fun y y2 => (up2_r (by decide)).trans (i4 y y2).2, (show x18.toInt = F0 27 - 1 by omega), av.fin p1 p2 p3.1 p3.2 p4 p5 (by rw [up2_k (by decide), show pr (A0 24 w1.toInt) = v3.toInt by omega]; exact i5) (by rw [← i1.1]; exact up2_eq.trans (by decide)) (fun y y1 y2 => (up2_ne (by omega)).trans (i4 y y2).1) (fun y y2 => (up2_r (by decide)).trans (i4 y y2).2) (show x18.toInt = F0 27 - 1 by omega), fun z => by rw [up2_k (by decide)]; exact i5.head (by omega) z⟩⟩
    · refine k_c2 39 rfl rfl (if_neg b11) ?_
      have b11 := mt iv_le.mpr b11
      have hport : pp (A0 24) (F0 28) gE (fun _ => False) (4 * w1.toInt + v3.toInt) := av.port p3.1 p2 ⟨by omega, by omega⟩
      have hout := av.out p1 p4.1 p5
      refine k_aload 40 rfl g0 rfl ?_
      refine r_gA I7 43 rfl rfl rfl ?_
      refine k_push 44 rfl rfl ?_
      have hc23 : (4 : Int32).toInt = 4 := by decide
      refine k_iload 45 rfl g1 rfl ?_
      obtain ⟨x24, q25⟩ : ∃ q : Int32, q = ((4 : Int32) * v1) := ⟨_, rfl⟩
      have e26 : x24.toInt = 4 * v1.toInt := by rw [q25]; exact iv_mulc 4 (by decide) (by omega) (by omega)
      refine k_bin x24 46 rfl q25.symm rfl ?_
      refine k_iload 47 rfl g3 rfl ?_
      obtain ⟨x27, q28⟩ : ∃ q : Int32, q = (x24 + v3) := ⟨_, rfl⟩
      have e29 : x27.toInt = x24.toInt + v3.toInt := by rw [q28, iv_add (by omega) (by omega)]
      refine k_bin x27 48 rfl q28.symm rfl ?_
      refine r_ld 26 I7 49 rfl rfl (by omega) (show x27.toInt < 32040 by omega) rfl (fun x30 (e31 : x30.toInt = A 26 x27.toInt) => ?_)
      rw [e29] at e31
      rw [e26] at e31
      have hrd : x30.toInt = A0 26 (4 * w1.toInt + v3.toInt) := by rw [e31, i1.1]; exact i5.rd ⟨by omega, by omega⟩ hport (by omega)
      have hol := p1.lt (hrd ▸ (p1.2.2.1 _ hport).1)
      refine k_istore 51 rfl rfl ?_
      refine k_iload 53 rfl gs_eq rfl ?_
      refine k_push 54 rfl rfl ?_
      obtain ⟨x32, q33⟩ : ∃ q : Int32, q = (x30 / (4 : Int32)) := ⟨_, rfl⟩
      have e34 : x32.toInt = x30.toInt / 4 := by rw [q33]; exact iv_div 4 (by decide) (by decide) (by omega)
      refine k_divZ x32 55 rfl (by decide) q33.symm rfl ?_
      refine k_iload 56 rfl (gs_ne rfl rfl g1) rfl ?_
      by_cases b35 : x32 = v1
      · refine k_c2 59 rfl rfl (if_pos b35) ?_
        have b35 := iv_eq.mp b35
        refine k_aload 60 rfl (gs_ne rfl rfl g0) rfl ?_
        refine r_gA I7 63 rfl rfl rfl ?_
        refine k_push 64 rfl rfl ?_
        refine k_iload 65 rfl (gs_ne rfl rfl g2) rfl ?_
        obtain ⟨x36, q37⟩ : ∃ q : Int32, q = ((4 : Int32) * v2) := ⟨_, rfl⟩
        have e38 : x36.toInt = 4 * v2.toInt := by rw [q37]; exact iv_mulc 4 (by decide) (by omega) (by omega)
        refine k_bin x36 66 rfl q37.symm rfl ?_
        refine k_iload 67 rfl (gs_ne rfl rfl g3) rfl ?_
        obtain ⟨x39, q40⟩ : ∃ q : Int32, q = (x36 + v3) := ⟨_, rfl⟩
        have e41 : x39.toInt = x36.toInt + v3.toInt := by rw [q40, iv_add (by omega) (by omega)]
        refine k_bin x39 68 rfl q40.symm rfl ?_
        refine k_push 69 rfl rfl ?_
        refine k_iload 70 rfl (gs_ne rfl rfl g2) rfl ?_
        obtain ⟨x42, q43⟩ : ∃ q : Int32, q = ((4 : Int32) * v2) := ⟨_, rfl⟩
        have e44 : x42.toInt = 4 * v2.toInt := by rw [q43]; exact iv_mulc 4 (by decide) (by omega) (by omega)
        refine k_bin x42 71 rfl q43.symm rfl ?_
        refine k_iload 73 rfl gs_eq rfl ?_
        refine k_push 74 rfl rfl ?_
        obtain ⟨x45, q46⟩ : ∃ q : Int32, q = (x30 - x30 / (4 : Int32) * (4 : Int32)) := ⟨_, rfl⟩
        have e47 : x45.toInt = x30.toInt % 4 := by rw [q46]; exact iv_rem 4 (by decide) (by decide) (by omega)
        refine k_divZ x45 75 rfl (by decide) q46.symm rfl ?_
        obtain ⟨x48, q49⟩ : ∃ q : Int32, q = (x42 + x45) := ⟨_, rfl⟩
        have e50 : x48.toInt = x42.toInt + x45.toInt := by rw [q49, iv_add (by omega) (by omega)]
        refine k_bin x48 76 rfl q49.symm rfl ?_
        refine r_st 26 I7 77 rfl rfl (by omega) (show x39.toInt < 32040 by omega) rfl (fun h51 I52 => ?_)
        refine k_goto 91 rfl rfl ?_
        have hc53 : (1 : Int32).toInt = 1 := by decide
        obtain ⟨x54, q55⟩ : ∃ q : Int32, q = v3 + (1 : Int32) := ⟨_, rfl⟩
        have e56 : x54.toInt = v3.toInt + 1 := by rw [q55, iv_add (by omega) (by omega)]; omega
        refine k_iinc x54 94 rfl (gs_ne rfl rfl g3) q55.symm rfl ?_
        refine k_goto 26 rfl rfl ?_
        exact ih _ (show ((3 - x54.toInt).toNat) < n by omega)  rfl (gs_ne rfl rfl (gs_ne rfl rfl g0)) (gs_ne rfl rfl (gs_ne rfl rfl g1)) (gs_ne rfl rfl (gs_ne rfl rfl g2)) gs_eq I52 hF (fr2.up (by decide) hA) (show v1.toInt = w1.toInt ∧ v2.toInt = w2.toInt by omega) (show 0 ≤ x54.toInt ∧ x54.toInt ≤ pr (A0 24 w1.toInt) by omega) (⟨(up2_r (by decide)).trans i3.1, (up2_r (by decide)).trans i3.2⟩) (fun y hy => ⟨(up2_r (by decide)).trans (i4 y hy).1, (up2_r (by decide)).trans (i4 y hy).2⟩) (by rw [show x54.toInt = v3.toInt + 1 by omega]; exact i5.self p1.2.2.1 ⟨by omega, by omega⟩ hout hport hrd (by omega) (by rw [show 4 * w2.toInt + v3.toInt = x39.toInt by omega, up2_eq]; omega) (fun y hy => up2_ne (by omega))) (show (F 27) = F0 27 by omega)
      · refine k_c2 80 rfl rfl (if_neg b35) ?_
        have b35 := mt iv_eq.mpr b35
        refine k_aload 81 rfl (gs_ne rfl rfl g0) rfl ?_
        refine k_push 82 rfl rfl ?_
        refine k_iload 83 rfl (gs_ne rfl rfl g2) rfl ?_
        obtain ⟨x57, q58⟩ : ∃ q : Int32, q = ((4 : Int32) * v2) := ⟨_, rfl⟩
        have e59 : x57.toInt = 4 * v2.toInt := by rw [q58]; exact iv_mulc 4 (by decide) (by omega) (by omega)
        refine k_bin x57 84 rfl q58.symm rfl ?_
        refine k_iload 85 rfl (gs_ne rfl rfl g3) rfl ?_
        obtain ⟨x60, q61⟩ : ∃ q : Int32, q = (x57 + v3) := ⟨_, rfl⟩
        have e62 : x60.toInt = x57.toInt + v3.toInt := by rw [q61, iv_add (by omega) (by omega)]
        refine k_bin x60 86 rfl q61.symm rfl ?_
        refine k_iload 88 rfl gs_eq rfl ?_
        refine k_rv I7 rfl (m_wires  I7.1 (show 0 ≤ x60.toInt ∧ x60.toInt < 32040 ∧ 0 ≤ x30.toInt ∧ x30.toInt < 32040 by omega)) rfl rfl rfl I7.rc ?_
        rintro h64 F65 A66 I67 ⟨k69, k70, p68⟩
        replace p68 : A66 26 x30.toInt = x60.toInt ∧ (x60.toInt ≠ x30.toInt → A66 26 x60.toInt = x30.toInt) ∧ (∀ x : Int, x ≠ x60.toInt → x ≠ x30.toInt → A66 26 x = (A 26) x) := p68
        obtain ⟨p68a, p68b, p68c⟩ := p68
        have k69 := fr1.nil k69
        subst k69
        show am_Ok _ _ _ (91, _, [], _, 0, 0) _
        have hc71 : (1 : Int32).toInt = 1 := by decide
        obtain ⟨x72, q73⟩ : ∃ q : Int32, q = v3 + (1 : Int32) := ⟨_, rfl⟩
        have e74 : x72.toInt = v3.toInt + 1 := by rw [q73, iv_add (by omega) (by omega)]; omega
        refine k_iinc x72 94 rfl (gs_ne rfl rfl g3) q73.symm rfl ?_
        refine k_goto 26 rfl rfl ?_
        exact ih _ (show ((3 - x72.toInt).toNat) < n by omega)  rfl (gs_ne rfl rfl (gs_ne rfl rfl g0)) (gs_ne rfl rfl (gs_ne rfl rfl g1)) (gs_ne rfl rfl (gs_ne rfl rfl g2)) gs_eq I67 hF (fr2.tr (by decide) hA k70) (show v1.toInt = w1.toInt ∧ v2.toInt = w2.toInt by omega) (show 0 ≤ x72.toInt ∧ x72.toInt ≤ pr (A0 24 w1.toInt) by omega) (by rw [(k70 24 (by decide)), (k70 25 (by decide))]; exact i3) (by rw [(k70 24 (by decide)), (k70 25 (by decide))]; exact i4) (by rw [show x72.toInt = v3.toInt + 1 by omega]; exact i5.other p1.2.2.1 ⟨by omega, by omega⟩ hout hport hrd (by omega) (by rw [p68a]; omega) (fun z => by rw [show 4 * w2.toInt + v3.toInt = x60.toInt by omega]; exact p68b (by omega)) (fun y y1 y2 => p68c y (by omega) y2)) (show (F 27) = F0 27 by omega)
theorem m_goesAside {h0 : am_h} {F0 : rf_f} {A0 : rf_A} {w1 : Int32} {w2 : Int32} {lm : Int → Int} {gT : Int} {gE : Int → Prop} (hR : rf_R h0 F0 A0) (p1 : sn (A0 24) (A0 25) (A0 26) lm (F0 28) gT gE (fun _ => False) (F0 27)) (p2 : 0 < w1.toInt ∧ w1.toInt < F0 28) (p3 : A0 24 w1.toInt ≠ -1 ∧ A0 24 w1.toInt ≠ 0) (p4 : 8000 ≤ w2.toInt ∧ w2.toInt ≤ 8001) (p5 : ∀ x : Int, gE x → x / 4 ≠ w2.toInt) : am_Mt 2 211 [.inr (.inr (some 81)), .inl w1, .inl w2] h0 (rf_V h0 (fun F' A' => fr1 [27] F0 F' ∧ fr2 [24, 25, 26] A0 A' ∧ ((A' 24 w2.toInt = A0 24 w1.toInt ∧ A' 25 w2.toInt = A0 25 w1.toInt) ∧ A' 24 w1.toInt = -1 ∧ (∀ y : Int, y ≠ w1.toInt → y ≠ w2.toInt → A' 24 y = A0 24 y) ∧ (∀ y : Int, y ≠ w2.toInt → A' 25 y = A0 25 y) ∧ F' 27 = F0 27 - 1 ∧ sn (A' 24) (A' 25) (A' 26) (la lm w1.toInt w2.toInt) (F0 28) gT (fun x => gE x ∨ (x / 4 = w2.toInt ∧ x % 4 < pr (A0 24 w1.toInt))) (fun _ => False) (F' 27) ∧ (A0 26 (4 * w1.toInt) / 4 ≠ w1.toInt → A' 26 (4 * w2.toInt) = A0 26 (4 * w1.toInt))))) := by
  refine am_Mt.of (D := 1) ?_
  have hI : rf_I h0 h0 F0 A0 := rf_I.start hR
  have hb4 := p1.1.2.1
  have hcb := cn_bd (K := A0 24) (F0 28).toNat
  have hc6 := p1.2.2.2.2.2
  refine k_aload 1 rfl rfl rfl ?_
  refine r_gA hI 4 rfl rfl rfl ?_
  refine k_iload 5 rfl rfl rfl ?_
  refine k_aload 6 rfl rfl rfl ?_
  refine r_gA hI 9 rfl rfl rfl ?_
  refine k_iload 10 rfl rfl rfl ?_
  refine r_ld 24 hI 11 rfl rfl (by omega) (show w1.toInt < 8010 by omega) rfl (fun x75 (e76 : x75.toInt = A0 24 w1.toInt) => ?_)
  have hk0 := e76
  refine r_st 24 hI 12 rfl rfl (by omega) (show w2.toInt < 8010 by omega) rfl (fun h77 I78 => ?_)
  refine k_aload 13 rfl rfl rfl ?_
  refine r_gA I78 16 rfl rfl rfl ?_
  refine k_iload 17 rfl rfl rfl ?_
  refine k_aload 18 rfl rfl rfl ?_
  refine r_gA I78 21 rfl rfl rfl ?_
  refine k_iload 22 rfl rfl rfl ?_
  refine r_ld 25 I78 23 rfl rfl (by omega) (show w1.toInt < 8010 by omega) rfl (fun x79 (e80 : x79.toInt = A0 25 w1.toInt) => ?_)
  have hl0 := e80
  refine r_st 25 I78 24 rfl rfl (by omega) (show w2.toInt < 8010 by omega) rfl (fun h81 I82 => ?_)
  refine k_push 25 rfl rfl ?_
  have hc83 : (0 : Int32).toInt = 0 := by decide
  refine k_istore 26 rfl rfl ?_
  exact b_X10_goesAside_26 (lm := lm) (gT := gT) (gE := gE) (w1 := w1) (w2 := w2) p1 p2 p3 p4 p5 _  rfl (gs_ne rfl rfl rfl) (gs_ne rfl rfl rfl) (gs_ne rfl rfl rfl) gs_eq I82 fr1.rf (fr2.up (by decide) (fr2.up (by decide) fr2.rf)) (show w1.toInt = w1.toInt ∧ w2.toInt = w2.toInt by omega) (show 0 ≤ (0 : Int32).toInt ∧ (0 : Int32).toInt ≤ pr (A0 24 w1.toInt) by have hp3 := pr_le (A0 24 w1.toInt); omega) (⟨(up2_r (by decide)).trans (up2_eq.trans hk0), up2_eq.trans hl0⟩) (fun y hy => ⟨(up2_r (by decide)).trans (up2_ne hy), (up2_ne hy).trans (up2_r (by decide))⟩) (by rw [up2_k (by decide), up2_k (by decide), show (0 : Int32).toInt = 0 by decide]; exact av.zero) (show (F0 27) = F0 27 by omega)
theorem tl_6 {l a b c : Int} : tl 6 l a b c := ⟨by omega, by omega, by omega, by omega, by omega⟩
theorem er_no {x y : Int} : False ↔ (False ∨ (y / 4 = x ∧ 0 < y % 4 ∧ y % 4 < pr 6)) := ⟨fun z => z.elim, fun z => by
  rcases z with z | z
  · exact z
  · have h : pr 6 = 1 := by decide
    omega⟩
theorem er_iff {P : Int → Prop} {g i p y : Int} (hi : 0 < i ∧ i < 4) (hp : p = 4 * g + i) : (P y ∧ ¬ (y / 4 = g ∧ 0 < y % 4 ∧ y % 4 < i + 1)) ↔ ((P y ∧ ¬ (y / 4 = g ∧ 0 < y % 4 ∧ y % 4 < i)) ∧ y ≠ p) := by
  constructor
  · rintro ⟨e1, e2⟩
    exact ⟨⟨e1, by omega⟩, by omega⟩
  · rintro ⟨⟨e1, e2⟩, e3⟩
    exact ⟨e1, by omega⟩
theorem b_X10_erases_2 {h0 : am_h} {F0 : rf_f} {A0 : rf_A} {w1 : Int32} {lm : Int → Int} {gT : Int} {gE : Int → Prop} (p1 : sn (A0 24) (A0 25) (A0 26) lm (F0 28) gT gE (fun _ => False) (F0 27)) (p2 : 8000 ≤ w1.toInt ∧ w1.toInt ≤ 8001 ∧ F0 27 + pr (A0 24 w1.toInt) ≤ 401) (p3 : ∀ i : Int, 0 < i → i < pr (A0 24 w1.toInt) → gE (4 * w1.toInt + i)) (p4 : A0 26 32000 = 32004) : ∀ (n : Nat) {lv : am_l} {h : am_h} {F : rf_f} {A : rf_A} {v1 : Int32} {v2 : Int32} {lm1 : Int → Int}, ((3 - v2.toInt).toNat) = n → am_get lv 0 = some (.inr (.inr (some 81))) → am_get lv 1 = some (.inl v1) → am_get lv 2 = some (.inl v2) → rf_I h0 h F A → fr1 [28, 27] F0 F → fr2 [24, 25, 26] A0 A → (v1.toInt = w1.toInt) → (1 ≤ v2.toInt ∧ v2.toInt ≤ pr (A0 24 w1.toInt)) → (sn (A 24) (A 25) (A 26) lm1 (F 28) gT (fun x => gE x ∧ ¬ (x / 4 = w1.toInt ∧ 0 < x % 4 ∧ x % 4 < v2.toInt)) (fun _ => False) (F 27)) → (F 27 = F0 27 + v2.toInt - 1) → (A 24 w1.toInt = A0 24 w1.toInt) → (A 26 32000 = 32004) → am_Ok am_G 2 214 (2, lv, [], h, 0, 0) (rf_V h0 (fun F' A' => fr1 [28, 27] F0 F' ∧ fr2 [24, 25, 26] A0 A' ∧ ((∃ lm', sn (A' 24) (A' 25) (A' 26) lm' (F' 28) gT (fun x => gE x ∧ ¬ (x / 4 = w1.toInt ∧ 0 < x % 4 ∧ x % 4 < pr (A0 24 w1.toInt))) (fun _ => False) (F' 27)) ∧ A' 26 32000 = 32004 ∧ F' 27 ≤ 400))) := by
  intro n
  induction n using Nat.strongRecOn with
  | ind n ih =>
    intro lv h F A v1 v2 lm1 hn g0 g1 g2 hI hF hA i1 i2 i3 i4 i5 i6
    have hp3 := pr_le (A0 24 w1.toInt)
    refine k_iload 3 rfl g2 rfl ?_
    refine k_aload 4 rfl g0 rfl ?_
    refine r_gA hI 7 rfl rfl rfl ?_
    refine k_iload 8 rfl g1 rfl ?_
    refine r_ld 24 hI 9 rfl rfl (by omega) (show v1.toInt < 8010 by omega) rfl (fun x1 (e2 : x1.toInt = A 24 v1.toInt) => ?_)
    refine k_rq hI rfl (m_portsOf  hI.1 ) rfl rfl rfl rfl ?_
    rintro x3 h4 F5 A6 I7 ⟨k9, k10, p8⟩
    replace p8 : x3.toInt = pr x1.toInt := p8
    have k9 := fr1.nil k9
    subst k9
    have k10 := fr2.nil k10
    subst k10
    show am_Ok _ _ _ (12, _, [.inl x3, .inl v2], _, 0, 0) _
    have hpr : x3.toInt = pr (A0 24 w1.toInt) := by rw [p8, e2, i1, i5]
    by_cases b11 : x3 ≤ v2
    · refine k_c2 39 rfl rfl (if_pos b11) ?_
      have b11 := iv_le.mp b11
      exact k_fin rfl rfl ⟨_, _, _, rfl, I7, hF, hA, ⟨⟨lm1, by rw [show pr (A0 24 w1.toInt) = v2.toInt by omega]; exact i3⟩, i6, (show F 27 ≤ 400 by omega)⟩⟩
    · refine k_c2 15 rfl rfl (if_neg b11) ?_
      have b11 := mt iv_le.mpr b11
      have hE9 : gE (4 * w1.toInt + v2.toInt) ∧ ¬ ((4 * w1.toInt + v2.toInt) / 4 = w1.toInt ∧ 0 < (4 * w1.toInt + v2.toInt) % 4 ∧ (4 * w1.toInt + v2.toInt) % 4 < v2.toInt) := ⟨p3 _ (by omega) (by omega), by omega⟩
      have hw9 := i3.lt (i3.2.2.1 (4 * w1.toInt + v2.toInt) (Or.inr hE9)).1
      have hL9 := i3.1.2.2.2.2 0 (by decide) (by have := i3.1.1; omega)
      refine k_aload 16 rfl g0 rfl ?_
      refine k_push 17 rfl rfl ?_
      have hc12 : (4 : Int32).toInt = 4 := by decide
      refine k_iload 18 rfl g1 rfl ?_
      obtain ⟨x13, q14⟩ : ∃ q : Int32, q = ((4 : Int32) * v1) := ⟨_, rfl⟩
      have e15 : x13.toInt = 4 * v1.toInt := by rw [q14]; exact iv_mulc 4 (by decide) (by omega) (by omega)
      refine k_bin x13 19 rfl q14.symm rfl ?_
      refine k_iload 20 rfl g2 rfl ?_
      obtain ⟨x16, q17⟩ : ∃ q : Int32, q = (x13 + v2) := ⟨_, rfl⟩
      have e18 : x16.toInt = x13.toInt + v2.toInt := by rw [q17, iv_add (by omega) (by omega)]
      refine k_bin x16 21 rfl q17.symm rfl ?_
      refine k_push 22 rfl rfl ?_
      refine k_aload 23 rfl g0 rfl ?_
      refine k_push 25 rfl rfl ?_
      have hc19 : (6 : Int32).toInt = 6 := by decide
      refine k_push 26 rfl rfl ?_
      have hc20 : (0 : Int32).toInt = 0 := by decide
      obtain ⟨r1, r2, r3, r4, r5⟩ := i3.room (show F 27 < 400 by omega)
      refine k_rq I7 rfl (m_newNode (gB := 400) I7.1 (show 0 ≤ (F 28) ∧ (F 28) ≤ (400) ∧ (400) ≤ 8000 ∧ 0 ≤ (F 27) ∧ (F 27) ≤ 10000 by omega) (show (∀ q : Int, 0 ≤ q → q < (F 28) → (A 24) q ≠ -1) → (F 28) < (400) from r5)) rfl rfl rfl I7.rc ?_
      rintro x21 h22 F23 A24 I25 ⟨k27, k28, p26⟩
      replace p26 : (0 ≤ x21.toInt ∧ F23 28 ≤ (400) ∧ F23 27 = (F 27) + 1) ∧ (A24 24 x21.toInt = (6 : Int32).toInt ∧ A24 25 x21.toInt = (0 : Int32).toInt) ∧ (∀ y : Int, y ≠ x21.toInt → A24 24 y = (A 24) y ∧ A24 25 y = (A 25) y) ∧ ((x21.toInt = (F 28) ∧ F23 28 = (F 28) + 1) ∨ (x21.toInt < (F 28) ∧ (A 24) x21.toInt = -1 ∧ F23 28 = (F 28))) := p26
      obtain ⟨p26a, p26b, p26c, p26d⟩ := p26
      show am_Ok _ _ _ (29, _, [.inl x21, .inl (4 : Int32), .inl x16, .inr (.inr (some 81))], _, 0, 0) _
      obtain ⟨xn, hxn⟩ : ∃ z : Int, z = x21.toInt := ⟨_, rfl⟩
      rw [← hxn] at p26a p26b p26c p26d
      obtain ⟨x29, q30⟩ : ∃ q : Int32, q = ((4 : Int32) * x21) := ⟨_, rfl⟩
      have e31 : x29.toInt = 4 * x21.toInt := by rw [q30]; exact iv_mulc 4 (by decide) (by omega) (by omega)
      refine k_bin x29 30 rfl q30.symm rfl ?_
      have hq26 : (A24 26) = A 26 := (k28 26 (by decide))
      refine k_rv I25 rfl (m_inPlaceOf  I25.1 (show 0 ≤ x16.toInt ∧ x16.toInt < 32040 ∧ 0 ≤ x29.toInt ∧ x29.toInt < 32040 by omega) (show 0 ≤ (A24 26) x16.toInt ∧ (A24 26) x16.toInt < 32040 by rw [hq26, show x16.toInt = 4 * w1.toInt + v2.toInt by omega]; omega)) rfl rfl rfl I25.rc ?_
      rintro h33 F34 A35 I36 ⟨k38, k39, p37⟩
      replace p37 : A35 26 ((A24 26) x16.toInt) = x29.toInt ∧ (x29.toInt ≠ (A24 26) x16.toInt → A35 26 x29.toInt = (A24 26) x16.toInt) ∧ (∀ x : Int, x ≠ x29.toInt → x ≠ (A24 26) x16.toInt → A35 26 x = (A24 26) x) := p37
      obtain ⟨p37a, p37b, p37c⟩ := p37
      have k38 := fr1.nil k38
      subst k38
      show am_Ok _ _ _ (33, _, [], _, 0, 0) _
      rw [hq26] at p37a p37b p37c
      have hsn9 := i3.put (p := x16.toInt) (q := x29.toInt) (k := 6) (l := 0) (l1 := 0) (l2 := 0) p26a.1 p26a.2.1 ⟨p26b.1.trans (by decide), p26b.2.trans (by decide)⟩ p26c p26d (by decide) (by omega) tl_6 p26a.2.2 (by rw [show x16.toInt = 4 * w1.toInt + v2.toInt by omega]; exact hE9) rfl (by omega) p37a p37b p37c
      have hc40 : (1 : Int32).toInt = 1 := by decide
      obtain ⟨x41, q42⟩ : ∃ q : Int32, q = v2 + (1 : Int32) := ⟨_, rfl⟩
      have e43 : x41.toInt = v2.toInt + 1 := by rw [q42, iv_add (by omega) (by omega)]; omega
      refine k_iinc x41 36 rfl g2 q42.symm rfl ?_
      refine k_goto 2 rfl rfl ?_
      exact ih _ (show ((3 - x41.toInt).toNat) < n by omega) (lm1 := ln lm1 xn (lm1 x16.toInt) 0 0) rfl (gs_ne rfl rfl g0) (gs_ne rfl rfl g1) gs_eq I36 (fr1.tr (by decide) hF k27) (fr2.tr (by decide) (fr2.tr (by decide) hA k28) k39) (show v1.toInt = w1.toInt by omega) (show 1 ≤ x41.toInt ∧ x41.toInt ≤ pr (A0 24 w1.toInt) by omega) (by rw [(k39 24 (by decide)), (k39 25 (by decide)), show x41.toInt = v2.toInt + 1 by omega]; exact hsn9.iff (fun y => er_iff (by omega) (by omega)) (fun y => er_no)) (show (F23 27) = F0 27 + x41.toInt - 1 by omega) (by rw [(k39 24 (by decide))]; exact (p26c _ (by omega)).1.trans i5) (show (A35 26) 32000 = 32004 from (p37c 32000 (by omega) (fun z => i3.keep hE9 i6 (by omega) (by rw [show 4 * w1.toInt + v2.toInt = x16.toInt by omega]; exact z.symm))).trans i6)
theorem m_erases {h0 : am_h} {F0 : rf_f} {A0 : rf_A} {w1 : Int32} {lm : Int → Int} {gT : Int} {gE : Int → Prop} (hR : rf_R h0 F0 A0) (p1 : sn (A0 24) (A0 25) (A0 26) lm (F0 28) gT gE (fun _ => False) (F0 27)) (p2 : 8000 ≤ w1.toInt ∧ w1.toInt ≤ 8001 ∧ F0 27 + pr (A0 24 w1.toInt) ≤ 401) (p3 : ∀ i : Int, 0 < i → i < pr (A0 24 w1.toInt) → gE (4 * w1.toInt + i)) (p4 : A0 26 32000 = 32004) : am_Mt 3 214 [.inr (.inr (some 81)), .inl w1] h0 (rf_V h0 (fun F' A' => fr1 [28, 27] F0 F' ∧ fr2 [24, 25, 26] A0 A' ∧ ((∃ lm', sn (A' 24) (A' 25) (A' 26) lm' (F' 28) gT (fun x => gE x ∧ ¬ (x / 4 = w1.toInt ∧ 0 < x % 4 ∧ x % 4 < pr (A0 24 w1.toInt))) (fun _ => False) (F' 27)) ∧ A' 26 32000 = 32004 ∧ F' 27 ≤ 400))) := by
  refine am_Mt.of (D := 2) ?_
  have hI : rf_I h0 h0 F0 A0 := rf_I.start hR
  have hp3 := pr_le (A0 24 w1.toInt)
  refine k_push 1 rfl rfl ?_
  have hc44 : (1 : Int32).toInt = 1 := by decide
  refine k_istore 2 rfl rfl ?_
  exact b_X10_erases_2 (lm := lm) (gT := gT) (gE := gE) (w1 := w1) p1 p2 p3 p4 _ (lm1 := lm) rfl (gs_ne rfl rfl rfl) (gs_ne rfl rfl rfl) gs_eq hI fr1.rf fr2.rf (show w1.toInt = w1.toInt by omega) (show 1 ≤ (1 : Int32).toInt ∧ (1 : Int32).toInt ≤ pr (A0 24 w1.toInt) by omega) (show sn ((A0 24)) ((A0 25)) ((A0 26)) (lm) ((F0 28)) gT (fun x => gE x ∧ ¬ (x / 4 = w1.toInt ∧ 0 < x % 4 ∧ x % 4 < (1 : Int32).toInt)) (fun _ => False) ((F0 27)) from p1.iff (fun y => ⟨fun e => e.1, fun e => ⟨e, fun z => by omega⟩⟩) (fun y => Iff.rfl)) (show (F0 27) = F0 27 + (1 : Int32).toInt - 1 by omega) (show (A0 24) w1.toInt = A0 24 w1.toInt from rfl) (show (A0 26) 32000 = 32004 from p4)
end
