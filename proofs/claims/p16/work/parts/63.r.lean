section
theorem wl_47 {A : rf_A} {gk : Nat} {p v : Int} (h : ∀ q : Int, 0 ≤ q → q < gk → A 47 q ≤ 0) (hp : p = gk) (hv : v ≤ 0) : ∀ q : Int, 0 ≤ q → q < ((gk + 1 : Nat) : Int) → up2 A 47 p v 47 q ≤ 0 := fun q q1 q2 => by
  rw [up2_if]
  by_cases e : q = p
  · rw [if_pos e]
    exact hv
  · rw [if_neg e]
    exact h q q1 (by omega)
theorem b_X10_walks_66 {h0 : am_h} {F0 : rf_f} {A0 : rf_A} {lm : Int → Int} {gT : Int} (p1 : nn (A0 24) (A0 25) (F0 28) gT) (p2 : nw (A0 24) (A0 25) (A0 26) lm (F0 28)) (p5 : wr A0) (p6 : wq A0) : ∀ (n : Nat) {lv : am_l} {h : am_h} {F : rf_f} {A : rf_A} {v1 : Int32} {gn gw : Nat}, (4000 - gw) = n → am_get lv 0 = some (.inr (.inr (some 81))) → am_get lv 1 = some (.inl v1) → rf_I h0 h F A → fr1 [59, 55, 50, 48, 62, 63, 64, 65] F0 F → fr2 [1, 2, 56, 57, 58, 61, 49, 51, 52, 53, 54, 60, 43, 44, 45, 46, 47] A0 A → (F 62 = gw ∧ gw ≤ 4000) → (wr A) → (wq A) → (0 ≤ F 48 ∧ F 48 ≤ gw) → (∀ q : Int, 0 ≤ q → q < 16384 → A 47 q ≤ F 48) → (∀ q : Int, q ≠ 0 → A 2 q = A0 2 q) → (∀ q : Int, 400 ≤ q → A 1 q = A0 1 q) → (0 ≤ F 50 ∧ F 50 ≤ 202 + gw) → (F 63 = -1 ∨ ∃ m, act (A0 24) (A0 26) (F0 28) (F 63) m) → (A 2 0 = gn ∧ gn ≤ 400) → (v1.toInt = -1 ∨ (v1.toInt = -2 ∧ wf (A 1) 0 gn) ∨ ((lp (A0 24) (F0 28) v1.toInt ∧ F 50 ≤ lm v1.toInt) ∧ (0 ≤ F 55 ∧ F 55 ≤ gn ∧ 0 ≤ F 59 ∧ F 59 ≤ gn) ∧ mk (A 1) gn (F 55 + 1) ∧ wk (A0 24) (A0 25) (F0 28) (F 55) (A 51) (A 52) (A 54) gn)) → am_Ok am_G 5 234 (66, lv, [], h, 0, 0) (rf_V h0 (fun F' A' => fr1 [59, 55, 50, 48, 62, 63, 64, 65] F0 F' ∧ fr2 [1, 2, 56, 57, 58, 61, 49, 51, 52, 53, 54, 60, 43, 44, 45, 46, 47] A0 A' ∧ (wr A' ∧ wq A' ∧ (∀ q : Int, q ≠ 0 → A' 2 q = A0 2 q) ∧ (∀ q : Int, 400 ≤ q → A' 1 q = A0 1 q) ∧ (∃ n' : Nat, n' ≤ 400 ∧ A' 2 0 = n' ∧ (F' 65 = 1 → wf (A' 1) 0 n')) ∧ (F' 65 = 0 ∨ F' 65 = 1) ∧ (F' 63 = -1 ∨ ∃ m, act (A0 24) (A0 26) (F0 28) (F' 63) m)))) := by
  intro n
  induction n using Nat.strongRecOn with
  | ind n ih =>
    intro lv h F A v1 gn gw hn g0 g1 hI hF hA i0 i1 i2 i3 i4 i5 i6 i7 i8 i9 ia
    refine k_iload 67 rfl g1 rfl ?_
    by_cases b1 : v1 < 0
    · refine k_c1 173 rfl rfl (if_pos b1) ?_
      have b1 := iv_lt0.mp b1
      refine k_aload 174 rfl g0 rfl ?_
      refine k_iload 175 rfl g1 rfl ?_
      refine k_push 177 rfl rfl ?_
      have hc2 : (-2 : Int32).toInt = -2 := by decide
      by_cases b3 : v1 = (-2 : Int32)
      · refine k_c2 180 rfl rfl (if_pos b3) ?_
        have b3 := iv_eq.mp b3
        have hwf : wf (A 1) 0 gn := wl_wf ia (by omega)
        refine k_push 181 rfl rfl ?_
        have hc4 : (1 : Int32).toInt = 1 := by decide
        refine k_goto 185 rfl rfl ?_
        refine r_pZ hI 188 rfl rfl (Or.inr rfl) rfl (fun h5 I6 => ?_)
        refine k_aload 189 rfl g0 rfl ?_
        refine r_gZ I6 192 rfl rfl rfl (fun x7 (e8 : x7.toInt = (1 : Int32).toInt) z9 => ?_)
        by_cases b10 : x7 = 0
        · refine k_c1 195 rfl rfl (if_pos b10) ?_
          have b10 := iv_eq0.mp b10
          refine k_aload 196 rfl g0 rfl ?_
          refine r_gA I6 199 rfl rfl rfl ?_
          refine k_push 200 rfl rfl ?_
          have hc11 : (0 : Int32).toInt = 0 := by decide
          refine k_push 201 rfl rfl ?_
          refine r_st 2 I6 202 rfl rfl (by omega) (show (0 : Int32).toInt < 3 by omega) rfl (fun h12 I13 => ?_)
          exact k_fin rfl rfl ⟨_, _, _, rfl, I13, (fr1.up (by decide) hF), (fr2.up (by decide) hA), (by first | exact ⟨i1, i2, i5, i6, ⟨gn, i9.2, i9.1, fun _ => hwf⟩, Or.inr (show (1 : Int32).toInt = 1 by decide), i8⟩ | exact ⟨i1.o (by decide), i2.o (by decide), fun q hq => by rw [up2_if, if_neg (by omega)]; exact i5 q hq, fun q hq => by rw [up2_r (by decide)]; exact i6 q hq, ⟨0, by omega, by rw [up2_if, if_pos (by decide)]; decide, fun z => absurd z (show ¬ (0 : Int32).toInt = 1 by decide)⟩, Or.inl (show (0 : Int32).toInt = 0 by decide), i8⟩ | (exfalso; omega))⟩
        · refine k_c1 202 rfl rfl (if_neg b10) ?_
          have b10 := mt iv_eq0.mpr b10
          exact k_fin rfl rfl ⟨_, _, _, rfl, I6, (fr1.up (by decide) hF), hA, (by first | exact ⟨i1, i2, i5, i6, ⟨gn, i9.2, i9.1, fun _ => hwf⟩, Or.inr (show (1 : Int32).toInt = 1 by decide), i8⟩ | exact ⟨i1.o (by decide), i2.o (by decide), fun q hq => by rw [up2_if, if_neg (by omega)]; exact i5 q hq, fun q hq => by rw [up2_r (by decide)]; exact i6 q hq, ⟨0, by omega, by rw [up2_if, if_pos (by decide)]; decide, fun z => absurd z (show ¬ (0 : Int32).toInt = 1 by decide)⟩, Or.inl (show (0 : Int32).toInt = 0 by decide), i8⟩ | (exfalso; omega))⟩
      · refine k_c2 184 rfl rfl (if_neg b3) ?_
        have b3 := mt iv_eq.mpr b3
        refine k_push 185 rfl rfl ?_
        have hc14 : (0 : Int32).toInt = 0 := by decide
        refine r_pZ hI 188 rfl rfl (Or.inl rfl) rfl (fun h15 I16 => ?_)
        refine k_aload 189 rfl g0 rfl ?_
        refine r_gZ I16 192 rfl rfl rfl (fun x17 (e18 : x17.toInt = (0 : Int32).toInt) z19 => ?_)
        by_cases b20 : x17 = 0
        · refine k_c1 195 rfl rfl (if_pos b20) ?_
          have b20 := iv_eq0.mp b20
          refine k_aload 196 rfl g0 rfl ?_
          refine r_gA I16 199 rfl rfl rfl ?_
          refine k_push 200 rfl rfl ?_
          refine k_push 201 rfl rfl ?_
          refine r_st 2 I16 202 rfl rfl (by omega) (show (0 : Int32).toInt < 3 by omega) rfl (fun h21 I22 => ?_)
          exact k_fin rfl rfl ⟨_, _, _, rfl, I22, (fr1.up (by decide) hF), (fr2.up (by decide) hA), (by first | exact ⟨i1, i2, i5, i6, ⟨gn, i9.2, i9.1, fun _ => hwf⟩, Or.inr (show (1 : Int32).toInt = 1 by decide), i8⟩ | exact ⟨i1.o (by decide), i2.o (by decide), fun q hq => by rw [up2_if, if_neg (by omega)]; exact i5 q hq, fun q hq => by rw [up2_r (by decide)]; exact i6 q hq, ⟨0, by omega, by rw [up2_if, if_pos (by decide)]; decide, fun z => absurd z (show ¬ (0 : Int32).toInt = 1 by decide)⟩, Or.inl (show (0 : Int32).toInt = 0 by decide), i8⟩ | (exfalso; omega))⟩
        · refine k_c1 202 rfl rfl (if_neg b20) ?_
          have b20 := mt iv_eq0.mpr b20
          exact k_fin rfl rfl ⟨_, _, _, rfl, I16, (fr1.up (by decide) hF), hA, (by first | exact ⟨i1, i2, i5, i6, ⟨gn, i9.2, i9.1, fun _ => hwf⟩, Or.inr (show (1 : Int32).toInt = 1 by decide), i8⟩ | exact ⟨i1.o (by decide), i2.o (by decide), fun q hq => by rw [up2_if, if_neg (by omega)]; exact i5 q hq, fun q hq => by rw [up2_r (by decide)]; exact i6 q hq, ⟨0, by omega, by rw [up2_if, if_pos (by decide)]; decide, fun z => absurd z (show ¬ (0 : Int32).toInt = 1 by decide)⟩, Or.inl (show (0 : Int32).toInt = 0 by decide), i8⟩ | (exfalso; omega))⟩
    · refine k_c1 70 rfl rfl (if_neg b1) ?_
      have b1 := mt iv_lt0.mpr b1
      refine k_aload 71 rfl g0 rfl ?_
      refine r_gI hI 74 rfl rfl rfl (fun x23 (e24 : x23.toInt = F 62) => ?_)
      refine k_push 77 rfl rfl ?_
      have hc25 : (4000 : Int32).toInt = 4000 := by decide
      by_cases b26 : (4000 : Int32) ≤ x23
      · refine k_c2 173 rfl rfl (if_pos b26) ?_
        have b26 := iv_le.mp b26
        refine k_aload 174 rfl g0 rfl ?_
        refine k_iload 175 rfl g1 rfl ?_
        refine k_push 177 rfl rfl ?_
        have hc27 : (-2 : Int32).toInt = -2 := by decide
        by_cases b28 : v1 = (-2 : Int32)
        · refine k_c2 180 rfl rfl (if_pos b28) ?_
          have b28 := iv_eq.mp b28
          have hwf : wf (A 1) 0 gn := wl_wf ia (by omega)
          refine k_push 181 rfl rfl ?_
          have hc29 : (1 : Int32).toInt = 1 := by decide
          refine k_goto 185 rfl rfl ?_
          refine r_pZ hI 188 rfl rfl (Or.inr rfl) rfl (fun h30 I31 => ?_)
          refine k_aload 189 rfl g0 rfl ?_
          refine r_gZ I31 192 rfl rfl rfl (fun x32 (e33 : x32.toInt = (1 : Int32).toInt) z34 => ?_)
          by_cases b35 : x32 = 0
          · refine k_c1 195 rfl rfl (if_pos b35) ?_
            have b35 := iv_eq0.mp b35
            refine k_aload 196 rfl g0 rfl ?_
            refine r_gA I31 199 rfl rfl rfl ?_
            refine k_push 200 rfl rfl ?_
            have hc36 : (0 : Int32).toInt = 0 := by decide
            refine k_push 201 rfl rfl ?_
            refine r_st 2 I31 202 rfl rfl (by omega) (show (0 : Int32).toInt < 3 by omega) rfl (fun h37 I38 => ?_)
            exact k_fin rfl rfl ⟨_, _, _, rfl, I38, (fr1.up (by decide) hF), (fr2.up (by decide) hA), (by first | exact ⟨i1, i2, i5, i6, ⟨gn, i9.2, i9.1, fun _ => hwf⟩, Or.inr (show (1 : Int32).toInt = 1 by decide), i8⟩ | exact ⟨i1.o (by decide), i2.o (by decide), fun q hq => by rw [up2_if, if_neg (by omega)]; exact i5 q hq, fun q hq => by rw [up2_r (by decide)]; exact i6 q hq, ⟨0, by omega, by rw [up2_if, if_pos (by decide)]; decide, fun z => absurd z (show ¬ (0 : Int32).toInt = 1 by decide)⟩, Or.inl (show (0 : Int32).toInt = 0 by decide), i8⟩ | (exfalso; omega))⟩
          · refine k_c1 202 rfl rfl (if_neg b35) ?_
            have b35 := mt iv_eq0.mpr b35
            exact k_fin rfl rfl ⟨_, _, _, rfl, I31, (fr1.up (by decide) hF), hA, (by first | exact ⟨i1, i2, i5, i6, ⟨gn, i9.2, i9.1, fun _ => hwf⟩, Or.inr (show (1 : Int32).toInt = 1 by decide), i8⟩ | exact ⟨i1.o (by decide), i2.o (by decide), fun q hq => by rw [up2_if, if_neg (by omega)]; exact i5 q hq, fun q hq => by rw [up2_r (by decide)]; exact i6 q hq, ⟨0, by omega, by rw [up2_if, if_pos (by decide)]; decide, fun z => absurd z (show ¬ (0 : Int32).toInt = 1 by decide)⟩, Or.inl (show (0 : Int32).toInt = 0 by decide), i8⟩ | (exfalso; omega))⟩
        · refine k_c2 184 rfl rfl (if_neg b28) ?_
          have b28 := mt iv_eq.mpr b28
          refine k_push 185 rfl rfl ?_
          have hc39 : (0 : Int32).toInt = 0 := by decide
          refine r_pZ hI 188 rfl rfl (Or.inl rfl) rfl (fun h40 I41 => ?_)
          refine k_aload 189 rfl g0 rfl ?_
          refine r_gZ I41 192 rfl rfl rfl (fun x42 (e43 : x42.toInt = (0 : Int32).toInt) z44 => ?_)
          by_cases b45 : x42 = 0
          · refine k_c1 195 rfl rfl (if_pos b45) ?_
            have b45 := iv_eq0.mp b45
            refine k_aload 196 rfl g0 rfl ?_
            refine r_gA I41 199 rfl rfl rfl ?_
            refine k_push 200 rfl rfl ?_
            refine k_push 201 rfl rfl ?_
            refine r_st 2 I41 202 rfl rfl (by omega) (show (0 : Int32).toInt < 3 by omega) rfl (fun h46 I47 => ?_)
            exact k_fin rfl rfl ⟨_, _, _, rfl, I47, (fr1.up (by decide) hF), (fr2.up (by decide) hA), (by first | exact ⟨i1, i2, i5, i6, ⟨gn, i9.2, i9.1, fun _ => hwf⟩, Or.inr (show (1 : Int32).toInt = 1 by decide), i8⟩ | exact ⟨i1.o (by decide), i2.o (by decide), fun q hq => by rw [up2_if, if_neg (by omega)]; exact i5 q hq, fun q hq => by rw [up2_r (by decide)]; exact i6 q hq, ⟨0, by omega, by rw [up2_if, if_pos (by decide)]; decide, fun z => absurd z (show ¬ (0 : Int32).toInt = 1 by decide)⟩, Or.inl (show (0 : Int32).toInt = 0 by decide), i8⟩ | (exfalso; omega))⟩
          · refine k_c1 202 rfl rfl (if_neg b45) ?_
            have b45 := mt iv_eq0.mpr b45
            exact k_fin rfl rfl ⟨_, _, _, rfl, I41, (fr1.up (by decide) hF), hA, (by first | exact ⟨i1, i2, i5, i6, ⟨gn, i9.2, i9.1, fun _ => hwf⟩, Or.inr (show (1 : Int32).toInt = 1 by decide), i8⟩ | exact ⟨i1.o (by decide), i2.o (by decide), fun q hq => by rw [up2_if, if_neg (by omega)]; exact i5 q hq, fun q hq => by rw [up2_r (by decide)]; exact i6 q hq, ⟨0, by omega, by rw [up2_if, if_pos (by decide)]; decide, fun z => absurd z (show ¬ (0 : Int32).toInt = 1 by decide)⟩, Or.inl (show (0 : Int32).toInt = 0 by decide), i8⟩ | (exfalso; omega))⟩
      · refine k_c2 80 rfl rfl (if_neg b26) ?_
        have b26 := mt iv_le.mpr b26
        obtain ⟨⟨f1, f2⟩, f3, f4, f5⟩ := (ia.resolve_left (by omega)).resolve_left (fun z => by omega)
        have s1 := f1.1
        have s2 := f1.2.1
        have hb4 := p1.2.1
        refine k_aload 81 rfl g0 rfl ?_
        refine k_dup 82 rfl rfl rfl ?_
        refine r_gI hI 85 rfl rfl rfl (fun x48 (e49 : x48.toInt = F 62) => ?_)
        refine k_push 86 rfl rfl ?_
        have hc50 : (1 : Int32).toInt = 1 := by decide
        obtain ⟨x51, q52⟩ : ∃ q : Int32, q = (x48 + (1 : Int32)) := ⟨_, rfl⟩
        have e53 : x51.toInt = x48.toInt + 1 := by rw [q52, iv_add (by omega) (by omega)]; omega
        refine k_bin x51 87 rfl q52.symm rfl ?_
        refine r_pI hI 90 rfl rfl rfl (fun h54 I55 => ?_)
        refine k_aload 91 rfl g0 rfl ?_
        refine r_gA I55 94 rfl rfl rfl ?_
        refine k_iload 95 rfl g1 rfl ?_
        refine r_ld 26 I55 96 rfl rfl (by omega) (show v1.toInt < 32040 by omega) rfl (fun x56 (e57 : x56.toInt = A 26 v1.toInt) => ?_)
        have e58 : A 26 = A0 26 := hA 26 (by decide)
        rw [e58] at e57
        refine k_istore 97 rfl rfl ?_
        have ht := e57
        obtain ⟨a1, a2, a3, a4⟩ := p2.2 v1.toInt f1
        rw [← ht] at a1 a4
        have r1 := a1.1
        have r2 := a1.2.1
        refine k_aload 98 rfl (gs_ne rfl rfl g0) rfl ?_
        refine r_gI I55 101 rfl rfl rfl (fun x59 (e60 : x59.toInt = F 63) => ?_)
        refine k_push 102 rfl rfl ?_
        have hc61 : (-1 : Int32).toInt = -1 := by decide
        by_cases b62 : x59 = (-1 : Int32)
        · refine k_c2 105 rfl rfl (if_pos b62) ?_
          have b62 := iv_eq.mp b62
          refine k_iload 106 rfl (gs_ne rfl rfl g1) rfl ?_
          refine k_push 107 rfl rfl ?_
          have hc63 : (4 : Int32).toInt = 4 := by decide
          obtain ⟨x64, q65⟩ : ∃ q : Int32, q = (v1 - v1 / (4 : Int32) * (4 : Int32)) := ⟨_, rfl⟩
          have e66 : x64.toInt = v1.toInt % 4 := by rw [q65]; exact iv_rem 4 (by decide) (by decide) (by omega)
          refine k_divZ x64 108 rfl (by decide) q65.symm rfl ?_
          by_cases b67 : x64 = 0
          · refine k_c1 111 rfl rfl (if_pos b67) ?_
            have b67 := iv_eq0.mp b67
            refine k_iload 112 rfl (gs_ne rfl rfl g1) rfl ?_
            refine k_push 113 rfl rfl ?_
            obtain ⟨x68, q69⟩ : ∃ q : Int32, q = (v1 / (4 : Int32)) := ⟨_, rfl⟩
            have e70 : x68.toInt = v1.toInt / 4 := by rw [q69]; exact iv_div 4 (by decide) (by decide) (by omega)
            refine k_divZ x68 114 rfl (by decide) q69.symm rfl ?_
            by_cases b71 : x68 = 0
            · refine k_c1 164 rfl rfl (if_pos b71) ?_
              have b71 := iv_eq0.mp b71
              refine k_aload 165 rfl (gs_ne rfl rfl g0) rfl ?_
              refine k_iload 166 rfl gs_eq rfl ?_
              have e72 : F 28 = F0 28 := hF 28 (by decide)
              refine k_rq I55 rfl (m_comesTo (gn := gn) (lm := lm) (gT := gT) I55.1 (show nn ((A 24)) ((A 25)) ((F 28)) (gT) by rw [hA 24 (by decide), hA 25 (by decide), hF 28 (by decide)]; exact p1) (show nw ((A 24)) ((A 25)) ((A 26)) (lm) ((F 28)) by rw [hA 24 (by decide), hA 25 (by decide), hA 26 (by decide), hF 28 (by decide)]; exact p2) (show lp ((A 24)) ((F 28)) x56.toInt by rw [hA 24 (by decide), hF 28 (by decide)]; exact a1) (show 0 ≤ (F 50) ∧ (F 50) ≤ (lm) x56.toInt ∧ (F 50) ≤ 4250 by omega) (show wr A from i1) (show wq A from i2) (show (A 2) 0 = (gn) ∧ (gn) ≤ 400 from i9) (show 0 ≤ (F 55) ∧ (F 55) ≤ (gn) ∧ 0 ≤ (F 59) ∧ (F 59) ≤ (gn) from f3) (show mk ((A 1)) (gn) ((F 55) + 1) from f4) (show wk ((A 24)) ((A 25)) ((F 28)) ((F 55)) ((A 51)) ((A 52)) ((A 54)) (gn) by rw [hA 24 (by decide), hA 25 (by decide), hF 28 (by decide)]; exact f5) (show 0 ≤ (F 48) ∧ (F 48) ≤ 3999 by omega) (show ∀ q : Int, 0 ≤ q → q < 16384 → (A 47) q ≤ (F 48) from i4)) rfl rfl rfl I55.rc ?_
              rintro x73 h74 F75 A76 I77 ⟨k79, k80, p78⟩
              replace p78 : wr A76 ∧ wq A76 ∧ ((F 48) ≤ F75 48 ∧ F75 48 ≤ (F 48) + 1) ∧ (∀ q : Int, 0 ≤ q → q < 16384 → A76 47 q ≤ F75 48) ∧ (∀ q : Int, q ≠ 0 → A76 2 q = (A 2) q) ∧ (∀ q : Int, 400 ≤ q → A76 1 q = (A 1) q) ∧ (0 ≤ F75 50 ∧ (F75 50 ≤ (F 50) + 1 ∨ F75 50 ≤ 202)) ∧ ((x73.toInt = -1 ∧ 0 ≤ A76 2 0 ∧ A76 2 0 ≤ 400) ∨ (x73.toInt = -2 ∧ ∃ n' : Nat, n' ≤ 400 ∧ A76 2 0 = n' ∧ wf (A76 1) 0 n') ∨ (∃ n' : Nat, (lp ((A 24)) ((F 28)) x73.toInt ∧ F75 50 ≤ (lm) x73.toInt) ∧ (A76 2 0 = n' ∧ n' ≤ 400) ∧ (0 ≤ F75 55 ∧ F75 55 ≤ n' ∧ 0 ≤ F75 59 ∧ F75 59 ≤ n') ∧ mk (A76 1) n' (F75 55 + 1) ∧ wk ((A 24)) ((A 25)) ((F 28)) (F75 55) (A76 51) (A76 52) (A76 54) n')) := p78
              obtain ⟨p78a, p78b, p78c, p78d, p78e, p78f, p78g, p78h⟩ := p78
              show am_Ok _ _ _ (169, _, [.inl x73], _, 0, 0) _
              refine k_istore 170 rfl rfl ?_
              refine k_goto 66 rfl rfl ?_
              obtain ⟨gn9, hn9, hia⟩ := out_sum p78h
              clear p78h
              rw [hA 24 (by decide), hA 25 (by decide), hF 28 (by decide)] at hia
              have h63 := k79 63 (by decide)
              have hact : F75 63 = -1 ∨ ∃ m, act (A0 24) (A0 26) (F0 28) (F75 63) m := by rw [h63]; exact i8
              have e81 : F75 62 = x51.toInt := k79 62 (by decide)
              have e82 : F75 63 = F 63 := k79 63 (by decide)
              exact ih _ (show (4000 - (gw + 1)) < n by omega) (gn := gn9) (gw := gw + 1) rfl (gs_ne rfl rfl (gs_ne rfl rfl g0)) gs_eq I77 (fr1.tr (by decide) (fr1.up (by decide) hF) k79) (fr2.tr (by decide) hA k80) (show (F75 62) = (gw + 1) ∧ (gw + 1) ≤ 4000 by omega) (show wr A76 from p78a) (show wq A76 from p78b) (show 0 ≤ (F75 48) ∧ (F75 48) ≤ (gw + 1) by omega) (show ∀ q : Int, 0 ≤ q → q < 16384 → (A76 47) q ≤ (F75 48) from p78d) (show ∀ q : Int, q ≠ 0 → (A76 2) q = A0 2 q from fun q hq => (p78e q hq).trans (i5 q hq)) (show ∀ q : Int, 400 ≤ q → (A76 1) q = A0 1 q from fun q hq => (p78f q hq).trans (i6 q hq)) (show 0 ≤ (F75 50) ∧ (F75 50) ≤ 202 + (gw + 1) by omega) (show (F75 63) = -1 ∨ ∃ m, act (A0 24) (A0 26) (F0 28) ((F75 63)) m from hact) (show (A76 2) 0 = (gn9) ∧ (gn9) ≤ 400 from hn9) (show x73.toInt = -1 ∨ (x73.toInt = -2 ∧ wf ((A76 1)) 0 (gn9)) ∨ ((lp (A0 24) (F0 28) x73.toInt ∧ (F75 50) ≤ lm x73.toInt) ∧ (0 ≤ (F75 55) ∧ (F75 55) ≤ (gn9) ∧ 0 ≤ (F75 59) ∧ (F75 59) ≤ (gn9)) ∧ mk ((A76 1)) (gn9) ((F75 55) + 1) ∧ wk (A0 24) (A0 25) (F0 28) ((F75 55)) ((A76 51)) ((A76 52)) ((A76 54)) (gn9)) from hia)
            · refine k_c1 117 rfl rfl (if_neg b71) ?_
              have b71 := mt iv_eq0.mpr b71
              refine k_iload 118 rfl gs_eq rfl ?_
              refine k_push 119 rfl rfl ?_
              obtain ⟨x83, q84⟩ : ∃ q : Int32, q = (x56 - x56 / (4 : Int32) * (4 : Int32)) := ⟨_, rfl⟩
              have e85 : x83.toInt = x56.toInt % 4 := by rw [q84]; exact iv_rem 4 (by decide) (by decide) (by omega)
              refine k_divZ x83 120 rfl (by decide) q84.symm rfl ?_
              by_cases b86 : x83 = 0
              · refine k_c1 123 rfl rfl (if_pos b86) ?_
                have b86 := iv_eq0.mp b86
                refine k_aload 124 rfl (gs_ne rfl rfl g0) rfl ?_
                refine r_gA I55 127 rfl rfl rfl ?_
                refine k_iload 128 rfl gs_eq rfl ?_
                refine k_push 129 rfl rfl ?_
                obtain ⟨x87, q88⟩ : ∃ q : Int32, q = (x56 / (4 : Int32)) := ⟨_, rfl⟩
                have e89 : x87.toInt = x56.toInt / 4 := by rw [q88]; exact iv_div 4 (by decide) (by decide) (by omega)
                refine k_divZ x87 130 rfl (by decide) q88.symm rfl ?_
                refine r_ld 24 I55 131 rfl rfl (by omega) (show x87.toInt < 8010 by omega) rfl (fun x90 (e91 : x90.toInt = A 24 x87.toInt) => ?_)
                rw [e89] at e91
                have e92 : A 24 = A0 24 := hA 24 (by decide)
                rw [e92] at e91
                by_cases b93 : x90 = 0
                · refine k_c1 164 rfl rfl (if_pos b93) ?_
                  have b93 := iv_eq0.mp b93
                  refine k_aload 165 rfl (gs_ne rfl rfl g0) rfl ?_
                  refine k_iload 166 rfl gs_eq rfl ?_
                  have e94 : F 28 = F0 28 := hF 28 (by decide)
                  refine k_rq I55 rfl (m_comesTo (gn := gn) (lm := lm) (gT := gT) I55.1 (show nn ((A 24)) ((A 25)) ((F 28)) (gT) by rw [hA 24 (by decide), hA 25 (by decide), hF 28 (by decide)]; exact p1) (show nw ((A 24)) ((A 25)) ((A 26)) (lm) ((F 28)) by rw [hA 24 (by decide), hA 25 (by decide), hA 26 (by decide), hF 28 (by decide)]; exact p2) (show lp ((A 24)) ((F 28)) x56.toInt by rw [hA 24 (by decide), hF 28 (by decide)]; exact a1) (show 0 ≤ (F 50) ∧ (F 50) ≤ (lm) x56.toInt ∧ (F 50) ≤ 4250 by omega) (show wr A from i1) (show wq A from i2) (show (A 2) 0 = (gn) ∧ (gn) ≤ 400 from i9) (show 0 ≤ (F 55) ∧ (F 55) ≤ (gn) ∧ 0 ≤ (F 59) ∧ (F 59) ≤ (gn) from f3) (show mk ((A 1)) (gn) ((F 55) + 1) from f4) (show wk ((A 24)) ((A 25)) ((F 28)) ((F 55)) ((A 51)) ((A 52)) ((A 54)) (gn) by rw [hA 24 (by decide), hA 25 (by decide), hF 28 (by decide)]; exact f5) (show 0 ≤ (F 48) ∧ (F 48) ≤ 3999 by omega) (show ∀ q : Int, 0 ≤ q → q < 16384 → (A 47) q ≤ (F 48) from i4)) rfl rfl rfl I55.rc ?_
                  rintro x95 h96 F97 A98 I99 ⟨k101, k102, p100⟩
                  replace p100 : wr A98 ∧ wq A98 ∧ ((F 48) ≤ F97 48 ∧ F97 48 ≤ (F 48) + 1) ∧ (∀ q : Int, 0 ≤ q → q < 16384 → A98 47 q ≤ F97 48) ∧ (∀ q : Int, q ≠ 0 → A98 2 q = (A 2) q) ∧ (∀ q : Int, 400 ≤ q → A98 1 q = (A 1) q) ∧ (0 ≤ F97 50 ∧ (F97 50 ≤ (F 50) + 1 ∨ F97 50 ≤ 202)) ∧ ((x95.toInt = -1 ∧ 0 ≤ A98 2 0 ∧ A98 2 0 ≤ 400) ∨ (x95.toInt = -2 ∧ ∃ n' : Nat, n' ≤ 400 ∧ A98 2 0 = n' ∧ wf (A98 1) 0 n') ∨ (∃ n' : Nat, (lp ((A 24)) ((F 28)) x95.toInt ∧ F97 50 ≤ (lm) x95.toInt) ∧ (A98 2 0 = n' ∧ n' ≤ 400) ∧ (0 ≤ F97 55 ∧ F97 55 ≤ n' ∧ 0 ≤ F97 59 ∧ F97 59 ≤ n') ∧ mk (A98 1) n' (F97 55 + 1) ∧ wk ((A 24)) ((A 25)) ((F 28)) (F97 55) (A98 51) (A98 52) (A98 54) n')) := p100
                  obtain ⟨p100a, p100b, p100c, p100d, p100e, p100f, p100g, p100h⟩ := p100
                  show am_Ok _ _ _ (169, _, [.inl x95], _, 0, 0) _
                  refine k_istore 170 rfl rfl ?_
                  refine k_goto 66 rfl rfl ?_
                  obtain ⟨gn9, hn9, hia⟩ := out_sum p100h
                  clear p100h
                  rw [hA 24 (by decide), hA 25 (by decide), hF 28 (by decide)] at hia
                  have h63 := k101 63 (by decide)
                  have hact : F97 63 = -1 ∨ ∃ m, act (A0 24) (A0 26) (F0 28) (F97 63) m := by rw [h63]; exact i8
                  have e103 : F97 62 = x51.toInt := k101 62 (by decide)
                  have e104 : F97 63 = F 63 := k101 63 (by decide)
                  exact ih _ (show (4000 - (gw + 1)) < n by omega) (gn := gn9) (gw := gw + 1) rfl (gs_ne rfl rfl (gs_ne rfl rfl g0)) gs_eq I99 (fr1.tr (by decide) (fr1.up (by decide) hF) k101) (fr2.tr (by decide) hA k102) (show (F97 62) = (gw + 1) ∧ (gw + 1) ≤ 4000 by omega) (show wr A98 from p100a) (show wq A98 from p100b) (show 0 ≤ (F97 48) ∧ (F97 48) ≤ (gw + 1) by omega) (show ∀ q : Int, 0 ≤ q → q < 16384 → (A98 47) q ≤ (F97 48) from p100d) (show ∀ q : Int, q ≠ 0 → (A98 2) q = A0 2 q from fun q hq => (p100e q hq).trans (i5 q hq)) (show ∀ q : Int, 400 ≤ q → (A98 1) q = A0 1 q from fun q hq => (p100f q hq).trans (i6 q hq)) (show 0 ≤ (F97 50) ∧ (F97 50) ≤ 202 + (gw + 1) by omega) (show (F97 63) = -1 ∨ ∃ m, act (A0 24) (A0 26) (F0 28) ((F97 63)) m from hact) (show (A98 2) 0 = (gn9) ∧ (gn9) ≤ 400 from hn9) (show x95.toInt = -1 ∨ (x95.toInt = -2 ∧ wf ((A98 1)) 0 (gn9)) ∨ ((lp (A0 24) (F0 28) x95.toInt ∧ (F97 50) ≤ lm x95.toInt) ∧ (0 ≤ (F97 55) ∧ (F97 55) ≤ (gn9) ∧ 0 ≤ (F97 59) ∧ (F97 59) ≤ (gn9)) ∧ mk ((A98 1)) (gn9) ((F97 55) + 1) ∧ wk (A0 24) (A0 25) (F0 28) ((F97 55)) ((A98 51)) ((A98 52)) ((A98 54)) (gn9)) from hia)
                · refine k_c1 134 rfl rfl (if_neg b93) ?_
                  have b93 := mt iv_eq0.mpr b93
                  have hk : A0 24 (x56.toInt / 4) ≠ 0 := fun z => by have z9 := e91; rw [z] at z9; omega
                  refine k_aload 135 rfl (gs_ne rfl rfl g0) rfl ?_
                  refine k_iload 136 rfl (gs_ne rfl rfl g1) rfl ?_
                  refine k_push 137 rfl rfl ?_
                  obtain ⟨x105, q106⟩ : ∃ q : Int32, q = (v1 / (4 : Int32)) := ⟨_, rfl⟩
                  have e107 : x105.toInt = v1.toInt / 4 := by rw [q106]; exact iv_div 4 (by decide) (by decide) (by omega)
                  refine k_divZ x105 138 rfl (by decide) q106.symm rfl ?_
                  refine k_iload 139 rfl gs_eq rfl ?_
                  refine k_push 140 rfl rfl ?_
                  obtain ⟨x108, q109⟩ : ∃ q : Int32, q = (x56 / (4 : Int32)) := ⟨_, rfl⟩
                  have e110 : x108.toInt = x56.toInt / 4 := by rw [q109]; exact iv_div 4 (by decide) (by decide) (by omega)
                  refine k_divZ x108 141 rfl (by decide) q109.symm rfl ?_
                  by_cases b111 : x108 ≤ x105
                  · refine k_c2 150 rfl rfl (if_pos b111) ?_
                    have b111 := iv_le.mp b111
                    refine k_iload 151 rfl gs_eq rfl ?_
                    refine k_push 152 rfl rfl ?_
                    obtain ⟨x112, q113⟩ : ∃ q : Int32, q = (x56 / (4 : Int32)) := ⟨_, rfl⟩
                    have e114 : x112.toInt = x56.toInt / 4 := by rw [q113]; exact iv_div 4 (by decide) (by decide) (by omega)
                    refine k_divZ x112 153 rfl (by decide) q113.symm rfl ?_
                    have hw9 : ∃ m, act (A0 24) (A0 26) (F0 28) x112.toInt m := act_of p1 p2 f1 ht (by omega) (by omega) (by omega) hk (by omega)
                    refine r_pI I55 156 rfl rfl rfl (fun h115 I116 => ?_)
                    refine k_aload 157 rfl (gs_ne rfl rfl g0) rfl ?_
                    refine k_aload 158 rfl (gs_ne rfl rfl g0) rfl ?_
                    refine r_gI I116 161 rfl rfl rfl (fun x117 (e118 : x117.toInt = x51.toInt) => ?_)
                    refine r_pI I116 164 rfl rfl rfl (fun h119 I120 => ?_)
                    refine k_aload 165 rfl (gs_ne rfl rfl g0) rfl ?_
                    refine k_iload 166 rfl gs_eq rfl ?_
                    have e121 : F 28 = F0 28 := hF 28 (by decide)
                    refine k_rq I120 rfl (m_comesTo (gn := gn) (lm := lm) (gT := gT) I120.1 (show nn ((A 24)) ((A 25)) ((F 28)) (gT) by rw [hA 24 (by decide), hA 25 (by decide), hF 28 (by decide)]; exact p1) (show nw ((A 24)) ((A 25)) ((A 26)) (lm) ((F 28)) by rw [hA 24 (by decide), hA 25 (by decide), hA 26 (by decide), hF 28 (by decide)]; exact p2) (show lp ((A 24)) ((F 28)) x56.toInt by rw [hA 24 (by decide), hF 28 (by decide)]; exact a1) (show 0 ≤ (F 50) ∧ (F 50) ≤ (lm) x56.toInt ∧ (F 50) ≤ 4250 by omega) (show wr A from i1) (show wq A from i2) (show (A 2) 0 = (gn) ∧ (gn) ≤ 400 from i9) (show 0 ≤ (F 55) ∧ (F 55) ≤ (gn) ∧ 0 ≤ (F 59) ∧ (F 59) ≤ (gn) from f3) (show mk ((A 1)) (gn) ((F 55) + 1) from f4) (show wk ((A 24)) ((A 25)) ((F 28)) ((F 55)) ((A 51)) ((A 52)) ((A 54)) (gn) by rw [hA 24 (by decide), hA 25 (by decide), hF 28 (by decide)]; exact f5) (show 0 ≤ (F 48) ∧ (F 48) ≤ 3999 by omega) (show ∀ q : Int, 0 ≤ q → q < 16384 → (A 47) q ≤ (F 48) from i4)) rfl rfl rfl I120.rc ?_
                    rintro x122 h123 F124 A125 I126 ⟨k128, k129, p127⟩
                    replace p127 : wr A125 ∧ wq A125 ∧ ((F 48) ≤ F124 48 ∧ F124 48 ≤ (F 48) + 1) ∧ (∀ q : Int, 0 ≤ q → q < 16384 → A125 47 q ≤ F124 48) ∧ (∀ q : Int, q ≠ 0 → A125 2 q = (A 2) q) ∧ (∀ q : Int, 400 ≤ q → A125 1 q = (A 1) q) ∧ (0 ≤ F124 50 ∧ (F124 50 ≤ (F 50) + 1 ∨ F124 50 ≤ 202)) ∧ ((x122.toInt = -1 ∧ 0 ≤ A125 2 0 ∧ A125 2 0 ≤ 400) ∨ (x122.toInt = -2 ∧ ∃ n' : Nat, n' ≤ 400 ∧ A125 2 0 = n' ∧ wf (A125 1) 0 n') ∨ (∃ n' : Nat, (lp ((A 24)) ((F 28)) x122.toInt ∧ F124 50 ≤ (lm) x122.toInt) ∧ (A125 2 0 = n' ∧ n' ≤ 400) ∧ (0 ≤ F124 55 ∧ F124 55 ≤ n' ∧ 0 ≤ F124 59 ∧ F124 59 ≤ n') ∧ mk (A125 1) n' (F124 55 + 1) ∧ wk ((A 24)) ((A 25)) ((F 28)) (F124 55) (A125 51) (A125 52) (A125 54) n')) := p127
                    obtain ⟨p127a, p127b, p127c, p127d, p127e, p127f, p127g, p127h⟩ := p127
                    show am_Ok _ _ _ (169, _, [.inl x122], _, 0, 0) _
                    refine k_istore 170 rfl rfl ?_
                    refine k_goto 66 rfl rfl ?_
                    obtain ⟨gn9, hn9, hia⟩ := out_sum p127h
                    clear p127h
                    rw [hA 24 (by decide), hA 25 (by decide), hF 28 (by decide)] at hia
                    have h63 := k128 63 (by decide)
                    have hact : F124 63 = -1 ∨ ∃ m, act (A0 24) (A0 26) (F0 28) (F124 63) m := by rw [h63]; exact Or.inr hw9
                    have e130 : F124 62 = x51.toInt := k128 62 (by decide)
                    have e131 : F124 63 = x112.toInt := k128 63 (by decide)
                    exact ih _ (show (4000 - (gw + 1)) < n by omega) (gn := gn9) (gw := gw + 1) rfl (gs_ne rfl rfl (gs_ne rfl rfl g0)) gs_eq I126 (fr1.tr (by decide) (fr1.up (by decide) (fr1.up (by decide) (fr1.up (by decide) hF))) k128) (fr2.tr (by decide) hA k129) (show (F124 62) = (gw + 1) ∧ (gw + 1) ≤ 4000 by omega) (show wr A125 from p127a) (show wq A125 from p127b) (show 0 ≤ (F124 48) ∧ (F124 48) ≤ (gw + 1) by omega) (show ∀ q : Int, 0 ≤ q → q < 16384 → (A125 47) q ≤ (F124 48) from p127d) (show ∀ q : Int, q ≠ 0 → (A125 2) q = A0 2 q from fun q hq => (p127e q hq).trans (i5 q hq)) (show ∀ q : Int, 400 ≤ q → (A125 1) q = A0 1 q from fun q hq => (p127f q hq).trans (i6 q hq)) (show 0 ≤ (F124 50) ∧ (F124 50) ≤ 202 + (gw + 1) by omega) (show (F124 63) = -1 ∨ ∃ m, act (A0 24) (A0 26) (F0 28) ((F124 63)) m from hact) (show (A125 2) 0 = (gn9) ∧ (gn9) ≤ 400 from hn9) (show x122.toInt = -1 ∨ (x122.toInt = -2 ∧ wf ((A125 1)) 0 (gn9)) ∨ ((lp (A0 24) (F0 28) x122.toInt ∧ (F124 50) ≤ lm x122.toInt) ∧ (0 ≤ (F124 55) ∧ (F124 55) ≤ (gn9) ∧ 0 ≤ (F124 59) ∧ (F124 59) ≤ (gn9)) ∧ mk ((A125 1)) (gn9) ((F124 55) + 1) ∧ wk (A0 24) (A0 25) (F0 28) ((F124 55)) ((A125 51)) ((A125 52)) ((A125 54)) (gn9)) from hia)
                  · refine k_c2 144 rfl rfl (if_neg b111) ?_
                    have b111 := mt iv_le.mpr b111
                    refine k_iload 145 rfl (gs_ne rfl rfl g1) rfl ?_
                    refine k_push 146 rfl rfl ?_
                    obtain ⟨x132, q133⟩ : ∃ q : Int32, q = (v1 / (4 : Int32)) := ⟨_, rfl⟩
                    have e134 : x132.toInt = v1.toInt / 4 := by rw [q133]; exact iv_div 4 (by decide) (by decide) (by omega)
                    refine k_divZ x132 147 rfl (by decide) q133.symm rfl ?_
                    refine k_goto 153 rfl rfl ?_
                    have hw9 : ∃ m, act (A0 24) (A0 26) (F0 28) x132.toInt m := act_of p1 p2 f1 ht (by omega) (by omega) (by omega) hk (by omega)
                    refine r_pI I55 156 rfl rfl rfl (fun h135 I136 => ?_)
                    refine k_aload 157 rfl (gs_ne rfl rfl g0) rfl ?_
                    refine k_aload 158 rfl (gs_ne rfl rfl g0) rfl ?_
                    refine r_gI I136 161 rfl rfl rfl (fun x137 (e138 : x137.toInt = x51.toInt) => ?_)
                    refine r_pI I136 164 rfl rfl rfl (fun h139 I140 => ?_)
                    refine k_aload 165 rfl (gs_ne rfl rfl g0) rfl ?_
                    refine k_iload 166 rfl gs_eq rfl ?_
                    have e141 : F 28 = F0 28 := hF 28 (by decide)
                    refine k_rq I140 rfl (m_comesTo (gn := gn) (lm := lm) (gT := gT) I140.1 (show nn ((A 24)) ((A 25)) ((F 28)) (gT) by rw [hA 24 (by decide), hA 25 (by decide), hF 28 (by decide)]; exact p1) (show nw ((A 24)) ((A 25)) ((A 26)) (lm) ((F 28)) by rw [hA 24 (by decide), hA 25 (by decide), hA 26 (by decide), hF 28 (by decide)]; exact p2) (show lp ((A 24)) ((F 28)) x56.toInt by rw [hA 24 (by decide), hF 28 (by decide)]; exact a1) (show 0 ≤ (F 50) ∧ (F 50) ≤ (lm) x56.toInt ∧ (F 50) ≤ 4250 by omega) (show wr A from i1) (show wq A from i2) (show (A 2) 0 = (gn) ∧ (gn) ≤ 400 from i9) (show 0 ≤ (F 55) ∧ (F 55) ≤ (gn) ∧ 0 ≤ (F 59) ∧ (F 59) ≤ (gn) from f3) (show mk ((A 1)) (gn) ((F 55) + 1) from f4) (show wk ((A 24)) ((A 25)) ((F 28)) ((F 55)) ((A 51)) ((A 52)) ((A 54)) (gn) by rw [hA 24 (by decide), hA 25 (by decide), hF 28 (by decide)]; exact f5) (show 0 ≤ (F 48) ∧ (F 48) ≤ 3999 by omega) (show ∀ q : Int, 0 ≤ q → q < 16384 → (A 47) q ≤ (F 48) from i4)) rfl rfl rfl I140.rc ?_
                    rintro x142 h143 F144 A145 I146 ⟨k148, k149, p147⟩
                    replace p147 : wr A145 ∧ wq A145 ∧ ((F 48) ≤ F144 48 ∧ F144 48 ≤ (F 48) + 1) ∧ (∀ q : Int, 0 ≤ q → q < 16384 → A145 47 q ≤ F144 48) ∧ (∀ q : Int, q ≠ 0 → A145 2 q = (A 2) q) ∧ (∀ q : Int, 400 ≤ q → A145 1 q = (A 1) q) ∧ (0 ≤ F144 50 ∧ (F144 50 ≤ (F 50) + 1 ∨ F144 50 ≤ 202)) ∧ ((x142.toInt = -1 ∧ 0 ≤ A145 2 0 ∧ A145 2 0 ≤ 400) ∨ (x142.toInt = -2 ∧ ∃ n' : Nat, n' ≤ 400 ∧ A145 2 0 = n' ∧ wf (A145 1) 0 n') ∨ (∃ n' : Nat, (lp ((A 24)) ((F 28)) x142.toInt ∧ F144 50 ≤ (lm) x142.toInt) ∧ (A145 2 0 = n' ∧ n' ≤ 400) ∧ (0 ≤ F144 55 ∧ F144 55 ≤ n' ∧ 0 ≤ F144 59 ∧ F144 59 ≤ n') ∧ mk (A145 1) n' (F144 55 + 1) ∧ wk ((A 24)) ((A 25)) ((F 28)) (F144 55) (A145 51) (A145 52) (A145 54) n')) := p147
                    obtain ⟨p147a, p147b, p147c, p147d, p147e, p147f, p147g, p147h⟩ := p147
                    show am_Ok _ _ _ (169, _, [.inl x142], _, 0, 0) _
                    refine k_istore 170 rfl rfl ?_
                    refine k_goto 66 rfl rfl ?_
                    obtain ⟨gn9, hn9, hia⟩ := out_sum p147h
                    clear p147h
                    rw [hA 24 (by decide), hA 25 (by decide), hF 28 (by decide)] at hia
                    have h63 := k148 63 (by decide)
                    have hact : F144 63 = -1 ∨ ∃ m, act (A0 24) (A0 26) (F0 28) (F144 63) m := by rw [h63]; exact Or.inr hw9
                    have e150 : F144 62 = x51.toInt := k148 62 (by decide)
                    have e151 : F144 63 = x132.toInt := k148 63 (by decide)
                    exact ih _ (show (4000 - (gw + 1)) < n by omega) (gn := gn9) (gw := gw + 1) rfl (gs_ne rfl rfl (gs_ne rfl rfl g0)) gs_eq I146 (fr1.tr (by decide) (fr1.up (by decide) (fr1.up (by decide) (fr1.up (by decide) hF))) k148) (fr2.tr (by decide) hA k149) (show (F144 62) = (gw + 1) ∧ (gw + 1) ≤ 4000 by omega) (show wr A145 from p147a) (show wq A145 from p147b) (show 0 ≤ (F144 48) ∧ (F144 48) ≤ (gw + 1) by omega) (show ∀ q : Int, 0 ≤ q → q < 16384 → (A145 47) q ≤ (F144 48) from p147d) (show ∀ q : Int, q ≠ 0 → (A145 2) q = A0 2 q from fun q hq => (p147e q hq).trans (i5 q hq)) (show ∀ q : Int, 400 ≤ q → (A145 1) q = A0 1 q from fun q hq => (p147f q hq).trans (i6 q hq)) (show 0 ≤ (F144 50) ∧ (F144 50) ≤ 202 + (gw + 1) by omega) (show (F144 63) = -1 ∨ ∃ m, act (A0 24) (A0 26) (F0 28) ((F144 63)) m from hact) (show (A145 2) 0 = (gn9) ∧ (gn9) ≤ 400 from hn9) (show x142.toInt = -1 ∨ (x142.toInt = -2 ∧ wf ((A145 1)) 0 (gn9)) ∨ ((lp (A0 24) (F0 28) x142.toInt ∧ (F144 50) ≤ lm x142.toInt) ∧ (0 ≤ (F144 55) ∧ (F144 55) ≤ (gn9) ∧ 0 ≤ (F144 59) ∧ (F144 59) ≤ (gn9)) ∧ mk ((A145 1)) (gn9) ((F144 55) + 1) ∧ wk (A0 24) (A0 25) (F0 28) ((F144 55)) ((A145 51)) ((A145 52)) ((A145 54)) (gn9)) from hia)
              · refine k_c1 164 rfl rfl (if_neg b86) ?_
                have b86 := mt iv_eq0.mpr b86
                refine k_aload 165 rfl (gs_ne rfl rfl g0) rfl ?_
                refine k_iload 166 rfl gs_eq rfl ?_
                have e152 : F 28 = F0 28 := hF 28 (by decide)
                refine k_rq I55 rfl (m_comesTo (gn := gn) (lm := lm) (gT := gT) I55.1 (show nn ((A 24)) ((A 25)) ((F 28)) (gT) by rw [hA 24 (by decide), hA 25 (by decide), hF 28 (by decide)]; exact p1) (show nw ((A 24)) ((A 25)) ((A 26)) (lm) ((F 28)) by rw [hA 24 (by decide), hA 25 (by decide), hA 26 (by decide), hF 28 (by decide)]; exact p2) (show lp ((A 24)) ((F 28)) x56.toInt by rw [hA 24 (by decide), hF 28 (by decide)]; exact a1) (show 0 ≤ (F 50) ∧ (F 50) ≤ (lm) x56.toInt ∧ (F 50) ≤ 4250 by omega) (show wr A from i1) (show wq A from i2) (show (A 2) 0 = (gn) ∧ (gn) ≤ 400 from i9) (show 0 ≤ (F 55) ∧ (F 55) ≤ (gn) ∧ 0 ≤ (F 59) ∧ (F 59) ≤ (gn) from f3) (show mk ((A 1)) (gn) ((F 55) + 1) from f4) (show wk ((A 24)) ((A 25)) ((F 28)) ((F 55)) ((A 51)) ((A 52)) ((A 54)) (gn) by rw [hA 24 (by decide), hA 25 (by decide), hF 28 (by decide)]; exact f5) (show 0 ≤ (F 48) ∧ (F 48) ≤ 3999 by omega) (show ∀ q : Int, 0 ≤ q → q < 16384 → (A 47) q ≤ (F 48) from i4)) rfl rfl rfl I55.rc ?_
                rintro x153 h154 F155 A156 I157 ⟨k159, k160, p158⟩
                replace p158 : wr A156 ∧ wq A156 ∧ ((F 48) ≤ F155 48 ∧ F155 48 ≤ (F 48) + 1) ∧ (∀ q : Int, 0 ≤ q → q < 16384 → A156 47 q ≤ F155 48) ∧ (∀ q : Int, q ≠ 0 → A156 2 q = (A 2) q) ∧ (∀ q : Int, 400 ≤ q → A156 1 q = (A 1) q) ∧ (0 ≤ F155 50 ∧ (F155 50 ≤ (F 50) + 1 ∨ F155 50 ≤ 202)) ∧ ((x153.toInt = -1 ∧ 0 ≤ A156 2 0 ∧ A156 2 0 ≤ 400) ∨ (x153.toInt = -2 ∧ ∃ n' : Nat, n' ≤ 400 ∧ A156 2 0 = n' ∧ wf (A156 1) 0 n') ∨ (∃ n' : Nat, (lp ((A 24)) ((F 28)) x153.toInt ∧ F155 50 ≤ (lm) x153.toInt) ∧ (A156 2 0 = n' ∧ n' ≤ 400) ∧ (0 ≤ F155 55 ∧ F155 55 ≤ n' ∧ 0 ≤ F155 59 ∧ F155 59 ≤ n') ∧ mk (A156 1) n' (F155 55 + 1) ∧ wk ((A 24)) ((A 25)) ((F 28)) (F155 55) (A156 51) (A156 52) (A156 54) n')) := p158
                obtain ⟨p158a, p158b, p158c, p158d, p158e, p158f, p158g, p158h⟩ := p158
                show am_Ok _ _ _ (169, _, [.inl x153], _, 0, 0) _
                refine k_istore 170 rfl rfl ?_
                refine k_goto 66 rfl rfl ?_
                obtain ⟨gn9, hn9, hia⟩ := out_sum p158h
                clear p158h
                rw [hA 24 (by decide), hA 25 (by decide), hF 28 (by decide)] at hia
                have h63 := k159 63 (by decide)
                have hact : F155 63 = -1 ∨ ∃ m, act (A0 24) (A0 26) (F0 28) (F155 63) m := by rw [h63]; exact i8
                have e161 : F155 62 = x51.toInt := k159 62 (by decide)
                have e162 : F155 63 = F 63 := k159 63 (by decide)
                exact ih _ (show (4000 - (gw + 1)) < n by omega) (gn := gn9) (gw := gw + 1) rfl (gs_ne rfl rfl (gs_ne rfl rfl g0)) gs_eq I157 (fr1.tr (by decide) (fr1.up (by decide) hF) k159) (fr2.tr (by decide) hA k160) (show (F155 62) = (gw + 1) ∧ (gw + 1) ≤ 4000 by omega) (show wr A156 from p158a) (show wq A156 from p158b) (show 0 ≤ (F155 48) ∧ (F155 48) ≤ (gw + 1) by omega) (show ∀ q : Int, 0 ≤ q → q < 16384 → (A156 47) q ≤ (F155 48) from p158d) (show ∀ q : Int, q ≠ 0 → (A156 2) q = A0 2 q from fun q hq => (p158e q hq).trans (i5 q hq)) (show ∀ q : Int, 400 ≤ q → (A156 1) q = A0 1 q from fun q hq => (p158f q hq).trans (i6 q hq)) (show 0 ≤ (F155 50) ∧ (F155 50) ≤ 202 + (gw + 1) by omega) (show (F155 63) = -1 ∨ ∃ m, act (A0 24) (A0 26) (F0 28) ((F155 63)) m from hact) (show (A156 2) 0 = (gn9) ∧ (gn9) ≤ 400 from hn9) (show x153.toInt = -1 ∨ (x153.toInt = -2 ∧ wf ((A156 1)) 0 (gn9)) ∨ ((lp (A0 24) (F0 28) x153.toInt ∧ (F155 50) ≤ lm x153.toInt) ∧ (0 ≤ (F155 55) ∧ (F155 55) ≤ (gn9) ∧ 0 ≤ (F155 59) ∧ (F155 59) ≤ (gn9)) ∧ mk ((A156 1)) (gn9) ((F155 55) + 1) ∧ wk (A0 24) (A0 25) (F0 28) ((F155 55)) ((A156 51)) ((A156 52)) ((A156 54)) (gn9)) from hia)
          · refine k_c1 164 rfl rfl (if_neg b67) ?_
            have b67 := mt iv_eq0.mpr b67
            refine k_aload 165 rfl (gs_ne rfl rfl g0) rfl ?_
            refine k_iload 166 rfl gs_eq rfl ?_
            have e163 : F 28 = F0 28 := hF 28 (by decide)
            refine k_rq I55 rfl (m_comesTo (gn := gn) (lm := lm) (gT := gT) I55.1 (show nn ((A 24)) ((A 25)) ((F 28)) (gT) by rw [hA 24 (by decide), hA 25 (by decide), hF 28 (by decide)]; exact p1) (show nw ((A 24)) ((A 25)) ((A 26)) (lm) ((F 28)) by rw [hA 24 (by decide), hA 25 (by decide), hA 26 (by decide), hF 28 (by decide)]; exact p2) (show lp ((A 24)) ((F 28)) x56.toInt by rw [hA 24 (by decide), hF 28 (by decide)]; exact a1) (show 0 ≤ (F 50) ∧ (F 50) ≤ (lm) x56.toInt ∧ (F 50) ≤ 4250 by omega) (show wr A from i1) (show wq A from i2) (show (A 2) 0 = (gn) ∧ (gn) ≤ 400 from i9) (show 0 ≤ (F 55) ∧ (F 55) ≤ (gn) ∧ 0 ≤ (F 59) ∧ (F 59) ≤ (gn) from f3) (show mk ((A 1)) (gn) ((F 55) + 1) from f4) (show wk ((A 24)) ((A 25)) ((F 28)) ((F 55)) ((A 51)) ((A 52)) ((A 54)) (gn) by rw [hA 24 (by decide), hA 25 (by decide), hF 28 (by decide)]; exact f5) (show 0 ≤ (F 48) ∧ (F 48) ≤ 3999 by omega) (show ∀ q : Int, 0 ≤ q → q < 16384 → (A 47) q ≤ (F 48) from i4)) rfl rfl rfl I55.rc ?_
            rintro x164 h165 F166 A167 I168 ⟨k170, k171, p169⟩
            replace p169 : wr A167 ∧ wq A167 ∧ ((F 48) ≤ F166 48 ∧ F166 48 ≤ (F 48) + 1) ∧ (∀ q : Int, 0 ≤ q → q < 16384 → A167 47 q ≤ F166 48) ∧ (∀ q : Int, q ≠ 0 → A167 2 q = (A 2) q) ∧ (∀ q : Int, 400 ≤ q → A167 1 q = (A 1) q) ∧ (0 ≤ F166 50 ∧ (F166 50 ≤ (F 50) + 1 ∨ F166 50 ≤ 202)) ∧ ((x164.toInt = -1 ∧ 0 ≤ A167 2 0 ∧ A167 2 0 ≤ 400) ∨ (x164.toInt = -2 ∧ ∃ n' : Nat, n' ≤ 400 ∧ A167 2 0 = n' ∧ wf (A167 1) 0 n') ∨ (∃ n' : Nat, (lp ((A 24)) ((F 28)) x164.toInt ∧ F166 50 ≤ (lm) x164.toInt) ∧ (A167 2 0 = n' ∧ n' ≤ 400) ∧ (0 ≤ F166 55 ∧ F166 55 ≤ n' ∧ 0 ≤ F166 59 ∧ F166 59 ≤ n') ∧ mk (A167 1) n' (F166 55 + 1) ∧ wk ((A 24)) ((A 25)) ((F 28)) (F166 55) (A167 51) (A167 52) (A167 54) n')) := p169
            obtain ⟨p169a, p169b, p169c, p169d, p169e, p169f, p169g, p169h⟩ := p169
            show am_Ok _ _ _ (169, _, [.inl x164], _, 0, 0) _
            refine k_istore 170 rfl rfl ?_
            refine k_goto 66 rfl rfl ?_
            obtain ⟨gn9, hn9, hia⟩ := out_sum p169h
            clear p169h
            rw [hA 24 (by decide), hA 25 (by decide), hF 28 (by decide)] at hia
            have h63 := k170 63 (by decide)
            have hact : F166 63 = -1 ∨ ∃ m, act (A0 24) (A0 26) (F0 28) (F166 63) m := by rw [h63]; exact i8
            have e172 : F166 62 = x51.toInt := k170 62 (by decide)
            have e173 : F166 63 = F 63 := k170 63 (by decide)
            exact ih _ (show (4000 - (gw + 1)) < n by omega) (gn := gn9) (gw := gw + 1) rfl (gs_ne rfl rfl (gs_ne rfl rfl g0)) gs_eq I168 (fr1.tr (by decide) (fr1.up (by decide) hF) k170) (fr2.tr (by decide) hA k171) (show (F166 62) = (gw + 1) ∧ (gw + 1) ≤ 4000 by omega) (show wr A167 from p169a) (show wq A167 from p169b) (show 0 ≤ (F166 48) ∧ (F166 48) ≤ (gw + 1) by omega) (show ∀ q : Int, 0 ≤ q → q < 16384 → (A167 47) q ≤ (F166 48) from p169d) (show ∀ q : Int, q ≠ 0 → (A167 2) q = A0 2 q from fun q hq => (p169e q hq).trans (i5 q hq)) (show ∀ q : Int, 400 ≤ q → (A167 1) q = A0 1 q from fun q hq => (p169f q hq).trans (i6 q hq)) (show 0 ≤ (F166 50) ∧ (F166 50) ≤ 202 + (gw + 1) by omega) (show (F166 63) = -1 ∨ ∃ m, act (A0 24) (A0 26) (F0 28) ((F166 63)) m from hact) (show (A167 2) 0 = (gn9) ∧ (gn9) ≤ 400 from hn9) (show x164.toInt = -1 ∨ (x164.toInt = -2 ∧ wf ((A167 1)) 0 (gn9)) ∨ ((lp (A0 24) (F0 28) x164.toInt ∧ (F166 50) ≤ lm x164.toInt) ∧ (0 ≤ (F166 55) ∧ (F166 55) ≤ (gn9) ∧ 0 ≤ (F166 59) ∧ (F166 59) ≤ (gn9)) ∧ mk ((A167 1)) (gn9) ((F166 55) + 1) ∧ wk (A0 24) (A0 25) (F0 28) ((F166 55)) ((A167 51)) ((A167 52)) ((A167 54)) (gn9)) from hia)
        · refine k_c2 164 rfl rfl (if_neg b62) ?_
          have b62 := mt iv_eq.mpr b62
          refine k_aload 165 rfl (gs_ne rfl rfl g0) rfl ?_
          refine k_iload 166 rfl gs_eq rfl ?_
          have e174 : F 28 = F0 28 := hF 28 (by decide)
          refine k_rq I55 rfl (m_comesTo (gn := gn) (lm := lm) (gT := gT) I55.1 (show nn ((A 24)) ((A 25)) ((F 28)) (gT) by rw [hA 24 (by decide), hA 25 (by decide), hF 28 (by decide)]; exact p1) (show nw ((A 24)) ((A 25)) ((A 26)) (lm) ((F 28)) by rw [hA 24 (by decide), hA 25 (by decide), hA 26 (by decide), hF 28 (by decide)]; exact p2) (show lp ((A 24)) ((F 28)) x56.toInt by rw [hA 24 (by decide), hF 28 (by decide)]; exact a1) (show 0 ≤ (F 50) ∧ (F 50) ≤ (lm) x56.toInt ∧ (F 50) ≤ 4250 by omega) (show wr A from i1) (show wq A from i2) (show (A 2) 0 = (gn) ∧ (gn) ≤ 400 from i9) (show 0 ≤ (F 55) ∧ (F 55) ≤ (gn) ∧ 0 ≤ (F 59) ∧ (F 59) ≤ (gn) from f3) (show mk ((A 1)) (gn) ((F 55) + 1) from f4) (show wk ((A 24)) ((A 25)) ((F 28)) ((F 55)) ((A 51)) ((A 52)) ((A 54)) (gn) by rw [hA 24 (by decide), hA 25 (by decide), hF 28 (by decide)]; exact f5) (show 0 ≤ (F 48) ∧ (F 48) ≤ 3999 by omega) (show ∀ q : Int, 0 ≤ q → q < 16384 → (A 47) q ≤ (F 48) from i4)) rfl rfl rfl I55.rc ?_
          rintro x175 h176 F177 A178 I179 ⟨k181, k182, p180⟩
          replace p180 : wr A178 ∧ wq A178 ∧ ((F 48) ≤ F177 48 ∧ F177 48 ≤ (F 48) + 1) ∧ (∀ q : Int, 0 ≤ q → q < 16384 → A178 47 q ≤ F177 48) ∧ (∀ q : Int, q ≠ 0 → A178 2 q = (A 2) q) ∧ (∀ q : Int, 400 ≤ q → A178 1 q = (A 1) q) ∧ (0 ≤ F177 50 ∧ (F177 50 ≤ (F 50) + 1 ∨ F177 50 ≤ 202)) ∧ ((x175.toInt = -1 ∧ 0 ≤ A178 2 0 ∧ A178 2 0 ≤ 400) ∨ (x175.toInt = -2 ∧ ∃ n' : Nat, n' ≤ 400 ∧ A178 2 0 = n' ∧ wf (A178 1) 0 n') ∨ (∃ n' : Nat, (lp ((A 24)) ((F 28)) x175.toInt ∧ F177 50 ≤ (lm) x175.toInt) ∧ (A178 2 0 = n' ∧ n' ≤ 400) ∧ (0 ≤ F177 55 ∧ F177 55 ≤ n' ∧ 0 ≤ F177 59 ∧ F177 59 ≤ n') ∧ mk (A178 1) n' (F177 55 + 1) ∧ wk ((A 24)) ((A 25)) ((F 28)) (F177 55) (A178 51) (A178 52) (A178 54) n')) := p180
          obtain ⟨p180a, p180b, p180c, p180d, p180e, p180f, p180g, p180h⟩ := p180
          show am_Ok _ _ _ (169, _, [.inl x175], _, 0, 0) _
          refine k_istore 170 rfl rfl ?_
          refine k_goto 66 rfl rfl ?_
          obtain ⟨gn9, hn9, hia⟩ := out_sum p180h
          clear p180h
          rw [hA 24 (by decide), hA 25 (by decide), hF 28 (by decide)] at hia
          have h63 := k181 63 (by decide)
          have hact : F177 63 = -1 ∨ ∃ m, act (A0 24) (A0 26) (F0 28) (F177 63) m := by rw [h63]; exact i8
          have e183 : F177 62 = x51.toInt := k181 62 (by decide)
          have e184 : F177 63 = F 63 := k181 63 (by decide)
          exact ih _ (show (4000 - (gw + 1)) < n by omega) (gn := gn9) (gw := gw + 1) rfl (gs_ne rfl rfl (gs_ne rfl rfl g0)) gs_eq I179 (fr1.tr (by decide) (fr1.up (by decide) hF) k181) (fr2.tr (by decide) hA k182) (show (F177 62) = (gw + 1) ∧ (gw + 1) ≤ 4000 by omega) (show wr A178 from p180a) (show wq A178 from p180b) (show 0 ≤ (F177 48) ∧ (F177 48) ≤ (gw + 1) by omega) (show ∀ q : Int, 0 ≤ q → q < 16384 → (A178 47) q ≤ (F177 48) from p180d) (show ∀ q : Int, q ≠ 0 → (A178 2) q = A0 2 q from fun q hq => (p180e q hq).trans (i5 q hq)) (show ∀ q : Int, 400 ≤ q → (A178 1) q = A0 1 q from fun q hq => (p180f q hq).trans (i6 q hq)) (show 0 ≤ (F177 50) ∧ (F177 50) ≤ 202 + (gw + 1) by omega) (show (F177 63) = -1 ∨ ∃ m, act (A0 24) (A0 26) (F0 28) ((F177 63)) m from hact) (show (A178 2) 0 = (gn9) ∧ (gn9) ≤ 400 from hn9) (show x175.toInt = -1 ∨ (x175.toInt = -2 ∧ wf ((A178 1)) 0 (gn9)) ∨ ((lp (A0 24) (F0 28) x175.toInt ∧ (F177 50) ≤ lm x175.toInt) ∧ (0 ≤ (F177 55) ∧ (F177 55) ≤ (gn9) ∧ 0 ≤ (F177 59) ∧ (F177 59) ≤ (gn9)) ∧ mk ((A178 1)) (gn9) ((F177 55) + 1) ∧ wk (A0 24) (A0 25) (F0 28) ((F177 55)) ((A178 51)) ((A178 52)) ((A178 54)) (gn9)) from hia)
theorem b_X10_walks_2 {h0 : am_h} {F0 : rf_f} {A0 : rf_A} {lm : Int → Int} {gT : Int} (p1 : nn (A0 24) (A0 25) (F0 28) gT) (p2 : nw (A0 24) (A0 25) (A0 26) lm (F0 28)) (p5 : wr A0) (p6 : wq A0) : ∀ (n : Nat) {lv : am_l} {h : am_h} {F : rf_f} {A : rf_A} {v1 : Int32} {gk : Nat}, (16384 - gk) = n → am_get lv 0 = some (.inr (.inr (some 81))) → am_get lv 1 = some (.inl v1) → rf_I h0 h F A → fr1 [59, 55, 50, 48, 62, 63, 64, 65] F0 F → fr2 [1, 2, 56, 57, 58, 61, 49, 51, 52, 53, 54, 60, 43, 44, 45, 46, 47] A0 A → (v1.toInt = gk ∧ gk ≤ 16384) → (∀ q : Int, 0 ≤ q → q < gk → A 47 q ≤ 0) → (wr A) → (fr2 [47] A0 A) → am_Ok am_G 5 234 (2, lv, [], h, 0, 0) (rf_V h0 (fun F' A' => fr1 [59, 55, 50, 48, 62, 63, 64, 65] F0 F' ∧ fr2 [1, 2, 56, 57, 58, 61, 49, 51, 52, 53, 54, 60, 43, 44, 45, 46, 47] A0 A' ∧ (wr A' ∧ wq A' ∧ (∀ q : Int, q ≠ 0 → A' 2 q = A0 2 q) ∧ (∀ q : Int, 400 ≤ q → A' 1 q = A0 1 q) ∧ (∃ n' : Nat, n' ≤ 400 ∧ A' 2 0 = n' ∧ (F' 65 = 1 → wf (A' 1) 0 n')) ∧ (F' 65 = 0 ∨ F' 65 = 1) ∧ (F' 63 = -1 ∨ ∃ m, act (A0 24) (A0 26) (F0 28) (F' 63) m)))) := by
  intro n
  induction n using Nat.strongRecOn with
  | ind n ih =>
    intro lv h F A v1 gk hn g0 g1 hI hF hA i1 i2 i3 i4
    refine k_iload 3 rfl g1 rfl ?_
    refine k_push 6 rfl rfl ?_
    have hc185 : (16384 : Int32).toInt = 16384 := by decide
    by_cases b186 : (16384 : Int32) ≤ v1
    · refine k_c2 22 rfl rfl (if_pos b186) ?_
      have b186 := iv_le.mp b186
      refine k_aload 23 rfl g0 rfl ?_
      refine k_push 24 rfl rfl ?_
      have hc187 : (0 : Int32).toInt = 0 := by decide
      refine r_pI hI 27 rfl rfl rfl (fun h188 I189 => ?_)
      refine k_aload 28 rfl g0 rfl ?_
      refine k_push 29 rfl rfl ?_
      refine r_pI I189 32 rfl rfl rfl (fun h190 I191 => ?_)
      refine k_aload 33 rfl g0 rfl ?_
      refine k_push 34 rfl rfl ?_
      refine r_pI I191 37 rfl rfl rfl (fun h192 I193 => ?_)
      refine k_aload 38 rfl g0 rfl ?_
      refine k_push 39 rfl rfl ?_
      refine r_pI I193 42 rfl rfl rfl (fun h194 I195 => ?_)
      refine k_aload 43 rfl g0 rfl ?_
      refine k_push 44 rfl rfl ?_
      refine r_pI I195 47 rfl rfl rfl (fun h196 I197 => ?_)
      refine k_aload 48 rfl g0 rfl ?_
      refine k_push 49 rfl rfl ?_
      have hc198 : (-1 : Int32).toInt = -1 := by decide
      refine r_pI I197 52 rfl rfl rfl (fun h199 I200 => ?_)
      refine k_aload 53 rfl g0 rfl ?_
      refine k_push 54 rfl rfl ?_
      refine r_pI I200 57 rfl rfl rfl (fun h201 I202 => ?_)
      refine k_aload 58 rfl g0 rfl ?_
      refine r_gA I202 61 rfl rfl rfl ?_
      refine k_push 62 rfl rfl ?_
      refine k_push 63 rfl rfl ?_
      refine r_st 2 I202 64 rfl rfl (by omega) (show (0 : Int32).toInt < 3 by omega) rfl (fun h203 I204 => ?_)
      refine k_push 65 rfl rfl ?_
      refine k_istore 66 rfl rfl ?_
      exact b_X10_walks_66 (lm := lm) (gT := gT)  p1 p2 p5 p6 _ (gn := 0) (gw := 0) rfl (gs_ne rfl rfl g0) gs_eq I204 (fr1.up (by decide) (fr1.up (by decide) (fr1.up (by decide) (fr1.up (by decide) (fr1.up (by decide) (fr1.up (by decide) (fr1.up (by decide) hF))))))) (fr2.up (by decide) hA) (show ((0 : Int32).toInt) = (0) ∧ (0) ≤ 4000 by omega) ((i3.o (by decide))) (((p6.fr i4 (by decide)).o (by decide))) (show 0 ≤ ((0 : Int32).toInt) ∧ ((0 : Int32).toInt) ≤ (0) by omega) (fun q q1 q2 => by rw [up2_r (by decide)]; exact i2 q q1 (by omega)) (fun q hq => by rw [up2_if, if_neg (by omega), i4 2 (by decide)]) (fun q hq => by rw [up2_r (by decide), i4 1 (by decide)]) (show 0 ≤ ((0 : Int32).toInt) ∧ ((0 : Int32).toInt) ≤ 202 + (0) by omega) (Or.inl (show (-1 : Int32).toInt = -1 by decide)) (⟨by rw [up2_if, if_pos (by decide)]; decide, by omega⟩) (Or.inr (Or.inr ⟨root_ok p1 p2, (show (0 : Int) ≤ (0 : Int32).toInt ∧ (0 : Int32).toInt ≤ ((0 : Nat) : Int) ∧ (0 : Int) ≤ (0 : Int32).toInt ∧ (0 : Int32).toInt ≤ ((0 : Nat) : Int) by decide), (show mk _ 0 ((0 : Int32).toInt + 1) by rw [show (0 : Int32).toInt + 1 = 1 by decide]; exact mk.z), (show wk _ _ _ (0 : Int32).toInt _ _ _ 0 by rw [show (0 : Int32).toInt = 0 by decide]; exact wk.z)⟩))
    · refine k_c2 9 rfl rfl (if_neg b186) ?_
      have b186 := mt iv_le.mpr b186
      refine k_aload 10 rfl g0 rfl ?_
      refine r_gA hI 13 rfl rfl rfl ?_
      refine k_iload 14 rfl g1 rfl ?_
      refine k_push 15 rfl rfl ?_
      have hc205 : (0 : Int32).toInt = 0 := by decide
      refine r_st 47 hI 16 rfl rfl (by omega) (show v1.toInt < 16384 by omega) rfl (fun h206 I207 => ?_)
      have hc208 : (1 : Int32).toInt = 1 := by decide
      obtain ⟨x209, q210⟩ : ∃ q : Int32, q = v1 + (1 : Int32) := ⟨_, rfl⟩
      have e211 : x209.toInt = v1.toInt + 1 := by rw [q210, iv_add (by omega) (by omega)]; omega
      refine k_iinc x209 19 rfl g1 q210.symm rfl ?_
      refine k_goto 2 rfl rfl ?_
      exact ih _ (show (16384 - (gk + 1)) < n by omega) (gk := gk + 1) rfl (gs_ne rfl rfl g0) gs_eq I207 hF (fr2.up (by decide) hA) (show x209.toInt = (gk + 1) ∧ (gk + 1) ≤ 16384 by omega) (wl_47 i2 (by omega) (by decide)) (show wr (up2 A 47 v1.toInt (0 : Int32).toInt) from i3.u47 (by decide)) (show fr2 [47] A0 (up2 A 47 v1.toInt (0 : Int32).toInt) from fr2.up (by decide) i4)
theorem m_walks {h0 : am_h} {F0 : rf_f} {A0 : rf_A} {lm : Int → Int} {gT : Int} (hR : rf_R h0 F0 A0) (p1 : nn (A0 24) (A0 25) (F0 28) gT) (p2 : nw (A0 24) (A0 25) (A0 26) lm (F0 28)) (p5 : wr A0) (p6 : wq A0) : am_Mt 6 234 [.inr (.inr (some 81))] h0 (rf_V h0 (fun F' A' => fr1 [59, 55, 50, 48, 62, 63, 64, 65] F0 F' ∧ fr2 [1, 2, 56, 57, 58, 61, 49, 51, 52, 53, 54, 60, 43, 44, 45, 46, 47] A0 A' ∧ (wr A' ∧ wq A' ∧ (∀ q : Int, q ≠ 0 → A' 2 q = A0 2 q) ∧ (∀ q : Int, 400 ≤ q → A' 1 q = A0 1 q) ∧ (∃ n' : Nat, n' ≤ 400 ∧ A' 2 0 = n' ∧ (F' 65 = 1 → wf (A' 1) 0 n')) ∧ (F' 65 = 0 ∨ F' 65 = 1) ∧ (F' 63 = -1 ∨ ∃ m, act (A0 24) (A0 26) (F0 28) (F' 63) m)))) := by
  refine am_Mt.of (D := 5) ?_
  have hI : rf_I h0 h0 F0 A0 := rf_I.start hR
  refine k_push 1 rfl rfl ?_
  have hc212 : (0 : Int32).toInt = 0 := by decide
  refine k_istore 2 rfl rfl ?_
  exact b_X10_walks_2 (lm := lm) (gT := gT)  p1 p2 p5 p6 _ (gk := 0) rfl (gs_ne rfl rfl rfl) gs_eq hI fr1.rf fr2.rf (show (0 : Int32).toInt = (0) ∧ (0) ≤ 16384 by omega) (show ∀ q : Int, 0 ≤ q → q < (0) → (A0 47) q ≤ 0 from fun q q1 q2 => by omega) (show wr A0 from p5) (show fr2 [47] A0 A0 from fr2.rf)
end
