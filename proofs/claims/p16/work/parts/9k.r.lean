section
set_option maxHeartbeats 4000000 in
theorem b_X10_tell_56 {h0 : am_h} {F0 : rf_f} {A0 : rf_A} {w1 : Int32} {gT : Int} {tx : List Int} (p1 : nt (A0 24) (A0 25) (A0 26) (F0 28) gT (F0 27)) (p2 : wr A0) (p3 : wq A0) (p4 : tq (A0 1) (A0 2 2)) (p5 : 0 ≤ F0 4 ∧ F0 4 ≤ 700 ∧ 0 ≤ F0 23 ∧ F0 23 ≤ 1000000 ∧ 200 ≤ gT) (pT : imp (0 ≤ w1.toInt ∧ w1.toInt ≤ F0 4) (TP tx w1.toInt (A0 3))) : ∀ (n : Nat) {lv : am_l} {h : am_h} {F : rf_f} {A : rf_A} {v1 : Int32} {v2 : Int32} {gc : List Int}, ((120 - v2.toInt).toNat) = n → am_get lv 0 = some (.inr (.inr (some 81))) → am_get lv 1 = some (.inl v1) → am_get lv 2 = some (.inl v2) → rf_I h0 h F A → fr1 [0, 4, 7, 8, 10, 9, 14, 11, 12, 13, 6, 5, 23, 20, 21, 18, 36, 37, 38, 27, 28, 30, 32] F0 F → fr2 [22, 19, 15, 17, 16, 33, 34, 35, 39, 1, 2, 24, 25, 26, 29, 31] A0 A → (0 ≤ v2.toInt ∧ v2.toInt ≤ F 23 ∧ F 23 ≤ 120 ∧ 0 ≤ w1.toInt ∧ w1.toInt ≤ F0 4 ∧ F 4 = 0) → (rz (A 22) (F 23)) → (∀ k : Int, 2600 ≤ k → k < 2600 + v2.toInt → A 1 k = A 22 (k - 2600)) → (nt (A 33) (A 34) (A 35) (F 37) gT (F 36)) → (F 38 = A0 2 2) → (∀ k : Int, 0 ≤ k → k < A0 2 2 → A 39 k = A0 1 (2600 + k)) → (XW tx gc (F 5) (F 23) (A 22)) → (F 0 = 0 ∧ (tx.length : Int) = w1.toInt) → (v1.toInt = w1.toInt) → am_Ok am_G 241 186 (56, lv, [], h, 0, 0) (rf_Q h0 (fun x F' A' => fr1 [0, 4, 7, 8, 10, 9, 14, 11, 12, 13, 6, 5, 23, 20, 21, 18, 36, 37, 38, 27, 28, 30, 32] F0 F' ∧ fr2 [22, 19, 15, 17, 16, 33, 34, 35, 39, 1, 2, 24, 25, 26, 29, 31] A0 A' ∧ (nt (A' 24) (A' 25) (A' 26) (F' 28) gT (F' 27) ∧ wr A' ∧ wq A' ∧ tq (A' 1) (A' 2 2) ∧ ((0 ≤ w1.toInt ∧ w1.toInt ≤ F0 4 → F' 4 = 0) ∧ (¬ (0 ≤ w1.toInt ∧ w1.toInt ≤ F0 4) → F' 4 = F0 4) ∧ 0 ≤ F' 23 ∧ F' 23 ≤ 1000000) ∧ ((¬ (0 ≤ w1.toInt ∧ w1.toInt ≤ F0 4) → F' 0 = 1 ∧ F' 5 = F0 5 ∧ x = 0) ∧ (0 ≤ w1.toInt ∧ w1.toInt ≤ F0 4 → F' 0 = 0)) ∧ imp (0 ≤ w1.toInt ∧ w1.toInt ≤ F0 4) (TZ tx x (F' 5) (A' 1) (A' 2)) ∧ imp (F' 0 ≠ 0 ∨ x ≠ 0) (TS (A0 1) (A0 2) (A' 1) (A' 2))))) := by
  intro n
  induction n using Nat.strongRecOn with
  | ind n ih =>
    intro lv h F A v1 v2 gc hn g0 g1 g2 hI hF hA i1 i2 i3 i4 i5 i6 i7 i8 i9
    have hq := p4.bd
    refine k_iload 57 rfl g2 rfl ?_
    refine k_aload 58 rfl g0 rfl ?_
    refine r_gI hI 61 rfl rfl rfl (fun x1 (e2 : x1.toInt = F 23) => ?_)
    by_cases b3 : x1 ≤ v2
    · refine k_c2 86 rfl rfl (if_pos b3) ?_
      have b3 := iv_le.mp b3
      have hag : ∀ k : Int, 2600 ≤ k → k < 2600 + F 23 → A 1 k = A 22 (k - 2600) := fun k h1 h2 => i3 k h1 (by omega)
      have hm5 := i7.2.2.1
      obtain ⟨n9, hn9, hs9⟩ := rz_txt i2 i1.2.2.1 (fun k h1 h2 => i3 k h1 (by omega))
      have hb1 := i4.1.1
      have hb2 := i4.1.2.1
      refine k_aload 87 rfl g0 rfl ?_
      refine r_gA hI 90 rfl rfl rfl ?_
      refine k_push 91 rfl rfl ?_
      have hc4 : (2 : Int32).toInt = 2 := by decide
      refine k_aload 92 rfl g0 rfl ?_
      refine r_gI hI 95 rfl rfl rfl (fun x5 (e6 : x5.toInt = F 23) => ?_)
      refine r_st 2 hI 96 rfl rfl (by omega) (show (2 : Int32).toInt < 3 by omega) rfl (fun h7 I8 => ?_)
      refine k_aload 97 rfl g0 rfl ?_
      refine k_rv I8 rfl (m_laysNet (gt := n9) I8.1 (by rw [up2_k (by decide)]; exact hs9) (show (n9) ≤ 120 by omega)) rfl rfl rfl I8.rc ?_
      rintro h10 F11 A12 I13 ⟨k15, k16, pq14⟩
      replace pq14 : F11 27 = F11 28 ∧ F11 28 = 1 + (cs ((A 1)) 120 0 2600 : Int) ∧ (F11 27 ≤ 400 → nt (A12 24) (A12 25) (A12 26) (F11 28) 200 (F11 27)) := pq14
      obtain ⟨pq14a, pq14b, pq14c⟩ := pq14
      show am_Ok _ _ _ (100, _, [], _, 0, 0) _
      have hl1 := pq14a
      have hl2 := pq14b
      refine k_aload 101 rfl g0 rfl ?_
      refine r_gI I13 104 rfl rfl rfl (fun x17 (e18 : x17.toInt = F11 27) => ?_)
      refine k_push 107 rfl rfl ?_
      have hc19 : (400 : Int32).toInt = 400 := by decide
      by_cases b20 : x17 ≤ (400 : Int32)
      · refine k_c2 126 rfl rfl (if_pos b20) ?_
        have b20 := iv_le.mp b20
        refine k_aload 127 rfl g0 rfl ?_
        refine k_rv I13 rfl (m_begins  I13.1 ) rfl rfl rfl I13.rc ?_
        rintro h22 F23 A24 I25 ⟨k27, k28, pq26⟩
        show am_Ok _ _ _ (130, _, [], _, 0, 0) _
        refine k_push 131 rfl rfl ?_
        have hc29 : (0 : Int32).toInt = 0 := by decide
        have e30 : F23 28 = F11 28 := k27 28 (by decide)
        have e31 : F23 27 = F11 27 := k27 27 (by decide)
        have e32 : F23 4 = F11 4 := k27 4 (by decide)
        have e33 : F11 4 = F 4 := k15 4 (by decide)
        have e34 : F23 23 = F11 23 := k27 23 (by decide)
        have e35 : F11 23 = F 23 := k15 23 (by decide)
        have e36 : F23 0 = F11 0 := k27 0 (by decide)
        have e37 : F11 0 = F 0 := k15 0 (by decide)
        have e38 : F23 5 = F11 5 := k27 5 (by decide)
        have e39 : F11 5 = F 5 := k15 5 (by decide)
        exact k_fin rfl rfl ⟨_, _, _, _, rfl, I25, (fr1.tr (by decide) (fr1.tr (by decide) hF k15) k27), (fr2.tr (by decide) (fr2.tr (by decide) (fr2.up (by decide) hA) k16) k28), ⟨(by rw [(k28 24 (by decide)), (k28 25 (by decide)), (k28 26 (by decide))]; show nt _ _ _ (F23 28) gT (F23 27); rw [(k27 28 (by decide)), (k27 27 (by decide))]; exact (pq14c (by omega)).mono (by omega)), p2.fr (l := [22, 19, 15, 17, 16, 33, 34, 35, 39, 1, 2, 24, 25, 26, 29, 31]) (fr2.tr (by decide) (fr2.tr (by decide) (fr2.up (by decide) hA) k16) k28) (by decide), p3.fr (l := [22, 19, 15, 17, 16, 33, 34, 35, 39, 1, 2, 24, 25, 26, 29, 31]) (fr2.tr (by decide) (fr2.tr (by decide) (fr2.up (by decide) hA) k16) k28) (by decide), ⟨n9, by rw [((k28 2 (by decide)).trans (k16 2 (by decide))), show (2 : Int) = (2 : Int32).toInt by decide]; exact up2_eq.trans (by omega), by rw [((k28 1 (by decide)).trans (k16 1 (by decide))), up2_k (by decide)]; exact hs9, by omega, by rw [((k28 1 (by decide)).trans (k16 1 (by decide))), up2_k (by decide)]; omega⟩, (show ((0 ≤ w1.toInt ∧ w1.toInt ≤ F0 4 → F23 4 = 0) ∧ (¬ (0 ≤ w1.toInt ∧ w1.toInt ≤ F0 4) → F23 4 = F0 4) ∧ 0 ≤ F23 23 ∧ F23 23 ≤ 1000000) by (repeat' apply And.intro) <;> omega), (show ((¬ (0 ≤ w1.toInt ∧ w1.toInt ≤ F0 4) → F23 0 = 1 ∧ F23 5 = F0 5 ∧ (0 : Int32).toInt = 0) ∧ (0 ≤ w1.toInt ∧ w1.toInt ≤ F0 4 → F23 0 = 0)) by omega), (fun z9 => (show TZ tx (0 : Int32).toInt (F23 5) ((A24 1)) ((A24 2)) from TZ.fine i7 hag hn9 hs9 (by omega) (by omega) (by omega) ((((k28 1 (by decide)).trans (k16 1 (by decide)))).trans (up2_k (by decide))) (by rw [((k28 2 (by decide)).trans (k16 2 (by decide))), show (2 : Int) = (2 : Int32).toInt by decide]; exact up2_eq.trans (by omega)))), (show imp (F23 0 ≠ 0 ∨ (0 : Int32).toInt ≠ 0) _ from fun z => absurd z (by omega))⟩⟩
      · refine k_c2 110 rfl rfl (if_neg b20) ?_
        have b20 := mt iv_le.mpr b20
        have hnt : nt (A12 33) (A12 34) (A12 35) (F11 37) gT (F11 36) := by rw [(k15 37 (by decide)), (k15 36 (by decide))]; exact i4.cg ((k16 33 (by decide)).trans (up2_k (by decide))) ((k16 34 (by decide)).trans (up2_k (by decide))) ((k16 35 (by decide)).trans (up2_k (by decide)))
        have hq39 : (A12 39) = A 39 := (k16 39 (by decide)).trans (up2_k (by decide))
        refine k_aload 111 rfl g0 rfl ?_
        have e40 : F11 37 = F 37 := k15 37 (by decide)
        have e41 : F11 38 = F 38 := k15 38 (by decide)
        refine k_rv I13 rfl (m_comesOld  I13.1 (show 0 ≤ (F11 37) ∧ (F11 37) ≤ 400 by omega) (show 0 ≤ (F11 38) ∧ (F11 38) ≤ 120 by omega)) rfl rfl rfl I13.rc ?_
        rintro h43 F44 A45 I46 ⟨k48, k49, pq47⟩
        have e50 : F11 36 = F 36 := k15 36 (by decide)
        replace pq47 : (F44 27 = (F11 36) ∧ F44 28 = (F11 37)) ∧ (∀ j : Int, 0 ≤ j → j < (F11 37) → A45 24 j = (A12 33) j ∧ A45 25 j = (A12 34) j) ∧ (∀ p : Int, 0 ≤ p → p < 4 * (F11 37) → A45 26 p = (A12 35) p) ∧ A45 2 2 = (F11 38) ∧ (∀ k : Int, 2600 ≤ k → k < 2600 + (F11 38) → A45 1 k = (A12 39) (k - 2600)) := pq47
        obtain ⟨pq47a, pq47b, pq47c, pq47d, pq47e⟩ := pq47
        show am_Ok _ _ _ (114, _, [], _, 0, 0) _
        have hcm : ∀ k : Int, 2600 ≤ k → k < 2600 + A0 2 2 → (A45 1) k = A0 1 k := fun k h1 h2 => by rw [pq47e k h1 (by omega), hq39, i6 (k - 2600) (by omega) (by omega)]; congr 1; omega
        refine k_aload 115 rfl g0 rfl ?_
        refine k_push 116 rfl rfl ?_
        have hc51 : (5 : Int32).toInt = 5 := by decide
        refine r_pI I46 119 rfl rfl rfl (fun h52 I53 => ?_)
        refine k_aload 120 rfl g0 rfl ?_
        refine k_iload 121 rfl g1 rfl ?_
        refine r_pI I53 124 rfl rfl rfl (fun h54 I55 => ?_)
        refine k_push 125 rfl rfl ?_
        have e56 : F44 4 = F11 4 := k48 4 (by decide)
        have e57 : F11 4 = F 4 := k15 4 (by decide)
        have e58 : F44 23 = F11 23 := k48 23 (by decide)
        have e59 : F11 23 = F 23 := k15 23 (by decide)
        have e60 : F44 0 = F11 0 := k48 0 (by decide)
        have e61 : F11 0 = F 0 := k15 0 (by decide)
        exact k_fin rfl rfl ⟨_, _, _, _, rfl, I55, (fr1.up (by decide) (fr1.up (by decide) (fr1.tr (by decide) (fr1.tr (by decide) hF k15) k48))), (fr2.tr (by decide) (fr2.tr (by decide) (fr2.up (by decide) hA) k16) k49), ⟨(by show nt (A45 24) (A45 25) (A45 26) (F44 28) gT (F44 27); rw [pq47a.1, pq47a.2]; exact hnt.agree pq47b pq47c), p2.fr (l := [22, 19, 15, 17, 16, 33, 34, 35, 39, 1, 2, 24, 25, 26, 29, 31]) (fr2.tr (by decide) (fr2.tr (by decide) (fr2.up (by decide) hA) k16) k49) (by decide), p3.fr (l := [22, 19, 15, 17, 16, 33, 34, 35, 39, 1, 2, 24, 25, 26, 29, 31]) (fr2.tr (by decide) (fr2.tr (by decide) (fr2.up (by decide) hA) k16) k49) (by decide), p4.congr (pq47d.trans (by omega)) hcm, (show ((0 ≤ w1.toInt ∧ w1.toInt ≤ F0 4 → F44 4 = 0) ∧ (¬ (0 ≤ w1.toInt ∧ w1.toInt ≤ F0 4) → F44 4 = F0 4) ∧ 0 ≤ F44 23 ∧ F44 23 ≤ 1000000) by (repeat' apply And.intro) <;> omega), (show ((¬ (0 ≤ w1.toInt ∧ w1.toInt ≤ F0 4) → F44 0 = 1 ∧ v1.toInt = F0 5 ∧ (5 : Int32).toInt = 0) ∧ (0 ≤ w1.toInt ∧ w1.toInt ≤ F0 4 → F44 0 = 0)) by omega), (fun z9 => (show TZ tx (5 : Int32).toInt (v1.toInt) ((A45 1)) ((A45 2)) from TZ.five i7 hag hn9 hs9 (by omega) (by omega) (by omega))), (fun _ => ⟨pq47d.trans (by omega), hcm⟩)⟩⟩
    · refine k_c2 64 rfl rfl (if_neg b3) ?_
      have b3 := mt iv_le.mpr b3
      refine k_aload 65 rfl g0 rfl ?_
      refine r_gA hI 68 rfl rfl rfl ?_
      refine k_push 71 rfl rfl ?_
      have hc62 : (2600 : Int32).toInt = 2600 := by decide
      refine k_iload 72 rfl g2 rfl ?_
      obtain ⟨x63, q64⟩ : ∃ q : Int32, q = ((2600 : Int32) + v2) := ⟨_, rfl⟩
      have e65 : x63.toInt = 2600 + v2.toInt := by rw [q64, iv_add (by omega) (by omega)]; omega
      refine k_bin x63 73 rfl q64.symm rfl ?_
      refine k_aload 74 rfl g0 rfl ?_
      refine r_gA hI 77 rfl rfl rfl ?_
      refine k_iload 78 rfl g2 rfl ?_
      refine r_ld 22 hI 79 rfl rfl (by omega) (show v2.toInt < 130 by omega) rfl (fun x66 (e67 : x66.toInt = A 22 v2.toInt) => ?_)
      have hx9 : x66.toInt = A 22 (x63.toInt - 2600) := e67.trans (congrArg (A 22) (by omega))
      refine r_st 1 hI 80 rfl rfl (by omega) (show x63.toInt < 3900 by omega) rfl (fun h68 I69 => ?_)
      have hc70 : (1 : Int32).toInt = 1 := by decide
      obtain ⟨x71, q72⟩ : ∃ q : Int32, q = v2 + (1 : Int32) := ⟨_, rfl⟩
      have e73 : x71.toInt = v2.toInt + 1 := by rw [q72, iv_add (by omega) (by omega)]; omega
      refine k_iinc x71 83 rfl g2 q72.symm rfl ?_
      refine k_goto 56 rfl rfl ?_
      exact ih _ (show ((120 - x71.toInt).toNat) < n by omega) (gc := gc) rfl (gs_ne rfl rfl g0) (gs_ne rfl rfl g1) gs_eq I69 hF (fr2.up (by decide) hA) (show 0 ≤ x71.toInt ∧ x71.toInt ≤ (F 23) ∧ (F 23) ≤ 120 ∧ 0 ≤ w1.toInt ∧ w1.toInt ≤ F0 4 ∧ (F 4) = 0 by omega) (by rw [up2_k (by decide)]; exact i2) (by rw [up2_k (j := 22) (by decide)]; exact co_1 i3 (by omega) hx9 (by omega)) (i4.cg (up2_k (by decide)) (up2_k (by decide)) (up2_k (by decide))) (show (F 38) = A0 2 2 by omega) (by rw [up2_k (by decide)]; exact i6) (by rw [up2_k (by decide)]; exact i7) (show (F 0) = 0 ∧ (tx.length : Int) = w1.toInt by omega) (i9)
set_option maxHeartbeats 4000000 in
theorem m_tell {h0 : am_h} {F0 : rf_f} {A0 : rf_A} {w1 : Int32} {gT : Int} {tx : List Int} (hR : rf_R h0 F0 A0) (p1 : nt (A0 24) (A0 25) (A0 26) (F0 28) gT (F0 27)) (p2 : wr A0) (p3 : wq A0) (p4 : tq (A0 1) (A0 2 2)) (p5 : 0 ≤ F0 4 ∧ F0 4 ≤ 700 ∧ 0 ≤ F0 23 ∧ F0 23 ≤ 1000000 ∧ 200 ≤ gT) (pT : imp (0 ≤ w1.toInt ∧ w1.toInt ≤ F0 4) (TP tx w1.toInt (A0 3))) : am_Mt 242 186 [.inr (.inr (some 81)), .inl w1] h0 (rf_Q h0 (fun x F' A' => fr1 [0, 4, 7, 8, 10, 9, 14, 11, 12, 13, 6, 5, 23, 20, 21, 18, 36, 37, 38, 27, 28, 30, 32] F0 F' ∧ fr2 [22, 19, 15, 17, 16, 33, 34, 35, 39, 1, 2, 24, 25, 26, 29, 31] A0 A' ∧ (nt (A' 24) (A' 25) (A' 26) (F' 28) gT (F' 27) ∧ wr A' ∧ wq A' ∧ tq (A' 1) (A' 2 2) ∧ ((0 ≤ w1.toInt ∧ w1.toInt ≤ F0 4 → F' 4 = 0) ∧ (¬ (0 ≤ w1.toInt ∧ w1.toInt ≤ F0 4) → F' 4 = F0 4) ∧ 0 ≤ F' 23 ∧ F' 23 ≤ 1000000) ∧ ((¬ (0 ≤ w1.toInt ∧ w1.toInt ≤ F0 4) → F' 0 = 1 ∧ F' 5 = F0 5 ∧ x = 0) ∧ (0 ≤ w1.toInt ∧ w1.toInt ≤ F0 4 → F' 0 = 0)) ∧ imp (0 ≤ w1.toInt ∧ w1.toInt ≤ F0 4) (TZ tx x (F' 5) (A' 1) (A' 2)) ∧ imp (F' 0 ≠ 0 ∨ x ≠ 0) (TS (A0 1) (A0 2) (A' 1) (A' 2))))) := by
  refine am_Mt.of (D := 241) ?_
  have hI : rf_I h0 h0 F0 A0 := rf_I.start hR
  have hb1 := p1.1.1
  have hb2 := p1.1.2.1
  have hq := p4.bd
  refine k_aload 1 rfl rfl rfl ?_
  refine k_push 2 rfl rfl ?_
  have hc74 : (0 : Int32).toInt = 0 := by decide
  refine r_pI hI 5 rfl rfl rfl (fun h75 I76 => ?_)
  refine k_aload 6 rfl rfl rfl ?_
  refine k_iload 7 rfl rfl rfl ?_
  refine k_push 8 rfl rfl ?_
  refine k_aload 9 rfl rfl rfl ?_
  refine r_gI I76 12 rfl rfl rfl (fun x77 (e78 : x77.toInt = F0 4) => ?_)
  refine k_in (d := 0) rfl rfl rfl rfl rfl ?_
  refine k_iload 1 rfl rfl rfl ?_
  refine k_iload 2 rfl rfl rfl ?_
  by_cases b79 : w1 < (0 : Int32)
  · refine k_c2 14 rfl rfl (if_pos b79) ?_
    have b79 := iv_lt.mp b79
    refine k_push 15 rfl rfl ?_
    refine k_fin rfl (fin_Z (Or.inl rfl)) ⟨_, _, rfl, rf_len I76 I76, ?_⟩
    show am_Ok _ _ _ (15, _, [.inl (0 : Int32), .inr (.inr (some 81))], _, 0, 0) _
    refine k_push 16 rfl rfl ?_
    have hc80 : (1 : Int32).toInt = 1 := by decide
    refine k_in (d := 0) rfl rfl rfl rfl I76.rc ?_
    refine k_aload 1 rfl rfl rfl ?_
    refine r_gI I76 4 rfl rfl rfl (fun x81 (e82 : x81.toInt = (0 : Int32).toInt) => ?_)
    by_cases b83 : x81 = 0
    · refine k_c1 7 rfl rfl (if_pos b83) ?_
      have b83 := iv_eq0.mp b83
      refine k_iload 8 rfl rfl rfl ?_
      refine k_c1 11 rfl rfl (if_pos (by decide)) ?_
      refine k_aload 12 rfl rfl rfl ?_
      refine k_iload 13 rfl rfl rfl ?_
      refine r_pI I76 16 rfl rfl rfl (fun h84 I85 => ?_)
      refine k_aload 17 rfl rfl rfl ?_
      refine r_gI I85 20 rfl rfl rfl (fun x86 (e87 : x86.toInt = (1 : Int32).toInt) => ?_)
      by_cases b88 : x86 = 0
      · refine k_c1 23 rfl rfl (if_pos b88) ?_
        have b88 := iv_eq0.mp b88
        refine k_push 24 rfl rfl ?_
        refine k_goto 28 rfl rfl ?_
        refine k_fin rfl (fin_Z (Or.inr rfl)) ⟨_, _, rfl, rf_len I76 I85, ?_⟩
        show am_Ok _ _ _ (19, _, [.inl (1 : Int32)], _, 0, 0) _
        refine k_c1 24 rfl rfl (if_neg (by decide)) ?_
        refine k_aload 25 rfl rfl rfl ?_
        refine k_push 26 rfl rfl ?_
        refine r_pI I85 29 rfl rfl rfl (fun h89 I90 => ?_)
        refine k_aload 30 rfl rfl rfl ?_
        refine k_iload 31 rfl rfl rfl ?_
        refine r_pI I90 34 rfl rfl rfl (fun h91 I92 => ?_)
        refine k_aload 35 rfl rfl rfl ?_
        refine k_rv I92 rfl (m_readsAll  I92.1 (show 0 ≤ (w1.toInt) ∧ (w1.toInt) ≤ 700 by omega) (show 0 ≤ (F0 23) ∧ (F0 23) ≤ 1000000 by omega) (show TP tx ((w1.toInt)) ((A0 3)) from pT (by omega))) rfl rfl rfl I92.rc ?_
        rintro h94 F95 A96 I97 ⟨k99, k100, pq98⟩
        replace pq98 : (0 ≤ F95 23 ∧ F95 23 ≤ 1000000) ∧ (F95 6 = 0 → F95 23 ≤ 120) ∧ imp (F95 6 = 0) (rz (A96 22) (F95 23)) ∧ XZ tx (F95 5) (F95 6) (F95 23) (A96 22) := pq98
        obtain ⟨pq98a, pq98b, pq98c, pq98d⟩ := pq98
        show am_Ok _ _ _ (38, _, [], _, 0, 0) _
        refine k_aload 39 rfl rfl rfl ?_
        refine k_in (d := 0) rfl rfl rfl rfl I97.rc ?_
        refine k_aload 1 rfl rfl rfl ?_
        refine r_gI I97 4 rfl rfl rfl (fun x101 (e102 : x101.toInt = F95 6) => ?_)
        by_cases b103 : x101 = 0
        · refine k_c1 7 rfl rfl (if_pos b103) ?_
          have b103 := iv_eq0.mp b103
          refine k_push 8 rfl rfl ?_
          refine k_goto 12 rfl rfl ?_
          refine k_fin rfl (fin_Z (Or.inr rfl)) ⟨_, _, rfl, rf_len I97 I97, ?_⟩
          show am_Ok _ _ _ (42, _, [.inl (1 : Int32)], _, 0, 0) _
          refine k_c1 50 rfl rfl (if_neg (by decide)) ?_
          have hrz := pq98c (by omega)
          have hr1 : (A96 1) = A0 1 := (k100 1 (by decide))
          have hr2 : (A96 2) 2 = A0 2 2 := congrFun (k100 2 (by decide)) 2
          have g24 : (A96 24) = A0 24 := (k100 24 (by decide))
          have g25 : (A96 25) = A0 25 := (k100 25 (by decide))
          have g26 : (A96 26) = A0 26 := (k100 26 (by decide))
          have g27 : F95 27 = F0 27 := (k99 27 (by decide))
          have g28 : F95 28 = F0 28 := (k99 28 (by decide))
          have f23 := pq98b (by omega)
          obtain ⟨gc, hgc⟩ := XZ.ok pq98d (by omega)
          have hpl := (pT (by omega)).1
          refine k_aload 51 rfl rfl rfl ?_
          have e104 : F95 28 = F0 28 := k99 28 (by decide)
          refine k_rv I97 rfl (m_keepsOld  I97.1 (show 0 ≤ (F95 28) ∧ (F95 28) ≤ 400 by omega) (show 0 ≤ (A96 2) 2 ∧ (A96 2) 2 ≤ 120 by rw [(k100 2 (by decide))]; exact ⟨by omega, hq.2⟩)) rfl rfl rfl I97.rc ?_
          rintro h106 F107 A108 I109 ⟨k111, k112, pq110⟩
          have e113 : F95 27 = F0 27 := k99 27 (by decide)
          replace pq110 : (F107 36 = (F95 27) ∧ F107 37 = (F95 28)) ∧ (∀ j : Int, 0 ≤ j → j < (F95 28) → A108 33 j = (A96 24) j ∧ A108 34 j = (A96 25) j) ∧ (∀ p : Int, 0 ≤ p → p < 4 * (F95 28) → A108 35 p = (A96 26) p) ∧ F107 38 = (A96 2) 2 ∧ (∀ k : Int, 0 ≤ k → k < (A96 2) 2 → A108 39 k = (A96 1) (2600 + k)) := pq110
          obtain ⟨pq110a, pq110b, pq110c, pq110d, pq110e⟩ := pq110
          show am_Ok _ _ _ (54, _, [], _, 0, 0) _
          have hold : nt (A108 33) (A108 34) (A108 35) (F95 28) gT (F95 27) := nt.agree (by rw [g24, g25, g26, g27, g28]; exact p1) pq110b pq110c
          refine k_push 55 rfl rfl ?_
          refine k_istore 56 rfl rfl ?_
          have e114 : F107 23 = F95 23 := k111 23 (by decide)
          have e115 : F107 4 = F95 4 := k111 4 (by decide)
          have e116 : F95 4 = (0 : Int32).toInt := k99 4 (by decide)
          have e117 : F107 5 = F95 5 := k111 5 (by decide)
          have e118 : F107 0 = F95 0 := k111 0 (by decide)
          have e119 : F95 0 = (1 : Int32).toInt := k99 0 (by decide)
          exact b_X10_tell_56 (gT := gT) (tx := tx) (w1 := w1) p1 p2 p3 p4 p5 pT _ (gc := gc) rfl (gs_ne rfl rfl rfl) (gs_ne rfl rfl rfl) gs_eq I109 (fr1.tr (by decide) (fr1.tr (by decide) (fr1.up (by decide) (fr1.up (by decide) (fr1.up (by decide) (fr1.up (by decide) fr1.rf)))) k99) k111) (fr2.tr (by decide) (fr2.tr (by decide) fr2.rf k100) k112) (show 0 ≤ (0 : Int32).toInt ∧ (0 : Int32).toInt ≤ (F107 23) ∧ (F107 23) ≤ 120 ∧ 0 ≤ w1.toInt ∧ w1.toInt ≤ F0 4 ∧ (F107 4) = 0 by omega) (show rz ((A108 22)) ((F107 23)) by rw [(k112 22 (by decide)), (k111 23 (by decide))]; exact hrz) (fun k h1 h2 => absurd h2 (by omega)) (show nt ((A108 33)) ((A108 34)) ((A108 35)) ((F107 37)) gT ((F107 36)) by rw [pq110a.1, pq110a.2]; exact hold) (show (F107 38) = A0 2 2 by rw [pq110d, hr2]) (fun k h1 h2 => by rw [← hr1]; exact pq110e k h1 (by rw [hr2]; exact h2)) (show XW tx (gc) ((F107 5)) ((F107 23)) ((A108 22)) by rw [(k112 22 (by decide)), (k111 23 (by decide)), (k111 5 (by decide))]; exact hgc) (show (F107 0) = 0 ∧ (tx.length : Int) = w1.toInt by omega) (rfl)
        · refine k_c1 11 rfl rfl (if_neg b103) ?_
          have b103 := mt iv_eq0.mpr b103
          refine k_push 12 rfl rfl ?_
          refine k_fin rfl (fin_Z (Or.inl rfl)) ⟨_, _, rfl, rf_len I97 I97, ?_⟩
          show am_Ok _ _ _ (42, _, [.inl (0 : Int32)], _, 0, 0) _
          refine k_c1 45 rfl rfl (if_pos (by decide)) ?_
          refine k_aload 46 rfl rfl rfl ?_
          refine r_gI I97 49 rfl rfl rfl (fun x120 (e121 : x120.toInt = F95 6) => ?_)
          have e122 : F95 28 = F0 28 := k99 28 (by decide)
          have e123 : F95 27 = F0 27 := k99 27 (by decide)
          have e124 : F95 4 = (0 : Int32).toInt := k99 4 (by decide)
          have e125 : F95 0 = (1 : Int32).toInt := k99 0 (by decide)
          exact k_fin rfl rfl ⟨_, _, _, _, rfl, I97, (fr1.tr (by decide) (fr1.up (by decide) (fr1.up (by decide) (fr1.up (by decide) (fr1.up (by decide) fr1.rf)))) k99), (fr2.tr (by decide) fr2.rf k100), ⟨by rw [(k100 24 (by decide)), (k100 25 (by decide)), (k100 26 (by decide)), (k99 28 (by decide)), (k99 27 (by decide))]; exact p1, p2.fr (l := [22, 19, 15, 17, 16, 33, 34, 35, 39, 1, 2, 24, 25, 26, 29, 31]) (fr2.tr (by decide) fr2.rf k100) (by decide), p3.fr (l := [22, 19, 15, 17, 16, 33, 34, 35, 39, 1, 2, 24, 25, 26, 29, 31]) (fr2.tr (by decide) fr2.rf k100) (by decide), by rw [(k100 1 (by decide)), (k100 2 (by decide))]; exact p4, (show ((0 ≤ w1.toInt ∧ w1.toInt ≤ F0 4 → F95 4 = 0) ∧ (¬ (0 ≤ w1.toInt ∧ w1.toInt ≤ F0 4) → F95 4 = F0 4) ∧ 0 ≤ F95 23 ∧ F95 23 ≤ 1000000) by (repeat' apply And.intro) <;> omega), (show ((¬ (0 ≤ w1.toInt ∧ w1.toInt ≤ F0 4) → F95 0 = 1 ∧ F95 5 = F0 5 ∧ x120.toInt = 0) ∧ (0 ≤ w1.toInt ∧ w1.toInt ≤ F0 4 → F95 0 = 0)) by omega), (fun z9 => (show TZ tx x120.toInt (F95 5) ((A96 1)) ((A96 2)) from TZ.bad pq98d (by omega) (by omega) rfl)), (fun _ => by rw [(k100 1 (by decide)), (k100 2 (by decide))]; exact ⟨rfl, fun _ _ _ => rfl⟩)⟩⟩
      · refine k_c1 27 rfl rfl (if_neg b88) ?_
        have b88 := mt iv_eq0.mpr b88
        refine k_push 28 rfl rfl ?_
        refine k_fin rfl (fin_Z (Or.inl rfl)) ⟨_, _, rfl, rf_len I76 I85, ?_⟩
        show am_Ok _ _ _ (19, _, [.inl (0 : Int32)], _, 0, 0) _
        refine k_c1 22 rfl rfl (if_pos (by decide)) ?_
        refine k_push 23 rfl rfl ?_
        exact k_fin rfl rfl ⟨_, _, _, _, rfl, I85, (fr1.up (by decide) (fr1.up (by decide) fr1.rf)), fr2.rf, ⟨p1, p2, p3, p4, (show ((0 ≤ w1.toInt ∧ w1.toInt ≤ F0 4 → F0 4 = 0) ∧ (¬ (0 ≤ w1.toInt ∧ w1.toInt ≤ F0 4) → F0 4 = F0 4) ∧ 0 ≤ F0 23 ∧ F0 23 ≤ 1000000) by (repeat' apply And.intro) <;> omega), (show ((¬ (0 ≤ w1.toInt ∧ w1.toInt ≤ F0 4) → (1 : Int32).toInt = 1 ∧ F0 5 = F0 5 ∧ (0 : Int32).toInt = 0) ∧ (0 ≤ w1.toInt ∧ w1.toInt ≤ F0 4 → (1 : Int32).toInt = 0)) by omega), (fun z => absurd z (by omega)), (fun _ => ⟨rfl, fun _ _ _ => rfl⟩)⟩⟩
    · refine k_c1 16 rfl rfl (if_neg b83) ?_
      have b83 := mt iv_eq0.mpr b83
      refine k_aload 17 rfl rfl rfl ?_
      refine r_gI I76 20 rfl rfl rfl (fun x126 (e127 : x126.toInt = (0 : Int32).toInt) => ?_)
      by_cases b128 : x126 = 0
      · refine k_c1 23 rfl rfl (if_pos b128) ?_
        have b128 := iv_eq0.mp b128
        refine k_push 24 rfl rfl ?_
        refine k_goto 28 rfl rfl ?_
        refine k_fin rfl (fin_Z (Or.inr rfl)) ⟨_, _, rfl, rf_len I76 I76, ?_⟩
        show am_Ok _ _ _ (19, _, [.inl (1 : Int32)], _, 0, 0) _
        refine k_c1 24 rfl rfl (if_neg (by decide)) ?_
        refine k_aload 25 rfl rfl rfl ?_
        refine k_push 26 rfl rfl ?_
        refine r_pI I76 29 rfl rfl rfl (fun h129 I130 => ?_)
        refine k_aload 30 rfl rfl rfl ?_
        refine k_iload 31 rfl rfl rfl ?_
        refine r_pI I130 34 rfl rfl rfl (fun h131 I132 => ?_)
        refine k_aload 35 rfl rfl rfl ?_
        refine k_rv I132 rfl (m_readsAll  I132.1 (show 0 ≤ (w1.toInt) ∧ (w1.toInt) ≤ 700 by omega) (show 0 ≤ (F0 23) ∧ (F0 23) ≤ 1000000 by omega) (show TP tx ((w1.toInt)) ((A0 3)) from pT (by omega))) rfl rfl rfl I132.rc ?_
        rintro h134 F135 A136 I137 ⟨k139, k140, pq138⟩
        replace pq138 : (0 ≤ F135 23 ∧ F135 23 ≤ 1000000) ∧ (F135 6 = 0 → F135 23 ≤ 120) ∧ imp (F135 6 = 0) (rz (A136 22) (F135 23)) ∧ XZ tx (F135 5) (F135 6) (F135 23) (A136 22) := pq138
        obtain ⟨pq138a, pq138b, pq138c, pq138d⟩ := pq138
        show am_Ok _ _ _ (38, _, [], _, 0, 0) _
        refine k_aload 39 rfl rfl rfl ?_
        refine k_in (d := 0) rfl rfl rfl rfl I137.rc ?_
        refine k_aload 1 rfl rfl rfl ?_
        refine r_gI I137 4 rfl rfl rfl (fun x141 (e142 : x141.toInt = F135 6) => ?_)
        by_cases b143 : x141 = 0
        · refine k_c1 7 rfl rfl (if_pos b143) ?_
          have b143 := iv_eq0.mp b143
          refine k_push 8 rfl rfl ?_
          refine k_goto 12 rfl rfl ?_
          refine k_fin rfl (fin_Z (Or.inr rfl)) ⟨_, _, rfl, rf_len I137 I137, ?_⟩
          show am_Ok _ _ _ (42, _, [.inl (1 : Int32)], _, 0, 0) _
          refine k_c1 50 rfl rfl (if_neg (by decide)) ?_
          have hrz := pq138c (by omega)
          have hr1 : (A136 1) = A0 1 := (k140 1 (by decide))
          have hr2 : (A136 2) 2 = A0 2 2 := congrFun (k140 2 (by decide)) 2
          have g24 : (A136 24) = A0 24 := (k140 24 (by decide))
          have g25 : (A136 25) = A0 25 := (k140 25 (by decide))
          have g26 : (A136 26) = A0 26 := (k140 26 (by decide))
          have g27 : F135 27 = F0 27 := (k139 27 (by decide))
          have g28 : F135 28 = F0 28 := (k139 28 (by decide))
          have f23 := pq138b (by omega)
          obtain ⟨gc, hgc⟩ := XZ.ok pq138d (by omega)
          have hpl := (pT (by omega)).1
          refine k_aload 51 rfl rfl rfl ?_
          have e144 : F135 28 = F0 28 := k139 28 (by decide)
          refine k_rv I137 rfl (m_keepsOld  I137.1 (show 0 ≤ (F135 28) ∧ (F135 28) ≤ 400 by omega) (show 0 ≤ (A136 2) 2 ∧ (A136 2) 2 ≤ 120 by rw [(k140 2 (by decide))]; exact ⟨by omega, hq.2⟩)) rfl rfl rfl I137.rc ?_
          rintro h146 F147 A148 I149 ⟨k151, k152, pq150⟩
          have e153 : F135 27 = F0 27 := k139 27 (by decide)
          replace pq150 : (F147 36 = (F135 27) ∧ F147 37 = (F135 28)) ∧ (∀ j : Int, 0 ≤ j → j < (F135 28) → A148 33 j = (A136 24) j ∧ A148 34 j = (A136 25) j) ∧ (∀ p : Int, 0 ≤ p → p < 4 * (F135 28) → A148 35 p = (A136 26) p) ∧ F147 38 = (A136 2) 2 ∧ (∀ k : Int, 0 ≤ k → k < (A136 2) 2 → A148 39 k = (A136 1) (2600 + k)) := pq150
          obtain ⟨pq150a, pq150b, pq150c, pq150d, pq150e⟩ := pq150
          show am_Ok _ _ _ (54, _, [], _, 0, 0) _
          have hold : nt (A148 33) (A148 34) (A148 35) (F135 28) gT (F135 27) := nt.agree (by rw [g24, g25, g26, g27, g28]; exact p1) pq150b pq150c
          refine k_push 55 rfl rfl ?_
          refine k_istore 56 rfl rfl ?_
          have e154 : F147 23 = F135 23 := k151 23 (by decide)
          have e155 : F147 4 = F135 4 := k151 4 (by decide)
          have e156 : F135 4 = (0 : Int32).toInt := k139 4 (by decide)
          have e157 : F147 5 = F135 5 := k151 5 (by decide)
          have e158 : F147 0 = F135 0 := k151 0 (by decide)
          have e159 : F135 0 = (0 : Int32).toInt := k139 0 (by decide)
          exact b_X10_tell_56 (gT := gT) (tx := tx) (w1 := w1) p1 p2 p3 p4 p5 pT _ (gc := gc) rfl (gs_ne rfl rfl rfl) (gs_ne rfl rfl rfl) gs_eq I149 (fr1.tr (by decide) (fr1.tr (by decide) (fr1.up (by decide) (fr1.up (by decide) (fr1.up (by decide) fr1.rf))) k139) k151) (fr2.tr (by decide) (fr2.tr (by decide) fr2.rf k140) k152) (show 0 ≤ (0 : Int32).toInt ∧ (0 : Int32).toInt ≤ (F147 23) ∧ (F147 23) ≤ 120 ∧ 0 ≤ w1.toInt ∧ w1.toInt ≤ F0 4 ∧ (F147 4) = 0 by omega) (show rz ((A148 22)) ((F147 23)) by rw [(k152 22 (by decide)), (k151 23 (by decide))]; exact hrz) (fun k h1 h2 => absurd h2 (by omega)) (show nt ((A148 33)) ((A148 34)) ((A148 35)) ((F147 37)) gT ((F147 36)) by rw [pq150a.1, pq150a.2]; exact hold) (show (F147 38) = A0 2 2 by rw [pq150d, hr2]) (fun k h1 h2 => by rw [← hr1]; exact pq150e k h1 (by rw [hr2]; exact h2)) (show XW tx (gc) ((F147 5)) ((F147 23)) ((A148 22)) by rw [(k152 22 (by decide)), (k151 23 (by decide)), (k151 5 (by decide))]; exact hgc) (show (F147 0) = 0 ∧ (tx.length : Int) = w1.toInt by omega) (rfl)
        · refine k_c1 11 rfl rfl (if_neg b143) ?_
          have b143 := mt iv_eq0.mpr b143
          refine k_push 12 rfl rfl ?_
          refine k_fin rfl (fin_Z (Or.inl rfl)) ⟨_, _, rfl, rf_len I137 I137, ?_⟩
          show am_Ok _ _ _ (42, _, [.inl (0 : Int32)], _, 0, 0) _
          refine k_c1 45 rfl rfl (if_pos (by decide)) ?_
          refine k_aload 46 rfl rfl rfl ?_
          refine r_gI I137 49 rfl rfl rfl (fun x160 (e161 : x160.toInt = F135 6) => ?_)
          have e162 : F135 28 = F0 28 := k139 28 (by decide)
          have e163 : F135 27 = F0 27 := k139 27 (by decide)
          have e164 : F135 4 = (0 : Int32).toInt := k139 4 (by decide)
          have e165 : F135 0 = (0 : Int32).toInt := k139 0 (by decide)
          exact k_fin rfl rfl ⟨_, _, _, _, rfl, I137, (fr1.tr (by decide) (fr1.up (by decide) (fr1.up (by decide) (fr1.up (by decide) fr1.rf))) k139), (fr2.tr (by decide) fr2.rf k140), ⟨by rw [(k140 24 (by decide)), (k140 25 (by decide)), (k140 26 (by decide)), (k139 28 (by decide)), (k139 27 (by decide))]; exact p1, p2.fr (l := [22, 19, 15, 17, 16, 33, 34, 35, 39, 1, 2, 24, 25, 26, 29, 31]) (fr2.tr (by decide) fr2.rf k140) (by decide), p3.fr (l := [22, 19, 15, 17, 16, 33, 34, 35, 39, 1, 2, 24, 25, 26, 29, 31]) (fr2.tr (by decide) fr2.rf k140) (by decide), by rw [(k140 1 (by decide)), (k140 2 (by decide))]; exact p4, (show ((0 ≤ w1.toInt ∧ w1.toInt ≤ F0 4 → F135 4 = 0) ∧ (¬ (0 ≤ w1.toInt ∧ w1.toInt ≤ F0 4) → F135 4 = F0 4) ∧ 0 ≤ F135 23 ∧ F135 23 ≤ 1000000) by (repeat' apply And.intro) <;> omega), (show ((¬ (0 ≤ w1.toInt ∧ w1.toInt ≤ F0 4) → F135 0 = 1 ∧ F135 5 = F0 5 ∧ x160.toInt = 0) ∧ (0 ≤ w1.toInt ∧ w1.toInt ≤ F0 4 → F135 0 = 0)) by omega), (fun z9 => (show TZ tx x160.toInt (F135 5) ((A136 1)) ((A136 2)) from TZ.bad pq138d (by omega) (by omega) rfl)), (fun _ => by rw [(k140 1 (by decide)), (k140 2 (by decide))]; exact ⟨rfl, fun _ _ _ => rfl⟩)⟩⟩
      · refine k_c1 27 rfl rfl (if_neg b128) ?_
        have b128 := mt iv_eq0.mpr b128
        refine k_push 28 rfl rfl ?_
        refine k_fin rfl (fin_Z (Or.inl rfl)) ⟨_, _, rfl, rf_len I76 I76, ?_⟩
        show am_Ok _ _ _ (19, _, [.inl (0 : Int32)], _, 0, 0) _
        refine k_c1 22 rfl rfl (if_pos (by decide)) ?_
        refine k_push 23 rfl rfl ?_
        exact k_fin rfl rfl ⟨_, _, _, _, rfl, I76, (fr1.up (by decide) fr1.rf), fr2.rf, ⟨p1, p2, p3, p4, (show ((0 ≤ w1.toInt ∧ w1.toInt ≤ F0 4 → F0 4 = 0) ∧ (¬ (0 ≤ w1.toInt ∧ w1.toInt ≤ F0 4) → F0 4 = F0 4) ∧ 0 ≤ F0 23 ∧ F0 23 ≤ 1000000) by (repeat' apply And.intro) <;> omega), (show ((¬ (0 ≤ w1.toInt ∧ w1.toInt ≤ F0 4) → (0 : Int32).toInt = 1 ∧ F0 5 = F0 5 ∧ (0 : Int32).toInt = 0) ∧ (0 ≤ w1.toInt ∧ w1.toInt ≤ F0 4 → (0 : Int32).toInt = 0)) by omega), (fun z => absurd z (by omega)), (fun _ => ⟨rfl, fun _ _ _ => rfl⟩)⟩⟩
  · refine k_c2 5 rfl rfl (if_neg b79) ?_
    have b79 := mt iv_lt.mpr b79
    refine k_iload 6 rfl rfl rfl ?_
    refine k_iload 7 rfl rfl rfl ?_
    by_cases b166 : x77 < w1
    · refine k_c2 14 rfl rfl (if_pos b166) ?_
      have b166 := iv_lt.mp b166
      refine k_push 15 rfl rfl ?_
      refine k_fin rfl (fin_Z (Or.inl rfl)) ⟨_, _, rfl, rf_len I76 I76, ?_⟩
      show am_Ok _ _ _ (15, _, [.inl (0 : Int32), .inr (.inr (some 81))], _, 0, 0) _
      refine k_push 16 rfl rfl ?_
      have hc167 : (1 : Int32).toInt = 1 := by decide
      refine k_in (d := 0) rfl rfl rfl rfl I76.rc ?_
      refine k_aload 1 rfl rfl rfl ?_
      refine r_gI I76 4 rfl rfl rfl (fun x168 (e169 : x168.toInt = (0 : Int32).toInt) => ?_)
      by_cases b170 : x168 = 0
      · refine k_c1 7 rfl rfl (if_pos b170) ?_
        have b170 := iv_eq0.mp b170
        refine k_iload 8 rfl rfl rfl ?_
        refine k_c1 11 rfl rfl (if_pos (by decide)) ?_
        refine k_aload 12 rfl rfl rfl ?_
        refine k_iload 13 rfl rfl rfl ?_
        refine r_pI I76 16 rfl rfl rfl (fun h171 I172 => ?_)
        refine k_aload 17 rfl rfl rfl ?_
        refine r_gI I172 20 rfl rfl rfl (fun x173 (e174 : x173.toInt = (1 : Int32).toInt) => ?_)
        by_cases b175 : x173 = 0
        · refine k_c1 23 rfl rfl (if_pos b175) ?_
          have b175 := iv_eq0.mp b175
          refine k_push 24 rfl rfl ?_
          refine k_goto 28 rfl rfl ?_
          refine k_fin rfl (fin_Z (Or.inr rfl)) ⟨_, _, rfl, rf_len I76 I172, ?_⟩
          show am_Ok _ _ _ (19, _, [.inl (1 : Int32)], _, 0, 0) _
          refine k_c1 24 rfl rfl (if_neg (by decide)) ?_
          refine k_aload 25 rfl rfl rfl ?_
          refine k_push 26 rfl rfl ?_
          refine r_pI I172 29 rfl rfl rfl (fun h176 I177 => ?_)
          refine k_aload 30 rfl rfl rfl ?_
          refine k_iload 31 rfl rfl rfl ?_
          refine r_pI I177 34 rfl rfl rfl (fun h178 I179 => ?_)
          refine k_aload 35 rfl rfl rfl ?_
          refine k_rv I179 rfl (m_readsAll  I179.1 (show 0 ≤ (w1.toInt) ∧ (w1.toInt) ≤ 700 by omega) (show 0 ≤ (F0 23) ∧ (F0 23) ≤ 1000000 by omega) (show TP tx ((w1.toInt)) ((A0 3)) from pT (by omega))) rfl rfl rfl I179.rc ?_
          rintro h181 F182 A183 I184 ⟨k186, k187, pq185⟩
          replace pq185 : (0 ≤ F182 23 ∧ F182 23 ≤ 1000000) ∧ (F182 6 = 0 → F182 23 ≤ 120) ∧ imp (F182 6 = 0) (rz (A183 22) (F182 23)) ∧ XZ tx (F182 5) (F182 6) (F182 23) (A183 22) := pq185
          obtain ⟨pq185a, pq185b, pq185c, pq185d⟩ := pq185
          show am_Ok _ _ _ (38, _, [], _, 0, 0) _
          refine k_aload 39 rfl rfl rfl ?_
          refine k_in (d := 0) rfl rfl rfl rfl I184.rc ?_
          refine k_aload 1 rfl rfl rfl ?_
          refine r_gI I184 4 rfl rfl rfl (fun x188 (e189 : x188.toInt = F182 6) => ?_)
          by_cases b190 : x188 = 0
          · refine k_c1 7 rfl rfl (if_pos b190) ?_
            have b190 := iv_eq0.mp b190
            refine k_push 8 rfl rfl ?_
            refine k_goto 12 rfl rfl ?_
            refine k_fin rfl (fin_Z (Or.inr rfl)) ⟨_, _, rfl, rf_len I184 I184, ?_⟩
            show am_Ok _ _ _ (42, _, [.inl (1 : Int32)], _, 0, 0) _
            refine k_c1 50 rfl rfl (if_neg (by decide)) ?_
            have hrz := pq185c (by omega)
            have hr1 : (A183 1) = A0 1 := (k187 1 (by decide))
            have hr2 : (A183 2) 2 = A0 2 2 := congrFun (k187 2 (by decide)) 2
            have g24 : (A183 24) = A0 24 := (k187 24 (by decide))
            have g25 : (A183 25) = A0 25 := (k187 25 (by decide))
            have g26 : (A183 26) = A0 26 := (k187 26 (by decide))
            have g27 : F182 27 = F0 27 := (k186 27 (by decide))
            have g28 : F182 28 = F0 28 := (k186 28 (by decide))
            have f23 := pq185b (by omega)
            obtain ⟨gc, hgc⟩ := XZ.ok pq185d (by omega)
            have hpl := (pT (by omega)).1
            refine k_aload 51 rfl rfl rfl ?_
            have e191 : F182 28 = F0 28 := k186 28 (by decide)
            refine k_rv I184 rfl (m_keepsOld  I184.1 (show 0 ≤ (F182 28) ∧ (F182 28) ≤ 400 by omega) (show 0 ≤ (A183 2) 2 ∧ (A183 2) 2 ≤ 120 by rw [(k187 2 (by decide))]; exact ⟨by omega, hq.2⟩)) rfl rfl rfl I184.rc ?_
            rintro h193 F194 A195 I196 ⟨k198, k199, pq197⟩
            have e200 : F182 27 = F0 27 := k186 27 (by decide)
            replace pq197 : (F194 36 = (F182 27) ∧ F194 37 = (F182 28)) ∧ (∀ j : Int, 0 ≤ j → j < (F182 28) → A195 33 j = (A183 24) j ∧ A195 34 j = (A183 25) j) ∧ (∀ p : Int, 0 ≤ p → p < 4 * (F182 28) → A195 35 p = (A183 26) p) ∧ F194 38 = (A183 2) 2 ∧ (∀ k : Int, 0 ≤ k → k < (A183 2) 2 → A195 39 k = (A183 1) (2600 + k)) := pq197
            obtain ⟨pq197a, pq197b, pq197c, pq197d, pq197e⟩ := pq197
            show am_Ok _ _ _ (54, _, [], _, 0, 0) _
            have hold : nt (A195 33) (A195 34) (A195 35) (F182 28) gT (F182 27) := nt.agree (by rw [g24, g25, g26, g27, g28]; exact p1) pq197b pq197c
            refine k_push 55 rfl rfl ?_
            refine k_istore 56 rfl rfl ?_
            have e201 : F194 23 = F182 23 := k198 23 (by decide)
            have e202 : F194 4 = F182 4 := k198 4 (by decide)
            have e203 : F182 4 = (0 : Int32).toInt := k186 4 (by decide)
            have e204 : F194 5 = F182 5 := k198 5 (by decide)
            have e205 : F194 0 = F182 0 := k198 0 (by decide)
            have e206 : F182 0 = (1 : Int32).toInt := k186 0 (by decide)
            exact b_X10_tell_56 (gT := gT) (tx := tx) (w1 := w1) p1 p2 p3 p4 p5 pT _ (gc := gc) rfl (gs_ne rfl rfl rfl) (gs_ne rfl rfl rfl) gs_eq I196 (fr1.tr (by decide) (fr1.tr (by decide) (fr1.up (by decide) (fr1.up (by decide) (fr1.up (by decide) (fr1.up (by decide) fr1.rf)))) k186) k198) (fr2.tr (by decide) (fr2.tr (by decide) fr2.rf k187) k199) (show 0 ≤ (0 : Int32).toInt ∧ (0 : Int32).toInt ≤ (F194 23) ∧ (F194 23) ≤ 120 ∧ 0 ≤ w1.toInt ∧ w1.toInt ≤ F0 4 ∧ (F194 4) = 0 by omega) (show rz ((A195 22)) ((F194 23)) by rw [(k199 22 (by decide)), (k198 23 (by decide))]; exact hrz) (fun k h1 h2 => absurd h2 (by omega)) (show nt ((A195 33)) ((A195 34)) ((A195 35)) ((F194 37)) gT ((F194 36)) by rw [pq197a.1, pq197a.2]; exact hold) (show (F194 38) = A0 2 2 by rw [pq197d, hr2]) (fun k h1 h2 => by rw [← hr1]; exact pq197e k h1 (by rw [hr2]; exact h2)) (show XW tx (gc) ((F194 5)) ((F194 23)) ((A195 22)) by rw [(k199 22 (by decide)), (k198 23 (by decide)), (k198 5 (by decide))]; exact hgc) (show (F194 0) = 0 ∧ (tx.length : Int) = w1.toInt by omega) (rfl)
          · refine k_c1 11 rfl rfl (if_neg b190) ?_
            have b190 := mt iv_eq0.mpr b190
            refine k_push 12 rfl rfl ?_
            refine k_fin rfl (fin_Z (Or.inl rfl)) ⟨_, _, rfl, rf_len I184 I184, ?_⟩
            show am_Ok _ _ _ (42, _, [.inl (0 : Int32)], _, 0, 0) _
            refine k_c1 45 rfl rfl (if_pos (by decide)) ?_
            refine k_aload 46 rfl rfl rfl ?_
            refine r_gI I184 49 rfl rfl rfl (fun x207 (e208 : x207.toInt = F182 6) => ?_)
            have e209 : F182 28 = F0 28 := k186 28 (by decide)
            have e210 : F182 27 = F0 27 := k186 27 (by decide)
            have e211 : F182 4 = (0 : Int32).toInt := k186 4 (by decide)
            have e212 : F182 0 = (1 : Int32).toInt := k186 0 (by decide)
            exact k_fin rfl rfl ⟨_, _, _, _, rfl, I184, (fr1.tr (by decide) (fr1.up (by decide) (fr1.up (by decide) (fr1.up (by decide) (fr1.up (by decide) fr1.rf)))) k186), (fr2.tr (by decide) fr2.rf k187), ⟨by rw [(k187 24 (by decide)), (k187 25 (by decide)), (k187 26 (by decide)), (k186 28 (by decide)), (k186 27 (by decide))]; exact p1, p2.fr (l := [22, 19, 15, 17, 16, 33, 34, 35, 39, 1, 2, 24, 25, 26, 29, 31]) (fr2.tr (by decide) fr2.rf k187) (by decide), p3.fr (l := [22, 19, 15, 17, 16, 33, 34, 35, 39, 1, 2, 24, 25, 26, 29, 31]) (fr2.tr (by decide) fr2.rf k187) (by decide), by rw [(k187 1 (by decide)), (k187 2 (by decide))]; exact p4, (show ((0 ≤ w1.toInt ∧ w1.toInt ≤ F0 4 → F182 4 = 0) ∧ (¬ (0 ≤ w1.toInt ∧ w1.toInt ≤ F0 4) → F182 4 = F0 4) ∧ 0 ≤ F182 23 ∧ F182 23 ≤ 1000000) by (repeat' apply And.intro) <;> omega), (show ((¬ (0 ≤ w1.toInt ∧ w1.toInt ≤ F0 4) → F182 0 = 1 ∧ F182 5 = F0 5 ∧ x207.toInt = 0) ∧ (0 ≤ w1.toInt ∧ w1.toInt ≤ F0 4 → F182 0 = 0)) by omega), (fun z9 => (show TZ tx x207.toInt (F182 5) ((A183 1)) ((A183 2)) from TZ.bad pq185d (by omega) (by omega) rfl)), (fun _ => by rw [(k187 1 (by decide)), (k187 2 (by decide))]; exact ⟨rfl, fun _ _ _ => rfl⟩)⟩⟩
        · refine k_c1 27 rfl rfl (if_neg b175) ?_
          have b175 := mt iv_eq0.mpr b175
          refine k_push 28 rfl rfl ?_
          refine k_fin rfl (fin_Z (Or.inl rfl)) ⟨_, _, rfl, rf_len I76 I172, ?_⟩
          show am_Ok _ _ _ (19, _, [.inl (0 : Int32)], _, 0, 0) _
          refine k_c1 22 rfl rfl (if_pos (by decide)) ?_
          refine k_push 23 rfl rfl ?_
          exact k_fin rfl rfl ⟨_, _, _, _, rfl, I172, (fr1.up (by decide) (fr1.up (by decide) fr1.rf)), fr2.rf, ⟨p1, p2, p3, p4, (show ((0 ≤ w1.toInt ∧ w1.toInt ≤ F0 4 → F0 4 = 0) ∧ (¬ (0 ≤ w1.toInt ∧ w1.toInt ≤ F0 4) → F0 4 = F0 4) ∧ 0 ≤ F0 23 ∧ F0 23 ≤ 1000000) by (repeat' apply And.intro) <;> omega), (show ((¬ (0 ≤ w1.toInt ∧ w1.toInt ≤ F0 4) → (1 : Int32).toInt = 1 ∧ F0 5 = F0 5 ∧ (0 : Int32).toInt = 0) ∧ (0 ≤ w1.toInt ∧ w1.toInt ≤ F0 4 → (1 : Int32).toInt = 0)) by omega), (fun z => absurd z (by omega)), (fun _ => ⟨rfl, fun _ _ _ => rfl⟩)⟩⟩
      · refine k_c1 16 rfl rfl (if_neg b170) ?_
        have b170 := mt iv_eq0.mpr b170
        refine k_aload 17 rfl rfl rfl ?_
        refine r_gI I76 20 rfl rfl rfl (fun x213 (e214 : x213.toInt = (0 : Int32).toInt) => ?_)
        by_cases b215 : x213 = 0
        · refine k_c1 23 rfl rfl (if_pos b215) ?_
          have b215 := iv_eq0.mp b215
          refine k_push 24 rfl rfl ?_
          refine k_goto 28 rfl rfl ?_
          refine k_fin rfl (fin_Z (Or.inr rfl)) ⟨_, _, rfl, rf_len I76 I76, ?_⟩
          show am_Ok _ _ _ (19, _, [.inl (1 : Int32)], _, 0, 0) _
          refine k_c1 24 rfl rfl (if_neg (by decide)) ?_
          refine k_aload 25 rfl rfl rfl ?_
          refine k_push 26 rfl rfl ?_
          refine r_pI I76 29 rfl rfl rfl (fun h216 I217 => ?_)
          refine k_aload 30 rfl rfl rfl ?_
          refine k_iload 31 rfl rfl rfl ?_
          refine r_pI I217 34 rfl rfl rfl (fun h218 I219 => ?_)
          refine k_aload 35 rfl rfl rfl ?_
          refine k_rv I219 rfl (m_readsAll  I219.1 (show 0 ≤ (w1.toInt) ∧ (w1.toInt) ≤ 700 by omega) (show 0 ≤ (F0 23) ∧ (F0 23) ≤ 1000000 by omega) (show TP tx ((w1.toInt)) ((A0 3)) from pT (by omega))) rfl rfl rfl I219.rc ?_
          rintro h221 F222 A223 I224 ⟨k226, k227, pq225⟩
          replace pq225 : (0 ≤ F222 23 ∧ F222 23 ≤ 1000000) ∧ (F222 6 = 0 → F222 23 ≤ 120) ∧ imp (F222 6 = 0) (rz (A223 22) (F222 23)) ∧ XZ tx (F222 5) (F222 6) (F222 23) (A223 22) := pq225
          obtain ⟨pq225a, pq225b, pq225c, pq225d⟩ := pq225
          show am_Ok _ _ _ (38, _, [], _, 0, 0) _
          refine k_aload 39 rfl rfl rfl ?_
          refine k_in (d := 0) rfl rfl rfl rfl I224.rc ?_
          refine k_aload 1 rfl rfl rfl ?_
          refine r_gI I224 4 rfl rfl rfl (fun x228 (e229 : x228.toInt = F222 6) => ?_)
          by_cases b230 : x228 = 0
          · refine k_c1 7 rfl rfl (if_pos b230) ?_
            have b230 := iv_eq0.mp b230
            refine k_push 8 rfl rfl ?_
            refine k_goto 12 rfl rfl ?_
            refine k_fin rfl (fin_Z (Or.inr rfl)) ⟨_, _, rfl, rf_len I224 I224, ?_⟩
            show am_Ok _ _ _ (42, _, [.inl (1 : Int32)], _, 0, 0) _
            refine k_c1 50 rfl rfl (if_neg (by decide)) ?_
            have hrz := pq225c (by omega)
            have hr1 : (A223 1) = A0 1 := (k227 1 (by decide))
            have hr2 : (A223 2) 2 = A0 2 2 := congrFun (k227 2 (by decide)) 2
            have g24 : (A223 24) = A0 24 := (k227 24 (by decide))
            have g25 : (A223 25) = A0 25 := (k227 25 (by decide))
            have g26 : (A223 26) = A0 26 := (k227 26 (by decide))
            have g27 : F222 27 = F0 27 := (k226 27 (by decide))
            have g28 : F222 28 = F0 28 := (k226 28 (by decide))
            have f23 := pq225b (by omega)
            obtain ⟨gc, hgc⟩ := XZ.ok pq225d (by omega)
            have hpl := (pT (by omega)).1
            refine k_aload 51 rfl rfl rfl ?_
            have e231 : F222 28 = F0 28 := k226 28 (by decide)
            refine k_rv I224 rfl (m_keepsOld  I224.1 (show 0 ≤ (F222 28) ∧ (F222 28) ≤ 400 by omega) (show 0 ≤ (A223 2) 2 ∧ (A223 2) 2 ≤ 120 by rw [(k227 2 (by decide))]; exact ⟨by omega, hq.2⟩)) rfl rfl rfl I224.rc ?_
            rintro h233 F234 A235 I236 ⟨k238, k239, pq237⟩
            have e240 : F222 27 = F0 27 := k226 27 (by decide)
            replace pq237 : (F234 36 = (F222 27) ∧ F234 37 = (F222 28)) ∧ (∀ j : Int, 0 ≤ j → j < (F222 28) → A235 33 j = (A223 24) j ∧ A235 34 j = (A223 25) j) ∧ (∀ p : Int, 0 ≤ p → p < 4 * (F222 28) → A235 35 p = (A223 26) p) ∧ F234 38 = (A223 2) 2 ∧ (∀ k : Int, 0 ≤ k → k < (A223 2) 2 → A235 39 k = (A223 1) (2600 + k)) := pq237
            obtain ⟨pq237a, pq237b, pq237c, pq237d, pq237e⟩ := pq237
            show am_Ok _ _ _ (54, _, [], _, 0, 0) _
            have hold : nt (A235 33) (A235 34) (A235 35) (F222 28) gT (F222 27) := nt.agree (by rw [g24, g25, g26, g27, g28]; exact p1) pq237b pq237c
            refine k_push 55 rfl rfl ?_
            refine k_istore 56 rfl rfl ?_
            have e241 : F234 23 = F222 23 := k238 23 (by decide)
            have e242 : F234 4 = F222 4 := k238 4 (by decide)
            have e243 : F222 4 = (0 : Int32).toInt := k226 4 (by decide)
            have e244 : F234 5 = F222 5 := k238 5 (by decide)
            have e245 : F234 0 = F222 0 := k238 0 (by decide)
            have e246 : F222 0 = (0 : Int32).toInt := k226 0 (by decide)
            exact b_X10_tell_56 (gT := gT) (tx := tx) (w1 := w1) p1 p2 p3 p4 p5 pT _ (gc := gc) rfl (gs_ne rfl rfl rfl) (gs_ne rfl rfl rfl) gs_eq I236 (fr1.tr (by decide) (fr1.tr (by decide) (fr1.up (by decide) (fr1.up (by decide) (fr1.up (by decide) fr1.rf))) k226) k238) (fr2.tr (by decide) (fr2.tr (by decide) fr2.rf k227) k239) (show 0 ≤ (0 : Int32).toInt ∧ (0 : Int32).toInt ≤ (F234 23) ∧ (F234 23) ≤ 120 ∧ 0 ≤ w1.toInt ∧ w1.toInt ≤ F0 4 ∧ (F234 4) = 0 by omega) (show rz ((A235 22)) ((F234 23)) by rw [(k239 22 (by decide)), (k238 23 (by decide))]; exact hrz) (fun k h1 h2 => absurd h2 (by omega)) (show nt ((A235 33)) ((A235 34)) ((A235 35)) ((F234 37)) gT ((F234 36)) by rw [pq237a.1, pq237a.2]; exact hold) (show (F234 38) = A0 2 2 by rw [pq237d, hr2]) (fun k h1 h2 => by rw [← hr1]; exact pq237e k h1 (by rw [hr2]; exact h2)) (show XW tx (gc) ((F234 5)) ((F234 23)) ((A235 22)) by rw [(k239 22 (by decide)), (k238 23 (by decide)), (k238 5 (by decide))]; exact hgc) (show (F234 0) = 0 ∧ (tx.length : Int) = w1.toInt by omega) (rfl)
          · refine k_c1 11 rfl rfl (if_neg b230) ?_
            have b230 := mt iv_eq0.mpr b230
            refine k_push 12 rfl rfl ?_
            refine k_fin rfl (fin_Z (Or.inl rfl)) ⟨_, _, rfl, rf_len I224 I224, ?_⟩
            show am_Ok _ _ _ (42, _, [.inl (0 : Int32)], _, 0, 0) _
            refine k_c1 45 rfl rfl (if_pos (by decide)) ?_
            refine k_aload 46 rfl rfl rfl ?_
            refine r_gI I224 49 rfl rfl rfl (fun x247 (e248 : x247.toInt = F222 6) => ?_)
            have e249 : F222 28 = F0 28 := k226 28 (by decide)
            have e250 : F222 27 = F0 27 := k226 27 (by decide)
            have e251 : F222 4 = (0 : Int32).toInt := k226 4 (by decide)
            have e252 : F222 0 = (0 : Int32).toInt := k226 0 (by decide)
            exact k_fin rfl rfl ⟨_, _, _, _, rfl, I224, (fr1.tr (by decide) (fr1.up (by decide) (fr1.up (by decide) (fr1.up (by decide) fr1.rf))) k226), (fr2.tr (by decide) fr2.rf k227), ⟨by rw [(k227 24 (by decide)), (k227 25 (by decide)), (k227 26 (by decide)), (k226 28 (by decide)), (k226 27 (by decide))]; exact p1, p2.fr (l := [22, 19, 15, 17, 16, 33, 34, 35, 39, 1, 2, 24, 25, 26, 29, 31]) (fr2.tr (by decide) fr2.rf k227) (by decide), p3.fr (l := [22, 19, 15, 17, 16, 33, 34, 35, 39, 1, 2, 24, 25, 26, 29, 31]) (fr2.tr (by decide) fr2.rf k227) (by decide), by rw [(k227 1 (by decide)), (k227 2 (by decide))]; exact p4, (show ((0 ≤ w1.toInt ∧ w1.toInt ≤ F0 4 → F222 4 = 0) ∧ (¬ (0 ≤ w1.toInt ∧ w1.toInt ≤ F0 4) → F222 4 = F0 4) ∧ 0 ≤ F222 23 ∧ F222 23 ≤ 1000000) by (repeat' apply And.intro) <;> omega), (show ((¬ (0 ≤ w1.toInt ∧ w1.toInt ≤ F0 4) → F222 0 = 1 ∧ F222 5 = F0 5 ∧ x247.toInt = 0) ∧ (0 ≤ w1.toInt ∧ w1.toInt ≤ F0 4 → F222 0 = 0)) by omega), (fun z9 => (show TZ tx x247.toInt (F222 5) ((A223 1)) ((A223 2)) from TZ.bad pq225d (by omega) (by omega) rfl)), (fun _ => by rw [(k227 1 (by decide)), (k227 2 (by decide))]; exact ⟨rfl, fun _ _ _ => rfl⟩)⟩⟩
        · refine k_c1 27 rfl rfl (if_neg b215) ?_
          have b215 := mt iv_eq0.mpr b215
          refine k_push 28 rfl rfl ?_
          refine k_fin rfl (fin_Z (Or.inl rfl)) ⟨_, _, rfl, rf_len I76 I76, ?_⟩
          show am_Ok _ _ _ (19, _, [.inl (0 : Int32)], _, 0, 0) _
          refine k_c1 22 rfl rfl (if_pos (by decide)) ?_
          refine k_push 23 rfl rfl ?_
          exact k_fin rfl rfl ⟨_, _, _, _, rfl, I76, (fr1.up (by decide) fr1.rf), fr2.rf, ⟨p1, p2, p3, p4, (show ((0 ≤ w1.toInt ∧ w1.toInt ≤ F0 4 → F0 4 = 0) ∧ (¬ (0 ≤ w1.toInt ∧ w1.toInt ≤ F0 4) → F0 4 = F0 4) ∧ 0 ≤ F0 23 ∧ F0 23 ≤ 1000000) by (repeat' apply And.intro) <;> omega), (show ((¬ (0 ≤ w1.toInt ∧ w1.toInt ≤ F0 4) → (0 : Int32).toInt = 1 ∧ F0 5 = F0 5 ∧ (0 : Int32).toInt = 0) ∧ (0 ≤ w1.toInt ∧ w1.toInt ≤ F0 4 → (0 : Int32).toInt = 0)) by omega), (fun z => absurd z (by omega)), (fun _ => ⟨rfl, fun _ _ _ => rfl⟩)⟩⟩
    · refine k_c2 10 rfl rfl (if_neg b166) ?_
      have b166 := mt iv_lt.mpr b166
      refine k_push 11 rfl rfl ?_
      have hc253 : (1 : Int32).toInt = 1 := by decide
      refine k_goto 15 rfl rfl ?_
      refine k_fin rfl (fin_Z (Or.inr rfl)) ⟨_, _, rfl, rf_len I76 I76, ?_⟩
      show am_Ok _ _ _ (15, _, [.inl (1 : Int32), .inr (.inr (some 81))], _, 0, 0) _
      refine k_push 16 rfl rfl ?_
      refine k_in (d := 0) rfl rfl rfl rfl I76.rc ?_
      refine k_aload 1 rfl rfl rfl ?_
      refine r_gI I76 4 rfl rfl rfl (fun x254 (e255 : x254.toInt = (0 : Int32).toInt) => ?_)
      by_cases b256 : x254 = 0
      · refine k_c1 7 rfl rfl (if_pos b256) ?_
        have b256 := iv_eq0.mp b256
        refine k_iload 8 rfl rfl rfl ?_
        refine k_c1 16 rfl rfl (if_neg (by decide)) ?_
        refine k_aload 17 rfl rfl rfl ?_
        refine r_gI I76 20 rfl rfl rfl (fun x257 (e258 : x257.toInt = (0 : Int32).toInt) => ?_)
        by_cases b259 : x257 = 0
        · refine k_c1 23 rfl rfl (if_pos b259) ?_
          have b259 := iv_eq0.mp b259
          refine k_push 24 rfl rfl ?_
          refine k_goto 28 rfl rfl ?_
          refine k_fin rfl (fin_Z (Or.inr rfl)) ⟨_, _, rfl, rf_len I76 I76, ?_⟩
          show am_Ok _ _ _ (19, _, [.inl (1 : Int32)], _, 0, 0) _
          refine k_c1 24 rfl rfl (if_neg (by decide)) ?_
          refine k_aload 25 rfl rfl rfl ?_
          refine k_push 26 rfl rfl ?_
          refine r_pI I76 29 rfl rfl rfl (fun h260 I261 => ?_)
          refine k_aload 30 rfl rfl rfl ?_
          refine k_iload 31 rfl rfl rfl ?_
          refine r_pI I261 34 rfl rfl rfl (fun h262 I263 => ?_)
          refine k_aload 35 rfl rfl rfl ?_
          refine k_rv I263 rfl (m_readsAll  I263.1 (show 0 ≤ (w1.toInt) ∧ (w1.toInt) ≤ 700 by omega) (show 0 ≤ (F0 23) ∧ (F0 23) ≤ 1000000 by omega) (show TP tx ((w1.toInt)) ((A0 3)) from pT (by omega))) rfl rfl rfl I263.rc ?_
          rintro h265 F266 A267 I268 ⟨k270, k271, pq269⟩
          replace pq269 : (0 ≤ F266 23 ∧ F266 23 ≤ 1000000) ∧ (F266 6 = 0 → F266 23 ≤ 120) ∧ imp (F266 6 = 0) (rz (A267 22) (F266 23)) ∧ XZ tx (F266 5) (F266 6) (F266 23) (A267 22) := pq269
          obtain ⟨pq269a, pq269b, pq269c, pq269d⟩ := pq269
          show am_Ok _ _ _ (38, _, [], _, 0, 0) _
          refine k_aload 39 rfl rfl rfl ?_
          refine k_in (d := 0) rfl rfl rfl rfl I268.rc ?_
          refine k_aload 1 rfl rfl rfl ?_
          refine r_gI I268 4 rfl rfl rfl (fun x272 (e273 : x272.toInt = F266 6) => ?_)
          by_cases b274 : x272 = 0
          · refine k_c1 7 rfl rfl (if_pos b274) ?_
            have b274 := iv_eq0.mp b274
            refine k_push 8 rfl rfl ?_
            refine k_goto 12 rfl rfl ?_
            refine k_fin rfl (fin_Z (Or.inr rfl)) ⟨_, _, rfl, rf_len I268 I268, ?_⟩
            show am_Ok _ _ _ (42, _, [.inl (1 : Int32)], _, 0, 0) _
            refine k_c1 50 rfl rfl (if_neg (by decide)) ?_
            have hrz := pq269c (by omega)
            have hr1 : (A267 1) = A0 1 := (k271 1 (by decide))
            have hr2 : (A267 2) 2 = A0 2 2 := congrFun (k271 2 (by decide)) 2
            have g24 : (A267 24) = A0 24 := (k271 24 (by decide))
            have g25 : (A267 25) = A0 25 := (k271 25 (by decide))
            have g26 : (A267 26) = A0 26 := (k271 26 (by decide))
            have g27 : F266 27 = F0 27 := (k270 27 (by decide))
            have g28 : F266 28 = F0 28 := (k270 28 (by decide))
            have f23 := pq269b (by omega)
            obtain ⟨gc, hgc⟩ := XZ.ok pq269d (by omega)
            have hpl := (pT (by omega)).1
            refine k_aload 51 rfl rfl rfl ?_
            have e275 : F266 28 = F0 28 := k270 28 (by decide)
            refine k_rv I268 rfl (m_keepsOld  I268.1 (show 0 ≤ (F266 28) ∧ (F266 28) ≤ 400 by omega) (show 0 ≤ (A267 2) 2 ∧ (A267 2) 2 ≤ 120 by rw [(k271 2 (by decide))]; exact ⟨by omega, hq.2⟩)) rfl rfl rfl I268.rc ?_
            rintro h277 F278 A279 I280 ⟨k282, k283, pq281⟩
            have e284 : F266 27 = F0 27 := k270 27 (by decide)
            replace pq281 : (F278 36 = (F266 27) ∧ F278 37 = (F266 28)) ∧ (∀ j : Int, 0 ≤ j → j < (F266 28) → A279 33 j = (A267 24) j ∧ A279 34 j = (A267 25) j) ∧ (∀ p : Int, 0 ≤ p → p < 4 * (F266 28) → A279 35 p = (A267 26) p) ∧ F278 38 = (A267 2) 2 ∧ (∀ k : Int, 0 ≤ k → k < (A267 2) 2 → A279 39 k = (A267 1) (2600 + k)) := pq281
            obtain ⟨pq281a, pq281b, pq281c, pq281d, pq281e⟩ := pq281
            show am_Ok _ _ _ (54, _, [], _, 0, 0) _
            have hold : nt (A279 33) (A279 34) (A279 35) (F266 28) gT (F266 27) := nt.agree (by rw [g24, g25, g26, g27, g28]; exact p1) pq281b pq281c
            refine k_push 55 rfl rfl ?_
            refine k_istore 56 rfl rfl ?_
            have e285 : F278 23 = F266 23 := k282 23 (by decide)
            have e286 : F278 4 = F266 4 := k282 4 (by decide)
            have e287 : F266 4 = (0 : Int32).toInt := k270 4 (by decide)
            have e288 : F278 5 = F266 5 := k282 5 (by decide)
            have e289 : F278 0 = F266 0 := k282 0 (by decide)
            have e290 : F266 0 = (0 : Int32).toInt := k270 0 (by decide)
            exact b_X10_tell_56 (gT := gT) (tx := tx) (w1 := w1) p1 p2 p3 p4 p5 pT _ (gc := gc) rfl (gs_ne rfl rfl rfl) (gs_ne rfl rfl rfl) gs_eq I280 (fr1.tr (by decide) (fr1.tr (by decide) (fr1.up (by decide) (fr1.up (by decide) (fr1.up (by decide) fr1.rf))) k270) k282) (fr2.tr (by decide) (fr2.tr (by decide) fr2.rf k271) k283) (show 0 ≤ (0 : Int32).toInt ∧ (0 : Int32).toInt ≤ (F278 23) ∧ (F278 23) ≤ 120 ∧ 0 ≤ w1.toInt ∧ w1.toInt ≤ F0 4 ∧ (F278 4) = 0 by omega) (show rz ((A279 22)) ((F278 23)) by rw [(k283 22 (by decide)), (k282 23 (by decide))]; exact hrz) (fun k h1 h2 => absurd h2 (by omega)) (show nt ((A279 33)) ((A279 34)) ((A279 35)) ((F278 37)) gT ((F278 36)) by rw [pq281a.1, pq281a.2]; exact hold) (show (F278 38) = A0 2 2 by rw [pq281d, hr2]) (fun k h1 h2 => by rw [← hr1]; exact pq281e k h1 (by rw [hr2]; exact h2)) (show XW tx (gc) ((F278 5)) ((F278 23)) ((A279 22)) by rw [(k283 22 (by decide)), (k282 23 (by decide)), (k282 5 (by decide))]; exact hgc) (show (F278 0) = 0 ∧ (tx.length : Int) = w1.toInt by omega) (rfl)
          · refine k_c1 11 rfl rfl (if_neg b274) ?_
            have b274 := mt iv_eq0.mpr b274
            refine k_push 12 rfl rfl ?_
            refine k_fin rfl (fin_Z (Or.inl rfl)) ⟨_, _, rfl, rf_len I268 I268, ?_⟩
            show am_Ok _ _ _ (42, _, [.inl (0 : Int32)], _, 0, 0) _
            refine k_c1 45 rfl rfl (if_pos (by decide)) ?_
            refine k_aload 46 rfl rfl rfl ?_
            refine r_gI I268 49 rfl rfl rfl (fun x291 (e292 : x291.toInt = F266 6) => ?_)
            have e293 : F266 28 = F0 28 := k270 28 (by decide)
            have e294 : F266 27 = F0 27 := k270 27 (by decide)
            have e295 : F266 4 = (0 : Int32).toInt := k270 4 (by decide)
            have e296 : F266 0 = (0 : Int32).toInt := k270 0 (by decide)
            exact k_fin rfl rfl ⟨_, _, _, _, rfl, I268, (fr1.tr (by decide) (fr1.up (by decide) (fr1.up (by decide) (fr1.up (by decide) fr1.rf))) k270), (fr2.tr (by decide) fr2.rf k271), ⟨by rw [(k271 24 (by decide)), (k271 25 (by decide)), (k271 26 (by decide)), (k270 28 (by decide)), (k270 27 (by decide))]; exact p1, p2.fr (l := [22, 19, 15, 17, 16, 33, 34, 35, 39, 1, 2, 24, 25, 26, 29, 31]) (fr2.tr (by decide) fr2.rf k271) (by decide), p3.fr (l := [22, 19, 15, 17, 16, 33, 34, 35, 39, 1, 2, 24, 25, 26, 29, 31]) (fr2.tr (by decide) fr2.rf k271) (by decide), by rw [(k271 1 (by decide)), (k271 2 (by decide))]; exact p4, (show ((0 ≤ w1.toInt ∧ w1.toInt ≤ F0 4 → F266 4 = 0) ∧ (¬ (0 ≤ w1.toInt ∧ w1.toInt ≤ F0 4) → F266 4 = F0 4) ∧ 0 ≤ F266 23 ∧ F266 23 ≤ 1000000) by (repeat' apply And.intro) <;> omega), (show ((¬ (0 ≤ w1.toInt ∧ w1.toInt ≤ F0 4) → F266 0 = 1 ∧ F266 5 = F0 5 ∧ x291.toInt = 0) ∧ (0 ≤ w1.toInt ∧ w1.toInt ≤ F0 4 → F266 0 = 0)) by omega), (fun z9 => (show TZ tx x291.toInt (F266 5) ((A267 1)) ((A267 2)) from TZ.bad pq269d (by omega) (by omega) rfl)), (fun _ => by rw [(k271 1 (by decide)), (k271 2 (by decide))]; exact ⟨rfl, fun _ _ _ => rfl⟩)⟩⟩
        · refine k_c1 27 rfl rfl (if_neg b259) ?_
          have b259 := mt iv_eq0.mpr b259
          refine k_push 28 rfl rfl ?_
          refine k_fin rfl (fin_Z (Or.inl rfl)) ⟨_, _, rfl, rf_len I76 I76, ?_⟩
          show am_Ok _ _ _ (19, _, [.inl (0 : Int32)], _, 0, 0) _
          refine k_c1 22 rfl rfl (if_pos (by decide)) ?_
          refine k_push 23 rfl rfl ?_
          exact k_fin rfl rfl ⟨_, _, _, _, rfl, I76, (fr1.up (by decide) fr1.rf), fr2.rf, ⟨p1, p2, p3, p4, (show ((0 ≤ w1.toInt ∧ w1.toInt ≤ F0 4 → F0 4 = 0) ∧ (¬ (0 ≤ w1.toInt ∧ w1.toInt ≤ F0 4) → F0 4 = F0 4) ∧ 0 ≤ F0 23 ∧ F0 23 ≤ 1000000) by (repeat' apply And.intro) <;> omega), (show ((¬ (0 ≤ w1.toInt ∧ w1.toInt ≤ F0 4) → (0 : Int32).toInt = 1 ∧ F0 5 = F0 5 ∧ (0 : Int32).toInt = 0) ∧ (0 ≤ w1.toInt ∧ w1.toInt ≤ F0 4 → (0 : Int32).toInt = 0)) by omega), (fun z => absurd z (by omega)), (fun _ => ⟨rfl, fun _ _ _ => rfl⟩)⟩⟩
      · refine k_c1 16 rfl rfl (if_neg b256) ?_
        have b256 := mt iv_eq0.mpr b256
        refine k_aload 17 rfl rfl rfl ?_
        refine r_gI I76 20 rfl rfl rfl (fun x297 (e298 : x297.toInt = (0 : Int32).toInt) => ?_)
        by_cases b299 : x297 = 0
        · refine k_c1 23 rfl rfl (if_pos b299) ?_
          have b299 := iv_eq0.mp b299
          refine k_push 24 rfl rfl ?_
          refine k_goto 28 rfl rfl ?_
          refine k_fin rfl (fin_Z (Or.inr rfl)) ⟨_, _, rfl, rf_len I76 I76, ?_⟩
          show am_Ok _ _ _ (19, _, [.inl (1 : Int32)], _, 0, 0) _
          refine k_c1 24 rfl rfl (if_neg (by decide)) ?_
          refine k_aload 25 rfl rfl rfl ?_
          refine k_push 26 rfl rfl ?_
          refine r_pI I76 29 rfl rfl rfl (fun h300 I301 => ?_)
          refine k_aload 30 rfl rfl rfl ?_
          refine k_iload 31 rfl rfl rfl ?_
          refine r_pI I301 34 rfl rfl rfl (fun h302 I303 => ?_)
          refine k_aload 35 rfl rfl rfl ?_
          refine k_rv I303 rfl (m_readsAll  I303.1 (show 0 ≤ (w1.toInt) ∧ (w1.toInt) ≤ 700 by omega) (show 0 ≤ (F0 23) ∧ (F0 23) ≤ 1000000 by omega) (show TP tx ((w1.toInt)) ((A0 3)) from pT (by omega))) rfl rfl rfl I303.rc ?_
          rintro h305 F306 A307 I308 ⟨k310, k311, pq309⟩
          replace pq309 : (0 ≤ F306 23 ∧ F306 23 ≤ 1000000) ∧ (F306 6 = 0 → F306 23 ≤ 120) ∧ imp (F306 6 = 0) (rz (A307 22) (F306 23)) ∧ XZ tx (F306 5) (F306 6) (F306 23) (A307 22) := pq309
          obtain ⟨pq309a, pq309b, pq309c, pq309d⟩ := pq309
          show am_Ok _ _ _ (38, _, [], _, 0, 0) _
          refine k_aload 39 rfl rfl rfl ?_
          refine k_in (d := 0) rfl rfl rfl rfl I308.rc ?_
          refine k_aload 1 rfl rfl rfl ?_
          refine r_gI I308 4 rfl rfl rfl (fun x312 (e313 : x312.toInt = F306 6) => ?_)
          by_cases b314 : x312 = 0
          · refine k_c1 7 rfl rfl (if_pos b314) ?_
            have b314 := iv_eq0.mp b314
            refine k_push 8 rfl rfl ?_
            refine k_goto 12 rfl rfl ?_
            refine k_fin rfl (fin_Z (Or.inr rfl)) ⟨_, _, rfl, rf_len I308 I308, ?_⟩
            show am_Ok _ _ _ (42, _, [.inl (1 : Int32)], _, 0, 0) _
            refine k_c1 50 rfl rfl (if_neg (by decide)) ?_
            have hrz := pq309c (by omega)
            have hr1 : (A307 1) = A0 1 := (k311 1 (by decide))
            have hr2 : (A307 2) 2 = A0 2 2 := congrFun (k311 2 (by decide)) 2
            have g24 : (A307 24) = A0 24 := (k311 24 (by decide))
            have g25 : (A307 25) = A0 25 := (k311 25 (by decide))
            have g26 : (A307 26) = A0 26 := (k311 26 (by decide))
            have g27 : F306 27 = F0 27 := (k310 27 (by decide))
            have g28 : F306 28 = F0 28 := (k310 28 (by decide))
            have f23 := pq309b (by omega)
            obtain ⟨gc, hgc⟩ := XZ.ok pq309d (by omega)
            have hpl := (pT (by omega)).1
            refine k_aload 51 rfl rfl rfl ?_
            have e315 : F306 28 = F0 28 := k310 28 (by decide)
            refine k_rv I308 rfl (m_keepsOld  I308.1 (show 0 ≤ (F306 28) ∧ (F306 28) ≤ 400 by omega) (show 0 ≤ (A307 2) 2 ∧ (A307 2) 2 ≤ 120 by rw [(k311 2 (by decide))]; exact ⟨by omega, hq.2⟩)) rfl rfl rfl I308.rc ?_
            rintro h317 F318 A319 I320 ⟨k322, k323, pq321⟩
            have e324 : F306 27 = F0 27 := k310 27 (by decide)
            replace pq321 : (F318 36 = (F306 27) ∧ F318 37 = (F306 28)) ∧ (∀ j : Int, 0 ≤ j → j < (F306 28) → A319 33 j = (A307 24) j ∧ A319 34 j = (A307 25) j) ∧ (∀ p : Int, 0 ≤ p → p < 4 * (F306 28) → A319 35 p = (A307 26) p) ∧ F318 38 = (A307 2) 2 ∧ (∀ k : Int, 0 ≤ k → k < (A307 2) 2 → A319 39 k = (A307 1) (2600 + k)) := pq321
            obtain ⟨pq321a, pq321b, pq321c, pq321d, pq321e⟩ := pq321
            show am_Ok _ _ _ (54, _, [], _, 0, 0) _
            have hold : nt (A319 33) (A319 34) (A319 35) (F306 28) gT (F306 27) := nt.agree (by rw [g24, g25, g26, g27, g28]; exact p1) pq321b pq321c
            refine k_push 55 rfl rfl ?_
            refine k_istore 56 rfl rfl ?_
            have e325 : F318 23 = F306 23 := k322 23 (by decide)
            have e326 : F318 4 = F306 4 := k322 4 (by decide)
            have e327 : F306 4 = (0 : Int32).toInt := k310 4 (by decide)
            have e328 : F318 5 = F306 5 := k322 5 (by decide)
            have e329 : F318 0 = F306 0 := k322 0 (by decide)
            have e330 : F306 0 = (0 : Int32).toInt := k310 0 (by decide)
            exact b_X10_tell_56 (gT := gT) (tx := tx) (w1 := w1) p1 p2 p3 p4 p5 pT _ (gc := gc) rfl (gs_ne rfl rfl rfl) (gs_ne rfl rfl rfl) gs_eq I320 (fr1.tr (by decide) (fr1.tr (by decide) (fr1.up (by decide) (fr1.up (by decide) (fr1.up (by decide) fr1.rf))) k310) k322) (fr2.tr (by decide) (fr2.tr (by decide) fr2.rf k311) k323) (show 0 ≤ (0 : Int32).toInt ∧ (0 : Int32).toInt ≤ (F318 23) ∧ (F318 23) ≤ 120 ∧ 0 ≤ w1.toInt ∧ w1.toInt ≤ F0 4 ∧ (F318 4) = 0 by omega) (show rz ((A319 22)) ((F318 23)) by rw [(k323 22 (by decide)), (k322 23 (by decide))]; exact hrz) (fun k h1 h2 => absurd h2 (by omega)) (show nt ((A319 33)) ((A319 34)) ((A319 35)) ((F318 37)) gT ((F318 36)) by rw [pq321a.1, pq321a.2]; exact hold) (show (F318 38) = A0 2 2 by rw [pq321d, hr2]) (fun k h1 h2 => by rw [← hr1]; exact pq321e k h1 (by rw [hr2]; exact h2)) (show XW tx (gc) ((F318 5)) ((F318 23)) ((A319 22)) by rw [(k323 22 (by decide)), (k322 23 (by decide)), (k322 5 (by decide))]; exact hgc) (show (F318 0) = 0 ∧ (tx.length : Int) = w1.toInt by omega) (rfl)
          · refine k_c1 11 rfl rfl (if_neg b314) ?_
            have b314 := mt iv_eq0.mpr b314
            refine k_push 12 rfl rfl ?_
            refine k_fin rfl (fin_Z (Or.inl rfl)) ⟨_, _, rfl, rf_len I308 I308, ?_⟩
            show am_Ok _ _ _ (42, _, [.inl (0 : Int32)], _, 0, 0) _
            refine k_c1 45 rfl rfl (if_pos (by decide)) ?_
            refine k_aload 46 rfl rfl rfl ?_
            refine r_gI I308 49 rfl rfl rfl (fun x331 (e332 : x331.toInt = F306 6) => ?_)
            have e333 : F306 28 = F0 28 := k310 28 (by decide)
            have e334 : F306 27 = F0 27 := k310 27 (by decide)
            have e335 : F306 4 = (0 : Int32).toInt := k310 4 (by decide)
            have e336 : F306 0 = (0 : Int32).toInt := k310 0 (by decide)
            exact k_fin rfl rfl ⟨_, _, _, _, rfl, I308, (fr1.tr (by decide) (fr1.up (by decide) (fr1.up (by decide) (fr1.up (by decide) fr1.rf))) k310), (fr2.tr (by decide) fr2.rf k311), ⟨by rw [(k311 24 (by decide)), (k311 25 (by decide)), (k311 26 (by decide)), (k310 28 (by decide)), (k310 27 (by decide))]; exact p1, p2.fr (l := [22, 19, 15, 17, 16, 33, 34, 35, 39, 1, 2, 24, 25, 26, 29, 31]) (fr2.tr (by decide) fr2.rf k311) (by decide), p3.fr (l := [22, 19, 15, 17, 16, 33, 34, 35, 39, 1, 2, 24, 25, 26, 29, 31]) (fr2.tr (by decide) fr2.rf k311) (by decide), by rw [(k311 1 (by decide)), (k311 2 (by decide))]; exact p4, (show ((0 ≤ w1.toInt ∧ w1.toInt ≤ F0 4 → F306 4 = 0) ∧ (¬ (0 ≤ w1.toInt ∧ w1.toInt ≤ F0 4) → F306 4 = F0 4) ∧ 0 ≤ F306 23 ∧ F306 23 ≤ 1000000) by (repeat' apply And.intro) <;> omega), (show ((¬ (0 ≤ w1.toInt ∧ w1.toInt ≤ F0 4) → F306 0 = 1 ∧ F306 5 = F0 5 ∧ x331.toInt = 0) ∧ (0 ≤ w1.toInt ∧ w1.toInt ≤ F0 4 → F306 0 = 0)) by omega), (fun z9 => (show TZ tx x331.toInt (F306 5) ((A307 1)) ((A307 2)) from TZ.bad pq309d (by omega) (by omega) rfl)), (fun _ => by rw [(k311 1 (by decide)), (k311 2 (by decide))]; exact ⟨rfl, fun _ _ _ => rfl⟩)⟩⟩
        · refine k_c1 27 rfl rfl (if_neg b299) ?_
          have b299 := mt iv_eq0.mpr b299
          refine k_push 28 rfl rfl ?_
          refine k_fin rfl (fin_Z (Or.inl rfl)) ⟨_, _, rfl, rf_len I76 I76, ?_⟩
          show am_Ok _ _ _ (19, _, [.inl (0 : Int32)], _, 0, 0) _
          refine k_c1 22 rfl rfl (if_pos (by decide)) ?_
          refine k_push 23 rfl rfl ?_
          exact k_fin rfl rfl ⟨_, _, _, _, rfl, I76, (fr1.up (by decide) fr1.rf), fr2.rf, ⟨p1, p2, p3, p4, (show ((0 ≤ w1.toInt ∧ w1.toInt ≤ F0 4 → F0 4 = 0) ∧ (¬ (0 ≤ w1.toInt ∧ w1.toInt ≤ F0 4) → F0 4 = F0 4) ∧ 0 ≤ F0 23 ∧ F0 23 ≤ 1000000) by (repeat' apply And.intro) <;> omega), (show ((¬ (0 ≤ w1.toInt ∧ w1.toInt ≤ F0 4) → (0 : Int32).toInt = 1 ∧ F0 5 = F0 5 ∧ (0 : Int32).toInt = 0) ∧ (0 ≤ w1.toInt ∧ w1.toInt ≤ F0 4 → (0 : Int32).toInt = 0)) by omega), (fun z => absurd z (by omega)), (fun _ => ⟨rfl, fun _ _ _ => rfl⟩)⟩⟩
end
