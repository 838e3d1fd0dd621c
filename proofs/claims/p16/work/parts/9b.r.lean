section
theorem b_X10_readsName_25 {h0 : am_h} {F0 : rf_f} {A0 : rf_A} {tx : List Int} {gs : mS} (p1 : 0 ≤ F0 8 ∧ F0 8 ≤ F0 7 ∧ F0 7 ≤ 700 ∧ 0 ≤ F0 20 ∧ F0 20 ≤ 30 ∧ 0 ≤ F0 21 ∧ F0 21 ≤ 12 ∧ 0 ≤ F0 18 ∧ F0 18 ≤ 12 ∧ 0 ≤ F0 23 ∧ F0 23 ≤ 1000000 ∧ (F0 9 = 2 → 0 ≤ F0 11 ∧ F0 11 ≤ 9) ∧ 0 ≤ F0 9 ∧ F0 9 ≤ 4) (p2 : nm (A0 16) (A0 17) (F0 18)) (p3 : F0 9 = 1) (pT : TP tx (F0 7) (A0 3)) (p5 : F0 6 = 0) (p6 : TKv tx (m_e gs) (F0 8) (F0 9) (F0 10) (F0 11) (F0 12) (F0 13) (F0 14)) (p7 : RS gs (m_B gs) (F0 18) (F0 20) (F0 21) (F0 23) (A0 15) (A0 16) (A0 17) (A0 19) (A0 22)) (p8 : sA tx gs) (p9 : F0 20 = ((m_ar gs).length : Int)) : ∀ (n : Nat) {lv : am_l} {h : am_h} {F : rf_f} {A : rf_A} {v1 : Int32}, ((30 - v1.toInt).toNat) = n → am_get lv 0 = some (.inr (.inr (some 81))) → am_get lv 1 = some (.inl v1) → rf_I h0 h F A → fr1 [8, 10, 9, 14, 11, 12, 13, 6, 5, 23] F0 F → fr2 [22] A0 A → (0 ≤ v1.toInt ∧ v1.toInt ≤ F0 20) → (F = F0 ∧ A = A0) → (F0 6 = 0) → (∀ k : Int, 0 ≤ k → k < v1.toInt → A0 19 (F0 20 - 1 - k) ≠ F0 13) → (F0 14 ≤ 8) → am_Ok am_G 3 177 (25, lv, [], h, 0, 0) (rf_V h0 (fun F' A' => fr1 [8, 10, 9, 14, 11, 12, 13, 6, 5, 23] F0 F' ∧ fr2 [22] A0 A' ∧ ((F0 8 ≤ F' 8 ∧ F' 8 ≤ F0 7 ∧ F0 20 ≤ F' 20 ∧ F' 20 ≤ 30 ∧ F' 21 = F0 21 ∧ F0 23 ≤ F' 23 ∧ F' 23 ≤ 1000000 ∧ (F' 9 = 2 → 0 ≤ F' 11 ∧ F' 11 ≤ 9) ∧ 0 ≤ F' 9 ∧ F' 9 ≤ 4) ∧ (F' 6 = 0 → F' 20 = F0 20 ∧ F0 6 = 0 ∧ (F' 9 = 0 ∨ F0 8 < F' 8) ∧ F' 5 = F0 5) ∧ imp (F' 6 = 0) (F' 23 ≤ 124 → rd1 (A' 22) (A0 22) (F0 23) (F' 23) (F0 20)) ∧ PN tx gs (F' 5) (F' 6) (F' 8) (F' 9) (F' 10) (F' 11) (F' 12) (F' 13) (F' 14) (F' 18) (F' 20) (F' 21) (F' 23) (A' 15) (A' 16) (A' 17) (A' 19) (A' 22)))) := by
  intro n
  induction n using Nat.strongRecOn with
  | ind n ih =>
    intro lv h F A v1 hn g0 g1 hI hF hA i1 i2 i3 i4 i5
    have hb7 := p7.2.2.1
    have hn7 := p7.2.1
    have hb6 := p6.b
    have hf5 : F 5 = F0 5 := by rw [i2.1]
    have hf6 : F 6 = F0 6 := by rw [i2.1]
    have hf8 : F 8 = F0 8 := by rw [i2.1]
    have hf9 : F 9 = F0 9 := by rw [i2.1]
    have hf10 : F 10 = F0 10 := by rw [i2.1]
    have hf11 : F 11 = F0 11 := by rw [i2.1]
    have hf12 : F 12 = F0 12 := by rw [i2.1]
    have hf13 : F 13 = F0 13 := by rw [i2.1]
    have hf14 : F 14 = F0 14 := by rw [i2.1]
    have hf18 : F 18 = F0 18 := by rw [i2.1]
    have hf20 : F 20 = F0 20 := by rw [i2.1]
    have hf21 : F 21 = F0 21 := by rw [i2.1]
    have hf23 : F 23 = F0 23 := by rw [i2.1]
    have hA22 : A 22 = A0 22 := by rw [i2.2]
    have hcu : CU (m_B gs) (F 23) (A 22) := by rw [hf23, hA22]; exact p7.1
    refine k_iload 26 rfl g1 rfl ?_
    refine k_aload 27 rfl g0 rfl ?_
    refine r_gI hI 30 rfl rfl rfl (fun x1 (e2 : x1.toInt = F 20) => ?_)
    have e3 : F 20 = F0 20 := hF 20 (by decide)
    by_cases b4 : x1 ≤ v1
    · refine k_c2 60 rfl rfl (if_pos b4) ?_
      have b4 := iv_le.mp b4
      refine k_iload 61 rfl g1 rfl ?_
      refine k_aload 62 rfl g0 rfl ?_
      refine r_gI hI 65 rfl rfl rfl (fun x5 (e6 : x5.toInt = F 20) => ?_)
      by_cases b7 : x5 ≤ v1
      · refine k_c2 80 rfl rfl (if_pos b7) ?_
        have b7 := iv_le.mp b7
        refine k_aload 81 rfl g0 rfl ?_
        refine k_aload 82 rfl g0 rfl ?_
        refine r_gJ hI 85 rfl rfl rfl (fun y8 (e9 : y8.toInt = F 13) => ?_)
        have e10 : F 18 = F0 18 := hF 18 (by decide)
        refine k_rq hI rfl (m_nameOf  hI.1 (show 0 ≤ (F 18) ∧ (F 18) ≤ 12 by omega)) rfl rfl rfl hI.rc ?_
        rintro x11 h12 F13 A14 I15 ⟨k17, k18, pq16⟩
        replace pq16 : (x11.toInt = -1 ∨ (0 ≤ x11.toInt ∧ x11.toInt < (F 18))) ∧ (∀ k : Int, 0 ≤ k → k < (F 18) → (x11.toInt = -1 ∨ k < x11.toInt) → (A 15) k ≠ y8.toInt) ∧ (x11.toInt ≠ -1 → (A 15) x11.toInt = y8.toInt) := pq16
        obtain ⟨pq16a, pq16b, pq16c⟩ := pq16
        have k17 := fr1.nil k17
        subst k17
        have k18 := fr2.nil k18
        subst k18
        show am_Ok _ _ _ (88, _, [.inl x11], _, 0, 0) _
        have hw9 : y8.toInt = F0 13 := by omega
        have hna := pq16a
        have hnb := pq16b
        have hnc := pq16c
        rw [hw9] at hnb hnc
        rw [hA 15 (by decide)] at hnb hnc
        rw [hF 18 (by decide)] at hna hnb
        have hgx := rn_N p6 p3 i5 hn7 hna hnb hnc
        have hfx := rn_f p6 p3 i5 hb7 p9 (fun k k1 k2 => i4 k k1 (by omega))
        refine k_istore 89 rfl rfl ?_
        refine k_aload 90 rfl (gs_ne rfl rfl g0) rfl ?_
        refine k_iload 91 rfl gs_eq rfl ?_
        refine k_push 92 rfl rfl ?_
        have hc19 : (-1 : Int32).toInt = -1 := by decide
        by_cases b20 : x11 = (-1 : Int32)
        · refine k_c2 99 rfl rfl (if_pos b20) ?_
          have b20 := iv_eq.mp b20
          refine k_push 100 rfl rfl ?_
          have hc21 : (0 : Int32).toInt = 0 := by decide
          refine k_push 101 rfl rfl ?_
          have hc22 : (3 : Int32).toInt = 3 := by decide
          refine k_in (d := 1) rfl rfl rfl rfl I15.rc ?_
          refine k_aload 1 rfl rfl rfl ?_
          refine k_in (d := 0) rfl rfl rfl rfl I15.rc ?_
          refine k_aload 1 rfl rfl rfl ?_
          refine r_gI I15 4 rfl rfl rfl (fun x23 (e24 : x23.toInt = F 6) => ?_)
          by_cases b25 : x23 = 0
          · refine k_c1 7 rfl rfl (if_pos b25) ?_
            have b25 := iv_eq0.mp b25
            refine k_push 8 rfl rfl ?_
            have hc26 : (1 : Int32).toInt = 1 := by decide
            refine k_goto 12 rfl rfl ?_
            refine k_fin rfl (fin_Z (Or.inr rfl)) ⟨_, _, rfl, rf_len I15 I15, ?_⟩
            show am_Ok _ _ _ (4, _, [.inl (1 : Int32)], _, 0, 0) _
            refine k_c1 7 rfl rfl (if_neg (by decide)) ?_
            refine k_iload 8 rfl rfl rfl ?_
            refine k_c1 11 rfl rfl (if_pos (by decide)) ?_
            refine k_aload 12 rfl rfl rfl ?_
            refine k_iload 13 rfl rfl rfl ?_
            refine r_pI I15 16 rfl rfl rfl (fun h27 I28 => ?_)
            refine k_aload 17 rfl rfl rfl ?_
            refine k_aload 18 rfl rfl rfl ?_
            refine r_gI I28 21 rfl rfl rfl (fun x29 (e30 : x29.toInt = F 10) => ?_)
            refine r_pI I28 24 rfl rfl rfl (fun h31 I32 => ?_)
            refine k_aload 25 rfl rfl rfl ?_
            refine k_in (d := 0) rfl rfl rfl rfl I32.rc ?_
            refine k_aload 1 rfl rfl rfl ?_
            refine r_gI I32 4 rfl rfl rfl (fun x33 (e34 : x33.toInt = (3 : Int32).toInt) => ?_)
            by_cases b35 : x33 = 0
            · refine k_c1 7 rfl rfl (if_pos b35) ?_
              have b35 := iv_eq0.mp b35
              refine k_push 8 rfl rfl ?_
              refine k_goto 12 rfl rfl ?_
              refine k_fin rfl (fin_Z (Or.inr rfl)) ⟨_, _, rfl, rf_len I32 I32, ?_⟩
              show am_Ok _ _ _ (28, _, [.inl (1 : Int32)], _, 0, 0) _
              refine k_fin rfl (fin_Z (Or.inr rfl)) ⟨_, _, rfl, rf_len I15 I32, ?_⟩
              show am_Ok _ _ _ (104, _, [.inl (1 : Int32)], _, 0, 0) _
              refine k_c1 107 rfl rfl (if_neg (by decide)) ?_
              obtain ⟨n91, n92, n93⟩ := p2 x11.toInt (by omega) (by omega)
              obtain ⟨l9, w9, o1, o2, o3, o4, o5, o6⟩ := hn7.2.2.2 x11.toInt.toNat (by have := hn7.1; omega)
              rw [show ((x11.toInt.toNat : Nat) : Int) = x11.toInt by omega] at o3 o5 o6
              refine k_aload 108 rfl (gs_ne rfl rfl g0) rfl ?_
              refine k_iload 109 rfl gs_eq rfl ?_
              refine k_rv I32 rfl (m_putsIn  I32.1 (show 0 ≤ (F 23) ∧ (F 23) ≤ 1000000 by omega) (show 0 ≤ x11.toInt ∧ x11.toInt < 12 ∧ 0 ≤ (A 17) x11.toInt ∧ (A 17) x11.toInt ≤ 1000000 by rw [(hA 17 (by decide))]; omega)) rfl rfl rfl I32.rc ?_
              rintro h37 F38 A39 I40 ⟨k42, k43, pq41⟩
              replace pq41 : ((F 23) ≤ F38 23 ∧ F38 23 ≤ 1000000) ∧ (F38 23 ≤ 124 → F38 23 = (F 23) + (A 17) x11.toInt) ∧ imp (F38 23 ≤ 124) ((∀ k : Int, 0 ≤ k → k < (A 17) x11.toInt → A39 22 ((F 23) + k) = (A 16) (124 * x11.toInt + k)) ∧ ∀ q : Int, q < (F 23) → A39 22 q = (A 22) q) ∧ F38 23 = min ((F 23) + (A 17) x11.toInt) 1000000 := pq41
              obtain ⟨pq41a, pq41b, pq41c, pq41d⟩ := pq41
              show am_Ok _ _ _ (112, _, [], _, 0, 0) _
              have hpd := pq41d
              have hpc := pq41c
              rw [hA 17 (by decide)] at hpd hpc
              rw [hA 16 (by decide)] at hpc
              refine k_aload 113 rfl (gs_ne rfl rfl g0) rfl ?_
              have e44 : F38 8 = F 8 := k42 8 (by decide)
              have e45 : F38 7 = F 7 := k42 7 (by decide)
              have e46 : F 7 = F0 7 := hF 7 (by decide)
              refine k_rv I40 rfl (m_goes  I40.1 (show 0 ≤ (F38 8) ∧ (F38 8) ≤ (F38 7) ∧ (F38 7) ≤ 700 by omega) (show TP tx ((F38 7)) ((A39 3)) by rw [((k42 7 (by decide)).trans (hF 7 (by decide))), ((k43 3 (by decide)).trans (hA 3 (by decide)))]; exact pT)) rfl rfl rfl I40.rc ?_
              rintro h48 F49 A50 I51 ⟨k53, k54, pq52⟩
              replace pq52 : ((F38 8) ≤ F49 8 ∧ F49 8 ≤ (F38 7)) ∧ (F49 9 = 0 ∨ (F38 8) < F49 8) ∧ (F49 9 = 2 → 0 ≤ F49 11 ∧ F49 11 ≤ 9) ∧ (0 ≤ F49 9 ∧ F49 9 ≤ 4) ∧ TKv tx ((F38 8)) (F49 8) (F49 9) (F49 10) (F49 11) (F49 12) (F49 13) (F49 14) := pq52
              obtain ⟨pq52a, pq52b, pq52c, pq52d, pq52e⟩ := pq52
              have k54 := fr2.nil k54
              subst k54
              show am_Ok _ _ _ (116, _, [], _, 0, 0) _
              have e55 : F49 20 = F38 20 := k53 20 (by decide)
              have e56 : F38 20 = F 20 := k42 20 (by decide)
              have e57 : F49 21 = F38 21 := k53 21 (by decide)
              have e58 : F38 21 = F 21 := k42 21 (by decide)
              have e59 : F 21 = F0 21 := hF 21 (by decide)
              have e60 : F49 23 = F38 23 := k53 23 (by decide)
              have e61 : F49 6 = F38 6 := k53 6 (by decide)
              have e62 : F38 6 = (3 : Int32).toInt := k42 6 (by decide)
              have e63 : F49 5 = F38 5 := k53 5 (by decide)
              have e64 : F38 5 = x29.toInt := k42 5 (by decide)
              have e65 : F49 18 = F38 18 := k53 18 (by decide)
              have e66 : F38 18 = F 18 := k42 18 (by decide)
              exact k_fin rfl rfl ⟨_, _, _, rfl, I51, (fr1.tr (by decide) (fr1.tr (by decide) (fr1.up (by decide) (fr1.up (by decide) hF)) k42) k53), (fr2.tr (by decide) hA k43), ⟨(show (F0 8 ≤ F49 8 ∧ F49 8 ≤ F0 7 ∧ F0 20 ≤ F49 20 ∧ F49 20 ≤ 30 ∧ F49 21 = F0 21 ∧ F0 23 ≤ F49 23 ∧ F49 23 ≤ 1000000 ∧ (F49 9 = 2 → 0 ≤ F49 11 ∧ F49 11 ≤ 9) ∧ 0 ≤ F49 9 ∧ F49 9 ≤ 4) by omega), (show (F49 6 = 0 → F49 20 = F0 20 ∧ F0 6 = 0 ∧ (F49 9 = 0 ∨ F0 8 < F49 8) ∧ F49 5 = F0 5) by omega), (fun z1 z2 => by have z9 : F49 23 ≤ 124 := z2; have h9 := pq41c (by omega); exact rd_put (m := A0 17 x11.toInt) (P := A0 16) (s := 124 * x11.toInt) (show F49 23 = F0 23 + A0 17 x11.toInt by have h8 := pq41b (by omega); rw [hA 17 (by decide)] at h8; omega) n91 (n93 (by have h8 := pq41b (by omega); rw [hA 17 (by decide)] at h8; omega)) (fun k k1 k2 => by rw [← hf23, ← hA 16 (by decide)]; exact h9.1 k k1 (by rw [hA 17 (by decide)]; exact k2)) (fun q hq => (h9.2 q (by omega)).trans (congrFun hA22 q)) (by omega)), (show PN tx gs (F49 5) (F49 6) (F49 8) (F49 9) (F49 10) (F49 11) (F49 12) (F49 13) (F49 14) (F49 18) (F49 20) (F49 21) (F49 23) ((A39 15)) ((A39 16)) ((A39 17)) ((A39 19)) ((A39 22)) from PN.ok (l := l9) (by omega) (rn_n p6 p3 i5 p8 hfx hgx (by omega) o1) (pq52e.cg (by omega) rfl rfl rfl rfl rfl rfl rfl) ((RS.new p7 (hcu.put o5 hpd o6 hpc)).cg (by omega) (by omega) (by omega) (by omega) ((k43 15 (by decide)).trans (hA 15 (by decide))) ((k43 16 (by decide)).trans (hA 16 (by decide))) ((k43 17 (by decide)).trans (hA 17 (by decide))) ((k43 19 (by decide)).trans (hA 19 (by decide))) (show A39 22 = A39 22 from rfl)))⟩⟩
            · refine k_c1 11 rfl rfl (if_neg b35) ?_
              have b35 := mt iv_eq0.mpr b35
              refine k_push 12 rfl rfl ?_
              refine k_fin rfl (fin_Z (Or.inl rfl)) ⟨_, _, rfl, rf_len I32 I32, ?_⟩
              show am_Ok _ _ _ (28, _, [.inl (0 : Int32)], _, 0, 0) _
              refine k_fin rfl (fin_Z (Or.inl rfl)) ⟨_, _, rfl, rf_len I15 I32, ?_⟩
              show am_Ok _ _ _ (104, _, [.inl (0 : Int32)], _, 0, 0) _
              refine k_c1 116 rfl rfl (if_pos (by decide)) ?_
              have e67 : F 21 = F0 21 := hF 21 (by decide)
              exact k_fin rfl rfl ⟨_, _, _, rfl, I32, (fr1.up (by decide) (fr1.up (by decide) hF)), hA, ⟨(show (F0 8 ≤ F 8 ∧ F 8 ≤ F0 7 ∧ F0 20 ≤ F 20 ∧ F 20 ≤ 30 ∧ F 21 = F0 21 ∧ F0 23 ≤ F 23 ∧ F 23 ≤ 1000000 ∧ (F 9 = 2 → 0 ≤ F 11 ∧ F 11 ≤ 9) ∧ 0 ≤ F 9 ∧ F 9 ≤ 4) by omega), (show ((3 : Int32).toInt = 0 → F 20 = F0 20 ∧ F0 6 = 0 ∧ (F 9 = 0 ∨ F0 8 < F 8) ∧ x29.toInt = F0 5) by omega), (fun z => absurd (show (3 : Int32).toInt = 0 from z) (by omega)), (show PN tx gs (x29.toInt) ((3 : Int32).toInt) (F 8) (F 9) (F 10) (F 11) (F 12) (F 13) (F 14) (F 18) (F 20) (F 21) (F 23) ((A 15)) ((A 16)) ((A 17)) ((A 19)) ((A 22)) from PN.bad (by omega) (rn_3 p6 p3 i5 p8 hfx (by rw [hgx]; omega) (by omega) (by omega)))⟩⟩
          · refine k_c1 11 rfl rfl (if_neg b25) ?_
            have b25 := mt iv_eq0.mpr b25
            refine k_push 12 rfl rfl ?_
            refine k_fin rfl (fin_Z (Or.inl rfl)) ⟨_, _, rfl, rf_len I15 I15, ?_⟩
            show am_Ok _ _ _ (4, _, [.inl (0 : Int32)], _, 0, 0) _
            refine k_c1 24 rfl rfl (if_pos (by decide)) ?_
            refine k_aload 25 rfl rfl rfl ?_
            refine k_in (d := 0) rfl rfl rfl rfl I15.rc ?_
            refine k_aload 1 rfl rfl rfl ?_
            refine r_gI I15 4 rfl rfl rfl (fun x68 (e69 : x68.toInt = F 6) => ?_)
            by_cases b70 : x68 = 0
            · refine k_c1 7 rfl rfl (if_pos b70) ?_
              have b70 := iv_eq0.mp b70
              refine k_push 8 rfl rfl ?_
              have hc71 : (1 : Int32).toInt = 1 := by decide
              refine k_goto 12 rfl rfl ?_
              refine k_fin rfl (fin_Z (Or.inr rfl)) ⟨_, _, rfl, rf_len I15 I15, ?_⟩
              show am_Ok _ _ _ (28, _, [.inl (1 : Int32)], _, 0, 0) _
              refine k_fin rfl (fin_Z (Or.inr rfl)) ⟨_, _, rfl, rf_len I15 I15, ?_⟩
              show am_Ok _ _ _ (104, _, [.inl (1 : Int32)], _, 0, 0) _
              refine k_c1 107 rfl rfl (if_neg (by decide)) ?_
              obtain ⟨n91, n92, n93⟩ := p2 x11.toInt (by omega) (by omega)
              obtain ⟨l9, w9, o1, o2, o3, o4, o5, o6⟩ := hn7.2.2.2 x11.toInt.toNat (by have := hn7.1; omega)
              rw [show ((x11.toInt.toNat : Nat) : Int) = x11.toInt by omega] at o3 o5 o6
              refine k_aload 108 rfl (gs_ne rfl rfl g0) rfl ?_
              refine k_iload 109 rfl gs_eq rfl ?_
              refine k_rv I15 rfl (m_putsIn  I15.1 (show 0 ≤ (F 23) ∧ (F 23) ≤ 1000000 by omega) (show 0 ≤ x11.toInt ∧ x11.toInt < 12 ∧ 0 ≤ (A 17) x11.toInt ∧ (A 17) x11.toInt ≤ 1000000 by rw [(hA 17 (by decide))]; omega)) rfl rfl rfl I15.rc ?_
              rintro h73 F74 A75 I76 ⟨k78, k79, pq77⟩
              replace pq77 : ((F 23) ≤ F74 23 ∧ F74 23 ≤ 1000000) ∧ (F74 23 ≤ 124 → F74 23 = (F 23) + (A 17) x11.toInt) ∧ imp (F74 23 ≤ 124) ((∀ k : Int, 0 ≤ k → k < (A 17) x11.toInt → A75 22 ((F 23) + k) = (A 16) (124 * x11.toInt + k)) ∧ ∀ q : Int, q < (F 23) → A75 22 q = (A 22) q) ∧ F74 23 = min ((F 23) + (A 17) x11.toInt) 1000000 := pq77
              obtain ⟨pq77a, pq77b, pq77c, pq77d⟩ := pq77
              show am_Ok _ _ _ (112, _, [], _, 0, 0) _
              have hpd := pq77d
              have hpc := pq77c
              rw [hA 17 (by decide)] at hpd hpc
              rw [hA 16 (by decide)] at hpc
              refine k_aload 113 rfl (gs_ne rfl rfl g0) rfl ?_
              have e80 : F74 8 = F 8 := k78 8 (by decide)
              have e81 : F74 7 = F 7 := k78 7 (by decide)
              have e82 : F 7 = F0 7 := hF 7 (by decide)
              refine k_rv I76 rfl (m_goes  I76.1 (show 0 ≤ (F74 8) ∧ (F74 8) ≤ (F74 7) ∧ (F74 7) ≤ 700 by omega) (show TP tx ((F74 7)) ((A75 3)) by rw [((k78 7 (by decide)).trans (hF 7 (by decide))), ((k79 3 (by decide)).trans (hA 3 (by decide)))]; exact pT)) rfl rfl rfl I76.rc ?_
              rintro h84 F85 A86 I87 ⟨k89, k90, pq88⟩
              replace pq88 : ((F74 8) ≤ F85 8 ∧ F85 8 ≤ (F74 7)) ∧ (F85 9 = 0 ∨ (F74 8) < F85 8) ∧ (F85 9 = 2 → 0 ≤ F85 11 ∧ F85 11 ≤ 9) ∧ (0 ≤ F85 9 ∧ F85 9 ≤ 4) ∧ TKv tx ((F74 8)) (F85 8) (F85 9) (F85 10) (F85 11) (F85 12) (F85 13) (F85 14) := pq88
              obtain ⟨pq88a, pq88b, pq88c, pq88d, pq88e⟩ := pq88
              have k90 := fr2.nil k90
              subst k90
              show am_Ok _ _ _ (116, _, [], _, 0, 0) _
              have e91 : F85 20 = F74 20 := k89 20 (by decide)
              have e92 : F74 20 = F 20 := k78 20 (by decide)
              have e93 : F85 21 = F74 21 := k89 21 (by decide)
              have e94 : F74 21 = F 21 := k78 21 (by decide)
              have e95 : F 21 = F0 21 := hF 21 (by decide)
              have e96 : F85 23 = F74 23 := k89 23 (by decide)
              have e97 : F85 6 = F74 6 := k89 6 (by decide)
              have e98 : F74 6 = F 6 := k78 6 (by decide)
              have e99 : F85 5 = F74 5 := k89 5 (by decide)
              have e100 : F74 5 = F 5 := k78 5 (by decide)
              have e101 : F85 18 = F74 18 := k89 18 (by decide)
              have e102 : F74 18 = F 18 := k78 18 (by decide)
              exact k_fin rfl rfl ⟨_, _, _, rfl, I87, (fr1.tr (by decide) (fr1.tr (by decide) hF k78) k89), (fr2.tr (by decide) hA k79), ⟨(show (F0 8 ≤ F85 8 ∧ F85 8 ≤ F0 7 ∧ F0 20 ≤ F85 20 ∧ F85 20 ≤ 30 ∧ F85 21 = F0 21 ∧ F0 23 ≤ F85 23 ∧ F85 23 ≤ 1000000 ∧ (F85 9 = 2 → 0 ≤ F85 11 ∧ F85 11 ≤ 9) ∧ 0 ≤ F85 9 ∧ F85 9 ≤ 4) by omega), (show (F85 6 = 0 → F85 20 = F0 20 ∧ F0 6 = 0 ∧ (F85 9 = 0 ∨ F0 8 < F85 8) ∧ F85 5 = F0 5) by omega), (fun z1 z2 => by have z9 : F85 23 ≤ 124 := z2; have h9 := pq77c (by omega); exact rd_put (m := A0 17 x11.toInt) (P := A0 16) (s := 124 * x11.toInt) (show F85 23 = F0 23 + A0 17 x11.toInt by have h8 := pq77b (by omega); rw [hA 17 (by decide)] at h8; omega) n91 (n93 (by have h8 := pq77b (by omega); rw [hA 17 (by decide)] at h8; omega)) (fun k k1 k2 => by rw [← hf23, ← hA 16 (by decide)]; exact h9.1 k k1 (by rw [hA 17 (by decide)]; exact k2)) (fun q hq => (h9.2 q (by omega)).trans (congrFun hA22 q)) (by omega)), (show PN tx gs (F85 5) (F85 6) (F85 8) (F85 9) (F85 10) (F85 11) (F85 12) (F85 13) (F85 14) (F85 18) (F85 20) (F85 21) (F85 23) ((A75 15)) ((A75 16)) ((A75 17)) ((A75 19)) ((A75 22)) from PN.ok (l := l9) (by omega) (rn_n p6 p3 i5 p8 hfx hgx (by omega) o1) (pq88e.cg (by omega) rfl rfl rfl rfl rfl rfl rfl) ((RS.new p7 (hcu.put o5 hpd o6 hpc)).cg (by omega) (by omega) (by omega) (by omega) ((k79 15 (by decide)).trans (hA 15 (by decide))) ((k79 16 (by decide)).trans (hA 16 (by decide))) ((k79 17 (by decide)).trans (hA 17 (by decide))) ((k79 19 (by decide)).trans (hA 19 (by decide))) (show A75 22 = A75 22 from rfl)))⟩⟩
            · refine k_c1 11 rfl rfl (if_neg b70) ?_
              have b70 := mt iv_eq0.mpr b70
              refine k_push 12 rfl rfl ?_
              refine k_fin rfl (fin_Z (Or.inl rfl)) ⟨_, _, rfl, rf_len I15 I15, ?_⟩
              show am_Ok _ _ _ (28, _, [.inl (0 : Int32)], _, 0, 0) _
              refine k_fin rfl (fin_Z (Or.inl rfl)) ⟨_, _, rfl, rf_len I15 I15, ?_⟩
              show am_Ok _ _ _ (104, _, [.inl (0 : Int32)], _, 0, 0) _
              refine k_c1 116 rfl rfl (if_pos (by decide)) ?_
              have e103 : F 21 = F0 21 := hF 21 (by decide)
              exact k_fin rfl rfl ⟨_, _, _, rfl, I15, hF, hA, ⟨(show (F0 8 ≤ F 8 ∧ F 8 ≤ F0 7 ∧ F0 20 ≤ F 20 ∧ F 20 ≤ 30 ∧ F 21 = F0 21 ∧ F0 23 ≤ F 23 ∧ F 23 ≤ 1000000 ∧ (F 9 = 2 → 0 ≤ F 11 ∧ F 11 ≤ 9) ∧ 0 ≤ F 9 ∧ F 9 ≤ 4) by omega), (show (F 6 = 0 → F 20 = F0 20 ∧ F0 6 = 0 ∧ (F 9 = 0 ∨ F0 8 < F 8) ∧ F 5 = F0 5) by omega), (fun z => absurd (show F 6 = 0 from z) (by omega)), (show PN tx gs (F 5) (F 6) (F 8) (F 9) (F 10) (F 11) (F 12) (F 13) (F 14) (F 18) (F 20) (F 21) (F 23) ((A 15)) ((A 16)) ((A 17)) ((A 19)) ((A 22)) from PN.bad (by omega) (rn_3 p6 p3 i5 p8 hfx (by rw [hgx]; omega) (by omega) (by omega)))⟩⟩
        · refine k_c2 95 rfl rfl (if_neg b20) ?_
          have b20 := mt iv_eq.mpr b20
          refine k_push 96 rfl rfl ?_
          have hc104 : (1 : Int32).toInt = 1 := by decide
          refine k_goto 100 rfl rfl ?_
          refine k_push 101 rfl rfl ?_
          have hc105 : (3 : Int32).toInt = 3 := by decide
          refine k_in (d := 1) rfl rfl rfl rfl I15.rc ?_
          refine k_aload 1 rfl rfl rfl ?_
          refine k_in (d := 0) rfl rfl rfl rfl I15.rc ?_
          refine k_aload 1 rfl rfl rfl ?_
          refine r_gI I15 4 rfl rfl rfl (fun x106 (e107 : x106.toInt = F 6) => ?_)
          by_cases b108 : x106 = 0
          · refine k_c1 7 rfl rfl (if_pos b108) ?_
            have b108 := iv_eq0.mp b108
            refine k_push 8 rfl rfl ?_
            refine k_goto 12 rfl rfl ?_
            refine k_fin rfl (fin_Z (Or.inr rfl)) ⟨_, _, rfl, rf_len I15 I15, ?_⟩
            show am_Ok _ _ _ (4, _, [.inl (1 : Int32)], _, 0, 0) _
            refine k_c1 7 rfl rfl (if_neg (by decide)) ?_
            refine k_iload 8 rfl rfl rfl ?_
            refine k_c1 24 rfl rfl (if_neg (by decide)) ?_
            refine k_aload 25 rfl rfl rfl ?_
            refine k_in (d := 0) rfl rfl rfl rfl I15.rc ?_
            refine k_aload 1 rfl rfl rfl ?_
            refine r_gI I15 4 rfl rfl rfl (fun x109 (e110 : x109.toInt = F 6) => ?_)
            by_cases b111 : x109 = 0
            · refine k_c1 7 rfl rfl (if_pos b111) ?_
              have b111 := iv_eq0.mp b111
              refine k_push 8 rfl rfl ?_
              refine k_goto 12 rfl rfl ?_
              refine k_fin rfl (fin_Z (Or.inr rfl)) ⟨_, _, rfl, rf_len I15 I15, ?_⟩
              show am_Ok _ _ _ (28, _, [.inl (1 : Int32)], _, 0, 0) _
              refine k_fin rfl (fin_Z (Or.inr rfl)) ⟨_, _, rfl, rf_len I15 I15, ?_⟩
              show am_Ok _ _ _ (104, _, [.inl (1 : Int32)], _, 0, 0) _
              refine k_c1 107 rfl rfl (if_neg (by decide)) ?_
              obtain ⟨n91, n92, n93⟩ := p2 x11.toInt (by omega) (by omega)
              obtain ⟨l9, w9, o1, o2, o3, o4, o5, o6⟩ := hn7.2.2.2 x11.toInt.toNat (by have := hn7.1; omega)
              rw [show ((x11.toInt.toNat : Nat) : Int) = x11.toInt by omega] at o3 o5 o6
              refine k_aload 108 rfl (gs_ne rfl rfl g0) rfl ?_
              refine k_iload 109 rfl gs_eq rfl ?_
              refine k_rv I15 rfl (m_putsIn  I15.1 (show 0 ≤ (F 23) ∧ (F 23) ≤ 1000000 by omega) (show 0 ≤ x11.toInt ∧ x11.toInt < 12 ∧ 0 ≤ (A 17) x11.toInt ∧ (A 17) x11.toInt ≤ 1000000 by rw [(hA 17 (by decide))]; omega)) rfl rfl rfl I15.rc ?_
              rintro h113 F114 A115 I116 ⟨k118, k119, pq117⟩
              replace pq117 : ((F 23) ≤ F114 23 ∧ F114 23 ≤ 1000000) ∧ (F114 23 ≤ 124 → F114 23 = (F 23) + (A 17) x11.toInt) ∧ imp (F114 23 ≤ 124) ((∀ k : Int, 0 ≤ k → k < (A 17) x11.toInt → A115 22 ((F 23) + k) = (A 16) (124 * x11.toInt + k)) ∧ ∀ q : Int, q < (F 23) → A115 22 q = (A 22) q) ∧ F114 23 = min ((F 23) + (A 17) x11.toInt) 1000000 := pq117
              obtain ⟨pq117a, pq117b, pq117c, pq117d⟩ := pq117
              show am_Ok _ _ _ (112, _, [], _, 0, 0) _
              have hpd := pq117d
              have hpc := pq117c
              rw [hA 17 (by decide)] at hpd hpc
              rw [hA 16 (by decide)] at hpc
              refine k_aload 113 rfl (gs_ne rfl rfl g0) rfl ?_
              have e120 : F114 8 = F 8 := k118 8 (by decide)
              have e121 : F114 7 = F 7 := k118 7 (by decide)
              have e122 : F 7 = F0 7 := hF 7 (by decide)
              refine k_rv I116 rfl (m_goes  I116.1 (show 0 ≤ (F114 8) ∧ (F114 8) ≤ (F114 7) ∧ (F114 7) ≤ 700 by omega) (show TP tx ((F114 7)) ((A115 3)) by rw [((k118 7 (by decide)).trans (hF 7 (by decide))), ((k119 3 (by decide)).trans (hA 3 (by decide)))]; exact pT)) rfl rfl rfl I116.rc ?_
              rintro h124 F125 A126 I127 ⟨k129, k130, pq128⟩
              replace pq128 : ((F114 8) ≤ F125 8 ∧ F125 8 ≤ (F114 7)) ∧ (F125 9 = 0 ∨ (F114 8) < F125 8) ∧ (F125 9 = 2 → 0 ≤ F125 11 ∧ F125 11 ≤ 9) ∧ (0 ≤ F125 9 ∧ F125 9 ≤ 4) ∧ TKv tx ((F114 8)) (F125 8) (F125 9) (F125 10) (F125 11) (F125 12) (F125 13) (F125 14) := pq128
              obtain ⟨pq128a, pq128b, pq128c, pq128d, pq128e⟩ := pq128
              have k130 := fr2.nil k130
              subst k130
              show am_Ok _ _ _ (116, _, [], _, 0, 0) _
              have e131 : F125 20 = F114 20 := k129 20 (by decide)
              have e132 : F114 20 = F 20 := k118 20 (by decide)
              have e133 : F125 21 = F114 21 := k129 21 (by decide)
              have e134 : F114 21 = F 21 := k118 21 (by decide)
              have e135 : F 21 = F0 21 := hF 21 (by decide)
              have e136 : F125 23 = F114 23 := k129 23 (by decide)
              have e137 : F125 6 = F114 6 := k129 6 (by decide)
              have e138 : F114 6 = F 6 := k118 6 (by decide)
              have e139 : F125 5 = F114 5 := k129 5 (by decide)
              have e140 : F114 5 = F 5 := k118 5 (by decide)
              have e141 : F125 18 = F114 18 := k129 18 (by decide)
              have e142 : F114 18 = F 18 := k118 18 (by decide)
              exact k_fin rfl rfl ⟨_, _, _, rfl, I127, (fr1.tr (by decide) (fr1.tr (by decide) hF k118) k129), (fr2.tr (by decide) hA k119), ⟨(show (F0 8 ≤ F125 8 ∧ F125 8 ≤ F0 7 ∧ F0 20 ≤ F125 20 ∧ F125 20 ≤ 30 ∧ F125 21 = F0 21 ∧ F0 23 ≤ F125 23 ∧ F125 23 ≤ 1000000 ∧ (F125 9 = 2 → 0 ≤ F125 11 ∧ F125 11 ≤ 9) ∧ 0 ≤ F125 9 ∧ F125 9 ≤ 4) by omega), (show (F125 6 = 0 → F125 20 = F0 20 ∧ F0 6 = 0 ∧ (F125 9 = 0 ∨ F0 8 < F125 8) ∧ F125 5 = F0 5) by omega), (fun z1 z2 => by have z9 : F125 23 ≤ 124 := z2; have h9 := pq117c (by omega); exact rd_put (m := A0 17 x11.toInt) (P := A0 16) (s := 124 * x11.toInt) (show F125 23 = F0 23 + A0 17 x11.toInt by have h8 := pq117b (by omega); rw [hA 17 (by decide)] at h8; omega) n91 (n93 (by have h8 := pq117b (by omega); rw [hA 17 (by decide)] at h8; omega)) (fun k k1 k2 => by rw [← hf23, ← hA 16 (by decide)]; exact h9.1 k k1 (by rw [hA 17 (by decide)]; exact k2)) (fun q hq => (h9.2 q (by omega)).trans (congrFun hA22 q)) (by omega)), (show PN tx gs (F125 5) (F125 6) (F125 8) (F125 9) (F125 10) (F125 11) (F125 12) (F125 13) (F125 14) (F125 18) (F125 20) (F125 21) (F125 23) ((A115 15)) ((A115 16)) ((A115 17)) ((A115 19)) ((A115 22)) from PN.ok (l := l9) (by omega) (rn_n p6 p3 i5 p8 hfx hgx (by omega) o1) (pq128e.cg (by omega) rfl rfl rfl rfl rfl rfl rfl) ((RS.new p7 (hcu.put o5 hpd o6 hpc)).cg (by omega) (by omega) (by omega) (by omega) ((k119 15 (by decide)).trans (hA 15 (by decide))) ((k119 16 (by decide)).trans (hA 16 (by decide))) ((k119 17 (by decide)).trans (hA 17 (by decide))) ((k119 19 (by decide)).trans (hA 19 (by decide))) (show A115 22 = A115 22 from rfl)))⟩⟩
            · refine k_c1 11 rfl rfl (if_neg b111) ?_
              have b111 := mt iv_eq0.mpr b111
              refine k_push 12 rfl rfl ?_
              have hc143 : (0 : Int32).toInt = 0 := by decide
              refine k_fin rfl (fin_Z (Or.inl rfl)) ⟨_, _, rfl, rf_len I15 I15, ?_⟩
              show am_Ok _ _ _ (28, _, [.inl (0 : Int32)], _, 0, 0) _
              refine k_fin rfl (fin_Z (Or.inl rfl)) ⟨_, _, rfl, rf_len I15 I15, ?_⟩
              show am_Ok _ _ _ (104, _, [.inl (0 : Int32)], _, 0, 0) _
              refine k_c1 116 rfl rfl (if_pos (by decide)) ?_
              have e144 : F 21 = F0 21 := hF 21 (by decide)
              exact k_fin rfl rfl ⟨_, _, _, rfl, I15, hF, hA, ⟨(show (F0 8 ≤ F 8 ∧ F 8 ≤ F0 7 ∧ F0 20 ≤ F 20 ∧ F 20 ≤ 30 ∧ F 21 = F0 21 ∧ F0 23 ≤ F 23 ∧ F 23 ≤ 1000000 ∧ (F 9 = 2 → 0 ≤ F 11 ∧ F 11 ≤ 9) ∧ 0 ≤ F 9 ∧ F 9 ≤ 4) by omega), (show (F 6 = 0 → F 20 = F0 20 ∧ F0 6 = 0 ∧ (F 9 = 0 ∨ F0 8 < F 8) ∧ F 5 = F0 5) by omega), (fun z => absurd (show F 6 = 0 from z) (by omega)), (show PN tx gs (F 5) (F 6) (F 8) (F 9) (F 10) (F 11) (F 12) (F 13) (F 14) (F 18) (F 20) (F 21) (F 23) ((A 15)) ((A 16)) ((A 17)) ((A 19)) ((A 22)) from PN.bad (by omega) (rn_3 p6 p3 i5 p8 hfx (by rw [hgx]; omega) (by omega) (by omega)))⟩⟩
          · refine k_c1 11 rfl rfl (if_neg b108) ?_
            have b108 := mt iv_eq0.mpr b108
            refine k_push 12 rfl rfl ?_
            have hc145 : (0 : Int32).toInt = 0 := by decide
            refine k_fin rfl (fin_Z (Or.inl rfl)) ⟨_, _, rfl, rf_len I15 I15, ?_⟩
            show am_Ok _ _ _ (4, _, [.inl (0 : Int32)], _, 0, 0) _
            refine k_c1 24 rfl rfl (if_pos (by decide)) ?_
            refine k_aload 25 rfl rfl rfl ?_
            refine k_in (d := 0) rfl rfl rfl rfl I15.rc ?_
            refine k_aload 1 rfl rfl rfl ?_
            refine r_gI I15 4 rfl rfl rfl (fun x146 (e147 : x146.toInt = F 6) => ?_)
            by_cases b148 : x146 = 0
            · refine k_c1 7 rfl rfl (if_pos b148) ?_
              have b148 := iv_eq0.mp b148
              refine k_push 8 rfl rfl ?_
              refine k_goto 12 rfl rfl ?_
              refine k_fin rfl (fin_Z (Or.inr rfl)) ⟨_, _, rfl, rf_len I15 I15, ?_⟩
              show am_Ok _ _ _ (28, _, [.inl (1 : Int32)], _, 0, 0) _
              refine k_fin rfl (fin_Z (Or.inr rfl)) ⟨_, _, rfl, rf_len I15 I15, ?_⟩
              show am_Ok _ _ _ (104, _, [.inl (1 : Int32)], _, 0, 0) _
              refine k_c1 107 rfl rfl (if_neg (by decide)) ?_
              obtain ⟨n91, n92, n93⟩ := p2 x11.toInt (by omega) (by omega)
              obtain ⟨l9, w9, o1, o2, o3, o4, o5, o6⟩ := hn7.2.2.2 x11.toInt.toNat (by have := hn7.1; omega)
              rw [show ((x11.toInt.toNat : Nat) : Int) = x11.toInt by omega] at o3 o5 o6
              refine k_aload 108 rfl (gs_ne rfl rfl g0) rfl ?_
              refine k_iload 109 rfl gs_eq rfl ?_
              refine k_rv I15 rfl (m_putsIn  I15.1 (show 0 ≤ (F 23) ∧ (F 23) ≤ 1000000 by omega) (show 0 ≤ x11.toInt ∧ x11.toInt < 12 ∧ 0 ≤ (A 17) x11.toInt ∧ (A 17) x11.toInt ≤ 1000000 by rw [(hA 17 (by decide))]; omega)) rfl rfl rfl I15.rc ?_
              rintro h150 F151 A152 I153 ⟨k155, k156, pq154⟩
              replace pq154 : ((F 23) ≤ F151 23 ∧ F151 23 ≤ 1000000) ∧ (F151 23 ≤ 124 → F151 23 = (F 23) + (A 17) x11.toInt) ∧ imp (F151 23 ≤ 124) ((∀ k : Int, 0 ≤ k → k < (A 17) x11.toInt → A152 22 ((F 23) + k) = (A 16) (124 * x11.toInt + k)) ∧ ∀ q : Int, q < (F 23) → A152 22 q = (A 22) q) ∧ F151 23 = min ((F 23) + (A 17) x11.toInt) 1000000 := pq154
              obtain ⟨pq154a, pq154b, pq154c, pq154d⟩ := pq154
              show am_Ok _ _ _ (112, _, [], _, 0, 0) _
              have hpd := pq154d
              have hpc := pq154c
              rw [hA 17 (by decide)] at hpd hpc
              rw [hA 16 (by decide)] at hpc
              refine k_aload 113 rfl (gs_ne rfl rfl g0) rfl ?_
              have e157 : F151 8 = F 8 := k155 8 (by decide)
              have e158 : F151 7 = F 7 := k155 7 (by decide)
              have e159 : F 7 = F0 7 := hF 7 (by decide)
              refine k_rv I153 rfl (m_goes  I153.1 (show 0 ≤ (F151 8) ∧ (F151 8) ≤ (F151 7) ∧ (F151 7) ≤ 700 by omega) (show TP tx ((F151 7)) ((A152 3)) by rw [((k155 7 (by decide)).trans (hF 7 (by decide))), ((k156 3 (by decide)).trans (hA 3 (by decide)))]; exact pT)) rfl rfl rfl I153.rc ?_
              rintro h161 F162 A163 I164 ⟨k166, k167, pq165⟩
              replace pq165 : ((F151 8) ≤ F162 8 ∧ F162 8 ≤ (F151 7)) ∧ (F162 9 = 0 ∨ (F151 8) < F162 8) ∧ (F162 9 = 2 → 0 ≤ F162 11 ∧ F162 11 ≤ 9) ∧ (0 ≤ F162 9 ∧ F162 9 ≤ 4) ∧ TKv tx ((F151 8)) (F162 8) (F162 9) (F162 10) (F162 11) (F162 12) (F162 13) (F162 14) := pq165
              obtain ⟨pq165a, pq165b, pq165c, pq165d, pq165e⟩ := pq165
              have k167 := fr2.nil k167
              subst k167
              show am_Ok _ _ _ (116, _, [], _, 0, 0) _
              have e168 : F162 20 = F151 20 := k166 20 (by decide)
              have e169 : F151 20 = F 20 := k155 20 (by decide)
              have e170 : F162 21 = F151 21 := k166 21 (by decide)
              have e171 : F151 21 = F 21 := k155 21 (by decide)
              have e172 : F 21 = F0 21 := hF 21 (by decide)
              have e173 : F162 23 = F151 23 := k166 23 (by decide)
              have e174 : F162 6 = F151 6 := k166 6 (by decide)
              have e175 : F151 6 = F 6 := k155 6 (by decide)
              have e176 : F162 5 = F151 5 := k166 5 (by decide)
              have e177 : F151 5 = F 5 := k155 5 (by decide)
              have e178 : F162 18 = F151 18 := k166 18 (by decide)
              have e179 : F151 18 = F 18 := k155 18 (by decide)
              exact k_fin rfl rfl ⟨_, _, _, rfl, I164, (fr1.tr (by decide) (fr1.tr (by decide) hF k155) k166), (fr2.tr (by decide) hA k156), ⟨(show (F0 8 ≤ F162 8 ∧ F162 8 ≤ F0 7 ∧ F0 20 ≤ F162 20 ∧ F162 20 ≤ 30 ∧ F162 21 = F0 21 ∧ F0 23 ≤ F162 23 ∧ F162 23 ≤ 1000000 ∧ (F162 9 = 2 → 0 ≤ F162 11 ∧ F162 11 ≤ 9) ∧ 0 ≤ F162 9 ∧ F162 9 ≤ 4) by omega), (show (F162 6 = 0 → F162 20 = F0 20 ∧ F0 6 = 0 ∧ (F162 9 = 0 ∨ F0 8 < F162 8) ∧ F162 5 = F0 5) by omega), (fun z1 z2 => by have z9 : F162 23 ≤ 124 := z2; have h9 := pq154c (by omega); exact rd_put (m := A0 17 x11.toInt) (P := A0 16) (s := 124 * x11.toInt) (show F162 23 = F0 23 + A0 17 x11.toInt by have h8 := pq154b (by omega); rw [hA 17 (by decide)] at h8; omega) n91 (n93 (by have h8 := pq154b (by omega); rw [hA 17 (by decide)] at h8; omega)) (fun k k1 k2 => by rw [← hf23, ← hA 16 (by decide)]; exact h9.1 k k1 (by rw [hA 17 (by decide)]; exact k2)) (fun q hq => (h9.2 q (by omega)).trans (congrFun hA22 q)) (by omega)), (show PN tx gs (F162 5) (F162 6) (F162 8) (F162 9) (F162 10) (F162 11) (F162 12) (F162 13) (F162 14) (F162 18) (F162 20) (F162 21) (F162 23) ((A152 15)) ((A152 16)) ((A152 17)) ((A152 19)) ((A152 22)) from PN.ok (l := l9) (by omega) (rn_n p6 p3 i5 p8 hfx hgx (by omega) o1) (pq165e.cg (by omega) rfl rfl rfl rfl rfl rfl rfl) ((RS.new p7 (hcu.put o5 hpd o6 hpc)).cg (by omega) (by omega) (by omega) (by omega) ((k156 15 (by decide)).trans (hA 15 (by decide))) ((k156 16 (by decide)).trans (hA 16 (by decide))) ((k156 17 (by decide)).trans (hA 17 (by decide))) ((k156 19 (by decide)).trans (hA 19 (by decide))) (show A152 22 = A152 22 from rfl)))⟩⟩
            · refine k_c1 11 rfl rfl (if_neg b148) ?_
              have b148 := mt iv_eq0.mpr b148
              refine k_push 12 rfl rfl ?_
              refine k_fin rfl (fin_Z (Or.inl rfl)) ⟨_, _, rfl, rf_len I15 I15, ?_⟩
              show am_Ok _ _ _ (28, _, [.inl (0 : Int32)], _, 0, 0) _
              refine k_fin rfl (fin_Z (Or.inl rfl)) ⟨_, _, rfl, rf_len I15 I15, ?_⟩
              show am_Ok _ _ _ (104, _, [.inl (0 : Int32)], _, 0, 0) _
              refine k_c1 116 rfl rfl (if_pos (by decide)) ?_
              have e180 : F 21 = F0 21 := hF 21 (by decide)
              exact k_fin rfl rfl ⟨_, _, _, rfl, I15, hF, hA, ⟨(show (F0 8 ≤ F 8 ∧ F 8 ≤ F0 7 ∧ F0 20 ≤ F 20 ∧ F 20 ≤ 30 ∧ F 21 = F0 21 ∧ F0 23 ≤ F 23 ∧ F 23 ≤ 1000000 ∧ (F 9 = 2 → 0 ≤ F 11 ∧ F 11 ≤ 9) ∧ 0 ≤ F 9 ∧ F 9 ≤ 4) by omega), (show (F 6 = 0 → F 20 = F0 20 ∧ F0 6 = 0 ∧ (F 9 = 0 ∨ F0 8 < F 8) ∧ F 5 = F0 5) by omega), (fun z => absurd (show F 6 = 0 from z) (by omega)), (show PN tx gs (F 5) (F 6) (F 8) (F 9) (F 10) (F 11) (F 12) (F 13) (F 14) (F 18) (F 20) (F 21) (F 23) ((A 15)) ((A 16)) ((A 17)) ((A 19)) ((A 22)) from PN.bad (by omega) (rn_3 p6 p3 i5 p8 hfx (by rw [hgx]; omega) (by omega) (by omega)))⟩⟩
      · refine k_c2 68 rfl rfl (if_neg b7) ?_
        have b7 := mt iv_le.mpr b7
        refine k_aload 69 rfl g0 rfl ?_
        refine k_push 70 rfl rfl ?_
        have hc181 : (2 : Int32).toInt = 2 := by decide
        refine k_iload 71 rfl g1 rfl ?_
        obtain ⟨x182, q183⟩ : ∃ q : Int32, q = ((2 : Int32) + v1) := ⟨_, rfl⟩
        have e184 : x182.toInt = 2 + v1.toInt := by rw [q183, iv_add (by omega) (by omega)]; omega
        refine k_bin x182 72 rfl q183.symm rfl ?_
        refine k_rv hI rfl (m_emits  hI.1 (show 0 ≤ (F 23) ∧ (F 23) ≤ 1000000 by omega)) rfl rfl rfl hI.rc ?_
        rintro h186 F187 A188 I189 ⟨k191, k192, pq190⟩
        replace pq190 : ((F 23) ≤ F187 23 ∧ F187 23 ≤ 1000000) ∧ (F187 23 ≤ 124 → F187 23 = (F 23) + 1) ∧ imp (F187 23 ≤ 124) (A188 22 ((F 23)) = x182.toInt ∧ ∀ q : Int, q ≠ (F 23) → A188 22 q = (A 22) q) ∧ (((F 23) < 1000000 → F187 23 = (F 23) + 1) ∧ (¬ (F 23) < 1000000 → F187 23 = (F 23))) := pq190
        obtain ⟨pq190a, pq190b, pq190c, pq190d⟩ := pq190
        show am_Ok _ _ _ (75, _, [], _, 0, 0) _
        refine k_aload 76 rfl g0 rfl ?_
        have e193 : F187 8 = F 8 := k191 8 (by decide)
        have e194 : F187 7 = F 7 := k191 7 (by decide)
        have e195 : F 7 = F0 7 := hF 7 (by decide)
        refine k_rv I189 rfl (m_goes  I189.1 (show 0 ≤ (F187 8) ∧ (F187 8) ≤ (F187 7) ∧ (F187 7) ≤ 700 by omega) (show TP tx ((F187 7)) ((A188 3)) by rw [((k191 7 (by decide)).trans (hF 7 (by decide))), ((k192 3 (by decide)).trans (hA 3 (by decide)))]; exact pT)) rfl rfl rfl I189.rc ?_
        rintro h197 F198 A199 I200 ⟨k202, k203, pq201⟩
        replace pq201 : ((F187 8) ≤ F198 8 ∧ F198 8 ≤ (F187 7)) ∧ (F198 9 = 0 ∨ (F187 8) < F198 8) ∧ (F198 9 = 2 → 0 ≤ F198 11 ∧ F198 11 ≤ 9) ∧ (0 ≤ F198 9 ∧ F198 9 ≤ 4) ∧ TKv tx ((F187 8)) (F198 8) (F198 9) (F198 10) (F198 11) (F198 12) (F198 13) (F198 14) := pq201
        obtain ⟨pq201a, pq201b, pq201c, pq201d, pq201e⟩ := pq201
        have k203 := fr2.nil k203
        subst k203
        show am_Ok _ _ _ (79, _, [], _, 0, 0) _
        have e204 : F198 20 = F187 20 := k202 20 (by decide)
        have e205 : F187 20 = F 20 := k191 20 (by decide)
        have e206 : F198 21 = F187 21 := k202 21 (by decide)
        have e207 : F187 21 = F 21 := k191 21 (by decide)
        have e208 : F 21 = F0 21 := hF 21 (by decide)
        have e209 : F198 23 = F187 23 := k202 23 (by decide)
        have e210 : F198 6 = F187 6 := k202 6 (by decide)
        have e211 : F187 6 = F 6 := k191 6 (by decide)
        have e212 : F198 5 = F187 5 := k202 5 (by decide)
        have e213 : F187 5 = F 5 := k191 5 (by decide)
        have e214 : F198 18 = F187 18 := k202 18 (by decide)
        have e215 : F187 18 = F 18 := k191 18 (by decide)
        have e216 : F 18 = F0 18 := hF 18 (by decide)
        exact k_fin rfl rfl ⟨_, _, _, rfl, I200, (fr1.tr (by decide) (fr1.tr (by decide) hF k191) k202), (fr2.tr (by decide) hA k192), ⟨(show (F0 8 ≤ F198 8 ∧ F198 8 ≤ F0 7 ∧ F0 20 ≤ F198 20 ∧ F198 20 ≤ 30 ∧ F198 21 = F0 21 ∧ F0 23 ≤ F198 23 ∧ F198 23 ≤ 1000000 ∧ (F198 9 = 2 → 0 ≤ F198 11 ∧ F198 11 ≤ 9) ∧ 0 ≤ F198 9 ∧ F198 9 ≤ 4) by omega), (show (F198 6 = 0 → F198 20 = F0 20 ∧ F0 6 = 0 ∧ (F198 9 = 0 ∨ F0 8 < F198 8) ∧ F198 5 = F0 5) by omega), (fun z1 z2 => by have z9 : F198 23 ≤ 124 := z2; have h9 := pq190c (by omega); exact rd_var (c := x182.toInt) (show F198 23 = F0 23 + 1 by omega) (by rw [← hf23]; exact h9.1) (fun q hq => (h9.2 q (by omega)).trans (congrFun hA22 q)) (by omega)), (show PN tx gs (F198 5) (F198 6) (F198 8) (F198 9) (F198 10) (F198 11) (F198 12) (F198 13) (F198 14) (F198 18) (F198 20) (F198 21) (F198 23) ((A188 15)) ((A188 16)) ((A188 17)) ((A188 19)) ((A188 22)) from PN.ok (l := [2 + v1.toInt]) (by omega) (rn_v p6 p3 i5 p8 hb7 p9 (by omega) (by omega) (show A0 19 (F0 20 - 1 - v1.toInt) = F0 13 by omega) i4) (pq201e.cg (by omega) rfl rfl rfl rfl rfl rfl rfl) ((RS.new p7 (hcu.emit pq190d.1 pq190d.2 pq190c (by omega))).cg (by omega) (by omega) (by omega) (by omega) ((k192 15 (by decide)).trans (hA 15 (by decide))) ((k192 16 (by decide)).trans (hA 16 (by decide))) ((k192 17 (by decide)).trans (hA 17 (by decide))) ((k192 19 (by decide)).trans (hA 19 (by decide))) (show A188 22 = A188 22 from rfl)))⟩⟩
    · refine k_c2 33 rfl rfl (if_neg b4) ?_
      have b4 := mt iv_le.mpr b4
      refine k_aload 34 rfl g0 rfl ?_
      refine r_gA hI 37 rfl rfl rfl ?_
      refine k_aload 38 rfl g0 rfl ?_
      refine r_gI hI 41 rfl rfl rfl (fun x217 (e218 : x217.toInt = F 20) => ?_)
      refine k_push 42 rfl rfl ?_
      have hc219 : (1 : Int32).toInt = 1 := by decide
      obtain ⟨x220, q221⟩ : ∃ q : Int32, q = (x217 - (1 : Int32)) := ⟨_, rfl⟩
      have e222 : x220.toInt = x217.toInt - 1 := by rw [q221, iv_sub (by omega) (by omega)]; omega
      refine k_bin x220 43 rfl q221.symm rfl ?_
      refine k_iload 44 rfl g1 rfl ?_
      obtain ⟨x223, q224⟩ : ∃ q : Int32, q = (x220 - v1) := ⟨_, rfl⟩
      have e225 : x223.toInt = x220.toInt - v1.toInt := by rw [q224, iv_sub (by omega) (by omega)]
      refine k_bin x223 45 rfl q224.symm rfl ?_
      refine r_lld 19 hI 46 rfl rfl (by omega) (show x223.toInt < 31 by omega) rfl (fun x226 (e227 : x226.toInt = A 19 x223.toInt) => ?_)
      have e228 : A 19 = A0 19 := hA 19 (by decide)
      rw [e228] at e227
      have hld := e227
      have hld2 : x226.toInt = A0 19 (F0 20 - 1 - v1.toInt) := hld.trans (congrArg (A0 19) (by omega))
      refine k_aload 47 rfl g0 rfl ?_
      refine r_gJ hI 50 rfl rfl rfl (fun y229 (e230 : y229.toInt = F 13) => ?_)
      refine k_binL 51 rfl rfl ?_
      generalize q232 : lg_cmp x226 y229 = y231
      have e233 := jc_eq q232
      by_cases b234 : y231 = 0
      · refine k_c1 60 rfl rfl (if_pos b234) ?_
        have b234 := iv_eq0.mp b234
        refine k_iload 61 rfl g1 rfl ?_
        refine k_aload 62 rfl g0 rfl ?_
        refine r_gI hI 65 rfl rfl rfl (fun x235 (e236 : x235.toInt = F 20) => ?_)
        by_cases b237 : x235 ≤ v1
        · refine k_c2 80 rfl rfl (if_pos b237) ?_
          have b237 := iv_le.mp b237
          refine k_aload 81 rfl g0 rfl ?_
          refine k_aload 82 rfl g0 rfl ?_
          refine r_gJ hI 85 rfl rfl rfl (fun y238 (e239 : y238.toInt = F 13) => ?_)
          have e240 : F 18 = F0 18 := hF 18 (by decide)
          refine k_rq hI rfl (m_nameOf  hI.1 (show 0 ≤ (F 18) ∧ (F 18) ≤ 12 by omega)) rfl rfl rfl hI.rc ?_
          rintro x241 h242 F243 A244 I245 ⟨k247, k248, pq246⟩
          replace pq246 : (x241.toInt = -1 ∨ (0 ≤ x241.toInt ∧ x241.toInt < (F 18))) ∧ (∀ k : Int, 0 ≤ k → k < (F 18) → (x241.toInt = -1 ∨ k < x241.toInt) → (A 15) k ≠ y238.toInt) ∧ (x241.toInt ≠ -1 → (A 15) x241.toInt = y238.toInt) := pq246
          obtain ⟨pq246a, pq246b, pq246c⟩ := pq246
          have k247 := fr1.nil k247
          subst k247
          have k248 := fr2.nil k248
          subst k248
          show am_Ok _ _ _ (88, _, [.inl x241], _, 0, 0) _
          have hw9 : y238.toInt = F0 13 := by omega
          have hna := pq246a
          have hnb := pq246b
          have hnc := pq246c
          rw [hw9] at hnb hnc
          rw [hA 15 (by decide)] at hnb hnc
          rw [hF 18 (by decide)] at hna hnb
          have hgx := rn_N p6 p3 i5 hn7 hna hnb hnc
          have hfx := rn_f p6 p3 i5 hb7 p9 (fun k k1 k2 => i4 k k1 (by omega))
          refine k_istore 89 rfl rfl ?_
          refine k_aload 90 rfl (gs_ne rfl rfl g0) rfl ?_
          refine k_iload 91 rfl gs_eq rfl ?_
          refine k_push 92 rfl rfl ?_
          have hc249 : (-1 : Int32).toInt = -1 := by decide
          by_cases b250 : x241 = (-1 : Int32)
          · refine k_c2 99 rfl rfl (if_pos b250) ?_
            have b250 := iv_eq.mp b250
            refine k_push 100 rfl rfl ?_
            have hc251 : (0 : Int32).toInt = 0 := by decide
            refine k_push 101 rfl rfl ?_
            have hc252 : (3 : Int32).toInt = 3 := by decide
            refine k_in (d := 1) rfl rfl rfl rfl I245.rc ?_
            refine k_aload 1 rfl rfl rfl ?_
            refine k_in (d := 0) rfl rfl rfl rfl I245.rc ?_
            refine k_aload 1 rfl rfl rfl ?_
            refine r_gI I245 4 rfl rfl rfl (fun x253 (e254 : x253.toInt = F 6) => ?_)
            by_cases b255 : x253 = 0
            · refine k_c1 7 rfl rfl (if_pos b255) ?_
              have b255 := iv_eq0.mp b255
              refine k_push 8 rfl rfl ?_
              refine k_goto 12 rfl rfl ?_
              refine k_fin rfl (fin_Z (Or.inr rfl)) ⟨_, _, rfl, rf_len I245 I245, ?_⟩
              show am_Ok _ _ _ (4, _, [.inl (1 : Int32)], _, 0, 0) _
              refine k_c1 7 rfl rfl (if_neg (by decide)) ?_
              refine k_iload 8 rfl rfl rfl ?_
              refine k_c1 11 rfl rfl (if_pos (by decide)) ?_
              refine k_aload 12 rfl rfl rfl ?_
              refine k_iload 13 rfl rfl rfl ?_
              refine r_pI I245 16 rfl rfl rfl (fun h256 I257 => ?_)
              refine k_aload 17 rfl rfl rfl ?_
              refine k_aload 18 rfl rfl rfl ?_
              refine r_gI I257 21 rfl rfl rfl (fun x258 (e259 : x258.toInt = F 10) => ?_)
              refine r_pI I257 24 rfl rfl rfl (fun h260 I261 => ?_)
              refine k_aload 25 rfl rfl rfl ?_
              refine k_in (d := 0) rfl rfl rfl rfl I261.rc ?_
              refine k_aload 1 rfl rfl rfl ?_
              refine r_gI I261 4 rfl rfl rfl (fun x262 (e263 : x262.toInt = (3 : Int32).toInt) => ?_)
              by_cases b264 : x262 = 0
              · refine k_c1 7 rfl rfl (if_pos b264) ?_
                have b264 := iv_eq0.mp b264
                refine k_push 8 rfl rfl ?_
                refine k_goto 12 rfl rfl ?_
                refine k_fin rfl (fin_Z (Or.inr rfl)) ⟨_, _, rfl, rf_len I261 I261, ?_⟩
                show am_Ok _ _ _ (28, _, [.inl (1 : Int32)], _, 0, 0) _
                refine k_fin rfl (fin_Z (Or.inr rfl)) ⟨_, _, rfl, rf_len I245 I261, ?_⟩
                show am_Ok _ _ _ (104, _, [.inl (1 : Int32)], _, 0, 0) _
                refine k_c1 107 rfl rfl (if_neg (by decide)) ?_
                obtain ⟨n91, n92, n93⟩ := p2 x241.toInt (by omega) (by omega)
                obtain ⟨l9, w9, o1, o2, o3, o4, o5, o6⟩ := hn7.2.2.2 x241.toInt.toNat (by have := hn7.1; omega)
                rw [show ((x241.toInt.toNat : Nat) : Int) = x241.toInt by omega] at o3 o5 o6
                refine k_aload 108 rfl (gs_ne rfl rfl g0) rfl ?_
                refine k_iload 109 rfl gs_eq rfl ?_
                refine k_rv I261 rfl (m_putsIn  I261.1 (show 0 ≤ (F 23) ∧ (F 23) ≤ 1000000 by omega) (show 0 ≤ x241.toInt ∧ x241.toInt < 12 ∧ 0 ≤ (A 17) x241.toInt ∧ (A 17) x241.toInt ≤ 1000000 by rw [(hA 17 (by decide))]; omega)) rfl rfl rfl I261.rc ?_
                rintro h266 F267 A268 I269 ⟨k271, k272, pq270⟩
                replace pq270 : ((F 23) ≤ F267 23 ∧ F267 23 ≤ 1000000) ∧ (F267 23 ≤ 124 → F267 23 = (F 23) + (A 17) x241.toInt) ∧ imp (F267 23 ≤ 124) ((∀ k : Int, 0 ≤ k → k < (A 17) x241.toInt → A268 22 ((F 23) + k) = (A 16) (124 * x241.toInt + k)) ∧ ∀ q : Int, q < (F 23) → A268 22 q = (A 22) q) ∧ F267 23 = min ((F 23) + (A 17) x241.toInt) 1000000 := pq270
                obtain ⟨pq270a, pq270b, pq270c, pq270d⟩ := pq270
                show am_Ok _ _ _ (112, _, [], _, 0, 0) _
                have hpd := pq270d
                have hpc := pq270c
                rw [hA 17 (by decide)] at hpd hpc
                rw [hA 16 (by decide)] at hpc
                refine k_aload 113 rfl (gs_ne rfl rfl g0) rfl ?_
                have e273 : F267 8 = F 8 := k271 8 (by decide)
                have e274 : F267 7 = F 7 := k271 7 (by decide)
                have e275 : F 7 = F0 7 := hF 7 (by decide)
                refine k_rv I269 rfl (m_goes  I269.1 (show 0 ≤ (F267 8) ∧ (F267 8) ≤ (F267 7) ∧ (F267 7) ≤ 700 by omega) (show TP tx ((F267 7)) ((A268 3)) by rw [((k271 7 (by decide)).trans (hF 7 (by decide))), ((k272 3 (by decide)).trans (hA 3 (by decide)))]; exact pT)) rfl rfl rfl I269.rc ?_
                rintro h277 F278 A279 I280 ⟨k282, k283, pq281⟩
                replace pq281 : ((F267 8) ≤ F278 8 ∧ F278 8 ≤ (F267 7)) ∧ (F278 9 = 0 ∨ (F267 8) < F278 8) ∧ (F278 9 = 2 → 0 ≤ F278 11 ∧ F278 11 ≤ 9) ∧ (0 ≤ F278 9 ∧ F278 9 ≤ 4) ∧ TKv tx ((F267 8)) (F278 8) (F278 9) (F278 10) (F278 11) (F278 12) (F278 13) (F278 14) := pq281
                obtain ⟨pq281a, pq281b, pq281c, pq281d, pq281e⟩ := pq281
                have k283 := fr2.nil k283
                subst k283
                show am_Ok _ _ _ (116, _, [], _, 0, 0) _
                have e284 : F278 20 = F267 20 := k282 20 (by decide)
                have e285 : F267 20 = F 20 := k271 20 (by decide)
                have e286 : F278 21 = F267 21 := k282 21 (by decide)
                have e287 : F267 21 = F 21 := k271 21 (by decide)
                have e288 : F 21 = F0 21 := hF 21 (by decide)
                have e289 : F278 23 = F267 23 := k282 23 (by decide)
                have e290 : F278 6 = F267 6 := k282 6 (by decide)
                have e291 : F267 6 = (3 : Int32).toInt := k271 6 (by decide)
                have e292 : F278 5 = F267 5 := k282 5 (by decide)
                have e293 : F267 5 = x258.toInt := k271 5 (by decide)
                have e294 : F278 18 = F267 18 := k282 18 (by decide)
                have e295 : F267 18 = F 18 := k271 18 (by decide)
                exact k_fin rfl rfl ⟨_, _, _, rfl, I280, (fr1.tr (by decide) (fr1.tr (by decide) (fr1.up (by decide) (fr1.up (by decide) hF)) k271) k282), (fr2.tr (by decide) hA k272), ⟨(show (F0 8 ≤ F278 8 ∧ F278 8 ≤ F0 7 ∧ F0 20 ≤ F278 20 ∧ F278 20 ≤ 30 ∧ F278 21 = F0 21 ∧ F0 23 ≤ F278 23 ∧ F278 23 ≤ 1000000 ∧ (F278 9 = 2 → 0 ≤ F278 11 ∧ F278 11 ≤ 9) ∧ 0 ≤ F278 9 ∧ F278 9 ≤ 4) by omega), (show (F278 6 = 0 → F278 20 = F0 20 ∧ F0 6 = 0 ∧ (F278 9 = 0 ∨ F0 8 < F278 8) ∧ F278 5 = F0 5) by omega), (fun z1 z2 => by have z9 : F278 23 ≤ 124 := z2; have h9 := pq270c (by omega); exact rd_put (m := A0 17 x241.toInt) (P := A0 16) (s := 124 * x241.toInt) (show F278 23 = F0 23 + A0 17 x241.toInt by have h8 := pq270b (by omega); rw [hA 17 (by decide)] at h8; omega) n91 (n93 (by have h8 := pq270b (by omega); rw [hA 17 (by decide)] at h8; omega)) (fun k k1 k2 => by rw [← hf23, ← hA 16 (by decide)]; exact h9.1 k k1 (by rw [hA 17 (by decide)]; exact k2)) (fun q hq => (h9.2 q (by omega)).trans (congrFun hA22 q)) (by omega)), (show PN tx gs (F278 5) (F278 6) (F278 8) (F278 9) (F278 10) (F278 11) (F278 12) (F278 13) (F278 14) (F278 18) (F278 20) (F278 21) (F278 23) ((A268 15)) ((A268 16)) ((A268 17)) ((A268 19)) ((A268 22)) from PN.ok (l := l9) (by omega) (rn_n p6 p3 i5 p8 hfx hgx (by omega) o1) (pq281e.cg (by omega) rfl rfl rfl rfl rfl rfl rfl) ((RS.new p7 (hcu.put o5 hpd o6 hpc)).cg (by omega) (by omega) (by omega) (by omega) ((k272 15 (by decide)).trans (hA 15 (by decide))) ((k272 16 (by decide)).trans (hA 16 (by decide))) ((k272 17 (by decide)).trans (hA 17 (by decide))) ((k272 19 (by decide)).trans (hA 19 (by decide))) (show A268 22 = A268 22 from rfl)))⟩⟩
              · refine k_c1 11 rfl rfl (if_neg b264) ?_
                have b264 := mt iv_eq0.mpr b264
                refine k_push 12 rfl rfl ?_
                refine k_fin rfl (fin_Z (Or.inl rfl)) ⟨_, _, rfl, rf_len I261 I261, ?_⟩
                show am_Ok _ _ _ (28, _, [.inl (0 : Int32)], _, 0, 0) _
                refine k_fin rfl (fin_Z (Or.inl rfl)) ⟨_, _, rfl, rf_len I245 I261, ?_⟩
                show am_Ok _ _ _ (104, _, [.inl (0 : Int32)], _, 0, 0) _
                refine k_c1 116 rfl rfl (if_pos (by decide)) ?_
                have e296 : F 21 = F0 21 := hF 21 (by decide)
                exact k_fin rfl rfl ⟨_, _, _, rfl, I261, (fr1.up (by decide) (fr1.up (by decide) hF)), hA, ⟨(show (F0 8 ≤ F 8 ∧ F 8 ≤ F0 7 ∧ F0 20 ≤ F 20 ∧ F 20 ≤ 30 ∧ F 21 = F0 21 ∧ F0 23 ≤ F 23 ∧ F 23 ≤ 1000000 ∧ (F 9 = 2 → 0 ≤ F 11 ∧ F 11 ≤ 9) ∧ 0 ≤ F 9 ∧ F 9 ≤ 4) by omega), (show ((3 : Int32).toInt = 0 → F 20 = F0 20 ∧ F0 6 = 0 ∧ (F 9 = 0 ∨ F0 8 < F 8) ∧ x258.toInt = F0 5) by omega), (fun z => absurd (show (3 : Int32).toInt = 0 from z) (by omega)), (show PN tx gs (x258.toInt) ((3 : Int32).toInt) (F 8) (F 9) (F 10) (F 11) (F 12) (F 13) (F 14) (F 18) (F 20) (F 21) (F 23) ((A 15)) ((A 16)) ((A 17)) ((A 19)) ((A 22)) from PN.bad (by omega) (rn_3 p6 p3 i5 p8 hfx (by rw [hgx]; omega) (by omega) (by omega)))⟩⟩
            · refine k_c1 11 rfl rfl (if_neg b255) ?_
              have b255 := mt iv_eq0.mpr b255
              refine k_push 12 rfl rfl ?_
              refine k_fin rfl (fin_Z (Or.inl rfl)) ⟨_, _, rfl, rf_len I245 I245, ?_⟩
              show am_Ok _ _ _ (4, _, [.inl (0 : Int32)], _, 0, 0) _
              refine k_c1 24 rfl rfl (if_pos (by decide)) ?_
              refine k_aload 25 rfl rfl rfl ?_
              refine k_in (d := 0) rfl rfl rfl rfl I245.rc ?_
              refine k_aload 1 rfl rfl rfl ?_
              refine r_gI I245 4 rfl rfl rfl (fun x297 (e298 : x297.toInt = F 6) => ?_)
              by_cases b299 : x297 = 0
              · refine k_c1 7 rfl rfl (if_pos b299) ?_
                have b299 := iv_eq0.mp b299
                refine k_push 8 rfl rfl ?_
                refine k_goto 12 rfl rfl ?_
                refine k_fin rfl (fin_Z (Or.inr rfl)) ⟨_, _, rfl, rf_len I245 I245, ?_⟩
                show am_Ok _ _ _ (28, _, [.inl (1 : Int32)], _, 0, 0) _
                refine k_fin rfl (fin_Z (Or.inr rfl)) ⟨_, _, rfl, rf_len I245 I245, ?_⟩
                show am_Ok _ _ _ (104, _, [.inl (1 : Int32)], _, 0, 0) _
                refine k_c1 107 rfl rfl (if_neg (by decide)) ?_
                obtain ⟨n91, n92, n93⟩ := p2 x241.toInt (by omega) (by omega)
                obtain ⟨l9, w9, o1, o2, o3, o4, o5, o6⟩ := hn7.2.2.2 x241.toInt.toNat (by have := hn7.1; omega)
                rw [show ((x241.toInt.toNat : Nat) : Int) = x241.toInt by omega] at o3 o5 o6
                refine k_aload 108 rfl (gs_ne rfl rfl g0) rfl ?_
                refine k_iload 109 rfl gs_eq rfl ?_
                refine k_rv I245 rfl (m_putsIn  I245.1 (show 0 ≤ (F 23) ∧ (F 23) ≤ 1000000 by omega) (show 0 ≤ x241.toInt ∧ x241.toInt < 12 ∧ 0 ≤ (A 17) x241.toInt ∧ (A 17) x241.toInt ≤ 1000000 by rw [(hA 17 (by decide))]; omega)) rfl rfl rfl I245.rc ?_
                rintro h301 F302 A303 I304 ⟨k306, k307, pq305⟩
                replace pq305 : ((F 23) ≤ F302 23 ∧ F302 23 ≤ 1000000) ∧ (F302 23 ≤ 124 → F302 23 = (F 23) + (A 17) x241.toInt) ∧ imp (F302 23 ≤ 124) ((∀ k : Int, 0 ≤ k → k < (A 17) x241.toInt → A303 22 ((F 23) + k) = (A 16) (124 * x241.toInt + k)) ∧ ∀ q : Int, q < (F 23) → A303 22 q = (A 22) q) ∧ F302 23 = min ((F 23) + (A 17) x241.toInt) 1000000 := pq305
                obtain ⟨pq305a, pq305b, pq305c, pq305d⟩ := pq305
                show am_Ok _ _ _ (112, _, [], _, 0, 0) _
                have hpd := pq305d
                have hpc := pq305c
                rw [hA 17 (by decide)] at hpd hpc
                rw [hA 16 (by decide)] at hpc
                refine k_aload 113 rfl (gs_ne rfl rfl g0) rfl ?_
                have e308 : F302 8 = F 8 := k306 8 (by decide)
                have e309 : F302 7 = F 7 := k306 7 (by decide)
                have e310 : F 7 = F0 7 := hF 7 (by decide)
                refine k_rv I304 rfl (m_goes  I304.1 (show 0 ≤ (F302 8) ∧ (F302 8) ≤ (F302 7) ∧ (F302 7) ≤ 700 by omega) (show TP tx ((F302 7)) ((A303 3)) by rw [((k306 7 (by decide)).trans (hF 7 (by decide))), ((k307 3 (by decide)).trans (hA 3 (by decide)))]; exact pT)) rfl rfl rfl I304.rc ?_
                rintro h312 F313 A314 I315 ⟨k317, k318, pq316⟩
                replace pq316 : ((F302 8) ≤ F313 8 ∧ F313 8 ≤ (F302 7)) ∧ (F313 9 = 0 ∨ (F302 8) < F313 8) ∧ (F313 9 = 2 → 0 ≤ F313 11 ∧ F313 11 ≤ 9) ∧ (0 ≤ F313 9 ∧ F313 9 ≤ 4) ∧ TKv tx ((F302 8)) (F313 8) (F313 9) (F313 10) (F313 11) (F313 12) (F313 13) (F313 14) := pq316
                obtain ⟨pq316a, pq316b, pq316c, pq316d, pq316e⟩ := pq316
                have k318 := fr2.nil k318
                subst k318
                show am_Ok _ _ _ (116, _, [], _, 0, 0) _
                have e319 : F313 20 = F302 20 := k317 20 (by decide)
                have e320 : F302 20 = F 20 := k306 20 (by decide)
                have e321 : F313 21 = F302 21 := k317 21 (by decide)
                have e322 : F302 21 = F 21 := k306 21 (by decide)
                have e323 : F 21 = F0 21 := hF 21 (by decide)
                have e324 : F313 23 = F302 23 := k317 23 (by decide)
                have e325 : F313 6 = F302 6 := k317 6 (by decide)
                have e326 : F302 6 = F 6 := k306 6 (by decide)
                have e327 : F313 5 = F302 5 := k317 5 (by decide)
                have e328 : F302 5 = F 5 := k306 5 (by decide)
                have e329 : F313 18 = F302 18 := k317 18 (by decide)
                have e330 : F302 18 = F 18 := k306 18 (by decide)
                exact k_fin rfl rfl ⟨_, _, _, rfl, I315, (fr1.tr (by decide) (fr1.tr (by decide) hF k306) k317), (fr2.tr (by decide) hA k307), ⟨(show (F0 8 ≤ F313 8 ∧ F313 8 ≤ F0 7 ∧ F0 20 ≤ F313 20 ∧ F313 20 ≤ 30 ∧ F313 21 = F0 21 ∧ F0 23 ≤ F313 23 ∧ F313 23 ≤ 1000000 ∧ (F313 9 = 2 → 0 ≤ F313 11 ∧ F313 11 ≤ 9) ∧ 0 ≤ F313 9 ∧ F313 9 ≤ 4) by omega), (show (F313 6 = 0 → F313 20 = F0 20 ∧ F0 6 = 0 ∧ (F313 9 = 0 ∨ F0 8 < F313 8) ∧ F313 5 = F0 5) by omega), (fun z1 z2 => by have z9 : F313 23 ≤ 124 := z2; have h9 := pq305c (by omega); exact rd_put (m := A0 17 x241.toInt) (P := A0 16) (s := 124 * x241.toInt) (show F313 23 = F0 23 + A0 17 x241.toInt by have h8 := pq305b (by omega); rw [hA 17 (by decide)] at h8; omega) n91 (n93 (by have h8 := pq305b (by omega); rw [hA 17 (by decide)] at h8; omega)) (fun k k1 k2 => by rw [← hf23, ← hA 16 (by decide)]; exact h9.1 k k1 (by rw [hA 17 (by decide)]; exact k2)) (fun q hq => (h9.2 q (by omega)).trans (congrFun hA22 q)) (by omega)), (show PN tx gs (F313 5) (F313 6) (F313 8) (F313 9) (F313 10) (F313 11) (F313 12) (F313 13) (F313 14) (F313 18) (F313 20) (F313 21) (F313 23) ((A303 15)) ((A303 16)) ((A303 17)) ((A303 19)) ((A303 22)) from PN.ok (l := l9) (by omega) (rn_n p6 p3 i5 p8 hfx hgx (by omega) o1) (pq316e.cg (by omega) rfl rfl rfl rfl rfl rfl rfl) ((RS.new p7 (hcu.put o5 hpd o6 hpc)).cg (by omega) (by omega) (by omega) (by omega) ((k307 15 (by decide)).trans (hA 15 (by decide))) ((k307 16 (by decide)).trans (hA 16 (by decide))) ((k307 17 (by decide)).trans (hA 17 (by decide))) ((k307 19 (by decide)).trans (hA 19 (by decide))) (show A303 22 = A303 22 from rfl)))⟩⟩
              · refine k_c1 11 rfl rfl (if_neg b299) ?_
                have b299 := mt iv_eq0.mpr b299
                refine k_push 12 rfl rfl ?_
                refine k_fin rfl (fin_Z (Or.inl rfl)) ⟨_, _, rfl, rf_len I245 I245, ?_⟩
                show am_Ok _ _ _ (28, _, [.inl (0 : Int32)], _, 0, 0) _
                refine k_fin rfl (fin_Z (Or.inl rfl)) ⟨_, _, rfl, rf_len I245 I245, ?_⟩
                show am_Ok _ _ _ (104, _, [.inl (0 : Int32)], _, 0, 0) _
                refine k_c1 116 rfl rfl (if_pos (by decide)) ?_
                have e331 : F 21 = F0 21 := hF 21 (by decide)
                exact k_fin rfl rfl ⟨_, _, _, rfl, I245, hF, hA, ⟨(show (F0 8 ≤ F 8 ∧ F 8 ≤ F0 7 ∧ F0 20 ≤ F 20 ∧ F 20 ≤ 30 ∧ F 21 = F0 21 ∧ F0 23 ≤ F 23 ∧ F 23 ≤ 1000000 ∧ (F 9 = 2 → 0 ≤ F 11 ∧ F 11 ≤ 9) ∧ 0 ≤ F 9 ∧ F 9 ≤ 4) by omega), (show (F 6 = 0 → F 20 = F0 20 ∧ F0 6 = 0 ∧ (F 9 = 0 ∨ F0 8 < F 8) ∧ F 5 = F0 5) by omega), (fun z => absurd (show F 6 = 0 from z) (by omega)), (show PN tx gs (F 5) (F 6) (F 8) (F 9) (F 10) (F 11) (F 12) (F 13) (F 14) (F 18) (F 20) (F 21) (F 23) ((A 15)) ((A 16)) ((A 17)) ((A 19)) ((A 22)) from PN.bad (by omega) (rn_3 p6 p3 i5 p8 hfx (by rw [hgx]; omega) (by omega) (by omega)))⟩⟩
          · refine k_c2 95 rfl rfl (if_neg b250) ?_
            have b250 := mt iv_eq.mpr b250
            refine k_push 96 rfl rfl ?_
            refine k_goto 100 rfl rfl ?_
            refine k_push 101 rfl rfl ?_
            have hc332 : (3 : Int32).toInt = 3 := by decide
            refine k_in (d := 1) rfl rfl rfl rfl I245.rc ?_
            refine k_aload 1 rfl rfl rfl ?_
            refine k_in (d := 0) rfl rfl rfl rfl I245.rc ?_
            refine k_aload 1 rfl rfl rfl ?_
            refine r_gI I245 4 rfl rfl rfl (fun x333 (e334 : x333.toInt = F 6) => ?_)
            by_cases b335 : x333 = 0
            · refine k_c1 7 rfl rfl (if_pos b335) ?_
              have b335 := iv_eq0.mp b335
              refine k_push 8 rfl rfl ?_
              refine k_goto 12 rfl rfl ?_
              refine k_fin rfl (fin_Z (Or.inr rfl)) ⟨_, _, rfl, rf_len I245 I245, ?_⟩
              show am_Ok _ _ _ (4, _, [.inl (1 : Int32)], _, 0, 0) _
              refine k_c1 7 rfl rfl (if_neg (by decide)) ?_
              refine k_iload 8 rfl rfl rfl ?_
              refine k_c1 24 rfl rfl (if_neg (by decide)) ?_
              refine k_aload 25 rfl rfl rfl ?_
              refine k_in (d := 0) rfl rfl rfl rfl I245.rc ?_
              refine k_aload 1 rfl rfl rfl ?_
              refine r_gI I245 4 rfl rfl rfl (fun x336 (e337 : x336.toInt = F 6) => ?_)
              by_cases b338 : x336 = 0
              · refine k_c1 7 rfl rfl (if_pos b338) ?_
                have b338 := iv_eq0.mp b338
                refine k_push 8 rfl rfl ?_
                refine k_goto 12 rfl rfl ?_
                refine k_fin rfl (fin_Z (Or.inr rfl)) ⟨_, _, rfl, rf_len I245 I245, ?_⟩
                show am_Ok _ _ _ (28, _, [.inl (1 : Int32)], _, 0, 0) _
                refine k_fin rfl (fin_Z (Or.inr rfl)) ⟨_, _, rfl, rf_len I245 I245, ?_⟩
                show am_Ok _ _ _ (104, _, [.inl (1 : Int32)], _, 0, 0) _
                refine k_c1 107 rfl rfl (if_neg (by decide)) ?_
                obtain ⟨n91, n92, n93⟩ := p2 x241.toInt (by omega) (by omega)
                obtain ⟨l9, w9, o1, o2, o3, o4, o5, o6⟩ := hn7.2.2.2 x241.toInt.toNat (by have := hn7.1; omega)
                rw [show ((x241.toInt.toNat : Nat) : Int) = x241.toInt by omega] at o3 o5 o6
                refine k_aload 108 rfl (gs_ne rfl rfl g0) rfl ?_
                refine k_iload 109 rfl gs_eq rfl ?_
                refine k_rv I245 rfl (m_putsIn  I245.1 (show 0 ≤ (F 23) ∧ (F 23) ≤ 1000000 by omega) (show 0 ≤ x241.toInt ∧ x241.toInt < 12 ∧ 0 ≤ (A 17) x241.toInt ∧ (A 17) x241.toInt ≤ 1000000 by rw [(hA 17 (by decide))]; omega)) rfl rfl rfl I245.rc ?_
                rintro h340 F341 A342 I343 ⟨k345, k346, pq344⟩
                replace pq344 : ((F 23) ≤ F341 23 ∧ F341 23 ≤ 1000000) ∧ (F341 23 ≤ 124 → F341 23 = (F 23) + (A 17) x241.toInt) ∧ imp (F341 23 ≤ 124) ((∀ k : Int, 0 ≤ k → k < (A 17) x241.toInt → A342 22 ((F 23) + k) = (A 16) (124 * x241.toInt + k)) ∧ ∀ q : Int, q < (F 23) → A342 22 q = (A 22) q) ∧ F341 23 = min ((F 23) + (A 17) x241.toInt) 1000000 := pq344
                obtain ⟨pq344a, pq344b, pq344c, pq344d⟩ := pq344
                show am_Ok _ _ _ (112, _, [], _, 0, 0) _
                have hpd := pq344d
                have hpc := pq344c
                rw [hA 17 (by decide)] at hpd hpc
                rw [hA 16 (by decide)] at hpc
                refine k_aload 113 rfl (gs_ne rfl rfl g0) rfl ?_
                have e347 : F341 8 = F 8 := k345 8 (by decide)
                have e348 : F341 7 = F 7 := k345 7 (by decide)
                have e349 : F 7 = F0 7 := hF 7 (by decide)
                refine k_rv I343 rfl (m_goes  I343.1 (show 0 ≤ (F341 8) ∧ (F341 8) ≤ (F341 7) ∧ (F341 7) ≤ 700 by omega) (show TP tx ((F341 7)) ((A342 3)) by rw [((k345 7 (by decide)).trans (hF 7 (by decide))), ((k346 3 (by decide)).trans (hA 3 (by decide)))]; exact pT)) rfl rfl rfl I343.rc ?_
                rintro h351 F352 A353 I354 ⟨k356, k357, pq355⟩
                replace pq355 : ((F341 8) ≤ F352 8 ∧ F352 8 ≤ (F341 7)) ∧ (F352 9 = 0 ∨ (F341 8) < F352 8) ∧ (F352 9 = 2 → 0 ≤ F352 11 ∧ F352 11 ≤ 9) ∧ (0 ≤ F352 9 ∧ F352 9 ≤ 4) ∧ TKv tx ((F341 8)) (F352 8) (F352 9) (F352 10) (F352 11) (F352 12) (F352 13) (F352 14) := pq355
                obtain ⟨pq355a, pq355b, pq355c, pq355d, pq355e⟩ := pq355
                have k357 := fr2.nil k357
                subst k357
                show am_Ok _ _ _ (116, _, [], _, 0, 0) _
                have e358 : F352 20 = F341 20 := k356 20 (by decide)
                have e359 : F341 20 = F 20 := k345 20 (by decide)
                have e360 : F352 21 = F341 21 := k356 21 (by decide)
                have e361 : F341 21 = F 21 := k345 21 (by decide)
                have e362 : F 21 = F0 21 := hF 21 (by decide)
                have e363 : F352 23 = F341 23 := k356 23 (by decide)
                have e364 : F352 6 = F341 6 := k356 6 (by decide)
                have e365 : F341 6 = F 6 := k345 6 (by decide)
                have e366 : F352 5 = F341 5 := k356 5 (by decide)
                have e367 : F341 5 = F 5 := k345 5 (by decide)
                have e368 : F352 18 = F341 18 := k356 18 (by decide)
                have e369 : F341 18 = F 18 := k345 18 (by decide)
                exact k_fin rfl rfl ⟨_, _, _, rfl, I354, (fr1.tr (by decide) (fr1.tr (by decide) hF k345) k356), (fr2.tr (by decide) hA k346), ⟨(show (F0 8 ≤ F352 8 ∧ F352 8 ≤ F0 7 ∧ F0 20 ≤ F352 20 ∧ F352 20 ≤ 30 ∧ F352 21 = F0 21 ∧ F0 23 ≤ F352 23 ∧ F352 23 ≤ 1000000 ∧ (F352 9 = 2 → 0 ≤ F352 11 ∧ F352 11 ≤ 9) ∧ 0 ≤ F352 9 ∧ F352 9 ≤ 4) by omega), (show (F352 6 = 0 → F352 20 = F0 20 ∧ F0 6 = 0 ∧ (F352 9 = 0 ∨ F0 8 < F352 8) ∧ F352 5 = F0 5) by omega), (fun z1 z2 => by have z9 : F352 23 ≤ 124 := z2; have h9 := pq344c (by omega); exact rd_put (m := A0 17 x241.toInt) (P := A0 16) (s := 124 * x241.toInt) (show F352 23 = F0 23 + A0 17 x241.toInt by have h8 := pq344b (by omega); rw [hA 17 (by decide)] at h8; omega) n91 (n93 (by have h8 := pq344b (by omega); rw [hA 17 (by decide)] at h8; omega)) (fun k k1 k2 => by rw [← hf23, ← hA 16 (by decide)]; exact h9.1 k k1 (by rw [hA 17 (by decide)]; exact k2)) (fun q hq => (h9.2 q (by omega)).trans (congrFun hA22 q)) (by omega)), (show PN tx gs (F352 5) (F352 6) (F352 8) (F352 9) (F352 10) (F352 11) (F352 12) (F352 13) (F352 14) (F352 18) (F352 20) (F352 21) (F352 23) ((A342 15)) ((A342 16)) ((A342 17)) ((A342 19)) ((A342 22)) from PN.ok (l := l9) (by omega) (rn_n p6 p3 i5 p8 hfx hgx (by omega) o1) (pq355e.cg (by omega) rfl rfl rfl rfl rfl rfl rfl) ((RS.new p7 (hcu.put o5 hpd o6 hpc)).cg (by omega) (by omega) (by omega) (by omega) ((k346 15 (by decide)).trans (hA 15 (by decide))) ((k346 16 (by decide)).trans (hA 16 (by decide))) ((k346 17 (by decide)).trans (hA 17 (by decide))) ((k346 19 (by decide)).trans (hA 19 (by decide))) (show A342 22 = A342 22 from rfl)))⟩⟩
              · refine k_c1 11 rfl rfl (if_neg b338) ?_
                have b338 := mt iv_eq0.mpr b338
                refine k_push 12 rfl rfl ?_
                have hc370 : (0 : Int32).toInt = 0 := by decide
                refine k_fin rfl (fin_Z (Or.inl rfl)) ⟨_, _, rfl, rf_len I245 I245, ?_⟩
                show am_Ok _ _ _ (28, _, [.inl (0 : Int32)], _, 0, 0) _
                refine k_fin rfl (fin_Z (Or.inl rfl)) ⟨_, _, rfl, rf_len I245 I245, ?_⟩
                show am_Ok _ _ _ (104, _, [.inl (0 : Int32)], _, 0, 0) _
                refine k_c1 116 rfl rfl (if_pos (by decide)) ?_
                have e371 : F 21 = F0 21 := hF 21 (by decide)
                exact k_fin rfl rfl ⟨_, _, _, rfl, I245, hF, hA, ⟨(show (F0 8 ≤ F 8 ∧ F 8 ≤ F0 7 ∧ F0 20 ≤ F 20 ∧ F 20 ≤ 30 ∧ F 21 = F0 21 ∧ F0 23 ≤ F 23 ∧ F 23 ≤ 1000000 ∧ (F 9 = 2 → 0 ≤ F 11 ∧ F 11 ≤ 9) ∧ 0 ≤ F 9 ∧ F 9 ≤ 4) by omega), (show (F 6 = 0 → F 20 = F0 20 ∧ F0 6 = 0 ∧ (F 9 = 0 ∨ F0 8 < F 8) ∧ F 5 = F0 5) by omega), (fun z => absurd (show F 6 = 0 from z) (by omega)), (show PN tx gs (F 5) (F 6) (F 8) (F 9) (F 10) (F 11) (F 12) (F 13) (F 14) (F 18) (F 20) (F 21) (F 23) ((A 15)) ((A 16)) ((A 17)) ((A 19)) ((A 22)) from PN.bad (by omega) (rn_3 p6 p3 i5 p8 hfx (by rw [hgx]; omega) (by omega) (by omega)))⟩⟩
            · refine k_c1 11 rfl rfl (if_neg b335) ?_
              have b335 := mt iv_eq0.mpr b335
              refine k_push 12 rfl rfl ?_
              have hc372 : (0 : Int32).toInt = 0 := by decide
              refine k_fin rfl (fin_Z (Or.inl rfl)) ⟨_, _, rfl, rf_len I245 I245, ?_⟩
              show am_Ok _ _ _ (4, _, [.inl (0 : Int32)], _, 0, 0) _
              refine k_c1 24 rfl rfl (if_pos (by decide)) ?_
              refine k_aload 25 rfl rfl rfl ?_
              refine k_in (d := 0) rfl rfl rfl rfl I245.rc ?_
              refine k_aload 1 rfl rfl rfl ?_
              refine r_gI I245 4 rfl rfl rfl (fun x373 (e374 : x373.toInt = F 6) => ?_)
              by_cases b375 : x373 = 0
              · refine k_c1 7 rfl rfl (if_pos b375) ?_
                have b375 := iv_eq0.mp b375
                refine k_push 8 rfl rfl ?_
                refine k_goto 12 rfl rfl ?_
                refine k_fin rfl (fin_Z (Or.inr rfl)) ⟨_, _, rfl, rf_len I245 I245, ?_⟩
                show am_Ok _ _ _ (28, _, [.inl (1 : Int32)], _, 0, 0) _
                refine k_fin rfl (fin_Z (Or.inr rfl)) ⟨_, _, rfl, rf_len I245 I245, ?_⟩
                show am_Ok _ _ _ (104, _, [.inl (1 : Int32)], _, 0, 0) _
                refine k_c1 107 rfl rfl (if_neg (by decide)) ?_
                obtain ⟨n91, n92, n93⟩ := p2 x241.toInt (by omega) (by omega)
                obtain ⟨l9, w9, o1, o2, o3, o4, o5, o6⟩ := hn7.2.2.2 x241.toInt.toNat (by have := hn7.1; omega)
                rw [show ((x241.toInt.toNat : Nat) : Int) = x241.toInt by omega] at o3 o5 o6
                refine k_aload 108 rfl (gs_ne rfl rfl g0) rfl ?_
                refine k_iload 109 rfl gs_eq rfl ?_
                refine k_rv I245 rfl (m_putsIn  I245.1 (show 0 ≤ (F 23) ∧ (F 23) ≤ 1000000 by omega) (show 0 ≤ x241.toInt ∧ x241.toInt < 12 ∧ 0 ≤ (A 17) x241.toInt ∧ (A 17) x241.toInt ≤ 1000000 by rw [(hA 17 (by decide))]; omega)) rfl rfl rfl I245.rc ?_
                rintro h377 F378 A379 I380 ⟨k382, k383, pq381⟩
                replace pq381 : ((F 23) ≤ F378 23 ∧ F378 23 ≤ 1000000) ∧ (F378 23 ≤ 124 → F378 23 = (F 23) + (A 17) x241.toInt) ∧ imp (F378 23 ≤ 124) ((∀ k : Int, 0 ≤ k → k < (A 17) x241.toInt → A379 22 ((F 23) + k) = (A 16) (124 * x241.toInt + k)) ∧ ∀ q : Int, q < (F 23) → A379 22 q = (A 22) q) ∧ F378 23 = min ((F 23) + (A 17) x241.toInt) 1000000 := pq381
                obtain ⟨pq381a, pq381b, pq381c, pq381d⟩ := pq381
                show am_Ok _ _ _ (112, _, [], _, 0, 0) _
                have hpd := pq381d
                have hpc := pq381c
                rw [hA 17 (by decide)] at hpd hpc
                rw [hA 16 (by decide)] at hpc
                refine k_aload 113 rfl (gs_ne rfl rfl g0) rfl ?_
                have e384 : F378 8 = F 8 := k382 8 (by decide)
                have e385 : F378 7 = F 7 := k382 7 (by decide)
                have e386 : F 7 = F0 7 := hF 7 (by decide)
                refine k_rv I380 rfl (m_goes  I380.1 (show 0 ≤ (F378 8) ∧ (F378 8) ≤ (F378 7) ∧ (F378 7) ≤ 700 by omega) (show TP tx ((F378 7)) ((A379 3)) by rw [((k382 7 (by decide)).trans (hF 7 (by decide))), ((k383 3 (by decide)).trans (hA 3 (by decide)))]; exact pT)) rfl rfl rfl I380.rc ?_
                rintro h388 F389 A390 I391 ⟨k393, k394, pq392⟩
                replace pq392 : ((F378 8) ≤ F389 8 ∧ F389 8 ≤ (F378 7)) ∧ (F389 9 = 0 ∨ (F378 8) < F389 8) ∧ (F389 9 = 2 → 0 ≤ F389 11 ∧ F389 11 ≤ 9) ∧ (0 ≤ F389 9 ∧ F389 9 ≤ 4) ∧ TKv tx ((F378 8)) (F389 8) (F389 9) (F389 10) (F389 11) (F389 12) (F389 13) (F389 14) := pq392
                obtain ⟨pq392a, pq392b, pq392c, pq392d, pq392e⟩ := pq392
                have k394 := fr2.nil k394
                subst k394
                show am_Ok _ _ _ (116, _, [], _, 0, 0) _
                have e395 : F389 20 = F378 20 := k393 20 (by decide)
                have e396 : F378 20 = F 20 := k382 20 (by decide)
                have e397 : F389 21 = F378 21 := k393 21 (by decide)
                have e398 : F378 21 = F 21 := k382 21 (by decide)
                have e399 : F 21 = F0 21 := hF 21 (by decide)
                have e400 : F389 23 = F378 23 := k393 23 (by decide)
                have e401 : F389 6 = F378 6 := k393 6 (by decide)
                have e402 : F378 6 = F 6 := k382 6 (by decide)
                have e403 : F389 5 = F378 5 := k393 5 (by decide)
                have e404 : F378 5 = F 5 := k382 5 (by decide)
                have e405 : F389 18 = F378 18 := k393 18 (by decide)
                have e406 : F378 18 = F 18 := k382 18 (by decide)
                exact k_fin rfl rfl ⟨_, _, _, rfl, I391, (fr1.tr (by decide) (fr1.tr (by decide) hF k382) k393), (fr2.tr (by decide) hA k383), ⟨(show (F0 8 ≤ F389 8 ∧ F389 8 ≤ F0 7 ∧ F0 20 ≤ F389 20 ∧ F389 20 ≤ 30 ∧ F389 21 = F0 21 ∧ F0 23 ≤ F389 23 ∧ F389 23 ≤ 1000000 ∧ (F389 9 = 2 → 0 ≤ F389 11 ∧ F389 11 ≤ 9) ∧ 0 ≤ F389 9 ∧ F389 9 ≤ 4) by omega), (show (F389 6 = 0 → F389 20 = F0 20 ∧ F0 6 = 0 ∧ (F389 9 = 0 ∨ F0 8 < F389 8) ∧ F389 5 = F0 5) by omega), (fun z1 z2 => by have z9 : F389 23 ≤ 124 := z2; have h9 := pq381c (by omega); exact rd_put (m := A0 17 x241.toInt) (P := A0 16) (s := 124 * x241.toInt) (show F389 23 = F0 23 + A0 17 x241.toInt by have h8 := pq381b (by omega); rw [hA 17 (by decide)] at h8; omega) n91 (n93 (by have h8 := pq381b (by omega); rw [hA 17 (by decide)] at h8; omega)) (fun k k1 k2 => by rw [← hf23, ← hA 16 (by decide)]; exact h9.1 k k1 (by rw [hA 17 (by decide)]; exact k2)) (fun q hq => (h9.2 q (by omega)).trans (congrFun hA22 q)) (by omega)), (show PN tx gs (F389 5) (F389 6) (F389 8) (F389 9) (F389 10) (F389 11) (F389 12) (F389 13) (F389 14) (F389 18) (F389 20) (F389 21) (F389 23) ((A379 15)) ((A379 16)) ((A379 17)) ((A379 19)) ((A379 22)) from PN.ok (l := l9) (by omega) (rn_n p6 p3 i5 p8 hfx hgx (by omega) o1) (pq392e.cg (by omega) rfl rfl rfl rfl rfl rfl rfl) ((RS.new p7 (hcu.put o5 hpd o6 hpc)).cg (by omega) (by omega) (by omega) (by omega) ((k383 15 (by decide)).trans (hA 15 (by decide))) ((k383 16 (by decide)).trans (hA 16 (by decide))) ((k383 17 (by decide)).trans (hA 17 (by decide))) ((k383 19 (by decide)).trans (hA 19 (by decide))) (show A379 22 = A379 22 from rfl)))⟩⟩
              · refine k_c1 11 rfl rfl (if_neg b375) ?_
                have b375 := mt iv_eq0.mpr b375
                refine k_push 12 rfl rfl ?_
                refine k_fin rfl (fin_Z (Or.inl rfl)) ⟨_, _, rfl, rf_len I245 I245, ?_⟩
                show am_Ok _ _ _ (28, _, [.inl (0 : Int32)], _, 0, 0) _
                refine k_fin rfl (fin_Z (Or.inl rfl)) ⟨_, _, rfl, rf_len I245 I245, ?_⟩
                show am_Ok _ _ _ (104, _, [.inl (0 : Int32)], _, 0, 0) _
                refine k_c1 116 rfl rfl (if_pos (by decide)) ?_
                have e407 : F 21 = F0 21 := hF 21 (by decide)
                exact k_fin rfl rfl ⟨_, _, _, rfl, I245, hF, hA, ⟨(show (F0 8 ≤ F 8 ∧ F 8 ≤ F0 7 ∧ F0 20 ≤ F 20 ∧ F 20 ≤ 30 ∧ F 21 = F0 21 ∧ F0 23 ≤ F 23 ∧ F 23 ≤ 1000000 ∧ (F 9 = 2 → 0 ≤ F 11 ∧ F 11 ≤ 9) ∧ 0 ≤ F 9 ∧ F 9 ≤ 4) by omega), (show (F 6 = 0 → F 20 = F0 20 ∧ F0 6 = 0 ∧ (F 9 = 0 ∨ F0 8 < F 8) ∧ F 5 = F0 5) by omega), (fun z => absurd (show F 6 = 0 from z) (by omega)), (show PN tx gs (F 5) (F 6) (F 8) (F 9) (F 10) (F 11) (F 12) (F 13) (F 14) (F 18) (F 20) (F 21) (F 23) ((A 15)) ((A 16)) ((A 17)) ((A 19)) ((A 22)) from PN.bad (by omega) (rn_3 p6 p3 i5 p8 hfx (by rw [hgx]; omega) (by omega) (by omega)))⟩⟩
        · refine k_c2 68 rfl rfl (if_neg b237) ?_
          have b237 := mt iv_le.mpr b237
          refine k_aload 69 rfl g0 rfl ?_
          refine k_push 70 rfl rfl ?_
          have hc408 : (2 : Int32).toInt = 2 := by decide
          refine k_iload 71 rfl g1 rfl ?_
          obtain ⟨x409, q410⟩ : ∃ q : Int32, q = ((2 : Int32) + v1) := ⟨_, rfl⟩
          have e411 : x409.toInt = 2 + v1.toInt := by rw [q410, iv_add (by omega) (by omega)]; omega
          refine k_bin x409 72 rfl q410.symm rfl ?_
          refine k_rv hI rfl (m_emits  hI.1 (show 0 ≤ (F 23) ∧ (F 23) ≤ 1000000 by omega)) rfl rfl rfl hI.rc ?_
          rintro h413 F414 A415 I416 ⟨k418, k419, pq417⟩
          replace pq417 : ((F 23) ≤ F414 23 ∧ F414 23 ≤ 1000000) ∧ (F414 23 ≤ 124 → F414 23 = (F 23) + 1) ∧ imp (F414 23 ≤ 124) (A415 22 ((F 23)) = x409.toInt ∧ ∀ q : Int, q ≠ (F 23) → A415 22 q = (A 22) q) ∧ (((F 23) < 1000000 → F414 23 = (F 23) + 1) ∧ (¬ (F 23) < 1000000 → F414 23 = (F 23))) := pq417
          obtain ⟨pq417a, pq417b, pq417c, pq417d⟩ := pq417
          show am_Ok _ _ _ (75, _, [], _, 0, 0) _
          refine k_aload 76 rfl g0 rfl ?_
          have e420 : F414 8 = F 8 := k418 8 (by decide)
          have e421 : F414 7 = F 7 := k418 7 (by decide)
          have e422 : F 7 = F0 7 := hF 7 (by decide)
          refine k_rv I416 rfl (m_goes  I416.1 (show 0 ≤ (F414 8) ∧ (F414 8) ≤ (F414 7) ∧ (F414 7) ≤ 700 by omega) (show TP tx ((F414 7)) ((A415 3)) by rw [((k418 7 (by decide)).trans (hF 7 (by decide))), ((k419 3 (by decide)).trans (hA 3 (by decide)))]; exact pT)) rfl rfl rfl I416.rc ?_
          rintro h424 F425 A426 I427 ⟨k429, k430, pq428⟩
          replace pq428 : ((F414 8) ≤ F425 8 ∧ F425 8 ≤ (F414 7)) ∧ (F425 9 = 0 ∨ (F414 8) < F425 8) ∧ (F425 9 = 2 → 0 ≤ F425 11 ∧ F425 11 ≤ 9) ∧ (0 ≤ F425 9 ∧ F425 9 ≤ 4) ∧ TKv tx ((F414 8)) (F425 8) (F425 9) (F425 10) (F425 11) (F425 12) (F425 13) (F425 14) := pq428
          obtain ⟨pq428a, pq428b, pq428c, pq428d, pq428e⟩ := pq428
          have k430 := fr2.nil k430
          subst k430
          show am_Ok _ _ _ (79, _, [], _, 0, 0) _
          have e431 : F425 20 = F414 20 := k429 20 (by decide)
          have e432 : F414 20 = F 20 := k418 20 (by decide)
          have e433 : F425 21 = F414 21 := k429 21 (by decide)
          have e434 : F414 21 = F 21 := k418 21 (by decide)
          have e435 : F 21 = F0 21 := hF 21 (by decide)
          have e436 : F425 23 = F414 23 := k429 23 (by decide)
          have e437 : F425 6 = F414 6 := k429 6 (by decide)
          have e438 : F414 6 = F 6 := k418 6 (by decide)
          have e439 : F425 5 = F414 5 := k429 5 (by decide)
          have e440 : F414 5 = F 5 := k418 5 (by decide)
          have e441 : F425 18 = F414 18 := k429 18 (by decide)
          have e442 : F414 18 = F 18 := k418 18 (by decide)
          have e443 : F 18 = F0 18 := hF 18 (by decide)
          exact k_fin rfl rfl ⟨_, _, _, rfl, I427, (fr1.tr (by decide) (fr1.tr (by decide) hF k418) k429), (fr2.tr (by decide) hA k419), ⟨(show (F0 8 ≤ F425 8 ∧ F425 8 ≤ F0 7 ∧ F0 20 ≤ F425 20 ∧ F425 20 ≤ 30 ∧ F425 21 = F0 21 ∧ F0 23 ≤ F425 23 ∧ F425 23 ≤ 1000000 ∧ (F425 9 = 2 → 0 ≤ F425 11 ∧ F425 11 ≤ 9) ∧ 0 ≤ F425 9 ∧ F425 9 ≤ 4) by omega), (show (F425 6 = 0 → F425 20 = F0 20 ∧ F0 6 = 0 ∧ (F425 9 = 0 ∨ F0 8 < F425 8) ∧ F425 5 = F0 5) by omega), (fun z1 z2 => by have z9 : F425 23 ≤ 124 := z2; have h9 := pq417c (by omega); exact rd_var (c := x409.toInt) (show F425 23 = F0 23 + 1 by omega) (by rw [← hf23]; exact h9.1) (fun q hq => (h9.2 q (by omega)).trans (congrFun hA22 q)) (by omega)), (show PN tx gs (F425 5) (F425 6) (F425 8) (F425 9) (F425 10) (F425 11) (F425 12) (F425 13) (F425 14) (F425 18) (F425 20) (F425 21) (F425 23) ((A415 15)) ((A415 16)) ((A415 17)) ((A415 19)) ((A415 22)) from PN.ok (l := [2 + v1.toInt]) (by omega) (rn_v p6 p3 i5 p8 hb7 p9 (by omega) (by omega) (show A0 19 (F0 20 - 1 - v1.toInt) = F0 13 by omega) i4) (pq428e.cg (by omega) rfl rfl rfl rfl rfl rfl rfl) ((RS.new p7 (hcu.emit pq417d.1 pq417d.2 pq417c (by omega))).cg (by omega) (by omega) (by omega) (by omega) ((k419 15 (by decide)).trans (hA 15 (by decide))) ((k419 16 (by decide)).trans (hA 16 (by decide))) ((k419 17 (by decide)).trans (hA 17 (by decide))) ((k419 19 (by decide)).trans (hA 19 (by decide))) (show A415 22 = A415 22 from rfl)))⟩⟩
      · refine k_c1 54 rfl rfl (if_neg b234) ?_
        have b234 := mt iv_eq0.mpr b234
        obtain ⟨x444, q445⟩ : ∃ q : Int32, q = v1 + (1 : Int32) := ⟨_, rfl⟩
        have e446 : x444.toInt = v1.toInt + 1 := by rw [q445, iv_add (by omega) (by omega)]; omega
        refine k_iinc x444 57 rfl g1 q445.symm rfl ?_
        refine k_goto 25 rfl rfl ?_
        exact ih _ (show ((30 - x444.toInt).toNat) < n by omega)  rfl (gs_ne rfl rfl g0) gs_eq hI hF hA (show 0 ≤ x444.toInt ∧ x444.toInt ≤ F0 20 by omega) (i2) (show F0 6 = 0 by omega) (fun k k1 k2 => by by_cases z : k = v1.toInt; exact (by rw [z]; omega); exact i4 k k1 (by omega)) (show F0 14 ≤ 8 by omega)
theorem m_readsName {h0 : am_h} {F0 : rf_f} {A0 : rf_A} {tx : List Int} {gs : mS} (hR : rf_R h0 F0 A0) (p1 : 0 ≤ F0 8 ∧ F0 8 ≤ F0 7 ∧ F0 7 ≤ 700 ∧ 0 ≤ F0 20 ∧ F0 20 ≤ 30 ∧ 0 ≤ F0 21 ∧ F0 21 ≤ 12 ∧ 0 ≤ F0 18 ∧ F0 18 ≤ 12 ∧ 0 ≤ F0 23 ∧ F0 23 ≤ 1000000 ∧ (F0 9 = 2 → 0 ≤ F0 11 ∧ F0 11 ≤ 9) ∧ 0 ≤ F0 9 ∧ F0 9 ≤ 4) (p2 : nm (A0 16) (A0 17) (F0 18)) (p3 : F0 9 = 1) (pT : TP tx (F0 7) (A0 3)) (p5 : F0 6 = 0) (p6 : TKv tx (m_e gs) (F0 8) (F0 9) (F0 10) (F0 11) (F0 12) (F0 13) (F0 14)) (p7 : RS gs (m_B gs) (F0 18) (F0 20) (F0 21) (F0 23) (A0 15) (A0 16) (A0 17) (A0 19) (A0 22)) (p8 : sA tx gs) (p9 : F0 20 = ((m_ar gs).length : Int)) : am_Mt 4 177 [.inr (.inr (some 81))] h0 (rf_V h0 (fun F' A' => fr1 [8, 10, 9, 14, 11, 12, 13, 6, 5, 23] F0 F' ∧ fr2 [22] A0 A' ∧ ((F0 8 ≤ F' 8 ∧ F' 8 ≤ F0 7 ∧ F0 20 ≤ F' 20 ∧ F' 20 ≤ 30 ∧ F' 21 = F0 21 ∧ F0 23 ≤ F' 23 ∧ F' 23 ≤ 1000000 ∧ (F' 9 = 2 → 0 ≤ F' 11 ∧ F' 11 ≤ 9) ∧ 0 ≤ F' 9 ∧ F' 9 ≤ 4) ∧ (F' 6 = 0 → F' 20 = F0 20 ∧ F0 6 = 0 ∧ (F' 9 = 0 ∨ F0 8 < F' 8) ∧ F' 5 = F0 5) ∧ imp (F' 6 = 0) (F' 23 ≤ 124 → rd1 (A' 22) (A0 22) (F0 23) (F' 23) (F0 20)) ∧ PN tx gs (F' 5) (F' 6) (F' 8) (F' 9) (F' 10) (F' 11) (F' 12) (F' 13) (F' 14) (F' 18) (F' 20) (F' 21) (F' 23) (A' 15) (A' 16) (A' 17) (A' 19) (A' 22)))) := by
  refine am_Mt.of (D := 3) ?_
  have hI : rf_I h0 h0 F0 A0 := rf_I.start hR
  have hb7 := p7.2.2.1
  have hn7 := p7.2.1
  have hb6 := p6.b
  refine k_aload 1 rfl rfl rfl ?_
  refine k_aload 2 rfl rfl rfl ?_
  refine r_gI hI 5 rfl rfl rfl (fun x447 (e448 : x447.toInt = F0 14) => ?_)
  refine k_push 7 rfl rfl ?_
  have hc449 : (8 : Int32).toInt = 8 := by decide
  by_cases b450 : (8 : Int32) < x447
  · refine k_c2 14 rfl rfl (if_pos b450) ?_
    have b450 := iv_lt.mp b450
    refine k_push 15 rfl rfl ?_
    have hc451 : (0 : Int32).toInt = 0 := by decide
    refine k_push 16 rfl rfl ?_
    have hc452 : (2 : Int32).toInt = 2 := by decide
    refine k_in (d := 1) rfl rfl rfl rfl hI.rc ?_
    refine k_aload 1 rfl rfl rfl ?_
    refine k_in (d := 0) rfl rfl rfl rfl hI.rc ?_
    refine k_aload 1 rfl rfl rfl ?_
    refine r_gI hI 4 rfl rfl rfl (fun x453 (e454 : x453.toInt = F0 6) => ?_)
    by_cases b455 : x453 = 0
    · refine k_c1 7 rfl rfl (if_pos b455) ?_
      have b455 := iv_eq0.mp b455
      refine k_push 8 rfl rfl ?_
      have hc456 : (1 : Int32).toInt = 1 := by decide
      refine k_goto 12 rfl rfl ?_
      refine k_fin rfl (fin_Z (Or.inr rfl)) ⟨_, _, rfl, rf_len hI hI, ?_⟩
      show am_Ok _ _ _ (4, _, [.inl (1 : Int32)], _, 0, 0) _
      refine k_c1 7 rfl rfl (if_neg (by decide)) ?_
      refine k_iload 8 rfl rfl rfl ?_
      refine k_c1 11 rfl rfl (if_pos (by decide)) ?_
      refine k_aload 12 rfl rfl rfl ?_
      refine k_iload 13 rfl rfl rfl ?_
      refine r_pI hI 16 rfl rfl rfl (fun h457 I458 => ?_)
      refine k_aload 17 rfl rfl rfl ?_
      refine k_aload 18 rfl rfl rfl ?_
      refine r_gI I458 21 rfl rfl rfl (fun x459 (e460 : x459.toInt = F0 10) => ?_)
      refine r_pI I458 24 rfl rfl rfl (fun h461 I462 => ?_)
      refine k_aload 25 rfl rfl rfl ?_
      refine k_in (d := 0) rfl rfl rfl rfl I462.rc ?_
      refine k_aload 1 rfl rfl rfl ?_
      refine r_gI I462 4 rfl rfl rfl (fun x463 (e464 : x463.toInt = (2 : Int32).toInt) => ?_)
      by_cases b465 : x463 = 0
      · refine k_c1 7 rfl rfl (if_pos b465) ?_
        have b465 := iv_eq0.mp b465
        refine k_push 8 rfl rfl ?_
        refine k_goto 12 rfl rfl ?_
        refine k_fin rfl (fin_Z (Or.inr rfl)) ⟨_, _, rfl, rf_len I462 I462, ?_⟩
        show am_Ok _ _ _ (28, _, [.inl (1 : Int32)], _, 0, 0) _
        refine k_fin rfl (fin_Z (Or.inr rfl)) ⟨_, _, rfl, rf_len hI I462, ?_⟩
        show am_Ok _ _ _ (19, _, [.inl (1 : Int32)], _, 0, 0) _
        refine k_c1 23 rfl rfl (if_neg (by decide)) ?_
        refine k_push 24 rfl rfl ?_
        refine k_istore 25 rfl rfl ?_
        exact b_X10_readsName_25 (tx := tx) (gs := gs)  p1 p2 p3 pT p5 p6 p7 p8 p9 _  rfl (gs_ne rfl rfl rfl) gs_eq I462 (fr1.up (by decide) (fr1.up (by decide) fr1.rf)) fr2.rf (show 0 ≤ (0 : Int32).toInt ∧ (0 : Int32).toInt ≤ F0 20 by omega) ((by exfalso; omega)) (show F0 6 = 0 by omega) (fun k k1 k2 => absurd k2 (by omega)) (show F0 14 ≤ 8 by omega)
      · refine k_c1 11 rfl rfl (if_neg b465) ?_
        have b465 := mt iv_eq0.mpr b465
        refine k_push 12 rfl rfl ?_
        refine k_fin rfl (fin_Z (Or.inl rfl)) ⟨_, _, rfl, rf_len I462 I462, ?_⟩
        show am_Ok _ _ _ (28, _, [.inl (0 : Int32)], _, 0, 0) _
        refine k_fin rfl (fin_Z (Or.inl rfl)) ⟨_, _, rfl, rf_len hI I462, ?_⟩
        show am_Ok _ _ _ (19, _, [.inl (0 : Int32)], _, 0, 0) _
        refine k_c1 22 rfl rfl (if_pos (by decide)) ?_
        exact k_fin rfl rfl ⟨_, _, _, rfl, I462, (fr1.up (by decide) (fr1.up (by decide) fr1.rf)), fr2.rf, ⟨(show (F0 8 ≤ F0 8 ∧ F0 8 ≤ F0 7 ∧ F0 20 ≤ F0 20 ∧ F0 20 ≤ 30 ∧ F0 21 = F0 21 ∧ F0 23 ≤ F0 23 ∧ F0 23 ≤ 1000000 ∧ (F0 9 = 2 → 0 ≤ F0 11 ∧ F0 11 ≤ 9) ∧ 0 ≤ F0 9 ∧ F0 9 ≤ 4) by omega), (show ((2 : Int32).toInt = 0 → F0 20 = F0 20 ∧ F0 6 = 0 ∧ (F0 9 = 0 ∨ F0 8 < F0 8) ∧ x459.toInt = F0 5) by omega), (fun z => absurd (show (2 : Int32).toInt = 0 from z) (by omega)), (show PN tx gs (x459.toInt) ((2 : Int32).toInt) (F0 8) (F0 9) (F0 10) (F0 11) (F0 12) (F0 13) (F0 14) (F0 18) (F0 20) (F0 21) (F0 23) ((A0 15)) ((A0 16)) ((A0 17)) ((A0 19)) ((A0 22)) from PN.bad (by omega) (rn_2 p6 p3 (by omega) (by omega) (by omega)))⟩⟩
    · refine k_c1 11 rfl rfl (if_neg b455) ?_
      have b455 := mt iv_eq0.mpr b455
      refine k_push 12 rfl rfl ?_
      refine k_fin rfl (fin_Z (Or.inl rfl)) ⟨_, _, rfl, rf_len hI hI, ?_⟩
      show am_Ok _ _ _ (4, _, [.inl (0 : Int32)], _, 0, 0) _
      refine k_c1 24 rfl rfl (if_pos (by decide)) ?_
      refine k_aload 25 rfl rfl rfl ?_
      refine k_in (d := 0) rfl rfl rfl rfl hI.rc ?_
      refine k_aload 1 rfl rfl rfl ?_
      refine r_gI hI 4 rfl rfl rfl (fun x466 (e467 : x466.toInt = F0 6) => ?_)
      by_cases b468 : x466 = 0
      · refine k_c1 7 rfl rfl (if_pos b468) ?_
        have b468 := iv_eq0.mp b468
        refine k_push 8 rfl rfl ?_
        have hc469 : (1 : Int32).toInt = 1 := by decide
        refine k_goto 12 rfl rfl ?_
        refine k_fin rfl (fin_Z (Or.inr rfl)) ⟨_, _, rfl, rf_len hI hI, ?_⟩
        show am_Ok _ _ _ (28, _, [.inl (1 : Int32)], _, 0, 0) _
        refine k_fin rfl (fin_Z (Or.inr rfl)) ⟨_, _, rfl, rf_len hI hI, ?_⟩
        show am_Ok _ _ _ (19, _, [.inl (1 : Int32)], _, 0, 0) _
        refine k_c1 23 rfl rfl (if_neg (by decide)) ?_
        refine k_push 24 rfl rfl ?_
        refine k_istore 25 rfl rfl ?_
        exact b_X10_readsName_25 (tx := tx) (gs := gs)  p1 p2 p3 pT p5 p6 p7 p8 p9 _  rfl (gs_ne rfl rfl rfl) gs_eq hI fr1.rf fr2.rf (show 0 ≤ (0 : Int32).toInt ∧ (0 : Int32).toInt ≤ F0 20 by omega) (⟨rfl, rfl⟩) (show F0 6 = 0 by omega) (fun k k1 k2 => absurd k2 (by omega)) (show F0 14 ≤ 8 by omega)
      · refine k_c1 11 rfl rfl (if_neg b468) ?_
        have b468 := mt iv_eq0.mpr b468
        refine k_push 12 rfl rfl ?_
        refine k_fin rfl (fin_Z (Or.inl rfl)) ⟨_, _, rfl, rf_len hI hI, ?_⟩
        show am_Ok _ _ _ (28, _, [.inl (0 : Int32)], _, 0, 0) _
        refine k_fin rfl (fin_Z (Or.inl rfl)) ⟨_, _, rfl, rf_len hI hI, ?_⟩
        show am_Ok _ _ _ (19, _, [.inl (0 : Int32)], _, 0, 0) _
        refine k_c1 22 rfl rfl (if_pos (by decide)) ?_
        exact k_fin rfl rfl ⟨_, _, _, rfl, hI, fr1.rf, fr2.rf, ⟨(show (F0 8 ≤ F0 8 ∧ F0 8 ≤ F0 7 ∧ F0 20 ≤ F0 20 ∧ F0 20 ≤ 30 ∧ F0 21 = F0 21 ∧ F0 23 ≤ F0 23 ∧ F0 23 ≤ 1000000 ∧ (F0 9 = 2 → 0 ≤ F0 11 ∧ F0 11 ≤ 9) ∧ 0 ≤ F0 9 ∧ F0 9 ≤ 4) by omega), (show (F0 6 = 0 → F0 20 = F0 20 ∧ F0 6 = 0 ∧ (F0 9 = 0 ∨ F0 8 < F0 8) ∧ F0 5 = F0 5) by omega), (fun z => absurd (show F0 6 = 0 from z) (by omega)), (show PN tx gs (F0 5) (F0 6) (F0 8) (F0 9) (F0 10) (F0 11) (F0 12) (F0 13) (F0 14) (F0 18) (F0 20) (F0 21) (F0 23) ((A0 15)) ((A0 16)) ((A0 17)) ((A0 19)) ((A0 22)) from PN.bad (by omega) (rn_2 p6 p3 (by omega) (by omega) (by omega)))⟩⟩
  · refine k_c2 10 rfl rfl (if_neg b450) ?_
    have b450 := mt iv_lt.mpr b450
    refine k_push 11 rfl rfl ?_
    have hc470 : (1 : Int32).toInt = 1 := by decide
    refine k_goto 15 rfl rfl ?_
    refine k_push 16 rfl rfl ?_
    have hc471 : (2 : Int32).toInt = 2 := by decide
    refine k_in (d := 1) rfl rfl rfl rfl hI.rc ?_
    refine k_aload 1 rfl rfl rfl ?_
    refine k_in (d := 0) rfl rfl rfl rfl hI.rc ?_
    refine k_aload 1 rfl rfl rfl ?_
    refine r_gI hI 4 rfl rfl rfl (fun x472 (e473 : x472.toInt = F0 6) => ?_)
    by_cases b474 : x472 = 0
    · refine k_c1 7 rfl rfl (if_pos b474) ?_
      have b474 := iv_eq0.mp b474
      refine k_push 8 rfl rfl ?_
      refine k_goto 12 rfl rfl ?_
      refine k_fin rfl (fin_Z (Or.inr rfl)) ⟨_, _, rfl, rf_len hI hI, ?_⟩
      show am_Ok _ _ _ (4, _, [.inl (1 : Int32)], _, 0, 0) _
      refine k_c1 7 rfl rfl (if_neg (by decide)) ?_
      refine k_iload 8 rfl rfl rfl ?_
      refine k_c1 24 rfl rfl (if_neg (by decide)) ?_
      refine k_aload 25 rfl rfl rfl ?_
      refine k_in (d := 0) rfl rfl rfl rfl hI.rc ?_
      refine k_aload 1 rfl rfl rfl ?_
      refine r_gI hI 4 rfl rfl rfl (fun x475 (e476 : x475.toInt = F0 6) => ?_)
      by_cases b477 : x475 = 0
      · refine k_c1 7 rfl rfl (if_pos b477) ?_
        have b477 := iv_eq0.mp b477
        refine k_push 8 rfl rfl ?_
        refine k_goto 12 rfl rfl ?_
        refine k_fin rfl (fin_Z (Or.inr rfl)) ⟨_, _, rfl, rf_len hI hI, ?_⟩
        show am_Ok _ _ _ (28, _, [.inl (1 : Int32)], _, 0, 0) _
        refine k_fin rfl (fin_Z (Or.inr rfl)) ⟨_, _, rfl, rf_len hI hI, ?_⟩
        show am_Ok _ _ _ (19, _, [.inl (1 : Int32)], _, 0, 0) _
        refine k_c1 23 rfl rfl (if_neg (by decide)) ?_
        refine k_push 24 rfl rfl ?_
        have hc478 : (0 : Int32).toInt = 0 := by decide
        refine k_istore 25 rfl rfl ?_
        exact b_X10_readsName_25 (tx := tx) (gs := gs)  p1 p2 p3 pT p5 p6 p7 p8 p9 _  rfl (gs_ne rfl rfl rfl) gs_eq hI fr1.rf fr2.rf (show 0 ≤ (0 : Int32).toInt ∧ (0 : Int32).toInt ≤ F0 20 by omega) (⟨rfl, rfl⟩) (show F0 6 = 0 by omega) (fun k k1 k2 => absurd k2 (by omega)) (show F0 14 ≤ 8 by omega)
      · refine k_c1 11 rfl rfl (if_neg b477) ?_
        have b477 := mt iv_eq0.mpr b477
        refine k_push 12 rfl rfl ?_
        have hc479 : (0 : Int32).toInt = 0 := by decide
        refine k_fin rfl (fin_Z (Or.inl rfl)) ⟨_, _, rfl, rf_len hI hI, ?_⟩
        show am_Ok _ _ _ (28, _, [.inl (0 : Int32)], _, 0, 0) _
        refine k_fin rfl (fin_Z (Or.inl rfl)) ⟨_, _, rfl, rf_len hI hI, ?_⟩
        show am_Ok _ _ _ (19, _, [.inl (0 : Int32)], _, 0, 0) _
        refine k_c1 22 rfl rfl (if_pos (by decide)) ?_
        exact k_fin rfl rfl ⟨_, _, _, rfl, hI, fr1.rf, fr2.rf, ⟨(show (F0 8 ≤ F0 8 ∧ F0 8 ≤ F0 7 ∧ F0 20 ≤ F0 20 ∧ F0 20 ≤ 30 ∧ F0 21 = F0 21 ∧ F0 23 ≤ F0 23 ∧ F0 23 ≤ 1000000 ∧ (F0 9 = 2 → 0 ≤ F0 11 ∧ F0 11 ≤ 9) ∧ 0 ≤ F0 9 ∧ F0 9 ≤ 4) by omega), (show (F0 6 = 0 → F0 20 = F0 20 ∧ F0 6 = 0 ∧ (F0 9 = 0 ∨ F0 8 < F0 8) ∧ F0 5 = F0 5) by omega), (fun z => absurd (show F0 6 = 0 from z) (by omega)), (show PN tx gs (F0 5) (F0 6) (F0 8) (F0 9) (F0 10) (F0 11) (F0 12) (F0 13) (F0 14) (F0 18) (F0 20) (F0 21) (F0 23) ((A0 15)) ((A0 16)) ((A0 17)) ((A0 19)) ((A0 22)) from PN.bad (by omega) (rn_2 p6 p3 (by omega) (by omega) (by omega)))⟩⟩
    · refine k_c1 11 rfl rfl (if_neg b474) ?_
      have b474 := mt iv_eq0.mpr b474
      refine k_push 12 rfl rfl ?_
      have hc480 : (0 : Int32).toInt = 0 := by decide
      refine k_fin rfl (fin_Z (Or.inl rfl)) ⟨_, _, rfl, rf_len hI hI, ?_⟩
      show am_Ok _ _ _ (4, _, [.inl (0 : Int32)], _, 0, 0) _
      refine k_c1 24 rfl rfl (if_pos (by decide)) ?_
      refine k_aload 25 rfl rfl rfl ?_
      refine k_in (d := 0) rfl rfl rfl rfl hI.rc ?_
      refine k_aload 1 rfl rfl rfl ?_
      refine r_gI hI 4 rfl rfl rfl (fun x481 (e482 : x481.toInt = F0 6) => ?_)
      by_cases b483 : x481 = 0
      · refine k_c1 7 rfl rfl (if_pos b483) ?_
        have b483 := iv_eq0.mp b483
        refine k_push 8 rfl rfl ?_
        refine k_goto 12 rfl rfl ?_
        refine k_fin rfl (fin_Z (Or.inr rfl)) ⟨_, _, rfl, rf_len hI hI, ?_⟩
        show am_Ok _ _ _ (28, _, [.inl (1 : Int32)], _, 0, 0) _
        refine k_fin rfl (fin_Z (Or.inr rfl)) ⟨_, _, rfl, rf_len hI hI, ?_⟩
        show am_Ok _ _ _ (19, _, [.inl (1 : Int32)], _, 0, 0) _
        refine k_c1 23 rfl rfl (if_neg (by decide)) ?_
        refine k_push 24 rfl rfl ?_
        refine k_istore 25 rfl rfl ?_
        exact b_X10_readsName_25 (tx := tx) (gs := gs)  p1 p2 p3 pT p5 p6 p7 p8 p9 _  rfl (gs_ne rfl rfl rfl) gs_eq hI fr1.rf fr2.rf (show 0 ≤ (0 : Int32).toInt ∧ (0 : Int32).toInt ≤ F0 20 by omega) (⟨rfl, rfl⟩) (show F0 6 = 0 by omega) (fun k k1 k2 => absurd k2 (by omega)) (show F0 14 ≤ 8 by omega)
      · refine k_c1 11 rfl rfl (if_neg b483) ?_
        have b483 := mt iv_eq0.mpr b483
        refine k_push 12 rfl rfl ?_
        refine k_fin rfl (fin_Z (Or.inl rfl)) ⟨_, _, rfl, rf_len hI hI, ?_⟩
        show am_Ok _ _ _ (28, _, [.inl (0 : Int32)], _, 0, 0) _
        refine k_fin rfl (fin_Z (Or.inl rfl)) ⟨_, _, rfl, rf_len hI hI, ?_⟩
        show am_Ok _ _ _ (19, _, [.inl (0 : Int32)], _, 0, 0) _
        refine k_c1 22 rfl rfl (if_pos (by decide)) ?_
        exact k_fin rfl rfl ⟨_, _, _, rfl, hI, fr1.rf, fr2.rf, ⟨(show (F0 8 ≤ F0 8 ∧ F0 8 ≤ F0 7 ∧ F0 20 ≤ F0 20 ∧ F0 20 ≤ 30 ∧ F0 21 = F0 21 ∧ F0 23 ≤ F0 23 ∧ F0 23 ≤ 1000000 ∧ (F0 9 = 2 → 0 ≤ F0 11 ∧ F0 11 ≤ 9) ∧ 0 ≤ F0 9 ∧ F0 9 ≤ 4) by omega), (show (F0 6 = 0 → F0 20 = F0 20 ∧ F0 6 = 0 ∧ (F0 9 = 0 ∨ F0 8 < F0 8) ∧ F0 5 = F0 5) by omega), (fun z => absurd (show F0 6 = 0 from z) (by omega)), (show PN tx gs (F0 5) (F0 6) (F0 8) (F0 9) (F0 10) (F0 11) (F0 12) (F0 13) (F0 14) (F0 18) (F0 20) (F0 21) (F0 23) ((A0 15)) ((A0 16)) ((A0 17)) ((A0 19)) ((A0 22)) from PN.bad (by omega) (rn_2 p6 p3 (by omega) (by omega) (by omega)))⟩⟩
end
