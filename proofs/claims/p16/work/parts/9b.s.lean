section
theorem b_X10_readsNumber_39 {h0 : am_h} {F0 : rf_f} {A0 : rf_A} {tx : List Int} {gs : mS} (p1 : 0 ≤ F0 8 ∧ F0 8 ≤ F0 7 ∧ F0 7 ≤ 700 ∧ 0 ≤ F0 20 ∧ F0 20 ≤ 30 ∧ 0 ≤ F0 21 ∧ F0 21 ≤ 12 ∧ 0 ≤ F0 18 ∧ F0 18 ≤ 12 ∧ 0 ≤ F0 23 ∧ F0 23 ≤ 1000000 ∧ (F0 9 = 2 → 0 ≤ F0 11 ∧ F0 11 ≤ 9) ∧ 0 ≤ F0 9 ∧ F0 9 ≤ 4) (p2 : nm (A0 16) (A0 17) (F0 18)) (p3 : F0 9 = 2) (pT : TP tx (F0 7) (A0 3)) (p5 : F0 6 = 0) (p6 : TKv tx (m_e gs) (F0 8) (F0 9) (F0 10) (F0 11) (F0 12) (F0 13) (F0 14)) (p7 : RS gs (m_B gs) (F0 18) (F0 20) (F0 21) (F0 23) (A0 15) (A0 16) (A0 17) (A0 19) (A0 22)) (p8 : sA tx gs) (p9 : F0 20 = ((m_ar gs).length : Int)) : ∀ (n : Nat) {lv : am_l} {h : am_h} {F : rf_f} {A : rf_A} {v1 : Int32} {v2 : Int32}, ((9 - v2.toInt).toNat) = n → am_get lv 0 = some (.inr (.inr (some 81))) → am_get lv 1 = some (.inl v1) → am_get lv 2 = some (.inl v2) → rf_I h0 h F A → fr1 [8, 10, 9, 14, 11, 12, 13, 6, 5, 23] F0 F → fr2 [22] A0 A → (0 ≤ v2.toInt ∧ v2.toInt ≤ v1.toInt ∧ v1.toInt ≤ 9) → (F0 23 ≤ F 23 ∧ F 23 ≤ 1000000) → (F 23 ≤ 124 → nu (A 22) (A0 22) (F0 23) (F 23) v2.toInt) → (F 6 = 0 ∧ F0 6 = 0 ∧ F 8 = F0 8 ∧ F 9 = F0 9 ∧ F 11 = F0 11 ∧ F 5 = F0 5) → (CU (m_B gs ++ nul v2.toInt.toNat) (F 23) (A 22)) → (v1.toInt = F0 11 ∧ F0 12 = 1) → am_Ok am_G 3 178 (39, lv, [], h, 0, 0) (rf_V h0 (fun F' A' => fr1 [8, 10, 9, 14, 11, 12, 13, 6, 5, 23] F0 F' ∧ fr2 [22] A0 A' ∧ ((F0 8 ≤ F' 8 ∧ F' 8 ≤ F0 7 ∧ F0 20 ≤ F' 20 ∧ F' 20 ≤ 30 ∧ F' 21 = F0 21 ∧ F0 23 ≤ F' 23 ∧ F' 23 ≤ 1000000 ∧ (F' 9 = 2 → 0 ≤ F' 11 ∧ F' 11 ≤ 9) ∧ 0 ≤ F' 9 ∧ F' 9 ≤ 4) ∧ (F' 6 = 0 → F' 20 = F0 20 ∧ F0 6 = 0 ∧ (F' 9 = 0 ∨ F0 8 < F' 8) ∧ F' 5 = F0 5) ∧ imp (F' 6 = 0) (F' 23 ≤ 124 → rd1 (A' 22) (A0 22) (F0 23) (F' 23) (F0 20)) ∧ PN tx gs (F' 5) (F' 6) (F' 8) (F' 9) (F' 10) (F' 11) (F' 12) (F' 13) (F' 14) (F' 18) (F' 20) (F' 21) (F' 23) (A' 15) (A' 16) (A' 17) (A' 19) (A' 22)))) := by
  intro n
  induction n using Nat.strongRecOn with
  | ind n ih =>
    intro lv h F A v1 v2 hn g0 g1 g2 hI hF hA i1 i2 i3 i4 i5 i6
    have hb7 := p7.2.2.1
    have hn7 := p7.2.1
    have hb6 := p6.b
    refine k_iload 40 rfl g2 rfl ?_
    refine k_iload 41 rfl g1 rfl ?_
    by_cases b1 : v1 ≤ v2
    · refine k_c2 60 rfl rfl (if_pos b1) ?_
      have b1 := iv_le.mp b1
      have i5b : CU (m_B gs ++ nul v1.toInt.toNat) (F 23) (A 22) := by rw [show v1.toInt = v2.toInt by omega]; exact i5
      refine k_aload 61 rfl g0 rfl ?_
      refine k_push 62 rfl rfl ?_
      have hc2 : (2 : Int32).toInt = 2 := by decide
      refine k_rv hI rfl (m_emits  hI.1 (show 0 ≤ (F 23) ∧ (F 23) ≤ 1000000 by omega)) rfl rfl rfl hI.rc ?_
      rintro h4 F5 A6 I7 ⟨k9, k10, pq8⟩
      replace pq8 : ((F 23) ≤ F5 23 ∧ F5 23 ≤ 1000000) ∧ (F5 23 ≤ 124 → F5 23 = (F 23) + 1) ∧ imp (F5 23 ≤ 124) (A6 22 ((F 23)) = (2 : Int32).toInt ∧ ∀ q : Int, q ≠ (F 23) → A6 22 q = (A 22) q) ∧ (((F 23) < 1000000 → F5 23 = (F 23) + 1) ∧ (¬ (F 23) < 1000000 → F5 23 = (F 23))) := pq8
      obtain ⟨pq8a, pq8b, pq8c, pq8d⟩ := pq8
      show am_Ok _ _ _ (65, _, [], _, 0, 0) _
      refine k_aload 66 rfl g0 rfl ?_
      have e11 : F5 8 = F 8 := k9 8 (by decide)
      have e12 : F5 7 = F 7 := k9 7 (by decide)
      have e13 : F 7 = F0 7 := hF 7 (by decide)
      refine k_rv I7 rfl (m_goes  I7.1 (show 0 ≤ (F5 8) ∧ (F5 8) ≤ (F5 7) ∧ (F5 7) ≤ 700 by omega) (show TP tx ((F5 7)) ((A6 3)) by rw [((k9 7 (by decide)).trans (hF 7 (by decide))), ((k10 3 (by decide)).trans (hA 3 (by decide)))]; exact pT)) rfl rfl rfl I7.rc ?_
      rintro h15 F16 A17 I18 ⟨k20, k21, pq19⟩
      replace pq19 : ((F5 8) ≤ F16 8 ∧ F16 8 ≤ (F5 7)) ∧ (F16 9 = 0 ∨ (F5 8) < F16 8) ∧ (F16 9 = 2 → 0 ≤ F16 11 ∧ F16 11 ≤ 9) ∧ (0 ≤ F16 9 ∧ F16 9 ≤ 4) ∧ TKv tx ((F5 8)) (F16 8) (F16 9) (F16 10) (F16 11) (F16 12) (F16 13) (F16 14) := pq19
      obtain ⟨pq19a, pq19b, pq19c, pq19d, pq19e⟩ := pq19
      have k21 := fr2.nil k21
      subst k21
      show am_Ok _ _ _ (69, _, [], _, 0, 0) _
      have e22 : F16 20 = F5 20 := k20 20 (by decide)
      have e23 : F5 20 = F 20 := k9 20 (by decide)
      have e24 : F 20 = F0 20 := hF 20 (by decide)
      have e25 : F16 21 = F5 21 := k20 21 (by decide)
      have e26 : F5 21 = F 21 := k9 21 (by decide)
      have e27 : F 21 = F0 21 := hF 21 (by decide)
      have e28 : F16 23 = F5 23 := k20 23 (by decide)
      have e29 : F16 6 = F5 6 := k20 6 (by decide)
      have e30 : F5 6 = F 6 := k9 6 (by decide)
      have e31 : F16 5 = F5 5 := k20 5 (by decide)
      have e32 : F5 5 = F 5 := k9 5 (by decide)
      have e33 : F16 18 = F5 18 := k20 18 (by decide)
      have e34 : F5 18 = F 18 := k9 18 (by decide)
      have e35 : F 18 = F0 18 := hF 18 (by decide)
      exact k_fin rfl rfl ⟨_, _, _, rfl, I18, (fr1.tr (by decide) (fr1.tr (by decide) hF k9) k20), (fr2.tr (by decide) hA k10), ⟨(show (F0 8 ≤ F16 8 ∧ F16 8 ≤ F0 7 ∧ F0 20 ≤ F16 20 ∧ F16 20 ≤ 30 ∧ F16 21 = F0 21 ∧ F0 23 ≤ F16 23 ∧ F16 23 ≤ 1000000 ∧ (F16 9 = 2 → 0 ≤ F16 11 ∧ F16 11 ≤ 9) ∧ 0 ≤ F16 9 ∧ F16 9 ≤ 4) by omega), (show (F16 6 = 0 → F16 20 = F0 20 ∧ F0 6 = 0 ∧ (F16 9 = 0 ∨ F0 8 < F16 8) ∧ F16 5 = F0 5) by omega), (fun z1 z2 => by have z9 : F16 23 ≤ 124 := z2; have c2 := pq8c (by omega); exact nu_end (i3 (by omega)) (by omega) (show F16 23 = F 23 + 1 by have h8 := pq8b (by omega); omega) (c2.1.trans (by decide)) c2.2 (by omega)), (show PN tx gs (F16 5) (F16 6) (F16 8) (F16 9) (F16 10) (F16 11) (F16 12) (F16 13) (F16 14) (F16 18) (F16 20) (F16 21) (F16 23) ((A6 15)) ((A6 16)) ((A6 17)) ((A6 19)) ((A6 22)) from PN.ok (l := nul v1.toInt.toNat ++ [2]) (by omega) (ru_n p6 p3 (by omega) p8 (by omega)) (pq19e.cg (by omega) rfl rfl rfl rfl rfl rfl rfl) ((RS.new p7 (i5b.emit pq8d.1 pq8d.2 pq8c (by decide)).a2).cg (by omega) (by omega) (by omega) (by omega) ((k10 15 (by decide)).trans (hA 15 (by decide))) ((k10 16 (by decide)).trans (hA 16 (by decide))) ((k10 17 (by decide)).trans (hA 17 (by decide))) ((k10 19 (by decide)).trans (hA 19 (by decide))) (show A6 22 = A6 22 from rfl)))⟩⟩
    · refine k_c2 44 rfl rfl (if_neg b1) ?_
      have b1 := mt iv_le.mpr b1
      refine k_aload 45 rfl g0 rfl ?_
      refine k_push 46 rfl rfl ?_
      have hc36 : (0 : Int32).toInt = 0 := by decide
      refine k_rv hI rfl (m_emits  hI.1 (show 0 ≤ (F 23) ∧ (F 23) ≤ 1000000 by omega)) rfl rfl rfl hI.rc ?_
      rintro h38 F39 A40 I41 ⟨k43, k44, pq42⟩
      replace pq42 : ((F 23) ≤ F39 23 ∧ F39 23 ≤ 1000000) ∧ (F39 23 ≤ 124 → F39 23 = (F 23) + 1) ∧ imp (F39 23 ≤ 124) (A40 22 ((F 23)) = (0 : Int32).toInt ∧ ∀ q : Int, q ≠ (F 23) → A40 22 q = (A 22) q) ∧ (((F 23) < 1000000 → F39 23 = (F 23) + 1) ∧ (¬ (F 23) < 1000000 → F39 23 = (F 23))) := pq42
      obtain ⟨pq42a, pq42b, pq42c, pq42d⟩ := pq42
      show am_Ok _ _ _ (49, _, [], _, 0, 0) _
      have e1a := pq42a
      have e1b := pq42b
      have e1c := pq42c
      have e1d := pq42d
      refine k_aload 50 rfl g0 rfl ?_
      refine k_push 51 rfl rfl ?_
      have hc45 : (3 : Int32).toInt = 3 := by decide
      refine k_rv I41 rfl (m_emits  I41.1 (show 0 ≤ (F39 23) ∧ (F39 23) ≤ 1000000 by omega)) rfl rfl rfl I41.rc ?_
      rintro h47 F48 A49 I50 ⟨k52, k53, pq51⟩
      replace pq51 : ((F39 23) ≤ F48 23 ∧ F48 23 ≤ 1000000) ∧ (F48 23 ≤ 124 → F48 23 = (F39 23) + 1) ∧ imp (F48 23 ≤ 124) (A49 22 ((F39 23)) = (3 : Int32).toInt ∧ ∀ q : Int, q ≠ (F39 23) → A49 22 q = (A40 22) q) ∧ (((F39 23) < 1000000 → F48 23 = (F39 23) + 1) ∧ (¬ (F39 23) < 1000000 → F48 23 = (F39 23))) := pq51
      obtain ⟨pq51a, pq51b, pq51c, pq51d⟩ := pq51
      show am_Ok _ _ _ (54, _, [], _, 0, 0) _
      have hc54 : (1 : Int32).toInt = 1 := by decide
      obtain ⟨x55, q56⟩ : ∃ q : Int32, q = v2 + (1 : Int32) := ⟨_, rfl⟩
      have e57 : x55.toInt = v2.toInt + 1 := by rw [q56, iv_add (by omega) (by omega)]; omega
      refine k_iinc x55 57 rfl g2 q56.symm rfl ?_
      refine k_goto 39 rfl rfl ?_
      have e58 : F48 6 = F39 6 := k52 6 (by decide)
      have e59 : F39 6 = F 6 := k43 6 (by decide)
      have e60 : F48 8 = F39 8 := k52 8 (by decide)
      have e61 : F39 8 = F 8 := k43 8 (by decide)
      have e62 : F48 9 = F39 9 := k52 9 (by decide)
      have e63 : F39 9 = F 9 := k43 9 (by decide)
      have e64 : F48 11 = F39 11 := k52 11 (by decide)
      have e65 : F39 11 = F 11 := k43 11 (by decide)
      have e66 : F48 5 = F39 5 := k52 5 (by decide)
      have e67 : F39 5 = F 5 := k43 5 (by decide)
      exact ih _ (show ((9 - x55.toInt).toNat) < n by omega)  rfl (gs_ne rfl rfl g0) (gs_ne rfl rfl g1) gs_eq I50 (fr1.tr (by decide) (fr1.tr (by decide) hF k43) k52) (fr2.tr (by decide) (fr2.tr (by decide) hA k44) k53) (show 0 ≤ x55.toInt ∧ x55.toInt ≤ v1.toInt ∧ v1.toInt ≤ 9 by omega) (show F0 23 ≤ (F48 23) ∧ (F48 23) ≤ 1000000 by omega) (fun z => by have z9 : F48 23 ≤ 124 := z; have c1 := e1c (by omega); have c2 := pq51c z9; exact nu_s (i3 (by omega)) (e1b (by omega)) (c1.1.trans (by decide)) c1.2 (pq51b z9) (c2.1.trans (by decide)) c2.2 (by omega) (by omega)) (show (F48 6) = 0 ∧ F0 6 = 0 ∧ (F48 8) = F0 8 ∧ (F48 9) = F0 9 ∧ (F48 11) = F0 11 ∧ (F48 5) = F0 5 by omega) (show CU (m_B gs ++ nul x55.toInt.toNat) ((F48 23)) ((A49 22)) from CU.ns ((i5.emit e1d.1 e1d.2 e1c (by decide)).emit pq51d.1 pq51d.2 pq51c (by decide)) (by omega) (by omega)) (show v1.toInt = F0 11 ∧ F0 12 = 1 by omega)
theorem m_readsNumber {h0 : am_h} {F0 : rf_f} {A0 : rf_A} {tx : List Int} {gs : mS} (hR : rf_R h0 F0 A0) (p1 : 0 ≤ F0 8 ∧ F0 8 ≤ F0 7 ∧ F0 7 ≤ 700 ∧ 0 ≤ F0 20 ∧ F0 20 ≤ 30 ∧ 0 ≤ F0 21 ∧ F0 21 ≤ 12 ∧ 0 ≤ F0 18 ∧ F0 18 ≤ 12 ∧ 0 ≤ F0 23 ∧ F0 23 ≤ 1000000 ∧ (F0 9 = 2 → 0 ≤ F0 11 ∧ F0 11 ≤ 9) ∧ 0 ≤ F0 9 ∧ F0 9 ≤ 4) (p2 : nm (A0 16) (A0 17) (F0 18)) (p3 : F0 9 = 2) (pT : TP tx (F0 7) (A0 3)) (p5 : F0 6 = 0) (p6 : TKv tx (m_e gs) (F0 8) (F0 9) (F0 10) (F0 11) (F0 12) (F0 13) (F0 14)) (p7 : RS gs (m_B gs) (F0 18) (F0 20) (F0 21) (F0 23) (A0 15) (A0 16) (A0 17) (A0 19) (A0 22)) (p8 : sA tx gs) (p9 : F0 20 = ((m_ar gs).length : Int)) : am_Mt 4 178 [.inr (.inr (some 81))] h0 (rf_V h0 (fun F' A' => fr1 [8, 10, 9, 14, 11, 12, 13, 6, 5, 23] F0 F' ∧ fr2 [22] A0 A' ∧ ((F0 8 ≤ F' 8 ∧ F' 8 ≤ F0 7 ∧ F0 20 ≤ F' 20 ∧ F' 20 ≤ 30 ∧ F' 21 = F0 21 ∧ F0 23 ≤ F' 23 ∧ F' 23 ≤ 1000000 ∧ (F' 9 = 2 → 0 ≤ F' 11 ∧ F' 11 ≤ 9) ∧ 0 ≤ F' 9 ∧ F' 9 ≤ 4) ∧ (F' 6 = 0 → F' 20 = F0 20 ∧ F0 6 = 0 ∧ (F' 9 = 0 ∨ F0 8 < F' 8) ∧ F' 5 = F0 5) ∧ imp (F' 6 = 0) (F' 23 ≤ 124 → rd1 (A' 22) (A0 22) (F0 23) (F' 23) (F0 20)) ∧ PN tx gs (F' 5) (F' 6) (F' 8) (F' 9) (F' 10) (F' 11) (F' 12) (F' 13) (F' 14) (F' 18) (F' 20) (F' 21) (F' 23) (A' 15) (A' 16) (A' 17) (A' 19) (A' 22)))) := by
  refine am_Mt.of (D := 3) ?_
  have hI : rf_I h0 h0 F0 A0 := rf_I.start hR
  have hb7 := p7.2.2.1
  have hn7 := p7.2.1
  have hb6 := p6.b
  refine k_aload 1 rfl rfl rfl ?_
  refine k_aload 2 rfl rfl rfl ?_
  refine r_gI hI 5 rfl rfl rfl (fun x68 (e69 : x68.toInt = F0 12) => ?_)
  refine k_push 6 rfl rfl ?_
  have hc70 : (1 : Int32).toInt = 1 := by decide
  by_cases b71 : x68 = (1 : Int32)
  · refine k_c2 9 rfl rfl (if_pos b71) ?_
    have b71 := iv_eq.mp b71
    refine k_push 10 rfl rfl ?_
    refine k_goto 14 rfl rfl ?_
    refine k_push 15 rfl rfl ?_
    have hc72 : (2 : Int32).toInt = 2 := by decide
    refine k_in (d := 1) rfl rfl rfl rfl hI.rc ?_
    refine k_aload 1 rfl rfl rfl ?_
    refine k_in (d := 0) rfl rfl rfl rfl hI.rc ?_
    refine k_aload 1 rfl rfl rfl ?_
    refine r_gI hI 4 rfl rfl rfl (fun x73 (e74 : x73.toInt = F0 6) => ?_)
    by_cases b75 : x73 = 0
    · refine k_c1 7 rfl rfl (if_pos b75) ?_
      have b75 := iv_eq0.mp b75
      refine k_push 8 rfl rfl ?_
      refine k_goto 12 rfl rfl ?_
      refine k_fin rfl (fin_Z (Or.inr rfl)) ⟨_, _, rfl, rf_len hI hI, ?_⟩
      show am_Ok _ _ _ (4, _, [.inl (1 : Int32)], _, 0, 0) _
      refine k_c1 7 rfl rfl (if_neg (by decide)) ?_
      refine k_iload 8 rfl rfl rfl ?_
      refine k_c1 24 rfl rfl (if_neg (by decide)) ?_
      refine k_aload 25 rfl rfl rfl ?_
      refine k_in (d := 0) rfl rfl rfl rfl hI.rc ?_
      refine k_aload 1 rfl rfl rfl ?_
      refine r_gI hI 4 rfl rfl rfl (fun x76 (e77 : x76.toInt = F0 6) => ?_)
      by_cases b78 : x76 = 0
      · refine k_c1 7 rfl rfl (if_pos b78) ?_
        have b78 := iv_eq0.mp b78
        refine k_push 8 rfl rfl ?_
        refine k_goto 12 rfl rfl ?_
        refine k_fin rfl (fin_Z (Or.inr rfl)) ⟨_, _, rfl, rf_len hI hI, ?_⟩
        show am_Ok _ _ _ (28, _, [.inl (1 : Int32)], _, 0, 0) _
        refine k_fin rfl (fin_Z (Or.inr rfl)) ⟨_, _, rfl, rf_len hI hI, ?_⟩
        show am_Ok _ _ _ (18, _, [.inl (1 : Int32)], _, 0, 0) _
        refine k_c1 22 rfl rfl (if_neg (by decide)) ?_
        refine k_aload 23 rfl rfl rfl ?_
        refine r_gI hI 26 rfl rfl rfl (fun x79 (e80 : x79.toInt = F0 11) => ?_)
        refine k_istore 27 rfl rfl ?_
        refine k_aload 28 rfl (gs_ne rfl rfl rfl) rfl ?_
        refine k_push 29 rfl rfl ?_
        refine k_rv hI rfl (m_emits  hI.1 (show 0 ≤ (F0 23) ∧ (F0 23) ≤ 1000000 by omega)) rfl rfl rfl hI.rc ?_
        rintro h82 F83 A84 I85 ⟨k87, k88, pq86⟩
        replace pq86 : ((F0 23) ≤ F83 23 ∧ F83 23 ≤ 1000000) ∧ (F83 23 ≤ 124 → F83 23 = (F0 23) + 1) ∧ imp (F83 23 ≤ 124) (A84 22 ((F0 23)) = (1 : Int32).toInt ∧ ∀ q : Int, q ≠ (F0 23) → A84 22 q = (A0 22) q) ∧ (((F0 23) < 1000000 → F83 23 = (F0 23) + 1) ∧ (¬ (F0 23) < 1000000 → F83 23 = (F0 23))) := pq86
        obtain ⟨pq86a, pq86b, pq86c, pq86d⟩ := pq86
        show am_Ok _ _ _ (32, _, [], _, 0, 0) _
        have e1a := pq86a
        have e1b := pq86b
        have e1c := pq86c
        have e1d := pq86d
        refine k_aload 33 rfl (gs_ne rfl rfl rfl) rfl ?_
        refine k_push 34 rfl rfl ?_
        refine k_rv I85 rfl (m_emits  I85.1 (show 0 ≤ (F83 23) ∧ (F83 23) ≤ 1000000 by omega)) rfl rfl rfl I85.rc ?_
        rintro h90 F91 A92 I93 ⟨k95, k96, pq94⟩
        replace pq94 : ((F83 23) ≤ F91 23 ∧ F91 23 ≤ 1000000) ∧ (F91 23 ≤ 124 → F91 23 = (F83 23) + 1) ∧ imp (F91 23 ≤ 124) (A92 22 ((F83 23)) = (1 : Int32).toInt ∧ ∀ q : Int, q ≠ (F83 23) → A92 22 q = (A84 22) q) ∧ (((F83 23) < 1000000 → F91 23 = (F83 23) + 1) ∧ (¬ (F83 23) < 1000000 → F91 23 = (F83 23))) := pq94
        obtain ⟨pq94a, pq94b, pq94c, pq94d⟩ := pq94
        show am_Ok _ _ _ (37, _, [], _, 0, 0) _
        refine k_push 38 rfl rfl ?_
        have hc97 : (0 : Int32).toInt = 0 := by decide
        refine k_istore 39 rfl rfl ?_
        have e98 : F91 6 = F83 6 := k95 6 (by decide)
        have e99 : F83 6 = F0 6 := k87 6 (by decide)
        have e100 : F91 8 = F83 8 := k95 8 (by decide)
        have e101 : F83 8 = F0 8 := k87 8 (by decide)
        have e102 : F91 9 = F83 9 := k95 9 (by decide)
        have e103 : F83 9 = F0 9 := k87 9 (by decide)
        have e104 : F91 11 = F83 11 := k95 11 (by decide)
        have e105 : F83 11 = F0 11 := k87 11 (by decide)
        have e106 : F91 5 = F83 5 := k95 5 (by decide)
        have e107 : F83 5 = F0 5 := k87 5 (by decide)
        exact b_X10_readsNumber_39 (tx := tx) (gs := gs)  p1 p2 p3 pT p5 p6 p7 p8 p9 _  rfl (gs_ne rfl rfl (gs_ne rfl rfl rfl)) (gs_ne rfl rfl gs_eq) gs_eq I93 (fr1.tr (by decide) (fr1.tr (by decide) fr1.rf k87) k95) (fr2.tr (by decide) (fr2.tr (by decide) fr2.rf k88) k96) (show 0 ≤ (0 : Int32).toInt ∧ (0 : Int32).toInt ≤ x79.toInt ∧ x79.toInt ≤ 9 by omega) (show F0 23 ≤ (F91 23) ∧ (F91 23) ≤ 1000000 by omega) (fun z => by have z9 : F91 23 ≤ 124 := z; have c1 := e1c (by omega); have c2 := pq94c z9; rw [show (0 : Int32).toInt = 0 by decide]; exact nu_0 (e1b (by omega)) (c1.1.trans (by decide)) c1.2 (pq94b z9) (c2.1.trans (by decide)) c2.2) (show (F91 6) = 0 ∧ F0 6 = 0 ∧ (F91 8) = F0 8 ∧ (F91 9) = F0 9 ∧ (F91 11) = F0 11 ∧ (F91 5) = F0 5 by omega) (show CU (m_B gs ++ nul (0 : Int32).toInt.toNat) ((F91 23)) ((A92 22)) from CU.n0 ((p7.1.emit e1d.1 e1d.2 e1c (by decide)).emit pq94d.1 pq94d.2 pq94c (by decide)) (by decide)) (show x79.toInt = F0 11 ∧ F0 12 = 1 by omega)
      · refine k_c1 11 rfl rfl (if_neg b78) ?_
        have b78 := mt iv_eq0.mpr b78
        refine k_push 12 rfl rfl ?_
        have hc108 : (0 : Int32).toInt = 0 := by decide
        refine k_fin rfl (fin_Z (Or.inl rfl)) ⟨_, _, rfl, rf_len hI hI, ?_⟩
        show am_Ok _ _ _ (28, _, [.inl (0 : Int32)], _, 0, 0) _
        refine k_fin rfl (fin_Z (Or.inl rfl)) ⟨_, _, rfl, rf_len hI hI, ?_⟩
        show am_Ok _ _ _ (18, _, [.inl (0 : Int32)], _, 0, 0) _
        refine k_c1 21 rfl rfl (if_pos (by decide)) ?_
        exact k_fin rfl rfl ⟨_, _, _, rfl, hI, fr1.rf, fr2.rf, ⟨(show (F0 8 ≤ F0 8 ∧ F0 8 ≤ F0 7 ∧ F0 20 ≤ F0 20 ∧ F0 20 ≤ 30 ∧ F0 21 = F0 21 ∧ F0 23 ≤ F0 23 ∧ F0 23 ≤ 1000000 ∧ (F0 9 = 2 → 0 ≤ F0 11 ∧ F0 11 ≤ 9) ∧ 0 ≤ F0 9 ∧ F0 9 ≤ 4) by omega), (show (F0 6 = 0 → F0 20 = F0 20 ∧ F0 6 = 0 ∧ (F0 9 = 0 ∨ F0 8 < F0 8) ∧ F0 5 = F0 5) by omega), (fun z => absurd (show F0 6 = 0 from z) (by omega)), (show PN tx gs (F0 5) (F0 6) (F0 8) (F0 9) (F0 10) (F0 11) (F0 12) (F0 13) (F0 14) (F0 18) (F0 20) (F0 21) (F0 23) ((A0 15)) ((A0 16)) ((A0 17)) ((A0 19)) ((A0 22)) from PN.bad (by omega) (ru_2 p6 p3 (by omega) p8 (by omega) (by omega)))⟩⟩
    · refine k_c1 11 rfl rfl (if_neg b75) ?_
      have b75 := mt iv_eq0.mpr b75
      refine k_push 12 rfl rfl ?_
      have hc109 : (0 : Int32).toInt = 0 := by decide
      refine k_fin rfl (fin_Z (Or.inl rfl)) ⟨_, _, rfl, rf_len hI hI, ?_⟩
      show am_Ok _ _ _ (4, _, [.inl (0 : Int32)], _, 0, 0) _
      refine k_c1 24 rfl rfl (if_pos (by decide)) ?_
      refine k_aload 25 rfl rfl rfl ?_
      refine k_in (d := 0) rfl rfl rfl rfl hI.rc ?_
      refine k_aload 1 rfl rfl rfl ?_
      refine r_gI hI 4 rfl rfl rfl (fun x110 (e111 : x110.toInt = F0 6) => ?_)
      by_cases b112 : x110 = 0
      · refine k_c1 7 rfl rfl (if_pos b112) ?_
        have b112 := iv_eq0.mp b112
        refine k_push 8 rfl rfl ?_
        refine k_goto 12 rfl rfl ?_
        refine k_fin rfl (fin_Z (Or.inr rfl)) ⟨_, _, rfl, rf_len hI hI, ?_⟩
        show am_Ok _ _ _ (28, _, [.inl (1 : Int32)], _, 0, 0) _
        refine k_fin rfl (fin_Z (Or.inr rfl)) ⟨_, _, rfl, rf_len hI hI, ?_⟩
        show am_Ok _ _ _ (18, _, [.inl (1 : Int32)], _, 0, 0) _
        refine k_c1 22 rfl rfl (if_neg (by decide)) ?_
        refine k_aload 23 rfl rfl rfl ?_
        refine r_gI hI 26 rfl rfl rfl (fun x113 (e114 : x113.toInt = F0 11) => ?_)
        refine k_istore 27 rfl rfl ?_
        refine k_aload 28 rfl (gs_ne rfl rfl rfl) rfl ?_
        refine k_push 29 rfl rfl ?_
        refine k_rv hI rfl (m_emits  hI.1 (show 0 ≤ (F0 23) ∧ (F0 23) ≤ 1000000 by omega)) rfl rfl rfl hI.rc ?_
        rintro h116 F117 A118 I119 ⟨k121, k122, pq120⟩
        replace pq120 : ((F0 23) ≤ F117 23 ∧ F117 23 ≤ 1000000) ∧ (F117 23 ≤ 124 → F117 23 = (F0 23) + 1) ∧ imp (F117 23 ≤ 124) (A118 22 ((F0 23)) = (1 : Int32).toInt ∧ ∀ q : Int, q ≠ (F0 23) → A118 22 q = (A0 22) q) ∧ (((F0 23) < 1000000 → F117 23 = (F0 23) + 1) ∧ (¬ (F0 23) < 1000000 → F117 23 = (F0 23))) := pq120
        obtain ⟨pq120a, pq120b, pq120c, pq120d⟩ := pq120
        show am_Ok _ _ _ (32, _, [], _, 0, 0) _
        have e1a := pq120a
        have e1b := pq120b
        have e1c := pq120c
        have e1d := pq120d
        refine k_aload 33 rfl (gs_ne rfl rfl rfl) rfl ?_
        refine k_push 34 rfl rfl ?_
        refine k_rv I119 rfl (m_emits  I119.1 (show 0 ≤ (F117 23) ∧ (F117 23) ≤ 1000000 by omega)) rfl rfl rfl I119.rc ?_
        rintro h124 F125 A126 I127 ⟨k129, k130, pq128⟩
        replace pq128 : ((F117 23) ≤ F125 23 ∧ F125 23 ≤ 1000000) ∧ (F125 23 ≤ 124 → F125 23 = (F117 23) + 1) ∧ imp (F125 23 ≤ 124) (A126 22 ((F117 23)) = (1 : Int32).toInt ∧ ∀ q : Int, q ≠ (F117 23) → A126 22 q = (A118 22) q) ∧ (((F117 23) < 1000000 → F125 23 = (F117 23) + 1) ∧ (¬ (F117 23) < 1000000 → F125 23 = (F117 23))) := pq128
        obtain ⟨pq128a, pq128b, pq128c, pq128d⟩ := pq128
        show am_Ok _ _ _ (37, _, [], _, 0, 0) _
        refine k_push 38 rfl rfl ?_
        refine k_istore 39 rfl rfl ?_
        have e131 : F125 6 = F117 6 := k129 6 (by decide)
        have e132 : F117 6 = F0 6 := k121 6 (by decide)
        have e133 : F125 8 = F117 8 := k129 8 (by decide)
        have e134 : F117 8 = F0 8 := k121 8 (by decide)
        have e135 : F125 9 = F117 9 := k129 9 (by decide)
        have e136 : F117 9 = F0 9 := k121 9 (by decide)
        have e137 : F125 11 = F117 11 := k129 11 (by decide)
        have e138 : F117 11 = F0 11 := k121 11 (by decide)
        have e139 : F125 5 = F117 5 := k129 5 (by decide)
        have e140 : F117 5 = F0 5 := k121 5 (by decide)
        exact b_X10_readsNumber_39 (tx := tx) (gs := gs)  p1 p2 p3 pT p5 p6 p7 p8 p9 _  rfl (gs_ne rfl rfl (gs_ne rfl rfl rfl)) (gs_ne rfl rfl gs_eq) gs_eq I127 (fr1.tr (by decide) (fr1.tr (by decide) fr1.rf k121) k129) (fr2.tr (by decide) (fr2.tr (by decide) fr2.rf k122) k130) (show 0 ≤ (0 : Int32).toInt ∧ (0 : Int32).toInt ≤ x113.toInt ∧ x113.toInt ≤ 9 by omega) (show F0 23 ≤ (F125 23) ∧ (F125 23) ≤ 1000000 by omega) (fun z => by have z9 : F125 23 ≤ 124 := z; have c1 := e1c (by omega); have c2 := pq128c z9; rw [show (0 : Int32).toInt = 0 by decide]; exact nu_0 (e1b (by omega)) (c1.1.trans (by decide)) c1.2 (pq128b z9) (c2.1.trans (by decide)) c2.2) (show (F125 6) = 0 ∧ F0 6 = 0 ∧ (F125 8) = F0 8 ∧ (F125 9) = F0 9 ∧ (F125 11) = F0 11 ∧ (F125 5) = F0 5 by omega) (show CU (m_B gs ++ nul (0 : Int32).toInt.toNat) ((F125 23)) ((A126 22)) from CU.n0 ((p7.1.emit e1d.1 e1d.2 e1c (by decide)).emit pq128d.1 pq128d.2 pq128c (by decide)) (by decide)) (show x113.toInt = F0 11 ∧ F0 12 = 1 by omega)
      · refine k_c1 11 rfl rfl (if_neg b112) ?_
        have b112 := mt iv_eq0.mpr b112
        refine k_push 12 rfl rfl ?_
        refine k_fin rfl (fin_Z (Or.inl rfl)) ⟨_, _, rfl, rf_len hI hI, ?_⟩
        show am_Ok _ _ _ (28, _, [.inl (0 : Int32)], _, 0, 0) _
        refine k_fin rfl (fin_Z (Or.inl rfl)) ⟨_, _, rfl, rf_len hI hI, ?_⟩
        show am_Ok _ _ _ (18, _, [.inl (0 : Int32)], _, 0, 0) _
        refine k_c1 21 rfl rfl (if_pos (by decide)) ?_
        exact k_fin rfl rfl ⟨_, _, _, rfl, hI, fr1.rf, fr2.rf, ⟨(show (F0 8 ≤ F0 8 ∧ F0 8 ≤ F0 7 ∧ F0 20 ≤ F0 20 ∧ F0 20 ≤ 30 ∧ F0 21 = F0 21 ∧ F0 23 ≤ F0 23 ∧ F0 23 ≤ 1000000 ∧ (F0 9 = 2 → 0 ≤ F0 11 ∧ F0 11 ≤ 9) ∧ 0 ≤ F0 9 ∧ F0 9 ≤ 4) by omega), (show (F0 6 = 0 → F0 20 = F0 20 ∧ F0 6 = 0 ∧ (F0 9 = 0 ∨ F0 8 < F0 8) ∧ F0 5 = F0 5) by omega), (fun z => absurd (show F0 6 = 0 from z) (by omega)), (show PN tx gs (F0 5) (F0 6) (F0 8) (F0 9) (F0 10) (F0 11) (F0 12) (F0 13) (F0 14) (F0 18) (F0 20) (F0 21) (F0 23) ((A0 15)) ((A0 16)) ((A0 17)) ((A0 19)) ((A0 22)) from PN.bad (by omega) (ru_2 p6 p3 (by omega) p8 (by omega) (by omega)))⟩⟩
  · refine k_c2 13 rfl rfl (if_neg b71) ?_
    have b71 := mt iv_eq.mpr b71
    refine k_push 14 rfl rfl ?_
    have hc141 : (0 : Int32).toInt = 0 := by decide
    refine k_push 15 rfl rfl ?_
    have hc142 : (2 : Int32).toInt = 2 := by decide
    refine k_in (d := 1) rfl rfl rfl rfl hI.rc ?_
    refine k_aload 1 rfl rfl rfl ?_
    refine k_in (d := 0) rfl rfl rfl rfl hI.rc ?_
    refine k_aload 1 rfl rfl rfl ?_
    refine r_gI hI 4 rfl rfl rfl (fun x143 (e144 : x143.toInt = F0 6) => ?_)
    by_cases b145 : x143 = 0
    · refine k_c1 7 rfl rfl (if_pos b145) ?_
      have b145 := iv_eq0.mp b145
      refine k_push 8 rfl rfl ?_
      refine k_goto 12 rfl rfl ?_
      refine k_fin rfl (fin_Z (Or.inr rfl)) ⟨_, _, rfl, rf_len hI hI, ?_⟩
      show am_Ok _ _ _ (4, _, [.inl (1 : Int32)], _, 0, 0) _
      refine k_c1 7 rfl rfl (if_neg (by decide)) ?_
      refine k_iload 8 rfl rfl rfl ?_
      refine k_c1 11 rfl rfl (if_pos (by decide)) ?_
      refine k_aload 12 rfl rfl rfl ?_
      refine k_iload 13 rfl rfl rfl ?_
      refine r_pI hI 16 rfl rfl rfl (fun h146 I147 => ?_)
      refine k_aload 17 rfl rfl rfl ?_
      refine k_aload 18 rfl rfl rfl ?_
      refine r_gI I147 21 rfl rfl rfl (fun x148 (e149 : x148.toInt = F0 10) => ?_)
      refine r_pI I147 24 rfl rfl rfl (fun h150 I151 => ?_)
      refine k_aload 25 rfl rfl rfl ?_
      refine k_in (d := 0) rfl rfl rfl rfl I151.rc ?_
      refine k_aload 1 rfl rfl rfl ?_
      refine r_gI I151 4 rfl rfl rfl (fun x152 (e153 : x152.toInt = (2 : Int32).toInt) => ?_)
      by_cases b154 : x152 = 0
      · refine k_c1 7 rfl rfl (if_pos b154) ?_
        have b154 := iv_eq0.mp b154
        refine k_push 8 rfl rfl ?_
        refine k_goto 12 rfl rfl ?_
        refine k_fin rfl (fin_Z (Or.inr rfl)) ⟨_, _, rfl, rf_len I151 I151, ?_⟩
        show am_Ok _ _ _ (28, _, [.inl (1 : Int32)], _, 0, 0) _
        refine k_fin rfl (fin_Z (Or.inr rfl)) ⟨_, _, rfl, rf_len hI I151, ?_⟩
        show am_Ok _ _ _ (18, _, [.inl (1 : Int32)], _, 0, 0) _
        refine k_c1 22 rfl rfl (if_neg (by decide)) ?_
        refine k_aload 23 rfl rfl rfl ?_
        refine r_gI I151 26 rfl rfl rfl (fun x155 (e156 : x155.toInt = F0 11) => ?_)
        refine k_istore 27 rfl rfl ?_
        refine k_aload 28 rfl (gs_ne rfl rfl rfl) rfl ?_
        refine k_push 29 rfl rfl ?_
        refine k_rv I151 rfl (m_emits  I151.1 (show 0 ≤ (F0 23) ∧ (F0 23) ≤ 1000000 by omega)) rfl rfl rfl I151.rc ?_
        rintro h158 F159 A160 I161 ⟨k163, k164, pq162⟩
        replace pq162 : ((F0 23) ≤ F159 23 ∧ F159 23 ≤ 1000000) ∧ (F159 23 ≤ 124 → F159 23 = (F0 23) + 1) ∧ imp (F159 23 ≤ 124) (A160 22 ((F0 23)) = (1 : Int32).toInt ∧ ∀ q : Int, q ≠ (F0 23) → A160 22 q = (A0 22) q) ∧ (((F0 23) < 1000000 → F159 23 = (F0 23) + 1) ∧ (¬ (F0 23) < 1000000 → F159 23 = (F0 23))) := pq162
        obtain ⟨pq162a, pq162b, pq162c, pq162d⟩ := pq162
        show am_Ok _ _ _ (32, _, [], _, 0, 0) _
        have e1a := pq162a
        have e1b := pq162b
        have e1c := pq162c
        have e1d := pq162d
        refine k_aload 33 rfl (gs_ne rfl rfl rfl) rfl ?_
        refine k_push 34 rfl rfl ?_
        refine k_rv I161 rfl (m_emits  I161.1 (show 0 ≤ (F159 23) ∧ (F159 23) ≤ 1000000 by omega)) rfl rfl rfl I161.rc ?_
        rintro h166 F167 A168 I169 ⟨k171, k172, pq170⟩
        replace pq170 : ((F159 23) ≤ F167 23 ∧ F167 23 ≤ 1000000) ∧ (F167 23 ≤ 124 → F167 23 = (F159 23) + 1) ∧ imp (F167 23 ≤ 124) (A168 22 ((F159 23)) = (1 : Int32).toInt ∧ ∀ q : Int, q ≠ (F159 23) → A168 22 q = (A160 22) q) ∧ (((F159 23) < 1000000 → F167 23 = (F159 23) + 1) ∧ (¬ (F159 23) < 1000000 → F167 23 = (F159 23))) := pq170
        obtain ⟨pq170a, pq170b, pq170c, pq170d⟩ := pq170
        show am_Ok _ _ _ (37, _, [], _, 0, 0) _
        refine k_push 38 rfl rfl ?_
        refine k_istore 39 rfl rfl ?_
        have e173 : F167 6 = F159 6 := k171 6 (by decide)
        have e174 : F159 6 = (2 : Int32).toInt := k163 6 (by decide)
        have e175 : F167 8 = F159 8 := k171 8 (by decide)
        have e176 : F159 8 = F0 8 := k163 8 (by decide)
        have e177 : F167 9 = F159 9 := k171 9 (by decide)
        have e178 : F159 9 = F0 9 := k163 9 (by decide)
        have e179 : F167 11 = F159 11 := k171 11 (by decide)
        have e180 : F159 11 = F0 11 := k163 11 (by decide)
        have e181 : F167 5 = F159 5 := k171 5 (by decide)
        have e182 : F159 5 = x148.toInt := k163 5 (by decide)
        exact b_X10_readsNumber_39 (tx := tx) (gs := gs)  p1 p2 p3 pT p5 p6 p7 p8 p9 _  rfl (gs_ne rfl rfl (gs_ne rfl rfl rfl)) (gs_ne rfl rfl gs_eq) gs_eq I169 (fr1.tr (by decide) (fr1.tr (by decide) (fr1.up (by decide) (fr1.up (by decide) fr1.rf)) k163) k171) (fr2.tr (by decide) (fr2.tr (by decide) fr2.rf k164) k172) (show 0 ≤ (0 : Int32).toInt ∧ (0 : Int32).toInt ≤ x155.toInt ∧ x155.toInt ≤ 9 by omega) (show F0 23 ≤ (F167 23) ∧ (F167 23) ≤ 1000000 by omega) (fun z => by have z9 : F167 23 ≤ 124 := z; have c1 := e1c (by omega); have c2 := pq170c z9; rw [show (0 : Int32).toInt = 0 by decide]; exact nu_0 (e1b (by omega)) (c1.1.trans (by decide)) c1.2 (pq170b z9) (c2.1.trans (by decide)) c2.2) (show (F167 6) = 0 ∧ F0 6 = 0 ∧ (F167 8) = F0 8 ∧ (F167 9) = F0 9 ∧ (F167 11) = F0 11 ∧ (F167 5) = F0 5 by omega) (show CU (m_B gs ++ nul (0 : Int32).toInt.toNat) ((F167 23)) ((A168 22)) from CU.n0 ((p7.1.emit e1d.1 e1d.2 e1c (by decide)).emit pq170d.1 pq170d.2 pq170c (by decide)) (by decide)) (show x155.toInt = F0 11 ∧ F0 12 = 1 by omega)
      · refine k_c1 11 rfl rfl (if_neg b154) ?_
        have b154 := mt iv_eq0.mpr b154
        refine k_push 12 rfl rfl ?_
        refine k_fin rfl (fin_Z (Or.inl rfl)) ⟨_, _, rfl, rf_len I151 I151, ?_⟩
        show am_Ok _ _ _ (28, _, [.inl (0 : Int32)], _, 0, 0) _
        refine k_fin rfl (fin_Z (Or.inl rfl)) ⟨_, _, rfl, rf_len hI I151, ?_⟩
        show am_Ok _ _ _ (18, _, [.inl (0 : Int32)], _, 0, 0) _
        refine k_c1 21 rfl rfl (if_pos (by decide)) ?_
        exact k_fin rfl rfl ⟨_, _, _, rfl, I151, (fr1.up (by decide) (fr1.up (by decide) fr1.rf)), fr2.rf, ⟨(show (F0 8 ≤ F0 8 ∧ F0 8 ≤ F0 7 ∧ F0 20 ≤ F0 20 ∧ F0 20 ≤ 30 ∧ F0 21 = F0 21 ∧ F0 23 ≤ F0 23 ∧ F0 23 ≤ 1000000 ∧ (F0 9 = 2 → 0 ≤ F0 11 ∧ F0 11 ≤ 9) ∧ 0 ≤ F0 9 ∧ F0 9 ≤ 4) by omega), (show ((2 : Int32).toInt = 0 → F0 20 = F0 20 ∧ F0 6 = 0 ∧ (F0 9 = 0 ∨ F0 8 < F0 8) ∧ x148.toInt = F0 5) by omega), (fun z => absurd (show (2 : Int32).toInt = 0 from z) (by omega)), (show PN tx gs (x148.toInt) ((2 : Int32).toInt) (F0 8) (F0 9) (F0 10) (F0 11) (F0 12) (F0 13) (F0 14) (F0 18) (F0 20) (F0 21) (F0 23) ((A0 15)) ((A0 16)) ((A0 17)) ((A0 19)) ((A0 22)) from PN.bad (by omega) (ru_2 p6 p3 (by omega) p8 (by omega) (by omega)))⟩⟩
    · refine k_c1 11 rfl rfl (if_neg b145) ?_
      have b145 := mt iv_eq0.mpr b145
      refine k_push 12 rfl rfl ?_
      refine k_fin rfl (fin_Z (Or.inl rfl)) ⟨_, _, rfl, rf_len hI hI, ?_⟩
      show am_Ok _ _ _ (4, _, [.inl (0 : Int32)], _, 0, 0) _
      refine k_c1 24 rfl rfl (if_pos (by decide)) ?_
      refine k_aload 25 rfl rfl rfl ?_
      refine k_in (d := 0) rfl rfl rfl rfl hI.rc ?_
      refine k_aload 1 rfl rfl rfl ?_
      refine r_gI hI 4 rfl rfl rfl (fun x183 (e184 : x183.toInt = F0 6) => ?_)
      by_cases b185 : x183 = 0
      · refine k_c1 7 rfl rfl (if_pos b185) ?_
        have b185 := iv_eq0.mp b185
        refine k_push 8 rfl rfl ?_
        refine k_goto 12 rfl rfl ?_
        refine k_fin rfl (fin_Z (Or.inr rfl)) ⟨_, _, rfl, rf_len hI hI, ?_⟩
        show am_Ok _ _ _ (28, _, [.inl (1 : Int32)], _, 0, 0) _
        refine k_fin rfl (fin_Z (Or.inr rfl)) ⟨_, _, rfl, rf_len hI hI, ?_⟩
        show am_Ok _ _ _ (18, _, [.inl (1 : Int32)], _, 0, 0) _
        refine k_c1 22 rfl rfl (if_neg (by decide)) ?_
        refine k_aload 23 rfl rfl rfl ?_
        refine r_gI hI 26 rfl rfl rfl (fun x186 (e187 : x186.toInt = F0 11) => ?_)
        refine k_istore 27 rfl rfl ?_
        refine k_aload 28 rfl (gs_ne rfl rfl rfl) rfl ?_
        refine k_push 29 rfl rfl ?_
        refine k_rv hI rfl (m_emits  hI.1 (show 0 ≤ (F0 23) ∧ (F0 23) ≤ 1000000 by omega)) rfl rfl rfl hI.rc ?_
        rintro h189 F190 A191 I192 ⟨k194, k195, pq193⟩
        replace pq193 : ((F0 23) ≤ F190 23 ∧ F190 23 ≤ 1000000) ∧ (F190 23 ≤ 124 → F190 23 = (F0 23) + 1) ∧ imp (F190 23 ≤ 124) (A191 22 ((F0 23)) = (1 : Int32).toInt ∧ ∀ q : Int, q ≠ (F0 23) → A191 22 q = (A0 22) q) ∧ (((F0 23) < 1000000 → F190 23 = (F0 23) + 1) ∧ (¬ (F0 23) < 1000000 → F190 23 = (F0 23))) := pq193
        obtain ⟨pq193a, pq193b, pq193c, pq193d⟩ := pq193
        show am_Ok _ _ _ (32, _, [], _, 0, 0) _
        have e1a := pq193a
        have e1b := pq193b
        have e1c := pq193c
        have e1d := pq193d
        refine k_aload 33 rfl (gs_ne rfl rfl rfl) rfl ?_
        refine k_push 34 rfl rfl ?_
        refine k_rv I192 rfl (m_emits  I192.1 (show 0 ≤ (F190 23) ∧ (F190 23) ≤ 1000000 by omega)) rfl rfl rfl I192.rc ?_
        rintro h197 F198 A199 I200 ⟨k202, k203, pq201⟩
        replace pq201 : ((F190 23) ≤ F198 23 ∧ F198 23 ≤ 1000000) ∧ (F198 23 ≤ 124 → F198 23 = (F190 23) + 1) ∧ imp (F198 23 ≤ 124) (A199 22 ((F190 23)) = (1 : Int32).toInt ∧ ∀ q : Int, q ≠ (F190 23) → A199 22 q = (A191 22) q) ∧ (((F190 23) < 1000000 → F198 23 = (F190 23) + 1) ∧ (¬ (F190 23) < 1000000 → F198 23 = (F190 23))) := pq201
        obtain ⟨pq201a, pq201b, pq201c, pq201d⟩ := pq201
        show am_Ok _ _ _ (37, _, [], _, 0, 0) _
        refine k_push 38 rfl rfl ?_
        refine k_istore 39 rfl rfl ?_
        have e204 : F198 6 = F190 6 := k202 6 (by decide)
        have e205 : F190 6 = F0 6 := k194 6 (by decide)
        have e206 : F198 8 = F190 8 := k202 8 (by decide)
        have e207 : F190 8 = F0 8 := k194 8 (by decide)
        have e208 : F198 9 = F190 9 := k202 9 (by decide)
        have e209 : F190 9 = F0 9 := k194 9 (by decide)
        have e210 : F198 11 = F190 11 := k202 11 (by decide)
        have e211 : F190 11 = F0 11 := k194 11 (by decide)
        have e212 : F198 5 = F190 5 := k202 5 (by decide)
        have e213 : F190 5 = F0 5 := k194 5 (by decide)
        exact b_X10_readsNumber_39 (tx := tx) (gs := gs)  p1 p2 p3 pT p5 p6 p7 p8 p9 _  rfl (gs_ne rfl rfl (gs_ne rfl rfl rfl)) (gs_ne rfl rfl gs_eq) gs_eq I200 (fr1.tr (by decide) (fr1.tr (by decide) fr1.rf k194) k202) (fr2.tr (by decide) (fr2.tr (by decide) fr2.rf k195) k203) (show 0 ≤ (0 : Int32).toInt ∧ (0 : Int32).toInt ≤ x186.toInt ∧ x186.toInt ≤ 9 by omega) (show F0 23 ≤ (F198 23) ∧ (F198 23) ≤ 1000000 by omega) (fun z => by have z9 : F198 23 ≤ 124 := z; have c1 := e1c (by omega); have c2 := pq201c z9; rw [show (0 : Int32).toInt = 0 by decide]; exact nu_0 (e1b (by omega)) (c1.1.trans (by decide)) c1.2 (pq201b z9) (c2.1.trans (by decide)) c2.2) (show (F198 6) = 0 ∧ F0 6 = 0 ∧ (F198 8) = F0 8 ∧ (F198 9) = F0 9 ∧ (F198 11) = F0 11 ∧ (F198 5) = F0 5 by omega) (show CU (m_B gs ++ nul (0 : Int32).toInt.toNat) ((F198 23)) ((A199 22)) from CU.n0 ((p7.1.emit e1d.1 e1d.2 e1c (by decide)).emit pq201d.1 pq201d.2 pq201c (by decide)) (by decide)) (show x186.toInt = F0 11 ∧ F0 12 = 1 by omega)
      · refine k_c1 11 rfl rfl (if_neg b185) ?_
        have b185 := mt iv_eq0.mpr b185
        refine k_push 12 rfl rfl ?_
        refine k_fin rfl (fin_Z (Or.inl rfl)) ⟨_, _, rfl, rf_len hI hI, ?_⟩
        show am_Ok _ _ _ (28, _, [.inl (0 : Int32)], _, 0, 0) _
        refine k_fin rfl (fin_Z (Or.inl rfl)) ⟨_, _, rfl, rf_len hI hI, ?_⟩
        show am_Ok _ _ _ (18, _, [.inl (0 : Int32)], _, 0, 0) _
        refine k_c1 21 rfl rfl (if_pos (by decide)) ?_
        exact k_fin rfl rfl ⟨_, _, _, rfl, hI, fr1.rf, fr2.rf, ⟨(show (F0 8 ≤ F0 8 ∧ F0 8 ≤ F0 7 ∧ F0 20 ≤ F0 20 ∧ F0 20 ≤ 30 ∧ F0 21 = F0 21 ∧ F0 23 ≤ F0 23 ∧ F0 23 ≤ 1000000 ∧ (F0 9 = 2 → 0 ≤ F0 11 ∧ F0 11 ≤ 9) ∧ 0 ≤ F0 9 ∧ F0 9 ≤ 4) by omega), (show (F0 6 = 0 → F0 20 = F0 20 ∧ F0 6 = 0 ∧ (F0 9 = 0 ∨ F0 8 < F0 8) ∧ F0 5 = F0 5) by omega), (fun z => absurd (show F0 6 = 0 from z) (by omega)), (show PN tx gs (F0 5) (F0 6) (F0 8) (F0 9) (F0 10) (F0 11) (F0 12) (F0 13) (F0 14) (F0 18) (F0 20) (F0 21) (F0 23) ((A0 15)) ((A0 16)) ((A0 17)) ((A0 19)) ((A0 22)) from PN.bad (by omega) (ru_2 p6 p3 (by omega) p8 (by omega) (by omega)))⟩⟩
end
