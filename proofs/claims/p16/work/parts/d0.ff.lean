/-! findFault(): the whole text -/
def FFQ (T : List Int) (F : rf_f) (A : xl_A) (x : Int) (F' : rf_f) (A' : xl_A) : Prop := (fF9 F F' ∧ fA9 A A') ∧ ∃ r : Int × Int × List Int, Ev T m_0 r ∧ x = r.1 ∧ F' 1502 = r.2.1 ∧ (r.1 = 0 → ∃ s : mS, r.2.2 = m_c s ∧ CLr T F' A' s ∧ m_e s ≤ (T.length : Int) ∧ m_st s = 4 ∧ m_na s = 0)
section FFS
variable {T : List Int} {F F' F0 : rf_f} {A A' A0 : xl_A} {s : mS} {p : Int × rf_f × xl_A}
theorem CLq.z (h2 : A 2 = T) (hT : (T.length : Int) ≤ 700) (f6 : F 406 = 0) (f8 : F 408 = 0) (f9 : F 409 = 0) (f10 : F 410 = 0) (f11 : F 411 = 0) (a5 : A 5 = []) (a7 : A 7 = []) (a9 : A 9 = []) (a11 : A 11 = []) : CLr T F A m_0 := by
  show CLq T F A 0 0 [] 0 0 [] [] [] [] 0 []
  unfold CLq
  rw [a5, a7, a9, a11]
  refine ⟨⟨h2, hT⟩, ⟨f6, f8, f10, f11⟩, ⟨by decide, by decide, by decide, by decide, by decide, by decide, fun o ho => (by cases ho), by decide, by decide⟩, ARD.z, 0, 0, ⟨f9, Nat.le_refl _⟩, ?_, ?_, fun z => absurd z (by decide), fun _ => ⟨rfl, rfl⟩, fun z => absurd z (by decide)⟩
  · exact ⟨Nat.le_refl _, fun x hx => (by cases hx), rfl, fun _ => rfl, fun z => absurd rfl z, rfl⟩
  · exact ⟨fun i i0 i1 => absurd i1 (by show ¬ i < ((0 : Nat) : Int); omega), rfl, fun i hi => absurd hi (Nat.not_lt_zero i)⟩
theorem adv_cl (h : CLr T F A s) : CLr T (p_X7_advance F A).2.1 (p_X7_advance F A).2.2 s := CLq.cg h rfl rfl rfl rfl rfl rfl
theorem adv_tk (hT : A 2 = T) (he : F 1503 = m_e s) (h0 : 0 ≤ m_e s) (h1 : m_e s ≤ (T.length : Int)) : TKq T (p_X7_advance F A).2.1 s := by
  refine ⟨?_, ?_, ?_, h0, h1⟩
  · show tO (A 2) (F 1503) = tO T (m_e s)
    rw [hT, he]
  · show tS (A 2) (F 1503) = tS T (m_e s)
    rw [hT, he]
  · show tE (A 2) (F 1503) = tE T (m_e s)
    rw [hT, he]
theorem adv_fr : fF9 F (p_X7_advance F A).2.1 ∧ fA9 A (p_X7_advance F A).2.2 := ⟨((fF9.rf.up (by omega)).up (by omega)).up (by omega), fA9.rf⟩
theorem ff_done (h0 : fF9 F0 F ∧ fA9 A0 A) (hr : Rc T m_0 s) (he : m_e s ≤ (T.length : Int)) (hst : STP T s (p_X7_advance F A).2.1 (p_X7_advance F A).2.2 p) (h : ¬ p.1 = 0 ∨ p.2.1 1501 = 0) : FFQ T F0 A0 p.1 p.2.1 p.2.2 := by
  obtain ⟨⟨g1, g2⟩, g3⟩ := hst
  refine ⟨⟨(h0.1.tr adv_fr.1).tr g1, (h0.2.tr adv_fr.2).tr g2⟩, ?_⟩
  rcases g3 with ⟨s', e1, e2, e3, -⟩ | ⟨r, e1, e2, e3, e4⟩
  · rcases h with h | h
    · exact absurd e2 h
    · exact absurd h e3
  · refine ⟨r, hr.sp e1, e2, e3, fun z => ?_⟩
    rcases e4 with e4 | ⟨-, e5, e6, e7, e8, e9⟩
    · exact absurd z e4
    · exact ⟨s, e6, e7, he, e8, e9⟩
theorem ff_next (h0 : fF9 F0 F ∧ fA9 A0 A) (hr : Rc T m_0 s) (hst : STP T s (p_X7_advance F A).2.1 (p_X7_advance F A).2.2 p) (hp : p.1 = 0) (h : ¬ p.2.1 1501 = 0) : (fF9 F0 p.2.1 ∧ fA9 A0 p.2.2) ∧ ∃ s' : mS, Rc T m_0 s' ∧ CLr T p.2.1 p.2.2 s' ∧ p.2.1 1503 = m_e s' ∧ m_e s + 1 ≤ m_e s' ∧ m_e s' ≤ (T.length : Int) := by
  obtain ⟨⟨g1, g2⟩, g3⟩ := hst
  refine ⟨⟨(h0.1.tr adv_fr.1).tr g1, (h0.2.tr adv_fr.2).tr g2⟩, ?_⟩
  rcases g3 with ⟨s', e1, e2, e3, e4, e5, e6, e7⟩ | ⟨r, e1, e2, e3, e4⟩
  · exact ⟨s', hr.nx e1, e4, e5, e6, e7⟩
  · rcases e4 with e4 | e4
    · exact absurd (e2.symm.trans hp) e4
    · exact absurd e4.2.1 h
end FFS
section
theorem yl_X6_findFault_47 {h0 : am_h} {F0 : rf_f} {A0 : xl_A}   (hp2 : ((A0 2).length : Int) ≤ 700) : ∀ (n : Nat) {lv : am_l} {h : am_h} {c s : Nat} {u1 : Int32} {v1 : Int} {Fv : rf_f} {Av : xl_A}, ((702 - v1).toNat) = n → am_get lv 0 = some (.inr (.inr (some 4))) → am_get lv 1 = some (.inl u1) → u1.toInt = v1 → xI h0 (ob_P h0) h c s Fv Av → am_okL h.length lv = true → (0 ≤ v1 ∧ v1 ≤ 701) → (fF9 F0 Fv ∧ fA9 A0 Av) → (∃ s : mS, Rc (A0 2) m_0 s ∧ CLr (A0 2) Fv Av s ∧ Fv 1503 = m_e s ∧ v1 ≤ m_e s ∧ m_e s ≤ ((A0 2).length : Int)) → am_Ok am_G 6 84 (47, lv, [], h, c, s) (xQ h0 (fun x F' A' => FFQ (A0 2) F0 A0 (x) (F') (A'))) := by
  intro n
  induction n using Nat.strongRecOn with
  | ind n ih =>
    intro lv h c s u1 v1  Fv Av hm g0 g1 hv1 hI hL i1 i2 i3
    obtain ⟨sz, j1, j2, j3, j4, j5⟩ := i3
    have hT : Av 2 = A0 2 := j2.1.1
    refine k_iload 48 rfl g1 rfl ?_
    refine k_push 51 rfl rfl ?_
    have hc1 : (700 : Int32).toInt = 700 := by decide
    by_cases b2 : (700 : Int32) < u1
    · refine k_c2 88 rfl rfl (if_pos b2) ?_
      have b2 : 700 < v1 := by have h9 := iv_lt.mp b2; rw [hv1] at h9; rw [hc1] at h9; exact h9
      refine k_push 89 rfl rfl ?_
      have hc3 : (1 : Int32).toInt = 1 := by decide
      exact k_fin rfl rfl ⟨_, _, _, _, _, _, rfl, hI, (by (try rw [hc3]); show FFQ (A0 2) F0 A0 (1) (Fv) (Av); exact absurd j4 (by omega))⟩
    · refine k_c2 54 rfl rfl (if_neg b2) ?_
      have b2 : ¬ (700 < v1) := by have h9 := mt iv_lt.mpr b2; rw [hv1] at h9; rw [hc1] at h9; exact h9
      refine k_aload 55 rfl g0 rfl ?_
      refine x_gF 15 hI 58 rfl rfl (by decide) rfl ?_
      refine k_xv hI rfl (n_X7_advance   (by exact ⟨by omega, by rw [hT, j3]; exact j5⟩) (by rw [hT]; exact hp2) hI.1) rfl rfl rfl (hI.T.rc oc15 rfl) hL so_n ?_
      rintro h5 c6 s7 F8 A9 I10 L11 ⟨k13, k14⟩
      replace k13 := k13.symm
      subst k13
      replace k14 := k14.symm
      subst k14
      show am_Ok _ _ _ (61, _, [], _, c6, s7) _
      have cl2 := adv_cl j2
      have tk2 := adv_tk (F := Fv) hT j3 (by omega) j5
      have st2 := stp_all cl2 tk2
      obtain ⟨y1, y2, y3, y4, y5, y6, y7⟩ := tk_pre cl2 tk2
      refine k_aload 62 rfl g0 rfl ?_
      refine k_xq I10 rfl (n_X6_take   (by exact y1) (by exact y2) (by exact y3) (by exact y4) (by exact y5) (by exact y6) (by exact y7) I10.1) rfl rfl rfl (I10.T.rc oc4 rfl) L11 so_n ?_
      rintro x15 h16 c17 s18 F19 A20 I21 L22 ⟨e23, k24, k25⟩
      replace k24 := k24.symm
      subst k24
      replace k25 := k25.symm
      subst k25
      show am_Ok _ _ _ (65, _, [.inl x15], _, c17, s18) _
      refine k_istore 66 rfl rfl ?_
      refine k_iload 67 rfl gs_eq rfl ?_
      by_cases b26 : x15 = 0
      · refine k_c1 70 rfl rfl (if_pos b26) ?_
        have b26 : (p_X6_take ((p_X7_advance Fv Av).2.1) ((p_X7_advance Fv Av).2.2)).1 = 0 := by have h9 := iv_eq0.mp b26; rw [e23] at h9; exact h9
        refine k_aload 71 rfl (gs_ne rfl rfl g0) rfl ?_
        refine x_gF 15 I21 74 rfl rfl (by decide) rfl ?_
        refine k_xq I21 rfl (n_X7_sort    I21.1) rfl rfl rfl (I21.T.rc oc15 rfl) (okL_set rfl L22) so_n ?_
        rintro x27 h28 c29 s30 F31 A32 I33 L34 ⟨e35, k36, k37⟩
        replace k36 : F31 = (p_X6_take ((p_X7_advance Fv Av).2.1) ((p_X7_advance Fv Av).2.2)).2.1 := k36
        replace k37 : A32 = (p_X6_take ((p_X7_advance Fv Av).2.1) ((p_X7_advance Fv Av).2.2)).2.2 := k37
        replace e35 : x27.toInt = (p_X6_take ((p_X7_advance Fv Av).2.1) ((p_X7_advance Fv Av).2.2)).2.1 1501 := e35
        replace k36 := k36.symm
        subst k36
        replace k37 := k37.symm
        subst k37
        show am_Ok _ _ _ (77, _, [.inl x27], _, c29, s30) _
        by_cases b38 : x27 = 0
        · refine k_c1 80 rfl rfl (if_pos b38) ?_
          have b38 : (p_X6_take ((p_X7_advance Fv Av).2.1) ((p_X7_advance Fv Av).2.2)).2.1 1501 = 0 := by have h9 := iv_eq0.mp b38; rw [e35] at h9; exact h9
          refine k_iload 81 rfl gs_eq rfl ?_
          exact k_fin rfl rfl ⟨_, _, _, _, _, _, rfl, I33, (by (try rw [e23]); show FFQ (A0 2) F0 A0 ((p_X6_take ((p_X7_advance Fv Av).2.1) ((p_X7_advance Fv Av).2.2)).1) ((p_X6_take ((p_X7_advance Fv Av).2.1) ((p_X7_advance Fv Av).2.2)).2.1) ((p_X6_take ((p_X7_advance Fv Av).2.1) ((p_X7_advance Fv Av).2.2)).2.2); have h9 := ff_done i2 j1 j5 st2 (Or.inr b38); exact h9)⟩
        · refine k_c1 82 rfl rfl (if_neg b38) ?_
          have b38 : ¬ ((p_X6_take ((p_X7_advance Fv Av).2.1) ((p_X7_advance Fv Av).2.2)).2.1 1501 = 0) := by have h9 := mt iv_eq0.mpr b38; rw [e35] at h9; exact h9
          have nx := ff_next i2 j1 st2 b26 b38
          have hc39 : (1 : Int32).toInt = 1 := by decide
          obtain ⟨x40, q41⟩ : ∃ q : Int32, q = u1 + (1 : Int32) := ⟨_, rfl⟩
          have e42 : x40.toInt = (v1 + 1) := bx_add q41 hv1 hc39 (by omega) (by omega)
          refine k_iinc x40 85 rfl (gs_ne rfl rfl g1) q41.symm rfl ?_
          refine k_goto 47 rfl rfl ?_
          exact ih _ (by omega)  (Fv := (p_X6_take ((p_X7_advance Fv Av).2.1) ((p_X7_advance Fv Av).2.2)).2.1) (Av := (p_X6_take ((p_X7_advance Fv Av).2.1) ((p_X7_advance Fv Av).2.2)).2.2) (v1 := (v1 + 1)) rfl (gs_ne rfl rfl (gs_ne rfl rfl g0)) gs_eq e42 I33 (okL_set rfl L34) (by omega) (nx.1) (by obtain ⟨s9, k1, k2, k3, k4, k5⟩ := nx.2; exact ⟨s9, k1, k2, k3, by omega, k5⟩)
      · refine k_c1 80 rfl rfl (if_neg b26) ?_
        have b26 : ¬ ((p_X6_take ((p_X7_advance Fv Av).2.1) ((p_X7_advance Fv Av).2.2)).1 = 0) := by have h9 := mt iv_eq0.mpr b26; rw [e23] at h9; exact h9
        refine k_iload 81 rfl gs_eq rfl ?_
        exact k_fin rfl rfl ⟨_, _, _, _, _, _, rfl, I21, (by (try rw [e23]); show FFQ (A0 2) F0 A0 ((p_X6_take ((p_X7_advance Fv Av).2.1) ((p_X7_advance Fv Av).2.2)).1) ((p_X6_take ((p_X7_advance Fv Av).2.1) ((p_X7_advance Fv Av).2.2)).2.1) ((p_X6_take ((p_X7_advance Fv Av).2.1) ((p_X7_advance Fv Av).2.2)).2.2); exact ff_done i2 j1 j5 st2 (Or.inl b26))⟩
theorem n_X6_findFault {h0 : am_h} {F0 : rf_f} {A0 : xl_A}   (hp2 : ((A0 2).length : Int) ≤ 700) (hR : xR h0 F0 A0) : am_Mt 7 84 [.inr (.inr (some 4))] h0 (xQ h0 (fun x F' A' => FFQ (A0 2) F0 A0 (x) (F') (A'))) := by
  refine am_Mt.of (D := 6) ?_
  have hI : xI h0 (ob_P h0) h0 0 0 F0 A0 := xI.start hR
  have hL : am_okL h0.length (am_args 0 [.inr (.inr (some 4))]) = true := (okA_r hI.T oc4 okA_n)
  refine k_aload 1 rfl rfl rfl ?_
  refine x_gF 15 hI 4 rfl rfl (by decide) rfl ?_
  refine k_xv hI rfl (n_X7_begin    hI.1) rfl rfl rfl (hI.T.rc oc15 rfl) hL so_n ?_
  rintro h44 c45 s46 F47 A48 I49 L50 ⟨k52, k53⟩
  replace k52 := k52.symm
  subst k52
  replace k53 := k53.symm
  subst k53
  show am_Ok _ _ _ (7, _, [], _, c45, s46) _
  refine k_aload 8 rfl rfl rfl ?_
  refine x_gF 5 I49 11 rfl rfl (by decide) rfl ?_
  refine k_push 12 rfl rfl ?_
  have hc54 : (0 : Int32).toInt = 0 := by decide
  refine k_xv I49 rfl (y_cut hc54 I49.1 or5) rfl rfl rfl (ty_H.rc3 I49.T or5) L50 so_n ?_
  rintro h56 c57 s58 F59 A60 I61 L62 ⟨k64, k65⟩
  replace k64 := k64.symm
  subst k64
  replace k65 := k65.symm
  subst k65
  show am_Ok _ _ _ (15, _, [], _, c57, s58) _
  refine k_aload 16 rfl rfl rfl ?_
  refine x_gF 7 I61 19 rfl rfl (by decide) rfl ?_
  refine k_push 20 rfl rfl ?_
  refine k_xv I61 rfl (y_cut hc54 I61.1 or7) rfl rfl rfl (ty_H.rc3 I61.T or7) L62 so_n ?_
  rintro h67 c68 s69 F70 A71 I72 L73 ⟨k75, k76⟩
  replace k75 := k75.symm
  subst k75
  replace k76 := k76.symm
  subst k76
  show am_Ok _ _ _ (23, _, [], _, c68, s69) _
  refine k_aload 24 rfl rfl rfl ?_
  refine x_gF 11 I72 27 rfl rfl (by decide) rfl ?_
  refine k_push 28 rfl rfl ?_
  refine k_xv I72 rfl (y_cut hc54 I72.1 or11) rfl rfl rfl (ty_H.rc3 I72.T or11) L73 so_n ?_
  rintro h78 c79 s80 F81 A82 I83 L84 ⟨k86, k87⟩
  replace k86 := k86.symm
  subst k86
  replace k87 := k87.symm
  subst k87
  show am_Ok _ _ _ (31, _, [], _, c79, s80) _
  refine k_aload 32 rfl rfl rfl ?_
  refine k_push 33 rfl rfl ?_
  refine x_pI (fx_ok := fx_no rfl) I83 36 rfl oc4 rfl rfl rfl rfl (fun h88 I89 l90 => ?_)
  have L91 := okL_eq l90 L84
  have I92 : xI h0 (ob_P h0) h88 c79 s80 (up1 ((p_X7_begin F0 A0).2.1) 410 (0)) (upl ((upl ((upl ((p_X7_begin F0 A0).2.2) 5 (cutl ((p_X7_begin F0 A0).2.2 5) (0)))) 7 (cutl ((p_X7_begin F0 A0).2.2 7) (0)))) 11 (cutl ((p_X7_begin F0 A0).2.2 11) (0))) := by have h9 := I89; rw [hc54] at h9; exact h9
  refine k_aload 37 rfl rfl rfl ?_
  refine k_push 38 rfl rfl ?_
  refine x_pZ (fx_ok := fx_no rfl) I92 41 rfl oc4 rfl rfl rfl (Or.inl rfl) rfl (fun h93 I94 l95 => ?_)
  have L96 := okL_eq l95 L91
  have I97 : xI h0 (ob_P h0) h93 c79 s80 (up1 ((up1 ((p_X7_begin F0 A0).2.1) 410 (0))) 411 (0)) (upl ((upl ((upl ((p_X7_begin F0 A0).2.2) 5 (cutl ((p_X7_begin F0 A0).2.2 5) (0)))) 7 (cutl ((p_X7_begin F0 A0).2.2 7) (0)))) 11 (cutl ((p_X7_begin F0 A0).2.2 11) (0))) := by have h9 := I94; rw [hc54] at h9; exact h9
  refine k_aload 42 rfl rfl rfl ?_
  refine k_xv I97 rfl (n_X6_beginItem    I97.1) rfl rfl rfl (I97.T.rc oc4 rfl) L96 so_n ?_
  rintro h99 c100 s101 F102 A103 I104 L105 ⟨k107, k108⟩
  replace k107 := k107.symm
  subst k107
  replace k108 := k108.symm
  subst k108
  show am_Ok _ _ _ (45, _, [], _, c100, s101) _
  refine k_push 46 rfl rfl ?_
  refine k_istore 47 rfl rfl ?_
  exact yl_X6_findFault_47   hp2 _  (Fv := (p_X6_beginItem ((up1 ((up1 ((p_X7_begin F0 A0).2.1) 410 (0))) 411 (0))) ((upl ((upl ((upl ((p_X7_begin F0 A0).2.2) 5 (cutl ((p_X7_begin F0 A0).2.2 5) (0)))) 7 (cutl ((p_X7_begin F0 A0).2.2 7) (0)))) 11 (cutl ((p_X7_begin F0 A0).2.2 11) (0))))).2.1) (Av := (p_X6_beginItem ((up1 ((up1 ((p_X7_begin F0 A0).2.1) 410 (0))) 411 (0))) ((upl ((upl ((upl ((p_X7_begin F0 A0).2.2) 5 (cutl ((p_X7_begin F0 A0).2.2 5) (0)))) 7 (cutl ((p_X7_begin F0 A0).2.2 7) (0)))) 11 (cutl ((p_X7_begin F0 A0).2.2 11) (0))))).2.2) (v1 := 0) rfl (gs_ne rfl rfl rfl) gs_eq hc54 I104 (okL_set rfl L105) (by omega) (⟨(((((((((fF9.rf.up (by omega)).up (by omega)).up (by omega)).up (by omega)).up (by omega)).up (by omega)).up (by omega)).up (by omega))), (((fA9.rf.up (by omega)).up (by omega)).up (by omega)).up (by omega)⟩) (⟨m_0, Rc.rf, CLq.z rfl hp2 rfl rfl rfl rfl rfl rfl rfl rfl rfl, rfl, by show (0 : Int) ≤ 0; omega, by show (0 : Int) ≤ _; omega⟩)
end
