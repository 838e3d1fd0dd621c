/-! a word; take() -/
section STW
variable {T : List Int} {F F' : rf_f} {A A' : xl_A} {s : mS} {f : Int}
theorem stp_97 (hC : CLr T F A s) (hk : TKq T F s) (ho : tO T (m_e s) = 97) : STP T s F A (p_X6_takeWord F A) := by
  have hst : F 406 = (m_st s : Int) := hC.2.1.1
  have hs4 : m_st s ≤ 4 := hC.2.2.1.1
  have h7 : (T.length : Int) ≤ 700 := hC.1.2
  have h2 : A 2 = T := hC.1.1
  have h10 : F 410 = ((m_ns s).length : Int) := hC.2.1.2.2.1
  have hk2 : (m_ns s).length + m_na s ≤ 12 := hC.2.2.1.2.2.1
  have hk3 : (m_ar s).length ≤ 30 := hC.2.2.1.2.2.2.1
  have h9 : (A 9).length = 2 * (m_ar s).length := hC.2.2.2.1.1
  have h9w : wds T (A 9) 2 (m_ar s).length = m_ar s := hC.2.2.2.1.2.2
  have hnm : wds T (A 7) 5 (m_ns s).length = m_nw s := by
    obtain ⟨-, -, -, -, cs, hc, -, -, m4, -⟩ := hC
    exact m4.2.1
  have hnl : (m_nw s).length = (m_ns s).length := by
    rw [← hnm]
    exact wds_l
  have hb := hk.b (by omega)
  have hbm : bm (F 1503 - F 1502) = tE T (m_e s) - tS T (m_e s) := by
    rw [hk.2.2.1, hk.2.1]
    exact bm_id (by omega) (by omega)
  have hw : slw T (F 1502) (F 1503) = m_w T s := by
    rw [hk.2.1, hk.2.2.1]
    first | done | rfl
  have vf : (p_X6_functionOfWord F A).1 = fi (m_w T s) (m_ar s).reverse := by
    show fi (slw (A 2) (F 1502) (F 1503)) (wds (A 2) (A 9) 2 ((A 9).length / 2)).reverse = _
    rw [h2, hw, show (A 9).length / 2 = (m_ar s).length by omega, h9w]
  have vn : (p_X6_nameOfWord F A).1 = fi (m_w T s) (m_nw s) := by
    show fi (slw (A 2) (F 1502) (F 1503)) (wds (A 2) (A 7) 5 (F 410).toNat) = _
    rw [h2, hw, show (F 410).toNat = (m_ns s).length by omega, hnm]
  have vq : so (A 2) (tS (A 2) (F 1503)) = tO T (tE T (m_e s)) := by
    rw [h2, hk.2.2.1]
    first | done | rfl
  by_cases y8 : 8 < tE T (m_e s) - tS T (m_e s)
  · have e : p_X6_takeWord F A = (2, F, A) := by
      unfold p_X6_takeWord
      rw [hbm, if_neg (by omega)]
    rw [e]
    exact STP.bad hk (ms_w2 ho y8) (by decide)
  by_cases z23 : m_st s = 2 ∨ m_st s = 3
  · have e : p_X6_takeWord F A = p_X6_takeFunctionName F A := by
      unfold p_X6_takeWord
      rw [hbm, if_pos (by omega)]
      by_cases y2 : F 406 = 2
      · rw [if_pos y2]
      · rw [if_neg y2, if_pos (by omega)]
    rw [e]
    exact stp_fn hC hk ho z23 y8
  by_cases zq : m_st s = 0 ∧ tO T (tE T (m_e s)) = 61
  · have q1 : (p_X7_equalsSignIsNext F A).1 = 1 := by
      unfold p_X7_equalsSignIsNext
      rw [vq, if_pos zq.2]
    by_cases f2 : fi (m_w T s) (m_nw s) = -1
    · have e : p_X6_takeWord F A = p_X6_takeNewName 0 F A := by
        unfold p_X6_takeWord
        rw [hbm, if_pos (by omega), if_neg (by omega), if_neg (by omega), if_pos (by omega), if_neg (by omega), if_pos (by omega)]
      rw [e]
      exact stp_nm hC hk ho zq.1 zq.2 y8 (Or.inl ⟨rfl, f2⟩)
    · have e : p_X6_takeWord F A = p_X6_takeNewName 1 F A := by
        unfold p_X6_takeWord
        rw [hbm, if_pos (by omega), if_neg (by omega), if_neg (by omega), if_pos (by omega), if_neg (by omega), if_neg (by omega)]
      rw [e]
      exact stp_nm hC hk ho zq.1 zq.2 y8 (Or.inr ⟨rfl, f2⟩)
  have hs : sA T s := sA_of hs4 (by omega) (fun y => zq ⟨y.1, y.2.2⟩)
  have q0 : F 406 = 0 → (p_X7_equalsSignIsNext F A).1 = 0 := fun y => by
    unfold p_X7_equalsSignIsNext
    rw [vq, if_neg (fun y2 => zq ⟨by omega, y2⟩)]
  by_cases f1 : fi (m_w T s) (m_ar s).reverse = -1
  · by_cases f2 : fi (m_w T s) (m_nw s) = -1
    · have e : p_X6_takeWord F A = (3, F, A) := by
        unfold p_X6_takeWord
        rw [hbm, if_pos (by omega), if_neg (by omega), if_neg (by omega)]
        by_cases y0 : F 406 = 0
        · rw [if_pos y0, if_pos (q0 y0), if_pos (vf.trans f1), if_pos (vn.trans f2)]
        · rw [if_neg y0, if_pos (vf.trans f1), if_pos (vn.trans f2)]
      rw [e]
      exact STP.bad hk (ms_w3 ho y8 hs f1 f2) (by decide)
    · have hn2 : 0 ≤ fi (m_w T s) (m_nw s) ∧ fi (m_w T s) (m_nw s) < ((m_nw s).length : Int) := by
        rcases fi_c (w := m_w T s) (l := m_nw s) with hn | hn
        · exact absurd hn.1 f2
        · exact ⟨hn.1, hn.2.1⟩
      have hv : bm (-11 - (p_X6_nameOfWord F A).1) = -11 - fi (m_w T s) (m_nw s) := by
        rw [vn]
        exact bm_id (by omega) (by omega)
      have e : p_X6_takeWord F A = (0, up1 (p_X6_beginAtom F A).2.1 406 4, addl 5 (p_X6_beginAtom F A).2.2 (-11 - fi (m_w T s) (m_nw s))) := by
        have f3 : ¬ (p_X6_nameOfWord F A).1 = -1 := by rw [vn]; exact f2
        unfold p_X6_takeWord
        rw [hbm, if_pos (by omega), if_neg (by omega), if_neg (by omega)]
        by_cases y0 : F 406 = 0
        · rw [if_pos y0, if_pos (q0 y0), if_pos (vf.trans f1), if_neg f3, if_pos (vf.trans f1), hv]
        · rw [if_neg y0, if_pos (vf.trans f1), if_neg f3, if_pos (vf.trans f1), hv]
      rw [e]
      refine atm_s hC hk (by omega) (ms_nam ho y8 hs f1 f2) (by omega) ?_
      rw [xev_w (by omega), show -11 - (-11 - fi (m_w T s) (m_nw s)) = fi (m_w T s) (m_nw s) by omega]
  · have hf2 : 0 ≤ fi (m_w T s) (m_ar s).reverse ∧ fi (m_w T s) (m_ar s).reverse < ((m_ar s).length : Int) := by
      rcases fi_c (w := m_w T s) (l := (m_ar s).reverse) with hf | hf
      · exact absurd hf.1 f1
      · refine ⟨hf.1, ?_⟩
        have h8 := hf.2.1
        rw [List.length_reverse] at h8
        exact h8
    have hv : bm (2 + (p_X6_functionOfWord F A).1) = 2 + fi (m_w T s) (m_ar s).reverse := by
      rw [vf]
      exact bm_id (by omega) (by omega)
    have f3 : ¬ (p_X6_functionOfWord F A).1 = -1 := by rw [vf]; exact f1
    have e : p_X6_takeWord F A = (0, up1 (p_X6_beginAtom F A).2.1 406 4, addl 5 (p_X6_beginAtom F A).2.2 (2 + fi (m_w T s) (m_ar s).reverse)) := by
      unfold p_X6_takeWord
      rw [hbm, if_pos (by omega), if_neg (by omega), if_neg (by omega)]
      by_cases y0 : F 406 = 0
      · rw [if_pos y0, if_pos (q0 y0), if_neg f3, if_neg f3, hv]
      · rw [if_neg y0, if_neg f3, if_neg f3, hv]
    rw [e]
    exact atm_s hC hk (by omega) (ms_var ho y8 hs f1) (by omega) (xev_p (by omega)).symm
theorem stp_all (hC : CLr T F A s) (hk : TKq T F s) : STP T s F A (p_X6_take F A) := by
  have hst : F 406 = (m_st s : Int) := hC.2.1.1
  have h11 : F 411 = (m_na s : Int) := hC.2.1.2.2.2
  have ht := hk.1
  have hl := cl_op hC
  by_cases z0 : tO T (m_e s) = 0
  · by_cases z : m_st s = 4 ∧ (m_op s).length = 0 ∧ m_na s = 0
    · have hw := whl_1 (F := F) (A := A) (by omega) (by omega)
      have e : p_X6_take F A = (0, F, A) := by
        unfold p_X6_take
        rw [if_pos (by omega), if_neg (by omega), if_pos (by omega)]
      rw [e]
      exact ⟨⟨fF9.rf, fA9.rf⟩, Or.inr ⟨_, ms_en z0 z, rfl, hk.2.1, Or.inr ⟨rfl, ht.trans z0, rfl, hC, z.1, z.2.2⟩⟩⟩
    · have e : p_X6_take F A = (1, F, A) := by
        unfold p_X6_take
        rw [if_pos (by omega)]
        by_cases y : m_st s = 4 ∧ (m_op s).length = 0
        · have hw := whl_1 (F := F) (A := A) (by omega) (by omega)
          rw [if_neg (by omega), if_neg (by omega)]
        · have hw := whl_0 (F := F) (A := A) (by omega)
          rw [if_pos hw]
      rw [e]
      exact STP.bad hk (ms_1 (by omega) (by omega) (by omega) (by omega) (by omega) (by omega) (by omega) (Or.inr z)) (by decide)
  by_cases z1 : tO T (m_e s) = 40
  · have e : p_X6_take F A = p_X6_takeOpening F A := by
      unfold p_X6_take
      rw [if_neg (by omega), if_pos (by omega)]
    rw [e]
    exact stp_40 hC hk z1
  by_cases z2 : tO T (m_e s) = 41
  · have e : p_X6_take F A = p_X6_takeClosing F A := by
      unfold p_X6_take
      rw [if_neg (by omega), if_neg (by omega), if_pos (by omega)]
    rw [e]
    exact stp_41 hC hk z2
  by_cases z3 : tO T (m_e s) = 46
  · have e : p_X6_take F A = p_X6_takePoint F A := by
      unfold p_X6_take
      rw [if_neg (by omega), if_neg (by omega), if_neg (by omega), if_pos (by omega)]
    rw [e]
    exact stp_46 hC hk z3
  by_cases z4 : tO T (m_e s) = 48
  · have e : p_X6_take F A = p_X6_takeNumber F A := by
      unfold p_X6_take
      rw [if_neg (by omega), if_neg (by omega), if_neg (by omega), if_neg (by omega), if_pos (by omega)]
    rw [e]
    exact stp_48 hC hk z4
  by_cases z5 : tO T (m_e s) = 59
  · have e : p_X6_take F A = p_X6_takeSemicolon F A := by
      unfold p_X6_take
      rw [if_neg (by omega), if_neg (by omega), if_neg (by omega), if_neg (by omega), if_neg (by omega), if_pos (by omega)]
    rw [e]
    exact stp_59 hC hk z5
  by_cases z6 : tO T (m_e s) = 92
  · have e : p_X6_take F A = p_X6_takeFunction F A := by
      unfold p_X6_take
      rw [if_neg (by omega), if_neg (by omega), if_neg (by omega), if_neg (by omega), if_neg (by omega), if_neg (by omega), if_pos (by omega)]
    rw [e]
    exact stp_92 hC hk z6
  by_cases z7 : tO T (m_e s) = 97
  · have e : p_X6_take F A = p_X6_takeWord F A := by
      unfold p_X6_take
      rw [if_neg (by omega), if_neg (by omega), if_neg (by omega), if_neg (by omega), if_neg (by omega), if_neg (by omega), if_neg (by omega), if_pos (by omega)]
    rw [e]
    exact stp_97 hC hk z7
  have e : p_X6_take F A = (1, F, A) := by
    unfold p_X6_take
    rw [if_neg (by omega), if_neg (by omega), if_neg (by omega), if_neg (by omega), if_neg (by omega), if_neg (by omega), if_neg (by omega), if_neg (by omega)]
  rw [e]
  exact STP.bad hk (ms_1 z7 (by omega) (by omega) (by omega) (by omega) (by omega) (by omega) (by omega)) (by decide)
theorem tk_pre (hC : CLr T F A s) (hk : TKq T F s) : (0 ≤ F 1502 ∧ F 1502 ≤ F 1503 ∧ F 1503 ≤ ((A 2).length : Int)) ∧ ((A 2).length : Int) ≤ 700 ∧ PW (A 2) (A 9) 2 (((A 9).length : Int) / 2) ∧ PW (A 2) (A 7) 5 (F 410) ∧ (0 ≤ F 410 ∧ F 410 ≤ 12) ∧ ((A 9).length : Int) ≤ 62 ∧ SMQ F A := by
  obtain ⟨⟨h1, h7⟩, ⟨q6, q8, q10, q11⟩, ⟨k0, k1, k2, k3, k4, k5, k6, k7, k8⟩, k9, cs, hc, ⟨m1, m2⟩, m3, m4, m5, m6, m7⟩ := hC
  obtain ⟨t1, t2, t3, t4, t5⟩ := hk
  have hS := tS_b (T := T) t4 t5
  have hE := tE_b (T := T) t4 t5
  rw [h1, t2, t3, q10]
  refine ⟨by omega, h7, ?_, m4.1, by omega, by have := k9.1; omega, fun hna => ?_⟩
  · rw [show ((A 9).length : Int) / 2 = ((m_ar s).length : Int) by have := k9.1; omega]
    exact k9.2.1
  · obtain ⟨-, -, v3⟩ := m5 (by omega)
    rw [q10, v3]
    refine ⟨by omega, fun i i0 i1 => ?_⟩
    have hm : gl (A 5) i ∈ (A 5).drop cs := by
      refine List.mem_of_getElem? (i := i.toNat - cs) ?_
      rw [List.getElem?_drop, show cs + (i.toNat - cs) = i.toNat by omega]
      exact gl_at (by omega) (by omega)
    have hx := m3.2.1 _ hm
    have hp := pe_c m4.hnm hx
    omega
end STW
