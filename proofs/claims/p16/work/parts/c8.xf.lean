/-! one token, as the class takes it, against the machine's step -/
def TKq (T : List Int) (F : rf_f) (s : mS) : Prop := F 1501 = tO T (m_e s) ∧ F 1502 = tS T (m_e s) ∧ F 1503 = tE T (m_e s) ∧ 0 ≤ m_e s ∧ m_e s ≤ (T.length : Int)
def STP (T : List Int) (s : mS) (F : rf_f) (A : xl_A) (p : Int × rf_f × xl_A) : Prop := (fF9 F p.2.1 ∧ fA9 A p.2.2) ∧ ((∃ s' : mS, ms T s = .inl s' ∧ p.1 = 0 ∧ p.2.1 1501 ≠ 0 ∧ CLr T p.2.1 p.2.2 s' ∧ p.2.1 1503 = m_e s' ∧ m_e s + 1 ≤ m_e s' ∧ m_e s' ≤ (T.length : Int)) ∨ (∃ r : Int × Int × List Int, ms T s = .inr r ∧ p.1 = r.1 ∧ p.2.1 1502 = r.2.1 ∧ (r.1 ≠ 0 ∨ (r.1 = 0 ∧ p.2.1 1501 = 0 ∧ r.2.2 = m_c s ∧ CLr T p.2.1 p.2.2 s ∧ m_st s = 4 ∧ m_na s = 0))))
section STS
variable {T : List Int} {F F' : rf_f} {A A' : xl_A} {s : mS} {f : Int}
theorem STP.bad (hk : TKq T F s) (h : ms T s = .inr (f, tS T (m_e s), [])) (hf : f ≠ 0) : STP T s F A (f, F, A) := ⟨⟨fF9.rf, fA9.rf⟩, Or.inr ⟨_, h, rfl, hk.2.1, Or.inl hf⟩⟩
theorem STP.lf {x : Int} {s' : mS} (hf : fF9 F F') (ha : fA9 A A') (h : ms T s = .inl s') (hx : x = 0) (h1 : F' 1501 ≠ 0) (hc : CLr T F' A' s') (h3 : F' 1503 = m_e s') (h4 : m_e s + 1 ≤ m_e s') (h5 : m_e s' ≤ (T.length : Int)) : STP T s F A (x, F', A') := ⟨⟨hf, ha⟩, Or.inl ⟨s', h, hx, h1, hc, h3, h4, h5⟩⟩
theorem TKq.b (hk : TKq T F s) (h0 : tO T (m_e s) ≠ 0) : m_e s + 1 ≤ tE T (m_e s) ∧ tE T (m_e s) ≤ (T.length : Int) ∧ (0 ≤ tS T (m_e s) ∧ tS T (m_e s) ≤ tE T (m_e s)) := by
  have h1 := tS_b (T := T) hk.2.2.2.1 hk.2.2.2.2
  have h2 := tE_b (T := T) hk.2.2.2.1 hk.2.2.2.2
  have h3 := h2.2.2 h0
  have h4 := hk.2.2.2.1
  omega
theorem stp_92 (hC : CLr T F A s) (hk : TKq T F s) (ho : tO T (m_e s) = 92) : STP T s F A (p_X6_takeFunction F A) := by
  have hst : F 406 = (m_st s : Int) := hC.2.1.1
  have hb := hk.b (by omega)
  by_cases z : m_st s = 0 ∨ m_st s = 1
  · have e : p_X6_takeFunction F A = (0, up1 F 406 2, A) := by
      unfold p_X6_takeFunction
      by_cases y : F 406 = 0
      · rw [if_pos y]
      · rw [if_neg y, if_pos (by omega)]
    rw [e]
    refine ⟨⟨fF9.rf.up (by omega), fA9.rf⟩, Or.inl ⟨_, ms_bs ho z, rfl, ?_, CLq.go (k := 2) (e' := tE T (m_e s)) hC (by decide) (by omega) rfl rfl rfl rfl rfl rfl, hk.2.2.1, hb.1, hb.2.1⟩⟩
    show F 1501 ≠ 0
    rw [hk.1, ho]
    decide
  · have e : p_X6_takeFunction F A = (1, F, A) := by
      unfold p_X6_takeFunction
      rw [if_neg (by omega), if_neg (by omega)]
    rw [e]
    exact STP.bad hk (ms_1 (by omega) (by omega) (by omega) (by omega) (Or.inr z) (by omega) (by omega) (by omega)) (by decide)
theorem stp_46 (hC : CLr T F A s) (hk : TKq T F s) (ho : tO T (m_e s) = 46) : STP T s F A (p_X6_takePoint F A) := by
  have hst : F 406 = (m_st s : Int) := hC.2.1.1
  have hb := hk.b (by omega)
  by_cases z : m_st s = 3
  · have e : p_X6_takePoint F A = (0, up1 F 406 1, A) := if_pos (by omega)
    rw [e]
    refine ⟨⟨fF9.rf.up (by omega), fA9.rf⟩, Or.inl ⟨_, ms_pt ho z, rfl, ?_, CLq.go (k := 1) (e' := tE T (m_e s)) hC (by decide) (by omega) rfl rfl rfl rfl rfl rfl, hk.2.2.1, hb.1, hb.2.1⟩⟩
    show F 1501 ≠ 0
    rw [hk.1, ho]
    decide
  · have e : p_X6_takePoint F A = (1, F, A) := if_neg (by omega)
    rw [e]
    exact STP.bad hk (ms_1 (by omega) (by omega) (by omega) (by omega) (by omega) (Or.inr z) (by omega) (by omega)) (by decide)
theorem cl_op (hC : CLr T F A s) : (A 11).length = 3 * (m_op s).length := by
  obtain ⟨-, -, -, -, cs, hc, -, m3, -⟩ := hC
  exact m3.2.2.2.2.2.len
theorem stp_41 (hC : CLr T F A s) (hk : TKq T F s) (ho : tO T (m_e s) = 41) : STP T s F A (p_X6_takeClosing F A) := by
  have hst : F 406 = (m_st s : Int) := hC.2.1.1
  have hb := hk.b (by omega)
  have hl := cl_op hC
  by_cases z : m_st s = 4
  · by_cases y : (m_op s).length = 0
    · have e : p_X6_takeClosing F A = (1, F, A) := by
        unfold p_X6_takeClosing
        rw [if_pos (by omega), if_pos (by omega)]
      rw [e]
      exact STP.bad hk (ms_1 (by omega) (by omega) (by omega) (Or.inr (Or.inr y)) (by omega) (by omega) (by omega) (by omega)) (by decide)
    · have hm := ms_cl ho z y
      cases hop : m_op s with
      | nil =>
        rw [hop] at y
        exact absurd rfl y
      | cons o op =>
        rw [hop] at hm
        have h : CLq T F A (m_st s) (m_e s) (m_c s) (m_ch s) (m_at s) (m_ns s) (m_nw s) (m_ar s) (m_op s) (m_na s) (m_nv s) := hC
        rw [z, hop] at h
        obtain ⟨O', q, e11, K⟩ := h.clo (e' := tE T (m_e s)) (by omega)
        have d1 : (A 11).dropLast = (O' ++ [((q : Nat) : Int)]) ++ [(o.2.1 : Int)] := by rw [e11, List.dropLast_concat]
        have d2 : (A 11).dropLast.dropLast = O' ++ [((q : Nat) : Int)] := by rw [d1, List.dropLast_concat]
        have d3 : (A 11).dropLast.dropLast.dropLast = O' := by rw [d2, List.dropLast_concat]
        have g1 : (A 11).getLastD 0 = 2 * (o.2.2 : Int) := by rw [e11, List.getLastD_concat]
        have g2 : (A 11).dropLast.getLastD 0 = (o.2.1 : Int) := by rw [d1, List.getLastD_concat]
        have g3 : (A 11).dropLast.dropLast.getLastD 0 = (q : Int) := by rw [d2, List.getLastD_concat]
        have hc : cutl (A 9) (2 * (o.2.2 : Int)) = (A 9).take (2 * o.2.2) := by
          unfold cutl
          rw [if_pos (by omega), show (2 * (o.2.2 : Int)).toNat = 2 * o.2.2 by omega]
        have e : p_X6_takeClosing F A = (0, up1 (up1 F 408 (o.2.1 : Int)) 407 (q : Int), upl (upl (upl (upl A 11 (A 11).dropLast) 9 ((A 9).take (2 * o.2.2))) 11 (A 11).dropLast.dropLast) 11 O') := by
          have hl2 : ¬ (((A 11).length : Nat) : Int) = 0 := by omega
          unfold p_X6_takeClosing
          rw [if_pos (by omega), if_neg hl2, g1, g2, g3, d3, hc]
        rw [e]
        refine ⟨⟨(fF9.rf.up (by omega)).up (by omega), (((fA9.rf.up (by omega)).up (by omega)).up (by omega)).up (by omega)⟩, Or.inl ⟨_, hm, rfl, ?_, K _ _ rfl rfl rfl rfl rfl rfl rfl rfl rfl rfl rfl, hk.2.2.1, hb.1, hb.2.1⟩⟩
        show F 1501 ≠ 0
        rw [hk.1, ho]
        decide
  · have e : p_X6_takeClosing F A = (1, F, A) := if_neg (by omega)
    rw [e]
    exact STP.bad hk (ms_1 (by omega) (by omega) (by omega) (Or.inr (Or.inl z)) (by omega) (by omega) (by omega) (by omega)) (by decide)
theorem due_1 (h : F 406 = 0 ∨ F 406 = 1 ∨ F 406 = 4) : (p_X6_isAtomDue F A).1 = 1 := by
  unfold p_X6_isAtomDue
  by_cases y : F 406 = 0
  · rw [if_pos y]
  · rw [if_neg y]
    by_cases y1 : F 406 = 1
    · rw [if_pos y1]
    · rw [if_neg y1, if_pos (by omega)]
theorem due_0 (h : ¬ (F 406 = 0 ∨ F 406 = 1 ∨ F 406 = 4)) : (p_X6_isAtomDue F A).1 = 0 := by
  unfold p_X6_isAtomDue
  rw [if_neg (by omega), if_neg (by omega), if_neg (by omega)]
theorem whl_1 (h : F 406 = 4) (h2 : (A 11).length = 0) : (p_X6_isWhole F A).1 = 1 := by
  unfold p_X6_isWhole
  rw [if_pos h, if_pos (by omega)]
theorem whl_0 (h : ¬ (F 406 = 4 ∧ (A 11).length = 0)) : (p_X6_isWhole F A).1 = 0 := by
  unfold p_X6_isWhole
  by_cases y : F 406 = 4
  · rw [if_pos y, if_neg (by omega)]
  · rw [if_neg y]
theorem ba_fr : fF9 F (p_X6_beginAtom F A).2.1 ∧ fA9 A (p_X6_beginAtom F A).2.2 := by
  unfold p_X6_beginAtom
  split
  · exact ⟨(fF9.rf.up (by omega)).up (by omega), fA9.rf⟩
  · exact ⟨fF9.rf.up (by omega), fA9.rf.ins (by omega)⟩
theorem stp_40 (hC : CLr T F A s) (hk : TKq T F s) (ho : tO T (m_e s) = 40) : STP T s F A (p_X6_takeOpening F A) := by
  have hst : F 406 = (m_st s : Int) := hC.2.1.1
  have hb := hk.b (by omega)
  have hl := cl_op hC
  by_cases z : m_st s = 0 ∨ m_st s = 1 ∨ m_st s = 4
  · have hd := due_1 (F := F) (A := A) (by omega)
    have hs : sA T s := by
      rcases z with z | z | z
      · exact Or.inl ⟨z, fun y => by omega⟩
      · exact Or.inr (Or.inl z)
      · exact Or.inr (Or.inr z)
    by_cases y : 12 ≤ (m_op s).length
    · have e : p_X6_takeOpening F A = (2, F, A) := by
        unfold p_X6_takeOpening
        rw [if_neg (by omega), if_neg (by omega)]
      rw [e]
      exact STP.bad hk (ms_o2 ho y hs) (by decide)
    · have hB := CLq.bgn9 hC hk.2.2.2.2
      have hB2 := hB
      obtain ⟨⟨b1, b2, b3, b4, b6, b7, b8, b5⟩, ⟨c1, c2, c3, c4, c5⟩, -⟩ := hB
      have e : p_X6_takeOpening F A = (0, up1 (up1 (p_X6_beginAtom F A).2.1 408 0) 406 1, addl 11 (addl 11 (addl 11 (p_X6_beginAtom F A).2.2 ((p_X6_beginAtom F A).2.1 407)) ((p_X6_beginAtom F A).2.1 408)) (((p_X6_beginAtom F A).2.2 9).length : Int)) := by
        unfold p_X6_takeOpening
        rw [if_neg (by omega), if_pos (by omega), addl_ne (show 9 ≠ 11 by decide), addl_ne (show 9 ≠ 11 by decide)]
      rw [e]
      have l1 : (((p_X6_beginAtom F A).2.2 11).length : Int) ≤ 33 := by
        rw [c4]
        omega
      have a1 : addl 11 (p_X6_beginAtom F A).2.2 ((p_X6_beginAtom F A).2.1 407) 11 = (p_X6_beginAtom F A).2.2 11 ++ [(p_X6_beginAtom F A).2.1 407] := addl_eq (by rw [mo11]; omega)
      have a2 : addl 11 (addl 11 (p_X6_beginAtom F A).2.2 ((p_X6_beginAtom F A).2.1 407)) ((p_X6_beginAtom F A).2.1 408) 11 = ((p_X6_beginAtom F A).2.2 11 ++ [(p_X6_beginAtom F A).2.1 407]) ++ [(p_X6_beginAtom F A).2.1 408] := by
        rw [addl_eq (by rw [mo11, a1, List.length_append]; show (((((p_X6_beginAtom F A).2.2 11).length + 1 : Nat)) : Int) < 36; omega), a1]
      have a3 : ∀ v : Int, addl 11 (addl 11 (addl 11 (p_X6_beginAtom F A).2.2 ((p_X6_beginAtom F A).2.1 407)) ((p_X6_beginAtom F A).2.1 408)) v 11 = (((p_X6_beginAtom F A).2.2 11 ++ [(p_X6_beginAtom F A).2.1 407]) ++ [(p_X6_beginAtom F A).2.1 408]) ++ [v] := fun v => by
        rw [addl_eq (by rw [mo11, a2, List.length_append, List.length_append]; show (((((p_X6_beginAtom F A).2.2 11).length + 1 + 1 : Nat)) : Int) < 36; omega), a2]
      have an : ∀ (k : Nat) (v : Int), k ≠ 11 → addl 11 (addl 11 (addl 11 (p_X6_beginAtom F A).2.2 ((p_X6_beginAtom F A).2.1 407)) ((p_X6_beginAtom F A).2.1 408)) v k = (p_X6_beginAtom F A).2.2 k := fun k v hk => by rw [addl_ne hk, addl_ne hk, addl_ne hk]
      have fr := ba_fr (F := F) (A := A)
      have fA := ((fr.2.add (k := 11) (v := (p_X6_beginAtom F A).2.1 407) (Or.inr (Or.inr (Or.inr rfl)))).add (k := 11) (v := (p_X6_beginAtom F A).2.1 408) (Or.inr (Or.inr (Or.inr rfl)))).add (k := 11) (v := (((p_X6_beginAtom F A).2.2 9).length : Int)) (Or.inr (Or.inr (Or.inr rfl)))
      have fF := (fr.1.up (k := 408) (v := 0) (by omega)).up (k := 406) (v := 1) (by omega)
      refine STP.lf fF fA (ms_op ho y hs) rfl ?_ (CLq.opn hC hB2 hb.1 (by omega) rfl rfl rfl rfl rfl (an 2 _ (by decide)) (an 5 _ (by decide)) (an 7 _ (by decide)) (an 9 _ (by decide)) (a3 _)) ?_ hb.1 hb.2.1
      · show (p_X6_beginAtom F A).2.1 1501 ≠ 0
        rw [b6, hk.1, ho]
        decide
      · show (p_X6_beginAtom F A).2.1 1503 = tE T (m_e s)
        rw [b8, hk.2.2.1]
  · have hd := due_0 (F := F) (A := A) (by omega)
    have e : p_X6_takeOpening F A = (1, F, A) := by
      unfold p_X6_takeOpening
      rw [if_pos hd]
    rw [e]
    have z4 : m_st s ≤ 4 := hC.2.2.1.1
    have z3 : m_st s = 2 ∨ m_st s = 3 := by omega
    exact STP.bad hk (ms_1 (by omega) (by omega) (Or.inr z3) (by omega) (by omega) (by omega) (by omega) (by omega)) (by decide)
end STS
