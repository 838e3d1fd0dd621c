/-! one token, second half: numbers, names, the whole of take() -/
section STU
variable {T : List Int} {F F' : rf_f} {A A' : xl_A} {s : mS} {f : Int}
theorem sA_of (hs : m_st s ≤ 4) (z : m_st s = 0 ∨ m_st s = 1 ∨ m_st s = 4) (h : ¬ (m_st s = 0 ∧ tO T (m_e s) = 97 ∧ tO T (tE T (m_e s)) = 61)) : sA T s := by
  rcases z with z | z | z
  · exact Or.inl ⟨z, fun y => h ⟨z, y⟩⟩
  · exact Or.inr (Or.inl z)
  · exact Or.inr (Or.inr z)
/-- what an atom's entry leaves -/
theorem atm_s {x : Int} {l : List Int} (hC : CLr T F A s) (hk : TKq T F s) (h0 : tO T (m_e s) ≠ 0) (hm : ms T s = .inl (m_a T s l)) (hx : -11 - ((m_ns s).length : Int) < x) (hl : l = xev (m_ns s) x) : STP T s F A (0, up1 (p_X6_beginAtom F A).2.1 406 4, addl 5 (p_X6_beginAtom F A).2.2 x) := by
  have hb := hk.b h0
  have hB := CLq.bgn9 hC hk.2.2.2.2
  have hB2 := hB
  obtain ⟨⟨b1, b2, b3, b4, b6, b7, b8, b5⟩, ⟨c1, c2, c3, c4, c5⟩, -⟩ := hB
  have fr := ba_fr (F := F) (A := A)
  have h5 : ((A 5).length : Int) ≤ 2 * m_e s := hC.2.2.1.2.2.2.2.2.2.2.1
  have h7 : (T.length : Int) ≤ 700 := hC.1.2
  have h8 := hk.2.2.2.2
  have e5 : addl 5 (p_X6_beginAtom F A).2.2 x 5 = (p_X6_beginAtom F A).2.2 5 ++ [x] := addl_eq (by rw [mo5]; omega)
  have g := CLq.atom (F' := up1 (p_X6_beginAtom F A).2.1 406 4) (A' := addl 5 (p_X6_beginAtom F A).2.2 x) hC hB2 hb.1 hx rfl rfl rfl rfl rfl rfl (addl_ne (by decide)) e5 (addl_ne (by decide)) (addl_ne (by decide)) (addl_ne (by decide))
  rw [← hl] at g
  have fA := fr.2.add (k := 5) (v := x) (Or.inl rfl)
  have fF := fr.1.up (k := 406) (v := 4) (by omega)
  refine STP.lf fF fA hm rfl ?_ g ?_ hb.1 hb.2.1
  · show (p_X6_beginAtom F A).2.1 1501 ≠ 0
    rw [b6, hk.1]
    exact h0
  · show (p_X6_beginAtom F A).2.1 1503 = tE T (m_e s)
    rw [b8, hk.2.2.1]
theorem stp_48 (hC : CLr T F A s) (hk : TKq T F s) (ho : tO T (m_e s) = 48) : STP T s F A (p_X6_takeNumber F A) := by
  have hst : F 406 = (m_st s : Int) := hC.2.1.1
  have hs4 : m_st s ≤ 4 := hC.2.2.1.1
  have h7 : (T.length : Int) ≤ 700 := hC.1.2
  have h2 : A 2 = T := hC.1.1
  have hb := hk.b (by omega)
  by_cases z : m_st s = 0 ∨ m_st s = 1 ∨ m_st s = 4
  · have hd := due_1 (F := F) (A := A) (by omega)
    have hs : sA T s := sA_of hs4 z (by omega)
    have hbm : bm (F 1503 - F 1502) = tE T (m_e s) - tS T (m_e s) := by
      rw [hk.2.2.1, hk.2.1]
      exact bm_id (by omega) (by omega)
    by_cases y : 1 < tE T (m_e s) - tS T (m_e s)
    · have e : p_X6_takeNumber F A = (2, F, A) := by
        unfold p_X6_takeNumber
        rw [if_neg (by omega), hbm, if_neg (by omega)]
      rw [e]
      exact STP.bad hk (ms_n2 ho y hs) (by decide)
    · have hf := so_fg.mp ho
      have hf2 : 48 ≤ gl T (tS T (m_e s)) ∧ gl T (tS T (m_e s)) ≤ 57 := by
        have h9 := hf.2
        unfold figu at h9
        exact of_decide_eq_true h9
      obtain ⟨⟨b1, b2, b3, b4, b6, b7, b8, b5⟩, ⟨c1, c2, c3, c4, c5⟩, -⟩ := CLq.bgn9 hC hk.2.2.2.2
      have e : p_X6_takeNumber F A = (0, up1 (p_X6_beginAtom F A).2.1 406 4, addl 5 (p_X6_beginAtom F A).2.2 (-1 - (gl T (tS T (m_e s)) - 48))) := by
        unfold p_X6_takeNumber
        rw [if_neg (by omega), hbm, if_pos (by omega), c1, h2, b7, hk.2.1, bm_id (a := gl T (tS T (m_e s)) - 48) (by omega) (by omega), bm_id (by omega) (by omega)]
      rw [e]
      refine atm_s hC hk (by omega) (ms_num ho y hs) (by omega) ?_
      rw [xev_n (by omega) (by omega), show -1 - (-1 - (gl T (tS T (m_e s)) - 48)) = gl T (tS T (m_e s)) - 48 by omega]
  · have hd := due_0 (F := F) (A := A) (by omega)
    have e : p_X6_takeNumber F A = (1, F, A) := by
      unfold p_X6_takeNumber
      rw [if_pos hd]
    rw [e]
    have z3 : m_st s = 2 ∨ m_st s = 3 := by omega
    exact STP.bad hk (ms_1 (by omega) (Or.inr z3) (by omega) (by omega) (by omega) (by omega) (by omega) (by omega)) (by decide)
theorem stp_fn (hC : CLr T F A s) (hk : TKq T F s) (ho : tO T (m_e s) = 97) (hst : m_st s = 2 ∨ m_st s = 3) (h8 : ¬ 8 < tE T (m_e s) - tS T (m_e s)) : STP T s F A (p_X6_takeFunctionName F A) := by
  have hb := hk.b (by omega)
  have h9 : (A 9).length = 2 * (m_ar s).length := hC.2.2.2.1.1
  have h5 : ((A 5).length : Int) ≤ 2 * m_e s := hC.2.2.1.2.2.2.2.2.2.2.1
  have h7 : (T.length : Int) ≤ 700 := hC.1.2
  have he := hk.2.2.2.2
  by_cases y : 30 ≤ (m_ar s).length
  · have e : p_X6_takeFunctionName F A = (2, F, A) := if_neg (by omega)
    rw [e]
    exact STP.bad hk (ms_f2 ho hst (Or.inr y)) (by decide)
  · have e : p_X6_takeFunctionName F A = (0, up1 F 406 3, addl 5 (addl 9 (addl 9 A (F 1502)) (F 1503)) 1) := if_pos (by omega)
    rw [e]
    have a1 : addl 9 A (F 1502) 9 = A 9 ++ [F 1502] := addl_eq (by rw [mo9]; omega)
    have a2 : addl 9 (addl 9 A (F 1502)) (F 1503) 9 = A 9 ++ [F 1502, F 1503] := by
      rw [addl_eq (by rw [mo9, a1, List.length_append]; show (((A 9).length + 1 : Nat) : Int) < 62; omega), a1, List.append_assoc]
      first | done | rfl
    have a5 : addl 5 (addl 9 (addl 9 A (F 1502)) (F 1503)) 1 5 = A 5 ++ [1] := by
      have e5 : addl 9 (addl 9 A (F 1502)) (F 1503) 5 = A 5 := by rw [addl_ne (by decide), addl_ne (by decide)]
      rw [addl_eq (by rw [mo5, e5]; omega), e5]
    have an : ∀ k : Nat, k ≠ 5 → k ≠ 9 → addl 5 (addl 9 (addl 9 A (F 1502)) (F 1503)) 1 k = A k := fun k k1 k2 => by rw [addl_ne k1, addl_ne k2, addl_ne k2]
    have hw : slw T (F 1502) (F 1503) = m_w T s := by
      rw [hk.2.1, hk.2.2.1]
      first | done | rfl
    have g := CLq.fn (e' := tE T (m_e s)) (F' := up1 F 406 3) (A' := addl 5 (addl 9 (addl 9 A (F 1502)) (F 1503)) 1) (a := F 1502) (b := F 1503) hC (by omega) hb.1 (by rw [hk.2.1, hk.2.2.1]; omega) rfl rfl rfl rfl rfl rfl (an 2 (by decide) (by decide)) a5 (an 7 (by decide) (by decide)) (by rw [addl_ne (by decide)]; exact a2) (an 11 (by decide) (by decide))
    rw [hw] at g
    have fA := (((fA9.rf (A := A)).add (k := 9) (v := F 1502) (by omega)).add (k := 9) (v := F 1503) (by omega)).add (k := 5) (v := 1) (by omega)
    refine STP.lf (fF9.rf.up (by omega)) fA (ms_fw ho hst h8 y) rfl ?_ g hk.2.2.1 hb.1 hb.2.1
    show F 1501 ≠ 0
    rw [hk.1, ho]
    decide
theorem adv_A : (p_X7_advance F A).2.2 = A := rfl
theorem stp_nm {z : Int} (hC : CLr T F A s) (hk : TKq T F s) (ho : tO T (m_e s) = 97) (hst : m_st s = 0) (h61 : tO T (tE T (m_e s)) = 61) (h8 : ¬ 8 < tE T (m_e s) - tS T (m_e s)) (hz : (z = 0 ∧ fi (m_w T s) (m_nw s) = -1) ∨ (z = 1 ∧ fi (m_w T s) (m_nw s) ≠ -1)) : STP T s F A (p_X6_takeNewName z F A) := by
  have hb := hk.b (by omega)
  have h7 : (T.length : Int) ≤ 700 := hC.1.2
  have h2 : A 2 = T := hC.1.1
  have h10 : F 410 = ((m_ns s).length : Int) := hC.2.1.2.2.1
  have hk2 : (m_ns s).length + m_na s ≤ 12 := hC.2.2.1.2.2.1
  have hk8 : (A 7).length = 5 * (m_ns s).length + 5 * m_na s := hC.2.2.1.2.2.2.2.2.2.2.2
  have hna : m_na s = 0 := by
    obtain ⟨-, -, -, -, cs, hc, -, -, -, -, m6, -⟩ := hC
    exact (m6 hst).2
  by_cases y : (m_ns s).length = 12
  · have e : p_X6_takeNewName z F A = (2, F, A) := if_pos (by omega)
    rw [e]
    exact STP.bad hk (ms_t2 ho hst h61 (Or.inr y)) (by decide)
  · rcases hz with ⟨hz, hx⟩ | ⟨hz, hx⟩
    · have q5 : ∀ (B : xl_A) (v : Int), addl 7 B v 5 = B 5 := fun B v => addl_ne (by decide)
      have e : p_X6_takeNewName z F A = (0, up1 (p_X7_advance (up1 F 411 1) (addl 7 (addl 7 (addl 7 (addl 7 (addl 7 A (F 1502)) (F 1503)) ((A 5).length : Int)) 0) 0)).2.1 406 1, addl 7 (addl 7 (addl 7 (addl 7 (addl 7 A (F 1502)) (F 1503)) ((A 5).length : Int)) 0) 0) := by
        unfold p_X6_takeNewName
        rw [if_neg (by omega), if_pos hz, q5, q5, adv_A]
      have h9 : ∀ (B : xl_A) (v : Int) (k : Nat), (B 7).length = k → k < 65 → addl 7 B v 7 = B 7 ++ [v] ∧ (addl 7 B v 7).length = k + 1 := fun B v k hk1 hk2 => by
        have e1 : addl 7 B v 7 = B 7 ++ [v] := addl_eq (by rw [mo7]; omega)
        refine ⟨e1, ?_⟩
        rw [e1, List.length_append, hk1]
        first | done | rfl
      obtain ⟨r1, l1⟩ := h9 A (F 1502) _ rfl (by omega)
      obtain ⟨r2, l2⟩ := h9 (addl 7 A (F 1502)) (F 1503) _ l1 (by omega)
      obtain ⟨r3, l3⟩ := h9 (addl 7 (addl 7 A (F 1502)) (F 1503)) ((A 5).length : Int) _ l2 (by omega)
      obtain ⟨r4, l4⟩ := h9 (addl 7 (addl 7 (addl 7 A (F 1502)) (F 1503)) ((A 5).length : Int)) 0 _ l3 (by omega)
      obtain ⟨r5, l5⟩ := h9 (addl 7 (addl 7 (addl 7 (addl 7 A (F 1502)) (F 1503)) ((A 5).length : Int)) 0) 0 _ l4 (by omega)
      rw [r4, r3, r2, r1] at r5
      have an : ∀ k : Nat, k ≠ 7 → addl 7 (addl 7 (addl 7 (addl 7 (addl 7 A (F 1502)) (F 1503)) ((A 5).length : Int)) 0) 0 k = A k := fun k k1 => by rw [addl_ne k1, addl_ne k1, addl_ne k1, addl_ne k1, addl_ne k1]
      have hw : slw T (F 1502) (F 1503) = m_w T s := by
        rw [hk.2.1, hk.2.2.1]
        first | done | rfl
      have h13 : F 1503 = tE T (m_e s) := hk.2.2.1
      have ad : p_X7_advance (up1 F 411 1) (addl 7 (addl 7 (addl 7 (addl 7 (addl 7 A (F 1502)) (F 1503)) ((A 5).length : Int)) 0) 0) = (0, up1 (up1 (up1 (up1 F 411 1) 1502 (tS T (tE T (m_e s)))) 1501 (tO T (tE T (m_e s)))) 1503 (tE T (tE T (m_e s))), addl 7 (addl 7 (addl 7 (addl 7 (addl 7 A (F 1502)) (F 1503)) ((A 5).length : Int)) 0) 0) := by
        unfold p_X7_advance
        rw [an 2 (by decide), h2, show up1 F 411 1 1503 = tE T (m_e s) from h13]
      have hE2 := tE_b (T := T) (e := tE T (m_e s)) (by have := hk.2.2.2.1; omega) hb.2.1
      have hS2 := tS_b (T := T) (e := tE T (m_e s)) (by have := hk.2.2.2.1; omega) hb.2.1
      have hE3 := hE2.2.2 (by rw [h61]; decide)
      have hC0 : CLq T F A (m_st s) (m_e s) (m_c s) (m_ch s) (m_at s) (m_ns s) (m_nw s) (m_ar s) (m_op s) (m_na s) (m_nv s) := hC
      rw [hst] at hC0
      rw [e, ad]
      have g := CLq.nam (e' := tE T (tE T (m_e s))) (F' := up1 (up1 (up1 (up1 (up1 F 411 1) 1502 (tS T (tE T (m_e s)))) 1501 (tO T (tE T (m_e s)))) 1503 (tE T (tE T (m_e s)))) 406 1) (A' := addl 7 (addl 7 (addl 7 (addl 7 (addl 7 A (F 1502)) (F 1503)) ((A 5).length : Int)) 0) 0) (a := F 1502) (b := F 1503) hC0 (by omega) (by omega) (by rw [hk.2.1, hk.2.2.1]; omega) rfl rfl rfl rfl rfl rfl (an 2 (by decide)) (an 5 (by decide)) r5 (an 9 (by decide)) (an 11 (by decide))
      rw [hw] at g
      have fA := (((((fA9.rf (A := A)).add (k := 7) (v := F 1502) (by omega)).add (k := 7) (v := F 1503) (by omega)).add (k := 7) (v := ((A 5).length : Int)) (by omega)).add (k := 7) (v := 0) (by omega)).add (k := 7) (v := 0) (by omega)
      have fF := (((((fF9.rf (F := F)).up (k := 411) (v := 1) (by omega)).up (k := 1502) (v := tS T (tE T (m_e s))) (by omega)).up (k := 1501) (v := tO T (tE T (m_e s))) (by omega)).up (k := 1503) (v := tE T (tE T (m_e s))) (by omega)).up (k := 406) (v := 1) (by omega)
      refine STP.lf fF fA (ms_te ho hst h61 h8 y hx) rfl ?_ g rfl ?_ hE2.2.1
      · show tO T (tE T (m_e s)) ≠ 0
        rw [h61]
        decide
      · show m_e s + 1 ≤ tE T (tE T (m_e s))
        omega
    · have e : p_X6_takeNewName z F A = (4, F, A) := by
        unfold p_X6_takeNewName
        rw [if_neg (by omega), if_neg (by omega)]
      rw [e]
      exact STP.bad hk (ms_t4 ho hst h61 h8 y hx) (by decide)
theorem stp_59 (hC : CLr T F A s) (hk : TKq T F s) (ho : tO T (m_e s) = 59) : STP T s F A (p_X6_takeSemicolon F A) := by
  have hst : F 406 = (m_st s : Int) := hC.2.1.1
  have h11 : F 411 = (m_na s : Int) := hC.2.1.2.2.2
  have hna : m_na s ≤ 1 := hC.2.2.1.2.1
  have hb := hk.b (by omega)
  have hl := cl_op hC
  by_cases z : m_st s = 4 ∧ (m_op s).length = 0 ∧ m_na s = 1
  · have hw := whl_1 (F := F) (A := A) (by omega) (by omega)
    have h10 : (m_op s) = [] := List.eq_nil_of_length_eq_zero z.2.1
    have h : CLq T F A (m_st s) (m_e s) (m_c s) (m_ch s) (m_at s) (m_ns s) (m_nw s) (m_ar s) (m_op s) (m_na s) (m_nv s) := hC
    rw [z.1, h10, z.2.2] at h
    have g := h.sem (e' := tE T (m_e s)) (ch' := m_ch s) (nv' := m_nv s) (F' := (p_X6_takeSemicolon F A).2.1) (A' := (p_X6_takeSemicolon F A).2.2) (by omega) rfl
    have e : p_X6_takeSemicolon F A = (0, (p_X6_takeSemicolon F A).2.1, (p_X6_takeSemicolon F A).2.2) := by
      unfold p_X6_takeSemicolon
      rw [if_neg (by omega), if_neg (by omega)]
      first | done | rfl
    have e1 : (p_X6_takeSemicolon F A).2.1 = up1 (up1 (up1 (up1 (up1 F 410 (F 410 + 1)) 411 0) 408 0) 409 ((A 5).length : Int)) 406 0 := by
      unfold p_X6_takeSemicolon
      rw [if_neg (by omega), if_neg (by omega)]
      first | done | rfl
    have e2 : (p_X6_takeSemicolon F A).2.2 = upl (upl (upl A 7 (ssl (A 7) (5 * F 410 + 3) ((A 5).length : Int))) 7 (ssl (ssl (A 7) (5 * F 410 + 3) ((A 5).length : Int)) (5 * F 410 + 4) (pk (ssl (A 7) (5 * F 410 + 3) ((A 5).length : Int)) (sg (A 5) (gl (ssl (A 7) (5 * F 410 + 3) ((A 5).length : Int)) (5 * F 410 + 2)) ((A 5).length : Int)) 0))) 9 (cutl (A 9) 0) := by
      unfold p_X6_takeSemicolon
      rw [if_neg (by omega), if_neg (by omega)]
      first | done | rfl
    have m_a5 : m_op s = [] := h10
    have hm := ms_sc ho z
    rw [h10] at hm
    have g2 := g (by rw [e1]; rfl) (by rw [e1]; rfl) (by rw [e1]; rfl) (by rw [e1]; rfl) (by rw [e1]; rfl) (by rw [e2]; rfl) (by rw [e2]; rfl) (by rw [e2]; rfl) (by rw [e2]; rfl) (by rw [e2]; rfl)
    rw [e]
    refine STP.lf ?_ ?_ hm rfl ?_ g2 ?_ hb.1 hb.2.1
    · show fF9 F (p_X6_takeSemicolon F A).2.1
      rw [e1]
      exact ((((fF9.rf.up (by omega)).up (by omega)).up (by omega)).up (by omega)).up (by omega)
    · show fA9 A (p_X6_takeSemicolon F A).2.2
      rw [e2]
      exact ((fA9.rf.up (by omega)).up (by omega)).up (by omega)
    · show (p_X6_takeSemicolon F A).2.1 1501 ≠ 0
      rw [e1]
      show F 1501 ≠ 0
      rw [hk.1, ho]
      decide
    · show (p_X6_takeSemicolon F A).2.1 1503 = tE T (m_e s)
      rw [e1]
      exact hk.2.2.1
  · have e : p_X6_takeSemicolon F A = (1, F, A) := by
      unfold p_X6_takeSemicolon
      by_cases y : m_st s = 4 ∧ (m_op s).length = 0
      · have hw := whl_1 (F := F) (A := A) (by omega) (by omega)
        rw [if_neg (by omega), if_pos (by omega)]
      · have hw := whl_0 (F := F) (A := A) (by omega)
        rw [if_pos hw]
    rw [e]
    exact STP.bad hk (ms_1 (by omega) (by omega) (by omega) (by omega) (by omega) (by omega) (Or.inr z) (by omega)) (by decide)
end STU
