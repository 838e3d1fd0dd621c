/-! one token, as the machine takes it -/
def RS (s : mS) (c : List Int) (f18 f20 f21 f23 : Int) (a15 a16 a17 a19 a22 : Int → Int) : Prop := CU c f23 a22 ∧ NR (m_ns s) (m_nw s) f18 a15 a16 a17 ∧ BD (m_ar s) f20 a19 ∧ f21 = ((m_op s).length : Int) ∧ (m_op s).length ≤ 12
def sA (T : List Int) (s : mS) : Prop := (m_st s = 0 ∧ ¬ (tO T (m_e s) = 97 ∧ tO T (tE T (m_e s)) = 61)) ∨ m_st s = 1 ∨ m_st s = 4
section MS
variable {T : List Int} {s : mS}
theorem ms_w2 (h : tO T (m_e s) = 97) (h1 : 8 < tE T (m_e s) - tS T (m_e s)) : ms T s = .inr (2, tS T (m_e s), []) := by
  unfold ms
  rw [if_pos h, if_pos h1]
theorem ms_var (h : tO T (m_e s) = 97) (h1 : ¬ 8 < tE T (m_e s) - tS T (m_e s)) (h2 : sA T s) (h3 : fi (m_w T s) (m_ar s).reverse ≠ -1) : ms T s = .inl (m_a T s [2 + fi (m_w T s) (m_ar s).reverse]) := by
  unfold sA at h2
  unfold ms
  rw [if_pos h, if_neg h1, if_neg (by omega), if_neg (by omega), if_pos h3]
theorem ms_nam (h : tO T (m_e s) = 97) (h1 : ¬ 8 < tE T (m_e s) - tS T (m_e s)) (h2 : sA T s) (h3 : fi (m_w T s) (m_ar s).reverse = -1) (h4 : fi (m_w T s) (m_nw s) ≠ -1) : ms T s = .inl (m_a T s ((m_ns s).getD (fi (m_w T s) (m_nw s)).toNat [])) := by
  unfold sA at h2
  unfold ms
  rw [if_pos h, if_neg h1, if_neg (by omega), if_neg (by omega), if_neg (by omega), if_pos h4]
theorem ms_w3 (h : tO T (m_e s) = 97) (h1 : ¬ 8 < tE T (m_e s) - tS T (m_e s)) (h2 : sA T s) (h3 : fi (m_w T s) (m_ar s).reverse = -1) (h4 : fi (m_w T s) (m_nw s) = -1) : ms T s = .inr (3, tS T (m_e s), []) := by
  unfold sA at h2
  unfold ms
  rw [if_pos h, if_neg h1, if_neg (by omega), if_neg (by omega), if_neg (by omega), if_neg (by omega)]
theorem ms_n2 (h : tO T (m_e s) = 48) (h1 : 1 < tE T (m_e s) - tS T (m_e s)) (h2 : sA T s) : ms T s = .inr (2, tS T (m_e s), []) := by
  unfold sA at h2
  unfold ms
  rw [if_neg (by omega), if_pos h, if_pos (by omega), if_pos h1]
theorem ms_num (h : tO T (m_e s) = 48) (h1 : ¬ 1 < tE T (m_e s) - tS T (m_e s)) (h2 : sA T s) : ms T s = .inl (m_a T s (nul (gl T (tS T (m_e s)) - 48).toNat ++ [2])) := by
  unfold sA at h2
  unfold ms
  rw [if_neg (by omega), if_pos h, if_pos (by omega), if_neg h1]
theorem ms_o2 (h : tO T (m_e s) = 40) (h1 : 12 ≤ (m_op s).length) (h2 : sA T s) : ms T s = .inr (2, tS T (m_e s), []) := by
  unfold sA at h2
  unfold ms
  rw [if_neg (by omega), if_neg (by omega), if_pos h, if_pos (by omega), if_pos h1]
theorem ms_op (h : tO T (m_e s) = 40) (h1 : ¬ 12 ≤ (m_op s).length) (h2 : sA T s) : ms T s = .inl (1, tE T (m_e s), m_B s, m_ch s, 0, m_ns s, m_nw s, m_ar s, (bc (m_c s) (m_ch s) (m_at s), m_at s + 1, (m_ar s).length) :: m_op s, m_na s, m_nv s) := by
  unfold sA at h2
  unfold ms
  rw [if_neg (by omega), if_neg (by omega), if_pos h, if_pos (by omega), if_neg h1]
theorem ms_cl (h : tO T (m_e s) = 41) (h1 : m_st s = 4) (h2 : (m_op s).length ≠ 0) : ms T s = .inl (4, tE T (m_e s), m_c s, ((m_op s).headD (0, 0, 0)).1, ((m_op s).headD (0, 0, 0)).2.1, m_ns s, m_nw s, (m_ar s).take ((m_op s).headD (0, 0, 0)).2.2, (m_op s).tail, m_na s, m_nv s) := by
  unfold ms
  rw [if_neg (by omega), if_neg (by omega), if_neg (by omega), if_pos h, if_pos ⟨h1, h2⟩]
/-- a token that can't stand there -/
theorem ms_1 (h97 : tO T (m_e s) ≠ 97) (h48 : tO T (m_e s) ≠ 48 ∨ m_st s = 2 ∨ m_st s = 3) (h40 : tO T (m_e s) ≠ 40 ∨ m_st s = 2 ∨ m_st s = 3) (h41 : tO T (m_e s) ≠ 41 ∨ m_st s ≠ 4 ∨ (m_op s).length = 0) (h92 : tO T (m_e s) ≠ 92 ∨ ¬ (m_st s = 0 ∨ m_st s = 1)) (h46 : tO T (m_e s) ≠ 46 ∨ m_st s ≠ 3) (h59 : tO T (m_e s) ≠ 59 ∨ ¬ (m_st s = 4 ∧ (m_op s).length = 0 ∧ m_na s = 1)) (h0 : tO T (m_e s) ≠ 0 ∨ ¬ (m_st s = 4 ∧ (m_op s).length = 0 ∧ m_na s = 0)) : ms T s = .inr (1, tS T (m_e s), []) := by
  unfold ms
  rw [if_neg h97]
  by_cases z48 : tO T (m_e s) = 48
  · rw [if_pos z48, if_neg (by omega)]
  · rw [if_neg z48]
    by_cases z40 : tO T (m_e s) = 40
    · rw [if_pos z40, if_neg (by omega)]
    · rw [if_neg z40]
      by_cases z41 : tO T (m_e s) = 41
      · rw [if_pos z41, if_neg (by omega)]
      · rw [if_neg z41]
        by_cases z92 : tO T (m_e s) = 92
        · rw [if_pos z92, if_neg (by omega)]
        · rw [if_neg z92]
          by_cases z46 : tO T (m_e s) = 46
          · rw [if_pos z46, if_neg (by omega)]
          · rw [if_neg z46]
            by_cases z59 : tO T (m_e s) = 59
            · rw [if_pos z59, if_neg (by omega)]
            · rw [if_neg z59]
              by_cases z0 : tO T (m_e s) = 0
              · rw [if_pos z0, if_neg (by omega)]
              · rw [if_neg z0]
theorem ms_bs (h : tO T (m_e s) = 92) (h1 : m_st s = 0 ∨ m_st s = 1) : ms T s = .inl (2, tE T (m_e s), m_c s, m_ch s, m_at s, m_ns s, m_nw s, m_ar s, m_op s, m_na s, m_nv s) := by
  unfold ms
  rw [if_neg (by omega), if_neg (by omega), if_neg (by omega), if_neg (by omega), if_pos h, if_pos h1]
theorem ms_f2 (h : tO T (m_e s) = 97) (h1 : m_st s = 2 ∨ m_st s = 3) (h2 : 8 < tE T (m_e s) - tS T (m_e s) ∨ 30 ≤ (m_ar s).length) : ms T s = .inr (2, tS T (m_e s), []) := by
  unfold ms
  rw [if_pos h]
  by_cases z : 8 < tE T (m_e s) - tS T (m_e s)
  · rw [if_pos z]
  · rw [if_neg z, if_pos h1, if_pos (by omega)]
theorem ms_fw (h : tO T (m_e s) = 97) (h1 : m_st s = 2 ∨ m_st s = 3) (h2 : ¬ 8 < tE T (m_e s) - tS T (m_e s)) (h3 : ¬ 30 ≤ (m_ar s).length) : ms T s = .inl (3, tE T (m_e s), m_c s ++ [1], m_ch s, m_at s, m_ns s, m_nw s, m_ar s ++ [m_w T s], m_op s, m_na s, m_nv s) := by
  unfold ms
  rw [if_pos h, if_neg h2, if_pos h1, if_neg h3]
theorem ms_pt (h : tO T (m_e s) = 46) (h1 : m_st s = 3) : ms T s = .inl (1, tE T (m_e s), m_c s, m_ch s, m_at s, m_ns s, m_nw s, m_ar s, m_op s, m_na s, m_nv s) := by
  unfold ms
  rw [if_neg (by omega), if_neg (by omega), if_neg (by omega), if_neg (by omega), if_neg (by omega), if_pos h, if_pos h1]
theorem ms_t2 (h : tO T (m_e s) = 97) (h1 : m_st s = 0) (h2 : tO T (tE T (m_e s)) = 61) (h3 : 8 < tE T (m_e s) - tS T (m_e s) ∨ (m_ns s).length = 12) : ms T s = .inr (2, tS T (m_e s), []) := by
  unfold ms
  rw [if_pos h]
  by_cases z : 8 < tE T (m_e s) - tS T (m_e s)
  · rw [if_pos z]
  · rw [if_neg z, if_neg (by omega), if_pos ⟨h1, h2⟩, if_pos (by omega)]
theorem ms_t4 (h : tO T (m_e s) = 97) (h1 : m_st s = 0) (h2 : tO T (tE T (m_e s)) = 61) (h3 : ¬ 8 < tE T (m_e s) - tS T (m_e s)) (h4 : (m_ns s).length ≠ 12) (h5 : fi (m_w T s) (m_nw s) ≠ -1) : ms T s = .inr (4, tS T (m_e s), []) := by
  unfold ms
  rw [if_pos h, if_neg h3, if_neg (by omega), if_pos ⟨h1, h2⟩, if_neg h4, if_pos h5]
theorem ms_te (h : tO T (m_e s) = 97) (h1 : m_st s = 0) (h2 : tO T (tE T (m_e s)) = 61) (h3 : ¬ 8 < tE T (m_e s) - tS T (m_e s)) (h4 : (m_ns s).length ≠ 12) (h5 : fi (m_w T s) (m_nw s) = -1) : ms T s = .inl (1, tE T (tE T (m_e s)), m_c s, m_ch s, m_at s, m_ns s, m_nw s, m_ar s, m_op s, 1, m_w T s) := by
  unfold ms
  rw [if_pos h, if_neg h3, if_neg (by omega), if_pos ⟨h1, h2⟩, if_neg h4, if_neg (by omega)]
theorem ms_sc (h : tO T (m_e s) = 59) (h1 : m_st s = 4 ∧ (m_op s).length = 0 ∧ m_na s = 1) : ms T s = .inl (0, tE T (m_e s), [], m_ch s, 0, m_ns s ++ [m_c s], m_nw s ++ [m_nv s], [], m_op s, 0, m_nv s) := by
  unfold ms
  rw [if_neg (by omega), if_neg (by omega), if_neg (by omega), if_neg (by omega), if_neg (by omega), if_neg (by omega), if_pos h, if_pos h1]
theorem ms_en (h : tO T (m_e s) = 0) (h1 : m_st s = 4 ∧ (m_op s).length = 0 ∧ m_na s = 0) : ms T s = .inr (0, tS T (m_e s), m_c s) := by
  unfold ms
  rw [if_neg (by omega), if_neg (by omega), if_neg (by omega), if_neg (by omega), if_neg (by omega), if_neg (by omega), if_neg (by omega), if_pos h, if_pos h1]
end MS
section RN
variable {T : List Int} {s : mS} {e f8 f9 f10 f11 f12 f13 f14 n n8 x x5 x6 : Int} {B N P M : Int → Int}
theorem TKv.b (h : TKv T e f8 f9 f10 f11 f12 f13 f14) : (0 ≤ e ∧ e ≤ (T.length : Int)) ∧ f8 = tE T e ∧ f10 = tS T e ∧ (0 ≤ f8 ∧ f8 ≤ (T.length : Int)) := by
  have h1 := tE_b (T := T) h.1.1 h.1.2
  have h2 := tS_b (T := T) h.1.1 h.1.2
  have h3 := h.2.1
  have h4 := h.1.1
  exact ⟨h.1, h.2.1, h.2.2.1, by omega⟩
/-- the token's sort, told in numbers -/
theorem TKv.o (h : TKv T e f8 f9 f10 f11 f12 f13 f14) : (tO T e = 0 ∧ f9 = 0) ∨ (tO T e = 97 ∧ f9 = 1 ∧ f14 = tE T e - tS T e) ∨ (tO T e = 48 ∧ f9 = 2 ∧ f12 = tE T e - tS T e ∧ f11 = gl T (tS T e) - 48 ∧ 1 ≤ f12) ∨ (tO T e = 1 ∧ f9 = 4) ∨ (tO T e ≠ 0 ∧ tO T e ≠ 97 ∧ tO T e ≠ 48 ∧ tO T e ≠ 1 ∧ f9 = 3 ∧ f11 = tO T e) := by
  have h1 := tE_b (T := T) h.1.1 h.1.2
  rcases h.2.2.2 with a | a | a | a | a
  · exact Or.inl a
  · exact Or.inr (Or.inl ⟨a.1, a.2.1, a.2.2.1⟩)
  · exact Or.inr (Or.inr (Or.inl ⟨a.1, a.2.1, a.2.2.1, a.2.2.2, by have := h1.2.2 (by omega); omega⟩))
  · exact Or.inr (Or.inr (Or.inr (Or.inl a)))
  · exact Or.inr (Or.inr (Or.inr (Or.inr a)))
theorem TKv.w (h : TKv T (m_e s) f8 f9 f10 f11 f12 f13 f14) (h9 : f9 = 1) (h14 : f14 ≤ 8) : tO T (m_e s) = 97 ∧ ¬ 8 < tE T (m_e s) - tS T (m_e s) ∧ f13 = en (m_w T s) ∧ wok (m_w T s) := by
  have h2 := h.o
  have h4 : tO T (m_e s) = 97 ∧ f14 = tE T (m_e s) - tS T (m_e s) := by omega
  rcases h.2.2.2 with a | a | a | a | a
  · omega
  · exact ⟨a.1, by omega, a.2.2.2 h14, wok_tk a.1 (by omega) h.1.1 h.1.2⟩
  · omega
  · omega
  · omega
theorem rn_2 (h : TKv T (m_e s) f8 f9 f10 f11 f12 f13 f14) (h9 : f9 = 1) (h14 : 8 < f14) (h6 : x6 = 2) (h5 : x5 = f10) : ms T s = .inr (x6, x5, []) := by
  have h2 := h.o
  have h3 := h.b
  rw [h6, h5, h3.2.2.1]
  exact ms_w2 (by omega) (by omega)
theorem rn_v (h : TKv T (m_e s) f8 f9 f10 f11 f12 f13 f14) (h9 : f9 = 1) (h14 : f14 ≤ 8) (hs : sA T s) (hb : BD (m_ar s) n B) (hn : n = ((m_ar s).length : Int)) (h0 : 0 ≤ x) (h1 : x < n) (h2 : B (n - 1 - x) = f13) (h3 : ∀ k : Int, 0 ≤ k → k < x → B (n - 1 - k) ≠ f13) : ms T s = .inl (m_a T s [2 + x]) := by
  obtain ⟨k1, k2, k3, k4⟩ := h.w h9 h14
  have hf : fi (m_w T s) (m_ar s).reverse = x := hb.fi hn k4 (Or.inr ⟨h0, h1, by rw [← k3]; exact h2, fun k a b => by rw [← k3]; exact h3 k a b⟩)
  have := ms_var k1 k2 hs (by omega)
  rw [hf] at this
  exact this
theorem rn_f (h : TKv T (m_e s) f8 f9 f10 f11 f12 f13 f14) (h9 : f9 = 1) (h14 : f14 ≤ 8) (hb : BD (m_ar s) n B) (hn : n = ((m_ar s).length : Int)) (h3 : ∀ k : Int, 0 ≤ k → k < n → B (n - 1 - k) ≠ f13) : fi (m_w T s) (m_ar s).reverse = -1 := by
  obtain ⟨k1, k2, k3, k4⟩ := h.w h9 h14
  exact hb.fi hn k4 (Or.inl ⟨rfl, fun k a b => by rw [← k3]; exact h3 k a b⟩)
theorem rn_N (h : TKv T (m_e s) f8 f9 f10 f11 f12 f13 f14) (h9 : f9 = 1) (h14 : f14 ≤ 8) (hN : NR (m_ns s) (m_nw s) n8 N P M) (hx : x = -1 ∨ (0 ≤ x ∧ x < n8)) (h2 : ∀ k : Int, 0 ≤ k → k < n8 → (x = -1 ∨ k < x) → N k ≠ f13) (h3 : x ≠ -1 → N x = f13) : fi (m_w T s) (m_nw s) = x := by
  obtain ⟨k1, k2, k3, k4⟩ := h.w h9 h14
  by_cases z : x = -1
  · exact hN.fi k4 (Or.inl ⟨z, fun k a b => by rw [← k3]; exact h2 k a b (Or.inl z)⟩)
  · exact hN.fi k4 (Or.inr ⟨by omega, by omega, by rw [← k3]; exact h3 z, fun k a b => by rw [← k3]; exact h2 k a (by omega) (Or.inr b)⟩)
theorem rn_n {l : List Int} (h : TKv T (m_e s) f8 f9 f10 f11 f12 f13 f14) (h9 : f9 = 1) (h14 : f14 ≤ 8) (hs : sA T s) (hf : fi (m_w T s) (m_ar s).reverse = -1) (hg : fi (m_w T s) (m_nw s) = x) (hx : 0 ≤ x) (hl : (m_ns s)[x.toNat]? = some l) : ms T s = .inl (m_a T s l) := by
  obtain ⟨k1, k2, k3, k4⟩ := h.w h9 h14
  have := ms_nam k1 k2 hs hf (by omega)
  rw [hg, List.getD_eq_getElem?_getD, hl] at this
  exact this
theorem rn_3 (h : TKv T (m_e s) f8 f9 f10 f11 f12 f13 f14) (h9 : f9 = 1) (h14 : f14 ≤ 8) (hs : sA T s) (hf : fi (m_w T s) (m_ar s).reverse = -1) (hg : fi (m_w T s) (m_nw s) = -1) (h6 : x6 = 3) (h5 : x5 = f10) : ms T s = .inr (x6, x5, []) := by
  obtain ⟨k1, k2, k3, k4⟩ := h.w h9 h14
  rw [h6, h5, h.b.2.2.1]
  exact ms_w3 k1 k2 hs hf hg
theorem ru_2 (h : TKv T (m_e s) f8 f9 f10 f11 f12 f13 f14) (h9 : f9 = 2) (h12 : f12 ≠ 1) (hs : sA T s) (h6 : x6 = 2) (h5 : x5 = f10) : ms T s = .inr (x6, x5, []) := by
  have h2 := h.o
  rw [h6, h5, h.b.2.2.1]
  exact ms_n2 (by omega) (by omega) hs
theorem ru_n (h : TKv T (m_e s) f8 f9 f10 f11 f12 f13 f14) (h9 : f9 = 2) (h12 : f12 = 1) (hs : sA T s) (hx : x = f11) : ms T s = .inl (m_a T s (nul x.toNat ++ [2])) := by
  have h2 := h.o
  have h3 := ms_num (T := T) (s := s) (by omega) (by omega) hs
  rw [show gl T (tS T (m_e s)) - 48 = x by omega] at h3
  exact h3
theorem CU.n0 {c : List Int} {u : Int → Int} (h : CU (c ++ [1] ++ [1]) n u) (hx : x = 0) : CU (c ++ nul x.toNat) n u := by
  subst hx
  rw [List.append_assoc] at h
  exact h
theorem CU.ns {c : List Int} {u : Int → Int} {y : Int} (h : CU (c ++ nul x.toNat ++ [0] ++ [3]) n u) (hx : 0 ≤ x) (hy : y = x + 1) : CU (c ++ nul y.toNat) n u := by
  subst hy
  rw [show (x + 1).toNat = x.toNat + 1 by omega, nul_s, List.append_assoc]
  rw [List.append_assoc, List.append_assoc] at h
  exact h
theorem CU.a2 {c l m : List Int} {u : Int → Int} (h : CU (c ++ l ++ m) n u) : CU (c ++ (l ++ m)) n u := by
  rw [← List.append_assoc]
  exact h
end RN
