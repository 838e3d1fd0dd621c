def sgm (C : List Int) (a b : Nat) : List Int := (C.take b).drop a
def PTB (ns : List (List Int)) (C : List Int) : List (Nat × Nat) → Nat → List Int → List Int → Nat → Prop
  | [], _, L, rest, w => L = [] ∧ rest = [] ∧ w = 0
  | p :: ps, k, L, rest, w => ∃ (L' : List Int) (k' : Nat) (rest' : List Int) (w' : Nat), L = (L' ++ [(p.1 : Int)]) ++ [(p.2 : Int)] ∧ (k < k' ∧ k' ≤ ns.length ∧ k' ≤ 12) ∧ (p.1 ≤ p.2 ∧ p.2 ≤ C.length) ∧ xvl k' (sgm C p.1 p.2) ∧ rest = xex ns (sgm C p.1 p.2) ++ rest' ∧ w = (2 * k' + 1) * (xex ns (sgm C p.1 p.2)).length + 1 + w' ∧ PTB ns C ps k' L' rest' w'
def PTI (ns : List (List Int)) (C c t b : List Int) (x y n : Int) : Prop := ∃ (k a e : Nat) (ps : List (Nat × Nat)) (rest : List Int) (w : Nat), (x = (a : Int) ∧ y = (e : Int) ∧ a ≤ e ∧ e ≤ C.length ∧ k ≤ 12 ∧ k ≤ ns.length) ∧ xvl k (sgm C a e) ∧ PTB ns C ps k b rest w ∧ t ++ (xex ns (sgm C a e) ++ rest) = c ∧ 0 ≤ n ∧ n + (((2 * k + 1) * (xex ns (sgm C a e)).length : Nat) : Int) + (w : Int) + 1 ≤ 12000
def PTQ (c : List Int) (F : rf_f) (A : xl_A) (x : Int) (F' : rf_f) (A' : xl_A) : Prop := (x = 0 ∨ x = 1) ∧ F' = F ∧ (∀ k : Nat, k ≠ 48 → k ≠ 13 → A' k = A k) ∧ ((c.length ≤ 120 ∧ x = 1 ∧ A' 48 = c) ∨ (120 < c.length ∧ x = 0))
section PTS
variable {ns nw : List (List Int)} {C N c t b T : List Int} {x y n v : Int} {a e k cs : Nat} {s : mS} {F F' : rf_f} {A A' : xl_A}
theorem PTB.len : ∀ {ps : List (Nat × Nat)} {k : Nat} {L rest : List Int} {w : Nat}, PTB ns C ps k L rest w → L.length = 2 * ps.length ∧ (k ≤ 12 → ps.length + k ≤ 12)
  | [], k, L, rest, w, h => by
    rw [h.1]
    exact ⟨rfl, fun z => by show 0 + k ≤ 12; omega⟩
  | p :: ps, k, L, rest, w, h => by
    obtain ⟨L', k', rest', w', e1, ⟨h1, h2, h3⟩, h4, h5, h6, h7, h8⟩ := h
    obtain ⟨g1, g2⟩ := PTB.len h8
    refine ⟨?_, fun z => ?_⟩
    · rw [e1, List.length_append, List.length_append, g1]
      show 2 * ps.length + 1 + 1 = 2 * (ps.length + 1)
      omega
    · have := g2 h3
      show ps.length + 1 + k ≤ 12
      omega
theorem PTI.bd (h : PTI ns C c t b x y n) : (0 ≤ x ∧ x ≤ (C.length : Int) ∧ 0 ≤ y ∧ y ≤ (C.length : Int) ∧ x ≤ y) ∧ (0 ≤ n ∧ n < 12000) ∧ ((b.length : Int) ≤ 24) ∧ t.length ≤ c.length := by
  obtain ⟨k, a, e, ps, rest, w, ⟨h1, h2, h3, h4, h5, h5b⟩, h6, h7, h8, h9, h10⟩ := h
  obtain ⟨g1, g2⟩ := h7.len
  have g3 := g2 h5
  have g4 := congrArg List.length h8
  rw [List.length_append] at g4
  omega
theorem sgm_nil (h : e ≤ a) : sgm C a e = [] := by
  unfold sgm
  exact List.drop_eq_nil_of_le (by rw [List.length_take]; omega)
theorem sgm_cons (h : a < e) (h2 : e ≤ C.length) : sgm C a e = gl C (a : Int) :: sgm C (a + 1) e := by
  have hl : (C.take e).length = e := by rw [List.length_take]; omega
  have h3 : (C.take e)[a]'(by omega) = gl C (a : Int) := by
    have e1 := gl_at (T := C) (q := (a : Int)) (by omega) (by omega)
    rw [show ((a : Int)).toNat = a by omega] at e1
    rw [List.getElem_take]
    rw [List.getElem?_eq_getElem (by omega)] at e1
    exact Option.some.inj e1
  unfold sgm
  rw [List.drop_eq_getElem_cons (by omega), h3]
/-- a part is behind us; a name's or a told text's end -/
theorem PTI.fin (h : PTI ns C c t b x y n) (hx : y ≤ x) (hb : (b.length : Int) = 0) : t = c := by
  obtain ⟨k, a, e, ps, rest, w, ⟨h1, h2, h3, h4, h5, h5b⟩, h6, h7, h8, h9, h10⟩ := h
  have g1 := h7.len.1
  have hp : ps = [] := List.eq_nil_of_length_eq_zero (by omega)
  subst hp
  have hr : rest = [] := h7.2.1
  rw [sgm_nil (by omega), hr] at h8
  rw [← h8]
  show t = t ++ []
  rw [List.append_nil]
theorem PTI.pop (h : PTI ns C c t b x y n) (hx : y ≤ x) (hb : ¬ (b.length : Int) = 0) : PTI ns C c t b.dropLast.dropLast (b.dropLast.getLastD 0) (b.getLastD 0) (n + 1) := by
  obtain ⟨k, a, e, ps, rest, w, ⟨h1, h2, h3, h4, h5, h5b⟩, h6, h7, h8, h9, h10⟩ := h
  have g1 := h7.len.1
  cases ps with
  | nil =>
    have : b.length = 2 * 0 := g1
    omega
  | cons p ps =>
    obtain ⟨L', k', rest', w', e1, ⟨q1, q2, q3⟩, q4, q5, q6, q7, q8⟩ := h7
    have d1 : b.dropLast = L' ++ [(p.1 : Int)] := by rw [e1, List.dropLast_concat]
    have d2 : b.dropLast.dropLast = L' := by rw [d1, List.dropLast_concat]
    have d3 : b.getLastD 0 = (p.2 : Int) := by rw [e1, List.getLastD_concat]
    have d4 : b.dropLast.getLastD 0 = (p.1 : Int) := by rw [d1, List.getLastD_concat]
    rw [d2, d3, d4]
    rw [sgm_nil (by omega)] at h8 h10
    refine ⟨k', p.1, p.2, ps, rest', w', ⟨rfl, rfl, q4.1, q4.2, q3, q2⟩, q5, q8, ?_, by omega, ?_⟩
    · rw [← q6]
      exact h8
    · rw [q7] at h10
      have z : (((2 * k + 1) * (xex ns ([] : List Int)).length : Nat) : Int) = 0 := rfl
      rw [z] at h10
      omega
/-- the entry that is looked at -/
theorem PTI.ent (h : PTI ns C c t b x y n) (hx : ¬ y ≤ x) : ∃ (k a e : Nat) (ps : List (Nat × Nat)) (rest : List Int) (w : Nat), (x = (a : Int) ∧ y = (e : Int) ∧ a + 1 ≤ e ∧ e ≤ C.length ∧ k ≤ 12 ∧ k ≤ ns.length) ∧ -11 - (k : Int) < gl C x ∧ xvl k (sgm C (a + 1) e) ∧ PTB ns C ps k b rest w ∧ (t ++ xev ns (gl C x)) ++ (xex ns (sgm C (a + 1) e) ++ rest) = c ∧ 0 ≤ n ∧ n + (((2 * k + 1) * ((xev ns (gl C x)).length + (xex ns (sgm C (a + 1) e)).length) : Nat) : Int) + (w : Int) + 1 ≤ 12000 := by
  obtain ⟨k, a, e, ps, rest, w, ⟨h1, h2, h3, h4, h5, h5b⟩, h6, h7, h8, h9, h10⟩ := h
  have hs := sgm_cons (C := C) (a := a) (e := e) (by omega) h4
  rw [hs] at h6
  rw [hs, xex_cons] at h8 h10
  rw [List.length_append] at h10
  refine ⟨k, a, e, ps, rest, w, ⟨h1, h2, by omega, h4, h5, h5b⟩, ?_, fun z hz => h6 z (List.mem_cons.mpr (Or.inr hz)), h7, ?_, h9, ?_⟩
  · rw [h1]
    exact h6 _ (List.mem_cons.mpr (Or.inl rfl))
  · rw [h1, ← h8, List.append_assoc, List.append_assoc]
  · rw [h1]
    exact h10
theorem PTI.put {l : List Int} (h : PTI ns C c t b x y n) (hx : ¬ y ≤ x) (hl : xev ns (gl C x) = l) (h1 : 1 ≤ l.length) : PTI ns C c (t ++ l) b (x + 1) y (n + 1) ∧ t.length + l.length ≤ c.length := by
  obtain ⟨k, a, e, ps, rest, w, ⟨g1, g2, g3, g4, g5, g5b⟩, g6, g7, g8, g9, g10, g11⟩ := h.ent hx
  rw [hl] at g9 g11
  have hc := congrArg List.length g9
  rw [List.length_append, List.length_append] at hc
  refine ⟨⟨k, a + 1, e, ps, rest, w, ⟨by omega, g2, g3, g4, g5, g5b⟩, g7, g8, g9, by omega, ?_⟩, by omega⟩
  rw [Nat.mul_add] at g11
  have h2 : 1 * 1 ≤ (2 * k + 1) * l.length := Nat.mul_le_mul (by omega) h1
  omega
theorem PTI.nam (h : PTI ns C c t b x y n) (hm : NMD T N C cs ns nw) (hcs : cs ≤ C.length) (hx : ¬ y ≤ x) (hn : ¬ -11 < gl C x) : (-11 - 12 < gl C x) ∧ PTI ns C c t ((b ++ [x + 1]) ++ [y]) (gl N (5 * (-11 - gl C x) + 2)) (gl N (5 * (-11 - gl C x) + 3)) (n + 1) := by
  obtain ⟨k, a, e, ps, rest, w, ⟨g1, g2, g3, g4, g5, g5b⟩, g6, g7, g8, g9, g10, g11⟩ := h.ent hx
  have hi : (((-11 - gl C x).toNat : Nat) : Int) = -11 - gl C x := by omega
  obtain ⟨c1, c2, r1, r2, r3, r4, r5, r6, r7⟩ := hm.2.2 (-11 - gl C x).toNat (by omega)
  rw [hi] at r1 r2 r7
  have hw : xev ns (gl C x) = xex ns ((C.take c2).drop c1) := by
    rw [xev_w hn, List.getD_eq_getElem?_getD, r6]
    rfl
  rw [hw] at g9 g11
  have h1 : 1 ≤ (xex ns ((C.take c2).drop c1)).length := r7.1
  refine ⟨by omega, (-11 - gl C x).toNat, c1, c2, (a + 1, e) :: ps, xex ns (sgm C (a + 1) e) ++ rest, (2 * k + 1) * (xex ns (sgm C (a + 1) e)).length + 1 + w, ⟨r1, r2, r3, by omega, by omega, by omega⟩, r5, ?_, ?_, by omega, ?_⟩
  · refine ⟨b, k, rest, w, ?_, ⟨by omega, g5b, g5⟩, ⟨g3, g4⟩, g7, rfl, rfl, g8⟩
    rw [g1, g2]
    first | done | rfl
  · rw [← g9, List.append_assoc]
    first | done | rfl
  · show n + 1 + (((2 * (-11 - gl C x).toNat + 1) * (xex ns ((C.take c2).drop c1)).length : Nat) : Int) + (((2 * k + 1) * (xex ns (sgm C (a + 1) e)).length + 1 + w : Nat) : Int) + 1 ≤ 12000
    rw [Nat.mul_add] at g11
    have h2 : (2 * (-11 - gl C x).toNat + 1 + 2) * (xex ns ((C.take c2).drop c1)).length ≤ (2 * k + 1) * (xex ns ((C.take c2).drop c1)).length := Nat.mul_le_mul_right _ (by omega)
    rw [Nat.add_mul] at h2
    omega
theorem pt_pre (hC : CLr T F A s) (he : m_e s ≤ (T.length : Int)) : (0 ≤ F 409 ∧ F 409 ≤ ((A 5).length : Int) ∧ ((A 5).length : Int) ≤ ((A 5).length : Int)) ∧ ((A 5).length : Int) ≤ 1402 ∧ ∀ i : Int, F 409 ≤ i → i < ((A 5).length : Int) → -50 ≤ gl (A 5) i ∧ 0 ≤ pe (A 7) (gl (A 5) i) ∧ pe (A 7) (gl (A 5) i) ≤ 5000 := by
  obtain ⟨⟨h1, h7⟩, ⟨q6, q8, q10, q11⟩, ⟨k0, k1, k2, k3, k4, k5, k6, k7, k8⟩, k9, cs, hc, ⟨m1, m2⟩, m3, m4, m5, m6, m7⟩ := hC
  rw [m1]
  refine ⟨by omega, by omega, fun i i0 i1 => ?_⟩
  have hm : gl (A 5) i ∈ (A 5).drop cs := by
    refine List.mem_of_getElem? (i := i.toNat - cs) ?_
    rw [List.getElem?_drop, show cs + (i.toNat - cs) = i.toNat by omega]
    exact gl_at (by omega) (by omega)
  have hx := m3.2.1 _ hm
  have hp := pe_c m4.hnm hx
  omega
theorem pt_big (hC : CLr T F A s) : (pk (A 7) (sg (A 5) (F 409) ((A 5).length : Int)) 0 ≤ 120 ∧ (m_c s).length ≤ 120) ∨ (120 < pk (A 7) (sg (A 5) (F 409) ((A 5).length : Int)) 0 ∧ 120 < (m_c s).length) := by
  obtain ⟨⟨h1, h7⟩, ⟨q6, q8, q10, q11⟩, ⟨k0, k1, k2, k3, k4, k5, k6, k7, k8⟩, k9, cs, hc, ⟨m1, m2⟩, m3, m4, m5, m6, m7⟩ := hC
  have hs : sg (A 5) (F 409) ((A 5).length : Int) = (A 5).drop cs := by
    rw [m1]
    unfold sg
    rw [show ((cs : Int)).toNat = cs by omega]
    exact List.take_of_length_le (by rw [List.length_drop]; omega)
  have h := pk_c m4.hnm (p := 0) (q := 0) m3.2.1 (by omega) (by omega) (Or.inl ⟨by decide, rfl⟩)
  rw [hs]
  have e : xex (m_ns s) ((A 5).drop cs) = m_c s := m3.2.2.1
  rw [e] at h
  omega
theorem PTI.st (hC : CLr T F A s) (h120 : (m_c s).length ≤ 120) : PTI (m_ns s) (A 5) (m_c s) [] [] (F 409) ((A 5).length : Int) 0 := by
  obtain ⟨⟨h1, h7⟩, ⟨q6, q8, q10, q11⟩, ⟨k0, k1, k2, k3, k4, k5, k6, k7, k8⟩, k9, cs, hc, ⟨m1, m2⟩, m3, m4, m5, m6, m7⟩ := hC
  have hs : sgm (A 5) cs (A 5).length = (A 5).drop cs := by
    unfold sgm
    rw [List.take_length]
  have e : xex (m_ns s) ((A 5).drop cs) = m_c s := m3.2.2.1
  refine ⟨(m_ns s).length, cs, (A 5).length, [], [], 0, ⟨m1, rfl, m2, Nat.le_refl _, by omega, Nat.le_refl _⟩, by rw [hs]; exact m3.2.1, ⟨rfl, rfl, rfl⟩, ?_, by omega, ?_⟩
  · rw [hs, e, List.append_nil]
    first | done | rfl
  · rw [hs, e]
    have h2 : (2 * (m_ns s).length + 1) * (m_c s).length ≤ 25 * 120 := Nat.mul_le_mul (by omega) h120
    omega
theorem cl_nmd (hC : CLr T F A s) : ∃ cs : Nat, cs ≤ (A 5).length ∧ NMD T (A 7) (A 5) cs (m_ns s) (m_nw s) := by
  obtain ⟨-, -, -, -, cs, hc, ⟨m1, m2⟩, m3, m4, -⟩ := hC
  exact ⟨cs, m2, m4⟩
end PTS
section PTU
variable {A : xl_A} {p q : Int}
theorem pt_n (hb : ((A 13).length : Int) ≤ 24) : addl 13 (addl 13 A p) q 48 = A 48 ∧ addl 13 (addl 13 A p) q 13 = (A 13 ++ [p]) ++ [q] ∧ addl 13 (addl 13 A p) q 7 = A 7 := by
  have e1 : addl 13 A p 13 = A 13 ++ [p] := addl_eq (by rw [mo13]; omega)
  refine ⟨by rw [addl_ne (by decide), addl_ne (by decide)], ?_, by rw [addl_ne (by decide), addl_ne (by decide)]⟩
  rw [addl_eq (by rw [mo13, e1, List.length_append]; show (((A 13).length + 1 : Nat) : Int) < 26; omega), e1]
end PTU
section
theorem yl_X6_putTerm_51 {h0 : am_h} {F0 : rf_f} {A0 : xl_A}   (T : List Int) (sz : mS) (hC : CLr T F0 A0 sz) (he : m_e sz ≤ (T.length : Int)) : ∀ (n : Nat) {lv : am_l} {h : am_h} {c s : Nat} {u2 : Int32} {v2 : Int} {u3 : Int32} {v3 : Int} {u4 : Int32} {v4 : Int} {Av : xl_A}, ((12001 - v4).toNat) = n → am_get lv 0 = some (.inr (.inr (some 4))) → am_get lv 1 = some (.inr (.inr (some 48))) → am_get lv 2 = some (.inl u2) → am_get lv 3 = some (.inl u3) → am_get lv 4 = some (.inl u4) → u2.toInt = v2 → u3.toInt = v3 → u4.toInt = v4 → xI h0 (ob_P h0) h c s F0 Av → am_okL h.length lv = true → (∀ k : Nat, k ≠ 48 → k ≠ 13 → Av k = A0 k) → ((m_c sz).length ≤ 120) → (PTI (m_ns sz) (A0 5) (m_c sz) (Av 48) (Av 13) v2 v3 v4) → am_Ok am_G 3 85 (51, lv, [], h, c, s) (xQ h0 (fun x F' A' => PTQ (m_c sz) F0 A0 (x) (F') (A'))) := by
  intro n
  induction n using Nat.strongRecOn with
  | ind n ih =>
    intro lv h c s u2 v2 u3 v3 u4 v4  Av hm g0 g1 g2 g3 g4 hv2 hv3 hv4 hI hL i0 i1 i2
    have ee5 : Av 5 = A0 5 := i0 5 (by decide) (by decide)
    have ee7 : Av 7 = A0 7 := i0 7 (by decide) (by decide)
    have bd := i2.bd
    have hl5 := (pt_pre hC he).2.1
    refine k_iload 53 rfl g4 rfl ?_
    refine k_push 56 rfl rfl ?_
    have hc1 : (12000 : Int32).toInt = 12000 := by decide
    by_cases b2 : (12000 : Int32) ≤ u4
    · refine k_c2 199 rfl rfl (if_pos b2) ?_
      have b2 : 12000 ≤ v4 := by have h9 := iv_le.mp b2; rw [hv4] at h9; rw [hc1] at h9; exact h9
      refine k_push 200 rfl rfl ?_
      have hc3 : (0 : Int32).toInt = 0 := by decide
      exact k_fin rfl (fin_Z (Or.inl rfl)) ⟨_, _, _, _, _, _, rfl, hI, (by (try rw [hc3]); show PTQ (m_c sz) F0 A0 (0) (F0) (Av); exact absurd bd.2.1.2 (by omega))⟩
    · refine k_c2 59 rfl rfl (if_neg b2) ?_
      have b2 : ¬ (12000 ≤ v4) := by have h9 := mt iv_le.mpr b2; rw [hv4] at h9; rw [hc1] at h9; exact h9
      refine k_iload 60 rfl g2 rfl ?_
      refine k_iload 61 rfl g3 rfl ?_
      by_cases b4 : u2 < u3
      · refine k_c2 95 rfl rfl (if_pos b4) ?_
        have b4 : v2 < v3 := by have h9 := iv_lt.mp b4; rw [hv2] at h9; rw [hv3] at h9; exact h9
        refine k_aload 96 rfl g0 rfl ?_
        refine x_gF 5 hI 99 rfl rfl (by decide) rfl ?_
        refine k_iload 100 rfl g2 rfl ?_
        refine k_xq hI rfl (y_get hv2 hI.1 or5) rfl rfl rfl (ty_H.rc3 hI.T or5) hL so_n ?_
        rintro x5 h6 c7 s8 F9 A10 I11 L12 ⟨e13, k14, k15⟩
        replace k14 := k14.symm
        subst k14
        replace k15 := k15.symm
        subst k15
        show am_Ok _ _ _ (103, _, [.inl x5], _, c7, s8) _
        refine k_istore 105 rfl rfl ?_
        have xx5 : gl (Av 5) (v2) = gl (A0 5) (v2) := by rw [ee5]
        have hc16 : (1 : Int32).toInt = 1 := by decide
        obtain ⟨x17, q18⟩ : ∃ q : Int32, q = u2 + (1 : Int32) := ⟨_, rfl⟩
        have e19 : x17.toInt = (v2 + 1) := bx_add q18 hv2 hc16 (by omega) (by omega)
        refine k_iinc x17 108 rfl (gs_ne rfl rfl g2) q18.symm rfl ?_
        refine k_iload 110 rfl (gs_ne rfl rfl gs_eq) rfl ?_
        refine k_push 111 rfl rfl ?_
        have hc20 : (-1 : Int32).toInt = -1 := by decide
        by_cases b21 : x5 ≤ (-1 : Int32)
        · refine k_c2 124 rfl rfl (if_pos b21) ?_
          have b21 : gl (Av 5) (v2) ≤ (-1) := by have h9 := iv_le.mp b21; rw [e13] at h9; rw [hc20] at h9; exact h9
          refine k_iload 126 rfl (gs_ne rfl rfl gs_eq) rfl ?_
          refine k_push 128 rfl rfl ?_
          have hc22 : (-11 : Int32).toInt = -11 := by decide
          by_cases b23 : x5 ≤ (-11 : Int32)
          · refine k_c2 142 rfl rfl (if_pos b23) ?_
            have b23 : gl (Av 5) (v2) ≤ (-11) := by have h9 := iv_le.mp b23; rw [e13] at h9; rw [hc22] at h9; exact h9
            obtain ⟨cs9, hcs9, hnm9⟩ := cl_nmd hC
            have nm := i2.nam hnm9 hcs9 (by omega) (by omega)
            have nm1 := nm.1
            refine k_aload 143 rfl (gs_ne rfl rfl (gs_ne rfl rfl g0)) rfl ?_
            refine x_gF 13 I11 146 rfl rfl (by decide) rfl ?_
            refine k_iload 147 rfl gs_eq rfl ?_
            refine k_xq I11 rfl (y_add e19 I11.1 or13) rfl rfl rfl (ty_H.rc3 I11.T or13) (okL_set rfl (okL_set rfl L12)) so_n ?_
            rintro x24 h25 c26 s27 F28 A29 I30 L31 ⟨e32, k33, k34⟩
            replace k33 := k33.symm
            subst k33
            replace k34 := k34.symm
            subst k34
            have z35 := iv_01 (x := x24) (by rw [e32]; exact (addr_01))
            show am_Ok _ _ _ (150, _, [.inl x24], _, c26, s27) _
            refine k_pop 151 rfl rfl rfl ?_
            refine k_aload 152 rfl (gs_ne rfl rfl (gs_ne rfl rfl g0)) rfl ?_
            refine x_gF 13 I30 155 rfl rfl (by decide) rfl ?_
            refine k_iload 156 rfl (gs_ne rfl rfl (gs_ne rfl rfl g3)) rfl ?_
            refine k_xq I30 rfl (y_add hv3 I30.1 or13) rfl rfl rfl (ty_H.rc3 I30.T or13) L31 so_n ?_
            rintro x36 h37 c38 s39 F40 A41 I42 L43 ⟨e44, k45, k46⟩
            replace k45 := k45.symm
            subst k45
            replace k46 := k46.symm
            subst k46
            have z47 := iv_01 (x := x36) (by rw [e44]; exact (addr_01))
            show am_Ok _ _ _ (159, _, [.inl x36], _, c38, s39) _
            refine k_pop 160 rfl rfl rfl ?_
            refine k_push 161 rfl rfl ?_
            have hc48 : (5 : Int32).toInt = 5 := by decide
            refine k_push 163 rfl rfl ?_
            refine k_iload 165 rfl (gs_ne rfl rfl gs_eq) rfl ?_
            obtain ⟨x49, q50⟩ : ∃ q : Int32, q = (-11 : Int32) - x5 := ⟨_, rfl⟩
            have e51 : x49.toInt = ((-11) - gl (Av 5) (v2)) := bx_sub q50 hc22 e13 (by omega) (by omega)
            refine k_bin x49 166 rfl q50.symm rfl ?_
            obtain ⟨x52, q53⟩ : ∃ q : Int32, q = (5 : Int32) * x49 := ⟨_, rfl⟩
            have e54 : x52.toInt = (5 * ((-11) - gl (Av 5) (v2))) := bx_mul q53 hc48 e51 (by omega) (by omega)
            refine k_bin x52 167 rfl q53.symm rfl ?_
            refine k_istore 169 rfl rfl ?_
            refine k_aload 170 rfl (gs_ne rfl rfl (gs_ne rfl rfl (gs_ne rfl rfl g0))) rfl ?_
            refine x_gF 7 I42 173 rfl rfl (by decide) rfl ?_
            refine k_iload 175 rfl gs_eq rfl ?_
            refine k_push 176 rfl rfl ?_
            have hc55 : (2 : Int32).toInt = 2 := by decide
            obtain ⟨x56, q57⟩ : ∃ q : Int32, q = x52 + (2 : Int32) := ⟨_, rfl⟩
            have e58 : x56.toInt = ((5 * ((-11) - gl (Av 5) (v2))) + 2) := bx_add q57 e54 hc55 (by omega) (by omega)
            refine k_bin x56 177 rfl q57.symm rfl ?_
            refine k_xq I42 rfl (y_get e58 I42.1 or7) rfl rfl rfl (ty_H.rc3 I42.T or7) (okL_set rfl L43) so_n ?_
            rintro x59 h60 c61 s62 F63 A64 I65 L66 ⟨e67, k68, k69⟩
            replace k68 := k68.symm
            subst k68
            replace k69 := k69.symm
            subst k69
            show am_Ok _ _ _ (180, _, [.inl x59], _, c61, s62) _
            refine k_istore 181 rfl rfl ?_
            refine k_aload 182 rfl (gs_ne rfl rfl (gs_ne rfl rfl (gs_ne rfl rfl (gs_ne rfl rfl g0)))) rfl ?_
            refine x_gF 7 I65 185 rfl rfl (by decide) rfl ?_
            refine k_iload 187 rfl (gs_ne rfl rfl gs_eq) rfl ?_
            refine k_push 188 rfl rfl ?_
            have hc70 : (3 : Int32).toInt = 3 := by decide
            obtain ⟨x71, q72⟩ : ∃ q : Int32, q = x52 + (3 : Int32) := ⟨_, rfl⟩
            have e73 : x71.toInt = ((5 * ((-11) - gl (Av 5) (v2))) + 3) := bx_add q72 e54 hc70 (by omega) (by omega)
            refine k_bin x71 189 rfl q72.symm rfl ?_
            refine k_xq I65 rfl (y_get e73 I65.1 or7) rfl rfl rfl (ty_H.rc3 I65.T or7) (okL_set rfl L66) so_n ?_
            rintro x74 h75 c76 s77 F78 A79 I80 L81 ⟨e82, k83, k84⟩
            replace k83 := k83.symm
            subst k83
            replace k84 := k84.symm
            subst k84
            show am_Ok _ _ _ (192, _, [.inl x74], _, c76, s77) _
            refine k_istore 193 rfl rfl ?_
            obtain ⟨x85, q86⟩ : ∃ q : Int32, q = u4 + (1 : Int32) := ⟨_, rfl⟩
            have e87 : x85.toInt = (v4 + 1) := bx_add q86 hv4 hc16 (by omega) (by omega)
            refine k_iinc x85 196 rfl (gs_ne rfl rfl (gs_ne rfl rfl (gs_ne rfl rfl (gs_ne rfl rfl (gs_ne rfl rfl g4))))) q86.symm rfl ?_
            refine k_goto 51 rfl rfl ?_
            exact ih _ (by omega)  (Av := (addl 13 (addl 13 Av ((v2 + 1))) (v3))) (v2 := gl ((addl 13 (addl 13 Av ((v2 + 1))) (v3)) 7) (((5 * ((-11) - gl (Av 5) (v2))) + 2))) (v3 := gl ((addl 13 (addl 13 Av ((v2 + 1))) (v3)) 7) (((5 * ((-11) - gl (Av 5) (v2))) + 3))) (v4 := (v4 + 1)) rfl (gs_ne rfl rfl (gs_ne rfl rfl (gs_ne rfl rfl (gs_ne rfl rfl (gs_ne rfl rfl (gs_ne rfl rfl g0)))))) (gs_ne rfl rfl (gs_ne rfl rfl (gs_ne rfl rfl (gs_ne rfl rfl (gs_ne rfl rfl (gs_ne rfl rfl g1)))))) (gs_ne rfl rfl (gs_ne rfl rfl gs_eq)) (gs_ne rfl rfl gs_eq) gs_eq e67 e82 e87 I80 (okL_set rfl (okL_set rfl L81)) (fun k k1 k2 => (addl_ne k2).trans ((addl_ne k2).trans (i0 k k1 k2))) (i1) (by rw [(pt_n (by omega)).1, (pt_n (by omega)).2.1, (pt_n (by omega)).2.2, ee7, xx5]; exact nm.2)
          · refine k_c2 131 rfl rfl (if_neg b23) ?_
            have b23 : ¬ (gl (Av 5) (v2) ≤ (-11)) := by have h9 := mt iv_le.mpr b23; rw [e13] at h9; rw [hc22] at h9; exact h9
            have nl : (nul (-1 - gl (A0 5) v2).toNat ++ [2]).length = 2 * (-1 - gl (A0 5) v2).toNat + 3 := by rw [List.length_append, nul_l]; first | done | rfl
            have pp := i2.put (l := nul (-1 - gl (A0 5) v2).toNat ++ [2]) (by omega) (xev_n (by omega) (by omega)) (by omega)
            rw [nl] at pp
            refine k_push 132 rfl rfl ?_
            refine k_iload 134 rfl (gs_ne rfl rfl gs_eq) rfl ?_
            obtain ⟨x88, q89⟩ : ∃ q : Int32, q = (-1 : Int32) - x5 := ⟨_, rfl⟩
            have e90 : x88.toInt = ((-1) - gl (Av 5) (v2)) := bx_sub q89 hc20 e13 (by omega) (by omega)
            refine k_bin x88 135 rfl q89.symm rfl ?_
            refine k_aload 136 rfl (gs_ne rfl rfl (gs_ne rfl rfl g1)) rfl ?_
            refine k_xv I11 rfl (n_X6_putNumber e90  (by omega) (by have h9 := pp.2; omega) I11.1) rfl rfl rfl rfl (okL_set rfl (okL_set rfl L12)) so_n ?_
            rintro h92 c93 s94 F95 A96 I97 L98 ⟨k100, k101⟩
            replace k100 := k100.symm
            subst k100
            replace k101 := k101.symm
            subst k101
            show am_Ok _ _ _ (139, _, [], _, c93, s94) _
            refine k_goto 193 rfl rfl ?_
            obtain ⟨x102, q103⟩ : ∃ q : Int32, q = u4 + (1 : Int32) := ⟨_, rfl⟩
            have e104 : x102.toInt = (v4 + 1) := bx_add q103 hv4 hc16 (by omega) (by omega)
            refine k_iinc x102 196 rfl (gs_ne rfl rfl (gs_ne rfl rfl g4)) q103.symm rfl ?_
            refine k_goto 51 rfl rfl ?_
            exact ih _ (by omega)  (Av := (p_X6_putNumber (((-1) - gl (Av 5) (v2))) F0 Av).2.2) (v2 := (v2 + 1)) (v3 := v3) (v4 := (v4 + 1)) rfl (gs_ne rfl rfl (gs_ne rfl rfl (gs_ne rfl rfl g0))) (gs_ne rfl rfl (gs_ne rfl rfl (gs_ne rfl rfl g1))) (gs_ne rfl rfl gs_eq) (gs_ne rfl rfl (gs_ne rfl rfl (gs_ne rfl rfl g3))) gs_eq e19 hv3 e104 I97 (okL_set rfl L98) (fun k k1 k2 => (upl_ne k1).trans (i0 k k1 k2)) (i1) (by have h9 := pp.1; rw [← xx5] at h9; exact h9)
        · refine k_c2 114 rfl rfl (if_neg b21) ?_
          have b21 : ¬ (gl (Av 5) (v2) ≤ (-1)) := by have h9 := mt iv_le.mpr b21; rw [e13] at h9; rw [hc20] at h9; exact h9
          have pp := i2.put (l := [gl (A0 5) v2]) (by omega) (xev_p (by omega)) (Nat.le_refl _)
          have pq : (Av 48).length + 1 ≤ (m_c sz).length := pp.2
          refine k_aload 115 rfl (gs_ne rfl rfl (gs_ne rfl rfl g1)) rfl ?_
          refine k_iload 117 rfl (gs_ne rfl rfl gs_eq) rfl ?_
          refine k_xq I11 rfl (y_add e13 I11.1 or48) rfl rfl rfl (ty_H.rc3 I11.T or48) (okL_set rfl (okL_set rfl L12)) so_n ?_
          rintro x105 h106 c107 s108 F109 A110 I111 L112 ⟨e113, k114, k115⟩
          replace k114 := k114.symm
          subst k114
          replace k115 := k115.symm
          subst k115
          have z116 := iv_01 (x := x105) (by rw [e113]; exact (addr_01))
          show am_Ok _ _ _ (120, _, [.inl x105], _, c107, s108) _
          refine k_pop 121 rfl rfl rfl ?_
          refine k_goto 193 rfl rfl ?_
          obtain ⟨x117, q118⟩ : ∃ q : Int32, q = u4 + (1 : Int32) := ⟨_, rfl⟩
          have e119 : x117.toInt = (v4 + 1) := bx_add q118 hv4 hc16 (by omega) (by omega)
          refine k_iinc x117 196 rfl (gs_ne rfl rfl (gs_ne rfl rfl g4)) q118.symm rfl ?_
          refine k_goto 51 rfl rfl ?_
          exact ih _ (by omega)  (Av := (addl 48 Av (gl (Av 5) (v2)))) (v2 := (v2 + 1)) (v3 := v3) (v4 := (v4 + 1)) rfl (gs_ne rfl rfl (gs_ne rfl rfl (gs_ne rfl rfl g0))) (gs_ne rfl rfl (gs_ne rfl rfl (gs_ne rfl rfl g1))) (gs_ne rfl rfl gs_eq) (gs_ne rfl rfl (gs_ne rfl rfl (gs_ne rfl rfl g3))) gs_eq e19 hv3 e119 I111 (okL_set rfl L112) (fun k k1 k2 => (addl_ne k1).trans (i0 k k1 k2)) (i1) (by rw [addl_eq (by rw [mo48]; omega), addl_ne (by decide), xx5]; exact pp.1)
      · refine k_c2 64 rfl rfl (if_neg b4) ?_
        have b4 : ¬ (v2 < v3) := by have h9 := mt iv_lt.mpr b4; rw [hv2] at h9; rw [hv3] at h9; exact h9
        refine k_aload 65 rfl g0 rfl ?_
        refine x_gF 13 hI 68 rfl rfl (by decide) rfl ?_
        refine k_xq hI rfl (xv_size hI.1 or13) rfl rfl rfl (ty_H.rc3 hI.T or13) hL so_n ?_
        rintro x120 h121 c122 s123 F124 A125 I126 L127 ⟨e128, k129, k130⟩
        replace k129 := k129.symm
        subst k129
        replace k130 := k130.symm
        subst k130
        show am_Ok _ _ _ (71, _, [.inl x120], _, c122, s123) _
        by_cases b131 : x120 = 0
        · refine k_c1 74 rfl rfl (if_pos b131) ?_
          have b131 : (((Av 13).length : Nat) : Int) = 0 := by have h9 := iv_eq0.mp b131; rw [e128] at h9; exact h9
          refine k_push 75 rfl rfl ?_
          have hc132 : (1 : Int32).toInt = 1 := by decide
          exact k_fin rfl (fin_Z (Or.inr rfl)) ⟨_, _, _, _, _, _, rfl, I126, (by (try rw [hc132]); show PTQ (m_c sz) F0 A0 (1) (F0) (Av); exact ⟨Or.inr rfl, rfl, i0, Or.inl ⟨i1, rfl, i2.fin (by omega) b131⟩⟩)⟩
        · refine k_c1 76 rfl rfl (if_neg b131) ?_
          have b131 : ¬ ((((Av 13).length : Nat) : Int) = 0) := by have h9 := mt iv_eq0.mpr b131; rw [e128] at h9; exact h9
          refine k_aload 77 rfl g0 rfl ?_
          refine x_gF 13 I126 80 rfl rfl (by decide) rfl ?_
          refine k_xq I126 rfl (xv_takeLast I126.1 or13) rfl rfl rfl (ty_H.rc3 I126.T or13) L127 so_n ?_
          rintro x133 h134 c135 s136 F137 A138 I139 L140 ⟨e141, k142, k143⟩
          replace k142 := k142.symm
          subst k142
          replace k143 := k143.symm
          subst k143
          show am_Ok _ _ _ (83, _, [.inl x133], _, c135, s136) _
          refine k_istore 84 rfl rfl ?_
          refine k_aload 85 rfl (gs_ne rfl rfl g0) rfl ?_
          refine x_gF 13 I139 88 rfl rfl (by decide) rfl ?_
          refine k_xq I139 rfl (xv_takeLast I139.1 or13) rfl rfl rfl (ty_H.rc3 I139.T or13) (okL_set rfl L140) so_n ?_
          rintro x144 h145 c146 s147 F148 A149 I150 L151 ⟨e152, k153, k154⟩
          replace k153 := k153.symm
          subst k153
          replace k154 := k154.symm
          subst k154
          show am_Ok _ _ _ (91, _, [.inl x144], _, c146, s147) _
          refine k_istore 92 rfl rfl ?_
          refine k_goto 193 rfl rfl ?_
          have hc155 : (1 : Int32).toInt = 1 := by decide
          obtain ⟨x156, q157⟩ : ∃ q : Int32, q = u4 + (1 : Int32) := ⟨_, rfl⟩
          have e158 : x156.toInt = (v4 + 1) := bx_add q157 hv4 hc155 (by omega) (by omega)
          refine k_iinc x156 196 rfl (gs_ne rfl rfl (gs_ne rfl rfl g4)) q157.symm rfl ?_
          refine k_goto 51 rfl rfl ?_
          exact ih _ (by omega)  (Av := (upl (upl Av 13 (Av 13).dropLast) 13 ((Av 13).dropLast).dropLast)) (v2 := ((Av 13).dropLast).getLastD 0) (v3 := (Av 13).getLastD 0) (v4 := (v4 + 1)) rfl (gs_ne rfl rfl (gs_ne rfl rfl (gs_ne rfl rfl g0))) (gs_ne rfl rfl (gs_ne rfl rfl (gs_ne rfl rfl g1))) (gs_ne rfl rfl gs_eq) (gs_ne rfl rfl (gs_ne rfl rfl gs_eq)) gs_eq e152 e141 e158 I150 (okL_set rfl (okL_set rfl L151)) (fun k k1 k2 => (upl_ne k2).trans ((upl_ne k2).trans (i0 k k1 k2))) (i1) (i2.pop (by omega) b131)
theorem n_X6_putTerm {h0 : am_h} {F0 : rf_f} {A0 : xl_A}   (T : List Int) (sz : mS) (hC : CLr T F0 A0 sz) (he : m_e sz ≤ (T.length : Int)) (hR : xR h0 F0 A0) : am_Mt 4 85 [.inr (.inr (some 4)), .inr (.inr (some 48))] h0 (xQ h0 (fun x F' A' => PTQ (m_c sz) F0 A0 (x) (F') (A'))) := by
  refine am_Mt.of (D := 3) ?_
  have hI : xI h0 (ob_P h0) h0 0 0 F0 A0 := xI.start hR
  have hL : am_okL h0.length (am_args 0 [.inr (.inr (some 4)), .inr (.inr (some 48))]) = true := (okA_r hI.T oc4 (okA_r hI.T ol48 okA_n))
  refine k_aload 1 rfl rfl rfl ?_
  refine k_push 2 rfl rfl ?_
  have hc159 : (0 : Int32).toInt = 0 := by decide
  refine k_xv hI rfl (y_cut hc159 hI.1 or48) rfl rfl rfl (ty_H.rc3 hI.T or48) hL so_n ?_
  rintro h161 c162 s163 F164 A165 I166 L167 ⟨k169, k170⟩
  replace k169 := k169.symm
  subst k169
  replace k170 := k170.symm
  subst k170
  show am_Ok _ _ _ (5, _, [], _, c162, s163) _
  refine k_aload 6 rfl rfl rfl ?_
  refine k_aload 7 rfl rfl rfl ?_
  refine x_gI I166 10 rfl oc4 rfl rfl rfl rfl (fun x171 (e172 : x171.toInt = F0 409) => ?_)
  refine k_aload 11 rfl rfl rfl ?_
  refine x_gF 5 I166 14 rfl rfl (by decide) rfl ?_
  refine k_xq I166 rfl (xv_size I166.1 or5) rfl rfl rfl (ty_H.rc3 I166.T or5) L167 (so_i (xo_r I166 oc4 so_n)) ?_
  rintro x173 h174 c175 s176 F177 A178 I179 L180 ⟨e181, k182, k183⟩
  replace k182 := k182.symm
  subst k182
  replace k183 := k183.symm
  subst k183
  show am_Ok _ _ _ (17, _, [.inl x173, .inl x171, .inr (.inr (some 4))], _, c175, s176) _
  refine k_xq I179 rfl (n_X6_partsOf e172 e181  (by exact (pt_pre hC he).1) (by exact (pt_pre hC he).2.1) (by exact (pt_pre hC he).2.2) I179.1) rfl rfl rfl (I179.T.rc oc4 rfl) L180 so_n ?_
  rintro x184 h185 c186 s187 F188 A189 I190 L191 ⟨e192, k193, k194⟩
  replace k193 : F188 = F0 := k193
  replace k194 : A189 = (upl A0 48 (cutl (A0 48) (0))) := k194
  replace k193 := k193.symm
  subst k193
  replace k194 := k194.symm
  subst k194
  show am_Ok _ _ _ (20, _, [.inl x184], _, c186, s187) _
  refine k_push 22 rfl rfl ?_
  have hc195 : (120 : Int32).toInt = 120 := by decide
  by_cases b196 : x184 ≤ (120 : Int32)
  · refine k_c2 27 rfl rfl (if_pos b196) ?_
    have b196 : (p_X6_partsOf (F0 409) (((A0 5).length : Nat) : Int) F0 ((upl A0 48 (cutl (A0 48) (0))))).1 ≤ 120 := by have h9 := iv_le.mp b196; rw [e192] at h9; rw [hc195] at h9; exact h9
    refine k_aload 28 rfl rfl rfl ?_
    refine x_gF 13 I190 31 rfl rfl (by decide) rfl ?_
    refine k_push 32 rfl rfl ?_
    refine k_xv I190 rfl (y_cut hc159 I190.1 or13) rfl rfl rfl (ty_H.rc3 I190.T or13) L191 so_n ?_
    rintro h198 c199 s200 F201 A202 I203 L204 ⟨k206, k207⟩
    replace k206 := k206.symm
    subst k206
    replace k207 := k207.symm
    subst k207
    show am_Ok _ _ _ (35, _, [], _, c199, s200) _
    have hq := pt_pre hC he
    refine k_aload 36 rfl rfl rfl ?_
    refine x_gI I203 39 rfl oc4 rfl rfl rfl rfl (fun x208 (e209 : x208.toInt = F0 409) => ?_)
    refine k_istore 40 rfl rfl ?_
    refine k_aload 41 rfl (gs_ne rfl rfl rfl) rfl ?_
    refine x_gF 5 I203 44 rfl rfl (by decide) rfl ?_
    refine k_xq I203 rfl (xv_size I203.1 or5) rfl rfl rfl (ty_H.rc3 I203.T or5) (okL_set rfl L204) so_n ?_
    rintro x210 h211 c212 s213 F214 A215 I216 L217 ⟨e218, k219, k220⟩
    replace k219 := k219.symm
    subst k219
    replace k220 := k220.symm
    subst k220
    show am_Ok _ _ _ (47, _, [.inl x210], _, c212, s213) _
    refine k_istore 48 rfl rfl ?_
    refine k_push 49 rfl rfl ?_
    refine k_istore 51 rfl rfl ?_
    exact yl_X6_putTerm_51   T sz hC he _  (Av := (upl ((upl A0 48 (cutl (A0 48) (0)))) 13 (cutl (A0 13) (0)))) (v2 := F0 409) (v3 := (((A0 5).length : Nat) : Int)) (v4 := 0) rfl (gs_ne rfl rfl (gs_ne rfl rfl (gs_ne rfl rfl rfl))) (gs_ne rfl rfl (gs_ne rfl rfl (gs_ne rfl rfl rfl))) (gs_ne rfl rfl (gs_ne rfl rfl gs_eq)) (gs_ne rfl rfl gs_eq) gs_eq e209 e218 hc159 I216 (okL_set rfl (okL_set rfl L217)) (fun k k1 k2 => (upl_ne k2).trans (upl_ne k1)) (by have h9 := pt_big hC; have h8 : ¬ 120 < pk (A0 7) (sg (A0 5) (F0 409) ((A0 5).length : Int)) 0 := Int.not_lt.mpr b196; omega) (PTI.st hC (by have h9 := pt_big hC; have h8 : ¬ 120 < pk (A0 7) (sg (A0 5) (F0 409) ((A0 5).length : Int)) 0 := Int.not_lt.mpr b196; omega))
  · refine k_c2 25 rfl rfl (if_neg b196) ?_
    have b196 : ¬ ((p_X6_partsOf (F0 409) (((A0 5).length : Nat) : Int) F0 ((upl A0 48 (cutl (A0 48) (0))))).1 ≤ 120) := by have h9 := mt iv_le.mpr b196; rw [e192] at h9; rw [hc195] at h9; exact h9
    refine k_push 26 rfl rfl ?_
    exact k_fin rfl (fin_Z (Or.inl rfl)) ⟨_, _, _, _, _, _, rfl, I190, (by (try rw [hc159]); show PTQ (m_c sz) F0 A0 (0) (F0) ((upl A0 48 (cutl (A0 48) (0)))); exact ⟨Or.inl rfl, rfl, fun k k1 k2 => upl_ne k1, Or.inr ⟨by have h9 := pt_big hC; have h8 : 120 < pk (A0 7) (sg (A0 5) (F0 409) ((A0 5).length : Int)) 0 := Int.not_le.mp b196; omega, rfl⟩⟩)⟩
end
