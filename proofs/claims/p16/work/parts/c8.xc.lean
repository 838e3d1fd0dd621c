/-! THE CLASS TAKES A TEXT, held against the text's machine: what its rows hold, purely -/
/-- what an entry of the code stands for; what a code does -/
def xev (ns : List (List Int)) (x : Int) : List Int := if -1 < x then [x] else if -11 < x then nul (-1 - x).toNat ++ [2] else ns.getD (-11 - x).toNat []
def xex (ns : List (List Int)) (l : List Int) : List Int := (l.map (xev ns)).flatten
def xvl (k : Nat) (l : List Int) : Prop := ∀ x, x ∈ l → -11 - (k : Int) < x
/-- parentheses that are not closed -/
def OPN (ns : List (List Int)) (D : List Int) (cs : Nat) : List (Nat × Nat × Nat) → List Int → Nat → Prop
  | [], L, _ => L = []
  | o :: op, L, hi => ∃ (L' : List Int) (q : Nat), L = ((L' ++ [((cs + q : Nat) : Int)]) ++ [(o.2.1 : Int)]) ++ [2 * (o.2.2 : Int)] ∧ q ≤ hi ∧ 1 ≤ o.2.1 ∧ (xex ns (D.take q)).length = o.1 ∧ OPN ns D cs op L' q
/-- the code of what is told now: where its chain begins (relative) -/
def CDD (ns : List (List Int)) (D : List Int) (cs hc : Nat) (c : List Int) (ch n : Nat) (f7 : Int) (op : List (Nat × Nat × Nat)) (O : List Int) : Prop := hc ≤ D.length ∧ xvl ns.length D ∧ xex ns D = c ∧ (n = 0 → hc = D.length) ∧ (n ≠ 0 → f7 = ((cs + hc : Nat) : Int) ∧ (xex ns (D.take hc)).length = ch) ∧ OPN ns D cs op O hc
def CBD (ns : List (List Int)) (D : List Int) (cs hc : Nat) (B : List Int) (b : Nat) (op : List (Nat × Nat × Nat)) (O : List Int) : Prop := hc ≤ D.length ∧ xvl ns.length D ∧ xex ns D = B ∧ (xex ns (D.take hc)).length = b ∧ OPN ns D cs op O hc
def bD (D : List Int) (hc n : Nat) : List Int := if n = 0 then D else D.take hc ++ 0 :: D.drop hc
section XEX
variable {ns : List (List Int)} {l l' D D' O c B : List Int} {x f7 : Int} {k m cs hc q ch n b al : Nat} {op : List (Nat × Nat × Nat)} {o : Nat × Nat × Nat}
theorem xex_app : xex ns (l ++ l') = xex ns l ++ xex ns l' := by
  unfold xex
  rw [List.map_append, List.flatten_append]
theorem xex_cons : xex ns (x :: l) = xev ns x ++ xex ns l := by
  unfold xex
  rw [List.map_cons, List.flatten_cons]
theorem xex_one : xex ns [x] = xev ns x := by
  rw [xex_cons]
  exact List.append_nil _
theorem xev_p (h : -1 < x) : xev ns x = [x] := if_pos h
theorem xev_n (h : ¬ -1 < x) (h2 : -11 < x) : xev ns x = nul (-1 - x).toNat ++ [2] := (if_neg h).trans (if_pos h2)
theorem xev_w (h : ¬ -11 < x) : xev ns x = ns.getD (-11 - x).toNat [] := (if_neg (by omega)).trans (if_neg h)
theorem xvl_app : xvl k (l ++ l') ↔ xvl k l ∧ xvl k l' := ⟨fun h => ⟨fun x hx => h x (List.mem_append_left _ hx), fun x hx => h x (List.mem_append_right _ hx)⟩, fun h x hx => (List.mem_append.mp hx).elim (h.1 x) (h.2 x)⟩
theorem xvl_one (h : -11 - (k : Int) < x) : xvl k [x] := fun y hy => by
  rw [List.mem_singleton.mp hy]
  exact h
theorem xvl_mono (h : xvl k l) (hk : k ≤ m) : xvl m l := fun x hx => by
  have := h x hx
  omega
theorem xvl_take (h : xvl k l) : xvl k (l.take m) := fun x hx => h x (List.mem_of_mem_take hx)
theorem xvl_drop (h : xvl k l) : xvl k (l.drop m) := fun x hx => h x (List.mem_of_mem_drop hx)
theorem xev_more (h : -11 - (ns.length : Int) < x) : xev (ns ++ [c]) x = xev ns x := by
  by_cases h1 : -1 < x
  · rw [xev_p h1, xev_p h1]
  · by_cases h2 : -11 < x
    · rw [xev_n h1 h2, xev_n h1 h2]
    · rw [xev_w h2, xev_w h2, List.getD_eq_getElem?_getD, List.getD_eq_getElem?_getD, List.getElem?_append_left (by omega)]
theorem xex_more (h : xvl ns.length l) : xex (ns ++ [c]) l = xex ns l := by
  unfold xex
  rw [List.map_congr_left (fun x hx => xev_more (h x hx))]
theorem OPN.mono : ∀ {op : List (Nat × Nat × Nat)} {O : List Int} {q m : Nat}, OPN ns D cs op O q → q ≤ m → OPN ns D cs op O m
  | [], _, _, _, h, _ => h
  | o :: op, O, q, m, h, hm => by
    obtain ⟨L', p, e, h1, h2⟩ := h
    exact ⟨L', p, e, Nat.le_trans h1 hm, h2⟩
theorem OPN.cg : ∀ {op : List (Nat × Nat × Nat)} {O : List Int} {q : Nat}, OPN ns D cs op O q → (∀ p : Nat, p ≤ q → D'.take p = D.take p) → OPN ns D' cs op O q
  | [], _, _, h, _ => h
  | o :: op, O, q, h, e => by
    obtain ⟨L', p, e1, h1, h2, h3, h4⟩ := h
    exact ⟨L', p, e1, h1, h2, by rw [e p h1]; exact h3, OPN.cg h4 (fun p' hp => e p' (Nat.le_trans hp h1))⟩
theorem OPN.len : ∀ {op : List (Nat × Nat × Nat)} {O : List Int} {q : Nat}, OPN ns D cs op O q → O.length = 3 * op.length
  | [], O, _, h => by
    have h : O = [] := h
    rw [h]
    rfl
  | o :: op, O, q, h => by
    obtain ⟨L', p, e1, h1, h2, h3, h4⟩ := h
    have := OPN.len h4
    rw [e1, List.length_append, List.length_append, List.length_append, this]
    show 3 * op.length + 1 + 1 + 1 = 3 * (op.length + 1)
    omega
theorem CDD.bgn (h : CDD ns D cs hc c ch n f7 op O) : CBD ns (bD D hc n) cs hc (ba c ch n) (bc c ch n) op O := by
  obtain ⟨h1, h2, h3, h4, h5, h6⟩ := h
  by_cases z : n = 0
  · have e := h4 z
    unfold bD ba bc
    rw [if_pos z, if_pos z, if_pos z]
    refine ⟨h1, h2, h3, ?_, h6⟩
    rw [e, List.take_length, h3]
  · obtain ⟨h7, h8⟩ := h5 z
    unfold bD ba bc
    rw [if_neg z, if_neg z, if_neg z]
    have hl : (D.take hc).length = hc := by rw [List.length_take]; omega
    have ht : ∀ p : Nat, p ≤ hc → (D.take hc ++ 0 :: D.drop hc).take p = D.take p := fun p hp => by
      rw [List.take_append_of_le_length (by omega), List.take_take, Nat.min_eq_left hp]
    have hd : c = xex ns (D.take hc) ++ xex ns (D.drop hc) := by rw [← xex_app, List.take_append_drop, h3]
    have e1 : c.take ch = xex ns (D.take hc) := by
      rw [hd]
      exact List.take_left' h8
    have e2 : c.drop ch = xex ns (D.drop hc) := by
      rw [hd]
      exact List.drop_left' h8
    refine ⟨by rw [List.length_append]; omega, xvl_app.mpr ⟨xvl_take h2, ?_⟩, ?_, by rw [ht hc (Nat.le_refl _)]; exact h8, h6.cg ht⟩
    · intro y hy
      rcases List.mem_cons.mp hy with e | e
      · rw [e]
        omega
      · exact xvl_drop h2 y e
    · rw [xex_app, xex_cons, xev_p (by decide), e1, e2]
      first | done | rfl
theorem CBD.add (h : CBD ns D cs hc B b op O) (hx : -11 - (ns.length : Int) < x) (hn : n ≠ 0) : CDD ns (D ++ [x]) cs hc (B ++ xev ns x) b n ((cs + hc : Nat) : Int) op O := by
  obtain ⟨h1, h2, h3, h4, h5⟩ := h
  have ht : ∀ p : Nat, p ≤ hc → (D ++ [x]).take p = D.take p := fun p hp => List.take_append_of_le_length (by omega)
  exact ⟨by rw [List.length_append]; omega, xvl_app.mpr ⟨h2, xvl_one hx⟩, by rw [xex_app, xex_one, h3], fun z => absurd z hn, fun _ => ⟨rfl, by rw [ht hc (Nat.le_refl _)]; exact h4⟩, h5.cg ht⟩
theorem CBD.opn (h : CBD ns D cs hc B b op O) : CDD ns D cs D.length B ch 0 f7 ((b, n + 1, al) :: op) (((O ++ [((cs + hc : Nat) : Int)]) ++ [((n + 1 : Nat) : Int)]) ++ [2 * (al : Int)]) := by
  obtain ⟨h1, h2, h3, h4, h5⟩ := h
  exact ⟨Nat.le_refl _, h2, h3, fun _ => rfl, fun z => absurd rfl z, ⟨O, hc, rfl, h1, Nat.le_add_left 1 n, h4, h5⟩⟩
theorem CDD.clo (h : CDD ns D cs hc c ch n f7 (o :: op) O) : ∃ (O' : List Int) (q : Nat), O = ((O' ++ [((cs + q : Nat) : Int)]) ++ [(o.2.1 : Int)]) ++ [2 * (o.2.2 : Int)] ∧ CDD ns D cs q c o.1 o.2.1 ((cs + q : Nat) : Int) op O' := by
  obtain ⟨h1, h2, h3, h4, h5, h6⟩ := h
  obtain ⟨O', q, e, g1, g2, g3, g4⟩ := h6
  exact ⟨O', q, e, Nat.le_trans g1 h1, h2, h3, fun z => absurd z (by omega), fun _ => ⟨rfl, g3⟩, g4⟩
theorem CDD.part (h : CDD ns D cs hc c ch n f7 op O) (hx : -11 - (ns.length : Int) < x) : ∃ q : Nat, CDD ns (D ++ [x]) cs q (c ++ xev ns x) ch n f7 op O := by
  obtain ⟨h1, h2, h3, h4, h5, h6⟩ := h
  have ht : ∀ p : Nat, p ≤ hc → (D ++ [x]).take p = D.take p := fun p hp => List.take_append_of_le_length (by omega)
  have hv : xvl ns.length (D ++ [x]) := xvl_app.mpr ⟨h2, xvl_one hx⟩
  have he : xex ns (D ++ [x]) = c ++ xev ns x := by rw [xex_app, xex_one, h3]
  by_cases z : n = 0
  · exact ⟨(D ++ [x]).length, Nat.le_refl _, hv, he, fun _ => rfl, fun y => absurd z y, (h6.cg ht).mono (by rw [List.length_append]; omega)⟩
  · obtain ⟨h7, h8⟩ := h5 z
    exact ⟨hc, by rw [List.length_append]; omega, hv, he, fun y => absurd y z, fun _ => ⟨h7, by rw [ht hc (Nat.le_refl _)]; exact h8⟩, h6.cg ht⟩
end XEX
/-- words around; names -/
def ARD (T L : List Int) (ar : List (List Int)) : Prop := L.length = 2 * ar.length ∧ PW T L 2 (ar.length : Int) ∧ wds T L 2 ar.length = ar
def PCN (i : Nat) (p : Int) (n : Nat) : Prop := 1 ≤ n ∧ 0 ≤ p ∧ p ≤ 200 * ((i : Int) + 1) ∧ ((p ≤ 120 ∧ p = (n : Int)) ∨ (120 < p ∧ 120 < n))
def NMD (T N C : List Int) (cs : Nat) (ns nw : List (List Int)) : Prop := PW T N 5 (ns.length : Int) ∧ wds T N 5 ns.length = nw ∧ ∀ i : Nat, i < ns.length → ∃ c1 c2 : Nat, gl N (5 * (i : Int) + 2) = (c1 : Int) ∧ gl N (5 * (i : Int) + 3) = (c2 : Int) ∧ c1 ≤ c2 ∧ c2 ≤ cs ∧ xvl i ((C.take c2).drop c1) ∧ ns[i]? = some (xex ns ((C.take c2).drop c1)) ∧ PCN i (gl N (5 * (i : Int) + 4)) (xex ns ((C.take c2).drop c1)).length
def NVD (T N : List Int) (k : Nat) (nv : List Int) (cs : Nat) : Prop := (0 ≤ gl N (5 * (k : Int)) ∧ gl N (5 * (k : Int)) ≤ gl N (5 * (k : Int) + 1) ∧ gl N (5 * (k : Int) + 1) ≤ (T.length : Int)) ∧ slw T (gl N (5 * (k : Int))) (gl N (5 * (k : Int) + 1)) = nv ∧ gl N (5 * (k : Int) + 2) = (cs : Int)
section GLS
variable {T L L' N N' C C' l l' : List Int} {a b q k : Int} {n m cs c1 c2 : Nat} {ar ns nw : List (List Int)}
theorem gl_ap (h : q < (l.length : Int)) : gl (l ++ l') q = gl l q := by
  unfold gl
  by_cases h0 : 0 ≤ q
  · rw [if_pos h0, if_pos h0, List.getD_eq_getElem?_getD, List.getD_eq_getElem?_getD, List.getElem?_append_left (by omega)]
  · rw [if_neg h0, if_neg h0]
theorem gl_ap2 (h : (l.length : Int) ≤ q) : gl (l ++ l') q = gl l' (q - (l.length : Int)) := by
  unfold gl
  rw [if_pos (by omega), if_pos (by omega), List.getD_eq_getElem?_getD, List.getD_eq_getElem?_getD, List.getElem?_append_right (by omega), show q.toNat - l.length = (q - (l.length : Int)).toNat by omega]
theorem gl_tk (h : q < (n : Int)) : gl (l.take n) q = gl l q := by
  unfold gl
  by_cases h0 : 0 ≤ q
  · rw [if_pos h0, if_pos h0, List.getD_eq_getElem?_getD, List.getD_eq_getElem?_getD, List.getElem?_take_of_lt (by omega)]
  · rw [if_neg h0, if_neg h0]
theorem wds_cg (h : ∀ i : Nat, i < n → gl L' (k * i) = gl L (k * i) ∧ gl L' (k * i + 1) = gl L (k * i + 1)) : wds T L' k n = wds T L k n := by
  unfold wds
  refine List.map_congr_left (fun i hi => ?_)
  obtain ⟨e1, e2⟩ := h i (List.mem_range.mp hi)
  rw [e1, e2]
theorem wds_s : wds T L k (n + 1) = wds T L k n ++ [slw T (gl L (k * n)) (gl L (k * n + 1))] := by
  unfold wds
  rw [List.range_succ, List.map_append]
  first | done | rfl
theorem gl_z0 : gl [a, b] 0 = a := rfl
theorem gl_z1 : gl [a, b] 1 = b := rfl
theorem ARD.add (h : ARD T L ar) (hb : 0 ≤ a ∧ a ≤ b ∧ b ≤ (T.length : Int)) : ARD T (L ++ [a, b]) (ar ++ [slw T a b]) := by
  obtain ⟨h1, h2, h3⟩ := h
  have ga : gl (L ++ [a, b]) (2 * (ar.length : Int)) = a := by
    rw [gl_ap2 (by omega), show 2 * (ar.length : Int) - (L.length : Int) = 0 by omega]
    exact gl_z0
  have gb : gl (L ++ [a, b]) (2 * (ar.length : Int) + 1) = b := by
    rw [gl_ap2 (by omega), show 2 * (ar.length : Int) + 1 - (L.length : Int) = 1 by omega]
    exact gl_z1
  have hn : (ar ++ [slw T a b]).length = ar.length + 1 := by
    rw [List.length_append]
    rfl
  refine ⟨?_, ?_, ?_⟩
  · rw [hn, List.length_append, h1]
    show 2 * ar.length + 2 = 2 * (ar.length + 1)
    omega
  · rw [hn]
    intro i i0 i1
    by_cases z : i = (ar.length : Int)
    · rw [z, ga, gb]
      exact hb
    · rw [gl_ap (by omega), gl_ap (by omega)]
      exact h2 i i0 (by omega)
  · rw [hn, wds_s, ga, gb, wds_cg (L := L) (fun i hi => ⟨gl_ap (by omega), gl_ap (by omega)⟩), h3]
theorem ARD.cut (h : ARD T L ar) : ARD T (L.take (2 * m)) (ar.take m) := by
  obtain ⟨h1, h2, h3⟩ := h
  by_cases z : ar.length ≤ m
  · rw [List.take_of_length_le (by omega), List.take_of_length_le z]
    exact ⟨h1, h2, h3⟩
  · have hn : (ar.take m).length = m := by rw [List.length_take]; omega
    refine ⟨by rw [hn, List.length_take]; omega, ?_, ?_⟩
    · rw [hn]
      intro i i0 i1
      rw [gl_tk (by omega), gl_tk (by omega)]
      exact h2 i i0 (by omega)
    · rw [hn, wds_cg (L := L) (fun i hi => ⟨gl_tk (by omega), gl_tk (by omega)⟩)]
      apply List.ext_getElem?
      intro i
      by_cases y : i < m
      · rw [List.getElem?_take_of_lt y, wds_g y]
        have e := wds_g (T := T) (L := L) (k := 2) (show i < ar.length by omega)
        rw [h3] at e
        exact e.symm
      · rw [List.getElem?_eq_none (by rw [wds_l]; omega), List.getElem?_eq_none (by omega)]
theorem ARD.z : ARD T [] [] := ⟨rfl, fun i i0 i1 => absurd i1 (by show ¬ i < ((0 : Nat) : Int); omega), rfl⟩
theorem tk_cg (e : C'.take cs = C.take cs) (h : c2 ≤ cs) : C'.take c2 = C.take c2 := by
  have e1 : (C'.take cs).take c2 = C'.take c2 := by rw [List.take_take, Nat.min_eq_left h]
  have e2 : (C.take cs).take c2 = C.take c2 := by rw [List.take_take, Nat.min_eq_left h]
  rw [← e1, ← e2, e]
theorem NMD.cg (h : NMD T N C cs ns nw) (e : C'.take cs = C.take cs) : NMD T N C' cs ns nw := by
  obtain ⟨h1, h2, h3⟩ := h
  refine ⟨h1, h2, fun i hi => ?_⟩
  obtain ⟨c1, c2, g1, g2, g3, g4, g5⟩ := h3 i hi
  exact ⟨c1, c2, g1, g2, g3, g4, by rw [tk_cg e g4]; exact g5⟩
theorem NMD.nm (h : NMD T N C cs ns nw) (e : ∀ q : Int, 0 ≤ q → q < 5 * (ns.length : Int) → gl N' q = gl N q) : NMD T N' C cs ns nw := by
  obtain ⟨h1, h2, h3⟩ := h
  refine ⟨fun i i0 i1 => ?_, ?_, fun i hi => ?_⟩
  · rw [e _ (by omega) (by omega), e _ (by omega) (by omega)]
    exact h1 i i0 i1
  · rw [wds_cg (L := N) (fun i hi => ⟨e _ (by omega) (by omega), e _ (by omega) (by omega)⟩)]
    exact h2
  · obtain ⟨c1, c2, g1, g2, g3⟩ := h3 i hi
    exact ⟨c1, c2, by rw [e _ (by omega) (by omega)]; exact g1, by rw [e _ (by omega) (by omega)]; exact g2, by rw [e _ (by omega) (by omega)]; exact g3⟩
theorem NMD.nwl (h : NMD T N C cs ns nw) : nw.length = ns.length := by
  rw [← h.2.1]
  exact wds_l
end GLS
