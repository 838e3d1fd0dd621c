/-! A TEXT, token by token, purely: a state (where in the grammar; behind which byte; parts so far; where the chain begins; its atoms; the names' parts, their words; the words around; open parentheses; whether a name is told, its word) -/
def slw (T : List Int) (a b : Int) : List Int := (T.drop a.toNat).take (b - a).toNat
def en (w : List Int) : Int := w.foldl (fun n c => 27 * n + c - 97 + 1) 0
def wok (w : List Int) : Prop := w.length ≤ 8 ∧ ∀ x, x ∈ w → 97 ≤ x ∧ x ≤ 122
section WD
variable {T w v : List Int} {p q x : Int}
theorem en_s : en (w ++ [x]) = 27 * en w + x - 97 + 1 := by
  unfold en
  rw [List.foldl_append]
  rfl
theorem slw_z : slw T p p = [] := by
  unfold slw
  rw [show (p - p).toNat = 0 by omega]
  rfl
theorem slw_s (h0 : 0 ≤ p) (h1 : p ≤ q) (h2 : q < (T.length : Int)) : slw T p (q + 1) = slw T p q ++ [gl T q] := by
  unfold slw
  rw [show (q + 1 - p).toNat = (q - p).toNat + 1 by omega, List.take_add_one, List.getElem?_drop, show p.toNat + (q - p).toNat = q.toNat by omega, gl_at (by omega) h2]
  rfl
theorem slw_l (h0 : 0 ≤ p) (h1 : p ≤ q) (h2 : q ≤ (T.length : Int)) : ((slw T p q).length : Int) = q - p := by
  unfold slw
  rw [List.length_take, List.length_drop]
  omega
theorem slw_g {k : Nat} (h0 : 0 ≤ p) (h2 : q ≤ (T.length : Int)) (hk : (k : Int) < q - p) : (slw T p q)[k]? = some (gl T (p + k)) := by
  unfold slw
  rw [List.getElem?_take_of_lt (by omega), List.getElem?_drop, show p.toNat + k = (p + (k : Int)).toNat by omega, gl_at (by omega) (by omega)]
theorem tk_w {f : Int → Bool} : ∀ {l : List Int}, l.take (l.takeWhile f).length = l.takeWhile f ∧ ∀ x, x ∈ l.takeWhile f → f x = true
  | [] => ⟨rfl, fun x hx => by cases hx⟩
  | a :: l => by
    cases h : f a with
    | true =>
      rw [List.takeWhile_cons_of_pos h]
      refine ⟨by rw [List.length_cons, List.take_succ_cons, tk_w.1], fun x hx => ?_⟩
      rcases List.mem_cons.mp hx with e | e
      · rw [e]; exact h
      · exact tk_w.2 x e
    | false =>
      rw [List.takeWhile_cons_of_neg (by rw [h]; decide)]
      exact ⟨rfl, fun x hx => by cases hx⟩
theorem slw_tw {f : Int → Bool} : slw T p (tw f T p) = (T.drop p.toNat).takeWhile f := by
  unfold slw tw
  rw [show (p + (((T.drop p.toNat).takeWhile f).length : Int) - p).toNat = ((T.drop p.toNat).takeWhile f).length by omega]
  exact tk_w.1
theorem wok_tk {e : Int} (h : tO T e = 97) (h8 : tE T e - tS T e ≤ 8) (h0 : 0 ≤ e) (h1 : e ≤ (T.length : Int)) : wok (slw T (tS T e) (tE T e)) := by
  have hb := tS_b (T := T) h0 h1
  have hE := tE_b (T := T) h0 h1
  refine ⟨?_, fun x hx => ?_⟩
  · have := slw_l (T := T) (p := tS T e) (q := tE T e) (by omega) hE.1 hE.2.1
    omega
  · have e1 : tE T e = tw lett T (tS T e) := by
      unfold tE
      rw [if_neg (by rw [h]; decide), if_pos h]
    rw [e1, slw_tw] at hx
    have h2 := tk_w.2 x hx
    unfold lett at h2
    exact of_decide_eq_true h2
theorem en_nn : ∀ {n : Nat} {w : List Int}, w.length = n → (∀ x, x ∈ w → 97 ≤ x ∧ x ≤ 122) → 0 ≤ en w ∧ en w < 27 ^ n
  | 0, w, hn, h => by
    rw [List.eq_nil_of_length_eq_zero hn]
    exact ⟨by decide, by decide⟩
  | n + 1, w, hn, h => by
    rcases List.eq_nil_or_concat w with e | ⟨v, x, e⟩
    · rw [e] at hn
      cases hn
    · rw [List.concat_eq_append] at e
      subst e
      rw [List.length_append] at hn
      have hn : v.length = n := Nat.succ.inj hn
      have h1 := en_nn hn (fun y hy => h y (List.mem_append_left _ hy))
      have h2 := h x (List.mem_append_right _ (List.mem_singleton.mpr rfl))
      rw [en_s, show (27 : Int) ^ (n + 1) = 27 ^ n * 27 from Int.pow_succ 27 n]
      omega
theorem en_inj : ∀ {n : Nat} {w v : List Int}, w.length = n → (∀ x, x ∈ w → 97 ≤ x ∧ x ≤ 122) → (∀ x, x ∈ v → 97 ≤ x ∧ x ≤ 122) → en w = en v → w = v
  | 0, w, v, hn, hw, hv, e => by
    have ew := List.eq_nil_of_length_eq_zero hn
    subst ew
    rcases List.eq_nil_or_concat v with ev | ⟨v', y, ev⟩
    · exact ev.symm
    · rw [List.concat_eq_append] at ev
      subst ev
      exfalso
      have h1 := en_nn rfl (fun z hz => hv z (List.mem_append_left _ hz))
      have h2 := hv y (List.mem_append_right _ (List.mem_singleton.mpr rfl))
      rw [en_s] at e
      have e0 : en [] = 0 := rfl
      omega
  | n + 1, w, v, hn, hw, hv, e => by
    rcases List.eq_nil_or_concat w with e1 | ⟨w', x, e1⟩
    · rw [e1] at hn
      cases hn
    · rw [List.concat_eq_append] at e1
      subst e1
      rw [List.length_append] at hn
      have hn : w'.length = n := Nat.succ.inj hn
      have hw' := fun y hy => hw y (List.mem_append_left [x] hy)
      have h1 := en_nn hn hw'
      have h2 := hw x (List.mem_append_right _ (List.mem_singleton.mpr rfl))
      rcases List.eq_nil_or_concat v with ev | ⟨v', y, ev⟩
      · exfalso
        rw [ev, en_s] at e
        have e0 : en [] = 0 := rfl
        omega
      · rw [List.concat_eq_append] at ev
        subst ev
        have hv' := fun z hz => hv z (List.mem_append_left [y] hz)
        have h4 := hv y (List.mem_append_right _ (List.mem_singleton.mpr rfl))
        rw [en_s, en_s] at e
        have hxy : x = y := by omega
        subst hxy
        rw [en_inj hn hw' hv' (by omega)]
theorem en_i (hw : wok w) (hv : wok v) (e : en w = en v) : w = v := en_inj rfl hw.2 hv.2 e
theorem en_b (hw : wok w) : 0 ≤ en w ∧ en w < 282429536481 := by
  have h1 := en_nn rfl hw.2
  have h2 : (27 : Int) ^ w.length ≤ 27 ^ 8 := by
    have h3 : (27 : Nat) ^ w.length ≤ 27 ^ 8 := Nat.pow_le_pow_right (by decide) hw.1
    have h4 : ((27 ^ w.length : Nat) : Int) ≤ ((27 ^ 8 : Nat) : Int) := Int.ofNat_le.mpr h3
    rw [Int.natCast_pow, Int.natCast_pow] at h4
    exact h4
  have h3 : (27 : Int) ^ 8 = 282429536481 := by decide
  omega
end WD
/-- the first place of a word in a row of words; -1 -/
def fi (w : List Int) : List (List Int) → Int
  | [] => -1
  | x :: l => if x = w then 0 else if fi w l = -1 then -1 else fi w l + 1
section FI
variable {w : List Int}
theorem fi_c : ∀ {l : List (List Int)}, (fi w l = -1 ∧ ∀ k : Nat, l[k]? ≠ some w) ∨ (0 ≤ fi w l ∧ fi w l < (l.length : Int) ∧ l[(fi w l).toNat]? = some w ∧ ∀ k : Nat, (k : Int) < fi w l → l[k]? ≠ some w)
  | [] => Or.inl ⟨rfl, fun k hk => by cases hk⟩
  | x :: l => by
    by_cases e : x = w
    · have e1 : fi w (x :: l) = 0 := if_pos e
      rw [e1]
      exact Or.inr ⟨by omega, by rw [List.length_cons]; omega, by rw [← e]; rfl, fun k hk => by omega⟩
    · have e1 : fi w (x :: l) = if fi w l = -1 then -1 else fi w l + 1 := if_neg e
      rcases fi_c (l := l) with ⟨h1, h2⟩ | ⟨h1, h2, h3, h4⟩
      · rw [e1, if_pos h1]
        refine Or.inl ⟨rfl, fun k hk => ?_⟩
        match k, hk with
        | 0, hk => exact e (Option.some.inj hk)
        | k + 1, hk => exact h2 k hk
      · rw [e1, if_neg (by omega)]
        refine Or.inr ⟨by omega, by rw [List.length_cons]; omega, by rw [show (fi w l + 1).toNat = (fi w l).toNat + 1 by omega]; exact h3, fun k hk he => ?_⟩
        match k, hk, he with
        | 0, hk, he => exact e (Option.some.inj he)
        | k + 1, hk, he => exact h4 k (by omega) he
theorem fi_u {l : List (List Int)} {x : Int} (h : (x = -1 ∧ ∀ k : Nat, l[k]? ≠ some w) ∨ (0 ≤ x ∧ l[x.toNat]? = some w ∧ ∀ k : Nat, (k : Int) < x → l[k]? ≠ some w)) : fi w l = x := by
  rcases fi_c (w := w) (l := l) with ⟨h1, h2⟩ | ⟨h1, h2, h3, h4⟩
  · rcases h with h | h
    · omega
    · exact absurd h.2.1 (h2 _)
  · rcases h with h | h
    · exact absurd h3 (h.2 _)
    · by_cases z : fi w l < x
      · exact absurd h3 (h.2.2 _ (by omega))
      · by_cases z2 : x < fi w l
        · exact absurd h.2.1 (h4 _ (by omega))
        · omega
end FI
/-- a number's parts; how an atom begins -/
def nul (n : Nat) : List Int := 1 :: 1 :: (List.replicate n [0, 3]).flatten
def ba (c : List Int) (ch n : Nat) : List Int := if n = 0 then c else c.take ch ++ 0 :: c.drop ch
def bc (c : List Int) (ch n : Nat) : Nat := if n = 0 then c.length else ch
abbrev mS : Type := Nat × Int × List Int × Nat × Nat × List (List Int) × List (List Int) × List (List Int) × List (Nat × Nat × Nat) × Nat × List Int
abbrev m_st (s : mS) : Nat := s.1
abbrev m_e (s : mS) : Int := s.2.1
abbrev m_c (s : mS) : List Int := s.2.2.1
abbrev m_ch (s : mS) : Nat := s.2.2.2.1
abbrev m_at (s : mS) : Nat := s.2.2.2.2.1
abbrev m_ns (s : mS) : List (List Int) := s.2.2.2.2.2.1
abbrev m_nw (s : mS) : List (List Int) := s.2.2.2.2.2.2.1
abbrev m_ar (s : mS) : List (List Int) := s.2.2.2.2.2.2.2.1
abbrev m_op (s : mS) : List (Nat × Nat × Nat) := s.2.2.2.2.2.2.2.2.1
abbrev m_na (s : mS) : Nat := s.2.2.2.2.2.2.2.2.2.1
abbrev m_nv (s : mS) : List Int := s.2.2.2.2.2.2.2.2.2.2
def m_w (T : List Int) (s : mS) : List Int := slw T (tS T (m_e s)) (tE T (m_e s))
def m_B (s : mS) : List Int := ba (m_c s) (m_ch s) (m_at s)
/-- an atom's parts are told -/
def m_a (T : List Int) (s : mS) (l : List Int) : mS := (4, tE T (m_e s), m_B s ++ l, bc (m_c s) (m_ch s) (m_at s), m_at s + 1, m_ns s, m_nw s, m_ar s, m_op s, m_na s, m_nv s)
def ms (T : List Int) (s : mS) : mS ⊕ (Int × Int × List Int) :=
  if tO T (m_e s) = 97 then
    if 8 < tE T (m_e s) - tS T (m_e s) then .inr (2, tS T (m_e s), [])
    else if m_st s = 2 ∨ m_st s = 3 then
      if 30 ≤ (m_ar s).length then .inr (2, tS T (m_e s), [])
      else .inl (3, tE T (m_e s), m_c s ++ [1], m_ch s, m_at s, m_ns s, m_nw s, m_ar s ++ [m_w T s], m_op s, m_na s, m_nv s)
    else if m_st s = 0 ∧ tO T (tE T (m_e s)) = 61 then
      if (m_ns s).length = 12 then .inr (2, tS T (m_e s), [])
      else if fi (m_w T s) (m_nw s) ≠ -1 then .inr (4, tS T (m_e s), [])
      else .inl (1, tE T (tE T (m_e s)), m_c s, m_ch s, m_at s, m_ns s, m_nw s, m_ar s, m_op s, 1, m_w T s)
    else if fi (m_w T s) (m_ar s).reverse ≠ -1 then .inl (m_a T s [2 + fi (m_w T s) (m_ar s).reverse])
    else if fi (m_w T s) (m_nw s) ≠ -1 then .inl (m_a T s ((m_ns s).getD (fi (m_w T s) (m_nw s)).toNat []))
    else .inr (3, tS T (m_e s), [])
  else if tO T (m_e s) = 48 then
    if m_st s = 0 ∨ m_st s = 1 ∨ m_st s = 4 then
      if 1 < tE T (m_e s) - tS T (m_e s) then .inr (2, tS T (m_e s), [])
      else .inl (m_a T s (nul (gl T (tS T (m_e s)) - 48).toNat ++ [2]))
    else .inr (1, tS T (m_e s), [])
  else if tO T (m_e s) = 40 then
    if m_st s = 0 ∨ m_st s = 1 ∨ m_st s = 4 then
      if 12 ≤ (m_op s).length then .inr (2, tS T (m_e s), [])
      else .inl (1, tE T (m_e s), m_B s, m_ch s, 0, m_ns s, m_nw s, m_ar s, (bc (m_c s) (m_ch s) (m_at s), m_at s + 1, (m_ar s).length) :: m_op s, m_na s, m_nv s)
    else .inr (1, tS T (m_e s), [])
  else if tO T (m_e s) = 41 then
    if m_st s = 4 ∧ (m_op s).length ≠ 0 then .inl (4, tE T (m_e s), m_c s, ((m_op s).headD (0, 0, 0)).1, ((m_op s).headD (0, 0, 0)).2.1, m_ns s, m_nw s, (m_ar s).take ((m_op s).headD (0, 0, 0)).2.2, (m_op s).tail, m_na s, m_nv s)
    else .inr (1, tS T (m_e s), [])
  else if tO T (m_e s) = 92 then
    if m_st s = 0 ∨ m_st s = 1 then .inl (2, tE T (m_e s), m_c s, m_ch s, m_at s, m_ns s, m_nw s, m_ar s, m_op s, m_na s, m_nv s)
    else .inr (1, tS T (m_e s), [])
  else if tO T (m_e s) = 46 then
    if m_st s = 3 then .inl (1, tE T (m_e s), m_c s, m_ch s, m_at s, m_ns s, m_nw s, m_ar s, m_op s, m_na s, m_nv s)
    else .inr (1, tS T (m_e s), [])
  else if tO T (m_e s) = 59 then
    if m_st s = 4 ∧ (m_op s).length = 0 ∧ m_na s = 1 then .inl (0, tE T (m_e s), [], m_ch s, 0, m_ns s ++ [m_c s], m_nw s ++ [m_nv s], [], m_op s, 0, m_nv s)
    else .inr (1, tS T (m_e s), [])
  else if tO T (m_e s) = 0 then
    if m_st s = 4 ∧ (m_op s).length = 0 ∧ m_na s = 0 then .inr (0, tS T (m_e s), m_c s)
    else .inr (1, tS T (m_e s), [])
  else .inr (1, tS T (m_e s), [])
def mr (T : List Int) : Nat → mS → Option (Int × Int × List Int)
  | 0, _ => none
  | n + 1, s => match ms T s with
    | .inr r => some r
    | .inl s' => mr T n s'
def Ev (T : List Int) (s : mS) (r : Int × Int × List Int) : Prop := ∃ n : Nat, mr T n s = some r
def Rc (T : List Int) (s s' : mS) : Prop := ∀ r, Ev T s' r → Ev T s r
def m_0 : mS := (0, 0, [], 0, 0, [], [], [], [], 0, [])
section EV
variable {T : List Int} {s s' s2 : mS} {r r' : Int × Int × List Int}
theorem Ev.stop (h : ms T s = .inr r) : Ev T s r := ⟨1, by unfold mr; rw [h]⟩
theorem Ev.next (h : ms T s = .inl s') (h2 : Ev T s' r) : Ev T s r := by
  obtain ⟨n, h3⟩ := h2
  exact ⟨n + 1, by unfold mr; rw [h]; exact h3⟩
theorem mr_up : ∀ {n : Nat} {s : mS}, mr T n s = some r → mr T (n + 1) s = some r
  | 0, _, h => by cases h
  | n + 1, s, h => by
    unfold mr at h ⊢
    split
    · rename_i r9 e
      rw [e] at h
      exact h
    · rename_i s9 e
      rw [e] at h
      exact mr_up h
theorem mr_add {n : Nat} (h : mr T n s = some r) : ∀ k : Nat, mr T (n + k) s = some r
  | 0 => h
  | k + 1 => mr_up (mr_add h k)
theorem Ev.det (h : Ev T s r) (h' : Ev T s r') : r = r' := by
  obtain ⟨n, h1⟩ := h
  obtain ⟨k, h2⟩ := h'
  have a := mr_add h1 k
  have b := mr_add h2 n
  rw [Nat.add_comm] at b
  rw [a] at b
  exact Option.some.inj b
theorem Rc.rf : Rc T s s := fun _ h => h
theorem Rc.tr (a : Rc T s s') (b : Rc T s' s2) : Rc T s s2 := fun r h => a r (b r h)
theorem Rc.st (h : ms T s = .inl s') : Rc T s s' := fun _ h2 => Ev.next h h2
theorem Rc.nx (a : Rc T s s') (h : ms T s' = .inl s2) : Rc T s s2 := a.tr (Rc.st h)
theorem Rc.sp (a : Rc T s s') (h : ms T s' = .inr r) : Ev T s r := a r (Ev.stop h)
end EV
