/-! LAYING, as the class does it, purely: frames, ends, latest ends, how many nodes are made -/
abbrev lFr : Type := List (Int × Int)
abbrev lST : Type := lFr × lFr × List Int × Nat
def plc (EN : lFr) (x : Int) : Int := (EN.getD x.toNat (0, 0)).1
def nxt (EN : lFr) (x : Int) : Int := (EN.getD x.toNat (0, 0)).2
def bkn (EN : lFr) (a : Int) : List Int → Nat
  | [] => 0
  | x :: l => (if x ≠ -1 ∧ a ≤ plc EN x then 1 else 0) + bkn EN a l
def fnv (EN : lFr) (p a x : Int) : Int := if x ≠ -1 ∧ a ≤ plc EN x ∧ nxt EN x ≠ -1 ∧ p < plc EN (nxt EN x) then nxt EN x else x
def fnn (EN : lFr) (p a : Int) : List Int → Nat
  | [] => 0
  | x :: l => (if x ≠ -1 ∧ a ≤ plc EN x ∧ nxt EN x ≠ -1 ∧ p < plc EN (nxt EN x) then 1 else 0) + fnn EN p a l
def lfin (b : Int) (EN : lFr) : lFr → List Int → Nat → lFr × List Int × Nat
  | [], LE, m => ([], LE, m)
  | f :: fr, LE, m => if f.2 = 0 then ((f.1, b) :: fr, LE, m) else if f.2 = -1 then lfin b EN fr LE.dropLast (m + if LE.getLastD 0 = -1 then 1 else 0) else lfin b EN fr (LE.map (fnv EN f.1 f.2)) (m + bkn EN f.2 LE + fnn EN f.1 f.2 LE)
def fn3 (b : Int) (EN : lFr) (fr : lFr) (LE : List Int) (m : Nat) : lST := ((lfin b EN fr LE m).1, EN, (lfin b EN fr LE m).2.1, (lfin b EN fr LE m).2.2)
def wkl (x i : Int) (S : lST) : lST := if x = 0 then ((i, 0) :: S.1, S.2.1, S.2.2.1, S.2.2.2 + 1) else if x = 1 then ((i, -1) :: S.1, S.2.1, S.2.2.1 ++ [-1], S.2.2.2 + 1) else fn3 (i + 1) (S.2.1 ++ [(i, gl S.2.2.1 ((S.2.2.1.length : Int) - 1 - (x - 2)))]) S.1 (ssl S.2.2.1 ((S.2.2.1.length : Int) - 1 - (x - 2)) (S.2.1.length : Int)) (S.2.2.2 + 1)
def rnl (t : Int → Int) : Nat → Int → lST → lST
  | 0, _, S => S
  | k + 1, i, S => rnl t k (i + 1) (wkl (t i) i S)
def RLq (EN : lFr) (g : Int → Bool) (i : Int) (LE LE' : List Int) : Prop := LE'.length = LE.length ∧ ∀ v : Int, 0 ≤ v → v < (LE.length : Int) → (g v = true ∧ 0 ≤ gl LE' v ∧ gl LE' v < (EN.length : Int) ∧ i ≤ plc EN (gl LE' v) ∧ nxt EN (gl LE' v) = gl LE v) ∨ (g v = false ∧ gl LE' v = gl LE v)
def WFX (EN : lFr) (LE : List Int) (i : Int) : Prop := (∀ v : Int, 0 ≤ v → v < (LE.length : Int) → gl LE v = -1 ∨ (0 ≤ gl LE v ∧ gl LE v < (EN.length : Int) ∧ plc EN (gl LE v) < i)) ∧ ∀ x : Int, 0 ≤ x → x < (EN.length : Int) → nxt EN x = -1 ∨ (0 ≤ nxt EN x ∧ nxt EN x < (EN.length : Int))
section LPS
variable {EN EN' X fr : lFr} {LE LE' l : List Int} {a b d i p v x y : Int} {m n k : Nat} {g g' : Int → Bool} {t u : Int → Int} {S : lST}
theorem plc_a (h0 : 0 ≤ x) (h1 : x < (EN.length : Int)) : plc (EN ++ X) x = plc EN x := by
  unfold plc
  rw [List.getD_eq_getElem?_getD, List.getD_eq_getElem?_getD, List.getElem?_append_left (by omega)]
theorem nxt_a (h0 : 0 ≤ x) (h1 : x < (EN.length : Int)) : nxt (EN ++ X) x = nxt EN x := by
  unfold nxt
  rw [List.getD_eq_getElem?_getD, List.getD_eq_getElem?_getD, List.getElem?_append_left (by omega)]
theorem plc_e : plc (EN ++ [(p, y)]) (EN.length : Int) = p := by
  unfold plc
  rw [List.getD_eq_getElem?_getD, show ((EN.length : Int)).toNat = EN.length by omega, List.getElem?_append_right (Nat.le_refl _), Nat.sub_self]
  first | done | rfl
theorem nxt_e : nxt (EN ++ [(p, y)]) (EN.length : Int) = y := by
  unfold nxt
  rw [List.getD_eq_getElem?_getD, show ((EN.length : Int)).toNat = EN.length by omega, List.getElem?_append_right (Nat.le_refl _), Nat.sub_self]
  first | done | rfl
theorem gl_last (h : l ≠ []) : l.getLastD 0 = gl l ((l.length : Int) - 1) := by
  have hl : 1 ≤ l.length := by
    cases l with
    | nil => exact absurd rfl h
    | cons x l => exact Nat.le_add_left 1 _
  unfold gl
  rw [if_pos (by omega), List.getLastD_eq_getLast?, List.getLast?_eq_getElem?, List.getD_eq_getElem?_getD, show ((l.length : Int) - 1).toNat = l.length - 1 by omega]
theorem gl_dl (h : v < (l.length : Int) - 1) : gl l.dropLast v = gl l v := by
  rw [List.dropLast_eq_take]
  exact gl_tk (by omega)
theorem gl_map {f : Int → Int} (h0 : 0 ≤ v) (h1 : v < (l.length : Int)) : gl (l.map f) v = f (gl l v) := by
  have e1 := gl_at h0 h1
  have e2 := gl_at (T := l.map f) h0 (by rw [List.length_map]; exact h1)
  rw [List.getElem?_map, e1] at e2
  exact (Option.some.inj e2).symm
theorem bkn_app : bkn EN a (l ++ [x]) = bkn EN a l + (if x ≠ -1 ∧ a ≤ plc EN x then 1 else 0) := by
  induction l with
  | nil =>
    exact (Nat.zero_add _).symm
  | cons y l ih =>
    show (if y ≠ -1 ∧ a ≤ plc EN y then 1 else 0) + bkn EN a (l ++ [x]) = (if y ≠ -1 ∧ a ≤ plc EN y then 1 else 0) + bkn EN a l + (if x ≠ -1 ∧ a ≤ plc EN x then 1 else 0)
    rw [ih]
    exact (Nat.add_assoc _ _ _).symm
theorem fnn_app : fnn EN p a (l ++ [x]) = fnn EN p a l + (if x ≠ -1 ∧ a ≤ plc EN x ∧ nxt EN x ≠ -1 ∧ p < plc EN (nxt EN x) then 1 else 0) := by
  induction l with
  | nil =>
    exact (Nat.zero_add _).symm
  | cons y l ih =>
    show (if y ≠ -1 ∧ a ≤ plc EN y ∧ nxt EN y ≠ -1 ∧ p < plc EN (nxt EN y) then 1 else 0) + fnn EN p a (l ++ [x]) = (if y ≠ -1 ∧ a ≤ plc EN y ∧ nxt EN y ≠ -1 ∧ p < plc EN (nxt EN y) then 1 else 0) + fnn EN p a l + (if x ≠ -1 ∧ a ≤ plc EN x ∧ nxt EN x ≠ -1 ∧ p < plc EN (nxt EN x) then 1 else 0)
    rw [ih]
    exact (Nat.add_assoc _ _ _).symm
theorem gl_cc (h : v < (l.length : Int)) : gl (l ++ [x]) v = gl l v := gl_ap h
theorem gl_ce : gl (l ++ [x]) (l.length : Int) = x := by
  rw [gl_ap2 (Int.le_refl _), Int.sub_self]
  rfl
theorem bkn_cu : ∀ {n : Nat} {l : List Int}, l.length = n → (∀ v : Int, 0 ≤ v → v < (n : Int) → ((gl l v ≠ -1 ∧ a ≤ plc EN (gl l v)) ↔ g v = true)) → bkn EN a l = cu g n
  | 0, l, hl, h => by
    rw [List.eq_nil_of_length_eq_zero hl]
    rfl
  | n + 1, l, hl, h => by
    rcases List.eq_nil_or_concat l with e | ⟨l', x, e⟩
    · rw [e] at hl
      cases hl
    · rw [List.concat_eq_append] at e
      subst e
      rw [List.length_append] at hl
      have hl : l'.length = n := Nat.succ.inj hl
      have ih := bkn_cu hl (fun v v0 v1 => by
        have h2 := h v v0 (by omega)
        rw [gl_cc (by omega)] at h2
        exact h2)
      have h3 := h (l'.length : Int) (by omega) (by omega)
      rw [gl_ce] at h3
      rw [bkn_app, ih]
      show _ = cu g n + (if g (n : Int) = true then 1 else 0)
      rw [← hl]
      by_cases z : g (l'.length : Int) = true
      · rw [if_pos z, if_pos (h3.mpr z)]
      · rw [if_neg z, if_neg (fun y => z (h3.mp y))]
theorem fnn_cu : ∀ {n : Nat} {l : List Int}, l.length = n → (∀ v : Int, 0 ≤ v → v < (n : Int) → ((gl l v ≠ -1 ∧ a ≤ plc EN (gl l v) ∧ nxt EN (gl l v) ≠ -1 ∧ p < plc EN (nxt EN (gl l v))) ↔ g v = true)) → fnn EN p a l = cu g n
  | 0, l, hl, h => by
    rw [List.eq_nil_of_length_eq_zero hl]
    rfl
  | n + 1, l, hl, h => by
    rcases List.eq_nil_or_concat l with e | ⟨l', x, e⟩
    · rw [e] at hl
      cases hl
    · rw [List.concat_eq_append] at e
      subst e
      rw [List.length_append] at hl
      have hl : l'.length = n := Nat.succ.inj hl
      have ih := fnn_cu hl (fun v v0 v1 => by
        have h2 := h v v0 (by omega)
        rw [gl_cc (by omega)] at h2
        exact h2)
      have h3 := h (l'.length : Int) (by omega) (by omega)
      rw [gl_ce] at h3
      rw [fnn_app, ih]
      show _ = cu g n + (if g (n : Int) = true then 1 else 0)
      rw [← hl]
      by_cases z : g (l'.length : Int) = true
      · rw [if_pos z, if_pos (h3.mpr z)]
      · rw [if_neg z, if_neg (fun y => z (h3.mp y))]
theorem rn_add : ∀ {m n : Nat} {i : Int} {S : lST}, rnl t (m + n) i S = rnl t n (i + m) (rnl t m i S)
  | 0, n, i, S => by
    rw [Nat.zero_add, show i + ((0 : Nat) : Int) = i by omega]
    first | done | rfl
  | m + 1, n, i, S => by
    have e : m + 1 + n = (m + n) + 1 := by omega
    rw [e]
    show rnl t (m + n) (i + 1) (wkl (t i) i S) = rnl t n (i + ((m + 1 : Nat) : Int)) (rnl t m (i + 1) (wkl (t i) i S))
    rw [rn_add (m := m) (n := n), show i + 1 + (m : Int) = i + ((m + 1 : Nat) : Int) by omega]
theorem wk_0 (h : x = 0) : wkl x i (fr, EN, LE, m) = ((i, 0) :: fr, EN, LE, m + 1) := if_pos h
theorem wk_1 (h : x = 1) : wkl x i (fr, EN, LE, m) = ((i, -1) :: fr, EN, LE ++ [-1], m + 1) := (if_neg (by omega)).trans (if_pos h)
theorem wk_2 (h : x ≠ 0) (h1 : x ≠ 1) : wkl x i (fr, EN, LE, m) = fn3 (i + 1) (EN ++ [(i, gl LE ((LE.length : Int) - 1 - (x - 2)))]) fr (ssl LE ((LE.length : Int) - 1 - (x - 2)) (EN.length : Int)) (m + 1) := (if_neg h).trans (if_neg h1)
theorem fn3_0 (h : x = 0) : fn3 b EN ((p, x) :: fr) LE m = ((p, b) :: fr, EN, LE, m) := by
  have e : lfin b EN ((p, x) :: fr) LE m = ((p, b) :: fr, LE, m) := if_pos h
  unfold fn3
  rw [e]
  first | done | rfl
theorem fn3_1 (h : x = -1) : fn3 b EN ((p, x) :: fr) LE m = fn3 b EN fr LE.dropLast (m + if LE.getLastD 0 = -1 then 1 else 0) := by
  have e : lfin b EN ((p, x) :: fr) LE m = lfin b EN fr LE.dropLast (m + if LE.getLastD 0 = -1 then 1 else 0) := (if_neg (by show ¬ x = 0; omega)).trans (if_pos h)
  unfold fn3
  rw [e]
theorem fn3_2 (h : x ≠ 0) (h1 : x ≠ -1) : fn3 b EN ((p, x) :: fr) LE m = fn3 b EN fr (LE.map (fnv EN p x)) (m + bkn EN x LE + fnn EN p x LE) := by
  have e : lfin b EN ((p, x) :: fr) LE m = lfin b EN fr (LE.map (fnv EN p x)) (m + bkn EN x LE + fnn EN p x LE) := (if_neg h).trans (if_neg h1)
  unfold fn3
  rw [e]
theorem WFX.mono (h : WFX EN LE i) (hi : i ≤ p) : WFX EN LE p := ⟨fun v v0 v1 => by
  rcases h.1 v v0 v1 with z | z
  · exact Or.inl z
  · exact Or.inr ⟨z.1, z.2.1, by omega⟩, h.2⟩
theorem rn_var (hd : (LE.length : Int) = d) (hw : WFX EN LE i) (h2 : 2 ≤ y) (hy : y - 2 < d) : RLq (EN ++ [(i, gl LE (d - 1 - (y - 2)))]) (fun v => decide (v = d - 1 - (y - 2))) i LE (ssl LE (d - 1 - (y - 2)) (EN.length : Int)) ∧ WFX (EN ++ [(i, gl LE (d - 1 - (y - 2)))]) (ssl LE (d - 1 - (y - 2)) (EN.length : Int)) (i + 1) := by
  have hn : (EN ++ [(i, gl LE (d - 1 - (y - 2)))]).length = EN.length + 1 := by
    rw [List.length_append]
    rfl
  have hs : gl (ssl LE (d - 1 - (y - 2)) (EN.length : Int)) (d - 1 - (y - 2)) = (EN.length : Int) := gl_sse (by omega) (by omega)
  refine ⟨⟨ssl_len, fun v v0 v1 => ?_⟩, fun v v0 v1 => ?_, fun z z0 z1 => ?_⟩
  · by_cases e : v = d - 1 - (y - 2)
    · rw [e, hs, hn, plc_e, nxt_e]
      exact Or.inl ⟨decide_eq_true rfl, by omega, by omega, Int.le_refl _, rfl⟩
    · rw [gl_ssl e]
      exact Or.inr ⟨decide_eq_false e, rfl⟩
  · rw [ssl_len] at v1
    by_cases e : v = d - 1 - (y - 2)
    · rw [e, hs, hn, plc_e]
      exact Or.inr ⟨by omega, by omega, by omega⟩
    · rw [gl_ssl e, hn]
      rcases hw.1 v v0 v1 with h | ⟨h3, h4, h5⟩
      · exact Or.inl h
      · rw [plc_a h3 h4]
        exact Or.inr ⟨h3, by omega, by omega⟩
  · rw [hn] at z1
    rw [hn]
    by_cases e : z = (EN.length : Int)
    · rw [e, nxt_e]
      rcases hw.1 (d - 1 - (y - 2)) (by omega) (by omega) with h | ⟨h3, h4, h5⟩
      · exact Or.inl h
      · exact Or.inr ⟨h3, by omega⟩
    · rw [nxt_a z0 (by omega)]
      rcases hw.2 z z0 (by omega) with h | h
      · exact Or.inl h
      · exact Or.inr ⟨h.1, by omega⟩
/-- a function's end -/
theorem rn_lam {g1 : Int → Bool} (hd : (LE.length : Int) = d) (hr : RLq EN' g1 (i + 1) (LE ++ [-1]) LE') (hw : WFX EN' LE' b) : RLq EN' g1 i LE LE'.dropLast ∧ WFX EN' LE'.dropLast b ∧ (if LE'.getLastD 0 = -1 then 1 else 0) = (if g1 d = true then 0 else 1) := by
  obtain ⟨h1, h2⟩ := hr
  rw [List.length_append] at h1 h2
  have h1 : LE'.length = LE.length + 1 := h1
  have hdl : LE'.dropLast.length = LE.length := by
    rw [List.length_dropLast, h1]
    rfl
  refine ⟨⟨hdl, fun v v0 v1 => ?_⟩, ⟨fun v v0 v1 => ?_, hw.2⟩, ?_⟩
  · have h3 := h2 v v0 (by show v < ((LE.length + 1 : Nat) : Int); omega)
    rw [gl_cc v1] at h3
    rw [gl_dl (by omega)]
    rcases h3 with ⟨a1, a2, a3, a4, a5⟩ | h3
    · exact Or.inl ⟨a1, a2, a3, by omega, a5⟩
    · exact Or.inr h3
  · rw [hdl] at v1
    rw [gl_dl (by omega)]
    exact hw.1 v v0 (by omega)
  · have h3 := h2 d (by omega) (by show d < ((LE.length + 1 : Nat) : Int); omega)
    rw [← hd, gl_ce] at h3
    have hne : LE' ≠ [] := fun z => by
      rw [z] at h1
      cases h1
    rw [gl_last hne, show (LE'.length : Int) - 1 = (LE.length : Int) by omega, ← hd]
    rcases h3 with ⟨a1, a2, -⟩ | ⟨a1, a2⟩
    · rw [if_neg (by omega), if_pos a1]
    · rw [if_pos a2, if_neg (by rw [a1]; decide)]
/-- an application's end -/
theorem rn_app {LE1 LE2 : List Int} {EN1 : lFr} {g1 g2 : Int → Bool} (hd : (LE.length : Int) = d) (hi : 0 ≤ i) (hia : i + 1 ≤ a) (hw0 : WFX EN LE i) (he1 : ∃ X, EN1 = EN ++ X) (hr1 : RLq EN1 g1 (i + 1) LE LE1) (hw1 : WFX EN1 LE1 a) (he2 : ∃ X, EN' = EN1 ++ X) (hr2 : RLq EN' g2 a LE1 LE2) (hw2 : WFX EN' LE2 b) : RLq EN' (fun v => g1 v || g2 v) i LE (LE2.map (fnv EN' i a)) ∧ WFX EN' (LE2.map (fnv EN' i a)) b ∧ bkn EN' a LE2 = cu g2 d.toNat ∧ fnn EN' i a LE2 = cu (fun v => g1 v && g2 v) d.toNat := by
  obtain ⟨X1, he1⟩ := he1
  obtain ⟨X2, he2⟩ := he2
  obtain ⟨l1, r1⟩ := hr1
  obtain ⟨l2, r2⟩ := hr2
  have hl1 : EN.length ≤ EN1.length := by
    rw [he1, List.length_append]
    omega
  have hl2 : EN1.length ≤ EN'.length := by
    rw [he2, List.length_append]
    omega
  have p1 : ∀ x : Int, 0 ≤ x → x < (EN.length : Int) → plc EN' x = plc EN x := fun x x0 x1 => by
    rw [he2, plc_a x0 (by omega), he1, plc_a x0 x1]
  have p2 : ∀ x : Int, 0 ≤ x → x < (EN1.length : Int) → plc EN' x = plc EN1 x ∧ nxt EN' x = nxt EN1 x := fun x x0 x1 => by
    rw [he2, plc_a x0 x1, nxt_a x0 x1]
    exact ⟨rfl, rfl⟩
  -- what a variable's latest end is, four ways
  have key : ∀ v : Int, 0 ≤ v → v < (LE.length : Int) →
      (g1 v = true ∧ g2 v = true ∧ gl LE2 v ≠ -1 ∧ a ≤ plc EN' (gl LE2 v) ∧ nxt EN' (gl LE2 v) = gl LE1 v ∧ gl LE1 v ≠ -1 ∧ i < plc EN' (gl LE1 v) ∧ 0 ≤ gl LE1 v ∧ gl LE1 v < (EN'.length : Int) ∧ nxt EN' (gl LE1 v) = gl LE v) ∨
      (g1 v = false ∧ g2 v = true ∧ gl LE2 v ≠ -1 ∧ a ≤ plc EN' (gl LE2 v) ∧ nxt EN' (gl LE2 v) = gl LE v ∧ (gl LE v = -1 ∨ ¬ i < plc EN' (gl LE v)) ∧ 0 ≤ gl LE2 v ∧ gl LE2 v < (EN'.length : Int)) ∨
      (g1 v = true ∧ g2 v = false ∧ gl LE2 v = gl LE1 v ∧ ¬ a ≤ plc EN' (gl LE1 v) ∧ i ≤ plc EN' (gl LE1 v) ∧ 0 ≤ gl LE1 v ∧ gl LE1 v < (EN'.length : Int) ∧ nxt EN' (gl LE1 v) = gl LE v) ∨
      (g1 v = false ∧ g2 v = false ∧ gl LE2 v = gl LE v ∧ (gl LE v = -1 ∨ ¬ a ≤ plc EN' (gl LE v))) := fun v v0 v1 => by
    have q1 := r1 v v0 v1
    have q2 := r2 v v0 (by omega)
    have w0 := hw0.1 v v0 v1
    have w1 := hw1.1 v v0 (by omega)
    rcases q1 with ⟨c1, c2, c3, c4, c5⟩ | ⟨c1, c2⟩
    · have e1 := p2 (gl LE1 v) c2 c3
      rcases q2 with ⟨d1, d2, d3, d4, d5⟩ | ⟨d1, d2⟩
      · refine Or.inl ⟨c1, d1, by omega, d4, d5, by omega, ?_, c2, by omega, ?_⟩
        · rw [e1.1]
          omega
        · rw [e1.2]
          exact c5
      · refine Or.inr (Or.inr (Or.inl ⟨c1, d1, d2, ?_, ?_, c2, by omega, ?_⟩))
        · rw [e1.1]
          rcases w1 with w1 | w1
          · omega
          · have := w1.2.2
            omega
        · rw [e1.1]
          omega
        · rw [e1.2]
          exact c5
    · rcases q2 with ⟨d1, d2, d3, d4, d5⟩ | ⟨d1, d2⟩
      · refine Or.inr (Or.inl ⟨c1, d1, by omega, d4, by rw [d5]; exact c2, ?_, d2, d3⟩)
        rcases w0 with w0 | ⟨w0, w3, w4⟩
        · exact Or.inl w0
        · refine Or.inr ?_
          rw [p1 _ w0 w3]
          omega
      · refine Or.inr (Or.inr (Or.inr ⟨c1, d1, by rw [d2]; exact c2, ?_⟩))
        rcases w0 with w0 | ⟨w0, w3, w4⟩
        · exact Or.inl w0
        · refine Or.inr ?_
          rw [p1 _ w0 w3]
          omega
  have hdn : LE2.length = d.toNat := by omega
  have hm : (LE2.map (fnv EN' i a)).length = LE.length := by
    rw [List.length_map]
    omega
  -- what fanEnds leaves
  have kf : ∀ v : Int, 0 ≤ v → v < (LE.length : Int) → gl (LE2.map (fnv EN' i a)) v = fnv EN' i a (gl LE2 v) := fun v v0 v1 => gl_map v0 (by omega)
  refine ⟨⟨hm, fun v v0 v1 => ?_⟩, ⟨fun v v0 v1 => ?_, hw2.2⟩, ?_, ?_⟩
  · rw [kf v v0 v1]
    rcases key v v0 v1 with ⟨c1, c2, c3, c4, c5, c6, c7, c8, c9, c10⟩ | ⟨c1, c2, c3, c4, c5, c6, c7, c8⟩ | ⟨c1, c2, c3, c4, c5, c6, c7, c8⟩ | ⟨c1, c2, c3, c4⟩
    · have e : fnv EN' i a (gl LE2 v) = gl LE1 v := by
        unfold fnv
        rw [if_pos ⟨c3, c4, by rw [c5]; exact c6, by rw [c5]; exact c7⟩, c5]
      rw [e]
      exact Or.inl ⟨by show (g1 v || g2 v) = true; rw [c1]; rfl, c8, c9, by omega, c10⟩
    · have e : fnv EN' i a (gl LE2 v) = gl LE2 v := by
        unfold fnv
        rw [if_neg (fun z => by
          obtain ⟨-, -, z3, z4⟩ := z
          rw [c5] at z3 z4
          rcases c6 with c6 | c6
          · exact z3 c6
          · exact c6 z4)]
      rw [e]
      exact Or.inl ⟨by show (g1 v || g2 v) = true; rw [c1, c2]; rfl, c7, c8, by omega, c5⟩
    · have e : fnv EN' i a (gl LE2 v) = gl LE1 v := by
        unfold fnv
        rw [c3, if_neg (fun z => c4 z.2.1)]
      rw [e]
      exact Or.inl ⟨by show (g1 v || g2 v) = true; rw [c1]; rfl, c6, c7, c5, c8⟩
    · have e : fnv EN' i a (gl LE2 v) = gl LE v := by
        unfold fnv
        rw [c3, if_neg (fun z => c4.elim z.1 (fun y => y z.2.1))]
      rw [e]
      exact Or.inr ⟨by show (g1 v || g2 v) = false; rw [c1, c2]; rfl, rfl⟩
  · rw [hm] at v1
    rw [kf v v0 v1]
    have w2 := hw2.1 v v0 (by omega)
    unfold fnv
    split
    · rename_i z
      obtain ⟨z1, z2, z3, z4⟩ := z
      rcases w2 with w2 | ⟨w2, w3, w4⟩
      · exact absurd w2 z1
      · rcases key v v0 v1 with ⟨c1, c2, c3, c4, c5, c6, c7, c8, c9, c10⟩ | ⟨c1, c2, c3, c4, c5, c6, c7, c8⟩ | ⟨c1, c2, c3, c4, c5, c6, c7, c8⟩ | ⟨c1, c2, c3, c4⟩
        · rw [c5]
          have w5 := hw1.1 v v0 (by omega)
          rcases w5 with w5 | ⟨w5, w6, w7⟩
          · exact absurd w5 c6
          · have e1 := (p2 _ w5 w6).1
            have e3 : a ≤ b := by
              have := c4
              omega
            exact Or.inr ⟨c8, c9, by rw [e1]; omega⟩
        · rw [c5] at z3 z4
          exact absurd z4 (c6.resolve_left z3)
        · rw [c3] at z2
          exact absurd z2 c4
        · rw [c3] at z1 z2
          exact absurd z2 (c4.resolve_left z1)
    · exact w2
  · refine bkn_cu hdn (fun v v0 v1 => ?_)
    rcases key v v0 (by omega) with ⟨c1, c2, c3, c4, -⟩ | ⟨c1, c2, c3, c4, -⟩ | ⟨c1, c2, c3, c4, -⟩ | ⟨c1, c2, c3, c4⟩
    · exact ⟨fun _ => c2, fun _ => ⟨c3, c4⟩⟩
    · exact ⟨fun _ => c2, fun _ => ⟨c3, c4⟩⟩
    · rw [c3, c2]
      exact ⟨fun z => absurd z.2 c4, fun z => absurd z (by decide)⟩
    · rw [c3, c2]
      exact ⟨fun z => absurd z.2 (c4.resolve_left z.1), fun z => absurd z (by decide)⟩
  · refine fnn_cu hdn (fun v v0 v1 => ?_)
    show _ ↔ (g1 v && g2 v) = true
    rcases key v v0 (by omega) with ⟨c1, c2, c3, c4, c5, c6, c7, -⟩ | ⟨c1, c2, c3, c4, c5, c6, -⟩ | ⟨c1, c2, c3, c4, -⟩ | ⟨c1, c2, c3, c4⟩
    · rw [c5, c1, c2]
      exact ⟨fun _ => rfl, fun _ => ⟨c3, c4, c6, c7⟩⟩
    · rw [c5, c1, c2]
      exact ⟨fun z => absurd z.2.2.2 (c6.resolve_left z.2.2.1), fun z => absurd z (by decide)⟩
    · rw [c3, c1, c2]
      exact ⟨fun z => absurd z.2.1 c4, fun z => absurd z (by decide)⟩
    · rw [c3, c1, c2]
      exact ⟨fun z => absurd z.2.1 (c4.resolve_left z.1), fun z => absurd z (by decide)⟩
end LPS
