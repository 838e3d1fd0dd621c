/-! WORKING OFF PLAINLY, on part lists: 0 an application, 1 a function, 2 and more a variable -/
/-- the depths behind a part: an application's argument waits -/
def dN (c d : Int) (w : List Int) : Int × List Int := if c = 0 then (d, d :: w) else if c = 1 then (d + 1, w) else (w.headD 0, w.tail)
/-- a term, so many functions farther in -/
def rsl (by' : Int) : List Int → Int → List Int → List Int
  | [], _, _ => []
  | c :: cs, d, w => (if c < 2 + d then c else c + by') :: rsl by' cs (dN c d w).1 (dN c d w).2
/-- a function's body, u put in -/
def sbl (u : List Int) : List Int → Int → List Int → List Int
  | [], _, _ => []
  | c :: cs, d, w => (if c < 2 then [c] else if c = 2 + d then rsl d u 0 [] else if c < 2 + d then [c] else [c - 1]) ++ sbl u cs (dN c d w).1 (dN c d w).2
/-- what a list of parts asks for: one more term, none, one less -/
def oL : List Int → Int
  | [] => 0
  | c :: cs => ow c + oL cs
/-- one term -/
def wL (l : List Int) : Prop := oL l = -1 ∧ ∀ n : Nat, n < l.length → 0 ≤ oL (l.take n)
section SBL
variable {u l m : List Int} {c d r : Int} {w : List Int}
theorem oL_app : ∀ {l m : List Int}, oL (l ++ m) = oL l + oL m
  | [], m => by show oL m = 0 + oL m; omega
  | c :: l, m => by
    show ow c + oL (l ++ m) = ow c + oL l + oL m
    rw [oL_app]
    omega
theorem rsl_len : ∀ {l : List Int} {d : Int} {w : List Int}, (rsl r l d w).length = l.length
  | [], _, _ => rfl
  | c :: l, d, w => by
    show (rsl r l _ _).length + 1 = l.length + 1
    rw [rsl_len]
theorem ow_var (h : 2 ≤ c) : ow c = -1 := by
  unfold ow
  rw [if_neg (by omega), if_neg (by omega)]
/-- raised, a term asks for what it asked for -/
theorem rsl_o (hr : 0 ≤ r) : ∀ {l : List Int} {d : Int} {w : List Int} (n : Nat), (∀ x, x ∈ l → 0 ≤ x) → 0 ≤ d → (∀ x, x ∈ w → 0 ≤ x) → oL ((rsl r l d w).take n) = oL (l.take n)
  | [], _, _, n, _, _, _ => by unfold rsl; rfl
  | c :: l, d, w, 0, _, _, _ => rfl
  | c :: l, d, w, n + 1, hl, hd, hw => by
    have hc := hl c List.mem_cons_self
    have e1 : ow (if c < 2 + d then c else c + r) = ow c := by
      split
      · rfl
      · rw [ow_var (by omega), ow_var (by omega)]
    have hd2 : 0 ≤ (dN c d w).1 ∧ ∀ x, x ∈ (dN c d w).2 → 0 ≤ x := by
      unfold dN
      split
      · exact ⟨hd, fun x hx => (List.mem_cons.mp hx).elim (fun e => by rw [e]; exact hd) (hw x)⟩
      · split
        · exact ⟨by omega, hw⟩
        · cases w with
          | nil => exact ⟨by decide, fun x hx => by cases hx⟩
          | cons a w => exact ⟨hw a List.mem_cons_self, fun x hx => hw x (List.mem_cons_of_mem _ hx)⟩
    show ow (if c < 2 + d then c else c + r) + oL ((rsl r l (dN c d w).1 (dN c d w).2).take n) = ow c + oL (l.take n)
    rw [e1, rsl_o hr n (fun x hx => hl x (List.mem_cons_of_mem _ hx)) hd2.1 hd2.2]
theorem dN_ok (hd : 0 ≤ d) (hw : ∀ x, x ∈ w → 0 ≤ x) : 0 ≤ (dN c d w).1 ∧ ∀ x, x ∈ (dN c d w).2 → 0 ≤ x := by
  unfold dN
  split
  · exact ⟨hd, fun x hx => (List.mem_cons.mp hx).elim (fun e => by rw [e]; exact hd) (hw x)⟩
  · split
    · exact ⟨by omega, hw⟩
    · cases w with
      | nil => exact ⟨by decide, fun x hx => by cases hx⟩
      | cons a w => exact ⟨hw a List.mem_cons_self, fun x hx => hw x (List.mem_cons_of_mem _ hx)⟩
/-- so many terms are asked for all along the list -/
def pL (k : Int) (l : List Int) : Prop := ∀ n : Nat, n < l.length → 0 ≤ k + oL (l.take n)
theorem pL_app {k : Int} (h1 : pL k l) (h2 : pL (k + oL l) m) : pL k (l ++ m) := by
  intro n hn
  rw [List.length_append] at hn
  by_cases z : n < l.length
  · rw [List.take_append_of_le_length (by omega)]
    exact h1 n z
  · have h3 := h2 (n - l.length) (by omega)
    rw [List.take_append, List.take_of_length_le (by omega), oL_app]
    omega
theorem pL_tail {k : Int} (h : pL k (c :: l)) : 0 ≤ k ∧ pL (k + ow c) l := by
  refine ⟨?_, fun n hn => ?_⟩
  · have h1 := h 0 (by show 0 < l.length + 1; omega)
    have h2 : oL (List.take 0 (c :: l)) = 0 := rfl
    omega
  · have h1 := h (n + 1) (by show n + 1 < l.length + 1; omega)
    have h2 : oL (List.take (n + 1) (c :: l)) = ow c + oL (l.take n) := rfl
    omega
theorem pL_one {k : Int} (hk : 0 ≤ k) : pL k [c] := by
  intro n hn
  have h0 : n = 0 := by
    have : n < 1 := hn
    omega
  rw [h0]
  show 0 ≤ k + 0
  omega
theorem rsl_w (hr : 0 ≤ r) (hu : wL l) (hl : ∀ x, x ∈ l → 0 ≤ x) : wL (rsl r l 0 []) := by
  have h1 : ∀ n : Nat, oL ((rsl r l 0 []).take n) = oL (l.take n) := fun n => rsl_o hr n hl (Int.le_refl 0) (fun x hx => by cases hx)
  refine ⟨?_, fun n hn => by rw [h1]; rw [rsl_len] at hn; exact hu.2 n hn⟩
  have h2 := h1 l.length
  rw [List.take_of_length_le (by rw [rsl_len]; exact Nat.le_refl _), List.take_of_length_le (Nat.le_refl _)] at h2
  rw [h2]
  exact hu.1
/-- what a part becomes asks for what it asked for -/
theorem sb_one (hu : wL u) (hn : ∀ x, x ∈ u → 0 ≤ x) (hc : 0 ≤ c) (hd : 0 ≤ d) {k : Int} (hk : 0 ≤ k) {h : List Int} (e : h = if c < 2 then [c] else if c = 2 + d then rsl d u 0 [] else if c < 2 + d then [c] else [c - 1]) : oL h = ow c ∧ pL k h := by
  have e1 : ∀ x : Int, oL [x] = ow x := fun x => by show ow x + 0 = ow x; omega
  subst e
  split
  · exact ⟨e1 c, pL_one hk⟩
  · split
    · have h1 := rsl_w hd hu hn
      exact ⟨by rw [h1.1, ow_var (by omega)], fun n hn => by have := h1.2 n hn; omega⟩
    · split
      · exact ⟨e1 c, pL_one hk⟩
      · exact ⟨by rw [e1, ow_var (by omega), ow_var (by omega)], pL_one hk⟩
theorem sbl_w (hu : wL u) (hn : ∀ x, x ∈ u → 0 ≤ x) : ∀ {l : List Int} {d : Int} {w : List Int} {k : Int}, (∀ x, x ∈ l → 0 ≤ x) → 0 ≤ d → (∀ x, x ∈ w → 0 ≤ x) → pL k l → oL (sbl u l d w) = oL l ∧ pL k (sbl u l d w)
  | [], _, _, _, _, _, _, _ => ⟨rfl, fun n hn => absurd hn (Nat.not_lt_zero n)⟩
  | c :: l, d, w, k, hl, hd, hw, hp => by
    obtain ⟨p1, p2⟩ := pL_tail hp
    obtain ⟨d1, d2⟩ := dN_ok (c := c) hd hw
    obtain ⟨q1, q2⟩ := sb_one hu hn (hl c List.mem_cons_self) hd p1 rfl
    obtain ⟨r1, r2⟩ := sbl_w hu hn (fun x hx => hl x (List.mem_cons_of_mem _ hx)) d1 d2 p2
    unfold sbl
    refine ⟨?_, pL_app q2 (by rw [q1]; exact r2)⟩
    rw [oL_app, q1, r1]
    rfl
theorem pL_split : ∀ {l m : List Int} {k : Int}, pL k (l ++ m) → pL k l ∧ pL (k + oL l) m := fun {l m k} h => by
  refine ⟨fun n hn => ?_, fun n hn => ?_⟩
  · have h1 := h n (by rw [List.length_append]; omega)
    rw [List.take_append_of_le_length (by omega)] at h1
    exact h1
  · have h1 := h (l.length + n) (by rw [List.length_append]; omega)
    rw [List.take_append, List.take_of_length_le (by omega), oL_app, show l.length + n - l.length = n by omega] at h1
    omega
/-- the term that lies first -/
theorem lead : ∀ {l : List Int} {j : Int}, 0 ≤ j → j + oL l < 0 → ∃ a b : List Int, l = a ++ b ∧ j + oL a = -1 ∧ pL j a
  | [], j, h0, h1 => by
    have h2 : oL [] = 0 := rfl
    omega
  | c :: l, j, h0, h1 => by
    have h2 : oL (c :: l) = ow c + oL l := rfl
    have h3 := ow_ge c
    by_cases z : j + ow c < 0
    · refine ⟨[c], l, rfl, ?_, pL_one h0⟩
      show j + (ow c + 0) = -1
      omega
    · obtain ⟨a, b, e1, e2, e3⟩ := lead (l := l) (j := j + ow c) (by omega) (by omega)
      refine ⟨c :: a, b, by rw [e1]; rfl, ?_, fun n hn => ?_⟩
      · show j + (ow c + oL a) = -1
        omega
      · match n, hn with
        | 0, _ => show 0 ≤ j + 0; omega
        | n + 1, hn =>
          have h5 := e3 n (Nat.lt_of_succ_lt_succ hn)
          show 0 ≤ j + (ow c + oL (a.take n))
          omega
theorem lead0 (h : oL l < 0) : ∃ a b : List Int, l = a ++ b ∧ wL a := by
  obtain ⟨a, b, e1, e2, e3⟩ := lead (l := l) (j := 0) (Int.le_refl 0) (by omega)
  exact ⟨a, b, e1, by omega, fun n hn => by have := e3 n hn; omega⟩
/-- an application of a function within a term: its body, its argument, what comes behind; and what it becomes is a term -/
theorem rd_w {p q : List Int} (h : wL (p ++ 0 :: 1 :: q)) (hn : ∀ x, x ∈ p ++ 0 :: 1 :: q → 0 ≤ x) : ∃ b a z : List Int, q = b ++ (a ++ z) ∧ wL b ∧ wL a ∧ wL (p ++ (sbl a b 0 [] ++ z)) := by
  have w0 : ow 0 = 1 := rfl
  have w1 : ow 1 = 0 := rfl
  obtain ⟨h1, h2⟩ := h
  have hp : pL 0 (p ++ 0 :: 1 :: q) := fun n hn9 => by have := h2 n hn9; omega
  obtain ⟨p1, p2⟩ := pL_split hp
  obtain ⟨k0, p3⟩ := pL_tail p2
  obtain ⟨k1, p4⟩ := pL_tail p3
  have e1 : oL (p ++ 0 :: 1 :: q) = oL p + (ow 0 + (ow 1 + oL q)) := oL_app
  obtain ⟨b, r, rfl, hb⟩ := lead0 (l := q) (by omega)
  have e2 : oL (b ++ r) = oL b + oL r := oL_app
  have hb1 := hb.1
  obtain ⟨a, z, rfl, ha⟩ := lead0 (l := r) (by omega)
  have e3 : oL (a ++ z) = oL a + oL z := oL_app
  have ha1 := ha.1
  obtain ⟨p5, p6⟩ := pL_split p4
  obtain ⟨p7, p8⟩ := pL_split p6
  have na : ∀ x, x ∈ a → 0 ≤ x := fun x hx => hn x (List.mem_append_right _ (List.mem_cons_of_mem _ (List.mem_cons_of_mem _ (List.mem_append_right _ (List.mem_append_left _ hx)))))
  have nb : ∀ x, x ∈ b → 0 ≤ x := fun x hx => hn x (List.mem_append_right _ (List.mem_cons_of_mem _ (List.mem_cons_of_mem _ (List.mem_append_left _ hx))))
  have pb : pL (oL p) b := fun n hn9 => by have := hb.2 n hn9; omega
  obtain ⟨s1, s2⟩ := sbl_w (u := a) ha na (l := b) (d := 0) (w := []) (k := oL p) nb (Int.le_refl 0) (fun x hx => by cases hx) pb
  refine ⟨b, a, z, rfl, hb, ha, ?_, ?_⟩
  · rw [oL_app, oL_app, s1]
    omega
  · have hz : pL (oL p + oL (sbl a b 0 [])) z := fun n hn9 => by
      have h9 := p8 n hn9
      rw [s1]
      omega
    have hq : pL 0 (p ++ (sbl a b 0 [] ++ z)) := pL_app p1 (by
      have h9 : pL (0 + oL p) (sbl a b 0 [] ++ z) := by
        rw [Int.zero_add]
        exact pL_app s2 hz
      exact h9)
    exact fun n hn9 => by have := hq n hn9; omega
theorem lead_le {a b a' b' : List Int} (e : a ++ b = a' ++ b') (h : oL a = -1) (h' : ∀ n : Nat, n < a'.length → 0 ≤ oL (a'.take n)) : a'.length ≤ a.length := by
  by_cases z : a'.length ≤ a.length
  · exact z
  · have h1 := h' a.length (by omega)
    have h2 : (a' ++ b').take a.length = a'.take a.length := List.take_append_of_le_length (by omega)
    rw [← e, List.take_append_of_le_length (Nat.le_refl _), List.take_of_length_le (Nat.le_refl _)] at h2
    rw [← h2, h] at h1
    omega
theorem lead_u {a b a' b' : List Int} (e : a ++ b = a' ++ b') (h : wL a) (h' : wL a') : a = a' ∧ b = b' :=
  List.append_inj e (Nat.le_antisymm (lead_le e.symm h'.1 h.2) (lead_le e h.1 h'.2))
/-- one round: the first application of a function is worked off -/
def pr1 (c : List Int) (i : Nat) : Prop := c[i]? = some 0 ∧ c[i + 1]? = some 1
def RD (c c' : List Int) : Prop := ∃ p b a z : List Int, c = p ++ 0 :: 1 :: (b ++ (a ++ z)) ∧ wL b ∧ wL a ∧ (∀ i : Nat, i < p.length → ¬ pr1 c i) ∧ c' = p ++ (sbl a b 0 [] ++ z)
theorem pr1_at {p q : List Int} : pr1 (p ++ 0 :: 1 :: q) p.length := by
  refine ⟨?_, ?_⟩
  · rw [List.getElem?_append_right (Nat.le_refl _), Nat.sub_self]
    rfl
  · rw [List.getElem?_append_right (by omega), show p.length + 1 - p.length = 1 by omega]
    rfl
theorem RD.det {c c' c'' : List Int} (h : RD c c') (h' : RD c c'') : c' = c'' := by
  obtain ⟨p, b, a, z, e, hb, ha, hn, rfl⟩ := h
  obtain ⟨p', b', a', z', e', hb', ha', hn', rfl⟩ := h'
  have l1 : ¬ p.length < p'.length := fun hl => hn' p.length hl (by rw [e]; exact pr1_at)
  have l2 : ¬ p'.length < p.length := fun hl => hn p'.length hl (by rw [e']; exact pr1_at)
  have e2 := e.symm.trans e'
  obtain ⟨e3, e4⟩ := List.append_inj e2 (by omega)
  have e5 : b ++ (a ++ z) = b' ++ (a' ++ z') := by
    injection e4 with _ e6
    injection e6
  obtain ⟨e7, e8⟩ := lead_u e5 hb hb'
  obtain ⟨e9, e10⟩ := lead_u e8 ha ha'
  rw [e3, e7, e9, e10]
/-- so many rounds at most: the parts at the end; none, if a round has more than 1000 -/
def PLN : Nat → List Int → Option (List Int) → Prop
  | 0, c, r => r = some c
  | n + 1, c, r => ((∀ i : Nat, ¬ pr1 c i) ∧ r = some c) ∨ ∃ c' : List Int, RD c c' ∧ ((1000 < c'.length ∧ r = none) ∨ (c'.length ≤ 1000 ∧ PLN n c' r))
theorem RD.pr {c c' : List Int} (h : RD c c') : ∃ i : Nat, pr1 c i := by
  obtain ⟨p, b, a, z, e, -⟩ := h
  exact ⟨p.length, by rw [e]; exact pr1_at⟩
theorem PLN.det : ∀ {n : Nat} {c : List Int} {r r' : Option (List Int)}, PLN n c r → PLN n c r' → r = r'
  | 0, _, _, _, h, h' => h.trans h'.symm
  | n + 1, c, r, r', h, h' => by
    rcases h with ⟨h1, h2⟩ | ⟨c1, h1, h2⟩
    · rcases h' with ⟨h3, h4⟩ | ⟨c2, h3, h4⟩
      · rw [h2, h4]
      · obtain ⟨i, hi⟩ := h3.pr
        exact absurd hi (h1 i)
    · rcases h' with ⟨h3, h4⟩ | ⟨c2, h3, h4⟩
      · obtain ⟨i, hi⟩ := h1.pr
        exact absurd hi (h3 i)
      · have e := h1.det h3
        subst e
        rcases h2 with ⟨k1, k2⟩ | ⟨k1, k2⟩
        · rcases h4 with ⟨k3, k4⟩ | ⟨k3, k4⟩
          · rw [k2, k4]
          · omega
        · rcases h4 with ⟨k3, k4⟩ | ⟨k3, k4⟩
          · omega
          · exact PLN.det k2 k4
/-- ends that lie behind -/
def cE (E : List Int) (k : Int) : Int := ((E.filter (fun e => decide (k < e))).length : Int)
/-- the reference's open ends against the depths: the first term lies at k -/
def EN (E : List Int) : Int → List Int → Int → List Int → Prop
  | k, l, d, [] => wL l ∧ d = cE E k ∧ ∀ e, e ∈ E → e ≤ k ∨ k + (l.length : Int) ≤ e
  | k, l, d, d2 :: w => ∃ a b : List Int, l = a ++ b ∧ wL a ∧ (d = cE E k ∧ ∀ e, e ∈ E → e ≤ k ∨ k + (a.length : Int) ≤ e) ∧ EN E (k + (a.length : Int)) b d2 w
theorem cE_same {E : List Int} {k k' : Int} (h : ∀ e, e ∈ E → (k < e ↔ k' < e)) : cE E k = cE E k' := by
  have h1 : ∀ e, e ∈ E → decide (k < e) = decide (k' < e) := fun e he => decide_eq_decide.mpr (h e he)
  unfold cE
  rw [List.filter_congr h1]
theorem wL_ne (h : wL l) : 1 ≤ l.length := by
  cases l with
  | nil => exact absurd h.1 (by decide)
  | cons c l => show 1 ≤ l.length + 1; omega
/-- an application: its two terms -/
theorem wL_app (h : wL (0 :: l)) : ∃ a b : List Int, l = a ++ b ∧ wL a ∧ wL b := by
  obtain ⟨h1, h2⟩ := h
  have e0 : oL (0 :: l) = 1 + oL l := rfl
  obtain ⟨a, b, rfl, ha⟩ := lead0 (l := l) (by omega)
  have e1 : oL (a ++ b) = oL a + oL b := oL_app
  have ha1 := ha.1
  refine ⟨a, b, rfl, ha, by omega, fun n hn => ?_⟩
  have h3 := h2 (a.length + n + 1) (by show a.length + n + 1 < (a ++ b).length + 1; rw [List.length_append]; omega)
  have h4 : oL (List.take (a.length + n + 1) (0 :: (a ++ b))) = 1 + oL ((a ++ b).take (a.length + n)) := rfl
  rw [h4, List.take_append, List.take_of_length_le (by omega), oL_app, show a.length + n - a.length = n by omega] at h3
  omega
/-- a function: its body -/
theorem wL_fun (h : wL (1 :: l)) : wL l := by
  obtain ⟨h1, h2⟩ := h
  have e0 : oL (1 :: l) = 0 + oL l := rfl
  refine ⟨by omega, fun n hn => ?_⟩
  have h3 := h2 (n + 1) (by show n + 1 < l.length + 1; omega)
  have h4 : oL (List.take (n + 1) (1 :: l)) = 0 + oL (l.take n) := rfl
  omega
/-- a variable: nothing more -/
theorem wL_var (h : wL (c :: l)) (hc : 2 ≤ c) : l = [] := by
  cases l with
  | nil => rfl
  | cons x l =>
    have h3 := h.2 1 (by show 1 < l.length + 1 + 1; omega)
    have h4 : oL (List.take 1 (c :: x :: l)) = ow c + 0 := rfl
    have h5 := ow_var hc
    omega
theorem EN_pop {E : List Int} {x : Int} : ∀ {w : List Int} {k d : Int} {l : List Int}, x ≤ k → EN (x :: E) k l d w → EN E k l d w
  | [], k, d, l, hx, h => by
    obtain ⟨h1, h2, h3⟩ := h
    refine ⟨h1, h2.trans ?_, fun e he => h3 e (List.mem_cons_of_mem _ he)⟩
    unfold cE
    rw [List.filter_cons_of_neg (by rw [decide_eq_true_eq]; omega)]
  | d2 :: w, k, d, l, hx, h => by
    obtain ⟨a, b, e1, ha, ⟨h2, h3⟩, h4⟩ := h
    refine ⟨a, b, e1, ha, ⟨h2.trans ?_, fun e he => h3 e (List.mem_cons_of_mem _ he)⟩, EN_pop (by omega) h4⟩
    unfold cE
    rw [List.filter_cons_of_neg (by rw [decide_eq_true_eq]; omega)]
theorem EN_a {E : List Int} {k : Int} (h : EN E k (0 :: l) d w) : EN E (k + 1) l d (d :: w) := by
  cases w with
  | nil =>
    obtain ⟨h1, h2, h3⟩ := h
    obtain ⟨s, t, rfl, hs, ht⟩ := wL_app h1
    have ls := wL_ne hs
    have lt := wL_ne ht
    have hl : ((0 :: (s ++ t) : List Int).length : Int) = (s.length : Int) + t.length + 1 := by
      show (((s ++ t).length + 1 : Nat) : Int) = _
      rw [List.length_append]
      omega
    rw [hl] at h3
    refine ⟨s, t, rfl, hs, ⟨h2.trans (cE_same fun e he => ?_), fun e he => ?_⟩, ht, h2.trans (cE_same fun e he => ?_), fun e he => ?_⟩
    · have := h3 e he
      omega
    · have := h3 e he
      omega
    · have := h3 e he
      omega
    · have := h3 e he
      omega
  | cons d2 w =>
    obtain ⟨a, b, e1, ha, ⟨h2, h3⟩, h4⟩ := h
    cases a with
    | nil => exact absurd (wL_ne ha) (by decide)
    | cons c a =>
      injection e1 with e2 e3
      subst e2
      subst e3
      obtain ⟨s, t, rfl, hs, ht⟩ := wL_app ha
      have ls := wL_ne hs
      have lt := wL_ne ht
      have hl : ((0 :: (s ++ t) : List Int).length : Int) = (s.length : Int) + t.length + 1 := by
        show (((s ++ t).length + 1 : Nat) : Int) = _
        rw [List.length_append]
        omega
      rw [hl] at h3 h4
      refine ⟨s, t ++ b, List.append_assoc _ _ _, hs, ⟨h2.trans (cE_same fun e he => ?_), fun e he => ?_⟩, t, b, rfl, ht, ⟨h2.trans (cE_same fun e he => ?_), fun e he => ?_⟩, ?_⟩
      · have := h3 e he
        omega
      · have := h3 e he
        omega
      · have := h3 e he
        omega
      · have := h3 e he
        omega
      · rw [show k + 1 + (s.length : Int) + (t.length : Int) = k + ((s.length : Int) + t.length + 1) by omega]
        exact h4
theorem EN_v {E : List Int} {k d2 : Int} (h : EN E k (c :: l) d (d2 :: w)) (hc : 2 ≤ c) : EN E (k + 1) l d2 w := by
  obtain ⟨a, b, e1, ha, -, h4⟩ := h
  cases a with
  | nil => exact absurd (wL_ne ha) (by decide)
  | cons x a =>
    injection e1 with e2 e3
    subst e2
    have ea := wL_var ha hc
    subst ea
    subst e3
    exact h4
theorem cE_gt {E : List Int} {k x : Int} (h : k < x) : cE (x :: E) k = cE E k + 1 := by
  unfold cE
  rw [List.filter_cons_of_pos (by rw [decide_eq_true_eq]; exact h), List.length_cons]
  omega
theorem cE_le {E : List Int} {k x : Int} (h : x ≤ k) : cE (x :: E) k = cE E k := by
  unfold cE
  rw [List.filter_cons_of_neg (by rw [decide_eq_true_eq]; omega)]
theorem EN_push {E : List Int} {x : Int} : ∀ {w : List Int} {k d : Int} {l : List Int}, x ≤ k → EN E k l d w → EN (x :: E) k l d w
  | [], k, d, l, hx, h => by
    obtain ⟨h1, h2, h3⟩ := h
    refine ⟨h1, h2.trans (cE_le hx).symm, fun e he => ?_⟩
    rcases List.mem_cons.mp he with rfl | he
    · exact Or.inl hx
    · exact h3 e he
  | d2 :: w, k, d, l, hx, h => by
    obtain ⟨a, b, e1, ha, ⟨h2, h3⟩, h4⟩ := h
    refine ⟨a, b, e1, ha, ⟨h2.trans (cE_le hx).symm, fun e he => ?_⟩, EN_push (by omega) h4⟩
    rcases List.mem_cons.mp he with rfl | he
    · exact Or.inl hx
    · exact h3 e he
theorem EN_f {E : List Int} {k : Int} (h : EN E k (1 :: l) d w) : ∃ a b : List Int, 1 :: l = a ++ b ∧ wL a ∧ EN ((k + (a.length : Int)) :: E) (k + 1) l (d + 1) w := by
  cases w with
  | nil =>
    obtain ⟨h1, h2, h3⟩ := h
    have hb := wL_fun h1
    have lb := wL_ne hb
    have hl : ((1 :: l : List Int).length : Int) = (l.length : Int) + 1 := rfl
    rw [hl] at h3
    refine ⟨1 :: l, [], (List.append_nil _).symm, h1, hb, ?_, fun e he => ?_⟩
    · rw [hl, cE_gt (by omega), h2, cE_same (k := k) (k' := k + 1) fun e he => ?_]
      have := h3 e he
      omega
    · rw [hl] at he
      rcases List.mem_cons.mp he with rfl | he
      · omega
      · have := h3 e he
        omega
  | cons d2 w =>
    obtain ⟨a, b, e1, ha, ⟨h2, h3⟩, h4⟩ := h
    cases a with
    | nil => exact absurd (wL_ne ha) (by decide)
    | cons c a =>
      injection e1 with e2 e3
      subst e2
      subst e3
      have hb := wL_fun ha
      have lb := wL_ne hb
      have hl : ((1 :: a : List Int).length : Int) = (a.length : Int) + 1 := rfl
      rw [hl] at h3 h4
      refine ⟨1 :: a, b, rfl, ha, a, b, rfl, hb, ⟨?_, fun e he => ?_⟩, ?_⟩
      · rw [hl, cE_gt (by omega), h2, cE_same (k := k) (k' := k + 1) fun e he => ?_]
        have := h3 e he
        omega
      · rw [hl] at he
        rcases List.mem_cons.mp he with rfl | he
        · omega
        · have := h3 e he
          omega
      · rw [hl, show k + 1 + (a.length : Int) = k + ((a.length : Int) + 1) by omega]
        exact EN_push (Int.le_refl _) h4
theorem cE_all {E : List Int} {k : Int} (h : ∀ e, e ∈ E → k < e) : cE E k = (E.length : Int) := by
  unfold cE
  rw [List.filter_eq_self.mpr (fun e he => decide_eq_true (h e he))]
theorem EN_d {E : List Int} {k : Int} (h : EN E k l d w) : d = cE E k := by
  cases w with
  | nil => exact h.2.1
  | cons d2 w =>
    obtain ⟨a, b, -, -, ⟨h2, -⟩, -⟩ := h
    exact h2
theorem EN_first {E : List Int} {k : Int} (h : EN E k l d w) : ∃ a b : List Int, l = a ++ b ∧ wL a ∧ ∀ e, e ∈ E → e ≤ k ∨ k + (a.length : Int) ≤ e := by
  cases w with
  | nil => exact ⟨l, [], (List.append_nil _).symm, h.1, h.2.2⟩
  | cons d2 w =>
    obtain ⟨a, b, e1, ha, ⟨-, h3⟩, -⟩ := h
    exact ⟨a, b, e1, ha, h3⟩
/-- the open ends, the innermost first -/
def sE (E : List Int) (k : Int) : Prop := List.Pairwise (fun x y => x ≤ y) E ∧ ∀ e, e ∈ E → k ≤ e
theorem sE_pop {E : List Int} {k x : Int} (h : sE (x :: E) k) : sE E k := ⟨(List.pairwise_cons.mp h.1).2, fun e he => h.2 e (List.mem_cons_of_mem _ he)⟩
theorem sE_out {E : List Int} {k x : Int} (h : sE (x :: E) k) (hx : x ≠ k) : ∀ e, e ∈ x :: E → k < e := fun e he => by
  have h1 := h.2 x List.mem_cons_self
  rcases List.mem_cons.mp he with rfl | he
  · omega
  · have h2 := (List.pairwise_cons.mp h.1).1 e he
    omega
theorem sE_next {E : List Int} {k : Int} (h : sE E k) (hk : ∀ e, e ∈ E → k < e) : sE E (k + 1) := ⟨h.1, fun e he => by have := hk e he; omega⟩
theorem sE_push {E : List Int} {k x : Int} (h : sE E k) (hk : ∀ e, e ∈ E → k < e) (hx : k + 1 ≤ x) (h9 : ∀ e, e ∈ E → e ≤ k ∨ x ≤ e) : sE (x :: E) (k + 1) := by
  refine ⟨List.pairwise_cons.mpr ⟨fun e he => ?_, h.1⟩, fun e he => ?_⟩
  · have h1 := hk e he
    have h2 := h9 e he
    omega
  · rcases List.mem_cons.mp he with rfl | he
    · exact hx
    · have h1 := hk e he
      omega
theorem EN_0 (h : wL l) {k : Int} : EN [] k l 0 [] := ⟨h, rfl, fun e he => by cases he⟩
/-- a row holds a list from a place on -/
def wd (t : Int → Int) (i : Int) (l : List Int) : Prop := ∀ q : Nat, q < l.length → l[q]? = some (t (i + (q : Int)))
theorem wd_app {t : Int → Int} {i : Int} (h : wd t i (l ++ m)) : wd t i l ∧ wd t (i + (l.length : Int)) m := by
  refine ⟨fun q hq => ?_, fun q hq => ?_⟩
  · have h1 := h q (by rw [List.length_append]; omega)
    rw [List.getElem?_append_left hq] at h1
    exact h1
  · have h1 := h (l.length + q) (by rw [List.length_append]; omega)
    rw [List.getElem?_append_right (by omega), show l.length + q - l.length = q by omega] at h1
    rw [h1, show i + ((l.length + q : Nat) : Int) = i + (l.length : Int) + (q : Int) by omega]
theorem op_wd {t : Int → Int} {i : Int} (h : wd t i l) : ∀ n : Nat, n ≤ l.length → op t i n = 1 + oL (l.take n)
  | 0, _ => rfl
  | n + 1, hn => by
    have h1 := h n (by omega)
    have h2 := op_wd h n (by omega)
    have h3 : l.take (n + 1) = l.take n ++ [t (i + (n : Int))] := by
      rw [List.take_add_one, h1]
      rfl
    have h4 : op t i (n + 1) = op t i n + ow (t (i + (n : Int))) := rfl
    have h5 : oL [t (i + (n : Int))] = ow (t (i + (n : Int))) + 0 := rfl
    rw [h4, h2, h3, oL_app, h5]
    omega
theorem wf_wd {t : Int → Int} {i : Int} (h : wd t i l) (hl : wL l) : wf t i l.length := by
  refine ⟨?_, fun n hn => ?_⟩
  · rw [op_wd h _ (Nat.le_refl _), List.take_of_length_le (Nat.le_refl _), hl.1]
    rfl
  · rw [op_wd h _ (Nat.le_of_lt hn)]
    have := hl.2 n hn
    omega
theorem wL_wf {t : Int → Int} {i : Int} (h : wd t i l) (hl : wf t i l.length) : wL l := by
  refine ⟨?_, fun n hn => ?_⟩
  · have h1 := hl.1
    rw [op_wd h _ (Nat.le_refl _), List.take_of_length_le (Nat.le_refl _)] at h1
    omega
  · have h1 := hl.2 n hn
    rw [op_wd h _ (Nat.le_of_lt hn)] at h1
    omega
theorem wd_ltx : wd (ltx l) 2600 l := fun q hq => by
  unfold ltx
  rw [show (2600 + (q : Int) - 2600).toNat = q by omega, List.getD_eq_getElem?_getD, List.getElem?_eq_getElem hq]
  rfl
end SBL
