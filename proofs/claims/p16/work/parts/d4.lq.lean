/-! LAYING, purely: a whole term; what it takes -/
section LQS
variable {EN EN' X fr : lFr} {LE LE' l c : List Int} {a b d i p v x y : Int} {m n k : Nat} {g g' : Int → Bool} {t u : Int → Int} {S : lST}
theorem WFX.neg (h : WFX EN LE i) : WFX EN (LE ++ [-1]) (i + 1) := by
  refine ⟨fun v v0 v1 => ?_, h.2⟩
  rw [List.length_append] at v1
  have v1 : v < ((LE.length + 1 : Nat) : Int) := v1
  by_cases e : v = (LE.length : Int)
  · rw [e, gl_ce]
    exact Or.inl rfl
  · rw [gl_cc (by omega)]
    rcases h.1 v v0 (by omega) with z | z
    · exact Or.inl z
    · exact Or.inr ⟨z.1, z.2.1, by omega⟩
theorem rn_t : ∀ {k : Nat} {d i : Int} {n : Nat}, sc t k d i n → 0 ≤ i → ∀ {fr EN : lFr} {LE : List Int} {m : Nat}, (LE.length : Int) = d → WFX EN LE i → ∃ (EN' : lFr) (LE' : List Int), (∃ X : lFr, EN' = EN ++ X) ∧ RLq EN' (us t k d i) i LE LE' ∧ WFX EN' LE' (i + n) ∧ rnl t n i (fr, EN, LE, m) = fn3 (i + n) EN' fr LE' (m + cs t k d i)
  | 0, _, _, _, h, _, _, _, _, _, _, _ => h.elim
  | k + 1, d, i, n, h, hi, fr, EN, LE, m, hd, hw => by
    by_cases h0 : t i = 0
    · obtain ⟨a, b, hn, ha, hb⟩ := sc_app h h0
      obtain ⟨EN1, LE1, e1, r1, w1, q1⟩ := rn_t (fr := (i, 0) :: fr) (m := m + 1) ha (by omega) hd (hw.mono (by omega))
      obtain ⟨EN2, LE2, e2, r2, w2, q2⟩ := rn_t (fr := (i, i + 1 + (a : Int)) :: fr) (m := m + 1 + cs t k d (i + 1)) hb (by omega) (by rw [r1.1]; exact hd) w1
      obtain ⟨s1, s2, s3, s4⟩ := rn_app hd hi (a := i + 1 + (a : Int)) (by omega) hw e1 r1 w1 e2 r2 w2
      have hg : (fun v => us t k d (i + 1) v || us t k d (i + 1 + (a : Int)) v) = us t (k + 1) d i := by
        funext v
        exact (us_app h0 ha).symm
      rw [hg] at s1
      refine ⟨EN2, LE2.map (fnv EN2 i (i + 1 + (a : Int))), ?_, s1, ?_, ?_⟩
      · obtain ⟨X1, e1⟩ := e1
        obtain ⟨X2, e2⟩ := e2
        exact ⟨X1 ++ X2, by rw [e2, e1, List.append_assoc]⟩
      · rw [show i + (n : Int) = i + 1 + (a : Int) + (b : Int) by omega]
        exact s2
      · have e3 : n = 1 + (a + b) := by omega
        rw [e3, rn_add]
        show rnl t (a + b) (i + ((1 : Nat) : Int)) (wkl (t i) i (fr, EN, LE, m)) = _
        rw [wk_0 h0, rn_add, show i + ((1 : Nat) : Int) = i + 1 by omega, q1, fn3_0 rfl, q2, fn3_2 (by omega) (by omega), s3, s4, cs_app h0 ha, show i + ((1 + (a + b) : Nat) : Int) = i + 1 + (a : Int) + (b : Int) by omega]
        congr 1
        unfold ca
        omega
    · by_cases h1 : t i = 1
      · obtain ⟨a, hn, ha⟩ := sc_lam h h1
        obtain ⟨EN1, LE1, e1, r1, w1, q1⟩ := rn_t (fr := (i, -1) :: fr) (m := m + 1) ha (by omega) (LE := LE ++ [-1]) (by rw [List.length_append]; show ((LE.length + 1 : Nat) : Int) = d + 1; omega) hw.neg
        obtain ⟨s1, s2, s3⟩ := rn_lam hd r1 w1
        have hg : us t k (d + 1) (i + 1) = us t (k + 1) d i := by
          funext v
          exact (us_lam h1).symm
        rw [hg] at s1
        refine ⟨EN1, LE1.dropLast, e1, s1, ?_, ?_⟩
        · rw [show i + (n : Int) = i + 1 + (a : Int) by omega]
          exact s2
        · have e3 : n = 1 + a := by omega
          rw [e3, rn_add]
          show rnl t a (i + ((1 : Nat) : Int)) (wkl (t i) i (fr, EN, LE, m)) = _
          rw [wk_1 h1, show i + ((1 : Nat) : Int) = i + 1 by omega, q1, fn3_1 rfl, s3, cs_lam h1, show i + ((1 + a : Nat) : Int) = i + 1 + (a : Int) by omega]
          congr 1
          unfold cl
          generalize (if us t k (d + 1) (i + 1) d = true then 0 else 1) = z9
          omega
      · obtain ⟨h2, h3, h4⟩ := sc_var h h0 h1
        obtain ⟨s1, s2⟩ := rn_var (y := t i) hd hw h2 h3
        have hg : (fun v => decide (v = d - 1 - (t i - 2))) = us t (k + 1) d i := by
          funext v
          exact (us_var h0 h1).symm
        rw [hg] at s1
        subst h4
        refine ⟨_, _, ⟨_, rfl⟩, s1, s2, ?_⟩
        show wkl (t i) i (fr, EN, LE, m) = _
        rw [wk_2 h0 h1, hd, cs_var h0 h1]
        first | done | rfl
/-- how many it may be -/
theorem lfin_m : ∀ {fr : lFr} {LE : List Int} {m : Nat}, m ≤ (lfin b EN fr LE m).2.2 ∧ (lfin b EN fr LE m).1.length ≤ fr.length ∧ (lfin b EN fr LE m).2.1.length ≤ LE.length
  | [], LE, m => ⟨Nat.le_refl _, Nat.le_refl _, Nat.le_refl _⟩
  | f :: fr, LE, m => by
    by_cases h : f.2 = 0
    · have e : lfin b EN (f :: fr) LE m = ((f.1, b) :: fr, LE, m) := if_pos h
      rw [e]
      exact ⟨Nat.le_refl _, Nat.le_refl _, Nat.le_refl _⟩
    · by_cases h1 : f.2 = -1
      · have e : lfin b EN (f :: fr) LE m = lfin b EN fr LE.dropLast (m + if LE.getLastD 0 = -1 then 1 else 0) := (if_neg h).trans (if_pos h1)
        have ih := lfin_m (fr := fr) (LE := LE.dropLast) (m := m + if LE.getLastD 0 = -1 then 1 else 0)
        rw [e]
        rw [List.length_dropLast] at ih
        refine ⟨Nat.le_trans (Nat.le_add_right _ _) ih.1, Nat.le_succ_of_le ih.2.1, Nat.le_trans ih.2.2 (Nat.sub_le _ _)⟩
      · have e : lfin b EN (f :: fr) LE m = lfin b EN fr (LE.map (fnv EN f.1 f.2)) (m + bkn EN f.2 LE + fnn EN f.1 f.2 LE) := (if_neg h).trans (if_neg h1)
        have ih := lfin_m (fr := fr) (LE := LE.map (fnv EN f.1 f.2)) (m := m + bkn EN f.2 LE + fnn EN f.1 f.2 LE)
        rw [e]
        rw [List.length_map] at ih
        exact ⟨by omega, Nat.le_succ_of_le ih.2.1, ih.2.2⟩
theorem wk_m : S.2.2.2 ≤ (wkl x i S).2.2.2 := by
  unfold wkl
  split
  · exact Nat.le_succ _
  · split
    · exact Nat.le_succ _
    · show S.2.2.2 ≤ (lfin (i + 1) _ _ _ (S.2.2.2 + 1)).2.2
      exact Nat.le_trans (Nat.le_succ _) (lfin_m (m := S.2.2.2 + 1)).1
theorem rn_m : ∀ {k : Nat} {i : Int} {S : lST}, S.2.2.2 ≤ (rnl t k i S).2.2.2
  | 0, _, _ => Nat.le_refl _
  | k + 1, i, S => Nat.le_trans wk_m (rn_m (k := k) (i := i + 1) (S := wkl (t i) i S))
def lBD (n : Nat) (S : lST) : Prop := S.1.length ≤ n ∧ S.2.1.length ≤ n ∧ S.2.2.1.length ≤ n
theorem wk_b (h : lBD n S) : lBD (n + 1) (wkl x i S) := by
  obtain ⟨h1, h2, h3⟩ := h
  unfold wkl
  split
  · exact ⟨Nat.succ_le_succ h1, Nat.le_succ_of_le h2, Nat.le_succ_of_le h3⟩
  · split
    · refine ⟨Nat.succ_le_succ h1, Nat.le_succ_of_le h2, ?_⟩
      show (S.2.2.1 ++ [-1]).length ≤ n + 1
      rw [List.length_append]
      exact Nat.succ_le_succ h3
    · have g := lfin_m (b := i + 1) (EN := S.2.1 ++ [(i, gl S.2.2.1 ((S.2.2.1.length : Int) - 1 - (x - 2)))]) (fr := S.1) (LE := ssl S.2.2.1 ((S.2.2.1.length : Int) - 1 - (x - 2)) (S.2.1.length : Int)) (m := S.2.2.2 + 1)
      rw [ssl_len] at g
      refine ⟨Nat.le_succ_of_le (Nat.le_trans g.2.1 h1), ?_, Nat.le_succ_of_le (Nat.le_trans g.2.2 h3)⟩
      show (S.2.1 ++ [_]).length ≤ n + 1
      rw [List.length_append]
      exact Nat.succ_le_succ h2
/-- ends are ends -/
def WF0 (EN : lFr) (LE : List Int) : Prop := (∀ x, x ∈ LE → x = -1 ∨ (0 ≤ x ∧ x < (EN.length : Int))) ∧ ∀ q, q ∈ EN → q.2 = -1 ∨ (0 ≤ q.2 ∧ q.2 < (EN.length : Int))
theorem nxt_mem (h0 : 0 ≤ x) (h1 : x < (EN.length : Int)) : ∃ q, q ∈ EN ∧ nxt EN x = q.2 ∧ plc EN x = q.1 := by
  have hx : x.toNat < EN.length := by omega
  refine ⟨EN[x.toNat], List.getElem_mem hx, ?_, ?_⟩
  · unfold nxt
    rw [List.getD_eq_getElem?_getD, List.getElem?_eq_getElem hx]
    first | done | rfl
  · unfold plc
    rw [List.getD_eq_getElem?_getD, List.getElem?_eq_getElem hx]
    first | done | rfl
theorem WF0.nx (h : WF0 EN LE) (h0 : 0 ≤ x) (h1 : x < (EN.length : Int)) : nxt EN x = -1 ∨ (0 ≤ nxt EN x ∧ nxt EN x < (EN.length : Int)) := by
  obtain ⟨q, hq, e, -⟩ := nxt_mem h0 h1
  rw [e]
  exact h.2 q hq
theorem WF0.dl (h : WF0 EN LE) : WF0 EN LE.dropLast := ⟨fun x hx => h.1 x (List.dropLast_subset _ hx), h.2⟩
theorem WF0.fv (h : WF0 EN LE) (hx : x = -1 ∨ (0 ≤ x ∧ x < (EN.length : Int))) : fnv EN p a x = -1 ∨ (0 ≤ fnv EN p a x ∧ fnv EN p a x < (EN.length : Int)) := by
  unfold fnv
  split
  · rename_i z
    rcases hx with hx | hx
    · exact absurd hx z.1
    · exact h.nx hx.1 hx.2
  · exact hx
theorem WF0.mp (h : WF0 EN LE) : WF0 EN (LE.map (fnv EN p a)) := by
  refine ⟨fun x hx => ?_, h.2⟩
  obtain ⟨y, hy, e⟩ := List.mem_map.mp hx
  rw [← e]
  exact h.fv (h.1 y hy)
theorem WF0.fin : ∀ {fr : lFr} {LE : List Int} {m : Nat}, WF0 EN LE → WF0 EN (lfin b EN fr LE m).2.1
  | [], LE, m, h => h
  | f :: fr, LE, m, h => by
    by_cases z : f.2 = 0
    · have e : lfin b EN (f :: fr) LE m = ((f.1, b) :: fr, LE, m) := if_pos z
      rw [e]
      exact h
    · by_cases z1 : f.2 = -1
      · have e : lfin b EN (f :: fr) LE m = lfin b EN fr LE.dropLast (m + if LE.getLastD 0 = -1 then 1 else 0) := (if_neg z).trans (if_pos z1)
        rw [e]
        exact WF0.fin h.dl
      · have e : lfin b EN (f :: fr) LE m = lfin b EN fr (LE.map (fnv EN f.1 f.2)) (m + bkn EN f.2 LE + fnn EN f.1 f.2 LE) := (if_neg z).trans (if_neg z1)
        rw [e]
        exact WF0.fin h.mp
theorem gl_mem : gl l v = 0 ∨ gl l v ∈ l := by
  by_cases h : 0 ≤ v ∧ v < (l.length : Int)
  · exact Or.inr (List.mem_of_getElem? (gl_at h.1 h.2))
  · refine Or.inl ?_
    unfold gl
    by_cases h0 : 0 ≤ v
    · rw [if_pos h0, List.getD_eq_getElem?_getD, List.getElem?_eq_none (by omega)]
      first | done | rfl
    · rw [if_neg h0]
theorem ssl_mem (h : x ∈ ssl l v y) : x ∈ l ∨ x = y := by
  unfold ssl at h
  split at h
  · exact List.mem_or_eq_of_mem_set h
  · exact Or.inl h
theorem WF0.var (h : WF0 EN LE) : WF0 (EN ++ [(i, gl LE v)]) (ssl LE v (EN.length : Int)) := by
  have hn : (EN ++ [(i, gl LE v)]).length = EN.length + 1 := by
    rw [List.length_append]
    first | done | rfl
  refine ⟨fun x hx => ?_, fun q hq => ?_⟩
  · rw [hn]
    rcases ssl_mem hx with z | z
    · rcases h.1 x z with w | w
      · exact Or.inl w
      · exact Or.inr ⟨w.1, by omega⟩
    · exact Or.inr ⟨by omega, by omega⟩
  · rw [hn]
    rcases List.mem_append.mp hq with z | z
    · rcases h.2 q z with w | w
      · exact Or.inl w
      · exact Or.inr ⟨w.1, by omega⟩
    · rw [List.mem_singleton.mp z]
      show gl LE v = -1 ∨ (0 ≤ gl LE v ∧ gl LE v < ((EN.length + 1 : Nat) : Int))
      rcases gl_mem (l := LE) (v := v) with w | w
      · rw [w]
        exact Or.inr ⟨Int.le_refl _, by omega⟩
      · rcases h.1 _ w with w | w
        · exact Or.inl w
        · exact Or.inr ⟨w.1, by omega⟩
theorem WF0.ng (h : WF0 EN LE) : WF0 EN (LE ++ [-1]) := ⟨fun x hx => (List.mem_append.mp hx).elim (h.1 x) (fun z => Or.inl (List.mem_singleton.mp z)), h.2⟩
theorem WF0.wkk (h : WF0 S.2.1 S.2.2.1) : WF0 (wkl x i S).2.1 (wkl x i S).2.2.1 := by
  unfold wkl
  split
  · exact h
  · split
    · exact h.ng
    · exact WF0.fin h.var
/-- the same, told from another place on -/
theorem sc_shl {s : Int} : ∀ {k : Nat} {d i : Int} {n : Nat}, (∀ q : Int, i ≤ q → u (q - s) = t q) → sc t k d i n → sc u k d (i - s) n ∧ ss u k (i - s) = ss t k i ∧ cs u k d (i - s) = cs t k d i ∧ us u k d (i - s) = us t k d i
  | 0, _, _, _, _, h => h.elim
  | k + 1, d, i, n, e, h => by
    have e0 := e i (Int.le_refl _)
    have h9 := h
    rcases h with ⟨h0, a, b, h1, h2, h3⟩ | ⟨h0, a, h1, h2⟩ | ⟨h0, h1, h2⟩
    · obtain ⟨p1, p2, p3, p4⟩ := sc_shl (s := s) (fun q hq => e q (by omega)) h2
      obtain ⟨r1, r2, r3, r4⟩ := sc_shl (s := s) (fun q hq => e q (by omega)) h3
      rw [show i + 1 - s = i - s + 1 by omega] at p1 p2 p3 p4
      rw [show i + 1 + (a : Int) - s = i - s + 1 + (a : Int) by omega] at r1 r2 r3 r4
      have u0 : u (i - s) = 0 := by rw [e0]; exact h0
      refine ⟨Or.inl ⟨u0, a, b, h1, p1, r1⟩, ?_, ?_, ?_⟩
      · have g : sc u (k + 1) d (i - s) n := Or.inl ⟨u0, a, b, h1, p1, r1⟩
        rw [sc_ss g, sc_ss h9]
      · rw [cs_app u0 p1, cs_app h0 h2, p3, p4, r3, r4]
      · funext v
        rw [us_app u0 p1, us_app h0 h2, p4, r4]
    · obtain ⟨p1, p2, p3, p4⟩ := sc_shl (s := s) (fun q hq => e q (by omega)) h2
      rw [show i + 1 - s = i - s + 1 by omega] at p1 p2 p3 p4
      have u0 : u (i - s) = 1 := by rw [e0]; exact h0
      refine ⟨Or.inr (Or.inl ⟨u0, a, h1, p1⟩), ?_, ?_, ?_⟩
      · have g : sc u (k + 1) d (i - s) n := Or.inr (Or.inl ⟨u0, a, h1, p1⟩)
        rw [sc_ss g, sc_ss h9]
      · rw [cs_lam u0, cs_lam h0, p3, p4]
      · funext v
        rw [us_lam u0, us_lam h0, p4]
    · have u0 : 2 ≤ u (i - s) := by rw [e0]; exact h0
      refine ⟨Or.inr (Or.inr ⟨u0, by rw [e0]; exact h1, h2⟩), ?_, ?_, ?_⟩
      · have g : sc u (k + 1) d (i - s) n := Or.inr (Or.inr ⟨u0, by rw [e0]; exact h1, h2⟩)
        rw [sc_ss g, sc_ss h9]
      · rw [cs_var (by omega) (by omega), cs_var (by omega) (by omega)]
      · funext v
        rw [us_var (by omega) (by omega), us_var (by omega) (by omega), e0]
theorem ltx_gl (q : Int) (hq : 2600 ≤ q) : gl c (q - 2600) = ltx c q := if_pos (by omega)
/-- how many nodes a whole term takes -/
theorem rn_all (h : sc (ltx c) 120 0 2600 c.length) : (rnl (gl c) c.length 0 ([], [], [], 1)).2.2.2 = 1 + cnt c := by
  obtain ⟨p1, -, p3, -⟩ := sc_shl (s := 2600) (u := gl c) (fun q hq => ltx_gl q hq) h
  rw [show (2600 : Int) - 2600 = 0 by omega] at p1 p3
  obtain ⟨EN', LE', -, -, -, e⟩ := rn_t (fr := []) (EN := []) (LE := []) (m := 1) p1 (Int.le_refl _) rfl ⟨fun v v0 v1 => absurd v1 (by show ¬ v < ((0 : Nat) : Int); omega), fun v v0 v1 => absurd v1 (by show ¬ v < ((0 : Nat) : Int); omega)⟩
  rw [e]
  show 1 + cs (gl c) 120 0 0 = 1 + cnt c
  rw [p3]
  first | done | rfl
end LQS
