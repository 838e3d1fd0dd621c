/-! READING, method by method, against the machine -/
theorem TKv.cg {T : List Int} {e e' f8 f9 f10 f11 f12 f13 f14 g8 g9 g10 g11 g12 g13 g14 : Int} (h : TKv T e f8 f9 f10 f11 f12 f13 f14) (he : e' = e) (h8 : g8 = f8) (h9 : g9 = f9) (h10 : g10 = f10) (h11 : g11 = f11) (h12 : g12 = f12) (h13 : g13 = f13) (h14 : g14 = f14) : TKv T e' g8 g9 g10 g11 g12 g13 g14 := by
  subst he h8 h9 h10 h11 h12 h13 h14
  exact h
theorem RS.cg {s : mS} {c : List Int} {f18 f20 f21 f23 g18 g20 g21 g23 : Int} {a15 a16 a17 a19 a22 b15 b16 b17 b19 b22 : Int → Int} (h : RS s (c) f18 f20 f21 f23 a15 a16 a17 a19 a22) (h18 : g18 = f18) (h20 : g20 = f20) (h21 : g21 = f21) (h23 : g23 = f23) (r15 : b15 = a15) (r16 : b16 = a16) (r17 : b17 = a17) (r19 : b19 = a19) (r22 : b22 = a22) : RS s (c) g18 g20 g21 g23 b15 b16 b17 b19 b22 := by
  subst h18 h20 h21 h23 r15 r16 r17 r19 r22
  exact h
theorem RS.new {s : mS} {c c' : List Int} {f18 f20 f21 f23 n : Int} {a15 a16 a17 a19 a22 u : Int → Int} (h : RS s (c) f18 f20 f21 f23 a15 a16 a17 a19 a22) (hc : CU c' n u) : RS s (c') f18 f20 f21 n a15 a16 a17 a19 u := ⟨hc, h.2.1, h.2.2.1, h.2.2.2.1, h.2.2.2.2⟩
def PN (T : List Int) (s : mS) (f5 f6 f8 f9 f10 f11 f12 f13 f14 f18 f20 f21 f23 : Int) (a15 a16 a17 a19 a22 : Int → Int) : Prop := (f6 = 0 → ∃ l : List Int, ms T s = .inl (m_a T s l) ∧ TKv T (tE T (m_e s)) f8 f9 f10 f11 f12 f13 f14 ∧ RS s (m_B s ++ l) f18 f20 f21 f23 a15 a16 a17 a19 a22) ∧ (f6 ≠ 0 → ms T s = .inr (f6, f5, []))
def XA (T : List Int) (s : mS) (f5 f6 f8 f9 f10 f11 f12 f13 f14 f18 f20 f21 f23 : Int) (a15 a16 a17 a19 a22 : Int → Int) : Prop := (f6 = 0 → ∃ s' : mS, (Rc T s s' ∧ m_st s' = 4 ∧ m_op s' = m_op s ∧ m_ns s' = m_ns s ∧ m_nw s' = m_nw s ∧ m_na s' = m_na s ∧ m_nv s' = m_nv s ∧ (m_c s).length ≤ (m_c s').length) ∧ m_ar s' = m_ar s ∧ m_at s' ≠ 0 ∧ m_ch s' = bc (m_c s) (m_ch s) (m_at s) ∧ m_ch s' ≤ (m_c s').length ∧ TKv T (m_e s') f8 f9 f10 f11 f12 f13 f14 ∧ RS s' (m_c s') f18 f20 f21 f23 a15 a16 a17 a19 a22) ∧ (f6 ≠ 0 → Ev T s (f6, f5, []))
def XT (T : List Int) (s : mS) (f5 f6 f8 f9 f10 f11 f12 f13 f14 f18 f20 f21 f23 : Int) (a15 a16 a17 a19 a22 : Int → Int) : Prop := (f6 = 0 → ∃ s' : mS, (Rc T s s' ∧ m_st s' = 4 ∧ m_op s' = m_op s ∧ m_ns s' = m_ns s ∧ m_nw s' = m_nw s ∧ m_na s' = m_na s ∧ m_nv s' = m_nv s ∧ (m_c s).length ≤ (m_c s').length) ∧ (m_ar s').take (m_ar s).length = m_ar s ∧ f20 = ((m_ar s).length : Int) ∧ TKv T (m_e s') f8 f9 f10 f11 f12 f13 f14 ∧ RS s' (m_c s') f18 f20 f21 f23 a15 a16 a17 a19 a22) ∧ (f6 ≠ 0 → Ev T s (f6, f5, []))
def XP (T : List Int) (s : mS) (f8 f9 f10 f11 f12 f13 f14 f18 f20 f21 f23 : Int) (a15 a16 a17 a19 a22 : Int → Int) : Prop := TKv T (m_e s) f8 f9 f10 f11 f12 f13 f14 ∧ RS s (m_c s) f18 f20 f21 f23 a15 a16 a17 a19 a22 ∧ m_at s = 0 ∧ f20 = ((m_ar s).length : Int) ∧ ((m_st s = 0 ∧ ¬ (tO T (m_e s) = 97 ∧ tO T (tE T (m_e s)) = 61)) ∨ m_st s = 1)
def XL (T : List Int) (s z : mS) (f8 f9 f10 f11 f12 f13 f14 f18 f20 f21 f23 : Int) (a15 a16 a17 a19 a22 : Int → Int) : Prop := Rc T s z ∧ (m_st z = 2 ∨ m_st z = 3) ∧ (m_op z = m_op s ∧ m_ns z = m_ns s ∧ m_nw z = m_nw s ∧ m_na z = m_na s ∧ m_nv z = m_nv s ∧ (m_c s).length ≤ (m_c z).length) ∧ m_at z = 0 ∧ (m_ar z).take (m_ar s).length = m_ar s ∧ f20 = ((m_ar z).length : Int) ∧ TKv T (m_e z) f8 f9 f10 f11 f12 f13 f14 ∧ RS z (m_c z) f18 f20 f21 f23 a15 a16 a17 a19 a22
def XO (T : List Int) (s : mS) (v : Int) (f5 f6 f8 f9 f10 f11 f12 f13 f14 f18 f20 f21 f23 : Int) (a15 a16 a17 a19 a22 : Int → Int) : Prop := (f6 = 0 → ∃ s' : mS, (Rc T s s' ∧ m_st s' = 4 ∧ m_op s' = m_op s ∧ m_ns s' = m_ns s ∧ m_nw s' = m_nw s ∧ m_na s' = m_na s ∧ m_nv s' = m_nv s ∧ (m_c s).length ≤ (m_c s').length) ∧ m_ar s' = m_ar s ∧ m_at s' ≠ 0 ∧ v = min (m_ch s' : Int) 1000000 ∧ m_ch s' ≤ (m_c s').length ∧ TKv T (m_e s') f8 f9 f10 f11 f12 f13 f14 ∧ RS s' (m_c s') f18 f20 f21 f23 a15 a16 a17 a19 a22) ∧ (f6 ≠ 0 → Ev T s (f6, f5, []))
def XI (T : List Int) (s : mS) (f8 f9 f10 f11 f12 f13 f14 f18 f20 f21 f23 : Int) (a15 a16 a17 a19 a22 : Int → Int) : Prop := TKv T (m_e s) f8 f9 f10 f11 f12 f13 f14 ∧ NR (m_ns s) (m_nw s) f18 a15 a16 a17 ∧ f20 = 0 ∧ f21 = 0 ∧ m_st s = 0 ∧ m_c s = [] ∧ m_at s = 0 ∧ m_ar s = [] ∧ m_op s = [] ∧ m_na s = 0
def XJ (T : List Int) (s : mS) (f5 f6 f8 f9 f10 f11 f12 f13 f14 f18 f20 f21 f23 : Int) (a15 a16 a17 a19 a22 : Int → Int) : Prop := (f6 = 0 → ∃ s' : mS, Rc T s s' ∧ XI T s' f8 f9 f10 f11 f12 f13 f14 f18 f20 f21 f23 a15 a16 a17 a19 a22) ∧ (f6 ≠ 0 → Ev T s (f6, f5, []))
def m_1 (T : List Int) (s : mS) : mS := (1, tE T (m_e s), m_B s, m_ch s, 0, m_ns s, m_nw s, m_ar s, (bc (m_c s) (m_ch s) (m_at s), m_at s + 1, (m_ar s).length) :: m_op s, m_na s, m_nv s)
def m_2 (T : List Int) (s : mS) : mS := (2, tE T (m_e s), m_c s, m_ch s, m_at s, m_ns s, m_nw s, m_ar s, m_op s, m_na s, m_nv s)
def m_3 (T : List Int) (s : mS) : mS := (3, tE T (m_e s), m_c s ++ [1], m_ch s, m_at s, m_ns s, m_nw s, m_ar s ++ [m_w T s], m_op s, m_na s, m_nv s)
def m_4 (T : List Int) (s : mS) : mS := (1, tE T (m_e s), m_c s, m_ch s, m_at s, m_ns s, m_nw s, m_ar s, m_op s, m_na s, m_nv s)
def m_5 (T : List Int) (s : mS) : mS := (1, tE T (tE T (m_e s)), m_c s, m_ch s, m_at s, m_ns s, m_nw s, m_ar s, m_op s, 1, m_w T s)
section ZB
variable {T : List Int} {s z : mS} {v f5 f6 f8 f9 f10 f11 f12 f13 f14 f18 f20 f21 f23 g5 g6 g8 g9 g10 g11 g12 g13 g14 g18 g20 g21 g23 : Int} {a15 a16 a17 a19 a22 b15 b16 b17 b19 b22 : Int → Int}
theorem PN.bad (h : f6 ≠ 0) (h2 : ms T s = .inr (f6, f5, [])) : PN T s f5 f6 f8 f9 f10 f11 f12 f13 f14 f18 f20 f21 f23 a15 a16 a17 a19 a22 := ⟨fun z => absurd z h, fun _ => h2⟩
theorem PN.ok {l : List Int} (h6 : f6 = 0) (h1 : ms T s = .inl (m_a T s l)) (h2 : TKv T (tE T (m_e s)) f8 f9 f10 f11 f12 f13 f14) (h3 : RS s (m_B s ++ l) f18 f20 f21 f23 a15 a16 a17 a19 a22) : PN T s f5 f6 f8 f9 f10 f11 f12 f13 f14 f18 f20 f21 f23 a15 a16 a17 a19 a22 := ⟨fun _ => ⟨l, h1, h2, h3⟩, fun z => absurd h6 z⟩
theorem ba_le {c l : List Int} {ch n : Nat} (h : n ≠ 0 → ch ≤ c.length) : bc c ch n ≤ (ba c ch n ++ l).length := by
  unfold bc ba
  by_cases z : n = 0
  · rw [if_pos z, if_pos z, List.length_append]
    omega
  · rw [if_neg z, if_neg z, List.length_append, List.length_append, List.length_take]
    have := h z
    omega
theorem ba_ge {c l : List Int} {ch n : Nat} : c.length ≤ (ba c ch n ++ l).length := by
  unfold ba
  by_cases z : n = 0
  · rw [if_pos z, List.length_append]
    omega
  · rw [if_neg z, List.length_append, List.length_append, List.length_take, List.length_cons, List.length_drop]
    omega
theorem ra_n (h : PN T s f5 f6 f8 f9 f10 f11 f12 f13 f14 f18 f20 f21 f23 a15 a16 a17 a19 a22) (hc : m_at s ≠ 0 → m_ch s ≤ (m_c s).length) : XA T s f5 f6 f8 f9 f10 f11 f12 f13 f14 f18 f20 f21 f23 a15 a16 a17 a19 a22 := by
  refine ⟨fun h6 => ?_, fun h6 => Ev.stop (h.2 h6)⟩
  obtain ⟨l, h1, h2, h3⟩ := h.1 h6
  exact ⟨m_a T s l, ⟨Rc.st h1, rfl, rfl, rfl, rfl, rfl, rfl, ba_ge⟩, rfl, Nat.succ_ne_zero _, rfl, ba_le hc, h2, h3⟩
theorem XA.bad (h : f6 ≠ 0) (h2 : Ev T s (f6, f5, [])) : XA T s f5 f6 f8 f9 f10 f11 f12 f13 f14 f18 f20 f21 f23 a15 a16 a17 a19 a22 := ⟨fun z => absurd z h, fun _ => h2⟩
theorem XT.bad (h : f6 ≠ 0) (h2 : Ev T s (f6, f5, [])) : XT T s f5 f6 f8 f9 f10 f11 f12 f13 f14 f18 f20 f21 f23 a15 a16 a17 a19 a22 := ⟨fun z => absurd z h, fun _ => h2⟩
/-- no atom where one is due -/
theorem raa_1 (hk : TKv T (m_e s) f8 f9 f10 f11 f12 f13 f14) (hs : m_st s = 0 ∨ m_st s = 1) (h9 : f9 ≠ 1 ∧ f9 ≠ 2 ∧ (f9 = 3 → f11 ≠ 40 ∧ f11 ≠ 92)) (h6 : g6 = 1) (h5 : g5 = f10) : Ev T s (g6, g5, []) := by
  have h2 := hk.o
  rw [h6, h5, hk.b.2.2.1]
  exact Ev.stop (ms_1 (by omega) (by omega) (by omega) (by omega) (by omega) (by omega) (by omega) (by omega))
theorem ra_2 (hk : TKv T (m_e s) f8 f9 f10 f11 f12 f13 f14) (hs : sA T s) (h9 : f9 = 3 ∧ f11 = 40) (hr : RS s (m_B s) f18 f20 f21 f23 a15 a16 a17 a19 a22) (h21 : 12 ≤ f21) (h6 : g6 = 2) (h5 : g5 = f10) : Ev T s (g6, g5, []) := by
  have h2 := hk.o
  have h3 := hr.2.2.2.1
  rw [h6, h5, hk.b.2.2.1]
  exact Ev.stop (ms_o2 (by omega) (by omega) hs)
theorem ra_o (hk : TKv T (m_e s) f8 f9 f10 f11 f12 f13 f14) (hs : sA T s) (h9 : f9 = 3 ∧ f11 = 40) (hr : RS s (m_B s) f18 f20 f21 f23 a15 a16 a17 a19 a22) (h21 : f21 < 12) : ms T s = .inl (m_1 T s) := by
  have h2 := hk.o
  have h3 := hr.2.2.2.1
  exact ms_op (by omega) (by omega) hs
theorem ra_p (hr : RS s (m_B s) f18 f20 f21 f23 a15 a16 a17 a19 a22) (h20 : f20 = ((m_ar s).length : Int)) (h21 : f21 < 12) (hk : TKv T (tE T (m_e s)) g8 g9 g10 g11 g12 g13 g14) (h8 : g18 = f18) (h9 : g20 = f20) (h10 : g21 = f21 + 1) (h11 : g23 = f23) (r15 : b15 = a15) (r16 : b16 = a16) (r17 : b17 = a17) (r19 : b19 = a19) (r22 : b22 = a22) : XP T (m_1 T s) g8 g9 g10 g11 g12 g13 g14 g18 g20 g21 g23 b15 b16 b17 b19 b22 := by
  subst r15 r16 r17 r19 r22
  subst h8 h9 h11
  obtain ⟨c1, c2, c3, c4, c5⟩ := hr
  exact ⟨hk, ⟨c1, c2, c3, by show _ = (((m_op s).length + 1 : Nat) : Int); omega, by show (m_op s).length + 1 ≤ 12; omega⟩, rfl, h20, Or.inr rfl⟩
/-- behind a closing parenthesis -/
theorem ra_c (hms : ms T s = .inl (m_1 T s)) (hX : XT T (m_1 T s) f5 f6 f8 f9 f10 f11 f12 f13 f14 f18 f20 f21 f23 a15 a16 a17 a19 a22) (hc : m_at s ≠ 0 → m_ch s ≤ (m_c s).length) (hna : f6 = 0 → f9 ≠ 1 ∧ f9 ≠ 2 ∧ (f9 = 3 → f11 ≠ 40)) (hm1 : f6 = 0 ∧ f9 = 3 ∧ f11 = 41 → g6 = 0 ∧ g5 = f5) (hm2 : ¬ (f6 = 0 ∧ f9 = 3 ∧ f11 = 41) → g6 ≠ 0 ∧ (f6 = 0 → g6 = 1 ∧ g5 = f10) ∧ (f6 ≠ 0 → g6 = f6 ∧ g5 = f5)) (hk : g6 = 0 → TKv T (f8) g8 g9 g10 g11 g12 g13 g14) (h8 : g18 = f18) (h9 : g20 = f20) (h10 : g21 = f21 - 1) (h11 : g23 = f23) (r15 : b15 = a15) (r16 : b16 = a16) (r17 : b17 = a17) (r19 : b19 = a19) (r22 : b22 = a22) : XA T s g5 g6 g8 g9 g10 g11 g12 g13 g14 g18 g20 g21 g23 b15 b16 b17 b19 b22 := by
  by_cases z6 : f6 = 0
  · obtain ⟨s', ⟨x1, x2, x3, x4, x5, x6, x7, xc⟩, x8, x9, x10, x11⟩ := hX.1 z6
    have xc : (m_B s).length ≤ (m_c s').length := xc
    have xg : (m_c s).length ≤ (m_B s).length := by
      have := ba_ge (c := m_c s) (l := []) (ch := m_ch s) (n := m_at s)
      rw [List.append_nil] at this
      exact this
    have ho := x10.o
    have hop : (m_op s').length = (m_op s).length + 1 := by
      rw [x3]
      rfl
    by_cases z : f9 = 3 ∧ f11 = 41
    · have m1 := hm1 ⟨z6, z⟩
      have hcl := ms_cl (T := T) (s := s') (by omega) x2 (by omega)
      have hRc := (Rc.st hms).tr (x1.nx hcl)
      refine ⟨fun _ => ⟨_, ⟨hRc, rfl, by rw [x3]; rfl, x4, x5, x6, x7, Nat.le_trans xg xc⟩, ?_, ?_, ?_, ?_, ?_, ?_⟩, fun y => absurd m1.1 y⟩
      · show (m_ar s').take ((m_op s').headD (0, 0, 0)).2.2 = m_ar s
        rw [x3]
        exact x8
      · show ((m_op s').headD (0, 0, 0)).2.1 ≠ 0
        rw [x3]
        exact Nat.succ_ne_zero _
      · show ((m_op s').headD (0, 0, 0)).1 = _
        rw [x3]
        rfl
      · show ((m_op s').headD (0, 0, 0)).1 ≤ (m_c s').length
        rw [x3]
        have h2 := ba_le (c := m_c s) (l := []) hc
        rw [List.append_nil] at h2
        exact Nat.le_trans h2 xc
      · have h1 := hk m1.1
        rw [x10.b.2.1] at h1
        exact h1
      · obtain ⟨c1, c2, c3, c4, c5⟩ := x11
        subst r15 r16 r17 r19 r22
        subst h8 h9 h11
        refine ⟨c1, c2, ?_, ?_, ?_⟩
        · have e1 : (m_ar s').take ((m_op s').headD (0, 0, 0)).2.2 = m_ar s := by
            rw [x3]
            exact x8
          obtain ⟨d1, d2, d3, d4⟩ := c3
          have hlen : (m_ar s).length ≤ (m_ar s').length := by
            have := congrArg List.length x8
            rw [List.length_take] at this
            have e9 : (m_ar (m_1 T s)).length = (m_ar s).length := rfl
            omega
          show BD ((m_ar s').take ((m_op s').headD (0, 0, 0)).2.2) g20 b19
          rw [e1]
          have e9 : (m_ar (m_1 T s)).length = (m_ar s).length := rfl
          refine ⟨d1, by omega, by omega, fun k hk9 => ?_⟩
          obtain ⟨w, w1, w2, w3⟩ := d4 k hk9
          refine ⟨w, ?_, w2, w3⟩
          have e8 : (m_ar s')[k]? = (m_ar s)[k]? := by
            have x9' : (m_ar s').take (m_ar s).length = m_ar s := x8
            rw [← x9', List.getElem?_take_of_lt (by omega)]
          rw [← e8]
          exact w1
        · show g21 = ((m_op s').tail.length : Int)
          rw [List.length_tail]
          omega
        · show (m_op s').tail.length ≤ 12
          rw [List.length_tail]
          omega
    · have m2 := hm2 (fun y => z y.2)
      refine XA.bad m2.1 ?_
      have m3 := m2.2.1 z6
      have hn := hna z6
      rw [m3.1, m3.2, x10.b.2.2.1]
      exact ((Rc.st hms).tr x1).sp (ms_1 (by omega) (by omega) (by omega) (by omega) (by omega) (by omega) (by omega) (by omega))
  · have m2 := hm2 (fun y => z6 y.1)
    refine XA.bad m2.1 ?_
    have m3 := m2.2.2 z6
    rw [m3.1, m3.2]
    exact Ev.next hms (hX.2 z6)
/-- a function begins; its names; its point -/
theorem rf_b (h : XP T s f8 f9 f10 f11 f12 f13 f14 f18 f20 f21 f23 a15 a16 a17 a19 a22) (h9 : f9 = 3 ∧ f11 = 92) (hk : TKv T (f8) g8 g9 g10 g11 g12 g13 g14) (h8 : g18 = f18) (h20 : g20 = f20) (h10 : g21 = f21) (h11 : g23 = f23) (r15 : b15 = a15) (r16 : b16 = a16) (r17 : b17 = a17) (r19 : b19 = a19) (r22 : b22 = a22) : XL T s (m_2 T s) g8 g9 g10 g11 g12 g13 g14 g18 g20 g21 g23 b15 b16 b17 b19 b22 := by
  obtain ⟨c1, c2, c3, c4, c5⟩ := h
  have h2 := c1.o
  have hms : ms T s = .inl (m_2 T s) := ms_bs (by omega) (by omega)
  refine ⟨Rc.st hms, Or.inl rfl, ⟨rfl, rfl, rfl, rfl, rfl, Nat.le_refl _⟩, c3, List.take_length, by rw [h20]; exact c4, hk.cg c1.b.2.1.symm rfl rfl rfl rfl rfl rfl rfl, c2.cg h8 h20 h10 h11 r15 r16 r17 r19 r22⟩
theorem rf_1 (h : XL T s z f8 f9 f10 f11 f12 f13 f14 f18 f20 f21 f23 a15 a16 a17 a19 a22) (h3 : m_st z = 3 → f9 = 1) (h9 : f9 ≠ 1) (h6 : g6 = 1) (h5 : g5 = f10) : Ev T s (g6, g5, []) := by
  obtain ⟨c1, c2, c3, c4, c5, c6, c7, c8⟩ := h
  have h2 := c7.o
  rw [h6, h5, c7.b.2.2.1]
  exact c1.sp (ms_1 (by omega) (by omega) (by omega) (by omega) (by omega) (by omega) (by omega) (by omega))
theorem rf_2 (h : XL T s z f8 f9 f10 f11 f12 f13 f14 f18 f20 f21 f23 a15 a16 a17 a19 a22) (h9 : f9 = 1) (h14 : 8 < f14 ∨ 30 ≤ f20) (h6 : g6 = 2) (h5 : g5 = f10) : Ev T s (g6, g5, []) := by
  obtain ⟨c1, c2, c3, c4, c5, c6, c7, c8⟩ := h
  have h2 := c7.o
  rw [h6, h5, c7.b.2.2.1]
  exact c1.sp (ms_f2 (by omega) c2 (by omega))
theorem rf_3 (h : XL T s z f8 f9 f10 f11 f12 f13 f14 f18 f20 f21 f23 a15 a16 a17 a19 a22) (h9 : f9 = 1) (h14 : f14 ≤ 8) (h30 : f20 < 30) (hb : b19 f20 = f13 ∧ ∀ q : Int, q ≠ f20 → b19 q = a19 q) (hc : CU (m_c z ++ [1]) g23 b22) (hk : TKv T (f8) g8 g9 g10 g11 g12 g13 g14) (h8 : g18 = f18) (h20 : g20 = f20 + 1) (h10 : g21 = f21) (r15 : b15 = a15) (r16 : b16 = a16) (r17 : b17 = a17) : XL T s (m_3 T z) g8 g9 g10 g11 g12 g13 g14 g18 g20 g21 g23 b15 b16 b17 b19 b22 := by
  obtain ⟨c1, c2, c3, c4, c5, c6, c7, d1, d2, d3, d4, d5⟩ := h
  obtain ⟨k1, k2, k3, k4⟩ := c7.w h9 h14
  have hms : ms T z = .inl (m_3 T z) := ms_fw k1 c2 k2 (by omega)
  have hl : (m_ar (m_3 T z)).length = (m_ar z).length + 1 := List.length_append
  have hla : (m_ar s).length ≤ (m_ar z).length := by
    have := congrArg List.length c5
    rw [List.length_take] at this
    omega
  subst r15 r16 r17
  refine ⟨c1.nx hms, Or.inr rfl, ⟨c3.1, c3.2.1, c3.2.2.1, c3.2.2.2.1, c3.2.2.2.2.1, ?_⟩, c4, ?_, by omega, hk.cg c7.b.2.1.symm rfl rfl rfl rfl rfl rfl rfl, hc, ?_, ?_, by rw [h10]; exact d4, d5⟩
  · show (m_c s).length ≤ (m_c z ++ [1]).length
    rw [List.length_append]
    exact Nat.le_trans c3.2.2.2.2.2 (Nat.le_add_right _ _)
  · show (m_ar z ++ [m_w T z]).take (m_ar s).length = m_ar s
    rw [List.take_append_of_le_length hla]
    exact c5
  · rw [h8]
    exact d2
  · obtain ⟨e1, e2, e3, e4⟩ := d3
    refine ⟨by omega, by omega, by omega, fun k hk9 => ?_⟩
    by_cases e : (k : Int) = f20
    · refine ⟨m_w T z, ?_, by rw [e, hb.1]; exact k3, k4⟩
      show (m_ar z ++ [m_w T z])[k]? = _
      rw [List.getElem?_append_right (by omega), show k - (m_ar z).length = 0 by omega]
      rfl
    · obtain ⟨w, w1, w2, w3⟩ := e4 k (by omega)
      refine ⟨w, ?_, by rw [hb.2 k e]; exact w2, w3⟩
      show (m_ar z ++ [m_w T z])[k]? = _
      rw [List.getElem?_append_left (by omega)]
      exact w1
theorem rf_p (h : XL T s z f8 f9 f10 f11 f12 f13 f14 f18 f20 f21 f23 a15 a16 a17 a19 a22) (h3 : m_st z = 3) (h9 : f9 = 3 ∧ f11 = 46) (hk : TKv T (f8) g8 g9 g10 g11 g12 g13 g14) (h8 : g18 = f18) (h20 : g20 = f20) (h10 : g21 = f21) (h11 : g23 = f23) (r15 : b15 = a15) (r16 : b16 = a16) (r17 : b17 = a17) (r19 : b19 = a19) (r22 : b22 = a22) : XP T (m_4 T z) g8 g9 g10 g11 g12 g13 g14 g18 g20 g21 g23 b15 b16 b17 b19 b22 := by
  obtain ⟨c1, c2, c3, c4, c5, c6, c7, c8⟩ := h
  exact ⟨hk.cg c7.b.2.1.symm rfl rfl rfl rfl rfl rfl rfl, c8.cg h8 h20 h10 h11 r15 r16 r17 r19 r22, c4, by rw [h20]; exact c6, Or.inr rfl⟩
theorem rf_q (h : XL T s z f8 f9 f10 f11 f12 f13 f14 f18 f20 f21 f23 a15 a16 a17 a19 a22) (h3 : m_st z = 3) (h9 : f9 ≠ 1) (h9b : ¬ (f9 = 3 ∧ f11 = 46)) (h6 : g6 = 1) (h5 : g5 = f10) : Ev T s (g6, g5, []) := by
  obtain ⟨c1, c2, c3, c4, c5, c6, c7, c8⟩ := h
  have h2 := c7.o
  rw [h6, h5, c7.b.2.2.1]
  exact c1.sp (ms_1 (by omega) (by omega) (by omega) (by omega) (by omega) (by omega) (by omega) (by omega))
theorem take_tr {l m : List (List Int)} {n k : Nat} (h : l.take n = m) (hk : k ≤ n) : l.take k = m.take k := by
  rw [← h, List.take_take, Nat.min_eq_left hk]
theorem BD.lo {ar : List (List Int)} {n n' : Int} {B : Int → Int} (h : BD ar n B) (h0 : 0 ≤ n') (h1 : n' ≤ n) : BD ar n' B := ⟨h0, by have := h.2.1; omega, h.2.2.1, fun k hk => h.2.2.2 k (by omega)⟩
theorem rf_e {p8 p9 p10 p11 p12 p13 p14 p18 p20 p21 p23 : Int} {c15 c16 c17 c19 c22 : Int → Int} (h : XL T s z p8 p9 p10 p11 p12 p13 p14 p18 p20 p21 p23 c15 c16 c17 c19 c22) (h3 : m_st z = 3) (h9 : p9 = 3 ∧ p11 = 46) (hX : XT T (m_4 T z) f5 f6 f8 f9 f10 f11 f12 f13 f14 f18 f20 f21 f23 a15 a16 a17 a19 a22) (h5 : g5 = f5) (h6 : g6 = f6) (h8 : g8 = f8) (h9 : g9 = f9) (h10 : g10 = f10) (h11 : g11 = f11) (h12 : g12 = f12) (h13 : g13 = f13) (h14 : g14 = f14) (h18 : g18 = f18) (h20 : f6 = 0 → g20 = ((m_ar s).length : Int)) (h21 : g21 = f21) (h23 : g23 = f23) (r15 : b15 = a15) (r16 : b16 = a16) (r17 : b17 = a17) (r19 : b19 = a19) (r22 : b22 = a22) : XT T s g5 g6 g8 g9 g10 g11 g12 g13 g14 g18 g20 g21 g23 b15 b16 b17 b19 b22 := by
  subst r15 r16 r17 r19 r22
  subst h5 h6 h8 h9 h10 h11 h12 h13 h14 h18 h21 h23
  obtain ⟨c1, c2, c3, c4, c5, c6, c7, c8⟩ := h
  have h2 := c7.o
  have hms : ms T z = .inl (m_4 T z) := ms_pt (by omega) h3
  refine ⟨fun y => ?_, fun y => c1.tr (Rc.st hms) _ (hX.2 y)⟩
  obtain ⟨s', ⟨x1, x2, x3, x4, x5, x6, x7, xc⟩, x8, x9, x10, d1, d2, d3, d4, d5⟩ := hX.1 y
  have hla : (m_ar s).length ≤ (m_ar z).length := by
    have := congrArg List.length c5
    rw [List.length_take] at this
    omega
  have x8 : (m_ar s').take (m_ar z).length = m_ar z := x8
  have x9 : f20 = ((m_ar z).length : Int) := x9
  have xc : (m_c z).length ≤ (m_c s').length := xc
  refine ⟨s', ⟨(c1.tr (Rc.st hms)).tr x1, x2, x3.trans c3.1, x4.trans c3.2.1, x5.trans c3.2.2.1, x6.trans c3.2.2.2.1, x7.trans c3.2.2.2.2.1, ?_⟩, ?_, h20 y, x10, d1, d2, d3.lo (by have := h20 y; omega) (by have := h20 y; omega), d4, d5⟩
  · exact Nat.le_trans c3.2.2.2.2.2 xc
  · rw [take_tr x8 hla]
    exact c5
/-- a term: its atoms -/
theorem rt_a (h : XA T s f5 f6 f8 f9 f10 f11 f12 f13 f14 f18 f20 f21 f23 a15 a16 a17 a19 a22) (h0 : m_at s = 0) (hv : v = min ((m_c s).length : Int) 1000000) : XO T s v f5 f6 f8 f9 f10 f11 f12 f13 f14 f18 f20 f21 f23 a15 a16 a17 a19 a22 := by
  refine ⟨fun y => ?_, h.2⟩
  obtain ⟨s', x1, x2, x3, x4, x5, x6, x7⟩ := h.1 y
  refine ⟨s', x1, x2, x3, ?_, x5, x6, x7⟩
  rw [x4]
  unfold bc
  rw [if_pos h0]
  exact hv
theorem rt_o {s' : mS} (hz : Rc T s s' ∧ m_st s' = 4 ∧ m_op s' = m_op s ∧ m_ns s' = m_ns s ∧ m_nw s' = m_nw s ∧ m_na s' = m_na s ∧ m_nv s' = m_nv s ∧ (m_c s).length ≤ (m_c s').length) (h1 : m_ar s' = m_ar s) (h2 : m_at s' ≠ 0) (hv : v = min (m_ch s' : Int) 1000000) (h : XA T s' g5 g6 g8 g9 g10 g11 g12 g13 g14 g18 g20 g21 g23 b15 b16 b17 b19 b22) : XO T s v g5 g6 g8 g9 g10 g11 g12 g13 g14 g18 g20 g21 g23 b15 b16 b17 b19 b22 := by
  obtain ⟨y1, y2, y3, y4, y5, y6, y7, y8⟩ := hz
  refine ⟨fun y => ?_, fun y => y1 _ (h.2 y)⟩
  obtain ⟨s2, ⟨x1, x2, x3, x4, x5, x6, x7, x8⟩, w1, w2, w3, w4, w5, w6⟩ := h.1 y
  refine ⟨s2, ⟨y1.tr x1, x2, x3.trans y3, x4.trans y4, x5.trans y5, x6.trans y6, x7.trans y7, Nat.le_trans y8 x8⟩, w1.trans h1, w2, ?_, w4, w5, w6⟩
  rw [w3]
  unfold bc
  rw [if_neg h2]
  exact hv
theorem rt_e (h : XO T s v f5 f6 f8 f9 f10 f11 f12 f13 f14 f18 f20 f21 f23 a15 a16 a17 a19 a22) (h20 : f6 = 0 → f20 = ((m_ar s).length : Int)) : XT T s f5 f6 f8 f9 f10 f11 f12 f13 f14 f18 f20 f21 f23 a15 a16 a17 a19 a22 := by
  refine ⟨fun y => ?_, h.2⟩
  obtain ⟨s', x1, x2, x3, x4, x5, x6, x7⟩ := h.1 y
  exact ⟨s', x1, by rw [x2]; exact List.take_length, h20 y, x6, x7⟩
/-- a name is told -/
def XK (T : List Int) (s : mS) (f8 f9 f10 f11 f12 f13 f14 f23 : Int) (a22 : Int → Int) : Prop := ∃ (c : List Int) (s' : mS), Rc T s s' ∧ TKv T (m_e s') f8 f9 f10 f11 f12 f13 f14 ∧ m_st s' = 0 ∧ m_c s' = [] ∧ m_at s' = 0 ∧ m_ar s' = [] ∧ m_op s' = [] ∧ m_na s' = 0 ∧ m_ns s' = m_ns s ++ [c] ∧ m_nw s' = m_nw s ++ [m_w T s] ∧ CU c f23 a22
theorem rg_2 (h : XI T s f8 f9 f10 f11 f12 f13 f14 f18 f20 f21 f23 a15 a16 a17 a19 a22) (h9 : f9 = 1) (h61 : tO T (tE T (m_e s)) = 61) (h14 : 8 < f14 ∨ 12 ≤ f18) (h6 : g6 = 2) (h5 : g5 = f10) : Ev T s (g6, g5, []) := by
  have h2 := h.1.o
  have h3 := h.2.1.1
  have h4 := h.2.1.2.2.1
  rw [h6, h5, h.1.b.2.2.1]
  exact Ev.stop (ms_t2 (by omega) h.2.2.2.2.1 h61 (by omega))
theorem rg_4 (h : XI T s f8 f9 f10 f11 f12 f13 f14 f18 f20 f21 f23 a15 a16 a17 a19 a22) (h9 : f9 = 1) (h61 : tO T (tE T (m_e s)) = 61) (h14 : f14 ≤ 8) (h18 : f18 < 12) (hx : fi (m_w T s) (m_nw s) ≠ -1) (h6 : g6 = 4) (h5 : g5 = f10) : Ev T s (g6, g5, []) := by
  obtain ⟨k1, k2, k3, k4⟩ := h.1.w h9 h14
  have h3 := h.2.1.1
  rw [h6, h5, h.1.b.2.2.1]
  exact Ev.stop (ms_t4 k1 h.2.2.2.2.1 h61 k2 (by omega) hx)
theorem rg_m (h : XI T s f8 f9 f10 f11 f12 f13 f14 f18 f20 f21 f23 a15 a16 a17 a19 a22) (h9 : f9 = 1) (h61 : tO T (tE T (m_e s)) = 61) (h14 : f14 ≤ 8) (h18 : f18 < 12) (hx : fi (m_w T s) (m_nw s) = -1) : ms T s = .inl (m_5 T s) := by
  obtain ⟨k1, k2, k3, k4⟩ := h.1.w h9 h14
  have h3 := h.2.1.1
  exact ms_te k1 h.2.2.2.2.1 h61 k2 (by omega) hx
theorem rg_p (h : XI T s f8 f9 f10 f11 f12 f13 f14 f18 f20 f21 f23 a15 a16 a17 a19 a22) (hk : TKv T (tE T (tE T (m_e s))) g8 g9 g10 g11 g12 g13 g14) (h18 : g18 = f18) (h20 : g20 = f20) (h21 : g21 = f21) (h23 : g23 = 0) (r15 : b15 = a15) (r16 : b16 = a16) (r17 : b17 = a17) : XP T (m_5 T s) g8 g9 g10 g11 g12 g13 g14 g18 g20 g21 g23 b15 b16 b17 b19 b22 := by
  obtain ⟨c1, c2, c3, c4, c5, c6, c7, c8, c9, c10⟩ := h
  subst r15 r16 r17
  refine ⟨hk, ⟨?_, by rw [h18]; exact c2, ?_, ?_, ?_⟩, c7, ?_, Or.inr rfl⟩
  · show CU (m_c s) g23 b22
    rw [c6]
    exact CU.nil h23
  · show BD (m_ar s) g20 b19
    rw [c8, h20, c3]
    exact ⟨by omega, by show (0 : Int) ≤ 0; omega, by decide, fun k hk9 => by omega⟩
  · show g21 = ((m_op s).length : Int)
    rw [c9, h21, c4]
    rfl
  · show (m_op s).length ≤ 12
    rw [c9]
    decide
  · show g20 = ((m_ar s).length : Int)
    rw [c8, h20, c3]
    rfl
theorem rg_s {p18 p20 p21 p23 p8 p9 p10 p11 p12 p13 p14 : Int} {c15 c16 c17 c19 c22 : Int → Int} (h : XI T s p8 p9 p10 p11 p12 p13 p14 p18 p20 p21 p23 c15 c16 c17 c19 c22) (hms : ms T s = .inl (m_5 T s)) (hX : XT T (m_5 T s) f5 f6 f8 f9 f10 f11 f12 f13 f14 f18 f20 f21 f23 a15 a16 a17 a19 a22) (h6 : f6 = 0) (h9 : f9 = 3 ∧ f11 = 59) (hk : TKv T (f8) g8 g9 g10 g11 g12 g13 g14) (h23 : g23 = f23) (r22 : b22 = a22) : XK T s g8 g9 g10 g11 g12 g13 g14 g23 b22 := by
  subst r22 h23
  obtain ⟨c1, c2, c3, c4, c5, c6, c7, c8, c9, c10⟩ := h
  obtain ⟨s', ⟨x1, x2, x3, x4, x5, x6, x7, x8⟩, w1, w2, w3, w4⟩ := hX.1 h6
  have ho := w3.o
  have x3 : m_op s' = [] := x3.trans c9
  have hsc := ms_sc (T := T) (s := s') (by omega) ⟨x2, by rw [x3]; rfl, x6⟩
  have x4 : m_ns s' = m_ns s := x4
  have x5 : m_nw s' = m_nw s := x5
  have x7 : m_nv s' = m_w T s := x7
  refine ⟨m_c s', _, ((Rc.st hms).tr x1).nx hsc, ?_, rfl, rfl, rfl, rfl, x3, rfl, ?_, ?_, w4.1⟩
  · have h1 := hk
    rw [w3.b.2.1] at h1
    exact h1
  · show m_ns s' ++ [m_c s'] = _
    rw [x4]
  · show m_nw s' ++ [m_nv s'] = _
    rw [x5, x7]
theorem rg_1 {p18 p20 p21 p23 p8 p9 p10 p11 p12 p13 p14 : Int} {c15 c16 c17 c19 c22 : Int → Int} (h : XI T s p8 p9 p10 p11 p12 p13 p14 p18 p20 p21 p23 c15 c16 c17 c19 c22) (hms : ms T s = .inl (m_5 T s)) (hX : XT T (m_5 T s) f5 f6 f8 f9 f10 f11 f12 f13 f14 f18 f20 f21 f23 a15 a16 a17 a19 a22) (hna : f6 = 0 → f9 ≠ 1 ∧ f9 ≠ 2 ∧ (f9 = 3 → f11 ≠ 40)) (hm2 : ¬ (f6 = 0 ∧ f9 = 3 ∧ f11 = 59) → g6 ≠ 0 ∧ (f6 = 0 → g6 = 1 ∧ g5 = f10) ∧ (f6 ≠ 0 → g6 = f6 ∧ g5 = f5)) (hz : ¬ (f6 = 0 ∧ f9 = 3 ∧ f11 = 59)) : Ev T s (g6, g5, []) := by
  obtain ⟨c1, c2, c3, c4, c5, c6, c7, c8, c9, c10⟩ := h
  have m2 := hm2 hz
  by_cases z6 : f6 = 0
  · obtain ⟨s', ⟨x1, x2, x3, x4, x5, x6, x7, x8⟩, w1, w2, w3, w4⟩ := hX.1 z6
    have ho := w3.o
    have x3 : (m_op s').length = 0 := by
      have x3 : m_op s' = [] := x3.trans c9
      rw [x3]
      rfl
    have x6 : m_na s' = 1 := x6
    have m3 := m2.2.1 z6
    have hn := hna z6
    rw [m3.1, m3.2, w3.b.2.2.1]
    exact ((Rc.st hms).tr x1).sp (ms_1 (by omega) (by omega) (by omega) (by omega) (by omega) (by omega) (by omega) (by omega))
  · have m3 := m2.2.2 z6
    rw [m3.1, m3.2]
    exact Ev.next hms (hX.2 z6)
theorem NR.new {ns nw : List (List Int)} {c w : List Int} {n n' m : Int} {N P M N' P' M' u : Int → Int} (h : NR ns nw n N P M) (hn : n < 12) (hw : wok w) (h1 : N' n = en w ∧ ∀ q : Int, q ≠ n → N' q = N q) (h2 : M' n = m ∧ ∀ q : Int, q ≠ n → M' q = M q) (hc : CU c m u) (h3 : ∀ q : Int, q < 124 * n → P' q = P q) (h4 : m ≤ 124 → ∀ j : Int, 0 ≤ j → j < m → P' (124 * n + j) = u j) (hn' : n' = n + 1) : NR (ns ++ [c]) (nw ++ [w]) n' N' P' M' := by
  obtain ⟨e1, e2, e3, e4⟩ := h
  have hl : (ns ++ [c]).length = ns.length + 1 := List.length_append
  have hl2 : (nw ++ [w]).length = nw.length + 1 := List.length_append
  refine ⟨by omega, by omega, by omega, fun k hk => ?_⟩
  by_cases z : k = ns.length
  · refine ⟨c, w, ?_, ?_, ?_, hw, ?_, fun h5 q hq => ?_⟩
    · rw [z, List.getElem?_append_right (Nat.le_refl _), Nat.sub_self]
      rfl
    · rw [z, ← e2, List.getElem?_append_right (Nat.le_refl _), Nat.sub_self]
      rfl
    · rw [show ((k : Nat) : Int) = n by omega]
      exact h1.1
    · rw [show ((k : Nat) : Int) = n by omega, h2.1]
      exact hc.1
    · rw [show ((k : Nat) : Int) = n by omega] at h5 ⊢
      have h6 := hc.1
      rw [h4 (by omega) q (by omega) (by omega)]
      exact hc.2 (by omega) q hq
  · obtain ⟨l, w', g1, g2, g3, g4, g5, g6⟩ := e4 k (by omega)
    refine ⟨l, w', by rw [List.getElem?_append_left (by omega)]; exact g1, by rw [List.getElem?_append_left (by omega)]; exact g2, by rw [h1.2 k (by omega)]; exact g3, g4, by rw [h2.2 k (by omega)]; exact g5, fun h5 q hq => ?_⟩
    rw [h2.2 k (by omega)] at h5
    rw [h3 _ (by omega)]
    exact g6 h5 q hq
theorem rg_e {p18 p20 p21 p23 p8 p9 p10 p11 p12 p13 p14 : Int} {c15 c16 c17 c19 c22 : Int → Int} (h : XI T s p8 p9 p10 p11 p12 p13 p14 p18 p20 p21 p23 c15 c16 c17 c19 c22) (h9 : p9 = 1) (h14 : p14 ≤ 8) (h18 : p18 < 12) (hK : XK T s g8 g9 g10 g11 g12 g13 g14 g23 b22) (h1 : b15 p18 = p13 ∧ ∀ q : Int, q ≠ p18 → b15 q = c15 q) (h2 : b17 p18 = g23 ∧ ∀ q : Int, q ≠ p18 → b17 q = c17 q) (h3 : ∀ q : Int, q < 124 * p18 → b16 q = c16 q) (h4 : g23 ≤ 124 → ∀ j : Int, 0 ≤ j → j < g23 → b16 (124 * p18 + j) = b22 j) (h6 : g6 = 0) (hn : g18 = p18 + 1) (h20 : g20 = 0) (h21 : g21 = 0) : XJ T s g5 g6 g8 g9 g10 g11 g12 g13 g14 g18 g20 g21 g23 b15 b16 b17 b19 b22 := by
  obtain ⟨c, s', x1, x2, x3, x4, x5, x6, x7, x8, x9, x10, x11⟩ := hK
  obtain ⟨k1, k2, k3, k4⟩ := h.1.w h9 h14
  refine ⟨fun _ => ⟨s', x1, x2, ?_, h20, h21, x3, x4, x5, x6, x7, x8⟩, fun y => absurd h6 y⟩
  rw [x9, x10]
  exact NR.new (u := b22) h.2.1 h18 k4 ⟨by rw [← k3]; exact h1.1, h1.2⟩ h2 x11 h3 h4 hn
theorem XJ.bad (h : f6 ≠ 0) (h2 : Ev T s (f6, f5, [])) : XJ T s f5 f6 f8 f9 f10 f11 f12 f13 f14 f18 f20 f21 f23 a15 a16 a17 a19 a22 := ⟨fun z => absurd z h, fun _ => h2⟩
theorem XJ.tr (hR : Rc T s z) (h : XJ T z f5 f6 f8 f9 f10 f11 f12 f13 f14 f18 f20 f21 f23 a15 a16 a17 a19 a22) : XJ T s f5 f6 f8 f9 f10 f11 f12 f13 f14 f18 f20 f21 f23 a15 a16 a17 a19 a22 := by
  refine ⟨fun y => ?_, fun y => hR _ (h.2 y)⟩
  obtain ⟨s', x1, x2⟩ := h.1 y
  exact ⟨s', hR.tr x1, x2⟩
theorem XJ.ini (hk : TKv T 0 f8 f9 f10 f11 f12 f13 f14) (h6 : f6 = 0) (h18 : f18 = 0) (h20 : f20 = 0) (h21 : f21 = 0) : XJ T m_0 f5 f6 f8 f9 f10 f11 f12 f13 f14 f18 f20 f21 f23 a15 a16 a17 a19 a22 := ⟨fun _ => ⟨m_0, Rc.rf, hk, ⟨h18, rfl, by decide, fun k hk9 => absurd hk9 (Nat.not_lt_zero k)⟩, h20, h21, rfl, rfl, rfl, rfl, rfl, rfl⟩, fun y => absurd h6 y⟩
/-- the whole text -/
theorem ry_p (h : XI T s f8 f9 f10 f11 f12 f13 f14 f18 f20 f21 f23 a15 a16 a17 a19 a22) (ht : ¬ (tO T (m_e s) = 97 ∧ tO T (tE T (m_e s)) = 61)) (h8 : g8 = f8) (h9 : g9 = f9) (h10 : g10 = f10) (h11 : g11 = f11) (h12 : g12 = f12) (h13 : g13 = f13) (h14 : g14 = f14) (h18 : g18 = f18) (h20 : g20 = f20) (h21 : g21 = f21) (h23 : g23 = 0) (r15 : b15 = a15) (r16 : b16 = a16) (r17 : b17 = a17) : XP T s g8 g9 g10 g11 g12 g13 g14 g18 g20 g21 g23 b15 b16 b17 b19 b22 := by
  obtain ⟨c1, c2, c3, c4, c5, c6, c7, c8, c9, c10⟩ := h
  subst r15 r16 r17
  refine ⟨c1.cg rfl h8 h9 h10 h11 h12 h13 h14, ⟨?_, by rw [h18]; exact c2, ?_, ?_, ?_⟩, c7, ?_, Or.inl ⟨c5, ht⟩⟩
  · rw [c6]
    exact CU.nil h23
  · rw [c8, h20, c3]
    exact ⟨by omega, by show (0 : Int) ≤ 0; omega, by decide, fun k hk9 => by omega⟩
  · rw [c9, h21, c4]
    rfl
  · rw [c9]
    decide
  · rw [c8, h20, c3]
    rfl
def XZ (T : List Int) (f5 f6 f23 : Int) (a22 : Int → Int) : Prop := ∃ r : Int × Int × List Int, Ev T m_0 r ∧ ((r.1 ≠ 0 ∧ f6 = r.1 ∧ f5 = r.2.1) ∨ (r.1 = 0 ∧ r.2.2.length ≤ 120 ∧ f6 = 0 ∧ f5 = -1 ∧ CU r.2.2 f23 a22) ∨ (r.1 = 0 ∧ 120 < r.2.2.length ∧ f6 = 5 ∧ f5 = (T.length : Int)))
theorem ry_e {p18 p20 p21 p23 p8 p9 p10 p11 p12 p13 p14 : Int} {c15 c16 c17 c19 c22 : Int → Int} (hR : Rc T m_0 s) (h : XI T s p8 p9 p10 p11 p12 p13 p14 p18 p20 p21 p23 c15 c16 c17 c19 c22) (hX : XT T s f5 f6 f8 f9 f10 f11 f12 f13 f14 f18 f20 f21 f23 a15 a16 a17 a19 a22) (hna : f6 = 0 → f9 ≠ 1 ∧ f9 ≠ 2 ∧ (f9 = 3 → f11 ≠ 40)) (h5 : f6 = 0 → f5 = -1) (h1 : f6 ≠ 0 → g6 = f6 ∧ g5 = f5) (h2 : f6 = 0 → f9 ≠ 0 → g6 = 1 ∧ g5 = f10) (h3 : f6 = 0 → f9 = 0 → 120 < f23 → g6 = 5 ∧ g5 = f10) (h4 : f6 = 0 → f9 = 0 → f23 ≤ 120 → g6 = 0 ∧ g5 = f5) (h23 : g23 = f23) (r22 : b22 = a22) : XZ T g5 g6 g23 b22 := by
  subst h23 r22
  obtain ⟨c1, c2, c3, c4, c5, c6, c7, c8, c9, c10⟩ := h
  by_cases z6 : f6 = 0
  · obtain ⟨s', ⟨x1, x2, x3, x4, x5, x6, x7, x8⟩, w1, w2, w3, w4⟩ := hX.1 z6
    have ho := w3.o
    have hb := w3.b
    have x3 : (m_op s').length = 0 := by
      rw [x3, c9]
      rfl
    have x6 : m_na s' = 0 := x6.trans c10
    by_cases z9 : f9 = 0
    · have hen := ms_en (T := T) (s := s') (by omega) ⟨x2, x3, x6⟩
      refine ⟨_, (hR.tr x1).sp hen, ?_⟩
      have hcu := w4.1
      have hl := hcu.1
      by_cases zz : 120 < g23
      · have a1 := h3 z6 z9 zz
        refine Or.inr (Or.inr ⟨rfl, by show 120 < (m_c s').length; omega, a1.1, ?_⟩)
        have e1 : tO T (m_e s') = 0 := by omega
        have e2 : (T.length : Int) ≤ tS T (m_e s') := so_e.mp e1
        have e3 := tS_b (T := T) w3.1.1 w3.1.2
        omega
      · have a1 := h4 z6 z9 (by omega)
        exact Or.inr (Or.inl ⟨rfl, by show (m_c s').length ≤ 120; omega, a1.1, by rw [a1.2]; exact h5 z6, hcu⟩)
    · have a1 := h2 z6 z9
      have hn := hna z6
      have e1 : ms T s' = .inr (1, tS T (m_e s'), []) := ms_1 (by omega) (by omega) (by omega) (by omega) (by omega) (by omega) (by omega) (by omega)
      exact ⟨_, (hR.tr x1).sp e1, Or.inl ⟨(by show (1 : Int) ≠ 0; decide), a1.1, by rw [a1.2]; exact hb.2.2.1⟩⟩
  · have a1 := h1 z6
    exact ⟨_, (hR _ (hX.2 z6)), Or.inl ⟨z6, a1.1, a1.2⟩⟩
theorem ry_b (h : Ev T m_0 (f6, f5, [])) (h0 : f6 ≠ 0) (h1 : g6 = f6 ∧ g5 = f5) : XZ T g5 g6 g23 b22 := ⟨_, h, Or.inl ⟨h0, h1.1, h1.2⟩⟩
end ZB
