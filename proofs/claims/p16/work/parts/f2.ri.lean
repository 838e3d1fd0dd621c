/-! WHAT EVERY CALL OF THE REFERENCE KEEPS -/
/-- the told term, in the reference's rows -/
def TL (L : List Int) (a : Int → Int) (n : Int) : Prop := n = (L.length : Int) ∧ ∀ q : Nat, q < L.length → L[q]? = some (a (2600 + q))
def ri (F : rf_f) (A : rf_A) (T : Int) (tx : List Int × List Int) : Prop := nt (A 24) (A 25) (A 26) (F 28) T (F 27) ∧ wr A ∧ wq A ∧ (0 ≤ F 73 ∧ F 73 ≤ 12000) ∧ tq (A 1) (A 2 2) ∧ (0 ≤ F 23 ∧ F 23 ≤ 1000000) ∧ (TP tx.1 (F 4) (A 3) ∧ TL tx.2 (A 1) (A 2 2))
def rQ (h : am_h) (P : rf_f → rf_A → Prop) : am_r → Prop := fun r => ∃ (x : Int32) (h' : am_h) (F' : rf_f) (A' : rf_A), r = (.inl (some (.inl x)), h', 0, 0) ∧ rf_I h h' F' A' ∧ P F' A'
section RI
variable {t : Int → Int}
theorem sc_wf : ∀ {k : Nat} {d i : Int} {n : Nat}, sc t k d i n → wf t i n
  | 0, _, _, _, h => h.elim
  | k + 1, d, i, n, h => by
    have hq : ∀ m : Nat, op t i (1 + m) = op t i 1 + (op t (i + 1) m - 1) := fun m => by
      have h1 := op_add (t := t) (i := i) (m := 1) m
      exact h1
    have h1 : op t i 1 = 1 + ow (t i) := by
      have h2 : op t i 1 = 1 + ow (t (i + ((0 : Nat) : Int))) := rfl
      rw [h2, show i + ((0 : Nat) : Int) = i by omega]
    have h0 : op t i 0 = 1 := rfl
    rcases h with ⟨e0, a, b, e1, e2, e3⟩ | ⟨e0, a, e1, e2⟩ | ⟨e0, e1, e2⟩
    · obtain ⟨a1, a2⟩ := sc_wf e2
      obtain ⟨b1, b2⟩ := sc_wf e3
      rw [e0, ow_0] at h1
      have hr : ∀ m : Nat, op t i (1 + (a + m)) = op t (i + 1 + a) m := fun m => by
        rw [hq, op_add (t := t) (i := i + 1) (m := a) m, a1, h1]
        omega
      refine ⟨?_, fun m hm => ?_⟩
      · rw [e1, show a + b + 1 = 1 + (a + b) by omega, hr]
        exact b1
      · by_cases z0 : m = 0
        · rw [z0, h0]
          omega
        · by_cases z1 : m - 1 < a
          · have := a2 (m - 1) z1
            have h3 := hq (m - 1)
            rw [show 1 + (m - 1) = m by omega] at h3
            omega
          · have := b2 (m - 1 - a) (by omega)
            have h3 := hr (m - 1 - a)
            rw [show 1 + (a + (m - 1 - a)) = m by omega] at h3
            omega
    · obtain ⟨a1, a2⟩ := sc_wf e2
      rw [e0, ow_1] at h1
      refine ⟨?_, fun m hm => ?_⟩
      · rw [e1, show a + 1 = 1 + a by omega, hq]
        omega
      · by_cases z0 : m = 0
        · rw [z0, h0]
          omega
        · have := a2 (m - 1) (by omega)
          have h3 := hq (m - 1)
          rw [show 1 + (m - 1) = m by omega] at h3
          omega
    · rw [ow_v (by omega) (by omega)] at h1
      refine ⟨by rw [e2]; omega, fun m hm => ?_⟩
      have z0 : m = 0 := by omega
      rw [z0, h0]
      omega
theorem sc_cb : ∀ {k : Nat} {d i : Int} {n : Nat}, sc t k d i n → d + n ≤ 190 → ∀ q : Int, i ≤ q → q < i + n → 0 ≤ t q ∧ t q ≤ 200
  | 0, _, _, _, h, _ => h.elim
  | k + 1, d, i, n, h, hd => by
    intro q q1 q2
    rcases h with ⟨e0, a, b, e1, e2, e3⟩ | ⟨e0, a, e1, e2⟩ | ⟨e0, e1, e2⟩
    · by_cases z : q = i
      · rw [z, e0]
        omega
      · by_cases z1 : q < i + 1 + a
        · exact sc_cb e2 (by omega) q (by omega) z1
        · exact sc_cb e3 (by omega) q (by omega) (by omega)
    · by_cases z : q = i
      · rw [z, e0]
        omega
      · exact sc_cb e2 (by omega) q (by omega) (by omega)
    · rw [show q = i by omega]
      omega
theorem tq_txt {m : Int} (h : tq t m) : ∃ n : Nat, (m = n ∧ 1 ≤ n ∧ n ≤ 120) ∧ wf t 2600 n ∧ cb t 2600 n 200 ∧ sc t 120 0 2600 n ∧ 1 + (cs t 120 0 2600 : Int) ≤ 400 := by
  obtain ⟨n, h1, h2, h3, h4⟩ := h
  exact ⟨n, ⟨h1, sc_n h2, h3⟩, sc_wf h2, fun q hq => sc_cb h2 (by omega) _ (by omega) (by omega), h2, h4⟩
end RI
section TLS
variable {L : List Int} {a a' b b' : Int → Int} {n n' : Int}
theorem TL.cg (h : TL L a n) (hn : n' = n) (ha : ∀ q : Int, 2600 ≤ q → a' q = a q) : TL L a' n' := ⟨hn.trans h.1, fun q hq => by rw [ha _ (by omega)]; exact h.2 q hq⟩
theorem TL.ts (h : TL L a (b 2)) (hs : TS a b a' b') : TL L a' (b' 2) := ⟨hs.1.trans h.1, fun q hq => by
  have h1 := h.1
  rw [hs.2 _ (by omega) (by omega)]
  exact h.2 q hq⟩
theorem TL.ok (h : TL L a n) (ht : tq a n) : L.length ≤ 120 ∧ wL L ∧ (∀ x, x ∈ L → 0 ≤ x ∧ x ≤ 200) ∧ wd a 2600 L := by
  obtain ⟨gt, t1, t2, t3, -⟩ := tq_txt ht
  have hl : L.length = gt := by
    have h1 := h.1
    have h2 := t1.1
    omega
  subst hl
  have hw : wd a 2600 L := h.2
  refine ⟨t1.2.2, wL_wf hw t2, fun x hx => ?_, hw⟩
  obtain ⟨q, hq⟩ := List.getElem?_of_mem hx
  have hl : q < L.length := (List.getElem?_eq_some_iff.mp hq).1
  rw [h.2 q hl] at hq
  rw [← Option.some.inj hq]
  exact t3 q hl
end TLS
