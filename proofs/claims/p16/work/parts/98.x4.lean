/-! TOKENS of a text (a list of bytes), purely -/
def tw (p : Int → Bool) (T : List Int) (q : Int) : Int := q + ((T.drop q.toNat).takeWhile p).length
section TW
variable {p : Int → Bool} {T : List Int} {q : Int}
theorem gl_at (h0 : 0 ≤ q) (h1 : q < (T.length : Int)) : T[q.toNat]? = some (gl T q) := by
  unfold gl
  rw [if_pos h0, List.getD_eq_getElem?_getD, List.getElem?_eq_getElem (by omega)]
  rfl
theorem drop_gl (h0 : 0 ≤ q) (h1 : q < (T.length : Int)) : T.drop q.toNat = gl T q :: T.drop (q + 1).toNat := by
  have hq : q.toNat < T.length := by omega
  have e : T[q.toNat] = gl T q := by
    have h2 := gl_at h0 h1
    rw [List.getElem?_eq_getElem hq] at h2
    exact Option.some.inj h2
  rw [List.drop_eq_getElem_cons hq, e, show (q + 1).toNat = q.toNat + 1 by omega]
theorem tw_step (h0 : 0 ≤ q) (h1 : q < (T.length : Int)) (h2 : p (gl T q) = true) : tw p T q = tw p T (q + 1) := by
  unfold tw
  rw [drop_gl h0 h1, List.takeWhile_cons_of_pos h2, List.length_cons]
  omega
theorem tw_end (h1 : (T.length : Int) ≤ q) : tw p T q = q := by
  unfold tw
  rw [List.drop_eq_nil_of_le (by omega)]
  show q + 0 = q
  omega
theorem tw_stop (h0 : 0 ≤ q) (h2 : p (gl T q) = false) : tw p T q = q := by
  by_cases h1 : q < (T.length : Int)
  · unfold tw
    rw [drop_gl h0 h1, List.takeWhile_cons_of_neg (by rw [h2]; decide)]
    show q + 0 = q
    omega
  · exact tw_end (by omega)
theorem tw_le : q ≤ tw p T q := by
  unfold tw
  omega
theorem tw_ub (h0 : 0 ≤ q) (h1 : q ≤ (T.length : Int)) : tw p T q ≤ (T.length : Int) := by
  unfold tw
  have h2 := (List.takeWhile_sublist (l := T.drop q.toNat) p).length_le
  rw [List.length_drop] at h2
  omega
end TW
def bl (c : Int) : Bool := decide (c = 32 ∨ c = 10)
def lett (c : Int) : Bool := decide (97 ≤ c ∧ c ≤ 122)
def figu (c : Int) : Bool := decide (48 ≤ c ∧ c ≤ 57)
/-- a byte's sort; a place's; the token behind a place: where it begins, its sort, where it ends -/
def sb (c : Int) : Int := if 97 ≤ c ∧ c ≤ 122 then 97 else if 48 ≤ c ∧ c ≤ 57 then 48 else if c = 92 ∨ c = 46 ∨ c = 61 ∨ c = 59 ∨ c = 40 ∨ c = 41 then c else 1
def so (T : List Int) (q : Int) : Int := if (T.length : Int) ≤ q then 0 else sb (gl T q)
def tS (T : List Int) (e : Int) : Int := tw bl T e
def tO (T : List Int) (e : Int) : Int := so T (tS T e)
def tE (T : List Int) (e : Int) : Int := if tO T e = 0 then tS T e else if tO T e = 97 then tw lett T (tS T e) else if tO T e = 48 then tw figu T (tS T e) else tS T e + 1
section TK
variable {T : List Int} {q e : Int}
theorem sb_0 {c : Int} : sb c ≠ 0 := by
  unfold sb
  split
  · decide
  · split
    · decide
    · split
      · omega
      · decide
theorem so_e : so T q = 0 ↔ (T.length : Int) ≤ q := by
  unfold so
  by_cases h : (T.length : Int) ≤ q
  · rw [if_pos h]
    exact ⟨fun _ => h, fun _ => rfl⟩
  · rw [if_neg h]
    exact ⟨fun z => absurd z sb_0, fun z => absurd z h⟩
theorem so_lt : so T q = 97 ↔ (q < (T.length : Int) ∧ lett (gl T q) = true) := by
  unfold so lett sb
  by_cases h : (T.length : Int) ≤ q
  · rw [if_pos h]
    exact ⟨fun z => absurd z (by decide), fun z => absurd z.1 (by omega)⟩
  · rw [if_neg h, decide_eq_true_iff]
    by_cases h1 : 97 ≤ gl T q ∧ gl T q ≤ 122
    · rw [if_pos h1]
      exact ⟨fun _ => ⟨by omega, h1⟩, fun _ => rfl⟩
    · rw [if_neg h1]
      refine ⟨fun z => ?_, fun z => absurd z.2 h1⟩
      exfalso
      split at z
      · omega
      · split at z
        · omega
        · omega
theorem so_fg : so T q = 48 ↔ (q < (T.length : Int) ∧ figu (gl T q) = true) := by
  unfold so figu sb
  by_cases h : (T.length : Int) ≤ q
  · rw [if_pos h]
    exact ⟨fun z => absurd z (by decide), fun z => absurd z.1 (by omega)⟩
  · rw [if_neg h, decide_eq_true_iff]
    by_cases h2 : 48 ≤ gl T q ∧ gl T q ≤ 57
    · rw [if_neg (show ¬ (97 ≤ gl T q ∧ gl T q ≤ 122) by omega), if_pos h2]
      exact ⟨fun _ => ⟨by omega, h2⟩, fun _ => rfl⟩
    · refine ⟨fun z => ?_, fun z => absurd z.2 h2⟩
      exfalso
      rw [if_neg h2] at z
      split at z
      · omega
      · split at z
        · omega
        · omega
theorem tS_b (h0 : 0 ≤ e) (h1 : e ≤ (T.length : Int)) : e ≤ tS T e ∧ tS T e ≤ (T.length : Int) := ⟨tw_le, tw_ub h0 h1⟩
theorem tE_b (h0 : 0 ≤ e) (h1 : e ≤ (T.length : Int)) : tS T e ≤ tE T e ∧ tE T e ≤ (T.length : Int) ∧ (tO T e ≠ 0 → tS T e + 1 ≤ tE T e) := by
  have h2 := tS_b (T := T) h0 h1
  have hb := @so_e T (tS T e)
  unfold tE
  by_cases z0 : tO T e = 0
  · rw [if_pos z0]
    exact ⟨by omega, by omega, fun z => absurd z0 z⟩
  · rw [if_neg z0]
    have z1 : tS T e < (T.length : Int) := by
      by_cases z : (T.length : Int) ≤ tS T e
      · exact absurd (hb.mpr z) z0
      · omega
    by_cases z97 : tO T e = 97
    · rw [if_pos z97]
      have h3 := (so_lt.mp z97).2
      have h4 := tw_step (p := lett) (by omega) z1 h3
      have h5 := tw_le (p := lett) (T := T) (q := tS T e + 1)
      have h6 := tw_ub (p := lett) (T := T) (q := tS T e) (by omega) (by omega)
      exact ⟨by omega, h6, fun _ => by omega⟩
    · rw [if_neg z97]
      by_cases z48 : tO T e = 48
      · rw [if_pos z48]
        have h3 := (so_fg.mp z48).2
        have h4 := tw_step (p := figu) (by omega) z1 h3
        have h5 := tw_le (p := figu) (T := T) (q := tS T e + 1)
        have h6 := tw_ub (p := figu) (T := T) (q := tS T e) (by omega) (by omega)
        exact ⟨by omega, h6, fun _ => by omega⟩
      · rw [if_neg z48]
        exact ⟨by omega, by omega, fun _ => by omega⟩
end TK
