/-! the reference's rounds: lemmas -/
def WO3 (t : Int → Int) (gm gk : Nat) (P S Z : List Int) : Prop := (1000 < gm ∧ 1000 < (P ++ (S ++ Z)).length ∧ gk ≤ Z.length) ∨ (gm = P.length + S.length + gk ∧ gk ≤ Z.length ∧ wd t 0 (P ++ (S ++ Z.take gk)))
def PLG (L c : List Int) (N m : Nat) : Prop := ∀ r : Option (List Int), PLN (N - m) c r → PLN N L r
section WOL
variable {l L P B V Z S g c c' : List Int} {i v v' o : Int} {t t' row : Int → Int} {gm gk N m : Nat}
theorem wL_f (h : wL l) : wL (1 :: l) := by
  obtain ⟨h1, h2⟩ := h
  have e1 : oL (1 :: l) = 0 + oL l := rfl
  refine ⟨by omega, fun n hn => ?_⟩
  cases n with
  | zero => exact Int.le_refl 0
  | succ n =>
    have h3 := h2 n (Nat.lt_of_succ_lt_succ hn)
    have e2 : oL (List.take (n + 1) (1 :: l)) = 0 + oL (l.take n) := rfl
    omega
theorem wo_sp (h : wd t 1300 (P ++ 0 :: 1 :: (B ++ (V ++ Z)))) : wd t 1300 P ∧ wd t (1300 + (P.length : Int) + 1) (1 :: B) ∧ wd t (1300 + (P.length : Int) + 2) B ∧ wd t (1300 + (P.length : Int) + 2 + (B.length : Int)) V ∧ wd t (1300 + (P.length : Int) + 2 + (B.length : Int) + (V.length : Int)) Z := by
  obtain ⟨h1, h2⟩ := wd_app h
  have h3 := wd_dr h2 1
  have h4 := wd_dr h2 2
  have h3 : wd t (1300 + (P.length : Int) + 1) ((1 :: B) ++ (V ++ Z)) := h3
  have h4 : wd t (1300 + (P.length : Int) + 2) (B ++ (V ++ Z)) := h4
  obtain ⟨h5, h6⟩ := wd_app h4
  obtain ⟨h7, h8⟩ := wd_app h6
  exact ⟨h1, (wd_app h3).1, h5, h7, h8⟩
theorem wo_len : (P ++ 0 :: 1 :: (B ++ (V ++ Z))).length = P.length + B.length + V.length + Z.length + 2 := by
  rw [List.length_append, List.length_cons, List.length_cons, List.length_append, List.length_append]
  omega
theorem wo_mB {x : Int} (h : x ∈ B) : x ∈ P ++ 0 :: 1 :: (B ++ (V ++ Z)) := List.mem_append_right _ (List.mem_cons_of_mem _ (List.mem_cons_of_mem _ (List.mem_append_left _ h)))
theorem wo_mV {x : Int} (h : x ∈ V) : x ∈ P ++ 0 :: 1 :: (B ++ (V ++ Z)) := List.mem_append_right _ (List.mem_cons_of_mem _ (List.mem_cons_of_mem _ (List.mem_append_right _ (List.mem_append_left _ h))))
theorem wo_mZ {x : Int} (h : x ∈ Z) : x ∈ P ++ 0 :: 1 :: (B ++ (V ++ Z)) := List.mem_append_right _ (List.mem_cons_of_mem _ (List.mem_cons_of_mem _ (List.mem_append_right _ (List.mem_append_right _ h))))
theorem wo_tk {j : Nat} (h : l[j]? = some v) : l.take (j + 1) = l.take j ++ [v] := by
  rw [List.take_add_one, h]
  rfl
theorem tk_len {j : Nat} (h : j ≤ l.length) : (l.take j).length = j := by
  rw [List.length_take]
  omega
theorem RC.pre {f : Int → Int → List Int} {k0 : Int} {j : Nat} (h : RC f L k0 row o j g) : ∃ q : List Int, gN f L 0 [] = g ++ q := by
  obtain ⟨-, d, w, h1, -⟩ := h
  exact ⟨_, h1⟩
theorem WO3.of1 {k0 : Int} {j : Nat} (h : RC (fS V) B k0 row o j g) (hj : j = B.length) (hw : wd t 0 (P ++ g)) : WO3 t (P.length + g.length) 0 P (sbl V B 0 []) Z := by
  subst hj
  have e := h.e
  rw [← sbl_gN] at e
  subst e
  refine Or.inr ⟨by omega, Nat.zero_le _, ?_⟩
  rw [List.take_zero, List.append_nil]
  exact hw
theorem WO3.of2 {k0 : Int} {j : Nat} (h : RC (fS V) B k0 row o j g) (h1 : 1000 < P.length + g.length) : WO3 t (P.length + g.length) 0 P (sbl V B 0 []) Z := by
  obtain ⟨q, hq⟩ := h.pre
  rw [← sbl_gN] at hq
  refine Or.inl ⟨h1, ?_, Nat.zero_le _⟩
  rw [hq, List.length_append, List.length_append, List.length_append]
  omega
theorem WO3.mid (h : WO3 t gm gk P S Z) (h1 : gm ≤ 1000) : gm = P.length + S.length + gk ∧ gk ≤ Z.length ∧ wd t 0 (P ++ (S ++ Z.take gk)) := h.resolve_left (fun z => by omega)
theorem WO3.len (h : gk ≤ Z.length) : (P ++ (S ++ Z.take gk)).length = P.length + S.length + gk := by
  rw [List.length_append, List.length_append, tk_len h]
  omega
theorem WO3.nx (h1 : gm = P.length + S.length + gk) (hc : Z[gk]? = some v) (hw : wd t' 0 ((P ++ (S ++ Z.take gk)) ++ [v])) : WO3 t' (gm + 1) (gk + 1) P S Z := by
  obtain ⟨l1, -⟩ := List.getElem?_eq_some_iff.mp hc
  refine Or.inr ⟨by omega, l1, ?_⟩
  rw [wo_tk hc, ← List.append_assoc S, ← List.append_assoc P]
  exact hw
theorem WO3.bad (h : WO3 t gm gk P S Z) (h1 : 1000 < gm) : 1000 < ((P ++ (S ++ Z)).length : Int) := by
  rcases h with ⟨-, h2, -⟩ | ⟨h2, h3, -⟩
  · omega
  · rw [List.length_append, List.length_append]
    omega
theorem WO3.good (h : WO3 t gm gk P S Z) (h1 : gm ≤ 1000) (hg : gk = Z.length) : gm = (P ++ (S ++ Z)).length ∧ wd t 0 (P ++ (S ++ Z)) := by
  obtain ⟨e1, e2, e3⟩ := h.mid h1
  subst hg
  rw [List.take_of_length_le (Nat.le_refl _)] at e3
  refine ⟨?_, e3⟩
  rw [List.length_append, List.length_append]
  omega
theorem PLG.z : PLG L L N 0 := fun r h => h
theorem PLG.go (h : PLG L c N m) (hm : m < N) (hd : RD c c') (hl : (c'.length : Int) ≤ 1000) : PLG L c' N (m + 1) := PLN.go h hm hd hl
theorem PLG.over (h : PLG L c N m) (hm : m < N) (hd : RD c c') (hl : 1000 < (c'.length : Int)) : PLN N L none := PLN.over h hm hd hl
theorem PLG.stop (h : PLG L c N m) (hm : m < N) (hn : frd c < 0) : PLN N L (some c) := PLN.stop h hm ((frd_sp (l := c)).elim (fun z => z.2) (fun z => by
  obtain ⟨q, h9, -⟩ := z
  exfalso
  omega))
theorem PLG.fin (h : PLG L c N m) (hm : N ≤ m) : PLN N L (some c) := PLN.fin h hm
theorem frd_y (h : 0 ≤ frd l) : ∃ q : Nat, frd l = (q : Int) ∧ pr1 l q ∧ ∀ j : Nat, j < q → ¬ pr1 l j := (frd_sp (l := l)).resolve_left (fun z => by
  have := z.1
  omega)
theorem rx_v (h : wd t i l) (h0 : 0 ≤ v) (h1 : v < (l.length : Int)) : l[v.toNat]? = some (t (i + v)) := by
  rw [h v.toNat (by omega), show i + ((v.toNat : Nat) : Int) = i + v by omega]
theorem rx_w (h : wd t i l) (h0 : 0 ≤ v) (h1 : v + 1 < (l.length : Int)) : l[v.toNat + 1]? = some (t (i + v + 1)) := by
  rw [h (v.toNat + 1) (by omega), show i + ((v.toNat + 1 : Nat) : Int) = i + v + 1 by omega]
theorem rx_0 (h : wd t i l) (h0 : 0 ≤ v) (h1 : v < (l.length : Int)) (hn : t (i + v) ≠ 0) : ¬ pr1 l v.toNat := fun z => by
  have h2 := z.1
  rw [rx_v h h0 h1] at h2
  exact hn (Option.some.inj h2)
theorem rx_1 (h : wd t i l) (h0 : 0 ≤ v) (h1 : v + 1 < (l.length : Int)) (hn : t (i + v + 1) ≠ 1) : ¬ pr1 l v.toNat := fun z => by
  have h2 := z.2
  rw [rx_w h h0 h1] at h2
  exact hn (Option.some.inj h2)
theorem rx_y (h : wd t i l) (h0 : 0 ≤ v) (h1 : v + 1 < (l.length : Int)) (hn : t (i + v) = 0) (hm : t (i + v + 1) = 1) : pr1 l v.toNat := ⟨by rw [rx_v h h0 (by omega), hn], by rw [rx_w h h0 h1, hm]⟩
theorem pr1_up (h : ∀ q : Nat, (q : Int) < v → ¬ pr1 l q) (hv : v' = v + 1) (h0 : 0 ≤ v) (hn : ¬ pr1 l v.toNat) : ∀ q : Nat, (q : Int) < v' → ¬ pr1 l q := fun q hq hp => by
  by_cases z : (q : Int) < v
  · exact h q z hp
  · rw [show v.toNat = q by omega] at hn
    exact hn hp
theorem pr1_fn (h : ∀ q : Nat, (q : Int) < v → ¬ pr1 l q) (hv : (l.length : Int) ≤ v + 1) : frd l = -1 := frd_no (fun q hp => h q (by have := pr1_lt hp; omega) hp)
theorem pr1_fy (h : ∀ q : Nat, (q : Int) < v → ¬ pr1 l q) (h0 : 0 ≤ v) (hp : pr1 l v.toNat) : frd l = v := by
  rw [frd_at hp (fun q hq => h q (by omega))]
  omega
end WOL
