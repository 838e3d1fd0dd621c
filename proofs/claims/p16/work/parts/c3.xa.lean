/-! ROWS, exactly, in one form: what a call answers, what the rows are then -/
def addl (i : Nat) (A : xl_A) (v : Int) : xl_A := if ((A i).length : Int) < (ob_mo i).toInt then upl A i (A i ++ [v]) else A
def addr (i : Nat) (A : xl_A) : Int := if ((A i).length : Int) < (ob_mo i).toInt then 1 else 0
def insl (i : Nat) (A : xl_A) (q v : Int) : xl_A := if 0 ≤ q ∧ q ≤ ((A i).length : Int) ∧ ((A i).length : Int) < (ob_mo i).toInt then upl A i (il (A i) q v) else A
def fr3 (l : List Nat) (A A' : xl_A) : Prop := ∀ k : Nat, k ∉ l → A' k = A k
section XA
variable {B c s i a : Nat} {h h1 h2 h0 : am_h} {F : rf_f} {A : xl_A}
theorem xI.cap (hI : xI h0 B h c s F A) (hi : ob 3 i ∨ ob 11 i) : ((A i).length : Int) ≤ (ob_mo i).toInt := by
  obtain ⟨mo, z, a, xs, e1, e2, e3, e4, e5, e6, e7, eL⟩ := hI.lst hi
  rw [eL, li_len, ← e7.1]
  have := e7.2.2
  omega
theorem addr_01 : addr i A = 0 ∨ addr i A = 1 := by
  unfold addr
  split
  · exact Or.inr rfl
  · exact Or.inl rfl
theorem xv_size (hR : xR h F A) (hi : ob 3 i ∨ ob 11 i) : am_Mt 1 49 [.inr (.inr (some i))] h (xQ h (fun x F' A' => x = ((A i).length : Int) ∧ F' = F ∧ A' = A)) := by
  refine am_Mt.imp (xw_size hR hi) ?_
  rintro r ⟨x, h', c, s, F', A', e, hI, e1, e2, e3⟩
  exact ⟨x, h', c, s, F', A', e, hI, e3, e1, e2⟩
theorem xv_get {x : Int32} (hR : xR h F A) (hi : ob 3 i ∨ ob 11 i) : am_Mt 1 50 [.inr (.inr (some i)), .inl x] h (xQ h (fun y F' A' => y = gl (A i) x.toInt ∧ F' = F ∧ A' = A)) := by
  refine am_Mt.imp (xw_get hR hi) ?_
  rintro r ⟨x, h', c, s, F', A', e, hI, e1, e2, e3⟩
  exact ⟨x, h', c, s, F', A', e, hI, e3, e1, e2⟩
theorem xv_takeLast (hR : xR h F A) (hi : ob 3 i ∨ ob 11 i) : am_Mt 1 55 [.inr (.inr (some i))] h (xQ h (fun y F' A' => y = (A i).getLastD 0 ∧ F' = F ∧ A' = upl A i (A i).dropLast)) := by
  refine am_Mt.imp (xw_takeLast hR hi) ?_
  rintro r ⟨x, h', c, s, F', A', e, hI, e1, e2, e3⟩
  exact ⟨x, h', c, s, F', A', e, hI, e3, e1, e2⟩
theorem xv_add {x : Int32} (hR : xR h F A) (hi : ob 3 i ∨ ob 11 i) : am_Mt 2 52 [.inr (.inr (some i)), .inl x] h (xQ h (fun y F' A' => y = addr i A ∧ F' = F ∧ A' = addl i A x.toInt)) := by
  refine am_Mt.imp (xw_add hR hi) ?_
  rintro r ⟨x, h', c, s, F', A', e, hI, e1, e2, e3⟩
  refine ⟨x, h', c, s, F', A', e, hI, ?_, e1, ?_⟩
  · unfold addr
    by_cases z : ((A i).length : Int) < (ob_mo i).toInt
    · rw [if_pos z]
      exact (e2 z).1
    · rw [if_neg z]
      exact (e3 (by omega)).1
  · unfold addl
    by_cases z : ((A i).length : Int) < (ob_mo i).toInt
    · rw [if_pos z]
      exact (e2 z).2
    · rw [if_neg z]
      exact (e3 (by omega)).2
theorem xv_insert {x y : Int32} (hR : xR h F A) (hi : ob 3 i ∨ ob 11 i) : am_Mt 2 53 [.inr (.inr (some i)), .inl x, .inl y] h (xV h (fun F' A' => F' = F ∧ A' = insl i A x.toInt y.toInt)) := by
  by_cases hq : 0 ≤ x.toInt ∧ x.toInt ≤ ((A i).length : Int) ∧ ((A i).length : Int) < (ob_mo i).toInt
  · refine am_Mt.imp (xw_insert hR hi ⟨hq.1, hq.2.1⟩ hq.2.2) ?_
    rintro r ⟨h', c, s, F', A', e, hI, e1, e2⟩
    exact ⟨h', c, s, F', A', e, hI, e1, by unfold insl; rw [if_pos hq]; exact e2⟩
  · obtain ⟨mo, z, a, xs, e1, e2, e3, e4, e5, e6, e7, eL⟩ := (xI.start hR).lst hi
    have hlen : ((A i).length : Int) = z.toInt := by rw [eL, li_len]; omega
    have hmo : (ob_mo i).toInt = mo.toInt := by rw [← e7.1]
    rw [hlen, hmo] at hq
    have hins : insl i A x.toInt y.toInt = A := by
      unfold insl
      rw [hlen, hmo, if_neg hq]
    have hno : am_Ok am_G 1 53 (23, am_args 0 [.inr (.inr (some i)), .inl x, .inl y], [], h, 0, 0) (xV h (fun F' A' => F' = F ∧ A' = insl i A x.toInt y.toInt)) := k_fin rfl rfl ⟨_, _, _, _, _, rfl, xI.start hR, rfl, hins.symm⟩
    refine am_Mt.of (D := 1) ?_
    refine k_iload 1 rfl rfl rfl ?_
    by_cases b1 : x < 0
    · exact k_c1 23 rfl rfl (if_pos b1) hno
    · refine k_c1 4 rfl rfl (if_neg b1) ?_
      refine k_iload 5 rfl rfl rfl ?_
      refine k_aload 6 rfl rfl rfl ?_
      refine k_get 9 rfl e1 rfl rfl ?_
      by_cases b2 : z < x
      · exact k_c2 23 rfl rfl (if_pos b2) hno
      · refine k_c2 12 rfl rfl (if_neg b2) ?_
        refine k_aload 13 rfl rfl rfl ?_
        refine k_get 16 rfl e1 rfl rfl ?_
        refine k_aload 17 rfl rfl rfl ?_
        refine k_get 20 rfl e1 rfl rfl ?_
        by_cases b3 : z < mo
        · exfalso
          rw [iv_lt] at b2 b3
          have := iv_nz b1
          omega
        · exact k_c2 23 rfl rfl (if_neg b3) hno
theorem fr3.rf {l : List Nat} : fr3 l A A := fun _ _ => rfl
end XA
