/-! same's answer of the reference is a truth value -/
def am_chkS (h : am_h) (m o : Nat) (as : List am_v) : Bool := match am_rn 12 276 (am_ref 1 :: (as ++ [am_ref o])) h with
  | some (.inl (some (.inl _)), hx, _, _) => (match am_rn 12 264 (am_ref m :: as) hx with
    | some (.inl (some (.inl b)), _, _, _) => decide (b = 0) || decide (b = 1)
    | _ => false)
  | _ => false
theorem am_chkSE {h hx hm : am_h} {m o cx sx cm sm : Nat} {as : List am_v} {kx b : Int32} (e : am_chkS h m o as = true) (e1 : am_rn 12 276 (am_ref 1 :: (as ++ [am_ref o])) h = some (.inl (some (.inl kx)), hx, cx, sx)) (e2 : am_rn 12 264 (am_ref m :: as) hx = some (.inl (some (.inl b)), hm, cm, sm)) : b = 0 ∨ b = 1 := by
  unfold am_chkS at e
  simp only [e1, e2, Bool.or_eq_true, decide_eq_true_eq] at e
  exact e
theorem k_sameB : (List.range 3).all (fun i => (List.range 3).all (fun j => am_chkS am_h2 am_m am_o [.inl (nI i), .inl (nI j)])) = true := by decide +kernel
theorem a_sameB {h : am_h} {m o : Nat} (hF : am_fa h m = true) (hk : (List.range 3).all (fun i => (List.range 3).all (fun j => am_chkS h m o [.inl (nI i), .inl (nI j)])) = true) (v w : Int32) (kx b : Int32) (hx hm : am_h) (cx sx cm sm : Nat) (E1 : am_rn 12 276 (am_ref 1 :: ([.inl v, .inl w] ++ [am_ref o])) h = some (.inl (some (.inl kx)), hx, cx, sx)) (E2 : am_rn 12 264 (am_ref m :: [.inl v, .inl w]) hx = some (.inl (some (.inl b)), hm, cm, sm)) : b = 0 ∨ b = 1 := by
  obtain ⟨fx, fm, ft, fn, fk, fy, fr, t, ta, net, kr, ka, tl, r, tm, xs, ys, zs, hX, hM, m0, m4, m28, m73, m3, tm0, htm, z1, x0, hT, t0, t1, t2, ta0, hta, y1, x10, hN, n6, n0, hK, k1, k2, ka0, hka, s1, s2, s3, r1, r1b, r1c, r3, r3b, r3c, r5, r5b, r5c, r7, r7b, r7c, x4, hY, y0, hR, r9⟩ := am_faE hF
  by_cases hv : v < 0 ∨ 2 < v
  · have q1 : am_rn 12 276 (am_ref 1 :: ([.inl v, .inl w] ++ [am_ref o])) h = some (.inl (some (.inl 1)), h, 0 + 1, 0 + 6) := l_same_0 hX (c_same_F hv) rfl
    have q2 : am_rn 12 264 (am_ref m :: [.inl v, .inl w]) h = some (.inl (some (.inl 0)), am_hT m fm 1 h, 0, 0) := r_same_F hv hM m0
    have w1 : h = hx := congrArg (fun z : am_r => z.2.1) (Option.some.inj (q1.symm.trans E1))
    rw [← w1] at E2
    have w2 : (Sum.inl (some (Sum.inl 0)) : Option am_v ⊕ Nat) = Sum.inl (some (Sum.inl b)) := congrArg (fun z : am_r => z.1) (Option.some.inj (q2.symm.trans E2))
    cases w2
    exact Or.inl rfl
  have g1 : ¬ v < 0 := fun z => hv (Or.inl z)
  have g2 : ¬ 2 < v := fun z => hv (Or.inr z)
  by_cases hw : w < 0 ∨ 2 < w
  · have q1 : am_rn 12 276 (am_ref 1 :: ([.inl v, .inl w] ++ [am_ref o])) h = some (.inl (some (.inl 1)), h, 0 + 1, 0 + 6) := l_same_0 hX (c_same_F2 g1 g2 hw) rfl
    have q2 : am_rn 12 264 (am_ref m :: [.inl v, .inl w]) h = some (.inl (some (.inl 0)), am_hT m fm 1 h, 0, 0) := r_same_F2 g1 g2 hw hM m0
    have w1 : h = hx := congrArg (fun z : am_r => z.2.1) (Option.some.inj (q1.symm.trans E1))
    rw [← w1] at E2
    have w2 : (Sum.inl (some (Sum.inl 0)) : Option am_v ⊕ Nat) = Sum.inl (some (Sum.inl b)) := congrArg (fun z : am_r => z.1) (Option.some.inj (q2.symm.trans E2))
    cases w2
    exact Or.inl rfl
  · obtain ⟨i, hi, rfl⟩ := am_rng (N := 2) (by decide) hv
    obtain ⟨j, hj, rfl⟩ := am_rng (N := 2) (by decide) hw
    exact am_chkSE (am_all1 (am_all1 hk hi) hj) E1 E2
