/-! every call of a method on fresh objects agrees: the values within their ranges by computing, those outside by the heads -/
theorem am_rng {v : Int32} {N : Nat} (hN : N < 2 ^ 31) (h : ¬ (v < 0 ∨ nI N < v)) : ∃ i, i < N + 1 ∧ v = nI i := by
  have h0 : 0 ≤ v := Int32.not_lt.mp (fun z => h (Or.inl z))
  have h1 : v ≤ nI N := Int32.not_lt.mp (fun z => h (Or.inr z))
  have h2 := Int32.toNatClampNeg_le h1
  rw [nI_clamp hN] at h2
  exact ⟨v.toNatClampNeg, Nat.lt_succ_of_le h2, (Int32.ofNat_toNatClampNeg v h0).symm⟩
theorem am_faE {h : am_h} {m : Nat} (hF : am_fa h m = true) : ∃ (fx fm ft fn fk fy fr : List am_v) (t ta net kr ka tl r tm : Nat) (xs ys zs : Nat × Int32 × List Int32), h[1]? = some (.inr (9, fx)) ∧ h[m]? = some (.inr (10, fm)) ∧ fm[0]? = some (.inl 0) ∧ fm[4]? = some (.inl 0) ∧ fm[28]? = some (.inl 3) ∧ fm[73]? = some (.inl 0) ∧ fm[3]? = some (.inr (.inr (some tm))) ∧ tm ≠ 0 ∧ h[tm]? = some (.inl (.inl zs)) ∧ zs.1 = 700
    ∧ fx[0]? = some (.inr (.inr (some t))) ∧ h[t]? = some (.inr (3, ft)) ∧ ft[0]? = some (.inl 700) ∧ ft[1]? = some (.inr (.inr (some ta))) ∧ ft[2]? = some (.inl 0) ∧ ta ≠ 0 ∧ h[ta]? = some (.inl (.inl ys)) ∧ ys.1 = 80
    ∧ fx[10]? = some (.inr (.inr (some net))) ∧ h[net]? = some (.inr (1, fn)) ∧ fn[6]? = some (.inl 3) ∧ fn[0]? = some (.inr (.inr (some kr))) ∧ h[kr]? = some (.inr (3, fk)) ∧ fk[1]? = some (.inr (.inr (some ka))) ∧ fk[2]? = some (.inl 402) ∧ ka ≠ 0 ∧ h[ka]? = some (.inl (.inl xs)) ∧ xs.1 = 402 ∧ xs.2.1 = -1 ∧ xs.2.2.length ≤ 3
    ∧ am_rn 10 13 [am_ref net, .inl 0] h = some (.inl (some (.inl 1)), h, 0, 0) ∧ am_rn 10 13 [am_ref net, .inl 1] h = some (.inl (some (.inl 1)), h, 0, 0) ∧ am_rn 10 13 [am_ref net, .inl 2] h = some (.inl (some (.inl 1)), h, 0, 0) ∧ am_rn 9 26 [am_ref net, .inl 0] h = some (.inl (some (.inl 0)), h, 0, 0) ∧ am_rn 9 26 [am_ref net, .inl 1] h = some (.inl (some (.inl 0)), h, 0, 0) ∧ am_rn 9 26 [am_ref net, .inl 2] h = some (.inl (some (.inl 0)), h, 0, 0) ∧ am_rn 11 206 [am_ref m, .inl 0] h = some (.inl (some (.inl 0)), h, 0, 0) ∧ am_rn 11 206 [am_ref m, .inl 1] h = some (.inl (some (.inl 0)), h, 0, 0) ∧ am_rn 11 206 [am_ref m, .inl 2] h = some (.inl (some (.inl 0)), h, 0, 0) ∧ am_rn 11 190 [am_ref m, .inl 0] h = some (.inl (some (.inl 1)), h, 0, 0) ∧ am_rn 11 190 [am_ref m, .inl 1] h = some (.inl (some (.inl 1)), h, 0, 0) ∧ am_rn 11 190 [am_ref m, .inl 2] h = some (.inl (some (.inl 1)), h, 0, 0)
    ∧ fx[4]? = some (.inr (.inr (some tl))) ∧ h[tl]? = some (.inr (5, fy)) ∧ fy[0]? = some (.inr (.inr (some r))) ∧ h[r]? = some (.inr (3, fr)) ∧ fr[2]? = some (.inl 0) := by
  simp only [am_fa, am_fb, am_fc, am_fd, am_fe, am_ff, Bool.and_eq_true, decide_eq_true_eq] at hF
  obtain ⟨⟨b1, b2, b3, b4, b5, b6, b7, b8, b9, b10⟩, c1, ⟨d1, d2, d3, d4, d5, d6, d7⟩, e1, ⟨f1, f2, f3, ⟨g1, g2, g3, g4, g5, g6, g7, g8⟩, r1, r1b, r1c, r3, r3b, r3c, r5, r5b, r5c, r7, r7b, r7c⟩, i1, j1, j2, j3, j4⟩ := hF
  exact ⟨am_fs h 1, am_fs h m, am_fs h (am_rg (am_fs h 1) 0), am_fs h (am_rg (am_fs h 1) 10), am_fs h (am_rg (am_fs h (am_rg (am_fs h 1) 10)) 0), am_fs h (am_rg (am_fs h 1) 4), am_fs h (am_rg (am_fs h (am_rg (am_fs h 1) 4)) 0),
    am_rg (am_fs h 1) 0, am_rg (am_fs h (am_rg (am_fs h 1) 0)) 1, am_rg (am_fs h 1) 10, am_rg (am_fs h (am_rg (am_fs h 1) 10)) 0, am_rg (am_fs h (am_rg (am_fs h (am_rg (am_fs h 1) 10)) 0)) 1, am_rg (am_fs h 1) 4, am_rg (am_fs h (am_rg (am_fs h 1) 4)) 0, am_rg (am_fs h m) 3, _, _, _,
    am_fsE b1, am_fsE b2, am_isIE b3, am_isIE b4, am_isIE b5, am_isIE b6, am_rgE b7, Nat.ne_of_gt (Nat.le_of_ble_eq_true b8), am_rwE b9, Nat.eq_of_beq_eq_true b10,
    am_rgE c1, am_fsE d1, am_isIE d2, am_rgE d3, am_isIE d4, Nat.ne_of_gt (Nat.le_of_ble_eq_true d5), am_rwE d6, Nat.eq_of_beq_eq_true d7,
    am_rgE e1, am_fsE f1, am_isIE f2, am_rgE f3, am_fsE g1, am_rgE g2, am_isIE g3, Nat.ne_of_gt (Nat.le_of_ble_eq_true g4), am_rwE g5, Nat.eq_of_beq_eq_true g6, g7, Nat.le_of_ble_eq_true g8,
    am_smE r1, am_smE r1b, am_smE r1c, am_smE r3, am_smE r3b, am_smE r3c, am_smE r5, am_smE r5b, am_smE r5c, am_smE r7, am_smE r7b, am_smE r7c,
    am_rgE i1, am_fsE j1, am_rgE j2, am_fsE j3, am_isIE j4⟩
section AMA
variable {h : am_h} {m o : Nat}
/-- class and reference refuse alike -/
theorem am_ckT {k k2 c s : Nat} {as : List am_v} {e : Int32} {fm : List am_v} (hM : h[m]? = some (.inr (10, fm))) (m0 : fm[0]? = some (.inl 0)) (he : e ≠ 0) (hc : am_rn 12 k (am_ref 1 :: (as ++ [am_ref o])) h = some (.inl (some (.inl e)), h, c, s)) (hr : am_rn 12 k2 (am_ref m :: as) h = some (.inl (some (.inl 0)), am_hT m fm e h, 0, 0)) (h1 : c ≤ 1000) (h2 : s ≤ 10000) : am_ck h m o k k2 as :=
  ⟨e, 0, h, am_hT m fm e h, am_hT m fm e h, c, s, 0, 0, hc, hr, r_thrown (List.getElem?_set_self (am_fl1 hM)) (List.getElem?_set_self (am_fl1 m0)), rfl, List.length_set, rfl, h1, h2, ⟨fm, hM⟩, ⟨_, List.getElem?_set_self (am_fl1 hM)⟩, fun z => absurd z he⟩
theorem am_all1 {N : Nat} {p : Nat → Bool} (hk : (List.range N).all p = true) {i : Nat} (hi : i < N) : p i = true := List.all_eq_true.mp hk i (List.mem_range.mpr hi)
theorem a_tell (hF : am_fa h m = true) (hk : am_chk2 h m o 267 187 [.inl 0] = true) (v : Int32) : am_ck h m o 267 187 [.inl v] := by
  obtain ⟨fx, fm, ft, fn, fk, fy, fr, t, ta, net, kr, ka, tl, r, tm, xs, ys, zs, hX, hM, m0, m4, m28, m73, m3, tm0, htm, z1, x0, hT, t0, t1, t2, ta0, hta, y1, x10, hN, n6, n0, hK, k1, k2, ka0, hka, s1, s2, s3, r1, r1b, r1c, r3, r3b, r3c, r5, r5b, r5c, r7, r7b, r7c, x4, hY, y0, hR, r9⟩ := am_faE hF
  by_cases hv : v < 0 ∨ 0 < v
  · exact am_ckT hM m0 (e := 1) (by decide) (l_tell_0 hX (c_tell_F hX x0 hT t2 hv) rfl) (r_tell_F hv hM m0 m4) (by decide) (by decide)
  · have e : v = 0 := Int32.le_antisymm (Int32.not_lt.mp (fun z => hv (Or.inr z))) (Int32.not_lt.mp (fun z => hv (Or.inl z)))
    rw [e]
    exact am_chk2E hk
theorem a_step (hF : am_fa h m = true) (hk : (List.range 3).all (fun i => am_chk2 h m o 268 220 [.inl (nI i)]) = true) (v : Int32) : am_ck h m o 268 220 [.inl v] := by
  obtain ⟨fx, fm, ft, fn, fk, fy, fr, t, ta, net, kr, ka, tl, r, tm, xs, ys, zs, hX, hM, m0, m4, m28, m73, m3, tm0, htm, z1, x0, hT, t0, t1, t2, ta0, hta, y1, x10, hN, n6, n0, hK, k1, k2, ka0, hka, s1, s2, s3, r1, r1b, r1c, r3, r3b, r3c, r5, r5b, r5c, r7, r7b, r7c, x4, hY, y0, hR, r9⟩ := am_faE hF
  by_cases hv : v < 0 ∨ 2 < v
  · exact am_ckT hM m0 (e := 1) (by decide) (l_step_0 hX (c_step_F hv) rfl) (r_step_F hv hM m0) (by decide) (by decide)
  · obtain ⟨i, hi, rfl⟩ := am_rng (N := 2) (by decide) hv
    exact am_chk2E (am_all1 hk hi)
theorem a_count (hF : am_fa h m = true) (hk : (List.range 24).all (fun i => am_chk2 h m o 270 250 [.inl (nI i)]) = true) (v : Int32) : am_ck h m o 270 250 [.inl v] := by
  obtain ⟨fx, fm, ft, fn, fk, fy, fr, t, ta, net, kr, ka, tl, r, tm, xs, ys, zs, hX, hM, m0, m4, m28, m73, m3, tm0, htm, z1, x0, hT, t0, t1, t2, ta0, hta, y1, x10, hN, n6, n0, hK, k1, k2, ka0, hka, s1, s2, s3, r1, r1b, r1c, r3, r3b, r3c, r5, r5b, r5c, r7, r7b, r7c, x4, hY, y0, hR, r9⟩ := am_faE hF
  by_cases hv : v < 0 ∨ 23 < v
  · exact am_ckT hM m0 (e := 1) (by decide) (l_count_1 hX (c_count_F hv) rfl) (r_count_F hv hM m0) (by decide) (by decide)
  · obtain ⟨i, hi, rfl⟩ := am_rng (N := 23) (by decide) hv
    exact am_chk2E (am_all1 hk hi)
theorem a_wanted (hF : am_fa h m = true) (hk : (List.range 3).all (fun i => am_chk2 h m o 273 253 [.inl (nI i)]) = true) (v : Int32) : am_ck h m o 273 253 [.inl v] := by
  obtain ⟨fx, fm, ft, fn, fk, fy, fr, t, ta, net, kr, ka, tl, r, tm, xs, ys, zs, hX, hM, m0, m4, m28, m73, m3, tm0, htm, z1, x0, hT, t0, t1, t2, ta0, hta, y1, x10, hN, n6, n0, hK, k1, k2, ka0, hka, s1, s2, s3, r1, r1b, r1c, r3, r3b, r3c, r5, r5b, r5c, r7, r7b, r7c, x4, hY, y0, hR, r9⟩ := am_faE hF
  by_cases hv : v < 0 ∨ 2 < v
  · exact am_ckT hM m0 (e := 1) (by decide) (l_wanted_1 hX (c_wanted_F hv) rfl) (r_wanted_F hv hM m0) (by decide) (by decide)
  · obtain ⟨i, hi, rfl⟩ := am_rng (N := 2) (by decide) hv
    exact am_chk2E (am_all1 hk hi)
theorem a_say (hF : am_fa h m = true) (hk : (List.range 3).all (fun i => am_chk2 h m o 275 262 [.inl (nI i)]) = true) (v : Int32) : am_ck h m o 275 262 [.inl v] := by
  obtain ⟨fx, fm, ft, fn, fk, fy, fr, t, ta, net, kr, ka, tl, r, tm, xs, ys, zs, hX, hM, m0, m4, m28, m73, m3, tm0, htm, z1, x0, hT, t0, t1, t2, ta0, hta, y1, x10, hN, n6, n0, hK, k1, k2, ka0, hka, s1, s2, s3, r1, r1b, r1c, r3, r3b, r3c, r5, r5b, r5c, r7, r7b, r7c, x4, hY, y0, hR, r9⟩ := am_faE hF
  by_cases hv : v < 0 ∨ 2 < v
  · exact am_ckT hM m0 (e := 1) (by decide) (l_say_0 hX (c_say_F hv) rfl) (r_say_F hv hM m0) (by decide) (by decide)
  · obtain ⟨i, hi, rfl⟩ := am_rng (N := 2) (by decide) hv
    exact am_chk2E (am_all1 hk hi)
theorem a_plain (hF : am_fa h m = true) (hk : (List.range 201).all (fun i => am_chk2 h m o 277 265 [.inl (nI i)]) = true) (v : Int32) : am_ck h m o 277 265 [.inl v] := by
  obtain ⟨fx, fm, ft, fn, fk, fy, fr, t, ta, net, kr, ka, tl, r, tm, xs, ys, zs, hX, hM, m0, m4, m28, m73, m3, tm0, htm, z1, x0, hT, t0, t1, t2, ta0, hta, y1, x10, hN, n6, n0, hK, k1, k2, ka0, hka, s1, s2, s3, r1, r1b, r1c, r3, r3b, r3c, r5, r5b, r5c, r7, r7b, r7c, x4, hY, y0, hR, r9⟩ := am_faE hF
  by_cases hv : v < 0 ∨ 200 < v
  · exact am_ckT hM m0 (e := 1) (by decide) (l_plain_0 hX (c_plain_F hv) rfl) (r_plain_F hv hM m0) (by decide) (by decide)
  · obtain ⟨i, hi, rfl⟩ := am_rng (N := 200) (by decide) hv
    exact am_chk2E (am_all1 hk hi)
theorem a_redexes (hF : am_fa h m = true) (hk : (List.range 3).all (fun i => am_chk2 h m o 278 266 [.inl (nI i)]) = true) (v : Int32) : am_ck h m o 278 266 [.inl v] := by
  obtain ⟨fx, fm, ft, fn, fk, fy, fr, t, ta, net, kr, ka, tl, r, tm, xs, ys, zs, hX, hM, m0, m4, m28, m73, m3, tm0, htm, z1, x0, hT, t0, t1, t2, ta0, hta, y1, x10, hN, n6, n0, hK, k1, k2, ka0, hka, s1, s2, s3, r1, r1b, r1c, r3, r3b, r3c, r5, r5b, r5c, r7, r7b, r7c, x4, hY, y0, hR, r9⟩ := am_faE hF
  by_cases hv : v < 0 ∨ 2 < v
  · exact am_ckT hM m0 (e := 1) (by decide) (l_redexes_0 hX (c_redexes_F hv) rfl) (r_redexes_F hv hM m0) (by decide) (by decide)
  · obtain ⟨i, hi, rfl⟩ := am_rng (N := 2) (by decide) hv
    exact am_chk2E (am_all1 hk hi)
theorem a_run (hF : am_fa h m = true) (hk : (List.range 3).all (fun i => (List.range 61).all (fun j => am_chk2 h m o 269 221 [.inl (nI i), .inl (nI j)])) = true) (v w : Int32) : am_ck h m o 269 221 [.inl v, .inl w] := by
  obtain ⟨fx, fm, ft, fn, fk, fy, fr, t, ta, net, kr, ka, tl, r, tm, xs, ys, zs, hX, hM, m0, m4, m28, m73, m3, tm0, htm, z1, x0, hT, t0, t1, t2, ta0, hta, y1, x10, hN, n6, n0, hK, k1, k2, ka0, hka, s1, s2, s3, r1, r1b, r1c, r3, r3b, r3c, r5, r5b, r5c, r7, r7b, r7c, x4, hY, y0, hR, r9⟩ := am_faE hF
  by_cases hv : v < 0 ∨ 2 < v
  · exact am_ckT hM m0 (e := 1) (by decide) (l_run_0 hX (c_run_F hv) rfl) (r_run_F hv hM m0) (by decide) (by decide)
  have g1 : ¬ v < 0 := fun z => hv (Or.inl z)
  have g2 : ¬ 2 < v := fun z => hv (Or.inr z)
  by_cases hw : w < 0 ∨ 60 < w
  · exact am_ckT hM m0 (e := 1) (by decide) (l_run_0 hX (c_run_F2 g1 g2 hw) rfl) (r_run_F2 g1 g2 hw hM m0) (by decide) (by decide)
  · obtain ⟨i, hi, rfl⟩ := am_rng (N := 2) (by decide) hv
    obtain ⟨j, hj, rfl⟩ := am_rng (N := 60) (by decide) hw
    exact am_chk2E (am_all1 (am_all1 hk hi) hj)
theorem a_same (hF : am_fa h m = true) (hk : (List.range 3).all (fun i => (List.range 3).all (fun j => am_chk2 h m o 276 264 [.inl (nI i), .inl (nI j)])) = true) (v w : Int32) : am_ck h m o 276 264 [.inl v, .inl w] := by
  obtain ⟨fx, fm, ft, fn, fk, fy, fr, t, ta, net, kr, ka, tl, r, tm, xs, ys, zs, hX, hM, m0, m4, m28, m73, m3, tm0, htm, z1, x0, hT, t0, t1, t2, ta0, hta, y1, x10, hN, n6, n0, hK, k1, k2, ka0, hka, s1, s2, s3, r1, r1b, r1c, r3, r3b, r3c, r5, r5b, r5c, r7, r7b, r7c, x4, hY, y0, hR, r9⟩ := am_faE hF
  by_cases hv : v < 0 ∨ 2 < v
  · exact am_ckT hM m0 (e := 1) (by decide) (l_same_0 hX (c_same_F hv) rfl) (r_same_F hv hM m0) (by decide) (by decide)
  have g1 : ¬ v < 0 := fun z => hv (Or.inl z)
  have g2 : ¬ 2 < v := fun z => hv (Or.inr z)
  by_cases hw : w < 0 ∨ 2 < w
  · exact am_ckT hM m0 (e := 1) (by decide) (l_same_0 hX (c_same_F2 g1 g2 hw) rfl) (r_same_F2 g1 g2 hw hM m0) (by decide) (by decide)
  · obtain ⟨i, hi, rfl⟩ := am_rng (N := 2) (by decide) hv
    obtain ⟨j, hj, rfl⟩ := am_rng (N := 2) (by decide) hw
    exact am_chk2E (am_all1 (am_all1 hk hi) hj)
theorem a_trial (hF : am_fa h m = true) (hk : (List.range 3).all (fun i => (List.range 4).all (fun j => am_chk2 h m o 279 223 [.inl (nI i), .inl (nI j)])) = true) (v w : Int32) : am_ck h m o 279 223 [.inl v, .inl w] := by
  obtain ⟨fx, fm, ft, fn, fk, fy, fr, t, ta, net, kr, ka, tl, r, tm, xs, ys, zs, hX, hM, m0, m4, m28, m73, m3, tm0, htm, z1, x0, hT, t0, t1, t2, ta0, hta, y1, x10, hN, n6, n0, hK, k1, k2, ka0, hka, s1, s2, s3, r1, r1b, r1c, r3, r3b, r3c, r5, r5b, r5c, r7, r7b, r7c, x4, hY, y0, hR, r9⟩ := am_faE hF
  by_cases hv : v < 0 ∨ 2 < v
  · exact am_ckT hM m0 (e := 1) (by decide) (l_trial_0 hX (c_trial_F hv) rfl) (r_trial_F hv hM m0) (by decide) (by decide)
  have g1 : ¬ v < 0 := fun z => hv (Or.inl z)
  have g2 : ¬ 2 < v := fun z => hv (Or.inr z)
  by_cases hw : w < 0 ∨ 3 < w
  · exact am_ckT hM m0 (e := 2) (by decide) (l_trial_1 hX (c_trial_F2 g1 g2 hw) rfl) (r_trial_F2 g1 g2 hw hM m0) (by decide) (by decide)
  · obtain ⟨i, hi, rfl⟩ := am_rng (N := 2) (by decide) hv
    obtain ⟨j, hj, rfl⟩ := am_rng (N := 3) (by decide) hw
    exact am_chk2E (am_all1 (am_all1 hk hi) hj)
theorem c_get {d t a : Nat} {ft : List am_v} {xs : Nat × Int32 × List Int32} {v z : Int32} (hT : h[t]? = some (.inr (3, ft))) (t1 : ft[1]? = some (.inr (.inr (some a)))) (t2 : ft[2]? = some (.inl 402)) (ha0 : a ≠ 0) (ha : h[a]? = some (.inl (.inl xs))) (h1 : ¬ v < 0) (h2 : ¬ 402 ≤ v) (h3 : v.toNatClampNeg < xs.1) (h4 : xs.2.2.getD v.toNatClampNeg xs.2.1 = z) : am_rn (d + 1) 50 [am_ref t, .inl v] h = some (.inl (some (.inl z)), h, 0, 0) := by
  refine am_q0 ?_
  refine q_iload 1 rfl rfl rfl ?_
  refine q_c1 4 rfl rfl (if_neg h1) ?_
  refine q_iload 5 rfl rfl rfl ?_
  refine q_aload 6 rfl rfl rfl ?_
  refine q_get 9 rfl hT t2 rfl ?_
  refine q_c2 12 rfl rfl (if_neg h2) ?_
  refine q_aload 13 rfl rfl rfl ?_
  refine q_get 16 rfl hT t1 rfl ?_
  refine q_iload 17 rfl rfl rfl ?_
  refine q_iald 18 rfl ha0 ha h1 h3 h4 rfl ?_
  refine q_goto 22 rfl rfl ?_
  exact q_fin rfl rfl rfl
theorem c_has_c {d t k : Nat} {fn fk : List am_v} {v : Int32} (hN : h[t]? = some (.inr (1, fn))) (n0 : fn[0]? = some (.inr (.inr (some k)))) (hK : h[k]? = some (.inr (3, fk))) (h1 : ¬ v < 0) (h2 : ¬ 400 ≤ v) (hh : am_rn (d + 1) 50 [am_ref k, .inl v] h = some (.inl (some (.inl (-1))), h, 0, 0)) : am_rn (d + 2) 13 [am_ref t, .inl v] h = some (.inl (some (.inl 0)), h, 0, 0) := by
  refine am_q0 ?_
  refine q_iload 1 rfl rfl rfl ?_
  refine q_c1 4 rfl rfl (if_neg h1) ?_
  refine q_iload 5 rfl rfl rfl ?_
  refine q_push 8 rfl rfl ?_
  refine q_c2 11 rfl rfl (if_neg h2) ?_
  refine q_aload 12 rfl rfl rfl ?_
  refine q_get 15 rfl hN n0 rfl ?_
  refine q_iload 16 rfl rfl rfl ?_
  refine q_call2s 19 rfl hh rfl (am_rcE hK) rfl rfl ?_
  refine q_push 20 rfl rfl ?_
  refine q_c2 27 rfl rfl (if_pos rfl) ?_
  refine q_push 28 rfl rfl ?_
  exact q_fin rfl rfl rfl
theorem am_getD_hi {l : List Int32} {n : Nat} {x : Int32} (h : l.length ≤ n) : l.getD n x = x := by
  rw [List.getD, List.getElem?_eq_none h]
  rfl
theorem a_node (hF : am_fa h m = true) (hk : (List.range 3).all (fun i => (List.range 5).all (fun j => am_chk2 h m o 271 251 [.inl (nI i), .inl (nI j)])) = true) (v w : Int32) : am_ck h m o 271 251 [.inl v, .inl w] := by
  obtain ⟨fx, fm, ft, fn, fk, fy, fr, t, ta, net, kr, ka, tl, r, tm, xs, ys, zs, hX, hM, m0, m4, m28, m73, m3, tm0, htm, z1, x0, hT, t0, t1, t2, ta0, hta, y1, x10, hN, n6, n0, hK, k1, k2, ka0, hka, s1, s2, s3, r1, r1b, r1c, r3, r3b, r3c, r5, r5b, r5c, r7, r7b, r7c, x4, hY, y0, hR, r9⟩ := am_faE hF
  by_cases hv : v < 0 ∨ 2 < v
  · have hh : am_rn 10 13 [am_ref net, .inl v] h = some (.inl (some (.inl 0)), h, 0, 0) := by
      by_cases h1 : v < 0
      · exact c_has_a h1
      by_cases h2 : 400 ≤ v
      · exact c_has_b h1 h2
      have h3 : v < 400 := Int32.not_le.mp h2
      have h4 : ¬ 402 ≤ v := fun z => h2 (Int32.le_trans (by decide) z)
      have h5 : (3 : Int32) ≤ v := by
        have g := Int32.lt_iff_toInt_lt.mp (hv.resolve_left h1)
        have e1 : (2 : Int32).toInt = 2 := by decide
        have e2 : (3 : Int32).toInt = 3 := by decide
        refine Int32.le_iff_toInt_le.mpr ?_
        omega
      have h6 : v.toNatClampNeg ≤ 400 := Int32.toNatClampNeg_le (Int32.le_of_lt h3)
      have h7 : 3 ≤ v.toNatClampNeg := Int32.toNatClampNeg_le h5
      refine c_has_c hN n0 hK h1 h2 (c_get hK k1 k2 ka0 hka h1 h4 (by rw [s1]; omega) ?_)
      rw [am_getD_hi (by omega), s2]
    exact am_ckT hM m0 (e := 1) (by decide) (l_node_1 hX (c_node_F hX x10 hN hh) rfl) (r_node_F hv hM m0 m28) (by decide) (by decide)
  obtain ⟨i, hi, rfl⟩ := am_rng (N := 2) (by decide) hv
  by_cases hw : w < 0 ∨ 4 < w
  · match i, hi with
    | 0, _ => exact am_ckT hM m0 (e := 1) (by decide) (l_node_1 hX (c_node_F2 hX x10 hN r1 hw) rfl) (r_node_F2 hw hM m0 r7) (by decide) (by decide)
    | 1, _ => exact am_ckT hM m0 (e := 1) (by decide) (l_node_1 hX (c_node_F2 hX x10 hN r1b hw) rfl) (r_node_F2 hw hM m0 r7b) (by decide) (by decide)
    | 2, _ => exact am_ckT hM m0 (e := 1) (by decide) (l_node_1 hX (c_node_F2 hX x10 hN r1c hw) rfl) (r_node_F2 hw hM m0 r7c) (by decide) (by decide)
  · obtain ⟨j, hj, rfl⟩ := am_rng (N := 4) (by decide) hw
    exact am_chk2E (am_all1 (am_all1 hk hi) hj)
theorem a_active (hF : am_fa h m = true) (v w : Int32) : am_ck h m o 272 252 [.inl v, .inl w] := by
  obtain ⟨fx, fm, ft, fn, fk, fy, fr, t, ta, net, kr, ka, tl, r, tm, xs, ys, zs, hX, hM, m0, m4, m28, m73, m3, tm0, htm, z1, x0, hT, t0, t1, t2, ta0, hta, y1, x10, hN, n6, n0, hK, k1, k2, ka0, hka, s1, s2, s3, r1, r1b, r1c, r3, r3b, r3c, r5, r5b, r5c, r7, r7b, r7c, x4, hY, y0, hR, r9⟩ := am_faE hF
  by_cases h1 : v < 0
  · exact am_ckT hM m0 (e := 1) (by decide) (l_active_1 hX (c_active_a h1) rfl) (r_active_N h1 hM m0 m28) (by decide) (by decide)
  by_cases h2 : w < 0
  · exact am_ckT hM m0 (e := 1) (by decide) (l_active_1 hX (c_active_b h1 h2) rfl) (r_active_P h1 hM m0 m28 r5 r5b r5c) (by decide) (by decide)
  by_cases h3 : 2 < w
  · exact am_ckT hM m0 (e := 1) (by decide) (l_active_1 hX (c_active_c h1 h2 h3) rfl) (r_active_P h1 hM m0 m28 r5 r5b r5c) (by decide) (by decide)
  · exact am_ckT hM m0 (e := 1) (by decide) (l_active_1 hX (c_active_d h1 h2 h3 hX x10 hN (c_actN hN n6 r3 r3b r3c)) rfl) (r_active_P h1 hM m0 m28 r5 r5b r5c) (by decide) (by decide)
/-- the two terms of that number, of a length of two -/
theorem am_pbE {w : Int32} (e : am_pb h m w = true) : ∃ (t a c1 s1 c2 s2 : Nat) (g1 g2 : am_h) (ft f1 f2 : List am_v) (xs : Nat × Int32 × List Int32), am_rn 10 153 [am_ref 1, .inl w] h = some (.inl (some (am_ref t)), g1, c1, s1) ∧ g1.length = h.length ∧ c1 ≤ 400 ∧ s1 ≤ 4000 ∧ g1[t]? = some (.inr (3, ft)) ∧ ft[2]? = some (.inl 2) ∧ g1[m]? = some (.inr (10, f1)) ∧ f1[0]? = some (.inl 0) ∧ am_rn 11 246 [am_ref m, .inl w] g1 = some (.inl (some (.inl 1)), g2, c2, s2) ∧ g2.length = g1.length ∧ c2 ≤ 400 ∧ s2 ≤ 4000 ∧ g2[m]? = some (.inr (10, f2)) ∧ f2[0]? = some (.inl 0) ∧ f2[2]? = some (.inr (.inr (some a))) ∧ a ≠ 0 ∧ g2[a]? = some (.inl (.inl xs)) ∧ w.toNatClampNeg < xs.1 ∧ xs.2.2.getD w.toNatClampNeg xs.2.1 = 2 := by
  unfold am_pb at e
  split at e <;> first | (cases e; done) | skip
  rename_i t g1 c1 s1 e1
  simp only [Bool.and_eq_true] at e
  obtain ⟨p1, p2, p3, p4, p5, p6, p7, e⟩ := e
  split at e <;> first | (cases e; done) | skip
  rename_i y g2 c2 s2 e2
  simp only [Bool.and_eq_true, decide_eq_true_eq] at e
  obtain ⟨rfl, q1, q2, q3, q4, q5, q6, q7, q8, q9, q10⟩ := e
  exact ⟨t, am_rg (am_fs g2 m) 2, c1, s1, c2, s2, g1, g2, _, _, _, _, e1, Nat.eq_of_beq_eq_true p1, Nat.le_of_ble_eq_true p2, Nat.le_of_ble_eq_true p3, am_fsE p4, am_isIE p5, am_fsE p6, am_isIE p7, e2, Nat.eq_of_beq_eq_true q1, Nat.le_of_ble_eq_true q2, Nat.le_of_ble_eq_true q3, am_fsE q4, am_isIE q5, am_rgE q6, Nat.ne_of_gt (Nat.le_of_ble_eq_true q7), am_rwE q8, am_blt q9, q10⟩
theorem a_part2 {v w : Int32} (hF : am_fa h m = true) (hp : am_pb h m v = true) (g1 : ¬ v < 0) (g2 : ¬ 2 < v) (hw : w < 0 ∨ 1 < w) : am_ck h m o 274 256 [.inl v, .inl w] := by
  obtain ⟨fx, fm, ft, fn, fk, fy, fr, t, ta, net, kr, ka, tl, r, tm, xs, ys, zs, hX, hM, m0, m4, m28, m73, m3, tm0, htm, z1, x0, hT, t0, t1, t2, ta0, hta, y1, x10, hN, n6, n0, hK, k1, k2, ka0, hka, s1, s2, s3, r1, r1b, r1c, r3, r3b, r3c, r5, r5b, r5c, r7, r7b, r7c, x4, hY, y0, hR, r9⟩ := am_faE hF
  obtain ⟨t', a, c1, s1', c2, s2', k1', k2', ft', f1, f2, ws, e1, l1, u1, u2, hT', t2', hM1, m01, e2, l2, u3, u4, hM2, m02, m22, a0, ha, b1, b2⟩ := am_pbE hp
  have hc : am_rn 11 140 [am_ref 1, .inl v, .inl w] h = some (.inr 1, k1', 0 + c1 + 1, 0 + s1' + 6) := by
    by_cases h1 : w < 0
    · exact c_part_F2a h1 hX e1 l1
    · exact c_part_F2b h1 (hw.resolve_left h1) hX e1 l1 hT' t2'
  exact ⟨1, 0, k1', am_hT m f2 1 k2', am_hT m f2 1 k2', _, _, _, _, l_part_1 hX hc l1, r_part_F2 g1 g2 hw hM1 m01 e2 l2 hM2 m02 m22 a0 ha b1 b2, r_thrown (List.getElem?_set_self (am_fl1 hM2)) (List.getElem?_set_self (am_fl1 m02)), l1, List.length_set.trans l2, rfl, by omega, by omega, ⟨f1, hM1⟩, ⟨_, List.getElem?_set_self (am_fl1 hM2)⟩, fun z => absurd z (by decide)⟩
theorem a_part (hF : am_fa h m = true) (hp : (am_pb h m 0 && (am_pb h m 1 && am_pb h m 2)) = true) (hk : (List.range 3).all (fun i => (List.range 2).all (fun j => am_chk2 h m o 274 256 [.inl (nI i), .inl (nI j)])) = true) (v w : Int32) : am_ck h m o 274 256 [.inl v, .inl w] := by
  obtain ⟨fx, fm, ft, fn, fk, fy, fr, t, ta, net, kr, ka, tl, r, tm, xs, ys, zs, hX, hM, m0, m4, m28, m73, m3, tm0, htm, z1, x0, hT, t0, t1, t2, ta0, hta, y1, x10, hN, n6, n0, hK, k1, k2, ka0, hka, s1, s2, s3, r1, r1b, r1c, r3, r3b, r3c, r5, r5b, r5c, r7, r7b, r7c, x4, hY, y0, hR, r9⟩ := am_faE hF
  by_cases hv : v < 0 ∨ 2 < v
  · exact am_ckT hM m0 (e := 1) (by decide) (l_part_1 hX (c_part_F (fun e => by subst e; exact absurd hv (by decide)) (fun e => by subst e; exact absurd hv (by decide)) (fun e => by subst e; exact absurd hv (by decide)) hX) rfl) (r_part_F hv hM m0) (by decide) (by decide)
  have g1 : ¬ v < 0 := fun z => hv (Or.inl z)
  have g2 : ¬ 2 < v := fun z => hv (Or.inr z)
  obtain ⟨i, hi, rfl⟩ := am_rng (N := 2) (by decide) hv
  by_cases hw : w < 0 ∨ 1 < w
  · have p1 := Bool.and_eq_true_iff.mp hp
    have p2 := Bool.and_eq_true_iff.mp p1.2
    match i, hi with
    | 0, _ => exact a_part2 hF p1.1 g1 g2 hw
    | 1, _ => exact a_part2 hF p2.1 g1 g2 hw
    | 2, _ => exact a_part2 hF p2.2 g1 g2 hw
  · obtain ⟨j, hj, rfl⟩ := am_rng (N := 1) (by decide) hw
    exact am_chk2E (am_all1 (am_all1 hk hi) hj)
theorem a_said (hF : am_fa h m = true) (v : Int32) : am_cq h m 142 263 [.inl v] := by
  obtain ⟨fx, fm, ft, fn, fk, fy, fr, t, ta, net, kr, ka, tl, r, tm, xs, ys, zs, hX, hM, m0, m4, m28, m73, m3, tm0, htm, z1, x0, hT, t0, t1, t2, ta0, hta, y1, x10, hN, n6, n0, hK, k1, k2, ka0, hka, s1, s2, s3, r1, r1b, r1c, r3, r3b, r3c, r5, r5b, r5c, r7, r7b, r7c, x4, hY, y0, hR, r9⟩ := am_faE hF
  have hs : am_rn 11 77 [am_ref tl, .inl v] h = some (.inl (some (.inl (-1))), h, 0, 0) := by
    by_cases h1 : v < 0
    · exact c_sign_a h1
    · exact c_sign_b h1 hY y0 hR r9
  have hv : v < 0 ∨ -1 < v := by
    by_cases h1 : v < 0
    · exact Or.inl h1
    · exact Or.inr (Int32.lt_of_lt_of_le (by decide) (Int32.not_lt.mp h1))
  exact ⟨-1, h, h, 0, 0, 0, 0, c_said hX x4 hY hs, r_said hM m0 m73 hv, rfl, rfl, by omega, by omega, ⟨fm, hM⟩⟩
theorem a_feed (hF : am_fa h m = true) (v1 v2 v3 v4 v5 : Int32) : am_cq h m 130 164 [.inl v1, .inl v2, .inl v3, .inl v4, .inl v5] := by
  obtain ⟨fx, fm, ft, fn, fk, fy, fr, t, ta, net, kr, ka, tl, r, tm, xs, ys, zs, hX, hM, m0, m4, m28, m73, m3, tm0, htm, z1, x0, hT, t0, t1, t2, ta0, hta, y1, x10, hN, n6, n0, hK, k1, k2, ka0, hka, s1, s2, s3, r1, r1b, r1c, r3, r3b, r3c, r5, r5b, r5c, r7, r7b, r7c, x4, hY, y0, hR, r9⟩ := am_faE hF
  obtain ⟨y, yd, yl⟩ := ys
  have y2 : y = 80 := y1
  subst y2
  obtain ⟨z, zd, zl⟩ := zs
  have z2 : z = 700 := z1
  subst z2
  have d1 : t ≠ ta := fun e => by rw [e, hta] at hT; cases hT
  have d2 : t ≠ 1 := fun e => by rw [e, hX] at hT; cases hT
  have d3 : ta ≠ 1 := fun e => by rw [e, hX] at hta; cases hta
  have d4 : t ≠ m := fun e => by rw [e, hM] at hT; cases hT
  have d5 : ta ≠ m := fun e => by rw [e, hM] at hta; cases hta
  have d6 : t ≠ tm := fun e => by rw [e, htm] at hT; cases hT
  have d7 : ta ≠ tm := fun e => by rw [e, htm] at hta; cases hta
  have d8 : m ≠ tm := fun e => by rw [e, htm] at hM; cases hM
  have e1 := f_feed (d := 9) (xs := yl) (dd := yd) (v1 := v1) (v2 := v2) (v3 := v3) (v4 := v4) (v5 := v5) d1 (am_fl1 hT) (am_fl1 hta) ta0 t0 t1 t2 hX x0 d2 d3
  rw [am_hF_0 hT t2 hta] at e1
  generalize hg : am_hF h t ta ft yd 20 _ = g at e1
  have hgm : g[m]? = some (.inr (10, fm)) := by rw [← hg, am_hF_o d4 d5]; exact hM
  have hgt : g[tm]? = some (.inl (.inl (700, zd, zl))) := by rw [← hg, am_hF_o d6 d7]; exact htm
  have hgl : g.length = h.length := by rw [← hg]; exact am_hF_len
  have e2 := f_feedR (d := 10) (h := g) (xs := zl) (dd := zd) (v1 := v1) (v2 := v2) (v3 := v3) (v4 := v4) (v5 := v5) d8 (am_fl1 hgm) (am_fl1 hgt) tm0 m0 m3 m4
  rw [am_hG_0 hgm m4 hgt] at e2
  exact ⟨20, g, _, 0, 0, 0, 0, e1, e2, hgl, am_hG_len, by omega, by omega, ⟨fm, hgm⟩⟩
end AMA
