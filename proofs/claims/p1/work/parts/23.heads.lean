/-! methods at values outside their ranges (laid by gen/heads_spec.py) -/
theorem am_nle {a v : Int32} (h : a < v) : ¬ v ≤ a := Int32.not_le.mpr h
theorem am_nlt {a b v : Int32} (h : a < v) (hb : b ≤ a) : ¬ v < b := fun z => Int32.lt_irrefl (Int32.lt_trans h (Int32.lt_of_lt_of_le z hb))
theorem am_n2 {v : Int32} (h : 1 < v) : ¬ v < 2 := fun z => by
  have h1 := Int32.lt_iff_toInt_lt.mp h
  have h2 := Int32.lt_iff_toInt_lt.mp z
  have e1 : (1 : Int32).toInt = 1 := by decide
  have e2 : (2 : Int32).toInt = 2 := by decide
  omega
theorem am_tb_lo {dd : Nat} {hi : Int} {ts : List Nat} {v : Int32} (h : v < 0) : am_tb dd 0 hi ts v = dd := if_pos (Or.inl (by
  have h1 := Int32.lt_iff_toInt_lt.mp h
  rwa [Int32.toInt_zero] at h1))
theorem am_tb_hi {dd : Nat} {ts : List Nat} {v : Int32} (h : 23 < v) : am_tb dd 0 23 ts v = dd := if_pos (Or.inr (by
  have h1 := Int32.lt_iff_toInt_lt.mp h
  have h2 : (23 : Int32).toInt = 23 := by decide
  rwa [h2] at h1))
/-- what the reference says it threw -/
abbrev am_hT (m : Nat) (fm : List am_v) (e : Int32) (h : am_h) : am_h := h.set m (.inr (10, fm.set 0 (.inl e)))
section AMR
variable {d : Nat} {h : am_h} {m : Nat} {fm : List am_v}
theorem r_isIn_lt {v lo hi : Int32} (hv : v < lo) : am_rn (d + 1) 161 [.inl v, .inl lo, .inl hi] h = some (.inl (some (.inl 0)), h, 0, 0) := by
  refine am_q0 ?_
  refine q_iload 1 rfl rfl rfl ?_
  refine q_iload 2 rfl rfl rfl ?_
  refine q_c2 14 rfl rfl (if_pos hv) ?_
  refine q_push 15 rfl rfl ?_
  exact q_fin rfl rfl rfl
theorem r_isIn_gt {v lo hi : Int32} (h1 : ¬ v < lo) (h2 : hi < v) : am_rn (d + 1) 161 [.inl v, .inl lo, .inl hi] h = some (.inl (some (.inl 0)), h, 0, 0) := by
  refine am_q0 ?_
  refine q_iload 1 rfl rfl rfl ?_
  refine q_iload 2 rfl rfl rfl ?_
  refine q_c2 5 rfl rfl (if_neg h1) ?_
  refine q_iload 6 rfl rfl rfl ?_
  refine q_iload 7 rfl rfl rfl ?_
  refine q_c2 14 rfl rfl (if_pos h2) ?_
  refine q_push 15 rfl rfl ?_
  exact q_fin rfl rfl rfl
theorem r_isInT {v lo hi : Int32} (h1 : ¬ v < lo) (h2 : ¬ hi < v) : am_rn (d + 1) 161 [.inl v, .inl lo, .inl hi] h = some (.inl (some (.inl 1)), h, 0, 0) := by
  refine am_q0 ?_
  refine q_iload 1 rfl rfl rfl ?_
  refine q_iload 2 rfl rfl rfl ?_
  refine q_c2 5 rfl rfl (if_neg h1) ?_
  refine q_iload 6 rfl rfl rfl ?_
  refine q_iload 7 rfl rfl rfl ?_
  refine q_c2 10 rfl rfl (if_neg h2) ?_
  refine q_push 11 rfl rfl ?_
  refine q_goto 15 rfl rfl ?_
  exact q_fin rfl rfl rfl
theorem r_isInF {v lo hi : Int32} (hv : v < lo ∨ hi < v) : am_rn (d + 1) 161 [.inl v, .inl lo, .inl hi] h = some (.inl (some (.inl 0)), h, 0, 0) := by
  by_cases h1 : v < lo
  · exact r_isIn_lt h1
  · exact r_isIn_gt h1 (hv.resolve_left h1)
theorem r_isWayF {v : Int32} (hv : v < 0 ∨ 2 < v) : am_rn (d + 2) 219 [.inl v] h = some (.inl (some (.inl 0)), h, 0, 0) := by
  refine am_q0 ?_
  refine q_iload 1 rfl rfl rfl ?_
  refine q_push 2 rfl rfl ?_
  refine q_push 3 rfl rfl ?_
  refine q_call3s 6 rfl (r_isInF hv) rfl rfl rfl rfl ?_
  exact q_fin rfl rfl rfl
theorem r_isWayT {v : Int32} (h1 : ¬ v < 0) (h2 : ¬ 2 < v) : am_rn (d + 2) 219 [.inl v] h = some (.inl (some (.inl 1)), h, 0, 0) := by
  refine am_q0 ?_
  refine q_iload 1 rfl rfl rfl ?_
  refine q_push 2 rfl rfl ?_
  refine q_push 3 rfl rfl ?_
  refine q_call3s 6 rfl (r_isInT h1 h2) rfl rfl rfl rfl ?_
  exact q_fin rfl rfl rfl
theorem r_isWhichF {v : Int32} (hv : v < 0 ∨ 2 < v) : am_rn (d + 2) 254 [.inl v] h = some (.inl (some (.inl 0)), h, 0, 0) := by
  refine am_q0 ?_
  refine q_iload 1 rfl rfl rfl ?_
  refine q_push 2 rfl rfl ?_
  refine q_push 3 rfl rfl ?_
  refine q_call3s 6 rfl (r_isInF hv) rfl rfl rfl rfl ?_
  exact q_fin rfl rfl rfl
theorem r_isWhichT {v : Int32} (h1 : ¬ v < 0) (h2 : ¬ 2 < v) : am_rn (d + 2) 254 [.inl v] h = some (.inl (some (.inl 1)), h, 0, 0) := by
  refine am_q0 ?_
  refine q_iload 1 rfl rfl rfl ?_
  refine q_push 2 rfl rfl ?_
  refine q_push 3 rfl rfl ?_
  refine q_call3s 6 rfl (r_isInT h1 h2) rfl rfl rfl rfl ?_
  exact q_fin rfl rfl rfl
theorem r_rightF {e : Int32} (he : e ≠ 0) (hM : h[m]? = some (.inr (10, fm))) (m0 : fm[0]? = some (.inl 0)) : am_rn (d + 1) 160 [am_ref m, .inl 0, .inl e] h = some (.inl (some (.inl 0)), am_hT m fm e h, 0, 0) := by
  refine am_q0 ?_
  refine q_aload 1 rfl rfl rfl ?_
  refine q_get 4 rfl hM m0 rfl ?_
  refine q_c1 7 rfl rfl (if_pos rfl) ?_
  refine q_iload 8 rfl rfl rfl ?_
  refine q_c1 11 rfl rfl (if_pos rfl) ?_
  refine q_aload 12 rfl rfl rfl ?_
  refine q_iload 13 rfl rfl rfl ?_
  refine q_put 16 rfl hM rfl (List.getElem?_eq_some_iff.mp m0).1 rfl ?_
  refine q_aload 17 rfl rfl rfl ?_
  refine q_get 20 rfl (List.getElem?_set_self (am_len_of hM)) (List.getElem?_set_self (List.getElem?_eq_some_iff.mp m0).1) rfl ?_
  refine q_c1 27 rfl rfl (if_neg he) ?_
  refine q_push 28 rfl rfl ?_
  exact q_fin rfl rfl rfl
theorem r_rightT {e : Int32} (hM : h[m]? = some (.inr (10, fm))) (m0 : fm[0]? = some (.inl 0)) : am_rn (d + 1) 160 [am_ref m, .inl 1, .inl e] h = some (.inl (some (.inl 1)), h, 0, 0) := by
  refine am_q0 ?_
  refine q_aload 1 rfl rfl rfl ?_
  refine q_get 4 rfl hM m0 rfl ?_
  refine q_c1 7 rfl rfl (if_pos rfl) ?_
  refine q_iload 8 rfl rfl rfl ?_
  refine q_c1 16 rfl rfl (if_neg (by decide)) ?_
  refine q_aload 17 rfl rfl rfl ?_
  refine q_get 20 rfl hM m0 rfl ?_
  refine q_c1 23 rfl rfl (if_pos rfl) ?_
  refine q_push 24 rfl rfl ?_
  refine q_goto 28 rfl rfl ?_
  exact q_fin rfl rfl rfl
theorem r_thrown {e : Int32} (hM : h[m]? = some (.inr (10, fm))) (m0 : fm[0]? = some (.inl e)) : am_rn (d + 1) 159 [am_ref m] h = some (.inl (some (.inl e)), h, 0, 0) := by
  refine am_q0 ?_
  refine q_aload 1 rfl rfl rfl ?_
  refine q_get 4 rfl hM m0 rfl ?_
  exact q_fin rfl rfl rfl
theorem r_tell_F {v : Int32} (hv : v < 0 ∨ 0 < v) (hM : h[m]? = some (.inr (10, fm))) (m0 : fm[0]? = some (.inl 0)) (m4 : fm[4]? = some (.inl 0)) : am_rn (d + 2) 187 [am_ref m, .inl v] h = some (.inl (some (.inl 0)), am_hT m fm 1 h, 0, 0) := by
  refine am_q0 ?_
  refine q_aload 1 rfl rfl rfl ?_
  refine q_push 2 rfl rfl ?_
  refine q_put0 5 rfl hM rfl m0 rfl ?_
  refine q_aload 6 rfl rfl rfl ?_
  refine q_iload 7 rfl rfl rfl ?_
  refine q_push 8 rfl rfl ?_
  refine q_aload 9 rfl rfl rfl ?_
  refine q_get 12 rfl hM m4 rfl ?_
  refine q_call3s 15 rfl (r_isInF hv) rfl rfl rfl rfl ?_
  refine q_push 16 rfl rfl ?_
  refine q_call3s 19 rfl (r_rightF (e := 1) (by decide) hM m0) rfl (am_rcE hM) List.length_set rfl ?_
  refine q_c1 22 rfl rfl (if_pos rfl) ?_
  refine q_push 23 rfl rfl ?_
  exact q_fin rfl rfl rfl
theorem r_step_F {v : Int32} (hv : v < 0 ∨ 2 < v) (hM : h[m]? = some (.inr (10, fm))) (m0 : fm[0]? = some (.inl 0)) : am_rn (d + 3) 220 [am_ref m, .inl v] h = some (.inl (some (.inl 0)), am_hT m fm 1 h, 0, 0) := by
  refine am_q0 ?_
  refine q_aload 1 rfl rfl rfl ?_
  refine q_push 2 rfl rfl ?_
  refine q_put0 5 rfl hM rfl m0 rfl ?_
  refine q_aload 6 rfl rfl rfl ?_
  refine q_iload 7 rfl rfl rfl ?_
  refine q_call1s 10 rfl (r_isWayF hv) rfl rfl rfl rfl ?_
  refine q_push 11 rfl rfl ?_
  refine q_call3s 14 rfl (r_rightF (e := 1) (by decide) hM m0) rfl (am_rcE hM) List.length_set rfl ?_
  refine q_c1 25 rfl rfl (if_pos rfl) ?_
  refine q_push 26 rfl rfl ?_
  exact q_fin rfl rfl rfl
theorem r_run_F {v w : Int32} (hv : v < 0 ∨ 2 < v) (hM : h[m]? = some (.inr (10, fm))) (m0 : fm[0]? = some (.inl 0)) : am_rn (d + 3) 221 [am_ref m, .inl v, .inl w] h = some (.inl (some (.inl 0)), am_hT m fm 1 h, 0, 0) := by
  refine am_q0 ?_
  refine q_aload 1 rfl rfl rfl ?_
  refine q_push 2 rfl rfl ?_
  refine q_put0 5 rfl hM rfl m0 rfl ?_
  refine q_aload 6 rfl rfl rfl ?_
  refine q_iload 7 rfl rfl rfl ?_
  refine q_call1s 10 rfl (r_isWayF hv) rfl rfl rfl rfl ?_
  refine q_c1 27 rfl rfl (if_pos rfl) ?_
  refine q_push 28 rfl rfl ?_
  refine q_push 29 rfl rfl ?_
  refine q_call3s 32 rfl (r_rightF (e := 1) (by decide) hM m0) rfl (am_rcE hM) List.length_set rfl ?_
  refine q_c1 35 rfl rfl (if_pos rfl) ?_
  refine q_push 36 rfl rfl ?_
  exact q_fin rfl rfl rfl
theorem r_run_F2 {v w : Int32} (h1 : ¬ v < 0) (h2 : ¬ 2 < v) (hw : w < 0 ∨ 60 < w) (hM : h[m]? = some (.inr (10, fm))) (m0 : fm[0]? = some (.inl 0)) : am_rn (d + 3) 221 [am_ref m, .inl v, .inl w] h = some (.inl (some (.inl 0)), am_hT m fm 1 h, 0, 0) := by
  refine am_q0 ?_
  refine q_aload 1 rfl rfl rfl ?_
  refine q_push 2 rfl rfl ?_
  refine q_put0 5 rfl hM rfl m0 rfl ?_
  refine q_aload 6 rfl rfl rfl ?_
  refine q_iload 7 rfl rfl rfl ?_
  refine q_call1s 10 rfl (r_isWayT h1 h2) rfl rfl rfl rfl ?_
  refine q_c1 13 rfl rfl (if_neg (by decide)) ?_
  refine q_iload 14 rfl rfl rfl ?_
  refine q_push 15 rfl rfl ?_
  refine q_push 17 rfl rfl ?_
  refine q_call3s 20 rfl (r_isInF hw) rfl rfl rfl rfl ?_
  refine q_c1 27 rfl rfl (if_pos rfl) ?_
  refine q_push 28 rfl rfl ?_
  refine q_push 29 rfl rfl ?_
  refine q_call3s 32 rfl (r_rightF (e := 1) (by decide) hM m0) rfl (am_rcE hM) List.length_set rfl ?_
  refine q_c1 35 rfl rfl (if_pos rfl) ?_
  refine q_push 36 rfl rfl ?_
  exact q_fin rfl rfl rfl
theorem r_count_F {v : Int32} (hv : v < 0 ∨ 23 < v) (hM : h[m]? = some (.inr (10, fm))) (m0 : fm[0]? = some (.inl 0)) : am_rn (d + 2) 250 [am_ref m, .inl v] h = some (.inl (some (.inl 0)), am_hT m fm 1 h, 0, 0) := by
  refine am_q0 ?_
  refine q_aload 1 rfl rfl rfl ?_
  refine q_push 2 rfl rfl ?_
  refine q_put0 5 rfl hM rfl m0 rfl ?_
  refine q_aload 6 rfl rfl rfl ?_
  refine q_iload 7 rfl rfl rfl ?_
  refine q_push 8 rfl rfl ?_
  refine q_push 10 rfl rfl ?_
  refine q_call3s 13 rfl (r_isInF hv) rfl rfl rfl rfl ?_
  refine q_push 14 rfl rfl ?_
  refine q_call3s 17 rfl (r_rightF (e := 1) (by decide) hM m0) rfl (am_rcE hM) List.length_set rfl ?_
  refine q_c1 20 rfl rfl (if_pos rfl) ?_
  refine q_push 21 rfl rfl ?_
  exact q_fin rfl rfl rfl
theorem r_wanted_F {v : Int32} (hv : v < 0 ∨ 2 < v) (hM : h[m]? = some (.inr (10, fm))) (m0 : fm[0]? = some (.inl 0)) : am_rn (d + 2) 253 [am_ref m, .inl v] h = some (.inl (some (.inl 0)), am_hT m fm 1 h, 0, 0) := by
  refine am_q0 ?_
  refine q_aload 1 rfl rfl rfl ?_
  refine q_push 2 rfl rfl ?_
  refine q_put0 5 rfl hM rfl m0 rfl ?_
  refine q_aload 6 rfl rfl rfl ?_
  refine q_iload 7 rfl rfl rfl ?_
  refine q_push 8 rfl rfl ?_
  refine q_push 9 rfl rfl ?_
  refine q_call3s 12 rfl (r_isInF hv) rfl rfl rfl rfl ?_
  refine q_push 13 rfl rfl ?_
  refine q_call3s 16 rfl (r_rightF (e := 1) (by decide) hM m0) rfl (am_rcE hM) List.length_set rfl ?_
  refine q_c1 19 rfl rfl (if_pos rfl) ?_
  refine q_push 20 rfl rfl ?_
  exact q_fin rfl rfl rfl
theorem r_plain_F {v : Int32} (hv : v < 0 ∨ 200 < v) (hM : h[m]? = some (.inr (10, fm))) (m0 : fm[0]? = some (.inl 0)) : am_rn (d + 2) 265 [am_ref m, .inl v] h = some (.inl (some (.inl 0)), am_hT m fm 1 h, 0, 0) := by
  refine am_q0 ?_
  refine q_aload 1 rfl rfl rfl ?_
  refine q_push 2 rfl rfl ?_
  refine q_put0 5 rfl hM rfl m0 rfl ?_
  refine q_aload 6 rfl rfl rfl ?_
  refine q_iload 7 rfl rfl rfl ?_
  refine q_push 8 rfl rfl ?_
  refine q_push 11 rfl rfl ?_
  refine q_call3s 14 rfl (r_isInF hv) rfl rfl rfl rfl ?_
  refine q_push 15 rfl rfl ?_
  refine q_call3s 18 rfl (r_rightF (e := 1) (by decide) hM m0) rfl (am_rcE hM) List.length_set rfl ?_
  refine q_c1 21 rfl rfl (if_pos rfl) ?_
  refine q_push 22 rfl rfl ?_
  exact q_fin rfl rfl rfl
theorem r_isNode_F {v : Int32} (hv : v < 0 ∨ 2 < v) (hM : h[m]? = some (.inr (10, fm))) (m28 : fm[28]? = some (.inl 3)) : am_rn (d + 2) 190 [am_ref m, .inl v] h = some (.inl (some (.inl 0)), h, 0, 0) := by
  refine am_q0 ?_
  refine q_iload 1 rfl rfl rfl ?_
  refine q_push 2 rfl rfl ?_
  refine q_aload 3 rfl rfl rfl ?_
  refine q_get 6 rfl hM m28 rfl ?_
  refine q_push 7 rfl rfl ?_
  refine q_bin 2 8 rfl (by decide) rfl ?_
  refine q_call3s 11 rfl (r_isInF hv) rfl rfl rfl rfl ?_
  refine q_c1 28 rfl rfl (if_pos rfl) ?_
  refine q_push 29 rfl rfl ?_
  exact q_fin rfl rfl rfl
theorem r_node_F {v w : Int32} (hv : v < 0 ∨ 2 < v) (hM : h[m]? = some (.inr (10, fm))) (m0 : fm[0]? = some (.inl 0)) (m28 : fm[28]? = some (.inl 3)) : am_rn (d + 3) 251 [am_ref m, .inl v, .inl w] h = some (.inl (some (.inl 0)), am_hT m fm 1 h, 0, 0) := by
  refine am_q0 ?_
  refine q_aload 1 rfl rfl rfl ?_
  refine q_push 2 rfl rfl ?_
  refine q_put0 5 rfl hM rfl m0 rfl ?_
  refine q_aload 6 rfl rfl rfl ?_
  refine q_aload 7 rfl rfl rfl ?_
  refine q_iload 8 rfl rfl rfl ?_
  refine q_call2s 11 rfl (r_isNode_F hv hM m28) rfl (am_rcE hM) rfl rfl ?_
  refine q_c1 27 rfl rfl (if_pos rfl) ?_
  refine q_push 28 rfl rfl ?_
  refine q_push 29 rfl rfl ?_
  refine q_call3s 32 rfl (r_rightF (e := 1) (by decide) hM m0) rfl (am_rcE hM) List.length_set rfl ?_
  refine q_c1 35 rfl rfl (if_pos rfl) ?_
  refine q_push 36 rfl rfl ?_
  exact q_fin rfl rfl rfl
theorem r_node_F2 {v w : Int32} (hw : w < 0 ∨ 4 < w) (hM : h[m]? = some (.inr (10, fm))) (m0 : fm[0]? = some (.inl 0)) (hh : am_rn (d + 1) 190 [am_ref m, .inl v] h = some (.inl (some (.inl 1)), h, 0, 0)) : am_rn (d + 2) 251 [am_ref m, .inl v, .inl w] h = some (.inl (some (.inl 0)), am_hT m fm 1 h, 0, 0) := by
  refine am_q0 ?_
  refine q_aload 1 rfl rfl rfl ?_
  refine q_push 2 rfl rfl ?_
  refine q_put0 5 rfl hM rfl m0 rfl ?_
  refine q_aload 6 rfl rfl rfl ?_
  refine q_aload 7 rfl rfl rfl ?_
  refine q_iload 8 rfl rfl rfl ?_
  refine q_call2s 11 rfl hh rfl (am_rcE hM) rfl rfl ?_
  refine q_c1 14 rfl rfl (if_neg (by decide)) ?_
  refine q_iload 15 rfl rfl rfl ?_
  refine q_push 16 rfl rfl ?_
  refine q_push 17 rfl rfl ?_
  refine q_call3s 20 rfl (r_isInF hw) rfl rfl rfl rfl ?_
  refine q_c1 27 rfl rfl (if_pos rfl) ?_
  refine q_push 28 rfl rfl ?_
  refine q_push 29 rfl rfl ?_
  refine q_call3s 32 rfl (r_rightF (e := 1) (by decide) hM m0) rfl (am_rcE hM) List.length_set rfl ?_
  refine q_c1 35 rfl rfl (if_pos rfl) ?_
  refine q_push 36 rfl rfl ?_
  exact q_fin rfl rfl rfl
theorem r_active_N {v w : Int32} (hv : v < 0) (hM : h[m]? = some (.inr (10, fm))) (m0 : fm[0]? = some (.inl 0)) (m28 : fm[28]? = some (.inl 3)) : am_rn (d + 2) 252 [am_ref m, .inl v, .inl w] h = some (.inl (some (.inl 0)), am_hT m fm 1 h, 0, 0) := by
  refine am_q0 ?_
  refine q_aload 1 rfl rfl rfl ?_
  refine q_push 2 rfl rfl ?_
  refine q_put0 5 rfl hM rfl m0 rfl ?_
  refine q_iload 6 rfl rfl rfl ?_
  refine q_istore 7 rfl rfl ?_
  refine q_push 8 rfl rfl ?_
  refine q_istore 10 rfl rfl ?_
  refine q_iload 12 rfl rfl rfl ?_
  refine q_aload 13 rfl rfl rfl ?_
  refine q_get 16 rfl hM m28 rfl ?_
  refine q_c2 19 rfl rfl (if_neg (by decide)) ?_
  refine q_iload 20 rfl rfl rfl ?_
  refine q_c1 103 rfl rfl (if_pos hv) ?_
  refine q_aload 104 rfl rfl rfl ?_
  refine q_push 105 rfl rfl ?_
  refine q_push 106 rfl rfl ?_
  refine q_call3s 109 rfl (r_rightF (e := 1) (by decide) hM m0) rfl (am_rcE hM) List.length_set rfl ?_
  refine q_pop 110 rfl rfl rfl ?_
  refine q_push 111 rfl rfl ?_
  exact q_fin rfl rfl rfl
theorem r_active_P {v w : Int32} (hv : ¬ v < 0) (hM : h[m]? = some (.inr (10, fm))) (m0 : fm[0]? = some (.inl 0)) (m28 : fm[28]? = some (.inl 3)) (k0 : am_rn (d + 1) 206 [am_ref m, .inl 0] h = some (.inl (some (.inl 0)), h, 0, 0)) (k1 : am_rn (d + 1) 206 [am_ref m, .inl 1] h = some (.inl (some (.inl 0)), h, 0, 0)) (k2 : am_rn (d + 1) 206 [am_ref m, .inl 2] h = some (.inl (some (.inl 0)), h, 0, 0)) : am_rn (d + 2) 252 [am_ref m, .inl v, .inl w] h = some (.inl (some (.inl 0)), am_hT m fm 1 h, 0, 0) := by
  refine am_q0 ?_
  refine q_aload 1 rfl rfl rfl ?_
  refine q_push 2 rfl rfl ?_
  refine q_put0 5 rfl hM rfl m0 rfl ?_
  refine q_iload 6 rfl rfl rfl ?_
  refine q_istore 7 rfl rfl ?_
  refine q_push 8 rfl rfl ?_
  refine q_istore 10 rfl rfl ?_
  refine q_iload 12 rfl rfl rfl ?_
  refine q_aload 13 rfl rfl rfl ?_
  refine q_get 16 rfl hM m28 rfl ?_
  refine q_c2 19 rfl rfl (if_neg (by decide)) ?_
  refine q_iload 20 rfl rfl rfl ?_
  refine q_c1 23 rfl rfl (if_neg hv) ?_
  refine q_aload 24 rfl rfl rfl ?_
  refine q_iload 26 rfl rfl rfl ?_
  refine q_call2s 29 rfl k0 rfl (am_rcE hM) rfl rfl ?_
  refine q_c1 32 rfl rfl (if_pos rfl) ?_
  refine q_goto 97 rfl rfl ?_
  refine q_iinc 1 100 rfl rfl (by decide) rfl ?_
  refine q_goto 10 rfl rfl ?_
  refine q_iload 12 rfl rfl rfl ?_
  refine q_aload 13 rfl rfl rfl ?_
  refine q_get 16 rfl hM m28 rfl ?_
  refine q_c2 19 rfl rfl (if_neg (by decide)) ?_
  refine q_iload 20 rfl rfl rfl ?_
  refine q_c1 23 rfl rfl (if_neg hv) ?_
  refine q_aload 24 rfl rfl rfl ?_
  refine q_iload 26 rfl rfl rfl ?_
  refine q_call2s 29 rfl k1 rfl (am_rcE hM) rfl rfl ?_
  refine q_c1 32 rfl rfl (if_pos rfl) ?_
  refine q_goto 97 rfl rfl ?_
  refine q_iinc 2 100 rfl rfl (by decide) rfl ?_
  refine q_goto 10 rfl rfl ?_
  refine q_iload 12 rfl rfl rfl ?_
  refine q_aload 13 rfl rfl rfl ?_
  refine q_get 16 rfl hM m28 rfl ?_
  refine q_c2 19 rfl rfl (if_neg (by decide)) ?_
  refine q_iload 20 rfl rfl rfl ?_
  refine q_c1 23 rfl rfl (if_neg hv) ?_
  refine q_aload 24 rfl rfl rfl ?_
  refine q_iload 26 rfl rfl rfl ?_
  refine q_call2s 29 rfl k2 rfl (am_rcE hM) rfl rfl ?_
  refine q_c1 32 rfl rfl (if_pos rfl) ?_
  refine q_goto 97 rfl rfl ?_
  refine q_iinc 3 100 rfl rfl (by decide) rfl ?_
  refine q_goto 10 rfl rfl ?_
  refine q_iload 12 rfl rfl rfl ?_
  refine q_aload 13 rfl rfl rfl ?_
  refine q_get 16 rfl hM m28 rfl ?_
  refine q_c2 103 rfl rfl (if_pos (by decide)) ?_
  refine q_aload 104 rfl rfl rfl ?_
  refine q_push 105 rfl rfl ?_
  refine q_push 106 rfl rfl ?_
  refine q_call3s 109 rfl (r_rightF (e := 1) (by decide) hM m0) rfl (am_rcE hM) List.length_set rfl ?_
  refine q_pop 110 rfl rfl rfl ?_
  refine q_push 111 rfl rfl ?_
  exact q_fin rfl rfl rfl
theorem r_part_F {v w : Int32} (hv : v < 0 ∨ 2 < v) (hM : h[m]? = some (.inr (10, fm))) (m0 : fm[0]? = some (.inl 0)) : am_rn (d + 3) 256 [am_ref m, .inl v, .inl w] h = some (.inl (some (.inl 0)), am_hT m fm 1 h, 0, 0) := by
  refine am_q0 ?_
  refine q_aload 1 rfl rfl rfl ?_
  refine q_push 2 rfl rfl ?_
  refine q_put0 5 rfl hM rfl m0 rfl ?_
  refine q_aload 6 rfl rfl rfl ?_
  refine q_iload 7 rfl rfl rfl ?_
  refine q_call1s 10 rfl (r_isWhichF hv) rfl rfl rfl rfl ?_
  refine q_c1 41 rfl rfl (if_pos rfl) ?_
  refine q_push 42 rfl rfl ?_
  refine q_push 43 rfl rfl ?_
  refine q_call3s 46 rfl (r_rightF (e := 1) (by decide) hM m0) rfl (am_rcE hM) List.length_set rfl ?_
  refine q_c1 49 rfl rfl (if_pos rfl) ?_
  refine q_push 50 rfl rfl ?_
  exact q_fin rfl rfl rfl
theorem r_part_F2 {v w : Int32} {h' : am_h} {fm' : List am_v} {c' s' a : Nat} {xs : Nat × Int32 × List Int32} (h1 : ¬ v < 0) (h2 : ¬ 2 < v) (hw : w < 0 ∨ 1 < w) (hM : h[m]? = some (.inr (10, fm))) (m0 : fm[0]? = some (.inl 0)) (hh : am_rn (d + 2) 246 [am_ref m, .inl v] h = some (.inl (some (.inl 1)), h', c', s')) (hl : h'.length = h.length) (hM' : h'[m]? = some (.inr (10, fm'))) (m0' : fm'[0]? = some (.inl 0)) (m2' : fm'[2]? = some (.inr (.inr (some a)))) (ha : a ≠ 0) (ha1 : h'[a]? = some (.inl (.inl xs))) (ha2 : v.toNatClampNeg < xs.1) (ha3 : xs.2.2.getD v.toNatClampNeg xs.2.1 = 2) : am_rn (d + 3) 256 [am_ref m, .inl v, .inl w] h = some (.inl (some (.inl 0)), am_hT m fm' 1 h', 0 + c', 0 + s') := by
  refine am_q0 ?_
  refine q_aload 1 rfl rfl rfl ?_
  refine q_push 2 rfl rfl ?_
  refine q_put0 5 rfl hM rfl m0 rfl ?_
  refine q_aload 6 rfl rfl rfl ?_
  refine q_iload 7 rfl rfl rfl ?_
  refine q_call1s 10 rfl (r_isWhichT h1 h2) rfl rfl rfl rfl ?_
  refine q_c1 13 rfl rfl (if_neg (by decide)) ?_
  refine q_aload 14 rfl rfl rfl ?_
  refine q_iload 15 rfl rfl rfl ?_
  refine q_call2s 18 rfl hh rfl (am_rcE hM) hl rfl ?_
  refine q_c1 21 rfl rfl (if_neg (by decide)) ?_
  refine q_iload 22 rfl rfl rfl ?_
  refine q_push 23 rfl rfl ?_
  refine q_aload 24 rfl rfl rfl ?_
  refine q_get 27 rfl hM' m2' rfl ?_
  refine q_iload 28 rfl rfl rfl ?_
  refine q_iald 29 rfl ha ha1 h1 ha2 ha3 rfl ?_
  refine q_push 30 rfl rfl ?_
  refine q_bin 1 31 rfl (by decide) rfl ?_
  refine q_call3s 34 rfl (r_isInF hw) rfl rfl rfl rfl ?_
  refine q_c1 41 rfl rfl (if_pos rfl) ?_
  refine q_push 42 rfl rfl ?_
  refine q_push 43 rfl rfl ?_
  refine q_call3s 46 rfl (r_rightF (e := 1) (by decide) hM' m0') rfl (am_rcE hM') List.length_set rfl ?_
  refine q_c1 49 rfl rfl (if_pos rfl) ?_
  refine q_push 50 rfl rfl ?_
  exact q_fin rfl rfl rfl
theorem r_say_F {v : Int32} (hv : v < 0 ∨ 2 < v) (hM : h[m]? = some (.inr (10, fm))) (m0 : fm[0]? = some (.inl 0)) : am_rn (d + 3) 262 [am_ref m, .inl v] h = some (.inl (some (.inl 0)), am_hT m fm 1 h, 0, 0) := by
  refine am_q0 ?_
  refine q_aload 1 rfl rfl rfl ?_
  refine q_push 2 rfl rfl ?_
  refine q_put0 5 rfl hM rfl m0 rfl ?_
  refine q_aload 6 rfl rfl rfl ?_
  refine q_iload 7 rfl rfl rfl ?_
  refine q_call1s 10 rfl (r_isWhichF hv) rfl rfl rfl rfl ?_
  refine q_push 11 rfl rfl ?_
  refine q_call3s 14 rfl (r_rightF (e := 1) (by decide) hM m0) rfl (am_rcE hM) List.length_set rfl ?_
  refine q_c1 17 rfl rfl (if_pos rfl) ?_
  refine q_push 18 rfl rfl ?_
  exact q_fin rfl rfl rfl
theorem r_redexes_F {v : Int32} (hv : v < 0 ∨ 2 < v) (hM : h[m]? = some (.inr (10, fm))) (m0 : fm[0]? = some (.inl 0)) : am_rn (d + 3) 266 [am_ref m, .inl v] h = some (.inl (some (.inl 0)), am_hT m fm 1 h, 0, 0) := by
  refine am_q0 ?_
  refine q_aload 1 rfl rfl rfl ?_
  refine q_push 2 rfl rfl ?_
  refine q_put0 5 rfl hM rfl m0 rfl ?_
  refine q_aload 6 rfl rfl rfl ?_
  refine q_iload 7 rfl rfl rfl ?_
  refine q_call1s 10 rfl (r_isWhichF hv) rfl rfl rfl rfl ?_
  refine q_push 11 rfl rfl ?_
  refine q_call3s 14 rfl (r_rightF (e := 1) (by decide) hM m0) rfl (am_rcE hM) List.length_set rfl ?_
  refine q_c1 30 rfl rfl (if_pos rfl) ?_
  refine q_push 31 rfl rfl ?_
  exact q_fin rfl rfl rfl
theorem r_same_F {v w : Int32} (hv : v < 0 ∨ 2 < v) (hM : h[m]? = some (.inr (10, fm))) (m0 : fm[0]? = some (.inl 0)) : am_rn (d + 3) 264 [am_ref m, .inl v, .inl w] h = some (.inl (some (.inl 0)), am_hT m fm 1 h, 0, 0) := by
  refine am_q0 ?_
  refine q_aload 1 rfl rfl rfl ?_
  refine q_push 2 rfl rfl ?_
  refine q_put0 5 rfl hM rfl m0 rfl ?_
  refine q_aload 6 rfl rfl rfl ?_
  refine q_iload 7 rfl rfl rfl ?_
  refine q_call1s 10 rfl (r_isWhichF hv) rfl rfl rfl rfl ?_
  refine q_c1 24 rfl rfl (if_pos rfl) ?_
  refine q_push 25 rfl rfl ?_
  refine q_push 26 rfl rfl ?_
  refine q_call3s 29 rfl (r_rightF (e := 1) (by decide) hM m0) rfl (am_rcE hM) List.length_set rfl ?_
  refine q_c1 61 rfl rfl (if_pos rfl) ?_
  refine q_push 62 rfl rfl ?_
  exact q_fin rfl rfl rfl
theorem r_same_F2 {v w : Int32} (h1 : ¬ v < 0) (h2 : ¬ 2 < v) (hw : w < 0 ∨ 2 < w) (hM : h[m]? = some (.inr (10, fm))) (m0 : fm[0]? = some (.inl 0)) : am_rn (d + 3) 264 [am_ref m, .inl v, .inl w] h = some (.inl (some (.inl 0)), am_hT m fm 1 h, 0, 0) := by
  refine am_q0 ?_
  refine q_aload 1 rfl rfl rfl ?_
  refine q_push 2 rfl rfl ?_
  refine q_put0 5 rfl hM rfl m0 rfl ?_
  refine q_aload 6 rfl rfl rfl ?_
  refine q_iload 7 rfl rfl rfl ?_
  refine q_call1s 10 rfl (r_isWhichT h1 h2) rfl rfl rfl rfl ?_
  refine q_c1 13 rfl rfl (if_neg (by decide)) ?_
  refine q_iload 14 rfl rfl rfl ?_
  refine q_call1s 17 rfl (r_isWhichF hw) rfl rfl rfl rfl ?_
  refine q_c1 24 rfl rfl (if_pos rfl) ?_
  refine q_push 25 rfl rfl ?_
  refine q_push 26 rfl rfl ?_
  refine q_call3s 29 rfl (r_rightF (e := 1) (by decide) hM m0) rfl (am_rcE hM) List.length_set rfl ?_
  refine q_c1 61 rfl rfl (if_pos rfl) ?_
  refine q_push 62 rfl rfl ?_
  exact q_fin rfl rfl rfl
theorem r_trial_F {v w : Int32} (hv : v < 0 ∨ 2 < v) (hM : h[m]? = some (.inr (10, fm))) (m0 : fm[0]? = some (.inl 0)) : am_rn (d + 3) 223 [am_ref m, .inl v, .inl w] h = some (.inl (some (.inl 0)), am_hT m fm 1 h, 0, 0) := by
  refine am_q0 ?_
  refine q_aload 1 rfl rfl rfl ?_
  refine q_push 2 rfl rfl ?_
  refine q_put0 5 rfl hM rfl m0 rfl ?_
  refine q_aload 6 rfl rfl rfl ?_
  refine q_iload 7 rfl rfl rfl ?_
  refine q_call1s 10 rfl (r_isWayF hv) rfl rfl rfl rfl ?_
  refine q_push 11 rfl rfl ?_
  refine q_call3s 14 rfl (r_rightF (e := 1) (by decide) hM m0) rfl (am_rcE hM) List.length_set rfl ?_
  refine q_c1 31 rfl rfl (if_pos rfl) ?_
  refine q_push 32 rfl rfl ?_
  exact q_fin rfl rfl rfl
theorem r_trial_F2 {v w : Int32} (h1 : ¬ v < 0) (h2 : ¬ 2 < v) (hw : w < 0 ∨ 3 < w) (hM : h[m]? = some (.inr (10, fm))) (m0 : fm[0]? = some (.inl 0)) : am_rn (d + 3) 223 [am_ref m, .inl v, .inl w] h = some (.inl (some (.inl 0)), am_hT m fm 2 h, 0, 0) := by
  refine am_q0 ?_
  refine q_aload 1 rfl rfl rfl ?_
  refine q_push 2 rfl rfl ?_
  refine q_put0 5 rfl hM rfl m0 rfl ?_
  refine q_aload 6 rfl rfl rfl ?_
  refine q_iload 7 rfl rfl rfl ?_
  refine q_call1s 10 rfl (r_isWayT h1 h2) rfl rfl rfl rfl ?_
  refine q_push 11 rfl rfl ?_
  refine q_call3s 14 rfl (r_rightT hM m0) rfl (am_rcE hM) rfl rfl ?_
  refine q_c1 17 rfl rfl (if_neg (by decide)) ?_
  refine q_aload 18 rfl rfl rfl ?_
  refine q_iload 19 rfl rfl rfl ?_
  refine q_push 20 rfl rfl ?_
  refine q_push 21 rfl rfl ?_
  refine q_call3s 24 rfl (r_isInF hw) rfl rfl rfl rfl ?_
  refine q_push 25 rfl rfl ?_
  refine q_call3s 28 rfl (r_rightF (e := 2) (by decide) hM m0) rfl (am_rcE hM) List.length_set rfl ?_
  refine q_c1 31 rfl rfl (if_pos rfl) ?_
  refine q_push 32 rfl rfl ?_
  exact q_fin rfl rfl rfl
theorem r_said {v : Int32} (hM : h[m]? = some (.inr (10, fm))) (m0 : fm[0]? = some (.inl 0)) (m73 : fm[73]? = some (.inl 0)) (hv : v < 0 ∨ -1 < v) : am_rn (d + 2) 263 [am_ref m, .inl v] h = some (.inl (some (.inl (-1))), h, 0, 0) := by
  refine am_q0 ?_
  refine q_aload 1 rfl rfl rfl ?_
  refine q_push 2 rfl rfl ?_
  refine q_put0 5 rfl hM rfl m0 rfl ?_
  refine q_iload 6 rfl rfl rfl ?_
  refine q_push 7 rfl rfl ?_
  refine q_aload 8 rfl rfl rfl ?_
  refine q_get 11 rfl hM m73 rfl ?_
  refine q_push 12 rfl rfl ?_
  refine q_bin (-1) 13 rfl (by decide) rfl ?_
  refine q_call3s 16 rfl (r_isInF hv) rfl rfl rfl rfl ?_
  refine q_c1 28 rfl rfl (if_pos rfl) ?_
  refine q_push 29 rfl rfl ?_
  exact q_fin rfl rfl rfl
end AMR
section AMK
variable {d : Nat} {h : am_h} {t : Nat} {fx ft fn : List am_v}
theorem c_refWaysFa {v : Int32} (h1 : v < 0) : am_rn (d + 1) 156 [.inl v] h = some (.inr 0, h, 1, 6) := by
  refine am_q0 ?_
  refine q_iload 1 rfl rfl rfl ?_
  refine q_c1 9 rfl rfl (if_pos h1) ?_
  exact q_fin rfl rfl rfl
theorem c_refWaysFb {v : Int32} (h1 : ¬ v < 0) (h2 : 2 < v) : am_rn (d + 1) 156 [.inl v] h = some (.inr 0, h, 1, 6) := by
  refine am_q0 ?_
  refine q_iload 1 rfl rfl rfl ?_
  refine q_c1 4 rfl rfl (if_neg h1) ?_
  refine q_iload 5 rfl rfl rfl ?_
  refine q_push 6 rfl rfl ?_
  refine q_c2 9 rfl rfl (if_neg (am_nle h2)) ?_
  exact q_fin rfl rfl rfl
theorem c_refWaysF {v : Int32} (hv : v < 0 ∨ 2 < v) : am_rn (d + 1) 156 [.inl v] h = some (.inr 0, h, 1, 6) := by
  by_cases h1 : v < 0
  · exact c_refWaysFa  h1
  · exact c_refWaysFb  h1 (hv.resolve_left h1)
theorem c_refWaysT {v : Int32} (h1 : ¬ v < 0) (h2 : ¬ 2 < v) : am_rn (d + 1) 156 [.inl v] h = some (.inl none, h, 0, 0) := by
  refine am_q0 ?_
  refine q_iload 1 rfl rfl rfl ?_
  refine q_c1 4 rfl rfl (if_neg h1) ?_
  refine q_iload 5 rfl rfl rfl ?_
  refine q_push 6 rfl rfl ?_
  refine q_c2 20 rfl rfl (if_pos (Int32.not_lt.mp h2)) ?_
  exact q_fin rfl rfl rfl
theorem c_refTermsFa {v : Int32} (h1 : v < 0) : am_rn (d + 1) 157 [.inl v] h = some (.inr 0, h, 1, 6) := by
  refine am_q0 ?_
  refine q_iload 1 rfl rfl rfl ?_
  refine q_c1 9 rfl rfl (if_pos h1) ?_
  exact q_fin rfl rfl rfl
theorem c_refTermsFb {v : Int32} (h1 : ¬ v < 0) (h2 : 2 < v) : am_rn (d + 1) 157 [.inl v] h = some (.inr 0, h, 1, 6) := by
  refine am_q0 ?_
  refine q_iload 1 rfl rfl rfl ?_
  refine q_c1 4 rfl rfl (if_neg h1) ?_
  refine q_iload 5 rfl rfl rfl ?_
  refine q_push 6 rfl rfl ?_
  refine q_c2 9 rfl rfl (if_neg (am_nle h2)) ?_
  exact q_fin rfl rfl rfl
theorem c_refTermsF {v : Int32} (hv : v < 0 ∨ 2 < v) : am_rn (d + 1) 157 [.inl v] h = some (.inr 0, h, 1, 6) := by
  by_cases h1 : v < 0
  · exact c_refTermsFa  h1
  · exact c_refTermsFb  h1 (hv.resolve_left h1)
theorem c_refTermsT {v : Int32} (h1 : ¬ v < 0) (h2 : ¬ 2 < v) : am_rn (d + 1) 157 [.inl v] h = some (.inl none, h, 0, 0) := by
  refine am_q0 ?_
  refine q_iload 1 rfl rfl rfl ?_
  refine q_c1 4 rfl rfl (if_neg h1) ?_
  refine q_iload 5 rfl rfl rfl ?_
  refine q_push 6 rfl rfl ?_
  refine q_c2 20 rfl rfl (if_pos (Int32.not_lt.mp h2)) ?_
  exact q_fin rfl rfl rfl
theorem c_size {z : Int32} (hT : h[t]? = some (.inr (3, ft))) (t2 : ft[2]? = some (.inl z)) : am_rn (d + 1) 49 [am_ref t] h = some (.inl (some (.inl z)), h, 0, 0) := by
  refine am_q0 ?_
  refine q_aload 1 rfl rfl rfl ?_
  refine q_get 4 rfl hT t2 rfl ?_
  exact q_fin rfl rfl rfl
theorem c_tell_Fa {v : Int32} (hX : h[1]? = some (.inr (9, fx))) (x0 : fx[0]? = some (.inr (.inr (some t)))) (hT : h[t]? = some (.inr (3, ft))) (t2 : ft[2]? = some (.inl 0)) (h1 : v < 0) : am_rn (d + 2) 131 [am_ref 1, .inl v] h = some (.inr 0, h, 1, 6) := by
  refine am_q0 ?_
  refine q_iload 1 rfl rfl rfl ?_
  refine q_c1 15 rfl rfl (if_pos h1) ?_
  exact q_fin rfl rfl rfl
theorem c_tell_Fb {v : Int32} (hX : h[1]? = some (.inr (9, fx))) (x0 : fx[0]? = some (.inr (.inr (some t)))) (hT : h[t]? = some (.inr (3, ft))) (t2 : ft[2]? = some (.inl 0)) (h1 : ¬ v < 0) (h2 : 0 < v) : am_rn (d + 2) 131 [am_ref 1, .inl v] h = some (.inr 0, h, 1, 6) := by
  refine am_q0 ?_
  refine q_iload 1 rfl rfl rfl ?_
  refine q_c1 4 rfl rfl (if_neg h1) ?_
  refine q_iload 5 rfl rfl rfl ?_
  refine q_aload 6 rfl rfl rfl ?_
  refine q_get 9 rfl hX x0 rfl ?_
  refine q_call1s 12 rfl (c_size hT t2) rfl (am_rcE hT) rfl rfl ?_
  refine q_c2 15 rfl rfl (if_neg (am_nle h2)) ?_
  exact q_fin rfl rfl rfl
theorem c_tell_F {v : Int32} (hX : h[1]? = some (.inr (9, fx))) (x0 : fx[0]? = some (.inr (.inr (some t)))) (hT : h[t]? = some (.inr (3, ft))) (t2 : ft[2]? = some (.inl 0)) (hv : v < 0 ∨ 0 < v) : am_rn (d + 2) 131 [am_ref 1, .inl v] h = some (.inr 0, h, 1, 6) := by
  by_cases h1 : v < 0
  · exact c_tell_Fa hX x0 hT t2 h1
  · exact c_tell_Fb hX x0 hT t2 h1 (hv.resolve_left h1)
theorem c_step_F {v : Int32} (hv : v < 0 ∨ 2 < v) : am_rn (d + 2) 134 [am_ref 1, .inl v] h = some (.inr 0, h, 1, 6) := by
  refine am_q0 ?_
  refine q_iload 1 rfl rfl rfl ?_
  exact q_callP rfl (c_refWaysF hv) rfl rfl rfl rfl (by decide) rfl rfl rfl
theorem c_run_F {v w : Int32} (hv : v < 0 ∨ 2 < v) : am_rn (d + 2) 135 [am_ref 1, .inl v, .inl w] h = some (.inr 0, h, 1, 6) := by
  refine am_q0 ?_
  refine q_iload 1 rfl rfl rfl ?_
  exact q_callP rfl (c_refWaysF hv) rfl rfl rfl rfl (by decide) rfl rfl rfl
theorem c_run_F2a {v w : Int32} (g1 : ¬ v < 0) (g2 : ¬ 2 < v) (h1 : w < 0) : am_rn (d + 2) 135 [am_ref 1, .inl v, .inl w] h = some (.inr 0, h, 1, 6) := by
  refine am_q0 ?_
  refine q_iload 1 rfl rfl rfl ?_
  refine q_call1n 4 rfl (c_refWaysT g1 g2) rfl rfl rfl rfl ?_
  refine q_iload 5 rfl rfl rfl ?_
  refine q_c1 14 rfl rfl (if_pos h1) ?_
  exact q_fin rfl rfl rfl
theorem c_run_F2b {v w : Int32} (g1 : ¬ v < 0) (g2 : ¬ 2 < v) (h1 : ¬ w < 0) (h2 : 60 < w) : am_rn (d + 2) 135 [am_ref 1, .inl v, .inl w] h = some (.inr 0, h, 1, 6) := by
  refine am_q0 ?_
  refine q_iload 1 rfl rfl rfl ?_
  refine q_call1n 4 rfl (c_refWaysT g1 g2) rfl rfl rfl rfl ?_
  refine q_iload 5 rfl rfl rfl ?_
  refine q_c1 8 rfl rfl (if_neg h1) ?_
  refine q_iload 9 rfl rfl rfl ?_
  refine q_push 11 rfl rfl ?_
  refine q_c2 14 rfl rfl (if_neg (am_nle h2)) ?_
  exact q_fin rfl rfl rfl
theorem c_run_F2 {v w : Int32} (g1 : ¬ v < 0) (g2 : ¬ 2 < v) (hv : w < 0 ∨ 60 < w) : am_rn (d + 2) 135 [am_ref 1, .inl v, .inl w] h = some (.inr 0, h, 1, 6) := by
  by_cases h1 : w < 0
  · exact c_run_F2a g1 g2 h1
  · exact c_run_F2b g1 g2 h1 (hv.resolve_left h1)
theorem c_count_Fa {v : Int32} (h1 : v < 0) : am_rn (d + 1) 136 [am_ref 1, .inl v] h = some (.inr 1, h, 1, 6) := by
  refine am_q0 ?_
  refine q_iload 1 rfl rfl rfl ?_
  refine q_push 3 rfl rfl ?_
  refine q_c2 24 rfl rfl (if_pos (Int32.lt_trans h1 (by decide))) ?_
  refine q_iload 25 rfl rfl rfl ?_
  refine q_push 26 rfl rfl ?_
  refine q_c2 46 rfl rfl (if_pos (Int32.lt_trans h1 (by decide))) ?_
  refine q_iload 47 rfl rfl rfl ?_
  refine q_c1 274 rfl rfl (am_tb_lo h1) ?_
  exact q_fin rfl rfl rfl
theorem c_count_Fb {v : Int32} (h1 : ¬ v < 0) (h2 : 23 < v) : am_rn (d + 1) 136 [am_ref 1, .inl v] h = some (.inr 1, h, 1, 6) := by
  refine am_q0 ?_
  refine q_iload 1 rfl rfl rfl ?_
  refine q_push 3 rfl rfl ?_
  refine q_c2 6 rfl rfl (if_neg (am_nlt h2 (by decide))) ?_
  refine q_iload 7 rfl rfl rfl ?_
  refine q_push 9 rfl rfl ?_
  refine q_c2 24 rfl rfl (if_pos (Int32.le_of_lt h2)) ?_
  refine q_iload 25 rfl rfl rfl ?_
  refine q_push 26 rfl rfl ?_
  refine q_c2 29 rfl rfl (if_neg (am_nlt h2 (by decide))) ?_
  refine q_iload 30 rfl rfl rfl ?_
  refine q_push 32 rfl rfl ?_
  refine q_c2 46 rfl rfl (if_pos (Int32.lt_trans (by decide) h2)) ?_
  refine q_iload 47 rfl rfl rfl ?_
  refine q_c1 274 rfl rfl (am_tb_hi h2) ?_
  exact q_fin rfl rfl rfl
theorem c_count_F {v : Int32} (hv : v < 0 ∨ 23 < v) : am_rn (d + 1) 136 [am_ref 1, .inl v] h = some (.inr 1, h, 1, 6) := by
  by_cases h1 : v < 0
  · exact c_count_Fa  h1
  · exact c_count_Fb  h1 (hv.resolve_left h1)
theorem c_has_a {v : Int32} (h1 : v < 0) : am_rn (d + 1) 13 [am_ref t, .inl v] h = some (.inl (some (.inl 0)), h, 0, 0) := by
  refine am_q0 ?_
  refine q_iload 1 rfl rfl rfl ?_
  refine q_c1 27 rfl rfl (if_pos h1) ?_
  refine q_push 28 rfl rfl ?_
  exact q_fin rfl rfl rfl
theorem c_has_b {v : Int32} (h1 : ¬ v < 0) (h2 : 400 ≤ v) : am_rn (d + 1) 13 [am_ref t, .inl v] h = some (.inl (some (.inl 0)), h, 0, 0) := by
  refine am_q0 ?_
  refine q_iload 1 rfl rfl rfl ?_
  refine q_c1 4 rfl rfl (if_neg h1) ?_
  refine q_iload 5 rfl rfl rfl ?_
  refine q_push 8 rfl rfl ?_
  refine q_c2 27 rfl rfl (if_pos h2) ?_
  refine q_push 28 rfl rfl ?_
  exact q_fin rfl rfl rfl
theorem c_node_F {v w : Int32} (hX : h[1]? = some (.inr (9, fx))) (x10 : fx[10]? = some (.inr (.inr (some t)))) (hN : h[t]? = some (.inr (1, fn))) (hh : am_rn d 13 [am_ref t, .inl v] h = some (.inl (some (.inl 0)), h, 0, 0)) : am_rn (d + 1) 137 [am_ref 1, .inl v, .inl w] h = some (.inr 1, h, 1, 6) := by
  refine am_q0 ?_
  refine q_aload 1 rfl rfl rfl ?_
  refine q_get 4 rfl hX x10 rfl ?_
  refine q_iload 5 rfl rfl rfl ?_
  refine q_call2s 8 rfl hh rfl (am_rcE hN) rfl rfl ?_
  refine q_c1 20 rfl rfl (if_pos rfl) ?_
  exact q_fin rfl rfl rfl
theorem c_node_F2a {v w : Int32} (hX : h[1]? = some (.inr (9, fx))) (x10 : fx[10]? = some (.inr (.inr (some t)))) (hN : h[t]? = some (.inr (1, fn))) (hh : am_rn d 13 [am_ref t, .inl v] h = some (.inl (some (.inl 1)), h, 0, 0)) (h1 : w < 0) : am_rn (d + 1) 137 [am_ref 1, .inl v, .inl w] h = some (.inr 1, h, 1, 6) := by
  refine am_q0 ?_
  refine q_aload 1 rfl rfl rfl ?_
  refine q_get 4 rfl hX x10 rfl ?_
  refine q_iload 5 rfl rfl rfl ?_
  refine q_call2s 8 rfl hh rfl (am_rcE hN) rfl rfl ?_
  refine q_c1 11 rfl rfl (if_neg (by decide)) ?_
  refine q_iload 12 rfl rfl rfl ?_
  refine q_c1 20 rfl rfl (if_pos h1) ?_
  exact q_fin rfl rfl rfl
theorem c_node_F2b {v w : Int32} (hX : h[1]? = some (.inr (9, fx))) (x10 : fx[10]? = some (.inr (.inr (some t)))) (hN : h[t]? = some (.inr (1, fn))) (hh : am_rn d 13 [am_ref t, .inl v] h = some (.inl (some (.inl 1)), h, 0, 0)) (h1 : ¬ w < 0) (h2 : 4 < w) : am_rn (d + 1) 137 [am_ref 1, .inl v, .inl w] h = some (.inr 1, h, 1, 6) := by
  refine am_q0 ?_
  refine q_aload 1 rfl rfl rfl ?_
  refine q_get 4 rfl hX x10 rfl ?_
  refine q_iload 5 rfl rfl rfl ?_
  refine q_call2s 8 rfl hh rfl (am_rcE hN) rfl rfl ?_
  refine q_c1 11 rfl rfl (if_neg (by decide)) ?_
  refine q_iload 12 rfl rfl rfl ?_
  refine q_c1 15 rfl rfl (if_neg h1) ?_
  refine q_iload 16 rfl rfl rfl ?_
  refine q_push 17 rfl rfl ?_
  refine q_c2 20 rfl rfl (if_neg (am_nle h2)) ?_
  exact q_fin rfl rfl rfl
theorem c_node_F2 {v w : Int32} (hX : h[1]? = some (.inr (9, fx))) (x10 : fx[10]? = some (.inr (.inr (some t)))) (hN : h[t]? = some (.inr (1, fn))) (hh : am_rn d 13 [am_ref t, .inl v] h = some (.inl (some (.inl 1)), h, 0, 0)) (hv : w < 0 ∨ 4 < w) : am_rn (d + 1) 137 [am_ref 1, .inl v, .inl w] h = some (.inr 1, h, 1, 6) := by
  by_cases h1 : w < 0
  · exact c_node_F2a hX x10 hN hh h1
  · exact c_node_F2b hX x10 hN hh h1 (hv.resolve_left h1)
theorem c_actN {v : Int32} (hN : h[t]? = some (.inr (1, fn))) (n6 : fn[6]? = some (.inl 3)) (k0 : am_rn d 26 [am_ref t, .inl 0] h = some (.inl (some (.inl 0)), h, 0, 0)) (k1 : am_rn d 26 [am_ref t, .inl 1] h = some (.inl (some (.inl 0)), h, 0, 0)) (k2 : am_rn d 26 [am_ref t, .inl 2] h = some (.inl (some (.inl 0)), h, 0, 0)) : am_rn (d + 1) 25 [am_ref t, .inl v] h = some (.inl (some (.inl (-1))), h, 0, 0) := by
  refine am_q0 ?_
  refine q_iload 1 rfl rfl rfl ?_
  refine q_istore 2 rfl rfl ?_
  refine q_push 3 rfl rfl ?_
  refine q_istore 4 rfl rfl ?_
  refine q_iload 5 rfl rfl rfl ?_
  refine q_aload 6 rfl rfl rfl ?_
  refine q_get 9 rfl hN n6 rfl ?_
  refine q_c2 12 rfl rfl (if_neg (by decide)) ?_
  refine q_aload 13 rfl rfl rfl ?_
  refine q_iload 14 rfl rfl rfl ?_
  refine q_call2s 17 rfl k0 rfl (am_rcE hN) rfl rfl ?_
  refine q_c1 29 rfl rfl (if_pos rfl) ?_
  refine q_iinc 1 32 rfl rfl (by decide) rfl ?_
  refine q_goto 4 rfl rfl ?_
  refine q_iload 5 rfl rfl rfl ?_
  refine q_aload 6 rfl rfl rfl ?_
  refine q_get 9 rfl hN n6 rfl ?_
  refine q_c2 12 rfl rfl (if_neg (by decide)) ?_
  refine q_aload 13 rfl rfl rfl ?_
  refine q_iload 14 rfl rfl rfl ?_
  refine q_call2s 17 rfl k1 rfl (am_rcE hN) rfl rfl ?_
  refine q_c1 29 rfl rfl (if_pos rfl) ?_
  refine q_iinc 2 32 rfl rfl (by decide) rfl ?_
  refine q_goto 4 rfl rfl ?_
  refine q_iload 5 rfl rfl rfl ?_
  refine q_aload 6 rfl rfl rfl ?_
  refine q_get 9 rfl hN n6 rfl ?_
  refine q_c2 12 rfl rfl (if_neg (by decide)) ?_
  refine q_aload 13 rfl rfl rfl ?_
  refine q_iload 14 rfl rfl rfl ?_
  refine q_call2s 17 rfl k2 rfl (am_rcE hN) rfl rfl ?_
  refine q_c1 29 rfl rfl (if_pos rfl) ?_
  refine q_iinc 3 32 rfl rfl (by decide) rfl ?_
  refine q_goto 4 rfl rfl ?_
  refine q_iload 5 rfl rfl rfl ?_
  refine q_aload 6 rfl rfl rfl ?_
  refine q_get 9 rfl hN n6 rfl ?_
  refine q_c2 35 rfl rfl (if_pos (by decide)) ?_
  refine q_push 36 rfl rfl ?_
  exact q_fin rfl rfl rfl
theorem c_active_a {v w : Int32} (h1 : v < 0) : am_rn (d + 1) 138 [am_ref 1, .inl v, .inl w] h = some (.inr 1, h, 1, 6) := by
  refine am_q0 ?_
  refine q_iload 1 rfl rfl rfl ?_
  refine q_c1 13 rfl rfl (if_pos h1) ?_
  refine q_push 14 rfl rfl ?_
  refine q_goto 25 rfl rfl ?_
  refine q_istore 26 rfl rfl ?_
  refine q_iload 27 rfl rfl rfl ?_
  refine q_push 28 rfl rfl ?_
  refine q_c2 31 rfl rfl (if_pos rfl) ?_
  exact q_fin rfl rfl rfl
theorem c_active_b {v w : Int32} (h1 : ¬ v < 0) (h2 : w < 0) : am_rn (d + 1) 138 [am_ref 1, .inl v, .inl w] h = some (.inr 1, h, 1, 6) := by
  refine am_q0 ?_
  refine q_iload 1 rfl rfl rfl ?_
  refine q_c1 4 rfl rfl (if_neg h1) ?_
  refine q_iload 5 rfl rfl rfl ?_
  refine q_c1 13 rfl rfl (if_pos h2) ?_
  refine q_push 14 rfl rfl ?_
  refine q_goto 25 rfl rfl ?_
  refine q_istore 26 rfl rfl ?_
  refine q_iload 27 rfl rfl rfl ?_
  refine q_push 28 rfl rfl ?_
  refine q_c2 31 rfl rfl (if_pos rfl) ?_
  exact q_fin rfl rfl rfl
theorem c_active_c {v w : Int32} (h1 : ¬ v < 0) (h2 : ¬ w < 0) (h3 : 2 < w) : am_rn (d + 1) 138 [am_ref 1, .inl v, .inl w] h = some (.inr 1, h, 1, 6) := by
  refine am_q0 ?_
  refine q_iload 1 rfl rfl rfl ?_
  refine q_c1 4 rfl rfl (if_neg h1) ?_
  refine q_iload 5 rfl rfl rfl ?_
  refine q_c1 8 rfl rfl (if_neg h2) ?_
  refine q_iload 9 rfl rfl rfl ?_
  refine q_push 10 rfl rfl ?_
  refine q_c2 13 rfl rfl (if_neg (am_nle h3)) ?_
  refine q_push 14 rfl rfl ?_
  refine q_goto 25 rfl rfl ?_
  refine q_istore 26 rfl rfl ?_
  refine q_iload 27 rfl rfl rfl ?_
  refine q_push 28 rfl rfl ?_
  refine q_c2 31 rfl rfl (if_pos rfl) ?_
  exact q_fin rfl rfl rfl
theorem c_active_d {v w : Int32} (h1 : ¬ v < 0) (h2 : ¬ w < 0) (h3 : ¬ 2 < w) (hX : h[1]? = some (.inr (9, fx))) (x10 : fx[10]? = some (.inr (.inr (some t)))) (hN : h[t]? = some (.inr (1, fn))) (hh : am_rn d 25 [am_ref t, .inl v] h = some (.inl (some (.inl (-1))), h, 0, 0)) : am_rn (d + 1) 138 [am_ref 1, .inl v, .inl w] h = some (.inr 1, h, 1, 6) := by
  refine am_q0 ?_
  refine q_iload 1 rfl rfl rfl ?_
  refine q_c1 4 rfl rfl (if_neg h1) ?_
  refine q_iload 5 rfl rfl rfl ?_
  refine q_c1 8 rfl rfl (if_neg h2) ?_
  refine q_iload 9 rfl rfl rfl ?_
  refine q_push 10 rfl rfl ?_
  refine q_c2 17 rfl rfl (if_pos (Int32.not_lt.mp h3)) ?_
  refine q_aload 18 rfl rfl rfl ?_
  refine q_get 21 rfl hX x10 rfl ?_
  refine q_iload 22 rfl rfl rfl ?_
  refine q_call2s 25 rfl hh rfl (am_rcE hN) rfl rfl ?_
  refine q_istore 26 rfl rfl ?_
  refine q_iload 27 rfl rfl rfl ?_
  refine q_push 28 rfl rfl ?_
  refine q_c2 31 rfl rfl (if_pos rfl) ?_
  exact q_fin rfl rfl rfl
theorem c_wanted_Fa {v : Int32} (h1 : v < 0) : am_rn (d + 1) 139 [am_ref 1, .inl v] h = some (.inr 1, h, 1, 6) := by
  refine am_q0 ?_
  refine q_iload 1 rfl rfl rfl ?_
  refine q_c1 9 rfl rfl (if_pos h1) ?_
  exact q_fin rfl rfl rfl
theorem c_wanted_Fb {v : Int32} (h1 : ¬ v < 0) (h2 : 2 < v) : am_rn (d + 1) 139 [am_ref 1, .inl v] h = some (.inr 1, h, 1, 6) := by
  refine am_q0 ?_
  refine q_iload 1 rfl rfl rfl ?_
  refine q_c1 4 rfl rfl (if_neg h1) ?_
  refine q_iload 5 rfl rfl rfl ?_
  refine q_push 6 rfl rfl ?_
  refine q_c2 9 rfl rfl (if_neg (am_nle h2)) ?_
  exact q_fin rfl rfl rfl
theorem c_wanted_F {v : Int32} (hv : v < 0 ∨ 2 < v) : am_rn (d + 1) 139 [am_ref 1, .inl v] h = some (.inr 1, h, 1, 6) := by
  by_cases h1 : v < 0
  · exact c_wanted_Fa  h1
  · exact c_wanted_Fb  h1 (hv.resolve_left h1)
theorem c_plain_Fa {v : Int32} (h1 : v < 0) : am_rn (d + 1) 144 [am_ref 1, .inl v] h = some (.inr 0, h, 1, 6) := by
  refine am_q0 ?_
  refine q_iload 1 rfl rfl rfl ?_
  refine q_c1 11 rfl rfl (if_pos h1) ?_
  exact q_fin rfl rfl rfl
theorem c_plain_Fb {v : Int32} (h1 : ¬ v < 0) (h2 : 200 < v) : am_rn (d + 1) 144 [am_ref 1, .inl v] h = some (.inr 0, h, 1, 6) := by
  refine am_q0 ?_
  refine q_iload 1 rfl rfl rfl ?_
  refine q_c1 4 rfl rfl (if_neg h1) ?_
  refine q_iload 5 rfl rfl rfl ?_
  refine q_push 8 rfl rfl ?_
  refine q_c2 11 rfl rfl (if_neg (am_nle h2)) ?_
  exact q_fin rfl rfl rfl
theorem c_plain_F {v : Int32} (hv : v < 0 ∨ 200 < v) : am_rn (d + 1) 144 [am_ref 1, .inl v] h = some (.inr 0, h, 1, 6) := by
  by_cases h1 : v < 0
  · exact c_plain_Fa  h1
  · exact c_plain_Fb  h1 (hv.resolve_left h1)
theorem c_termOf_F {v : Int32} (n2 : ¬ v = 2) (n0 : ¬ v = 0) (n1 : ¬ v = 1) : am_rn (d + 1) 153 [am_ref 1, .inl v] h = some (.inl (some (.inr (.inr none))), h, 0, 0) := by
  refine am_q0 ?_
  refine q_iload 1 rfl rfl rfl ?_
  refine q_push 2 rfl rfl ?_
  refine q_c2 10 rfl rfl (if_neg n2) ?_
  refine q_iload 11 rfl rfl rfl ?_
  refine q_c1 60 rfl rfl (if_neg n0) ?_
  refine q_iload 61 rfl rfl rfl ?_
  refine q_push 62 rfl rfl ?_
  refine q_c2 65 rfl rfl (if_neg n1) ?_
  refine q_push 66 rfl rfl ?_
  exact q_fin rfl rfl rfl
theorem c_part_F {v w : Int32} (n2 : ¬ v = 2) (n0 : ¬ v = 0) (n1 : ¬ v = 1) (hX : h[1]? = some (.inr (9, fx))) : am_rn (d + 2) 140 [am_ref 1, .inl v, .inl w] h = some (.inr 1, h, 1, 6) := by
  refine am_q0 ?_
  refine q_aload 1 rfl rfl rfl ?_
  refine q_iload 2 rfl rfl rfl ?_
  refine q_call2s 5 rfl (c_termOf_F n2 n0 n1) rfl (am_rcE hX) rfl rfl ?_
  refine q_astore 6 rfl rfl ?_
  refine q_aload 7 rfl rfl rfl ?_
  refine q_null 22 rfl rfl rfl ?_
  exact q_fin rfl rfl rfl
theorem c_part_F2a {v w : Int32} {h' : am_h} {c' s' : Nat} (h1 : w < 0) (hX : h[1]? = some (.inr (9, fx))) (hh : am_rn (d + 1) 153 [am_ref 1, .inl v] h = some (.inl (some (am_ref t)), h', c', s')) (hl : h'.length = h.length) : am_rn (d + 2) 140 [am_ref 1, .inl v, .inl w] h = some (.inr 1, h', 0 + c' + 1, 0 + s' + 6) := by
  refine am_q0 ?_
  refine q_aload 1 rfl rfl rfl ?_
  refine q_iload 2 rfl rfl rfl ?_
  refine q_call2s 5 rfl hh rfl (am_rcE hX) hl rfl ?_
  refine q_astore 6 rfl rfl ?_
  refine q_aload 7 rfl rfl rfl ?_
  refine q_null 10 rfl rfl rfl ?_
  refine q_iload 11 rfl rfl rfl ?_
  refine q_c1 22 rfl rfl (if_pos h1) ?_
  exact q_fin rfl rfl rfl
theorem c_part_F2b {v w : Int32} {h' : am_h} {c' s' : Nat} (h1 : ¬ w < 0) (h2 : 1 < w) (hX : h[1]? = some (.inr (9, fx))) (hh : am_rn (d + 1) 153 [am_ref 1, .inl v] h = some (.inl (some (am_ref t)), h', c', s')) (hl : h'.length = h.length) (hT : h'[t]? = some (.inr (3, ft))) (t2 : ft[2]? = some (.inl 2)) : am_rn (d + 2) 140 [am_ref 1, .inl v, .inl w] h = some (.inr 1, h', 0 + c' + 1, 0 + s' + 6) := by
  refine am_q0 ?_
  refine q_aload 1 rfl rfl rfl ?_
  refine q_iload 2 rfl rfl rfl ?_
  refine q_call2s 5 rfl hh rfl (am_rcE hX) hl rfl ?_
  refine q_astore 6 rfl rfl ?_
  refine q_aload 7 rfl rfl rfl ?_
  refine q_null 10 rfl rfl rfl ?_
  refine q_iload 11 rfl rfl rfl ?_
  refine q_c1 14 rfl rfl (if_neg h1) ?_
  refine q_iload 15 rfl rfl rfl ?_
  refine q_aload 16 rfl rfl rfl ?_
  refine q_call1s 19 rfl (c_size hT t2) rfl (am_rcE hT) rfl rfl ?_
  refine q_c2 22 rfl rfl (if_neg (am_n2 h2)) ?_
  exact q_fin rfl rfl rfl
theorem c_say_F {v : Int32} (hv : v < 0 ∨ 2 < v) : am_rn (d + 2) 141 [am_ref 1, .inl v] h = some (.inr 0, h, 1, 6) := by
  refine am_q0 ?_
  refine q_iload 1 rfl rfl rfl ?_
  exact q_callP rfl (c_refTermsF hv) rfl rfl rfl rfl (by decide) rfl rfl rfl
theorem c_redexes_F {v : Int32} (hv : v < 0 ∨ 2 < v) : am_rn (d + 2) 145 [am_ref 1, .inl v] h = some (.inr 0, h, 1, 6) := by
  refine am_q0 ?_
  refine q_iload 1 rfl rfl rfl ?_
  exact q_callP rfl (c_refTermsF hv) rfl rfl rfl rfl (by decide) rfl rfl rfl
theorem c_same_F {v w : Int32} (hv : v < 0 ∨ 2 < v) : am_rn (d + 2) 143 [am_ref 1, .inl v, .inl w] h = some (.inr 0, h, 1, 6) := by
  refine am_q0 ?_
  refine q_iload 1 rfl rfl rfl ?_
  exact q_callP rfl (c_refTermsF hv) rfl rfl rfl rfl (by decide) rfl rfl rfl
theorem c_same_F2 {v w : Int32} (h1 : ¬ v < 0) (h2 : ¬ 2 < v) (hw : w < 0 ∨ 2 < w) : am_rn (d + 2) 143 [am_ref 1, .inl v, .inl w] h = some (.inr 0, h, 1, 6) := by
  refine am_q0 ?_
  refine q_iload 1 rfl rfl rfl ?_
  refine q_call1n 4 rfl (c_refTermsT h1 h2) rfl rfl rfl rfl ?_
  refine q_iload 5 rfl rfl rfl ?_
  exact q_callP rfl (c_refTermsF hw) rfl rfl rfl rfl (by decide) rfl rfl rfl
theorem c_trial_F {v w : Int32} (hv : v < 0 ∨ 2 < v) : am_rn (d + 2) 146 [am_ref 1, .inl v, .inl w] h = some (.inr 0, h, 1, 6) := by
  refine am_q0 ?_
  refine q_iload 1 rfl rfl rfl ?_
  exact q_callP rfl (c_refWaysF hv) rfl rfl rfl rfl (by decide) rfl rfl rfl
theorem c_trial_F2a {v w : Int32} (g1 : ¬ v < 0) (g2 : ¬ 2 < v) (h1 : w < 0) : am_rn (d + 2) 146 [am_ref 1, .inl v, .inl w] h = some (.inr 1, h, 1, 6) := by
  refine am_q0 ?_
  refine q_iload 1 rfl rfl rfl ?_
  refine q_call1n 4 rfl (c_refWaysT g1 g2) rfl rfl rfl rfl ?_
  refine q_iload 5 rfl rfl rfl ?_
  refine q_c1 13 rfl rfl (if_pos h1) ?_
  exact q_fin rfl rfl rfl
theorem c_trial_F2b {v w : Int32} (g1 : ¬ v < 0) (g2 : ¬ 2 < v) (h1 : ¬ w < 0) (h2 : 3 < w) : am_rn (d + 2) 146 [am_ref 1, .inl v, .inl w] h = some (.inr 1, h, 1, 6) := by
  refine am_q0 ?_
  refine q_iload 1 rfl rfl rfl ?_
  refine q_call1n 4 rfl (c_refWaysT g1 g2) rfl rfl rfl rfl ?_
  refine q_iload 5 rfl rfl rfl ?_
  refine q_c1 8 rfl rfl (if_neg h1) ?_
  refine q_iload 9 rfl rfl rfl ?_
  refine q_push 10 rfl rfl ?_
  refine q_c2 13 rfl rfl (if_neg (am_nle h2)) ?_
  exact q_fin rfl rfl rfl
theorem c_trial_F2 {v w : Int32} (g1 : ¬ v < 0) (g2 : ¬ 2 < v) (hv : w < 0 ∨ 3 < w) : am_rn (d + 2) 146 [am_ref 1, .inl v, .inl w] h = some (.inr 1, h, 1, 6) := by
  by_cases h1 : w < 0
  · exact c_trial_F2a g1 g2 h1
  · exact c_trial_F2b g1 g2 h1 (hv.resolve_left h1)
theorem c_sign_a {v : Int32} (h1 : v < 0) : am_rn (d + 2) 77 [am_ref t, .inl v] h = some (.inl (some (.inl (-1))), h, 0, 0) := by
  refine am_q0 ?_
  refine q_iload 1 rfl rfl rfl ?_
  refine q_c1 26 rfl rfl (if_pos h1) ?_
  refine q_push 27 rfl rfl ?_
  exact q_fin rfl rfl rfl
theorem c_sign_b {v : Int32} {r : Nat} {fy : List am_v} (h1 : ¬ v < 0) (hY : h[t]? = some (.inr (5, fy))) (y0 : fy[0]? = some (.inr (.inr (some r)))) (hT : h[r]? = some (.inr (3, ft))) (t2 : ft[2]? = some (.inl 0)) : am_rn (d + 2) 77 [am_ref t, .inl v] h = some (.inl (some (.inl (-1))), h, 0, 0) := by
  refine am_q0 ?_
  refine q_iload 1 rfl rfl rfl ?_
  refine q_c1 4 rfl rfl (if_neg h1) ?_
  refine q_iload 5 rfl rfl rfl ?_
  refine q_aload 6 rfl rfl rfl ?_
  refine q_get 9 rfl hY y0 rfl ?_
  refine q_call1s 12 rfl (c_size hT t2) rfl (am_rcE hT) rfl rfl ?_
  refine q_c2 26 rfl rfl (if_pos (Int32.not_lt.mp h1)) ?_
  refine q_push 27 rfl rfl ?_
  exact q_fin rfl rfl rfl
theorem c_said {v : Int32} {fy : List am_v} (hX : h[1]? = some (.inr (9, fx))) (x4 : fx[4]? = some (.inr (.inr (some t)))) (hY : h[t]? = some (.inr (5, fy))) (hh : am_rn d 77 [am_ref t, .inl v] h = some (.inl (some (.inl (-1))), h, 0, 0)) : am_rn (d + 1) 142 [am_ref 1, .inl v] h = some (.inl (some (.inl (-1))), h, 0, 0) := by
  refine am_q0 ?_
  refine q_aload 1 rfl rfl rfl ?_
  refine q_get 4 rfl hX x4 rfl ?_
  refine q_iload 5 rfl rfl rfl ?_
  refine q_call2s 8 rfl hh rfl (am_rcE hY) rfl rfl ?_
  exact q_fin rfl rfl rfl
end AMK
section AMH
variable {d o : Nat} {h h' : am_h} {c' s' : Nat} {fx : List am_v}
theorem l_tell_0 {v : Int32} (hX : h[1]? = some (.inr (9, fx))) (hh : am_rn d 131 [am_ref 1, .inl v] h = some (.inr 0, h', c', s')) (hl : h'.length = h.length) : am_rn (d + 1) 267 [am_ref 1, .inl v, am_ref o] h = some (.inl (some (.inl 1)), h', 0 + c', 0 + s') := by
  refine am_q0 ?_
  refine q_aload 1 rfl rfl rfl ?_
  refine q_push 2 rfl rfl ?_
  refine q_aload 3 rfl rfl rfl ?_
  refine q_iload 4 rfl rfl rfl ?_
  refine q_callT 13 rfl hh rfl rfl (am_rcE hX) hl (by decide) rfl rfl ?_
  refine q_push 14 rfl rfl ?_
  exact q_fin rfl rfl rfl
theorem l_step_0 {v : Int32} (hX : h[1]? = some (.inr (9, fx))) (hh : am_rn d 134 [am_ref 1, .inl v] h = some (.inr 0, h', c', s')) (hl : h'.length = h.length) : am_rn (d + 1) 268 [am_ref 1, .inl v, am_ref o] h = some (.inl (some (.inl 1)), h', 0 + c', 0 + s') := by
  refine am_q0 ?_
  refine q_aload 1 rfl rfl rfl ?_
  refine q_push 2 rfl rfl ?_
  refine q_aload 3 rfl rfl rfl ?_
  refine q_iload 4 rfl rfl rfl ?_
  refine q_callT 13 rfl hh rfl rfl (am_rcE hX) hl (by decide) rfl rfl ?_
  refine q_push 14 rfl rfl ?_
  exact q_fin rfl rfl rfl
theorem l_run_0 {v w : Int32} (hX : h[1]? = some (.inr (9, fx))) (hh : am_rn d 135 [am_ref 1, .inl v, .inl w] h = some (.inr 0, h', c', s')) (hl : h'.length = h.length) : am_rn (d + 1) 269 [am_ref 1, .inl v, .inl w, am_ref o] h = some (.inl (some (.inl 1)), h', 0 + c', 0 + s') := by
  refine am_q0 ?_
  refine q_aload 1 rfl rfl rfl ?_
  refine q_push 2 rfl rfl ?_
  refine q_aload 3 rfl rfl rfl ?_
  refine q_iload 4 rfl rfl rfl ?_
  refine q_iload 5 rfl rfl rfl ?_
  refine q_callT 15 rfl hh rfl rfl (am_rcE hX) hl (by decide) rfl rfl ?_
  refine q_push 16 rfl rfl ?_
  exact q_fin rfl rfl rfl
theorem l_count_1 {v : Int32} (hX : h[1]? = some (.inr (9, fx))) (hh : am_rn d 136 [am_ref 1, .inl v] h = some (.inr 1, h', c', s')) (hl : h'.length = h.length) : am_rn (d + 1) 270 [am_ref 1, .inl v, am_ref o] h = some (.inl (some (.inl 1)), h', 0 + c', 0 + s') := by
  refine am_q0 ?_
  refine q_aload 1 rfl rfl rfl ?_
  refine q_push 2 rfl rfl ?_
  refine q_aload 3 rfl rfl rfl ?_
  refine q_iload 4 rfl rfl rfl ?_
  refine q_callT 13 rfl hh rfl rfl (am_rcE hX) hl (by decide) rfl rfl ?_
  refine q_push 14 rfl rfl ?_
  exact q_fin rfl rfl rfl
theorem l_node_1 {v w : Int32} (hX : h[1]? = some (.inr (9, fx))) (hh : am_rn d 137 [am_ref 1, .inl v, .inl w] h = some (.inr 1, h', c', s')) (hl : h'.length = h.length) : am_rn (d + 1) 271 [am_ref 1, .inl v, .inl w, am_ref o] h = some (.inl (some (.inl 1)), h', 0 + c', 0 + s') := by
  refine am_q0 ?_
  refine q_aload 1 rfl rfl rfl ?_
  refine q_push 2 rfl rfl ?_
  refine q_aload 3 rfl rfl rfl ?_
  refine q_iload 4 rfl rfl rfl ?_
  refine q_iload 5 rfl rfl rfl ?_
  refine q_callT 15 rfl hh rfl rfl (am_rcE hX) hl (by decide) rfl rfl ?_
  refine q_push 16 rfl rfl ?_
  exact q_fin rfl rfl rfl
theorem l_active_1 {v w : Int32} (hX : h[1]? = some (.inr (9, fx))) (hh : am_rn d 138 [am_ref 1, .inl v, .inl w] h = some (.inr 1, h', c', s')) (hl : h'.length = h.length) : am_rn (d + 1) 272 [am_ref 1, .inl v, .inl w, am_ref o] h = some (.inl (some (.inl 1)), h', 0 + c', 0 + s') := by
  refine am_q0 ?_
  refine q_aload 1 rfl rfl rfl ?_
  refine q_push 2 rfl rfl ?_
  refine q_aload 3 rfl rfl rfl ?_
  refine q_iload 4 rfl rfl rfl ?_
  refine q_iload 5 rfl rfl rfl ?_
  refine q_callT 15 rfl hh rfl rfl (am_rcE hX) hl (by decide) rfl rfl ?_
  refine q_push 16 rfl rfl ?_
  exact q_fin rfl rfl rfl
theorem l_wanted_1 {v : Int32} (hX : h[1]? = some (.inr (9, fx))) (hh : am_rn d 139 [am_ref 1, .inl v] h = some (.inr 1, h', c', s')) (hl : h'.length = h.length) : am_rn (d + 1) 273 [am_ref 1, .inl v, am_ref o] h = some (.inl (some (.inl 1)), h', 0 + c', 0 + s') := by
  refine am_q0 ?_
  refine q_aload 1 rfl rfl rfl ?_
  refine q_push 2 rfl rfl ?_
  refine q_aload 3 rfl rfl rfl ?_
  refine q_iload 4 rfl rfl rfl ?_
  refine q_callT 13 rfl hh rfl rfl (am_rcE hX) hl (by decide) rfl rfl ?_
  refine q_push 14 rfl rfl ?_
  exact q_fin rfl rfl rfl
theorem l_part_1 {v w : Int32} (hX : h[1]? = some (.inr (9, fx))) (hh : am_rn d 140 [am_ref 1, .inl v, .inl w] h = some (.inr 1, h', c', s')) (hl : h'.length = h.length) : am_rn (d + 1) 274 [am_ref 1, .inl v, .inl w, am_ref o] h = some (.inl (some (.inl 1)), h', 0 + c', 0 + s') := by
  refine am_q0 ?_
  refine q_aload 1 rfl rfl rfl ?_
  refine q_push 2 rfl rfl ?_
  refine q_aload 3 rfl rfl rfl ?_
  refine q_iload 4 rfl rfl rfl ?_
  refine q_iload 5 rfl rfl rfl ?_
  refine q_callT 15 rfl hh rfl rfl (am_rcE hX) hl (by decide) rfl rfl ?_
  refine q_push 16 rfl rfl ?_
  exact q_fin rfl rfl rfl
theorem l_say_0 {v : Int32} (hX : h[1]? = some (.inr (9, fx))) (hh : am_rn d 141 [am_ref 1, .inl v] h = some (.inr 0, h', c', s')) (hl : h'.length = h.length) : am_rn (d + 1) 275 [am_ref 1, .inl v, am_ref o] h = some (.inl (some (.inl 1)), h', 0 + c', 0 + s') := by
  refine am_q0 ?_
  refine q_aload 1 rfl rfl rfl ?_
  refine q_push 2 rfl rfl ?_
  refine q_aload 3 rfl rfl rfl ?_
  refine q_iload 4 rfl rfl rfl ?_
  refine q_callT 13 rfl hh rfl rfl (am_rcE hX) hl (by decide) rfl rfl ?_
  refine q_push 14 rfl rfl ?_
  exact q_fin rfl rfl rfl
theorem l_same_0 {v w : Int32} (hX : h[1]? = some (.inr (9, fx))) (hh : am_rn d 143 [am_ref 1, .inl v, .inl w] h = some (.inr 0, h', c', s')) (hl : h'.length = h.length) : am_rn (d + 1) 276 [am_ref 1, .inl v, .inl w, am_ref o] h = some (.inl (some (.inl 1)), h', 0 + c', 0 + s') := by
  refine am_q0 ?_
  refine q_aload 1 rfl rfl rfl ?_
  refine q_push 2 rfl rfl ?_
  refine q_aload 3 rfl rfl rfl ?_
  refine q_iload 4 rfl rfl rfl ?_
  refine q_iload 5 rfl rfl rfl ?_
  refine q_callT 22 rfl hh rfl rfl (am_rcE hX) hl (by decide) rfl rfl ?_
  refine q_push 23 rfl rfl ?_
  exact q_fin rfl rfl rfl
theorem l_plain_0 {v : Int32} (hX : h[1]? = some (.inr (9, fx))) (hh : am_rn d 144 [am_ref 1, .inl v] h = some (.inr 0, h', c', s')) (hl : h'.length = h.length) : am_rn (d + 1) 277 [am_ref 1, .inl v, am_ref o] h = some (.inl (some (.inl 1)), h', 0 + c', 0 + s') := by
  refine am_q0 ?_
  refine q_aload 1 rfl rfl rfl ?_
  refine q_push 2 rfl rfl ?_
  refine q_aload 3 rfl rfl rfl ?_
  refine q_iload 4 rfl rfl rfl ?_
  refine q_callT 13 rfl hh rfl rfl (am_rcE hX) hl (by decide) rfl rfl ?_
  refine q_push 14 rfl rfl ?_
  exact q_fin rfl rfl rfl
theorem l_redexes_0 {v : Int32} (hX : h[1]? = some (.inr (9, fx))) (hh : am_rn d 145 [am_ref 1, .inl v] h = some (.inr 0, h', c', s')) (hl : h'.length = h.length) : am_rn (d + 1) 278 [am_ref 1, .inl v, am_ref o] h = some (.inl (some (.inl 1)), h', 0 + c', 0 + s') := by
  refine am_q0 ?_
  refine q_aload 1 rfl rfl rfl ?_
  refine q_push 2 rfl rfl ?_
  refine q_aload 3 rfl rfl rfl ?_
  refine q_iload 4 rfl rfl rfl ?_
  refine q_callT 13 rfl hh rfl rfl (am_rcE hX) hl (by decide) rfl rfl ?_
  refine q_push 14 rfl rfl ?_
  exact q_fin rfl rfl rfl
theorem l_trial_0 {v w : Int32} (hX : h[1]? = some (.inr (9, fx))) (hh : am_rn d 146 [am_ref 1, .inl v, .inl w] h = some (.inr 0, h', c', s')) (hl : h'.length = h.length) : am_rn (d + 1) 279 [am_ref 1, .inl v, .inl w, am_ref o] h = some (.inl (some (.inl 1)), h', 0 + c', 0 + s') := by
  refine am_q0 ?_
  refine q_aload 1 rfl rfl rfl ?_
  refine q_push 2 rfl rfl ?_
  refine q_aload 3 rfl rfl rfl ?_
  refine q_iload 4 rfl rfl rfl ?_
  refine q_iload 5 rfl rfl rfl ?_
  refine q_callT 15 rfl hh rfl rfl (am_rcE hX) hl (by decide) rfl rfl ?_
  refine q_push 16 rfl rfl ?_
  exact q_fin rfl rfl rfl
theorem l_trial_1 {v w : Int32} (hX : h[1]? = some (.inr (9, fx))) (hh : am_rn d 146 [am_ref 1, .inl v, .inl w] h = some (.inr 1, h', c', s')) (hl : h'.length = h.length) : am_rn (d + 1) 279 [am_ref 1, .inl v, .inl w, am_ref o] h = some (.inl (some (.inl 2)), h', 0 + c', 0 + s') := by
  refine am_q0 ?_
  refine q_aload 1 rfl rfl rfl ?_
  refine q_push 2 rfl rfl ?_
  refine q_aload 3 rfl rfl rfl ?_
  refine q_iload 4 rfl rfl rfl ?_
  refine q_iload 5 rfl rfl rfl ?_
  refine q_callT 19 rfl hh rfl rfl (am_rcE hX) hl (by decide) rfl rfl ?_
  refine q_push 20 rfl rfl ?_
  exact q_fin rfl rfl rfl
end AMH
