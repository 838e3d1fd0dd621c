/-! a row is filled: what it holds then, told at once -/
section FL
variable {h : am_h} {r a cap n K : Nat} {mo d v nn : Int32} {L0 : List Int32} {D : Nat} {Q : am_r → Prop}
theorem fl_up : ∀ (k : Nat) (L : List Int32), am_up d (List.replicate k v ++ L) k v = List.replicate (k + 1) v ++ L.drop 1
  | 0, [] => rfl
  | 0, _ :: _ => rfl
  | k + 1, L => by
    have h1 := fl_up k L
    rw [List.replicate_succ, List.cons_append, List.replicate_succ, List.cons_append]
    show v :: am_up d (List.replicate k v ++ L) k v = _
    rw [h1]
def fh (h : am_h) (r a : Nat) (mo : Int32) (cap : Nat) (d v : Int32) (L0 : List Int32) (k : Nat) : am_h := (h.set r (.inr (3, [.inl mo, .inr (.inr (some a)), .inl (Int32.ofNat k)]))).set a (.inl (.inl (cap, d, List.replicate k v ++ L0.drop k)))
theorem fh_r (hr : r < h.length) (hra : r ≠ a) (k : Nat) : (fh h r a mo cap d v L0 k)[r]? = some (.inr (3, [.inl mo, .inr (.inr (some a)), .inl (Int32.ofNat k)])) := by
  unfold fh
  rw [List.getElem?_set_ne (fun z => hra z.symm), List.getElem?_set_self hr]
theorem fh_a (ha : a < h.length) (k : Nat) : (fh h r a mo cap d v L0 k)[a]? = some (.inl (.inl (cap, d, List.replicate k v ++ L0.drop k))) := by
  unfold fh
  rw [List.getElem?_set_self (by rw [List.length_set]; exact ha)]
theorem fh_s (hra : r ≠ a) (k : Nat) : ((fh h r a mo cap d v L0 k).set a (.inl (.inl (cap, d, List.replicate (k + 1) v ++ L0.drop (k + 1))))).set r (.inr (3, [.inl mo, .inr (.inr (some a)), .inl (Int32.ofNat (k + 1))])) = fh h r a mo cap d v L0 (k + 1) := by
  unfold fh
  rw [List.set_set, List.set_comm _ _ (fun z => hra z.symm), List.set_set]
theorem fl_loop (hr : r < h.length) (ha : a < h.length) (ha0 : a ≠ 0) (hra : r ≠ a) (hn : nn.toInt = n) (hK : K ≤ n ∧ K ≤ cap ∧ (K = n ∨ K = cap)) (hc : cap < 2147483648) (hQ : Q (.inl none, fh h r a mo cap d v L0 K, 0, 0)) : ∀ (m k : Nat) {lv : am_l}, m + k = K → am_get lv 0 = some (.inr (.inr (some r))) → am_get lv 1 = some (.inl nn) → am_get lv 2 = some (.inl v) → am_get lv 3 = some (.inl (Int32.ofNat k)) → am_Ok am_G D 57 (7, lv, [], fh h r a mo cap d v L0 k, 0, 0) Q := by
  intro m
  induction m with
  | zero =>
    intro k lv hk g0 g1 g2 g3
    have ek : k = K := by omega
    subst ek
    have e1 : (Int32.ofNat k).toInt = (k : Int) := iv_n _ (by omega)
    refine k_iload 8 rfl g3 rfl ?_
    refine k_iload 9 rfl g1 rfl ?_
    by_cases b : nn ≤ Int32.ofNat k
    · refine k_c2 41 rfl rfl (if_pos b) ?_
      exact k_fin rfl rfl hQ
    · have b2 := mt iv_le.mpr b
      refine k_c2 12 rfl rfl (if_neg b) ?_
      refine k_iload 13 rfl g3 rfl ?_
      refine k_aload 14 rfl g0 rfl ?_
      refine k_get 17 rfl (fh_r hr hra k) rfl rfl ?_
      refine k_alen 18 rfl ha0 (fh_a ha k) rfl ?_
      refine k_c2 41 rfl rfl (if_pos (show Int32.ofNat cap ≤ Int32.ofNat k from iv_le.mpr (by rw [iv_n cap hc]; omega))) ?_
      exact k_fin rfl rfl hQ
  | succ m ih =>
    intro k lv hk g0 g1 g2 g3
    have e1 : (Int32.ofNat k).toInt = (k : Int) := iv_n _ (by omega)
    have e2 : Int32.ofNat k + 1 = Int32.ofNat (k + 1) := by
      rw [iv_eq, iv_add (by rw [e1, iv_1]; omega) (by rw [e1, iv_1]; omega), e1, iv_1, iv_n (k + 1) (by omega)]
      omega
    refine k_iload 8 rfl g3 rfl ?_
    refine k_iload 9 rfl g1 rfl ?_
    refine k_c2 12 rfl rfl (if_neg (show ¬ nn ≤ Int32.ofNat k from fun z => by have := iv_le.mp z; omega)) ?_
    refine k_iload 13 rfl g3 rfl ?_
    refine k_aload 14 rfl g0 rfl ?_
    refine k_get 17 rfl (fh_r hr hra k) rfl rfl ?_
    refine k_alen 18 rfl ha0 (fh_a ha k) rfl ?_
    refine k_c2 21 rfl rfl (if_neg (show ¬ Int32.ofNat cap ≤ Int32.ofNat k from fun z => by have := iv_le.mp z; rw [iv_n cap hc] at this; omega)) ?_
    refine k_aload 22 rfl g0 rfl ?_
    refine k_get 25 rfl (fh_r hr hra k) rfl rfl ?_
    refine k_iload 26 rfl g3 rfl ?_
    refine k_iload 27 rfl g2 rfl ?_
    have hcl : (Int32.ofNat k).toNatClampNeg = k := by rw [iv_cl]; omega
    refine k_iast 28 rfl ha0 (fh_a ha k) (iv_nn (by omega)) (show (Int32.ofNat k).toNatClampNeg < cap by omega) rfl ?_
    rw [hcl]
    show am_Ok am_G D 57 (28, lv, [], (fh h r a mo cap d v L0 k).set a (.inl (.inl (cap, d, am_up d (List.replicate k v ++ L0.drop k) k v))), 0, 0) Q
    rw [fl_up, List.drop_drop]
    refine k_aload 29 rfl g0 rfl ?_
    refine k_iload 30 rfl g3 rfl ?_
    refine k_push 31 rfl rfl ?_
    refine k_bin (Int32.ofNat (k + 1)) 32 rfl e2 rfl ?_
    refine k_put (fs := [.inl mo, .inr (.inr (some a)), .inl (Int32.ofNat k)]) 35 rfl (show ((fh h r a mo cap d v L0 k).set a _)[r]? = _ by rw [List.getElem?_set_ne (fun z => hra z.symm)]; exact fh_r hr hra k) rfl (show 2 < 3 by decide) rfl ?_
    refine k_iinc (Int32.ofNat (k + 1)) 38 rfl g3 e2 rfl ?_
    refine k_goto 7 rfl rfl ?_
    show am_Ok am_G D 57 (7, _, [], ((fh h r a mo cap d v L0 k).set a (.inl (.inl (cap, d, List.replicate (k + 1) v ++ L0.drop (k + 1))))).set r (.inr (3, [.inl mo, .inr (.inr (some a)), .inl (Int32.ofNat (k + 1))])), 0, 0) Q
    rw [fh_s hra]
    exact ih (k + 1) (by omega) (gs_ne rfl rfl g0) (gs_ne rfl rfl g1) (gs_ne rfl rfl g2) gs_eq
/-- Row.fill, exactly -/
theorem fl_fill {z : Int32} (e1 : h[r]? = some (.inr (3, [.inl mo, .inr (.inr (some a)), .inl z]))) (e2 : h[a]? = some (.inl (.inl (cap, d, L0)))) (ha0 : a ≠ 0) (hra : r ≠ a) (hn : nn.toInt = n) (hK : K ≤ n ∧ K ≤ cap ∧ (K = n ∨ K = cap)) (hc : cap < 2147483648) : am_Mt 1 57 [.inr (.inr (some r)), .inl nn, .inl v] h (fun q => q = (.inl none, fh h r a mo cap d v L0 K, 0, 0)) := by
  refine am_Mt.of (D := 0) ?_
  refine k_aload 1 rfl rfl rfl ?_
  refine k_push 2 rfl rfl ?_
  refine k_put 5 rfl e1 rfl (show 2 < 3 by decide) rfl ?_
  refine k_push 6 rfl rfl ?_
  refine k_istore 7 rfl rfl ?_
  have hr : r < h.length := (List.getElem?_eq_some_iff.mp e1).1
  have ha : a < h.length := (List.getElem?_eq_some_iff.mp e2).1
  have e3 : h.set r (.inr (3, [.inl mo, .inr (.inr (some a)), .inl 0])) = fh h r a mo cap d v L0 0 := by
    unfold fh
    have e4 : (h.set r (.inr (3, [.inl mo, .inr (.inr (some a)), .inl (Int32.ofNat 0)])))[a]? = some (.inl (.inl (cap, d, List.replicate 0 v ++ L0.drop 0))) := by
      rw [List.getElem?_set_ne hra]
      exact e2
    exact (am_put_id e4).symm
  show am_Ok am_G 0 57 (7, _, [], h.set r (.inr (3, [.inl mo, .inr (.inr (some a)), .inl 0])), 0, 0) _
  rw [e3]
  have k0 : am_get (am_args 0 [.inr (.inr (some r)), .inl nn, .inl v]) 0 = some (.inr (.inr (some r))) := rfl
  have k1 : am_get (am_args 0 [.inr (.inr (some r)), .inl nn, .inl v]) 1 = some (.inl nn) := rfl
  have k2 : am_get (am_args 0 [.inr (.inr (some r)), .inl nn, .inl v]) 2 = some (.inl v) := rfl
  exact fl_loop (Q := fun q => q = (.inl none, fh h r a mo cap d v L0 K, 0, 0)) hr ha ha0 hra hn hK hc rfl K 0 (by omega) (gs_ne rfl rfl k0) (gs_ne rfl rfl k1) (gs_ne rfl rfl k2) gs_eq
end FL
