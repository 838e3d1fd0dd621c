/-! feed: five numbers, which are only stored (laid by gen/feed_spec.py) -/
section AMQ2
variable {J : Nat → am_i} {X : am_t} {G : Nat → Nat → Option am_n} {run : Nat → List am_v → am_h → Option am_r} {j : Nat} {n pc c s : Nat} {lv : am_l} {st : List am_v} {h : am_h} {R : Option (am_r ⊕ am_s)}
theorem q_putE {ci k i : Nat} {ok : am_v → Bool} {fs : List am_v} {v : am_v} (h' : am_h) (q : Nat) (hg : G j pc = some (.inl (ai_put ci k ok))) (h1 : h[i]? = some (.inr (ci, fs))) (h2 : ok v = true) (h3 : k < fs.length) (he : h.set i (.inr (ci, fs.set k v)) = h') (hp : pc + 3 = q) (H : am_it J X G run j none n (q, lv, st, h', c, s) = R) : am_it J X G run j none (n + 1) (pc, lv, v :: .inr (.inr (some i)) :: st, h, c, s) = R := by
  subst he
  exact q_put q hg h1 h2 h3 hp H
theorem am_fl1 {τ : Type} {l : List τ} {k : Nat} {v : τ} (h : l[k]? = some v) : k < l.length := (List.getElem?_eq_some_iff.mp h).1
theorem am_nlt80 {a b : Nat} (h : a < b) (hb : b < 2 ^ 31) : nI a < nI b := Int32.not_le.mp (nI_ge h hb)
end AMQ2
section AMFD
variable {d : Nat} {h : am_h} {t a : Nat} {fx ft : List am_v} {dd : Int32}
/-- a row of 80 numbers that grows, at s numbers -/
def am_hF (h : am_h) (t a : Nat) (ft : List am_v) (dd : Int32) (s : Nat) (xs : List Int32) : am_h := (h.set a (.inl (.inl (80, dd, xs)))).set t (.inr (3, ft.set 2 (.inl (nI s))))
theorem am_hF_len {s : Nat} {xs : List Int32} : (am_hF h t a ft dd s xs).length = h.length := by
  unfold am_hF
  rw [List.length_set, List.length_set]
theorem am_hF_len2 {s s2 : Nat} {xs xs2 : List Int32} : (am_hF h t a ft dd s xs).length = (am_hF h t a ft dd s2 xs2).length := am_hF_len.trans am_hF_len.symm
theorem am_hF_t {s : Nat} {xs : List Int32} (ht : t < h.length) : (am_hF h t a ft dd s xs)[t]? = some (.inr (3, ft.set 2 (.inl (nI s)))) := List.getElem?_set_self (by rw [List.length_set]; exact ht)
theorem am_hF_a {s : Nat} {xs : List Int32} (hne : t ≠ a) (ha : a < h.length) : (am_hF h t a ft dd s xs)[a]? = some (.inl (.inl (80, dd, xs))) := by
  unfold am_hF
  rw [List.getElem?_set_ne hne, List.getElem?_set_self ha]
theorem am_hF_o {s i : Nat} {xs : List Int32} (h1 : t ≠ i) (h2 : a ≠ i) : (am_hF h t a ft dd s xs)[i]? = h[i]? := by
  unfold am_hF
  rw [List.getElem?_set_ne h1, List.getElem?_set_ne h2]
theorem am_hF_step {s : Nat} {xs ys : List Int32} (hne : t ≠ a) : ((am_hF h t a ft dd s xs).set a (.inl (.inl (80, dd, ys)))).set t (.inr (3, (ft.set 2 (.inl (nI s))).set 2 (.inl (nI (s + 1))))) = am_hF h t a ft dd (s + 1) ys := by
  unfold am_hF
  rw [List.set_comm _ _ hne, List.set_set, List.set_set, List.set_set]
theorem am_hF_0 {xs : List Int32} (hT : h[t]? = some (.inr (3, ft))) (t2 : ft[2]? = some (.inl (nI 0))) (ha : h[a]? = some (.inl (.inl (80, dd, xs)))) : am_hF h t a ft dd 0 xs = h := by
  unfold am_hF
  rw [am_put_id ha, am_put_id t2, am_put_id hT]
theorem am_s2 {k : Nat} {v w : am_v} (hk : k ≠ 2) (h : ft[k]? = some w) : (ft.set 2 v)[k]? = some w := by
  rw [List.getElem?_set_ne (fun e => hk e.symm)]
  exact h
theorem f_add {s : Nat} {xs : List Int32} {v : Int32} (hs : s < 80) (hne : t ≠ a) (ht : t < h.length) (ha : a < h.length) (ha0 : a ≠ 0) (t0 : ft[0]? = some (.inl 700)) (t1 : ft[1]? = some (.inr (.inr (some a)))) (t2 : ft[2]? = some (.inl (nI 0))) : am_rn (d + 1) 52 [am_ref t, .inl v] (am_hF h t a ft dd s xs) = some (.inl (some (.inl 1)), am_hF h t a ft dd (s + 1) (am_up dd xs s v), 0, 0) := by
  refine am_q0 ?_
  refine q_aload 1 rfl rfl rfl ?_
  refine q_get 4 rfl (am_hF_t ht) (List.getElem?_set_self (am_fl1 t2)) rfl ?_
  refine q_aload 5 rfl rfl rfl ?_
  refine q_get 8 rfl (am_hF_t ht) (am_s2 (by decide) t0) rfl ?_
  refine q_c2 13 rfl rfl (if_pos (am_nlt80 (b := 700) (by omega) (by decide))) ?_
  refine q_aload 14 rfl rfl rfl ?_
  refine q_get 17 rfl (am_hF_t ht) (List.getElem?_set_self (am_fl1 t2)) rfl ?_
  refine q_aload 18 rfl rfl rfl ?_
  refine q_get 21 rfl (am_hF_t ht) (am_s2 (by decide) t1) rfl ?_
  refine q_alen 22 rfl ha0 (am_hF_a hne ha) rfl ?_
  refine q_c2 50 rfl rfl (if_pos (am_nlt80 (b := 80) hs (by decide))) ?_
  refine q_aload 51 rfl rfl rfl ?_
  refine q_get 54 rfl (am_hF_t ht) (am_s2 (by decide) t1) rfl ?_
  refine q_aload 55 rfl rfl rfl ?_
  refine q_get 58 rfl (am_hF_t ht) (List.getElem?_set_self (am_fl1 t2)) rfl ?_
  refine q_iload 59 rfl rfl rfl ?_
  refine q_iast 60 rfl ha0 (am_hF_a hne ha) (nI_pos (by omega)) (by rw [nI_clamp (by omega)]; exact hs) rfl ?_
  rw [nI_clamp (show s < 2 ^ 31 by omega)]
  refine q_aload 61 rfl rfl rfl ?_
  refine q_dup 62 rfl rfl rfl ?_
  refine q_get 65 rfl (by rw [List.getElem?_set_ne (fun e => hne e.symm)]; exact am_hF_t ht) (List.getElem?_set_self (am_fl1 t2)) rfl ?_
  refine q_push 66 rfl rfl ?_
  refine q_bin (nI (s + 1)) 67 rfl (nI_1 s) rfl ?_
  refine q_putE (am_hF h t a ft dd (s + 1) (am_up dd xs s v)) 70 rfl (by rw [List.getElem?_set_ne (fun e => hne e.symm)]; exact am_hF_t ht) rfl (by rw [List.length_set]; exact am_fl1 t2) (am_hF_step hne) rfl ?_
  refine q_push 71 rfl rfl ?_
  exact q_fin rfl rfl rfl
def am_b0 (v : Int32) : Int32 := (v.toUInt32 >>> ((24 : Int32).toUInt32 &&& Int32.toUInt32 31)).toInt32
def am_b1 (v : Int32) : Int32 := (v.toUInt32 >>> ((16 : Int32).toUInt32 &&& Int32.toUInt32 31)).toInt32
def am_b2 (v : Int32) : Int32 := (v.toUInt32 >>> ((8 : Int32).toUInt32 &&& Int32.toUInt32 31)).toInt32
def am_w4 (dd : Int32) (xs : List Int32) (s : Nat) (v : Int32) : List Int32 := am_up dd (am_up dd (am_up dd (am_up dd xs s (am_b0 v)) (s + 1) (am_b1 v &&& 255)) (s + 2) (am_b2 v &&& 255)) (s + 3) (v &&& 255)
theorem f_num {s : Nat} {xs : List Int32} {v : Int32} (hs : s + 4 ≤ 80) (hne : t ≠ a) (ht : t < h.length) (ha : a < h.length) (ha0 : a ≠ 0) (t0 : ft[0]? = some (.inl 700)) (t1 : ft[1]? = some (.inr (.inr (some a)))) (t2 : ft[2]? = some (.inl (nI 0))) (hX : h[1]? = some (.inr (9, fx))) (x0 : fx[0]? = some (.inr (.inr (some t)))) (g1 : t ≠ 1) (g2 : a ≠ 1) : am_rn (d + 2) 147 [am_ref 1, .inl v] (am_hF h t a ft dd s xs) = some (.inl none, am_hF h t a ft dd (s + 4) (am_w4 dd xs s v), 0, 0) := by
  refine am_q0 ?_
  refine q_aload 1 rfl rfl rfl ?_
  refine q_get 4 rfl ((am_hF_o g1 g2).trans hX) x0 rfl ?_
  refine q_iload 5 rfl rfl rfl ?_
  refine q_push 7 rfl rfl ?_
  refine q_bin (am_b0 v) 8 rfl rfl rfl ?_
  refine q_call2s 11 rfl (f_add (s := s) (by omega) hne ht ha ha0 t0 t1 t2) rfl (am_rcE (am_hF_t ht)) am_hF_len2 rfl ?_
  refine q_pop 12 rfl rfl rfl ?_
  refine q_aload 13 rfl rfl rfl ?_
  refine q_get 16 rfl ((am_hF_o g1 g2).trans hX) x0 rfl ?_
  refine q_iload 17 rfl rfl rfl ?_
  refine q_push 19 rfl rfl ?_
  refine q_bin (am_b1 v) 20 rfl rfl rfl ?_
  refine q_push 23 rfl rfl ?_
  refine q_bin (am_b1 v &&& 255) 24 rfl rfl rfl ?_
  refine q_call2s 27 rfl (f_add (s := s + 1) (by omega) hne ht ha ha0 t0 t1 t2) rfl (am_rcE (am_hF_t ht)) am_hF_len2 rfl ?_
  refine q_pop 28 rfl rfl rfl ?_
  refine q_aload 29 rfl rfl rfl ?_
  refine q_get 32 rfl ((am_hF_o g1 g2).trans hX) x0 rfl ?_
  refine q_iload 33 rfl rfl rfl ?_
  refine q_push 35 rfl rfl ?_
  refine q_bin (am_b2 v) 36 rfl rfl rfl ?_
  refine q_push 39 rfl rfl ?_
  refine q_bin (am_b2 v &&& 255) 40 rfl rfl rfl ?_
  refine q_call2s 43 rfl (f_add (s := s + 2) (by omega) hne ht ha ha0 t0 t1 t2) rfl (am_rcE (am_hF_t ht)) am_hF_len2 rfl ?_
  refine q_pop 44 rfl rfl rfl ?_
  refine q_aload 45 rfl rfl rfl ?_
  refine q_get 48 rfl ((am_hF_o g1 g2).trans hX) x0 rfl ?_
  refine q_iload 49 rfl rfl rfl ?_
  refine q_push 52 rfl rfl ?_
  refine q_bin (v &&& 255) 53 rfl rfl rfl ?_
  refine q_call2s 56 rfl (f_add (s := s + 3) (by omega) hne ht ha ha0 t0 t1 t2) rfl (am_rcE (am_hF_t ht)) am_hF_len2 rfl ?_
  refine q_pop 57 rfl rfl rfl ?_
  exact q_fin rfl rfl rfl
theorem f_feed {xs : List Int32} {v1 v2 v3 v4 v5 : Int32} (hne : t ≠ a) (ht : t < h.length) (ha : a < h.length) (ha0 : a ≠ 0) (t0 : ft[0]? = some (.inl 700)) (t1 : ft[1]? = some (.inr (.inr (some a)))) (t2 : ft[2]? = some (.inl (nI 0))) (hX : h[1]? = some (.inr (9, fx))) (x0 : fx[0]? = some (.inr (.inr (some t)))) (g1 : t ≠ 1) (g2 : a ≠ 1) : am_rn (d + 3) 130 [am_ref 1, .inl v1, .inl v2, .inl v3, .inl v4, .inl v5] (am_hF h t a ft dd 0 xs) = some (.inl (some (.inl 20)), am_hF h t a ft dd 20 (am_w4 dd (am_w4 dd (am_w4 dd (am_w4 dd (am_w4 dd xs 0 v1) 4 v2) 8 v3) 12 v4) 16 v5), 0, 0) := by
  refine am_q0 ?_
  refine q_aload 1 rfl rfl rfl ?_
  refine q_get 4 rfl ((am_hF_o g1 g2).trans hX) x0 rfl ?_
  refine q_call1s 7 rfl (c_size (z := nI 0) (am_hF_t ht) (List.getElem?_set_self (am_fl1 t2))) rfl (am_rcE (am_hF_t ht)) rfl rfl ?_
  refine q_push 9 rfl rfl ?_
  refine q_bin 20 10 rfl (by decide) rfl ?_
  refine q_push 13 rfl rfl ?_
  refine q_c2 18 rfl rfl (if_pos (by decide)) ?_
  refine q_aload 19 rfl rfl rfl ?_
  refine q_iload 20 rfl rfl rfl ?_
  refine q_call2n 23 rfl (f_num (s := 0) (by decide) hne ht ha ha0 t0 t1 t2 hX x0 g1 g2) rfl (am_rcE ((am_hF_o g1 g2).trans hX)) am_hF_len2 rfl ?_
  refine q_aload 24 rfl rfl rfl ?_
  refine q_iload 25 rfl rfl rfl ?_
  refine q_call2n 28 rfl (f_num (s := 4) (by decide) hne ht ha ha0 t0 t1 t2 hX x0 g1 g2) rfl (am_rcE ((am_hF_o g1 g2).trans hX)) am_hF_len2 rfl ?_
  refine q_aload 29 rfl rfl rfl ?_
  refine q_iload 30 rfl rfl rfl ?_
  refine q_call2n 33 rfl (f_num (s := 8) (by decide) hne ht ha ha0 t0 t1 t2 hX x0 g1 g2) rfl (am_rcE ((am_hF_o g1 g2).trans hX)) am_hF_len2 rfl ?_
  refine q_aload 34 rfl rfl rfl ?_
  refine q_iload 36 rfl rfl rfl ?_
  refine q_call2n 39 rfl (f_num (s := 12) (by decide) hne ht ha ha0 t0 t1 t2 hX x0 g1 g2) rfl (am_rcE ((am_hF_o g1 g2).trans hX)) am_hF_len2 rfl ?_
  refine q_aload 40 rfl rfl rfl ?_
  refine q_iload 42 rfl rfl rfl ?_
  refine q_call2n 45 rfl (f_num (s := 16) (by decide) hne ht ha ha0 t0 t1 t2 hX x0 g1 g2) rfl (am_rcE ((am_hF_o g1 g2).trans hX)) am_hF_len2 rfl ?_
  refine q_aload 46 rfl rfl rfl ?_
  refine q_get 49 rfl ((am_hF_o g1 g2).trans hX) x0 rfl ?_
  refine q_call1s 52 rfl (c_size (z := nI 20) (am_hF_t ht) (List.getElem?_set_self (am_fl1 t2))) rfl (am_rcE (am_hF_t ht)) rfl rfl ?_
  exact q_fin rfl rfl rfl
end AMFD
section AMFR
variable {d : Nat} {h : am_h} {m a : Nat} {fm : List am_v} {dd : Int32}
/-- the reference's tape of 700 numbers, at s numbers -/
def am_hG (h : am_h) (m a : Nat) (fm : List am_v) (dd : Int32) (s : Nat) (xs : List Int32) : am_h := (h.set a (.inl (.inl (700, dd, xs)))).set m (.inr (10, fm.set 4 (.inl (nI s))))
theorem am_hG_len {s : Nat} {xs : List Int32} : (am_hG h m a fm dd s xs).length = h.length := by
  unfold am_hG
  rw [List.length_set, List.length_set]
theorem am_hG_len2 {s s2 : Nat} {xs xs2 : List Int32} : (am_hG h m a fm dd s xs).length = (am_hG h m a fm dd s2 xs2).length := am_hG_len.trans am_hG_len.symm
theorem am_hG_m {s : Nat} {xs : List Int32} (ht : m < h.length) : (am_hG h m a fm dd s xs)[m]? = some (.inr (10, fm.set 4 (.inl (nI s)))) := List.getElem?_set_self (by rw [List.length_set]; exact ht)
theorem am_hG_a {s : Nat} {xs : List Int32} (hne : m ≠ a) (ha : a < h.length) : (am_hG h m a fm dd s xs)[a]? = some (.inl (.inl (700, dd, xs))) := by
  unfold am_hG
  rw [List.getElem?_set_ne hne, List.getElem?_set_self ha]
theorem am_hG_step {s : Nat} {xs ys : List Int32} (hne : m ≠ a) : ((am_hG h m a fm dd s xs).set a (.inl (.inl (700, dd, ys)))).set m (.inr (10, (fm.set 4 (.inl (nI s))).set 4 (.inl (nI (s + 1))))) = am_hG h m a fm dd (s + 1) ys := by
  unfold am_hG
  rw [List.set_comm _ _ hne, List.set_set, List.set_set, List.set_set]
theorem am_hG_0 {xs : List Int32} (hM : h[m]? = some (.inr (10, fm))) (m4 : fm[4]? = some (.inl (nI 0))) (ha : h[a]? = some (.inl (.inl (700, dd, xs)))) : am_hG h m a fm dd 0 xs = h := by
  unfold am_hG
  rw [am_put_id ha, am_put_id m4, am_put_id hM]
theorem am_s4 {k : Nat} {v w : am_v} (hk : k ≠ 4) (h : fm[k]? = some w) : (fm.set 4 v)[k]? = some w := by
  rw [List.getElem?_set_ne (fun e => hk e.symm)]
  exact h
def am_c (v w : Int32) : Int32 := v >>> (w &&& 31)
def am_v4 (dd : Int32) (xs : List Int32) (s : Nat) (v : Int32) : List Int32 := am_up dd (am_up dd (am_up dd (am_up dd xs s (am_c v 24 &&& 255)) (s + 1) (am_c v 16 &&& 255)) (s + 2) (am_c v 8 &&& 255)) (s + 3) (am_c v 0 &&& 255)
theorem f_comes {s : Nat} {xs : List Int32} {v : Int32} (hs : s + 4 ≤ 700) (hne : m ≠ a) (ht : m < h.length) (ha : a < h.length) (ha0 : a ≠ 0) (m0 : fm[0]? = some (.inl 0)) (m3 : fm[3]? = some (.inr (.inr (some a)))) (m4 : fm[4]? = some (.inl (nI 0))) : am_rn (d + 1) 163 [am_ref m, .inl v] (am_hG h m a fm dd s xs) = some (.inl none, am_hG h m a fm dd (s + 4) (am_v4 dd xs s v), 0, 0) := by
  refine am_q0 ?_
  refine q_push 2 rfl rfl ?_
  refine q_istore 3 rfl rfl ?_
  refine q_iload 4 rfl rfl rfl ?_
  refine q_c1 7 rfl rfl (if_neg (by decide)) ?_
  refine q_aload 8 rfl rfl rfl ?_
  refine q_get 11 rfl (am_hG_m ht) (am_s4 (by decide) m3) rfl ?_
  refine q_aload 12 rfl rfl rfl ?_
  refine q_get 15 rfl (am_hG_m ht) (List.getElem?_set_self (am_fl1 m4)) rfl ?_
  refine q_iload 16 rfl rfl rfl ?_
  refine q_iload 17 rfl rfl rfl ?_
  refine q_bin (am_c v 24) 18 rfl rfl rfl ?_
  refine q_push 21 rfl rfl ?_
  refine q_bin (am_c v 24 &&& 255) 22 rfl rfl rfl ?_
  refine q_iast (xs := (700, dd, xs)) 23 rfl ha0 (am_hG_a hne ha) (nI_pos (by omega)) (by rw [nI_clamp (by omega)]; show s < 700; omega) rfl ?_
  rw [nI_clamp (show s < 2 ^ 31 by omega)]
  refine q_aload 24 rfl rfl rfl ?_
  refine q_dup 25 rfl rfl rfl ?_
  refine q_get 28 rfl (by rw [List.getElem?_set_ne (fun e => hne e.symm)]; exact am_hG_m ht) (List.getElem?_set_self (am_fl1 m4)) rfl ?_
  refine q_push 29 rfl rfl ?_
  refine q_bin (nI (s + 1)) 30 rfl (nI_1 (s)) rfl ?_
  refine q_putE (am_hG h m a fm dd (s + 1) (am_up dd xs (s) (am_c v 24 &&& 255))) 33 rfl (by rw [List.getElem?_set_ne (fun e => hne e.symm)]; exact am_hG_m ht) rfl (by rw [List.length_set]; exact am_fl1 m4) (am_hG_step hne) rfl ?_
  refine q_iinc (16) 36 rfl rfl (by decide) rfl ?_
  refine q_goto 3 rfl rfl ?_
  refine q_iload 4 rfl rfl rfl ?_
  refine q_c1 7 rfl rfl (if_neg (by decide)) ?_
  refine q_aload 8 rfl rfl rfl ?_
  refine q_get 11 rfl (am_hG_m ht) (am_s4 (by decide) m3) rfl ?_
  refine q_aload 12 rfl rfl rfl ?_
  refine q_get 15 rfl (am_hG_m ht) (List.getElem?_set_self (am_fl1 m4)) rfl ?_
  refine q_iload 16 rfl rfl rfl ?_
  refine q_iload 17 rfl rfl rfl ?_
  refine q_bin (am_c v 16) 18 rfl rfl rfl ?_
  refine q_push 21 rfl rfl ?_
  refine q_bin (am_c v 16 &&& 255) 22 rfl rfl rfl ?_
  refine q_iast (xs := (700, dd, (am_up dd xs (s) (am_c v 24 &&& 255)))) 23 rfl ha0 (am_hG_a hne ha) (nI_pos (by omega)) (by rw [nI_clamp (by omega)]; show s + 1 < 700; omega) rfl ?_
  rw [nI_clamp (show s + 1 < 2 ^ 31 by omega)]
  refine q_aload 24 rfl rfl rfl ?_
  refine q_dup 25 rfl rfl rfl ?_
  refine q_get 28 rfl (by rw [List.getElem?_set_ne (fun e => hne e.symm)]; exact am_hG_m ht) (List.getElem?_set_self (am_fl1 m4)) rfl ?_
  refine q_push 29 rfl rfl ?_
  refine q_bin (nI (s + 1 + 1)) 30 rfl (nI_1 (s + 1)) rfl ?_
  refine q_putE (am_hG h m a fm dd (s + 1 + 1) (am_up dd (am_up dd xs (s) (am_c v 24 &&& 255)) (s + 1) (am_c v 16 &&& 255))) 33 rfl (by rw [List.getElem?_set_ne (fun e => hne e.symm)]; exact am_hG_m ht) rfl (by rw [List.length_set]; exact am_fl1 m4) (am_hG_step hne) rfl ?_
  refine q_iinc (8) 36 rfl rfl (by decide) rfl ?_
  refine q_goto 3 rfl rfl ?_
  refine q_iload 4 rfl rfl rfl ?_
  refine q_c1 7 rfl rfl (if_neg (by decide)) ?_
  refine q_aload 8 rfl rfl rfl ?_
  refine q_get 11 rfl (am_hG_m ht) (am_s4 (by decide) m3) rfl ?_
  refine q_aload 12 rfl rfl rfl ?_
  refine q_get 15 rfl (am_hG_m ht) (List.getElem?_set_self (am_fl1 m4)) rfl ?_
  refine q_iload 16 rfl rfl rfl ?_
  refine q_iload 17 rfl rfl rfl ?_
  refine q_bin (am_c v 8) 18 rfl rfl rfl ?_
  refine q_push 21 rfl rfl ?_
  refine q_bin (am_c v 8 &&& 255) 22 rfl rfl rfl ?_
  refine q_iast (xs := (700, dd, (am_up dd (am_up dd xs (s) (am_c v 24 &&& 255)) (s + 1) (am_c v 16 &&& 255)))) 23 rfl ha0 (am_hG_a hne ha) (nI_pos (by omega)) (by rw [nI_clamp (by omega)]; show s + 2 < 700; omega) rfl ?_
  rw [nI_clamp (show s + 2 < 2 ^ 31 by omega)]
  refine q_aload 24 rfl rfl rfl ?_
  refine q_dup 25 rfl rfl rfl ?_
  refine q_get 28 rfl (by rw [List.getElem?_set_ne (fun e => hne e.symm)]; exact am_hG_m ht) (List.getElem?_set_self (am_fl1 m4)) rfl ?_
  refine q_push 29 rfl rfl ?_
  refine q_bin (nI (s + 2 + 1)) 30 rfl (nI_1 (s + 2)) rfl ?_
  refine q_putE (am_hG h m a fm dd (s + 2 + 1) (am_up dd (am_up dd (am_up dd xs (s) (am_c v 24 &&& 255)) (s + 1) (am_c v 16 &&& 255)) (s + 2) (am_c v 8 &&& 255))) 33 rfl (by rw [List.getElem?_set_ne (fun e => hne e.symm)]; exact am_hG_m ht) rfl (by rw [List.length_set]; exact am_fl1 m4) (am_hG_step hne) rfl ?_
  refine q_iinc (0) 36 rfl rfl (by decide) rfl ?_
  refine q_goto 3 rfl rfl ?_
  refine q_iload 4 rfl rfl rfl ?_
  refine q_c1 7 rfl rfl (if_neg (by decide)) ?_
  refine q_aload 8 rfl rfl rfl ?_
  refine q_get 11 rfl (am_hG_m ht) (am_s4 (by decide) m3) rfl ?_
  refine q_aload 12 rfl rfl rfl ?_
  refine q_get 15 rfl (am_hG_m ht) (List.getElem?_set_self (am_fl1 m4)) rfl ?_
  refine q_iload 16 rfl rfl rfl ?_
  refine q_iload 17 rfl rfl rfl ?_
  refine q_bin (am_c v 0) 18 rfl rfl rfl ?_
  refine q_push 21 rfl rfl ?_
  refine q_bin (am_c v 0 &&& 255) 22 rfl rfl rfl ?_
  refine q_iast (xs := (700, dd, (am_up dd (am_up dd (am_up dd xs (s) (am_c v 24 &&& 255)) (s + 1) (am_c v 16 &&& 255)) (s + 2) (am_c v 8 &&& 255)))) 23 rfl ha0 (am_hG_a hne ha) (nI_pos (by omega)) (by rw [nI_clamp (by omega)]; show s + 3 < 700; omega) rfl ?_
  rw [nI_clamp (show s + 3 < 2 ^ 31 by omega)]
  refine q_aload 24 rfl rfl rfl ?_
  refine q_dup 25 rfl rfl rfl ?_
  refine q_get 28 rfl (by rw [List.getElem?_set_ne (fun e => hne e.symm)]; exact am_hG_m ht) (List.getElem?_set_self (am_fl1 m4)) rfl ?_
  refine q_push 29 rfl rfl ?_
  refine q_bin (nI (s + 3 + 1)) 30 rfl (nI_1 (s + 3)) rfl ?_
  refine q_putE (am_hG h m a fm dd (s + 3 + 1) (am_up dd (am_up dd (am_up dd (am_up dd xs (s) (am_c v 24 &&& 255)) (s + 1) (am_c v 16 &&& 255)) (s + 2) (am_c v 8 &&& 255)) (s + 3) (am_c v 0 &&& 255))) 33 rfl (by rw [List.getElem?_set_ne (fun e => hne e.symm)]; exact am_hG_m ht) rfl (by rw [List.length_set]; exact am_fl1 m4) (am_hG_step hne) rfl ?_
  refine q_iinc (-8) 36 rfl rfl (by decide) rfl ?_
  refine q_goto 3 rfl rfl ?_
  refine q_iload 4 rfl rfl rfl ?_
  refine q_c1 39 rfl rfl (if_pos (by decide)) ?_
  exact q_fin rfl rfl rfl
theorem f_feedR {xs : List Int32} {v1 v2 v3 v4 v5 : Int32} (hne : m ≠ a) (ht : m < h.length) (ha : a < h.length) (ha0 : a ≠ 0) (m0 : fm[0]? = some (.inl 0)) (m3 : fm[3]? = some (.inr (.inr (some a)))) (m4 : fm[4]? = some (.inl (nI 0))) : am_rn (d + 2) 164 [am_ref m, .inl v1, .inl v2, .inl v3, .inl v4, .inl v5] (am_hG h m a fm dd 0 xs) = some (.inl (some (.inl 20)), am_hG h m a fm dd 20 (am_v4 dd (am_v4 dd (am_v4 dd (am_v4 dd (am_v4 dd xs 0 v1) 4 v2) 8 v3) 12 v4) 16 v5), 0, 0) := by
  refine am_q0 ?_
  refine q_aload 1 rfl rfl rfl ?_
  refine q_push 2 rfl rfl ?_
  refine q_put0 5 rfl (am_hG_m ht) rfl (am_s4 (by decide) m0) rfl ?_
  refine q_aload 6 rfl rfl rfl ?_
  refine q_get 9 rfl (am_hG_m ht) (List.getElem?_set_self (am_fl1 m4)) rfl ?_
  refine q_push 11 rfl rfl ?_
  refine q_bin 20 12 rfl (by decide) rfl ?_
  refine q_push 15 rfl rfl ?_
  refine q_c2 20 rfl rfl (if_pos (by decide)) ?_
  refine q_aload 21 rfl rfl rfl ?_
  refine q_iload 22 rfl rfl rfl ?_
  refine q_call2n 25 rfl (f_comes (s := 0) (by decide) hne ht ha ha0 m0 m3 m4) rfl (am_rcE (am_hG_m ht)) am_hG_len2 rfl ?_
  refine q_aload 26 rfl rfl rfl ?_
  refine q_iload 27 rfl rfl rfl ?_
  refine q_call2n 30 rfl (f_comes (s := 4) (by decide) hne ht ha ha0 m0 m3 m4) rfl (am_rcE (am_hG_m ht)) am_hG_len2 rfl ?_
  refine q_aload 31 rfl rfl rfl ?_
  refine q_iload 32 rfl rfl rfl ?_
  refine q_call2n 35 rfl (f_comes (s := 8) (by decide) hne ht ha ha0 m0 m3 m4) rfl (am_rcE (am_hG_m ht)) am_hG_len2 rfl ?_
  refine q_aload 36 rfl rfl rfl ?_
  refine q_iload 38 rfl rfl rfl ?_
  refine q_call2n 41 rfl (f_comes (s := 12) (by decide) hne ht ha ha0 m0 m3 m4) rfl (am_rcE (am_hG_m ht)) am_hG_len2 rfl ?_
  refine q_aload 42 rfl rfl rfl ?_
  refine q_iload 44 rfl rfl rfl ?_
  refine q_call2n 47 rfl (f_comes (s := 16) (by decide) hne ht ha ha0 m0 m3 m4) rfl (am_rcE (am_hG_m ht)) am_hG_len2 rfl ?_
  refine q_aload 48 rfl rfl rfl ?_
  refine q_get 51 rfl (am_hG_m ht) (List.getElem?_set_self (am_fl1 m4)) rfl ?_
  exact q_fin rfl rfl rfl
end AMFR
