/-! the law, case by case -/
section AMS
variable {J : Nat → am_i} {X : am_t} {G : Nat → Nat → Option am_n} {run : Nat → List am_v → am_h → Option am_r} {j : Nat} {n pc c s : Nat} {lv : am_l} {st : List am_v} {h : am_h} {R : Option (am_r ⊕ am_s)}
theorem q_lald {i : Int32} {a : Nat} {x : Int64} {xs : Nat × Int64 × List Int64} (q : Nat) (hg : G j pc = some (.inl ai_lald)) (h1 : h[a]? = some (.inl (.inr (.inl xs)))) (h2 : ¬ i < 0) (h3 : i.toNatClampNeg < xs.1) (h4 : xs.2.2.getD i.toNatClampNeg xs.2.1 = x) (hp : pc + 1 = q) (H : am_it J X G run j none n (q, lv, .inr (.inl x) :: st, h, c, s) = R) : am_it J X G run j none (n + 1) (pc, lv, .inl i :: .inr (.inr (some a)) :: st, h, c, s) = R := by
  subst h4
  exact q_any q hg (show ai_lald (pc, lv, .inl i :: .inr (.inr (some a)) :: st, h, c, s) = some (pc + 1, lv, _, h, c, s) from by simp only [ai_lald, h1]; rw [if_pos ⟨h2, h3⟩]) hp H
theorem q_binL {g : Int64 → Int64 → am_v} {x y : Int64} (z : am_v) (q : Nat) (hg : G j pc = some (.inl (ai_binL g))) (hz : g x y = z) (hp : pc + 1 = q) (H : am_it J X G run j none n (q, lv, z :: st, h, c, s) = R) : am_it J X G run j none (n + 1) (pc, lv, .inr (.inl y) :: .inr (.inl x) :: st, h, c, s) = R := by
  subst hz
  exact q_any q hg rfl hp H
theorem lg_self (x : Int64) : (.inl (lg_cmp x x) : am_v) = .inl 0 := by
  unfold lg_cmp
  rw [if_neg (fun z => Int64.lt_irrefl z), if_pos rfl]
theorem q_new {ci N : Nat} {fs : List am_v} (q : Nat) (hg : G j pc = some (.inl (ai_new ci N fs))) (hok : am_okS (pc, lv, st, h, c, s) = true) (hp : pc + 3 = q) (H : am_it J X G run j none n (q, lv, .inr (.inr (some h.length)) :: st, h ++ [(.inr (ci, fs) : am_e)], c + 1, s + N) = R) : am_it J X G run j none (n + 1) (pc, lv, st, h, c, s) = R :=
  q_any q hg (if_pos hok) hp H
theorem q_newJ1 (q : Nat) (hg : G j pc = some (.inl ai_newJ)) (hok : am_okS (pc, lv, .inl 1 :: st, h, c, s) = true) (hp : pc + 2 = q) (H : am_it J X G run j none n (q, lv, .inr (.inr (some h.length)) :: st, h ++ [(.inl (.inr (.inl (1, 0, []))) : am_e)], c + 1, s + 1) = R) : am_it J X G run j none (n + 1) (pc, lv, .inl 1 :: st, h, c, s) = R :=
  q_any q hg (if_pos ⟨hok, by decide, by decide⟩) hp H
theorem am_callG {k kd : Nat} {a1 : am_v} {h' : am_h} {c' s' : Nat} (hrun : run k [a1] h = some (.inl none, h', c', s')) (hb : (Nat.ble (am_words st) 8 && Nat.ble (am_words [a1]) (J k).2.2.1) = true) (hr : am_rc kd h [a1] = true) (hl : am_okL h.length lv = true) (hl2 : st.all (am_okV h.length) = true) : am_call J X run j k 1 kd (pc, lv, a1 :: st, h, c, s) = some (.inl (pc + 3, lv, st, h', c + c', s + s')) := by
  have h2 := Bool.and_eq_true_iff.mp hb
  have hc : 1 ≤ (a1 :: st).length ∧ am_words ((a1 :: st).drop 1) ≤ 8 ∧ am_words ((a1 :: st).take 1).reverse ≤ (J k).2.2.1 ∧ am_rc kd h ((a1 :: st).take 1).reverse = true := ⟨by simp only [List.length_cons]; omega, Nat.le_of_ble_eq_true h2.1, Nat.le_of_ble_eq_true h2.2, hr⟩
  have hrun2 : run k ((a1 :: st).take 1).reverse h = some (.inl none, h', c', s') := hrun
  unfold am_call
  rw [if_pos hc, hrun2]
  show (if h'.length = h.length ∨ _ then _ else none) = _
  rw [if_pos (Or.inr ⟨hl, hl2⟩)]
  all_goals rfl
theorem q_call1g {k kd : Nat} {a1 : am_v} {h' : am_h} {c' s' : Nat} (q : Nat) (hg : G j pc = some (.inr (.inl (k, 1, kd)))) (hrun : run k [a1] h = some (.inl none, h', c', s')) (hb : (Nat.ble (am_words st) 8 && Nat.ble (am_words [a1]) (J k).2.2.1) = true) (hr : am_rc kd h [a1] = true) (hl : am_okL h.length lv = true) (hl2 : st.all (am_okV h.length) = true) (hp : pc + 3 = q) (H : am_it J X G run j none n (q, lv, st, h', c + c', s + s') = R) : am_it J X G run j none (n + 1) (pc, lv, a1 :: st, h, c, s) = R := by
  subst hp
  show (bif am_at none pc then some (.inr (pc, lv, a1 :: st, h, c, s)) else match G j pc with
    | none => none
    | some (.inl f) => (match f (pc, lv, a1 :: st, h, c, s) with
      | none => none
      | some S' => am_it J X G run j none n S')
    | some (.inr (.inr kd)) => (match am_fin kd (pc, lv, a1 :: st, h, c, s) with
      | none => none
      | some r => some (.inl r))
    | some (.inr (.inl q)) => (match am_call J X run j q.1 q.2.1 q.2.2 (pc, lv, a1 :: st, h, c, s) with
      | none => none
      | some (.inl S') => am_it J X G run j none n S'
      | some (.inr r) => some (.inl r))) = _
  rw [hg]
  show (match am_call J X run j k 1 kd (pc, lv, a1 :: st, h, c, s) with
      | none => none
      | some (.inl S') => am_it J X G run j none n S'
      | some (.inr r) => some (.inl r)) = _
  rw [am_callG hrun hb hr hl hl2]
  exact H
theorem am_bltT {a e : Nat} (z : a < e) : Nat.blt a e = true := Nat.ble_eq_true_of_le z
theorem am_resE {x : Option am_r} {r : am_r} (e : x = some r) (e1 : am_eo r.1 (.inl none) = true) : x = some (.inl none, r.2.1, r.2.2.1, r.2.2.2) := by
  obtain ⟨r1, r2, r3, r4⟩ := r
  have e2 : r1 = .inl none := am_eo_eq e1
  rw [e, e2]
end AMS
section AMU
variable {b : Nat} {a0 a1 a2 a3 a4 a5 : Int32} {n m o c s : Nat} {h : am_h}
theorem p_first {b : Nat} {xs : List Int32} {hX hM : am_h} {cX sX cM sM m o n : Nat} {R : Option (am_r ⊕ am_s)} (eX : am_rn 12 129 [.inr (.inr (some 1))] am_x0 = some (.inl none, hX, cX, sX)) (hm : hX.length = m) (oX : am_okH hX.length hX = true) (m2 : 1 < m) (eM : am_rn 12 158 [.inr (.inr (some m))] (hX ++ [am_m0]) = some (.inl none, hM, cM, sM)) (oM : am_okH hM.length hM = true) (ho : hM.length = o) (mo : m < o) (H : am_it am_J am_X (am_GL (b, xs)) (am_rn 12) 281 none n (23, [(4, .inl 0), (3, .inr (.inr (some o))), (2, .inr (.inr (some m))), (1, .inr (.inr (some 1))), (0, .inr (.inr (some 0)))], [], hM ++ [(.inl (.inr (.inl (1, 0, []))) : am_e)], 0 + 1 + cX + 1 + cM + 1, 0 + 18 + sX + 76 + sM + 1) = R) : am_it am_J am_X (am_GL (b, xs)) (am_rn 12) 281 none (n + 13) (0, [(0, .inr (.inr (some 0)))], [], [.inl (.inl (0, 0, []))], 0, 0) = R := by
  subst hm
  subst ho
  have hlen : (hX ++ [am_m0]).length = hX.length + 1 := by rw [List.length_append]; rfl
  refine q_new 3 rfl rfl rfl ?_
  refine q_dup 4 rfl rfl rfl ?_
  refine q_call1g 7 rfl (show am_rn 12 129 [.inr (.inr (some 1))] am_x0 = some (.inl none, hX, cX, sX) from eX) rfl rfl rfl rfl rfl ?_
  refine q_astore 8 rfl rfl ?_
  refine q_new 11 rfl ?_ rfl ?_
  · show ((Nat.blt 1 hX.length && (Nat.blt 0 hX.length && true)) && (true && am_okH hX.length hX)) = true
    rw [am_bltT m2, am_bltT (Nat.lt_of_succ_lt m2), oX]
    all_goals rfl
  refine q_dup 12 rfl rfl rfl ?_
  refine q_call1g 15 rfl (show am_rn 12 158 [.inr (.inr (some hX.length))] (hX ++ [am_m0]) = some (.inl none, hM, cM, sM) from eM) rfl rfl ?_ ?_ rfl ?_
  · show (Nat.blt 1 (hX ++ [am_m0]).length && (Nat.blt 0 (hX ++ [am_m0]).length && true)) = true
    rw [hlen, am_bltT (Nat.lt_succ_of_lt m2), am_bltT (Nat.succ_pos _)]
    all_goals rfl
  · show (Nat.blt hX.length (hX ++ [am_m0]).length && true) = true
    rw [hlen, am_bltT (Nat.lt_succ_self _)]
    all_goals rfl
  refine q_astore 16 rfl rfl ?_
  refine q_push 17 rfl rfl ?_
  refine q_newJ1 19 rfl ?_ rfl ?_
  · show ((Nat.blt hX.length hM.length && (Nat.blt 1 hM.length && (Nat.blt 0 hM.length && true))) && ((true && true) && am_okH hM.length hM)) = true
    rw [am_bltT mo, am_bltT (Nat.lt_trans m2 mo), am_bltT (Nat.lt_trans (Nat.lt_of_succ_lt m2) mo), oM]
    all_goals rfl
  refine q_astore 20 rfl rfl ?_
  refine q_push 21 rfl rfl ?_
  refine q_istore 23 rfl rfl ?_
  exact H
theorem p_short {b : Nat} {xs : List Int32} {m o n c s : Nat} {h : am_h} (hl : xs.length < 6) : am_it am_J am_X (am_GL (b, xs)) (am_rn 12) 281 none (n + 10) (23, [(4, .inl 0), (3, .inr (.inr (some o))), (2, .inr (.inr (some m))), (1, .inr (.inr (some 1))), (0, .inr (.inr (some 0)))], [], h, c, s) = some (.inl (.inl (some (.inl 1)), h, c, s)) := by
  have hz : ∀ k : Nat, k < 6 → Int32.ofNat k - 6 < 0 := by decide
  refine q_iload 25 rfl rfl rfl ?_
  refine q_aload 26 rfl rfl rfl ?_
  refine q_slen 27 rfl rfl ?_
  refine q_push 29 rfl rfl ?_
  refine q_bin (Int32.ofNat xs.length - 6) 30 rfl rfl rfl ?_
  refine q_c2 1061 rfl rfl (if_pos (hz _ hl)) ?_
  refine q_push 1062 rfl rfl ?_
  exact q_fin rfl rfl rfl
theorem p_to {j t : Nat} {R : Option (am_r ⊕ am_s)} (he : a0 &&& 31 = nI j) (ht : am_tb 1055 0 16 [124, 197, 253, 266, 279, 335, 403, 459, 527, 595, 651, 719, 775, 800, 875, 931, 987] (nI j) = t) (H : am_it am_J am_X (am_GL (b, [a0, a1, a2, a3, a4, a5])) (am_rn 12) 281 none n (t, [(4, .inl 0), (3, .inr (.inr (some o))), (2, .inr (.inr (some m))), (1, .inr (.inr (some 1))), (0, .inr (.inr (some 0)))], [], h, c, s) = R) : am_it am_J am_X (am_GL (b, [a0, a1, a2, a3, a4, a5])) (am_rn 12) 281 none (n + 12) (23, [(4, .inl 0), (3, .inr (.inr (some o))), (2, .inr (.inr (some m))), (1, .inr (.inr (some 1))), (0, .inr (.inr (some 0)))], [], h, c, s) = R := by
  refine q_iload 25 rfl rfl rfl ?_
  refine q_aload 26 rfl rfl rfl ?_
  refine q_slen 27 rfl rfl ?_
  refine q_push 29 rfl rfl ?_
  refine q_bin 0 30 rfl (show Int32.ofNat 6 - 6 = 0 from by decide) rfl ?_
  refine q_c2 33 rfl rfl (if_neg (by decide)) ?_
  refine q_aload 34 rfl rfl rfl ?_
  refine q_iload 36 rfl rfl rfl ?_
  refine q_sld (x := a0) 37 rfl (by decide) (Nat.le_of_ble_eq_true rfl) rfl rfl ?_
  refine q_push 39 rfl rfl ?_
  refine q_bin (nI j) 40 rfl he rfl ?_
  exact q_c1 t rfl rfl ht H
theorem p_none : am_it am_J am_X (am_GL (b, [a0, a1, a2, a3, a4, a5])) (am_rn 12) 281 none (n + 12) (1055, [(4, .inl 0), (3, .inr (.inr (some o))), (2, .inr (.inr (some m))), (1, .inr (.inr (some 1))), (0, .inr (.inr (some 0)))], [], h, c, s) = some (.inl (.inl (some (.inl 1)), h, c, s)) := by
  refine q_iinc 6 1058 rfl rfl (by decide) rfl ?_
  refine q_goto 23 rfl rfl ?_
  refine q_iload 25 rfl rfl rfl ?_
  refine q_aload 26 rfl rfl rfl ?_
  refine q_slen 27 rfl rfl ?_
  refine q_push 29 rfl rfl ?_
  refine q_bin 0 30 rfl (show Int32.ofNat 6 - 6 = 0 from by decide) rfl ?_
  refine q_c2 1061 rfl rfl (if_pos (by decide)) ?_
  refine q_push 1062 rfl rfl ?_
  exact q_fin rfl rfl rfl
theorem g_feed {fx : List am_v} (hX : h[1]? = some (.inr (9, fx))) (H : am_cq h m 130 164 [.inl a1, .inl a2, .inl a3, .inl a4, .inl a5]) : ∃ (h' : am_h) (c' s' : Nat), am_it am_J am_X (am_GL (b, [a0, a1, a2, a3, a4, a5])) (am_rn 12) 281 none (n + 120) (124, [(4, .inl 0), (3, .inr (.inr (some o))), (2, .inr (.inr (some m))), (1, .inr (.inr (some 1))), (0, .inr (.inr (some 0)))], [], h, c, s) = some (.inl (.inl (some (.inl 1)), h', c', s')) ∧ c' ≤ c + 1000 ∧ s' ≤ s + 10000 := by
  obtain ⟨bb, hx, hm, cx, sx, cm, sm, e1, e2, l1, l2, k1, k2, ⟨f1, hf1⟩⟩ := H
  replace e1 : am_rn 12 130 [.inr (.inr (some 1)), .inl a1, .inl a2, .inl a3, .inl a4, .inl a5] h = some (.inl (some (.inl bb)), hx, cx, sx) := e1
  replace e2 : am_rn 12 164 [.inr (.inr (some m)), .inl a1, .inl a2, .inl a3, .inl a4, .inl a5] hx = some (.inl (some (.inl bb)), hm, cm, sm) := e2
  refine ⟨hm, c + cx + cm, s + sx + sm, ?_, by omega, by omega⟩
  refine q_aload 125 rfl rfl rfl ?_
  refine q_aload 126 rfl rfl rfl ?_
  refine q_iload 128 rfl rfl rfl ?_
  refine q_push 129 rfl rfl ?_
  refine q_bin 1 130 rfl (by decide) rfl ?_
  refine q_sld (x := a1) 131 rfl (by decide) (Nat.le_of_ble_eq_true rfl) rfl rfl ?_
  refine q_aload 132 rfl rfl rfl ?_
  refine q_iload 134 rfl rfl rfl ?_
  refine q_push 135 rfl rfl ?_
  refine q_bin 2 136 rfl (by decide) rfl ?_
  refine q_sld (x := a2) 137 rfl (by decide) (Nat.le_of_ble_eq_true rfl) rfl rfl ?_
  refine q_aload 138 rfl rfl rfl ?_
  refine q_iload 140 rfl rfl rfl ?_
  refine q_push 141 rfl rfl ?_
  refine q_bin 3 142 rfl (by decide) rfl ?_
  refine q_sld (x := a3) 143 rfl (by decide) (Nat.le_of_ble_eq_true rfl) rfl rfl ?_
  refine q_aload 144 rfl rfl rfl ?_
  refine q_iload 146 rfl rfl rfl ?_
  refine q_push 147 rfl rfl ?_
  refine q_bin 4 148 rfl (by decide) rfl ?_
  refine q_sld (x := a4) 149 rfl (by decide) (Nat.le_of_ble_eq_true rfl) rfl rfl ?_
  refine q_aload 150 rfl rfl rfl ?_
  refine q_iload 152 rfl rfl rfl ?_
  refine q_push 153 rfl rfl ?_
  refine q_bin 5 154 rfl (by decide) rfl ?_
  refine q_sld (x := a5) 155 rfl (by decide) (Nat.le_of_ble_eq_true rfl) rfl rfl ?_
  refine q_call6s 158 rfl e1 rfl (am_rcE hX) l1 rfl ?_
  refine q_aload 159 rfl rfl rfl ?_
  refine q_aload 160 rfl rfl rfl ?_
  refine q_iload 162 rfl rfl rfl ?_
  refine q_push 163 rfl rfl ?_
  refine q_bin 1 164 rfl (by decide) rfl ?_
  refine q_sld (x := a1) 165 rfl (by decide) (Nat.le_of_ble_eq_true rfl) rfl rfl ?_
  refine q_aload 166 rfl rfl rfl ?_
  refine q_iload 168 rfl rfl rfl ?_
  refine q_push 169 rfl rfl ?_
  refine q_bin 2 170 rfl (by decide) rfl ?_
  refine q_sld (x := a2) 171 rfl (by decide) (Nat.le_of_ble_eq_true rfl) rfl rfl ?_
  refine q_aload 172 rfl rfl rfl ?_
  refine q_iload 174 rfl rfl rfl ?_
  refine q_push 175 rfl rfl ?_
  refine q_bin 3 176 rfl (by decide) rfl ?_
  refine q_sld (x := a3) 177 rfl (by decide) (Nat.le_of_ble_eq_true rfl) rfl rfl ?_
  refine q_aload 178 rfl rfl rfl ?_
  refine q_iload 180 rfl rfl rfl ?_
  refine q_push 181 rfl rfl ?_
  refine q_bin 4 182 rfl (by decide) rfl ?_
  refine q_sld (x := a4) 183 rfl (by decide) (Nat.le_of_ble_eq_true rfl) rfl rfl ?_
  refine q_aload 184 rfl rfl rfl ?_
  refine q_iload 186 rfl rfl rfl ?_
  refine q_push 187 rfl rfl ?_
  refine q_bin 5 188 rfl (by decide) rfl ?_
  refine q_sld (x := a5) 189 rfl (by decide) (Nat.le_of_ble_eq_true rfl) rfl rfl ?_
  refine q_call6s 192 rfl e2 rfl (am_rcE hf1) l2 rfl ?_
  refine q_c2 1055 rfl rfl (if_pos rfl) ?_
  refine q_iinc 6 1058 rfl rfl (by decide) rfl ?_
  refine q_goto 23 rfl rfl ?_
  refine q_iload 25 rfl rfl rfl ?_
  refine q_aload 26 rfl rfl rfl ?_
  refine q_slen 27 rfl rfl ?_
  refine q_push 29 rfl rfl ?_
  refine q_bin 0 30 rfl (show Int32.ofNat 6 - 6 = 0 from by decide) rfl ?_
  refine q_c2 1061 rfl rfl (if_pos (by decide)) ?_
  refine q_push 1062 rfl rfl ?_
  exact q_fin rfl rfl rfl
theorem g_tell (H : am_ck h m o 267 187 [.inl a1]) : ∃ (h' : am_h) (c' s' : Nat), am_it am_J am_X (am_GL (b, [a0, a1, a2, a3, a4, a5])) (am_rn 12) 281 none (n + 120) (197, [(4, .inl 0), (3, .inr (.inr (some o))), (2, .inr (.inr (some m))), (1, .inr (.inr (some 1))), (0, .inr (.inr (some 0)))], [], h, c, s) = some (.inl (.inl (some (.inl 1)), h', c', s')) ∧ c' ≤ c + 1000 ∧ s' ≤ s + 10000 := by
  obtain ⟨kx, bb, hx, hm, ht, cx, sx, cm, sm, e1, e2, e3, l1, l2, l3, k1, k2, ⟨f1, hf1⟩, ⟨f2, hf2⟩, hz⟩ := H
  replace e1 : am_rn 12 267 [.inr (.inr (some 1)), .inl a1, .inr (.inr (some o))] h = some (.inl (some (.inl kx)), hx, cx, sx) := e1
  replace e2 : am_rn 12 187 [.inr (.inr (some m)), .inl a1] hx = some (.inl (some (.inl bb)), hm, cm, sm) := e2
  replace e3 : am_rn 12 159 [.inr (.inr (some m))] hm = some (.inl (some (.inl kx)), ht, 0, 0) := e3
  refine ⟨ht, c + cx + cm + 0, s + sx + sm + 0, ?_, by omega, by omega⟩
  refine q_aload 198 rfl rfl rfl ?_
  refine q_aload 199 rfl rfl rfl ?_
  refine q_iload 201 rfl rfl rfl ?_
  refine q_push 202 rfl rfl ?_
  refine q_bin 1 203 rfl (by decide) rfl ?_
  refine q_sld (x := a1) 204 rfl (by decide) (Nat.le_of_ble_eq_true rfl) rfl rfl ?_
  refine q_aload 205 rfl rfl rfl ?_
  refine q_call3s 208 rfl e1 rfl rfl l1 rfl ?_
  refine q_istore 210 rfl rfl ?_
  refine q_aload 211 rfl rfl rfl ?_
  refine q_aload 212 rfl rfl rfl ?_
  refine q_iload 214 rfl rfl rfl ?_
  refine q_push 215 rfl rfl ?_
  refine q_bin 1 216 rfl (by decide) rfl ?_
  refine q_sld (x := a1) 217 rfl (by decide) (Nat.le_of_ble_eq_true rfl) rfl rfl ?_
  refine q_call2s 220 rfl e2 rfl (am_rcE hf1) l2 rfl ?_
  refine q_istore 222 rfl rfl ?_
  refine q_aload 223 rfl rfl rfl ?_
  refine q_call1s 226 rfl e3 rfl (am_rcE hf2) l3 rfl ?_
  refine q_iload 228 rfl rfl rfl ?_
  refine q_c2 233 rfl rfl (if_pos rfl) ?_
  refine q_iload 235 rfl rfl rfl ?_
  by_cases hk : kx = 0
  · obtain ⟨xs, hb, hb1, hb2⟩ := hz hk
    refine q_c1 238 rfl rfl (if_pos hk) ?_
    refine q_aload 239 rfl rfl rfl ?_
    refine q_push 240 rfl rfl ?_
    refine q_lald 241 rfl hb (by decide) (Nat.lt_of_lt_of_eq (by decide) hb1.symm) hb2 rfl ?_
    refine q_iload 243 rfl rfl rfl ?_
    refine q_un (.inr (.inl bb.toInt64)) 244 rfl rfl rfl ?_
    refine q_binL (.inl 0) 245 rfl (lg_self _) rfl ?_
    refine q_c1 250 rfl rfl (if_pos rfl) ?_
    refine q_goto 1055 rfl rfl ?_
    refine q_iinc 6 1058 rfl rfl (by decide) rfl ?_
    refine q_goto 23 rfl rfl ?_
    refine q_iload 25 rfl rfl rfl ?_
    refine q_aload 26 rfl rfl rfl ?_
    refine q_slen 27 rfl rfl ?_
    refine q_push 29 rfl rfl ?_
    refine q_bin 0 30 rfl (show Int32.ofNat 6 - 6 = 0 from by decide) rfl ?_
    refine q_c2 1061 rfl rfl (if_pos (by decide)) ?_
    refine q_push 1062 rfl rfl ?_
    exact q_fin rfl rfl rfl
  · refine q_c1 250 rfl rfl (if_neg hk) ?_
    refine q_goto 1055 rfl rfl ?_
    refine q_iinc 6 1058 rfl rfl (by decide) rfl ?_
    refine q_goto 23 rfl rfl ?_
    refine q_iload 25 rfl rfl rfl ?_
    refine q_aload 26 rfl rfl rfl ?_
    refine q_slen 27 rfl rfl ?_
    refine q_push 29 rfl rfl ?_
    refine q_bin 0 30 rfl (show Int32.ofNat 6 - 6 = 0 from by decide) rfl ?_
    refine q_c2 1061 rfl rfl (if_pos (by decide)) ?_
    refine q_push 1062 rfl rfl ?_
    exact q_fin rfl rfl rfl
theorem g_fault {fx : List am_v} (hX : h[1]? = some (.inr (9, fx))) (H : am_cq h m 132 188 []) : ∃ (h' : am_h) (c' s' : Nat), am_it am_J am_X (am_GL (b, [a0, a1, a2, a3, a4, a5])) (am_rn 12) 281 none (n + 120) (253, [(4, .inl 0), (3, .inr (.inr (some o))), (2, .inr (.inr (some m))), (1, .inr (.inr (some 1))), (0, .inr (.inr (some 0)))], [], h, c, s) = some (.inl (.inl (some (.inl 1)), h', c', s')) ∧ c' ≤ c + 1000 ∧ s' ≤ s + 10000 := by
  obtain ⟨bb, hx, hm, cx, sx, cm, sm, e1, e2, l1, l2, k1, k2, ⟨f1, hf1⟩⟩ := H
  replace e1 : am_rn 12 132 [.inr (.inr (some 1))] h = some (.inl (some (.inl bb)), hx, cx, sx) := e1
  replace e2 : am_rn 12 188 [.inr (.inr (some m))] hx = some (.inl (some (.inl bb)), hm, cm, sm) := e2
  refine ⟨hm, c + cx + cm, s + sx + sm, ?_, by omega, by omega⟩
  refine q_aload 254 rfl rfl rfl ?_
  refine q_call1s 257 rfl e1 rfl (am_rcE hX) l1 rfl ?_
  refine q_aload 258 rfl rfl rfl ?_
  refine q_call1s 261 rfl e2 rfl (am_rcE hf1) l2 rfl ?_
  refine q_c2 1055 rfl rfl (if_pos rfl) ?_
  refine q_iinc 6 1058 rfl rfl (by decide) rfl ?_
  refine q_goto 23 rfl rfl ?_
  refine q_iload 25 rfl rfl rfl ?_
  refine q_aload 26 rfl rfl rfl ?_
  refine q_slen 27 rfl rfl ?_
  refine q_push 29 rfl rfl ?_
  refine q_bin 0 30 rfl (show Int32.ofNat 6 - 6 = 0 from by decide) rfl ?_
  refine q_c2 1061 rfl rfl (if_pos (by decide)) ?_
  refine q_push 1062 rfl rfl ?_
  exact q_fin rfl rfl rfl
theorem g_again {fx : List am_v} (hX : h[1]? = some (.inr (9, fx))) (H : am_cq h m 133 204 []) : ∃ (h' : am_h) (c' s' : Nat), am_it am_J am_X (am_GL (b, [a0, a1, a2, a3, a4, a5])) (am_rn 12) 281 none (n + 120) (266, [(4, .inl 0), (3, .inr (.inr (some o))), (2, .inr (.inr (some m))), (1, .inr (.inr (some 1))), (0, .inr (.inr (some 0)))], [], h, c, s) = some (.inl (.inl (some (.inl 1)), h', c', s')) ∧ c' ≤ c + 1000 ∧ s' ≤ s + 10000 := by
  obtain ⟨bb, hx, hm, cx, sx, cm, sm, e1, e2, l1, l2, k1, k2, ⟨f1, hf1⟩⟩ := H
  replace e1 : am_rn 12 133 [.inr (.inr (some 1))] h = some (.inl (some (.inl bb)), hx, cx, sx) := e1
  replace e2 : am_rn 12 204 [.inr (.inr (some m))] hx = some (.inl (some (.inl bb)), hm, cm, sm) := e2
  refine ⟨hm, c + cx + cm, s + sx + sm, ?_, by omega, by omega⟩
  refine q_aload 267 rfl rfl rfl ?_
  refine q_call1s 270 rfl e1 rfl (am_rcE hX) l1 rfl ?_
  refine q_aload 271 rfl rfl rfl ?_
  refine q_call1s 274 rfl e2 rfl (am_rcE hf1) l2 rfl ?_
  refine q_c2 1055 rfl rfl (if_pos rfl) ?_
  refine q_iinc 6 1058 rfl rfl (by decide) rfl ?_
  refine q_goto 23 rfl rfl ?_
  refine q_iload 25 rfl rfl rfl ?_
  refine q_aload 26 rfl rfl rfl ?_
  refine q_slen 27 rfl rfl ?_
  refine q_push 29 rfl rfl ?_
  refine q_bin 0 30 rfl (show Int32.ofNat 6 - 6 = 0 from by decide) rfl ?_
  refine q_c2 1061 rfl rfl (if_pos (by decide)) ?_
  refine q_push 1062 rfl rfl ?_
  exact q_fin rfl rfl rfl
theorem g_step (H : am_ck h m o 268 220 [.inl a1]) : ∃ (h' : am_h) (c' s' : Nat), am_it am_J am_X (am_GL (b, [a0, a1, a2, a3, a4, a5])) (am_rn 12) 281 none (n + 120) (279, [(4, .inl 0), (3, .inr (.inr (some o))), (2, .inr (.inr (some m))), (1, .inr (.inr (some 1))), (0, .inr (.inr (some 0)))], [], h, c, s) = some (.inl (.inl (some (.inl 1)), h', c', s')) ∧ c' ≤ c + 1000 ∧ s' ≤ s + 10000 := by
  obtain ⟨kx, bb, hx, hm, ht, cx, sx, cm, sm, e1, e2, e3, l1, l2, l3, k1, k2, ⟨f1, hf1⟩, ⟨f2, hf2⟩, hz⟩ := H
  replace e1 : am_rn 12 268 [.inr (.inr (some 1)), .inl a1, .inr (.inr (some o))] h = some (.inl (some (.inl kx)), hx, cx, sx) := e1
  replace e2 : am_rn 12 220 [.inr (.inr (some m)), .inl a1] hx = some (.inl (some (.inl bb)), hm, cm, sm) := e2
  replace e3 : am_rn 12 159 [.inr (.inr (some m))] hm = some (.inl (some (.inl kx)), ht, 0, 0) := e3
  refine ⟨ht, c + cx + cm + 0, s + sx + sm + 0, ?_, by omega, by omega⟩
  refine q_aload 280 rfl rfl rfl ?_
  refine q_aload 281 rfl rfl rfl ?_
  refine q_iload 283 rfl rfl rfl ?_
  refine q_push 284 rfl rfl ?_
  refine q_bin 1 285 rfl (by decide) rfl ?_
  refine q_sld (x := a1) 286 rfl (by decide) (Nat.le_of_ble_eq_true rfl) rfl rfl ?_
  refine q_aload 287 rfl rfl rfl ?_
  refine q_call3s 290 rfl e1 rfl rfl l1 rfl ?_
  refine q_istore 292 rfl rfl ?_
  refine q_aload 293 rfl rfl rfl ?_
  refine q_aload 294 rfl rfl rfl ?_
  refine q_iload 296 rfl rfl rfl ?_
  refine q_push 297 rfl rfl ?_
  refine q_bin 1 298 rfl (by decide) rfl ?_
  refine q_sld (x := a1) 299 rfl (by decide) (Nat.le_of_ble_eq_true rfl) rfl rfl ?_
  refine q_call2s 302 rfl e2 rfl (am_rcE hf1) l2 rfl ?_
  refine q_istore 304 rfl rfl ?_
  refine q_aload 305 rfl rfl rfl ?_
  refine q_call1s 308 rfl e3 rfl (am_rcE hf2) l3 rfl ?_
  refine q_iload 310 rfl rfl rfl ?_
  refine q_c2 315 rfl rfl (if_pos rfl) ?_
  refine q_iload 317 rfl rfl rfl ?_
  by_cases hk : kx = 0
  · obtain ⟨xs, hb, hb1, hb2⟩ := hz hk
    refine q_c1 320 rfl rfl (if_pos hk) ?_
    refine q_aload 321 rfl rfl rfl ?_
    refine q_push 322 rfl rfl ?_
    refine q_lald 323 rfl hb (by decide) (Nat.lt_of_lt_of_eq (by decide) hb1.symm) hb2 rfl ?_
    refine q_iload 325 rfl rfl rfl ?_
    refine q_un (.inr (.inl bb.toInt64)) 326 rfl rfl rfl ?_
    refine q_binL (.inl 0) 327 rfl (lg_self _) rfl ?_
    refine q_c1 332 rfl rfl (if_pos rfl) ?_
    refine q_goto 1055 rfl rfl ?_
    refine q_iinc 6 1058 rfl rfl (by decide) rfl ?_
    refine q_goto 23 rfl rfl ?_
    refine q_iload 25 rfl rfl rfl ?_
    refine q_aload 26 rfl rfl rfl ?_
    refine q_slen 27 rfl rfl ?_
    refine q_push 29 rfl rfl ?_
    refine q_bin 0 30 rfl (show Int32.ofNat 6 - 6 = 0 from by decide) rfl ?_
    refine q_c2 1061 rfl rfl (if_pos (by decide)) ?_
    refine q_push 1062 rfl rfl ?_
    exact q_fin rfl rfl rfl
  · refine q_c1 332 rfl rfl (if_neg hk) ?_
    refine q_goto 1055 rfl rfl ?_
    refine q_iinc 6 1058 rfl rfl (by decide) rfl ?_
    refine q_goto 23 rfl rfl ?_
    refine q_iload 25 rfl rfl rfl ?_
    refine q_aload 26 rfl rfl rfl ?_
    refine q_slen 27 rfl rfl ?_
    refine q_push 29 rfl rfl ?_
    refine q_bin 0 30 rfl (show Int32.ofNat 6 - 6 = 0 from by decide) rfl ?_
    refine q_c2 1061 rfl rfl (if_pos (by decide)) ?_
    refine q_push 1062 rfl rfl ?_
    exact q_fin rfl rfl rfl
theorem g_run (H : am_ck h m o 269 221 [.inl a1, .inl a2]) : ∃ (h' : am_h) (c' s' : Nat), am_it am_J am_X (am_GL (b, [a0, a1, a2, a3, a4, a5])) (am_rn 12) 281 none (n + 120) (335, [(4, .inl 0), (3, .inr (.inr (some o))), (2, .inr (.inr (some m))), (1, .inr (.inr (some 1))), (0, .inr (.inr (some 0)))], [], h, c, s) = some (.inl (.inl (some (.inl 1)), h', c', s')) ∧ c' ≤ c + 1000 ∧ s' ≤ s + 10000 := by
  obtain ⟨kx, bb, hx, hm, ht, cx, sx, cm, sm, e1, e2, e3, l1, l2, l3, k1, k2, ⟨f1, hf1⟩, ⟨f2, hf2⟩, hz⟩ := H
  replace e1 : am_rn 12 269 [.inr (.inr (some 1)), .inl a1, .inl a2, .inr (.inr (some o))] h = some (.inl (some (.inl kx)), hx, cx, sx) := e1
  replace e2 : am_rn 12 221 [.inr (.inr (some m)), .inl a1, .inl a2] hx = some (.inl (some (.inl bb)), hm, cm, sm) := e2
  replace e3 : am_rn 12 159 [.inr (.inr (some m))] hm = some (.inl (some (.inl kx)), ht, 0, 0) := e3
  refine ⟨ht, c + cx + cm + 0, s + sx + sm + 0, ?_, by omega, by omega⟩
  refine q_aload 336 rfl rfl rfl ?_
  refine q_aload 337 rfl rfl rfl ?_
  refine q_iload 339 rfl rfl rfl ?_
  refine q_push 340 rfl rfl ?_
  refine q_bin 1 341 rfl (by decide) rfl ?_
  refine q_sld (x := a1) 342 rfl (by decide) (Nat.le_of_ble_eq_true rfl) rfl rfl ?_
  refine q_aload 343 rfl rfl rfl ?_
  refine q_iload 345 rfl rfl rfl ?_
  refine q_push 346 rfl rfl ?_
  refine q_bin 2 347 rfl (by decide) rfl ?_
  refine q_sld (x := a2) 348 rfl (by decide) (Nat.le_of_ble_eq_true rfl) rfl rfl ?_
  refine q_aload 349 rfl rfl rfl ?_
  refine q_call4s 352 rfl e1 rfl rfl l1 rfl ?_
  refine q_istore 354 rfl rfl ?_
  refine q_aload 355 rfl rfl rfl ?_
  refine q_aload 356 rfl rfl rfl ?_
  refine q_iload 358 rfl rfl rfl ?_
  refine q_push 359 rfl rfl ?_
  refine q_bin 1 360 rfl (by decide) rfl ?_
  refine q_sld (x := a1) 361 rfl (by decide) (Nat.le_of_ble_eq_true rfl) rfl rfl ?_
  refine q_aload 362 rfl rfl rfl ?_
  refine q_iload 364 rfl rfl rfl ?_
  refine q_push 365 rfl rfl ?_
  refine q_bin 2 366 rfl (by decide) rfl ?_
  refine q_sld (x := a2) 367 rfl (by decide) (Nat.le_of_ble_eq_true rfl) rfl rfl ?_
  refine q_call3s 370 rfl e2 rfl (am_rcE hf1) l2 rfl ?_
  refine q_istore 372 rfl rfl ?_
  refine q_aload 373 rfl rfl rfl ?_
  refine q_call1s 376 rfl e3 rfl (am_rcE hf2) l3 rfl ?_
  refine q_iload 378 rfl rfl rfl ?_
  refine q_c2 383 rfl rfl (if_pos rfl) ?_
  refine q_iload 385 rfl rfl rfl ?_
  by_cases hk : kx = 0
  · obtain ⟨xs, hb, hb1, hb2⟩ := hz hk
    refine q_c1 388 rfl rfl (if_pos hk) ?_
    refine q_aload 389 rfl rfl rfl ?_
    refine q_push 390 rfl rfl ?_
    refine q_lald 391 rfl hb (by decide) (Nat.lt_of_lt_of_eq (by decide) hb1.symm) hb2 rfl ?_
    refine q_iload 393 rfl rfl rfl ?_
    refine q_un (.inr (.inl bb.toInt64)) 394 rfl rfl rfl ?_
    refine q_binL (.inl 0) 395 rfl (lg_self _) rfl ?_
    refine q_c1 400 rfl rfl (if_pos rfl) ?_
    refine q_goto 1055 rfl rfl ?_
    refine q_iinc 6 1058 rfl rfl (by decide) rfl ?_
    refine q_goto 23 rfl rfl ?_
    refine q_iload 25 rfl rfl rfl ?_
    refine q_aload 26 rfl rfl rfl ?_
    refine q_slen 27 rfl rfl ?_
    refine q_push 29 rfl rfl ?_
    refine q_bin 0 30 rfl (show Int32.ofNat 6 - 6 = 0 from by decide) rfl ?_
    refine q_c2 1061 rfl rfl (if_pos (by decide)) ?_
    refine q_push 1062 rfl rfl ?_
    exact q_fin rfl rfl rfl
  · refine q_c1 400 rfl rfl (if_neg hk) ?_
    refine q_goto 1055 rfl rfl ?_
    refine q_iinc 6 1058 rfl rfl (by decide) rfl ?_
    refine q_goto 23 rfl rfl ?_
    refine q_iload 25 rfl rfl rfl ?_
    refine q_aload 26 rfl rfl rfl ?_
    refine q_slen 27 rfl rfl ?_
    refine q_push 29 rfl rfl ?_
    refine q_bin 0 30 rfl (show Int32.ofNat 6 - 6 = 0 from by decide) rfl ?_
    refine q_c2 1061 rfl rfl (if_pos (by decide)) ?_
    refine q_push 1062 rfl rfl ?_
    exact q_fin rfl rfl rfl
theorem g_count (H : am_ck h m o 270 250 [.inl a1]) : ∃ (h' : am_h) (c' s' : Nat), am_it am_J am_X (am_GL (b, [a0, a1, a2, a3, a4, a5])) (am_rn 12) 281 none (n + 120) (403, [(4, .inl 0), (3, .inr (.inr (some o))), (2, .inr (.inr (some m))), (1, .inr (.inr (some 1))), (0, .inr (.inr (some 0)))], [], h, c, s) = some (.inl (.inl (some (.inl 1)), h', c', s')) ∧ c' ≤ c + 1000 ∧ s' ≤ s + 10000 := by
  obtain ⟨kx, bb, hx, hm, ht, cx, sx, cm, sm, e1, e2, e3, l1, l2, l3, k1, k2, ⟨f1, hf1⟩, ⟨f2, hf2⟩, hz⟩ := H
  replace e1 : am_rn 12 270 [.inr (.inr (some 1)), .inl a1, .inr (.inr (some o))] h = some (.inl (some (.inl kx)), hx, cx, sx) := e1
  replace e2 : am_rn 12 250 [.inr (.inr (some m)), .inl a1] hx = some (.inl (some (.inl bb)), hm, cm, sm) := e2
  replace e3 : am_rn 12 159 [.inr (.inr (some m))] hm = some (.inl (some (.inl kx)), ht, 0, 0) := e3
  refine ⟨ht, c + cx + cm + 0, s + sx + sm + 0, ?_, by omega, by omega⟩
  refine q_aload 404 rfl rfl rfl ?_
  refine q_aload 405 rfl rfl rfl ?_
  refine q_iload 407 rfl rfl rfl ?_
  refine q_push 408 rfl rfl ?_
  refine q_bin 1 409 rfl (by decide) rfl ?_
  refine q_sld (x := a1) 410 rfl (by decide) (Nat.le_of_ble_eq_true rfl) rfl rfl ?_
  refine q_aload 411 rfl rfl rfl ?_
  refine q_call3s 414 rfl e1 rfl rfl l1 rfl ?_
  refine q_istore 416 rfl rfl ?_
  refine q_aload 417 rfl rfl rfl ?_
  refine q_aload 418 rfl rfl rfl ?_
  refine q_iload 420 rfl rfl rfl ?_
  refine q_push 421 rfl rfl ?_
  refine q_bin 1 422 rfl (by decide) rfl ?_
  refine q_sld (x := a1) 423 rfl (by decide) (Nat.le_of_ble_eq_true rfl) rfl rfl ?_
  refine q_call2s 426 rfl e2 rfl (am_rcE hf1) l2 rfl ?_
  refine q_istore 428 rfl rfl ?_
  refine q_aload 429 rfl rfl rfl ?_
  refine q_call1s 432 rfl e3 rfl (am_rcE hf2) l3 rfl ?_
  refine q_iload 434 rfl rfl rfl ?_
  refine q_c2 439 rfl rfl (if_pos rfl) ?_
  refine q_iload 441 rfl rfl rfl ?_
  by_cases hk : kx = 0
  · obtain ⟨xs, hb, hb1, hb2⟩ := hz hk
    refine q_c1 444 rfl rfl (if_pos hk) ?_
    refine q_aload 445 rfl rfl rfl ?_
    refine q_push 446 rfl rfl ?_
    refine q_lald 447 rfl hb (by decide) (Nat.lt_of_lt_of_eq (by decide) hb1.symm) hb2 rfl ?_
    refine q_iload 449 rfl rfl rfl ?_
    refine q_un (.inr (.inl bb.toInt64)) 450 rfl rfl rfl ?_
    refine q_binL (.inl 0) 451 rfl (lg_self _) rfl ?_
    refine q_c1 456 rfl rfl (if_pos rfl) ?_
    refine q_goto 1055 rfl rfl ?_
    refine q_iinc 6 1058 rfl rfl (by decide) rfl ?_
    refine q_goto 23 rfl rfl ?_
    refine q_iload 25 rfl rfl rfl ?_
    refine q_aload 26 rfl rfl rfl ?_
    refine q_slen 27 rfl rfl ?_
    refine q_push 29 rfl rfl ?_
    refine q_bin 0 30 rfl (show Int32.ofNat 6 - 6 = 0 from by decide) rfl ?_
    refine q_c2 1061 rfl rfl (if_pos (by decide)) ?_
    refine q_push 1062 rfl rfl ?_
    exact q_fin rfl rfl rfl
  · refine q_c1 456 rfl rfl (if_neg hk) ?_
    refine q_goto 1055 rfl rfl ?_
    refine q_iinc 6 1058 rfl rfl (by decide) rfl ?_
    refine q_goto 23 rfl rfl ?_
    refine q_iload 25 rfl rfl rfl ?_
    refine q_aload 26 rfl rfl rfl ?_
    refine q_slen 27 rfl rfl ?_
    refine q_push 29 rfl rfl ?_
    refine q_bin 0 30 rfl (show Int32.ofNat 6 - 6 = 0 from by decide) rfl ?_
    refine q_c2 1061 rfl rfl (if_pos (by decide)) ?_
    refine q_push 1062 rfl rfl ?_
    exact q_fin rfl rfl rfl
theorem g_node (H : am_ck h m o 271 251 [.inl a1, .inl a2]) : ∃ (h' : am_h) (c' s' : Nat), am_it am_J am_X (am_GL (b, [a0, a1, a2, a3, a4, a5])) (am_rn 12) 281 none (n + 120) (459, [(4, .inl 0), (3, .inr (.inr (some o))), (2, .inr (.inr (some m))), (1, .inr (.inr (some 1))), (0, .inr (.inr (some 0)))], [], h, c, s) = some (.inl (.inl (some (.inl 1)), h', c', s')) ∧ c' ≤ c + 1000 ∧ s' ≤ s + 10000 := by
  obtain ⟨kx, bb, hx, hm, ht, cx, sx, cm, sm, e1, e2, e3, l1, l2, l3, k1, k2, ⟨f1, hf1⟩, ⟨f2, hf2⟩, hz⟩ := H
  replace e1 : am_rn 12 271 [.inr (.inr (some 1)), .inl a1, .inl a2, .inr (.inr (some o))] h = some (.inl (some (.inl kx)), hx, cx, sx) := e1
  replace e2 : am_rn 12 251 [.inr (.inr (some m)), .inl a1, .inl a2] hx = some (.inl (some (.inl bb)), hm, cm, sm) := e2
  replace e3 : am_rn 12 159 [.inr (.inr (some m))] hm = some (.inl (some (.inl kx)), ht, 0, 0) := e3
  refine ⟨ht, c + cx + cm + 0, s + sx + sm + 0, ?_, by omega, by omega⟩
  refine q_aload 460 rfl rfl rfl ?_
  refine q_aload 461 rfl rfl rfl ?_
  refine q_iload 463 rfl rfl rfl ?_
  refine q_push 464 rfl rfl ?_
  refine q_bin 1 465 rfl (by decide) rfl ?_
  refine q_sld (x := a1) 466 rfl (by decide) (Nat.le_of_ble_eq_true rfl) rfl rfl ?_
  refine q_aload 467 rfl rfl rfl ?_
  refine q_iload 469 rfl rfl rfl ?_
  refine q_push 470 rfl rfl ?_
  refine q_bin 2 471 rfl (by decide) rfl ?_
  refine q_sld (x := a2) 472 rfl (by decide) (Nat.le_of_ble_eq_true rfl) rfl rfl ?_
  refine q_aload 473 rfl rfl rfl ?_
  refine q_call4s 476 rfl e1 rfl rfl l1 rfl ?_
  refine q_istore 478 rfl rfl ?_
  refine q_aload 479 rfl rfl rfl ?_
  refine q_aload 480 rfl rfl rfl ?_
  refine q_iload 482 rfl rfl rfl ?_
  refine q_push 483 rfl rfl ?_
  refine q_bin 1 484 rfl (by decide) rfl ?_
  refine q_sld (x := a1) 485 rfl (by decide) (Nat.le_of_ble_eq_true rfl) rfl rfl ?_
  refine q_aload 486 rfl rfl rfl ?_
  refine q_iload 488 rfl rfl rfl ?_
  refine q_push 489 rfl rfl ?_
  refine q_bin 2 490 rfl (by decide) rfl ?_
  refine q_sld (x := a2) 491 rfl (by decide) (Nat.le_of_ble_eq_true rfl) rfl rfl ?_
  refine q_call3s 494 rfl e2 rfl (am_rcE hf1) l2 rfl ?_
  refine q_istore 496 rfl rfl ?_
  refine q_aload 497 rfl rfl rfl ?_
  refine q_call1s 500 rfl e3 rfl (am_rcE hf2) l3 rfl ?_
  refine q_iload 502 rfl rfl rfl ?_
  refine q_c2 507 rfl rfl (if_pos rfl) ?_
  refine q_iload 509 rfl rfl rfl ?_
  by_cases hk : kx = 0
  · obtain ⟨xs, hb, hb1, hb2⟩ := hz hk
    refine q_c1 512 rfl rfl (if_pos hk) ?_
    refine q_aload 513 rfl rfl rfl ?_
    refine q_push 514 rfl rfl ?_
    refine q_lald 515 rfl hb (by decide) (Nat.lt_of_lt_of_eq (by decide) hb1.symm) hb2 rfl ?_
    refine q_iload 517 rfl rfl rfl ?_
    refine q_un (.inr (.inl bb.toInt64)) 518 rfl rfl rfl ?_
    refine q_binL (.inl 0) 519 rfl (lg_self _) rfl ?_
    refine q_c1 524 rfl rfl (if_pos rfl) ?_
    refine q_goto 1055 rfl rfl ?_
    refine q_iinc 6 1058 rfl rfl (by decide) rfl ?_
    refine q_goto 23 rfl rfl ?_
    refine q_iload 25 rfl rfl rfl ?_
    refine q_aload 26 rfl rfl rfl ?_
    refine q_slen 27 rfl rfl ?_
    refine q_push 29 rfl rfl ?_
    refine q_bin 0 30 rfl (show Int32.ofNat 6 - 6 = 0 from by decide) rfl ?_
    refine q_c2 1061 rfl rfl (if_pos (by decide)) ?_
    refine q_push 1062 rfl rfl ?_
    exact q_fin rfl rfl rfl
  · refine q_c1 524 rfl rfl (if_neg hk) ?_
    refine q_goto 1055 rfl rfl ?_
    refine q_iinc 6 1058 rfl rfl (by decide) rfl ?_
    refine q_goto 23 rfl rfl ?_
    refine q_iload 25 rfl rfl rfl ?_
    refine q_aload 26 rfl rfl rfl ?_
    refine q_slen 27 rfl rfl ?_
    refine q_push 29 rfl rfl ?_
    refine q_bin 0 30 rfl (show Int32.ofNat 6 - 6 = 0 from by decide) rfl ?_
    refine q_c2 1061 rfl rfl (if_pos (by decide)) ?_
    refine q_push 1062 rfl rfl ?_
    exact q_fin rfl rfl rfl
theorem g_active (H : am_ck h m o 272 252 [.inl a1, .inl a2]) : ∃ (h' : am_h) (c' s' : Nat), am_it am_J am_X (am_GL (b, [a0, a1, a2, a3, a4, a5])) (am_rn 12) 281 none (n + 120) (527, [(4, .inl 0), (3, .inr (.inr (some o))), (2, .inr (.inr (some m))), (1, .inr (.inr (some 1))), (0, .inr (.inr (some 0)))], [], h, c, s) = some (.inl (.inl (some (.inl 1)), h', c', s')) ∧ c' ≤ c + 1000 ∧ s' ≤ s + 10000 := by
  obtain ⟨kx, bb, hx, hm, ht, cx, sx, cm, sm, e1, e2, e3, l1, l2, l3, k1, k2, ⟨f1, hf1⟩, ⟨f2, hf2⟩, hz⟩ := H
  replace e1 : am_rn 12 272 [.inr (.inr (some 1)), .inl a1, .inl a2, .inr (.inr (some o))] h = some (.inl (some (.inl kx)), hx, cx, sx) := e1
  replace e2 : am_rn 12 252 [.inr (.inr (some m)), .inl a1, .inl a2] hx = some (.inl (some (.inl bb)), hm, cm, sm) := e2
  replace e3 : am_rn 12 159 [.inr (.inr (some m))] hm = some (.inl (some (.inl kx)), ht, 0, 0) := e3
  refine ⟨ht, c + cx + cm + 0, s + sx + sm + 0, ?_, by omega, by omega⟩
  refine q_aload 528 rfl rfl rfl ?_
  refine q_aload 529 rfl rfl rfl ?_
  refine q_iload 531 rfl rfl rfl ?_
  refine q_push 532 rfl rfl ?_
  refine q_bin 1 533 rfl (by decide) rfl ?_
  refine q_sld (x := a1) 534 rfl (by decide) (Nat.le_of_ble_eq_true rfl) rfl rfl ?_
  refine q_aload 535 rfl rfl rfl ?_
  refine q_iload 537 rfl rfl rfl ?_
  refine q_push 538 rfl rfl ?_
  refine q_bin 2 539 rfl (by decide) rfl ?_
  refine q_sld (x := a2) 540 rfl (by decide) (Nat.le_of_ble_eq_true rfl) rfl rfl ?_
  refine q_aload 541 rfl rfl rfl ?_
  refine q_call4s 544 rfl e1 rfl rfl l1 rfl ?_
  refine q_istore 546 rfl rfl ?_
  refine q_aload 547 rfl rfl rfl ?_
  refine q_aload 548 rfl rfl rfl ?_
  refine q_iload 550 rfl rfl rfl ?_
  refine q_push 551 rfl rfl ?_
  refine q_bin 1 552 rfl (by decide) rfl ?_
  refine q_sld (x := a1) 553 rfl (by decide) (Nat.le_of_ble_eq_true rfl) rfl rfl ?_
  refine q_aload 554 rfl rfl rfl ?_
  refine q_iload 556 rfl rfl rfl ?_
  refine q_push 557 rfl rfl ?_
  refine q_bin 2 558 rfl (by decide) rfl ?_
  refine q_sld (x := a2) 559 rfl (by decide) (Nat.le_of_ble_eq_true rfl) rfl rfl ?_
  refine q_call3s 562 rfl e2 rfl (am_rcE hf1) l2 rfl ?_
  refine q_istore 564 rfl rfl ?_
  refine q_aload 565 rfl rfl rfl ?_
  refine q_call1s 568 rfl e3 rfl (am_rcE hf2) l3 rfl ?_
  refine q_iload 570 rfl rfl rfl ?_
  refine q_c2 575 rfl rfl (if_pos rfl) ?_
  refine q_iload 577 rfl rfl rfl ?_
  by_cases hk : kx = 0
  · obtain ⟨xs, hb, hb1, hb2⟩ := hz hk
    refine q_c1 580 rfl rfl (if_pos hk) ?_
    refine q_aload 581 rfl rfl rfl ?_
    refine q_push 582 rfl rfl ?_
    refine q_lald 583 rfl hb (by decide) (Nat.lt_of_lt_of_eq (by decide) hb1.symm) hb2 rfl ?_
    refine q_iload 585 rfl rfl rfl ?_
    refine q_un (.inr (.inl bb.toInt64)) 586 rfl rfl rfl ?_
    refine q_binL (.inl 0) 587 rfl (lg_self _) rfl ?_
    refine q_c1 592 rfl rfl (if_pos rfl) ?_
    refine q_goto 1055 rfl rfl ?_
    refine q_iinc 6 1058 rfl rfl (by decide) rfl ?_
    refine q_goto 23 rfl rfl ?_
    refine q_iload 25 rfl rfl rfl ?_
    refine q_aload 26 rfl rfl rfl ?_
    refine q_slen 27 rfl rfl ?_
    refine q_push 29 rfl rfl ?_
    refine q_bin 0 30 rfl (show Int32.ofNat 6 - 6 = 0 from by decide) rfl ?_
    refine q_c2 1061 rfl rfl (if_pos (by decide)) ?_
    refine q_push 1062 rfl rfl ?_
    exact q_fin rfl rfl rfl
  · refine q_c1 592 rfl rfl (if_neg hk) ?_
    refine q_goto 1055 rfl rfl ?_
    refine q_iinc 6 1058 rfl rfl (by decide) rfl ?_
    refine q_goto 23 rfl rfl ?_
    refine q_iload 25 rfl rfl rfl ?_
    refine q_aload 26 rfl rfl rfl ?_
    refine q_slen 27 rfl rfl ?_
    refine q_push 29 rfl rfl ?_
    refine q_bin 0 30 rfl (show Int32.ofNat 6 - 6 = 0 from by decide) rfl ?_
    refine q_c2 1061 rfl rfl (if_pos (by decide)) ?_
    refine q_push 1062 rfl rfl ?_
    exact q_fin rfl rfl rfl
theorem g_wanted (H : am_ck h m o 273 253 [.inl a1]) : ∃ (h' : am_h) (c' s' : Nat), am_it am_J am_X (am_GL (b, [a0, a1, a2, a3, a4, a5])) (am_rn 12) 281 none (n + 120) (595, [(4, .inl 0), (3, .inr (.inr (some o))), (2, .inr (.inr (some m))), (1, .inr (.inr (some 1))), (0, .inr (.inr (some 0)))], [], h, c, s) = some (.inl (.inl (some (.inl 1)), h', c', s')) ∧ c' ≤ c + 1000 ∧ s' ≤ s + 10000 := by
  obtain ⟨kx, bb, hx, hm, ht, cx, sx, cm, sm, e1, e2, e3, l1, l2, l3, k1, k2, ⟨f1, hf1⟩, ⟨f2, hf2⟩, hz⟩ := H
  replace e1 : am_rn 12 273 [.inr (.inr (some 1)), .inl a1, .inr (.inr (some o))] h = some (.inl (some (.inl kx)), hx, cx, sx) := e1
  replace e2 : am_rn 12 253 [.inr (.inr (some m)), .inl a1] hx = some (.inl (some (.inl bb)), hm, cm, sm) := e2
  replace e3 : am_rn 12 159 [.inr (.inr (some m))] hm = some (.inl (some (.inl kx)), ht, 0, 0) := e3
  refine ⟨ht, c + cx + cm + 0, s + sx + sm + 0, ?_, by omega, by omega⟩
  refine q_aload 596 rfl rfl rfl ?_
  refine q_aload 597 rfl rfl rfl ?_
  refine q_iload 599 rfl rfl rfl ?_
  refine q_push 600 rfl rfl ?_
  refine q_bin 1 601 rfl (by decide) rfl ?_
  refine q_sld (x := a1) 602 rfl (by decide) (Nat.le_of_ble_eq_true rfl) rfl rfl ?_
  refine q_aload 603 rfl rfl rfl ?_
  refine q_call3s 606 rfl e1 rfl rfl l1 rfl ?_
  refine q_istore 608 rfl rfl ?_
  refine q_aload 609 rfl rfl rfl ?_
  refine q_aload 610 rfl rfl rfl ?_
  refine q_iload 612 rfl rfl rfl ?_
  refine q_push 613 rfl rfl ?_
  refine q_bin 1 614 rfl (by decide) rfl ?_
  refine q_sld (x := a1) 615 rfl (by decide) (Nat.le_of_ble_eq_true rfl) rfl rfl ?_
  refine q_call2s 618 rfl e2 rfl (am_rcE hf1) l2 rfl ?_
  refine q_istore 620 rfl rfl ?_
  refine q_aload 621 rfl rfl rfl ?_
  refine q_call1s 624 rfl e3 rfl (am_rcE hf2) l3 rfl ?_
  refine q_iload 626 rfl rfl rfl ?_
  refine q_c2 631 rfl rfl (if_pos rfl) ?_
  refine q_iload 633 rfl rfl rfl ?_
  by_cases hk : kx = 0
  · obtain ⟨xs, hb, hb1, hb2⟩ := hz hk
    refine q_c1 636 rfl rfl (if_pos hk) ?_
    refine q_aload 637 rfl rfl rfl ?_
    refine q_push 638 rfl rfl ?_
    refine q_lald 639 rfl hb (by decide) (Nat.lt_of_lt_of_eq (by decide) hb1.symm) hb2 rfl ?_
    refine q_iload 641 rfl rfl rfl ?_
    refine q_un (.inr (.inl bb.toInt64)) 642 rfl rfl rfl ?_
    refine q_binL (.inl 0) 643 rfl (lg_self _) rfl ?_
    refine q_c1 648 rfl rfl (if_pos rfl) ?_
    refine q_goto 1055 rfl rfl ?_
    refine q_iinc 6 1058 rfl rfl (by decide) rfl ?_
    refine q_goto 23 rfl rfl ?_
    refine q_iload 25 rfl rfl rfl ?_
    refine q_aload 26 rfl rfl rfl ?_
    refine q_slen 27 rfl rfl ?_
    refine q_push 29 rfl rfl ?_
    refine q_bin 0 30 rfl (show Int32.ofNat 6 - 6 = 0 from by decide) rfl ?_
    refine q_c2 1061 rfl rfl (if_pos (by decide)) ?_
    refine q_push 1062 rfl rfl ?_
    exact q_fin rfl rfl rfl
  · refine q_c1 648 rfl rfl (if_neg hk) ?_
    refine q_goto 1055 rfl rfl ?_
    refine q_iinc 6 1058 rfl rfl (by decide) rfl ?_
    refine q_goto 23 rfl rfl ?_
    refine q_iload 25 rfl rfl rfl ?_
    refine q_aload 26 rfl rfl rfl ?_
    refine q_slen 27 rfl rfl ?_
    refine q_push 29 rfl rfl ?_
    refine q_bin 0 30 rfl (show Int32.ofNat 6 - 6 = 0 from by decide) rfl ?_
    refine q_c2 1061 rfl rfl (if_pos (by decide)) ?_
    refine q_push 1062 rfl rfl ?_
    exact q_fin rfl rfl rfl
theorem g_part (H : am_ck h m o 274 256 [.inl a1, .inl a2]) : ∃ (h' : am_h) (c' s' : Nat), am_it am_J am_X (am_GL (b, [a0, a1, a2, a3, a4, a5])) (am_rn 12) 281 none (n + 120) (651, [(4, .inl 0), (3, .inr (.inr (some o))), (2, .inr (.inr (some m))), (1, .inr (.inr (some 1))), (0, .inr (.inr (some 0)))], [], h, c, s) = some (.inl (.inl (some (.inl 1)), h', c', s')) ∧ c' ≤ c + 1000 ∧ s' ≤ s + 10000 := by
  obtain ⟨kx, bb, hx, hm, ht, cx, sx, cm, sm, e1, e2, e3, l1, l2, l3, k1, k2, ⟨f1, hf1⟩, ⟨f2, hf2⟩, hz⟩ := H
  replace e1 : am_rn 12 274 [.inr (.inr (some 1)), .inl a1, .inl a2, .inr (.inr (some o))] h = some (.inl (some (.inl kx)), hx, cx, sx) := e1
  replace e2 : am_rn 12 256 [.inr (.inr (some m)), .inl a1, .inl a2] hx = some (.inl (some (.inl bb)), hm, cm, sm) := e2
  replace e3 : am_rn 12 159 [.inr (.inr (some m))] hm = some (.inl (some (.inl kx)), ht, 0, 0) := e3
  refine ⟨ht, c + cx + cm + 0, s + sx + sm + 0, ?_, by omega, by omega⟩
  refine q_aload 652 rfl rfl rfl ?_
  refine q_aload 653 rfl rfl rfl ?_
  refine q_iload 655 rfl rfl rfl ?_
  refine q_push 656 rfl rfl ?_
  refine q_bin 1 657 rfl (by decide) rfl ?_
  refine q_sld (x := a1) 658 rfl (by decide) (Nat.le_of_ble_eq_true rfl) rfl rfl ?_
  refine q_aload 659 rfl rfl rfl ?_
  refine q_iload 661 rfl rfl rfl ?_
  refine q_push 662 rfl rfl ?_
  refine q_bin 2 663 rfl (by decide) rfl ?_
  refine q_sld (x := a2) 664 rfl (by decide) (Nat.le_of_ble_eq_true rfl) rfl rfl ?_
  refine q_aload 665 rfl rfl rfl ?_
  refine q_call4s 668 rfl e1 rfl rfl l1 rfl ?_
  refine q_istore 670 rfl rfl ?_
  refine q_aload 671 rfl rfl rfl ?_
  refine q_aload 672 rfl rfl rfl ?_
  refine q_iload 674 rfl rfl rfl ?_
  refine q_push 675 rfl rfl ?_
  refine q_bin 1 676 rfl (by decide) rfl ?_
  refine q_sld (x := a1) 677 rfl (by decide) (Nat.le_of_ble_eq_true rfl) rfl rfl ?_
  refine q_aload 678 rfl rfl rfl ?_
  refine q_iload 680 rfl rfl rfl ?_
  refine q_push 681 rfl rfl ?_
  refine q_bin 2 682 rfl (by decide) rfl ?_
  refine q_sld (x := a2) 683 rfl (by decide) (Nat.le_of_ble_eq_true rfl) rfl rfl ?_
  refine q_call3s 686 rfl e2 rfl (am_rcE hf1) l2 rfl ?_
  refine q_istore 688 rfl rfl ?_
  refine q_aload 689 rfl rfl rfl ?_
  refine q_call1s 692 rfl e3 rfl (am_rcE hf2) l3 rfl ?_
  refine q_iload 694 rfl rfl rfl ?_
  refine q_c2 699 rfl rfl (if_pos rfl) ?_
  refine q_iload 701 rfl rfl rfl ?_
  by_cases hk : kx = 0
  · obtain ⟨xs, hb, hb1, hb2⟩ := hz hk
    refine q_c1 704 rfl rfl (if_pos hk) ?_
    refine q_aload 705 rfl rfl rfl ?_
    refine q_push 706 rfl rfl ?_
    refine q_lald 707 rfl hb (by decide) (Nat.lt_of_lt_of_eq (by decide) hb1.symm) hb2 rfl ?_
    refine q_iload 709 rfl rfl rfl ?_
    refine q_un (.inr (.inl bb.toInt64)) 710 rfl rfl rfl ?_
    refine q_binL (.inl 0) 711 rfl (lg_self _) rfl ?_
    refine q_c1 716 rfl rfl (if_pos rfl) ?_
    refine q_goto 1055 rfl rfl ?_
    refine q_iinc 6 1058 rfl rfl (by decide) rfl ?_
    refine q_goto 23 rfl rfl ?_
    refine q_iload 25 rfl rfl rfl ?_
    refine q_aload 26 rfl rfl rfl ?_
    refine q_slen 27 rfl rfl ?_
    refine q_push 29 rfl rfl ?_
    refine q_bin 0 30 rfl (show Int32.ofNat 6 - 6 = 0 from by decide) rfl ?_
    refine q_c2 1061 rfl rfl (if_pos (by decide)) ?_
    refine q_push 1062 rfl rfl ?_
    exact q_fin rfl rfl rfl
  · refine q_c1 716 rfl rfl (if_neg hk) ?_
    refine q_goto 1055 rfl rfl ?_
    refine q_iinc 6 1058 rfl rfl (by decide) rfl ?_
    refine q_goto 23 rfl rfl ?_
    refine q_iload 25 rfl rfl rfl ?_
    refine q_aload 26 rfl rfl rfl ?_
    refine q_slen 27 rfl rfl ?_
    refine q_push 29 rfl rfl ?_
    refine q_bin 0 30 rfl (show Int32.ofNat 6 - 6 = 0 from by decide) rfl ?_
    refine q_c2 1061 rfl rfl (if_pos (by decide)) ?_
    refine q_push 1062 rfl rfl ?_
    exact q_fin rfl rfl rfl
theorem g_say (H : am_ck h m o 275 262 [.inl a1]) : ∃ (h' : am_h) (c' s' : Nat), am_it am_J am_X (am_GL (b, [a0, a1, a2, a3, a4, a5])) (am_rn 12) 281 none (n + 120) (719, [(4, .inl 0), (3, .inr (.inr (some o))), (2, .inr (.inr (some m))), (1, .inr (.inr (some 1))), (0, .inr (.inr (some 0)))], [], h, c, s) = some (.inl (.inl (some (.inl 1)), h', c', s')) ∧ c' ≤ c + 1000 ∧ s' ≤ s + 10000 := by
  obtain ⟨kx, bb, hx, hm, ht, cx, sx, cm, sm, e1, e2, e3, l1, l2, l3, k1, k2, ⟨f1, hf1⟩, ⟨f2, hf2⟩, hz⟩ := H
  replace e1 : am_rn 12 275 [.inr (.inr (some 1)), .inl a1, .inr (.inr (some o))] h = some (.inl (some (.inl kx)), hx, cx, sx) := e1
  replace e2 : am_rn 12 262 [.inr (.inr (some m)), .inl a1] hx = some (.inl (some (.inl bb)), hm, cm, sm) := e2
  replace e3 : am_rn 12 159 [.inr (.inr (some m))] hm = some (.inl (some (.inl kx)), ht, 0, 0) := e3
  refine ⟨ht, c + cx + cm + 0, s + sx + sm + 0, ?_, by omega, by omega⟩
  refine q_aload 720 rfl rfl rfl ?_
  refine q_aload 721 rfl rfl rfl ?_
  refine q_iload 723 rfl rfl rfl ?_
  refine q_push 724 rfl rfl ?_
  refine q_bin 1 725 rfl (by decide) rfl ?_
  refine q_sld (x := a1) 726 rfl (by decide) (Nat.le_of_ble_eq_true rfl) rfl rfl ?_
  refine q_aload 727 rfl rfl rfl ?_
  refine q_call3s 730 rfl e1 rfl rfl l1 rfl ?_
  refine q_istore 732 rfl rfl ?_
  refine q_aload 733 rfl rfl rfl ?_
  refine q_aload 734 rfl rfl rfl ?_
  refine q_iload 736 rfl rfl rfl ?_
  refine q_push 737 rfl rfl ?_
  refine q_bin 1 738 rfl (by decide) rfl ?_
  refine q_sld (x := a1) 739 rfl (by decide) (Nat.le_of_ble_eq_true rfl) rfl rfl ?_
  refine q_call2s 742 rfl e2 rfl (am_rcE hf1) l2 rfl ?_
  refine q_istore 744 rfl rfl ?_
  refine q_aload 745 rfl rfl rfl ?_
  refine q_call1s 748 rfl e3 rfl (am_rcE hf2) l3 rfl ?_
  refine q_iload 750 rfl rfl rfl ?_
  refine q_c2 755 rfl rfl (if_pos rfl) ?_
  refine q_iload 757 rfl rfl rfl ?_
  by_cases hk : kx = 0
  · obtain ⟨xs, hb, hb1, hb2⟩ := hz hk
    refine q_c1 760 rfl rfl (if_pos hk) ?_
    refine q_aload 761 rfl rfl rfl ?_
    refine q_push 762 rfl rfl ?_
    refine q_lald 763 rfl hb (by decide) (Nat.lt_of_lt_of_eq (by decide) hb1.symm) hb2 rfl ?_
    refine q_iload 765 rfl rfl rfl ?_
    refine q_un (.inr (.inl bb.toInt64)) 766 rfl rfl rfl ?_
    refine q_binL (.inl 0) 767 rfl (lg_self _) rfl ?_
    refine q_c1 772 rfl rfl (if_pos rfl) ?_
    refine q_goto 1055 rfl rfl ?_
    refine q_iinc 6 1058 rfl rfl (by decide) rfl ?_
    refine q_goto 23 rfl rfl ?_
    refine q_iload 25 rfl rfl rfl ?_
    refine q_aload 26 rfl rfl rfl ?_
    refine q_slen 27 rfl rfl ?_
    refine q_push 29 rfl rfl ?_
    refine q_bin 0 30 rfl (show Int32.ofNat 6 - 6 = 0 from by decide) rfl ?_
    refine q_c2 1061 rfl rfl (if_pos (by decide)) ?_
    refine q_push 1062 rfl rfl ?_
    exact q_fin rfl rfl rfl
  · refine q_c1 772 rfl rfl (if_neg hk) ?_
    refine q_goto 1055 rfl rfl ?_
    refine q_iinc 6 1058 rfl rfl (by decide) rfl ?_
    refine q_goto 23 rfl rfl ?_
    refine q_iload 25 rfl rfl rfl ?_
    refine q_aload 26 rfl rfl rfl ?_
    refine q_slen 27 rfl rfl ?_
    refine q_push 29 rfl rfl ?_
    refine q_bin 0 30 rfl (show Int32.ofNat 6 - 6 = 0 from by decide) rfl ?_
    refine q_c2 1061 rfl rfl (if_pos (by decide)) ?_
    refine q_push 1062 rfl rfl ?_
    exact q_fin rfl rfl rfl
theorem g_said {fx : List am_v} (hX : h[1]? = some (.inr (9, fx))) (H : am_cq h m 142 263 [.inl a1]) : ∃ (h' : am_h) (c' s' : Nat), am_it am_J am_X (am_GL (b, [a0, a1, a2, a3, a4, a5])) (am_rn 12) 281 none (n + 120) (775, [(4, .inl 0), (3, .inr (.inr (some o))), (2, .inr (.inr (some m))), (1, .inr (.inr (some 1))), (0, .inr (.inr (some 0)))], [], h, c, s) = some (.inl (.inl (some (.inl 1)), h', c', s')) ∧ c' ≤ c + 1000 ∧ s' ≤ s + 10000 := by
  obtain ⟨bb, hx, hm, cx, sx, cm, sm, e1, e2, l1, l2, k1, k2, ⟨f1, hf1⟩⟩ := H
  replace e1 : am_rn 12 142 [.inr (.inr (some 1)), .inl a1] h = some (.inl (some (.inl bb)), hx, cx, sx) := e1
  replace e2 : am_rn 12 263 [.inr (.inr (some m)), .inl a1] hx = some (.inl (some (.inl bb)), hm, cm, sm) := e2
  refine ⟨hm, c + cx + cm, s + sx + sm, ?_, by omega, by omega⟩
  refine q_aload 776 rfl rfl rfl ?_
  refine q_aload 777 rfl rfl rfl ?_
  refine q_iload 779 rfl rfl rfl ?_
  refine q_push 780 rfl rfl ?_
  refine q_bin 1 781 rfl (by decide) rfl ?_
  refine q_sld (x := a1) 782 rfl (by decide) (Nat.le_of_ble_eq_true rfl) rfl rfl ?_
  refine q_call2s 785 rfl e1 rfl (am_rcE hX) l1 rfl ?_
  refine q_aload 786 rfl rfl rfl ?_
  refine q_aload 787 rfl rfl rfl ?_
  refine q_iload 789 rfl rfl rfl ?_
  refine q_push 790 rfl rfl ?_
  refine q_bin 1 791 rfl (by decide) rfl ?_
  refine q_sld (x := a1) 792 rfl (by decide) (Nat.le_of_ble_eq_true rfl) rfl rfl ?_
  refine q_call2s 795 rfl e2 rfl (am_rcE hf1) l2 rfl ?_
  refine q_c2 1055 rfl rfl (if_pos rfl) ?_
  refine q_iinc 6 1058 rfl rfl (by decide) rfl ?_
  refine q_goto 23 rfl rfl ?_
  refine q_iload 25 rfl rfl rfl ?_
  refine q_aload 26 rfl rfl rfl ?_
  refine q_slen 27 rfl rfl ?_
  refine q_push 29 rfl rfl ?_
  refine q_bin 0 30 rfl (show Int32.ofNat 6 - 6 = 0 from by decide) rfl ?_
  refine q_c2 1061 rfl rfl (if_pos (by decide)) ?_
  refine q_push 1062 rfl rfl ?_
  exact q_fin rfl rfl rfl
theorem g_same (H : am_ck h m o 276 264 [.inl a1, .inl a2]) (HB : ∀ (kx bb : Int32) (hx hm : am_h) (cx sx cm sm : Nat), am_rn 12 276 (am_ref 1 :: ([.inl a1, .inl a2] ++ [am_ref o])) h = some (.inl (some (.inl kx)), hx, cx, sx) → am_rn 12 264 (am_ref m :: [.inl a1, .inl a2]) hx = some (.inl (some (.inl bb)), hm, cm, sm) → bb = 0 ∨ bb = 1) : ∃ (h' : am_h) (c' s' : Nat), am_it am_J am_X (am_GL (b, [a0, a1, a2, a3, a4, a5])) (am_rn 12) 281 none (n + 120) (800, [(4, .inl 0), (3, .inr (.inr (some o))), (2, .inr (.inr (some m))), (1, .inr (.inr (some 1))), (0, .inr (.inr (some 0)))], [], h, c, s) = some (.inl (.inl (some (.inl 1)), h', c', s')) ∧ c' ≤ c + 1000 ∧ s' ≤ s + 10000 := by
  obtain ⟨kx, bb, hx, hm, ht, cx, sx, cm, sm, e1, e2, e3, l1, l2, l3, k1, k2, ⟨f1, hf1⟩, ⟨f2, hf2⟩, hz⟩ := H
  have hbb := HB _ _ _ _ _ _ _ _ e1 e2
  replace e1 : am_rn 12 276 [.inr (.inr (some 1)), .inl a1, .inl a2, .inr (.inr (some o))] h = some (.inl (some (.inl kx)), hx, cx, sx) := e1
  replace e2 : am_rn 12 264 [.inr (.inr (some m)), .inl a1, .inl a2] hx = some (.inl (some (.inl bb)), hm, cm, sm) := e2
  replace e3 : am_rn 12 159 [.inr (.inr (some m))] hm = some (.inl (some (.inl kx)), ht, 0, 0) := e3
  refine ⟨ht, c + cx + cm + 0, s + sx + sm + 0, ?_, by omega, by omega⟩
  refine q_aload 801 rfl rfl rfl ?_
  refine q_aload 802 rfl rfl rfl ?_
  refine q_iload 804 rfl rfl rfl ?_
  refine q_push 805 rfl rfl ?_
  refine q_bin 1 806 rfl (by decide) rfl ?_
  refine q_sld (x := a1) 807 rfl (by decide) (Nat.le_of_ble_eq_true rfl) rfl rfl ?_
  refine q_aload 808 rfl rfl rfl ?_
  refine q_iload 810 rfl rfl rfl ?_
  refine q_push 811 rfl rfl ?_
  refine q_bin 2 812 rfl (by decide) rfl ?_
  refine q_sld (x := a2) 813 rfl (by decide) (Nat.le_of_ble_eq_true rfl) rfl rfl ?_
  refine q_aload 814 rfl rfl rfl ?_
  refine q_call4s 817 rfl e1 rfl rfl l1 rfl ?_
  refine q_istore 819 rfl rfl ?_
  refine q_aload 820 rfl rfl rfl ?_
  refine q_aload 821 rfl rfl rfl ?_
  refine q_iload 823 rfl rfl rfl ?_
  refine q_push 824 rfl rfl ?_
  refine q_bin 1 825 rfl (by decide) rfl ?_
  refine q_sld (x := a1) 826 rfl (by decide) (Nat.le_of_ble_eq_true rfl) rfl rfl ?_
  refine q_aload 827 rfl rfl rfl ?_
  refine q_iload 829 rfl rfl rfl ?_
  refine q_push 830 rfl rfl ?_
  refine q_bin 2 831 rfl (by decide) rfl ?_
  refine q_sld (x := a2) 832 rfl (by decide) (Nat.le_of_ble_eq_true rfl) rfl rfl ?_
  refine q_call3s 835 rfl e2 rfl (am_rcE hf1) l2 rfl ?_
  refine q_istore 837 rfl rfl ?_
  refine q_aload 838 rfl rfl rfl ?_
  refine q_call1s 841 rfl e3 rfl (am_rcE hf2) l3 rfl ?_
  refine q_iload 843 rfl rfl rfl ?_
  refine q_c2 848 rfl rfl (if_pos rfl) ?_
  refine q_iload 850 rfl rfl rfl ?_
  by_cases hk : kx = 0
  · obtain ⟨xs, hb, hb1, hb2⟩ := hz hk
    rcases hbb with rfl | rfl
    · replace hb2 : xs.2.2.getD 0 xs.2.1 = 0 := hb2.trans (by decide)
      refine q_c1 853 rfl rfl (if_pos hk) ?_
      refine q_aload 854 rfl rfl rfl ?_
      refine q_push 855 rfl rfl ?_
      refine q_lald 856 rfl hb (by decide) (Nat.lt_of_lt_of_eq (by decide) hb1.symm) hb2 rfl ?_
      refine q_iload 858 rfl rfl rfl ?_
      refine q_c1 865 rfl rfl (if_pos rfl) ?_
      refine q_push 866 rfl rfl ?_
      refine q_binL (.inl 0) 867 rfl (lg_self _) rfl ?_
      refine q_c1 872 rfl rfl (if_pos rfl) ?_
      refine q_goto 1055 rfl rfl ?_
      refine q_iinc 6 1058 rfl rfl (by decide) rfl ?_
      refine q_goto 23 rfl rfl ?_
      refine q_iload 25 rfl rfl rfl ?_
      refine q_aload 26 rfl rfl rfl ?_
      refine q_slen 27 rfl rfl ?_
      refine q_push 29 rfl rfl ?_
      refine q_bin 0 30 rfl (show Int32.ofNat 6 - 6 = 0 from by decide) rfl ?_
      refine q_c2 1061 rfl rfl (if_pos (by decide)) ?_
      refine q_push 1062 rfl rfl ?_
      exact q_fin rfl rfl rfl
    · replace hb2 : xs.2.2.getD 0 xs.2.1 = 1 := hb2.trans (by decide)
      refine q_c1 853 rfl rfl (if_pos hk) ?_
      refine q_aload 854 rfl rfl rfl ?_
      refine q_push 855 rfl rfl ?_
      refine q_lald 856 rfl hb (by decide) (Nat.lt_of_lt_of_eq (by decide) hb1.symm) hb2 rfl ?_
      refine q_iload 858 rfl rfl rfl ?_
      refine q_c1 861 rfl rfl (if_neg (by decide)) ?_
      refine q_push 862 rfl rfl ?_
      refine q_goto 866 rfl rfl ?_
      refine q_binL (.inl 0) 867 rfl (lg_self _) rfl ?_
      refine q_c1 872 rfl rfl (if_pos rfl) ?_
      refine q_goto 1055 rfl rfl ?_
      refine q_iinc 6 1058 rfl rfl (by decide) rfl ?_
      refine q_goto 23 rfl rfl ?_
      refine q_iload 25 rfl rfl rfl ?_
      refine q_aload 26 rfl rfl rfl ?_
      refine q_slen 27 rfl rfl ?_
      refine q_push 29 rfl rfl ?_
      refine q_bin 0 30 rfl (show Int32.ofNat 6 - 6 = 0 from by decide) rfl ?_
      refine q_c2 1061 rfl rfl (if_pos (by decide)) ?_
      refine q_push 1062 rfl rfl ?_
      exact q_fin rfl rfl rfl
  · refine q_c1 872 rfl rfl (if_neg hk) ?_
    refine q_goto 1055 rfl rfl ?_
    refine q_iinc 6 1058 rfl rfl (by decide) rfl ?_
    refine q_goto 23 rfl rfl ?_
    refine q_iload 25 rfl rfl rfl ?_
    refine q_aload 26 rfl rfl rfl ?_
    refine q_slen 27 rfl rfl ?_
    refine q_push 29 rfl rfl ?_
    refine q_bin 0 30 rfl (show Int32.ofNat 6 - 6 = 0 from by decide) rfl ?_
    refine q_c2 1061 rfl rfl (if_pos (by decide)) ?_
    refine q_push 1062 rfl rfl ?_
    exact q_fin rfl rfl rfl
theorem g_plain (H : am_ck h m o 277 265 [.inl a1]) : ∃ (h' : am_h) (c' s' : Nat), am_it am_J am_X (am_GL (b, [a0, a1, a2, a3, a4, a5])) (am_rn 12) 281 none (n + 120) (875, [(4, .inl 0), (3, .inr (.inr (some o))), (2, .inr (.inr (some m))), (1, .inr (.inr (some 1))), (0, .inr (.inr (some 0)))], [], h, c, s) = some (.inl (.inl (some (.inl 1)), h', c', s')) ∧ c' ≤ c + 1000 ∧ s' ≤ s + 10000 := by
  obtain ⟨kx, bb, hx, hm, ht, cx, sx, cm, sm, e1, e2, e3, l1, l2, l3, k1, k2, ⟨f1, hf1⟩, ⟨f2, hf2⟩, hz⟩ := H
  replace e1 : am_rn 12 277 [.inr (.inr (some 1)), .inl a1, .inr (.inr (some o))] h = some (.inl (some (.inl kx)), hx, cx, sx) := e1
  replace e2 : am_rn 12 265 [.inr (.inr (some m)), .inl a1] hx = some (.inl (some (.inl bb)), hm, cm, sm) := e2
  replace e3 : am_rn 12 159 [.inr (.inr (some m))] hm = some (.inl (some (.inl kx)), ht, 0, 0) := e3
  refine ⟨ht, c + cx + cm + 0, s + sx + sm + 0, ?_, by omega, by omega⟩
  refine q_aload 876 rfl rfl rfl ?_
  refine q_aload 877 rfl rfl rfl ?_
  refine q_iload 879 rfl rfl rfl ?_
  refine q_push 880 rfl rfl ?_
  refine q_bin 1 881 rfl (by decide) rfl ?_
  refine q_sld (x := a1) 882 rfl (by decide) (Nat.le_of_ble_eq_true rfl) rfl rfl ?_
  refine q_aload 883 rfl rfl rfl ?_
  refine q_call3s 886 rfl e1 rfl rfl l1 rfl ?_
  refine q_istore 888 rfl rfl ?_
  refine q_aload 889 rfl rfl rfl ?_
  refine q_aload 890 rfl rfl rfl ?_
  refine q_iload 892 rfl rfl rfl ?_
  refine q_push 893 rfl rfl ?_
  refine q_bin 1 894 rfl (by decide) rfl ?_
  refine q_sld (x := a1) 895 rfl (by decide) (Nat.le_of_ble_eq_true rfl) rfl rfl ?_
  refine q_call2s 898 rfl e2 rfl (am_rcE hf1) l2 rfl ?_
  refine q_istore 900 rfl rfl ?_
  refine q_aload 901 rfl rfl rfl ?_
  refine q_call1s 904 rfl e3 rfl (am_rcE hf2) l3 rfl ?_
  refine q_iload 906 rfl rfl rfl ?_
  refine q_c2 911 rfl rfl (if_pos rfl) ?_
  refine q_iload 913 rfl rfl rfl ?_
  by_cases hk : kx = 0
  · obtain ⟨xs, hb, hb1, hb2⟩ := hz hk
    refine q_c1 916 rfl rfl (if_pos hk) ?_
    refine q_aload 917 rfl rfl rfl ?_
    refine q_push 918 rfl rfl ?_
    refine q_lald 919 rfl hb (by decide) (Nat.lt_of_lt_of_eq (by decide) hb1.symm) hb2 rfl ?_
    refine q_iload 921 rfl rfl rfl ?_
    refine q_un (.inr (.inl bb.toInt64)) 922 rfl rfl rfl ?_
    refine q_binL (.inl 0) 923 rfl (lg_self _) rfl ?_
    refine q_c1 928 rfl rfl (if_pos rfl) ?_
    refine q_goto 1055 rfl rfl ?_
    refine q_iinc 6 1058 rfl rfl (by decide) rfl ?_
    refine q_goto 23 rfl rfl ?_
    refine q_iload 25 rfl rfl rfl ?_
    refine q_aload 26 rfl rfl rfl ?_
    refine q_slen 27 rfl rfl ?_
    refine q_push 29 rfl rfl ?_
    refine q_bin 0 30 rfl (show Int32.ofNat 6 - 6 = 0 from by decide) rfl ?_
    refine q_c2 1061 rfl rfl (if_pos (by decide)) ?_
    refine q_push 1062 rfl rfl ?_
    exact q_fin rfl rfl rfl
  · refine q_c1 928 rfl rfl (if_neg hk) ?_
    refine q_goto 1055 rfl rfl ?_
    refine q_iinc 6 1058 rfl rfl (by decide) rfl ?_
    refine q_goto 23 rfl rfl ?_
    refine q_iload 25 rfl rfl rfl ?_
    refine q_aload 26 rfl rfl rfl ?_
    refine q_slen 27 rfl rfl ?_
    refine q_push 29 rfl rfl ?_
    refine q_bin 0 30 rfl (show Int32.ofNat 6 - 6 = 0 from by decide) rfl ?_
    refine q_c2 1061 rfl rfl (if_pos (by decide)) ?_
    refine q_push 1062 rfl rfl ?_
    exact q_fin rfl rfl rfl
theorem g_redexes (H : am_ck h m o 278 266 [.inl a1]) : ∃ (h' : am_h) (c' s' : Nat), am_it am_J am_X (am_GL (b, [a0, a1, a2, a3, a4, a5])) (am_rn 12) 281 none (n + 120) (931, [(4, .inl 0), (3, .inr (.inr (some o))), (2, .inr (.inr (some m))), (1, .inr (.inr (some 1))), (0, .inr (.inr (some 0)))], [], h, c, s) = some (.inl (.inl (some (.inl 1)), h', c', s')) ∧ c' ≤ c + 1000 ∧ s' ≤ s + 10000 := by
  obtain ⟨kx, bb, hx, hm, ht, cx, sx, cm, sm, e1, e2, e3, l1, l2, l3, k1, k2, ⟨f1, hf1⟩, ⟨f2, hf2⟩, hz⟩ := H
  replace e1 : am_rn 12 278 [.inr (.inr (some 1)), .inl a1, .inr (.inr (some o))] h = some (.inl (some (.inl kx)), hx, cx, sx) := e1
  replace e2 : am_rn 12 266 [.inr (.inr (some m)), .inl a1] hx = some (.inl (some (.inl bb)), hm, cm, sm) := e2
  replace e3 : am_rn 12 159 [.inr (.inr (some m))] hm = some (.inl (some (.inl kx)), ht, 0, 0) := e3
  refine ⟨ht, c + cx + cm + 0, s + sx + sm + 0, ?_, by omega, by omega⟩
  refine q_aload 932 rfl rfl rfl ?_
  refine q_aload 933 rfl rfl rfl ?_
  refine q_iload 935 rfl rfl rfl ?_
  refine q_push 936 rfl rfl ?_
  refine q_bin 1 937 rfl (by decide) rfl ?_
  refine q_sld (x := a1) 938 rfl (by decide) (Nat.le_of_ble_eq_true rfl) rfl rfl ?_
  refine q_aload 939 rfl rfl rfl ?_
  refine q_call3s 942 rfl e1 rfl rfl l1 rfl ?_
  refine q_istore 944 rfl rfl ?_
  refine q_aload 945 rfl rfl rfl ?_
  refine q_aload 946 rfl rfl rfl ?_
  refine q_iload 948 rfl rfl rfl ?_
  refine q_push 949 rfl rfl ?_
  refine q_bin 1 950 rfl (by decide) rfl ?_
  refine q_sld (x := a1) 951 rfl (by decide) (Nat.le_of_ble_eq_true rfl) rfl rfl ?_
  refine q_call2s 954 rfl e2 rfl (am_rcE hf1) l2 rfl ?_
  refine q_istore 956 rfl rfl ?_
  refine q_aload 957 rfl rfl rfl ?_
  refine q_call1s 960 rfl e3 rfl (am_rcE hf2) l3 rfl ?_
  refine q_iload 962 rfl rfl rfl ?_
  refine q_c2 967 rfl rfl (if_pos rfl) ?_
  refine q_iload 969 rfl rfl rfl ?_
  by_cases hk : kx = 0
  · obtain ⟨xs, hb, hb1, hb2⟩ := hz hk
    refine q_c1 972 rfl rfl (if_pos hk) ?_
    refine q_aload 973 rfl rfl rfl ?_
    refine q_push 974 rfl rfl ?_
    refine q_lald 975 rfl hb (by decide) (Nat.lt_of_lt_of_eq (by decide) hb1.symm) hb2 rfl ?_
    refine q_iload 977 rfl rfl rfl ?_
    refine q_un (.inr (.inl bb.toInt64)) 978 rfl rfl rfl ?_
    refine q_binL (.inl 0) 979 rfl (lg_self _) rfl ?_
    refine q_c1 984 rfl rfl (if_pos rfl) ?_
    refine q_goto 1055 rfl rfl ?_
    refine q_iinc 6 1058 rfl rfl (by decide) rfl ?_
    refine q_goto 23 rfl rfl ?_
    refine q_iload 25 rfl rfl rfl ?_
    refine q_aload 26 rfl rfl rfl ?_
    refine q_slen 27 rfl rfl ?_
    refine q_push 29 rfl rfl ?_
    refine q_bin 0 30 rfl (show Int32.ofNat 6 - 6 = 0 from by decide) rfl ?_
    refine q_c2 1061 rfl rfl (if_pos (by decide)) ?_
    refine q_push 1062 rfl rfl ?_
    exact q_fin rfl rfl rfl
  · refine q_c1 984 rfl rfl (if_neg hk) ?_
    refine q_goto 1055 rfl rfl ?_
    refine q_iinc 6 1058 rfl rfl (by decide) rfl ?_
    refine q_goto 23 rfl rfl ?_
    refine q_iload 25 rfl rfl rfl ?_
    refine q_aload 26 rfl rfl rfl ?_
    refine q_slen 27 rfl rfl ?_
    refine q_push 29 rfl rfl ?_
    refine q_bin 0 30 rfl (show Int32.ofNat 6 - 6 = 0 from by decide) rfl ?_
    refine q_c2 1061 rfl rfl (if_pos (by decide)) ?_
    refine q_push 1062 rfl rfl ?_
    exact q_fin rfl rfl rfl
theorem g_trial (H : am_ck h m o 279 223 [.inl a1, .inl a2]) : ∃ (h' : am_h) (c' s' : Nat), am_it am_J am_X (am_GL (b, [a0, a1, a2, a3, a4, a5])) (am_rn 12) 281 none (n + 120) (987, [(4, .inl 0), (3, .inr (.inr (some o))), (2, .inr (.inr (some m))), (1, .inr (.inr (some 1))), (0, .inr (.inr (some 0)))], [], h, c, s) = some (.inl (.inl (some (.inl 1)), h', c', s')) ∧ c' ≤ c + 1000 ∧ s' ≤ s + 10000 := by
  obtain ⟨kx, bb, hx, hm, ht, cx, sx, cm, sm, e1, e2, e3, l1, l2, l3, k1, k2, ⟨f1, hf1⟩, ⟨f2, hf2⟩, hz⟩ := H
  replace e1 : am_rn 12 279 [.inr (.inr (some 1)), .inl a1, .inl a2, .inr (.inr (some o))] h = some (.inl (some (.inl kx)), hx, cx, sx) := e1
  replace e2 : am_rn 12 223 [.inr (.inr (some m)), .inl a1, .inl a2] hx = some (.inl (some (.inl bb)), hm, cm, sm) := e2
  replace e3 : am_rn 12 159 [.inr (.inr (some m))] hm = some (.inl (some (.inl kx)), ht, 0, 0) := e3
  refine ⟨ht, c + cx + cm + 0, s + sx + sm + 0, ?_, by omega, by omega⟩
  refine q_aload 988 rfl rfl rfl ?_
  refine q_aload 989 rfl rfl rfl ?_
  refine q_iload 991 rfl rfl rfl ?_
  refine q_push 992 rfl rfl ?_
  refine q_bin 1 993 rfl (by decide) rfl ?_
  refine q_sld (x := a1) 994 rfl (by decide) (Nat.le_of_ble_eq_true rfl) rfl rfl ?_
  refine q_aload 995 rfl rfl rfl ?_
  refine q_iload 997 rfl rfl rfl ?_
  refine q_push 998 rfl rfl ?_
  refine q_bin 2 999 rfl (by decide) rfl ?_
  refine q_sld (x := a2) 1000 rfl (by decide) (Nat.le_of_ble_eq_true rfl) rfl rfl ?_
  refine q_aload 1001 rfl rfl rfl ?_
  refine q_call4s 1004 rfl e1 rfl rfl l1 rfl ?_
  refine q_istore 1006 rfl rfl ?_
  refine q_aload 1007 rfl rfl rfl ?_
  refine q_aload 1008 rfl rfl rfl ?_
  refine q_iload 1010 rfl rfl rfl ?_
  refine q_push 1011 rfl rfl ?_
  refine q_bin 1 1012 rfl (by decide) rfl ?_
  refine q_sld (x := a1) 1013 rfl (by decide) (Nat.le_of_ble_eq_true rfl) rfl rfl ?_
  refine q_aload 1014 rfl rfl rfl ?_
  refine q_iload 1016 rfl rfl rfl ?_
  refine q_push 1017 rfl rfl ?_
  refine q_bin 2 1018 rfl (by decide) rfl ?_
  refine q_sld (x := a2) 1019 rfl (by decide) (Nat.le_of_ble_eq_true rfl) rfl rfl ?_
  refine q_call3s 1022 rfl e2 rfl (am_rcE hf1) l2 rfl ?_
  refine q_istore 1024 rfl rfl ?_
  refine q_aload 1025 rfl rfl rfl ?_
  refine q_call1s 1028 rfl e3 rfl (am_rcE hf2) l3 rfl ?_
  refine q_iload 1030 rfl rfl rfl ?_
  refine q_c2 1035 rfl rfl (if_pos rfl) ?_
  refine q_iload 1037 rfl rfl rfl ?_
  by_cases hk : kx = 0
  · obtain ⟨xs, hb, hb1, hb2⟩ := hz hk
    refine q_c1 1040 rfl rfl (if_pos hk) ?_
    refine q_aload 1041 rfl rfl rfl ?_
    refine q_push 1042 rfl rfl ?_
    refine q_lald 1043 rfl hb (by decide) (Nat.lt_of_lt_of_eq (by decide) hb1.symm) hb2 rfl ?_
    refine q_iload 1045 rfl rfl rfl ?_
    refine q_un (.inr (.inl bb.toInt64)) 1046 rfl rfl rfl ?_
    refine q_binL (.inl 0) 1047 rfl (lg_self _) rfl ?_
    refine q_c1 1052 rfl rfl (if_pos rfl) ?_
    refine q_goto 1055 rfl rfl ?_
    refine q_iinc 6 1058 rfl rfl (by decide) rfl ?_
    refine q_goto 23 rfl rfl ?_
    refine q_iload 25 rfl rfl rfl ?_
    refine q_aload 26 rfl rfl rfl ?_
    refine q_slen 27 rfl rfl ?_
    refine q_push 29 rfl rfl ?_
    refine q_bin 0 30 rfl (show Int32.ofNat 6 - 6 = 0 from by decide) rfl ?_
    refine q_c2 1061 rfl rfl (if_pos (by decide)) ?_
    refine q_push 1062 rfl rfl ?_
    exact q_fin rfl rfl rfl
  · refine q_c1 1052 rfl rfl (if_neg hk) ?_
    refine q_goto 1055 rfl rfl ?_
    refine q_iinc 6 1058 rfl rfl (by decide) rfl ?_
    refine q_goto 23 rfl rfl ?_
    refine q_iload 25 rfl rfl rfl ?_
    refine q_aload 26 rfl rfl rfl ?_
    refine q_slen 27 rfl rfl ?_
    refine q_push 29 rfl rfl ?_
    refine q_bin 0 30 rfl (show Int32.ofNat 6 - 6 = 0 from by decide) rfl ?_
    refine q_c2 1061 rfl rfl (if_pos (by decide)) ?_
    refine q_push 1062 rfl rfl ?_
    exact q_fin rfl rfl rfl
theorem p_six {fx : List am_v} (hX : h[1]? = some (.inr (9, fx))) (Hfeed : ∀ v1 v2 v3 v4 v5 : Int32, am_cq h m 130 164 [.inl v1, .inl v2, .inl v3, .inl v4, .inl v5]) (Htell : ∀ v1 : Int32, am_ck h m o 267 187 [.inl v1]) (Hfault : am_cq h m 132 188 []) (Hagain : am_cq h m 133 204 []) (Hstep : ∀ v1 : Int32, am_ck h m o 268 220 [.inl v1]) (Hrun : ∀ v1 v2 : Int32, am_ck h m o 269 221 [.inl v1, .inl v2]) (Hcount : ∀ v1 : Int32, am_ck h m o 270 250 [.inl v1]) (Hnode : ∀ v1 v2 : Int32, am_ck h m o 271 251 [.inl v1, .inl v2]) (Hactive : ∀ v1 v2 : Int32, am_ck h m o 272 252 [.inl v1, .inl v2]) (Hwanted : ∀ v1 : Int32, am_ck h m o 273 253 [.inl v1]) (Hpart : ∀ v1 v2 : Int32, am_ck h m o 274 256 [.inl v1, .inl v2]) (Hsay : ∀ v1 : Int32, am_ck h m o 275 262 [.inl v1]) (Hsaid : ∀ v1 : Int32, am_cq h m 142 263 [.inl v1]) (Hsame : ∀ v1 v2 : Int32, am_ck h m o 276 264 [.inl v1, .inl v2]) (Hplain : ∀ v1 : Int32, am_ck h m o 277 265 [.inl v1]) (Hredexes : ∀ v1 : Int32, am_ck h m o 278 266 [.inl v1]) (Htrial : ∀ v1 v2 : Int32, am_ck h m o 279 223 [.inl v1, .inl v2]) (HB : ∀ (v1 v2 kx bb : Int32) (hx hm : am_h) (cx sx cm sm : Nat), am_rn 12 276 (am_ref 1 :: ([.inl v1, .inl v2] ++ [am_ref o])) h = some (.inl (some (.inl kx)), hx, cx, sx) → am_rn 12 264 (am_ref m :: [.inl v1, .inl v2]) hx = some (.inl (some (.inl bb)), hm, cm, sm) → bb = 0 ∨ bb = 1) : ∃ (h' : am_h) (c' s' : Nat), am_it am_J am_X (am_GL (b, [a0, a1, a2, a3, a4, a5])) (am_rn 12) 281 none 150 (23, [(4, .inl 0), (3, .inr (.inr (some o))), (2, .inr (.inr (some m))), (1, .inr (.inr (some 1))), (0, .inr (.inr (some 0)))], [], h, c, s) = some (.inl (.inl (some (.inl 1)), h', c', s')) ∧ c' ≤ c + 1000 ∧ s' ≤ s + 10000 := by
  obtain ⟨j, hj, he⟩ := pk_andE a0 (m := 31) 5 (by decide)
  match j, hj, he with
  | 0, _, he =>
    obtain ⟨h', c', s', e, u1, u2⟩ := g_feed (b := b) (a0 := a0) (a1 := a1) (a2 := a2) (a3 := a3) (a4 := a4) (a5 := a5) (n := 18) (c := c) (s := s) hX (Hfeed a1 a2 a3 a4 a5)
    exact ⟨h', c', s', p_to he (by decide) e, u1, u2⟩
  | 1, _, he =>
    obtain ⟨h', c', s', e, u1, u2⟩ := g_tell (b := b) (a0 := a0) (a1 := a1) (a2 := a2) (a3 := a3) (a4 := a4) (a5 := a5) (n := 18) (c := c) (s := s) (Htell a1)
    exact ⟨h', c', s', p_to he (by decide) e, u1, u2⟩
  | 2, _, he =>
    obtain ⟨h', c', s', e, u1, u2⟩ := g_fault (b := b) (a0 := a0) (a1 := a1) (a2 := a2) (a3 := a3) (a4 := a4) (a5 := a5) (n := 18) (c := c) (s := s) hX Hfault
    exact ⟨h', c', s', p_to he (by decide) e, u1, u2⟩
  | 3, _, he =>
    obtain ⟨h', c', s', e, u1, u2⟩ := g_again (b := b) (a0 := a0) (a1 := a1) (a2 := a2) (a3 := a3) (a4 := a4) (a5 := a5) (n := 18) (c := c) (s := s) hX Hagain
    exact ⟨h', c', s', p_to he (by decide) e, u1, u2⟩
  | 4, _, he =>
    obtain ⟨h', c', s', e, u1, u2⟩ := g_step (b := b) (a0 := a0) (a1 := a1) (a2 := a2) (a3 := a3) (a4 := a4) (a5 := a5) (n := 18) (c := c) (s := s) (Hstep a1)
    exact ⟨h', c', s', p_to he (by decide) e, u1, u2⟩
  | 5, _, he =>
    obtain ⟨h', c', s', e, u1, u2⟩ := g_run (b := b) (a0 := a0) (a1 := a1) (a2 := a2) (a3 := a3) (a4 := a4) (a5 := a5) (n := 18) (c := c) (s := s) (Hrun a1 a2)
    exact ⟨h', c', s', p_to he (by decide) e, u1, u2⟩
  | 6, _, he =>
    obtain ⟨h', c', s', e, u1, u2⟩ := g_count (b := b) (a0 := a0) (a1 := a1) (a2 := a2) (a3 := a3) (a4 := a4) (a5 := a5) (n := 18) (c := c) (s := s) (Hcount a1)
    exact ⟨h', c', s', p_to he (by decide) e, u1, u2⟩
  | 7, _, he =>
    obtain ⟨h', c', s', e, u1, u2⟩ := g_node (b := b) (a0 := a0) (a1 := a1) (a2 := a2) (a3 := a3) (a4 := a4) (a5 := a5) (n := 18) (c := c) (s := s) (Hnode a1 a2)
    exact ⟨h', c', s', p_to he (by decide) e, u1, u2⟩
  | 8, _, he =>
    obtain ⟨h', c', s', e, u1, u2⟩ := g_active (b := b) (a0 := a0) (a1 := a1) (a2 := a2) (a3 := a3) (a4 := a4) (a5 := a5) (n := 18) (c := c) (s := s) (Hactive a1 a2)
    exact ⟨h', c', s', p_to he (by decide) e, u1, u2⟩
  | 9, _, he =>
    obtain ⟨h', c', s', e, u1, u2⟩ := g_wanted (b := b) (a0 := a0) (a1 := a1) (a2 := a2) (a3 := a3) (a4 := a4) (a5 := a5) (n := 18) (c := c) (s := s) (Hwanted a1)
    exact ⟨h', c', s', p_to he (by decide) e, u1, u2⟩
  | 10, _, he =>
    obtain ⟨h', c', s', e, u1, u2⟩ := g_part (b := b) (a0 := a0) (a1 := a1) (a2 := a2) (a3 := a3) (a4 := a4) (a5 := a5) (n := 18) (c := c) (s := s) (Hpart a1 a2)
    exact ⟨h', c', s', p_to he (by decide) e, u1, u2⟩
  | 11, _, he =>
    obtain ⟨h', c', s', e, u1, u2⟩ := g_say (b := b) (a0 := a0) (a1 := a1) (a2 := a2) (a3 := a3) (a4 := a4) (a5 := a5) (n := 18) (c := c) (s := s) (Hsay a1)
    exact ⟨h', c', s', p_to he (by decide) e, u1, u2⟩
  | 12, _, he =>
    obtain ⟨h', c', s', e, u1, u2⟩ := g_said (b := b) (a0 := a0) (a1 := a1) (a2 := a2) (a3 := a3) (a4 := a4) (a5 := a5) (n := 18) (c := c) (s := s) hX (Hsaid a1)
    exact ⟨h', c', s', p_to he (by decide) e, u1, u2⟩
  | 13, _, he =>
    obtain ⟨h', c', s', e, u1, u2⟩ := g_same (b := b) (a0 := a0) (a1 := a1) (a2 := a2) (a3 := a3) (a4 := a4) (a5 := a5) (n := 18) (c := c) (s := s) (Hsame a1 a2) (HB a1 a2)
    exact ⟨h', c', s', p_to he (by decide) e, u1, u2⟩
  | 14, _, he =>
    obtain ⟨h', c', s', e, u1, u2⟩ := g_plain (b := b) (a0 := a0) (a1 := a1) (a2 := a2) (a3 := a3) (a4 := a4) (a5 := a5) (n := 18) (c := c) (s := s) (Hplain a1)
    exact ⟨h', c', s', p_to he (by decide) e, u1, u2⟩
  | 15, _, he =>
    obtain ⟨h', c', s', e, u1, u2⟩ := g_redexes (b := b) (a0 := a0) (a1 := a1) (a2 := a2) (a3 := a3) (a4 := a4) (a5 := a5) (n := 18) (c := c) (s := s) (Hredexes a1)
    exact ⟨h', c', s', p_to he (by decide) e, u1, u2⟩
  | 16, _, he =>
    obtain ⟨h', c', s', e, u1, u2⟩ := g_trial (b := b) (a0 := a0) (a1 := a1) (a2 := a2) (a3 := a3) (a4 := a4) (a5 := a5) (n := 18) (c := c) (s := s) (Htrial a1 a2)
    exact ⟨h', c', s', p_to he (by decide) e, u1, u2⟩
  | 17, _, he => exact ⟨h, c, s, p_to he (by decide) (p_none (n := 126)), Nat.le_add_right _ _, Nat.le_add_right _ _⟩
  | 18, _, he => exact ⟨h, c, s, p_to he (by decide) (p_none (n := 126)), Nat.le_add_right _ _, Nat.le_add_right _ _⟩
  | 19, _, he => exact ⟨h, c, s, p_to he (by decide) (p_none (n := 126)), Nat.le_add_right _ _, Nat.le_add_right _ _⟩
  | 20, _, he => exact ⟨h, c, s, p_to he (by decide) (p_none (n := 126)), Nat.le_add_right _ _, Nat.le_add_right _ _⟩
  | 21, _, he => exact ⟨h, c, s, p_to he (by decide) (p_none (n := 126)), Nat.le_add_right _ _, Nat.le_add_right _ _⟩
  | 22, _, he => exact ⟨h, c, s, p_to he (by decide) (p_none (n := 126)), Nat.le_add_right _ _, Nat.le_add_right _ _⟩
  | 23, _, he => exact ⟨h, c, s, p_to he (by decide) (p_none (n := 126)), Nat.le_add_right _ _, Nat.le_add_right _ _⟩
  | 24, _, he => exact ⟨h, c, s, p_to he (by decide) (p_none (n := 126)), Nat.le_add_right _ _, Nat.le_add_right _ _⟩
  | 25, _, he => exact ⟨h, c, s, p_to he (by decide) (p_none (n := 126)), Nat.le_add_right _ _, Nat.le_add_right _ _⟩
  | 26, _, he => exact ⟨h, c, s, p_to he (by decide) (p_none (n := 126)), Nat.le_add_right _ _, Nat.le_add_right _ _⟩
  | 27, _, he => exact ⟨h, c, s, p_to he (by decide) (p_none (n := 126)), Nat.le_add_right _ _, Nat.le_add_right _ _⟩
  | 28, _, he => exact ⟨h, c, s, p_to he (by decide) (p_none (n := 126)), Nat.le_add_right _ _, Nat.le_add_right _ _⟩
  | 29, _, he => exact ⟨h, c, s, p_to he (by decide) (p_none (n := 126)), Nat.le_add_right _ _, Nat.le_add_right _ _⟩
  | 30, _, he => exact ⟨h, c, s, p_to he (by decide) (p_none (n := 126)), Nat.le_add_right _ _, Nat.le_add_right _ _⟩
  | 31, _, he => exact ⟨h, c, s, p_to he (by decide) (p_none (n := 126)), Nat.le_add_right _ _, Nat.le_add_right _ _⟩
  | z + 32, hj, _ => exact absurd hj (Nat.not_lt.mpr (Nat.le_add_left 32 z))
end AMU
theorem am_un1 {xs : List Int32} {k : Nat} (e : xs.length = k + 1) : ∃ (a : Int32) (ys : List Int32), xs = a :: ys ∧ ys.length = k := by
  cases xs with
  | nil => exact absurd e (Nat.succ_ne_zero k).symm
  | cons a ys => exact ⟨a, ys, rfl, Nat.succ.inj e⟩
theorem am_un0 {xs : List Int32} (e : xs.length = 0) : xs = [] := by
  cases xs with
  | nil => rfl
  | cons a ys => exact absurd e (Nat.succ_ne_zero _)
theorem am_lawG {hX hM h : am_h} {cX sX cM sM m o : Nat} {fx : List am_v} (eX : am_rn 12 129 [.inr (.inr (some 1))] am_x0 = some (.inl none, hX, cX, sX)) (hm : hX.length = m) (oX : am_okH hX.length hX = true) (m2 : 1 < m) (eM : am_rn 12 158 [.inr (.inr (some m))] (hX ++ [am_m0]) = some (.inl none, hM, cM, sM)) (oM : am_okH hM.length hM = true) (ho : hM.length = o) (mo : m < o) (hh : hM ++ [(.inl (.inr (.inl (1, 0, []))) : am_e)] = h) (r1 : cX + cM ≤ 590000) (r2 : sX + sM ≤ 7290000) (hX1 : h[1]? = some (.inr (9, fx))) (Hfeed : ∀ v1 v2 v3 v4 v5 : Int32, am_cq h m 130 164 [.inl v1, .inl v2, .inl v3, .inl v4, .inl v5]) (Htell : ∀ v1 : Int32, am_ck h m o 267 187 [.inl v1]) (Hfault : am_cq h m 132 188 []) (Hagain : am_cq h m 133 204 []) (Hstep : ∀ v1 : Int32, am_ck h m o 268 220 [.inl v1]) (Hrun : ∀ v1 v2 : Int32, am_ck h m o 269 221 [.inl v1, .inl v2]) (Hcount : ∀ v1 : Int32, am_ck h m o 270 250 [.inl v1]) (Hnode : ∀ v1 v2 : Int32, am_ck h m o 271 251 [.inl v1, .inl v2]) (Hactive : ∀ v1 v2 : Int32, am_ck h m o 272 252 [.inl v1, .inl v2]) (Hwanted : ∀ v1 : Int32, am_ck h m o 273 253 [.inl v1]) (Hpart : ∀ v1 v2 : Int32, am_ck h m o 274 256 [.inl v1, .inl v2]) (Hsay : ∀ v1 : Int32, am_ck h m o 275 262 [.inl v1]) (Hsaid : ∀ v1 : Int32, am_cq h m 142 263 [.inl v1]) (Hsame : ∀ v1 v2 : Int32, am_ck h m o 276 264 [.inl v1, .inl v2]) (Hplain : ∀ v1 : Int32, am_ck h m o 277 265 [.inl v1]) (Hredexes : ∀ v1 : Int32, am_ck h m o 278 266 [.inl v1]) (Htrial : ∀ v1 v2 : Int32, am_ck h m o 279 223 [.inl v1, .inl v2]) (HB : ∀ (v1 v2 kx bb : Int32) (hx hm : am_h) (cx sx cm sm : Nat), am_rn 12 276 (am_ref 1 :: ([.inl v1, .inl v2] ++ [am_ref o])) h = some (.inl (some (.inl kx)), hx, cx, sx) → am_rn 12 264 (am_ref m :: [.inl v1, .inl v2]) hx = some (.inl (some (.inl bb)), hm, cm, sm) → bb = 0 ∨ bb = 1) (Y : am_y) (hY : Y.2.length ≤ 6) : ∃ (n c k : Nat) (h' : am_h), am_it am_J am_X (am_GL Y) (am_rn 12) 281 none n (0, [(0, .inr (.inr (some 0)))], [], [.inl (.inl (0, 0, []))], 0, 0) = some (.inl (.inl (some (.inl 1)), h', c, k)) ∧ c ≤ 600002 ∧ k ≤ 7302232 := by
  obtain ⟨b, xs⟩ := Y
  replace hY : xs.length ≤ 6 := hY
  by_cases h6 : xs.length < 6
  · refine ⟨163, 0 + 1 + cX + 1 + cM + 1, 0 + 18 + sX + 76 + sM + 1, h, ?_, by omega, by omega⟩
    refine p_first eX hm oX m2 eM oM ho mo (n := 150) ?_
    rw [hh]
    exact p_short (n := 140) h6
  · have e6 : xs.length = 6 := by omega
    obtain ⟨a0, y0, rfl, e5⟩ := am_un1 e6
    obtain ⟨a1, y1, rfl, e4⟩ := am_un1 e5
    obtain ⟨a2, y2, rfl, e3⟩ := am_un1 e4
    obtain ⟨a3, y3, rfl, e2⟩ := am_un1 e3
    obtain ⟨a4, y4, rfl, e1⟩ := am_un1 e2
    obtain ⟨a5, y5, rfl, e0⟩ := am_un1 e1
    obtain rfl := am_un0 e0
    obtain ⟨h9, c9, s9, e, u1, u2⟩ := p_six (b := b) (a0 := a0) (a1 := a1) (a2 := a2) (a3 := a3) (a4 := a4) (a5 := a5) (m := m) (o := o) (h := h) (c := 0 + 1 + cX + 1 + cM + 1) (s := 0 + 18 + sX + 76 + sM + 1) hX1 Hfeed Htell Hfault Hagain Hstep Hrun Hcount Hnode Hactive Hwanted Hpart Hsay Hsaid Hsame Hplain Hredexes Htrial HB
    refine ⟨163, c9, s9, h9, ?_, by omega, by omega⟩
    refine p_first eX hm oX m2 eM oM ho mo (n := 150) ?_
    rw [hh]
    exact e
