section AMM
variable {p : Program} {l : Launch} {e : Env} {R : Room} {s : State} {m : MethodId} {args : Array Value} {below : List Frame} {meth : Method} {c : Code} {Q : State → Prop} {D : va_G} {cl : List vw_C} {cy : am_cy} {Y : am_y} {A : Nat → Prop} {nL : Nat} {Z : am_z} {I K : am_i} {pc : Nat} {H : Heap} {locs : List Loc}
theorem as_ixor (hd : decode I.2.1 pc = .ok (.ixor, 1)) : am_St cl Y Z I pc (ai_bin 1 (fun x y => x ^^^ y)) := by
  intro p l e R s m args below meth c Q D cy A C S S' hpc hf
  obtain ⟨pc', lv, st, h, k, n⟩ := S
  obtain rfl : pc' = pc := hpc
  simp only [ai_bin] at hf
  split at hf <;> first | (cases hf; done) | skip
  rename_i y x r
  cases hf
  refine ⟨⟨Nat.le_refl _, Nat.le_refl _⟩, fun α hc1 hc2 hk => ?_⟩
  replace hk := am_k0 hk
  intro H locs ls hlen hP hD hS hl
  exact lv_ixor C.1.1 C.1.2.1 hd (hk H locs ls hlen hP hD hS hl)
def am_cp (xs ys : Nat × Int32 × List Int32) (sp dp n : Nat) : Nat × Int32 × List Int32 :=
  if sp = 0 ∧ dp = 0 ∧ n = ys.1 then (ys.1, xs.2.1, xs.2.2.take n)
  else (ys.1, ys.2.1, (ys.2.2.take dp ++ List.replicate (dp - ys.2.2.length) ys.2.1) ++ ((List.range n).map (fun i => xs.2.2.getD (sp + i) xs.2.1) ++ ys.2.2.drop (dp + n)))
theorem am_cp_len {xs ys : Nat × Int32 × List Int32} {sp dp n : Nat} : (am_cp xs ys sp dp n).1 = ys.1 := by
  unfold am_cp
  split <;> rfl
theorem am_cp_get {xs ys : Nat × Int32 × List Int32} {sp dp n j : Nat} (hj : j < ys.1) : va_cpy (fun j => xs.2.2.getD j xs.2.1) (fun j => ys.2.2.getD j ys.2.1) sp dp n j = (am_cp xs ys sp dp n).2.2.getD j (am_cp xs ys sp dp n).2.1 := by
  unfold am_cp
  by_cases hc : sp = 0 ∧ dp = 0 ∧ n = ys.1
  · rw [if_pos hc]
    obtain ⟨rfl, rfl, rfl⟩ := hc
    unfold va_cpy
    rw [if_pos ⟨Nat.zero_le _, by omega⟩]
    have e9 : 0 + (j - 0) = j := by omega
    rw [e9]
    simp only [List.getD]
    rw [List.getElem?_take_of_lt hj]
  · rw [if_neg hc]
    unfold va_cpy
    simp only [List.getD]
    have hl1 : (ys.2.2.take dp ++ List.replicate (dp - ys.2.2.length) ys.2.1).length = dp := by
      rw [List.length_append, List.length_take, List.length_replicate]
      omega
    by_cases h1 : j < dp
    · rw [if_neg (by omega), List.getElem?_append_left (by rw [hl1]; exact h1)]
      by_cases h2 : j < ys.2.2.length
      · rw [List.getElem?_append_left (by rw [List.length_take]; omega), List.getElem?_take_of_lt h1]
      · rw [List.getElem?_append_right (by rw [List.length_take]; omega), List.getElem?_replicate, if_pos (by rw [List.length_take]; omega), List.getElem?_eq_none (by omega)]
        rfl
    · rw [List.getElem?_append_right (by rw [hl1]; omega), hl1]
      by_cases h2 : j < dp + n
      · rw [if_pos (by omega), List.getElem?_append_left (by rw [List.length_map, List.length_range]; omega), List.getElem?_map, List.getElem?_range (by omega)]
        rfl
      · rw [if_neg (by omega), List.getElem?_append_right (by rw [List.length_map, List.length_range]; omega), List.length_map, List.length_range, List.getElem?_drop]
        have e9 : dp + n + (j - dp - n) = j := by omega
        rw [e9]
def ai_copy : am_s → Option am_s := fun S => match S.2.2.1 with
  | .inl n :: .inl dp :: .inr (.inr (some a)) :: .inl sp :: .inr (.inr (some a0)) :: r => match S.2.2.2.1[a0]?, S.2.2.2.1[a]? with
    | some (.inl (.inl xs)), some (.inl (.inl ys)) => if a ≠ 0 ∧ a0 ≠ 0 ∧ am_words r ≤ 40 ∧ ¬ sp < 0 ∧ ¬ dp < 0 ∧ ¬ n < 0 ∧ sp.toNatClampNeg + n.toNatClampNeg ≤ xs.1 ∧ dp.toNatClampNeg + n.toNatClampNeg ≤ ys.1 then
        some (S.1 + 3, S.2.1, r, S.2.2.2.1.set a (.inl (.inl (am_cp xs ys sp.toNatClampNeg dp.toNatClampNeg n.toNatClampNeg))), S.2.2.2.2) else none
    | _, _ => none
  | _ => none
theorem as_copy {index : Nat} (hd : decode I.2.1 pc = .ok (.invokestatic index, 3)) (hm1 : Cond.methodLink I.1 index arraycopyName ∈ I.2.2.2.1) (hm2 : Cond.native arraycopyName ∈ I.2.2.2.1) (hm3 : Cond.static arraycopyName ∈ I.2.2.2.1) (hm4 : Cond.initialized "java/lang/System" ∈ I.2.2.2.1) : am_St cl Y Z I pc ai_copy := by
  intro p l e R s m args below meth c Q D cy A C S S' hpc hf
  obtain ⟨pc', lv, st, h, k, n0⟩ := S
  obtain rfl : pc' = pc := hpc
  simp only [ai_copy] at hf
  split at hf <;> first | (cases hf; done) | skip
  rename_i n dp a sp a0 r
  split at hf <;> first | (cases hf; done) | skip
  rename_i xs ys hx hy
  split at hf <;> first | (cases hf; done) | skip
  rename_i hg
  obtain ⟨ha, ha0, hw, g1, g2, g3, g4, g5⟩ := hg
  cases hf
  refine ⟨⟨Nat.le_refl _, Nat.le_refl _⟩, fun α hc1 hc2 hk => ?_⟩
  replace hk := am_k0 hk
  intro H locs ls hlen hP hD hS hl
  have hR : 200 ≤ R.locals := Nat.le_trans (by decide) C.2.2.2.2.2.2.1
  have hW : (am_W cy α h).set (a - 1) (α.getD a 0, am_E cy α (.inl (.inl (am_cp xs ys sp.toNatClampNeg dp.toNatClampNeg n.toNatClampNeg)))) = am_W cy α (h.set a (.inl (.inl (am_cp xs ys sp.toNatClampNeg dp.toNatClampNeg n.toNatClampNeg)))) := am_W_set ha _
  refine va_copyi C.1.1 C.1.2.1 (by rw [C.1.2.2.1, hl.1]) C.1.2.2.2.1 (C.1.2.2.2.2 _ hm1) (C.1.2.2.2.2 _ hm2) (C.1.2.2.2.2 _ hm3) (C.1.2.2.2.2 _ hm4) C.2.1 hP hD hS (a0 - 1) (a - 1) 0 0 (am_W_get hlen hx ha0) (am_W_get hlen hy ha) rfl rfl rfl g1 g2 g3 g4 g5 (fun i _ => rfl) (Nat.le_trans (by decide) C.2.2.2.2.2.1) (by
    rw [am_words_eq]
    have h9 : nativeFrameWords "java/lang/System" "arraycopy" 5 + 11 = 18 := by decide
    rw [h9]
    omega) hd (fun H1 locs1 hP1 hD1 hS1 => ?_)
  have hP2 := am_P_set (y := am_E cy α (.inl (.inl (am_cp xs ys sp.toNatClampNeg dp.toNatClampNeg n.toNatClampNeg)))) hP1 (fun h9 => by
    show va_at D cl (α.getD a 0, .inl (cy.1, (am_cp xs ys sp.toNatClampNeg dp.toNatClampNeg n.toNatClampNeg).1, .inl (fun j => (am_cp xs ys sp.toNatClampNeg dp.toNatClampNeg n.toNatClampNeg).2.2.getD j (am_cp xs ys sp.toNatClampNeg dp.toNatClampNeg n.toNatClampNeg).2.1))) H1
    rw [am_cp_len]
    exact am_atI (fun j hj => am_cp_get hj) h9)
  have hD2 := am_D_set (y := am_E cy α (.inl (.inl (am_cp xs ys sp.toNatClampNeg dp.toNatClampNeg n.toNatClampNeg)))) hD1
  rw [hW] at hP2 hD2
  exact hk H1 locs1 ls (hlen.set ha) hP2 hD2 hS1 hl
theorem am_rf (α : List Nat) (x : Option Nat) : am_V α (.inr (.inr x)) = va_rf (x.map (fun i => α.getD i 0)) := by cases x <;> rfl
def ai_acmpne (tgt : Nat) : am_s → Option am_s := fun S => match S.2.2.1 with
  | .inr (.inr y) :: .inr (.inr x) :: r => if am_okV S.2.2.2.1.length (.inr (.inr y)) = true ∧ am_okV S.2.2.2.1.length (.inr (.inr x)) = true ∧ y ≠ some 0 ∧ x ≠ some 0 then some (if x = y then S.1 + 3 else tgt, S.2.1, r, S.2.2.2) else none
  | _ => none
theorem am_inj {α : List Nat} {h : am_h} {x y : Option Nat} (hlen : am_al Y α h) (hD : va_D A (am_W cy α h)) (hx : am_okV h.length (.inr (.inr x)) = true) (hy : am_okV h.length (.inr (.inr y)) = true) (hx0 : x ≠ some 0) (hy0 : y ≠ some 0) (he : x.map (fun i => α.getD i 0) = y.map (fun i => α.getD i 0)) : x = y := by
  match x, y, hx, hy, hx0, hy0, he with
  | none, none, _, _, _, _, _ => rfl
  | none, some _, _, _, _, _, he => cases he
  | some _, none, _, _, _, _, he => cases he
  | some i, some j, hx, hy, hx0, hy0, he =>
    have hi : i < h.length := am_blt hx
    have hj : j < h.length := am_blt hy
    have hi0 : i ≠ 0 := fun z => hx0 (by rw [z])
    have hj0 : j ≠ 0 := fun z => hy0 (by rw [z])
    have h1 := am_W_get (cy := cy) hlen (List.getElem?_eq_getElem hi) hi0
    have h2 := am_W_get (cy := cy) hlen (List.getElem?_eq_getElem hj) hj0
    have h3 : α.getD i 0 = α.getD j 0 := Option.some.inj he
    have h4 := hD.1 (i - 1) (j - 1) _ _ h1 h2 h3
    have h5 : i = j := by omega
    rw [h5]
theorem as_acmpne {off : Int} {tgt : Nat} (hd : decode I.2.1 pc = .ok (.if_acmp .ne off, 3)) (ht : (pc : Int) + off = (tgt : Int)) : am_St cl Y Z I pc (ai_acmpne tgt) := by
  intro p l e R s m args below meth c Q D cy A C S S' hpc hf
  obtain ⟨pc', lv, st, h, k, n0⟩ := S
  obtain rfl : pc' = pc := hpc
  simp only [ai_acmpne] at hf
  split at hf <;> first | (cases hf; done) | skip
  rename_i y x r
  split at hf <;> first | (cases hf; done) | skip
  rename_i hg
  cases hf
  refine ⟨⟨Nat.le_refl _, Nat.le_refl _⟩, fun α hc1 hc2 hk => ?_⟩
  replace hk := am_k0 hk
  intro H locs ls hlen hP hD hS hl
  show W p l e R s m args below meth c H locs k n0 Q (F0 m pc' ls (am_V α (.inr (.inr y)) :: am_V α (.inr (.inr x)) :: r.map (am_V α)))
  rw [am_rf, am_rf]
  refine lv_acmp_ne C.1.1 C.1.2.1 hd ht (fun hne => ?_) (fun heq => ?_)
  · have hxy : ¬ x = y := fun z => hne (by rw [z])
    exact W.eq (g2 := F0 m (if x = y then pc' + 3 else tgt) ls (r.map (am_V α))) (by rw [if_neg hxy]) (hk H locs ls hlen hP hD hS hl)
  · have hxy : x = y := am_inj hlen hD hg.2.1 hg.1 hg.2.2.2 hg.2.2.1 heq
    exact W.eq (g2 := F0 m (if x = y then pc' + 3 else tgt) ls (r.map (am_V α))) (by rw [if_pos hxy]) (hk H locs ls hlen hP hD hS hl)
def am_PT : List Int32 := [1, 3, 3, 3, 2, 2, 1]
def am_dc (n : String) : Cond := .declares (Bundle.initS n)
def am_strs : List (Nat × String) := [(120, "the tape has not so many bytes"), (149, "0 to 60 steps"), (180, "no such count"), (186, "no such node, or nothing of that kind to tell of it"), (203, "no such active wire, or nothing of that kind to tell of it"), (209, "nothing of that kind to tell of what is wanted"), (214, "no such part or term"), (225, "no such term"), (231, "0 to 200 rounds"), (248, "nothing of that kind to tell of a trial"), (294, "no such way"), (296, "no such term can be")]
/-- the start's further facts: links within the nest; the table of ports; the script; what a throw needs; what a handler needs -/
def am_Z1 : am_z := fun _ s => va_Nw (.methodLinkNest RX9 29 yX8_init "FanNet") s ∧ va_Nw (.methodLinkNest RX9 36 yX2_init "FanNet") s ∧ va_Nw (.methodLinkNest RX9 43 yX5_init "FanNet") s ∧ va_Nw (.methodLinkNest RX2 64 yX9_isRedex "FanNet") s ∧ va_Nw (.methodLinkNest RX8 11 yX4_init "FanNet") s ∧ va_Nw (.fieldLinkNest RX1 54 "FanNet" "PORTS" "[I" "FanNet") s
def am_Z2 : am_z := fun A s => ∃ t : Nat, va_Z "FanNet" "PORTS" "[I" (.ref t) A s s.heap ∧ va_T .int t 7 (fun j => .int (am_PT.getD j 0)) A s s.heap
def am_Z3 (Y : am_y) : am_z := fun A s => va_X Y.1 Y.2.length (fun j => Y.2.getD j 0) s s.heap ∧ Y.1 < s.heap.size ∧ ¬ A Y.1
def am_Z4 : am_z := fun A s => vx_Zq Bundle.tN "UNASSIGNED_STACK" Bundle.steD A s s.heap ∧ vx_Zq Bundle.tN "SUPPRESSED_SENTINEL" Bundle.listD A s s.heap
def am_Z5 : am_z := fun _ s => (∀ q ∈ am_strs, ∃ sa, vk_R RX9 q.1 q.2 sa s) ∧ va_Nw (.castable (am_xn 0) (am_xn 0)) s ∧ va_Nw (.castable (am_xn 1) (am_xn 1)) s ∧ va_Nc (am_xn 1) (am_xn 0) s ∧ va_Nw (am_dc "java/lang/RuntimeException") s ∧ va_Nw (am_dc "java/lang/Exception") s ∧ va_Nw (am_dc "java/lang/Throwable") s
def am_Z (Y : am_y) : am_z := fun A s => am_Z1 A s ∧ am_Z2 A s ∧ am_Z3 Y A s ∧ am_Z4 A s ∧ am_Z5 A s
theorem am_Zok0 : am_Zok (am_Z Y) := by
  intro A A' s U hZ hA hsz hH hW
  obtain ⟨⟨h1, h2, h3, h4, h5, h8⟩, ⟨t, h6, h7⟩, ⟨x1, x2, x3⟩, ⟨u1, u2⟩, k1, k2, k3, k4, k5, k6, k7⟩ := hZ
  refine ⟨⟨va_Nw.warmM hW h1, va_Nw.warmM hW h2, va_Nw.warmM hW h3, va_Nw.warmM hW h4, va_Nw.warmM hW h5, va_Nw.warmF hW h8⟩, ⟨t, ?_, ?_⟩, ⟨?_, ?_, ?_⟩, ⟨?_, ?_⟩, ?_, ?_, ?_, ?_, ?_, ?_, ?_⟩
  · exact ((h6.kept hH).narrow hA).moved hW.alike
  · exact ((h7.kept hH).narrow hA).moved hW.alike
  · exact (x1.kept (hH Y.1 x2 x3)).moved hW.alike
  · exact Nat.lt_of_lt_of_le x2 hsz
  · exact fun z => x3 (hA _ z)
  · exact ((u1.kept hH).narrow hA).moved hW.alike
  · exact ((u2.kept hH).narrow hA).moved hW.alike
  · exact fun q hq => (k1 q hq).elim (fun sa h9 => ⟨sa, h9.warm hW⟩)
  · exact va_Nw.warmC hW k2
  · exact va_Nw.warmC hW k3
  · exact k4.moved hW.alike
  · exact va_Nw.warmD hW k5
  · exact va_Nw.warmD hW k6
  · exact va_Nw.warmD hW k7
theorem am_ZX0 : am_ZX Y (am_Z Y) := fun _ _ h => h.2.2.1
/-- 'throw new E(text)' -/
theorem as_throwS {x ik is ic : Nat} {text : String} (hI : I.1 = RX9) (hh0 : I.2.2.2.2.2.2 = []) (d0 : decode I.2.1 pc = .ok (.new ik, 3)) (d3 : decode I.2.1 (pc + 3) = .ok (.dup, 1)) (d4 : decode I.2.1 (pc + 4) = .ok (.ldc is, 2)) (d6 : decode I.2.1 (pc + 6) = .ok (.invokespecial ic, 3)) (d9 : decode I.2.1 (pc + 9) = .ok (.athrow, 1)) (hm1 : Cond.classLink RX9 ik (am_xn x) ∈ I.2.2.2.1) (hm2 : Cond.initialized (am_xn x) ∈ I.2.2.2.1) (hs : (is, text) ∈ am_strs) (hx : x = 0 ∨ x = 1)
    (ha : ∀ w ∈ (vx_atS RX9 ic (am_xn x) ["java/lang/RuntimeException", "java/lang/Exception"]).filter goodWord, w ∈ I.2.2.2.1) (hb9 : ∀ w ∈ (vx_atS RX9 ic (am_xn x) ["java/lang/RuntimeException", "java/lang/Exception"]).filter (fun w => !goodWord w), w ∈ [Cond.castable (am_xn x) (am_xn x), am_dc "java/lang/RuntimeException", am_dc "java/lang/Exception", am_dc "java/lang/Throwable"]) (hg : ∀ w ∈ Cond.classLink RX9 ik (am_xn x) :: Cond.initialized (am_xn x) :: vx_atS RX9 ic (am_xn x) ["java/lang/RuntimeException", "java/lang/Exception"], vx_ot w = true) (hf : Bundle.fit (am_xn x) = true) : am_Tw cl (am_Z Y) I pc x := by
  intro p l e R s m args below meth c D cy A Qc XC free mc ms C hst rest k n H locs ls hw h1 h2 h3 h4 hS hsz hfr hX
  obtain ⟨-, -, -, ⟨u1, u2⟩, k1, k2, k3, k4, k5, k6, k7⟩ := C.2.2.2.1
  obtain ⟨sa, hsa⟩ := k1 _ hs
  have hc9 : va_Nw (.castable (am_xn x) (am_xn x)) s := by rcases hx with rfl | rfl; exact k2; exact k3
  have hR1 := C.2.2.2.2.2.1
  have hR2 : 200 ≤ R.locals := Nat.le_trans (by decide) C.2.2.2.2.2.2.1
  refine vx_throwS (names := ["java/lang/RuntimeException", "java/lang/Exception"]) C.1.1 C.1.2.1 hst (by rw [← hI]; exact C.1.2.2.2.1) hf (by decide +kernel) (C.1.2.2.2.2 _ hm1) (C.1.2.2.2.2 _ hm2) hsa (vx_hat (fun w h => C.1.2.2.2.2 _ (ha w h)) hb9 (vx_c (hc9.use rfl) (vx_c (k5.use rfl) (vx_c (k6.use rfl) (vx_c (k7.use rfl) vx_n))))) hg u1 u2 hS hsz d0 d3 d4 d6 d9 (fun z hz => ?_) (by show 2 + 3 < R.frames; omega) (by show _ + (13 * (2 + 1) + 43) ≤ R.locals; omega) (Nat.le_trans h1 h3) (Nat.le_trans h2 h4) C.2.2.2.2.2.2.2.1 hX hfr h1 h2
  rw [C.2.2.2.2.2.2.2.2, hh0] at hz
  cases hz
theorem as_throwSW {x ik is ic : Nat} {text : String} (hI : I.1 = RX9) (hh0 : I.2.2.2.2.2.2 = []) (d0 : decode I.2.1 pc = .ok (.new ik, 3)) (d3 : decode I.2.1 (pc + 3) = .ok (.dup, 1)) (d4 : decode I.2.1 (pc + 4) = .ok (.ldc_w is, 3)) (d6 : decode I.2.1 (pc + 7) = .ok (.invokespecial ic, 3)) (d9 : decode I.2.1 (pc + 10) = .ok (.athrow, 1)) (hm1 : Cond.classLink RX9 ik (am_xn x) ∈ I.2.2.2.1) (hm2 : Cond.initialized (am_xn x) ∈ I.2.2.2.1) (hs : (is, text) ∈ am_strs) (hx : x = 0 ∨ x = 1)
    (ha : ∀ w ∈ (vx_atS RX9 ic (am_xn x) ["java/lang/RuntimeException", "java/lang/Exception"]).filter goodWord, w ∈ I.2.2.2.1) (hb9 : ∀ w ∈ (vx_atS RX9 ic (am_xn x) ["java/lang/RuntimeException", "java/lang/Exception"]).filter (fun w => !goodWord w), w ∈ [Cond.castable (am_xn x) (am_xn x), am_dc "java/lang/RuntimeException", am_dc "java/lang/Exception", am_dc "java/lang/Throwable"]) (hg : ∀ w ∈ Cond.classLink RX9 ik (am_xn x) :: Cond.initialized (am_xn x) :: vx_atS RX9 ic (am_xn x) ["java/lang/RuntimeException", "java/lang/Exception"], vx_ot w = true) (hf : Bundle.fit (am_xn x) = true) : am_Tw cl (am_Z Y) I pc x := by
  intro p l e R s m args below meth c D cy A Qc XC free mc ms C hst rest k n H locs ls hw h1 h2 h3 h4 hS hsz hfr hX
  obtain ⟨-, -, -, ⟨u1, u2⟩, k1, k2, k3, k4, k5, k6, k7⟩ := C.2.2.2.1
  obtain ⟨sa, hsa⟩ := k1 _ hs
  have hc9 : va_Nw (.castable (am_xn x) (am_xn x)) s := by rcases hx with rfl | rfl; exact k2; exact k3
  have hR1 := C.2.2.2.2.2.1
  have hR2 : 200 ≤ R.locals := Nat.le_trans (by decide) C.2.2.2.2.2.2.1
  refine vx_throwSW (names := ["java/lang/RuntimeException", "java/lang/Exception"]) C.1.1 C.1.2.1 hst (by rw [← hI]; exact C.1.2.2.2.1) hf (by decide +kernel) (C.1.2.2.2.2 _ hm1) (C.1.2.2.2.2 _ hm2) hsa (vx_hat (fun w h => C.1.2.2.2.2 _ (ha w h)) hb9 (vx_c (hc9.use rfl) (vx_c (k5.use rfl) (vx_c (k6.use rfl) (vx_c (k7.use rfl) vx_n))))) hg u1 u2 hS hsz d0 d3 d4 d6 d9 (fun z hz => ?_) (by show 2 + 3 < R.frames; omega) (by show _ + (13 * (2 + 1) + 43) ≤ R.locals; omega) (Nat.le_trans h1 h3) (Nat.le_trans h2 h4) C.2.2.2.2.2.2.2.1 hX hfr h1 h2
  rw [C.2.2.2.2.2.2.2.2, hh0] at hz
  cases hz
theorem am_at0 : ∀ w ∈ (vx_atS RX9 122 (am_xn 0) ["java/lang/RuntimeException", "java/lang/Exception"]).filter goodWord, w ∈ am_big := fun w h => am_inb ((show ∀ w ∈ (vx_atS RX9 122 (am_xn 0) ["java/lang/RuntimeException", "java/lang/Exception"]).filter goodWord, w ∈ lw_tbl by decide +kernel) w h) (List.mem_filter.mp h).2
theorem am_at0b : ∀ w ∈ (vx_atS RX9 122 (am_xn 0) ["java/lang/RuntimeException", "java/lang/Exception"]).filter (fun w => !goodWord w), w ∈ [Cond.castable (am_xn 0) (am_xn 0), am_dc "java/lang/RuntimeException", am_dc "java/lang/Exception", am_dc "java/lang/Throwable"] := by decide +kernel
theorem am_at0g : ∀ w ∈ Cond.classLink RX9 118 (am_xn 0) :: Cond.initialized (am_xn 0) :: vx_atS RX9 122 (am_xn 0) ["java/lang/RuntimeException", "java/lang/Exception"], vx_ot w = true := by decide +kernel
theorem am_at0f : Bundle.fit (am_xn 0) = true := by decide +kernel
theorem vn_at0 : ∀ w ∈ (vn_at RX9 182).filter goodWord, w ∈ am_big := fun w h => am_inb ((show ∀ w ∈ (vn_at RX9 182).filter goodWord, w ∈ lw_tbl by decide +kernel) w h) (List.mem_filter.mp h).2
theorem vn_at0b : ∀ w ∈ (vn_at RX9 182).filter (fun w => !goodWord w), w ∈ [Cond.castable (am_xn 1) (am_xn 1), am_dc "java/lang/RuntimeException", am_dc "java/lang/Exception", am_dc "java/lang/Throwable"] := by decide +kernel
theorem vn_at0g : ∀ w ∈ Cond.classLink RX9 178 vn_N :: Cond.initialized vn_N :: vn_at RX9 182, vx_ot w = true := by decide +kernel
theorem as_throwN {is : Nat} {text : String} (hI : I.1 = RX9) (hh0 : I.2.2.2.2.2.2 = []) (d0 : decode I.2.1 pc = .ok (.new 178, 3)) (d3 : decode I.2.1 (pc + 3) = .ok (.dup, 1)) (d4 : decode I.2.1 (pc + 4) = .ok (.ldc is, 2)) (d6 : decode I.2.1 (pc + 6) = .ok (.invokespecial 182, 3)) (d9 : decode I.2.1 (pc + 9) = .ok (.athrow, 1)) (hm1 : Cond.classLink RX9 178 (am_xn 1) ∈ I.2.2.2.1) (hm2 : Cond.initialized (am_xn 1) ∈ I.2.2.2.1) (hs : (is, text) ∈ am_strs) (ha : ∀ w ∈ am_big, w ∈ I.2.2.2.1) : am_Tw cl (am_Z Y) I pc 1 := by
  intro p l e R s m args below meth c D cy A Qc XC free mc ms C hst rest k n H locs ls hw h1 h2 h3 h4 hS hsz hfr hX
  obtain ⟨-, -, -, ⟨u1, u2⟩, k1, k2, k3, k4, k5, k6, k7⟩ := C.2.2.2.1
  obtain ⟨sa, hsa⟩ := k1 _ hs
  have hR1 := C.2.2.2.2.2.1
  have hR2 : 200 ≤ R.locals := Nat.le_trans (by decide) C.2.2.2.2.2.2.1
  refine vn_throw C.1.1 C.1.2.1 hst (by rw [← hI]; exact C.1.2.2.2.1) (C.1.2.2.2.2 _ hm1) (C.1.2.2.2.2 _ hm2) hsa (vx_hat (fun w h => C.1.2.2.2.2 _ (ha _ (vn_at0 w h))) vn_at0b (vx_c (k3.use rfl) (vx_c (k5.use rfl) (vx_c (k6.use rfl) (vx_c (k7.use rfl) vx_n))))) vn_at0g u1 u2 hS hsz d0 d3 d4 d6 d9 (fun z hz => ?_) (by show 2 + 3 < R.frames; omega) (by show _ + (13 * (2 + 1) + 43) ≤ R.locals; omega) (Nat.le_trans h1 h3) (Nat.le_trans h2 h4) C.2.2.2.2.2.2.2.1 hX hfr h1 h2
  rw [C.2.2.2.2.2.2.2.2, hh0] at hz
  cases hz
/-- the first row of the table catches it -/
theorem as_catch1 {x a b h9 ct : Nat} {hh : List (Nat × Nat × Nat × Nat)} {i : Nat} {ki : Fin 4} (hx : x = 0 ∨ x = 1) (htb : I.2.2.2.2.2.2 = (a, b, h9, ct) :: hh) (hcov : a ≤ pc ∧ pc < b) (hct : ct ≠ 0) (hm : Cond.classLink I.1 ct (am_xn x) ∈ I.2.2.2.1) (hd : decode I.2.1 h9 = .ok (.astore_n ki, 1)) (hi : (ki : Nat) = i) (hn : i < I.2.2.1) : am_Ct cl (am_Z Y) I pc x (h9 + 1, i) := by
  intro p l e R s m args below meth c Q D cy A C lv rest k n H locs ls q ce hl hce hcv hcl kk
  obtain ⟨-, -, -, -, k1, k2, k3, k4, k5, k6, k7⟩ := C.2.2.2.1
  have hc9 : va_Nw (.castable (am_xn x) (am_xn x)) s := by rcases hx with rfl | rfl; exact k2; exact k3
  refine vx_catch C.1.2.2.2.1 [] ⟨a, b, h9, ct⟩ (tableOf hh) (by rw [C.2.2.2.2.2.2.2.2, htb]; rfl) (fun z hz => by cases hz) (by simp [covers, hcov.1, hcov.2]) hct (C.1.2.2.2.2 _ hm) (hc9.use rfl) hce hcv hcl ?_
  refine lv_astore_n (x := q) C.1.1 C.1.2.1 hd hi hl hn rfl (fun ls2 hl2 => kk ls2 ⟨hl2.1, hl2.2.1, fun z hz => hl2.2.2 z (List.mem_cons_of_mem _ hz)⟩)
theorem as_catch1w {x a b h9 ct : Nat} {hh : List (Nat × Nat × Nat × Nat)} {i : Nat} (hx : x = 0 ∨ x = 1) (htb : I.2.2.2.2.2.2 = (a, b, h9, ct) :: hh) (hcov : a ≤ pc ∧ pc < b) (hct : ct ≠ 0) (hm : Cond.classLink I.1 ct (am_xn x) ∈ I.2.2.2.1) (hd : decode I.2.1 h9 = .ok (.astore i, 2)) (hn : i < I.2.2.1) : am_Ct cl (am_Z Y) I pc x (h9 + 2, i) := by
  intro p l e R s m args below meth c Q D cy A C lv rest k n H locs ls q ce hl hce hcv hcl kk
  obtain ⟨-, -, -, -, k1, k2, k3, k4, k5, k6, k7⟩ := C.2.2.2.1
  have hc9 : va_Nw (.castable (am_xn x) (am_xn x)) s := by rcases hx with rfl | rfl; exact k2; exact k3
  refine vx_catch C.1.2.2.2.1 [] ⟨a, b, h9, ct⟩ (tableOf hh) (by rw [C.2.2.2.2.2.2.2.2, htb]; rfl) (fun z hz => by cases hz) (by simp [covers, hcov.1, hcov.2]) hct (C.1.2.2.2.2 _ hm) (hc9.use rfl) hce hcv hcl ?_
  refine lv_astore (x := q) C.1.1 C.1.2.1 hd hl hn rfl (fun ls2 hl2 => kk ls2 ⟨hl2.1, hl2.2.1, fun z hz => hl2.2.2 z (List.mem_cons_of_mem _ hz)⟩)
/-- the second row catches 1, past a first row for 0 -/
theorem as_catch2 {a b h9 ct a1 b1 h1 ct1 : Nat} {hh : List (Nat × Nat × Nat × Nat)} {i : Nat} {ki : Fin 4} (htb : I.2.2.2.2.2.2 = (a1, b1, h1, ct1) :: (a, b, h9, ct) :: hh) (hcov : a ≤ pc ∧ pc < b) (hct : ct ≠ 0) (hct1 : ct1 ≠ 0) (hm : Cond.classLink I.1 ct (am_xn 1) ∈ I.2.2.2.1) (hm1 : Cond.classLink I.1 ct1 (am_xn 0) ∈ I.2.2.2.1) (hd : decode I.2.1 h9 = .ok (.astore_n ki, 1)) (hi : (ki : Nat) = i) (hn : i < I.2.2.1) : am_Ct cl (am_Z Y) I pc 1 (h9 + 1, i) := by
  intro p l e R s m args below meth c Q D cy A C lv rest k n H locs ls q ce hl hce hcv hcl kk
  obtain ⟨-, -, -, -, k1, k2, k3, k4, k5, k6, k7⟩ := C.2.2.2.1
  refine vx_catch C.1.2.2.2.1 [⟨a1, b1, h1, ct1⟩] ⟨a, b, h9, ct⟩ (tableOf hh) (by rw [C.2.2.2.2.2.2.2.2, htb]; rfl) (fun z hz => Or.inr (by
    rw [List.mem_singleton.mp hz]
    exact ⟨hct1, am_xn 0, C.1.2.2.2.2 _ hm1, k4⟩)) (by simp [covers, hcov.1, hcov.2]) hct (C.1.2.2.2.2 _ hm) (k3.use rfl) hce hcv hcl ?_
  refine lv_astore_n (x := q) C.1.1 C.1.2.1 hd hi hl hn rfl (fun ls2 hl2 => kk ls2 ⟨hl2.1, hl2.2.1, fun z hz => hl2.2.2 z (List.mem_cons_of_mem _ hz)⟩)
theorem as_catch2w {a b h9 ct a1 b1 h1 ct1 : Nat} {hh : List (Nat × Nat × Nat × Nat)} {i : Nat} (htb : I.2.2.2.2.2.2 = (a1, b1, h1, ct1) :: (a, b, h9, ct) :: hh) (hcov : a ≤ pc ∧ pc < b) (hct : ct ≠ 0) (hct1 : ct1 ≠ 0) (hm : Cond.classLink I.1 ct (am_xn 1) ∈ I.2.2.2.1) (hm1 : Cond.classLink I.1 ct1 (am_xn 0) ∈ I.2.2.2.1) (hd : decode I.2.1 h9 = .ok (.astore i, 2)) (hn : i < I.2.2.1) : am_Ct cl (am_Z Y) I pc 1 (h9 + 2, i) := by
  intro p l e R s m args below meth c Q D cy A C lv rest k n H locs ls q ce hl hce hcv hcl kk
  obtain ⟨-, -, -, -, k1, k2, k3, k4, k5, k6, k7⟩ := C.2.2.2.1
  refine vx_catch C.1.2.2.2.1 [⟨a1, b1, h1, ct1⟩] ⟨a, b, h9, ct⟩ (tableOf hh) (by rw [C.2.2.2.2.2.2.2.2, htb]; rfl) (fun z hz => Or.inr (by
    rw [List.mem_singleton.mp hz]
    exact ⟨hct1, am_xn 0, C.1.2.2.2.2 _ hm1, k4⟩)) (by simp [covers, hcov.1, hcov.2]) hct (C.1.2.2.2.2 _ hm) (k3.use rfl) hce hcv hcl ?_
  refine lv_astore (x := q) C.1.1 C.1.2.1 hd hl hn rfl (fun ls2 hl2 => kk ls2 ⟨hl2.1, hl2.2.1, fun z hz => hl2.2.2 z (List.mem_cons_of_mem _ hz)⟩)
theorem as_plen (hI : I.1 = RX1) (hd : decode I.2.1 pc = .ok (.getstatic 54, 3)) (hd2 : decode I.2.1 (pc + 3) = .ok (.arraylength, 1)) : am_St cl Y (am_Z Y) I pc (ai_push 4 (.inl 7)) := by
  intro p l e R s m args below meth c Q D cy A C S S' hpc hf
  obtain ⟨pc', lv, st, h, k, n0⟩ := S
  obtain rfl : pc' = pc := hpc
  simp only [ai_push] at hf
  cases hf
  refine ⟨⟨Nat.le_refl _, Nat.le_refl _⟩, fun α hc1 hc2 hk => ?_⟩
  replace hk := am_k0 hk
  intro H locs ls hlen hP hD hS hl
  obtain ⟨⟨-, -, -, -, -, hN⟩, ⟨t, h6, h7⟩, -⟩ := C.2.2.2.1
  refine va_getsN C.1.1 C.1.2.1 h6 hS (by rw [← hI]; exact C.1.2.2.2.1) (hN.use rfl) (fun _ h9 => h9) hd ?_
  exact va_tlen C.1.1 C.1.2.1 h7 hS rfl hd2 (hk H locs ls hlen hP hD hS hl)
def ai_pat (i : Nat) : am_s → Option am_s := fun S => match am_get S.2.1 i with
  | some (.inl x) => if ¬ x < 0 ∧ x.toNatClampNeg < 7 then some (S.1 + 5, S.2.1, .inl (am_PT.getD x.toNatClampNeg 0) :: S.2.2.1, S.2.2.2) else none
  | _ => none
theorem as_pat {k : Fin 4} {i : Nat} (hI : I.1 = RX1) (hd : decode I.2.1 pc = .ok (.getstatic 54, 3)) (hd1 : decode I.2.1 (pc + 3) = .ok (.iload_n k, 1)) (hi : (k : Nat) = i) (hd2 : decode I.2.1 (pc + 4) = .ok (.iaload, 1)) : am_St cl Y (am_Z Y) I pc (ai_pat i) := by
  intro p l e R s m args below meth c Q D cy A C S S' hpc hf
  obtain ⟨pc', lv, st, h, k, n0⟩ := S
  obtain rfl : pc' = pc := hpc
  simp only [ai_pat] at hf
  split at hf <;> first | (cases hf; done) | skip
  rename_i x hg
  split at hf <;> first | (cases hf; done) | skip
  rename_i hx
  cases hf
  refine ⟨⟨Nat.le_refl _, Nat.le_refl _⟩, fun α hc1 hc2 hk => ?_⟩
  replace hk := am_k0 hk
  intro H locs ls hlen hP hD hS hl
  obtain ⟨⟨-, -, -, -, -, hN⟩, ⟨t, h6, h7⟩, -⟩ := C.2.2.2.1
  refine va_getsN C.1.1 C.1.2.1 h6 hS (by rw [← hI]; exact C.1.2.2.2.1) (hN.use rfl) (fun _ h9 => h9) hd ?_
  refine lv_iload_n C.1.1 C.1.2.1 hd1 hi (am_get_ls hl hg) ?_
  exact va_ti C.1.1 C.1.2.1 h7 hS (am_in_vp hx) rfl hd2 (hk H locs ls hlen hP hD hS hl)
/-- an instruction of a method is what the table says -/
def am_okM (cl : List vw_C) (Y : am_y) (Z : am_z) (J : Nat → am_i) (I : am_i) (pc : Nat) : am_n → Prop
  | .inl f => am_St cl Y Z I pc f
  | .inr (.inl q) => am_Cl cl Y Z I (J q.1) pc q.2.1 q.2.2
  | .inr (.inr kd) => am_En cl Z I pc kd
theorem am_ok_of {J : Nat → am_i} {j : Nat} {i : am_n} (h : am_okM cl Y Z J (J j) pc i) : am_ok cl Y Z J j pc i := by
  match i, h with
  | .inl f, h => exact h
  | .inr (.inl q), h => exact h
  | .inr (.inr kd), h => exact h
theorem am_lf {n : Nat} {a : am_n} {P : Nat → am_n → Prop} (h : P n a) : ∀ (pc : Nat) (i : am_n), (bif Nat.beq pc n then some a else none) = some i → P pc i := fun pc i hi => by
  cases hb : Nat.beq pc n with
  | true =>
    rw [hb] at hi
    cases hi
    rw [Nat.eq_of_beq_eq_true hb]
    exact h
  | false =>
    rw [hb] at hi
    cases hi
theorem am_nd {b : Nat} {f g : Nat → Option am_n} {P : Nat → am_n → Prop} (hf : ∀ (pc : Nat) (i : am_n), f pc = some i → P pc i) (hg : ∀ (pc : Nat) (i : am_n), g pc = some i → P pc i) : ∀ (pc : Nat) (i : am_n), (bif Nat.blt pc b then f pc else g pc) = some i → P pc i := fun pc i hi => by
  cases hb : Nat.blt pc b with
  | true =>
    rw [hb] at hi
    exact hf pc i hi
  | false =>
    rw [hb] at hi
    exact hg pc i hi
end AMM
