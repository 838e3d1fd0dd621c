def R_law : String := "FanNetLaw"
def lw_P (b : Addr) (xs : List Int32) (args : Array Value) (s : State) : Prop := args = #[.ref b] ∧ s.IntsAt b xs ∧ xs.length ≤ 3072 ∧ (Jvm.Cond.and given_1 narrow_1).before args s = true
def lw_Q (_ : Array Value) (s : State) (o : Outcome) (t : State) : Prop := o = .returned (some (.int 1)) ∧ Framed s o t [] 601024 7293034
def lw_Z (below : List Frame) (a : Array Value) (s : State) : State → Prop := fun t => ∃ o, t.status = .running ∧ Ended t below o ∧ lw_Q a s o t
/-- the law's own end, with 1 on the stack, nothing written that was there before, its room as the claim has it -/
theorem lw_ret {p : Program} {l : Launch} {e : Env} {s : State} {m : MethodId} {below : List Frame} {meth : Method} {c : Code} {b : Nat} (hx : p.tables.exec = Jvm.exec) (hb : c.code = code) (hr : meth.sig.returnType = ret) (hlocks : meth.locks = false) {pc : Nat} {H : Heap} {ls : Array Slot} (hdg : decode code pc = .ok (.ireturn, 1)) : W p l e room_1 s m #[Value.ref b] below meth c H [] 601024 7293034 (lw_Z below #[Value.ref b] s) (F0 m pc ls [.int 1]) := by
  intro T hT X
  obtain ⟨fs, hret, hrun, hended, hW, hframe⟩ := X.leave (v := some (.int 1)) (hlocks := hlocks) (fun h => by rw [hr] at h; cases h)
  have hmeth' : T.vm.method? m = some meth := X.method'
  refine ⟨T.setFrames fs, ?_, .returned (some (.int 1)), hrun, hended, rfl, ⟨_, rfl⟩, hW, hframe⟩
  jvm_step X.here [X.here.top, hx, hb, hdg, hmeth', hr, ret, narrow_b1]
  (try refine ⟨rfl, ?_⟩); (try refine ⟨rfl, ?_⟩)
  first | (intro acts; rw [hret _ acts rfl rfl rfl]) | rw [hret _ _ rfl rfl rfl]
  exact Steps.refl _
/-- what holds at the law's entry -/
def lw_At (p : Program) (s : State) (m : MethodId) (meth : Method) (c : Code) (b : Nat) (xs : List Int32) : Prop :=
  p.tables.exec = Jvm.exec ∧ c.code = code ∧ meth.sig.returnType = ret ∧ c.maxLocals = 7 ∧ s.vm.findClass R_law = some m.cls ∧ (∀ w ∈ lw_tbl, w.before #[Value.ref b] s = true) ∧ va_X b xs.length (fun j => xs.getD j 0) s s.heap ∧ b < s.heap.size ∧ meth.locks = false ∧ (Jvm.Cond.and given_1 narrow_1).before #[Value.ref b] s = true ∧ c.exceptionTable.toList = [] ∧ (Jvm.Cond.code x code maxLocals ret).before #[Value.ref b] s = true
theorem am_noTr {l : Launch} (h : l.flags = flags0) : l.stackTraces = false := by
  unfold Launch.stackTraces
  rw [h]
  decide +kernel
theorem am_arrOf {args : Array Value} {s : State} {ty : FieldType} (h : (Cond.arrayClass ty).before args s = true) : ∃ cA : ClassId, ArrOfT s cA ty ∧ s.vm.findClass ("[" ++ ty.toString) = some cA := by
  obtain ⟨cA, kA, comp, h1, h2, h3⟩ := Cond.arrayClass_spec h
  exact ⟨cA, fun n z => ⟨fun k hk => (by cases hk), kA, h2, comp, h3⟩, h1⟩
set_option maxRecDepth 20000 in
/-- the start's further facts hold at the law's entry -/
theorem am_Zstart {s : State} {b : Nat} {xs : List Int32} (hts : ∀ w ∈ lw_tbl, w.before #[Value.ref b] s = true) (hX : va_X b xs.length (fun j => xs.getD j 0) s s.heap) (hbl : b < s.heap.size) (hgv : (Jvm.Cond.and given_1 narrow_1).before #[Value.ref b] s = true) : am_Z (b, xs) (fun q => s.heap.size ≤ q) s := by
  have hg := flat_of_before _ hgv
  have hA : ∀ a : Nat, a < s.heap.size → ¬ s.heap.size ≤ a := fun a h => Nat.not_le.mpr h
  refine ⟨⟨?_, ?_, ?_, ?_, ?_, ?_⟩, ?_, ⟨hX, hbl, Nat.not_le.mpr hbl⟩, ⟨?_, ?_⟩, ?_, ?_, ?_, ?_, ?_, ?_, ?_⟩
  · exact va_Nw.of rfl (hts _ (List.mem_append_right _ (List.mem_append_left _ (List.mem_of_getElem? (i := 117) rfl))))
  · exact va_Nw.of rfl (hts _ (List.mem_append_right _ (List.mem_append_left _ (List.mem_of_getElem? (i := 172) rfl))))
  · exact va_Nw.of rfl (hts _ (List.mem_append_right _ (List.mem_append_left _ (List.mem_of_getElem? (i := 199) rfl))))
  · exact va_Nw.of rfl (hts _ (List.mem_append_right _ (List.mem_append_right _ (List.mem_append_right _ (List.mem_append_right _ (List.mem_append_left _ (List.mem_of_getElem? (i := 213) rfl)))))))
  · exact va_Nw.of rfl (hts _ (List.mem_append_right _ (List.mem_append_left _ (List.mem_of_getElem? (i := 123) rfl))))
  · exact va_Nw.of rfl (hts _ (List.mem_append_right _ (List.mem_append_right _ (List.mem_append_right _ (List.mem_append_right _ (List.mem_append_left _ (List.mem_of_getElem? (i := 134) rfl)))))))
  · obtain ⟨t, e1, e2⟩ := va_Tof (args := #[Value.ref b]) (s := s) (tm := .static "FanNet" "PORTS" "[I") (ty := .int) (N := 7) (f := fun j => .int (am_PT.getD j 0)) (A := fun q => s.heap.size ≤ q) (by decide) (hg _ (by decide +kernel)) (va_eqt (hg (.eq (.length (.static "FanNet" "PORTS" "[I")) (.int 7)) (by decide +kernel))) (fun j hj => by
      match j, hj with
      | 0, _ => exact va_eqt (hg (.eq (.elem (.static "FanNet" "PORTS" "[I") (.int 0)) (.int 1)) (by decide +kernel))
      | 1, _ => exact va_eqt (hg (.eq (.elem (.static "FanNet" "PORTS" "[I") (.int 1)) (.int 3)) (by decide +kernel))
      | 2, _ => exact va_eqt (hg (.eq (.elem (.static "FanNet" "PORTS" "[I") (.int 2)) (.int 3)) (by decide +kernel))
      | 3, _ => exact va_eqt (hg (.eq (.elem (.static "FanNet" "PORTS" "[I") (.int 3)) (.int 3)) (by decide +kernel))
      | 4, _ => exact va_eqt (hg (.eq (.elem (.static "FanNet" "PORTS" "[I") (.int 4)) (.int 2)) (by decide +kernel))
      | 5, _ => exact va_eqt (hg (.eq (.elem (.static "FanNet" "PORTS" "[I") (.int 5)) (.int 2)) (by decide +kernel))
      | 6, _ => exact va_eqt (hg (.eq (.elem (.static "FanNet" "PORTS" "[I") (.int 6)) (.int 1)) (by decide +kernel))
      | n + 7, hj => exact absurd hj (by omega)) hA
    exact ⟨t, va_Zref (hts _ (List.mem_append_right _ (List.mem_append_right _ (List.mem_append_right _ (List.mem_append_right _ (List.mem_append_left _ (List.mem_of_getElem? (i := 135) rfl))))))) (hts _ (List.mem_append_right _ (List.mem_append_left _ (List.mem_of_getElem? (i := 1) rfl)))) e1 hA, e2⟩
  · exact vx_Zqof (hts _ (List.mem_append_right _ (List.mem_append_right _ (List.mem_append_right _ (List.mem_append_left _ (List.mem_of_getElem? (i := 9) rfl)))))) (hts _ (List.mem_append_right _ (List.mem_append_left _ (List.mem_of_getElem? (i := 15) rfl)))) (hg _ (by decide +kernel)) hA
  · exact vx_Zqof (hts _ (List.mem_append_right _ (List.mem_append_right _ (List.mem_append_right _ (List.mem_append_left _ (List.mem_of_getElem? (i := 11) rfl)))))) (hts _ (List.mem_append_right _ (List.mem_append_left _ (List.mem_of_getElem? (i := 15) rfl)))) (hg _ (by decide +kernel)) hA
  · intro q hq
    have hstr : ∀ (k : Nat) (tx : String), (Cond.stringRef RX9 k tx).before #[Value.ref b] s = true → (Cond.exactly (.string RX9 k) "java/lang/String").before #[Value.ref b] s = true → ∃ sa, vk_R RX9 k tx sa s := fun k tx h1 h2 => by
      obtain ⟨a, c9, cell, k9, e1, -⟩ := Cond.exactly_spec h2
      exact ⟨a, vk_R.of h1 e1⟩
    rcases List.mem_cons.mp hq with rfl | hq
    · exact hstr _ _ (hts _ (List.mem_append_right _ (List.mem_append_right _ (List.mem_append_right _ (List.mem_append_left _ (List.mem_of_getElem? (i := 22) rfl)))))) (hg _ (by decide +kernel))
    rcases List.mem_cons.mp hq with rfl | hq
    · exact hstr _ _ (hts _ (List.mem_append_right _ (List.mem_append_right _ (List.mem_append_right _ (List.mem_append_right _ (List.mem_append_left _ (List.mem_of_getElem? (i := 170) rfl))))))) (hg _ (by decide +kernel))
    rcases List.mem_cons.mp hq with rfl | hq
    · exact hstr _ _ (hts _ (List.mem_append_right _ (List.mem_append_right _ (List.mem_append_right _ (List.mem_append_right _ (List.mem_append_right _ (List.mem_append_left _ (List.mem_of_getElem? (i := 31) rfl)))))))) (hg _ (by decide +kernel))
    rcases List.mem_cons.mp hq with rfl | hq
    · exact hstr _ _ (hts _ (List.mem_append_right _ (List.mem_append_right _ (List.mem_append_right _ (List.mem_append_right _ (List.mem_append_right _ (List.mem_append_left _ (List.mem_of_getElem? (i := 49) rfl)))))))) (hg _ (by decide +kernel))
    rcases List.mem_cons.mp hq with rfl | hq
    · exact hstr _ _ (hts _ (List.mem_append_right _ (List.mem_append_right _ (List.mem_append_right _ (List.mem_append_right _ (List.mem_append_right _ (List.mem_append_left _ (List.mem_of_getElem? (i := 62) rfl)))))))) (hg _ (by decide +kernel))
    rcases List.mem_cons.mp hq with rfl | hq
    · exact hstr _ _ (hts _ (List.mem_append_right _ (List.mem_append_right _ (List.mem_append_right _ (List.mem_append_right _ (List.mem_append_right _ (List.mem_append_left _ (List.mem_of_getElem? (i := 71) rfl)))))))) (hg _ (by decide +kernel))
    rcases List.mem_cons.mp hq with rfl | hq
    · exact hstr _ _ (hts _ (List.mem_append_right _ (List.mem_append_right _ (List.mem_append_right _ (List.mem_append_right _ (List.mem_append_right _ (List.mem_append_left _ (List.mem_of_getElem? (i := 79) rfl)))))))) (hg _ (by decide +kernel))
    rcases List.mem_cons.mp hq with rfl | hq
    · exact hstr _ _ (hts _ (List.mem_append_right _ (List.mem_append_right _ (List.mem_append_right _ (List.mem_append_right _ (List.mem_append_right _ (List.mem_append_left _ (List.mem_of_getElem? (i := 119) rfl)))))))) (hg _ (by decide +kernel))
    rcases List.mem_cons.mp hq with rfl | hq
    · exact hstr _ _ (hts _ (List.mem_append_right _ (List.mem_append_right _ (List.mem_append_right _ (List.mem_append_right _ (List.mem_append_right _ (List.mem_append_left _ (List.mem_of_getElem? (i := 131) rfl)))))))) (hg _ (by decide +kernel))
    rcases List.mem_cons.mp hq with rfl | hq
    · exact hstr _ _ (hts _ (List.mem_append_right _ (List.mem_append_right _ (List.mem_append_right _ (List.mem_append_right _ (List.mem_append_right _ (List.mem_append_left _ (List.mem_of_getElem? (i := 151) rfl)))))))) (hg _ (by decide +kernel))
    rcases List.mem_cons.mp hq with rfl | hq
    · exact hstr _ _ (hts _ (List.mem_append_right _ (List.mem_append_right _ (List.mem_append_right _ (List.mem_append_left _ (List.mem_of_getElem? (i := 204) rfl)))))) (hg _ (by decide +kernel))
    rcases List.mem_cons.mp hq with rfl | hq
    · exact hstr _ _ (hts _ (List.mem_append_right _ (List.mem_append_right _ (List.mem_append_right _ (List.mem_append_right _ (List.mem_append_right _ (List.mem_append_left _ (List.mem_of_getElem? (i := 90) rfl)))))))) (hg _ (by decide +kernel))
    cases hq
  · exact va_Nw.of rfl (hts _ (List.mem_append_right _ (List.mem_append_right _ (List.mem_append_left _ (List.mem_of_getElem? (i := 224) rfl)))))
  · exact va_Nw.of rfl (hts _ (List.mem_append_right _ (List.mem_append_right _ (List.mem_append_right _ (List.mem_append_right _ (List.mem_append_right _ (List.mem_append_left _ (List.mem_of_getElem? (i := 24) rfl))))))))
  · exact va_Nc.of (hg _ (by decide +kernel))
  · exact va_Nw.of rfl (hts _ (List.mem_append_right _ (List.mem_append_right _ (List.mem_append_left _ (List.mem_of_getElem? (i := 226) rfl)))))
  · exact va_Nw.of rfl (hts _ (List.mem_append_right _ (List.mem_append_right _ (List.mem_append_left _ (List.mem_of_getElem? (i := 228) rfl)))))
  · exact va_Nw.of rfl (hts _ (List.mem_append_right _ (List.mem_append_right _ (List.mem_append_left _ (List.mem_of_getElem? (i := 230) rfl)))))
set_option maxRecDepth 20000 in
/-- THE LAW, from its entry -/
theorem whole_start {p : Program} {e : Env} {s : State} {m : MethodId} {below : List Frame} {meth : Method} {c : Code} (l : Launch) (hflags : l.flags = flags0) {b : Nat} {xs : List Int32} (hL : xs.length ≤ 3072) (C0 : lw_At p s m meth c b xs) : W p l e room_1 s m #[Value.ref b] below meth c s.heap [] 0 0 (lw_Z below #[Value.ref b] s) (entryFrame m ([Value.ref b] : List Value).toArray 7) := by
  obtain ⟨hx, hb, hr, hml, hown, hts, hX, hbl, hlocks, hgv, htab, hcw⟩ := C0
  have hbig : ∀ w ∈ am_big, w.before #[Value.ref b] s = true := fun w h => hts w (List.mem_filter.mp h).1
  obtain ⟨c0, i0, k0⟩ := u_known (C := RX0) (T := TX0) (N := 5) (n := 5) hbig nX0 (hbig _ w2_10)
  obtain ⟨c1, i1, k1⟩ := u_known (C := RX1) (T := TX1) (N := 8) (n := 8) hbig nX1 (hbig _ w1_213)
  obtain ⟨c2, i2, k2⟩ := u_known (C := RX2) (T := TX2) (N := 6) (n := 6) hbig nX2 (hbig _ w1_171)
  obtain ⟨c3, i3, k3⟩ := u_known (C := RX3) (T := TX3) (N := 3) (n := 3) hbig nX3 (hbig _ w1_29)
  obtain ⟨c4, i4, k4⟩ := u_known (C := RX4) (T := TX4) (N := 3) (n := 3) hbig nX4 (hbig _ w1_122)
  obtain ⟨c5, i5, k5⟩ := u_known (C := RX5) (T := TX5) (N := 2) (n := 2) hbig nX5 (hbig _ w1_198)
  obtain ⟨c6, i6, k6⟩ := u_known (C := RX6) (T := TX6) (N := 12) (n := 12) hbig nX6 (hbig _ w1_52)
  obtain ⟨c7, i7, k7⟩ := u_known (C := RX7) (T := TX7) (N := 4) (n := 4) hbig nX7 (hbig _ w1_60)
  obtain ⟨c8, i8, k8⟩ := u_known (C := RX8) (T := TX8) (N := 9) (n := 9) hbig nX8 (hbig _ w1_116)
  obtain ⟨c9, i9, k9⟩ := u_known (C := RX9) (T := TX9) (N := 18) (n := 18) hbig nX9 (hbig _ w1_21)
  obtain ⟨c10, i10, k10⟩ := u_known (C := RX10) (T := TX10) (N := 76) (n := 76) hbig nX10 (hbig _ w5_158)
  obtain ⟨dC, dI, hKc⟩ : ∃ (dC : Nat → ClassId) (dI : Nat → Nat → Nat), ∀ (k : Nat) (q : vw_C), vwCl[k]? = some q → u_Kn s q.1 q.2.1 q.2.2 (dC k) (dI k) := by
    refine ⟨fun k => [c0, c1, c2, c3, c4, c5, c6, c7, c8, c9, c10].getD k c0, fun k => [i0, i1, i2, i3, i4, i5, i6, i7, i8, i9, i10].getD k i0, ?_⟩
    intro k q hq
    match k, hq with
    | 0, hq => cases hq; exact k0
    | 1, hq => cases hq; exact k1
    | 2, hq => cases hq; exact k2
    | 3, hq => cases hq; exact k3
    | 4, hq => cases hq; exact k4
    | 5, hq => cases hq; exact k5
    | 6, hq => cases hq; exact k6
    | 7, hq => cases hq; exact k7
    | 8, hq => cases hq; exact k8
    | 9, hq => cases hq; exact k9
    | 10, hq => cases hq; exact k10
    | k + 11, hq => simp [vwCl] at hq
  obtain ⟨cI, a1, a2⟩ := am_arrOf (hbig _ w1_50)
  obtain ⟨cJ, a3, a4⟩ := am_arrOf (hbig _ w6_190)
  obtain ⟨cB, a5, a6⟩ := am_arrOf (hbig _ w3_48)
  have hK : va_K (dC, dI) vwCl (am_T (cI, cJ, cB)) s := ⟨hKc, fun k q hk => by
    match k, hk with
    | 0, hk => cases hk; exact ⟨a1, a2⟩
    | 1, hk => cases hk; exact ⟨a3, a4⟩
    | 2, hk => cases hk; exact ⟨a5, a6⟩
    | k + 3, hk => simp [am_T] at hk⟩
  have hst := am_noTr hflags
  have hZ := am_Zstart hts hX hbl hgv
  have hS : va_S (fun q : Nat => s.heap.size ≤ q) s.heap s.heap [] := va_S.rf
  have C : am_C p room_1 s m #[Value.ref b] meth c (dC, dI) vwCl (cI, cJ, cB) (fun q => s.heap.size ≤ q) (am_Z (b, xs)) (am_J 281) :=
    ⟨⟨hx, hb, hml, hown, fun w hw => (List.mem_cons.mp hw).elim (fun e => by rw [e]; exact hcw) (hbig w)⟩, hK, fun q h => h, hZ, fun h => absurd h (by decide +kernel), by decide, by decide, hlocks, htab⟩
  obtain ⟨⟨rv, h', cc, kk⟩, ⟨n, hn⟩, hr1, hr2, hr3⟩ := law_all (b, xs) hL
  obtain rfl : rv = .inl (some (.inl 1)) := hr1
  have hc1 : cc ≤ 601024 := Nat.le_trans (show cc ≤ 502000 + 3084 from hr2) (by decide)
  have hc2 : kk ≤ 7293034 := Nat.le_trans (show kk ≤ 1700000 + 3084 from hr3) (by decide)
  have hit := hn n n (Nat.le_refl _) (Nat.le_refl _)
  obtain ⟨S', e1, e2⟩ := am_it_to (l := l) (D := (dC, dI)) (cy := (cI, cJ, cB)) (d := 260) (j := 281) (o := none) (am_GJL (Y := (b, xs))) (am_run_ok hst (am_GJ0 (Y := (b, xs))) n (dC, dI) (cI, cJ, cB) 260) n _ _ hit
  have hl := lv_entry ([.ref b]) (n := 7) (Nat.le_of_ble_eq_true rfl)
  rw [lg_entry_eq]
  generalize (lg_sl ([.ref b]) ++ List.replicate (7 - (lg_sl ([.ref b])).length) Slot.unset).toArray = ls at hl ⊢
  have hP : va_P (dC, dI) vwCl [] s.heap := fun k q h => by simp at h
  have hD : va_D (fun q : Nat => s.heap.size ≤ q) [] := ⟨fun i j p q h => by simp at h, fun k q h => by simp at h⟩
  obtain ⟨pc', lv', st', hh', k', n'⟩ := S'
  have hend : k' ≤ 601024 ∧ n' ≤ 7293034 ∧ ∀ β : List Nat, am_WA p l e room_1 s m #[Value.ref b] below meth c (lw_Z below #[Value.ref b] s) (dC, dI) vwCl (cI, cJ, cB) (b, xs) (fun q => s.heap.size ≤ q) (am_J 281).2.2.1 ([b] ++ β) (pc', lv', st', hh', k', n') := by
    rcases e1 with ⟨kd, hg, hfin⟩ | ⟨q, hg, hcall⟩
    · have hEn := (am_GJL (Y := (b, xs))).1 281 pc' _ hg
      match kd, hfin, hEn.1 with
      | x + 4, hfin, _ =>
        simp only [am_fin] at hfin
        split at hfin <;> cases hfin
      | 0, _, h9 => rcases h9 with ⟨-, -, z⟩ | ⟨z, -, -⟩ | ⟨z, -, -⟩ | ⟨z, -, -⟩ <;> cases z
      | 1, _, h9 => rcases h9 with ⟨z, -, -⟩ | ⟨-, -, z⟩ | ⟨z, -, -⟩ | ⟨z, -, -⟩ <;> cases z
      | 3, _, h9 =>
        rcases h9 with ⟨z, -, -⟩ | ⟨z, -, -⟩ | ⟨z, -, -⟩ | ⟨-, -, w, z, hz⟩ <;> first | (cases z; done) | skip
        have hw : w = .boolean := (Option.some.inj z).symm
        subst hw
        rcases hz with ⟨_, hz⟩ | ⟨_, hz⟩ <;> cases hz
      | 2, hfin, h9 =>
        rcases h9 with ⟨z, -, -⟩ | ⟨z, -, -⟩ | ⟨-, hd, -⟩ | ⟨z, -, -⟩ <;> first | (cases z; done) | skip
        match st', hfin with
        | [.inl v], hfin =>
          simp only [am_fin, am_ret] at hfin
          split at hfin <;> first | (cases hfin; done) | skip
          rename_i r0 hr0
          split at hr0 <;> first | (cases hr0; done) | skip
          cases hr0
          cases hfin
          refine ⟨hc1, hc2, fun β => ?_⟩
          intro H locs ls2 hlen hP2 hD2 hS2 hl2
          refine va_forget (fun q hq => hS2.2.2 q hq) ?_
          refine W.widen (k := 601024) (n := 7293034) hc1 hc2 ?_
          exact lw_ret hx hb hr hlocks hd
    · exfalso
      unfold am_call at hcall
      split at hcall <;> first | (cases hcall; done) | skip
      split at hcall <;> first | (cases hcall; done) | skip
      split at hcall <;> first | (cases hcall; done) | skip
      split at hcall <;> first | (cases hcall; done) | skip
      split at hcall <;> cases hcall
  obtain ⟨f1, f2, f3⟩ := hend
  exact (e2 p e room_1 s m #[Value.ref b] below meth c _ _ C (by decide) (by decide)).2 [b] f1 f2 f3 s.heap [] ls ⟨rfl, rfl, rfl⟩ hP hD hS hl
set_option maxHeartbeats 4000000 in
theorem lw_walk (l : Launch) (hflags : l.flags = flags0) (b : Addr) (xs : List Int32) : MetFree l x (headSpec (Jvm.Cond.code x code maxLocals ret :: tables_1) room_1) (lw_P b xs) (fun _ _ _ _ _ => True) lw_Q := by
  refine MetFree.of_bodyS (code := code) (maxLocals := maxLocals) (ret := ret) (by decide) ?_ ?_
  · intro args s m h hn
    obtain ⟨meth, c, h1, h2, h3, h4, h5, h6, -, -⟩ := Cond.code_spec hn (atoms_spec (ws := Jvm.Cond.code x code maxLocals ret :: tables_1) h _ List.mem_cons_self)
    exact ⟨meth, c, h1, h2, h3, h4, h5, h6⟩
  · intro p e s m args below meth c s₁ B hml0 hP _
    obtain ⟨rfl, hx, hbd, hgv⟩ := hP
    obtain ⟨scr, harrAt, hlist, hof, hsmall⟩ := hx
    obtain ⟨hcb, hkn, -, -⟩ := State.arrayAt?_spec harrAt
    have hown : s.vm.findClass R_law = some m.cls := findClass_of_methodNamed B.named
    have hts0 : ∀ c ∈ (Jvm.Cond.code x code maxLocals ret :: tables_1), c.before #[Value.ref b] s = true := atoms_spec (ws := Jvm.Cond.code x code maxLocals ret :: tables_1) B.pre
    have hts : ∀ w ∈ lw_tbl, w.before #[Value.ref b] s = true := k2_hts_sels lw_privs (fun w hw => hts0 w (List.mem_cons_of_mem _ hw)) lw_privs_ok
    have hml : c.maxLocals = 7 := B.maxLocals_eq (hts0 _ List.mem_cons_self)
    have X₀ : Stand p l e room_1 s m #[Value.ref b] below meth c s₁ [] 0 0 := Stand.of_body B
    have hh0 : s₁.heap = s.heap := by rw [B.state]; rfl
    have hsz : scr.slots.size = xs.length := by rw [← Array.length_toList, hlist, List.length_map]
    have hval : ∀ j : Nat, j < xs.length → scr.slots[j]? = some (.int (xs.getD j 0)) := fun j hj => by
      rw [← Array.getElem?_toList, hlist]
      simp [hj]
    have hbl : b < s.heap.size := (Array.getElem?_eq_some_iff.mp hcb).1
    have hX : va_X b xs.length (fun j => xs.getD j 0) s s.heap := ⟨scr, hcb, hof, hkn, hsz, hval⟩
    have htab : c.exceptionTable.toList = [] := by
      obtain ⟨meth9, c9, h1, h2, -, -, -, -, h7, -⟩ := Cond.code_spec B.named (hts0 _ List.mem_cons_self)
      cases Option.some.inj (h1.symm.trans B.method)
      cases Option.some.inj (h2.symm.trans (Stand.of_body B).code)
      rw [Array.isEmpty_iff.mp h7]
    have K : W p l e room_1 s m #[Value.ref b] below meth c s₁.heap [] 0 0 (lw_Z below #[Value.ref b] s) (entryFrame m ([Value.ref b] : List Value).toArray 7) := by
      rw [hh0]
      exact whole_start l hflags hbd ⟨B.exec, B.bytes, B.returns, hml, hown, hts, hX, hbl, B.notSynchronized, hgv, htab, hts0 _ List.mem_cons_self⟩
    obtain ⟨t, a1, o, b1, b2, b3⟩ := K s₁ rfl X₀
    exact ⟨t, o, a1, b1, b2, b3⟩
theorem lw_pre_spec {args : Array Value} {s : State} (h : (Jvm.Cond.and given_1 narrow_1).before args s = true) (hr : rest_1_c.before args s = true) : ∃ (b : Addr) (xs : List Int32), lw_P b xs args s := by
  have hs := flat_of_before _ h
  have hq := flat_of_before _ hr
  have hc : (Cond.count 1).before args s = true := hs _ (by decide +kernel)
  have harr : (Cond.arrayOf (.arg 0) .int).before args s = true := hs _ (by decide +kernel)
  have hle : (Cond.le (.length (.arg 0)) (.int 3072)).before args s = true := hs _ (by decide +kernel)
  have hlen : (Cond.isInt (.length (.arg 0))).before args s = true := hq _ (by decide +kernel)
  have hall : (Cond.all (.arg 0) (.isInt (.elem (.arg 0) (.index 0)))).before args s = true := hq _ (by decide +kernel)
  obtain ⟨b, xs, hb, hx⟩ := State.ints_of_pre rfl harr hlen hall
  have hsm : xs.length < 2 ^ 31 := hx.choose_spec.2.2.2
  have hev : (Term.length (.arg 0)).eval args s none [] s = some (.int xs.length.toInt32) := hx.length_eval hb
  have hv := Cond.le_ints hev (show (Term.int 3072).eval args s none [] s = some (.int 3072) from rfl)
  have hd : xs.length.toInt32 ≤ 3072 := by
    simpa [Cond.before, Cond.holds, hv] using hle
  have hN : xs.length ≤ 3072 := (Int32.ofNat_le_ofNat hsm (by decide)).mp (show Int32.ofNat xs.length ≤ Int32.ofNat 3072 from hd)
  exact ⟨b, xs, Cond.one_arg hc (show args[0]? = some (.ref b) from hb), hx, hN, h⟩
theorem lw_comes (l : Launch) (hflags : l.flags = flags0) : Comes l x (Jvm.Cond.code x code maxLocals ret :: tables_1) room_1 (fun tb e args s => Calls_1 tb e args s ∧ rest_1 tb e args s ∧ Pre_1 tb e args s)
    (fun _ _ args s o t => lw_Q args s o t) := by
  intro p e ha hc hk s m args below hf hfit hheap happ hpre
  obtain ⟨b, xs, hP⟩ := lw_pre_spec hpre.2.2 hpre.2.1
  obtain ⟨k, o, h1, h2, h3, hQ⟩ := lw_walk l hflags b xs p e ha hc hk s m args below hf ((Spec.applies_iff_loose hf).mp happ).1 hP trivial
  exact ⟨k, o, h1, h2, h3, hQ⟩
theorem lw_frame {s t : State} {o : Outcome} {args : Array Value} (h : Framed s o t [] 601024 7293034) :
    Framed s o t (fieldLocs frame_1_writes args s ++ arrayLocs frame_1_arrays args s ++ staticLocs frame_1_statics s) 601024 7293034 := h
theorem lw_limb (L : Cond) (hL : ∀ (args : Array Value) (s t : State), L.after args s (.returned (some (.int 1))) t = true) :
    ArmFor flags0 classFile x code maxLocals ret World_1 tables_1 room_1 Calls_1 rest_1 Pre_1
      (fun tb e a s o t => postC L tb e a s o t ∧ Framed s o t (fieldLocs frame_1_writes a s ++ arrayLocs frame_1_arrays a s ++ staticLocs frame_1_statics s) 601024 7293034) := by
  intro l hflags _ _ p e ha hc hk s m args below hf hfit hheap happ hpre
  obtain ⟨k, o, h1, h2, h3, rfl, hF⟩ := lw_comes l hflags p e ha hc hk s m args below hf hfit hheap happ hpre
  exact ⟨k, _, h1, h2, h3, hL args s _, lw_frame hF⟩
theorem i_vc : Claimed_1_1 ∧ Claimed_1_2 := ⟨lw_limb limb_1_1 (fun args s t => by simp [limb_1_1, Cond.after, Cond.holds, Cond.value]), lw_limb limb_1_2 (fun args s t => Cond.after_iff.mpr (by
  first | (rw [show limb_1_2 = Cond.eq .result (.int 1) from rfl, Cond.eq_ints (x := 1) (y := 1) rfl rfl]; simp; done) | (simp [limb_1_2, Cond.value, Term.eval]; done)))⟩

