/-! each call of the reference keeps it -/
section RIQ
variable {h : am_h} {F : rf_f} {A : rf_A} {T : Int} {tx : List Int × List Int} {w1 w2 w3 w4 w5 : Int32}
theorem q_fault (hR : rf_R h F A) (hi : ri F A T tx) : am_Mt 1 187 [.inr (.inr (some 81))] h (rQ h (fun F' A' => ri F' A' T tx)) := by
  obtain ⟨n1, n2, n3, n4, n5, n6, n7⟩ := hi
  obtain ⟨c0, ⟨lm, c1⟩, c2, c3⟩ := id n1
  obtain ⟨gt, t1, t2, t3, t4, t5⟩ := tq_txt n5
  refine am_Mt.imp (m_fault  hR ) ?_
  rintro r ⟨x, h', F', A', rfl, hI, f1, f2, -⟩
  exact ⟨_, h', F', A', rfl, hI, (by rw [f2 24 (by decide), f2 25 (by decide), f2 26 (by decide), f1 28 (by decide), f1 27 (by decide)]; exact n1), n2.fr f2 (by decide), n3.fr f2 (by decide), (by rw [f1 73 (by decide)]; exact n4), (by rw [f2 1 (by decide), f2 2 (by decide)]; exact n5), (by rw [f1 23 (by decide)]; exact n6), ⟨(by rw [f1 4 (by decide), f2 3 (by decide)]; exact n7.1), (by rw [f2 1 (by decide), f2 2 (by decide)]; exact n7.2)⟩⟩
theorem q_node (hR : rf_R h F A) (hi : ri F A T tx) : am_Mt 3 250 [.inr (.inr (some 81)), .inl w1, .inl w2] h (rQ h (fun F' A' => ri F' A' T tx)) := by
  obtain ⟨n1, n2, n3, n4, n5, n6, n7⟩ := hi
  obtain ⟨c0, ⟨lm, c1⟩, c2, c3⟩ := id n1
  obtain ⟨gt, t1, t2, t3, t4, t5⟩ := tq_txt n5
  refine am_Mt.imp (m_node  hR (by have := c0.1; have := c0.2.1; omega)) ?_
  rintro r ⟨x, h', F', A', rfl, hI, f1, f2, -⟩
  exact ⟨_, h', F', A', rfl, hI, (by rw [f2 24 (by decide), f2 25 (by decide), f2 26 (by decide), f1 28 (by decide), f1 27 (by decide)]; exact n1), n2.fr f2 (by decide), n3.fr f2 (by decide), (by rw [f1 73 (by decide)]; exact n4), (by rw [f2 1 (by decide), f2 2 (by decide)]; exact n5), (by rw [f1 23 (by decide)]; exact n6), ⟨(by rw [f1 4 (by decide), f2 3 (by decide)]; exact n7.1), (by rw [f2 1 (by decide), f2 2 (by decide)]; exact n7.2)⟩⟩
theorem q_active (hR : rf_R h F A) (hi : ri F A T tx) : am_Mt 5 251 [.inr (.inr (some 81)), .inl w1, .inl w2] h (rQ h (fun F' A' => ri F' A' T tx)) := by
  obtain ⟨n1, n2, n3, n4, n5, n6, n7⟩ := hi
  obtain ⟨c0, ⟨lm, c1⟩, c2, c3⟩ := id n1
  obtain ⟨gt, t1, t2, t3, t4, t5⟩ := tq_txt n5
  refine am_Mt.imp (m_active (lm := lm) (gT := T) hR c0 c1) ?_
  rintro r ⟨x, h', F', A', rfl, hI, f1, f2, -⟩
  exact ⟨_, h', F', A', rfl, hI, (by rw [f2 24 (by decide), f2 25 (by decide), f2 26 (by decide), f1 28 (by decide), f1 27 (by decide)]; exact n1), n2.fr f2 (by decide), n3.fr f2 (by decide), (by rw [f1 73 (by decide)]; exact n4), (by rw [f2 1 (by decide), f2 2 (by decide)]; exact n5), (by rw [f1 23 (by decide)]; exact n6), ⟨(by rw [f1 4 (by decide), f2 3 (by decide)]; exact n7.1), (by rw [f2 1 (by decide), f2 2 (by decide)]; exact n7.2)⟩⟩
theorem q_said (hR : rf_R h F A) (hi : ri F A T tx) : am_Mt 2 262 [.inr (.inr (some 81)), .inl w1] h (rQ h (fun F' A' => ri F' A' T tx)) := by
  obtain ⟨n1, n2, n3, n4, n5, n6, n7⟩ := hi
  obtain ⟨c0, ⟨lm, c1⟩, c2, c3⟩ := id n1
  obtain ⟨gt, t1, t2, t3, t4, t5⟩ := tq_txt n5
  refine am_Mt.imp (m_said  hR n4) ?_
  rintro r ⟨x, h', F', A', rfl, hI, f1, f2, -⟩
  exact ⟨_, h', F', A', rfl, hI, (by rw [f2 24 (by decide), f2 25 (by decide), f2 26 (by decide), f1 28 (by decide), f1 27 (by decide)]; exact n1), n2.fr f2 (by decide), n3.fr f2 (by decide), (by rw [f1 73 (by decide)]; exact n4), (by rw [f2 1 (by decide), f2 2 (by decide)]; exact n5), (by rw [f1 23 (by decide)]; exact n6), ⟨(by rw [f1 4 (by decide), f2 3 (by decide)]; exact n7.1), (by rw [f2 1 (by decide), f2 2 (by decide)]; exact n7.2)⟩⟩
theorem q_count (hR : rf_R h F A) (hi : ri F A T tx) : am_Mt 8 249 [.inr (.inr (some 81)), .inl w1] h (rQ h (fun F' A' => ri F' A' T tx)) := by
  obtain ⟨n1, n2, n3, n4, n5, n6, n7⟩ := hi
  obtain ⟨c0, ⟨lm, c1⟩, c2, c3⟩ := id n1
  obtain ⟨gt, t1, t2, t3, t4, t5⟩ := tq_txt n5
  refine am_Mt.imp (m_count (lm := lm) (gT := T) (gt := gt) hR c0 c1 n2 n3 t1 t2 t3) ?_
  rintro r ⟨x, h', F', A', rfl, hI, f1, f2, pa, pb, pc, pd⟩
  exact ⟨_, h', F', A', rfl, hI, (by rw [f2 24 (by decide), f2 25 (by decide), f2 26 (by decide), f1 28 (by decide), f1 27 (by decide)]; exact n1), pa, pb, (by rw [f1 73 (by decide)]; exact n4), n5.congr pc (fun q q1 _ => pd q q1), (by rw [f1 23 (by decide)]; exact n6), ⟨(by rw [f1 4 (by decide), f2 3 (by decide)]; exact n7.1), n7.2.cg pc (fun q q1 => pd q q1)⟩⟩
theorem q_wanted (hR : rf_R h F A) (hi : ri F A T tx) : am_Mt 7 252 [.inr (.inr (some 81)), .inl w1] h (rQ h (fun F' A' => ri F' A' T tx)) := by
  obtain ⟨n1, n2, n3, n4, n5, n6, n7⟩ := hi
  obtain ⟨c0, ⟨lm, c1⟩, c2, c3⟩ := id n1
  obtain ⟨gt, t1, t2, t3, t4, t5⟩ := tq_txt n5
  refine am_Mt.imp (m_wanted (lm := lm) (gT := T) hR c0 c1 n2 n3) ?_
  rintro r ⟨x, h', F', A', rfl, hI, f1, f2, pa, pb, pc, pd⟩
  exact ⟨_, h', F', A', rfl, hI, (by rw [f2 24 (by decide), f2 25 (by decide), f2 26 (by decide), f1 28 (by decide), f1 27 (by decide)]; exact n1), pa, pb, (by rw [f1 73 (by decide)]; exact n4), n5.congr pc (fun q q1 _ => pd q q1), (by rw [f1 23 (by decide)]; exact n6), ⟨(by rw [f1 4 (by decide), f2 3 (by decide)]; exact n7.1), n7.2.cg pc (fun q q1 => pd q q1)⟩⟩
theorem q_part (hR : rf_R h F A) (hi : ri F A T tx) : am_Mt 8 255 [.inr (.inr (some 81)), .inl w1, .inl w2] h (rQ h (fun F' A' => ri F' A' T tx)) := by
  obtain ⟨n1, n2, n3, n4, n5, n6, n7⟩ := hi
  obtain ⟨c0, ⟨lm, c1⟩, c2, c3⟩ := id n1
  obtain ⟨gt, t1, t2, t3, t4, t5⟩ := tq_txt n5
  refine am_Mt.imp (m_part (lm := lm) (gT := T) (gt := gt) hR c0 c1 n2 n3 t1 t2 t3) ?_
  rintro r ⟨x, h', F', A', rfl, hI, f1, f2, pa, pb, pc, pd⟩
  exact ⟨_, h', F', A', rfl, hI, (by rw [f2 24 (by decide), f2 25 (by decide), f2 26 (by decide), f1 28 (by decide), f1 27 (by decide)]; exact n1), pa, pb, (by rw [f1 73 (by decide)]; exact n4), n5.congr pc (fun q q1 _ => pd q q1), (by rw [f1 23 (by decide)]; exact n6), ⟨(by rw [f1 4 (by decide), f2 3 (by decide)]; exact n7.1), n7.2.cg pc (fun q q1 => pd q q1)⟩⟩
theorem q_same (hR : rf_R h F A) (hi : ri F A T tx) : am_Mt 8 263 [.inr (.inr (some 81)), .inl w1, .inl w2] h (rQ h (fun F' A' => ri F' A' T tx)) := by
  obtain ⟨n1, n2, n3, n4, n5, n6, n7⟩ := hi
  obtain ⟨c0, ⟨lm, c1⟩, c2, c3⟩ := id n1
  obtain ⟨gt, t1, t2, t3, t4, t5⟩ := tq_txt n5
  refine am_Mt.imp (m_same (lm := lm) (gT := T) (gt := gt) hR c0 c1 n2 n3 t1 t2 t3) ?_
  rintro r ⟨x, h', F', A', rfl, hI, f1, f2, pa, pb, pc, pd⟩
  exact ⟨_, h', F', A', rfl, hI, (by rw [f2 24 (by decide), f2 25 (by decide), f2 26 (by decide), f1 28 (by decide), f1 27 (by decide)]; exact n1), pa, pb, (by rw [f1 73 (by decide)]; exact n4), n5.congr pc (fun q q1 _ => pd q q1), (by rw [f1 23 (by decide)]; exact n6), ⟨(by rw [f1 4 (by decide), f2 3 (by decide)]; exact n7.1), n7.2.cg pc (fun q q1 => pd q q1)⟩⟩
theorem q_plain (hR : rf_R h F A) (hi : ri F A T tx) : am_Mt 5 264 [.inr (.inr (some 81)), .inl w1] h (rf_Q h (fun x F' A' => ri F' A' T tx ∧ ((0 ≤ w1.toInt ∧ w1.toInt ≤ 200 ∧ F' 0 = 0 ∧ PLx tx.2 w1.toInt x) ∨ ((w1.toInt < 0 ∨ 200 < w1.toInt) ∧ F' 0 = 1)))) := by
  obtain ⟨n1, n2, n3, n4, n5, n6, n7⟩ := hi
  obtain ⟨l1, l2, l3, l4⟩ := n7.2.ok n5
  refine am_Mt.imp (m_plainE (gL := tx.2) hR n2 n3 ⟨n7.2.1, l1⟩ l4 l3 l2) ?_
  rintro r ⟨x, h', F', A', rfl, hI, f1, f2, pa, pb, pc, pd, pe⟩
  exact ⟨_, h', F', A', rfl, hI, ⟨(by rw [f2 24 (by decide), f2 25 (by decide), f2 26 (by decide), f1 28 (by decide), f1 27 (by decide)]; exact n1), pa, pb, (by rw [f1 73 (by decide)]; exact n4), n5.congr pc (fun q q1 _ => pd q q1), (by rw [f1 23 (by decide)]; exact n6), ⟨(by rw [f1 4 (by decide), f2 3 (by decide)]; exact n7.1), n7.2.cg pc (fun q q1 => pd q q1)⟩⟩, pe⟩
theorem q_redexes (hR : rf_R h F A) (hi : ri F A T tx) : am_Mt 8 265 [.inr (.inr (some 81)), .inl w1] h (rQ h (fun F' A' => ri F' A' T tx)) := by
  obtain ⟨n1, n2, n3, n4, n5, n6, n7⟩ := hi
  obtain ⟨c0, ⟨lm, c1⟩, c2, c3⟩ := id n1
  obtain ⟨gt, t1, t2, t3, t4, t5⟩ := tq_txt n5
  refine am_Mt.imp (m_redexes (lm := lm) (gT := T) (gt := gt) hR c0 c1 n2 n3 t1 t2 t3) ?_
  rintro r ⟨x, h', F', A', rfl, hI, f1, f2, pa, pb, pc, pd⟩
  exact ⟨_, h', F', A', rfl, hI, (by rw [f2 24 (by decide), f2 25 (by decide), f2 26 (by decide), f1 28 (by decide), f1 27 (by decide)]; exact n1), pa, pb, (by rw [f1 73 (by decide)]; exact n4), n5.congr pc (fun q q1 _ => pd q q1), (by rw [f1 23 (by decide)]; exact n6), ⟨(by rw [f1 4 (by decide), f2 3 (by decide)]; exact n7.1), n7.2.cg pc (fun q q1 => pd q q1)⟩⟩
theorem q_say (hR : rf_R h F A) (hi : ri F A T tx) : am_Mt 8 261 [.inr (.inr (some 81)), .inl w1] h (rQ h (fun F' A' => ri F' A' T tx)) := by
  obtain ⟨n1, n2, n3, n4, n5, n6, n7⟩ := hi
  obtain ⟨c0, ⟨lm, c1⟩, c2, c3⟩ := id n1
  obtain ⟨gt, t1, t2, t3, t4, t5⟩ := tq_txt n5
  refine am_Mt.imp (m_say (lm := lm) (gT := T) (gt := gt) hR c0 c1 n2 n3 t1 t2 t3 n4) ?_
  rintro r ⟨x, h', F', A', rfl, hI, f1, f2, p0, pa, pb, pc, pd⟩
  exact ⟨_, h', F', A', rfl, hI, (by rw [f2 24 (by decide), f2 25 (by decide), f2 26 (by decide), f1 28 (by decide), f1 27 (by decide)]; exact n1), pa, pb, p0, n5.congr pc (fun q q1 _ => pd q q1), (by rw [f1 23 (by decide)]; exact n6), ⟨(by rw [f1 4 (by decide), f2 3 (by decide)]; exact n7.1), n7.2.cg pc (fun q q1 => pd q q1)⟩⟩
theorem q_step (hR : rf_R h F A) (hi : ri F A T tx) (hT : T ≤ 800000) : am_Mt 9 219 [.inr (.inr (some 81)), .inl w1] h (rQ h (fun F' A' => ri F' A' (T + 1) tx)) := by
  obtain ⟨n1, n2, n3, n4, n5, n6, n7⟩ := hi
  obtain ⟨c0, ⟨lm, c1⟩, c2, c3⟩ := id n1
  obtain ⟨gt, t1, t2, t3, t4, t5⟩ := tq_txt n5
  refine am_Mt.imp (m_step (lm := lm) (gT := T) hR c0 c1 n2 n3 c2 ⟨c3, hT⟩) ?_
  rintro r ⟨x, h', F', A', rfl, hI, f1, f2, p0, pa, pb, pc, pd⟩
  exact ⟨_, h', F', A', rfl, hI, p0, pa, pb, (by rw [f1 73 (by decide)]; exact n4), n5.congr pc (fun q q1 _ => pd q q1), (by rw [f1 23 (by decide)]; exact n6), ⟨(by rw [f1 4 (by decide), f2 3 (by decide)]; exact n7.1), n7.2.cg pc (fun q q1 => pd q q1)⟩⟩
theorem q_run (hR : rf_R h F A) (hi : ri F A T tx) (hT : T ≤ 800000) : am_Mt 9 220 [.inr (.inr (some 81)), .inl w1, .inl w2] h (rQ h (fun F' A' => ri F' A' (T + 61) tx)) := by
  obtain ⟨n1, n2, n3, n4, n5, n6, n7⟩ := hi
  obtain ⟨c0, ⟨lm, c1⟩, c2, c3⟩ := id n1
  obtain ⟨gt, t1, t2, t3, t4, t5⟩ := tq_txt n5
  refine am_Mt.imp (m_run (lm := lm) (gT := T) hR c0 c1 n2 n3 c2 ⟨c3, hT⟩) ?_
  rintro r ⟨x, h', F', A', rfl, hI, f1, f2, p0, pa, pb, pc, pd⟩
  exact ⟨_, h', F', A', rfl, hI, p0, pa, pb, (by rw [f1 73 (by decide)]; exact n4), n5.congr pc (fun q q1 _ => pd q q1), (by rw [f1 23 (by decide)]; exact n6), ⟨(by rw [f1 4 (by decide), f2 3 (by decide)]; exact n7.1), n7.2.cg pc (fun q q1 => pd q q1)⟩⟩
theorem q_trial (hR : rf_R h F A) (hi : ri F A T tx) (hT : T ≤ 800000) : am_Mt 9 222 [.inr (.inr (some 81)), .inl w1, .inl w2] h (rQ h (fun F' A' => ri F' A' T tx)) := by
  obtain ⟨n1, n2, n3, n4, n5, n6, n7⟩ := hi
  obtain ⟨c0, ⟨lm, c1⟩, c2, c3⟩ := id n1
  obtain ⟨gt, t1, t2, t3, t4, t5⟩ := tq_txt n5
  refine am_Mt.imp (m_trial (lm := lm) (gT := T) hR c0 c1 n2 n3 c2 ⟨c3, hT⟩) ?_
  rintro r ⟨x, h', F', A', rfl, hI, f1, f2, p0, pa, pb, pc, pd⟩
  exact ⟨_, h', F', A', rfl, hI, p0, pa, pb, (by rw [f1 73 (by decide)]; exact n4), n5.congr pc (fun q q1 _ => pd q q1), (by rw [f1 23 (by decide)]; exact n6), ⟨(by rw [f1 4 (by decide), f2 3 (by decide)]; exact n7.1), n7.2.cg pc (fun q q1 => pd q q1)⟩⟩
theorem q_again (hR : rf_R h F A) (hi : ri F A T tx) : am_Mt 243 203 [.inr (.inr (some 81))] h (rQ h (fun F' A' => ri F' A' 200 tx)) := by
  obtain ⟨n1, n2, n3, n4, n5, n6, n7⟩ := hi
  obtain ⟨c0, ⟨lm, c1⟩, c2, c3⟩ := id n1
  obtain ⟨gt, t1, t2, t3, t4, t5⟩ := tq_txt n5
  refine am_Mt.imp (m_again (gt := gt) hR t4 t1.2.2 t5 n2 n3) ?_
  rintro r ⟨x, h', F', A', rfl, hI, f1, f2, p0, pa, pb, pc, pd⟩
  exact ⟨_, h', F', A', rfl, hI, p0, pa, pb, (by rw [f1 73 (by decide)]; exact n4), n5.congr pc (fun q q1 _ => pd q q1), (by rw [f1 23 (by decide)]; exact n6), ⟨(by rw [f1 4 (by decide), f2 3 (by decide)]; exact n7.1), n7.2.cg pc (fun q q1 => pd q q1)⟩⟩
theorem TP.take {tx : List Int} {n m : Int} {u : Int → Int} (h : TP tx n u) (h0 : 0 ≤ m) (h1 : m ≤ n) : TP (tx.take m.toNat) m u := by
  obtain ⟨e1, e2, e3⟩ := h
  refine ⟨?_, by omega, fun q q0 q1 => ?_⟩
  · rw [List.length_take, Nat.min_eq_left (by omega)]
    omega
  · obtain ⟨e4, e5⟩ := e3 q q0 (by omega)
    refine ⟨?_, e5⟩
    rw [e4]
    unfold gl
    rw [if_pos q0, if_pos q0, List.getD_eq_getElem?_getD, List.getD_eq_getElem?_getD, List.getElem?_take, if_pos (by omega)]
theorem TP.nil {u : Int → Int} {n : Int} (hn : n = 0) : TP [] n u := ⟨hn, by omega, fun q q0 q1 => absurd q1 (by omega)⟩
theorem q_tell (hR : rf_R h F A) (hi : ri F A T tx) (hT : 200 ≤ T) : am_Mt 242 186 [.inr (.inr (some 81)), .inl w1] h (fun r => ∃ (x : Int32) (h' : am_h) (F' : rf_f) (A' : rf_A), r = (.inl (some (.inl x)), h', 0, 0) ∧ rf_I h h' F' A' ∧ ((0 ≤ w1.toInt ∧ w1.toInt ≤ (tx.1.length : Int) ∧ (∀ L : List Int, TL L (A' 1) (A' 2 2) → ri F' A' T ([], L)) ∧ TZ (tx.1.take w1.toInt.toNat) x.toInt (F' 5) (A' 1) (A' 2) ∧ imp (x.toInt ≠ 0) (TL tx.2 (A' 1) (A' 2 2))) ∨ ((w1.toInt < 0 ∨ (tx.1.length : Int) < w1.toInt) ∧ ri F' A' T tx))) := by
  obtain ⟨n1, n2, n3, n4, n5, n6, n7⟩ := hi
  obtain ⟨n7, nz⟩ := n7
  have n8 := n7.1
  have n9 := n7.2.1
  refine am_Mt.imp (m_tell (gT := T) (tx := tx.1.take w1.toInt.toNat) hR n1 n2 n3 n5 (by omega) (fun z => n7.take z.1 z.2)) ?_
  rintro r ⟨x, h', F', A', rfl, hI, f1, f2, p0, pa, pb, pc, pd, pe, pf, pg⟩
  refine ⟨x, h', F', A', rfl, hI, ?_⟩
  have h73 : 0 ≤ F' 73 ∧ F' 73 ≤ 12000 := by rw [f1 73 (by decide)]; exact n4
  have p23 := pd.2.2
  by_cases hz : 0 ≤ w1.toInt ∧ w1.toInt ≤ F 4
  · exact Or.inl ⟨hz.1, by omega, fun L hL => ⟨p0, pa, pb, h73, pc, p23, TP.nil (pd.1 hz), hL⟩, pf hz, fun hx => nz.ts (pg (Or.inr hx))⟩
  · exact Or.inr ⟨by omega, p0, pa, pb, h73, pc, p23, (by rw [pd.2.1 hz, f2 3 (by decide)]; exact n7), nz.ts (pg (Or.inl (by rw [(pe.1 hz).1]; decide)))⟩
theorem q_feed (hR : rf_R h F A) (hi : ri F A T tx) : am_Mt 2 163 [.inr (.inr (some 81)), .inl w1, .inl w2, .inl w3, .inl w4, .inl w5] h (rQ h (fun F' A' => (680 < (tx.1.length : Int) ∧ ri F' A' T tx) ∨ ((tx.1.length : Int) ≤ 680 ∧ ri F' A' T ((((((tx.1 ++ bts w1) ++ bts w2) ++ bts w3) ++ bts w4) ++ bts w5), tx.2)))) := by
  obtain ⟨n1, n2, n3, n4, n5, n6, n7⟩ := hi
  obtain ⟨n7, nz⟩ := n7
  have n8 := n7.1
  have n9 := n7.2.1
  refine am_Mt.imp (m_feedE (tx := tx.1) hR (by omega) n7) ?_
  rintro r ⟨x, h', F', A', rfl, hI, f1, f2, hp⟩
  refine ⟨x, h', F', A', rfl, hI, ?_⟩
  have k1 : nt (A' 24) (A' 25) (A' 26) (F' 28) T (F' 27) := by rw [f2 24 (by decide), f2 25 (by decide), f2 26 (by decide), f1 28 (by decide), f1 27 (by decide)]; exact n1
  have k4 : 0 ≤ F' 73 ∧ F' 73 ≤ 12000 := by rw [f1 73 (by decide)]; exact n4
  have k5 : tq (A' 1) (A' 2 2) := by rw [f2 1 (by decide), f2 2 (by decide)]; exact n5
  have k6 : 0 ≤ F' 23 ∧ F' 23 ≤ 1000000 := by rw [f1 23 (by decide)]; exact n6
  have k7 : TL tx.2 (A' 1) (A' 2 2) := by rw [f2 1 (by decide), f2 2 (by decide)]; exact nz
  rcases hp with ⟨hp, hq⟩ | ⟨hp, hq⟩
  · exact Or.inl ⟨by omega, k1, n2.fr f2 (by decide), n3.fr f2 (by decide), k4, k5, k6, hq, k7⟩
  · exact Or.inr ⟨by omega, k1, n2.fr f2 (by decide), n3.fr f2 (by decide), k4, k5, k6, hq, k7⟩
theorem q_thrown (hR : rf_R h F A) : am_Mt 1 282 [.inr (.inr (some 81))] h (rf_Q h (fun x F' A' => x = F 0 ∧ F' = F ∧ A' = A)) := by
  refine am_Mt.of (D := 0) ?_
  have hI : rf_I h h F A := rf_I.start hR
  refine k_aload 1 rfl rfl rfl ?_
  refine r_gI hI 4 rfl rfl rfl (fun x4 (e5 : x4.toInt = F 0) => ?_)
  exact k_fin rfl rfl ⟨_, _, _, _, rfl, hI, e5, rfl, rfl⟩
theorem ri.mono {T' : Int} (hi : ri F A T tx) (hT : T ≤ T') : ri F A T' tx := ⟨hi.1.mono hT, hi.2⟩
end RIQ
