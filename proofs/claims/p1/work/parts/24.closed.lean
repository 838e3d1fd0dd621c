/-! what is read off a state that is computed -/
section AMF
variable {h h' : am_h} {fs : List am_v} {i k m o : Nat}
def am_fs (h : am_h) (i : Nat) : List am_v := match h[i]? with
  | some (.inr q) => q.2
  | _ => []
def am_isO (h : am_h) (i k : Nat) : Bool := match h[i]? with
  | some (.inr q) => Nat.beq q.1 k
  | _ => false
theorem am_fsE (e : am_isO h i k = true) : h[i]? = some (.inr (k, am_fs h i)) := by
  unfold am_isO at e
  split at e
  · rename_i q hq
    have e2 : am_fs h i = q.2 := by
      unfold am_fs
      rw [hq]
    rw [hq, e2, ← Nat.eq_of_beq_eq_true e]
  · cases e
def am_rg (fs : List am_v) (k : Nat) : Nat := match fs[k]? with
  | some (.inr (.inr (some i))) => i
  | _ => 0
def am_isR (fs : List am_v) (k : Nat) : Bool := match fs[k]? with
  | some (.inr (.inr (some _))) => true
  | _ => false
theorem am_rgE (e : am_isR fs k = true) : fs[k]? = some (.inr (.inr (some (am_rg fs k)))) := by
  unfold am_isR at e
  split at e
  · rename_i q hq
    have e2 : am_rg fs k = q := by
      unfold am_rg
      rw [hq]
    rw [hq, e2]
  · cases e
def am_isI (fs : List am_v) (k : Nat) (z : Int32) : Bool := match fs[k]? with
  | some (.inl x) => decide (x = z)
  | _ => false
theorem am_isIE {z : Int32} (e : am_isI fs k z = true) : fs[k]? = some (.inl z) := by
  unfold am_isI at e
  split at e
  · rename_i q hq
    rw [hq, of_decide_eq_true e]
  · cases e
def am_rw (h : am_h) (i : Nat) : Nat × Int32 × List Int32 := match h[i]? with
  | some (.inl (.inl xs)) => xs
  | _ => (0, 0, [])
def am_isW (h : am_h) (i : Nat) : Bool := match h[i]? with
  | some (.inl (.inl _)) => true
  | _ => false
theorem am_rwE (e : am_isW h i = true) : h[i]? = some (.inl (.inl (am_rw h i))) := by
  unfold am_isW at e
  split at e
  · rename_i q hq
    have e2 : am_rw h i = q := by
      unfold am_rw
      rw [hq]
    rw [hq, e2]
  · cases e
def am_isB (h : am_h) (o : Nat) (b : Int32) : Bool := match h[o]? with
  | some (.inl (.inr (.inl xs))) => Nat.beq xs.1 1 && decide (xs.2.2.getD 0 xs.2.1 = b.toInt64)
  | _ => false
theorem am_isBE {b : Int32} (e : am_isB h o b = true) : ∃ xs, h[o]? = some (.inl (.inr (.inl xs))) ∧ xs.1 = 1 ∧ xs.2.2.getD 0 xs.2.1 = b.toInt64 := by
  unfold am_isB at e
  split at e
  · rename_i q hq
    have e2 := Bool.and_eq_true_iff.mp e
    exact ⟨q, hq, Nat.eq_of_beq_eq_true e2.1, of_decide_eq_true e2.2⟩
  · cases e
/-- a call through the law's helper k, and of the reference's method k2, at these values: all agrees -/
def am_ck (h : am_h) (m o k k2 : Nat) (as : List am_v) : Prop := ∃ (kx b : Int32) (hx hm ht : am_h) (cx sx cm sm : Nat), am_rn 12 k (am_ref 1 :: (as ++ [am_ref o])) h = some (.inl (some (.inl kx)), hx, cx, sx) ∧ am_rn 12 k2 (am_ref m :: as) hx = some (.inl (some (.inl b)), hm, cm, sm) ∧ am_rn 12 159 [am_ref m] hm = some (.inl (some (.inl kx)), ht, 0, 0) ∧ hx.length = h.length ∧ hm.length = hx.length ∧ ht.length = hm.length ∧ cx + cm ≤ 1000 ∧ sx + sm ≤ 10000 ∧ (∃ f1, hx[m]? = some (.inr (10, f1))) ∧ (∃ f2, hm[m]? = some (.inr (10, f2))) ∧ (kx = 0 → ∃ xs, ht[o]? = some (.inl (.inr (.inl xs))) ∧ xs.1 = 1 ∧ xs.2.2.getD 0 xs.2.1 = b.toInt64)
def am_chk2 (h : am_h) (m o k k2 : Nat) (as : List am_v) : Bool := match am_rn 12 k (am_ref 1 :: (as ++ [am_ref o])) h with
  | some (.inl (some (.inl kx)), hx, cx, sx) => (match am_rn 12 k2 (am_ref m :: as) hx with
    | some (.inl (some (.inl b)), hm, cm, sm) => (match am_rn 12 159 [am_ref m] hm with
      | some (.inl (some (.inl t)), ht, ct, st) => decide (t = kx) && (Nat.beq ct 0 && (Nat.beq st 0 && (Nat.beq hx.length h.length && (Nat.beq hm.length hx.length && (Nat.beq ht.length hm.length && (Nat.ble (cx + cm) 1000 && (Nat.ble (sx + sm) 10000 && (am_isO hx m 10 && (am_isO hm m 10 && (bif decide (kx = 0) then am_isB ht o b else true))))))))))
      | _ => false)
    | _ => false)
  | _ => false
theorem am_chk2E {k2 : Nat} {as : List am_v} (e : am_chk2 h m o k k2 as = true) : am_ck h m o k k2 as := by
  unfold am_chk2 at e
  split at e <;> first | (cases e; done) | skip
  rename_i kx hx cx sx e1
  split at e <;> first | (cases e; done) | skip
  rename_i b hm cm sm e2
  split at e <;> first | (cases e; done) | skip
  rename_i t ht ct st e3
  simp only [Bool.and_eq_true, decide_eq_true_eq] at e
  obtain ⟨rfl, p1, p2, p3, p4, p5, p6, p7, p8, p9, p10⟩ := e
  obtain rfl := Nat.eq_of_beq_eq_true p1
  obtain rfl := Nat.eq_of_beq_eq_true p2
  refine ⟨_, b, hx, hm, ht, cx, sx, cm, sm, e1, e2, e3, Nat.eq_of_beq_eq_true p3, Nat.eq_of_beq_eq_true p4, Nat.eq_of_beq_eq_true p5, Nat.le_of_ble_eq_true p6, Nat.le_of_ble_eq_true p7, ⟨_, am_fsE p8⟩, ⟨_, am_fsE p9⟩, fun hz => ?_⟩
  rw [hz] at p10
  exact am_isBE p10
/-- a method of the class and one of the reference, straight from the law -/
def am_cq (h : am_h) (m k k2 : Nat) (as : List am_v) : Prop := ∃ (b : Int32) (hx hm : am_h) (cx sx cm sm : Nat), am_rn 12 k (am_ref 1 :: as) h = some (.inl (some (.inl b)), hx, cx, sx) ∧ am_rn 12 k2 (am_ref m :: as) hx = some (.inl (some (.inl b)), hm, cm, sm) ∧ hx.length = h.length ∧ hm.length = hx.length ∧ cx + cm ≤ 1000 ∧ sx + sm ≤ 10000 ∧ (∃ f1, hx[m]? = some (.inr (10, f1)))
def am_chq (h : am_h) (m k k2 : Nat) (as : List am_v) : Bool := match am_rn 12 k (am_ref 1 :: as) h with
  | some (.inl (some (.inl b)), hx, cx, sx) => (match am_rn 12 k2 (am_ref m :: as) hx with
    | some (.inl (some (.inl b2)), hm, cm, sm) => decide (b2 = b) && (Nat.beq hx.length h.length && (Nat.beq hm.length hx.length && (Nat.ble (cx + cm) 1000 && (Nat.ble (sx + sm) 10000 && am_isO hx m 10))))
    | _ => false)
  | _ => false
theorem am_chqE {k2 : Nat} {as : List am_v} (e : am_chq h m k k2 as = true) : am_cq h m k k2 as := by
  unfold am_chq at e
  split at e <;> first | (cases e; done) | skip
  rename_i b hx cx sx e1
  split at e <;> first | (cases e; done) | skip
  rename_i b2 hm cm sm e2
  simp only [Bool.and_eq_true, decide_eq_true_eq] at e
  obtain ⟨rfl, p3, p4, p6, p7, p8⟩ := e
  exact ⟨_, hx, hm, cx, sx, cm, sm, e1, e2, Nat.eq_of_beq_eq_true p3, Nat.eq_of_beq_eq_true p4, Nat.le_of_ble_eq_true p6, Nat.le_of_ble_eq_true p7, ⟨_, am_fsE p8⟩⟩
def am_e2 : am_e → am_e → Bool
  | .inl (.inl x), .inl (.inl y) => Nat.beq x.1 y.1 && (decide (x.2.1 = y.2.1) && am_el (fun a b => decide (a = b)) x.2.2 y.2.2)
  | .inl (.inr (.inl x)), .inl (.inr (.inl y)) => Nat.beq x.1 y.1 && (decide (x.2.1 = y.2.1) && am_el (fun a b => decide (a = b)) x.2.2 y.2.2)
  | .inl (.inr (.inr x)), .inl (.inr (.inr y)) => Nat.beq x.1 y.1 && (decide (x.2.1 = y.2.1) && am_el (fun a b => decide (a = b)) x.2.2 y.2.2)
  | .inr x, .inr y => Nat.beq x.1 y.1 && am_el am_ev x.2 y.2
  | _, _ => false
theorem am_e2_row {τ : Type} (f : τ → τ → Bool) (hf : ∀ {a b}, f a b = true → a = b) {x y : Nat × τ × List τ} (e : (Nat.beq x.1 y.1 && (f x.2.1 y.2.1 && am_el f x.2.2 y.2.2)) = true) : x = y := by
  have h1 := Bool.and_eq_true_iff.mp e
  have h2 := Bool.and_eq_true_iff.mp h1.2
  obtain ⟨a, b, c⟩ := x
  obtain ⟨a2, b2, c2⟩ := y
  have e1 : a = a2 := Nat.eq_of_beq_eq_true h1.1
  have e2 : b = b2 := hf h2.1
  have e3 : c = c2 := am_el_eq hf h2.2
  rw [e1, e2, e3]
theorem am_e2_eq : ∀ {x y : am_e}, am_e2 x y = true → x = y
  | .inl (.inl x), .inl (.inl y), e => by rw [am_e2_row (fun a b => decide (a = b)) (fun h => of_decide_eq_true h) e]
  | .inl (.inr (.inl x)), .inl (.inr (.inl y)), e => by rw [am_e2_row (fun a b => decide (a = b)) (fun h => of_decide_eq_true h) e]
  | .inl (.inr (.inr x)), .inl (.inr (.inr y)), e => by rw [am_e2_row (fun a b => decide (a = b)) (fun h => of_decide_eq_true h) e]
  | .inr (a, b), .inr (c, d), e => by
    have h2 := Bool.and_eq_true_iff.mp e
    have h3 : a = c := Nat.eq_of_beq_eq_true h2.1
    have h4 : b = d := am_el_eq am_ev_eq h2.2
    rw [h3, h4]
/-- a run that answers v and leaves all as it is -/
def am_sm (h : am_h) (v : Int32) : Option am_r → Bool
  | some (.inl (some (.inl y)), h', c, s) => decide (y = v) && (Nat.beq c 0 && (Nat.beq s 0 && am_el am_e2 h' h))
  | _ => false
theorem am_smE {v : Int32} {x : Option am_r} (e : am_sm h v x = true) : x = some (.inl (some (.inl v)), h, 0, 0) := by
  unfold am_sm at e
  split at e <;> first | (cases e; done) | skip
  simp only [Bool.and_eq_true, decide_eq_true_eq] at e
  obtain ⟨p1, p2, p3, p4⟩ := e
  rw [p1, Nat.eq_of_beq_eq_true p2, Nat.eq_of_beq_eq_true p3, am_el_eq am_e2_eq p4]
end AMF
/-- part(which, i) at a place outside the term: what is needed of the two terms -/
def am_pb (h : am_h) (m : Nat) (w : Int32) : Bool := match am_rn 10 153 [am_ref 1, .inl w] h with
  | some (.inl (some (.inr (.inr (some t)))), h', c', s') => Nat.beq h'.length h.length && (Nat.ble c' 400 && (Nat.ble s' 4000 && (am_isO h' t 3 && (am_isI (am_fs h' t) 2 2 && (am_isO h' m 10 && (am_isI (am_fs h' m) 0 0 && (match am_rn 11 246 [am_ref m, .inl w] h' with
    | some (.inl (some (.inl y)), g, c2, s2) => decide (y = 1) && (Nat.beq g.length h'.length && (Nat.ble c2 400 && (Nat.ble s2 4000 && (am_isO g m 10 && (am_isI (am_fs g m) 0 0 && (am_isR (am_fs g m) 2 && (Nat.ble 1 (am_rg (am_fs g m) 2) && (am_isW g (am_rg (am_fs g m) 2) && (Nat.blt w.toNatClampNeg (am_rw g (am_rg (am_fs g m) 2)).1 && decide ((am_rw g (am_rg (am_fs g m) 2)).2.2.getD w.toNatClampNeg (am_rw g (am_rg (am_fs g m) 2)).2.1 = 2))))))))))
    | _ => false)))))))
  | _ => false
/-- all that is needed of the start -/
def am_fb (h : am_h) (m : Nat) : Bool := am_isO h 1 9 && (am_isO h m 10 && (am_isI (am_fs h m) 0 0 && (am_isI (am_fs h m) 4 0 && (am_isI (am_fs h m) 28 3 && (am_isI (am_fs h m) 73 0 && (am_isR (am_fs h m) 3 && (Nat.ble 1 (am_rg (am_fs h m) 3) && (am_isW h (am_rg (am_fs h m) 3) && Nat.beq (am_rw h (am_rg (am_fs h m) 3)).1 700))))))))
def am_fc (h : am_h) (t : Nat) : Bool := am_isO h t 3 && (am_isI (am_fs h t) 0 700 && (am_isR (am_fs h t) 1 && (am_isI (am_fs h t) 2 0 && (Nat.ble 1 (am_rg (am_fs h t) 1) && (am_isW h (am_rg (am_fs h t) 1) && Nat.beq (am_rw h (am_rg (am_fs h t) 1)).1 80)))))
def am_fd (h : am_h) (kr : Nat) : Bool := am_isO h kr 3 && (am_isR (am_fs h kr) 1 && (am_isI (am_fs h kr) 2 402 && (Nat.ble 1 (am_rg (am_fs h kr) 1) && (am_isW h (am_rg (am_fs h kr) 1) && (Nat.beq (am_rw h (am_rg (am_fs h kr) 1)).1 402 && (decide ((am_rw h (am_rg (am_fs h kr) 1)).2.1 = -1) && Nat.ble (am_rw h (am_rg (am_fs h kr) 1)).2.2.length 3))))))
def am_fe (h : am_h) (m net : Nat) : Bool := am_isO h net 1 && (am_isI (am_fs h net) 6 3 && (am_isR (am_fs h net) 0 && (am_fd h (am_rg (am_fs h net) 0) && (am_sm h 1 (am_rn 10 13 [am_ref net, .inl 0] h) && (am_sm h 1 (am_rn 10 13 [am_ref net, .inl 1] h) && (am_sm h 1 (am_rn 10 13 [am_ref net, .inl 2] h) && (am_sm h 0 (am_rn 9 26 [am_ref net, .inl 0] h) && (am_sm h 0 (am_rn 9 26 [am_ref net, .inl 1] h) && (am_sm h 0 (am_rn 9 26 [am_ref net, .inl 2] h) && (am_sm h 0 (am_rn 11 206 [am_ref m, .inl 0] h) && (am_sm h 0 (am_rn 11 206 [am_ref m, .inl 1] h) && (am_sm h 0 (am_rn 11 206 [am_ref m, .inl 2] h) && (am_sm h 1 (am_rn 11 190 [am_ref m, .inl 0] h) && (am_sm h 1 (am_rn 11 190 [am_ref m, .inl 1] h) && am_sm h 1 (am_rn 11 190 [am_ref m, .inl 2] h)))))))))))))))
def am_ff (h : am_h) (tl : Nat) : Bool := am_isO h tl 5 && (am_isR (am_fs h tl) 0 && (am_isO h (am_rg (am_fs h tl) 0) 3 && am_isI (am_fs h (am_rg (am_fs h tl) 0)) 2 0))
def am_fa (h : am_h) (m : Nat) : Bool := am_fb h m && (am_isR (am_fs h 1) 0 && (am_fc h (am_rg (am_fs h 1) 0) && (am_isR (am_fs h 1) 10 && (am_fe h m (am_rg (am_fs h 1) 10) && (am_isR (am_fs h 1) 4 && am_ff h (am_rg (am_fs h 1) 4))))))
theorem k_fb : am_fb am_h2 am_m = true := by decide +kernel
theorem k_fa : am_fa am_h2 am_m = true := by decide +kernel
