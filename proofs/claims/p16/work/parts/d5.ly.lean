/-! the class's Layer: rows of frames, ends, latest ends; a net to be laid -/
section LY0
variable {G : Nat → Nat → Option am_n} {D j pc c s B i k l τ r : Nat} {lv : am_l} {st : List am_v} {h h0 : am_h} {Q : am_r → Prop} {F : rf_f} {A : xl_A} {x y q : Int32} {a b : Int}
theorem bx_dv (h : q = x / y) (h1 : x.toInt = a) (h2 : y.toInt = b) (hb : 0 < b) (hl : 0 ≤ a) : q.toInt = a / b := by
  subst h1
  rw [h]
  exact iv_div b h2 hb hl
theorem x_pO {fx_ok : ∀ r, (i, k, r) ∉ fx_T} (hI : xI h0 B h c s F A) (q : Nat) (hg : G j pc = some (.inl (ai_put l k am_okR))) (ho : ob l i) (h3 : (Nat.beq l 3 || Nat.beq l 11) = false) (hk : (ty_F l)[k]? = some (τ + 2)) (hk9 : Nat.blt k 100 = true) (hr : ob τ r) (hp : pc + 3 = q) (K : ∀ h', xI h0 B h' c s (up1 F (100 * i + k) ((r : Nat) : Int)) A → h'.length = h.length → am_Ok G D j (q, lv, st, h', c, s) Q) : am_Ok G D j (pc, lv, .inr (.inr (some r)) :: .inr (.inr (some i)) :: st, h, c, s) Q := by
  obtain ⟨fs, v, e1, e2, -⟩ := hI.1.1.get ho h3 hk
  exact k_put q hg e1 rfl (List.getElem?_eq_some_iff.mp e2).1 hp (K _ (hI.put ho h3 e1 hk hk9 ⟨r, rfl, hr⟩ fx_ok) List.length_set)
end LY0
def NWv (f5 f7 : Int) (K : List Int) (m : Nat) : Prop := (m ≤ 400 ∧ f5 = (m : Int) ∧ f7 = 0 ∧ ∀ j : Int, (m : Int) ≤ j → j < 400 → gl K j = -1) ∨ (400 < m ∧ f5 = 400 ∧ f7 = 1)
def MKv (K L lo hi : Nat) (F F' : rf_f) (A A' : xl_A) : Prop := (∀ n : Nat, n < lo ∨ hi < n → F' n = F n) ∧ ∀ k : Nat, k ≠ K → k ≠ L → A' k = A k
def FRM : lFr → List Int → Prop
  | [], L => L = []
  | f :: fr, L => ∃ (L' : List Int) (nd : Int), L = ((L' ++ [nd]) ++ [f.1]) ++ [f.2] ∧ FRM fr L'
def ENM (L : List Int) (EN : lFr) : Prop := L.length = 3 * EN.length ∧ ∀ e : Int, 0 ≤ e → e < (EN.length : Int) → gl L (3 * e + 1) = plc EN e ∧ gl L (3 * e + 2) = nxt EN e
def LYv (f3 nc f5 f7 : Int) (K a75 a77 a79 : List Int) (S : lST) : Prop := f3 = nc ∧ NWv f5 f7 K S.2.2.2 ∧ FRM S.1 a75 ∧ ENM a77 S.2.1 ∧ a79 = S.2.2.1
def fL9 (F F' : rf_f) : Prop := ∀ n : Nat, n < 5600 → F' n = F n
def aL9 (A A' : xl_A) : Prop := ∀ k : Nat, k < 56 → A' k = A k
section LY1
variable {f3 nc f5 f7 g5 g7 x p q w y : Int} {K K' a75 a77 a79 L : List Int} {m i k : Nat} {S : lST} {EN fr : lFr} {F F' F'' : rf_f} {A A' A'' : xl_A}
theorem fL9.tr (h : fL9 F F') (h2 : fL9 F' F'') : fL9 F F'' := fun n hn => (h2 n hn).trans (h n hn)
theorem aL9.tr (h : aL9 A A') (h2 : aL9 A' A'') : aL9 A A'' := fun n hn => (h2 n hn).trans (h n hn)
theorem NWv.b (h : NWv f5 f7 K m) : 0 ≤ f5 ∧ f5 ≤ 400 := by
  rcases h with ⟨h1, h2, -⟩ | ⟨h1, h2, -⟩
  · omega
  · omega
theorem NWv.ov (h : NWv f5 f7 K m) : (f7 = 0 ∧ m ≤ 400) ∨ (f7 = 1 ∧ 400 < m) := by
  rcases h with ⟨h1, h2, h3, -⟩ | ⟨h1, h2, h3⟩
  · omega
  · omega
theorem NWv.mk (h : NWv f5 f7 K m) (hl : ¬ 400 ≤ f5) : NWv (f5 + 1) f7 (ssl K f5 w) (m + 1) := by
  rcases h with ⟨h1, h2, h3, h4⟩ | ⟨h1, h2, h3⟩
  · exact Or.inl ⟨by omega, by omega, h3, fun j j0 j1 => by rw [gl_ssl (by omega)]; exact h4 j (by omega) j1⟩
  · omega
theorem NWv.free (h : NWv f5 f7 K m) (hl : ¬ 400 ≤ f5) : gl K f5 = -1 := by
  rcases h with ⟨h1, h2, h3, h4⟩ | ⟨h1, h2, h3⟩
  · exact h4 _ (by omega) (by omega)
  · omega
theorem NWv.full (h : NWv f5 f7 K m) (hl : 400 ≤ f5) : NWv f5 1 K (m + 1) := by
  rcases h with ⟨h1, h2, h3, h4⟩ | ⟨h1, h2, h3⟩
  · exact Or.inr ⟨by omega, by omega, rfl⟩
  · exact Or.inr ⟨by omega, h2, rfl⟩
theorem add3 (h : ((A i).length : Int) + 3 ≤ (ob_mo i).toInt) : (∀ u v w : Int, addl i (addl i (addl i A u) v) w i = ((A i ++ [u]) ++ [v]) ++ [w]) ∧ ∀ (u v w : Int) (k : Nat), k ≠ i → addl i (addl i (addl i A u) v) w k = A k := by
  have e1 : ∀ u : Int, addl i A u i = A i ++ [u] := fun u => addl_eq (by omega)
  have e2 : ∀ u v : Int, addl i (addl i A u) v i = (A i ++ [u]) ++ [v] := fun u v => by
    rw [addl_eq (by rw [e1, List.length_append]; show (((A i).length + 1 : Nat) : Int) < _; omega), e1]
  refine ⟨fun u v w => ?_, fun u v w k hk => by rw [addl_ne hk, addl_ne hk, addl_ne hk]⟩
  rw [addl_eq (by rw [e2, List.length_append, List.length_append]; show (((A i).length + 1 + 1 : Nat) : Int) < _; omega), e2]
theorem mo75 : (ob_mo 75).toInt = 360 := by decide
theorem mo77 : (ob_mo 77).toInt = 360 := by decide
theorem mo79 : (ob_mo 79).toInt = 120 := by decide
theorem FRM.len : ∀ {fr : lFr} {L : List Int}, FRM fr L → L.length = 3 * fr.length
  | [], L, h => by
    have h : L = [] := h
    rw [h]
    rfl
  | f :: fr, L, h => by
    obtain ⟨L', nd, e, h2⟩ := h
    have ih := FRM.len h2
    rw [e, List.length_append, List.length_append, List.length_append, ih]
    show 3 * fr.length + 1 + 1 + 1 = 3 * (fr.length + 1)
    omega
theorem LYv.bf (h : LYv f3 nc f5 f7 K a75 a77 a79 S) (hn : NWv g5 g7 K' (S.2.2.2 + 1)) : LYv f3 nc g5 g7 K' (((a75 ++ [x]) ++ [p]) ++ [q]) a77 a79 ((p, q) :: S.1, S.2.1, S.2.2.1, S.2.2.2 + 1) := ⟨h.1, hn, ⟨a75, x, rfl, h.2.2.1⟩, h.2.2.2.1, h.2.2.2.2⟩
theorem ENM.add (h : ENM L EN) : ENM (((L ++ [x]) ++ [p]) ++ [q]) (EN ++ [(p, q)]) := by
  obtain ⟨h1, h2⟩ := h
  have e3 : ((L ++ [x]) ++ [p]) ++ [q] = L ++ [x, p, q] := by
    rw [List.append_assoc, List.append_assoc]
    first | done | rfl
  have hn : (EN ++ [(p, q)]).length = EN.length + 1 := by
    rw [List.length_append]
    first | done | rfl
  rw [e3]
  refine ⟨by rw [hn, List.length_append, h1]; show 3 * EN.length + 3 = 3 * (EN.length + 1); omega, fun e e0 e1 => ?_⟩
  rw [hn] at e1
  by_cases z : e = (EN.length : Int)
  · rw [z, plc_e, nxt_e, gl_ap2 (by omega), gl_ap2 (by omega), show 3 * (EN.length : Int) + 1 - (L.length : Int) = 1 by omega, show 3 * (EN.length : Int) + 2 - (L.length : Int) = 2 by omega]
    exact ⟨rfl, rfl⟩
  · rw [plc_a e0 (by omega), nxt_a e0 (by omega), gl_ap (by omega), gl_ap (by omega)]
    exact h2 e e0 (by omega)
theorem ENM.set (h : ENM L EN) (e : Int) : ENM (ssl L (3 * e) w) EN := by
  obtain ⟨h1, h2⟩ := h
  refine ⟨by rw [ssl_len]; exact h1, fun e0 e1 e2 => ?_⟩
  rw [gl_ssl (by omega), gl_ssl (by omega)]
  exact h2 e0 e1 e2
theorem LYv.va (h : LYv f3 nc f5 f7 K a75 a77 a79 S) (hn : NWv g5 g7 K' (S.2.2.2 + 1)) : LYv f3 nc g5 g7 K' a75 (((a77 ++ [x]) ++ [p]) ++ [gl S.2.2.1 y]) (ssl S.2.2.1 y (S.2.1.length : Int)) (S.1, S.2.1 ++ [(p, gl S.2.2.1 y)], ssl S.2.2.1 y (S.2.1.length : Int), S.2.2.2 + 1) := ⟨h.1, hn, h.2.2.1, h.2.2.2.1.add, rfl⟩
theorem LYv.e77 (h : LYv f3 nc f5 f7 K a75 a77 a79 S) : (a77.length : Int) / 3 = (S.2.1.length : Int) := by
  have := h.2.2.2.1.1
  omega
/-- brackets, fans, counted along the latest ends -/
theorem drop_gl2 {l : List Int} {v : Int} (h0 : 0 ≤ v) (h1 : v < (l.length : Int)) : l.drop v.toNat = gl l v :: l.drop (v + 1).toNat := drop_gl h0 h1
theorem bk_z {l : List Int} {v a : Int} {M : Nat} (h1 : (l.length : Int) ≤ v) (h : m + bkn EN a (l.drop v.toNat) = M) : m = M := by
  rw [List.drop_eq_nil_of_le (by omega)] at h
  exact h
theorem bk_s {l : List Int} {v a : Int} {M n : Nat} (h0 : 0 ≤ v) (h1 : v < (l.length : Int)) (h : m + bkn EN a (l.drop v.toNat) = M) (hn : n = m + (if gl l v ≠ -1 ∧ a ≤ plc EN (gl l v) then 1 else 0)) : n + bkn EN a (l.drop (v + 1).toNat) = M := by
  rw [drop_gl h0 h1] at h
  have h : m + ((if gl l v ≠ -1 ∧ a ≤ plc EN (gl l v) then 1 else 0) + bkn EN a (l.drop (v + 1).toNat)) = M := h
  rw [hn, ← h, Nat.add_assoc]
theorem fa_z {l : List Int} {v a : Int} {M : Nat} (h1 : (l.length : Int) ≤ v) (h : m + fnn EN p a (l.drop v.toNat) = M) : m = M := by
  rw [List.drop_eq_nil_of_le (by omega)] at h
  exact h
theorem fa_s {l : List Int} {v a : Int} {M n : Nat} (h0 : 0 ≤ v) (h1 : v < (l.length : Int)) (h : m + fnn EN p a (l.drop v.toNat) = M) (hn : n = m + (if gl l v ≠ -1 ∧ a ≤ plc EN (gl l v) ∧ nxt EN (gl l v) ≠ -1 ∧ p < plc EN (nxt EN (gl l v)) then 1 else 0)) : n + fnn EN p a (l.drop (v + 1).toNat) = M := by
  rw [drop_gl h0 h1] at h
  have h : m + ((if gl l v ≠ -1 ∧ a ≤ plc EN (gl l v) ∧ nxt EN (gl l v) ≠ -1 ∧ p < plc EN (nxt EN (gl l v)) then 1 else 0) + fnn EN p a (l.drop (v + 1).toNat)) = M := h
  rw [hn, ← h, Nat.add_assoc]
/-- the latest ends, changed up to a place -/
def lmx (f : Int → Int) (l : List Int) (v : Int) : List Int := (l.take v.toNat).map f ++ l.drop v.toNat
theorem lmx_0 {f : Int → Int} {l : List Int} : lmx f l 0 = l := by
  unfold lmx
  first | done | rfl
theorem lmx_e {f : Int → Int} {l : List Int} {v : Int} (h : (l.length : Int) ≤ v) : lmx f l v = l.map f := by
  unfold lmx
  rw [List.take_of_length_le (by omega), List.drop_eq_nil_of_le (by omega), List.append_nil]
theorem lmx_l {f : Int → Int} {l : List Int} {v : Int} : (lmx f l v).length = l.length := by
  unfold lmx
  rw [List.length_append, List.length_map, List.length_take, List.length_drop]
  omega
theorem lmx_g {f : Int → Int} {l : List Int} {v : Int} (h0 : 0 ≤ v) (h1 : v < (l.length : Int)) : gl (lmx f l v) v = gl l v := by
  have hl : ((l.take v.toNat).map f).length = v.toNat := by rw [List.length_map, List.length_take]; omega
  unfold lmx
  rw [gl_ap2 (by omega), hl, drop_gl h0 h1, show v - ((v.toNat : Nat) : Int) = 0 by omega]
  rfl
theorem lmx_s {f : Int → Int} {l : List Int} {v : Int} (h0 : 0 ≤ v) (h1 : v < (l.length : Int)) (hf : f (gl l v) = w) : lmx f l (v + 1) = ssl (lmx f l v) v w := by
  have hl : ((l.take v.toNat).map f).length = v.toNat := by rw [List.length_map, List.length_take]; omega
  have ht : l.take (v + 1).toNat = l.take v.toNat ++ [gl l v] := by
    rw [show (v + 1).toNat = v.toNat + 1 by omega, List.take_add_one, gl_at h0 h1]
    rfl
  unfold lmx ssl
  rw [if_pos h0, drop_gl h0 h1, ht, List.map_append, List.set_append_right _ _ (by omega), hl, Nat.sub_self, List.append_assoc]
  show _ ++ (f (gl l v) :: _) = _ ++ (w :: _)
  rw [hf]
  first | done | rfl
theorem lmx_k {f : Int → Int} {l : List Int} {v : Int} (h0 : 0 ≤ v) (h1 : v < (l.length : Int)) (hf : f (gl l v) = gl l v) : lmx f l (v + 1) = lmx f l v := by
  rw [lmx_s h0 h1 hf]
  have hl : (lmx f l v).length = l.length := lmx_l
  unfold ssl
  rw [if_pos h0]
  have e := gl_at (T := lmx f l v) h0 (by omega)
  rw [lmx_g h0 h1] at e
  have hi : v.toNat < (lmx f l v).length := by omega
  rw [List.getElem?_eq_getElem hi] at e
  rw [← Option.some.inj e]
  exact List.set_getElem_self hi
theorem fn_1 {EN : lFr} {p a x : Int} (h : x ≠ -1 ∧ a ≤ plc EN x ∧ nxt EN x ≠ -1 ∧ p < plc EN (nxt EN x)) : fnv EN p a x = nxt EN x := if_pos h
theorem fn_0 {EN : lFr} {p a x : Int} (h : ¬ (x ≠ -1 ∧ a ≤ plc EN x ∧ nxt EN x ≠ -1 ∧ p < plc EN (nxt EN x))) : fnv EN p a x = x := if_neg h
/-- frames, the top one -/
theorem FRM.top {f : Int × Int} (h : FRM (f :: fr) L) : gl L (3 * ((f :: fr).length : Int) - 3 + 1) = f.1 ∧ gl L (3 * ((f :: fr).length : Int) - 3 + 2) = f.2 ∧ FRM fr (L.take (3 * fr.length)) ∧ ∀ b : Int, FRM ((f.1, b) :: fr) (ssl L (3 * ((f :: fr).length : Int) - 3 + 2) b) := by
  obtain ⟨L', nd, e, h2⟩ := h
  have hl := h2.len
  have e3 : L = L' ++ [nd, f.1, f.2] := by
    rw [e, List.append_assoc, List.append_assoc]
    first | done | rfl
  have hn : ((f :: fr).length : Int) = (fr.length : Int) + 1 := by
    show ((fr.length + 1 : Nat) : Int) = _
    omega
  rw [hn, e3]
  refine ⟨?_, ?_, ?_, fun b => ?_⟩
  · rw [gl_ap2 (by omega), show 3 * ((fr.length : Int) + 1) - 3 + 1 - (L'.length : Int) = 1 by omega]
    rfl
  · rw [gl_ap2 (by omega), show 3 * ((fr.length : Int) + 1) - 3 + 2 - (L'.length : Int) = 2 by omega]
    rfl
  · rw [← hl, List.take_left' rfl]
    exact h2
  · refine ⟨L', nd, ?_, h2⟩
    unfold ssl
    rw [if_pos (by omega), List.set_append_right _ _ (by omega), show (3 * ((fr.length : Int) + 1) - 3 + 2).toNat - L'.length = 2 by omega, List.append_assoc, List.append_assoc]
    first | done | rfl
theorem fn3_st {f : Int × Int} {b : Int} {LE : List Int} : (f.2 = 0 → fn3 b EN (f :: fr) LE m = ((f.1, b) :: fr, EN, LE, m)) ∧ (f.2 = -1 → fn3 b EN (f :: fr) LE m = fn3 b EN fr LE.dropLast (m + if LE.getLastD 0 = -1 then 1 else 0)) ∧ (f.2 ≠ 0 → f.2 ≠ -1 → fn3 b EN (f :: fr) LE m = fn3 b EN fr (LE.map (fnv EN f.1 f.2)) (m + bkn EN f.2 LE + fnn EN f.1 f.2 LE)) := by
  obtain ⟨p, x⟩ := f
  exact ⟨fn3_0, fn3_1, fn3_2⟩
theorem NWv.z {K : List Int} (h : ∀ j : Int, 0 ≤ j → j < 400 → gl K j = -1) : NWv 0 0 K 0 := Or.inl ⟨Nat.zero_le _, rfl, rfl, fun j j0 j1 => h j (by omega) j1⟩
theorem gl_rep {v : Int} {n : Nat} (h0 : 0 ≤ v) (h1 : v < (n : Int)) : gl (List.replicate n x) v = x := by
  unfold gl
  rw [if_pos h0, List.getD_eq_getElem?_getD, List.getElem?_replicate_of_lt (by omega)]
  first | done | rfl
theorem LYv.ff1 (h : LYv f3 nc f5 f7 K a75 a77 a79 S) (hn : NWv g5 g7 K' (S.2.2.2 + 1)) (hx : S.2.2.1.getLastD 0 = -1) : LYv f3 nc g5 g7 K' a75 a77 a79.dropLast (S.1, S.2.1, S.2.2.1.dropLast, S.2.2.2 + if S.2.2.1.getLastD 0 = -1 then 1 else 0) := by
  rw [if_pos hx]
  exact ⟨h.1, hn, h.2.2.1, h.2.2.2.1, congrArg List.dropLast h.2.2.2.2⟩
theorem LYv.ff0 (h : LYv f3 nc f5 f7 K a75 a77 a79 S) (hx : ¬ S.2.2.1.getLastD 0 = -1) : LYv f3 nc f5 f7 K a75 a77 a79.dropLast (S.1, S.2.1, S.2.2.1.dropLast, S.2.2.2 + if S.2.2.1.getLastD 0 = -1 then 1 else 0) := by
  rw [if_neg hx]
  exact ⟨h.1, h.2.1, h.2.2.1, h.2.2.2.1, congrArg List.dropLast h.2.2.2.2⟩
theorem LYv.bk {e : Int} (h : LYv f3 nc f5 f7 K a75 a77 a79 S) (hn : NWv g5 g7 K' (S.2.2.2 + 1)) : LYv f3 nc g5 g7 K' a75 (ssl a77 (3 * e) w) a79 (S.1, S.2.1, S.2.2.1, S.2.2.2 + 1) := ⟨h.1, hn, h.2.2.1, h.2.2.2.1.set e, h.2.2.2.2⟩
theorem LYv.fa {e v : Int} {LE : List Int} (h : LYv f3 nc f5 f7 K a75 a77 a79 S) (hn : NWv g5 g7 K' (S.2.2.2 + 1)) (hl : ssl S.2.2.1 v y = LE) : LYv f3 nc g5 g7 K' a75 (ssl a77 (3 * e) w) (ssl a79 v y) (S.1, S.2.1, LE, S.2.2.2 + 1) := ⟨h.1, hn, h.2.2.1, h.2.2.2.1.set e, by rw [h.2.2.2.2]; exact hl⟩
theorem LYv.cut {f : Int × Int} {EN : lFr} {LE : List Int} {v : Int} (h : LYv f3 nc f5 f7 K a75 a77 a79 (f :: fr, EN, LE, m)) (hv : v = 3 * (fr.length : Int)) : LYv f3 nc f5 f7 K (cutl a75 v) a77 a79 (fr, EN, LE, m) := by
  refine ⟨h.1, h.2.1, ?_, h.2.2.2.1, h.2.2.2.2⟩
  have h9 := (FRM.top h.2.2.1).2.2.1
  unfold cutl
  rw [if_pos (by omega), show v.toNat = 3 * fr.length by omega]
  exact h9
theorem LYv.arg {f : Int × Int} {EN : lFr} {LE : List Int} {b : Int} (h : LYv f3 nc f5 f7 K a75 a77 a79 (f :: fr, EN, LE, m)) : LYv f3 nc f5 f7 K (ssl a75 (3 * ((f :: fr).length : Int) - 3 + 2) b) a77 a79 ((f.1, b) :: fr, EN, LE, m) := ⟨h.1, h.2.1, (FRM.top h.2.2.1).2.2.2 b, h.2.2.2.1, h.2.2.2.2⟩
theorem iv_z2 {x : Int32} (h : x = 0 ∨ x = 1) : x.toInt = 0 ∨ x.toInt = 1 := by
  rcases h with h | h
  · rw [h]
    exact Or.inl (by decide)
  · rw [h]
    exact Or.inr (by decide)
end LY1
section
theorem n_X1_make_56 {h0 : am_h} {F0 : rf_f} {A0 : xl_A} {w1 : Int32} {n1 : Int} (hn1 : w1.toInt = n1) {w2 : Int32} {n2 : Int} (hn2 : w2.toInt = n2)  (m : Nat) (hn : NWv (F0 5605) (F0 5607) (A0 57) (m)) (hR : xR h0 F0 A0) : am_Mt 2 18 [.inr (.inr (some 56)), .inl w1, .inl w2] h0 (xQ h0 (fun x F' A' => NWv (F' 5605) (F' 5607) (A' 57) (m + 1) ∧ MKv 57 59 5604 5607 F0 F' A0 A')) := by
  refine am_Mt.of (D := 1) ?_
  have hI : xI h0 (ob_P h0) h0 0 0 F0 A0 := xI.start hR
  have hL : am_okL h0.length (am_args 0 [.inr (.inr (some 56)), .inl w1, .inl w2]) = true := (okA_r hI.T oc56 (okA_i (okA_i okA_n)))
  have hb9 := hn.b
  refine k_aload 1 rfl rfl rfl ?_
  refine x_gI hI 4 rfl oc56 rfl rfl rfl rfl (fun x1 (e2 : x1.toInt = F0 5605) => ?_)
  refine k_istore 5 rfl rfl ?_
  refine k_iload 6 rfl gs_eq rfl ?_
  refine k_push 9 rfl rfl ?_
  have hc3 : (400 : Int32).toInt = 400 := by decide
  by_cases b4 : (400 : Int32) ≤ x1
  · refine k_c2 81 rfl rfl (if_pos b4) ?_
    have b4 : 400 ≤ F0 5605 := by have h9 := iv_le.mp b4; rw [e2] at h9; rw [hc3] at h9; exact h9
    refine k_aload 82 rfl (gs_ne rfl rfl rfl) rfl ?_
    refine k_push 83 rfl rfl ?_
    have hc5 : (1 : Int32).toInt = 1 := by decide
    refine x_pZ (fx_ok := fx_no rfl) hI 86 rfl oc56 rfl rfl rfl (Or.inr rfl) rfl (fun h6 I7 l8 => ?_)
    have L9 := okL_eq l8 (okL_set (i := 3) (v := .inl x1) rfl hL)
    have I10 : xI h0 (ob_P h0) h6 0 0 (up1 F0 5607 (1)) A0 := by have h9 := I7; rw [hc5] at h9; exact h9
    refine k_push 87 rfl rfl ?_
    have hc11 : (-1 : Int32).toInt = -1 := by decide
    exact k_fin rfl rfl ⟨_, _, _, _, _, _, rfl, I10, (by (try rw [hc11]); show NWv (((up1 F0 5607 (1))) 5605) (((up1 F0 5607 (1))) 5607) (A0 57) (m + 1) ∧ MKv 57 59 5604 5607 F0 ((up1 F0 5607 (1))) A0 A0; exact ⟨hn.full b4, fun n h => up1_ne (by omega), fun k k1 k2 => rfl⟩)⟩
  · refine k_c2 12 rfl rfl (if_neg b4) ?_
    have b4 : ¬ (400 ≤ F0 5605) := by have h9 := mt iv_le.mpr b4; rw [e2] at h9; rw [hc3] at h9; exact h9
    refine k_aload 13 rfl (gs_ne rfl rfl rfl) rfl ?_
    refine x_gF 57 hI 16 rfl rfl (by decide) rfl ?_
    refine k_iload 17 rfl gs_eq rfl ?_
    refine k_xq hI rfl (y_get e2 hI.1 or57) rfl rfl rfl (ty_H.rc3 hI.T or57) (okL_set (i := 3) (v := .inl x1) rfl hL) so_n ?_
    rintro x12 h13 c14 s15 F16 A17 I18 L19 ⟨e20, k21, k22⟩
    replace k21 := k21.symm
    subst k21
    replace k22 := k22.symm
    subst k22
    show am_Ok _ _ _ (20, _, [.inl x12], _, c14, s15) _
    refine k_push 21 rfl rfl ?_
    have hc23 : (-1 : Int32).toInt = -1 := by decide
    by_cases b24 : x12 = (-1 : Int32)
    · refine k_c2 24 rfl rfl (if_pos b24) ?_
      have b24 : gl (A0 57) (F0 5605) = (-1) := by have h9 := iv_eq.mp b24; rw [e20] at h9; rw [hc23] at h9; exact h9
      refine k_aload 25 rfl (gs_ne rfl rfl rfl) rfl ?_
      refine x_gF 57 I18 28 rfl rfl (by decide) rfl ?_
      refine k_iload 29 rfl gs_eq rfl ?_
      refine k_iload 30 rfl (gs_ne rfl rfl rfl) rfl ?_
      refine k_xv I18 rfl (y_set e2 hn1 I18.1 or57) rfl rfl rfl (ty_H.rc3 I18.T or57) L19 so_n ?_
      rintro h26 c27 s28 F29 A30 I31 L32 ⟨k34, k35⟩
      replace k34 := k34.symm
      subst k34
      replace k35 := k35.symm
      subst k35
      show am_Ok _ _ _ (33, _, [], _, c27, s28) _
      refine k_aload 34 rfl (gs_ne rfl rfl rfl) rfl ?_
      refine x_gF 59 I31 37 rfl rfl (by decide) rfl ?_
      refine k_iload 38 rfl gs_eq rfl ?_
      refine k_iload 39 rfl (gs_ne rfl rfl rfl) rfl ?_
      refine k_xv I31 rfl (y_set e2 hn2 I31.1 or59) rfl rfl rfl (ty_H.rc3 I31.T or59) L32 so_n ?_
      rintro h37 c38 s39 F40 A41 I42 L43 ⟨k45, k46⟩
      replace k45 := k45.symm
      subst k45
      replace k46 := k46.symm
      subst k46
      show am_Ok _ _ _ (42, _, [], _, c38, s39) _
      refine k_aload 43 rfl (gs_ne rfl rfl rfl) rfl ?_
      refine k_dup 44 rfl rfl rfl ?_
      refine x_gI I42 47 rfl oc56 rfl rfl rfl rfl (fun x47 (e48 : x47.toInt = F0 5604) => ?_)
      refine k_push 48 rfl rfl ?_
      have hc49 : (1 : Int32).toInt = 1 := by decide
      obtain ⟨x50, q51⟩ : ∃ q : Int32, q = x47 + (1 : Int32) := ⟨_, rfl⟩
      have e52 : x50.toInt = bm (F0 5604 + 1) := bm_add q51 e48 hc49
      refine k_bin x50 49 rfl q51.symm rfl ?_
      refine x_pI (fx_ok := fx_no rfl) I42 52 rfl oc56 rfl rfl rfl rfl (fun h53 I54 l55 => ?_)
      have L56 := okL_eq l55 L43
      have I57 : xI h0 (ob_P h0) h53 c38 s39 (up1 F0 5604 (bm (F0 5604 + 1))) (upl ((upl A0 57 (ssl (A0 57) (F0 5605) (n1)))) 59 (ssl (A0 59) (F0 5605) (n2))) := by have h9 := I54; rw [e52] at h9; exact h9
      refine k_aload 53 rfl (gs_ne rfl rfl rfl) rfl ?_
      refine k_iload 54 rfl gs_eq rfl ?_
      refine k_push 55 rfl rfl ?_
      obtain ⟨x58, q59⟩ : ∃ q : Int32, q = x1 + (1 : Int32) := ⟨_, rfl⟩
      have e60 : x58.toInt = (F0 5605 + 1) := bx_add q59 e2 hc49 (by omega) (by omega)
      refine k_bin x58 56 rfl q59.symm rfl ?_
      refine x_pI (fx_ok := fx_no rfl) I57 59 rfl oc56 rfl rfl rfl rfl (fun h61 I62 l63 => ?_)
      have L64 := okL_eq l63 L56
      have I65 : xI h0 (ob_P h0) h61 c38 s39 (up1 (up1 F0 5604 (bm (F0 5604 + 1))) 5605 ((F0 5605 + 1))) (upl ((upl A0 57 (ssl (A0 57) (F0 5605) (n1)))) 59 (ssl (A0 59) (F0 5605) (n2))) := by have h9 := I62; rw [e60] at h9; exact h9
      refine k_aload 60 rfl (gs_ne rfl rfl rfl) rfl ?_
      refine k_aload 61 rfl (gs_ne rfl rfl rfl) rfl ?_
      refine x_gI I65 64 rfl oc56 rfl rfl rfl rfl (fun x66 (e67 : x66.toInt = F0 5606) => ?_)
      refine k_iload 65 rfl gs_eq rfl ?_
      refine k_push 66 rfl rfl ?_
      obtain ⟨x68, q69⟩ : ∃ q : Int32, q = x1 + (1 : Int32) := ⟨_, rfl⟩
      have e70 : x68.toInt = bm (F0 5605 + 1) := bm_add q69 e2 hc49
      refine k_bin x68 67 rfl q69.symm rfl ?_
      obtain ⟨x71, q72⟩ : ∃ q : Int32, q = (if x66 < x68 then x68 else x66) := ⟨_, rfl⟩
      obtain ⟨n73, e74⟩ : ∃ n : Int, x71.toInt = n := ⟨_, rfl⟩
      refine k_mathZ x71 70 rfl rfl q72.symm rfl ?_
      refine x_pI (fx_ok := fx_no rfl) I65 73 rfl oc56 rfl rfl rfl rfl (fun h75 I76 l77 => ?_)
      have L78 := okL_eq l77 L64
      have I79 : xI h0 (ob_P h0) h75 c38 s39 (up1 ((up1 (up1 F0 5604 (bm (F0 5604 + 1))) 5605 ((F0 5605 + 1)))) 5606 (n73)) (upl ((upl A0 57 (ssl (A0 57) (F0 5605) (n1)))) 59 (ssl (A0 59) (F0 5605) (n2))) := by have h9 := I76; rw [e74] at h9; exact h9
      refine k_iload 74 rfl gs_eq rfl ?_
      exact k_fin rfl rfl ⟨_, _, _, _, _, _, rfl, I79, (by (try rw [e2]); show NWv (((up1 ((up1 (up1 F0 5604 (bm (F0 5604 + 1))) 5605 ((F0 5605 + 1)))) 5606 (n73))) 5605) (((up1 ((up1 (up1 F0 5604 (bm (F0 5604 + 1))) 5605 ((F0 5605 + 1)))) 5606 (n73))) 5607) (((upl ((upl A0 57 (ssl (A0 57) (F0 5605) (n1)))) 59 (ssl (A0 59) (F0 5605) (n2)))) 57) (m + 1) ∧ MKv 57 59 5604 5607 F0 ((up1 ((up1 (up1 F0 5604 (bm (F0 5604 + 1))) 5605 ((F0 5605 + 1)))) 5606 (n73))) A0 ((upl ((upl A0 57 (ssl (A0 57) (F0 5605) (n1)))) 59 (ssl (A0 59) (F0 5605) (n2)))); exact ⟨hn.mk b4, fun n h => (up1_ne (by omega)).trans ((up1_ne (by omega)).trans (up1_ne (by omega))), fun k k1 k2 => (upl_ne k2).trans (upl_ne k1)⟩)⟩
    · refine k_c2 75 rfl rfl (if_neg b24) ?_
      have b24 : ¬ (gl (A0 57) (F0 5605) = (-1)) := by have h9 := mt iv_eq.mpr b24; rw [e20] at h9; rw [hc23] at h9; exact h9
      exact absurd (hn.free b4) b24
def p_X1_link_56 (n1 : Int) (n2 : Int) (F0 : rf_f) (A0 : xl_A) : Int × rf_f × xl_A := (0, F0, (upl ((upl A0 61 (ssl (A0 61) (n1) (n2)))) 61 (ssl ((ssl (A0 61) (n1) (n2))) (n2) (n1))))
theorem n_X1_link_56 {h0 : am_h} {F0 : rf_f} {A0 : xl_A} {w1 : Int32} {n1 : Int} (hn1 : w1.toInt = n1) {w2 : Int32} {n2 : Int} (hn2 : w2.toInt = n2)   (hR : xR h0 F0 A0) : am_Mt 2 19 [.inr (.inr (some 56)), .inl w1, .inl w2] h0 (xV h0 (fun F' A' => F' = (p_X1_link_56 n1 n2 F0 A0).2.1 ∧ A' = (p_X1_link_56 n1 n2 F0 A0).2.2)) := by
  refine am_Mt.of (D := 1) ?_
  have hI : xI h0 (ob_P h0) h0 0 0 F0 A0 := xI.start hR
  have hL : am_okL h0.length (am_args 0 [.inr (.inr (some 56)), .inl w1, .inl w2]) = true := (okA_r hI.T oc56 (okA_i (okA_i okA_n)))
  refine k_aload 1 rfl rfl rfl ?_
  refine x_gF 61 hI 4 rfl rfl (by decide) rfl ?_
  refine k_iload 5 rfl rfl rfl ?_
  refine k_iload 6 rfl rfl rfl ?_
  refine k_xv hI rfl (y_set hn1 hn2 hI.1 or61) rfl rfl rfl (ty_H.rc3 hI.T or61) hL so_n ?_
  rintro h2 c3 s4 F5 A6 I7 L8 ⟨k10, k11⟩
  replace k10 := k10.symm
  subst k10
  replace k11 := k11.symm
  subst k11
  show am_Ok _ _ _ (9, _, [], _, c3, s4) _
  refine k_aload 10 rfl rfl rfl ?_
  refine x_gF 61 I7 13 rfl rfl (by decide) rfl ?_
  refine k_iload 14 rfl rfl rfl ?_
  refine k_iload 15 rfl rfl rfl ?_
  refine k_xv I7 rfl (y_set hn2 hn1 I7.1 or61) rfl rfl rfl (ty_H.rc3 I7.T or61) L8 so_n ?_
  rintro h13 c14 s15 F16 A17 I18 L19 ⟨k21, k22⟩
  replace k21 := k21.symm
  subst k21
  replace k22 := k22.symm
  subst k22
  show am_Ok _ _ _ (18, _, [], _, c14, s15) _
  exact k_fin rfl rfl ⟨_, _, _, _, _, rfl, I18, rfl, rfl⟩
theorem lk_56 {a b : Int} {F : rf_f} {A : xl_A} {k : Nat} (h : k ≠ 61) : (p_X1_link_56 a b F A).2.2 k = A k := by
  show upl (upl A 61 (ssl (A 61) a b)) 61 (ssl (ssl (A 61) a b) b a) k = A k
  rw [upl_ne h, upl_ne h]
def p_X1_clear_56  (F0 : rf_f) (A0 : xl_A) : Int × rf_f × xl_A := (0, (up1 ((up1 ((up1 (up1 F0 5604 (0)) 5605 (0))) 5606 (0))) 5607 (0)), (upl A0 57 (List.replicate (402 : Int).toNat ((-1)))))
theorem n_X1_clear_56 {h0 : am_h} {F0 : rf_f} {A0 : xl_A}    (hR : xR h0 F0 A0) : am_Mt 2 9 [.inr (.inr (some 56))] h0 (xV h0 (fun F' A' => F' = (p_X1_clear_56 F0 A0).2.1 ∧ A' = (p_X1_clear_56 F0 A0).2.2)) := by
  refine am_Mt.of (D := 1) ?_
  have hI : xI h0 (ob_P h0) h0 0 0 F0 A0 := xI.start hR
  have hL : am_okL h0.length (am_args 0 [.inr (.inr (some 56))]) = true := (okA_r hI.T oc56 okA_n)
  refine k_aload 1 rfl rfl rfl ?_
  refine x_gF 57 hI 4 rfl rfl (by decide) rfl ?_
  refine k_push 7 rfl rfl ?_
  have hc1 : (402 : Int32).toInt = 402 := by decide
  refine k_push 8 rfl rfl ?_
  have hc2 : (-1 : Int32).toInt = -1 := by decide
  refine k_xv hI rfl (y_fill hc1 hc2 hI.1 or57 (by decide) (by decide)) rfl rfl rfl (ty_H.rc3 hI.T or57) hL so_n ?_
  rintro h4 c5 s6 F7 A8 I9 L10 ⟨k12, k13⟩
  replace k12 := k12.symm
  subst k12
  replace k13 := k13.symm
  subst k13
  show am_Ok _ _ _ (11, _, [], _, c5, s6) _
  refine k_aload 12 rfl rfl rfl ?_
  refine k_push 13 rfl rfl ?_
  have hc14 : (0 : Int32).toInt = 0 := by decide
  refine x_pI (fx_ok := fx_no rfl) I9 16 rfl oc56 rfl rfl rfl rfl (fun h15 I16 l17 => ?_)
  have L18 := okL_eq l17 L10
  have I19 : xI h0 (ob_P h0) h15 c5 s6 (up1 F0 5604 (0)) (upl A0 57 (List.replicate (402 : Int).toNat ((-1)))) := by have h9 := I16; rw [hc14] at h9; exact h9
  refine k_aload 17 rfl rfl rfl ?_
  refine k_push 18 rfl rfl ?_
  refine x_pI (fx_ok := fx_no rfl) I19 21 rfl oc56 rfl rfl rfl rfl (fun h20 I21 l22 => ?_)
  have L23 := okL_eq l22 L18
  have I24 : xI h0 (ob_P h0) h20 c5 s6 (up1 (up1 F0 5604 (0)) 5605 (0)) (upl A0 57 (List.replicate (402 : Int).toNat ((-1)))) := by have h9 := I21; rw [hc14] at h9; exact h9
  refine k_aload 22 rfl rfl rfl ?_
  refine k_push 23 rfl rfl ?_
  refine x_pI (fx_ok := fx_no rfl) I24 26 rfl oc56 rfl rfl rfl rfl (fun h25 I26 l27 => ?_)
  have L28 := okL_eq l27 L23
  have I29 : xI h0 (ob_P h0) h25 c5 s6 (up1 ((up1 (up1 F0 5604 (0)) 5605 (0))) 5606 (0)) (upl A0 57 (List.replicate (402 : Int).toNat ((-1)))) := by have h9 := I26; rw [hc14] at h9; exact h9
  refine k_aload 27 rfl rfl rfl ?_
  refine k_push 28 rfl rfl ?_
  refine x_pZ (fx_ok := fx_no rfl) I29 31 rfl oc56 rfl rfl rfl (Or.inl rfl) rfl (fun h30 I31 l32 => ?_)
  have L33 := okL_eq l32 L28
  have I34 : xI h0 (ob_P h0) h30 c5 s6 (up1 ((up1 ((up1 (up1 F0 5604 (0)) 5605 (0))) 5606 (0))) 5607 (0)) (upl A0 57 (List.replicate (402 : Int).toNat ((-1)))) := by have h9 := I31; rw [hc14] at h9; exact h9
  exact k_fin rfl rfl ⟨_, _, _, _, _, rfl, I34, rfl, rfl⟩
theorem n_X1_isOverfull_56 {h0 : am_h} {F0 : rf_f} {A0 : xl_A}    (hR : xR h0 F0 A0) : am_Mt 1 12 [.inr (.inr (some 56))] h0 (xQ h0 (fun x F' A' => ((x : Int) = 0 ∨ (x : Int) = 1) ∧ (x : Int) = F0 5607 ∧ F' = F0 ∧ A' = A0)) := by
  refine am_Mt.of (D := 0) ?_
  have hI : xI h0 (ob_P h0) h0 0 0 F0 A0 := xI.start hR
  have hL : am_okL h0.length (am_args 0 [.inr (.inr (some 56))]) = true := (okA_r hI.T oc56 okA_n)
  refine k_aload 1 rfl rfl rfl ?_
  refine x_gZ hI 4 rfl oc56 rfl rfl rfl rfl (fun x1 (e2 : x1.toInt = F0 5607) z3 => ?_)
  exact k_fin rfl (fin_Z z3) ⟨_, _, _, _, _, _, rfl, hI, (by (try rw [e2]); show ((F0 5607 : Int) = 0 ∨ (F0 5607 : Int) = 1) ∧ (F0 5607 : Int) = F0 5607 ∧ F0 = F0 ∧ A0 = A0; exact ⟨by rw [← e2]; exact iv_z2 z3, rfl, rfl, rfl⟩)⟩
theorem n_X0_beginFrame_56 {h0 : am_h} {F0 : rf_f} {A0 : xl_A} {w1 : Int32} {n1 : Int} (hn1 : w1.toInt = n1) {w2 : Int32} {n2 : Int} (hn2 : w2.toInt = n2) {w3 : Int32} {n3 : Int} (hn3 : w3.toInt = n3)  (S : lST) (hS : LYv (F0 7403) 56 (F0 5605) (F0 5607) (A0 57) (A0 75) (A0 77) (A0 79) (S)) (hf : S.1.length ≤ 119) (hR : xR h0 F0 A0) : am_Mt 3 2 [.inr (.inr (some 74)), .inl w1, .inl w2, .inl w3] h0 (xV h0 (fun F' A' => LYv (F' 7403) 56 (F' 5605) (F' 5607) (A' 57) (A' 75) (A' 77) (A' 79) ((n2, n3) :: S.1, S.2.1, S.2.2.1, S.2.2.2 + 1) ∧ fL9 F0 F' ∧ aL9 A0 A')) := by
  refine am_Mt.of (D := 2) ?_
  have hI : xI h0 (ob_P h0) h0 0 0 F0 A0 := xI.start hR
  have hL : am_okL h0.length (am_args 0 [.inr (.inr (some 74)), .inl w1, .inl w2, .inl w3]) = true := (okA_r hI.T oc74 (okA_i (okA_i (okA_i okA_n))))
  have f3 : F0 7403 = 56 := hS.1
  refine k_aload 1 rfl rfl rfl ?_
  refine x_gF 75 hI 4 rfl rfl (by decide) rfl ?_
  refine k_aload 5 rfl rfl rfl ?_
  refine x_gO (τ := 1) hI 8 rfl oc74 rfl rfl rfl rfl (fun r1 (e2 : (r1 : Int) = F0 7403) o3 => ?_)
  obtain rfl : r1 = 56 := by omega
  refine k_iload 9 rfl rfl rfl ?_
  refine k_aload 10 rfl rfl rfl ?_
  refine x_gI hI 13 rfl oc74 rfl rfl rfl rfl (fun x4 (e5 : x4.toInt = F0 7404) => ?_)
  refine k_xq hI rfl (n_X1_make_56 hn1 e5  (S.2.2.2) (by exact hS.2.1) hI.1) rfl rfl rfl (hI.T.rc oc56 rfl) hL (xo_r hI ol75 so_n) ?_
  rintro x6 h7 c8 s9 F10 A11 I12 L13 e14
  obtain ⟨n15, q16⟩ : ∃ n : Int, x6.toInt = n := ⟨_, rfl⟩
  try rw [q16] at e14
  show am_Ok _ _ _ (16, _, [.inl x6, .inr (.inr (some 75))], _, c8, s9) _
  obtain ⟨ww1, ww2, ww3⟩ := e14
  have gg3 := ww2 7403 (Or.inr (by omega))
  refine k_xq I12 rfl (y_add q16 I12.1 or75) rfl rfl rfl (ty_H.rc3 I12.T or75) L13 so_n ?_
  rintro x17 h18 c19 s20 F21 A22 I23 L24 ⟨e25, k26, k27⟩
  replace k26 := k26.symm
  subst k26
  replace k27 := k27.symm
  subst k27
  have z28 := iv_01 (x := x17) (by rw [e25]; exact (addr_01))
  show am_Ok _ _ _ (19, _, [.inl x17], _, c19, s20) _
  refine k_pop 20 rfl rfl rfl ?_
  refine k_aload 21 rfl rfl rfl ?_
  refine x_gF 75 I23 24 rfl rfl (by decide) rfl ?_
  refine k_iload 25 rfl rfl rfl ?_
  refine k_xq I23 rfl (y_add hn2 I23.1 or75) rfl rfl rfl (ty_H.rc3 I23.T or75) L24 so_n ?_
  rintro x29 h30 c31 s32 F33 A34 I35 L36 ⟨e37, k38, k39⟩
  replace k38 := k38.symm
  subst k38
  replace k39 := k39.symm
  subst k39
  have z40 := iv_01 (x := x29) (by rw [e37]; exact (addr_01))
  show am_Ok _ _ _ (28, _, [.inl x29], _, c31, s32) _
  refine k_pop 29 rfl rfl rfl ?_
  refine k_aload 30 rfl rfl rfl ?_
  refine x_gF 75 I35 33 rfl rfl (by decide) rfl ?_
  refine k_iload 34 rfl rfl rfl ?_
  refine k_xq I35 rfl (y_add hn3 I35.1 or75) rfl rfl rfl (ty_H.rc3 I35.T or75) L36 so_n ?_
  rintro x41 h42 c43 s44 F45 A46 I47 L48 ⟨e49, k50, k51⟩
  replace k50 := k50.symm
  subst k50
  replace k51 := k51.symm
  subst k51
  have z52 := iv_01 (x := x41) (by rw [e49]; exact (addr_01))
  show am_Ok _ _ _ (37, _, [.inl x41], _, c43, s44) _
  refine k_pop 38 rfl rfl rfl ?_
  exact k_fin rfl rfl ⟨_, _, _, _, _, rfl, I47, (by show LYv (F10 7403) 56 (F10 5605) (F10 5607) (((addl 75 ((addl 75 (addl 75 A11 (n15)) (n2))) (n3))) 57) (((addl 75 ((addl 75 (addl 75 A11 (n15)) (n2))) (n3))) 75) (((addl 75 ((addl 75 (addl 75 A11 (n15)) (n2))) (n3))) 77) (((addl 75 ((addl 75 (addl 75 A11 (n15)) (n2))) (n3))) 79) ((n2, n3) :: S.1, S.2.1, S.2.2.1, S.2.2.2 + 1) ∧ fL9 F0 F10 ∧ aL9 A0 ((addl 75 ((addl 75 (addl 75 A11 (n15)) (n2))) (n3))); have ll75 := hS.2.2.1.len; obtain ⟨c1, c2⟩ := add3 (A := A11) (i := 75) (by rw [mo75, ww3 75 (by decide) (by decide)]; omega); refine ⟨?_, fun n hn => ww2 n (Or.inl (by omega)), fun k hk => (c2 _ _ _ k (by omega)).trans (ww3 k (by omega) (by omega))⟩; rw [c1, c2 _ _ _ 57 (by decide), c2 _ _ _ 77 (by decide), c2 _ _ _ 79 (by decide), gg3, ww3 75 (by decide) (by decide), ww3 77 (by decide) (by decide), ww3 79 (by decide) (by decide)]; exact hS.bf ww1)⟩
theorem n_X0_layVariable_56 {h0 : am_h} {F0 : rf_f} {A0 : xl_A} {w1 : Int32} {n1 : Int} (hn1 : w1.toInt = n1) {w2 : Int32} {n2 : Int} (hn2 : w2.toInt = n2)  (S : lST) (hS : LYv (F0 7403) 56 (F0 5605) (F0 5607) (A0 57) (A0 75) (A0 77) (A0 79) (S)) (he : S.2.1.length ≤ 119) (hR : xR h0 F0 A0) : am_Mt 3 3 [.inr (.inr (some 74)), .inl w1, .inl w2] h0 (xQ h0 (fun x F' A' => LYv (F' 7403) 56 (F' 5605) (F' 5607) (A' 57) (A' 75) (A' 77) (A' 79) (S.1, S.2.1 ++ [(n2, gl S.2.2.1 n1)], ssl S.2.2.1 n1 (S.2.1.length : Int), S.2.2.2 + 1) ∧ fL9 F0 F' ∧ aL9 A0 A')) := by
  refine am_Mt.of (D := 2) ?_
  have hI : xI h0 (ob_P h0) h0 0 0 F0 A0 := xI.start hR
  have hL : am_okL h0.length (am_args 0 [.inr (.inr (some 74)), .inl w1, .inl w2]) = true := (okA_r hI.T oc74 (okA_i (okA_i okA_n)))
  have f3 : F0 7403 = 56 := hS.1
  refine k_aload 1 rfl rfl rfl ?_
  refine x_gO (τ := 1) hI 4 rfl oc74 rfl rfl rfl rfl (fun r1 (e2 : (r1 : Int) = F0 7403) o3 => ?_)
  obtain rfl : r1 = 56 := by omega
  refine k_push 5 rfl rfl ?_
  have hc4 : (5 : Int32).toInt = 5 := by decide
  refine k_aload 6 rfl rfl rfl ?_
  refine x_gI hI 9 rfl oc74 rfl rfl rfl rfl (fun x5 (e6 : x5.toInt = F0 7404) => ?_)
  refine k_xq hI rfl (n_X1_make_56 hc4 e6  (S.2.2.2) (by exact hS.2.1) hI.1) rfl rfl rfl (hI.T.rc oc56 rfl) hL so_n ?_
  rintro x7 h8 c9 s10 F11 A12 I13 L14 e15
  obtain ⟨n16, q17⟩ : ∃ n : Int, x7.toInt = n := ⟨_, rfl⟩
  try rw [q17] at e15
  show am_Ok _ _ _ (12, _, [.inl x7], _, c9, s10) _
  obtain ⟨ww1, ww2, ww3⟩ := e15
  have gg3 := ww2 7403 (Or.inr (by omega))
  refine k_istore 13 rfl rfl ?_
  refine k_aload 14 rfl (gs_ne rfl rfl rfl) rfl ?_
  refine x_gF 77 I13 17 rfl rfl (by decide) rfl ?_
  refine k_xq I13 rfl (xv_size I13.1 or77) rfl rfl rfl (ty_H.rc3 I13.T or77) (okL_set (i := 3) (v := .inl x7) rfl L14) so_n ?_
  rintro x18 h19 c20 s21 F22 A23 I24 L25 ⟨e26, k27, k28⟩
  replace k27 := k27.symm
  subst k27
  replace k28 := k28.symm
  subst k28
  show am_Ok _ _ _ (20, _, [.inl x18], _, c20, s21) _
  refine k_push 21 rfl rfl ?_
  have hc29 : (3 : Int32).toInt = 3 := by decide
  obtain ⟨x30, q31⟩ : ∃ q : Int32, q = x18 / (3 : Int32) := ⟨_, rfl⟩
  have e32 : x30.toInt = ((((A12 77).length : Nat) : Int) / 3) := bx_dv q31 e26 hc29 (by decide) (by omega)
  refine k_divZ x30 22 rfl (by decide) q31.symm rfl ?_
  refine k_istore 24 rfl rfl ?_
  refine k_aload 25 rfl (gs_ne rfl rfl (gs_ne rfl rfl rfl)) rfl ?_
  refine x_gF 77 I24 28 rfl rfl (by decide) rfl ?_
  refine k_push 29 rfl rfl ?_
  have hc33 : (4 : Int32).toInt = 4 := by decide
  refine k_iload 30 rfl (gs_ne rfl rfl gs_eq) rfl ?_
  obtain ⟨x34, q35⟩ : ∃ q : Int32, q = (4 : Int32) * x7 := ⟨_, rfl⟩
  have e36 : x34.toInt = bm (4 * n16) := bm_mul q35 hc33 q17
  refine k_bin x34 31 rfl q35.symm rfl ?_
  refine k_xq I24 rfl (y_add e36 I24.1 or77) rfl rfl rfl (ty_H.rc3 I24.T or77) (okL_set (i := 4) (v := .inl x30) rfl L25) so_n ?_
  rintro x37 h38 c39 s40 F41 A42 I43 L44 ⟨e45, k46, k47⟩
  replace k46 := k46.symm
  subst k46
  replace k47 := k47.symm
  subst k47
  have z48 := iv_01 (x := x37) (by rw [e45]; exact (addr_01))
  show am_Ok _ _ _ (34, _, [.inl x37], _, c39, s40) _
  refine k_pop 35 rfl rfl rfl ?_
  refine k_aload 36 rfl (gs_ne rfl rfl (gs_ne rfl rfl rfl)) rfl ?_
  refine x_gF 77 I43 39 rfl rfl (by decide) rfl ?_
  refine k_iload 40 rfl (gs_ne rfl rfl (gs_ne rfl rfl rfl)) rfl ?_
  refine k_xq I43 rfl (y_add hn2 I43.1 or77) rfl rfl rfl (ty_H.rc3 I43.T or77) L44 so_n ?_
  rintro x49 h50 c51 s52 F53 A54 I55 L56 ⟨e57, k58, k59⟩
  replace k58 := k58.symm
  subst k58
  replace k59 := k59.symm
  subst k59
  have z60 := iv_01 (x := x49) (by rw [e57]; exact (addr_01))
  show am_Ok _ _ _ (43, _, [.inl x49], _, c51, s52) _
  refine k_pop 44 rfl rfl rfl ?_
  refine k_aload 45 rfl (gs_ne rfl rfl (gs_ne rfl rfl rfl)) rfl ?_
  refine x_gF 77 I55 48 rfl rfl (by decide) rfl ?_
  refine k_aload 49 rfl (gs_ne rfl rfl (gs_ne rfl rfl rfl)) rfl ?_
  refine x_gF 79 I55 52 rfl rfl (by decide) rfl ?_
  refine k_iload 53 rfl (gs_ne rfl rfl (gs_ne rfl rfl rfl)) rfl ?_
  refine k_xq I55 rfl (y_get hn1 I55.1 or79) rfl rfl rfl (ty_H.rc3 I55.T or79) L56 (xo_r I55 ol77 so_n) ?_
  rintro x61 h62 c63 s64 F65 A66 I67 L68 ⟨e69, k70, k71⟩
  replace k70 := k70.symm
  subst k70
  replace k71 := k71.symm
  subst k71
  show am_Ok _ _ _ (56, _, [.inl x61, .inr (.inr (some 77))], _, c63, s64) _
  refine k_xq I67 rfl (y_add e69 I67.1 or77) rfl rfl rfl (ty_H.rc3 I67.T or77) L68 so_n ?_
  rintro x72 h73 c74 s75 F76 A77 I78 L79 ⟨e80, k81, k82⟩
  replace k81 := k81.symm
  subst k81
  replace k82 := k82.symm
  subst k82
  have z83 := iv_01 (x := x72) (by rw [e80]; exact (addr_01))
  show am_Ok _ _ _ (59, _, [.inl x72], _, c74, s75) _
  refine k_pop 60 rfl rfl rfl ?_
  refine k_aload 61 rfl (gs_ne rfl rfl (gs_ne rfl rfl rfl)) rfl ?_
  refine x_gF 79 I78 64 rfl rfl (by decide) rfl ?_
  refine k_iload 65 rfl (gs_ne rfl rfl (gs_ne rfl rfl rfl)) rfl ?_
  refine k_iload 67 rfl gs_eq rfl ?_
  refine k_xv I78 rfl (y_set hn1 e32 I78.1 or79) rfl rfl rfl (ty_H.rc3 I78.T or79) L79 so_n ?_
  rintro h85 c86 s87 F88 A89 I90 L91 ⟨k93, k94⟩
  replace k93 := k93.symm
  subst k93
  replace k94 := k94.symm
  subst k94
  show am_Ok _ _ _ (70, _, [], _, c86, s87) _
  refine k_push 71 rfl rfl ?_
  refine k_iload 72 rfl (gs_ne rfl rfl gs_eq) rfl ?_
  obtain ⟨x95, q96⟩ : ∃ q : Int32, q = (4 : Int32) * x7 := ⟨_, rfl⟩
  have e97 : x95.toInt = bm (4 * n16) := bm_mul q96 hc33 q17
  refine k_bin x95 73 rfl q96.symm rfl ?_
  refine k_push 74 rfl rfl ?_
  have hc98 : (1 : Int32).toInt = 1 := by decide
  obtain ⟨x99, q100⟩ : ∃ q : Int32, q = x95 + (1 : Int32) := ⟨_, rfl⟩
  have e101 : x99.toInt = bm (bm (4 * n16) + 1) := bm_add q100 e97 hc98
  refine k_bin x99 75 rfl q100.symm rfl ?_
  exact k_fin rfl rfl ⟨_, _, _, _, _, _, rfl, I90, (by (try rw [e101]); show LYv (F11 7403) 56 (F11 5605) (F11 5607) (((upl ((addl 77 ((addl 77 (addl 77 A12 (bm (4 * n16))) (n2))) (gl ((addl 77 (addl 77 A12 (bm (4 * n16))) (n2)) 79) (n1)))) 79 (ssl ((addl 77 ((addl 77 (addl 77 A12 (bm (4 * n16))) (n2))) (gl ((addl 77 (addl 77 A12 (bm (4 * n16))) (n2)) 79) (n1))) 79) (n1) (((((A12 77).length : Nat) : Int) / 3))))) 57) (((upl ((addl 77 ((addl 77 (addl 77 A12 (bm (4 * n16))) (n2))) (gl ((addl 77 (addl 77 A12 (bm (4 * n16))) (n2)) 79) (n1)))) 79 (ssl ((addl 77 ((addl 77 (addl 77 A12 (bm (4 * n16))) (n2))) (gl ((addl 77 (addl 77 A12 (bm (4 * n16))) (n2)) 79) (n1))) 79) (n1) (((((A12 77).length : Nat) : Int) / 3))))) 75) (((upl ((addl 77 ((addl 77 (addl 77 A12 (bm (4 * n16))) (n2))) (gl ((addl 77 (addl 77 A12 (bm (4 * n16))) (n2)) 79) (n1)))) 79 (ssl ((addl 77 ((addl 77 (addl 77 A12 (bm (4 * n16))) (n2))) (gl ((addl 77 (addl 77 A12 (bm (4 * n16))) (n2)) 79) (n1))) 79) (n1) (((((A12 77).length : Nat) : Int) / 3))))) 77) (((upl ((addl 77 ((addl 77 (addl 77 A12 (bm (4 * n16))) (n2))) (gl ((addl 77 (addl 77 A12 (bm (4 * n16))) (n2)) 79) (n1)))) 79 (ssl ((addl 77 ((addl 77 (addl 77 A12 (bm (4 * n16))) (n2))) (gl ((addl 77 (addl 77 A12 (bm (4 * n16))) (n2)) 79) (n1))) 79) (n1) (((((A12 77).length : Nat) : Int) / 3))))) 79) (S.1, S.2.1 ++ [(n2, gl S.2.2.1 n1)], ssl S.2.2.1 n1 (S.2.1.length : Int), S.2.2.2 + 1) ∧ fL9 F0 F11 ∧ aL9 A0 ((upl ((addl 77 ((addl 77 (addl 77 A12 (bm (4 * n16))) (n2))) (gl ((addl 77 (addl 77 A12 (bm (4 * n16))) (n2)) 79) (n1)))) 79 (ssl ((addl 77 ((addl 77 (addl 77 A12 (bm (4 * n16))) (n2))) (gl ((addl 77 (addl 77 A12 (bm (4 * n16))) (n2)) 79) (n1))) 79) (n1) (((((A12 77).length : Nat) : Int) / 3))))); have ll77 := hS.2.2.2.1.1; obtain ⟨c1, c2⟩ := add3 (A := A12) (i := 77) (by rw [mo77, ww3 77 (by decide) (by decide)]; omega); refine ⟨?_, fun n hn => ww2 n (Or.inl (by omega)), fun k hk => (upl_ne (by omega)).trans ((c2 _ _ _ k (by omega)).trans (ww3 k (by omega) (by omega)))⟩; rw [upl_ne (show 57 ≠ 79 by decide), upl_ne (show 75 ≠ 79 by decide), upl_ne (show 77 ≠ 79 by decide), upl_eq, c2 _ _ _ 57 (by decide), c2 _ _ _ 75 (by decide), c2 _ _ _ 79 (by decide), c1, addl_ne (show 79 ≠ 77 by decide), addl_ne (show 79 ≠ 77 by decide), gg3, ww3 75 (by decide) (by decide), ww3 77 (by decide) (by decide), ww3 79 (by decide) (by decide), hS.e77, hS.2.2.2.2]; exact hS.va ww1)⟩
theorem n_X0_finishFunction_56 {h0 : am_h} {F0 : rf_f} {A0 : xl_A} {w1 : Int32} {n1 : Int} (hn1 : w1.toInt = n1)  (S : lST) (hS : LYv (F0 7403) 56 (F0 5605) (F0 5607) (A0 57) (A0 75) (A0 77) (A0 79) (S)) (hR : xR h0 F0 A0) : am_Mt 3 5 [.inr (.inr (some 74)), .inl w1] h0 (xV h0 (fun F' A' => LYv (F' 7403) 56 (F' 5605) (F' 5607) (A' 57) (A' 75) (A' 77) (A' 79) (S.1, S.2.1, S.2.2.1.dropLast, S.2.2.2 + if S.2.2.1.getLastD 0 = -1 then 1 else 0) ∧ fL9 F0 F' ∧ aL9 A0 A')) := by
  refine am_Mt.of (D := 2) ?_
  have hI : xI h0 (ob_P h0) h0 0 0 F0 A0 := xI.start hR
  have hL : am_okL h0.length (am_args 0 [.inr (.inr (some 74)), .inl w1]) = true := (okA_r hI.T oc74 (okA_i okA_n))
  have f3 : F0 7403 = 56 := hS.1
  have ee79 : A0 79 = S.2.2.1 := hS.2.2.2.2
  refine k_aload 1 rfl rfl rfl ?_
  refine x_gF 79 hI 4 rfl rfl (by decide) rfl ?_
  refine k_xq hI rfl (xv_takeLast hI.1 or79) rfl rfl rfl (ty_H.rc3 hI.T or79) hL so_n ?_
  rintro x1 h2 c3 s4 F5 A6 I7 L8 ⟨e9, k10, k11⟩
  replace k10 := k10.symm
  subst k10
  replace k11 := k11.symm
  subst k11
  show am_Ok _ _ _ (7, _, [.inl x1], _, c3, s4) _
  refine k_istore 8 rfl rfl ?_
  refine k_iload 9 rfl gs_eq rfl ?_
  refine k_push 10 rfl rfl ?_
  have hc12 : (-1 : Int32).toInt = -1 := by decide
  by_cases b13 : x1 = (-1 : Int32)
  · refine k_c2 13 rfl rfl (if_pos b13) ?_
    have b13 : (A0 79).getLastD 0 = (-1) := by have h9 := iv_eq.mp b13; rw [e9] at h9; rw [hc12] at h9; exact h9
    refine k_push 14 rfl rfl ?_
    have hc14 : (4 : Int32).toInt = 4 := by decide
    refine k_aload 15 rfl (gs_ne rfl rfl rfl) rfl ?_
    refine x_gO (τ := 1) I7 18 rfl oc74 rfl rfl rfl rfl (fun r15 (e16 : (r15 : Int) = F0 7403) o17 => ?_)
    obtain rfl : r15 = 56 := by omega
    refine k_push 20 rfl rfl ?_
    have hc18 : (6 : Int32).toInt = 6 := by decide
    refine k_push 21 rfl rfl ?_
    have hc19 : (0 : Int32).toInt = 0 := by decide
    refine k_xq I7 rfl (n_X1_make_56 hc18 hc19  (S.2.2.2) (by exact hS.2.1) I7.1) rfl rfl rfl (I7.T.rc oc56 rfl) (okL_set (i := 2) (v := .inl x1) rfl L8) (so_i so_n) ?_
    rintro x20 h21 c22 s23 F24 A25 I26 L27 e28
    obtain ⟨n29, q30⟩ : ∃ n : Int, x20.toInt = n := ⟨_, rfl⟩
    try rw [q30] at e28
    show am_Ok _ _ _ (24, _, [.inl x20, .inl (4 : Int32)], _, c22, s23) _
    obtain ⟨ww1, ww2, ww3⟩ := e28
    have gg3 := ww2 7403 (Or.inr (by omega))
    have a75 : A25 75 = A0 75 := ww3 75 (by decide) (by decide)
    have a77 : A25 77 = A0 77 := ww3 77 (by decide) (by decide)
    have a79 : A25 79 = (A0 79).dropLast := ww3 79 (by decide) (by decide)
    obtain ⟨x31, q32⟩ : ∃ q : Int32, q = (4 : Int32) * x20 := ⟨_, rfl⟩
    have e33 : x31.toInt = bm (4 * n29) := bm_mul q32 hc14 q30
    refine k_bin x31 25 rfl q32.symm rfl ?_
    refine k_goto 38 rfl rfl ?_
    refine k_istore 39 rfl rfl ?_
    refine k_aload 40 rfl (gs_ne rfl rfl (gs_ne rfl rfl rfl)) rfl ?_
    refine x_gO (τ := 1) I26 43 rfl oc74 rfl rfl rfl rfl (fun r34 (e35 : (r34 : Int) = F24 7403) o36 => ?_)
    obtain rfl : r34 = 56 := by omega
    refine k_iload 44 rfl gs_eq rfl ?_
    refine k_push 45 rfl rfl ?_
    refine k_iload 46 rfl (gs_ne rfl rfl (gs_ne rfl rfl rfl)) rfl ?_
    obtain ⟨x37, q38⟩ : ∃ q : Int32, q = (4 : Int32) * w1 := ⟨_, rfl⟩
    have e39 : x37.toInt = bm (4 * n1) := bm_mul q38 hc14 hn1
    refine k_bin x37 47 rfl q38.symm rfl ?_
    refine k_push 48 rfl rfl ?_
    have hc40 : (2 : Int32).toInt = 2 := by decide
    obtain ⟨x41, q42⟩ : ∃ q : Int32, q = x37 + (2 : Int32) := ⟨_, rfl⟩
    have e43 : x41.toInt = bm (bm (4 * n1) + 2) := bm_add q42 e39 hc40
    refine k_bin x41 49 rfl q42.symm rfl ?_
    refine k_xv I26 rfl (n_X1_link_56 e33 e43   I26.1) rfl rfl rfl (I26.T.rc oc56 rfl) (okL_set (i := 3) (v := .inl x31) rfl L27) so_n ?_
    rintro h45 c46 s47 F48 A49 I50 L51 ⟨k53, k54⟩
    replace k53 : F48 = F24 := k53
    replace k53 := k53.symm
    subst k53
    replace k54 := k54.symm
    subst k54
    show am_Ok _ _ _ (52, _, [], _, c46, s47) _
    exact k_fin rfl rfl ⟨_, _, _, _, _, rfl, I50, (by show LYv (F24 7403) 56 (F24 5605) (F24 5607) (((p_X1_link_56 (bm (4 * n29)) (bm (bm (4 * n1) + 2)) F24 A25).2.2) 57) (((p_X1_link_56 (bm (4 * n29)) (bm (bm (4 * n1) + 2)) F24 A25).2.2) 75) (((p_X1_link_56 (bm (4 * n29)) (bm (bm (4 * n1) + 2)) F24 A25).2.2) 77) (((p_X1_link_56 (bm (4 * n29)) (bm (bm (4 * n1) + 2)) F24 A25).2.2) 79) (S.1, S.2.1, S.2.2.1.dropLast, S.2.2.2 + if S.2.2.1.getLastD 0 = -1 then 1 else 0) ∧ fL9 F0 F24 ∧ aL9 A0 ((p_X1_link_56 (bm (4 * n29)) (bm (bm (4 * n1) + 2)) F24 A25).2.2); refine ⟨?_, fun n hn => ww2 n (Or.inl (by omega)), fun k hk => (lk_56 (by omega)).trans ((ww3 k (by omega) (by omega)).trans (upl_ne (by omega)))⟩; show LYv (F24 7403) 56 (F24 5605) (F24 5607) (A25 57) (A25 75) (A25 77) (A25 79) _; rw [gg3, a75, a77, a79]; exact hS.ff1 ww1 (by rw [← ee79]; exact b13))⟩
  · refine k_c2 28 rfl rfl (if_neg b13) ?_
    have b13 : ¬ ((A0 79).getLastD 0 = (-1)) := by have h9 := mt iv_eq.mpr b13; rw [e9] at h9; rw [hc12] at h9; exact h9
    refine k_aload 29 rfl (gs_ne rfl rfl rfl) rfl ?_
    refine x_gF 77 I7 32 rfl rfl (by decide) rfl ?_
    refine k_push 33 rfl rfl ?_
    have hc55 : (3 : Int32).toInt = 3 := by decide
    refine k_iload 34 rfl gs_eq rfl ?_
    obtain ⟨x56, q57⟩ : ∃ q : Int32, q = (3 : Int32) * x1 := ⟨_, rfl⟩
    have e58 : x56.toInt = bm (3 * (A0 79).getLastD 0) := bm_mul q57 hc55 e9
    refine k_bin x56 35 rfl q57.symm rfl ?_
    refine k_xq I7 rfl (y_get e58 I7.1 or77) rfl rfl rfl (ty_H.rc3 I7.T or77) (okL_set (i := 2) (v := .inl x1) rfl L8) so_n ?_
    rintro x59 h60 c61 s62 F63 A64 I65 L66 ⟨e67, k68, k69⟩
    replace k68 := k68.symm
    subst k68
    replace k69 := k69.symm
    subst k69
    show am_Ok _ _ _ (38, _, [.inl x59], _, c61, s62) _
    refine k_istore 39 rfl rfl ?_
    refine k_aload 40 rfl (gs_ne rfl rfl (gs_ne rfl rfl rfl)) rfl ?_
    refine x_gO (τ := 1) I65 43 rfl oc74 rfl rfl rfl rfl (fun r70 (e71 : (r70 : Int) = F0 7403) o72 => ?_)
    obtain rfl : r70 = 56 := by omega
    refine k_iload 44 rfl gs_eq rfl ?_
    refine k_push 45 rfl rfl ?_
    have hc73 : (4 : Int32).toInt = 4 := by decide
    refine k_iload 46 rfl (gs_ne rfl rfl (gs_ne rfl rfl rfl)) rfl ?_
    obtain ⟨x74, q75⟩ : ∃ q : Int32, q = (4 : Int32) * w1 := ⟨_, rfl⟩
    have e76 : x74.toInt = bm (4 * n1) := bm_mul q75 hc73 hn1
    refine k_bin x74 47 rfl q75.symm rfl ?_
    refine k_push 48 rfl rfl ?_
    have hc77 : (2 : Int32).toInt = 2 := by decide
    obtain ⟨x78, q79⟩ : ∃ q : Int32, q = x74 + (2 : Int32) := ⟨_, rfl⟩
    have e80 : x78.toInt = bm (bm (4 * n1) + 2) := bm_add q79 e76 hc77
    refine k_bin x78 49 rfl q79.symm rfl ?_
    refine k_xv I65 rfl (n_X1_link_56 e67 e80   I65.1) rfl rfl rfl (I65.T.rc oc56 rfl) (okL_set (i := 3) (v := .inl x59) rfl L66) so_n ?_
    rintro h82 c83 s84 F85 A86 I87 L88 ⟨k90, k91⟩
    replace k90 : F85 = F0 := k90
    replace k90 := k90.symm
    subst k90
    replace k91 := k91.symm
    subst k91
    show am_Ok _ _ _ (52, _, [], _, c83, s84) _
    exact k_fin rfl rfl ⟨_, _, _, _, _, rfl, I87, (by show LYv (F0 7403) 56 (F0 5605) (F0 5607) (((p_X1_link_56 (gl (A0 77) (bm (3 * (A0 79).getLastD 0))) (bm (bm (4 * n1) + 2)) F0 (upl A0 79 (A0 79).dropLast)).2.2) 57) (((p_X1_link_56 (gl (A0 77) (bm (3 * (A0 79).getLastD 0))) (bm (bm (4 * n1) + 2)) F0 (upl A0 79 (A0 79).dropLast)).2.2) 75) (((p_X1_link_56 (gl (A0 77) (bm (3 * (A0 79).getLastD 0))) (bm (bm (4 * n1) + 2)) F0 (upl A0 79 (A0 79).dropLast)).2.2) 77) (((p_X1_link_56 (gl (A0 77) (bm (3 * (A0 79).getLastD 0))) (bm (bm (4 * n1) + 2)) F0 (upl A0 79 (A0 79).dropLast)).2.2) 79) (S.1, S.2.1, S.2.2.1.dropLast, S.2.2.2 + if S.2.2.1.getLastD 0 = -1 then 1 else 0) ∧ fL9 F0 F0 ∧ aL9 A0 ((p_X1_link_56 (gl (A0 77) (bm (3 * (A0 79).getLastD 0))) (bm (bm (4 * n1) + 2)) F0 (upl A0 79 (A0 79).dropLast)).2.2); refine ⟨?_, fun n hn => rfl, fun k hk => (lk_56 (by omega)).trans (upl_ne (by omega))⟩; show LYv (F0 7403) 56 (F0 5605) (F0 5607) (A0 57) (A0 75) (A0 77) ((A0 79).dropLast) _; exact hS.ff0 (by rw [← ee79]; exact b13))⟩
end
section
theorem n_X1_make_65 {h0 : am_h} {F0 : rf_f} {A0 : xl_A} {w1 : Int32} {n1 : Int} (hn1 : w1.toInt = n1) {w2 : Int32} {n2 : Int} (hn2 : w2.toInt = n2)  (m : Nat) (hn : NWv (F0 6505) (F0 6507) (A0 66) (m)) (hR : xR h0 F0 A0) : am_Mt 2 18 [.inr (.inr (some 65)), .inl w1, .inl w2] h0 (xQ h0 (fun x F' A' => NWv (F' 6505) (F' 6507) (A' 66) (m + 1) ∧ MKv 66 68 6504 6507 F0 F' A0 A')) := by
  refine am_Mt.of (D := 1) ?_
  have hI : xI h0 (ob_P h0) h0 0 0 F0 A0 := xI.start hR
  have hL : am_okL h0.length (am_args 0 [.inr (.inr (some 65)), .inl w1, .inl w2]) = true := (okA_r hI.T oc65 (okA_i (okA_i okA_n)))
  have hb9 := hn.b
  refine k_aload 1 rfl rfl rfl ?_
  refine x_gI hI 4 rfl oc65 rfl rfl rfl rfl (fun x1 (e2 : x1.toInt = F0 6505) => ?_)
  refine k_istore 5 rfl rfl ?_
  refine k_iload 6 rfl gs_eq rfl ?_
  refine k_push 9 rfl rfl ?_
  have hc3 : (400 : Int32).toInt = 400 := by decide
  by_cases b4 : (400 : Int32) ≤ x1
  · refine k_c2 81 rfl rfl (if_pos b4) ?_
    have b4 : 400 ≤ F0 6505 := by have h9 := iv_le.mp b4; rw [e2] at h9; rw [hc3] at h9; exact h9
    refine k_aload 82 rfl (gs_ne rfl rfl rfl) rfl ?_
    refine k_push 83 rfl rfl ?_
    have hc5 : (1 : Int32).toInt = 1 := by decide
    refine x_pZ (fx_ok := fx_no rfl) hI 86 rfl oc65 rfl rfl rfl (Or.inr rfl) rfl (fun h6 I7 l8 => ?_)
    have L9 := okL_eq l8 (okL_set (i := 3) (v := .inl x1) rfl hL)
    have I10 : xI h0 (ob_P h0) h6 0 0 (up1 F0 6507 (1)) A0 := by have h9 := I7; rw [hc5] at h9; exact h9
    refine k_push 87 rfl rfl ?_
    have hc11 : (-1 : Int32).toInt = -1 := by decide
    exact k_fin rfl rfl ⟨_, _, _, _, _, _, rfl, I10, (by (try rw [hc11]); show NWv (((up1 F0 6507 (1))) 6505) (((up1 F0 6507 (1))) 6507) (A0 66) (m + 1) ∧ MKv 66 68 6504 6507 F0 ((up1 F0 6507 (1))) A0 A0; exact ⟨hn.full b4, fun n h => up1_ne (by omega), fun k k1 k2 => rfl⟩)⟩
  · refine k_c2 12 rfl rfl (if_neg b4) ?_
    have b4 : ¬ (400 ≤ F0 6505) := by have h9 := mt iv_le.mpr b4; rw [e2] at h9; rw [hc3] at h9; exact h9
    refine k_aload 13 rfl (gs_ne rfl rfl rfl) rfl ?_
    refine x_gF 66 hI 16 rfl rfl (by decide) rfl ?_
    refine k_iload 17 rfl gs_eq rfl ?_
    refine k_xq hI rfl (y_get e2 hI.1 or66) rfl rfl rfl (ty_H.rc3 hI.T or66) (okL_set (i := 3) (v := .inl x1) rfl hL) so_n ?_
    rintro x12 h13 c14 s15 F16 A17 I18 L19 ⟨e20, k21, k22⟩
    replace k21 := k21.symm
    subst k21
    replace k22 := k22.symm
    subst k22
    show am_Ok _ _ _ (20, _, [.inl x12], _, c14, s15) _
    refine k_push 21 rfl rfl ?_
    have hc23 : (-1 : Int32).toInt = -1 := by decide
    by_cases b24 : x12 = (-1 : Int32)
    · refine k_c2 24 rfl rfl (if_pos b24) ?_
      have b24 : gl (A0 66) (F0 6505) = (-1) := by have h9 := iv_eq.mp b24; rw [e20] at h9; rw [hc23] at h9; exact h9
      refine k_aload 25 rfl (gs_ne rfl rfl rfl) rfl ?_
      refine x_gF 66 I18 28 rfl rfl (by decide) rfl ?_
      refine k_iload 29 rfl gs_eq rfl ?_
      refine k_iload 30 rfl (gs_ne rfl rfl rfl) rfl ?_
      refine k_xv I18 rfl (y_set e2 hn1 I18.1 or66) rfl rfl rfl (ty_H.rc3 I18.T or66) L19 so_n ?_
      rintro h26 c27 s28 F29 A30 I31 L32 ⟨k34, k35⟩
      replace k34 := k34.symm
      subst k34
      replace k35 := k35.symm
      subst k35
      show am_Ok _ _ _ (33, _, [], _, c27, s28) _
      refine k_aload 34 rfl (gs_ne rfl rfl rfl) rfl ?_
      refine x_gF 68 I31 37 rfl rfl (by decide) rfl ?_
      refine k_iload 38 rfl gs_eq rfl ?_
      refine k_iload 39 rfl (gs_ne rfl rfl rfl) rfl ?_
      refine k_xv I31 rfl (y_set e2 hn2 I31.1 or68) rfl rfl rfl (ty_H.rc3 I31.T or68) L32 so_n ?_
      rintro h37 c38 s39 F40 A41 I42 L43 ⟨k45, k46⟩
      replace k45 := k45.symm
      subst k45
      replace k46 := k46.symm
      subst k46
      show am_Ok _ _ _ (42, _, [], _, c38, s39) _
      refine k_aload 43 rfl (gs_ne rfl rfl rfl) rfl ?_
      refine k_dup 44 rfl rfl rfl ?_
      refine x_gI I42 47 rfl oc65 rfl rfl rfl rfl (fun x47 (e48 : x47.toInt = F0 6504) => ?_)
      refine k_push 48 rfl rfl ?_
      have hc49 : (1 : Int32).toInt = 1 := by decide
      obtain ⟨x50, q51⟩ : ∃ q : Int32, q = x47 + (1 : Int32) := ⟨_, rfl⟩
      have e52 : x50.toInt = bm (F0 6504 + 1) := bm_add q51 e48 hc49
      refine k_bin x50 49 rfl q51.symm rfl ?_
      refine x_pI (fx_ok := fx_no rfl) I42 52 rfl oc65 rfl rfl rfl rfl (fun h53 I54 l55 => ?_)
      have L56 := okL_eq l55 L43
      have I57 : xI h0 (ob_P h0) h53 c38 s39 (up1 F0 6504 (bm (F0 6504 + 1))) (upl ((upl A0 66 (ssl (A0 66) (F0 6505) (n1)))) 68 (ssl (A0 68) (F0 6505) (n2))) := by have h9 := I54; rw [e52] at h9; exact h9
      refine k_aload 53 rfl (gs_ne rfl rfl rfl) rfl ?_
      refine k_iload 54 rfl gs_eq rfl ?_
      refine k_push 55 rfl rfl ?_
      obtain ⟨x58, q59⟩ : ∃ q : Int32, q = x1 + (1 : Int32) := ⟨_, rfl⟩
      have e60 : x58.toInt = (F0 6505 + 1) := bx_add q59 e2 hc49 (by omega) (by omega)
      refine k_bin x58 56 rfl q59.symm rfl ?_
      refine x_pI (fx_ok := fx_no rfl) I57 59 rfl oc65 rfl rfl rfl rfl (fun h61 I62 l63 => ?_)
      have L64 := okL_eq l63 L56
      have I65 : xI h0 (ob_P h0) h61 c38 s39 (up1 (up1 F0 6504 (bm (F0 6504 + 1))) 6505 ((F0 6505 + 1))) (upl ((upl A0 66 (ssl (A0 66) (F0 6505) (n1)))) 68 (ssl (A0 68) (F0 6505) (n2))) := by have h9 := I62; rw [e60] at h9; exact h9
      refine k_aload 60 rfl (gs_ne rfl rfl rfl) rfl ?_
      refine k_aload 61 rfl (gs_ne rfl rfl rfl) rfl ?_
      refine x_gI I65 64 rfl oc65 rfl rfl rfl rfl (fun x66 (e67 : x66.toInt = F0 6506) => ?_)
      refine k_iload 65 rfl gs_eq rfl ?_
      refine k_push 66 rfl rfl ?_
      obtain ⟨x68, q69⟩ : ∃ q : Int32, q = x1 + (1 : Int32) := ⟨_, rfl⟩
      have e70 : x68.toInt = bm (F0 6505 + 1) := bm_add q69 e2 hc49
      refine k_bin x68 67 rfl q69.symm rfl ?_
      obtain ⟨x71, q72⟩ : ∃ q : Int32, q = (if x66 < x68 then x68 else x66) := ⟨_, rfl⟩
      obtain ⟨n73, e74⟩ : ∃ n : Int, x71.toInt = n := ⟨_, rfl⟩
      refine k_mathZ x71 70 rfl rfl q72.symm rfl ?_
      refine x_pI (fx_ok := fx_no rfl) I65 73 rfl oc65 rfl rfl rfl rfl (fun h75 I76 l77 => ?_)
      have L78 := okL_eq l77 L64
      have I79 : xI h0 (ob_P h0) h75 c38 s39 (up1 ((up1 (up1 F0 6504 (bm (F0 6504 + 1))) 6505 ((F0 6505 + 1)))) 6506 (n73)) (upl ((upl A0 66 (ssl (A0 66) (F0 6505) (n1)))) 68 (ssl (A0 68) (F0 6505) (n2))) := by have h9 := I76; rw [e74] at h9; exact h9
      refine k_iload 74 rfl gs_eq rfl ?_
      exact k_fin rfl rfl ⟨_, _, _, _, _, _, rfl, I79, (by (try rw [e2]); show NWv (((up1 ((up1 (up1 F0 6504 (bm (F0 6504 + 1))) 6505 ((F0 6505 + 1)))) 6506 (n73))) 6505) (((up1 ((up1 (up1 F0 6504 (bm (F0 6504 + 1))) 6505 ((F0 6505 + 1)))) 6506 (n73))) 6507) (((upl ((upl A0 66 (ssl (A0 66) (F0 6505) (n1)))) 68 (ssl (A0 68) (F0 6505) (n2)))) 66) (m + 1) ∧ MKv 66 68 6504 6507 F0 ((up1 ((up1 (up1 F0 6504 (bm (F0 6504 + 1))) 6505 ((F0 6505 + 1)))) 6506 (n73))) A0 ((upl ((upl A0 66 (ssl (A0 66) (F0 6505) (n1)))) 68 (ssl (A0 68) (F0 6505) (n2)))); exact ⟨hn.mk b4, fun n h => (up1_ne (by omega)).trans ((up1_ne (by omega)).trans (up1_ne (by omega))), fun k k1 k2 => (upl_ne k2).trans (upl_ne k1)⟩)⟩
    · refine k_c2 75 rfl rfl (if_neg b24) ?_
      have b24 : ¬ (gl (A0 66) (F0 6505) = (-1)) := by have h9 := mt iv_eq.mpr b24; rw [e20] at h9; rw [hc23] at h9; exact h9
      exact absurd (hn.free b4) b24
def p_X1_link_65 (n1 : Int) (n2 : Int) (F0 : rf_f) (A0 : xl_A) : Int × rf_f × xl_A := (0, F0, (upl ((upl A0 70 (ssl (A0 70) (n1) (n2)))) 70 (ssl ((ssl (A0 70) (n1) (n2))) (n2) (n1))))
theorem n_X1_link_65 {h0 : am_h} {F0 : rf_f} {A0 : xl_A} {w1 : Int32} {n1 : Int} (hn1 : w1.toInt = n1) {w2 : Int32} {n2 : Int} (hn2 : w2.toInt = n2)   (hR : xR h0 F0 A0) : am_Mt 2 19 [.inr (.inr (some 65)), .inl w1, .inl w2] h0 (xV h0 (fun F' A' => F' = (p_X1_link_65 n1 n2 F0 A0).2.1 ∧ A' = (p_X1_link_65 n1 n2 F0 A0).2.2)) := by
  refine am_Mt.of (D := 1) ?_
  have hI : xI h0 (ob_P h0) h0 0 0 F0 A0 := xI.start hR
  have hL : am_okL h0.length (am_args 0 [.inr (.inr (some 65)), .inl w1, .inl w2]) = true := (okA_r hI.T oc65 (okA_i (okA_i okA_n)))
  refine k_aload 1 rfl rfl rfl ?_
  refine x_gF 70 hI 4 rfl rfl (by decide) rfl ?_
  refine k_iload 5 rfl rfl rfl ?_
  refine k_iload 6 rfl rfl rfl ?_
  refine k_xv hI rfl (y_set hn1 hn2 hI.1 or70) rfl rfl rfl (ty_H.rc3 hI.T or70) hL so_n ?_
  rintro h2 c3 s4 F5 A6 I7 L8 ⟨k10, k11⟩
  replace k10 := k10.symm
  subst k10
  replace k11 := k11.symm
  subst k11
  show am_Ok _ _ _ (9, _, [], _, c3, s4) _
  refine k_aload 10 rfl rfl rfl ?_
  refine x_gF 70 I7 13 rfl rfl (by decide) rfl ?_
  refine k_iload 14 rfl rfl rfl ?_
  refine k_iload 15 rfl rfl rfl ?_
  refine k_xv I7 rfl (y_set hn2 hn1 I7.1 or70) rfl rfl rfl (ty_H.rc3 I7.T or70) L8 so_n ?_
  rintro h13 c14 s15 F16 A17 I18 L19 ⟨k21, k22⟩
  replace k21 := k21.symm
  subst k21
  replace k22 := k22.symm
  subst k22
  show am_Ok _ _ _ (18, _, [], _, c14, s15) _
  exact k_fin rfl rfl ⟨_, _, _, _, _, rfl, I18, rfl, rfl⟩
theorem lk_65 {a b : Int} {F : rf_f} {A : xl_A} {k : Nat} (h : k ≠ 70) : (p_X1_link_65 a b F A).2.2 k = A k := by
  show upl (upl A 70 (ssl (A 70) a b)) 70 (ssl (ssl (A 70) a b) b a) k = A k
  rw [upl_ne h, upl_ne h]
def p_X1_clear_65  (F0 : rf_f) (A0 : xl_A) : Int × rf_f × xl_A := (0, (up1 ((up1 ((up1 (up1 F0 6504 (0)) 6505 (0))) 6506 (0))) 6507 (0)), (upl A0 66 (List.replicate (402 : Int).toNat ((-1)))))
theorem n_X1_clear_65 {h0 : am_h} {F0 : rf_f} {A0 : xl_A}    (hR : xR h0 F0 A0) : am_Mt 2 9 [.inr (.inr (some 65))] h0 (xV h0 (fun F' A' => F' = (p_X1_clear_65 F0 A0).2.1 ∧ A' = (p_X1_clear_65 F0 A0).2.2)) := by
  refine am_Mt.of (D := 1) ?_
  have hI : xI h0 (ob_P h0) h0 0 0 F0 A0 := xI.start hR
  have hL : am_okL h0.length (am_args 0 [.inr (.inr (some 65))]) = true := (okA_r hI.T oc65 okA_n)
  refine k_aload 1 rfl rfl rfl ?_
  refine x_gF 66 hI 4 rfl rfl (by decide) rfl ?_
  refine k_push 7 rfl rfl ?_
  have hc1 : (402 : Int32).toInt = 402 := by decide
  refine k_push 8 rfl rfl ?_
  have hc2 : (-1 : Int32).toInt = -1 := by decide
  refine k_xv hI rfl (y_fill hc1 hc2 hI.1 or66 (by decide) (by decide)) rfl rfl rfl (ty_H.rc3 hI.T or66) hL so_n ?_
  rintro h4 c5 s6 F7 A8 I9 L10 ⟨k12, k13⟩
  replace k12 := k12.symm
  subst k12
  replace k13 := k13.symm
  subst k13
  show am_Ok _ _ _ (11, _, [], _, c5, s6) _
  refine k_aload 12 rfl rfl rfl ?_
  refine k_push 13 rfl rfl ?_
  have hc14 : (0 : Int32).toInt = 0 := by decide
  refine x_pI (fx_ok := fx_no rfl) I9 16 rfl oc65 rfl rfl rfl rfl (fun h15 I16 l17 => ?_)
  have L18 := okL_eq l17 L10
  have I19 : xI h0 (ob_P h0) h15 c5 s6 (up1 F0 6504 (0)) (upl A0 66 (List.replicate (402 : Int).toNat ((-1)))) := by have h9 := I16; rw [hc14] at h9; exact h9
  refine k_aload 17 rfl rfl rfl ?_
  refine k_push 18 rfl rfl ?_
  refine x_pI (fx_ok := fx_no rfl) I19 21 rfl oc65 rfl rfl rfl rfl (fun h20 I21 l22 => ?_)
  have L23 := okL_eq l22 L18
  have I24 : xI h0 (ob_P h0) h20 c5 s6 (up1 (up1 F0 6504 (0)) 6505 (0)) (upl A0 66 (List.replicate (402 : Int).toNat ((-1)))) := by have h9 := I21; rw [hc14] at h9; exact h9
  refine k_aload 22 rfl rfl rfl ?_
  refine k_push 23 rfl rfl ?_
  refine x_pI (fx_ok := fx_no rfl) I24 26 rfl oc65 rfl rfl rfl rfl (fun h25 I26 l27 => ?_)
  have L28 := okL_eq l27 L23
  have I29 : xI h0 (ob_P h0) h25 c5 s6 (up1 ((up1 (up1 F0 6504 (0)) 6505 (0))) 6506 (0)) (upl A0 66 (List.replicate (402 : Int).toNat ((-1)))) := by have h9 := I26; rw [hc14] at h9; exact h9
  refine k_aload 27 rfl rfl rfl ?_
  refine k_push 28 rfl rfl ?_
  refine x_pZ (fx_ok := fx_no rfl) I29 31 rfl oc65 rfl rfl rfl (Or.inl rfl) rfl (fun h30 I31 l32 => ?_)
  have L33 := okL_eq l32 L28
  have I34 : xI h0 (ob_P h0) h30 c5 s6 (up1 ((up1 ((up1 (up1 F0 6504 (0)) 6505 (0))) 6506 (0))) 6507 (0)) (upl A0 66 (List.replicate (402 : Int).toNat ((-1)))) := by have h9 := I31; rw [hc14] at h9; exact h9
  exact k_fin rfl rfl ⟨_, _, _, _, _, rfl, I34, rfl, rfl⟩
theorem n_X1_isOverfull_65 {h0 : am_h} {F0 : rf_f} {A0 : xl_A}    (hR : xR h0 F0 A0) : am_Mt 1 12 [.inr (.inr (some 65))] h0 (xQ h0 (fun x F' A' => ((x : Int) = 0 ∨ (x : Int) = 1) ∧ (x : Int) = F0 6507 ∧ F' = F0 ∧ A' = A0)) := by
  refine am_Mt.of (D := 0) ?_
  have hI : xI h0 (ob_P h0) h0 0 0 F0 A0 := xI.start hR
  have hL : am_okL h0.length (am_args 0 [.inr (.inr (some 65))]) = true := (okA_r hI.T oc65 okA_n)
  refine k_aload 1 rfl rfl rfl ?_
  refine x_gZ hI 4 rfl oc65 rfl rfl rfl rfl (fun x1 (e2 : x1.toInt = F0 6507) z3 => ?_)
  exact k_fin rfl (fin_Z z3) ⟨_, _, _, _, _, _, rfl, hI, (by (try rw [e2]); show ((F0 6507 : Int) = 0 ∨ (F0 6507 : Int) = 1) ∧ (F0 6507 : Int) = F0 6507 ∧ F0 = F0 ∧ A0 = A0; exact ⟨by rw [← e2]; exact iv_z2 z3, rfl, rfl, rfl⟩)⟩
theorem n_X0_beginFrame_65 {h0 : am_h} {F0 : rf_f} {A0 : xl_A} {w1 : Int32} {n1 : Int} (hn1 : w1.toInt = n1) {w2 : Int32} {n2 : Int} (hn2 : w2.toInt = n2) {w3 : Int32} {n3 : Int} (hn3 : w3.toInt = n3)  (S : lST) (hS : LYv (F0 7403) 65 (F0 6505) (F0 6507) (A0 66) (A0 75) (A0 77) (A0 79) (S)) (hf : S.1.length ≤ 119) (hR : xR h0 F0 A0) : am_Mt 3 2 [.inr (.inr (some 74)), .inl w1, .inl w2, .inl w3] h0 (xV h0 (fun F' A' => LYv (F' 7403) 65 (F' 6505) (F' 6507) (A' 66) (A' 75) (A' 77) (A' 79) ((n2, n3) :: S.1, S.2.1, S.2.2.1, S.2.2.2 + 1) ∧ fL9 F0 F' ∧ aL9 A0 A')) := by
  refine am_Mt.of (D := 2) ?_
  have hI : xI h0 (ob_P h0) h0 0 0 F0 A0 := xI.start hR
  have hL : am_okL h0.length (am_args 0 [.inr (.inr (some 74)), .inl w1, .inl w2, .inl w3]) = true := (okA_r hI.T oc74 (okA_i (okA_i (okA_i okA_n))))
  have f3 : F0 7403 = 65 := hS.1
  refine k_aload 1 rfl rfl rfl ?_
  refine x_gF 75 hI 4 rfl rfl (by decide) rfl ?_
  refine k_aload 5 rfl rfl rfl ?_
  refine x_gO (τ := 1) hI 8 rfl oc74 rfl rfl rfl rfl (fun r1 (e2 : (r1 : Int) = F0 7403) o3 => ?_)
  obtain rfl : r1 = 65 := by omega
  refine k_iload 9 rfl rfl rfl ?_
  refine k_aload 10 rfl rfl rfl ?_
  refine x_gI hI 13 rfl oc74 rfl rfl rfl rfl (fun x4 (e5 : x4.toInt = F0 7404) => ?_)
  refine k_xq hI rfl (n_X1_make_65 hn1 e5  (S.2.2.2) (by exact hS.2.1) hI.1) rfl rfl rfl (hI.T.rc oc65 rfl) hL (xo_r hI ol75 so_n) ?_
  rintro x6 h7 c8 s9 F10 A11 I12 L13 e14
  obtain ⟨n15, q16⟩ : ∃ n : Int, x6.toInt = n := ⟨_, rfl⟩
  try rw [q16] at e14
  show am_Ok _ _ _ (16, _, [.inl x6, .inr (.inr (some 75))], _, c8, s9) _
  obtain ⟨ww1, ww2, ww3⟩ := e14
  have gg3 := ww2 7403 (Or.inr (by omega))
  refine k_xq I12 rfl (y_add q16 I12.1 or75) rfl rfl rfl (ty_H.rc3 I12.T or75) L13 so_n ?_
  rintro x17 h18 c19 s20 F21 A22 I23 L24 ⟨e25, k26, k27⟩
  replace k26 := k26.symm
  subst k26
  replace k27 := k27.symm
  subst k27
  have z28 := iv_01 (x := x17) (by rw [e25]; exact (addr_01))
  show am_Ok _ _ _ (19, _, [.inl x17], _, c19, s20) _
  refine k_pop 20 rfl rfl rfl ?_
  refine k_aload 21 rfl rfl rfl ?_
  refine x_gF 75 I23 24 rfl rfl (by decide) rfl ?_
  refine k_iload 25 rfl rfl rfl ?_
  refine k_xq I23 rfl (y_add hn2 I23.1 or75) rfl rfl rfl (ty_H.rc3 I23.T or75) L24 so_n ?_
  rintro x29 h30 c31 s32 F33 A34 I35 L36 ⟨e37, k38, k39⟩
  replace k38 := k38.symm
  subst k38
  replace k39 := k39.symm
  subst k39
  have z40 := iv_01 (x := x29) (by rw [e37]; exact (addr_01))
  show am_Ok _ _ _ (28, _, [.inl x29], _, c31, s32) _
  refine k_pop 29 rfl rfl rfl ?_
  refine k_aload 30 rfl rfl rfl ?_
  refine x_gF 75 I35 33 rfl rfl (by decide) rfl ?_
  refine k_iload 34 rfl rfl rfl ?_
  refine k_xq I35 rfl (y_add hn3 I35.1 or75) rfl rfl rfl (ty_H.rc3 I35.T or75) L36 so_n ?_
  rintro x41 h42 c43 s44 F45 A46 I47 L48 ⟨e49, k50, k51⟩
  replace k50 := k50.symm
  subst k50
  replace k51 := k51.symm
  subst k51
  have z52 := iv_01 (x := x41) (by rw [e49]; exact (addr_01))
  show am_Ok _ _ _ (37, _, [.inl x41], _, c43, s44) _
  refine k_pop 38 rfl rfl rfl ?_
  exact k_fin rfl rfl ⟨_, _, _, _, _, rfl, I47, (by show LYv (F10 7403) 65 (F10 6505) (F10 6507) (((addl 75 ((addl 75 (addl 75 A11 (n15)) (n2))) (n3))) 66) (((addl 75 ((addl 75 (addl 75 A11 (n15)) (n2))) (n3))) 75) (((addl 75 ((addl 75 (addl 75 A11 (n15)) (n2))) (n3))) 77) (((addl 75 ((addl 75 (addl 75 A11 (n15)) (n2))) (n3))) 79) ((n2, n3) :: S.1, S.2.1, S.2.2.1, S.2.2.2 + 1) ∧ fL9 F0 F10 ∧ aL9 A0 ((addl 75 ((addl 75 (addl 75 A11 (n15)) (n2))) (n3))); have ll75 := hS.2.2.1.len; obtain ⟨c1, c2⟩ := add3 (A := A11) (i := 75) (by rw [mo75, ww3 75 (by decide) (by decide)]; omega); refine ⟨?_, fun n hn => ww2 n (Or.inl (by omega)), fun k hk => (c2 _ _ _ k (by omega)).trans (ww3 k (by omega) (by omega))⟩; rw [c1, c2 _ _ _ 66 (by decide), c2 _ _ _ 77 (by decide), c2 _ _ _ 79 (by decide), gg3, ww3 75 (by decide) (by decide), ww3 77 (by decide) (by decide), ww3 79 (by decide) (by decide)]; exact hS.bf ww1)⟩
theorem n_X0_layVariable_65 {h0 : am_h} {F0 : rf_f} {A0 : xl_A} {w1 : Int32} {n1 : Int} (hn1 : w1.toInt = n1) {w2 : Int32} {n2 : Int} (hn2 : w2.toInt = n2)  (S : lST) (hS : LYv (F0 7403) 65 (F0 6505) (F0 6507) (A0 66) (A0 75) (A0 77) (A0 79) (S)) (he : S.2.1.length ≤ 119) (hR : xR h0 F0 A0) : am_Mt 3 3 [.inr (.inr (some 74)), .inl w1, .inl w2] h0 (xQ h0 (fun x F' A' => LYv (F' 7403) 65 (F' 6505) (F' 6507) (A' 66) (A' 75) (A' 77) (A' 79) (S.1, S.2.1 ++ [(n2, gl S.2.2.1 n1)], ssl S.2.2.1 n1 (S.2.1.length : Int), S.2.2.2 + 1) ∧ fL9 F0 F' ∧ aL9 A0 A')) := by
  refine am_Mt.of (D := 2) ?_
  have hI : xI h0 (ob_P h0) h0 0 0 F0 A0 := xI.start hR
  have hL : am_okL h0.length (am_args 0 [.inr (.inr (some 74)), .inl w1, .inl w2]) = true := (okA_r hI.T oc74 (okA_i (okA_i okA_n)))
  have f3 : F0 7403 = 65 := hS.1
  refine k_aload 1 rfl rfl rfl ?_
  refine x_gO (τ := 1) hI 4 rfl oc74 rfl rfl rfl rfl (fun r1 (e2 : (r1 : Int) = F0 7403) o3 => ?_)
  obtain rfl : r1 = 65 := by omega
  refine k_push 5 rfl rfl ?_
  have hc4 : (5 : Int32).toInt = 5 := by decide
  refine k_aload 6 rfl rfl rfl ?_
  refine x_gI hI 9 rfl oc74 rfl rfl rfl rfl (fun x5 (e6 : x5.toInt = F0 7404) => ?_)
  refine k_xq hI rfl (n_X1_make_65 hc4 e6  (S.2.2.2) (by exact hS.2.1) hI.1) rfl rfl rfl (hI.T.rc oc65 rfl) hL so_n ?_
  rintro x7 h8 c9 s10 F11 A12 I13 L14 e15
  obtain ⟨n16, q17⟩ : ∃ n : Int, x7.toInt = n := ⟨_, rfl⟩
  try rw [q17] at e15
  show am_Ok _ _ _ (12, _, [.inl x7], _, c9, s10) _
  obtain ⟨ww1, ww2, ww3⟩ := e15
  have gg3 := ww2 7403 (Or.inr (by omega))
  refine k_istore 13 rfl rfl ?_
  refine k_aload 14 rfl (gs_ne rfl rfl rfl) rfl ?_
  refine x_gF 77 I13 17 rfl rfl (by decide) rfl ?_
  refine k_xq I13 rfl (xv_size I13.1 or77) rfl rfl rfl (ty_H.rc3 I13.T or77) (okL_set (i := 3) (v := .inl x7) rfl L14) so_n ?_
  rintro x18 h19 c20 s21 F22 A23 I24 L25 ⟨e26, k27, k28⟩
  replace k27 := k27.symm
  subst k27
  replace k28 := k28.symm
  subst k28
  show am_Ok _ _ _ (20, _, [.inl x18], _, c20, s21) _
  refine k_push 21 rfl rfl ?_
  have hc29 : (3 : Int32).toInt = 3 := by decide
  obtain ⟨x30, q31⟩ : ∃ q : Int32, q = x18 / (3 : Int32) := ⟨_, rfl⟩
  have e32 : x30.toInt = ((((A12 77).length : Nat) : Int) / 3) := bx_dv q31 e26 hc29 (by decide) (by omega)
  refine k_divZ x30 22 rfl (by decide) q31.symm rfl ?_
  refine k_istore 24 rfl rfl ?_
  refine k_aload 25 rfl (gs_ne rfl rfl (gs_ne rfl rfl rfl)) rfl ?_
  refine x_gF 77 I24 28 rfl rfl (by decide) rfl ?_
  refine k_push 29 rfl rfl ?_
  have hc33 : (4 : Int32).toInt = 4 := by decide
  refine k_iload 30 rfl (gs_ne rfl rfl gs_eq) rfl ?_
  obtain ⟨x34, q35⟩ : ∃ q : Int32, q = (4 : Int32) * x7 := ⟨_, rfl⟩
  have e36 : x34.toInt = bm (4 * n16) := bm_mul q35 hc33 q17
  refine k_bin x34 31 rfl q35.symm rfl ?_
  refine k_xq I24 rfl (y_add e36 I24.1 or77) rfl rfl rfl (ty_H.rc3 I24.T or77) (okL_set (i := 4) (v := .inl x30) rfl L25) so_n ?_
  rintro x37 h38 c39 s40 F41 A42 I43 L44 ⟨e45, k46, k47⟩
  replace k46 := k46.symm
  subst k46
  replace k47 := k47.symm
  subst k47
  have z48 := iv_01 (x := x37) (by rw [e45]; exact (addr_01))
  show am_Ok _ _ _ (34, _, [.inl x37], _, c39, s40) _
  refine k_pop 35 rfl rfl rfl ?_
  refine k_aload 36 rfl (gs_ne rfl rfl (gs_ne rfl rfl rfl)) rfl ?_
  refine x_gF 77 I43 39 rfl rfl (by decide) rfl ?_
  refine k_iload 40 rfl (gs_ne rfl rfl (gs_ne rfl rfl rfl)) rfl ?_
  refine k_xq I43 rfl (y_add hn2 I43.1 or77) rfl rfl rfl (ty_H.rc3 I43.T or77) L44 so_n ?_
  rintro x49 h50 c51 s52 F53 A54 I55 L56 ⟨e57, k58, k59⟩
  replace k58 := k58.symm
  subst k58
  replace k59 := k59.symm
  subst k59
  have z60 := iv_01 (x := x49) (by rw [e57]; exact (addr_01))
  show am_Ok _ _ _ (43, _, [.inl x49], _, c51, s52) _
  refine k_pop 44 rfl rfl rfl ?_
  refine k_aload 45 rfl (gs_ne rfl rfl (gs_ne rfl rfl rfl)) rfl ?_
  refine x_gF 77 I55 48 rfl rfl (by decide) rfl ?_
  refine k_aload 49 rfl (gs_ne rfl rfl (gs_ne rfl rfl rfl)) rfl ?_
  refine x_gF 79 I55 52 rfl rfl (by decide) rfl ?_
  refine k_iload 53 rfl (gs_ne rfl rfl (gs_ne rfl rfl rfl)) rfl ?_
  refine k_xq I55 rfl (y_get hn1 I55.1 or79) rfl rfl rfl (ty_H.rc3 I55.T or79) L56 (xo_r I55 ol77 so_n) ?_
  rintro x61 h62 c63 s64 F65 A66 I67 L68 ⟨e69, k70, k71⟩
  replace k70 := k70.symm
  subst k70
  replace k71 := k71.symm
  subst k71
  show am_Ok _ _ _ (56, _, [.inl x61, .inr (.inr (some 77))], _, c63, s64) _
  refine k_xq I67 rfl (y_add e69 I67.1 or77) rfl rfl rfl (ty_H.rc3 I67.T or77) L68 so_n ?_
  rintro x72 h73 c74 s75 F76 A77 I78 L79 ⟨e80, k81, k82⟩
  replace k81 := k81.symm
  subst k81
  replace k82 := k82.symm
  subst k82
  have z83 := iv_01 (x := x72) (by rw [e80]; exact (addr_01))
  show am_Ok _ _ _ (59, _, [.inl x72], _, c74, s75) _
  refine k_pop 60 rfl rfl rfl ?_
  refine k_aload 61 rfl (gs_ne rfl rfl (gs_ne rfl rfl rfl)) rfl ?_
  refine x_gF 79 I78 64 rfl rfl (by decide) rfl ?_
  refine k_iload 65 rfl (gs_ne rfl rfl (gs_ne rfl rfl rfl)) rfl ?_
  refine k_iload 67 rfl gs_eq rfl ?_
  refine k_xv I78 rfl (y_set hn1 e32 I78.1 or79) rfl rfl rfl (ty_H.rc3 I78.T or79) L79 so_n ?_
  rintro h85 c86 s87 F88 A89 I90 L91 ⟨k93, k94⟩
  replace k93 := k93.symm
  subst k93
  replace k94 := k94.symm
  subst k94
  show am_Ok _ _ _ (70, _, [], _, c86, s87) _
  refine k_push 71 rfl rfl ?_
  refine k_iload 72 rfl (gs_ne rfl rfl gs_eq) rfl ?_
  obtain ⟨x95, q96⟩ : ∃ q : Int32, q = (4 : Int32) * x7 := ⟨_, rfl⟩
  have e97 : x95.toInt = bm (4 * n16) := bm_mul q96 hc33 q17
  refine k_bin x95 73 rfl q96.symm rfl ?_
  refine k_push 74 rfl rfl ?_
  have hc98 : (1 : Int32).toInt = 1 := by decide
  obtain ⟨x99, q100⟩ : ∃ q : Int32, q = x95 + (1 : Int32) := ⟨_, rfl⟩
  have e101 : x99.toInt = bm (bm (4 * n16) + 1) := bm_add q100 e97 hc98
  refine k_bin x99 75 rfl q100.symm rfl ?_
  exact k_fin rfl rfl ⟨_, _, _, _, _, _, rfl, I90, (by (try rw [e101]); show LYv (F11 7403) 65 (F11 6505) (F11 6507) (((upl ((addl 77 ((addl 77 (addl 77 A12 (bm (4 * n16))) (n2))) (gl ((addl 77 (addl 77 A12 (bm (4 * n16))) (n2)) 79) (n1)))) 79 (ssl ((addl 77 ((addl 77 (addl 77 A12 (bm (4 * n16))) (n2))) (gl ((addl 77 (addl 77 A12 (bm (4 * n16))) (n2)) 79) (n1))) 79) (n1) (((((A12 77).length : Nat) : Int) / 3))))) 66) (((upl ((addl 77 ((addl 77 (addl 77 A12 (bm (4 * n16))) (n2))) (gl ((addl 77 (addl 77 A12 (bm (4 * n16))) (n2)) 79) (n1)))) 79 (ssl ((addl 77 ((addl 77 (addl 77 A12 (bm (4 * n16))) (n2))) (gl ((addl 77 (addl 77 A12 (bm (4 * n16))) (n2)) 79) (n1))) 79) (n1) (((((A12 77).length : Nat) : Int) / 3))))) 75) (((upl ((addl 77 ((addl 77 (addl 77 A12 (bm (4 * n16))) (n2))) (gl ((addl 77 (addl 77 A12 (bm (4 * n16))) (n2)) 79) (n1)))) 79 (ssl ((addl 77 ((addl 77 (addl 77 A12 (bm (4 * n16))) (n2))) (gl ((addl 77 (addl 77 A12 (bm (4 * n16))) (n2)) 79) (n1))) 79) (n1) (((((A12 77).length : Nat) : Int) / 3))))) 77) (((upl ((addl 77 ((addl 77 (addl 77 A12 (bm (4 * n16))) (n2))) (gl ((addl 77 (addl 77 A12 (bm (4 * n16))) (n2)) 79) (n1)))) 79 (ssl ((addl 77 ((addl 77 (addl 77 A12 (bm (4 * n16))) (n2))) (gl ((addl 77 (addl 77 A12 (bm (4 * n16))) (n2)) 79) (n1))) 79) (n1) (((((A12 77).length : Nat) : Int) / 3))))) 79) (S.1, S.2.1 ++ [(n2, gl S.2.2.1 n1)], ssl S.2.2.1 n1 (S.2.1.length : Int), S.2.2.2 + 1) ∧ fL9 F0 F11 ∧ aL9 A0 ((upl ((addl 77 ((addl 77 (addl 77 A12 (bm (4 * n16))) (n2))) (gl ((addl 77 (addl 77 A12 (bm (4 * n16))) (n2)) 79) (n1)))) 79 (ssl ((addl 77 ((addl 77 (addl 77 A12 (bm (4 * n16))) (n2))) (gl ((addl 77 (addl 77 A12 (bm (4 * n16))) (n2)) 79) (n1))) 79) (n1) (((((A12 77).length : Nat) : Int) / 3))))); have ll77 := hS.2.2.2.1.1; obtain ⟨c1, c2⟩ := add3 (A := A12) (i := 77) (by rw [mo77, ww3 77 (by decide) (by decide)]; omega); refine ⟨?_, fun n hn => ww2 n (Or.inl (by omega)), fun k hk => (upl_ne (by omega)).trans ((c2 _ _ _ k (by omega)).trans (ww3 k (by omega) (by omega)))⟩; rw [upl_ne (show 66 ≠ 79 by decide), upl_ne (show 75 ≠ 79 by decide), upl_ne (show 77 ≠ 79 by decide), upl_eq, c2 _ _ _ 66 (by decide), c2 _ _ _ 75 (by decide), c2 _ _ _ 79 (by decide), c1, addl_ne (show 79 ≠ 77 by decide), addl_ne (show 79 ≠ 77 by decide), gg3, ww3 75 (by decide) (by decide), ww3 77 (by decide) (by decide), ww3 79 (by decide) (by decide), hS.e77, hS.2.2.2.2]; exact hS.va ww1)⟩
theorem n_X0_finishFunction_65 {h0 : am_h} {F0 : rf_f} {A0 : xl_A} {w1 : Int32} {n1 : Int} (hn1 : w1.toInt = n1)  (S : lST) (hS : LYv (F0 7403) 65 (F0 6505) (F0 6507) (A0 66) (A0 75) (A0 77) (A0 79) (S)) (hR : xR h0 F0 A0) : am_Mt 3 5 [.inr (.inr (some 74)), .inl w1] h0 (xV h0 (fun F' A' => LYv (F' 7403) 65 (F' 6505) (F' 6507) (A' 66) (A' 75) (A' 77) (A' 79) (S.1, S.2.1, S.2.2.1.dropLast, S.2.2.2 + if S.2.2.1.getLastD 0 = -1 then 1 else 0) ∧ fL9 F0 F' ∧ aL9 A0 A')) := by
  refine am_Mt.of (D := 2) ?_
  have hI : xI h0 (ob_P h0) h0 0 0 F0 A0 := xI.start hR
  have hL : am_okL h0.length (am_args 0 [.inr (.inr (some 74)), .inl w1]) = true := (okA_r hI.T oc74 (okA_i okA_n))
  have f3 : F0 7403 = 65 := hS.1
  have ee79 : A0 79 = S.2.2.1 := hS.2.2.2.2
  refine k_aload 1 rfl rfl rfl ?_
  refine x_gF 79 hI 4 rfl rfl (by decide) rfl ?_
  refine k_xq hI rfl (xv_takeLast hI.1 or79) rfl rfl rfl (ty_H.rc3 hI.T or79) hL so_n ?_
  rintro x1 h2 c3 s4 F5 A6 I7 L8 ⟨e9, k10, k11⟩
  replace k10 := k10.symm
  subst k10
  replace k11 := k11.symm
  subst k11
  show am_Ok _ _ _ (7, _, [.inl x1], _, c3, s4) _
  refine k_istore 8 rfl rfl ?_
  refine k_iload 9 rfl gs_eq rfl ?_
  refine k_push 10 rfl rfl ?_
  have hc12 : (-1 : Int32).toInt = -1 := by decide
  by_cases b13 : x1 = (-1 : Int32)
  · refine k_c2 13 rfl rfl (if_pos b13) ?_
    have b13 : (A0 79).getLastD 0 = (-1) := by have h9 := iv_eq.mp b13; rw [e9] at h9; rw [hc12] at h9; exact h9
    refine k_push 14 rfl rfl ?_
    have hc14 : (4 : Int32).toInt = 4 := by decide
    refine k_aload 15 rfl (gs_ne rfl rfl rfl) rfl ?_
    refine x_gO (τ := 1) I7 18 rfl oc74 rfl rfl rfl rfl (fun r15 (e16 : (r15 : Int) = F0 7403) o17 => ?_)
    obtain rfl : r15 = 65 := by omega
    refine k_push 20 rfl rfl ?_
    have hc18 : (6 : Int32).toInt = 6 := by decide
    refine k_push 21 rfl rfl ?_
    have hc19 : (0 : Int32).toInt = 0 := by decide
    refine k_xq I7 rfl (n_X1_make_65 hc18 hc19  (S.2.2.2) (by exact hS.2.1) I7.1) rfl rfl rfl (I7.T.rc oc65 rfl) (okL_set (i := 2) (v := .inl x1) rfl L8) (so_i so_n) ?_
    rintro x20 h21 c22 s23 F24 A25 I26 L27 e28
    obtain ⟨n29, q30⟩ : ∃ n : Int, x20.toInt = n := ⟨_, rfl⟩
    try rw [q30] at e28
    show am_Ok _ _ _ (24, _, [.inl x20, .inl (4 : Int32)], _, c22, s23) _
    obtain ⟨ww1, ww2, ww3⟩ := e28
    have gg3 := ww2 7403 (Or.inr (by omega))
    have a75 : A25 75 = A0 75 := ww3 75 (by decide) (by decide)
    have a77 : A25 77 = A0 77 := ww3 77 (by decide) (by decide)
    have a79 : A25 79 = (A0 79).dropLast := ww3 79 (by decide) (by decide)
    obtain ⟨x31, q32⟩ : ∃ q : Int32, q = (4 : Int32) * x20 := ⟨_, rfl⟩
    have e33 : x31.toInt = bm (4 * n29) := bm_mul q32 hc14 q30
    refine k_bin x31 25 rfl q32.symm rfl ?_
    refine k_goto 38 rfl rfl ?_
    refine k_istore 39 rfl rfl ?_
    refine k_aload 40 rfl (gs_ne rfl rfl (gs_ne rfl rfl rfl)) rfl ?_
    refine x_gO (τ := 1) I26 43 rfl oc74 rfl rfl rfl rfl (fun r34 (e35 : (r34 : Int) = F24 7403) o36 => ?_)
    obtain rfl : r34 = 65 := by omega
    refine k_iload 44 rfl gs_eq rfl ?_
    refine k_push 45 rfl rfl ?_
    refine k_iload 46 rfl (gs_ne rfl rfl (gs_ne rfl rfl rfl)) rfl ?_
    obtain ⟨x37, q38⟩ : ∃ q : Int32, q = (4 : Int32) * w1 := ⟨_, rfl⟩
    have e39 : x37.toInt = bm (4 * n1) := bm_mul q38 hc14 hn1
    refine k_bin x37 47 rfl q38.symm rfl ?_
    refine k_push 48 rfl rfl ?_
    have hc40 : (2 : Int32).toInt = 2 := by decide
    obtain ⟨x41, q42⟩ : ∃ q : Int32, q = x37 + (2 : Int32) := ⟨_, rfl⟩
    have e43 : x41.toInt = bm (bm (4 * n1) + 2) := bm_add q42 e39 hc40
    refine k_bin x41 49 rfl q42.symm rfl ?_
    refine k_xv I26 rfl (n_X1_link_65 e33 e43   I26.1) rfl rfl rfl (I26.T.rc oc65 rfl) (okL_set (i := 3) (v := .inl x31) rfl L27) so_n ?_
    rintro h45 c46 s47 F48 A49 I50 L51 ⟨k53, k54⟩
    replace k53 : F48 = F24 := k53
    replace k53 := k53.symm
    subst k53
    replace k54 := k54.symm
    subst k54
    show am_Ok _ _ _ (52, _, [], _, c46, s47) _
    exact k_fin rfl rfl ⟨_, _, _, _, _, rfl, I50, (by show LYv (F24 7403) 65 (F24 6505) (F24 6507) (((p_X1_link_65 (bm (4 * n29)) (bm (bm (4 * n1) + 2)) F24 A25).2.2) 66) (((p_X1_link_65 (bm (4 * n29)) (bm (bm (4 * n1) + 2)) F24 A25).2.2) 75) (((p_X1_link_65 (bm (4 * n29)) (bm (bm (4 * n1) + 2)) F24 A25).2.2) 77) (((p_X1_link_65 (bm (4 * n29)) (bm (bm (4 * n1) + 2)) F24 A25).2.2) 79) (S.1, S.2.1, S.2.2.1.dropLast, S.2.2.2 + if S.2.2.1.getLastD 0 = -1 then 1 else 0) ∧ fL9 F0 F24 ∧ aL9 A0 ((p_X1_link_65 (bm (4 * n29)) (bm (bm (4 * n1) + 2)) F24 A25).2.2); refine ⟨?_, fun n hn => ww2 n (Or.inl (by omega)), fun k hk => (lk_65 (by omega)).trans ((ww3 k (by omega) (by omega)).trans (upl_ne (by omega)))⟩; show LYv (F24 7403) 65 (F24 6505) (F24 6507) (A25 66) (A25 75) (A25 77) (A25 79) _; rw [gg3, a75, a77, a79]; exact hS.ff1 ww1 (by rw [← ee79]; exact b13))⟩
  · refine k_c2 28 rfl rfl (if_neg b13) ?_
    have b13 : ¬ ((A0 79).getLastD 0 = (-1)) := by have h9 := mt iv_eq.mpr b13; rw [e9] at h9; rw [hc12] at h9; exact h9
    refine k_aload 29 rfl (gs_ne rfl rfl rfl) rfl ?_
    refine x_gF 77 I7 32 rfl rfl (by decide) rfl ?_
    refine k_push 33 rfl rfl ?_
    have hc55 : (3 : Int32).toInt = 3 := by decide
    refine k_iload 34 rfl gs_eq rfl ?_
    obtain ⟨x56, q57⟩ : ∃ q : Int32, q = (3 : Int32) * x1 := ⟨_, rfl⟩
    have e58 : x56.toInt = bm (3 * (A0 79).getLastD 0) := bm_mul q57 hc55 e9
    refine k_bin x56 35 rfl q57.symm rfl ?_
    refine k_xq I7 rfl (y_get e58 I7.1 or77) rfl rfl rfl (ty_H.rc3 I7.T or77) (okL_set (i := 2) (v := .inl x1) rfl L8) so_n ?_
    rintro x59 h60 c61 s62 F63 A64 I65 L66 ⟨e67, k68, k69⟩
    replace k68 := k68.symm
    subst k68
    replace k69 := k69.symm
    subst k69
    show am_Ok _ _ _ (38, _, [.inl x59], _, c61, s62) _
    refine k_istore 39 rfl rfl ?_
    refine k_aload 40 rfl (gs_ne rfl rfl (gs_ne rfl rfl rfl)) rfl ?_
    refine x_gO (τ := 1) I65 43 rfl oc74 rfl rfl rfl rfl (fun r70 (e71 : (r70 : Int) = F0 7403) o72 => ?_)
    obtain rfl : r70 = 65 := by omega
    refine k_iload 44 rfl gs_eq rfl ?_
    refine k_push 45 rfl rfl ?_
    have hc73 : (4 : Int32).toInt = 4 := by decide
    refine k_iload 46 rfl (gs_ne rfl rfl (gs_ne rfl rfl rfl)) rfl ?_
    obtain ⟨x74, q75⟩ : ∃ q : Int32, q = (4 : Int32) * w1 := ⟨_, rfl⟩
    have e76 : x74.toInt = bm (4 * n1) := bm_mul q75 hc73 hn1
    refine k_bin x74 47 rfl q75.symm rfl ?_
    refine k_push 48 rfl rfl ?_
    have hc77 : (2 : Int32).toInt = 2 := by decide
    obtain ⟨x78, q79⟩ : ∃ q : Int32, q = x74 + (2 : Int32) := ⟨_, rfl⟩
    have e80 : x78.toInt = bm (bm (4 * n1) + 2) := bm_add q79 e76 hc77
    refine k_bin x78 49 rfl q79.symm rfl ?_
    refine k_xv I65 rfl (n_X1_link_65 e67 e80   I65.1) rfl rfl rfl (I65.T.rc oc65 rfl) (okL_set (i := 3) (v := .inl x59) rfl L66) so_n ?_
    rintro h82 c83 s84 F85 A86 I87 L88 ⟨k90, k91⟩
    replace k90 : F85 = F0 := k90
    replace k90 := k90.symm
    subst k90
    replace k91 := k91.symm
    subst k91
    show am_Ok _ _ _ (52, _, [], _, c83, s84) _
    exact k_fin rfl rfl ⟨_, _, _, _, _, rfl, I87, (by show LYv (F0 7403) 65 (F0 6505) (F0 6507) (((p_X1_link_65 (gl (A0 77) (bm (3 * (A0 79).getLastD 0))) (bm (bm (4 * n1) + 2)) F0 (upl A0 79 (A0 79).dropLast)).2.2) 66) (((p_X1_link_65 (gl (A0 77) (bm (3 * (A0 79).getLastD 0))) (bm (bm (4 * n1) + 2)) F0 (upl A0 79 (A0 79).dropLast)).2.2) 75) (((p_X1_link_65 (gl (A0 77) (bm (3 * (A0 79).getLastD 0))) (bm (bm (4 * n1) + 2)) F0 (upl A0 79 (A0 79).dropLast)).2.2) 77) (((p_X1_link_65 (gl (A0 77) (bm (3 * (A0 79).getLastD 0))) (bm (bm (4 * n1) + 2)) F0 (upl A0 79 (A0 79).dropLast)).2.2) 79) (S.1, S.2.1, S.2.2.1.dropLast, S.2.2.2 + if S.2.2.1.getLastD 0 = -1 then 1 else 0) ∧ fL9 F0 F0 ∧ aL9 A0 ((p_X1_link_65 (gl (A0 77) (bm (3 * (A0 79).getLastD 0))) (bm (bm (4 * n1) + 2)) F0 (upl A0 79 (A0 79).dropLast)).2.2); refine ⟨?_, fun n hn => rfl, fun k hk => (lk_65 (by omega)).trans (upl_ne (by omega))⟩; show LYv (F0 7403) 65 (F0 6505) (F0 6507) (A0 66) (A0 75) (A0 77) ((A0 79).dropLast) _; exact hS.ff0 (by rw [← ee79]; exact b13))⟩
end
