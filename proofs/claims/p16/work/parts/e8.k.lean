/-! PLAIN in the class, exactly -/
def WE (L : List Int) (n f5 : Int) (c : List Int) : Prop := (f5 = 0 ∧ PLN n.toNat L (some c)) ∨ (f5 = 1 ∧ PLN n.toNat L none)
def WOQ (L : List Int) (n : Int) (F' : rf_f) (A' : xl_A) : Prop := (F' 3202 = 37 ∧ F' 3203 = 39 ∧ WE L n (F' 3205) (A' 37)) ∨ (F' 3202 = 39 ∧ F' 3203 = 37 ∧ WE L n (F' 3205) (A' 39))
def WR (L : List Int) (n f5 r : Int) (c : List Int) : Prop := (f5 = 0 ∧ PLG L c n.toNat r.toNat ∧ wL c ∧ (∀ x, x ∈ c → 0 ≤ x ∧ x ≤ 200 + 1000 * r) ∧ (c.length : Int) ≤ 1000) ∨ (f5 = 1 ∧ PLN n.toNat L none)
def WQ (L : List Int) (n : Int) (F : rf_f) (A : xl_A) : Prop := (F 3202 = 37 ∧ F 3203 = 39 ∧ WR L n (F 3205) (F 3204) (A 37)) ∨ (F 3202 = 39 ∧ F 3203 = 37 ∧ WR L n (F 3205) (F 3204) (A 39))
section PLK
variable {L l b a c c' g P B V Z S R : List Int} {n n1 n2 i v d x r f5 M : Int} {k m : Nat} {A : xl_A}
theorem mo33 : (ob_mo 33).toInt = 1000 := by decide
theorem mo35 : (ob_mo 35).toInt = 1000 := by decide
theorem mo37 : (ob_mo 37).toInt = 1000 := by decide
theorem mo39 : (ob_mo 39).toInt = 1000 := by decide
theorem cutl_0 : cutl l 0 = [] := rfl
theorem dpR_0 (h : c = c) (h0 : n = 0) : dpR n d R = (d, R ++ [d]) := if_pos h0
theorem dpR_1 (h : c = c) (h0 : n = 1) : dpR n d R = (d + 1, R) := (if_neg (by omega)).trans (if_pos h0)
theorem dpR_2 (h0 : ¬ n = 0) (h1 : ¬ n = 1) : dpR n d R = (R.getLastD 0, R.dropLast) := (if_neg h0).trans (if_neg h1)
theorem ad_y (h : ¬ addr k A = 0) : ((A k).length : Int) < (ob_mo k).toInt := by
  unfold addr at h
  split at h
  · assumption
  · exact absurd rfl h
theorem ad_n (h : addr k A = 0) : (ob_mo k).toInt ≤ ((A k).length : Int) := by
  unfold addr at h
  split at h
  · exact absurd h (show ¬ (1 : Int) = 0 by decide)
  · omega
theorem ad_PA (hm : (ob_mo k).toInt = 1000) (cp : ((A k).length : Int) ≤ 1000) : PA (addr k A) (A k) (addl k A v k) [v] := by
  have hl : ((A k ++ [v]).length : Int) = ((A k).length : Int) + 1 := by
    rw [List.length_append]
    rfl
  by_cases z : ((A k).length : Int) < (ob_mo k).toInt
  · refine Or.inl ⟨if_pos z, addl_eq z, by omega⟩
  · exact Or.inr ⟨if_neg z, by omega⟩
theorem PA.zz (h : PA x b a L) (h0 : x = 0) : 1000 < (b.length : Int) + (L.length : Int) := by
  rcases h with ⟨h1, -⟩ | ⟨-, h1⟩
  · omega
  · rw [List.length_append] at h1
    omega
theorem PA.oo (h : PA x b a L) (h0 : ¬ x = 0) : a = b ++ L ∧ (a.length : Int) ≤ 1000 := by
  rcases h with ⟨-, h1, h2⟩ | ⟨h1, -⟩
  · exact ⟨h1, by rw [h1]; exact h2⟩
  · exact absurd h1 h0
theorem keep_no (h0 : 0 ≤ n1) (h1 : n1 ≤ v) (h2 : v < n2) (h3 : n2 ≤ (l.length : Int)) (hc : 1000 ≤ ((b ++ slc l n1 v).length : Int)) : 1000 < ((b ++ slc l n1 n2).length : Int) := by
  have e1 := sl_len (l := l) h0 h1 (by omega)
  have e2 := sl_len (l := l) (j := n2) h0 (by omega) h3
  rw [List.length_append] at hc ⊢
  omega
theorem gl_bd (h : ∀ x, x ∈ l → 0 ≤ x ∧ x ≤ M) (hM : 0 ≤ M) (q : Int) : 0 ≤ gl l q ∧ gl l q ≤ M := by
  by_cases z : 0 ≤ q
  · by_cases z1 : q.toNat < l.length
    · rw [gl_el z z1]
      exact h _ (List.getElem_mem z1)
    · unfold gl
      rw [if_pos z, List.getD_eq_getElem?_getD, List.getElem?_eq_none (by omega)]
      exact ⟨Int.le_refl 0, hM⟩
  · unfold gl
    rw [if_neg z]
    exact ⟨Int.le_refl 0, hM⟩
theorem wo_b1 (e : c = P ++ 0 :: 1 :: (B ++ (V ++ Z))) (hB : wL B) (hi : i = (P.length : Int) + 2) : i + ((btl (c.drop i.toNat) 1 : Nat) : Int) = (P.length : Int) + 2 + (B.length : Int) := by
  subst e
  have h1 : (P ++ [0, 1]).length = P.length + 2 := by rw [List.length_append]; rfl
  have h2 := btl_at (p := P ++ [0, 1]) (t := B) (z := V ++ Z) (i := i) hB (by omega)
  rw [List.append_assoc] at h2
  have h3 : btl ((P ++ 0 :: 1 :: (B ++ (V ++ Z))).drop i.toNat) 1 = B.length := h2
  rw [h3, hi]
theorem wo_b2 (e : c = P ++ 0 :: 1 :: (B ++ (V ++ Z))) (hV : wL V) (hi : i = (P.length : Int) + 2 + (B.length : Int)) : i + ((btl (c.drop i.toNat) 1 : Nat) : Int) = (P.length : Int) + 2 + (B.length : Int) + (V.length : Int) := by
  subst e
  have h1 : (P ++ 0 :: 1 :: B).length = P.length + 2 + B.length := by
    rw [List.length_append, List.length_cons, List.length_cons]
    omega
  have h2 := btl_at (p := P ++ 0 :: 1 :: B) (t := V) (z := Z) (i := i) hV (by omega)
  rw [List.append_assoc] at h2
  have h3 : btl ((P ++ 0 :: 1 :: (B ++ (V ++ Z))).drop i.toNat) 1 = V.length := h2
  rw [h3, hi]
theorem wo_s0 (e : c = P ++ 0 :: 1 :: (B ++ (V ++ Z))) (hi : i = (P.length : Int)) : slc c 0 i = P := by
  subst e
  have h2 := sl_mid (p := []) (q := P) (z := 0 :: 1 :: (B ++ (V ++ Z))) (i := 0) (j := i) rfl (by show i = ((0 : Nat) : Int) + (P.length : Int); omega)
  exact h2
theorem wo_s1 {j : Int} (e : c = P ++ 0 :: 1 :: (B ++ (V ++ Z))) (hi : i = (P.length : Int) + 2) (hj : j = (P.length : Int) + 2 + (B.length : Int)) : slc c i j = B := by
  subst e
  have h1 : (P ++ [0, 1]).length = P.length + 2 := by rw [List.length_append]; rfl
  have h2 := sl_mid (p := P ++ [0, 1]) (q := B) (z := V ++ Z) (i := i) (j := j) (by omega) (by omega)
  rw [List.append_assoc] at h2
  exact h2
theorem wo_s2 {j : Int} (e : c = P ++ 0 :: 1 :: (B ++ (V ++ Z))) (hi : i = (P.length : Int) + 2 + (B.length : Int)) (hj : j = (P.length : Int) + 2 + (B.length : Int) + (V.length : Int)) : slc c i j = V := by
  subst e
  have h1 : (P ++ 0 :: 1 :: B).length = P.length + 2 + B.length := by
    rw [List.length_append, List.length_cons, List.length_cons]
    omega
  have h2 := sl_mid (p := P ++ 0 :: 1 :: B) (q := V) (z := Z) (i := i) (j := j) (by omega) (by omega)
  rw [List.append_assoc] at h2
  exact h2
theorem wo_s3 {j : Int} (e : c = P ++ 0 :: 1 :: (B ++ (V ++ Z))) (hi : i = (P.length : Int) + 2 + (B.length : Int) + (V.length : Int)) (hj : j = (c.length : Int)) : slc c i j = Z := by
  have hl : c.length = P.length + B.length + V.length + Z.length + 2 := by rw [e]; exact wo_len
  subst e
  have h1 : (P ++ 0 :: 1 :: (B ++ V)).length = P.length + 2 + B.length + V.length := by
    rw [List.length_append, List.length_cons, List.length_cons, List.length_append]
    omega
  have h2 := sl_mid (p := P ++ 0 :: 1 :: (B ++ V)) (q := Z) (z := []) (i := i) (j := j) (by omega) (by omega)
  rw [List.append_nil, List.append_assoc] at h2
  have h3 : (0 :: 1 :: (B ++ V) : List Int) ++ Z = 0 :: 1 :: (B ++ (V ++ Z)) := by
    show 0 :: 1 :: ((B ++ V) ++ Z) = _
    rw [List.append_assoc]
  rw [h3] at h2
  exact h2
theorem wo_f1 (h : 1000 < (P.length : Int)) : 1000 < ((P ++ (S ++ Z)).length : Int) := by
  rw [List.length_append]
  omega
theorem wo_f2 (h : 1000 < (P.length : Int) + (S.length : Int)) : 1000 < ((P ++ (S ++ Z)).length : Int) := by
  rw [List.length_append, List.length_append]
  omega
theorem wo_f3 (h : 1000 < ((P ++ S).length : Int) + (Z.length : Int)) : 1000 < ((P ++ (S ++ Z)).length : Int) := by
  rw [List.length_append] at h
  rw [List.length_append, List.length_append]
  omega
theorem WR.ok (h1 : PLG L c n.toNat r.toNat) (h2 : wL c) (h3 : ∀ x, x ∈ c → 0 ≤ x ∧ x ≤ 200 + 1000 * r) (h4 : (c.length : Int) ≤ 1000) (hr : 0 ≤ r ∧ r < n) (hd : RD c c') (hl : (c'.length : Int) ≤ 1000) : WR L n 0 (r + 1) c' := by
  refine Or.inl ⟨rfl, ?_, hd.wl h2 (fun x hx => (h3 x hx).1), fun x hx => ?_, hl⟩
  · rw [show (r + 1).toNat = r.toNat + 1 by omega]
    exact h1.go (by omega) hd hl
  · have h9 := hd.ub h3 h4 x hx
    omega
theorem WR.no (h1 : PLG L c n.toNat r.toNat) (hr : 0 ≤ r ∧ r < n) (hd : RD c c') (hl : 1000 < (c'.length : Int)) {r' : Int} {c9 : List Int} : WR L n 1 r' c9 := Or.inr ⟨rfl, h1.over (by omega) hd hl⟩
theorem WR.end1 (h : WR L n f5 r c) (hr : n ≤ r) : WE L n f5 c := by
  rcases h with ⟨h1, h2, -⟩ | ⟨h1, h2⟩
  · exact Or.inl ⟨h1, h2.fin (by omega)⟩
  · exact Or.inr ⟨h1, h2⟩
theorem WR.end2 (h : WR L n f5 r c) (h5 : ¬ f5 = 0) : WE L n f5 c := Or.inr (h.resolve_left (fun z => h5 z.1))
theorem WR.get (h : WR L n f5 r c) (h5 : f5 = 0) : PLG L c n.toNat r.toNat ∧ wL c ∧ (∀ x, x ∈ c → 0 ≤ x ∧ x ≤ 200 + 1000 * r) ∧ (c.length : Int) ≤ 1000 := (h.resolve_right (fun z => by
  have := z.1
  omega)).2
theorem frd_ge : frd l = -1 ∨ 0 ≤ frd l := (frd_sp (l := l)).elim (fun z => Or.inl z.1) (fun z => by
  obtain ⟨q, h9, -⟩ := z
  exact Or.inr (by omega))
end PLK
section
def p_X9_isRedex_37 (n2 : Int) (F0 : rf_f) (A0 : xl_A) : Int × rf_f × xl_A := if (((A0 37).length : Nat) : Int) ≤ (n2 + 1) then (0, F0, A0) else if gl (A0 37) (n2) = 0 then if gl (A0 37) ((n2 + 1)) = 1 then (1, F0, A0) else (0, F0, A0) else (0, F0, A0)
theorem z_X9_isRedex_37 {n2 : Int} {F0 : rf_f} {A0 : xl_A} : (p_X9_isRedex_37 n2 F0 A0).1 = 0 ∨ (p_X9_isRedex_37 n2 F0 A0).1 = 1 := by
  unfold p_X9_isRedex_37
  repeat' split
  all_goals first | exact Or.inl rfl | exact Or.inr rfl
theorem n_X9_isRedex_37 {h0 : am_h} {F0 : rf_f} {A0 : xl_A} {w2 : Int32} {n2 : Int} (hn2 : w2.toInt = n2)  (hd : 0 ≤ n2 ∧ n2 ≤ 1000000) (hR : xR h0 F0 A0) : am_Mt 2 155 [.inr (.inr (some 37)), .inl w2] h0 (xQ h0 (fun x F' A' => x = (p_X9_isRedex_37 n2 F0 A0).1 ∧ F' = (p_X9_isRedex_37 n2 F0 A0).2.1 ∧ A' = (p_X9_isRedex_37 n2 F0 A0).2.2)) := by
  refine am_Mt.of (D := 1) ?_
  have hI : xI h0 (ob_P h0) h0 0 0 F0 A0 := xI.start hR
  have hL : am_okL h0.length (am_args 0 [.inr (.inr (some 37)), .inl w2]) = true := (okA_r hI.T ol37 (okA_i okA_n))
  refine k_iload 1 rfl rfl rfl ?_
  refine k_push 2 rfl rfl ?_
  have hc1 : (1 : Int32).toInt = 1 := by decide
  obtain ⟨x2, q3⟩ : ∃ q : Int32, q = w2 + (1 : Int32) := ⟨_, rfl⟩
  have e4 : x2.toInt = (n2 + 1) := bx_add q3 hn2 hc1 (by omega) (by omega)
  refine k_bin x2 3 rfl q3.symm rfl ?_
  refine k_aload 4 rfl rfl rfl ?_
  refine k_xq hI rfl (xv_size hI.1 or37) rfl rfl rfl (ty_H.rc3 hI.T or37) hL (so_i so_n) ?_
  rintro x5 h6 c7 s8 F9 A10 I11 L12 ⟨e13, k14, k15⟩
  replace k14 := k14.symm
  subst k14
  replace k15 := k15.symm
  subst k15
  show am_Ok _ _ _ (7, _, [.inl x5, .inl x2], _, c7, s8) _
  by_cases b16 : x5 ≤ x2
  · refine k_c2 33 rfl rfl (if_pos b16) ?_
    have b16 : (((A0 37).length : Nat) : Int) ≤ (n2 + 1) := by have h9 := iv_le.mp b16; rw [e4] at h9; rw [e13] at h9; exact h9
    refine k_push 34 rfl rfl ?_
    have hc17 : (0 : Int32).toInt = 0 := by decide
    exact k_fin rfl (fin_Z (Or.inl rfl)) ⟨_, _, _, _, _, _, rfl, I11, (by unfold p_X9_isRedex_37; rw [if_pos b16]; exact hc17), (by unfold p_X9_isRedex_37; rw [if_pos b16]), (by unfold p_X9_isRedex_37; rw [if_pos b16])⟩
  · refine k_c2 10 rfl rfl (if_neg b16) ?_
    have b16 : ¬ ((((A0 37).length : Nat) : Int) ≤ (n2 + 1)) := by have h9 := mt iv_le.mpr b16; rw [e4] at h9; rw [e13] at h9; exact h9
    refine k_aload 11 rfl rfl rfl ?_
    refine k_iload 12 rfl rfl rfl ?_
    refine k_xq I11 rfl (y_get hn2 I11.1 or37) rfl rfl rfl (ty_H.rc3 I11.T or37) L12 so_n ?_
    rintro x18 h19 c20 s21 F22 A23 I24 L25 ⟨e26, k27, k28⟩
    replace k27 := k27.symm
    subst k27
    replace k28 := k28.symm
    subst k28
    show am_Ok _ _ _ (15, _, [.inl x18], _, c20, s21) _
    by_cases b29 : x18 = 0
    · refine k_c1 18 rfl rfl (if_pos b29) ?_
      have b29 : gl (A0 37) (n2) = 0 := by have h9 := iv_eq0.mp b29; rw [e26] at h9; exact h9
      refine k_aload 19 rfl rfl rfl ?_
      refine k_iload 20 rfl rfl rfl ?_
      refine k_push 21 rfl rfl ?_
      obtain ⟨x30, q31⟩ : ∃ q : Int32, q = w2 + (1 : Int32) := ⟨_, rfl⟩
      have e32 : x30.toInt = (n2 + 1) := bx_add q31 hn2 hc1 (by omega) (by omega)
      refine k_bin x30 22 rfl q31.symm rfl ?_
      refine k_xq I24 rfl (y_get e32 I24.1 or37) rfl rfl rfl (ty_H.rc3 I24.T or37) L25 so_n ?_
      rintro x33 h34 c35 s36 F37 A38 I39 L40 ⟨e41, k42, k43⟩
      replace k42 := k42.symm
      subst k42
      replace k43 := k43.symm
      subst k43
      show am_Ok _ _ _ (25, _, [.inl x33], _, c35, s36) _
      refine k_push 26 rfl rfl ?_
      by_cases b44 : x33 = (1 : Int32)
      · refine k_c2 29 rfl rfl (if_pos b44) ?_
        have b44 : gl (A0 37) ((n2 + 1)) = 1 := by have h9 := iv_eq.mp b44; rw [e41] at h9; rw [hc1] at h9; exact h9
        refine k_push 30 rfl rfl ?_
        refine k_goto 34 rfl rfl ?_
        exact k_fin rfl (fin_Z (Or.inr rfl)) ⟨_, _, _, _, _, _, rfl, I39, (by unfold p_X9_isRedex_37; rw [if_neg b16, if_pos b29, if_pos b44]; exact hc1), (by unfold p_X9_isRedex_37; rw [if_neg b16, if_pos b29, if_pos b44]), (by unfold p_X9_isRedex_37; rw [if_neg b16, if_pos b29, if_pos b44])⟩
      · refine k_c2 33 rfl rfl (if_neg b44) ?_
        have b44 : ¬ (gl (A0 37) ((n2 + 1)) = 1) := by have h9 := mt iv_eq.mpr b44; rw [e41] at h9; rw [hc1] at h9; exact h9
        refine k_push 34 rfl rfl ?_
        have hc45 : (0 : Int32).toInt = 0 := by decide
        exact k_fin rfl (fin_Z (Or.inl rfl)) ⟨_, _, _, _, _, _, rfl, I39, (by unfold p_X9_isRedex_37; rw [if_neg b16, if_pos b29, if_neg b44]; exact hc45), (by unfold p_X9_isRedex_37; rw [if_neg b16, if_pos b29, if_neg b44]), (by unfold p_X9_isRedex_37; rw [if_neg b16, if_pos b29, if_neg b44])⟩
    · refine k_c1 33 rfl rfl (if_neg b29) ?_
      have b29 : ¬ (gl (A0 37) (n2) = 0) := by have h9 := mt iv_eq0.mpr b29; rw [e26] at h9; exact h9
      refine k_push 34 rfl rfl ?_
      have hc46 : (0 : Int32).toInt = 0 := by decide
      exact k_fin rfl (fin_Z (Or.inl rfl)) ⟨_, _, _, _, _, _, rfl, I24, (by unfold p_X9_isRedex_37; rw [if_neg b16, if_neg b29]; exact hc46), (by unfold p_X9_isRedex_37; rw [if_neg b16, if_neg b29]), (by unfold p_X9_isRedex_37; rw [if_neg b16, if_neg b29])⟩
theorem f_X9_isRedex_37 {n2 : Int} {F0 : rf_f} {A0 : xl_A} : (p_X9_isRedex_37 n2 F0 A0).2.1 = F0 ∧ (p_X9_isRedex_37 n2 F0 A0).2.2 = A0 := by
  unfold p_X9_isRedex_37
  repeat' split
  all_goals exact ⟨rfl, rfl⟩
theorem rdn_37 {n : Int} {F : rf_f} {A : xl_A} (h : 0 ≤ n ∧ n ≤ 1000000) (e : (p_X9_isRedex_37 n F A).1 = 0) : ¬ pr1 (A 37) n.toNat := by
  rw [pr1_gl h.1]
  unfold p_X9_isRedex_37 at e
  (repeat' split at e) <;> first | exact absurd e (show ¬ (1 : Int) = 0 by decide) | exact fun z => by omega
theorem rdy_37 {n : Int} {F : rf_f} {A : xl_A} (h : 0 ≤ n ∧ n ≤ 1000000) (e : ¬ (p_X9_isRedex_37 n F A).1 = 0) : pr1 (A 37) n.toNat := by
  rw [pr1_gl h.1]
  unfold p_X9_isRedex_37 at e
  (repeat' split at e) <;> first | exact absurd rfl e | exact ⟨by omega, by omega, by omega⟩
def p_X2_firstRedex_37 (F0 : rf_f) (A0 : xl_A) : Int × rf_f × xl_A := (frd (A0 37), F0, A0)
theorem yl_X2_firstRedex_37_2 {h0 : am_h} {F0 : rf_f} {A0 : xl_A}   (hn : F0 3202 = 37) : ∀ (n : Nat) {lv : am_l} {h : am_h} {c s : Nat} {u1 : Int32} {v1 : Int}, ((1001 - v1).toNat) = n → am_get lv 0 = some (.inr (.inr (some 32))) → am_get lv 1 = some (.inl u1) → u1.toInt = v1 → xI h0 (ob_P h0) h c s F0 A0 → am_okL h.length lv = true → (0 ≤ v1 ∧ v1 ≤ 1000) → (∀ q : Nat, (q : Int) < v1 → ¬ pr1 (A0 37) q) → am_Ok am_G 2 42 (2, lv, [], h, c, s) (xQ h0 (fun x F' A' => x = (p_X2_firstRedex_37 F0 A0).1 ∧ F' = (p_X2_firstRedex_37 F0 A0).2.1 ∧ A' = (p_X2_firstRedex_37 F0 A0).2.2)) := by
  intro n
  induction n using Nat.strongRecOn with
  | ind n ih =>
    intro lv h c s u1 v1   hm g0 g1 hv1 hI hL i1 i3
    have cp37 := hI.cap or37
    rw [mo37] at cp37
    refine k_iload 3 rfl g1 rfl ?_
    refine k_aload 4 rfl g0 rfl ?_
    refine x_gO (τ := 3) hI 7 rfl oc32 rfl rfl rfl rfl (fun r1 (e2 : (r1 : Int) = F0 3202) o3 => ?_)
    obtain rfl : r1 = 37 := by omega
    refine k_xq hI rfl (xv_size hI.1 or37) rfl rfl rfl (ty_H.rc3 hI.T or37) hL (so_i so_n) ?_
    rintro x4 h5 c6 s7 F8 A9 I10 L11 ⟨e12, k13, k14⟩
    replace k13 := k13.symm
    subst k13
    replace k14 := k14.symm
    subst k14
    show am_Ok _ _ _ (10, _, [.inl x4, .inl u1], _, c6, s7) _
    by_cases b15 : x4 ≤ u1
    · refine k_c2 32 rfl rfl (if_pos b15) ?_
      have b15 : (((A0 37).length : Nat) : Int) ≤ v1 := by have h9 := iv_le.mp b15; rw [hv1] at h9; rw [e12] at h9; exact h9
      refine k_push 33 rfl rfl ?_
      have hc16 : (-1 : Int32).toInt = -1 := by decide
      exact k_fin rfl rfl ⟨_, _, _, _, _, _, rfl, I10, hc16.trans ((pr1_fn i3 (by omega)).symm), rfl, rfl⟩
    · refine k_c2 13 rfl rfl (if_neg b15) ?_
      have b15 : ¬ ((((A0 37).length : Nat) : Int) ≤ v1) := by have h9 := mt iv_le.mpr b15; rw [hv1] at h9; rw [e12] at h9; exact h9
      refine k_aload 14 rfl g0 rfl ?_
      refine x_gO (τ := 3) I10 17 rfl oc32 rfl rfl rfl rfl (fun r17 (e18 : (r17 : Int) = F0 3202) o19 => ?_)
      obtain rfl : r17 = 37 := by omega
      refine k_iload 18 rfl g1 rfl ?_
      refine k_xq I10 rfl (n_X9_isRedex_37 hv1  (by omega) I10.1) rfl rfl rfl rfl L11 so_n ?_
      rintro x20 h21 c22 s23 F24 A25 I26 L27 ⟨e28, k29, k30⟩
      replace k29 := k29.trans f_X9_isRedex_37.1
      replace k30 := k30.trans f_X9_isRedex_37.2
      replace k29 := k29.symm
      subst k29
      replace k30 := k30.symm
      subst k30
      have z31 := iv_01 (x := x20) (by rw [e28]; exact z_X9_isRedex_37)
      show am_Ok _ _ _ (21, _, [.inl x20], _, c22, s23) _
      by_cases b32 : x20 = 0
      · refine k_c1 26 rfl rfl (if_pos b32) ?_
        have b32 : (p_X9_isRedex_37 v1 F0 A0).1 = 0 := by have h9 := iv_eq0.mp b32; rw [e28] at h9; exact h9
        have hn9 : ¬ pr1 (A0 37) v1.toNat := rdn_37 (by omega) b32
        have hc33 : (1 : Int32).toInt = 1 := by decide
        obtain ⟨x34, q35⟩ : ∃ q : Int32, q = u1 + (1 : Int32) := ⟨_, rfl⟩
        have e36 : x34.toInt = (v1 + 1) := bx_add q35 hv1 hc33 (by omega) (by omega)
        refine k_iinc x34 29 rfl g1 q35.symm rfl ?_
        refine k_goto 2 rfl rfl ?_
        exact ih _ (by omega)  (v1 := (v1 + 1)) rfl (gs_ne rfl rfl g0) gs_eq e36 I26 (okL_set (i := 1) (v := .inl x34) rfl L27) (by omega) (pr1_up i3 rfl (by omega) hn9)
      · refine k_c1 24 rfl rfl (if_neg b32) ?_
        have b32 : ¬ ((p_X9_isRedex_37 v1 F0 A0).1 = 0) := by have h9 := mt iv_eq0.mpr b32; rw [e28] at h9; exact h9
        have hy9 : pr1 (A0 37) v1.toNat := rdy_37 (by omega) b32
        refine k_iload 25 rfl g1 rfl ?_
        exact k_fin rfl rfl ⟨_, _, _, _, _, _, rfl, I26, hv1.trans ((pr1_fy i3 (by omega) hy9).symm), rfl, rfl⟩
theorem n_X2_firstRedex_37 {h0 : am_h} {F0 : rf_f} {A0 : xl_A}   (hn : F0 3202 = 37) (hR : xR h0 F0 A0) : am_Mt 3 42 [.inr (.inr (some 32))] h0 (xQ h0 (fun x F' A' => x = (p_X2_firstRedex_37 F0 A0).1 ∧ F' = (p_X2_firstRedex_37 F0 A0).2.1 ∧ A' = (p_X2_firstRedex_37 F0 A0).2.2)) := by
  refine am_Mt.of (D := 2) ?_
  have hI : xI h0 (ob_P h0) h0 0 0 F0 A0 := xI.start hR
  have hL : am_okL h0.length (am_args 0 [.inr (.inr (some 32))]) = true := (okA_r hI.T oc32 okA_n)
  refine k_push 1 rfl rfl ?_
  have hc37 : (0 : Int32).toInt = 0 := by decide
  refine k_istore 2 rfl rfl ?_
  exact yl_X2_firstRedex_37_2   hn _  (v1 := 0) rfl (gs_ne rfl rfl rfl) gs_eq hc37 hI (okL_set (i := 1) (v := .inl (0 : Int32)) rfl hL) (by omega) (fun q hq => (by exfalso; omega))
def p_X2_behindTerm_37 (n1 : Int) (F0 : rf_f) (A0 : xl_A) : Int × rf_f × xl_A := (n1 + ((btl ((A0 37).drop n1.toNat) 1 : Nat) : Int), F0, A0)
theorem yl_X2_behindTerm_37_4 {h0 : am_h} {F0 : rf_f} {A0 : xl_A} {w1 : Int32} {n1 : Int} (hn1 : w1.toInt = n1)  (hn : F0 3202 = 37) (hp : 0 ≤ n1 ∧ n1 ≤ 1000) : ∀ (n : Nat) {lv : am_l} {h : am_h} {c s : Nat} {u2 : Int32} {v2 : Int} {u3 : Int32} {v3 : Int}, ((1001 - v3).toNat) = n → am_get lv 0 = some (.inr (.inr (some 32))) → am_get lv 2 = some (.inl u2) → am_get lv 3 = some (.inl u3) → u2.toInt = v2 → u3.toInt = v3 → xI h0 (ob_P h0) h c s F0 A0 → am_okL h.length lv = true → (n1 ≤ v3 ∧ (v3 ≤ n1 ∨ v3 ≤ ((A0 37).length : Int))) → (v2 ≤ 1 + (v3 - n1) ∧ -1000000 ≤ v2 + (v3 - n1)) → (v3 + ((btl ((A0 37).drop v3.toNat) v2 : Nat) : Int) = n1 + ((btl ((A0 37).drop n1.toNat) 1 : Nat) : Int)) → am_Ok am_G 1 43 (4, lv, [], h, c, s) (xQ h0 (fun x F' A' => x = (p_X2_behindTerm_37 n1 F0 A0).1 ∧ F' = (p_X2_behindTerm_37 n1 F0 A0).2.1 ∧ A' = (p_X2_behindTerm_37 n1 F0 A0).2.2)) := by
  intro n
  induction n using Nat.strongRecOn with
  | ind n ih =>
    intro lv h c s u2 v2 u3 v3   hm g0 g2 g3 hv2 hv3 hI hL i1 i2 i3
    have cp37 := hI.cap or37
    rw [mo37] at cp37
    refine k_iload 5 rfl g2 rfl ?_
    by_cases b1 : u2 ≤ 0
    · refine k_c1 58 rfl rfl (if_pos b1) ?_
      have b1 : v2 ≤ 0 := by have h9 := iv_le0.mp b1; rw [hv2] at h9; exact h9
      refine k_iload 59 rfl g3 rfl ?_
      exact k_fin rfl rfl ⟨_, _, _, _, _, _, rfl, hI, hv3.trans ((by have h9 : btl ((A0 37).drop v3.toNat) v2 = 0 := (by first | exact btl_0 (by omega) | exact btl_e (by omega)); show v3 = n1 + ((btl ((A0 37).drop n1.toNat) 1 : Nat) : Int); omega)), rfl, rfl⟩
    · refine k_c1 8 rfl rfl (if_neg b1) ?_
      have b1 : ¬ (v2 ≤ 0) := by have h9 := mt iv_le0.mpr b1; rw [hv2] at h9; exact h9
      refine k_iload 9 rfl g3 rfl ?_
      refine k_aload 10 rfl g0 rfl ?_
      refine x_gO (τ := 3) hI 13 rfl oc32 rfl rfl rfl rfl (fun r2 (e3 : (r2 : Int) = F0 3202) o4 => ?_)
      obtain rfl : r2 = 37 := by omega
      refine k_xq hI rfl (xv_size hI.1 or37) rfl rfl rfl (ty_H.rc3 hI.T or37) hL (so_i so_n) ?_
      rintro x5 h6 c7 s8 F9 A10 I11 L12 ⟨e13, k14, k15⟩
      replace k14 := k14.symm
      subst k14
      replace k15 := k15.symm
      subst k15
      show am_Ok _ _ _ (16, _, [.inl x5, .inl u3], _, c7, s8) _
      by_cases b16 : x5 ≤ u3
      · refine k_c2 58 rfl rfl (if_pos b16) ?_
        have b16 : (((A0 37).length : Nat) : Int) ≤ v3 := by have h9 := iv_le.mp b16; rw [hv3] at h9; rw [e13] at h9; exact h9
        refine k_iload 59 rfl g3 rfl ?_
        exact k_fin rfl rfl ⟨_, _, _, _, _, _, rfl, I11, hv3.trans ((by have h9 : btl ((A0 37).drop v3.toNat) v2 = 0 := (by first | exact btl_0 (by omega) | exact btl_e (by omega)); show v3 = n1 + ((btl ((A0 37).drop n1.toNat) 1 : Nat) : Int); omega)), rfl, rfl⟩
      · refine k_c2 19 rfl rfl (if_neg b16) ?_
        have b16 : ¬ ((((A0 37).length : Nat) : Int) ≤ v3) := by have h9 := mt iv_le.mpr b16; rw [hv3] at h9; rw [e13] at h9; exact h9
        refine k_aload 20 rfl g0 rfl ?_
        refine x_gO (τ := 3) I11 23 rfl oc32 rfl rfl rfl rfl (fun r17 (e18 : (r17 : Int) = F0 3202) o19 => ?_)
        obtain rfl : r17 = 37 := by omega
        refine k_iload 24 rfl g3 rfl ?_
        refine k_xq I11 rfl (y_get hv3 I11.1 or37) rfl rfl rfl (ty_H.rc3 I11.T or37) L12 so_n ?_
        rintro x20 h21 c22 s23 F24 A25 I26 L27 ⟨e28, k29, k30⟩
        replace k29 := k29.symm
        subst k29
        replace k30 := k30.symm
        subst k30
        show am_Ok _ _ _ (27, _, [.inl x20], _, c22, s23) _
        refine k_istore 29 rfl rfl ?_
        refine k_iload 30 rfl (gs_ne rfl rfl g2) rfl ?_
        refine k_iload 32 rfl gs_eq rfl ?_
        by_cases b31 : x20 = 0
        · refine k_c1 35 rfl rfl (if_pos b31) ?_
          have b31 : gl (A0 37) (v3) = 0 := by have h9 := iv_eq0.mp b31; rw [e28] at h9; exact h9
          refine k_push 36 rfl rfl ?_
          have hc32 : (1 : Int32).toInt = 1 := by decide
          refine k_goto 50 rfl rfl ?_
          obtain ⟨x33, q34⟩ : ∃ q : Int32, q = u2 + (1 : Int32) := ⟨_, rfl⟩
          have e35 : x33.toInt = (v2 + 1) := bx_add q34 hv2 hc32 (by omega) (by omega)
          refine k_bin x33 51 rfl q34.symm rfl ?_
          refine k_istore 52 rfl rfl ?_
          have hs9 := btl_s (n := v2) (l := A0 37) (i := v3) (by omega) (by omega) (by omega)
          have hw9 : v2 + ow (gl (A0 37) v3) = (v2 + 1) := by first | (rw [show gl (A0 37) v3 = 0 by omega]; rfl) | (rw [show gl (A0 37) v3 = 1 by omega]; rfl) | rw [ow_v (by omega) (by omega)]
          obtain ⟨x36, q37⟩ : ∃ q : Int32, q = u3 + (1 : Int32) := ⟨_, rfl⟩
          have e38 : x36.toInt = (v3 + 1) := bx_add q37 hv3 hc32 (by omega) (by omega)
          refine k_iinc x36 55 rfl (gs_ne rfl rfl (gs_ne rfl rfl g3)) q37.symm rfl ?_
          refine k_goto 4 rfl rfl ?_
          exact ih _ (by omega)  (v2 := (v2 + 1)) (v3 := (v3 + 1)) rfl (gs_ne rfl rfl (gs_ne rfl rfl (gs_ne rfl rfl g0))) (gs_ne rfl rfl gs_eq) gs_eq e35 e38 I26 (okL_set (i := 3) (v := .inl x36) rfl (okL_set (i := 2) (v := .inl x33) rfl (okL_set (i := 4) (v := .inl x20) rfl L27))) (by omega) (by omega) (by rw [hw9] at hs9; omega)
        · refine k_c1 39 rfl rfl (if_neg b31) ?_
          have b31 : ¬ (gl (A0 37) (v3) = 0) := by have h9 := mt iv_eq0.mpr b31; rw [e28] at h9; exact h9
          refine k_iload 41 rfl gs_eq rfl ?_
          refine k_push 42 rfl rfl ?_
          have hc39 : (1 : Int32).toInt = 1 := by decide
          by_cases b40 : x20 = (1 : Int32)
          · refine k_c2 45 rfl rfl (if_pos b40) ?_
            have b40 : gl (A0 37) (v3) = 1 := by have h9 := iv_eq.mp b40; rw [e28] at h9; rw [hc39] at h9; exact h9
            refine k_push 46 rfl rfl ?_
            have hc41 : (0 : Int32).toInt = 0 := by decide
            refine k_goto 50 rfl rfl ?_
            obtain ⟨x42, q43⟩ : ∃ q : Int32, q = u2 + (0 : Int32) := ⟨_, rfl⟩
            have e44 : x42.toInt = (v2 + 0) := bx_add q43 hv2 hc41 (by omega) (by omega)
            refine k_bin x42 51 rfl q43.symm rfl ?_
            refine k_istore 52 rfl rfl ?_
            have hs9 := btl_s (n := v2) (l := A0 37) (i := v3) (by omega) (by omega) (by omega)
            have hw9 : v2 + ow (gl (A0 37) v3) = (v2 + 0) := by first | (rw [show gl (A0 37) v3 = 0 by omega]; rfl) | (rw [show gl (A0 37) v3 = 1 by omega]; rfl) | rw [ow_v (by omega) (by omega)]
            obtain ⟨x45, q46⟩ : ∃ q : Int32, q = u3 + (1 : Int32) := ⟨_, rfl⟩
            have e47 : x45.toInt = (v3 + 1) := bx_add q46 hv3 hc39 (by omega) (by omega)
            refine k_iinc x45 55 rfl (gs_ne rfl rfl (gs_ne rfl rfl g3)) q46.symm rfl ?_
            refine k_goto 4 rfl rfl ?_
            exact ih _ (by omega)  (v2 := (v2 + 0)) (v3 := (v3 + 1)) rfl (gs_ne rfl rfl (gs_ne rfl rfl (gs_ne rfl rfl g0))) (gs_ne rfl rfl gs_eq) gs_eq e44 e47 I26 (okL_set (i := 3) (v := .inl x45) rfl (okL_set (i := 2) (v := .inl x42) rfl (okL_set (i := 4) (v := .inl x20) rfl L27))) (by omega) (by omega) (by rw [hw9] at hs9; omega)
          · refine k_c2 49 rfl rfl (if_neg b40) ?_
            have b40 : ¬ (gl (A0 37) (v3) = 1) := by have h9 := mt iv_eq.mpr b40; rw [e28] at h9; rw [hc39] at h9; exact h9
            refine k_push 50 rfl rfl ?_
            have hc48 : (-1 : Int32).toInt = -1 := by decide
            obtain ⟨x49, q50⟩ : ∃ q : Int32, q = u2 + (-1 : Int32) := ⟨_, rfl⟩
            have e51 : x49.toInt = (v2 + (-1)) := bx_add q50 hv2 hc48 (by omega) (by omega)
            refine k_bin x49 51 rfl q50.symm rfl ?_
            refine k_istore 52 rfl rfl ?_
            have hs9 := btl_s (n := v2) (l := A0 37) (i := v3) (by omega) (by omega) (by omega)
            have hw9 : v2 + ow (gl (A0 37) v3) = (v2 + (-1)) := by first | (rw [show gl (A0 37) v3 = 0 by omega]; rfl) | (rw [show gl (A0 37) v3 = 1 by omega]; rfl) | rw [ow_v (by omega) (by omega)]
            obtain ⟨x52, q53⟩ : ∃ q : Int32, q = u3 + (1 : Int32) := ⟨_, rfl⟩
            have e54 : x52.toInt = (v3 + 1) := bx_add q53 hv3 hc39 (by omega) (by omega)
            refine k_iinc x52 55 rfl (gs_ne rfl rfl (gs_ne rfl rfl g3)) q53.symm rfl ?_
            refine k_goto 4 rfl rfl ?_
            exact ih _ (by omega)  (v2 := (v2 + (-1))) (v3 := (v3 + 1)) rfl (gs_ne rfl rfl (gs_ne rfl rfl (gs_ne rfl rfl g0))) (gs_ne rfl rfl gs_eq) gs_eq e51 e54 I26 (okL_set (i := 3) (v := .inl x52) rfl (okL_set (i := 2) (v := .inl x49) rfl (okL_set (i := 4) (v := .inl x20) rfl L27))) (by omega) (by omega) (by rw [hw9] at hs9; omega)
theorem n_X2_behindTerm_37 {h0 : am_h} {F0 : rf_f} {A0 : xl_A} {w1 : Int32} {n1 : Int} (hn1 : w1.toInt = n1)  (hn : F0 3202 = 37) (hp : 0 ≤ n1 ∧ n1 ≤ 1000) (hR : xR h0 F0 A0) : am_Mt 2 43 [.inr (.inr (some 32)), .inl w1] h0 (xQ h0 (fun x F' A' => x = (p_X2_behindTerm_37 n1 F0 A0).1 ∧ F' = (p_X2_behindTerm_37 n1 F0 A0).2.1 ∧ A' = (p_X2_behindTerm_37 n1 F0 A0).2.2)) := by
  refine am_Mt.of (D := 1) ?_
  have hI : xI h0 (ob_P h0) h0 0 0 F0 A0 := xI.start hR
  have hL : am_okL h0.length (am_args 0 [.inr (.inr (some 32)), .inl w1]) = true := (okA_r hI.T oc32 (okA_i okA_n))
  refine k_push 1 rfl rfl ?_
  have hc55 : (1 : Int32).toInt = 1 := by decide
  refine k_istore 2 rfl rfl ?_
  refine k_iload 3 rfl (gs_ne rfl rfl rfl) rfl ?_
  refine k_istore 4 rfl rfl ?_
  exact yl_X2_behindTerm_37_4 hn1  hn hp _  (v2 := 1) (v3 := n1) rfl (gs_ne rfl rfl (gs_ne rfl rfl rfl)) (gs_ne rfl rfl gs_eq) gs_eq hc55 hn1 hI (okL_set (i := 3) (v := .inl w1) rfl (okL_set (i := 2) (v := .inl (1 : Int32)) rfl hL)) (by omega) (by omega) (rfl)
theorem yl_X2_keep_37_2 {h0 : am_h} {F0 : rf_f} {A0 : xl_A} {w1 : Int32} {n1 : Int} (hn1 : w1.toInt = n1) {w2 : Int32} {n2 : Int} (hn2 : w2.toInt = n2)  (hn : F0 3202 = 37) (hs : F0 3203 = 39) (hp : 0 ≤ n1 ∧ n1 ≤ n2 ∧ n2 ≤ ((A0 37).length : Int)) : ∀ (n : Nat) {lv : am_l} {h : am_h} {c s : Nat} {u2 : Int32} {v2 : Int} {u3 : Int32} {v3 : Int} {Av : xl_A}, ((1001 - v3).toNat) = n → am_get lv 0 = some (.inr (.inr (some 32))) → am_get lv 2 = some (.inl u2) → am_get lv 3 = some (.inl u3) → u2.toInt = v2 → u3.toInt = v3 → xI h0 (ob_P h0) h c s F0 Av → am_okL h.length lv = true → (v2 = n2 ∧ n1 ≤ v3 ∧ v3 ≤ n2) → (Av 39 = A0 39 ++ slc (A0 37) n1 v3) → (∀ j : Nat, j ≠ 39 → Av j = A0 j) → am_Ok am_G 2 44 (2, lv, [], h, c, s) (xQ h0 (fun x F' A' => ((x : Int) = 0 ∨ (x : Int) = 1) ∧ PA (x) (A0 39) (A' 39) (slc (A0 37) n1 n2) ∧ F' = F0 ∧ ∀ j : Nat, j ≠ 39 → A' j = A0 j)) := by
  intro n
  induction n using Nat.strongRecOn with
  | ind n ih =>
    intro lv h c s u2 v2 u3 v3  Av hm g0 g2 g3 hv2 hv3 hI hL i1 i2 i3
    have ll9 : Av 37 = A0 37 := i3 37 (by decide)
    have cp37 := hI.cap or37
    rw [mo37] at cp37
    have cp39 := hI.cap or39
    rw [mo39] at cp39
    rw [ll9] at cp37
    refine k_iload 3 rfl g3 rfl ?_
    refine k_iload 4 rfl g2 rfl ?_
    by_cases b1 : u2 ≤ u3
    · refine k_c2 33 rfl rfl (if_pos b1) ?_
      have b1 : v2 ≤ v3 := by have h9 := iv_le.mp b1; rw [hv3] at h9; rw [hv2] at h9; exact h9
      refine k_push 34 rfl rfl ?_
      have hc2 : (1 : Int32).toInt = 1 := by decide
      exact k_fin rfl (fin_Z (Or.inr rfl)) ⟨_, _, _, _, _, _, rfl, hI, (by (try rw [hc2]); show ((1 : Int) = 0 ∨ (1 : Int) = 1) ∧ PA (1) (A0 39) (Av 39) (slc (A0 37) n1 n2) ∧ F0 = F0 ∧ ∀ j : Nat, j ≠ 39 → Av j = A0 j; exact ⟨Or.inr rfl, PA.yes rfl (by rw [i2, show v3 = n2 by omega]) cp39, rfl, i3⟩)⟩
    · refine k_c2 7 rfl rfl (if_neg b1) ?_
      have b1 : ¬ (v2 ≤ v3) := by have h9 := mt iv_le.mpr b1; rw [hv3] at h9; rw [hv2] at h9; exact h9
      refine k_aload 8 rfl g0 rfl ?_
      refine x_gO (τ := 3) hI 11 rfl oc32 rfl rfl rfl rfl (fun r3 (e4 : (r3 : Int) = F0 3203) o5 => ?_)
      obtain rfl : r3 = 39 := by omega
      refine k_aload 12 rfl g0 rfl ?_
      refine x_gO (τ := 3) hI 15 rfl oc32 rfl rfl rfl rfl (fun r6 (e7 : (r6 : Int) = F0 3202) o8 => ?_)
      obtain rfl : r6 = 37 := by omega
      refine k_iload 16 rfl g3 rfl ?_
      refine k_xq hI rfl (y_get hv3 hI.1 or37) rfl rfl rfl (ty_H.rc3 hI.T or37) hL (xo_r hI ol39 so_n) ?_
      rintro x9 h10 c11 s12 F13 A14 I15 L16 ⟨e17, k18, k19⟩
      replace k18 := k18.symm
      subst k18
      replace k19 := k19.symm
      subst k19
      show am_Ok _ _ _ (19, _, [.inl x9, .inr (.inr (some 39))], _, c11, s12) _
      refine k_xq I15 rfl (y_add e17 I15.1 or39) rfl rfl rfl (ty_H.rc3 I15.T or39) L16 so_n ?_
      rintro x20 h21 c22 s23 F24 A25 I26 L27 ⟨e28, k29, k30⟩
      replace k29 := k29.symm
      subst k29
      replace k30 := k30.symm
      subst k30
      have z31 := iv_01 (x := x20) (by rw [e28]; exact (addr_01))
      show am_Ok _ _ _ (22, _, [.inl x20], _, c22, s23) _
      by_cases b32 : x20 = 0
      · refine k_c1 25 rfl rfl (if_pos b32) ?_
        have b32 : addr 39 Av = 0 := by have h9 := iv_eq0.mp b32; rw [e28] at h9; exact h9
        refine k_push 26 rfl rfl ?_
        have hc33 : (0 : Int32).toInt = 0 := by decide
        exact k_fin rfl (fin_Z (Or.inl rfl)) ⟨_, _, _, _, _, _, rfl, I26, (by (try rw [hc33]); show ((0 : Int) = 0 ∨ (0 : Int) = 1) ∧ PA (0) (A0 39) (((addl 39 Av (gl (Av 37) (v3)))) 39) (slc (A0 37) n1 n2) ∧ F0 = F0 ∧ ∀ j : Nat, j ≠ 39 → ((addl 39 Av (gl (Av 37) (v3)))) j = A0 j; exact ⟨Or.inl rfl, Or.inr ⟨rfl, keep_no (v := v3) (by omega) (by omega) (by omega) (by omega) (by rw [← i2]; have h9 := ad_n b32; rw [mo39] at h9; exact h9)⟩, rfl, fun j hj => (addl_ne hj).trans (i3 j hj)⟩)⟩
      · refine k_c1 27 rfl rfl (if_neg b32) ?_
        have b32 : ¬ (addr 39 Av = 0) := by have h9 := mt iv_eq0.mpr b32; rw [e28] at h9; exact h9
        have hc34 : (1 : Int32).toInt = 1 := by decide
        obtain ⟨x35, q36⟩ : ∃ q : Int32, q = u3 + (1 : Int32) := ⟨_, rfl⟩
        have e37 : x35.toInt = (v3 + 1) := bx_add q36 hv3 hc34 (by omega) (by omega)
        refine k_iinc x35 30 rfl g3 q36.symm rfl ?_
        refine k_goto 2 rfl rfl ?_
        exact ih _ (by omega)  (Av := (addl 39 Av (gl (Av 37) (v3)))) (v2 := v2) (v3 := (v3 + 1)) rfl (gs_ne rfl rfl g0) (gs_ne rfl rfl g2) gs_eq hv2 e37 I26 (okL_set (i := 3) (v := .inl x35) rfl L27) (by omega) (by rw [addl_eq (ad_y b32), i2, ll9, sl_snoc (by omega) (by omega) (by omega), List.append_assoc]) (fun j hj => (addl_ne hj).trans (i3 j hj))
theorem n_X2_keep_37 {h0 : am_h} {F0 : rf_f} {A0 : xl_A} {w1 : Int32} {n1 : Int} (hn1 : w1.toInt = n1) {w2 : Int32} {n2 : Int} (hn2 : w2.toInt = n2)  (hn : F0 3202 = 37) (hs : F0 3203 = 39) (hp : 0 ≤ n1 ∧ n1 ≤ n2 ∧ n2 ≤ ((A0 37).length : Int)) (hR : xR h0 F0 A0) : am_Mt 3 44 [.inr (.inr (some 32)), .inl w1, .inl w2] h0 (xQ h0 (fun x F' A' => ((x : Int) = 0 ∨ (x : Int) = 1) ∧ PA (x) (A0 39) (A' 39) (slc (A0 37) n1 n2) ∧ F' = F0 ∧ ∀ j : Nat, j ≠ 39 → A' j = A0 j)) := by
  refine am_Mt.of (D := 2) ?_
  have hI : xI h0 (ob_P h0) h0 0 0 F0 A0 := xI.start hR
  have hL : am_okL h0.length (am_args 0 [.inr (.inr (some 32)), .inl w1, .inl w2]) = true := (okA_r hI.T oc32 (okA_i (okA_i okA_n)))
  refine k_iload 1 rfl rfl rfl ?_
  refine k_istore 2 rfl rfl ?_
  exact yl_X2_keep_37_2 hn1 hn2  hn hs hp _  (Av := A0) (v2 := n2) (v3 := n1) rfl (gs_ne rfl rfl rfl) (gs_ne rfl rfl rfl) gs_eq hn2 hn1 hI (okL_set (i := 3) (v := .inl w1) rfl hL) (by omega) (by rw [sl_0 (by omega), List.append_nil]) (fun j hj => rfl)
def p_X9_isRedex_39 (n2 : Int) (F0 : rf_f) (A0 : xl_A) : Int × rf_f × xl_A := if (((A0 39).length : Nat) : Int) ≤ (n2 + 1) then (0, F0, A0) else if gl (A0 39) (n2) = 0 then if gl (A0 39) ((n2 + 1)) = 1 then (1, F0, A0) else (0, F0, A0) else (0, F0, A0)
theorem z_X9_isRedex_39 {n2 : Int} {F0 : rf_f} {A0 : xl_A} : (p_X9_isRedex_39 n2 F0 A0).1 = 0 ∨ (p_X9_isRedex_39 n2 F0 A0).1 = 1 := by
  unfold p_X9_isRedex_39
  repeat' split
  all_goals first | exact Or.inl rfl | exact Or.inr rfl
theorem n_X9_isRedex_39 {h0 : am_h} {F0 : rf_f} {A0 : xl_A} {w2 : Int32} {n2 : Int} (hn2 : w2.toInt = n2)  (hd : 0 ≤ n2 ∧ n2 ≤ 1000000) (hR : xR h0 F0 A0) : am_Mt 2 155 [.inr (.inr (some 39)), .inl w2] h0 (xQ h0 (fun x F' A' => x = (p_X9_isRedex_39 n2 F0 A0).1 ∧ F' = (p_X9_isRedex_39 n2 F0 A0).2.1 ∧ A' = (p_X9_isRedex_39 n2 F0 A0).2.2)) := by
  refine am_Mt.of (D := 1) ?_
  have hI : xI h0 (ob_P h0) h0 0 0 F0 A0 := xI.start hR
  have hL : am_okL h0.length (am_args 0 [.inr (.inr (some 39)), .inl w2]) = true := (okA_r hI.T ol39 (okA_i okA_n))
  refine k_iload 1 rfl rfl rfl ?_
  refine k_push 2 rfl rfl ?_
  have hc1 : (1 : Int32).toInt = 1 := by decide
  obtain ⟨x2, q3⟩ : ∃ q : Int32, q = w2 + (1 : Int32) := ⟨_, rfl⟩
  have e4 : x2.toInt = (n2 + 1) := bx_add q3 hn2 hc1 (by omega) (by omega)
  refine k_bin x2 3 rfl q3.symm rfl ?_
  refine k_aload 4 rfl rfl rfl ?_
  refine k_xq hI rfl (xv_size hI.1 or39) rfl rfl rfl (ty_H.rc3 hI.T or39) hL (so_i so_n) ?_
  rintro x5 h6 c7 s8 F9 A10 I11 L12 ⟨e13, k14, k15⟩
  replace k14 := k14.symm
  subst k14
  replace k15 := k15.symm
  subst k15
  show am_Ok _ _ _ (7, _, [.inl x5, .inl x2], _, c7, s8) _
  by_cases b16 : x5 ≤ x2
  · refine k_c2 33 rfl rfl (if_pos b16) ?_
    have b16 : (((A0 39).length : Nat) : Int) ≤ (n2 + 1) := by have h9 := iv_le.mp b16; rw [e4] at h9; rw [e13] at h9; exact h9
    refine k_push 34 rfl rfl ?_
    have hc17 : (0 : Int32).toInt = 0 := by decide
    exact k_fin rfl (fin_Z (Or.inl rfl)) ⟨_, _, _, _, _, _, rfl, I11, (by unfold p_X9_isRedex_39; rw [if_pos b16]; exact hc17), (by unfold p_X9_isRedex_39; rw [if_pos b16]), (by unfold p_X9_isRedex_39; rw [if_pos b16])⟩
  · refine k_c2 10 rfl rfl (if_neg b16) ?_
    have b16 : ¬ ((((A0 39).length : Nat) : Int) ≤ (n2 + 1)) := by have h9 := mt iv_le.mpr b16; rw [e4] at h9; rw [e13] at h9; exact h9
    refine k_aload 11 rfl rfl rfl ?_
    refine k_iload 12 rfl rfl rfl ?_
    refine k_xq I11 rfl (y_get hn2 I11.1 or39) rfl rfl rfl (ty_H.rc3 I11.T or39) L12 so_n ?_
    rintro x18 h19 c20 s21 F22 A23 I24 L25 ⟨e26, k27, k28⟩
    replace k27 := k27.symm
    subst k27
    replace k28 := k28.symm
    subst k28
    show am_Ok _ _ _ (15, _, [.inl x18], _, c20, s21) _
    by_cases b29 : x18 = 0
    · refine k_c1 18 rfl rfl (if_pos b29) ?_
      have b29 : gl (A0 39) (n2) = 0 := by have h9 := iv_eq0.mp b29; rw [e26] at h9; exact h9
      refine k_aload 19 rfl rfl rfl ?_
      refine k_iload 20 rfl rfl rfl ?_
      refine k_push 21 rfl rfl ?_
      obtain ⟨x30, q31⟩ : ∃ q : Int32, q = w2 + (1 : Int32) := ⟨_, rfl⟩
      have e32 : x30.toInt = (n2 + 1) := bx_add q31 hn2 hc1 (by omega) (by omega)
      refine k_bin x30 22 rfl q31.symm rfl ?_
      refine k_xq I24 rfl (y_get e32 I24.1 or39) rfl rfl rfl (ty_H.rc3 I24.T or39) L25 so_n ?_
      rintro x33 h34 c35 s36 F37 A38 I39 L40 ⟨e41, k42, k43⟩
      replace k42 := k42.symm
      subst k42
      replace k43 := k43.symm
      subst k43
      show am_Ok _ _ _ (25, _, [.inl x33], _, c35, s36) _
      refine k_push 26 rfl rfl ?_
      by_cases b44 : x33 = (1 : Int32)
      · refine k_c2 29 rfl rfl (if_pos b44) ?_
        have b44 : gl (A0 39) ((n2 + 1)) = 1 := by have h9 := iv_eq.mp b44; rw [e41] at h9; rw [hc1] at h9; exact h9
        refine k_push 30 rfl rfl ?_
        refine k_goto 34 rfl rfl ?_
        exact k_fin rfl (fin_Z (Or.inr rfl)) ⟨_, _, _, _, _, _, rfl, I39, (by unfold p_X9_isRedex_39; rw [if_neg b16, if_pos b29, if_pos b44]; exact hc1), (by unfold p_X9_isRedex_39; rw [if_neg b16, if_pos b29, if_pos b44]), (by unfold p_X9_isRedex_39; rw [if_neg b16, if_pos b29, if_pos b44])⟩
      · refine k_c2 33 rfl rfl (if_neg b44) ?_
        have b44 : ¬ (gl (A0 39) ((n2 + 1)) = 1) := by have h9 := mt iv_eq.mpr b44; rw [e41] at h9; rw [hc1] at h9; exact h9
        refine k_push 34 rfl rfl ?_
        have hc45 : (0 : Int32).toInt = 0 := by decide
        exact k_fin rfl (fin_Z (Or.inl rfl)) ⟨_, _, _, _, _, _, rfl, I39, (by unfold p_X9_isRedex_39; rw [if_neg b16, if_pos b29, if_neg b44]; exact hc45), (by unfold p_X9_isRedex_39; rw [if_neg b16, if_pos b29, if_neg b44]), (by unfold p_X9_isRedex_39; rw [if_neg b16, if_pos b29, if_neg b44])⟩
    · refine k_c1 33 rfl rfl (if_neg b29) ?_
      have b29 : ¬ (gl (A0 39) (n2) = 0) := by have h9 := mt iv_eq0.mpr b29; rw [e26] at h9; exact h9
      refine k_push 34 rfl rfl ?_
      have hc46 : (0 : Int32).toInt = 0 := by decide
      exact k_fin rfl (fin_Z (Or.inl rfl)) ⟨_, _, _, _, _, _, rfl, I24, (by unfold p_X9_isRedex_39; rw [if_neg b16, if_neg b29]; exact hc46), (by unfold p_X9_isRedex_39; rw [if_neg b16, if_neg b29]), (by unfold p_X9_isRedex_39; rw [if_neg b16, if_neg b29])⟩
theorem f_X9_isRedex_39 {n2 : Int} {F0 : rf_f} {A0 : xl_A} : (p_X9_isRedex_39 n2 F0 A0).2.1 = F0 ∧ (p_X9_isRedex_39 n2 F0 A0).2.2 = A0 := by
  unfold p_X9_isRedex_39
  repeat' split
  all_goals exact ⟨rfl, rfl⟩
theorem rdn_39 {n : Int} {F : rf_f} {A : xl_A} (h : 0 ≤ n ∧ n ≤ 1000000) (e : (p_X9_isRedex_39 n F A).1 = 0) : ¬ pr1 (A 39) n.toNat := by
  rw [pr1_gl h.1]
  unfold p_X9_isRedex_39 at e
  (repeat' split at e) <;> first | exact absurd e (show ¬ (1 : Int) = 0 by decide) | exact fun z => by omega
theorem rdy_39 {n : Int} {F : rf_f} {A : xl_A} (h : 0 ≤ n ∧ n ≤ 1000000) (e : ¬ (p_X9_isRedex_39 n F A).1 = 0) : pr1 (A 39) n.toNat := by
  rw [pr1_gl h.1]
  unfold p_X9_isRedex_39 at e
  (repeat' split at e) <;> first | exact absurd rfl e | exact ⟨by omega, by omega, by omega⟩
def p_X2_firstRedex_39 (F0 : rf_f) (A0 : xl_A) : Int × rf_f × xl_A := (frd (A0 39), F0, A0)
theorem yl_X2_firstRedex_39_2 {h0 : am_h} {F0 : rf_f} {A0 : xl_A}   (hn : F0 3202 = 39) : ∀ (n : Nat) {lv : am_l} {h : am_h} {c s : Nat} {u1 : Int32} {v1 : Int}, ((1001 - v1).toNat) = n → am_get lv 0 = some (.inr (.inr (some 32))) → am_get lv 1 = some (.inl u1) → u1.toInt = v1 → xI h0 (ob_P h0) h c s F0 A0 → am_okL h.length lv = true → (0 ≤ v1 ∧ v1 ≤ 1000) → (∀ q : Nat, (q : Int) < v1 → ¬ pr1 (A0 39) q) → am_Ok am_G 2 42 (2, lv, [], h, c, s) (xQ h0 (fun x F' A' => x = (p_X2_firstRedex_39 F0 A0).1 ∧ F' = (p_X2_firstRedex_39 F0 A0).2.1 ∧ A' = (p_X2_firstRedex_39 F0 A0).2.2)) := by
  intro n
  induction n using Nat.strongRecOn with
  | ind n ih =>
    intro lv h c s u1 v1   hm g0 g1 hv1 hI hL i1 i3
    have cp39 := hI.cap or39
    rw [mo39] at cp39
    refine k_iload 3 rfl g1 rfl ?_
    refine k_aload 4 rfl g0 rfl ?_
    refine x_gO (τ := 3) hI 7 rfl oc32 rfl rfl rfl rfl (fun r1 (e2 : (r1 : Int) = F0 3202) o3 => ?_)
    obtain rfl : r1 = 39 := by omega
    refine k_xq hI rfl (xv_size hI.1 or39) rfl rfl rfl (ty_H.rc3 hI.T or39) hL (so_i so_n) ?_
    rintro x4 h5 c6 s7 F8 A9 I10 L11 ⟨e12, k13, k14⟩
    replace k13 := k13.symm
    subst k13
    replace k14 := k14.symm
    subst k14
    show am_Ok _ _ _ (10, _, [.inl x4, .inl u1], _, c6, s7) _
    by_cases b15 : x4 ≤ u1
    · refine k_c2 32 rfl rfl (if_pos b15) ?_
      have b15 : (((A0 39).length : Nat) : Int) ≤ v1 := by have h9 := iv_le.mp b15; rw [hv1] at h9; rw [e12] at h9; exact h9
      refine k_push 33 rfl rfl ?_
      have hc16 : (-1 : Int32).toInt = -1 := by decide
      exact k_fin rfl rfl ⟨_, _, _, _, _, _, rfl, I10, hc16.trans ((pr1_fn i3 (by omega)).symm), rfl, rfl⟩
    · refine k_c2 13 rfl rfl (if_neg b15) ?_
      have b15 : ¬ ((((A0 39).length : Nat) : Int) ≤ v1) := by have h9 := mt iv_le.mpr b15; rw [hv1] at h9; rw [e12] at h9; exact h9
      refine k_aload 14 rfl g0 rfl ?_
      refine x_gO (τ := 3) I10 17 rfl oc32 rfl rfl rfl rfl (fun r17 (e18 : (r17 : Int) = F0 3202) o19 => ?_)
      obtain rfl : r17 = 39 := by omega
      refine k_iload 18 rfl g1 rfl ?_
      refine k_xq I10 rfl (n_X9_isRedex_39 hv1  (by omega) I10.1) rfl rfl rfl rfl L11 so_n ?_
      rintro x20 h21 c22 s23 F24 A25 I26 L27 ⟨e28, k29, k30⟩
      replace k29 := k29.trans f_X9_isRedex_39.1
      replace k30 := k30.trans f_X9_isRedex_39.2
      replace k29 := k29.symm
      subst k29
      replace k30 := k30.symm
      subst k30
      have z31 := iv_01 (x := x20) (by rw [e28]; exact z_X9_isRedex_39)
      show am_Ok _ _ _ (21, _, [.inl x20], _, c22, s23) _
      by_cases b32 : x20 = 0
      · refine k_c1 26 rfl rfl (if_pos b32) ?_
        have b32 : (p_X9_isRedex_39 v1 F0 A0).1 = 0 := by have h9 := iv_eq0.mp b32; rw [e28] at h9; exact h9
        have hn9 : ¬ pr1 (A0 39) v1.toNat := rdn_39 (by omega) b32
        have hc33 : (1 : Int32).toInt = 1 := by decide
        obtain ⟨x34, q35⟩ : ∃ q : Int32, q = u1 + (1 : Int32) := ⟨_, rfl⟩
        have e36 : x34.toInt = (v1 + 1) := bx_add q35 hv1 hc33 (by omega) (by omega)
        refine k_iinc x34 29 rfl g1 q35.symm rfl ?_
        refine k_goto 2 rfl rfl ?_
        exact ih _ (by omega)  (v1 := (v1 + 1)) rfl (gs_ne rfl rfl g0) gs_eq e36 I26 (okL_set (i := 1) (v := .inl x34) rfl L27) (by omega) (pr1_up i3 rfl (by omega) hn9)
      · refine k_c1 24 rfl rfl (if_neg b32) ?_
        have b32 : ¬ ((p_X9_isRedex_39 v1 F0 A0).1 = 0) := by have h9 := mt iv_eq0.mpr b32; rw [e28] at h9; exact h9
        have hy9 : pr1 (A0 39) v1.toNat := rdy_39 (by omega) b32
        refine k_iload 25 rfl g1 rfl ?_
        exact k_fin rfl rfl ⟨_, _, _, _, _, _, rfl, I26, hv1.trans ((pr1_fy i3 (by omega) hy9).symm), rfl, rfl⟩
theorem n_X2_firstRedex_39 {h0 : am_h} {F0 : rf_f} {A0 : xl_A}   (hn : F0 3202 = 39) (hR : xR h0 F0 A0) : am_Mt 3 42 [.inr (.inr (some 32))] h0 (xQ h0 (fun x F' A' => x = (p_X2_firstRedex_39 F0 A0).1 ∧ F' = (p_X2_firstRedex_39 F0 A0).2.1 ∧ A' = (p_X2_firstRedex_39 F0 A0).2.2)) := by
  refine am_Mt.of (D := 2) ?_
  have hI : xI h0 (ob_P h0) h0 0 0 F0 A0 := xI.start hR
  have hL : am_okL h0.length (am_args 0 [.inr (.inr (some 32))]) = true := (okA_r hI.T oc32 okA_n)
  refine k_push 1 rfl rfl ?_
  have hc37 : (0 : Int32).toInt = 0 := by decide
  refine k_istore 2 rfl rfl ?_
  exact yl_X2_firstRedex_39_2   hn _  (v1 := 0) rfl (gs_ne rfl rfl rfl) gs_eq hc37 hI (okL_set (i := 1) (v := .inl (0 : Int32)) rfl hL) (by omega) (fun q hq => (by exfalso; omega))
def p_X2_behindTerm_39 (n1 : Int) (F0 : rf_f) (A0 : xl_A) : Int × rf_f × xl_A := (n1 + ((btl ((A0 39).drop n1.toNat) 1 : Nat) : Int), F0, A0)
theorem yl_X2_behindTerm_39_4 {h0 : am_h} {F0 : rf_f} {A0 : xl_A} {w1 : Int32} {n1 : Int} (hn1 : w1.toInt = n1)  (hn : F0 3202 = 39) (hp : 0 ≤ n1 ∧ n1 ≤ 1000) : ∀ (n : Nat) {lv : am_l} {h : am_h} {c s : Nat} {u2 : Int32} {v2 : Int} {u3 : Int32} {v3 : Int}, ((1001 - v3).toNat) = n → am_get lv 0 = some (.inr (.inr (some 32))) → am_get lv 2 = some (.inl u2) → am_get lv 3 = some (.inl u3) → u2.toInt = v2 → u3.toInt = v3 → xI h0 (ob_P h0) h c s F0 A0 → am_okL h.length lv = true → (n1 ≤ v3 ∧ (v3 ≤ n1 ∨ v3 ≤ ((A0 39).length : Int))) → (v2 ≤ 1 + (v3 - n1) ∧ -1000000 ≤ v2 + (v3 - n1)) → (v3 + ((btl ((A0 39).drop v3.toNat) v2 : Nat) : Int) = n1 + ((btl ((A0 39).drop n1.toNat) 1 : Nat) : Int)) → am_Ok am_G 1 43 (4, lv, [], h, c, s) (xQ h0 (fun x F' A' => x = (p_X2_behindTerm_39 n1 F0 A0).1 ∧ F' = (p_X2_behindTerm_39 n1 F0 A0).2.1 ∧ A' = (p_X2_behindTerm_39 n1 F0 A0).2.2)) := by
  intro n
  induction n using Nat.strongRecOn with
  | ind n ih =>
    intro lv h c s u2 v2 u3 v3   hm g0 g2 g3 hv2 hv3 hI hL i1 i2 i3
    have cp39 := hI.cap or39
    rw [mo39] at cp39
    refine k_iload 5 rfl g2 rfl ?_
    by_cases b1 : u2 ≤ 0
    · refine k_c1 58 rfl rfl (if_pos b1) ?_
      have b1 : v2 ≤ 0 := by have h9 := iv_le0.mp b1; rw [hv2] at h9; exact h9
      refine k_iload 59 rfl g3 rfl ?_
      exact k_fin rfl rfl ⟨_, _, _, _, _, _, rfl, hI, hv3.trans ((by have h9 : btl ((A0 39).drop v3.toNat) v2 = 0 := (by first | exact btl_0 (by omega) | exact btl_e (by omega)); show v3 = n1 + ((btl ((A0 39).drop n1.toNat) 1 : Nat) : Int); omega)), rfl, rfl⟩
    · refine k_c1 8 rfl rfl (if_neg b1) ?_
      have b1 : ¬ (v2 ≤ 0) := by have h9 := mt iv_le0.mpr b1; rw [hv2] at h9; exact h9
      refine k_iload 9 rfl g3 rfl ?_
      refine k_aload 10 rfl g0 rfl ?_
      refine x_gO (τ := 3) hI 13 rfl oc32 rfl rfl rfl rfl (fun r2 (e3 : (r2 : Int) = F0 3202) o4 => ?_)
      obtain rfl : r2 = 39 := by omega
      refine k_xq hI rfl (xv_size hI.1 or39) rfl rfl rfl (ty_H.rc3 hI.T or39) hL (so_i so_n) ?_
      rintro x5 h6 c7 s8 F9 A10 I11 L12 ⟨e13, k14, k15⟩
      replace k14 := k14.symm
      subst k14
      replace k15 := k15.symm
      subst k15
      show am_Ok _ _ _ (16, _, [.inl x5, .inl u3], _, c7, s8) _
      by_cases b16 : x5 ≤ u3
      · refine k_c2 58 rfl rfl (if_pos b16) ?_
        have b16 : (((A0 39).length : Nat) : Int) ≤ v3 := by have h9 := iv_le.mp b16; rw [hv3] at h9; rw [e13] at h9; exact h9
        refine k_iload 59 rfl g3 rfl ?_
        exact k_fin rfl rfl ⟨_, _, _, _, _, _, rfl, I11, hv3.trans ((by have h9 : btl ((A0 39).drop v3.toNat) v2 = 0 := (by first | exact btl_0 (by omega) | exact btl_e (by omega)); show v3 = n1 + ((btl ((A0 39).drop n1.toNat) 1 : Nat) : Int); omega)), rfl, rfl⟩
      · refine k_c2 19 rfl rfl (if_neg b16) ?_
        have b16 : ¬ ((((A0 39).length : Nat) : Int) ≤ v3) := by have h9 := mt iv_le.mpr b16; rw [hv3] at h9; rw [e13] at h9; exact h9
        refine k_aload 20 rfl g0 rfl ?_
        refine x_gO (τ := 3) I11 23 rfl oc32 rfl rfl rfl rfl (fun r17 (e18 : (r17 : Int) = F0 3202) o19 => ?_)
        obtain rfl : r17 = 39 := by omega
        refine k_iload 24 rfl g3 rfl ?_
        refine k_xq I11 rfl (y_get hv3 I11.1 or39) rfl rfl rfl (ty_H.rc3 I11.T or39) L12 so_n ?_
        rintro x20 h21 c22 s23 F24 A25 I26 L27 ⟨e28, k29, k30⟩
        replace k29 := k29.symm
        subst k29
        replace k30 := k30.symm
        subst k30
        show am_Ok _ _ _ (27, _, [.inl x20], _, c22, s23) _
        refine k_istore 29 rfl rfl ?_
        refine k_iload 30 rfl (gs_ne rfl rfl g2) rfl ?_
        refine k_iload 32 rfl gs_eq rfl ?_
        by_cases b31 : x20 = 0
        · refine k_c1 35 rfl rfl (if_pos b31) ?_
          have b31 : gl (A0 39) (v3) = 0 := by have h9 := iv_eq0.mp b31; rw [e28] at h9; exact h9
          refine k_push 36 rfl rfl ?_
          have hc32 : (1 : Int32).toInt = 1 := by decide
          refine k_goto 50 rfl rfl ?_
          obtain ⟨x33, q34⟩ : ∃ q : Int32, q = u2 + (1 : Int32) := ⟨_, rfl⟩
          have e35 : x33.toInt = (v2 + 1) := bx_add q34 hv2 hc32 (by omega) (by omega)
          refine k_bin x33 51 rfl q34.symm rfl ?_
          refine k_istore 52 rfl rfl ?_
          have hs9 := btl_s (n := v2) (l := A0 39) (i := v3) (by omega) (by omega) (by omega)
          have hw9 : v2 + ow (gl (A0 39) v3) = (v2 + 1) := by first | (rw [show gl (A0 39) v3 = 0 by omega]; rfl) | (rw [show gl (A0 39) v3 = 1 by omega]; rfl) | rw [ow_v (by omega) (by omega)]
          obtain ⟨x36, q37⟩ : ∃ q : Int32, q = u3 + (1 : Int32) := ⟨_, rfl⟩
          have e38 : x36.toInt = (v3 + 1) := bx_add q37 hv3 hc32 (by omega) (by omega)
          refine k_iinc x36 55 rfl (gs_ne rfl rfl (gs_ne rfl rfl g3)) q37.symm rfl ?_
          refine k_goto 4 rfl rfl ?_
          exact ih _ (by omega)  (v2 := (v2 + 1)) (v3 := (v3 + 1)) rfl (gs_ne rfl rfl (gs_ne rfl rfl (gs_ne rfl rfl g0))) (gs_ne rfl rfl gs_eq) gs_eq e35 e38 I26 (okL_set (i := 3) (v := .inl x36) rfl (okL_set (i := 2) (v := .inl x33) rfl (okL_set (i := 4) (v := .inl x20) rfl L27))) (by omega) (by omega) (by rw [hw9] at hs9; omega)
        · refine k_c1 39 rfl rfl (if_neg b31) ?_
          have b31 : ¬ (gl (A0 39) (v3) = 0) := by have h9 := mt iv_eq0.mpr b31; rw [e28] at h9; exact h9
          refine k_iload 41 rfl gs_eq rfl ?_
          refine k_push 42 rfl rfl ?_
          have hc39 : (1 : Int32).toInt = 1 := by decide
          by_cases b40 : x20 = (1 : Int32)
          · refine k_c2 45 rfl rfl (if_pos b40) ?_
            have b40 : gl (A0 39) (v3) = 1 := by have h9 := iv_eq.mp b40; rw [e28] at h9; rw [hc39] at h9; exact h9
            refine k_push 46 rfl rfl ?_
            have hc41 : (0 : Int32).toInt = 0 := by decide
            refine k_goto 50 rfl rfl ?_
            obtain ⟨x42, q43⟩ : ∃ q : Int32, q = u2 + (0 : Int32) := ⟨_, rfl⟩
            have e44 : x42.toInt = (v2 + 0) := bx_add q43 hv2 hc41 (by omega) (by omega)
            refine k_bin x42 51 rfl q43.symm rfl ?_
            refine k_istore 52 rfl rfl ?_
            have hs9 := btl_s (n := v2) (l := A0 39) (i := v3) (by omega) (by omega) (by omega)
            have hw9 : v2 + ow (gl (A0 39) v3) = (v2 + 0) := by first | (rw [show gl (A0 39) v3 = 0 by omega]; rfl) | (rw [show gl (A0 39) v3 = 1 by omega]; rfl) | rw [ow_v (by omega) (by omega)]
            obtain ⟨x45, q46⟩ : ∃ q : Int32, q = u3 + (1 : Int32) := ⟨_, rfl⟩
            have e47 : x45.toInt = (v3 + 1) := bx_add q46 hv3 hc39 (by omega) (by omega)
            refine k_iinc x45 55 rfl (gs_ne rfl rfl (gs_ne rfl rfl g3)) q46.symm rfl ?_
            refine k_goto 4 rfl rfl ?_
            exact ih _ (by omega)  (v2 := (v2 + 0)) (v3 := (v3 + 1)) rfl (gs_ne rfl rfl (gs_ne rfl rfl (gs_ne rfl rfl g0))) (gs_ne rfl rfl gs_eq) gs_eq e44 e47 I26 (okL_set (i := 3) (v := .inl x45) rfl (okL_set (i := 2) (v := .inl x42) rfl (okL_set (i := 4) (v := .inl x20) rfl L27))) (by omega) (by omega) (by rw [hw9] at hs9; omega)
          · refine k_c2 49 rfl rfl (if_neg b40) ?_
            have b40 : ¬ (gl (A0 39) (v3) = 1) := by have h9 := mt iv_eq.mpr b40; rw [e28] at h9; rw [hc39] at h9; exact h9
            refine k_push 50 rfl rfl ?_
            have hc48 : (-1 : Int32).toInt = -1 := by decide
            obtain ⟨x49, q50⟩ : ∃ q : Int32, q = u2 + (-1 : Int32) := ⟨_, rfl⟩
            have e51 : x49.toInt = (v2 + (-1)) := bx_add q50 hv2 hc48 (by omega) (by omega)
            refine k_bin x49 51 rfl q50.symm rfl ?_
            refine k_istore 52 rfl rfl ?_
            have hs9 := btl_s (n := v2) (l := A0 39) (i := v3) (by omega) (by omega) (by omega)
            have hw9 : v2 + ow (gl (A0 39) v3) = (v2 + (-1)) := by first | (rw [show gl (A0 39) v3 = 0 by omega]; rfl) | (rw [show gl (A0 39) v3 = 1 by omega]; rfl) | rw [ow_v (by omega) (by omega)]
            obtain ⟨x52, q53⟩ : ∃ q : Int32, q = u3 + (1 : Int32) := ⟨_, rfl⟩
            have e54 : x52.toInt = (v3 + 1) := bx_add q53 hv3 hc39 (by omega) (by omega)
            refine k_iinc x52 55 rfl (gs_ne rfl rfl (gs_ne rfl rfl g3)) q53.symm rfl ?_
            refine k_goto 4 rfl rfl ?_
            exact ih _ (by omega)  (v2 := (v2 + (-1))) (v3 := (v3 + 1)) rfl (gs_ne rfl rfl (gs_ne rfl rfl (gs_ne rfl rfl g0))) (gs_ne rfl rfl gs_eq) gs_eq e51 e54 I26 (okL_set (i := 3) (v := .inl x52) rfl (okL_set (i := 2) (v := .inl x49) rfl (okL_set (i := 4) (v := .inl x20) rfl L27))) (by omega) (by omega) (by rw [hw9] at hs9; omega)
theorem n_X2_behindTerm_39 {h0 : am_h} {F0 : rf_f} {A0 : xl_A} {w1 : Int32} {n1 : Int} (hn1 : w1.toInt = n1)  (hn : F0 3202 = 39) (hp : 0 ≤ n1 ∧ n1 ≤ 1000) (hR : xR h0 F0 A0) : am_Mt 2 43 [.inr (.inr (some 32)), .inl w1] h0 (xQ h0 (fun x F' A' => x = (p_X2_behindTerm_39 n1 F0 A0).1 ∧ F' = (p_X2_behindTerm_39 n1 F0 A0).2.1 ∧ A' = (p_X2_behindTerm_39 n1 F0 A0).2.2)) := by
  refine am_Mt.of (D := 1) ?_
  have hI : xI h0 (ob_P h0) h0 0 0 F0 A0 := xI.start hR
  have hL : am_okL h0.length (am_args 0 [.inr (.inr (some 32)), .inl w1]) = true := (okA_r hI.T oc32 (okA_i okA_n))
  refine k_push 1 rfl rfl ?_
  have hc55 : (1 : Int32).toInt = 1 := by decide
  refine k_istore 2 rfl rfl ?_
  refine k_iload 3 rfl (gs_ne rfl rfl rfl) rfl ?_
  refine k_istore 4 rfl rfl ?_
  exact yl_X2_behindTerm_39_4 hn1  hn hp _  (v2 := 1) (v3 := n1) rfl (gs_ne rfl rfl (gs_ne rfl rfl rfl)) (gs_ne rfl rfl gs_eq) gs_eq hc55 hn1 hI (okL_set (i := 3) (v := .inl w1) rfl (okL_set (i := 2) (v := .inl (1 : Int32)) rfl hL)) (by omega) (by omega) (rfl)
theorem yl_X2_keep_39_2 {h0 : am_h} {F0 : rf_f} {A0 : xl_A} {w1 : Int32} {n1 : Int} (hn1 : w1.toInt = n1) {w2 : Int32} {n2 : Int} (hn2 : w2.toInt = n2)  (hn : F0 3202 = 39) (hs : F0 3203 = 37) (hp : 0 ≤ n1 ∧ n1 ≤ n2 ∧ n2 ≤ ((A0 39).length : Int)) : ∀ (n : Nat) {lv : am_l} {h : am_h} {c s : Nat} {u2 : Int32} {v2 : Int} {u3 : Int32} {v3 : Int} {Av : xl_A}, ((1001 - v3).toNat) = n → am_get lv 0 = some (.inr (.inr (some 32))) → am_get lv 2 = some (.inl u2) → am_get lv 3 = some (.inl u3) → u2.toInt = v2 → u3.toInt = v3 → xI h0 (ob_P h0) h c s F0 Av → am_okL h.length lv = true → (v2 = n2 ∧ n1 ≤ v3 ∧ v3 ≤ n2) → (Av 37 = A0 37 ++ slc (A0 39) n1 v3) → (∀ j : Nat, j ≠ 37 → Av j = A0 j) → am_Ok am_G 2 44 (2, lv, [], h, c, s) (xQ h0 (fun x F' A' => ((x : Int) = 0 ∨ (x : Int) = 1) ∧ PA (x) (A0 37) (A' 37) (slc (A0 39) n1 n2) ∧ F' = F0 ∧ ∀ j : Nat, j ≠ 37 → A' j = A0 j)) := by
  intro n
  induction n using Nat.strongRecOn with
  | ind n ih =>
    intro lv h c s u2 v2 u3 v3  Av hm g0 g2 g3 hv2 hv3 hI hL i1 i2 i3
    have ll9 : Av 39 = A0 39 := i3 39 (by decide)
    have cp39 := hI.cap or39
    rw [mo39] at cp39
    have cp37 := hI.cap or37
    rw [mo37] at cp37
    rw [ll9] at cp39
    refine k_iload 3 rfl g3 rfl ?_
    refine k_iload 4 rfl g2 rfl ?_
    by_cases b1 : u2 ≤ u3
    · refine k_c2 33 rfl rfl (if_pos b1) ?_
      have b1 : v2 ≤ v3 := by have h9 := iv_le.mp b1; rw [hv3] at h9; rw [hv2] at h9; exact h9
      refine k_push 34 rfl rfl ?_
      have hc2 : (1 : Int32).toInt = 1 := by decide
      exact k_fin rfl (fin_Z (Or.inr rfl)) ⟨_, _, _, _, _, _, rfl, hI, (by (try rw [hc2]); show ((1 : Int) = 0 ∨ (1 : Int) = 1) ∧ PA (1) (A0 37) (Av 37) (slc (A0 39) n1 n2) ∧ F0 = F0 ∧ ∀ j : Nat, j ≠ 37 → Av j = A0 j; exact ⟨Or.inr rfl, PA.yes rfl (by rw [i2, show v3 = n2 by omega]) cp37, rfl, i3⟩)⟩
    · refine k_c2 7 rfl rfl (if_neg b1) ?_
      have b1 : ¬ (v2 ≤ v3) := by have h9 := mt iv_le.mpr b1; rw [hv3] at h9; rw [hv2] at h9; exact h9
      refine k_aload 8 rfl g0 rfl ?_
      refine x_gO (τ := 3) hI 11 rfl oc32 rfl rfl rfl rfl (fun r3 (e4 : (r3 : Int) = F0 3203) o5 => ?_)
      obtain rfl : r3 = 37 := by omega
      refine k_aload 12 rfl g0 rfl ?_
      refine x_gO (τ := 3) hI 15 rfl oc32 rfl rfl rfl rfl (fun r6 (e7 : (r6 : Int) = F0 3202) o8 => ?_)
      obtain rfl : r6 = 39 := by omega
      refine k_iload 16 rfl g3 rfl ?_
      refine k_xq hI rfl (y_get hv3 hI.1 or39) rfl rfl rfl (ty_H.rc3 hI.T or39) hL (xo_r hI ol37 so_n) ?_
      rintro x9 h10 c11 s12 F13 A14 I15 L16 ⟨e17, k18, k19⟩
      replace k18 := k18.symm
      subst k18
      replace k19 := k19.symm
      subst k19
      show am_Ok _ _ _ (19, _, [.inl x9, .inr (.inr (some 37))], _, c11, s12) _
      refine k_xq I15 rfl (y_add e17 I15.1 or37) rfl rfl rfl (ty_H.rc3 I15.T or37) L16 so_n ?_
      rintro x20 h21 c22 s23 F24 A25 I26 L27 ⟨e28, k29, k30⟩
      replace k29 := k29.symm
      subst k29
      replace k30 := k30.symm
      subst k30
      have z31 := iv_01 (x := x20) (by rw [e28]; exact (addr_01))
      show am_Ok _ _ _ (22, _, [.inl x20], _, c22, s23) _
      by_cases b32 : x20 = 0
      · refine k_c1 25 rfl rfl (if_pos b32) ?_
        have b32 : addr 37 Av = 0 := by have h9 := iv_eq0.mp b32; rw [e28] at h9; exact h9
        refine k_push 26 rfl rfl ?_
        have hc33 : (0 : Int32).toInt = 0 := by decide
        exact k_fin rfl (fin_Z (Or.inl rfl)) ⟨_, _, _, _, _, _, rfl, I26, (by (try rw [hc33]); show ((0 : Int) = 0 ∨ (0 : Int) = 1) ∧ PA (0) (A0 37) (((addl 37 Av (gl (Av 39) (v3)))) 37) (slc (A0 39) n1 n2) ∧ F0 = F0 ∧ ∀ j : Nat, j ≠ 37 → ((addl 37 Av (gl (Av 39) (v3)))) j = A0 j; exact ⟨Or.inl rfl, Or.inr ⟨rfl, keep_no (v := v3) (by omega) (by omega) (by omega) (by omega) (by rw [← i2]; have h9 := ad_n b32; rw [mo37] at h9; exact h9)⟩, rfl, fun j hj => (addl_ne hj).trans (i3 j hj)⟩)⟩
      · refine k_c1 27 rfl rfl (if_neg b32) ?_
        have b32 : ¬ (addr 37 Av = 0) := by have h9 := mt iv_eq0.mpr b32; rw [e28] at h9; exact h9
        have hc34 : (1 : Int32).toInt = 1 := by decide
        obtain ⟨x35, q36⟩ : ∃ q : Int32, q = u3 + (1 : Int32) := ⟨_, rfl⟩
        have e37 : x35.toInt = (v3 + 1) := bx_add q36 hv3 hc34 (by omega) (by omega)
        refine k_iinc x35 30 rfl g3 q36.symm rfl ?_
        refine k_goto 2 rfl rfl ?_
        exact ih _ (by omega)  (Av := (addl 37 Av (gl (Av 39) (v3)))) (v2 := v2) (v3 := (v3 + 1)) rfl (gs_ne rfl rfl g0) (gs_ne rfl rfl g2) gs_eq hv2 e37 I26 (okL_set (i := 3) (v := .inl x35) rfl L27) (by omega) (by rw [addl_eq (ad_y b32), i2, ll9, sl_snoc (by omega) (by omega) (by omega), List.append_assoc]) (fun j hj => (addl_ne hj).trans (i3 j hj))
theorem n_X2_keep_39 {h0 : am_h} {F0 : rf_f} {A0 : xl_A} {w1 : Int32} {n1 : Int} (hn1 : w1.toInt = n1) {w2 : Int32} {n2 : Int} (hn2 : w2.toInt = n2)  (hn : F0 3202 = 39) (hs : F0 3203 = 37) (hp : 0 ≤ n1 ∧ n1 ≤ n2 ∧ n2 ≤ ((A0 39).length : Int)) (hR : xR h0 F0 A0) : am_Mt 3 44 [.inr (.inr (some 32)), .inl w1, .inl w2] h0 (xQ h0 (fun x F' A' => ((x : Int) = 0 ∨ (x : Int) = 1) ∧ PA (x) (A0 37) (A' 37) (slc (A0 39) n1 n2) ∧ F' = F0 ∧ ∀ j : Nat, j ≠ 37 → A' j = A0 j)) := by
  refine am_Mt.of (D := 2) ?_
  have hI : xI h0 (ob_P h0) h0 0 0 F0 A0 := xI.start hR
  have hL : am_okL h0.length (am_args 0 [.inr (.inr (some 32)), .inl w1, .inl w2]) = true := (okA_r hI.T oc32 (okA_i (okA_i okA_n)))
  refine k_iload 1 rfl rfl rfl ?_
  refine k_istore 2 rfl rfl ?_
  exact yl_X2_keep_39_2 hn1 hn2  hn hs hp _  (Av := A0) (v2 := n2) (v3 := n1) rfl (gs_ne rfl rfl rfl) (gs_ne rfl rfl rfl) gs_eq hn2 hn1 hI (okL_set (i := 3) (v := .inl w1) rfl hL) (by omega) (by rw [sl_0 (by omega), List.append_nil]) (fun j hj => rfl)
theorem n_X2_depthBehind_33 {h0 : am_h} {F0 : rf_f} {A0 : xl_A} {w1 : Int32} {n1 : Int} (hn1 : w1.toInt = n1) {w2 : Int32} {n2 : Int} (hn2 : w2.toInt = n2)  (hd : 0 ≤ n2 ∧ n2 ≤ 2000) (hk : ((A0 33).length : Int) < 1000) (hR : xR h0 F0 A0) : am_Mt 3 47 [.inl w1, .inl w2, .inr (.inr (some 33))] h0 (xQ h0 (fun x F' A' => (x : Int) = (dpR n1 n2 (A0 33)).1 ∧ A' 33 = (dpR n1 n2 (A0 33)).2 ∧ F' = F0 ∧ ∀ j : Nat, j ≠ 33 → A' j = A0 j)) := by
  refine am_Mt.of (D := 2) ?_
  have hI : xI h0 (ob_P h0) h0 0 0 F0 A0 := xI.start hR
  have hL : am_okL h0.length (am_args 0 [.inl w1, .inl w2, .inr (.inr (some 33))]) = true := (okA_i (okA_i (okA_r hI.T ol33 okA_n)))
  refine k_iload 1 rfl rfl rfl ?_
  by_cases b1 : w1 = 0
  · refine k_c1 4 rfl rfl (if_pos b1) ?_
    have b1 : n1 = 0 := by have h9 := iv_eq0.mp b1; rw [hn1] at h9; exact h9
    refine k_aload 5 rfl rfl rfl ?_
    refine k_iload 6 rfl rfl rfl ?_
    refine k_xq hI rfl (y_add hn2 hI.1 or33) rfl rfl rfl (ty_H.rc3 hI.T or33) hL so_n ?_
    rintro x2 h3 c4 s5 F6 A7 I8 L9 ⟨e10, k11, k12⟩
    replace k11 := k11.symm
    subst k11
    replace k12 := k12.symm
    subst k12
    have z13 := iv_01 (x := x2) (by rw [e10]; exact (addr_01))
    show am_Ok _ _ _ (9, _, [.inl x2], _, c4, s5) _
    refine k_pop 10 rfl rfl rfl ?_
    refine k_iload 11 rfl rfl rfl ?_
    exact k_fin rfl rfl ⟨_, _, _, _, _, _, rfl, I8, (by (try rw [hn2]); show (n2 : Int) = (dpR n1 n2 (A0 33)).1 ∧ ((addl 33 A0 (n2))) 33 = (dpR n1 n2 (A0 33)).2 ∧ F0 = F0 ∧ ∀ j : Nat, j ≠ 33 → ((addl 33 A0 (n2))) j = A0 j; rw [dpR_0 (c := []) rfl b1]; exact ⟨rfl, addl_eq (by rw [mo33]; omega), rfl, fun j hj => addl_ne hj⟩)⟩
  · refine k_c1 12 rfl rfl (if_neg b1) ?_
    have b1 : ¬ (n1 = 0) := by have h9 := mt iv_eq0.mpr b1; rw [hn1] at h9; exact h9
    refine k_iload 13 rfl rfl rfl ?_
    refine k_push 14 rfl rfl ?_
    have hc14 : (1 : Int32).toInt = 1 := by decide
    by_cases b15 : w1 = (1 : Int32)
    · refine k_c2 17 rfl rfl (if_pos b15) ?_
      have b15 : n1 = 1 := by have h9 := iv_eq.mp b15; rw [hn1] at h9; rw [hc14] at h9; exact h9
      refine k_iload 18 rfl rfl rfl ?_
      refine k_push 19 rfl rfl ?_
      obtain ⟨x16, q17⟩ : ∃ q : Int32, q = w2 + (1 : Int32) := ⟨_, rfl⟩
      have e18 : x16.toInt = (n2 + 1) := bx_add q17 hn2 hc14 (by omega) (by omega)
      refine k_bin x16 20 rfl q17.symm rfl ?_
      refine k_goto 27 rfl rfl ?_
      exact k_fin rfl rfl ⟨_, _, _, _, _, _, rfl, hI, (by (try rw [e18]); show ((n2 + 1) : Int) = (dpR n1 n2 (A0 33)).1 ∧ A0 33 = (dpR n1 n2 (A0 33)).2 ∧ F0 = F0 ∧ ∀ j : Nat, j ≠ 33 → A0 j = A0 j; rw [dpR_1 (c := []) rfl b15]; exact ⟨rfl, rfl, rfl, fun j hj => rfl⟩)⟩
    · refine k_c2 23 rfl rfl (if_neg b15) ?_
      have b15 : ¬ (n1 = 1) := by have h9 := mt iv_eq.mpr b15; rw [hn1] at h9; rw [hc14] at h9; exact h9
      refine k_aload 24 rfl rfl rfl ?_
      refine k_xq hI rfl (xv_takeLast hI.1 or33) rfl rfl rfl (ty_H.rc3 hI.T or33) hL so_n ?_
      rintro x19 h20 c21 s22 F23 A24 I25 L26 ⟨e27, k28, k29⟩
      replace k28 := k28.symm
      subst k28
      replace k29 := k29.symm
      subst k29
      show am_Ok _ _ _ (27, _, [.inl x19], _, c21, s22) _
      exact k_fin rfl rfl ⟨_, _, _, _, _, _, rfl, I25, (by (try rw [e27]); show ((A0 33).getLastD 0 : Int) = (dpR n1 n2 (A0 33)).1 ∧ ((upl A0 33 (A0 33).dropLast)) 33 = (dpR n1 n2 (A0 33)).2 ∧ F0 = F0 ∧ ∀ j : Nat, j ≠ 33 → ((upl A0 33 (A0 33).dropLast)) j = A0 j; rw [dpR_2 b1 b15]; exact ⟨rfl, upl_eq, rfl, fun j hj => upl_ne hj⟩)⟩
theorem n_X2_depthBehind_35 {h0 : am_h} {F0 : rf_f} {A0 : xl_A} {w1 : Int32} {n1 : Int} (hn1 : w1.toInt = n1) {w2 : Int32} {n2 : Int} (hn2 : w2.toInt = n2)  (hd : 0 ≤ n2 ∧ n2 ≤ 2000) (hk : ((A0 35).length : Int) < 1000) (hR : xR h0 F0 A0) : am_Mt 3 47 [.inl w1, .inl w2, .inr (.inr (some 35))] h0 (xQ h0 (fun x F' A' => (x : Int) = (dpR n1 n2 (A0 35)).1 ∧ A' 35 = (dpR n1 n2 (A0 35)).2 ∧ F' = F0 ∧ ∀ j : Nat, j ≠ 35 → A' j = A0 j)) := by
  refine am_Mt.of (D := 2) ?_
  have hI : xI h0 (ob_P h0) h0 0 0 F0 A0 := xI.start hR
  have hL : am_okL h0.length (am_args 0 [.inl w1, .inl w2, .inr (.inr (some 35))]) = true := (okA_i (okA_i (okA_r hI.T ol35 okA_n)))
  refine k_iload 1 rfl rfl rfl ?_
  by_cases b1 : w1 = 0
  · refine k_c1 4 rfl rfl (if_pos b1) ?_
    have b1 : n1 = 0 := by have h9 := iv_eq0.mp b1; rw [hn1] at h9; exact h9
    refine k_aload 5 rfl rfl rfl ?_
    refine k_iload 6 rfl rfl rfl ?_
    refine k_xq hI rfl (y_add hn2 hI.1 or35) rfl rfl rfl (ty_H.rc3 hI.T or35) hL so_n ?_
    rintro x2 h3 c4 s5 F6 A7 I8 L9 ⟨e10, k11, k12⟩
    replace k11 := k11.symm
    subst k11
    replace k12 := k12.symm
    subst k12
    have z13 := iv_01 (x := x2) (by rw [e10]; exact (addr_01))
    show am_Ok _ _ _ (9, _, [.inl x2], _, c4, s5) _
    refine k_pop 10 rfl rfl rfl ?_
    refine k_iload 11 rfl rfl rfl ?_
    exact k_fin rfl rfl ⟨_, _, _, _, _, _, rfl, I8, (by (try rw [hn2]); show (n2 : Int) = (dpR n1 n2 (A0 35)).1 ∧ ((addl 35 A0 (n2))) 35 = (dpR n1 n2 (A0 35)).2 ∧ F0 = F0 ∧ ∀ j : Nat, j ≠ 35 → ((addl 35 A0 (n2))) j = A0 j; rw [dpR_0 (c := []) rfl b1]; exact ⟨rfl, addl_eq (by rw [mo35]; omega), rfl, fun j hj => addl_ne hj⟩)⟩
  · refine k_c1 12 rfl rfl (if_neg b1) ?_
    have b1 : ¬ (n1 = 0) := by have h9 := mt iv_eq0.mpr b1; rw [hn1] at h9; exact h9
    refine k_iload 13 rfl rfl rfl ?_
    refine k_push 14 rfl rfl ?_
    have hc14 : (1 : Int32).toInt = 1 := by decide
    by_cases b15 : w1 = (1 : Int32)
    · refine k_c2 17 rfl rfl (if_pos b15) ?_
      have b15 : n1 = 1 := by have h9 := iv_eq.mp b15; rw [hn1] at h9; rw [hc14] at h9; exact h9
      refine k_iload 18 rfl rfl rfl ?_
      refine k_push 19 rfl rfl ?_
      obtain ⟨x16, q17⟩ : ∃ q : Int32, q = w2 + (1 : Int32) := ⟨_, rfl⟩
      have e18 : x16.toInt = (n2 + 1) := bx_add q17 hn2 hc14 (by omega) (by omega)
      refine k_bin x16 20 rfl q17.symm rfl ?_
      refine k_goto 27 rfl rfl ?_
      exact k_fin rfl rfl ⟨_, _, _, _, _, _, rfl, hI, (by (try rw [e18]); show ((n2 + 1) : Int) = (dpR n1 n2 (A0 35)).1 ∧ A0 35 = (dpR n1 n2 (A0 35)).2 ∧ F0 = F0 ∧ ∀ j : Nat, j ≠ 35 → A0 j = A0 j; rw [dpR_1 (c := []) rfl b15]; exact ⟨rfl, rfl, rfl, fun j hj => rfl⟩)⟩
    · refine k_c2 23 rfl rfl (if_neg b15) ?_
      have b15 : ¬ (n1 = 1) := by have h9 := mt iv_eq.mpr b15; rw [hn1] at h9; rw [hc14] at h9; exact h9
      refine k_aload 24 rfl rfl rfl ?_
      refine k_xq hI rfl (xv_takeLast hI.1 or35) rfl rfl rfl (ty_H.rc3 hI.T or35) hL so_n ?_
      rintro x19 h20 c21 s22 F23 A24 I25 L26 ⟨e27, k28, k29⟩
      replace k28 := k28.symm
      subst k28
      replace k29 := k29.symm
      subst k29
      show am_Ok _ _ _ (27, _, [.inl x19], _, c21, s22) _
      exact k_fin rfl rfl ⟨_, _, _, _, _, _, rfl, I25, (by (try rw [e27]); show ((A0 35).getLastD 0 : Int) = (dpR n1 n2 (A0 35)).1 ∧ ((upl A0 35 (A0 35).dropLast)) 35 = (dpR n1 n2 (A0 35)).2 ∧ F0 = F0 ∧ ∀ j : Nat, j ≠ 35 → ((upl A0 35 (A0 35).dropLast)) j = A0 j; rw [dpR_2 b1 b15]; exact ⟨rfl, upl_eq, rfl, fun j hj => upl_ne hj⟩)⟩
end
