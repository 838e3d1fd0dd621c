/-! BYTES of a number: the class's and the reference's are the same -/
def bt (x y : Int32) : Int32 := (x >>> (y &&& 31)) &&& 255
def bts (x : Int32) : List Int := [(bt x 24).toInt, (bt x 16).toInt, (bt x 8).toInt, (bt x 0).toInt]
section BTS
variable {x y : Int32} {b : BitVec 32} {k : Nat} {i : Nat} {A : xl_A}
theorem bv_255 : ∀ j : Fin 32, (255#32 : BitVec 32).getLsbD j.val = decide (j.val < 8) := by decide
theorem bv_sh (hk : k ≤ 24) : (b >>> k) &&& 255#32 = (b.sshiftRight k) &&& 255#32 := by
  apply BitVec.eq_of_getLsbD_eq
  intro j hj
  rw [BitVec.getLsbD_and, BitVec.getLsbD_and, BitVec.getLsbD_ushiftRight, BitVec.getLsbD_sshiftRight, bv_255 ⟨j, hj⟩]
  by_cases z : j < 8
  · rw [if_pos (by omega), decide_eq_false (show ¬ 32 ≤ j by omega)]
    first | done | rfl
  · rw [decide_eq_false (show ¬ (⟨j, hj⟩ : Fin 32).val < 8 from z), Bool.and_false, Bool.and_false]
theorem bv_24 : b >>> 24 = (b >>> 24) &&& 255#32 := by
  apply BitVec.eq_of_getLsbD_eq
  intro j hj
  rw [BitVec.getLsbD_and, BitVec.getLsbD_ushiftRight, bv_255 ⟨j, hj⟩]
  by_cases z : j < 8
  · rw [decide_eq_true (show (⟨j, hj⟩ : Fin 32).val < 8 from z), Bool.and_true]
  · rw [decide_eq_false (show ¬ (⟨j, hj⟩ : Fin 32).val < 8 from z), Bool.and_false]
    exact BitVec.getLsbD_of_ge b (24 + j) (by omega)
theorem cb_s (hy : ((y.toUInt32 &&& Int32.toUInt32 31).toBitVec % 32#32).toNat = k) : (x.toUInt32 >>> (y.toUInt32 &&& Int32.toUInt32 31)).toInt32.toBitVec = x.toBitVec >>> k := by
  rw [← hy]
  rfl
theorem rb_s (hy : ((y &&& 31).toBitVec.smod 32#32).toNat = k) : (x >>> (y &&& 31)).toBitVec = x.toBitVec.sshiftRight k := by
  rw [← hy]
  rfl
theorem cb_x (hk : k ≤ 24) (hc : ((y.toUInt32 &&& Int32.toUInt32 31).toBitVec % 32#32).toNat = k) (hr : ((y &&& 31).toBitVec.smod 32#32).toNat = k) : (x.toUInt32 >>> (y.toUInt32 &&& Int32.toUInt32 31)).toInt32 &&& 255 = bt x y := by
  apply Int32.toBitVec_inj.mp
  show (x.toUInt32 >>> (y.toUInt32 &&& Int32.toUInt32 31)).toInt32.toBitVec &&& 255#32 = (x >>> (y &&& 31)).toBitVec &&& 255#32
  rw [cb_s hc, rb_s hr]
  exact bv_sh hk
theorem cb_16 : (x.toUInt32 >>> ((16 : Int32).toUInt32 &&& Int32.toUInt32 31)).toInt32 &&& 255 = bt x 16 := cb_x (k := 16) (by decide) (by decide) (by decide)
theorem cb_8 : (x.toUInt32 >>> ((8 : Int32).toUInt32 &&& Int32.toUInt32 31)).toInt32 &&& 255 = bt x 8 := cb_x (k := 8) (by decide) (by decide) (by decide)
theorem cb_24 : (x.toUInt32 >>> ((24 : Int32).toUInt32 &&& Int32.toUInt32 31)).toInt32 = bt x 24 := by
  rw [← cb_x (x := x) (y := 24) (k := 24) (by decide) (by decide) (by decide)]
  apply Int32.toBitVec_inj.mp
  show _ = (x.toUInt32 >>> ((24 : Int32).toUInt32 &&& Int32.toUInt32 31)).toInt32.toBitVec &&& 255#32
  rw [cb_s (k := 24) (by decide)]
  exact bv_24
theorem cb_0 : x &&& 255 = bt x 0 := by
  apply Int32.toBitVec_inj.mp
  show x.toBitVec &&& 255#32 = (x >>> ((0 : Int32) &&& 31)).toBitVec &&& 255#32
  rw [rb_s (k := 0) (by decide), ← bv_sh (Nat.zero_le _)]
  first | done | rfl
theorem bt_b : 0 ≤ (bt x y).toInt ∧ (bt x y).toInt ≤ 255 := iv_and (x := x >>> (y &&& 31)) (y := 255) (by decide)
theorem add4 (h : ((A i).length : Int) + 4 ≤ (ob_mo i).toInt) : (∀ u v w z : Int, addl i (addl i (addl i (addl i A u) v) w) z i = A i ++ [u, v, w, z]) ∧ ∀ (u v w z : Int) (k : Nat), k ≠ i → addl i (addl i (addl i (addl i A u) v) w) z k = A k := by
  obtain ⟨c1, c2⟩ := add3 (A := A) (i := i) (by omega)
  refine ⟨fun u v w z => ?_, fun u v w z k hk => by rw [addl_ne hk]; exact c2 u v w k hk⟩
  rw [addl_eq (by rw [c1, List.length_append, List.length_append, List.length_append]; show (((A i).length + 1 + 1 + 1 : Nat) : Int) < _; omega), c1, List.append_assoc, List.append_assoc, List.append_assoc]
  first | done | rfl
theorem mo2 : (ob_mo 2).toInt = 700 := by decide
end BTS
section
theorem n_X9_feedNumber {h0 : am_h} {F0 : rf_f} {A0 : xl_A} {w1 : Int32} {n1 : Int} (hn1 : w1.toInt = n1)  (hl : ((A0 2).length : Int) + 4 ≤ 700) (hR : xR h0 F0 A0) : am_Mt 3 147 [.inr (.inr (some 1)), .inl w1] h0 (xV h0 (fun F' A' => (A') 2 = A0 2 ++ bts w1 ∧ (F') = F0 ∧ ∀ k : Nat, k ≠ 2 → (A') k = A0 k)) := by
  refine am_Mt.of (D := 2) ?_
  have hI : xI h0 (ob_P h0) h0 0 0 F0 A0 := xI.start hR
  have hL : am_okL h0.length (am_args 0 [.inr (.inr (some 1)), .inl w1]) = true := (okA_r hI.T oc1 (okA_i okA_n))
  refine k_aload 1 rfl rfl rfl ?_
  refine x_gF 2 hI 4 rfl rfl (by decide) rfl ?_
  refine k_iload 5 rfl rfl rfl ?_
  refine k_push 7 rfl rfl ?_
  have hc1 : (24 : Int32).toInt = 24 := by decide
  obtain ⟨x2, q3⟩ : ∃ q : Int32, q = ((w1.toUInt32 >>> ((24 : Int32).toUInt32 &&& Int32.toUInt32 31)).toInt32) := ⟨_, rfl⟩
  have e4 : x2.toInt = ((w1.toUInt32 >>> ((24 : Int32).toUInt32 &&& Int32.toUInt32 31)).toInt32).toInt := by rw [q3]
  refine k_bin x2 8 rfl q3.symm rfl ?_
  refine k_xq hI rfl (y_add e4 hI.1 or2) rfl rfl rfl (ty_H.rc3 hI.T or2) hL so_n ?_
  rintro x5 h6 c7 s8 F9 A10 I11 L12 ⟨e13, k14, k15⟩
  replace k14 := k14.symm
  subst k14
  replace k15 := k15.symm
  subst k15
  have z16 := iv_01 (x := x5) (by rw [e13]; exact (addr_01))
  show am_Ok _ _ _ (11, _, [.inl x5], _, c7, s8) _
  refine k_pop 12 rfl rfl rfl ?_
  refine k_aload 13 rfl rfl rfl ?_
  refine x_gF 2 I11 16 rfl rfl (by decide) rfl ?_
  refine k_iload 17 rfl rfl rfl ?_
  refine k_push 19 rfl rfl ?_
  have hc17 : (16 : Int32).toInt = 16 := by decide
  obtain ⟨x18, q19⟩ : ∃ q : Int32, q = ((w1.toUInt32 >>> ((16 : Int32).toUInt32 &&& Int32.toUInt32 31)).toInt32) := ⟨_, rfl⟩
  have e20 : x18.toInt = ((w1.toUInt32 >>> ((16 : Int32).toUInt32 &&& Int32.toUInt32 31)).toInt32).toInt := by rw [q19]
  refine k_bin x18 20 rfl q19.symm rfl ?_
  refine k_push 23 rfl rfl ?_
  have hc21 : (255 : Int32).toInt = 255 := by decide
  obtain ⟨x22, q23⟩ : ∃ q : Int32, q = (x18 &&& (255 : Int32)) := ⟨_, rfl⟩
  have e24 : x22.toInt = (((w1.toUInt32 >>> ((16 : Int32).toUInt32 &&& Int32.toUInt32 31)).toInt32) &&& (255 : Int32)).toInt := by rw [q23, q19]
  refine k_bin x22 24 rfl q23.symm rfl ?_
  refine k_xq I11 rfl (y_add e24 I11.1 or2) rfl rfl rfl (ty_H.rc3 I11.T or2) L12 so_n ?_
  rintro x25 h26 c27 s28 F29 A30 I31 L32 ⟨e33, k34, k35⟩
  replace k34 := k34.symm
  subst k34
  replace k35 := k35.symm
  subst k35
  have z36 := iv_01 (x := x25) (by rw [e33]; exact (addr_01))
  show am_Ok _ _ _ (27, _, [.inl x25], _, c27, s28) _
  refine k_pop 28 rfl rfl rfl ?_
  refine k_aload 29 rfl rfl rfl ?_
  refine x_gF 2 I31 32 rfl rfl (by decide) rfl ?_
  refine k_iload 33 rfl rfl rfl ?_
  refine k_push 35 rfl rfl ?_
  have hc37 : (8 : Int32).toInt = 8 := by decide
  obtain ⟨x38, q39⟩ : ∃ q : Int32, q = ((w1.toUInt32 >>> ((8 : Int32).toUInt32 &&& Int32.toUInt32 31)).toInt32) := ⟨_, rfl⟩
  have e40 : x38.toInt = ((w1.toUInt32 >>> ((8 : Int32).toUInt32 &&& Int32.toUInt32 31)).toInt32).toInt := by rw [q39]
  refine k_bin x38 36 rfl q39.symm rfl ?_
  refine k_push 39 rfl rfl ?_
  obtain ⟨x41, q42⟩ : ∃ q : Int32, q = (x38 &&& (255 : Int32)) := ⟨_, rfl⟩
  have e43 : x41.toInt = (((w1.toUInt32 >>> ((8 : Int32).toUInt32 &&& Int32.toUInt32 31)).toInt32) &&& (255 : Int32)).toInt := by rw [q42, q39]
  refine k_bin x41 40 rfl q42.symm rfl ?_
  refine k_xq I31 rfl (y_add e43 I31.1 or2) rfl rfl rfl (ty_H.rc3 I31.T or2) L32 so_n ?_
  rintro x44 h45 c46 s47 F48 A49 I50 L51 ⟨e52, k53, k54⟩
  replace k53 := k53.symm
  subst k53
  replace k54 := k54.symm
  subst k54
  have z55 := iv_01 (x := x44) (by rw [e52]; exact (addr_01))
  show am_Ok _ _ _ (43, _, [.inl x44], _, c46, s47) _
  refine k_pop 44 rfl rfl rfl ?_
  refine k_aload 45 rfl rfl rfl ?_
  refine x_gF 2 I50 48 rfl rfl (by decide) rfl ?_
  refine k_iload 49 rfl rfl rfl ?_
  refine k_push 52 rfl rfl ?_
  obtain ⟨x56, q57⟩ : ∃ q : Int32, q = (w1 &&& (255 : Int32)) := ⟨_, rfl⟩
  have e58 : x56.toInt = (w1 &&& (255 : Int32)).toInt := by rw [q57]
  refine k_bin x56 53 rfl q57.symm rfl ?_
  refine k_xq I50 rfl (y_add e58 I50.1 or2) rfl rfl rfl (ty_H.rc3 I50.T or2) L51 so_n ?_
  rintro x59 h60 c61 s62 F63 A64 I65 L66 ⟨e67, k68, k69⟩
  replace k68 := k68.symm
  subst k68
  replace k69 := k69.symm
  subst k69
  have z70 := iv_01 (x := x59) (by rw [e67]; exact (addr_01))
  show am_Ok _ _ _ (56, _, [.inl x59], _, c61, s62) _
  refine k_pop 57 rfl rfl rfl ?_
  exact k_fin rfl rfl ⟨_, _, _, _, _, rfl, I65, (by show ((addl 2 ((addl 2 ((addl 2 (addl 2 A0 (((w1.toUInt32 >>> ((24 : Int32).toUInt32 &&& Int32.toUInt32 31)).toInt32).toInt)) ((((w1.toUInt32 >>> ((16 : Int32).toUInt32 &&& Int32.toUInt32 31)).toInt32) &&& (255 : Int32)).toInt))) ((((w1.toUInt32 >>> ((8 : Int32).toUInt32 &&& Int32.toUInt32 31)).toInt32) &&& (255 : Int32)).toInt))) ((w1 &&& (255 : Int32)).toInt))) 2 = A0 2 ++ bts w1 ∧ (F0) = F0 ∧ ∀ k : Nat, k ≠ 2 → ((addl 2 ((addl 2 ((addl 2 (addl 2 A0 (((w1.toUInt32 >>> ((24 : Int32).toUInt32 &&& Int32.toUInt32 31)).toInt32).toInt)) ((((w1.toUInt32 >>> ((16 : Int32).toUInt32 &&& Int32.toUInt32 31)).toInt32) &&& (255 : Int32)).toInt))) ((((w1.toUInt32 >>> ((8 : Int32).toUInt32 &&& Int32.toUInt32 31)).toInt32) &&& (255 : Int32)).toInt))) ((w1 &&& (255 : Int32)).toInt))) k = A0 k; obtain ⟨c1, c2⟩ := add4 (A := A0) (i := 2) (by rw [mo2]; exact hl); refine ⟨?_, rfl, fun k hk => c2 _ _ _ _ k hk⟩; rw [c1, cb_24, cb_16, cb_8, cb_0]; first | done | rfl)⟩
theorem n_X9_feed {h0 : am_h} {F0 : rf_f} {A0 : xl_A} {w1 : Int32} {n1 : Int} (hn1 : w1.toInt = n1) {w2 : Int32} {n2 : Int} (hn2 : w2.toInt = n2) {w3 : Int32} {n3 : Int} (hn3 : w3.toInt = n3) {w4 : Int32} {n4 : Int} (hn4 : w4.toInt = n4) {w5 : Int32} {n5 : Int} (hn5 : w5.toInt = n5)  (hl : ((A0 2).length : Int) ≤ 700) (hR : xR h0 F0 A0) : am_Mt 4 130 [.inr (.inr (some 1)), .inl w1, .inl w2, .inl w3, .inl w4, .inl w5] h0 (xQ h0 (fun x F' A' => ((((A0 2).length : Int) + 20 ≤ 700 ∧ (x : Int) = ((A0 2).length : Int) + 20 ∧ (A') 2 = ((((A0 2 ++ bts w1) ++ bts w2) ++ bts w3) ++ bts w4) ++ bts w5) ∨ (700 < ((A0 2).length : Int) + 20 ∧ (x : Int) = -1 ∧ (A') 2 = A0 2)) ∧ (F') = F0 ∧ ∀ k : Nat, k ≠ 2 → (A') k = A0 k)) := by
  refine am_Mt.of (D := 3) ?_
  have hI : xI h0 (ob_P h0) h0 0 0 F0 A0 := xI.start hR
  have hL : am_okL h0.length (am_args 0 [.inr (.inr (some 1)), .inl w1, .inl w2, .inl w3, .inl w4, .inl w5]) = true := (okA_r hI.T oc1 (okA_i (okA_i (okA_i (okA_i (okA_i okA_n))))))
  refine k_aload 1 rfl rfl rfl ?_
  refine x_gF 2 hI 4 rfl rfl (by decide) rfl ?_
  refine k_xq hI rfl (xv_size hI.1 or2) rfl rfl rfl (ty_H.rc3 hI.T or2) hL so_n ?_
  rintro x1 h2 c3 s4 F5 A6 I7 L8 ⟨e9, k10, k11⟩
  replace k10 := k10.symm
  subst k10
  replace k11 := k11.symm
  subst k11
  show am_Ok _ _ _ (7, _, [.inl x1], _, c3, s4) _
  refine k_push 9 rfl rfl ?_
  have hc12 : (20 : Int32).toInt = 20 := by decide
  obtain ⟨x13, q14⟩ : ∃ q : Int32, q = x1 + (20 : Int32) := ⟨_, rfl⟩
  have e15 : x13.toInt = ((((A0 2).length : Nat) : Int) + 20) := bx_add q14 e9 hc12 (by omega) (by omega)
  refine k_bin x13 10 rfl q14.symm rfl ?_
  refine k_push 13 rfl rfl ?_
  have hc16 : (700 : Int32).toInt = 700 := by decide
  by_cases b17 : x13 ≤ (700 : Int32)
  · refine k_c2 18 rfl rfl (if_pos b17) ?_
    have b17 : ((((A0 2).length : Nat) : Int) + 20) ≤ 700 := by have h9 := iv_le.mp b17; rw [e15] at h9; rw [hc16] at h9; exact h9
    refine k_aload 19 rfl rfl rfl ?_
    refine k_iload 20 rfl rfl rfl ?_
    refine k_xv I7 rfl (n_X9_feedNumber hn1  (by omega) I7.1) rfl rfl rfl (I7.T.rc oc1 rfl) L8 so_n ?_
    rintro h19 c20 s21 F22 A23 I24 L25 e26
    show am_Ok _ _ _ (23, _, [], _, c20, s21) _
    obtain ⟨r1a, r1b, r1c⟩ := e26
    have l1x : (A23 2).length = (A0 2).length + 4 := by rw [r1a, List.length_append]; rfl
    refine k_aload 24 rfl rfl rfl ?_
    refine k_iload 25 rfl rfl rfl ?_
    refine k_xv I24 rfl (n_X9_feedNumber hn2  (by omega) I24.1) rfl rfl rfl (I24.T.rc oc1 rfl) L25 so_n ?_
    rintro h28 c29 s30 F31 A32 I33 L34 e35
    show am_Ok _ _ _ (28, _, [], _, c29, s30) _
    obtain ⟨r2a, r2b, r2c⟩ := e35
    have l2x : (A32 2).length = (A23 2).length + 4 := by rw [r2a, List.length_append]; rfl
    refine k_aload 29 rfl rfl rfl ?_
    refine k_iload 30 rfl rfl rfl ?_
    refine k_xv I33 rfl (n_X9_feedNumber hn3  (by omega) I33.1) rfl rfl rfl (I33.T.rc oc1 rfl) L34 so_n ?_
    rintro h37 c38 s39 F40 A41 I42 L43 e44
    show am_Ok _ _ _ (33, _, [], _, c38, s39) _
    obtain ⟨r3a, r3b, r3c⟩ := e44
    have l3x : (A41 2).length = (A32 2).length + 4 := by rw [r3a, List.length_append]; rfl
    refine k_aload 34 rfl rfl rfl ?_
    refine k_iload 36 rfl rfl rfl ?_
    refine k_xv I42 rfl (n_X9_feedNumber hn4  (by omega) I42.1) rfl rfl rfl (I42.T.rc oc1 rfl) L43 so_n ?_
    rintro h46 c47 s48 F49 A50 I51 L52 e53
    show am_Ok _ _ _ (39, _, [], _, c47, s48) _
    obtain ⟨r4a, r4b, r4c⟩ := e53
    have l4x : (A50 2).length = (A41 2).length + 4 := by rw [r4a, List.length_append]; rfl
    refine k_aload 40 rfl rfl rfl ?_
    refine k_iload 42 rfl rfl rfl ?_
    refine k_xv I51 rfl (n_X9_feedNumber hn5  (by omega) I51.1) rfl rfl rfl (I51.T.rc oc1 rfl) L52 so_n ?_
    rintro h55 c56 s57 F58 A59 I60 L61 e62
    show am_Ok _ _ _ (45, _, [], _, c56, s57) _
    obtain ⟨r5a, r5b, r5c⟩ := e62
    have l5x : (A59 2).length = (A50 2).length + 4 := by rw [r5a, List.length_append]; rfl
    refine k_aload 46 rfl rfl rfl ?_
    refine x_gF 2 I60 49 rfl rfl (by decide) rfl ?_
    refine k_xq I60 rfl (xv_size I60.1 or2) rfl rfl rfl (ty_H.rc3 I60.T or2) L61 so_n ?_
    rintro x63 h64 c65 s66 F67 A68 I69 L70 ⟨e71, k72, k73⟩
    replace k72 := k72.symm
    subst k72
    replace k73 := k73.symm
    subst k73
    show am_Ok _ _ _ (52, _, [.inl x63], _, c65, s66) _
    exact k_fin rfl rfl ⟨_, _, _, _, _, _, rfl, I69, (by (try rw [e71]); show ((((A0 2).length : Int) + 20 ≤ 700 ∧ ((((A59 2).length : Nat) : Int) : Int) = ((A0 2).length : Int) + 20 ∧ (A59) 2 = ((((A0 2 ++ bts w1) ++ bts w2) ++ bts w3) ++ bts w4) ++ bts w5) ∨ (700 < ((A0 2).length : Int) + 20 ∧ ((((A59 2).length : Nat) : Int) : Int) = -1 ∧ (A59) 2 = A0 2)) ∧ (F58) = F0 ∧ ∀ k : Nat, k ≠ 2 → (A59) k = A0 k; exact ⟨Or.inl ⟨by omega, by omega, by rw [r5a, r4a, r3a, r2a, r1a]⟩, by rw [r5b, r4b, r3b, r2b, r1b], fun k hk => by rw [r5c k hk, r4c k hk, r3c k hk, r2c k hk, r1c k hk]⟩)⟩
  · refine k_c2 16 rfl rfl (if_neg b17) ?_
    have b17 : ¬ (((((A0 2).length : Nat) : Int) + 20) ≤ 700) := by have h9 := mt iv_le.mpr b17; rw [e15] at h9; rw [hc16] at h9; exact h9
    refine k_push 17 rfl rfl ?_
    have hc74 : (-1 : Int32).toInt = -1 := by decide
    exact k_fin rfl rfl ⟨_, _, _, _, _, _, rfl, I7, (by (try rw [hc74]); show ((((A0 2).length : Int) + 20 ≤ 700 ∧ ((-1) : Int) = ((A0 2).length : Int) + 20 ∧ (A0) 2 = ((((A0 2 ++ bts w1) ++ bts w2) ++ bts w3) ++ bts w4) ++ bts w5) ∨ (700 < ((A0 2).length : Int) + 20 ∧ ((-1) : Int) = -1 ∧ (A0) 2 = A0 2)) ∧ (F0) = F0 ∧ ∀ k : Nat, k ≠ 2 → (A0) k = A0 k; exact ⟨Or.inr ⟨by omega, rfl, rfl⟩, rfl, fun k hk => rfl⟩)⟩
end
