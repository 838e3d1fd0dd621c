/-! THE LAW'S LOOP -/
section LL
variable {h h' : am_h} {i : Int32}
theorem oc.rf (ho : oc h) (hF : rf_Fr h h') : oc h' := by
  obtain ⟨xs, e1, e2⟩ := ho
  exact ⟨xs, by rw [hF.2 122 (Or.inr (by omega))]; exact e1, e2⟩
theorem ix_ok {L : Nat} {k : Int32} {kk : Int} (hk : k.toInt = kk) (h0 : 0 ≤ kk ∧ kk ≤ 5) (hi : 0 ≤ i.toInt ∧ i.toInt + 6 ≤ L) (hL : L ≤ 3072) : ¬ (i + k) < 0 ∧ (i + k).toNatClampNeg < L := by
  have h1 : (i + k).toInt = i.toInt + kk := by rw [iv_add (by omega) (by omega), hk]
  refine ⟨iv_nn (by omega), ?_⟩
  rw [iv_cl]
  omega
theorem ix_0 {L : Nat} (hi : 0 ≤ i.toInt ∧ i.toInt + 6 ≤ L) : ¬ i < 0 ∧ i.toNatClampNeg < L := by
  refine ⟨iv_nn (by omega), ?_⟩
  rw [iv_cl]
  omega
theorem ou.rf {x : Int} (ho : ou h x) (hF : rf_Fr h h') : ou h' x := by
  obtain ⟨e, w, e1, e2⟩ := ho
  exact ⟨e, w, by rw [hF.2 122 (Or.inr (by omega))]; exact e1, e2⟩
theorem tell_eq {T L L' : List Int} {x x2 f5 : Int} {a b : Int → Int} (h1 : CTx T L x L') (h2 : TZ T x2 f5 a b) (h3 : imp (x2 ≠ 0) (TL L a (b 2))) : TL L' a (b 2) := by
  obtain ⟨⟨f, r, e1, hc⟩, hL⟩ := h1
  obtain ⟨r2, e2, hz⟩ := h2
  have e := Ev.det e1 e2
  subst e
  have five : x ≠ 0 → x2 ≠ 0 → TL L' a (b 2) := fun k1 k2 => by
    rw [hL k1]
    exact h3 k2
  rcases hz with ⟨z1, z2, -⟩ | ⟨z1, z2, z3, -⟩ | ⟨z1, z2, z3, z4⟩
  · rcases hc with ⟨y1, y2, -⟩ | ⟨y1, -⟩ | ⟨y1, -⟩
    · exact five (by omega) (by omega)
    · exact absurd y1 z1
    · exact absurd y1 z1
  · rcases hc with ⟨y1, y2, -⟩ | ⟨y1, y2, y3, -⟩ | ⟨y1, y2, -⟩
    · exact absurd z1 y1
    · exact five (by omega) (by omega)
    · omega
  · have hl : lmt r.2.2 = 1 + cnt r.2.2 := rn_all z3
    rcases hc with ⟨y1, y2, -⟩ | ⟨y1, y2, y3, -⟩ | ⟨y1, y2, y3, y4, y5, y6⟩
    · exact absurd z1 y1
    · rcases z4 with ⟨v1, v2, -⟩ | ⟨v1, v2, -⟩
      · exact five (by omega) (by omega)
      · omega
    · rcases z4 with ⟨v1, v2, -⟩ | ⟨v1, v2, v3, v4, v5⟩
      · omega
      · rw [y6]
        exact ⟨v4, v5⟩
theorem lg_eq {x y : Int64} (e : x = y) : lg_cmp x y = 0 := by
  subst e
  unfold lg_cmp
  rw [if_neg (by exact Int64.lt_irrefl), if_pos rfl]
end LL
def lz (C0 C1 : Nat) : am_r → Prop := fun r => r.1 = .inl (some (.inl 1)) ∧ r.2.2.1 ≤ C0 + 3084 ∧ r.2.2.2 ≤ C1 + 3084
theorem law_loop (Y : am_y) (hY : Y.2.length ≤ 3072) (C0 C1 : Nat) : ∀ (n : Nat) {lv : am_l} {h : am_h} {c s : Nat} {F : rf_f} {A : rf_A} {T : Int} {i : Int32} {tx : List Int × List Int}, (3078 - i.toInt).toNat = n → am_get lv 0 = some (.inr (.inr (some 0))) → am_get lv 1 = some (.inr (.inr (some 1))) → am_get lv 2 = some (.inr (.inr (some 81))) → am_get lv 3 = some (.inr (.inr (some 122))) → am_get lv 4 = some (.inl i) → am_okL h.length lv = true → ty_H h → oc h → tlh h tx → rf_R h F A → ri F A T tx → (200 ≤ T ∧ T ≤ 200 + 61 * i.toInt) → (0 ≤ i.toInt ∧ i.toInt ≤ 3078) → (c + ob_P h ≤ C0 + i.toInt.toNat ∧ s + ob_P h ≤ C1 + i.toInt.toNat) → am_Ok (am_GL Y) 260 281 (23, lv, [], h, c, s) (lz C0 C1) := by
  intro n
  induction n using Nat.strongRecOn with
  | ind n ih =>
    intro lv h c s F A T i tx hn g0 g1 g2 g3 g4 hL hT ho ht hR hi hTT hib hc
    refine k_iload 25 rfl g4 rfl ?_
    refine k_aload 26 rfl g0 rfl ?_
    refine k_slen 27 rfl rfl ?_
    refine k_push 29 rfl rfl ?_
    have hlen : (Int32.ofNat Y.2.length).toInt = (Y.2.length : Int) := iv_n _ (by omega)
    have hl6 : (Int32.ofNat Y.2.length - 6).toInt = (Y.2.length : Int) - 6 := by rw [iv_sub (by rw [hlen, show (6 : Int32).toInt = 6 by decide]; omega) (by rw [hlen, show (6 : Int32).toInt = 6 by decide]; omega), hlen, show (6 : Int32).toInt = 6 by decide]
    refine k_bin _ 30 rfl rfl rfl ?_
    by_cases b0 : Int32.ofNat Y.2.length - 6 < i
    · refine k_c2 718 rfl rfl (if_pos b0) ?_
      refine k_push 719 rfl rfl ?_
      exact k_fin rfl rfl ⟨rfl, by show c ≤ _; omega, by show s ≤ _; omega⟩
    refine k_c2 33 rfl rfl (if_neg b0) ?_
    have hi6 : 0 ≤ i.toInt ∧ i.toInt + 6 ≤ (Y.2.length : Int) := by
      rw [iv_lt, hl6] at b0
      omega
    have next : ∀ {lv : am_l} {h : am_h} {c s : Nat} {F : rf_f} {A : rf_A} {T : Int} {tx : List Int × List Int}, am_get lv 0 = some (.inr (.inr (some 0))) → am_get lv 1 = some (.inr (.inr (some 1))) → am_get lv 2 = some (.inr (.inr (some 81))) → am_get lv 3 = some (.inr (.inr (some 122))) → am_get lv 4 = some (.inl i) → am_okL h.length lv = true → ty_H h → oc h → tlh h tx → rf_R h F A → ri F A T tx → (200 ≤ T ∧ T ≤ 200 + 61 * (i.toInt + 6)) → (c + ob_P h ≤ C0 + (i.toInt.toNat + 6) ∧ s + ob_P h ≤ C1 + (i.toInt.toNat + 6)) → am_Ok (am_GL Y) 260 281 (712, lv, [], h, c, s) (lz C0 C1) := by
      intro lv h c s F A T tx g0 g1 g2 g3 g4 hL hT ho ht hR hi hTT hc
      have h6 : (i + 6).toInt = i.toInt + 6 := by rw [iv_add (by rw [show (6 : Int32).toInt = 6 by decide]; omega) (by rw [show (6 : Int32).toInt = 6 by decide]; omega), show (6 : Int32).toInt = 6 by decide]
      refine k_iinc (i + 6) 715 rfl g4 rfl rfl ?_
      refine k_goto 23 rfl rfl ?_
      exact ih _ (show (3078 - (i + 6).toInt).toNat < n by omega) rfl (gs_ne rfl rfl g0) (gs_ne rfl rfl g1) (gs_ne rfl rfl g2) (gs_ne rfl rfl g3) gs_eq (okL_set rfl hL) hT ho ht hR hi (by omega) (by omega) (by omega)
    refine k_aload 34 rfl g0 rfl ?_
    refine k_iload 36 rfl g4 rfl ?_
    refine k_sld 37 rfl (ix_0 hi6).1 (ix_0 hi6).2 rfl rfl ?_
    refine k_push 39 rfl rfl ?_
    obtain ⟨x, hx⟩ : ∃ x : Int32, x = Y.2.getD i.toNatClampNeg 0 &&& 31 := ⟨_, rfl⟩
    refine k_bin x 40 rfl hx.symm rfl ?_
    by_cases bb : x.toInt < 0 ∨ 16 < x.toInt
    · refine k_sw 712 rfl (if_pos bb) ?_
      exact next g0 g1 g2 g3 g4 hL hT ho ht hR hi (by omega) (by omega)
    have bb : x.toInt = 0 ∨ x.toInt = 1 ∨ x.toInt = 2 ∨ x.toInt = 3 ∨ x.toInt = 4 ∨ x.toInt = 5 ∨ x.toInt = 6 ∨ x.toInt = 7 ∨ x.toInt = 8 ∨ x.toInt = 9 ∨ x.toInt = 10 ∨ x.toInt = 11 ∨ x.toInt = 12 ∨ x.toInt = 13 ∨ x.toInt = 14 ∨ x.toInt = 15 ∨ x.toInt = 16 := by omega
    have hz : (tx.1.length : Int) ≤ 700 := by have a := hi.2.2.2.2.2.2.1.1; have b := hi.2.2.2.2.2.2.1.2.1; omega
    rcases bb with bb | bb | bb | bb | bb | bb | bb | bb | bb | bb | bb | bb | bb | bb | bb | bb | bb
    · refine k_sw 124 rfl (by unfold am_tb; rw [bb]; decide) ?_
      refine k_aload 125 rfl g1 rfl ?_
      refine k_aload 126 rfl g0 rfl ?_
      refine k_iload 128 rfl g4 rfl ?_
      refine k_push 129 rfl rfl ?_
      refine k_bin _ 130 rfl rfl rfl ?_
      refine k_sld 131 rfl (ix_ok (k := 1) (kk := 1) (by decide) (by decide) hi6 hY).1 (ix_ok (k := 1) (kk := 1) (by decide) (by decide) hi6 hY).2 rfl rfl ?_
      refine k_aload 132 rfl g0 rfl ?_
      refine k_iload 134 rfl g4 rfl ?_
      refine k_push 135 rfl rfl ?_
      refine k_bin _ 136 rfl rfl rfl ?_
      refine k_sld 137 rfl (ix_ok (k := 2) (kk := 2) (by decide) (by decide) hi6 hY).1 (ix_ok (k := 2) (kk := 2) (by decide) (by decide) hi6 hY).2 rfl rfl ?_
      refine k_aload 138 rfl g0 rfl ?_
      refine k_iload 140 rfl g4 rfl ?_
      refine k_push 141 rfl rfl ?_
      refine k_bin _ 142 rfl rfl rfl ?_
      refine k_sld 143 rfl (ix_ok (k := 3) (kk := 3) (by decide) (by decide) hi6 hY).1 (ix_ok (k := 3) (kk := 3) (by decide) (by decide) hi6 hY).2 rfl rfl ?_
      refine k_aload 144 rfl g0 rfl ?_
      refine k_iload 146 rfl g4 rfl ?_
      refine k_push 147 rfl rfl ?_
      refine k_bin _ 148 rfl rfl rfl ?_
      refine k_sld 149 rfl (ix_ok (k := 4) (kk := 4) (by decide) (by decide) hi6 hY).1 (ix_ok (k := 4) (kk := 4) (by decide) (by decide) hi6 hY).2 rfl rfl ?_
      refine k_aload 150 rfl g0 rfl ?_
      refine k_iload 152 rfl g4 rfl ?_
      refine k_push 153 rfl rfl ?_
      refine k_bin _ 154 rfl rfl rfl ?_
      refine k_sld 155 rfl (ix_ok (k := 5) (kk := 5) (by decide) (by decide) hi6 hY).1 (ix_ok (k := 5) (kk := 5) (by decide) (by decide) hi6 hY).2 rfl rfl ?_
      refine k_call0 rfl (n_X9_feed rfl rfl rfl rfl rfl (by rw [ht.2.1]; exact hz) (ht.xR hT)) rfl rfl rfl (hT.rc ob_91 rfl) ?_
      rintro _ ⟨y, h1, c1, s1, F9, A9, rfl, hI, hans, hF9, hA9⟩
      rw [ht.2.1] at hans
      have hp9 : pqb h1 = true := F_pq hI.1 (by rw [hF9]; exact pq_F (ht.xR hT) ht.2.2.2)
      have htt : tlh h1 (A9 2, tx.2) := by have h9 := hI.1.tlh hp9; rw [hA9 46 (by decide), ht.2.2.1] at h9; exact h9
      refine ⟨Or.inr ⟨hL, rfl⟩, Or.inl ⟨_, rfl, ?_⟩⟩
      have hT1 : ty_H h1 := hI.1.1
      have ho1 : oc h1 := by obtain ⟨xs, e8, e9⟩ := ho; exact ⟨xs, by rw [hI.2.1.2 122 (Or.inr ⟨by omega, by omega⟩)]; exact e8, e9⟩
      have hc2 : c1 + ob_P h1 ≤ ob_P h + 6 ∧ s1 + ob_P h1 ≤ ob_P h + 6 := ⟨Nat.le_trans hI.2.2.1 (by omega), Nat.le_trans hI.2.2.2 (by omega)⟩
      have hR1 : rf_R h1 F A := hR.cg (fun a q1 q2 => hI.2.1.2 a (Or.inr ⟨q1, by omega⟩))
      have hL1 : am_okL h1.length lv = true := okL_le hI.2.1.1 hL
      show am_Ok _ _ _ (158, lv, [.inl y], h1, c + c1, s + s1) _
      refine k_pop 159 rfl rfl rfl ?_
      refine k_aload 160 rfl g2 rfl ?_
      refine k_aload 161 rfl g0 rfl ?_
      refine k_iload 163 rfl g4 rfl ?_
      refine k_push 164 rfl rfl ?_
      refine k_bin _ 165 rfl rfl rfl ?_
      refine k_sld 166 rfl (ix_ok (k := 1) (kk := 1) (by decide) (by decide) hi6 hY).1 (ix_ok (k := 1) (kk := 1) (by decide) (by decide) hi6 hY).2 rfl rfl ?_
      refine k_aload 167 rfl g0 rfl ?_
      refine k_iload 169 rfl g4 rfl ?_
      refine k_push 170 rfl rfl ?_
      refine k_bin _ 171 rfl rfl rfl ?_
      refine k_sld 172 rfl (ix_ok (k := 2) (kk := 2) (by decide) (by decide) hi6 hY).1 (ix_ok (k := 2) (kk := 2) (by decide) (by decide) hi6 hY).2 rfl rfl ?_
      refine k_aload 173 rfl g0 rfl ?_
      refine k_iload 175 rfl g4 rfl ?_
      refine k_push 176 rfl rfl ?_
      refine k_bin _ 177 rfl rfl rfl ?_
      refine k_sld 178 rfl (ix_ok (k := 3) (kk := 3) (by decide) (by decide) hi6 hY).1 (ix_ok (k := 3) (kk := 3) (by decide) (by decide) hi6 hY).2 rfl rfl ?_
      refine k_aload 179 rfl g0 rfl ?_
      refine k_iload 181 rfl g4 rfl ?_
      refine k_push 182 rfl rfl ?_
      refine k_bin _ 183 rfl rfl rfl ?_
      refine k_sld 184 rfl (ix_ok (k := 4) (kk := 4) (by decide) (by decide) hi6 hY).1 (ix_ok (k := 4) (kk := 4) (by decide) (by decide) hi6 hY).2 rfl rfl ?_
      refine k_aload 185 rfl g0 rfl ?_
      refine k_iload 187 rfl g4 rfl ?_
      refine k_push 188 rfl rfl ?_
      refine k_bin _ 189 rfl rfl rfl ?_
      refine k_sld 190 rfl (ix_ok (k := 5) (kk := 5) (by decide) (by decide) hi6 hY).1 (ix_ok (k := 5) (kk := 5) (by decide) (by decide) hi6 hY).2 rfl rfl ?_
      refine k_call0 rfl (q_feed hR1 hi) rfl rfl rfl (rf_I.start hR1).rc ?_
      rintro _ ⟨x2, h2, F2, A2, rfl, hI2, hi2⟩
      obtain ⟨hT2, hP2, ht2⟩ := ty_rf hT1 hI2.2 hI2.1
      refine ⟨Or.inl hI2.2.1, Or.inl ⟨_, rfl, ?_⟩⟩
      rw [← hI2.2.1] at hL1
      show am_Ok _ _ _ (193, _, [.inl x2], h2, c + c1 + 0, s + s1 + 0) _
      refine k_pop 194 rfl rfl rfl ?_
      refine k_goto 712 rfl rfl ?_
      have ht9 : tlh h2 (A9 2, tx.2) := ht2 _ htt
      rcases hans with ⟨t1, t2, t3⟩ | ⟨t1, t2, t3⟩
      · rcases hi2 with ⟨u1, u2⟩ | ⟨u1, u2⟩
        · exfalso; omega
        · rw [t3] at ht9
          exact next (T := T) g0 g1 g2 g3 g4 hL1 hT2 (ho1.rf hI2.2) ht9 hI2.1 u2 (by omega) (by have hP3 : ob_P h2 = ob_P h1 := hP2; omega)
      · rcases hi2 with ⟨u1, u2⟩ | ⟨u1, u2⟩
        · rw [t3] at ht9
          exact next (T := T) g0 g1 g2 g3 g4 hL1 hT2 (ho1.rf hI2.2) ht9 hI2.1 u2 (by omega) (by have hP3 : ob_P h2 = ob_P h1 := hP2; omega)
        · exfalso; omega
    · refine k_sw 197 rfl (by unfold am_tb; rw [bb]; decide) ?_
      refine k_aload 198 rfl g1 rfl ?_
      refine k_aload 199 rfl g0 rfl ?_
      refine k_iload 201 rfl g4 rfl ?_
      refine k_push 202 rfl rfl ?_
      refine k_bin _ 203 rfl rfl rfl ?_
      refine k_sld 204 rfl (ix_ok (k := 1) (kk := 1) (by decide) (by decide) hi6 hY).1 (ix_ok (k := 1) (kk := 1) (by decide) (by decide) hi6 hY).2 rfl rfl ?_
      refine k_aload 205 rfl g3 rfl ?_
      refine k_call0 rfl (l_tell hT ho ht) rfl rfl rfl rfl ?_
      rintro ⟨r1, h1, c1, s1⟩ ⟨y, e1, hT1, hl1, hf1, ho1, hc1, ht1⟩
      refine ⟨Or.inr ⟨hL, rfl⟩, Or.inl ⟨_, e1, ?_⟩⟩
      have hc2 : c1 + ob_P h1 ≤ ob_P h + 6 ∧ s1 + ob_P h1 ≤ ob_P h + 6 := hc1
      have hR1 : rf_R h1 F A := hR.cg (fun a q1 q2 => hf1 a (Or.inr ⟨q1, q2⟩))
      have hL1 : am_okL h1.length lv = true := okL_le hl1 hL
      show am_Ok _ _ _ (208, lv, [.inl y], h1, c + c1, s + s1) _
      refine k_istore 210 rfl rfl ?_
      refine k_aload 211 rfl (gs_ne rfl rfl g2) rfl ?_
      refine k_aload 212 rfl (gs_ne rfl rfl g0) rfl ?_
      refine k_iload 214 rfl (gs_ne rfl rfl g4) rfl ?_
      refine k_push 215 rfl rfl ?_
      refine k_bin _ 216 rfl rfl rfl ?_
      refine k_sld 217 rfl (ix_ok (k := 1) (kk := 1) (by decide) (by decide) hi6 hY).1 (ix_ok (k := 1) (kk := 1) (by decide) (by decide) hi6 hY).2 rfl rfl ?_
      refine k_call0 rfl (q_tell hR1 hi (by omega)) rfl rfl rfl (rf_I.start hR1).rc ?_
      rintro _ ⟨x2, h2, F2, A2, rfl, hI2, hi2⟩
      obtain ⟨hT2, hP2, ht2⟩ := ty_rf hT1 hI2.2 hI2.1
      refine ⟨Or.inl hI2.2.1, Or.inl ⟨_, rfl, ?_⟩⟩
      rw [← hI2.2.1] at hL1
      show am_Ok _ _ _ (220, _, [.inl x2], h2, c + c1 + 0, s + s1 + 0) _
      refine k_istore 222 rfl rfl ?_
      refine k_goto 712 rfl rfl ?_
      rcases ht1 with ⟨t1, t2, t3, L9, x9, t5, t6⟩ | ⟨t1, t2, t3⟩
      · rcases hi2 with ⟨u1, u2, u3, u4, u5⟩ | ⟨u1, u2⟩
        · exact next (T := T) (gs_ne rfl rfl (gs_ne rfl rfl g0)) (gs_ne rfl rfl (gs_ne rfl rfl g1)) (gs_ne rfl rfl (gs_ne rfl rfl g2)) (gs_ne rfl rfl (gs_ne rfl rfl g3)) (gs_ne rfl rfl (gs_ne rfl rfl g4)) (okL_set rfl (okL_set rfl hL1)) hT2 (ho1.rf hI2.2) (ht2 _ t5) hI2.1 (u3 _ (tell_eq t6 u4 u5)) (by omega) (by have hP3 : ob_P h2 = ob_P h1 := hP2; omega)
        · exfalso; omega
      · rcases hi2 with ⟨u1, u2, u3, u4, u5⟩ | ⟨u1, u2⟩
        · exfalso; omega
        · exact next (T := T) (gs_ne rfl rfl (gs_ne rfl rfl g0)) (gs_ne rfl rfl (gs_ne rfl rfl g1)) (gs_ne rfl rfl (gs_ne rfl rfl g2)) (gs_ne rfl rfl (gs_ne rfl rfl g3)) (gs_ne rfl rfl (gs_ne rfl rfl g4)) (okL_set rfl (okL_set rfl hL1)) hT2 (ho1.rf hI2.2) (ht2 _ t3) hI2.1 u2 (by omega) (by have hP3 : ob_P h2 = ob_P h1 := hP2; omega)
    · refine k_sw 225 rfl (by unfold am_tb; rw [bb]; decide) ?_
      refine k_aload 226 rfl g1 rfl ?_
      refine k_call0 rfl (c_X9_fault hT ob_91) rfl rfl rfl (hT.rc ob_91 rfl) ?_
      rintro ⟨r1, h1, c1, s1⟩ ⟨⟨v, e1, w, e2, y, e3⟩, hI⟩
      subst e2
      subst e3
      have htt : tlh h1 tx := tlh_fr hI.2.1 (by decide) (by decide) tx ht
      refine ⟨Or.inr ⟨hL, rfl⟩, Or.inl ⟨_, e1, ?_⟩⟩
      have hT1 : ty_H h1 := hI.1
      have ho1 : oc h1 := ho.fr hI.2.1
      have hc2 : c1 + ob_P h1 ≤ ob_P h + 6 ∧ s1 + ob_P h1 ≤ ob_P h + 6 := ⟨Nat.le_trans hI.2.2.1 (by omega), Nat.le_trans hI.2.2.2 (by omega)⟩
      have hR1 : rf_R h1 F A := hR.cg (fun a q1 q2 => hI.2.1.2.1 a (Or.inr ⟨q1, by omega⟩))
      have hL1 : am_okL h1.length lv = true := okL_le hI.2.1.1 hL
      show am_Ok _ _ _ (229, lv, [.inl y], h1, c + c1, s + s1) _
      refine k_pop 230 rfl rfl rfl ?_
      refine k_aload 231 rfl g2 rfl ?_
      refine k_call0 rfl (q_fault hR1 hi) rfl rfl rfl (rf_I.start hR1).rc ?_
      rintro _ ⟨x2, h2, F2, A2, rfl, hI2, hi2⟩
      obtain ⟨hT2, hP2, ht2⟩ := ty_rf hT1 hI2.2 hI2.1
      refine ⟨Or.inl hI2.2.1, Or.inl ⟨_, rfl, ?_⟩⟩
      rw [← hI2.2.1] at hL1
      show am_Ok _ _ _ (234, _, [.inl x2], h2, c + c1 + 0, s + s1 + 0) _
      refine k_pop 235 rfl rfl rfl ?_
      refine k_goto 712 rfl rfl ?_
      exact next (T := T) g0 g1 g2 g3 g4 hL1 hT2 (ho1.rf hI2.2) (ht2 _ htt) hI2.1 hi2 (by omega) (by have hP3 : ob_P h2 = ob_P h1 := hP2; omega)
    · refine k_sw 238 rfl (by unfold am_tb; rw [bb]; decide) ?_
      refine k_aload 239 rfl g1 rfl ?_
      refine k_call0 rfl (c_X9_again hT ob_91) rfl rfl rfl (hT.rc ob_91 rfl) ?_
      rintro ⟨r1, h1, c1, s1⟩ ⟨⟨v, e1, w, e2, y, e3⟩, hI⟩
      subst e2
      subst e3
      have htt : tlh h1 tx := tlh_fr hI.2.1 (by decide) (by decide) tx ht
      refine ⟨Or.inr ⟨hL, rfl⟩, Or.inl ⟨_, e1, ?_⟩⟩
      have hT1 : ty_H h1 := hI.1
      have ho1 : oc h1 := ho.fr hI.2.1
      have hc2 : c1 + ob_P h1 ≤ ob_P h + 6 ∧ s1 + ob_P h1 ≤ ob_P h + 6 := ⟨Nat.le_trans hI.2.2.1 (by omega), Nat.le_trans hI.2.2.2 (by omega)⟩
      have hR1 : rf_R h1 F A := hR.cg (fun a q1 q2 => hI.2.1.2.1 a (Or.inr ⟨q1, by omega⟩))
      have hL1 : am_okL h1.length lv = true := okL_le hI.2.1.1 hL
      show am_Ok _ _ _ (242, lv, [.inl y], h1, c + c1, s + s1) _
      refine k_pop 243 rfl rfl rfl ?_
      refine k_aload 244 rfl g2 rfl ?_
      refine k_call0 rfl (q_again hR1 hi) rfl rfl rfl (rf_I.start hR1).rc ?_
      rintro _ ⟨x2, h2, F2, A2, rfl, hI2, hi2⟩
      obtain ⟨hT2, hP2, ht2⟩ := ty_rf hT1 hI2.2 hI2.1
      refine ⟨Or.inl hI2.2.1, Or.inl ⟨_, rfl, ?_⟩⟩
      rw [← hI2.2.1] at hL1
      show am_Ok _ _ _ (247, _, [.inl x2], h2, c + c1 + 0, s + s1 + 0) _
      refine k_pop 248 rfl rfl rfl ?_
      refine k_goto 712 rfl rfl ?_
      exact next (T := 200) g0 g1 g2 g3 g4 hL1 hT2 (ho1.rf hI2.2) (ht2 _ htt) hI2.1 hi2 (by omega) (by have hP3 : ob_P h2 = ob_P h1 := hP2; omega)
    · refine k_sw 251 rfl (by unfold am_tb; rw [bb]; decide) ?_
      refine k_aload 252 rfl g1 rfl ?_
      refine k_aload 253 rfl g0 rfl ?_
      refine k_iload 255 rfl g4 rfl ?_
      refine k_push 256 rfl rfl ?_
      refine k_bin _ 257 rfl rfl rfl ?_
      refine k_sld 258 rfl (ix_ok (k := 1) (kk := 1) (by decide) (by decide) hi6 hY).1 (ix_ok (k := 1) (kk := 1) (by decide) (by decide) hi6 hY).2 rfl rfl ?_
      refine k_aload 259 rfl g3 rfl ?_
      refine k_call0 rfl (l_step hT ho) rfl rfl rfl rfl ?_
      rintro ⟨r1, h1, c1, s1⟩ ⟨y, e1, hT1, hl1, hf1, ho1, hc1, ht1⟩
      refine ⟨Or.inr ⟨hL, rfl⟩, Or.inl ⟨_, e1, ?_⟩⟩
      have hc2 : c1 + ob_P h1 ≤ ob_P h + 6 ∧ s1 + ob_P h1 ≤ ob_P h + 6 := hc1
      have htt : tlh h1 tx := ht1 tx ht
      have hR1 : rf_R h1 F A := hR.cg (fun a q1 q2 => hf1 a (Or.inr ⟨q1, q2⟩))
      have hL1 : am_okL h1.length lv = true := okL_le hl1 hL
      show am_Ok _ _ _ (262, lv, [.inl y], h1, c + c1, s + s1) _
      refine k_istore 264 rfl rfl ?_
      refine k_aload 265 rfl (gs_ne rfl rfl g2) rfl ?_
      refine k_aload 266 rfl (gs_ne rfl rfl g0) rfl ?_
      refine k_iload 268 rfl (gs_ne rfl rfl g4) rfl ?_
      refine k_push 269 rfl rfl ?_
      refine k_bin _ 270 rfl rfl rfl ?_
      refine k_sld 271 rfl (ix_ok (k := 1) (kk := 1) (by decide) (by decide) hi6 hY).1 (ix_ok (k := 1) (kk := 1) (by decide) (by decide) hi6 hY).2 rfl rfl ?_
      refine k_call0 rfl (q_step hR1 hi (by omega)) rfl rfl rfl (rf_I.start hR1).rc ?_
      rintro _ ⟨x2, h2, F2, A2, rfl, hI2, hi2⟩
      obtain ⟨hT2, hP2, ht2⟩ := ty_rf hT1 hI2.2 hI2.1
      refine ⟨Or.inl hI2.2.1, Or.inl ⟨_, rfl, ?_⟩⟩
      rw [← hI2.2.1] at hL1
      show am_Ok _ _ _ (274, _, [.inl x2], h2, c + c1 + 0, s + s1 + 0) _
      refine k_istore 276 rfl rfl ?_
      refine k_goto 712 rfl rfl ?_
      exact next (T := T + 1) (gs_ne rfl rfl (gs_ne rfl rfl g0)) (gs_ne rfl rfl (gs_ne rfl rfl g1)) (gs_ne rfl rfl (gs_ne rfl rfl g2)) (gs_ne rfl rfl (gs_ne rfl rfl g3)) (gs_ne rfl rfl (gs_ne rfl rfl g4)) (okL_set rfl (okL_set rfl hL1)) hT2 (ho1.rf hI2.2) (ht2 _ htt) hI2.1 hi2 (by omega) (by have hP3 : ob_P h2 = ob_P h1 := hP2; omega)
    · refine k_sw 279 rfl (by unfold am_tb; rw [bb]; decide) ?_
      refine k_aload 280 rfl g1 rfl ?_
      refine k_aload 281 rfl g0 rfl ?_
      refine k_iload 283 rfl g4 rfl ?_
      refine k_push 284 rfl rfl ?_
      refine k_bin _ 285 rfl rfl rfl ?_
      refine k_sld 286 rfl (ix_ok (k := 1) (kk := 1) (by decide) (by decide) hi6 hY).1 (ix_ok (k := 1) (kk := 1) (by decide) (by decide) hi6 hY).2 rfl rfl ?_
      refine k_aload 287 rfl g0 rfl ?_
      refine k_iload 289 rfl g4 rfl ?_
      refine k_push 290 rfl rfl ?_
      refine k_bin _ 291 rfl rfl rfl ?_
      refine k_sld 292 rfl (ix_ok (k := 2) (kk := 2) (by decide) (by decide) hi6 hY).1 (ix_ok (k := 2) (kk := 2) (by decide) (by decide) hi6 hY).2 rfl rfl ?_
      refine k_aload 293 rfl g3 rfl ?_
      refine k_call0 rfl (l_run hT ho) rfl rfl rfl rfl ?_
      rintro ⟨r1, h1, c1, s1⟩ ⟨y, e1, hT1, hl1, hf1, ho1, hc1, ht1⟩
      refine ⟨Or.inr ⟨hL, rfl⟩, Or.inl ⟨_, e1, ?_⟩⟩
      have hc2 : c1 + ob_P h1 ≤ ob_P h + 6 ∧ s1 + ob_P h1 ≤ ob_P h + 6 := hc1
      have htt : tlh h1 tx := ht1 tx ht
      have hR1 : rf_R h1 F A := hR.cg (fun a q1 q2 => hf1 a (Or.inr ⟨q1, q2⟩))
      have hL1 : am_okL h1.length lv = true := okL_le hl1 hL
      show am_Ok _ _ _ (296, lv, [.inl y], h1, c + c1, s + s1) _
      refine k_istore 298 rfl rfl ?_
      refine k_aload 299 rfl (gs_ne rfl rfl g2) rfl ?_
      refine k_aload 300 rfl (gs_ne rfl rfl g0) rfl ?_
      refine k_iload 302 rfl (gs_ne rfl rfl g4) rfl ?_
      refine k_push 303 rfl rfl ?_
      refine k_bin _ 304 rfl rfl rfl ?_
      refine k_sld 305 rfl (ix_ok (k := 1) (kk := 1) (by decide) (by decide) hi6 hY).1 (ix_ok (k := 1) (kk := 1) (by decide) (by decide) hi6 hY).2 rfl rfl ?_
      refine k_aload 306 rfl (gs_ne rfl rfl g0) rfl ?_
      refine k_iload 308 rfl (gs_ne rfl rfl g4) rfl ?_
      refine k_push 309 rfl rfl ?_
      refine k_bin _ 310 rfl rfl rfl ?_
      refine k_sld 311 rfl (ix_ok (k := 2) (kk := 2) (by decide) (by decide) hi6 hY).1 (ix_ok (k := 2) (kk := 2) (by decide) (by decide) hi6 hY).2 rfl rfl ?_
      refine k_call0 rfl (q_run hR1 hi (by omega)) rfl rfl rfl (rf_I.start hR1).rc ?_
      rintro _ ⟨x2, h2, F2, A2, rfl, hI2, hi2⟩
      obtain ⟨hT2, hP2, ht2⟩ := ty_rf hT1 hI2.2 hI2.1
      refine ⟨Or.inl hI2.2.1, Or.inl ⟨_, rfl, ?_⟩⟩
      rw [← hI2.2.1] at hL1
      show am_Ok _ _ _ (314, _, [.inl x2], h2, c + c1 + 0, s + s1 + 0) _
      refine k_istore 316 rfl rfl ?_
      refine k_goto 712 rfl rfl ?_
      exact next (T := T + 61) (gs_ne rfl rfl (gs_ne rfl rfl g0)) (gs_ne rfl rfl (gs_ne rfl rfl g1)) (gs_ne rfl rfl (gs_ne rfl rfl g2)) (gs_ne rfl rfl (gs_ne rfl rfl g3)) (gs_ne rfl rfl (gs_ne rfl rfl g4)) (okL_set rfl (okL_set rfl hL1)) hT2 (ho1.rf hI2.2) (ht2 _ htt) hI2.1 hi2 (by omega) (by have hP3 : ob_P h2 = ob_P h1 := hP2; omega)
    · refine k_sw 319 rfl (by unfold am_tb; rw [bb]; decide) ?_
      refine k_aload 320 rfl g1 rfl ?_
      refine k_aload 321 rfl g0 rfl ?_
      refine k_iload 323 rfl g4 rfl ?_
      refine k_push 324 rfl rfl ?_
      refine k_bin _ 325 rfl rfl rfl ?_
      refine k_sld 326 rfl (ix_ok (k := 1) (kk := 1) (by decide) (by decide) hi6 hY).1 (ix_ok (k := 1) (kk := 1) (by decide) (by decide) hi6 hY).2 rfl rfl ?_
      refine k_aload 327 rfl g3 rfl ?_
      refine k_call0 rfl (l_count hT ho) rfl rfl rfl rfl ?_
      rintro ⟨r1, h1, c1, s1⟩ ⟨y, e1, hT1, hl1, hf1, ho1, hc1, ht1⟩
      refine ⟨Or.inr ⟨hL, rfl⟩, Or.inl ⟨_, e1, ?_⟩⟩
      have hc2 : c1 + ob_P h1 ≤ ob_P h + 6 ∧ s1 + ob_P h1 ≤ ob_P h + 6 := hc1
      have htt : tlh h1 tx := ht1 tx ht
      have hR1 : rf_R h1 F A := hR.cg (fun a q1 q2 => hf1 a (Or.inr ⟨q1, q2⟩))
      have hL1 : am_okL h1.length lv = true := okL_le hl1 hL
      show am_Ok _ _ _ (330, lv, [.inl y], h1, c + c1, s + s1) _
      refine k_istore 332 rfl rfl ?_
      refine k_aload 333 rfl (gs_ne rfl rfl g2) rfl ?_
      refine k_aload 334 rfl (gs_ne rfl rfl g0) rfl ?_
      refine k_iload 336 rfl (gs_ne rfl rfl g4) rfl ?_
      refine k_push 337 rfl rfl ?_
      refine k_bin _ 338 rfl rfl rfl ?_
      refine k_sld 339 rfl (ix_ok (k := 1) (kk := 1) (by decide) (by decide) hi6 hY).1 (ix_ok (k := 1) (kk := 1) (by decide) (by decide) hi6 hY).2 rfl rfl ?_
      refine k_call0 rfl (q_count hR1 hi) rfl rfl rfl (rf_I.start hR1).rc ?_
      rintro _ ⟨x2, h2, F2, A2, rfl, hI2, hi2⟩
      obtain ⟨hT2, hP2, ht2⟩ := ty_rf hT1 hI2.2 hI2.1
      refine ⟨Or.inl hI2.2.1, Or.inl ⟨_, rfl, ?_⟩⟩
      rw [← hI2.2.1] at hL1
      show am_Ok _ _ _ (342, _, [.inl x2], h2, c + c1 + 0, s + s1 + 0) _
      refine k_istore 344 rfl rfl ?_
      refine k_goto 712 rfl rfl ?_
      exact next (T := T) (gs_ne rfl rfl (gs_ne rfl rfl g0)) (gs_ne rfl rfl (gs_ne rfl rfl g1)) (gs_ne rfl rfl (gs_ne rfl rfl g2)) (gs_ne rfl rfl (gs_ne rfl rfl g3)) (gs_ne rfl rfl (gs_ne rfl rfl g4)) (okL_set rfl (okL_set rfl hL1)) hT2 (ho1.rf hI2.2) (ht2 _ htt) hI2.1 hi2 (by omega) (by have hP3 : ob_P h2 = ob_P h1 := hP2; omega)
    · refine k_sw 347 rfl (by unfold am_tb; rw [bb]; decide) ?_
      refine k_aload 348 rfl g1 rfl ?_
      refine k_aload 349 rfl g0 rfl ?_
      refine k_iload 351 rfl g4 rfl ?_
      refine k_push 352 rfl rfl ?_
      refine k_bin _ 353 rfl rfl rfl ?_
      refine k_sld 354 rfl (ix_ok (k := 1) (kk := 1) (by decide) (by decide) hi6 hY).1 (ix_ok (k := 1) (kk := 1) (by decide) (by decide) hi6 hY).2 rfl rfl ?_
      refine k_aload 355 rfl g0 rfl ?_
      refine k_iload 357 rfl g4 rfl ?_
      refine k_push 358 rfl rfl ?_
      refine k_bin _ 359 rfl rfl rfl ?_
      refine k_sld 360 rfl (ix_ok (k := 2) (kk := 2) (by decide) (by decide) hi6 hY).1 (ix_ok (k := 2) (kk := 2) (by decide) (by decide) hi6 hY).2 rfl rfl ?_
      refine k_aload 361 rfl g3 rfl ?_
      refine k_call0 rfl (l_node hT ho) rfl rfl rfl rfl ?_
      rintro ⟨r1, h1, c1, s1⟩ ⟨y, e1, hT1, hl1, hf1, ho1, hc1, ht1⟩
      refine ⟨Or.inr ⟨hL, rfl⟩, Or.inl ⟨_, e1, ?_⟩⟩
      have hc2 : c1 + ob_P h1 ≤ ob_P h + 6 ∧ s1 + ob_P h1 ≤ ob_P h + 6 := hc1
      have htt : tlh h1 tx := ht1 tx ht
      have hR1 : rf_R h1 F A := hR.cg (fun a q1 q2 => hf1 a (Or.inr ⟨q1, q2⟩))
      have hL1 : am_okL h1.length lv = true := okL_le hl1 hL
      show am_Ok _ _ _ (364, lv, [.inl y], h1, c + c1, s + s1) _
      refine k_istore 366 rfl rfl ?_
      refine k_aload 367 rfl (gs_ne rfl rfl g2) rfl ?_
      refine k_aload 368 rfl (gs_ne rfl rfl g0) rfl ?_
      refine k_iload 370 rfl (gs_ne rfl rfl g4) rfl ?_
      refine k_push 371 rfl rfl ?_
      refine k_bin _ 372 rfl rfl rfl ?_
      refine k_sld 373 rfl (ix_ok (k := 1) (kk := 1) (by decide) (by decide) hi6 hY).1 (ix_ok (k := 1) (kk := 1) (by decide) (by decide) hi6 hY).2 rfl rfl ?_
      refine k_aload 374 rfl (gs_ne rfl rfl g0) rfl ?_
      refine k_iload 376 rfl (gs_ne rfl rfl g4) rfl ?_
      refine k_push 377 rfl rfl ?_
      refine k_bin _ 378 rfl rfl rfl ?_
      refine k_sld 379 rfl (ix_ok (k := 2) (kk := 2) (by decide) (by decide) hi6 hY).1 (ix_ok (k := 2) (kk := 2) (by decide) (by decide) hi6 hY).2 rfl rfl ?_
      refine k_call0 rfl (q_node hR1 hi) rfl rfl rfl (rf_I.start hR1).rc ?_
      rintro _ ⟨x2, h2, F2, A2, rfl, hI2, hi2⟩
      obtain ⟨hT2, hP2, ht2⟩ := ty_rf hT1 hI2.2 hI2.1
      refine ⟨Or.inl hI2.2.1, Or.inl ⟨_, rfl, ?_⟩⟩
      rw [← hI2.2.1] at hL1
      show am_Ok _ _ _ (382, _, [.inl x2], h2, c + c1 + 0, s + s1 + 0) _
      refine k_istore 384 rfl rfl ?_
      refine k_goto 712 rfl rfl ?_
      exact next (T := T) (gs_ne rfl rfl (gs_ne rfl rfl g0)) (gs_ne rfl rfl (gs_ne rfl rfl g1)) (gs_ne rfl rfl (gs_ne rfl rfl g2)) (gs_ne rfl rfl (gs_ne rfl rfl g3)) (gs_ne rfl rfl (gs_ne rfl rfl g4)) (okL_set rfl (okL_set rfl hL1)) hT2 (ho1.rf hI2.2) (ht2 _ htt) hI2.1 hi2 (by omega) (by have hP3 : ob_P h2 = ob_P h1 := hP2; omega)
    · refine k_sw 387 rfl (by unfold am_tb; rw [bb]; decide) ?_
      refine k_aload 388 rfl g1 rfl ?_
      refine k_aload 389 rfl g0 rfl ?_
      refine k_iload 391 rfl g4 rfl ?_
      refine k_push 392 rfl rfl ?_
      refine k_bin _ 393 rfl rfl rfl ?_
      refine k_sld 394 rfl (ix_ok (k := 1) (kk := 1) (by decide) (by decide) hi6 hY).1 (ix_ok (k := 1) (kk := 1) (by decide) (by decide) hi6 hY).2 rfl rfl ?_
      refine k_aload 395 rfl g0 rfl ?_
      refine k_iload 397 rfl g4 rfl ?_
      refine k_push 398 rfl rfl ?_
      refine k_bin _ 399 rfl rfl rfl ?_
      refine k_sld 400 rfl (ix_ok (k := 2) (kk := 2) (by decide) (by decide) hi6 hY).1 (ix_ok (k := 2) (kk := 2) (by decide) (by decide) hi6 hY).2 rfl rfl ?_
      refine k_aload 401 rfl g3 rfl ?_
      refine k_call0 rfl (l_active hT ho) rfl rfl rfl rfl ?_
      rintro ⟨r1, h1, c1, s1⟩ ⟨y, e1, hT1, hl1, hf1, ho1, hc1, ht1⟩
      refine ⟨Or.inr ⟨hL, rfl⟩, Or.inl ⟨_, e1, ?_⟩⟩
      have hc2 : c1 + ob_P h1 ≤ ob_P h + 6 ∧ s1 + ob_P h1 ≤ ob_P h + 6 := hc1
      have htt : tlh h1 tx := ht1 tx ht
      have hR1 : rf_R h1 F A := hR.cg (fun a q1 q2 => hf1 a (Or.inr ⟨q1, q2⟩))
      have hL1 : am_okL h1.length lv = true := okL_le hl1 hL
      show am_Ok _ _ _ (404, lv, [.inl y], h1, c + c1, s + s1) _
      refine k_istore 406 rfl rfl ?_
      refine k_aload 407 rfl (gs_ne rfl rfl g2) rfl ?_
      refine k_aload 408 rfl (gs_ne rfl rfl g0) rfl ?_
      refine k_iload 410 rfl (gs_ne rfl rfl g4) rfl ?_
      refine k_push 411 rfl rfl ?_
      refine k_bin _ 412 rfl rfl rfl ?_
      refine k_sld 413 rfl (ix_ok (k := 1) (kk := 1) (by decide) (by decide) hi6 hY).1 (ix_ok (k := 1) (kk := 1) (by decide) (by decide) hi6 hY).2 rfl rfl ?_
      refine k_aload 414 rfl (gs_ne rfl rfl g0) rfl ?_
      refine k_iload 416 rfl (gs_ne rfl rfl g4) rfl ?_
      refine k_push 417 rfl rfl ?_
      refine k_bin _ 418 rfl rfl rfl ?_
      refine k_sld 419 rfl (ix_ok (k := 2) (kk := 2) (by decide) (by decide) hi6 hY).1 (ix_ok (k := 2) (kk := 2) (by decide) (by decide) hi6 hY).2 rfl rfl ?_
      refine k_call0 rfl (q_active hR1 hi) rfl rfl rfl (rf_I.start hR1).rc ?_
      rintro _ ⟨x2, h2, F2, A2, rfl, hI2, hi2⟩
      obtain ⟨hT2, hP2, ht2⟩ := ty_rf hT1 hI2.2 hI2.1
      refine ⟨Or.inl hI2.2.1, Or.inl ⟨_, rfl, ?_⟩⟩
      rw [← hI2.2.1] at hL1
      show am_Ok _ _ _ (422, _, [.inl x2], h2, c + c1 + 0, s + s1 + 0) _
      refine k_istore 424 rfl rfl ?_
      refine k_goto 712 rfl rfl ?_
      exact next (T := T) (gs_ne rfl rfl (gs_ne rfl rfl g0)) (gs_ne rfl rfl (gs_ne rfl rfl g1)) (gs_ne rfl rfl (gs_ne rfl rfl g2)) (gs_ne rfl rfl (gs_ne rfl rfl g3)) (gs_ne rfl rfl (gs_ne rfl rfl g4)) (okL_set rfl (okL_set rfl hL1)) hT2 (ho1.rf hI2.2) (ht2 _ htt) hI2.1 hi2 (by omega) (by have hP3 : ob_P h2 = ob_P h1 := hP2; omega)
    · refine k_sw 427 rfl (by unfold am_tb; rw [bb]; decide) ?_
      refine k_aload 428 rfl g1 rfl ?_
      refine k_aload 429 rfl g0 rfl ?_
      refine k_iload 431 rfl g4 rfl ?_
      refine k_push 432 rfl rfl ?_
      refine k_bin _ 433 rfl rfl rfl ?_
      refine k_sld 434 rfl (ix_ok (k := 1) (kk := 1) (by decide) (by decide) hi6 hY).1 (ix_ok (k := 1) (kk := 1) (by decide) (by decide) hi6 hY).2 rfl rfl ?_
      refine k_aload 435 rfl g3 rfl ?_
      refine k_call0 rfl (l_wanted hT ho) rfl rfl rfl rfl ?_
      rintro ⟨r1, h1, c1, s1⟩ ⟨y, e1, hT1, hl1, hf1, ho1, hc1, ht1⟩
      refine ⟨Or.inr ⟨hL, rfl⟩, Or.inl ⟨_, e1, ?_⟩⟩
      have hc2 : c1 + ob_P h1 ≤ ob_P h + 6 ∧ s1 + ob_P h1 ≤ ob_P h + 6 := hc1
      have htt : tlh h1 tx := ht1 tx ht
      have hR1 : rf_R h1 F A := hR.cg (fun a q1 q2 => hf1 a (Or.inr ⟨q1, q2⟩))
      have hL1 : am_okL h1.length lv = true := okL_le hl1 hL
      show am_Ok _ _ _ (438, lv, [.inl y], h1, c + c1, s + s1) _
      refine k_istore 440 rfl rfl ?_
      refine k_aload 441 rfl (gs_ne rfl rfl g2) rfl ?_
      refine k_aload 442 rfl (gs_ne rfl rfl g0) rfl ?_
      refine k_iload 444 rfl (gs_ne rfl rfl g4) rfl ?_
      refine k_push 445 rfl rfl ?_
      refine k_bin _ 446 rfl rfl rfl ?_
      refine k_sld 447 rfl (ix_ok (k := 1) (kk := 1) (by decide) (by decide) hi6 hY).1 (ix_ok (k := 1) (kk := 1) (by decide) (by decide) hi6 hY).2 rfl rfl ?_
      refine k_call0 rfl (q_wanted hR1 hi) rfl rfl rfl (rf_I.start hR1).rc ?_
      rintro _ ⟨x2, h2, F2, A2, rfl, hI2, hi2⟩
      obtain ⟨hT2, hP2, ht2⟩ := ty_rf hT1 hI2.2 hI2.1
      refine ⟨Or.inl hI2.2.1, Or.inl ⟨_, rfl, ?_⟩⟩
      rw [← hI2.2.1] at hL1
      show am_Ok _ _ _ (450, _, [.inl x2], h2, c + c1 + 0, s + s1 + 0) _
      refine k_istore 452 rfl rfl ?_
      refine k_goto 712 rfl rfl ?_
      exact next (T := T) (gs_ne rfl rfl (gs_ne rfl rfl g0)) (gs_ne rfl rfl (gs_ne rfl rfl g1)) (gs_ne rfl rfl (gs_ne rfl rfl g2)) (gs_ne rfl rfl (gs_ne rfl rfl g3)) (gs_ne rfl rfl (gs_ne rfl rfl g4)) (okL_set rfl (okL_set rfl hL1)) hT2 (ho1.rf hI2.2) (ht2 _ htt) hI2.1 hi2 (by omega) (by have hP3 : ob_P h2 = ob_P h1 := hP2; omega)
    · refine k_sw 455 rfl (by unfold am_tb; rw [bb]; decide) ?_
      refine k_aload 456 rfl g1 rfl ?_
      refine k_aload 457 rfl g0 rfl ?_
      refine k_iload 459 rfl g4 rfl ?_
      refine k_push 460 rfl rfl ?_
      refine k_bin _ 461 rfl rfl rfl ?_
      refine k_sld 462 rfl (ix_ok (k := 1) (kk := 1) (by decide) (by decide) hi6 hY).1 (ix_ok (k := 1) (kk := 1) (by decide) (by decide) hi6 hY).2 rfl rfl ?_
      refine k_aload 463 rfl g0 rfl ?_
      refine k_iload 465 rfl g4 rfl ?_
      refine k_push 466 rfl rfl ?_
      refine k_bin _ 467 rfl rfl rfl ?_
      refine k_sld 468 rfl (ix_ok (k := 2) (kk := 2) (by decide) (by decide) hi6 hY).1 (ix_ok (k := 2) (kk := 2) (by decide) (by decide) hi6 hY).2 rfl rfl ?_
      refine k_aload 469 rfl g3 rfl ?_
      refine k_call0 rfl (l_part hT ho) rfl rfl rfl rfl ?_
      rintro ⟨r1, h1, c1, s1⟩ ⟨y, e1, hT1, hl1, hf1, ho1, hc1, ht1⟩
      refine ⟨Or.inr ⟨hL, rfl⟩, Or.inl ⟨_, e1, ?_⟩⟩
      have hc2 : c1 + ob_P h1 ≤ ob_P h + 6 ∧ s1 + ob_P h1 ≤ ob_P h + 6 := hc1
      have htt : tlh h1 tx := ht1 tx ht
      have hR1 : rf_R h1 F A := hR.cg (fun a q1 q2 => hf1 a (Or.inr ⟨q1, q2⟩))
      have hL1 : am_okL h1.length lv = true := okL_le hl1 hL
      show am_Ok _ _ _ (472, lv, [.inl y], h1, c + c1, s + s1) _
      refine k_istore 474 rfl rfl ?_
      refine k_aload 475 rfl (gs_ne rfl rfl g2) rfl ?_
      refine k_aload 476 rfl (gs_ne rfl rfl g0) rfl ?_
      refine k_iload 478 rfl (gs_ne rfl rfl g4) rfl ?_
      refine k_push 479 rfl rfl ?_
      refine k_bin _ 480 rfl rfl rfl ?_
      refine k_sld 481 rfl (ix_ok (k := 1) (kk := 1) (by decide) (by decide) hi6 hY).1 (ix_ok (k := 1) (kk := 1) (by decide) (by decide) hi6 hY).2 rfl rfl ?_
      refine k_aload 482 rfl (gs_ne rfl rfl g0) rfl ?_
      refine k_iload 484 rfl (gs_ne rfl rfl g4) rfl ?_
      refine k_push 485 rfl rfl ?_
      refine k_bin _ 486 rfl rfl rfl ?_
      refine k_sld 487 rfl (ix_ok (k := 2) (kk := 2) (by decide) (by decide) hi6 hY).1 (ix_ok (k := 2) (kk := 2) (by decide) (by decide) hi6 hY).2 rfl rfl ?_
      refine k_call0 rfl (q_part hR1 hi) rfl rfl rfl (rf_I.start hR1).rc ?_
      rintro _ ⟨x2, h2, F2, A2, rfl, hI2, hi2⟩
      obtain ⟨hT2, hP2, ht2⟩ := ty_rf hT1 hI2.2 hI2.1
      refine ⟨Or.inl hI2.2.1, Or.inl ⟨_, rfl, ?_⟩⟩
      rw [← hI2.2.1] at hL1
      show am_Ok _ _ _ (490, _, [.inl x2], h2, c + c1 + 0, s + s1 + 0) _
      refine k_istore 492 rfl rfl ?_
      refine k_goto 712 rfl rfl ?_
      exact next (T := T) (gs_ne rfl rfl (gs_ne rfl rfl g0)) (gs_ne rfl rfl (gs_ne rfl rfl g1)) (gs_ne rfl rfl (gs_ne rfl rfl g2)) (gs_ne rfl rfl (gs_ne rfl rfl g3)) (gs_ne rfl rfl (gs_ne rfl rfl g4)) (okL_set rfl (okL_set rfl hL1)) hT2 (ho1.rf hI2.2) (ht2 _ htt) hI2.1 hi2 (by omega) (by have hP3 : ob_P h2 = ob_P h1 := hP2; omega)
    · refine k_sw 495 rfl (by unfold am_tb; rw [bb]; decide) ?_
      refine k_aload 496 rfl g1 rfl ?_
      refine k_aload 497 rfl g0 rfl ?_
      refine k_iload 499 rfl g4 rfl ?_
      refine k_push 500 rfl rfl ?_
      refine k_bin _ 501 rfl rfl rfl ?_
      refine k_sld 502 rfl (ix_ok (k := 1) (kk := 1) (by decide) (by decide) hi6 hY).1 (ix_ok (k := 1) (kk := 1) (by decide) (by decide) hi6 hY).2 rfl rfl ?_
      refine k_aload 503 rfl g3 rfl ?_
      refine k_call0 rfl (l_say hT ho) rfl rfl rfl rfl ?_
      rintro ⟨r1, h1, c1, s1⟩ ⟨y, e1, hT1, hl1, hf1, ho1, hc1, ht1⟩
      refine ⟨Or.inr ⟨hL, rfl⟩, Or.inl ⟨_, e1, ?_⟩⟩
      have hc2 : c1 + ob_P h1 ≤ ob_P h + 6 ∧ s1 + ob_P h1 ≤ ob_P h + 6 := hc1
      have htt : tlh h1 tx := ht1 tx ht
      have hR1 : rf_R h1 F A := hR.cg (fun a q1 q2 => hf1 a (Or.inr ⟨q1, q2⟩))
      have hL1 : am_okL h1.length lv = true := okL_le hl1 hL
      show am_Ok _ _ _ (506, lv, [.inl y], h1, c + c1, s + s1) _
      refine k_istore 508 rfl rfl ?_
      refine k_aload 509 rfl (gs_ne rfl rfl g2) rfl ?_
      refine k_aload 510 rfl (gs_ne rfl rfl g0) rfl ?_
      refine k_iload 512 rfl (gs_ne rfl rfl g4) rfl ?_
      refine k_push 513 rfl rfl ?_
      refine k_bin _ 514 rfl rfl rfl ?_
      refine k_sld 515 rfl (ix_ok (k := 1) (kk := 1) (by decide) (by decide) hi6 hY).1 (ix_ok (k := 1) (kk := 1) (by decide) (by decide) hi6 hY).2 rfl rfl ?_
      refine k_call0 rfl (q_say hR1 hi) rfl rfl rfl (rf_I.start hR1).rc ?_
      rintro _ ⟨x2, h2, F2, A2, rfl, hI2, hi2⟩
      obtain ⟨hT2, hP2, ht2⟩ := ty_rf hT1 hI2.2 hI2.1
      refine ⟨Or.inl hI2.2.1, Or.inl ⟨_, rfl, ?_⟩⟩
      rw [← hI2.2.1] at hL1
      show am_Ok _ _ _ (518, _, [.inl x2], h2, c + c1 + 0, s + s1 + 0) _
      refine k_istore 520 rfl rfl ?_
      refine k_goto 712 rfl rfl ?_
      exact next (T := T) (gs_ne rfl rfl (gs_ne rfl rfl g0)) (gs_ne rfl rfl (gs_ne rfl rfl g1)) (gs_ne rfl rfl (gs_ne rfl rfl g2)) (gs_ne rfl rfl (gs_ne rfl rfl g3)) (gs_ne rfl rfl (gs_ne rfl rfl g4)) (okL_set rfl (okL_set rfl hL1)) hT2 (ho1.rf hI2.2) (ht2 _ htt) hI2.1 hi2 (by omega) (by have hP3 : ob_P h2 = ob_P h1 := hP2; omega)
    · refine k_sw 523 rfl (by unfold am_tb; rw [bb]; decide) ?_
      refine k_aload 524 rfl g1 rfl ?_
      refine k_aload 525 rfl g0 rfl ?_
      refine k_iload 527 rfl g4 rfl ?_
      refine k_push 528 rfl rfl ?_
      refine k_bin _ 529 rfl rfl rfl ?_
      refine k_sld 530 rfl (ix_ok (k := 1) (kk := 1) (by decide) (by decide) hi6 hY).1 (ix_ok (k := 1) (kk := 1) (by decide) (by decide) hi6 hY).2 rfl rfl ?_
      refine k_call0 rfl (c_X9_said hT ob_91) rfl rfl rfl (hT.rc ob_91 rfl) ?_
      rintro ⟨r1, h1, c1, s1⟩ ⟨⟨v, e1, w, e2, y, e3⟩, hI⟩
      subst e2
      subst e3
      have htt : tlh h1 tx := tlh_fr hI.2.1 (by decide) (by decide) tx ht
      refine ⟨Or.inr ⟨hL, rfl⟩, Or.inl ⟨_, e1, ?_⟩⟩
      have hT1 : ty_H h1 := hI.1
      have ho1 : oc h1 := ho.fr hI.2.1
      have hc2 : c1 + ob_P h1 ≤ ob_P h + 6 ∧ s1 + ob_P h1 ≤ ob_P h + 6 := ⟨Nat.le_trans hI.2.2.1 (by omega), Nat.le_trans hI.2.2.2 (by omega)⟩
      have hR1 : rf_R h1 F A := hR.cg (fun a q1 q2 => hI.2.1.2.1 a (Or.inr ⟨q1, by omega⟩))
      have hL1 : am_okL h1.length lv = true := okL_le hI.2.1.1 hL
      show am_Ok _ _ _ (533, lv, [.inl y], h1, c + c1, s + s1) _
      refine k_pop 534 rfl rfl rfl ?_
      refine k_aload 535 rfl g2 rfl ?_
      refine k_aload 536 rfl g0 rfl ?_
      refine k_iload 538 rfl g4 rfl ?_
      refine k_push 539 rfl rfl ?_
      refine k_bin _ 540 rfl rfl rfl ?_
      refine k_sld 541 rfl (ix_ok (k := 1) (kk := 1) (by decide) (by decide) hi6 hY).1 (ix_ok (k := 1) (kk := 1) (by decide) (by decide) hi6 hY).2 rfl rfl ?_
      refine k_call0 rfl (q_said hR1 hi) rfl rfl rfl (rf_I.start hR1).rc ?_
      rintro _ ⟨x2, h2, F2, A2, rfl, hI2, hi2⟩
      obtain ⟨hT2, hP2, ht2⟩ := ty_rf hT1 hI2.2 hI2.1
      refine ⟨Or.inl hI2.2.1, Or.inl ⟨_, rfl, ?_⟩⟩
      rw [← hI2.2.1] at hL1
      show am_Ok _ _ _ (544, _, [.inl x2], h2, c + c1 + 0, s + s1 + 0) _
      refine k_pop 545 rfl rfl rfl ?_
      refine k_goto 712 rfl rfl ?_
      exact next (T := T) g0 g1 g2 g3 g4 hL1 hT2 (ho1.rf hI2.2) (ht2 _ htt) hI2.1 hi2 (by omega) (by have hP3 : ob_P h2 = ob_P h1 := hP2; omega)
    · refine k_sw 548 rfl (by unfold am_tb; rw [bb]; decide) ?_
      refine k_aload 549 rfl g1 rfl ?_
      refine k_aload 550 rfl g0 rfl ?_
      refine k_iload 552 rfl g4 rfl ?_
      refine k_push 553 rfl rfl ?_
      refine k_bin _ 554 rfl rfl rfl ?_
      refine k_sld 555 rfl (ix_ok (k := 1) (kk := 1) (by decide) (by decide) hi6 hY).1 (ix_ok (k := 1) (kk := 1) (by decide) (by decide) hi6 hY).2 rfl rfl ?_
      refine k_aload 556 rfl g0 rfl ?_
      refine k_iload 558 rfl g4 rfl ?_
      refine k_push 559 rfl rfl ?_
      refine k_bin _ 560 rfl rfl rfl ?_
      refine k_sld 561 rfl (ix_ok (k := 2) (kk := 2) (by decide) (by decide) hi6 hY).1 (ix_ok (k := 2) (kk := 2) (by decide) (by decide) hi6 hY).2 rfl rfl ?_
      refine k_aload 562 rfl g3 rfl ?_
      refine k_call0 rfl (l_same hT ho) rfl rfl rfl rfl ?_
      rintro ⟨r1, h1, c1, s1⟩ ⟨y, e1, hT1, hl1, hf1, ho1, hc1, ht1⟩
      refine ⟨Or.inr ⟨hL, rfl⟩, Or.inl ⟨_, e1, ?_⟩⟩
      have hc2 : c1 + ob_P h1 ≤ ob_P h + 6 ∧ s1 + ob_P h1 ≤ ob_P h + 6 := hc1
      have htt : tlh h1 tx := ht1 tx ht
      have hR1 : rf_R h1 F A := hR.cg (fun a q1 q2 => hf1 a (Or.inr ⟨q1, q2⟩))
      have hL1 : am_okL h1.length lv = true := okL_le hl1 hL
      show am_Ok _ _ _ (565, lv, [.inl y], h1, c + c1, s + s1) _
      refine k_istore 567 rfl rfl ?_
      refine k_aload 568 rfl (gs_ne rfl rfl g2) rfl ?_
      refine k_aload 569 rfl (gs_ne rfl rfl g0) rfl ?_
      refine k_iload 571 rfl (gs_ne rfl rfl g4) rfl ?_
      refine k_push 572 rfl rfl ?_
      refine k_bin _ 573 rfl rfl rfl ?_
      refine k_sld 574 rfl (ix_ok (k := 1) (kk := 1) (by decide) (by decide) hi6 hY).1 (ix_ok (k := 1) (kk := 1) (by decide) (by decide) hi6 hY).2 rfl rfl ?_
      refine k_aload 575 rfl (gs_ne rfl rfl g0) rfl ?_
      refine k_iload 577 rfl (gs_ne rfl rfl g4) rfl ?_
      refine k_push 578 rfl rfl ?_
      refine k_bin _ 579 rfl rfl rfl ?_
      refine k_sld 580 rfl (ix_ok (k := 2) (kk := 2) (by decide) (by decide) hi6 hY).1 (ix_ok (k := 2) (kk := 2) (by decide) (by decide) hi6 hY).2 rfl rfl ?_
      refine k_call0 rfl (q_same hR1 hi) rfl rfl rfl (rf_I.start hR1).rc ?_
      rintro _ ⟨x2, h2, F2, A2, rfl, hI2, hi2⟩
      obtain ⟨hT2, hP2, ht2⟩ := ty_rf hT1 hI2.2 hI2.1
      refine ⟨Or.inl hI2.2.1, Or.inl ⟨_, rfl, ?_⟩⟩
      rw [← hI2.2.1] at hL1
      show am_Ok _ _ _ (583, _, [.inl x2], h2, c + c1 + 0, s + s1 + 0) _
      refine k_istore 585 rfl rfl ?_
      refine k_goto 712 rfl rfl ?_
      exact next (T := T) (gs_ne rfl rfl (gs_ne rfl rfl g0)) (gs_ne rfl rfl (gs_ne rfl rfl g1)) (gs_ne rfl rfl (gs_ne rfl rfl g2)) (gs_ne rfl rfl (gs_ne rfl rfl g3)) (gs_ne rfl rfl (gs_ne rfl rfl g4)) (okL_set rfl (okL_set rfl hL1)) hT2 (ho1.rf hI2.2) (ht2 _ htt) hI2.1 hi2 (by omega) (by have hP3 : ob_P h2 = ob_P h1 := hP2; omega)
    · refine k_sw 588 rfl (by unfold am_tb; rw [bb]; decide) ?_
      refine k_aload 589 rfl g1 rfl ?_
      refine k_aload 590 rfl g0 rfl ?_
      refine k_iload 592 rfl g4 rfl ?_
      refine k_push 593 rfl rfl ?_
      refine k_bin _ 594 rfl rfl rfl ?_
      refine k_sld 595 rfl (ix_ok (k := 1) (kk := 1) (by decide) (by decide) hi6 hY).1 (ix_ok (k := 1) (kk := 1) (by decide) (by decide) hi6 hY).2 rfl rfl ?_
      refine k_aload 596 rfl g3 rfl ?_
      obtain ⟨pl1, pl2, pl3, -⟩ := hi.2.2.2.2.2.2.2.ok hi.2.2.2.2.1
      refine k_call0 rfl (l_plain hT ho ht pl1 pl2 pl3) rfl rfl rfl rfl ?_
      rintro ⟨r1, h1, c1, s1⟩ ⟨y, e1, hT1, hl1, hf1, ho1, hc1, ht1⟩
      refine ⟨Or.inr ⟨hL, rfl⟩, Or.inl ⟨_, e1, ?_⟩⟩
      have hc2 : c1 + ob_P h1 ≤ ob_P h + 6 ∧ s1 + ob_P h1 ≤ ob_P h + 6 := hc1
      have hR1 : rf_R h1 F A := hR.cg (fun a q1 q2 => hf1 a (Or.inr ⟨q1, q2⟩))
      have hL1 : am_okL h1.length lv = true := okL_le hl1 hL
      show am_Ok _ _ _ (599, lv, [.inl y], h1, c + c1, s + s1) _
      refine k_istore 601 rfl rfl ?_
      refine k_aload 602 rfl (gs_ne rfl rfl g2) rfl ?_
      refine k_aload 603 rfl (gs_ne rfl rfl g0) rfl ?_
      refine k_iload 605 rfl (gs_ne rfl rfl g4) rfl ?_
      refine k_push 606 rfl rfl ?_
      refine k_bin _ 607 rfl rfl rfl ?_
      refine k_sld 608 rfl (ix_ok (k := 1) (kk := 1) (by decide) (by decide) hi6 hY).1 (ix_ok (k := 1) (kk := 1) (by decide) (by decide) hi6 hY).2 rfl rfl ?_
      refine k_call0 rfl (q_plain hR1 hi) rfl rfl rfl (rf_I.start hR1).rc ?_
      rintro _ ⟨x2, h2, F2, A2, rfl, hI2, hi2, hpl⟩
      obtain ⟨hT2, hP2, ht2⟩ := ty_rf hT1 hI2.2 hI2.1
      refine ⟨Or.inl hI2.2.1, Or.inl ⟨_, rfl, ?_⟩⟩
      rw [← hI2.2.1] at hL1
      show am_Ok _ _ _ (611, _, [.inl x2], h2, c + c1 + 0, s + s1 + 0) _
      refine k_istore 613 rfl rfl ?_
      refine k_aload 614 rfl (gs_ne rfl rfl (gs_ne rfl rfl g2)) rfl ?_
      refine k_call0 rfl (q_thrown hI2.1) rfl rfl rfl (rf_I.start hI2.1).rc ?_
      rintro _ ⟨x3, h3, F3, A3, rfl, hI3, e3, rfl, rfl⟩
      obtain ⟨hT3, hP3, ht3⟩ := ty_rf hT2 hI3.2 hI3.1
      refine ⟨Or.inl hI3.2.1, Or.inl ⟨_, rfl, ?_⟩⟩
      rw [← hI3.2.1] at hL1
      show am_Ok _ _ _ (617, _, [.inl x3], h3, c + c1 + 0 + 0, s + s1 + 0 + 0) _
      refine k_iload 619 rfl (gs_ne rfl rfl gs_eq) rfl ?_
      rcases ht1 with ⟨t1, t2, t3, t4, tx9, t5, t6⟩ | ⟨t1, t2, t3⟩
      · rcases hpl with ⟨u1, u2, u4, u5⟩ | ⟨u1, u2⟩
        · have heq : x3 = y := iv_eq.mpr (by rw [e3, u4, t3]; decide)
          refine k_c2 624 rfl rfl (if_pos heq) ?_
          refine k_iload 626 rfl (gs_ne rfl rfl gs_eq) rfl ?_
          refine k_c1 629 rfl rfl (if_pos t3) ?_
          obtain ⟨oe, ow, o1, o2, o3, o4⟩ := (t6.rf hI2.2).rf hI3.2
          refine k_aload 630 rfl (gs_ne rfl rfl (gs_ne rfl rfl g3)) rfl ?_
          refine k_push 631 rfl rfl ?_
          refine k_lald 632 rfl o1 (by decide) (by rw [o2]; decide) rfl ?_
          refine k_iload 634 rfl gs_eq rfl ?_
          refine k_un _ 635 rfl rfl rfl ?_
          refine k_binL 636 rfl rfl ?_
          have hw : ow = x2 := iv_eq.mpr (o3.trans (t5.det u5))
          refine k_c1 641 rfl rfl (if_pos (lg_eq (o4.trans (congrArg Int32.toInt64 hw)))) ?_
          refine k_goto 712 rfl rfl ?_
          exact next (T := T) (gs_ne rfl rfl (gs_ne rfl rfl g0)) (gs_ne rfl rfl (gs_ne rfl rfl g1)) (gs_ne rfl rfl (gs_ne rfl rfl g2)) (gs_ne rfl rfl (gs_ne rfl rfl g3)) (gs_ne rfl rfl (gs_ne rfl rfl g4)) (okL_set rfl (okL_set rfl hL1)) hT3 ((ho1.rf hI2.2).rf hI3.2) (ht3 _ (ht2 _ t4)) hI3.1 hi2 (by omega) (by have hPa : ob_P h2 = ob_P h1 := hP2; have hPb : ob_P h3 = ob_P h2 := hP3; omega)
        · exfalso; omega
      · rcases hpl with ⟨u1, u2, u4, u5⟩ | ⟨u1, u3⟩
        · exfalso; omega
        · have heq : x3 = y := iv_eq.mpr (by rw [e3, u3, t2]; decide)
          refine k_c2 624 rfl rfl (if_pos heq) ?_
          refine k_iload 626 rfl (gs_ne rfl rfl gs_eq) rfl ?_
          refine k_c1 641 rfl rfl (if_neg (fun z => absurd (t2.symm.trans z) (by decide))) ?_
          refine k_goto 712 rfl rfl ?_
          exact next (T := T) (gs_ne rfl rfl (gs_ne rfl rfl g0)) (gs_ne rfl rfl (gs_ne rfl rfl g1)) (gs_ne rfl rfl (gs_ne rfl rfl g2)) (gs_ne rfl rfl (gs_ne rfl rfl g3)) (gs_ne rfl rfl (gs_ne rfl rfl g4)) (okL_set rfl (okL_set rfl hL1)) hT3 ((ho1.rf hI2.2).rf hI3.2) (ht3 _ (ht2 _ t3)) hI3.1 hi2 (by omega) (by have hPa : ob_P h2 = ob_P h1 := hP2; have hPb : ob_P h3 = ob_P h2 := hP3; omega)
    · refine k_sw 644 rfl (by unfold am_tb; rw [bb]; decide) ?_
      refine k_aload 645 rfl g1 rfl ?_
      refine k_aload 646 rfl g0 rfl ?_
      refine k_iload 648 rfl g4 rfl ?_
      refine k_push 649 rfl rfl ?_
      refine k_bin _ 650 rfl rfl rfl ?_
      refine k_sld 651 rfl (ix_ok (k := 1) (kk := 1) (by decide) (by decide) hi6 hY).1 (ix_ok (k := 1) (kk := 1) (by decide) (by decide) hi6 hY).2 rfl rfl ?_
      refine k_aload 652 rfl g3 rfl ?_
      refine k_call0 rfl (l_redexes hT ho) rfl rfl rfl rfl ?_
      rintro ⟨r1, h1, c1, s1⟩ ⟨y, e1, hT1, hl1, hf1, ho1, hc1, ht1⟩
      refine ⟨Or.inr ⟨hL, rfl⟩, Or.inl ⟨_, e1, ?_⟩⟩
      have hc2 : c1 + ob_P h1 ≤ ob_P h + 6 ∧ s1 + ob_P h1 ≤ ob_P h + 6 := hc1
      have htt : tlh h1 tx := ht1 tx ht
      have hR1 : rf_R h1 F A := hR.cg (fun a q1 q2 => hf1 a (Or.inr ⟨q1, q2⟩))
      have hL1 : am_okL h1.length lv = true := okL_le hl1 hL
      show am_Ok _ _ _ (655, lv, [.inl y], h1, c + c1, s + s1) _
      refine k_istore 657 rfl rfl ?_
      refine k_aload 658 rfl (gs_ne rfl rfl g2) rfl ?_
      refine k_aload 659 rfl (gs_ne rfl rfl g0) rfl ?_
      refine k_iload 661 rfl (gs_ne rfl rfl g4) rfl ?_
      refine k_push 662 rfl rfl ?_
      refine k_bin _ 663 rfl rfl rfl ?_
      refine k_sld 664 rfl (ix_ok (k := 1) (kk := 1) (by decide) (by decide) hi6 hY).1 (ix_ok (k := 1) (kk := 1) (by decide) (by decide) hi6 hY).2 rfl rfl ?_
      refine k_call0 rfl (q_redexes hR1 hi) rfl rfl rfl (rf_I.start hR1).rc ?_
      rintro _ ⟨x2, h2, F2, A2, rfl, hI2, hi2⟩
      obtain ⟨hT2, hP2, ht2⟩ := ty_rf hT1 hI2.2 hI2.1
      refine ⟨Or.inl hI2.2.1, Or.inl ⟨_, rfl, ?_⟩⟩
      rw [← hI2.2.1] at hL1
      show am_Ok _ _ _ (667, _, [.inl x2], h2, c + c1 + 0, s + s1 + 0) _
      refine k_istore 669 rfl rfl ?_
      refine k_goto 712 rfl rfl ?_
      exact next (T := T) (gs_ne rfl rfl (gs_ne rfl rfl g0)) (gs_ne rfl rfl (gs_ne rfl rfl g1)) (gs_ne rfl rfl (gs_ne rfl rfl g2)) (gs_ne rfl rfl (gs_ne rfl rfl g3)) (gs_ne rfl rfl (gs_ne rfl rfl g4)) (okL_set rfl (okL_set rfl hL1)) hT2 (ho1.rf hI2.2) (ht2 _ htt) hI2.1 hi2 (by omega) (by have hP3 : ob_P h2 = ob_P h1 := hP2; omega)
    · refine k_sw 672 rfl (by unfold am_tb; rw [bb]; decide) ?_
      refine k_aload 673 rfl g1 rfl ?_
      refine k_aload 674 rfl g0 rfl ?_
      refine k_iload 676 rfl g4 rfl ?_
      refine k_push 677 rfl rfl ?_
      refine k_bin _ 678 rfl rfl rfl ?_
      refine k_sld 679 rfl (ix_ok (k := 1) (kk := 1) (by decide) (by decide) hi6 hY).1 (ix_ok (k := 1) (kk := 1) (by decide) (by decide) hi6 hY).2 rfl rfl ?_
      refine k_aload 680 rfl g0 rfl ?_
      refine k_iload 682 rfl g4 rfl ?_
      refine k_push 683 rfl rfl ?_
      refine k_bin _ 684 rfl rfl rfl ?_
      refine k_sld 685 rfl (ix_ok (k := 2) (kk := 2) (by decide) (by decide) hi6 hY).1 (ix_ok (k := 2) (kk := 2) (by decide) (by decide) hi6 hY).2 rfl rfl ?_
      refine k_aload 686 rfl g3 rfl ?_
      refine k_call0 rfl (l_trial hT ho) rfl rfl rfl rfl ?_
      rintro ⟨r1, h1, c1, s1⟩ ⟨y, e1, hT1, hl1, hf1, ho1, hc1, ht1⟩
      refine ⟨Or.inr ⟨hL, rfl⟩, Or.inl ⟨_, e1, ?_⟩⟩
      have hc2 : c1 + ob_P h1 ≤ ob_P h + 6 ∧ s1 + ob_P h1 ≤ ob_P h + 6 := hc1
      have htt : tlh h1 tx := ht1 tx ht
      have hR1 : rf_R h1 F A := hR.cg (fun a q1 q2 => hf1 a (Or.inr ⟨q1, q2⟩))
      have hL1 : am_okL h1.length lv = true := okL_le hl1 hL
      show am_Ok _ _ _ (689, lv, [.inl y], h1, c + c1, s + s1) _
      refine k_istore 691 rfl rfl ?_
      refine k_aload 692 rfl (gs_ne rfl rfl g2) rfl ?_
      refine k_aload 693 rfl (gs_ne rfl rfl g0) rfl ?_
      refine k_iload 695 rfl (gs_ne rfl rfl g4) rfl ?_
      refine k_push 696 rfl rfl ?_
      refine k_bin _ 697 rfl rfl rfl ?_
      refine k_sld 698 rfl (ix_ok (k := 1) (kk := 1) (by decide) (by decide) hi6 hY).1 (ix_ok (k := 1) (kk := 1) (by decide) (by decide) hi6 hY).2 rfl rfl ?_
      refine k_aload 699 rfl (gs_ne rfl rfl g0) rfl ?_
      refine k_iload 701 rfl (gs_ne rfl rfl g4) rfl ?_
      refine k_push 702 rfl rfl ?_
      refine k_bin _ 703 rfl rfl rfl ?_
      refine k_sld 704 rfl (ix_ok (k := 2) (kk := 2) (by decide) (by decide) hi6 hY).1 (ix_ok (k := 2) (kk := 2) (by decide) (by decide) hi6 hY).2 rfl rfl ?_
      refine k_call0 rfl (q_trial hR1 hi (by omega)) rfl rfl rfl (rf_I.start hR1).rc ?_
      rintro _ ⟨x2, h2, F2, A2, rfl, hI2, hi2⟩
      obtain ⟨hT2, hP2, ht2⟩ := ty_rf hT1 hI2.2 hI2.1
      refine ⟨Or.inl hI2.2.1, Or.inl ⟨_, rfl, ?_⟩⟩
      rw [← hI2.2.1] at hL1
      show am_Ok _ _ _ (707, _, [.inl x2], h2, c + c1 + 0, s + s1 + 0) _
      refine k_istore 709 rfl rfl ?_
      refine k_goto 712 rfl rfl ?_
      exact next (T := T) (gs_ne rfl rfl (gs_ne rfl rfl g0)) (gs_ne rfl rfl (gs_ne rfl rfl g1)) (gs_ne rfl rfl (gs_ne rfl rfl g2)) (gs_ne rfl rfl (gs_ne rfl rfl g3)) (gs_ne rfl rfl (gs_ne rfl rfl g4)) (okL_set rfl (okL_set rfl hL1)) hT2 (ho1.rf hI2.2) (ht2 _ htt) hI2.1 hi2 (by omega) (by have hP3 : ob_P h2 = ob_P h1 := hP2; omega)
