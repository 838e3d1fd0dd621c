section
abbrev w_X4_clear : List (Nat × Nat) := []
theorem b_X4_clear {B : Nat} {h0 : am_h} {lv : am_l} {h : am_h} {c s : Nat} {v0 : Nat} (g0 : am_get lv 0 = some (.inr (.inr (some v0)))) (o0 : ob 4 v0) (hL : am_okL h.length lv = true) (hI : ob_I w_X4_clear B h0 h c s) : am_Ok am_G 1 61 (0, lv, [], h, c, s) (ty_Q w_X4_clear 0 B h0) := by
  refine k_aload 1 rfl g0 rfl ?_
  obtain ⟨fs1, u2, e3, f4, t5⟩ := hI.1.get o0 (k := 0) rfl rfl
  obtain ⟨i6, rfl, o7⟩ := t5
  refine k_get 4 rfl e3 f4 rfl ?_
  refine k_push 5 rfl rfl ?_
  refine k_cl (W' := []) rfl (rw_cut (W := []) hI.1 (Or.inl o7)) rfl rfl rfl (hI.1.rc3 (Or.inl o7)) hI (by decide) hL so_n ?_
  rintro w8 h9 c10 s11 hv I12 L13 F14
  cases hv
  show am_Ok _ _ _ (8, _, [], h9, c10, s11) _
  refine k_aload 9 rfl g0 rfl ?_
  obtain ⟨fs15, u16, e17, f18, t19⟩ := I12.1.get o0 (k := 2) rfl rfl
  obtain ⟨i20, rfl, o21⟩ := t19
  refine k_get 12 rfl e17 f18 rfl ?_
  refine k_push 13 rfl rfl ?_
  refine k_cl (W' := []) rfl (rw_cut (W := []) I12.1 (Or.inl o21)) rfl rfl rfl (I12.1.rc3 (Or.inl o21)) I12 (by decide) L13 so_n ?_
  rintro w22 h23 c24 s25 hv I26 L27 F28
  cases hv
  show am_Ok _ _ _ (16, _, [], h23, c24, s25) _
  refine k_aload 17 rfl g0 rfl ?_
  obtain ⟨fs29, u30, e31, f32, t33⟩ := I26.1.get o0 (k := 1) rfl rfl
  obtain ⟨i34, rfl, o35⟩ := t33
  refine k_get 20 rfl e31 f32 rfl ?_
  refine k_push 21 rfl rfl ?_
  refine k_push 22 rfl rfl ?_
  refine k_cl (W' := []) rfl (rw_fill I26.1 o35) rfl rfl rfl (I26.1.rc3 (Or.inl o35)) I26 (by decide) L27 so_n ?_
  rintro w36 h37 c38 s39 hv I40 L41 F42
  cases hv
  show am_Ok _ _ _ (25, _, [], h37, c38, s39) _
  exact k_fin rfl rfl ⟨⟨_, rfl, rfl⟩, I40⟩
theorem c_X4_clear {h : am_h} {v0 : Nat} (hT : ty_H h) (o0 : ob 4 v0) : am_Mt 2 61 [.inr (.inr (some v0))] h (ty_Q w_X4_clear 0 (ob_P h) h) := am_Mt.of (b_X4_clear rfl o0 (okA_r hT o0 okA_n) (ob_I.start hT))
abbrev w_X4_at : List (Nat × Nat) := []
theorem b_X4_at {B : Nat} {h0 : am_h} {lv : am_l} {h : am_h} {c s : Nat} {v0 : Nat} {v1 : Int32} (g0 : am_get lv 0 = some (.inr (.inr (some v0)))) (o0 : ob 4 v0) (g1 : am_get lv 1 = some (.inl v1)) (hL : am_okL h.length lv = true) (hI : ob_I w_X4_at B h0 h c s) : am_Ok am_G 1 62 (0, lv, [], h, c, s) (ty_Q w_X4_at 2 B h0) := by
  refine k_aload 1 rfl g0 rfl ?_
  obtain ⟨fs1, u2, e3, f4, t5⟩ := hI.1.get o0 (k := 0) rfl rfl
  obtain ⟨i6, rfl, o7⟩ := t5
  refine k_get 4 rfl e3 f4 rfl ?_
  refine k_iload 5 rfl g1 rfl ?_
  refine k_cl (W' := []) rfl (rw_get hI.1 (Or.inl o7)) rfl rfl rfl (hI.1.rc3 (Or.inl o7)) hI (by decide) hL so_n ?_
  rintro w8 h9 c10 s11 hv I12 L13 F14
  obtain ⟨_, rfl, x15, rfl⟩ := hv
  show am_Ok _ _ _ (8, _, [.inl x15], h9, c10, s11) _
  exact k_fin rfl rfl ⟨⟨_, rfl, ⟨_, rfl, _, rfl⟩⟩, I12⟩
theorem c_X4_at {h : am_h} {v0 : Nat} {v1 : Int32} (hT : ty_H h) (o0 : ob 4 v0) : am_Mt 2 62 [.inr (.inr (some v0)), .inl v1] h (ty_Q w_X4_at 2 (ob_P h) h) := am_Mt.of (b_X4_at rfl o0 rfl (okA_r hT o0 (okA_i okA_n)) (ob_I.start hT))
abbrev w_X4_cell : List (Nat × Nat) := []
theorem b_X4_cell_17 {B : Nat} {h0 : am_h} : ∀ (n : Nat) {lv : am_l} {h : am_h} {c s : Nat} {v0 : Nat} {v1 : Int32} {v2 : Int32} {v3 : Int32} {v4 : Int32} {v5 : Int32} , up_m v5 = n → am_get lv 0 = some (.inr (.inr (some v0))) → ob 4 v0 → am_get lv 1 = some (.inl v1) → am_get lv 2 = some (.inl v2) → am_get lv 3 = some (.inl v3) → am_get lv 4 = some (.inl v4) → am_get lv 5 = some (.inl v5) → am_okL h.length lv = true → ob_I w_X4_cell B h0 h c s → am_Ok am_G 2 71 (17, lv, [], h, c, s) (ty_Q w_X4_cell 2 B h0) := by
  intro n
  induction n using Nat.strongRecOn with
  | ind n ih =>
    intro lv h c s v0 v1 v2 v3 v4 v5 hn g0 o0 g1 g2 g3 g4 g5 hL hI
    refine k_iload 19 rfl g4 rfl ?_
    by_cases b1 : v4 = 0
    · refine k_c1 86 rfl rfl (if_pos b1) ?_
      refine k_aload 87 rfl g0 rfl ?_
      obtain ⟨fs2, u3, e4, f5, t6⟩ := hI.1.get o0 (k := 1) rfl rfl
      obtain ⟨i7, rfl, o8⟩ := t6
      refine k_get 90 rfl e4 f5 rfl ?_
      refine k_cl (W' := []) rfl (rw_size hI.1 (Or.inl o8)) rfl rfl rfl (hI.1.rc3 (Or.inl o8)) hI (by decide) hL so_n ?_
      rintro w9 h10 c11 s12 hv I13 L14 F15
      obtain ⟨_, rfl, x16, rfl⟩ := hv
      show am_Ok _ _ _ (93, _, [.inl x16], h10, c11, s12) _
      refine k_push 94 rfl rfl ?_
      obtain ⟨x17, q18⟩ : ∃ q : Int32, q = (x16 / (5 : Int32)) := ⟨_, rfl⟩
      refine k_divZ x17 95 rfl (by decide) q18.symm rfl ?_
      refine k_istore 97 rfl rfl ?_
      refine k_aload 98 rfl (gs_ne rfl rfl g0) rfl ?_
      obtain ⟨fs19, u20, e21, f22, t23⟩ := I13.1.get o0 (k := 1) rfl rfl
      obtain ⟨i24, rfl, o25⟩ := t23
      refine k_get 101 rfl e21 f22 rfl ?_
      refine k_iload 102 rfl (gs_ne rfl rfl g1) rfl ?_
      refine k_cl (W' := []) rfl ((rw_add (W := []) I13.1 (Or.inl o25)).imp (fun _ z => z.1)) rfl rfl rfl (I13.1.rc3 (Or.inl o25)) I13 (by decide) (okL_set (i := 5) (v := .inl x17) rfl L14) so_n ?_
      rintro w26 h27 c28 s29 hv I30 L31 F32
      obtain ⟨_, rfl, x33, rfl, z34⟩ := hv
      show am_Ok _ _ _ (105, _, [.inl x33], h27, c28, s29) _
      refine k_pop 106 rfl rfl rfl ?_
      refine k_aload 107 rfl (gs_ne rfl rfl g0) rfl ?_
      obtain ⟨fs35, u36, e37, f38, t39⟩ := I30.1.get o0 (k := 1) rfl rfl
      obtain ⟨i40, rfl, o41⟩ := t39
      refine k_get 110 rfl e37 f38 rfl ?_
      refine k_iload 111 rfl (gs_ne rfl rfl g2) rfl ?_
      refine k_cl (W' := []) rfl ((rw_add (W := []) I30.1 (Or.inl o41)).imp (fun _ z => z.1)) rfl rfl rfl (I30.1.rc3 (Or.inl o41)) I30 (by decide) L31 so_n ?_
      rintro w42 h43 c44 s45 hv I46 L47 F48
      obtain ⟨_, rfl, x49, rfl, z50⟩ := hv
      show am_Ok _ _ _ (114, _, [.inl x49], h43, c44, s45) _
      refine k_pop 115 rfl rfl rfl ?_
      refine k_aload 116 rfl (gs_ne rfl rfl g0) rfl ?_
      obtain ⟨fs51, u52, e53, f54, t55⟩ := I46.1.get o0 (k := 1) rfl rfl
      obtain ⟨i56, rfl, o57⟩ := t55
      refine k_get 119 rfl e53 f54 rfl ?_
      refine k_iload 120 rfl (gs_ne rfl rfl g3) rfl ?_
      refine k_cl (W' := []) rfl ((rw_add (W := []) I46.1 (Or.inl o57)).imp (fun _ z => z.1)) rfl rfl rfl (I46.1.rc3 (Or.inl o57)) I46 (by decide) L47 so_n ?_
      rintro w58 h59 c60 s61 hv I62 L63 F64
      obtain ⟨_, rfl, x65, rfl, z66⟩ := hv
      show am_Ok _ _ _ (123, _, [.inl x65], h59, c60, s61) _
      refine k_pop 124 rfl rfl rfl ?_
      refine k_aload 125 rfl (gs_ne rfl rfl g0) rfl ?_
      obtain ⟨fs67, u68, e69, f70, t71⟩ := I62.1.get o0 (k := 1) rfl rfl
      obtain ⟨i72, rfl, o73⟩ := t71
      refine k_get 128 rfl e69 f70 rfl ?_
      refine k_push 129 rfl rfl ?_
      refine k_cl (W' := []) rfl ((rw_add (W := []) I62.1 (Or.inl o73)).imp (fun _ z => z.1)) rfl rfl rfl (I62.1.rc3 (Or.inl o73)) I62 (by decide) L63 so_n ?_
      rintro w74 h75 c76 s77 hv I78 L79 F80
      obtain ⟨_, rfl, x81, rfl, z82⟩ := hv
      show am_Ok _ _ _ (132, _, [.inl x81], h75, c76, s77) _
      refine k_pop 133 rfl rfl rfl ?_
      refine k_aload 134 rfl (gs_ne rfl rfl g0) rfl ?_
      obtain ⟨fs83, u84, e85, f86, t87⟩ := I78.1.get o0 (k := 1) rfl rfl
      obtain ⟨i88, rfl, o89⟩ := t87
      refine k_get 137 rfl e85 f86 rfl ?_
      refine k_aload 138 rfl (gs_ne rfl rfl g0) rfl ?_
      obtain ⟨fs90, u91, e92, f93, t94⟩ := I78.1.get o0 (k := 1) rfl rfl
      obtain ⟨i95, rfl, o96⟩ := t94
      refine k_get 141 rfl e92 f93 rfl ?_
      refine k_push 142 rfl rfl ?_
      refine k_iload 143 rfl (gs_ne rfl rfl g2) rfl ?_
      obtain ⟨x97, q98⟩ : ∃ q : Int32, q = ((5 : Int32) * v2) := ⟨_, rfl⟩
      refine k_bin x97 144 rfl q98.symm rfl ?_
      refine k_push 145 rfl rfl ?_
      obtain ⟨x99, q100⟩ : ∃ q : Int32, q = (x97 + (3 : Int32)) := ⟨_, rfl⟩
      refine k_bin x99 146 rfl q100.symm rfl ?_
      refine k_cl (W' := []) rfl (rw_get I78.1 (Or.inl o96)) rfl rfl rfl (I78.1.rc3 (Or.inl o96)) I78 (by decide) L79 (so_r I78 o89 so_n) ?_
      rintro w101 h102 c103 s104 hv I105 L106 F107
      obtain ⟨_, rfl, x108, rfl⟩ := hv
      show am_Ok _ _ _ (149, _, [.inl x108, .inr (.inr (some i88))], h102, c103, s104) _
      refine k_cl (W' := []) rfl ((rw_add (W := []) I105.1 (Or.inl o89)).imp (fun _ z => z.1)) rfl rfl rfl (I105.1.rc3 (Or.inl o89)) I105 (by decide) L106 so_n ?_
      rintro w109 h110 c111 s112 hv I113 L114 F115
      obtain ⟨_, rfl, x116, rfl, z117⟩ := hv
      show am_Ok _ _ _ (152, _, [.inl x116], h110, c111, s112) _
      refine k_pop 153 rfl rfl rfl ?_
      refine k_aload 154 rfl (gs_ne rfl rfl g0) rfl ?_
      obtain ⟨fs118, u119, e120, f121, t122⟩ := I113.1.get o0 (k := 1) rfl rfl
      obtain ⟨i123, rfl, o124⟩ := t122
      refine k_get 157 rfl e120 f121 rfl ?_
      refine k_push 158 rfl rfl ?_
      refine k_iload 159 rfl (gs_ne rfl rfl g2) rfl ?_
      obtain ⟨x125, q126⟩ : ∃ q : Int32, q = ((5 : Int32) * v2) := ⟨_, rfl⟩
      refine k_bin x125 160 rfl q126.symm rfl ?_
      refine k_push 161 rfl rfl ?_
      obtain ⟨x127, q128⟩ : ∃ q : Int32, q = (x125 + (3 : Int32)) := ⟨_, rfl⟩
      refine k_bin x127 162 rfl q128.symm rfl ?_
      refine k_iload 164 rfl gs_eq rfl ?_
      refine k_cl (W' := []) rfl (rw_set I113.1 o124) rfl rfl rfl (I113.1.rc3 (Or.inl o124)) I113 (by decide) L114 so_n ?_
      rintro w129 h130 c131 s132 hv I133 L134 F135
      cases hv
      show am_Ok _ _ _ (167, _, [], h130, c131, s132) _
      refine k_iload 169 rfl gs_eq rfl ?_
      exact k_fin rfl rfl ⟨⟨_, rfl, ⟨_, rfl, _, rfl⟩⟩, I133⟩
    · refine k_c1 22 rfl rfl (if_neg b1) ?_
      refine k_iload 24 rfl g5 rfl ?_
      refine k_push 27 rfl rfl ?_
      by_cases b136 : (4002 : Int32) ≤ v5
      · refine k_c2 86 rfl rfl (if_pos b136) ?_
        refine k_aload 87 rfl g0 rfl ?_
        obtain ⟨fs137, u138, e139, f140, t141⟩ := hI.1.get o0 (k := 1) rfl rfl
        obtain ⟨i142, rfl, o143⟩ := t141
        refine k_get 90 rfl e139 f140 rfl ?_
        refine k_cl (W' := []) rfl (rw_size hI.1 (Or.inl o143)) rfl rfl rfl (hI.1.rc3 (Or.inl o143)) hI (by decide) hL so_n ?_
        rintro w144 h145 c146 s147 hv I148 L149 F150
        obtain ⟨_, rfl, x151, rfl⟩ := hv
        show am_Ok _ _ _ (93, _, [.inl x151], h145, c146, s147) _
        refine k_push 94 rfl rfl ?_
        obtain ⟨x152, q153⟩ : ∃ q : Int32, q = (x151 / (5 : Int32)) := ⟨_, rfl⟩
        refine k_divZ x152 95 rfl (by decide) q153.symm rfl ?_
        refine k_istore 97 rfl rfl ?_
        refine k_aload 98 rfl (gs_ne rfl rfl g0) rfl ?_
        obtain ⟨fs154, u155, e156, f157, t158⟩ := I148.1.get o0 (k := 1) rfl rfl
        obtain ⟨i159, rfl, o160⟩ := t158
        refine k_get 101 rfl e156 f157 rfl ?_
        refine k_iload 102 rfl (gs_ne rfl rfl g1) rfl ?_
        refine k_cl (W' := []) rfl ((rw_add (W := []) I148.1 (Or.inl o160)).imp (fun _ z => z.1)) rfl rfl rfl (I148.1.rc3 (Or.inl o160)) I148 (by decide) (okL_set (i := 5) (v := .inl x152) rfl L149) so_n ?_
        rintro w161 h162 c163 s164 hv I165 L166 F167
        obtain ⟨_, rfl, x168, rfl, z169⟩ := hv
        show am_Ok _ _ _ (105, _, [.inl x168], h162, c163, s164) _
        refine k_pop 106 rfl rfl rfl ?_
        refine k_aload 107 rfl (gs_ne rfl rfl g0) rfl ?_
        obtain ⟨fs170, u171, e172, f173, t174⟩ := I165.1.get o0 (k := 1) rfl rfl
        obtain ⟨i175, rfl, o176⟩ := t174
        refine k_get 110 rfl e172 f173 rfl ?_
        refine k_iload 111 rfl (gs_ne rfl rfl g2) rfl ?_
        refine k_cl (W' := []) rfl ((rw_add (W := []) I165.1 (Or.inl o176)).imp (fun _ z => z.1)) rfl rfl rfl (I165.1.rc3 (Or.inl o176)) I165 (by decide) L166 so_n ?_
        rintro w177 h178 c179 s180 hv I181 L182 F183
        obtain ⟨_, rfl, x184, rfl, z185⟩ := hv
        show am_Ok _ _ _ (114, _, [.inl x184], h178, c179, s180) _
        refine k_pop 115 rfl rfl rfl ?_
        refine k_aload 116 rfl (gs_ne rfl rfl g0) rfl ?_
        obtain ⟨fs186, u187, e188, f189, t190⟩ := I181.1.get o0 (k := 1) rfl rfl
        obtain ⟨i191, rfl, o192⟩ := t190
        refine k_get 119 rfl e188 f189 rfl ?_
        refine k_iload 120 rfl (gs_ne rfl rfl g3) rfl ?_
        refine k_cl (W' := []) rfl ((rw_add (W := []) I181.1 (Or.inl o192)).imp (fun _ z => z.1)) rfl rfl rfl (I181.1.rc3 (Or.inl o192)) I181 (by decide) L182 so_n ?_
        rintro w193 h194 c195 s196 hv I197 L198 F199
        obtain ⟨_, rfl, x200, rfl, z201⟩ := hv
        show am_Ok _ _ _ (123, _, [.inl x200], h194, c195, s196) _
        refine k_pop 124 rfl rfl rfl ?_
        refine k_aload 125 rfl (gs_ne rfl rfl g0) rfl ?_
        obtain ⟨fs202, u203, e204, f205, t206⟩ := I197.1.get o0 (k := 1) rfl rfl
        obtain ⟨i207, rfl, o208⟩ := t206
        refine k_get 128 rfl e204 f205 rfl ?_
        refine k_push 129 rfl rfl ?_
        refine k_cl (W' := []) rfl ((rw_add (W := []) I197.1 (Or.inl o208)).imp (fun _ z => z.1)) rfl rfl rfl (I197.1.rc3 (Or.inl o208)) I197 (by decide) L198 so_n ?_
        rintro w209 h210 c211 s212 hv I213 L214 F215
        obtain ⟨_, rfl, x216, rfl, z217⟩ := hv
        show am_Ok _ _ _ (132, _, [.inl x216], h210, c211, s212) _
        refine k_pop 133 rfl rfl rfl ?_
        refine k_aload 134 rfl (gs_ne rfl rfl g0) rfl ?_
        obtain ⟨fs218, u219, e220, f221, t222⟩ := I213.1.get o0 (k := 1) rfl rfl
        obtain ⟨i223, rfl, o224⟩ := t222
        refine k_get 137 rfl e220 f221 rfl ?_
        refine k_aload 138 rfl (gs_ne rfl rfl g0) rfl ?_
        obtain ⟨fs225, u226, e227, f228, t229⟩ := I213.1.get o0 (k := 1) rfl rfl
        obtain ⟨i230, rfl, o231⟩ := t229
        refine k_get 141 rfl e227 f228 rfl ?_
        refine k_push 142 rfl rfl ?_
        refine k_iload 143 rfl (gs_ne rfl rfl g2) rfl ?_
        obtain ⟨x232, q233⟩ : ∃ q : Int32, q = ((5 : Int32) * v2) := ⟨_, rfl⟩
        refine k_bin x232 144 rfl q233.symm rfl ?_
        refine k_push 145 rfl rfl ?_
        obtain ⟨x234, q235⟩ : ∃ q : Int32, q = (x232 + (3 : Int32)) := ⟨_, rfl⟩
        refine k_bin x234 146 rfl q235.symm rfl ?_
        refine k_cl (W' := []) rfl (rw_get I213.1 (Or.inl o231)) rfl rfl rfl (I213.1.rc3 (Or.inl o231)) I213 (by decide) L214 (so_r I213 o224 so_n) ?_
        rintro w236 h237 c238 s239 hv I240 L241 F242
        obtain ⟨_, rfl, x243, rfl⟩ := hv
        show am_Ok _ _ _ (149, _, [.inl x243, .inr (.inr (some i223))], h237, c238, s239) _
        refine k_cl (W' := []) rfl ((rw_add (W := []) I240.1 (Or.inl o224)).imp (fun _ z => z.1)) rfl rfl rfl (I240.1.rc3 (Or.inl o224)) I240 (by decide) L241 so_n ?_
        rintro w244 h245 c246 s247 hv I248 L249 F250
        obtain ⟨_, rfl, x251, rfl, z252⟩ := hv
        show am_Ok _ _ _ (152, _, [.inl x251], h245, c246, s247) _
        refine k_pop 153 rfl rfl rfl ?_
        refine k_aload 154 rfl (gs_ne rfl rfl g0) rfl ?_
        obtain ⟨fs253, u254, e255, f256, t257⟩ := I248.1.get o0 (k := 1) rfl rfl
        obtain ⟨i258, rfl, o259⟩ := t257
        refine k_get 157 rfl e255 f256 rfl ?_
        refine k_push 158 rfl rfl ?_
        refine k_iload 159 rfl (gs_ne rfl rfl g2) rfl ?_
        obtain ⟨x260, q261⟩ : ∃ q : Int32, q = ((5 : Int32) * v2) := ⟨_, rfl⟩
        refine k_bin x260 160 rfl q261.symm rfl ?_
        refine k_push 161 rfl rfl ?_
        obtain ⟨x262, q263⟩ : ∃ q : Int32, q = (x260 + (3 : Int32)) := ⟨_, rfl⟩
        refine k_bin x262 162 rfl q263.symm rfl ?_
        refine k_iload 164 rfl gs_eq rfl ?_
        refine k_cl (W' := []) rfl (rw_set I248.1 o259) rfl rfl rfl (I248.1.rc3 (Or.inl o259)) I248 (by decide) L249 so_n ?_
        rintro w264 h265 c266 s267 hv I268 L269 F270
        cases hv
        show am_Ok _ _ _ (167, _, [], h265, c266, s267) _
        refine k_iload 169 rfl gs_eq rfl ?_
        exact k_fin rfl rfl ⟨⟨_, rfl, ⟨_, rfl, _, rfl⟩⟩, I268⟩
      · refine k_c2 30 rfl rfl (if_neg b136) ?_
        refine k_push 31 rfl rfl ?_
        refine k_iload 33 rfl g4 rfl ?_
        obtain ⟨x271, q272⟩ : ∃ q : Int32, q = ((5 : Int32) * v4) := ⟨_, rfl⟩
        refine k_bin x271 34 rfl q272.symm rfl ?_
        refine k_istore 36 rfl rfl ?_
        refine k_aload 37 rfl (gs_ne rfl rfl g0) rfl ?_
        obtain ⟨fs273, u274, e275, f276, t277⟩ := hI.1.get o0 (k := 1) rfl rfl
        obtain ⟨i278, rfl, o279⟩ := t277
        refine k_get 40 rfl e275 f276 rfl ?_
        refine k_iload 42 rfl gs_eq rfl ?_
        refine k_cl (W' := []) rfl (rw_get hI.1 (Or.inl o279)) rfl rfl rfl (hI.1.rc3 (Or.inl o279)) hI (by decide) (okL_set (i := 6) (v := .inl x271) rfl hL) so_n ?_
        rintro w280 h281 c282 s283 hv I284 L285 F286
        obtain ⟨_, rfl, x287, rfl⟩ := hv
        show am_Ok _ _ _ (45, _, [.inl x287], h281, c282, s283) _
        refine k_iload 46 rfl (gs_ne rfl rfl g1) rfl ?_
        by_cases b288 : x287 = v1
        · refine k_c2 49 rfl rfl (if_pos b288) ?_
          refine k_aload 50 rfl (gs_ne rfl rfl g0) rfl ?_
          obtain ⟨fs289, u290, e291, f292, t293⟩ := I284.1.get o0 (k := 1) rfl rfl
          obtain ⟨i294, rfl, o295⟩ := t293
          refine k_get 53 rfl e291 f292 rfl ?_
          refine k_iload 55 rfl gs_eq rfl ?_
          refine k_push 56 rfl rfl ?_
          obtain ⟨x296, q297⟩ : ∃ q : Int32, q = (x271 + (2 : Int32)) := ⟨_, rfl⟩
          refine k_bin x296 57 rfl q297.symm rfl ?_
          refine k_cl (W' := []) rfl (rw_get I284.1 (Or.inl o295)) rfl rfl rfl (I284.1.rc3 (Or.inl o295)) I284 (by decide) L285 so_n ?_
          rintro w298 h299 c300 s301 hv I302 L303 F304
          obtain ⟨_, rfl, x305, rfl⟩ := hv
          show am_Ok _ _ _ (60, _, [.inl x305], h299, c300, s301) _
          refine k_iload 61 rfl (gs_ne rfl rfl g3) rfl ?_
          by_cases b306 : x305 = v3
          · refine k_c2 64 rfl rfl (if_pos b306) ?_
            refine k_iload 66 rfl (gs_ne rfl rfl g4) rfl ?_
            exact k_fin rfl rfl ⟨⟨_, rfl, ⟨_, rfl, _, rfl⟩⟩, I302⟩
          · refine k_c2 67 rfl rfl (if_neg b306) ?_
            refine k_aload 68 rfl (gs_ne rfl rfl g0) rfl ?_
            obtain ⟨fs307, u308, e309, f310, t311⟩ := I302.1.get o0 (k := 1) rfl rfl
            obtain ⟨i312, rfl, o313⟩ := t311
            refine k_get 71 rfl e309 f310 rfl ?_
            refine k_iload 73 rfl gs_eq rfl ?_
            refine k_push 74 rfl rfl ?_
            obtain ⟨x314, q315⟩ : ∃ q : Int32, q = (x271 + (4 : Int32)) := ⟨_, rfl⟩
            refine k_bin x314 75 rfl q315.symm rfl ?_
            refine k_cl (W' := []) rfl (rw_get I302.1 (Or.inl o313)) rfl rfl rfl (I302.1.rc3 (Or.inl o313)) I302 (by decide) L303 so_n ?_
            rintro w316 h317 c318 s319 hv I320 L321 F322
            obtain ⟨_, rfl, x323, rfl⟩ := hv
            show am_Ok _ _ _ (78, _, [.inl x323], h317, c318, s319) _
            refine k_istore 80 rfl rfl ?_
            refine k_iinc (v5 + 1) 83 rfl (gs_ne rfl rfl (gs_ne rfl rfl g5)) rfl rfl ?_
            refine k_goto 17 rfl rfl ?_
            exact ih _ (by rw [← hn]; exact up_lt b136) rfl (gs_ne rfl rfl (gs_ne rfl rfl (gs_ne rfl rfl g0))) o0 (gs_ne rfl rfl (gs_ne rfl rfl (gs_ne rfl rfl g1))) (gs_ne rfl rfl (gs_ne rfl rfl (gs_ne rfl rfl g2))) (gs_ne rfl rfl (gs_ne rfl rfl (gs_ne rfl rfl g3))) (gs_ne rfl rfl gs_eq) gs_eq (okL_set (i := 5) (v := .inl (v5 + 1)) rfl (okL_set (i := 4) (v := .inl x323) rfl L321)) I320
        · refine k_c2 67 rfl rfl (if_neg b288) ?_
          refine k_aload 68 rfl (gs_ne rfl rfl g0) rfl ?_
          obtain ⟨fs324, u325, e326, f327, t328⟩ := I284.1.get o0 (k := 1) rfl rfl
          obtain ⟨i329, rfl, o330⟩ := t328
          refine k_get 71 rfl e326 f327 rfl ?_
          refine k_iload 73 rfl gs_eq rfl ?_
          refine k_push 74 rfl rfl ?_
          obtain ⟨x331, q332⟩ : ∃ q : Int32, q = (x271 + (4 : Int32)) := ⟨_, rfl⟩
          refine k_bin x331 75 rfl q332.symm rfl ?_
          refine k_cl (W' := []) rfl (rw_get I284.1 (Or.inl o330)) rfl rfl rfl (I284.1.rc3 (Or.inl o330)) I284 (by decide) L285 so_n ?_
          rintro w333 h334 c335 s336 hv I337 L338 F339
          obtain ⟨_, rfl, x340, rfl⟩ := hv
          show am_Ok _ _ _ (78, _, [.inl x340], h334, c335, s336) _
          refine k_istore 80 rfl rfl ?_
          refine k_iinc (v5 + 1) 83 rfl (gs_ne rfl rfl (gs_ne rfl rfl g5)) rfl rfl ?_
          refine k_goto 17 rfl rfl ?_
          exact ih _ (by rw [← hn]; exact up_lt b136) rfl (gs_ne rfl rfl (gs_ne rfl rfl (gs_ne rfl rfl g0))) o0 (gs_ne rfl rfl (gs_ne rfl rfl (gs_ne rfl rfl g1))) (gs_ne rfl rfl (gs_ne rfl rfl (gs_ne rfl rfl g2))) (gs_ne rfl rfl (gs_ne rfl rfl (gs_ne rfl rfl g3))) (gs_ne rfl rfl gs_eq) gs_eq (okL_set (i := 5) (v := .inl (v5 + 1)) rfl (okL_set (i := 4) (v := .inl x340) rfl L338)) I337
theorem b_X4_cell {B : Nat} {h0 : am_h} {lv : am_l} {h : am_h} {c s : Nat} {v0 : Nat} {v1 : Int32} {v2 : Int32} {v3 : Int32} (g0 : am_get lv 0 = some (.inr (.inr (some v0)))) (o0 : ob 4 v0) (g1 : am_get lv 1 = some (.inl v1)) (g2 : am_get lv 2 = some (.inl v2)) (g3 : am_get lv 3 = some (.inl v3)) (hL : am_okL h.length lv = true) (hI : ob_I w_X4_cell B h0 h c s) : am_Ok am_G 2 71 (0, lv, [], h, c, s) (ty_Q w_X4_cell 2 B h0) := by
  refine k_aload 1 rfl g0 rfl ?_
  obtain ⟨fs341, u342, e343, f344, t345⟩ := hI.1.get o0 (k := 1) rfl rfl
  obtain ⟨i346, rfl, o347⟩ := t345
  refine k_get 4 rfl e343 f344 rfl ?_
  refine k_push 5 rfl rfl ?_
  refine k_iload 6 rfl g2 rfl ?_
  obtain ⟨x348, q349⟩ : ∃ q : Int32, q = ((5 : Int32) * v2) := ⟨_, rfl⟩
  refine k_bin x348 7 rfl q349.symm rfl ?_
  refine k_push 8 rfl rfl ?_
  obtain ⟨x350, q351⟩ : ∃ q : Int32, q = (x348 + (3 : Int32)) := ⟨_, rfl⟩
  refine k_bin x350 9 rfl q351.symm rfl ?_
  refine k_cl (W' := []) rfl (rw_get hI.1 (Or.inl o347)) rfl rfl rfl (hI.1.rc3 (Or.inl o347)) hI (by decide) hL so_n ?_
  rintro w352 h353 c354 s355 hv I356 L357 F358
  obtain ⟨_, rfl, x359, rfl⟩ := hv
  show am_Ok _ _ _ (12, _, [.inl x359], h353, c354, s355) _
  refine k_istore 14 rfl rfl ?_
  refine k_push 15 rfl rfl ?_
  refine k_istore 17 rfl rfl ?_
  exact b_X4_cell_17 _ rfl (gs_ne rfl rfl (gs_ne rfl rfl g0)) o0 (gs_ne rfl rfl (gs_ne rfl rfl g1)) (gs_ne rfl rfl (gs_ne rfl rfl g2)) (gs_ne rfl rfl (gs_ne rfl rfl g3)) (gs_ne rfl rfl gs_eq) gs_eq (okL_set (i := 5) (v := .inl (0 : Int32)) rfl (okL_set (i := 4) (v := .inl x359) rfl L357)) I356
theorem c_X4_cell {h : am_h} {v0 : Nat} {v1 : Int32} {v2 : Int32} {v3 : Int32} (hT : ty_H h) (o0 : ob 4 v0) : am_Mt 3 71 [.inr (.inr (some v0)), .inl v1, .inl v2, .inl v3] h (ty_Q w_X4_cell 2 (ob_P h) h) := am_Mt.of (b_X4_cell rfl o0 rfl rfl rfl (okA_r hT o0 (okA_i (okA_i (okA_i okA_n)))) (ob_I.start hT))
abbrev w_X4_undoing : List (Nat × Nat) := []
theorem b_X4_undoing {B : Nat} {h0 : am_h} {lv : am_l} {h : am_h} {c s : Nat} {v0 : Int32} {v1 : Int32} {v2 : Int32} (g0 : am_get lv 0 = some (.inl v0)) (g1 : am_get lv 1 = some (.inl v1)) (g2 : am_get lv 2 = some (.inl v2)) (hL : am_okL h.length lv = true) (hI : ob_I w_X4_undoing B h0 h c s) : am_Ok am_G 0 75 (0, lv, [], h, c, s) (ty_Q w_X4_undoing 2 B h0) := by
  refine k_iload 1 rfl g2 rfl ?_
  refine k_push 3 rfl rfl ?_
  obtain ⟨x1, q2⟩ : ∃ q : Int32, q = (v2 <<< ((10 : Int32) &&& 31)) := ⟨_, rfl⟩
  refine k_bin x1 4 rfl q2.symm rfl ?_
  refine k_iload 5 rfl g1 rfl ?_
  refine k_push 6 rfl rfl ?_
  obtain ⟨x3, q4⟩ : ∃ q : Int32, q = (v1 <<< ((2 : Int32) &&& 31)) := ⟨_, rfl⟩
  refine k_bin x3 7 rfl q4.symm rfl ?_
  obtain ⟨x5, q6⟩ : ∃ q : Int32, q = (x1 ||| x3) := ⟨_, rfl⟩
  refine k_bin x5 8 rfl q6.symm rfl ?_
  refine k_iload 9 rfl g0 rfl ?_
  obtain ⟨x7, q8⟩ : ∃ q : Int32, q = (x5 ||| v0) := ⟨_, rfl⟩
  refine k_bin x7 10 rfl q8.symm rfl ?_
  exact k_fin rfl rfl ⟨⟨_, rfl, ⟨_, rfl, _, rfl⟩⟩, hI⟩
theorem c_X4_undoing {h : am_h} {v0 : Int32} {v1 : Int32} {v2 : Int32} (hT : ty_H h)  : am_Mt 1 75 [.inl v0, .inl v1, .inl v2] h (ty_Q w_X4_undoing 2 (ob_P h) h) := am_Mt.of (b_X4_undoing rfl rfl rfl (okA_i (okA_i (okA_i okA_n))) (ob_I.start hT))
abbrev w_X4_set : List (Nat × Nat) := []
theorem b_X4_set_29 {B : Nat} {h0 : am_h} : ∀ (n : Nat) {lv : am_l} {h : am_h} {c s : Nat} {v0 : Nat} {v1 : Int32} {v2 : Int32} {v3 : Int32} , up_m v3 = n → am_get lv 0 = some (.inr (.inr (some v0))) → ob 4 v0 → am_get lv 1 = some (.inl v1) → am_get lv 2 = some (.inl v2) → am_get lv 3 = some (.inl v3) → am_okL h.length lv = true → ob_I w_X4_set B h0 h c s → v1.toInt < 2147483647 → am_Ok am_G 2 72 (29, lv, [], h, c, s) (ty_Q w_X4_set 0 B h0) := by
  intro n
  induction n using Nat.strongRecOn with
  | ind n ih =>
    intro lv h c s v0 v1 v2 v3 hn g0 o0 g1 g2 g3 hL hI hp
    refine k_iload 30 rfl g3 rfl ?_
    refine k_iload 31 rfl g1 rfl ?_
    by_cases b1 : v1 < v3
    · refine k_c2 49 rfl rfl (if_pos b1) ?_
      refine k_aload 50 rfl g0 rfl ?_
      obtain ⟨fs2, u3, e4, f5, t6⟩ := hI.1.get o0 (k := 0) rfl rfl
      obtain ⟨i7, rfl, o8⟩ := t6
      refine k_get 53 rfl e4 f5 rfl ?_
      refine k_iload 54 rfl g1 rfl ?_
      refine k_iload 55 rfl g2 rfl ?_
      refine k_cl (W' := []) rfl (rw_set hI.1 o8) rfl rfl rfl (hI.1.rc3 (Or.inl o8)) hI (by decide) hL so_n ?_
      rintro w9 h10 c11 s12 hv I13 L14 F15
      cases hv
      show am_Ok _ _ _ (58, _, [], h10, c11, s12) _
      exact k_fin rfl rfl ⟨⟨_, rfl, rfl⟩, I13⟩
    · refine k_c2 34 rfl rfl (if_neg b1) ?_
      refine k_aload 35 rfl g0 rfl ?_
      obtain ⟨fs16, u17, e18, f19, t20⟩ := hI.1.get o0 (k := 0) rfl rfl
      obtain ⟨i21, rfl, o22⟩ := t20
      refine k_get 38 rfl e18 f19 rfl ?_
      refine k_push 39 rfl rfl ?_
      refine k_cl (W' := []) rfl ((rw_add (W := []) hI.1 (Or.inl o22)).imp (fun _ z => z.1)) rfl rfl rfl (hI.1.rc3 (Or.inl o22)) hI (by decide) hL so_n ?_
      rintro w23 h24 c25 s26 hv I27 L28 F29
      obtain ⟨_, rfl, x30, rfl, z31⟩ := hv
      show am_Ok _ _ _ (42, _, [.inl x30], h24, c25, s26) _
      refine k_pop 43 rfl rfl rfl ?_
      refine k_iinc (v3 + 1) 46 rfl g3 rfl rfl ?_
      refine k_goto 29 rfl rfl ?_
      exact ih _ (by rw [← hn]; exact up_lt' b1 hp) rfl (gs_ne rfl rfl g0) o0 (gs_ne rfl rfl g1) (gs_ne rfl rfl g2) gs_eq (okL_set (i := 3) (v := .inl (v3 + 1)) rfl L28) I27 hp
theorem b_X4_set {B : Nat} {h0 : am_h} {lv : am_l} {h : am_h} {c s : Nat} {v0 : Nat} {v1 : Int32} {v2 : Int32} (g0 : am_get lv 0 = some (.inr (.inr (some v0)))) (o0 : ob 4 v0) (g1 : am_get lv 1 = some (.inl v1)) (g2 : am_get lv 2 = some (.inl v2)) (hp : v1.toInt < 2147483647) (hL : am_okL h.length lv = true) (hI : ob_I w_X4_set B h0 h c s) : am_Ok am_G 2 72 (0, lv, [], h, c, s) (ty_Q w_X4_set 0 B h0) := by
  refine k_aload 1 rfl g0 rfl ?_
  obtain ⟨fs32, u33, e34, f35, t36⟩ := hI.1.get o0 (k := 2) rfl rfl
  obtain ⟨i37, rfl, o38⟩ := t36
  refine k_get 4 rfl e34 f35 rfl ?_
  refine k_push 5 rfl rfl ?_
  refine k_iload 6 rfl g1 rfl ?_
  refine k_aload 7 rfl g0 rfl ?_
  obtain ⟨fs39, u40, e41, f42, t43⟩ := hI.1.get o0 (k := 0) rfl rfl
  obtain ⟨i44, rfl, o45⟩ := t43
  refine k_get 10 rfl e41 f42 rfl ?_
  refine k_iload 11 rfl g1 rfl ?_
  refine k_cl (W' := []) rfl (rw_get hI.1 (Or.inl o45)) rfl rfl rfl (hI.1.rc3 (Or.inl o45)) hI (by decide) hL (so_i (so_i (so_r hI o38 so_n))) ?_
  rintro w46 h47 c48 s49 hv I50 L51 F52
  obtain ⟨_, rfl, x53, rfl⟩ := hv
  show am_Ok _ _ _ (14, _, [.inl x53, .inl v1, .inl (0 : Int32), .inr (.inr (some i37))], h47, c48, s49) _
  refine k_cl (W' := w_X4_undoing) rfl (c_X4_undoing I50.1 ) rfl rfl rfl rfl I50 (by decide) L51 (so_r I50 o38 so_n) ?_
  rintro w54 h55 c56 s57 hv I58 L59 F60
  obtain ⟨_, rfl, x61, rfl⟩ := hv
  show am_Ok _ _ _ (17, _, [.inl x61, .inr (.inr (some i37))], h55, c56, s57) _
  refine k_cl (W' := []) rfl ((rw_add (W := []) I58.1 (Or.inl o38)).imp (fun _ z => z.1)) rfl rfl rfl (I58.1.rc3 (Or.inl o38)) I58 (by decide) L59 so_n ?_
  rintro w62 h63 c64 s65 hv I66 L67 F68
  obtain ⟨_, rfl, x69, rfl, z70⟩ := hv
  show am_Ok _ _ _ (20, _, [.inl x69], h63, c64, s65) _
  refine k_pop 21 rfl rfl rfl ?_
  refine k_aload 22 rfl g0 rfl ?_
  obtain ⟨fs71, u72, e73, f74, t75⟩ := I66.1.get o0 (k := 0) rfl rfl
  obtain ⟨i76, rfl, o77⟩ := t75
  refine k_get 25 rfl e73 f74 rfl ?_
  refine k_cl (W' := []) rfl (rw_size I66.1 (Or.inl o77)) rfl rfl rfl (I66.1.rc3 (Or.inl o77)) I66 (by decide) L67 so_n ?_
  rintro w78 h79 c80 s81 hv I82 L83 F84
  obtain ⟨_, rfl, x85, rfl⟩ := hv
  show am_Ok _ _ _ (28, _, [.inl x85], h79, c80, s81) _
  refine k_istore 29 rfl rfl ?_
  exact b_X4_set_29 _ rfl (gs_ne rfl rfl g0) o0 (gs_ne rfl rfl g1) (gs_ne rfl rfl g2) gs_eq (okL_set (i := 3) (v := .inl x85) rfl L83) I82 hp
theorem c_X4_set {h : am_h} {v0 : Nat} {v1 : Int32} {v2 : Int32} (hT : ty_H h) (o0 : ob 4 v0) (hp : v1.toInt < 2147483647) : am_Mt 3 72 [.inr (.inr (some v0)), .inl v1, .inl v2] h (ty_Q w_X4_set 0 (ob_P h) h) := am_Mt.of (b_X4_set rfl o0 rfl rfl hp (okA_r hT o0 (okA_i (okA_i okA_n))) (ob_I.start hT))
abbrev w_X4_put : List (Nat × Nat) := []
theorem b_X4_put {B : Nat} {h0 : am_h} {lv : am_l} {h : am_h} {c s : Nat} {v0 : Nat} {v1 : Int32} {v2 : Int32} (g0 : am_get lv 0 = some (.inr (.inr (some v0)))) (o0 : ob 4 v0) (g1 : am_get lv 1 = some (.inl v1)) (g2 : am_get lv 2 = some (.inl v2)) (hp : v1.toInt < 2147483647) (hL : am_okL h.length lv = true) (hI : ob_I w_X4_put B h0 h c s) : am_Ok am_G 3 63 (0, lv, [], h, c, s) (ty_Q w_X4_put 0 B h0) := by
  refine k_aload 1 rfl g0 rfl ?_
  refine k_iload 2 rfl g1 rfl ?_
  refine k_aload 3 rfl g0 rfl ?_
  refine k_iload 4 rfl g2 rfl ?_
  refine k_aload 5 rfl g0 rfl ?_
  obtain ⟨fs1, u2, e3, f4, t5⟩ := hI.1.get o0 (k := 0) rfl rfl
  obtain ⟨i6, rfl, o7⟩ := t5
  refine k_get 8 rfl e3 f4 rfl ?_
  refine k_iload 9 rfl g1 rfl ?_
  refine k_cl (W' := []) rfl (rw_get hI.1 (Or.inl o7)) rfl rfl rfl (hI.1.rc3 (Or.inl o7)) hI (by decide) hL (so_i (so_r hI o0 (so_i (so_r hI o0 so_n)))) ?_
  rintro w8 h9 c10 s11 hv I12 L13 F14
  obtain ⟨_, rfl, x15, rfl⟩ := hv
  show am_Ok _ _ _ (12, _, [.inl x15, .inl v2, .inr (.inr (some v0)), .inl v1, .inr (.inr (some v0))], h9, c10, s11) _
  refine k_push 13 rfl rfl ?_
  refine k_cl (W' := w_X4_cell) rfl (c_X4_cell I12.1 o0) rfl rfl rfl (I12.1.rc o0 rfl) I12 (by decide) L13 (so_i (so_r I12 o0 so_n)) ?_
  rintro w16 h17 c18 s19 hv I20 L21 F22
  obtain ⟨_, rfl, x23, rfl⟩ := hv
  show am_Ok _ _ _ (16, _, [.inl x23, .inl v1, .inr (.inr (some v0))], h17, c18, s19) _
  refine k_cl (W' := w_X4_set) rfl (c_X4_set I20.1 o0 hp) rfl rfl rfl (I20.1.rc o0 rfl) I20 (by decide) L21 so_n ?_
  rintro w24 h25 c26 s27 hv I28 L29 F30
  cases hv
  show am_Ok _ _ _ (19, _, [], h25, c26, s27) _
  exact k_fin rfl rfl ⟨⟨_, rfl, rfl⟩, I28⟩
theorem c_X4_put {h : am_h} {v0 : Nat} {v1 : Int32} {v2 : Int32} (hT : ty_H h) (o0 : ob 4 v0) (hp : v1.toInt < 2147483647) : am_Mt 4 63 [.inr (.inr (some v0)), .inl v1, .inl v2] h (ty_Q w_X4_put 0 (ob_P h) h) := am_Mt.of (b_X4_put rfl o0 rfl rfl hp (okA_r hT o0 (okA_i (okA_i okA_n))) (ob_I.start hT))
abbrev w_X4_take : List (Nat × Nat) := []
theorem b_X4_take {B : Nat} {h0 : am_h} {lv : am_l} {h : am_h} {c s : Nat} {v0 : Nat} {v1 : Int32} (g0 : am_get lv 0 = some (.inr (.inr (some v0)))) (o0 : ob 4 v0) (g1 : am_get lv 1 = some (.inl v1)) (hp : v1.toInt < 2147483647) (hL : am_okL h.length lv = true) (hI : ob_I w_X4_take B h0 h c s) : am_Ok am_G 3 64 (0, lv, [], h, c, s) (ty_Q w_X4_take 2 B h0) := by
  refine k_push 1 rfl rfl ?_
  refine k_aload 2 rfl g0 rfl ?_
  obtain ⟨fs1, u2, e3, f4, t5⟩ := hI.1.get o0 (k := 0) rfl rfl
  obtain ⟨i6, rfl, o7⟩ := t5
  refine k_get 5 rfl e3 f4 rfl ?_
  refine k_iload 6 rfl g1 rfl ?_
  refine k_cl (W' := []) rfl (rw_get hI.1 (Or.inl o7)) rfl rfl rfl (hI.1.rc3 (Or.inl o7)) hI (by decide) hL (so_i so_n) ?_
  rintro w8 h9 c10 s11 hv I12 L13 F14
  obtain ⟨_, rfl, x15, rfl⟩ := hv
  show am_Ok _ _ _ (9, _, [.inl x15, .inl (5 : Int32)], h9, c10, s11) _
  obtain ⟨x16, q17⟩ : ∃ q : Int32, q = ((5 : Int32) * x15) := ⟨_, rfl⟩
  refine k_bin x16 10 rfl q17.symm rfl ?_
  refine k_istore 11 rfl rfl ?_
  refine k_aload 12 rfl (gs_ne rfl rfl g0) rfl ?_
  obtain ⟨fs18, u19, e20, f21, t22⟩ := I12.1.get o0 (k := 1) rfl rfl
  obtain ⟨i23, rfl, o24⟩ := t22
  refine k_get 15 rfl e20 f21 rfl ?_
  refine k_iload 16 rfl gs_eq rfl ?_
  refine k_cl (W' := []) rfl (rw_get I12.1 (Or.inl o24)) rfl rfl rfl (I12.1.rc3 (Or.inl o24)) I12 (by decide) (okL_set (i := 2) (v := .inl x16) rfl L13) so_n ?_
  rintro w25 h26 c27 s28 hv I29 L30 F31
  obtain ⟨_, rfl, x32, rfl⟩ := hv
  show am_Ok _ _ _ (19, _, [.inl x32], h26, c27, s28) _
  refine k_istore 20 rfl rfl ?_
  refine k_iload 21 rfl gs_eq rfl ?_
  by_cases b33 : x32 = 0
  · refine k_c1 29 rfl rfl (if_pos b33) ?_
    refine k_push 30 rfl rfl ?_
    exact k_fin rfl rfl ⟨⟨_, rfl, ⟨_, rfl, _, rfl⟩⟩, I29⟩
  · refine k_c1 24 rfl rfl (if_neg b33) ?_
    refine k_iload 25 rfl gs_eq rfl ?_
    refine k_push 26 rfl rfl ?_
    by_cases b34 : x32 = (3 : Int32)
    · refine k_c2 29 rfl rfl (if_pos b34) ?_
      refine k_push 30 rfl rfl ?_
      exact k_fin rfl rfl ⟨⟨_, rfl, ⟨_, rfl, _, rfl⟩⟩, I29⟩
    · refine k_c2 31 rfl rfl (if_neg b34) ?_
      refine k_aload 32 rfl (gs_ne rfl rfl (gs_ne rfl rfl g0)) rfl ?_
      refine k_iload 33 rfl (gs_ne rfl rfl (gs_ne rfl rfl g1)) rfl ?_
      refine k_aload 34 rfl (gs_ne rfl rfl (gs_ne rfl rfl g0)) rfl ?_
      obtain ⟨fs35, u36, e37, f38, t39⟩ := I29.1.get o0 (k := 1) rfl rfl
      obtain ⟨i40, rfl, o41⟩ := t39
      refine k_get 37 rfl e37 f38 rfl ?_
      refine k_iload 38 rfl (gs_ne rfl rfl gs_eq) rfl ?_
      refine k_push 39 rfl rfl ?_
      obtain ⟨x42, q43⟩ : ∃ q : Int32, q = (x16 + (1 : Int32)) := ⟨_, rfl⟩
      refine k_bin x42 40 rfl q43.symm rfl ?_
      refine k_cl (W' := []) rfl (rw_get I29.1 (Or.inl o41)) rfl rfl rfl (I29.1.rc3 (Or.inl o41)) I29 (by decide) (okL_set (i := 3) (v := .inl x32) rfl L30) (so_i (so_r I29 o0 so_n)) ?_
      rintro w44 h45 c46 s47 hv I48 L49 F50
      obtain ⟨_, rfl, x51, rfl⟩ := hv
      show am_Ok _ _ _ (43, _, [.inl x51, .inl v1, .inr (.inr (some v0))], h45, c46, s47) _
      refine k_cl (W' := w_X4_set) rfl (c_X4_set I48.1 o0 hp) rfl rfl rfl (I48.1.rc o0 rfl) I48 (by decide) L49 so_n ?_
      rintro w52 h53 c54 s55 hv I56 L57 F58
      cases hv
      show am_Ok _ _ _ (46, _, [], h53, c54, s55) _
      refine k_iload 47 rfl gs_eq rfl ?_
      exact k_fin rfl rfl ⟨⟨_, rfl, ⟨_, rfl, _, rfl⟩⟩, I56⟩
theorem c_X4_take {h : am_h} {v0 : Nat} {v1 : Int32} (hT : ty_H h) (o0 : ob 4 v0) (hp : v1.toInt < 2147483647) : am_Mt 4 64 [.inr (.inr (some v0)), .inl v1] h (ty_Q w_X4_take 2 (ob_P h) h) := am_Mt.of (b_X4_take rfl o0 rfl hp (okA_r hT o0 (okA_i okA_n)) (ob_I.start hT))
abbrev w_X4_insert : List (Nat × Nat) := []
theorem b_X4_insert_24 {B : Nat} {h0 : am_h} : ∀ (n : Nat) {lv : am_l} {h : am_h} {c s : Nat} {v0 : Nat} {v1 : Int32} {v2 : Int32} {v3 : Int32} , up_m v3 = n → am_get lv 0 = some (.inr (.inr (some v0))) → ob 4 v0 → am_get lv 1 = some (.inl v1) → am_get lv 2 = some (.inl v2) → am_get lv 3 = some (.inl v3) → am_okL h.length lv = true → ob_I w_X4_insert B h0 h c s → am_Ok am_G 2 73 (24, lv, [], h, c, s) (ty_Q w_X4_insert 0 B h0) := by
  intro n
  induction n using Nat.strongRecOn with
  | ind n ih =>
    intro lv h c s v0 v1 v2 v3 hn g0 o0 g1 g2 g3 hL hI
    refine k_iload 25 rfl g3 rfl ?_
    refine k_iload 26 rfl g1 rfl ?_
    by_cases b1 : v1 ≤ v3
    · refine k_c2 44 rfl rfl (if_pos b1) ?_
      refine k_aload 45 rfl g0 rfl ?_
      obtain ⟨fs2, u3, e4, f5, t6⟩ := hI.1.get o0 (k := 0) rfl rfl
      obtain ⟨i7, rfl, o8⟩ := t6
      refine k_get 48 rfl e4 f5 rfl ?_
      refine k_iload 49 rfl g1 rfl ?_
      refine k_iload 50 rfl g2 rfl ?_
      refine k_cl (W' := []) rfl (rw_insert hI.1 o8) rfl rfl rfl (hI.1.rc3 (Or.inl o8)) hI (by decide) hL so_n ?_
      rintro w9 h10 c11 s12 hv I13 L14 F15
      cases hv
      show am_Ok _ _ _ (53, _, [], h10, c11, s12) _
      refine k_aload 54 rfl g0 rfl ?_
      obtain ⟨fs16, u17, e18, f19, t20⟩ := I13.1.get o0 (k := 2) rfl rfl
      obtain ⟨i21, rfl, o22⟩ := t20
      refine k_get 57 rfl e18 f19 rfl ?_
      refine k_push 58 rfl rfl ?_
      refine k_iload 59 rfl g1 rfl ?_
      refine k_push 60 rfl rfl ?_
      refine k_cl (W' := w_X4_undoing) rfl (c_X4_undoing I13.1 ) rfl rfl rfl rfl I13 (by decide) L14 (so_r I13 o22 so_n) ?_
      rintro w23 h24 c25 s26 hv I27 L28 F29
      obtain ⟨_, rfl, x30, rfl⟩ := hv
      show am_Ok _ _ _ (63, _, [.inl x30, .inr (.inr (some i21))], h24, c25, s26) _
      refine k_cl (W' := []) rfl ((rw_add (W := []) I27.1 (Or.inl o22)).imp (fun _ z => z.1)) rfl rfl rfl (I27.1.rc3 (Or.inl o22)) I27 (by decide) L28 so_n ?_
      rintro w31 h32 c33 s34 hv I35 L36 F37
      obtain ⟨_, rfl, x38, rfl, z39⟩ := hv
      show am_Ok _ _ _ (66, _, [.inl x38], h32, c33, s34) _
      refine k_pop 67 rfl rfl rfl ?_
      exact k_fin rfl rfl ⟨⟨_, rfl, rfl⟩, I35⟩
    · refine k_c2 29 rfl rfl (if_neg b1) ?_
      refine k_aload 30 rfl g0 rfl ?_
      obtain ⟨fs40, u41, e42, f43, t44⟩ := hI.1.get o0 (k := 0) rfl rfl
      obtain ⟨i45, rfl, o46⟩ := t44
      refine k_get 33 rfl e42 f43 rfl ?_
      refine k_push 34 rfl rfl ?_
      refine k_cl (W' := []) rfl ((rw_add (W := []) hI.1 (Or.inl o46)).imp (fun _ z => z.1)) rfl rfl rfl (hI.1.rc3 (Or.inl o46)) hI (by decide) hL so_n ?_
      rintro w47 h48 c49 s50 hv I51 L52 F53
      obtain ⟨_, rfl, x54, rfl, z55⟩ := hv
      show am_Ok _ _ _ (37, _, [.inl x54], h48, c49, s50) _
      refine k_pop 38 rfl rfl rfl ?_
      refine k_iinc (v3 + 1) 41 rfl g3 rfl rfl ?_
      refine k_goto 24 rfl rfl ?_
      exact ih _ (by rw [← hn]; exact up_lt b1) rfl (gs_ne rfl rfl g0) o0 (gs_ne rfl rfl g1) (gs_ne rfl rfl g2) gs_eq (okL_set (i := 3) (v := .inl (v3 + 1)) rfl L52) I51
theorem b_X4_insert {B : Nat} {h0 : am_h} {lv : am_l} {h : am_h} {c s : Nat} {v0 : Nat} {v1 : Int32} {v2 : Int32} (g0 : am_get lv 0 = some (.inr (.inr (some v0)))) (o0 : ob 4 v0) (g1 : am_get lv 1 = some (.inl v1)) (g2 : am_get lv 2 = some (.inl v2)) (hL : am_okL h.length lv = true) (hI : ob_I w_X4_insert B h0 h c s) : am_Ok am_G 2 73 (0, lv, [], h, c, s) (ty_Q w_X4_insert 0 B h0) := by
  refine k_iload 1 rfl g2 rfl ?_
  by_cases b56 : v2 = 0
  · refine k_c1 4 rfl rfl (if_pos b56) ?_
    refine k_iload 5 rfl g1 rfl ?_
    refine k_aload 6 rfl g0 rfl ?_
    obtain ⟨fs57, u58, e59, f60, t61⟩ := hI.1.get o0 (k := 0) rfl rfl
    obtain ⟨i62, rfl, o63⟩ := t61
    refine k_get 9 rfl e59 f60 rfl ?_
    refine k_cl (W' := []) rfl (rw_size hI.1 (Or.inl o63)) rfl rfl rfl (hI.1.rc3 (Or.inl o63)) hI (by decide) hL (so_i so_n) ?_
    rintro w64 h65 c66 s67 hv I68 L69 F70
    obtain ⟨_, rfl, x71, rfl⟩ := hv
    show am_Ok _ _ _ (12, _, [.inl x71, .inl v1], h65, c66, s67) _
    by_cases b72 : v1 < x71
    · refine k_c2 16 rfl rfl (if_pos b72) ?_
      refine k_aload 17 rfl g0 rfl ?_
      obtain ⟨fs73, u74, e75, f76, t77⟩ := I68.1.get o0 (k := 0) rfl rfl
      obtain ⟨i78, rfl, o79⟩ := t77
      refine k_get 20 rfl e75 f76 rfl ?_
      refine k_cl (W' := []) rfl (rw_size I68.1 (Or.inl o79)) rfl rfl rfl (I68.1.rc3 (Or.inl o79)) I68 (by decide) L69 so_n ?_
      rintro w80 h81 c82 s83 hv I84 L85 F86
      obtain ⟨_, rfl, x87, rfl⟩ := hv
      show am_Ok _ _ _ (23, _, [.inl x87], h81, c82, s83) _
      refine k_istore 24 rfl rfl ?_
      exact b_X4_insert_24 _ rfl (gs_ne rfl rfl g0) o0 (gs_ne rfl rfl g1) (gs_ne rfl rfl g2) gs_eq (okL_set (i := 3) (v := .inl x87) rfl L85) I84
    · refine k_c2 15 rfl rfl (if_neg b72) ?_
      exact k_fin rfl rfl ⟨⟨_, rfl, rfl⟩, I68⟩
  · refine k_c1 16 rfl rfl (if_neg b56) ?_
    refine k_aload 17 rfl g0 rfl ?_
    obtain ⟨fs88, u89, e90, f91, t92⟩ := hI.1.get o0 (k := 0) rfl rfl
    obtain ⟨i93, rfl, o94⟩ := t92
    refine k_get 20 rfl e90 f91 rfl ?_
    refine k_cl (W' := []) rfl (rw_size hI.1 (Or.inl o94)) rfl rfl rfl (hI.1.rc3 (Or.inl o94)) hI (by decide) hL so_n ?_
    rintro w95 h96 c97 s98 hv I99 L100 F101
    obtain ⟨_, rfl, x102, rfl⟩ := hv
    show am_Ok _ _ _ (23, _, [.inl x102], h96, c97, s98) _
    refine k_istore 24 rfl rfl ?_
    exact b_X4_insert_24 _ rfl (gs_ne rfl rfl g0) o0 (gs_ne rfl rfl g1) (gs_ne rfl rfl g2) gs_eq (okL_set (i := 3) (v := .inl x102) rfl L100) I99
theorem c_X4_insert {h : am_h} {v0 : Nat} {v1 : Int32} {v2 : Int32} (hT : ty_H h) (o0 : ob 4 v0) : am_Mt 3 73 [.inr (.inr (some v0)), .inl v1, .inl v2] h (ty_Q w_X4_insert 0 (ob_P h) h) := am_Mt.of (b_X4_insert rfl o0 rfl rfl (okA_r hT o0 (okA_i (okA_i okA_n))) (ob_I.start hT))
abbrev w_X4_open : List (Nat × Nat) := []
theorem b_X4_open {B : Nat} {h0 : am_h} {lv : am_l} {h : am_h} {c s : Nat} {v0 : Nat} {v1 : Int32} (g0 : am_get lv 0 = some (.inr (.inr (some v0)))) (o0 : ob 4 v0) (g1 : am_get lv 1 = some (.inl v1)) (hL : am_okL h.length lv = true) (hI : ob_I w_X4_open B h0 h c s) : am_Ok am_G 3 65 (0, lv, [], h, c, s) (ty_Q w_X4_open 0 B h0) := by
  refine k_aload 1 rfl g0 rfl ?_
  refine k_iload 2 rfl g1 rfl ?_
  refine k_push 3 rfl rfl ?_
  refine k_cl (W' := w_X4_insert) rfl (c_X4_insert hI.1 o0) rfl rfl rfl (hI.1.rc o0 rfl) hI (by decide) hL so_n ?_
  rintro w1 h2 c3 s4 hv I5 L6 F7
  cases hv
  show am_Ok _ _ _ (6, _, [], h2, c3, s4) _
  exact k_fin rfl rfl ⟨⟨_, rfl, rfl⟩, I5⟩
theorem c_X4_open {h : am_h} {v0 : Nat} {v1 : Int32} (hT : ty_H h) (o0 : ob 4 v0) : am_Mt 4 65 [.inr (.inr (some v0)), .inl v1] h (ty_Q w_X4_open 0 (ob_P h) h) := am_Mt.of (b_X4_open rfl o0 rfl (okA_r hT o0 (okA_i okA_n)) (ob_I.start hT))
abbrev w_X4_drop : List (Nat × Nat) := []
theorem b_X4_drop {B : Nat} {h0 : am_h} {lv : am_l} {h : am_h} {c s : Nat} {v0 : Nat} {v1 : Int32} (g0 : am_get lv 0 = some (.inr (.inr (some v0)))) (o0 : ob 4 v0) (g1 : am_get lv 1 = some (.inl v1)) (hL : am_okL h.length lv = true) (hI : ob_I w_X4_drop B h0 h c s) : am_Ok am_G 2 74 (0, lv, [], h, c, s) (ty_Q w_X4_drop 0 B h0) := by
  refine k_iload 1 rfl g1 rfl ?_
  refine k_aload 2 rfl g0 rfl ?_
  obtain ⟨fs1, u2, e3, f4, t5⟩ := hI.1.get o0 (k := 0) rfl rfl
  obtain ⟨i6, rfl, o7⟩ := t5
  refine k_get 5 rfl e3 f4 rfl ?_
  refine k_cl (W' := []) rfl (rw_size hI.1 (Or.inl o7)) rfl rfl rfl (hI.1.rc3 (Or.inl o7)) hI (by decide) hL (so_i so_n) ?_
  rintro w8 h9 c10 s11 hv I12 L13 F14
  obtain ⟨_, rfl, x15, rfl⟩ := hv
  show am_Ok _ _ _ (8, _, [.inl x15, .inl v1], h9, c10, s11) _
  by_cases b16 : x15 ≤ v1
  · refine k_c2 40 rfl rfl (if_pos b16) ?_
    exact k_fin rfl rfl ⟨⟨_, rfl, rfl⟩, I12⟩
  · refine k_c2 11 rfl rfl (if_neg b16) ?_
    refine k_aload 12 rfl g0 rfl ?_
    obtain ⟨fs17, u18, e19, f20, t21⟩ := I12.1.get o0 (k := 2) rfl rfl
    obtain ⟨i22, rfl, o23⟩ := t21
    refine k_get 15 rfl e19 f20 rfl ?_
    refine k_push 16 rfl rfl ?_
    refine k_iload 17 rfl g1 rfl ?_
    refine k_aload 18 rfl g0 rfl ?_
    obtain ⟨fs24, u25, e26, f27, t28⟩ := I12.1.get o0 (k := 0) rfl rfl
    obtain ⟨i29, rfl, o30⟩ := t28
    refine k_get 21 rfl e26 f27 rfl ?_
    refine k_iload 22 rfl g1 rfl ?_
    refine k_cl (W' := []) rfl (rw_get I12.1 (Or.inl o30)) rfl rfl rfl (I12.1.rc3 (Or.inl o30)) I12 (by decide) L13 (so_i (so_i (so_r I12 o23 so_n))) ?_
    rintro w31 h32 c33 s34 hv I35 L36 F37
    obtain ⟨_, rfl, x38, rfl⟩ := hv
    show am_Ok _ _ _ (25, _, [.inl x38, .inl v1, .inl (1 : Int32), .inr (.inr (some i22))], h32, c33, s34) _
    refine k_cl (W' := w_X4_undoing) rfl (c_X4_undoing I35.1 ) rfl rfl rfl rfl I35 (by decide) L36 (so_r I35 o23 so_n) ?_
    rintro w39 h40 c41 s42 hv I43 L44 F45
    obtain ⟨_, rfl, x46, rfl⟩ := hv
    show am_Ok _ _ _ (28, _, [.inl x46, .inr (.inr (some i22))], h40, c41, s42) _
    refine k_cl (W' := []) rfl ((rw_add (W := []) I43.1 (Or.inl o23)).imp (fun _ z => z.1)) rfl rfl rfl (I43.1.rc3 (Or.inl o23)) I43 (by decide) L44 so_n ?_
    rintro w47 h48 c49 s50 hv I51 L52 F53
    obtain ⟨_, rfl, x54, rfl, z55⟩ := hv
    show am_Ok _ _ _ (31, _, [.inl x54], h48, c49, s50) _
    refine k_pop 32 rfl rfl rfl ?_
    refine k_aload 33 rfl g0 rfl ?_
    obtain ⟨fs56, u57, e58, f59, t60⟩ := I51.1.get o0 (k := 0) rfl rfl
    obtain ⟨i61, rfl, o62⟩ := t60
    refine k_get 36 rfl e58 f59 rfl ?_
    refine k_iload 37 rfl g1 rfl ?_
    refine k_cl (W' := []) rfl (rw_drop I51.1 o62) rfl rfl rfl (I51.1.rc3 (Or.inl o62)) I51 (by decide) L52 so_n ?_
    rintro w63 h64 c65 s66 hv I67 L68 F69
    cases hv
    show am_Ok _ _ _ (40, _, [], h64, c65, s66) _
    exact k_fin rfl rfl ⟨⟨_, rfl, rfl⟩, I67⟩
theorem c_X4_drop {h : am_h} {v0 : Nat} {v1 : Int32} (hT : ty_H h) (o0 : ob 4 v0) : am_Mt 3 74 [.inr (.inr (some v0)), .inl v1] h (ty_Q w_X4_drop 0 (ob_P h) h) := am_Mt.of (b_X4_drop rfl o0 rfl (okA_r hT o0 (okA_i okA_n)) (ob_I.start hT))
abbrev w_X4_close : List (Nat × Nat) := []
theorem b_X4_close {B : Nat} {h0 : am_h} {lv : am_l} {h : am_h} {c s : Nat} {v0 : Nat} {v1 : Int32} (g0 : am_get lv 0 = some (.inr (.inr (some v0)))) (o0 : ob 4 v0) (g1 : am_get lv 1 = some (.inl v1)) (hL : am_okL h.length lv = true) (hI : ob_I w_X4_close B h0 h c s) : am_Ok am_G 3 66 (0, lv, [], h, c, s) (ty_Q w_X4_close 3 B h0) := by
  refine k_aload 1 rfl g0 rfl ?_
  obtain ⟨fs1, u2, e3, f4, t5⟩ := hI.1.get o0 (k := 0) rfl rfl
  obtain ⟨i6, rfl, o7⟩ := t5
  refine k_get 4 rfl e3 f4 rfl ?_
  refine k_iload 5 rfl g1 rfl ?_
  refine k_cl (W' := []) rfl (rw_get hI.1 (Or.inl o7)) rfl rfl rfl (hI.1.rc3 (Or.inl o7)) hI (by decide) hL so_n ?_
  rintro w8 h9 c10 s11 hv I12 L13 F14
  obtain ⟨_, rfl, x15, rfl⟩ := hv
  show am_Ok _ _ _ (8, _, [.inl x15], h9, c10, s11) _
  by_cases b16 : x15 = 0
  · refine k_c1 13 rfl rfl (if_pos b16) ?_
    refine k_aload 14 rfl g0 rfl ?_
    refine k_iload 15 rfl g1 rfl ?_
    refine k_cl (W' := w_X4_drop) rfl (c_X4_drop I12.1 o0) rfl rfl rfl (I12.1.rc o0 rfl) I12 (by decide) L13 so_n ?_
    rintro w17 h18 c19 s20 hv I21 L22 F23
    cases hv
    show am_Ok _ _ _ (18, _, [], h18, c19, s20) _
    refine k_push 19 rfl rfl ?_
    exact k_fin rfl (fin_Z (Or.inr rfl)) ⟨⟨_, rfl, ⟨_, rfl, _, rfl, (Or.inr rfl)⟩⟩, I21⟩
  · refine k_c1 11 rfl rfl (if_neg b16) ?_
    refine k_push 12 rfl rfl ?_
    exact k_fin rfl (fin_Z (Or.inl rfl)) ⟨⟨_, rfl, ⟨_, rfl, _, rfl, (Or.inl rfl)⟩⟩, I12⟩
theorem c_X4_close {h : am_h} {v0 : Nat} {v1 : Int32} (hT : ty_H h) (o0 : ob 4 v0) : am_Mt 4 66 [.inr (.inr (some v0)), .inl v1] h (ty_Q w_X4_close 3 (ob_P h) h) := am_Mt.of (b_X4_close rfl o0 rfl (okA_r hT o0 (okA_i okA_n)) (ob_I.start hT))
abbrev w_X4_couple : List (Nat × Nat) := []
theorem b_X4_couple {B : Nat} {h0 : am_h} {lv : am_l} {h : am_h} {c s : Nat} {v0 : Nat} {v1 : Int32} (g0 : am_get lv 0 = some (.inr (.inr (some v0)))) (o0 : ob 4 v0) (g1 : am_get lv 1 = some (.inl v1)) (hp : v1.toInt < 2147483647) (hL : am_okL h.length lv = true) (hI : ob_I w_X4_couple B h0 h c s) : am_Ok am_G 3 67 (0, lv, [], h, c, s) (ty_Q w_X4_couple 0 B h0) := by
  refine k_aload 1 rfl g0 rfl ?_
  refine k_push 2 rfl rfl ?_
  refine k_aload 3 rfl g0 rfl ?_
  obtain ⟨fs1, u2, e3, f4, t5⟩ := hI.1.get o0 (k := 0) rfl rfl
  obtain ⟨i6, rfl, o7⟩ := t5
  refine k_get 6 rfl e3 f4 rfl ?_
  refine k_iload 7 rfl g1 rfl ?_
  refine k_cl (W' := []) rfl (rw_get hI.1 (Or.inl o7)) rfl rfl rfl (hI.1.rc3 (Or.inl o7)) hI (by decide) hL (so_i (so_r hI o0 so_n)) ?_
  rintro w8 h9 c10 s11 hv I12 L13 F14
  obtain ⟨_, rfl, x15, rfl⟩ := hv
  show am_Ok _ _ _ (10, _, [.inl x15, .inl (3 : Int32), .inr (.inr (some v0))], h9, c10, s11) _
  refine k_aload 11 rfl g0 rfl ?_
  obtain ⟨fs16, u17, e18, f19, t20⟩ := I12.1.get o0 (k := 0) rfl rfl
  obtain ⟨i21, rfl, o22⟩ := t20
  refine k_get 14 rfl e18 f19 rfl ?_
  refine k_iload 15 rfl g1 rfl ?_
  refine k_push 16 rfl rfl ?_
  obtain ⟨x23, q24⟩ : ∃ q : Int32, q = (v1 + (1 : Int32)) := ⟨_, rfl⟩
  refine k_bin x23 17 rfl q24.symm rfl ?_
  refine k_cl (W' := []) rfl (rw_get I12.1 (Or.inl o22)) rfl rfl rfl (I12.1.rc3 (Or.inl o22)) I12 (by decide) L13 (so_i (so_i (so_r I12 o0 so_n))) ?_
  rintro w25 h26 c27 s28 hv I29 L30 F31
  obtain ⟨_, rfl, x32, rfl⟩ := hv
  show am_Ok _ _ _ (20, _, [.inl x32, .inl x15, .inl (3 : Int32), .inr (.inr (some v0))], h26, c27, s28) _
  refine k_cl (W' := w_X4_cell) rfl (c_X4_cell I29.1 o0) rfl rfl rfl (I29.1.rc o0 rfl) I29 (by decide) L30 so_n ?_
  rintro w33 h34 c35 s36 hv I37 L38 F39
  obtain ⟨_, rfl, x40, rfl⟩ := hv
  show am_Ok _ _ _ (23, _, [.inl x40], h34, c35, s36) _
  refine k_istore 24 rfl rfl ?_
  refine k_aload 25 rfl (gs_ne rfl rfl g0) rfl ?_
  refine k_iload 26 rfl (gs_ne rfl rfl g1) rfl ?_
  refine k_push 27 rfl rfl ?_
  obtain ⟨x41, q42⟩ : ∃ q : Int32, q = (v1 + (1 : Int32)) := ⟨_, rfl⟩
  refine k_bin x41 28 rfl q42.symm rfl ?_
  refine k_cl (W' := w_X4_drop) rfl (c_X4_drop I37.1 o0) rfl rfl rfl (I37.1.rc o0 rfl) I37 (by decide) (okL_set (i := 2) (v := .inl x40) rfl L38) so_n ?_
  rintro w43 h44 c45 s46 hv I47 L48 F49
  cases hv
  show am_Ok _ _ _ (31, _, [], h44, c45, s46) _
  refine k_aload 32 rfl (gs_ne rfl rfl g0) rfl ?_
  refine k_iload 33 rfl (gs_ne rfl rfl g1) rfl ?_
  refine k_iload 34 rfl gs_eq rfl ?_
  refine k_cl (W' := w_X4_set) rfl (c_X4_set I47.1 o0 hp) rfl rfl rfl (I47.1.rc o0 rfl) I47 (by decide) L48 so_n ?_
  rintro w50 h51 c52 s53 hv I54 L55 F56
  cases hv
  show am_Ok _ _ _ (37, _, [], h51, c52, s53) _
  exact k_fin rfl rfl ⟨⟨_, rfl, rfl⟩, I54⟩
theorem c_X4_couple {h : am_h} {v0 : Nat} {v1 : Int32} (hT : ty_H h) (o0 : ob 4 v0) (hp : v1.toInt < 2147483647) : am_Mt 4 67 [.inr (.inr (some v0)), .inl v1] h (ty_Q w_X4_couple 0 (ob_P h) h) := am_Mt.of (b_X4_couple rfl o0 rfl hp (okA_r hT o0 (okA_i okA_n)) (ob_I.start hT))
abbrev w_X4_uncouple : List (Nat × Nat) := []
theorem b_X4_uncouple {B : Nat} {h0 : am_h} {lv : am_l} {h : am_h} {c s : Nat} {v0 : Nat} {v1 : Int32} (g0 : am_get lv 0 = some (.inr (.inr (some v0)))) (o0 : ob 4 v0) (g1 : am_get lv 1 = some (.inl v1)) (hp : v1.toInt < 2147483647) (hL : am_okL h.length lv = true) (hI : ob_I w_X4_uncouple B h0 h c s) : am_Ok am_G 3 68 (0, lv, [], h, c, s) (ty_Q w_X4_uncouple 3 B h0) := by
  refine k_push 1 rfl rfl ?_
  refine k_aload 2 rfl g0 rfl ?_
  obtain ⟨fs1, u2, e3, f4, t5⟩ := hI.1.get o0 (k := 0) rfl rfl
  obtain ⟨i6, rfl, o7⟩ := t5
  refine k_get 5 rfl e3 f4 rfl ?_
  refine k_iload 6 rfl g1 rfl ?_
  refine k_cl (W' := []) rfl (rw_get hI.1 (Or.inl o7)) rfl rfl rfl (hI.1.rc3 (Or.inl o7)) hI (by decide) hL (so_i so_n) ?_
  rintro w8 h9 c10 s11 hv I12 L13 F14
  obtain ⟨_, rfl, x15, rfl⟩ := hv
  show am_Ok _ _ _ (9, _, [.inl x15, .inl (5 : Int32)], h9, c10, s11) _
  obtain ⟨x16, q17⟩ : ∃ q : Int32, q = ((5 : Int32) * x15) := ⟨_, rfl⟩
  refine k_bin x16 10 rfl q17.symm rfl ?_
  refine k_istore 11 rfl rfl ?_
  refine k_aload 12 rfl (gs_ne rfl rfl g0) rfl ?_
  obtain ⟨fs18, u19, e20, f21, t22⟩ := I12.1.get o0 (k := 1) rfl rfl
  obtain ⟨i23, rfl, o24⟩ := t22
  refine k_get 15 rfl e20 f21 rfl ?_
  refine k_iload 16 rfl gs_eq rfl ?_
  refine k_cl (W' := []) rfl (rw_get I12.1 (Or.inl o24)) rfl rfl rfl (I12.1.rc3 (Or.inl o24)) I12 (by decide) (okL_set (i := 2) (v := .inl x16) rfl L13) so_n ?_
  rintro w25 h26 c27 s28 hv I29 L30 F31
  obtain ⟨_, rfl, x32, rfl⟩ := hv
  show am_Ok _ _ _ (19, _, [.inl x32], h26, c27, s28) _
  refine k_push 20 rfl rfl ?_
  by_cases b33 : x32 = (3 : Int32)
  · refine k_c2 25 rfl rfl (if_pos b33) ?_
    refine k_aload 26 rfl (gs_ne rfl rfl g0) rfl ?_
    refine k_iload 27 rfl (gs_ne rfl rfl g1) rfl ?_
    refine k_aload 28 rfl (gs_ne rfl rfl g0) rfl ?_
    obtain ⟨fs34, u35, e36, f37, t38⟩ := I29.1.get o0 (k := 1) rfl rfl
    obtain ⟨i39, rfl, o40⟩ := t38
    refine k_get 31 rfl e36 f37 rfl ?_
    refine k_iload 32 rfl gs_eq rfl ?_
    refine k_push 33 rfl rfl ?_
    obtain ⟨x41, q42⟩ : ∃ q : Int32, q = (x16 + (1 : Int32)) := ⟨_, rfl⟩
    refine k_bin x41 34 rfl q42.symm rfl ?_
    refine k_cl (W' := []) rfl (rw_get I29.1 (Or.inl o40)) rfl rfl rfl (I29.1.rc3 (Or.inl o40)) I29 (by decide) L30 (so_i (so_r I29 o0 so_n)) ?_
    rintro w43 h44 c45 s46 hv I47 L48 F49
    obtain ⟨_, rfl, x50, rfl⟩ := hv
    show am_Ok _ _ _ (37, _, [.inl x50, .inl v1, .inr (.inr (some v0))], h44, c45, s46) _
    refine k_cl (W' := w_X4_set) rfl (c_X4_set I47.1 o0 hp) rfl rfl rfl (I47.1.rc o0 rfl) I47 (by decide) L48 so_n ?_
    rintro w51 h52 c53 s54 hv I55 L56 F57
    cases hv
    show am_Ok _ _ _ (40, _, [], h52, c53, s54) _
    refine k_aload 41 rfl (gs_ne rfl rfl g0) rfl ?_
    refine k_iload 42 rfl (gs_ne rfl rfl g1) rfl ?_
    refine k_push 43 rfl rfl ?_
    obtain ⟨x58, q59⟩ : ∃ q : Int32, q = (v1 + (1 : Int32)) := ⟨_, rfl⟩
    refine k_bin x58 44 rfl q59.symm rfl ?_
    refine k_aload 45 rfl (gs_ne rfl rfl g0) rfl ?_
    obtain ⟨fs60, u61, e62, f63, t64⟩ := I55.1.get o0 (k := 1) rfl rfl
    obtain ⟨i65, rfl, o66⟩ := t64
    refine k_get 48 rfl e62 f63 rfl ?_
    refine k_iload 49 rfl gs_eq rfl ?_
    refine k_push 50 rfl rfl ?_
    obtain ⟨x67, q68⟩ : ∃ q : Int32, q = (x16 + (2 : Int32)) := ⟨_, rfl⟩
    refine k_bin x67 51 rfl q68.symm rfl ?_
    refine k_cl (W' := []) rfl (rw_get I55.1 (Or.inl o66)) rfl rfl rfl (I55.1.rc3 (Or.inl o66)) I55 (by decide) L56 (so_i (so_r I55 o0 so_n)) ?_
    rintro w69 h70 c71 s72 hv I73 L74 F75
    obtain ⟨_, rfl, x76, rfl⟩ := hv
    show am_Ok _ _ _ (54, _, [.inl x76, .inl x58, .inr (.inr (some v0))], h70, c71, s72) _
    refine k_cl (W' := w_X4_insert) rfl (c_X4_insert I73.1 o0) rfl rfl rfl (I73.1.rc o0 rfl) I73 (by decide) L74 so_n ?_
    rintro w77 h78 c79 s80 hv I81 L82 F83
    cases hv
    show am_Ok _ _ _ (57, _, [], h78, c79, s80) _
    refine k_push 58 rfl rfl ?_
    exact k_fin rfl (fin_Z (Or.inr rfl)) ⟨⟨_, rfl, ⟨_, rfl, _, rfl, (Or.inr rfl)⟩⟩, I81⟩
  · refine k_c2 23 rfl rfl (if_neg b33) ?_
    refine k_push 24 rfl rfl ?_
    exact k_fin rfl (fin_Z (Or.inl rfl)) ⟨⟨_, rfl, ⟨_, rfl, _, rfl, (Or.inl rfl)⟩⟩, I29⟩
theorem c_X4_uncouple {h : am_h} {v0 : Nat} {v1 : Int32} (hT : ty_H h) (o0 : ob 4 v0) (hp : v1.toInt < 2147483647) : am_Mt 4 68 [.inr (.inr (some v0)), .inl v1] h (ty_Q w_X4_uncouple 3 (ob_P h) h) := am_Mt.of (b_X4_uncouple rfl o0 rfl hp (okA_r hT o0 (okA_i okA_n)) (ob_I.start hT))
abbrev w_X4_mark : List (Nat × Nat) := []
theorem b_X4_mark {B : Nat} {h0 : am_h} {lv : am_l} {h : am_h} {c s : Nat} {v0 : Nat} (g0 : am_get lv 0 = some (.inr (.inr (some v0)))) (o0 : ob 4 v0) (hL : am_okL h.length lv = true) (hI : ob_I w_X4_mark B h0 h c s) : am_Ok am_G 1 69 (0, lv, [], h, c, s) (ty_Q w_X4_mark 2 B h0) := by
  refine k_aload 1 rfl g0 rfl ?_
  obtain ⟨fs1, u2, e3, f4, t5⟩ := hI.1.get o0 (k := 2) rfl rfl
  obtain ⟨i6, rfl, o7⟩ := t5
  refine k_get 4 rfl e3 f4 rfl ?_
  refine k_cl (W' := []) rfl (rw_size hI.1 (Or.inl o7)) rfl rfl rfl (hI.1.rc3 (Or.inl o7)) hI (by decide) hL so_n ?_
  rintro w8 h9 c10 s11 hv I12 L13 F14
  obtain ⟨_, rfl, x15, rfl⟩ := hv
  show am_Ok _ _ _ (7, _, [.inl x15], h9, c10, s11) _
  exact k_fin rfl rfl ⟨⟨_, rfl, ⟨_, rfl, _, rfl⟩⟩, I12⟩
theorem c_X4_mark {h : am_h} {v0 : Nat} (hT : ty_H h) (o0 : ob 4 v0) : am_Mt 2 69 [.inr (.inr (some v0))] h (ty_Q w_X4_mark 2 (ob_P h) h) := am_Mt.of (b_X4_mark rfl o0 (okA_r hT o0 okA_n) (ob_I.start hT))
abbrev w_X4_back : List (Nat × Nat) := []
theorem b_X4_back_8 {B : Nat} {h0 : am_h} : ∀ (n : Nat) {lv : am_l} {h : am_h} {c s : Nat} {v0 : Nat} {v1 : Int32} {v2 : Int32} , dn_m v2 = n → am_get lv 0 = some (.inr (.inr (some v0))) → ob 4 v0 → am_get lv 1 = some (.inl v1) → am_get lv 2 = some (.inl v2) → am_okL h.length lv = true → ob_I w_X4_back B h0 h c s → am_Ok am_G 2 70 (8, lv, [], h, c, s) (ty_Q w_X4_back 0 B h0) := by
  intro n
  induction n using Nat.strongRecOn with
  | ind n ih =>
    intro lv h c s v0 v1 v2 hn g0 o0 g1 g2 hL hI
    refine k_iload 9 rfl g2 rfl ?_
    refine k_iload 10 rfl g1 rfl ?_
    by_cases b1 : v2 ≤ v1
    · refine k_c2 107 rfl rfl (if_pos b1) ?_
      exact k_fin rfl rfl ⟨⟨_, rfl, rfl⟩, hI⟩
    · refine k_c2 13 rfl rfl (if_neg b1) ?_
      refine k_aload 14 rfl g0 rfl ?_
      obtain ⟨fs2, u3, e4, f5, t6⟩ := hI.1.get o0 (k := 2) rfl rfl
      obtain ⟨i7, rfl, o8⟩ := t6
      refine k_get 17 rfl e4 f5 rfl ?_
      refine k_cl (W' := []) rfl (rw_takeLast hI.1 o8) rfl rfl rfl (hI.1.rc3 (Or.inl o8)) hI (by decide) hL so_n ?_
      rintro w9 h10 c11 s12 hv I13 L14 F15
      obtain ⟨_, rfl, x16, rfl⟩ := hv
      show am_Ok _ _ _ (20, _, [.inl x16], h10, c11, s12) _
      refine k_istore 21 rfl rfl ?_
      refine k_iload 22 rfl gs_eq rfl ?_
      refine k_push 23 rfl rfl ?_
      obtain ⟨x17, q18⟩ : ∃ q : Int32, q = (x16 >>> ((2 : Int32) &&& 31)) := ⟨_, rfl⟩
      refine k_bin x17 24 rfl q18.symm rfl ?_
      refine k_push 27 rfl rfl ?_
      obtain ⟨x19, q20⟩ : ∃ q : Int32, q = (x17 &&& (255 : Int32)) := ⟨_, rfl⟩
      refine k_bin x19 28 rfl q20.symm rfl ?_
      refine k_istore 30 rfl rfl ?_
      refine k_iload 31 rfl (gs_ne rfl rfl gs_eq) rfl ?_
      refine k_push 32 rfl rfl ?_
      obtain ⟨x21, q22⟩ : ∃ q : Int32, q = (x16 &&& (3 : Int32)) := ⟨_, rfl⟩
      refine k_bin x21 33 rfl q22.symm rfl ?_
      by_cases b23 : x21.toInt = 0
      · refine k_sw 60 rfl (by simp only [am_lk]; rw [if_pos b23]) ?_
        refine k_aload 61 rfl (gs_ne rfl rfl (gs_ne rfl rfl g0)) rfl ?_
        obtain ⟨fs24, u25, e26, f27, t28⟩ := I13.1.get o0 (k := 0) rfl rfl
        obtain ⟨i29, rfl, o30⟩ := t28
        refine k_get 64 rfl e26 f27 rfl ?_
        refine k_iload 66 rfl gs_eq rfl ?_
        refine k_iload 67 rfl (gs_ne rfl rfl gs_eq) rfl ?_
        refine k_push 69 rfl rfl ?_
        obtain ⟨x31, q32⟩ : ∃ q : Int32, q = (x16 >>> ((10 : Int32) &&& 31)) := ⟨_, rfl⟩
        refine k_bin x31 70 rfl q32.symm rfl ?_
        refine k_cl (W' := []) rfl (rw_set I13.1 o30) rfl rfl rfl (I13.1.rc3 (Or.inl o30)) I13 (by decide) (okL_set (i := 4) (v := .inl x19) rfl (okL_set (i := 3) (v := .inl x16) rfl L14)) so_n ?_
        rintro w33 h34 c35 s36 hv I37 L38 F39
        cases hv
        show am_Ok _ _ _ (73, _, [], h34, c35, s36) _
        refine k_goto 101 rfl rfl ?_
        refine k_iinc (v2 + (-1)) 104 rfl (gs_ne rfl rfl (gs_ne rfl rfl g2)) rfl rfl ?_
        refine k_goto 8 rfl rfl ?_
        exact ih _ (by rw [← hn]; exact dn_lt b1) rfl (gs_ne rfl rfl (gs_ne rfl rfl (gs_ne rfl rfl g0))) o0 (gs_ne rfl rfl (gs_ne rfl rfl (gs_ne rfl rfl g1))) gs_eq (okL_set (i := 2) (v := .inl (v2 + (-1))) rfl L38) I37
      by_cases b40 : x21.toInt = 1
      · refine k_sw 76 rfl (by simp only [am_lk]; rw [if_neg b23, if_pos b40]) ?_
        refine k_aload 77 rfl (gs_ne rfl rfl (gs_ne rfl rfl g0)) rfl ?_
        obtain ⟨fs41, u42, e43, f44, t45⟩ := I13.1.get o0 (k := 0) rfl rfl
        obtain ⟨i46, rfl, o47⟩ := t45
        refine k_get 80 rfl e43 f44 rfl ?_
        refine k_iload 82 rfl gs_eq rfl ?_
        refine k_iload 83 rfl (gs_ne rfl rfl gs_eq) rfl ?_
        refine k_push 85 rfl rfl ?_
        obtain ⟨x48, q49⟩ : ∃ q : Int32, q = (x16 >>> ((10 : Int32) &&& 31)) := ⟨_, rfl⟩
        refine k_bin x48 86 rfl q49.symm rfl ?_
        refine k_cl (W' := []) rfl (rw_insert I13.1 o47) rfl rfl rfl (I13.1.rc3 (Or.inl o47)) I13 (by decide) (okL_set (i := 4) (v := .inl x19) rfl (okL_set (i := 3) (v := .inl x16) rfl L14)) so_n ?_
        rintro w50 h51 c52 s53 hv I54 L55 F56
        cases hv
        show am_Ok _ _ _ (89, _, [], h51, c52, s53) _
        refine k_goto 101 rfl rfl ?_
        refine k_iinc (v2 + (-1)) 104 rfl (gs_ne rfl rfl (gs_ne rfl rfl g2)) rfl rfl ?_
        refine k_goto 8 rfl rfl ?_
        exact ih _ (by rw [← hn]; exact dn_lt b1) rfl (gs_ne rfl rfl (gs_ne rfl rfl (gs_ne rfl rfl g0))) o0 (gs_ne rfl rfl (gs_ne rfl rfl (gs_ne rfl rfl g1))) gs_eq (okL_set (i := 2) (v := .inl (v2 + (-1))) rfl L55) I54
      refine k_sw 92 rfl (by simp only [am_lk]; rw [if_neg b23, if_neg b40]) ?_
      refine k_aload 93 rfl (gs_ne rfl rfl (gs_ne rfl rfl g0)) rfl ?_
      obtain ⟨fs57, u58, e59, f60, t61⟩ := I13.1.get o0 (k := 0) rfl rfl
      obtain ⟨i62, rfl, o63⟩ := t61
      refine k_get 96 rfl e59 f60 rfl ?_
      refine k_iload 98 rfl gs_eq rfl ?_
      refine k_cl (W' := []) rfl (rw_drop I13.1 o63) rfl rfl rfl (I13.1.rc3 (Or.inl o63)) I13 (by decide) (okL_set (i := 4) (v := .inl x19) rfl (okL_set (i := 3) (v := .inl x16) rfl L14)) so_n ?_
      rintro w64 h65 c66 s67 hv I68 L69 F70
      cases hv
      show am_Ok _ _ _ (101, _, [], h65, c66, s67) _
      refine k_iinc (v2 + (-1)) 104 rfl (gs_ne rfl rfl (gs_ne rfl rfl g2)) rfl rfl ?_
      refine k_goto 8 rfl rfl ?_
      exact ih _ (by rw [← hn]; exact dn_lt b1) rfl (gs_ne rfl rfl (gs_ne rfl rfl (gs_ne rfl rfl g0))) o0 (gs_ne rfl rfl (gs_ne rfl rfl (gs_ne rfl rfl g1))) gs_eq (okL_set (i := 2) (v := .inl (v2 + (-1))) rfl L69) I68
theorem b_X4_back {B : Nat} {h0 : am_h} {lv : am_l} {h : am_h} {c s : Nat} {v0 : Nat} {v1 : Int32} (g0 : am_get lv 0 = some (.inr (.inr (some v0)))) (o0 : ob 4 v0) (g1 : am_get lv 1 = some (.inl v1)) (hL : am_okL h.length lv = true) (hI : ob_I w_X4_back B h0 h c s) : am_Ok am_G 2 70 (0, lv, [], h, c, s) (ty_Q w_X4_back 0 B h0) := by
  refine k_aload 1 rfl g0 rfl ?_
  obtain ⟨fs71, u72, e73, f74, t75⟩ := hI.1.get o0 (k := 2) rfl rfl
  obtain ⟨i76, rfl, o77⟩ := t75
  refine k_get 4 rfl e73 f74 rfl ?_
  refine k_cl (W' := []) rfl (rw_size hI.1 (Or.inl o77)) rfl rfl rfl (hI.1.rc3 (Or.inl o77)) hI (by decide) hL so_n ?_
  rintro w78 h79 c80 s81 hv I82 L83 F84
  obtain ⟨_, rfl, x85, rfl⟩ := hv
  show am_Ok _ _ _ (7, _, [.inl x85], h79, c80, s81) _
  refine k_istore 8 rfl rfl ?_
  exact b_X4_back_8 _ rfl (gs_ne rfl rfl g0) o0 (gs_ne rfl rfl g1) gs_eq (okL_set (i := 2) (v := .inl x85) rfl L83) I82
theorem c_X4_back {h : am_h} {v0 : Nat} {v1 : Int32} (hT : ty_H h) (o0 : ob 4 v0) : am_Mt 3 70 [.inr (.inr (some v0)), .inl v1] h (ty_Q w_X4_back 0 (ob_P h) h) := am_Mt.of (b_X4_back rfl o0 rfl (okA_r hT o0 (okA_i okA_n)) (ob_I.start hT))
abbrev w_X5_sign : List (Nat × Nat) := []
theorem b_X5_sign {B : Nat} {h0 : am_h} {lv : am_l} {h : am_h} {c s : Nat} {v0 : Nat} {v1 : Int32} (g0 : am_get lv 0 = some (.inr (.inr (some v0)))) (o0 : ob 5 v0) (g1 : am_get lv 1 = some (.inl v1)) (hL : am_okL h.length lv = true) (hI : ob_I w_X5_sign B h0 h c s) : am_Ok am_G 1 77 (0, lv, [], h, c, s) (ty_Q w_X5_sign 2 B h0) := by
  refine k_iload 1 rfl g1 rfl ?_
  by_cases b1 : v1 < 0
  · refine k_c1 26 rfl rfl (if_pos b1) ?_
    refine k_push 27 rfl rfl ?_
    exact k_fin rfl rfl ⟨⟨_, rfl, ⟨_, rfl, _, rfl⟩⟩, hI⟩
  · refine k_c1 4 rfl rfl (if_neg b1) ?_
    refine k_iload 5 rfl g1 rfl ?_
    refine k_aload 6 rfl g0 rfl ?_
    obtain ⟨fs2, u3, e4, f5, t6⟩ := hI.1.get o0 (k := 0) rfl rfl
    obtain ⟨i7, rfl, o8⟩ := t6
    refine k_get 9 rfl e4 f5 rfl ?_
    refine k_cl (W' := []) rfl (rw_size hI.1 (Or.inl o8)) rfl rfl rfl (hI.1.rc3 (Or.inl o8)) hI (by decide) hL (so_i so_n) ?_
    rintro w9 h10 c11 s12 hv I13 L14 F15
    obtain ⟨_, rfl, x16, rfl⟩ := hv
    show am_Ok _ _ _ (12, _, [.inl x16, .inl v1], h10, c11, s12) _
    by_cases b17 : x16 ≤ v1
    · refine k_c2 26 rfl rfl (if_pos b17) ?_
      refine k_push 27 rfl rfl ?_
      exact k_fin rfl rfl ⟨⟨_, rfl, ⟨_, rfl, _, rfl⟩⟩, I13⟩
    · refine k_c2 15 rfl rfl (if_neg b17) ?_
      refine k_aload 16 rfl g0 rfl ?_
      obtain ⟨fs18, u19, e20, f21, t22⟩ := I13.1.get o0 (k := 0) rfl rfl
      obtain ⟨i23, rfl, o24⟩ := t22
      refine k_get 19 rfl e20 f21 rfl ?_
      refine k_iload 20 rfl g1 rfl ?_
      refine k_cl (W' := []) rfl (rw_get I13.1 (Or.inl o24)) rfl rfl rfl (I13.1.rc3 (Or.inl o24)) I13 (by decide) L14 so_n ?_
      rintro w25 h26 c27 s28 hv I29 L30 F31
      obtain ⟨_, rfl, x32, rfl⟩ := hv
      show am_Ok _ _ _ (23, _, [.inl x32], h26, c27, s28) _
      refine k_goto 27 rfl rfl ?_
      exact k_fin rfl rfl ⟨⟨_, rfl, ⟨_, rfl, _, rfl⟩⟩, I29⟩
theorem c_X5_sign {h : am_h} {v0 : Nat} {v1 : Int32} (hT : ty_H h) (o0 : ob 5 v0) : am_Mt 2 77 [.inr (.inr (some v0)), .inl v1] h (ty_Q w_X5_sign 2 (ob_P h) h) := am_Mt.of (b_X5_sign rfl o0 rfl (okA_r hT o0 (okA_i okA_n)) (ob_I.start hT))
abbrev w_X5_open : List (Nat × Nat) := []
theorem b_X5_open {B : Nat} {h0 : am_h} {lv : am_l} {h : am_h} {c s : Nat} {v0 : Nat} (g0 : am_get lv 0 = some (.inr (.inr (some v0)))) (o0 : ob 5 v0) (hL : am_okL h.length lv = true) (hI : ob_I w_X5_open B h0 h c s) : am_Ok am_G 2 79 (0, lv, [], h, c, s) (ty_Q w_X5_open 0 B h0) := by
  refine k_aload 1 rfl g0 rfl ?_
  obtain ⟨fs1, u2, e3, f4, t5⟩ := hI.1.get o0 (k := 0) rfl rfl
  obtain ⟨i6, rfl, o7⟩ := t5
  refine k_get 4 rfl e3 f4 rfl ?_
  refine k_push 6 rfl rfl ?_
  refine k_cl (W' := []) rfl ((rw_add (W := []) hI.1 (Or.inl o7)).imp (fun _ z => z.1)) rfl rfl rfl (hI.1.rc3 (Or.inl o7)) hI (by decide) hL so_n ?_
  rintro w8 h9 c10 s11 hv I12 L13 F14
  obtain ⟨_, rfl, x15, rfl, z16⟩ := hv
  show am_Ok _ _ _ (9, _, [.inl x15], h9, c10, s11) _
  refine k_pop 10 rfl rfl rfl ?_
  refine k_aload 11 rfl g0 rfl ?_
  obtain ⟨fs17, u18, e19, f20, t21⟩ := I12.1.get o0 (k := 1) rfl rfl
  obtain ⟨i22, rfl, o23⟩ := t21
  refine k_get 14 rfl e19 f20 rfl ?_
  refine k_push 15 rfl rfl ?_
  refine k_cl (W' := []) rfl ((rw_add (W := []) I12.1 (Or.inl o23)).imp (fun _ z => z.1)) rfl rfl rfl (I12.1.rc3 (Or.inl o23)) I12 (by decide) L13 so_n ?_
  rintro w24 h25 c26 s27 hv I28 L29 F30
  obtain ⟨_, rfl, x31, rfl, z32⟩ := hv
  show am_Ok _ _ _ (18, _, [.inl x31], h25, c26, s27) _
  refine k_pop 19 rfl rfl rfl ?_
  exact k_fin rfl rfl ⟨⟨_, rfl, rfl⟩, I28⟩
theorem c_X5_open {h : am_h} {v0 : Nat} (hT : ty_H h) (o0 : ob 5 v0) : am_Mt 3 79 [.inr (.inr (some v0))] h (ty_Q w_X5_open 0 (ob_P h) h) := am_Mt.of (b_X5_open rfl o0 (okA_r hT o0 okA_n) (ob_I.start hT))
abbrev w_X5_goOn : List (Nat × Nat) := []
theorem b_X5_goOn_8 {B : Nat} {h0 : am_h} : ∀ (n : Nat) {lv : am_l} {h : am_h} {c s : Nat} {v0 : Nat} {v1 : Int32} {v2 : Int32} , dn_m v2 = n → am_get lv 0 = some (.inr (.inr (some v0))) → ob 5 v0 → am_get lv 1 = some (.inl v1) → am_get lv 2 = some (.inl v2) → am_okL h.length lv = true → ob_I w_X5_goOn B h0 h c s → am_Ok am_G 3 80 (8, lv, [], h, c, s) (ty_Q w_X5_goOn 2 B h0) := by
  intro n
  induction n using Nat.strongRecOn with
  | ind n ih =>
    intro lv h c s v0 v1 v2 hn g0 o0 g1 g2 hL hI
    refine k_iload 9 rfl g2 rfl ?_
    by_cases b1 : v2 ≤ 0
    · refine k_c1 62 rfl rfl (if_pos b1) ?_
      refine k_push 63 rfl rfl ?_
      exact k_fin rfl rfl ⟨⟨_, rfl, ⟨_, rfl, _, rfl⟩⟩, hI⟩
    · refine k_c1 12 rfl rfl (if_neg b1) ?_
      refine k_aload 13 rfl g0 rfl ?_
      obtain ⟨fs2, u3, e4, f5, t6⟩ := hI.1.get o0 (k := 1) rfl rfl
      obtain ⟨i7, rfl, o8⟩ := t6
      refine k_get 16 rfl e4 f5 rfl ?_
      refine k_cl (W' := []) rfl (rw_takeLast hI.1 o8) rfl rfl rfl (hI.1.rc3 (Or.inl o8)) hI (by decide) hL so_n ?_
      rintro w9 h10 c11 s12 hv I13 L14 F15
      obtain ⟨_, rfl, x16, rfl⟩ := hv
      show am_Ok _ _ _ (19, _, [.inl x16], h10, c11, s12) _
      refine k_istore 20 rfl rfl ?_
      refine k_iload 21 rfl gs_eq rfl ?_
      refine k_push 22 rfl rfl ?_
      by_cases b17 : x16 = (-1 : Int32)
      · refine k_c2 46 rfl rfl (if_pos b17) ?_
        refine k_aload 47 rfl (gs_ne rfl rfl g0) rfl ?_
        obtain ⟨fs18, u19, e20, f21, t22⟩ := I13.1.get o0 (k := 0) rfl rfl
        obtain ⟨i23, rfl, o24⟩ := t22
        refine k_get 50 rfl e20 f21 rfl ?_
        refine k_push 52 rfl rfl ?_
        refine k_cl (W' := []) rfl ((rw_add (W := []) I13.1 (Or.inl o24)).imp (fun _ z => z.1)) rfl rfl rfl (I13.1.rc3 (Or.inl o24)) I13 (by decide) (okL_set (i := 3) (v := .inl x16) rfl L14) so_n ?_
        rintro w25 h26 c27 s28 hv I29 L30 F31
        obtain ⟨_, rfl, x32, rfl, z33⟩ := hv
        show am_Ok _ _ _ (55, _, [.inl x32], h26, c27, s28) _
        refine k_pop 56 rfl rfl rfl ?_
        refine k_iinc (v2 + (-1)) 59 rfl (gs_ne rfl rfl g2) rfl rfl ?_
        refine k_goto 8 rfl rfl ?_
        exact ih _ (by rw [← hn]; exact dn_lt b1) rfl (gs_ne rfl rfl (gs_ne rfl rfl g0)) o0 (gs_ne rfl rfl (gs_ne rfl rfl g1)) gs_eq (okL_set (i := 2) (v := .inl (v2 + (-1))) rfl L30) I29
      · refine k_c2 25 rfl rfl (if_neg b17) ?_
        refine k_aload 26 rfl (gs_ne rfl rfl g0) rfl ?_
        obtain ⟨fs34, u35, e36, f37, t38⟩ := I13.1.get o0 (k := 0) rfl rfl
        obtain ⟨i39, rfl, o40⟩ := t38
        refine k_get 29 rfl e36 f37 rfl ?_
        refine k_push 31 rfl rfl ?_
        refine k_cl (W' := []) rfl ((rw_add (W := []) I13.1 (Or.inl o40)).imp (fun _ z => z.1)) rfl rfl rfl (I13.1.rc3 (Or.inl o40)) I13 (by decide) (okL_set (i := 3) (v := .inl x16) rfl L14) so_n ?_
        rintro w41 h42 c43 s44 hv I45 L46 F47
        obtain ⟨_, rfl, x48, rfl, z49⟩ := hv
        show am_Ok _ _ _ (34, _, [.inl x48], h42, c43, s44) _
        refine k_pop 35 rfl rfl rfl ?_
        refine k_iload 36 rfl (gs_ne rfl rfl g1) rfl ?_
        refine k_push 37 rfl rfl ?_
        by_cases b50 : (2 : Int32) ≤ v1
        · refine k_c2 44 rfl rfl (if_pos b50) ?_
          refine k_iload 45 rfl gs_eq rfl ?_
          exact k_fin rfl rfl ⟨⟨_, rfl, ⟨_, rfl, _, rfl⟩⟩, I45⟩
        · refine k_c2 40 rfl rfl (if_neg b50) ?_
          refine k_aload 41 rfl (gs_ne rfl rfl g0) rfl ?_
          refine k_cl (W' := w_X5_open) rfl (c_X5_open I45.1 o0) rfl rfl rfl (I45.1.rc o0 rfl) I45 (by decide) L46 so_n ?_
          rintro w51 h52 c53 s54 hv I55 L56 F57
          cases hv
          show am_Ok _ _ _ (44, _, [], h52, c53, s54) _
          refine k_iload 45 rfl gs_eq rfl ?_
          exact k_fin rfl rfl ⟨⟨_, rfl, ⟨_, rfl, _, rfl⟩⟩, I55⟩
theorem b_X5_goOn {B : Nat} {h0 : am_h} {lv : am_l} {h : am_h} {c s : Nat} {v0 : Nat} {v1 : Int32} (g0 : am_get lv 0 = some (.inr (.inr (some v0)))) (o0 : ob 5 v0) (g1 : am_get lv 1 = some (.inl v1)) (hL : am_okL h.length lv = true) (hI : ob_I w_X5_goOn B h0 h c s) : am_Ok am_G 3 80 (0, lv, [], h, c, s) (ty_Q w_X5_goOn 2 B h0) := by
  refine k_aload 1 rfl g0 rfl ?_
  obtain ⟨fs58, u59, e60, f61, t62⟩ := hI.1.get o0 (k := 1) rfl rfl
  obtain ⟨i63, rfl, o64⟩ := t62
  refine k_get 4 rfl e60 f61 rfl ?_
  refine k_cl (W' := []) rfl (rw_size hI.1 (Or.inl o64)) rfl rfl rfl (hI.1.rc3 (Or.inl o64)) hI (by decide) hL so_n ?_
  rintro w65 h66 c67 s68 hv I69 L70 F71
  obtain ⟨_, rfl, x72, rfl⟩ := hv
  show am_Ok _ _ _ (7, _, [.inl x72], h66, c67, s68) _
  refine k_istore 8 rfl rfl ?_
  exact b_X5_goOn_8 _ rfl (gs_ne rfl rfl g0) o0 (gs_ne rfl rfl g1) gs_eq (okL_set (i := 2) (v := .inl x72) rfl L70) I69
theorem c_X5_goOn {h : am_h} {v0 : Nat} {v1 : Int32} (hT : ty_H h) (o0 : ob 5 v0) : am_Mt 4 80 [.inr (.inr (some v0)), .inl v1] h (ty_Q w_X5_goOn 2 (ob_P h) h) := am_Mt.of (b_X5_goOn rfl o0 rfl (okA_r hT o0 (okA_i okA_n)) (ob_I.start hT))
abbrev w_X5_letter : List (Nat × Nat) := []
theorem b_X5_letter {B : Nat} {h0 : am_h} {lv : am_l} {h : am_h} {c s : Nat} {v0 : Int32} (g0 : am_get lv 0 = some (.inl v0)) (hL : am_okL h.length lv = true) (hI : ob_I w_X5_letter B h0 h c s) : am_Ok am_G 1 81 (0, lv, [], h, c, s) (ty_Q w_X5_letter 2 B h0) := by
  refine k_push 2 rfl rfl ?_
  refine k_iload 3 rfl g0 rfl ?_
  refine k_push 5 rfl rfl ?_
  refine k_cl (W' := []) rfl (rw_floorMod hI.1 (by decide)) rfl rfl rfl rfl hI (by decide) hL (so_i so_n) ?_
  rintro w1 h2 c3 s4 hv I5 L6 F7
  obtain ⟨_, rfl, x8, rfl⟩ := hv
  show am_Ok _ _ _ (8, _, [.inl x8, .inl (97 : Int32)], h2, c3, s4) _
  obtain ⟨x9, q10⟩ : ∃ q : Int32, q = ((97 : Int32) + x8) := ⟨_, rfl⟩
  refine k_bin x9 9 rfl q10.symm rfl ?_
  exact k_fin rfl rfl ⟨⟨_, rfl, ⟨_, rfl, _, rfl⟩⟩, I5⟩
theorem c_X5_letter {h : am_h} {v0 : Int32} (hT : ty_H h)  : am_Mt 2 81 [.inl v0] h (ty_Q w_X5_letter 2 (ob_P h) h) := am_Mt.of (b_X5_letter rfl (okA_i okA_n) (ob_I.start hT))
abbrev w_X5_saying : List (Nat × Nat) := []
theorem b_X5_saying_20 {B : Nat} {h0 : am_h} : ∀ (n : Nat) {lv : am_l} {h : am_h} {c s : Nat} {v0 : Nat} {v1 : Nat} {v2 : Int32} {v3 : Int32} , up_m v3 = n → am_get lv 0 = some (.inr (.inr (some v0))) → ob 5 v0 → am_get lv 1 = some (.inr (.inr (some v1))) → ob 3 v1 ∨ ob 11 v1 → am_get lv 2 = some (.inl v2) → am_get lv 3 = some (.inl v3) → am_okL h.length lv = true → ob_I w_X5_saying B h0 h c s → am_Ok am_G 4 78 (20, lv, [], h, c, s) (ty_Q w_X5_saying 2 B h0) := by
  intro n
  induction n using Nat.strongRecOn with
  | ind n ih =>
    intro lv h c s v0 v1 v2 v3 hn g0 o0 g1 o1 g2 g3 hL hI
    refine k_iload 21 rfl g3 rfl ?_
    refine k_aload 22 rfl g1 rfl ?_
    refine k_cl (W' := []) rfl (rw_size hI.1 o1) rfl rfl rfl (hI.1.rc3 o1) hI (by decide) hL (so_i so_n) ?_
    rintro w1 h2 c3 s4 hv I5 L6 F7
    obtain ⟨_, rfl, x8, rfl⟩ := hv
    show am_Ok _ _ _ (25, _, [.inl x8, .inl v3], h2, c3, s4) _
    by_cases b9 : x8 ≤ v3
    · refine k_c2 148 rfl rfl (if_pos b9) ?_
      refine k_aload 149 rfl g0 rfl ?_
      obtain ⟨fs10, u11, e12, f13, t14⟩ := I5.1.get o0 (k := 0) rfl rfl
      obtain ⟨i15, rfl, o16⟩ := t14
      refine k_get 152 rfl e12 f13 rfl ?_
      refine k_cl (W' := []) rfl (rw_size I5.1 (Or.inl o16)) rfl rfl rfl (I5.1.rc3 (Or.inl o16)) I5 (by decide) L6 so_n ?_
      rintro w17 h18 c19 s20 hv I21 L22 F23
      obtain ⟨_, rfl, x24, rfl⟩ := hv
      show am_Ok _ _ _ (155, _, [.inl x24], h18, c19, s20) _
      exact k_fin rfl rfl ⟨⟨_, rfl, ⟨_, rfl, _, rfl⟩⟩, I21⟩
    · refine k_c2 28 rfl rfl (if_neg b9) ?_
      refine k_aload 29 rfl g1 rfl ?_
      refine k_iload 30 rfl g3 rfl ?_
      refine k_cl (W' := []) rfl (rw_get I5.1 o1) rfl rfl rfl (I5.1.rc3 o1) I5 (by decide) L6 so_n ?_
      rintro w25 h26 c27 s28 hv I29 L30 F31
      obtain ⟨_, rfl, x32, rfl⟩ := hv
      show am_Ok _ _ _ (33, _, [.inl x32], h26, c27, s28) _
      refine k_istore 35 rfl rfl ?_
      refine k_iload 37 rfl gs_eq rfl ?_
      by_cases b33 : x32 = 0
      · refine k_c1 40 rfl rfl (if_pos b33) ?_
        refine k_aload 41 rfl (gs_ne rfl rfl g0) rfl ?_
        obtain ⟨fs34, u35, e36, f37, t38⟩ := I29.1.get o0 (k := 1) rfl rfl
        obtain ⟨i39, rfl, o40⟩ := t38
        refine k_get 44 rfl e36 f37 rfl ?_
        refine k_iload 45 rfl (gs_ne rfl rfl g2) rfl ?_
        refine k_cl (W' := []) rfl ((rw_add (W := []) I29.1 (Or.inl o40)).imp (fun _ z => z.1)) rfl rfl rfl (I29.1.rc3 (Or.inl o40)) I29 (by decide) (okL_set (i := 4) (v := .inl x32) rfl L30) so_n ?_
        rintro w41 h42 c43 s44 hv I45 L46 F47
        obtain ⟨_, rfl, x48, rfl, z49⟩ := hv
        show am_Ok _ _ _ (48, _, [.inl x48], h42, c43, s44) _
        refine k_pop 49 rfl rfl rfl ?_
        refine k_aload 50 rfl (gs_ne rfl rfl g1) rfl ?_
        refine k_iload 51 rfl (gs_ne rfl rfl g3) rfl ?_
        refine k_push 52 rfl rfl ?_
        obtain ⟨x50, q51⟩ : ∃ q : Int32, q = (v3 + (1 : Int32)) := ⟨_, rfl⟩
        refine k_bin x50 53 rfl q51.symm rfl ?_
        refine k_cl (W' := []) rfl (rw_get I45.1 o1) rfl rfl rfl (I45.1.rc3 o1) I45 (by decide) L46 so_n ?_
        rintro w52 h53 c54 s55 hv I56 L57 F58
        obtain ⟨_, rfl, x59, rfl⟩ := hv
        show am_Ok _ _ _ (56, _, [.inl x59], h53, c54, s55) _
        refine k_push 57 rfl rfl ?_
        by_cases b60 : x59 = (1 : Int32)
        · refine k_c2 60 rfl rfl (if_pos b60) ?_
          refine k_aload 61 rfl (gs_ne rfl rfl g0) rfl ?_
          refine k_cl (W' := w_X5_open) rfl (c_X5_open I56.1 o0) rfl rfl rfl (I56.1.rc o0 rfl) I56 (by decide) L57 so_n ?_
          rintro w61 h62 c63 s64 hv I65 L66 F67
          cases hv
          show am_Ok _ _ _ (64, _, [], h62, c63, s64) _
          refine k_goto 142 rfl rfl ?_
          refine k_iinc (v3 + 1) 145 rfl (gs_ne rfl rfl g3) rfl rfl ?_
          refine k_goto 20 rfl rfl ?_
          exact ih _ (by rw [← hn]; exact up_lt b9) rfl (gs_ne rfl rfl (gs_ne rfl rfl g0)) o0 (gs_ne rfl rfl (gs_ne rfl rfl g1)) o1 (gs_ne rfl rfl (gs_ne rfl rfl g2)) gs_eq (okL_set (i := 3) (v := .inl (v3 + 1)) rfl L66) I65
        · refine k_c2 142 rfl rfl (if_neg b60) ?_
          refine k_iinc (v3 + 1) 145 rfl (gs_ne rfl rfl g3) rfl rfl ?_
          refine k_goto 20 rfl rfl ?_
          exact ih _ (by rw [← hn]; exact up_lt b9) rfl (gs_ne rfl rfl (gs_ne rfl rfl g0)) o0 (gs_ne rfl rfl (gs_ne rfl rfl g1)) o1 (gs_ne rfl rfl (gs_ne rfl rfl g2)) gs_eq (okL_set (i := 3) (v := .inl (v3 + 1)) rfl L57) I56
      · refine k_c1 67 rfl rfl (if_neg b33) ?_
        refine k_iload 69 rfl gs_eq rfl ?_
        refine k_push 70 rfl rfl ?_
        by_cases b68 : x32 = (1 : Int32)
        · refine k_c2 73 rfl rfl (if_pos b68) ?_
          refine k_aload 74 rfl (gs_ne rfl rfl g0) rfl ?_
          obtain ⟨fs69, u70, e71, f72, t73⟩ := I29.1.get o0 (k := 0) rfl rfl
          obtain ⟨i74, rfl, o75⟩ := t73
          refine k_get 77 rfl e71 f72 rfl ?_
          refine k_push 79 rfl rfl ?_
          refine k_cl (W' := []) rfl ((rw_add (W := []) I29.1 (Or.inl o75)).imp (fun _ z => z.1)) rfl rfl rfl (I29.1.rc3 (Or.inl o75)) I29 (by decide) (okL_set (i := 4) (v := .inl x32) rfl L30) so_n ?_
          rintro w76 h77 c78 s79 hv I80 L81 F82
          obtain ⟨_, rfl, x83, rfl, z84⟩ := hv
          show am_Ok _ _ _ (82, _, [.inl x83], h77, c78, s79) _
          refine k_pop 83 rfl rfl rfl ?_
          refine k_aload 84 rfl (gs_ne rfl rfl g0) rfl ?_
          obtain ⟨fs85, u86, e87, f88, t89⟩ := I80.1.get o0 (k := 0) rfl rfl
          obtain ⟨i90, rfl, o91⟩ := t89
          refine k_get 87 rfl e87 f88 rfl ?_
          refine k_iload 88 rfl (gs_ne rfl rfl g2) rfl ?_
          refine k_cl (W' := w_X5_letter) rfl (c_X5_letter I80.1 ) rfl rfl rfl rfl I80 (by decide) L81 (so_r I80 o91 so_n) ?_
          rintro w92 h93 c94 s95 hv I96 L97 F98
          obtain ⟨_, rfl, x99, rfl⟩ := hv
          show am_Ok _ _ _ (91, _, [.inl x99, .inr (.inr (some i90))], h93, c94, s95) _
          refine k_cl (W' := []) rfl ((rw_add (W := []) I96.1 (Or.inl o91)).imp (fun _ z => z.1)) rfl rfl rfl (I96.1.rc3 (Or.inl o91)) I96 (by decide) L97 so_n ?_
          rintro w100 h101 c102 s103 hv I104 L105 F106
          obtain ⟨_, rfl, x107, rfl, z108⟩ := hv
          show am_Ok _ _ _ (94, _, [.inl x107], h101, c102, s103) _
          refine k_pop 95 rfl rfl rfl ?_
          refine k_aload 96 rfl (gs_ne rfl rfl g0) rfl ?_
          obtain ⟨fs109, u110, e111, f112, t113⟩ := I104.1.get o0 (k := 0) rfl rfl
          obtain ⟨i114, rfl, o115⟩ := t113
          refine k_get 99 rfl e111 f112 rfl ?_
          refine k_push 101 rfl rfl ?_
          refine k_cl (W' := []) rfl ((rw_add (W := []) I104.1 (Or.inl o115)).imp (fun _ z => z.1)) rfl rfl rfl (I104.1.rc3 (Or.inl o115)) I104 (by decide) L105 so_n ?_
          rintro w116 h117 c118 s119 hv I120 L121 F122
          obtain ⟨_, rfl, x123, rfl, z124⟩ := hv
          show am_Ok _ _ _ (104, _, [.inl x123], h117, c118, s119) _
          refine k_pop 105 rfl rfl rfl ?_
          refine k_iinc (v2 + 1) 108 rfl (gs_ne rfl rfl g2) rfl rfl ?_
          refine k_goto 142 rfl rfl ?_
          refine k_iinc (v3 + 1) 145 rfl (gs_ne rfl rfl (gs_ne rfl rfl g3)) rfl rfl ?_
          refine k_goto 20 rfl rfl ?_
          exact ih _ (by rw [← hn]; exact up_lt b9) rfl (gs_ne rfl rfl (gs_ne rfl rfl (gs_ne rfl rfl g0))) o0 (gs_ne rfl rfl (gs_ne rfl rfl (gs_ne rfl rfl g1))) o1 (gs_ne rfl rfl gs_eq) gs_eq (okL_set (i := 3) (v := .inl (v3 + 1)) rfl (okL_set (i := 2) (v := .inl (v2 + 1)) rfl L121)) I120
        · refine k_c2 111 rfl rfl (if_neg b68) ?_
          refine k_aload 112 rfl (gs_ne rfl rfl g0) rfl ?_
          obtain ⟨fs125, u126, e127, f128, t129⟩ := I29.1.get o0 (k := 0) rfl rfl
          obtain ⟨i130, rfl, o131⟩ := t129
          refine k_get 115 rfl e127 f128 rfl ?_
          refine k_iload 116 rfl (gs_ne rfl rfl g2) rfl ?_
          refine k_push 117 rfl rfl ?_
          obtain ⟨x132, q133⟩ : ∃ q : Int32, q = (v2 - (1 : Int32)) := ⟨_, rfl⟩
          refine k_bin x132 118 rfl q133.symm rfl ?_
          refine k_iload 120 rfl gs_eq rfl ?_
          refine k_push 121 rfl rfl ?_
          obtain ⟨x134, q135⟩ : ∃ q : Int32, q = (x32 - (2 : Int32)) := ⟨_, rfl⟩
          refine k_bin x134 122 rfl q135.symm rfl ?_
          obtain ⟨x136, q137⟩ : ∃ q : Int32, q = (x132 - x134) := ⟨_, rfl⟩
          refine k_bin x136 123 rfl q137.symm rfl ?_
          refine k_cl (W' := w_X5_letter) rfl (c_X5_letter I29.1 ) rfl rfl rfl rfl I29 (by decide) (okL_set (i := 4) (v := .inl x32) rfl L30) (so_r I29 o131 so_n) ?_
          rintro w138 h139 c140 s141 hv I142 L143 F144
          obtain ⟨_, rfl, x145, rfl⟩ := hv
          show am_Ok _ _ _ (126, _, [.inl x145, .inr (.inr (some i130))], h139, c140, s141) _
          refine k_cl (W' := []) rfl ((rw_add (W := []) I142.1 (Or.inl o131)).imp (fun _ z => z.1)) rfl rfl rfl (I142.1.rc3 (Or.inl o131)) I142 (by decide) L143 so_n ?_
          rintro w146 h147 c148 s149 hv I150 L151 F152
          obtain ⟨_, rfl, x153, rfl, z154⟩ := hv
          show am_Ok _ _ _ (129, _, [.inl x153], h147, c148, s149) _
          refine k_pop 130 rfl rfl rfl ?_
          refine k_aload 131 rfl (gs_ne rfl rfl g0) rfl ?_
          refine k_aload 132 rfl (gs_ne rfl rfl g1) rfl ?_
          refine k_iload 133 rfl (gs_ne rfl rfl g3) rfl ?_
          refine k_push 134 rfl rfl ?_
          obtain ⟨x155, q156⟩ : ∃ q : Int32, q = (v3 + (1 : Int32)) := ⟨_, rfl⟩
          refine k_bin x155 135 rfl q156.symm rfl ?_
          refine k_cl (W' := []) rfl (rw_get I150.1 o1) rfl rfl rfl (I150.1.rc3 o1) I150 (by decide) L151 (so_r I150 o0 so_n) ?_
          rintro w157 h158 c159 s160 hv I161 L162 F163
          obtain ⟨_, rfl, x164, rfl⟩ := hv
          show am_Ok _ _ _ (138, _, [.inl x164, .inr (.inr (some v0))], h158, c159, s160) _
          refine k_cl (W' := w_X5_goOn) rfl (c_X5_goOn I161.1 o0) rfl rfl rfl (I161.1.rc o0 rfl) I161 (by decide) L162 so_n ?_
          rintro w165 h166 c167 s168 hv I169 L170 F171
          obtain ⟨_, rfl, x172, rfl⟩ := hv
          show am_Ok _ _ _ (141, _, [.inl x172], h166, c167, s168) _
          refine k_istore 142 rfl rfl ?_
          refine k_iinc (v3 + 1) 145 rfl (gs_ne rfl rfl (gs_ne rfl rfl g3)) rfl rfl ?_
          refine k_goto 20 rfl rfl ?_
          exact ih _ (by rw [← hn]; exact up_lt b9) rfl (gs_ne rfl rfl (gs_ne rfl rfl (gs_ne rfl rfl g0))) o0 (gs_ne rfl rfl (gs_ne rfl rfl (gs_ne rfl rfl g1))) o1 (gs_ne rfl rfl gs_eq) gs_eq (okL_set (i := 3) (v := .inl (v3 + 1)) rfl (okL_set (i := 2) (v := .inl x172) rfl L170)) I169
theorem b_X5_saying {B : Nat} {h0 : am_h} {lv : am_l} {h : am_h} {c s : Nat} {v0 : Nat} {v1 : Nat} (g0 : am_get lv 0 = some (.inr (.inr (some v0)))) (o0 : ob 5 v0) (g1 : am_get lv 1 = some (.inr (.inr (some v1)))) (o1 : ob 3 v1 ∨ ob 11 v1) (hL : am_okL h.length lv = true) (hI : ob_I w_X5_saying B h0 h c s) : am_Ok am_G 4 78 (0, lv, [], h, c, s) (ty_Q w_X5_saying 2 B h0) := by
  refine k_aload 1 rfl g0 rfl ?_
  obtain ⟨fs173, u174, e175, f176, t177⟩ := hI.1.get o0 (k := 0) rfl rfl
  obtain ⟨i178, rfl, o179⟩ := t177
  refine k_get 4 rfl e175 f176 rfl ?_
  refine k_push 5 rfl rfl ?_
  refine k_cl (W' := []) rfl (rw_cut (W := []) hI.1 (Or.inl o179)) rfl rfl rfl (hI.1.rc3 (Or.inl o179)) hI (by decide) hL so_n ?_
  rintro w180 h181 c182 s183 hv I184 L185 F186
  cases hv
  show am_Ok _ _ _ (8, _, [], h181, c182, s183) _
  refine k_aload 9 rfl g0 rfl ?_
  obtain ⟨fs187, u188, e189, f190, t191⟩ := I184.1.get o0 (k := 1) rfl rfl
  obtain ⟨i192, rfl, o193⟩ := t191
  refine k_get 12 rfl e189 f190 rfl ?_
  refine k_push 13 rfl rfl ?_
  refine k_cl (W' := []) rfl (rw_cut (W := []) I184.1 (Or.inl o193)) rfl rfl rfl (I184.1.rc3 (Or.inl o193)) I184 (by decide) L185 so_n ?_
  rintro w194 h195 c196 s197 hv I198 L199 F200
  cases hv
  show am_Ok _ _ _ (16, _, [], h195, c196, s197) _
  refine k_push 17 rfl rfl ?_
  refine k_istore 18 rfl rfl ?_
  refine k_push 19 rfl rfl ?_
  refine k_istore 20 rfl rfl ?_
  exact b_X5_saying_20 _ rfl (gs_ne rfl rfl (gs_ne rfl rfl g0)) o0 (gs_ne rfl rfl (gs_ne rfl rfl g1)) o1 (gs_ne rfl rfl gs_eq) gs_eq (okL_set (i := 3) (v := .inl (0 : Int32)) rfl (okL_set (i := 2) (v := .inl (0 : Int32)) rfl L199)) I198
theorem c_X5_saying {h : am_h} {v0 : Nat} {v1 : Nat} (hT : ty_H h) (o0 : ob 5 v0) (o1 : ob 3 v1 ∨ ob 11 v1) : am_Mt 5 78 [.inr (.inr (some v0)), .inr (.inr (some v1))] h (ty_Q w_X5_saying 2 (ob_P h) h) := am_Mt.of (b_X5_saying rfl o0 rfl o1 (okA_r hT o0 (okA_r2 hT o1 okA_n)) (ob_I.start hT))
end
