/-- every good word of the tables: each method's words -/
def am_big : List Cond := lw_tbl.filter goodWord
theorem am_inb {w : Cond} (h : w ∈ lw_tbl) (hg : goodWord w = true) : w ∈ am_big := List.mem_filter.mpr ⟨h, hg⟩
theorem am_t0 {w : Cond} (h : w ∈ k2_sels lw_privs) (hg : goodWord w = true) : w ∈ am_big := am_inb (List.mem_append_left _ h) hg
theorem am_t1 {w : Cond} (h : w ∈ tables_1_1) (hg : goodWord w = true) : w ∈ am_big := am_inb (List.mem_append_right _ (List.mem_append_left _ h)) hg
theorem am_t2 {w : Cond} (h : w ∈ tables_1_2) (hg : goodWord w = true) : w ∈ am_big := am_inb (List.mem_append_right _ (List.mem_append_right _ (List.mem_append_left _ h))) hg
theorem am_t3 {w : Cond} (h : w ∈ tables_1_3) (hg : goodWord w = true) : w ∈ am_big := am_inb (List.mem_append_right _ (List.mem_append_right _ (List.mem_append_right _ (List.mem_append_left _ h)))) hg
theorem am_t4 {w : Cond} (h : w ∈ tables_1_4) (hg : goodWord w = true) : w ∈ am_big := am_inb (List.mem_append_right _ (List.mem_append_right _ (List.mem_append_right _ (List.mem_append_right _ (List.mem_append_left _ h))))) hg
theorem am_t5 {w : Cond} (h : w ∈ tables_1_5) (hg : goodWord w = true) : w ∈ am_big := am_inb (List.mem_append_right _ (List.mem_append_right _ (List.mem_append_right _ (List.mem_append_right _ (List.mem_append_right _ (List.mem_append_left _ h)))))) hg
theorem am_t6 {w : Cond} (h : w ∈ tables_1_6) (hg : goodWord w = true) : w ∈ am_big := am_inb (List.mem_append_right _ (List.mem_append_right _ (List.mem_append_right _ (List.mem_append_right _ (List.mem_append_right _ (List.mem_append_right _ (List.mem_append_left _ h))))))) hg
theorem am_t7 {w : Cond} (h : w ∈ tables_1_7) (hg : goodWord w = true) : w ∈ am_big := am_inb (List.mem_append_right _ (List.mem_append_right _ (List.mem_append_right _ (List.mem_append_right _ (List.mem_append_right _ (List.mem_append_right _ (List.mem_append_right _ (List.mem_append_left _ h)))))))) hg
theorem am_t8 {w : Cond} (h : w ∈ tables_1_8) (hg : goodWord w = true) : w ∈ am_big := am_inb (List.mem_append_right _ (List.mem_append_right _ (List.mem_append_right _ (List.mem_append_right _ (List.mem_append_right _ (List.mem_append_right _ (List.mem_append_right _ (List.mem_append_right _ h)))))))) hg
theorem am_bg {w : Cond} (h : w ∈ am_big) : (w.onTables && w.keeps) = true ∨ ∃ ty, w = .arrayClass ty := good_of_word (List.mem_filter.mp h).2
theorem am_gI {w w0 : Cond} (h : w ∈ am_big) : GoodIn (w0 :: am_big) (w :: am_big) := fun z hz => by
  rcases List.mem_cons.mp hz with rfl | hz
  · exact ⟨List.mem_cons_of_mem _ h, am_bg h⟩
  · exact ⟨List.mem_cons_of_mem _ hz, am_bg hz⟩
theorem am_gV {w w0 : Cond} {own C : String} {idx : Nat} {y : MethodName} (h1 : Cond.methodLink own idx y ∈ am_big) (h2 : Cond.instanceMethod y ∈ am_big) (h3 : Cond.selects C y y ∈ am_big) (h4 : Cond.initialized C ∈ am_big) (h : w ∈ am_big) : GoodIn (w0 :: am_big) (wsV own idx C y (w :: am_big)) := fun z hz => by
  rcases List.mem_append.mp hz with hz | hz
  · have h9 : z ∈ am_big := by
      rcases List.mem_cons.mp hz with rfl | hz
      · exact h1
      · rcases List.mem_cons.mp hz with rfl | hz
        · exact h2
        · rcases List.mem_cons.mp hz with rfl | hz
          · exact h3
          · rcases List.mem_cons.mp hz with rfl | hz
            · exact h4
            · cases hz
    exact ⟨List.mem_cons_of_mem _ h9, am_bg h9⟩
  · exact am_gI h z hz
theorem am_gS {w w0 : Cond} {own : String} {idx : Nat} {y : MethodName} (h1 : Cond.methodLink own idx y ∈ am_big) (h2 : Cond.static y ∈ am_big) (h4 : Cond.initialized y.cls ∈ am_big) (h : w ∈ am_big) : GoodIn (w0 :: am_big) (va_wsS own idx y (w :: am_big)) := fun z hz => by
  rcases List.mem_append.mp hz with hz | hz
  · have h9 : z ∈ am_big := by
      rcases List.mem_cons.mp hz with rfl | hz
      · exact h1
      · rcases List.mem_cons.mp hz with rfl | hz
        · exact h2
        · rcases List.mem_cons.mp hz with rfl | hz
          · exact h4
          · cases hz
    exact ⟨List.mem_cons_of_mem _ h9, am_bg h9⟩
  · exact am_gI h z hz
theorem w2_14 : (Jvm.Cond.methodLink "FanNet$Layer" (3 : Nat) ({ cls := "java/lang/Object", name := "<init>", desc := "()V" } : Jvm.MethodName)) ∈ am_big := am_t2 (List.mem_of_getElem? (i := 14) rfl) rfl
theorem w1_26 : (Jvm.Cond.instanceMethod ({ cls := "java/lang/Object", name := "<init>", desc := "()V" } : Jvm.MethodName)) ∈ am_big := am_t1 (List.mem_of_getElem? (i := 26) rfl) rfl
theorem w1_27 : (Jvm.Cond.code ({ cls := "java/lang/Object", name := "<init>", desc := "()V" } : Jvm.MethodName) object_method_1_code (1 : Nat) (Option.none : Option Jvm.ClassFile.FieldType)) ∈ am_big := am_t1 (List.mem_of_getElem? (i := 27) rfl) rfl
theorem w2_15 : (Jvm.Cond.classLink "FanNet$Layer" (9 : Nat) "FanNet$Row") ∈ am_big := am_t2 (List.mem_of_getElem? (i := 15) rfl) rfl
theorem w1_29 : (Jvm.Cond.instantiable "FanNet$Row" (3 : Nat)) ∈ am_big := am_t1 (List.mem_of_getElem? (i := 29) rfl) rfl
theorem w1_2 : (Jvm.Cond.initialized "FanNet$Row") ∈ am_big := am_t1 (List.mem_of_getElem? (i := 2) rfl) rfl
theorem w1_32 : (Jvm.Cond.code ({ cls := "FanNet$Row", name := "<init>", desc := "(II)V" } : Jvm.MethodName) prog_5_method_1_code (3 : Nat) (Option.none : Option Jvm.ClassFile.FieldType)) ∈ am_big := am_t1 (List.mem_of_getElem? (i := 32) rfl) rfl
theorem w2_16 : (Jvm.Cond.methodLink "FanNet$Layer" (13 : Nat) ({ cls := "FanNet$Row", name := "<init>", desc := "(II)V" } : Jvm.MethodName)) ∈ am_big := am_t2 (List.mem_of_getElem? (i := 16) rfl) rfl
theorem w1_31 : (Jvm.Cond.instanceMethod ({ cls := "FanNet$Row", name := "<init>", desc := "(II)V" } : Jvm.MethodName)) ∈ am_big := am_t1 (List.mem_of_getElem? (i := 31) rfl) rfl
theorem w2_17 : (Jvm.Cond.fieldLink "FanNet$Layer" (16 : Nat) "FanNet$Layer" "frames" "LFanNet$Row;") ∈ am_big := am_t2 (List.mem_of_getElem? (i := 17) rfl) rfl
theorem w2_18 : (Jvm.Cond.fieldLink "FanNet$Layer" (20 : Nat) "FanNet$Layer" "ends" "LFanNet$Row;") ∈ am_big := am_t2 (List.mem_of_getElem? (i := 18) rfl) rfl
theorem w2_19 : (Jvm.Cond.fieldLink "FanNet$Layer" (23 : Nat) "FanNet$Layer" "lastEnds" "LFanNet$Row;") ∈ am_big := am_t2 (List.mem_of_getElem? (i := 19) rfl) rfl
theorem w2_21 : (Jvm.Cond.fieldLink "FanNet$Layer" (26 : Nat) "FanNet$Layer" "level" "I") ∈ am_big := am_t2 (List.mem_of_getElem? (i := 21) rfl) rfl
theorem w2_20 : (Jvm.Cond.fieldLink "FanNet$Layer" (30 : Nat) "FanNet$Layer" "net" "LFanNet$Net;") ∈ am_big := am_t2 (List.mem_of_getElem? (i := 20) rfl) rfl
theorem w2_55 : (Jvm.Cond.methodLink "FanNet$Layer" (34 : Nat) ({ cls := "FanNet$Net", name := "clear", desc := "()V" } : Jvm.MethodName)) ∈ am_big := am_t2 (List.mem_of_getElem? (i := 55) rfl) rfl
theorem w2_56 : (Jvm.Cond.instanceMethod ({ cls := "FanNet$Net", name := "clear", desc := "()V" } : Jvm.MethodName)) ∈ am_big := am_t2 (List.mem_of_getElem? (i := 56) rfl) rfl
theorem w2_57 : (Jvm.Cond.selects "FanNet$Net" ({ cls := "FanNet$Net", name := "clear", desc := "()V" } : Jvm.MethodName) ({ cls := "FanNet$Net", name := "clear", desc := "()V" } : Jvm.MethodName)) ∈ am_big := am_t2 (List.mem_of_getElem? (i := 57) rfl) rfl
theorem w1_10 : (Jvm.Cond.initialized "FanNet$Net") ∈ am_big := am_t1 (List.mem_of_getElem? (i := 10) rfl) rfl
theorem w2_58 : (Jvm.Cond.code ({ cls := "FanNet$Net", name := "clear", desc := "()V" } : Jvm.MethodName) prog_3_method_2_code (1 : Nat) (Option.none : Option Jvm.ClassFile.FieldType)) ∈ am_big := am_t2 (List.mem_of_getElem? (i := 58) rfl) rfl
theorem w2_59 : (Jvm.Cond.methodLink "FanNet$Layer" (39 : Nat) ({ cls := "FanNet$Row", name := "cut", desc := "(I)V" } : Jvm.MethodName)) ∈ am_big := am_t2 (List.mem_of_getElem? (i := 59) rfl) rfl
theorem w2_60 : (Jvm.Cond.instanceMethod ({ cls := "FanNet$Row", name := "cut", desc := "(I)V" } : Jvm.MethodName)) ∈ am_big := am_t2 (List.mem_of_getElem? (i := 60) rfl) rfl
theorem w2_61 : (Jvm.Cond.selects "FanNet$Row" ({ cls := "FanNet$Row", name := "cut", desc := "(I)V" } : Jvm.MethodName) ({ cls := "FanNet$Row", name := "cut", desc := "(I)V" } : Jvm.MethodName)) ∈ am_big := am_t2 (List.mem_of_getElem? (i := 61) rfl) rfl
theorem w2_62 : (Jvm.Cond.code ({ cls := "FanNet$Row", name := "cut", desc := "(I)V" } : Jvm.MethodName) prog_5_method_9_code (2 : Nat) (Option.none : Option Jvm.ClassFile.FieldType)) ∈ am_big := am_t2 (List.mem_of_getElem? (i := 62) rfl) rfl
theorem w2_63 : (Jvm.Cond.methodLink "FanNet$Layer" (43 : Nat) ({ cls := "FanNet$Net", name := "make", desc := "(II)I" } : Jvm.MethodName)) ∈ am_big := am_t2 (List.mem_of_getElem? (i := 63) rfl) rfl
theorem w2_64 : (Jvm.Cond.instanceMethod ({ cls := "FanNet$Net", name := "make", desc := "(II)I" } : Jvm.MethodName)) ∈ am_big := am_t2 (List.mem_of_getElem? (i := 64) rfl) rfl
theorem w2_65 : (Jvm.Cond.selects "FanNet$Net" ({ cls := "FanNet$Net", name := "make", desc := "(II)I" } : Jvm.MethodName) ({ cls := "FanNet$Net", name := "make", desc := "(II)I" } : Jvm.MethodName)) ∈ am_big := am_t2 (List.mem_of_getElem? (i := 65) rfl) rfl
theorem w2_66 : (Jvm.Cond.code ({ cls := "FanNet$Net", name := "make", desc := "(II)I" } : Jvm.MethodName) prog_3_method_11_code (4 : Nat) (Option.some Jvm.ClassFile.FieldType.int)) ∈ am_big := am_t2 (List.mem_of_getElem? (i := 66) rfl) rfl
theorem w2_76 : (Jvm.Cond.methodLink "FanNet$Layer" (47 : Nat) ({ cls := "FanNet$Row", name := "size", desc := "()I" } : Jvm.MethodName)) ∈ am_big := am_t2 (List.mem_of_getElem? (i := 76) rfl) rfl
theorem w2_77 : (Jvm.Cond.instanceMethod ({ cls := "FanNet$Row", name := "size", desc := "()I" } : Jvm.MethodName)) ∈ am_big := am_t2 (List.mem_of_getElem? (i := 77) rfl) rfl
theorem w2_78 : (Jvm.Cond.selects "FanNet$Row" ({ cls := "FanNet$Row", name := "size", desc := "()I" } : Jvm.MethodName) ({ cls := "FanNet$Row", name := "size", desc := "()I" } : Jvm.MethodName)) ∈ am_big := am_t2 (List.mem_of_getElem? (i := 78) rfl) rfl
theorem w2_79 : (Jvm.Cond.code ({ cls := "FanNet$Row", name := "size", desc := "()I" } : Jvm.MethodName) prog_5_method_2_code (1 : Nat) (Option.some Jvm.ClassFile.FieldType.int)) ∈ am_big := am_t2 (List.mem_of_getElem? (i := 79) rfl) rfl
theorem w2_80 : (Jvm.Cond.methodLink "FanNet$Layer" (51 : Nat) ({ cls := "FanNet$Net", name := "isOverfull", desc := "()Z" } : Jvm.MethodName)) ∈ am_big := am_t2 (List.mem_of_getElem? (i := 80) rfl) rfl
theorem w2_81 : (Jvm.Cond.instanceMethod ({ cls := "FanNet$Net", name := "isOverfull", desc := "()Z" } : Jvm.MethodName)) ∈ am_big := am_t2 (List.mem_of_getElem? (i := 81) rfl) rfl
theorem w2_82 : (Jvm.Cond.selects "FanNet$Net" ({ cls := "FanNet$Net", name := "isOverfull", desc := "()Z" } : Jvm.MethodName) ({ cls := "FanNet$Net", name := "isOverfull", desc := "()Z" } : Jvm.MethodName)) ∈ am_big := am_t2 (List.mem_of_getElem? (i := 82) rfl) rfl
theorem w2_83 : (Jvm.Cond.code ({ cls := "FanNet$Net", name := "isOverfull", desc := "()Z" } : Jvm.MethodName) prog_3_method_5_code (1 : Nat) (Option.some Jvm.ClassFile.FieldType.boolean)) ∈ am_big := am_t2 (List.mem_of_getElem? (i := 83) rfl) rfl
theorem w2_84 : (Jvm.Cond.methodLink "FanNet$Layer" (55 : Nat) ({ cls := "FanNet$Row", name := "get", desc := "(I)I" } : Jvm.MethodName)) ∈ am_big := am_t2 (List.mem_of_getElem? (i := 84) rfl) rfl
theorem w2_68 : (Jvm.Cond.instanceMethod ({ cls := "FanNet$Row", name := "get", desc := "(I)I" } : Jvm.MethodName)) ∈ am_big := am_t2 (List.mem_of_getElem? (i := 68) rfl) rfl
theorem w2_69 : (Jvm.Cond.selects "FanNet$Row" ({ cls := "FanNet$Row", name := "get", desc := "(I)I" } : Jvm.MethodName) ({ cls := "FanNet$Row", name := "get", desc := "(I)I" } : Jvm.MethodName)) ∈ am_big := am_t2 (List.mem_of_getElem? (i := 69) rfl) rfl
theorem w2_70 : (Jvm.Cond.code ({ cls := "FanNet$Row", name := "get", desc := "(I)I" } : Jvm.MethodName) prog_5_method_3_code (2 : Nat) (Option.some Jvm.ClassFile.FieldType.int)) ∈ am_big := am_t2 (List.mem_of_getElem? (i := 70) rfl) rfl
theorem w2_85 : (Jvm.Cond.methodLink "FanNet$Layer" (59 : Nat) ({ cls := "FanNet$Layer", name := "beginFrame", desc := "(III)V" } : Jvm.MethodName)) ∈ am_big := am_t2 (List.mem_of_getElem? (i := 85) rfl) rfl
theorem w2_87 : (Jvm.Cond.instanceMethod ({ cls := "FanNet$Layer", name := "beginFrame", desc := "(III)V" } : Jvm.MethodName)) ∈ am_big := am_t2 (List.mem_of_getElem? (i := 87) rfl) rfl
theorem w0_0 : Cond.selects "FanNet$Layer" (⟨"FanNet$Layer", "beginFrame", "(III)V"⟩ : MethodName) ⟨"FanNet$Layer", "beginFrame", "(III)V"⟩ ∈ am_big := am_t0 (List.mem_of_getElem? (i := 0) rfl) rfl
theorem w1_11 : (Jvm.Cond.initialized "FanNet$Layer") ∈ am_big := am_t1 (List.mem_of_getElem? (i := 11) rfl) rfl
theorem w2_88 : (Jvm.Cond.code ({ cls := "FanNet$Layer", name := "beginFrame", desc := "(III)V" } : Jvm.MethodName) prog_2_method_3_code (4 : Nat) (Option.none : Option Jvm.ClassFile.FieldType)) ∈ am_big := am_t2 (List.mem_of_getElem? (i := 88) rfl) rfl
theorem w2_89 : (Jvm.Cond.methodLink "FanNet$Layer" (63 : Nat) ({ cls := "FanNet$Row", name := "add", desc := "(I)Z" } : Jvm.MethodName)) ∈ am_big := am_t2 (List.mem_of_getElem? (i := 89) rfl) rfl
theorem w2_34 : (Jvm.Cond.instanceMethod ({ cls := "FanNet$Row", name := "add", desc := "(I)Z" } : Jvm.MethodName)) ∈ am_big := am_t2 (List.mem_of_getElem? (i := 34) rfl) rfl
theorem w2_35 : (Jvm.Cond.selects "FanNet$Row" ({ cls := "FanNet$Row", name := "add", desc := "(I)Z" } : Jvm.MethodName) ({ cls := "FanNet$Row", name := "add", desc := "(I)Z" } : Jvm.MethodName)) ∈ am_big := am_t2 (List.mem_of_getElem? (i := 35) rfl) rfl
theorem w2_36 : (Jvm.Cond.code ({ cls := "FanNet$Row", name := "add", desc := "(I)Z" } : Jvm.MethodName) prog_5_method_5_code (2 : Nat) (Option.some Jvm.ClassFile.FieldType.boolean)) ∈ am_big := am_t2 (List.mem_of_getElem? (i := 36) rfl) rfl
theorem w2_90 : (Jvm.Cond.methodLink "FanNet$Layer" (67 : Nat) ({ cls := "FanNet$Layer", name := "layVariable", desc := "(II)I" } : Jvm.MethodName)) ∈ am_big := am_t2 (List.mem_of_getElem? (i := 90) rfl) rfl
theorem w2_92 : (Jvm.Cond.instanceMethod ({ cls := "FanNet$Layer", name := "layVariable", desc := "(II)I" } : Jvm.MethodName)) ∈ am_big := am_t2 (List.mem_of_getElem? (i := 92) rfl) rfl
theorem w0_1 : Cond.selects "FanNet$Layer" (⟨"FanNet$Layer", "layVariable", "(II)I"⟩ : MethodName) ⟨"FanNet$Layer", "layVariable", "(II)I"⟩ ∈ am_big := am_t0 (List.mem_of_getElem? (i := 1) rfl) rfl
theorem w2_93 : (Jvm.Cond.code ({ cls := "FanNet$Layer", name := "layVariable", desc := "(II)I" } : Jvm.MethodName) prog_2_method_4_code (5 : Nat) (Option.some Jvm.ClassFile.FieldType.int)) ∈ am_big := am_t2 (List.mem_of_getElem? (i := 93) rfl) rfl
theorem w2_95 : (Jvm.Cond.methodLink "FanNet$Layer" (70 : Nat) ({ cls := "FanNet$Layer", name := "finish", desc := "(II)V" } : Jvm.MethodName)) ∈ am_big := am_t2 (List.mem_of_getElem? (i := 95) rfl) rfl
theorem w2_97 : (Jvm.Cond.instanceMethod ({ cls := "FanNet$Layer", name := "finish", desc := "(II)V" } : Jvm.MethodName)) ∈ am_big := am_t2 (List.mem_of_getElem? (i := 97) rfl) rfl
theorem w0_2 : Cond.selects "FanNet$Layer" (⟨"FanNet$Layer", "finish", "(II)V"⟩ : MethodName) ⟨"FanNet$Layer", "finish", "(II)V"⟩ ∈ am_big := am_t0 (List.mem_of_getElem? (i := 2) rfl) rfl
theorem w2_98 : (Jvm.Cond.code ({ cls := "FanNet$Layer", name := "finish", desc := "(II)V" } : Jvm.MethodName) prog_2_method_5_code (7 : Nat) (Option.none : Option Jvm.ClassFile.FieldType)) ∈ am_big := am_t2 (List.mem_of_getElem? (i := 98) rfl) rfl
theorem w2_94 : (Jvm.Cond.methodLink "FanNet$Layer" (73 : Nat) ({ cls := "FanNet$Row", name := "set", desc := "(II)V" } : Jvm.MethodName)) ∈ am_big := am_t2 (List.mem_of_getElem? (i := 94) rfl) rfl
theorem w2_72 : (Jvm.Cond.instanceMethod ({ cls := "FanNet$Row", name := "set", desc := "(II)V" } : Jvm.MethodName)) ∈ am_big := am_t2 (List.mem_of_getElem? (i := 72) rfl) rfl
theorem w2_73 : (Jvm.Cond.selects "FanNet$Row" ({ cls := "FanNet$Row", name := "set", desc := "(II)V" } : Jvm.MethodName) ({ cls := "FanNet$Row", name := "set", desc := "(II)V" } : Jvm.MethodName)) ∈ am_big := am_t2 (List.mem_of_getElem? (i := 73) rfl) rfl
theorem w2_74 : (Jvm.Cond.code ({ cls := "FanNet$Row", name := "set", desc := "(II)V" } : Jvm.MethodName) prog_5_method_4_code (3 : Nat) (Option.none : Option Jvm.ClassFile.FieldType)) ∈ am_big := am_t2 (List.mem_of_getElem? (i := 74) rfl) rfl
theorem w2_99 : (Jvm.Cond.methodLink "FanNet$Layer" (76 : Nat) ({ cls := "FanNet$Net", name := "link", desc := "(II)V" } : Jvm.MethodName)) ∈ am_big := am_t2 (List.mem_of_getElem? (i := 99) rfl) rfl
theorem w2_100 : (Jvm.Cond.instanceMethod ({ cls := "FanNet$Net", name := "link", desc := "(II)V" } : Jvm.MethodName)) ∈ am_big := am_t2 (List.mem_of_getElem? (i := 100) rfl) rfl
theorem w2_101 : (Jvm.Cond.selects "FanNet$Net" ({ cls := "FanNet$Net", name := "link", desc := "(II)V" } : Jvm.MethodName) ({ cls := "FanNet$Net", name := "link", desc := "(II)V" } : Jvm.MethodName)) ∈ am_big := am_t2 (List.mem_of_getElem? (i := 101) rfl) rfl
theorem w2_102 : (Jvm.Cond.code ({ cls := "FanNet$Net", name := "link", desc := "(II)V" } : Jvm.MethodName) prog_3_method_12_code (3 : Nat) (Option.none : Option Jvm.ClassFile.FieldType)) ∈ am_big := am_t2 (List.mem_of_getElem? (i := 102) rfl) rfl
theorem w2_103 : (Jvm.Cond.methodLink "FanNet$Layer" (79 : Nat) ({ cls := "FanNet$Layer", name := "finishFunction", desc := "(I)V" } : Jvm.MethodName)) ∈ am_big := am_t2 (List.mem_of_getElem? (i := 103) rfl) rfl
theorem w2_105 : (Jvm.Cond.instanceMethod ({ cls := "FanNet$Layer", name := "finishFunction", desc := "(I)V" } : Jvm.MethodName)) ∈ am_big := am_t2 (List.mem_of_getElem? (i := 105) rfl) rfl
theorem w0_3 : Cond.selects "FanNet$Layer" (⟨"FanNet$Layer", "finishFunction", "(I)V"⟩ : MethodName) ⟨"FanNet$Layer", "finishFunction", "(I)V"⟩ ∈ am_big := am_t0 (List.mem_of_getElem? (i := 3) rfl) rfl
theorem w2_106 : (Jvm.Cond.code ({ cls := "FanNet$Layer", name := "finishFunction", desc := "(I)V" } : Jvm.MethodName) prog_2_method_6_code (4 : Nat) (Option.none : Option Jvm.ClassFile.FieldType)) ∈ am_big := am_t2 (List.mem_of_getElem? (i := 106) rfl) rfl
theorem w2_111 : (Jvm.Cond.methodLink "FanNet$Layer" (82 : Nat) ({ cls := "FanNet$Layer", name := "bracketEnds", desc := "(I)V" } : Jvm.MethodName)) ∈ am_big := am_t2 (List.mem_of_getElem? (i := 111) rfl) rfl
theorem w2_113 : (Jvm.Cond.instanceMethod ({ cls := "FanNet$Layer", name := "bracketEnds", desc := "(I)V" } : Jvm.MethodName)) ∈ am_big := am_t2 (List.mem_of_getElem? (i := 113) rfl) rfl
theorem w0_4 : Cond.selects "FanNet$Layer" (⟨"FanNet$Layer", "bracketEnds", "(I)V"⟩ : MethodName) ⟨"FanNet$Layer", "bracketEnds", "(I)V"⟩ ∈ am_big := am_t0 (List.mem_of_getElem? (i := 4) rfl) rfl
theorem w2_114 : (Jvm.Cond.code ({ cls := "FanNet$Layer", name := "bracketEnds", desc := "(I)V" } : Jvm.MethodName) prog_2_method_7_code (5 : Nat) (Option.none : Option Jvm.ClassFile.FieldType)) ∈ am_big := am_t2 (List.mem_of_getElem? (i := 114) rfl) rfl
theorem w2_115 : (Jvm.Cond.methodLink "FanNet$Layer" (85 : Nat) ({ cls := "FanNet$Layer", name := "fanEnds", desc := "(II)V" } : Jvm.MethodName)) ∈ am_big := am_t2 (List.mem_of_getElem? (i := 115) rfl) rfl
theorem w2_117 : (Jvm.Cond.instanceMethod ({ cls := "FanNet$Layer", name := "fanEnds", desc := "(II)V" } : Jvm.MethodName)) ∈ am_big := am_t2 (List.mem_of_getElem? (i := 117) rfl) rfl
theorem w0_5 : Cond.selects "FanNet$Layer" (⟨"FanNet$Layer", "fanEnds", "(II)V"⟩ : MethodName) ⟨"FanNet$Layer", "fanEnds", "(II)V"⟩ ∈ am_big := am_t0 (List.mem_of_getElem? (i := 5) rfl) rfl
theorem w2_118 : (Jvm.Cond.code ({ cls := "FanNet$Layer", name := "fanEnds", desc := "(II)V" } : Jvm.MethodName) prog_2_method_8_code (7 : Nat) (Option.none : Option Jvm.ClassFile.FieldType)) ∈ am_big := am_t2 (List.mem_of_getElem? (i := 118) rfl) rfl
theorem w2_107 : (Jvm.Cond.methodLink "FanNet$Layer" (88 : Nat) ({ cls := "FanNet$Row", name := "takeLast", desc := "()I" } : Jvm.MethodName)) ∈ am_big := am_t2 (List.mem_of_getElem? (i := 107) rfl) rfl
theorem w2_108 : (Jvm.Cond.instanceMethod ({ cls := "FanNet$Row", name := "takeLast", desc := "()I" } : Jvm.MethodName)) ∈ am_big := am_t2 (List.mem_of_getElem? (i := 108) rfl) rfl
theorem w2_109 : (Jvm.Cond.selects "FanNet$Row" ({ cls := "FanNet$Row", name := "takeLast", desc := "()I" } : Jvm.MethodName) ({ cls := "FanNet$Row", name := "takeLast", desc := "()I" } : Jvm.MethodName)) ∈ am_big := am_t2 (List.mem_of_getElem? (i := 109) rfl) rfl
theorem w2_110 : (Jvm.Cond.code ({ cls := "FanNet$Row", name := "takeLast", desc := "()I" } : Jvm.MethodName) prog_5_method_8_code (1 : Nat) (Option.some Jvm.ClassFile.FieldType.int)) ∈ am_big := am_t2 (List.mem_of_getElem? (i := 110) rfl) rfl
theorem w1_217 : (Jvm.Cond.methodLink "FanNet$Net" (3 : Nat) ({ cls := "java/lang/Object", name := "<init>", desc := "()V" } : Jvm.MethodName)) ∈ am_big := am_t1 (List.mem_of_getElem? (i := 217) rfl) rfl
theorem w1_218 : (Jvm.Cond.classLink "FanNet$Net" (9 : Nat) "FanNet$Row") ∈ am_big := am_t1 (List.mem_of_getElem? (i := 218) rfl) rfl
theorem w1_219 : (Jvm.Cond.methodLink "FanNet$Net" (13 : Nat) ({ cls := "FanNet$Row", name := "<init>", desc := "(II)V" } : Jvm.MethodName)) ∈ am_big := am_t1 (List.mem_of_getElem? (i := 219) rfl) rfl
theorem w1_224 : (Jvm.Cond.fieldLink "FanNet$Net" (16 : Nat) "FanNet$Net" "kinds" "LFanNet$Row;") ∈ am_big := am_t1 (List.mem_of_getElem? (i := 224) rfl) rfl
theorem w1_225 : (Jvm.Cond.fieldLink "FanNet$Net" (20 : Nat) "FanNet$Net" "levels" "LFanNet$Row;") ∈ am_big := am_t1 (List.mem_of_getElem? (i := 225) rfl) rfl
theorem w1_226 : (Jvm.Cond.fieldLink "FanNet$Net" (23 : Nat) "FanNet$Net" "wires" "LFanNet$Row;") ∈ am_big := am_t1 (List.mem_of_getElem? (i := 226) rfl) rfl
theorem w1_227 : (Jvm.Cond.fieldLink "FanNet$Net" (26 : Nat) "FanNet$Net" "copies" "LFanNet$Row;") ∈ am_big := am_t1 (List.mem_of_getElem? (i := 227) rfl) rfl
theorem w1_228 : (Jvm.Cond.fieldLink "FanNet$Net" (29 : Nat) "FanNet$Net" "size" "I") ∈ am_big := am_t1 (List.mem_of_getElem? (i := 228) rfl) rfl
theorem w1_229 : (Jvm.Cond.fieldLink "FanNet$Net" (33 : Nat) "FanNet$Net" "noneFreeBelow" "I") ∈ am_big := am_t1 (List.mem_of_getElem? (i := 229) rfl) rfl
theorem w1_230 : (Jvm.Cond.fieldLink "FanNet$Net" (36 : Nat) "FanNet$Net" "noneUsedFrom" "I") ∈ am_big := am_t1 (List.mem_of_getElem? (i := 230) rfl) rfl
theorem w1_231 : (Jvm.Cond.fieldLink "FanNet$Net" (39 : Nat) "FanNet$Net" "overfull" "Z") ∈ am_big := am_t1 (List.mem_of_getElem? (i := 231) rfl) rfl
theorem w1_220 : (Jvm.Cond.methodLink "FanNet$Net" (43 : Nat) ({ cls := "FanNet$Row", name := "fill", desc := "(II)V" } : Jvm.MethodName)) ∈ am_big := am_t1 (List.mem_of_getElem? (i := 220) rfl) rfl
theorem w1_221 : (Jvm.Cond.instanceMethod ({ cls := "FanNet$Row", name := "fill", desc := "(II)V" } : Jvm.MethodName)) ∈ am_big := am_t1 (List.mem_of_getElem? (i := 221) rfl) rfl
theorem w1_222 : (Jvm.Cond.selects "FanNet$Row" ({ cls := "FanNet$Row", name := "fill", desc := "(II)V" } : Jvm.MethodName) ({ cls := "FanNet$Row", name := "fill", desc := "(II)V" } : Jvm.MethodName)) ∈ am_big := am_t1 (List.mem_of_getElem? (i := 222) rfl) rfl
theorem w1_223 : (Jvm.Cond.code ({ cls := "FanNet$Row", name := "fill", desc := "(II)V" } : Jvm.MethodName) prog_5_method_10_code (4 : Nat) (Option.none : Option Jvm.ClassFile.FieldType)) ∈ am_big := am_t1 (List.mem_of_getElem? (i := 223) rfl) rfl
theorem w5_156 : (Jvm.Cond.methodLink "FanNet$Net" (46 : Nat) ({ cls := "FanNet$Row", name := "copy", desc := "(LFanNet$Row;)V" } : Jvm.MethodName)) ∈ am_big := am_t5 (List.mem_of_getElem? (i := 156) rfl) rfl
theorem w3_191 : (Jvm.Cond.instanceMethod ({ cls := "FanNet$Row", name := "copy", desc := "(LFanNet$Row;)V" } : Jvm.MethodName)) ∈ am_big := am_t3 (List.mem_of_getElem? (i := 191) rfl) rfl
theorem w3_192 : (Jvm.Cond.selects "FanNet$Row" ({ cls := "FanNet$Row", name := "copy", desc := "(LFanNet$Row;)V" } : Jvm.MethodName) ({ cls := "FanNet$Row", name := "copy", desc := "(LFanNet$Row;)V" } : Jvm.MethodName)) ∈ am_big := am_t3 (List.mem_of_getElem? (i := 192) rfl) rfl
theorem w3_193 : (Jvm.Cond.code ({ cls := "FanNet$Row", name := "copy", desc := "(LFanNet$Row;)V" } : Jvm.MethodName) prog_5_method_11_code (2 : Nat) (Option.none : Option Jvm.ClassFile.FieldType)) ∈ am_big := am_t3 (List.mem_of_getElem? (i := 193) rfl) rfl
theorem w2_67 : (Jvm.Cond.methodLink "FanNet$Net" (50 : Nat) ({ cls := "FanNet$Row", name := "get", desc := "(I)I" } : Jvm.MethodName)) ∈ am_big := am_t2 (List.mem_of_getElem? (i := 67) rfl) rfl
theorem w2_71 : (Jvm.Cond.methodLink "FanNet$Net" (58 : Nat) ({ cls := "FanNet$Row", name := "set", desc := "(II)V" } : Jvm.MethodName)) ∈ am_big := am_t2 (List.mem_of_getElem? (i := 71) rfl) rfl
theorem w2_75 : (Jvm.Cond.methodLink "FanNet$Net" (61 : Nat) ({ cls := "java/lang/Math", name := "max", desc := "(II)I" } : Jvm.MethodName)) ∈ am_big := am_t2 (List.mem_of_getElem? (i := 75) rfl) rfl
theorem w1_38 : (Jvm.Cond.static ({ cls := "java/lang/Math", name := "max", desc := "(II)I" } : Jvm.MethodName)) ∈ am_big := am_t1 (List.mem_of_getElem? (i := 38) rfl) rfl
theorem w1_3 : (Jvm.Cond.initialized "java/lang/Math") ∈ am_big := am_t1 (List.mem_of_getElem? (i := 3) rfl) rfl
theorem w1_39 : (Jvm.Cond.code ({ cls := "java/lang/Math", name := "max", desc := "(II)I" } : Jvm.MethodName) prog_17_method_65_code (2 : Nat) (Option.some Jvm.ClassFile.FieldType.int)) ∈ am_big := am_t1 (List.mem_of_getElem? (i := 39) rfl) rfl
theorem w4_102 : (Jvm.Cond.methodLink "FanNet$Net" (67 : Nat) ({ cls := "FanNet$Net", name := "isLesserOfActive", desc := "(I)Z" } : Jvm.MethodName)) ∈ am_big := am_t4 (List.mem_of_getElem? (i := 102) rfl) rfl
theorem w4_104 : (Jvm.Cond.instanceMethod ({ cls := "FanNet$Net", name := "isLesserOfActive", desc := "(I)Z" } : Jvm.MethodName)) ∈ am_big := am_t4 (List.mem_of_getElem? (i := 104) rfl) rfl
theorem w0_42 : Cond.selects "FanNet$Net" (⟨"FanNet$Net", "isLesserOfActive", "(I)Z"⟩ : MethodName) ⟨"FanNet$Net", "isLesserOfActive", "(I)Z"⟩ ∈ am_big := am_t0 (List.mem_of_getElem? (i := 42) rfl) rfl
theorem w4_105 : (Jvm.Cond.code ({ cls := "FanNet$Net", name := "isLesserOfActive", desc := "(I)Z" } : Jvm.MethodName) prog_3_method_19_code (3 : Nat) (Option.some Jvm.ClassFile.FieldType.boolean)) ∈ am_big := am_t4 (List.mem_of_getElem? (i := 105) rfl) rfl
theorem w4_98 : (Jvm.Cond.methodLink "FanNet$Net" (71 : Nat) ({ cls := "FanNet$Net", name := "activeNode", desc := "(I)I" } : Jvm.MethodName)) ∈ am_big := am_t4 (List.mem_of_getElem? (i := 98) rfl) rfl
theorem w4_99 : (Jvm.Cond.instanceMethod ({ cls := "FanNet$Net", name := "activeNode", desc := "(I)I" } : Jvm.MethodName)) ∈ am_big := am_t4 (List.mem_of_getElem? (i := 99) rfl) rfl
theorem w4_100 : (Jvm.Cond.selects "FanNet$Net" ({ cls := "FanNet$Net", name := "activeNode", desc := "(I)I" } : Jvm.MethodName) ({ cls := "FanNet$Net", name := "activeNode", desc := "(I)I" } : Jvm.MethodName)) ∈ am_big := am_t4 (List.mem_of_getElem? (i := 100) rfl) rfl
theorem w4_101 : (Jvm.Cond.code ({ cls := "FanNet$Net", name := "activeNode", desc := "(I)I" } : Jvm.MethodName) prog_3_method_18_code (4 : Nat) (Option.some Jvm.ClassFile.FieldType.int)) ∈ am_big := am_t4 (List.mem_of_getElem? (i := 101) rfl) rfl
theorem w4_118 : (Jvm.Cond.methodLink "FanNet$Net" (74 : Nat) ({ cls := "FanNet$Net", name := "isMover", desc := "(I)Z" } : Jvm.MethodName)) ∈ am_big := am_t4 (List.mem_of_getElem? (i := 118) rfl) rfl
theorem w4_119 : (Jvm.Cond.static ({ cls := "FanNet$Net", name := "isMover", desc := "(I)Z" } : Jvm.MethodName)) ∈ am_big := am_t4 (List.mem_of_getElem? (i := 119) rfl) rfl
theorem w4_120 : (Jvm.Cond.code ({ cls := "FanNet$Net", name := "isMover", desc := "(I)Z" } : Jvm.MethodName) prog_3_method_21_code (1 : Nat) (Option.some Jvm.ClassFile.FieldType.boolean)) ∈ am_big := am_t4 (List.mem_of_getElem? (i := 120) rfl) rfl
theorem w4_121 : (Jvm.Cond.methodLink "FanNet$Net" (77 : Nat) ({ cls := "java/lang/Math", name := "min", desc := "(II)I" } : Jvm.MethodName)) ∈ am_big := am_t4 (List.mem_of_getElem? (i := 121) rfl) rfl
theorem w1_35 : (Jvm.Cond.static ({ cls := "java/lang/Math", name := "min", desc := "(II)I" } : Jvm.MethodName)) ∈ am_big := am_t1 (List.mem_of_getElem? (i := 35) rfl) rfl
theorem w1_36 : (Jvm.Cond.code ({ cls := "java/lang/Math", name := "min", desc := "(II)I" } : Jvm.MethodName) prog_17_method_69_code (2 : Nat) (Option.some Jvm.ClassFile.FieldType.int)) ∈ am_big := am_t1 (List.mem_of_getElem? (i := 36) rfl) rfl
theorem w4_114 : (Jvm.Cond.methodLink "FanNet$Net" (80 : Nat) ({ cls := "FanNet$Net", name := "stepKind", desc := "(II)I" } : Jvm.MethodName)) ∈ am_big := am_t4 (List.mem_of_getElem? (i := 114) rfl) rfl
theorem w4_115 : (Jvm.Cond.instanceMethod ({ cls := "FanNet$Net", name := "stepKind", desc := "(II)I" } : Jvm.MethodName)) ∈ am_big := am_t4 (List.mem_of_getElem? (i := 115) rfl) rfl
theorem w4_116 : (Jvm.Cond.selects "FanNet$Net" ({ cls := "FanNet$Net", name := "stepKind", desc := "(II)I" } : Jvm.MethodName) ({ cls := "FanNet$Net", name := "stepKind", desc := "(II)I" } : Jvm.MethodName)) ∈ am_big := am_t4 (List.mem_of_getElem? (i := 116) rfl) rfl
theorem w4_117 : (Jvm.Cond.code ({ cls := "FanNet$Net", name := "stepKind", desc := "(II)I" } : Jvm.MethodName) prog_3_method_20_code (7 : Nat) (Option.some Jvm.ClassFile.FieldType.int)) ∈ am_big := am_t4 (List.mem_of_getElem? (i := 117) rfl) rfl
theorem w4_122 : (Jvm.Cond.methodLink "FanNet$Net" (83 : Nat) ({ cls := "FanNet$Net", name := "leads", desc := "(II)Z" } : Jvm.MethodName)) ∈ am_big := am_t4 (List.mem_of_getElem? (i := 122) rfl) rfl
theorem w4_124 : (Jvm.Cond.instanceMethod ({ cls := "FanNet$Net", name := "leads", desc := "(II)Z" } : Jvm.MethodName)) ∈ am_big := am_t4 (List.mem_of_getElem? (i := 124) rfl) rfl
theorem w0_43 : Cond.selects "FanNet$Net" (⟨"FanNet$Net", "leads", "(II)Z"⟩ : MethodName) ⟨"FanNet$Net", "leads", "(II)Z"⟩ ∈ am_big := am_t0 (List.mem_of_getElem? (i := 43) rfl) rfl
theorem w4_125 : (Jvm.Cond.code ({ cls := "FanNet$Net", name := "leads", desc := "(II)Z" } : Jvm.MethodName) prog_3_method_23_code (3 : Nat) (Option.some Jvm.ClassFile.FieldType.boolean)) ∈ am_big := am_t4 (List.mem_of_getElem? (i := 125) rfl) rfl
theorem w4_126 : (Jvm.Cond.methodLink "FanNet$Net" (87 : Nat) ({ cls := "FanNet$Net", name := "newNodes", desc := "(III)I" } : Jvm.MethodName)) ∈ am_big := am_t4 (List.mem_of_getElem? (i := 126) rfl) rfl
theorem w4_128 : (Jvm.Cond.instanceMethod ({ cls := "FanNet$Net", name := "newNodes", desc := "(III)I" } : Jvm.MethodName)) ∈ am_big := am_t4 (List.mem_of_getElem? (i := 128) rfl) rfl
theorem w0_44 : Cond.selects "FanNet$Net" (⟨"FanNet$Net", "newNodes", "(III)I"⟩ : MethodName) ⟨"FanNet$Net", "newNodes", "(III)I"⟩ ∈ am_big := am_t0 (List.mem_of_getElem? (i := 44) rfl) rfl
theorem w4_129 : (Jvm.Cond.code ({ cls := "FanNet$Net", name := "newNodes", desc := "(III)I" } : Jvm.MethodName) prog_3_method_24_code (4 : Nat) (Option.some Jvm.ClassFile.FieldType.int)) ∈ am_big := am_t4 (List.mem_of_getElem? (i := 129) rfl) rfl
theorem w4_136 : (Jvm.Cond.methodLink "FanNet$Net" (91 : Nat) ({ cls := "FanNet$Net", name := "lift", desc := "(II)V" } : Jvm.MethodName)) ∈ am_big := am_t4 (List.mem_of_getElem? (i := 136) rfl) rfl
theorem w4_138 : (Jvm.Cond.instanceMethod ({ cls := "FanNet$Net", name := "lift", desc := "(II)V" } : Jvm.MethodName)) ∈ am_big := am_t4 (List.mem_of_getElem? (i := 138) rfl) rfl
theorem w0_45 : Cond.selects "FanNet$Net" (⟨"FanNet$Net", "lift", "(II)V"⟩ : MethodName) ⟨"FanNet$Net", "lift", "(II)V"⟩ ∈ am_big := am_t0 (List.mem_of_getElem? (i := 45) rfl) rfl
theorem w4_139 : (Jvm.Cond.code ({ cls := "FanNet$Net", name := "lift", desc := "(II)V" } : Jvm.MethodName) prog_3_method_25_code (4 : Nat) (Option.none : Option Jvm.ClassFile.FieldType)) ∈ am_big := am_t4 (List.mem_of_getElem? (i := 139) rfl) rfl
theorem w4_141 : (Jvm.Cond.methodLink "FanNet$Net" (94 : Nat) ({ cls := "FanNet$Net", name := "erase", desc := "()V" } : Jvm.MethodName)) ∈ am_big := am_t4 (List.mem_of_getElem? (i := 141) rfl) rfl
theorem w4_143 : (Jvm.Cond.instanceMethod ({ cls := "FanNet$Net", name := "erase", desc := "()V" } : Jvm.MethodName)) ∈ am_big := am_t4 (List.mem_of_getElem? (i := 143) rfl) rfl
theorem w0_46 : Cond.selects "FanNet$Net" (⟨"FanNet$Net", "erase", "()V"⟩ : MethodName) ⟨"FanNet$Net", "erase", "()V"⟩ ∈ am_big := am_t0 (List.mem_of_getElem? (i := 46) rfl) rfl
theorem w4_144 : (Jvm.Cond.code ({ cls := "FanNet$Net", name := "erase", desc := "()V" } : Jvm.MethodName) prog_3_method_27_code (3 : Nat) (Option.none : Option Jvm.ClassFile.FieldType)) ∈ am_big := am_t4 (List.mem_of_getElem? (i := 144) rfl) rfl
theorem w4_146 : (Jvm.Cond.methodLink "FanNet$Net" (97 : Nat) ({ cls := "FanNet$Net", name := "joinPorts", desc := "()V" } : Jvm.MethodName)) ∈ am_big := am_t4 (List.mem_of_getElem? (i := 146) rfl) rfl
theorem w4_148 : (Jvm.Cond.instanceMethod ({ cls := "FanNet$Net", name := "joinPorts", desc := "()V" } : Jvm.MethodName)) ∈ am_big := am_t4 (List.mem_of_getElem? (i := 148) rfl) rfl
theorem w0_47 : Cond.selects "FanNet$Net" (⟨"FanNet$Net", "joinPorts", "()V"⟩ : MethodName) ⟨"FanNet$Net", "joinPorts", "()V"⟩ ∈ am_big := am_t0 (List.mem_of_getElem? (i := 47) rfl) rfl
theorem w4_149 : (Jvm.Cond.code ({ cls := "FanNet$Net", name := "joinPorts", desc := "()V" } : Jvm.MethodName) prog_3_method_26_code (4 : Nat) (Option.none : Option Jvm.ClassFile.FieldType)) ∈ am_big := am_t4 (List.mem_of_getElem? (i := 149) rfl) rfl
theorem w4_150 : (Jvm.Cond.methodLink "FanNet$Net" (100 : Nat) ({ cls := "FanNet$Net", name := "goThrough", desc := "()V" } : Jvm.MethodName)) ∈ am_big := am_t4 (List.mem_of_getElem? (i := 150) rfl) rfl
theorem w4_152 : (Jvm.Cond.instanceMethod ({ cls := "FanNet$Net", name := "goThrough", desc := "()V" } : Jvm.MethodName)) ∈ am_big := am_t4 (List.mem_of_getElem? (i := 152) rfl) rfl
theorem w0_48 : Cond.selects "FanNet$Net" (⟨"FanNet$Net", "goThrough", "()V"⟩ : MethodName) ⟨"FanNet$Net", "goThrough", "()V"⟩ ∈ am_big := am_t0 (List.mem_of_getElem? (i := 48) rfl) rfl
theorem w4_153 : (Jvm.Cond.code ({ cls := "FanNet$Net", name := "goThrough", desc := "()V" } : Jvm.MethodName) prog_3_method_28_code (6 : Nat) (Option.none : Option Jvm.ClassFile.FieldType)) ∈ am_big := am_t4 (List.mem_of_getElem? (i := 153) rfl) rfl
theorem w4_130 : (Jvm.Cond.methodLink "FanNet$Net" (103 : Nat) ({ cls := "FanNet$Net", name := "ports", desc := "(I)I" } : Jvm.MethodName)) ∈ am_big := am_t4 (List.mem_of_getElem? (i := 130) rfl) rfl
theorem w4_131 : (Jvm.Cond.instanceMethod ({ cls := "FanNet$Net", name := "ports", desc := "(I)I" } : Jvm.MethodName)) ∈ am_big := am_t4 (List.mem_of_getElem? (i := 131) rfl) rfl
theorem w4_132 : (Jvm.Cond.selects "FanNet$Net" ({ cls := "FanNet$Net", name := "ports", desc := "(I)I" } : Jvm.MethodName) ({ cls := "FanNet$Net", name := "ports", desc := "(I)I" } : Jvm.MethodName)) ∈ am_big := am_t4 (List.mem_of_getElem? (i := 132) rfl) rfl
theorem w4_133 : (Jvm.Cond.code ({ cls := "FanNet$Net", name := "ports", desc := "(I)I" } : Jvm.MethodName) prog_3_method_9_code (3 : Nat) (Option.some Jvm.ClassFile.FieldType.int)) ∈ am_big := am_t4 (List.mem_of_getElem? (i := 133) rfl) rfl
theorem w4_140 : (Jvm.Cond.methodLink "FanNet$Net" (106 : Nat) ({ cls := "FanNet$Net", name := "link", desc := "(II)V" } : Jvm.MethodName)) ∈ am_big := am_t4 (List.mem_of_getElem? (i := 140) rfl) rfl
theorem w4_145 : (Jvm.Cond.methodLink "FanNet$Net" (109 : Nat) ({ cls := "FanNet$Net", name := "make", desc := "(II)I" } : Jvm.MethodName)) ∈ am_big := am_t4 (List.mem_of_getElem? (i := 145) rfl) rfl
theorem w4_154 : (Jvm.Cond.methodLink "FanNet$Net" (112 : Nat) ({ cls := "FanNet$Row", name := "cut", desc := "(I)V" } : Jvm.MethodName)) ∈ am_big := am_t4 (List.mem_of_getElem? (i := 154) rfl) rfl
theorem w4_155 : (Jvm.Cond.methodLink "FanNet$Net" (116 : Nat) ({ cls := "FanNet$Row", name := "add", desc := "(I)Z" } : Jvm.MethodName)) ∈ am_big := am_t4 (List.mem_of_getElem? (i := 155) rfl) rfl
theorem w1_175 : (Jvm.Cond.methodLink "FanNet$Plainly" (3 : Nat) ({ cls := "java/lang/Object", name := "<init>", desc := "()V" } : Jvm.MethodName)) ∈ am_big := am_t1 (List.mem_of_getElem? (i := 175) rfl) rfl
theorem w1_176 : (Jvm.Cond.classLink "FanNet$Plainly" (9 : Nat) "FanNet$Row") ∈ am_big := am_t1 (List.mem_of_getElem? (i := 176) rfl) rfl
theorem w1_177 : (Jvm.Cond.methodLink "FanNet$Plainly" (11 : Nat) ({ cls := "FanNet$Row", name := "<init>", desc := "(II)V" } : Jvm.MethodName)) ∈ am_big := am_t1 (List.mem_of_getElem? (i := 177) rfl) rfl
theorem w1_178 : (Jvm.Cond.fieldLink "FanNet$Plainly" (14 : Nat) "FanNet$Plainly" "depths" "LFanNet$Row;") ∈ am_big := am_t1 (List.mem_of_getElem? (i := 178) rfl) rfl
theorem w1_179 : (Jvm.Cond.fieldLink "FanNet$Plainly" (20 : Nat) "FanNet$Plainly" "argumentDepths" "LFanNet$Row;") ∈ am_big := am_t1 (List.mem_of_getElem? (i := 179) rfl) rfl
theorem w1_180 : (Jvm.Cond.fieldLink "FanNet$Plainly" (23 : Nat) "FanNet$Plainly" "now" "LFanNet$Row;") ∈ am_big := am_t1 (List.mem_of_getElem? (i := 180) rfl) rfl
theorem w1_181 : (Jvm.Cond.fieldLink "FanNet$Plainly" (26 : Nat) "FanNet$Plainly" "next" "LFanNet$Row;") ∈ am_big := am_t1 (List.mem_of_getElem? (i := 181) rfl) rfl
theorem w1_182 : (Jvm.Cond.fieldLink "FanNet$Plainly" (29 : Nat) "FanNet$Plainly" "rounds" "I") ∈ am_big := am_t1 (List.mem_of_getElem? (i := 182) rfl) rfl
theorem w1_183 : (Jvm.Cond.fieldLink "FanNet$Plainly" (33 : Nat) "FanNet$Plainly" "tooMany" "Z") ∈ am_big := am_t1 (List.mem_of_getElem? (i := 183) rfl) rfl
theorem w4_208 : (Jvm.Cond.methodLink "FanNet$Plainly" (37 : Nat) ({ cls := "FanNet$Plainly", name := "firstRedex", desc := "()I" } : Jvm.MethodName)) ∈ am_big := am_t4 (List.mem_of_getElem? (i := 208) rfl) rfl
theorem w4_210 : (Jvm.Cond.instanceMethod ({ cls := "FanNet$Plainly", name := "firstRedex", desc := "()I" } : Jvm.MethodName)) ∈ am_big := am_t4 (List.mem_of_getElem? (i := 210) rfl) rfl
theorem w0_51 : Cond.selects "FanNet$Plainly" (⟨"FanNet$Plainly", "firstRedex", "()I"⟩ : MethodName) ⟨"FanNet$Plainly", "firstRedex", "()I"⟩ ∈ am_big := am_t0 (List.mem_of_getElem? (i := 51) rfl) rfl
theorem w1_8 : (Jvm.Cond.initialized "FanNet$Plainly") ∈ am_big := am_t1 (List.mem_of_getElem? (i := 8) rfl) rfl
theorem w4_211 : (Jvm.Cond.code ({ cls := "FanNet$Plainly", name := "firstRedex", desc := "()I" } : Jvm.MethodName) prog_4_method_7_code (2 : Nat) (Option.some Jvm.ClassFile.FieldType.int)) ∈ am_big := am_t4 (List.mem_of_getElem? (i := 211) rfl) rfl
theorem w4_207 : (Jvm.Cond.methodLink "FanNet$Plainly" (41 : Nat) ({ cls := "FanNet$Row", name := "copy", desc := "(LFanNet$Row;)V" } : Jvm.MethodName)) ∈ am_big := am_t4 (List.mem_of_getElem? (i := 207) rfl) rfl
theorem w4_216 : (Jvm.Cond.methodLink "FanNet$Plainly" (45 : Nat) ({ cls := "FanNet$Plainly", name := "behindTerm", desc := "(I)I" } : Jvm.MethodName)) ∈ am_big := am_t4 (List.mem_of_getElem? (i := 216) rfl) rfl
theorem w4_218 : (Jvm.Cond.instanceMethod ({ cls := "FanNet$Plainly", name := "behindTerm", desc := "(I)I" } : Jvm.MethodName)) ∈ am_big := am_t4 (List.mem_of_getElem? (i := 218) rfl) rfl
theorem w0_52 : Cond.selects "FanNet$Plainly" (⟨"FanNet$Plainly", "behindTerm", "(I)I"⟩ : MethodName) ⟨"FanNet$Plainly", "behindTerm", "(I)I"⟩ ∈ am_big := am_t0 (List.mem_of_getElem? (i := 52) rfl) rfl
theorem w4_219 : (Jvm.Cond.code ({ cls := "FanNet$Plainly", name := "behindTerm", desc := "(I)I" } : Jvm.MethodName) prog_4_method_8_code (5 : Nat) (Option.some Jvm.ClassFile.FieldType.int)) ∈ am_big := am_t4 (List.mem_of_getElem? (i := 219) rfl) rfl
theorem w4_221 : (Jvm.Cond.methodLink "FanNet$Plainly" (49 : Nat) ({ cls := "FanNet$Row", name := "cut", desc := "(I)V" } : Jvm.MethodName)) ∈ am_big := am_t4 (List.mem_of_getElem? (i := 221) rfl) rfl
theorem w4_222 : (Jvm.Cond.methodLink "FanNet$Plainly" (53 : Nat) ({ cls := "FanNet$Plainly", name := "keep", desc := "(II)Z" } : Jvm.MethodName)) ∈ am_big := am_t4 (List.mem_of_getElem? (i := 222) rfl) rfl
theorem w4_224 : (Jvm.Cond.instanceMethod ({ cls := "FanNet$Plainly", name := "keep", desc := "(II)Z" } : Jvm.MethodName)) ∈ am_big := am_t4 (List.mem_of_getElem? (i := 224) rfl) rfl
theorem w0_53 : Cond.selects "FanNet$Plainly" (⟨"FanNet$Plainly", "keep", "(II)Z"⟩ : MethodName) ⟨"FanNet$Plainly", "keep", "(II)Z"⟩ ∈ am_big := am_t0 (List.mem_of_getElem? (i := 53) rfl) rfl
theorem w4_225 : (Jvm.Cond.code ({ cls := "FanNet$Plainly", name := "keep", desc := "(II)Z" } : Jvm.MethodName) prog_4_method_9_code (4 : Nat) (Option.some Jvm.ClassFile.FieldType.boolean)) ∈ am_big := am_t4 (List.mem_of_getElem? (i := 225) rfl) rfl
theorem w4_227 : (Jvm.Cond.methodLink "FanNet$Plainly" (57 : Nat) ({ cls := "FanNet$Plainly", name := "putIn", desc := "(III)Z" } : Jvm.MethodName)) ∈ am_big := am_t4 (List.mem_of_getElem? (i := 227) rfl) rfl
theorem w4_229 : (Jvm.Cond.instanceMethod ({ cls := "FanNet$Plainly", name := "putIn", desc := "(III)Z" } : Jvm.MethodName)) ∈ am_big := am_t4 (List.mem_of_getElem? (i := 229) rfl) rfl
theorem w0_54 : Cond.selects "FanNet$Plainly" (⟨"FanNet$Plainly", "putIn", "(III)Z"⟩ : MethodName) ⟨"FanNet$Plainly", "putIn", "(III)Z"⟩ ∈ am_big := am_t0 (List.mem_of_getElem? (i := 54) rfl) rfl
theorem w4_230 : (Jvm.Cond.code ({ cls := "FanNet$Plainly", name := "putIn", desc := "(III)Z" } : Jvm.MethodName) prog_4_method_10_code (8 : Nat) (Option.some Jvm.ClassFile.FieldType.boolean)) ∈ am_big := am_t4 (List.mem_of_getElem? (i := 230) rfl) rfl
theorem w4_212 : (Jvm.Cond.methodLink "FanNet$Plainly" (61 : Nat) ({ cls := "FanNet$Row", name := "size", desc := "()I" } : Jvm.MethodName)) ∈ am_big := am_t4 (List.mem_of_getElem? (i := 212) rfl) rfl
theorem w4_215 : (Jvm.Cond.code ({ cls := "FanNet", name := "isRedex", desc := "(LFanNet$Row;I)Z" } : Jvm.MethodName) prog_1_method_27_code (2 : Nat) (Option.some Jvm.ClassFile.FieldType.boolean)) ∈ am_big := am_t4 (List.mem_of_getElem? (i := 215) rfl) rfl
theorem w1_1 : (Jvm.Cond.initialized "FanNet") ∈ am_big := am_t1 (List.mem_of_getElem? (i := 1) rfl) rfl
theorem w4_214 : (Jvm.Cond.static ({ cls := "FanNet", name := "isRedex", desc := "(LFanNet$Row;I)Z" } : Jvm.MethodName)) ∈ am_big := am_t4 (List.mem_of_getElem? (i := 214) rfl) rfl
theorem w4_220 : (Jvm.Cond.methodLink "FanNet$Plainly" (68 : Nat) ({ cls := "FanNet$Row", name := "get", desc := "(I)I" } : Jvm.MethodName)) ∈ am_big := am_t4 (List.mem_of_getElem? (i := 220) rfl) rfl
theorem w4_226 : (Jvm.Cond.methodLink "FanNet$Plainly" (71 : Nat) ({ cls := "FanNet$Row", name := "add", desc := "(I)Z" } : Jvm.MethodName)) ∈ am_big := am_t4 (List.mem_of_getElem? (i := 226) rfl) rfl
theorem w4_231 : (Jvm.Cond.methodLink "FanNet$Plainly" (75 : Nat) ({ cls := "FanNet$Plainly", name := "putArgument", desc := "(III)Z" } : Jvm.MethodName)) ∈ am_big := am_t4 (List.mem_of_getElem? (i := 231) rfl) rfl
theorem w4_233 : (Jvm.Cond.instanceMethod ({ cls := "FanNet$Plainly", name := "putArgument", desc := "(III)Z" } : Jvm.MethodName)) ∈ am_big := am_t4 (List.mem_of_getElem? (i := 233) rfl) rfl
theorem w0_55 : Cond.selects "FanNet$Plainly" (⟨"FanNet$Plainly", "putArgument", "(III)Z"⟩ : MethodName) ⟨"FanNet$Plainly", "putArgument", "(III)Z"⟩ ∈ am_big := am_t0 (List.mem_of_getElem? (i := 55) rfl) rfl
theorem w4_234 : (Jvm.Cond.code ({ cls := "FanNet$Plainly", name := "putArgument", desc := "(III)Z" } : Jvm.MethodName) prog_4_method_11_code (7 : Nat) (Option.some Jvm.ClassFile.FieldType.boolean)) ∈ am_big := am_t4 (List.mem_of_getElem? (i := 234) rfl) rfl
theorem w4_235 : (Jvm.Cond.methodLink "FanNet$Plainly" (78 : Nat) ({ cls := "FanNet$Plainly", name := "depthBehind", desc := "(IILFanNet$Row;)I" } : Jvm.MethodName)) ∈ am_big := am_t4 (List.mem_of_getElem? (i := 235) rfl) rfl
theorem w4_236 : (Jvm.Cond.static ({ cls := "FanNet$Plainly", name := "depthBehind", desc := "(IILFanNet$Row;)I" } : Jvm.MethodName)) ∈ am_big := am_t4 (List.mem_of_getElem? (i := 236) rfl) rfl
theorem w4_237 : (Jvm.Cond.code ({ cls := "FanNet$Plainly", name := "depthBehind", desc := "(IILFanNet$Row;)I" } : Jvm.MethodName) prog_4_method_12_code (3 : Nat) (Option.some Jvm.ClassFile.FieldType.int)) ∈ am_big := am_t4 (List.mem_of_getElem? (i := 237) rfl) rfl
theorem w4_238 : (Jvm.Cond.methodLink "FanNet$Plainly" (82 : Nat) ({ cls := "FanNet$Row", name := "takeLast", desc := "()I" } : Jvm.MethodName)) ∈ am_big := am_t4 (List.mem_of_getElem? (i := 238) rfl) rfl
theorem w1_33 : (Jvm.Cond.methodLink "FanNet$Row" (1 : Nat) ({ cls := "java/lang/Object", name := "<init>", desc := "()V" } : Jvm.MethodName)) ∈ am_big := am_t1 (List.mem_of_getElem? (i := 33) rfl) rfl
theorem w1_40 : (Jvm.Cond.fieldLink "FanNet$Row" (7 : Nat) "FanNet$Row" "most" "I") ∈ am_big := am_t1 (List.mem_of_getElem? (i := 40) rfl) rfl
theorem w1_34 : (Jvm.Cond.methodLink "FanNet$Row" (13 : Nat) ({ cls := "java/lang/Math", name := "min", desc := "(II)I" } : Jvm.MethodName)) ∈ am_big := am_t1 (List.mem_of_getElem? (i := 34) rfl) rfl
theorem w1_37 : (Jvm.Cond.methodLink "FanNet$Row" (19 : Nat) ({ cls := "java/lang/Math", name := "max", desc := "(II)I" } : Jvm.MethodName)) ∈ am_big := am_t1 (List.mem_of_getElem? (i := 37) rfl) rfl
theorem w1_50 : (Jvm.Cond.arrayClass Jvm.ClassFile.FieldType.int) ∈ am_big := am_t1 (List.mem_of_getElem? (i := 50) rfl) rfl
theorem w1_41 : (Jvm.Cond.fieldLink "FanNet$Row" (22 : Nat) "FanNet$Row" "items" "[I") ∈ am_big := am_t1 (List.mem_of_getElem? (i := 41) rfl) rfl
theorem w1_42 : (Jvm.Cond.fieldLink "FanNet$Row" (26 : Nat) "FanNet$Row" "size" "I") ∈ am_big := am_t1 (List.mem_of_getElem? (i := 42) rfl) rfl
theorem w2_37 : (Jvm.Cond.methodLink "FanNet$Row" (29 : Nat) ({ cls := "java/util/Arrays", name := "copyOf", desc := "([II)[I" } : Jvm.MethodName)) ∈ am_big := am_t2 (List.mem_of_getElem? (i := 37) rfl) rfl
theorem w2_38 : (Jvm.Cond.static ({ cls := "java/util/Arrays", name := "copyOf", desc := "([II)[I" } : Jvm.MethodName)) ∈ am_big := am_t2 (List.mem_of_getElem? (i := 38) rfl) rfl
theorem w1_12 : (Jvm.Cond.initialized "java/util/Arrays") ∈ am_big := am_t1 (List.mem_of_getElem? (i := 12) rfl) rfl
theorem w2_39 : (Jvm.Cond.code ({ cls := "java/util/Arrays", name := "copyOf", desc := "([II)[I" } : Jvm.MethodName) prog_22_method_123_code (3 : Nat) (Option.some (Jvm.ClassFile.FieldType.array Jvm.ClassFile.FieldType.int))) ∈ am_big := am_t2 (List.mem_of_getElem? (i := 39) rfl) rfl
theorem w3_132 : (Jvm.Cond.methodLink "FanNet$Row" (35 : Nat) ({ cls := "java/lang/System", name := "arraycopy", desc := "(Ljava/lang/Object;ILjava/lang/Object;II)V" } : Jvm.MethodName)) ∈ am_big := am_t3 (List.mem_of_getElem? (i := 132) rfl) rfl
theorem w2_50 : (Jvm.Cond.native ({ cls := "java/lang/System", name := "arraycopy", desc := "(Ljava/lang/Object;ILjava/lang/Object;II)V" } : Jvm.MethodName)) ∈ am_big := am_t2 (List.mem_of_getElem? (i := 50) rfl) rfl
theorem w2_49 : (Jvm.Cond.static ({ cls := "java/lang/System", name := "arraycopy", desc := "(Ljava/lang/Object;ILjava/lang/Object;II)V" } : Jvm.MethodName)) ∈ am_big := am_t2 (List.mem_of_getElem? (i := 49) rfl) rfl
theorem w1_13 : (Jvm.Cond.initialized "java/lang/System") ∈ am_big := am_t1 (List.mem_of_getElem? (i := 13) rfl) rfl
theorem w1_126 : (Jvm.Cond.methodLink "FanNet$Stacks" (3 : Nat) ({ cls := "java/lang/Object", name := "<init>", desc := "()V" } : Jvm.MethodName)) ∈ am_big := am_t1 (List.mem_of_getElem? (i := 126) rfl) rfl
theorem w1_127 : (Jvm.Cond.classLink "FanNet$Stacks" (9 : Nat) "FanNet$Row") ∈ am_big := am_t1 (List.mem_of_getElem? (i := 127) rfl) rfl
theorem w1_128 : (Jvm.Cond.methodLink "FanNet$Stacks" (13 : Nat) ({ cls := "FanNet$Row", name := "<init>", desc := "(II)V" } : Jvm.MethodName)) ∈ am_big := am_t1 (List.mem_of_getElem? (i := 128) rfl) rfl
theorem w1_129 : (Jvm.Cond.fieldLink "FanNet$Stacks" (16 : Nat) "FanNet$Stacks" "levels" "LFanNet$Row;") ∈ am_big := am_t1 (List.mem_of_getElem? (i := 129) rfl) rfl
theorem w1_130 : (Jvm.Cond.fieldLink "FanNet$Stacks" (20 : Nat) "FanNet$Stacks" "cells" "LFanNet$Row;") ∈ am_big := am_t1 (List.mem_of_getElem? (i := 130) rfl) rfl
theorem w1_131 : (Jvm.Cond.fieldLink "FanNet$Stacks" (23 : Nat) "FanNet$Stacks" "trail" "LFanNet$Row;") ∈ am_big := am_t1 (List.mem_of_getElem? (i := 131) rfl) rfl
theorem w3_217 : (Jvm.Cond.methodLink "FanNet$Stacks" (26 : Nat) ({ cls := "FanNet$Row", name := "cut", desc := "(I)V" } : Jvm.MethodName)) ∈ am_big := am_t3 (List.mem_of_getElem? (i := 217) rfl) rfl
theorem w3_218 : (Jvm.Cond.methodLink "FanNet$Stacks" (30 : Nat) ({ cls := "FanNet$Row", name := "fill", desc := "(II)V" } : Jvm.MethodName)) ∈ am_big := am_t3 (List.mem_of_getElem? (i := 218) rfl) rfl
theorem w4_11 : (Jvm.Cond.methodLink "FanNet$Stacks" (33 : Nat) ({ cls := "FanNet$Row", name := "get", desc := "(I)I" } : Jvm.MethodName)) ∈ am_big := am_t4 (List.mem_of_getElem? (i := 11) rfl) rfl
theorem w4_62 : (Jvm.Cond.methodLink "FanNet$Stacks" (37 : Nat) ({ cls := "FanNet$Stacks", name := "cell", desc := "(III)I" } : Jvm.MethodName)) ∈ am_big := am_t4 (List.mem_of_getElem? (i := 62) rfl) rfl
theorem w4_64 : (Jvm.Cond.instanceMethod ({ cls := "FanNet$Stacks", name := "cell", desc := "(III)I" } : Jvm.MethodName)) ∈ am_big := am_t4 (List.mem_of_getElem? (i := 64) rfl) rfl
theorem w0_39 : Cond.selects "FanNet$Stacks" (⟨"FanNet$Stacks", "cell", "(III)I"⟩ : MethodName) ⟨"FanNet$Stacks", "cell", "(III)I"⟩ ∈ am_big := am_t0 (List.mem_of_getElem? (i := 39) rfl) rfl
theorem w1_7 : (Jvm.Cond.initialized "FanNet$Stacks") ∈ am_big := am_t1 (List.mem_of_getElem? (i := 7) rfl) rfl
theorem w4_65 : (Jvm.Cond.code ({ cls := "FanNet$Stacks", name := "cell", desc := "(III)I" } : Jvm.MethodName) prog_6_method_12_code (7 : Nat) (Option.some Jvm.ClassFile.FieldType.int)) ∈ am_big := am_t4 (List.mem_of_getElem? (i := 65) rfl) rfl
theorem w4_50 : (Jvm.Cond.methodLink "FanNet$Stacks" (41 : Nat) ({ cls := "FanNet$Stacks", name := "set", desc := "(II)V" } : Jvm.MethodName)) ∈ am_big := am_t4 (List.mem_of_getElem? (i := 50) rfl) rfl
theorem w4_52 : (Jvm.Cond.instanceMethod ({ cls := "FanNet$Stacks", name := "set", desc := "(II)V" } : Jvm.MethodName)) ∈ am_big := am_t4 (List.mem_of_getElem? (i := 52) rfl) rfl
theorem w0_38 : Cond.selects "FanNet$Stacks" (⟨"FanNet$Stacks", "set", "(II)V"⟩ : MethodName) ⟨"FanNet$Stacks", "set", "(II)V"⟩ ∈ am_big := am_t0 (List.mem_of_getElem? (i := 38) rfl) rfl
theorem w4_53 : (Jvm.Cond.code ({ cls := "FanNet$Stacks", name := "set", desc := "(II)V" } : Jvm.MethodName) prog_6_method_13_code (4 : Nat) (Option.none : Option Jvm.ClassFile.FieldType)) ∈ am_big := am_t4 (List.mem_of_getElem? (i := 53) rfl) rfl
theorem w4_70 : (Jvm.Cond.methodLink "FanNet$Stacks" (44 : Nat) ({ cls := "FanNet$Stacks", name := "insert", desc := "(II)V" } : Jvm.MethodName)) ∈ am_big := am_t4 (List.mem_of_getElem? (i := 70) rfl) rfl
theorem w4_72 : (Jvm.Cond.instanceMethod ({ cls := "FanNet$Stacks", name := "insert", desc := "(II)V" } : Jvm.MethodName)) ∈ am_big := am_t4 (List.mem_of_getElem? (i := 72) rfl) rfl
theorem w0_40 : Cond.selects "FanNet$Stacks" (⟨"FanNet$Stacks", "insert", "(II)V"⟩ : MethodName) ⟨"FanNet$Stacks", "insert", "(II)V"⟩ ∈ am_big := am_t0 (List.mem_of_getElem? (i := 40) rfl) rfl
theorem w4_73 : (Jvm.Cond.code ({ cls := "FanNet$Stacks", name := "insert", desc := "(II)V" } : Jvm.MethodName) prog_6_method_14_code (4 : Nat) (Option.none : Option Jvm.ClassFile.FieldType)) ∈ am_big := am_t4 (List.mem_of_getElem? (i := 73) rfl) rfl
theorem w4_78 : (Jvm.Cond.methodLink "FanNet$Stacks" (47 : Nat) ({ cls := "FanNet$Stacks", name := "drop", desc := "(I)V" } : Jvm.MethodName)) ∈ am_big := am_t4 (List.mem_of_getElem? (i := 78) rfl) rfl
theorem w4_80 : (Jvm.Cond.instanceMethod ({ cls := "FanNet$Stacks", name := "drop", desc := "(I)V" } : Jvm.MethodName)) ∈ am_big := am_t4 (List.mem_of_getElem? (i := 80) rfl) rfl
theorem w0_41 : Cond.selects "FanNet$Stacks" (⟨"FanNet$Stacks", "drop", "(I)V"⟩ : MethodName) ⟨"FanNet$Stacks", "drop", "(I)V"⟩ ∈ am_big := am_t0 (List.mem_of_getElem? (i := 41) rfl) rfl
theorem w4_81 : (Jvm.Cond.code ({ cls := "FanNet$Stacks", name := "drop", desc := "(I)V" } : Jvm.MethodName) prog_6_method_15_code (2 : Nat) (Option.none : Option Jvm.ClassFile.FieldType)) ∈ am_big := am_t4 (List.mem_of_getElem? (i := 81) rfl) rfl
theorem w4_30 : (Jvm.Cond.methodLink "FanNet$Stacks" (50 : Nat) ({ cls := "FanNet$Row", name := "size", desc := "()I" } : Jvm.MethodName)) ∈ am_big := am_t4 (List.mem_of_getElem? (i := 30) rfl) rfl
theorem w4_31 : (Jvm.Cond.methodLink "FanNet$Stacks" (54 : Nat) ({ cls := "FanNet$Row", name := "takeLast", desc := "()I" } : Jvm.MethodName)) ∈ am_big := am_t4 (List.mem_of_getElem? (i := 31) rfl) rfl
theorem w4_32 : (Jvm.Cond.methodLink "FanNet$Stacks" (57 : Nat) ({ cls := "FanNet$Row", name := "set", desc := "(II)V" } : Jvm.MethodName)) ∈ am_big := am_t4 (List.mem_of_getElem? (i := 32) rfl) rfl
theorem w4_33 : (Jvm.Cond.methodLink "FanNet$Stacks" (58 : Nat) ({ cls := "FanNet$Row", name := "insert", desc := "(II)V" } : Jvm.MethodName)) ∈ am_big := am_t4 (List.mem_of_getElem? (i := 33) rfl) rfl
theorem w3_129 : (Jvm.Cond.instanceMethod ({ cls := "FanNet$Row", name := "insert", desc := "(II)V" } : Jvm.MethodName)) ∈ am_big := am_t3 (List.mem_of_getElem? (i := 129) rfl) rfl
theorem w3_130 : (Jvm.Cond.selects "FanNet$Row" ({ cls := "FanNet$Row", name := "insert", desc := "(II)V" } : Jvm.MethodName) ({ cls := "FanNet$Row", name := "insert", desc := "(II)V" } : Jvm.MethodName)) ∈ am_big := am_t3 (List.mem_of_getElem? (i := 130) rfl) rfl
theorem w3_131 : (Jvm.Cond.code ({ cls := "FanNet$Row", name := "insert", desc := "(II)V" } : Jvm.MethodName) prog_5_method_6_code (3 : Nat) (Option.none : Option Jvm.ClassFile.FieldType)) ∈ am_big := am_t3 (List.mem_of_getElem? (i := 131) rfl) rfl
theorem w4_34 : (Jvm.Cond.methodLink "FanNet$Stacks" (59 : Nat) ({ cls := "FanNet$Row", name := "drop", desc := "(I)V" } : Jvm.MethodName)) ∈ am_big := am_t4 (List.mem_of_getElem? (i := 34) rfl) rfl
theorem w4_35 : (Jvm.Cond.instanceMethod ({ cls := "FanNet$Row", name := "drop", desc := "(I)V" } : Jvm.MethodName)) ∈ am_big := am_t4 (List.mem_of_getElem? (i := 35) rfl) rfl
theorem w4_36 : (Jvm.Cond.selects "FanNet$Row" ({ cls := "FanNet$Row", name := "drop", desc := "(I)V" } : Jvm.MethodName) ({ cls := "FanNet$Row", name := "drop", desc := "(I)V" } : Jvm.MethodName)) ∈ am_big := am_t4 (List.mem_of_getElem? (i := 36) rfl) rfl
theorem w4_37 : (Jvm.Cond.code ({ cls := "FanNet$Row", name := "drop", desc := "(I)V" } : Jvm.MethodName) prog_5_method_7_code (2 : Nat) (Option.none : Option Jvm.ClassFile.FieldType)) ∈ am_big := am_t4 (List.mem_of_getElem? (i := 37) rfl) rfl
theorem w4_57 : (Jvm.Cond.methodLink "FanNet$Stacks" (60 : Nat) ({ cls := "FanNet$Row", name := "add", desc := "(I)Z" } : Jvm.MethodName)) ∈ am_big := am_t4 (List.mem_of_getElem? (i := 57) rfl) rfl
theorem w4_54 : (Jvm.Cond.methodLink "FanNet$Stacks" (64 : Nat) ({ cls := "FanNet$Stacks", name := "undoing", desc := "(III)I" } : Jvm.MethodName)) ∈ am_big := am_t4 (List.mem_of_getElem? (i := 54) rfl) rfl
theorem w4_55 : (Jvm.Cond.static ({ cls := "FanNet$Stacks", name := "undoing", desc := "(III)I" } : Jvm.MethodName)) ∈ am_big := am_t4 (List.mem_of_getElem? (i := 55) rfl) rfl
theorem w4_56 : (Jvm.Cond.code ({ cls := "FanNet$Stacks", name := "undoing", desc := "(III)I" } : Jvm.MethodName) prog_6_method_16_code (3 : Nat) (Option.some Jvm.ClassFile.FieldType.int)) ∈ am_big := am_t4 (List.mem_of_getElem? (i := 56) rfl) rfl
theorem w1_202 : (Jvm.Cond.methodLink "FanNet$Teller" (3 : Nat) ({ cls := "java/lang/Object", name := "<init>", desc := "()V" } : Jvm.MethodName)) ∈ am_big := am_t1 (List.mem_of_getElem? (i := 202) rfl) rfl
theorem w1_203 : (Jvm.Cond.classLink "FanNet$Teller" (9 : Nat) "FanNet$Row") ∈ am_big := am_t1 (List.mem_of_getElem? (i := 203) rfl) rfl
theorem w1_204 : (Jvm.Cond.methodLink "FanNet$Teller" (11 : Nat) ({ cls := "FanNet$Row", name := "<init>", desc := "(II)V" } : Jvm.MethodName)) ∈ am_big := am_t1 (List.mem_of_getElem? (i := 204) rfl) rfl
theorem w1_205 : (Jvm.Cond.fieldLink "FanNet$Teller" (14 : Nat) "FanNet$Teller" "signs" "LFanNet$Row;") ∈ am_big := am_t1 (List.mem_of_getElem? (i := 205) rfl) rfl
theorem w1_206 : (Jvm.Cond.fieldLink "FanNet$Teller" (20 : Nat) "FanNet$Teller" "waiting" "LFanNet$Row;") ∈ am_big := am_t1 (List.mem_of_getElem? (i := 206) rfl) rfl
theorem w2_212 : (Jvm.Cond.methodLink "FanNet$Teller" (23 : Nat) ({ cls := "FanNet$Row", name := "size", desc := "()I" } : Jvm.MethodName)) ∈ am_big := am_t2 (List.mem_of_getElem? (i := 212) rfl) rfl
theorem w2_213 : (Jvm.Cond.methodLink "FanNet$Teller" (27 : Nat) ({ cls := "FanNet$Row", name := "get", desc := "(I)I" } : Jvm.MethodName)) ∈ am_big := am_t2 (List.mem_of_getElem? (i := 213) rfl) rfl
theorem w5_95 : (Jvm.Cond.methodLink "FanNet$Teller" (31 : Nat) ({ cls := "FanNet$Row", name := "cut", desc := "(I)V" } : Jvm.MethodName)) ∈ am_big := am_t5 (List.mem_of_getElem? (i := 95) rfl) rfl
theorem w5_96 : (Jvm.Cond.methodLink "FanNet$Teller" (35 : Nat) ({ cls := "FanNet$Row", name := "add", desc := "(I)Z" } : Jvm.MethodName)) ∈ am_big := am_t5 (List.mem_of_getElem? (i := 96) rfl) rfl
theorem w5_97 : (Jvm.Cond.methodLink "FanNet$Teller" (39 : Nat) ({ cls := "FanNet$Teller", name := "open", desc := "()V" } : Jvm.MethodName)) ∈ am_big := am_t5 (List.mem_of_getElem? (i := 97) rfl) rfl
theorem w5_99 : (Jvm.Cond.instanceMethod ({ cls := "FanNet$Teller", name := "open", desc := "()V" } : Jvm.MethodName)) ∈ am_big := am_t5 (List.mem_of_getElem? (i := 99) rfl) rfl
theorem w0_56 : Cond.selects "FanNet$Teller" (⟨"FanNet$Teller", "open", "()V"⟩ : MethodName) ⟨"FanNet$Teller", "open", "()V"⟩ ∈ am_big := am_t0 (List.mem_of_getElem? (i := 56) rfl) rfl
theorem w1_9 : (Jvm.Cond.initialized "FanNet$Teller") ∈ am_big := am_t1 (List.mem_of_getElem? (i := 9) rfl) rfl
theorem w5_100 : (Jvm.Cond.code ({ cls := "FanNet$Teller", name := "open", desc := "()V" } : Jvm.MethodName) prog_7_method_4_code (1 : Nat) (Option.none : Option Jvm.ClassFile.FieldType)) ∈ am_big := am_t5 (List.mem_of_getElem? (i := 100) rfl) rfl
theorem w5_101 : (Jvm.Cond.methodLink "FanNet$Teller" (42 : Nat) ({ cls := "FanNet$Teller", name := "letter", desc := "(I)I" } : Jvm.MethodName)) ∈ am_big := am_t5 (List.mem_of_getElem? (i := 101) rfl) rfl
theorem w5_102 : (Jvm.Cond.static ({ cls := "FanNet$Teller", name := "letter", desc := "(I)I" } : Jvm.MethodName)) ∈ am_big := am_t5 (List.mem_of_getElem? (i := 102) rfl) rfl
theorem w5_103 : (Jvm.Cond.code ({ cls := "FanNet$Teller", name := "letter", desc := "(I)I" } : Jvm.MethodName) prog_7_method_6_code (1 : Nat) (Option.some Jvm.ClassFile.FieldType.int)) ∈ am_big := am_t5 (List.mem_of_getElem? (i := 103) rfl) rfl
theorem w5_107 : (Jvm.Cond.methodLink "FanNet$Teller" (45 : Nat) ({ cls := "FanNet$Teller", name := "goOn", desc := "(I)I" } : Jvm.MethodName)) ∈ am_big := am_t5 (List.mem_of_getElem? (i := 107) rfl) rfl
theorem w5_109 : (Jvm.Cond.instanceMethod ({ cls := "FanNet$Teller", name := "goOn", desc := "(I)I" } : Jvm.MethodName)) ∈ am_big := am_t5 (List.mem_of_getElem? (i := 109) rfl) rfl
theorem w0_57 : Cond.selects "FanNet$Teller" (⟨"FanNet$Teller", "goOn", "(I)I"⟩ : MethodName) ⟨"FanNet$Teller", "goOn", "(I)I"⟩ ∈ am_big := am_t0 (List.mem_of_getElem? (i := 57) rfl) rfl
theorem w5_110 : (Jvm.Cond.code ({ cls := "FanNet$Teller", name := "goOn", desc := "(I)I" } : Jvm.MethodName) prog_7_method_5_code (4 : Nat) (Option.some Jvm.ClassFile.FieldType.int)) ∈ am_big := am_t5 (List.mem_of_getElem? (i := 110) rfl) rfl
theorem w5_111 : (Jvm.Cond.methodLink "FanNet$Teller" (48 : Nat) ({ cls := "FanNet$Row", name := "takeLast", desc := "()I" } : Jvm.MethodName)) ∈ am_big := am_t5 (List.mem_of_getElem? (i := 111) rfl) rfl
theorem w5_104 : (Jvm.Cond.methodLink "FanNet$Teller" (51 : Nat) ({ cls := "java/lang/Math", name := "floorMod", desc := "(II)I" } : Jvm.MethodName)) ∈ am_big := am_t5 (List.mem_of_getElem? (i := 104) rfl) rfl
theorem w5_105 : (Jvm.Cond.static ({ cls := "java/lang/Math", name := "floorMod", desc := "(II)I" } : Jvm.MethodName)) ∈ am_big := am_t5 (List.mem_of_getElem? (i := 105) rfl) rfl
theorem w5_106 : (Jvm.Cond.code ({ cls := "java/lang/Math", name := "floorMod", desc := "(II)I" } : Jvm.MethodName) prog_17_method_50_code (3 : Nat) (Option.some Jvm.ClassFile.FieldType.int)) ∈ am_big := am_t5 (List.mem_of_getElem? (i := 106) rfl) rfl
theorem w1_56 : (Jvm.Cond.methodLink "FanNet$Text" (3 : Nat) ({ cls := "java/lang/Object", name := "<init>", desc := "()V" } : Jvm.MethodName)) ∈ am_big := am_t1 (List.mem_of_getElem? (i := 56) rfl) rfl
theorem w1_57 : (Jvm.Cond.classLink "FanNet$Text" (9 : Nat) "FanNet$Row") ∈ am_big := am_t1 (List.mem_of_getElem? (i := 57) rfl) rfl
theorem w1_58 : (Jvm.Cond.methodLink "FanNet$Text" (11 : Nat) ({ cls := "FanNet$Row", name := "<init>", desc := "(II)V" } : Jvm.MethodName)) ∈ am_big := am_t1 (List.mem_of_getElem? (i := 58) rfl) rfl
theorem w1_79 : (Jvm.Cond.fieldLink "FanNet$Text" (14 : Nat) "FanNet$Text" "code" "LFanNet$Row;") ∈ am_big := am_t1 (List.mem_of_getElem? (i := 79) rfl) rfl
theorem w1_80 : (Jvm.Cond.fieldLink "FanNet$Text" (20 : Nat) "FanNet$Text" "names" "LFanNet$Row;") ∈ am_big := am_t1 (List.mem_of_getElem? (i := 80) rfl) rfl
theorem w1_81 : (Jvm.Cond.fieldLink "FanNet$Text" (23 : Nat) "FanNet$Text" "around" "LFanNet$Row;") ∈ am_big := am_t1 (List.mem_of_getElem? (i := 81) rfl) rfl
theorem w1_82 : (Jvm.Cond.fieldLink "FanNet$Text" (26 : Nat) "FanNet$Text" "open" "LFanNet$Row;") ∈ am_big := am_t1 (List.mem_of_getElem? (i := 82) rfl) rfl
theorem w1_83 : (Jvm.Cond.fieldLink "FanNet$Text" (29 : Nat) "FanNet$Text" "backs" "LFanNet$Row;") ∈ am_big := am_t1 (List.mem_of_getElem? (i := 83) rfl) rfl
theorem w1_84 : (Jvm.Cond.fieldLink "FanNet$Text" (32 : Nat) "FanNet$Text" "state" "I") ∈ am_big := am_t1 (List.mem_of_getElem? (i := 84) rfl) rfl
theorem w1_85 : (Jvm.Cond.fieldLink "FanNet$Text" (36 : Nat) "FanNet$Text" "chain" "I") ∈ am_big := am_t1 (List.mem_of_getElem? (i := 85) rfl) rfl
theorem w1_86 : (Jvm.Cond.fieldLink "FanNet$Text" (39 : Nat) "FanNet$Text" "atoms" "I") ∈ am_big := am_t1 (List.mem_of_getElem? (i := 86) rfl) rfl
theorem w1_87 : (Jvm.Cond.fieldLink "FanNet$Text" (42 : Nat) "FanNet$Text" "codeStart" "I") ∈ am_big := am_t1 (List.mem_of_getElem? (i := 87) rfl) rfl
theorem w1_88 : (Jvm.Cond.fieldLink "FanNet$Text" (45 : Nat) "FanNet$Text" "told" "I") ∈ am_big := am_t1 (List.mem_of_getElem? (i := 88) rfl) rfl
theorem w1_89 : (Jvm.Cond.fieldLink "FanNet$Text" (48 : Nat) "FanNet$Text" "naming" "Z") ∈ am_big := am_t1 (List.mem_of_getElem? (i := 89) rfl) rfl
theorem w1_59 : (Jvm.Cond.classLink "FanNet$Text" (52 : Nat) "FanNet$Tokens") ∈ am_big := am_t1 (List.mem_of_getElem? (i := 59) rfl) rfl
theorem w1_60 : (Jvm.Cond.instantiable "FanNet$Tokens" (4 : Nat)) ∈ am_big := am_t1 (List.mem_of_getElem? (i := 60) rfl) rfl
theorem w1_5 : (Jvm.Cond.initialized "FanNet$Tokens") ∈ am_big := am_t1 (List.mem_of_getElem? (i := 5) rfl) rfl
theorem w1_63 : (Jvm.Cond.code ({ cls := "FanNet$Tokens", name := "<init>", desc := "(LFanNet$Row;)V" } : Jvm.MethodName) prog_9_method_1_code (2 : Nat) (Option.none : Option Jvm.ClassFile.FieldType)) ∈ am_big := am_t1 (List.mem_of_getElem? (i := 63) rfl) rfl
theorem w1_61 : (Jvm.Cond.methodLink "FanNet$Text" (54 : Nat) ({ cls := "FanNet$Tokens", name := "<init>", desc := "(LFanNet$Row;)V" } : Jvm.MethodName)) ∈ am_big := am_t1 (List.mem_of_getElem? (i := 61) rfl) rfl
theorem w1_62 : (Jvm.Cond.instanceMethod ({ cls := "FanNet$Tokens", name := "<init>", desc := "(LFanNet$Row;)V" } : Jvm.MethodName)) ∈ am_big := am_t1 (List.mem_of_getElem? (i := 62) rfl) rfl
theorem w1_78 : (Jvm.Cond.fieldLink "FanNet$Text" (57 : Nat) "FanNet$Text" "tokens" "LFanNet$Tokens;") ∈ am_big := am_t1 (List.mem_of_getElem? (i := 78) rfl) rfl
theorem w3_94 : (Jvm.Cond.methodLink "FanNet$Text" (61 : Nat) ({ cls := "FanNet$Tokens", name := "start", desc := "()I" } : Jvm.MethodName)) ∈ am_big := am_t3 (List.mem_of_getElem? (i := 94) rfl) rfl
theorem w3_95 : (Jvm.Cond.instanceMethod ({ cls := "FanNet$Tokens", name := "start", desc := "()I" } : Jvm.MethodName)) ∈ am_big := am_t3 (List.mem_of_getElem? (i := 95) rfl) rfl
theorem w3_96 : (Jvm.Cond.selects "FanNet$Tokens" ({ cls := "FanNet$Tokens", name := "start", desc := "()I" } : Jvm.MethodName) ({ cls := "FanNet$Tokens", name := "start", desc := "()I" } : Jvm.MethodName)) ∈ am_big := am_t3 (List.mem_of_getElem? (i := 96) rfl) rfl
theorem w3_97 : (Jvm.Cond.code ({ cls := "FanNet$Tokens", name := "start", desc := "()I" } : Jvm.MethodName) prog_9_method_4_code (1 : Nat) (Option.some Jvm.ClassFile.FieldType.int)) ∈ am_big := am_t3 (List.mem_of_getElem? (i := 97) rfl) rfl
theorem w3_54 : (Jvm.Cond.methodLink "FanNet$Text" (65 : Nat) ({ cls := "FanNet$Tokens", name := "begin", desc := "()V" } : Jvm.MethodName)) ∈ am_big := am_t3 (List.mem_of_getElem? (i := 54) rfl) rfl
theorem w3_55 : (Jvm.Cond.instanceMethod ({ cls := "FanNet$Tokens", name := "begin", desc := "()V" } : Jvm.MethodName)) ∈ am_big := am_t3 (List.mem_of_getElem? (i := 55) rfl) rfl
theorem w3_56 : (Jvm.Cond.selects "FanNet$Tokens" ({ cls := "FanNet$Tokens", name := "begin", desc := "()V" } : Jvm.MethodName) ({ cls := "FanNet$Tokens", name := "begin", desc := "()V" } : Jvm.MethodName)) ∈ am_big := am_t3 (List.mem_of_getElem? (i := 56) rfl) rfl
theorem w3_57 : (Jvm.Cond.code ({ cls := "FanNet$Tokens", name := "begin", desc := "()V" } : Jvm.MethodName) prog_9_method_2_code (1 : Nat) (Option.none : Option Jvm.ClassFile.FieldType)) ∈ am_big := am_t3 (List.mem_of_getElem? (i := 57) rfl) rfl
theorem w3_58 : (Jvm.Cond.methodLink "FanNet$Text" (68 : Nat) ({ cls := "FanNet$Row", name := "cut", desc := "(I)V" } : Jvm.MethodName)) ∈ am_big := am_t3 (List.mem_of_getElem? (i := 58) rfl) rfl
theorem w3_59 : (Jvm.Cond.methodLink "FanNet$Text" (72 : Nat) ({ cls := "FanNet$Text", name := "beginItem", desc := "()V" } : Jvm.MethodName)) ∈ am_big := am_t3 (List.mem_of_getElem? (i := 59) rfl) rfl
theorem w3_61 : (Jvm.Cond.instanceMethod ({ cls := "FanNet$Text", name := "beginItem", desc := "()V" } : Jvm.MethodName)) ∈ am_big := am_t3 (List.mem_of_getElem? (i := 61) rfl) rfl
theorem w0_10 : Cond.selects "FanNet$Text" (⟨"FanNet$Text", "beginItem", "()V"⟩ : MethodName) ⟨"FanNet$Text", "beginItem", "()V"⟩ ∈ am_big := am_t0 (List.mem_of_getElem? (i := 10) rfl) rfl
theorem w1_4 : (Jvm.Cond.initialized "FanNet$Text") ∈ am_big := am_t1 (List.mem_of_getElem? (i := 4) rfl) rfl
theorem w3_62 : (Jvm.Cond.code ({ cls := "FanNet$Text", name := "beginItem", desc := "()V" } : Jvm.MethodName) prog_8_method_19_code (1 : Nat) (Option.none : Option Jvm.ClassFile.FieldType)) ∈ am_big := am_t3 (List.mem_of_getElem? (i := 62) rfl) rfl
theorem w3_64 : (Jvm.Cond.methodLink "FanNet$Text" (75 : Nat) ({ cls := "FanNet$Tokens", name := "advance", desc := "()V" } : Jvm.MethodName)) ∈ am_big := am_t3 (List.mem_of_getElem? (i := 64) rfl) rfl
theorem w3_65 : (Jvm.Cond.instanceMethod ({ cls := "FanNet$Tokens", name := "advance", desc := "()V" } : Jvm.MethodName)) ∈ am_big := am_t3 (List.mem_of_getElem? (i := 65) rfl) rfl
theorem w3_66 : (Jvm.Cond.selects "FanNet$Tokens" ({ cls := "FanNet$Tokens", name := "advance", desc := "()V" } : Jvm.MethodName) ({ cls := "FanNet$Tokens", name := "advance", desc := "()V" } : Jvm.MethodName)) ∈ am_big := am_t3 (List.mem_of_getElem? (i := 66) rfl) rfl
theorem w3_67 : (Jvm.Cond.code ({ cls := "FanNet$Tokens", name := "advance", desc := "()V" } : Jvm.MethodName) prog_9_method_7_code (1 : Nat) (Option.none : Option Jvm.ClassFile.FieldType)) ∈ am_big := am_t3 (List.mem_of_getElem? (i := 67) rfl) rfl
theorem w3_78 : (Jvm.Cond.methodLink "FanNet$Text" (78 : Nat) ({ cls := "FanNet$Text", name := "take", desc := "()I" } : Jvm.MethodName)) ∈ am_big := am_t3 (List.mem_of_getElem? (i := 78) rfl) rfl
theorem w3_80 : (Jvm.Cond.instanceMethod ({ cls := "FanNet$Text", name := "take", desc := "()I" } : Jvm.MethodName)) ∈ am_big := am_t3 (List.mem_of_getElem? (i := 80) rfl) rfl
theorem w0_13 : Cond.selects "FanNet$Text" (⟨"FanNet$Text", "take", "()I"⟩ : MethodName) ⟨"FanNet$Text", "take", "()I"⟩ ∈ am_big := am_t0 (List.mem_of_getElem? (i := 13) rfl) rfl
theorem w3_81 : (Jvm.Cond.code ({ cls := "FanNet$Text", name := "take", desc := "()I" } : Jvm.MethodName) prog_8_method_7_code (1 : Nat) (Option.some Jvm.ClassFile.FieldType.int)) ∈ am_big := am_t3 (List.mem_of_getElem? (i := 81) rfl) rfl
theorem w3_82 : (Jvm.Cond.methodLink "FanNet$Text" (81 : Nat) ({ cls := "FanNet$Tokens", name := "sort", desc := "()I" } : Jvm.MethodName)) ∈ am_big := am_t3 (List.mem_of_getElem? (i := 82) rfl) rfl
theorem w3_83 : (Jvm.Cond.instanceMethod ({ cls := "FanNet$Tokens", name := "sort", desc := "()I" } : Jvm.MethodName)) ∈ am_big := am_t3 (List.mem_of_getElem? (i := 83) rfl) rfl
theorem w3_84 : (Jvm.Cond.selects "FanNet$Tokens" ({ cls := "FanNet$Tokens", name := "sort", desc := "()I" } : Jvm.MethodName) ({ cls := "FanNet$Tokens", name := "sort", desc := "()I" } : Jvm.MethodName)) ∈ am_big := am_t3 (List.mem_of_getElem? (i := 84) rfl) rfl
theorem w3_85 : (Jvm.Cond.code ({ cls := "FanNet$Tokens", name := "sort", desc := "()I" } : Jvm.MethodName) prog_9_method_3_code (1 : Nat) (Option.some Jvm.ClassFile.FieldType.int)) ∈ am_big := am_t3 (List.mem_of_getElem? (i := 85) rfl) rfl
theorem w3_63 : (Jvm.Cond.methodLink "FanNet$Text" (84 : Nat) ({ cls := "FanNet$Row", name := "size", desc := "()I" } : Jvm.MethodName)) ∈ am_big := am_t3 (List.mem_of_getElem? (i := 63) rfl) rfl
theorem w3_171 : (Jvm.Cond.methodLink "FanNet$Text" (87 : Nat) ({ cls := "FanNet$Text", name := "partsOf", desc := "(II)I" } : Jvm.MethodName)) ∈ am_big := am_t3 (List.mem_of_getElem? (i := 171) rfl) rfl
theorem w3_173 : (Jvm.Cond.instanceMethod ({ cls := "FanNet$Text", name := "partsOf", desc := "(II)I" } : Jvm.MethodName)) ∈ am_big := am_t3 (List.mem_of_getElem? (i := 173) rfl) rfl
theorem w0_28 : Cond.selects "FanNet$Text" (⟨"FanNet$Text", "partsOf", "(II)I"⟩ : MethodName) ⟨"FanNet$Text", "partsOf", "(II)I"⟩ ∈ am_big := am_t0 (List.mem_of_getElem? (i := 28) rfl) rfl
theorem w3_174 : (Jvm.Cond.code ({ cls := "FanNet$Text", name := "partsOf", desc := "(II)I" } : Jvm.MethodName) prog_8_method_6_code (6 : Nat) (Option.some Jvm.ClassFile.FieldType.int)) ∈ am_big := am_t3 (List.mem_of_getElem? (i := 174) rfl) rfl
theorem w3_153 : (Jvm.Cond.methodLink "FanNet$Text" (91 : Nat) ({ cls := "FanNet$Row", name := "takeLast", desc := "()I" } : Jvm.MethodName)) ∈ am_big := am_t3 (List.mem_of_getElem? (i := 153) rfl) rfl
theorem w3_107 : (Jvm.Cond.methodLink "FanNet$Text" (94 : Nat) ({ cls := "FanNet$Row", name := "get", desc := "(I)I" } : Jvm.MethodName)) ∈ am_big := am_t3 (List.mem_of_getElem? (i := 107) rfl) rfl
theorem w3_102 : (Jvm.Cond.methodLink "FanNet$Text" (98 : Nat) ({ cls := "FanNet$Row", name := "add", desc := "(I)Z" } : Jvm.MethodName)) ∈ am_big := am_t3 (List.mem_of_getElem? (i := 102) rfl) rfl
theorem w3_187 : (Jvm.Cond.methodLink "FanNet$Text" (102 : Nat) ({ cls := "FanNet$Text", name := "putNumber", desc := "(ILFanNet$Row;)V" } : Jvm.MethodName)) ∈ am_big := am_t3 (List.mem_of_getElem? (i := 187) rfl) rfl
theorem w3_188 : (Jvm.Cond.static ({ cls := "FanNet$Text", name := "putNumber", desc := "(ILFanNet$Row;)V" } : Jvm.MethodName)) ∈ am_big := am_t3 (List.mem_of_getElem? (i := 188) rfl) rfl
theorem w3_189 : (Jvm.Cond.code ({ cls := "FanNet$Text", name := "putNumber", desc := "(ILFanNet$Row;)V" } : Jvm.MethodName) prog_8_method_5_code (3 : Nat) (Option.none : Option Jvm.ClassFile.FieldType)) ∈ am_big := am_t3 (List.mem_of_getElem? (i := 189) rfl) rfl
theorem w3_86 : (Jvm.Cond.methodLink "FanNet$Text" (106 : Nat) ({ cls := "FanNet$Text", name := "takeWord", desc := "()I" } : Jvm.MethodName)) ∈ am_big := am_t3 (List.mem_of_getElem? (i := 86) rfl) rfl
theorem w3_88 : (Jvm.Cond.instanceMethod ({ cls := "FanNet$Text", name := "takeWord", desc := "()I" } : Jvm.MethodName)) ∈ am_big := am_t3 (List.mem_of_getElem? (i := 88) rfl) rfl
theorem w0_14 : Cond.selects "FanNet$Text" (⟨"FanNet$Text", "takeWord", "()I"⟩ : MethodName) ⟨"FanNet$Text", "takeWord", "()I"⟩ ∈ am_big := am_t0 (List.mem_of_getElem? (i := 14) rfl) rfl
theorem w3_89 : (Jvm.Cond.code ({ cls := "FanNet$Text", name := "takeWord", desc := "()I" } : Jvm.MethodName) prog_8_method_8_code (3 : Nat) (Option.some Jvm.ClassFile.FieldType.int)) ∈ am_big := am_t3 (List.mem_of_getElem? (i := 89) rfl) rfl
theorem w3_133 : (Jvm.Cond.methodLink "FanNet$Text" (109 : Nat) ({ cls := "FanNet$Text", name := "takeNumber", desc := "()I" } : Jvm.MethodName)) ∈ am_big := am_t3 (List.mem_of_getElem? (i := 133) rfl) rfl
theorem w3_135 : (Jvm.Cond.instanceMethod ({ cls := "FanNet$Text", name := "takeNumber", desc := "()I" } : Jvm.MethodName)) ∈ am_big := am_t3 (List.mem_of_getElem? (i := 135) rfl) rfl
theorem w0_20 : Cond.selects "FanNet$Text" (⟨"FanNet$Text", "takeNumber", "()I"⟩ : MethodName) ⟨"FanNet$Text", "takeNumber", "()I"⟩ ∈ am_big := am_t0 (List.mem_of_getElem? (i := 20) rfl) rfl
theorem w3_136 : (Jvm.Cond.code ({ cls := "FanNet$Text", name := "takeNumber", desc := "()I" } : Jvm.MethodName) prog_8_method_13_code (1 : Nat) (Option.some Jvm.ClassFile.FieldType.int)) ∈ am_big := am_t3 (List.mem_of_getElem? (i := 136) rfl) rfl
theorem w3_145 : (Jvm.Cond.methodLink "FanNet$Text" (112 : Nat) ({ cls := "FanNet$Text", name := "takeOpening", desc := "()I" } : Jvm.MethodName)) ∈ am_big := am_t3 (List.mem_of_getElem? (i := 145) rfl) rfl
theorem w3_147 : (Jvm.Cond.instanceMethod ({ cls := "FanNet$Text", name := "takeOpening", desc := "()I" } : Jvm.MethodName)) ∈ am_big := am_t3 (List.mem_of_getElem? (i := 147) rfl) rfl
theorem w0_22 : Cond.selects "FanNet$Text" (⟨"FanNet$Text", "takeOpening", "()I"⟩ : MethodName) ⟨"FanNet$Text", "takeOpening", "()I"⟩ ∈ am_big := am_t0 (List.mem_of_getElem? (i := 22) rfl) rfl
theorem w3_148 : (Jvm.Cond.code ({ cls := "FanNet$Text", name := "takeOpening", desc := "()I" } : Jvm.MethodName) prog_8_method_14_code (1 : Nat) (Option.some Jvm.ClassFile.FieldType.int)) ∈ am_big := am_t3 (List.mem_of_getElem? (i := 148) rfl) rfl
theorem w3_149 : (Jvm.Cond.methodLink "FanNet$Text" (115 : Nat) ({ cls := "FanNet$Text", name := "takeClosing", desc := "()I" } : Jvm.MethodName)) ∈ am_big := am_t3 (List.mem_of_getElem? (i := 149) rfl) rfl
theorem w3_151 : (Jvm.Cond.instanceMethod ({ cls := "FanNet$Text", name := "takeClosing", desc := "()I" } : Jvm.MethodName)) ∈ am_big := am_t3 (List.mem_of_getElem? (i := 151) rfl) rfl
theorem w0_23 : Cond.selects "FanNet$Text" (⟨"FanNet$Text", "takeClosing", "()I"⟩ : MethodName) ⟨"FanNet$Text", "takeClosing", "()I"⟩ ∈ am_big := am_t0 (List.mem_of_getElem? (i := 23) rfl) rfl
theorem w3_152 : (Jvm.Cond.code ({ cls := "FanNet$Text", name := "takeClosing", desc := "()I" } : Jvm.MethodName) prog_8_method_15_code (1 : Nat) (Option.some Jvm.ClassFile.FieldType.int)) ∈ am_big := am_t3 (List.mem_of_getElem? (i := 152) rfl) rfl
theorem w3_154 : (Jvm.Cond.methodLink "FanNet$Text" (118 : Nat) ({ cls := "FanNet$Text", name := "takeFunction", desc := "()I" } : Jvm.MethodName)) ∈ am_big := am_t3 (List.mem_of_getElem? (i := 154) rfl) rfl
theorem w3_156 : (Jvm.Cond.instanceMethod ({ cls := "FanNet$Text", name := "takeFunction", desc := "()I" } : Jvm.MethodName)) ∈ am_big := am_t3 (List.mem_of_getElem? (i := 156) rfl) rfl
theorem w0_24 : Cond.selects "FanNet$Text" (⟨"FanNet$Text", "takeFunction", "()I"⟩ : MethodName) ⟨"FanNet$Text", "takeFunction", "()I"⟩ ∈ am_big := am_t0 (List.mem_of_getElem? (i := 24) rfl) rfl
theorem w3_157 : (Jvm.Cond.code ({ cls := "FanNet$Text", name := "takeFunction", desc := "()I" } : Jvm.MethodName) prog_8_method_16_code (1 : Nat) (Option.some Jvm.ClassFile.FieldType.int)) ∈ am_big := am_t3 (List.mem_of_getElem? (i := 157) rfl) rfl
theorem w3_158 : (Jvm.Cond.methodLink "FanNet$Text" (121 : Nat) ({ cls := "FanNet$Text", name := "takePoint", desc := "()I" } : Jvm.MethodName)) ∈ am_big := am_t3 (List.mem_of_getElem? (i := 158) rfl) rfl
theorem w3_160 : (Jvm.Cond.instanceMethod ({ cls := "FanNet$Text", name := "takePoint", desc := "()I" } : Jvm.MethodName)) ∈ am_big := am_t3 (List.mem_of_getElem? (i := 160) rfl) rfl
theorem w0_25 : Cond.selects "FanNet$Text" (⟨"FanNet$Text", "takePoint", "()I"⟩ : MethodName) ⟨"FanNet$Text", "takePoint", "()I"⟩ ∈ am_big := am_t0 (List.mem_of_getElem? (i := 25) rfl) rfl
theorem w3_161 : (Jvm.Cond.code ({ cls := "FanNet$Text", name := "takePoint", desc := "()I" } : Jvm.MethodName) prog_8_method_17_code (1 : Nat) (Option.some Jvm.ClassFile.FieldType.int)) ∈ am_big := am_t3 (List.mem_of_getElem? (i := 161) rfl) rfl
theorem w3_162 : (Jvm.Cond.methodLink "FanNet$Text" (124 : Nat) ({ cls := "FanNet$Text", name := "takeSemicolon", desc := "()I" } : Jvm.MethodName)) ∈ am_big := am_t3 (List.mem_of_getElem? (i := 162) rfl) rfl
theorem w3_164 : (Jvm.Cond.instanceMethod ({ cls := "FanNet$Text", name := "takeSemicolon", desc := "()I" } : Jvm.MethodName)) ∈ am_big := am_t3 (List.mem_of_getElem? (i := 164) rfl) rfl
theorem w0_26 : Cond.selects "FanNet$Text" (⟨"FanNet$Text", "takeSemicolon", "()I"⟩ : MethodName) ⟨"FanNet$Text", "takeSemicolon", "()I"⟩ ∈ am_big := am_t0 (List.mem_of_getElem? (i := 26) rfl) rfl
theorem w3_165 : (Jvm.Cond.code ({ cls := "FanNet$Text", name := "takeSemicolon", desc := "()I" } : Jvm.MethodName) prog_8_method_18_code (2 : Nat) (Option.some Jvm.ClassFile.FieldType.int)) ∈ am_big := am_t3 (List.mem_of_getElem? (i := 165) rfl) rfl
theorem w3_166 : (Jvm.Cond.methodLink "FanNet$Text" (127 : Nat) ({ cls := "FanNet$Text", name := "isWhole", desc := "()Z" } : Jvm.MethodName)) ∈ am_big := am_t3 (List.mem_of_getElem? (i := 166) rfl) rfl
theorem w3_168 : (Jvm.Cond.instanceMethod ({ cls := "FanNet$Text", name := "isWhole", desc := "()Z" } : Jvm.MethodName)) ∈ am_big := am_t3 (List.mem_of_getElem? (i := 168) rfl) rfl
theorem w0_27 : Cond.selects "FanNet$Text" (⟨"FanNet$Text", "isWhole", "()Z"⟩ : MethodName) ⟨"FanNet$Text", "isWhole", "()Z"⟩ ∈ am_big := am_t0 (List.mem_of_getElem? (i := 27) rfl) rfl
theorem w3_169 : (Jvm.Cond.code ({ cls := "FanNet$Text", name := "isWhole", desc := "()Z" } : Jvm.MethodName) prog_8_method_21_code (1 : Nat) (Option.some Jvm.ClassFile.FieldType.boolean)) ∈ am_big := am_t3 (List.mem_of_getElem? (i := 169) rfl) rfl
theorem w3_90 : (Jvm.Cond.methodLink "FanNet$Text" (131 : Nat) ({ cls := "FanNet$Tokens", name := "end", desc := "()I" } : Jvm.MethodName)) ∈ am_big := am_t3 (List.mem_of_getElem? (i := 90) rfl) rfl
theorem w3_91 : (Jvm.Cond.instanceMethod ({ cls := "FanNet$Tokens", name := "end", desc := "()I" } : Jvm.MethodName)) ∈ am_big := am_t3 (List.mem_of_getElem? (i := 91) rfl) rfl
theorem w3_92 : (Jvm.Cond.selects "FanNet$Tokens" ({ cls := "FanNet$Tokens", name := "end", desc := "()I" } : Jvm.MethodName) ({ cls := "FanNet$Tokens", name := "end", desc := "()I" } : Jvm.MethodName)) ∈ am_big := am_t3 (List.mem_of_getElem? (i := 92) rfl) rfl
theorem w3_93 : (Jvm.Cond.code ({ cls := "FanNet$Tokens", name := "end", desc := "()I" } : Jvm.MethodName) prog_9_method_5_code (1 : Nat) (Option.some Jvm.ClassFile.FieldType.int)) ∈ am_big := am_t3 (List.mem_of_getElem? (i := 93) rfl) rfl
theorem w3_98 : (Jvm.Cond.methodLink "FanNet$Text" (134 : Nat) ({ cls := "FanNet$Text", name := "takeFunctionName", desc := "()I" } : Jvm.MethodName)) ∈ am_big := am_t3 (List.mem_of_getElem? (i := 98) rfl) rfl
theorem w3_100 : (Jvm.Cond.instanceMethod ({ cls := "FanNet$Text", name := "takeFunctionName", desc := "()I" } : Jvm.MethodName)) ∈ am_big := am_t3 (List.mem_of_getElem? (i := 100) rfl) rfl
theorem w0_15 : Cond.selects "FanNet$Text" (⟨"FanNet$Text", "takeFunctionName", "()I"⟩ : MethodName) ⟨"FanNet$Text", "takeFunctionName", "()I"⟩ ∈ am_big := am_t0 (List.mem_of_getElem? (i := 15) rfl) rfl
theorem w3_101 : (Jvm.Cond.code ({ cls := "FanNet$Text", name := "takeFunctionName", desc := "()I" } : Jvm.MethodName) prog_8_method_10_code (1 : Nat) (Option.some Jvm.ClassFile.FieldType.int)) ∈ am_big := am_t3 (List.mem_of_getElem? (i := 101) rfl) rfl
theorem w3_103 : (Jvm.Cond.methodLink "FanNet$Text" (137 : Nat) ({ cls := "FanNet$Text", name := "nameOfWord", desc := "()I" } : Jvm.MethodName)) ∈ am_big := am_t3 (List.mem_of_getElem? (i := 103) rfl) rfl
theorem w3_105 : (Jvm.Cond.instanceMethod ({ cls := "FanNet$Text", name := "nameOfWord", desc := "()I" } : Jvm.MethodName)) ∈ am_big := am_t3 (List.mem_of_getElem? (i := 105) rfl) rfl
theorem w0_16 : Cond.selects "FanNet$Text" (⟨"FanNet$Text", "nameOfWord", "()I"⟩ : MethodName) ⟨"FanNet$Text", "nameOfWord", "()I"⟩ ∈ am_big := am_t0 (List.mem_of_getElem? (i := 16) rfl) rfl
theorem w3_106 : (Jvm.Cond.code ({ cls := "FanNet$Text", name := "nameOfWord", desc := "()I" } : Jvm.MethodName) prog_8_method_12_code (2 : Nat) (Option.some Jvm.ClassFile.FieldType.int)) ∈ am_big := am_t3 (List.mem_of_getElem? (i := 106) rfl) rfl
theorem w3_112 : (Jvm.Cond.methodLink "FanNet$Text" (140 : Nat) ({ cls := "FanNet$Tokens", name := "equalsSignIsNext", desc := "()Z" } : Jvm.MethodName)) ∈ am_big := am_t3 (List.mem_of_getElem? (i := 112) rfl) rfl
theorem w3_113 : (Jvm.Cond.instanceMethod ({ cls := "FanNet$Tokens", name := "equalsSignIsNext", desc := "()Z" } : Jvm.MethodName)) ∈ am_big := am_t3 (List.mem_of_getElem? (i := 113) rfl) rfl
theorem w3_114 : (Jvm.Cond.selects "FanNet$Tokens" ({ cls := "FanNet$Tokens", name := "equalsSignIsNext", desc := "()Z" } : Jvm.MethodName) ({ cls := "FanNet$Tokens", name := "equalsSignIsNext", desc := "()Z" } : Jvm.MethodName)) ∈ am_big := am_t3 (List.mem_of_getElem? (i := 114) rfl) rfl
theorem w3_115 : (Jvm.Cond.code ({ cls := "FanNet$Tokens", name := "equalsSignIsNext", desc := "()Z" } : Jvm.MethodName) prog_9_method_8_code (1 : Nat) (Option.some Jvm.ClassFile.FieldType.boolean)) ∈ am_big := am_t3 (List.mem_of_getElem? (i := 115) rfl) rfl
theorem w3_116 : (Jvm.Cond.methodLink "FanNet$Text" (143 : Nat) ({ cls := "FanNet$Text", name := "takeNewName", desc := "(Z)I" } : Jvm.MethodName)) ∈ am_big := am_t3 (List.mem_of_getElem? (i := 116) rfl) rfl
theorem w3_118 : (Jvm.Cond.instanceMethod ({ cls := "FanNet$Text", name := "takeNewName", desc := "(Z)I" } : Jvm.MethodName)) ∈ am_big := am_t3 (List.mem_of_getElem? (i := 118) rfl) rfl
theorem w0_17 : Cond.selects "FanNet$Text" (⟨"FanNet$Text", "takeNewName", "(Z)I"⟩ : MethodName) ⟨"FanNet$Text", "takeNewName", "(Z)I"⟩ ∈ am_big := am_t0 (List.mem_of_getElem? (i := 17) rfl) rfl
theorem w3_119 : (Jvm.Cond.code ({ cls := "FanNet$Text", name := "takeNewName", desc := "(Z)I" } : Jvm.MethodName) prog_8_method_9_code (2 : Nat) (Option.some Jvm.ClassFile.FieldType.int)) ∈ am_big := am_t3 (List.mem_of_getElem? (i := 119) rfl) rfl
theorem w3_120 : (Jvm.Cond.methodLink "FanNet$Text" (147 : Nat) ({ cls := "FanNet$Text", name := "functionOfWord", desc := "()I" } : Jvm.MethodName)) ∈ am_big := am_t3 (List.mem_of_getElem? (i := 120) rfl) rfl
theorem w3_122 : (Jvm.Cond.instanceMethod ({ cls := "FanNet$Text", name := "functionOfWord", desc := "()I" } : Jvm.MethodName)) ∈ am_big := am_t3 (List.mem_of_getElem? (i := 122) rfl) rfl
theorem w0_18 : Cond.selects "FanNet$Text" (⟨"FanNet$Text", "functionOfWord", "()I"⟩ : MethodName) ⟨"FanNet$Text", "functionOfWord", "()I"⟩ ∈ am_big := am_t0 (List.mem_of_getElem? (i := 18) rfl) rfl
theorem w3_123 : (Jvm.Cond.code ({ cls := "FanNet$Text", name := "functionOfWord", desc := "()I" } : Jvm.MethodName) prog_8_method_11_code (3 : Nat) (Option.some Jvm.ClassFile.FieldType.int)) ∈ am_big := am_t3 (List.mem_of_getElem? (i := 123) rfl) rfl
theorem w3_124 : (Jvm.Cond.methodLink "FanNet$Text" (150 : Nat) ({ cls := "FanNet$Text", name := "beginAtom", desc := "()V" } : Jvm.MethodName)) ∈ am_big := am_t3 (List.mem_of_getElem? (i := 124) rfl) rfl
theorem w3_126 : (Jvm.Cond.instanceMethod ({ cls := "FanNet$Text", name := "beginAtom", desc := "()V" } : Jvm.MethodName)) ∈ am_big := am_t3 (List.mem_of_getElem? (i := 126) rfl) rfl
theorem w0_19 : Cond.selects "FanNet$Text" (⟨"FanNet$Text", "beginAtom", "()V"⟩ : MethodName) ⟨"FanNet$Text", "beginAtom", "()V"⟩ ∈ am_big := am_t0 (List.mem_of_getElem? (i := 19) rfl) rfl
theorem w3_127 : (Jvm.Cond.code ({ cls := "FanNet$Text", name := "beginAtom", desc := "()V" } : Jvm.MethodName) prog_8_method_22_code (1 : Nat) (Option.none : Option Jvm.ClassFile.FieldType)) ∈ am_big := am_t3 (List.mem_of_getElem? (i := 127) rfl) rfl
theorem w3_108 : (Jvm.Cond.methodLink "FanNet$Text" (153 : Nat) ({ cls := "FanNet$Tokens", name := "isWord", desc := "(II)Z" } : Jvm.MethodName)) ∈ am_big := am_t3 (List.mem_of_getElem? (i := 108) rfl) rfl
theorem w3_109 : (Jvm.Cond.instanceMethod ({ cls := "FanNet$Tokens", name := "isWord", desc := "(II)Z" } : Jvm.MethodName)) ∈ am_big := am_t3 (List.mem_of_getElem? (i := 109) rfl) rfl
theorem w3_110 : (Jvm.Cond.selects "FanNet$Tokens" ({ cls := "FanNet$Tokens", name := "isWord", desc := "(II)Z" } : Jvm.MethodName) ({ cls := "FanNet$Tokens", name := "isWord", desc := "(II)Z" } : Jvm.MethodName)) ∈ am_big := am_t3 (List.mem_of_getElem? (i := 110) rfl) rfl
theorem w3_111 : (Jvm.Cond.code ({ cls := "FanNet$Tokens", name := "isWord", desc := "(II)Z" } : Jvm.MethodName) prog_9_method_9_code (4 : Nat) (Option.some Jvm.ClassFile.FieldType.boolean)) ∈ am_big := am_t3 (List.mem_of_getElem? (i := 111) rfl) rfl
theorem w3_137 : (Jvm.Cond.methodLink "FanNet$Text" (157 : Nat) ({ cls := "FanNet$Text", name := "isAtomDue", desc := "()Z" } : Jvm.MethodName)) ∈ am_big := am_t3 (List.mem_of_getElem? (i := 137) rfl) rfl
theorem w3_139 : (Jvm.Cond.instanceMethod ({ cls := "FanNet$Text", name := "isAtomDue", desc := "()Z" } : Jvm.MethodName)) ∈ am_big := am_t3 (List.mem_of_getElem? (i := 139) rfl) rfl
theorem w0_21 : Cond.selects "FanNet$Text" (⟨"FanNet$Text", "isAtomDue", "()Z"⟩ : MethodName) ⟨"FanNet$Text", "isAtomDue", "()Z"⟩ ∈ am_big := am_t0 (List.mem_of_getElem? (i := 21) rfl) rfl
theorem w3_140 : (Jvm.Cond.code ({ cls := "FanNet$Text", name := "isAtomDue", desc := "()Z" } : Jvm.MethodName) prog_8_method_20_code (1 : Nat) (Option.some Jvm.ClassFile.FieldType.boolean)) ∈ am_big := am_t3 (List.mem_of_getElem? (i := 140) rfl) rfl
theorem w3_141 : (Jvm.Cond.methodLink "FanNet$Text" (160 : Nat) ({ cls := "FanNet$Tokens", name := "figure", desc := "()I" } : Jvm.MethodName)) ∈ am_big := am_t3 (List.mem_of_getElem? (i := 141) rfl) rfl
theorem w3_142 : (Jvm.Cond.instanceMethod ({ cls := "FanNet$Tokens", name := "figure", desc := "()I" } : Jvm.MethodName)) ∈ am_big := am_t3 (List.mem_of_getElem? (i := 142) rfl) rfl
theorem w3_143 : (Jvm.Cond.selects "FanNet$Tokens" ({ cls := "FanNet$Tokens", name := "figure", desc := "()I" } : Jvm.MethodName) ({ cls := "FanNet$Tokens", name := "figure", desc := "()I" } : Jvm.MethodName)) ∈ am_big := am_t3 (List.mem_of_getElem? (i := 143) rfl) rfl
theorem w3_144 : (Jvm.Cond.code ({ cls := "FanNet$Tokens", name := "figure", desc := "()I" } : Jvm.MethodName) prog_9_method_6_code (1 : Nat) (Option.some Jvm.ClassFile.FieldType.int)) ∈ am_big := am_t3 (List.mem_of_getElem? (i := 144) rfl) rfl
theorem w3_170 : (Jvm.Cond.methodLink "FanNet$Text" (163 : Nat) ({ cls := "FanNet$Row", name := "set", desc := "(II)V" } : Jvm.MethodName)) ∈ am_big := am_t3 (List.mem_of_getElem? (i := 170) rfl) rfl
theorem w3_128 : (Jvm.Cond.methodLink "FanNet$Text" (166 : Nat) ({ cls := "FanNet$Row", name := "insert", desc := "(II)V" } : Jvm.MethodName)) ∈ am_big := am_t3 (List.mem_of_getElem? (i := 128) rfl) rfl
theorem w1_64 : (Jvm.Cond.methodLink "FanNet$Tokens" (1 : Nat) ({ cls := "java/lang/Object", name := "<init>", desc := "()V" } : Jvm.MethodName)) ∈ am_big := am_t1 (List.mem_of_getElem? (i := 64) rfl) rfl
theorem w1_66 : (Jvm.Cond.fieldLink "FanNet$Tokens" (9 : Nat) "FanNet$Tokens" "sort" "I") ∈ am_big := am_t1 (List.mem_of_getElem? (i := 66) rfl) rfl
theorem w1_67 : (Jvm.Cond.fieldLink "FanNet$Tokens" (13 : Nat) "FanNet$Tokens" "start" "I") ∈ am_big := am_t1 (List.mem_of_getElem? (i := 67) rfl) rfl
theorem w1_68 : (Jvm.Cond.fieldLink "FanNet$Tokens" (16 : Nat) "FanNet$Tokens" "end" "I") ∈ am_big := am_t1 (List.mem_of_getElem? (i := 68) rfl) rfl
theorem w1_65 : (Jvm.Cond.fieldLink "FanNet$Tokens" (19 : Nat) "FanNet$Tokens" "bytes" "LFanNet$Row;") ∈ am_big := am_t1 (List.mem_of_getElem? (i := 65) rfl) rfl
theorem w3_73 : (Jvm.Cond.methodLink "FanNet$Tokens" (23 : Nat) ({ cls := "FanNet$Row", name := "get", desc := "(I)I" } : Jvm.MethodName)) ∈ am_big := am_t3 (List.mem_of_getElem? (i := 73) rfl) rfl
theorem w3_68 : (Jvm.Cond.methodLink "FanNet$Tokens" (29 : Nat) ({ cls := "FanNet$Tokens", name := "behindBlanks", desc := "(I)I" } : Jvm.MethodName)) ∈ am_big := am_t3 (List.mem_of_getElem? (i := 68) rfl) rfl
theorem w3_70 : (Jvm.Cond.instanceMethod ({ cls := "FanNet$Tokens", name := "behindBlanks", desc := "(I)I" } : Jvm.MethodName)) ∈ am_big := am_t3 (List.mem_of_getElem? (i := 70) rfl) rfl
theorem w0_11 : Cond.selects "FanNet$Tokens" (⟨"FanNet$Tokens", "behindBlanks", "(I)I"⟩ : MethodName) ⟨"FanNet$Tokens", "behindBlanks", "(I)I"⟩ ∈ am_big := am_t0 (List.mem_of_getElem? (i := 11) rfl) rfl
theorem w3_71 : (Jvm.Cond.code ({ cls := "FanNet$Tokens", name := "behindBlanks", desc := "(I)I" } : Jvm.MethodName) prog_9_method_10_code (3 : Nat) (Option.some Jvm.ClassFile.FieldType.int)) ∈ am_big := am_t3 (List.mem_of_getElem? (i := 71) rfl) rfl
theorem w3_74 : (Jvm.Cond.methodLink "FanNet$Tokens" (32 : Nat) ({ cls := "FanNet$Tokens", name := "sortOf", desc := "(I)I" } : Jvm.MethodName)) ∈ am_big := am_t3 (List.mem_of_getElem? (i := 74) rfl) rfl
theorem w3_76 : (Jvm.Cond.instanceMethod ({ cls := "FanNet$Tokens", name := "sortOf", desc := "(I)I" } : Jvm.MethodName)) ∈ am_big := am_t3 (List.mem_of_getElem? (i := 76) rfl) rfl
theorem w0_12 : Cond.selects "FanNet$Tokens" (⟨"FanNet$Tokens", "sortOf", "(I)I"⟩ : MethodName) ⟨"FanNet$Tokens", "sortOf", "(I)I"⟩ ∈ am_big := am_t0 (List.mem_of_getElem? (i := 12) rfl) rfl
theorem w3_77 : (Jvm.Cond.code ({ cls := "FanNet$Tokens", name := "sortOf", desc := "(I)I" } : Jvm.MethodName) prog_9_method_11_code (3 : Nat) (Option.some Jvm.ClassFile.FieldType.int)) ∈ am_big := am_t3 (List.mem_of_getElem? (i := 77) rfl) rfl
theorem w3_72 : (Jvm.Cond.methodLink "FanNet$Tokens" (35 : Nat) ({ cls := "FanNet$Row", name := "size", desc := "()I" } : Jvm.MethodName)) ∈ am_big := am_t3 (List.mem_of_getElem? (i := 72) rfl) rfl
theorem w1_120 : (Jvm.Cond.methodLink "FanNet$Walk" (3 : Nat) ({ cls := "java/lang/Object", name := "<init>", desc := "()V" } : Jvm.MethodName)) ∈ am_big := am_t1 (List.mem_of_getElem? (i := 120) rfl) rfl
theorem w1_121 : (Jvm.Cond.classLink "FanNet$Walk" (9 : Nat) "FanNet$Stacks") ∈ am_big := am_t1 (List.mem_of_getElem? (i := 121) rfl) rfl
theorem w1_122 : (Jvm.Cond.instantiable "FanNet$Stacks" (3 : Nat)) ∈ am_big := am_t1 (List.mem_of_getElem? (i := 122) rfl) rfl
theorem w1_125 : (Jvm.Cond.code ({ cls := "FanNet$Stacks", name := "<init>", desc := "()V" } : Jvm.MethodName) prog_6_method_1_code (1 : Nat) (Option.none : Option Jvm.ClassFile.FieldType)) ∈ am_big := am_t1 (List.mem_of_getElem? (i := 125) rfl) rfl
theorem w1_124 : (Jvm.Cond.instanceMethod ({ cls := "FanNet$Stacks", name := "<init>", desc := "()V" } : Jvm.MethodName)) ∈ am_big := am_t1 (List.mem_of_getElem? (i := 124) rfl) rfl
theorem w1_142 : (Jvm.Cond.fieldLink "FanNet$Walk" (12 : Nat) "FanNet$Walk" "stacks" "LFanNet$Stacks;") ∈ am_big := am_t1 (List.mem_of_getElem? (i := 142) rfl) rfl
theorem w1_139 : (Jvm.Cond.classLink "FanNet$Walk" (18 : Nat) "FanNet$Row") ∈ am_big := am_t1 (List.mem_of_getElem? (i := 139) rfl) rfl
theorem w1_140 : (Jvm.Cond.methodLink "FanNet$Walk" (20 : Nat) ({ cls := "FanNet$Row", name := "<init>", desc := "(II)V" } : Jvm.MethodName)) ∈ am_big := am_t1 (List.mem_of_getElem? (i := 140) rfl) rfl
theorem w1_143 : (Jvm.Cond.fieldLink "FanNet$Walk" (23 : Nat) "FanNet$Walk" "term" "LFanNet$Row;") ∈ am_big := am_t1 (List.mem_of_getElem? (i := 143) rfl) rfl
theorem w1_144 : (Jvm.Cond.fieldLink "FanNet$Walk" (27 : Nat) "FanNet$Walk" "waiting" "LFanNet$Row;") ∈ am_big := am_t1 (List.mem_of_getElem? (i := 144) rfl) rfl
theorem w1_145 : (Jvm.Cond.fieldLink "FanNet$Walk" (30 : Nat) "FanNet$Walk" "functions" "LFanNet$Row;") ∈ am_big := am_t1 (List.mem_of_getElem? (i := 145) rfl) rfl
theorem w1_141 : (Jvm.Cond.constant "FanNet$Walk" (33 : Nat) (80000 : Int32)) ∈ am_big := am_t1 (List.mem_of_getElem? (i := 141) rfl) rfl
theorem w1_146 : (Jvm.Cond.fieldLink "FanNet$Walk" (34 : Nat) "FanNet$Walk" "stacksThen" "LFanNet$Row;") ∈ am_big := am_t1 (List.mem_of_getElem? (i := 146) rfl) rfl
theorem w1_147 : (Jvm.Cond.fieldLink "FanNet$Walk" (37 : Nat) "FanNet$Walk" "wires" "I") ∈ am_big := am_t1 (List.mem_of_getElem? (i := 147) rfl) rfl
theorem w1_148 : (Jvm.Cond.fieldLink "FanNet$Walk" (41 : Nat) "FanNet$Walk" "wantedNode" "I") ∈ am_big := am_t1 (List.mem_of_getElem? (i := 148) rfl) rfl
theorem w1_149 : (Jvm.Cond.fieldLink "FanNet$Walk" (44 : Nat) "FanNet$Walk" "wantedWires" "I") ∈ am_big := am_t1 (List.mem_of_getElem? (i := 149) rfl) rfl
theorem w1_150 : (Jvm.Cond.fieldLink "FanNet$Walk" (47 : Nat) "FanNet$Walk" "read" "Z") ∈ am_big := am_t1 (List.mem_of_getElem? (i := 150) rfl) rfl
theorem w3_213 : (Jvm.Cond.methodLink "FanNet$Walk" (51 : Nat) ({ cls := "FanNet$Stacks", name := "clear", desc := "()V" } : Jvm.MethodName)) ∈ am_big := am_t3 (List.mem_of_getElem? (i := 213) rfl) rfl
theorem w3_214 : (Jvm.Cond.instanceMethod ({ cls := "FanNet$Stacks", name := "clear", desc := "()V" } : Jvm.MethodName)) ∈ am_big := am_t3 (List.mem_of_getElem? (i := 214) rfl) rfl
theorem w3_215 : (Jvm.Cond.selects "FanNet$Stacks" ({ cls := "FanNet$Stacks", name := "clear", desc := "()V" } : Jvm.MethodName) ({ cls := "FanNet$Stacks", name := "clear", desc := "()V" } : Jvm.MethodName)) ∈ am_big := am_t3 (List.mem_of_getElem? (i := 215) rfl) rfl
theorem w3_216 : (Jvm.Cond.code ({ cls := "FanNet$Stacks", name := "clear", desc := "()V" } : Jvm.MethodName) prog_6_method_2_code (1 : Nat) (Option.none : Option Jvm.ClassFile.FieldType)) ∈ am_big := am_t3 (List.mem_of_getElem? (i := 216) rfl) rfl
theorem w3_219 : (Jvm.Cond.methodLink "FanNet$Walk" (54 : Nat) ({ cls := "FanNet$Row", name := "cut", desc := "(I)V" } : Jvm.MethodName)) ∈ am_big := am_t3 (List.mem_of_getElem? (i := 219) rfl) rfl
theorem w3_220 : (Jvm.Cond.methodLink "FanNet$Walk" (58 : Nat) ({ cls := "FanNet$Net", name := "wire", desc := "(I)I" } : Jvm.MethodName)) ∈ am_big := am_t3 (List.mem_of_getElem? (i := 220) rfl) rfl
theorem w3_221 : (Jvm.Cond.instanceMethod ({ cls := "FanNet$Net", name := "wire", desc := "(I)I" } : Jvm.MethodName)) ∈ am_big := am_t3 (List.mem_of_getElem? (i := 221) rfl) rfl
theorem w3_222 : (Jvm.Cond.selects "FanNet$Net" ({ cls := "FanNet$Net", name := "wire", desc := "(I)I" } : Jvm.MethodName) ({ cls := "FanNet$Net", name := "wire", desc := "(I)I" } : Jvm.MethodName)) ∈ am_big := am_t3 (List.mem_of_getElem? (i := 222) rfl) rfl
theorem w3_223 : (Jvm.Cond.code ({ cls := "FanNet$Net", name := "wire", desc := "(I)I" } : Jvm.MethodName) prog_3_method_10_code (2 : Nat) (Option.some Jvm.ClassFile.FieldType.int)) ∈ am_big := am_t3 (List.mem_of_getElem? (i := 223) rfl) rfl
theorem w3_224 : (Jvm.Cond.methodLink "FanNet$Walk" (64 : Nat) ({ cls := "FanNet$Walk", name := "lookWhetherWanted", desc := "(II)V" } : Jvm.MethodName)) ∈ am_big := am_t3 (List.mem_of_getElem? (i := 224) rfl) rfl
theorem w3_226 : (Jvm.Cond.instanceMethod ({ cls := "FanNet$Walk", name := "lookWhetherWanted", desc := "(II)V" } : Jvm.MethodName)) ∈ am_big := am_t3 (List.mem_of_getElem? (i := 226) rfl) rfl
theorem w0_31 : Cond.selects "FanNet$Walk" (⟨"FanNet$Walk", "lookWhetherWanted", "(II)V"⟩ : MethodName) ⟨"FanNet$Walk", "lookWhetherWanted", "(II)V"⟩ ∈ am_big := am_t0 (List.mem_of_getElem? (i := 31) rfl) rfl
theorem w1_6 : (Jvm.Cond.initialized "FanNet$Walk") ∈ am_big := am_t1 (List.mem_of_getElem? (i := 6) rfl) rfl
theorem w3_227 : (Jvm.Cond.code ({ cls := "FanNet$Walk", name := "lookWhetherWanted", desc := "(II)V" } : Jvm.MethodName) prog_10_method_8_code (4 : Nat) (Option.none : Option Jvm.ClassFile.FieldType)) ∈ am_big := am_t3 (List.mem_of_getElem? (i := 227) rfl) rfl
theorem w3_229 : (Jvm.Cond.methodLink "FanNet$Walk" (67 : Nat) ({ cls := "FanNet$Walk", name := "pass", desc := "(LFanNet$Net;I)I" } : Jvm.MethodName)) ∈ am_big := am_t3 (List.mem_of_getElem? (i := 229) rfl) rfl
theorem w3_231 : (Jvm.Cond.instanceMethod ({ cls := "FanNet$Walk", name := "pass", desc := "(LFanNet$Net;I)I" } : Jvm.MethodName)) ∈ am_big := am_t3 (List.mem_of_getElem? (i := 231) rfl) rfl
theorem w0_32 : Cond.selects "FanNet$Walk" (⟨"FanNet$Walk", "pass", "(LFanNet$Net;I)I"⟩ : MethodName) ⟨"FanNet$Walk", "pass", "(LFanNet$Net;I)I"⟩ ∈ am_big := am_t0 (List.mem_of_getElem? (i := 32) rfl) rfl
theorem w3_232 : (Jvm.Cond.code ({ cls := "FanNet$Walk", name := "pass", desc := "(LFanNet$Net;I)I" } : Jvm.MethodName) prog_10_method_9_code (7 : Nat) (Option.some Jvm.ClassFile.FieldType.int)) ∈ am_big := am_t3 (List.mem_of_getElem? (i := 232) rfl) rfl
theorem w3_228 : (Jvm.Cond.methodLink "FanNet$Walk" (71 : Nat) ({ cls := "java/lang/Math", name := "min", desc := "(II)I" } : Jvm.MethodName)) ∈ am_big := am_t3 (List.mem_of_getElem? (i := 228) rfl) rfl
theorem w3_233 : (Jvm.Cond.methodLink "FanNet$Walk" (77 : Nat) ({ cls := "FanNet$Net", name := "level", desc := "(I)I" } : Jvm.MethodName)) ∈ am_big := am_t3 (List.mem_of_getElem? (i := 233) rfl) rfl
theorem w3_234 : (Jvm.Cond.instanceMethod ({ cls := "FanNet$Net", name := "level", desc := "(I)I" } : Jvm.MethodName)) ∈ am_big := am_t3 (List.mem_of_getElem? (i := 234) rfl) rfl
theorem w3_235 : (Jvm.Cond.selects "FanNet$Net" ({ cls := "FanNet$Net", name := "level", desc := "(I)I" } : Jvm.MethodName) ({ cls := "FanNet$Net", name := "level", desc := "(I)I" } : Jvm.MethodName)) ∈ am_big := am_t3 (List.mem_of_getElem? (i := 235) rfl) rfl
theorem w3_236 : (Jvm.Cond.code ({ cls := "FanNet$Net", name := "level", desc := "(I)I" } : Jvm.MethodName) prog_3_method_8_code (2 : Nat) (Option.some Jvm.ClassFile.FieldType.int)) ∈ am_big := am_t3 (List.mem_of_getElem? (i := 236) rfl) rfl
theorem w3_237 : (Jvm.Cond.methodLink "FanNet$Walk" (80 : Nat) ({ cls := "FanNet$Net", name := "kind", desc := "(I)I" } : Jvm.MethodName)) ∈ am_big := am_t3 (List.mem_of_getElem? (i := 237) rfl) rfl
theorem w3_238 : (Jvm.Cond.instanceMethod ({ cls := "FanNet$Net", name := "kind", desc := "(I)I" } : Jvm.MethodName)) ∈ am_big := am_t3 (List.mem_of_getElem? (i := 238) rfl) rfl
theorem w3_239 : (Jvm.Cond.selects "FanNet$Net" ({ cls := "FanNet$Net", name := "kind", desc := "(I)I" } : Jvm.MethodName) ({ cls := "FanNet$Net", name := "kind", desc := "(I)I" } : Jvm.MethodName)) ∈ am_big := am_t3 (List.mem_of_getElem? (i := 239) rfl) rfl
theorem w4_0 : (Jvm.Cond.code ({ cls := "FanNet$Net", name := "kind", desc := "(I)I" } : Jvm.MethodName) prog_3_method_7_code (2 : Nat) (Option.some Jvm.ClassFile.FieldType.int)) ∈ am_big := am_t4 (List.mem_of_getElem? (i := 0) rfl) rfl
theorem w4_1 : (Jvm.Cond.methodLink "FanNet$Walk" (83 : Nat) ({ cls := "FanNet$Walk", name := "beginFunction", desc := "(II)Z" } : Jvm.MethodName)) ∈ am_big := am_t4 (List.mem_of_getElem? (i := 1) rfl) rfl
theorem w4_3 : (Jvm.Cond.instanceMethod ({ cls := "FanNet$Walk", name := "beginFunction", desc := "(II)Z" } : Jvm.MethodName)) ∈ am_big := am_t4 (List.mem_of_getElem? (i := 3) rfl) rfl
theorem w0_33 : Cond.selects "FanNet$Walk" (⟨"FanNet$Walk", "beginFunction", "(II)Z"⟩ : MethodName) ⟨"FanNet$Walk", "beginFunction", "(II)Z"⟩ ∈ am_big := am_t0 (List.mem_of_getElem? (i := 33) rfl) rfl
theorem w4_4 : (Jvm.Cond.code ({ cls := "FanNet$Walk", name := "beginFunction", desc := "(II)Z" } : Jvm.MethodName) prog_10_method_10_code (4 : Nat) (Option.some Jvm.ClassFile.FieldType.boolean)) ∈ am_big := am_t4 (List.mem_of_getElem? (i := 4) rfl) rfl
theorem w4_12 : (Jvm.Cond.methodLink "FanNet$Walk" (87 : Nat) ({ cls := "FanNet$Walk", name := "readVariable", desc := "(II)Z" } : Jvm.MethodName)) ∈ am_big := am_t4 (List.mem_of_getElem? (i := 12) rfl) rfl
theorem w4_14 : (Jvm.Cond.instanceMethod ({ cls := "FanNet$Walk", name := "readVariable", desc := "(II)Z" } : Jvm.MethodName)) ∈ am_big := am_t4 (List.mem_of_getElem? (i := 14) rfl) rfl
theorem w0_34 : Cond.selects "FanNet$Walk" (⟨"FanNet$Walk", "readVariable", "(II)Z"⟩ : MethodName) ⟨"FanNet$Walk", "readVariable", "(II)Z"⟩ ∈ am_big := am_t0 (List.mem_of_getElem? (i := 34) rfl) rfl
theorem w4_15 : (Jvm.Cond.code ({ cls := "FanNet$Walk", name := "readVariable", desc := "(II)Z" } : Jvm.MethodName) prog_10_method_12_code (4 : Nat) (Option.some Jvm.ClassFile.FieldType.boolean)) ∈ am_big := am_t4 (List.mem_of_getElem? (i := 15) rfl) rfl
theorem w4_21 : (Jvm.Cond.methodLink "FanNet$Walk" (90 : Nat) ({ cls := "FanNet$Walk", name := "nextArgument", desc := "()I" } : Jvm.MethodName)) ∈ am_big := am_t4 (List.mem_of_getElem? (i := 21) rfl) rfl
theorem w4_23 : (Jvm.Cond.instanceMethod ({ cls := "FanNet$Walk", name := "nextArgument", desc := "()I" } : Jvm.MethodName)) ∈ am_big := am_t4 (List.mem_of_getElem? (i := 23) rfl) rfl
theorem w0_36 : Cond.selects "FanNet$Walk" (⟨"FanNet$Walk", "nextArgument", "()I"⟩ : MethodName) ⟨"FanNet$Walk", "nextArgument", "()I"⟩ ∈ am_big := am_t0 (List.mem_of_getElem? (i := 36) rfl) rfl
theorem w4_24 : (Jvm.Cond.code ({ cls := "FanNet$Walk", name := "nextArgument", desc := "()I" } : Jvm.MethodName) prog_10_method_14_code (1 : Nat) (Option.some Jvm.ClassFile.FieldType.int)) ∈ am_big := am_t4 (List.mem_of_getElem? (i := 24) rfl) rfl
theorem w4_38 : (Jvm.Cond.methodLink "FanNet$Walk" (94 : Nat) ({ cls := "FanNet$Walk", name := "beginApplication", desc := "(I)Z" } : Jvm.MethodName)) ∈ am_big := am_t4 (List.mem_of_getElem? (i := 38) rfl) rfl
theorem w4_40 : (Jvm.Cond.instanceMethod ({ cls := "FanNet$Walk", name := "beginApplication", desc := "(I)Z" } : Jvm.MethodName)) ∈ am_big := am_t4 (List.mem_of_getElem? (i := 40) rfl) rfl
theorem w0_37 : Cond.selects "FanNet$Walk" (⟨"FanNet$Walk", "beginApplication", "(I)Z"⟩ : MethodName) ⟨"FanNet$Walk", "beginApplication", "(I)Z"⟩ ∈ am_big := am_t0 (List.mem_of_getElem? (i := 37) rfl) rfl
theorem w4_41 : (Jvm.Cond.code ({ cls := "FanNet$Walk", name := "beginApplication", desc := "(I)Z" } : Jvm.MethodName) prog_10_method_11_code (2 : Nat) (Option.some Jvm.ClassFile.FieldType.boolean)) ∈ am_big := am_t4 (List.mem_of_getElem? (i := 41) rfl) rfl
theorem w4_46 : (Jvm.Cond.methodLink "FanNet$Walk" (98 : Nat) ({ cls := "FanNet$Stacks", name := "take", desc := "(I)I" } : Jvm.MethodName)) ∈ am_big := am_t4 (List.mem_of_getElem? (i := 46) rfl) rfl
theorem w4_47 : (Jvm.Cond.instanceMethod ({ cls := "FanNet$Stacks", name := "take", desc := "(I)I" } : Jvm.MethodName)) ∈ am_big := am_t4 (List.mem_of_getElem? (i := 47) rfl) rfl
theorem w4_48 : (Jvm.Cond.selects "FanNet$Stacks" ({ cls := "FanNet$Stacks", name := "take", desc := "(I)I" } : Jvm.MethodName) ({ cls := "FanNet$Stacks", name := "take", desc := "(I)I" } : Jvm.MethodName)) ∈ am_big := am_t4 (List.mem_of_getElem? (i := 48) rfl) rfl
theorem w4_49 : (Jvm.Cond.code ({ cls := "FanNet$Stacks", name := "take", desc := "(I)I" } : Jvm.MethodName) prog_6_method_5_code (4 : Nat) (Option.some Jvm.ClassFile.FieldType.int)) ∈ am_big := am_t4 (List.mem_of_getElem? (i := 49) rfl) rfl
theorem w4_58 : (Jvm.Cond.methodLink "FanNet$Walk" (101 : Nat) ({ cls := "FanNet$Stacks", name := "put", desc := "(II)V" } : Jvm.MethodName)) ∈ am_big := am_t4 (List.mem_of_getElem? (i := 58) rfl) rfl
theorem w4_59 : (Jvm.Cond.instanceMethod ({ cls := "FanNet$Stacks", name := "put", desc := "(II)V" } : Jvm.MethodName)) ∈ am_big := am_t4 (List.mem_of_getElem? (i := 59) rfl) rfl
theorem w4_60 : (Jvm.Cond.selects "FanNet$Stacks" ({ cls := "FanNet$Stacks", name := "put", desc := "(II)V" } : Jvm.MethodName) ({ cls := "FanNet$Stacks", name := "put", desc := "(II)V" } : Jvm.MethodName)) ∈ am_big := am_t4 (List.mem_of_getElem? (i := 60) rfl) rfl
theorem w4_61 : (Jvm.Cond.code ({ cls := "FanNet$Stacks", name := "put", desc := "(II)V" } : Jvm.MethodName) prog_6_method_4_code (3 : Nat) (Option.none : Option Jvm.ClassFile.FieldType)) ∈ am_big := am_t4 (List.mem_of_getElem? (i := 61) rfl) rfl
theorem w4_66 : (Jvm.Cond.methodLink "FanNet$Walk" (104 : Nat) ({ cls := "FanNet$Stacks", name := "uncouple", desc := "(I)Z" } : Jvm.MethodName)) ∈ am_big := am_t4 (List.mem_of_getElem? (i := 66) rfl) rfl
theorem w4_67 : (Jvm.Cond.instanceMethod ({ cls := "FanNet$Stacks", name := "uncouple", desc := "(I)Z" } : Jvm.MethodName)) ∈ am_big := am_t4 (List.mem_of_getElem? (i := 67) rfl) rfl
theorem w4_68 : (Jvm.Cond.selects "FanNet$Stacks" ({ cls := "FanNet$Stacks", name := "uncouple", desc := "(I)Z" } : Jvm.MethodName) ({ cls := "FanNet$Stacks", name := "uncouple", desc := "(I)Z" } : Jvm.MethodName)) ∈ am_big := am_t4 (List.mem_of_getElem? (i := 68) rfl) rfl
theorem w4_69 : (Jvm.Cond.code ({ cls := "FanNet$Stacks", name := "uncouple", desc := "(I)Z" } : Jvm.MethodName) prog_6_method_9_code (3 : Nat) (Option.some Jvm.ClassFile.FieldType.boolean)) ∈ am_big := am_t4 (List.mem_of_getElem? (i := 69) rfl) rfl
theorem w4_74 : (Jvm.Cond.methodLink "FanNet$Walk" (107 : Nat) ({ cls := "FanNet$Stacks", name := "couple", desc := "(I)V" } : Jvm.MethodName)) ∈ am_big := am_t4 (List.mem_of_getElem? (i := 74) rfl) rfl
theorem w4_75 : (Jvm.Cond.instanceMethod ({ cls := "FanNet$Stacks", name := "couple", desc := "(I)V" } : Jvm.MethodName)) ∈ am_big := am_t4 (List.mem_of_getElem? (i := 75) rfl) rfl
theorem w4_76 : (Jvm.Cond.selects "FanNet$Stacks" ({ cls := "FanNet$Stacks", name := "couple", desc := "(I)V" } : Jvm.MethodName) ({ cls := "FanNet$Stacks", name := "couple", desc := "(I)V" } : Jvm.MethodName)) ∈ am_big := am_t4 (List.mem_of_getElem? (i := 76) rfl) rfl
theorem w4_77 : (Jvm.Cond.code ({ cls := "FanNet$Stacks", name := "couple", desc := "(I)V" } : Jvm.MethodName) prog_6_method_8_code (3 : Nat) (Option.none : Option Jvm.ClassFile.FieldType)) ∈ am_big := am_t4 (List.mem_of_getElem? (i := 77) rfl) rfl
theorem w4_82 : (Jvm.Cond.methodLink "FanNet$Walk" (110 : Nat) ({ cls := "FanNet$Stacks", name := "close", desc := "(I)Z" } : Jvm.MethodName)) ∈ am_big := am_t4 (List.mem_of_getElem? (i := 82) rfl) rfl
theorem w4_83 : (Jvm.Cond.instanceMethod ({ cls := "FanNet$Stacks", name := "close", desc := "(I)Z" } : Jvm.MethodName)) ∈ am_big := am_t4 (List.mem_of_getElem? (i := 83) rfl) rfl
theorem w4_84 : (Jvm.Cond.selects "FanNet$Stacks" ({ cls := "FanNet$Stacks", name := "close", desc := "(I)Z" } : Jvm.MethodName) ({ cls := "FanNet$Stacks", name := "close", desc := "(I)Z" } : Jvm.MethodName)) ∈ am_big := am_t4 (List.mem_of_getElem? (i := 84) rfl) rfl
theorem w4_85 : (Jvm.Cond.code ({ cls := "FanNet$Stacks", name := "close", desc := "(I)Z" } : Jvm.MethodName) prog_6_method_7_code (2 : Nat) (Option.some Jvm.ClassFile.FieldType.boolean)) ∈ am_big := am_t4 (List.mem_of_getElem? (i := 85) rfl) rfl
theorem w4_86 : (Jvm.Cond.methodLink "FanNet$Walk" (113 : Nat) ({ cls := "FanNet$Stacks", name := "open", desc := "(I)V" } : Jvm.MethodName)) ∈ am_big := am_t4 (List.mem_of_getElem? (i := 86) rfl) rfl
theorem w4_87 : (Jvm.Cond.instanceMethod ({ cls := "FanNet$Stacks", name := "open", desc := "(I)V" } : Jvm.MethodName)) ∈ am_big := am_t4 (List.mem_of_getElem? (i := 87) rfl) rfl
theorem w4_88 : (Jvm.Cond.selects "FanNet$Stacks" ({ cls := "FanNet$Stacks", name := "open", desc := "(I)V" } : Jvm.MethodName) ({ cls := "FanNet$Stacks", name := "open", desc := "(I)V" } : Jvm.MethodName)) ∈ am_big := am_t4 (List.mem_of_getElem? (i := 88) rfl) rfl
theorem w4_89 : (Jvm.Cond.code ({ cls := "FanNet$Stacks", name := "open", desc := "(I)V" } : Jvm.MethodName) prog_6_method_6_code (2 : Nat) (Option.none : Option Jvm.ClassFile.FieldType)) ∈ am_big := am_t4 (List.mem_of_getElem? (i := 89) rfl) rfl
theorem w4_5 : (Jvm.Cond.methodLink "FanNet$Walk" (116 : Nat) ({ cls := "FanNet$Row", name := "add", desc := "(I)Z" } : Jvm.MethodName)) ∈ am_big := am_t4 (List.mem_of_getElem? (i := 5) rfl) rfl
theorem w4_6 : (Jvm.Cond.methodLink "FanNet$Walk" (119 : Nat) ({ cls := "FanNet$Row", name := "size", desc := "()I" } : Jvm.MethodName)) ∈ am_big := am_t4 (List.mem_of_getElem? (i := 6) rfl) rfl
theorem w4_7 : (Jvm.Cond.methodLink "FanNet$Walk" (122 : Nat) ({ cls := "FanNet$Stacks", name := "at", desc := "(I)I" } : Jvm.MethodName)) ∈ am_big := am_t4 (List.mem_of_getElem? (i := 7) rfl) rfl
theorem w4_8 : (Jvm.Cond.instanceMethod ({ cls := "FanNet$Stacks", name := "at", desc := "(I)I" } : Jvm.MethodName)) ∈ am_big := am_t4 (List.mem_of_getElem? (i := 8) rfl) rfl
theorem w4_9 : (Jvm.Cond.selects "FanNet$Stacks" ({ cls := "FanNet$Stacks", name := "at", desc := "(I)I" } : Jvm.MethodName) ({ cls := "FanNet$Stacks", name := "at", desc := "(I)I" } : Jvm.MethodName)) ∈ am_big := am_t4 (List.mem_of_getElem? (i := 9) rfl) rfl
theorem w4_10 : (Jvm.Cond.code ({ cls := "FanNet$Stacks", name := "at", desc := "(I)I" } : Jvm.MethodName) prog_6_method_3_code (2 : Nat) (Option.some Jvm.ClassFile.FieldType.int)) ∈ am_big := am_t4 (List.mem_of_getElem? (i := 10) rfl) rfl
theorem w4_42 : (Jvm.Cond.methodLink "FanNet$Walk" (125 : Nat) ({ cls := "FanNet$Stacks", name := "mark", desc := "()I" } : Jvm.MethodName)) ∈ am_big := am_t4 (List.mem_of_getElem? (i := 42) rfl) rfl
theorem w4_43 : (Jvm.Cond.instanceMethod ({ cls := "FanNet$Stacks", name := "mark", desc := "()I" } : Jvm.MethodName)) ∈ am_big := am_t4 (List.mem_of_getElem? (i := 43) rfl) rfl
theorem w4_44 : (Jvm.Cond.selects "FanNet$Stacks" ({ cls := "FanNet$Stacks", name := "mark", desc := "()I" } : Jvm.MethodName) ({ cls := "FanNet$Stacks", name := "mark", desc := "()I" } : Jvm.MethodName)) ∈ am_big := am_t4 (List.mem_of_getElem? (i := 44) rfl) rfl
theorem w4_45 : (Jvm.Cond.code ({ cls := "FanNet$Stacks", name := "mark", desc := "()I" } : Jvm.MethodName) prog_6_method_10_code (1 : Nat) (Option.some Jvm.ClassFile.FieldType.int)) ∈ am_big := am_t4 (List.mem_of_getElem? (i := 45) rfl) rfl
theorem w4_16 : (Jvm.Cond.methodLink "FanNet$Walk" (128 : Nat) ({ cls := "FanNet$Row", name := "get", desc := "(I)I" } : Jvm.MethodName)) ∈ am_big := am_t4 (List.mem_of_getElem? (i := 16) rfl) rfl
theorem w4_17 : (Jvm.Cond.methodLink "FanNet$Walk" (131 : Nat) ({ cls := "FanNet$Walk", name := "isAsThen", desc := "(II)Z" } : Jvm.MethodName)) ∈ am_big := am_t4 (List.mem_of_getElem? (i := 17) rfl) rfl
theorem w4_19 : (Jvm.Cond.instanceMethod ({ cls := "FanNet$Walk", name := "isAsThen", desc := "(II)Z" } : Jvm.MethodName)) ∈ am_big := am_t4 (List.mem_of_getElem? (i := 19) rfl) rfl
theorem w0_35 : Cond.selects "FanNet$Walk" (⟨"FanNet$Walk", "isAsThen", "(II)Z"⟩ : MethodName) ⟨"FanNet$Walk", "isAsThen", "(II)Z"⟩ ∈ am_big := am_t0 (List.mem_of_getElem? (i := 35) rfl) rfl
theorem w4_20 : (Jvm.Cond.code ({ cls := "FanNet$Walk", name := "isAsThen", desc := "(II)Z" } : Jvm.MethodName) prog_10_method_13_code (4 : Nat) (Option.some Jvm.ClassFile.FieldType.boolean)) ∈ am_big := am_t4 (List.mem_of_getElem? (i := 20) rfl) rfl
theorem w4_25 : (Jvm.Cond.methodLink "FanNet$Walk" (134 : Nat) ({ cls := "FanNet$Row", name := "takeLast", desc := "()I" } : Jvm.MethodName)) ∈ am_big := am_t4 (List.mem_of_getElem? (i := 25) rfl) rfl
theorem w4_26 : (Jvm.Cond.methodLink "FanNet$Walk" (137 : Nat) ({ cls := "FanNet$Stacks", name := "back", desc := "(I)V" } : Jvm.MethodName)) ∈ am_big := am_t4 (List.mem_of_getElem? (i := 26) rfl) rfl
theorem w4_27 : (Jvm.Cond.instanceMethod ({ cls := "FanNet$Stacks", name := "back", desc := "(I)V" } : Jvm.MethodName)) ∈ am_big := am_t4 (List.mem_of_getElem? (i := 27) rfl) rfl
theorem w4_28 : (Jvm.Cond.selects "FanNet$Stacks" ({ cls := "FanNet$Stacks", name := "back", desc := "(I)V" } : Jvm.MethodName) ({ cls := "FanNet$Stacks", name := "back", desc := "(I)V" } : Jvm.MethodName)) ∈ am_big := am_t4 (List.mem_of_getElem? (i := 28) rfl) rfl
theorem w4_29 : (Jvm.Cond.code ({ cls := "FanNet$Stacks", name := "back", desc := "(I)V" } : Jvm.MethodName) prog_6_method_11_code (5 : Nat) (Option.none : Option Jvm.ClassFile.FieldType)) ∈ am_big := am_t4 (List.mem_of_getElem? (i := 29) rfl) rfl
theorem w1_25 : (Jvm.Cond.methodLink "FanNet" (1 : Nat) ({ cls := "java/lang/Object", name := "<init>", desc := "()V" } : Jvm.MethodName)) ∈ am_big := am_t1 (List.mem_of_getElem? (i := 25) rfl) rfl
theorem w1_28 : (Jvm.Cond.classLink "FanNet" (7 : Nat) "FanNet$Row") ∈ am_big := am_t1 (List.mem_of_getElem? (i := 28) rfl) rfl
theorem w1_30 : (Jvm.Cond.methodLink "FanNet" (11 : Nat) ({ cls := "FanNet$Row", name := "<init>", desc := "(II)V" } : Jvm.MethodName)) ∈ am_big := am_t1 (List.mem_of_getElem? (i := 30) rfl) rfl
theorem w2_132 : (Jvm.Cond.fieldLink "FanNet" (14 : Nat) "FanNet" "tape" "LFanNet$Row;") ∈ am_big := am_t2 (List.mem_of_getElem? (i := 132) rfl) rfl
theorem w1_51 : (Jvm.Cond.classLink "FanNet" (18 : Nat) "FanNet$Text") ∈ am_big := am_t1 (List.mem_of_getElem? (i := 51) rfl) rfl
theorem w1_52 : (Jvm.Cond.instantiable "FanNet$Text" (12 : Nat)) ∈ am_big := am_t1 (List.mem_of_getElem? (i := 52) rfl) rfl
theorem w1_55 : (Jvm.Cond.code ({ cls := "FanNet$Text", name := "<init>", desc := "(LFanNet$Row;)V" } : Jvm.MethodName) prog_8_method_1_code (2 : Nat) (Option.none : Option Jvm.ClassFile.FieldType)) ∈ am_big := am_t1 (List.mem_of_getElem? (i := 55) rfl) rfl
theorem w1_53 : (Jvm.Cond.methodLink "FanNet" (20 : Nat) ({ cls := "FanNet$Text", name := "<init>", desc := "(LFanNet$Row;)V" } : Jvm.MethodName)) ∈ am_big := am_t1 (List.mem_of_getElem? (i := 53) rfl) rfl
theorem w1_54 : (Jvm.Cond.instanceMethod ({ cls := "FanNet$Text", name := "<init>", desc := "(LFanNet$Row;)V" } : Jvm.MethodName)) ∈ am_big := am_t1 (List.mem_of_getElem? (i := 54) rfl) rfl
theorem w2_133 : (Jvm.Cond.fieldLink "FanNet" (23 : Nat) "FanNet" "text" "LFanNet$Text;") ∈ am_big := am_t2 (List.mem_of_getElem? (i := 133) rfl) rfl
theorem w1_115 : (Jvm.Cond.classLink "FanNet" (27 : Nat) "FanNet$Walk") ∈ am_big := am_t1 (List.mem_of_getElem? (i := 115) rfl) rfl
theorem w1_116 : (Jvm.Cond.instantiable "FanNet$Walk" (9 : Nat)) ∈ am_big := am_t1 (List.mem_of_getElem? (i := 116) rfl) rfl
theorem w1_119 : (Jvm.Cond.code ({ cls := "FanNet$Walk", name := "<init>", desc := "()V" } : Jvm.MethodName) prog_10_method_1_code (1 : Nat) (Option.none : Option Jvm.ClassFile.FieldType)) ∈ am_big := am_t1 (List.mem_of_getElem? (i := 119) rfl) rfl
theorem w1_118 : (Jvm.Cond.instanceMethod ({ cls := "FanNet$Walk", name := "<init>", desc := "()V" } : Jvm.MethodName)) ∈ am_big := am_t1 (List.mem_of_getElem? (i := 118) rfl) rfl
theorem w2_134 : (Jvm.Cond.fieldLink "FanNet" (30 : Nat) "FanNet" "walk" "LFanNet$Walk;") ∈ am_big := am_t2 (List.mem_of_getElem? (i := 134) rfl) rfl
theorem w1_170 : (Jvm.Cond.classLink "FanNet" (34 : Nat) "FanNet$Plainly") ∈ am_big := am_t1 (List.mem_of_getElem? (i := 170) rfl) rfl
theorem w1_171 : (Jvm.Cond.instantiable "FanNet$Plainly" (6 : Nat)) ∈ am_big := am_t1 (List.mem_of_getElem? (i := 171) rfl) rfl
theorem w1_174 : (Jvm.Cond.code ({ cls := "FanNet$Plainly", name := "<init>", desc := "()V" } : Jvm.MethodName) prog_4_method_1_code (1 : Nat) (Option.none : Option Jvm.ClassFile.FieldType)) ∈ am_big := am_t1 (List.mem_of_getElem? (i := 174) rfl) rfl
theorem w1_173 : (Jvm.Cond.instanceMethod ({ cls := "FanNet$Plainly", name := "<init>", desc := "()V" } : Jvm.MethodName)) ∈ am_big := am_t1 (List.mem_of_getElem? (i := 173) rfl) rfl
theorem w2_135 : (Jvm.Cond.fieldLink "FanNet" (37 : Nat) "FanNet" "plainly" "LFanNet$Plainly;") ∈ am_big := am_t2 (List.mem_of_getElem? (i := 135) rfl) rfl
theorem w1_197 : (Jvm.Cond.classLink "FanNet" (41 : Nat) "FanNet$Teller") ∈ am_big := am_t1 (List.mem_of_getElem? (i := 197) rfl) rfl
theorem w1_198 : (Jvm.Cond.instantiable "FanNet$Teller" (2 : Nat)) ∈ am_big := am_t1 (List.mem_of_getElem? (i := 198) rfl) rfl
theorem w1_201 : (Jvm.Cond.code ({ cls := "FanNet$Teller", name := "<init>", desc := "()V" } : Jvm.MethodName) prog_7_method_1_code (1 : Nat) (Option.none : Option Jvm.ClassFile.FieldType)) ∈ am_big := am_t1 (List.mem_of_getElem? (i := 201) rfl) rfl
theorem w1_200 : (Jvm.Cond.instanceMethod ({ cls := "FanNet$Teller", name := "<init>", desc := "()V" } : Jvm.MethodName)) ∈ am_big := am_t1 (List.mem_of_getElem? (i := 200) rfl) rfl
theorem w2_136 : (Jvm.Cond.fieldLink "FanNet" (44 : Nat) "FanNet" "teller" "LFanNet$Teller;") ∈ am_big := am_t2 (List.mem_of_getElem? (i := 136) rfl) rfl
theorem w2_137 : (Jvm.Cond.fieldLink "FanNet" (48 : Nat) "FanNet" "toldTerm" "LFanNet$Row;") ∈ am_big := am_t2 (List.mem_of_getElem? (i := 137) rfl) rfl
theorem w2_138 : (Jvm.Cond.fieldLink "FanNet" (51 : Nat) "FanNet" "newTerm" "LFanNet$Row;") ∈ am_big := am_t2 (List.mem_of_getElem? (i := 138) rfl) rfl
theorem w2_139 : (Jvm.Cond.fieldLink "FanNet" (54 : Nat) "FanNet" "plainTerm" "LFanNet$Row;") ∈ am_big := am_t2 (List.mem_of_getElem? (i := 139) rfl) rfl
theorem w2_140 : (Jvm.Cond.fieldLink "FanNet" (57 : Nat) "FanNet" "stepsByKind" "LFanNet$Row;") ∈ am_big := am_t2 (List.mem_of_getElem? (i := 140) rfl) rfl
theorem w2_141 : (Jvm.Cond.fieldLink "FanNet" (60 : Nat) "FanNet" "trials" "LFanNet$Row;") ∈ am_big := am_t2 (List.mem_of_getElem? (i := 141) rfl) rfl
theorem w1_212 : (Jvm.Cond.classLink "FanNet" (63 : Nat) "FanNet$Net") ∈ am_big := am_t1 (List.mem_of_getElem? (i := 212) rfl) rfl
theorem w1_213 : (Jvm.Cond.instantiable "FanNet$Net" (8 : Nat)) ∈ am_big := am_t1 (List.mem_of_getElem? (i := 213) rfl) rfl
theorem w1_216 : (Jvm.Cond.code ({ cls := "FanNet$Net", name := "<init>", desc := "()V" } : Jvm.MethodName) prog_3_method_1_code (1 : Nat) (Option.none : Option Jvm.ClassFile.FieldType)) ∈ am_big := am_t1 (List.mem_of_getElem? (i := 216) rfl) rfl
theorem w1_214 : (Jvm.Cond.methodLink "FanNet" (65 : Nat) ({ cls := "FanNet$Net", name := "<init>", desc := "()V" } : Jvm.MethodName)) ∈ am_big := am_t1 (List.mem_of_getElem? (i := 214) rfl) rfl
theorem w1_215 : (Jvm.Cond.instanceMethod ({ cls := "FanNet$Net", name := "<init>", desc := "()V" } : Jvm.MethodName)) ∈ am_big := am_t1 (List.mem_of_getElem? (i := 215) rfl) rfl
theorem w2_142 : (Jvm.Cond.fieldLink "FanNet" (66 : Nat) "FanNet" "net" "LFanNet$Net;") ∈ am_big := am_t2 (List.mem_of_getElem? (i := 142) rfl) rfl
theorem w2_143 : (Jvm.Cond.fieldLink "FanNet" (70 : Nat) "FanNet" "spare" "LFanNet$Net;") ∈ am_big := am_t2 (List.mem_of_getElem? (i := 143) rfl) rfl
theorem w2_9 : (Jvm.Cond.classLink "FanNet" (73 : Nat) "FanNet$Layer") ∈ am_big := am_t2 (List.mem_of_getElem? (i := 9) rfl) rfl
theorem w2_10 : (Jvm.Cond.instantiable "FanNet$Layer" (5 : Nat)) ∈ am_big := am_t2 (List.mem_of_getElem? (i := 10) rfl) rfl
theorem w2_13 : (Jvm.Cond.code ({ cls := "FanNet$Layer", name := "<init>", desc := "(LFanNet$Net;)V" } : Jvm.MethodName) prog_2_method_1_code (2 : Nat) (Option.none : Option Jvm.ClassFile.FieldType)) ∈ am_big := am_t2 (List.mem_of_getElem? (i := 13) rfl) rfl
theorem w2_11 : (Jvm.Cond.methodLink "FanNet" (75 : Nat) ({ cls := "FanNet$Layer", name := "<init>", desc := "(LFanNet$Net;)V" } : Jvm.MethodName)) ∈ am_big := am_t2 (List.mem_of_getElem? (i := 11) rfl) rfl
theorem w2_12 : (Jvm.Cond.instanceMethod ({ cls := "FanNet$Layer", name := "<init>", desc := "(LFanNet$Net;)V" } : Jvm.MethodName)) ∈ am_big := am_t2 (List.mem_of_getElem? (i := 12) rfl) rfl
theorem w2_144 : (Jvm.Cond.fieldLink "FanNet" (78 : Nat) "FanNet" "layer" "LFanNet$Layer;") ∈ am_big := am_t2 (List.mem_of_getElem? (i := 144) rfl) rfl
theorem w2_145 : (Jvm.Cond.fieldLink "FanNet" (82 : Nat) "FanNet" "faultPlace" "I") ∈ am_big := am_t2 (List.mem_of_getElem? (i := 145) rfl) rfl
theorem w2_146 : (Jvm.Cond.fieldLink "FanNet" (86 : Nat) "FanNet" "mostNodes" "I") ∈ am_big := am_t2 (List.mem_of_getElem? (i := 146) rfl) rfl
theorem w2_147 : (Jvm.Cond.fieldLink "FanNet" (89 : Nat) "FanNet" "plainRounds" "I") ∈ am_big := am_t2 (List.mem_of_getElem? (i := 147) rfl) rfl
theorem w2_148 : (Jvm.Cond.fieldLink "FanNet" (92 : Nat) "FanNet" "plainKnown" "Z") ∈ am_big := am_t2 (List.mem_of_getElem? (i := 148) rfl) rfl
theorem w2_149 : (Jvm.Cond.fieldLink "FanNet" (96 : Nat) "FanNet" "readKnown" "Z") ∈ am_big := am_t2 (List.mem_of_getElem? (i := 149) rfl) rfl
theorem w2_33 : (Jvm.Cond.methodLink "FanNet" (99 : Nat) ({ cls := "FanNet$Row", name := "add", desc := "(I)Z" } : Jvm.MethodName)) ∈ am_big := am_t2 (List.mem_of_getElem? (i := 33) rfl) rfl
theorem w2_51 : (Jvm.Cond.methodLink "FanNet" (103 : Nat) ({ cls := "FanNet$Layer", name := "lay", desc := "(LFanNet$Row;LFanNet$Net;)Z" } : Jvm.MethodName)) ∈ am_big := am_t2 (List.mem_of_getElem? (i := 51) rfl) rfl
theorem w2_52 : (Jvm.Cond.instanceMethod ({ cls := "FanNet$Layer", name := "lay", desc := "(LFanNet$Row;LFanNet$Net;)Z" } : Jvm.MethodName)) ∈ am_big := am_t2 (List.mem_of_getElem? (i := 52) rfl) rfl
theorem w2_53 : (Jvm.Cond.selects "FanNet$Layer" ({ cls := "FanNet$Layer", name := "lay", desc := "(LFanNet$Row;LFanNet$Net;)Z" } : Jvm.MethodName) ({ cls := "FanNet$Layer", name := "lay", desc := "(LFanNet$Row;LFanNet$Net;)Z" } : Jvm.MethodName)) ∈ am_big := am_t2 (List.mem_of_getElem? (i := 53) rfl) rfl
theorem w2_54 : (Jvm.Cond.code ({ cls := "FanNet$Layer", name := "lay", desc := "(LFanNet$Row;LFanNet$Net;)Z" } : Jvm.MethodName) prog_2_method_2_code (5 : Nat) (Option.some Jvm.ClassFile.FieldType.boolean)) ∈ am_big := am_t2 (List.mem_of_getElem? (i := 54) rfl) rfl
theorem w2_119 : (Jvm.Cond.methodLink "FanNet" (107 : Nat) ({ cls := "FanNet", name := "beginAnew", desc := "()V" } : Jvm.MethodName)) ∈ am_big := am_t2 (List.mem_of_getElem? (i := 119) rfl) rfl
theorem w2_121 : (Jvm.Cond.instanceMethod ({ cls := "FanNet", name := "beginAnew", desc := "()V" } : Jvm.MethodName)) ∈ am_big := am_t2 (List.mem_of_getElem? (i := 121) rfl) rfl
theorem w0_6 : Cond.selects "FanNet" (⟨"FanNet", "beginAnew", "()V"⟩ : MethodName) ⟨"FanNet", "beginAnew", "()V"⟩ ∈ am_big := am_t0 (List.mem_of_getElem? (i := 6) rfl) rfl
theorem w2_122 : (Jvm.Cond.code ({ cls := "FanNet", name := "beginAnew", desc := "()V" } : Jvm.MethodName) prog_1_method_21_code (1 : Nat) (Option.none : Option Jvm.ClassFile.FieldType)) ∈ am_big := am_t2 (List.mem_of_getElem? (i := 122) rfl) rfl
theorem w2_191 : (Jvm.Cond.methodLink "FanNet" (110 : Nat) ({ cls := "FanNet$Row", name := "size", desc := "()I" } : Jvm.MethodName)) ∈ am_big := am_t2 (List.mem_of_getElem? (i := 191) rfl) rfl
theorem w2_192 : (Jvm.Cond.methodLink "FanNet" (114 : Nat) ({ cls := "FanNet", name := "feedNumber", desc := "(I)V" } : Jvm.MethodName)) ∈ am_big := am_t2 (List.mem_of_getElem? (i := 192) rfl) rfl
theorem w2_194 : (Jvm.Cond.instanceMethod ({ cls := "FanNet", name := "feedNumber", desc := "(I)V" } : Jvm.MethodName)) ∈ am_big := am_t2 (List.mem_of_getElem? (i := 194) rfl) rfl
theorem w0_8 : Cond.selects "FanNet" (⟨"FanNet", "feedNumber", "(I)V"⟩ : MethodName) ⟨"FanNet", "feedNumber", "(I)V"⟩ ∈ am_big := am_t0 (List.mem_of_getElem? (i := 8) rfl) rfl
theorem w2_195 : (Jvm.Cond.code ({ cls := "FanNet", name := "feedNumber", desc := "(I)V" } : Jvm.MethodName) prog_1_method_19_code (2 : Nat) (Option.none : Option Jvm.ClassFile.FieldType)) ∈ am_big := am_t2 (List.mem_of_getElem? (i := 195) rfl) rfl
theorem w2_222 : (Jvm.Cond.classLink "FanNet" (118 : Nat) "java/lang/IllegalArgumentException") ∈ am_big := am_t2 (List.mem_of_getElem? (i := 222) rfl) rfl
theorem w1_18 : (Jvm.Cond.initialized "java/lang/IllegalArgumentException") ∈ am_big := am_t1 (List.mem_of_getElem? (i := 18) rfl) rfl
theorem w3_49 : (Jvm.Cond.methodLink "FanNet" (125 : Nat) ({ cls := "FanNet$Row", name := "cut", desc := "(I)V" } : Jvm.MethodName)) ∈ am_big := am_t3 (List.mem_of_getElem? (i := 49) rfl) rfl
theorem w3_50 : (Jvm.Cond.methodLink "FanNet" (128 : Nat) ({ cls := "FanNet$Text", name := "findFault", desc := "()I" } : Jvm.MethodName)) ∈ am_big := am_t3 (List.mem_of_getElem? (i := 50) rfl) rfl
theorem w3_51 : (Jvm.Cond.instanceMethod ({ cls := "FanNet$Text", name := "findFault", desc := "()I" } : Jvm.MethodName)) ∈ am_big := am_t3 (List.mem_of_getElem? (i := 51) rfl) rfl
theorem w3_52 : (Jvm.Cond.selects "FanNet$Text" ({ cls := "FanNet$Text", name := "findFault", desc := "()I" } : Jvm.MethodName) ({ cls := "FanNet$Text", name := "findFault", desc := "()I" } : Jvm.MethodName)) ∈ am_big := am_t3 (List.mem_of_getElem? (i := 52) rfl) rfl
theorem w3_53 : (Jvm.Cond.code ({ cls := "FanNet$Text", name := "findFault", desc := "()I" } : Jvm.MethodName) prog_8_method_3_code (3 : Nat) (Option.some Jvm.ClassFile.FieldType.int)) ∈ am_big := am_t3 (List.mem_of_getElem? (i := 53) rfl) rfl
theorem w3_175 : (Jvm.Cond.methodLink "FanNet" (131 : Nat) ({ cls := "FanNet$Text", name := "place", desc := "()I" } : Jvm.MethodName)) ∈ am_big := am_t3 (List.mem_of_getElem? (i := 175) rfl) rfl
theorem w3_176 : (Jvm.Cond.instanceMethod ({ cls := "FanNet$Text", name := "place", desc := "()I" } : Jvm.MethodName)) ∈ am_big := am_t3 (List.mem_of_getElem? (i := 176) rfl) rfl
theorem w3_177 : (Jvm.Cond.selects "FanNet$Text" ({ cls := "FanNet$Text", name := "place", desc := "()I" } : Jvm.MethodName) ({ cls := "FanNet$Text", name := "place", desc := "()I" } : Jvm.MethodName)) ∈ am_big := am_t3 (List.mem_of_getElem? (i := 177) rfl) rfl
theorem w3_178 : (Jvm.Cond.code ({ cls := "FanNet$Text", name := "place", desc := "()I" } : Jvm.MethodName) prog_8_method_2_code (1 : Nat) (Option.some Jvm.ClassFile.FieldType.int)) ∈ am_big := am_t3 (List.mem_of_getElem? (i := 178) rfl) rfl
theorem w3_179 : (Jvm.Cond.methodLink "FanNet" (134 : Nat) ({ cls := "FanNet", name := "takeProgram", desc := "()Z" } : Jvm.MethodName)) ∈ am_big := am_t3 (List.mem_of_getElem? (i := 179) rfl) rfl
theorem w3_181 : (Jvm.Cond.instanceMethod ({ cls := "FanNet", name := "takeProgram", desc := "()Z" } : Jvm.MethodName)) ∈ am_big := am_t3 (List.mem_of_getElem? (i := 181) rfl) rfl
theorem w0_29 : Cond.selects "FanNet" (⟨"FanNet", "takeProgram", "()Z"⟩ : MethodName) ⟨"FanNet", "takeProgram", "()Z"⟩ ∈ am_big := am_t0 (List.mem_of_getElem? (i := 29) rfl) rfl
theorem w3_182 : (Jvm.Cond.code ({ cls := "FanNet", name := "takeProgram", desc := "()Z" } : Jvm.MethodName) prog_1_method_20_code (2 : Nat) (Option.some Jvm.ClassFile.FieldType.boolean)) ∈ am_big := am_t3 (List.mem_of_getElem? (i := 182) rfl) rfl
theorem w2_124 : (Jvm.Cond.methodLink "FanNet" (138 : Nat) ({ cls := "FanNet$Net", name := "size", desc := "()I" } : Jvm.MethodName)) ∈ am_big := am_t2 (List.mem_of_getElem? (i := 124) rfl) rfl
theorem w2_125 : (Jvm.Cond.instanceMethod ({ cls := "FanNet$Net", name := "size", desc := "()I" } : Jvm.MethodName)) ∈ am_big := am_t2 (List.mem_of_getElem? (i := 125) rfl) rfl
theorem w2_126 : (Jvm.Cond.selects "FanNet$Net" ({ cls := "FanNet$Net", name := "size", desc := "()I" } : Jvm.MethodName) ({ cls := "FanNet$Net", name := "size", desc := "()I" } : Jvm.MethodName)) ∈ am_big := am_t2 (List.mem_of_getElem? (i := 126) rfl) rfl
theorem w2_127 : (Jvm.Cond.code ({ cls := "FanNet$Net", name := "size", desc := "()I" } : Jvm.MethodName) prog_3_method_4_code (1 : Nat) (Option.some Jvm.ClassFile.FieldType.int)) ∈ am_big := am_t2 (List.mem_of_getElem? (i := 127) rfl) rfl
theorem w3_201 : (Jvm.Cond.methodLink "FanNet" (139 : Nat) ({ cls := "FanNet", name := "refuseOtherWays", desc := "(I)V" } : Jvm.MethodName)) ∈ am_big := am_t3 (List.mem_of_getElem? (i := 201) rfl) rfl
theorem w3_202 : (Jvm.Cond.static ({ cls := "FanNet", name := "refuseOtherWays", desc := "(I)V" } : Jvm.MethodName)) ∈ am_big := am_t3 (List.mem_of_getElem? (i := 202) rfl) rfl
theorem w3_203 : (Jvm.Cond.code ({ cls := "FanNet", name := "refuseOtherWays", desc := "(I)V" } : Jvm.MethodName) prog_1_method_28_code (1 : Nat) (Option.none : Option Jvm.ClassFile.FieldType)) ∈ am_big := am_t3 (List.mem_of_getElem? (i := 203) rfl) rfl
theorem w3_205 : (Jvm.Cond.methodLink "FanNet" (142 : Nat) ({ cls := "FanNet", name := "workOn", desc := "(LFanNet$Net;I)I" } : Jvm.MethodName)) ∈ am_big := am_t3 (List.mem_of_getElem? (i := 205) rfl) rfl
theorem w3_207 : (Jvm.Cond.instanceMethod ({ cls := "FanNet", name := "workOn", desc := "(LFanNet$Net;I)I" } : Jvm.MethodName)) ∈ am_big := am_t3 (List.mem_of_getElem? (i := 207) rfl) rfl
theorem w0_30 : Cond.selects "FanNet" (⟨"FanNet", "workOn", "(LFanNet$Net;I)I"⟩ : MethodName) ⟨"FanNet", "workOn", "(LFanNet$Net;I)I"⟩ ∈ am_big := am_t0 (List.mem_of_getElem? (i := 30) rfl) rfl
theorem w3_208 : (Jvm.Cond.code ({ cls := "FanNet", name := "workOn", desc := "(LFanNet$Net;I)I" } : Jvm.MethodName) prog_1_method_24_code (4 : Nat) (Option.some Jvm.ClassFile.FieldType.int)) ∈ am_big := am_t3 (List.mem_of_getElem? (i := 208) rfl) rfl
theorem w4_156 : (Jvm.Cond.methodLink "FanNet" (146 : Nat) ({ cls := "FanNet", name := "noteStep", desc := "(I)V" } : Jvm.MethodName)) ∈ am_big := am_t4 (List.mem_of_getElem? (i := 156) rfl) rfl
theorem w4_158 : (Jvm.Cond.instanceMethod ({ cls := "FanNet", name := "noteStep", desc := "(I)V" } : Jvm.MethodName)) ∈ am_big := am_t4 (List.mem_of_getElem? (i := 158) rfl) rfl
theorem w0_49 : Cond.selects "FanNet" (⟨"FanNet", "noteStep", "(I)V"⟩ : MethodName) ⟨"FanNet", "noteStep", "(I)V"⟩ ∈ am_big := am_t0 (List.mem_of_getElem? (i := 49) rfl) rfl
theorem w4_159 : (Jvm.Cond.code ({ cls := "FanNet", name := "noteStep", desc := "(I)V" } : Jvm.MethodName) prog_1_method_23_code (2 : Nat) (Option.none : Option Jvm.ClassFile.FieldType)) ∈ am_big := am_t4 (List.mem_of_getElem? (i := 159) rfl) rfl
theorem w4_179 : (Jvm.Cond.methodLink "FanNet" (151 : Nat) ({ cls := "FanNet$Net", name := "sizeOfKind", desc := "(I)I" } : Jvm.MethodName)) ∈ am_big := am_t4 (List.mem_of_getElem? (i := 179) rfl) rfl
theorem w4_180 : (Jvm.Cond.instanceMethod ({ cls := "FanNet$Net", name := "sizeOfKind", desc := "(I)I" } : Jvm.MethodName)) ∈ am_big := am_t4 (List.mem_of_getElem? (i := 180) rfl) rfl
theorem w4_181 : (Jvm.Cond.selects "FanNet$Net" ({ cls := "FanNet$Net", name := "sizeOfKind", desc := "(I)I" } : Jvm.MethodName) ({ cls := "FanNet$Net", name := "sizeOfKind", desc := "(I)I" } : Jvm.MethodName)) ∈ am_big := am_t4 (List.mem_of_getElem? (i := 181) rfl) rfl
theorem w4_182 : (Jvm.Cond.code ({ cls := "FanNet$Net", name := "sizeOfKind", desc := "(I)I" } : Jvm.MethodName) prog_3_method_13_code (4 : Nat) (Option.some Jvm.ClassFile.FieldType.int)) ∈ am_big := am_t4 (List.mem_of_getElem? (i := 182) rfl) rfl
theorem w4_160 : (Jvm.Cond.methodLink "FanNet" (155 : Nat) ({ cls := "FanNet$Row", name := "get", desc := "(I)I" } : Jvm.MethodName)) ∈ am_big := am_t4 (List.mem_of_getElem? (i := 160) rfl) rfl
theorem w4_183 : (Jvm.Cond.methodLink "FanNet" (158 : Nat) ({ cls := "FanNet$Net", name := "activeWires", desc := "()I" } : Jvm.MethodName)) ∈ am_big := am_t4 (List.mem_of_getElem? (i := 183) rfl) rfl
theorem w4_184 : (Jvm.Cond.instanceMethod ({ cls := "FanNet$Net", name := "activeWires", desc := "()I" } : Jvm.MethodName)) ∈ am_big := am_t4 (List.mem_of_getElem? (i := 184) rfl) rfl
theorem w4_185 : (Jvm.Cond.selects "FanNet$Net" ({ cls := "FanNet$Net", name := "activeWires", desc := "()I" } : Jvm.MethodName) ({ cls := "FanNet$Net", name := "activeWires", desc := "()I" } : Jvm.MethodName)) ∈ am_big := am_t4 (List.mem_of_getElem? (i := 185) rfl) rfl
theorem w4_186 : (Jvm.Cond.code ({ cls := "FanNet$Net", name := "activeWires", desc := "()I" } : Jvm.MethodName) prog_3_method_15_code (3 : Nat) (Option.some Jvm.ClassFile.FieldType.int)) ∈ am_big := am_t4 (List.mem_of_getElem? (i := 186) rfl) rfl
theorem w4_187 : (Jvm.Cond.methodLink "FanNet" (161 : Nat) ({ cls := "FanNet$Net", name := "greatestLevel", desc := "()I" } : Jvm.MethodName)) ∈ am_big := am_t4 (List.mem_of_getElem? (i := 187) rfl) rfl
theorem w4_188 : (Jvm.Cond.instanceMethod ({ cls := "FanNet$Net", name := "greatestLevel", desc := "()I" } : Jvm.MethodName)) ∈ am_big := am_t4 (List.mem_of_getElem? (i := 188) rfl) rfl
theorem w4_189 : (Jvm.Cond.selects "FanNet$Net" ({ cls := "FanNet$Net", name := "greatestLevel", desc := "()I" } : Jvm.MethodName) ({ cls := "FanNet$Net", name := "greatestLevel", desc := "()I" } : Jvm.MethodName)) ∈ am_big := am_t4 (List.mem_of_getElem? (i := 189) rfl) rfl
theorem w4_190 : (Jvm.Cond.code ({ cls := "FanNet$Net", name := "greatestLevel", desc := "()I" } : Jvm.MethodName) prog_3_method_14_code (3 : Nat) (Option.some Jvm.ClassFile.FieldType.int)) ∈ am_big := am_t4 (List.mem_of_getElem? (i := 190) rfl) rfl
theorem w4_191 : (Jvm.Cond.methodLink "FanNet" (164 : Nat) ({ cls := "FanNet", name := "termOf", desc := "(I)LFanNet$Row;" } : Jvm.MethodName)) ∈ am_big := am_t4 (List.mem_of_getElem? (i := 191) rfl) rfl
theorem w4_193 : (Jvm.Cond.instanceMethod ({ cls := "FanNet", name := "termOf", desc := "(I)LFanNet$Row;" } : Jvm.MethodName)) ∈ am_big := am_t4 (List.mem_of_getElem? (i := 193) rfl) rfl
theorem w0_50 : Cond.selects "FanNet" (⟨"FanNet", "termOf", "(I)LFanNet$Row;"⟩ : MethodName) ⟨"FanNet", "termOf", "(I)LFanNet$Row;"⟩ ∈ am_big := am_t0 (List.mem_of_getElem? (i := 50) rfl) rfl
theorem w4_194 : (Jvm.Cond.code ({ cls := "FanNet", name := "termOf", desc := "(I)LFanNet$Row;" } : Jvm.MethodName) prog_1_method_25_code (2 : Nat) (Option.some (Jvm.ClassFile.FieldType.object "FanNet$Row"))) ∈ am_big := am_t4 (List.mem_of_getElem? (i := 194) rfl) rfl
theorem w5_11 : (Jvm.Cond.methodLink "FanNet" (168 : Nat) ({ cls := "FanNet", name := "sizeOf", desc := "(LFanNet$Row;)I" } : Jvm.MethodName)) ∈ am_big := am_t5 (List.mem_of_getElem? (i := 11) rfl) rfl
theorem w5_12 : (Jvm.Cond.static ({ cls := "FanNet", name := "sizeOf", desc := "(LFanNet$Row;)I" } : Jvm.MethodName)) ∈ am_big := am_t5 (List.mem_of_getElem? (i := 12) rfl) rfl
theorem w5_13 : (Jvm.Cond.code ({ cls := "FanNet", name := "sizeOf", desc := "(LFanNet$Row;)I" } : Jvm.MethodName) prog_1_method_26_code (1 : Nat) (Option.some Jvm.ClassFile.FieldType.int)) ∈ am_big := am_t5 (List.mem_of_getElem? (i := 13) rfl) rfl
theorem w5_14 : (Jvm.Cond.methodLink "FanNet" (172 : Nat) ({ cls := "FanNet$Walk", name := "wantedWires", desc := "()I" } : Jvm.MethodName)) ∈ am_big := am_t5 (List.mem_of_getElem? (i := 14) rfl) rfl
theorem w5_15 : (Jvm.Cond.instanceMethod ({ cls := "FanNet$Walk", name := "wantedWires", desc := "()I" } : Jvm.MethodName)) ∈ am_big := am_t5 (List.mem_of_getElem? (i := 15) rfl) rfl
theorem w5_16 : (Jvm.Cond.selects "FanNet$Walk" ({ cls := "FanNet$Walk", name := "wantedWires", desc := "()I" } : Jvm.MethodName) ({ cls := "FanNet$Walk", name := "wantedWires", desc := "()I" } : Jvm.MethodName)) ∈ am_big := am_t5 (List.mem_of_getElem? (i := 16) rfl) rfl
theorem w5_17 : (Jvm.Cond.code ({ cls := "FanNet$Walk", name := "wantedWires", desc := "()I" } : Jvm.MethodName) prog_10_method_6_code (1 : Nat) (Option.some Jvm.ClassFile.FieldType.int)) ∈ am_big := am_t5 (List.mem_of_getElem? (i := 17) rfl) rfl
theorem w5_18 : (Jvm.Cond.methodLink "FanNet" (175 : Nat) ({ cls := "FanNet$Walk", name := "wires", desc := "()I" } : Jvm.MethodName)) ∈ am_big := am_t5 (List.mem_of_getElem? (i := 18) rfl) rfl
theorem w5_19 : (Jvm.Cond.instanceMethod ({ cls := "FanNet$Walk", name := "wires", desc := "()I" } : Jvm.MethodName)) ∈ am_big := am_t5 (List.mem_of_getElem? (i := 19) rfl) rfl
theorem w5_20 : (Jvm.Cond.selects "FanNet$Walk" ({ cls := "FanNet$Walk", name := "wires", desc := "()I" } : Jvm.MethodName) ({ cls := "FanNet$Walk", name := "wires", desc := "()I" } : Jvm.MethodName)) ∈ am_big := am_t5 (List.mem_of_getElem? (i := 20) rfl) rfl
theorem w5_21 : (Jvm.Cond.code ({ cls := "FanNet$Walk", name := "wires", desc := "()I" } : Jvm.MethodName) prog_10_method_4_code (1 : Nat) (Option.some Jvm.ClassFile.FieldType.int)) ∈ am_big := am_t5 (List.mem_of_getElem? (i := 21) rfl) rfl
theorem w5_22 : (Jvm.Cond.classLink "FanNet" (178 : Nat) "java/util/NoSuchElementException") ∈ am_big := am_t5 (List.mem_of_getElem? (i := 22) rfl) rfl
theorem w1_19 : (Jvm.Cond.initialized "java/util/NoSuchElementException") ∈ am_big := am_t1 (List.mem_of_getElem? (i := 19) rfl) rfl
theorem w5_45 : (Jvm.Cond.methodLink "FanNet" (183 : Nat) ({ cls := "FanNet$Net", name := "has", desc := "(I)Z" } : Jvm.MethodName)) ∈ am_big := am_t5 (List.mem_of_getElem? (i := 45) rfl) rfl
theorem w5_46 : (Jvm.Cond.instanceMethod ({ cls := "FanNet$Net", name := "has", desc := "(I)Z" } : Jvm.MethodName)) ∈ am_big := am_t5 (List.mem_of_getElem? (i := 46) rfl) rfl
theorem w5_47 : (Jvm.Cond.selects "FanNet$Net" ({ cls := "FanNet$Net", name := "has", desc := "(I)Z" } : Jvm.MethodName) ({ cls := "FanNet$Net", name := "has", desc := "(I)Z" } : Jvm.MethodName)) ∈ am_big := am_t5 (List.mem_of_getElem? (i := 47) rfl) rfl
theorem w5_48 : (Jvm.Cond.code ({ cls := "FanNet$Net", name := "has", desc := "(I)Z" } : Jvm.MethodName) prog_3_method_6_code (2 : Nat) (Option.some Jvm.ClassFile.FieldType.boolean)) ∈ am_big := am_t5 (List.mem_of_getElem? (i := 48) rfl) rfl
theorem w5_50 : (Jvm.Cond.methodLink "FanNet" (188 : Nat) ({ cls := "FanNet$Net", name := "kind", desc := "(I)I" } : Jvm.MethodName)) ∈ am_big := am_t5 (List.mem_of_getElem? (i := 50) rfl) rfl
theorem w5_51 : (Jvm.Cond.methodLink "FanNet" (191 : Nat) ({ cls := "FanNet$Net", name := "level", desc := "(I)I" } : Jvm.MethodName)) ∈ am_big := am_t5 (List.mem_of_getElem? (i := 51) rfl) rfl
theorem w5_52 : (Jvm.Cond.methodLink "FanNet" (194 : Nat) ({ cls := "FanNet$Net", name := "ports", desc := "(I)I" } : Jvm.MethodName)) ∈ am_big := am_t5 (List.mem_of_getElem? (i := 52) rfl) rfl
theorem w5_53 : (Jvm.Cond.methodLink "FanNet" (197 : Nat) ({ cls := "FanNet$Net", name := "wire", desc := "(I)I" } : Jvm.MethodName)) ∈ am_big := am_t5 (List.mem_of_getElem? (i := 53) rfl) rfl
theorem w5_61 : (Jvm.Cond.methodLink "FanNet" (200 : Nat) ({ cls := "FanNet$Net", name := "activeNode", desc := "(I)I" } : Jvm.MethodName)) ∈ am_big := am_t5 (List.mem_of_getElem? (i := 61) rfl) rfl
theorem w5_63 : (Jvm.Cond.methodLink "FanNet" (205 : Nat) ({ cls := "FanNet$Net", name := "stepKind", desc := "(II)I" } : Jvm.MethodName)) ∈ am_big := am_t5 (List.mem_of_getElem? (i := 63) rfl) rfl
theorem w4_90 : (Jvm.Cond.methodLink "FanNet" (211 : Nat) ({ cls := "FanNet$Walk", name := "wantedNode", desc := "()I" } : Jvm.MethodName)) ∈ am_big := am_t4 (List.mem_of_getElem? (i := 90) rfl) rfl
theorem w4_91 : (Jvm.Cond.instanceMethod ({ cls := "FanNet$Walk", name := "wantedNode", desc := "()I" } : Jvm.MethodName)) ∈ am_big := am_t4 (List.mem_of_getElem? (i := 91) rfl) rfl
theorem w4_92 : (Jvm.Cond.selects "FanNet$Walk" ({ cls := "FanNet$Walk", name := "wantedNode", desc := "()I" } : Jvm.MethodName) ({ cls := "FanNet$Walk", name := "wantedNode", desc := "()I" } : Jvm.MethodName)) ∈ am_big := am_t4 (List.mem_of_getElem? (i := 92) rfl) rfl
theorem w4_93 : (Jvm.Cond.code ({ cls := "FanNet$Walk", name := "wantedNode", desc := "()I" } : Jvm.MethodName) prog_10_method_5_code (1 : Nat) (Option.some Jvm.ClassFile.FieldType.int)) ∈ am_big := am_t4 (List.mem_of_getElem? (i := 93) rfl) rfl
theorem w5_87 : (Jvm.Cond.methodLink "FanNet" (216 : Nat) ({ cls := "FanNet", name := "refuseOtherTerms", desc := "(I)V" } : Jvm.MethodName)) ∈ am_big := am_t5 (List.mem_of_getElem? (i := 87) rfl) rfl
theorem w5_88 : (Jvm.Cond.static ({ cls := "FanNet", name := "refuseOtherTerms", desc := "(I)V" } : Jvm.MethodName)) ∈ am_big := am_t5 (List.mem_of_getElem? (i := 88) rfl) rfl
theorem w5_89 : (Jvm.Cond.code ({ cls := "FanNet", name := "refuseOtherTerms", desc := "(I)V" } : Jvm.MethodName) prog_1_method_29_code (1 : Nat) (Option.none : Option Jvm.ClassFile.FieldType)) ∈ am_big := am_t5 (List.mem_of_getElem? (i := 89) rfl) rfl
theorem w5_91 : (Jvm.Cond.methodLink "FanNet" (219 : Nat) ({ cls := "FanNet$Teller", name := "saying", desc := "(LFanNet$Row;)I" } : Jvm.MethodName)) ∈ am_big := am_t5 (List.mem_of_getElem? (i := 91) rfl) rfl
theorem w5_92 : (Jvm.Cond.instanceMethod ({ cls := "FanNet$Teller", name := "saying", desc := "(LFanNet$Row;)I" } : Jvm.MethodName)) ∈ am_big := am_t5 (List.mem_of_getElem? (i := 92) rfl) rfl
theorem w5_93 : (Jvm.Cond.selects "FanNet$Teller" ({ cls := "FanNet$Teller", name := "saying", desc := "(LFanNet$Row;)I" } : Jvm.MethodName) ({ cls := "FanNet$Teller", name := "saying", desc := "(LFanNet$Row;)I" } : Jvm.MethodName)) ∈ am_big := am_t5 (List.mem_of_getElem? (i := 93) rfl) rfl
theorem w5_94 : (Jvm.Cond.code ({ cls := "FanNet$Teller", name := "saying", desc := "(LFanNet$Row;)I" } : Jvm.MethodName) prog_7_method_3_code (5 : Nat) (Option.some Jvm.ClassFile.FieldType.int)) ∈ am_big := am_t5 (List.mem_of_getElem? (i := 94) rfl) rfl
theorem w2_208 : (Jvm.Cond.methodLink "FanNet" (222 : Nat) ({ cls := "FanNet$Teller", name := "sign", desc := "(I)I" } : Jvm.MethodName)) ∈ am_big := am_t2 (List.mem_of_getElem? (i := 208) rfl) rfl
theorem w2_209 : (Jvm.Cond.instanceMethod ({ cls := "FanNet$Teller", name := "sign", desc := "(I)I" } : Jvm.MethodName)) ∈ am_big := am_t2 (List.mem_of_getElem? (i := 209) rfl) rfl
theorem w2_210 : (Jvm.Cond.selects "FanNet$Teller" ({ cls := "FanNet$Teller", name := "sign", desc := "(I)I" } : Jvm.MethodName) ({ cls := "FanNet$Teller", name := "sign", desc := "(I)I" } : Jvm.MethodName)) ∈ am_big := am_t2 (List.mem_of_getElem? (i := 210) rfl) rfl
theorem w2_211 : (Jvm.Cond.code ({ cls := "FanNet$Teller", name := "sign", desc := "(I)I" } : Jvm.MethodName) prog_7_method_2_code (2 : Nat) (Option.some Jvm.ClassFile.FieldType.int)) ∈ am_big := am_t2 (List.mem_of_getElem? (i := 211) rfl) rfl
theorem w5_120 : (Jvm.Cond.methodLink "FanNet" (227 : Nat) ({ cls := "FanNet$Row", name := "alike", desc := "(LFanNet$Row;)Z" } : Jvm.MethodName)) ∈ am_big := am_t5 (List.mem_of_getElem? (i := 120) rfl) rfl
theorem w5_121 : (Jvm.Cond.instanceMethod ({ cls := "FanNet$Row", name := "alike", desc := "(LFanNet$Row;)Z" } : Jvm.MethodName)) ∈ am_big := am_t5 (List.mem_of_getElem? (i := 121) rfl) rfl
theorem w5_122 : (Jvm.Cond.selects "FanNet$Row" ({ cls := "FanNet$Row", name := "alike", desc := "(LFanNet$Row;)Z" } : Jvm.MethodName) ({ cls := "FanNet$Row", name := "alike", desc := "(LFanNet$Row;)Z" } : Jvm.MethodName)) ∈ am_big := am_t5 (List.mem_of_getElem? (i := 122) rfl) rfl
theorem w5_123 : (Jvm.Cond.code ({ cls := "FanNet$Row", name := "alike", desc := "(LFanNet$Row;)Z" } : Jvm.MethodName) prog_5_method_12_code (3 : Nat) (Option.some Jvm.ClassFile.FieldType.boolean)) ∈ am_big := am_t5 (List.mem_of_getElem? (i := 123) rfl) rfl
theorem w4_203 : (Jvm.Cond.methodLink "FanNet" (233 : Nat) ({ cls := "FanNet$Plainly", name := "workOff", desc := "(LFanNet$Row;I)V" } : Jvm.MethodName)) ∈ am_big := am_t4 (List.mem_of_getElem? (i := 203) rfl) rfl
theorem w4_204 : (Jvm.Cond.instanceMethod ({ cls := "FanNet$Plainly", name := "workOff", desc := "(LFanNet$Row;I)V" } : Jvm.MethodName)) ∈ am_big := am_t4 (List.mem_of_getElem? (i := 204) rfl) rfl
theorem w4_205 : (Jvm.Cond.selects "FanNet$Plainly" ({ cls := "FanNet$Plainly", name := "workOff", desc := "(LFanNet$Row;I)V" } : Jvm.MethodName) ({ cls := "FanNet$Plainly", name := "workOff", desc := "(LFanNet$Row;I)V" } : Jvm.MethodName)) ∈ am_big := am_t4 (List.mem_of_getElem? (i := 205) rfl) rfl
theorem w4_206 : (Jvm.Cond.code ({ cls := "FanNet$Plainly", name := "workOff", desc := "(LFanNet$Row;I)V" } : Jvm.MethodName) prog_4_method_6_code (7 : Nat) (Option.none : Option Jvm.ClassFile.FieldType)) ∈ am_big := am_t4 (List.mem_of_getElem? (i := 206) rfl) rfl
theorem w5_132 : (Jvm.Cond.methodLink "FanNet" (237 : Nat) ({ cls := "FanNet$Plainly", name := "tooMany", desc := "()Z" } : Jvm.MethodName)) ∈ am_big := am_t5 (List.mem_of_getElem? (i := 132) rfl) rfl
theorem w5_133 : (Jvm.Cond.instanceMethod ({ cls := "FanNet$Plainly", name := "tooMany", desc := "()Z" } : Jvm.MethodName)) ∈ am_big := am_t5 (List.mem_of_getElem? (i := 133) rfl) rfl
theorem w5_134 : (Jvm.Cond.selects "FanNet$Plainly" ({ cls := "FanNet$Plainly", name := "tooMany", desc := "()Z" } : Jvm.MethodName) ({ cls := "FanNet$Plainly", name := "tooMany", desc := "()Z" } : Jvm.MethodName)) ∈ am_big := am_t5 (List.mem_of_getElem? (i := 134) rfl) rfl
theorem w5_135 : (Jvm.Cond.code ({ cls := "FanNet$Plainly", name := "tooMany", desc := "()Z" } : Jvm.MethodName) prog_4_method_4_code (1 : Nat) (Option.some Jvm.ClassFile.FieldType.boolean)) ∈ am_big := am_t5 (List.mem_of_getElem? (i := 135) rfl) rfl
theorem w4_239 : (Jvm.Cond.methodLink "FanNet" (240 : Nat) ({ cls := "FanNet$Plainly", name := "term", desc := "()LFanNet$Row;" } : Jvm.MethodName)) ∈ am_big := am_t4 (List.mem_of_getElem? (i := 239) rfl) rfl
theorem w5_0 : (Jvm.Cond.instanceMethod ({ cls := "FanNet$Plainly", name := "term", desc := "()LFanNet$Row;" } : Jvm.MethodName)) ∈ am_big := am_t5 (List.mem_of_getElem? (i := 0) rfl) rfl
theorem w5_1 : (Jvm.Cond.selects "FanNet$Plainly" ({ cls := "FanNet$Plainly", name := "term", desc := "()LFanNet$Row;" } : Jvm.MethodName) ({ cls := "FanNet$Plainly", name := "term", desc := "()LFanNet$Row;" } : Jvm.MethodName)) ∈ am_big := am_t5 (List.mem_of_getElem? (i := 1) rfl) rfl
theorem w5_2 : (Jvm.Cond.code ({ cls := "FanNet$Plainly", name := "term", desc := "()LFanNet$Row;" } : Jvm.MethodName) prog_4_method_2_code (1 : Nat) (Option.some (Jvm.ClassFile.FieldType.object "FanNet$Row"))) ∈ am_big := am_t5 (List.mem_of_getElem? (i := 2) rfl) rfl
theorem w5_143 : (Jvm.Cond.methodLink "FanNet" (244 : Nat) ({ cls := "FanNet", name := "isRedex", desc := "(LFanNet$Row;I)Z" } : Jvm.MethodName)) ∈ am_big := am_t5 (List.mem_of_getElem? (i := 143) rfl) rfl
theorem w5_152 : (Jvm.Cond.methodLink "FanNet" (250 : Nat) ({ cls := "FanNet$Net", name := "copy", desc := "(LFanNet$Net;)V" } : Jvm.MethodName)) ∈ am_big := am_t5 (List.mem_of_getElem? (i := 152) rfl) rfl
theorem w5_153 : (Jvm.Cond.instanceMethod ({ cls := "FanNet$Net", name := "copy", desc := "(LFanNet$Net;)V" } : Jvm.MethodName)) ∈ am_big := am_t5 (List.mem_of_getElem? (i := 153) rfl) rfl
theorem w5_154 : (Jvm.Cond.selects "FanNet$Net" ({ cls := "FanNet$Net", name := "copy", desc := "(LFanNet$Net;)V" } : Jvm.MethodName) ({ cls := "FanNet$Net", name := "copy", desc := "(LFanNet$Net;)V" } : Jvm.MethodName)) ∈ am_big := am_t5 (List.mem_of_getElem? (i := 154) rfl) rfl
theorem w5_155 : (Jvm.Cond.code ({ cls := "FanNet$Net", name := "copy", desc := "(LFanNet$Net;)V" } : Jvm.MethodName) prog_3_method_3_code (2 : Nat) (Option.none : Option Jvm.ClassFile.FieldType)) ∈ am_big := am_t5 (List.mem_of_getElem? (i := 155) rfl) rfl
theorem w4_162 : (Jvm.Cond.methodLink "FanNet" (253 : Nat) ({ cls := "java/lang/Math", name := "max", desc := "(II)I" } : Jvm.MethodName)) ∈ am_big := am_t4 (List.mem_of_getElem? (i := 162) rfl) rfl
theorem w4_161 : (Jvm.Cond.methodLink "FanNet" (258 : Nat) ({ cls := "FanNet$Row", name := "set", desc := "(II)V" } : Jvm.MethodName)) ∈ am_big := am_t4 (List.mem_of_getElem? (i := 161) rfl) rfl
theorem w3_183 : (Jvm.Cond.methodLink "FanNet" (261 : Nat) ({ cls := "FanNet$Text", name := "putTerm", desc := "(LFanNet$Row;)Z" } : Jvm.MethodName)) ∈ am_big := am_t3 (List.mem_of_getElem? (i := 183) rfl) rfl
theorem w3_184 : (Jvm.Cond.instanceMethod ({ cls := "FanNet$Text", name := "putTerm", desc := "(LFanNet$Row;)Z" } : Jvm.MethodName)) ∈ am_big := am_t3 (List.mem_of_getElem? (i := 184) rfl) rfl
theorem w3_185 : (Jvm.Cond.selects "FanNet$Text" ({ cls := "FanNet$Text", name := "putTerm", desc := "(LFanNet$Row;)Z" } : Jvm.MethodName) ({ cls := "FanNet$Text", name := "putTerm", desc := "(LFanNet$Row;)Z" } : Jvm.MethodName)) ∈ am_big := am_t3 (List.mem_of_getElem? (i := 185) rfl) rfl
theorem w3_186 : (Jvm.Cond.code ({ cls := "FanNet$Text", name := "putTerm", desc := "(LFanNet$Row;)Z" } : Jvm.MethodName) prog_8_method_4_code (7 : Nat) (Option.some Jvm.ClassFile.FieldType.boolean)) ∈ am_big := am_t3 (List.mem_of_getElem? (i := 186) rfl) rfl
theorem w3_190 : (Jvm.Cond.methodLink "FanNet" (264 : Nat) ({ cls := "FanNet$Row", name := "copy", desc := "(LFanNet$Row;)V" } : Jvm.MethodName)) ∈ am_big := am_t3 (List.mem_of_getElem? (i := 190) rfl) rfl
theorem w2_123 : (Jvm.Cond.methodLink "FanNet" (266 : Nat) ({ cls := "FanNet$Row", name := "fill", desc := "(II)V" } : Jvm.MethodName)) ∈ am_big := am_t2 (List.mem_of_getElem? (i := 123) rfl) rfl
theorem w2_128 : (Jvm.Cond.methodLink "FanNet" (269 : Nat) ({ cls := "FanNet", name := "forget", desc := "()V" } : Jvm.MethodName)) ∈ am_big := am_t2 (List.mem_of_getElem? (i := 128) rfl) rfl
theorem w2_130 : (Jvm.Cond.instanceMethod ({ cls := "FanNet", name := "forget", desc := "()V" } : Jvm.MethodName)) ∈ am_big := am_t2 (List.mem_of_getElem? (i := 130) rfl) rfl
theorem w0_7 : Cond.selects "FanNet" (⟨"FanNet", "forget", "()V"⟩ : MethodName) ⟨"FanNet", "forget", "()V"⟩ ∈ am_big := am_t0 (List.mem_of_getElem? (i := 7) rfl) rfl
theorem w2_131 : (Jvm.Cond.code ({ cls := "FanNet", name := "forget", desc := "()V" } : Jvm.MethodName) prog_1_method_22_code (1 : Nat) (Option.none : Option Jvm.ClassFile.FieldType)) ∈ am_big := am_t2 (List.mem_of_getElem? (i := 131) rfl) rfl
theorem w3_209 : (Jvm.Cond.methodLink "FanNet" (272 : Nat) ({ cls := "FanNet$Walk", name := "go", desc := "(LFanNet$Net;Z)V" } : Jvm.MethodName)) ∈ am_big := am_t3 (List.mem_of_getElem? (i := 209) rfl) rfl
theorem w3_210 : (Jvm.Cond.instanceMethod ({ cls := "FanNet$Walk", name := "go", desc := "(LFanNet$Net;Z)V" } : Jvm.MethodName)) ∈ am_big := am_t3 (List.mem_of_getElem? (i := 210) rfl) rfl
theorem w3_211 : (Jvm.Cond.selects "FanNet$Walk" ({ cls := "FanNet$Walk", name := "go", desc := "(LFanNet$Net;Z)V" } : Jvm.MethodName) ({ cls := "FanNet$Walk", name := "go", desc := "(LFanNet$Net;Z)V" } : Jvm.MethodName)) ∈ am_big := am_t3 (List.mem_of_getElem? (i := 211) rfl) rfl
theorem w3_212 : (Jvm.Cond.code ({ cls := "FanNet$Walk", name := "go", desc := "(LFanNet$Net;Z)V" } : Jvm.MethodName) prog_10_method_7_code (5 : Nat) (Option.none : Option Jvm.ClassFile.FieldType)) ∈ am_big := am_t3 (List.mem_of_getElem? (i := 212) rfl) rfl
theorem w4_94 : (Jvm.Cond.methodLink "FanNet" (276 : Nat) ({ cls := "FanNet$Net", name := "leastActive", desc := "()I" } : Jvm.MethodName)) ∈ am_big := am_t4 (List.mem_of_getElem? (i := 94) rfl) rfl
theorem w4_95 : (Jvm.Cond.instanceMethod ({ cls := "FanNet$Net", name := "leastActive", desc := "()I" } : Jvm.MethodName)) ∈ am_big := am_t4 (List.mem_of_getElem? (i := 95) rfl) rfl
theorem w4_96 : (Jvm.Cond.selects "FanNet$Net" ({ cls := "FanNet$Net", name := "leastActive", desc := "()I" } : Jvm.MethodName) ({ cls := "FanNet$Net", name := "leastActive", desc := "()I" } : Jvm.MethodName)) ∈ am_big := am_t4 (List.mem_of_getElem? (i := 96) rfl) rfl
theorem w4_97 : (Jvm.Cond.code ({ cls := "FanNet$Net", name := "leastActive", desc := "()I" } : Jvm.MethodName) prog_3_method_16_code (1 : Nat) (Option.some Jvm.ClassFile.FieldType.int)) ∈ am_big := am_t4 (List.mem_of_getElem? (i := 97) rfl) rfl
theorem w4_106 : (Jvm.Cond.methodLink "FanNet" (279 : Nat) ({ cls := "FanNet$Net", name := "greatestActive", desc := "()I" } : Jvm.MethodName)) ∈ am_big := am_t4 (List.mem_of_getElem? (i := 106) rfl) rfl
theorem w4_107 : (Jvm.Cond.instanceMethod ({ cls := "FanNet$Net", name := "greatestActive", desc := "()I" } : Jvm.MethodName)) ∈ am_big := am_t4 (List.mem_of_getElem? (i := 107) rfl) rfl
theorem w4_108 : (Jvm.Cond.selects "FanNet$Net" ({ cls := "FanNet$Net", name := "greatestActive", desc := "()I" } : Jvm.MethodName) ({ cls := "FanNet$Net", name := "greatestActive", desc := "()I" } : Jvm.MethodName)) ∈ am_big := am_t4 (List.mem_of_getElem? (i := 108) rfl) rfl
theorem w4_109 : (Jvm.Cond.code ({ cls := "FanNet$Net", name := "greatestActive", desc := "()I" } : Jvm.MethodName) prog_3_method_17_code (2 : Nat) (Option.some Jvm.ClassFile.FieldType.int)) ∈ am_big := am_t4 (List.mem_of_getElem? (i := 109) rfl) rfl
theorem w4_110 : (Jvm.Cond.methodLink "FanNet" (282 : Nat) ({ cls := "FanNet$Net", name := "workOff", desc := "(I)I" } : Jvm.MethodName)) ∈ am_big := am_t4 (List.mem_of_getElem? (i := 110) rfl) rfl
theorem w4_111 : (Jvm.Cond.instanceMethod ({ cls := "FanNet$Net", name := "workOff", desc := "(I)I" } : Jvm.MethodName)) ∈ am_big := am_t4 (List.mem_of_getElem? (i := 111) rfl) rfl
theorem w4_112 : (Jvm.Cond.selects "FanNet$Net" ({ cls := "FanNet$Net", name := "workOff", desc := "(I)I" } : Jvm.MethodName) ({ cls := "FanNet$Net", name := "workOff", desc := "(I)I" } : Jvm.MethodName)) ∈ am_big := am_t4 (List.mem_of_getElem? (i := 112) rfl) rfl
theorem w4_113 : (Jvm.Cond.code ({ cls := "FanNet$Net", name := "workOff", desc := "(I)I" } : Jvm.MethodName) prog_3_method_22_code (7 : Nat) (Option.some Jvm.ClassFile.FieldType.int)) ∈ am_big := am_t4 (List.mem_of_getElem? (i := 113) rfl) rfl
theorem w4_195 : (Jvm.Cond.methodLink "FanNet" (284 : Nat) ({ cls := "FanNet$Walk", name := "isRead", desc := "()Z" } : Jvm.MethodName)) ∈ am_big := am_t4 (List.mem_of_getElem? (i := 195) rfl) rfl
theorem w4_196 : (Jvm.Cond.instanceMethod ({ cls := "FanNet$Walk", name := "isRead", desc := "()Z" } : Jvm.MethodName)) ∈ am_big := am_t4 (List.mem_of_getElem? (i := 196) rfl) rfl
theorem w4_197 : (Jvm.Cond.selects "FanNet$Walk" ({ cls := "FanNet$Walk", name := "isRead", desc := "()Z" } : Jvm.MethodName) ({ cls := "FanNet$Walk", name := "isRead", desc := "()Z" } : Jvm.MethodName)) ∈ am_big := am_t4 (List.mem_of_getElem? (i := 197) rfl) rfl
theorem w4_198 : (Jvm.Cond.code ({ cls := "FanNet$Walk", name := "isRead", desc := "()Z" } : Jvm.MethodName) prog_10_method_2_code (1 : Nat) (Option.some Jvm.ClassFile.FieldType.boolean)) ∈ am_big := am_t4 (List.mem_of_getElem? (i := 198) rfl) rfl
theorem w4_199 : (Jvm.Cond.methodLink "FanNet" (287 : Nat) ({ cls := "FanNet$Walk", name := "term", desc := "()LFanNet$Row;" } : Jvm.MethodName)) ∈ am_big := am_t4 (List.mem_of_getElem? (i := 199) rfl) rfl
theorem w4_200 : (Jvm.Cond.instanceMethod ({ cls := "FanNet$Walk", name := "term", desc := "()LFanNet$Row;" } : Jvm.MethodName)) ∈ am_big := am_t4 (List.mem_of_getElem? (i := 200) rfl) rfl
theorem w4_201 : (Jvm.Cond.selects "FanNet$Walk" ({ cls := "FanNet$Walk", name := "term", desc := "()LFanNet$Row;" } : Jvm.MethodName) ({ cls := "FanNet$Walk", name := "term", desc := "()LFanNet$Row;" } : Jvm.MethodName)) ∈ am_big := am_t4 (List.mem_of_getElem? (i := 201) rfl) rfl
theorem w4_202 : (Jvm.Cond.code ({ cls := "FanNet$Walk", name := "term", desc := "()LFanNet$Row;" } : Jvm.MethodName) prog_10_method_3_code (1 : Nat) (Option.some (Jvm.ClassFile.FieldType.object "FanNet$Row"))) ∈ am_big := am_t4 (List.mem_of_getElem? (i := 202) rfl) rfl
theorem w5_3 : (Jvm.Cond.methodLink "FanNet" (288 : Nat) ({ cls := "FanNet$Plainly", name := "isAtEnd", desc := "()Z" } : Jvm.MethodName)) ∈ am_big := am_t5 (List.mem_of_getElem? (i := 3) rfl) rfl
theorem w5_4 : (Jvm.Cond.instanceMethod ({ cls := "FanNet$Plainly", name := "isAtEnd", desc := "()Z" } : Jvm.MethodName)) ∈ am_big := am_t5 (List.mem_of_getElem? (i := 4) rfl) rfl
theorem w5_5 : (Jvm.Cond.selects "FanNet$Plainly" ({ cls := "FanNet$Plainly", name := "isAtEnd", desc := "()Z" } : Jvm.MethodName) ({ cls := "FanNet$Plainly", name := "isAtEnd", desc := "()Z" } : Jvm.MethodName)) ∈ am_big := am_t5 (List.mem_of_getElem? (i := 5) rfl) rfl
theorem w5_6 : (Jvm.Cond.code ({ cls := "FanNet$Plainly", name := "isAtEnd", desc := "()Z" } : Jvm.MethodName) prog_4_method_5_code (1 : Nat) (Option.some Jvm.ClassFile.FieldType.boolean)) ∈ am_big := am_t5 (List.mem_of_getElem? (i := 6) rfl) rfl
theorem w5_7 : (Jvm.Cond.methodLink "FanNet" (291 : Nat) ({ cls := "FanNet$Plainly", name := "rounds", desc := "()I" } : Jvm.MethodName)) ∈ am_big := am_t5 (List.mem_of_getElem? (i := 7) rfl) rfl
theorem w5_8 : (Jvm.Cond.instanceMethod ({ cls := "FanNet$Plainly", name := "rounds", desc := "()I" } : Jvm.MethodName)) ∈ am_big := am_t5 (List.mem_of_getElem? (i := 8) rfl) rfl
theorem w5_9 : (Jvm.Cond.selects "FanNet$Plainly" ({ cls := "FanNet$Plainly", name := "rounds", desc := "()I" } : Jvm.MethodName) ({ cls := "FanNet$Plainly", name := "rounds", desc := "()I" } : Jvm.MethodName)) ∈ am_big := am_t5 (List.mem_of_getElem? (i := 9) rfl) rfl
theorem w5_10 : (Jvm.Cond.code ({ cls := "FanNet$Plainly", name := "rounds", desc := "()I" } : Jvm.MethodName) prog_4_method_3_code (1 : Nat) (Option.some Jvm.ClassFile.FieldType.int)) ∈ am_big := am_t5 (List.mem_of_getElem? (i := 10) rfl) rfl
theorem w5_162 : (Jvm.Cond.methodLink "FanNetModel" (1 : Nat) ({ cls := "java/lang/Object", name := "<init>", desc := "()V" } : Jvm.MethodName)) ∈ am_big := am_t5 (List.mem_of_getElem? (i := 162) rfl) rfl
theorem w5_202 : (Jvm.Cond.fieldLink "FanNetModel" (7 : Nat) "FanNetModel" "terms" "[I") ∈ am_big := am_t5 (List.mem_of_getElem? (i := 202) rfl) rfl
theorem w5_203 : (Jvm.Cond.fieldLink "FanNetModel" (13 : Nat) "FanNetModel" "termMany" "[I") ∈ am_big := am_t5 (List.mem_of_getElem? (i := 203) rfl) rfl
theorem w5_204 : (Jvm.Cond.fieldLink "FanNetModel" (16 : Nat) "FanNetModel" "tape" "[I") ∈ am_big := am_t5 (List.mem_of_getElem? (i := 204) rfl) rfl
theorem w5_206 : (Jvm.Cond.fieldLink "FanNetModel" (19 : Nat) "FanNetModel" "faultPlace" "I") ∈ am_big := am_t5 (List.mem_of_getElem? (i := 206) rfl) rfl
theorem w6_190 : (Jvm.Cond.arrayClass Jvm.ClassFile.FieldType.long) ∈ am_big := am_t6 (List.mem_of_getElem? (i := 190) rfl) rfl
theorem w5_216 : (Jvm.Cond.fieldLink "FanNetModel" (23 : Nat) "FanNetModel" "names" "[J") ∈ am_big := am_t5 (List.mem_of_getElem? (i := 216) rfl) rfl
theorem w5_217 : (Jvm.Cond.fieldLink "FanNetModel" (27 : Nat) "FanNetModel" "nameParts" "[I") ∈ am_big := am_t5 (List.mem_of_getElem? (i := 217) rfl) rfl
theorem w5_218 : (Jvm.Cond.fieldLink "FanNetModel" (30 : Nat) "FanNetModel" "nameMany" "[I") ∈ am_big := am_t5 (List.mem_of_getElem? (i := 218) rfl) rfl
theorem w5_220 : (Jvm.Cond.fieldLink "FanNetModel" (33 : Nat) "FanNetModel" "bound" "[J") ∈ am_big := am_t5 (List.mem_of_getElem? (i := 220) rfl) rfl
theorem w5_223 : (Jvm.Cond.fieldLink "FanNetModel" (36 : Nat) "FanNetModel" "reading" "[I") ∈ am_big := am_t5 (List.mem_of_getElem? (i := 223) rfl) rfl
theorem w5_225 : (Jvm.Cond.fieldLink "FanNetModel" (39 : Nat) "FanNetModel" "kind" "[I") ∈ am_big := am_t5 (List.mem_of_getElem? (i := 225) rfl) rfl
theorem w5_226 : (Jvm.Cond.fieldLink "FanNetModel" (42 : Nat) "FanNetModel" "level" "[I") ∈ am_big := am_t5 (List.mem_of_getElem? (i := 226) rfl) rfl
theorem w5_227 : (Jvm.Cond.fieldLink "FanNetModel" (45 : Nat) "FanNetModel" "wire" "[I") ∈ am_big := am_t5 (List.mem_of_getElem? (i := 227) rfl) rfl
theorem w5_230 : (Jvm.Cond.fieldLink "FanNetModel" (48 : Nat) "FanNetModel" "ends" "[I") ∈ am_big := am_t5 (List.mem_of_getElem? (i := 230) rfl) rfl
theorem w5_232 : (Jvm.Cond.fieldLink "FanNetModel" (51 : Nat) "FanNetModel" "stepsOf" "[I") ∈ am_big := am_t5 (List.mem_of_getElem? (i := 232) rfl) rfl
theorem w5_234 : (Jvm.Cond.fieldLink "FanNetModel" (54 : Nat) "FanNetModel" "oldKind" "[I") ∈ am_big := am_t5 (List.mem_of_getElem? (i := 234) rfl) rfl
theorem w5_235 : (Jvm.Cond.fieldLink "FanNetModel" (57 : Nat) "FanNetModel" "oldLevel" "[I") ∈ am_big := am_t5 (List.mem_of_getElem? (i := 235) rfl) rfl
theorem w5_236 : (Jvm.Cond.fieldLink "FanNetModel" (60 : Nat) "FanNetModel" "oldWire" "[I") ∈ am_big := am_t5 (List.mem_of_getElem? (i := 236) rfl) rfl
theorem w6_0 : (Jvm.Cond.fieldLink "FanNetModel" (63 : Nat) "FanNetModel" "oldTerm" "[I") ∈ am_big := am_t6 (List.mem_of_getElem? (i := 0) rfl) rfl
theorem w6_1 : (Jvm.Cond.fieldLink "FanNetModel" (66 : Nat) "FanNetModel" "copies" "[I") ∈ am_big := am_t6 (List.mem_of_getElem? (i := 1) rfl) rfl
theorem w6_2 : (Jvm.Cond.fieldLink "FanNetModel" (69 : Nat) "FanNetModel" "passed" "[I") ∈ am_big := am_t6 (List.mem_of_getElem? (i := 2) rfl) rfl
theorem w6_3 : (Jvm.Cond.fieldLink "FanNetModel" (72 : Nat) "FanNetModel" "tried" "[I") ∈ am_big := am_t6 (List.mem_of_getElem? (i := 3) rfl) rfl
theorem w6_4 : (Jvm.Cond.fieldLink "FanNetModel" (75 : Nat) "FanNetModel" "thingSign" "[I") ∈ am_big := am_t6 (List.mem_of_getElem? (i := 4) rfl) rfl
theorem w6_5 : (Jvm.Cond.fieldLink "FanNetModel" (78 : Nat) "FanNetModel" "thingOf" "[I") ∈ am_big := am_t6 (List.mem_of_getElem? (i := 5) rfl) rfl
theorem w6_6 : (Jvm.Cond.fieldLink "FanNetModel" (81 : Nat) "FanNetModel" "thingOther" "[I") ∈ am_big := am_t6 (List.mem_of_getElem? (i := 6) rfl) rfl
theorem w6_7 : (Jvm.Cond.fieldLink "FanNetModel" (84 : Nat) "FanNetModel" "nextThing" "[I") ∈ am_big := am_t6 (List.mem_of_getElem? (i := 7) rfl) rfl
theorem w6_8 : (Jvm.Cond.fieldLink "FanNetModel" (87 : Nat) "FanNetModel" "firstThing" "[I") ∈ am_big := am_t6 (List.mem_of_getElem? (i := 8) rfl) rfl
theorem w6_10 : (Jvm.Cond.fieldLink "FanNetModel" (90 : Nat) "FanNetModel" "stacks" "[I") ∈ am_big := am_t6 (List.mem_of_getElem? (i := 10) rfl) rfl
theorem w6_12 : (Jvm.Cond.fieldLink "FanNetModel" (93 : Nat) "FanNetModel" "waitNode" "[I") ∈ am_big := am_t6 (List.mem_of_getElem? (i := 12) rfl) rfl
theorem w6_13 : (Jvm.Cond.fieldLink "FanNetModel" (96 : Nat) "FanNetModel" "waitAround" "[I") ∈ am_big := am_t6 (List.mem_of_getElem? (i := 13) rfl) rfl
theorem w6_14 : (Jvm.Cond.fieldLink "FanNetModel" (99 : Nat) "FanNetModel" "waitFrom" "[I") ∈ am_big := am_t6 (List.mem_of_getElem? (i := 14) rfl) rfl
theorem w6_15 : (Jvm.Cond.fieldLink "FanNetModel" (102 : Nat) "FanNetModel" "waitMany" "[I") ∈ am_big := am_t6 (List.mem_of_getElem? (i := 15) rfl) rfl
theorem w6_17 : (Jvm.Cond.fieldLink "FanNetModel" (105 : Nat) "FanNetModel" "aroundNode" "[I") ∈ am_big := am_t6 (List.mem_of_getElem? (i := 17) rfl) rfl
theorem w6_18 : (Jvm.Cond.fieldLink "FanNetModel" (108 : Nat) "FanNetModel" "aroundFrom" "[I") ∈ am_big := am_t6 (List.mem_of_getElem? (i := 18) rfl) rfl
theorem w6_19 : (Jvm.Cond.fieldLink "FanNetModel" (111 : Nat) "FanNetModel" "aroundMany" "[I") ∈ am_big := am_t6 (List.mem_of_getElem? (i := 19) rfl) rfl
theorem w5_163 : (Jvm.Cond.constant "FanNetModel" (114 : Nat) (400000 : Int32)) ∈ am_big := am_t5 (List.mem_of_getElem? (i := 163) rfl) rfl
theorem w6_21 : (Jvm.Cond.fieldLink "FanNetModel" (115 : Nat) "FanNetModel" "keptWaiting" "[I") ∈ am_big := am_t6 (List.mem_of_getElem? (i := 21) rfl) rfl
theorem w5_164 : (Jvm.Cond.constant "FanNetModel" (118 : Nat) (90000 : Int32)) ∈ am_big := am_t5 (List.mem_of_getElem? (i := 164) rfl) rfl
theorem w6_22 : (Jvm.Cond.fieldLink "FanNetModel" (119 : Nat) "FanNetModel" "keptAround" "[I") ∈ am_big := am_t6 (List.mem_of_getElem? (i := 22) rfl) rfl
theorem w6_27 : (Jvm.Cond.fieldLink "FanNetModel" (122 : Nat) "FanNetModel" "made" "[I") ∈ am_big := am_t6 (List.mem_of_getElem? (i := 27) rfl) rfl
theorem w6_29 : (Jvm.Cond.fieldLink "FanNetModel" (125 : Nat) "FanNetModel" "depthEnds" "[I") ∈ am_big := am_t6 (List.mem_of_getElem? (i := 29) rfl) rfl
theorem w6_30 : (Jvm.Cond.fieldLink "FanNetModel" (128 : Nat) "FanNetModel" "bodyEnds" "[I") ∈ am_big := am_t6 (List.mem_of_getElem? (i := 30) rfl) rfl
theorem w3_48 : (Jvm.Cond.arrayClass Jvm.ClassFile.FieldType.byte) ∈ am_big := am_t3 (List.mem_of_getElem? (i := 48) rfl) rfl
theorem w6_33 : (Jvm.Cond.fieldLink "FanNetModel" (131 : Nat) "FanNetModel" "said" "[B") ∈ am_big := am_t6 (List.mem_of_getElem? (i := 33) rfl) rfl
theorem w6_35 : (Jvm.Cond.fieldLink "FanNetModel" (135 : Nat) "FanNetModel" "toSay" "[I") ∈ am_big := am_t6 (List.mem_of_getElem? (i := 35) rfl) rfl
theorem w5_165 : (Jvm.Cond.methodLink "FanNetModel" (138 : Nat) ({ cls := "FanNetModel", name := "lays", desc := "()V" } : Jvm.MethodName)) ∈ am_big := am_t5 (List.mem_of_getElem? (i := 165) rfl) rfl
theorem w5_167 : (Jvm.Cond.instanceMethod ({ cls := "FanNetModel", name := "lays", desc := "()V" } : Jvm.MethodName)) ∈ am_big := am_t5 (List.mem_of_getElem? (i := 167) rfl) rfl
theorem w0_58 : Cond.selects "FanNetModel" (⟨"FanNetModel", "lays", "()V"⟩ : MethodName) ⟨"FanNetModel", "lays", "()V"⟩ ∈ am_big := am_t0 (List.mem_of_getElem? (i := 58) rfl) rfl
theorem w1_14 : (Jvm.Cond.initialized "FanNetModel") ∈ am_big := am_t1 (List.mem_of_getElem? (i := 14) rfl) rfl
theorem w5_168 : (Jvm.Cond.code ({ cls := "FanNetModel", name := "lays", desc := "()V" } : Jvm.MethodName) prog_12_method_42_code (1 : Nat) (Option.none : Option Jvm.ClassFile.FieldType)) ∈ am_big := am_t5 (List.mem_of_getElem? (i := 168) rfl) rfl
theorem w5_201 : (Jvm.Cond.fieldLink "FanNetModel" (141 : Nat) "FanNetModel" "thrown" "I") ∈ am_big := am_t5 (List.mem_of_getElem? (i := 201) rfl) rfl
theorem w5_205 : (Jvm.Cond.fieldLink "FanNetModel" (144 : Nat) "FanNetModel" "taped" "I") ∈ am_big := am_t5 (List.mem_of_getElem? (i := 205) rfl) rfl
theorem w6_199 : (Jvm.Cond.methodLink "FanNetModel" (147 : Nat) ({ cls := "FanNetModel", name := "comes", desc := "(I)V" } : Jvm.MethodName)) ∈ am_big := am_t6 (List.mem_of_getElem? (i := 199) rfl) rfl
theorem w6_201 : (Jvm.Cond.instanceMethod ({ cls := "FanNetModel", name := "comes", desc := "(I)V" } : Jvm.MethodName)) ∈ am_big := am_t6 (List.mem_of_getElem? (i := 201) rfl) rfl
theorem w0_67 : Cond.selects "FanNetModel" (⟨"FanNetModel", "comes", "(I)V"⟩ : MethodName) ⟨"FanNetModel", "comes", "(I)V"⟩ ∈ am_big := am_t0 (List.mem_of_getElem? (i := 67) rfl) rfl
theorem w6_202 : (Jvm.Cond.code ({ cls := "FanNetModel", name := "comes", desc := "(I)V" } : Jvm.MethodName) prog_12_method_6_code (3 : Nat) (Option.none : Option Jvm.ClassFile.FieldType)) ∈ am_big := am_t6 (List.mem_of_getElem? (i := 202) rfl) rfl
theorem w5_208 : (Jvm.Cond.fieldLink "FanNetModel" (151 : Nat) "FanNetModel" "size" "I") ∈ am_big := am_t5 (List.mem_of_getElem? (i := 208) rfl) rfl
theorem w6_207 : (Jvm.Cond.methodLink "FanNetModel" (154 : Nat) ({ cls := "FanNetModel", name := "isIn", desc := "(III)Z" } : Jvm.MethodName)) ∈ am_big := am_t6 (List.mem_of_getElem? (i := 207) rfl) rfl
theorem w6_208 : (Jvm.Cond.static ({ cls := "FanNetModel", name := "isIn", desc := "(III)Z" } : Jvm.MethodName)) ∈ am_big := am_t6 (List.mem_of_getElem? (i := 208) rfl) rfl
theorem w6_209 : (Jvm.Cond.code ({ cls := "FanNetModel", name := "isIn", desc := "(III)Z" } : Jvm.MethodName) prog_12_method_4_code (3 : Nat) (Option.some Jvm.ClassFile.FieldType.boolean)) ∈ am_big := am_t6 (List.mem_of_getElem? (i := 209) rfl) rfl
theorem w6_226 : (Jvm.Cond.methodLink "FanNetModel" (158 : Nat) ({ cls := "FanNetModel", name := "byteAt", desc := "(I)I" } : Jvm.MethodName)) ∈ am_big := am_t6 (List.mem_of_getElem? (i := 226) rfl) rfl
theorem w6_228 : (Jvm.Cond.instanceMethod ({ cls := "FanNetModel", name := "byteAt", desc := "(I)I" } : Jvm.MethodName)) ∈ am_big := am_t6 (List.mem_of_getElem? (i := 228) rfl) rfl
theorem w0_72 : Cond.selects "FanNetModel" (⟨"FanNetModel", "byteAt", "(I)I"⟩ : MethodName) ⟨"FanNetModel", "byteAt", "(I)I"⟩ ∈ am_big := am_t0 (List.mem_of_getElem? (i := 72) rfl) rfl
theorem w6_229 : (Jvm.Cond.code ({ cls := "FanNetModel", name := "byteAt", desc := "(I)I" } : Jvm.MethodName) prog_12_method_8_code (2 : Nat) (Option.some Jvm.ClassFile.FieldType.int)) ∈ am_big := am_t6 (List.mem_of_getElem? (i := 229) rfl) rfl
theorem w5_209 : (Jvm.Cond.fieldLink "FanNetModel" (162 : Nat) "FanNetModel" "at" "I") ∈ am_big := am_t5 (List.mem_of_getElem? (i := 209) rfl) rfl
theorem w6_222 : (Jvm.Cond.methodLink "FanNetModel" (165 : Nat) ({ cls := "FanNetModel", name := "blanksFrom", desc := "(I)I" } : Jvm.MethodName)) ∈ am_big := am_t6 (List.mem_of_getElem? (i := 222) rfl) rfl
theorem w6_224 : (Jvm.Cond.instanceMethod ({ cls := "FanNetModel", name := "blanksFrom", desc := "(I)I" } : Jvm.MethodName)) ∈ am_big := am_t6 (List.mem_of_getElem? (i := 224) rfl) rfl
theorem w0_71 : Cond.selects "FanNetModel" (⟨"FanNetModel", "blanksFrom", "(I)I"⟩ : MethodName) ⟨"FanNetModel", "blanksFrom", "(I)I"⟩ ∈ am_big := am_t0 (List.mem_of_getElem? (i := 71) rfl) rfl
theorem w6_225 : (Jvm.Cond.code ({ cls := "FanNetModel", name := "blanksFrom", desc := "(I)I" } : Jvm.MethodName) prog_12_method_11_code (3 : Nat) (Option.some Jvm.ClassFile.FieldType.int)) ∈ am_big := am_t6 (List.mem_of_getElem? (i := 225) rfl) rfl
theorem w5_211 : (Jvm.Cond.fieldLink "FanNetModel" (168 : Nat) "FanNetModel" "place" "I") ∈ am_big := am_t5 (List.mem_of_getElem? (i := 211) rfl) rfl
theorem w5_210 : (Jvm.Cond.fieldLink "FanNetModel" (171 : Nat) "FanNetModel" "token" "I") ∈ am_big := am_t5 (List.mem_of_getElem? (i := 210) rfl) rfl
theorem w6_230 : (Jvm.Cond.methodLink "FanNetModel" (174 : Nat) ({ cls := "FanNetModel", name := "isLetter", desc := "(I)Z" } : Jvm.MethodName)) ∈ am_big := am_t6 (List.mem_of_getElem? (i := 230) rfl) rfl
theorem w6_231 : (Jvm.Cond.static ({ cls := "FanNetModel", name := "isLetter", desc := "(I)Z" } : Jvm.MethodName)) ∈ am_big := am_t6 (List.mem_of_getElem? (i := 231) rfl) rfl
theorem w6_232 : (Jvm.Cond.code ({ cls := "FanNetModel", name := "isLetter", desc := "(I)Z" } : Jvm.MethodName) prog_12_method_9_code (1 : Nat) (Option.some Jvm.ClassFile.FieldType.boolean)) ∈ am_big := am_t6 (List.mem_of_getElem? (i := 232) rfl) rfl
theorem w5_214 : (Jvm.Cond.fieldLink "FanNetModel" (178 : Nat) "FanNetModel" "word" "J") ∈ am_big := am_t5 (List.mem_of_getElem? (i := 214) rfl) rfl
theorem w5_215 : (Jvm.Cond.fieldLink "FanNetModel" (182 : Nat) "FanNetModel" "letters" "I") ∈ am_big := am_t5 (List.mem_of_getElem? (i := 215) rfl) rfl
theorem w6_233 : (Jvm.Cond.constantLong "FanNetModel" (185 : Nat) (27 : Int64)) ∈ am_big := am_t6 (List.mem_of_getElem? (i := 233) rfl) rfl
theorem w6_234 : (Jvm.Cond.constantLong "FanNetModel" (187 : Nat) (97 : Int64)) ∈ am_big := am_t6 (List.mem_of_getElem? (i := 234) rfl) rfl
theorem w6_235 : (Jvm.Cond.methodLink "FanNetModel" (189 : Nat) ({ cls := "FanNetModel", name := "isFigure", desc := "(I)Z" } : Jvm.MethodName)) ∈ am_big := am_t6 (List.mem_of_getElem? (i := 235) rfl) rfl
theorem w6_236 : (Jvm.Cond.static ({ cls := "FanNetModel", name := "isFigure", desc := "(I)Z" } : Jvm.MethodName)) ∈ am_big := am_t6 (List.mem_of_getElem? (i := 236) rfl) rfl
theorem w6_237 : (Jvm.Cond.code ({ cls := "FanNetModel", name := "isFigure", desc := "(I)Z" } : Jvm.MethodName) prog_12_method_10_code (1 : Nat) (Option.some Jvm.ClassFile.FieldType.boolean)) ∈ am_big := am_t6 (List.mem_of_getElem? (i := 237) rfl) rfl
theorem w5_212 : (Jvm.Cond.fieldLink "FanNetModel" (192 : Nat) "FanNetModel" "value" "I") ∈ am_big := am_t5 (List.mem_of_getElem? (i := 212) rfl) rfl
theorem w5_213 : (Jvm.Cond.fieldLink "FanNetModel" (195 : Nat) "FanNetModel" "digits" "I") ∈ am_big := am_t5 (List.mem_of_getElem? (i := 213) rfl) rfl
theorem w5_207 : (Jvm.Cond.fieldLink "FanNetModel" (198 : Nat) "FanNetModel" "fault" "I") ∈ am_big := am_t5 (List.mem_of_getElem? (i := 207) rfl) rfl
theorem w7_2 : (Jvm.Cond.methodLink "FanNetModel" (201 : Nat) ({ cls := "FanNetModel", name := "fine", desc := "()Z" } : Jvm.MethodName)) ∈ am_big := am_t7 (List.mem_of_getElem? (i := 2) rfl) rfl
theorem w7_4 : (Jvm.Cond.instanceMethod ({ cls := "FanNetModel", name := "fine", desc := "()Z" } : Jvm.MethodName)) ∈ am_big := am_t7 (List.mem_of_getElem? (i := 4) rfl) rfl
theorem w0_74 : Cond.selects "FanNetModel" (⟨"FanNetModel", "fine", "()Z"⟩ : MethodName) ⟨"FanNetModel", "fine", "()Z"⟩ ∈ am_big := am_t0 (List.mem_of_getElem? (i := 74) rfl) rfl
theorem w7_5 : (Jvm.Cond.code ({ cls := "FanNetModel", name := "fine", desc := "()Z" } : Jvm.MethodName) prog_12_method_13_code (1 : Nat) (Option.some Jvm.ClassFile.FieldType.boolean)) ∈ am_big := am_t7 (List.mem_of_getElem? (i := 5) rfl) rfl
theorem w7_22 : (Jvm.Cond.methodLink "FanNetModel" (205 : Nat) ({ cls := "FanNetModel", name := "isSign", desc := "(I)Z" } : Jvm.MethodName)) ∈ am_big := am_t7 (List.mem_of_getElem? (i := 22) rfl) rfl
theorem w7_24 : (Jvm.Cond.instanceMethod ({ cls := "FanNetModel", name := "isSign", desc := "(I)Z" } : Jvm.MethodName)) ∈ am_big := am_t7 (List.mem_of_getElem? (i := 24) rfl) rfl
theorem w0_79 : Cond.selects "FanNetModel" (⟨"FanNetModel", "isSign", "(I)Z"⟩ : MethodName) ⟨"FanNetModel", "isSign", "(I)Z"⟩ ∈ am_big := am_t0 (List.mem_of_getElem? (i := 79) rfl) rfl
theorem w7_25 : (Jvm.Cond.code ({ cls := "FanNetModel", name := "isSign", desc := "(I)Z" } : Jvm.MethodName) prog_12_method_15_code (2 : Nat) (Option.some Jvm.ClassFile.FieldType.boolean)) ∈ am_big := am_t7 (List.mem_of_getElem? (i := 25) rfl) rfl
theorem w7_10 : (Jvm.Cond.methodLink "FanNetModel" (208 : Nat) ({ cls := "FanNetModel", name := "check", desc := "(ZI)Z" } : Jvm.MethodName)) ∈ am_big := am_t7 (List.mem_of_getElem? (i := 10) rfl) rfl
theorem w7_12 : (Jvm.Cond.instanceMethod ({ cls := "FanNetModel", name := "check", desc := "(ZI)Z" } : Jvm.MethodName)) ∈ am_big := am_t7 (List.mem_of_getElem? (i := 12) rfl) rfl
theorem w0_76 : Cond.selects "FanNetModel" (⟨"FanNetModel", "check", "(ZI)Z"⟩ : MethodName) ⟨"FanNetModel", "check", "(ZI)Z"⟩ ∈ am_big := am_t0 (List.mem_of_getElem? (i := 76) rfl) rfl
theorem w7_13 : (Jvm.Cond.code ({ cls := "FanNetModel", name := "check", desc := "(ZI)Z" } : Jvm.MethodName) prog_12_method_14_code (3 : Nat) (Option.some Jvm.ClassFile.FieldType.boolean)) ∈ am_big := am_t7 (List.mem_of_getElem? (i := 13) rfl) rfl
theorem w6_218 : (Jvm.Cond.methodLink "FanNetModel" (212 : Nat) ({ cls := "FanNetModel", name := "goes", desc := "()V" } : Jvm.MethodName)) ∈ am_big := am_t6 (List.mem_of_getElem? (i := 218) rfl) rfl
theorem w6_220 : (Jvm.Cond.instanceMethod ({ cls := "FanNetModel", name := "goes", desc := "()V" } : Jvm.MethodName)) ∈ am_big := am_t6 (List.mem_of_getElem? (i := 220) rfl) rfl
theorem w0_70 : Cond.selects "FanNetModel" (⟨"FanNetModel", "goes", "()V"⟩ : MethodName) ⟨"FanNetModel", "goes", "()V"⟩ ∈ am_big := am_t0 (List.mem_of_getElem? (i := 70) rfl) rfl
theorem w6_221 : (Jvm.Cond.code ({ cls := "FanNetModel", name := "goes", desc := "()V" } : Jvm.MethodName) prog_12_method_12_code (2 : Nat) (Option.none : Option Jvm.ClassFile.FieldType)) ∈ am_big := am_t6 (List.mem_of_getElem? (i := 221) rfl) rfl
theorem w5_224 : (Jvm.Cond.fieldLink "FanNetModel" (215 : Nat) "FanNetModel" "readMany" "I") ∈ am_big := am_t5 (List.mem_of_getElem? (i := 224) rfl) rfl
theorem w7_38 : (Jvm.Cond.constant "FanNetModel" (218 : Nat) (1000000 : Int32)) ∈ am_big := am_t7 (List.mem_of_getElem? (i := 38) rfl) rfl
theorem w5_219 : (Jvm.Cond.fieldLink "FanNetModel" (219 : Nat) "FanNetModel" "nameCount" "I") ∈ am_big := am_t5 (List.mem_of_getElem? (i := 219) rfl) rfl
theorem w7_34 : (Jvm.Cond.methodLink "FanNetModel" (222 : Nat) ({ cls := "FanNetModel", name := "emits", desc := "(I)V" } : Jvm.MethodName)) ∈ am_big := am_t7 (List.mem_of_getElem? (i := 34) rfl) rfl
theorem w7_36 : (Jvm.Cond.instanceMethod ({ cls := "FanNetModel", name := "emits", desc := "(I)V" } : Jvm.MethodName)) ∈ am_big := am_t7 (List.mem_of_getElem? (i := 36) rfl) rfl
theorem w0_82 : Cond.selects "FanNetModel" (⟨"FanNetModel", "emits", "(I)V"⟩ : MethodName) ⟨"FanNetModel", "emits", "(I)V"⟩ ∈ am_big := am_t0 (List.mem_of_getElem? (i := 82) rfl) rfl
theorem w7_37 : (Jvm.Cond.code ({ cls := "FanNetModel", name := "emits", desc := "(I)V" } : Jvm.MethodName) prog_12_method_17_code (2 : Nat) (Option.none : Option Jvm.ClassFile.FieldType)) ∈ am_big := am_t7 (List.mem_of_getElem? (i := 37) rfl) rfl
theorem w5_221 : (Jvm.Cond.fieldLink "FanNetModel" (225 : Nat) "FanNetModel" "boundMany" "I") ∈ am_big := am_t5 (List.mem_of_getElem? (i := 221) rfl) rfl
theorem w7_14 : (Jvm.Cond.methodLink "FanNetModel" (228 : Nat) ({ cls := "FanNetModel", name := "nameOf", desc := "(J)I" } : Jvm.MethodName)) ∈ am_big := am_t7 (List.mem_of_getElem? (i := 14) rfl) rfl
theorem w7_16 : (Jvm.Cond.instanceMethod ({ cls := "FanNetModel", name := "nameOf", desc := "(J)I" } : Jvm.MethodName)) ∈ am_big := am_t7 (List.mem_of_getElem? (i := 16) rfl) rfl
theorem w0_77 : Cond.selects "FanNetModel" (⟨"FanNetModel", "nameOf", "(J)I"⟩ : MethodName) ⟨"FanNetModel", "nameOf", "(J)I"⟩ ∈ am_big := am_t0 (List.mem_of_getElem? (i := 77) rfl) rfl
theorem w7_17 : (Jvm.Cond.code ({ cls := "FanNetModel", name := "nameOf", desc := "(J)I" } : Jvm.MethodName) prog_12_method_19_code (4 : Nat) (Option.some Jvm.ClassFile.FieldType.int)) ∈ am_big := am_t7 (List.mem_of_getElem? (i := 17) rfl) rfl
theorem w7_51 : (Jvm.Cond.methodLink "FanNetModel" (232 : Nat) ({ cls := "FanNetModel", name := "putsIn", desc := "(I)V" } : Jvm.MethodName)) ∈ am_big := am_t7 (List.mem_of_getElem? (i := 51) rfl) rfl
theorem w7_53 : (Jvm.Cond.instanceMethod ({ cls := "FanNetModel", name := "putsIn", desc := "(I)V" } : Jvm.MethodName)) ∈ am_big := am_t7 (List.mem_of_getElem? (i := 53) rfl) rfl
theorem w0_86 : Cond.selects "FanNetModel" (⟨"FanNetModel", "putsIn", "(I)V"⟩ : MethodName) ⟨"FanNetModel", "putsIn", "(I)V"⟩ ∈ am_big := am_t0 (List.mem_of_getElem? (i := 86) rfl) rfl
theorem w7_54 : (Jvm.Cond.code ({ cls := "FanNetModel", name := "putsIn", desc := "(I)V" } : Jvm.MethodName) prog_12_method_20_code (4 : Nat) (Option.none : Option Jvm.ClassFile.FieldType)) ∈ am_big := am_t7 (List.mem_of_getElem? (i := 54) rfl) rfl
theorem w7_43 : (Jvm.Cond.methodLink "FanNetModel" (235 : Nat) ({ cls := "FanNetModel", name := "isAtom", desc := "()Z" } : Jvm.MethodName)) ∈ am_big := am_t7 (List.mem_of_getElem? (i := 43) rfl) rfl
theorem w7_45 : (Jvm.Cond.instanceMethod ({ cls := "FanNetModel", name := "isAtom", desc := "()Z" } : Jvm.MethodName)) ∈ am_big := am_t7 (List.mem_of_getElem? (i := 45) rfl) rfl
theorem w0_84 : Cond.selects "FanNetModel" (⟨"FanNetModel", "isAtom", "()Z"⟩ : MethodName) ⟨"FanNetModel", "isAtom", "()Z"⟩ ∈ am_big := am_t0 (List.mem_of_getElem? (i := 84) rfl) rfl
theorem w7_46 : (Jvm.Cond.code ({ cls := "FanNetModel", name := "isAtom", desc := "()Z" } : Jvm.MethodName) prog_12_method_23_code (1 : Nat) (Option.some Jvm.ClassFile.FieldType.boolean)) ∈ am_big := am_t7 (List.mem_of_getElem? (i := 46) rfl) rfl
theorem w7_47 : (Jvm.Cond.methodLink "FanNetModel" (238 : Nat) ({ cls := "FanNetModel", name := "readsName", desc := "()V" } : Jvm.MethodName)) ∈ am_big := am_t7 (List.mem_of_getElem? (i := 47) rfl) rfl
theorem w7_49 : (Jvm.Cond.instanceMethod ({ cls := "FanNetModel", name := "readsName", desc := "()V" } : Jvm.MethodName)) ∈ am_big := am_t7 (List.mem_of_getElem? (i := 49) rfl) rfl
theorem w0_85 : Cond.selects "FanNetModel" (⟨"FanNetModel", "readsName", "()V"⟩ : MethodName) ⟨"FanNetModel", "readsName", "()V"⟩ ∈ am_big := am_t0 (List.mem_of_getElem? (i := 85) rfl) rfl
theorem w7_50 : (Jvm.Cond.code ({ cls := "FanNetModel", name := "readsName", desc := "()V" } : Jvm.MethodName) prog_12_method_21_code (3 : Nat) (Option.none : Option Jvm.ClassFile.FieldType)) ∈ am_big := am_t7 (List.mem_of_getElem? (i := 50) rfl) rfl
theorem w7_55 : (Jvm.Cond.methodLink "FanNetModel" (241 : Nat) ({ cls := "FanNetModel", name := "readsNumber", desc := "()V" } : Jvm.MethodName)) ∈ am_big := am_t7 (List.mem_of_getElem? (i := 55) rfl) rfl
theorem w7_57 : (Jvm.Cond.instanceMethod ({ cls := "FanNetModel", name := "readsNumber", desc := "()V" } : Jvm.MethodName)) ∈ am_big := am_t7 (List.mem_of_getElem? (i := 57) rfl) rfl
theorem w0_87 : Cond.selects "FanNetModel" (⟨"FanNetModel", "readsNumber", "()V"⟩ : MethodName) ⟨"FanNetModel", "readsNumber", "()V"⟩ ∈ am_big := am_t0 (List.mem_of_getElem? (i := 87) rfl) rfl
theorem w7_58 : (Jvm.Cond.code ({ cls := "FanNetModel", name := "readsNumber", desc := "()V" } : Jvm.MethodName) prog_12_method_22_code (3 : Nat) (Option.none : Option Jvm.ClassFile.FieldType)) ∈ am_big := am_t7 (List.mem_of_getElem? (i := 58) rfl) rfl
theorem w5_222 : (Jvm.Cond.fieldLink "FanNetModel" (244 : Nat) "FanNetModel" "opened" "I") ∈ am_big := am_t5 (List.mem_of_getElem? (i := 222) rfl) rfl
theorem w7_26 : (Jvm.Cond.methodLink "FanNetModel" (247 : Nat) ({ cls := "FanNetModel", name := "readsTerm", desc := "()V" } : Jvm.MethodName)) ∈ am_big := am_t7 (List.mem_of_getElem? (i := 26) rfl) rfl
theorem w7_28 : (Jvm.Cond.instanceMethod ({ cls := "FanNetModel", name := "readsTerm", desc := "()V" } : Jvm.MethodName)) ∈ am_big := am_t7 (List.mem_of_getElem? (i := 28) rfl) rfl
theorem w0_80 : Cond.selects "FanNetModel" (⟨"FanNetModel", "readsTerm", "()V"⟩ : MethodName) ⟨"FanNetModel", "readsTerm", "()V"⟩ ∈ am_big := am_t0 (List.mem_of_getElem? (i := 80) rfl) rfl
theorem w7_29 : (Jvm.Cond.code ({ cls := "FanNetModel", name := "readsTerm", desc := "()V" } : Jvm.MethodName) prog_12_method_26_code (2 : Nat) (Option.none : Option Jvm.ClassFile.FieldType)) ∈ am_big := am_t7 (List.mem_of_getElem? (i := 29) rfl) rfl
theorem w7_18 : (Jvm.Cond.methodLink "FanNetModel" (250 : Nat) ({ cls := "FanNetModel", name := "must", desc := "(I)V" } : Jvm.MethodName)) ∈ am_big := am_t7 (List.mem_of_getElem? (i := 18) rfl) rfl
theorem w7_20 : (Jvm.Cond.instanceMethod ({ cls := "FanNetModel", name := "must", desc := "(I)V" } : Jvm.MethodName)) ∈ am_big := am_t7 (List.mem_of_getElem? (i := 20) rfl) rfl
theorem w0_78 : Cond.selects "FanNetModel" (⟨"FanNetModel", "must", "(I)V"⟩ : MethodName) ⟨"FanNetModel", "must", "(I)V"⟩ ∈ am_big := am_t0 (List.mem_of_getElem? (i := 78) rfl) rfl
theorem w7_21 : (Jvm.Cond.code ({ cls := "FanNetModel", name := "must", desc := "(I)V" } : Jvm.MethodName) prog_12_method_16_code (2 : Nat) (Option.none : Option Jvm.ClassFile.FieldType)) ∈ am_big := am_t7 (List.mem_of_getElem? (i := 21) rfl) rfl
theorem w7_30 : (Jvm.Cond.methodLink "FanNetModel" (253 : Nat) ({ cls := "FanNetModel", name := "readsFunction", desc := "()V" } : Jvm.MethodName)) ∈ am_big := am_t7 (List.mem_of_getElem? (i := 30) rfl) rfl
theorem w7_32 : (Jvm.Cond.instanceMethod ({ cls := "FanNetModel", name := "readsFunction", desc := "()V" } : Jvm.MethodName)) ∈ am_big := am_t7 (List.mem_of_getElem? (i := 32) rfl) rfl
theorem w0_81 : Cond.selects "FanNetModel" (⟨"FanNetModel", "readsFunction", "()V"⟩ : MethodName) ⟨"FanNetModel", "readsFunction", "()V"⟩ ∈ am_big := am_t0 (List.mem_of_getElem? (i := 81) rfl) rfl
theorem w7_33 : (Jvm.Cond.code ({ cls := "FanNetModel", name := "readsFunction", desc := "()V" } : Jvm.MethodName) prog_12_method_25_code (2 : Nat) (Option.none : Option Jvm.ClassFile.FieldType)) ∈ am_big := am_t7 (List.mem_of_getElem? (i := 33) rfl) rfl
theorem w7_39 : (Jvm.Cond.methodLink "FanNetModel" (256 : Nat) ({ cls := "FanNetModel", name := "readsAtom", desc := "()V" } : Jvm.MethodName)) ∈ am_big := am_t7 (List.mem_of_getElem? (i := 39) rfl) rfl
theorem w7_41 : (Jvm.Cond.instanceMethod ({ cls := "FanNetModel", name := "readsAtom", desc := "()V" } : Jvm.MethodName)) ∈ am_big := am_t7 (List.mem_of_getElem? (i := 41) rfl) rfl
theorem w0_83 : Cond.selects "FanNetModel" (⟨"FanNetModel", "readsAtom", "()V"⟩ : MethodName) ⟨"FanNetModel", "readsAtom", "()V"⟩ ∈ am_big := am_t0 (List.mem_of_getElem? (i := 83) rfl) rfl
theorem w7_42 : (Jvm.Cond.code ({ cls := "FanNetModel", name := "readsAtom", desc := "()V" } : Jvm.MethodName) prog_12_method_24_code (1 : Nat) (Option.none : Option Jvm.ClassFile.FieldType)) ∈ am_big := am_t7 (List.mem_of_getElem? (i := 42) rfl) rfl
theorem w7_59 : (Jvm.Cond.methodLink "FanNetModel" (259 : Nat) ({ cls := "FanNetModel", name := "emitsAhead", desc := "(II)V" } : Jvm.MethodName)) ∈ am_big := am_t7 (List.mem_of_getElem? (i := 59) rfl) rfl
theorem w7_61 : (Jvm.Cond.instanceMethod ({ cls := "FanNetModel", name := "emitsAhead", desc := "(II)V" } : Jvm.MethodName)) ∈ am_big := am_t7 (List.mem_of_getElem? (i := 61) rfl) rfl
theorem w0_88 : Cond.selects "FanNetModel" (⟨"FanNetModel", "emitsAhead", "(II)V"⟩ : MethodName) ⟨"FanNetModel", "emitsAhead", "(II)V"⟩ ∈ am_big := am_t0 (List.mem_of_getElem? (i := 88) rfl) rfl
theorem w7_62 : (Jvm.Cond.code ({ cls := "FanNetModel", name := "emitsAhead", desc := "(II)V" } : Jvm.MethodName) prog_12_method_18_code (4 : Nat) (Option.none : Option Jvm.ClassFile.FieldType)) ∈ am_big := am_t7 (List.mem_of_getElem? (i := 62) rfl) rfl
theorem w6_238 : (Jvm.Cond.methodLink "FanNetModel" (263 : Nat) ({ cls := "FanNetModel", name := "isTelling", desc := "()Z" } : Jvm.MethodName)) ∈ am_big := am_t6 (List.mem_of_getElem? (i := 238) rfl) rfl
theorem w7_0 : (Jvm.Cond.instanceMethod ({ cls := "FanNetModel", name := "isTelling", desc := "()Z" } : Jvm.MethodName)) ∈ am_big := am_t7 (List.mem_of_getElem? (i := 0) rfl) rfl
theorem w0_73 : Cond.selects "FanNetModel" (⟨"FanNetModel", "isTelling", "()Z"⟩ : MethodName) ⟨"FanNetModel", "isTelling", "()Z"⟩ ∈ am_big := am_t0 (List.mem_of_getElem? (i := 73) rfl) rfl
theorem w7_1 : (Jvm.Cond.code ({ cls := "FanNetModel", name := "isTelling", desc := "()Z" } : Jvm.MethodName) prog_12_method_27_code (1 : Nat) (Option.some Jvm.ClassFile.FieldType.boolean)) ∈ am_big := am_t7 (List.mem_of_getElem? (i := 1) rfl) rfl
theorem w7_6 : (Jvm.Cond.methodLink "FanNetModel" (266 : Nat) ({ cls := "FanNetModel", name := "readsTelling", desc := "()V" } : Jvm.MethodName)) ∈ am_big := am_t7 (List.mem_of_getElem? (i := 6) rfl) rfl
theorem w7_8 : (Jvm.Cond.instanceMethod ({ cls := "FanNetModel", name := "readsTelling", desc := "()V" } : Jvm.MethodName)) ∈ am_big := am_t7 (List.mem_of_getElem? (i := 8) rfl) rfl
theorem w0_75 : Cond.selects "FanNetModel" (⟨"FanNetModel", "readsTelling", "()V"⟩ : MethodName) ⟨"FanNetModel", "readsTelling", "()V"⟩ ∈ am_big := am_t0 (List.mem_of_getElem? (i := 75) rfl) rfl
theorem w7_9 : (Jvm.Cond.code ({ cls := "FanNetModel", name := "readsTelling", desc := "()V" } : Jvm.MethodName) prog_12_method_28_code (4 : Nat) (Option.none : Option Jvm.ClassFile.FieldType)) ∈ am_big := am_t7 (List.mem_of_getElem? (i := 9) rfl) rfl
theorem w6_210 : (Jvm.Cond.methodLink "FanNetModel" (269 : Nat) ({ cls := "FanNetModel", name := "right", desc := "(ZI)Z" } : Jvm.MethodName)) ∈ am_big := am_t6 (List.mem_of_getElem? (i := 210) rfl) rfl
theorem w6_212 : (Jvm.Cond.instanceMethod ({ cls := "FanNetModel", name := "right", desc := "(ZI)Z" } : Jvm.MethodName)) ∈ am_big := am_t6 (List.mem_of_getElem? (i := 212) rfl) rfl
theorem w0_68 : Cond.selects "FanNetModel" (⟨"FanNetModel", "right", "(ZI)Z"⟩ : MethodName) ⟨"FanNetModel", "right", "(ZI)Z"⟩ ∈ am_big := am_t0 (List.mem_of_getElem? (i := 68) rfl) rfl
theorem w6_213 : (Jvm.Cond.code ({ cls := "FanNetModel", name := "right", desc := "(ZI)Z" } : Jvm.MethodName) prog_12_method_3_code (3 : Nat) (Option.some Jvm.ClassFile.FieldType.boolean)) ∈ am_big := am_t6 (List.mem_of_getElem? (i := 213) rfl) rfl
theorem w6_214 : (Jvm.Cond.methodLink "FanNetModel" (272 : Nat) ({ cls := "FanNetModel", name := "readsAll", desc := "()V" } : Jvm.MethodName)) ∈ am_big := am_t6 (List.mem_of_getElem? (i := 214) rfl) rfl
theorem w6_216 : (Jvm.Cond.instanceMethod ({ cls := "FanNetModel", name := "readsAll", desc := "()V" } : Jvm.MethodName)) ∈ am_big := am_t6 (List.mem_of_getElem? (i := 216) rfl) rfl
theorem w0_69 : Cond.selects "FanNetModel" (⟨"FanNetModel", "readsAll", "()V"⟩ : MethodName) ⟨"FanNetModel", "readsAll", "()V"⟩ ∈ am_big := am_t0 (List.mem_of_getElem? (i := 69) rfl) rfl
theorem w6_217 : (Jvm.Cond.code ({ cls := "FanNetModel", name := "readsAll", desc := "()V" } : Jvm.MethodName) prog_12_method_29_code (1 : Nat) (Option.none : Option Jvm.ClassFile.FieldType)) ∈ am_big := am_t6 (List.mem_of_getElem? (i := 217) rfl) rfl
theorem w7_63 : (Jvm.Cond.methodLink "FanNetModel" (275 : Nat) ({ cls := "FanNetModel", name := "keepsOld", desc := "()V" } : Jvm.MethodName)) ∈ am_big := am_t7 (List.mem_of_getElem? (i := 63) rfl) rfl
theorem w7_65 : (Jvm.Cond.instanceMethod ({ cls := "FanNetModel", name := "keepsOld", desc := "()V" } : Jvm.MethodName)) ∈ am_big := am_t7 (List.mem_of_getElem? (i := 65) rfl) rfl
theorem w0_89 : Cond.selects "FanNetModel" (⟨"FanNetModel", "keepsOld", "()V"⟩ : MethodName) ⟨"FanNetModel", "keepsOld", "()V"⟩ ∈ am_big := am_t0 (List.mem_of_getElem? (i := 89) rfl) rfl
theorem w7_66 : (Jvm.Cond.code ({ cls := "FanNetModel", name := "keepsOld", desc := "()V" } : Jvm.MethodName) prog_12_method_45_code (2 : Nat) (Option.none : Option Jvm.ClassFile.FieldType)) ∈ am_big := am_t7 (List.mem_of_getElem? (i := 66) rfl) rfl
theorem w5_169 : (Jvm.Cond.methodLink "FanNetModel" (278 : Nat) ({ cls := "FanNetModel", name := "laysNet", desc := "()V" } : Jvm.MethodName)) ∈ am_big := am_t5 (List.mem_of_getElem? (i := 169) rfl) rfl
theorem w5_171 : (Jvm.Cond.instanceMethod ({ cls := "FanNetModel", name := "laysNet", desc := "()V" } : Jvm.MethodName)) ∈ am_big := am_t5 (List.mem_of_getElem? (i := 171) rfl) rfl
theorem w0_59 : Cond.selects "FanNetModel" (⟨"FanNetModel", "laysNet", "()V"⟩ : MethodName) ⟨"FanNetModel", "laysNet", "()V"⟩ ∈ am_big := am_t0 (List.mem_of_getElem? (i := 59) rfl) rfl
theorem w5_172 : (Jvm.Cond.code ({ cls := "FanNetModel", name := "laysNet", desc := "()V" } : Jvm.MethodName) prog_12_method_40_code (2 : Nat) (Option.none : Option Jvm.ClassFile.FieldType)) ∈ am_big := am_t5 (List.mem_of_getElem? (i := 172) rfl) rfl
theorem w5_228 : (Jvm.Cond.fieldLink "FanNetModel" (281 : Nat) "FanNetModel" "nodes" "I") ∈ am_big := am_t5 (List.mem_of_getElem? (i := 228) rfl) rfl
theorem w7_71 : (Jvm.Cond.methodLink "FanNetModel" (284 : Nat) ({ cls := "FanNetModel", name := "comesOld", desc := "()V" } : Jvm.MethodName)) ∈ am_big := am_t7 (List.mem_of_getElem? (i := 71) rfl) rfl
theorem w7_73 : (Jvm.Cond.instanceMethod ({ cls := "FanNetModel", name := "comesOld", desc := "()V" } : Jvm.MethodName)) ∈ am_big := am_t7 (List.mem_of_getElem? (i := 73) rfl) rfl
theorem w0_91 : Cond.selects "FanNetModel" (⟨"FanNetModel", "comesOld", "()V"⟩ : MethodName) ⟨"FanNetModel", "comesOld", "()V"⟩ ∈ am_big := am_t0 (List.mem_of_getElem? (i := 91) rfl) rfl
theorem w7_74 : (Jvm.Cond.code ({ cls := "FanNetModel", name := "comesOld", desc := "()V" } : Jvm.MethodName) prog_12_method_46_code (2 : Nat) (Option.none : Option Jvm.ClassFile.FieldType)) ∈ am_big := am_t7 (List.mem_of_getElem? (i := 74) rfl) rfl
theorem w5_197 : (Jvm.Cond.methodLink "FanNetModel" (287 : Nat) ({ cls := "FanNetModel", name := "begins", desc := "()V" } : Jvm.MethodName)) ∈ am_big := am_t5 (List.mem_of_getElem? (i := 197) rfl) rfl
theorem w5_199 : (Jvm.Cond.instanceMethod ({ cls := "FanNetModel", name := "begins", desc := "()V" } : Jvm.MethodName)) ∈ am_big := am_t5 (List.mem_of_getElem? (i := 199) rfl) rfl
theorem w0_66 : Cond.selects "FanNetModel" (⟨"FanNetModel", "begins", "()V"⟩ : MethodName) ⟨"FanNetModel", "begins", "()V"⟩ ∈ am_big := am_t0 (List.mem_of_getElem? (i := 66) rfl) rfl
theorem w5_200 : (Jvm.Cond.code ({ cls := "FanNetModel", name := "begins", desc := "()V" } : Jvm.MethodName) prog_12_method_41_code (2 : Nat) (Option.none : Option Jvm.ClassFile.FieldType)) ∈ am_big := am_t5 (List.mem_of_getElem? (i := 200) rfl) rfl
theorem w5_229 : (Jvm.Cond.fieldLink "FanNetModel" (290 : Nat) "FanNetModel" "beyond" "I") ∈ am_big := am_t5 (List.mem_of_getElem? (i := 229) rfl) rfl
theorem w5_181 : (Jvm.Cond.methodLink "FanNetModel" (293 : Nat) ({ cls := "FanNetModel", name := "endAt", desc := "(II)I" } : Jvm.MethodName)) ∈ am_big := am_t5 (List.mem_of_getElem? (i := 181) rfl) rfl
theorem w5_183 : (Jvm.Cond.instanceMethod ({ cls := "FanNetModel", name := "endAt", desc := "(II)I" } : Jvm.MethodName)) ∈ am_big := am_t5 (List.mem_of_getElem? (i := 183) rfl) rfl
theorem w0_62 : Cond.selects "FanNetModel" (⟨"FanNetModel", "endAt", "(II)I"⟩ : MethodName) ⟨"FanNetModel", "endAt", "(II)I"⟩ ∈ am_big := am_t0 (List.mem_of_getElem? (i := 62) rfl) rfl
theorem w5_184 : (Jvm.Cond.code ({ cls := "FanNetModel", name := "endAt", desc := "(II)I" } : Jvm.MethodName) prog_12_method_36_code (3 : Nat) (Option.some Jvm.ClassFile.FieldType.int)) ∈ am_big := am_t5 (List.mem_of_getElem? (i := 184) rfl) rfl
theorem w5_231 : (Jvm.Cond.fieldLink "FanNetModel" (297 : Nat) "FanNetModel" "termAt" "I") ∈ am_big := am_t5 (List.mem_of_getElem? (i := 231) rfl) rfl
theorem w5_185 : (Jvm.Cond.methodLink "FanNetModel" (300 : Nat) ({ cls := "FanNetModel", name := "laysApplication", desc := "(III)I" } : Jvm.MethodName)) ∈ am_big := am_t5 (List.mem_of_getElem? (i := 185) rfl) rfl
theorem w5_187 : (Jvm.Cond.instanceMethod ({ cls := "FanNetModel", name := "laysApplication", desc := "(III)I" } : Jvm.MethodName)) ∈ am_big := am_t5 (List.mem_of_getElem? (i := 187) rfl) rfl
theorem w0_63 : Cond.selects "FanNetModel" (⟨"FanNetModel", "laysApplication", "(III)I"⟩ : MethodName) ⟨"FanNetModel", "laysApplication", "(III)I"⟩ ∈ am_big := am_t0 (List.mem_of_getElem? (i := 63) rfl) rfl
theorem w5_188 : (Jvm.Cond.code ({ cls := "FanNetModel", name := "laysApplication", desc := "(III)I" } : Jvm.MethodName) prog_12_method_39_code (9 : Nat) (Option.some Jvm.ClassFile.FieldType.int)) ∈ am_big := am_t5 (List.mem_of_getElem? (i := 188) rfl) rfl
theorem w5_193 : (Jvm.Cond.methodLink "FanNetModel" (304 : Nat) ({ cls := "FanNetModel", name := "laysFunction", desc := "(III)I" } : Jvm.MethodName)) ∈ am_big := am_t5 (List.mem_of_getElem? (i := 193) rfl) rfl
theorem w5_195 : (Jvm.Cond.instanceMethod ({ cls := "FanNetModel", name := "laysFunction", desc := "(III)I" } : Jvm.MethodName)) ∈ am_big := am_t5 (List.mem_of_getElem? (i := 195) rfl) rfl
theorem w0_65 : Cond.selects "FanNetModel" (⟨"FanNetModel", "laysFunction", "(III)I"⟩ : MethodName) ⟨"FanNetModel", "laysFunction", "(III)I"⟩ ∈ am_big := am_t0 (List.mem_of_getElem? (i := 65) rfl) rfl
theorem w5_196 : (Jvm.Cond.code ({ cls := "FanNetModel", name := "laysFunction", desc := "(III)I" } : Jvm.MethodName) prog_12_method_38_code (7 : Nat) (Option.some Jvm.ClassFile.FieldType.int)) ∈ am_big := am_t5 (List.mem_of_getElem? (i := 196) rfl) rfl
theorem w5_173 : (Jvm.Cond.methodLink "FanNetModel" (307 : Nat) ({ cls := "FanNetModel", name := "newNode", desc := "(II)I" } : Jvm.MethodName)) ∈ am_big := am_t5 (List.mem_of_getElem? (i := 173) rfl) rfl
theorem w5_175 : (Jvm.Cond.instanceMethod ({ cls := "FanNetModel", name := "newNode", desc := "(II)I" } : Jvm.MethodName)) ∈ am_big := am_t5 (List.mem_of_getElem? (i := 175) rfl) rfl
theorem w0_60 : Cond.selects "FanNetModel" (⟨"FanNetModel", "newNode", "(II)I"⟩ : MethodName) ⟨"FanNetModel", "newNode", "(II)I"⟩ ∈ am_big := am_t0 (List.mem_of_getElem? (i := 60) rfl) rfl
theorem w5_176 : (Jvm.Cond.code ({ cls := "FanNetModel", name := "newNode", desc := "(II)I" } : Jvm.MethodName) prog_12_method_34_code (4 : Nat) (Option.some Jvm.ClassFile.FieldType.int)) ∈ am_big := am_t5 (List.mem_of_getElem? (i := 176) rfl) rfl
theorem w5_177 : (Jvm.Cond.methodLink "FanNetModel" (310 : Nat) ({ cls := "FanNetModel", name := "laysPart", desc := "(III)I" } : Jvm.MethodName)) ∈ am_big := am_t5 (List.mem_of_getElem? (i := 177) rfl) rfl
theorem w5_179 : (Jvm.Cond.instanceMethod ({ cls := "FanNetModel", name := "laysPart", desc := "(III)I" } : Jvm.MethodName)) ∈ am_big := am_t5 (List.mem_of_getElem? (i := 179) rfl) rfl
theorem w0_61 : Cond.selects "FanNetModel" (⟨"FanNetModel", "laysPart", "(III)I"⟩ : MethodName) ⟨"FanNetModel", "laysPart", "(III)I"⟩ ∈ am_big := am_t0 (List.mem_of_getElem? (i := 61) rfl) rfl
theorem w5_180 : (Jvm.Cond.code ({ cls := "FanNetModel", name := "laysPart", desc := "(III)I" } : Jvm.MethodName) prog_12_method_37_code (6 : Nat) (Option.some Jvm.ClassFile.FieldType.int)) ∈ am_big := am_t5 (List.mem_of_getElem? (i := 180) rfl) rfl
theorem w5_189 : (Jvm.Cond.methodLink "FanNetModel" (313 : Nat) ({ cls := "FanNetModel", name := "wires", desc := "(II)V" } : Jvm.MethodName)) ∈ am_big := am_t5 (List.mem_of_getElem? (i := 189) rfl) rfl
theorem w5_191 : (Jvm.Cond.instanceMethod ({ cls := "FanNetModel", name := "wires", desc := "(II)V" } : Jvm.MethodName)) ∈ am_big := am_t5 (List.mem_of_getElem? (i := 191) rfl) rfl
theorem w0_64 : Cond.selects "FanNetModel" (⟨"FanNetModel", "wires", "(II)V"⟩ : MethodName) ⟨"FanNetModel", "wires", "(II)V"⟩ ∈ am_big := am_t0 (List.mem_of_getElem? (i := 64) rfl) rfl
theorem w5_192 : (Jvm.Cond.code ({ cls := "FanNetModel", name := "wires", desc := "(II)V" } : Jvm.MethodName) prog_12_method_35_code (3 : Nat) (Option.none : Option Jvm.ClassFile.FieldType)) ∈ am_big := am_t5 (List.mem_of_getElem? (i := 192) rfl) rfl
theorem w5_233 : (Jvm.Cond.fieldLink "FanNetModel" (316 : Nat) "FanNetModel" "mostNodes" "I") ∈ am_big := am_t5 (List.mem_of_getElem? (i := 233) rfl) rfl
theorem w5_237 : (Jvm.Cond.fieldLink "FanNetModel" (319 : Nat) "FanNetModel" "oldNodes" "I") ∈ am_big := am_t5 (List.mem_of_getElem? (i := 237) rfl) rfl
theorem w5_238 : (Jvm.Cond.fieldLink "FanNetModel" (322 : Nat) "FanNetModel" "oldBeyond" "I") ∈ am_big := am_t5 (List.mem_of_getElem? (i := 238) rfl) rfl
theorem w7_67 : (Jvm.Cond.methodLink "FanNetModel" (325 : Nat) ({ cls := "FanNetModel", name := "keepsNet", desc := "()V" } : Jvm.MethodName)) ∈ am_big := am_t7 (List.mem_of_getElem? (i := 67) rfl) rfl
theorem w7_69 : (Jvm.Cond.instanceMethod ({ cls := "FanNetModel", name := "keepsNet", desc := "()V" } : Jvm.MethodName)) ∈ am_big := am_t7 (List.mem_of_getElem? (i := 69) rfl) rfl
theorem w0_90 : Cond.selects "FanNetModel" (⟨"FanNetModel", "keepsNet", "()V"⟩ : MethodName) ⟨"FanNetModel", "keepsNet", "()V"⟩ ∈ am_big := am_t0 (List.mem_of_getElem? (i := 90) rfl) rfl
theorem w7_70 : (Jvm.Cond.code ({ cls := "FanNetModel", name := "keepsNet", desc := "()V" } : Jvm.MethodName) prog_12_method_43_code (3 : Nat) (Option.none : Option Jvm.ClassFile.FieldType)) ∈ am_big := am_t7 (List.mem_of_getElem? (i := 70) rfl) rfl
theorem w5_239 : (Jvm.Cond.fieldLink "FanNetModel" (328 : Nat) "FanNetModel" "oldMany" "I") ∈ am_big := am_t5 (List.mem_of_getElem? (i := 239) rfl) rfl
theorem w7_75 : (Jvm.Cond.methodLink "FanNetModel" (331 : Nat) ({ cls := "FanNetModel", name := "comesNet", desc := "()V" } : Jvm.MethodName)) ∈ am_big := am_t7 (List.mem_of_getElem? (i := 75) rfl) rfl
theorem w7_77 : (Jvm.Cond.instanceMethod ({ cls := "FanNetModel", name := "comesNet", desc := "()V" } : Jvm.MethodName)) ∈ am_big := am_t7 (List.mem_of_getElem? (i := 77) rfl) rfl
theorem w0_92 : Cond.selects "FanNetModel" (⟨"FanNetModel", "comesNet", "()V"⟩ : MethodName) ⟨"FanNetModel", "comesNet", "()V"⟩ ∈ am_big := am_t0 (List.mem_of_getElem? (i := 92) rfl) rfl
theorem w7_78 : (Jvm.Cond.code ({ cls := "FanNetModel", name := "comesNet", desc := "()V" } : Jvm.MethodName) prog_12_method_44_code (3 : Nat) (Option.none : Option Jvm.ClassFile.FieldType)) ∈ am_big := am_t7 (List.mem_of_getElem? (i := 78) rfl) rfl
theorem w7_178 : (Jvm.Cond.methodLink "FanNetModel" (334 : Nat) ({ cls := "FanNetModel", name := "isNode", desc := "(I)Z" } : Jvm.MethodName)) ∈ am_big := am_t7 (List.mem_of_getElem? (i := 178) rfl) rfl
theorem w7_180 : (Jvm.Cond.instanceMethod ({ cls := "FanNetModel", name := "isNode", desc := "(I)Z" } : Jvm.MethodName)) ∈ am_big := am_t7 (List.mem_of_getElem? (i := 180) rfl) rfl
theorem w0_114 : Cond.selects "FanNetModel" (⟨"FanNetModel", "isNode", "(I)Z"⟩ : MethodName) ⟨"FanNetModel", "isNode", "(I)Z"⟩ ∈ am_big := am_t0 (List.mem_of_getElem? (i := 114) rfl) rfl
theorem w7_181 : (Jvm.Cond.code ({ cls := "FanNetModel", name := "isNode", desc := "(I)Z" } : Jvm.MethodName) prog_12_method_33_code (2 : Nat) (Option.some Jvm.ClassFile.FieldType.boolean)) ∈ am_big := am_t7 (List.mem_of_getElem? (i := 181) rfl) rfl
theorem w7_174 : (Jvm.Cond.methodLink "FanNetModel" (337 : Nat) ({ cls := "FanNetModel", name := "isActive", desc := "(I)Z" } : Jvm.MethodName)) ∈ am_big := am_t7 (List.mem_of_getElem? (i := 174) rfl) rfl
theorem w7_176 : (Jvm.Cond.instanceMethod ({ cls := "FanNetModel", name := "isActive", desc := "(I)Z" } : Jvm.MethodName)) ∈ am_big := am_t7 (List.mem_of_getElem? (i := 176) rfl) rfl
theorem w0_113 : Cond.selects "FanNetModel" (⟨"FanNetModel", "isActive", "(I)Z"⟩ : MethodName) ⟨"FanNetModel", "isActive", "(I)Z"⟩ ∈ am_big := am_t0 (List.mem_of_getElem? (i := 113) rfl) rfl
theorem w7_177 : (Jvm.Cond.code ({ cls := "FanNetModel", name := "isActive", desc := "(I)Z" } : Jvm.MethodName) prog_12_method_48_code (2 : Nat) (Option.some Jvm.ClassFile.FieldType.boolean)) ∈ am_big := am_t7 (List.mem_of_getElem? (i := 177) rfl) rfl
theorem w7_170 : (Jvm.Cond.methodLink "FanNetModel" (340 : Nat) ({ cls := "FanNetModel", name := "isLesser", desc := "(I)Z" } : Jvm.MethodName)) ∈ am_big := am_t7 (List.mem_of_getElem? (i := 170) rfl) rfl
theorem w7_172 : (Jvm.Cond.instanceMethod ({ cls := "FanNetModel", name := "isLesser", desc := "(I)Z" } : Jvm.MethodName)) ∈ am_big := am_t7 (List.mem_of_getElem? (i := 172) rfl) rfl
theorem w0_112 : Cond.selects "FanNetModel" (⟨"FanNetModel", "isLesser", "(I)Z"⟩ : MethodName) ⟨"FanNetModel", "isLesser", "(I)Z"⟩ ∈ am_big := am_t0 (List.mem_of_getElem? (i := 112) rfl) rfl
theorem w7_173 : (Jvm.Cond.code ({ cls := "FanNetModel", name := "isLesser", desc := "(I)Z" } : Jvm.MethodName) prog_12_method_49_code (2 : Nat) (Option.some Jvm.ClassFile.FieldType.boolean)) ∈ am_big := am_t7 (List.mem_of_getElem? (i := 173) rfl) rfl
theorem w7_102 : (Jvm.Cond.methodLink "FanNetModel" (343 : Nat) ({ cls := "FanNetModel", name := "walks", desc := "()V" } : Jvm.MethodName)) ∈ am_big := am_t7 (List.mem_of_getElem? (i := 102) rfl) rfl
theorem w7_104 : (Jvm.Cond.instanceMethod ({ cls := "FanNetModel", name := "walks", desc := "()V" } : Jvm.MethodName)) ∈ am_big := am_t7 (List.mem_of_getElem? (i := 104) rfl) rfl
theorem w0_95 : Cond.selects "FanNetModel" (⟨"FanNetModel", "walks", "()V"⟩ : MethodName) ⟨"FanNetModel", "walks", "()V"⟩ ∈ am_big := am_t0 (List.mem_of_getElem? (i := 95) rfl) rfl
theorem w7_105 : (Jvm.Cond.code ({ cls := "FanNetModel", name := "walks", desc := "()V" } : Jvm.MethodName) prog_12_method_78_code (3 : Nat) (Option.none : Option Jvm.ClassFile.FieldType)) ∈ am_big := am_t7 (List.mem_of_getElem? (i := 105) rfl) rfl
theorem w6_24 : (Jvm.Cond.fieldLink "FanNetModel" (346 : Nat) "FanNetModel" "wantedNode" "I") ∈ am_big := am_t6 (List.mem_of_getElem? (i := 24) rfl) rfl
theorem w7_190 : (Jvm.Cond.methodLink "FanNetModel" (349 : Nat) ({ cls := "FanNetModel", name := "isThrough", desc := "(I)Z" } : Jvm.MethodName)) ∈ am_big := am_t7 (List.mem_of_getElem? (i := 190) rfl) rfl
theorem w7_191 : (Jvm.Cond.static ({ cls := "FanNetModel", name := "isThrough", desc := "(I)Z" } : Jvm.MethodName)) ∈ am_big := am_t7 (List.mem_of_getElem? (i := 191) rfl) rfl
theorem w7_192 : (Jvm.Cond.code ({ cls := "FanNetModel", name := "isThrough", desc := "(I)Z" } : Jvm.MethodName) prog_12_method_52_code (1 : Nat) (Option.some Jvm.ClassFile.FieldType.boolean)) ∈ am_big := am_t7 (List.mem_of_getElem? (i := 192) rfl) rfl
theorem w7_197 : (Jvm.Cond.methodLink "FanNetModel" (352 : Nat) ({ cls := "FanNetModel", name := "portsOf", desc := "(I)I" } : Jvm.MethodName)) ∈ am_big := am_t7 (List.mem_of_getElem? (i := 197) rfl) rfl
theorem w7_198 : (Jvm.Cond.static ({ cls := "FanNetModel", name := "portsOf", desc := "(I)I" } : Jvm.MethodName)) ∈ am_big := am_t7 (List.mem_of_getElem? (i := 198) rfl) rfl
theorem w7_199 : (Jvm.Cond.code ({ cls := "FanNetModel", name := "portsOf", desc := "(I)I" } : Jvm.MethodName) prog_12_method_32_code (1 : Nat) (Option.some Jvm.ClassFile.FieldType.int)) ∈ am_big := am_t7 (List.mem_of_getElem? (i := 199) rfl) rfl
theorem w7_208 : (Jvm.Cond.methodLink "FanNetModel" (355 : Nat) ({ cls := "FanNetModel", name := "inPlaceOf", desc := "(II)V" } : Jvm.MethodName)) ∈ am_big := am_t7 (List.mem_of_getElem? (i := 208) rfl) rfl
theorem w7_210 : (Jvm.Cond.instanceMethod ({ cls := "FanNetModel", name := "inPlaceOf", desc := "(II)V" } : Jvm.MethodName)) ∈ am_big := am_t7 (List.mem_of_getElem? (i := 210) rfl) rfl
theorem w0_120 : Cond.selects "FanNetModel" (⟨"FanNetModel", "inPlaceOf", "(II)V"⟩ : MethodName) ⟨"FanNetModel", "inPlaceOf", "(II)V"⟩ ∈ am_big := am_t0 (List.mem_of_getElem? (i := 120) rfl) rfl
theorem w7_211 : (Jvm.Cond.code ({ cls := "FanNetModel", name := "inPlaceOf", desc := "(II)V" } : Jvm.MethodName) prog_12_method_56_code (3 : Nat) (Option.none : Option Jvm.ClassFile.FieldType)) ∈ am_big := am_t7 (List.mem_of_getElem? (i := 211) rfl) rfl
theorem w7_186 : (Jvm.Cond.methodLink "FanNetModel" (358 : Nat) ({ cls := "FanNetModel", name := "kindOf", desc := "(II)I" } : Jvm.MethodName)) ∈ am_big := am_t7 (List.mem_of_getElem? (i := 186) rfl) rfl
theorem w7_188 : (Jvm.Cond.instanceMethod ({ cls := "FanNetModel", name := "kindOf", desc := "(II)I" } : Jvm.MethodName)) ∈ am_big := am_t7 (List.mem_of_getElem? (i := 188) rfl) rfl
theorem w0_116 : Cond.selects "FanNetModel" (⟨"FanNetModel", "kindOf", "(II)I"⟩ : MethodName) ⟨"FanNetModel", "kindOf", "(II)I"⟩ ∈ am_big := am_t0 (List.mem_of_getElem? (i := 116) rfl) rfl
theorem w7_189 : (Jvm.Cond.code ({ cls := "FanNetModel", name := "kindOf", desc := "(II)I" } : Jvm.MethodName) prog_12_method_53_code (4 : Nat) (Option.some Jvm.ClassFile.FieldType.int)) ∈ am_big := am_t7 (List.mem_of_getElem? (i := 189) rfl) rfl
theorem w7_193 : (Jvm.Cond.methodLink "FanNetModel" (361 : Nat) ({ cls := "FanNetModel", name := "moreBy", desc := "(III)I" } : Jvm.MethodName)) ∈ am_big := am_t7 (List.mem_of_getElem? (i := 193) rfl) rfl
theorem w7_195 : (Jvm.Cond.instanceMethod ({ cls := "FanNetModel", name := "moreBy", desc := "(III)I" } : Jvm.MethodName)) ∈ am_big := am_t7 (List.mem_of_getElem? (i := 195) rfl) rfl
theorem w0_117 : Cond.selects "FanNetModel" (⟨"FanNetModel", "moreBy", "(III)I"⟩ : MethodName) ⟨"FanNetModel", "moreBy", "(III)I"⟩ ∈ am_big := am_t0 (List.mem_of_getElem? (i := 117) rfl) rfl
theorem w7_196 : (Jvm.Cond.code ({ cls := "FanNetModel", name := "moreBy", desc := "(III)I" } : Jvm.MethodName) prog_12_method_54_code (6 : Nat) (Option.some Jvm.ClassFile.FieldType.int)) ∈ am_big := am_t7 (List.mem_of_getElem? (i := 196) rfl) rfl
theorem w7_200 : (Jvm.Cond.methodLink "FanNetModel" (364 : Nat) ({ cls := "FanNetModel", name := "goesAside", desc := "(II)V" } : Jvm.MethodName)) ∈ am_big := am_t7 (List.mem_of_getElem? (i := 200) rfl) rfl
theorem w7_202 : (Jvm.Cond.instanceMethod ({ cls := "FanNetModel", name := "goesAside", desc := "(II)V" } : Jvm.MethodName)) ∈ am_big := am_t7 (List.mem_of_getElem? (i := 202) rfl) rfl
theorem w0_118 : Cond.selects "FanNetModel" (⟨"FanNetModel", "goesAside", "(II)V"⟩ : MethodName) ⟨"FanNetModel", "goesAside", "(II)V"⟩ ∈ am_big := am_t0 (List.mem_of_getElem? (i := 118) rfl) rfl
theorem w7_203 : (Jvm.Cond.code ({ cls := "FanNetModel", name := "goesAside", desc := "(II)V" } : Jvm.MethodName) prog_12_method_55_code (5 : Nat) (Option.none : Option Jvm.ClassFile.FieldType)) ∈ am_big := am_t7 (List.mem_of_getElem? (i := 203) rfl) rfl
theorem w7_204 : (Jvm.Cond.methodLink "FanNetModel" (367 : Nat) ({ cls := "FanNetModel", name := "erases", desc := "(I)V" } : Jvm.MethodName)) ∈ am_big := am_t7 (List.mem_of_getElem? (i := 204) rfl) rfl
theorem w7_206 : (Jvm.Cond.instanceMethod ({ cls := "FanNetModel", name := "erases", desc := "(I)V" } : Jvm.MethodName)) ∈ am_big := am_t7 (List.mem_of_getElem? (i := 206) rfl) rfl
theorem w0_119 : Cond.selects "FanNetModel" (⟨"FanNetModel", "erases", "(I)V"⟩ : MethodName) ⟨"FanNetModel", "erases", "(I)V"⟩ ∈ am_big := am_t0 (List.mem_of_getElem? (i := 119) rfl) rfl
theorem w7_207 : (Jvm.Cond.code ({ cls := "FanNetModel", name := "erases", desc := "(I)V" } : Jvm.MethodName) prog_12_method_58_code (3 : Nat) (Option.none : Option Jvm.ClassFile.FieldType)) ∈ am_big := am_t7 (List.mem_of_getElem? (i := 207) rfl) rfl
theorem w7_212 : (Jvm.Cond.methodLink "FanNetModel" (370 : Nat) ({ cls := "FanNetModel", name := "joins", desc := "(II)V" } : Jvm.MethodName)) ∈ am_big := am_t7 (List.mem_of_getElem? (i := 212) rfl) rfl
theorem w7_214 : (Jvm.Cond.instanceMethod ({ cls := "FanNetModel", name := "joins", desc := "(II)V" } : Jvm.MethodName)) ∈ am_big := am_t7 (List.mem_of_getElem? (i := 214) rfl) rfl
theorem w0_121 : Cond.selects "FanNetModel" (⟨"FanNetModel", "joins", "(II)V"⟩ : MethodName) ⟨"FanNetModel", "joins", "(II)V"⟩ ∈ am_big := am_t0 (List.mem_of_getElem? (i := 121) rfl) rfl
theorem w7_215 : (Jvm.Cond.code ({ cls := "FanNetModel", name := "joins", desc := "(II)V" } : Jvm.MethodName) prog_12_method_57_code (5 : Nat) (Option.none : Option Jvm.ClassFile.FieldType)) ∈ am_big := am_t7 (List.mem_of_getElem? (i := 215) rfl) rfl
theorem w7_216 : (Jvm.Cond.methodLink "FanNetModel" (373 : Nat) ({ cls := "FanNetModel", name := "goesThrough", desc := "(II)V" } : Jvm.MethodName)) ∈ am_big := am_t7 (List.mem_of_getElem? (i := 216) rfl) rfl
theorem w7_218 : (Jvm.Cond.instanceMethod ({ cls := "FanNetModel", name := "goesThrough", desc := "(II)V" } : Jvm.MethodName)) ∈ am_big := am_t7 (List.mem_of_getElem? (i := 218) rfl) rfl
theorem w0_122 : Cond.selects "FanNetModel" (⟨"FanNetModel", "goesThrough", "(II)V"⟩ : MethodName) ⟨"FanNetModel", "goesThrough", "(II)V"⟩ ∈ am_big := am_t0 (List.mem_of_getElem? (i := 122) rfl) rfl
theorem w7_219 : (Jvm.Cond.code ({ cls := "FanNetModel", name := "goesThrough", desc := "(II)V" } : Jvm.MethodName) prog_12_method_59_code (8 : Nat) (Option.none : Option Jvm.ClassFile.FieldType)) ∈ am_big := am_t7 (List.mem_of_getElem? (i := 219) rfl) rfl
theorem w7_98 : (Jvm.Cond.methodLink "FanNetModel" (376 : Nat) ({ cls := "FanNetModel", name := "chosen", desc := "(I)I" } : Jvm.MethodName)) ∈ am_big := am_t7 (List.mem_of_getElem? (i := 98) rfl) rfl
theorem w7_100 : (Jvm.Cond.instanceMethod ({ cls := "FanNetModel", name := "chosen", desc := "(I)I" } : Jvm.MethodName)) ∈ am_big := am_t7 (List.mem_of_getElem? (i := 100) rfl) rfl
theorem w0_94 : Cond.selects "FanNetModel" (⟨"FanNetModel", "chosen", "(I)I"⟩ : MethodName) ⟨"FanNetModel", "chosen", "(I)I"⟩ ∈ am_big := am_t0 (List.mem_of_getElem? (i := 94) rfl) rfl
theorem w7_101 : (Jvm.Cond.code ({ cls := "FanNetModel", name := "chosen", desc := "(I)I" } : Jvm.MethodName) prog_12_method_51_code (4 : Nat) (Option.some Jvm.ClassFile.FieldType.int)) ∈ am_big := am_t7 (List.mem_of_getElem? (i := 101) rfl) rfl
theorem w7_182 : (Jvm.Cond.methodLink "FanNetModel" (379 : Nat) ({ cls := "FanNetModel", name := "works", desc := "(I)I" } : Jvm.MethodName)) ∈ am_big := am_t7 (List.mem_of_getElem? (i := 182) rfl) rfl
theorem w7_184 : (Jvm.Cond.instanceMethod ({ cls := "FanNetModel", name := "works", desc := "(I)I" } : Jvm.MethodName)) ∈ am_big := am_t7 (List.mem_of_getElem? (i := 184) rfl) rfl
theorem w0_115 : Cond.selects "FanNetModel" (⟨"FanNetModel", "works", "(I)I"⟩ : MethodName) ⟨"FanNetModel", "works", "(I)I"⟩ ∈ am_big := am_t0 (List.mem_of_getElem? (i := 115) rfl) rfl
theorem w7_185 : (Jvm.Cond.code ({ cls := "FanNetModel", name := "works", desc := "(I)I" } : Jvm.MethodName) prog_12_method_60_code (7 : Nat) (Option.some Jvm.ClassFile.FieldType.int)) ∈ am_big := am_t7 (List.mem_of_getElem? (i := 185) rfl) rfl
theorem w7_91 : (Jvm.Cond.methodLink "FanNetModel" (382 : Nat) ({ cls := "FanNetModel", name := "isWay", desc := "(I)Z" } : Jvm.MethodName)) ∈ am_big := am_t7 (List.mem_of_getElem? (i := 91) rfl) rfl
theorem w7_92 : (Jvm.Cond.static ({ cls := "FanNetModel", name := "isWay", desc := "(I)Z" } : Jvm.MethodName)) ∈ am_big := am_t7 (List.mem_of_getElem? (i := 92) rfl) rfl
theorem w7_93 : (Jvm.Cond.code ({ cls := "FanNetModel", name := "isWay", desc := "(I)Z" } : Jvm.MethodName) prog_12_method_62_code (1 : Nat) (Option.some Jvm.ClassFile.FieldType.boolean)) ∈ am_big := am_t7 (List.mem_of_getElem? (i := 93) rfl) rfl
theorem w7_94 : (Jvm.Cond.methodLink "FanNetModel" (385 : Nat) ({ cls := "FanNetModel", name := "steps", desc := "(I)I" } : Jvm.MethodName)) ∈ am_big := am_t7 (List.mem_of_getElem? (i := 94) rfl) rfl
theorem w7_96 : (Jvm.Cond.instanceMethod ({ cls := "FanNetModel", name := "steps", desc := "(I)I" } : Jvm.MethodName)) ∈ am_big := am_t7 (List.mem_of_getElem? (i := 96) rfl) rfl
theorem w0_93 : Cond.selects "FanNetModel" (⟨"FanNetModel", "steps", "(I)I"⟩ : MethodName) ⟨"FanNetModel", "steps", "(I)I"⟩ ∈ am_big := am_t0 (List.mem_of_getElem? (i := 93) rfl) rfl
theorem w7_97 : (Jvm.Cond.code ({ cls := "FanNetModel", name := "steps", desc := "(I)I" } : Jvm.MethodName) prog_12_method_61_code (4 : Nat) (Option.some Jvm.ClassFile.FieldType.int)) ∈ am_big := am_t7 (List.mem_of_getElem? (i := 97) rfl) rfl
theorem w7_228 : (Jvm.Cond.methodLink "FanNetModel" (388 : Nat) ({ cls := "FanNetModel", name := "tries", desc := "(I)V" } : Jvm.MethodName)) ∈ am_big := am_t7 (List.mem_of_getElem? (i := 228) rfl) rfl
theorem w7_230 : (Jvm.Cond.instanceMethod ({ cls := "FanNetModel", name := "tries", desc := "(I)V" } : Jvm.MethodName)) ∈ am_big := am_t7 (List.mem_of_getElem? (i := 230) rfl) rfl
theorem w0_123 : Cond.selects "FanNetModel" (⟨"FanNetModel", "tries", "(I)V"⟩ : MethodName) ⟨"FanNetModel", "tries", "(I)V"⟩ ∈ am_big := am_t0 (List.mem_of_getElem? (i := 123) rfl) rfl
theorem w7_231 : (Jvm.Cond.code ({ cls := "FanNetModel", name := "tries", desc := "(I)V" } : Jvm.MethodName) prog_12_method_65_code (7 : Nat) (Option.none : Option Jvm.ClassFile.FieldType)) ∈ am_big := am_t7 (List.mem_of_getElem? (i := 231) rfl) rfl
theorem w6_9 : (Jvm.Cond.fieldLink "FanNetModel" (391 : Nat) "FanNetModel" "things" "I") ∈ am_big := am_t6 (List.mem_of_getElem? (i := 9) rfl) rfl
theorem w6_11 : (Jvm.Cond.fieldLink "FanNetModel" (394 : Nat) "FanNetModel" "stackMany" "I") ∈ am_big := am_t6 (List.mem_of_getElem? (i := 11) rfl) rfl
theorem w6_16 : (Jvm.Cond.fieldLink "FanNetModel" (397 : Nat) "FanNetModel" "waiting" "I") ∈ am_big := am_t6 (List.mem_of_getElem? (i := 16) rfl) rfl
theorem w6_20 : (Jvm.Cond.fieldLink "FanNetModel" (400 : Nat) "FanNetModel" "around" "I") ∈ am_big := am_t6 (List.mem_of_getElem? (i := 20) rfl) rfl
theorem w7_122 : (Jvm.Cond.methodLink "FanNetModel" (403 : Nat) ({ cls := "FanNetModel", name := "stackAt", desc := "(I)I" } : Jvm.MethodName)) ∈ am_big := am_t7 (List.mem_of_getElem? (i := 122) rfl) rfl
theorem w7_124 : (Jvm.Cond.instanceMethod ({ cls := "FanNetModel", name := "stackAt", desc := "(I)I" } : Jvm.MethodName)) ∈ am_big := am_t7 (List.mem_of_getElem? (i := 124) rfl) rfl
theorem w0_100 : Cond.selects "FanNetModel" (⟨"FanNetModel", "stackAt", "(I)I"⟩ : MethodName) ⟨"FanNetModel", "stackAt", "(I)I"⟩ ∈ am_big := am_t0 (List.mem_of_getElem? (i := 100) rfl) rfl
theorem w7_125 : (Jvm.Cond.code ({ cls := "FanNetModel", name := "stackAt", desc := "(I)I" } : Jvm.MethodName) prog_12_method_68_code (2 : Nat) (Option.some Jvm.ClassFile.FieldType.int)) ∈ am_big := am_t7 (List.mem_of_getElem? (i := 125) rfl) rfl
theorem w7_130 : (Jvm.Cond.methodLink "FanNetModel" (406 : Nat) ({ cls := "FanNetModel", name := "isAsAround", desc := "(I)Z" } : Jvm.MethodName)) ∈ am_big := am_t7 (List.mem_of_getElem? (i := 130) rfl) rfl
theorem w7_132 : (Jvm.Cond.instanceMethod ({ cls := "FanNetModel", name := "isAsAround", desc := "(I)Z" } : Jvm.MethodName)) ∈ am_big := am_t7 (List.mem_of_getElem? (i := 132) rfl) rfl
theorem w0_102 : Cond.selects "FanNetModel" (⟨"FanNetModel", "isAsAround", "(I)Z"⟩ : MethodName) ⟨"FanNetModel", "isAsAround", "(I)Z"⟩ ∈ am_big := am_t0 (List.mem_of_getElem? (i := 102) rfl) rfl
theorem w7_133 : (Jvm.Cond.code ({ cls := "FanNetModel", name := "isAsAround", desc := "(I)Z" } : Jvm.MethodName) prog_12_method_76_code (3 : Nat) (Option.some Jvm.ClassFile.FieldType.boolean)) ∈ am_big := am_t7 (List.mem_of_getElem? (i := 133) rfl) rfl
theorem w6_23 : (Jvm.Cond.fieldLink "FanNetModel" (409 : Nat) "FanNetModel" "walked" "I") ∈ am_big := am_t6 (List.mem_of_getElem? (i := 23) rfl) rfl
theorem w6_25 : (Jvm.Cond.fieldLink "FanNetModel" (412 : Nat) "FanNetModel" "wantedAt" "I") ∈ am_big := am_t6 (List.mem_of_getElem? (i := 25) rfl) rfl
theorem w7_106 : (Jvm.Cond.methodLink "FanNetModel" (415 : Nat) ({ cls := "FanNetModel", name := "comesTo", desc := "(I)I" } : Jvm.MethodName)) ∈ am_big := am_t7 (List.mem_of_getElem? (i := 106) rfl) rfl
theorem w7_108 : (Jvm.Cond.instanceMethod ({ cls := "FanNetModel", name := "comesTo", desc := "(I)I" } : Jvm.MethodName)) ∈ am_big := am_t7 (List.mem_of_getElem? (i := 108) rfl) rfl
theorem w0_96 : Cond.selects "FanNetModel" (⟨"FanNetModel", "comesTo", "(I)I"⟩ : MethodName) ⟨"FanNetModel", "comesTo", "(I)I"⟩ ∈ am_big := am_t0 (List.mem_of_getElem? (i := 96) rfl) rfl
theorem w7_109 : (Jvm.Cond.code ({ cls := "FanNetModel", name := "comesTo", desc := "(I)I" } : Jvm.MethodName) prog_12_method_79_code (4 : Nat) (Option.some Jvm.ClassFile.FieldType.int)) ∈ am_big := am_t7 (List.mem_of_getElem? (i := 109) rfl) rfl
theorem w6_26 : (Jvm.Cond.fieldLink "FanNetModel" (418 : Nat) "FanNetModel" "isRead" "Z") ∈ am_big := am_t6 (List.mem_of_getElem? (i := 26) rfl) rfl
theorem w7_110 : (Jvm.Cond.methodLink "FanNetModel" (422 : Nat) ({ cls := "FanNetModel", name := "comesToFunction", desc := "(II)I" } : Jvm.MethodName)) ∈ am_big := am_t7 (List.mem_of_getElem? (i := 110) rfl) rfl
theorem w7_112 : (Jvm.Cond.instanceMethod ({ cls := "FanNetModel", name := "comesToFunction", desc := "(II)I" } : Jvm.MethodName)) ∈ am_big := am_t7 (List.mem_of_getElem? (i := 112) rfl) rfl
theorem w0_97 : Cond.selects "FanNetModel" (⟨"FanNetModel", "comesToFunction", "(II)I"⟩ : MethodName) ⟨"FanNetModel", "comesToFunction", "(II)I"⟩ ∈ am_big := am_t0 (List.mem_of_getElem? (i := 97) rfl) rfl
theorem w7_113 : (Jvm.Cond.code ({ cls := "FanNetModel", name := "comesToFunction", desc := "(II)I" } : Jvm.MethodName) prog_12_method_80_code (4 : Nat) (Option.some Jvm.ClassFile.FieldType.int)) ∈ am_big := am_t7 (List.mem_of_getElem? (i := 113) rfl) rfl
theorem w7_114 : (Jvm.Cond.methodLink "FanNetModel" (425 : Nat) ({ cls := "FanNetModel", name := "reads", desc := "(I)Z" } : Jvm.MethodName)) ∈ am_big := am_t7 (List.mem_of_getElem? (i := 114) rfl) rfl
theorem w7_116 : (Jvm.Cond.instanceMethod ({ cls := "FanNetModel", name := "reads", desc := "(I)Z" } : Jvm.MethodName)) ∈ am_big := am_t7 (List.mem_of_getElem? (i := 116) rfl) rfl
theorem w0_98 : Cond.selects "FanNetModel" (⟨"FanNetModel", "reads", "(I)Z"⟩ : MethodName) ⟨"FanNetModel", "reads", "(I)Z"⟩ ∈ am_big := am_t0 (List.mem_of_getElem? (i := 98) rfl) rfl
theorem w7_117 : (Jvm.Cond.code ({ cls := "FanNetModel", name := "reads", desc := "(I)Z" } : Jvm.MethodName) prog_12_method_77_code (2 : Nat) (Option.some Jvm.ClassFile.FieldType.boolean)) ∈ am_big := am_t7 (List.mem_of_getElem? (i := 117) rfl) rfl
theorem w7_138 : (Jvm.Cond.methodLink "FanNetModel" (428 : Nat) ({ cls := "FanNetModel", name := "waits", desc := "(I)V" } : Jvm.MethodName)) ∈ am_big := am_t7 (List.mem_of_getElem? (i := 138) rfl) rfl
theorem w7_140 : (Jvm.Cond.instanceMethod ({ cls := "FanNetModel", name := "waits", desc := "(I)V" } : Jvm.MethodName)) ∈ am_big := am_t7 (List.mem_of_getElem? (i := 140) rfl) rfl
theorem w0_104 : Cond.selects "FanNetModel" (⟨"FanNetModel", "waits", "(I)V"⟩ : MethodName) ⟨"FanNetModel", "waits", "(I)V"⟩ ∈ am_big := am_t0 (List.mem_of_getElem? (i := 104) rfl) rfl
theorem w7_141 : (Jvm.Cond.code ({ cls := "FanNetModel", name := "waits", desc := "(I)V" } : Jvm.MethodName) prog_12_method_72_code (4 : Nat) (Option.none : Option Jvm.ClassFile.FieldType)) ∈ am_big := am_t7 (List.mem_of_getElem? (i := 141) rfl) rfl
theorem w7_142 : (Jvm.Cond.methodLink "FanNetModel" (431 : Nat) ({ cls := "FanNetModel", name := "comesToFan", desc := "(II)I" } : Jvm.MethodName)) ∈ am_big := am_t7 (List.mem_of_getElem? (i := 142) rfl) rfl
theorem w7_144 : (Jvm.Cond.instanceMethod ({ cls := "FanNetModel", name := "comesToFan", desc := "(II)I" } : Jvm.MethodName)) ∈ am_big := am_t7 (List.mem_of_getElem? (i := 144) rfl) rfl
theorem w0_105 : Cond.selects "FanNetModel" (⟨"FanNetModel", "comesToFan", "(II)I"⟩ : MethodName) ⟨"FanNetModel", "comesToFan", "(II)I"⟩ ∈ am_big := am_t0 (List.mem_of_getElem? (i := 105) rfl) rfl
theorem w7_145 : (Jvm.Cond.code ({ cls := "FanNetModel", name := "comesToFan", desc := "(II)I" } : Jvm.MethodName) prog_12_method_81_code (5 : Nat) (Option.some Jvm.ClassFile.FieldType.int)) ∈ am_big := am_t7 (List.mem_of_getElem? (i := 145) rfl) rfl
theorem w7_154 : (Jvm.Cond.methodLink "FanNetModel" (434 : Nat) ({ cls := "FanNetModel", name := "comesToBracket", desc := "(II)I" } : Jvm.MethodName)) ∈ am_big := am_t7 (List.mem_of_getElem? (i := 154) rfl) rfl
theorem w7_156 : (Jvm.Cond.instanceMethod ({ cls := "FanNetModel", name := "comesToBracket", desc := "(II)I" } : Jvm.MethodName)) ∈ am_big := am_t7 (List.mem_of_getElem? (i := 156) rfl) rfl
theorem w0_108 : Cond.selects "FanNetModel" (⟨"FanNetModel", "comesToBracket", "(II)I"⟩ : MethodName) ⟨"FanNetModel", "comesToBracket", "(II)I"⟩ ∈ am_big := am_t0 (List.mem_of_getElem? (i := 108) rfl) rfl
theorem w7_157 : (Jvm.Cond.code ({ cls := "FanNetModel", name := "comesToBracket", desc := "(II)I" } : Jvm.MethodName) prog_12_method_82_code (5 : Nat) (Option.some Jvm.ClassFile.FieldType.int)) ∈ am_big := am_t7 (List.mem_of_getElem? (i := 157) rfl) rfl
theorem w7_166 : (Jvm.Cond.methodLink "FanNetModel" (437 : Nat) ({ cls := "FanNetModel", name := "comesToCurl", desc := "(II)I" } : Jvm.MethodName)) ∈ am_big := am_t7 (List.mem_of_getElem? (i := 166) rfl) rfl
theorem w7_168 : (Jvm.Cond.instanceMethod ({ cls := "FanNetModel", name := "comesToCurl", desc := "(II)I" } : Jvm.MethodName)) ∈ am_big := am_t7 (List.mem_of_getElem? (i := 168) rfl) rfl
theorem w0_111 : Cond.selects "FanNetModel" (⟨"FanNetModel", "comesToCurl", "(II)I"⟩ : MethodName) ⟨"FanNetModel", "comesToCurl", "(II)I"⟩ ∈ am_big := am_t0 (List.mem_of_getElem? (i := 111) rfl) rfl
theorem w7_169 : (Jvm.Cond.code ({ cls := "FanNetModel", name := "comesToCurl", desc := "(II)I" } : Jvm.MethodName) prog_12_method_83_code (4 : Nat) (Option.some Jvm.ClassFile.FieldType.int)) ∈ am_big := am_t7 (List.mem_of_getElem? (i := 169) rfl) rfl
theorem w7_118 : (Jvm.Cond.methodLink "FanNetModel" (440 : Nat) ({ cls := "FanNetModel", name := "goesInto", desc := "(I)V" } : Jvm.MethodName)) ∈ am_big := am_t7 (List.mem_of_getElem? (i := 118) rfl) rfl
theorem w7_120 : (Jvm.Cond.instanceMethod ({ cls := "FanNetModel", name := "goesInto", desc := "(I)V" } : Jvm.MethodName)) ∈ am_big := am_t7 (List.mem_of_getElem? (i := 120) rfl) rfl
theorem w0_99 : Cond.selects "FanNetModel" (⟨"FanNetModel", "goesInto", "(I)V"⟩ : MethodName) ⟨"FanNetModel", "goesInto", "(I)V"⟩ ∈ am_big := am_t0 (List.mem_of_getElem? (i := 99) rfl) rfl
theorem w7_121 : (Jvm.Cond.code ({ cls := "FanNetModel", name := "goesInto", desc := "(I)V" } : Jvm.MethodName) prog_12_method_74_code (5 : Nat) (Option.none : Option Jvm.ClassFile.FieldType)) ∈ am_big := am_t7 (List.mem_of_getElem? (i := 121) rfl) rfl
theorem w7_126 : (Jvm.Cond.methodLink "FanNetModel" (443 : Nat) ({ cls := "FanNetModel", name := "betweenTo", desc := "(I)I" } : Jvm.MethodName)) ∈ am_big := am_t7 (List.mem_of_getElem? (i := 126) rfl) rfl
theorem w7_128 : (Jvm.Cond.instanceMethod ({ cls := "FanNetModel", name := "betweenTo", desc := "(I)I" } : Jvm.MethodName)) ∈ am_big := am_t7 (List.mem_of_getElem? (i := 128) rfl) rfl
theorem w0_101 : Cond.selects "FanNetModel" (⟨"FanNetModel", "betweenTo", "(I)I"⟩ : MethodName) ⟨"FanNetModel", "betweenTo", "(I)I"⟩ ∈ am_big := am_t0 (List.mem_of_getElem? (i := 101) rfl) rfl
theorem w7_129 : (Jvm.Cond.code ({ cls := "FanNetModel", name := "betweenTo", desc := "(I)I" } : Jvm.MethodName) prog_12_method_75_code (3 : Nat) (Option.some Jvm.ClassFile.FieldType.int)) ∈ am_big := am_t7 (List.mem_of_getElem? (i := 129) rfl) rfl
theorem w7_134 : (Jvm.Cond.methodLink "FanNetModel" (446 : Nat) ({ cls := "FanNetModel", name := "takesWaiting", desc := "()V" } : Jvm.MethodName)) ∈ am_big := am_t7 (List.mem_of_getElem? (i := 134) rfl) rfl
theorem w7_136 : (Jvm.Cond.instanceMethod ({ cls := "FanNetModel", name := "takesWaiting", desc := "()V" } : Jvm.MethodName)) ∈ am_big := am_t7 (List.mem_of_getElem? (i := 136) rfl) rfl
theorem w0_103 : Cond.selects "FanNetModel" (⟨"FanNetModel", "takesWaiting", "()V"⟩ : MethodName) ⟨"FanNetModel", "takesWaiting", "()V"⟩ ∈ am_big := am_t0 (List.mem_of_getElem? (i := 103) rfl) rfl
theorem w7_137 : (Jvm.Cond.code ({ cls := "FanNetModel", name := "takesWaiting", desc := "()V" } : Jvm.MethodName) prog_12_method_73_code (2 : Nat) (Option.none : Option Jvm.ClassFile.FieldType)) ∈ am_big := am_t7 (List.mem_of_getElem? (i := 137) rfl) rfl
theorem w7_146 : (Jvm.Cond.methodLink "FanNetModel" (449 : Nat) ({ cls := "FanNetModel", name := "thing", desc := "(III)I" } : Jvm.MethodName)) ∈ am_big := am_t7 (List.mem_of_getElem? (i := 146) rfl) rfl
theorem w7_148 : (Jvm.Cond.instanceMethod ({ cls := "FanNetModel", name := "thing", desc := "(III)I" } : Jvm.MethodName)) ∈ am_big := am_t7 (List.mem_of_getElem? (i := 148) rfl) rfl
theorem w0_106 : Cond.selects "FanNetModel" (⟨"FanNetModel", "thing", "(III)I"⟩ : MethodName) ⟨"FanNetModel", "thing", "(III)I"⟩ ∈ am_big := am_t0 (List.mem_of_getElem? (i := 106) rfl) rfl
theorem w7_149 : (Jvm.Cond.code ({ cls := "FanNetModel", name := "thing", desc := "(III)I" } : Jvm.MethodName) prog_12_method_67_code (6 : Nat) (Option.some Jvm.ClassFile.FieldType.int)) ∈ am_big := am_t7 (List.mem_of_getElem? (i := 149) rfl) rfl
theorem w7_150 : (Jvm.Cond.methodLink "FanNetModel" (452 : Nat) ({ cls := "FanNetModel", name := "setStack", desc := "(II)V" } : Jvm.MethodName)) ∈ am_big := am_t7 (List.mem_of_getElem? (i := 150) rfl) rfl
theorem w7_152 : (Jvm.Cond.instanceMethod ({ cls := "FanNetModel", name := "setStack", desc := "(II)V" } : Jvm.MethodName)) ∈ am_big := am_t7 (List.mem_of_getElem? (i := 152) rfl) rfl
theorem w0_107 : Cond.selects "FanNetModel" (⟨"FanNetModel", "setStack", "(II)V"⟩ : MethodName) ⟨"FanNetModel", "setStack", "(II)V"⟩ ∈ am_big := am_t0 (List.mem_of_getElem? (i := 107) rfl) rfl
theorem w7_153 : (Jvm.Cond.code ({ cls := "FanNetModel", name := "setStack", desc := "(II)V" } : Jvm.MethodName) prog_12_method_69_code (3 : Nat) (Option.none : Option Jvm.ClassFile.FieldType)) ∈ am_big := am_t7 (List.mem_of_getElem? (i := 153) rfl) rfl
theorem w7_158 : (Jvm.Cond.methodLink "FanNetModel" (455 : Nat) ({ cls := "FanNetModel", name := "goesAt", desc := "(I)V" } : Jvm.MethodName)) ∈ am_big := am_t7 (List.mem_of_getElem? (i := 158) rfl) rfl
theorem w7_160 : (Jvm.Cond.instanceMethod ({ cls := "FanNetModel", name := "goesAt", desc := "(I)V" } : Jvm.MethodName)) ∈ am_big := am_t7 (List.mem_of_getElem? (i := 160) rfl) rfl
theorem w0_109 : Cond.selects "FanNetModel" (⟨"FanNetModel", "goesAt", "(I)V"⟩ : MethodName) ⟨"FanNetModel", "goesAt", "(I)V"⟩ ∈ am_big := am_t0 (List.mem_of_getElem? (i := 109) rfl) rfl
theorem w7_161 : (Jvm.Cond.code ({ cls := "FanNetModel", name := "goesAt", desc := "(I)V" } : Jvm.MethodName) prog_12_method_71_code (3 : Nat) (Option.none : Option Jvm.ClassFile.FieldType)) ∈ am_big := am_t7 (List.mem_of_getElem? (i := 161) rfl) rfl
theorem w7_162 : (Jvm.Cond.methodLink "FanNetModel" (458 : Nat) ({ cls := "FanNetModel", name := "comesAt", desc := "(I)V" } : Jvm.MethodName)) ∈ am_big := am_t7 (List.mem_of_getElem? (i := 162) rfl) rfl
theorem w7_164 : (Jvm.Cond.instanceMethod ({ cls := "FanNetModel", name := "comesAt", desc := "(I)V" } : Jvm.MethodName)) ∈ am_big := am_t7 (List.mem_of_getElem? (i := 164) rfl) rfl
theorem w0_110 : Cond.selects "FanNetModel" (⟨"FanNetModel", "comesAt", "(I)V"⟩ : MethodName) ⟨"FanNetModel", "comesAt", "(I)V"⟩ ∈ am_big := am_t0 (List.mem_of_getElem? (i := 110) rfl) rfl
theorem w7_165 : (Jvm.Cond.code ({ cls := "FanNetModel", name := "comesAt", desc := "(I)V" } : Jvm.MethodName) prog_12_method_70_code (3 : Nat) (Option.none : Option Jvm.ClassFile.FieldType)) ∈ am_big := am_t7 (List.mem_of_getElem? (i := 165) rfl) rfl
theorem w6_28 : (Jvm.Cond.fieldLink "FanNetModel" (461 : Nat) "FanNetModel" "madeMany" "I") ∈ am_big := am_t6 (List.mem_of_getElem? (i := 28) rfl) rfl
theorem w8_28 : (Jvm.Cond.methodLink "FanNetModel" (464 : Nat) ({ cls := "FanNetModel", name := "makes", desc := "(I)V" } : Jvm.MethodName)) ∈ am_big := am_t8 (List.mem_of_getElem? (i := 28) rfl) rfl
theorem w8_30 : (Jvm.Cond.instanceMethod ({ cls := "FanNetModel", name := "makes", desc := "(I)V" } : Jvm.MethodName)) ∈ am_big := am_t8 (List.mem_of_getElem? (i := 30) rfl) rfl
theorem w0_132 : Cond.selects "FanNetModel" (⟨"FanNetModel", "makes", "(I)V"⟩ : MethodName) ⟨"FanNetModel", "makes", "(I)V"⟩ ∈ am_big := am_t0 (List.mem_of_getElem? (i := 132) rfl) rfl
theorem w8_31 : (Jvm.Cond.code ({ cls := "FanNetModel", name := "makes", desc := "(I)V" } : Jvm.MethodName) prog_12_method_84_code (2 : Nat) (Option.none : Option Jvm.ClassFile.FieldType)) ∈ am_big := am_t8 (List.mem_of_getElem? (i := 31) rfl) rfl
theorem w8_24 : (Jvm.Cond.methodLink "FanNetModel" (467 : Nat) ({ cls := "FanNetModel", name := "behind", desc := "(II)I" } : Jvm.MethodName)) ∈ am_big := am_t8 (List.mem_of_getElem? (i := 24) rfl) rfl
theorem w8_26 : (Jvm.Cond.instanceMethod ({ cls := "FanNetModel", name := "behind", desc := "(II)I" } : Jvm.MethodName)) ∈ am_big := am_t8 (List.mem_of_getElem? (i := 26) rfl) rfl
theorem w0_131 : Cond.selects "FanNetModel" (⟨"FanNetModel", "behind", "(II)I"⟩ : MethodName) ⟨"FanNetModel", "behind", "(II)I"⟩ ∈ am_big := am_t0 (List.mem_of_getElem? (i := 131) rfl) rfl
theorem w8_27 : (Jvm.Cond.code ({ cls := "FanNetModel", name := "behind", desc := "(II)I" } : Jvm.MethodName) prog_12_method_5_code (6 : Nat) (Option.some Jvm.ClassFile.FieldType.int)) ∈ am_big := am_t8 (List.mem_of_getElem? (i := 27) rfl) rfl
theorem w8_32 : (Jvm.Cond.methodLink "FanNetModel" (470 : Nat) ({ cls := "FanNetModel", name := "makesArgument", desc := "(IIII)V" } : Jvm.MethodName)) ∈ am_big := am_t8 (List.mem_of_getElem? (i := 32) rfl) rfl
theorem w8_34 : (Jvm.Cond.instanceMethod ({ cls := "FanNetModel", name := "makesArgument", desc := "(IIII)V" } : Jvm.MethodName)) ∈ am_big := am_t8 (List.mem_of_getElem? (i := 34) rfl) rfl
theorem w0_133 : Cond.selects "FanNetModel" (⟨"FanNetModel", "makesArgument", "(IIII)V"⟩ : MethodName) ⟨"FanNetModel", "makesArgument", "(IIII)V"⟩ ∈ am_big := am_t0 (List.mem_of_getElem? (i := 133) rfl) rfl
theorem w8_35 : (Jvm.Cond.code ({ cls := "FanNetModel", name := "makesArgument", desc := "(IIII)V" } : Jvm.MethodName) prog_12_method_85_code (9 : Nat) (Option.none : Option Jvm.ClassFile.FieldType)) ∈ am_big := am_t8 (List.mem_of_getElem? (i := 35) rfl) rfl
theorem w6_31 : (Jvm.Cond.fieldLink "FanNetModel" (474 : Nat) "FanNetModel" "rounds" "I") ∈ am_big := am_t6 (List.mem_of_getElem? (i := 31) rfl) rfl
theorem w6_32 : (Jvm.Cond.fieldLink "FanNetModel" (477 : Nat) "FanNetModel" "isPlain" "Z") ∈ am_big := am_t6 (List.mem_of_getElem? (i := 32) rfl) rfl
theorem w8_16 : (Jvm.Cond.methodLink "FanNetModel" (480 : Nat) ({ cls := "FanNetModel", name := "firstRedex", desc := "(II)I" } : Jvm.MethodName)) ∈ am_big := am_t8 (List.mem_of_getElem? (i := 16) rfl) rfl
theorem w8_18 : (Jvm.Cond.instanceMethod ({ cls := "FanNetModel", name := "firstRedex", desc := "(II)I" } : Jvm.MethodName)) ∈ am_big := am_t8 (List.mem_of_getElem? (i := 18) rfl) rfl
theorem w0_129 : Cond.selects "FanNetModel" (⟨"FanNetModel", "firstRedex", "(II)I"⟩ : MethodName) ⟨"FanNetModel", "firstRedex", "(II)I"⟩ ∈ am_big := am_t0 (List.mem_of_getElem? (i := 129) rfl) rfl
theorem w8_19 : (Jvm.Cond.code ({ cls := "FanNetModel", name := "firstRedex", desc := "(II)I" } : Jvm.MethodName) prog_12_method_86_code (4 : Nat) (Option.some Jvm.ClassFile.FieldType.int)) ∈ am_big := am_t8 (List.mem_of_getElem? (i := 19) rfl) rfl
theorem w8_20 : (Jvm.Cond.methodLink "FanNetModel" (483 : Nat) ({ cls := "FanNetModel", name := "worksOff", desc := "(II)Z" } : Jvm.MethodName)) ∈ am_big := am_t8 (List.mem_of_getElem? (i := 20) rfl) rfl
theorem w8_22 : (Jvm.Cond.instanceMethod ({ cls := "FanNetModel", name := "worksOff", desc := "(II)Z" } : Jvm.MethodName)) ∈ am_big := am_t8 (List.mem_of_getElem? (i := 22) rfl) rfl
theorem w0_130 : Cond.selects "FanNetModel" (⟨"FanNetModel", "worksOff", "(II)Z"⟩ : MethodName) ⟨"FanNetModel", "worksOff", "(II)Z"⟩ ∈ am_big := am_t0 (List.mem_of_getElem? (i := 130) rfl) rfl
theorem w8_23 : (Jvm.Cond.code ({ cls := "FanNetModel", name := "worksOff", desc := "(II)Z" } : Jvm.MethodName) prog_12_method_87_code (10 : Nat) (Option.some Jvm.ClassFile.FieldType.boolean)) ∈ am_big := am_t8 (List.mem_of_getElem? (i := 23) rfl) rfl
theorem w8_12 : (Jvm.Cond.methodLink "FanNetModel" (487 : Nat) ({ cls := "FanNetModel", name := "goesPlain", desc := "(I)Z" } : Jvm.MethodName)) ∈ am_big := am_t8 (List.mem_of_getElem? (i := 12) rfl) rfl
theorem w8_14 : (Jvm.Cond.instanceMethod ({ cls := "FanNetModel", name := "goesPlain", desc := "(I)Z" } : Jvm.MethodName)) ∈ am_big := am_t8 (List.mem_of_getElem? (i := 14) rfl) rfl
theorem w0_128 : Cond.selects "FanNetModel" (⟨"FanNetModel", "goesPlain", "(I)Z"⟩ : MethodName) ⟨"FanNetModel", "goesPlain", "(I)Z"⟩ ∈ am_big := am_t0 (List.mem_of_getElem? (i := 128) rfl) rfl
theorem w8_15 : (Jvm.Cond.code ({ cls := "FanNetModel", name := "goesPlain", desc := "(I)Z" } : Jvm.MethodName) prog_12_method_88_code (3 : Nat) (Option.some Jvm.ClassFile.FieldType.boolean)) ∈ am_big := am_t8 (List.mem_of_getElem? (i := 15) rfl) rfl
theorem w7_236 : (Jvm.Cond.methodLink "FanNetModel" (490 : Nat) ({ cls := "FanNetModel", name := "activeMany", desc := "()I" } : Jvm.MethodName)) ∈ am_big := am_t7 (List.mem_of_getElem? (i := 236) rfl) rfl
theorem w7_238 : (Jvm.Cond.instanceMethod ({ cls := "FanNetModel", name := "activeMany", desc := "()I" } : Jvm.MethodName)) ∈ am_big := am_t7 (List.mem_of_getElem? (i := 238) rfl) rfl
theorem w0_124 : Cond.selects "FanNetModel" (⟨"FanNetModel", "activeMany", "()I"⟩ : MethodName) ⟨"FanNetModel", "activeMany", "()I"⟩ ∈ am_big := am_t0 (List.mem_of_getElem? (i := 124) rfl) rfl
theorem w7_239 : (Jvm.Cond.code ({ cls := "FanNetModel", name := "activeMany", desc := "()I" } : Jvm.MethodName) prog_12_method_50_code (3 : Nat) (Option.some Jvm.ClassFile.FieldType.int)) ∈ am_big := am_t7 (List.mem_of_getElem? (i := 239) rfl) rfl
theorem w8_0 : (Jvm.Cond.methodLink "FanNetModel" (494 : Nat) ({ cls := "FanNetModel", name := "greatestLevel", desc := "()I" } : Jvm.MethodName)) ∈ am_big := am_t8 (List.mem_of_getElem? (i := 0) rfl) rfl
theorem w8_2 : (Jvm.Cond.instanceMethod ({ cls := "FanNetModel", name := "greatestLevel", desc := "()I" } : Jvm.MethodName)) ∈ am_big := am_t8 (List.mem_of_getElem? (i := 2) rfl) rfl
theorem w0_125 : Cond.selects "FanNetModel" (⟨"FanNetModel", "greatestLevel", "()I"⟩ : MethodName) ⟨"FanNetModel", "greatestLevel", "()I"⟩ ∈ am_big := am_t0 (List.mem_of_getElem? (i := 125) rfl) rfl
theorem w8_3 : (Jvm.Cond.code ({ cls := "FanNetModel", name := "greatestLevel", desc := "()I" } : Jvm.MethodName) prog_12_method_90_code (3 : Nat) (Option.some Jvm.ClassFile.FieldType.int)) ∈ am_big := am_t8 (List.mem_of_getElem? (i := 3) rfl) rfl
theorem w8_4 : (Jvm.Cond.methodLink "FanNetModel" (497 : Nat) ({ cls := "FanNetModel", name := "readCount", desc := "(I)I" } : Jvm.MethodName)) ∈ am_big := am_t8 (List.mem_of_getElem? (i := 4) rfl) rfl
theorem w8_6 : (Jvm.Cond.instanceMethod ({ cls := "FanNetModel", name := "readCount", desc := "(I)I" } : Jvm.MethodName)) ∈ am_big := am_t8 (List.mem_of_getElem? (i := 6) rfl) rfl
theorem w0_126 : Cond.selects "FanNetModel" (⟨"FanNetModel", "readCount", "(I)I"⟩ : MethodName) ⟨"FanNetModel", "readCount", "(I)I"⟩ ∈ am_big := am_t0 (List.mem_of_getElem? (i := 126) rfl) rfl
theorem w8_7 : (Jvm.Cond.code ({ cls := "FanNetModel", name := "readCount", desc := "(I)I" } : Jvm.MethodName) prog_12_method_92_code (2 : Nat) (Option.some Jvm.ClassFile.FieldType.int)) ∈ am_big := am_t8 (List.mem_of_getElem? (i := 7) rfl) rfl
theorem w8_8 : (Jvm.Cond.methodLink "FanNetModel" (500 : Nat) ({ cls := "FanNetModel", name := "isTerm", desc := "(I)Z" } : Jvm.MethodName)) ∈ am_big := am_t8 (List.mem_of_getElem? (i := 8) rfl) rfl
theorem w8_10 : (Jvm.Cond.instanceMethod ({ cls := "FanNetModel", name := "isTerm", desc := "(I)Z" } : Jvm.MethodName)) ∈ am_big := am_t8 (List.mem_of_getElem? (i := 10) rfl) rfl
theorem w0_127 : Cond.selects "FanNetModel" (⟨"FanNetModel", "isTerm", "(I)Z"⟩ : MethodName) ⟨"FanNetModel", "isTerm", "(I)Z"⟩ ∈ am_big := am_t0 (List.mem_of_getElem? (i := 127) rfl) rfl
theorem w8_11 : (Jvm.Cond.code ({ cls := "FanNetModel", name := "isTerm", desc := "(I)Z" } : Jvm.MethodName) prog_12_method_89_code (2 : Nat) (Option.some Jvm.ClassFile.FieldType.boolean)) ∈ am_big := am_t8 (List.mem_of_getElem? (i := 11) rfl) rfl
theorem w8_36 : (Jvm.Cond.methodLink "FanNetModel" (503 : Nat) ({ cls := "FanNetModel", name := "ofKind", desc := "(I)I" } : Jvm.MethodName)) ∈ am_big := am_t8 (List.mem_of_getElem? (i := 36) rfl) rfl
theorem w8_38 : (Jvm.Cond.instanceMethod ({ cls := "FanNetModel", name := "ofKind", desc := "(I)I" } : Jvm.MethodName)) ∈ am_big := am_t8 (List.mem_of_getElem? (i := 38) rfl) rfl
theorem w0_134 : Cond.selects "FanNetModel" (⟨"FanNetModel", "ofKind", "(I)I"⟩ : MethodName) ⟨"FanNetModel", "ofKind", "(I)I"⟩ ∈ am_big := am_t0 (List.mem_of_getElem? (i := 134) rfl) rfl
theorem w8_39 : (Jvm.Cond.code ({ cls := "FanNetModel", name := "ofKind", desc := "(I)I" } : Jvm.MethodName) prog_12_method_91_code (4 : Nat) (Option.some Jvm.ClassFile.FieldType.int)) ∈ am_big := am_t8 (List.mem_of_getElem? (i := 39) rfl) rfl
theorem w8_56 : (Jvm.Cond.methodLink "FanNetModel" (506 : Nat) ({ cls := "FanNetModel", name := "isWhich", desc := "(I)Z" } : Jvm.MethodName)) ∈ am_big := am_t8 (List.mem_of_getElem? (i := 56) rfl) rfl
theorem w8_57 : (Jvm.Cond.static ({ cls := "FanNetModel", name := "isWhich", desc := "(I)Z" } : Jvm.MethodName)) ∈ am_big := am_t8 (List.mem_of_getElem? (i := 57) rfl) rfl
theorem w8_58 : (Jvm.Cond.code ({ cls := "FanNetModel", name := "isWhich", desc := "(I)Z" } : Jvm.MethodName) prog_12_method_97_code (1 : Nat) (Option.some Jvm.ClassFile.FieldType.boolean)) ∈ am_big := am_t8 (List.mem_of_getElem? (i := 58) rfl) rfl
theorem w8_59 : (Jvm.Cond.methodLink "FanNetModel" (509 : Nat) ({ cls := "FanNetModel", name := "baseOf", desc := "(I)I" } : Jvm.MethodName)) ∈ am_big := am_t8 (List.mem_of_getElem? (i := 59) rfl) rfl
theorem w8_60 : (Jvm.Cond.static ({ cls := "FanNetModel", name := "baseOf", desc := "(I)I" } : Jvm.MethodName)) ∈ am_big := am_t8 (List.mem_of_getElem? (i := 60) rfl) rfl
theorem w8_61 : (Jvm.Cond.code ({ cls := "FanNetModel", name := "baseOf", desc := "(I)I" } : Jvm.MethodName) prog_12_method_98_code (1 : Nat) (Option.some Jvm.ClassFile.FieldType.int)) ∈ am_big := am_t8 (List.mem_of_getElem? (i := 61) rfl) rfl
theorem w6_34 : (Jvm.Cond.fieldLink "FanNetModel" (512 : Nat) "FanNetModel" "saidMany" "I") ∈ am_big := am_t6 (List.mem_of_getElem? (i := 34) rfl) rfl
theorem w6_36 : (Jvm.Cond.fieldLink "FanNetModel" (515 : Nat) "FanNetModel" "toSayMany" "I") ∈ am_big := am_t6 (List.mem_of_getElem? (i := 36) rfl) rfl
theorem w8_70 : (Jvm.Cond.methodLink "FanNetModel" (518 : Nat) ({ cls := "FanNetModel", name := "saysLater", desc := "(I)V" } : Jvm.MethodName)) ∈ am_big := am_t8 (List.mem_of_getElem? (i := 70) rfl) rfl
theorem w8_72 : (Jvm.Cond.instanceMethod ({ cls := "FanNetModel", name := "saysLater", desc := "(I)V" } : Jvm.MethodName)) ∈ am_big := am_t8 (List.mem_of_getElem? (i := 72) rfl) rfl
theorem w0_136 : Cond.selects "FanNetModel" (⟨"FanNetModel", "saysLater", "(I)V"⟩ : MethodName) ⟨"FanNetModel", "saysLater", "(I)V"⟩ ∈ am_big := am_t0 (List.mem_of_getElem? (i := 136) rfl) rfl
theorem w8_73 : (Jvm.Cond.code ({ cls := "FanNetModel", name := "saysLater", desc := "(I)V" } : Jvm.MethodName) prog_12_method_102_code (2 : Nat) (Option.none : Option Jvm.ClassFile.FieldType)) ∈ am_big := am_t8 (List.mem_of_getElem? (i := 73) rfl) rfl
theorem w8_74 : (Jvm.Cond.methodLink "FanNetModel" (521 : Nat) ({ cls := "FanNetModel", name := "says", desc := "(I)V" } : Jvm.MethodName)) ∈ am_big := am_t8 (List.mem_of_getElem? (i := 74) rfl) rfl
theorem w8_76 : (Jvm.Cond.instanceMethod ({ cls := "FanNetModel", name := "says", desc := "(I)V" } : Jvm.MethodName)) ∈ am_big := am_t8 (List.mem_of_getElem? (i := 76) rfl) rfl
theorem w0_137 : Cond.selects "FanNetModel" (⟨"FanNetModel", "says", "(I)V"⟩ : MethodName) ⟨"FanNetModel", "says", "(I)V"⟩ ∈ am_big := am_t0 (List.mem_of_getElem? (i := 137) rfl) rfl
theorem w8_77 : (Jvm.Cond.code ({ cls := "FanNetModel", name := "says", desc := "(I)V" } : Jvm.MethodName) prog_12_method_100_code (2 : Nat) (Option.none : Option Jvm.ClassFile.FieldType)) ∈ am_big := am_t8 (List.mem_of_getElem? (i := 77) rfl) rfl
theorem w8_66 : (Jvm.Cond.methodLink "FanNetModel" (524 : Nat) ({ cls := "FanNetModel", name := "waitsPart", desc := "(II)V" } : Jvm.MethodName)) ∈ am_big := am_t8 (List.mem_of_getElem? (i := 66) rfl) rfl
theorem w8_68 : (Jvm.Cond.instanceMethod ({ cls := "FanNetModel", name := "waitsPart", desc := "(II)V" } : Jvm.MethodName)) ∈ am_big := am_t8 (List.mem_of_getElem? (i := 68) rfl) rfl
theorem w0_135 : Cond.selects "FanNetModel" (⟨"FanNetModel", "waitsPart", "(II)V"⟩ : MethodName) ⟨"FanNetModel", "waitsPart", "(II)V"⟩ ∈ am_big := am_t0 (List.mem_of_getElem? (i := 135) rfl) rfl
theorem w8_69 : (Jvm.Cond.code ({ cls := "FanNetModel", name := "waitsPart", desc := "(II)V" } : Jvm.MethodName) prog_12_method_103_code (3 : Nat) (Option.none : Option Jvm.ClassFile.FieldType)) ∈ am_big := am_t8 (List.mem_of_getElem? (i := 69) rfl) rfl
theorem w8_82 : (Jvm.Cond.methodLink "FanNetModel" (527 : Nat) ({ cls := "FanNetModel", name := "letterOf", desc := "(I)I" } : Jvm.MethodName)) ∈ am_big := am_t8 (List.mem_of_getElem? (i := 82) rfl) rfl
theorem w8_83 : (Jvm.Cond.static ({ cls := "FanNetModel", name := "letterOf", desc := "(I)I" } : Jvm.MethodName)) ∈ am_big := am_t8 (List.mem_of_getElem? (i := 83) rfl) rfl
theorem w8_84 : (Jvm.Cond.code ({ cls := "FanNetModel", name := "letterOf", desc := "(I)I" } : Jvm.MethodName) prog_12_method_101_code (1 : Nat) (Option.some Jvm.ClassFile.FieldType.int)) ∈ am_big := am_t8 (List.mem_of_getElem? (i := 84) rfl) rfl
theorem w8_78 : (Jvm.Cond.methodLink "FanNetModel" (530 : Nat) ({ cls := "FanNetModel", name := "saysPart", desc := "(IIII)I" } : Jvm.MethodName)) ∈ am_big := am_t8 (List.mem_of_getElem? (i := 78) rfl) rfl
theorem w8_80 : (Jvm.Cond.instanceMethod ({ cls := "FanNetModel", name := "saysPart", desc := "(IIII)I" } : Jvm.MethodName)) ∈ am_big := am_t8 (List.mem_of_getElem? (i := 80) rfl) rfl
theorem w0_138 : Cond.selects "FanNetModel" (⟨"FanNetModel", "saysPart", "(IIII)I"⟩ : MethodName) ⟨"FanNetModel", "saysPart", "(IIII)I"⟩ ∈ am_big := am_t0 (List.mem_of_getElem? (i := 138) rfl) rfl
theorem w8_81 : (Jvm.Cond.code ({ cls := "FanNetModel", name := "saysPart", desc := "(IIII)I" } : Jvm.MethodName) prog_12_method_104_code (6 : Nat) (Option.some Jvm.ClassFile.FieldType.int)) ∈ am_big := am_t8 (List.mem_of_getElem? (i := 81) rfl) rfl
theorem w2_218 : (Jvm.Cond.methodLink "FanNetLaw" (7 : Nat) ({ cls := "FanNet", name := "tell", desc := "(I)I" } : Jvm.MethodName)) ∈ am_big := am_t2 (List.mem_of_getElem? (i := 218) rfl) rfl
theorem w2_219 : (Jvm.Cond.instanceMethod ({ cls := "FanNet", name := "tell", desc := "(I)I" } : Jvm.MethodName)) ∈ am_big := am_t2 (List.mem_of_getElem? (i := 219) rfl) rfl
theorem w2_220 : (Jvm.Cond.selects "FanNet" ({ cls := "FanNet", name := "tell", desc := "(I)I" } : Jvm.MethodName) ({ cls := "FanNet", name := "tell", desc := "(I)I" } : Jvm.MethodName)) ∈ am_big := am_t2 (List.mem_of_getElem? (i := 220) rfl) rfl
theorem w2_221 : (Jvm.Cond.code ({ cls := "FanNet", name := "tell", desc := "(I)I" } : Jvm.MethodName) prog_1_method_3_code (3 : Nat) (Option.some Jvm.ClassFile.FieldType.int)) ∈ am_big := am_t2 (List.mem_of_getElem? (i := 221) rfl) rfl
theorem w3_197 : (Jvm.Cond.methodLink "FanNetLaw" (15 : Nat) ({ cls := "FanNet", name := "step", desc := "(I)I" } : Jvm.MethodName)) ∈ am_big := am_t3 (List.mem_of_getElem? (i := 197) rfl) rfl
theorem w3_198 : (Jvm.Cond.instanceMethod ({ cls := "FanNet", name := "step", desc := "(I)I" } : Jvm.MethodName)) ∈ am_big := am_t3 (List.mem_of_getElem? (i := 198) rfl) rfl
theorem w3_199 : (Jvm.Cond.selects "FanNet" ({ cls := "FanNet", name := "step", desc := "(I)I" } : Jvm.MethodName) ({ cls := "FanNet", name := "step", desc := "(I)I" } : Jvm.MethodName)) ∈ am_big := am_t3 (List.mem_of_getElem? (i := 199) rfl) rfl
theorem w3_200 : (Jvm.Cond.code ({ cls := "FanNet", name := "step", desc := "(I)I" } : Jvm.MethodName) prog_1_method_6_code (3 : Nat) (Option.some Jvm.ClassFile.FieldType.int)) ∈ am_big := am_t3 (List.mem_of_getElem? (i := 200) rfl) rfl
theorem w4_166 : (Jvm.Cond.methodLink "FanNetLaw" (18 : Nat) ({ cls := "FanNet", name := "run", desc := "(II)I" } : Jvm.MethodName)) ∈ am_big := am_t4 (List.mem_of_getElem? (i := 166) rfl) rfl
theorem w4_167 : (Jvm.Cond.instanceMethod ({ cls := "FanNet", name := "run", desc := "(II)I" } : Jvm.MethodName)) ∈ am_big := am_t4 (List.mem_of_getElem? (i := 167) rfl) rfl
theorem w4_168 : (Jvm.Cond.selects "FanNet" ({ cls := "FanNet", name := "run", desc := "(II)I" } : Jvm.MethodName) ({ cls := "FanNet", name := "run", desc := "(II)I" } : Jvm.MethodName)) ∈ am_big := am_t4 (List.mem_of_getElem? (i := 168) rfl) rfl
theorem w4_169 : (Jvm.Cond.code ({ cls := "FanNet", name := "run", desc := "(II)I" } : Jvm.MethodName) prog_1_method_7_code (5 : Nat) (Option.some Jvm.ClassFile.FieldType.int)) ∈ am_big := am_t4 (List.mem_of_getElem? (i := 169) rfl) rfl
theorem w4_175 : (Jvm.Cond.methodLink "FanNetLaw" (22 : Nat) ({ cls := "FanNet", name := "count", desc := "(I)I" } : Jvm.MethodName)) ∈ am_big := am_t4 (List.mem_of_getElem? (i := 175) rfl) rfl
theorem w4_176 : (Jvm.Cond.instanceMethod ({ cls := "FanNet", name := "count", desc := "(I)I" } : Jvm.MethodName)) ∈ am_big := am_t4 (List.mem_of_getElem? (i := 176) rfl) rfl
theorem w4_177 : (Jvm.Cond.selects "FanNet" ({ cls := "FanNet", name := "count", desc := "(I)I" } : Jvm.MethodName) ({ cls := "FanNet", name := "count", desc := "(I)I" } : Jvm.MethodName)) ∈ am_big := am_t4 (List.mem_of_getElem? (i := 177) rfl) rfl
theorem w4_178 : (Jvm.Cond.code ({ cls := "FanNet", name := "count", desc := "(I)I" } : Jvm.MethodName) prog_1_method_8_code (2 : Nat) (Option.some Jvm.ClassFile.FieldType.int)) ∈ am_big := am_t4 (List.mem_of_getElem? (i := 178) rfl) rfl
theorem w5_41 : (Jvm.Cond.methodLink "FanNetLaw" (27 : Nat) ({ cls := "FanNet", name := "node", desc := "(II)I" } : Jvm.MethodName)) ∈ am_big := am_t5 (List.mem_of_getElem? (i := 41) rfl) rfl
theorem w5_42 : (Jvm.Cond.instanceMethod ({ cls := "FanNet", name := "node", desc := "(II)I" } : Jvm.MethodName)) ∈ am_big := am_t5 (List.mem_of_getElem? (i := 42) rfl) rfl
theorem w5_43 : (Jvm.Cond.selects "FanNet" ({ cls := "FanNet", name := "node", desc := "(II)I" } : Jvm.MethodName) ({ cls := "FanNet", name := "node", desc := "(II)I" } : Jvm.MethodName)) ∈ am_big := am_t5 (List.mem_of_getElem? (i := 43) rfl) rfl
theorem w5_44 : (Jvm.Cond.code ({ cls := "FanNet", name := "node", desc := "(II)I" } : Jvm.MethodName) prog_1_method_9_code (4 : Nat) (Option.some Jvm.ClassFile.FieldType.int)) ∈ am_big := am_t5 (List.mem_of_getElem? (i := 44) rfl) rfl
theorem w5_57 : (Jvm.Cond.methodLink "FanNetLaw" (30 : Nat) ({ cls := "FanNet", name := "active", desc := "(II)I" } : Jvm.MethodName)) ∈ am_big := am_t5 (List.mem_of_getElem? (i := 57) rfl) rfl
theorem w5_58 : (Jvm.Cond.instanceMethod ({ cls := "FanNet", name := "active", desc := "(II)I" } : Jvm.MethodName)) ∈ am_big := am_t5 (List.mem_of_getElem? (i := 58) rfl) rfl
theorem w5_59 : (Jvm.Cond.selects "FanNet" ({ cls := "FanNet", name := "active", desc := "(II)I" } : Jvm.MethodName) ({ cls := "FanNet", name := "active", desc := "(II)I" } : Jvm.MethodName)) ∈ am_big := am_t5 (List.mem_of_getElem? (i := 59) rfl) rfl
theorem w5_60 : (Jvm.Cond.code ({ cls := "FanNet", name := "active", desc := "(II)I" } : Jvm.MethodName) prog_1_method_10_code (5 : Nat) (Option.some Jvm.ClassFile.FieldType.int)) ∈ am_big := am_t5 (List.mem_of_getElem? (i := 60) rfl) rfl
theorem w5_67 : (Jvm.Cond.methodLink "FanNetLaw" (33 : Nat) ({ cls := "FanNet", name := "wanted", desc := "(I)I" } : Jvm.MethodName)) ∈ am_big := am_t5 (List.mem_of_getElem? (i := 67) rfl) rfl
theorem w5_68 : (Jvm.Cond.instanceMethod ({ cls := "FanNet", name := "wanted", desc := "(I)I" } : Jvm.MethodName)) ∈ am_big := am_t5 (List.mem_of_getElem? (i := 68) rfl) rfl
theorem w5_69 : (Jvm.Cond.selects "FanNet" ({ cls := "FanNet", name := "wanted", desc := "(I)I" } : Jvm.MethodName) ({ cls := "FanNet", name := "wanted", desc := "(I)I" } : Jvm.MethodName)) ∈ am_big := am_t5 (List.mem_of_getElem? (i := 69) rfl) rfl
theorem w5_70 : (Jvm.Cond.code ({ cls := "FanNet", name := "wanted", desc := "(I)I" } : Jvm.MethodName) prog_1_method_11_code (3 : Nat) (Option.some Jvm.ClassFile.FieldType.int)) ∈ am_big := am_t5 (List.mem_of_getElem? (i := 70) rfl) rfl
theorem w5_75 : (Jvm.Cond.methodLink "FanNetLaw" (36 : Nat) ({ cls := "FanNet", name := "part", desc := "(II)I" } : Jvm.MethodName)) ∈ am_big := am_t5 (List.mem_of_getElem? (i := 75) rfl) rfl
theorem w5_76 : (Jvm.Cond.instanceMethod ({ cls := "FanNet", name := "part", desc := "(II)I" } : Jvm.MethodName)) ∈ am_big := am_t5 (List.mem_of_getElem? (i := 76) rfl) rfl
theorem w5_77 : (Jvm.Cond.selects "FanNet" ({ cls := "FanNet", name := "part", desc := "(II)I" } : Jvm.MethodName) ({ cls := "FanNet", name := "part", desc := "(II)I" } : Jvm.MethodName)) ∈ am_big := am_t5 (List.mem_of_getElem? (i := 77) rfl) rfl
theorem w5_78 : (Jvm.Cond.code ({ cls := "FanNet", name := "part", desc := "(II)I" } : Jvm.MethodName) prog_1_method_12_code (4 : Nat) (Option.some Jvm.ClassFile.FieldType.int)) ∈ am_big := am_t5 (List.mem_of_getElem? (i := 78) rfl) rfl
theorem w5_83 : (Jvm.Cond.methodLink "FanNetLaw" (39 : Nat) ({ cls := "FanNet", name := "say", desc := "(I)I" } : Jvm.MethodName)) ∈ am_big := am_t5 (List.mem_of_getElem? (i := 83) rfl) rfl
theorem w5_84 : (Jvm.Cond.instanceMethod ({ cls := "FanNet", name := "say", desc := "(I)I" } : Jvm.MethodName)) ∈ am_big := am_t5 (List.mem_of_getElem? (i := 84) rfl) rfl
theorem w5_85 : (Jvm.Cond.selects "FanNet" ({ cls := "FanNet", name := "say", desc := "(I)I" } : Jvm.MethodName) ({ cls := "FanNet", name := "say", desc := "(I)I" } : Jvm.MethodName)) ∈ am_big := am_t5 (List.mem_of_getElem? (i := 85) rfl) rfl
theorem w5_86 : (Jvm.Cond.code ({ cls := "FanNet", name := "say", desc := "(I)I" } : Jvm.MethodName) prog_1_method_13_code (3 : Nat) (Option.some Jvm.ClassFile.FieldType.int)) ∈ am_big := am_t5 (List.mem_of_getElem? (i := 86) rfl) rfl
theorem w5_115 : (Jvm.Cond.methodLink "FanNetLaw" (42 : Nat) ({ cls := "FanNet", name := "same", desc := "(II)Z" } : Jvm.MethodName)) ∈ am_big := am_t5 (List.mem_of_getElem? (i := 115) rfl) rfl
theorem w5_116 : (Jvm.Cond.instanceMethod ({ cls := "FanNet", name := "same", desc := "(II)Z" } : Jvm.MethodName)) ∈ am_big := am_t5 (List.mem_of_getElem? (i := 116) rfl) rfl
theorem w5_117 : (Jvm.Cond.selects "FanNet" ({ cls := "FanNet", name := "same", desc := "(II)Z" } : Jvm.MethodName) ({ cls := "FanNet", name := "same", desc := "(II)Z" } : Jvm.MethodName)) ∈ am_big := am_t5 (List.mem_of_getElem? (i := 117) rfl) rfl
theorem w5_118 : (Jvm.Cond.code ({ cls := "FanNet", name := "same", desc := "(II)Z" } : Jvm.MethodName) prog_1_method_15_code (5 : Nat) (Option.some Jvm.ClassFile.FieldType.boolean)) ∈ am_big := am_t5 (List.mem_of_getElem? (i := 118) rfl) rfl
theorem w5_127 : (Jvm.Cond.methodLink "FanNetLaw" (46 : Nat) ({ cls := "FanNet", name := "plain", desc := "(I)I" } : Jvm.MethodName)) ∈ am_big := am_t5 (List.mem_of_getElem? (i := 127) rfl) rfl
theorem w5_128 : (Jvm.Cond.instanceMethod ({ cls := "FanNet", name := "plain", desc := "(I)I" } : Jvm.MethodName)) ∈ am_big := am_t5 (List.mem_of_getElem? (i := 128) rfl) rfl
theorem w5_129 : (Jvm.Cond.selects "FanNet" ({ cls := "FanNet", name := "plain", desc := "(I)I" } : Jvm.MethodName) ({ cls := "FanNet", name := "plain", desc := "(I)I" } : Jvm.MethodName)) ∈ am_big := am_t5 (List.mem_of_getElem? (i := 129) rfl) rfl
theorem w5_130 : (Jvm.Cond.code ({ cls := "FanNet", name := "plain", desc := "(I)I" } : Jvm.MethodName) prog_1_method_16_code (2 : Nat) (Option.some Jvm.ClassFile.FieldType.int)) ∈ am_big := am_t5 (List.mem_of_getElem? (i := 130) rfl) rfl
theorem w5_139 : (Jvm.Cond.methodLink "FanNetLaw" (49 : Nat) ({ cls := "FanNet", name := "redexes", desc := "(I)I" } : Jvm.MethodName)) ∈ am_big := am_t5 (List.mem_of_getElem? (i := 139) rfl) rfl
theorem w5_140 : (Jvm.Cond.instanceMethod ({ cls := "FanNet", name := "redexes", desc := "(I)I" } : Jvm.MethodName)) ∈ am_big := am_t5 (List.mem_of_getElem? (i := 140) rfl) rfl
theorem w5_141 : (Jvm.Cond.selects "FanNet" ({ cls := "FanNet", name := "redexes", desc := "(I)I" } : Jvm.MethodName) ({ cls := "FanNet", name := "redexes", desc := "(I)I" } : Jvm.MethodName)) ∈ am_big := am_t5 (List.mem_of_getElem? (i := 141) rfl) rfl
theorem w5_142 : (Jvm.Cond.code ({ cls := "FanNet", name := "redexes", desc := "(I)I" } : Jvm.MethodName) prog_1_method_17_code (5 : Nat) (Option.some Jvm.ClassFile.FieldType.int)) ∈ am_big := am_t5 (List.mem_of_getElem? (i := 142) rfl) rfl
theorem w5_147 : (Jvm.Cond.methodLink "FanNetLaw" (52 : Nat) ({ cls := "FanNet", name := "trial", desc := "(II)I" } : Jvm.MethodName)) ∈ am_big := am_t5 (List.mem_of_getElem? (i := 147) rfl) rfl
theorem w5_148 : (Jvm.Cond.instanceMethod ({ cls := "FanNet", name := "trial", desc := "(II)I" } : Jvm.MethodName)) ∈ am_big := am_t5 (List.mem_of_getElem? (i := 148) rfl) rfl
theorem w5_149 : (Jvm.Cond.selects "FanNet" ({ cls := "FanNet", name := "trial", desc := "(II)I" } : Jvm.MethodName) ({ cls := "FanNet", name := "trial", desc := "(II)I" } : Jvm.MethodName)) ∈ am_big := am_t5 (List.mem_of_getElem? (i := 149) rfl) rfl
theorem w5_150 : (Jvm.Cond.code ({ cls := "FanNet", name := "trial", desc := "(II)I" } : Jvm.MethodName) prog_1_method_18_code (9 : Nat) (Option.some Jvm.ClassFile.FieldType.int)) ∈ am_big := am_t5 (List.mem_of_getElem? (i := 150) rfl) rfl
theorem w1_20 : (Jvm.Cond.classLink "FanNetLaw" (8 : Nat) "FanNet") ∈ am_big := am_t1 (List.mem_of_getElem? (i := 20) rfl) rfl
theorem w1_21 : (Jvm.Cond.instantiable "FanNet" (18 : Nat)) ∈ am_big := am_t1 (List.mem_of_getElem? (i := 21) rfl) rfl
theorem w1_24 : (Jvm.Cond.code ({ cls := "FanNet", name := "<init>", desc := "()V" } : Jvm.MethodName) prog_1_method_1_code (1 : Nat) (Option.none : Option Jvm.ClassFile.FieldType)) ∈ am_big := am_t1 (List.mem_of_getElem? (i := 24) rfl) rfl
theorem w1_22 : (Jvm.Cond.methodLink "FanNetLaw" (55 : Nat) ({ cls := "FanNet", name := "<init>", desc := "()V" } : Jvm.MethodName)) ∈ am_big := am_t1 (List.mem_of_getElem? (i := 22) rfl) rfl
theorem w1_23 : (Jvm.Cond.instanceMethod ({ cls := "FanNet", name := "<init>", desc := "()V" } : Jvm.MethodName)) ∈ am_big := am_t1 (List.mem_of_getElem? (i := 23) rfl) rfl
theorem w5_157 : (Jvm.Cond.classLink "FanNetLaw" (56 : Nat) "FanNetModel") ∈ am_big := am_t5 (List.mem_of_getElem? (i := 157) rfl) rfl
theorem w5_158 : (Jvm.Cond.instantiable "FanNetModel" (76 : Nat)) ∈ am_big := am_t5 (List.mem_of_getElem? (i := 158) rfl) rfl
theorem w5_161 : (Jvm.Cond.code ({ cls := "FanNetModel", name := "<init>", desc := "()V" } : Jvm.MethodName) prog_12_method_1_code (1 : Nat) (Option.none : Option Jvm.ClassFile.FieldType)) ∈ am_big := am_t5 (List.mem_of_getElem? (i := 161) rfl) rfl
theorem w5_159 : (Jvm.Cond.methodLink "FanNetLaw" (58 : Nat) ({ cls := "FanNetModel", name := "<init>", desc := "()V" } : Jvm.MethodName)) ∈ am_big := am_t5 (List.mem_of_getElem? (i := 159) rfl) rfl
theorem w5_160 : (Jvm.Cond.instanceMethod ({ cls := "FanNetModel", name := "<init>", desc := "()V" } : Jvm.MethodName)) ∈ am_big := am_t5 (List.mem_of_getElem? (i := 160) rfl) rfl
theorem w2_187 : (Jvm.Cond.methodLink "FanNetLaw" (59 : Nat) ({ cls := "FanNet", name := "feed", desc := "(IIIII)I" } : Jvm.MethodName)) ∈ am_big := am_t2 (List.mem_of_getElem? (i := 187) rfl) rfl
theorem w2_188 : (Jvm.Cond.instanceMethod ({ cls := "FanNet", name := "feed", desc := "(IIIII)I" } : Jvm.MethodName)) ∈ am_big := am_t2 (List.mem_of_getElem? (i := 188) rfl) rfl
theorem w2_189 : (Jvm.Cond.selects "FanNet" ({ cls := "FanNet", name := "feed", desc := "(IIIII)I" } : Jvm.MethodName) ({ cls := "FanNet", name := "feed", desc := "(IIIII)I" } : Jvm.MethodName)) ∈ am_big := am_t2 (List.mem_of_getElem? (i := 189) rfl) rfl
theorem w2_190 : (Jvm.Cond.code ({ cls := "FanNet", name := "feed", desc := "(IIIII)I" } : Jvm.MethodName) prog_1_method_2_code (6 : Nat) (Option.some Jvm.ClassFile.FieldType.int)) ∈ am_big := am_t2 (List.mem_of_getElem? (i := 190) rfl) rfl
theorem w6_195 : (Jvm.Cond.methodLink "FanNetLaw" (63 : Nat) ({ cls := "FanNetModel", name := "feed", desc := "(IIIII)I" } : Jvm.MethodName)) ∈ am_big := am_t6 (List.mem_of_getElem? (i := 195) rfl) rfl
theorem w6_196 : (Jvm.Cond.instanceMethod ({ cls := "FanNetModel", name := "feed", desc := "(IIIII)I" } : Jvm.MethodName)) ∈ am_big := am_t6 (List.mem_of_getElem? (i := 196) rfl) rfl
theorem w6_197 : (Jvm.Cond.selects "FanNetModel" ({ cls := "FanNetModel", name := "feed", desc := "(IIIII)I" } : Jvm.MethodName) ({ cls := "FanNetModel", name := "feed", desc := "(IIIII)I" } : Jvm.MethodName)) ∈ am_big := am_t6 (List.mem_of_getElem? (i := 197) rfl) rfl
theorem w6_198 : (Jvm.Cond.code ({ cls := "FanNetModel", name := "feed", desc := "(IIIII)I" } : Jvm.MethodName) prog_12_method_7_code (6 : Nat) (Option.some Jvm.ClassFile.FieldType.int)) ∈ am_big := am_t6 (List.mem_of_getElem? (i := 198) rfl) rfl
theorem w2_214 : (Jvm.Cond.methodLink "FanNetLaw" (64 : Nat) ({ cls := "FanNetLaw", name := "tell", desc := "(LFanNet;I[J)I" } : Jvm.MethodName)) ∈ am_big := am_t2 (List.mem_of_getElem? (i := 214) rfl) rfl
theorem w2_215 : (Jvm.Cond.static ({ cls := "FanNetLaw", name := "tell", desc := "(LFanNet;I[J)I" } : Jvm.MethodName)) ∈ am_big := am_t2 (List.mem_of_getElem? (i := 215) rfl) rfl
theorem w1_0 : (Jvm.Cond.initialized "FanNetLaw") ∈ am_big := am_t1 (List.mem_of_getElem? (i := 0) rfl) rfl
theorem w2_216 : (Jvm.Cond.codeWith ({ cls := "FanNetLaw", name := "tell", desc := "(LFanNet;I[J)I" } : Jvm.MethodName) method_3_code (4 : Nat) (Option.some Jvm.ClassFile.FieldType.int) [((0 : Nat), (9 : Nat), (12 : Nat), (13 : Nat))]) ∈ am_big := am_t2 (List.mem_of_getElem? (i := 216) rfl) rfl
theorem w6_203 : (Jvm.Cond.methodLink "FanNetLaw" (69 : Nat) ({ cls := "FanNetModel", name := "tell", desc := "(I)I" } : Jvm.MethodName)) ∈ am_big := am_t6 (List.mem_of_getElem? (i := 203) rfl) rfl
theorem w6_204 : (Jvm.Cond.instanceMethod ({ cls := "FanNetModel", name := "tell", desc := "(I)I" } : Jvm.MethodName)) ∈ am_big := am_t6 (List.mem_of_getElem? (i := 204) rfl) rfl
theorem w6_205 : (Jvm.Cond.selects "FanNetModel" ({ cls := "FanNetModel", name := "tell", desc := "(I)I" } : Jvm.MethodName) ({ cls := "FanNetModel", name := "tell", desc := "(I)I" } : Jvm.MethodName)) ∈ am_big := am_t6 (List.mem_of_getElem? (i := 205) rfl) rfl
theorem w6_206 : (Jvm.Cond.code ({ cls := "FanNetModel", name := "tell", desc := "(I)I" } : Jvm.MethodName) prog_12_method_30_code (3 : Nat) (Option.some Jvm.ClassFile.FieldType.int)) ∈ am_big := am_t6 (List.mem_of_getElem? (i := 206) rfl) rfl
theorem w2_196 : (Jvm.Cond.methodLink "FanNetLaw" (70 : Nat) ({ cls := "FanNet", name := "fault", desc := "()I" } : Jvm.MethodName)) ∈ am_big := am_t2 (List.mem_of_getElem? (i := 196) rfl) rfl
theorem w2_197 : (Jvm.Cond.instanceMethod ({ cls := "FanNet", name := "fault", desc := "()I" } : Jvm.MethodName)) ∈ am_big := am_t2 (List.mem_of_getElem? (i := 197) rfl) rfl
theorem w2_198 : (Jvm.Cond.selects "FanNet" ({ cls := "FanNet", name := "fault", desc := "()I" } : Jvm.MethodName) ({ cls := "FanNet", name := "fault", desc := "()I" } : Jvm.MethodName)) ∈ am_big := am_t2 (List.mem_of_getElem? (i := 198) rfl) rfl
theorem w2_199 : (Jvm.Cond.code ({ cls := "FanNet", name := "fault", desc := "()I" } : Jvm.MethodName) prog_1_method_4_code (1 : Nat) (Option.some Jvm.ClassFile.FieldType.int)) ∈ am_big := am_t2 (List.mem_of_getElem? (i := 199) rfl) rfl
theorem w7_79 : (Jvm.Cond.methodLink "FanNetLaw" (74 : Nat) ({ cls := "FanNetModel", name := "fault", desc := "()I" } : Jvm.MethodName)) ∈ am_big := am_t7 (List.mem_of_getElem? (i := 79) rfl) rfl
theorem w7_80 : (Jvm.Cond.instanceMethod ({ cls := "FanNetModel", name := "fault", desc := "()I" } : Jvm.MethodName)) ∈ am_big := am_t7 (List.mem_of_getElem? (i := 80) rfl) rfl
theorem w7_81 : (Jvm.Cond.selects "FanNetModel" ({ cls := "FanNetModel", name := "fault", desc := "()I" } : Jvm.MethodName) ({ cls := "FanNetModel", name := "fault", desc := "()I" } : Jvm.MethodName)) ∈ am_big := am_t7 (List.mem_of_getElem? (i := 81) rfl) rfl
theorem w7_82 : (Jvm.Cond.code ({ cls := "FanNetModel", name := "fault", desc := "()I" } : Jvm.MethodName) prog_12_method_31_code (1 : Nat) (Option.some Jvm.ClassFile.FieldType.int)) ∈ am_big := am_t7 (List.mem_of_getElem? (i := 82) rfl) rfl
theorem w2_200 : (Jvm.Cond.methodLink "FanNetLaw" (75 : Nat) ({ cls := "FanNet", name := "again", desc := "()I" } : Jvm.MethodName)) ∈ am_big := am_t2 (List.mem_of_getElem? (i := 200) rfl) rfl
theorem w2_201 : (Jvm.Cond.instanceMethod ({ cls := "FanNet", name := "again", desc := "()I" } : Jvm.MethodName)) ∈ am_big := am_t2 (List.mem_of_getElem? (i := 201) rfl) rfl
theorem w2_202 : (Jvm.Cond.selects "FanNet" ({ cls := "FanNet", name := "again", desc := "()I" } : Jvm.MethodName) ({ cls := "FanNet", name := "again", desc := "()I" } : Jvm.MethodName)) ∈ am_big := am_t2 (List.mem_of_getElem? (i := 202) rfl) rfl
theorem w2_203 : (Jvm.Cond.code ({ cls := "FanNet", name := "again", desc := "()I" } : Jvm.MethodName) prog_1_method_5_code (2 : Nat) (Option.some Jvm.ClassFile.FieldType.int)) ∈ am_big := am_t2 (List.mem_of_getElem? (i := 203) rfl) rfl
theorem w7_83 : (Jvm.Cond.methodLink "FanNetLaw" (78 : Nat) ({ cls := "FanNetModel", name := "again", desc := "()I" } : Jvm.MethodName)) ∈ am_big := am_t7 (List.mem_of_getElem? (i := 83) rfl) rfl
theorem w7_84 : (Jvm.Cond.instanceMethod ({ cls := "FanNetModel", name := "again", desc := "()I" } : Jvm.MethodName)) ∈ am_big := am_t7 (List.mem_of_getElem? (i := 84) rfl) rfl
theorem w7_85 : (Jvm.Cond.selects "FanNetModel" ({ cls := "FanNetModel", name := "again", desc := "()I" } : Jvm.MethodName) ({ cls := "FanNetModel", name := "again", desc := "()I" } : Jvm.MethodName)) ∈ am_big := am_t7 (List.mem_of_getElem? (i := 85) rfl) rfl
theorem w7_86 : (Jvm.Cond.code ({ cls := "FanNetModel", name := "again", desc := "()I" } : Jvm.MethodName) prog_12_method_47_code (2 : Nat) (Option.some Jvm.ClassFile.FieldType.int)) ∈ am_big := am_t7 (List.mem_of_getElem? (i := 86) rfl) rfl
theorem w3_194 : (Jvm.Cond.methodLink "FanNetLaw" (79 : Nat) ({ cls := "FanNetLaw", name := "step", desc := "(LFanNet;I[J)I" } : Jvm.MethodName)) ∈ am_big := am_t3 (List.mem_of_getElem? (i := 194) rfl) rfl
theorem w3_195 : (Jvm.Cond.static ({ cls := "FanNetLaw", name := "step", desc := "(LFanNet;I[J)I" } : Jvm.MethodName)) ∈ am_big := am_t3 (List.mem_of_getElem? (i := 195) rfl) rfl
theorem w3_196 : (Jvm.Cond.codeWith ({ cls := "FanNetLaw", name := "step", desc := "(LFanNet;I[J)I" } : Jvm.MethodName) method_4_code (4 : Nat) (Option.some Jvm.ClassFile.FieldType.int) [((0 : Nat), (9 : Nat), (12 : Nat), (13 : Nat))]) ∈ am_big := am_t3 (List.mem_of_getElem? (i := 196) rfl) rfl
theorem w7_87 : (Jvm.Cond.methodLink "FanNetLaw" (81 : Nat) ({ cls := "FanNetModel", name := "step", desc := "(I)I" } : Jvm.MethodName)) ∈ am_big := am_t7 (List.mem_of_getElem? (i := 87) rfl) rfl
theorem w7_88 : (Jvm.Cond.instanceMethod ({ cls := "FanNetModel", name := "step", desc := "(I)I" } : Jvm.MethodName)) ∈ am_big := am_t7 (List.mem_of_getElem? (i := 88) rfl) rfl
theorem w7_89 : (Jvm.Cond.selects "FanNetModel" ({ cls := "FanNetModel", name := "step", desc := "(I)I" } : Jvm.MethodName) ({ cls := "FanNetModel", name := "step", desc := "(I)I" } : Jvm.MethodName)) ∈ am_big := am_t7 (List.mem_of_getElem? (i := 89) rfl) rfl
theorem w7_90 : (Jvm.Cond.code ({ cls := "FanNetModel", name := "step", desc := "(I)I" } : Jvm.MethodName) prog_12_method_63_code (2 : Nat) (Option.some Jvm.ClassFile.FieldType.int)) ∈ am_big := am_t7 (List.mem_of_getElem? (i := 90) rfl) rfl
theorem w4_163 : (Jvm.Cond.methodLink "FanNetLaw" (82 : Nat) ({ cls := "FanNetLaw", name := "run", desc := "(LFanNet;II[J)I" } : Jvm.MethodName)) ∈ am_big := am_t4 (List.mem_of_getElem? (i := 163) rfl) rfl
theorem w4_164 : (Jvm.Cond.static ({ cls := "FanNetLaw", name := "run", desc := "(LFanNet;II[J)I" } : Jvm.MethodName)) ∈ am_big := am_t4 (List.mem_of_getElem? (i := 164) rfl) rfl
theorem w4_165 : (Jvm.Cond.codeWith ({ cls := "FanNetLaw", name := "run", desc := "(LFanNet;II[J)I" } : Jvm.MethodName) method_5_code (5 : Nat) (Option.some Jvm.ClassFile.FieldType.int) [((0 : Nat), (10 : Nat), (13 : Nat), (13 : Nat))]) ∈ am_big := am_t4 (List.mem_of_getElem? (i := 165) rfl) rfl
theorem w7_220 : (Jvm.Cond.methodLink "FanNetLaw" (85 : Nat) ({ cls := "FanNetModel", name := "run", desc := "(II)I" } : Jvm.MethodName)) ∈ am_big := am_t7 (List.mem_of_getElem? (i := 220) rfl) rfl
theorem w7_221 : (Jvm.Cond.instanceMethod ({ cls := "FanNetModel", name := "run", desc := "(II)I" } : Jvm.MethodName)) ∈ am_big := am_t7 (List.mem_of_getElem? (i := 221) rfl) rfl
theorem w7_222 : (Jvm.Cond.selects "FanNetModel" ({ cls := "FanNetModel", name := "run", desc := "(II)I" } : Jvm.MethodName) ({ cls := "FanNetModel", name := "run", desc := "(II)I" } : Jvm.MethodName)) ∈ am_big := am_t7 (List.mem_of_getElem? (i := 222) rfl) rfl
theorem w7_223 : (Jvm.Cond.code ({ cls := "FanNetModel", name := "run", desc := "(II)I" } : Jvm.MethodName) prog_12_method_64_code (4 : Nat) (Option.some Jvm.ClassFile.FieldType.int)) ∈ am_big := am_t7 (List.mem_of_getElem? (i := 223) rfl) rfl
theorem w4_171 : (Jvm.Cond.methodLink "FanNetLaw" (86 : Nat) ({ cls := "FanNetLaw", name := "count", desc := "(LFanNet;I[J)I" } : Jvm.MethodName)) ∈ am_big := am_t4 (List.mem_of_getElem? (i := 171) rfl) rfl
theorem w4_172 : (Jvm.Cond.static ({ cls := "FanNetLaw", name := "count", desc := "(LFanNet;I[J)I" } : Jvm.MethodName)) ∈ am_big := am_t4 (List.mem_of_getElem? (i := 172) rfl) rfl
theorem w4_173 : (Jvm.Cond.codeWith ({ cls := "FanNetLaw", name := "count", desc := "(LFanNet;I[J)I" } : Jvm.MethodName) method_6_code (4 : Nat) (Option.some Jvm.ClassFile.FieldType.int) [((0 : Nat), (9 : Nat), (12 : Nat), (25 : Nat))]) ∈ am_big := am_t4 (List.mem_of_getElem? (i := 173) rfl) rfl
theorem w7_232 : (Jvm.Cond.methodLink "FanNetLaw" (88 : Nat) ({ cls := "FanNetModel", name := "count", desc := "(I)I" } : Jvm.MethodName)) ∈ am_big := am_t7 (List.mem_of_getElem? (i := 232) rfl) rfl
theorem w7_233 : (Jvm.Cond.instanceMethod ({ cls := "FanNetModel", name := "count", desc := "(I)I" } : Jvm.MethodName)) ∈ am_big := am_t7 (List.mem_of_getElem? (i := 233) rfl) rfl
theorem w7_234 : (Jvm.Cond.selects "FanNetModel" ({ cls := "FanNetModel", name := "count", desc := "(I)I" } : Jvm.MethodName) ({ cls := "FanNetModel", name := "count", desc := "(I)I" } : Jvm.MethodName)) ∈ am_big := am_t7 (List.mem_of_getElem? (i := 234) rfl) rfl
theorem w7_235 : (Jvm.Cond.code ({ cls := "FanNetModel", name := "count", desc := "(I)I" } : Jvm.MethodName) prog_12_method_93_code (2 : Nat) (Option.some Jvm.ClassFile.FieldType.int)) ∈ am_big := am_t7 (List.mem_of_getElem? (i := 235) rfl) rfl
theorem w5_38 : (Jvm.Cond.methodLink "FanNetLaw" (89 : Nat) ({ cls := "FanNetLaw", name := "node", desc := "(LFanNet;II[J)I" } : Jvm.MethodName)) ∈ am_big := am_t5 (List.mem_of_getElem? (i := 38) rfl) rfl
theorem w5_39 : (Jvm.Cond.static ({ cls := "FanNetLaw", name := "node", desc := "(LFanNet;II[J)I" } : Jvm.MethodName)) ∈ am_big := am_t5 (List.mem_of_getElem? (i := 39) rfl) rfl
theorem w5_40 : (Jvm.Cond.codeWith ({ cls := "FanNetLaw", name := "node", desc := "(LFanNet;II[J)I" } : Jvm.MethodName) method_7_code (5 : Nat) (Option.some Jvm.ClassFile.FieldType.int) [((0 : Nat), (10 : Nat), (13 : Nat), (25 : Nat))]) ∈ am_big := am_t5 (List.mem_of_getElem? (i := 40) rfl) rfl
theorem w8_40 : (Jvm.Cond.methodLink "FanNetLaw" (91 : Nat) ({ cls := "FanNetModel", name := "node", desc := "(II)I" } : Jvm.MethodName)) ∈ am_big := am_t8 (List.mem_of_getElem? (i := 40) rfl) rfl
theorem w8_41 : (Jvm.Cond.instanceMethod ({ cls := "FanNetModel", name := "node", desc := "(II)I" } : Jvm.MethodName)) ∈ am_big := am_t8 (List.mem_of_getElem? (i := 41) rfl) rfl
theorem w8_42 : (Jvm.Cond.selects "FanNetModel" ({ cls := "FanNetModel", name := "node", desc := "(II)I" } : Jvm.MethodName) ({ cls := "FanNetModel", name := "node", desc := "(II)I" } : Jvm.MethodName)) ∈ am_big := am_t8 (List.mem_of_getElem? (i := 42) rfl) rfl
theorem w8_43 : (Jvm.Cond.code ({ cls := "FanNetModel", name := "node", desc := "(II)I" } : Jvm.MethodName) prog_12_method_94_code (3 : Nat) (Option.some Jvm.ClassFile.FieldType.int)) ∈ am_big := am_t8 (List.mem_of_getElem? (i := 43) rfl) rfl
theorem w5_54 : (Jvm.Cond.methodLink "FanNetLaw" (92 : Nat) ({ cls := "FanNetLaw", name := "active", desc := "(LFanNet;II[J)I" } : Jvm.MethodName)) ∈ am_big := am_t5 (List.mem_of_getElem? (i := 54) rfl) rfl
theorem w5_55 : (Jvm.Cond.static ({ cls := "FanNetLaw", name := "active", desc := "(LFanNet;II[J)I" } : Jvm.MethodName)) ∈ am_big := am_t5 (List.mem_of_getElem? (i := 55) rfl) rfl
theorem w5_56 : (Jvm.Cond.codeWith ({ cls := "FanNetLaw", name := "active", desc := "(LFanNet;II[J)I" } : Jvm.MethodName) method_8_code (5 : Nat) (Option.some Jvm.ClassFile.FieldType.int) [((0 : Nat), (10 : Nat), (13 : Nat), (25 : Nat))]) ∈ am_big := am_t5 (List.mem_of_getElem? (i := 56) rfl) rfl
theorem w8_44 : (Jvm.Cond.methodLink "FanNetLaw" (94 : Nat) ({ cls := "FanNetModel", name := "active", desc := "(II)I" } : Jvm.MethodName)) ∈ am_big := am_t8 (List.mem_of_getElem? (i := 44) rfl) rfl
theorem w8_45 : (Jvm.Cond.instanceMethod ({ cls := "FanNetModel", name := "active", desc := "(II)I" } : Jvm.MethodName)) ∈ am_big := am_t8 (List.mem_of_getElem? (i := 45) rfl) rfl
theorem w8_46 : (Jvm.Cond.selects "FanNetModel" ({ cls := "FanNetModel", name := "active", desc := "(II)I" } : Jvm.MethodName) ({ cls := "FanNetModel", name := "active", desc := "(II)I" } : Jvm.MethodName)) ∈ am_big := am_t8 (List.mem_of_getElem? (i := 46) rfl) rfl
theorem w8_47 : (Jvm.Cond.code ({ cls := "FanNetModel", name := "active", desc := "(II)I" } : Jvm.MethodName) prog_12_method_95_code (6 : Nat) (Option.some Jvm.ClassFile.FieldType.int)) ∈ am_big := am_t8 (List.mem_of_getElem? (i := 47) rfl) rfl
theorem w5_64 : (Jvm.Cond.methodLink "FanNetLaw" (95 : Nat) ({ cls := "FanNetLaw", name := "wanted", desc := "(LFanNet;I[J)I" } : Jvm.MethodName)) ∈ am_big := am_t5 (List.mem_of_getElem? (i := 64) rfl) rfl
theorem w5_65 : (Jvm.Cond.static ({ cls := "FanNetLaw", name := "wanted", desc := "(LFanNet;I[J)I" } : Jvm.MethodName)) ∈ am_big := am_t5 (List.mem_of_getElem? (i := 65) rfl) rfl
theorem w5_66 : (Jvm.Cond.codeWith ({ cls := "FanNetLaw", name := "wanted", desc := "(LFanNet;I[J)I" } : Jvm.MethodName) method_9_code (4 : Nat) (Option.some Jvm.ClassFile.FieldType.int) [((0 : Nat), (9 : Nat), (12 : Nat), (25 : Nat))]) ∈ am_big := am_t5 (List.mem_of_getElem? (i := 66) rfl) rfl
theorem w8_48 : (Jvm.Cond.methodLink "FanNetLaw" (97 : Nat) ({ cls := "FanNetModel", name := "wanted", desc := "(I)I" } : Jvm.MethodName)) ∈ am_big := am_t8 (List.mem_of_getElem? (i := 48) rfl) rfl
theorem w8_49 : (Jvm.Cond.instanceMethod ({ cls := "FanNetModel", name := "wanted", desc := "(I)I" } : Jvm.MethodName)) ∈ am_big := am_t8 (List.mem_of_getElem? (i := 49) rfl) rfl
theorem w8_50 : (Jvm.Cond.selects "FanNetModel" ({ cls := "FanNetModel", name := "wanted", desc := "(I)I" } : Jvm.MethodName) ({ cls := "FanNetModel", name := "wanted", desc := "(I)I" } : Jvm.MethodName)) ∈ am_big := am_t8 (List.mem_of_getElem? (i := 50) rfl) rfl
theorem w8_51 : (Jvm.Cond.code ({ cls := "FanNetModel", name := "wanted", desc := "(I)I" } : Jvm.MethodName) prog_12_method_96_code (2 : Nat) (Option.some Jvm.ClassFile.FieldType.int)) ∈ am_big := am_t8 (List.mem_of_getElem? (i := 51) rfl) rfl
theorem w5_72 : (Jvm.Cond.methodLink "FanNetLaw" (98 : Nat) ({ cls := "FanNetLaw", name := "part", desc := "(LFanNet;II[J)I" } : Jvm.MethodName)) ∈ am_big := am_t5 (List.mem_of_getElem? (i := 72) rfl) rfl
theorem w5_73 : (Jvm.Cond.static ({ cls := "FanNetLaw", name := "part", desc := "(LFanNet;II[J)I" } : Jvm.MethodName)) ∈ am_big := am_t5 (List.mem_of_getElem? (i := 73) rfl) rfl
theorem w5_74 : (Jvm.Cond.codeWith ({ cls := "FanNetLaw", name := "part", desc := "(LFanNet;II[J)I" } : Jvm.MethodName) method_10_code (5 : Nat) (Option.some Jvm.ClassFile.FieldType.int) [((0 : Nat), (10 : Nat), (13 : Nat), (25 : Nat))]) ∈ am_big := am_t5 (List.mem_of_getElem? (i := 74) rfl) rfl
theorem w8_52 : (Jvm.Cond.methodLink "FanNetLaw" (100 : Nat) ({ cls := "FanNetModel", name := "part", desc := "(II)I" } : Jvm.MethodName)) ∈ am_big := am_t8 (List.mem_of_getElem? (i := 52) rfl) rfl
theorem w8_53 : (Jvm.Cond.instanceMethod ({ cls := "FanNetModel", name := "part", desc := "(II)I" } : Jvm.MethodName)) ∈ am_big := am_t8 (List.mem_of_getElem? (i := 53) rfl) rfl
theorem w8_54 : (Jvm.Cond.selects "FanNetModel" ({ cls := "FanNetModel", name := "part", desc := "(II)I" } : Jvm.MethodName) ({ cls := "FanNetModel", name := "part", desc := "(II)I" } : Jvm.MethodName)) ∈ am_big := am_t8 (List.mem_of_getElem? (i := 54) rfl) rfl
theorem w8_55 : (Jvm.Cond.code ({ cls := "FanNetModel", name := "part", desc := "(II)I" } : Jvm.MethodName) prog_12_method_99_code (3 : Nat) (Option.some Jvm.ClassFile.FieldType.int)) ∈ am_big := am_t8 (List.mem_of_getElem? (i := 55) rfl) rfl
theorem w5_80 : (Jvm.Cond.methodLink "FanNetLaw" (101 : Nat) ({ cls := "FanNetLaw", name := "say", desc := "(LFanNet;I[J)I" } : Jvm.MethodName)) ∈ am_big := am_t5 (List.mem_of_getElem? (i := 80) rfl) rfl
theorem w5_81 : (Jvm.Cond.static ({ cls := "FanNetLaw", name := "say", desc := "(LFanNet;I[J)I" } : Jvm.MethodName)) ∈ am_big := am_t5 (List.mem_of_getElem? (i := 81) rfl) rfl
theorem w5_82 : (Jvm.Cond.codeWith ({ cls := "FanNetLaw", name := "say", desc := "(LFanNet;I[J)I" } : Jvm.MethodName) method_11_code (4 : Nat) (Option.some Jvm.ClassFile.FieldType.int) [((0 : Nat), (9 : Nat), (12 : Nat), (13 : Nat))]) ∈ am_big := am_t5 (List.mem_of_getElem? (i := 82) rfl) rfl
theorem w8_62 : (Jvm.Cond.methodLink "FanNetLaw" (103 : Nat) ({ cls := "FanNetModel", name := "say", desc := "(I)I" } : Jvm.MethodName)) ∈ am_big := am_t8 (List.mem_of_getElem? (i := 62) rfl) rfl
theorem w8_63 : (Jvm.Cond.instanceMethod ({ cls := "FanNetModel", name := "say", desc := "(I)I" } : Jvm.MethodName)) ∈ am_big := am_t8 (List.mem_of_getElem? (i := 63) rfl) rfl
theorem w8_64 : (Jvm.Cond.selects "FanNetModel" ({ cls := "FanNetModel", name := "say", desc := "(I)I" } : Jvm.MethodName) ({ cls := "FanNetModel", name := "say", desc := "(I)I" } : Jvm.MethodName)) ∈ am_big := am_t8 (List.mem_of_getElem? (i := 64) rfl) rfl
theorem w8_65 : (Jvm.Cond.code ({ cls := "FanNetModel", name := "say", desc := "(I)I" } : Jvm.MethodName) prog_12_method_105_code (4 : Nat) (Option.some Jvm.ClassFile.FieldType.int)) ∈ am_big := am_t8 (List.mem_of_getElem? (i := 65) rfl) rfl
theorem w2_204 : (Jvm.Cond.methodLink "FanNetLaw" (104 : Nat) ({ cls := "FanNet", name := "said", desc := "(I)I" } : Jvm.MethodName)) ∈ am_big := am_t2 (List.mem_of_getElem? (i := 204) rfl) rfl
theorem w2_205 : (Jvm.Cond.instanceMethod ({ cls := "FanNet", name := "said", desc := "(I)I" } : Jvm.MethodName)) ∈ am_big := am_t2 (List.mem_of_getElem? (i := 205) rfl) rfl
theorem w2_206 : (Jvm.Cond.selects "FanNet" ({ cls := "FanNet", name := "said", desc := "(I)I" } : Jvm.MethodName) ({ cls := "FanNet", name := "said", desc := "(I)I" } : Jvm.MethodName)) ∈ am_big := am_t2 (List.mem_of_getElem? (i := 206) rfl) rfl
theorem w2_207 : (Jvm.Cond.code ({ cls := "FanNet", name := "said", desc := "(I)I" } : Jvm.MethodName) prog_1_method_14_code (2 : Nat) (Option.some Jvm.ClassFile.FieldType.int)) ∈ am_big := am_t2 (List.mem_of_getElem? (i := 207) rfl) rfl
theorem w8_85 : (Jvm.Cond.methodLink "FanNetLaw" (107 : Nat) ({ cls := "FanNetModel", name := "said", desc := "(I)I" } : Jvm.MethodName)) ∈ am_big := am_t8 (List.mem_of_getElem? (i := 85) rfl) rfl
theorem w8_86 : (Jvm.Cond.instanceMethod ({ cls := "FanNetModel", name := "said", desc := "(I)I" } : Jvm.MethodName)) ∈ am_big := am_t8 (List.mem_of_getElem? (i := 86) rfl) rfl
theorem w8_87 : (Jvm.Cond.selects "FanNetModel" ({ cls := "FanNetModel", name := "said", desc := "(I)I" } : Jvm.MethodName) ({ cls := "FanNetModel", name := "said", desc := "(I)I" } : Jvm.MethodName)) ∈ am_big := am_t8 (List.mem_of_getElem? (i := 87) rfl) rfl
theorem w8_88 : (Jvm.Cond.code ({ cls := "FanNetModel", name := "said", desc := "(I)I" } : Jvm.MethodName) prog_12_method_106_code (2 : Nat) (Option.some Jvm.ClassFile.FieldType.int)) ∈ am_big := am_t8 (List.mem_of_getElem? (i := 88) rfl) rfl
theorem w5_112 : (Jvm.Cond.methodLink "FanNetLaw" (108 : Nat) ({ cls := "FanNetLaw", name := "same", desc := "(LFanNet;II[J)I" } : Jvm.MethodName)) ∈ am_big := am_t5 (List.mem_of_getElem? (i := 112) rfl) rfl
theorem w5_113 : (Jvm.Cond.static ({ cls := "FanNetLaw", name := "same", desc := "(LFanNet;II[J)I" } : Jvm.MethodName)) ∈ am_big := am_t5 (List.mem_of_getElem? (i := 113) rfl) rfl
theorem w5_114 : (Jvm.Cond.codeWith ({ cls := "FanNetLaw", name := "same", desc := "(LFanNet;II[J)I" } : Jvm.MethodName) method_12_code (5 : Nat) (Option.some Jvm.ClassFile.FieldType.int) [((0 : Nat), (17 : Nat), (20 : Nat), (13 : Nat)), ((0 : Nat), (17 : Nat), (24 : Nat), (25 : Nat))]) ∈ am_big := am_t5 (List.mem_of_getElem? (i := 114) rfl) rfl
theorem w8_89 : (Jvm.Cond.methodLink "FanNetLaw" (110 : Nat) ({ cls := "FanNetModel", name := "same", desc := "(II)Z" } : Jvm.MethodName)) ∈ am_big := am_t8 (List.mem_of_getElem? (i := 89) rfl) rfl
theorem w8_90 : (Jvm.Cond.instanceMethod ({ cls := "FanNetModel", name := "same", desc := "(II)Z" } : Jvm.MethodName)) ∈ am_big := am_t8 (List.mem_of_getElem? (i := 90) rfl) rfl
theorem w8_91 : (Jvm.Cond.selects "FanNetModel" ({ cls := "FanNetModel", name := "same", desc := "(II)Z" } : Jvm.MethodName) ({ cls := "FanNetModel", name := "same", desc := "(II)Z" } : Jvm.MethodName)) ∈ am_big := am_t8 (List.mem_of_getElem? (i := 91) rfl) rfl
theorem w8_92 : (Jvm.Cond.code ({ cls := "FanNetModel", name := "same", desc := "(II)Z" } : Jvm.MethodName) prog_12_method_107_code (4 : Nat) (Option.some Jvm.ClassFile.FieldType.boolean)) ∈ am_big := am_t8 (List.mem_of_getElem? (i := 92) rfl) rfl
theorem w5_124 : (Jvm.Cond.methodLink "FanNetLaw" (111 : Nat) ({ cls := "FanNetLaw", name := "plain", desc := "(LFanNet;I[J)I" } : Jvm.MethodName)) ∈ am_big := am_t5 (List.mem_of_getElem? (i := 124) rfl) rfl
theorem w5_125 : (Jvm.Cond.static ({ cls := "FanNetLaw", name := "plain", desc := "(LFanNet;I[J)I" } : Jvm.MethodName)) ∈ am_big := am_t5 (List.mem_of_getElem? (i := 125) rfl) rfl
theorem w5_126 : (Jvm.Cond.codeWith ({ cls := "FanNetLaw", name := "plain", desc := "(LFanNet;I[J)I" } : Jvm.MethodName) method_13_code (4 : Nat) (Option.some Jvm.ClassFile.FieldType.int) [((0 : Nat), (9 : Nat), (12 : Nat), (13 : Nat))]) ∈ am_big := am_t5 (List.mem_of_getElem? (i := 126) rfl) rfl
theorem w8_93 : (Jvm.Cond.methodLink "FanNetLaw" (113 : Nat) ({ cls := "FanNetModel", name := "plain", desc := "(I)I" } : Jvm.MethodName)) ∈ am_big := am_t8 (List.mem_of_getElem? (i := 93) rfl) rfl
theorem w8_94 : (Jvm.Cond.instanceMethod ({ cls := "FanNetModel", name := "plain", desc := "(I)I" } : Jvm.MethodName)) ∈ am_big := am_t8 (List.mem_of_getElem? (i := 94) rfl) rfl
theorem w8_95 : (Jvm.Cond.selects "FanNetModel" ({ cls := "FanNetModel", name := "plain", desc := "(I)I" } : Jvm.MethodName) ({ cls := "FanNetModel", name := "plain", desc := "(I)I" } : Jvm.MethodName)) ∈ am_big := am_t8 (List.mem_of_getElem? (i := 95) rfl) rfl
theorem w8_96 : (Jvm.Cond.code ({ cls := "FanNetModel", name := "plain", desc := "(I)I" } : Jvm.MethodName) prog_12_method_108_code (2 : Nat) (Option.some Jvm.ClassFile.FieldType.int)) ∈ am_big := am_t8 (List.mem_of_getElem? (i := 96) rfl) rfl
theorem w6_191 : (Jvm.Cond.methodLink "FanNetLaw" (114 : Nat) ({ cls := "FanNetModel", name := "thrown", desc := "()I" } : Jvm.MethodName)) ∈ am_big := am_t6 (List.mem_of_getElem? (i := 191) rfl) rfl
theorem w6_192 : (Jvm.Cond.instanceMethod ({ cls := "FanNetModel", name := "thrown", desc := "()I" } : Jvm.MethodName)) ∈ am_big := am_t6 (List.mem_of_getElem? (i := 192) rfl) rfl
theorem w6_193 : (Jvm.Cond.selects "FanNetModel" ({ cls := "FanNetModel", name := "thrown", desc := "()I" } : Jvm.MethodName) ({ cls := "FanNetModel", name := "thrown", desc := "()I" } : Jvm.MethodName)) ∈ am_big := am_t6 (List.mem_of_getElem? (i := 193) rfl) rfl
theorem w6_194 : (Jvm.Cond.code ({ cls := "FanNetModel", name := "thrown", desc := "()I" } : Jvm.MethodName) prog_12_method_2_code (1 : Nat) (Option.some Jvm.ClassFile.FieldType.int)) ∈ am_big := am_t6 (List.mem_of_getElem? (i := 194) rfl) rfl
theorem w5_136 : (Jvm.Cond.methodLink "FanNetLaw" (117 : Nat) ({ cls := "FanNetLaw", name := "redexes", desc := "(LFanNet;I[J)I" } : Jvm.MethodName)) ∈ am_big := am_t5 (List.mem_of_getElem? (i := 136) rfl) rfl
theorem w5_137 : (Jvm.Cond.static ({ cls := "FanNetLaw", name := "redexes", desc := "(LFanNet;I[J)I" } : Jvm.MethodName)) ∈ am_big := am_t5 (List.mem_of_getElem? (i := 137) rfl) rfl
theorem w5_138 : (Jvm.Cond.codeWith ({ cls := "FanNetLaw", name := "redexes", desc := "(LFanNet;I[J)I" } : Jvm.MethodName) method_14_code (4 : Nat) (Option.some Jvm.ClassFile.FieldType.int) [((0 : Nat), (9 : Nat), (12 : Nat), (13 : Nat)), ((0 : Nat), (9 : Nat), (15 : Nat), (25 : Nat))]) ∈ am_big := am_t5 (List.mem_of_getElem? (i := 138) rfl) rfl
theorem w8_97 : (Jvm.Cond.methodLink "FanNetLaw" (119 : Nat) ({ cls := "FanNetModel", name := "redexes", desc := "(I)I" } : Jvm.MethodName)) ∈ am_big := am_t8 (List.mem_of_getElem? (i := 97) rfl) rfl
theorem w8_98 : (Jvm.Cond.instanceMethod ({ cls := "FanNetModel", name := "redexes", desc := "(I)I" } : Jvm.MethodName)) ∈ am_big := am_t8 (List.mem_of_getElem? (i := 98) rfl) rfl
theorem w8_99 : (Jvm.Cond.selects "FanNetModel" ({ cls := "FanNetModel", name := "redexes", desc := "(I)I" } : Jvm.MethodName) ({ cls := "FanNetModel", name := "redexes", desc := "(I)I" } : Jvm.MethodName)) ∈ am_big := am_t8 (List.mem_of_getElem? (i := 99) rfl) rfl
theorem w8_100 : (Jvm.Cond.code ({ cls := "FanNetModel", name := "redexes", desc := "(I)I" } : Jvm.MethodName) prog_12_method_109_code (4 : Nat) (Option.some Jvm.ClassFile.FieldType.int)) ∈ am_big := am_t8 (List.mem_of_getElem? (i := 100) rfl) rfl
theorem w5_144 : (Jvm.Cond.methodLink "FanNetLaw" (120 : Nat) ({ cls := "FanNetLaw", name := "trial", desc := "(LFanNet;II[J)I" } : Jvm.MethodName)) ∈ am_big := am_t5 (List.mem_of_getElem? (i := 144) rfl) rfl
theorem w5_145 : (Jvm.Cond.static ({ cls := "FanNetLaw", name := "trial", desc := "(LFanNet;II[J)I" } : Jvm.MethodName)) ∈ am_big := am_t5 (List.mem_of_getElem? (i := 145) rfl) rfl
theorem w5_146 : (Jvm.Cond.codeWith ({ cls := "FanNetLaw", name := "trial", desc := "(LFanNet;II[J)I" } : Jvm.MethodName) method_15_code (5 : Nat) (Option.some Jvm.ClassFile.FieldType.int) [((0 : Nat), (10 : Nat), (13 : Nat), (13 : Nat)), ((0 : Nat), (10 : Nat), (17 : Nat), (25 : Nat))]) ∈ am_big := am_t5 (List.mem_of_getElem? (i := 146) rfl) rfl
theorem w7_224 : (Jvm.Cond.methodLink "FanNetLaw" (122 : Nat) ({ cls := "FanNetModel", name := "trial", desc := "(II)I" } : Jvm.MethodName)) ∈ am_big := am_t7 (List.mem_of_getElem? (i := 224) rfl) rfl
theorem w7_225 : (Jvm.Cond.instanceMethod ({ cls := "FanNetModel", name := "trial", desc := "(II)I" } : Jvm.MethodName)) ∈ am_big := am_t7 (List.mem_of_getElem? (i := 225) rfl) rfl
theorem w7_226 : (Jvm.Cond.selects "FanNetModel" ({ cls := "FanNetModel", name := "trial", desc := "(II)I" } : Jvm.MethodName) ({ cls := "FanNetModel", name := "trial", desc := "(II)I" } : Jvm.MethodName)) ∈ am_big := am_t7 (List.mem_of_getElem? (i := 226) rfl) rfl
theorem w7_227 : (Jvm.Cond.code ({ cls := "FanNetModel", name := "trial", desc := "(II)I" } : Jvm.MethodName) prog_12_method_66_code (3 : Nat) (Option.some Jvm.ClassFile.FieldType.int)) ∈ am_big := am_t7 (List.mem_of_getElem? (i := 227) rfl) rfl
theorem w2_47 : (Jvm.Cond.methodLink "java/util/Arrays" (304 : Nat) ({ cls := "java/lang/Math", name := "min", desc := "(II)I" } : Jvm.MethodName)) ∈ am_big := am_t2 (List.mem_of_getElem? (i := 47) rfl) rfl
theorem w2_48 : (Jvm.Cond.methodLink "java/util/Arrays" (150 : Nat) ({ cls := "java/lang/System", name := "arraycopy", desc := "(Ljava/lang/Object;ILjava/lang/Object;II)V" } : Jvm.MethodName)) ∈ am_big := am_t2 (List.mem_of_getElem? (i := 48) rfl) rfl
theorem w2_217 : (Jvm.Cond.classLink "FanNetLaw" (13 : Nat) "java/lang/IllegalArgumentException") ∈ am_big := am_t2 (List.mem_of_getElem? (i := 217) rfl) rfl
theorem w4_174 : (Jvm.Cond.classLink "FanNetLaw" (25 : Nat) "java/util/NoSuchElementException") ∈ am_big := am_t4 (List.mem_of_getElem? (i := 174) rfl) rfl
theorem w2_22 : (Jvm.Cond.laysFinal "FanNet$Layer" "FanNet$Layer" "frames" "LFanNet$Row;") ∈ am_big := am_t2 (List.mem_of_getElem? (i := 22) rfl) rfl
theorem w2_24 : (Jvm.Cond.laysFinal "FanNet$Layer" "FanNet$Layer" "ends" "LFanNet$Row;") ∈ am_big := am_t2 (List.mem_of_getElem? (i := 24) rfl) rfl
theorem w2_26 : (Jvm.Cond.laysFinal "FanNet$Layer" "FanNet$Layer" "lastEnds" "LFanNet$Row;") ∈ am_big := am_t2 (List.mem_of_getElem? (i := 26) rfl) rfl
theorem w2_28 : (Jvm.Cond.lays "FanNet$Layer" "FanNet$Layer" "net" "LFanNet$Net;") ∈ am_big := am_t2 (List.mem_of_getElem? (i := 28) rfl) rfl
theorem w2_30 : (Jvm.Cond.lays "FanNet$Layer" "FanNet$Layer" "level" "I") ∈ am_big := am_t2 (List.mem_of_getElem? (i := 30) rfl) rfl
theorem w1_232 : (Jvm.Cond.laysFinal "FanNet$Net" "FanNet$Net" "kinds" "LFanNet$Row;") ∈ am_big := am_t1 (List.mem_of_getElem? (i := 232) rfl) rfl
theorem w1_234 : (Jvm.Cond.laysFinal "FanNet$Net" "FanNet$Net" "levels" "LFanNet$Row;") ∈ am_big := am_t1 (List.mem_of_getElem? (i := 234) rfl) rfl
theorem w1_236 : (Jvm.Cond.laysFinal "FanNet$Net" "FanNet$Net" "wires" "LFanNet$Row;") ∈ am_big := am_t1 (List.mem_of_getElem? (i := 236) rfl) rfl
theorem w1_238 : (Jvm.Cond.laysFinal "FanNet$Net" "FanNet$Net" "copies" "LFanNet$Row;") ∈ am_big := am_t1 (List.mem_of_getElem? (i := 238) rfl) rfl
theorem w2_0 : (Jvm.Cond.lays "FanNet$Net" "FanNet$Net" "size" "I") ∈ am_big := am_t2 (List.mem_of_getElem? (i := 0) rfl) rfl
theorem w2_2 : (Jvm.Cond.lays "FanNet$Net" "FanNet$Net" "noneFreeBelow" "I") ∈ am_big := am_t2 (List.mem_of_getElem? (i := 2) rfl) rfl
theorem w2_4 : (Jvm.Cond.lays "FanNet$Net" "FanNet$Net" "noneUsedFrom" "I") ∈ am_big := am_t2 (List.mem_of_getElem? (i := 4) rfl) rfl
theorem w2_6 : (Jvm.Cond.lays "FanNet$Net" "FanNet$Net" "overfull" "Z") ∈ am_big := am_t2 (List.mem_of_getElem? (i := 6) rfl) rfl
theorem w1_184 : (Jvm.Cond.laysFinal "FanNet$Plainly" "FanNet$Plainly" "depths" "LFanNet$Row;") ∈ am_big := am_t1 (List.mem_of_getElem? (i := 184) rfl) rfl
theorem w1_186 : (Jvm.Cond.laysFinal "FanNet$Plainly" "FanNet$Plainly" "argumentDepths" "LFanNet$Row;") ∈ am_big := am_t1 (List.mem_of_getElem? (i := 186) rfl) rfl
theorem w1_188 : (Jvm.Cond.lays "FanNet$Plainly" "FanNet$Plainly" "now" "LFanNet$Row;") ∈ am_big := am_t1 (List.mem_of_getElem? (i := 188) rfl) rfl
theorem w1_190 : (Jvm.Cond.lays "FanNet$Plainly" "FanNet$Plainly" "next" "LFanNet$Row;") ∈ am_big := am_t1 (List.mem_of_getElem? (i := 190) rfl) rfl
theorem w1_192 : (Jvm.Cond.lays "FanNet$Plainly" "FanNet$Plainly" "rounds" "I") ∈ am_big := am_t1 (List.mem_of_getElem? (i := 192) rfl) rfl
theorem w1_194 : (Jvm.Cond.lays "FanNet$Plainly" "FanNet$Plainly" "tooMany" "Z") ∈ am_big := am_t1 (List.mem_of_getElem? (i := 194) rfl) rfl
theorem w1_43 : (Jvm.Cond.laysFinal "FanNet$Row" "FanNet$Row" "most" "I") ∈ am_big := am_t1 (List.mem_of_getElem? (i := 43) rfl) rfl
theorem w1_45 : (Jvm.Cond.lays "FanNet$Row" "FanNet$Row" "items" "[I") ∈ am_big := am_t1 (List.mem_of_getElem? (i := 45) rfl) rfl
theorem w1_47 : (Jvm.Cond.lays "FanNet$Row" "FanNet$Row" "size" "I") ∈ am_big := am_t1 (List.mem_of_getElem? (i := 47) rfl) rfl
theorem w1_132 : (Jvm.Cond.laysFinal "FanNet$Stacks" "FanNet$Stacks" "levels" "LFanNet$Row;") ∈ am_big := am_t1 (List.mem_of_getElem? (i := 132) rfl) rfl
theorem w1_134 : (Jvm.Cond.laysFinal "FanNet$Stacks" "FanNet$Stacks" "cells" "LFanNet$Row;") ∈ am_big := am_t1 (List.mem_of_getElem? (i := 134) rfl) rfl
theorem w1_136 : (Jvm.Cond.laysFinal "FanNet$Stacks" "FanNet$Stacks" "trail" "LFanNet$Row;") ∈ am_big := am_t1 (List.mem_of_getElem? (i := 136) rfl) rfl
theorem w1_207 : (Jvm.Cond.laysFinal "FanNet$Teller" "FanNet$Teller" "signs" "LFanNet$Row;") ∈ am_big := am_t1 (List.mem_of_getElem? (i := 207) rfl) rfl
theorem w1_209 : (Jvm.Cond.laysFinal "FanNet$Teller" "FanNet$Teller" "waiting" "LFanNet$Row;") ∈ am_big := am_t1 (List.mem_of_getElem? (i := 209) rfl) rfl
theorem w1_90 : (Jvm.Cond.laysFinal "FanNet$Text" "FanNet$Text" "tokens" "LFanNet$Tokens;") ∈ am_big := am_t1 (List.mem_of_getElem? (i := 90) rfl) rfl
theorem w1_92 : (Jvm.Cond.laysFinal "FanNet$Text" "FanNet$Text" "code" "LFanNet$Row;") ∈ am_big := am_t1 (List.mem_of_getElem? (i := 92) rfl) rfl
theorem w1_94 : (Jvm.Cond.laysFinal "FanNet$Text" "FanNet$Text" "names" "LFanNet$Row;") ∈ am_big := am_t1 (List.mem_of_getElem? (i := 94) rfl) rfl
theorem w1_96 : (Jvm.Cond.laysFinal "FanNet$Text" "FanNet$Text" "around" "LFanNet$Row;") ∈ am_big := am_t1 (List.mem_of_getElem? (i := 96) rfl) rfl
theorem w1_98 : (Jvm.Cond.laysFinal "FanNet$Text" "FanNet$Text" "open" "LFanNet$Row;") ∈ am_big := am_t1 (List.mem_of_getElem? (i := 98) rfl) rfl
theorem w1_100 : (Jvm.Cond.laysFinal "FanNet$Text" "FanNet$Text" "backs" "LFanNet$Row;") ∈ am_big := am_t1 (List.mem_of_getElem? (i := 100) rfl) rfl
theorem w1_102 : (Jvm.Cond.lays "FanNet$Text" "FanNet$Text" "state" "I") ∈ am_big := am_t1 (List.mem_of_getElem? (i := 102) rfl) rfl
theorem w1_104 : (Jvm.Cond.lays "FanNet$Text" "FanNet$Text" "chain" "I") ∈ am_big := am_t1 (List.mem_of_getElem? (i := 104) rfl) rfl
theorem w1_106 : (Jvm.Cond.lays "FanNet$Text" "FanNet$Text" "atoms" "I") ∈ am_big := am_t1 (List.mem_of_getElem? (i := 106) rfl) rfl
theorem w1_108 : (Jvm.Cond.lays "FanNet$Text" "FanNet$Text" "codeStart" "I") ∈ am_big := am_t1 (List.mem_of_getElem? (i := 108) rfl) rfl
theorem w1_110 : (Jvm.Cond.lays "FanNet$Text" "FanNet$Text" "told" "I") ∈ am_big := am_t1 (List.mem_of_getElem? (i := 110) rfl) rfl
theorem w1_112 : (Jvm.Cond.lays "FanNet$Text" "FanNet$Text" "naming" "Z") ∈ am_big := am_t1 (List.mem_of_getElem? (i := 112) rfl) rfl
theorem w1_69 : (Jvm.Cond.laysFinal "FanNet$Tokens" "FanNet$Tokens" "bytes" "LFanNet$Row;") ∈ am_big := am_t1 (List.mem_of_getElem? (i := 69) rfl) rfl
theorem w1_71 : (Jvm.Cond.lays "FanNet$Tokens" "FanNet$Tokens" "sort" "I") ∈ am_big := am_t1 (List.mem_of_getElem? (i := 71) rfl) rfl
theorem w1_73 : (Jvm.Cond.lays "FanNet$Tokens" "FanNet$Tokens" "start" "I") ∈ am_big := am_t1 (List.mem_of_getElem? (i := 73) rfl) rfl
theorem w1_75 : (Jvm.Cond.lays "FanNet$Tokens" "FanNet$Tokens" "end" "I") ∈ am_big := am_t1 (List.mem_of_getElem? (i := 75) rfl) rfl
theorem w1_151 : (Jvm.Cond.laysFinal "FanNet$Walk" "FanNet$Walk" "stacks" "LFanNet$Stacks;") ∈ am_big := am_t1 (List.mem_of_getElem? (i := 151) rfl) rfl
theorem w1_153 : (Jvm.Cond.laysFinal "FanNet$Walk" "FanNet$Walk" "term" "LFanNet$Row;") ∈ am_big := am_t1 (List.mem_of_getElem? (i := 153) rfl) rfl
theorem w1_155 : (Jvm.Cond.laysFinal "FanNet$Walk" "FanNet$Walk" "waiting" "LFanNet$Row;") ∈ am_big := am_t1 (List.mem_of_getElem? (i := 155) rfl) rfl
theorem w1_157 : (Jvm.Cond.laysFinal "FanNet$Walk" "FanNet$Walk" "functions" "LFanNet$Row;") ∈ am_big := am_t1 (List.mem_of_getElem? (i := 157) rfl) rfl
theorem w1_159 : (Jvm.Cond.laysFinal "FanNet$Walk" "FanNet$Walk" "stacksThen" "LFanNet$Row;") ∈ am_big := am_t1 (List.mem_of_getElem? (i := 159) rfl) rfl
theorem w1_161 : (Jvm.Cond.lays "FanNet$Walk" "FanNet$Walk" "wires" "I") ∈ am_big := am_t1 (List.mem_of_getElem? (i := 161) rfl) rfl
theorem w1_163 : (Jvm.Cond.lays "FanNet$Walk" "FanNet$Walk" "wantedNode" "I") ∈ am_big := am_t1 (List.mem_of_getElem? (i := 163) rfl) rfl
theorem w1_165 : (Jvm.Cond.lays "FanNet$Walk" "FanNet$Walk" "wantedWires" "I") ∈ am_big := am_t1 (List.mem_of_getElem? (i := 165) rfl) rfl
theorem w1_167 : (Jvm.Cond.lays "FanNet$Walk" "FanNet$Walk" "read" "Z") ∈ am_big := am_t1 (List.mem_of_getElem? (i := 167) rfl) rfl
theorem w2_150 : (Jvm.Cond.laysFinal "FanNet" "FanNet" "tape" "LFanNet$Row;") ∈ am_big := am_t2 (List.mem_of_getElem? (i := 150) rfl) rfl
theorem w2_152 : (Jvm.Cond.laysFinal "FanNet" "FanNet" "text" "LFanNet$Text;") ∈ am_big := am_t2 (List.mem_of_getElem? (i := 152) rfl) rfl
theorem w2_154 : (Jvm.Cond.laysFinal "FanNet" "FanNet" "walk" "LFanNet$Walk;") ∈ am_big := am_t2 (List.mem_of_getElem? (i := 154) rfl) rfl
theorem w2_156 : (Jvm.Cond.laysFinal "FanNet" "FanNet" "plainly" "LFanNet$Plainly;") ∈ am_big := am_t2 (List.mem_of_getElem? (i := 156) rfl) rfl
theorem w2_158 : (Jvm.Cond.laysFinal "FanNet" "FanNet" "teller" "LFanNet$Teller;") ∈ am_big := am_t2 (List.mem_of_getElem? (i := 158) rfl) rfl
theorem w2_160 : (Jvm.Cond.laysFinal "FanNet" "FanNet" "toldTerm" "LFanNet$Row;") ∈ am_big := am_t2 (List.mem_of_getElem? (i := 160) rfl) rfl
theorem w2_162 : (Jvm.Cond.laysFinal "FanNet" "FanNet" "newTerm" "LFanNet$Row;") ∈ am_big := am_t2 (List.mem_of_getElem? (i := 162) rfl) rfl
theorem w2_164 : (Jvm.Cond.laysFinal "FanNet" "FanNet" "plainTerm" "LFanNet$Row;") ∈ am_big := am_t2 (List.mem_of_getElem? (i := 164) rfl) rfl
theorem w2_166 : (Jvm.Cond.laysFinal "FanNet" "FanNet" "stepsByKind" "LFanNet$Row;") ∈ am_big := am_t2 (List.mem_of_getElem? (i := 166) rfl) rfl
theorem w2_168 : (Jvm.Cond.laysFinal "FanNet" "FanNet" "trials" "LFanNet$Row;") ∈ am_big := am_t2 (List.mem_of_getElem? (i := 168) rfl) rfl
theorem w2_170 : (Jvm.Cond.lays "FanNet" "FanNet" "net" "LFanNet$Net;") ∈ am_big := am_t2 (List.mem_of_getElem? (i := 170) rfl) rfl
theorem w2_172 : (Jvm.Cond.lays "FanNet" "FanNet" "spare" "LFanNet$Net;") ∈ am_big := am_t2 (List.mem_of_getElem? (i := 172) rfl) rfl
theorem w2_174 : (Jvm.Cond.laysFinal "FanNet" "FanNet" "layer" "LFanNet$Layer;") ∈ am_big := am_t2 (List.mem_of_getElem? (i := 174) rfl) rfl
theorem w2_176 : (Jvm.Cond.lays "FanNet" "FanNet" "faultPlace" "I") ∈ am_big := am_t2 (List.mem_of_getElem? (i := 176) rfl) rfl
theorem w2_178 : (Jvm.Cond.lays "FanNet" "FanNet" "mostNodes" "I") ∈ am_big := am_t2 (List.mem_of_getElem? (i := 178) rfl) rfl
theorem w2_180 : (Jvm.Cond.lays "FanNet" "FanNet" "plainRounds" "I") ∈ am_big := am_t2 (List.mem_of_getElem? (i := 180) rfl) rfl
theorem w2_182 : (Jvm.Cond.lays "FanNet" "FanNet" "plainKnown" "Z") ∈ am_big := am_t2 (List.mem_of_getElem? (i := 182) rfl) rfl
theorem w2_184 : (Jvm.Cond.lays "FanNet" "FanNet" "readKnown" "Z") ∈ am_big := am_t2 (List.mem_of_getElem? (i := 184) rfl) rfl
theorem w6_37 : (Jvm.Cond.lays "FanNetModel" "FanNetModel" "thrown" "I") ∈ am_big := am_t6 (List.mem_of_getElem? (i := 37) rfl) rfl
theorem w6_39 : (Jvm.Cond.laysFinal "FanNetModel" "FanNetModel" "terms" "[I") ∈ am_big := am_t6 (List.mem_of_getElem? (i := 39) rfl) rfl
theorem w6_41 : (Jvm.Cond.laysFinal "FanNetModel" "FanNetModel" "termMany" "[I") ∈ am_big := am_t6 (List.mem_of_getElem? (i := 41) rfl) rfl
theorem w6_43 : (Jvm.Cond.laysFinal "FanNetModel" "FanNetModel" "tape" "[I") ∈ am_big := am_t6 (List.mem_of_getElem? (i := 43) rfl) rfl
theorem w6_45 : (Jvm.Cond.lays "FanNetModel" "FanNetModel" "taped" "I") ∈ am_big := am_t6 (List.mem_of_getElem? (i := 45) rfl) rfl
theorem w6_47 : (Jvm.Cond.lays "FanNetModel" "FanNetModel" "faultPlace" "I") ∈ am_big := am_t6 (List.mem_of_getElem? (i := 47) rfl) rfl
theorem w6_49 : (Jvm.Cond.lays "FanNetModel" "FanNetModel" "fault" "I") ∈ am_big := am_t6 (List.mem_of_getElem? (i := 49) rfl) rfl
theorem w6_51 : (Jvm.Cond.lays "FanNetModel" "FanNetModel" "size" "I") ∈ am_big := am_t6 (List.mem_of_getElem? (i := 51) rfl) rfl
theorem w6_53 : (Jvm.Cond.lays "FanNetModel" "FanNetModel" "at" "I") ∈ am_big := am_t6 (List.mem_of_getElem? (i := 53) rfl) rfl
theorem w6_55 : (Jvm.Cond.lays "FanNetModel" "FanNetModel" "token" "I") ∈ am_big := am_t6 (List.mem_of_getElem? (i := 55) rfl) rfl
theorem w6_57 : (Jvm.Cond.lays "FanNetModel" "FanNetModel" "place" "I") ∈ am_big := am_t6 (List.mem_of_getElem? (i := 57) rfl) rfl
theorem w6_59 : (Jvm.Cond.lays "FanNetModel" "FanNetModel" "value" "I") ∈ am_big := am_t6 (List.mem_of_getElem? (i := 59) rfl) rfl
theorem w6_61 : (Jvm.Cond.lays "FanNetModel" "FanNetModel" "digits" "I") ∈ am_big := am_t6 (List.mem_of_getElem? (i := 61) rfl) rfl
theorem w6_63 : (Jvm.Cond.lays "FanNetModel" "FanNetModel" "word" "J") ∈ am_big := am_t6 (List.mem_of_getElem? (i := 63) rfl) rfl
theorem w6_65 : (Jvm.Cond.lays "FanNetModel" "FanNetModel" "letters" "I") ∈ am_big := am_t6 (List.mem_of_getElem? (i := 65) rfl) rfl
theorem w6_67 : (Jvm.Cond.laysFinal "FanNetModel" "FanNetModel" "names" "[J") ∈ am_big := am_t6 (List.mem_of_getElem? (i := 67) rfl) rfl
theorem w6_69 : (Jvm.Cond.laysFinal "FanNetModel" "FanNetModel" "nameParts" "[I") ∈ am_big := am_t6 (List.mem_of_getElem? (i := 69) rfl) rfl
theorem w6_71 : (Jvm.Cond.laysFinal "FanNetModel" "FanNetModel" "nameMany" "[I") ∈ am_big := am_t6 (List.mem_of_getElem? (i := 71) rfl) rfl
theorem w6_73 : (Jvm.Cond.lays "FanNetModel" "FanNetModel" "nameCount" "I") ∈ am_big := am_t6 (List.mem_of_getElem? (i := 73) rfl) rfl
theorem w6_75 : (Jvm.Cond.laysFinal "FanNetModel" "FanNetModel" "bound" "[J") ∈ am_big := am_t6 (List.mem_of_getElem? (i := 75) rfl) rfl
theorem w6_77 : (Jvm.Cond.lays "FanNetModel" "FanNetModel" "boundMany" "I") ∈ am_big := am_t6 (List.mem_of_getElem? (i := 77) rfl) rfl
theorem w6_79 : (Jvm.Cond.lays "FanNetModel" "FanNetModel" "opened" "I") ∈ am_big := am_t6 (List.mem_of_getElem? (i := 79) rfl) rfl
theorem w6_81 : (Jvm.Cond.laysFinal "FanNetModel" "FanNetModel" "reading" "[I") ∈ am_big := am_t6 (List.mem_of_getElem? (i := 81) rfl) rfl
theorem w6_83 : (Jvm.Cond.lays "FanNetModel" "FanNetModel" "readMany" "I") ∈ am_big := am_t6 (List.mem_of_getElem? (i := 83) rfl) rfl
theorem w6_85 : (Jvm.Cond.laysFinal "FanNetModel" "FanNetModel" "kind" "[I") ∈ am_big := am_t6 (List.mem_of_getElem? (i := 85) rfl) rfl
theorem w6_87 : (Jvm.Cond.laysFinal "FanNetModel" "FanNetModel" "level" "[I") ∈ am_big := am_t6 (List.mem_of_getElem? (i := 87) rfl) rfl
theorem w6_89 : (Jvm.Cond.laysFinal "FanNetModel" "FanNetModel" "wire" "[I") ∈ am_big := am_t6 (List.mem_of_getElem? (i := 89) rfl) rfl
theorem w6_91 : (Jvm.Cond.lays "FanNetModel" "FanNetModel" "nodes" "I") ∈ am_big := am_t6 (List.mem_of_getElem? (i := 91) rfl) rfl
theorem w6_93 : (Jvm.Cond.lays "FanNetModel" "FanNetModel" "beyond" "I") ∈ am_big := am_t6 (List.mem_of_getElem? (i := 93) rfl) rfl
theorem w6_95 : (Jvm.Cond.laysFinal "FanNetModel" "FanNetModel" "ends" "[I") ∈ am_big := am_t6 (List.mem_of_getElem? (i := 95) rfl) rfl
theorem w6_97 : (Jvm.Cond.lays "FanNetModel" "FanNetModel" "termAt" "I") ∈ am_big := am_t6 (List.mem_of_getElem? (i := 97) rfl) rfl
theorem w6_99 : (Jvm.Cond.laysFinal "FanNetModel" "FanNetModel" "stepsOf" "[I") ∈ am_big := am_t6 (List.mem_of_getElem? (i := 99) rfl) rfl
theorem w6_101 : (Jvm.Cond.lays "FanNetModel" "FanNetModel" "mostNodes" "I") ∈ am_big := am_t6 (List.mem_of_getElem? (i := 101) rfl) rfl
theorem w6_103 : (Jvm.Cond.laysFinal "FanNetModel" "FanNetModel" "oldKind" "[I") ∈ am_big := am_t6 (List.mem_of_getElem? (i := 103) rfl) rfl
theorem w6_105 : (Jvm.Cond.laysFinal "FanNetModel" "FanNetModel" "oldLevel" "[I") ∈ am_big := am_t6 (List.mem_of_getElem? (i := 105) rfl) rfl
theorem w6_107 : (Jvm.Cond.laysFinal "FanNetModel" "FanNetModel" "oldWire" "[I") ∈ am_big := am_t6 (List.mem_of_getElem? (i := 107) rfl) rfl
theorem w6_109 : (Jvm.Cond.lays "FanNetModel" "FanNetModel" "oldNodes" "I") ∈ am_big := am_t6 (List.mem_of_getElem? (i := 109) rfl) rfl
theorem w6_111 : (Jvm.Cond.lays "FanNetModel" "FanNetModel" "oldBeyond" "I") ∈ am_big := am_t6 (List.mem_of_getElem? (i := 111) rfl) rfl
theorem w6_113 : (Jvm.Cond.lays "FanNetModel" "FanNetModel" "oldMany" "I") ∈ am_big := am_t6 (List.mem_of_getElem? (i := 113) rfl) rfl
theorem w6_115 : (Jvm.Cond.laysFinal "FanNetModel" "FanNetModel" "oldTerm" "[I") ∈ am_big := am_t6 (List.mem_of_getElem? (i := 115) rfl) rfl
theorem w6_117 : (Jvm.Cond.laysFinal "FanNetModel" "FanNetModel" "copies" "[I") ∈ am_big := am_t6 (List.mem_of_getElem? (i := 117) rfl) rfl
theorem w6_119 : (Jvm.Cond.laysFinal "FanNetModel" "FanNetModel" "passed" "[I") ∈ am_big := am_t6 (List.mem_of_getElem? (i := 119) rfl) rfl
theorem w6_121 : (Jvm.Cond.laysFinal "FanNetModel" "FanNetModel" "tried" "[I") ∈ am_big := am_t6 (List.mem_of_getElem? (i := 121) rfl) rfl
theorem w6_123 : (Jvm.Cond.laysFinal "FanNetModel" "FanNetModel" "thingSign" "[I") ∈ am_big := am_t6 (List.mem_of_getElem? (i := 123) rfl) rfl
theorem w6_125 : (Jvm.Cond.laysFinal "FanNetModel" "FanNetModel" "thingOf" "[I") ∈ am_big := am_t6 (List.mem_of_getElem? (i := 125) rfl) rfl
theorem w6_127 : (Jvm.Cond.laysFinal "FanNetModel" "FanNetModel" "thingOther" "[I") ∈ am_big := am_t6 (List.mem_of_getElem? (i := 127) rfl) rfl
theorem w6_129 : (Jvm.Cond.laysFinal "FanNetModel" "FanNetModel" "nextThing" "[I") ∈ am_big := am_t6 (List.mem_of_getElem? (i := 129) rfl) rfl
theorem w6_131 : (Jvm.Cond.laysFinal "FanNetModel" "FanNetModel" "firstThing" "[I") ∈ am_big := am_t6 (List.mem_of_getElem? (i := 131) rfl) rfl
theorem w6_133 : (Jvm.Cond.lays "FanNetModel" "FanNetModel" "things" "I") ∈ am_big := am_t6 (List.mem_of_getElem? (i := 133) rfl) rfl
theorem w6_135 : (Jvm.Cond.laysFinal "FanNetModel" "FanNetModel" "stacks" "[I") ∈ am_big := am_t6 (List.mem_of_getElem? (i := 135) rfl) rfl
theorem w6_137 : (Jvm.Cond.lays "FanNetModel" "FanNetModel" "stackMany" "I") ∈ am_big := am_t6 (List.mem_of_getElem? (i := 137) rfl) rfl
theorem w6_139 : (Jvm.Cond.laysFinal "FanNetModel" "FanNetModel" "waitNode" "[I") ∈ am_big := am_t6 (List.mem_of_getElem? (i := 139) rfl) rfl
theorem w6_141 : (Jvm.Cond.laysFinal "FanNetModel" "FanNetModel" "waitAround" "[I") ∈ am_big := am_t6 (List.mem_of_getElem? (i := 141) rfl) rfl
theorem w6_143 : (Jvm.Cond.laysFinal "FanNetModel" "FanNetModel" "waitFrom" "[I") ∈ am_big := am_t6 (List.mem_of_getElem? (i := 143) rfl) rfl
theorem w6_145 : (Jvm.Cond.laysFinal "FanNetModel" "FanNetModel" "waitMany" "[I") ∈ am_big := am_t6 (List.mem_of_getElem? (i := 145) rfl) rfl
theorem w6_147 : (Jvm.Cond.lays "FanNetModel" "FanNetModel" "waiting" "I") ∈ am_big := am_t6 (List.mem_of_getElem? (i := 147) rfl) rfl
theorem w6_149 : (Jvm.Cond.laysFinal "FanNetModel" "FanNetModel" "aroundNode" "[I") ∈ am_big := am_t6 (List.mem_of_getElem? (i := 149) rfl) rfl
theorem w6_151 : (Jvm.Cond.laysFinal "FanNetModel" "FanNetModel" "aroundFrom" "[I") ∈ am_big := am_t6 (List.mem_of_getElem? (i := 151) rfl) rfl
theorem w6_153 : (Jvm.Cond.laysFinal "FanNetModel" "FanNetModel" "aroundMany" "[I") ∈ am_big := am_t6 (List.mem_of_getElem? (i := 153) rfl) rfl
theorem w6_155 : (Jvm.Cond.lays "FanNetModel" "FanNetModel" "around" "I") ∈ am_big := am_t6 (List.mem_of_getElem? (i := 155) rfl) rfl
theorem w6_157 : (Jvm.Cond.laysFinal "FanNetModel" "FanNetModel" "keptWaiting" "[I") ∈ am_big := am_t6 (List.mem_of_getElem? (i := 157) rfl) rfl
theorem w6_159 : (Jvm.Cond.laysFinal "FanNetModel" "FanNetModel" "keptAround" "[I") ∈ am_big := am_t6 (List.mem_of_getElem? (i := 159) rfl) rfl
theorem w6_161 : (Jvm.Cond.lays "FanNetModel" "FanNetModel" "walked" "I") ∈ am_big := am_t6 (List.mem_of_getElem? (i := 161) rfl) rfl
theorem w6_163 : (Jvm.Cond.lays "FanNetModel" "FanNetModel" "wantedNode" "I") ∈ am_big := am_t6 (List.mem_of_getElem? (i := 163) rfl) rfl
theorem w6_165 : (Jvm.Cond.lays "FanNetModel" "FanNetModel" "wantedAt" "I") ∈ am_big := am_t6 (List.mem_of_getElem? (i := 165) rfl) rfl
theorem w6_167 : (Jvm.Cond.lays "FanNetModel" "FanNetModel" "isRead" "Z") ∈ am_big := am_t6 (List.mem_of_getElem? (i := 167) rfl) rfl
theorem w6_169 : (Jvm.Cond.laysFinal "FanNetModel" "FanNetModel" "made" "[I") ∈ am_big := am_t6 (List.mem_of_getElem? (i := 169) rfl) rfl
theorem w6_171 : (Jvm.Cond.lays "FanNetModel" "FanNetModel" "madeMany" "I") ∈ am_big := am_t6 (List.mem_of_getElem? (i := 171) rfl) rfl
theorem w6_173 : (Jvm.Cond.laysFinal "FanNetModel" "FanNetModel" "depthEnds" "[I") ∈ am_big := am_t6 (List.mem_of_getElem? (i := 173) rfl) rfl
theorem w6_175 : (Jvm.Cond.laysFinal "FanNetModel" "FanNetModel" "bodyEnds" "[I") ∈ am_big := am_t6 (List.mem_of_getElem? (i := 175) rfl) rfl
theorem w6_177 : (Jvm.Cond.lays "FanNetModel" "FanNetModel" "rounds" "I") ∈ am_big := am_t6 (List.mem_of_getElem? (i := 177) rfl) rfl
theorem w6_179 : (Jvm.Cond.lays "FanNetModel" "FanNetModel" "isPlain" "Z") ∈ am_big := am_t6 (List.mem_of_getElem? (i := 179) rfl) rfl
theorem w6_181 : (Jvm.Cond.laysFinal "FanNetModel" "FanNetModel" "said" "[B") ∈ am_big := am_t6 (List.mem_of_getElem? (i := 181) rfl) rfl
theorem w6_183 : (Jvm.Cond.lays "FanNetModel" "FanNetModel" "saidMany" "I") ∈ am_big := am_t6 (List.mem_of_getElem? (i := 183) rfl) rfl
theorem w6_185 : (Jvm.Cond.laysFinal "FanNetModel" "FanNetModel" "toSay" "[I") ∈ am_big := am_t6 (List.mem_of_getElem? (i := 185) rfl) rfl
theorem w6_187 : (Jvm.Cond.lays "FanNetModel" "FanNetModel" "toSayMany" "I") ∈ am_big := am_t6 (List.mem_of_getElem? (i := 187) rfl) rfl
theorem nX0 : ∀ w ∈ wsX00, w ∈ am_big := by
  intro w hw
  obtain ⟨k, hk, rfl⟩ := List.mem_map.mp hw
  have hk := List.mem_range.mp hk
  match k, hk with
  | 0, _ => exact w2_22
  | 1, _ => exact w2_24
  | 2, _ => exact w2_26
  | 3, _ => exact w2_28
  | 4, _ => exact w2_30
  | n + 5, hk => exact absurd hk (by omega)
theorem nX1 : ∀ w ∈ wsX10, w ∈ am_big := by
  intro w hw
  obtain ⟨k, hk, rfl⟩ := List.mem_map.mp hw
  have hk := List.mem_range.mp hk
  match k, hk with
  | 0, _ => exact w1_232
  | 1, _ => exact w1_234
  | 2, _ => exact w1_236
  | 3, _ => exact w1_238
  | 4, _ => exact w2_0
  | 5, _ => exact w2_2
  | 6, _ => exact w2_4
  | 7, _ => exact w2_6
  | n + 8, hk => exact absurd hk (by omega)
theorem nX2 : ∀ w ∈ wsX20, w ∈ am_big := by
  intro w hw
  obtain ⟨k, hk, rfl⟩ := List.mem_map.mp hw
  have hk := List.mem_range.mp hk
  match k, hk with
  | 0, _ => exact w1_184
  | 1, _ => exact w1_186
  | 2, _ => exact w1_188
  | 3, _ => exact w1_190
  | 4, _ => exact w1_192
  | 5, _ => exact w1_194
  | n + 6, hk => exact absurd hk (by omega)
theorem nX3 : ∀ w ∈ wsX30, w ∈ am_big := by
  intro w hw
  obtain ⟨k, hk, rfl⟩ := List.mem_map.mp hw
  have hk := List.mem_range.mp hk
  match k, hk with
  | 0, _ => exact w1_43
  | 1, _ => exact w1_45
  | 2, _ => exact w1_47
  | n + 3, hk => exact absurd hk (by omega)
theorem nX4 : ∀ w ∈ wsX40, w ∈ am_big := by
  intro w hw
  obtain ⟨k, hk, rfl⟩ := List.mem_map.mp hw
  have hk := List.mem_range.mp hk
  match k, hk with
  | 0, _ => exact w1_132
  | 1, _ => exact w1_134
  | 2, _ => exact w1_136
  | n + 3, hk => exact absurd hk (by omega)
theorem nX5 : ∀ w ∈ wsX50, w ∈ am_big := by
  intro w hw
  obtain ⟨k, hk, rfl⟩ := List.mem_map.mp hw
  have hk := List.mem_range.mp hk
  match k, hk with
  | 0, _ => exact w1_207
  | 1, _ => exact w1_209
  | n + 2, hk => exact absurd hk (by omega)
theorem nX6 : ∀ w ∈ wsX60, w ∈ am_big := by
  intro w hw
  obtain ⟨k, hk, rfl⟩ := List.mem_map.mp hw
  have hk := List.mem_range.mp hk
  match k, hk with
  | 0, _ => exact w1_90
  | 1, _ => exact w1_92
  | 2, _ => exact w1_94
  | 3, _ => exact w1_96
  | 4, _ => exact w1_98
  | 5, _ => exact w1_100
  | 6, _ => exact w1_102
  | 7, _ => exact w1_104
  | 8, _ => exact w1_106
  | 9, _ => exact w1_108
  | 10, _ => exact w1_110
  | 11, _ => exact w1_112
  | n + 12, hk => exact absurd hk (by omega)
theorem nX7 : ∀ w ∈ wsX70, w ∈ am_big := by
  intro w hw
  obtain ⟨k, hk, rfl⟩ := List.mem_map.mp hw
  have hk := List.mem_range.mp hk
  match k, hk with
  | 0, _ => exact w1_69
  | 1, _ => exact w1_71
  | 2, _ => exact w1_73
  | 3, _ => exact w1_75
  | n + 4, hk => exact absurd hk (by omega)
theorem nX8 : ∀ w ∈ wsX80, w ∈ am_big := by
  intro w hw
  obtain ⟨k, hk, rfl⟩ := List.mem_map.mp hw
  have hk := List.mem_range.mp hk
  match k, hk with
  | 0, _ => exact w1_151
  | 1, _ => exact w1_153
  | 2, _ => exact w1_155
  | 3, _ => exact w1_157
  | 4, _ => exact w1_159
  | 5, _ => exact w1_161
  | 6, _ => exact w1_163
  | 7, _ => exact w1_165
  | 8, _ => exact w1_167
  | n + 9, hk => exact absurd hk (by omega)
theorem nX9 : ∀ w ∈ wsX90, w ∈ am_big := by
  intro w hw
  obtain ⟨k, hk, rfl⟩ := List.mem_map.mp hw
  have hk := List.mem_range.mp hk
  match k, hk with
  | 0, _ => exact w2_150
  | 1, _ => exact w2_152
  | 2, _ => exact w2_154
  | 3, _ => exact w2_156
  | 4, _ => exact w2_158
  | 5, _ => exact w2_160
  | 6, _ => exact w2_162
  | 7, _ => exact w2_164
  | 8, _ => exact w2_166
  | 9, _ => exact w2_168
  | 10, _ => exact w2_170
  | 11, _ => exact w2_172
  | 12, _ => exact w2_174
  | 13, _ => exact w2_176
  | 14, _ => exact w2_178
  | 15, _ => exact w2_180
  | 16, _ => exact w2_182
  | 17, _ => exact w2_184
  | n + 18, hk => exact absurd hk (by omega)
theorem nX10 : ∀ w ∈ wsX100, w ∈ am_big := by
  intro w hw
  obtain ⟨k, hk, rfl⟩ := List.mem_map.mp hw
  have hk := List.mem_range.mp hk
  match k, hk with
  | 0, _ => exact w6_37
  | 1, _ => exact w6_39
  | 2, _ => exact w6_41
  | 3, _ => exact w6_43
  | 4, _ => exact w6_45
  | 5, _ => exact w6_47
  | 6, _ => exact w6_49
  | 7, _ => exact w6_51
  | 8, _ => exact w6_53
  | 9, _ => exact w6_55
  | 10, _ => exact w6_57
  | 11, _ => exact w6_59
  | 12, _ => exact w6_61
  | 13, _ => exact w6_63
  | 14, _ => exact w6_65
  | 15, _ => exact w6_67
  | 16, _ => exact w6_69
  | 17, _ => exact w6_71
  | 18, _ => exact w6_73
  | 19, _ => exact w6_75
  | 20, _ => exact w6_77
  | 21, _ => exact w6_79
  | 22, _ => exact w6_81
  | 23, _ => exact w6_83
  | 24, _ => exact w6_85
  | 25, _ => exact w6_87
  | 26, _ => exact w6_89
  | 27, _ => exact w6_91
  | 28, _ => exact w6_93
  | 29, _ => exact w6_95
  | 30, _ => exact w6_97
  | 31, _ => exact w6_99
  | 32, _ => exact w6_101
  | 33, _ => exact w6_103
  | 34, _ => exact w6_105
  | 35, _ => exact w6_107
  | 36, _ => exact w6_109
  | 37, _ => exact w6_111
  | 38, _ => exact w6_113
  | 39, _ => exact w6_115
  | 40, _ => exact w6_117
  | 41, _ => exact w6_119
  | 42, _ => exact w6_121
  | 43, _ => exact w6_123
  | 44, _ => exact w6_125
  | 45, _ => exact w6_127
  | 46, _ => exact w6_129
  | 47, _ => exact w6_131
  | 48, _ => exact w6_133
  | 49, _ => exact w6_135
  | 50, _ => exact w6_137
  | 51, _ => exact w6_139
  | 52, _ => exact w6_141
  | 53, _ => exact w6_143
  | 54, _ => exact w6_145
  | 55, _ => exact w6_147
  | 56, _ => exact w6_149
  | 57, _ => exact w6_151
  | 58, _ => exact w6_153
  | 59, _ => exact w6_155
  | 60, _ => exact w6_157
  | 61, _ => exact w6_159
  | 62, _ => exact w6_161
  | 63, _ => exact w6_163
  | 64, _ => exact w6_165
  | 65, _ => exact w6_167
  | 66, _ => exact w6_169
  | 67, _ => exact w6_171
  | 68, _ => exact w6_173
  | 69, _ => exact w6_175
  | 70, _ => exact w6_177
  | 71, _ => exact w6_179
  | 72, _ => exact w6_181
  | 73, _ => exact w6_183
  | 74, _ => exact w6_185
  | 75, _ => exact w6_187
  | n + 76, hk => exact absurd hk (by omega)
