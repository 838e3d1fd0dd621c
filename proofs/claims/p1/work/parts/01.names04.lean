def wsL_same_r2 : List Cond := [Cond.fieldLink RX9 54 "FanNet" "plainTerm" "LFanNet$Row;", Cond.fieldLink RX9 89 "FanNet" "plainRounds" "I", Cond.methodLink RX9 272 yX8_go, Cond.instanceMethod yX8_go, Cond.selects RX8 yX8_go yX8_go, Cond.initialized RX8, Cond.code yX8_go cX8_go 5 none, Cond.fieldLink RX8 12 "FanNet$Walk" "stacks" "LFanNet$Stacks;", Cond.fieldLink RX8 23 "FanNet$Walk" "term" "LFanNet$Row;", Cond.fieldLink RX8 27 "FanNet$Walk" "waiting" "LFanNet$Row;", Cond.fieldLink RX8 30 "FanNet$Walk" "functions" "LFanNet$Row;", Cond.fieldLink RX8 34 "FanNet$Walk" "stacksThen" "LFanNet$Row;", Cond.fieldLink RX8 37 "FanNet$Walk" "wires" "I", Cond.fieldLink RX8 41 "FanNet$Walk" "wantedNode" "I", Cond.fieldLink RX8 44 "FanNet$Walk" "wantedWires" "I", Cond.fieldLink RX8 47 "FanNet$Walk" "read" "Z", Cond.methodLink RX8 51 yX4_clear, Cond.instanceMethod yX4_clear, Cond.selects RX4 yX4_clear yX4_clear, Cond.initialized RX4, Cond.code yX4_clear cX4_clear 1 none, Cond.fieldLink RX4 16 "FanNet$Stacks" "levels" "LFanNet$Row;", Cond.fieldLink RX4 23 "FanNet$Stacks" "trail" "LFanNet$Row;", Cond.fieldLink RX4 20 "FanNet$Stacks" "cells" "LFanNet$Row;"]
def wsL_same_r3 : List Cond := [Cond.methodLink RX4 26 yX3_cut, Cond.instanceMethod yX3_cut, Cond.selects RX3 yX3_cut yX3_cut, Cond.initialized RX3, Cond.code yX3_cut cX3_cut 2 none, Cond.fieldLink RX3 26 "FanNet$Row" "size" "I", Cond.methodLink RX4 30 yX3_fill, Cond.instanceMethod yX3_fill, Cond.selects RX3 yX3_fill yX3_fill, Cond.code yX3_fill cX3_fill 4 none, Cond.fieldLink RX3 22 "FanNet$Row" "items" "[I", Cond.methodLink RX8 54 yX3_cut, Cond.methodLink RX8 58 yX1_wire, Cond.instanceMethod yX1_wire, Cond.selects RX1 yX1_wire yX1_wire, Cond.initialized RX1, Cond.code yX1_wire cX1_wire 2 (some .int), Cond.fieldLink RX1 23 "FanNet$Net" "wires" "LFanNet$Row;", Cond.methodLink RX1 50 yX3_get, Cond.instanceMethod yX3_get, Cond.selects RX3 yX3_get yX3_get, Cond.code yX3_get cX3_get 2 (some .int), Cond.methodLink RX8 64 yX8_lookWhetherWanted, Cond.instanceMethod yX8_lookWhetherWanted]
def wsL_same_r4 : List Cond := [Cond.selects RX8 yX8_lookWhetherWanted yX8_lookWhetherWanted, Cond.code yX8_lookWhetherWanted cX8_lookWhetherWanted 4 none, Cond.methodLink RX8 71 Lib.Math.min.name, Cond.static Lib.Math.min.name, Cond.initialized "java/lang/Math", Cond.code Lib.Math.min.name Lib.Math.min.code 2 (some .int), Cond.methodLink RX8 67 yX8_pass, Cond.instanceMethod yX8_pass, Cond.selects RX8 yX8_pass yX8_pass, Cond.code yX8_pass cX8_pass 7 (some .int), Cond.methodLink RX8 77 yX1_level, Cond.instanceMethod yX1_level, Cond.selects RX1 yX1_level yX1_level, Cond.code yX1_level cX1_level 2 (some .int), Cond.fieldLink RX1 20 "FanNet$Net" "levels" "LFanNet$Row;", Cond.methodLink RX8 80 yX1_kind, Cond.instanceMethod yX1_kind, Cond.selects RX1 yX1_kind yX1_kind, Cond.code yX1_kind cX1_kind 2 (some .int), Cond.fieldLink RX1 16 "FanNet$Net" "kinds" "LFanNet$Row;", Cond.methodLink RX8 83 yX8_beginFunction, Cond.instanceMethod yX8_beginFunction, Cond.selects RX8 yX8_beginFunction yX8_beginFunction, Cond.code yX8_beginFunction cX8_beginFunction 4 (some .boolean)]
def wsL_same_r5 : List Cond := [Cond.methodLink RX8 116 yX3_add, Cond.instanceMethod yX3_add, Cond.selects RX3 yX3_add yX3_add, Cond.code yX3_add cX3_add 2 (some .boolean), Cond.fieldLink RX3 7 "FanNet$Row" "most" "I", Cond.methodLink RX3 13 Lib.Math.min.name, Cond.methodLink RX3 29 yJ7_copyOf_59c91, Cond.static yJ7_copyOf_59c91, Cond.initialized RJ7, Cond.code yJ7_copyOf_59c91 cJ7_copyOf_59c91 3 (some (.array .int)), Cond.methodLink RJ7 316 ⟨"[I", "clone", "()Ljava/lang/Object;"⟩, Cond.sameMethod "[I" "java/lang/Object" "clone" "()Ljava/lang/Object;", Cond.native ⟨"java/lang/Object", "clone", "()Ljava/lang/Object;"⟩, Cond.instanceMethod ⟨"java/lang/Object", "clone", "()Ljava/lang/Object;"⟩, Cond.selects "[I" ⟨"[I", "clone", "()Ljava/lang/Object;"⟩ ⟨"java/lang/Object", "clone", "()Ljava/lang/Object;"⟩, Cond.classLink RJ7 317 "[I", Cond.arrayClass .int, Cond.methodLink RJ7 304 Lib.Math.min.name, Cond.methodLink RJ7 150 arraycopyName, Cond.native arraycopyName, Cond.static arraycopyName, Cond.initialized "java/lang/System", Cond.methodLink RX8 119 yX3_size, Cond.instanceMethod yX3_size]
def wsL_same_r6 : List Cond := [Cond.selects RX3 yX3_size yX3_size, Cond.code yX3_size cX3_size 1 (some .int), Cond.methodLink RX8 122 yX4_at, Cond.instanceMethod yX4_at, Cond.selects RX4 yX4_at yX4_at, Cond.code yX4_at cX4_at 2 (some .int), Cond.methodLink RX4 33 yX3_get, Cond.methodLink RX8 87 yX8_readVariable, Cond.instanceMethod yX8_readVariable, Cond.selects RX8 yX8_readVariable yX8_readVariable, Cond.code yX8_readVariable cX8_readVariable 4 (some .boolean), Cond.methodLink RX8 128 yX3_get, Cond.methodLink RX8 131 yX8_isAsThen, Cond.instanceMethod yX8_isAsThen, Cond.selects RX8 yX8_isAsThen yX8_isAsThen, Cond.code yX8_isAsThen cX8_isAsThen 4 (some .boolean), Cond.methodLink RX8 90 yX8_nextArgument, Cond.instanceMethod yX8_nextArgument, Cond.selects RX8 yX8_nextArgument yX8_nextArgument, Cond.code yX8_nextArgument cX8_nextArgument 1 (some .int), Cond.methodLink RX8 134 yX3_takeLast, Cond.instanceMethod yX3_takeLast, Cond.selects RX3 yX3_takeLast yX3_takeLast, Cond.code yX3_takeLast cX3_takeLast 1 (some .int)]
def wsL_same_r7 : List Cond := [Cond.methodLink RX8 137 yX4_back, Cond.instanceMethod yX4_back, Cond.selects RX4 yX4_back yX4_back, Cond.code yX4_back cX4_back 5 none, Cond.methodLink RX4 50 yX3_size, Cond.methodLink RX4 54 yX3_takeLast, Cond.methodLink RX4 57 yX3_set, Cond.instanceMethod yX3_set, Cond.selects RX3 yX3_set yX3_set, Cond.code yX3_set cX3_set 3 none, Cond.methodLink RX4 58 yX3_insert, Cond.instanceMethod yX3_insert, Cond.selects RX3 yX3_insert yX3_insert, Cond.code yX3_insert cX3_insert 3 none, Cond.methodLink RX3 35 arraycopyName, Cond.methodLink RX4 59 yX3_drop, Cond.instanceMethod yX3_drop, Cond.selects RX3 yX3_drop yX3_drop, Cond.code yX3_drop cX3_drop 2 none, Cond.methodLink RX8 94 yX8_beginApplication, Cond.instanceMethod yX8_beginApplication, Cond.selects RX8 yX8_beginApplication yX8_beginApplication, Cond.code yX8_beginApplication cX8_beginApplication 2 (some .boolean), Cond.methodLink RX8 125 yX4_mark]
def wsL_same_r8 : List Cond := [Cond.instanceMethod yX4_mark, Cond.selects RX4 yX4_mark yX4_mark, Cond.code yX4_mark cX4_mark 1 (some .int), Cond.methodLink RX8 98 yX4_take, Cond.instanceMethod yX4_take, Cond.selects RX4 yX4_take yX4_take, Cond.code yX4_take cX4_take 4 (some .int), Cond.methodLink RX4 41 yX4_set, Cond.instanceMethod yX4_set, Cond.selects RX4 yX4_set yX4_set, Cond.code yX4_set cX4_set 4 none, Cond.methodLink RX4 64 yX4_undoing, Cond.static yX4_undoing, Cond.code yX4_undoing cX4_undoing 3 (some .int), Cond.methodLink RX4 60 yX3_add, Cond.methodLink RX8 101 yX4_put, Cond.instanceMethod yX4_put, Cond.selects RX4 yX4_put yX4_put, Cond.code yX4_put cX4_put 3 none, Cond.methodLink RX4 37 yX4_cell, Cond.instanceMethod yX4_cell, Cond.selects RX4 yX4_cell yX4_cell, Cond.code yX4_cell cX4_cell 7 (some .int), Cond.methodLink RX8 104 yX4_uncouple]
def wsL_same_r9 : List Cond := [Cond.instanceMethod yX4_uncouple, Cond.selects RX4 yX4_uncouple yX4_uncouple, Cond.code yX4_uncouple cX4_uncouple 3 (some .boolean), Cond.methodLink RX4 44 yX4_insert, Cond.instanceMethod yX4_insert, Cond.selects RX4 yX4_insert yX4_insert, Cond.code yX4_insert cX4_insert 4 none, Cond.methodLink RX8 107 yX4_couple, Cond.instanceMethod yX4_couple, Cond.selects RX4 yX4_couple yX4_couple, Cond.code yX4_couple cX4_couple 3 none, Cond.methodLink RX4 47 yX4_drop, Cond.instanceMethod yX4_drop, Cond.selects RX4 yX4_drop yX4_drop, Cond.code yX4_drop cX4_drop 2 none, Cond.methodLink RX8 110 yX4_close, Cond.instanceMethod yX4_close, Cond.selects RX4 yX4_close yX4_close, Cond.code yX4_close cX4_close 2 (some .boolean), Cond.methodLink RX8 113 yX4_open, Cond.instanceMethod yX4_open, Cond.selects RX4 yX4_open yX4_open, Cond.code yX4_open cX4_open 2 none, Cond.methodLink RX9 284 yX8_isRead]
def wsL_same_r10 : List Cond := [Cond.instanceMethod yX8_isRead, Cond.selects RX8 yX8_isRead yX8_isRead, Cond.code yX8_isRead cX8_isRead 1 (some .boolean), Cond.methodLink RX9 287 yX8_term, Cond.instanceMethod yX8_term, Cond.selects RX8 yX8_term yX8_term, Cond.code yX8_term cX8_term 1 (some (.object "FanNet$Row")), Cond.methodLink RX9 233 yX2_workOff, Cond.instanceMethod yX2_workOff, Cond.selects RX2 yX2_workOff yX2_workOff, Cond.initialized RX2, Cond.code yX2_workOff cX2_workOff 7 none, Cond.fieldLink RX2 23 "FanNet$Plainly" "now" "LFanNet$Row;", Cond.fieldLink RX2 29 "FanNet$Plainly" "rounds" "I", Cond.fieldLink RX2 33 "FanNet$Plainly" "tooMany" "Z", Cond.fieldLink RX2 26 "FanNet$Plainly" "next" "LFanNet$Row;", Cond.methodLink RX2 41 yX3_copy, Cond.instanceMethod yX3_copy, Cond.selects RX3 yX3_copy yX3_copy, Cond.code yX3_copy cX3_copy 2 none, Cond.methodLink RX3 19 Lib.Math.max.name, Cond.static Lib.Math.max.name, Cond.code Lib.Math.max.name Lib.Math.max.code 2 (some .int), Cond.methodLink RX2 37 yX2_firstRedex]
def wsL_same_r11 : List Cond := [Cond.instanceMethod yX2_firstRedex, Cond.selects RX2 yX2_firstRedex yX2_firstRedex, Cond.code yX2_firstRedex cX2_firstRedex 2 (some .int), Cond.methodLink RX2 61 yX3_size, Cond.static yX9_isRedex, Cond.code yX9_isRedex cX9_isRedex 2 (some .boolean), Cond.methodLink RX9 110 yX3_size, Cond.methodLink RX9 155 yX3_get, Cond.methodLink RX2 45 yX2_behindTerm, Cond.instanceMethod yX2_behindTerm, Cond.selects RX2 yX2_behindTerm yX2_behindTerm, Cond.code yX2_behindTerm cX2_behindTerm 5 (some .int), Cond.methodLink RX2 68 yX3_get, Cond.methodLink RX2 49 yX3_cut, Cond.methodLink RX2 53 yX2_keep, Cond.instanceMethod yX2_keep, Cond.selects RX2 yX2_keep yX2_keep, Cond.code yX2_keep cX2_keep 4 (some .boolean), Cond.methodLink RX2 71 yX3_add, Cond.methodLink RX2 57 yX2_putIn, Cond.instanceMethod yX2_putIn, Cond.selects RX2 yX2_putIn yX2_putIn, Cond.code yX2_putIn cX2_putIn 8 (some .boolean), Cond.fieldLink RX2 14 "FanNet$Plainly" "depths" "LFanNet$Row;"]
def wsL_same_r12 : List Cond := [Cond.methodLink RX2 75 yX2_putArgument, Cond.instanceMethod yX2_putArgument, Cond.selects RX2 yX2_putArgument yX2_putArgument, Cond.code yX2_putArgument cX2_putArgument 7 (some .boolean), Cond.fieldLink RX2 20 "FanNet$Plainly" "argumentDepths" "LFanNet$Row;", Cond.methodLink RX2 78 yX2_depthBehind, Cond.static yX2_depthBehind, Cond.code yX2_depthBehind cX2_depthBehind 3 (some .int), Cond.methodLink RX2 82 yX3_takeLast, Cond.methodLink RX9 240 yX2_term, Cond.instanceMethod yX2_term, Cond.selects RX2 yX2_term yX2_term, Cond.code yX2_term cX2_term 1 (some (.object "FanNet$Row")), Cond.methodLink RX9 264 yX3_copy, Cond.methodLink RX9 288 yX2_isAtEnd, Cond.instanceMethod yX2_isAtEnd, Cond.selects RX2 yX2_isAtEnd yX2_isAtEnd, Cond.code yX2_isAtEnd cX2_isAtEnd 1 (some .boolean), Cond.methodLink RX9 291 yX2_rounds, Cond.instanceMethod yX2_rounds, Cond.selects RX2 yX2_rounds yX2_rounds, Cond.code yX2_rounds cX2_rounds 1 (some .int), Cond.methodLink RX9 227 yX3_alike, Cond.instanceMethod yX3_alike]
def wsL_same_r13 : List Cond := [Cond.selects RX3 yX3_alike yX3_alike, Cond.code yX3_alike cX3_alike 3 (some .boolean)]
def wsL_same : List Cond := .codeWith yL_same cL_same 5 (some .int) [(0, 17, 20, 13), (0, 17, 24, 25)] :: ((wsL_same_r1 ++ (wsL_same_r2 ++ (wsL_same_r3 ++ (wsL_same_r4 ++ (wsL_same_r5 ++ (wsL_same_r6 ++ (wsL_same_r7 ++ (wsL_same_r8 ++ (wsL_same_r9 ++ (wsL_same_r10 ++ (wsL_same_r11 ++ (wsL_same_r12 ++ wsL_same_r13)))))))))))) ++ wsX90 ++ wsX80 ++ wsX40 ++ wsX30 ++ wsX10 ++ wsX20 ++ (vx_atS RX9 182 "java/util/NoSuchElementException" ["java/lang/RuntimeException", "java/lang/Exception"]).filter goodWord ++ (vx_atS RX9 122 "java/lang/IllegalArgumentException" ["java/lang/RuntimeException", "java/lang/Exception"]).filter goodWord)
def wsL_plain_r1 : List Cond := [Cond.classLink RL 13 "java/lang/IllegalArgumentException", Cond.methodLink RL 46 yX9_plain, Cond.instanceMethod yX9_plain, Cond.selects RX9 yX9_plain yX9_plain, Cond.initialized RX9, Cond.code yX9_plain cX9_plain 2 (some .int), Cond.classLink RX9 118 "java/lang/IllegalArgumentException", Cond.initialized "java/lang/IllegalArgumentException", Cond.fieldLink RX9 37 "FanNet" "plainly" "LFanNet$Plainly;", Cond.fieldLink RX9 48 "FanNet" "toldTerm" "LFanNet$Row;", Cond.methodLink RX9 233 yX2_workOff, Cond.instanceMethod yX2_workOff, Cond.selects RX2 yX2_workOff yX2_workOff, Cond.initialized RX2, Cond.code yX2_workOff cX2_workOff 7 none, Cond.fieldLink RX2 23 "FanNet$Plainly" "now" "LFanNet$Row;", Cond.fieldLink RX2 29 "FanNet$Plainly" "rounds" "I", Cond.fieldLink RX2 33 "FanNet$Plainly" "tooMany" "Z", Cond.fieldLink RX2 26 "FanNet$Plainly" "next" "LFanNet$Row;", Cond.methodLink RX2 41 yX3_copy, Cond.instanceMethod yX3_copy, Cond.selects RX3 yX3_copy yX3_copy, Cond.initialized RX3, Cond.code yX3_copy cX3_copy 2 none]
def wsL_plain_r2 : List Cond := [Cond.fieldLink RX3 26 "FanNet$Row" "size" "I", Cond.fieldLink RX3 7 "FanNet$Row" "most" "I", Cond.fieldLink RX3 22 "FanNet$Row" "items" "[I", Cond.methodLink RX3 19 Lib.Math.max.name, Cond.static Lib.Math.max.name, Cond.initialized "java/lang/Math", Cond.code Lib.Math.max.name Lib.Math.max.code 2 (some .int), Cond.methodLink RX3 13 Lib.Math.min.name, Cond.static Lib.Math.min.name, Cond.code Lib.Math.min.name Lib.Math.min.code 2 (some .int), Cond.methodLink RX3 35 arraycopyName, Cond.native arraycopyName, Cond.static arraycopyName, Cond.initialized "java/lang/System", Cond.methodLink RX3 29 yJ7_copyOf_59c91, Cond.static yJ7_copyOf_59c91, Cond.initialized RJ7, Cond.code yJ7_copyOf_59c91 cJ7_copyOf_59c91 3 (some (.array .int)), Cond.methodLink RJ7 316 ⟨"[I", "clone", "()Ljava/lang/Object;"⟩, Cond.sameMethod "[I" "java/lang/Object" "clone" "()Ljava/lang/Object;", Cond.native ⟨"java/lang/Object", "clone", "()Ljava/lang/Object;"⟩, Cond.instanceMethod ⟨"java/lang/Object", "clone", "()Ljava/lang/Object;"⟩, Cond.selects "[I" ⟨"[I", "clone", "()Ljava/lang/Object;"⟩ ⟨"java/lang/Object", "clone", "()Ljava/lang/Object;"⟩, Cond.classLink RJ7 317 "[I"]
def wsL_plain_r3 : List Cond := [Cond.arrayClass .int, Cond.methodLink RJ7 304 Lib.Math.min.name, Cond.methodLink RJ7 150 arraycopyName, Cond.methodLink RX2 37 yX2_firstRedex, Cond.instanceMethod yX2_firstRedex, Cond.selects RX2 yX2_firstRedex yX2_firstRedex, Cond.code yX2_firstRedex cX2_firstRedex 2 (some .int), Cond.methodLink RX2 61 yX3_size, Cond.instanceMethod yX3_size, Cond.selects RX3 yX3_size yX3_size, Cond.code yX3_size cX3_size 1 (some .int), Cond.static yX9_isRedex, Cond.code yX9_isRedex cX9_isRedex 2 (some .boolean), Cond.methodLink RX9 110 yX3_size, Cond.methodLink RX9 155 yX3_get, Cond.instanceMethod yX3_get, Cond.selects RX3 yX3_get yX3_get, Cond.code yX3_get cX3_get 2 (some .int), Cond.methodLink RX2 45 yX2_behindTerm, Cond.instanceMethod yX2_behindTerm, Cond.selects RX2 yX2_behindTerm yX2_behindTerm, Cond.code yX2_behindTerm cX2_behindTerm 5 (some .int), Cond.methodLink RX2 68 yX3_get, Cond.methodLink RX2 49 yX3_cut]
def wsL_plain_r4 : List Cond := [Cond.instanceMethod yX3_cut, Cond.selects RX3 yX3_cut yX3_cut, Cond.code yX3_cut cX3_cut 2 none, Cond.methodLink RX2 53 yX2_keep, Cond.instanceMethod yX2_keep, Cond.selects RX2 yX2_keep yX2_keep, Cond.code yX2_keep cX2_keep 4 (some .boolean), Cond.methodLink RX2 71 yX3_add, Cond.instanceMethod yX3_add, Cond.selects RX3 yX3_add yX3_add, Cond.code yX3_add cX3_add 2 (some .boolean), Cond.methodLink RX2 57 yX2_putIn, Cond.instanceMethod yX2_putIn, Cond.selects RX2 yX2_putIn yX2_putIn, Cond.code yX2_putIn cX2_putIn 8 (some .boolean), Cond.fieldLink RX2 14 "FanNet$Plainly" "depths" "LFanNet$Row;", Cond.methodLink RX2 75 yX2_putArgument, Cond.instanceMethod yX2_putArgument, Cond.selects RX2 yX2_putArgument yX2_putArgument, Cond.code yX2_putArgument cX2_putArgument 7 (some .boolean), Cond.fieldLink RX2 20 "FanNet$Plainly" "argumentDepths" "LFanNet$Row;", Cond.methodLink RX2 78 yX2_depthBehind, Cond.static yX2_depthBehind, Cond.code yX2_depthBehind cX2_depthBehind 3 (some .int)]
def wsL_plain_r5 : List Cond := [Cond.methodLink RX2 82 yX3_takeLast, Cond.instanceMethod yX3_takeLast, Cond.selects RX3 yX3_takeLast yX3_takeLast, Cond.code yX3_takeLast cX3_takeLast 1 (some .int), Cond.methodLink RX9 237 yX2_tooMany, Cond.instanceMethod yX2_tooMany, Cond.selects RX2 yX2_tooMany yX2_tooMany, Cond.code yX2_tooMany cX2_tooMany 1 (some .boolean), Cond.methodLink RX9 240 yX2_term, Cond.instanceMethod yX2_term, Cond.selects RX2 yX2_term yX2_term, Cond.code yX2_term cX2_term 1 (some (.object "FanNet$Row"))]
def wsL_plain : List Cond := .codeWith yL_plain cL_plain 4 (some .int) [(0, 9, 12, 13)] :: ((wsL_plain_r1 ++ (wsL_plain_r2 ++ (wsL_plain_r3 ++ (wsL_plain_r4 ++ wsL_plain_r5)))) ++ wsX90 ++ wsX20 ++ wsX30 ++ (vx_atS RX9 122 "java/lang/IllegalArgumentException" ["java/lang/RuntimeException", "java/lang/Exception"]).filter goodWord)
def wsL_redexes_r1 : List Cond := [Cond.classLink RL 13 "java/lang/IllegalArgumentException", Cond.classLink RL 25 "java/util/NoSuchElementException", Cond.methodLink RL 49 yX9_redexes, Cond.instanceMethod yX9_redexes, Cond.selects RX9 yX9_redexes yX9_redexes, Cond.initialized RX9, Cond.code yX9_redexes cX9_redexes 5 (some .int), Cond.classLink RX9 178 "java/util/NoSuchElementException", Cond.initialized "java/util/NoSuchElementException", Cond.methodLink RX9 216 yX9_refuseOtherTerms, Cond.static yX9_refuseOtherTerms, Cond.code yX9_refuseOtherTerms cX9_refuseOtherTerms 1 none, Cond.classLink RX9 118 "java/lang/IllegalArgumentException", Cond.initialized "java/lang/IllegalArgumentException", Cond.methodLink RX9 164 yX9_termOf, Cond.instanceMethod yX9_termOf, Cond.selects RX9 yX9_termOf yX9_termOf, Cond.code yX9_termOf cX9_termOf 2 (some (.object "FanNet$Row")), Cond.fieldLink RX9 48 "FanNet" "toldTerm" "LFanNet$Row;", Cond.fieldLink RX9 96 "FanNet" "readKnown" "Z", Cond.fieldLink RX9 30 "FanNet" "walk" "LFanNet$Walk;", Cond.fieldLink RX9 66 "FanNet" "net" "LFanNet$Net;", Cond.fieldLink RX9 92 "FanNet" "plainKnown" "Z", Cond.fieldLink RX9 37 "FanNet" "plainly" "LFanNet$Plainly;"]
def wsL_redexes_r2 : List Cond := [Cond.fieldLink RX9 54 "FanNet" "plainTerm" "LFanNet$Row;", Cond.fieldLink RX9 89 "FanNet" "plainRounds" "I", Cond.methodLink RX9 272 yX8_go, Cond.instanceMethod yX8_go, Cond.selects RX8 yX8_go yX8_go, Cond.initialized RX8, Cond.code yX8_go cX8_go 5 none, Cond.fieldLink RX8 12 "FanNet$Walk" "stacks" "LFanNet$Stacks;", Cond.fieldLink RX8 23 "FanNet$Walk" "term" "LFanNet$Row;", Cond.fieldLink RX8 27 "FanNet$Walk" "waiting" "LFanNet$Row;", Cond.fieldLink RX8 30 "FanNet$Walk" "functions" "LFanNet$Row;", Cond.fieldLink RX8 34 "FanNet$Walk" "stacksThen" "LFanNet$Row;", Cond.fieldLink RX8 37 "FanNet$Walk" "wires" "I", Cond.fieldLink RX8 41 "FanNet$Walk" "wantedNode" "I", Cond.fieldLink RX8 44 "FanNet$Walk" "wantedWires" "I", Cond.fieldLink RX8 47 "FanNet$Walk" "read" "Z", Cond.methodLink RX8 51 yX4_clear, Cond.instanceMethod yX4_clear, Cond.selects RX4 yX4_clear yX4_clear, Cond.initialized RX4, Cond.code yX4_clear cX4_clear 1 none, Cond.fieldLink RX4 16 "FanNet$Stacks" "levels" "LFanNet$Row;", Cond.fieldLink RX4 23 "FanNet$Stacks" "trail" "LFanNet$Row;", Cond.fieldLink RX4 20 "FanNet$Stacks" "cells" "LFanNet$Row;"]
def wsL_redexes_r3 : List Cond := [Cond.methodLink RX4 26 yX3_cut, Cond.instanceMethod yX3_cut, Cond.selects RX3 yX3_cut yX3_cut, Cond.initialized RX3, Cond.code yX3_cut cX3_cut 2 none, Cond.fieldLink RX3 26 "FanNet$Row" "size" "I", Cond.methodLink RX4 30 yX3_fill, Cond.instanceMethod yX3_fill, Cond.selects RX3 yX3_fill yX3_fill, Cond.code yX3_fill cX3_fill 4 none, Cond.fieldLink RX3 22 "FanNet$Row" "items" "[I", Cond.methodLink RX8 54 yX3_cut, Cond.methodLink RX8 58 yX1_wire, Cond.instanceMethod yX1_wire, Cond.selects RX1 yX1_wire yX1_wire, Cond.initialized RX1, Cond.code yX1_wire cX1_wire 2 (some .int), Cond.fieldLink RX1 23 "FanNet$Net" "wires" "LFanNet$Row;", Cond.methodLink RX1 50 yX3_get, Cond.instanceMethod yX3_get, Cond.selects RX3 yX3_get yX3_get, Cond.code yX3_get cX3_get 2 (some .int), Cond.methodLink RX8 64 yX8_lookWhetherWanted, Cond.instanceMethod yX8_lookWhetherWanted]
def wsL_redexes_r4 : List Cond := [Cond.selects RX8 yX8_lookWhetherWanted yX8_lookWhetherWanted, Cond.code yX8_lookWhetherWanted cX8_lookWhetherWanted 4 none, Cond.methodLink RX8 71 Lib.Math.min.name, Cond.static Lib.Math.min.name, Cond.initialized "java/lang/Math", Cond.code Lib.Math.min.name Lib.Math.min.code 2 (some .int), Cond.methodLink RX8 67 yX8_pass, Cond.instanceMethod yX8_pass, Cond.selects RX8 yX8_pass yX8_pass, Cond.code yX8_pass cX8_pass 7 (some .int), Cond.methodLink RX8 77 yX1_level, Cond.instanceMethod yX1_level, Cond.selects RX1 yX1_level yX1_level, Cond.code yX1_level cX1_level 2 (some .int), Cond.fieldLink RX1 20 "FanNet$Net" "levels" "LFanNet$Row;", Cond.methodLink RX8 80 yX1_kind, Cond.instanceMethod yX1_kind, Cond.selects RX1 yX1_kind yX1_kind, Cond.code yX1_kind cX1_kind 2 (some .int), Cond.fieldLink RX1 16 "FanNet$Net" "kinds" "LFanNet$Row;", Cond.methodLink RX8 83 yX8_beginFunction, Cond.instanceMethod yX8_beginFunction, Cond.selects RX8 yX8_beginFunction yX8_beginFunction, Cond.code yX8_beginFunction cX8_beginFunction 4 (some .boolean)]
def wsL_redexes_r5 : List Cond := [Cond.methodLink RX8 116 yX3_add, Cond.instanceMethod yX3_add, Cond.selects RX3 yX3_add yX3_add, Cond.code yX3_add cX3_add 2 (some .boolean), Cond.fieldLink RX3 7 "FanNet$Row" "most" "I", Cond.methodLink RX3 13 Lib.Math.min.name, Cond.methodLink RX3 29 yJ7_copyOf_59c91, Cond.static yJ7_copyOf_59c91, Cond.initialized RJ7, Cond.code yJ7_copyOf_59c91 cJ7_copyOf_59c91 3 (some (.array .int)), Cond.methodLink RJ7 316 ⟨"[I", "clone", "()Ljava/lang/Object;"⟩, Cond.sameMethod "[I" "java/lang/Object" "clone" "()Ljava/lang/Object;", Cond.native ⟨"java/lang/Object", "clone", "()Ljava/lang/Object;"⟩, Cond.instanceMethod ⟨"java/lang/Object", "clone", "()Ljava/lang/Object;"⟩, Cond.selects "[I" ⟨"[I", "clone", "()Ljava/lang/Object;"⟩ ⟨"java/lang/Object", "clone", "()Ljava/lang/Object;"⟩, Cond.classLink RJ7 317 "[I", Cond.arrayClass .int, Cond.methodLink RJ7 304 Lib.Math.min.name, Cond.methodLink RJ7 150 arraycopyName, Cond.native arraycopyName, Cond.static arraycopyName, Cond.initialized "java/lang/System", Cond.methodLink RX8 119 yX3_size, Cond.instanceMethod yX3_size]
def wsL_redexes_r6 : List Cond := [Cond.selects RX3 yX3_size yX3_size, Cond.code yX3_size cX3_size 1 (some .int), Cond.methodLink RX8 122 yX4_at, Cond.instanceMethod yX4_at, Cond.selects RX4 yX4_at yX4_at, Cond.code yX4_at cX4_at 2 (some .int), Cond.methodLink RX4 33 yX3_get, Cond.methodLink RX8 87 yX8_readVariable, Cond.instanceMethod yX8_readVariable, Cond.selects RX8 yX8_readVariable yX8_readVariable, Cond.code yX8_readVariable cX8_readVariable 4 (some .boolean), Cond.methodLink RX8 128 yX3_get, Cond.methodLink RX8 131 yX8_isAsThen, Cond.instanceMethod yX8_isAsThen, Cond.selects RX8 yX8_isAsThen yX8_isAsThen, Cond.code yX8_isAsThen cX8_isAsThen 4 (some .boolean), Cond.methodLink RX8 90 yX8_nextArgument, Cond.instanceMethod yX8_nextArgument, Cond.selects RX8 yX8_nextArgument yX8_nextArgument, Cond.code yX8_nextArgument cX8_nextArgument 1 (some .int), Cond.methodLink RX8 134 yX3_takeLast, Cond.instanceMethod yX3_takeLast, Cond.selects RX3 yX3_takeLast yX3_takeLast, Cond.code yX3_takeLast cX3_takeLast 1 (some .int)]
def wsL_redexes_r7 : List Cond := [Cond.methodLink RX8 137 yX4_back, Cond.instanceMethod yX4_back, Cond.selects RX4 yX4_back yX4_back, Cond.code yX4_back cX4_back 5 none, Cond.methodLink RX4 50 yX3_size, Cond.methodLink RX4 54 yX3_takeLast, Cond.methodLink RX4 57 yX3_set, Cond.instanceMethod yX3_set, Cond.selects RX3 yX3_set yX3_set, Cond.code yX3_set cX3_set 3 none, Cond.methodLink RX4 58 yX3_insert, Cond.instanceMethod yX3_insert, Cond.selects RX3 yX3_insert yX3_insert, Cond.code yX3_insert cX3_insert 3 none, Cond.methodLink RX3 35 arraycopyName, Cond.methodLink RX4 59 yX3_drop, Cond.instanceMethod yX3_drop, Cond.selects RX3 yX3_drop yX3_drop, Cond.code yX3_drop cX3_drop 2 none, Cond.methodLink RX8 94 yX8_beginApplication, Cond.instanceMethod yX8_beginApplication, Cond.selects RX8 yX8_beginApplication yX8_beginApplication, Cond.code yX8_beginApplication cX8_beginApplication 2 (some .boolean), Cond.methodLink RX8 125 yX4_mark]
def wsL_redexes_r8 : List Cond := [Cond.instanceMethod yX4_mark, Cond.selects RX4 yX4_mark yX4_mark, Cond.code yX4_mark cX4_mark 1 (some .int), Cond.methodLink RX8 98 yX4_take, Cond.instanceMethod yX4_take, Cond.selects RX4 yX4_take yX4_take, Cond.code yX4_take cX4_take 4 (some .int), Cond.methodLink RX4 41 yX4_set, Cond.instanceMethod yX4_set, Cond.selects RX4 yX4_set yX4_set, Cond.code yX4_set cX4_set 4 none, Cond.methodLink RX4 64 yX4_undoing, Cond.static yX4_undoing, Cond.code yX4_undoing cX4_undoing 3 (some .int), Cond.methodLink RX4 60 yX3_add, Cond.methodLink RX8 101 yX4_put, Cond.instanceMethod yX4_put, Cond.selects RX4 yX4_put yX4_put, Cond.code yX4_put cX4_put 3 none, Cond.methodLink RX4 37 yX4_cell, Cond.instanceMethod yX4_cell, Cond.selects RX4 yX4_cell yX4_cell, Cond.code yX4_cell cX4_cell 7 (some .int), Cond.methodLink RX8 104 yX4_uncouple]
def wsL_redexes_r9 : List Cond := [Cond.instanceMethod yX4_uncouple, Cond.selects RX4 yX4_uncouple yX4_uncouple, Cond.code yX4_uncouple cX4_uncouple 3 (some .boolean), Cond.methodLink RX4 44 yX4_insert, Cond.instanceMethod yX4_insert, Cond.selects RX4 yX4_insert yX4_insert, Cond.code yX4_insert cX4_insert 4 none, Cond.methodLink RX8 107 yX4_couple, Cond.instanceMethod yX4_couple, Cond.selects RX4 yX4_couple yX4_couple, Cond.code yX4_couple cX4_couple 3 none, Cond.methodLink RX4 47 yX4_drop, Cond.instanceMethod yX4_drop, Cond.selects RX4 yX4_drop yX4_drop, Cond.code yX4_drop cX4_drop 2 none, Cond.methodLink RX8 110 yX4_close, Cond.instanceMethod yX4_close, Cond.selects RX4 yX4_close yX4_close, Cond.code yX4_close cX4_close 2 (some .boolean), Cond.methodLink RX8 113 yX4_open, Cond.instanceMethod yX4_open, Cond.selects RX4 yX4_open yX4_open, Cond.code yX4_open cX4_open 2 none, Cond.methodLink RX9 284 yX8_isRead]
def wsL_redexes_r10 : List Cond := [Cond.instanceMethod yX8_isRead, Cond.selects RX8 yX8_isRead yX8_isRead, Cond.code yX8_isRead cX8_isRead 1 (some .boolean), Cond.methodLink RX9 287 yX8_term, Cond.instanceMethod yX8_term, Cond.selects RX8 yX8_term yX8_term, Cond.code yX8_term cX8_term 1 (some (.object "FanNet$Row")), Cond.methodLink RX9 233 yX2_workOff, Cond.instanceMethod yX2_workOff, Cond.selects RX2 yX2_workOff yX2_workOff, Cond.initialized RX2, Cond.code yX2_workOff cX2_workOff 7 none, Cond.fieldLink RX2 23 "FanNet$Plainly" "now" "LFanNet$Row;", Cond.fieldLink RX2 29 "FanNet$Plainly" "rounds" "I", Cond.fieldLink RX2 33 "FanNet$Plainly" "tooMany" "Z", Cond.fieldLink RX2 26 "FanNet$Plainly" "next" "LFanNet$Row;", Cond.methodLink RX2 41 yX3_copy, Cond.instanceMethod yX3_copy, Cond.selects RX3 yX3_copy yX3_copy, Cond.code yX3_copy cX3_copy 2 none, Cond.methodLink RX3 19 Lib.Math.max.name, Cond.static Lib.Math.max.name, Cond.code Lib.Math.max.name Lib.Math.max.code 2 (some .int), Cond.methodLink RX2 37 yX2_firstRedex]
def wsL_redexes_r11 : List Cond := [Cond.instanceMethod yX2_firstRedex, Cond.selects RX2 yX2_firstRedex yX2_firstRedex, Cond.code yX2_firstRedex cX2_firstRedex 2 (some .int), Cond.methodLink RX2 61 yX3_size, Cond.static yX9_isRedex, Cond.code yX9_isRedex cX9_isRedex 2 (some .boolean), Cond.methodLink RX9 110 yX3_size, Cond.methodLink RX9 155 yX3_get, Cond.methodLink RX2 45 yX2_behindTerm, Cond.instanceMethod yX2_behindTerm, Cond.selects RX2 yX2_behindTerm yX2_behindTerm, Cond.code yX2_behindTerm cX2_behindTerm 5 (some .int), Cond.methodLink RX2 68 yX3_get, Cond.methodLink RX2 49 yX3_cut, Cond.methodLink RX2 53 yX2_keep, Cond.instanceMethod yX2_keep, Cond.selects RX2 yX2_keep yX2_keep, Cond.code yX2_keep cX2_keep 4 (some .boolean), Cond.methodLink RX2 71 yX3_add, Cond.methodLink RX2 57 yX2_putIn, Cond.instanceMethod yX2_putIn, Cond.selects RX2 yX2_putIn yX2_putIn, Cond.code yX2_putIn cX2_putIn 8 (some .boolean), Cond.fieldLink RX2 14 "FanNet$Plainly" "depths" "LFanNet$Row;"]
def wsL_redexes_r12 : List Cond := [Cond.methodLink RX2 75 yX2_putArgument, Cond.instanceMethod yX2_putArgument, Cond.selects RX2 yX2_putArgument yX2_putArgument, Cond.code yX2_putArgument cX2_putArgument 7 (some .boolean), Cond.fieldLink RX2 20 "FanNet$Plainly" "argumentDepths" "LFanNet$Row;", Cond.methodLink RX2 78 yX2_depthBehind, Cond.static yX2_depthBehind, Cond.code yX2_depthBehind cX2_depthBehind 3 (some .int), Cond.methodLink RX2 82 yX3_takeLast, Cond.methodLink RX9 240 yX2_term, Cond.instanceMethod yX2_term, Cond.selects RX2 yX2_term yX2_term, Cond.code yX2_term cX2_term 1 (some (.object "FanNet$Row")), Cond.methodLink RX9 264 yX3_copy, Cond.methodLink RX9 288 yX2_isAtEnd, Cond.instanceMethod yX2_isAtEnd, Cond.selects RX2 yX2_isAtEnd yX2_isAtEnd, Cond.code yX2_isAtEnd cX2_isAtEnd 1 (some .boolean), Cond.methodLink RX9 291 yX2_rounds, Cond.instanceMethod yX2_rounds, Cond.selects RX2 yX2_rounds yX2_rounds, Cond.code yX2_rounds cX2_rounds 1 (some .int), Cond.methodLink RX9 244 yX9_isRedex]
def wsL_redexes : List Cond := .codeWith yL_redexes cL_redexes 4 (some .int) [(0, 9, 12, 13), (0, 9, 15, 25)] :: ((wsL_redexes_r1 ++ (wsL_redexes_r2 ++ (wsL_redexes_r3 ++ (wsL_redexes_r4 ++ (wsL_redexes_r5 ++ (wsL_redexes_r6 ++ (wsL_redexes_r7 ++ (wsL_redexes_r8 ++ (wsL_redexes_r9 ++ (wsL_redexes_r10 ++ (wsL_redexes_r11 ++ wsL_redexes_r12))))))))))) ++ wsX90 ++ wsX80 ++ wsX40 ++ wsX30 ++ wsX10 ++ wsX20 ++ (vx_atS RX9 182 "java/util/NoSuchElementException" ["java/lang/RuntimeException", "java/lang/Exception"]).filter goodWord ++ (vx_atS RX9 122 "java/lang/IllegalArgumentException" ["java/lang/RuntimeException", "java/lang/Exception"]).filter goodWord)
def wsL_trial_r1 : List Cond := [Cond.classLink RL 13 "java/lang/IllegalArgumentException", Cond.classLink RL 25 "java/util/NoSuchElementException", Cond.methodLink RL 52 yX9_trial, Cond.instanceMethod yX9_trial, Cond.selects RX9 yX9_trial yX9_trial, Cond.initialized RX9, Cond.code yX9_trial cX9_trial 9 (some .int), Cond.classLink RX9 178 "java/util/NoSuchElementException", Cond.initialized "java/util/NoSuchElementException", Cond.fieldLink RX9 60 "FanNet" "trials" "LFanNet$Row;", Cond.fieldLink RX9 66 "FanNet" "net" "LFanNet$Net;", Cond.fieldLink RX9 70 "FanNet" "spare" "LFanNet$Net;", Cond.methodLink RX9 253 Lib.Math.max.name, Cond.static Lib.Math.max.name, Cond.initialized "java/lang/Math", Cond.code Lib.Math.max.name Lib.Math.max.code 2 (some .int), Cond.methodLink RX9 139 yX9_refuseOtherWays, Cond.static yX9_refuseOtherWays, Cond.code yX9_refuseOtherWays cX9_refuseOtherWays 1 none, Cond.classLink RX9 118 "java/lang/IllegalArgumentException", Cond.initialized "java/lang/IllegalArgumentException", Cond.methodLink RX9 155 yX3_get, Cond.instanceMethod yX3_get, Cond.selects RX3 yX3_get yX3_get]
def wsL_trial_r2 : List Cond := [Cond.initialized RX3, Cond.code yX3_get cX3_get 2 (some .int), Cond.fieldLink RX3 26 "FanNet$Row" "size" "I", Cond.fieldLink RX3 22 "FanNet$Row" "items" "[I", Cond.methodLink RX9 138 yX1_size, Cond.instanceMethod yX1_size, Cond.selects RX1 yX1_size yX1_size, Cond.initialized RX1, Cond.code yX1_size cX1_size 1 (some .int), Cond.fieldLink RX1 29 "FanNet$Net" "size" "I", Cond.methodLink RX9 250 yX1_copy, Cond.instanceMethod yX1_copy, Cond.selects RX1 yX1_copy yX1_copy, Cond.code yX1_copy cX1_copy 2 none, Cond.fieldLink RX1 16 "FanNet$Net" "kinds" "LFanNet$Row;", Cond.fieldLink RX1 20 "FanNet$Net" "levels" "LFanNet$Row;", Cond.fieldLink RX1 23 "FanNet$Net" "wires" "LFanNet$Row;", Cond.fieldLink RX1 33 "FanNet$Net" "noneFreeBelow" "I", Cond.fieldLink RX1 36 "FanNet$Net" "noneUsedFrom" "I", Cond.fieldLink RX1 39 "FanNet$Net" "overfull" "Z", Cond.methodLink RX1 46 yX3_copy, Cond.instanceMethod yX3_copy, Cond.selects RX3 yX3_copy yX3_copy, Cond.code yX3_copy cX3_copy 2 none]
def wsL_trial_r3 : List Cond := [Cond.fieldLink RX3 7 "FanNet$Row" "most" "I", Cond.methodLink RX3 19 Lib.Math.max.name, Cond.methodLink RX3 13 Lib.Math.min.name, Cond.static Lib.Math.min.name, Cond.code Lib.Math.min.name Lib.Math.min.code 2 (some .int), Cond.methodLink RX3 35 arraycopyName, Cond.native arraycopyName, Cond.static arraycopyName, Cond.initialized "java/lang/System", Cond.methodLink RX3 29 yJ7_copyOf_59c91, Cond.static yJ7_copyOf_59c91, Cond.initialized RJ7, Cond.code yJ7_copyOf_59c91 cJ7_copyOf_59c91 3 (some (.array .int)), Cond.methodLink RJ7 316 ⟨"[I", "clone", "()Ljava/lang/Object;"⟩, Cond.sameMethod "[I" "java/lang/Object" "clone" "()Ljava/lang/Object;", Cond.native ⟨"java/lang/Object", "clone", "()Ljava/lang/Object;"⟩, Cond.instanceMethod ⟨"java/lang/Object", "clone", "()Ljava/lang/Object;"⟩, Cond.selects "[I" ⟨"[I", "clone", "()Ljava/lang/Object;"⟩ ⟨"java/lang/Object", "clone", "()Ljava/lang/Object;"⟩, Cond.classLink RJ7 317 "[I", Cond.arrayClass .int, Cond.methodLink RJ7 304 Lib.Math.min.name, Cond.methodLink RJ7 150 arraycopyName, Cond.methodLink RX9 142 yX9_workOn, Cond.instanceMethod yX9_workOn]
def wsL_trial_r4 : List Cond := [Cond.selects RX9 yX9_workOn yX9_workOn, Cond.code yX9_workOn cX9_workOn 4 (some .int), Cond.fieldLink RX9 96 "FanNet" "readKnown" "Z", Cond.fieldLink RX9 30 "FanNet" "walk" "LFanNet$Walk;", Cond.methodLink RX9 272 yX8_go, Cond.instanceMethod yX8_go, Cond.selects RX8 yX8_go yX8_go, Cond.initialized RX8, Cond.code yX8_go cX8_go 5 none, Cond.fieldLink RX8 12 "FanNet$Walk" "stacks" "LFanNet$Stacks;", Cond.fieldLink RX8 23 "FanNet$Walk" "term" "LFanNet$Row;", Cond.fieldLink RX8 27 "FanNet$Walk" "waiting" "LFanNet$Row;", Cond.fieldLink RX8 30 "FanNet$Walk" "functions" "LFanNet$Row;", Cond.fieldLink RX8 34 "FanNet$Walk" "stacksThen" "LFanNet$Row;", Cond.fieldLink RX8 37 "FanNet$Walk" "wires" "I", Cond.fieldLink RX8 41 "FanNet$Walk" "wantedNode" "I", Cond.fieldLink RX8 44 "FanNet$Walk" "wantedWires" "I", Cond.fieldLink RX8 47 "FanNet$Walk" "read" "Z", Cond.methodLink RX8 51 yX4_clear, Cond.instanceMethod yX4_clear, Cond.selects RX4 yX4_clear yX4_clear, Cond.initialized RX4, Cond.code yX4_clear cX4_clear 1 none, Cond.fieldLink RX4 16 "FanNet$Stacks" "levels" "LFanNet$Row;"]
def wsL_trial_r5 : List Cond := [Cond.fieldLink RX4 23 "FanNet$Stacks" "trail" "LFanNet$Row;", Cond.fieldLink RX4 20 "FanNet$Stacks" "cells" "LFanNet$Row;", Cond.methodLink RX4 26 yX3_cut, Cond.instanceMethod yX3_cut, Cond.selects RX3 yX3_cut yX3_cut, Cond.code yX3_cut cX3_cut 2 none, Cond.methodLink RX4 30 yX3_fill, Cond.instanceMethod yX3_fill, Cond.selects RX3 yX3_fill yX3_fill, Cond.code yX3_fill cX3_fill 4 none, Cond.methodLink RX8 54 yX3_cut, Cond.methodLink RX8 58 yX1_wire, Cond.instanceMethod yX1_wire, Cond.selects RX1 yX1_wire yX1_wire, Cond.code yX1_wire cX1_wire 2 (some .int), Cond.methodLink RX1 50 yX3_get, Cond.methodLink RX8 64 yX8_lookWhetherWanted, Cond.instanceMethod yX8_lookWhetherWanted, Cond.selects RX8 yX8_lookWhetherWanted yX8_lookWhetherWanted, Cond.code yX8_lookWhetherWanted cX8_lookWhetherWanted 4 none, Cond.methodLink RX8 71 Lib.Math.min.name, Cond.methodLink RX8 67 yX8_pass, Cond.instanceMethod yX8_pass, Cond.selects RX8 yX8_pass yX8_pass]
def wsL_trial_r6 : List Cond := [Cond.code yX8_pass cX8_pass 7 (some .int), Cond.methodLink RX8 77 yX1_level, Cond.instanceMethod yX1_level, Cond.selects RX1 yX1_level yX1_level, Cond.code yX1_level cX1_level 2 (some .int), Cond.methodLink RX8 80 yX1_kind, Cond.instanceMethod yX1_kind, Cond.selects RX1 yX1_kind yX1_kind, Cond.code yX1_kind cX1_kind 2 (some .int), Cond.methodLink RX8 83 yX8_beginFunction, Cond.instanceMethod yX8_beginFunction, Cond.selects RX8 yX8_beginFunction yX8_beginFunction, Cond.code yX8_beginFunction cX8_beginFunction 4 (some .boolean), Cond.methodLink RX8 116 yX3_add, Cond.instanceMethod yX3_add, Cond.selects RX3 yX3_add yX3_add, Cond.code yX3_add cX3_add 2 (some .boolean), Cond.methodLink RX8 119 yX3_size, Cond.instanceMethod yX3_size, Cond.selects RX3 yX3_size yX3_size, Cond.code yX3_size cX3_size 1 (some .int), Cond.methodLink RX8 122 yX4_at, Cond.instanceMethod yX4_at, Cond.selects RX4 yX4_at yX4_at]
def wsL_trial_r7 : List Cond := [Cond.code yX4_at cX4_at 2 (some .int), Cond.methodLink RX4 33 yX3_get, Cond.methodLink RX8 87 yX8_readVariable, Cond.instanceMethod yX8_readVariable, Cond.selects RX8 yX8_readVariable yX8_readVariable, Cond.code yX8_readVariable cX8_readVariable 4 (some .boolean), Cond.methodLink RX8 128 yX3_get, Cond.methodLink RX8 131 yX8_isAsThen, Cond.instanceMethod yX8_isAsThen, Cond.selects RX8 yX8_isAsThen yX8_isAsThen, Cond.code yX8_isAsThen cX8_isAsThen 4 (some .boolean), Cond.methodLink RX8 90 yX8_nextArgument, Cond.instanceMethod yX8_nextArgument, Cond.selects RX8 yX8_nextArgument yX8_nextArgument, Cond.code yX8_nextArgument cX8_nextArgument 1 (some .int), Cond.methodLink RX8 134 yX3_takeLast, Cond.instanceMethod yX3_takeLast, Cond.selects RX3 yX3_takeLast yX3_takeLast, Cond.code yX3_takeLast cX3_takeLast 1 (some .int), Cond.methodLink RX8 137 yX4_back, Cond.instanceMethod yX4_back, Cond.selects RX4 yX4_back yX4_back, Cond.code yX4_back cX4_back 5 none, Cond.methodLink RX4 50 yX3_size]
def wsL_trial_r8 : List Cond := [Cond.methodLink RX4 54 yX3_takeLast, Cond.methodLink RX4 57 yX3_set, Cond.instanceMethod yX3_set, Cond.selects RX3 yX3_set yX3_set, Cond.code yX3_set cX3_set 3 none, Cond.methodLink RX4 58 yX3_insert, Cond.instanceMethod yX3_insert, Cond.selects RX3 yX3_insert yX3_insert, Cond.code yX3_insert cX3_insert 3 none, Cond.methodLink RX4 59 yX3_drop, Cond.instanceMethod yX3_drop, Cond.selects RX3 yX3_drop yX3_drop, Cond.code yX3_drop cX3_drop 2 none, Cond.methodLink RX8 94 yX8_beginApplication, Cond.instanceMethod yX8_beginApplication, Cond.selects RX8 yX8_beginApplication yX8_beginApplication, Cond.code yX8_beginApplication cX8_beginApplication 2 (some .boolean), Cond.methodLink RX8 125 yX4_mark, Cond.instanceMethod yX4_mark, Cond.selects RX4 yX4_mark yX4_mark, Cond.code yX4_mark cX4_mark 1 (some .int), Cond.methodLink RX8 98 yX4_take, Cond.instanceMethod yX4_take, Cond.selects RX4 yX4_take yX4_take]
def wsL_trial_r9 : List Cond := [Cond.code yX4_take cX4_take 4 (some .int), Cond.methodLink RX4 41 yX4_set, Cond.instanceMethod yX4_set, Cond.selects RX4 yX4_set yX4_set, Cond.code yX4_set cX4_set 4 none, Cond.methodLink RX4 64 yX4_undoing, Cond.static yX4_undoing, Cond.code yX4_undoing cX4_undoing 3 (some .int), Cond.methodLink RX4 60 yX3_add, Cond.methodLink RX8 101 yX4_put, Cond.instanceMethod yX4_put, Cond.selects RX4 yX4_put yX4_put, Cond.code yX4_put cX4_put 3 none, Cond.methodLink RX4 37 yX4_cell, Cond.instanceMethod yX4_cell, Cond.selects RX4 yX4_cell yX4_cell, Cond.code yX4_cell cX4_cell 7 (some .int), Cond.methodLink RX8 104 yX4_uncouple, Cond.instanceMethod yX4_uncouple, Cond.selects RX4 yX4_uncouple yX4_uncouple, Cond.code yX4_uncouple cX4_uncouple 3 (some .boolean), Cond.methodLink RX4 44 yX4_insert, Cond.instanceMethod yX4_insert, Cond.selects RX4 yX4_insert yX4_insert]
def wsL_trial_r10 : List Cond := [Cond.code yX4_insert cX4_insert 4 none, Cond.methodLink RX8 107 yX4_couple, Cond.instanceMethod yX4_couple, Cond.selects RX4 yX4_couple yX4_couple, Cond.code yX4_couple cX4_couple 3 none, Cond.methodLink RX4 47 yX4_drop, Cond.instanceMethod yX4_drop, Cond.selects RX4 yX4_drop yX4_drop, Cond.code yX4_drop cX4_drop 2 none, Cond.methodLink RX8 110 yX4_close, Cond.instanceMethod yX4_close, Cond.selects RX4 yX4_close yX4_close, Cond.code yX4_close cX4_close 2 (some .boolean), Cond.methodLink RX8 113 yX4_open, Cond.instanceMethod yX4_open, Cond.selects RX4 yX4_open yX4_open, Cond.code yX4_open cX4_open 2 none, Cond.methodLink RX9 211 yX8_wantedNode, Cond.instanceMethod yX8_wantedNode, Cond.selects RX8 yX8_wantedNode yX8_wantedNode, Cond.code yX8_wantedNode cX8_wantedNode 1 (some .int), Cond.methodLink RX9 276 yX1_leastActive, Cond.instanceMethod yX1_leastActive, Cond.selects RX1 yX1_leastActive yX1_leastActive]
def wsL_trial_r11 : List Cond := [Cond.code yX1_leastActive cX1_leastActive 1 (some .int), Cond.methodLink RX1 71 yX1_activeNode, Cond.instanceMethod yX1_activeNode, Cond.selects RX1 yX1_activeNode yX1_activeNode, Cond.code yX1_activeNode cX1_activeNode 4 (some .int), Cond.methodLink RX1 67 yX1_isLesserOfActive, Cond.instanceMethod yX1_isLesserOfActive, Cond.selects RX1 yX1_isLesserOfActive yX1_isLesserOfActive, Cond.code yX1_isLesserOfActive cX1_isLesserOfActive 3 (some .boolean), Cond.methodLink RX9 279 yX1_greatestActive, Cond.instanceMethod yX1_greatestActive, Cond.selects RX1 yX1_greatestActive yX1_greatestActive, Cond.code yX1_greatestActive cX1_greatestActive 2 (some .int), Cond.methodLink RX9 282 yX1_workOff, Cond.instanceMethod yX1_workOff, Cond.selects RX1 yX1_workOff yX1_workOff, Cond.code yX1_workOff cX1_workOff 7 (some .int), Cond.methodLink RX1 80 yX1_stepKind, Cond.instanceMethod yX1_stepKind, Cond.selects RX1 yX1_stepKind yX1_stepKind, Cond.code yX1_stepKind cX1_stepKind 7 (some .int), Cond.methodLink RX1 77 Lib.Math.min.name, Cond.methodLink RX1 61 Lib.Math.max.name, Cond.methodLink RX1 74 yX1_isMover]
def wsL_trial_r12 : List Cond := [Cond.static yX1_isMover, Cond.code yX1_isMover cX1_isMover 1 (some .boolean), Cond.methodLink RX1 83 yX1_leads, Cond.instanceMethod yX1_leads, Cond.selects RX1 yX1_leads yX1_leads, Cond.code yX1_leads cX1_leads 3 (some .boolean), Cond.methodLink RX1 87 yX1_newNodes, Cond.instanceMethod yX1_newNodes, Cond.selects RX1 yX1_newNodes yX1_newNodes, Cond.code yX1_newNodes cX1_newNodes 4 (some .int), Cond.methodLink RX1 103 yX1_ports, Cond.instanceMethod yX1_ports, Cond.selects RX1 yX1_ports yX1_ports, Cond.code yX1_ports cX1_ports 3 (some .int), Cond.methodLink RX1 91 yX1_lift, Cond.instanceMethod yX1_lift, Cond.selects RX1 yX1_lift yX1_lift, Cond.code yX1_lift cX1_lift 4 none, Cond.methodLink RX1 58 yX3_set, Cond.methodLink RX1 106 yX1_link, Cond.instanceMethod yX1_link, Cond.selects RX1 yX1_link yX1_link, Cond.code yX1_link cX1_link 3 none, Cond.methodLink RX1 94 yX1_erase]
def wsL_trial_r13 : List Cond := [Cond.instanceMethod yX1_erase, Cond.selects RX1 yX1_erase yX1_erase, Cond.code yX1_erase cX1_erase 3 none, Cond.methodLink RX1 109 yX1_make, Cond.instanceMethod yX1_make, Cond.selects RX1 yX1_make yX1_make, Cond.code yX1_make cX1_make 4 (some .int), Cond.methodLink RX1 97 yX1_joinPorts, Cond.instanceMethod yX1_joinPorts, Cond.selects RX1 yX1_joinPorts yX1_joinPorts, Cond.code yX1_joinPorts cX1_joinPorts 4 none, Cond.methodLink RX1 100 yX1_goThrough, Cond.instanceMethod yX1_goThrough, Cond.selects RX1 yX1_goThrough yX1_goThrough, Cond.code yX1_goThrough cX1_goThrough 6 none, Cond.fieldLink RX1 26 "FanNet$Net" "copies" "LFanNet$Row;", Cond.methodLink RX1 112 yX3_cut, Cond.methodLink RX1 116 yX3_add, Cond.methodLink RX9 258 yX3_set]
def wsL_trial : List Cond := .codeWith yL_trial cL_trial 5 (some .int) [(0, 10, 13, 13), (0, 10, 17, 25)] :: ((wsL_trial_r1 ++ (wsL_trial_r2 ++ (wsL_trial_r3 ++ (wsL_trial_r4 ++ (wsL_trial_r5 ++ (wsL_trial_r6 ++ (wsL_trial_r7 ++ (wsL_trial_r8 ++ (wsL_trial_r9 ++ (wsL_trial_r10 ++ (wsL_trial_r11 ++ (wsL_trial_r12 ++ wsL_trial_r13)))))))))))) ++ wsX90 ++ wsX30 ++ wsX10 ++ wsX80 ++ wsX40 ++ (vx_atS RX9 182 "java/util/NoSuchElementException" ["java/lang/RuntimeException", "java/lang/Exception"]).filter goodWord ++ (vx_atS RX9 122 "java/lang/IllegalArgumentException" ["java/lang/RuntimeException", "java/lang/Exception"]).filter goodWord)
theorem inJx145de : ∀ w ∈ wsJx145de0, w ∈ lw_tbl := by decide +kernel
theorem inJx8e188 : ∀ w ∈ wsJx8e1880, w ∈ lw_tbl := by decide +kernel
theorem inJ9 : ∀ w ∈ wsJ90, w ∈ lw_tbl := by decide +kernel
theorem inJ0 : ∀ w ∈ wsJ00, w ∈ lw_tbl := by decide +kernel
theorem inJ10 : ∀ w ∈ wsJ100, w ∈ lw_tbl := by decide +kernel
theorem inJ7 : ∀ w ∈ wsJ70, w ∈ lw_tbl := by decide +kernel
set_option maxRecDepth 20000 in
theorem ggX0_init_X3_init : GoodIn wsX0_init wsX3_init := goodIn_r _ [14, 15, 2, 3, 16, 17, 18, 19, 20, 21, 22, 23, 24, 25, 26, 27, 28, 29] (by decide +kernel) (by decide +kernel)
set_option maxRecDepth 20000 in
theorem gX0_init_X3_init : GoodIn wsX0_init (wsX3_init) := ggX0_init_X3_init
theorem dX0_init_0 : decode cX0_init 0 = .ok (.aload_n 0, 1) := by decide +kernel
theorem dX0_init_1 : decode cX0_init 1 = .ok (.invokespecial 3, 3) := by decide +kernel
theorem dX0_init_4 : decode cX0_init 4 = .ok (.aload_n 0, 1) := by decide +kernel
theorem dX0_init_5 : decode cX0_init 5 = .ok (.new 9, 3) := by decide +kernel
theorem dX0_init_8 : decode cX0_init 8 = .ok (.dup, 1) := by decide +kernel
theorem dX0_init_9 : decode cX0_init 9 = .ok (.bipush 24, 2) := by decide +kernel
theorem dX0_init_11 : decode cX0_init 11 = .ok (.sipush 360, 3) := by decide +kernel
theorem dX0_init_14 : decode cX0_init 14 = .ok (.invokespecial 13, 3) := by decide +kernel
theorem dX0_init_17 : decode cX0_init 17 = .ok (.putfield 16, 3) := by decide +kernel
theorem dX0_init_20 : decode cX0_init 20 = .ok (.aload_n 0, 1) := by decide +kernel
theorem dX0_init_21 : decode cX0_init 21 = .ok (.new 9, 3) := by decide +kernel
theorem dX0_init_24 : decode cX0_init 24 = .ok (.dup, 1) := by decide +kernel
theorem dX0_init_25 : decode cX0_init 25 = .ok (.bipush 24, 2) := by decide +kernel
theorem dX0_init_27 : decode cX0_init 27 = .ok (.sipush 360, 3) := by decide +kernel
theorem dX0_init_30 : decode cX0_init 30 = .ok (.invokespecial 13, 3) := by decide +kernel
theorem dX0_init_33 : decode cX0_init 33 = .ok (.putfield 20, 3) := by decide +kernel
theorem dX0_init_36 : decode cX0_init 36 = .ok (.aload_n 0, 1) := by decide +kernel
theorem dX0_init_37 : decode cX0_init 37 = .ok (.new 9, 3) := by decide +kernel
theorem dX0_init_40 : decode cX0_init 40 = .ok (.dup, 1) := by decide +kernel
theorem dX0_init_41 : decode cX0_init 41 = .ok (.bipush 16, 2) := by decide +kernel
theorem dX0_init_43 : decode cX0_init 43 = .ok (.bipush 120, 2) := by decide +kernel
theorem dX0_init_45 : decode cX0_init 45 = .ok (.invokespecial 13, 3) := by decide +kernel
theorem dX0_init_48 : decode cX0_init 48 = .ok (.putfield 23, 3) := by decide +kernel
theorem dX0_init_51 : decode cX0_init 51 = .ok (.aload_n 0, 1) := by decide +kernel
theorem dX0_init_52 : decode cX0_init 52 = .ok (.iconst 0, 1) := by decide +kernel
theorem dX0_init_53 : decode cX0_init 53 = .ok (.putfield 26, 3) := by decide +kernel
theorem dX0_init_56 : decode cX0_init 56 = .ok (.aload_n 0, 1) := by decide +kernel
theorem dX0_init_57 : decode cX0_init 57 = .ok (.aload_n 1, 1) := by decide +kernel
theorem dX0_init_58 : decode cX0_init 58 = .ok (.putfield 30, 3) := by decide +kernel
theorem dX0_init_61 : decode cX0_init 61 = .ok (.return_, 1) := by decide +kernel
set_option maxRecDepth 20000 in
theorem ggX0_lay_X1_clear : GoodIn wsX0_lay wsX1_clear := goodIn_r _ [10, 11, 12, 13, 14, 15, 16, 17, 18, 19, 20, 21, 22, 117, 118, 119, 120, 121, 122, 123, 124, 125, 126, 127] (by decide +kernel) (by decide +kernel)
set_option maxRecDepth 20000 in
theorem gX0_lay_X1_clear : GoodIn wsX0_lay (wsV RX0 34 RX1 yX1_clear wsX1_clear) := goodIn_app (goodIn_of _ (by decide +kernel)) ggX0_lay_X1_clear
set_option maxRecDepth 20000 in
theorem ggX0_lay_X3_cut : GoodIn wsX0_lay wsX3_cut := goodIn_r _ [26, 21, 125, 126, 127] (by decide +kernel) (by decide +kernel)
set_option maxRecDepth 20000 in
theorem gX0_lay_X3_cut : GoodIn wsX0_lay (wsV RX0 39 RX3 yX3_cut wsX3_cut) := goodIn_app (goodIn_of _ (by decide +kernel)) ggX0_lay_X3_cut
set_option maxRecDepth 20000 in
theorem ggX0_lay_X1_make : GoodIn wsX0_lay wsX1_make := goodIn_r _ [30, 13, 11, 31, 12, 14, 32, 33, 34, 35, 15, 36, 37, 38, 19, 39, 21, 22, 40, 41, 42, 43, 117, 118, 119, 120, 121, 122, 123, 124, 125, 126, 127] (by decide +kernel) (by decide +kernel)
set_option maxRecDepth 20000 in
theorem gX0_lay_X1_make : GoodIn wsX0_lay (wsV RX0 43 RX1 yX1_make wsX1_make) := goodIn_app (goodIn_of _ (by decide +kernel)) ggX0_lay_X1_make
set_option maxRecDepth 20000 in
theorem ggX0_lay_X3_size : GoodIn wsX0_lay wsX3_size := goodIn_r _ [47, 21, 125, 126, 127] (by decide +kernel) (by decide +kernel)
set_option maxRecDepth 20000 in
theorem gX0_lay_X3_size : GoodIn wsX0_lay (wsV RX0 47 RX3 yX3_size wsX3_size) := goodIn_app (goodIn_of _ (by decide +kernel)) ggX0_lay_X3_size
set_option maxRecDepth 20000 in
theorem ggX0_lay_X1_isOverfull : GoodIn wsX0_lay wsX1_isOverfull := goodIn_r _ [51, 15, 117, 118, 119, 120, 121, 122, 123, 124] (by decide +kernel) (by decide +kernel)
set_option maxRecDepth 20000 in
theorem gX0_lay_X1_isOverfull : GoodIn wsX0_lay (wsV RX0 51 RX1 yX1_isOverfull wsX1_isOverfull) := goodIn_app (goodIn_of _ (by decide +kernel)) ggX0_lay_X1_isOverfull
set_option maxRecDepth 20000 in
theorem ggX0_lay_X3_get : GoodIn wsX0_lay wsX3_get := goodIn_r _ [39, 21, 22, 125, 126, 127] (by decide +kernel) (by decide +kernel)
set_option maxRecDepth 20000 in
theorem gX0_lay_X3_get : GoodIn wsX0_lay (wsV RX0 55 RX3 yX3_get wsX3_get) := goodIn_app (goodIn_of _ (by decide +kernel)) ggX0_lay_X3_get
set_option maxRecDepth 20000 in
theorem ggX0_lay_X0_beginFrame : GoodIn wsX0_lay wsX0_beginFrame := goodIn_r _ [57, 3, 1, 2, 27, 28, 29, 9, 30, 13, 11, 31, 12, 14, 32, 33, 34, 35, 15, 36, 37, 38, 19, 39, 21, 22, 40, 41, 42, 43, 58, 59, 60, 61, 62, 63, 64, 65, 66, 67, 68, 69, 70, 71, 72, 73, 74, 75, 76, 77, 78, 79, 80, 81, 112, 113, 114, 115, 116, 117, 118, 119, 120, 121, 122, 123, 124, 125, 126, 127] (by decide +kernel) (by decide +kernel)
set_option maxRecDepth 20000 in
theorem gX0_lay_X0_beginFrame : GoodIn wsX0_lay (wsV RX0 59 RX0 yX0_beginFrame wsX0_beginFrame) := goodIn_app (goodIn_of _ (by decide +kernel)) ggX0_lay_X0_beginFrame
set_option maxRecDepth 20000 in
theorem ggX0_lay_X3_add : GoodIn wsX0_lay wsX3_add := goodIn_r _ [61, 21, 62, 22, 63, 64, 34, 65, 66, 67, 68, 69, 70, 71, 72, 73, 74, 75, 76, 77, 78, 79, 80, 81, 125, 126, 127] (by decide +kernel) (by decide +kernel)
set_option maxRecDepth 20000 in
theorem gX0_lay_X3_add : GoodIn wsX0_lay (wsV RX0 63 RX3 yX3_add wsX3_add) := goodIn_app (goodIn_of _ (by decide +kernel)) ggX0_lay_X3_add
set_option maxRecDepth 20000 in
theorem ggX0_lay_X0_layVariable : GoodIn wsX0_lay wsX0_layVariable := goodIn_r _ [85, 1, 2, 4, 5, 27, 28, 29, 9, 30, 13, 11, 31, 12, 14, 32, 33, 34, 35, 15, 36, 37, 38, 19, 39, 21, 22, 40, 41, 42, 43, 44, 45, 46, 47, 58, 59, 60, 61, 62, 63, 64, 65, 66, 67, 68, 69, 70, 71, 72, 73, 74, 75, 76, 77, 78, 79, 80, 81, 52, 86, 112, 113, 114, 115, 116, 117, 118, 119, 120, 121, 122, 123, 124, 125, 126, 127] (by decide +kernel) (by decide +kernel)
set_option maxRecDepth 20000 in
theorem gX0_lay_X0_layVariable : GoodIn wsX0_lay (wsV RX0 67 RX0 yX0_layVariable wsX0_layVariable) := goodIn_app (goodIn_of _ (by decide +kernel)) ggX0_lay_X0_layVariable
set_option maxRecDepth 20000 in
theorem ggX0_lay_X0_finish : GoodIn wsX0_lay wsX0_finish := goodIn_r _ [90, 3, 1, 2, 44, 45, 46, 19, 47, 21, 52, 37, 38, 39, 22, 91, 92, 93, 9, 94, 95, 40, 41, 42, 43, 86, 96, 97, 98, 56, 99, 5, 4, 100, 101, 102, 103, 27, 28, 29, 30, 13, 11, 31, 12, 14, 32, 33, 34, 35, 15, 36, 104, 105, 106, 107, 108, 109, 110, 111, 23, 24, 25, 26, 112, 113, 114, 115, 116, 125, 126, 127, 117, 118, 119, 120, 121, 122, 123, 124] (by decide +kernel) (by decide +kernel)
set_option maxRecDepth 20000 in
theorem gX0_lay_X0_finish : GoodIn wsX0_lay (wsV RX0 70 RX0 yX0_finish wsX0_finish) := goodIn_app (goodIn_of _ (by decide +kernel)) ggX0_lay_X0_finish
theorem dX0_lay_0 : decode cX0_lay 0 = .ok (.aload_n 2, 1) := by decide +kernel
theorem dX0_lay_1 : decode cX0_lay 1 = .ok (.invokevirtual 34, 3) := by decide +kernel
theorem dX0_lay_4 : decode cX0_lay 4 = .ok (.aload_n 0, 1) := by decide +kernel
theorem dX0_lay_5 : decode cX0_lay 5 = .ok (.aload_n 2, 1) := by decide +kernel
theorem dX0_lay_6 : decode cX0_lay 6 = .ok (.putfield 30, 3) := by decide +kernel
theorem dX0_lay_9 : decode cX0_lay 9 = .ok (.aload_n 0, 1) := by decide +kernel
theorem dX0_lay_10 : decode cX0_lay 10 = .ok (.iconst 0, 1) := by decide +kernel
theorem dX0_lay_11 : decode cX0_lay 11 = .ok (.putfield 26, 3) := by decide +kernel
theorem dX0_lay_14 : decode cX0_lay 14 = .ok (.aload_n 0, 1) := by decide +kernel
theorem dX0_lay_15 : decode cX0_lay 15 = .ok (.getfield 16, 3) := by decide +kernel
theorem dX0_lay_18 : decode cX0_lay 18 = .ok (.iconst 0, 1) := by decide +kernel
theorem dX0_lay_19 : decode cX0_lay 19 = .ok (.invokevirtual 39, 3) := by decide +kernel
theorem dX0_lay_22 : decode cX0_lay 22 = .ok (.aload_n 0, 1) := by decide +kernel
theorem dX0_lay_23 : decode cX0_lay 23 = .ok (.getfield 20, 3) := by decide +kernel
theorem dX0_lay_26 : decode cX0_lay 26 = .ok (.iconst 0, 1) := by decide +kernel
theorem dX0_lay_27 : decode cX0_lay 27 = .ok (.invokevirtual 39, 3) := by decide +kernel
theorem dX0_lay_30 : decode cX0_lay 30 = .ok (.aload_n 0, 1) := by decide +kernel
theorem dX0_lay_31 : decode cX0_lay 31 = .ok (.getfield 23, 3) := by decide +kernel
theorem dX0_lay_34 : decode cX0_lay 34 = .ok (.iconst 0, 1) := by decide +kernel
theorem dX0_lay_35 : decode cX0_lay 35 = .ok (.invokevirtual 39, 3) := by decide +kernel
theorem dX0_lay_38 : decode cX0_lay 38 = .ok (.aload_n 2, 1) := by decide +kernel
theorem dX0_lay_39 : decode cX0_lay 39 = .ok (.iconst 0, 1) := by decide +kernel
theorem dX0_lay_40 : decode cX0_lay 40 = .ok (.iconst 0, 1) := by decide +kernel
theorem dX0_lay_41 : decode cX0_lay 41 = .ok (.invokevirtual 43, 3) := by decide +kernel
theorem dX0_lay_44 : decode cX0_lay 44 = .ok (.pop, 1) := by decide +kernel
theorem dX0_lay_45 : decode cX0_lay 45 = .ok (.iconst 0, 1) := by decide +kernel
theorem dX0_lay_46 : decode cX0_lay 46 = .ok (.istore_n 3, 1) := by decide +kernel
theorem dX0_lay_47 : decode cX0_lay 47 = .ok (.iload_n 3, 1) := by decide +kernel
theorem dX0_lay_48 : decode cX0_lay 48 = .ok (.aload_n 1, 1) := by decide +kernel
theorem dX0_lay_49 : decode cX0_lay 49 = .ok (.invokevirtual 47, 3) := by decide +kernel
theorem dX0_lay_52 : decode cX0_lay 52 = .ok (.if_icmp .ge 89, 3) := by decide +kernel
theorem dX0_lay_55 : decode cX0_lay 55 = .ok (.aload_n 2, 1) := by decide +kernel
theorem dX0_lay_56 : decode cX0_lay 56 = .ok (.invokevirtual 51, 3) := by decide +kernel
theorem dX0_lay_59 : decode cX0_lay 59 = .ok (.ifCond .ne 82, 3) := by decide +kernel
theorem dX0_lay_62 : decode cX0_lay 62 = .ok (.aload_n 1, 1) := by decide +kernel
theorem dX0_lay_63 : decode cX0_lay 63 = .ok (.iload_n 3, 1) := by decide +kernel
theorem dX0_lay_64 : decode cX0_lay 64 = .ok (.invokevirtual 55, 3) := by decide +kernel
theorem dX0_lay_67 : decode cX0_lay 67 = .ok (.istore 4, 2) := by decide +kernel
theorem dX0_lay_69 : decode cX0_lay 69 = .ok (.iload 4, 2) := by decide +kernel
theorem dX0_lay_71 : decode cX0_lay 71 = .ok (.ifCond .ne 13, 3) := by decide +kernel
theorem dX0_lay_74 : decode cX0_lay 74 = .ok (.aload_n 0, 1) := by decide +kernel
theorem dX0_lay_75 : decode cX0_lay 75 = .ok (.iconst 2, 1) := by decide +kernel
theorem dX0_lay_76 : decode cX0_lay 76 = .ok (.iload_n 3, 1) := by decide +kernel
theorem dX0_lay_77 : decode cX0_lay 77 = .ok (.iconst 0, 1) := by decide +kernel
theorem dX0_lay_78 : decode cX0_lay 78 = .ok (.invokevirtual 59, 3) := by decide +kernel
theorem dX0_lay_81 : decode cX0_lay 81 = .ok (.goto 54, 3) := by decide +kernel
theorem dX0_lay_84 : decode cX0_lay 84 = .ok (.iload 4, 2) := by decide +kernel
theorem dX0_lay_86 : decode cX0_lay 86 = .ok (.iconst 1, 1) := by decide +kernel
theorem dX0_lay_87 : decode cX0_lay 87 = .ok (.if_icmp .ne 22, 3) := by decide +kernel
theorem dX0_lay_90 : decode cX0_lay 90 = .ok (.aload_n 0, 1) := by decide +kernel
theorem dX0_lay_91 : decode cX0_lay 91 = .ok (.iconst 1, 1) := by decide +kernel
theorem dX0_lay_92 : decode cX0_lay 92 = .ok (.iload_n 3, 1) := by decide +kernel
theorem dX0_lay_93 : decode cX0_lay 93 = .ok (.iconst (-1), 1) := by decide +kernel
theorem dX0_lay_94 : decode cX0_lay 94 = .ok (.invokevirtual 59, 3) := by decide +kernel
theorem dX0_lay_97 : decode cX0_lay 97 = .ok (.aload_n 0, 1) := by decide +kernel
theorem dX0_lay_98 : decode cX0_lay 98 = .ok (.getfield 23, 3) := by decide +kernel
theorem dX0_lay_101 : decode cX0_lay 101 = .ok (.iconst (-1), 1) := by decide +kernel
theorem dX0_lay_102 : decode cX0_lay 102 = .ok (.invokevirtual 63, 3) := by decide +kernel
theorem dX0_lay_105 : decode cX0_lay 105 = .ok (.pop, 1) := by decide +kernel
theorem dX0_lay_106 : decode cX0_lay 106 = .ok (.goto 29, 3) := by decide +kernel
theorem dX0_lay_109 : decode cX0_lay 109 = .ok (.aload_n 0, 1) := by decide +kernel
theorem dX0_lay_110 : decode cX0_lay 110 = .ok (.aload_n 0, 1) := by decide +kernel
theorem dX0_lay_111 : decode cX0_lay 111 = .ok (.aload_n 0, 1) := by decide +kernel
theorem dX0_lay_112 : decode cX0_lay 112 = .ok (.getfield 23, 3) := by decide +kernel
theorem dX0_lay_115 : decode cX0_lay 115 = .ok (.invokevirtual 47, 3) := by decide +kernel
theorem dX0_lay_118 : decode cX0_lay 118 = .ok (.iconst 1, 1) := by decide +kernel
theorem dX0_lay_119 : decode cX0_lay 119 = .ok (.isub, 1) := by decide +kernel
theorem dX0_lay_120 : decode cX0_lay 120 = .ok (.iload 4, 2) := by decide +kernel
theorem dX0_lay_122 : decode cX0_lay 122 = .ok (.iconst 2, 1) := by decide +kernel
theorem dX0_lay_123 : decode cX0_lay 123 = .ok (.isub, 1) := by decide +kernel
theorem dX0_lay_124 : decode cX0_lay 124 = .ok (.isub, 1) := by decide +kernel
theorem dX0_lay_125 : decode cX0_lay 125 = .ok (.iload_n 3, 1) := by decide +kernel
theorem dX0_lay_126 : decode cX0_lay 126 = .ok (.invokevirtual 67, 3) := by decide +kernel
theorem dX0_lay_129 : decode cX0_lay 129 = .ok (.iload_n 3, 1) := by decide +kernel
theorem dX0_lay_130 : decode cX0_lay 130 = .ok (.iconst 1, 1) := by decide +kernel
theorem dX0_lay_131 : decode cX0_lay 131 = .ok (.iadd, 1) := by decide +kernel
theorem dX0_lay_132 : decode cX0_lay 132 = .ok (.invokevirtual 70, 3) := by decide +kernel
theorem dX0_lay_135 : decode cX0_lay 135 = .ok (.iinc 3 1, 3) := by decide +kernel
theorem dX0_lay_138 : decode cX0_lay 138 = .ok (.goto (-91), 3) := by decide +kernel
theorem dX0_lay_141 : decode cX0_lay 141 = .ok (.aload_n 2, 1) := by decide +kernel
theorem dX0_lay_142 : decode cX0_lay 142 = .ok (.invokevirtual 51, 3) := by decide +kernel
theorem dX0_lay_145 : decode cX0_lay 145 = .ok (.ifCond .ne 7, 3) := by decide +kernel
theorem dX0_lay_148 : decode cX0_lay 148 = .ok (.iconst 1, 1) := by decide +kernel
theorem dX0_lay_149 : decode cX0_lay 149 = .ok (.goto 4, 3) := by decide +kernel
theorem dX0_lay_152 : decode cX0_lay 152 = .ok (.iconst 0, 1) := by decide +kernel
theorem dX0_lay_153 : decode cX0_lay 153 = .ok (.ireturn, 1) := by decide +kernel
set_option maxRecDepth 20000 in
theorem ggX0_beginFrame_X1_make : GoodIn wsX0_beginFrame wsX1_make := goodIn_r _ [8, 9, 10, 11, 12, 13, 14, 15, 16, 17, 18, 19, 20, 21, 22, 23, 24, 25, 26, 27, 28, 29, 59, 60, 61, 62, 63, 64, 65, 66, 67, 68, 69] (by decide +kernel) (by decide +kernel)
set_option maxRecDepth 20000 in
theorem gX0_beginFrame_X1_make : GoodIn wsX0_beginFrame (wsV RX0 43 RX1 yX1_make wsX1_make) := goodIn_app (goodIn_of _ (by decide +kernel)) ggX0_beginFrame_X1_make
set_option maxRecDepth 20000 in
theorem ggX0_beginFrame_X3_add : GoodIn wsX0_beginFrame wsX3_add := goodIn_r _ [33, 24, 34, 25, 35, 36, 16, 37, 38, 39, 40, 41, 42, 43, 44, 45, 46, 47, 48, 49, 50, 51, 52, 53, 67, 68, 69] (by decide +kernel) (by decide +kernel)
set_option maxRecDepth 20000 in
theorem gX0_beginFrame_X3_add : GoodIn wsX0_beginFrame (wsV RX0 63 RX3 yX3_add wsX3_add) := goodIn_app (goodIn_of _ (by decide +kernel)) ggX0_beginFrame_X3_add
theorem dX0_beginFrame_0 : decode cX0_beginFrame 0 = .ok (.aload_n 0, 1) := by decide +kernel
theorem dX0_beginFrame_1 : decode cX0_beginFrame 1 = .ok (.getfield 16, 3) := by decide +kernel
theorem dX0_beginFrame_4 : decode cX0_beginFrame 4 = .ok (.aload_n 0, 1) := by decide +kernel
theorem dX0_beginFrame_5 : decode cX0_beginFrame 5 = .ok (.getfield 30, 3) := by decide +kernel
theorem dX0_beginFrame_8 : decode cX0_beginFrame 8 = .ok (.iload_n 1, 1) := by decide +kernel
theorem dX0_beginFrame_9 : decode cX0_beginFrame 9 = .ok (.aload_n 0, 1) := by decide +kernel
theorem dX0_beginFrame_10 : decode cX0_beginFrame 10 = .ok (.getfield 26, 3) := by decide +kernel
theorem dX0_beginFrame_13 : decode cX0_beginFrame 13 = .ok (.invokevirtual 43, 3) := by decide +kernel
theorem dX0_beginFrame_16 : decode cX0_beginFrame 16 = .ok (.invokevirtual 63, 3) := by decide +kernel
theorem dX0_beginFrame_19 : decode cX0_beginFrame 19 = .ok (.pop, 1) := by decide +kernel
theorem dX0_beginFrame_20 : decode cX0_beginFrame 20 = .ok (.aload_n 0, 1) := by decide +kernel
theorem dX0_beginFrame_21 : decode cX0_beginFrame 21 = .ok (.getfield 16, 3) := by decide +kernel
theorem dX0_beginFrame_24 : decode cX0_beginFrame 24 = .ok (.iload_n 2, 1) := by decide +kernel
theorem dX0_beginFrame_25 : decode cX0_beginFrame 25 = .ok (.invokevirtual 63, 3) := by decide +kernel
theorem dX0_beginFrame_28 : decode cX0_beginFrame 28 = .ok (.pop, 1) := by decide +kernel
theorem dX0_beginFrame_29 : decode cX0_beginFrame 29 = .ok (.aload_n 0, 1) := by decide +kernel
theorem dX0_beginFrame_30 : decode cX0_beginFrame 30 = .ok (.getfield 16, 3) := by decide +kernel
theorem dX0_beginFrame_33 : decode cX0_beginFrame 33 = .ok (.iload_n 3, 1) := by decide +kernel
theorem dX0_beginFrame_34 : decode cX0_beginFrame 34 = .ok (.invokevirtual 63, 3) := by decide +kernel
theorem dX0_beginFrame_37 : decode cX0_beginFrame 37 = .ok (.pop, 1) := by decide +kernel
theorem dX0_beginFrame_38 : decode cX0_beginFrame 38 = .ok (.return_, 1) := by decide +kernel
set_option maxRecDepth 20000 in
theorem ggX0_layVariable_X1_make : GoodIn wsX0_layVariable wsX1_make := goodIn_r _ [9, 10, 11, 12, 13, 14, 15, 16, 17, 18, 19, 20, 21, 22, 23, 24, 25, 26, 27, 28, 29, 30, 66, 67, 68, 69, 70, 71, 72, 73, 74, 75, 76] (by decide +kernel) (by decide +kernel)
set_option maxRecDepth 20000 in
theorem gX0_layVariable_X1_make : GoodIn wsX0_layVariable (wsV RX0 43 RX1 yX1_make wsX1_make) := goodIn_app (goodIn_of _ (by decide +kernel)) ggX0_layVariable_X1_make
set_option maxRecDepth 20000 in
theorem ggX0_layVariable_X3_size : GoodIn wsX0_layVariable wsX3_size := goodIn_r _ [34, 25, 74, 75, 76] (by decide +kernel) (by decide +kernel)
set_option maxRecDepth 20000 in
theorem gX0_layVariable_X3_size : GoodIn wsX0_layVariable (wsV RX0 47 RX3 yX3_size wsX3_size) := goodIn_app (goodIn_of _ (by decide +kernel)) ggX0_layVariable_X3_size
set_option maxRecDepth 20000 in
theorem ggX0_layVariable_X3_add : GoodIn wsX0_layVariable wsX3_add := goodIn_r _ [38, 25, 39, 26, 40, 41, 17, 42, 43, 44, 45, 46, 47, 48, 49, 50, 51, 52, 53, 54, 55, 56, 57, 58, 74, 75, 76] (by decide +kernel) (by decide +kernel)
set_option maxRecDepth 20000 in
theorem gX0_layVariable_X3_add : GoodIn wsX0_layVariable (wsV RX0 63 RX3 yX3_add wsX3_add) := goodIn_app (goodIn_of _ (by decide +kernel)) ggX0_layVariable_X3_add
set_option maxRecDepth 20000 in
theorem ggX0_layVariable_X3_get : GoodIn wsX0_layVariable wsX3_get := goodIn_r _ [24, 25, 26, 74, 75, 76] (by decide +kernel) (by decide +kernel)
set_option maxRecDepth 20000 in
theorem gX0_layVariable_X3_get : GoodIn wsX0_layVariable (wsV RX0 55 RX3 yX3_get wsX3_get) := goodIn_app (goodIn_of _ (by decide +kernel)) ggX0_layVariable_X3_get
set_option maxRecDepth 20000 in
theorem ggX0_layVariable_X3_set : GoodIn wsX0_layVariable wsX3_set := goodIn_r _ [30, 25, 26, 74, 75, 76] (by decide +kernel) (by decide +kernel)
set_option maxRecDepth 20000 in
theorem gX0_layVariable_X3_set : GoodIn wsX0_layVariable (wsV RX0 73 RX3 yX3_set wsX3_set) := goodIn_app (goodIn_of _ (by decide +kernel)) ggX0_layVariable_X3_set
theorem dX0_layVariable_0 : decode cX0_layVariable 0 = .ok (.aload_n 0, 1) := by decide +kernel
theorem dX0_layVariable_1 : decode cX0_layVariable 1 = .ok (.getfield 30, 3) := by decide +kernel
theorem dX0_layVariable_4 : decode cX0_layVariable 4 = .ok (.iconst 5, 1) := by decide +kernel
theorem dX0_layVariable_5 : decode cX0_layVariable 5 = .ok (.aload_n 0, 1) := by decide +kernel
theorem dX0_layVariable_6 : decode cX0_layVariable 6 = .ok (.getfield 26, 3) := by decide +kernel
theorem dX0_layVariable_9 : decode cX0_layVariable 9 = .ok (.invokevirtual 43, 3) := by decide +kernel
theorem dX0_layVariable_12 : decode cX0_layVariable 12 = .ok (.istore_n 3, 1) := by decide +kernel
theorem dX0_layVariable_13 : decode cX0_layVariable 13 = .ok (.aload_n 0, 1) := by decide +kernel
theorem dX0_layVariable_14 : decode cX0_layVariable 14 = .ok (.getfield 20, 3) := by decide +kernel
theorem dX0_layVariable_17 : decode cX0_layVariable 17 = .ok (.invokevirtual 47, 3) := by decide +kernel
theorem dX0_layVariable_20 : decode cX0_layVariable 20 = .ok (.iconst 3, 1) := by decide +kernel
theorem dX0_layVariable_21 : decode cX0_layVariable 21 = .ok (.idiv, 1) := by decide +kernel
theorem dX0_layVariable_22 : decode cX0_layVariable 22 = .ok (.istore 4, 2) := by decide +kernel
theorem dX0_layVariable_24 : decode cX0_layVariable 24 = .ok (.aload_n 0, 1) := by decide +kernel
theorem dX0_layVariable_25 : decode cX0_layVariable 25 = .ok (.getfield 20, 3) := by decide +kernel
theorem dX0_layVariable_28 : decode cX0_layVariable 28 = .ok (.iconst 4, 1) := by decide +kernel
theorem dX0_layVariable_29 : decode cX0_layVariable 29 = .ok (.iload_n 3, 1) := by decide +kernel
theorem dX0_layVariable_30 : decode cX0_layVariable 30 = .ok (.imul, 1) := by decide +kernel
theorem dX0_layVariable_31 : decode cX0_layVariable 31 = .ok (.invokevirtual 63, 3) := by decide +kernel
theorem dX0_layVariable_34 : decode cX0_layVariable 34 = .ok (.pop, 1) := by decide +kernel
theorem dX0_layVariable_35 : decode cX0_layVariable 35 = .ok (.aload_n 0, 1) := by decide +kernel
theorem dX0_layVariable_36 : decode cX0_layVariable 36 = .ok (.getfield 20, 3) := by decide +kernel
theorem dX0_layVariable_39 : decode cX0_layVariable 39 = .ok (.iload_n 2, 1) := by decide +kernel
theorem dX0_layVariable_40 : decode cX0_layVariable 40 = .ok (.invokevirtual 63, 3) := by decide +kernel
theorem dX0_layVariable_43 : decode cX0_layVariable 43 = .ok (.pop, 1) := by decide +kernel
theorem dX0_layVariable_44 : decode cX0_layVariable 44 = .ok (.aload_n 0, 1) := by decide +kernel
theorem dX0_layVariable_45 : decode cX0_layVariable 45 = .ok (.getfield 20, 3) := by decide +kernel
theorem dX0_layVariable_48 : decode cX0_layVariable 48 = .ok (.aload_n 0, 1) := by decide +kernel
theorem dX0_layVariable_49 : decode cX0_layVariable 49 = .ok (.getfield 23, 3) := by decide +kernel
theorem dX0_layVariable_52 : decode cX0_layVariable 52 = .ok (.iload_n 1, 1) := by decide +kernel
theorem dX0_layVariable_53 : decode cX0_layVariable 53 = .ok (.invokevirtual 55, 3) := by decide +kernel
theorem dX0_layVariable_56 : decode cX0_layVariable 56 = .ok (.invokevirtual 63, 3) := by decide +kernel
theorem dX0_layVariable_59 : decode cX0_layVariable 59 = .ok (.pop, 1) := by decide +kernel
theorem dX0_layVariable_60 : decode cX0_layVariable 60 = .ok (.aload_n 0, 1) := by decide +kernel
theorem dX0_layVariable_61 : decode cX0_layVariable 61 = .ok (.getfield 23, 3) := by decide +kernel
theorem dX0_layVariable_64 : decode cX0_layVariable 64 = .ok (.iload_n 1, 1) := by decide +kernel
theorem dX0_layVariable_65 : decode cX0_layVariable 65 = .ok (.iload 4, 2) := by decide +kernel
theorem dX0_layVariable_67 : decode cX0_layVariable 67 = .ok (.invokevirtual 73, 3) := by decide +kernel
theorem dX0_layVariable_70 : decode cX0_layVariable 70 = .ok (.iconst 4, 1) := by decide +kernel
theorem dX0_layVariable_71 : decode cX0_layVariable 71 = .ok (.iload_n 3, 1) := by decide +kernel
theorem dX0_layVariable_72 : decode cX0_layVariable 72 = .ok (.imul, 1) := by decide +kernel
theorem dX0_layVariable_73 : decode cX0_layVariable 73 = .ok (.iconst 1, 1) := by decide +kernel
theorem dX0_layVariable_74 : decode cX0_layVariable 74 = .ok (.iadd, 1) := by decide +kernel
theorem dX0_layVariable_75 : decode cX0_layVariable 75 = .ok (.ireturn, 1) := by decide +kernel
set_option maxRecDepth 20000 in
theorem ggX0_finish_X3_size : GoodIn wsX0_finish wsX3_size := goodIn_r _ [8, 9, 69, 70, 71] (by decide +kernel) (by decide +kernel)
set_option maxRecDepth 20000 in
theorem gX0_finish_X3_size : GoodIn wsX0_finish (wsV RX0 47 RX3 yX3_size wsX3_size) := goodIn_app (goodIn_of _ (by decide +kernel)) ggX0_finish_X3_size
set_option maxRecDepth 20000 in
theorem ggX0_finish_X3_get : GoodIn wsX0_finish wsX3_get := goodIn_r _ [13, 9, 14, 69, 70, 71] (by decide +kernel) (by decide +kernel)
set_option maxRecDepth 20000 in
theorem gX0_finish_X3_get : GoodIn wsX0_finish (wsV RX0 55 RX3 yX3_get wsX3_get) := goodIn_app (goodIn_of _ (by decide +kernel)) ggX0_finish_X3_get
set_option maxRecDepth 20000 in
theorem ggX0_finish_X1_link : GoodIn wsX0_finish wsX1_link := goodIn_r _ [19, 20, 21, 22, 23, 7, 24, 9, 14, 72, 73, 74, 75, 76, 77, 78, 79, 69, 70, 71] (by decide +kernel) (by decide +kernel)
set_option maxRecDepth 20000 in
theorem gX0_finish_X1_link : GoodIn wsX0_finish (wsV RX0 76 RX1 yX1_link wsX1_link) := goodIn_app (goodIn_of _ (by decide +kernel)) ggX0_finish_X1_link
set_option maxRecDepth 20000 in
theorem ggX0_finish_X3_set : GoodIn wsX0_finish wsX3_set := goodIn_r _ [24, 9, 14, 69, 70, 71] (by decide +kernel) (by decide +kernel)
set_option maxRecDepth 20000 in
theorem gX0_finish_X3_set : GoodIn wsX0_finish (wsV RX0 73 RX3 yX3_set wsX3_set) := goodIn_app (goodIn_of _ (by decide +kernel)) ggX0_finish_X3_set
set_option maxRecDepth 20000 in
theorem ggX0_finish_X0_finishFunction : GoodIn wsX0_finish wsX0_finishFunction := goodIn_r _ [30, 31, 2, 32, 33, 34, 35, 7, 36, 9, 14, 37, 38, 39, 18, 40, 41, 42, 43, 44, 45, 46, 47, 48, 49, 50, 51, 11, 12, 13, 21, 22, 23, 24, 10, 15, 16, 17, 19, 20, 64, 65, 66, 67, 68, 69, 70, 71, 72, 73, 74, 75, 76, 77, 78, 79] (by decide +kernel) (by decide +kernel)
set_option maxRecDepth 20000 in
theorem gX0_finish_X0_finishFunction : GoodIn wsX0_finish (wsV RX0 79 RX0 yX0_finishFunction wsX0_finishFunction) := goodIn_app (goodIn_of _ (by decide +kernel)) ggX0_finish_X0_finishFunction
set_option maxRecDepth 20000 in
theorem ggX0_finish_X0_bracketEnds : GoodIn wsX0_finish wsX0_bracketEnds := goodIn_r _ [55, 31, 32, 2, 3, 4, 5, 6, 7, 8, 9, 10, 11, 12, 13, 14, 37, 38, 39, 18, 40, 41, 42, 43, 44, 45, 46, 47, 48, 49, 50, 51, 21, 22, 23, 24, 15, 16, 17, 19, 20, 25, 64, 65, 66, 67, 68, 69, 70, 71, 72, 73, 74, 75, 76, 77, 78, 79] (by decide +kernel) (by decide +kernel)
set_option maxRecDepth 20000 in
theorem gX0_finish_X0_bracketEnds : GoodIn wsX0_finish (wsV RX0 82 RX0 yX0_bracketEnds wsX0_bracketEnds) := goodIn_app (goodIn_of _ (by decide +kernel)) ggX0_finish_X0_bracketEnds
set_option maxRecDepth 20000 in
theorem ggX0_finish_X0_fanEnds : GoodIn wsX0_finish wsX0_fanEnds := goodIn_r _ [59, 31, 32, 2, 3, 4, 5, 6, 7, 8, 9, 10, 11, 12, 13, 14, 37, 38, 39, 18, 40, 41, 42, 43, 44, 45, 46, 47, 48, 49, 50, 51, 21, 22, 23, 24, 15, 16, 17, 19, 20, 25, 64, 65, 66, 67, 68, 69, 70, 71, 72, 73, 74, 75, 76, 77, 78, 79] (by decide +kernel) (by decide +kernel)
set_option maxRecDepth 20000 in
theorem gX0_finish_X0_fanEnds : GoodIn wsX0_finish (wsV RX0 85 RX0 yX0_fanEnds wsX0_fanEnds) := goodIn_app (goodIn_of _ (by decide +kernel)) ggX0_finish_X0_fanEnds
set_option maxRecDepth 20000 in
theorem ggX0_finish_X3_cut : GoodIn wsX0_finish wsX3_cut := goodIn_r _ [63, 9, 69, 70, 71] (by decide +kernel) (by decide +kernel)
set_option maxRecDepth 20000 in
theorem gX0_finish_X3_cut : GoodIn wsX0_finish (wsV RX0 39 RX3 yX3_cut wsX3_cut) := goodIn_app (goodIn_of _ (by decide +kernel)) ggX0_finish_X3_cut
theorem dX0_finish_0 : decode cX0_finish 0 = .ok (.iload_n 1, 1) := by decide +kernel
theorem dX0_finish_1 : decode cX0_finish 1 = .ok (.istore_n 3, 1) := by decide +kernel
theorem dX0_finish_2 : decode cX0_finish 2 = .ok (.aload_n 0, 1) := by decide +kernel
theorem dX0_finish_3 : decode cX0_finish 3 = .ok (.getfield 16, 3) := by decide +kernel
theorem dX0_finish_6 : decode cX0_finish 6 = .ok (.invokevirtual 47, 3) := by decide +kernel
theorem dX0_finish_9 : decode cX0_finish 9 = .ok (.iconst 3, 1) := by decide +kernel
theorem dX0_finish_10 : decode cX0_finish 10 = .ok (.isub, 1) := by decide +kernel
theorem dX0_finish_11 : decode cX0_finish 11 = .ok (.istore 4, 2) := by decide +kernel
theorem dX0_finish_13 : decode cX0_finish 13 = .ok (.iload 4, 2) := by decide +kernel
theorem dX0_finish_15 : decode cX0_finish 15 = .ok (.ifCond .lt 170, 3) := by decide +kernel
theorem dX0_finish_18 : decode cX0_finish 18 = .ok (.aload_n 0, 1) := by decide +kernel
theorem dX0_finish_19 : decode cX0_finish 19 = .ok (.getfield 16, 3) := by decide +kernel
theorem dX0_finish_22 : decode cX0_finish 22 = .ok (.iload 4, 2) := by decide +kernel
theorem dX0_finish_24 : decode cX0_finish 24 = .ok (.invokevirtual 55, 3) := by decide +kernel
theorem dX0_finish_27 : decode cX0_finish 27 = .ok (.istore 5, 2) := by decide +kernel
theorem dX0_finish_29 : decode cX0_finish 29 = .ok (.aload_n 0, 1) := by decide +kernel
theorem dX0_finish_30 : decode cX0_finish 30 = .ok (.getfield 16, 3) := by decide +kernel
theorem dX0_finish_33 : decode cX0_finish 33 = .ok (.iload 4, 2) := by decide +kernel
theorem dX0_finish_35 : decode cX0_finish 35 = .ok (.iconst 2, 1) := by decide +kernel
theorem dX0_finish_36 : decode cX0_finish 36 = .ok (.iadd, 1) := by decide +kernel
theorem dX0_finish_37 : decode cX0_finish 37 = .ok (.invokevirtual 55, 3) := by decide +kernel
theorem dX0_finish_40 : decode cX0_finish 40 = .ok (.istore 6, 2) := by decide +kernel
theorem dX0_finish_42 : decode cX0_finish 42 = .ok (.iload 6, 2) := by decide +kernel
theorem dX0_finish_44 : decode cX0_finish 44 = .ok (.ifCond .ne 38, 3) := by decide +kernel
theorem dX0_finish_47 : decode cX0_finish 47 = .ok (.aload_n 0, 1) := by decide +kernel
theorem dX0_finish_48 : decode cX0_finish 48 = .ok (.getfield 30, 3) := by decide +kernel
theorem dX0_finish_51 : decode cX0_finish 51 = .ok (.iconst 4, 1) := by decide +kernel
theorem dX0_finish_52 : decode cX0_finish 52 = .ok (.iload 5, 2) := by decide +kernel
theorem dX0_finish_54 : decode cX0_finish 54 = .ok (.imul, 1) := by decide +kernel
theorem dX0_finish_55 : decode cX0_finish 55 = .ok (.iload_n 3, 1) := by decide +kernel
theorem dX0_finish_56 : decode cX0_finish 56 = .ok (.invokevirtual 76, 3) := by decide +kernel
theorem dX0_finish_59 : decode cX0_finish 59 = .ok (.aload_n 0, 1) := by decide +kernel
theorem dX0_finish_60 : decode cX0_finish 60 = .ok (.getfield 16, 3) := by decide +kernel
theorem dX0_finish_63 : decode cX0_finish 63 = .ok (.iload 4, 2) := by decide +kernel
theorem dX0_finish_65 : decode cX0_finish 65 = .ok (.iconst 2, 1) := by decide +kernel
theorem dX0_finish_66 : decode cX0_finish 66 = .ok (.iadd, 1) := by decide +kernel
theorem dX0_finish_67 : decode cX0_finish 67 = .ok (.iload_n 2, 1) := by decide +kernel
theorem dX0_finish_68 : decode cX0_finish 68 = .ok (.invokevirtual 73, 3) := by decide +kernel
theorem dX0_finish_71 : decode cX0_finish 71 = .ok (.aload_n 0, 1) := by decide +kernel
theorem dX0_finish_72 : decode cX0_finish 72 = .ok (.dup, 1) := by decide +kernel
theorem dX0_finish_73 : decode cX0_finish 73 = .ok (.getfield 26, 3) := by decide +kernel
theorem dX0_finish_76 : decode cX0_finish 76 = .ok (.iconst 1, 1) := by decide +kernel
theorem dX0_finish_77 : decode cX0_finish 77 = .ok (.iadd, 1) := by decide +kernel
theorem dX0_finish_78 : decode cX0_finish 78 = .ok (.putfield 26, 3) := by decide +kernel
theorem dX0_finish_81 : decode cX0_finish 81 = .ok (.return_, 1) := by decide +kernel
theorem dX0_finish_82 : decode cX0_finish 82 = .ok (.iload 6, 2) := by decide +kernel
theorem dX0_finish_84 : decode cX0_finish 84 = .ok (.iconst (-1), 1) := by decide +kernel
theorem dX0_finish_85 : decode cX0_finish 85 = .ok (.if_icmp .ne 31, 3) := by decide +kernel
theorem dX0_finish_88 : decode cX0_finish 88 = .ok (.aload_n 0, 1) := by decide +kernel
theorem dX0_finish_89 : decode cX0_finish 89 = .ok (.getfield 30, 3) := by decide +kernel
theorem dX0_finish_92 : decode cX0_finish 92 = .ok (.iconst 4, 1) := by decide +kernel
theorem dX0_finish_93 : decode cX0_finish 93 = .ok (.iload 5, 2) := by decide +kernel
theorem dX0_finish_95 : decode cX0_finish 95 = .ok (.imul, 1) := by decide +kernel
theorem dX0_finish_96 : decode cX0_finish 96 = .ok (.iconst 1, 1) := by decide +kernel
theorem dX0_finish_97 : decode cX0_finish 97 = .ok (.iadd, 1) := by decide +kernel
theorem dX0_finish_98 : decode cX0_finish 98 = .ok (.iload_n 3, 1) := by decide +kernel
theorem dX0_finish_99 : decode cX0_finish 99 = .ok (.invokevirtual 76, 3) := by decide +kernel
theorem dX0_finish_102 : decode cX0_finish 102 = .ok (.aload_n 0, 1) := by decide +kernel
theorem dX0_finish_103 : decode cX0_finish 103 = .ok (.iload 5, 2) := by decide +kernel
theorem dX0_finish_105 : decode cX0_finish 105 = .ok (.invokevirtual 79, 3) := by decide +kernel
theorem dX0_finish_108 : decode cX0_finish 108 = .ok (.iconst 4, 1) := by decide +kernel
theorem dX0_finish_109 : decode cX0_finish 109 = .ok (.iload 5, 2) := by decide +kernel
theorem dX0_finish_111 : decode cX0_finish 111 = .ok (.imul, 1) := by decide +kernel
theorem dX0_finish_112 : decode cX0_finish 112 = .ok (.istore_n 3, 1) := by decide +kernel
theorem dX0_finish_113 : decode cX0_finish 113 = .ok (.goto 57, 3) := by decide +kernel
theorem dX0_finish_116 : decode cX0_finish 116 = .ok (.aload_n 0, 1) := by decide +kernel
theorem dX0_finish_117 : decode cX0_finish 117 = .ok (.getfield 30, 3) := by decide +kernel
theorem dX0_finish_120 : decode cX0_finish 120 = .ok (.iconst 4, 1) := by decide +kernel
theorem dX0_finish_121 : decode cX0_finish 121 = .ok (.iload 5, 2) := by decide +kernel
theorem dX0_finish_123 : decode cX0_finish 123 = .ok (.imul, 1) := by decide +kernel
theorem dX0_finish_124 : decode cX0_finish 124 = .ok (.iconst 2, 1) := by decide +kernel
theorem dX0_finish_125 : decode cX0_finish 125 = .ok (.iadd, 1) := by decide +kernel
theorem dX0_finish_126 : decode cX0_finish 126 = .ok (.iload_n 3, 1) := by decide +kernel
theorem dX0_finish_127 : decode cX0_finish 127 = .ok (.invokevirtual 76, 3) := by decide +kernel
theorem dX0_finish_130 : decode cX0_finish 130 = .ok (.aload_n 0, 1) := by decide +kernel
theorem dX0_finish_131 : decode cX0_finish 131 = .ok (.dup, 1) := by decide +kernel
theorem dX0_finish_132 : decode cX0_finish 132 = .ok (.getfield 26, 3) := by decide +kernel
theorem dX0_finish_135 : decode cX0_finish 135 = .ok (.iconst 1, 1) := by decide +kernel
theorem dX0_finish_136 : decode cX0_finish 136 = .ok (.isub, 1) := by decide +kernel
theorem dX0_finish_137 : decode cX0_finish 137 = .ok (.putfield 26, 3) := by decide +kernel
theorem dX0_finish_140 : decode cX0_finish 140 = .ok (.aload_n 0, 1) := by decide +kernel
theorem dX0_finish_141 : decode cX0_finish 141 = .ok (.iload 6, 2) := by decide +kernel
theorem dX0_finish_143 : decode cX0_finish 143 = .ok (.invokevirtual 82, 3) := by decide +kernel
theorem dX0_finish_146 : decode cX0_finish 146 = .ok (.aload_n 0, 1) := by decide +kernel
theorem dX0_finish_147 : decode cX0_finish 147 = .ok (.aload_n 0, 1) := by decide +kernel
theorem dX0_finish_148 : decode cX0_finish 148 = .ok (.getfield 16, 3) := by decide +kernel
theorem dX0_finish_151 : decode cX0_finish 151 = .ok (.iload 4, 2) := by decide +kernel
theorem dX0_finish_153 : decode cX0_finish 153 = .ok (.iconst 1, 1) := by decide +kernel
theorem dX0_finish_154 : decode cX0_finish 154 = .ok (.iadd, 1) := by decide +kernel
theorem dX0_finish_155 : decode cX0_finish 155 = .ok (.invokevirtual 55, 3) := by decide +kernel
theorem dX0_finish_158 : decode cX0_finish 158 = .ok (.iload 6, 2) := by decide +kernel
theorem dX0_finish_160 : decode cX0_finish 160 = .ok (.invokevirtual 85, 3) := by decide +kernel
theorem dX0_finish_163 : decode cX0_finish 163 = .ok (.iconst 4, 1) := by decide +kernel
theorem dX0_finish_164 : decode cX0_finish 164 = .ok (.iload 5, 2) := by decide +kernel
theorem dX0_finish_166 : decode cX0_finish 166 = .ok (.imul, 1) := by decide +kernel
theorem dX0_finish_167 : decode cX0_finish 167 = .ok (.iconst 1, 1) := by decide +kernel
theorem dX0_finish_168 : decode cX0_finish 168 = .ok (.iadd, 1) := by decide +kernel
theorem dX0_finish_169 : decode cX0_finish 169 = .ok (.istore_n 3, 1) := by decide +kernel
theorem dX0_finish_170 : decode cX0_finish 170 = .ok (.aload_n 0, 1) := by decide +kernel
theorem dX0_finish_171 : decode cX0_finish 171 = .ok (.getfield 16, 3) := by decide +kernel
theorem dX0_finish_174 : decode cX0_finish 174 = .ok (.iload 4, 2) := by decide +kernel
theorem dX0_finish_176 : decode cX0_finish 176 = .ok (.invokevirtual 39, 3) := by decide +kernel
theorem dX0_finish_179 : decode cX0_finish 179 = .ok (.iinc 4 (-3), 3) := by decide +kernel
theorem dX0_finish_182 : decode cX0_finish 182 = .ok (.goto (-169), 3) := by decide +kernel
theorem dX0_finish_185 : decode cX0_finish 185 = .ok (.aload_n 0, 1) := by decide +kernel
theorem dX0_finish_186 : decode cX0_finish 186 = .ok (.getfield 30, 3) := by decide +kernel
theorem dX0_finish_189 : decode cX0_finish 189 = .ok (.iconst 0, 1) := by decide +kernel
theorem dX0_finish_190 : decode cX0_finish 190 = .ok (.iload_n 3, 1) := by decide +kernel
theorem dX0_finish_191 : decode cX0_finish 191 = .ok (.invokevirtual 76, 3) := by decide +kernel
theorem dX0_finish_194 : decode cX0_finish 194 = .ok (.return_, 1) := by decide +kernel
set_option maxRecDepth 20000 in
theorem ggX0_finishFunction_X3_takeLast : GoodIn wsX0_finishFunction wsX3_takeLast := goodIn_r _ [8, 9, 10, 45, 46, 47] (by decide +kernel) (by decide +kernel)
set_option maxRecDepth 20000 in
theorem gX0_finishFunction_X3_takeLast : GoodIn wsX0_finishFunction (wsV RX0 88 RX3 yX3_takeLast wsX3_takeLast) := goodIn_app (goodIn_of _ (by decide +kernel)) ggX0_finishFunction_X3_takeLast
set_option maxRecDepth 20000 in
theorem ggX0_finishFunction_X1_make : GoodIn wsX0_finishFunction wsX1_make := goodIn_r _ [15, 16, 17, 18, 19, 20, 21, 22, 23, 24, 25, 26, 27, 28, 7, 29, 9, 10, 30, 31, 32, 33, 48, 49, 50, 51, 52, 53, 54, 55, 45, 46, 47] (by decide +kernel) (by decide +kernel)
set_option maxRecDepth 20000 in
theorem gX0_finishFunction_X1_make : GoodIn wsX0_finishFunction (wsV RX0 43 RX1 yX1_make wsX1_make) := goodIn_app (goodIn_of _ (by decide +kernel)) ggX0_finishFunction_X1_make
set_option maxRecDepth 20000 in
theorem ggX0_finishFunction_X3_get : GoodIn wsX0_finishFunction wsX3_get := goodIn_r _ [29, 9, 10, 45, 46, 47] (by decide +kernel) (by decide +kernel)
set_option maxRecDepth 20000 in
theorem gX0_finishFunction_X3_get : GoodIn wsX0_finishFunction (wsV RX0 55 RX3 yX3_get wsX3_get) := goodIn_app (goodIn_of _ (by decide +kernel)) ggX0_finishFunction_X3_get
set_option maxRecDepth 20000 in
theorem ggX0_finishFunction_X1_link : GoodIn wsX0_finishFunction wsX1_link := goodIn_r _ [38, 39, 30, 31, 32, 7, 33, 9, 10, 48, 49, 50, 51, 52, 53, 54, 55, 45, 46, 47] (by decide +kernel) (by decide +kernel)
set_option maxRecDepth 20000 in
theorem gX0_finishFunction_X1_link : GoodIn wsX0_finishFunction (wsV RX0 76 RX1 yX1_link wsX1_link) := goodIn_app (goodIn_of _ (by decide +kernel)) ggX0_finishFunction_X1_link
theorem dX0_finishFunction_0 : decode cX0_finishFunction 0 = .ok (.aload_n 0, 1) := by decide +kernel
