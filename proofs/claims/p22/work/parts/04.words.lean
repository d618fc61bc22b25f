/-! the words of the tables, each by its place; what a call needs, by its callee -/
/-- all words that stay true under a shift of what has been resolved -/
def GW : List Cond := lw_tbl.filter goodWord
theorem gw_good : ∀ w ∈ GW, (w.onTables && w.keeps) = true ∨ ∃ ty, w = .arrayClass ty := fun w h => good_of_word (List.mem_filter.mp h).2
theorem gw_tbl : ∀ w ∈ GW, w ∈ lw_tbl := fun w h => (List.mem_filter.mp h).1
theorem gw_of {w : Cond} (h : w ∈ lw_tbl) (g : goodWord w = true) : w ∈ GW := List.mem_filter.mpr ⟨h, g⟩
theorem gw_1 {w : Cond} {i : Nat} (h : tables_1_1[i]? = some w) (g : goodWord w = true) : w ∈ GW := gw_of (List.mem_append_right _ (List.mem_append_left _ (List.mem_of_getElem? h))) g
theorem gw_2 {w : Cond} {i : Nat} (h : tables_1_2[i]? = some w) (g : goodWord w = true) : w ∈ GW := gw_of (List.mem_append_right _ (List.mem_append_right _ (List.mem_of_getElem? h))) g
theorem gw_p {y : MethodName} {q : MethodName × Nat} {i : Nat} (h : (k2_sels lw_privs)[i]? = some (.selects y.cls y y)) : Cond.selects y.cls y y ∈ GW := gw_of (List.mem_append_left _ (List.mem_of_getElem? h)) rfl
theorem gw_self (c0 : Cond) {ws : List Cond} (g : GoodIn GW ws) : GoodIn (c0 :: GW) ws := fun w h => ⟨List.mem_cons_of_mem _ (g w h).1, (g w h).2⟩
theorem gw_cons {c0 : Cond} (h : c0 ∈ GW) : GoodIn GW (c0 :: GW) := fun w hw => (List.mem_cons.mp hw).elim (fun e => by subst e; exact ⟨h, gw_good _ h⟩) (fun hw => ⟨hw, gw_good _ hw⟩)
theorem gw_list {a : List Cond} (h : ∀ w ∈ a, w ∈ GW) : GoodIn GW a := fun w hw => ⟨h w hw, gw_good _ (h w hw)⟩
theorem gw_V {own C : String} {idx : Nat} {y : MethodName} {c0 : Cond} (h1 : Cond.methodLink own idx y ∈ GW) (h2 : Cond.instanceMethod y ∈ GW) (h3 : Cond.selects C y y ∈ GW) (h4 : Cond.initialized C ∈ GW) (h5 : c0 ∈ GW) : GoodIn GW (wsV own idx C y (c0 :: GW)) := goodIn_app (gw_list (fun w hw => by simp only [List.mem_cons, List.not_mem_nil, or_false] at hw; rcases hw with rfl | rfl | rfl | rfl <;> assumption)) (gw_cons h5)
theorem gw_S {own : String} {idx : Nat} {y : MethodName} {c0 : Cond} (h1 : Cond.methodLink own idx y ∈ GW) (h2 : Cond.static y ∈ GW) (h3 : Cond.initialized y.cls ∈ GW) (h5 : c0 ∈ GW) : GoodIn GW (va_wsS own idx y (c0 :: GW)) := goodIn_app (gw_list (fun w hw => by simp only [List.mem_cons, List.not_mem_nil, or_false] at hw; rcases hw with rfl | rfl | rfl <;> assumption)) (gw_cons h5)
theorem wd_0 : Cond.classLink RL 9 RX0 ∈ GW := gw_1 (i := 10) rfl rfl
theorem wd_1 : Cond.instantiable RX0 4 ∈ GW := gw_1 (i := 11) rfl rfl
theorem wd_2 : Cond.initialized RX0 ∈ GW := gw_1 (i := 1) rfl rfl
theorem wd_3 : Cond.constant RL 31 (-99999) ∈ GW := gw_2 (i := 5) rfl rfl
theorem wd_4 : Cond.methodLink RL 98 yX0_init ∈ GW := gw_1 (i := 12) rfl rfl
theorem wd_5 : Cond.instanceMethod yX0_init ∈ GW := gw_1 (i := 13) rfl rfl
theorem wd_6 : Cond.code yX0_init cX0_init 2 none ∈ GW := gw_1 (i := 14) rfl rfl
theorem wd_7 : Cond.methodLink RX0 3 objectInit ∈ GW := gw_1 (i := 15) rfl rfl
theorem wd_8 : Cond.instanceMethod objectInit ∈ GW := gw_1 (i := 16) rfl rfl
theorem wd_9 : Cond.code objectInit ⟨#[0xb1]⟩ 1 none ∈ GW := gw_1 (i := 17) (by decide +kernel) rfl
theorem wd_10 : Cond.constant RX0 9 (57600) ∈ GW := gw_1 (i := 18) rfl rfl
theorem wd_11 : Cond.arrayClass .int ∈ GW := gw_1 (i := 32) rfl rfl
theorem wd_12 : Cond.fieldLink RX0 10 "Twotimes" "known" "[I" ∈ GW := gw_1 (i := 19) rfl rfl
theorem wd_13 : Cond.fieldLink RX0 14 "Twotimes" "keptOn" "[I" ∈ GW := gw_1 (i := 20) rfl rfl
theorem wd_14 : Cond.fieldLink RX0 17 "Twotimes" "draft" "[I" ∈ GW := gw_1 (i := 21) rfl rfl
theorem wd_15 : Cond.methodLink RL 99 yL_cell ∈ GW := gw_1 (i := 37) rfl rfl
theorem wd_16 : Cond.static yL_cell ∈ GW := gw_1 (i := 38) rfl rfl
theorem wd_17 : Cond.initialized RL ∈ GW := gw_1 (i := 0) rfl rfl
theorem wd_18 : Cond.code yL_cell cL_cell 2 (some .int) ∈ GW := gw_1 (i := 39) rfl rfl
theorem wd_19 : Cond.methodLink RL 103 yL_act ∈ GW := gw_1 (i := 44) rfl rfl
theorem wd_20 : Cond.static yL_act ∈ GW := gw_1 (i := 45) rfl rfl
theorem wd_21 : Cond.code yL_act cL_act 8 (some .int) ∈ GW := gw_1 (i := 46) rfl rfl
theorem wd_22 : Cond.methodLink RL 44 yL_low ∈ GW := gw_1 (i := 40) rfl rfl
theorem wd_23 : Cond.static yL_low ∈ GW := gw_1 (i := 41) rfl rfl
theorem wd_24 : Cond.code yL_low cL_low 2 (some .int) ∈ GW := gw_1 (i := 42) rfl rfl
theorem wd_25 : Cond.constant RL 7 (2147483647) ∈ GW := gw_1 (i := 43) rfl rfl
theorem wd_26 : Cond.methodLink RL 50 yL_does ∈ GW := gw_1 (i := 47) rfl rfl
theorem wd_27 : Cond.static yL_does ∈ GW := gw_1 (i := 48) rfl rfl
theorem wd_28 : Cond.codeWith yL_does cL_does 8 (some .int) [(0, 76, 77, 29), (0, 76, 82, 32), (0, 76, 87, 34)] ∈ GW := gw_1 (i := 49) rfl rfl
theorem wd_29 : Cond.classLink RL 29 "java/lang/IllegalArgumentException" ∈ GW := gw_1 (i := 50) rfl rfl
theorem wd_30 : Cond.classLink RL 32 "java/lang/IndexOutOfBoundsException" ∈ GW := gw_1 (i := 51) rfl rfl
theorem wd_31 : Cond.classLink RL 34 "java/lang/IllegalStateException" ∈ GW := gw_1 (i := 52) rfl rfl
theorem wd_32 : Cond.methodLink RL 8 yX0_put ∈ GW := gw_1 (i := 53) rfl rfl
theorem wd_33 : Cond.instanceMethod yX0_put ∈ GW := gw_1 (i := 54) rfl rfl
theorem wd_34 : Cond.selects RX0 yX0_put yX0_put ∈ GW := gw_1 (i := 55) rfl rfl
theorem wd_35 : Cond.code yX0_put cX0_put 6 (some .int) ∈ GW := gw_1 (i := 56) rfl rfl
theorem wd_36 : Cond.methodLink RX0 20 yX0_needTableAndKey ∈ GW := gw_1 (i := 57) rfl rfl
theorem wd_37 : Cond.static yX0_needTableAndKey ∈ GW := gw_1 (i := 58) rfl rfl
theorem wd_38 : Cond.code yX0_needTableAndKey cX0_needTableAndKey 2 none ∈ GW := gw_1 (i := 59) rfl rfl
theorem wd_39 : Cond.methodLink RX0 28 yX0_needRange ∈ GW := gw_1 (i := 60) rfl rfl
theorem wd_40 : Cond.static yX0_needRange ∈ GW := gw_1 (i := 61) rfl rfl
theorem wd_41 : Cond.code yX0_needRange cX0_needRange 2 none ∈ GW := gw_1 (i := 62) rfl rfl
theorem wd_42 : Cond.classLink RX0 55 "java/lang/IllegalArgumentException" ∈ GW := gw_1 (i := 63) rfl rfl
theorem wd_43 : Cond.initialized "java/lang/IllegalArgumentException" ∈ GW := gw_1 (i := 5) rfl rfl
theorem wd_44 : Cond.methodLink RX0 24 yX0_valuesOf ∈ GW := gw_1 (i := 131) rfl rfl
theorem wd_45 : Cond.static yX0_valuesOf ∈ GW := gw_1 (i := 132) rfl rfl
theorem wd_46 : Cond.code yX0_valuesOf cX0_valuesOf 1 (some .int) ∈ GW := gw_1 (i := 133) rfl rfl
theorem wd_47 : Cond.methodLink RX0 31 yX0_needSpan ∈ GW := gw_1 (i := 134) rfl rfl
theorem wd_48 : Cond.static yX0_needSpan ∈ GW := gw_1 (i := 135) rfl rfl
theorem wd_49 : Cond.code yX0_needSpan cX0_needSpan 2 none ∈ GW := gw_1 (i := 136) rfl rfl
theorem wd_50 : Cond.methodLink RX0 34 yX0_line ∈ GW := gw_1 (i := 138) rfl rfl
theorem wd_51 : Cond.static yX0_line ∈ GW := gw_1 (i := 139) rfl rfl
theorem wd_52 : Cond.code yX0_line cX0_line 2 (some .int) ∈ GW := gw_1 (i := 140) rfl rfl
theorem wd_53 : Cond.methodLink RX0 38 yX0_draftSpan ∈ GW := gw_1 (i := 141) rfl rfl
theorem wd_54 : Cond.instanceMethod yX0_draftSpan ∈ GW := gw_1 (i := 143) rfl rfl
theorem wd_55 : Cond.selects RX0 yX0_draftSpan yX0_draftSpan ∈ GW := gw_of (List.mem_append_left _ (List.mem_of_getElem? (i := 1) (by decide +kernel))) rfl
theorem wd_56 : Cond.code yX0_draftSpan cX0_draftSpan 6 none ∈ GW := gw_1 (i := 144) rfl rfl
theorem wd_57 : Cond.fieldLink RX0 62 "Twotimes" "today" "I" ∈ GW := gw_1 (i := 22) rfl rfl
theorem wd_58 : Cond.methodLink RX0 77 yX0_knownOn ∈ GW := gw_1 (i := 145) rfl rfl
theorem wd_59 : Cond.instanceMethod yX0_knownOn ∈ GW := gw_1 (i := 147) rfl rfl
theorem wd_60 : Cond.selects RX0 yX0_knownOn yX0_knownOn ∈ GW := gw_of (List.mem_append_left _ (List.mem_of_getElem? (i := 2) (by decide +kernel))) rfl
theorem wd_61 : Cond.code yX0_knownOn cX0_knownOn 5 (some .int) ∈ GW := gw_1 (i := 148) rfl rfl
theorem wd_62 : Cond.methodLink RX0 140 yX0_index ∈ GW := gw_1 (i := 149) rfl rfl
theorem wd_63 : Cond.static yX0_index ∈ GW := gw_1 (i := 150) rfl rfl
theorem wd_64 : Cond.code yX0_index cX0_index 3 (some .int) ∈ GW := gw_1 (i := 151) rfl rfl
theorem wd_65 : Cond.methodLink RX0 42 yX0_recordDraft ∈ GW := gw_1 (i := 152) rfl rfl
theorem wd_66 : Cond.instanceMethod yX0_recordDraft ∈ GW := gw_1 (i := 154) rfl rfl
theorem wd_67 : Cond.selects RX0 yX0_recordDraft yX0_recordDraft ∈ GW := gw_of (List.mem_append_left _ (List.mem_of_getElem? (i := 3) (by decide +kernel))) rfl
theorem wd_68 : Cond.code yX0_recordDraft cX0_recordDraft 6 (some .int) ∈ GW := gw_1 (i := 155) rfl rfl
theorem wd_69 : Cond.classLink RX0 66 "java/lang/IllegalStateException" ∈ GW := gw_1 (i := 164) rfl rfl
theorem wd_70 : Cond.initialized "java/lang/IllegalStateException" ∈ GW := gw_1 (i := 6) rfl rfl
theorem wd_71 : Cond.methodLink RX0 149 yX0_draftKeepsReferences ∈ GW := gw_1 (i := 156) rfl rfl
theorem wd_72 : Cond.instanceMethod yX0_draftKeepsReferences ∈ GW := gw_1 (i := 158) rfl rfl
theorem wd_73 : Cond.selects RX0 yX0_draftKeepsReferences yX0_draftKeepsReferences ∈ GW := gw_of (List.mem_append_left _ (List.mem_of_getElem? (i := 4) (by decide +kernel))) rfl
theorem wd_74 : Cond.code yX0_draftKeepsReferences cX0_draftKeepsReferences 5 (some .boolean) ∈ GW := gw_1 (i := 159) rfl rfl
theorem wd_75 : Cond.methodLink RX0 159 yX0_isReferredTo ∈ GW := gw_1 (i := 160) rfl rfl
theorem wd_76 : Cond.instanceMethod yX0_isReferredTo ∈ GW := gw_1 (i := 162) rfl rfl
theorem wd_77 : Cond.selects RX0 yX0_isReferredTo yX0_isReferredTo ∈ GW := gw_of (List.mem_append_left _ (List.mem_of_getElem? (i := 5) (by decide +kernel))) rfl
theorem wd_78 : Cond.code yX0_isReferredTo cX0_isReferredTo 4 (some .boolean) ∈ GW := gw_1 (i := 163) rfl rfl
theorem wd_79 : Cond.methodLink RX0 155 yX0_recordToday ∈ GW := gw_1 (i := 180) rfl rfl
theorem wd_80 : Cond.instanceMethod yX0_recordToday ∈ GW := gw_1 (i := 182) rfl rfl
theorem wd_81 : Cond.selects RX0 yX0_recordToday yX0_recordToday ∈ GW := gw_of (List.mem_append_left _ (List.mem_of_getElem? (i := 6) (by decide +kernel))) rfl
theorem wd_82 : Cond.code yX0_recordToday cX0_recordToday 5 none ∈ GW := gw_1 (i := 183) rfl rfl
theorem wd_83 : Cond.methodLink RL 14 yX0_erase ∈ GW := gw_1 (i := 184) rfl rfl
theorem wd_84 : Cond.instanceMethod yX0_erase ∈ GW := gw_1 (i := 185) rfl rfl
theorem wd_85 : Cond.selects RX0 yX0_erase yX0_erase ∈ GW := gw_1 (i := 186) rfl rfl
theorem wd_86 : Cond.code yX0_erase cX0_erase 5 (some .int) ∈ GW := gw_1 (i := 187) rfl rfl
theorem wd_87 : Cond.methodLink RL 18 yX0_eraseAll ∈ GW := gw_1 (i := 188) rfl rfl
theorem wd_88 : Cond.instanceMethod yX0_eraseAll ∈ GW := gw_1 (i := 189) rfl rfl
theorem wd_89 : Cond.selects RX0 yX0_eraseAll yX0_eraseAll ∈ GW := gw_1 (i := 190) rfl rfl
theorem wd_90 : Cond.code yX0_eraseAll cX0_eraseAll 6 (some .int) ∈ GW := gw_1 (i := 191) rfl rfl
theorem wd_91 : Cond.methodLink RX0 45 yX0_loseWithReferences ∈ GW := gw_1 (i := 192) rfl rfl
theorem wd_92 : Cond.instanceMethod yX0_loseWithReferences ∈ GW := gw_1 (i := 194) rfl rfl
theorem wd_93 : Cond.selects RX0 yX0_loseWithReferences yX0_loseWithReferences ∈ GW := gw_of (List.mem_append_left _ (List.mem_of_getElem? (i := 7) (by decide +kernel))) rfl
theorem wd_94 : Cond.code yX0_loseWithReferences cX0_loseWithReferences 5 (some .int) ∈ GW := gw_1 (i := 195) rfl rfl
theorem wd_95 : Cond.methodLink RX0 162 yX0_lose ∈ GW := gw_1 (i := 196) rfl rfl
theorem wd_96 : Cond.instanceMethod yX0_lose ∈ GW := gw_1 (i := 198) rfl rfl
theorem wd_97 : Cond.selects RX0 yX0_lose yX0_lose ∈ GW := gw_of (List.mem_append_left _ (List.mem_of_getElem? (i := 8) (by decide +kernel))) rfl
theorem wd_98 : Cond.code yX0_lose cX0_lose 3 (some .int) ∈ GW := gw_1 (i := 199) rfl rfl
theorem wd_99 : Cond.methodLink RL 22 yX0_restore ∈ GW := gw_1 (i := 200) rfl rfl
theorem wd_100 : Cond.instanceMethod yX0_restore ∈ GW := gw_1 (i := 201) rfl rfl
theorem wd_101 : Cond.selects RX0 yX0_restore yX0_restore ∈ GW := gw_1 (i := 202) rfl rfl
theorem wd_102 : Cond.code yX0_restore cX0_restore 4 (some .int) ∈ GW := gw_1 (i := 203) rfl rfl
theorem wd_103 : Cond.methodLink RX0 48 yX0_needRecord ∈ GW := gw_1 (i := 204) rfl rfl
theorem wd_104 : Cond.instanceMethod yX0_needRecord ∈ GW := gw_1 (i := 206) rfl rfl
theorem wd_105 : Cond.selects RX0 yX0_needRecord yX0_needRecord ∈ GW := gw_of (List.mem_append_left _ (List.mem_of_getElem? (i := 9) (by decide +kernel))) rfl
theorem wd_106 : Cond.code yX0_needRecord cX0_needRecord 2 none ∈ GW := gw_1 (i := 207) rfl rfl
theorem wd_107 : Cond.classLink RX0 91 "java/lang/IndexOutOfBoundsException" ∈ GW := gw_1 (i := 208) rfl rfl
theorem wd_108 : Cond.initialized "java/lang/IndexOutOfBoundsException" ∈ GW := gw_1 (i := 7) rfl rfl
theorem wd_109 : Cond.methodLink RX0 52 yX0_draftRecord ∈ GW := gw_1 (i := 224) rfl rfl
theorem wd_110 : Cond.instanceMethod yX0_draftRecord ∈ GW := gw_1 (i := 226) rfl rfl
theorem wd_111 : Cond.selects RX0 yX0_draftRecord yX0_draftRecord ∈ GW := gw_of (List.mem_append_left _ (List.mem_of_getElem? (i := 10) (by decide +kernel))) rfl
theorem wd_112 : Cond.code yX0_draftRecord cX0_draftRecord 4 none ∈ GW := gw_1 (i := 227) rfl rfl
theorem wd_113 : Cond.methodLink RL 25 yX0_pass ∈ GW := gw_1 (i := 228) rfl rfl
theorem wd_114 : Cond.instanceMethod yX0_pass ∈ GW := gw_1 (i := 229) rfl rfl
theorem wd_115 : Cond.selects RX0 yX0_pass yX0_pass ∈ GW := gw_1 (i := 230) rfl rfl
theorem wd_116 : Cond.code yX0_pass cX0_pass 4 (some .int) ∈ GW := gw_1 (i := 231) rfl rfl
theorem wd_117 : Cond.methodLink RX0 71 yX0_keepOn ∈ GW := gw_1 (i := 234) rfl rfl
theorem wd_118 : Cond.instanceMethod yX0_keepOn ∈ GW := gw_1 (i := 236) rfl rfl
theorem wd_119 : Cond.selects RX0 yX0_keepOn yX0_keepOn ∈ GW := gw_of (List.mem_append_left _ (List.mem_of_getElem? (i := 11) (by decide +kernel))) rfl
theorem wd_120 : Cond.code yX0_keepOn cX0_keepOn 3 none ∈ GW := gw_1 (i := 237) rfl rfl
theorem wd_121 : Cond.methodLink RX0 74 yX0_copyDay ∈ GW := gw_1 (i := 238) rfl rfl
theorem wd_122 : Cond.instanceMethod yX0_copyDay ∈ GW := gw_2 (i := 0) rfl rfl
theorem wd_123 : Cond.selects RX0 yX0_copyDay yX0_copyDay ∈ GW := gw_of (List.mem_append_left _ (List.mem_of_getElem? (i := 12) (by decide +kernel))) rfl
theorem wd_124 : Cond.code yX0_copyDay cX0_copyDay 3 none ∈ GW := gw_2 (i := 1) rfl rfl
theorem wd_125 : Cond.methodLink RX0 143 arraycopyName ∈ GW := gw_2 (i := 2) rfl rfl
theorem wd_126 : Cond.native arraycopyName ∈ GW := gw_2 (i := 4) rfl rfl
theorem wd_127 : Cond.static arraycopyName ∈ GW := gw_2 (i := 3) rfl rfl
theorem wd_128 : Cond.initialized "java/lang/System" ∈ GW := gw_1 (i := 8) rfl rfl
theorem wd_129 : Cond.methodLink RL 54 yX0_today ∈ GW := gw_1 (i := 33) rfl rfl
theorem wd_130 : Cond.instanceMethod yX0_today ∈ GW := gw_1 (i := 34) rfl rfl
theorem wd_131 : Cond.selects RX0 yX0_today yX0_today ∈ GW := gw_1 (i := 35) rfl rfl
theorem wd_132 : Cond.code yX0_today cX0_today 1 (some .int) ∈ GW := gw_1 (i := 36) rfl rfl
theorem wd_133 : Cond.methodLink RL 107 yL_areAlike ∈ GW := gw_2 (i := 6) rfl rfl
theorem wd_134 : Cond.static yL_areAlike ∈ GW := gw_2 (i := 7) rfl rfl
theorem wd_135 : Cond.code yL_areAlike cL_areAlike 5 (some .boolean) ∈ GW := gw_2 (i := 8) rfl rfl
theorem wd_136 : Cond.methodLink RL 58 yX0_rows ∈ GW := gw_2 (i := 9) rfl rfl
theorem wd_137 : Cond.instanceMethod yX0_rows ∈ GW := gw_2 (i := 10) rfl rfl
theorem wd_138 : Cond.selects RX0 yX0_rows yX0_rows ∈ GW := gw_2 (i := 11) rfl rfl
theorem wd_139 : Cond.code yX0_rows cX0_rows 7 (some .int) ∈ GW := gw_2 (i := 12) rfl rfl
theorem wd_140 : Cond.methodLink RX0 102 yX0_isKept ∈ GW := gw_2 (i := 13) rfl rfl
theorem wd_141 : Cond.instanceMethod yX0_isKept ∈ GW := gw_2 (i := 15) rfl rfl
theorem wd_142 : Cond.selects RX0 yX0_isKept yX0_isKept ∈ GW := gw_of (List.mem_append_left _ (List.mem_of_getElem? (i := 13) (by decide +kernel))) rfl
theorem wd_143 : Cond.code yX0_isKept cX0_isKept 2 (some .boolean) ∈ GW := gw_2 (i := 16) rfl rfl
theorem wd_144 : Cond.methodLink RX0 106 yX0_startsRow ∈ GW := gw_2 (i := 17) rfl rfl
theorem wd_145 : Cond.instanceMethod yX0_startsRow ∈ GW := gw_2 (i := 19) rfl rfl
theorem wd_146 : Cond.selects RX0 yX0_startsRow yX0_startsRow ∈ GW := gw_of (List.mem_append_left _ (List.mem_of_getElem? (i := 14) (by decide +kernel))) rfl
theorem wd_147 : Cond.code yX0_startsRow cX0_startsRow 4 (some .boolean) ∈ GW := gw_2 (i := 20) rfl rfl
theorem wd_148 : Cond.methodLink RX0 84 yX0_startsRun ∈ GW := gw_2 (i := 21) rfl rfl
theorem wd_149 : Cond.instanceMethod yX0_startsRun ∈ GW := gw_2 (i := 23) rfl rfl
theorem wd_150 : Cond.selects RX0 yX0_startsRun yX0_startsRun ∈ GW := gw_of (List.mem_append_left _ (List.mem_of_getElem? (i := 15) (by decide +kernel))) rfl
theorem wd_151 : Cond.code yX0_startsRun cX0_startsRun 5 (some .boolean) ∈ GW := gw_2 (i := 24) rfl rfl
theorem wd_152 : Cond.methodLink RX0 118 yX0_sameRun ∈ GW := gw_2 (i := 25) rfl rfl
theorem wd_153 : Cond.instanceMethod yX0_sameRun ∈ GW := gw_2 (i := 27) rfl rfl
theorem wd_154 : Cond.selects RX0 yX0_sameRun yX0_sameRun ∈ GW := gw_of (List.mem_append_left _ (List.mem_of_getElem? (i := 16) (by decide +kernel))) rfl
theorem wd_155 : Cond.code yX0_sameRun cX0_sameRun 5 (some .boolean) ∈ GW := gw_2 (i := 28) rfl rfl
theorem wd_156 : Cond.methodLink RX0 124 yX0_endOfRun ∈ GW := gw_2 (i := 29) rfl rfl
theorem wd_157 : Cond.instanceMethod yX0_endOfRun ∈ GW := gw_2 (i := 31) rfl rfl
theorem wd_158 : Cond.selects RX0 yX0_endOfRun yX0_endOfRun ∈ GW := gw_of (List.mem_append_left _ (List.mem_of_getElem? (i := 17) (by decide +kernel))) rfl
theorem wd_159 : Cond.code yX0_endOfRun cX0_endOfRun 6 (some .int) ∈ GW := gw_2 (i := 32) rfl rfl
theorem wd_160 : Cond.methodLink RL 61 yX0_runs ∈ GW := gw_2 (i := 33) rfl rfl
theorem wd_161 : Cond.instanceMethod yX0_runs ∈ GW := gw_2 (i := 34) rfl rfl
theorem wd_162 : Cond.selects RX0 yX0_runs yX0_runs ∈ GW := gw_2 (i := 35) rfl rfl
theorem wd_163 : Cond.code yX0_runs cX0_runs 7 (some .int) ∈ GW := gw_2 (i := 36) rfl rfl
theorem wd_164 : Cond.methodLink RL 64 yX0_longest ∈ GW := gw_2 (i := 37) rfl rfl
theorem wd_165 : Cond.instanceMethod yX0_longest ∈ GW := gw_2 (i := 38) rfl rfl
theorem wd_166 : Cond.selects RX0 yX0_longest yX0_longest ∈ GW := gw_2 (i := 39) rfl rfl
theorem wd_167 : Cond.code yX0_longest cX0_longest 7 (some .int) ∈ GW := gw_2 (i := 40) rfl rfl
theorem wd_168 : Cond.methodLink RX0 127 Lib.Math.max.name ∈ GW := gw_2 (i := 41) rfl rfl
theorem wd_169 : Cond.static Lib.Math.max.name ∈ GW := gw_2 (i := 42) rfl rfl
theorem wd_170 : Cond.initialized "java/lang/Math" ∈ GW := gw_1 (i := 9) rfl rfl
theorem wd_171 : Cond.code Lib.Math.max.name Lib.Math.max.code 2 (some .int) ∈ GW := gw_2 (i := 43) (by decide +kernel) rfl
theorem wd_172 : Cond.methodLink RL 67 yX0_value ∈ GW := gw_2 (i := 44) rfl rfl
theorem wd_173 : Cond.instanceMethod yX0_value ∈ GW := gw_2 (i := 45) rfl rfl
theorem wd_174 : Cond.selects RX0 yX0_value yX0_value ∈ GW := gw_2 (i := 46) rfl rfl
theorem wd_175 : Cond.code yX0_value cX0_value 5 (some .int) ∈ GW := gw_2 (i := 47) rfl rfl
theorem wd_176 : Cond.methodLink RL 111 yL_areValuesSo ∈ GW := gw_2 (i := 48) rfl rfl
theorem wd_177 : Cond.static yL_areValuesSo ∈ GW := gw_2 (i := 49) rfl rfl
theorem wd_178 : Cond.code yL_areValuesSo cL_areValuesSo 9 (some .boolean) ∈ GW := gw_2 (i := 50) rfl rfl
theorem wd_179 : Cond.methodLink RL 70 yX0_keys ∈ GW := gw_2 (i := 51) rfl rfl
theorem wd_180 : Cond.instanceMethod yX0_keys ∈ GW := gw_2 (i := 52) rfl rfl
theorem wd_181 : Cond.selects RX0 yX0_keys yX0_keys ∈ GW := gw_2 (i := 53) rfl rfl
theorem wd_182 : Cond.code yX0_keys cX0_keys 6 (some .int) ∈ GW := gw_2 (i := 54) rfl rfl
theorem wd_183 : Cond.methodLink RL 73 yX0_joined ∈ GW := gw_2 (i := 55) rfl rfl
theorem wd_184 : Cond.instanceMethod yX0_joined ∈ GW := gw_2 (i := 56) rfl rfl
theorem wd_185 : Cond.selects RX0 yX0_joined yX0_joined ∈ GW := gw_2 (i := 57) rfl rfl
theorem wd_186 : Cond.code yX0_joined cX0_joined 4 (some .int) ∈ GW := gw_2 (i := 58) rfl rfl
theorem wd_187 : Cond.methodLink RX0 81 yX0_joinedOn ∈ GW := gw_2 (i := 59) rfl rfl
theorem wd_188 : Cond.instanceMethod yX0_joinedOn ∈ GW := gw_2 (i := 61) rfl rfl
theorem wd_189 : Cond.selects RX0 yX0_joinedOn yX0_joinedOn ∈ GW := gw_of (List.mem_append_left _ (List.mem_of_getElem? (i := 18) (by decide +kernel))) rfl
theorem wd_190 : Cond.code yX0_joinedOn cX0_joinedOn 5 (some .int) ∈ GW := gw_2 (i := 62) rfl rfl
theorem wd_191 : Cond.methodLink RL 115 yL_areRunsSo ∈ GW := gw_2 (i := 63) rfl rfl
theorem wd_192 : Cond.static yL_areRunsSo ∈ GW := gw_2 (i := 64) rfl rfl
theorem wd_193 : Cond.code yL_areRunsSo cL_areRunsSo 14 (some .boolean) ∈ GW := gw_2 (i := 65) rfl rfl
theorem wd_194 : Cond.constantFloat RL 43 (3212836864) ∈ GW := gw_2 (i := 95) rfl rfl
theorem wd_195 : Cond.methodLink RL 76 yX0_run ∈ GW := gw_2 (i := 66) rfl rfl
theorem wd_196 : Cond.instanceMethod yX0_run ∈ GW := gw_2 (i := 67) rfl rfl
theorem wd_197 : Cond.selects RX0 yX0_run yX0_run ∈ GW := gw_2 (i := 68) rfl rfl
theorem wd_198 : Cond.code yX0_run cX0_run 7 (some .int) ∈ GW := gw_2 (i := 69) rfl rfl
theorem wd_199 : Cond.methodLink RX0 88 yX0_firstDayOfRun ∈ GW := gw_2 (i := 70) rfl rfl
theorem wd_200 : Cond.instanceMethod yX0_firstDayOfRun ∈ GW := gw_2 (i := 72) rfl rfl
theorem wd_201 : Cond.selects RX0 yX0_firstDayOfRun yX0_firstDayOfRun ∈ GW := gw_of (List.mem_append_left _ (List.mem_of_getElem? (i := 19) (by decide +kernel))) rfl
theorem wd_202 : Cond.code yX0_firstDayOfRun cX0_firstDayOfRun 6 (some .int) ∈ GW := gw_2 (i := 73) rfl rfl
theorem wd_203 : Cond.methodLink RX0 96 yX0_runNumber ∈ GW := gw_2 (i := 75) rfl rfl
theorem wd_204 : Cond.instanceMethod yX0_runNumber ∈ GW := gw_2 (i := 77) rfl rfl
theorem wd_205 : Cond.selects RX0 yX0_runNumber yX0_runNumber ∈ GW := gw_of (List.mem_append_left _ (List.mem_of_getElem? (i := 20) (by decide +kernel))) rfl
theorem wd_206 : Cond.code yX0_runNumber cX0_runNumber 4 (some .int) ∈ GW := gw_2 (i := 78) rfl rfl
theorem wd_207 : Cond.methodLink RL 79 yX0_joinedRuns ∈ GW := gw_2 (i := 79) rfl rfl
theorem wd_208 : Cond.instanceMethod yX0_joinedRuns ∈ GW := gw_2 (i := 80) rfl rfl
theorem wd_209 : Cond.selects RX0 yX0_joinedRuns yX0_joinedRuns ∈ GW := gw_2 (i := 81) rfl rfl
theorem wd_210 : Cond.code yX0_joinedRuns cX0_joinedRuns 5 (some .int) ∈ GW := gw_2 (i := 82) rfl rfl
theorem wd_211 : Cond.methodLink RX0 99 yX0_startsJoinedRun ∈ GW := gw_2 (i := 83) rfl rfl
theorem wd_212 : Cond.instanceMethod yX0_startsJoinedRun ∈ GW := gw_2 (i := 85) rfl rfl
theorem wd_213 : Cond.selects RX0 yX0_startsJoinedRun yX0_startsJoinedRun ∈ GW := gw_of (List.mem_append_left _ (List.mem_of_getElem? (i := 21) (by decide +kernel))) rfl
theorem wd_214 : Cond.code yX0_startsJoinedRun cX0_startsJoinedRun 4 (some .boolean) ∈ GW := gw_2 (i := 86) rfl rfl
theorem wd_215 : Cond.methodLink RL 82 yL_average ∈ GW := gw_2 (i := 87) rfl rfl
theorem wd_216 : Cond.static yL_average ∈ GW := gw_2 (i := 88) rfl rfl
theorem wd_217 : Cond.codeWith yL_average cL_average 4 (some .float) [(0, 6, 7, 34)] ∈ GW := gw_2 (i := 89) rfl rfl
theorem wd_218 : Cond.methodLink RL 39 yX0_average ∈ GW := gw_2 (i := 90) rfl rfl
theorem wd_219 : Cond.instanceMethod yX0_average ∈ GW := gw_2 (i := 91) rfl rfl
theorem wd_220 : Cond.selects RX0 yX0_average yX0_average ∈ GW := gw_2 (i := 92) rfl rfl
theorem wd_221 : Cond.code yX0_average cX0_average 7 (some .float) ∈ GW := gw_2 (i := 93) rfl rfl
theorem wd_222 : Cond.methodLink RL 119 yL_isRestoredSo ∈ GW := gw_2 (i := 128) rfl rfl
theorem wd_223 : Cond.static yL_isRestoredSo ∈ GW := gw_2 (i := 129) rfl rfl
theorem wd_224 : Cond.code yL_isRestoredSo cL_isRestoredSo 10 (some .boolean) ∈ GW := gw_2 (i := 130) rfl rfl
theorem wd_225 : Cond.methodLink RL 123 yL_areRowsSo ∈ GW := gw_2 (i := 96) rfl rfl
theorem wd_226 : Cond.static yL_areRowsSo ∈ GW := gw_2 (i := 97) rfl rfl
theorem wd_227 : Cond.code yL_areRowsSo cL_areRowsSo 11 (some .boolean) ∈ GW := gw_2 (i := 98) rfl rfl
theorem wd_228 : Cond.methodLink RL 85 yL_rowRun ∈ GW := gw_2 (i := 99) rfl rfl
theorem wd_229 : Cond.static yL_rowRun ∈ GW := gw_2 (i := 100) rfl rfl
theorem wd_230 : Cond.codeWith yL_rowRun cL_rowRun 5 (some .int) [(0, 7, 8, 32)] ∈ GW := gw_2 (i := 101) rfl rfl
theorem wd_231 : Cond.methodLink RL 36 yX0_rowRun ∈ GW := gw_2 (i := 102) rfl rfl
theorem wd_232 : Cond.instanceMethod yX0_rowRun ∈ GW := gw_2 (i := 103) rfl rfl
theorem wd_233 : Cond.selects RX0 yX0_rowRun yX0_rowRun ∈ GW := gw_2 (i := 104) rfl rfl
theorem wd_234 : Cond.code yX0_rowRun cX0_rowRun 6 (some .int) ∈ GW := gw_2 (i := 105) rfl rfl
theorem wd_235 : Cond.methodLink RX0 109 yX0_startOfRow ∈ GW := gw_2 (i := 106) rfl rfl
theorem wd_236 : Cond.instanceMethod yX0_startOfRow ∈ GW := gw_2 (i := 108) rfl rfl
theorem wd_237 : Cond.selects RX0 yX0_startOfRow yX0_startOfRow ∈ GW := gw_of (List.mem_append_left _ (List.mem_of_getElem? (i := 22) (by decide +kernel))) rfl
theorem wd_238 : Cond.code yX0_startOfRow cX0_startOfRow 6 (some .int) ∈ GW := gw_2 (i := 109) rfl rfl
theorem wd_239 : Cond.methodLink RX0 112 yX0_recordOfStart ∈ GW := gw_2 (i := 111) rfl rfl
theorem wd_240 : Cond.static yX0_recordOfStart ∈ GW := gw_2 (i := 112) rfl rfl
theorem wd_241 : Cond.code yX0_recordOfStart cX0_recordOfStart 1 (some .int) ∈ GW := gw_2 (i := 113) rfl rfl
theorem wd_242 : Cond.methodLink RX0 115 yX0_validOfStart ∈ GW := gw_2 (i := 114) rfl rfl
theorem wd_243 : Cond.static yX0_validOfStart ∈ GW := gw_2 (i := 115) rfl rfl
theorem wd_244 : Cond.code yX0_validOfStart cX0_validOfStart 1 (some .int) ∈ GW := gw_2 (i := 116) rfl rfl
theorem wd_245 : Cond.methodLink RL 88 yX0_rowFrom ∈ GW := gw_2 (i := 117) rfl rfl
theorem wd_246 : Cond.instanceMethod yX0_rowFrom ∈ GW := gw_2 (i := 118) rfl rfl
theorem wd_247 : Cond.selects RX0 yX0_rowFrom yX0_rowFrom ∈ GW := gw_2 (i := 119) rfl rfl
theorem wd_248 : Cond.code yX0_rowFrom cX0_rowFrom 4 (some .int) ∈ GW := gw_2 (i := 120) rfl rfl
theorem wd_249 : Cond.methodLink RL 91 yX0_rowTo ∈ GW := gw_2 (i := 121) rfl rfl
theorem wd_250 : Cond.instanceMethod yX0_rowTo ∈ GW := gw_2 (i := 122) rfl rfl
theorem wd_251 : Cond.selects RX0 yX0_rowTo yX0_rowTo ∈ GW := gw_2 (i := 123) rfl rfl
theorem wd_252 : Cond.code yX0_rowTo cX0_rowTo 9 (some .int) ∈ GW := gw_2 (i := 124) rfl rfl
theorem wd_253 : Cond.methodLink RL 94 yL_hasRun ∈ GW := gw_2 (i := 125) rfl rfl
theorem wd_254 : Cond.static yL_hasRun ∈ GW := gw_2 (i := 126) rfl rfl
theorem wd_255 : Cond.code yL_hasRun cL_hasRun 9 (some .boolean) ∈ GW := gw_2 (i := 127) rfl rfl
theorem g_L_L_cell : GoodIn GW (va_wsS RL 99 yL_cell (Cond.code yL_cell cL_cell 2 (some .int) :: GW)) := gw_S wd_15 wd_16 wd_17 wd_18
theorem g_L_L_act : GoodIn GW (va_wsS RL 103 yL_act (Cond.code yL_act cL_act 8 (some .int) :: GW)) := gw_S wd_19 wd_20 wd_17 wd_21
theorem g_L_L_low : GoodIn GW (va_wsS RL 44 yL_low (Cond.code yL_low cL_low 2 (some .int) :: GW)) := gw_S wd_22 wd_23 wd_17 wd_24
theorem g_L_L_does : GoodIn GW (va_wsS RL 50 yL_does (Cond.codeWith yL_does cL_does 8 (some .int) [(0, 76, 77, 29), (0, 76, 82, 32), (0, 76, 87, 34)] :: GW)) := gw_S wd_26 wd_27 wd_17 wd_28
theorem g_L_X0_put : GoodIn GW (wsV RL 8 RX0 yX0_put (Cond.code yX0_put cX0_put 6 (some .int) :: GW)) := gw_V wd_32 wd_33 wd_34 wd_2 wd_35
theorem g_X0_X0_needTableAndKey : GoodIn GW (va_wsS RX0 20 yX0_needTableAndKey (Cond.code yX0_needTableAndKey cX0_needTableAndKey 2 none :: GW)) := gw_S wd_36 wd_37 wd_2 wd_38
theorem g_X0_X0_needRange : GoodIn GW (va_wsS RX0 28 yX0_needRange (Cond.code yX0_needRange cX0_needRange 2 none :: GW)) := gw_S wd_39 wd_40 wd_2 wd_41
theorem g_X0_X0_valuesOf : GoodIn GW (va_wsS RX0 24 yX0_valuesOf (Cond.code yX0_valuesOf cX0_valuesOf 1 (some .int) :: GW)) := gw_S wd_44 wd_45 wd_2 wd_46
theorem g_X0_X0_needSpan : GoodIn GW (va_wsS RX0 31 yX0_needSpan (Cond.code yX0_needSpan cX0_needSpan 2 none :: GW)) := gw_S wd_47 wd_48 wd_2 wd_49
theorem g_X0_X0_line : GoodIn GW (va_wsS RX0 34 yX0_line (Cond.code yX0_line cX0_line 2 (some .int) :: GW)) := gw_S wd_50 wd_51 wd_2 wd_52
theorem g_X0_X0_draftSpan : GoodIn GW (wsV RX0 38 RX0 yX0_draftSpan (Cond.code yX0_draftSpan cX0_draftSpan 6 none :: GW)) := gw_V wd_53 wd_54 wd_55 wd_2 wd_56
theorem g_X0_X0_knownOn : GoodIn GW (wsV RX0 77 RX0 yX0_knownOn (Cond.code yX0_knownOn cX0_knownOn 5 (some .int) :: GW)) := gw_V wd_58 wd_59 wd_60 wd_2 wd_61
theorem g_X0_X0_index : GoodIn GW (va_wsS RX0 140 yX0_index (Cond.code yX0_index cX0_index 3 (some .int) :: GW)) := gw_S wd_62 wd_63 wd_2 wd_64
theorem g_X0_X0_recordDraft : GoodIn GW (wsV RX0 42 RX0 yX0_recordDraft (Cond.code yX0_recordDraft cX0_recordDraft 6 (some .int) :: GW)) := gw_V wd_65 wd_66 wd_67 wd_2 wd_68
theorem g_X0_X0_draftKeepsReferences : GoodIn GW (wsV RX0 149 RX0 yX0_draftKeepsReferences (Cond.code yX0_draftKeepsReferences cX0_draftKeepsReferences 5 (some .boolean) :: GW)) := gw_V wd_71 wd_72 wd_73 wd_2 wd_74
theorem g_X0_X0_isReferredTo : GoodIn GW (wsV RX0 159 RX0 yX0_isReferredTo (Cond.code yX0_isReferredTo cX0_isReferredTo 4 (some .boolean) :: GW)) := gw_V wd_75 wd_76 wd_77 wd_2 wd_78
theorem g_X0_X0_recordToday : GoodIn GW (wsV RX0 155 RX0 yX0_recordToday (Cond.code yX0_recordToday cX0_recordToday 5 none :: GW)) := gw_V wd_79 wd_80 wd_81 wd_2 wd_82
theorem g_L_X0_erase : GoodIn GW (wsV RL 14 RX0 yX0_erase (Cond.code yX0_erase cX0_erase 5 (some .int) :: GW)) := gw_V wd_83 wd_84 wd_85 wd_2 wd_86
theorem g_L_X0_eraseAll : GoodIn GW (wsV RL 18 RX0 yX0_eraseAll (Cond.code yX0_eraseAll cX0_eraseAll 6 (some .int) :: GW)) := gw_V wd_87 wd_88 wd_89 wd_2 wd_90
theorem g_X0_X0_loseWithReferences : GoodIn GW (wsV RX0 45 RX0 yX0_loseWithReferences (Cond.code yX0_loseWithReferences cX0_loseWithReferences 5 (some .int) :: GW)) := gw_V wd_91 wd_92 wd_93 wd_2 wd_94
theorem g_X0_X0_lose : GoodIn GW (wsV RX0 162 RX0 yX0_lose (Cond.code yX0_lose cX0_lose 3 (some .int) :: GW)) := gw_V wd_95 wd_96 wd_97 wd_2 wd_98
theorem g_L_X0_restore : GoodIn GW (wsV RL 22 RX0 yX0_restore (Cond.code yX0_restore cX0_restore 4 (some .int) :: GW)) := gw_V wd_99 wd_100 wd_101 wd_2 wd_102
theorem g_X0_X0_needRecord : GoodIn GW (wsV RX0 48 RX0 yX0_needRecord (Cond.code yX0_needRecord cX0_needRecord 2 none :: GW)) := gw_V wd_103 wd_104 wd_105 wd_2 wd_106
theorem g_X0_X0_draftRecord : GoodIn GW (wsV RX0 52 RX0 yX0_draftRecord (Cond.code yX0_draftRecord cX0_draftRecord 4 none :: GW)) := gw_V wd_109 wd_110 wd_111 wd_2 wd_112
theorem g_L_X0_pass : GoodIn GW (wsV RL 25 RX0 yX0_pass (Cond.code yX0_pass cX0_pass 4 (some .int) :: GW)) := gw_V wd_113 wd_114 wd_115 wd_2 wd_116
theorem g_X0_X0_keepOn : GoodIn GW (wsV RX0 71 RX0 yX0_keepOn (Cond.code yX0_keepOn cX0_keepOn 3 none :: GW)) := gw_V wd_117 wd_118 wd_119 wd_2 wd_120
theorem g_X0_X0_copyDay : GoodIn GW (wsV RX0 74 RX0 yX0_copyDay (Cond.code yX0_copyDay cX0_copyDay 3 none :: GW)) := gw_V wd_121 wd_122 wd_123 wd_2 wd_124
theorem g_L_X0_today : GoodIn GW (wsV RL 54 RX0 yX0_today (Cond.code yX0_today cX0_today 1 (some .int) :: GW)) := gw_V wd_129 wd_130 wd_131 wd_2 wd_132
theorem g_L_L_areAlike : GoodIn GW (va_wsS RL 107 yL_areAlike (Cond.code yL_areAlike cL_areAlike 5 (some .boolean) :: GW)) := gw_S wd_133 wd_134 wd_17 wd_135
theorem g_L_X0_rows : GoodIn GW (wsV RL 58 RX0 yX0_rows (Cond.code yX0_rows cX0_rows 7 (some .int) :: GW)) := gw_V wd_136 wd_137 wd_138 wd_2 wd_139
theorem g_X0_X0_isKept : GoodIn GW (wsV RX0 102 RX0 yX0_isKept (Cond.code yX0_isKept cX0_isKept 2 (some .boolean) :: GW)) := gw_V wd_140 wd_141 wd_142 wd_2 wd_143
theorem g_X0_X0_startsRow : GoodIn GW (wsV RX0 106 RX0 yX0_startsRow (Cond.code yX0_startsRow cX0_startsRow 4 (some .boolean) :: GW)) := gw_V wd_144 wd_145 wd_146 wd_2 wd_147
theorem g_X0_X0_startsRun : GoodIn GW (wsV RX0 84 RX0 yX0_startsRun (Cond.code yX0_startsRun cX0_startsRun 5 (some .boolean) :: GW)) := gw_V wd_148 wd_149 wd_150 wd_2 wd_151
theorem g_X0_X0_sameRun : GoodIn GW (wsV RX0 118 RX0 yX0_sameRun (Cond.code yX0_sameRun cX0_sameRun 5 (some .boolean) :: GW)) := gw_V wd_152 wd_153 wd_154 wd_2 wd_155
theorem g_X0_X0_endOfRun : GoodIn GW (wsV RX0 124 RX0 yX0_endOfRun (Cond.code yX0_endOfRun cX0_endOfRun 6 (some .int) :: GW)) := gw_V wd_156 wd_157 wd_158 wd_2 wd_159
theorem g_L_X0_runs : GoodIn GW (wsV RL 61 RX0 yX0_runs (Cond.code yX0_runs cX0_runs 7 (some .int) :: GW)) := gw_V wd_160 wd_161 wd_162 wd_2 wd_163
theorem g_L_X0_longest : GoodIn GW (wsV RL 64 RX0 yX0_longest (Cond.code yX0_longest cX0_longest 7 (some .int) :: GW)) := gw_V wd_164 wd_165 wd_166 wd_2 wd_167
theorem g_L_X0_value : GoodIn GW (wsV RL 67 RX0 yX0_value (Cond.code yX0_value cX0_value 5 (some .int) :: GW)) := gw_V wd_172 wd_173 wd_174 wd_2 wd_175
theorem g_L_L_areValuesSo : GoodIn GW (va_wsS RL 111 yL_areValuesSo (Cond.code yL_areValuesSo cL_areValuesSo 9 (some .boolean) :: GW)) := gw_S wd_176 wd_177 wd_17 wd_178
theorem g_L_X0_keys : GoodIn GW (wsV RL 70 RX0 yX0_keys (Cond.code yX0_keys cX0_keys 6 (some .int) :: GW)) := gw_V wd_179 wd_180 wd_181 wd_2 wd_182
theorem g_L_X0_joined : GoodIn GW (wsV RL 73 RX0 yX0_joined (Cond.code yX0_joined cX0_joined 4 (some .int) :: GW)) := gw_V wd_183 wd_184 wd_185 wd_2 wd_186
theorem g_X0_X0_joinedOn : GoodIn GW (wsV RX0 81 RX0 yX0_joinedOn (Cond.code yX0_joinedOn cX0_joinedOn 5 (some .int) :: GW)) := gw_V wd_187 wd_188 wd_189 wd_2 wd_190
theorem g_L_L_areRunsSo : GoodIn GW (va_wsS RL 115 yL_areRunsSo (Cond.code yL_areRunsSo cL_areRunsSo 14 (some .boolean) :: GW)) := gw_S wd_191 wd_192 wd_17 wd_193
theorem g_L_X0_run : GoodIn GW (wsV RL 76 RX0 yX0_run (Cond.code yX0_run cX0_run 7 (some .int) :: GW)) := gw_V wd_195 wd_196 wd_197 wd_2 wd_198
theorem g_X0_X0_firstDayOfRun : GoodIn GW (wsV RX0 88 RX0 yX0_firstDayOfRun (Cond.code yX0_firstDayOfRun cX0_firstDayOfRun 6 (some .int) :: GW)) := gw_V wd_199 wd_200 wd_201 wd_2 wd_202
theorem g_X0_X0_runNumber : GoodIn GW (wsV RX0 96 RX0 yX0_runNumber (Cond.code yX0_runNumber cX0_runNumber 4 (some .int) :: GW)) := gw_V wd_203 wd_204 wd_205 wd_2 wd_206
theorem g_L_X0_joinedRuns : GoodIn GW (wsV RL 79 RX0 yX0_joinedRuns (Cond.code yX0_joinedRuns cX0_joinedRuns 5 (some .int) :: GW)) := gw_V wd_207 wd_208 wd_209 wd_2 wd_210
theorem g_X0_X0_startsJoinedRun : GoodIn GW (wsV RX0 99 RX0 yX0_startsJoinedRun (Cond.code yX0_startsJoinedRun cX0_startsJoinedRun 4 (some .boolean) :: GW)) := gw_V wd_211 wd_212 wd_213 wd_2 wd_214
theorem g_L_L_average : GoodIn GW (va_wsS RL 82 yL_average (Cond.codeWith yL_average cL_average 4 (some .float) [(0, 6, 7, 34)] :: GW)) := gw_S wd_215 wd_216 wd_17 wd_217
theorem g_L_X0_average : GoodIn GW (wsV RL 39 RX0 yX0_average (Cond.code yX0_average cX0_average 7 (some .float) :: GW)) := gw_V wd_218 wd_219 wd_220 wd_2 wd_221
theorem g_L_L_isRestoredSo : GoodIn GW (va_wsS RL 119 yL_isRestoredSo (Cond.code yL_isRestoredSo cL_isRestoredSo 10 (some .boolean) :: GW)) := gw_S wd_222 wd_223 wd_17 wd_224
theorem g_L_L_areRowsSo : GoodIn GW (va_wsS RL 123 yL_areRowsSo (Cond.code yL_areRowsSo cL_areRowsSo 11 (some .boolean) :: GW)) := gw_S wd_225 wd_226 wd_17 wd_227
theorem g_L_L_rowRun : GoodIn GW (va_wsS RL 85 yL_rowRun (Cond.codeWith yL_rowRun cL_rowRun 5 (some .int) [(0, 7, 8, 32)] :: GW)) := gw_S wd_228 wd_229 wd_17 wd_230
theorem g_L_X0_rowRun : GoodIn GW (wsV RL 36 RX0 yX0_rowRun (Cond.code yX0_rowRun cX0_rowRun 6 (some .int) :: GW)) := gw_V wd_231 wd_232 wd_233 wd_2 wd_234
theorem g_X0_X0_startOfRow : GoodIn GW (wsV RX0 109 RX0 yX0_startOfRow (Cond.code yX0_startOfRow cX0_startOfRow 6 (some .int) :: GW)) := gw_V wd_235 wd_236 wd_237 wd_2 wd_238
theorem g_X0_X0_recordOfStart : GoodIn GW (va_wsS RX0 112 yX0_recordOfStart (Cond.code yX0_recordOfStart cX0_recordOfStart 1 (some .int) :: GW)) := gw_S wd_239 wd_240 wd_2 wd_241
theorem g_X0_X0_validOfStart : GoodIn GW (va_wsS RX0 115 yX0_validOfStart (Cond.code yX0_validOfStart cX0_validOfStart 1 (some .int) :: GW)) := gw_S wd_242 wd_243 wd_2 wd_244
theorem g_L_X0_rowFrom : GoodIn GW (wsV RL 88 RX0 yX0_rowFrom (Cond.code yX0_rowFrom cX0_rowFrom 4 (some .int) :: GW)) := gw_V wd_245 wd_246 wd_247 wd_2 wd_248
theorem g_L_X0_rowTo : GoodIn GW (wsV RL 91 RX0 yX0_rowTo (Cond.code yX0_rowTo cX0_rowTo 9 (some .int) :: GW)) := gw_V wd_249 wd_250 wd_251 wd_2 wd_252
theorem g_L_L_hasRun : GoodIn GW (va_wsS RL 94 yL_hasRun (Cond.code yL_hasRun cL_hasRun 9 (some .boolean) :: GW)) := gw_S wd_253 wd_254 wd_17 wd_255
theorem inX0 : ∀ w ∈ wsX00, w ∈ GW := by decide +kernel
