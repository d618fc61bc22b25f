/-! the words of the tables, each by its place; what a call needs, by its callee -/
/-- all words that stay true under a shift of what has been resolved -/
def GW : List Cond := lw_tbl.filter goodWord
theorem gw_good : ∀ w ∈ GW, (w.onTables && w.keeps) = true ∨ ∃ ty, w = .arrayClass ty := fun w h => good_of_word (List.mem_filter.mp h).2
theorem gw_tbl : ∀ w ∈ GW, w ∈ lw_tbl := fun w h => (List.mem_filter.mp h).1
theorem gw_of {w : Cond} (h : w ∈ lw_tbl) (g : goodWord w = true) : w ∈ GW := List.mem_filter.mpr ⟨h, g⟩
theorem gw_1 {w : Cond} {i : Nat} (h : tables_1_1[i]? = some w) (g : goodWord w = true) : w ∈ GW := gw_of (List.mem_append_right _ (List.mem_append_left _ (List.mem_of_getElem? h))) g
theorem gw_2 {w : Cond} {i : Nat} (h : tables_1_2[i]? = some w) (g : goodWord w = true) : w ∈ GW := gw_of (List.mem_append_right _ (List.mem_append_right _ (List.mem_append_left _ (List.mem_of_getElem? h)))) g
theorem gw_3 {w : Cond} {i : Nat} (h : tables_1_3[i]? = some w) (g : goodWord w = true) : w ∈ GW := gw_of (List.mem_append_right _ (List.mem_append_right _ (List.mem_append_right _ (List.mem_of_getElem? h)))) g
theorem gw_p {y : MethodName} {q : MethodName × Nat} {i : Nat} (h : (k2_sels lw_privs)[i]? = some (.selects y.cls y y)) : Cond.selects y.cls y y ∈ GW := gw_of (List.mem_append_left _ (List.mem_of_getElem? h)) rfl
theorem gw_self (c0 : Cond) {ws : List Cond} (g : GoodIn GW ws) : GoodIn (c0 :: GW) ws := fun w h => ⟨List.mem_cons_of_mem _ (g w h).1, (g w h).2⟩
theorem gw_cons {c0 : Cond} (h : c0 ∈ GW) : GoodIn GW (c0 :: GW) := fun w hw => (List.mem_cons.mp hw).elim (fun e => by subst e; exact ⟨h, gw_good _ h⟩) (fun hw => ⟨hw, gw_good _ hw⟩)
theorem gw_list {a : List Cond} (h : ∀ w ∈ a, w ∈ GW) : GoodIn GW a := fun w hw => ⟨h w hw, gw_good _ (h w hw)⟩
theorem gw_V {own C : String} {idx : Nat} {y : MethodName} {c0 : Cond} (h1 : Cond.methodLink own idx y ∈ GW) (h2 : Cond.instanceMethod y ∈ GW) (h3 : Cond.selects C y y ∈ GW) (h4 : Cond.initialized C ∈ GW) (h5 : c0 ∈ GW) : GoodIn GW (wsV own idx C y (c0 :: GW)) := goodIn_app (gw_list (fun w hw => by simp only [List.mem_cons, List.not_mem_nil, or_false] at hw; rcases hw with rfl | rfl | rfl | rfl <;> assumption)) (gw_cons h5)
theorem gw_S {own : String} {idx : Nat} {y : MethodName} {c0 : Cond} (h1 : Cond.methodLink own idx y ∈ GW) (h2 : Cond.static y ∈ GW) (h3 : Cond.initialized y.cls ∈ GW) (h5 : c0 ∈ GW) : GoodIn GW (va_wsS own idx y (c0 :: GW)) := goodIn_app (gw_list (fun w hw => by simp only [List.mem_cons, List.not_mem_nil, or_false] at hw; rcases hw with rfl | rfl | rfl <;> assumption)) (gw_cons h5)
theorem wd_0 : Cond.classLink RL 8 RX0 ∈ GW := gw_1 (i := 11) rfl rfl
theorem wd_1 : Cond.instantiable RX0 4 ∈ GW := gw_1 (i := 12) rfl rfl
theorem wd_2 : Cond.initialized RX0 ∈ GW := gw_1 (i := 1) rfl rfl
theorem wd_3 : Cond.classLink RL 76 RX1 ∈ GW := gw_2 (i := 152) rfl rfl
theorem wd_4 : Cond.instantiable RX1 6 ∈ GW := gw_2 (i := 153) rfl rfl
theorem wd_5 : Cond.initialized RX1 ∈ GW := gw_1 (i := 2) rfl rfl
theorem wd_6 : Cond.arrayClass .long ∈ GW := gw_3 (i := 93) rfl rfl
theorem wd_7 : Cond.arrayClass .double ∈ GW := gw_3 (i := 94) rfl rfl
theorem wd_8 : Cond.methodLink RL 75 yX0_init ∈ GW := gw_1 (i := 13) rfl rfl
theorem wd_9 : Cond.instanceMethod yX0_init ∈ GW := gw_1 (i := 14) rfl rfl
theorem wd_10 : Cond.code yX0_init cX0_init 2 none ∈ GW := gw_1 (i := 15) rfl rfl
theorem wd_11 : Cond.methodLink RX0 3 objectInit ∈ GW := gw_1 (i := 16) rfl rfl
theorem wd_12 : Cond.instanceMethod objectInit ∈ GW := gw_1 (i := 17) rfl rfl
theorem wd_13 : Cond.code objectInit ⟨#[0xb1]⟩ 1 none ∈ GW := gw_1 (i := 18) (by decide +kernel) rfl
theorem wd_14 : Cond.constant RX0 9 (57600) ∈ GW := gw_1 (i := 19) rfl rfl
theorem wd_15 : Cond.arrayClass .int ∈ GW := gw_1 (i := 33) rfl rfl
theorem wd_16 : Cond.fieldLink RX0 10 "Twotimes" "known" "[I" ∈ GW := gw_1 (i := 20) rfl rfl
theorem wd_17 : Cond.fieldLink RX0 14 "Twotimes" "keptOn" "[I" ∈ GW := gw_1 (i := 21) rfl rfl
theorem wd_18 : Cond.fieldLink RX0 17 "Twotimes" "draft" "[I" ∈ GW := gw_1 (i := 22) rfl rfl
theorem wd_19 : Cond.methodLink RL 78 yX1_init ∈ GW := gw_2 (i := 154) rfl rfl
theorem wd_20 : Cond.instanceMethod yX1_init ∈ GW := gw_2 (i := 155) rfl rfl
theorem wd_21 : Cond.code yX1_init cX1_init 1 none ∈ GW := gw_2 (i := 156) rfl rfl
theorem wd_22 : Cond.methodLink RX1 1 objectInit ∈ GW := gw_2 (i := 157) rfl rfl
theorem wd_23 : Cond.constant RX1 7 (57600) ∈ GW := gw_2 (i := 158) rfl rfl
theorem wd_24 : Cond.fieldLink RX1 8 "TwotimesModel" "known" "[I" ∈ GW := gw_2 (i := 161) rfl rfl
theorem wd_25 : Cond.methodLink RL 79 yL_put ∈ GW := gw_1 (i := 38) rfl rfl
theorem wd_26 : Cond.static yL_put ∈ GW := gw_1 (i := 39) rfl rfl
theorem wd_27 : Cond.initialized RL ∈ GW := gw_1 (i := 0) rfl rfl
theorem wd_28 : Cond.codeWith yL_put cL_put 8 (some .int) [(0, 16, 19, 13), (0, 16, 23, 15)] ∈ GW := gw_1 (i := 40) rfl rfl
theorem wd_29 : Cond.classLink RL 13 "java/lang/IllegalArgumentException" ∈ GW := gw_1 (i := 41) rfl rfl
theorem wd_30 : Cond.classLink RL 15 "java/lang/IllegalStateException" ∈ GW := gw_1 (i := 42) rfl rfl
theorem wd_31 : Cond.methodLink RL 7 yX0_put ∈ GW := gw_1 (i := 43) rfl rfl
theorem wd_32 : Cond.instanceMethod yX0_put ∈ GW := gw_1 (i := 44) rfl rfl
theorem wd_33 : Cond.selects RX0 yX0_put yX0_put ∈ GW := gw_1 (i := 45) rfl rfl
theorem wd_34 : Cond.code yX0_put cX0_put 6 (some .int) ∈ GW := gw_1 (i := 46) rfl rfl
theorem wd_35 : Cond.methodLink RX0 20 yX0_needTableAndKey ∈ GW := gw_1 (i := 47) rfl rfl
theorem wd_36 : Cond.static yX0_needTableAndKey ∈ GW := gw_1 (i := 48) rfl rfl
theorem wd_37 : Cond.code yX0_needTableAndKey cX0_needTableAndKey 2 none ∈ GW := gw_1 (i := 49) rfl rfl
theorem wd_38 : Cond.methodLink RX0 28 yX0_needRange ∈ GW := gw_1 (i := 50) rfl rfl
theorem wd_39 : Cond.static yX0_needRange ∈ GW := gw_1 (i := 51) rfl rfl
theorem wd_40 : Cond.code yX0_needRange cX0_needRange 2 none ∈ GW := gw_1 (i := 52) rfl rfl
theorem wd_41 : Cond.classLink RX0 55 "java/lang/IllegalArgumentException" ∈ GW := gw_1 (i := 53) rfl rfl
theorem wd_42 : Cond.initialized "java/lang/IllegalArgumentException" ∈ GW := gw_1 (i := 6) rfl rfl
theorem wd_43 : Cond.methodLink RX0 24 yX0_valuesOf ∈ GW := gw_1 (i := 121) rfl rfl
theorem wd_44 : Cond.static yX0_valuesOf ∈ GW := gw_1 (i := 122) rfl rfl
theorem wd_45 : Cond.code yX0_valuesOf cX0_valuesOf 1 (some .int) ∈ GW := gw_1 (i := 123) rfl rfl
theorem wd_46 : Cond.methodLink RX0 31 yX0_needSpan ∈ GW := gw_1 (i := 124) rfl rfl
theorem wd_47 : Cond.static yX0_needSpan ∈ GW := gw_1 (i := 125) rfl rfl
theorem wd_48 : Cond.code yX0_needSpan cX0_needSpan 2 none ∈ GW := gw_1 (i := 126) rfl rfl
theorem wd_49 : Cond.methodLink RX0 34 yX0_line ∈ GW := gw_1 (i := 128) rfl rfl
theorem wd_50 : Cond.static yX0_line ∈ GW := gw_1 (i := 129) rfl rfl
theorem wd_51 : Cond.code yX0_line cX0_line 2 (some .int) ∈ GW := gw_1 (i := 130) rfl rfl
theorem wd_52 : Cond.methodLink RX0 38 yX0_draftSpan ∈ GW := gw_1 (i := 131) rfl rfl
theorem wd_53 : Cond.instanceMethod yX0_draftSpan ∈ GW := gw_1 (i := 133) rfl rfl
theorem wd_54 : Cond.selects RX0 yX0_draftSpan yX0_draftSpan ∈ GW := gw_of (List.mem_append_left _ (List.mem_of_getElem? (i := 1) (by decide +kernel))) rfl
theorem wd_55 : Cond.code yX0_draftSpan cX0_draftSpan 6 none ∈ GW := gw_1 (i := 134) rfl rfl
theorem wd_56 : Cond.fieldLink RX0 62 "Twotimes" "today" "I" ∈ GW := gw_1 (i := 23) rfl rfl
theorem wd_57 : Cond.methodLink RX0 77 yX0_knownOn ∈ GW := gw_1 (i := 135) rfl rfl
theorem wd_58 : Cond.instanceMethod yX0_knownOn ∈ GW := gw_1 (i := 137) rfl rfl
theorem wd_59 : Cond.selects RX0 yX0_knownOn yX0_knownOn ∈ GW := gw_of (List.mem_append_left _ (List.mem_of_getElem? (i := 2) (by decide +kernel))) rfl
theorem wd_60 : Cond.code yX0_knownOn cX0_knownOn 5 (some .int) ∈ GW := gw_1 (i := 138) rfl rfl
theorem wd_61 : Cond.methodLink RX0 140 yX0_index ∈ GW := gw_1 (i := 139) rfl rfl
theorem wd_62 : Cond.static yX0_index ∈ GW := gw_1 (i := 140) rfl rfl
theorem wd_63 : Cond.code yX0_index cX0_index 3 (some .int) ∈ GW := gw_1 (i := 141) rfl rfl
theorem wd_64 : Cond.methodLink RX0 42 yX0_recordDraft ∈ GW := gw_1 (i := 142) rfl rfl
theorem wd_65 : Cond.instanceMethod yX0_recordDraft ∈ GW := gw_1 (i := 144) rfl rfl
theorem wd_66 : Cond.selects RX0 yX0_recordDraft yX0_recordDraft ∈ GW := gw_of (List.mem_append_left _ (List.mem_of_getElem? (i := 3) (by decide +kernel))) rfl
theorem wd_67 : Cond.code yX0_recordDraft cX0_recordDraft 6 (some .int) ∈ GW := gw_1 (i := 145) rfl rfl
theorem wd_68 : Cond.classLink RX0 66 "java/lang/IllegalStateException" ∈ GW := gw_1 (i := 154) rfl rfl
theorem wd_69 : Cond.initialized "java/lang/IllegalStateException" ∈ GW := gw_1 (i := 7) rfl rfl
theorem wd_70 : Cond.methodLink RX0 149 yX0_draftKeepsReferences ∈ GW := gw_1 (i := 146) rfl rfl
theorem wd_71 : Cond.instanceMethod yX0_draftKeepsReferences ∈ GW := gw_1 (i := 148) rfl rfl
theorem wd_72 : Cond.selects RX0 yX0_draftKeepsReferences yX0_draftKeepsReferences ∈ GW := gw_of (List.mem_append_left _ (List.mem_of_getElem? (i := 4) (by decide +kernel))) rfl
theorem wd_73 : Cond.code yX0_draftKeepsReferences cX0_draftKeepsReferences 5 (some .boolean) ∈ GW := gw_1 (i := 149) rfl rfl
theorem wd_74 : Cond.methodLink RX0 159 yX0_isReferredTo ∈ GW := gw_1 (i := 150) rfl rfl
theorem wd_75 : Cond.instanceMethod yX0_isReferredTo ∈ GW := gw_1 (i := 152) rfl rfl
theorem wd_76 : Cond.selects RX0 yX0_isReferredTo yX0_isReferredTo ∈ GW := gw_of (List.mem_append_left _ (List.mem_of_getElem? (i := 5) (by decide +kernel))) rfl
theorem wd_77 : Cond.code yX0_isReferredTo cX0_isReferredTo 4 (some .boolean) ∈ GW := gw_1 (i := 153) rfl rfl
theorem wd_78 : Cond.methodLink RX0 155 yX0_recordToday ∈ GW := gw_1 (i := 170) rfl rfl
theorem wd_79 : Cond.instanceMethod yX0_recordToday ∈ GW := gw_1 (i := 172) rfl rfl
theorem wd_80 : Cond.selects RX0 yX0_recordToday yX0_recordToday ∈ GW := gw_of (List.mem_append_left _ (List.mem_of_getElem? (i := 6) (by decide +kernel))) rfl
theorem wd_81 : Cond.code yX0_recordToday cX0_recordToday 5 none ∈ GW := gw_1 (i := 173) rfl rfl
theorem wd_82 : Cond.methodLink RL 84 yX1_put ∈ GW := gw_2 (i := 182) rfl rfl
theorem wd_83 : Cond.instanceMethod yX1_put ∈ GW := gw_2 (i := 183) rfl rfl
theorem wd_84 : Cond.selects RX1 yX1_put yX1_put ∈ GW := gw_2 (i := 184) rfl rfl
theorem wd_85 : Cond.code yX1_put cX1_put 7 (some .int) ∈ GW := gw_2 (i := 185) rfl rfl
theorem wd_86 : Cond.methodLink RX1 47 yX1_isKey ∈ GW := gw_2 (i := 186) rfl rfl
theorem wd_87 : Cond.static yX1_isKey ∈ GW := gw_2 (i := 187) rfl rfl
theorem wd_88 : Cond.code yX1_isKey cX1_isKey 2 (some .boolean) ∈ GW := gw_2 (i := 188) rfl rfl
theorem wd_89 : Cond.methodLink RX1 18 yX1_in ∈ GW := gw_2 (i := 189) rfl rfl
theorem wd_90 : Cond.static yX1_in ∈ GW := gw_2 (i := 190) rfl rfl
theorem wd_91 : Cond.code yX1_in cX1_in 3 (some .boolean) ∈ GW := gw_2 (i := 191) rfl rfl
theorem wd_92 : Cond.methodLink RX1 50 yX1_isSpan ∈ GW := gw_2 (i := 192) rfl rfl
theorem wd_93 : Cond.static yX1_isSpan ∈ GW := gw_2 (i := 193) rfl rfl
theorem wd_94 : Cond.code yX1_isSpan cX1_isSpan 2 (some .boolean) ∈ GW := gw_2 (i := 194) rfl rfl
theorem wd_95 : Cond.methodLink RX1 22 yX1_isDay ∈ GW := gw_2 (i := 195) rfl rfl
theorem wd_96 : Cond.static yX1_isDay ∈ GW := gw_2 (i := 196) rfl rfl
theorem wd_97 : Cond.code yX1_isDay cX1_isDay 1 (some .boolean) ∈ GW := gw_2 (i := 197) rfl rfl
theorem wd_98 : Cond.methodLink RX1 53 yX1_mayAll ∈ GW := gw_2 (i := 198) rfl rfl
theorem wd_99 : Cond.instanceMethod yX1_mayAll ∈ GW := gw_2 (i := 200) rfl rfl
theorem wd_100 : Cond.selects RX1 yX1_mayAll yX1_mayAll ∈ GW := gw_of (List.mem_append_left _ (List.mem_of_getElem? (i := 23) (by decide +kernel))) rfl
theorem wd_101 : Cond.code yX1_mayAll cX1_mayAll 7 (some .boolean) ∈ GW := gw_2 (i := 201) rfl rfl
theorem wd_102 : Cond.methodLink RX1 40 yX1_may ∈ GW := gw_2 (i := 202) rfl rfl
theorem wd_103 : Cond.instanceMethod yX1_may ∈ GW := gw_2 (i := 204) rfl rfl
theorem wd_104 : Cond.selects RX1 yX1_may yX1_may ∈ GW := gw_of (List.mem_append_left _ (List.mem_of_getElem? (i := 24) (by decide +kernel))) rfl
theorem wd_105 : Cond.code yX1_may cX1_may 5 (some .boolean) ∈ GW := gw_2 (i := 205) rfl rfl
theorem wd_106 : Cond.fieldLink RX1 30 "TwotimesModel" "today" "I" ∈ GW := gw_2 (i := 160) rfl rfl
theorem wd_107 : Cond.methodLink RX1 36 yX1_isReferred ∈ GW := gw_2 (i := 206) rfl rfl
theorem wd_108 : Cond.instanceMethod yX1_isReferred ∈ GW := gw_2 (i := 208) rfl rfl
theorem wd_109 : Cond.selects RX1 yX1_isReferred yX1_isReferred ∈ GW := gw_of (List.mem_append_left _ (List.mem_of_getElem? (i := 25) (by decide +kernel))) rfl
theorem wd_110 : Cond.code yX1_isReferred cX1_isReferred 4 (some .boolean) ∈ GW := gw_2 (i := 209) rfl rfl
theorem wd_111 : Cond.methodLink RX1 33 yX1_of ∈ GW := gw_2 (i := 210) rfl rfl
theorem wd_112 : Cond.instanceMethod yX1_of ∈ GW := gw_2 (i := 212) rfl rfl
theorem wd_113 : Cond.selects RX1 yX1_of yX1_of ∈ GW := gw_of (List.mem_append_left _ (List.mem_of_getElem? (i := 26) (by decide +kernel))) rfl
theorem wd_114 : Cond.code yX1_of cX1_of 5 (some .int) ∈ GW := gw_2 (i := 213) rfl rfl
theorem wd_115 : Cond.methodLink RX1 26 yX1_place ∈ GW := gw_2 (i := 214) rfl rfl
theorem wd_116 : Cond.static yX1_place ∈ GW := gw_2 (i := 215) rfl rfl
theorem wd_117 : Cond.code yX1_place cX1_place 4 (some .int) ∈ GW := gw_2 (i := 216) rfl rfl
theorem wd_118 : Cond.methodLink RX1 57 yX1_holds ∈ GW := gw_2 (i := 217) rfl rfl
theorem wd_119 : Cond.instanceMethod yX1_holds ∈ GW := gw_2 (i := 219) rfl rfl
theorem wd_120 : Cond.selects RX1 yX1_holds yX1_holds ∈ GW := gw_of (List.mem_append_left _ (List.mem_of_getElem? (i := 27) (by decide +kernel))) rfl
theorem wd_121 : Cond.code yX1_holds cX1_holds 2 (some .boolean) ∈ GW := gw_2 (i := 220) rfl rfl
theorem wd_122 : Cond.fieldLink RX1 14 "TwotimesModel" "thrown" "I" ∈ GW := gw_2 (i := 159) rfl rfl
theorem wd_123 : Cond.methodLink RX1 60 yX1_setsAll ∈ GW := gw_2 (i := 221) rfl rfl
theorem wd_124 : Cond.instanceMethod yX1_setsAll ∈ GW := gw_2 (i := 223) rfl rfl
theorem wd_125 : Cond.selects RX1 yX1_setsAll yX1_setsAll ∈ GW := gw_of (List.mem_append_left _ (List.mem_of_getElem? (i := 28) (by decide +kernel))) rfl
theorem wd_126 : Cond.code yX1_setsAll cX1_setsAll 8 (some .int) ∈ GW := gw_2 (i := 224) rfl rfl
theorem wd_127 : Cond.methodLink RX1 44 yX1_sets ∈ GW := gw_2 (i := 225) rfl rfl
theorem wd_128 : Cond.instanceMethod yX1_sets ∈ GW := gw_2 (i := 227) rfl rfl
theorem wd_129 : Cond.selects RX1 yX1_sets yX1_sets ∈ GW := gw_of (List.mem_append_left _ (List.mem_of_getElem? (i := 29) (by decide +kernel))) rfl
theorem wd_130 : Cond.code yX1_sets cX1_sets 7 (some .int) ∈ GW := gw_2 (i := 228) rfl rfl
theorem wd_131 : Cond.methodLink RL 85 yX1_thrown ∈ GW := gw_2 (i := 178) rfl rfl
theorem wd_132 : Cond.instanceMethod yX1_thrown ∈ GW := gw_2 (i := 179) rfl rfl
theorem wd_133 : Cond.selects RX1 yX1_thrown yX1_thrown ∈ GW := gw_2 (i := 180) rfl rfl
theorem wd_134 : Cond.code yX1_thrown cX1_thrown 1 (some .int) ∈ GW := gw_2 (i := 181) rfl rfl
theorem wd_135 : Cond.methodLink RL 89 yL_erase ∈ GW := gw_1 (i := 174) rfl rfl
theorem wd_136 : Cond.static yL_erase ∈ GW := gw_1 (i := 175) rfl rfl
theorem wd_137 : Cond.codeWith yL_erase cL_erase 7 (some .int) [(0, 14, 17, 13), (0, 14, 21, 15)] ∈ GW := gw_1 (i := 176) rfl rfl
theorem wd_138 : Cond.methodLink RL 17 yX0_erase ∈ GW := gw_1 (i := 177) rfl rfl
theorem wd_139 : Cond.instanceMethod yX0_erase ∈ GW := gw_1 (i := 178) rfl rfl
theorem wd_140 : Cond.selects RX0 yX0_erase yX0_erase ∈ GW := gw_1 (i := 179) rfl rfl
theorem wd_141 : Cond.code yX0_erase cX0_erase 5 (some .int) ∈ GW := gw_1 (i := 180) rfl rfl
theorem wd_142 : Cond.methodLink RL 92 yX1_erase ∈ GW := gw_2 (i := 229) rfl rfl
theorem wd_143 : Cond.instanceMethod yX1_erase ∈ GW := gw_2 (i := 230) rfl rfl
theorem wd_144 : Cond.selects RX1 yX1_erase yX1_erase ∈ GW := gw_2 (i := 231) rfl rfl
theorem wd_145 : Cond.code yX1_erase cX1_erase 6 (some .int) ∈ GW := gw_2 (i := 232) rfl rfl
theorem wd_146 : Cond.methodLink RL 93 yL_eraseAll ∈ GW := gw_1 (i := 181) rfl rfl
theorem wd_147 : Cond.static yL_eraseAll ∈ GW := gw_1 (i := 182) rfl rfl
theorem wd_148 : Cond.codeWith yL_eraseAll cL_eraseAll 6 (some .int) [(0, 12, 15, 13)] ∈ GW := gw_1 (i := 183) rfl rfl
theorem wd_149 : Cond.methodLink RL 21 yX0_eraseAll ∈ GW := gw_1 (i := 184) rfl rfl
theorem wd_150 : Cond.instanceMethod yX0_eraseAll ∈ GW := gw_1 (i := 185) rfl rfl
theorem wd_151 : Cond.selects RX0 yX0_eraseAll yX0_eraseAll ∈ GW := gw_1 (i := 186) rfl rfl
theorem wd_152 : Cond.code yX0_eraseAll cX0_eraseAll 6 (some .int) ∈ GW := gw_1 (i := 187) rfl rfl
theorem wd_153 : Cond.methodLink RX0 45 yX0_loseWithReferences ∈ GW := gw_1 (i := 188) rfl rfl
theorem wd_154 : Cond.instanceMethod yX0_loseWithReferences ∈ GW := gw_1 (i := 190) rfl rfl
theorem wd_155 : Cond.selects RX0 yX0_loseWithReferences yX0_loseWithReferences ∈ GW := gw_of (List.mem_append_left _ (List.mem_of_getElem? (i := 7) (by decide +kernel))) rfl
theorem wd_156 : Cond.code yX0_loseWithReferences cX0_loseWithReferences 5 (some .int) ∈ GW := gw_1 (i := 191) rfl rfl
theorem wd_157 : Cond.methodLink RX0 162 yX0_lose ∈ GW := gw_1 (i := 192) rfl rfl
theorem wd_158 : Cond.instanceMethod yX0_lose ∈ GW := gw_1 (i := 194) rfl rfl
theorem wd_159 : Cond.selects RX0 yX0_lose yX0_lose ∈ GW := gw_of (List.mem_append_left _ (List.mem_of_getElem? (i := 8) (by decide +kernel))) rfl
theorem wd_160 : Cond.code yX0_lose cX0_lose 3 (some .int) ∈ GW := gw_1 (i := 195) rfl rfl
theorem wd_161 : Cond.methodLink RL 96 yX1_eraseAll ∈ GW := gw_2 (i := 233) rfl rfl
theorem wd_162 : Cond.instanceMethod yX1_eraseAll ∈ GW := gw_2 (i := 234) rfl rfl
theorem wd_163 : Cond.selects RX1 yX1_eraseAll yX1_eraseAll ∈ GW := gw_2 (i := 235) rfl rfl
theorem wd_164 : Cond.code yX1_eraseAll cX1_eraseAll 7 (some .int) ∈ GW := gw_2 (i := 236) rfl rfl
theorem wd_165 : Cond.methodLink RL 97 yL_restore ∈ GW := gw_1 (i := 196) rfl rfl
theorem wd_166 : Cond.static yL_restore ∈ GW := gw_1 (i := 197) rfl rfl
theorem wd_167 : Cond.codeWith yL_restore cL_restore 6 (some .int) [(0, 12, 15, 13), (0, 12, 19, 28), (0, 12, 23, 15)] ∈ GW := gw_1 (i := 198) rfl rfl
theorem wd_168 : Cond.classLink RL 28 "java/lang/IndexOutOfBoundsException" ∈ GW := gw_1 (i := 199) rfl rfl
theorem wd_169 : Cond.methodLink RL 25 yX0_restore ∈ GW := gw_1 (i := 200) rfl rfl
theorem wd_170 : Cond.instanceMethod yX0_restore ∈ GW := gw_1 (i := 201) rfl rfl
theorem wd_171 : Cond.selects RX0 yX0_restore yX0_restore ∈ GW := gw_1 (i := 202) rfl rfl
theorem wd_172 : Cond.code yX0_restore cX0_restore 4 (some .int) ∈ GW := gw_1 (i := 203) rfl rfl
theorem wd_173 : Cond.methodLink RX0 48 yX0_needRecord ∈ GW := gw_1 (i := 204) rfl rfl
theorem wd_174 : Cond.instanceMethod yX0_needRecord ∈ GW := gw_1 (i := 206) rfl rfl
theorem wd_175 : Cond.selects RX0 yX0_needRecord yX0_needRecord ∈ GW := gw_of (List.mem_append_left _ (List.mem_of_getElem? (i := 9) (by decide +kernel))) rfl
theorem wd_176 : Cond.code yX0_needRecord cX0_needRecord 2 none ∈ GW := gw_1 (i := 207) rfl rfl
theorem wd_177 : Cond.classLink RX0 91 "java/lang/IndexOutOfBoundsException" ∈ GW := gw_1 (i := 208) rfl rfl
theorem wd_178 : Cond.initialized "java/lang/IndexOutOfBoundsException" ∈ GW := gw_1 (i := 8) rfl rfl
theorem wd_179 : Cond.methodLink RX0 52 yX0_draftRecord ∈ GW := gw_1 (i := 224) rfl rfl
theorem wd_180 : Cond.instanceMethod yX0_draftRecord ∈ GW := gw_1 (i := 226) rfl rfl
theorem wd_181 : Cond.selects RX0 yX0_draftRecord yX0_draftRecord ∈ GW := gw_of (List.mem_append_left _ (List.mem_of_getElem? (i := 10) (by decide +kernel))) rfl
theorem wd_182 : Cond.code yX0_draftRecord cX0_draftRecord 4 none ∈ GW := gw_1 (i := 227) rfl rfl
theorem wd_183 : Cond.methodLink RL 99 yX1_restore ∈ GW := gw_2 (i := 237) rfl rfl
theorem wd_184 : Cond.instanceMethod yX1_restore ∈ GW := gw_2 (i := 238) rfl rfl
theorem wd_185 : Cond.selects RX1 yX1_restore yX1_restore ∈ GW := gw_2 (i := 239) rfl rfl
theorem wd_186 : Cond.code yX1_restore cX1_restore 7 (some .int) ∈ GW := gw_3 (i := 0) rfl rfl
theorem wd_187 : Cond.methodLink RX1 64 yX1_errorOfRecord ∈ GW := gw_3 (i := 1) rfl rfl
theorem wd_188 : Cond.instanceMethod yX1_errorOfRecord ∈ GW := gw_3 (i := 3) rfl rfl
theorem wd_189 : Cond.selects RX1 yX1_errorOfRecord yX1_errorOfRecord ∈ GW := gw_of (List.mem_append_left _ (List.mem_of_getElem? (i := 30) (by decide +kernel))) rfl
theorem wd_190 : Cond.code yX1_errorOfRecord cX1_errorOfRecord 3 (some .int) ∈ GW := gw_3 (i := 4) rfl rfl
theorem wd_191 : Cond.methodLink RL 100 yL_pass ∈ GW := gw_1 (i := 228) rfl rfl
theorem wd_192 : Cond.static yL_pass ∈ GW := gw_1 (i := 229) rfl rfl
theorem wd_193 : Cond.codeWith yL_pass cL_pass 4 (some .int) [(0, 9, 12, 13), (0, 9, 15, 15)] ∈ GW := gw_1 (i := 230) rfl rfl
theorem wd_194 : Cond.methodLink RL 30 yX0_pass ∈ GW := gw_1 (i := 231) rfl rfl
theorem wd_195 : Cond.instanceMethod yX0_pass ∈ GW := gw_1 (i := 232) rfl rfl
theorem wd_196 : Cond.selects RX0 yX0_pass yX0_pass ∈ GW := gw_1 (i := 233) rfl rfl
theorem wd_197 : Cond.code yX0_pass cX0_pass 4 (some .int) ∈ GW := gw_1 (i := 234) rfl rfl
theorem wd_198 : Cond.methodLink RX0 71 yX0_keepOn ∈ GW := gw_1 (i := 237) rfl rfl
theorem wd_199 : Cond.instanceMethod yX0_keepOn ∈ GW := gw_1 (i := 239) rfl rfl
theorem wd_200 : Cond.selects RX0 yX0_keepOn yX0_keepOn ∈ GW := gw_of (List.mem_append_left _ (List.mem_of_getElem? (i := 11) (by decide +kernel))) rfl
theorem wd_201 : Cond.code yX0_keepOn cX0_keepOn 3 none ∈ GW := gw_2 (i := 0) rfl rfl
theorem wd_202 : Cond.methodLink RX0 74 yX0_copyDay ∈ GW := gw_2 (i := 1) rfl rfl
theorem wd_203 : Cond.instanceMethod yX0_copyDay ∈ GW := gw_2 (i := 3) rfl rfl
theorem wd_204 : Cond.selects RX0 yX0_copyDay yX0_copyDay ∈ GW := gw_of (List.mem_append_left _ (List.mem_of_getElem? (i := 12) (by decide +kernel))) rfl
theorem wd_205 : Cond.code yX0_copyDay cX0_copyDay 3 none ∈ GW := gw_2 (i := 4) rfl rfl
theorem wd_206 : Cond.methodLink RX0 143 arraycopyName ∈ GW := gw_2 (i := 5) rfl rfl
theorem wd_207 : Cond.native arraycopyName ∈ GW := gw_2 (i := 7) rfl rfl
theorem wd_208 : Cond.static arraycopyName ∈ GW := gw_2 (i := 6) rfl rfl
theorem wd_209 : Cond.initialized "java/lang/System" ∈ GW := gw_1 (i := 9) rfl rfl
theorem wd_210 : Cond.methodLink RL 103 yX1_pass ∈ GW := gw_3 (i := 5) rfl rfl
theorem wd_211 : Cond.instanceMethod yX1_pass ∈ GW := gw_3 (i := 6) rfl rfl
theorem wd_212 : Cond.selects RX1 yX1_pass yX1_pass ∈ GW := gw_3 (i := 7) rfl rfl
theorem wd_213 : Cond.code yX1_pass cX1_pass 4 (some .int) ∈ GW := gw_3 (i := 8) rfl rfl
theorem wd_214 : Cond.methodLink RL 104 yX0_today ∈ GW := gw_1 (i := 34) rfl rfl
theorem wd_215 : Cond.instanceMethod yX0_today ∈ GW := gw_1 (i := 35) rfl rfl
theorem wd_216 : Cond.selects RX0 yX0_today yX0_today ∈ GW := gw_1 (i := 36) rfl rfl
theorem wd_217 : Cond.code yX0_today cX0_today 1 (some .int) ∈ GW := gw_1 (i := 37) rfl rfl
theorem wd_218 : Cond.methodLink RL 107 yX1_today ∈ GW := gw_3 (i := 9) rfl rfl
theorem wd_219 : Cond.instanceMethod yX1_today ∈ GW := gw_3 (i := 10) rfl rfl
theorem wd_220 : Cond.selects RX1 yX1_today yX1_today ∈ GW := gw_3 (i := 11) rfl rfl
theorem wd_221 : Cond.code yX1_today cX1_today 1 (some .int) ∈ GW := gw_3 (i := 12) rfl rfl
theorem wd_222 : Cond.methodLink RL 108 yL_value ∈ GW := gw_2 (i := 8) rfl rfl
theorem wd_223 : Cond.static yL_value ∈ GW := gw_2 (i := 9) rfl rfl
theorem wd_224 : Cond.codeWith yL_value cL_value 7 (some .int) [(0, 14, 17, 13), (0, 14, 21, 28)] ∈ GW := gw_2 (i := 10) rfl rfl
theorem wd_225 : Cond.methodLink RL 34 yX0_value ∈ GW := gw_2 (i := 11) rfl rfl
theorem wd_226 : Cond.instanceMethod yX0_value ∈ GW := gw_2 (i := 12) rfl rfl
theorem wd_227 : Cond.selects RX0 yX0_value yX0_value ∈ GW := gw_2 (i := 13) rfl rfl
theorem wd_228 : Cond.code yX0_value cX0_value 5 (some .int) ∈ GW := gw_2 (i := 14) rfl rfl
theorem wd_229 : Cond.methodLink RL 110 yX1_value ∈ GW := gw_3 (i := 13) rfl rfl
theorem wd_230 : Cond.instanceMethod yX1_value ∈ GW := gw_3 (i := 14) rfl rfl
theorem wd_231 : Cond.selects RX1 yX1_value yX1_value ∈ GW := gw_3 (i := 15) rfl rfl
theorem wd_232 : Cond.code yX1_value cX1_value 5 (some .int) ∈ GW := gw_3 (i := 16) rfl rfl
theorem wd_233 : Cond.methodLink RL 111 yL_keys ∈ GW := gw_2 (i := 15) rfl rfl
theorem wd_234 : Cond.static yL_keys ∈ GW := gw_2 (i := 16) rfl rfl
theorem wd_235 : Cond.codeWith yL_keys cL_keys 6 (some .int) [(0, 12, 15, 13), (0, 12, 19, 28)] ∈ GW := gw_2 (i := 17) rfl rfl
theorem wd_236 : Cond.methodLink RL 37 yX0_keys ∈ GW := gw_2 (i := 18) rfl rfl
theorem wd_237 : Cond.instanceMethod yX0_keys ∈ GW := gw_2 (i := 19) rfl rfl
theorem wd_238 : Cond.selects RX0 yX0_keys yX0_keys ∈ GW := gw_2 (i := 20) rfl rfl
theorem wd_239 : Cond.code yX0_keys cX0_keys 6 (some .int) ∈ GW := gw_2 (i := 21) rfl rfl
theorem wd_240 : Cond.methodLink RL 113 yX1_keys ∈ GW := gw_3 (i := 17) rfl rfl
theorem wd_241 : Cond.instanceMethod yX1_keys ∈ GW := gw_3 (i := 18) rfl rfl
theorem wd_242 : Cond.selects RX1 yX1_keys yX1_keys ∈ GW := gw_3 (i := 19) rfl rfl
theorem wd_243 : Cond.code yX1_keys cX1_keys 6 (some .int) ∈ GW := gw_3 (i := 20) rfl rfl
theorem wd_244 : Cond.methodLink RL 114 yL_joined ∈ GW := gw_2 (i := 22) rfl rfl
theorem wd_245 : Cond.static yL_joined ∈ GW := gw_2 (i := 23) rfl rfl
theorem wd_246 : Cond.codeWith yL_joined cL_joined 6 (some .int) [(0, 12, 15, 13), (0, 12, 19, 28)] ∈ GW := gw_2 (i := 24) rfl rfl
theorem wd_247 : Cond.methodLink RL 40 yX0_joined ∈ GW := gw_2 (i := 25) rfl rfl
theorem wd_248 : Cond.instanceMethod yX0_joined ∈ GW := gw_2 (i := 26) rfl rfl
theorem wd_249 : Cond.selects RX0 yX0_joined yX0_joined ∈ GW := gw_2 (i := 27) rfl rfl
theorem wd_250 : Cond.code yX0_joined cX0_joined 4 (some .int) ∈ GW := gw_2 (i := 28) rfl rfl
theorem wd_251 : Cond.methodLink RX0 81 yX0_joinedOn ∈ GW := gw_2 (i := 29) rfl rfl
theorem wd_252 : Cond.instanceMethod yX0_joinedOn ∈ GW := gw_2 (i := 31) rfl rfl
theorem wd_253 : Cond.selects RX0 yX0_joinedOn yX0_joinedOn ∈ GW := gw_of (List.mem_append_left _ (List.mem_of_getElem? (i := 13) (by decide +kernel))) rfl
theorem wd_254 : Cond.code yX0_joinedOn cX0_joinedOn 5 (some .int) ∈ GW := gw_2 (i := 32) rfl rfl
theorem wd_255 : Cond.methodLink RL 116 yX1_joined ∈ GW := gw_3 (i := 21) rfl rfl
theorem wd_256 : Cond.instanceMethod yX1_joined ∈ GW := gw_3 (i := 22) rfl rfl
theorem wd_257 : Cond.selects RX1 yX1_joined yX1_joined ∈ GW := gw_3 (i := 23) rfl rfl
theorem wd_258 : Cond.code yX1_joined cX1_joined 4 (some .int) ∈ GW := gw_3 (i := 24) rfl rfl
theorem wd_259 : Cond.methodLink RX1 68 yX1_joinedOf ∈ GW := gw_3 (i := 25) rfl rfl
theorem wd_260 : Cond.instanceMethod yX1_joinedOf ∈ GW := gw_3 (i := 27) rfl rfl
theorem wd_261 : Cond.selects RX1 yX1_joinedOf yX1_joinedOf ∈ GW := gw_of (List.mem_append_left _ (List.mem_of_getElem? (i := 31) (by decide +kernel))) rfl
theorem wd_262 : Cond.code yX1_joinedOf cX1_joinedOf 5 (some .int) ∈ GW := gw_3 (i := 28) rfl rfl
theorem wd_263 : Cond.methodLink RL 117 yL_runs ∈ GW := gw_2 (i := 33) rfl rfl
theorem wd_264 : Cond.static yL_runs ∈ GW := gw_2 (i := 34) rfl rfl
theorem wd_265 : Cond.codeWith yL_runs cL_runs 6 (some .int) [(0, 12, 15, 13), (0, 12, 19, 28)] ∈ GW := gw_2 (i := 35) rfl rfl
theorem wd_266 : Cond.methodLink RL 43 yX0_runs ∈ GW := gw_2 (i := 36) rfl rfl
theorem wd_267 : Cond.instanceMethod yX0_runs ∈ GW := gw_2 (i := 37) rfl rfl
theorem wd_268 : Cond.selects RX0 yX0_runs yX0_runs ∈ GW := gw_2 (i := 38) rfl rfl
theorem wd_269 : Cond.code yX0_runs cX0_runs 7 (some .int) ∈ GW := gw_2 (i := 39) rfl rfl
theorem wd_270 : Cond.methodLink RX0 84 yX0_startsRun ∈ GW := gw_2 (i := 40) rfl rfl
theorem wd_271 : Cond.instanceMethod yX0_startsRun ∈ GW := gw_2 (i := 42) rfl rfl
theorem wd_272 : Cond.selects RX0 yX0_startsRun yX0_startsRun ∈ GW := gw_of (List.mem_append_left _ (List.mem_of_getElem? (i := 14) (by decide +kernel))) rfl
theorem wd_273 : Cond.code yX0_startsRun cX0_startsRun 5 (some .boolean) ∈ GW := gw_2 (i := 43) rfl rfl
theorem wd_274 : Cond.methodLink RL 119 yX1_runs ∈ GW := gw_3 (i := 29) rfl rfl
theorem wd_275 : Cond.instanceMethod yX1_runs ∈ GW := gw_3 (i := 30) rfl rfl
theorem wd_276 : Cond.selects RX1 yX1_runs yX1_runs ∈ GW := gw_3 (i := 31) rfl rfl
theorem wd_277 : Cond.code yX1_runs cX1_runs 4 (some .int) ∈ GW := gw_3 (i := 32) rfl rfl
theorem wd_278 : Cond.methodLink RX1 78 yX1_runsOf ∈ GW := gw_3 (i := 33) rfl rfl
theorem wd_279 : Cond.instanceMethod yX1_runsOf ∈ GW := gw_3 (i := 35) rfl rfl
theorem wd_280 : Cond.selects RX1 yX1_runsOf yX1_runsOf ∈ GW := gw_of (List.mem_append_left _ (List.mem_of_getElem? (i := 32) (by decide +kernel))) rfl
theorem wd_281 : Cond.code yX1_runsOf cX1_runsOf 6 (some .int) ∈ GW := gw_3 (i := 36) rfl rfl
theorem wd_282 : Cond.methodLink RX1 72 yX1_begins ∈ GW := gw_3 (i := 37) rfl rfl
theorem wd_283 : Cond.instanceMethod yX1_begins ∈ GW := gw_3 (i := 39) rfl rfl
theorem wd_284 : Cond.selects RX1 yX1_begins yX1_begins ∈ GW := gw_of (List.mem_append_left _ (List.mem_of_getElem? (i := 33) (by decide +kernel))) rfl
theorem wd_285 : Cond.code yX1_begins cX1_begins 6 (some .boolean) ∈ GW := gw_3 (i := 40) rfl rfl
theorem wd_286 : Cond.methodLink RL 120 yL_run ∈ GW := gw_2 (i := 44) rfl rfl
theorem wd_287 : Cond.static yL_run ∈ GW := gw_2 (i := 45) rfl rfl
theorem wd_288 : Cond.codeWith yL_run cL_run 7 (some .int) [(0, 14, 17, 13), (0, 14, 21, 28)] ∈ GW := gw_2 (i := 46) rfl rfl
theorem wd_289 : Cond.methodLink RL 46 yX0_run ∈ GW := gw_2 (i := 47) rfl rfl
theorem wd_290 : Cond.instanceMethod yX0_run ∈ GW := gw_2 (i := 48) rfl rfl
theorem wd_291 : Cond.selects RX0 yX0_run yX0_run ∈ GW := gw_2 (i := 49) rfl rfl
theorem wd_292 : Cond.code yX0_run cX0_run 7 (some .int) ∈ GW := gw_2 (i := 50) rfl rfl
theorem wd_293 : Cond.methodLink RX0 88 yX0_firstDayOfRun ∈ GW := gw_2 (i := 51) rfl rfl
theorem wd_294 : Cond.instanceMethod yX0_firstDayOfRun ∈ GW := gw_2 (i := 53) rfl rfl
theorem wd_295 : Cond.selects RX0 yX0_firstDayOfRun yX0_firstDayOfRun ∈ GW := gw_of (List.mem_append_left _ (List.mem_of_getElem? (i := 15) (by decide +kernel))) rfl
theorem wd_296 : Cond.code yX0_firstDayOfRun cX0_firstDayOfRun 6 (some .int) ∈ GW := gw_2 (i := 54) rfl rfl
theorem wd_297 : Cond.methodLink RX0 96 yX0_runNumber ∈ GW := gw_2 (i := 56) rfl rfl
theorem wd_298 : Cond.instanceMethod yX0_runNumber ∈ GW := gw_2 (i := 58) rfl rfl
theorem wd_299 : Cond.selects RX0 yX0_runNumber yX0_runNumber ∈ GW := gw_of (List.mem_append_left _ (List.mem_of_getElem? (i := 16) (by decide +kernel))) rfl
theorem wd_300 : Cond.code yX0_runNumber cX0_runNumber 4 (some .int) ∈ GW := gw_2 (i := 59) rfl rfl
theorem wd_301 : Cond.methodLink RX0 124 yX0_endOfRun ∈ GW := gw_2 (i := 60) rfl rfl
theorem wd_302 : Cond.instanceMethod yX0_endOfRun ∈ GW := gw_2 (i := 62) rfl rfl
theorem wd_303 : Cond.selects RX0 yX0_endOfRun yX0_endOfRun ∈ GW := gw_of (List.mem_append_left _ (List.mem_of_getElem? (i := 17) (by decide +kernel))) rfl
theorem wd_304 : Cond.code yX0_endOfRun cX0_endOfRun 6 (some .int) ∈ GW := gw_2 (i := 63) rfl rfl
theorem wd_305 : Cond.methodLink RL 122 yX1_run ∈ GW := gw_3 (i := 41) rfl rfl
theorem wd_306 : Cond.instanceMethod yX1_run ∈ GW := gw_3 (i := 42) rfl rfl
theorem wd_307 : Cond.selects RX1 yX1_run yX1_run ∈ GW := gw_3 (i := 43) rfl rfl
theorem wd_308 : Cond.code yX1_run cX1_run 8 (some .int) ∈ GW := gw_3 (i := 44) rfl rfl
theorem wd_309 : Cond.methodLink RX1 81 yX1_told ∈ GW := gw_3 (i := 45) rfl rfl
theorem wd_310 : Cond.instanceMethod yX1_told ∈ GW := gw_3 (i := 47) rfl rfl
theorem wd_311 : Cond.selects RX1 yX1_told yX1_told ∈ GW := gw_of (List.mem_append_left _ (List.mem_of_getElem? (i := 34) (by decide +kernel))) rfl
theorem wd_312 : Cond.code yX1_told cX1_told 5 (some .int) ∈ GW := gw_3 (i := 48) rfl rfl
theorem wd_313 : Cond.methodLink RX1 75 yX1_end ∈ GW := gw_3 (i := 49) rfl rfl
theorem wd_314 : Cond.instanceMethod yX1_end ∈ GW := gw_3 (i := 51) rfl rfl
theorem wd_315 : Cond.selects RX1 yX1_end yX1_end ∈ GW := gw_of (List.mem_append_left _ (List.mem_of_getElem? (i := 35) (by decide +kernel))) rfl
theorem wd_316 : Cond.code yX1_end cX1_end 6 (some .int) ∈ GW := gw_3 (i := 52) rfl rfl
theorem wd_317 : Cond.methodLink RL 123 yL_joinedRuns ∈ GW := gw_2 (i := 64) rfl rfl
theorem wd_318 : Cond.static yL_joinedRuns ∈ GW := gw_2 (i := 65) rfl rfl
theorem wd_319 : Cond.codeWith yL_joinedRuns cL_joinedRuns 5 (some .int) [(0, 10, 13, 13), (0, 10, 17, 28)] ∈ GW := gw_2 (i := 66) rfl rfl
theorem wd_320 : Cond.methodLink RL 49 yX0_joinedRuns ∈ GW := gw_2 (i := 67) rfl rfl
theorem wd_321 : Cond.instanceMethod yX0_joinedRuns ∈ GW := gw_2 (i := 68) rfl rfl
theorem wd_322 : Cond.selects RX0 yX0_joinedRuns yX0_joinedRuns ∈ GW := gw_2 (i := 69) rfl rfl
theorem wd_323 : Cond.code yX0_joinedRuns cX0_joinedRuns 5 (some .int) ∈ GW := gw_2 (i := 70) rfl rfl
theorem wd_324 : Cond.methodLink RX0 99 yX0_startsJoinedRun ∈ GW := gw_2 (i := 71) rfl rfl
theorem wd_325 : Cond.instanceMethod yX0_startsJoinedRun ∈ GW := gw_2 (i := 73) rfl rfl
theorem wd_326 : Cond.selects RX0 yX0_startsJoinedRun yX0_startsJoinedRun ∈ GW := gw_of (List.mem_append_left _ (List.mem_of_getElem? (i := 18) (by decide +kernel))) rfl
theorem wd_327 : Cond.code yX0_startsJoinedRun cX0_startsJoinedRun 4 (some .boolean) ∈ GW := gw_2 (i := 74) rfl rfl
theorem wd_328 : Cond.methodLink RL 126 yX1_joinedRuns ∈ GW := gw_3 (i := 53) rfl rfl
theorem wd_329 : Cond.instanceMethod yX1_joinedRuns ∈ GW := gw_3 (i := 54) rfl rfl
theorem wd_330 : Cond.selects RX1 yX1_joinedRuns yX1_joinedRuns ∈ GW := gw_3 (i := 55) rfl rfl
theorem wd_331 : Cond.code yX1_joinedRuns cX1_joinedRuns 6 (some .int) ∈ GW := gw_3 (i := 56) rfl rfl
theorem wd_332 : Cond.methodLink RL 127 yL_rows ∈ GW := gw_2 (i := 75) rfl rfl
theorem wd_333 : Cond.static yL_rows ∈ GW := gw_2 (i := 76) rfl rfl
theorem wd_334 : Cond.codeWith yL_rows cL_rows 5 (some .int) [(0, 10, 13, 13)] ∈ GW := gw_2 (i := 77) rfl rfl
theorem wd_335 : Cond.methodLink RL 53 yX0_rows ∈ GW := gw_2 (i := 78) rfl rfl
theorem wd_336 : Cond.instanceMethod yX0_rows ∈ GW := gw_2 (i := 79) rfl rfl
theorem wd_337 : Cond.selects RX0 yX0_rows yX0_rows ∈ GW := gw_2 (i := 80) rfl rfl
theorem wd_338 : Cond.code yX0_rows cX0_rows 7 (some .int) ∈ GW := gw_2 (i := 81) rfl rfl
theorem wd_339 : Cond.methodLink RX0 102 yX0_isKept ∈ GW := gw_2 (i := 82) rfl rfl
theorem wd_340 : Cond.instanceMethod yX0_isKept ∈ GW := gw_2 (i := 84) rfl rfl
theorem wd_341 : Cond.selects RX0 yX0_isKept yX0_isKept ∈ GW := gw_of (List.mem_append_left _ (List.mem_of_getElem? (i := 19) (by decide +kernel))) rfl
theorem wd_342 : Cond.code yX0_isKept cX0_isKept 2 (some .boolean) ∈ GW := gw_2 (i := 85) rfl rfl
theorem wd_343 : Cond.methodLink RX0 106 yX0_startsRow ∈ GW := gw_2 (i := 86) rfl rfl
theorem wd_344 : Cond.instanceMethod yX0_startsRow ∈ GW := gw_2 (i := 88) rfl rfl
theorem wd_345 : Cond.selects RX0 yX0_startsRow yX0_startsRow ∈ GW := gw_of (List.mem_append_left _ (List.mem_of_getElem? (i := 20) (by decide +kernel))) rfl
theorem wd_346 : Cond.code yX0_startsRow cX0_startsRow 4 (some .boolean) ∈ GW := gw_2 (i := 89) rfl rfl
theorem wd_347 : Cond.methodLink RX0 118 yX0_sameRun ∈ GW := gw_2 (i := 90) rfl rfl
theorem wd_348 : Cond.instanceMethod yX0_sameRun ∈ GW := gw_2 (i := 92) rfl rfl
theorem wd_349 : Cond.selects RX0 yX0_sameRun yX0_sameRun ∈ GW := gw_of (List.mem_append_left _ (List.mem_of_getElem? (i := 21) (by decide +kernel))) rfl
theorem wd_350 : Cond.code yX0_sameRun cX0_sameRun 5 (some .boolean) ∈ GW := gw_2 (i := 93) rfl rfl
theorem wd_351 : Cond.methodLink RL 129 yX1_rows ∈ GW := gw_3 (i := 57) rfl rfl
theorem wd_352 : Cond.instanceMethod yX1_rows ∈ GW := gw_3 (i := 58) rfl rfl
theorem wd_353 : Cond.selects RX1 yX1_rows yX1_rows ∈ GW := gw_3 (i := 59) rfl rfl
theorem wd_354 : Cond.code yX1_rows cX1_rows 3 (some .int) ∈ GW := gw_3 (i := 60) rfl rfl
theorem wd_355 : Cond.methodLink RX1 90 yX1_rowsOf ∈ GW := gw_3 (i := 61) rfl rfl
theorem wd_356 : Cond.instanceMethod yX1_rowsOf ∈ GW := gw_3 (i := 63) rfl rfl
theorem wd_357 : Cond.selects RX1 yX1_rowsOf yX1_rowsOf ∈ GW := gw_of (List.mem_append_left _ (List.mem_of_getElem? (i := 36) (by decide +kernel))) rfl
theorem wd_358 : Cond.code yX1_rowsOf cX1_rowsOf 8 (some .int) ∈ GW := gw_3 (i := 64) rfl rfl
theorem wd_359 : Cond.fieldLink RX1 84 "TwotimesModel" "rowFirst" "I" ∈ GW := gw_2 (i := 162) rfl rfl
theorem wd_360 : Cond.fieldLink RX1 87 "TwotimesModel" "rowBegin" "I" ∈ GW := gw_2 (i := 163) rfl rfl
theorem wd_361 : Cond.methodLink RL 130 yL_rowRun ∈ GW := gw_2 (i := 94) rfl rfl
theorem wd_362 : Cond.static yL_rowRun ∈ GW := gw_2 (i := 95) rfl rfl
theorem wd_363 : Cond.codeWith yL_rowRun cL_rowRun 6 (some .int) [(0, 12, 15, 13), (0, 12, 19, 28)] ∈ GW := gw_2 (i := 96) rfl rfl
theorem wd_364 : Cond.methodLink RL 56 yX0_rowRun ∈ GW := gw_2 (i := 97) rfl rfl
theorem wd_365 : Cond.instanceMethod yX0_rowRun ∈ GW := gw_2 (i := 98) rfl rfl
theorem wd_366 : Cond.selects RX0 yX0_rowRun yX0_rowRun ∈ GW := gw_2 (i := 99) rfl rfl
theorem wd_367 : Cond.code yX0_rowRun cX0_rowRun 6 (some .int) ∈ GW := gw_2 (i := 100) rfl rfl
theorem wd_368 : Cond.methodLink RX0 109 yX0_startOfRow ∈ GW := gw_2 (i := 101) rfl rfl
theorem wd_369 : Cond.instanceMethod yX0_startOfRow ∈ GW := gw_2 (i := 103) rfl rfl
theorem wd_370 : Cond.selects RX0 yX0_startOfRow yX0_startOfRow ∈ GW := gw_of (List.mem_append_left _ (List.mem_of_getElem? (i := 22) (by decide +kernel))) rfl
theorem wd_371 : Cond.code yX0_startOfRow cX0_startOfRow 6 (some .int) ∈ GW := gw_2 (i := 104) rfl rfl
theorem wd_372 : Cond.methodLink RX0 112 yX0_recordOfStart ∈ GW := gw_2 (i := 106) rfl rfl
theorem wd_373 : Cond.static yX0_recordOfStart ∈ GW := gw_2 (i := 107) rfl rfl
theorem wd_374 : Cond.code yX0_recordOfStart cX0_recordOfStart 1 (some .int) ∈ GW := gw_2 (i := 108) rfl rfl
theorem wd_375 : Cond.methodLink RX0 115 yX0_validOfStart ∈ GW := gw_2 (i := 109) rfl rfl
theorem wd_376 : Cond.static yX0_validOfStart ∈ GW := gw_2 (i := 110) rfl rfl
theorem wd_377 : Cond.code yX0_validOfStart cX0_validOfStart 1 (some .int) ∈ GW := gw_2 (i := 111) rfl rfl
theorem wd_378 : Cond.methodLink RL 132 yX1_rowRun ∈ GW := gw_3 (i := 65) rfl rfl
theorem wd_379 : Cond.instanceMethod yX1_rowRun ∈ GW := gw_3 (i := 66) rfl rfl
theorem wd_380 : Cond.selects RX1 yX1_rowRun yX1_rowRun ∈ GW := gw_3 (i := 67) rfl rfl
theorem wd_381 : Cond.code yX1_rowRun cX1_rowRun 4 (some .int) ∈ GW := gw_3 (i := 68) rfl rfl
theorem wd_382 : Cond.methodLink RX1 93 yX1_errorOfRow ∈ GW := gw_3 (i := 69) rfl rfl
theorem wd_383 : Cond.instanceMethod yX1_errorOfRow ∈ GW := gw_3 (i := 71) rfl rfl
theorem wd_384 : Cond.selects RX1 yX1_errorOfRow yX1_errorOfRow ∈ GW := gw_of (List.mem_append_left _ (List.mem_of_getElem? (i := 37) (by decide +kernel))) rfl
theorem wd_385 : Cond.code yX1_errorOfRow cX1_errorOfRow 4 (some .int) ∈ GW := gw_3 (i := 72) rfl rfl
theorem wd_386 : Cond.methodLink RL 133 yL_rowFrom ∈ GW := gw_2 (i := 112) rfl rfl
theorem wd_387 : Cond.static yL_rowFrom ∈ GW := gw_2 (i := 113) rfl rfl
theorem wd_388 : Cond.codeWith yL_rowFrom cL_rowFrom 6 (some .int) [(0, 12, 15, 13), (0, 12, 19, 28)] ∈ GW := gw_2 (i := 114) rfl rfl
theorem wd_389 : Cond.methodLink RL 59 yX0_rowFrom ∈ GW := gw_2 (i := 115) rfl rfl
theorem wd_390 : Cond.instanceMethod yX0_rowFrom ∈ GW := gw_2 (i := 116) rfl rfl
theorem wd_391 : Cond.selects RX0 yX0_rowFrom yX0_rowFrom ∈ GW := gw_2 (i := 117) rfl rfl
theorem wd_392 : Cond.code yX0_rowFrom cX0_rowFrom 4 (some .int) ∈ GW := gw_2 (i := 118) rfl rfl
theorem wd_393 : Cond.methodLink RL 135 yX1_rowFrom ∈ GW := gw_3 (i := 73) rfl rfl
theorem wd_394 : Cond.instanceMethod yX1_rowFrom ∈ GW := gw_3 (i := 74) rfl rfl
theorem wd_395 : Cond.selects RX1 yX1_rowFrom yX1_rowFrom ∈ GW := gw_3 (i := 75) rfl rfl
theorem wd_396 : Cond.code yX1_rowFrom cX1_rowFrom 4 (some .int) ∈ GW := gw_3 (i := 76) rfl rfl
theorem wd_397 : Cond.methodLink RL 136 yL_rowTo ∈ GW := gw_2 (i := 119) rfl rfl
theorem wd_398 : Cond.static yL_rowTo ∈ GW := gw_2 (i := 120) rfl rfl
theorem wd_399 : Cond.codeWith yL_rowTo cL_rowTo 6 (some .int) [(0, 12, 15, 13), (0, 12, 19, 28)] ∈ GW := gw_2 (i := 121) rfl rfl
theorem wd_400 : Cond.methodLink RL 62 yX0_rowTo ∈ GW := gw_2 (i := 122) rfl rfl
theorem wd_401 : Cond.instanceMethod yX0_rowTo ∈ GW := gw_2 (i := 123) rfl rfl
theorem wd_402 : Cond.selects RX0 yX0_rowTo yX0_rowTo ∈ GW := gw_2 (i := 124) rfl rfl
theorem wd_403 : Cond.code yX0_rowTo cX0_rowTo 9 (some .int) ∈ GW := gw_2 (i := 125) rfl rfl
theorem wd_404 : Cond.methodLink RL 138 yX1_rowTo ∈ GW := gw_3 (i := 77) rfl rfl
theorem wd_405 : Cond.instanceMethod yX1_rowTo ∈ GW := gw_3 (i := 78) rfl rfl
theorem wd_406 : Cond.selects RX1 yX1_rowTo yX1_rowTo ∈ GW := gw_3 (i := 79) rfl rfl
theorem wd_407 : Cond.code yX1_rowTo cX1_rowTo 4 (some .int) ∈ GW := gw_3 (i := 80) rfl rfl
theorem wd_408 : Cond.fieldLink RX1 96 "TwotimesModel" "rowEnd" "I" ∈ GW := gw_2 (i := 164) rfl rfl
theorem wd_409 : Cond.methodLink RL 139 yL_corrections ∈ GW := gw_2 (i := 126) rfl rfl
theorem wd_410 : Cond.static yL_corrections ∈ GW := gw_2 (i := 127) rfl rfl
theorem wd_411 : Cond.codeWith yL_corrections cL_corrections 8 (some .int) [(0, 16, 19, 13), (0, 16, 23, 28)] ∈ GW := gw_2 (i := 128) rfl rfl
theorem wd_412 : Cond.methodLink RL 65 yX0_corrections ∈ GW := gw_2 (i := 129) rfl rfl
theorem wd_413 : Cond.instanceMethod yX0_corrections ∈ GW := gw_2 (i := 130) rfl rfl
theorem wd_414 : Cond.selects RX0 yX0_corrections yX0_corrections ∈ GW := gw_2 (i := 131) rfl rfl
theorem wd_415 : Cond.code yX0_corrections cX0_corrections 9 (some .int) ∈ GW := gw_2 (i := 132) rfl rfl
theorem wd_416 : Cond.methodLink RL 141 yX1_corrections ∈ GW := gw_3 (i := 81) rfl rfl
theorem wd_417 : Cond.instanceMethod yX1_corrections ∈ GW := gw_3 (i := 82) rfl rfl
theorem wd_418 : Cond.selects RX1 yX1_corrections yX1_corrections ∈ GW := gw_3 (i := 83) rfl rfl
theorem wd_419 : Cond.code yX1_corrections cX1_corrections 9 (some .int) ∈ GW := gw_3 (i := 84) rfl rfl
theorem wd_420 : Cond.methodLink RL 142 yL_longest ∈ GW := gw_2 (i := 134) rfl rfl
theorem wd_421 : Cond.static yL_longest ∈ GW := gw_2 (i := 135) rfl rfl
theorem wd_422 : Cond.codeWith yL_longest cL_longest 6 (some .int) [(0, 12, 15, 13), (0, 12, 19, 28)] ∈ GW := gw_2 (i := 136) rfl rfl
theorem wd_423 : Cond.methodLink RL 68 yX0_longest ∈ GW := gw_2 (i := 137) rfl rfl
theorem wd_424 : Cond.instanceMethod yX0_longest ∈ GW := gw_2 (i := 138) rfl rfl
theorem wd_425 : Cond.selects RX0 yX0_longest yX0_longest ∈ GW := gw_2 (i := 139) rfl rfl
theorem wd_426 : Cond.code yX0_longest cX0_longest 7 (some .int) ∈ GW := gw_2 (i := 140) rfl rfl
theorem wd_427 : Cond.methodLink RX0 127 Lib.Math.max.name ∈ GW := gw_2 (i := 141) rfl rfl
theorem wd_428 : Cond.static Lib.Math.max.name ∈ GW := gw_2 (i := 142) rfl rfl
theorem wd_429 : Cond.initialized "java/lang/Math" ∈ GW := gw_1 (i := 10) rfl rfl
theorem wd_430 : Cond.code Lib.Math.max.name Lib.Math.max.code 2 (some .int) ∈ GW := gw_2 (i := 143) (by decide +kernel) rfl
theorem wd_431 : Cond.methodLink RL 144 yX1_longest ∈ GW := gw_3 (i := 85) rfl rfl
theorem wd_432 : Cond.instanceMethod yX1_longest ∈ GW := gw_3 (i := 86) rfl rfl
theorem wd_433 : Cond.selects RX1 yX1_longest yX1_longest ∈ GW := gw_3 (i := 87) rfl rfl
theorem wd_434 : Cond.code yX1_longest cX1_longest 7 (some .int) ∈ GW := gw_3 (i := 88) rfl rfl
theorem wd_435 : Cond.methodLink RL 145 yL_average ∈ GW := gw_2 (i := 144) rfl rfl
theorem wd_436 : Cond.static yL_average ∈ GW := gw_2 (i := 145) rfl rfl
theorem wd_437 : Cond.codeWith yL_average cL_average 5 (some .int) [(0, 10, 13, 13), (0, 10, 17, 28), (0, 10, 21, 15)] ∈ GW := gw_2 (i := 146) rfl rfl
theorem wd_438 : Cond.methodLink RL 71 yX0_average ∈ GW := gw_2 (i := 147) rfl rfl
theorem wd_439 : Cond.instanceMethod yX0_average ∈ GW := gw_2 (i := 148) rfl rfl
theorem wd_440 : Cond.selects RX0 yX0_average yX0_average ∈ GW := gw_2 (i := 149) rfl rfl
theorem wd_441 : Cond.code yX0_average cX0_average 7 (some .float) ∈ GW := gw_2 (i := 150) rfl rfl
theorem wd_442 : Cond.methodLink RL 148 yX1_average ∈ GW := gw_3 (i := 89) rfl rfl
theorem wd_443 : Cond.instanceMethod yX1_average ∈ GW := gw_3 (i := 90) rfl rfl
theorem wd_444 : Cond.selects RX1 yX1_average yX1_average ∈ GW := gw_3 (i := 91) rfl rfl
theorem wd_445 : Cond.code yX1_average cX1_average 8 (some .float) ∈ GW := gw_3 (i := 92) rfl rfl
theorem g_L_L_put : GoodIn GW (va_wsS RL 79 yL_put (Cond.codeWith yL_put cL_put 8 (some .int) [(0, 16, 19, 13), (0, 16, 23, 15)] :: GW)) := gw_S wd_25 wd_26 wd_27 wd_28
theorem g_L_X0_put : GoodIn GW (wsV RL 7 RX0 yX0_put (Cond.code yX0_put cX0_put 6 (some .int) :: GW)) := gw_V wd_31 wd_32 wd_33 wd_2 wd_34
theorem g_X0_X0_needTableAndKey : GoodIn GW (va_wsS RX0 20 yX0_needTableAndKey (Cond.code yX0_needTableAndKey cX0_needTableAndKey 2 none :: GW)) := gw_S wd_35 wd_36 wd_2 wd_37
theorem g_X0_X0_needRange : GoodIn GW (va_wsS RX0 28 yX0_needRange (Cond.code yX0_needRange cX0_needRange 2 none :: GW)) := gw_S wd_38 wd_39 wd_2 wd_40
theorem g_X0_X0_valuesOf : GoodIn GW (va_wsS RX0 24 yX0_valuesOf (Cond.code yX0_valuesOf cX0_valuesOf 1 (some .int) :: GW)) := gw_S wd_43 wd_44 wd_2 wd_45
theorem g_X0_X0_needSpan : GoodIn GW (va_wsS RX0 31 yX0_needSpan (Cond.code yX0_needSpan cX0_needSpan 2 none :: GW)) := gw_S wd_46 wd_47 wd_2 wd_48
theorem g_X0_X0_line : GoodIn GW (va_wsS RX0 34 yX0_line (Cond.code yX0_line cX0_line 2 (some .int) :: GW)) := gw_S wd_49 wd_50 wd_2 wd_51
theorem g_X0_X0_draftSpan : GoodIn GW (wsV RX0 38 RX0 yX0_draftSpan (Cond.code yX0_draftSpan cX0_draftSpan 6 none :: GW)) := gw_V wd_52 wd_53 wd_54 wd_2 wd_55
theorem g_X0_X0_knownOn : GoodIn GW (wsV RX0 77 RX0 yX0_knownOn (Cond.code yX0_knownOn cX0_knownOn 5 (some .int) :: GW)) := gw_V wd_57 wd_58 wd_59 wd_2 wd_60
theorem g_X0_X0_index : GoodIn GW (va_wsS RX0 140 yX0_index (Cond.code yX0_index cX0_index 3 (some .int) :: GW)) := gw_S wd_61 wd_62 wd_2 wd_63
theorem g_X0_X0_recordDraft : GoodIn GW (wsV RX0 42 RX0 yX0_recordDraft (Cond.code yX0_recordDraft cX0_recordDraft 6 (some .int) :: GW)) := gw_V wd_64 wd_65 wd_66 wd_2 wd_67
theorem g_X0_X0_draftKeepsReferences : GoodIn GW (wsV RX0 149 RX0 yX0_draftKeepsReferences (Cond.code yX0_draftKeepsReferences cX0_draftKeepsReferences 5 (some .boolean) :: GW)) := gw_V wd_70 wd_71 wd_72 wd_2 wd_73
theorem g_X0_X0_isReferredTo : GoodIn GW (wsV RX0 159 RX0 yX0_isReferredTo (Cond.code yX0_isReferredTo cX0_isReferredTo 4 (some .boolean) :: GW)) := gw_V wd_74 wd_75 wd_76 wd_2 wd_77
theorem g_X0_X0_recordToday : GoodIn GW (wsV RX0 155 RX0 yX0_recordToday (Cond.code yX0_recordToday cX0_recordToday 5 none :: GW)) := gw_V wd_78 wd_79 wd_80 wd_2 wd_81
theorem g_L_X1_put : GoodIn GW (wsV RL 84 RX1 yX1_put (Cond.code yX1_put cX1_put 7 (some .int) :: GW)) := gw_V wd_82 wd_83 wd_84 wd_5 wd_85
theorem g_X1_X1_isKey : GoodIn GW (va_wsS RX1 47 yX1_isKey (Cond.code yX1_isKey cX1_isKey 2 (some .boolean) :: GW)) := gw_S wd_86 wd_87 wd_5 wd_88
theorem g_X1_X1_in : GoodIn GW (va_wsS RX1 18 yX1_in (Cond.code yX1_in cX1_in 3 (some .boolean) :: GW)) := gw_S wd_89 wd_90 wd_5 wd_91
theorem g_X1_X1_isSpan : GoodIn GW (va_wsS RX1 50 yX1_isSpan (Cond.code yX1_isSpan cX1_isSpan 2 (some .boolean) :: GW)) := gw_S wd_92 wd_93 wd_5 wd_94
theorem g_X1_X1_isDay : GoodIn GW (va_wsS RX1 22 yX1_isDay (Cond.code yX1_isDay cX1_isDay 1 (some .boolean) :: GW)) := gw_S wd_95 wd_96 wd_5 wd_97
theorem g_X1_X1_mayAll : GoodIn GW (wsV RX1 53 RX1 yX1_mayAll (Cond.code yX1_mayAll cX1_mayAll 7 (some .boolean) :: GW)) := gw_V wd_98 wd_99 wd_100 wd_5 wd_101
theorem g_X1_X1_may : GoodIn GW (wsV RX1 40 RX1 yX1_may (Cond.code yX1_may cX1_may 5 (some .boolean) :: GW)) := gw_V wd_102 wd_103 wd_104 wd_5 wd_105
theorem g_X1_X1_isReferred : GoodIn GW (wsV RX1 36 RX1 yX1_isReferred (Cond.code yX1_isReferred cX1_isReferred 4 (some .boolean) :: GW)) := gw_V wd_107 wd_108 wd_109 wd_5 wd_110
theorem g_X1_X1_of : GoodIn GW (wsV RX1 33 RX1 yX1_of (Cond.code yX1_of cX1_of 5 (some .int) :: GW)) := gw_V wd_111 wd_112 wd_113 wd_5 wd_114
theorem g_X1_X1_place : GoodIn GW (va_wsS RX1 26 yX1_place (Cond.code yX1_place cX1_place 4 (some .int) :: GW)) := gw_S wd_115 wd_116 wd_5 wd_117
theorem g_X1_X1_holds : GoodIn GW (wsV RX1 57 RX1 yX1_holds (Cond.code yX1_holds cX1_holds 2 (some .boolean) :: GW)) := gw_V wd_118 wd_119 wd_120 wd_5 wd_121
theorem g_X1_X1_setsAll : GoodIn GW (wsV RX1 60 RX1 yX1_setsAll (Cond.code yX1_setsAll cX1_setsAll 8 (some .int) :: GW)) := gw_V wd_123 wd_124 wd_125 wd_5 wd_126
theorem g_X1_X1_sets : GoodIn GW (wsV RX1 44 RX1 yX1_sets (Cond.code yX1_sets cX1_sets 7 (some .int) :: GW)) := gw_V wd_127 wd_128 wd_129 wd_5 wd_130
theorem g_L_X1_thrown : GoodIn GW (wsV RL 85 RX1 yX1_thrown (Cond.code yX1_thrown cX1_thrown 1 (some .int) :: GW)) := gw_V wd_131 wd_132 wd_133 wd_5 wd_134
theorem g_L_L_erase : GoodIn GW (va_wsS RL 89 yL_erase (Cond.codeWith yL_erase cL_erase 7 (some .int) [(0, 14, 17, 13), (0, 14, 21, 15)] :: GW)) := gw_S wd_135 wd_136 wd_27 wd_137
theorem g_L_X0_erase : GoodIn GW (wsV RL 17 RX0 yX0_erase (Cond.code yX0_erase cX0_erase 5 (some .int) :: GW)) := gw_V wd_138 wd_139 wd_140 wd_2 wd_141
theorem g_L_X1_erase : GoodIn GW (wsV RL 92 RX1 yX1_erase (Cond.code yX1_erase cX1_erase 6 (some .int) :: GW)) := gw_V wd_142 wd_143 wd_144 wd_5 wd_145
theorem g_L_L_eraseAll : GoodIn GW (va_wsS RL 93 yL_eraseAll (Cond.codeWith yL_eraseAll cL_eraseAll 6 (some .int) [(0, 12, 15, 13)] :: GW)) := gw_S wd_146 wd_147 wd_27 wd_148
theorem g_L_X0_eraseAll : GoodIn GW (wsV RL 21 RX0 yX0_eraseAll (Cond.code yX0_eraseAll cX0_eraseAll 6 (some .int) :: GW)) := gw_V wd_149 wd_150 wd_151 wd_2 wd_152
theorem g_X0_X0_loseWithReferences : GoodIn GW (wsV RX0 45 RX0 yX0_loseWithReferences (Cond.code yX0_loseWithReferences cX0_loseWithReferences 5 (some .int) :: GW)) := gw_V wd_153 wd_154 wd_155 wd_2 wd_156
theorem g_X0_X0_lose : GoodIn GW (wsV RX0 162 RX0 yX0_lose (Cond.code yX0_lose cX0_lose 3 (some .int) :: GW)) := gw_V wd_157 wd_158 wd_159 wd_2 wd_160
theorem g_L_X1_eraseAll : GoodIn GW (wsV RL 96 RX1 yX1_eraseAll (Cond.code yX1_eraseAll cX1_eraseAll 7 (some .int) :: GW)) := gw_V wd_161 wd_162 wd_163 wd_5 wd_164
theorem g_L_L_restore : GoodIn GW (va_wsS RL 97 yL_restore (Cond.codeWith yL_restore cL_restore 6 (some .int) [(0, 12, 15, 13), (0, 12, 19, 28), (0, 12, 23, 15)] :: GW)) := gw_S wd_165 wd_166 wd_27 wd_167
theorem g_L_X0_restore : GoodIn GW (wsV RL 25 RX0 yX0_restore (Cond.code yX0_restore cX0_restore 4 (some .int) :: GW)) := gw_V wd_169 wd_170 wd_171 wd_2 wd_172
theorem g_X0_X0_needRecord : GoodIn GW (wsV RX0 48 RX0 yX0_needRecord (Cond.code yX0_needRecord cX0_needRecord 2 none :: GW)) := gw_V wd_173 wd_174 wd_175 wd_2 wd_176
theorem g_X0_X0_draftRecord : GoodIn GW (wsV RX0 52 RX0 yX0_draftRecord (Cond.code yX0_draftRecord cX0_draftRecord 4 none :: GW)) := gw_V wd_179 wd_180 wd_181 wd_2 wd_182
theorem g_L_X1_restore : GoodIn GW (wsV RL 99 RX1 yX1_restore (Cond.code yX1_restore cX1_restore 7 (some .int) :: GW)) := gw_V wd_183 wd_184 wd_185 wd_5 wd_186
theorem g_X1_X1_errorOfRecord : GoodIn GW (wsV RX1 64 RX1 yX1_errorOfRecord (Cond.code yX1_errorOfRecord cX1_errorOfRecord 3 (some .int) :: GW)) := gw_V wd_187 wd_188 wd_189 wd_5 wd_190
theorem g_L_L_pass : GoodIn GW (va_wsS RL 100 yL_pass (Cond.codeWith yL_pass cL_pass 4 (some .int) [(0, 9, 12, 13), (0, 9, 15, 15)] :: GW)) := gw_S wd_191 wd_192 wd_27 wd_193
theorem g_L_X0_pass : GoodIn GW (wsV RL 30 RX0 yX0_pass (Cond.code yX0_pass cX0_pass 4 (some .int) :: GW)) := gw_V wd_194 wd_195 wd_196 wd_2 wd_197
theorem g_X0_X0_keepOn : GoodIn GW (wsV RX0 71 RX0 yX0_keepOn (Cond.code yX0_keepOn cX0_keepOn 3 none :: GW)) := gw_V wd_198 wd_199 wd_200 wd_2 wd_201
theorem g_X0_X0_copyDay : GoodIn GW (wsV RX0 74 RX0 yX0_copyDay (Cond.code yX0_copyDay cX0_copyDay 3 none :: GW)) := gw_V wd_202 wd_203 wd_204 wd_2 wd_205
theorem g_L_X1_pass : GoodIn GW (wsV RL 103 RX1 yX1_pass (Cond.code yX1_pass cX1_pass 4 (some .int) :: GW)) := gw_V wd_210 wd_211 wd_212 wd_5 wd_213
theorem g_L_X0_today : GoodIn GW (wsV RL 104 RX0 yX0_today (Cond.code yX0_today cX0_today 1 (some .int) :: GW)) := gw_V wd_214 wd_215 wd_216 wd_2 wd_217
theorem g_L_X1_today : GoodIn GW (wsV RL 107 RX1 yX1_today (Cond.code yX1_today cX1_today 1 (some .int) :: GW)) := gw_V wd_218 wd_219 wd_220 wd_5 wd_221
theorem g_L_L_value : GoodIn GW (va_wsS RL 108 yL_value (Cond.codeWith yL_value cL_value 7 (some .int) [(0, 14, 17, 13), (0, 14, 21, 28)] :: GW)) := gw_S wd_222 wd_223 wd_27 wd_224
theorem g_L_X0_value : GoodIn GW (wsV RL 34 RX0 yX0_value (Cond.code yX0_value cX0_value 5 (some .int) :: GW)) := gw_V wd_225 wd_226 wd_227 wd_2 wd_228
theorem g_L_X1_value : GoodIn GW (wsV RL 110 RX1 yX1_value (Cond.code yX1_value cX1_value 5 (some .int) :: GW)) := gw_V wd_229 wd_230 wd_231 wd_5 wd_232
theorem g_L_L_keys : GoodIn GW (va_wsS RL 111 yL_keys (Cond.codeWith yL_keys cL_keys 6 (some .int) [(0, 12, 15, 13), (0, 12, 19, 28)] :: GW)) := gw_S wd_233 wd_234 wd_27 wd_235
theorem g_L_X0_keys : GoodIn GW (wsV RL 37 RX0 yX0_keys (Cond.code yX0_keys cX0_keys 6 (some .int) :: GW)) := gw_V wd_236 wd_237 wd_238 wd_2 wd_239
theorem g_L_X1_keys : GoodIn GW (wsV RL 113 RX1 yX1_keys (Cond.code yX1_keys cX1_keys 6 (some .int) :: GW)) := gw_V wd_240 wd_241 wd_242 wd_5 wd_243
theorem g_L_L_joined : GoodIn GW (va_wsS RL 114 yL_joined (Cond.codeWith yL_joined cL_joined 6 (some .int) [(0, 12, 15, 13), (0, 12, 19, 28)] :: GW)) := gw_S wd_244 wd_245 wd_27 wd_246
theorem g_L_X0_joined : GoodIn GW (wsV RL 40 RX0 yX0_joined (Cond.code yX0_joined cX0_joined 4 (some .int) :: GW)) := gw_V wd_247 wd_248 wd_249 wd_2 wd_250
theorem g_X0_X0_joinedOn : GoodIn GW (wsV RX0 81 RX0 yX0_joinedOn (Cond.code yX0_joinedOn cX0_joinedOn 5 (some .int) :: GW)) := gw_V wd_251 wd_252 wd_253 wd_2 wd_254
theorem g_L_X1_joined : GoodIn GW (wsV RL 116 RX1 yX1_joined (Cond.code yX1_joined cX1_joined 4 (some .int) :: GW)) := gw_V wd_255 wd_256 wd_257 wd_5 wd_258
theorem g_X1_X1_joinedOf : GoodIn GW (wsV RX1 68 RX1 yX1_joinedOf (Cond.code yX1_joinedOf cX1_joinedOf 5 (some .int) :: GW)) := gw_V wd_259 wd_260 wd_261 wd_5 wd_262
theorem g_L_L_runs : GoodIn GW (va_wsS RL 117 yL_runs (Cond.codeWith yL_runs cL_runs 6 (some .int) [(0, 12, 15, 13), (0, 12, 19, 28)] :: GW)) := gw_S wd_263 wd_264 wd_27 wd_265
theorem g_L_X0_runs : GoodIn GW (wsV RL 43 RX0 yX0_runs (Cond.code yX0_runs cX0_runs 7 (some .int) :: GW)) := gw_V wd_266 wd_267 wd_268 wd_2 wd_269
theorem g_X0_X0_startsRun : GoodIn GW (wsV RX0 84 RX0 yX0_startsRun (Cond.code yX0_startsRun cX0_startsRun 5 (some .boolean) :: GW)) := gw_V wd_270 wd_271 wd_272 wd_2 wd_273
theorem g_L_X1_runs : GoodIn GW (wsV RL 119 RX1 yX1_runs (Cond.code yX1_runs cX1_runs 4 (some .int) :: GW)) := gw_V wd_274 wd_275 wd_276 wd_5 wd_277
theorem g_X1_X1_runsOf : GoodIn GW (wsV RX1 78 RX1 yX1_runsOf (Cond.code yX1_runsOf cX1_runsOf 6 (some .int) :: GW)) := gw_V wd_278 wd_279 wd_280 wd_5 wd_281
theorem g_X1_X1_begins : GoodIn GW (wsV RX1 72 RX1 yX1_begins (Cond.code yX1_begins cX1_begins 6 (some .boolean) :: GW)) := gw_V wd_282 wd_283 wd_284 wd_5 wd_285
theorem g_L_L_run : GoodIn GW (va_wsS RL 120 yL_run (Cond.codeWith yL_run cL_run 7 (some .int) [(0, 14, 17, 13), (0, 14, 21, 28)] :: GW)) := gw_S wd_286 wd_287 wd_27 wd_288
theorem g_L_X0_run : GoodIn GW (wsV RL 46 RX0 yX0_run (Cond.code yX0_run cX0_run 7 (some .int) :: GW)) := gw_V wd_289 wd_290 wd_291 wd_2 wd_292
theorem g_X0_X0_firstDayOfRun : GoodIn GW (wsV RX0 88 RX0 yX0_firstDayOfRun (Cond.code yX0_firstDayOfRun cX0_firstDayOfRun 6 (some .int) :: GW)) := gw_V wd_293 wd_294 wd_295 wd_2 wd_296
theorem g_X0_X0_runNumber : GoodIn GW (wsV RX0 96 RX0 yX0_runNumber (Cond.code yX0_runNumber cX0_runNumber 4 (some .int) :: GW)) := gw_V wd_297 wd_298 wd_299 wd_2 wd_300
theorem g_X0_X0_endOfRun : GoodIn GW (wsV RX0 124 RX0 yX0_endOfRun (Cond.code yX0_endOfRun cX0_endOfRun 6 (some .int) :: GW)) := gw_V wd_301 wd_302 wd_303 wd_2 wd_304
theorem g_L_X1_run : GoodIn GW (wsV RL 122 RX1 yX1_run (Cond.code yX1_run cX1_run 8 (some .int) :: GW)) := gw_V wd_305 wd_306 wd_307 wd_5 wd_308
theorem g_X1_X1_told : GoodIn GW (wsV RX1 81 RX1 yX1_told (Cond.code yX1_told cX1_told 5 (some .int) :: GW)) := gw_V wd_309 wd_310 wd_311 wd_5 wd_312
theorem g_X1_X1_end : GoodIn GW (wsV RX1 75 RX1 yX1_end (Cond.code yX1_end cX1_end 6 (some .int) :: GW)) := gw_V wd_313 wd_314 wd_315 wd_5 wd_316
theorem g_L_L_joinedRuns : GoodIn GW (va_wsS RL 123 yL_joinedRuns (Cond.codeWith yL_joinedRuns cL_joinedRuns 5 (some .int) [(0, 10, 13, 13), (0, 10, 17, 28)] :: GW)) := gw_S wd_317 wd_318 wd_27 wd_319
theorem g_L_X0_joinedRuns : GoodIn GW (wsV RL 49 RX0 yX0_joinedRuns (Cond.code yX0_joinedRuns cX0_joinedRuns 5 (some .int) :: GW)) := gw_V wd_320 wd_321 wd_322 wd_2 wd_323
theorem g_X0_X0_startsJoinedRun : GoodIn GW (wsV RX0 99 RX0 yX0_startsJoinedRun (Cond.code yX0_startsJoinedRun cX0_startsJoinedRun 4 (some .boolean) :: GW)) := gw_V wd_324 wd_325 wd_326 wd_2 wd_327
theorem g_L_X1_joinedRuns : GoodIn GW (wsV RL 126 RX1 yX1_joinedRuns (Cond.code yX1_joinedRuns cX1_joinedRuns 6 (some .int) :: GW)) := gw_V wd_328 wd_329 wd_330 wd_5 wd_331
theorem g_L_L_rows : GoodIn GW (va_wsS RL 127 yL_rows (Cond.codeWith yL_rows cL_rows 5 (some .int) [(0, 10, 13, 13)] :: GW)) := gw_S wd_332 wd_333 wd_27 wd_334
theorem g_L_X0_rows : GoodIn GW (wsV RL 53 RX0 yX0_rows (Cond.code yX0_rows cX0_rows 7 (some .int) :: GW)) := gw_V wd_335 wd_336 wd_337 wd_2 wd_338
theorem g_X0_X0_isKept : GoodIn GW (wsV RX0 102 RX0 yX0_isKept (Cond.code yX0_isKept cX0_isKept 2 (some .boolean) :: GW)) := gw_V wd_339 wd_340 wd_341 wd_2 wd_342
theorem g_X0_X0_startsRow : GoodIn GW (wsV RX0 106 RX0 yX0_startsRow (Cond.code yX0_startsRow cX0_startsRow 4 (some .boolean) :: GW)) := gw_V wd_343 wd_344 wd_345 wd_2 wd_346
theorem g_X0_X0_sameRun : GoodIn GW (wsV RX0 118 RX0 yX0_sameRun (Cond.code yX0_sameRun cX0_sameRun 5 (some .boolean) :: GW)) := gw_V wd_347 wd_348 wd_349 wd_2 wd_350
theorem g_L_X1_rows : GoodIn GW (wsV RL 129 RX1 yX1_rows (Cond.code yX1_rows cX1_rows 3 (some .int) :: GW)) := gw_V wd_351 wd_352 wd_353 wd_5 wd_354
theorem g_X1_X1_rowsOf : GoodIn GW (wsV RX1 90 RX1 yX1_rowsOf (Cond.code yX1_rowsOf cX1_rowsOf 8 (some .int) :: GW)) := gw_V wd_355 wd_356 wd_357 wd_5 wd_358
theorem g_L_L_rowRun : GoodIn GW (va_wsS RL 130 yL_rowRun (Cond.codeWith yL_rowRun cL_rowRun 6 (some .int) [(0, 12, 15, 13), (0, 12, 19, 28)] :: GW)) := gw_S wd_361 wd_362 wd_27 wd_363
theorem g_L_X0_rowRun : GoodIn GW (wsV RL 56 RX0 yX0_rowRun (Cond.code yX0_rowRun cX0_rowRun 6 (some .int) :: GW)) := gw_V wd_364 wd_365 wd_366 wd_2 wd_367
theorem g_X0_X0_startOfRow : GoodIn GW (wsV RX0 109 RX0 yX0_startOfRow (Cond.code yX0_startOfRow cX0_startOfRow 6 (some .int) :: GW)) := gw_V wd_368 wd_369 wd_370 wd_2 wd_371
theorem g_X0_X0_recordOfStart : GoodIn GW (va_wsS RX0 112 yX0_recordOfStart (Cond.code yX0_recordOfStart cX0_recordOfStart 1 (some .int) :: GW)) := gw_S wd_372 wd_373 wd_2 wd_374
theorem g_X0_X0_validOfStart : GoodIn GW (va_wsS RX0 115 yX0_validOfStart (Cond.code yX0_validOfStart cX0_validOfStart 1 (some .int) :: GW)) := gw_S wd_375 wd_376 wd_2 wd_377
theorem g_L_X1_rowRun : GoodIn GW (wsV RL 132 RX1 yX1_rowRun (Cond.code yX1_rowRun cX1_rowRun 4 (some .int) :: GW)) := gw_V wd_378 wd_379 wd_380 wd_5 wd_381
theorem g_X1_X1_errorOfRow : GoodIn GW (wsV RX1 93 RX1 yX1_errorOfRow (Cond.code yX1_errorOfRow cX1_errorOfRow 4 (some .int) :: GW)) := gw_V wd_382 wd_383 wd_384 wd_5 wd_385
theorem g_L_L_rowFrom : GoodIn GW (va_wsS RL 133 yL_rowFrom (Cond.codeWith yL_rowFrom cL_rowFrom 6 (some .int) [(0, 12, 15, 13), (0, 12, 19, 28)] :: GW)) := gw_S wd_386 wd_387 wd_27 wd_388
theorem g_L_X0_rowFrom : GoodIn GW (wsV RL 59 RX0 yX0_rowFrom (Cond.code yX0_rowFrom cX0_rowFrom 4 (some .int) :: GW)) := gw_V wd_389 wd_390 wd_391 wd_2 wd_392
theorem g_L_X1_rowFrom : GoodIn GW (wsV RL 135 RX1 yX1_rowFrom (Cond.code yX1_rowFrom cX1_rowFrom 4 (some .int) :: GW)) := gw_V wd_393 wd_394 wd_395 wd_5 wd_396
theorem g_L_L_rowTo : GoodIn GW (va_wsS RL 136 yL_rowTo (Cond.codeWith yL_rowTo cL_rowTo 6 (some .int) [(0, 12, 15, 13), (0, 12, 19, 28)] :: GW)) := gw_S wd_397 wd_398 wd_27 wd_399
theorem g_L_X0_rowTo : GoodIn GW (wsV RL 62 RX0 yX0_rowTo (Cond.code yX0_rowTo cX0_rowTo 9 (some .int) :: GW)) := gw_V wd_400 wd_401 wd_402 wd_2 wd_403
theorem g_L_X1_rowTo : GoodIn GW (wsV RL 138 RX1 yX1_rowTo (Cond.code yX1_rowTo cX1_rowTo 4 (some .int) :: GW)) := gw_V wd_404 wd_405 wd_406 wd_5 wd_407
theorem g_L_L_corrections : GoodIn GW (va_wsS RL 139 yL_corrections (Cond.codeWith yL_corrections cL_corrections 8 (some .int) [(0, 16, 19, 13), (0, 16, 23, 28)] :: GW)) := gw_S wd_409 wd_410 wd_27 wd_411
theorem g_L_X0_corrections : GoodIn GW (wsV RL 65 RX0 yX0_corrections (Cond.code yX0_corrections cX0_corrections 9 (some .int) :: GW)) := gw_V wd_412 wd_413 wd_414 wd_2 wd_415
theorem g_L_X1_corrections : GoodIn GW (wsV RL 141 RX1 yX1_corrections (Cond.code yX1_corrections cX1_corrections 9 (some .int) :: GW)) := gw_V wd_416 wd_417 wd_418 wd_5 wd_419
theorem g_L_L_longest : GoodIn GW (va_wsS RL 142 yL_longest (Cond.codeWith yL_longest cL_longest 6 (some .int) [(0, 12, 15, 13), (0, 12, 19, 28)] :: GW)) := gw_S wd_420 wd_421 wd_27 wd_422
theorem g_L_X0_longest : GoodIn GW (wsV RL 68 RX0 yX0_longest (Cond.code yX0_longest cX0_longest 7 (some .int) :: GW)) := gw_V wd_423 wd_424 wd_425 wd_2 wd_426
theorem g_L_X1_longest : GoodIn GW (wsV RL 144 RX1 yX1_longest (Cond.code yX1_longest cX1_longest 7 (some .int) :: GW)) := gw_V wd_431 wd_432 wd_433 wd_5 wd_434
theorem g_L_L_average : GoodIn GW (va_wsS RL 145 yL_average (Cond.codeWith yL_average cL_average 5 (some .int) [(0, 10, 13, 13), (0, 10, 17, 28), (0, 10, 21, 15)] :: GW)) := gw_S wd_435 wd_436 wd_27 wd_437
theorem g_L_X0_average : GoodIn GW (wsV RL 71 RX0 yX0_average (Cond.code yX0_average cX0_average 7 (some .float) :: GW)) := gw_V wd_438 wd_439 wd_440 wd_2 wd_441
theorem g_L_X1_average : GoodIn GW (wsV RL 148 RX1 yX1_average (Cond.code yX1_average cX1_average 8 (some .float) :: GW)) := gw_V wd_442 wd_443 wd_444 wd_5 wd_445
theorem inX0 : ∀ w ∈ wsX00, w ∈ GW := by decide +kernel
theorem inX1 : ∀ w ∈ wsX10, w ∈ GW := by decide +kernel
