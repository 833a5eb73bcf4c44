/-! where each method stands -/
theorem xM_0 : xnth xMs 0 = some rX0_init := rfl
theorem xM_1 : xnth xMs 1 = some rX0_outcomeNow := rfl
theorem xM_2 : xnth xMs 2 = some rX0_outcomeIf := rfl
theorem xM_3 : xnth xMs 3 = some rX0_outcomeOf := rfl
theorem xM_4 : xnth xMs 4 = some rX0_outcomeRead := rfl
theorem xM_5 : xnth xMs 5 = some rX1_init := rfl
theorem xM_6 : xnth xMs 6 = some rX1_become := rfl
theorem xM_7 : xnth xMs 7 = some rX1_takeFrom := rfl
theorem xM_8 : xnth xMs 8 = some rX1_isOf := rfl
theorem xM_9 : xnth xMs 9 = some rX1_isReadable := rfl
theorem xM_10 : xnth xMs 10 = some rX2_init := rfl
theorem xM_11 : xnth xMs 11 = some rX2_letterAt := rfl
theorem xM_12 : xnth xMs 12 = some rX2_asked := rfl
theorem xM_13 : xnth xMs 13 = some rX2_isTracked := rfl
theorem xM_14 : xnth xMs 14 = some rX2_start := rfl
theorem xM_15 : xnth xMs 15 = some rX2_goesOn := rfl
theorem xM_16 : xnth xMs 16 = some rX2_give := rfl
theorem xM_17 : xnth xMs 17 = some rX2_outcome := rfl
theorem xM_18 : xnth xMs 18 = some rX2_takeStep := rfl
theorem xM_19 : xnth xMs 19 = some rX2_join := rfl
theorem xM_20 : xnth xMs 20 = some rX3_init := rfl
theorem xM_21 : xnth xMs 21 = some rX3_fault := rfl
theorem xM_22 : xnth xMs 22 = some rX3_take := rfl
theorem xM_23 : xnth xMs 23 = some rX3_start := rfl
theorem xM_24 : xnth xMs 24 = some rX3_readPart := rfl
theorem xM_25 : xnth xMs 25 = some rX3_readGreater := rfl
theorem xM_26 : xnth xMs 26 = some rX3_readUntracked := rfl
theorem xM_27 : xnth xMs 27 = some rX3_readPlainPart := rfl
theorem xM_28 : xnth xMs 28 = some rX3_readNumber := rfl
theorem xM_29 : xnth xMs 29 = some rX3_isLetter := rfl
theorem xM_30 : xnth xMs 30 = some rX3_isDigit := rfl
theorem xM_31 : xnth xMs 31 = some rX3_endPart := rfl
theorem xM_32 : xnth xMs 32 = some rX3_readSign := rfl
theorem xM_33 : xnth xMs 33 = some rX3_gather := rfl
theorem xM_34 : xnth xMs 34 = some rX3_readBracketSign := rfl
theorem xM_35 : xnth xMs 35 = some rX3_choose := rfl
theorem xM_36 : xnth xMs 36 = some rX3_openUp := rfl
theorem xM_37 : xnth xMs 37 = some rX3_closeDown := rfl
theorem xM_38 : xnth xMs 38 = some rX3_closeWithPart := rfl
theorem xM_39 : xnth xMs 39 = some rX3_addStep := rfl
theorem xM_40 : xnth xMs 40 = some rX3_joiningSign := rfl
theorem xM_41 : xnth xMs 41 = some rX3_level := rfl
theorem xM_42 : xnth xMs 42 = some rX3_awaited := rfl
theorem xM_43 : xnth xMs 43 = some rX4_init := rfl
theorem xM_44 : xnth xMs 44 = some rX4_size := rfl
theorem xM_45 : xnth xMs 45 = some rX4_counted := rfl
theorem xM_46 : xnth xMs 46 = some rX4_at := rfl
theorem xM_47 : xnth xMs 47 = some rX4_last := rfl
theorem xM_48 : xnth xMs 48 = some rX4_take := rfl
theorem xM_49 : xnth xMs 49 = some rX4_has := rfl
theorem xM_50 : xnth xMs 50 = some rX4_add := rfl
theorem xM_51 : xnth xMs 51 = some rX4_put := rfl
theorem xM_52 : xnth xMs 52 = some rX4_insert := rfl
theorem xM_53 : xnth xMs 53 = some rX4_dropLast := rfl
theorem xM_54 : xnth xMs 54 = some rX4_drop := rfl
theorem xM_55 : xnth xMs 55 = some rX4_clear := rfl
theorem xM_56 : xnth xMs 56 = some rX4_takeFrom := rfl
theorem xM_57 : xnth xMs 57 = some rX4_trimmed := rfl
theorem xM_58 : xnth xMs 58 = some rX5_init := rfl
theorem xM_59 : xnth xMs 59 = some rX5_pull := rfl
theorem xM_60 : xnth xMs 60 = some rX5_flushUnlessBatch := rfl
theorem xM_61 : xnth xMs 61 = some rX5_writeTo := rfl
theorem xM_62 : xnth xMs 62 = some rX5_giveFormula := rfl
theorem xM_63 : xnth xMs 63 = some rX5_disposeOf := rfl
theorem xM_64 : xnth xMs 64 = some rX5_disposeOwned := rfl
theorem xM_65 : xnth xMs 65 = some rX5_letGo := rfl
theorem xM_66 : xnth xMs 66 = some rX5_colour := rfl
theorem xM_67 : xnth xMs 67 = some rX5_refresh := rfl
theorem xM_68 : xnth xMs 68 = some rX5_checkReads := rfl
theorem xM_69 : xnth xMs 69 = some rX5_runOnce := rfl
theorem xM_70 : xnth xMs 70 = some rX5_outcomeRead := rfl
theorem xM_71 : xnth xMs 71 = some rX6_init := rfl
theorem xM_72 : xnth xMs 72 = some rX6_holding := rfl
theorem xM_73 : xnth xMs 73 = some rX6_holdsRow := rfl
theorem xM_74 : xnth xMs 74 = some rX6_holdsCell := rfl
theorem xM_75 : xnth xMs 75 = some rX6_cellHeld := rfl
theorem xM_76 : xnth xMs 76 = some rX6_holdNothing := rfl
theorem xM_77 : xnth xMs 77 = some rX6_holdCell := rfl
theorem xM_78 : xnth xMs 78 = some rX6_holdRow := rfl
theorem xM_79 : xnth xMs 79 = some rX6_hasPlaces := rfl
theorem xM_80 : xnth xMs 80 = some rX6_elementAt := rfl
theorem xM_81 : xnth xMs 81 = some rX6_putElement := rfl
theorem xM_82 : xnth xMs 82 = some rX6_lowestBits := rfl
theorem xM_83 : xnth xMs 83 = some rX6_takeElements := rfl
theorem xM_84 : xnth xMs 84 = some rX7_init := rfl
theorem xM_85 : xnth xMs 85 = some rX7_count := rfl
theorem xM_86 : xnth xMs 86 = some rX7_isFull := rfl
theorem xM_87 : xnth xMs 87 = some rX7_cell := rfl
theorem xM_88 : xnth xMs 88 = some rX7_mayOwn := rfl
theorem xM_89 : xnth xMs 89 = some rX7_addCell := rfl
theorem xM_90 : xnth xMs 90 = some rX7_roomFor := rfl
theorem xM_91 : xnth xMs 91 = some rX7_takeFrom := rfl
theorem xM_92 : xnth xMs 92 = some rX7_ownedBy := rfl
theorem xM_93 : xnth xMs 93 = some rX7_addRead := rfl
theorem xM_94 : xnth xMs 94 = some rX7_clearReads := rfl
theorem xM_95 : xnth xMs 95 = some rX7_readersOf := rfl
theorem xM_96 : xnth xMs 96 = some rX7_furtherReadersOf := rfl
theorem xM_97 : xnth xMs 97 = some rX7_reachedFrom := rfl
theorem xM_98 : xnth xMs 98 = some rX7_goneCount := rfl
theorem xM_99 : xnth xMs 99 = some rX7_colouredCount := rfl
theorem xM_100 : xnth xMs 100 = some rX7_allRuns := rfl
theorem xM_101 : xnth xMs 101 = some rX7_addToLog := rfl
theorem xM_102 : xnth xMs 102 = some rX7_hasLogged := rfl
theorem xM_103 : xnth xMs 103 = some rX7_outcomeLogged := rfl
theorem xM_104 : xnth xMs 104 = some rX7_logSays := rfl
theorem xM_105 : xnth xMs 105 = some rX7_draw := rfl
theorem xM_106 : xnth xMs 106 = some rX8_init := rfl
theorem xM_107 : xnth xMs 107 = some rX8_row := rfl
theorem xM_108 : xnth xMs 108 = some rX8_set := rfl
theorem xM_109 : xnth xMs 109 = some rX8_copy := rfl
theorem xM_110 : xnth xMs 110 = some rX8_element := rfl
theorem xM_111 : xnth xMs 111 = some rX8_holds := rfl
theorem xM_112 : xnth xMs 112 = some rX8_show := rfl
theorem xM_113 : xnth xMs 113 = some rX8_says := rfl
theorem xM_114 : xnth xMs 114 = some rX8_saidBy := rfl
theorem xM_115 : xnth xMs 115 = some rX8_feed := rfl
theorem xM_116 : xnth xMs 116 = some rX8_wipe := rfl
theorem xM_117 : xnth xMs 117 = some rX8_source := rfl
theorem xM_118 : xnth xMs 118 = some rX8_scope := rfl
theorem xM_119 : xnth xMs 119 = some rX8_newCell := rfl
theorem xM_120 : xnth xMs 120 = some rX8_memo := rfl
theorem xM_121 : xnth xMs 121 = some rX8_effect := rfl
theorem xM_122 : xnth xMs 122 = some rX8_newComputed := rfl
theorem xM_123 : xnth xMs 123 = some rX8_reform := rfl
theorem xM_124 : xnth xMs 124 = some rX8_anotherFormula := rfl
theorem xM_125 : xnth xMs 125 = some rX8_write := rfl
theorem xM_126 : xnth xMs 126 = some rX8_begin := rfl
theorem xM_127 : xnth xMs 127 = some rX8_end := rfl
theorem xM_128 : xnth xMs 128 = some rX8_dispose := rfl
theorem xM_129 : xnth xMs 129 = some rX8_read := rfl
theorem xM_130 : xnth xMs 130 = some rX8_kept := rfl
theorem xM_131 : xnth xMs 131 = some rX8_cellOf := rfl
theorem xM_132 : xnth xMs 132 = some rX8_reads := rfl
theorem xM_133 : xnth xMs 133 = some rX8_spelled := rfl
theorem xM_134 : xnth xMs 134 = some rX8_plain := rfl
theorem xM_135 : xnth xMs 135 = some rX8_whatIf := rfl
theorem xM_136 : xnth xMs 136 = some rX8_aim := rfl
theorem xM_137 : xnth xMs 137 = some rX8_news := rfl
theorem xM_138 : xnth xMs 138 = some rX8_reaches := rfl
theorem xM_139 : xnth xMs 139 = some rX8_colours := rfl
theorem xM_140 : xnth xMs 140 = some rX8_signs := rfl
theorem xM_141 : xnth xMs 141 = some rX8_log := rfl
theorem xM_142 : xnth xMs 142 = some rX8_logged := rfl
theorem xM_143 : xnth xMs 143 = some rX8_disposed := rfl
theorem xM_144 : xnth xMs 144 = some rX8_queued := rfl
theorem xM_145 : xnth xMs 145 = some rX8_judge := rfl
theorem xM_146 : xnth xMs 146 = some rX8_days := rfl
theorem xM_147 : xnth xMs 147 = some rX8_seed := rfl
theorem xM_148 : xnth xMs 148 = some rX8_image := rfl
theorem xM_149 : xnth xMs 149 = some rX8_back := rfl
theorem xM_150 : xnth xMs 150 = some rX8_status := rfl
theorem xM_151 : xnth xMs 151 = some rX8_heldCount := rfl
theorem xM_152 : xnth xMs 152 = some rX8_refusalCount := rfl
theorem xM_153 : xnth xMs 153 = some rX8_refuse := rfl
theorem xM_154 : xnth xMs 154 = some rX8_refuseLong := rfl
theorem xM_155 : xnth xMs 155 = some rX8_refuseFault := rfl
theorem xM_156 : xnth xMs 156 = some rX8_shelfAt := rfl
theorem xM_157 : xnth xMs 157 = some rX8_rowRefusal := rfl
theorem xM_158 : xnth xMs 158 = some rX8_isSource := rfl
theorem xM_159 : xnth xMs 159 = some rX8_hasOutcome := rfl
theorem xM_160 : xnth xMs 160 = some rX8_isFail := rfl
theorem xM_161 : xnth xMs 161 = some rX8_joined := rfl
theorem xM_162 : xnth xMs 162 = some rX9_init := rfl
theorem xM_163 : xnth xMs 163 = some rX9_in := rfl
theorem xM_164 : xnth xMs 164 = some rX9_refused := rfl
theorem xM_165 : xnth xMs 165 = some rX9_refusedLong := rfl
theorem xM_166 : xnth xMs 166 = some rX9_of := rfl
theorem xM_167 : xnth xMs 167 = some rX9_is := rfl
theorem xM_168 : xnth xMs 168 = some rX9_isCell := rfl
theorem xM_169 : xnth xMs 169 = some rX9_isComputed := rfl
theorem xM_170 : xnth xMs 170 = some rX9_letter := rfl
theorem xM_171 : xnth xMs 171 = some rX9_isFail := rfl
theorem xM_172 : xnth xMs 172 = some rX9_two := rfl
theorem xM_173 : xnth xMs 173 = some rX9_comp := rfl
theorem xM_174 : xnth xMs 174 = some rX9_sum := rfl
theorem xM_175 : xnth xMs 175 = some rX9_term := rfl
theorem xM_176 : xnth xMs 176 = some rX9_part := rfl
theorem xM_177 : xnth xMs 177 = some rX9_choice := rfl
theorem xM_178 : xnth xMs 178 = some rX9_asked := rfl
theorem xM_179 : xnth xMs 179 = some rX9_worked := rfl
theorem xM_180 : xnth xMs 180 = some rX9_hasRead := rfl
theorem xM_181 : xnth xMs 181 = some rX9_readBy := rfl
theorem xM_182 : xnth xMs 182 = some rX9_refreshes := rfl
theorem xM_183 : xnth xMs 183 = some rX9_runs := rfl
theorem xM_184 : xnth xMs 184 = some rX9_logs := rfl
theorem xM_185 : xnth xMs 185 = some rX9_queues := rfl
theorem xM_186 : xnth xMs 186 = some rX9_isQueued := rfl
theorem xM_187 : xnth xMs 187 = some rX9_unqueues := rfl
theorem xM_188 : xnth xMs 188 = some rX9_marks := rfl
theorem xM_189 : xnth xMs 189 = some rX9_disposesOwn := rfl
theorem xM_190 : xnth xMs 190 = some rX9_disposes := rfl
theorem xM_191 : xnth xMs 191 = some rX9_flushes := rfl
theorem xM_192 : xnth xMs 192 = some rX9_plainBy := rfl
theorem xM_193 : xnth xMs 193 = some rX9_plainOf := rfl
theorem xM_194 : xnth xMs 194 = some rX9_plainly := rfl
theorem xM_195 : xnth xMs 195 = some rX9_byteAt := rfl
theorem xM_196 : xnth xMs 196 = some rX9_sign := rfl
theorem xM_197 : xnth xMs 197 = some rX9_isComp := rfl
theorem xM_198 : xnth xMs 198 = some rX9_isSum := rfl
theorem xM_199 : xnth xMs 199 = some rX9_isTerm := rfl
theorem xM_200 : xnth xMs 200 = some rX9_isLetter := rfl
set_option maxRecDepth 100000 in
theorem xM_201 : xnth xMs 201 = some rX9_isPart := rfl
set_option maxRecDepth 100000 in
theorem xM_202 : xnth xMs 202 = some rX9_faultRead := rfl
set_option maxRecDepth 100000 in
theorem xM_203 : xnth xMs 203 = some rX9_takes := rfl
set_option maxRecDepth 100000 in
theorem xM_204 : xnth xMs 204 = some rX9_tells := rfl
set_option maxRecDepth 100000 in
theorem xM_205 : xnth xMs 205 = some rX9_shifts := rfl
set_option maxRecDepth 100000 in
theorem xM_206 : xnth xMs 206 = some rX9_compTold := rfl
set_option maxRecDepth 100000 in
theorem xM_207 : xnth xMs 207 = some rX9_sumTold := rfl
set_option maxRecDepth 100000 in
theorem xM_208 : xnth xMs 208 = some rX9_termTold := rfl
set_option maxRecDepth 100000 in
theorem xM_209 : xnth xMs 209 = some rX9_partTold := rfl
set_option maxRecDepth 100000 in
theorem xM_210 : xnth xMs 210 = some rX9_spelled := rfl
set_option maxRecDepth 100000 in
theorem xM_211 : xnth xMs 211 = some rX9_isShelf := rfl
set_option maxRecDepth 100000 in
theorem xM_212 : xnth xMs 212 = some rX9_row := rfl
set_option maxRecDepth 100000 in
theorem xM_213 : xnth xMs 213 = some rX9_lowest := rfl
set_option maxRecDepth 100000 in
theorem xM_214 : xnth xMs 214 = some rX9_set := rfl
set_option maxRecDepth 100000 in
theorem xM_215 : xnth xMs 215 = some rX9_copy := rfl
set_option maxRecDepth 100000 in
theorem xM_216 : xnth xMs 216 = some rX9_element := rfl
set_option maxRecDepth 100000 in
theorem xM_217 : xnth xMs 217 = some rX9_holds := rfl
set_option maxRecDepth 100000 in
theorem xM_218 : xnth xMs 218 = some rX9_show := rfl
set_option maxRecDepth 100000 in
theorem xM_219 : xnth xMs 219 = some rX9_isUnder := rfl
set_option maxRecDepth 100000 in
theorem xM_220 : xnth xMs 220 = some rX9_owns := rfl
set_option maxRecDepth 100000 in
theorem xM_221 : xnth xMs 221 = some rX9_says := rfl
set_option maxRecDepth 100000 in
theorem xM_222 : xnth xMs 222 = some rX9_feed := rfl
set_option maxRecDepth 100000 in
theorem xM_223 : xnth xMs 223 = some rX9_wipe := rfl
set_option maxRecDepth 100000 in
theorem xM_224 : xnth xMs 224 = some rX9_isOwner := rfl
set_option maxRecDepth 100000 in
theorem xM_225 : xnth xMs 225 = some rX9_made := rfl
set_option maxRecDepth 100000 in
theorem xM_226 : xnth xMs 226 = some rX9_plainMade := rfl
set_option maxRecDepth 100000 in
theorem xM_227 : xnth xMs 227 = some rX9_source := rfl
set_option maxRecDepth 100000 in
theorem xM_228 : xnth xMs 228 = some rX9_scope := rfl
set_option maxRecDepth 100000 in
theorem xM_229 : xnth xMs 229 = some rX9_faulty := rfl
set_option maxRecDepth 100000 in
theorem xM_230 : xnth xMs 230 = some rX9_computed := rfl
set_option maxRecDepth 100000 in
theorem xM_231 : xnth xMs 231 = some rX9_memo := rfl
set_option maxRecDepth 100000 in
theorem xM_232 : xnth xMs 232 = some rX9_effect := rfl
set_option maxRecDepth 100000 in
theorem xM_233 : xnth xMs 233 = some rX9_reform := rfl
set_option maxRecDepth 100000 in
theorem xM_234 : xnth xMs 234 = some rX9_isWritten := rfl
set_option maxRecDepth 100000 in
theorem xM_235 : xnth xMs 235 = some rX9_isSource := rfl
set_option maxRecDepth 100000 in
theorem xM_236 : xnth xMs 236 = some rX9_write := rfl
set_option maxRecDepth 100000 in
theorem xM_237 : xnth xMs 237 = some rX9_begin := rfl
set_option maxRecDepth 100000 in
theorem xM_238 : xnth xMs 238 = some rX9_end := rfl
set_option maxRecDepth 100000 in
theorem xM_239 : xnth xMs 239 = some rX9_dispose := rfl
set_option maxRecDepth 100000 in
theorem xM_240 : xnth xMs 240 = some rX9_isTelling := rfl
set_option maxRecDepth 100000 in
theorem xM_241 : xnth xMs 241 = some rX9_read := rfl
set_option maxRecDepth 100000 in
theorem xM_242 : xnth xMs 242 = some rX9_kept := rfl
set_option maxRecDepth 100000 in
theorem xM_243 : xnth xMs 243 = some rX9_readsOf := rfl
set_option maxRecDepth 100000 in
theorem xM_244 : xnth xMs 244 = some rX9_reached := rfl
set_option maxRecDepth 100000 in
theorem xM_245 : xnth xMs 245 = some rX9_readersOf := rfl
set_option maxRecDepth 100000 in
theorem xM_246 : xnth xMs 246 = some rX9_cellOf := rfl
set_option maxRecDepth 100000 in
theorem xM_247 : xnth xMs 247 = some rX9_reads := rfl
set_option maxRecDepth 100000 in
theorem xM_248 : xnth xMs 248 = some rX9_plain := rfl
set_option maxRecDepth 100000 in
theorem xM_249 : xnth xMs 249 = some rX9_whatIf := rfl
set_option maxRecDepth 100000 in
theorem xM_250 : xnth xMs 250 = some rX9_aim := rfl
set_option maxRecDepth 100000 in
theorem xM_251 : xnth xMs 251 = some rX9_news := rfl
set_option maxRecDepth 100000 in
theorem xM_252 : xnth xMs 252 = some rX9_reaches := rfl
set_option maxRecDepth 100000 in
theorem xM_253 : xnth xMs 253 = some rX9_colours := rfl
set_option maxRecDepth 100000 in
theorem xM_254 : xnth xMs 254 = some rX9_signOf := rfl
set_option maxRecDepth 100000 in
theorem xM_255 : xnth xMs 255 = some rX9_signs := rfl
set_option maxRecDepth 100000 in
theorem xM_256 : xnth xMs 256 = some rX9_log := rfl
set_option maxRecDepth 100000 in
theorem xM_257 : xnth xMs 257 = some rX9_logged := rfl
set_option maxRecDepth 100000 in
theorem xM_258 : xnth xMs 258 = some rX9_disposed := rfl
set_option maxRecDepth 100000 in
theorem xM_259 : xnth xMs 259 = some rX9_queued := rfl
set_option maxRecDepth 100000 in
theorem xM_260 : xnth xMs 260 = some rX9_judge := rfl
set_option maxRecDepth 100000 in
theorem xM_261 : xnth xMs 261 = some rX9_draw := rfl
set_option maxRecDepth 100000 in
theorem xM_262 : xnth xMs 262 = some rX9_days := rfl
set_option maxRecDepth 100000 in
theorem xM_263 : xnth xMs 263 = some rX9_seed := rfl
set_option maxRecDepth 100000 in
theorem xM_264 : xnth xMs 264 = some rX9_copies := rfl
set_option maxRecDepth 100000 in
theorem xM_265 : xnth xMs 265 = some rX9_copies_ := rfl
set_option maxRecDepth 100000 in
theorem xM_266 : xnth xMs 266 = some rX9_image := rfl
set_option maxRecDepth 100000 in
theorem xM_267 : xnth xMs 267 = some rX9_back := rfl
set_option maxRecDepth 100000 in
theorem xM_268 : xnth xMs 268 = some rX9_gone := rfl
set_option maxRecDepth 100000 in
theorem xM_269 : xnth xMs 269 = some rX9_runsAll := rfl
set_option maxRecDepth 100000 in
theorem xM_270 : xnth xMs 270 = some rX9_held := rfl
set_option maxRecDepth 100000 in
theorem xM_271 : xnth xMs 271 = some rX9_status := rfl
set_option maxRecDepth 100000 in
theorem xM_272 : xnth xMs 272 = some rJ6_bitCount_0f7a4 := rfl
