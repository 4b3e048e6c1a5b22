theorem dX10_init_0 : decode cX10_init 0 = .ok (.aload_n 0, 1) := by decide +kernel
theorem kw_4_194 : Cond.methodLink RX10 1 Lib.objectInit ∈ gw := gw_t4 (List.mem_of_getElem? (i := 194) (by decide +kernel)) (by decide +kernel)
theorem dX10_init_1 : decode cX10_init 1 = .ok (.invokespecial 1, 3) := by decide +kernel
theorem dX10_init_4 : decode cX10_init 4 = .ok (.aload_n 0, 1) := by decide +kernel
theorem dX10_init_5 : decode cX10_init 5 = .ok (.sipush 400, 3) := by decide +kernel
theorem dX10_init_8 : decode cX10_init 8 = .ok (.newarray .int, 2) := by decide +kernel
theorem inG_X10 : ∀ w ∈ u_ws RX10 TX10 37, w ∈ gw := fun w h => gw_in ((by decide +kernel : ∀ w ∈ u_ws RX10 TX10 37, w ∈ lw_tbl) w h) ((by decide +kernel : ∀ w ∈ u_ws RX10 TX10 37, goodWord w = true) w h)
theorem kw_4_195 : Cond.fieldLink RX10 7 "IceFairModel" "tape" "[I" ∈ gw := gw_t4 (List.mem_of_getElem? (i := 195) (by decide +kernel)) (by decide +kernel)
theorem dX10_init_10 : decode cX10_init 10 = .ok (.putfield 7, 3) := by decide +kernel
theorem dX10_init_13 : decode cX10_init 13 = .ok (.aload_n 0, 1) := by decide +kernel
theorem dX10_init_14 : decode cX10_init 14 = .ok (.bipush 8, 2) := by decide +kernel
theorem dX10_init_16 : decode cX10_init 16 = .ok (.newarray .int, 2) := by decide +kernel
theorem dX10_init_18 : decode cX10_init 18 = .ok (.dup, 1) := by decide +kernel
theorem dX10_init_19 : decode cX10_init 19 = .ok (.iconst 0, 1) := by decide +kernel
theorem dX10_init_20 : decode cX10_init 20 = .ok (.bipush 100, 2) := by decide +kernel
theorem dX10_init_22 : decode cX10_init 22 = .ok (.iastore, 1) := by decide +kernel
theorem dX10_init_23 : decode cX10_init 23 = .ok (.dup, 1) := by decide +kernel
theorem dX10_init_24 : decode cX10_init 24 = .ok (.iconst 1, 1) := by decide +kernel
theorem dX10_init_25 : decode cX10_init 25 = .ok (.iconst 1, 1) := by decide +kernel
theorem dX10_init_26 : decode cX10_init 26 = .ok (.iastore, 1) := by decide +kernel
theorem dX10_init_27 : decode cX10_init 27 = .ok (.dup, 1) := by decide +kernel
theorem dX10_init_28 : decode cX10_init 28 = .ok (.iconst 2, 1) := by decide +kernel
theorem dX10_init_29 : decode cX10_init 29 = .ok (.iconst 0, 1) := by decide +kernel
theorem dX10_init_30 : decode cX10_init 30 = .ok (.iastore, 1) := by decide +kernel
theorem dX10_init_31 : decode cX10_init 31 = .ok (.dup, 1) := by decide +kernel
theorem dX10_init_32 : decode cX10_init 32 = .ok (.iconst 3, 1) := by decide +kernel
theorem dX10_init_33 : decode cX10_init 33 = .ok (.iconst 0, 1) := by decide +kernel
theorem dX10_init_34 : decode cX10_init 34 = .ok (.iastore, 1) := by decide +kernel
theorem dX10_init_35 : decode cX10_init 35 = .ok (.dup, 1) := by decide +kernel
theorem dX10_init_36 : decode cX10_init 36 = .ok (.iconst 4, 1) := by decide +kernel
theorem dX10_init_37 : decode cX10_init 37 = .ok (.iconst 1, 1) := by decide +kernel
theorem dX10_init_38 : decode cX10_init 38 = .ok (.iastore, 1) := by decide +kernel
theorem dX10_init_39 : decode cX10_init 39 = .ok (.dup, 1) := by decide +kernel
theorem dX10_init_40 : decode cX10_init 40 = .ok (.iconst 5, 1) := by decide +kernel
theorem dX10_init_41 : decode cX10_init 41 = .ok (.bipush 99, 2) := by decide +kernel
theorem dX10_init_43 : decode cX10_init 43 = .ok (.iastore, 1) := by decide +kernel
theorem dX10_init_44 : decode cX10_init 44 = .ok (.dup, 1) := by decide +kernel
theorem dX10_init_45 : decode cX10_init 45 = .ok (.bipush 6, 2) := by decide +kernel
theorem dX10_init_47 : decode cX10_init 47 = .ok (.iconst 1, 1) := by decide +kernel
theorem dX10_init_48 : decode cX10_init 48 = .ok (.iastore, 1) := by decide +kernel
theorem dX10_init_49 : decode cX10_init 49 = .ok (.dup, 1) := by decide +kernel
theorem dX10_init_50 : decode cX10_init 50 = .ok (.bipush 7, 2) := by decide +kernel
theorem dX10_init_52 : decode cX10_init 52 = .ok (.iconst 0, 1) := by decide +kernel
theorem dX10_init_53 : decode cX10_init 53 = .ok (.iastore, 1) := by decide +kernel
theorem kw_4_198 : Cond.fieldLink RX10 13 "IceFairModel" "rule" "[I" ∈ gw := gw_t4 (List.mem_of_getElem? (i := 198) (by decide +kernel)) (by decide +kernel)
theorem dX10_init_54 : decode cX10_init 54 = .ok (.putfield 13, 3) := by decide +kernel
theorem dX10_init_57 : decode cX10_init 57 = .ok (.aload_n 0, 1) := by decide +kernel
theorem dX10_init_58 : decode cX10_init 58 = .ok (.bipush 8, 2) := by decide +kernel
theorem dX10_init_60 : decode cX10_init 60 = .ok (.newarray .int, 2) := by decide +kernel
theorem kw_4_199 : Cond.fieldLink RX10 16 "IceFairModel" "rules" "[I" ∈ gw := gw_t4 (List.mem_of_getElem? (i := 199) (by decide +kernel)) (by decide +kernel)
theorem dX10_init_62 : decode cX10_init 62 = .ok (.putfield 16, 3) := by decide +kernel
theorem dX10_init_65 : decode cX10_init 65 = .ok (.aload_n 0, 1) := by decide +kernel
theorem dX10_init_66 : decode cX10_init 66 = .ok (.bipush 24, 2) := by decide +kernel
theorem dX10_init_68 : decode cX10_init 68 = .ok (.newarray .int, 2) := by decide +kernel
theorem kw_4_201 : Cond.fieldLink RX10 19 "IceFairModel" "stair" "[I" ∈ gw := gw_t4 (List.mem_of_getElem? (i := 201) (by decide +kernel)) (by decide +kernel)
theorem dX10_init_70 : decode cX10_init 70 = .ok (.putfield 19, 3) := by decide +kernel
theorem dX10_init_73 : decode cX10_init 73 = .ok (.aload_n 0, 1) := by decide +kernel
theorem dX10_init_74 : decode cX10_init 74 = .ok (.iconst (-1), 1) := by decide +kernel
theorem kw_4_204 : Cond.fieldLink RX10 22 "IceFairModel" "faultPlace" "I" ∈ gw := gw_t4 (List.mem_of_getElem? (i := 204) (by decide +kernel)) (by decide +kernel)
theorem dX10_init_75 : decode cX10_init 75 = .ok (.putfield 22, 3) := by decide +kernel
theorem dX10_init_78 : decode cX10_init 78 = .ok (.aload_n 0, 1) := by decide +kernel
theorem dX10_init_79 : decode cX10_init 79 = .ok (.iconst 5, 1) := by decide +kernel
theorem kw_4_205 : Cond.fieldLink RX10 26 "IceFairModel" "wide" "I" ∈ gw := gw_t4 (List.mem_of_getElem? (i := 205) (by decide +kernel)) (by decide +kernel)
theorem dX10_init_80 : decode cX10_init 80 = .ok (.putfield 26, 3) := by decide +kernel
theorem dX10_init_83 : decode cX10_init 83 = .ok (.aload_n 0, 1) := by decide +kernel
theorem dX10_init_84 : decode cX10_init 84 = .ok (.iconst 5, 1) := by decide +kernel
theorem kw_4_206 : Cond.fieldLink RX10 29 "IceFairModel" "tall" "I" ∈ gw := gw_t4 (List.mem_of_getElem? (i := 206) (by decide +kernel)) (by decide +kernel)
theorem dX10_init_85 : decode cX10_init 85 = .ok (.putfield 29, 3) := by decide +kernel
theorem dX10_init_88 : decode cX10_init 88 = .ok (.aload_n 0, 1) := by decide +kernel
theorem dX10_init_89 : decode cX10_init 89 = .ok (.bipush 100, 2) := by decide +kernel
theorem dX10_init_91 : decode cX10_init 91 = .ok (.newarray .int, 2) := by decide +kernel
theorem kw_4_207 : Cond.fieldLink RX10 32 "IceFairModel" "low" "[I" ∈ gw := gw_t4 (List.mem_of_getElem? (i := 207) (by decide +kernel)) (by decide +kernel)
theorem dX10_init_93 : decode cX10_init 93 = .ok (.putfield 32, 3) := by decide +kernel
theorem dX10_init_96 : decode cX10_init 96 = .ok (.aload_n 0, 1) := by decide +kernel
theorem dX10_init_97 : decode cX10_init 97 = .ok (.bipush 100, 2) := by decide +kernel
theorem dX10_init_99 : decode cX10_init 99 = .ok (.newarray .int, 2) := by decide +kernel
theorem kw_4_208 : Cond.fieldLink RX10 35 "IceFairModel" "high" "[I" ∈ gw := gw_t4 (List.mem_of_getElem? (i := 208) (by decide +kernel)) (by decide +kernel)
theorem dX10_init_101 : decode cX10_init 101 = .ok (.putfield 35, 3) := by decide +kernel
theorem dX10_init_104 : decode cX10_init 104 = .ok (.aload_n 0, 1) := by decide +kernel
theorem dX10_init_105 : decode cX10_init 105 = .ok (.bipush 100, 2) := by decide +kernel
theorem dX10_init_107 : decode cX10_init 107 = .ok (.newarray .boolean, 2) := by decide +kernel
theorem kw_4_209 : Cond.fieldLink RX10 38 "IceFairModel" "crack" "[Z" ∈ gw := gw_t4 (List.mem_of_getElem? (i := 209) (by decide +kernel)) (by decide +kernel)
theorem dX10_init_109 : decode cX10_init 109 = .ok (.putfield 38, 3) := by decide +kernel
theorem dX10_init_112 : decode cX10_init 112 = .ok (.aload_n 0, 1) := by decide +kernel
theorem dX10_init_113 : decode cX10_init 113 = .ok (.bipush 10, 2) := by decide +kernel
theorem dX10_init_115 : decode cX10_init 115 = .ok (.newarray .int, 2) := by decide +kernel
theorem kw_4_211 : Cond.fieldLink RX10 42 "IceFairModel" "weight" "[I" ∈ gw := gw_t4 (List.mem_of_getElem? (i := 211) (by decide +kernel)) (by decide +kernel)
theorem dX10_init_117 : decode cX10_init 117 = .ok (.putfield 42, 3) := by decide +kernel
theorem dX10_init_120 : decode cX10_init 120 = .ok (.aload_n 0, 1) := by decide +kernel
theorem dX10_init_121 : decode cX10_init 121 = .ok (.bipush 10, 2) := by decide +kernel
theorem dX10_init_123 : decode cX10_init 123 = .ok (.newarray .boolean, 2) := by decide +kernel
theorem kw_4_212 : Cond.fieldLink RX10 45 "IceFairModel" "fire" "[Z" ∈ gw := gw_t4 (List.mem_of_getElem? (i := 212) (by decide +kernel)) (by decide +kernel)
theorem dX10_init_125 : decode cX10_init 125 = .ok (.putfield 45, 3) := by decide +kernel
theorem dX10_init_128 : decode cX10_init 128 = .ok (.aload_n 0, 1) := by decide +kernel
theorem dX10_init_129 : decode cX10_init 129 = .ok (.bipush 10, 2) := by decide +kernel
theorem dX10_init_131 : decode cX10_init 131 = .ok (.newarray .int, 2) := by decide +kernel
theorem kw_4_213 : Cond.fieldLink RX10 48 "IceFairModel" "crowd" "[I" ∈ gw := gw_t4 (List.mem_of_getElem? (i := 213) (by decide +kernel)) (by decide +kernel)
theorem dX10_init_133 : decode cX10_init 133 = .ok (.putfield 48, 3) := by decide +kernel
theorem dX10_init_136 : decode cX10_init 136 = .ok (.aload_n 0, 1) := by decide +kernel
theorem dX10_init_137 : decode cX10_init 137 = .ok (.bipush 10, 2) := by decide +kernel
theorem dX10_init_139 : decode cX10_init 139 = .ok (.newarray .int, 2) := by decide +kernel
theorem kw_4_214 : Cond.fieldLink RX10 51 "IceFairModel" "state" "[I" ∈ gw := gw_t4 (List.mem_of_getElem? (i := 214) (by decide +kernel)) (by decide +kernel)
theorem dX10_init_141 : decode cX10_init 141 = .ok (.putfield 51, 3) := by decide +kernel
theorem dX10_init_144 : decode cX10_init 144 = .ok (.aload_n 0, 1) := by decide +kernel
theorem dX10_init_145 : decode cX10_init 145 = .ok (.bipush 10, 2) := by decide +kernel
theorem dX10_init_147 : decode cX10_init 147 = .ok (.newarray .int, 2) := by decide +kernel
theorem kw_4_215 : Cond.fieldLink RX10 54 "IceFairModel" "where" "[I" ∈ gw := gw_t4 (List.mem_of_getElem? (i := 215) (by decide +kernel)) (by decide +kernel)
theorem dX10_init_149 : decode cX10_init 149 = .ok (.putfield 54, 3) := by decide +kernel
theorem dX10_init_152 : decode cX10_init 152 = .ok (.aload_n 0, 1) := by decide +kernel
theorem dX10_init_153 : decode cX10_init 153 = .ok (.bipush 36, 2) := by decide +kernel
theorem dX10_init_155 : decode cX10_init 155 = .ok (.newarray .int, 2) := by decide +kernel
theorem dX10_init_157 : decode cX10_init 157 = .ok (.dup, 1) := by decide +kernel
theorem dX10_init_158 : decode cX10_init 158 = .ok (.iconst 0, 1) := by decide +kernel
theorem dX10_init_159 : decode cX10_init 159 = .ok (.bipush 98, 2) := by decide +kernel
theorem dX10_init_161 : decode cX10_init 161 = .ok (.iastore, 1) := by decide +kernel
theorem dX10_init_162 : decode cX10_init 162 = .ok (.dup, 1) := by decide +kernel
theorem dX10_init_163 : decode cX10_init 163 = .ok (.iconst 1, 1) := by decide +kernel
theorem dX10_init_164 : decode cX10_init 164 = .ok (.bipush 101, 2) := by decide +kernel
theorem dX10_init_166 : decode cX10_init 166 = .ok (.iastore, 1) := by decide +kernel
theorem dX10_init_167 : decode cX10_init 167 = .ok (.dup, 1) := by decide +kernel
theorem dX10_init_168 : decode cX10_init 168 = .ok (.iconst 2, 1) := by decide +kernel
theorem dX10_init_169 : decode cX10_init 169 = .ok (.bipush 97, 2) := by decide +kernel
theorem dX10_init_171 : decode cX10_init 171 = .ok (.iastore, 1) := by decide +kernel
theorem dX10_init_172 : decode cX10_init 172 = .ok (.dup, 1) := by decide +kernel
theorem dX10_init_173 : decode cX10_init 173 = .ok (.iconst 3, 1) := by decide +kernel
theorem dX10_init_174 : decode cX10_init 174 = .ok (.bipush 114, 2) := by decide +kernel
theorem dX10_init_176 : decode cX10_init 176 = .ok (.iastore, 1) := by decide +kernel
theorem dX10_init_177 : decode cX10_init 177 = .ok (.dup, 1) := by decide +kernel
theorem dX10_init_178 : decode cX10_init 178 = .ok (.iconst 4, 1) := by decide +kernel
theorem dX10_init_179 : decode cX10_init 179 = .ok (.bipush 32, 2) := by decide +kernel
theorem dX10_init_181 : decode cX10_init 181 = .ok (.iastore, 1) := by decide +kernel
theorem dX10_init_182 : decode cX10_init 182 = .ok (.dup, 1) := by decide +kernel
theorem dX10_init_183 : decode cX10_init 183 = .ok (.iconst 5, 1) := by decide +kernel
theorem dX10_init_184 : decode cX10_init 184 = .ok (.bipush 109, 2) := by decide +kernel
theorem dX10_init_186 : decode cX10_init 186 = .ok (.iastore, 1) := by decide +kernel
theorem dX10_init_187 : decode cX10_init 187 = .ok (.dup, 1) := by decide +kernel
theorem dX10_init_188 : decode cX10_init 188 = .ok (.bipush 6, 2) := by decide +kernel
theorem dX10_init_190 : decode cX10_init 190 = .ok (.bipush 101, 2) := by decide +kernel
theorem dX10_init_192 : decode cX10_init 192 = .ok (.iastore, 1) := by decide +kernel
theorem dX10_init_193 : decode cX10_init 193 = .ok (.dup, 1) := by decide +kernel
theorem dX10_init_194 : decode cX10_init 194 = .ok (.bipush 7, 2) := by decide +kernel
theorem dX10_init_196 : decode cX10_init 196 = .ok (.bipush 108, 2) := by decide +kernel
theorem dX10_init_198 : decode cX10_init 198 = .ok (.iastore, 1) := by decide +kernel
theorem dX10_init_199 : decode cX10_init 199 = .ok (.dup, 1) := by decide +kernel
theorem dX10_init_200 : decode cX10_init 200 = .ok (.bipush 8, 2) := by decide +kernel
theorem dX10_init_202 : decode cX10_init 202 = .ok (.bipush 116, 2) := by decide +kernel
theorem dX10_init_204 : decode cX10_init 204 = .ok (.iastore, 1) := by decide +kernel
theorem dX10_init_205 : decode cX10_init 205 = .ok (.dup, 1) := by decide +kernel
theorem dX10_init_206 : decode cX10_init 206 = .ok (.bipush 9, 2) := by decide +kernel
theorem dX10_init_208 : decode cX10_init 208 = .ok (.bipush 32, 2) := by decide +kernel
theorem dX10_init_210 : decode cX10_init 210 = .ok (.iastore, 1) := by decide +kernel
theorem dX10_init_211 : decode cX10_init 211 = .ok (.dup, 1) := by decide +kernel
theorem dX10_init_212 : decode cX10_init 212 = .ok (.bipush 10, 2) := by decide +kernel
theorem dX10_init_214 : decode cX10_init 214 = .ok (.bipush 97, 2) := by decide +kernel
theorem dX10_init_216 : decode cX10_init 216 = .ok (.iastore, 1) := by decide +kernel
theorem dX10_init_217 : decode cX10_init 217 = .ok (.dup, 1) := by decide +kernel
theorem dX10_init_218 : decode cX10_init 218 = .ok (.bipush 11, 2) := by decide +kernel
theorem dX10_init_220 : decode cX10_init 220 = .ok (.bipush 112, 2) := by decide +kernel
theorem dX10_init_222 : decode cX10_init 222 = .ok (.iastore, 1) := by decide +kernel
theorem dX10_init_223 : decode cX10_init 223 = .ok (.dup, 1) := by decide +kernel
theorem dX10_init_224 : decode cX10_init 224 = .ok (.bipush 12, 2) := by decide +kernel
theorem dX10_init_226 : decode cX10_init 226 = .ok (.bipush 97, 2) := by decide +kernel
theorem dX10_init_228 : decode cX10_init 228 = .ok (.iastore, 1) := by decide +kernel
theorem dX10_init_229 : decode cX10_init 229 = .ok (.dup, 1) := by decide +kernel
theorem dX10_init_230 : decode cX10_init 230 = .ok (.bipush 13, 2) := by decide +kernel
theorem dX10_init_232 : decode cX10_init 232 = .ok (.bipush 114, 2) := by decide +kernel
theorem dX10_init_234 : decode cX10_init 234 = .ok (.iastore, 1) := by decide +kernel
theorem dX10_init_235 : decode cX10_init 235 = .ok (.dup, 1) := by decide +kernel
theorem dX10_init_236 : decode cX10_init 236 = .ok (.bipush 14, 2) := by decide +kernel
theorem dX10_init_238 : decode cX10_init 238 = .ok (.bipush 116, 2) := by decide +kernel
theorem dX10_init_240 : decode cX10_init 240 = .ok (.iastore, 1) := by decide +kernel
theorem dX10_init_241 : decode cX10_init 241 = .ok (.dup, 1) := by decide +kernel
theorem dX10_init_242 : decode cX10_init 242 = .ok (.bipush 15, 2) := by decide +kernel
theorem dX10_init_244 : decode cX10_init 244 = .ok (.bipush 32, 2) := by decide +kernel
theorem dX10_init_246 : decode cX10_init 246 = .ok (.iastore, 1) := by decide +kernel
theorem dX10_init_247 : decode cX10_init 247 = .ok (.dup, 1) := by decide +kernel
theorem dX10_init_248 : decode cX10_init 248 = .ok (.bipush 16, 2) := by decide +kernel
theorem dX10_init_250 : decode cX10_init 250 = .ok (.bipush 110, 2) := by decide +kernel
theorem dX10_init_252 : decode cX10_init 252 = .ok (.iastore, 1) := by decide +kernel
theorem dX10_init_253 : decode cX10_init 253 = .ok (.dup, 1) := by decide +kernel
theorem dX10_init_254 : decode cX10_init 254 = .ok (.bipush 17, 2) := by decide +kernel
theorem dX10_init_256 : decode cX10_init 256 = .ok (.bipush 101, 2) := by decide +kernel
theorem dX10_init_258 : decode cX10_init 258 = .ok (.iastore, 1) := by decide +kernel
theorem dX10_init_259 : decode cX10_init 259 = .ok (.dup, 1) := by decide +kernel
theorem dX10_init_260 : decode cX10_init 260 = .ok (.bipush 18, 2) := by decide +kernel
theorem dX10_init_262 : decode cX10_init 262 = .ok (.bipush 97, 2) := by decide +kernel
theorem dX10_init_264 : decode cX10_init 264 = .ok (.iastore, 1) := by decide +kernel
theorem dX10_init_265 : decode cX10_init 265 = .ok (.dup, 1) := by decide +kernel
theorem dX10_init_266 : decode cX10_init 266 = .ok (.bipush 19, 2) := by decide +kernel
theorem dX10_init_268 : decode cX10_init 268 = .ok (.bipush 114, 2) := by decide +kernel
theorem dX10_init_270 : decode cX10_init 270 = .ok (.iastore, 1) := by decide +kernel
theorem dX10_init_271 : decode cX10_init 271 = .ok (.dup, 1) := by decide +kernel
theorem dX10_init_272 : decode cX10_init 272 = .ok (.bipush 20, 2) := by decide +kernel
theorem dX10_init_274 : decode cX10_init 274 = .ok (.bipush 32, 2) := by decide +kernel
theorem dX10_init_276 : decode cX10_init 276 = .ok (.iastore, 1) := by decide +kernel
theorem dX10_init_277 : decode cX10_init 277 = .ok (.dup, 1) := by decide +kernel
theorem dX10_init_278 : decode cX10_init 278 = .ok (.bipush 21, 2) := by decide +kernel
theorem dX10_init_280 : decode cX10_init 280 = .ok (.bipush 104, 2) := by decide +kernel
theorem dX10_init_282 : decode cX10_init 282 = .ok (.iastore, 1) := by decide +kernel
theorem dX10_init_283 : decode cX10_init 283 = .ok (.dup, 1) := by decide +kernel
theorem dX10_init_284 : decode cX10_init 284 = .ok (.bipush 22, 2) := by decide +kernel
theorem dX10_init_286 : decode cX10_init 286 = .ok (.bipush 101, 2) := by decide +kernel
theorem dX10_init_288 : decode cX10_init 288 = .ok (.iastore, 1) := by decide +kernel
theorem dX10_init_289 : decode cX10_init 289 = .ok (.dup, 1) := by decide +kernel
theorem dX10_init_290 : decode cX10_init 290 = .ok (.bipush 23, 2) := by decide +kernel
theorem dX10_init_292 : decode cX10_init 292 = .ok (.bipush 97, 2) := by decide +kernel
theorem dX10_init_294 : decode cX10_init 294 = .ok (.iastore, 1) := by decide +kernel
theorem dX10_init_295 : decode cX10_init 295 = .ok (.dup, 1) := by decide +kernel
theorem dX10_init_296 : decode cX10_init 296 = .ok (.bipush 24, 2) := by decide +kernel
theorem dX10_init_298 : decode cX10_init 298 = .ok (.bipush 108, 2) := by decide +kernel
theorem dX10_init_300 : decode cX10_init 300 = .ok (.iastore, 1) := by decide +kernel
theorem dX10_init_301 : decode cX10_init 301 = .ok (.dup, 1) := by decide +kernel
theorem dX10_init_302 : decode cX10_init 302 = .ok (.bipush 25, 2) := by decide +kernel
theorem dX10_init_304 : decode cX10_init 304 = .ok (.bipush 32, 2) := by decide +kernel
theorem dX10_init_306 : decode cX10_init 306 = .ok (.iastore, 1) := by decide +kernel
theorem dX10_init_307 : decode cX10_init 307 = .ok (.dup, 1) := by decide +kernel
theorem dX10_init_308 : decode cX10_init 308 = .ok (.bipush 26, 2) := by decide +kernel
theorem dX10_init_310 : decode cX10_init 310 = .ok (.bipush 102, 2) := by decide +kernel
theorem dX10_init_312 : decode cX10_init 312 = .ok (.iastore, 1) := by decide +kernel
theorem dX10_init_313 : decode cX10_init 313 = .ok (.dup, 1) := by decide +kernel
theorem dX10_init_314 : decode cX10_init 314 = .ok (.bipush 27, 2) := by decide +kernel
theorem dX10_init_316 : decode cX10_init 316 = .ok (.bipush 101, 2) := by decide +kernel
theorem dX10_init_318 : decode cX10_init 318 = .ok (.iastore, 1) := by decide +kernel
theorem dX10_init_319 : decode cX10_init 319 = .ok (.dup, 1) := by decide +kernel
theorem dX10_init_320 : decode cX10_init 320 = .ok (.bipush 28, 2) := by decide +kernel
theorem dX10_init_322 : decode cX10_init 322 = .ok (.bipush 101, 2) := by decide +kernel
theorem dX10_init_324 : decode cX10_init 324 = .ok (.iastore, 1) := by decide +kernel
theorem dX10_init_325 : decode cX10_init 325 = .ok (.dup, 1) := by decide +kernel
theorem dX10_init_326 : decode cX10_init 326 = .ok (.bipush 29, 2) := by decide +kernel
theorem dX10_init_328 : decode cX10_init 328 = .ok (.bipush 32, 2) := by decide +kernel
theorem dX10_init_330 : decode cX10_init 330 = .ok (.iastore, 1) := by decide +kernel
theorem dX10_init_331 : decode cX10_init 331 = .ok (.dup, 1) := by decide +kernel
theorem dX10_init_332 : decode cX10_init 332 = .ok (.bipush 30, 2) := by decide +kernel
theorem dX10_init_334 : decode cX10_init 334 = .ok (.bipush 115, 2) := by decide +kernel
theorem dX10_init_336 : decode cX10_init 336 = .ok (.iastore, 1) := by decide +kernel
theorem dX10_init_337 : decode cX10_init 337 = .ok (.dup, 1) := by decide +kernel
theorem dX10_init_338 : decode cX10_init 338 = .ok (.bipush 31, 2) := by decide +kernel
theorem dX10_init_340 : decode cX10_init 340 = .ok (.bipush 116, 2) := by decide +kernel
theorem dX10_init_342 : decode cX10_init 342 = .ok (.iastore, 1) := by decide +kernel
theorem dX10_init_343 : decode cX10_init 343 = .ok (.dup, 1) := by decide +kernel
theorem dX10_init_344 : decode cX10_init 344 = .ok (.bipush 32, 2) := by decide +kernel
theorem dX10_init_346 : decode cX10_init 346 = .ok (.bipush 97, 2) := by decide +kernel
theorem dX10_init_348 : decode cX10_init 348 = .ok (.iastore, 1) := by decide +kernel
theorem dX10_init_349 : decode cX10_init 349 = .ok (.dup, 1) := by decide +kernel
theorem dX10_init_350 : decode cX10_init 350 = .ok (.bipush 33, 2) := by decide +kernel
theorem dX10_init_352 : decode cX10_init 352 = .ok (.bipush 105, 2) := by decide +kernel
theorem dX10_init_354 : decode cX10_init 354 = .ok (.iastore, 1) := by decide +kernel
theorem dX10_init_355 : decode cX10_init 355 = .ok (.dup, 1) := by decide +kernel
theorem dX10_init_356 : decode cX10_init 356 = .ok (.bipush 34, 2) := by decide +kernel
theorem dX10_init_358 : decode cX10_init 358 = .ok (.bipush 114, 2) := by decide +kernel
theorem dX10_init_360 : decode cX10_init 360 = .ok (.iastore, 1) := by decide +kernel
theorem dX10_init_361 : decode cX10_init 361 = .ok (.dup, 1) := by decide +kernel
theorem dX10_init_362 : decode cX10_init 362 = .ok (.bipush 35, 2) := by decide +kernel
theorem dX10_init_364 : decode cX10_init 364 = .ok (.bipush 32, 2) := by decide +kernel
theorem dX10_init_366 : decode cX10_init 366 = .ok (.iastore, 1) := by decide +kernel
theorem kw_4_219 : Cond.fieldLink RX10 57 "IceFairModel" "words" "[I" ∈ gw := gw_t4 (List.mem_of_getElem? (i := 219) (by decide +kernel)) (by decide +kernel)
theorem dX10_init_367 : decode cX10_init 367 = .ok (.putfield 57, 3) := by decide +kernel
theorem dX10_init_370 : decode cX10_init 370 = .ok (.aload_n 0, 1) := by decide +kernel
theorem dX10_init_371 : decode cX10_init 371 = .ok (.bipush 7, 2) := by decide +kernel
theorem dX10_init_373 : decode cX10_init 373 = .ok (.newarray .boolean, 2) := by decide +kernel
theorem kw_4_226 : Cond.fieldLink RX10 60 "IceFairModel" "told" "[Z" ∈ gw := gw_t4 (List.mem_of_getElem? (i := 226) (by decide +kernel)) (by decide +kernel)
theorem dX10_init_375 : decode cX10_init 375 = .ok (.putfield 60, 3) := by decide +kernel
theorem dX10_init_378 : decode cX10_init 378 = .ok (.aload_n 0, 1) := by decide +kernel
theorem dX10_init_379 : decode cX10_init 379 = .ok (.bipush 100, 2) := by decide +kernel
theorem dX10_init_381 : decode cX10_init 381 = .ok (.newarray .boolean, 2) := by decide +kernel
theorem kw_4_227 : Cond.fieldLink RX10 63 "IceFairModel" "breaks" "[Z" ∈ gw := gw_t4 (List.mem_of_getElem? (i := 227) (by decide +kernel)) (by decide +kernel)
theorem dX10_init_383 : decode cX10_init 383 = .ok (.putfield 63, 3) := by decide +kernel
theorem dX10_init_386 : decode cX10_init 386 = .ok (.aload_n 0, 1) := by decide +kernel
theorem dX10_init_387 : decode cX10_init 387 = .ok (.bipush 10, 2) := by decide +kernel
theorem dX10_init_389 : decode cX10_init 389 = .ok (.newarray .int, 2) := by decide +kernel
theorem kw_4_228 : Cond.fieldLink RX10 66 "IceFairModel" "row" "[I" ∈ gw := gw_t4 (List.mem_of_getElem? (i := 228) (by decide +kernel)) (by decide +kernel)
theorem dX10_init_391 : decode cX10_init 391 = .ok (.putfield 66, 3) := by decide +kernel
theorem dX10_init_394 : decode cX10_init 394 = .ok (.aload_n 0, 1) := by decide +kernel
theorem dX10_init_395 : decode cX10_init 395 = .ok (.bipush 10, 2) := by decide +kernel
theorem dX10_init_397 : decode cX10_init 397 = .ok (.newarray .int, 2) := by decide +kernel
theorem kw_4_229 : Cond.fieldLink RX10 69 "IceFairModel" "tried" "[I" ∈ gw := gw_t4 (List.mem_of_getElem? (i := 229) (by decide +kernel)) (by decide +kernel)
theorem dX10_init_399 : decode cX10_init 399 = .ok (.putfield 69, 3) := by decide +kernel
theorem dX10_init_402 : decode cX10_init 402 = .ok (.aload_n 0, 1) := by decide +kernel
theorem dX10_init_403 : decode cX10_init 403 = .ok (.sipush 400, 3) := by decide +kernel
theorem dX10_init_406 : decode cX10_init 406 = .ok (.newarray .int, 2) := by decide +kernel
theorem kw_4_230 : Cond.fieldLink RX10 72 "IceFairModel" "steps" "[I" ∈ gw := gw_t4 (List.mem_of_getElem? (i := 230) (by decide +kernel)) (by decide +kernel)
theorem dX10_init_408 : decode cX10_init 408 = .ok (.putfield 72, 3) := by decide +kernel
theorem dX10_init_411 : decode cX10_init 411 = .ok (.aload_n 0, 1) := by decide +kernel
theorem dX10_init_412 : decode cX10_init 412 = .ok (.bipush 40, 2) := by decide +kernel
theorem dX10_init_414 : decode cX10_init 414 = .ok (.newarray .int, 2) := by decide +kernel
theorem kw_4_231 : Cond.fieldLink RX10 75 "IceFairModel" "paths" "[I" ∈ gw := gw_t4 (List.mem_of_getElem? (i := 231) (by decide +kernel)) (by decide +kernel)
theorem dX10_init_416 : decode cX10_init 416 = .ok (.putfield 75, 3) := by decide +kernel
theorem dX10_init_419 : decode cX10_init 419 = .ok (.return_, 1) := by decide +kernel
theorem dX10_isCell_0 : decode cX10_isCell 0 = .ok (.iload_n 1, 1) := by decide +kernel
theorem dX10_isCell_1 : decode cX10_isCell 1 = .ok (.ifCond .lt 27, 3) := by decide +kernel
theorem dX10_isCell_28 : decode cX10_isCell 28 = .ok (.iconst 0, 1) := by decide +kernel
theorem dX10_isCell_29 : decode cX10_isCell 29 = .ok (.ireturn, 1) := by decide +kernel
theorem dX10_isCell_4 : decode cX10_isCell 4 = .ok (.iload_n 1, 1) := by decide +kernel
theorem dX10_isCell_5 : decode cX10_isCell 5 = .ok (.aload_n 0, 1) := by decide +kernel
theorem dX10_isCell_6 : decode cX10_isCell 6 = .ok (.getfield 26, 3) := by decide +kernel
theorem dX10_isCell_9 : decode cX10_isCell 9 = .ok (.if_icmp .ge 19, 3) := by decide +kernel
theorem dX10_isCell_12 : decode cX10_isCell 12 = .ok (.iload_n 2, 1) := by decide +kernel
theorem dX10_isCell_13 : decode cX10_isCell 13 = .ok (.ifCond .lt 15, 3) := by decide +kernel
theorem dX10_isCell_16 : decode cX10_isCell 16 = .ok (.iload_n 2, 1) := by decide +kernel
theorem dX10_isCell_17 : decode cX10_isCell 17 = .ok (.aload_n 0, 1) := by decide +kernel
theorem dX10_isCell_18 : decode cX10_isCell 18 = .ok (.getfield 29, 3) := by decide +kernel
theorem dX10_isCell_21 : decode cX10_isCell 21 = .ok (.if_icmp .ge 7, 3) := by decide +kernel
theorem dX10_isCell_24 : decode cX10_isCell 24 = .ok (.iconst 1, 1) := by decide +kernel
theorem dX10_isCell_25 : decode cX10_isCell 25 = .ok (.goto 4, 3) := by decide +kernel
theorem dX10_size_0 : decode cX10_size 0 = .ok (.iload_n 0, 1) := by decide +kernel
theorem dX10_size_1 : decode cX10_size 1 = .ok (.ifCond .ge 8, 3) := by decide +kernel
theorem dX10_size_9 : decode cX10_size 9 = .ok (.iload_n 0, 1) := by decide +kernel
theorem dX10_size_10 : decode cX10_size 10 = .ok (.ireturn, 1) := by decide +kernel
theorem dX10_size_4 : decode cX10_size 4 = .ok (.iload_n 0, 1) := by decide +kernel
theorem dX10_size_5 : decode cX10_size 5 = .ok (.ineg, 1) := by decide +kernel
theorem dX10_size_6 : decode cX10_size 6 = .ok (.goto 4, 3) := by decide +kernel
theorem dX10_far_0 : decode cX10_far 0 = .ok (.iload_n 0, 1) := by decide +kernel
theorem dX10_far_1 : decode cX10_far 1 = .ok (.bipush 10, 2) := by decide +kernel
theorem dX10_far_3 : decode cX10_far 3 = .ok (.irem, 1) := by decide +kernel
theorem dX10_far_4 : decode cX10_far 4 = .ok (.iload_n 1, 1) := by decide +kernel
theorem dX10_far_5 : decode cX10_far 5 = .ok (.bipush 10, 2) := by decide +kernel
theorem dX10_far_7 : decode cX10_far 7 = .ok (.irem, 1) := by decide +kernel
theorem dX10_far_8 : decode cX10_far 8 = .ok (.isub, 1) := by decide +kernel
theorem kw_5_158 : Cond.methodLink RX10 158 yX10_size ∈ gw := gw_t5 (List.mem_of_getElem? (i := 158) (by decide +kernel)) (by decide +kernel)
theorem kw_5_159 : Cond.static yX10_size ∈ gw := gw_t5 (List.mem_of_getElem? (i := 159) (by decide +kernel)) (by decide +kernel)
theorem kw_1_11 : Cond.initialized RX10 ∈ gw := gw_t1 (List.mem_of_getElem? (i := 11) (by decide +kernel)) (by decide +kernel)
theorem kw_5_160 : Cond.code yX10_size cX10_size 1 (some .int) ∈ gw := gw_t5 (List.mem_of_getElem? (i := 160) (by decide +kernel)) (by decide +kernel)
theorem gk_X10_158 : GoodIn gw (wsS RX10 158 yX10_size (.code yX10_size cX10_size 1 (some .int) :: gw)) ∧ (yX10_size.cls = RX10 ∧ yX10_size.cls ≠ "java/lang/invoke/MethodHandle" ∧ yX10_size.cls ≠ "java/lang/invoke/VarHandle" ∧ (parseMethodDescriptor yX10_size.desc).map (fun d => d.parameters.length) = some 1) := ⟨gi_S kw_5_158 kw_5_159 kw_1_11 kw_5_160, by decide +kernel⟩
theorem dX10_far_9 : decode cX10_far 9 = .ok (.invokestatic 158, 3) := by decide +kernel
theorem dX10_far_12 : decode cX10_far 12 = .ok (.istore_n 2, 1) := by decide +kernel
theorem dX10_far_13 : decode cX10_far 13 = .ok (.iload_n 0, 1) := by decide +kernel
theorem dX10_far_14 : decode cX10_far 14 = .ok (.bipush 10, 2) := by decide +kernel
theorem dX10_far_16 : decode cX10_far 16 = .ok (.idiv, 1) := by decide +kernel
theorem dX10_far_17 : decode cX10_far 17 = .ok (.iload_n 1, 1) := by decide +kernel
theorem dX10_far_18 : decode cX10_far 18 = .ok (.bipush 10, 2) := by decide +kernel
theorem dX10_far_20 : decode cX10_far 20 = .ok (.idiv, 1) := by decide +kernel
theorem dX10_far_21 : decode cX10_far 21 = .ok (.isub, 1) := by decide +kernel
theorem dX10_far_22 : decode cX10_far 22 = .ok (.invokestatic 158, 3) := by decide +kernel
theorem dX10_far_25 : decode cX10_far 25 = .ok (.istore_n 3, 1) := by decide +kernel
theorem dX10_far_26 : decode cX10_far 26 = .ok (.iload_n 2, 1) := by decide +kernel
theorem dX10_far_27 : decode cX10_far 27 = .ok (.iload_n 3, 1) := by decide +kernel
theorem dX10_far_28 : decode cX10_far 28 = .ok (.if_icmp .le 7, 3) := by decide +kernel
theorem dX10_far_35 : decode cX10_far 35 = .ok (.iload_n 3, 1) := by decide +kernel
theorem dX10_far_36 : decode cX10_far 36 = .ok (.ireturn, 1) := by decide +kernel
theorem dX10_far_31 : decode cX10_far 31 = .ok (.iload_n 2, 1) := by decide +kernel
theorem dX10_far_32 : decode cX10_far 32 = .ok (.goto 4, 3) := by decide +kernel
theorem dX10_within_0 : decode cX10_within 0 = .ok (.iload_n 0, 1) := by decide +kernel
theorem dX10_within_1 : decode cX10_within 1 = .ok (.ifCond .ge 7, 3) := by decide +kernel
theorem dX10_within_8 : decode cX10_within 8 = .ok (.iload_n 0, 1) := by decide +kernel
theorem dX10_within_9 : decode cX10_within 9 = .ok (.bipush 99, 2) := by decide +kernel
theorem dX10_within_11 : decode cX10_within 11 = .ok (.if_icmp .le 8, 3) := by decide +kernel
theorem dX10_within_19 : decode cX10_within 19 = .ok (.iload_n 0, 1) := by decide +kernel
theorem dX10_within_20 : decode cX10_within 20 = .ok (.ireturn, 1) := by decide +kernel
theorem dX10_within_14 : decode cX10_within 14 = .ok (.bipush 99, 2) := by decide +kernel
theorem dX10_within_16 : decode cX10_within 16 = .ok (.goto 4, 3) := by decide +kernel
theorem dX10_within_4 : decode cX10_within 4 = .ok (.iconst 0, 1) := by decide +kernel
theorem dX10_within_5 : decode cX10_within 5 = .ok (.goto 15, 3) := by decide +kernel
theorem dX10_fails_0 : decode cX10_fails 0 = .ok (.aload_n 0, 1) := by decide +kernel
theorem dX10_fails_1 : decode cX10_fails 1 = .ok (.iload_n 1, 1) := by decide +kernel
theorem kw_4_197 : Cond.fieldLink RX10 78 "IceFairModel" "thrown" "I" ∈ gw := gw_t4 (List.mem_of_getElem? (i := 197) (by decide +kernel)) (by decide +kernel)
theorem dX10_fails_2 : decode cX10_fails 2 = .ok (.putfield 78, 3) := by decide +kernel
theorem dX10_fails_5 : decode cX10_fails 5 = .ok (.iconst 0, 1) := by decide +kernel
theorem dX10_fails_6 : decode cX10_fails 6 = .ok (.ireturn, 1) := by decide +kernel
theorem dX10_strain_4 : decode cX10_strain 4 = .ok (.iload_n 3, 1) := by decide +kernel
theorem dX10_strain_5 : decode cX10_strain 5 = .ok (.aload_n 0, 1) := by decide +kernel
theorem kw_4_210 : Cond.fieldLink RX10 146 "IceFairModel" "booths" "I" ∈ gw := gw_t4 (List.mem_of_getElem? (i := 210) (by decide +kernel)) (by decide +kernel)
theorem dX10_strain_6 : decode cX10_strain 6 = .ok (.getfield 146, 3) := by decide +kernel
theorem dX10_strain_9 : decode cX10_strain 9 = .ok (.if_icmp .ge 111, 3) := by decide +kernel
theorem dX10_strain_12 : decode cX10_strain 12 = .ok (.aload_n 0, 1) := by decide +kernel
theorem dX10_strain_13 : decode cX10_strain 13 = .ok (.getfield 51, 3) := by decide +kernel
theorem dX10_strain_16 : decode cX10_strain 16 = .ok (.iload_n 3, 1) := by decide +kernel
theorem dX10_strain_17 : decode cX10_strain 17 = .ok (.iaload, 1) := by decide +kernel
theorem dX10_strain_18 : decode cX10_strain 18 = .ok (.iconst 1, 1) := by decide +kernel
theorem dX10_strain_19 : decode cX10_strain 19 = .ok (.if_icmp .eq 6, 3) := by decide +kernel
theorem dX10_strain_25 : decode cX10_strain 25 = .ok (.aload_n 0, 1) := by decide +kernel
theorem dX10_strain_26 : decode cX10_strain 26 = .ok (.getfield 54, 3) := by decide +kernel
theorem dX10_strain_29 : decode cX10_strain 29 = .ok (.iload_n 3, 1) := by decide +kernel
theorem dX10_strain_30 : decode cX10_strain 30 = .ok (.iaload, 1) := by decide +kernel
theorem dX10_strain_31 : decode cX10_strain 31 = .ok (.bipush 10, 2) := by decide +kernel
theorem dX10_strain_33 : decode cX10_strain 33 = .ok (.irem, 1) := by decide +kernel
theorem dX10_strain_34 : decode cX10_strain 34 = .ok (.iload_n 1, 1) := by decide +kernel
theorem dX10_strain_35 : decode cX10_strain 35 = .ok (.bipush 10, 2) := by decide +kernel
theorem dX10_strain_37 : decode cX10_strain 37 = .ok (.irem, 1) := by decide +kernel
theorem dX10_strain_38 : decode cX10_strain 38 = .ok (.isub, 1) := by decide +kernel
theorem dX10_strain_39 : decode cX10_strain 39 = .ok (.invokestatic 158, 3) := by decide +kernel
theorem dX10_strain_42 : decode cX10_strain 42 = .ok (.istore 4, 2) := by decide +kernel
theorem dX10_strain_44 : decode cX10_strain 44 = .ok (.aload_n 0, 1) := by decide +kernel
theorem dX10_strain_45 : decode cX10_strain 45 = .ok (.getfield 54, 3) := by decide +kernel
theorem dX10_strain_48 : decode cX10_strain 48 = .ok (.iload_n 3, 1) := by decide +kernel
theorem dX10_strain_49 : decode cX10_strain 49 = .ok (.iaload, 1) := by decide +kernel
theorem dX10_strain_50 : decode cX10_strain 50 = .ok (.bipush 10, 2) := by decide +kernel
theorem dX10_strain_52 : decode cX10_strain 52 = .ok (.idiv, 1) := by decide +kernel
theorem dX10_strain_53 : decode cX10_strain 53 = .ok (.iload_n 1, 1) := by decide +kernel
theorem dX10_strain_54 : decode cX10_strain 54 = .ok (.bipush 10, 2) := by decide +kernel
theorem dX10_strain_56 : decode cX10_strain 56 = .ok (.idiv, 1) := by decide +kernel
theorem dX10_strain_57 : decode cX10_strain 57 = .ok (.isub, 1) := by decide +kernel
theorem dX10_strain_58 : decode cX10_strain 58 = .ok (.invokestatic 158, 3) := by decide +kernel
theorem dX10_strain_61 : decode cX10_strain 61 = .ok (.istore 5, 2) := by decide +kernel
theorem dX10_strain_63 : decode cX10_strain 63 = .ok (.iload 4, 2) := by decide +kernel
theorem dX10_strain_65 : decode cX10_strain 65 = .ok (.iconst 1, 1) := by decide +kernel
theorem dX10_strain_66 : decode cX10_strain 66 = .ok (.if_icmp .gt 48, 3) := by decide +kernel
theorem dX10_strain_114 : decode cX10_strain 114 = .ok (.iinc 3 1, 3) := by decide +kernel
theorem dX10_strain_117 : decode cX10_strain 117 = .ok (.goto (-113), 3) := by decide +kernel
theorem dX10_strain_69 : decode cX10_strain 69 = .ok (.iload 5, 2) := by decide +kernel
theorem dX10_strain_71 : decode cX10_strain 71 = .ok (.iconst 1, 1) := by decide +kernel
theorem dX10_strain_72 : decode cX10_strain 72 = .ok (.if_icmp .le 6, 3) := by decide +kernel
theorem dX10_strain_78 : decode cX10_strain 78 = .ok (.iload_n 2, 1) := by decide +kernel
theorem dX10_strain_79 : decode cX10_strain 79 = .ok (.aload_n 0, 1) := by decide +kernel
theorem dX10_strain_80 : decode cX10_strain 80 = .ok (.getfield 42, 3) := by decide +kernel
theorem dX10_strain_83 : decode cX10_strain 83 = .ok (.iload_n 3, 1) := by decide +kernel
theorem dX10_strain_84 : decode cX10_strain 84 = .ok (.iaload, 1) := by decide +kernel
theorem dX10_strain_85 : decode cX10_strain 85 = .ok (.iload 4, 2) := by decide +kernel
theorem dX10_strain_87 : decode cX10_strain 87 = .ok (.iload 5, 2) := by decide +kernel
theorem dX10_strain_89 : decode cX10_strain 89 = .ok (.iadd, 1) := by decide +kernel
theorem dX10_strain_90 : decode cX10_strain 90 = .ok (.ifCond .ne 7, 3) := by decide +kernel
theorem dX10_strain_97 : decode cX10_strain 97 = .ok (.iload 4, 2) := by decide +kernel
theorem dX10_strain_99 : decode cX10_strain 99 = .ok (.iload 5, 2) := by decide +kernel
theorem dX10_strain_101 : decode cX10_strain 101 = .ok (.iadd, 1) := by decide +kernel
theorem dX10_strain_102 : decode cX10_strain 102 = .ok (.iconst 1, 1) := by decide +kernel
theorem dX10_strain_103 : decode cX10_strain 103 = .ok (.if_icmp .ne 7, 3) := by decide +kernel
theorem dX10_strain_110 : decode cX10_strain 110 = .ok (.iconst 1, 1) := by decide +kernel
theorem dX10_strain_111 : decode cX10_strain 111 = .ok (.imul, 1) := by decide +kernel
theorem dX10_strain_112 : decode cX10_strain 112 = .ok (.iadd, 1) := by decide +kernel
theorem dX10_strain_113 : decode cX10_strain 113 = .ok (.istore_n 2, 1) := by decide +kernel
theorem dX10_strain_106 : decode cX10_strain 106 = .ok (.iconst 2, 1) := by decide +kernel
theorem dX10_strain_107 : decode cX10_strain 107 = .ok (.goto 4, 3) := by decide +kernel
theorem dX10_strain_93 : decode cX10_strain 93 = .ok (.iconst 4, 1) := by decide +kernel
theorem dX10_strain_94 : decode cX10_strain 94 = .ok (.goto 17, 3) := by decide +kernel
theorem dX10_strain_75 : decode cX10_strain 75 = .ok (.goto 39, 3) := by decide +kernel
theorem dX10_strain_22 : decode cX10_strain 22 = .ok (.goto 92, 3) := by decide +kernel
theorem dX10_strain_0 : decode cX10_strain 0 = .ok (.iconst 0, 1) := by decide +kernel
theorem dX10_strain_1 : decode cX10_strain 1 = .ok (.istore_n 2, 1) := by decide +kernel
theorem dX10_strain_2 : decode cX10_strain 2 = .ok (.iconst 0, 1) := by decide +kernel
theorem dX10_strain_3 : decode cX10_strain 3 = .ok (.istore_n 3, 1) := by decide +kernel
theorem dX10_strain_120 : decode cX10_strain 120 = .ok (.iload_n 2, 1) := by decide +kernel
theorem dX10_strain_121 : decode cX10_strain 121 = .ok (.ireturn, 1) := by decide +kernel
theorem dX10_fires_4 : decode cX10_fires 4 = .ok (.iload_n 3, 1) := by decide +kernel
theorem dX10_fires_5 : decode cX10_fires 5 = .ok (.aload_n 0, 1) := by decide +kernel
theorem dX10_fires_6 : decode cX10_fires 6 = .ok (.getfield 146, 3) := by decide +kernel
theorem dX10_fires_9 : decode cX10_fires 9 = .ok (.if_icmp .ge 101, 3) := by decide +kernel
theorem dX10_fires_12 : decode cX10_fires 12 = .ok (.aload_n 0, 1) := by decide +kernel
theorem dX10_fires_13 : decode cX10_fires 13 = .ok (.getfield 51, 3) := by decide +kernel
theorem dX10_fires_16 : decode cX10_fires 16 = .ok (.iload_n 3, 1) := by decide +kernel
theorem dX10_fires_17 : decode cX10_fires 17 = .ok (.iaload, 1) := by decide +kernel
theorem dX10_fires_18 : decode cX10_fires 18 = .ok (.iconst 1, 1) := by decide +kernel
theorem dX10_fires_19 : decode cX10_fires 19 = .ok (.if_icmp .ne 85, 3) := by decide +kernel
theorem dX10_fires_104 : decode cX10_fires 104 = .ok (.iinc 3 1, 3) := by decide +kernel
theorem dX10_fires_107 : decode cX10_fires 107 = .ok (.goto (-103), 3) := by decide +kernel
theorem dX10_fires_22 : decode cX10_fires 22 = .ok (.aload_n 0, 1) := by decide +kernel
theorem dX10_fires_23 : decode cX10_fires 23 = .ok (.getfield 45, 3) := by decide +kernel
theorem dX10_fires_26 : decode cX10_fires 26 = .ok (.iload_n 3, 1) := by decide +kernel
theorem dX10_fires_27 : decode cX10_fires 27 = .ok (.baload, 1) := by decide +kernel
theorem dX10_fires_28 : decode cX10_fires 28 = .ok (.ifCond .ne 6, 3) := by decide +kernel
theorem dX10_fires_34 : decode cX10_fires 34 = .ok (.aload_n 0, 1) := by decide +kernel
theorem dX10_fires_35 : decode cX10_fires 35 = .ok (.getfield 54, 3) := by decide +kernel
theorem dX10_fires_38 : decode cX10_fires 38 = .ok (.iload_n 3, 1) := by decide +kernel
theorem dX10_fires_39 : decode cX10_fires 39 = .ok (.iaload, 1) := by decide +kernel
theorem dX10_fires_40 : decode cX10_fires 40 = .ok (.bipush 10, 2) := by decide +kernel
theorem dX10_fires_42 : decode cX10_fires 42 = .ok (.irem, 1) := by decide +kernel
theorem dX10_fires_43 : decode cX10_fires 43 = .ok (.iload_n 1, 1) := by decide +kernel
theorem dX10_fires_44 : decode cX10_fires 44 = .ok (.bipush 10, 2) := by decide +kernel
theorem dX10_fires_46 : decode cX10_fires 46 = .ok (.irem, 1) := by decide +kernel
theorem dX10_fires_47 : decode cX10_fires 47 = .ok (.isub, 1) := by decide +kernel
theorem dX10_fires_48 : decode cX10_fires 48 = .ok (.invokestatic 158, 3) := by decide +kernel
theorem dX10_fires_51 : decode cX10_fires 51 = .ok (.aload_n 0, 1) := by decide +kernel
theorem dX10_fires_52 : decode cX10_fires 52 = .ok (.getfield 54, 3) := by decide +kernel
theorem dX10_fires_55 : decode cX10_fires 55 = .ok (.iload_n 3, 1) := by decide +kernel
theorem dX10_fires_56 : decode cX10_fires 56 = .ok (.iaload, 1) := by decide +kernel
theorem dX10_fires_57 : decode cX10_fires 57 = .ok (.bipush 10, 2) := by decide +kernel
theorem dX10_fires_59 : decode cX10_fires 59 = .ok (.idiv, 1) := by decide +kernel
theorem dX10_fires_60 : decode cX10_fires 60 = .ok (.iload_n 1, 1) := by decide +kernel
theorem dX10_fires_61 : decode cX10_fires 61 = .ok (.bipush 10, 2) := by decide +kernel
theorem dX10_fires_63 : decode cX10_fires 63 = .ok (.idiv, 1) := by decide +kernel
theorem dX10_fires_64 : decode cX10_fires 64 = .ok (.isub, 1) := by decide +kernel
theorem dX10_fires_65 : decode cX10_fires 65 = .ok (.invokestatic 158, 3) := by decide +kernel
theorem dX10_fires_68 : decode cX10_fires 68 = .ok (.iadd, 1) := by decide +kernel
theorem dX10_fires_69 : decode cX10_fires 69 = .ok (.istore 4, 2) := by decide +kernel
theorem dX10_fires_71 : decode cX10_fires 71 = .ok (.iload_n 2, 1) := by decide +kernel
theorem dX10_fires_72 : decode cX10_fires 72 = .ok (.iload 4, 2) := by decide +kernel
theorem dX10_fires_74 : decode cX10_fires 74 = .ok (.ifCond .ne 12, 3) := by decide +kernel
theorem dX10_fires_86 : decode cX10_fires 86 = .ok (.iload 4, 2) := by decide +kernel
theorem dX10_fires_88 : decode cX10_fires 88 = .ok (.iconst 1, 1) := by decide +kernel
theorem dX10_fires_89 : decode cX10_fires 89 = .ok (.if_icmp .ne 12, 3) := by decide +kernel
theorem dX10_fires_101 : decode cX10_fires 101 = .ok (.iconst 0, 1) := by decide +kernel
theorem dX10_fires_102 : decode cX10_fires 102 = .ok (.iadd, 1) := by decide +kernel
theorem dX10_fires_103 : decode cX10_fires 103 = .ok (.istore_n 2, 1) := by decide +kernel
theorem dX10_fires_92 : decode cX10_fires 92 = .ok (.aload_n 0, 1) := by decide +kernel
theorem dX10_fires_93 : decode cX10_fires 93 = .ok (.getfield 13, 3) := by decide +kernel
theorem dX10_fires_96 : decode cX10_fires 96 = .ok (.iconst 2, 1) := by decide +kernel
theorem dX10_fires_97 : decode cX10_fires 97 = .ok (.iaload, 1) := by decide +kernel
theorem dX10_fires_98 : decode cX10_fires 98 = .ok (.goto 4, 3) := by decide +kernel
theorem dX10_fires_77 : decode cX10_fires 77 = .ok (.aload_n 0, 1) := by decide +kernel
theorem dX10_fires_78 : decode cX10_fires 78 = .ok (.getfield 13, 3) := by decide +kernel
theorem dX10_fires_81 : decode cX10_fires 81 = .ok (.iconst 1, 1) := by decide +kernel
theorem dX10_fires_82 : decode cX10_fires 82 = .ok (.iaload, 1) := by decide +kernel
theorem dX10_fires_83 : decode cX10_fires 83 = .ok (.goto 19, 3) := by decide +kernel
theorem dX10_fires_31 : decode cX10_fires 31 = .ok (.goto 73, 3) := by decide +kernel
theorem dX10_fires_0 : decode cX10_fires 0 = .ok (.iconst 0, 1) := by decide +kernel
theorem dX10_fires_1 : decode cX10_fires 1 = .ok (.istore_n 2, 1) := by decide +kernel
theorem dX10_fires_2 : decode cX10_fires 2 = .ok (.iconst 0, 1) := by decide +kernel
theorem dX10_fires_3 : decode cX10_fires 3 = .ok (.istore_n 3, 1) := by decide +kernel
theorem dX10_fires_110 : decode cX10_fires 110 = .ok (.iload_n 2, 1) := by decide +kernel
theorem dX10_fires_111 : decode cX10_fires 111 = .ok (.ireturn, 1) := by decide +kernel
theorem dX10_bears_0 : decode cX10_bears 0 = .ok (.aload_n 0, 1) := by decide +kernel
theorem dX10_bears_1 : decode cX10_bears 1 = .ok (.getfield 32, 3) := by decide +kernel
theorem dX10_bears_4 : decode cX10_bears 4 = .ok (.iload_n 1, 1) := by decide +kernel
theorem dX10_bears_5 : decode cX10_bears 5 = .ok (.iaload, 1) := by decide +kernel
theorem dX10_bears_6 : decode cX10_bears 6 = .ok (.aload_n 0, 1) := by decide +kernel
theorem dX10_bears_7 : decode cX10_bears 7 = .ok (.getfield 32, 3) := by decide +kernel
theorem dX10_bears_10 : decode cX10_bears 10 = .ok (.iload_n 1, 1) := by decide +kernel
theorem dX10_bears_11 : decode cX10_bears 11 = .ok (.iaload, 1) := by decide +kernel
theorem dX10_bears_12 : decode cX10_bears 12 = .ok (.imul, 1) := by decide +kernel
theorem dX10_bears_13 : decode cX10_bears 13 = .ok (.aload_n 0, 1) := by decide +kernel
theorem dX10_bears_14 : decode cX10_bears 14 = .ok (.getfield 13, 3) := by decide +kernel
theorem dX10_bears_17 : decode cX10_bears 17 = .ok (.iconst 0, 1) := by decide +kernel
theorem dX10_bears_18 : decode cX10_bears 18 = .ok (.iaload, 1) := by decide +kernel
theorem dX10_bears_19 : decode cX10_bears 19 = .ok (.imul, 1) := by decide +kernel
theorem dX10_bears_20 : decode cX10_bears 20 = .ok (.bipush 100, 2) := by decide +kernel
theorem dX10_bears_22 : decode cX10_bears 22 = .ok (.idiv, 1) := by decide +kernel
theorem dX10_bears_23 : decode cX10_bears 23 = .ok (.ireturn, 1) := by decide +kernel
theorem dX10_isOpen_0 : decode cX10_isOpen 0 = .ok (.aload_n 0, 1) := by decide +kernel
theorem dX10_isOpen_1 : decode cX10_isOpen 1 = .ok (.getfield 32, 3) := by decide +kernel
theorem dX10_isOpen_4 : decode cX10_isOpen 4 = .ok (.iload_n 1, 1) := by decide +kernel
theorem dX10_isOpen_5 : decode cX10_isOpen 5 = .ok (.iaload, 1) := by decide +kernel
theorem dX10_isOpen_6 : decode cX10_isOpen 6 = .ok (.ifCond .le 16, 3) := by decide +kernel
theorem dX10_isOpen_22 : decode cX10_isOpen 22 = .ok (.iconst 0, 1) := by decide +kernel
theorem dX10_isOpen_23 : decode cX10_isOpen 23 = .ok (.ireturn, 1) := by decide +kernel
theorem dX10_isOpen_9 : decode cX10_isOpen 9 = .ok (.aload_n 0, 1) := by decide +kernel
theorem dX10_isOpen_10 : decode cX10_isOpen 10 = .ok (.getfield 38, 3) := by decide +kernel
theorem dX10_isOpen_13 : decode cX10_isOpen 13 = .ok (.iload_n 1, 1) := by decide +kernel
theorem dX10_isOpen_14 : decode cX10_isOpen 14 = .ok (.baload, 1) := by decide +kernel
theorem dX10_isOpen_15 : decode cX10_isOpen 15 = .ok (.ifCond .ne 7, 3) := by decide +kernel
theorem dX10_isOpen_18 : decode cX10_isOpen 18 = .ok (.iconst 1, 1) := by decide +kernel
theorem dX10_isOpen_19 : decode cX10_isOpen 19 = .ok (.goto 4, 3) := by decide +kernel
theorem dX10_boothAt_2 : decode cX10_boothAt 2 = .ok (.iload_n 2, 1) := by decide +kernel
theorem dX10_boothAt_3 : decode cX10_boothAt 3 = .ok (.aload_n 0, 1) := by decide +kernel
theorem dX10_boothAt_4 : decode cX10_boothAt 4 = .ok (.getfield 146, 3) := by decide +kernel
theorem dX10_boothAt_7 : decode cX10_boothAt 7 = .ok (.if_icmp .ge 31, 3) := by decide +kernel
theorem dX10_boothAt_10 : decode cX10_boothAt 10 = .ok (.aload_n 0, 1) := by decide +kernel
theorem dX10_boothAt_11 : decode cX10_boothAt 11 = .ok (.getfield 51, 3) := by decide +kernel
theorem dX10_boothAt_14 : decode cX10_boothAt 14 = .ok (.iload_n 2, 1) := by decide +kernel
theorem dX10_boothAt_15 : decode cX10_boothAt 15 = .ok (.iaload, 1) := by decide +kernel
theorem dX10_boothAt_16 : decode cX10_boothAt 16 = .ok (.iconst 1, 1) := by decide +kernel
theorem dX10_boothAt_17 : decode cX10_boothAt 17 = .ok (.if_icmp .ne 15, 3) := by decide +kernel
theorem dX10_boothAt_32 : decode cX10_boothAt 32 = .ok (.iinc 2 1, 3) := by decide +kernel
theorem dX10_boothAt_35 : decode cX10_boothAt 35 = .ok (.goto (-33), 3) := by decide +kernel
theorem dX10_boothAt_20 : decode cX10_boothAt 20 = .ok (.aload_n 0, 1) := by decide +kernel
theorem dX10_boothAt_21 : decode cX10_boothAt 21 = .ok (.getfield 54, 3) := by decide +kernel
theorem dX10_boothAt_24 : decode cX10_boothAt 24 = .ok (.iload_n 2, 1) := by decide +kernel
theorem dX10_boothAt_25 : decode cX10_boothAt 25 = .ok (.iaload, 1) := by decide +kernel
theorem dX10_boothAt_26 : decode cX10_boothAt 26 = .ok (.iload_n 1, 1) := by decide +kernel
theorem dX10_boothAt_27 : decode cX10_boothAt 27 = .ok (.if_icmp .ne 5, 3) := by decide +kernel
theorem dX10_boothAt_0 : decode cX10_boothAt 0 = .ok (.iconst 0, 1) := by decide +kernel
theorem dX10_boothAt_1 : decode cX10_boothAt 1 = .ok (.istore_n 2, 1) := by decide +kernel
theorem dX10_boothAt_30 : decode cX10_boothAt 30 = .ok (.iload_n 2, 1) := by decide +kernel
theorem dX10_boothAt_31 : decode cX10_boothAt 31 = .ok (.ireturn, 1) := by decide +kernel
theorem dX10_boothAt_38 : decode cX10_boothAt 38 = .ok (.iconst (-1), 1) := by decide +kernel
theorem dX10_boothAt_39 : decode cX10_boothAt 39 = .ok (.ireturn, 1) := by decide +kernel
theorem dX10_feeOf_0 : decode cX10_feeOf 0 = .ok (.aload_n 0, 1) := by decide +kernel
theorem dX10_feeOf_1 : decode cX10_feeOf 1 = .ok (.getfield 13, 3) := by decide +kernel
theorem dX10_feeOf_4 : decode cX10_feeOf 4 = .ok (.bipush 6, 2) := by decide +kernel
theorem dX10_feeOf_6 : decode cX10_feeOf 6 = .ok (.iaload, 1) := by decide +kernel
theorem dX10_feeOf_7 : decode cX10_feeOf 7 = .ok (.aload_n 0, 1) := by decide +kernel
theorem dX10_feeOf_8 : decode cX10_feeOf 8 = .ok (.getfield 42, 3) := by decide +kernel
theorem dX10_feeOf_11 : decode cX10_feeOf 11 = .ok (.iload_n 1, 1) := by decide +kernel
theorem dX10_feeOf_12 : decode cX10_feeOf 12 = .ok (.iaload, 1) := by decide +kernel
theorem dX10_feeOf_13 : decode cX10_feeOf 13 = .ok (.imul, 1) := by decide +kernel
theorem dX10_feeOf_14 : decode cX10_feeOf 14 = .ok (.aload_n 0, 1) := by decide +kernel
theorem dX10_feeOf_15 : decode cX10_feeOf 15 = .ok (.getfield 45, 3) := by decide +kernel
theorem dX10_feeOf_18 : decode cX10_feeOf 18 = .ok (.iload_n 1, 1) := by decide +kernel
theorem dX10_feeOf_19 : decode cX10_feeOf 19 = .ok (.baload, 1) := by decide +kernel
theorem dX10_feeOf_20 : decode cX10_feeOf 20 = .ok (.ifCond .eq 13, 3) := by decide +kernel
theorem dX10_feeOf_33 : decode cX10_feeOf 33 = .ok (.iconst 0, 1) := by decide +kernel
theorem dX10_feeOf_34 : decode cX10_feeOf 34 = .ok (.iadd, 1) := by decide +kernel
theorem dX10_feeOf_35 : decode cX10_feeOf 35 = .ok (.ireturn, 1) := by decide +kernel
theorem dX10_feeOf_23 : decode cX10_feeOf 23 = .ok (.aload_n 0, 1) := by decide +kernel
theorem dX10_feeOf_24 : decode cX10_feeOf 24 = .ok (.getfield 13, 3) := by decide +kernel
theorem dX10_feeOf_27 : decode cX10_feeOf 27 = .ok (.bipush 7, 2) := by decide +kernel
theorem dX10_feeOf_29 : decode cX10_feeOf 29 = .ok (.iaload, 1) := by decide +kernel
theorem dX10_feeOf_30 : decode cX10_feeOf 30 = .ok (.goto 4, 3) := by decide +kernel
theorem dX10_isBooth_0 : decode cX10_isBooth 0 = .ok (.iload_n 1, 1) := by decide +kernel
theorem dX10_isBooth_1 : decode cX10_isBooth 1 = .ok (.ifCond .lt 25, 3) := by decide +kernel
theorem dX10_isBooth_26 : decode cX10_isBooth 26 = .ok (.iconst 0, 1) := by decide +kernel
theorem dX10_isBooth_27 : decode cX10_isBooth 27 = .ok (.ireturn, 1) := by decide +kernel
theorem dX10_isBooth_4 : decode cX10_isBooth 4 = .ok (.iload_n 1, 1) := by decide +kernel
theorem dX10_isBooth_5 : decode cX10_isBooth 5 = .ok (.aload_n 0, 1) := by decide +kernel
theorem dX10_isBooth_6 : decode cX10_isBooth 6 = .ok (.getfield 146, 3) := by decide +kernel
theorem dX10_isBooth_9 : decode cX10_isBooth 9 = .ok (.if_icmp .ge 17, 3) := by decide +kernel
theorem dX10_isBooth_12 : decode cX10_isBooth 12 = .ok (.aload_n 0, 1) := by decide +kernel
theorem dX10_isBooth_13 : decode cX10_isBooth 13 = .ok (.getfield 51, 3) := by decide +kernel
theorem dX10_isBooth_16 : decode cX10_isBooth 16 = .ok (.iload_n 1, 1) := by decide +kernel
theorem dX10_isBooth_17 : decode cX10_isBooth 17 = .ok (.iaload, 1) := by decide +kernel
theorem dX10_isBooth_18 : decode cX10_isBooth 18 = .ok (.iload_n 2, 1) := by decide +kernel
theorem dX10_isBooth_19 : decode cX10_isBooth 19 = .ok (.if_icmp .ne 7, 3) := by decide +kernel
theorem dX10_isBooth_22 : decode cX10_isBooth 22 = .ok (.iconst 1, 1) := by decide +kernel
theorem dX10_isBooth_23 : decode cX10_isBooth 23 = .ok (.goto 4, 3) := by decide +kernel
theorem dX10_may_13 : decode cX10_may 13 = .ok (.iload 4, 2) := by decide +kernel
theorem dX10_may_15 : decode cX10_may 15 = .ok (.aload_n 0, 1) := by decide +kernel
theorem dX10_may_16 : decode cX10_may 16 = .ok (.getfield 26, 3) := by decide +kernel
theorem dX10_may_19 : decode cX10_may 19 = .ok (.if_icmp .ge 46, 3) := by decide +kernel
theorem dX10_may_22 : decode cX10_may 22 = .ok (.aload_n 0, 1) := by decide +kernel
theorem dX10_may_23 : decode cX10_may 23 = .ok (.getfield 38, 3) := by decide +kernel
theorem dX10_may_26 : decode cX10_may 26 = .ok (.bipush 10, 2) := by decide +kernel
theorem dX10_may_28 : decode cX10_may 28 = .ok (.iload_n 3, 1) := by decide +kernel
theorem dX10_may_29 : decode cX10_may 29 = .ok (.imul, 1) := by decide +kernel
theorem dX10_may_30 : decode cX10_may 30 = .ok (.iload 4, 2) := by decide +kernel
theorem dX10_may_32 : decode cX10_may 32 = .ok (.iadd, 1) := by decide +kernel
theorem dX10_may_33 : decode cX10_may 33 = .ok (.baload, 1) := by decide +kernel
theorem dX10_may_34 : decode cX10_may 34 = .ok (.ifCond .eq 25, 3) := by decide +kernel
theorem dX10_may_59 : decode cX10_may 59 = .ok (.iinc 4 1, 3) := by decide +kernel
theorem dX10_may_62 : decode cX10_may 62 = .ok (.goto (-49), 3) := by decide +kernel
theorem dX10_may_37 : decode cX10_may 37 = .ok (.bipush 10, 2) := by decide +kernel
theorem dX10_may_39 : decode cX10_may 39 = .ok (.iload_n 3, 1) := by decide +kernel
theorem dX10_may_40 : decode cX10_may 40 = .ok (.imul, 1) := by decide +kernel
theorem dX10_may_41 : decode cX10_may 41 = .ok (.iload 4, 2) := by decide +kernel
theorem dX10_may_43 : decode cX10_may 43 = .ok (.iadd, 1) := by decide +kernel
theorem dX10_may_44 : decode cX10_may 44 = .ok (.iload_n 2, 1) := by decide +kernel
theorem kw_5_155 : Cond.methodLink RX10 162 yX10_far ∈ gw := gw_t5 (List.mem_of_getElem? (i := 155) (by decide +kernel)) (by decide +kernel)
theorem kw_5_156 : Cond.static yX10_far ∈ gw := gw_t5 (List.mem_of_getElem? (i := 156) (by decide +kernel)) (by decide +kernel)
theorem kw_5_157 : Cond.code yX10_far cX10_far 4 (some .int) ∈ gw := gw_t5 (List.mem_of_getElem? (i := 157) (by decide +kernel)) (by decide +kernel)
theorem gk_X10_162 : GoodIn gw (wsS RX10 162 yX10_far (.code yX10_far cX10_far 4 (some .int) :: gw)) ∧ (yX10_far.cls = RX10 ∧ yX10_far.cls ≠ "java/lang/invoke/MethodHandle" ∧ yX10_far.cls ≠ "java/lang/invoke/VarHandle" ∧ (parseMethodDescriptor yX10_far.desc).map (fun d => d.parameters.length) = some 2) := ⟨gi_S kw_5_155 kw_5_156 kw_1_11 kw_5_157, by decide +kernel⟩
theorem dX10_may_45 : decode cX10_may 45 = .ok (.invokestatic 162, 3) := by decide +kernel
theorem dX10_may_48 : decode cX10_may 48 = .ok (.aload_n 0, 1) := by decide +kernel
theorem dX10_may_49 : decode cX10_may 49 = .ok (.getfield 13, 3) := by decide +kernel
theorem dX10_may_52 : decode cX10_may 52 = .ok (.iconst 4, 1) := by decide +kernel
theorem dX10_may_53 : decode cX10_may 53 = .ok (.iaload, 1) := by decide +kernel
theorem dX10_may_54 : decode cX10_may 54 = .ok (.if_icmp .ge 5, 3) := by decide +kernel
theorem dX10_may_2 : decode cX10_may 2 = .ok (.iload_n 3, 1) := by decide +kernel
theorem dX10_may_3 : decode cX10_may 3 = .ok (.aload_n 0, 1) := by decide +kernel
theorem dX10_may_4 : decode cX10_may 4 = .ok (.getfield 29, 3) := by decide +kernel
theorem dX10_may_7 : decode cX10_may 7 = .ok (.if_icmp .ge 64, 3) := by decide +kernel
theorem dX10_may_10 : decode cX10_may 10 = .ok (.iconst 0, 1) := by decide +kernel
theorem dX10_may_11 : decode cX10_may 11 = .ok (.istore 4, 2) := by decide +kernel
theorem dX10_may_65 : decode cX10_may 65 = .ok (.iinc 3 1, 3) := by decide +kernel
theorem dX10_may_68 : decode cX10_may 68 = .ok (.goto (-66), 3) := by decide +kernel
theorem dX10_may_73 : decode cX10_may 73 = .ok (.iload_n 3, 1) := by decide +kernel
theorem dX10_may_74 : decode cX10_may 74 = .ok (.aload_n 0, 1) := by decide +kernel
theorem dX10_may_75 : decode cX10_may 75 = .ok (.getfield 146, 3) := by decide +kernel
theorem dX10_may_78 : decode cX10_may 78 = .ok (.if_icmp .ge 58, 3) := by decide +kernel
theorem dX10_may_81 : decode cX10_may 81 = .ok (.aload_n 0, 1) := by decide +kernel
theorem dX10_may_82 : decode cX10_may 82 = .ok (.getfield 45, 3) := by decide +kernel
theorem dX10_may_85 : decode cX10_may 85 = .ok (.iload_n 1, 1) := by decide +kernel
theorem dX10_may_86 : decode cX10_may 86 = .ok (.baload, 1) := by decide +kernel
theorem dX10_may_87 : decode cX10_may 87 = .ok (.ifCond .eq 43, 3) := by decide +kernel
theorem dX10_may_130 : decode cX10_may 130 = .ok (.iinc 3 1, 3) := by decide +kernel
theorem dX10_may_133 : decode cX10_may 133 = .ok (.goto (-60), 3) := by decide +kernel
theorem dX10_may_90 : decode cX10_may 90 = .ok (.aload_n 0, 1) := by decide +kernel
theorem dX10_may_91 : decode cX10_may 91 = .ok (.getfield 45, 3) := by decide +kernel
theorem dX10_may_94 : decode cX10_may 94 = .ok (.iload_n 3, 1) := by decide +kernel
theorem dX10_may_95 : decode cX10_may 95 = .ok (.baload, 1) := by decide +kernel
theorem dX10_may_96 : decode cX10_may 96 = .ok (.ifCond .eq 34, 3) := by decide +kernel
theorem dX10_may_99 : decode cX10_may 99 = .ok (.aload_n 0, 1) := by decide +kernel
theorem dX10_may_100 : decode cX10_may 100 = .ok (.getfield 51, 3) := by decide +kernel
theorem dX10_may_103 : decode cX10_may 103 = .ok (.iload_n 3, 1) := by decide +kernel
theorem dX10_may_104 : decode cX10_may 104 = .ok (.iaload, 1) := by decide +kernel
theorem dX10_may_105 : decode cX10_may 105 = .ok (.iconst 1, 1) := by decide +kernel
theorem dX10_may_106 : decode cX10_may 106 = .ok (.if_icmp .ne 24, 3) := by decide +kernel
theorem dX10_may_109 : decode cX10_may 109 = .ok (.aload_n 0, 1) := by decide +kernel
theorem dX10_may_110 : decode cX10_may 110 = .ok (.getfield 54, 3) := by decide +kernel
theorem dX10_may_113 : decode cX10_may 113 = .ok (.iload_n 3, 1) := by decide +kernel
theorem dX10_may_114 : decode cX10_may 114 = .ok (.iaload, 1) := by decide +kernel
theorem dX10_may_115 : decode cX10_may 115 = .ok (.iload_n 2, 1) := by decide +kernel
theorem dX10_may_116 : decode cX10_may 116 = .ok (.invokestatic 162, 3) := by decide +kernel
theorem dX10_may_119 : decode cX10_may 119 = .ok (.aload_n 0, 1) := by decide +kernel
theorem dX10_may_120 : decode cX10_may 120 = .ok (.getfield 13, 3) := by decide +kernel
theorem dX10_may_123 : decode cX10_may 123 = .ok (.iconst 3, 1) := by decide +kernel
theorem dX10_may_124 : decode cX10_may 124 = .ok (.iaload, 1) := by decide +kernel
theorem dX10_may_125 : decode cX10_may 125 = .ok (.if_icmp .ge 5, 3) := by decide +kernel
theorem dX10_may_171 : decode cX10_may 171 = .ok (.iload 5, 2) := by decide +kernel
theorem dX10_may_173 : decode cX10_may 173 = .ok (.aload_n 0, 1) := by decide +kernel
theorem dX10_may_174 : decode cX10_may 174 = .ok (.getfield 26, 3) := by decide +kernel
theorem dX10_may_177 : decode cX10_may 177 = .ok (.if_icmp .ge 55, 3) := by decide +kernel
theorem dX10_may_180 : decode cX10_may 180 = .ok (.iload_n 3, 1) := by decide +kernel
theorem dX10_may_181 : decode cX10_may 181 = .ok (.ifCond .eq 51, 3) := by decide +kernel
theorem dX10_may_184 : decode cX10_may 184 = .ok (.aload_n 0, 1) := by decide +kernel
theorem dX10_may_185 : decode cX10_may 185 = .ok (.bipush 10, 2) := by decide +kernel
theorem dX10_may_187 : decode cX10_may 187 = .ok (.iload 4, 2) := by decide +kernel
theorem dX10_may_189 : decode cX10_may 189 = .ok (.imul, 1) := by decide +kernel
theorem dX10_may_190 : decode cX10_may 190 = .ok (.iload 5, 2) := by decide +kernel
theorem dX10_may_192 : decode cX10_may 192 = .ok (.iadd, 1) := by decide +kernel
theorem kw_5_161 : Cond.methodLink RX10 165 yX10_strain ∈ gw := gw_t5 (List.mem_of_getElem? (i := 161) (by decide +kernel)) (by decide +kernel)
theorem kw_5_163 : Cond.instanceMethod yX10_strain ∈ gw := gw_t5 (List.mem_of_getElem? (i := 163) (by decide +kernel)) (by decide +kernel)
theorem ks_4_0 : Cond.selects RX10 yX10_strain yX10_strain ∈ gw := gw_s (y := yX10_strain) (n := 37) (List.mem_append_right _ (List.mem_append_right _ (List.mem_append_right _ (List.mem_of_getElem? (i := 0) (by decide +kernel)))))
theorem kw_5_164 : Cond.code yX10_strain cX10_strain 6 (some .int) ∈ gw := gw_t5 (List.mem_of_getElem? (i := 164) (by decide +kernel)) (by decide +kernel)
theorem gk_X10_165 : GoodIn gw (wsV RX10 165 RX10 yX10_strain (.code yX10_strain cX10_strain 6 (some .int) :: gw)) ∧ (yX10_strain.cls = RX10 ∧ yX10_strain.cls ≠ "java/lang/invoke/MethodHandle" ∧ yX10_strain.cls ≠ "java/lang/invoke/VarHandle" ∧ (parseMethodDescriptor yX10_strain.desc).map (fun d => d.parameters.length) = some 1) := ⟨gi_V kw_5_161 kw_5_163 ks_4_0 kw_1_11 kw_5_164, by decide +kernel⟩
theorem dX10_may_193 : decode cX10_may 193 = .ok (.invokevirtual 165, 3) := by decide +kernel
theorem dX10_may_196 : decode cX10_may 196 = .ok (.istore 6, 2) := by decide +kernel
theorem dX10_may_198 : decode cX10_may 198 = .ok (.iload 6, 2) := by decide +kernel
theorem dX10_may_200 : decode cX10_may 200 = .ok (.ifCond .eq 20, 3) := by decide +kernel
theorem dX10_may_220 : decode cX10_may 220 = .ok (.iconst 1, 1) := by decide +kernel
theorem dX10_may_221 : decode cX10_may 221 = .ok (.goto 4, 3) := by decide +kernel
theorem dX10_may_225 : decode cX10_may 225 = .ok (.istore_n 3, 1) := by decide +kernel
theorem dX10_may_226 : decode cX10_may 226 = .ok (.iinc 5 1, 3) := by decide +kernel
theorem dX10_may_229 : decode cX10_may 229 = .ok (.goto (-58), 3) := by decide +kernel
theorem dX10_may_203 : decode cX10_may 203 = .ok (.iload 6, 2) := by decide +kernel
theorem dX10_may_205 : decode cX10_may 205 = .ok (.aload_n 0, 1) := by decide +kernel
theorem dX10_may_206 : decode cX10_may 206 = .ok (.bipush 10, 2) := by decide +kernel
theorem dX10_may_208 : decode cX10_may 208 = .ok (.iload 4, 2) := by decide +kernel
theorem dX10_may_210 : decode cX10_may 210 = .ok (.imul, 1) := by decide +kernel
theorem dX10_may_211 : decode cX10_may 211 = .ok (.iload 5, 2) := by decide +kernel
theorem dX10_may_213 : decode cX10_may 213 = .ok (.iadd, 1) := by decide +kernel
theorem kw_5_165 : Cond.methodLink RX10 168 yX10_bears ∈ gw := gw_t5 (List.mem_of_getElem? (i := 165) (by decide +kernel)) (by decide +kernel)
theorem kw_5_167 : Cond.instanceMethod yX10_bears ∈ gw := gw_t5 (List.mem_of_getElem? (i := 167) (by decide +kernel)) (by decide +kernel)
theorem ks_4_1 : Cond.selects RX10 yX10_bears yX10_bears ∈ gw := gw_s (y := yX10_bears) (n := 37) (List.mem_append_right _ (List.mem_append_right _ (List.mem_append_right _ (List.mem_of_getElem? (i := 1) (by decide +kernel)))))
theorem kw_5_168 : Cond.code yX10_bears cX10_bears 2 (some .int) ∈ gw := gw_t5 (List.mem_of_getElem? (i := 168) (by decide +kernel)) (by decide +kernel)
theorem gk_X10_168 : GoodIn gw (wsV RX10 168 RX10 yX10_bears (.code yX10_bears cX10_bears 2 (some .int) :: gw)) ∧ (yX10_bears.cls = RX10 ∧ yX10_bears.cls ≠ "java/lang/invoke/MethodHandle" ∧ yX10_bears.cls ≠ "java/lang/invoke/VarHandle" ∧ (parseMethodDescriptor yX10_bears.desc).map (fun d => d.parameters.length) = some 1) := ⟨gi_V kw_5_165 kw_5_167 ks_4_1 kw_1_11 kw_5_168, by decide +kernel⟩
theorem dX10_may_214 : decode cX10_may 214 = .ok (.invokevirtual 168, 3) := by decide +kernel
theorem dX10_may_217 : decode cX10_may 217 = .ok (.if_icmp .gt 7, 3) := by decide +kernel
theorem dX10_may_224 : decode cX10_may 224 = .ok (.iconst 0, 1) := by decide +kernel
theorem dX10_may_155 : decode cX10_may 155 = .ok (.iload 4, 2) := by decide +kernel
theorem dX10_may_157 : decode cX10_may 157 = .ok (.aload_n 0, 1) := by decide +kernel
theorem dX10_may_158 : decode cX10_may 158 = .ok (.getfield 29, 3) := by decide +kernel
theorem dX10_may_161 : decode cX10_may 161 = .ok (.if_icmp .ge 77, 3) := by decide +kernel
theorem dX10_may_164 : decode cX10_may 164 = .ok (.iload_n 3, 1) := by decide +kernel
theorem dX10_may_165 : decode cX10_may 165 = .ok (.ifCond .eq 73, 3) := by decide +kernel
theorem dX10_may_168 : decode cX10_may 168 = .ok (.iconst 0, 1) := by decide +kernel
theorem dX10_may_169 : decode cX10_may 169 = .ok (.istore 5, 2) := by decide +kernel
theorem dX10_may_232 : decode cX10_may 232 = .ok (.iinc 4 1, 3) := by decide +kernel
theorem dX10_may_235 : decode cX10_may 235 = .ok (.goto (-80), 3) := by decide +kernel
theorem dX10_may_0 : decode cX10_may 0 = .ok (.iconst 0, 1) := by decide +kernel
theorem dX10_may_1 : decode cX10_may 1 = .ok (.istore_n 3, 1) := by decide +kernel
theorem dX10_may_57 : decode cX10_may 57 = .ok (.iconst 0, 1) := by decide +kernel
theorem dX10_may_58 : decode cX10_may 58 = .ok (.ireturn, 1) := by decide +kernel
theorem dX10_may_71 : decode cX10_may 71 = .ok (.iconst 0, 1) := by decide +kernel
theorem dX10_may_72 : decode cX10_may 72 = .ok (.istore_n 3, 1) := by decide +kernel
theorem dX10_may_128 : decode cX10_may 128 = .ok (.iconst 0, 1) := by decide +kernel
theorem dX10_may_129 : decode cX10_may 129 = .ok (.ireturn, 1) := by decide +kernel
theorem dX10_may_136 : decode cX10_may 136 = .ok (.aload_n 0, 1) := by decide +kernel
theorem dX10_may_137 : decode cX10_may 137 = .ok (.getfield 51, 3) := by decide +kernel
theorem dX10_may_140 : decode cX10_may 140 = .ok (.iload_n 1, 1) := by decide +kernel
theorem dX10_may_141 : decode cX10_may 141 = .ok (.iconst 1, 1) := by decide +kernel
theorem dX10_may_142 : decode cX10_may 142 = .ok (.iastore, 1) := by decide +kernel
theorem dX10_may_143 : decode cX10_may 143 = .ok (.aload_n 0, 1) := by decide +kernel
theorem dX10_may_144 : decode cX10_may 144 = .ok (.getfield 54, 3) := by decide +kernel
theorem dX10_may_147 : decode cX10_may 147 = .ok (.iload_n 1, 1) := by decide +kernel
theorem dX10_may_148 : decode cX10_may 148 = .ok (.iload_n 2, 1) := by decide +kernel
theorem dX10_may_149 : decode cX10_may 149 = .ok (.iastore, 1) := by decide +kernel
theorem dX10_may_150 : decode cX10_may 150 = .ok (.iconst 1, 1) := by decide +kernel
theorem dX10_may_151 : decode cX10_may 151 = .ok (.istore_n 3, 1) := by decide +kernel
theorem dX10_may_152 : decode cX10_may 152 = .ok (.iconst 0, 1) := by decide +kernel
theorem dX10_may_153 : decode cX10_may 153 = .ok (.istore 4, 2) := by decide +kernel
theorem dX10_may_238 : decode cX10_may 238 = .ok (.aload_n 0, 1) := by decide +kernel
theorem dX10_may_239 : decode cX10_may 239 = .ok (.getfield 51, 3) := by decide +kernel
theorem dX10_may_242 : decode cX10_may 242 = .ok (.iload_n 1, 1) := by decide +kernel
theorem dX10_may_243 : decode cX10_may 243 = .ok (.iconst 0, 1) := by decide +kernel
theorem dX10_may_244 : decode cX10_may 244 = .ok (.iastore, 1) := by decide +kernel
theorem dX10_may_245 : decode cX10_may 245 = .ok (.iload_n 3, 1) := by decide +kernel
theorem dX10_may_246 : decode cX10_may 246 = .ok (.ireturn, 1) := by decide +kernel
theorem dX10_set_0 : decode cX10_set 0 = .ok (.aload_n 0, 1) := by decide +kernel
theorem dX10_set_1 : decode cX10_set 1 = .ok (.iconst 0, 1) := by decide +kernel
theorem dX10_set_2 : decode cX10_set 2 = .ok (.putfield 78, 3) := by decide +kernel
theorem dX10_set_5 : decode cX10_set 5 = .ok (.aload_n 0, 1) := by decide +kernel
theorem dX10_set_6 : decode cX10_set 6 = .ok (.iload_n 1, 1) := by decide +kernel
theorem dX10_set_7 : decode cX10_set 7 = .ok (.iconst 0, 1) := by decide +kernel
theorem kw_5_139 : Cond.methodLink RX10 171 yX10_isBooth ∈ gw := gw_t5 (List.mem_of_getElem? (i := 139) (by decide +kernel)) (by decide +kernel)
theorem kw_5_141 : Cond.instanceMethod yX10_isBooth ∈ gw := gw_t5 (List.mem_of_getElem? (i := 141) (by decide +kernel)) (by decide +kernel)
theorem ks_3_12 : Cond.selects RX10 yX10_isBooth yX10_isBooth ∈ gw := gw_s (y := yX10_isBooth) (n := 37) (List.mem_append_right _ (List.mem_append_right _ (List.mem_append_left _ (List.mem_of_getElem? (i := 12) (by decide +kernel)))))
theorem kw_5_142 : Cond.code yX10_isBooth cX10_isBooth 3 (some .boolean) ∈ gw := gw_t5 (List.mem_of_getElem? (i := 142) (by decide +kernel)) (by decide +kernel)
theorem gk_X10_171 : GoodIn gw (wsV RX10 171 RX10 yX10_isBooth (.code yX10_isBooth cX10_isBooth 3 (some .boolean) :: gw)) ∧ (yX10_isBooth.cls = RX10 ∧ yX10_isBooth.cls ≠ "java/lang/invoke/MethodHandle" ∧ yX10_isBooth.cls ≠ "java/lang/invoke/VarHandle" ∧ (parseMethodDescriptor yX10_isBooth.desc).map (fun d => d.parameters.length) = some 2) := ⟨gi_V kw_5_139 kw_5_141 ks_3_12 kw_1_11 kw_5_142, by decide +kernel⟩
theorem dX10_set_8 : decode cX10_set 8 = .ok (.invokevirtual 171, 3) := by decide +kernel
theorem dX10_set_11 : decode cX10_set 11 = .ok (.ifCond .eq 52, 3) := by decide +kernel
theorem dX10_set_63 : decode cX10_set 63 = .ok (.iconst (-1), 1) := by decide +kernel
theorem dX10_set_64 : decode cX10_set 64 = .ok (.ireturn, 1) := by decide +kernel
theorem dX10_set_14 : decode cX10_set 14 = .ok (.aload_n 0, 1) := by decide +kernel
theorem dX10_set_15 : decode cX10_set 15 = .ok (.iload_n 2, 1) := by decide +kernel
theorem dX10_set_16 : decode cX10_set 16 = .ok (.iload_n 3, 1) := by decide +kernel
theorem kw_5_127 : Cond.methodLink RX10 155 yX10_isCell ∈ gw := gw_t5 (List.mem_of_getElem? (i := 127) (by decide +kernel)) (by decide +kernel)
theorem kw_5_129 : Cond.instanceMethod yX10_isCell ∈ gw := gw_t5 (List.mem_of_getElem? (i := 129) (by decide +kernel)) (by decide +kernel)
theorem ks_3_11 : Cond.selects RX10 yX10_isCell yX10_isCell ∈ gw := gw_s (y := yX10_isCell) (n := 37) (List.mem_append_right _ (List.mem_append_right _ (List.mem_append_left _ (List.mem_of_getElem? (i := 11) (by decide +kernel)))))
theorem kw_5_130 : Cond.code yX10_isCell cX10_isCell 3 (some .boolean) ∈ gw := gw_t5 (List.mem_of_getElem? (i := 130) (by decide +kernel)) (by decide +kernel)
theorem gk_X10_155 : GoodIn gw (wsV RX10 155 RX10 yX10_isCell (.code yX10_isCell cX10_isCell 3 (some .boolean) :: gw)) ∧ (yX10_isCell.cls = RX10 ∧ yX10_isCell.cls ≠ "java/lang/invoke/MethodHandle" ∧ yX10_isCell.cls ≠ "java/lang/invoke/VarHandle" ∧ (parseMethodDescriptor yX10_isCell.desc).map (fun d => d.parameters.length) = some 2) := ⟨gi_V kw_5_127 kw_5_129 ks_3_11 kw_1_11 kw_5_130, by decide +kernel⟩
theorem dX10_set_17 : decode cX10_set 17 = .ok (.invokevirtual 155, 3) := by decide +kernel
theorem dX10_set_20 : decode cX10_set 20 = .ok (.ifCond .eq 43, 3) := by decide +kernel
theorem dX10_set_23 : decode cX10_set 23 = .ok (.aload_n 0, 1) := by decide +kernel
theorem dX10_set_24 : decode cX10_set 24 = .ok (.bipush 10, 2) := by decide +kernel
theorem dX10_set_26 : decode cX10_set 26 = .ok (.iload_n 3, 1) := by decide +kernel
theorem dX10_set_27 : decode cX10_set 27 = .ok (.imul, 1) := by decide +kernel
theorem dX10_set_28 : decode cX10_set 28 = .ok (.iload_n 2, 1) := by decide +kernel
theorem dX10_set_29 : decode cX10_set 29 = .ok (.iadd, 1) := by decide +kernel
theorem kw_5_143 : Cond.methodLink RX10 174 yX10_isOpen ∈ gw := gw_t5 (List.mem_of_getElem? (i := 143) (by decide +kernel)) (by decide +kernel)
theorem kw_5_145 : Cond.instanceMethod yX10_isOpen ∈ gw := gw_t5 (List.mem_of_getElem? (i := 145) (by decide +kernel)) (by decide +kernel)
theorem ks_3_13 : Cond.selects RX10 yX10_isOpen yX10_isOpen ∈ gw := gw_s (y := yX10_isOpen) (n := 37) (List.mem_append_right _ (List.mem_append_right _ (List.mem_append_left _ (List.mem_of_getElem? (i := 13) (by decide +kernel)))))
theorem kw_5_146 : Cond.code yX10_isOpen cX10_isOpen 2 (some .boolean) ∈ gw := gw_t5 (List.mem_of_getElem? (i := 146) (by decide +kernel)) (by decide +kernel)
theorem gk_X10_174 : GoodIn gw (wsV RX10 174 RX10 yX10_isOpen (.code yX10_isOpen cX10_isOpen 2 (some .boolean) :: gw)) ∧ (yX10_isOpen.cls = RX10 ∧ yX10_isOpen.cls ≠ "java/lang/invoke/MethodHandle" ∧ yX10_isOpen.cls ≠ "java/lang/invoke/VarHandle" ∧ (parseMethodDescriptor yX10_isOpen.desc).map (fun d => d.parameters.length) = some 1) := ⟨gi_V kw_5_143 kw_5_145 ks_3_13 kw_1_11 kw_5_146, by decide +kernel⟩
theorem dX10_set_30 : decode cX10_set 30 = .ok (.invokevirtual 174, 3) := by decide +kernel
theorem dX10_set_33 : decode cX10_set 33 = .ok (.ifCond .eq 30, 3) := by decide +kernel
theorem dX10_set_36 : decode cX10_set 36 = .ok (.aload_n 0, 1) := by decide +kernel
theorem dX10_set_37 : decode cX10_set 37 = .ok (.bipush 10, 2) := by decide +kernel
theorem dX10_set_39 : decode cX10_set 39 = .ok (.iload_n 3, 1) := by decide +kernel
theorem dX10_set_40 : decode cX10_set 40 = .ok (.imul, 1) := by decide +kernel
theorem dX10_set_41 : decode cX10_set 41 = .ok (.iload_n 2, 1) := by decide +kernel
theorem dX10_set_42 : decode cX10_set 42 = .ok (.iadd, 1) := by decide +kernel
theorem kw_5_147 : Cond.methodLink RX10 177 yX10_boothAt ∈ gw := gw_t5 (List.mem_of_getElem? (i := 147) (by decide +kernel)) (by decide +kernel)
theorem kw_5_149 : Cond.instanceMethod yX10_boothAt ∈ gw := gw_t5 (List.mem_of_getElem? (i := 149) (by decide +kernel)) (by decide +kernel)
theorem ks_3_14 : Cond.selects RX10 yX10_boothAt yX10_boothAt ∈ gw := gw_s (y := yX10_boothAt) (n := 37) (List.mem_append_right _ (List.mem_append_right _ (List.mem_append_left _ (List.mem_of_getElem? (i := 14) (by decide +kernel)))))
theorem kw_5_150 : Cond.code yX10_boothAt cX10_boothAt 3 (some .int) ∈ gw := gw_t5 (List.mem_of_getElem? (i := 150) (by decide +kernel)) (by decide +kernel)
theorem gk_X10_177 : GoodIn gw (wsV RX10 177 RX10 yX10_boothAt (.code yX10_boothAt cX10_boothAt 3 (some .int) :: gw)) ∧ (yX10_boothAt.cls = RX10 ∧ yX10_boothAt.cls ≠ "java/lang/invoke/MethodHandle" ∧ yX10_boothAt.cls ≠ "java/lang/invoke/VarHandle" ∧ (parseMethodDescriptor yX10_boothAt.desc).map (fun d => d.parameters.length) = some 1) := ⟨gi_V kw_5_147 kw_5_149 ks_3_14 kw_1_11 kw_5_150, by decide +kernel⟩
theorem dX10_set_43 : decode cX10_set 43 = .ok (.invokevirtual 177, 3) := by decide +kernel
theorem dX10_set_46 : decode cX10_set 46 = .ok (.ifCond .ge 17, 3) := by decide +kernel
theorem dX10_set_49 : decode cX10_set 49 = .ok (.aload_n 0, 1) := by decide +kernel
theorem dX10_set_50 : decode cX10_set 50 = .ok (.iload_n 1, 1) := by decide +kernel
theorem dX10_set_51 : decode cX10_set 51 = .ok (.bipush 10, 2) := by decide +kernel
theorem dX10_set_53 : decode cX10_set 53 = .ok (.iload_n 3, 1) := by decide +kernel
theorem dX10_set_54 : decode cX10_set 54 = .ok (.imul, 1) := by decide +kernel
theorem dX10_set_55 : decode cX10_set 55 = .ok (.iload_n 2, 1) := by decide +kernel
theorem dX10_set_56 : decode cX10_set 56 = .ok (.iadd, 1) := by decide +kernel
theorem kw_5_151 : Cond.methodLink RX10 180 yX10_may ∈ gw := gw_t5 (List.mem_of_getElem? (i := 151) (by decide +kernel)) (by decide +kernel)
theorem kw_5_153 : Cond.instanceMethod yX10_may ∈ gw := gw_t5 (List.mem_of_getElem? (i := 153) (by decide +kernel)) (by decide +kernel)
theorem ks_3_15 : Cond.selects RX10 yX10_may yX10_may ∈ gw := gw_s (y := yX10_may) (n := 37) (List.mem_append_right _ (List.mem_append_right _ (List.mem_append_left _ (List.mem_of_getElem? (i := 15) (by decide +kernel)))))
theorem kw_5_154 : Cond.code yX10_may cX10_may 7 (some .boolean) ∈ gw := gw_t5 (List.mem_of_getElem? (i := 154) (by decide +kernel)) (by decide +kernel)
theorem gk_X10_180 : GoodIn gw (wsV RX10 180 RX10 yX10_may (.code yX10_may cX10_may 7 (some .boolean) :: gw)) ∧ (yX10_may.cls = RX10 ∧ yX10_may.cls ≠ "java/lang/invoke/MethodHandle" ∧ yX10_may.cls ≠ "java/lang/invoke/VarHandle" ∧ (parseMethodDescriptor yX10_may.desc).map (fun d => d.parameters.length) = some 2) := ⟨gi_V kw_5_151 kw_5_153 ks_3_15 kw_1_11 kw_5_154, by decide +kernel⟩
theorem dX10_set_57 : decode cX10_set 57 = .ok (.invokevirtual 180, 3) := by decide +kernel
theorem dX10_set_60 : decode cX10_set 60 = .ok (.ifCond .ne 5, 3) := by decide +kernel
theorem dX10_set_65 : decode cX10_set 65 = .ok (.aload_n 0, 1) := by decide +kernel
theorem dX10_set_66 : decode cX10_set 66 = .ok (.getfield 51, 3) := by decide +kernel
theorem dX10_set_69 : decode cX10_set 69 = .ok (.iload_n 1, 1) := by decide +kernel
theorem dX10_set_70 : decode cX10_set 70 = .ok (.iconst 1, 1) := by decide +kernel
theorem dX10_set_71 : decode cX10_set 71 = .ok (.iastore, 1) := by decide +kernel
theorem dX10_set_72 : decode cX10_set 72 = .ok (.aload_n 0, 1) := by decide +kernel
theorem dX10_set_73 : decode cX10_set 73 = .ok (.getfield 54, 3) := by decide +kernel
theorem dX10_set_76 : decode cX10_set 76 = .ok (.iload_n 1, 1) := by decide +kernel
theorem dX10_set_77 : decode cX10_set 77 = .ok (.bipush 10, 2) := by decide +kernel
theorem dX10_set_79 : decode cX10_set 79 = .ok (.iload_n 3, 1) := by decide +kernel
theorem dX10_set_80 : decode cX10_set 80 = .ok (.imul, 1) := by decide +kernel
theorem dX10_set_81 : decode cX10_set 81 = .ok (.iload_n 2, 1) := by decide +kernel
theorem dX10_set_82 : decode cX10_set 82 = .ok (.iadd, 1) := by decide +kernel
theorem dX10_set_83 : decode cX10_set 83 = .ok (.iastore, 1) := by decide +kernel
theorem dX10_set_84 : decode cX10_set 84 = .ok (.aload_n 0, 1) := by decide +kernel
theorem dX10_set_85 : decode cX10_set 85 = .ok (.dup, 1) := by decide +kernel
theorem kw_4_217 : Cond.fieldLink RX10 152 "IceFairModel" "fees" "I" ∈ gw := gw_t4 (List.mem_of_getElem? (i := 217) (by decide +kernel)) (by decide +kernel)
theorem dX10_set_86 : decode cX10_set 86 = .ok (.getfield 152, 3) := by decide +kernel
theorem dX10_set_89 : decode cX10_set 89 = .ok (.aload_n 0, 1) := by decide +kernel
theorem dX10_set_90 : decode cX10_set 90 = .ok (.iload_n 1, 1) := by decide +kernel
theorem kw_5_169 : Cond.methodLink RX10 183 yX10_feeOf ∈ gw := gw_t5 (List.mem_of_getElem? (i := 169) (by decide +kernel)) (by decide +kernel)
theorem kw_5_171 : Cond.instanceMethod yX10_feeOf ∈ gw := gw_t5 (List.mem_of_getElem? (i := 171) (by decide +kernel)) (by decide +kernel)
theorem ks_4_2 : Cond.selects RX10 yX10_feeOf yX10_feeOf ∈ gw := gw_s (y := yX10_feeOf) (n := 37) (List.mem_append_right _ (List.mem_append_right _ (List.mem_append_right _ (List.mem_of_getElem? (i := 2) (by decide +kernel)))))
theorem kw_5_172 : Cond.code yX10_feeOf cX10_feeOf 2 (some .int) ∈ gw := gw_t5 (List.mem_of_getElem? (i := 172) (by decide +kernel)) (by decide +kernel)
theorem gk_X10_183 : GoodIn gw (wsV RX10 183 RX10 yX10_feeOf (.code yX10_feeOf cX10_feeOf 2 (some .int) :: gw)) ∧ (yX10_feeOf.cls = RX10 ∧ yX10_feeOf.cls ≠ "java/lang/invoke/MethodHandle" ∧ yX10_feeOf.cls ≠ "java/lang/invoke/VarHandle" ∧ (parseMethodDescriptor yX10_feeOf.desc).map (fun d => d.parameters.length) = some 1) := ⟨gi_V kw_5_169 kw_5_171 ks_4_2 kw_1_11 kw_5_172, by decide +kernel⟩
theorem dX10_set_91 : decode cX10_set 91 = .ok (.invokevirtual 183, 3) := by decide +kernel
theorem dX10_set_94 : decode cX10_set 94 = .ok (.iadd, 1) := by decide +kernel
theorem dX10_set_95 : decode cX10_set 95 = .ok (.putfield 152, 3) := by decide +kernel
theorem dX10_set_98 : decode cX10_set 98 = .ok (.aload_n 0, 1) := by decide +kernel
theorem dX10_set_99 : decode cX10_set 99 = .ok (.iload_n 1, 1) := by decide +kernel
theorem dX10_set_100 : decode cX10_set 100 = .ok (.invokevirtual 183, 3) := by decide +kernel
theorem dX10_set_103 : decode cX10_set 103 = .ok (.ireturn, 1) := by decide +kernel
theorem dX10_clear_0 : decode cX10_clear 0 = .ok (.aload_n 0, 1) := by decide +kernel
theorem dX10_clear_1 : decode cX10_clear 1 = .ok (.iconst 0, 1) := by decide +kernel
theorem dX10_clear_2 : decode cX10_clear 2 = .ok (.putfield 78, 3) := by decide +kernel
theorem dX10_clear_5 : decode cX10_clear 5 = .ok (.aload_n 0, 1) := by decide +kernel
theorem dX10_clear_6 : decode cX10_clear 6 = .ok (.iload_n 1, 1) := by decide +kernel
theorem dX10_clear_7 : decode cX10_clear 7 = .ok (.iconst 1, 1) := by decide +kernel
theorem dX10_clear_8 : decode cX10_clear 8 = .ok (.invokevirtual 171, 3) := by decide +kernel
theorem dX10_clear_11 : decode cX10_clear 11 = .ok (.ifCond .ne 5, 3) := by decide +kernel
theorem dX10_clear_16 : decode cX10_clear 16 = .ok (.aload_n 0, 1) := by decide +kernel
theorem dX10_clear_17 : decode cX10_clear 17 = .ok (.getfield 51, 3) := by decide +kernel
theorem dX10_clear_20 : decode cX10_clear 20 = .ok (.iload_n 1, 1) := by decide +kernel
theorem dX10_clear_21 : decode cX10_clear 21 = .ok (.iconst 0, 1) := by decide +kernel
theorem dX10_clear_22 : decode cX10_clear 22 = .ok (.iastore, 1) := by decide +kernel
theorem dX10_clear_23 : decode cX10_clear 23 = .ok (.iconst 1, 1) := by decide +kernel
theorem dX10_clear_24 : decode cX10_clear 24 = .ok (.ireturn, 1) := by decide +kernel
theorem dX10_clear_14 : decode cX10_clear 14 = .ok (.iconst 0, 1) := by decide +kernel
theorem dX10_clear_15 : decode cX10_clear 15 = .ok (.ireturn, 1) := by decide +kernel
theorem dX10_feed_23 : decode cX10_feed 23 = .ok (.iload 6, 2) := by decide +kernel
theorem dX10_feed_25 : decode cX10_feed 25 = .ok (.bipush 20, 2) := by decide +kernel
theorem dX10_feed_27 : decode cX10_feed 27 = .ok (.if_icmp .ge 86, 3) := by decide +kernel
theorem dX10_feed_30 : decode cX10_feed 30 = .ok (.iload 6, 2) := by decide +kernel
theorem dX10_feed_32 : decode cX10_feed 32 = .ok (.iconst 4, 1) := by decide +kernel
theorem dX10_feed_33 : decode cX10_feed 33 = .ok (.if_icmp .ge 7, 3) := by decide +kernel
theorem dX10_feed_40 : decode cX10_feed 40 = .ok (.iload 6, 2) := by decide +kernel
theorem dX10_feed_42 : decode cX10_feed 42 = .ok (.bipush 8, 2) := by decide +kernel
theorem dX10_feed_44 : decode cX10_feed 44 = .ok (.if_icmp .ge 7, 3) := by decide +kernel
theorem dX10_feed_51 : decode cX10_feed 51 = .ok (.iload 6, 2) := by decide +kernel
theorem dX10_feed_53 : decode cX10_feed 53 = .ok (.bipush 12, 2) := by decide +kernel
theorem dX10_feed_55 : decode cX10_feed 55 = .ok (.if_icmp .ge 7, 3) := by decide +kernel
theorem dX10_feed_62 : decode cX10_feed 62 = .ok (.iload 6, 2) := by decide +kernel
theorem dX10_feed_64 : decode cX10_feed 64 = .ok (.bipush 16, 2) := by decide +kernel
theorem dX10_feed_66 : decode cX10_feed 66 = .ok (.if_icmp .ge 8, 3) := by decide +kernel
theorem dX10_feed_74 : decode cX10_feed 74 = .ok (.iload 5, 2) := by decide +kernel
theorem dX10_feed_76 : decode cX10_feed 76 = .ok (.istore 7, 2) := by decide +kernel
theorem dX10_feed_78 : decode cX10_feed 78 = .ok (.aload_n 0, 1) := by decide +kernel
theorem dX10_feed_79 : decode cX10_feed 79 = .ok (.getfield 7, 3) := by decide +kernel
theorem dX10_feed_82 : decode cX10_feed 82 = .ok (.aload_n 0, 1) := by decide +kernel
theorem kw_4_196 : Cond.fieldLink RX10 81 "IceFairModel" "tapeSize" "I" ∈ gw := gw_t4 (List.mem_of_getElem? (i := 196) (by decide +kernel)) (by decide +kernel)
theorem dX10_feed_83 : decode cX10_feed 83 = .ok (.getfield 81, 3) := by decide +kernel
theorem dX10_feed_86 : decode cX10_feed 86 = .ok (.iload 6, 2) := by decide +kernel
theorem dX10_feed_88 : decode cX10_feed 88 = .ok (.iadd, 1) := by decide +kernel
theorem dX10_feed_89 : decode cX10_feed 89 = .ok (.iload 7, 2) := by decide +kernel
theorem dX10_feed_91 : decode cX10_feed 91 = .ok (.bipush 24, 2) := by decide +kernel
theorem dX10_feed_93 : decode cX10_feed 93 = .ok (.bipush 8, 2) := by decide +kernel
theorem dX10_feed_95 : decode cX10_feed 95 = .ok (.iload 6, 2) := by decide +kernel
theorem dX10_feed_97 : decode cX10_feed 97 = .ok (.iconst 4, 1) := by decide +kernel
theorem dX10_feed_98 : decode cX10_feed 98 = .ok (.irem, 1) := by decide +kernel
theorem dX10_feed_99 : decode cX10_feed 99 = .ok (.imul, 1) := by decide +kernel
theorem dX10_feed_100 : decode cX10_feed 100 = .ok (.isub, 1) := by decide +kernel
theorem dX10_feed_101 : decode cX10_feed 101 = .ok (.ishr, 1) := by decide +kernel
theorem dX10_feed_102 : decode cX10_feed 102 = .ok (.sipush 255, 3) := by decide +kernel
theorem dX10_feed_105 : decode cX10_feed 105 = .ok (.iand, 1) := by decide +kernel
theorem dX10_feed_106 : decode cX10_feed 106 = .ok (.iastore, 1) := by decide +kernel
theorem dX10_feed_107 : decode cX10_feed 107 = .ok (.iinc 6 1, 3) := by decide +kernel
theorem dX10_feed_110 : decode cX10_feed 110 = .ok (.goto (-87), 3) := by decide +kernel
theorem dX10_feed_69 : decode cX10_feed 69 = .ok (.iload 4, 2) := by decide +kernel
theorem dX10_feed_71 : decode cX10_feed 71 = .ok (.goto 5, 3) := by decide +kernel
theorem dX10_feed_58 : decode cX10_feed 58 = .ok (.iload_n 3, 1) := by decide +kernel
theorem dX10_feed_59 : decode cX10_feed 59 = .ok (.goto 17, 3) := by decide +kernel
theorem dX10_feed_47 : decode cX10_feed 47 = .ok (.iload_n 2, 1) := by decide +kernel
theorem dX10_feed_48 : decode cX10_feed 48 = .ok (.goto 28, 3) := by decide +kernel
theorem dX10_feed_36 : decode cX10_feed 36 = .ok (.iload_n 1, 1) := by decide +kernel
theorem dX10_feed_37 : decode cX10_feed 37 = .ok (.goto 39, 3) := by decide +kernel
theorem dX10_feed_0 : decode cX10_feed 0 = .ok (.aload_n 0, 1) := by decide +kernel
theorem dX10_feed_1 : decode cX10_feed 1 = .ok (.iconst 0, 1) := by decide +kernel
theorem dX10_feed_2 : decode cX10_feed 2 = .ok (.putfield 78, 3) := by decide +kernel
theorem dX10_feed_5 : decode cX10_feed 5 = .ok (.aload_n 0, 1) := by decide +kernel
theorem dX10_feed_6 : decode cX10_feed 6 = .ok (.getfield 81, 3) := by decide +kernel
theorem dX10_feed_9 : decode cX10_feed 9 = .ok (.bipush 20, 2) := by decide +kernel
theorem dX10_feed_11 : decode cX10_feed 11 = .ok (.iadd, 1) := by decide +kernel
theorem dX10_feed_12 : decode cX10_feed 12 = .ok (.sipush 400, 3) := by decide +kernel
theorem dX10_feed_15 : decode cX10_feed 15 = .ok (.if_icmp .le 5, 3) := by decide +kernel
theorem dX10_feed_20 : decode cX10_feed 20 = .ok (.iconst 0, 1) := by decide +kernel
theorem dX10_feed_21 : decode cX10_feed 21 = .ok (.istore 6, 2) := by decide +kernel
theorem dX10_feed_113 : decode cX10_feed 113 = .ok (.aload_n 0, 1) := by decide +kernel
theorem dX10_feed_114 : decode cX10_feed 114 = .ok (.dup, 1) := by decide +kernel
theorem dX10_feed_115 : decode cX10_feed 115 = .ok (.getfield 81, 3) := by decide +kernel
theorem dX10_feed_118 : decode cX10_feed 118 = .ok (.bipush 20, 2) := by decide +kernel
theorem dX10_feed_120 : decode cX10_feed 120 = .ok (.iadd, 1) := by decide +kernel
theorem dX10_feed_121 : decode cX10_feed 121 = .ok (.putfield 81, 3) := by decide +kernel
theorem dX10_feed_124 : decode cX10_feed 124 = .ok (.aload_n 0, 1) := by decide +kernel
theorem dX10_feed_125 : decode cX10_feed 125 = .ok (.getfield 81, 3) := by decide +kernel
theorem dX10_feed_128 : decode cX10_feed 128 = .ok (.ireturn, 1) := by decide +kernel
theorem dX10_feed_18 : decode cX10_feed 18 = .ok (.iconst (-1), 1) := by decide +kernel
theorem dX10_feed_19 : decode cX10_feed 19 = .ok (.ireturn, 1) := by decide +kernel
theorem dX10_fault_0 : decode cX10_fault 0 = .ok (.aload_n 0, 1) := by decide +kernel
theorem dX10_fault_1 : decode cX10_fault 1 = .ok (.iconst 0, 1) := by decide +kernel
theorem dX10_fault_2 : decode cX10_fault 2 = .ok (.putfield 78, 3) := by decide +kernel
theorem dX10_fault_5 : decode cX10_fault 5 = .ok (.iload_n 1, 1) := by decide +kernel
theorem dX10_fault_6 : decode cX10_fault 6 = .ok (.ifCond .ne 10, 3) := by decide +kernel
theorem dX10_fault_16 : decode cX10_fault 16 = .ok (.iload_n 1, 1) := by decide +kernel
theorem dX10_fault_17 : decode cX10_fault 17 = .ok (.iconst 1, 1) := by decide +kernel
theorem dX10_fault_18 : decode cX10_fault 18 = .ok (.if_icmp .ne 10, 3) := by decide +kernel
theorem dX10_fault_28 : decode cX10_fault 28 = .ok (.iconst (-1), 1) := by decide +kernel
theorem dX10_fault_29 : decode cX10_fault 29 = .ok (.ireturn, 1) := by decide +kernel
theorem dX10_fault_21 : decode cX10_fault 21 = .ok (.aload_n 0, 1) := by decide +kernel
theorem dX10_fault_22 : decode cX10_fault 22 = .ok (.getfield 22, 3) := by decide +kernel
theorem dX10_fault_25 : decode cX10_fault 25 = .ok (.goto 4, 3) := by decide +kernel
theorem dX10_fault_9 : decode cX10_fault 9 = .ok (.aload_n 0, 1) := by decide +kernel
theorem kw_4_203 : Cond.fieldLink RX10 84 "IceFairModel" "fault" "I" ∈ gw := gw_t4 (List.mem_of_getElem? (i := 203) (by decide +kernel)) (by decide +kernel)
theorem dX10_fault_10 : decode cX10_fault 10 = .ok (.getfield 84, 3) := by decide +kernel
theorem dX10_fault_13 : decode cX10_fault 13 = .ok (.goto 16, 3) := by decide +kernel
theorem dX10_ice_41 : decode cX10_ice 41 = .ok (.iload_n 3, 1) := by decide +kernel
theorem dX10_ice_42 : decode cX10_ice 42 = .ok (.bipush 100, 2) := by decide +kernel
theorem dX10_ice_44 : decode cX10_ice 44 = .ok (.if_icmp .ge 30, 3) := by decide +kernel
theorem dX10_ice_47 : decode cX10_ice 47 = .ok (.aload_n 0, 1) := by decide +kernel
theorem dX10_ice_48 : decode cX10_ice 48 = .ok (.getfield 32, 3) := by decide +kernel
theorem dX10_ice_51 : decode cX10_ice 51 = .ok (.iload_n 3, 1) := by decide +kernel
theorem dX10_ice_52 : decode cX10_ice 52 = .ok (.iconst 0, 1) := by decide +kernel
theorem dX10_ice_53 : decode cX10_ice 53 = .ok (.iastore, 1) := by decide +kernel
theorem dX10_ice_54 : decode cX10_ice 54 = .ok (.aload_n 0, 1) := by decide +kernel
theorem dX10_ice_55 : decode cX10_ice 55 = .ok (.getfield 35, 3) := by decide +kernel
theorem dX10_ice_58 : decode cX10_ice 58 = .ok (.iload_n 3, 1) := by decide +kernel
theorem dX10_ice_59 : decode cX10_ice 59 = .ok (.iconst 0, 1) := by decide +kernel
theorem dX10_ice_60 : decode cX10_ice 60 = .ok (.iastore, 1) := by decide +kernel
theorem dX10_ice_61 : decode cX10_ice 61 = .ok (.aload_n 0, 1) := by decide +kernel
theorem dX10_ice_62 : decode cX10_ice 62 = .ok (.getfield 38, 3) := by decide +kernel
theorem dX10_ice_65 : decode cX10_ice 65 = .ok (.iload_n 3, 1) := by decide +kernel
theorem dX10_ice_66 : decode cX10_ice 66 = .ok (.iconst 0, 1) := by decide +kernel
theorem dX10_ice_67 : decode cX10_ice 67 = .ok (.bastore, 1) := by decide +kernel
theorem dX10_ice_68 : decode cX10_ice 68 = .ok (.iinc 3 1, 3) := by decide +kernel
theorem dX10_ice_71 : decode cX10_ice 71 = .ok (.goto (-30), 3) := by decide +kernel
theorem dX10_ice_0 : decode cX10_ice 0 = .ok (.aload_n 0, 1) := by decide +kernel
theorem dX10_ice_1 : decode cX10_ice 1 = .ok (.iconst 0, 1) := by decide +kernel
theorem dX10_ice_2 : decode cX10_ice 2 = .ok (.putfield 78, 3) := by decide +kernel
theorem dX10_ice_5 : decode cX10_ice 5 = .ok (.iload_n 1, 1) := by decide +kernel
theorem dX10_ice_6 : decode cX10_ice 6 = .ok (.iconst 3, 1) := by decide +kernel
theorem dX10_ice_7 : decode cX10_ice 7 = .ok (.if_icmp .lt 20, 3) := by decide +kernel
theorem dX10_ice_27 : decode cX10_ice 27 = .ok (.iconst 0, 1) := by decide +kernel
theorem dX10_ice_28 : decode cX10_ice 28 = .ok (.ireturn, 1) := by decide +kernel
theorem dX10_ice_10 : decode cX10_ice 10 = .ok (.iload_n 1, 1) := by decide +kernel
theorem dX10_ice_11 : decode cX10_ice 11 = .ok (.bipush 10, 2) := by decide +kernel
theorem dX10_ice_13 : decode cX10_ice 13 = .ok (.if_icmp .gt 14, 3) := by decide +kernel
theorem dX10_ice_16 : decode cX10_ice 16 = .ok (.iload_n 2, 1) := by decide +kernel
theorem dX10_ice_17 : decode cX10_ice 17 = .ok (.iconst 3, 1) := by decide +kernel
theorem dX10_ice_18 : decode cX10_ice 18 = .ok (.if_icmp .lt 9, 3) := by decide +kernel
theorem dX10_ice_21 : decode cX10_ice 21 = .ok (.iload_n 2, 1) := by decide +kernel
theorem dX10_ice_22 : decode cX10_ice 22 = .ok (.bipush 10, 2) := by decide +kernel
theorem dX10_ice_24 : decode cX10_ice 24 = .ok (.if_icmp .le 5, 3) := by decide +kernel
theorem dX10_ice_29 : decode cX10_ice 29 = .ok (.aload_n 0, 1) := by decide +kernel
theorem dX10_ice_30 : decode cX10_ice 30 = .ok (.iload_n 1, 1) := by decide +kernel
theorem dX10_ice_31 : decode cX10_ice 31 = .ok (.putfield 26, 3) := by decide +kernel
theorem dX10_ice_34 : decode cX10_ice 34 = .ok (.aload_n 0, 1) := by decide +kernel
theorem dX10_ice_35 : decode cX10_ice 35 = .ok (.iload_n 2, 1) := by decide +kernel
theorem dX10_ice_36 : decode cX10_ice 36 = .ok (.putfield 29, 3) := by decide +kernel
theorem dX10_ice_39 : decode cX10_ice 39 = .ok (.iconst 0, 1) := by decide +kernel
theorem dX10_ice_40 : decode cX10_ice 40 = .ok (.istore_n 3, 1) := by decide +kernel
theorem dX10_ice_74 : decode cX10_ice 74 = .ok (.aload_n 0, 1) := by decide +kernel
theorem dX10_ice_75 : decode cX10_ice 75 = .ok (.iconst 0, 1) := by decide +kernel
theorem dX10_ice_76 : decode cX10_ice 76 = .ok (.putfield 146, 3) := by decide +kernel
theorem dX10_ice_79 : decode cX10_ice 79 = .ok (.aload_n 0, 1) := by decide +kernel
theorem dX10_ice_80 : decode cX10_ice 80 = .ok (.iconst 0, 1) := by decide +kernel
theorem kw_4_216 : Cond.fieldLink RX10 149 "IceFairModel" "hours" "I" ∈ gw := gw_t4 (List.mem_of_getElem? (i := 216) (by decide +kernel)) (by decide +kernel)
theorem dX10_ice_81 : decode cX10_ice 81 = .ok (.putfield 149, 3) := by decide +kernel
theorem dX10_ice_84 : decode cX10_ice 84 = .ok (.aload_n 0, 1) := by decide +kernel
theorem dX10_ice_85 : decode cX10_ice 85 = .ok (.iconst 0, 1) := by decide +kernel
theorem dX10_ice_86 : decode cX10_ice 86 = .ok (.putfield 152, 3) := by decide +kernel
theorem dX10_ice_89 : decode cX10_ice 89 = .ok (.iconst 1, 1) := by decide +kernel
theorem dX10_ice_90 : decode cX10_ice 90 = .ok (.ireturn, 1) := by decide +kernel
theorem dX10_sound_69 : decode cX10_sound 69 = .ok (.iload 8, 2) := by decide +kernel
theorem dX10_sound_71 : decode cX10_sound 71 = .ok (.iload_n 3, 1) := by decide +kernel
theorem dX10_sound_72 : decode cX10_sound 72 = .ok (.if_icmp .gt 39, 3) := by decide +kernel
theorem dX10_sound_75 : decode cX10_sound 75 = .ok (.aload_n 0, 1) := by decide +kernel
theorem dX10_sound_76 : decode cX10_sound 76 = .ok (.getfield 32, 3) := by decide +kernel
theorem dX10_sound_79 : decode cX10_sound 79 = .ok (.bipush 10, 2) := by decide +kernel
theorem dX10_sound_81 : decode cX10_sound 81 = .ok (.iload 7, 2) := by decide +kernel
theorem dX10_sound_83 : decode cX10_sound 83 = .ok (.imul, 1) := by decide +kernel
theorem dX10_sound_84 : decode cX10_sound 84 = .ok (.iload 8, 2) := by decide +kernel
theorem dX10_sound_86 : decode cX10_sound 86 = .ok (.iadd, 1) := by decide +kernel
theorem dX10_sound_87 : decode cX10_sound 87 = .ok (.iload 5, 2) := by decide +kernel
theorem dX10_sound_89 : decode cX10_sound 89 = .ok (.iastore, 1) := by decide +kernel
theorem dX10_sound_90 : decode cX10_sound 90 = .ok (.aload_n 0, 1) := by decide +kernel
theorem dX10_sound_91 : decode cX10_sound 91 = .ok (.getfield 35, 3) := by decide +kernel
theorem dX10_sound_94 : decode cX10_sound 94 = .ok (.bipush 10, 2) := by decide +kernel
theorem dX10_sound_96 : decode cX10_sound 96 = .ok (.iload 7, 2) := by decide +kernel
theorem dX10_sound_98 : decode cX10_sound 98 = .ok (.imul, 1) := by decide +kernel
theorem dX10_sound_99 : decode cX10_sound 99 = .ok (.iload 8, 2) := by decide +kernel
theorem dX10_sound_101 : decode cX10_sound 101 = .ok (.iadd, 1) := by decide +kernel
theorem dX10_sound_102 : decode cX10_sound 102 = .ok (.iload 6, 2) := by decide +kernel
theorem dX10_sound_104 : decode cX10_sound 104 = .ok (.iastore, 1) := by decide +kernel
theorem dX10_sound_105 : decode cX10_sound 105 = .ok (.iinc 8 1, 3) := by decide +kernel
theorem dX10_sound_108 : decode cX10_sound 108 = .ok (.goto (-39), 3) := by decide +kernel
theorem dX10_sound_59 : decode cX10_sound 59 = .ok (.iload 7, 2) := by decide +kernel
theorem dX10_sound_61 : decode cX10_sound 61 = .ok (.iload 4, 2) := by decide +kernel
theorem dX10_sound_63 : decode cX10_sound 63 = .ok (.if_icmp .gt 54, 3) := by decide +kernel
theorem dX10_sound_66 : decode cX10_sound 66 = .ok (.iload_n 1, 1) := by decide +kernel
theorem dX10_sound_67 : decode cX10_sound 67 = .ok (.istore 8, 2) := by decide +kernel
theorem dX10_sound_111 : decode cX10_sound 111 = .ok (.iinc 7 1, 3) := by decide +kernel
theorem dX10_sound_114 : decode cX10_sound 114 = .ok (.goto (-55), 3) := by decide +kernel
theorem dX10_sound_0 : decode cX10_sound 0 = .ok (.aload_n 0, 1) := by decide +kernel
theorem dX10_sound_1 : decode cX10_sound 1 = .ok (.iconst 0, 1) := by decide +kernel
theorem dX10_sound_2 : decode cX10_sound 2 = .ok (.putfield 78, 3) := by decide +kernel
theorem dX10_sound_5 : decode cX10_sound 5 = .ok (.aload_n 0, 1) := by decide +kernel
theorem dX10_sound_6 : decode cX10_sound 6 = .ok (.iload_n 1, 1) := by decide +kernel
theorem dX10_sound_7 : decode cX10_sound 7 = .ok (.iload_n 2, 1) := by decide +kernel
theorem dX10_sound_8 : decode cX10_sound 8 = .ok (.invokevirtual 155, 3) := by decide +kernel
theorem dX10_sound_11 : decode cX10_sound 11 = .ok (.ifCond .eq 43, 3) := by decide +kernel
theorem dX10_sound_54 : decode cX10_sound 54 = .ok (.iconst 0, 1) := by decide +kernel
theorem dX10_sound_55 : decode cX10_sound 55 = .ok (.ireturn, 1) := by decide +kernel
theorem dX10_sound_14 : decode cX10_sound 14 = .ok (.aload_n 0, 1) := by decide +kernel
theorem dX10_sound_15 : decode cX10_sound 15 = .ok (.iload_n 3, 1) := by decide +kernel
theorem dX10_sound_16 : decode cX10_sound 16 = .ok (.iload 4, 2) := by decide +kernel
theorem dX10_sound_18 : decode cX10_sound 18 = .ok (.invokevirtual 155, 3) := by decide +kernel
theorem dX10_sound_21 : decode cX10_sound 21 = .ok (.ifCond .eq 33, 3) := by decide +kernel
theorem dX10_sound_24 : decode cX10_sound 24 = .ok (.iload_n 1, 1) := by decide +kernel
theorem dX10_sound_25 : decode cX10_sound 25 = .ok (.iload_n 3, 1) := by decide +kernel
theorem dX10_sound_26 : decode cX10_sound 26 = .ok (.if_icmp .gt 28, 3) := by decide +kernel
theorem dX10_sound_29 : decode cX10_sound 29 = .ok (.iload_n 2, 1) := by decide +kernel
theorem dX10_sound_30 : decode cX10_sound 30 = .ok (.iload 4, 2) := by decide +kernel
theorem dX10_sound_32 : decode cX10_sound 32 = .ok (.if_icmp .gt 22, 3) := by decide +kernel
theorem dX10_sound_35 : decode cX10_sound 35 = .ok (.iload 5, 2) := by decide +kernel
theorem dX10_sound_37 : decode cX10_sound 37 = .ok (.ifCond .lt 17, 3) := by decide +kernel
theorem dX10_sound_40 : decode cX10_sound 40 = .ok (.iload 5, 2) := by decide +kernel
theorem dX10_sound_42 : decode cX10_sound 42 = .ok (.iload 6, 2) := by decide +kernel
theorem dX10_sound_44 : decode cX10_sound 44 = .ok (.if_icmp .gt 10, 3) := by decide +kernel
theorem dX10_sound_47 : decode cX10_sound 47 = .ok (.iload 6, 2) := by decide +kernel
theorem dX10_sound_49 : decode cX10_sound 49 = .ok (.bipush 99, 2) := by decide +kernel
theorem dX10_sound_51 : decode cX10_sound 51 = .ok (.if_icmp .le 5, 3) := by decide +kernel
theorem dX10_sound_56 : decode cX10_sound 56 = .ok (.iload_n 2, 1) := by decide +kernel
theorem dX10_sound_57 : decode cX10_sound 57 = .ok (.istore 7, 2) := by decide +kernel
theorem dX10_sound_117 : decode cX10_sound 117 = .ok (.iconst 1, 1) := by decide +kernel
theorem dX10_sound_118 : decode cX10_sound 118 = .ok (.ireturn, 1) := by decide +kernel
theorem dX10_booth_0 : decode cX10_booth 0 = .ok (.aload_n 0, 1) := by decide +kernel
theorem dX10_booth_1 : decode cX10_booth 1 = .ok (.iconst 0, 1) := by decide +kernel
theorem dX10_booth_2 : decode cX10_booth 2 = .ok (.putfield 78, 3) := by decide +kernel
theorem dX10_booth_5 : decode cX10_booth 5 = .ok (.aload_n 0, 1) := by decide +kernel
theorem dX10_booth_6 : decode cX10_booth 6 = .ok (.getfield 146, 3) := by decide +kernel
theorem dX10_booth_9 : decode cX10_booth 9 = .ok (.bipush 10, 2) := by decide +kernel
theorem dX10_booth_11 : decode cX10_booth 11 = .ok (.if_icmp .eq 24, 3) := by decide +kernel
theorem dX10_booth_35 : decode cX10_booth 35 = .ok (.iconst (-1), 1) := by decide +kernel
theorem dX10_booth_36 : decode cX10_booth 36 = .ok (.ireturn, 1) := by decide +kernel
theorem dX10_booth_14 : decode cX10_booth 14 = .ok (.iload_n 1, 1) := by decide +kernel
theorem dX10_booth_15 : decode cX10_booth 15 = .ok (.iconst 1, 1) := by decide +kernel
theorem dX10_booth_16 : decode cX10_booth 16 = .ok (.if_icmp .lt 19, 3) := by decide +kernel
theorem dX10_booth_19 : decode cX10_booth 19 = .ok (.iload_n 1, 1) := by decide +kernel
theorem dX10_booth_20 : decode cX10_booth 20 = .ok (.bipush 50, 2) := by decide +kernel
theorem dX10_booth_22 : decode cX10_booth 22 = .ok (.if_icmp .gt 13, 3) := by decide +kernel
theorem dX10_booth_25 : decode cX10_booth 25 = .ok (.iload_n 3, 1) := by decide +kernel
theorem dX10_booth_26 : decode cX10_booth 26 = .ok (.ifCond .lt 9, 3) := by decide +kernel
theorem dX10_booth_29 : decode cX10_booth 29 = .ok (.iload_n 3, 1) := by decide +kernel
theorem dX10_booth_30 : decode cX10_booth 30 = .ok (.bipush 99, 2) := by decide +kernel
theorem dX10_booth_32 : decode cX10_booth 32 = .ok (.if_icmp .le 5, 3) := by decide +kernel
theorem dX10_booth_37 : decode cX10_booth 37 = .ok (.aload_n 0, 1) := by decide +kernel
theorem dX10_booth_38 : decode cX10_booth 38 = .ok (.getfield 42, 3) := by decide +kernel
theorem dX10_booth_41 : decode cX10_booth 41 = .ok (.aload_n 0, 1) := by decide +kernel
theorem dX10_booth_42 : decode cX10_booth 42 = .ok (.getfield 146, 3) := by decide +kernel
theorem dX10_booth_45 : decode cX10_booth 45 = .ok (.iload_n 1, 1) := by decide +kernel
theorem dX10_booth_46 : decode cX10_booth 46 = .ok (.iastore, 1) := by decide +kernel
theorem dX10_booth_47 : decode cX10_booth 47 = .ok (.aload_n 0, 1) := by decide +kernel
theorem dX10_booth_48 : decode cX10_booth 48 = .ok (.getfield 45, 3) := by decide +kernel
theorem dX10_booth_51 : decode cX10_booth 51 = .ok (.aload_n 0, 1) := by decide +kernel
theorem dX10_booth_52 : decode cX10_booth 52 = .ok (.getfield 146, 3) := by decide +kernel
theorem dX10_booth_55 : decode cX10_booth 55 = .ok (.iload_n 2, 1) := by decide +kernel
theorem dX10_booth_56 : decode cX10_booth 56 = .ok (.bastore, 1) := by decide +kernel
theorem dX10_booth_57 : decode cX10_booth 57 = .ok (.aload_n 0, 1) := by decide +kernel
theorem dX10_booth_58 : decode cX10_booth 58 = .ok (.getfield 48, 3) := by decide +kernel
theorem dX10_booth_61 : decode cX10_booth 61 = .ok (.aload_n 0, 1) := by decide +kernel
theorem dX10_booth_62 : decode cX10_booth 62 = .ok (.getfield 146, 3) := by decide +kernel
theorem dX10_booth_65 : decode cX10_booth 65 = .ok (.iload_n 3, 1) := by decide +kernel
theorem dX10_booth_66 : decode cX10_booth 66 = .ok (.iastore, 1) := by decide +kernel
theorem dX10_booth_67 : decode cX10_booth 67 = .ok (.aload_n 0, 1) := by decide +kernel
theorem dX10_booth_68 : decode cX10_booth 68 = .ok (.getfield 51, 3) := by decide +kernel
theorem dX10_booth_71 : decode cX10_booth 71 = .ok (.aload_n 0, 1) := by decide +kernel
theorem dX10_booth_72 : decode cX10_booth 72 = .ok (.getfield 146, 3) := by decide +kernel
theorem dX10_booth_75 : decode cX10_booth 75 = .ok (.iconst 0, 1) := by decide +kernel
theorem dX10_booth_76 : decode cX10_booth 76 = .ok (.iastore, 1) := by decide +kernel
theorem dX10_booth_77 : decode cX10_booth 77 = .ok (.aload_n 0, 1) := by decide +kernel
theorem dX10_booth_78 : decode cX10_booth 78 = .ok (.dup, 1) := by decide +kernel
theorem dX10_booth_79 : decode cX10_booth 79 = .ok (.getfield 146, 3) := by decide +kernel
theorem dX10_booth_82 : decode cX10_booth 82 = .ok (.iconst 1, 1) := by decide +kernel
theorem dX10_booth_83 : decode cX10_booth 83 = .ok (.iadd, 1) := by decide +kernel
theorem dX10_booth_84 : decode cX10_booth 84 = .ok (.putfield 146, 3) := by decide +kernel
theorem dX10_booth_87 : decode cX10_booth 87 = .ok (.aload_n 0, 1) := by decide +kernel
theorem dX10_booth_88 : decode cX10_booth 88 = .ok (.getfield 146, 3) := by decide +kernel
theorem dX10_booth_91 : decode cX10_booth 91 = .ok (.iconst 1, 1) := by decide +kernel
theorem dX10_booth_92 : decode cX10_booth 92 = .ok (.isub, 1) := by decide +kernel
theorem dX10_booth_93 : decode cX10_booth 93 = .ok (.ireturn, 1) := by decide +kernel
