theorem dL_law_116 : decode cL_law 116 = .ok (.aload_n 1, 1) := by decide +kernel
theorem dL_law_117 : decode cL_law 117 = .ok (.aload_n 0, 1) := by decide +kernel
theorem dL_law_118 : decode cL_law 118 = .ok (.iload 4, 2) := by decide +kernel
theorem dL_law_120 : decode cL_law 120 = .ok (.iconst 1, 1) := by decide +kernel
theorem dL_law_121 : decode cL_law 121 = .ok (.iadd, 1) := by decide +kernel
theorem dL_law_122 : decode cL_law 122 = .ok (.iaload, 1) := by decide +kernel
theorem dL_law_123 : decode cL_law 123 = .ok (.aload_n 0, 1) := by decide +kernel
theorem dL_law_124 : decode cL_law 124 = .ok (.iload 4, 2) := by decide +kernel
theorem dL_law_126 : decode cL_law 126 = .ok (.iconst 2, 1) := by decide +kernel
theorem dL_law_127 : decode cL_law 127 = .ok (.iadd, 1) := by decide +kernel
theorem dL_law_128 : decode cL_law 128 = .ok (.iaload, 1) := by decide +kernel
theorem dL_law_129 : decode cL_law 129 = .ok (.aload_n 0, 1) := by decide +kernel
theorem dL_law_130 : decode cL_law 130 = .ok (.iload 4, 2) := by decide +kernel
theorem dL_law_132 : decode cL_law 132 = .ok (.iconst 3, 1) := by decide +kernel
theorem dL_law_133 : decode cL_law 133 = .ok (.iadd, 1) := by decide +kernel
theorem dL_law_134 : decode cL_law 134 = .ok (.iaload, 1) := by decide +kernel
theorem dL_law_135 : decode cL_law 135 = .ok (.aload_n 0, 1) := by decide +kernel
theorem dL_law_136 : decode cL_law 136 = .ok (.iload 4, 2) := by decide +kernel
theorem dL_law_138 : decode cL_law 138 = .ok (.iconst 4, 1) := by decide +kernel
theorem dL_law_139 : decode cL_law 139 = .ok (.iadd, 1) := by decide +kernel
theorem dL_law_140 : decode cL_law 140 = .ok (.iaload, 1) := by decide +kernel
theorem dL_law_141 : decode cL_law 141 = .ok (.aload_n 0, 1) := by decide +kernel
theorem dL_law_142 : decode cL_law 142 = .ok (.iload 4, 2) := by decide +kernel
theorem dL_law_144 : decode cL_law 144 = .ok (.iconst 5, 1) := by decide +kernel
theorem dL_law_145 : decode cL_law 145 = .ok (.iadd, 1) := by decide +kernel
theorem dL_law_146 : decode cL_law 146 = .ok (.iaload, 1) := by decide +kernel
theorem kw_2_86 : Cond.methodLink RL 25 yX9_feed ∈ gw := gw_t2 (List.mem_of_getElem? (i := 86) (by decide +kernel)) (by decide +kernel)
theorem kw_2_87 : Cond.instanceMethod yX9_feed ∈ gw := gw_t2 (List.mem_of_getElem? (i := 87) (by decide +kernel)) (by decide +kernel)
theorem kw_2_88 : Cond.selects RX9 yX9_feed yX9_feed ∈ gw := gw_t2 (List.mem_of_getElem? (i := 88) (by decide +kernel)) (by decide +kernel)
theorem kw_2_89 : Cond.code yX9_feed cX9_feed 6 (some .int) ∈ gw := gw_t2 (List.mem_of_getElem? (i := 89) (by decide +kernel)) (by decide +kernel)
theorem gk_L_25 : GoodIn gw (wsV RL 25 RX9 yX9_feed (.code yX9_feed cX9_feed 6 (some .int) :: gw)) ∧ (yX9_feed.cls = RX9 ∧ yX9_feed.cls ≠ "java/lang/invoke/MethodHandle" ∧ yX9_feed.cls ≠ "java/lang/invoke/VarHandle" ∧ (parseMethodDescriptor yX9_feed.desc).map (fun d => d.parameters.length) = some 5) := ⟨gi_V kw_2_86 kw_2_87 kw_2_88 kw_1_1 kw_2_89, by decide +kernel⟩
theorem dL_law_147 : decode cL_law 147 = .ok (.invokevirtual 25, 3) := by decide +kernel
theorem dL_law_150 : decode cL_law 150 = .ok (.pop, 1) := by decide +kernel
theorem dL_law_151 : decode cL_law 151 = .ok (.aload_n 2, 1) := by decide +kernel
theorem dL_law_152 : decode cL_law 152 = .ok (.aload_n 0, 1) := by decide +kernel
theorem dL_law_153 : decode cL_law 153 = .ok (.iload 4, 2) := by decide +kernel
theorem dL_law_155 : decode cL_law 155 = .ok (.iconst 1, 1) := by decide +kernel
theorem dL_law_156 : decode cL_law 156 = .ok (.iadd, 1) := by decide +kernel
theorem dL_law_157 : decode cL_law 157 = .ok (.iaload, 1) := by decide +kernel
theorem dL_law_158 : decode cL_law 158 = .ok (.aload_n 0, 1) := by decide +kernel
theorem dL_law_159 : decode cL_law 159 = .ok (.iload 4, 2) := by decide +kernel
theorem dL_law_161 : decode cL_law 161 = .ok (.iconst 2, 1) := by decide +kernel
theorem dL_law_162 : decode cL_law 162 = .ok (.iadd, 1) := by decide +kernel
theorem dL_law_163 : decode cL_law 163 = .ok (.iaload, 1) := by decide +kernel
theorem dL_law_164 : decode cL_law 164 = .ok (.aload_n 0, 1) := by decide +kernel
theorem dL_law_165 : decode cL_law 165 = .ok (.iload 4, 2) := by decide +kernel
theorem dL_law_167 : decode cL_law 167 = .ok (.iconst 3, 1) := by decide +kernel
theorem dL_law_168 : decode cL_law 168 = .ok (.iadd, 1) := by decide +kernel
theorem dL_law_169 : decode cL_law 169 = .ok (.iaload, 1) := by decide +kernel
theorem dL_law_170 : decode cL_law 170 = .ok (.aload_n 0, 1) := by decide +kernel
theorem dL_law_171 : decode cL_law 171 = .ok (.iload 4, 2) := by decide +kernel
theorem dL_law_173 : decode cL_law 173 = .ok (.iconst 4, 1) := by decide +kernel
theorem dL_law_174 : decode cL_law 174 = .ok (.iadd, 1) := by decide +kernel
theorem dL_law_175 : decode cL_law 175 = .ok (.iaload, 1) := by decide +kernel
theorem dL_law_176 : decode cL_law 176 = .ok (.aload_n 0, 1) := by decide +kernel
theorem dL_law_177 : decode cL_law 177 = .ok (.iload 4, 2) := by decide +kernel
theorem dL_law_179 : decode cL_law 179 = .ok (.iconst 5, 1) := by decide +kernel
theorem dL_law_180 : decode cL_law 180 = .ok (.iadd, 1) := by decide +kernel
theorem dL_law_181 : decode cL_law 181 = .ok (.iaload, 1) := by decide +kernel
theorem kw_5_67 : Cond.methodLink RL 29 yX10_feed ∈ gw := gw_t5 (List.mem_of_getElem? (i := 67) (by decide +kernel)) (by decide +kernel)
theorem kw_5_68 : Cond.instanceMethod yX10_feed ∈ gw := gw_t5 (List.mem_of_getElem? (i := 68) (by decide +kernel)) (by decide +kernel)
theorem kw_5_69 : Cond.selects RX10 yX10_feed yX10_feed ∈ gw := gw_t5 (List.mem_of_getElem? (i := 69) (by decide +kernel)) (by decide +kernel)
theorem kw_5_70 : Cond.code yX10_feed cX10_feed 8 (some .int) ∈ gw := gw_t5 (List.mem_of_getElem? (i := 70) (by decide +kernel)) (by decide +kernel)
theorem gk_L_29 : GoodIn gw (wsV RL 29 RX10 yX10_feed (.code yX10_feed cX10_feed 8 (some .int) :: gw)) ∧ (yX10_feed.cls = RX10 ∧ yX10_feed.cls ≠ "java/lang/invoke/MethodHandle" ∧ yX10_feed.cls ≠ "java/lang/invoke/VarHandle" ∧ (parseMethodDescriptor yX10_feed.desc).map (fun d => d.parameters.length) = some 5) := ⟨gi_V kw_5_67 kw_5_68 kw_5_69 kw_1_11 kw_5_70, by decide +kernel⟩
theorem dL_law_182 : decode cL_law 182 = .ok (.invokevirtual 29, 3) := by decide +kernel
theorem dL_law_185 : decode cL_law 185 = .ok (.pop, 1) := by decide +kernel
theorem dL_law_186 : decode cL_law 186 = .ok (.goto 497, 3) := by decide +kernel
theorem dL_law_189 : decode cL_law 189 = .ok (.aload_n 1, 1) := by decide +kernel
theorem dL_law_190 : decode cL_law 190 = .ok (.aload_n 0, 1) := by decide +kernel
theorem dL_law_191 : decode cL_law 191 = .ok (.iload 4, 2) := by decide +kernel
theorem dL_law_193 : decode cL_law 193 = .ok (.iconst 1, 1) := by decide +kernel
theorem dL_law_194 : decode cL_law 194 = .ok (.iadd, 1) := by decide +kernel
theorem dL_law_195 : decode cL_law 195 = .ok (.iaload, 1) := by decide +kernel
theorem kw_2_94 : Cond.methodLink RL 30 yX9_customs ∈ gw := gw_t2 (List.mem_of_getElem? (i := 94) (by decide +kernel)) (by decide +kernel)
theorem kw_2_95 : Cond.instanceMethod yX9_customs ∈ gw := gw_t2 (List.mem_of_getElem? (i := 95) (by decide +kernel)) (by decide +kernel)
theorem kw_2_96 : Cond.selects RX9 yX9_customs yX9_customs ∈ gw := gw_t2 (List.mem_of_getElem? (i := 96) (by decide +kernel)) (by decide +kernel)
theorem kw_2_97 : Cond.code yX9_customs cX9_customs 3 (some .int) ∈ gw := gw_t2 (List.mem_of_getElem? (i := 97) (by decide +kernel)) (by decide +kernel)
theorem gk_L_30 : GoodIn gw (wsV RL 30 RX9 yX9_customs (.code yX9_customs cX9_customs 3 (some .int) :: gw)) ∧ (yX9_customs.cls = RX9 ∧ yX9_customs.cls ≠ "java/lang/invoke/MethodHandle" ∧ yX9_customs.cls ≠ "java/lang/invoke/VarHandle" ∧ (parseMethodDescriptor yX9_customs.desc).map (fun d => d.parameters.length) = some 1) := ⟨gi_V kw_2_94 kw_2_95 kw_2_96 kw_1_1 kw_2_97, by decide +kernel⟩
theorem dL_law_196 : decode cL_law 196 = .ok (.invokevirtual 30, 3) := by decide +kernel
theorem dL_law_199 : decode cL_law 199 = .ok (.pop, 1) := by decide +kernel
theorem dL_law_200 : decode cL_law 200 = .ok (.aload_n 2, 1) := by decide +kernel
theorem dL_law_201 : decode cL_law 201 = .ok (.aload_n 0, 1) := by decide +kernel
theorem dL_law_202 : decode cL_law 202 = .ok (.iload 4, 2) := by decide +kernel
theorem dL_law_204 : decode cL_law 204 = .ok (.iconst 1, 1) := by decide +kernel
theorem dL_law_205 : decode cL_law 205 = .ok (.iadd, 1) := by decide +kernel
theorem dL_law_206 : decode cL_law 206 = .ok (.iaload, 1) := by decide +kernel
theorem kw_5_71 : Cond.methodLink RL 34 yX10_customs ∈ gw := gw_t5 (List.mem_of_getElem? (i := 71) (by decide +kernel)) (by decide +kernel)
theorem kw_5_72 : Cond.instanceMethod yX10_customs ∈ gw := gw_t5 (List.mem_of_getElem? (i := 72) (by decide +kernel)) (by decide +kernel)
theorem kw_5_73 : Cond.selects RX10 yX10_customs yX10_customs ∈ gw := gw_t5 (List.mem_of_getElem? (i := 73) (by decide +kernel)) (by decide +kernel)
theorem kw_5_74 : Cond.code yX10_customs cX10_customs 4 (some .int) ∈ gw := gw_t5 (List.mem_of_getElem? (i := 74) (by decide +kernel)) (by decide +kernel)
theorem gk_L_34 : GoodIn gw (wsV RL 34 RX10 yX10_customs (.code yX10_customs cX10_customs 4 (some .int) :: gw)) ∧ (yX10_customs.cls = RX10 ∧ yX10_customs.cls ≠ "java/lang/invoke/MethodHandle" ∧ yX10_customs.cls ≠ "java/lang/invoke/VarHandle" ∧ (parseMethodDescriptor yX10_customs.desc).map (fun d => d.parameters.length) = some 1) := ⟨gi_V kw_5_71 kw_5_72 kw_5_73 kw_1_11 kw_5_74, by decide +kernel⟩
theorem dL_law_207 : decode cL_law 207 = .ok (.invokevirtual 34, 3) := by decide +kernel
theorem dL_law_210 : decode cL_law 210 = .ok (.pop, 1) := by decide +kernel
theorem dL_law_211 : decode cL_law 211 = .ok (.goto 472, 3) := by decide +kernel
theorem dL_law_214 : decode cL_law 214 = .ok (.aload_n 1, 1) := by decide +kernel
theorem dL_law_215 : decode cL_law 215 = .ok (.aload_n 0, 1) := by decide +kernel
theorem dL_law_216 : decode cL_law 216 = .ok (.iload 4, 2) := by decide +kernel
theorem dL_law_218 : decode cL_law 218 = .ok (.iconst 1, 1) := by decide +kernel
theorem dL_law_219 : decode cL_law 219 = .ok (.iadd, 1) := by decide +kernel
theorem dL_law_220 : decode cL_law 220 = .ok (.iaload, 1) := by decide +kernel
theorem kw_2_229 : Cond.methodLink RL 35 yX9_fault ∈ gw := gw_t2 (List.mem_of_getElem? (i := 229) (by decide +kernel)) (by decide +kernel)
theorem kw_2_230 : Cond.instanceMethod yX9_fault ∈ gw := gw_t2 (List.mem_of_getElem? (i := 230) (by decide +kernel)) (by decide +kernel)
theorem kw_2_231 : Cond.selects RX9 yX9_fault yX9_fault ∈ gw := gw_t2 (List.mem_of_getElem? (i := 231) (by decide +kernel)) (by decide +kernel)
theorem kw_2_232 : Cond.code yX9_fault cX9_fault 2 (some .int) ∈ gw := gw_t2 (List.mem_of_getElem? (i := 232) (by decide +kernel)) (by decide +kernel)
theorem gk_L_35 : GoodIn gw (wsV RL 35 RX9 yX9_fault (.code yX9_fault cX9_fault 2 (some .int) :: gw)) ∧ (yX9_fault.cls = RX9 ∧ yX9_fault.cls ≠ "java/lang/invoke/MethodHandle" ∧ yX9_fault.cls ≠ "java/lang/invoke/VarHandle" ∧ (parseMethodDescriptor yX9_fault.desc).map (fun d => d.parameters.length) = some 1) := ⟨gi_V kw_2_229 kw_2_230 kw_2_231 kw_1_1 kw_2_232, by decide +kernel⟩
theorem dL_law_221 : decode cL_law 221 = .ok (.invokevirtual 35, 3) := by decide +kernel
theorem dL_law_224 : decode cL_law 224 = .ok (.pop, 1) := by decide +kernel
theorem dL_law_225 : decode cL_law 225 = .ok (.aload_n 2, 1) := by decide +kernel
theorem dL_law_226 : decode cL_law 226 = .ok (.aload_n 0, 1) := by decide +kernel
theorem dL_law_227 : decode cL_law 227 = .ok (.iload 4, 2) := by decide +kernel
theorem dL_law_229 : decode cL_law 229 = .ok (.iconst 1, 1) := by decide +kernel
theorem dL_law_230 : decode cL_law 230 = .ok (.iadd, 1) := by decide +kernel
theorem dL_law_231 : decode cL_law 231 = .ok (.iaload, 1) := by decide +kernel
theorem kw_5_115 : Cond.methodLink RL 38 yX10_fault ∈ gw := gw_t5 (List.mem_of_getElem? (i := 115) (by decide +kernel)) (by decide +kernel)
theorem kw_5_116 : Cond.instanceMethod yX10_fault ∈ gw := gw_t5 (List.mem_of_getElem? (i := 116) (by decide +kernel)) (by decide +kernel)
theorem kw_5_117 : Cond.selects RX10 yX10_fault yX10_fault ∈ gw := gw_t5 (List.mem_of_getElem? (i := 117) (by decide +kernel)) (by decide +kernel)
theorem kw_5_118 : Cond.code yX10_fault cX10_fault 2 (some .int) ∈ gw := gw_t5 (List.mem_of_getElem? (i := 118) (by decide +kernel)) (by decide +kernel)
theorem gk_L_38 : GoodIn gw (wsV RL 38 RX10 yX10_fault (.code yX10_fault cX10_fault 2 (some .int) :: gw)) ∧ (yX10_fault.cls = RX10 ∧ yX10_fault.cls ≠ "java/lang/invoke/MethodHandle" ∧ yX10_fault.cls ≠ "java/lang/invoke/VarHandle" ∧ (parseMethodDescriptor yX10_fault.desc).map (fun d => d.parameters.length) = some 1) := ⟨gi_V kw_5_115 kw_5_116 kw_5_117 kw_1_11 kw_5_118, by decide +kernel⟩
theorem dL_law_232 : decode cL_law 232 = .ok (.invokevirtual 38, 3) := by decide +kernel
theorem dL_law_235 : decode cL_law 235 = .ok (.pop, 1) := by decide +kernel
theorem dL_law_236 : decode cL_law 236 = .ok (.goto 447, 3) := by decide +kernel
theorem dL_law_239 : decode cL_law 239 = .ok (.aload_n 1, 1) := by decide +kernel
theorem dL_law_240 : decode cL_law 240 = .ok (.aload_n 0, 1) := by decide +kernel
theorem dL_law_241 : decode cL_law 241 = .ok (.iload 4, 2) := by decide +kernel
theorem dL_law_243 : decode cL_law 243 = .ok (.iconst 1, 1) := by decide +kernel
theorem dL_law_244 : decode cL_law 244 = .ok (.iadd, 1) := by decide +kernel
theorem dL_law_245 : decode cL_law 245 = .ok (.iaload, 1) := by decide +kernel
theorem dL_law_246 : decode cL_law 246 = .ok (.aload_n 0, 1) := by decide +kernel
theorem dL_law_247 : decode cL_law 247 = .ok (.iload 4, 2) := by decide +kernel
theorem dL_law_249 : decode cL_law 249 = .ok (.iconst 2, 1) := by decide +kernel
theorem dL_law_250 : decode cL_law 250 = .ok (.iadd, 1) := by decide +kernel
theorem dL_law_251 : decode cL_law 251 = .ok (.iaload, 1) := by decide +kernel
theorem kw_2_233 : Cond.methodLink RL 39 yX9_ice ∈ gw := gw_t2 (List.mem_of_getElem? (i := 233) (by decide +kernel)) (by decide +kernel)
theorem kw_2_234 : Cond.instanceMethod yX9_ice ∈ gw := gw_t2 (List.mem_of_getElem? (i := 234) (by decide +kernel)) (by decide +kernel)
theorem kw_2_235 : Cond.selects RX9 yX9_ice yX9_ice ∈ gw := gw_t2 (List.mem_of_getElem? (i := 235) (by decide +kernel)) (by decide +kernel)
theorem kw_2_236 : Cond.code yX9_ice cX9_ice 3 (some .boolean) ∈ gw := gw_t2 (List.mem_of_getElem? (i := 236) (by decide +kernel)) (by decide +kernel)
theorem gk_L_39 : GoodIn gw (wsV RL 39 RX9 yX9_ice (.code yX9_ice cX9_ice 3 (some .boolean) :: gw)) ∧ (yX9_ice.cls = RX9 ∧ yX9_ice.cls ≠ "java/lang/invoke/MethodHandle" ∧ yX9_ice.cls ≠ "java/lang/invoke/VarHandle" ∧ (parseMethodDescriptor yX9_ice.desc).map (fun d => d.parameters.length) = some 2) := ⟨gi_V kw_2_233 kw_2_234 kw_2_235 kw_1_1 kw_2_236, by decide +kernel⟩
theorem dL_law_252 : decode cL_law 252 = .ok (.invokevirtual 39, 3) := by decide +kernel
theorem dL_law_255 : decode cL_law 255 = .ok (.pop, 1) := by decide +kernel
theorem dL_law_256 : decode cL_law 256 = .ok (.aload_n 2, 1) := by decide +kernel
theorem dL_law_257 : decode cL_law 257 = .ok (.aload_n 0, 1) := by decide +kernel
theorem dL_law_258 : decode cL_law 258 = .ok (.iload 4, 2) := by decide +kernel
theorem dL_law_260 : decode cL_law 260 = .ok (.iconst 1, 1) := by decide +kernel
theorem dL_law_261 : decode cL_law 261 = .ok (.iadd, 1) := by decide +kernel
theorem dL_law_262 : decode cL_law 262 = .ok (.iaload, 1) := by decide +kernel
theorem dL_law_263 : decode cL_law 263 = .ok (.aload_n 0, 1) := by decide +kernel
theorem dL_law_264 : decode cL_law 264 = .ok (.iload 4, 2) := by decide +kernel
theorem dL_law_266 : decode cL_law 266 = .ok (.iconst 2, 1) := by decide +kernel
theorem dL_law_267 : decode cL_law 267 = .ok (.iadd, 1) := by decide +kernel
theorem dL_law_268 : decode cL_law 268 = .ok (.iaload, 1) := by decide +kernel
theorem kw_5_119 : Cond.methodLink RL 43 yX10_ice ∈ gw := gw_t5 (List.mem_of_getElem? (i := 119) (by decide +kernel)) (by decide +kernel)
theorem kw_5_120 : Cond.instanceMethod yX10_ice ∈ gw := gw_t5 (List.mem_of_getElem? (i := 120) (by decide +kernel)) (by decide +kernel)
theorem kw_5_121 : Cond.selects RX10 yX10_ice yX10_ice ∈ gw := gw_t5 (List.mem_of_getElem? (i := 121) (by decide +kernel)) (by decide +kernel)
theorem kw_5_122 : Cond.code yX10_ice cX10_ice 4 (some .boolean) ∈ gw := gw_t5 (List.mem_of_getElem? (i := 122) (by decide +kernel)) (by decide +kernel)
theorem gk_L_43 : GoodIn gw (wsV RL 43 RX10 yX10_ice (.code yX10_ice cX10_ice 4 (some .boolean) :: gw)) ∧ (yX10_ice.cls = RX10 ∧ yX10_ice.cls ≠ "java/lang/invoke/MethodHandle" ∧ yX10_ice.cls ≠ "java/lang/invoke/VarHandle" ∧ (parseMethodDescriptor yX10_ice.desc).map (fun d => d.parameters.length) = some 2) := ⟨gi_V kw_5_119 kw_5_120 kw_5_121 kw_1_11 kw_5_122, by decide +kernel⟩
theorem dL_law_269 : decode cL_law 269 = .ok (.invokevirtual 43, 3) := by decide +kernel
theorem dL_law_272 : decode cL_law 272 = .ok (.pop, 1) := by decide +kernel
theorem dL_law_273 : decode cL_law 273 = .ok (.goto 410, 3) := by decide +kernel
theorem dL_law_276 : decode cL_law 276 = .ok (.aload_n 1, 1) := by decide +kernel
theorem dL_law_277 : decode cL_law 277 = .ok (.aload_n 0, 1) := by decide +kernel
theorem dL_law_278 : decode cL_law 278 = .ok (.iload 4, 2) := by decide +kernel
theorem dL_law_280 : decode cL_law 280 = .ok (.iconst 1, 1) := by decide +kernel
theorem dL_law_281 : decode cL_law 281 = .ok (.iadd, 1) := by decide +kernel
theorem dL_law_282 : decode cL_law 282 = .ok (.iaload, 1) := by decide +kernel
theorem dL_law_283 : decode cL_law 283 = .ok (.aload_n 0, 1) := by decide +kernel
theorem dL_law_284 : decode cL_law 284 = .ok (.iload 4, 2) := by decide +kernel
theorem dL_law_286 : decode cL_law 286 = .ok (.iconst 2, 1) := by decide +kernel
theorem dL_law_287 : decode cL_law 287 = .ok (.iadd, 1) := by decide +kernel
theorem dL_law_288 : decode cL_law 288 = .ok (.iaload, 1) := by decide +kernel
theorem dL_law_289 : decode cL_law 289 = .ok (.aload_n 0, 1) := by decide +kernel
theorem dL_law_290 : decode cL_law 290 = .ok (.iload 4, 2) := by decide +kernel
theorem dL_law_292 : decode cL_law 292 = .ok (.iconst 3, 1) := by decide +kernel
theorem dL_law_293 : decode cL_law 293 = .ok (.iadd, 1) := by decide +kernel
theorem dL_law_294 : decode cL_law 294 = .ok (.iaload, 1) := by decide +kernel
theorem dL_law_295 : decode cL_law 295 = .ok (.aload_n 0, 1) := by decide +kernel
theorem dL_law_296 : decode cL_law 296 = .ok (.iload 4, 2) := by decide +kernel
theorem dL_law_298 : decode cL_law 298 = .ok (.iconst 4, 1) := by decide +kernel
theorem dL_law_299 : decode cL_law 299 = .ok (.iadd, 1) := by decide +kernel
theorem dL_law_300 : decode cL_law 300 = .ok (.iaload, 1) := by decide +kernel
theorem dL_law_301 : decode cL_law 301 = .ok (.aload_n 0, 1) := by decide +kernel
theorem dL_law_302 : decode cL_law 302 = .ok (.iload 4, 2) := by decide +kernel
theorem dL_law_304 : decode cL_law 304 = .ok (.iconst 5, 1) := by decide +kernel
theorem dL_law_305 : decode cL_law 305 = .ok (.iadd, 1) := by decide +kernel
theorem dL_law_306 : decode cL_law 306 = .ok (.iaload, 1) := by decide +kernel
theorem dL_law_307 : decode cL_law 307 = .ok (.aload_n 0, 1) := by decide +kernel
theorem dL_law_308 : decode cL_law 308 = .ok (.iload 4, 2) := by decide +kernel
theorem dL_law_310 : decode cL_law 310 = .ok (.bipush 6, 2) := by decide +kernel
theorem dL_law_312 : decode cL_law 312 = .ok (.iadd, 1) := by decide +kernel
theorem dL_law_313 : decode cL_law 313 = .ok (.iaload, 1) := by decide +kernel
theorem kw_3_2 : Cond.methodLink RL 44 yX9_sound ∈ gw := gw_t3 (List.mem_of_getElem? (i := 2) (by decide +kernel)) (by decide +kernel)
theorem kw_3_3 : Cond.instanceMethod yX9_sound ∈ gw := gw_t3 (List.mem_of_getElem? (i := 3) (by decide +kernel)) (by decide +kernel)
theorem kw_3_4 : Cond.selects RX9 yX9_sound yX9_sound ∈ gw := gw_t3 (List.mem_of_getElem? (i := 4) (by decide +kernel)) (by decide +kernel)
theorem kw_3_5 : Cond.code yX9_sound cX9_sound 10 (some .boolean) ∈ gw := gw_t3 (List.mem_of_getElem? (i := 5) (by decide +kernel)) (by decide +kernel)
theorem gk_L_44 : GoodIn gw (wsV RL 44 RX9 yX9_sound (.code yX9_sound cX9_sound 10 (some .boolean) :: gw)) ∧ (yX9_sound.cls = RX9 ∧ yX9_sound.cls ≠ "java/lang/invoke/MethodHandle" ∧ yX9_sound.cls ≠ "java/lang/invoke/VarHandle" ∧ (parseMethodDescriptor yX9_sound.desc).map (fun d => d.parameters.length) = some 6) := ⟨gi_V kw_3_2 kw_3_3 kw_3_4 kw_1_1 kw_3_5, by decide +kernel⟩
theorem dL_law_314 : decode cL_law 314 = .ok (.invokevirtual 44, 3) := by decide +kernel
theorem dL_law_317 : decode cL_law 317 = .ok (.pop, 1) := by decide +kernel
theorem dL_law_318 : decode cL_law 318 = .ok (.aload_n 2, 1) := by decide +kernel
theorem dL_law_319 : decode cL_law 319 = .ok (.aload_n 0, 1) := by decide +kernel
theorem dL_law_320 : decode cL_law 320 = .ok (.iload 4, 2) := by decide +kernel
theorem dL_law_322 : decode cL_law 322 = .ok (.iconst 1, 1) := by decide +kernel
theorem dL_law_323 : decode cL_law 323 = .ok (.iadd, 1) := by decide +kernel
theorem dL_law_324 : decode cL_law 324 = .ok (.iaload, 1) := by decide +kernel
theorem dL_law_325 : decode cL_law 325 = .ok (.aload_n 0, 1) := by decide +kernel
theorem dL_law_326 : decode cL_law 326 = .ok (.iload 4, 2) := by decide +kernel
theorem dL_law_328 : decode cL_law 328 = .ok (.iconst 2, 1) := by decide +kernel
theorem dL_law_329 : decode cL_law 329 = .ok (.iadd, 1) := by decide +kernel
theorem dL_law_330 : decode cL_law 330 = .ok (.iaload, 1) := by decide +kernel
theorem dL_law_331 : decode cL_law 331 = .ok (.aload_n 0, 1) := by decide +kernel
theorem dL_law_332 : decode cL_law 332 = .ok (.iload 4, 2) := by decide +kernel
theorem dL_law_334 : decode cL_law 334 = .ok (.iconst 3, 1) := by decide +kernel
theorem dL_law_335 : decode cL_law 335 = .ok (.iadd, 1) := by decide +kernel
theorem dL_law_336 : decode cL_law 336 = .ok (.iaload, 1) := by decide +kernel
theorem dL_law_337 : decode cL_law 337 = .ok (.aload_n 0, 1) := by decide +kernel
theorem dL_law_338 : decode cL_law 338 = .ok (.iload 4, 2) := by decide +kernel
theorem dL_law_340 : decode cL_law 340 = .ok (.iconst 4, 1) := by decide +kernel
theorem dL_law_341 : decode cL_law 341 = .ok (.iadd, 1) := by decide +kernel
theorem dL_law_342 : decode cL_law 342 = .ok (.iaload, 1) := by decide +kernel
theorem dL_law_343 : decode cL_law 343 = .ok (.aload_n 0, 1) := by decide +kernel
theorem dL_law_344 : decode cL_law 344 = .ok (.iload 4, 2) := by decide +kernel
theorem dL_law_346 : decode cL_law 346 = .ok (.iconst 5, 1) := by decide +kernel
theorem dL_law_347 : decode cL_law 347 = .ok (.iadd, 1) := by decide +kernel
theorem dL_law_348 : decode cL_law 348 = .ok (.iaload, 1) := by decide +kernel
theorem dL_law_349 : decode cL_law 349 = .ok (.aload_n 0, 1) := by decide +kernel
theorem dL_law_350 : decode cL_law 350 = .ok (.iload 4, 2) := by decide +kernel
theorem dL_law_352 : decode cL_law 352 = .ok (.bipush 6, 2) := by decide +kernel
theorem dL_law_354 : decode cL_law 354 = .ok (.iadd, 1) := by decide +kernel
theorem dL_law_355 : decode cL_law 355 = .ok (.iaload, 1) := by decide +kernel
theorem kw_5_123 : Cond.methodLink RL 48 yX10_sound ∈ gw := gw_t5 (List.mem_of_getElem? (i := 123) (by decide +kernel)) (by decide +kernel)
theorem kw_5_124 : Cond.instanceMethod yX10_sound ∈ gw := gw_t5 (List.mem_of_getElem? (i := 124) (by decide +kernel)) (by decide +kernel)
theorem kw_5_125 : Cond.selects RX10 yX10_sound yX10_sound ∈ gw := gw_t5 (List.mem_of_getElem? (i := 125) (by decide +kernel)) (by decide +kernel)
theorem kw_5_126 : Cond.code yX10_sound cX10_sound 9 (some .boolean) ∈ gw := gw_t5 (List.mem_of_getElem? (i := 126) (by decide +kernel)) (by decide +kernel)
theorem gk_L_48 : GoodIn gw (wsV RL 48 RX10 yX10_sound (.code yX10_sound cX10_sound 9 (some .boolean) :: gw)) ∧ (yX10_sound.cls = RX10 ∧ yX10_sound.cls ≠ "java/lang/invoke/MethodHandle" ∧ yX10_sound.cls ≠ "java/lang/invoke/VarHandle" ∧ (parseMethodDescriptor yX10_sound.desc).map (fun d => d.parameters.length) = some 6) := ⟨gi_V kw_5_123 kw_5_124 kw_5_125 kw_1_11 kw_5_126, by decide +kernel⟩
theorem dL_law_356 : decode cL_law 356 = .ok (.invokevirtual 48, 3) := by decide +kernel
theorem dL_law_359 : decode cL_law 359 = .ok (.pop, 1) := by decide +kernel
theorem dL_law_360 : decode cL_law 360 = .ok (.goto 323, 3) := by decide +kernel
theorem dL_law_363 : decode cL_law 363 = .ok (.aload_n 1, 1) := by decide +kernel
theorem dL_law_364 : decode cL_law 364 = .ok (.aload_n 0, 1) := by decide +kernel
theorem dL_law_365 : decode cL_law 365 = .ok (.iload 4, 2) := by decide +kernel
theorem dL_law_367 : decode cL_law 367 = .ok (.iconst 1, 1) := by decide +kernel
theorem dL_law_368 : decode cL_law 368 = .ok (.iadd, 1) := by decide +kernel
theorem dL_law_369 : decode cL_law 369 = .ok (.iaload, 1) := by decide +kernel
theorem dL_law_370 : decode cL_law 370 = .ok (.aload_n 0, 1) := by decide +kernel
theorem dL_law_371 : decode cL_law 371 = .ok (.iload 4, 2) := by decide +kernel
theorem dL_law_373 : decode cL_law 373 = .ok (.iconst 2, 1) := by decide +kernel
theorem dL_law_374 : decode cL_law 374 = .ok (.iadd, 1) := by decide +kernel
theorem dL_law_375 : decode cL_law 375 = .ok (.iaload, 1) := by decide +kernel
theorem dL_law_376 : decode cL_law 376 = .ok (.ifCond .eq 7, 3) := by decide +kernel
theorem dL_law_383 : decode cL_law 383 = .ok (.iconst 0, 1) := by decide +kernel
theorem dL_law_384 : decode cL_law 384 = .ok (.aload_n 0, 1) := by decide +kernel
theorem dL_law_385 : decode cL_law 385 = .ok (.iload 4, 2) := by decide +kernel
theorem dL_law_387 : decode cL_law 387 = .ok (.iconst 3, 1) := by decide +kernel
theorem dL_law_388 : decode cL_law 388 = .ok (.iadd, 1) := by decide +kernel
theorem dL_law_389 : decode cL_law 389 = .ok (.iaload, 1) := by decide +kernel
theorem kw_3_19 : Cond.methodLink RL 49 yX9_booth ∈ gw := gw_t3 (List.mem_of_getElem? (i := 19) (by decide +kernel)) (by decide +kernel)
theorem kw_3_20 : Cond.instanceMethod yX9_booth ∈ gw := gw_t3 (List.mem_of_getElem? (i := 20) (by decide +kernel)) (by decide +kernel)
theorem kw_3_21 : Cond.selects RX9 yX9_booth yX9_booth ∈ gw := gw_t3 (List.mem_of_getElem? (i := 21) (by decide +kernel)) (by decide +kernel)
theorem kw_3_22 : Cond.code yX9_booth cX9_booth 4 (some .int) ∈ gw := gw_t3 (List.mem_of_getElem? (i := 22) (by decide +kernel)) (by decide +kernel)
theorem gk_L_49 : GoodIn gw (wsV RL 49 RX9 yX9_booth (.code yX9_booth cX9_booth 4 (some .int) :: gw)) ∧ (yX9_booth.cls = RX9 ∧ yX9_booth.cls ≠ "java/lang/invoke/MethodHandle" ∧ yX9_booth.cls ≠ "java/lang/invoke/VarHandle" ∧ (parseMethodDescriptor yX9_booth.desc).map (fun d => d.parameters.length) = some 3) := ⟨gi_V kw_3_19 kw_3_20 kw_3_21 kw_1_1 kw_3_22, by decide +kernel⟩
theorem dL_law_390 : decode cL_law 390 = .ok (.invokevirtual 49, 3) := by decide +kernel
theorem dL_law_393 : decode cL_law 393 = .ok (.pop, 1) := by decide +kernel
theorem dL_law_394 : decode cL_law 394 = .ok (.aload_n 2, 1) := by decide +kernel
theorem dL_law_395 : decode cL_law 395 = .ok (.aload_n 0, 1) := by decide +kernel
theorem dL_law_396 : decode cL_law 396 = .ok (.iload 4, 2) := by decide +kernel
theorem dL_law_398 : decode cL_law 398 = .ok (.iconst 1, 1) := by decide +kernel
theorem dL_law_399 : decode cL_law 399 = .ok (.iadd, 1) := by decide +kernel
theorem dL_law_400 : decode cL_law 400 = .ok (.iaload, 1) := by decide +kernel
theorem dL_law_401 : decode cL_law 401 = .ok (.aload_n 0, 1) := by decide +kernel
theorem dL_law_402 : decode cL_law 402 = .ok (.iload 4, 2) := by decide +kernel
theorem dL_law_404 : decode cL_law 404 = .ok (.iconst 2, 1) := by decide +kernel
theorem dL_law_405 : decode cL_law 405 = .ok (.iadd, 1) := by decide +kernel
theorem dL_law_406 : decode cL_law 406 = .ok (.iaload, 1) := by decide +kernel
theorem dL_law_407 : decode cL_law 407 = .ok (.ifCond .eq 7, 3) := by decide +kernel
theorem dL_law_414 : decode cL_law 414 = .ok (.iconst 0, 1) := by decide +kernel
theorem dL_law_415 : decode cL_law 415 = .ok (.aload_n 0, 1) := by decide +kernel
theorem dL_law_416 : decode cL_law 416 = .ok (.iload 4, 2) := by decide +kernel
theorem dL_law_418 : decode cL_law 418 = .ok (.iconst 3, 1) := by decide +kernel
theorem dL_law_419 : decode cL_law 419 = .ok (.iadd, 1) := by decide +kernel
theorem dL_law_420 : decode cL_law 420 = .ok (.iaload, 1) := by decide +kernel
theorem kw_5_131 : Cond.methodLink RL 53 yX10_booth ∈ gw := gw_t5 (List.mem_of_getElem? (i := 131) (by decide +kernel)) (by decide +kernel)
theorem kw_5_132 : Cond.instanceMethod yX10_booth ∈ gw := gw_t5 (List.mem_of_getElem? (i := 132) (by decide +kernel)) (by decide +kernel)
theorem kw_5_133 : Cond.selects RX10 yX10_booth yX10_booth ∈ gw := gw_t5 (List.mem_of_getElem? (i := 133) (by decide +kernel)) (by decide +kernel)
theorem kw_5_134 : Cond.code yX10_booth cX10_booth 4 (some .int) ∈ gw := gw_t5 (List.mem_of_getElem? (i := 134) (by decide +kernel)) (by decide +kernel)
theorem gk_L_53 : GoodIn gw (wsV RL 53 RX10 yX10_booth (.code yX10_booth cX10_booth 4 (some .int) :: gw)) ∧ (yX10_booth.cls = RX10 ∧ yX10_booth.cls ≠ "java/lang/invoke/MethodHandle" ∧ yX10_booth.cls ≠ "java/lang/invoke/VarHandle" ∧ (parseMethodDescriptor yX10_booth.desc).map (fun d => d.parameters.length) = some 3) := ⟨gi_V kw_5_131 kw_5_132 kw_5_133 kw_1_11 kw_5_134, by decide +kernel⟩
theorem dL_law_421 : decode cL_law 421 = .ok (.invokevirtual 53, 3) := by decide +kernel
theorem dL_law_424 : decode cL_law 424 = .ok (.pop, 1) := by decide +kernel
theorem dL_law_425 : decode cL_law 425 = .ok (.goto 258, 3) := by decide +kernel
theorem dL_law_379 : decode cL_law 379 = .ok (.iconst 1, 1) := by decide +kernel
theorem dL_law_380 : decode cL_law 380 = .ok (.goto 4, 3) := by decide +kernel
theorem dL_law_410 : decode cL_law 410 = .ok (.iconst 1, 1) := by decide +kernel
theorem dL_law_411 : decode cL_law 411 = .ok (.goto 4, 3) := by decide +kernel
theorem dL_law_428 : decode cL_law 428 = .ok (.aload_n 1, 1) := by decide +kernel
theorem dL_law_429 : decode cL_law 429 = .ok (.aload_n 0, 1) := by decide +kernel
theorem dL_law_430 : decode cL_law 430 = .ok (.iload 4, 2) := by decide +kernel
theorem dL_law_432 : decode cL_law 432 = .ok (.iconst 1, 1) := by decide +kernel
theorem dL_law_433 : decode cL_law 433 = .ok (.iadd, 1) := by decide +kernel
theorem dL_law_434 : decode cL_law 434 = .ok (.iaload, 1) := by decide +kernel
theorem dL_law_435 : decode cL_law 435 = .ok (.aload_n 0, 1) := by decide +kernel
theorem dL_law_436 : decode cL_law 436 = .ok (.iload 4, 2) := by decide +kernel
theorem dL_law_438 : decode cL_law 438 = .ok (.iconst 2, 1) := by decide +kernel
theorem dL_law_439 : decode cL_law 439 = .ok (.iadd, 1) := by decide +kernel
theorem dL_law_440 : decode cL_law 440 = .ok (.iaload, 1) := by decide +kernel
theorem dL_law_441 : decode cL_law 441 = .ok (.aload_n 0, 1) := by decide +kernel
theorem dL_law_442 : decode cL_law 442 = .ok (.iload 4, 2) := by decide +kernel
theorem dL_law_444 : decode cL_law 444 = .ok (.iconst 3, 1) := by decide +kernel
theorem dL_law_445 : decode cL_law 445 = .ok (.iadd, 1) := by decide +kernel
theorem dL_law_446 : decode cL_law 446 = .ok (.iaload, 1) := by decide +kernel
theorem kw_3_27 : Cond.methodLink RL 54 yX9_set ∈ gw := gw_t3 (List.mem_of_getElem? (i := 27) (by decide +kernel)) (by decide +kernel)
theorem kw_3_28 : Cond.instanceMethod yX9_set ∈ gw := gw_t3 (List.mem_of_getElem? (i := 28) (by decide +kernel)) (by decide +kernel)
theorem kw_3_29 : Cond.selects RX9 yX9_set yX9_set ∈ gw := gw_t3 (List.mem_of_getElem? (i := 29) (by decide +kernel)) (by decide +kernel)
theorem kw_3_30 : Cond.code yX9_set cX9_set 5 (some .int) ∈ gw := gw_t3 (List.mem_of_getElem? (i := 30) (by decide +kernel)) (by decide +kernel)
theorem gk_L_54 : GoodIn gw (wsV RL 54 RX9 yX9_set (.code yX9_set cX9_set 5 (some .int) :: gw)) ∧ (yX9_set.cls = RX9 ∧ yX9_set.cls ≠ "java/lang/invoke/MethodHandle" ∧ yX9_set.cls ≠ "java/lang/invoke/VarHandle" ∧ (parseMethodDescriptor yX9_set.desc).map (fun d => d.parameters.length) = some 3) := ⟨gi_V kw_3_27 kw_3_28 kw_3_29 kw_1_1 kw_3_30, by decide +kernel⟩
theorem dL_law_447 : decode cL_law 447 = .ok (.invokevirtual 54, 3) := by decide +kernel
theorem dL_law_450 : decode cL_law 450 = .ok (.pop, 1) := by decide +kernel
theorem dL_law_451 : decode cL_law 451 = .ok (.aload_n 2, 1) := by decide +kernel
theorem dL_law_452 : decode cL_law 452 = .ok (.aload_n 0, 1) := by decide +kernel
theorem dL_law_453 : decode cL_law 453 = .ok (.iload 4, 2) := by decide +kernel
theorem dL_law_455 : decode cL_law 455 = .ok (.iconst 1, 1) := by decide +kernel
theorem dL_law_456 : decode cL_law 456 = .ok (.iadd, 1) := by decide +kernel
theorem dL_law_457 : decode cL_law 457 = .ok (.iaload, 1) := by decide +kernel
theorem dL_law_458 : decode cL_law 458 = .ok (.aload_n 0, 1) := by decide +kernel
theorem dL_law_459 : decode cL_law 459 = .ok (.iload 4, 2) := by decide +kernel
theorem dL_law_461 : decode cL_law 461 = .ok (.iconst 2, 1) := by decide +kernel
theorem dL_law_462 : decode cL_law 462 = .ok (.iadd, 1) := by decide +kernel
theorem dL_law_463 : decode cL_law 463 = .ok (.iaload, 1) := by decide +kernel
theorem dL_law_464 : decode cL_law 464 = .ok (.aload_n 0, 1) := by decide +kernel
theorem dL_law_465 : decode cL_law 465 = .ok (.iload 4, 2) := by decide +kernel
theorem dL_law_467 : decode cL_law 467 = .ok (.iconst 3, 1) := by decide +kernel
theorem dL_law_468 : decode cL_law 468 = .ok (.iadd, 1) := by decide +kernel
theorem dL_law_469 : decode cL_law 469 = .ok (.iaload, 1) := by decide +kernel
theorem kw_5_135 : Cond.methodLink RL 57 yX10_set ∈ gw := gw_t5 (List.mem_of_getElem? (i := 135) (by decide +kernel)) (by decide +kernel)
theorem kw_5_136 : Cond.instanceMethod yX10_set ∈ gw := gw_t5 (List.mem_of_getElem? (i := 136) (by decide +kernel)) (by decide +kernel)
theorem kw_5_137 : Cond.selects RX10 yX10_set yX10_set ∈ gw := gw_t5 (List.mem_of_getElem? (i := 137) (by decide +kernel)) (by decide +kernel)
theorem kw_5_138 : Cond.code yX10_set cX10_set 4 (some .int) ∈ gw := gw_t5 (List.mem_of_getElem? (i := 138) (by decide +kernel)) (by decide +kernel)
theorem gk_L_57 : GoodIn gw (wsV RL 57 RX10 yX10_set (.code yX10_set cX10_set 4 (some .int) :: gw)) ∧ (yX10_set.cls = RX10 ∧ yX10_set.cls ≠ "java/lang/invoke/MethodHandle" ∧ yX10_set.cls ≠ "java/lang/invoke/VarHandle" ∧ (parseMethodDescriptor yX10_set.desc).map (fun d => d.parameters.length) = some 3) := ⟨gi_V kw_5_135 kw_5_136 kw_5_137 kw_1_11 kw_5_138, by decide +kernel⟩
theorem dL_law_470 : decode cL_law 470 = .ok (.invokevirtual 57, 3) := by decide +kernel
theorem dL_law_473 : decode cL_law 473 = .ok (.pop, 1) := by decide +kernel
theorem dL_law_474 : decode cL_law 474 = .ok (.goto 209, 3) := by decide +kernel
theorem dL_law_477 : decode cL_law 477 = .ok (.aload_n 1, 1) := by decide +kernel
theorem dL_law_478 : decode cL_law 478 = .ok (.aload_n 0, 1) := by decide +kernel
theorem dL_law_479 : decode cL_law 479 = .ok (.iload 4, 2) := by decide +kernel
theorem dL_law_481 : decode cL_law 481 = .ok (.iconst 1, 1) := by decide +kernel
theorem dL_law_482 : decode cL_law 482 = .ok (.iadd, 1) := by decide +kernel
theorem dL_law_483 : decode cL_law 483 = .ok (.iaload, 1) := by decide +kernel
theorem kw_3_114 : Cond.methodLink RL 58 yX9_clear ∈ gw := gw_t3 (List.mem_of_getElem? (i := 114) (by decide +kernel)) (by decide +kernel)
theorem kw_3_115 : Cond.instanceMethod yX9_clear ∈ gw := gw_t3 (List.mem_of_getElem? (i := 115) (by decide +kernel)) (by decide +kernel)
theorem kw_3_116 : Cond.selects RX9 yX9_clear yX9_clear ∈ gw := gw_t3 (List.mem_of_getElem? (i := 116) (by decide +kernel)) (by decide +kernel)
theorem kw_3_117 : Cond.code yX9_clear cX9_clear 3 (some .boolean) ∈ gw := gw_t3 (List.mem_of_getElem? (i := 117) (by decide +kernel)) (by decide +kernel)
theorem gk_L_58 : GoodIn gw (wsV RL 58 RX9 yX9_clear (.code yX9_clear cX9_clear 3 (some .boolean) :: gw)) ∧ (yX9_clear.cls = RX9 ∧ yX9_clear.cls ≠ "java/lang/invoke/MethodHandle" ∧ yX9_clear.cls ≠ "java/lang/invoke/VarHandle" ∧ (parseMethodDescriptor yX9_clear.desc).map (fun d => d.parameters.length) = some 1) := ⟨gi_V kw_3_114 kw_3_115 kw_3_116 kw_1_1 kw_3_117, by decide +kernel⟩
theorem dL_law_484 : decode cL_law 484 = .ok (.invokevirtual 58, 3) := by decide +kernel
theorem dL_law_487 : decode cL_law 487 = .ok (.pop, 1) := by decide +kernel
theorem dL_law_488 : decode cL_law 488 = .ok (.aload_n 2, 1) := by decide +kernel
theorem dL_law_489 : decode cL_law 489 = .ok (.aload_n 0, 1) := by decide +kernel
theorem dL_law_490 : decode cL_law 490 = .ok (.iload 4, 2) := by decide +kernel
theorem dL_law_492 : decode cL_law 492 = .ok (.iconst 1, 1) := by decide +kernel
theorem dL_law_493 : decode cL_law 493 = .ok (.iadd, 1) := by decide +kernel
theorem dL_law_494 : decode cL_law 494 = .ok (.iaload, 1) := by decide +kernel
theorem kw_5_173 : Cond.methodLink RL 62 yX10_clear ∈ gw := gw_t5 (List.mem_of_getElem? (i := 173) (by decide +kernel)) (by decide +kernel)
theorem kw_5_174 : Cond.instanceMethod yX10_clear ∈ gw := gw_t5 (List.mem_of_getElem? (i := 174) (by decide +kernel)) (by decide +kernel)
theorem kw_5_175 : Cond.selects RX10 yX10_clear yX10_clear ∈ gw := gw_t5 (List.mem_of_getElem? (i := 175) (by decide +kernel)) (by decide +kernel)
theorem kw_5_176 : Cond.code yX10_clear cX10_clear 2 (some .boolean) ∈ gw := gw_t5 (List.mem_of_getElem? (i := 176) (by decide +kernel)) (by decide +kernel)
theorem gk_L_62 : GoodIn gw (wsV RL 62 RX10 yX10_clear (.code yX10_clear cX10_clear 2 (some .boolean) :: gw)) ∧ (yX10_clear.cls = RX10 ∧ yX10_clear.cls ≠ "java/lang/invoke/MethodHandle" ∧ yX10_clear.cls ≠ "java/lang/invoke/VarHandle" ∧ (parseMethodDescriptor yX10_clear.desc).map (fun d => d.parameters.length) = some 1) := ⟨gi_V kw_5_173 kw_5_174 kw_5_175 kw_1_11 kw_5_176, by decide +kernel⟩
theorem dL_law_495 : decode cL_law 495 = .ok (.invokevirtual 62, 3) := by decide +kernel
theorem dL_law_498 : decode cL_law 498 = .ok (.pop, 1) := by decide +kernel
theorem dL_law_499 : decode cL_law 499 = .ok (.goto 184, 3) := by decide +kernel
theorem dL_law_502 : decode cL_law 502 = .ok (.aload_n 1, 1) := by decide +kernel
theorem dL_law_503 : decode cL_law 503 = .ok (.aload_n 0, 1) := by decide +kernel
theorem dL_law_504 : decode cL_law 504 = .ok (.iload 4, 2) := by decide +kernel
theorem dL_law_506 : decode cL_law 506 = .ok (.iconst 1, 1) := by decide +kernel
theorem dL_law_507 : decode cL_law 507 = .ok (.iadd, 1) := by decide +kernel
theorem dL_law_508 : decode cL_law 508 = .ok (.iaload, 1) := by decide +kernel
theorem kw_3_122 : Cond.methodLink RL 63 yX9_hour ∈ gw := gw_t3 (List.mem_of_getElem? (i := 122) (by decide +kernel)) (by decide +kernel)
theorem kw_3_123 : Cond.instanceMethod yX9_hour ∈ gw := gw_t3 (List.mem_of_getElem? (i := 123) (by decide +kernel)) (by decide +kernel)
theorem kw_3_124 : Cond.selects RX9 yX9_hour yX9_hour ∈ gw := gw_t3 (List.mem_of_getElem? (i := 124) (by decide +kernel)) (by decide +kernel)
theorem kw_3_125 : Cond.code yX9_hour cX9_hour 2 (some .int) ∈ gw := gw_t3 (List.mem_of_getElem? (i := 125) (by decide +kernel)) (by decide +kernel)
theorem gk_L_63 : GoodIn gw (wsV RL 63 RX9 yX9_hour (.code yX9_hour cX9_hour 2 (some .int) :: gw)) ∧ (yX9_hour.cls = RX9 ∧ yX9_hour.cls ≠ "java/lang/invoke/MethodHandle" ∧ yX9_hour.cls ≠ "java/lang/invoke/VarHandle" ∧ (parseMethodDescriptor yX9_hour.desc).map (fun d => d.parameters.length) = some 1) := ⟨gi_V kw_3_122 kw_3_123 kw_3_124 kw_1_1 kw_3_125, by decide +kernel⟩
theorem dL_law_509 : decode cL_law 509 = .ok (.invokevirtual 63, 3) := by decide +kernel
theorem dL_law_512 : decode cL_law 512 = .ok (.pop, 1) := by decide +kernel
theorem dL_law_513 : decode cL_law 513 = .ok (.aload_n 2, 1) := by decide +kernel
theorem dL_law_514 : decode cL_law 514 = .ok (.aload_n 0, 1) := by decide +kernel
theorem dL_law_515 : decode cL_law 515 = .ok (.iload 4, 2) := by decide +kernel
theorem dL_law_517 : decode cL_law 517 = .ok (.iconst 1, 1) := by decide +kernel
theorem dL_law_518 : decode cL_law 518 = .ok (.iadd, 1) := by decide +kernel
theorem dL_law_519 : decode cL_law 519 = .ok (.iaload, 1) := by decide +kernel
theorem kw_5_177 : Cond.methodLink RL 66 yX10_hour ∈ gw := gw_t5 (List.mem_of_getElem? (i := 177) (by decide +kernel)) (by decide +kernel)
theorem kw_5_178 : Cond.instanceMethod yX10_hour ∈ gw := gw_t5 (List.mem_of_getElem? (i := 178) (by decide +kernel)) (by decide +kernel)
theorem kw_5_179 : Cond.selects RX10 yX10_hour yX10_hour ∈ gw := gw_t5 (List.mem_of_getElem? (i := 179) (by decide +kernel)) (by decide +kernel)
theorem kw_5_180 : Cond.code yX10_hour cX10_hour 6 (some .int) ∈ gw := gw_t5 (List.mem_of_getElem? (i := 180) (by decide +kernel)) (by decide +kernel)
theorem gk_L_66 : GoodIn gw (wsV RL 66 RX10 yX10_hour (.code yX10_hour cX10_hour 6 (some .int) :: gw)) ∧ (yX10_hour.cls = RX10 ∧ yX10_hour.cls ≠ "java/lang/invoke/MethodHandle" ∧ yX10_hour.cls ≠ "java/lang/invoke/VarHandle" ∧ (parseMethodDescriptor yX10_hour.desc).map (fun d => d.parameters.length) = some 1) := ⟨gi_V kw_5_177 kw_5_178 kw_5_179 kw_1_11 kw_5_180, by decide +kernel⟩
theorem dL_law_520 : decode cL_law 520 = .ok (.invokevirtual 66, 3) := by decide +kernel
theorem dL_law_523 : decode cL_law 523 = .ok (.pop, 1) := by decide +kernel
theorem dL_law_524 : decode cL_law 524 = .ok (.goto 159, 3) := by decide +kernel
theorem dL_law_527 : decode cL_law 527 = .ok (.aload_n 1, 1) := by decide +kernel
theorem kw_3_186 : Cond.methodLink RL 67 yX9_lay ∈ gw := gw_t3 (List.mem_of_getElem? (i := 186) (by decide +kernel)) (by decide +kernel)
theorem kw_3_187 : Cond.instanceMethod yX9_lay ∈ gw := gw_t3 (List.mem_of_getElem? (i := 187) (by decide +kernel)) (by decide +kernel)
theorem kw_3_188 : Cond.selects RX9 yX9_lay yX9_lay ∈ gw := gw_t3 (List.mem_of_getElem? (i := 188) (by decide +kernel)) (by decide +kernel)
theorem kw_3_189 : Cond.code yX9_lay cX9_lay 1 (some .int) ∈ gw := gw_t3 (List.mem_of_getElem? (i := 189) (by decide +kernel)) (by decide +kernel)
theorem gk_L_67 : GoodIn gw (wsV RL 67 RX9 yX9_lay (.code yX9_lay cX9_lay 1 (some .int) :: gw)) ∧ (yX9_lay.cls = RX9 ∧ yX9_lay.cls ≠ "java/lang/invoke/MethodHandle" ∧ yX9_lay.cls ≠ "java/lang/invoke/VarHandle" ∧ (parseMethodDescriptor yX9_lay.desc).map (fun d => d.parameters.length) = some 0) := ⟨gi_V kw_3_186 kw_3_187 kw_3_188 kw_1_1 kw_3_189, by decide +kernel⟩
theorem dL_law_528 : decode cL_law 528 = .ok (.invokevirtual 67, 3) := by decide +kernel
theorem dL_law_531 : decode cL_law 531 = .ok (.aload_n 2, 1) := by decide +kernel
theorem kw_5_188 : Cond.methodLink RL 71 yX10_lay ∈ gw := gw_t5 (List.mem_of_getElem? (i := 188) (by decide +kernel)) (by decide +kernel)
theorem kw_5_189 : Cond.instanceMethod yX10_lay ∈ gw := gw_t5 (List.mem_of_getElem? (i := 189) (by decide +kernel)) (by decide +kernel)
theorem kw_5_190 : Cond.selects RX10 yX10_lay yX10_lay ∈ gw := gw_t5 (List.mem_of_getElem? (i := 190) (by decide +kernel)) (by decide +kernel)
theorem kw_5_191 : Cond.code yX10_lay cX10_lay 6 (some .int) ∈ gw := gw_t5 (List.mem_of_getElem? (i := 191) (by decide +kernel)) (by decide +kernel)
theorem gk_L_71 : GoodIn gw (wsV RL 71 RX10 yX10_lay (.code yX10_lay cX10_lay 6 (some .int) :: gw)) ∧ (yX10_lay.cls = RX10 ∧ yX10_lay.cls ≠ "java/lang/invoke/MethodHandle" ∧ yX10_lay.cls ≠ "java/lang/invoke/VarHandle" ∧ (parseMethodDescriptor yX10_lay.desc).map (fun d => d.parameters.length) = some 0) := ⟨gi_V kw_5_188 kw_5_189 kw_5_190 kw_1_11 kw_5_191, by decide +kernel⟩
theorem dL_law_532 : decode cL_law 532 = .ok (.invokevirtual 71, 3) := by decide +kernel
theorem dL_law_535 : decode cL_law 535 = .ok (.if_icmp .eq 148, 3) := by decide +kernel
theorem dL_law_540 : decode cL_law 540 = .ok (.aload_n 1, 1) := by decide +kernel
theorem kw_3_234 : Cond.methodLink RL 72 yX9_soon ∈ gw := gw_t3 (List.mem_of_getElem? (i := 234) (by decide +kernel)) (by decide +kernel)
theorem kw_3_235 : Cond.instanceMethod yX9_soon ∈ gw := gw_t3 (List.mem_of_getElem? (i := 235) (by decide +kernel)) (by decide +kernel)
theorem kw_3_236 : Cond.selects RX9 yX9_soon yX9_soon ∈ gw := gw_t3 (List.mem_of_getElem? (i := 236) (by decide +kernel)) (by decide +kernel)
theorem kw_3_237 : Cond.code yX9_soon cX9_soon 1 (some .int) ∈ gw := gw_t3 (List.mem_of_getElem? (i := 237) (by decide +kernel)) (by decide +kernel)
theorem gk_L_72 : GoodIn gw (wsV RL 72 RX9 yX9_soon (.code yX9_soon cX9_soon 1 (some .int) :: gw)) ∧ (yX9_soon.cls = RX9 ∧ yX9_soon.cls ≠ "java/lang/invoke/MethodHandle" ∧ yX9_soon.cls ≠ "java/lang/invoke/VarHandle" ∧ (parseMethodDescriptor yX9_soon.desc).map (fun d => d.parameters.length) = some 0) := ⟨gi_V kw_3_234 kw_3_235 kw_3_236 kw_1_1 kw_3_237, by decide +kernel⟩
theorem dL_law_541 : decode cL_law 541 = .ok (.invokevirtual 72, 3) := by decide +kernel
theorem dL_law_544 : decode cL_law 544 = .ok (.pop, 1) := by decide +kernel
theorem dL_law_545 : decode cL_law 545 = .ok (.aload_n 2, 1) := by decide +kernel
theorem kw_5_192 : Cond.methodLink RL 75 yX10_soon ∈ gw := gw_t5 (List.mem_of_getElem? (i := 192) (by decide +kernel)) (by decide +kernel)
theorem kw_5_193 : Cond.instanceMethod yX10_soon ∈ gw := gw_t5 (List.mem_of_getElem? (i := 193) (by decide +kernel)) (by decide +kernel)
theorem kw_5_194 : Cond.selects RX10 yX10_soon yX10_soon ∈ gw := gw_t5 (List.mem_of_getElem? (i := 194) (by decide +kernel)) (by decide +kernel)
theorem kw_5_195 : Cond.code yX10_soon cX10_soon 1 (some .int) ∈ gw := gw_t5 (List.mem_of_getElem? (i := 195) (by decide +kernel)) (by decide +kernel)
theorem gk_L_75 : GoodIn gw (wsV RL 75 RX10 yX10_soon (.code yX10_soon cX10_soon 1 (some .int) :: gw)) ∧ (yX10_soon.cls = RX10 ∧ yX10_soon.cls ≠ "java/lang/invoke/MethodHandle" ∧ yX10_soon.cls ≠ "java/lang/invoke/VarHandle" ∧ (parseMethodDescriptor yX10_soon.desc).map (fun d => d.parameters.length) = some 0) := ⟨gi_V kw_5_192 kw_5_193 kw_5_194 kw_1_11 kw_5_195, by decide +kernel⟩
theorem dL_law_546 : decode cL_law 546 = .ok (.invokevirtual 75, 3) := by decide +kernel
theorem dL_law_549 : decode cL_law 549 = .ok (.pop, 1) := by decide +kernel
theorem dL_law_550 : decode cL_law 550 = .ok (.goto 133, 3) := by decide +kernel
theorem dL_law_553 : decode cL_law 553 = .ok (.aload_n 1, 1) := by decide +kernel
theorem kw_4_52 : Cond.methodLink RL 76 yX9_proof ∈ gw := gw_t4 (List.mem_of_getElem? (i := 52) (by decide +kernel)) (by decide +kernel)
theorem kw_4_53 : Cond.instanceMethod yX9_proof ∈ gw := gw_t4 (List.mem_of_getElem? (i := 53) (by decide +kernel)) (by decide +kernel)
theorem kw_4_54 : Cond.selects RX9 yX9_proof yX9_proof ∈ gw := gw_t4 (List.mem_of_getElem? (i := 54) (by decide +kernel)) (by decide +kernel)
theorem kw_4_55 : Cond.code yX9_proof cX9_proof 2 (some .int) ∈ gw := gw_t4 (List.mem_of_getElem? (i := 55) (by decide +kernel)) (by decide +kernel)
theorem gk_L_76 : GoodIn gw (wsV RL 76 RX9 yX9_proof (.code yX9_proof cX9_proof 2 (some .int) :: gw)) ∧ (yX9_proof.cls = RX9 ∧ yX9_proof.cls ≠ "java/lang/invoke/MethodHandle" ∧ yX9_proof.cls ≠ "java/lang/invoke/VarHandle" ∧ (parseMethodDescriptor yX9_proof.desc).map (fun d => d.parameters.length) = some 0) := ⟨gi_V kw_4_52 kw_4_53 kw_4_54 kw_1_1 kw_4_55, by decide +kernel⟩
theorem dL_law_554 : decode cL_law 554 = .ok (.invokevirtual 76, 3) := by decide +kernel
theorem dL_law_557 : decode cL_law 557 = .ok (.pop, 1) := by decide +kernel
theorem dL_law_558 : decode cL_law 558 = .ok (.aload_n 2, 1) := by decide +kernel
theorem kw_5_232 : Cond.methodLink RL 79 yX10_proof ∈ gw := gw_t5 (List.mem_of_getElem? (i := 232) (by decide +kernel)) (by decide +kernel)
theorem kw_5_233 : Cond.instanceMethod yX10_proof ∈ gw := gw_t5 (List.mem_of_getElem? (i := 233) (by decide +kernel)) (by decide +kernel)
theorem kw_5_234 : Cond.selects RX10 yX10_proof yX10_proof ∈ gw := gw_t5 (List.mem_of_getElem? (i := 234) (by decide +kernel)) (by decide +kernel)
theorem kw_5_235 : Cond.code yX10_proof cX10_proof 3 (some .int) ∈ gw := gw_t5 (List.mem_of_getElem? (i := 235) (by decide +kernel)) (by decide +kernel)
theorem gk_L_79 : GoodIn gw (wsV RL 79 RX10 yX10_proof (.code yX10_proof cX10_proof 3 (some .int) :: gw)) ∧ (yX10_proof.cls = RX10 ∧ yX10_proof.cls ≠ "java/lang/invoke/MethodHandle" ∧ yX10_proof.cls ≠ "java/lang/invoke/VarHandle" ∧ (parseMethodDescriptor yX10_proof.desc).map (fun d => d.parameters.length) = some 0) := ⟨gi_V kw_5_232 kw_5_233 kw_5_234 kw_1_11 kw_5_235, by decide +kernel⟩
theorem dL_law_559 : decode cL_law 559 = .ok (.invokevirtual 79, 3) := by decide +kernel
theorem dL_law_562 : decode cL_law 562 = .ok (.pop, 1) := by decide +kernel
theorem dL_law_563 : decode cL_law 563 = .ok (.goto 120, 3) := by decide +kernel
theorem dL_law_566 : decode cL_law 566 = .ok (.aload_n 1, 1) := by decide +kernel
theorem dL_law_567 : decode cL_law 567 = .ok (.aload_n 0, 1) := by decide +kernel
theorem dL_law_568 : decode cL_law 568 = .ok (.iload 4, 2) := by decide +kernel
theorem dL_law_570 : decode cL_law 570 = .ok (.iconst 1, 1) := by decide +kernel
theorem dL_law_571 : decode cL_law 571 = .ok (.iadd, 1) := by decide +kernel
theorem dL_law_572 : decode cL_law 572 = .ok (.iaload, 1) := by decide +kernel
theorem dL_law_573 : decode cL_law 573 = .ok (.aload_n 0, 1) := by decide +kernel
theorem dL_law_574 : decode cL_law 574 = .ok (.iload 4, 2) := by decide +kernel
theorem dL_law_576 : decode cL_law 576 = .ok (.iconst 2, 1) := by decide +kernel
theorem dL_law_577 : decode cL_law 577 = .ok (.iadd, 1) := by decide +kernel
theorem dL_law_578 : decode cL_law 578 = .ok (.iaload, 1) := by decide +kernel
theorem dL_law_579 : decode cL_law 579 = .ok (.aload_n 0, 1) := by decide +kernel
theorem dL_law_580 : decode cL_law 580 = .ok (.iload 4, 2) := by decide +kernel
theorem dL_law_582 : decode cL_law 582 = .ok (.iconst 3, 1) := by decide +kernel
theorem dL_law_583 : decode cL_law 583 = .ok (.iadd, 1) := by decide +kernel
theorem dL_law_584 : decode cL_law 584 = .ok (.iaload, 1) := by decide +kernel
theorem dL_law_585 : decode cL_law 585 = .ok (.aload_n 3, 1) := by decide +kernel
theorem kw_4_82 : Cond.codeWith yL_cell cL_cell 6 (some .int) [(0, 12, 15, 13), (0, 12, 19, 15)] ∈ gw := gw_t4 (List.mem_of_getElem? (i := 82) (by decide +kernel)) (by decide +kernel)
theorem kw_4_80 : Cond.methodLink RL 80 yL_cell ∈ gw := gw_t4 (List.mem_of_getElem? (i := 80) (by decide +kernel)) (by decide +kernel)
theorem kw_4_81 : Cond.static yL_cell ∈ gw := gw_t4 (List.mem_of_getElem? (i := 81) (by decide +kernel)) (by decide +kernel)
theorem kw_1_0 : Cond.initialized RL ∈ gw := gw_t1 (List.mem_of_getElem? (i := 0) (by decide +kernel)) (by decide +kernel)
theorem gk_L_80 : GoodIn gw (va_wsS RL 80 yL_cell (.codeWith yL_cell cL_cell 6 (some .int) [(0, 12, 15, 13), (0, 12, 19, 15)] :: gw)) ∧ (yL_cell.cls ≠ "java/lang/invoke/MethodHandle" ∧ yL_cell.cls ≠ "java/lang/invoke/VarHandle" ∧ (parseMethodDescriptor yL_cell.desc).map (fun d => d.parameters.length) = some 5) := ⟨gi_S kw_4_80 kw_4_81 kw_1_0 kw_4_82, by decide +kernel⟩
theorem dL_law_586 : decode cL_law 586 = .ok (.invokestatic 80, 3) := by decide +kernel
theorem dL_law_589 : decode cL_law 589 = .ok (.istore 5, 2) := by decide +kernel
theorem dL_law_591 : decode cL_law 591 = .ok (.aload_n 2, 1) := by decide +kernel
theorem dL_law_592 : decode cL_law 592 = .ok (.aload_n 0, 1) := by decide +kernel
theorem dL_law_593 : decode cL_law 593 = .ok (.iload 4, 2) := by decide +kernel
theorem dL_law_595 : decode cL_law 595 = .ok (.iconst 1, 1) := by decide +kernel
theorem dL_law_596 : decode cL_law 596 = .ok (.iadd, 1) := by decide +kernel
theorem dL_law_597 : decode cL_law 597 = .ok (.iaload, 1) := by decide +kernel
theorem dL_law_598 : decode cL_law 598 = .ok (.aload_n 0, 1) := by decide +kernel
theorem dL_law_599 : decode cL_law 599 = .ok (.iload 4, 2) := by decide +kernel
theorem dL_law_601 : decode cL_law 601 = .ok (.iconst 2, 1) := by decide +kernel
theorem dL_law_602 : decode cL_law 602 = .ok (.iadd, 1) := by decide +kernel
theorem dL_law_603 : decode cL_law 603 = .ok (.iaload, 1) := by decide +kernel
theorem dL_law_604 : decode cL_law 604 = .ok (.aload_n 0, 1) := by decide +kernel
theorem dL_law_605 : decode cL_law 605 = .ok (.iload 4, 2) := by decide +kernel
theorem dL_law_607 : decode cL_law 607 = .ok (.iconst 3, 1) := by decide +kernel
theorem dL_law_608 : decode cL_law 608 = .ok (.iadd, 1) := by decide +kernel
theorem dL_law_609 : decode cL_law 609 = .ok (.iaload, 1) := by decide +kernel
theorem kw_5_236 : Cond.methodLink RL 85 yX10_cell ∈ gw := gw_t5 (List.mem_of_getElem? (i := 236) (by decide +kernel)) (by decide +kernel)
theorem kw_5_237 : Cond.instanceMethod yX10_cell ∈ gw := gw_t5 (List.mem_of_getElem? (i := 237) (by decide +kernel)) (by decide +kernel)
theorem kw_5_238 : Cond.selects RX10 yX10_cell yX10_cell ∈ gw := gw_t5 (List.mem_of_getElem? (i := 238) (by decide +kernel)) (by decide +kernel)
theorem kw_5_239 : Cond.code yX10_cell cX10_cell 5 (some .int) ∈ gw := gw_t5 (List.mem_of_getElem? (i := 239) (by decide +kernel)) (by decide +kernel)
theorem gk_L_85 : GoodIn gw (wsV RL 85 RX10 yX10_cell (.code yX10_cell cX10_cell 5 (some .int) :: gw)) ∧ (yX10_cell.cls = RX10 ∧ yX10_cell.cls ≠ "java/lang/invoke/MethodHandle" ∧ yX10_cell.cls ≠ "java/lang/invoke/VarHandle" ∧ (parseMethodDescriptor yX10_cell.desc).map (fun d => d.parameters.length) = some 3) := ⟨gi_V kw_5_236 kw_5_237 kw_5_238 kw_1_11 kw_5_239, by decide +kernel⟩
theorem dL_law_610 : decode cL_law 610 = .ok (.invokevirtual 85, 3) := by decide +kernel
theorem dL_law_613 : decode cL_law 613 = .ok (.istore 6, 2) := by decide +kernel
theorem dL_law_615 : decode cL_law 615 = .ok (.goto 68, 3) := by decide +kernel
theorem dL_law_618 : decode cL_law 618 = .ok (.aload_n 1, 1) := by decide +kernel
theorem dL_law_619 : decode cL_law 619 = .ok (.aload_n 0, 1) := by decide +kernel
theorem dL_law_620 : decode cL_law 620 = .ok (.iload 4, 2) := by decide +kernel
theorem dL_law_622 : decode cL_law 622 = .ok (.iconst 1, 1) := by decide +kernel
theorem dL_law_623 : decode cL_law 623 = .ok (.iadd, 1) := by decide +kernel
theorem dL_law_624 : decode cL_law 624 = .ok (.iaload, 1) := by decide +kernel
theorem dL_law_625 : decode cL_law 625 = .ok (.aload_n 0, 1) := by decide +kernel
theorem dL_law_626 : decode cL_law 626 = .ok (.iload 4, 2) := by decide +kernel
theorem dL_law_628 : decode cL_law 628 = .ok (.iconst 2, 1) := by decide +kernel
theorem dL_law_629 : decode cL_law 629 = .ok (.iadd, 1) := by decide +kernel
theorem dL_law_630 : decode cL_law 630 = .ok (.iaload, 1) := by decide +kernel
theorem dL_law_631 : decode cL_law 631 = .ok (.aload_n 3, 1) := by decide +kernel
theorem kw_4_177 : Cond.codeWith yL_look cL_look 5 (some .int) [(0, 10, 13, 13), (0, 10, 17, 15)] ∈ gw := gw_t4 (List.mem_of_getElem? (i := 177) (by decide +kernel)) (by decide +kernel)
theorem kw_4_175 : Cond.methodLink RL 86 yL_look ∈ gw := gw_t4 (List.mem_of_getElem? (i := 175) (by decide +kernel)) (by decide +kernel)
theorem kw_4_176 : Cond.static yL_look ∈ gw := gw_t4 (List.mem_of_getElem? (i := 176) (by decide +kernel)) (by decide +kernel)
theorem gk_L_86 : GoodIn gw (va_wsS RL 86 yL_look (.codeWith yL_look cL_look 5 (some .int) [(0, 10, 13, 13), (0, 10, 17, 15)] :: gw)) ∧ (yL_look.cls ≠ "java/lang/invoke/MethodHandle" ∧ yL_look.cls ≠ "java/lang/invoke/VarHandle" ∧ (parseMethodDescriptor yL_look.desc).map (fun d => d.parameters.length) = some 4) := ⟨gi_S kw_4_175 kw_4_176 kw_1_0 kw_4_177, by decide +kernel⟩
theorem dL_law_632 : decode cL_law 632 = .ok (.invokestatic 86, 3) := by decide +kernel
theorem dL_law_635 : decode cL_law 635 = .ok (.istore 5, 2) := by decide +kernel
theorem dL_law_637 : decode cL_law 637 = .ok (.aload_n 2, 1) := by decide +kernel
theorem dL_law_638 : decode cL_law 638 = .ok (.aload_n 0, 1) := by decide +kernel
theorem dL_law_639 : decode cL_law 639 = .ok (.iload 4, 2) := by decide +kernel
theorem dL_law_641 : decode cL_law 641 = .ok (.iconst 1, 1) := by decide +kernel
theorem dL_law_642 : decode cL_law 642 = .ok (.iadd, 1) := by decide +kernel
theorem dL_law_643 : decode cL_law 643 = .ok (.iaload, 1) := by decide +kernel
theorem dL_law_644 : decode cL_law 644 = .ok (.aload_n 0, 1) := by decide +kernel
theorem dL_law_645 : decode cL_law 645 = .ok (.iload 4, 2) := by decide +kernel
theorem dL_law_647 : decode cL_law 647 = .ok (.iconst 2, 1) := by decide +kernel
theorem dL_law_648 : decode cL_law 648 = .ok (.iadd, 1) := by decide +kernel
theorem dL_law_649 : decode cL_law 649 = .ok (.iaload, 1) := by decide +kernel
theorem kw_6_4 : Cond.methodLink RL 89 yX10_look ∈ gw := gw_t6 (List.mem_of_getElem? (i := 4) (by decide +kernel)) (by decide +kernel)
theorem kw_6_5 : Cond.instanceMethod yX10_look ∈ gw := gw_t6 (List.mem_of_getElem? (i := 5) (by decide +kernel)) (by decide +kernel)
theorem kw_6_6 : Cond.selects RX10 yX10_look yX10_look ∈ gw := gw_t6 (List.mem_of_getElem? (i := 6) (by decide +kernel)) (by decide +kernel)
theorem kw_6_7 : Cond.code yX10_look cX10_look 3 (some .int) ∈ gw := gw_t6 (List.mem_of_getElem? (i := 7) (by decide +kernel)) (by decide +kernel)
theorem gk_L_89 : GoodIn gw (wsV RL 89 RX10 yX10_look (.code yX10_look cX10_look 3 (some .int) :: gw)) ∧ (yX10_look.cls = RX10 ∧ yX10_look.cls ≠ "java/lang/invoke/MethodHandle" ∧ yX10_look.cls ≠ "java/lang/invoke/VarHandle" ∧ (parseMethodDescriptor yX10_look.desc).map (fun d => d.parameters.length) = some 2) := ⟨gi_V kw_6_4 kw_6_5 kw_6_6 kw_1_11 kw_6_7, by decide +kernel⟩
theorem dL_law_650 : decode cL_law 650 = .ok (.invokevirtual 89, 3) := by decide +kernel
theorem dL_law_653 : decode cL_law 653 = .ok (.istore 6, 2) := by decide +kernel
theorem dL_law_655 : decode cL_law 655 = .ok (.goto 28, 3) := by decide +kernel
theorem dL_law_658 : decode cL_law 658 = .ok (.aload_n 1, 1) := by decide +kernel
theorem dL_law_659 : decode cL_law 659 = .ok (.aload_n 0, 1) := by decide +kernel
theorem dL_law_660 : decode cL_law 660 = .ok (.iload 4, 2) := by decide +kernel
theorem dL_law_662 : decode cL_law 662 = .ok (.iconst 1, 1) := by decide +kernel
theorem dL_law_663 : decode cL_law 663 = .ok (.iadd, 1) := by decide +kernel
theorem dL_law_664 : decode cL_law 664 = .ok (.iaload, 1) := by decide +kernel
theorem kw_4_60 : Cond.methodLink RL 90 yX9_count ∈ gw := gw_t4 (List.mem_of_getElem? (i := 60) (by decide +kernel)) (by decide +kernel)
theorem kw_4_61 : Cond.instanceMethod yX9_count ∈ gw := gw_t4 (List.mem_of_getElem? (i := 61) (by decide +kernel)) (by decide +kernel)
theorem kw_4_62 : Cond.selects RX9 yX9_count yX9_count ∈ gw := gw_t4 (List.mem_of_getElem? (i := 62) (by decide +kernel)) (by decide +kernel)
theorem kw_4_63 : Cond.code yX9_count cX9_count 2 (some .int) ∈ gw := gw_t4 (List.mem_of_getElem? (i := 63) (by decide +kernel)) (by decide +kernel)
theorem gk_L_90 : GoodIn gw (wsV RL 90 RX9 yX9_count (.code yX9_count cX9_count 2 (some .int) :: gw)) ∧ (yX9_count.cls = RX9 ∧ yX9_count.cls ≠ "java/lang/invoke/MethodHandle" ∧ yX9_count.cls ≠ "java/lang/invoke/VarHandle" ∧ (parseMethodDescriptor yX9_count.desc).map (fun d => d.parameters.length) = some 1) := ⟨gi_V kw_4_60 kw_4_61 kw_4_62 kw_1_1 kw_4_63, by decide +kernel⟩
theorem dL_law_665 : decode cL_law 665 = .ok (.invokevirtual 90, 3) := by decide +kernel
theorem dL_law_668 : decode cL_law 668 = .ok (.pop, 1) := by decide +kernel
theorem dL_law_669 : decode cL_law 669 = .ok (.aload_n 2, 1) := by decide +kernel
theorem dL_law_670 : decode cL_law 670 = .ok (.aload_n 0, 1) := by decide +kernel
theorem dL_law_671 : decode cL_law 671 = .ok (.iload 4, 2) := by decide +kernel
theorem dL_law_673 : decode cL_law 673 = .ok (.iconst 1, 1) := by decide +kernel
theorem dL_law_674 : decode cL_law 674 = .ok (.iadd, 1) := by decide +kernel
theorem dL_law_675 : decode cL_law 675 = .ok (.iaload, 1) := by decide +kernel
theorem kw_6_16 : Cond.methodLink RL 93 yX10_count ∈ gw := gw_t6 (List.mem_of_getElem? (i := 16) (by decide +kernel)) (by decide +kernel)
theorem kw_6_17 : Cond.instanceMethod yX10_count ∈ gw := gw_t6 (List.mem_of_getElem? (i := 17) (by decide +kernel)) (by decide +kernel)
theorem kw_6_18 : Cond.selects RX10 yX10_count yX10_count ∈ gw := gw_t6 (List.mem_of_getElem? (i := 18) (by decide +kernel)) (by decide +kernel)
theorem kw_6_19 : Cond.code yX10_count cX10_count 4 (some .int) ∈ gw := gw_t6 (List.mem_of_getElem? (i := 19) (by decide +kernel)) (by decide +kernel)
theorem gk_L_93 : GoodIn gw (wsV RL 93 RX10 yX10_count (.code yX10_count cX10_count 4 (some .int) :: gw)) ∧ (yX10_count.cls = RX10 ∧ yX10_count.cls ≠ "java/lang/invoke/MethodHandle" ∧ yX10_count.cls ≠ "java/lang/invoke/VarHandle" ∧ (parseMethodDescriptor yX10_count.desc).map (fun d => d.parameters.length) = some 1) := ⟨gi_V kw_6_16 kw_6_17 kw_6_18 kw_1_11 kw_6_19, by decide +kernel⟩
theorem dL_law_676 : decode cL_law 676 = .ok (.invokevirtual 93, 3) := by decide +kernel
theorem dL_law_679 : decode cL_law 679 = .ok (.pop, 1) := by decide +kernel
theorem dL_law_680 : decode cL_law 680 = .ok (.goto 3, 3) := by decide +kernel
