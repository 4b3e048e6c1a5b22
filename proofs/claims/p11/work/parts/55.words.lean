theorem dX10_hour_31 : decode cX10_hour 31 = .ok (.iload_n 2, 1) := by decide +kernel
theorem dX10_hour_32 : decode cX10_hour 32 = .ok (.bipush 100, 2) := by decide +kernel
theorem dX10_hour_34 : decode cX10_hour 34 = .ok (.if_icmp .ge 98, 3) := by decide +kernel
theorem dX10_hour_37 : decode cX10_hour 37 = .ok (.iload_n 2, 1) := by decide +kernel
theorem dX10_hour_38 : decode cX10_hour 38 = .ok (.bipush 10, 2) := by decide +kernel
theorem dX10_hour_40 : decode cX10_hour 40 = .ok (.irem, 1) := by decide +kernel
theorem dX10_hour_41 : decode cX10_hour 41 = .ok (.aload_n 0, 1) := by decide +kernel
theorem dX10_hour_42 : decode cX10_hour 42 = .ok (.getfield 26, 3) := by decide +kernel
theorem dX10_hour_45 : decode cX10_hour 45 = .ok (.if_icmp .ge 81, 3) := by decide +kernel
theorem dX10_hour_126 : decode cX10_hour 126 = .ok (.iinc 2 1, 3) := by decide +kernel
theorem dX10_hour_129 : decode cX10_hour 129 = .ok (.goto (-98), 3) := by decide +kernel
theorem dX10_hour_48 : decode cX10_hour 48 = .ok (.iload_n 2, 1) := by decide +kernel
theorem dX10_hour_49 : decode cX10_hour 49 = .ok (.bipush 10, 2) := by decide +kernel
theorem dX10_hour_51 : decode cX10_hour 51 = .ok (.idiv, 1) := by decide +kernel
theorem dX10_hour_52 : decode cX10_hour 52 = .ok (.aload_n 0, 1) := by decide +kernel
theorem dX10_hour_53 : decode cX10_hour 53 = .ok (.getfield 29, 3) := by decide +kernel
theorem dX10_hour_56 : decode cX10_hour 56 = .ok (.if_icmp .lt 6, 3) := by decide +kernel
theorem dX10_hour_62 : decode cX10_hour 62 = .ok (.aload_n 0, 1) := by decide +kernel
theorem dX10_hour_63 : decode cX10_hour 63 = .ok (.getfield 32, 3) := by decide +kernel
theorem dX10_hour_66 : decode cX10_hour 66 = .ok (.iload_n 2, 1) := by decide +kernel
theorem dX10_hour_67 : decode cX10_hour 67 = .ok (.iaload, 1) := by decide +kernel
theorem dX10_hour_68 : decode cX10_hour 68 = .ok (.aload_n 0, 1) := by decide +kernel
theorem dX10_hour_69 : decode cX10_hour 69 = .ok (.getfield 13, 3) := by decide +kernel
theorem dX10_hour_72 : decode cX10_hour 72 = .ok (.iconst 5, 1) := by decide +kernel
theorem dX10_hour_73 : decode cX10_hour 73 = .ok (.iaload, 1) := by decide +kernel
theorem dX10_hour_74 : decode cX10_hour 74 = .ok (.if_icmp .lt 10, 3) := by decide +kernel
theorem dX10_hour_84 : decode cX10_hour 84 = .ok (.iload_n 1, 1) := by decide +kernel
theorem dX10_hour_85 : decode cX10_hour 85 = .ok (.aload_n 0, 1) := by decide +kernel
theorem dX10_hour_86 : decode cX10_hour 86 = .ok (.iload_n 2, 1) := by decide +kernel
theorem kw_5_181 : Cond.methodLink RX10 186 yX10_fires ∈ gw := gw_t5 (List.mem_of_getElem? (i := 181) (by decide +kernel)) (by decide +kernel)
theorem kw_5_183 : Cond.instanceMethod yX10_fires ∈ gw := gw_t5 (List.mem_of_getElem? (i := 183) (by decide +kernel)) (by decide +kernel)
theorem ks_4_3 : Cond.selects RX10 yX10_fires yX10_fires ∈ gw := gw_s (y := yX10_fires) (n := 37) (List.mem_append_right _ (List.mem_append_right _ (List.mem_append_right _ (List.mem_of_getElem? (i := 3) (by decide +kernel)))))
theorem kw_5_184 : Cond.code yX10_fires cX10_fires 5 (some .int) ∈ gw := gw_t5 (List.mem_of_getElem? (i := 184) (by decide +kernel)) (by decide +kernel)
theorem gk_X10_186 : GoodIn gw (wsV RX10 186 RX10 yX10_fires (.code yX10_fires cX10_fires 5 (some .int) :: gw)) ∧ (yX10_fires.cls = RX10 ∧ yX10_fires.cls ≠ "java/lang/invoke/MethodHandle" ∧ yX10_fires.cls ≠ "java/lang/invoke/VarHandle" ∧ (parseMethodDescriptor yX10_fires.desc).map (fun d => d.parameters.length) = some 1) := ⟨gi_V kw_5_181 kw_5_183 ks_4_3 kw_1_11 kw_5_184, by decide +kernel⟩
theorem dX10_hour_87 : decode cX10_hour 87 = .ok (.invokevirtual 186, 3) := by decide +kernel
theorem dX10_hour_90 : decode cX10_hour 90 = .ok (.isub, 1) := by decide +kernel
theorem dX10_hour_91 : decode cX10_hour 91 = .ok (.istore_n 3, 1) := by decide +kernel
theorem dX10_hour_92 : decode cX10_hour 92 = .ok (.aload_n 0, 1) := by decide +kernel
theorem dX10_hour_93 : decode cX10_hour 93 = .ok (.getfield 32, 3) := by decide +kernel
theorem dX10_hour_96 : decode cX10_hour 96 = .ok (.iload_n 2, 1) := by decide +kernel
theorem dX10_hour_97 : decode cX10_hour 97 = .ok (.aload_n 0, 1) := by decide +kernel
theorem dX10_hour_98 : decode cX10_hour 98 = .ok (.getfield 32, 3) := by decide +kernel
theorem dX10_hour_101 : decode cX10_hour 101 = .ok (.iload_n 2, 1) := by decide +kernel
theorem dX10_hour_102 : decode cX10_hour 102 = .ok (.iaload, 1) := by decide +kernel
theorem dX10_hour_103 : decode cX10_hour 103 = .ok (.iload_n 3, 1) := by decide +kernel
theorem dX10_hour_104 : decode cX10_hour 104 = .ok (.iadd, 1) := by decide +kernel
theorem kw_5_185 : Cond.methodLink RX10 189 yX10_within ∈ gw := gw_t5 (List.mem_of_getElem? (i := 185) (by decide +kernel)) (by decide +kernel)
theorem kw_5_186 : Cond.static yX10_within ∈ gw := gw_t5 (List.mem_of_getElem? (i := 186) (by decide +kernel)) (by decide +kernel)
theorem kw_5_187 : Cond.code yX10_within cX10_within 1 (some .int) ∈ gw := gw_t5 (List.mem_of_getElem? (i := 187) (by decide +kernel)) (by decide +kernel)
theorem gk_X10_189 : GoodIn gw (wsS RX10 189 yX10_within (.code yX10_within cX10_within 1 (some .int) :: gw)) ∧ (yX10_within.cls = RX10 ∧ yX10_within.cls ≠ "java/lang/invoke/MethodHandle" ∧ yX10_within.cls ≠ "java/lang/invoke/VarHandle" ∧ (parseMethodDescriptor yX10_within.desc).map (fun d => d.parameters.length) = some 1) := ⟨gi_S kw_5_185 kw_5_186 kw_1_11 kw_5_187, by decide +kernel⟩
theorem dX10_hour_105 : decode cX10_hour 105 = .ok (.invokestatic 189, 3) := by decide +kernel
theorem dX10_hour_108 : decode cX10_hour 108 = .ok (.iastore, 1) := by decide +kernel
theorem dX10_hour_109 : decode cX10_hour 109 = .ok (.aload_n 0, 1) := by decide +kernel
theorem dX10_hour_110 : decode cX10_hour 110 = .ok (.getfield 35, 3) := by decide +kernel
theorem dX10_hour_113 : decode cX10_hour 113 = .ok (.iload_n 2, 1) := by decide +kernel
theorem dX10_hour_114 : decode cX10_hour 114 = .ok (.aload_n 0, 1) := by decide +kernel
theorem dX10_hour_115 : decode cX10_hour 115 = .ok (.getfield 35, 3) := by decide +kernel
theorem dX10_hour_118 : decode cX10_hour 118 = .ok (.iload_n 2, 1) := by decide +kernel
theorem dX10_hour_119 : decode cX10_hour 119 = .ok (.iaload, 1) := by decide +kernel
theorem dX10_hour_120 : decode cX10_hour 120 = .ok (.iload_n 3, 1) := by decide +kernel
theorem dX10_hour_121 : decode cX10_hour 121 = .ok (.iadd, 1) := by decide +kernel
theorem dX10_hour_122 : decode cX10_hour 122 = .ok (.invokestatic 189, 3) := by decide +kernel
theorem dX10_hour_125 : decode cX10_hour 125 = .ok (.iastore, 1) := by decide +kernel
theorem dX10_hour_77 : decode cX10_hour 77 = .ok (.aload_n 0, 1) := by decide +kernel
theorem dX10_hour_78 : decode cX10_hour 78 = .ok (.getfield 38, 3) := by decide +kernel
theorem dX10_hour_81 : decode cX10_hour 81 = .ok (.iload_n 2, 1) := by decide +kernel
theorem dX10_hour_82 : decode cX10_hour 82 = .ok (.iconst 0, 1) := by decide +kernel
theorem dX10_hour_83 : decode cX10_hour 83 = .ok (.bastore, 1) := by decide +kernel
theorem dX10_hour_59 : decode cX10_hour 59 = .ok (.goto 67, 3) := by decide +kernel
theorem dX10_hour_145 : decode cX10_hour 145 = .ok (.iload 4, 2) := by decide +kernel
theorem dX10_hour_147 : decode cX10_hour 147 = .ok (.bipush 100, 2) := by decide +kernel
theorem dX10_hour_149 : decode cX10_hour 149 = .ok (.if_icmp .ge 100, 3) := by decide +kernel
theorem dX10_hour_152 : decode cX10_hour 152 = .ok (.aload_n 0, 1) := by decide +kernel
theorem dX10_hour_153 : decode cX10_hour 153 = .ok (.getfield 63, 3) := by decide +kernel
theorem dX10_hour_156 : decode cX10_hour 156 = .ok (.iload 4, 2) := by decide +kernel
theorem dX10_hour_158 : decode cX10_hour 158 = .ok (.iload 4, 2) := by decide +kernel
theorem dX10_hour_160 : decode cX10_hour 160 = .ok (.bipush 10, 2) := by decide +kernel
theorem dX10_hour_162 : decode cX10_hour 162 = .ok (.irem, 1) := by decide +kernel
theorem dX10_hour_163 : decode cX10_hour 163 = .ok (.aload_n 0, 1) := by decide +kernel
theorem dX10_hour_164 : decode cX10_hour 164 = .ok (.getfield 26, 3) := by decide +kernel
theorem dX10_hour_167 : decode cX10_hour 167 = .ok (.if_icmp .ge 54, 3) := by decide +kernel
theorem dX10_hour_221 : decode cX10_hour 221 = .ok (.iconst 0, 1) := by decide +kernel
theorem dX10_hour_222 : decode cX10_hour 222 = .ok (.bastore, 1) := by decide +kernel
theorem dX10_hour_223 : decode cX10_hour 223 = .ok (.iload_n 3, 1) := by decide +kernel
theorem dX10_hour_224 : decode cX10_hour 224 = .ok (.ifCond .ne 13, 3) := by decide +kernel
theorem dX10_hour_237 : decode cX10_hour 237 = .ok (.iconst 1, 1) := by decide +kernel
theorem dX10_hour_238 : decode cX10_hour 238 = .ok (.goto 4, 3) := by decide +kernel
theorem dX10_hour_242 : decode cX10_hour 242 = .ok (.istore_n 3, 1) := by decide +kernel
theorem dX10_hour_243 : decode cX10_hour 243 = .ok (.iinc 4 1, 3) := by decide +kernel
theorem dX10_hour_246 : decode cX10_hour 246 = .ok (.goto (-101), 3) := by decide +kernel
theorem dX10_hour_227 : decode cX10_hour 227 = .ok (.aload_n 0, 1) := by decide +kernel
theorem dX10_hour_228 : decode cX10_hour 228 = .ok (.getfield 63, 3) := by decide +kernel
theorem dX10_hour_231 : decode cX10_hour 231 = .ok (.iload 4, 2) := by decide +kernel
theorem dX10_hour_233 : decode cX10_hour 233 = .ok (.baload, 1) := by decide +kernel
theorem dX10_hour_234 : decode cX10_hour 234 = .ok (.ifCond .eq 7, 3) := by decide +kernel
theorem dX10_hour_241 : decode cX10_hour 241 = .ok (.iconst 0, 1) := by decide +kernel
theorem dX10_hour_170 : decode cX10_hour 170 = .ok (.iload 4, 2) := by decide +kernel
theorem dX10_hour_172 : decode cX10_hour 172 = .ok (.bipush 10, 2) := by decide +kernel
theorem dX10_hour_174 : decode cX10_hour 174 = .ok (.idiv, 1) := by decide +kernel
theorem dX10_hour_175 : decode cX10_hour 175 = .ok (.aload_n 0, 1) := by decide +kernel
theorem dX10_hour_176 : decode cX10_hour 176 = .ok (.getfield 29, 3) := by decide +kernel
theorem dX10_hour_179 : decode cX10_hour 179 = .ok (.if_icmp .ge 42, 3) := by decide +kernel
theorem dX10_hour_182 : decode cX10_hour 182 = .ok (.aload_n 0, 1) := by decide +kernel
theorem dX10_hour_183 : decode cX10_hour 183 = .ok (.getfield 38, 3) := by decide +kernel
theorem dX10_hour_186 : decode cX10_hour 186 = .ok (.iload 4, 2) := by decide +kernel
theorem dX10_hour_188 : decode cX10_hour 188 = .ok (.baload, 1) := by decide +kernel
theorem dX10_hour_189 : decode cX10_hour 189 = .ok (.ifCond .ne 32, 3) := by decide +kernel
theorem dX10_hour_192 : decode cX10_hour 192 = .ok (.aload_n 0, 1) := by decide +kernel
theorem dX10_hour_193 : decode cX10_hour 193 = .ok (.getfield 35, 3) := by decide +kernel
theorem dX10_hour_196 : decode cX10_hour 196 = .ok (.iload 4, 2) := by decide +kernel
theorem dX10_hour_198 : decode cX10_hour 198 = .ok (.iaload, 1) := by decide +kernel
theorem dX10_hour_199 : decode cX10_hour 199 = .ok (.ifCond .eq 18, 3) := by decide +kernel
theorem dX10_hour_217 : decode cX10_hour 217 = .ok (.iconst 1, 1) := by decide +kernel
theorem dX10_hour_218 : decode cX10_hour 218 = .ok (.goto 4, 3) := by decide +kernel
theorem dX10_hour_202 : decode cX10_hour 202 = .ok (.aload_n 0, 1) := by decide +kernel
theorem dX10_hour_203 : decode cX10_hour 203 = .ok (.iload 4, 2) := by decide +kernel
theorem dX10_hour_205 : decode cX10_hour 205 = .ok (.invokevirtual 165, 3) := by decide +kernel
theorem dX10_hour_208 : decode cX10_hour 208 = .ok (.aload_n 0, 1) := by decide +kernel
theorem dX10_hour_209 : decode cX10_hour 209 = .ok (.iload 4, 2) := by decide +kernel
theorem dX10_hour_211 : decode cX10_hour 211 = .ok (.invokevirtual 168, 3) := by decide +kernel
theorem dX10_hour_214 : decode cX10_hour 214 = .ok (.if_icmp .le 7, 3) := by decide +kernel
theorem dX10_hour_252 : decode cX10_hour 252 = .ok (.iload 4, 2) := by decide +kernel
theorem dX10_hour_254 : decode cX10_hour 254 = .ok (.bipush 100, 2) := by decide +kernel
theorem dX10_hour_256 : decode cX10_hour 256 = .ok (.if_icmp .ge 57, 3) := by decide +kernel
theorem dX10_hour_259 : decode cX10_hour 259 = .ok (.aload_n 0, 1) := by decide +kernel
theorem dX10_hour_260 : decode cX10_hour 260 = .ok (.getfield 63, 3) := by decide +kernel
theorem dX10_hour_263 : decode cX10_hour 263 = .ok (.iload 4, 2) := by decide +kernel
theorem dX10_hour_265 : decode cX10_hour 265 = .ok (.baload, 1) := by decide +kernel
theorem dX10_hour_266 : decode cX10_hour 266 = .ok (.ifCond .ne 6, 3) := by decide +kernel
theorem dX10_hour_272 : decode cX10_hour 272 = .ok (.aload_n 0, 1) := by decide +kernel
theorem dX10_hour_273 : decode cX10_hour 273 = .ok (.getfield 38, 3) := by decide +kernel
theorem dX10_hour_276 : decode cX10_hour 276 = .ok (.iload 4, 2) := by decide +kernel
theorem dX10_hour_278 : decode cX10_hour 278 = .ok (.iconst 1, 1) := by decide +kernel
theorem dX10_hour_279 : decode cX10_hour 279 = .ok (.bastore, 1) := by decide +kernel
theorem dX10_hour_280 : decode cX10_hour 280 = .ok (.aload_n 0, 1) := by decide +kernel
theorem dX10_hour_281 : decode cX10_hour 281 = .ok (.iload 4, 2) := by decide +kernel
theorem dX10_hour_283 : decode cX10_hour 283 = .ok (.invokevirtual 177, 3) := by decide +kernel
theorem dX10_hour_286 : decode cX10_hour 286 = .ok (.istore 5, 2) := by decide +kernel
theorem dX10_hour_288 : decode cX10_hour 288 = .ok (.iload 5, 2) := by decide +kernel
theorem dX10_hour_290 : decode cX10_hour 290 = .ok (.ifCond .ge 6, 3) := by decide +kernel
theorem dX10_hour_296 : decode cX10_hour 296 = .ok (.aload_n 0, 1) := by decide +kernel
theorem dX10_hour_297 : decode cX10_hour 297 = .ok (.getfield 51, 3) := by decide +kernel
theorem dX10_hour_300 : decode cX10_hour 300 = .ok (.iload 5, 2) := by decide +kernel
theorem dX10_hour_302 : decode cX10_hour 302 = .ok (.iconst 2, 1) := by decide +kernel
theorem dX10_hour_303 : decode cX10_hour 303 = .ok (.iastore, 1) := by decide +kernel
theorem dX10_hour_304 : decode cX10_hour 304 = .ok (.iinc 2 1, 3) := by decide +kernel
theorem dX10_hour_307 : decode cX10_hour 307 = .ok (.iinc 4 1, 3) := by decide +kernel
theorem dX10_hour_310 : decode cX10_hour 310 = .ok (.goto (-58), 3) := by decide +kernel
theorem dX10_hour_293 : decode cX10_hour 293 = .ok (.goto 14, 3) := by decide +kernel
theorem dX10_hour_269 : decode cX10_hour 269 = .ok (.goto 38, 3) := by decide +kernel
theorem dX10_hour_136 : decode cX10_hour 136 = .ok (.iload_n 3, 1) := by decide +kernel
theorem dX10_hour_137 : decode cX10_hour 137 = .ok (.ifCond .eq 179, 3) := by decide +kernel
theorem dX10_hour_140 : decode cX10_hour 140 = .ok (.iconst 0, 1) := by decide +kernel
theorem dX10_hour_141 : decode cX10_hour 141 = .ok (.istore_n 3, 1) := by decide +kernel
theorem dX10_hour_142 : decode cX10_hour 142 = .ok (.iconst 0, 1) := by decide +kernel
theorem dX10_hour_143 : decode cX10_hour 143 = .ok (.istore 4, 2) := by decide +kernel
theorem dX10_hour_249 : decode cX10_hour 249 = .ok (.iconst 0, 1) := by decide +kernel
theorem dX10_hour_250 : decode cX10_hour 250 = .ok (.istore 4, 2) := by decide +kernel
theorem dX10_hour_313 : decode cX10_hour 313 = .ok (.goto (-177), 3) := by decide +kernel
theorem dX10_hour_0 : decode cX10_hour 0 = .ok (.aload_n 0, 1) := by decide +kernel
theorem dX10_hour_1 : decode cX10_hour 1 = .ok (.iconst 0, 1) := by decide +kernel
theorem dX10_hour_2 : decode cX10_hour 2 = .ok (.putfield 78, 3) := by decide +kernel
theorem dX10_hour_5 : decode cX10_hour 5 = .ok (.iload_n 1, 1) := by decide +kernel
theorem dX10_hour_6 : decode cX10_hour 6 = .ok (.bipush (-9), 2) := by decide +kernel
theorem dX10_hour_8 : decode cX10_hour 8 = .ok (.if_icmp .lt 9, 3) := by decide +kernel
theorem dX10_hour_17 : decode cX10_hour 17 = .ok (.iconst (-1), 1) := by decide +kernel
theorem dX10_hour_18 : decode cX10_hour 18 = .ok (.ireturn, 1) := by decide +kernel
theorem dX10_hour_11 : decode cX10_hour 11 = .ok (.iload_n 1, 1) := by decide +kernel
theorem dX10_hour_12 : decode cX10_hour 12 = .ok (.bipush 9, 2) := by decide +kernel
theorem dX10_hour_14 : decode cX10_hour 14 = .ok (.if_icmp .le 5, 3) := by decide +kernel
theorem dX10_hour_19 : decode cX10_hour 19 = .ok (.aload_n 0, 1) := by decide +kernel
theorem dX10_hour_20 : decode cX10_hour 20 = .ok (.dup, 1) := by decide +kernel
theorem dX10_hour_21 : decode cX10_hour 21 = .ok (.getfield 149, 3) := by decide +kernel
theorem dX10_hour_24 : decode cX10_hour 24 = .ok (.iconst 1, 1) := by decide +kernel
theorem dX10_hour_25 : decode cX10_hour 25 = .ok (.iadd, 1) := by decide +kernel
theorem dX10_hour_26 : decode cX10_hour 26 = .ok (.putfield 149, 3) := by decide +kernel
theorem dX10_hour_29 : decode cX10_hour 29 = .ok (.iconst 0, 1) := by decide +kernel
theorem dX10_hour_30 : decode cX10_hour 30 = .ok (.istore_n 2, 1) := by decide +kernel
theorem dX10_hour_132 : decode cX10_hour 132 = .ok (.iconst 0, 1) := by decide +kernel
theorem dX10_hour_133 : decode cX10_hour 133 = .ok (.istore_n 2, 1) := by decide +kernel
theorem dX10_hour_134 : decode cX10_hour 134 = .ok (.iconst 1, 1) := by decide +kernel
theorem dX10_hour_135 : decode cX10_hour 135 = .ok (.istore_n 3, 1) := by decide +kernel
theorem dX10_hour_316 : decode cX10_hour 316 = .ok (.iload_n 2, 1) := by decide +kernel
theorem dX10_hour_317 : decode cX10_hour 317 = .ok (.ireturn, 1) := by decide +kernel
theorem dX10_lay_14 : decode cX10_lay 14 = .ok (.iload_n 2, 1) := by decide +kernel
theorem dX10_lay_15 : decode cX10_lay 15 = .ok (.aload_n 0, 1) := by decide +kernel
theorem dX10_lay_16 : decode cX10_lay 16 = .ok (.getfield 146, 3) := by decide +kernel
theorem dX10_lay_19 : decode cX10_lay 19 = .ok (.if_icmp .ge 31, 3) := by decide +kernel
theorem dX10_lay_22 : decode cX10_lay 22 = .ok (.aload_n 0, 1) := by decide +kernel
theorem dX10_lay_23 : decode cX10_lay 23 = .ok (.getfield 51, 3) := by decide +kernel
theorem dX10_lay_26 : decode cX10_lay 26 = .ok (.iload_n 2, 1) := by decide +kernel
theorem dX10_lay_27 : decode cX10_lay 27 = .ok (.iaload, 1) := by decide +kernel
theorem dX10_lay_28 : decode cX10_lay 28 = .ok (.ifCond .eq 6, 3) := by decide +kernel
theorem dX10_lay_34 : decode cX10_lay 34 = .ok (.aload_n 0, 1) := by decide +kernel
theorem dX10_lay_35 : decode cX10_lay 35 = .ok (.getfield 66, 3) := by decide +kernel
theorem dX10_lay_38 : decode cX10_lay 38 = .ok (.iload_n 1, 1) := by decide +kernel
theorem dX10_lay_39 : decode cX10_lay 39 = .ok (.iload_n 2, 1) := by decide +kernel
theorem dX10_lay_40 : decode cX10_lay 40 = .ok (.iastore, 1) := by decide +kernel
theorem dX10_lay_41 : decode cX10_lay 41 = .ok (.iinc 1 1, 3) := by decide +kernel
theorem dX10_lay_44 : decode cX10_lay 44 = .ok (.iinc 2 1, 3) := by decide +kernel
theorem dX10_lay_47 : decode cX10_lay 47 = .ok (.goto (-33), 3) := by decide +kernel
theorem dX10_lay_31 : decode cX10_lay 31 = .ok (.goto 13, 3) := by decide +kernel
theorem dX10_lay_92 : decode cX10_lay 92 = .ok (.iload 4, 2) := by decide +kernel
theorem dX10_lay_94 : decode cX10_lay 94 = .ok (.bipush 100, 2) := by decide +kernel
theorem dX10_lay_96 : decode cX10_lay 96 = .ok (.if_icmp .ge 123, 3) := by decide +kernel
theorem dX10_lay_99 : decode cX10_lay 99 = .ok (.iload_n 3, 1) := by decide +kernel
theorem dX10_lay_100 : decode cX10_lay 100 = .ok (.ifCond .ne 119, 3) := by decide +kernel
theorem dX10_lay_103 : decode cX10_lay 103 = .ok (.iload 4, 2) := by decide +kernel
theorem dX10_lay_105 : decode cX10_lay 105 = .ok (.bipush 10, 2) := by decide +kernel
theorem dX10_lay_107 : decode cX10_lay 107 = .ok (.irem, 1) := by decide +kernel
theorem dX10_lay_108 : decode cX10_lay 108 = .ok (.aload_n 0, 1) := by decide +kernel
theorem dX10_lay_109 : decode cX10_lay 109 = .ok (.getfield 26, 3) := by decide +kernel
theorem dX10_lay_112 : decode cX10_lay 112 = .ok (.if_icmp .ge 97, 3) := by decide +kernel
theorem dX10_lay_209 : decode cX10_lay 209 = .ok (.iload_n 3, 1) := by decide +kernel
theorem dX10_lay_210 : decode cX10_lay 210 = .ok (.ifCond .ne (-118), 3) := by decide +kernel
theorem dX10_lay_213 : decode cX10_lay 213 = .ok (.iinc 4 1, 3) := by decide +kernel
theorem dX10_lay_216 : decode cX10_lay 216 = .ok (.goto (-124), 3) := by decide +kernel
theorem dX10_lay_115 : decode cX10_lay 115 = .ok (.iload 4, 2) := by decide +kernel
theorem dX10_lay_117 : decode cX10_lay 117 = .ok (.bipush 10, 2) := by decide +kernel
theorem dX10_lay_119 : decode cX10_lay 119 = .ok (.idiv, 1) := by decide +kernel
theorem dX10_lay_120 : decode cX10_lay 120 = .ok (.aload_n 0, 1) := by decide +kernel
theorem dX10_lay_121 : decode cX10_lay 121 = .ok (.getfield 29, 3) := by decide +kernel
theorem dX10_lay_124 : decode cX10_lay 124 = .ok (.if_icmp .ge 85, 3) := by decide +kernel
theorem dX10_lay_127 : decode cX10_lay 127 = .ok (.aload_n 0, 1) := by decide +kernel
theorem dX10_lay_128 : decode cX10_lay 128 = .ok (.iload 4, 2) := by decide +kernel
theorem dX10_lay_130 : decode cX10_lay 130 = .ok (.invokevirtual 174, 3) := by decide +kernel
theorem dX10_lay_133 : decode cX10_lay 133 = .ok (.ifCond .eq 76, 3) := by decide +kernel
theorem dX10_lay_136 : decode cX10_lay 136 = .ok (.aload_n 0, 1) := by decide +kernel
theorem dX10_lay_137 : decode cX10_lay 137 = .ok (.iload 4, 2) := by decide +kernel
theorem dX10_lay_139 : decode cX10_lay 139 = .ok (.invokevirtual 177, 3) := by decide +kernel
theorem dX10_lay_142 : decode cX10_lay 142 = .ok (.ifCond .ge 67, 3) := by decide +kernel
theorem dX10_lay_145 : decode cX10_lay 145 = .ok (.aload_n 0, 1) := by decide +kernel
theorem kw_4_218 : Cond.fieldLink RX10 192 "IceFairModel" "looks" "I" ∈ gw := gw_t4 (List.mem_of_getElem? (i := 218) (by decide +kernel)) (by decide +kernel)
theorem dX10_lay_146 : decode cX10_lay 146 = .ok (.getfield 192, 3) := by decide +kernel
theorem dX10_lay_149 : decode cX10_lay 149 = .ok (.sipush 20000, 3) := by decide +kernel
theorem dX10_lay_152 : decode cX10_lay 152 = .ok (.if_icmp .ne 34, 3) := by decide +kernel
theorem dX10_lay_186 : decode cX10_lay 186 = .ok (.aload_n 0, 1) := by decide +kernel
theorem dX10_lay_187 : decode cX10_lay 187 = .ok (.dup, 1) := by decide +kernel
theorem dX10_lay_188 : decode cX10_lay 188 = .ok (.getfield 192, 3) := by decide +kernel
theorem dX10_lay_191 : decode cX10_lay 191 = .ok (.iconst 1, 1) := by decide +kernel
theorem dX10_lay_192 : decode cX10_lay 192 = .ok (.iadd, 1) := by decide +kernel
theorem dX10_lay_193 : decode cX10_lay 193 = .ok (.putfield 192, 3) := by decide +kernel
theorem dX10_lay_196 : decode cX10_lay 196 = .ok (.aload_n 0, 1) := by decide +kernel
theorem dX10_lay_197 : decode cX10_lay 197 = .ok (.aload_n 0, 1) := by decide +kernel
theorem dX10_lay_198 : decode cX10_lay 198 = .ok (.getfield 66, 3) := by decide +kernel
theorem dX10_lay_201 : decode cX10_lay 201 = .ok (.iload_n 2, 1) := by decide +kernel
theorem dX10_lay_202 : decode cX10_lay 202 = .ok (.iaload, 1) := by decide +kernel
theorem dX10_lay_203 : decode cX10_lay 203 = .ok (.iload 4, 2) := by decide +kernel
theorem dX10_lay_205 : decode cX10_lay 205 = .ok (.invokevirtual 180, 3) := by decide +kernel
theorem dX10_lay_208 : decode cX10_lay 208 = .ok (.istore_n 3, 1) := by decide +kernel
theorem dX10_lay_59 : decode cX10_lay 59 = .ok (.iload_n 2, 1) := by decide +kernel
theorem dX10_lay_60 : decode cX10_lay 60 = .ok (.ifCond .lt 220, 3) := by decide +kernel
theorem dX10_lay_63 : decode cX10_lay 63 = .ok (.iload_n 2, 1) := by decide +kernel
theorem dX10_lay_64 : decode cX10_lay 64 = .ok (.iload_n 1, 1) := by decide +kernel
theorem dX10_lay_65 : decode cX10_lay 65 = .ok (.if_icmp .ge 215, 3) := by decide +kernel
theorem dX10_lay_68 : decode cX10_lay 68 = .ok (.aload_n 0, 1) := by decide +kernel
theorem dX10_lay_69 : decode cX10_lay 69 = .ok (.getfield 51, 3) := by decide +kernel
theorem dX10_lay_72 : decode cX10_lay 72 = .ok (.aload_n 0, 1) := by decide +kernel
theorem dX10_lay_73 : decode cX10_lay 73 = .ok (.getfield 66, 3) := by decide +kernel
theorem dX10_lay_76 : decode cX10_lay 76 = .ok (.iload_n 2, 1) := by decide +kernel
theorem dX10_lay_77 : decode cX10_lay 77 = .ok (.iaload, 1) := by decide +kernel
theorem dX10_lay_78 : decode cX10_lay 78 = .ok (.iconst 0, 1) := by decide +kernel
theorem dX10_lay_79 : decode cX10_lay 79 = .ok (.iastore, 1) := by decide +kernel
theorem dX10_lay_80 : decode cX10_lay 80 = .ok (.iconst 0, 1) := by decide +kernel
theorem dX10_lay_81 : decode cX10_lay 81 = .ok (.istore_n 3, 1) := by decide +kernel
theorem dX10_lay_82 : decode cX10_lay 82 = .ok (.aload_n 0, 1) := by decide +kernel
theorem dX10_lay_83 : decode cX10_lay 83 = .ok (.getfield 69, 3) := by decide +kernel
theorem dX10_lay_86 : decode cX10_lay 86 = .ok (.iload_n 2, 1) := by decide +kernel
theorem dX10_lay_87 : decode cX10_lay 87 = .ok (.iaload, 1) := by decide +kernel
theorem dX10_lay_88 : decode cX10_lay 88 = .ok (.iconst 1, 1) := by decide +kernel
theorem dX10_lay_89 : decode cX10_lay 89 = .ok (.iadd, 1) := by decide +kernel
theorem dX10_lay_90 : decode cX10_lay 90 = .ok (.istore 4, 2) := by decide +kernel
theorem dX10_lay_219 : decode cX10_lay 219 = .ok (.iload_n 3, 1) := by decide +kernel
theorem dX10_lay_220 : decode cX10_lay 220 = .ok (.ifCond .eq 54, 3) := by decide +kernel
theorem dX10_lay_274 : decode cX10_lay 274 = .ok (.iinc 2 (-1), 3) := by decide +kernel
theorem dX10_lay_277 : decode cX10_lay 277 = .ok (.goto (-218), 3) := by decide +kernel
theorem dX10_lay_223 : decode cX10_lay 223 = .ok (.aload_n 0, 1) := by decide +kernel
theorem dX10_lay_224 : decode cX10_lay 224 = .ok (.getfield 69, 3) := by decide +kernel
theorem dX10_lay_227 : decode cX10_lay 227 = .ok (.iload_n 2, 1) := by decide +kernel
theorem dX10_lay_228 : decode cX10_lay 228 = .ok (.iload 4, 2) := by decide +kernel
theorem dX10_lay_230 : decode cX10_lay 230 = .ok (.iastore, 1) := by decide +kernel
theorem dX10_lay_231 : decode cX10_lay 231 = .ok (.aload_n 0, 1) := by decide +kernel
theorem dX10_lay_232 : decode cX10_lay 232 = .ok (.getfield 51, 3) := by decide +kernel
theorem dX10_lay_235 : decode cX10_lay 235 = .ok (.aload_n 0, 1) := by decide +kernel
theorem dX10_lay_236 : decode cX10_lay 236 = .ok (.getfield 66, 3) := by decide +kernel
theorem dX10_lay_239 : decode cX10_lay 239 = .ok (.iload_n 2, 1) := by decide +kernel
theorem dX10_lay_240 : decode cX10_lay 240 = .ok (.iaload, 1) := by decide +kernel
theorem dX10_lay_241 : decode cX10_lay 241 = .ok (.iconst 1, 1) := by decide +kernel
theorem dX10_lay_242 : decode cX10_lay 242 = .ok (.iastore, 1) := by decide +kernel
theorem dX10_lay_243 : decode cX10_lay 243 = .ok (.aload_n 0, 1) := by decide +kernel
theorem dX10_lay_244 : decode cX10_lay 244 = .ok (.getfield 54, 3) := by decide +kernel
theorem dX10_lay_247 : decode cX10_lay 247 = .ok (.aload_n 0, 1) := by decide +kernel
theorem dX10_lay_248 : decode cX10_lay 248 = .ok (.getfield 66, 3) := by decide +kernel
theorem dX10_lay_251 : decode cX10_lay 251 = .ok (.iload_n 2, 1) := by decide +kernel
theorem dX10_lay_252 : decode cX10_lay 252 = .ok (.iaload, 1) := by decide +kernel
theorem dX10_lay_253 : decode cX10_lay 253 = .ok (.iload 4, 2) := by decide +kernel
theorem dX10_lay_255 : decode cX10_lay 255 = .ok (.iastore, 1) := by decide +kernel
theorem dX10_lay_256 : decode cX10_lay 256 = .ok (.iinc 2 1, 3) := by decide +kernel
theorem dX10_lay_259 : decode cX10_lay 259 = .ok (.iload_n 2, 1) := by decide +kernel
theorem dX10_lay_260 : decode cX10_lay 260 = .ok (.iload_n 1, 1) := by decide +kernel
theorem dX10_lay_261 : decode cX10_lay 261 = .ok (.if_icmp .ge 16, 3) := by decide +kernel
theorem dX10_lay_264 : decode cX10_lay 264 = .ok (.aload_n 0, 1) := by decide +kernel
theorem dX10_lay_265 : decode cX10_lay 265 = .ok (.getfield 69, 3) := by decide +kernel
theorem dX10_lay_268 : decode cX10_lay 268 = .ok (.iload_n 2, 1) := by decide +kernel
theorem dX10_lay_269 : decode cX10_lay 269 = .ok (.iconst (-1), 1) := by decide +kernel
theorem dX10_lay_270 : decode cX10_lay 270 = .ok (.iastore, 1) := by decide +kernel
theorem dX10_lay_271 : decode cX10_lay 271 = .ok (.goto 6, 3) := by decide +kernel
theorem dX10_lay_158 : decode cX10_lay 158 = .ok (.iload 5, 2) := by decide +kernel
theorem dX10_lay_160 : decode cX10_lay 160 = .ok (.iload_n 1, 1) := by decide +kernel
theorem dX10_lay_161 : decode cX10_lay 161 = .ok (.if_icmp .ge 22, 3) := by decide +kernel
theorem dX10_lay_164 : decode cX10_lay 164 = .ok (.aload_n 0, 1) := by decide +kernel
theorem dX10_lay_165 : decode cX10_lay 165 = .ok (.getfield 51, 3) := by decide +kernel
theorem dX10_lay_168 : decode cX10_lay 168 = .ok (.aload_n 0, 1) := by decide +kernel
theorem dX10_lay_169 : decode cX10_lay 169 = .ok (.getfield 66, 3) := by decide +kernel
theorem dX10_lay_172 : decode cX10_lay 172 = .ok (.iload 5, 2) := by decide +kernel
theorem dX10_lay_174 : decode cX10_lay 174 = .ok (.iaload, 1) := by decide +kernel
theorem dX10_lay_175 : decode cX10_lay 175 = .ok (.iconst 0, 1) := by decide +kernel
theorem dX10_lay_176 : decode cX10_lay 176 = .ok (.iastore, 1) := by decide +kernel
theorem dX10_lay_177 : decode cX10_lay 177 = .ok (.iinc 5 1, 3) := by decide +kernel
theorem dX10_lay_180 : decode cX10_lay 180 = .ok (.goto (-22), 3) := by decide +kernel
theorem dX10_lay_288 : decode cX10_lay 288 = .ok (.iload_n 3, 1) := by decide +kernel
theorem dX10_lay_289 : decode cX10_lay 289 = .ok (.iload_n 1, 1) := by decide +kernel
theorem dX10_lay_290 : decode cX10_lay 290 = .ok (.if_icmp .ge 28, 3) := by decide +kernel
theorem dX10_lay_293 : decode cX10_lay 293 = .ok (.aload_n 0, 1) := by decide +kernel
theorem dX10_lay_294 : decode cX10_lay 294 = .ok (.dup, 1) := by decide +kernel
theorem dX10_lay_295 : decode cX10_lay 295 = .ok (.getfield 152, 3) := by decide +kernel
theorem dX10_lay_298 : decode cX10_lay 298 = .ok (.aload_n 0, 1) := by decide +kernel
theorem dX10_lay_299 : decode cX10_lay 299 = .ok (.aload_n 0, 1) := by decide +kernel
theorem dX10_lay_300 : decode cX10_lay 300 = .ok (.getfield 66, 3) := by decide +kernel
theorem dX10_lay_303 : decode cX10_lay 303 = .ok (.iload_n 3, 1) := by decide +kernel
theorem dX10_lay_304 : decode cX10_lay 304 = .ok (.iaload, 1) := by decide +kernel
theorem dX10_lay_305 : decode cX10_lay 305 = .ok (.invokevirtual 183, 3) := by decide +kernel
theorem dX10_lay_308 : decode cX10_lay 308 = .ok (.iadd, 1) := by decide +kernel
theorem dX10_lay_309 : decode cX10_lay 309 = .ok (.putfield 152, 3) := by decide +kernel
theorem dX10_lay_312 : decode cX10_lay 312 = .ok (.iinc 3 1, 3) := by decide +kernel
theorem dX10_lay_315 : decode cX10_lay 315 = .ok (.goto (-27), 3) := by decide +kernel
theorem dX10_lay_0 : decode cX10_lay 0 = .ok (.aload_n 0, 1) := by decide +kernel
theorem dX10_lay_1 : decode cX10_lay 1 = .ok (.iconst 0, 1) := by decide +kernel
theorem dX10_lay_2 : decode cX10_lay 2 = .ok (.putfield 78, 3) := by decide +kernel
theorem dX10_lay_5 : decode cX10_lay 5 = .ok (.aload_n 0, 1) := by decide +kernel
theorem dX10_lay_6 : decode cX10_lay 6 = .ok (.iconst 0, 1) := by decide +kernel
theorem dX10_lay_7 : decode cX10_lay 7 = .ok (.putfield 192, 3) := by decide +kernel
theorem dX10_lay_10 : decode cX10_lay 10 = .ok (.iconst 0, 1) := by decide +kernel
theorem dX10_lay_11 : decode cX10_lay 11 = .ok (.istore_n 1, 1) := by decide +kernel
theorem dX10_lay_12 : decode cX10_lay 12 = .ok (.iconst 0, 1) := by decide +kernel
theorem dX10_lay_13 : decode cX10_lay 13 = .ok (.istore_n 2, 1) := by decide +kernel
theorem dX10_lay_50 : decode cX10_lay 50 = .ok (.iconst 0, 1) := by decide +kernel
theorem dX10_lay_51 : decode cX10_lay 51 = .ok (.istore_n 2, 1) := by decide +kernel
theorem dX10_lay_52 : decode cX10_lay 52 = .ok (.aload_n 0, 1) := by decide +kernel
theorem dX10_lay_53 : decode cX10_lay 53 = .ok (.getfield 69, 3) := by decide +kernel
theorem dX10_lay_56 : decode cX10_lay 56 = .ok (.iconst 0, 1) := by decide +kernel
theorem dX10_lay_57 : decode cX10_lay 57 = .ok (.iconst (-1), 1) := by decide +kernel
theorem dX10_lay_58 : decode cX10_lay 58 = .ok (.iastore, 1) := by decide +kernel
theorem dX10_lay_155 : decode cX10_lay 155 = .ok (.iconst 0, 1) := by decide +kernel
theorem dX10_lay_156 : decode cX10_lay 156 = .ok (.istore 5, 2) := by decide +kernel
theorem dX10_lay_183 : decode cX10_lay 183 = .ok (.bipush (-2), 2) := by decide +kernel
theorem dX10_lay_185 : decode cX10_lay 185 = .ok (.ireturn, 1) := by decide +kernel
theorem dX10_lay_280 : decode cX10_lay 280 = .ok (.iload_n 2, 1) := by decide +kernel
theorem dX10_lay_281 : decode cX10_lay 281 = .ok (.ifCond .ge 5, 3) := by decide +kernel
theorem dX10_lay_286 : decode cX10_lay 286 = .ok (.iconst 0, 1) := by decide +kernel
theorem dX10_lay_287 : decode cX10_lay 287 = .ok (.istore_n 3, 1) := by decide +kernel
theorem dX10_lay_318 : decode cX10_lay 318 = .ok (.iload_n 1, 1) := by decide +kernel
theorem dX10_lay_319 : decode cX10_lay 319 = .ok (.ireturn, 1) := by decide +kernel
theorem dX10_lay_284 : decode cX10_lay 284 = .ok (.iconst (-1), 1) := by decide +kernel
theorem dX10_lay_285 : decode cX10_lay 285 = .ok (.ireturn, 1) := by decide +kernel
theorem dX10_isStair_0 : decode cX10_isStair 0 = .ok (.aload_n 0, 1) := by decide +kernel
theorem dX10_isStair_1 : decode cX10_isStair 1 = .ok (.aload_n 0, 1) := by decide +kernel
theorem dX10_isStair_2 : decode cX10_isStair 2 = .ok (.getfield 19, 3) := by decide +kernel
theorem dX10_isStair_5 : decode cX10_isStair 5 = .ok (.iconst 2, 1) := by decide +kernel
theorem dX10_isStair_6 : decode cX10_isStair 6 = .ok (.iload_n 1, 1) := by decide +kernel
theorem dX10_isStair_7 : decode cX10_isStair 7 = .ok (.imul, 1) := by decide +kernel
theorem dX10_isStair_8 : decode cX10_isStair 8 = .ok (.iaload, 1) := by decide +kernel
theorem dX10_isStair_9 : decode cX10_isStair 9 = .ok (.bipush 10, 2) := by decide +kernel
theorem dX10_isStair_11 : decode cX10_isStair 11 = .ok (.irem, 1) := by decide +kernel
theorem dX10_isStair_12 : decode cX10_isStair 12 = .ok (.aload_n 0, 1) := by decide +kernel
theorem dX10_isStair_13 : decode cX10_isStair 13 = .ok (.getfield 19, 3) := by decide +kernel
theorem dX10_isStair_16 : decode cX10_isStair 16 = .ok (.iconst 2, 1) := by decide +kernel
theorem dX10_isStair_17 : decode cX10_isStair 17 = .ok (.iload_n 1, 1) := by decide +kernel
theorem dX10_isStair_18 : decode cX10_isStair 18 = .ok (.imul, 1) := by decide +kernel
theorem dX10_isStair_19 : decode cX10_isStair 19 = .ok (.iaload, 1) := by decide +kernel
theorem dX10_isStair_20 : decode cX10_isStair 20 = .ok (.bipush 10, 2) := by decide +kernel
theorem dX10_isStair_22 : decode cX10_isStair 22 = .ok (.idiv, 1) := by decide +kernel
theorem dX10_isStair_23 : decode cX10_isStair 23 = .ok (.invokevirtual 155, 3) := by decide +kernel
theorem dX10_isStair_26 : decode cX10_isStair 26 = .ok (.ifCond .eq 22, 3) := by decide +kernel
theorem dX10_isStair_48 : decode cX10_isStair 48 = .ok (.iconst 0, 1) := by decide +kernel
theorem dX10_isStair_49 : decode cX10_isStair 49 = .ok (.ireturn, 1) := by decide +kernel
theorem dX10_isStair_29 : decode cX10_isStair 29 = .ok (.aload_n 0, 1) := by decide +kernel
theorem dX10_isStair_30 : decode cX10_isStair 30 = .ok (.aload_n 0, 1) := by decide +kernel
theorem dX10_isStair_31 : decode cX10_isStair 31 = .ok (.getfield 19, 3) := by decide +kernel
theorem dX10_isStair_34 : decode cX10_isStair 34 = .ok (.iconst 2, 1) := by decide +kernel
theorem dX10_isStair_35 : decode cX10_isStair 35 = .ok (.iload_n 1, 1) := by decide +kernel
theorem dX10_isStair_36 : decode cX10_isStair 36 = .ok (.imul, 1) := by decide +kernel
theorem dX10_isStair_37 : decode cX10_isStair 37 = .ok (.iaload, 1) := by decide +kernel
theorem dX10_isStair_38 : decode cX10_isStair 38 = .ok (.invokevirtual 174, 3) := by decide +kernel
theorem dX10_isStair_41 : decode cX10_isStair 41 = .ok (.ifCond .eq 7, 3) := by decide +kernel
theorem dX10_isStair_44 : decode cX10_isStair 44 = .ok (.iconst 1, 1) := by decide +kernel
theorem dX10_isStair_45 : decode cX10_isStair 45 = .ok (.goto 4, 3) := by decide +kernel
theorem dX10_beside_8 : decode cX10_beside 8 = .ok (.iload 5, 2) := by decide +kernel
theorem dX10_beside_10 : decode cX10_beside 10 = .ok (.iconst 4, 1) := by decide +kernel
theorem dX10_beside_11 : decode cX10_beside 11 = .ok (.if_icmp .ge 127, 3) := by decide +kernel
theorem dX10_beside_14 : decode cX10_beside 14 = .ok (.iload_n 2, 1) := by decide +kernel
theorem dX10_beside_15 : decode cX10_beside 15 = .ok (.iload 5, 2) := by decide +kernel
theorem dX10_beside_17 : decode cX10_beside 17 = .ok (.ifCond .ne 7, 3) := by decide +kernel
theorem dX10_beside_24 : decode cX10_beside 24 = .ok (.iload 5, 2) := by decide +kernel
theorem dX10_beside_26 : decode cX10_beside 26 = .ok (.iconst 1, 1) := by decide +kernel
theorem dX10_beside_27 : decode cX10_beside 27 = .ok (.if_icmp .ne 7, 3) := by decide +kernel
theorem dX10_beside_34 : decode cX10_beside 34 = .ok (.iconst 0, 1) := by decide +kernel
theorem dX10_beside_35 : decode cX10_beside 35 = .ok (.iadd, 1) := by decide +kernel
theorem dX10_beside_36 : decode cX10_beside 36 = .ok (.istore 6, 2) := by decide +kernel
theorem dX10_beside_38 : decode cX10_beside 38 = .ok (.iload_n 3, 1) := by decide +kernel
theorem dX10_beside_39 : decode cX10_beside 39 = .ok (.iload 5, 2) := by decide +kernel
theorem dX10_beside_41 : decode cX10_beside 41 = .ok (.iconst 2, 1) := by decide +kernel
theorem dX10_beside_42 : decode cX10_beside 42 = .ok (.if_icmp .ne 7, 3) := by decide +kernel
theorem dX10_beside_49 : decode cX10_beside 49 = .ok (.iload 5, 2) := by decide +kernel
theorem dX10_beside_51 : decode cX10_beside 51 = .ok (.iconst 3, 1) := by decide +kernel
theorem dX10_beside_52 : decode cX10_beside 52 = .ok (.if_icmp .ne 7, 3) := by decide +kernel
theorem dX10_beside_59 : decode cX10_beside 59 = .ok (.iconst 0, 1) := by decide +kernel
theorem dX10_beside_60 : decode cX10_beside 60 = .ok (.iadd, 1) := by decide +kernel
theorem dX10_beside_61 : decode cX10_beside 61 = .ok (.istore 7, 2) := by decide +kernel
theorem dX10_beside_63 : decode cX10_beside 63 = .ok (.aload_n 0, 1) := by decide +kernel
theorem dX10_beside_64 : decode cX10_beside 64 = .ok (.iload 6, 2) := by decide +kernel
theorem dX10_beside_66 : decode cX10_beside 66 = .ok (.iload 7, 2) := by decide +kernel
theorem dX10_beside_68 : decode cX10_beside 68 = .ok (.invokevirtual 155, 3) := by decide +kernel
theorem dX10_beside_71 : decode cX10_beside 71 = .ok (.ifCond .eq 61, 3) := by decide +kernel
theorem dX10_beside_132 : decode cX10_beside 132 = .ok (.iinc 5 1, 3) := by decide +kernel
theorem dX10_beside_135 : decode cX10_beside 135 = .ok (.goto (-127), 3) := by decide +kernel
theorem dX10_beside_74 : decode cX10_beside 74 = .ok (.aload_n 0, 1) := by decide +kernel
theorem dX10_beside_75 : decode cX10_beside 75 = .ok (.bipush 10, 2) := by decide +kernel
theorem dX10_beside_77 : decode cX10_beside 77 = .ok (.iload 7, 2) := by decide +kernel
theorem dX10_beside_79 : decode cX10_beside 79 = .ok (.imul, 1) := by decide +kernel
theorem dX10_beside_80 : decode cX10_beside 80 = .ok (.iload 6, 2) := by decide +kernel
theorem dX10_beside_82 : decode cX10_beside 82 = .ok (.iadd, 1) := by decide +kernel
theorem dX10_beside_83 : decode cX10_beside 83 = .ok (.invokevirtual 174, 3) := by decide +kernel
theorem dX10_beside_86 : decode cX10_beside 86 = .ok (.ifCond .eq 46, 3) := by decide +kernel
theorem dX10_beside_89 : decode cX10_beside 89 = .ok (.aload_n 0, 1) := by decide +kernel
theorem dX10_beside_90 : decode cX10_beside 90 = .ok (.getfield 72, 3) := by decide +kernel
theorem dX10_beside_93 : decode cX10_beside 93 = .ok (.bipush 100, 2) := by decide +kernel
theorem dX10_beside_95 : decode cX10_beside 95 = .ok (.iload_n 1, 1) := by decide +kernel
theorem dX10_beside_96 : decode cX10_beside 96 = .ok (.imul, 1) := by decide +kernel
theorem dX10_beside_97 : decode cX10_beside 97 = .ok (.bipush 10, 2) := by decide +kernel
theorem dX10_beside_99 : decode cX10_beside 99 = .ok (.iload 7, 2) := by decide +kernel
theorem dX10_beside_101 : decode cX10_beside 101 = .ok (.imul, 1) := by decide +kernel
theorem dX10_beside_102 : decode cX10_beside 102 = .ok (.iadd, 1) := by decide +kernel
theorem dX10_beside_103 : decode cX10_beside 103 = .ok (.iload 6, 2) := by decide +kernel
theorem dX10_beside_105 : decode cX10_beside 105 = .ok (.iadd, 1) := by decide +kernel
theorem dX10_beside_106 : decode cX10_beside 106 = .ok (.iaload, 1) := by decide +kernel
theorem dX10_beside_107 : decode cX10_beside 107 = .ok (.iload 4, 2) := by decide +kernel
theorem dX10_beside_109 : decode cX10_beside 109 = .ok (.if_icmp .ge 23, 3) := by decide +kernel
theorem dX10_beside_112 : decode cX10_beside 112 = .ok (.aload_n 0, 1) := by decide +kernel
theorem dX10_beside_113 : decode cX10_beside 113 = .ok (.getfield 72, 3) := by decide +kernel
theorem dX10_beside_116 : decode cX10_beside 116 = .ok (.bipush 100, 2) := by decide +kernel
theorem dX10_beside_118 : decode cX10_beside 118 = .ok (.iload_n 1, 1) := by decide +kernel
theorem dX10_beside_119 : decode cX10_beside 119 = .ok (.imul, 1) := by decide +kernel
theorem dX10_beside_120 : decode cX10_beside 120 = .ok (.bipush 10, 2) := by decide +kernel
theorem dX10_beside_122 : decode cX10_beside 122 = .ok (.iload 7, 2) := by decide +kernel
theorem dX10_beside_124 : decode cX10_beside 124 = .ok (.imul, 1) := by decide +kernel
theorem dX10_beside_125 : decode cX10_beside 125 = .ok (.iadd, 1) := by decide +kernel
theorem dX10_beside_126 : decode cX10_beside 126 = .ok (.iload 6, 2) := by decide +kernel
theorem dX10_beside_128 : decode cX10_beside 128 = .ok (.iadd, 1) := by decide +kernel
theorem dX10_beside_129 : decode cX10_beside 129 = .ok (.iaload, 1) := by decide +kernel
theorem dX10_beside_130 : decode cX10_beside 130 = .ok (.istore 4, 2) := by decide +kernel
theorem dX10_beside_55 : decode cX10_beside 55 = .ok (.iconst (-1), 1) := by decide +kernel
theorem dX10_beside_56 : decode cX10_beside 56 = .ok (.goto 4, 3) := by decide +kernel
theorem dX10_beside_45 : decode cX10_beside 45 = .ok (.iconst 1, 1) := by decide +kernel
theorem dX10_beside_46 : decode cX10_beside 46 = .ok (.goto 14, 3) := by decide +kernel
theorem dX10_beside_30 : decode cX10_beside 30 = .ok (.iconst (-1), 1) := by decide +kernel
theorem dX10_beside_31 : decode cX10_beside 31 = .ok (.goto 4, 3) := by decide +kernel
theorem dX10_beside_20 : decode cX10_beside 20 = .ok (.iconst 1, 1) := by decide +kernel
theorem dX10_beside_21 : decode cX10_beside 21 = .ok (.goto 14, 3) := by decide +kernel
theorem dX10_beside_0 : decode cX10_beside 0 = .ok (.sipush 9999, 3) := by decide +kernel
theorem dX10_beside_3 : decode cX10_beside 3 = .ok (.istore 4, 2) := by decide +kernel
theorem dX10_beside_5 : decode cX10_beside 5 = .ok (.iconst 0, 1) := by decide +kernel
theorem dX10_beside_6 : decode cX10_beside 6 = .ok (.istore 5, 2) := by decide +kernel
theorem dX10_beside_138 : decode cX10_beside 138 = .ok (.iload 4, 2) := by decide +kernel
theorem dX10_beside_140 : decode cX10_beside 140 = .ok (.ireturn, 1) := by decide +kernel
theorem dX10_walks_2 : decode cX10_walks 2 = .ok (.iload_n 1, 1) := by decide +kernel
theorem dX10_walks_3 : decode cX10_walks 3 = .ok (.sipush 400, 3) := by decide +kernel
theorem dX10_walks_6 : decode cX10_walks 6 = .ok (.if_icmp .ge 18, 3) := by decide +kernel
theorem dX10_walks_9 : decode cX10_walks 9 = .ok (.aload_n 0, 1) := by decide +kernel
theorem dX10_walks_10 : decode cX10_walks 10 = .ok (.getfield 72, 3) := by decide +kernel
theorem dX10_walks_13 : decode cX10_walks 13 = .ok (.iload_n 1, 1) := by decide +kernel
theorem dX10_walks_14 : decode cX10_walks 14 = .ok (.sipush 9999, 3) := by decide +kernel
theorem dX10_walks_17 : decode cX10_walks 17 = .ok (.iastore, 1) := by decide +kernel
theorem dX10_walks_18 : decode cX10_walks 18 = .ok (.iinc 1 1, 3) := by decide +kernel
theorem dX10_walks_21 : decode cX10_walks 21 = .ok (.goto (-19), 3) := by decide +kernel
theorem dX10_walks_85 : decode cX10_walks 85 = .ok (.iload 4, 2) := by decide +kernel
theorem dX10_walks_87 : decode cX10_walks 87 = .ok (.aload_n 0, 1) := by decide +kernel
theorem dX10_walks_88 : decode cX10_walks 88 = .ok (.getfield 26, 3) := by decide +kernel
theorem dX10_walks_91 : decode cX10_walks 91 = .ok (.if_icmp .ge 81, 3) := by decide +kernel
theorem dX10_walks_94 : decode cX10_walks 94 = .ok (.aload_n 0, 1) := by decide +kernel
theorem dX10_walks_95 : decode cX10_walks 95 = .ok (.bipush 10, 2) := by decide +kernel
theorem dX10_walks_97 : decode cX10_walks 97 = .ok (.iload_n 3, 1) := by decide +kernel
theorem dX10_walks_98 : decode cX10_walks 98 = .ok (.imul, 1) := by decide +kernel
theorem dX10_walks_99 : decode cX10_walks 99 = .ok (.iload 4, 2) := by decide +kernel
theorem dX10_walks_101 : decode cX10_walks 101 = .ok (.iadd, 1) := by decide +kernel
theorem dX10_walks_102 : decode cX10_walks 102 = .ok (.invokevirtual 174, 3) := by decide +kernel
theorem dX10_walks_105 : decode cX10_walks 105 = .ok (.ifCond .ne 6, 3) := by decide +kernel
theorem dX10_walks_111 : decode cX10_walks 111 = .ok (.aload_n 0, 1) := by decide +kernel
theorem dX10_walks_112 : decode cX10_walks 112 = .ok (.iload_n 1, 1) := by decide +kernel
theorem dX10_walks_113 : decode cX10_walks 113 = .ok (.iload 4, 2) := by decide +kernel
theorem dX10_walks_115 : decode cX10_walks 115 = .ok (.iload_n 3, 1) := by decide +kernel
theorem kw_5_212 : Cond.methodLink RX10 198 yX10_beside ∈ gw := gw_t5 (List.mem_of_getElem? (i := 212) (by decide +kernel)) (by decide +kernel)
theorem kw_5_214 : Cond.instanceMethod yX10_beside ∈ gw := gw_t5 (List.mem_of_getElem? (i := 214) (by decide +kernel)) (by decide +kernel)
theorem ks_4_8 : Cond.selects RX10 yX10_beside yX10_beside ∈ gw := gw_s (y := yX10_beside) (n := 37) (List.mem_append_right _ (List.mem_append_right _ (List.mem_append_right _ (List.mem_of_getElem? (i := 8) (by decide +kernel)))))
theorem kw_5_215 : Cond.code yX10_beside cX10_beside 8 (some .int) ∈ gw := gw_t5 (List.mem_of_getElem? (i := 215) (by decide +kernel)) (by decide +kernel)
theorem gk_X10_198 : GoodIn gw (wsV RX10 198 RX10 yX10_beside (.code yX10_beside cX10_beside 8 (some .int) :: gw)) ∧ (yX10_beside.cls = RX10 ∧ yX10_beside.cls ≠ "java/lang/invoke/MethodHandle" ∧ yX10_beside.cls ≠ "java/lang/invoke/VarHandle" ∧ (parseMethodDescriptor yX10_beside.desc).map (fun d => d.parameters.length) = some 3) := ⟨gi_V kw_5_212 kw_5_214 ks_4_8 kw_1_11 kw_5_215, by decide +kernel⟩
theorem dX10_walks_116 : decode cX10_walks 116 = .ok (.invokevirtual 198, 3) := by decide +kernel
theorem dX10_walks_119 : decode cX10_walks 119 = .ok (.iconst 1, 1) := by decide +kernel
theorem dX10_walks_120 : decode cX10_walks 120 = .ok (.iadd, 1) := by decide +kernel
theorem dX10_walks_121 : decode cX10_walks 121 = .ok (.istore 5, 2) := by decide +kernel
theorem dX10_walks_123 : decode cX10_walks 123 = .ok (.iload 5, 2) := by decide +kernel
theorem dX10_walks_125 : decode cX10_walks 125 = .ok (.aload_n 0, 1) := by decide +kernel
theorem dX10_walks_126 : decode cX10_walks 126 = .ok (.getfield 72, 3) := by decide +kernel
theorem dX10_walks_129 : decode cX10_walks 129 = .ok (.bipush 100, 2) := by decide +kernel
theorem dX10_walks_131 : decode cX10_walks 131 = .ok (.iload_n 1, 1) := by decide +kernel
theorem dX10_walks_132 : decode cX10_walks 132 = .ok (.imul, 1) := by decide +kernel
theorem dX10_walks_133 : decode cX10_walks 133 = .ok (.bipush 10, 2) := by decide +kernel
theorem dX10_walks_135 : decode cX10_walks 135 = .ok (.iload_n 3, 1) := by decide +kernel
theorem dX10_walks_136 : decode cX10_walks 136 = .ok (.imul, 1) := by decide +kernel
theorem dX10_walks_137 : decode cX10_walks 137 = .ok (.iadd, 1) := by decide +kernel
theorem dX10_walks_138 : decode cX10_walks 138 = .ok (.iload 4, 2) := by decide +kernel
theorem dX10_walks_140 : decode cX10_walks 140 = .ok (.iadd, 1) := by decide +kernel
theorem dX10_walks_141 : decode cX10_walks 141 = .ok (.iaload, 1) := by decide +kernel
theorem dX10_walks_142 : decode cX10_walks 142 = .ok (.if_icmp .ge 24, 3) := by decide +kernel
theorem dX10_walks_166 : decode cX10_walks 166 = .ok (.iinc 4 1, 3) := by decide +kernel
theorem dX10_walks_169 : decode cX10_walks 169 = .ok (.goto (-84), 3) := by decide +kernel
theorem dX10_walks_145 : decode cX10_walks 145 = .ok (.aload_n 0, 1) := by decide +kernel
theorem dX10_walks_146 : decode cX10_walks 146 = .ok (.getfield 72, 3) := by decide +kernel
theorem dX10_walks_149 : decode cX10_walks 149 = .ok (.bipush 100, 2) := by decide +kernel
theorem dX10_walks_151 : decode cX10_walks 151 = .ok (.iload_n 1, 1) := by decide +kernel
theorem dX10_walks_152 : decode cX10_walks 152 = .ok (.imul, 1) := by decide +kernel
theorem dX10_walks_153 : decode cX10_walks 153 = .ok (.bipush 10, 2) := by decide +kernel
theorem dX10_walks_155 : decode cX10_walks 155 = .ok (.iload_n 3, 1) := by decide +kernel
theorem dX10_walks_156 : decode cX10_walks 156 = .ok (.imul, 1) := by decide +kernel
theorem dX10_walks_157 : decode cX10_walks 157 = .ok (.iadd, 1) := by decide +kernel
theorem dX10_walks_158 : decode cX10_walks 158 = .ok (.iload 4, 2) := by decide +kernel
theorem dX10_walks_160 : decode cX10_walks 160 = .ok (.iadd, 1) := by decide +kernel
theorem dX10_walks_161 : decode cX10_walks 161 = .ok (.iload 5, 2) := by decide +kernel
theorem dX10_walks_163 : decode cX10_walks 163 = .ok (.iastore, 1) := by decide +kernel
theorem dX10_walks_164 : decode cX10_walks 164 = .ok (.iconst 1, 1) := by decide +kernel
theorem dX10_walks_165 : decode cX10_walks 165 = .ok (.istore_n 2, 1) := by decide +kernel
theorem dX10_walks_108 : decode cX10_walks 108 = .ok (.goto 58, 3) := by decide +kernel
theorem dX10_walks_74 : decode cX10_walks 74 = .ok (.iload_n 3, 1) := by decide +kernel
theorem dX10_walks_75 : decode cX10_walks 75 = .ok (.aload_n 0, 1) := by decide +kernel
theorem dX10_walks_76 : decode cX10_walks 76 = .ok (.getfield 29, 3) := by decide +kernel
theorem dX10_walks_79 : decode cX10_walks 79 = .ok (.if_icmp .ge 99, 3) := by decide +kernel
theorem dX10_walks_82 : decode cX10_walks 82 = .ok (.iconst 0, 1) := by decide +kernel
theorem dX10_walks_83 : decode cX10_walks 83 = .ok (.istore 4, 2) := by decide +kernel
theorem dX10_walks_172 : decode cX10_walks 172 = .ok (.iinc 3 1, 3) := by decide +kernel
theorem dX10_walks_175 : decode cX10_walks 175 = .ok (.goto (-101), 3) := by decide +kernel
theorem dX10_walks_66 : decode cX10_walks 66 = .ok (.iload_n 2, 1) := by decide +kernel
theorem dX10_walks_67 : decode cX10_walks 67 = .ok (.ifCond .eq 114, 3) := by decide +kernel
theorem dX10_walks_70 : decode cX10_walks 70 = .ok (.iconst 0, 1) := by decide +kernel
theorem dX10_walks_71 : decode cX10_walks 71 = .ok (.istore_n 2, 1) := by decide +kernel
theorem dX10_walks_72 : decode cX10_walks 72 = .ok (.iconst 0, 1) := by decide +kernel
theorem dX10_walks_73 : decode cX10_walks 73 = .ok (.istore_n 3, 1) := by decide +kernel
theorem dX10_walks_178 : decode cX10_walks 178 = .ok (.goto (-112), 3) := by decide +kernel
theorem dX10_walks_26 : decode cX10_walks 26 = .ok (.iload_n 1, 1) := by decide +kernel
theorem dX10_walks_27 : decode cX10_walks 27 = .ok (.aload_n 0, 1) := by decide +kernel
theorem kw_4_200 : Cond.fieldLink RX10 143 "IceFairModel" "stairs" "I" ∈ gw := gw_t4 (List.mem_of_getElem? (i := 200) (by decide +kernel)) (by decide +kernel)
theorem dX10_walks_28 : decode cX10_walks 28 = .ok (.getfield 143, 3) := by decide +kernel
theorem dX10_walks_31 : decode cX10_walks 31 = .ok (.if_icmp .ge 156, 3) := by decide +kernel
theorem dX10_walks_34 : decode cX10_walks 34 = .ok (.aload_n 0, 1) := by decide +kernel
theorem dX10_walks_35 : decode cX10_walks 35 = .ok (.iload_n 1, 1) := by decide +kernel
theorem kw_5_208 : Cond.methodLink RX10 195 yX10_isStair ∈ gw := gw_t5 (List.mem_of_getElem? (i := 208) (by decide +kernel)) (by decide +kernel)
theorem kw_5_210 : Cond.instanceMethod yX10_isStair ∈ gw := gw_t5 (List.mem_of_getElem? (i := 210) (by decide +kernel)) (by decide +kernel)
theorem ks_4_7 : Cond.selects RX10 yX10_isStair yX10_isStair ∈ gw := gw_s (y := yX10_isStair) (n := 37) (List.mem_append_right _ (List.mem_append_right _ (List.mem_append_right _ (List.mem_of_getElem? (i := 7) (by decide +kernel)))))
theorem kw_5_211 : Cond.code yX10_isStair cX10_isStair 2 (some .boolean) ∈ gw := gw_t5 (List.mem_of_getElem? (i := 211) (by decide +kernel)) (by decide +kernel)
theorem gk_X10_195 : GoodIn gw (wsV RX10 195 RX10 yX10_isStair (.code yX10_isStair cX10_isStair 2 (some .boolean) :: gw)) ∧ (yX10_isStair.cls = RX10 ∧ yX10_isStair.cls ≠ "java/lang/invoke/MethodHandle" ∧ yX10_isStair.cls ≠ "java/lang/invoke/VarHandle" ∧ (parseMethodDescriptor yX10_isStair.desc).map (fun d => d.parameters.length) = some 1) := ⟨gi_V kw_5_208 kw_5_210 ks_4_7 kw_1_11 kw_5_211, by decide +kernel⟩
theorem dX10_walks_36 : decode cX10_walks 36 = .ok (.invokevirtual 195, 3) := by decide +kernel
theorem dX10_walks_39 : decode cX10_walks 39 = .ok (.ifCond .ne 6, 3) := by decide +kernel
theorem dX10_walks_45 : decode cX10_walks 45 = .ok (.aload_n 0, 1) := by decide +kernel
theorem dX10_walks_46 : decode cX10_walks 46 = .ok (.getfield 72, 3) := by decide +kernel
theorem dX10_walks_49 : decode cX10_walks 49 = .ok (.bipush 100, 2) := by decide +kernel
theorem dX10_walks_51 : decode cX10_walks 51 = .ok (.iload_n 1, 1) := by decide +kernel
theorem dX10_walks_52 : decode cX10_walks 52 = .ok (.imul, 1) := by decide +kernel
theorem dX10_walks_53 : decode cX10_walks 53 = .ok (.aload_n 0, 1) := by decide +kernel
theorem dX10_walks_54 : decode cX10_walks 54 = .ok (.getfield 19, 3) := by decide +kernel
theorem dX10_walks_57 : decode cX10_walks 57 = .ok (.iconst 2, 1) := by decide +kernel
theorem dX10_walks_58 : decode cX10_walks 58 = .ok (.iload_n 1, 1) := by decide +kernel
theorem dX10_walks_59 : decode cX10_walks 59 = .ok (.imul, 1) := by decide +kernel
theorem dX10_walks_60 : decode cX10_walks 60 = .ok (.iaload, 1) := by decide +kernel
theorem dX10_walks_61 : decode cX10_walks 61 = .ok (.iadd, 1) := by decide +kernel
theorem dX10_walks_62 : decode cX10_walks 62 = .ok (.iconst 0, 1) := by decide +kernel
theorem dX10_walks_63 : decode cX10_walks 63 = .ok (.iastore, 1) := by decide +kernel
theorem dX10_walks_64 : decode cX10_walks 64 = .ok (.iconst 1, 1) := by decide +kernel
theorem dX10_walks_65 : decode cX10_walks 65 = .ok (.istore_n 2, 1) := by decide +kernel
theorem dX10_walks_181 : decode cX10_walks 181 = .ok (.iinc 1 1, 3) := by decide +kernel
theorem dX10_walks_184 : decode cX10_walks 184 = .ok (.goto (-158), 3) := by decide +kernel
theorem dX10_walks_42 : decode cX10_walks 42 = .ok (.goto 139, 3) := by decide +kernel
theorem dX10_walks_0 : decode cX10_walks 0 = .ok (.iconst 0, 1) := by decide +kernel
theorem dX10_walks_1 : decode cX10_walks 1 = .ok (.istore_n 1, 1) := by decide +kernel
theorem dX10_walks_24 : decode cX10_walks 24 = .ok (.iconst 0, 1) := by decide +kernel
theorem dX10_walks_25 : decode cX10_walks 25 = .ok (.istore_n 1, 1) := by decide +kernel
theorem dX10_walks_187 : decode cX10_walks 187 = .ok (.return_, 1) := by decide +kernel
theorem dX10_stepsOf_0 : decode cX10_stepsOf 0 = .ok (.aload_n 0, 1) := by decide +kernel
theorem dX10_stepsOf_1 : decode cX10_stepsOf 1 = .ok (.iload_n 2, 1) := by decide +kernel
theorem dX10_stepsOf_2 : decode cX10_stepsOf 2 = .ok (.invokevirtual 195, 3) := by decide +kernel
theorem dX10_stepsOf_5 : decode cX10_stepsOf 5 = .ok (.ifCond .ne 7, 3) := by decide +kernel
theorem dX10_stepsOf_12 : decode cX10_stepsOf 12 = .ok (.aload_n 0, 1) := by decide +kernel
theorem dX10_stepsOf_13 : decode cX10_stepsOf 13 = .ok (.getfield 54, 3) := by decide +kernel
theorem dX10_stepsOf_16 : decode cX10_stepsOf 16 = .ok (.iload_n 1, 1) := by decide +kernel
theorem dX10_stepsOf_17 : decode cX10_stepsOf 17 = .ok (.iaload, 1) := by decide +kernel
theorem dX10_stepsOf_18 : decode cX10_stepsOf 18 = .ok (.aload_n 0, 1) := by decide +kernel
theorem dX10_stepsOf_19 : decode cX10_stepsOf 19 = .ok (.getfield 19, 3) := by decide +kernel
theorem dX10_stepsOf_22 : decode cX10_stepsOf 22 = .ok (.iconst 2, 1) := by decide +kernel
theorem dX10_stepsOf_23 : decode cX10_stepsOf 23 = .ok (.iload_n 2, 1) := by decide +kernel
theorem dX10_stepsOf_24 : decode cX10_stepsOf 24 = .ok (.imul, 1) := by decide +kernel
theorem dX10_stepsOf_25 : decode cX10_stepsOf 25 = .ok (.iaload, 1) := by decide +kernel
theorem dX10_stepsOf_26 : decode cX10_stepsOf 26 = .ok (.if_icmp .ne 5, 3) := by decide +kernel
theorem dX10_stepsOf_31 : decode cX10_stepsOf 31 = .ok (.aload_n 0, 1) := by decide +kernel
theorem dX10_stepsOf_32 : decode cX10_stepsOf 32 = .ok (.iload_n 2, 1) := by decide +kernel
theorem dX10_stepsOf_33 : decode cX10_stepsOf 33 = .ok (.aload_n 0, 1) := by decide +kernel
theorem dX10_stepsOf_34 : decode cX10_stepsOf 34 = .ok (.getfield 54, 3) := by decide +kernel
theorem dX10_stepsOf_37 : decode cX10_stepsOf 37 = .ok (.iload_n 1, 1) := by decide +kernel
theorem dX10_stepsOf_38 : decode cX10_stepsOf 38 = .ok (.iaload, 1) := by decide +kernel
theorem dX10_stepsOf_39 : decode cX10_stepsOf 39 = .ok (.bipush 10, 2) := by decide +kernel
theorem dX10_stepsOf_41 : decode cX10_stepsOf 41 = .ok (.irem, 1) := by decide +kernel
theorem dX10_stepsOf_42 : decode cX10_stepsOf 42 = .ok (.aload_n 0, 1) := by decide +kernel
theorem dX10_stepsOf_43 : decode cX10_stepsOf 43 = .ok (.getfield 54, 3) := by decide +kernel
theorem dX10_stepsOf_46 : decode cX10_stepsOf 46 = .ok (.iload_n 1, 1) := by decide +kernel
theorem dX10_stepsOf_47 : decode cX10_stepsOf 47 = .ok (.iaload, 1) := by decide +kernel
theorem dX10_stepsOf_48 : decode cX10_stepsOf 48 = .ok (.bipush 10, 2) := by decide +kernel
theorem dX10_stepsOf_50 : decode cX10_stepsOf 50 = .ok (.idiv, 1) := by decide +kernel
theorem dX10_stepsOf_51 : decode cX10_stepsOf 51 = .ok (.invokevirtual 198, 3) := by decide +kernel
theorem dX10_stepsOf_54 : decode cX10_stepsOf 54 = .ok (.iconst 1, 1) := by decide +kernel
theorem dX10_stepsOf_55 : decode cX10_stepsOf 55 = .ok (.iadd, 1) := by decide +kernel
theorem dX10_stepsOf_56 : decode cX10_stepsOf 56 = .ok (.istore_n 3, 1) := by decide +kernel
theorem dX10_stepsOf_57 : decode cX10_stepsOf 57 = .ok (.iload_n 3, 1) := by decide +kernel
theorem dX10_stepsOf_58 : decode cX10_stepsOf 58 = .ok (.sipush 9999, 3) := by decide +kernel
theorem dX10_stepsOf_61 : decode cX10_stepsOf 61 = .ok (.if_icmp .le 9, 3) := by decide +kernel
theorem dX10_stepsOf_70 : decode cX10_stepsOf 70 = .ok (.iload_n 3, 1) := by decide +kernel
theorem dX10_stepsOf_71 : decode cX10_stepsOf 71 = .ok (.ireturn, 1) := by decide +kernel
theorem dX10_stepsOf_64 : decode cX10_stepsOf 64 = .ok (.sipush 9999, 3) := by decide +kernel
theorem dX10_stepsOf_67 : decode cX10_stepsOf 67 = .ok (.goto 4, 3) := by decide +kernel
theorem dX10_stepsOf_29 : decode cX10_stepsOf 29 = .ok (.iconst 0, 1) := by decide +kernel
theorem dX10_stepsOf_30 : decode cX10_stepsOf 30 = .ok (.ireturn, 1) := by decide +kernel
theorem dX10_stepsOf_8 : decode cX10_stepsOf 8 = .ok (.sipush 9999, 3) := by decide +kernel
theorem dX10_stepsOf_11 : decode cX10_stepsOf 11 = .ok (.ireturn, 1) := by decide +kernel
theorem dX10_pathAll_16 : decode cX10_pathAll 16 = .ok (.iload_n 2, 1) := by decide +kernel
theorem dX10_pathAll_17 : decode cX10_pathAll 17 = .ok (.aload_n 0, 1) := by decide +kernel
theorem dX10_pathAll_18 : decode cX10_pathAll 18 = .ok (.getfield 143, 3) := by decide +kernel
theorem dX10_pathAll_21 : decode cX10_pathAll 21 = .ok (.if_icmp .ge 35, 3) := by decide +kernel
theorem dX10_pathAll_24 : decode cX10_pathAll 24 = .ok (.aload_n 0, 1) := by decide +kernel
theorem dX10_pathAll_25 : decode cX10_pathAll 25 = .ok (.getfield 51, 3) := by decide +kernel
theorem dX10_pathAll_28 : decode cX10_pathAll 28 = .ok (.iload_n 1, 1) := by decide +kernel
theorem dX10_pathAll_29 : decode cX10_pathAll 29 = .ok (.iaload, 1) := by decide +kernel
theorem dX10_pathAll_30 : decode cX10_pathAll 30 = .ok (.iconst 1, 1) := by decide +kernel
theorem dX10_pathAll_31 : decode cX10_pathAll 31 = .ok (.if_icmp .ne 25, 3) := by decide +kernel
theorem dX10_pathAll_34 : decode cX10_pathAll 34 = .ok (.aload_n 0, 1) := by decide +kernel
theorem dX10_pathAll_35 : decode cX10_pathAll 35 = .ok (.getfield 75, 3) := by decide +kernel
theorem dX10_pathAll_38 : decode cX10_pathAll 38 = .ok (.iconst 4, 1) := by decide +kernel
theorem dX10_pathAll_39 : decode cX10_pathAll 39 = .ok (.iload_n 1, 1) := by decide +kernel
theorem dX10_pathAll_40 : decode cX10_pathAll 40 = .ok (.imul, 1) := by decide +kernel
theorem dX10_pathAll_41 : decode cX10_pathAll 41 = .ok (.iload_n 2, 1) := by decide +kernel
theorem dX10_pathAll_42 : decode cX10_pathAll 42 = .ok (.iadd, 1) := by decide +kernel
theorem dX10_pathAll_43 : decode cX10_pathAll 43 = .ok (.aload_n 0, 1) := by decide +kernel
theorem dX10_pathAll_44 : decode cX10_pathAll 44 = .ok (.iload_n 1, 1) := by decide +kernel
theorem dX10_pathAll_45 : decode cX10_pathAll 45 = .ok (.iload_n 2, 1) := by decide +kernel
theorem kw_5_216 : Cond.methodLink RX10 205 yX10_stepsOf ∈ gw := gw_t5 (List.mem_of_getElem? (i := 216) (by decide +kernel)) (by decide +kernel)
theorem kw_5_218 : Cond.instanceMethod yX10_stepsOf ∈ gw := gw_t5 (List.mem_of_getElem? (i := 218) (by decide +kernel)) (by decide +kernel)
theorem ks_4_9 : Cond.selects RX10 yX10_stepsOf yX10_stepsOf ∈ gw := gw_s (y := yX10_stepsOf) (n := 37) (List.mem_append_right _ (List.mem_append_right _ (List.mem_append_right _ (List.mem_of_getElem? (i := 9) (by decide +kernel)))))
theorem kw_5_219 : Cond.code yX10_stepsOf cX10_stepsOf 4 (some .int) ∈ gw := gw_t5 (List.mem_of_getElem? (i := 219) (by decide +kernel)) (by decide +kernel)
theorem gk_X10_205 : GoodIn gw (wsV RX10 205 RX10 yX10_stepsOf (.code yX10_stepsOf cX10_stepsOf 4 (some .int) :: gw)) ∧ (yX10_stepsOf.cls = RX10 ∧ yX10_stepsOf.cls ≠ "java/lang/invoke/MethodHandle" ∧ yX10_stepsOf.cls ≠ "java/lang/invoke/VarHandle" ∧ (parseMethodDescriptor yX10_stepsOf.desc).map (fun d => d.parameters.length) = some 2) := ⟨gi_V kw_5_216 kw_5_218 ks_4_9 kw_1_11 kw_5_219, by decide +kernel⟩
theorem dX10_pathAll_46 : decode cX10_pathAll 46 = .ok (.invokevirtual 205, 3) := by decide +kernel
theorem dX10_pathAll_49 : decode cX10_pathAll 49 = .ok (.iastore, 1) := by decide +kernel
theorem dX10_pathAll_50 : decode cX10_pathAll 50 = .ok (.iinc 2 1, 3) := by decide +kernel
theorem dX10_pathAll_53 : decode cX10_pathAll 53 = .ok (.goto (-37), 3) := by decide +kernel
theorem dX10_pathAll_6 : decode cX10_pathAll 6 = .ok (.iload_n 1, 1) := by decide +kernel
theorem dX10_pathAll_7 : decode cX10_pathAll 7 = .ok (.aload_n 0, 1) := by decide +kernel
theorem dX10_pathAll_8 : decode cX10_pathAll 8 = .ok (.getfield 146, 3) := by decide +kernel
theorem dX10_pathAll_11 : decode cX10_pathAll 11 = .ok (.if_icmp .ge 51, 3) := by decide +kernel
theorem dX10_pathAll_14 : decode cX10_pathAll 14 = .ok (.iconst 0, 1) := by decide +kernel
theorem dX10_pathAll_15 : decode cX10_pathAll 15 = .ok (.istore_n 2, 1) := by decide +kernel
theorem dX10_pathAll_56 : decode cX10_pathAll 56 = .ok (.iinc 1 1, 3) := by decide +kernel
theorem dX10_pathAll_59 : decode cX10_pathAll 59 = .ok (.goto (-53), 3) := by decide +kernel
theorem dX10_pathAll_0 : decode cX10_pathAll 0 = .ok (.aload_n 0, 1) := by decide +kernel
theorem kw_5_204 : Cond.methodLink RX10 202 yX10_walks ∈ gw := gw_t5 (List.mem_of_getElem? (i := 204) (by decide +kernel)) (by decide +kernel)
theorem kw_5_206 : Cond.instanceMethod yX10_walks ∈ gw := gw_t5 (List.mem_of_getElem? (i := 206) (by decide +kernel)) (by decide +kernel)
theorem ks_4_6 : Cond.selects RX10 yX10_walks yX10_walks ∈ gw := gw_s (y := yX10_walks) (n := 37) (List.mem_append_right _ (List.mem_append_right _ (List.mem_append_right _ (List.mem_of_getElem? (i := 6) (by decide +kernel)))))
theorem kw_5_207 : Cond.code yX10_walks cX10_walks 6 none ∈ gw := gw_t5 (List.mem_of_getElem? (i := 207) (by decide +kernel)) (by decide +kernel)
theorem gk_X10_202 : GoodIn gw (wsV RX10 202 RX10 yX10_walks (.code yX10_walks cX10_walks 6 none :: gw)) ∧ (yX10_walks.cls = RX10 ∧ yX10_walks.cls ≠ "java/lang/invoke/MethodHandle" ∧ yX10_walks.cls ≠ "java/lang/invoke/VarHandle" ∧ (parseMethodDescriptor yX10_walks.desc).map (fun d => d.parameters.length) = some 0) := ⟨gi_V kw_5_204 kw_5_206 ks_4_6 kw_1_11 kw_5_207, by decide +kernel⟩
theorem dX10_pathAll_1 : decode cX10_pathAll 1 = .ok (.invokevirtual 202, 3) := by decide +kernel
theorem dX10_pathAll_4 : decode cX10_pathAll 4 = .ok (.iconst 0, 1) := by decide +kernel
theorem dX10_pathAll_5 : decode cX10_pathAll 5 = .ok (.istore_n 1, 1) := by decide +kernel
theorem dX10_pathAll_62 : decode cX10_pathAll 62 = .ok (.return_, 1) := by decide +kernel
theorem dX10_isSet_2 : decode cX10_isSet 2 = .ok (.iload_n 2, 1) := by decide +kernel
theorem dX10_isSet_3 : decode cX10_isSet 3 = .ok (.bipush 10, 2) := by decide +kernel
theorem dX10_isSet_5 : decode cX10_isSet 5 = .ok (.if_icmp .ge 29, 3) := by decide +kernel
theorem dX10_isSet_8 : decode cX10_isSet 8 = .ok (.iload_n 1, 1) := by decide +kernel
theorem dX10_isSet_9 : decode cX10_isSet 9 = .ok (.iload_n 2, 1) := by decide +kernel
theorem dX10_isSet_10 : decode cX10_isSet 10 = .ok (.ishr, 1) := by decide +kernel
theorem dX10_isSet_11 : decode cX10_isSet 11 = .ok (.iconst 1, 1) := by decide +kernel
theorem dX10_isSet_12 : decode cX10_isSet 12 = .ok (.iand, 1) := by decide +kernel
theorem dX10_isSet_13 : decode cX10_isSet 13 = .ok (.iconst 1, 1) := by decide +kernel
theorem dX10_isSet_14 : decode cX10_isSet 14 = .ok (.if_icmp .ne 14, 3) := by decide +kernel
theorem dX10_isSet_28 : decode cX10_isSet 28 = .ok (.iinc 2 1, 3) := by decide +kernel
theorem dX10_isSet_31 : decode cX10_isSet 31 = .ok (.goto (-29), 3) := by decide +kernel
theorem dX10_isSet_17 : decode cX10_isSet 17 = .ok (.aload_n 0, 1) := by decide +kernel
theorem dX10_isSet_18 : decode cX10_isSet 18 = .ok (.iload_n 2, 1) := by decide +kernel
theorem dX10_isSet_19 : decode cX10_isSet 19 = .ok (.iconst 1, 1) := by decide +kernel
theorem dX10_isSet_20 : decode cX10_isSet 20 = .ok (.invokevirtual 171, 3) := by decide +kernel
theorem dX10_isSet_23 : decode cX10_isSet 23 = .ok (.ifCond .ne 5, 3) := by decide +kernel
theorem dX10_isSet_0 : decode cX10_isSet 0 = .ok (.iconst 0, 1) := by decide +kernel
theorem dX10_isSet_1 : decode cX10_isSet 1 = .ok (.istore_n 2, 1) := by decide +kernel
theorem dX10_isSet_26 : decode cX10_isSet 26 = .ok (.iconst 0, 1) := by decide +kernel
theorem dX10_isSet_27 : decode cX10_isSet 27 = .ok (.ireturn, 1) := by decide +kernel
theorem dX10_isSet_34 : decode cX10_isSet 34 = .ok (.iconst 1, 1) := by decide +kernel
theorem dX10_isSet_35 : decode cX10_isSet 35 = .ok (.ireturn, 1) := by decide +kernel
theorem dX10_over_5 : decode cX10_over 5 = .ok (.iload 4, 2) := by decide +kernel
theorem dX10_over_7 : decode cX10_over 7 = .ok (.aload_n 0, 1) := by decide +kernel
theorem dX10_over_8 : decode cX10_over 8 = .ok (.getfield 146, 3) := by decide +kernel
theorem dX10_over_11 : decode cX10_over 11 = .ok (.if_icmp .ge 33, 3) := by decide +kernel
theorem dX10_over_14 : decode cX10_over 14 = .ok (.iload_n 3, 1) := by decide +kernel
theorem dX10_over_15 : decode cX10_over 15 = .ok (.iload_n 1, 1) := by decide +kernel
theorem dX10_over_16 : decode cX10_over 16 = .ok (.iload 4, 2) := by decide +kernel
theorem dX10_over_18 : decode cX10_over 18 = .ok (.ishr, 1) := by decide +kernel
theorem dX10_over_19 : decode cX10_over 19 = .ok (.iconst 1, 1) := by decide +kernel
theorem dX10_over_20 : decode cX10_over 20 = .ok (.iand, 1) := by decide +kernel
theorem dX10_over_21 : decode cX10_over 21 = .ok (.iconst 1, 1) := by decide +kernel
theorem dX10_over_22 : decode cX10_over 22 = .ok (.if_icmp .ne 13, 3) := by decide +kernel
theorem dX10_over_35 : decode cX10_over 35 = .ok (.iconst 0, 1) := by decide +kernel
theorem dX10_over_36 : decode cX10_over 36 = .ok (.iadd, 1) := by decide +kernel
theorem dX10_over_37 : decode cX10_over 37 = .ok (.istore_n 3, 1) := by decide +kernel
theorem dX10_over_38 : decode cX10_over 38 = .ok (.iinc 4 1, 3) := by decide +kernel
theorem dX10_over_41 : decode cX10_over 41 = .ok (.goto (-36), 3) := by decide +kernel
theorem dX10_over_25 : decode cX10_over 25 = .ok (.aload_n 0, 1) := by decide +kernel
theorem dX10_over_26 : decode cX10_over 26 = .ok (.getfield 48, 3) := by decide +kernel
theorem dX10_over_29 : decode cX10_over 29 = .ok (.iload 4, 2) := by decide +kernel
theorem dX10_over_31 : decode cX10_over 31 = .ok (.iaload, 1) := by decide +kernel
theorem dX10_over_32 : decode cX10_over 32 = .ok (.goto 4, 3) := by decide +kernel
theorem dX10_over_64 : decode cX10_over 64 = .ok (.iload 6, 2) := by decide +kernel
theorem dX10_over_66 : decode cX10_over 66 = .ok (.aload_n 0, 1) := by decide +kernel
theorem dX10_over_67 : decode cX10_over 67 = .ok (.getfield 146, 3) := by decide +kernel
theorem dX10_over_70 : decode cX10_over 70 = .ok (.if_icmp .ge 50, 3) := by decide +kernel
theorem dX10_over_73 : decode cX10_over 73 = .ok (.iload_n 1, 1) := by decide +kernel
theorem dX10_over_74 : decode cX10_over 74 = .ok (.iload 6, 2) := by decide +kernel
theorem dX10_over_76 : decode cX10_over 76 = .ok (.ishr, 1) := by decide +kernel
theorem dX10_over_77 : decode cX10_over 77 = .ok (.iconst 1, 1) := by decide +kernel
theorem dX10_over_78 : decode cX10_over 78 = .ok (.iand, 1) := by decide +kernel
theorem dX10_over_79 : decode cX10_over 79 = .ok (.iconst 1, 1) := by decide +kernel
theorem dX10_over_80 : decode cX10_over 80 = .ok (.if_icmp .ne 34, 3) := by decide +kernel
theorem dX10_over_114 : decode cX10_over 114 = .ok (.iinc 6 1, 3) := by decide +kernel
theorem dX10_over_117 : decode cX10_over 117 = .ok (.goto (-53), 3) := by decide +kernel
theorem dX10_over_83 : decode cX10_over 83 = .ok (.aload_n 0, 1) := by decide +kernel
theorem dX10_over_84 : decode cX10_over 84 = .ok (.getfield 75, 3) := by decide +kernel
theorem dX10_over_87 : decode cX10_over 87 = .ok (.iconst 4, 1) := by decide +kernel
theorem dX10_over_88 : decode cX10_over 88 = .ok (.iload 6, 2) := by decide +kernel
theorem dX10_over_90 : decode cX10_over 90 = .ok (.imul, 1) := by decide +kernel
theorem dX10_over_91 : decode cX10_over 91 = .ok (.iload 4, 2) := by decide +kernel
theorem dX10_over_93 : decode cX10_over 93 = .ok (.iadd, 1) := by decide +kernel
theorem dX10_over_94 : decode cX10_over 94 = .ok (.iaload, 1) := by decide +kernel
theorem dX10_over_95 : decode cX10_over 95 = .ok (.iload 5, 2) := by decide +kernel
theorem dX10_over_97 : decode cX10_over 97 = .ok (.if_icmp .ge 17, 3) := by decide +kernel
theorem dX10_over_100 : decode cX10_over 100 = .ok (.aload_n 0, 1) := by decide +kernel
theorem dX10_over_101 : decode cX10_over 101 = .ok (.getfield 75, 3) := by decide +kernel
theorem dX10_over_104 : decode cX10_over 104 = .ok (.iconst 4, 1) := by decide +kernel
theorem dX10_over_105 : decode cX10_over 105 = .ok (.iload 6, 2) := by decide +kernel
theorem dX10_over_107 : decode cX10_over 107 = .ok (.imul, 1) := by decide +kernel
theorem dX10_over_108 : decode cX10_over 108 = .ok (.iload 4, 2) := by decide +kernel
theorem dX10_over_110 : decode cX10_over 110 = .ok (.iadd, 1) := by decide +kernel
theorem dX10_over_111 : decode cX10_over 111 = .ok (.iaload, 1) := by decide +kernel
theorem dX10_over_112 : decode cX10_over 112 = .ok (.istore 5, 2) := by decide +kernel
theorem dX10_over_47 : decode cX10_over 47 = .ok (.iload 4, 2) := by decide +kernel
theorem dX10_over_49 : decode cX10_over 49 = .ok (.aload_n 0, 1) := by decide +kernel
theorem dX10_over_50 : decode cX10_over 50 = .ok (.getfield 143, 3) := by decide +kernel
theorem dX10_over_53 : decode cX10_over 53 = .ok (.if_icmp .ge 98, 3) := by decide +kernel
theorem dX10_over_56 : decode cX10_over 56 = .ok (.sipush 9999, 3) := by decide +kernel
theorem dX10_over_59 : decode cX10_over 59 = .ok (.istore 5, 2) := by decide +kernel
theorem dX10_over_61 : decode cX10_over 61 = .ok (.iconst 0, 1) := by decide +kernel
theorem dX10_over_62 : decode cX10_over 62 = .ok (.istore 6, 2) := by decide +kernel
theorem dX10_over_120 : decode cX10_over 120 = .ok (.iload_n 2, 1) := by decide +kernel
theorem dX10_over_121 : decode cX10_over 121 = .ok (.iload 5, 2) := by decide +kernel
theorem dX10_over_123 : decode cX10_over 123 = .ok (.if_icmp .le 22, 3) := by decide +kernel
theorem dX10_over_145 : decode cX10_over 145 = .ok (.iinc 4 1, 3) := by decide +kernel
theorem dX10_over_148 : decode cX10_over 148 = .ok (.goto (-101), 3) := by decide +kernel
theorem dX10_over_126 : decode cX10_over 126 = .ok (.iload_n 3, 1) := by decide +kernel
theorem dX10_over_127 : decode cX10_over 127 = .ok (.iload_n 2, 1) := by decide +kernel
theorem dX10_over_128 : decode cX10_over 128 = .ok (.iload 5, 2) := by decide +kernel
theorem dX10_over_130 : decode cX10_over 130 = .ok (.isub, 1) := by decide +kernel
theorem dX10_over_131 : decode cX10_over 131 = .ok (.aload_n 0, 1) := by decide +kernel
theorem dX10_over_132 : decode cX10_over 132 = .ok (.getfield 19, 3) := by decide +kernel
theorem dX10_over_135 : decode cX10_over 135 = .ok (.iconst 2, 1) := by decide +kernel
theorem dX10_over_136 : decode cX10_over 136 = .ok (.iload 4, 2) := by decide +kernel
theorem dX10_over_138 : decode cX10_over 138 = .ok (.imul, 1) := by decide +kernel
theorem dX10_over_139 : decode cX10_over 139 = .ok (.iconst 1, 1) := by decide +kernel
theorem dX10_over_140 : decode cX10_over 140 = .ok (.iadd, 1) := by decide +kernel
theorem dX10_over_141 : decode cX10_over 141 = .ok (.iaload, 1) := by decide +kernel
theorem dX10_over_142 : decode cX10_over 142 = .ok (.imul, 1) := by decide +kernel
theorem dX10_over_143 : decode cX10_over 143 = .ok (.isub, 1) := by decide +kernel
theorem dX10_over_144 : decode cX10_over 144 = .ok (.istore_n 3, 1) := by decide +kernel
theorem dX10_over_0 : decode cX10_over 0 = .ok (.iconst 0, 1) := by decide +kernel
theorem dX10_over_1 : decode cX10_over 1 = .ok (.istore_n 3, 1) := by decide +kernel
theorem dX10_over_2 : decode cX10_over 2 = .ok (.iconst 0, 1) := by decide +kernel
theorem dX10_over_3 : decode cX10_over 3 = .ok (.istore 4, 2) := by decide +kernel
theorem dX10_over_44 : decode cX10_over 44 = .ok (.iconst 0, 1) := by decide +kernel
theorem dX10_over_45 : decode cX10_over 45 = .ok (.istore 4, 2) := by decide +kernel
theorem dX10_over_151 : decode cX10_over 151 = .ok (.iload_n 3, 1) := by decide +kernel
theorem dX10_over_152 : decode cX10_over 152 = .ok (.ireturn, 1) := by decide +kernel
theorem dX10_canBe_2 : decode cX10_canBe 2 = .ok (.iload_n 2, 1) := by decide +kernel
theorem dX10_canBe_3 : decode cX10_canBe 3 = .ok (.iconst 1, 1) := by decide +kernel
theorem dX10_canBe_4 : decode cX10_canBe 4 = .ok (.aload_n 0, 1) := by decide +kernel
theorem dX10_canBe_5 : decode cX10_canBe 5 = .ok (.getfield 146, 3) := by decide +kernel
theorem dX10_canBe_8 : decode cX10_canBe 8 = .ok (.ishl, 1) := by decide +kernel
theorem dX10_canBe_9 : decode cX10_canBe 9 = .ok (.if_icmp .ge 28, 3) := by decide +kernel
theorem dX10_canBe_12 : decode cX10_canBe 12 = .ok (.aload_n 0, 1) := by decide +kernel
theorem dX10_canBe_13 : decode cX10_canBe 13 = .ok (.iload_n 2, 1) := by decide +kernel
theorem kw_5_224 : Cond.methodLink RX10 208 yX10_isSet ∈ gw := gw_t5 (List.mem_of_getElem? (i := 224) (by decide +kernel)) (by decide +kernel)
theorem kw_5_226 : Cond.instanceMethod yX10_isSet ∈ gw := gw_t5 (List.mem_of_getElem? (i := 226) (by decide +kernel)) (by decide +kernel)
theorem ks_4_11 : Cond.selects RX10 yX10_isSet yX10_isSet ∈ gw := gw_s (y := yX10_isSet) (n := 37) (List.mem_append_right _ (List.mem_append_right _ (List.mem_append_right _ (List.mem_of_getElem? (i := 11) (by decide +kernel)))))
theorem kw_5_227 : Cond.code yX10_isSet cX10_isSet 3 (some .boolean) ∈ gw := gw_t5 (List.mem_of_getElem? (i := 227) (by decide +kernel)) (by decide +kernel)
theorem gk_X10_208 : GoodIn gw (wsV RX10 208 RX10 yX10_isSet (.code yX10_isSet cX10_isSet 3 (some .boolean) :: gw)) ∧ (yX10_isSet.cls = RX10 ∧ yX10_isSet.cls ≠ "java/lang/invoke/MethodHandle" ∧ yX10_isSet.cls ≠ "java/lang/invoke/VarHandle" ∧ (parseMethodDescriptor yX10_isSet.desc).map (fun d => d.parameters.length) = some 1) := ⟨gi_V kw_5_224 kw_5_226 ks_4_11 kw_1_11 kw_5_227, by decide +kernel⟩
theorem dX10_canBe_14 : decode cX10_canBe 14 = .ok (.invokevirtual 208, 3) := by decide +kernel
theorem dX10_canBe_17 : decode cX10_canBe 17 = .ok (.ifCond .eq 14, 3) := by decide +kernel
theorem dX10_canBe_31 : decode cX10_canBe 31 = .ok (.iinc 2 1, 3) := by decide +kernel
theorem dX10_canBe_34 : decode cX10_canBe 34 = .ok (.goto (-32), 3) := by decide +kernel
theorem dX10_canBe_20 : decode cX10_canBe 20 = .ok (.aload_n 0, 1) := by decide +kernel
theorem dX10_canBe_21 : decode cX10_canBe 21 = .ok (.iload_n 2, 1) := by decide +kernel
theorem dX10_canBe_22 : decode cX10_canBe 22 = .ok (.iload_n 1, 1) := by decide +kernel
theorem kw_5_228 : Cond.methodLink RX10 211 yX10_over ∈ gw := gw_t5 (List.mem_of_getElem? (i := 228) (by decide +kernel)) (by decide +kernel)
theorem kw_5_230 : Cond.instanceMethod yX10_over ∈ gw := gw_t5 (List.mem_of_getElem? (i := 230) (by decide +kernel)) (by decide +kernel)
theorem ks_4_12 : Cond.selects RX10 yX10_over yX10_over ∈ gw := gw_s (y := yX10_over) (n := 37) (List.mem_append_right _ (List.mem_append_right _ (List.mem_append_right _ (List.mem_of_getElem? (i := 12) (by decide +kernel)))))
theorem kw_5_231 : Cond.code yX10_over cX10_over 7 (some .int) ∈ gw := gw_t5 (List.mem_of_getElem? (i := 231) (by decide +kernel)) (by decide +kernel)
theorem gk_X10_211 : GoodIn gw (wsV RX10 211 RX10 yX10_over (.code yX10_over cX10_over 7 (some .int) :: gw)) ∧ (yX10_over.cls = RX10 ∧ yX10_over.cls ≠ "java/lang/invoke/MethodHandle" ∧ yX10_over.cls ≠ "java/lang/invoke/VarHandle" ∧ (parseMethodDescriptor yX10_over.desc).map (fun d => d.parameters.length) = some 2) := ⟨gi_V kw_5_228 kw_5_230 ks_4_12 kw_1_11 kw_5_231, by decide +kernel⟩
theorem dX10_canBe_23 : decode cX10_canBe 23 = .ok (.invokevirtual 211, 3) := by decide +kernel
theorem dX10_canBe_26 : decode cX10_canBe 26 = .ok (.ifCond .le 5, 3) := by decide +kernel
theorem dX10_canBe_0 : decode cX10_canBe 0 = .ok (.iconst 1, 1) := by decide +kernel
theorem dX10_canBe_1 : decode cX10_canBe 1 = .ok (.istore_n 2, 1) := by decide +kernel
theorem dX10_canBe_29 : decode cX10_canBe 29 = .ok (.iconst 0, 1) := by decide +kernel
theorem dX10_canBe_30 : decode cX10_canBe 30 = .ok (.ireturn, 1) := by decide +kernel
theorem dX10_canBe_37 : decode cX10_canBe 37 = .ok (.iconst 1, 1) := by decide +kernel
theorem dX10_canBe_38 : decode cX10_canBe 38 = .ok (.ireturn, 1) := by decide +kernel
theorem dX10_soonest_40 : decode cX10_soonest 40 = .ok (.iload_n 3, 1) := by decide +kernel
theorem dX10_soonest_41 : decode cX10_soonest 41 = .ok (.aload_n 0, 1) := by decide +kernel
theorem dX10_soonest_42 : decode cX10_soonest 42 = .ok (.getfield 143, 3) := by decide +kernel
theorem dX10_soonest_45 : decode cX10_soonest 45 = .ok (.if_icmp .ge 35, 3) := by decide +kernel
theorem dX10_soonest_48 : decode cX10_soonest 48 = .ok (.iload_n 2, 1) := by decide +kernel
theorem dX10_soonest_49 : decode cX10_soonest 49 = .ok (.ifCond .ne 19, 3) := by decide +kernel
theorem dX10_soonest_68 : decode cX10_soonest 68 = .ok (.iconst 1, 1) := by decide +kernel
theorem dX10_soonest_69 : decode cX10_soonest 69 = .ok (.goto 4, 3) := by decide +kernel
theorem dX10_soonest_73 : decode cX10_soonest 73 = .ok (.istore_n 2, 1) := by decide +kernel
theorem dX10_soonest_74 : decode cX10_soonest 74 = .ok (.iinc 3 1, 3) := by decide +kernel
theorem dX10_soonest_77 : decode cX10_soonest 77 = .ok (.goto (-37), 3) := by decide +kernel
theorem dX10_soonest_52 : decode cX10_soonest 52 = .ok (.aload_n 0, 1) := by decide +kernel
theorem dX10_soonest_53 : decode cX10_soonest 53 = .ok (.getfield 75, 3) := by decide +kernel
theorem dX10_soonest_56 : decode cX10_soonest 56 = .ok (.iconst 4, 1) := by decide +kernel
theorem dX10_soonest_57 : decode cX10_soonest 57 = .ok (.iload_n 1, 1) := by decide +kernel
theorem dX10_soonest_58 : decode cX10_soonest 58 = .ok (.imul, 1) := by decide +kernel
theorem dX10_soonest_59 : decode cX10_soonest 59 = .ok (.iload_n 3, 1) := by decide +kernel
theorem dX10_soonest_60 : decode cX10_soonest 60 = .ok (.iadd, 1) := by decide +kernel
theorem dX10_soonest_61 : decode cX10_soonest 61 = .ok (.iaload, 1) := by decide +kernel
theorem dX10_soonest_62 : decode cX10_soonest 62 = .ok (.sipush 9999, 3) := by decide +kernel
theorem dX10_soonest_65 : decode cX10_soonest 65 = .ok (.if_icmp .ge 7, 3) := by decide +kernel
theorem dX10_soonest_72 : decode cX10_soonest 72 = .ok (.iconst 0, 1) := by decide +kernel
theorem dX10_soonest_6 : decode cX10_soonest 6 = .ok (.iload_n 1, 1) := by decide +kernel
theorem dX10_soonest_7 : decode cX10_soonest 7 = .ok (.aload_n 0, 1) := by decide +kernel
theorem dX10_soonest_8 : decode cX10_soonest 8 = .ok (.getfield 146, 3) := by decide +kernel
theorem dX10_soonest_11 : decode cX10_soonest 11 = .ok (.if_icmp .ge 81, 3) := by decide +kernel
theorem dX10_soonest_14 : decode cX10_soonest 14 = .ok (.aload_n 0, 1) := by decide +kernel
theorem dX10_soonest_15 : decode cX10_soonest 15 = .ok (.getfield 51, 3) := by decide +kernel
theorem dX10_soonest_18 : decode cX10_soonest 18 = .ok (.iload_n 1, 1) := by decide +kernel
theorem dX10_soonest_19 : decode cX10_soonest 19 = .ok (.iaload, 1) := by decide +kernel
theorem dX10_soonest_20 : decode cX10_soonest 20 = .ok (.iconst 1, 1) := by decide +kernel
theorem dX10_soonest_21 : decode cX10_soonest 21 = .ok (.if_icmp .ne 65, 3) := by decide +kernel
theorem dX10_soonest_86 : decode cX10_soonest 86 = .ok (.iinc 1 1, 3) := by decide +kernel
theorem dX10_soonest_89 : decode cX10_soonest 89 = .ok (.goto (-83), 3) := by decide +kernel
theorem dX10_soonest_24 : decode cX10_soonest 24 = .ok (.aload_n 0, 1) := by decide +kernel
theorem dX10_soonest_25 : decode cX10_soonest 25 = .ok (.getfield 48, 3) := by decide +kernel
theorem dX10_soonest_28 : decode cX10_soonest 28 = .ok (.iload_n 1, 1) := by decide +kernel
theorem dX10_soonest_29 : decode cX10_soonest 29 = .ok (.iaload, 1) := by decide +kernel
theorem dX10_soonest_30 : decode cX10_soonest 30 = .ok (.ifCond .ne 6, 3) := by decide +kernel
theorem dX10_soonest_36 : decode cX10_soonest 36 = .ok (.iconst 0, 1) := by decide +kernel
theorem dX10_soonest_37 : decode cX10_soonest 37 = .ok (.istore_n 2, 1) := by decide +kernel
theorem dX10_soonest_38 : decode cX10_soonest 38 = .ok (.iconst 0, 1) := by decide +kernel
theorem dX10_soonest_39 : decode cX10_soonest 39 = .ok (.istore_n 3, 1) := by decide +kernel
theorem dX10_soonest_80 : decode cX10_soonest 80 = .ok (.iload_n 2, 1) := by decide +kernel
theorem dX10_soonest_81 : decode cX10_soonest 81 = .ok (.ifCond .ne 5, 3) := by decide +kernel
theorem dX10_soonest_33 : decode cX10_soonest 33 = .ok (.goto 53, 3) := by decide +kernel
theorem dX10_soonest_98 : decode cX10_soonest 98 = .ok (.iload_n 1, 1) := by decide +kernel
theorem dX10_soonest_99 : decode cX10_soonest 99 = .ok (.iload_n 2, 1) := by decide +kernel
theorem dX10_soonest_100 : decode cX10_soonest 100 = .ok (.if_icmp .ge 29, 3) := by decide +kernel
theorem dX10_soonest_103 : decode cX10_soonest 103 = .ok (.iload_n 1, 1) := by decide +kernel
theorem dX10_soonest_104 : decode cX10_soonest 104 = .ok (.iload_n 2, 1) := by decide +kernel
theorem dX10_soonest_105 : decode cX10_soonest 105 = .ok (.iadd, 1) := by decide +kernel
theorem dX10_soonest_106 : decode cX10_soonest 106 = .ok (.iconst 2, 1) := by decide +kernel
theorem dX10_soonest_107 : decode cX10_soonest 107 = .ok (.idiv, 1) := by decide +kernel
theorem dX10_soonest_108 : decode cX10_soonest 108 = .ok (.istore_n 3, 1) := by decide +kernel
theorem dX10_soonest_109 : decode cX10_soonest 109 = .ok (.aload_n 0, 1) := by decide +kernel
theorem dX10_soonest_110 : decode cX10_soonest 110 = .ok (.iload_n 3, 1) := by decide +kernel
theorem kw_5_220 : Cond.methodLink RX10 217 yX10_canBe ∈ gw := gw_t5 (List.mem_of_getElem? (i := 220) (by decide +kernel)) (by decide +kernel)
theorem kw_5_222 : Cond.instanceMethod yX10_canBe ∈ gw := gw_t5 (List.mem_of_getElem? (i := 222) (by decide +kernel)) (by decide +kernel)
theorem ks_4_10 : Cond.selects RX10 yX10_canBe yX10_canBe ∈ gw := gw_s (y := yX10_canBe) (n := 37) (List.mem_append_right _ (List.mem_append_right _ (List.mem_append_right _ (List.mem_of_getElem? (i := 10) (by decide +kernel)))))
theorem kw_5_223 : Cond.code yX10_canBe cX10_canBe 3 (some .boolean) ∈ gw := gw_t5 (List.mem_of_getElem? (i := 223) (by decide +kernel)) (by decide +kernel)
theorem gk_X10_217 : GoodIn gw (wsV RX10 217 RX10 yX10_canBe (.code yX10_canBe cX10_canBe 3 (some .boolean) :: gw)) ∧ (yX10_canBe.cls = RX10 ∧ yX10_canBe.cls ≠ "java/lang/invoke/MethodHandle" ∧ yX10_canBe.cls ≠ "java/lang/invoke/VarHandle" ∧ (parseMethodDescriptor yX10_canBe.desc).map (fun d => d.parameters.length) = some 1) := ⟨gi_V kw_5_220 kw_5_222 ks_4_10 kw_1_11 kw_5_223, by decide +kernel⟩
theorem dX10_soonest_111 : decode cX10_soonest 111 = .ok (.invokevirtual 217, 3) := by decide +kernel
theorem dX10_soonest_114 : decode cX10_soonest 114 = .ok (.ifCond .eq 8, 3) := by decide +kernel
theorem dX10_soonest_122 : decode cX10_soonest 122 = .ok (.iload_n 3, 1) := by decide +kernel
theorem dX10_soonest_123 : decode cX10_soonest 123 = .ok (.iconst 1, 1) := by decide +kernel
theorem dX10_soonest_124 : decode cX10_soonest 124 = .ok (.iadd, 1) := by decide +kernel
theorem dX10_soonest_125 : decode cX10_soonest 125 = .ok (.istore_n 1, 1) := by decide +kernel
theorem dX10_soonest_126 : decode cX10_soonest 126 = .ok (.goto (-28), 3) := by decide +kernel
theorem dX10_soonest_117 : decode cX10_soonest 117 = .ok (.iload_n 3, 1) := by decide +kernel
theorem dX10_soonest_118 : decode cX10_soonest 118 = .ok (.istore_n 2, 1) := by decide +kernel
theorem dX10_soonest_119 : decode cX10_soonest 119 = .ok (.goto 7, 3) := by decide +kernel
theorem dX10_soonest_0 : decode cX10_soonest 0 = .ok (.aload_n 0, 1) := by decide +kernel
theorem kw_5_200 : Cond.methodLink RX10 214 yX10_pathAll ∈ gw := gw_t5 (List.mem_of_getElem? (i := 200) (by decide +kernel)) (by decide +kernel)
theorem kw_5_202 : Cond.instanceMethod yX10_pathAll ∈ gw := gw_t5 (List.mem_of_getElem? (i := 202) (by decide +kernel)) (by decide +kernel)
theorem ks_4_5 : Cond.selects RX10 yX10_pathAll yX10_pathAll ∈ gw := gw_s (y := yX10_pathAll) (n := 37) (List.mem_append_right _ (List.mem_append_right _ (List.mem_append_right _ (List.mem_of_getElem? (i := 5) (by decide +kernel)))))
theorem kw_5_203 : Cond.code yX10_pathAll cX10_pathAll 3 none ∈ gw := gw_t5 (List.mem_of_getElem? (i := 203) (by decide +kernel)) (by decide +kernel)
theorem gk_X10_214 : GoodIn gw (wsV RX10 214 RX10 yX10_pathAll (.code yX10_pathAll cX10_pathAll 3 none :: gw)) ∧ (yX10_pathAll.cls = RX10 ∧ yX10_pathAll.cls ≠ "java/lang/invoke/MethodHandle" ∧ yX10_pathAll.cls ≠ "java/lang/invoke/VarHandle" ∧ (parseMethodDescriptor yX10_pathAll.desc).map (fun d => d.parameters.length) = some 0) := ⟨gi_V kw_5_200 kw_5_202 ks_4_5 kw_1_11 kw_5_203, by decide +kernel⟩
theorem dX10_soonest_1 : decode cX10_soonest 1 = .ok (.invokevirtual 214, 3) := by decide +kernel
theorem dX10_soonest_4 : decode cX10_soonest 4 = .ok (.iconst 0, 1) := by decide +kernel
theorem dX10_soonest_5 : decode cX10_soonest 5 = .ok (.istore_n 1, 1) := by decide +kernel
theorem dX10_soonest_84 : decode cX10_soonest 84 = .ok (.iconst (-1), 1) := by decide +kernel
theorem dX10_soonest_85 : decode cX10_soonest 85 = .ok (.ireturn, 1) := by decide +kernel
theorem dX10_soonest_92 : decode cX10_soonest 92 = .ok (.iconst 0, 1) := by decide +kernel
theorem dX10_soonest_93 : decode cX10_soonest 93 = .ok (.istore_n 1, 1) := by decide +kernel
theorem dX10_soonest_94 : decode cX10_soonest 94 = .ok (.sipush 1200, 3) := by decide +kernel
theorem dX10_soonest_97 : decode cX10_soonest 97 = .ok (.istore_n 2, 1) := by decide +kernel
theorem dX10_soonest_129 : decode cX10_soonest 129 = .ok (.iload_n 1, 1) := by decide +kernel
theorem dX10_soonest_130 : decode cX10_soonest 130 = .ok (.ireturn, 1) := by decide +kernel
theorem dX10_soon_0 : decode cX10_soon 0 = .ok (.aload_n 0, 1) := by decide +kernel
theorem dX10_soon_1 : decode cX10_soon 1 = .ok (.iconst 0, 1) := by decide +kernel
theorem dX10_soon_2 : decode cX10_soon 2 = .ok (.putfield 78, 3) := by decide +kernel
theorem dX10_soon_5 : decode cX10_soon 5 = .ok (.aload_n 0, 1) := by decide +kernel
theorem kw_5_196 : Cond.methodLink RX10 220 yX10_soonest ∈ gw := gw_t5 (List.mem_of_getElem? (i := 196) (by decide +kernel)) (by decide +kernel)
theorem kw_5_198 : Cond.instanceMethod yX10_soonest ∈ gw := gw_t5 (List.mem_of_getElem? (i := 198) (by decide +kernel)) (by decide +kernel)
theorem ks_4_4 : Cond.selects RX10 yX10_soonest yX10_soonest ∈ gw := gw_s (y := yX10_soonest) (n := 37) (List.mem_append_right _ (List.mem_append_right _ (List.mem_append_right _ (List.mem_of_getElem? (i := 4) (by decide +kernel)))))
theorem kw_5_199 : Cond.code yX10_soonest cX10_soonest 4 (some .int) ∈ gw := gw_t5 (List.mem_of_getElem? (i := 199) (by decide +kernel)) (by decide +kernel)
theorem gk_X10_220 : GoodIn gw (wsV RX10 220 RX10 yX10_soonest (.code yX10_soonest cX10_soonest 4 (some .int) :: gw)) ∧ (yX10_soonest.cls = RX10 ∧ yX10_soonest.cls ≠ "java/lang/invoke/MethodHandle" ∧ yX10_soonest.cls ≠ "java/lang/invoke/VarHandle" ∧ (parseMethodDescriptor yX10_soonest.desc).map (fun d => d.parameters.length) = some 0) := ⟨gi_V kw_5_196 kw_5_198 ks_4_4 kw_1_11 kw_5_199, by decide +kernel⟩
theorem dX10_soon_6 : decode cX10_soon 6 = .ok (.invokevirtual 220, 3) := by decide +kernel
theorem dX10_soon_9 : decode cX10_soon 9 = .ok (.ireturn, 1) := by decide +kernel
theorem dX10_proof_19 : decode cX10_proof 19 = .ok (.iload_n 2, 1) := by decide +kernel
theorem dX10_proof_20 : decode cX10_proof 20 = .ok (.iconst 1, 1) := by decide +kernel
theorem dX10_proof_21 : decode cX10_proof 21 = .ok (.aload_n 0, 1) := by decide +kernel
theorem dX10_proof_22 : decode cX10_proof 22 = .ok (.getfield 146, 3) := by decide +kernel
theorem dX10_proof_25 : decode cX10_proof 25 = .ok (.ishl, 1) := by decide +kernel
theorem dX10_proof_26 : decode cX10_proof 26 = .ok (.if_icmp .ge 30, 3) := by decide +kernel
theorem dX10_proof_29 : decode cX10_proof 29 = .ok (.aload_n 0, 1) := by decide +kernel
theorem dX10_proof_30 : decode cX10_proof 30 = .ok (.iload_n 2, 1) := by decide +kernel
theorem dX10_proof_31 : decode cX10_proof 31 = .ok (.invokevirtual 208, 3) := by decide +kernel
theorem dX10_proof_34 : decode cX10_proof 34 = .ok (.ifCond .eq 16, 3) := by decide +kernel
theorem dX10_proof_50 : decode cX10_proof 50 = .ok (.iinc 2 1, 3) := by decide +kernel
theorem dX10_proof_53 : decode cX10_proof 53 = .ok (.goto (-34), 3) := by decide +kernel
theorem dX10_proof_37 : decode cX10_proof 37 = .ok (.aload_n 0, 1) := by decide +kernel
theorem dX10_proof_38 : decode cX10_proof 38 = .ok (.iload_n 2, 1) := by decide +kernel
theorem dX10_proof_39 : decode cX10_proof 39 = .ok (.iload_n 1, 1) := by decide +kernel
theorem dX10_proof_40 : decode cX10_proof 40 = .ok (.iconst 1, 1) := by decide +kernel
theorem dX10_proof_41 : decode cX10_proof 41 = .ok (.isub, 1) := by decide +kernel
theorem dX10_proof_42 : decode cX10_proof 42 = .ok (.invokevirtual 211, 3) := by decide +kernel
theorem dX10_proof_45 : decode cX10_proof 45 = .ok (.ifCond .le 5, 3) := by decide +kernel
theorem dX10_proof_0 : decode cX10_proof 0 = .ok (.aload_n 0, 1) := by decide +kernel
theorem dX10_proof_1 : decode cX10_proof 1 = .ok (.iconst 0, 1) := by decide +kernel
theorem dX10_proof_2 : decode cX10_proof 2 = .ok (.putfield 78, 3) := by decide +kernel
theorem dX10_proof_5 : decode cX10_proof 5 = .ok (.aload_n 0, 1) := by decide +kernel
theorem dX10_proof_6 : decode cX10_proof 6 = .ok (.invokevirtual 220, 3) := by decide +kernel
theorem dX10_proof_9 : decode cX10_proof 9 = .ok (.istore_n 1, 1) := by decide +kernel
theorem dX10_proof_10 : decode cX10_proof 10 = .ok (.iload_n 1, 1) := by decide +kernel
theorem dX10_proof_11 : decode cX10_proof 11 = .ok (.iconst 1, 1) := by decide +kernel
theorem dX10_proof_12 : decode cX10_proof 12 = .ok (.if_icmp .ge 5, 3) := by decide +kernel
theorem dX10_proof_17 : decode cX10_proof 17 = .ok (.iconst 1, 1) := by decide +kernel
theorem dX10_proof_18 : decode cX10_proof 18 = .ok (.istore_n 2, 1) := by decide +kernel
theorem dX10_proof_48 : decode cX10_proof 48 = .ok (.iload_n 2, 1) := by decide +kernel
theorem dX10_proof_49 : decode cX10_proof 49 = .ok (.ireturn, 1) := by decide +kernel
theorem dX10_proof_56 : decode cX10_proof 56 = .ok (.iconst (-1), 1) := by decide +kernel
theorem dX10_proof_57 : decode cX10_proof 57 = .ok (.ireturn, 1) := by decide +kernel
theorem dX10_proof_15 : decode cX10_proof 15 = .ok (.iconst (-1), 1) := by decide +kernel
theorem dX10_proof_16 : decode cX10_proof 16 = .ok (.ireturn, 1) := by decide +kernel
theorem dX10_moves_2 : decode cX10_moves 2 = .ok (.iload_n 2, 1) := by decide +kernel
theorem dX10_moves_3 : decode cX10_moves 3 = .ok (.bipush 100, 2) := by decide +kernel
theorem dX10_moves_5 : decode cX10_moves 5 = .ok (.if_icmp .ge 71, 3) := by decide +kernel
theorem dX10_moves_8 : decode cX10_moves 8 = .ok (.aload_n 0, 1) := by decide +kernel
theorem dX10_moves_9 : decode cX10_moves 9 = .ok (.getfield 51, 3) := by decide +kernel
theorem dX10_moves_12 : decode cX10_moves 12 = .ok (.iload_n 1, 1) := by decide +kernel
theorem dX10_moves_13 : decode cX10_moves 13 = .ok (.iaload, 1) := by decide +kernel
theorem dX10_moves_14 : decode cX10_moves 14 = .ok (.iconst 1, 1) := by decide +kernel
theorem dX10_moves_15 : decode cX10_moves 15 = .ok (.if_icmp .ne 61, 3) := by decide +kernel
theorem dX10_moves_18 : decode cX10_moves 18 = .ok (.iload_n 2, 1) := by decide +kernel
theorem dX10_moves_19 : decode cX10_moves 19 = .ok (.bipush 10, 2) := by decide +kernel
theorem dX10_moves_21 : decode cX10_moves 21 = .ok (.irem, 1) := by decide +kernel
theorem dX10_moves_22 : decode cX10_moves 22 = .ok (.aload_n 0, 1) := by decide +kernel
theorem dX10_moves_23 : decode cX10_moves 23 = .ok (.getfield 26, 3) := by decide +kernel
theorem dX10_moves_26 : decode cX10_moves 26 = .ok (.if_icmp .ge 44, 3) := by decide +kernel
theorem dX10_moves_70 : decode cX10_moves 70 = .ok (.iinc 2 1, 3) := by decide +kernel
theorem dX10_moves_73 : decode cX10_moves 73 = .ok (.goto (-71), 3) := by decide +kernel
theorem dX10_moves_29 : decode cX10_moves 29 = .ok (.iload_n 2, 1) := by decide +kernel
theorem dX10_moves_30 : decode cX10_moves 30 = .ok (.bipush 10, 2) := by decide +kernel
theorem dX10_moves_32 : decode cX10_moves 32 = .ok (.idiv, 1) := by decide +kernel
theorem dX10_moves_33 : decode cX10_moves 33 = .ok (.aload_n 0, 1) := by decide +kernel
theorem dX10_moves_34 : decode cX10_moves 34 = .ok (.getfield 29, 3) := by decide +kernel
theorem dX10_moves_37 : decode cX10_moves 37 = .ok (.if_icmp .ge 33, 3) := by decide +kernel
theorem dX10_moves_40 : decode cX10_moves 40 = .ok (.aload_n 0, 1) := by decide +kernel
theorem dX10_moves_41 : decode cX10_moves 41 = .ok (.getfield 38, 3) := by decide +kernel
theorem dX10_moves_44 : decode cX10_moves 44 = .ok (.iload_n 2, 1) := by decide +kernel
theorem dX10_moves_45 : decode cX10_moves 45 = .ok (.baload, 1) := by decide +kernel
theorem dX10_moves_46 : decode cX10_moves 46 = .ok (.ifCond .eq 24, 3) := by decide +kernel
theorem dX10_moves_49 : decode cX10_moves 49 = .ok (.iload_n 2, 1) := by decide +kernel
theorem dX10_moves_50 : decode cX10_moves 50 = .ok (.aload_n 0, 1) := by decide +kernel
theorem dX10_moves_51 : decode cX10_moves 51 = .ok (.getfield 54, 3) := by decide +kernel
theorem dX10_moves_54 : decode cX10_moves 54 = .ok (.iload_n 1, 1) := by decide +kernel
theorem dX10_moves_55 : decode cX10_moves 55 = .ok (.iaload, 1) := by decide +kernel
theorem dX10_moves_56 : decode cX10_moves 56 = .ok (.invokestatic 162, 3) := by decide +kernel
theorem dX10_moves_59 : decode cX10_moves 59 = .ok (.aload_n 0, 1) := by decide +kernel
theorem dX10_moves_60 : decode cX10_moves 60 = .ok (.getfield 13, 3) := by decide +kernel
theorem dX10_moves_63 : decode cX10_moves 63 = .ok (.iconst 4, 1) := by decide +kernel
theorem dX10_moves_64 : decode cX10_moves 64 = .ok (.iaload, 1) := by decide +kernel
theorem dX10_moves_65 : decode cX10_moves 65 = .ok (.if_icmp .ge 5, 3) := by decide +kernel
theorem dX10_moves_0 : decode cX10_moves 0 = .ok (.iconst 0, 1) := by decide +kernel
theorem dX10_moves_1 : decode cX10_moves 1 = .ok (.istore_n 2, 1) := by decide +kernel
theorem dX10_moves_68 : decode cX10_moves 68 = .ok (.iconst 1, 1) := by decide +kernel
theorem dX10_moves_69 : decode cX10_moves 69 = .ok (.ireturn, 1) := by decide +kernel
theorem dX10_moves_76 : decode cX10_moves 76 = .ok (.iconst 0, 1) := by decide +kernel
theorem dX10_moves_77 : decode cX10_moves 77 = .ok (.ireturn, 1) := by decide +kernel
theorem dX10_nearest_22 : decode cX10_nearest 22 = .ok (.iload_n 3, 1) := by decide +kernel
theorem dX10_nearest_23 : decode cX10_nearest 23 = .ok (.aload_n 0, 1) := by decide +kernel
theorem dX10_nearest_24 : decode cX10_nearest 24 = .ok (.getfield 143, 3) := by decide +kernel
theorem dX10_nearest_27 : decode cX10_nearest 27 = .ok (.if_icmp .ge 38, 3) := by decide +kernel
theorem dX10_nearest_30 : decode cX10_nearest 30 = .ok (.aload_n 0, 1) := by decide +kernel
theorem dX10_nearest_31 : decode cX10_nearest 31 = .ok (.getfield 75, 3) := by decide +kernel
theorem dX10_nearest_34 : decode cX10_nearest 34 = .ok (.iconst 4, 1) := by decide +kernel
theorem dX10_nearest_35 : decode cX10_nearest 35 = .ok (.iload_n 1, 1) := by decide +kernel
theorem dX10_nearest_36 : decode cX10_nearest 36 = .ok (.imul, 1) := by decide +kernel
theorem dX10_nearest_37 : decode cX10_nearest 37 = .ok (.iload_n 3, 1) := by decide +kernel
theorem dX10_nearest_38 : decode cX10_nearest 38 = .ok (.iadd, 1) := by decide +kernel
theorem dX10_nearest_39 : decode cX10_nearest 39 = .ok (.iaload, 1) := by decide +kernel
theorem dX10_nearest_40 : decode cX10_nearest 40 = .ok (.iload_n 2, 1) := by decide +kernel
theorem dX10_nearest_41 : decode cX10_nearest 41 = .ok (.if_icmp .ge 16, 3) := by decide +kernel
theorem dX10_nearest_57 : decode cX10_nearest 57 = .ok (.iload_n 2, 1) := by decide +kernel
theorem dX10_nearest_58 : decode cX10_nearest 58 = .ok (.istore_n 2, 1) := by decide +kernel
theorem dX10_nearest_59 : decode cX10_nearest 59 = .ok (.iinc 3 1, 3) := by decide +kernel
theorem dX10_nearest_62 : decode cX10_nearest 62 = .ok (.goto (-40), 3) := by decide +kernel
theorem dX10_nearest_44 : decode cX10_nearest 44 = .ok (.aload_n 0, 1) := by decide +kernel
theorem dX10_nearest_45 : decode cX10_nearest 45 = .ok (.getfield 75, 3) := by decide +kernel
theorem dX10_nearest_48 : decode cX10_nearest 48 = .ok (.iconst 4, 1) := by decide +kernel
theorem dX10_nearest_49 : decode cX10_nearest 49 = .ok (.iload_n 1, 1) := by decide +kernel
theorem dX10_nearest_50 : decode cX10_nearest 50 = .ok (.imul, 1) := by decide +kernel
theorem dX10_nearest_51 : decode cX10_nearest 51 = .ok (.iload_n 3, 1) := by decide +kernel
theorem dX10_nearest_52 : decode cX10_nearest 52 = .ok (.iadd, 1) := by decide +kernel
theorem dX10_nearest_53 : decode cX10_nearest 53 = .ok (.iaload, 1) := by decide +kernel
theorem dX10_nearest_54 : decode cX10_nearest 54 = .ok (.goto 4, 3) := by decide +kernel
theorem dX10_nearest_0 : decode cX10_nearest 0 = .ok (.aload_n 0, 1) := by decide +kernel
theorem dX10_nearest_1 : decode cX10_nearest 1 = .ok (.getfield 51, 3) := by decide +kernel
theorem dX10_nearest_4 : decode cX10_nearest 4 = .ok (.iload_n 1, 1) := by decide +kernel
theorem dX10_nearest_5 : decode cX10_nearest 5 = .ok (.iaload, 1) := by decide +kernel
theorem dX10_nearest_6 : decode cX10_nearest 6 = .ok (.iconst 1, 1) := by decide +kernel
theorem dX10_nearest_7 : decode cX10_nearest 7 = .ok (.if_icmp .eq 5, 3) := by decide +kernel
theorem dX10_nearest_12 : decode cX10_nearest 12 = .ok (.aload_n 0, 1) := by decide +kernel
theorem dX10_nearest_13 : decode cX10_nearest 13 = .ok (.invokevirtual 214, 3) := by decide +kernel
theorem dX10_nearest_16 : decode cX10_nearest 16 = .ok (.sipush 9999, 3) := by decide +kernel
theorem dX10_nearest_19 : decode cX10_nearest 19 = .ok (.istore_n 2, 1) := by decide +kernel
theorem dX10_nearest_20 : decode cX10_nearest 20 = .ok (.iconst 0, 1) := by decide +kernel
theorem dX10_nearest_21 : decode cX10_nearest 21 = .ok (.istore_n 3, 1) := by decide +kernel
theorem dX10_nearest_65 : decode cX10_nearest 65 = .ok (.iload_n 2, 1) := by decide +kernel
theorem dX10_nearest_66 : decode cX10_nearest 66 = .ok (.sipush 9999, 3) := by decide +kernel
theorem dX10_nearest_69 : decode cX10_nearest 69 = .ok (.if_icmp .ne 7, 3) := by decide +kernel
theorem dX10_nearest_76 : decode cX10_nearest 76 = .ok (.iload_n 2, 1) := by decide +kernel
theorem dX10_nearest_77 : decode cX10_nearest 77 = .ok (.ireturn, 1) := by decide +kernel
theorem dX10_nearest_72 : decode cX10_nearest 72 = .ok (.iconst (-1), 1) := by decide +kernel
theorem dX10_nearest_73 : decode cX10_nearest 73 = .ok (.goto 4, 3) := by decide +kernel
theorem dX10_nearest_10 : decode cX10_nearest 10 = .ok (.iconst (-1), 1) := by decide +kernel
theorem dX10_nearest_11 : decode cX10_nearest 11 = .ok (.ireturn, 1) := by decide +kernel
theorem dX10_cell_0 : decode cX10_cell 0 = .ok (.aload_n 0, 1) := by decide +kernel
theorem dX10_cell_1 : decode cX10_cell 1 = .ok (.iconst 0, 1) := by decide +kernel
theorem dX10_cell_2 : decode cX10_cell 2 = .ok (.putfield 78, 3) := by decide +kernel
theorem dX10_cell_5 : decode cX10_cell 5 = .ok (.aload_n 0, 1) := by decide +kernel
theorem dX10_cell_6 : decode cX10_cell 6 = .ok (.iload_n 1, 1) := by decide +kernel
theorem dX10_cell_7 : decode cX10_cell 7 = .ok (.iload_n 2, 1) := by decide +kernel
theorem dX10_cell_8 : decode cX10_cell 8 = .ok (.invokevirtual 155, 3) := by decide +kernel
theorem dX10_cell_11 : decode cX10_cell 11 = .ok (.ifCond .ne 9, 3) := by decide +kernel
theorem dX10_cell_14 : decode cX10_cell 14 = .ok (.aload_n 0, 1) := by decide +kernel
theorem dX10_cell_15 : decode cX10_cell 15 = .ok (.iconst 1, 1) := by decide +kernel
theorem kw_6_0 : Cond.methodLink RX10 224 yX10_fails ∈ gw := gw_t6 (List.mem_of_getElem? (i := 0) (by decide +kernel)) (by decide +kernel)
theorem kw_6_2 : Cond.instanceMethod yX10_fails ∈ gw := gw_t6 (List.mem_of_getElem? (i := 2) (by decide +kernel)) (by decide +kernel)
theorem ks_4_13 : Cond.selects RX10 yX10_fails yX10_fails ∈ gw := gw_s (y := yX10_fails) (n := 37) (List.mem_append_right _ (List.mem_append_right _ (List.mem_append_right _ (List.mem_of_getElem? (i := 13) (by decide +kernel)))))
theorem kw_6_3 : Cond.code yX10_fails cX10_fails 2 (some .int) ∈ gw := gw_t6 (List.mem_of_getElem? (i := 3) (by decide +kernel)) (by decide +kernel)
theorem gk_X10_224 : GoodIn gw (wsV RX10 224 RX10 yX10_fails (.code yX10_fails cX10_fails 2 (some .int) :: gw)) ∧ (yX10_fails.cls = RX10 ∧ yX10_fails.cls ≠ "java/lang/invoke/MethodHandle" ∧ yX10_fails.cls ≠ "java/lang/invoke/VarHandle" ∧ (parseMethodDescriptor yX10_fails.desc).map (fun d => d.parameters.length) = some 1) := ⟨gi_V kw_6_0 kw_6_2 ks_4_13 kw_1_11 kw_6_3, by decide +kernel⟩
theorem dX10_cell_16 : decode cX10_cell 16 = .ok (.invokevirtual 224, 3) := by decide +kernel
theorem dX10_cell_19 : decode cX10_cell 19 = .ok (.ireturn, 1) := by decide +kernel
theorem dX10_cell_20 : decode cX10_cell 20 = .ok (.bipush 10, 2) := by decide +kernel
theorem dX10_cell_22 : decode cX10_cell 22 = .ok (.iload_n 2, 1) := by decide +kernel
theorem dX10_cell_23 : decode cX10_cell 23 = .ok (.imul, 1) := by decide +kernel
theorem dX10_cell_24 : decode cX10_cell 24 = .ok (.iload_n 1, 1) := by decide +kernel
theorem dX10_cell_25 : decode cX10_cell 25 = .ok (.iadd, 1) := by decide +kernel
theorem dX10_cell_26 : decode cX10_cell 26 = .ok (.istore 4, 2) := by decide +kernel
theorem dX10_cell_28 : decode cX10_cell 28 = .ok (.iload_n 3, 1) := by decide +kernel
theorem dX10_cell_29 : decode cX10_cell 29 = .ok (.tableswitch 92 0 5 #[39, 47, 55, 71, 78, 85], 39) := by decide +kernel
theorem dX10_cell_68 : decode cX10_cell 68 = .ok (.aload_n 0, 1) := by decide +kernel
theorem dX10_cell_69 : decode cX10_cell 69 = .ok (.getfield 32, 3) := by decide +kernel
theorem dX10_cell_72 : decode cX10_cell 72 = .ok (.iload 4, 2) := by decide +kernel
theorem dX10_cell_74 : decode cX10_cell 74 = .ok (.iaload, 1) := by decide +kernel
theorem dX10_cell_75 : decode cX10_cell 75 = .ok (.ireturn, 1) := by decide +kernel
theorem dX10_cell_76 : decode cX10_cell 76 = .ok (.aload_n 0, 1) := by decide +kernel
theorem dX10_cell_77 : decode cX10_cell 77 = .ok (.getfield 35, 3) := by decide +kernel
theorem dX10_cell_80 : decode cX10_cell 80 = .ok (.iload 4, 2) := by decide +kernel
theorem dX10_cell_82 : decode cX10_cell 82 = .ok (.iaload, 1) := by decide +kernel
theorem dX10_cell_83 : decode cX10_cell 83 = .ok (.ireturn, 1) := by decide +kernel
theorem dX10_cell_84 : decode cX10_cell 84 = .ok (.aload_n 0, 1) := by decide +kernel
theorem dX10_cell_85 : decode cX10_cell 85 = .ok (.getfield 38, 3) := by decide +kernel
theorem dX10_cell_88 : decode cX10_cell 88 = .ok (.iload 4, 2) := by decide +kernel
theorem dX10_cell_90 : decode cX10_cell 90 = .ok (.baload, 1) := by decide +kernel
theorem dX10_cell_91 : decode cX10_cell 91 = .ok (.ifCond .eq 7, 3) := by decide +kernel
theorem dX10_cell_98 : decode cX10_cell 98 = .ok (.iconst 0, 1) := by decide +kernel
theorem dX10_cell_99 : decode cX10_cell 99 = .ok (.ireturn, 1) := by decide +kernel
theorem dX10_cell_94 : decode cX10_cell 94 = .ok (.iconst 1, 1) := by decide +kernel
theorem dX10_cell_95 : decode cX10_cell 95 = .ok (.goto 4, 3) := by decide +kernel
theorem dX10_cell_100 : decode cX10_cell 100 = .ok (.aload_n 0, 1) := by decide +kernel
theorem dX10_cell_101 : decode cX10_cell 101 = .ok (.iload 4, 2) := by decide +kernel
theorem dX10_cell_103 : decode cX10_cell 103 = .ok (.invokevirtual 165, 3) := by decide +kernel
theorem dX10_cell_106 : decode cX10_cell 106 = .ok (.ireturn, 1) := by decide +kernel
theorem dX10_cell_107 : decode cX10_cell 107 = .ok (.aload_n 0, 1) := by decide +kernel
theorem dX10_cell_108 : decode cX10_cell 108 = .ok (.iload 4, 2) := by decide +kernel
theorem dX10_cell_110 : decode cX10_cell 110 = .ok (.invokevirtual 168, 3) := by decide +kernel
theorem dX10_cell_113 : decode cX10_cell 113 = .ok (.ireturn, 1) := by decide +kernel
theorem dX10_cell_114 : decode cX10_cell 114 = .ok (.aload_n 0, 1) := by decide +kernel
theorem dX10_cell_115 : decode cX10_cell 115 = .ok (.iload 4, 2) := by decide +kernel
theorem dX10_cell_117 : decode cX10_cell 117 = .ok (.invokevirtual 177, 3) := by decide +kernel
theorem dX10_cell_120 : decode cX10_cell 120 = .ok (.ireturn, 1) := by decide +kernel
theorem dX10_cell_121 : decode cX10_cell 121 = .ok (.aload_n 0, 1) := by decide +kernel
theorem dX10_cell_122 : decode cX10_cell 122 = .ok (.iconst 2, 1) := by decide +kernel
theorem dX10_cell_123 : decode cX10_cell 123 = .ok (.invokevirtual 224, 3) := by decide +kernel
theorem dX10_cell_126 : decode cX10_cell 126 = .ok (.ireturn, 1) := by decide +kernel
theorem dX10_look_0 : decode cX10_look 0 = .ok (.aload_n 0, 1) := by decide +kernel
theorem dX10_look_1 : decode cX10_look 1 = .ok (.iconst 0, 1) := by decide +kernel
theorem dX10_look_2 : decode cX10_look 2 = .ok (.putfield 78, 3) := by decide +kernel
theorem dX10_look_5 : decode cX10_look 5 = .ok (.iload_n 1, 1) := by decide +kernel
theorem dX10_look_6 : decode cX10_look 6 = .ok (.ifCond .lt 11, 3) := by decide +kernel
theorem dX10_look_17 : decode cX10_look 17 = .ok (.aload_n 0, 1) := by decide +kernel
theorem dX10_look_18 : decode cX10_look 18 = .ok (.iconst 1, 1) := by decide +kernel
theorem dX10_look_19 : decode cX10_look 19 = .ok (.invokevirtual 224, 3) := by decide +kernel
theorem dX10_look_22 : decode cX10_look 22 = .ok (.ireturn, 1) := by decide +kernel
theorem dX10_look_9 : decode cX10_look 9 = .ok (.iload_n 1, 1) := by decide +kernel
theorem dX10_look_10 : decode cX10_look 10 = .ok (.aload_n 0, 1) := by decide +kernel
theorem dX10_look_11 : decode cX10_look 11 = .ok (.getfield 146, 3) := by decide +kernel
theorem dX10_look_14 : decode cX10_look 14 = .ok (.if_icmp .lt 9, 3) := by decide +kernel
theorem dX10_look_23 : decode cX10_look 23 = .ok (.iload_n 2, 1) := by decide +kernel
theorem dX10_look_24 : decode cX10_look 24 = .ok (.tableswitch 111 0 4 #[36, 43, 67, 91, 105], 36) := by decide +kernel
theorem dX10_look_60 : decode cX10_look 60 = .ok (.aload_n 0, 1) := by decide +kernel
theorem dX10_look_61 : decode cX10_look 61 = .ok (.getfield 51, 3) := by decide +kernel
theorem dX10_look_64 : decode cX10_look 64 = .ok (.iload_n 1, 1) := by decide +kernel
theorem dX10_look_65 : decode cX10_look 65 = .ok (.iaload, 1) := by decide +kernel
theorem dX10_look_66 : decode cX10_look 66 = .ok (.ireturn, 1) := by decide +kernel
theorem dX10_look_67 : decode cX10_look 67 = .ok (.aload_n 0, 1) := by decide +kernel
theorem dX10_look_68 : decode cX10_look 68 = .ok (.getfield 51, 3) := by decide +kernel
theorem dX10_look_71 : decode cX10_look 71 = .ok (.iload_n 1, 1) := by decide +kernel
theorem dX10_look_72 : decode cX10_look 72 = .ok (.iaload, 1) := by decide +kernel
theorem dX10_look_73 : decode cX10_look 73 = .ok (.iconst 1, 1) := by decide +kernel
theorem dX10_look_74 : decode cX10_look 74 = .ok (.if_icmp .ne 15, 3) := by decide +kernel
theorem dX10_look_89 : decode cX10_look 89 = .ok (.iconst (-1), 1) := by decide +kernel
theorem dX10_look_90 : decode cX10_look 90 = .ok (.ireturn, 1) := by decide +kernel
theorem dX10_look_77 : decode cX10_look 77 = .ok (.aload_n 0, 1) := by decide +kernel
theorem dX10_look_78 : decode cX10_look 78 = .ok (.getfield 54, 3) := by decide +kernel
theorem dX10_look_81 : decode cX10_look 81 = .ok (.iload_n 1, 1) := by decide +kernel
theorem dX10_look_82 : decode cX10_look 82 = .ok (.iaload, 1) := by decide +kernel
theorem dX10_look_83 : decode cX10_look 83 = .ok (.bipush 10, 2) := by decide +kernel
theorem dX10_look_85 : decode cX10_look 85 = .ok (.irem, 1) := by decide +kernel
theorem dX10_look_86 : decode cX10_look 86 = .ok (.goto 4, 3) := by decide +kernel
theorem dX10_look_91 : decode cX10_look 91 = .ok (.aload_n 0, 1) := by decide +kernel
theorem dX10_look_92 : decode cX10_look 92 = .ok (.getfield 51, 3) := by decide +kernel
theorem dX10_look_95 : decode cX10_look 95 = .ok (.iload_n 1, 1) := by decide +kernel
theorem dX10_look_96 : decode cX10_look 96 = .ok (.iaload, 1) := by decide +kernel
theorem dX10_look_97 : decode cX10_look 97 = .ok (.iconst 1, 1) := by decide +kernel
theorem dX10_look_98 : decode cX10_look 98 = .ok (.if_icmp .ne 15, 3) := by decide +kernel
theorem dX10_look_113 : decode cX10_look 113 = .ok (.iconst (-1), 1) := by decide +kernel
theorem dX10_look_114 : decode cX10_look 114 = .ok (.ireturn, 1) := by decide +kernel
theorem dX10_look_101 : decode cX10_look 101 = .ok (.aload_n 0, 1) := by decide +kernel
theorem dX10_look_102 : decode cX10_look 102 = .ok (.getfield 54, 3) := by decide +kernel
theorem dX10_look_105 : decode cX10_look 105 = .ok (.iload_n 1, 1) := by decide +kernel
theorem dX10_look_106 : decode cX10_look 106 = .ok (.iaload, 1) := by decide +kernel
theorem dX10_look_107 : decode cX10_look 107 = .ok (.bipush 10, 2) := by decide +kernel
theorem dX10_look_109 : decode cX10_look 109 = .ok (.idiv, 1) := by decide +kernel
theorem dX10_look_110 : decode cX10_look 110 = .ok (.goto 4, 3) := by decide +kernel
theorem dX10_look_115 : decode cX10_look 115 = .ok (.aload_n 0, 1) := by decide +kernel
theorem dX10_look_116 : decode cX10_look 116 = .ok (.iload_n 1, 1) := by decide +kernel
theorem kw_6_8 : Cond.methodLink RX10 227 yX10_moves ∈ gw := gw_t6 (List.mem_of_getElem? (i := 8) (by decide +kernel)) (by decide +kernel)
theorem kw_6_10 : Cond.instanceMethod yX10_moves ∈ gw := gw_t6 (List.mem_of_getElem? (i := 10) (by decide +kernel)) (by decide +kernel)
theorem ks_4_14 : Cond.selects RX10 yX10_moves yX10_moves ∈ gw := gw_s (y := yX10_moves) (n := 37) (List.mem_append_right _ (List.mem_append_right _ (List.mem_append_right _ (List.mem_of_getElem? (i := 14) (by decide +kernel)))))
theorem kw_6_11 : Cond.code yX10_moves cX10_moves 3 (some .boolean) ∈ gw := gw_t6 (List.mem_of_getElem? (i := 11) (by decide +kernel)) (by decide +kernel)
theorem gk_X10_227 : GoodIn gw (wsV RX10 227 RX10 yX10_moves (.code yX10_moves cX10_moves 3 (some .boolean) :: gw)) ∧ (yX10_moves.cls = RX10 ∧ yX10_moves.cls ≠ "java/lang/invoke/MethodHandle" ∧ yX10_moves.cls ≠ "java/lang/invoke/VarHandle" ∧ (parseMethodDescriptor yX10_moves.desc).map (fun d => d.parameters.length) = some 1) := ⟨gi_V kw_6_8 kw_6_10 ks_4_14 kw_1_11 kw_6_11, by decide +kernel⟩
theorem dX10_look_117 : decode cX10_look 117 = .ok (.invokevirtual 227, 3) := by decide +kernel
theorem dX10_look_120 : decode cX10_look 120 = .ok (.ifCond .eq 7, 3) := by decide +kernel
theorem dX10_look_127 : decode cX10_look 127 = .ok (.iconst 0, 1) := by decide +kernel
theorem dX10_look_128 : decode cX10_look 128 = .ok (.ireturn, 1) := by decide +kernel
theorem dX10_look_123 : decode cX10_look 123 = .ok (.iconst 1, 1) := by decide +kernel
theorem dX10_look_124 : decode cX10_look 124 = .ok (.goto 4, 3) := by decide +kernel
theorem dX10_look_129 : decode cX10_look 129 = .ok (.aload_n 0, 1) := by decide +kernel
theorem dX10_look_130 : decode cX10_look 130 = .ok (.iload_n 1, 1) := by decide +kernel
theorem kw_6_12 : Cond.methodLink RX10 230 yX10_nearest ∈ gw := gw_t6 (List.mem_of_getElem? (i := 12) (by decide +kernel)) (by decide +kernel)
theorem kw_6_14 : Cond.instanceMethod yX10_nearest ∈ gw := gw_t6 (List.mem_of_getElem? (i := 14) (by decide +kernel)) (by decide +kernel)
theorem ks_4_15 : Cond.selects RX10 yX10_nearest yX10_nearest ∈ gw := gw_s (y := yX10_nearest) (n := 37) (List.mem_append_right _ (List.mem_append_right _ (List.mem_append_right _ (List.mem_of_getElem? (i := 15) (by decide +kernel)))))
theorem kw_6_15 : Cond.code yX10_nearest cX10_nearest 4 (some .int) ∈ gw := gw_t6 (List.mem_of_getElem? (i := 15) (by decide +kernel)) (by decide +kernel)
theorem gk_X10_230 : GoodIn gw (wsV RX10 230 RX10 yX10_nearest (.code yX10_nearest cX10_nearest 4 (some .int) :: gw)) ∧ (yX10_nearest.cls = RX10 ∧ yX10_nearest.cls ≠ "java/lang/invoke/MethodHandle" ∧ yX10_nearest.cls ≠ "java/lang/invoke/VarHandle" ∧ (parseMethodDescriptor yX10_nearest.desc).map (fun d => d.parameters.length) = some 1) := ⟨gi_V kw_6_12 kw_6_14 ks_4_15 kw_1_11 kw_6_15, by decide +kernel⟩
theorem dX10_look_131 : decode cX10_look 131 = .ok (.invokevirtual 230, 3) := by decide +kernel
theorem dX10_look_134 : decode cX10_look 134 = .ok (.ireturn, 1) := by decide +kernel
theorem dX10_look_135 : decode cX10_look 135 = .ok (.aload_n 0, 1) := by decide +kernel
theorem dX10_look_136 : decode cX10_look 136 = .ok (.iconst 2, 1) := by decide +kernel
theorem dX10_look_137 : decode cX10_look 137 = .ok (.invokevirtual 224, 3) := by decide +kernel
theorem dX10_look_140 : decode cX10_look 140 = .ok (.ireturn, 1) := by decide +kernel
theorem dX10_count_67 : decode cX10_count 67 = .ok (.iload_n 3, 1) := by decide +kernel
theorem dX10_count_68 : decode cX10_count 68 = .ok (.aload_n 0, 1) := by decide +kernel
theorem dX10_count_69 : decode cX10_count 69 = .ok (.getfield 146, 3) := by decide +kernel
theorem dX10_count_72 : decode cX10_count 72 = .ok (.if_icmp .ge 27, 3) := by decide +kernel
theorem dX10_count_75 : decode cX10_count 75 = .ok (.iload_n 2, 1) := by decide +kernel
theorem dX10_count_76 : decode cX10_count 76 = .ok (.aload_n 0, 1) := by decide +kernel
theorem dX10_count_77 : decode cX10_count 77 = .ok (.getfield 51, 3) := by decide +kernel
theorem dX10_count_80 : decode cX10_count 80 = .ok (.iload_n 3, 1) := by decide +kernel
theorem dX10_count_81 : decode cX10_count 81 = .ok (.iaload, 1) := by decide +kernel
theorem dX10_count_82 : decode cX10_count 82 = .ok (.iload_n 1, 1) := by decide +kernel
theorem dX10_count_83 : decode cX10_count 83 = .ok (.if_icmp .ne 7, 3) := by decide +kernel
theorem dX10_count_90 : decode cX10_count 90 = .ok (.iconst 0, 1) := by decide +kernel
theorem dX10_count_91 : decode cX10_count 91 = .ok (.iadd, 1) := by decide +kernel
theorem dX10_count_92 : decode cX10_count 92 = .ok (.istore_n 2, 1) := by decide +kernel
theorem dX10_count_93 : decode cX10_count 93 = .ok (.iinc 3 1, 3) := by decide +kernel
theorem dX10_count_96 : decode cX10_count 96 = .ok (.goto (-29), 3) := by decide +kernel
theorem dX10_count_86 : decode cX10_count 86 = .ok (.iconst 1, 1) := by decide +kernel
theorem dX10_count_87 : decode cX10_count 87 = .ok (.goto 4, 3) := by decide +kernel
theorem dX10_count_103 : decode cX10_count 103 = .ok (.iload_n 3, 1) := by decide +kernel
theorem dX10_count_104 : decode cX10_count 104 = .ok (.bipush 100, 2) := by decide +kernel
theorem dX10_count_106 : decode cX10_count 106 = .ok (.if_icmp .ge 26, 3) := by decide +kernel
theorem dX10_count_109 : decode cX10_count 109 = .ok (.iload_n 2, 1) := by decide +kernel
theorem dX10_count_110 : decode cX10_count 110 = .ok (.aload_n 0, 1) := by decide +kernel
theorem dX10_count_111 : decode cX10_count 111 = .ok (.getfield 38, 3) := by decide +kernel
theorem dX10_count_114 : decode cX10_count 114 = .ok (.iload_n 3, 1) := by decide +kernel
theorem dX10_count_115 : decode cX10_count 115 = .ok (.baload, 1) := by decide +kernel
theorem dX10_count_116 : decode cX10_count 116 = .ok (.ifCond .eq 7, 3) := by decide +kernel
theorem dX10_count_123 : decode cX10_count 123 = .ok (.iconst 0, 1) := by decide +kernel
theorem dX10_count_124 : decode cX10_count 124 = .ok (.iadd, 1) := by decide +kernel
theorem dX10_count_125 : decode cX10_count 125 = .ok (.istore_n 2, 1) := by decide +kernel
theorem dX10_count_126 : decode cX10_count 126 = .ok (.iinc 3 1, 3) := by decide +kernel
theorem dX10_count_129 : decode cX10_count 129 = .ok (.goto (-26), 3) := by decide +kernel
theorem dX10_count_119 : decode cX10_count 119 = .ok (.iconst 1, 1) := by decide +kernel
theorem dX10_count_120 : decode cX10_count 120 = .ok (.goto 4, 3) := by decide +kernel
theorem dX10_count_156 : decode cX10_count 156 = .ok (.iload_n 3, 1) := by decide +kernel
theorem dX10_count_157 : decode cX10_count 157 = .ok (.aload_n 0, 1) := by decide +kernel
theorem dX10_count_158 : decode cX10_count 158 = .ok (.getfield 146, 3) := by decide +kernel
theorem dX10_count_161 : decode cX10_count 161 = .ok (.if_icmp .ge 25, 3) := by decide +kernel
theorem dX10_count_164 : decode cX10_count 164 = .ok (.iload_n 2, 1) := by decide +kernel
theorem dX10_count_165 : decode cX10_count 165 = .ok (.aload_n 0, 1) := by decide +kernel
theorem dX10_count_166 : decode cX10_count 166 = .ok (.iload_n 3, 1) := by decide +kernel
theorem dX10_count_167 : decode cX10_count 167 = .ok (.invokevirtual 227, 3) := by decide +kernel
theorem dX10_count_170 : decode cX10_count 170 = .ok (.ifCond .eq 7, 3) := by decide +kernel
theorem dX10_count_177 : decode cX10_count 177 = .ok (.iconst 0, 1) := by decide +kernel
theorem dX10_count_178 : decode cX10_count 178 = .ok (.iadd, 1) := by decide +kernel
theorem dX10_count_179 : decode cX10_count 179 = .ok (.istore_n 2, 1) := by decide +kernel
theorem dX10_count_180 : decode cX10_count 180 = .ok (.iinc 3 1, 3) := by decide +kernel
theorem dX10_count_183 : decode cX10_count 183 = .ok (.goto (-27), 3) := by decide +kernel
theorem dX10_count_173 : decode cX10_count 173 = .ok (.iconst 1, 1) := by decide +kernel
theorem dX10_count_174 : decode cX10_count 174 = .ok (.goto 4, 3) := by decide +kernel
theorem dX10_count_0 : decode cX10_count 0 = .ok (.aload_n 0, 1) := by decide +kernel
theorem dX10_count_1 : decode cX10_count 1 = .ok (.iconst 0, 1) := by decide +kernel
theorem dX10_count_2 : decode cX10_count 2 = .ok (.putfield 78, 3) := by decide +kernel
theorem dX10_count_5 : decode cX10_count 5 = .ok (.iconst 0, 1) := by decide +kernel
theorem dX10_count_6 : decode cX10_count 6 = .ok (.istore_n 2, 1) := by decide +kernel
theorem dX10_count_7 : decode cX10_count 7 = .ok (.iload_n 1, 1) := by decide +kernel
theorem dX10_count_8 : decode cX10_count 8 = .ok (.tableswitch 180 0 8 #[52, 57, 57, 93, 126, 131, 136, 141, 146], 52) := by decide +kernel
theorem dX10_count_60 : decode cX10_count 60 = .ok (.aload_n 0, 1) := by decide +kernel
theorem dX10_count_61 : decode cX10_count 61 = .ok (.getfield 146, 3) := by decide +kernel
theorem dX10_count_64 : decode cX10_count 64 = .ok (.ireturn, 1) := by decide +kernel
theorem dX10_count_65 : decode cX10_count 65 = .ok (.iconst 0, 1) := by decide +kernel
theorem dX10_count_66 : decode cX10_count 66 = .ok (.istore_n 3, 1) := by decide +kernel
theorem dX10_count_99 : decode cX10_count 99 = .ok (.iload_n 2, 1) := by decide +kernel
theorem dX10_count_100 : decode cX10_count 100 = .ok (.ireturn, 1) := by decide +kernel
theorem dX10_count_101 : decode cX10_count 101 = .ok (.iconst 0, 1) := by decide +kernel
theorem dX10_count_102 : decode cX10_count 102 = .ok (.istore_n 3, 1) := by decide +kernel
theorem dX10_count_132 : decode cX10_count 132 = .ok (.iload_n 2, 1) := by decide +kernel
theorem dX10_count_133 : decode cX10_count 133 = .ok (.ireturn, 1) := by decide +kernel
theorem dX10_count_134 : decode cX10_count 134 = .ok (.aload_n 0, 1) := by decide +kernel
theorem dX10_count_135 : decode cX10_count 135 = .ok (.getfield 149, 3) := by decide +kernel
theorem dX10_count_138 : decode cX10_count 138 = .ok (.ireturn, 1) := by decide +kernel
theorem dX10_count_139 : decode cX10_count 139 = .ok (.aload_n 0, 1) := by decide +kernel
theorem dX10_count_140 : decode cX10_count 140 = .ok (.getfield 152, 3) := by decide +kernel
theorem dX10_count_143 : decode cX10_count 143 = .ok (.ireturn, 1) := by decide +kernel
theorem dX10_count_144 : decode cX10_count 144 = .ok (.aload_n 0, 1) := by decide +kernel
theorem dX10_count_145 : decode cX10_count 145 = .ok (.getfield 192, 3) := by decide +kernel
theorem dX10_count_148 : decode cX10_count 148 = .ok (.ireturn, 1) := by decide +kernel
theorem dX10_count_149 : decode cX10_count 149 = .ok (.aload_n 0, 1) := by decide +kernel
theorem dX10_count_150 : decode cX10_count 150 = .ok (.getfield 143, 3) := by decide +kernel
theorem dX10_count_153 : decode cX10_count 153 = .ok (.ireturn, 1) := by decide +kernel
theorem dX10_count_154 : decode cX10_count 154 = .ok (.iconst 0, 1) := by decide +kernel
theorem dX10_count_155 : decode cX10_count 155 = .ok (.istore_n 3, 1) := by decide +kernel
theorem dX10_count_186 : decode cX10_count 186 = .ok (.iload_n 2, 1) := by decide +kernel
theorem dX10_count_187 : decode cX10_count 187 = .ok (.ireturn, 1) := by decide +kernel
theorem dX10_count_188 : decode cX10_count 188 = .ok (.iconst (-1), 1) := by decide +kernel
theorem dX10_count_189 : decode cX10_count 189 = .ok (.ireturn, 1) := by decide +kernel
theorem dX10_wrong_0 : decode cX10_wrong 0 = .ok (.aload_n 0, 1) := by decide +kernel
theorem dX10_wrong_1 : decode cX10_wrong 1 = .ok (.iload_n 1, 1) := by decide +kernel
theorem dX10_wrong_2 : decode cX10_wrong 2 = .ok (.putfield 84, 3) := by decide +kernel
theorem dX10_wrong_5 : decode cX10_wrong 5 = .ok (.aload_n 0, 1) := by decide +kernel
theorem dX10_wrong_6 : decode cX10_wrong 6 = .ok (.iload_n 2, 1) := by decide +kernel
theorem dX10_wrong_7 : decode cX10_wrong 7 = .ok (.putfield 22, 3) := by decide +kernel
theorem dX10_wrong_10 : decode cX10_wrong 10 = .ok (.iconst 0, 1) := by decide +kernel
theorem dX10_wrong_11 : decode cX10_wrong 11 = .ok (.ireturn, 1) := by decide +kernel
theorem dX10_isSmall_0 : decode cX10_isSmall 0 = .ok (.iload_n 1, 1) := by decide +kernel
theorem dX10_isSmall_1 : decode cX10_isSmall 1 = .ok (.aload_n 0, 1) := by decide +kernel
theorem kw_4_220 : Cond.fieldLink RX10 87 "IceFairModel" "end" "I" ∈ gw := gw_t4 (List.mem_of_getElem? (i := 220) (by decide +kernel)) (by decide +kernel)
theorem dX10_isSmall_2 : decode cX10_isSmall 2 = .ok (.getfield 87, 3) := by decide +kernel
theorem dX10_isSmall_5 : decode cX10_isSmall 5 = .ok (.if_icmp .ge 29, 3) := by decide +kernel
theorem dX10_isSmall_34 : decode cX10_isSmall 34 = .ok (.iconst 0, 1) := by decide +kernel
theorem dX10_isSmall_35 : decode cX10_isSmall 35 = .ok (.ireturn, 1) := by decide +kernel
theorem dX10_isSmall_8 : decode cX10_isSmall 8 = .ok (.aload_n 0, 1) := by decide +kernel
theorem dX10_isSmall_9 : decode cX10_isSmall 9 = .ok (.getfield 7, 3) := by decide +kernel
theorem dX10_isSmall_12 : decode cX10_isSmall 12 = .ok (.iload_n 1, 1) := by decide +kernel
theorem dX10_isSmall_13 : decode cX10_isSmall 13 = .ok (.iaload, 1) := by decide +kernel
theorem dX10_isSmall_14 : decode cX10_isSmall 14 = .ok (.bipush 97, 2) := by decide +kernel
theorem dX10_isSmall_16 : decode cX10_isSmall 16 = .ok (.if_icmp .lt 18, 3) := by decide +kernel
theorem dX10_isSmall_19 : decode cX10_isSmall 19 = .ok (.aload_n 0, 1) := by decide +kernel
theorem dX10_isSmall_20 : decode cX10_isSmall 20 = .ok (.getfield 7, 3) := by decide +kernel
theorem dX10_isSmall_23 : decode cX10_isSmall 23 = .ok (.iload_n 1, 1) := by decide +kernel
theorem dX10_isSmall_24 : decode cX10_isSmall 24 = .ok (.iaload, 1) := by decide +kernel
theorem dX10_isSmall_25 : decode cX10_isSmall 25 = .ok (.bipush 122, 2) := by decide +kernel
theorem dX10_isSmall_27 : decode cX10_isSmall 27 = .ok (.if_icmp .gt 7, 3) := by decide +kernel
theorem dX10_isSmall_30 : decode cX10_isSmall 30 = .ok (.iconst 1, 1) := by decide +kernel
theorem dX10_isSmall_31 : decode cX10_isSmall 31 = .ok (.goto 4, 3) := by decide +kernel
theorem dX10_isDigit_0 : decode cX10_isDigit 0 = .ok (.iload_n 1, 1) := by decide +kernel
theorem dX10_isDigit_1 : decode cX10_isDigit 1 = .ok (.aload_n 0, 1) := by decide +kernel
theorem dX10_isDigit_2 : decode cX10_isDigit 2 = .ok (.getfield 87, 3) := by decide +kernel
theorem dX10_isDigit_5 : decode cX10_isDigit 5 = .ok (.if_icmp .ge 29, 3) := by decide +kernel
theorem dX10_isDigit_34 : decode cX10_isDigit 34 = .ok (.iconst 0, 1) := by decide +kernel
theorem dX10_isDigit_35 : decode cX10_isDigit 35 = .ok (.ireturn, 1) := by decide +kernel
theorem dX10_isDigit_8 : decode cX10_isDigit 8 = .ok (.aload_n 0, 1) := by decide +kernel
theorem dX10_isDigit_9 : decode cX10_isDigit 9 = .ok (.getfield 7, 3) := by decide +kernel
theorem dX10_isDigit_12 : decode cX10_isDigit 12 = .ok (.iload_n 1, 1) := by decide +kernel
theorem dX10_isDigit_13 : decode cX10_isDigit 13 = .ok (.iaload, 1) := by decide +kernel
theorem dX10_isDigit_14 : decode cX10_isDigit 14 = .ok (.bipush 48, 2) := by decide +kernel
theorem dX10_isDigit_16 : decode cX10_isDigit 16 = .ok (.if_icmp .lt 18, 3) := by decide +kernel
theorem dX10_isDigit_19 : decode cX10_isDigit 19 = .ok (.aload_n 0, 1) := by decide +kernel
theorem dX10_isDigit_20 : decode cX10_isDigit 20 = .ok (.getfield 7, 3) := by decide +kernel
theorem dX10_isDigit_23 : decode cX10_isDigit 23 = .ok (.iload_n 1, 1) := by decide +kernel
theorem dX10_isDigit_24 : decode cX10_isDigit 24 = .ok (.iaload, 1) := by decide +kernel
theorem dX10_isDigit_25 : decode cX10_isDigit 25 = .ok (.bipush 57, 2) := by decide +kernel
theorem dX10_isDigit_27 : decode cX10_isDigit 27 = .ok (.if_icmp .gt 7, 3) := by decide +kernel
theorem dX10_isDigit_30 : decode cX10_isDigit 30 = .ok (.iconst 1, 1) := by decide +kernel
theorem dX10_isDigit_31 : decode cX10_isDigit 31 = .ok (.goto 4, 3) := by decide +kernel
theorem dX10_wordAt_18 : decode cX10_wordAt 18 = .ok (.aload_n 0, 1) := by decide +kernel
theorem dX10_wordAt_19 : decode cX10_wordAt 19 = .ok (.getfield 57, 3) := by decide +kernel
theorem dX10_wordAt_22 : decode cX10_wordAt 22 = .ok (.iload 4, 2) := by decide +kernel
theorem dX10_wordAt_24 : decode cX10_wordAt 24 = .ok (.iload 5, 2) := by decide +kernel
theorem dX10_wordAt_26 : decode cX10_wordAt 26 = .ok (.iadd, 1) := by decide +kernel
theorem dX10_wordAt_27 : decode cX10_wordAt 27 = .ok (.iaload, 1) := by decide +kernel
theorem dX10_wordAt_28 : decode cX10_wordAt 28 = .ok (.bipush 32, 2) := by decide +kernel
theorem dX10_wordAt_30 : decode cX10_wordAt 30 = .ok (.if_icmp .eq 9, 3) := by decide +kernel
theorem dX10_wordAt_33 : decode cX10_wordAt 33 = .ok (.iinc 5 1, 3) := by decide +kernel
theorem dX10_wordAt_36 : decode cX10_wordAt 36 = .ok (.goto (-18), 3) := by decide +kernel
theorem dX10_wordAt_57 : decode cX10_wordAt 57 = .ok (.iload 7, 2) := by decide +kernel
theorem dX10_wordAt_59 : decode cX10_wordAt 59 = .ok (.iload 5, 2) := by decide +kernel
theorem dX10_wordAt_61 : decode cX10_wordAt 61 = .ok (.if_icmp .ge 43, 3) := by decide +kernel
theorem dX10_wordAt_64 : decode cX10_wordAt 64 = .ok (.iload 6, 2) := by decide +kernel
theorem dX10_wordAt_66 : decode cX10_wordAt 66 = .ok (.ifCond .eq 38, 3) := by decide +kernel
theorem dX10_wordAt_69 : decode cX10_wordAt 69 = .ok (.aload_n 0, 1) := by decide +kernel
theorem dX10_wordAt_70 : decode cX10_wordAt 70 = .ok (.getfield 57, 3) := by decide +kernel
theorem dX10_wordAt_73 : decode cX10_wordAt 73 = .ok (.iload 4, 2) := by decide +kernel
theorem dX10_wordAt_75 : decode cX10_wordAt 75 = .ok (.iload 7, 2) := by decide +kernel
theorem dX10_wordAt_77 : decode cX10_wordAt 77 = .ok (.iadd, 1) := by decide +kernel
theorem dX10_wordAt_78 : decode cX10_wordAt 78 = .ok (.iaload, 1) := by decide +kernel
theorem dX10_wordAt_79 : decode cX10_wordAt 79 = .ok (.aload_n 0, 1) := by decide +kernel
theorem dX10_wordAt_80 : decode cX10_wordAt 80 = .ok (.getfield 7, 3) := by decide +kernel
theorem dX10_wordAt_83 : decode cX10_wordAt 83 = .ok (.iload_n 1, 1) := by decide +kernel
theorem dX10_wordAt_84 : decode cX10_wordAt 84 = .ok (.iload 7, 2) := by decide +kernel
theorem dX10_wordAt_86 : decode cX10_wordAt 86 = .ok (.iadd, 1) := by decide +kernel
theorem dX10_wordAt_87 : decode cX10_wordAt 87 = .ok (.iaload, 1) := by decide +kernel
theorem dX10_wordAt_88 : decode cX10_wordAt 88 = .ok (.if_icmp .ne 7, 3) := by decide +kernel
theorem dX10_wordAt_95 : decode cX10_wordAt 95 = .ok (.iconst 0, 1) := by decide +kernel
theorem dX10_wordAt_96 : decode cX10_wordAt 96 = .ok (.istore 6, 2) := by decide +kernel
theorem dX10_wordAt_98 : decode cX10_wordAt 98 = .ok (.iinc 7 1, 3) := by decide +kernel
theorem dX10_wordAt_101 : decode cX10_wordAt 101 = .ok (.goto (-44), 3) := by decide +kernel
theorem dX10_wordAt_91 : decode cX10_wordAt 91 = .ok (.iconst 1, 1) := by decide +kernel
theorem dX10_wordAt_92 : decode cX10_wordAt 92 = .ok (.goto 4, 3) := by decide +kernel
theorem dX10_wordAt_5 : decode cX10_wordAt 5 = .ok (.iload 4, 2) := by decide +kernel
theorem dX10_wordAt_7 : decode cX10_wordAt 7 = .ok (.aload_n 0, 1) := by decide +kernel
theorem dX10_wordAt_8 : decode cX10_wordAt 8 = .ok (.getfield 57, 3) := by decide +kernel
theorem dX10_wordAt_11 : decode cX10_wordAt 11 = .ok (.arraylength, 1) := by decide +kernel
theorem dX10_wordAt_12 : decode cX10_wordAt 12 = .ok (.if_icmp .ge 114, 3) := by decide +kernel
theorem dX10_wordAt_15 : decode cX10_wordAt 15 = .ok (.iconst 0, 1) := by decide +kernel
theorem dX10_wordAt_16 : decode cX10_wordAt 16 = .ok (.istore 5, 2) := by decide +kernel
theorem dX10_wordAt_39 : decode cX10_wordAt 39 = .ok (.iload 5, 2) := by decide +kernel
theorem dX10_wordAt_41 : decode cX10_wordAt 41 = .ok (.iload_n 2, 1) := by decide +kernel
theorem dX10_wordAt_42 : decode cX10_wordAt 42 = .ok (.iload_n 1, 1) := by decide +kernel
theorem dX10_wordAt_43 : decode cX10_wordAt 43 = .ok (.isub, 1) := by decide +kernel
theorem dX10_wordAt_44 : decode cX10_wordAt 44 = .ok (.if_icmp .ne 7, 3) := by decide +kernel
theorem dX10_wordAt_51 : decode cX10_wordAt 51 = .ok (.iconst 0, 1) := by decide +kernel
theorem dX10_wordAt_52 : decode cX10_wordAt 52 = .ok (.istore 6, 2) := by decide +kernel
theorem dX10_wordAt_54 : decode cX10_wordAt 54 = .ok (.iconst 0, 1) := by decide +kernel
theorem dX10_wordAt_55 : decode cX10_wordAt 55 = .ok (.istore 7, 2) := by decide +kernel
theorem dX10_wordAt_104 : decode cX10_wordAt 104 = .ok (.iload 6, 2) := by decide +kernel
theorem dX10_wordAt_106 : decode cX10_wordAt 106 = .ok (.ifCond .eq 5, 3) := by decide +kernel
theorem dX10_wordAt_111 : decode cX10_wordAt 111 = .ok (.iload 4, 2) := by decide +kernel
theorem dX10_wordAt_113 : decode cX10_wordAt 113 = .ok (.iload 5, 2) := by decide +kernel
theorem dX10_wordAt_115 : decode cX10_wordAt 115 = .ok (.iconst 1, 1) := by decide +kernel
theorem dX10_wordAt_116 : decode cX10_wordAt 116 = .ok (.iadd, 1) := by decide +kernel
theorem dX10_wordAt_117 : decode cX10_wordAt 117 = .ok (.iadd, 1) := by decide +kernel
theorem dX10_wordAt_118 : decode cX10_wordAt 118 = .ok (.istore 4, 2) := by decide +kernel
theorem dX10_wordAt_120 : decode cX10_wordAt 120 = .ok (.iinc 3 1, 3) := by decide +kernel
theorem dX10_wordAt_123 : decode cX10_wordAt 123 = .ok (.goto (-118), 3) := by decide +kernel
theorem dX10_wordAt_47 : decode cX10_wordAt 47 = .ok (.iconst 1, 1) := by decide +kernel
theorem dX10_wordAt_48 : decode cX10_wordAt 48 = .ok (.goto 4, 3) := by decide +kernel
theorem dX10_wordAt_0 : decode cX10_wordAt 0 = .ok (.iconst 0, 1) := by decide +kernel
theorem dX10_wordAt_1 : decode cX10_wordAt 1 = .ok (.istore_n 3, 1) := by decide +kernel
theorem dX10_wordAt_2 : decode cX10_wordAt 2 = .ok (.iconst 0, 1) := by decide +kernel
theorem dX10_wordAt_3 : decode cX10_wordAt 3 = .ok (.istore 4, 2) := by decide +kernel
theorem dX10_wordAt_109 : decode cX10_wordAt 109 = .ok (.iload_n 3, 1) := by decide +kernel
theorem dX10_wordAt_110 : decode cX10_wordAt 110 = .ok (.ireturn, 1) := by decide +kernel
theorem dX10_wordAt_126 : decode cX10_wordAt 126 = .ok (.iconst (-1), 1) := by decide +kernel
theorem dX10_wordAt_127 : decode cX10_wordAt 127 = .ok (.ireturn, 1) := by decide +kernel
theorem dX10_take_0 : decode cX10_take 0 = .ok (.aload_n 0, 1) := by decide +kernel
theorem kw_4_221 : Cond.fieldLink RX10 90 "IceFairModel" "next" "I" ∈ gw := gw_t4 (List.mem_of_getElem? (i := 221) (by decide +kernel)) (by decide +kernel)
theorem dX10_take_1 : decode cX10_take 1 = .ok (.getfield 90, 3) := by decide +kernel
theorem dX10_take_4 : decode cX10_take 4 = .ok (.aload_n 0, 1) := by decide +kernel
theorem dX10_take_5 : decode cX10_take 5 = .ok (.getfield 87, 3) := by decide +kernel
theorem dX10_take_8 : decode cX10_take 8 = .ok (.if_icmp .ge 44, 3) := by decide +kernel
theorem dX10_take_11 : decode cX10_take 11 = .ok (.aload_n 0, 1) := by decide +kernel
theorem dX10_take_12 : decode cX10_take 12 = .ok (.getfield 7, 3) := by decide +kernel
theorem dX10_take_15 : decode cX10_take 15 = .ok (.aload_n 0, 1) := by decide +kernel
theorem dX10_take_16 : decode cX10_take 16 = .ok (.getfield 90, 3) := by decide +kernel
theorem dX10_take_19 : decode cX10_take 19 = .ok (.iaload, 1) := by decide +kernel
theorem dX10_take_20 : decode cX10_take 20 = .ok (.bipush 10, 2) := by decide +kernel
theorem dX10_take_22 : decode cX10_take 22 = .ok (.if_icmp .eq 17, 3) := by decide +kernel
theorem dX10_take_39 : decode cX10_take 39 = .ok (.aload_n 0, 1) := by decide +kernel
theorem dX10_take_40 : decode cX10_take 40 = .ok (.dup, 1) := by decide +kernel
theorem dX10_take_41 : decode cX10_take 41 = .ok (.getfield 90, 3) := by decide +kernel
theorem dX10_take_44 : decode cX10_take 44 = .ok (.iconst 1, 1) := by decide +kernel
theorem dX10_take_45 : decode cX10_take 45 = .ok (.iadd, 1) := by decide +kernel
theorem dX10_take_46 : decode cX10_take 46 = .ok (.putfield 90, 3) := by decide +kernel
theorem dX10_take_49 : decode cX10_take 49 = .ok (.goto (-49), 3) := by decide +kernel
theorem dX10_take_25 : decode cX10_take 25 = .ok (.aload_n 0, 1) := by decide +kernel
theorem dX10_take_26 : decode cX10_take 26 = .ok (.getfield 7, 3) := by decide +kernel
theorem dX10_take_29 : decode cX10_take 29 = .ok (.aload_n 0, 1) := by decide +kernel
theorem dX10_take_30 : decode cX10_take 30 = .ok (.getfield 90, 3) := by decide +kernel
theorem dX10_take_33 : decode cX10_take 33 = .ok (.iaload, 1) := by decide +kernel
theorem dX10_take_34 : decode cX10_take 34 = .ok (.bipush 32, 2) := by decide +kernel
theorem dX10_take_36 : decode cX10_take 36 = .ok (.if_icmp .ne 16, 3) := by decide +kernel
theorem dX10_take_90 : decode cX10_take 90 = .ok (.aload_n 0, 1) := by decide +kernel
theorem dX10_take_91 : decode cX10_take 91 = .ok (.aload_n 0, 1) := by decide +kernel
theorem dX10_take_92 : decode cX10_take 92 = .ok (.getfield 90, 3) := by decide +kernel
theorem kw_5_79 : Cond.methodLink RX10 99 yX10_isSmall ∈ gw := gw_t5 (List.mem_of_getElem? (i := 79) (by decide +kernel)) (by decide +kernel)
theorem kw_5_81 : Cond.instanceMethod yX10_isSmall ∈ gw := gw_t5 (List.mem_of_getElem? (i := 81) (by decide +kernel)) (by decide +kernel)
theorem ks_3_2 : Cond.selects RX10 yX10_isSmall yX10_isSmall ∈ gw := gw_s (y := yX10_isSmall) (n := 37) (List.mem_append_right _ (List.mem_append_right _ (List.mem_append_left _ (List.mem_of_getElem? (i := 2) (by decide +kernel)))))
theorem kw_5_82 : Cond.code yX10_isSmall cX10_isSmall 2 (some .boolean) ∈ gw := gw_t5 (List.mem_of_getElem? (i := 82) (by decide +kernel)) (by decide +kernel)
theorem gk_X10_99 : GoodIn gw (wsV RX10 99 RX10 yX10_isSmall (.code yX10_isSmall cX10_isSmall 2 (some .boolean) :: gw)) ∧ (yX10_isSmall.cls = RX10 ∧ yX10_isSmall.cls ≠ "java/lang/invoke/MethodHandle" ∧ yX10_isSmall.cls ≠ "java/lang/invoke/VarHandle" ∧ (parseMethodDescriptor yX10_isSmall.desc).map (fun d => d.parameters.length) = some 1) := ⟨gi_V kw_5_79 kw_5_81 ks_3_2 kw_1_11 kw_5_82, by decide +kernel⟩
theorem dX10_take_95 : decode cX10_take 95 = .ok (.invokevirtual 99, 3) := by decide +kernel
theorem dX10_take_98 : decode cX10_take 98 = .ok (.ifCond .eq 16, 3) := by decide +kernel
theorem dX10_take_101 : decode cX10_take 101 = .ok (.aload_n 0, 1) := by decide +kernel
theorem dX10_take_102 : decode cX10_take 102 = .ok (.dup, 1) := by decide +kernel
theorem dX10_take_103 : decode cX10_take 103 = .ok (.getfield 90, 3) := by decide +kernel
theorem dX10_take_106 : decode cX10_take 106 = .ok (.iconst 1, 1) := by decide +kernel
theorem dX10_take_107 : decode cX10_take 107 = .ok (.iadd, 1) := by decide +kernel
theorem dX10_take_108 : decode cX10_take 108 = .ok (.putfield 90, 3) := by decide +kernel
theorem dX10_take_111 : decode cX10_take 111 = .ok (.goto (-21), 3) := by decide +kernel
theorem dX10_take_170 : decode cX10_take 170 = .ok (.aload_n 0, 1) := by decide +kernel
theorem dX10_take_171 : decode cX10_take 171 = .ok (.aload_n 0, 1) := by decide +kernel
theorem dX10_take_172 : decode cX10_take 172 = .ok (.getfield 90, 3) := by decide +kernel
theorem kw_5_87 : Cond.methodLink RX10 110 yX10_isDigit ∈ gw := gw_t5 (List.mem_of_getElem? (i := 87) (by decide +kernel)) (by decide +kernel)
theorem kw_5_89 : Cond.instanceMethod yX10_isDigit ∈ gw := gw_t5 (List.mem_of_getElem? (i := 89) (by decide +kernel)) (by decide +kernel)
theorem ks_3_4 : Cond.selects RX10 yX10_isDigit yX10_isDigit ∈ gw := gw_s (y := yX10_isDigit) (n := 37) (List.mem_append_right _ (List.mem_append_right _ (List.mem_append_left _ (List.mem_of_getElem? (i := 4) (by decide +kernel)))))
theorem kw_5_90 : Cond.code yX10_isDigit cX10_isDigit 2 (some .boolean) ∈ gw := gw_t5 (List.mem_of_getElem? (i := 90) (by decide +kernel)) (by decide +kernel)
theorem gk_X10_110 : GoodIn gw (wsV RX10 110 RX10 yX10_isDigit (.code yX10_isDigit cX10_isDigit 2 (some .boolean) :: gw)) ∧ (yX10_isDigit.cls = RX10 ∧ yX10_isDigit.cls ≠ "java/lang/invoke/MethodHandle" ∧ yX10_isDigit.cls ≠ "java/lang/invoke/VarHandle" ∧ (parseMethodDescriptor yX10_isDigit.desc).map (fun d => d.parameters.length) = some 1) := ⟨gi_V kw_5_87 kw_5_89 ks_3_4 kw_1_11 kw_5_90, by decide +kernel⟩
theorem dX10_take_175 : decode cX10_take 175 = .ok (.invokevirtual 110, 3) := by decide +kernel
theorem dX10_take_178 : decode cX10_take 178 = .ok (.ifCond .eq 90, 3) := by decide +kernel
theorem dX10_take_181 : decode cX10_take 181 = .ok (.aload_n 0, 1) := by decide +kernel
theorem dX10_take_182 : decode cX10_take 182 = .ok (.aload_n 0, 1) := by decide +kernel
theorem kw_4_223 : Cond.fieldLink RX10 107 "IceFairModel" "which" "I" ∈ gw := gw_t4 (List.mem_of_getElem? (i := 223) (by decide +kernel)) (by decide +kernel)
theorem dX10_take_183 : decode cX10_take 183 = .ok (.getfield 107, 3) := by decide +kernel
theorem dX10_take_186 : decode cX10_take 186 = .ok (.sipush 9999, 3) := by decide +kernel
theorem dX10_take_189 : decode cX10_take 189 = .ok (.if_icmp .le 10, 3) := by decide +kernel
theorem dX10_take_199 : decode cX10_take 199 = .ok (.bipush 10, 2) := by decide +kernel
theorem dX10_take_201 : decode cX10_take 201 = .ok (.aload_n 0, 1) := by decide +kernel
theorem dX10_take_202 : decode cX10_take 202 = .ok (.getfield 107, 3) := by decide +kernel
theorem dX10_take_205 : decode cX10_take 205 = .ok (.imul, 1) := by decide +kernel
theorem dX10_take_206 : decode cX10_take 206 = .ok (.aload_n 0, 1) := by decide +kernel
theorem dX10_take_207 : decode cX10_take 207 = .ok (.getfield 7, 3) := by decide +kernel
theorem dX10_take_210 : decode cX10_take 210 = .ok (.aload_n 0, 1) := by decide +kernel
theorem dX10_take_211 : decode cX10_take 211 = .ok (.getfield 90, 3) := by decide +kernel
theorem dX10_take_214 : decode cX10_take 214 = .ok (.iaload, 1) := by decide +kernel
theorem dX10_take_215 : decode cX10_take 215 = .ok (.iadd, 1) := by decide +kernel
theorem dX10_take_216 : decode cX10_take 216 = .ok (.bipush 48, 2) := by decide +kernel
theorem dX10_take_218 : decode cX10_take 218 = .ok (.isub, 1) := by decide +kernel
theorem dX10_take_219 : decode cX10_take 219 = .ok (.putfield 107, 3) := by decide +kernel
theorem dX10_take_222 : decode cX10_take 222 = .ok (.aload_n 0, 1) := by decide +kernel
theorem dX10_take_223 : decode cX10_take 223 = .ok (.dup, 1) := by decide +kernel
theorem dX10_take_224 : decode cX10_take 224 = .ok (.getfield 90, 3) := by decide +kernel
theorem dX10_take_227 : decode cX10_take 227 = .ok (.iconst 1, 1) := by decide +kernel
theorem dX10_take_228 : decode cX10_take 228 = .ok (.iadd, 1) := by decide +kernel
theorem dX10_take_229 : decode cX10_take 229 = .ok (.putfield 90, 3) := by decide +kernel
theorem dX10_take_232 : decode cX10_take 232 = .ok (.goto (-62), 3) := by decide +kernel
theorem dX10_take_192 : decode cX10_take 192 = .ok (.aload_n 0, 1) := by decide +kernel
theorem dX10_take_193 : decode cX10_take 193 = .ok (.getfield 107, 3) := by decide +kernel
theorem dX10_take_196 : decode cX10_take 196 = .ok (.goto 23, 3) := by decide +kernel
theorem dX10_take_52 : decode cX10_take 52 = .ok (.aload_n 0, 1) := by decide +kernel
theorem dX10_take_53 : decode cX10_take 53 = .ok (.aload_n 0, 1) := by decide +kernel
theorem dX10_take_54 : decode cX10_take 54 = .ok (.getfield 90, 3) := by decide +kernel
theorem kw_4_224 : Cond.fieldLink RX10 93 "IceFairModel" "place" "I" ∈ gw := gw_t4 (List.mem_of_getElem? (i := 224) (by decide +kernel)) (by decide +kernel)
theorem dX10_take_57 : decode cX10_take 57 = .ok (.putfield 93, 3) := by decide +kernel
theorem dX10_take_60 : decode cX10_take 60 = .ok (.aload_n 0, 1) := by decide +kernel
theorem dX10_take_61 : decode cX10_take 61 = .ok (.getfield 90, 3) := by decide +kernel
theorem dX10_take_64 : decode cX10_take 64 = .ok (.aload_n 0, 1) := by decide +kernel
theorem dX10_take_65 : decode cX10_take 65 = .ok (.getfield 87, 3) := by decide +kernel
theorem dX10_take_68 : decode cX10_take 68 = .ok (.if_icmp .ne 11, 3) := by decide +kernel
theorem dX10_take_79 : decode cX10_take 79 = .ok (.aload_n 0, 1) := by decide +kernel
theorem dX10_take_80 : decode cX10_take 80 = .ok (.aload_n 0, 1) := by decide +kernel
theorem dX10_take_81 : decode cX10_take 81 = .ok (.getfield 90, 3) := by decide +kernel
theorem dX10_take_84 : decode cX10_take 84 = .ok (.invokevirtual 99, 3) := by decide +kernel
theorem dX10_take_87 : decode cX10_take 87 = .ok (.ifCond .eq 62, 3) := by decide +kernel
theorem dX10_take_149 : decode cX10_take 149 = .ok (.aload_n 0, 1) := by decide +kernel
theorem dX10_take_150 : decode cX10_take 150 = .ok (.aload_n 0, 1) := by decide +kernel
theorem dX10_take_151 : decode cX10_take 151 = .ok (.getfield 90, 3) := by decide +kernel
theorem dX10_take_154 : decode cX10_take 154 = .ok (.invokevirtual 110, 3) := by decide +kernel
theorem dX10_take_157 : decode cX10_take 157 = .ok (.ifCond .eq 78, 3) := by decide +kernel
theorem dX10_take_235 : decode cX10_take 235 = .ok (.aload_n 0, 1) := by decide +kernel
theorem dX10_take_236 : decode cX10_take 236 = .ok (.aload_n 0, 1) := by decide +kernel
theorem dX10_take_237 : decode cX10_take 237 = .ok (.getfield 7, 3) := by decide +kernel
theorem dX10_take_240 : decode cX10_take 240 = .ok (.aload_n 0, 1) := by decide +kernel
theorem dX10_take_241 : decode cX10_take 241 = .ok (.getfield 90, 3) := by decide +kernel
theorem dX10_take_244 : decode cX10_take 244 = .ok (.iaload, 1) := by decide +kernel
theorem dX10_take_245 : decode cX10_take 245 = .ok (.bipush 59, 2) := by decide +kernel
theorem dX10_take_247 : decode cX10_take 247 = .ok (.if_icmp .ne 7, 3) := by decide +kernel
theorem dX10_take_254 : decode cX10_take 254 = .ok (.iconst 4, 1) := by decide +kernel
theorem kw_4_222 : Cond.fieldLink RX10 96 "IceFairModel" "kind" "I" ∈ gw := gw_t4 (List.mem_of_getElem? (i := 222) (by decide +kernel)) (by decide +kernel)
theorem dX10_take_255 : decode cX10_take 255 = .ok (.putfield 96, 3) := by decide +kernel
theorem dX10_take_258 : decode cX10_take 258 = .ok (.aload_n 0, 1) := by decide +kernel
theorem dX10_take_259 : decode cX10_take 259 = .ok (.dup, 1) := by decide +kernel
theorem dX10_take_260 : decode cX10_take 260 = .ok (.getfield 90, 3) := by decide +kernel
theorem dX10_take_263 : decode cX10_take 263 = .ok (.iconst 1, 1) := by decide +kernel
theorem dX10_take_264 : decode cX10_take 264 = .ok (.iadd, 1) := by decide +kernel
theorem dX10_take_265 : decode cX10_take 265 = .ok (.putfield 90, 3) := by decide +kernel
theorem dX10_take_268 : decode cX10_take 268 = .ok (.return_, 1) := by decide +kernel
theorem dX10_take_250 : decode cX10_take 250 = .ok (.iconst 3, 1) := by decide +kernel
theorem dX10_take_251 : decode cX10_take 251 = .ok (.goto 4, 3) := by decide +kernel
theorem dX10_take_160 : decode cX10_take 160 = .ok (.aload_n 0, 1) := by decide +kernel
theorem dX10_take_161 : decode cX10_take 161 = .ok (.iconst 2, 1) := by decide +kernel
theorem dX10_take_162 : decode cX10_take 162 = .ok (.putfield 96, 3) := by decide +kernel
theorem dX10_take_165 : decode cX10_take 165 = .ok (.aload_n 0, 1) := by decide +kernel
theorem dX10_take_166 : decode cX10_take 166 = .ok (.iconst 0, 1) := by decide +kernel
theorem dX10_take_167 : decode cX10_take 167 = .ok (.putfield 107, 3) := by decide +kernel
theorem dX10_take_114 : decode cX10_take 114 = .ok (.aload_n 0, 1) := by decide +kernel
theorem dX10_take_115 : decode cX10_take 115 = .ok (.aload_n 0, 1) := by decide +kernel
theorem dX10_take_116 : decode cX10_take 116 = .ok (.aload_n 0, 1) := by decide +kernel
theorem dX10_take_117 : decode cX10_take 117 = .ok (.getfield 93, 3) := by decide +kernel
theorem dX10_take_120 : decode cX10_take 120 = .ok (.aload_n 0, 1) := by decide +kernel
theorem dX10_take_121 : decode cX10_take 121 = .ok (.getfield 90, 3) := by decide +kernel
theorem kw_5_83 : Cond.methodLink RX10 103 yX10_wordAt ∈ gw := gw_t5 (List.mem_of_getElem? (i := 83) (by decide +kernel)) (by decide +kernel)
theorem kw_5_85 : Cond.instanceMethod yX10_wordAt ∈ gw := gw_t5 (List.mem_of_getElem? (i := 85) (by decide +kernel)) (by decide +kernel)
theorem ks_3_3 : Cond.selects RX10 yX10_wordAt yX10_wordAt ∈ gw := gw_s (y := yX10_wordAt) (n := 37) (List.mem_append_right _ (List.mem_append_right _ (List.mem_append_left _ (List.mem_of_getElem? (i := 3) (by decide +kernel)))))
theorem kw_5_86 : Cond.code yX10_wordAt cX10_wordAt 8 (some .int) ∈ gw := gw_t5 (List.mem_of_getElem? (i := 86) (by decide +kernel)) (by decide +kernel)
theorem gk_X10_103 : GoodIn gw (wsV RX10 103 RX10 yX10_wordAt (.code yX10_wordAt cX10_wordAt 8 (some .int) :: gw)) ∧ (yX10_wordAt.cls = RX10 ∧ yX10_wordAt.cls ≠ "java/lang/invoke/MethodHandle" ∧ yX10_wordAt.cls ≠ "java/lang/invoke/VarHandle" ∧ (parseMethodDescriptor yX10_wordAt.desc).map (fun d => d.parameters.length) = some 2) := ⟨gi_V kw_5_83 kw_5_85 ks_3_3 kw_1_11 kw_5_86, by decide +kernel⟩
theorem dX10_take_124 : decode cX10_take 124 = .ok (.invokevirtual 103, 3) := by decide +kernel
theorem dX10_take_127 : decode cX10_take 127 = .ok (.putfield 107, 3) := by decide +kernel
theorem dX10_take_130 : decode cX10_take 130 = .ok (.aload_n 0, 1) := by decide +kernel
theorem dX10_take_131 : decode cX10_take 131 = .ok (.aload_n 0, 1) := by decide +kernel
theorem dX10_take_132 : decode cX10_take 132 = .ok (.getfield 107, 3) := by decide +kernel
theorem dX10_take_135 : decode cX10_take 135 = .ok (.ifCond .ge 7, 3) := by decide +kernel
theorem dX10_take_142 : decode cX10_take 142 = .ok (.iconst 1, 1) := by decide +kernel
theorem dX10_take_143 : decode cX10_take 143 = .ok (.putfield 96, 3) := by decide +kernel
theorem dX10_take_146 : decode cX10_take 146 = .ok (.goto 122, 3) := by decide +kernel
theorem dX10_take_138 : decode cX10_take 138 = .ok (.iconst 4, 1) := by decide +kernel
theorem dX10_take_139 : decode cX10_take 139 = .ok (.goto 4, 3) := by decide +kernel
theorem dX10_take_71 : decode cX10_take 71 = .ok (.aload_n 0, 1) := by decide +kernel
theorem dX10_take_72 : decode cX10_take 72 = .ok (.iconst 0, 1) := by decide +kernel
theorem dX10_take_73 : decode cX10_take 73 = .ok (.putfield 96, 3) := by decide +kernel
theorem dX10_take_76 : decode cX10_take 76 = .ok (.goto 192, 3) := by decide +kernel
theorem dX10_number_0 : decode cX10_number 0 = .ok (.aload_n 0, 1) := by decide +kernel
theorem dX10_number_1 : decode cX10_number 1 = .ok (.getfield 96, 3) := by decide +kernel
theorem dX10_number_4 : decode cX10_number 4 = .ok (.iconst 2, 1) := by decide +kernel
theorem dX10_number_5 : decode cX10_number 5 = .ok (.if_icmp .eq 13, 3) := by decide +kernel
theorem dX10_number_18 : decode cX10_number 18 = .ok (.aload_n 0, 1) := by decide +kernel
theorem dX10_number_19 : decode cX10_number 19 = .ok (.getfield 107, 3) := by decide +kernel
theorem dX10_number_22 : decode cX10_number 22 = .ok (.iload_n 1, 1) := by decide +kernel
theorem dX10_number_23 : decode cX10_number 23 = .ok (.if_icmp .lt 11, 3) := by decide +kernel
theorem dX10_number_34 : decode cX10_number 34 = .ok (.aload_n 0, 1) := by decide +kernel
theorem dX10_number_35 : decode cX10_number 35 = .ok (.iconst 2, 1) := by decide +kernel
theorem dX10_number_36 : decode cX10_number 36 = .ok (.aload_n 0, 1) := by decide +kernel
theorem dX10_number_37 : decode cX10_number 37 = .ok (.getfield 93, 3) := by decide +kernel
theorem kw_5_95 : Cond.methodLink RX10 113 yX10_wrong ∈ gw := gw_t5 (List.mem_of_getElem? (i := 95) (by decide +kernel)) (by decide +kernel)
theorem kw_5_97 : Cond.instanceMethod yX10_wrong ∈ gw := gw_t5 (List.mem_of_getElem? (i := 97) (by decide +kernel)) (by decide +kernel)
theorem ks_3_6 : Cond.selects RX10 yX10_wrong yX10_wrong ∈ gw := gw_s (y := yX10_wrong) (n := 37) (List.mem_append_right _ (List.mem_append_right _ (List.mem_append_left _ (List.mem_of_getElem? (i := 6) (by decide +kernel)))))
theorem kw_5_98 : Cond.code yX10_wrong cX10_wrong 3 (some .boolean) ∈ gw := gw_t5 (List.mem_of_getElem? (i := 98) (by decide +kernel)) (by decide +kernel)
theorem gk_X10_113 : GoodIn gw (wsV RX10 113 RX10 yX10_wrong (.code yX10_wrong cX10_wrong 3 (some .boolean) :: gw)) ∧ (yX10_wrong.cls = RX10 ∧ yX10_wrong.cls ≠ "java/lang/invoke/MethodHandle" ∧ yX10_wrong.cls ≠ "java/lang/invoke/VarHandle" ∧ (parseMethodDescriptor yX10_wrong.desc).map (fun d => d.parameters.length) = some 2) := ⟨gi_V kw_5_95 kw_5_97 ks_3_6 kw_1_11 kw_5_98, by decide +kernel⟩
theorem dX10_number_40 : decode cX10_number 40 = .ok (.invokevirtual 113, 3) := by decide +kernel
theorem dX10_number_43 : decode cX10_number 43 = .ok (.ireturn, 1) := by decide +kernel
theorem dX10_number_26 : decode cX10_number 26 = .ok (.aload_n 0, 1) := by decide +kernel
theorem dX10_number_27 : decode cX10_number 27 = .ok (.getfield 107, 3) := by decide +kernel
theorem dX10_number_30 : decode cX10_number 30 = .ok (.iload_n 2, 1) := by decide +kernel
theorem dX10_number_31 : decode cX10_number 31 = .ok (.if_icmp .le 13, 3) := by decide +kernel
theorem dX10_number_44 : decode cX10_number 44 = .ok (.aload_n 0, 1) := by decide +kernel
theorem dX10_number_45 : decode cX10_number 45 = .ok (.aload_n 0, 1) := by decide +kernel
theorem dX10_number_46 : decode cX10_number 46 = .ok (.getfield 107, 3) := by decide +kernel
theorem kw_4_225 : Cond.fieldLink RX10 117 "IceFairModel" "read" "I" ∈ gw := gw_t4 (List.mem_of_getElem? (i := 225) (by decide +kernel)) (by decide +kernel)
theorem dX10_number_49 : decode cX10_number 49 = .ok (.putfield 117, 3) := by decide +kernel
theorem dX10_number_52 : decode cX10_number 52 = .ok (.aload_n 0, 1) := by decide +kernel
theorem kw_5_75 : Cond.methodLink RX10 120 yX10_take ∈ gw := gw_t5 (List.mem_of_getElem? (i := 75) (by decide +kernel)) (by decide +kernel)
theorem kw_5_77 : Cond.instanceMethod yX10_take ∈ gw := gw_t5 (List.mem_of_getElem? (i := 77) (by decide +kernel)) (by decide +kernel)
theorem ks_3_1 : Cond.selects RX10 yX10_take yX10_take ∈ gw := gw_s (y := yX10_take) (n := 37) (List.mem_append_right _ (List.mem_append_right _ (List.mem_append_left _ (List.mem_of_getElem? (i := 1) (by decide +kernel)))))
theorem kw_5_78 : Cond.code yX10_take cX10_take 1 none ∈ gw := gw_t5 (List.mem_of_getElem? (i := 78) (by decide +kernel)) (by decide +kernel)
theorem gk_X10_120 : GoodIn gw (wsV RX10 120 RX10 yX10_take (.code yX10_take cX10_take 1 none :: gw)) ∧ (yX10_take.cls = RX10 ∧ yX10_take.cls ≠ "java/lang/invoke/MethodHandle" ∧ yX10_take.cls ≠ "java/lang/invoke/VarHandle" ∧ (parseMethodDescriptor yX10_take.desc).map (fun d => d.parameters.length) = some 0) := ⟨gi_V kw_5_75 kw_5_77 ks_3_1 kw_1_11 kw_5_78, by decide +kernel⟩
theorem dX10_number_53 : decode cX10_number 53 = .ok (.invokevirtual 120, 3) := by decide +kernel
theorem dX10_number_56 : decode cX10_number 56 = .ok (.iconst 1, 1) := by decide +kernel
theorem dX10_number_57 : decode cX10_number 57 = .ok (.ireturn, 1) := by decide +kernel
theorem dX10_number_8 : decode cX10_number 8 = .ok (.aload_n 0, 1) := by decide +kernel
theorem dX10_number_9 : decode cX10_number 9 = .ok (.iconst 1, 1) := by decide +kernel
theorem dX10_number_10 : decode cX10_number 10 = .ok (.aload_n 0, 1) := by decide +kernel
theorem dX10_number_11 : decode cX10_number 11 = .ok (.getfield 93, 3) := by decide +kernel
theorem dX10_number_14 : decode cX10_number 14 = .ok (.invokevirtual 113, 3) := by decide +kernel
theorem dX10_number_17 : decode cX10_number 17 = .ok (.ireturn, 1) := by decide +kernel
theorem dX10_pair_0 : decode cX10_pair 0 = .ok (.aload_n 0, 1) := by decide +kernel
theorem dX10_pair_1 : decode cX10_pair 1 = .ok (.iconst 0, 1) := by decide +kernel
theorem dX10_pair_2 : decode cX10_pair 2 = .ok (.iload_n 2, 1) := by decide +kernel
theorem kw_5_103 : Cond.methodLink RX10 123 yX10_number ∈ gw := gw_t5 (List.mem_of_getElem? (i := 103) (by decide +kernel)) (by decide +kernel)
theorem kw_5_105 : Cond.instanceMethod yX10_number ∈ gw := gw_t5 (List.mem_of_getElem? (i := 105) (by decide +kernel)) (by decide +kernel)
theorem ks_3_8 : Cond.selects RX10 yX10_number yX10_number ∈ gw := gw_s (y := yX10_number) (n := 37) (List.mem_append_right _ (List.mem_append_right _ (List.mem_append_left _ (List.mem_of_getElem? (i := 8) (by decide +kernel)))))
theorem kw_5_106 : Cond.code yX10_number cX10_number 3 (some .boolean) ∈ gw := gw_t5 (List.mem_of_getElem? (i := 106) (by decide +kernel)) (by decide +kernel)
theorem gk_X10_123 : GoodIn gw (wsV RX10 123 RX10 yX10_number (.code yX10_number cX10_number 3 (some .boolean) :: gw)) ∧ (yX10_number.cls = RX10 ∧ yX10_number.cls ≠ "java/lang/invoke/MethodHandle" ∧ yX10_number.cls ≠ "java/lang/invoke/VarHandle" ∧ (parseMethodDescriptor yX10_number.desc).map (fun d => d.parameters.length) = some 2) := ⟨gi_V kw_5_103 kw_5_105 ks_3_8 kw_1_11 kw_5_106, by decide +kernel⟩
theorem dX10_pair_3 : decode cX10_pair 3 = .ok (.invokevirtual 123, 3) := by decide +kernel
theorem dX10_pair_6 : decode cX10_pair 6 = .ok (.ifCond .ne 5, 3) := by decide +kernel
theorem dX10_pair_11 : decode cX10_pair 11 = .ok (.aload_n 0, 1) := by decide +kernel
theorem dX10_pair_12 : decode cX10_pair 12 = .ok (.getfield 16, 3) := by decide +kernel
theorem dX10_pair_15 : decode cX10_pair 15 = .ok (.iload_n 1, 1) := by decide +kernel
theorem dX10_pair_16 : decode cX10_pair 16 = .ok (.aload_n 0, 1) := by decide +kernel
theorem dX10_pair_17 : decode cX10_pair 17 = .ok (.getfield 117, 3) := by decide +kernel
theorem dX10_pair_20 : decode cX10_pair 20 = .ok (.iastore, 1) := by decide +kernel
theorem dX10_pair_21 : decode cX10_pair 21 = .ok (.aload_n 0, 1) := by decide +kernel
theorem dX10_pair_22 : decode cX10_pair 22 = .ok (.iconst 0, 1) := by decide +kernel
theorem dX10_pair_23 : decode cX10_pair 23 = .ok (.iload_n 2, 1) := by decide +kernel
theorem dX10_pair_24 : decode cX10_pair 24 = .ok (.invokevirtual 123, 3) := by decide +kernel
theorem dX10_pair_27 : decode cX10_pair 27 = .ok (.ifCond .ne 5, 3) := by decide +kernel
theorem dX10_pair_32 : decode cX10_pair 32 = .ok (.aload_n 0, 1) := by decide +kernel
theorem dX10_pair_33 : decode cX10_pair 33 = .ok (.getfield 16, 3) := by decide +kernel
theorem dX10_pair_36 : decode cX10_pair 36 = .ok (.iload_n 1, 1) := by decide +kernel
theorem dX10_pair_37 : decode cX10_pair 37 = .ok (.iconst 1, 1) := by decide +kernel
theorem dX10_pair_38 : decode cX10_pair 38 = .ok (.iadd, 1) := by decide +kernel
theorem dX10_pair_39 : decode cX10_pair 39 = .ok (.aload_n 0, 1) := by decide +kernel
theorem dX10_pair_40 : decode cX10_pair 40 = .ok (.getfield 117, 3) := by decide +kernel
theorem dX10_pair_43 : decode cX10_pair 43 = .ok (.iastore, 1) := by decide +kernel
theorem dX10_pair_44 : decode cX10_pair 44 = .ok (.iconst 1, 1) := by decide +kernel
theorem dX10_pair_45 : decode cX10_pair 45 = .ok (.ireturn, 1) := by decide +kernel
theorem dX10_pair_30 : decode cX10_pair 30 = .ok (.iconst 0, 1) := by decide +kernel
theorem dX10_pair_31 : decode cX10_pair 31 = .ok (.ireturn, 1) := by decide +kernel
theorem dX10_pair_9 : decode cX10_pair 9 = .ok (.iconst 0, 1) := by decide +kernel
theorem dX10_pair_10 : decode cX10_pair 10 = .ok (.ireturn, 1) := by decide +kernel
theorem dX10_single_0 : decode cX10_single 0 = .ok (.aload_n 0, 1) := by decide +kernel
theorem dX10_single_1 : decode cX10_single 1 = .ok (.iload_n 2, 1) := by decide +kernel
theorem dX10_single_2 : decode cX10_single 2 = .ok (.iload_n 3, 1) := by decide +kernel
theorem dX10_single_3 : decode cX10_single 3 = .ok (.invokevirtual 123, 3) := by decide +kernel
theorem dX10_single_6 : decode cX10_single 6 = .ok (.ifCond .ne 5, 3) := by decide +kernel
theorem dX10_single_11 : decode cX10_single 11 = .ok (.aload_n 0, 1) := by decide +kernel
theorem dX10_single_12 : decode cX10_single 12 = .ok (.getfield 16, 3) := by decide +kernel
theorem dX10_single_15 : decode cX10_single 15 = .ok (.iload_n 1, 1) := by decide +kernel
theorem dX10_single_16 : decode cX10_single 16 = .ok (.aload_n 0, 1) := by decide +kernel
theorem dX10_single_17 : decode cX10_single 17 = .ok (.getfield 117, 3) := by decide +kernel
theorem dX10_single_20 : decode cX10_single 20 = .ok (.iastore, 1) := by decide +kernel
theorem dX10_single_21 : decode cX10_single 21 = .ok (.iconst 1, 1) := by decide +kernel
theorem dX10_single_22 : decode cX10_single 22 = .ok (.ireturn, 1) := by decide +kernel
theorem dX10_single_9 : decode cX10_single 9 = .ok (.iconst 0, 1) := by decide +kernel
theorem dX10_single_10 : decode cX10_single 10 = .ok (.ireturn, 1) := by decide +kernel
theorem dX10_stairLine_72 : decode cX10_stairLine 72 = .ok (.iload 4, 2) := by decide +kernel
theorem dX10_stairLine_74 : decode cX10_stairLine 74 = .ok (.aload_n 0, 1) := by decide +kernel
theorem kw_4_202 : Cond.fieldLink RX10 126 "IceFairModel" "readStairs" "I" ∈ gw := gw_t4 (List.mem_of_getElem? (i := 202) (by decide +kernel)) (by decide +kernel)
theorem dX10_stairLine_75 : decode cX10_stairLine 75 = .ok (.getfield 126, 3) := by decide +kernel
theorem dX10_stairLine_78 : decode cX10_stairLine 78 = .ok (.if_icmp .ge 32, 3) := by decide +kernel
theorem dX10_stairLine_81 : decode cX10_stairLine 81 = .ok (.aload_n 0, 1) := by decide +kernel
theorem dX10_stairLine_82 : decode cX10_stairLine 82 = .ok (.getfield 19, 3) := by decide +kernel
theorem dX10_stairLine_85 : decode cX10_stairLine 85 = .ok (.bipush 12, 2) := by decide +kernel
theorem dX10_stairLine_87 : decode cX10_stairLine 87 = .ok (.iconst 2, 1) := by decide +kernel
theorem dX10_stairLine_88 : decode cX10_stairLine 88 = .ok (.iload 4, 2) := by decide +kernel
theorem dX10_stairLine_90 : decode cX10_stairLine 90 = .ok (.imul, 1) := by decide +kernel
theorem dX10_stairLine_91 : decode cX10_stairLine 91 = .ok (.iadd, 1) := by decide +kernel
theorem dX10_stairLine_92 : decode cX10_stairLine 92 = .ok (.iaload, 1) := by decide +kernel
theorem dX10_stairLine_93 : decode cX10_stairLine 93 = .ok (.iload_n 3, 1) := by decide +kernel
theorem dX10_stairLine_94 : decode cX10_stairLine 94 = .ok (.if_icmp .ne 10, 3) := by decide +kernel
theorem dX10_stairLine_104 : decode cX10_stairLine 104 = .ok (.iinc 4 1, 3) := by decide +kernel
theorem dX10_stairLine_107 : decode cX10_stairLine 107 = .ok (.goto (-35), 3) := by decide +kernel
theorem dX10_stairLine_0 : decode cX10_stairLine 0 = .ok (.aload_n 0, 1) := by decide +kernel
theorem dX10_stairLine_1 : decode cX10_stairLine 1 = .ok (.getfield 93, 3) := by decide +kernel
theorem dX10_stairLine_4 : decode cX10_stairLine 4 = .ok (.istore_n 1, 1) := by decide +kernel
theorem dX10_stairLine_5 : decode cX10_stairLine 5 = .ok (.aload_n 0, 1) := by decide +kernel
theorem dX10_stairLine_6 : decode cX10_stairLine 6 = .ok (.iconst 0, 1) := by decide +kernel
theorem dX10_stairLine_7 : decode cX10_stairLine 7 = .ok (.bipush 9, 2) := by decide +kernel
theorem dX10_stairLine_9 : decode cX10_stairLine 9 = .ok (.invokevirtual 123, 3) := by decide +kernel
theorem dX10_stairLine_12 : decode cX10_stairLine 12 = .ok (.ifCond .ne 5, 3) := by decide +kernel
theorem dX10_stairLine_17 : decode cX10_stairLine 17 = .ok (.aload_n 0, 1) := by decide +kernel
theorem dX10_stairLine_18 : decode cX10_stairLine 18 = .ok (.getfield 117, 3) := by decide +kernel
theorem dX10_stairLine_21 : decode cX10_stairLine 21 = .ok (.istore_n 2, 1) := by decide +kernel
theorem dX10_stairLine_22 : decode cX10_stairLine 22 = .ok (.aload_n 0, 1) := by decide +kernel
theorem dX10_stairLine_23 : decode cX10_stairLine 23 = .ok (.getfield 96, 3) := by decide +kernel
theorem dX10_stairLine_26 : decode cX10_stairLine 26 = .ok (.iconst 2, 1) := by decide +kernel
theorem dX10_stairLine_27 : decode cX10_stairLine 27 = .ok (.if_icmp .eq 13, 3) := by decide +kernel
theorem dX10_stairLine_40 : decode cX10_stairLine 40 = .ok (.aload_n 0, 1) := by decide +kernel
theorem dX10_stairLine_41 : decode cX10_stairLine 41 = .ok (.getfield 107, 3) := by decide +kernel
theorem dX10_stairLine_44 : decode cX10_stairLine 44 = .ok (.bipush 9, 2) := by decide +kernel
theorem dX10_stairLine_46 : decode cX10_stairLine 46 = .ok (.if_icmp .le 13, 3) := by decide +kernel
theorem dX10_stairLine_59 : decode cX10_stairLine 59 = .ok (.bipush 10, 2) := by decide +kernel
theorem dX10_stairLine_61 : decode cX10_stairLine 61 = .ok (.aload_n 0, 1) := by decide +kernel
theorem dX10_stairLine_62 : decode cX10_stairLine 62 = .ok (.getfield 107, 3) := by decide +kernel
theorem dX10_stairLine_65 : decode cX10_stairLine 65 = .ok (.imul, 1) := by decide +kernel
theorem dX10_stairLine_66 : decode cX10_stairLine 66 = .ok (.iload_n 2, 1) := by decide +kernel
theorem dX10_stairLine_67 : decode cX10_stairLine 67 = .ok (.iadd, 1) := by decide +kernel
theorem dX10_stairLine_68 : decode cX10_stairLine 68 = .ok (.istore_n 3, 1) := by decide +kernel
theorem dX10_stairLine_69 : decode cX10_stairLine 69 = .ok (.iconst 0, 1) := by decide +kernel
theorem dX10_stairLine_70 : decode cX10_stairLine 70 = .ok (.istore 4, 2) := by decide +kernel
theorem dX10_stairLine_97 : decode cX10_stairLine 97 = .ok (.aload_n 0, 1) := by decide +kernel
theorem dX10_stairLine_98 : decode cX10_stairLine 98 = .ok (.iconst 3, 1) := by decide +kernel
theorem dX10_stairLine_99 : decode cX10_stairLine 99 = .ok (.iload_n 1, 1) := by decide +kernel
theorem dX10_stairLine_100 : decode cX10_stairLine 100 = .ok (.invokevirtual 113, 3) := by decide +kernel
theorem dX10_stairLine_103 : decode cX10_stairLine 103 = .ok (.ireturn, 1) := by decide +kernel
theorem dX10_stairLine_110 : decode cX10_stairLine 110 = .ok (.aload_n 0, 1) := by decide +kernel
theorem dX10_stairLine_111 : decode cX10_stairLine 111 = .ok (.invokevirtual 120, 3) := by decide +kernel
theorem dX10_stairLine_114 : decode cX10_stairLine 114 = .ok (.aload_n 0, 1) := by decide +kernel
theorem dX10_stairLine_115 : decode cX10_stairLine 115 = .ok (.iconst 1, 1) := by decide +kernel
theorem dX10_stairLine_116 : decode cX10_stairLine 116 = .ok (.bipush 9, 2) := by decide +kernel
theorem dX10_stairLine_118 : decode cX10_stairLine 118 = .ok (.invokevirtual 123, 3) := by decide +kernel
theorem dX10_stairLine_121 : decode cX10_stairLine 121 = .ok (.ifCond .ne 5, 3) := by decide +kernel
theorem dX10_stairLine_126 : decode cX10_stairLine 126 = .ok (.aload_n 0, 1) := by decide +kernel
theorem dX10_stairLine_127 : decode cX10_stairLine 127 = .ok (.getfield 19, 3) := by decide +kernel
theorem dX10_stairLine_130 : decode cX10_stairLine 130 = .ok (.bipush 12, 2) := by decide +kernel
theorem dX10_stairLine_132 : decode cX10_stairLine 132 = .ok (.iconst 2, 1) := by decide +kernel
theorem dX10_stairLine_133 : decode cX10_stairLine 133 = .ok (.aload_n 0, 1) := by decide +kernel
theorem dX10_stairLine_134 : decode cX10_stairLine 134 = .ok (.getfield 126, 3) := by decide +kernel
theorem dX10_stairLine_137 : decode cX10_stairLine 137 = .ok (.imul, 1) := by decide +kernel
theorem dX10_stairLine_138 : decode cX10_stairLine 138 = .ok (.iadd, 1) := by decide +kernel
theorem dX10_stairLine_139 : decode cX10_stairLine 139 = .ok (.iload_n 3, 1) := by decide +kernel
theorem dX10_stairLine_140 : decode cX10_stairLine 140 = .ok (.iastore, 1) := by decide +kernel
theorem dX10_stairLine_141 : decode cX10_stairLine 141 = .ok (.aload_n 0, 1) := by decide +kernel
theorem dX10_stairLine_142 : decode cX10_stairLine 142 = .ok (.getfield 19, 3) := by decide +kernel
theorem dX10_stairLine_145 : decode cX10_stairLine 145 = .ok (.bipush 13, 2) := by decide +kernel
theorem dX10_stairLine_147 : decode cX10_stairLine 147 = .ok (.iconst 2, 1) := by decide +kernel
theorem dX10_stairLine_148 : decode cX10_stairLine 148 = .ok (.aload_n 0, 1) := by decide +kernel
theorem dX10_stairLine_149 : decode cX10_stairLine 149 = .ok (.getfield 126, 3) := by decide +kernel
theorem dX10_stairLine_152 : decode cX10_stairLine 152 = .ok (.imul, 1) := by decide +kernel
theorem dX10_stairLine_153 : decode cX10_stairLine 153 = .ok (.iadd, 1) := by decide +kernel
theorem dX10_stairLine_154 : decode cX10_stairLine 154 = .ok (.aload_n 0, 1) := by decide +kernel
theorem dX10_stairLine_155 : decode cX10_stairLine 155 = .ok (.getfield 117, 3) := by decide +kernel
theorem dX10_stairLine_158 : decode cX10_stairLine 158 = .ok (.iastore, 1) := by decide +kernel
theorem dX10_stairLine_159 : decode cX10_stairLine 159 = .ok (.aload_n 0, 1) := by decide +kernel
theorem dX10_stairLine_160 : decode cX10_stairLine 160 = .ok (.dup, 1) := by decide +kernel
theorem dX10_stairLine_161 : decode cX10_stairLine 161 = .ok (.getfield 126, 3) := by decide +kernel
theorem dX10_stairLine_164 : decode cX10_stairLine 164 = .ok (.iconst 1, 1) := by decide +kernel
theorem dX10_stairLine_165 : decode cX10_stairLine 165 = .ok (.iadd, 1) := by decide +kernel
theorem dX10_stairLine_166 : decode cX10_stairLine 166 = .ok (.putfield 126, 3) := by decide +kernel
theorem dX10_stairLine_169 : decode cX10_stairLine 169 = .ok (.iconst 1, 1) := by decide +kernel
theorem dX10_stairLine_170 : decode cX10_stairLine 170 = .ok (.ireturn, 1) := by decide +kernel
theorem dX10_stairLine_124 : decode cX10_stairLine 124 = .ok (.iconst 0, 1) := by decide +kernel
theorem dX10_stairLine_125 : decode cX10_stairLine 125 = .ok (.ireturn, 1) := by decide +kernel
theorem dX10_stairLine_49 : decode cX10_stairLine 49 = .ok (.aload_n 0, 1) := by decide +kernel
theorem dX10_stairLine_50 : decode cX10_stairLine 50 = .ok (.iconst 2, 1) := by decide +kernel
theorem dX10_stairLine_51 : decode cX10_stairLine 51 = .ok (.aload_n 0, 1) := by decide +kernel
theorem dX10_stairLine_52 : decode cX10_stairLine 52 = .ok (.getfield 93, 3) := by decide +kernel
theorem dX10_stairLine_55 : decode cX10_stairLine 55 = .ok (.invokevirtual 113, 3) := by decide +kernel
theorem dX10_stairLine_58 : decode cX10_stairLine 58 = .ok (.ireturn, 1) := by decide +kernel
theorem dX10_stairLine_30 : decode cX10_stairLine 30 = .ok (.aload_n 0, 1) := by decide +kernel
theorem dX10_stairLine_31 : decode cX10_stairLine 31 = .ok (.iconst 1, 1) := by decide +kernel
theorem dX10_stairLine_32 : decode cX10_stairLine 32 = .ok (.aload_n 0, 1) := by decide +kernel
theorem dX10_stairLine_33 : decode cX10_stairLine 33 = .ok (.getfield 93, 3) := by decide +kernel
theorem dX10_stairLine_36 : decode cX10_stairLine 36 = .ok (.invokevirtual 113, 3) := by decide +kernel
theorem dX10_stairLine_39 : decode cX10_stairLine 39 = .ok (.ireturn, 1) := by decide +kernel
theorem dX10_stairLine_15 : decode cX10_stairLine 15 = .ok (.iconst 0, 1) := by decide +kernel
theorem dX10_stairLine_16 : decode cX10_stairLine 16 = .ok (.ireturn, 1) := by decide +kernel
theorem dX10_line_0 : decode cX10_line 0 = .ok (.aload_n 0, 1) := by decide +kernel
theorem dX10_line_1 : decode cX10_line 1 = .ok (.getfield 96, 3) := by decide +kernel
theorem dX10_line_4 : decode cX10_line 4 = .ok (.iconst 1, 1) := by decide +kernel
theorem dX10_line_5 : decode cX10_line 5 = .ok (.if_icmp .eq 13, 3) := by decide +kernel
theorem dX10_line_18 : decode cX10_line 18 = .ok (.aload_n 0, 1) := by decide +kernel
theorem dX10_line_19 : decode cX10_line 19 = .ok (.getfield 107, 3) := by decide +kernel
theorem dX10_line_22 : decode cX10_line 22 = .ok (.istore_n 1, 1) := by decide +kernel
theorem dX10_line_23 : decode cX10_line 23 = .ok (.iload_n 1, 1) := by decide +kernel
theorem dX10_line_24 : decode cX10_line 24 = .ok (.bipush 6, 2) := by decide +kernel
theorem dX10_line_26 : decode cX10_line 26 = .ok (.if_icmp .ne 30, 3) := by decide +kernel
theorem dX10_line_56 : decode cX10_line 56 = .ok (.aload_n 0, 1) := by decide +kernel
theorem dX10_line_57 : decode cX10_line 57 = .ok (.getfield 60, 3) := by decide +kernel
theorem dX10_line_60 : decode cX10_line 60 = .ok (.iload_n 1, 1) := by decide +kernel
theorem dX10_line_61 : decode cX10_line 61 = .ok (.baload, 1) := by decide +kernel
theorem dX10_line_62 : decode cX10_line 62 = .ok (.ifCond .eq 13, 3) := by decide +kernel
theorem dX10_line_75 : decode cX10_line 75 = .ok (.aload_n 0, 1) := by decide +kernel
theorem dX10_line_76 : decode cX10_line 76 = .ok (.getfield 60, 3) := by decide +kernel
theorem dX10_line_79 : decode cX10_line 79 = .ok (.iload_n 1, 1) := by decide +kernel
theorem dX10_line_80 : decode cX10_line 80 = .ok (.iconst 1, 1) := by decide +kernel
theorem dX10_line_81 : decode cX10_line 81 = .ok (.bastore, 1) := by decide +kernel
theorem dX10_line_82 : decode cX10_line 82 = .ok (.aload_n 0, 1) := by decide +kernel
theorem dX10_line_83 : decode cX10_line 83 = .ok (.invokevirtual 120, 3) := by decide +kernel
theorem dX10_line_86 : decode cX10_line 86 = .ok (.iload_n 1, 1) := by decide +kernel
theorem dX10_line_87 : decode cX10_line 87 = .ok (.tableswitch 77 0 4 #[33, 43, 51, 60, 68], 33) := by decide +kernel
theorem dX10_line_120 : decode cX10_line 120 = .ok (.aload_n 0, 1) := by decide +kernel
theorem dX10_line_121 : decode cX10_line 121 = .ok (.iconst 0, 1) := by decide +kernel
theorem dX10_line_122 : decode cX10_line 122 = .ok (.iconst 1, 1) := by decide +kernel
theorem dX10_line_123 : decode cX10_line 123 = .ok (.sipush 999, 3) := by decide +kernel
theorem kw_5_107 : Cond.methodLink RX10 133 yX10_single ∈ gw := gw_t5 (List.mem_of_getElem? (i := 107) (by decide +kernel)) (by decide +kernel)
theorem kw_5_109 : Cond.instanceMethod yX10_single ∈ gw := gw_t5 (List.mem_of_getElem? (i := 109) (by decide +kernel)) (by decide +kernel)
theorem ks_3_9 : Cond.selects RX10 yX10_single yX10_single ∈ gw := gw_s (y := yX10_single) (n := 37) (List.mem_append_right _ (List.mem_append_right _ (List.mem_append_left _ (List.mem_of_getElem? (i := 9) (by decide +kernel)))))
theorem kw_5_110 : Cond.code yX10_single cX10_single 4 (some .boolean) ∈ gw := gw_t5 (List.mem_of_getElem? (i := 110) (by decide +kernel)) (by decide +kernel)
theorem gk_X10_133 : GoodIn gw (wsV RX10 133 RX10 yX10_single (.code yX10_single cX10_single 4 (some .boolean) :: gw)) ∧ (yX10_single.cls = RX10 ∧ yX10_single.cls ≠ "java/lang/invoke/MethodHandle" ∧ yX10_single.cls ≠ "java/lang/invoke/VarHandle" ∧ (parseMethodDescriptor yX10_single.desc).map (fun d => d.parameters.length) = some 3) := ⟨gi_V kw_5_107 kw_5_109 ks_3_9 kw_1_11 kw_5_110, by decide +kernel⟩
theorem dX10_line_126 : decode cX10_line 126 = .ok (.invokevirtual 133, 3) := by decide +kernel
theorem dX10_line_129 : decode cX10_line 129 = .ok (.ireturn, 1) := by decide +kernel
theorem dX10_line_130 : decode cX10_line 130 = .ok (.aload_n 0, 1) := by decide +kernel
theorem dX10_line_131 : decode cX10_line 131 = .ok (.iconst 1, 1) := by decide +kernel
theorem dX10_line_132 : decode cX10_line 132 = .ok (.bipush 9, 2) := by decide +kernel
theorem kw_5_111 : Cond.methodLink RX10 137 yX10_pair ∈ gw := gw_t5 (List.mem_of_getElem? (i := 111) (by decide +kernel)) (by decide +kernel)
theorem kw_5_113 : Cond.instanceMethod yX10_pair ∈ gw := gw_t5 (List.mem_of_getElem? (i := 113) (by decide +kernel)) (by decide +kernel)
theorem ks_3_10 : Cond.selects RX10 yX10_pair yX10_pair ∈ gw := gw_s (y := yX10_pair) (n := 37) (List.mem_append_right _ (List.mem_append_right _ (List.mem_append_left _ (List.mem_of_getElem? (i := 10) (by decide +kernel)))))
theorem kw_5_114 : Cond.code yX10_pair cX10_pair 3 (some .boolean) ∈ gw := gw_t5 (List.mem_of_getElem? (i := 114) (by decide +kernel)) (by decide +kernel)
theorem gk_X10_137 : GoodIn gw (wsV RX10 137 RX10 yX10_pair (.code yX10_pair cX10_pair 3 (some .boolean) :: gw)) ∧ (yX10_pair.cls = RX10 ∧ yX10_pair.cls ≠ "java/lang/invoke/MethodHandle" ∧ yX10_pair.cls ≠ "java/lang/invoke/VarHandle" ∧ (parseMethodDescriptor yX10_pair.desc).map (fun d => d.parameters.length) = some 2) := ⟨gi_V kw_5_111 kw_5_113 ks_3_10 kw_1_11 kw_5_114, by decide +kernel⟩
theorem dX10_line_134 : decode cX10_line 134 = .ok (.invokevirtual 137, 3) := by decide +kernel
theorem dX10_line_137 : decode cX10_line 137 = .ok (.ireturn, 1) := by decide +kernel
theorem dX10_line_138 : decode cX10_line 138 = .ok (.aload_n 0, 1) := by decide +kernel
theorem dX10_line_139 : decode cX10_line 139 = .ok (.iconst 3, 1) := by decide +kernel
theorem dX10_line_140 : decode cX10_line 140 = .ok (.iconst 0, 1) := by decide +kernel
theorem dX10_line_141 : decode cX10_line 141 = .ok (.bipush 9, 2) := by decide +kernel
theorem dX10_line_143 : decode cX10_line 143 = .ok (.invokevirtual 133, 3) := by decide +kernel
theorem dX10_line_146 : decode cX10_line 146 = .ok (.ireturn, 1) := by decide +kernel
theorem dX10_line_147 : decode cX10_line 147 = .ok (.aload_n 0, 1) := by decide +kernel
theorem dX10_line_148 : decode cX10_line 148 = .ok (.iconst 4, 1) := by decide +kernel
theorem dX10_line_149 : decode cX10_line 149 = .ok (.iconst 0, 1) := by decide +kernel
theorem dX10_line_150 : decode cX10_line 150 = .ok (.iconst 4, 1) := by decide +kernel
theorem dX10_line_151 : decode cX10_line 151 = .ok (.invokevirtual 133, 3) := by decide +kernel
theorem dX10_line_154 : decode cX10_line 154 = .ok (.ireturn, 1) := by decide +kernel
theorem dX10_line_155 : decode cX10_line 155 = .ok (.aload_n 0, 1) := by decide +kernel
theorem dX10_line_156 : decode cX10_line 156 = .ok (.iconst 5, 1) := by decide +kernel
theorem dX10_line_157 : decode cX10_line 157 = .ok (.iconst 1, 1) := by decide +kernel
theorem dX10_line_158 : decode cX10_line 158 = .ok (.bipush 99, 2) := by decide +kernel
theorem dX10_line_160 : decode cX10_line 160 = .ok (.invokevirtual 133, 3) := by decide +kernel
theorem dX10_line_163 : decode cX10_line 163 = .ok (.ireturn, 1) := by decide +kernel
theorem dX10_line_164 : decode cX10_line 164 = .ok (.aload_n 0, 1) := by decide +kernel
theorem dX10_line_165 : decode cX10_line 165 = .ok (.bipush 6, 2) := by decide +kernel
theorem dX10_line_167 : decode cX10_line 167 = .ok (.bipush 99, 2) := by decide +kernel
theorem dX10_line_169 : decode cX10_line 169 = .ok (.invokevirtual 137, 3) := by decide +kernel
theorem dX10_line_172 : decode cX10_line 172 = .ok (.ireturn, 1) := by decide +kernel
theorem dX10_line_65 : decode cX10_line 65 = .ok (.aload_n 0, 1) := by decide +kernel
theorem dX10_line_66 : decode cX10_line 66 = .ok (.iconst 3, 1) := by decide +kernel
theorem dX10_line_67 : decode cX10_line 67 = .ok (.aload_n 0, 1) := by decide +kernel
theorem dX10_line_68 : decode cX10_line 68 = .ok (.getfield 93, 3) := by decide +kernel
theorem dX10_line_71 : decode cX10_line 71 = .ok (.invokevirtual 113, 3) := by decide +kernel
theorem dX10_line_74 : decode cX10_line 74 = .ok (.ireturn, 1) := by decide +kernel
theorem dX10_line_29 : decode cX10_line 29 = .ok (.aload_n 0, 1) := by decide +kernel
theorem dX10_line_30 : decode cX10_line 30 = .ok (.getfield 126, 3) := by decide +kernel
theorem dX10_line_33 : decode cX10_line 33 = .ok (.iconst 4, 1) := by decide +kernel
theorem dX10_line_34 : decode cX10_line 34 = .ok (.if_icmp .ne 13, 3) := by decide +kernel
theorem dX10_line_47 : decode cX10_line 47 = .ok (.aload_n 0, 1) := by decide +kernel
theorem dX10_line_48 : decode cX10_line 48 = .ok (.invokevirtual 120, 3) := by decide +kernel
theorem dX10_line_51 : decode cX10_line 51 = .ok (.aload_n 0, 1) := by decide +kernel
theorem kw_5_99 : Cond.methodLink RX10 129 yX10_stairLine ∈ gw := gw_t5 (List.mem_of_getElem? (i := 99) (by decide +kernel)) (by decide +kernel)
theorem kw_5_101 : Cond.instanceMethod yX10_stairLine ∈ gw := gw_t5 (List.mem_of_getElem? (i := 101) (by decide +kernel)) (by decide +kernel)
theorem ks_3_7 : Cond.selects RX10 yX10_stairLine yX10_stairLine ∈ gw := gw_s (y := yX10_stairLine) (n := 37) (List.mem_append_right _ (List.mem_append_right _ (List.mem_append_left _ (List.mem_of_getElem? (i := 7) (by decide +kernel)))))
theorem kw_5_102 : Cond.code yX10_stairLine cX10_stairLine 5 (some .boolean) ∈ gw := gw_t5 (List.mem_of_getElem? (i := 102) (by decide +kernel)) (by decide +kernel)
theorem gk_X10_129 : GoodIn gw (wsV RX10 129 RX10 yX10_stairLine (.code yX10_stairLine cX10_stairLine 5 (some .boolean) :: gw)) ∧ (yX10_stairLine.cls = RX10 ∧ yX10_stairLine.cls ≠ "java/lang/invoke/MethodHandle" ∧ yX10_stairLine.cls ≠ "java/lang/invoke/VarHandle" ∧ (parseMethodDescriptor yX10_stairLine.desc).map (fun d => d.parameters.length) = some 0) := ⟨gi_V kw_5_99 kw_5_101 ks_3_7 kw_1_11 kw_5_102, by decide +kernel⟩
theorem dX10_line_52 : decode cX10_line 52 = .ok (.invokevirtual 129, 3) := by decide +kernel
theorem dX10_line_55 : decode cX10_line 55 = .ok (.ireturn, 1) := by decide +kernel
theorem dX10_line_37 : decode cX10_line 37 = .ok (.aload_n 0, 1) := by decide +kernel
theorem dX10_line_38 : decode cX10_line 38 = .ok (.iconst 2, 1) := by decide +kernel
theorem dX10_line_39 : decode cX10_line 39 = .ok (.aload_n 0, 1) := by decide +kernel
theorem dX10_line_40 : decode cX10_line 40 = .ok (.getfield 93, 3) := by decide +kernel
theorem dX10_line_43 : decode cX10_line 43 = .ok (.invokevirtual 113, 3) := by decide +kernel
theorem dX10_line_46 : decode cX10_line 46 = .ok (.ireturn, 1) := by decide +kernel
theorem dX10_line_8 : decode cX10_line 8 = .ok (.aload_n 0, 1) := by decide +kernel
theorem dX10_line_9 : decode cX10_line 9 = .ok (.iconst 1, 1) := by decide +kernel
theorem dX10_line_10 : decode cX10_line 10 = .ok (.aload_n 0, 1) := by decide +kernel
theorem dX10_line_11 : decode cX10_line 11 = .ok (.getfield 93, 3) := by decide +kernel
theorem dX10_line_14 : decode cX10_line 14 = .ok (.invokevirtual 113, 3) := by decide +kernel
theorem dX10_line_17 : decode cX10_line 17 = .ok (.ireturn, 1) := by decide +kernel
theorem dX10_customs_42 : decode cX10_customs 42 = .ok (.iload_n 2, 1) := by decide +kernel
theorem dX10_customs_43 : decode cX10_customs 43 = .ok (.bipush 7, 2) := by decide +kernel
theorem dX10_customs_45 : decode cX10_customs 45 = .ok (.if_icmp .ge 16, 3) := by decide +kernel
theorem dX10_customs_48 : decode cX10_customs 48 = .ok (.aload_n 0, 1) := by decide +kernel
theorem dX10_customs_49 : decode cX10_customs 49 = .ok (.getfield 60, 3) := by decide +kernel
theorem dX10_customs_52 : decode cX10_customs 52 = .ok (.iload_n 2, 1) := by decide +kernel
theorem dX10_customs_53 : decode cX10_customs 53 = .ok (.iconst 0, 1) := by decide +kernel
theorem dX10_customs_54 : decode cX10_customs 54 = .ok (.bastore, 1) := by decide +kernel
theorem dX10_customs_55 : decode cX10_customs 55 = .ok (.iinc 2 1, 3) := by decide +kernel
theorem dX10_customs_58 : decode cX10_customs 58 = .ok (.goto (-16), 3) := by decide +kernel
theorem dX10_customs_137 : decode cX10_customs 137 = .ok (.aload_n 0, 1) := by decide +kernel
theorem dX10_customs_138 : decode cX10_customs 138 = .ok (.getfield 96, 3) := by decide +kernel
theorem dX10_customs_141 : decode cX10_customs 141 = .ok (.ifCond .eq 42, 3) := by decide +kernel
theorem dX10_customs_144 : decode cX10_customs 144 = .ok (.aload_n 0, 1) := by decide +kernel
theorem kw_5_91 : Cond.methodLink RX10 140 yX10_line ∈ gw := gw_t5 (List.mem_of_getElem? (i := 91) (by decide +kernel)) (by decide +kernel)
theorem kw_5_93 : Cond.instanceMethod yX10_line ∈ gw := gw_t5 (List.mem_of_getElem? (i := 93) (by decide +kernel)) (by decide +kernel)
theorem ks_3_5 : Cond.selects RX10 yX10_line yX10_line ∈ gw := gw_s (y := yX10_line) (n := 37) (List.mem_append_right _ (List.mem_append_right _ (List.mem_append_left _ (List.mem_of_getElem? (i := 5) (by decide +kernel)))))
theorem kw_5_94 : Cond.code yX10_line cX10_line 2 (some .boolean) ∈ gw := gw_t5 (List.mem_of_getElem? (i := 94) (by decide +kernel)) (by decide +kernel)
theorem gk_X10_140 : GoodIn gw (wsV RX10 140 RX10 yX10_line (.code yX10_line cX10_line 2 (some .boolean) :: gw)) ∧ (yX10_line.cls = RX10 ∧ yX10_line.cls ≠ "java/lang/invoke/MethodHandle" ∧ yX10_line.cls ≠ "java/lang/invoke/VarHandle" ∧ (parseMethodDescriptor yX10_line.desc).map (fun d => d.parameters.length) = some 0) := ⟨gi_V kw_5_91 kw_5_93 ks_3_5 kw_1_11 kw_5_94, by decide +kernel⟩
theorem dX10_customs_145 : decode cX10_customs 145 = .ok (.invokevirtual 140, 3) := by decide +kernel
theorem dX10_customs_148 : decode cX10_customs 148 = .ok (.ifCond .ne 5, 3) := by decide +kernel
theorem dX10_customs_153 : decode cX10_customs 153 = .ok (.aload_n 0, 1) := by decide +kernel
theorem dX10_customs_154 : decode cX10_customs 154 = .ok (.getfield 96, 3) := by decide +kernel
theorem dX10_customs_157 : decode cX10_customs 157 = .ok (.iconst 3, 1) := by decide +kernel
theorem dX10_customs_158 : decode cX10_customs 158 = .ok (.if_icmp .eq 15, 3) := by decide +kernel
theorem dX10_customs_173 : decode cX10_customs 173 = .ok (.iinc 2 1, 3) := by decide +kernel
theorem dX10_customs_176 : decode cX10_customs 176 = .ok (.aload_n 0, 1) := by decide +kernel
theorem dX10_customs_177 : decode cX10_customs 177 = .ok (.invokevirtual 120, 3) := by decide +kernel
theorem dX10_customs_180 : decode cX10_customs 180 = .ok (.goto (-43), 3) := by decide +kernel
theorem dX10_customs_161 : decode cX10_customs 161 = .ok (.aload_n 0, 1) := by decide +kernel
theorem dX10_customs_162 : decode cX10_customs 162 = .ok (.iconst 1, 1) := by decide +kernel
theorem dX10_customs_163 : decode cX10_customs 163 = .ok (.aload_n 0, 1) := by decide +kernel
theorem dX10_customs_164 : decode cX10_customs 164 = .ok (.getfield 93, 3) := by decide +kernel
theorem dX10_customs_167 : decode cX10_customs 167 = .ok (.invokevirtual 113, 3) := by decide +kernel
theorem dX10_customs_170 : decode cX10_customs 170 = .ok (.istore_n 3, 1) := by decide +kernel
theorem dX10_customs_185 : decode cX10_customs 185 = .ok (.iload_n 3, 1) := by decide +kernel
theorem dX10_customs_186 : decode cX10_customs 186 = .ok (.bipush 8, 2) := by decide +kernel
theorem dX10_customs_188 : decode cX10_customs 188 = .ok (.if_icmp .ge 21, 3) := by decide +kernel
theorem dX10_customs_191 : decode cX10_customs 191 = .ok (.aload_n 0, 1) := by decide +kernel
theorem dX10_customs_192 : decode cX10_customs 192 = .ok (.getfield 13, 3) := by decide +kernel
theorem dX10_customs_195 : decode cX10_customs 195 = .ok (.iload_n 3, 1) := by decide +kernel
theorem dX10_customs_196 : decode cX10_customs 196 = .ok (.aload_n 0, 1) := by decide +kernel
theorem dX10_customs_197 : decode cX10_customs 197 = .ok (.getfield 16, 3) := by decide +kernel
theorem dX10_customs_200 : decode cX10_customs 200 = .ok (.iload_n 3, 1) := by decide +kernel
theorem dX10_customs_201 : decode cX10_customs 201 = .ok (.iaload, 1) := by decide +kernel
theorem dX10_customs_202 : decode cX10_customs 202 = .ok (.iastore, 1) := by decide +kernel
theorem dX10_customs_203 : decode cX10_customs 203 = .ok (.iinc 3 1, 3) := by decide +kernel
theorem dX10_customs_206 : decode cX10_customs 206 = .ok (.goto (-21), 3) := by decide +kernel
theorem dX10_customs_219 : decode cX10_customs 219 = .ok (.iload_n 3, 1) := by decide +kernel
theorem dX10_customs_220 : decode cX10_customs 220 = .ok (.bipush 8, 2) := by decide +kernel
theorem dX10_customs_222 : decode cX10_customs 222 = .ok (.if_icmp .ge 24, 3) := by decide +kernel
theorem dX10_customs_225 : decode cX10_customs 225 = .ok (.aload_n 0, 1) := by decide +kernel
theorem dX10_customs_226 : decode cX10_customs 226 = .ok (.getfield 19, 3) := by decide +kernel
theorem dX10_customs_229 : decode cX10_customs 229 = .ok (.iload_n 3, 1) := by decide +kernel
theorem dX10_customs_230 : decode cX10_customs 230 = .ok (.aload_n 0, 1) := by decide +kernel
theorem dX10_customs_231 : decode cX10_customs 231 = .ok (.getfield 19, 3) := by decide +kernel
theorem dX10_customs_234 : decode cX10_customs 234 = .ok (.bipush 12, 2) := by decide +kernel
theorem dX10_customs_236 : decode cX10_customs 236 = .ok (.iload_n 3, 1) := by decide +kernel
theorem dX10_customs_237 : decode cX10_customs 237 = .ok (.iadd, 1) := by decide +kernel
theorem dX10_customs_238 : decode cX10_customs 238 = .ok (.iaload, 1) := by decide +kernel
theorem dX10_customs_239 : decode cX10_customs 239 = .ok (.iastore, 1) := by decide +kernel
theorem dX10_customs_240 : decode cX10_customs 240 = .ok (.iinc 3 1, 3) := by decide +kernel
theorem dX10_customs_243 : decode cX10_customs 243 = .ok (.goto (-24), 3) := by decide +kernel
theorem dX10_customs_0 : decode cX10_customs 0 = .ok (.aload_n 0, 1) := by decide +kernel
theorem dX10_customs_1 : decode cX10_customs 1 = .ok (.iconst 0, 1) := by decide +kernel
theorem dX10_customs_2 : decode cX10_customs 2 = .ok (.putfield 78, 3) := by decide +kernel
theorem dX10_customs_5 : decode cX10_customs 5 = .ok (.iload_n 1, 1) := by decide +kernel
theorem dX10_customs_6 : decode cX10_customs 6 = .ok (.ifCond .lt 11, 3) := by decide +kernel
theorem dX10_customs_17 : decode cX10_customs 17 = .ok (.bipush (-2), 2) := by decide +kernel
theorem dX10_customs_19 : decode cX10_customs 19 = .ok (.ireturn, 1) := by decide +kernel
theorem dX10_customs_9 : decode cX10_customs 9 = .ok (.iload_n 1, 1) := by decide +kernel
theorem dX10_customs_10 : decode cX10_customs 10 = .ok (.aload_n 0, 1) := by decide +kernel
theorem dX10_customs_11 : decode cX10_customs 11 = .ok (.getfield 81, 3) := by decide +kernel
theorem dX10_customs_14 : decode cX10_customs 14 = .ok (.if_icmp .le 6, 3) := by decide +kernel
theorem dX10_customs_20 : decode cX10_customs 20 = .ok (.aload_n 0, 1) := by decide +kernel
theorem dX10_customs_21 : decode cX10_customs 21 = .ok (.iload_n 1, 1) := by decide +kernel
theorem dX10_customs_22 : decode cX10_customs 22 = .ok (.putfield 87, 3) := by decide +kernel
theorem dX10_customs_25 : decode cX10_customs 25 = .ok (.aload_n 0, 1) := by decide +kernel
theorem dX10_customs_26 : decode cX10_customs 26 = .ok (.iconst 0, 1) := by decide +kernel
theorem dX10_customs_27 : decode cX10_customs 27 = .ok (.putfield 81, 3) := by decide +kernel
theorem dX10_customs_30 : decode cX10_customs 30 = .ok (.aload_n 0, 1) := by decide +kernel
theorem dX10_customs_31 : decode cX10_customs 31 = .ok (.iconst 0, 1) := by decide +kernel
theorem dX10_customs_32 : decode cX10_customs 32 = .ok (.putfield 84, 3) := by decide +kernel
theorem dX10_customs_35 : decode cX10_customs 35 = .ok (.aload_n 0, 1) := by decide +kernel
theorem dX10_customs_36 : decode cX10_customs 36 = .ok (.iconst (-1), 1) := by decide +kernel
theorem dX10_customs_37 : decode cX10_customs 37 = .ok (.putfield 22, 3) := by decide +kernel
theorem dX10_customs_40 : decode cX10_customs 40 = .ok (.iconst 0, 1) := by decide +kernel
theorem dX10_customs_41 : decode cX10_customs 41 = .ok (.istore_n 2, 1) := by decide +kernel
theorem dX10_customs_61 : decode cX10_customs 61 = .ok (.aload_n 0, 1) := by decide +kernel
theorem dX10_customs_62 : decode cX10_customs 62 = .ok (.getfield 16, 3) := by decide +kernel
theorem dX10_customs_65 : decode cX10_customs 65 = .ok (.iconst 0, 1) := by decide +kernel
theorem dX10_customs_66 : decode cX10_customs 66 = .ok (.bipush 100, 2) := by decide +kernel
theorem dX10_customs_68 : decode cX10_customs 68 = .ok (.iastore, 1) := by decide +kernel
theorem dX10_customs_69 : decode cX10_customs 69 = .ok (.aload_n 0, 1) := by decide +kernel
theorem dX10_customs_70 : decode cX10_customs 70 = .ok (.getfield 16, 3) := by decide +kernel
theorem dX10_customs_73 : decode cX10_customs 73 = .ok (.iconst 1, 1) := by decide +kernel
theorem dX10_customs_74 : decode cX10_customs 74 = .ok (.iconst 1, 1) := by decide +kernel
theorem dX10_customs_75 : decode cX10_customs 75 = .ok (.iastore, 1) := by decide +kernel
theorem dX10_customs_76 : decode cX10_customs 76 = .ok (.aload_n 0, 1) := by decide +kernel
theorem dX10_customs_77 : decode cX10_customs 77 = .ok (.getfield 16, 3) := by decide +kernel
theorem dX10_customs_80 : decode cX10_customs 80 = .ok (.iconst 2, 1) := by decide +kernel
theorem dX10_customs_81 : decode cX10_customs 81 = .ok (.iconst 0, 1) := by decide +kernel
theorem dX10_customs_82 : decode cX10_customs 82 = .ok (.iastore, 1) := by decide +kernel
theorem dX10_customs_83 : decode cX10_customs 83 = .ok (.aload_n 0, 1) := by decide +kernel
theorem dX10_customs_84 : decode cX10_customs 84 = .ok (.getfield 16, 3) := by decide +kernel
theorem dX10_customs_87 : decode cX10_customs 87 = .ok (.iconst 3, 1) := by decide +kernel
theorem dX10_customs_88 : decode cX10_customs 88 = .ok (.iconst 0, 1) := by decide +kernel
theorem dX10_customs_89 : decode cX10_customs 89 = .ok (.iastore, 1) := by decide +kernel
theorem dX10_customs_90 : decode cX10_customs 90 = .ok (.aload_n 0, 1) := by decide +kernel
theorem dX10_customs_91 : decode cX10_customs 91 = .ok (.getfield 16, 3) := by decide +kernel
theorem dX10_customs_94 : decode cX10_customs 94 = .ok (.iconst 4, 1) := by decide +kernel
theorem dX10_customs_95 : decode cX10_customs 95 = .ok (.iconst 1, 1) := by decide +kernel
theorem dX10_customs_96 : decode cX10_customs 96 = .ok (.iastore, 1) := by decide +kernel
theorem dX10_customs_97 : decode cX10_customs 97 = .ok (.aload_n 0, 1) := by decide +kernel
theorem dX10_customs_98 : decode cX10_customs 98 = .ok (.getfield 16, 3) := by decide +kernel
theorem dX10_customs_101 : decode cX10_customs 101 = .ok (.iconst 5, 1) := by decide +kernel
theorem dX10_customs_102 : decode cX10_customs 102 = .ok (.bipush 99, 2) := by decide +kernel
theorem dX10_customs_104 : decode cX10_customs 104 = .ok (.iastore, 1) := by decide +kernel
theorem dX10_customs_105 : decode cX10_customs 105 = .ok (.aload_n 0, 1) := by decide +kernel
theorem dX10_customs_106 : decode cX10_customs 106 = .ok (.getfield 16, 3) := by decide +kernel
theorem dX10_customs_109 : decode cX10_customs 109 = .ok (.bipush 6, 2) := by decide +kernel
theorem dX10_customs_111 : decode cX10_customs 111 = .ok (.iconst 1, 1) := by decide +kernel
theorem dX10_customs_112 : decode cX10_customs 112 = .ok (.iastore, 1) := by decide +kernel
theorem dX10_customs_113 : decode cX10_customs 113 = .ok (.aload_n 0, 1) := by decide +kernel
theorem dX10_customs_114 : decode cX10_customs 114 = .ok (.getfield 16, 3) := by decide +kernel
theorem dX10_customs_117 : decode cX10_customs 117 = .ok (.bipush 7, 2) := by decide +kernel
theorem dX10_customs_119 : decode cX10_customs 119 = .ok (.iconst 0, 1) := by decide +kernel
theorem dX10_customs_120 : decode cX10_customs 120 = .ok (.iastore, 1) := by decide +kernel
theorem dX10_customs_121 : decode cX10_customs 121 = .ok (.aload_n 0, 1) := by decide +kernel
theorem dX10_customs_122 : decode cX10_customs 122 = .ok (.iconst 0, 1) := by decide +kernel
theorem dX10_customs_123 : decode cX10_customs 123 = .ok (.putfield 126, 3) := by decide +kernel
theorem dX10_customs_126 : decode cX10_customs 126 = .ok (.aload_n 0, 1) := by decide +kernel
theorem dX10_customs_127 : decode cX10_customs 127 = .ok (.iconst 0, 1) := by decide +kernel
theorem dX10_customs_128 : decode cX10_customs 128 = .ok (.putfield 90, 3) := by decide +kernel
theorem dX10_customs_131 : decode cX10_customs 131 = .ok (.iconst 0, 1) := by decide +kernel
theorem dX10_customs_132 : decode cX10_customs 132 = .ok (.istore_n 2, 1) := by decide +kernel
theorem dX10_customs_133 : decode cX10_customs 133 = .ok (.aload_n 0, 1) := by decide +kernel
theorem dX10_customs_134 : decode cX10_customs 134 = .ok (.invokevirtual 120, 3) := by decide +kernel
theorem dX10_customs_151 : decode cX10_customs 151 = .ok (.iconst (-1), 1) := by decide +kernel
theorem dX10_customs_152 : decode cX10_customs 152 = .ok (.ireturn, 1) := by decide +kernel
theorem dX10_customs_171 : decode cX10_customs 171 = .ok (.iconst (-1), 1) := by decide +kernel
theorem dX10_customs_172 : decode cX10_customs 172 = .ok (.ireturn, 1) := by decide +kernel
theorem dX10_customs_183 : decode cX10_customs 183 = .ok (.iconst 0, 1) := by decide +kernel
theorem dX10_customs_184 : decode cX10_customs 184 = .ok (.istore_n 3, 1) := by decide +kernel
theorem dX10_customs_209 : decode cX10_customs 209 = .ok (.aload_n 0, 1) := by decide +kernel
theorem dX10_customs_210 : decode cX10_customs 210 = .ok (.aload_n 0, 1) := by decide +kernel
theorem dX10_customs_211 : decode cX10_customs 211 = .ok (.getfield 126, 3) := by decide +kernel
theorem dX10_customs_214 : decode cX10_customs 214 = .ok (.putfield 143, 3) := by decide +kernel
theorem dX10_customs_217 : decode cX10_customs 217 = .ok (.iconst 0, 1) := by decide +kernel
theorem dX10_customs_218 : decode cX10_customs 218 = .ok (.istore_n 3, 1) := by decide +kernel
theorem dX10_customs_246 : decode cX10_customs 246 = .ok (.iload_n 2, 1) := by decide +kernel
theorem dX10_customs_247 : decode cX10_customs 247 = .ok (.ireturn, 1) := by decide +kernel
