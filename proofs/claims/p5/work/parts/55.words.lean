theorem dX10_hour_31 : decode cX10_hour 31 = .ok (.iload_n 2, 1) := by decide +kernel
theorem dX10_hour_32 : decode cX10_hour 32 = .ok (.bipush 100, 2) := by decide +kernel
theorem dX10_hour_34 : decode cX10_hour 34 = .ok (.if_icmp .ge 98, 3) := by decide +kernel
theorem dX10_hour_37 : decode cX10_hour 37 = .ok (.iload_n 2, 1) := by decide +kernel
theorem dX10_hour_38 : decode cX10_hour 38 = .ok (.bipush 10, 2) := by decide +kernel
theorem dX10_hour_40 : decode cX10_hour 40 = .ok (.irem, 1) := by decide +kernel
theorem dX10_hour_41 : decode cX10_hour 41 = .ok (.aload_n 0, 1) := by decide +kernel
theorem dX10_hour_42 : decode cX10_hour 42 = .ok (.getfield 26, 3) := by decide +kernel
theorem dX10_hour_45 : decode cX10_hour 45 = .ok (.if_icmp .ge 81, 3) := by decide +kernel
theorem dX10_hour_126 : decode cX10_hour 126 = .ok (.iinc 2 1, 3) := by decide +kernel
theorem dX10_hour_129 : decode cX10_hour 129 = .ok (.goto (-98), 3) := by decide +kernel
theorem dX10_hour_48 : decode cX10_hour 48 = .ok (.iload_n 2, 1) := by decide +kernel
theorem dX10_hour_49 : decode cX10_hour 49 = .ok (.bipush 10, 2) := by decide +kernel
theorem dX10_hour_51 : decode cX10_hour 51 = .ok (.idiv, 1) := by decide +kernel
theorem dX10_hour_52 : decode cX10_hour 52 = .ok (.aload_n 0, 1) := by decide +kernel
theorem dX10_hour_53 : decode cX10_hour 53 = .ok (.getfield 29, 3) := by decide +kernel
theorem dX10_hour_56 : decode cX10_hour 56 = .ok (.if_icmp .lt 6, 3) := by decide +kernel
theorem dX10_hour_62 : decode cX10_hour 62 = .ok (.aload_n 0, 1) := by decide +kernel
theorem dX10_hour_63 : decode cX10_hour 63 = .ok (.getfield 32, 3) := by decide +kernel
theorem dX10_hour_66 : decode cX10_hour 66 = .ok (.iload_n 2, 1) := by decide +kernel
theorem dX10_hour_67 : decode cX10_hour 67 = .ok (.iaload, 1) := by decide +kernel
theorem dX10_hour_68 : decode cX10_hour 68 = .ok (.aload_n 0, 1) := by decide +kernel
theorem dX10_hour_69 : decode cX10_hour 69 = .ok (.getfield 13, 3) := by decide +kernel
theorem dX10_hour_72 : decode cX10_hour 72 = .ok (.iconst 5, 1) := by decide +kernel
theorem dX10_hour_73 : decode cX10_hour 73 = .ok (.iaload, 1) := by decide +kernel
theorem dX10_hour_74 : decode cX10_hour 74 = .ok (.if_icmp .lt 10, 3) := by decide +kernel
theorem dX10_hour_84 : decode cX10_hour 84 = .ok (.iload_n 1, 1) := by decide +kernel
theorem dX10_hour_85 : decode cX10_hour 85 = .ok (.aload_n 0, 1) := by decide +kernel
theorem dX10_hour_86 : decode cX10_hour 86 = .ok (.iload_n 2, 1) := by decide +kernel
theorem kw_5_181 : Cond.methodLink RX10 186 yX10_fires ∈ gw := gw_t5 (List.mem_of_getElem? (i := 181) (by decide +kernel)) (by decide +kernel)
theorem kw_5_183 : Cond.instanceMethod yX10_fires ∈ gw := gw_t5 (List.mem_of_getElem? (i := 183) (by decide +kernel)) (by decide +kernel)
theorem ks_4_3 : Cond.selects RX10 yX10_fires yX10_fires ∈ gw := gw_s (y := yX10_fires) (n := 37) (List.mem_append_right _ (List.mem_append_right _ (List.mem_append_right _ (List.mem_of_getElem? (i := 3) (by decide +kernel)))))
theorem kw_5_184 : Cond.code yX10_fires cX10_fires 5 (some .int) ∈ gw := gw_t5 (List.mem_of_getElem? (i := 184) (by decide +kernel)) (by decide +kernel)
theorem gk_X10_186 : GoodIn gw (wsV RX10 186 RX10 yX10_fires (.code yX10_fires cX10_fires 5 (some .int) :: gw)) ∧ (yX10_fires.cls = RX10 ∧ yX10_fires.cls ≠ "java/lang/invoke/MethodHandle" ∧ yX10_fires.cls ≠ "java/lang/invoke/VarHandle" ∧ (parseMethodDescriptor yX10_fires.desc).map (fun d => d.parameters.length) = some 1) := ⟨gi_V kw_5_181 kw_5_183 ks_4_3 kw_1_11 kw_5_184, by decide +kernel⟩
theorem dX10_hour_87 : decode cX10_hour 87 = .ok (.invokevirtual 186, 3) := by decide +kernel
theorem dX10_hour_90 : decode cX10_hour 90 = .ok (.isub, 1) := by decide +kernel
theorem dX10_hour_91 : decode cX10_hour 91 = .ok (.istore_n 3, 1) := by decide +kernel
theorem dX10_hour_92 : decode cX10_hour 92 = .ok (.aload_n 0, 1) := by decide +kernel
theorem dX10_hour_93 : decode cX10_hour 93 = .ok (.getfield 32, 3) := by decide +kernel
theorem dX10_hour_96 : decode cX10_hour 96 = .ok (.iload_n 2, 1) := by decide +kernel
theorem dX10_hour_97 : decode cX10_hour 97 = .ok (.aload_n 0, 1) := by decide +kernel
theorem dX10_hour_98 : decode cX10_hour 98 = .ok (.getfield 32, 3) := by decide +kernel
theorem dX10_hour_101 : decode cX10_hour 101 = .ok (.iload_n 2, 1) := by decide +kernel
theorem dX10_hour_102 : decode cX10_hour 102 = .ok (.iaload, 1) := by decide +kernel
theorem dX10_hour_103 : decode cX10_hour 103 = .ok (.iload_n 3, 1) := by decide +kernel
theorem dX10_hour_104 : decode cX10_hour 104 = .ok (.iadd, 1) := by decide +kernel
theorem kw_5_185 : Cond.methodLink RX10 189 yX10_within ∈ gw := gw_t5 (List.mem_of_getElem? (i := 185) (by decide +kernel)) (by decide +kernel)
theorem kw_5_186 : Cond.static yX10_within ∈ gw := gw_t5 (List.mem_of_getElem? (i := 186) (by decide +kernel)) (by decide +kernel)
theorem kw_5_187 : Cond.code yX10_within cX10_within 1 (some .int) ∈ gw := gw_t5 (List.mem_of_getElem? (i := 187) (by decide +kernel)) (by decide +kernel)
theorem gk_X10_189 : GoodIn gw (wsS RX10 189 yX10_within (.code yX10_within cX10_within 1 (some .int) :: gw)) ∧ (yX10_within.cls = RX10 ∧ yX10_within.cls ≠ "java/lang/invoke/MethodHandle" ∧ yX10_within.cls ≠ "java/lang/invoke/VarHandle" ∧ (parseMethodDescriptor yX10_within.desc).map (fun d => d.parameters.length) = some 1) := ⟨gi_S kw_5_185 kw_5_186 kw_1_11 kw_5_187, by decide +kernel⟩
theorem dX10_hour_105 : decode cX10_hour 105 = .ok (.invokestatic 189, 3) := by decide +kernel
theorem dX10_hour_108 : decode cX10_hour 108 = .ok (.iastore, 1) := by decide +kernel
theorem dX10_hour_109 : decode cX10_hour 109 = .ok (.aload_n 0, 1) := by decide +kernel
theorem dX10_hour_110 : decode cX10_hour 110 = .ok (.getfield 35, 3) := by decide +kernel
theorem dX10_hour_113 : decode cX10_hour 113 = .ok (.iload_n 2, 1) := by decide +kernel
theorem dX10_hour_114 : decode cX10_hour 114 = .ok (.aload_n 0, 1) := by decide +kernel
theorem dX10_hour_115 : decode cX10_hour 115 = .ok (.getfield 35, 3) := by decide +kernel
theorem dX10_hour_118 : decode cX10_hour 118 = .ok (.iload_n 2, 1) := by decide +kernel
theorem dX10_hour_119 : decode cX10_hour 119 = .ok (.iaload, 1) := by decide +kernel
theorem dX10_hour_120 : decode cX10_hour 120 = .ok (.iload_n 3, 1) := by decide +kernel
theorem dX10_hour_121 : decode cX10_hour 121 = .ok (.iadd, 1) := by decide +kernel
theorem dX10_hour_122 : decode cX10_hour 122 = .ok (.invokestatic 189, 3) := by decide +kernel
theorem dX10_hour_125 : decode cX10_hour 125 = .ok (.iastore, 1) := by decide +kernel
theorem dX10_hour_77 : decode cX10_hour 77 = .ok (.aload_n 0, 1) := by decide +kernel
theorem dX10_hour_78 : decode cX10_hour 78 = .ok (.getfield 38, 3) := by decide +kernel
theorem dX10_hour_81 : decode cX10_hour 81 = .ok (.iload_n 2, 1) := by decide +kernel
theorem dX10_hour_82 : decode cX10_hour 82 = .ok (.iconst 0, 1) := by decide +kernel
theorem dX10_hour_83 : decode cX10_hour 83 = .ok (.bastore, 1) := by decide +kernel
theorem dX10_hour_59 : decode cX10_hour 59 = .ok (.goto 67, 3) := by decide +kernel
theorem dX10_hour_145 : decode cX10_hour 145 = .ok (.iload 4, 2) := by decide +kernel
theorem dX10_hour_147 : decode cX10_hour 147 = .ok (.bipush 100, 2) := by decide +kernel
theorem dX10_hour_149 : decode cX10_hour 149 = .ok (.if_icmp .ge 100, 3) := by decide +kernel
theorem dX10_hour_152 : decode cX10_hour 152 = .ok (.aload_n 0, 1) := by decide +kernel
theorem dX10_hour_153 : decode cX10_hour 153 = .ok (.getfield 63, 3) := by decide +kernel
theorem dX10_hour_156 : decode cX10_hour 156 = .ok (.iload 4, 2) := by decide +kernel
theorem dX10_hour_158 : decode cX10_hour 158 = .ok (.iload 4, 2) := by decide +kernel
theorem dX10_hour_160 : decode cX10_hour 160 = .ok (.bipush 10, 2) := by decide +kernel
theorem dX10_hour_162 : decode cX10_hour 162 = .ok (.irem, 1) := by decide +kernel
theorem dX10_hour_163 : decode cX10_hour 163 = .ok (.aload_n 0, 1) := by decide +kernel
theorem dX10_hour_164 : decode cX10_hour 164 = .ok (.getfield 26, 3) := by decide +kernel
theorem dX10_hour_167 : decode cX10_hour 167 = .ok (.if_icmp .ge 54, 3) := by decide +kernel
theorem dX10_hour_221 : decode cX10_hour 221 = .ok (.iconst 0, 1) := by decide +kernel
theorem dX10_hour_222 : decode cX10_hour 222 = .ok (.bastore, 1) := by decide +kernel
theorem dX10_hour_223 : decode cX10_hour 223 = .ok (.iload_n 3, 1) := by decide +kernel
theorem dX10_hour_224 : decode cX10_hour 224 = .ok (.ifCond .ne 13, 3) := by decide +kernel
theorem dX10_hour_237 : decode cX10_hour 237 = .ok (.iconst 1, 1) := by decide +kernel
theorem dX10_hour_238 : decode cX10_hour 238 = .ok (.goto 4, 3) := by decide +kernel
theorem dX10_hour_242 : decode cX10_hour 242 = .ok (.istore_n 3, 1) := by decide +kernel
theorem dX10_hour_243 : decode cX10_hour 243 = .ok (.iinc 4 1, 3) := by decide +kernel
theorem dX10_hour_246 : decode cX10_hour 246 = .ok (.goto (-101), 3) := by decide +kernel
theorem dX10_hour_227 : decode cX10_hour 227 = .ok (.aload_n 0, 1) := by decide +kernel
theorem dX10_hour_228 : decode cX10_hour 228 = .ok (.getfield 63, 3) := by decide +kernel
theorem dX10_hour_231 : decode cX10_hour 231 = .ok (.iload 4, 2) := by decide +kernel
theorem dX10_hour_233 : decode cX10_hour 233 = .ok (.baload, 1) := by decide +kernel
theorem dX10_hour_234 : decode cX10_hour 234 = .ok (.ifCond .eq 7, 3) := by decide +kernel
theorem dX10_hour_241 : decode cX10_hour 241 = .ok (.iconst 0, 1) := by decide +kernel
theorem dX10_hour_170 : decode cX10_hour 170 = .ok (.iload 4, 2) := by decide +kernel
theorem dX10_hour_172 : decode cX10_hour 172 = .ok (.bipush 10, 2) := by decide +kernel
theorem dX10_hour_174 : decode cX10_hour 174 = .ok (.idiv, 1) := by decide +kernel
theorem dX10_hour_175 : decode cX10_hour 175 = .ok (.aload_n 0, 1) := by decide +kernel
theorem dX10_hour_176 : decode cX10_hour 176 = .ok (.getfield 29, 3) := by decide +kernel
theorem dX10_hour_179 : decode cX10_hour 179 = .ok (.if_icmp .ge 42, 3) := by decide +kernel
theorem dX10_hour_182 : decode cX10_hour 182 = .ok (.aload_n 0, 1) := by decide +kernel
theorem dX10_hour_183 : decode cX10_hour 183 = .ok (.getfield 38, 3) := by decide +kernel
theorem dX10_hour_186 : decode cX10_hour 186 = .ok (.iload 4, 2) := by decide +kernel
theorem dX10_hour_188 : decode cX10_hour 188 = .ok (.baload, 1) := by decide +kernel
theorem dX10_hour_189 : decode cX10_hour 189 = .ok (.ifCond .ne 32, 3) := by decide +kernel
theorem dX10_hour_192 : decode cX10_hour 192 = .ok (.aload_n 0, 1) := by decide +kernel
theorem dX10_hour_193 : decode cX10_hour 193 = .ok (.getfield 35, 3) := by decide +kernel
theorem dX10_hour_196 : decode cX10_hour 196 = .ok (.iload 4, 2) := by decide +kernel
theorem dX10_hour_198 : decode cX10_hour 198 = .ok (.iaload, 1) := by decide +kernel
theorem dX10_hour_199 : decode cX10_hour 199 = .ok (.ifCond .eq 18, 3) := by decide +kernel
theorem dX10_hour_217 : decode cX10_hour 217 = .ok (.iconst 1, 1) := by decide +kernel
theorem dX10_hour_218 : decode cX10_hour 218 = .ok (.goto 4, 3) := by decide +kernel
theorem dX10_hour_202 : decode cX10_hour 202 = .ok (.aload_n 0, 1) := by decide +kernel
theorem dX10_hour_203 : decode cX10_hour 203 = .ok (.iload 4, 2) := by decide +kernel
theorem dX10_hour_205 : decode cX10_hour 205 = .ok (.invokevirtual 165, 3) := by decide +kernel
theorem dX10_hour_208 : decode cX10_hour 208 = .ok (.aload_n 0, 1) := by decide +kernel
theorem dX10_hour_209 : decode cX10_hour 209 = .ok (.iload 4, 2) := by decide +kernel
theorem dX10_hour_211 : decode cX10_hour 211 = .ok (.invokevirtual 168, 3) := by decide +kernel
theorem dX10_hour_214 : decode cX10_hour 214 = .ok (.if_icmp .le 7, 3) := by decide +kernel
theorem dX10_hour_252 : decode cX10_hour 252 = .ok (.iload 4, 2) := by decide +kernel
theorem dX10_hour_254 : decode cX10_hour 254 = .ok (.bipush 100, 2) := by decide +kernel
theorem dX10_hour_256 : decode cX10_hour 256 = .ok (.if_icmp .ge 57, 3) := by decide +kernel
theorem dX10_hour_259 : decode cX10_hour 259 = .ok (.aload_n 0, 1) := by decide +kernel
theorem dX10_hour_260 : decode cX10_hour 260 = .ok (.getfield 63, 3) := by decide +kernel
theorem dX10_hour_263 : decode cX10_hour 263 = .ok (.iload 4, 2) := by decide +kernel
theorem dX10_hour_265 : decode cX10_hour 265 = .ok (.baload, 1) := by decide +kernel
theorem dX10_hour_266 : decode cX10_hour 266 = .ok (.ifCond .ne 6, 3) := by decide +kernel
theorem dX10_hour_272 : decode cX10_hour 272 = .ok (.aload_n 0, 1) := by decide +kernel
theorem dX10_hour_273 : decode cX10_hour 273 = .ok (.getfield 38, 3) := by decide +kernel
theorem dX10_hour_276 : decode cX10_hour 276 = .ok (.iload 4, 2) := by decide +kernel
theorem dX10_hour_278 : decode cX10_hour 278 = .ok (.iconst 1, 1) := by decide +kernel
theorem dX10_hour_279 : decode cX10_hour 279 = .ok (.bastore, 1) := by decide +kernel
theorem dX10_hour_280 : decode cX10_hour 280 = .ok (.aload_n 0, 1) := by decide +kernel
theorem dX10_hour_281 : decode cX10_hour 281 = .ok (.iload 4, 2) := by decide +kernel
theorem dX10_hour_283 : decode cX10_hour 283 = .ok (.invokevirtual 177, 3) := by decide +kernel
theorem dX10_hour_286 : decode cX10_hour 286 = .ok (.istore 5, 2) := by decide +kernel
theorem dX10_hour_288 : decode cX10_hour 288 = .ok (.iload 5, 2) := by decide +kernel
theorem dX10_hour_290 : decode cX10_hour 290 = .ok (.ifCond .ge 6, 3) := by decide +kernel
theorem dX10_hour_296 : decode cX10_hour 296 = .ok (.aload_n 0, 1) := by decide +kernel
theorem dX10_hour_297 : decode cX10_hour 297 = .ok (.getfield 51, 3) := by decide +kernel
theorem dX10_hour_300 : decode cX10_hour 300 = .ok (.iload 5, 2) := by decide +kernel
theorem dX10_hour_302 : decode cX10_hour 302 = .ok (.iconst 2, 1) := by decide +kernel
theorem dX10_hour_303 : decode cX10_hour 303 = .ok (.iastore, 1) := by decide +kernel
theorem dX10_hour_304 : decode cX10_hour 304 = .ok (.iinc 2 1, 3) := by decide +kernel
theorem dX10_hour_307 : decode cX10_hour 307 = .ok (.iinc 4 1, 3) := by decide +kernel
theorem dX10_hour_310 : decode cX10_hour 310 = .ok (.goto (-58), 3) := by decide +kernel
theorem dX10_hour_293 : decode cX10_hour 293 = .ok (.goto 14, 3) := by decide +kernel
theorem dX10_hour_269 : decode cX10_hour 269 = .ok (.goto 38, 3) := by decide +kernel
theorem dX10_hour_136 : decode cX10_hour 136 = .ok (.iload_n 3, 1) := by decide +kernel
theorem dX10_hour_137 : decode cX10_hour 137 = .ok (.ifCond .eq 179, 3) := by decide +kernel
theorem dX10_hour_140 : decode cX10_hour 140 = .ok (.iconst 0, 1) := by decide +kernel
theorem dX10_hour_141 : decode cX10_hour 141 = .ok (.istore_n 3, 1) := by decide +kernel
theorem dX10_hour_142 : decode cX10_hour 142 = .ok (.iconst 0, 1) := by decide +kernel
theorem dX10_hour_143 : decode cX10_hour 143 = .ok (.istore 4, 2) := by decide +kernel
theorem dX10_hour_249 : decode cX10_hour 249 = .ok (.iconst 0, 1) := by decide +kernel
theorem dX10_hour_250 : decode cX10_hour 250 = .ok (.istore 4, 2) := by decide +kernel
theorem dX10_hour_313 : decode cX10_hour 313 = .ok (.goto (-177), 3) := by decide +kernel
theorem dX10_hour_0 : decode cX10_hour 0 = .ok (.aload_n 0, 1) := by decide +kernel
theorem dX10_hour_1 : decode cX10_hour 1 = .ok (.iconst 0, 1) := by decide +kernel
theorem dX10_hour_2 : decode cX10_hour 2 = .ok (.putfield 78, 3) := by decide +kernel
theorem dX10_hour_5 : decode cX10_hour 5 = .ok (.iload_n 1, 1) := by decide +kernel
theorem dX10_hour_6 : decode cX10_hour 6 = .ok (.bipush (-9), 2) := by decide +kernel
theorem dX10_hour_8 : decode cX10_hour 8 = .ok (.if_icmp .lt 9, 3) := by decide +kernel
theorem dX10_hour_17 : decode cX10_hour 17 = .ok (.iconst (-1), 1) := by decide +kernel
theorem dX10_hour_18 : decode cX10_hour 18 = .ok (.ireturn, 1) := by decide +kernel
theorem dX10_hour_11 : decode cX10_hour 11 = .ok (.iload_n 1, 1) := by decide +kernel
theorem dX10_hour_12 : decode cX10_hour 12 = .ok (.bipush 9, 2) := by decide +kernel
theorem dX10_hour_14 : decode cX10_hour 14 = .ok (.if_icmp .le 5, 3) := by decide +kernel
theorem dX10_hour_19 : decode cX10_hour 19 = .ok (.aload_n 0, 1) := by decide +kernel
theorem dX10_hour_20 : decode cX10_hour 20 = .ok (.dup, 1) := by decide +kernel
theorem dX10_hour_21 : decode cX10_hour 21 = .ok (.getfield 149, 3) := by decide +kernel
theorem dX10_hour_24 : decode cX10_hour 24 = .ok (.iconst 1, 1) := by decide +kernel
theorem dX10_hour_25 : decode cX10_hour 25 = .ok (.iadd, 1) := by decide +kernel
theorem dX10_hour_26 : decode cX10_hour 26 = .ok (.putfield 149, 3) := by decide +kernel
theorem dX10_hour_29 : decode cX10_hour 29 = .ok (.iconst 0, 1) := by decide +kernel
theorem dX10_hour_30 : decode cX10_hour 30 = .ok (.istore_n 2, 1) := by decide +kernel
theorem dX10_hour_132 : decode cX10_hour 132 = .ok (.iconst 0, 1) := by decide +kernel
theorem dX10_hour_133 : decode cX10_hour 133 = .ok (.istore_n 2, 1) := by decide +kernel
theorem dX10_hour_134 : decode cX10_hour 134 = .ok (.iconst 1, 1) := by decide +kernel
theorem dX10_hour_135 : decode cX10_hour 135 = .ok (.istore_n 3, 1) := by decide +kernel
theorem dX10_hour_316 : decode cX10_hour 316 = .ok (.iload_n 2, 1) := by decide +kernel
theorem dX10_hour_317 : decode cX10_hour 317 = .ok (.ireturn, 1) := by decide +kernel
theorem dX10_lay_14 : decode cX10_lay 14 = .ok (.iload_n 2, 1) := by decide +kernel
theorem dX10_lay_15 : decode cX10_lay 15 = .ok (.aload_n 0, 1) := by decide +kernel
theorem dX10_lay_16 : decode cX10_lay 16 = .ok (.getfield 146, 3) := by decide +kernel
theorem dX10_lay_19 : decode cX10_lay 19 = .ok (.if_icmp .ge 31, 3) := by decide +kernel
theorem dX10_lay_22 : decode cX10_lay 22 = .ok (.aload_n 0, 1) := by decide +kernel
theorem dX10_lay_23 : decode cX10_lay 23 = .ok (.getfield 51, 3) := by decide +kernel
theorem dX10_lay_26 : decode cX10_lay 26 = .ok (.iload_n 2, 1) := by decide +kernel
theorem dX10_lay_27 : decode cX10_lay 27 = .ok (.iaload, 1) := by decide +kernel
theorem dX10_lay_28 : decode cX10_lay 28 = .ok (.ifCond .eq 6, 3) := by decide +kernel
theorem dX10_lay_34 : decode cX10_lay 34 = .ok (.aload_n 0, 1) := by decide +kernel
theorem dX10_lay_35 : decode cX10_lay 35 = .ok (.getfield 66, 3) := by decide +kernel
theorem dX10_lay_38 : decode cX10_lay 38 = .ok (.iload_n 1, 1) := by decide +kernel
theorem dX10_lay_39 : decode cX10_lay 39 = .ok (.iload_n 2, 1) := by decide +kernel
theorem dX10_lay_40 : decode cX10_lay 40 = .ok (.iastore, 1) := by decide +kernel
theorem dX10_lay_41 : decode cX10_lay 41 = .ok (.iinc 1 1, 3) := by decide +kernel
theorem dX10_lay_44 : decode cX10_lay 44 = .ok (.iinc 2 1, 3) := by decide +kernel
theorem dX10_lay_47 : decode cX10_lay 47 = .ok (.goto (-33), 3) := by decide +kernel
theorem dX10_lay_31 : decode cX10_lay 31 = .ok (.goto 13, 3) := by decide +kernel
theorem dX10_lay_92 : decode cX10_lay 92 = .ok (.iload 4, 2) := by decide +kernel
theorem dX10_lay_94 : decode cX10_lay 94 = .ok (.bipush 100, 2) := by decide +kernel
theorem dX10_lay_96 : decode cX10_lay 96 = .ok (.if_icmp .ge 123, 3) := by decide +kernel
theorem dX10_lay_99 : decode cX10_lay 99 = .ok (.iload_n 3, 1) := by decide +kernel
theorem dX10_lay_100 : decode cX10_lay 100 = .ok (.ifCond .ne 119, 3) := by decide +kernel
theorem dX10_lay_103 : decode cX10_lay 103 = .ok (.iload 4, 2) := by decide +kernel
theorem dX10_lay_105 : decode cX10_lay 105 = .ok (.bipush 10, 2) := by decide +kernel
theorem dX10_lay_107 : decode cX10_lay 107 = .ok (.irem, 1) := by decide +kernel
theorem dX10_lay_108 : decode cX10_lay 108 = .ok (.aload_n 0, 1) := by decide +kernel
theorem dX10_lay_109 : decode cX10_lay 109 = .ok (.getfield 26, 3) := by decide +kernel
theorem dX10_lay_112 : decode cX10_lay 112 = .ok (.if_icmp .ge 97, 3) := by decide +kernel
theorem dX10_lay_209 : decode cX10_lay 209 = .ok (.iload_n 3, 1) := by decide +kernel
theorem dX10_lay_210 : decode cX10_lay 210 = .ok (.ifCond .ne (-118), 3) := by decide +kernel
theorem dX10_lay_213 : decode cX10_lay 213 = .ok (.iinc 4 1, 3) := by decide +kernel
theorem dX10_lay_216 : decode cX10_lay 216 = .ok (.goto (-124), 3) := by decide +kernel
theorem dX10_lay_115 : decode cX10_lay 115 = .ok (.iload 4, 2) := by decide +kernel
theorem dX10_lay_117 : decode cX10_lay 117 = .ok (.bipush 10, 2) := by decide +kernel
theorem dX10_lay_119 : decode cX10_lay 119 = .ok (.idiv, 1) := by decide +kernel
theorem dX10_lay_120 : decode cX10_lay 120 = .ok (.aload_n 0, 1) := by decide +kernel
theorem dX10_lay_121 : decode cX10_lay 121 = .ok (.getfield 29, 3) := by decide +kernel
theorem dX10_lay_124 : decode cX10_lay 124 = .ok (.if_icmp .ge 85, 3) := by decide +kernel
theorem dX10_lay_127 : decode cX10_lay 127 = .ok (.aload_n 0, 1) := by decide +kernel
theorem dX10_lay_128 : decode cX10_lay 128 = .ok (.iload 4, 2) := by decide +kernel
theorem dX10_lay_130 : decode cX10_lay 130 = .ok (.invokevirtual 174, 3) := by decide +kernel
theorem dX10_lay_133 : decode cX10_lay 133 = .ok (.ifCond .eq 76, 3) := by decide +kernel
theorem dX10_lay_136 : decode cX10_lay 136 = .ok (.aload_n 0, 1) := by decide +kernel
theorem dX10_lay_137 : decode cX10_lay 137 = .ok (.iload 4, 2) := by decide +kernel
theorem dX10_lay_139 : decode cX10_lay 139 = .ok (.invokevirtual 177, 3) := by decide +kernel
theorem dX10_lay_142 : decode cX10_lay 142 = .ok (.ifCond .ge 67, 3) := by decide +kernel
theorem dX10_lay_145 : decode cX10_lay 145 = .ok (.aload_n 0, 1) := by decide +kernel
theorem kw_4_218 : Cond.fieldLink RX10 192 "IceFairModel" "looks" "I" ∈ gw := gw_t4 (List.mem_of_getElem? (i := 218) (by decide +kernel)) (by decide +kernel)
theorem dX10_lay_146 : decode cX10_lay 146 = .ok (.getfield 192, 3) := by decide +kernel
theorem dX10_lay_149 : decode cX10_lay 149 = .ok (.sipush 20000, 3) := by decide +kernel
theorem dX10_lay_152 : decode cX10_lay 152 = .ok (.if_icmp .ne 34, 3) := by decide +kernel
theorem dX10_lay_186 : decode cX10_lay 186 = .ok (.aload_n 0, 1) := by decide +kernel
theorem dX10_lay_187 : decode cX10_lay 187 = .ok (.dup, 1) := by decide +kernel
theorem dX10_lay_188 : decode cX10_lay 188 = .ok (.getfield 192, 3) := by decide +kernel
theorem dX10_lay_191 : decode cX10_lay 191 = .ok (.iconst 1, 1) := by decide +kernel
theorem dX10_lay_192 : decode cX10_lay 192 = .ok (.iadd, 1) := by decide +kernel
theorem dX10_lay_193 : decode cX10_lay 193 = .ok (.putfield 192, 3) := by decide +kernel
theorem dX10_lay_196 : decode cX10_lay 196 = .ok (.aload_n 0, 1) := by decide +kernel
theorem dX10_lay_197 : decode cX10_lay 197 = .ok (.aload_n 0, 1) := by decide +kernel
theorem dX10_lay_198 : decode cX10_lay 198 = .ok (.getfield 66, 3) := by decide +kernel
theorem dX10_lay_201 : decode cX10_lay 201 = .ok (.iload_n 2, 1) := by decide +kernel
theorem dX10_lay_202 : decode cX10_lay 202 = .ok (.iaload, 1) := by decide +kernel
theorem dX10_lay_203 : decode cX10_lay 203 = .ok (.iload 4, 2) := by decide +kernel
theorem dX10_lay_205 : decode cX10_lay 205 = .ok (.invokevirtual 180, 3) := by decide +kernel
theorem dX10_lay_208 : decode cX10_lay 208 = .ok (.istore_n 3, 1) := by decide +kernel
theorem dX10_lay_59 : decode cX10_lay 59 = .ok (.iload_n 2, 1) := by decide +kernel
theorem dX10_lay_60 : decode cX10_lay 60 = .ok (.ifCond .lt 220, 3) := by decide +kernel
theorem dX10_lay_63 : decode cX10_lay 63 = .ok (.iload_n 2, 1) := by decide +kernel
theorem dX10_lay_64 : decode cX10_lay 64 = .ok (.iload_n 1, 1) := by decide +kernel
theorem dX10_lay_65 : decode cX10_lay 65 = .ok (.if_icmp .ge 215, 3) := by decide +kernel
theorem dX10_lay_68 : decode cX10_lay 68 = .ok (.aload_n 0, 1) := by decide +kernel
theorem dX10_lay_69 : decode cX10_lay 69 = .ok (.getfield 51, 3) := by decide +kernel
theorem dX10_lay_72 : decode cX10_lay 72 = .ok (.aload_n 0, 1) := by decide +kernel
theorem dX10_lay_73 : decode cX10_lay 73 = .ok (.getfield 66, 3) := by decide +kernel
theorem dX10_lay_76 : decode cX10_lay 76 = .ok (.iload_n 2, 1) := by decide +kernel
theorem dX10_lay_77 : decode cX10_lay 77 = .ok (.iaload, 1) := by decide +kernel
theorem dX10_lay_78 : decode cX10_lay 78 = .ok (.iconst 0, 1) := by decide +kernel
theorem dX10_lay_79 : decode cX10_lay 79 = .ok (.iastore, 1) := by decide +kernel
theorem dX10_lay_80 : decode cX10_lay 80 = .ok (.iconst 0, 1) := by decide +kernel
theorem dX10_lay_81 : decode cX10_lay 81 = .ok (.istore_n 3, 1) := by decide +kernel
theorem dX10_lay_82 : decode cX10_lay 82 = .ok (.aload_n 0, 1) := by decide +kernel
theorem dX10_lay_83 : decode cX10_lay 83 = .ok (.getfield 69, 3) := by decide +kernel
theorem dX10_lay_86 : decode cX10_lay 86 = .ok (.iload_n 2, 1) := by decide +kernel
theorem dX10_lay_87 : decode cX10_lay 87 = .ok (.iaload, 1) := by decide +kernel
theorem dX10_lay_88 : decode cX10_lay 88 = .ok (.iconst 1, 1) := by decide +kernel
theorem dX10_lay_89 : decode cX10_lay 89 = .ok (.iadd, 1) := by decide +kernel
theorem dX10_lay_90 : decode cX10_lay 90 = .ok (.istore 4, 2) := by decide +kernel
theorem dX10_lay_219 : decode cX10_lay 219 = .ok (.iload_n 3, 1) := by decide +kernel
theorem dX10_lay_220 : decode cX10_lay 220 = .ok (.ifCond .eq 54, 3) := by decide +kernel
theorem dX10_lay_274 : decode cX10_lay 274 = .ok (.iinc 2 (-1), 3) := by decide +kernel
theorem dX10_lay_277 : decode cX10_lay 277 = .ok (.goto (-218), 3) := by decide +kernel
theorem dX10_lay_223 : decode cX10_lay 223 = .ok (.aload_n 0, 1) := by decide +kernel
theorem dX10_lay_224 : decode cX10_lay 224 = .ok (.getfield 69, 3) := by decide +kernel
theorem dX10_lay_227 : decode cX10_lay 227 = .ok (.iload_n 2, 1) := by decide +kernel
theorem dX10_lay_228 : decode cX10_lay 228 = .ok (.iload 4, 2) := by decide +kernel
theorem dX10_lay_230 : decode cX10_lay 230 = .ok (.iastore, 1) := by decide +kernel
theorem dX10_lay_231 : decode cX10_lay 231 = .ok (.aload_n 0, 1) := by decide +kernel
theorem dX10_lay_232 : decode cX10_lay 232 = .ok (.getfield 51, 3) := by decide +kernel
theorem dX10_lay_235 : decode cX10_lay 235 = .ok (.aload_n 0, 1) := by decide +kernel
theorem dX10_lay_236 : decode cX10_lay 236 = .ok (.getfield 66, 3) := by decide +kernel
theorem dX10_lay_239 : decode cX10_lay 239 = .ok (.iload_n 2, 1) := by decide +kernel
theorem dX10_lay_240 : decode cX10_lay 240 = .ok (.iaload, 1) := by decide +kernel
theorem dX10_lay_241 : decode cX10_lay 241 = .ok (.iconst 1, 1) := by decide +kernel
theorem dX10_lay_242 : decode cX10_lay 242 = .ok (.iastore, 1) := by decide +kernel
theorem dX10_lay_243 : decode cX10_lay 243 = .ok (.aload_n 0, 1) := by decide +kernel
theorem dX10_lay_244 : decode cX10_lay 244 = .ok (.getfield 54, 3) := by decide +kernel
theorem dX10_lay_247 : decode cX10_lay 247 = .ok (.aload_n 0, 1) := by decide +kernel
theorem dX10_lay_248 : decode cX10_lay 248 = .ok (.getfield 66, 3) := by decide +kernel
theorem dX10_lay_251 : decode cX10_lay 251 = .ok (.iload_n 2, 1) := by decide +kernel
theorem dX10_lay_252 : decode cX10_lay 252 = .ok (.iaload, 1) := by decide +kernel
theorem dX10_lay_253 : decode cX10_lay 253 = .ok (.iload 4, 2) := by decide +kernel
theorem dX10_lay_255 : decode cX10_lay 255 = .ok (.iastore, 1) := by decide +kernel
theorem dX10_lay_256 : decode cX10_lay 256 = .ok (.iinc 2 1, 3) := by decide +kernel
theorem dX10_lay_259 : decode cX10_lay 259 = .ok (.iload_n 2, 1) := by decide +kernel
theorem dX10_lay_260 : decode cX10_lay 260 = .ok (.iload_n 1, 1) := by decide +kernel
theorem dX10_lay_261 : decode cX10_lay 261 = .ok (.if_icmp .ge 16, 3) := by decide +kernel
theorem dX10_lay_264 : decode cX10_lay 264 = .ok (.aload_n 0, 1) := by decide +kernel
theorem dX10_lay_265 : decode cX10_lay 265 = .ok (.getfield 69, 3) := by decide +kernel
theorem dX10_lay_268 : decode cX10_lay 268 = .ok (.iload_n 2, 1) := by decide +kernel
theorem dX10_lay_269 : decode cX10_lay 269 = .ok (.iconst (-1), 1) := by decide +kernel
theorem dX10_lay_270 : decode cX10_lay 270 = .ok (.iastore, 1) := by decide +kernel
theorem dX10_lay_271 : decode cX10_lay 271 = .ok (.goto 6, 3) := by decide +kernel
theorem dX10_lay_158 : decode cX10_lay 158 = .ok (.iload 5, 2) := by decide +kernel
theorem dX10_lay_160 : decode cX10_lay 160 = .ok (.iload_n 1, 1) := by decide +kernel
theorem dX10_lay_161 : decode cX10_lay 161 = .ok (.if_icmp .ge 22, 3) := by decide +kernel
theorem dX10_lay_164 : decode cX10_lay 164 = .ok (.aload_n 0, 1) := by decide +kernel
theorem dX10_lay_165 : decode cX10_lay 165 = .ok (.getfield 51, 3) := by decide +kernel
theorem dX10_lay_168 : decode cX10_lay 168 = .ok (.aload_n 0, 1) := by decide +kernel
theorem dX10_lay_169 : decode cX10_lay 169 = .ok (.getfield 66, 3) := by decide +kernel
theorem dX10_lay_172 : decode cX10_lay 172 = .ok (.iload 5, 2) := by decide +kernel
theorem dX10_lay_174 : decode cX10_lay 174 = .ok (.iaload, 1) := by decide +kernel
theorem dX10_lay_175 : decode cX10_lay 175 = .ok (.iconst 0, 1) := by decide +kernel
theorem dX10_lay_176 : decode cX10_lay 176 = .ok (.iastore, 1) := by decide +kernel
theorem dX10_lay_177 : decode cX10_lay 177 = .ok (.iinc 5 1, 3) := by decide +kernel
theorem dX10_lay_180 : decode cX10_lay 180 = .ok (.goto (-22), 3) := by decide +kernel
theorem dX10_lay_288 : decode cX10_lay 288 = .ok (.iload_n 3, 1) := by decide +kernel
theorem dX10_lay_289 : decode cX10_lay 289 = .ok (.iload_n 1, 1) := by decide +kernel
theorem dX10_lay_290 : decode cX10_lay 290 = .ok (.if_icmp .ge 28, 3) := by decide +kernel
theorem dX10_lay_293 : decode cX10_lay 293 = .ok (.aload_n 0, 1) := by decide +kernel
theorem dX10_lay_294 : decode cX10_lay 294 = .ok (.dup, 1) := by decide +kernel
theorem dX10_lay_295 : decode cX10_lay 295 = .ok (.getfield 152, 3) := by decide +kernel
theorem dX10_lay_298 : decode cX10_lay 298 = .ok (.aload_n 0, 1) := by decide +kernel
theorem dX10_lay_299 : decode cX10_lay 299 = .ok (.aload_n 0, 1) := by decide +kernel
theorem dX10_lay_300 : decode cX10_lay 300 = .ok (.getfield 66, 3) := by decide +kernel
theorem dX10_lay_303 : decode cX10_lay 303 = .ok (.iload_n 3, 1) := by decide +kernel
theorem dX10_lay_304 : decode cX10_lay 304 = .ok (.iaload, 1) := by decide +kernel
theorem dX10_lay_305 : decode cX10_lay 305 = .ok (.invokevirtual 183, 3) := by decide +kernel
theorem dX10_lay_308 : decode cX10_lay 308 = .ok (.iadd, 1) := by decide +kernel
theorem dX10_lay_309 : decode cX10_lay 309 = .ok (.putfield 152, 3) := by decide +kernel
theorem dX10_lay_312 : decode cX10_lay 312 = .ok (.iinc 3 1, 3) := by decide +kernel
theorem dX10_lay_315 : decode cX10_lay 315 = .ok (.goto (-27), 3) := by decide +kernel
theorem dX10_lay_0 : decode cX10_lay 0 = .ok (.aload_n 0, 1) := by decide +kernel
theorem dX10_lay_1 : decode cX10_lay 1 = .ok (.iconst 0, 1) := by decide +kernel
theorem dX10_lay_2 : decode cX10_lay 2 = .ok (.putfield 78, 3) := by decide +kernel
theorem dX10_lay_5 : decode cX10_lay 5 = .ok (.aload_n 0, 1) := by decide +kernel
theorem dX10_lay_6 : decode cX10_lay 6 = .ok (.iconst 0, 1) := by decide +kernel
theorem dX10_lay_7 : decode cX10_lay 7 = .ok (.putfield 192, 3) := by decide +kernel
theorem dX10_lay_10 : decode cX10_lay 10 = .ok (.iconst 0, 1) := by decide +kernel
theorem dX10_lay_11 : decode cX10_lay 11 = .ok (.istore_n 1, 1) := by decide +kernel
theorem dX10_lay_12 : decode cX10_lay 12 = .ok (.iconst 0, 1) := by decide +kernel
theorem dX10_lay_13 : decode cX10_lay 13 = .ok (.istore_n 2, 1) := by decide +kernel
theorem dX10_lay_50 : decode cX10_lay 50 = .ok (.iconst 0, 1) := by decide +kernel
theorem dX10_lay_51 : decode cX10_lay 51 = .ok (.istore_n 2, 1) := by decide +kernel
theorem dX10_lay_52 : decode cX10_lay 52 = .ok (.aload_n 0, 1) := by decide +kernel
theorem dX10_lay_53 : decode cX10_lay 53 = .ok (.getfield 69, 3) := by decide +kernel
theorem dX10_lay_56 : decode cX10_lay 56 = .ok (.iconst 0, 1) := by decide +kernel
theorem dX10_lay_57 : decode cX10_lay 57 = .ok (.iconst (-1), 1) := by decide +kernel
theorem dX10_lay_58 : decode cX10_lay 58 = .ok (.iastore, 1) := by decide +kernel
theorem dX10_lay_155 : decode cX10_lay 155 = .ok (.iconst 0, 1) := by decide +kernel
theorem dX10_lay_156 : decode cX10_lay 156 = .ok (.istore 5, 2) := by decide +kernel
theorem dX10_lay_183 : decode cX10_lay 183 = .ok (.bipush (-2), 2) := by decide +kernel
theorem dX10_lay_185 : decode cX10_lay 185 = .ok (.ireturn, 1) := by decide +kernel
theorem dX10_lay_280 : decode cX10_lay 280 = .ok (.iload_n 2, 1) := by decide +kernel
theorem dX10_lay_281 : decode cX10_lay 281 = .ok (.ifCond .ge 5, 3) := by decide +kernel
theorem dX10_lay_286 : decode cX10_lay 286 = .ok (.iconst 0, 1) := by decide +kernel
theorem dX10_lay_287 : decode cX10_lay 287 = .ok (.istore_n 3, 1) := by decide +kernel
theorem dX10_lay_318 : decode cX10_lay 318 = .ok (.iload_n 1, 1) := by decide +kernel
theorem dX10_lay_319 : decode cX10_lay 319 = .ok (.ireturn, 1) := by decide +kernel
theorem dX10_lay_284 : decode cX10_lay 284 = .ok (.iconst (-1), 1) := by decide +kernel
theorem dX10_lay_285 : decode cX10_lay 285 = .ok (.ireturn, 1) := by decide +kernel
