theorem dX9_cell_0 : decode cX9_cell 0 = .ok (.aload_n 0, 1) := by decide +kernel
theorem dX9_cell_1 : decode cX9_cell 1 = .ok (.getfield 33, 3) := by decide +kernel
theorem dX9_cell_4 : decode cX9_cell 4 = .ok (.getfield 84, 3) := by decide +kernel
theorem dX9_cell_7 : decode cX9_cell 7 = .ok (.astore 4, 2) := by decide +kernel
theorem dX9_cell_9 : decode cX9_cell 9 = .ok (.aload 4, 2) := by decide +kernel
theorem dX9_cell_11 : decode cX9_cell 11 = .ok (.iload_n 1, 1) := by decide +kernel
theorem dX9_cell_12 : decode cX9_cell 12 = .ok (.iload_n 2, 1) := by decide +kernel
theorem dX9_cell_13 : decode cX9_cell 13 = .ok (.invokevirtual 88, 3) := by decide +kernel
theorem dX9_cell_16 : decode cX9_cell 16 = .ok (.ifCond .ne 13, 3) := by decide +kernel
theorem kw_4_89 : Cond.classLink RX9 142 nIO ∈ gw := gw_t4 (List.mem_of_getElem? (i := 89) (by decide +kernel)) (by decide +kernel)
theorem kw_1_22 : Cond.initialized nIO ∈ gw := gw_t1 (List.mem_of_getElem? (i := 22) (by decide +kernel)) (by decide +kernel)
theorem dX9_cell_19 : decode cX9_cell 19 = .ok (.new 142, 3) := by decide +kernel
theorem dX9_cell_22 : decode cX9_cell 22 = .ok (.dup, 1) := by decide +kernel
theorem dX9_cell_23 : decode cX9_cell 23 = .ok (.ldc 144, 2) := by decide +kernel
theorem dX9_cell_25 : decode cX9_cell 25 = .ok (.invokespecial 146, 3) := by decide +kernel
theorem dX9_cell_28 : decode cX9_cell 28 = .ok (.athrow, 1) := by decide +kernel
theorem dX9_cell_29 : decode cX9_cell 29 = .ok (.aload 4, 2) := by decide +kernel
theorem dX9_cell_31 : decode cX9_cell 31 = .ok (.iload_n 1, 1) := by decide +kernel
theorem dX9_cell_32 : decode cX9_cell 32 = .ok (.iload_n 2, 1) := by decide +kernel
theorem kw_4_156 : Cond.methodLink RX9 149 yX6_spotOf ∈ gw := gw_t4 (List.mem_of_getElem? (i := 156) (by decide +kernel)) (by decide +kernel)
theorem gk_X9_149 : GoodIn gw (wsV RX9 149 RX6 yX6_spotOf (.code yX6_spotOf cX6_spotOf 3 (some .int) :: gw)) ∧ (yX6_spotOf.cls = RX6 ∧ yX6_spotOf.cls ≠ "java/lang/invoke/MethodHandle" ∧ yX6_spotOf.cls ≠ "java/lang/invoke/VarHandle" ∧ (parseMethodDescriptor yX6_spotOf.desc).map (fun d => d.parameters.length) = some 2) := ⟨gi_V kw_4_156 kw_3_16 kw_3_17 kw_1_7 kw_3_18, by decide +kernel⟩
theorem dX9_cell_33 : decode cX9_cell 33 = .ok (.invokevirtual 149, 3) := by decide +kernel
theorem dX9_cell_36 : decode cX9_cell 36 = .ok (.istore 5, 2) := by decide +kernel
theorem dX9_cell_38 : decode cX9_cell 38 = .ok (.iload_n 3, 1) := by decide +kernel
theorem dX9_cell_39 : decode cX9_cell 39 = .ok (.tableswitch 108 0 5 #[37, 46, 55, 72, 81, 99], 37) := by decide +kernel
theorem dX9_cell_76 : decode cX9_cell 76 = .ok (.aload 4, 2) := by decide +kernel
theorem kw_1_149 : Cond.fieldLink RX9 153 "IceFair$River" "low" "[I" ∈ gw := gw_t1 (List.mem_of_getElem? (i := 149) (by decide +kernel)) (by decide +kernel)
theorem dX9_cell_78 : decode cX9_cell 78 = .ok (.getfield 153, 3) := by decide +kernel
theorem dX9_cell_81 : decode cX9_cell 81 = .ok (.iload 5, 2) := by decide +kernel
theorem dX9_cell_83 : decode cX9_cell 83 = .ok (.iaload, 1) := by decide +kernel
theorem dX9_cell_84 : decode cX9_cell 84 = .ok (.ireturn, 1) := by decide +kernel
theorem dX9_cell_85 : decode cX9_cell 85 = .ok (.aload 4, 2) := by decide +kernel
theorem kw_1_151 : Cond.fieldLink RX9 156 "IceFair$River" "high" "[I" ∈ gw := gw_t1 (List.mem_of_getElem? (i := 151) (by decide +kernel)) (by decide +kernel)
theorem dX9_cell_87 : decode cX9_cell 87 = .ok (.getfield 156, 3) := by decide +kernel
theorem dX9_cell_90 : decode cX9_cell 90 = .ok (.iload 5, 2) := by decide +kernel
theorem dX9_cell_92 : decode cX9_cell 92 = .ok (.iaload, 1) := by decide +kernel
theorem dX9_cell_93 : decode cX9_cell 93 = .ok (.ireturn, 1) := by decide +kernel
theorem dX9_cell_94 : decode cX9_cell 94 = .ok (.aload 4, 2) := by decide +kernel
theorem kw_1_158 : Cond.fieldLink RX9 159 "IceFair$River" "cracked" "[Z" ∈ gw := gw_t1 (List.mem_of_getElem? (i := 158) (by decide +kernel)) (by decide +kernel)
theorem dX9_cell_96 : decode cX9_cell 96 = .ok (.getfield 159, 3) := by decide +kernel
theorem dX9_cell_99 : decode cX9_cell 99 = .ok (.iload 5, 2) := by decide +kernel
theorem dX9_cell_101 : decode cX9_cell 101 = .ok (.baload, 1) := by decide +kernel
theorem dX9_cell_102 : decode cX9_cell 102 = .ok (.ifCond .eq 7, 3) := by decide +kernel
theorem dX9_cell_109 : decode cX9_cell 109 = .ok (.iconst 0, 1) := by decide +kernel
theorem dX9_cell_110 : decode cX9_cell 110 = .ok (.ireturn, 1) := by decide +kernel
theorem dX9_cell_105 : decode cX9_cell 105 = .ok (.iconst 1, 1) := by decide +kernel
theorem dX9_cell_106 : decode cX9_cell 106 = .ok (.goto 4, 3) := by decide +kernel
theorem dX9_cell_111 : decode cX9_cell 111 = .ok (.aload 4, 2) := by decide +kernel
theorem kw_1_153 : Cond.fieldLink RX9 163 "IceFair$River" "strain" "[I" ∈ gw := gw_t1 (List.mem_of_getElem? (i := 153) (by decide +kernel)) (by decide +kernel)
theorem dX9_cell_113 : decode cX9_cell 113 = .ok (.getfield 163, 3) := by decide +kernel
theorem dX9_cell_116 : decode cX9_cell 116 = .ok (.iload 5, 2) := by decide +kernel
theorem dX9_cell_118 : decode cX9_cell 118 = .ok (.iaload, 1) := by decide +kernel
theorem dX9_cell_119 : decode cX9_cell 119 = .ok (.ireturn, 1) := by decide +kernel
theorem dX9_cell_120 : decode cX9_cell 120 = .ok (.aload 4, 2) := by decide +kernel
theorem dX9_cell_122 : decode cX9_cell 122 = .ok (.iload 5, 2) := by decide +kernel
theorem dX9_cell_124 : decode cX9_cell 124 = .ok (.aload_n 0, 1) := by decide +kernel
theorem dX9_cell_125 : decode cX9_cell 125 = .ok (.getfield 33, 3) := by decide +kernel
theorem dX9_cell_128 : decode cX9_cell 128 = .ok (.getfield 67, 3) := by decide +kernel
theorem kw_4_157 : Cond.methodLink RX9 166 yX1_bear ∈ gw := gw_t4 (List.mem_of_getElem? (i := 157) (by decide +kernel)) (by decide +kernel)
theorem gk_X9_166 : GoodIn gw (wsV RX9 166 RX1 yX1_bear (.code yX1_bear cX1_bear 1 (some .int) :: gw)) ∧ (yX1_bear.cls = RX1 ∧ yX1_bear.cls ≠ "java/lang/invoke/MethodHandle" ∧ yX1_bear.cls ≠ "java/lang/invoke/VarHandle" ∧ (parseMethodDescriptor yX1_bear.desc).map (fun d => d.parameters.length) = some 0) := ⟨gi_V kw_4_157 kw_3_56 kw_3_57 kw_1_4 kw_3_58, by decide +kernel⟩
theorem dX9_cell_131 : decode cX9_cell 131 = .ok (.invokevirtual 166, 3) := by decide +kernel
theorem kw_4_158 : Cond.methodLink RX9 170 yX6_bearing ∈ gw := gw_t4 (List.mem_of_getElem? (i := 158) (by decide +kernel)) (by decide +kernel)
theorem gk_X9_170 : GoodIn gw (wsV RX9 170 RX6 yX6_bearing (.code yX6_bearing cX6_bearing 3 (some .int) :: gw)) ∧ (yX6_bearing.cls = RX6 ∧ yX6_bearing.cls ≠ "java/lang/invoke/MethodHandle" ∧ yX6_bearing.cls ≠ "java/lang/invoke/VarHandle" ∧ (parseMethodDescriptor yX6_bearing.desc).map (fun d => d.parameters.length) = some 2) := ⟨gi_V kw_4_158 kw_3_64 kw_3_65 kw_1_7 kw_3_66, by decide +kernel⟩
theorem dX9_cell_134 : decode cX9_cell 134 = .ok (.invokevirtual 170, 3) := by decide +kernel
theorem dX9_cell_137 : decode cX9_cell 137 = .ok (.ireturn, 1) := by decide +kernel
theorem dX9_cell_138 : decode cX9_cell 138 = .ok (.aload 4, 2) := by decide +kernel
theorem kw_1_156 : Cond.fieldLink RX9 173 "IceFair$River" "guest" "[I" ∈ gw := gw_t1 (List.mem_of_getElem? (i := 156) (by decide +kernel)) (by decide +kernel)
theorem dX9_cell_140 : decode cX9_cell 140 = .ok (.getfield 173, 3) := by decide +kernel
theorem dX9_cell_143 : decode cX9_cell 143 = .ok (.iload 5, 2) := by decide +kernel
theorem dX9_cell_145 : decode cX9_cell 145 = .ok (.iaload, 1) := by decide +kernel
theorem dX9_cell_146 : decode cX9_cell 146 = .ok (.ireturn, 1) := by decide +kernel
theorem kw_4_159 : Cond.classLink RX9 176 nNS ∈ gw := gw_t4 (List.mem_of_getElem? (i := 159) (by decide +kernel)) (by decide +kernel)
theorem kw_1_23 : Cond.initialized nNS ∈ gw := gw_t1 (List.mem_of_getElem? (i := 23) (by decide +kernel)) (by decide +kernel)
theorem dX9_cell_147 : decode cX9_cell 147 = .ok (.new 176, 3) := by decide +kernel
theorem dX9_cell_150 : decode cX9_cell 150 = .ok (.dup, 1) := by decide +kernel
theorem dX9_cell_151 : decode cX9_cell 151 = .ok (.ldc 178, 2) := by decide +kernel
theorem dX9_cell_153 : decode cX9_cell 153 = .ok (.invokespecial 180, 3) := by decide +kernel
theorem dX9_cell_156 : decode cX9_cell 156 = .ok (.athrow, 1) := by decide +kernel
theorem dX9_look_0 : decode cX9_look 0 = .ok (.aload_n 0, 1) := by decide +kernel
theorem dX9_look_1 : decode cX9_look 1 = .ok (.getfield 33, 3) := by decide +kernel
theorem dX9_look_4 : decode cX9_look 4 = .ok (.iload_n 1, 1) := by decide +kernel
theorem dX9_look_5 : decode cX9_look 5 = .ok (.invokevirtual 102, 3) := by decide +kernel
theorem dX9_look_8 : decode cX9_look 8 = .ok (.astore_n 3, 1) := by decide +kernel
theorem dX9_look_9 : decode cX9_look 9 = .ok (.aload_n 3, 1) := by decide +kernel
theorem dX9_look_10 : decode cX9_look 10 = .ok (.ifnonnull 13, 3) := by decide +kernel
theorem dX9_look_13 : decode cX9_look 13 = .ok (.new 142, 3) := by decide +kernel
theorem dX9_look_16 : decode cX9_look 16 = .ok (.dup, 1) := by decide +kernel
theorem dX9_look_17 : decode cX9_look 17 = .ok (.ldc 181, 2) := by decide +kernel
theorem dX9_look_19 : decode cX9_look 19 = .ok (.invokespecial 146, 3) := by decide +kernel
theorem dX9_look_22 : decode cX9_look 22 = .ok (.athrow, 1) := by decide +kernel
theorem dX9_look_23 : decode cX9_look 23 = .ok (.iload_n 2, 1) := by decide +kernel
theorem dX9_look_24 : decode cX9_look 24 = .ok (.tableswitch 81 0 4 #[36, 41, 46, 51, 68], 36) := by decide +kernel
theorem dX9_look_60 : decode cX9_look 60 = .ok (.aload_n 3, 1) := by decide +kernel
theorem dX9_look_61 : decode cX9_look 61 = .ok (.getfield 106, 3) := by decide +kernel
theorem dX9_look_64 : decode cX9_look 64 = .ok (.ireturn, 1) := by decide +kernel
theorem dX9_look_65 : decode cX9_look 65 = .ok (.aload_n 3, 1) := by decide +kernel
theorem kw_1_196 : Cond.fieldLink RX9 183 "IceFair$Booth" "x" "I" ∈ gw := gw_t1 (List.mem_of_getElem? (i := 196) (by decide +kernel)) (by decide +kernel)
theorem dX9_look_66 : decode cX9_look 66 = .ok (.getfield 183, 3) := by decide +kernel
theorem dX9_look_69 : decode cX9_look 69 = .ok (.ireturn, 1) := by decide +kernel
theorem dX9_look_70 : decode cX9_look 70 = .ok (.aload_n 3, 1) := by decide +kernel
theorem kw_1_199 : Cond.fieldLink RX9 186 "IceFair$Booth" "y" "I" ∈ gw := gw_t1 (List.mem_of_getElem? (i := 199) (by decide +kernel)) (by decide +kernel)
theorem dX9_look_71 : decode cX9_look 71 = .ok (.getfield 186, 3) := by decide +kernel
theorem dX9_look_74 : decode cX9_look 74 = .ok (.ireturn, 1) := by decide +kernel
theorem dX9_look_75 : decode cX9_look 75 = .ok (.aload_n 0, 1) := by decide +kernel
theorem dX9_look_76 : decode cX9_look 76 = .ok (.getfield 33, 3) := by decide +kernel
theorem dX9_look_79 : decode cX9_look 79 = .ok (.aload_n 3, 1) := by decide +kernel
theorem kw_4_183 : Cond.methodLink RX9 189 yX3_hasToMove ∈ gw := gw_t4 (List.mem_of_getElem? (i := 183) (by decide +kernel)) (by decide +kernel)
theorem gk_X9_189 : GoodIn gw (wsV RX9 189 RX3 yX3_hasToMove (.code yX3_hasToMove cX3_hasToMove 2 (some .boolean) :: gw)) ∧ (yX3_hasToMove.cls = RX3 ∧ yX3_hasToMove.cls ≠ "java/lang/invoke/MethodHandle" ∧ yX3_hasToMove.cls ≠ "java/lang/invoke/VarHandle" ∧ (parseMethodDescriptor yX3_hasToMove.desc).map (fun d => d.parameters.length) = some 1) := ⟨gi_V kw_4_183 kw_4_77 kw_4_78 kw_1_6 kw_4_79, by decide +kernel⟩
theorem dX9_look_80 : decode cX9_look 80 = .ok (.invokevirtual 189, 3) := by decide +kernel
theorem dX9_look_83 : decode cX9_look 83 = .ok (.ifCond .eq 7, 3) := by decide +kernel
theorem dX9_look_90 : decode cX9_look 90 = .ok (.iconst 0, 1) := by decide +kernel
theorem dX9_look_91 : decode cX9_look 91 = .ok (.ireturn, 1) := by decide +kernel
theorem dX9_look_86 : decode cX9_look 86 = .ok (.iconst 1, 1) := by decide +kernel
theorem dX9_look_87 : decode cX9_look 87 = .ok (.goto 4, 3) := by decide +kernel
theorem dX9_look_92 : decode cX9_look 92 = .ok (.aload_n 0, 1) := by decide +kernel
theorem dX9_look_93 : decode cX9_look 93 = .ok (.getfield 47, 3) := by decide +kernel
theorem dX9_look_96 : decode cX9_look 96 = .ok (.aload_n 0, 1) := by decide +kernel
theorem dX9_look_97 : decode cX9_look 97 = .ok (.getfield 33, 3) := by decide +kernel
theorem dX9_look_100 : decode cX9_look 100 = .ok (.aload_n 3, 1) := by decide +kernel
theorem kw_4_184 : Cond.methodLink RX9 193 yX8_stepsToNearest ∈ gw := gw_t4 (List.mem_of_getElem? (i := 184) (by decide +kernel)) (by decide +kernel)
theorem kw_4_185 : Cond.instanceMethod yX8_stepsToNearest ∈ gw := gw_t4 (List.mem_of_getElem? (i := 185) (by decide +kernel)) (by decide +kernel)
theorem kw_4_186 : Cond.selects RX8 yX8_stepsToNearest yX8_stepsToNearest ∈ gw := gw_t4 (List.mem_of_getElem? (i := 186) (by decide +kernel)) (by decide +kernel)
theorem kw_4_187 : Cond.code yX8_stepsToNearest cX8_stepsToNearest 5 (some .int) ∈ gw := gw_t4 (List.mem_of_getElem? (i := 187) (by decide +kernel)) (by decide +kernel)
theorem gk_X9_193 : GoodIn gw (wsV RX9 193 RX8 yX8_stepsToNearest (.code yX8_stepsToNearest cX8_stepsToNearest 5 (some .int) :: gw)) ∧ (yX8_stepsToNearest.cls = RX8 ∧ yX8_stepsToNearest.cls ≠ "java/lang/invoke/MethodHandle" ∧ yX8_stepsToNearest.cls ≠ "java/lang/invoke/VarHandle" ∧ (parseMethodDescriptor yX8_stepsToNearest.desc).map (fun d => d.parameters.length) = some 2) := ⟨gi_V kw_4_184 kw_4_185 kw_4_186 kw_1_10 kw_4_187, by decide +kernel⟩
theorem dX9_look_101 : decode cX9_look 101 = .ok (.invokevirtual 193, 3) := by decide +kernel
theorem dX9_look_104 : decode cX9_look 104 = .ok (.ireturn, 1) := by decide +kernel
theorem dX9_look_105 : decode cX9_look 105 = .ok (.new 176, 3) := by decide +kernel
theorem dX9_look_108 : decode cX9_look 108 = .ok (.dup, 1) := by decide +kernel
theorem dX9_look_109 : decode cX9_look 109 = .ok (.ldc 197, 2) := by decide +kernel
theorem dX9_look_111 : decode cX9_look 111 = .ok (.invokespecial 180, 3) := by decide +kernel
theorem dX9_look_114 : decode cX9_look 114 = .ok (.athrow, 1) := by decide +kernel
theorem dL_cell_0 : decode cL_cell 0 = .ok (.aload 4, 2) := by decide +kernel
theorem dL_cell_2 : decode cL_cell 2 = .ok (.iconst 0, 1) := by decide +kernel
theorem dL_cell_3 : decode cL_cell 3 = .ok (.aload_n 0, 1) := by decide +kernel
theorem dL_cell_4 : decode cL_cell 4 = .ok (.iload_n 1, 1) := by decide +kernel
theorem dL_cell_5 : decode cL_cell 5 = .ok (.iload_n 2, 1) := by decide +kernel
theorem dL_cell_6 : decode cL_cell 6 = .ok (.iload_n 3, 1) := by decide +kernel
theorem kw_4_85 : Cond.methodLink RL 7 yX9_cell ∈ gw := gw_t4 (List.mem_of_getElem? (i := 85) (by decide +kernel)) (by decide +kernel)
theorem kw_4_86 : Cond.instanceMethod yX9_cell ∈ gw := gw_t4 (List.mem_of_getElem? (i := 86) (by decide +kernel)) (by decide +kernel)
theorem kw_4_87 : Cond.selects RX9 yX9_cell yX9_cell ∈ gw := gw_t4 (List.mem_of_getElem? (i := 87) (by decide +kernel)) (by decide +kernel)
theorem kw_1_1 : Cond.initialized RX9 ∈ gw := gw_t1 (List.mem_of_getElem? (i := 1) (by decide +kernel)) (by decide +kernel)
theorem kw_4_88 : Cond.code yX9_cell cX9_cell 6 (some .int) ∈ gw := gw_t4 (List.mem_of_getElem? (i := 88) (by decide +kernel)) (by decide +kernel)
theorem gk_L_7 : GoodIn gw (wsV RL 7 RX9 yX9_cell (.code yX9_cell cX9_cell 6 (some .int) :: gw)) ∧ (yX9_cell.cls = RX9 ∧ yX9_cell.cls ≠ "java/lang/invoke/MethodHandle" ∧ yX9_cell.cls ≠ "java/lang/invoke/VarHandle" ∧ (parseMethodDescriptor yX9_cell.desc).map (fun d => d.parameters.length) = some 3) := ⟨gi_V kw_4_85 kw_4_86 kw_4_87 kw_1_1 kw_4_88, by decide +kernel⟩
theorem dL_cell_7 : decode cL_cell 7 = .ok (.invokevirtual 7, 3) := by decide +kernel
theorem kw_4_83 : Cond.classLink RL 13 nIO ∈ gw := gw_t4 (List.mem_of_getElem? (i := 83) (by decide +kernel)) (by decide +kernel)
theorem kw_4_84 : Cond.classLink RL 15 nNS ∈ gw := gw_t4 (List.mem_of_getElem? (i := 84) (by decide +kernel)) (by decide +kernel)
theorem dL_cell_15 : decode cL_cell 15 = .ok (.astore 5, 2) := by decide +kernel
theorem dL_cell_17 : decode cL_cell 17 = .ok (.iconst 1, 1) := by decide +kernel
theorem dL_cell_18 : decode cL_cell 18 = .ok (.ireturn, 1) := by decide +kernel
theorem dL_cell_19 : decode cL_cell 19 = .ok (.astore 5, 2) := by decide +kernel
theorem dL_cell_21 : decode cL_cell 21 = .ok (.iconst 2, 1) := by decide +kernel
theorem dL_cell_22 : decode cL_cell 22 = .ok (.ireturn, 1) := by decide +kernel
theorem dL_cell_10 : decode cL_cell 10 = .ok (.i2l, 1) := by decide +kernel
theorem dL_cell_11 : decode cL_cell 11 = .ok (.lastore, 1) := by decide +kernel
theorem dL_cell_12 : decode cL_cell 12 = .ok (.goto 11, 3) := by decide +kernel
theorem dL_cell_23 : decode cL_cell 23 = .ok (.iconst 0, 1) := by decide +kernel
theorem dL_cell_24 : decode cL_cell 24 = .ok (.ireturn, 1) := by decide +kernel
theorem dL_look_0 : decode cL_look 0 = .ok (.aload_n 3, 1) := by decide +kernel
theorem dL_look_1 : decode cL_look 1 = .ok (.iconst 0, 1) := by decide +kernel
theorem dL_look_2 : decode cL_look 2 = .ok (.aload_n 0, 1) := by decide +kernel
theorem dL_look_3 : decode cL_look 3 = .ok (.iload_n 1, 1) := by decide +kernel
theorem dL_look_4 : decode cL_look 4 = .ok (.iload_n 2, 1) := by decide +kernel
theorem kw_4_178 : Cond.methodLink RL 17 yX9_look ∈ gw := gw_t4 (List.mem_of_getElem? (i := 178) (by decide +kernel)) (by decide +kernel)
theorem kw_4_179 : Cond.instanceMethod yX9_look ∈ gw := gw_t4 (List.mem_of_getElem? (i := 179) (by decide +kernel)) (by decide +kernel)
theorem kw_4_180 : Cond.selects RX9 yX9_look yX9_look ∈ gw := gw_t4 (List.mem_of_getElem? (i := 180) (by decide +kernel)) (by decide +kernel)
theorem kw_4_181 : Cond.code yX9_look cX9_look 4 (some .int) ∈ gw := gw_t4 (List.mem_of_getElem? (i := 181) (by decide +kernel)) (by decide +kernel)
theorem gk_L_17 : GoodIn gw (wsV RL 17 RX9 yX9_look (.code yX9_look cX9_look 4 (some .int) :: gw)) ∧ (yX9_look.cls = RX9 ∧ yX9_look.cls ≠ "java/lang/invoke/MethodHandle" ∧ yX9_look.cls ≠ "java/lang/invoke/VarHandle" ∧ (parseMethodDescriptor yX9_look.desc).map (fun d => d.parameters.length) = some 2) := ⟨gi_V kw_4_178 kw_4_179 kw_4_180 kw_1_1 kw_4_181, by decide +kernel⟩
theorem dL_look_5 : decode cL_look 5 = .ok (.invokevirtual 17, 3) := by decide +kernel
theorem dL_look_13 : decode cL_look 13 = .ok (.astore 4, 2) := by decide +kernel
theorem dL_look_15 : decode cL_look 15 = .ok (.iconst 1, 1) := by decide +kernel
theorem dL_look_16 : decode cL_look 16 = .ok (.ireturn, 1) := by decide +kernel
theorem dL_look_17 : decode cL_look 17 = .ok (.astore 4, 2) := by decide +kernel
theorem dL_look_19 : decode cL_look 19 = .ok (.iconst 2, 1) := by decide +kernel
theorem dL_look_20 : decode cL_look 20 = .ok (.ireturn, 1) := by decide +kernel
theorem dL_look_8 : decode cL_look 8 = .ok (.i2l, 1) := by decide +kernel
theorem dL_look_9 : decode cL_look 9 = .ok (.lastore, 1) := by decide +kernel
theorem dL_look_10 : decode cL_look 10 = .ok (.goto 11, 3) := by decide +kernel
theorem dL_look_21 : decode cL_look 21 = .ok (.iconst 0, 1) := by decide +kernel
theorem dL_look_22 : decode cL_look 22 = .ok (.ireturn, 1) := by decide +kernel
