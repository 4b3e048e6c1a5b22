theorem dX3_fireAt_0 : decode cX3_fireAt 0 = .ok (.aload_n 0, 1) := by decide +kernel
theorem dX3_fireAt_1 : decode cX3_fireAt 1 = .ok (.aload_n 0, 1) := by decide +kernel
theorem dX3_fireAt_2 : decode cX3_fireAt 2 = .ok (.getfield 21, 3) := by decide +kernel
theorem dX3_fireAt_5 : decode cX3_fireAt 5 = .ok (.iload_n 1, 1) := by decide +kernel
theorem dX3_fireAt_6 : decode cX3_fireAt 6 = .ok (.iload_n 2, 1) := by decide +kernel
theorem kw_3_146 : Cond.methodLink RX3 169 yX6_guestAt ∈ gw := gw_t3 (List.mem_of_getElem? (i := 146) (by decide +kernel)) (by decide +kernel)
theorem kw_3_147 : Cond.instanceMethod yX6_guestAt ∈ gw := gw_t3 (List.mem_of_getElem? (i := 147) (by decide +kernel)) (by decide +kernel)
theorem kw_3_148 : Cond.selects RX6 yX6_guestAt yX6_guestAt ∈ gw := gw_t3 (List.mem_of_getElem? (i := 148) (by decide +kernel)) (by decide +kernel)
theorem kw_3_149 : Cond.code yX6_guestAt cX6_guestAt 3 (some .int) ∈ gw := gw_t3 (List.mem_of_getElem? (i := 149) (by decide +kernel)) (by decide +kernel)
theorem gk_X3_169 : GoodIn gw (wsV RX3 169 RX6 yX6_guestAt (.code yX6_guestAt cX6_guestAt 3 (some .int) :: gw)) ∧ (yX6_guestAt.cls = RX6 ∧ yX6_guestAt.cls ≠ "java/lang/invoke/MethodHandle" ∧ yX6_guestAt.cls ≠ "java/lang/invoke/VarHandle" ∧ (parseMethodDescriptor yX6_guestAt.desc).map (fun d => d.parameters.length) = some 2) := ⟨gi_V kw_3_146 kw_3_147 kw_3_148 kw_1_7 kw_3_149, by decide +kernel⟩
theorem dX3_fireAt_7 : decode cX3_fireAt 7 = .ok (.invokevirtual 169, 3) := by decide +kernel
theorem kw_3_150 : Cond.methodLink RX3 172 yX3_boothNumbered ∈ gw := gw_t3 (List.mem_of_getElem? (i := 150) (by decide +kernel)) (by decide +kernel)
theorem kw_3_32 : Cond.instanceMethod yX3_boothNumbered ∈ gw := gw_t3 (List.mem_of_getElem? (i := 32) (by decide +kernel)) (by decide +kernel)
theorem kw_3_33 : Cond.selects RX3 yX3_boothNumbered yX3_boothNumbered ∈ gw := gw_t3 (List.mem_of_getElem? (i := 33) (by decide +kernel)) (by decide +kernel)
theorem kw_3_34 : Cond.code yX3_boothNumbered cX3_boothNumbered 2 (some (.object "IceFair$Booth")) ∈ gw := gw_t3 (List.mem_of_getElem? (i := 34) (by decide +kernel)) (by decide +kernel)
theorem gk_X3_172 : GoodIn gw (wsV RX3 172 RX3 yX3_boothNumbered (.code yX3_boothNumbered cX3_boothNumbered 2 (some (.object "IceFair$Booth")) :: gw)) ∧ (yX3_boothNumbered.cls = RX3 ∧ yX3_boothNumbered.cls ≠ "java/lang/invoke/MethodHandle" ∧ yX3_boothNumbered.cls ≠ "java/lang/invoke/VarHandle" ∧ (parseMethodDescriptor yX3_boothNumbered.desc).map (fun d => d.parameters.length) = some 1) := ⟨gi_V kw_3_150 kw_3_32 kw_3_33 kw_1_6 kw_3_34, by decide +kernel⟩
theorem dX3_fireAt_10 : decode cX3_fireAt 10 = .ok (.invokevirtual 172, 3) := by decide +kernel
theorem dX3_fireAt_13 : decode cX3_fireAt 13 = .ok (.astore_n 3, 1) := by decide +kernel
theorem dX3_fireAt_14 : decode cX3_fireAt 14 = .ok (.aload_n 3, 1) := by decide +kernel
theorem dX3_fireAt_15 : decode cX3_fireAt 15 = .ok (.ifnull 14, 3) := by decide +kernel
theorem dX3_fireAt_29 : decode cX3_fireAt 29 = .ok (.iconst 0, 1) := by decide +kernel
theorem dX3_fireAt_30 : decode cX3_fireAt 30 = .ok (.ireturn, 1) := by decide +kernel
theorem dX3_fireAt_18 : decode cX3_fireAt 18 = .ok (.aload_n 3, 1) := by decide +kernel
theorem dX3_fireAt_19 : decode cX3_fireAt 19 = .ok (.getfield 52, 3) := by decide +kernel
theorem dX3_fireAt_22 : decode cX3_fireAt 22 = .ok (.ifCond .eq 7, 3) := by decide +kernel
theorem dX3_fireAt_25 : decode cX3_fireAt 25 = .ok (.iconst 1, 1) := by decide +kernel
theorem dX3_fireAt_26 : decode cX3_fireAt 26 = .ok (.goto 4, 3) := by decide +kernel
theorem dX3_meltAt_0 : decode cX3_meltAt 0 = .ok (.aload_n 0, 1) := by decide +kernel
theorem dX3_meltAt_1 : decode cX3_meltAt 1 = .ok (.iload_n 1, 1) := by decide +kernel
theorem dX3_meltAt_2 : decode cX3_meltAt 2 = .ok (.iconst 1, 1) := by decide +kernel
theorem dX3_meltAt_3 : decode cX3_meltAt 3 = .ok (.isub, 1) := by decide +kernel
theorem dX3_meltAt_4 : decode cX3_meltAt 4 = .ok (.iload_n 2, 1) := by decide +kernel
theorem kw_3_142 : Cond.methodLink RX3 160 yX3_fireAt ∈ gw := gw_t3 (List.mem_of_getElem? (i := 142) (by decide +kernel)) (by decide +kernel)
theorem kw_3_144 : Cond.instanceMethod yX3_fireAt ∈ gw := gw_t3 (List.mem_of_getElem? (i := 144) (by decide +kernel)) (by decide +kernel)
theorem ks_1_12 : Cond.selects RX3 yX3_fireAt yX3_fireAt ∈ gw := gw_s (y := yX3_fireAt) (n := 6) (List.mem_append_left _ (List.mem_of_getElem? (i := 12) (by decide +kernel)))
theorem kw_3_145 : Cond.code yX3_fireAt cX3_fireAt 4 (some .int) ∈ gw := gw_t3 (List.mem_of_getElem? (i := 145) (by decide +kernel)) (by decide +kernel)
theorem gk_X3_160 : GoodIn gw (wsV RX3 160 RX3 yX3_fireAt (.code yX3_fireAt cX3_fireAt 4 (some .int) :: gw)) ∧ (yX3_fireAt.cls = RX3 ∧ yX3_fireAt.cls ≠ "java/lang/invoke/MethodHandle" ∧ yX3_fireAt.cls ≠ "java/lang/invoke/VarHandle" ∧ (parseMethodDescriptor yX3_fireAt.desc).map (fun d => d.parameters.length) = some 2) := ⟨gi_V kw_3_142 kw_3_144 ks_1_12 kw_1_6 kw_3_145, by decide +kernel⟩
theorem dX3_meltAt_5 : decode cX3_meltAt 5 = .ok (.invokevirtual 160, 3) := by decide +kernel
theorem dX3_meltAt_8 : decode cX3_meltAt 8 = .ok (.aload_n 0, 1) := by decide +kernel
theorem dX3_meltAt_9 : decode cX3_meltAt 9 = .ok (.iload_n 1, 1) := by decide +kernel
theorem dX3_meltAt_10 : decode cX3_meltAt 10 = .ok (.iconst 1, 1) := by decide +kernel
theorem dX3_meltAt_11 : decode cX3_meltAt 11 = .ok (.iadd, 1) := by decide +kernel
theorem dX3_meltAt_12 : decode cX3_meltAt 12 = .ok (.iload_n 2, 1) := by decide +kernel
theorem dX3_meltAt_13 : decode cX3_meltAt 13 = .ok (.invokevirtual 160, 3) := by decide +kernel
theorem dX3_meltAt_16 : decode cX3_meltAt 16 = .ok (.iadd, 1) := by decide +kernel
theorem dX3_meltAt_17 : decode cX3_meltAt 17 = .ok (.aload_n 0, 1) := by decide +kernel
theorem dX3_meltAt_18 : decode cX3_meltAt 18 = .ok (.iload_n 1, 1) := by decide +kernel
theorem dX3_meltAt_19 : decode cX3_meltAt 19 = .ok (.iload_n 2, 1) := by decide +kernel
theorem dX3_meltAt_20 : decode cX3_meltAt 20 = .ok (.iconst 1, 1) := by decide +kernel
theorem dX3_meltAt_21 : decode cX3_meltAt 21 = .ok (.isub, 1) := by decide +kernel
theorem dX3_meltAt_22 : decode cX3_meltAt 22 = .ok (.invokevirtual 160, 3) := by decide +kernel
theorem dX3_meltAt_25 : decode cX3_meltAt 25 = .ok (.iadd, 1) := by decide +kernel
theorem dX3_meltAt_26 : decode cX3_meltAt 26 = .ok (.aload_n 0, 1) := by decide +kernel
theorem dX3_meltAt_27 : decode cX3_meltAt 27 = .ok (.iload_n 1, 1) := by decide +kernel
theorem dX3_meltAt_28 : decode cX3_meltAt 28 = .ok (.iload_n 2, 1) := by decide +kernel
theorem dX3_meltAt_29 : decode cX3_meltAt 29 = .ok (.iconst 1, 1) := by decide +kernel
theorem dX3_meltAt_30 : decode cX3_meltAt 30 = .ok (.iadd, 1) := by decide +kernel
theorem dX3_meltAt_31 : decode cX3_meltAt 31 = .ok (.invokevirtual 160, 3) := by decide +kernel
theorem dX3_meltAt_34 : decode cX3_meltAt 34 = .ok (.iadd, 1) := by decide +kernel
theorem dX3_meltAt_35 : decode cX3_meltAt 35 = .ok (.istore_n 3, 1) := by decide +kernel
theorem dX3_meltAt_36 : decode cX3_meltAt 36 = .ok (.aload_n 0, 1) := by decide +kernel
theorem dX3_meltAt_37 : decode cX3_meltAt 37 = .ok (.iload_n 1, 1) := by decide +kernel
theorem dX3_meltAt_38 : decode cX3_meltAt 38 = .ok (.iload_n 2, 1) := by decide +kernel
theorem dX3_meltAt_39 : decode cX3_meltAt 39 = .ok (.invokevirtual 160, 3) := by decide +kernel
theorem dX3_meltAt_42 : decode cX3_meltAt 42 = .ok (.aload_n 0, 1) := by decide +kernel
theorem dX3_meltAt_43 : decode cX3_meltAt 43 = .ok (.getfield 12, 3) := by decide +kernel
theorem kw_3_151 : Cond.methodLink RX3 163 yX1_meltOn ∈ gw := gw_t3 (List.mem_of_getElem? (i := 151) (by decide +kernel)) (by decide +kernel)
theorem kw_3_152 : Cond.instanceMethod yX1_meltOn ∈ gw := gw_t3 (List.mem_of_getElem? (i := 152) (by decide +kernel)) (by decide +kernel)
theorem kw_3_153 : Cond.selects RX1 yX1_meltOn yX1_meltOn ∈ gw := gw_t3 (List.mem_of_getElem? (i := 153) (by decide +kernel)) (by decide +kernel)
theorem kw_3_154 : Cond.code yX1_meltOn cX1_meltOn 1 (some .int) ∈ gw := gw_t3 (List.mem_of_getElem? (i := 154) (by decide +kernel)) (by decide +kernel)
theorem gk_X3_163 : GoodIn gw (wsV RX3 163 RX1 yX1_meltOn (.code yX1_meltOn cX1_meltOn 1 (some .int) :: gw)) ∧ (yX1_meltOn.cls = RX1 ∧ yX1_meltOn.cls ≠ "java/lang/invoke/MethodHandle" ∧ yX1_meltOn.cls ≠ "java/lang/invoke/VarHandle" ∧ (parseMethodDescriptor yX1_meltOn.desc).map (fun d => d.parameters.length) = some 0) := ⟨gi_V kw_3_151 kw_3_152 kw_3_153 kw_1_4 kw_3_154, by decide +kernel⟩
theorem dX3_meltAt_46 : decode cX3_meltAt 46 = .ok (.invokevirtual 163, 3) := by decide +kernel
theorem dX3_meltAt_49 : decode cX3_meltAt 49 = .ok (.imul, 1) := by decide +kernel
theorem dX3_meltAt_50 : decode cX3_meltAt 50 = .ok (.iload_n 3, 1) := by decide +kernel
theorem dX3_meltAt_51 : decode cX3_meltAt 51 = .ok (.aload_n 0, 1) := by decide +kernel
theorem dX3_meltAt_52 : decode cX3_meltAt 52 = .ok (.getfield 12, 3) := by decide +kernel
theorem kw_3_155 : Cond.methodLink RX3 166 yX1_meltBeside ∈ gw := gw_t3 (List.mem_of_getElem? (i := 155) (by decide +kernel)) (by decide +kernel)
theorem kw_3_156 : Cond.instanceMethod yX1_meltBeside ∈ gw := gw_t3 (List.mem_of_getElem? (i := 156) (by decide +kernel)) (by decide +kernel)
theorem kw_3_157 : Cond.selects RX1 yX1_meltBeside yX1_meltBeside ∈ gw := gw_t3 (List.mem_of_getElem? (i := 157) (by decide +kernel)) (by decide +kernel)
theorem kw_3_158 : Cond.code yX1_meltBeside cX1_meltBeside 1 (some .int) ∈ gw := gw_t3 (List.mem_of_getElem? (i := 158) (by decide +kernel)) (by decide +kernel)
theorem gk_X3_166 : GoodIn gw (wsV RX3 166 RX1 yX1_meltBeside (.code yX1_meltBeside cX1_meltBeside 1 (some .int) :: gw)) ∧ (yX1_meltBeside.cls = RX1 ∧ yX1_meltBeside.cls ≠ "java/lang/invoke/MethodHandle" ∧ yX1_meltBeside.cls ≠ "java/lang/invoke/VarHandle" ∧ (parseMethodDescriptor yX1_meltBeside.desc).map (fun d => d.parameters.length) = some 0) := ⟨gi_V kw_3_155 kw_3_156 kw_3_157 kw_1_4 kw_3_158, by decide +kernel⟩
theorem dX3_meltAt_55 : decode cX3_meltAt 55 = .ok (.invokevirtual 166, 3) := by decide +kernel
theorem dX3_meltAt_58 : decode cX3_meltAt 58 = .ok (.imul, 1) := by decide +kernel
theorem dX3_meltAt_59 : decode cX3_meltAt 59 = .ok (.iadd, 1) := by decide +kernel
theorem dX3_meltAt_60 : decode cX3_meltAt 60 = .ok (.ireturn, 1) := by decide +kernel
theorem dX3_sinkAt_0 : decode cX3_sinkAt 0 = .ok (.aload_n 0, 1) := by decide +kernel
theorem dX3_sinkAt_1 : decode cX3_sinkAt 1 = .ok (.aload_n 0, 1) := by decide +kernel
theorem dX3_sinkAt_2 : decode cX3_sinkAt 2 = .ok (.getfield 21, 3) := by decide +kernel
theorem dX3_sinkAt_5 : decode cX3_sinkAt 5 = .ok (.iload_n 1, 1) := by decide +kernel
theorem dX3_sinkAt_6 : decode cX3_sinkAt 6 = .ok (.iload_n 2, 1) := by decide +kernel
theorem dX3_sinkAt_7 : decode cX3_sinkAt 7 = .ok (.invokevirtual 169, 3) := by decide +kernel
theorem dX3_sinkAt_10 : decode cX3_sinkAt 10 = .ok (.invokevirtual 172, 3) := by decide +kernel
theorem dX3_sinkAt_13 : decode cX3_sinkAt 13 = .ok (.astore_n 3, 1) := by decide +kernel
theorem dX3_sinkAt_14 : decode cX3_sinkAt 14 = .ok (.aload_n 3, 1) := by decide +kernel
theorem dX3_sinkAt_15 : decode cX3_sinkAt 15 = .ok (.ifnonnull 5, 3) := by decide +kernel
theorem dX3_sinkAt_18 : decode cX3_sinkAt 18 = .ok (.iconst 0, 1) := by decide +kernel
theorem dX3_sinkAt_19 : decode cX3_sinkAt 19 = .ok (.ireturn, 1) := by decide +kernel
theorem dX3_sinkAt_20 : decode cX3_sinkAt 20 = .ok (.aload_n 0, 1) := by decide +kernel
theorem dX3_sinkAt_21 : decode cX3_sinkAt 21 = .ok (.aload_n 3, 1) := by decide +kernel
theorem dX3_sinkAt_22 : decode cX3_sinkAt 22 = .ok (.iconst 2, 1) := by decide +kernel
theorem kw_3_185 : Cond.methodLink RX3 182 yX3_lift ∈ gw := gw_t3 (List.mem_of_getElem? (i := 185) (by decide +kernel)) (by decide +kernel)
theorem kw_3_119 : Cond.instanceMethod yX3_lift ∈ gw := gw_t3 (List.mem_of_getElem? (i := 119) (by decide +kernel)) (by decide +kernel)
theorem kw_3_120 : Cond.selects RX3 yX3_lift yX3_lift ∈ gw := gw_t3 (List.mem_of_getElem? (i := 120) (by decide +kernel)) (by decide +kernel)
theorem kw_3_121 : Cond.code yX3_lift cX3_lift 3 none ∈ gw := gw_t3 (List.mem_of_getElem? (i := 121) (by decide +kernel)) (by decide +kernel)
theorem gk_X3_182 : GoodIn gw (wsV RX3 182 RX3 yX3_lift (.code yX3_lift cX3_lift 3 none :: gw)) ∧ (yX3_lift.cls = RX3 ∧ yX3_lift.cls ≠ "java/lang/invoke/MethodHandle" ∧ yX3_lift.cls ≠ "java/lang/invoke/VarHandle" ∧ (parseMethodDescriptor yX3_lift.desc).map (fun d => d.parameters.length) = some 2) := ⟨gi_V kw_3_185 kw_3_119 kw_3_120 kw_1_6 kw_3_121, by decide +kernel⟩
theorem dX3_sinkAt_23 : decode cX3_sinkAt 23 = .ok (.invokevirtual 182, 3) := by decide +kernel
theorem dX3_sinkAt_26 : decode cX3_sinkAt 26 = .ok (.iconst 1, 1) := by decide +kernel
theorem dX3_sinkAt_27 : decode cX3_sinkAt 27 = .ok (.ireturn, 1) := by decide +kernel
theorem dX3_breakMarked_17 : decode cX3_breakMarked 17 = .ok (.iload_n 3, 1) := by decide +kernel
theorem dX3_breakMarked_18 : decode cX3_breakMarked 18 = .ok (.aload_n 0, 1) := by decide +kernel
theorem dX3_breakMarked_19 : decode cX3_breakMarked 19 = .ok (.getfield 21, 3) := by decide +kernel
theorem kw_1_144 : Cond.fieldLink RX3 145 "IceFair$River" "width" "I" ∈ gw := gw_t1 (List.mem_of_getElem? (i := 144) (by decide +kernel)) (by decide +kernel)
theorem dX3_breakMarked_22 : decode cX3_breakMarked 22 = .ok (.getfield 145, 3) := by decide +kernel
theorem dX3_breakMarked_25 : decode cX3_breakMarked 25 = .ok (.if_icmp .ge 30, 3) := by decide +kernel
theorem dX3_breakMarked_28 : decode cX3_breakMarked 28 = .ok (.aload_n 0, 1) := by decide +kernel
theorem dX3_breakMarked_29 : decode cX3_breakMarked 29 = .ok (.getfield 21, 3) := by decide +kernel
theorem dX3_breakMarked_32 : decode cX3_breakMarked 32 = .ok (.iload_n 3, 1) := by decide +kernel
theorem dX3_breakMarked_33 : decode cX3_breakMarked 33 = .ok (.iload_n 2, 1) := by decide +kernel
theorem kw_3_177 : Cond.methodLink RX3 176 yX6_crackIfMarked ∈ gw := gw_t3 (List.mem_of_getElem? (i := 177) (by decide +kernel)) (by decide +kernel)
theorem kw_3_178 : Cond.instanceMethod yX6_crackIfMarked ∈ gw := gw_t3 (List.mem_of_getElem? (i := 178) (by decide +kernel)) (by decide +kernel)
theorem kw_3_179 : Cond.selects RX6 yX6_crackIfMarked yX6_crackIfMarked ∈ gw := gw_t3 (List.mem_of_getElem? (i := 179) (by decide +kernel)) (by decide +kernel)
theorem kw_3_180 : Cond.code yX6_crackIfMarked cX6_crackIfMarked 3 (some .boolean) ∈ gw := gw_t3 (List.mem_of_getElem? (i := 180) (by decide +kernel)) (by decide +kernel)
theorem gk_X3_176 : GoodIn gw (wsV RX3 176 RX6 yX6_crackIfMarked (.code yX6_crackIfMarked cX6_crackIfMarked 3 (some .boolean) :: gw)) ∧ (yX6_crackIfMarked.cls = RX6 ∧ yX6_crackIfMarked.cls ≠ "java/lang/invoke/MethodHandle" ∧ yX6_crackIfMarked.cls ≠ "java/lang/invoke/VarHandle" ∧ (parseMethodDescriptor yX6_crackIfMarked.desc).map (fun d => d.parameters.length) = some 2) := ⟨gi_V kw_3_177 kw_3_178 kw_3_179 kw_1_7 kw_3_180, by decide +kernel⟩
theorem dX3_breakMarked_34 : decode cX3_breakMarked 34 = .ok (.invokevirtual 176, 3) := by decide +kernel
theorem dX3_breakMarked_37 : decode cX3_breakMarked 37 = .ok (.ifCond .eq 12, 3) := by decide +kernel
theorem dX3_breakMarked_49 : decode cX3_breakMarked 49 = .ok (.iinc 3 1, 3) := by decide +kernel
theorem dX3_breakMarked_52 : decode cX3_breakMarked 52 = .ok (.goto (-35), 3) := by decide +kernel
theorem dX3_breakMarked_40 : decode cX3_breakMarked 40 = .ok (.iload_n 1, 1) := by decide +kernel
theorem dX3_breakMarked_41 : decode cX3_breakMarked 41 = .ok (.aload_n 0, 1) := by decide +kernel
theorem dX3_breakMarked_42 : decode cX3_breakMarked 42 = .ok (.iload_n 3, 1) := by decide +kernel
theorem dX3_breakMarked_43 : decode cX3_breakMarked 43 = .ok (.iload_n 2, 1) := by decide +kernel
theorem kw_3_181 : Cond.methodLink RX3 179 yX3_sinkAt ∈ gw := gw_t3 (List.mem_of_getElem? (i := 181) (by decide +kernel)) (by decide +kernel)
theorem kw_3_183 : Cond.instanceMethod yX3_sinkAt ∈ gw := gw_t3 (List.mem_of_getElem? (i := 183) (by decide +kernel)) (by decide +kernel)
theorem ks_1_14 : Cond.selects RX3 yX3_sinkAt yX3_sinkAt ∈ gw := gw_s (y := yX3_sinkAt) (n := 6) (List.mem_append_left _ (List.mem_of_getElem? (i := 14) (by decide +kernel)))
theorem kw_3_184 : Cond.code yX3_sinkAt cX3_sinkAt 4 (some .int) ∈ gw := gw_t3 (List.mem_of_getElem? (i := 184) (by decide +kernel)) (by decide +kernel)
theorem gk_X3_179 : GoodIn gw (wsV RX3 179 RX3 yX3_sinkAt (.code yX3_sinkAt cX3_sinkAt 4 (some .int) :: gw)) ∧ (yX3_sinkAt.cls = RX3 ∧ yX3_sinkAt.cls ≠ "java/lang/invoke/MethodHandle" ∧ yX3_sinkAt.cls ≠ "java/lang/invoke/VarHandle" ∧ (parseMethodDescriptor yX3_sinkAt.desc).map (fun d => d.parameters.length) = some 2) := ⟨gi_V kw_3_181 kw_3_183 ks_1_14 kw_1_6 kw_3_184, by decide +kernel⟩
theorem dX3_breakMarked_44 : decode cX3_breakMarked 44 = .ok (.invokevirtual 179, 3) := by decide +kernel
theorem dX3_breakMarked_47 : decode cX3_breakMarked 47 = .ok (.iadd, 1) := by decide +kernel
theorem dX3_breakMarked_48 : decode cX3_breakMarked 48 = .ok (.istore_n 1, 1) := by decide +kernel
theorem dX3_breakMarked_4 : decode cX3_breakMarked 4 = .ok (.iload_n 2, 1) := by decide +kernel
theorem dX3_breakMarked_5 : decode cX3_breakMarked 5 = .ok (.aload_n 0, 1) := by decide +kernel
theorem dX3_breakMarked_6 : decode cX3_breakMarked 6 = .ok (.getfield 21, 3) := by decide +kernel
theorem kw_1_147 : Cond.fieldLink RX3 142 "IceFair$River" "height" "I" ∈ gw := gw_t1 (List.mem_of_getElem? (i := 147) (by decide +kernel)) (by decide +kernel)
theorem dX3_breakMarked_9 : decode cX3_breakMarked 9 = .ok (.getfield 142, 3) := by decide +kernel
theorem dX3_breakMarked_12 : decode cX3_breakMarked 12 = .ok (.if_icmp .ge 49, 3) := by decide +kernel
theorem dX3_breakMarked_15 : decode cX3_breakMarked 15 = .ok (.iconst 0, 1) := by decide +kernel
theorem dX3_breakMarked_16 : decode cX3_breakMarked 16 = .ok (.istore_n 3, 1) := by decide +kernel
theorem dX3_breakMarked_55 : decode cX3_breakMarked 55 = .ok (.iinc 2 1, 3) := by decide +kernel
theorem dX3_breakMarked_58 : decode cX3_breakMarked 58 = .ok (.goto (-54), 3) := by decide +kernel
theorem dX3_breakMarked_0 : decode cX3_breakMarked 0 = .ok (.iconst 0, 1) := by decide +kernel
theorem dX3_breakMarked_1 : decode cX3_breakMarked 1 = .ok (.istore_n 1, 1) := by decide +kernel
theorem dX3_breakMarked_2 : decode cX3_breakMarked 2 = .ok (.iconst 0, 1) := by decide +kernel
theorem dX3_breakMarked_3 : decode cX3_breakMarked 3 = .ok (.istore_n 2, 1) := by decide +kernel
theorem dX3_breakMarked_61 : decode cX3_breakMarked 61 = .ok (.iload_n 1, 1) := by decide +kernel
theorem dX3_breakMarked_62 : decode cX3_breakMarked 62 = .ok (.ireturn, 1) := by decide +kernel
theorem dX3_passHour_39 : decode cX3_passHour 39 = .ok (.iload_n 3, 1) := by decide +kernel
theorem dX3_passHour_40 : decode cX3_passHour 40 = .ok (.aload_n 0, 1) := by decide +kernel
theorem dX3_passHour_41 : decode cX3_passHour 41 = .ok (.getfield 21, 3) := by decide +kernel
theorem dX3_passHour_44 : decode cX3_passHour 44 = .ok (.getfield 145, 3) := by decide +kernel
theorem dX3_passHour_47 : decode cX3_passHour 47 = .ok (.if_icmp .ge 26, 3) := by decide +kernel
theorem dX3_passHour_50 : decode cX3_passHour 50 = .ok (.aload_n 0, 1) := by decide +kernel
theorem dX3_passHour_51 : decode cX3_passHour 51 = .ok (.getfield 21, 3) := by decide +kernel
theorem dX3_passHour_54 : decode cX3_passHour 54 = .ok (.iload_n 3, 1) := by decide +kernel
theorem dX3_passHour_55 : decode cX3_passHour 55 = .ok (.iload_n 2, 1) := by decide +kernel
theorem dX3_passHour_56 : decode cX3_passHour 56 = .ok (.iload_n 1, 1) := by decide +kernel
theorem dX3_passHour_57 : decode cX3_passHour 57 = .ok (.aload_n 0, 1) := by decide +kernel
theorem dX3_passHour_58 : decode cX3_passHour 58 = .ok (.iload_n 3, 1) := by decide +kernel
theorem dX3_passHour_59 : decode cX3_passHour 59 = .ok (.iload_n 2, 1) := by decide +kernel
theorem kw_3_138 : Cond.methodLink RX3 148 yX3_meltAt ∈ gw := gw_t3 (List.mem_of_getElem? (i := 138) (by decide +kernel)) (by decide +kernel)
theorem kw_3_140 : Cond.instanceMethod yX3_meltAt ∈ gw := gw_t3 (List.mem_of_getElem? (i := 140) (by decide +kernel)) (by decide +kernel)
theorem ks_1_11 : Cond.selects RX3 yX3_meltAt yX3_meltAt ∈ gw := gw_s (y := yX3_meltAt) (n := 6) (List.mem_append_left _ (List.mem_of_getElem? (i := 11) (by decide +kernel)))
theorem kw_3_141 : Cond.code yX3_meltAt cX3_meltAt 4 (some .int) ∈ gw := gw_t3 (List.mem_of_getElem? (i := 141) (by decide +kernel)) (by decide +kernel)
theorem gk_X3_148 : GoodIn gw (wsV RX3 148 RX3 yX3_meltAt (.code yX3_meltAt cX3_meltAt 4 (some .int) :: gw)) ∧ (yX3_meltAt.cls = RX3 ∧ yX3_meltAt.cls ≠ "java/lang/invoke/MethodHandle" ∧ yX3_meltAt.cls ≠ "java/lang/invoke/VarHandle" ∧ (parseMethodDescriptor yX3_meltAt.desc).map (fun d => d.parameters.length) = some 2) := ⟨gi_V kw_3_138 kw_3_140 ks_1_11 kw_1_6 kw_3_141, by decide +kernel⟩
theorem dX3_passHour_60 : decode cX3_passHour 60 = .ok (.invokevirtual 148, 3) := by decide +kernel
theorem dX3_passHour_63 : decode cX3_passHour 63 = .ok (.isub, 1) := by decide +kernel
theorem kw_3_159 : Cond.methodLink RX3 151 yX6_thicken ∈ gw := gw_t3 (List.mem_of_getElem? (i := 159) (by decide +kernel)) (by decide +kernel)
theorem kw_3_160 : Cond.instanceMethod yX6_thicken ∈ gw := gw_t3 (List.mem_of_getElem? (i := 160) (by decide +kernel)) (by decide +kernel)
theorem kw_3_161 : Cond.selects RX6 yX6_thicken yX6_thicken ∈ gw := gw_t3 (List.mem_of_getElem? (i := 161) (by decide +kernel)) (by decide +kernel)
theorem kw_3_162 : Cond.code yX6_thicken cX6_thicken 5 none ∈ gw := gw_t3 (List.mem_of_getElem? (i := 162) (by decide +kernel)) (by decide +kernel)
theorem gk_X3_151 : GoodIn gw (wsV RX3 151 RX6 yX6_thicken (.code yX6_thicken cX6_thicken 5 none :: gw)) ∧ (yX6_thicken.cls = RX6 ∧ yX6_thicken.cls ≠ "java/lang/invoke/MethodHandle" ∧ yX6_thicken.cls ≠ "java/lang/invoke/VarHandle" ∧ (parseMethodDescriptor yX6_thicken.desc).map (fun d => d.parameters.length) = some 3) := ⟨gi_V kw_3_159 kw_3_160 kw_3_161 kw_1_7 kw_3_162, by decide +kernel⟩
theorem dX3_passHour_64 : decode cX3_passHour 64 = .ok (.invokevirtual 151, 3) := by decide +kernel
theorem dX3_passHour_67 : decode cX3_passHour 67 = .ok (.iinc 3 1, 3) := by decide +kernel
theorem dX3_passHour_70 : decode cX3_passHour 70 = .ok (.goto (-31), 3) := by decide +kernel
theorem dX3_passHour_26 : decode cX3_passHour 26 = .ok (.iload_n 2, 1) := by decide +kernel
theorem dX3_passHour_27 : decode cX3_passHour 27 = .ok (.aload_n 0, 1) := by decide +kernel
theorem dX3_passHour_28 : decode cX3_passHour 28 = .ok (.getfield 21, 3) := by decide +kernel
theorem dX3_passHour_31 : decode cX3_passHour 31 = .ok (.getfield 142, 3) := by decide +kernel
theorem dX3_passHour_34 : decode cX3_passHour 34 = .ok (.if_icmp .ge 45, 3) := by decide +kernel
theorem dX3_passHour_37 : decode cX3_passHour 37 = .ok (.iconst 0, 1) := by decide +kernel
theorem dX3_passHour_38 : decode cX3_passHour 38 = .ok (.istore_n 3, 1) := by decide +kernel
theorem dX3_passHour_73 : decode cX3_passHour 73 = .ok (.iinc 2 1, 3) := by decide +kernel
theorem dX3_passHour_76 : decode cX3_passHour 76 = .ok (.goto (-50), 3) := by decide +kernel
theorem dX3_passHour_83 : decode cX3_passHour 83 = .ok (.iload_n 3, 1) := by decide +kernel
theorem dX3_passHour_84 : decode cX3_passHour 84 = .ok (.bipush 100, 2) := by decide +kernel
theorem dX3_passHour_86 : decode cX3_passHour 86 = .ok (.if_icmp .ge 33, 3) := by decide +kernel
theorem dX3_passHour_89 : decode cX3_passHour 89 = .ok (.aload_n 0, 1) := by decide +kernel
theorem dX3_passHour_90 : decode cX3_passHour 90 = .ok (.getfield 21, 3) := by decide +kernel
theorem dX3_passHour_93 : decode cX3_passHour 93 = .ok (.aload_n 0, 1) := by decide +kernel
theorem dX3_passHour_94 : decode cX3_passHour 94 = .ok (.getfield 12, 3) := by decide +kernel
theorem dX3_passHour_97 : decode cX3_passHour 97 = .ok (.invokevirtual 80, 3) := by decide +kernel
theorem kw_3_169 : Cond.methodLink RX3 154 yX6_markBreaking ∈ gw := gw_t3 (List.mem_of_getElem? (i := 169) (by decide +kernel)) (by decide +kernel)
theorem kw_3_170 : Cond.instanceMethod yX6_markBreaking ∈ gw := gw_t3 (List.mem_of_getElem? (i := 170) (by decide +kernel)) (by decide +kernel)
theorem kw_3_171 : Cond.selects RX6 yX6_markBreaking yX6_markBreaking ∈ gw := gw_t3 (List.mem_of_getElem? (i := 171) (by decide +kernel)) (by decide +kernel)
theorem kw_3_172 : Cond.code yX6_markBreaking cX6_markBreaking 7 (some .boolean) ∈ gw := gw_t3 (List.mem_of_getElem? (i := 172) (by decide +kernel)) (by decide +kernel)
theorem gk_X3_154 : GoodIn gw (wsV RX3 154 RX6 yX6_markBreaking (.code yX6_markBreaking cX6_markBreaking 7 (some .boolean) :: gw)) ∧ (yX6_markBreaking.cls = RX6 ∧ yX6_markBreaking.cls ≠ "java/lang/invoke/MethodHandle" ∧ yX6_markBreaking.cls ≠ "java/lang/invoke/VarHandle" ∧ (parseMethodDescriptor yX6_markBreaking.desc).map (fun d => d.parameters.length) = some 1) := ⟨gi_V kw_3_169 kw_3_170 kw_3_171 kw_1_7 kw_3_172, by decide +kernel⟩
theorem dX3_passHour_100 : decode cX3_passHour 100 = .ok (.invokevirtual 154, 3) := by decide +kernel
theorem dX3_passHour_103 : decode cX3_passHour 103 = .ok (.ifCond .eq 16, 3) := by decide +kernel
theorem dX3_passHour_106 : decode cX3_passHour 106 = .ok (.iload_n 2, 1) := by decide +kernel
theorem dX3_passHour_107 : decode cX3_passHour 107 = .ok (.aload_n 0, 1) := by decide +kernel
theorem kw_3_173 : Cond.methodLink RX3 157 yX3_breakMarked ∈ gw := gw_t3 (List.mem_of_getElem? (i := 173) (by decide +kernel)) (by decide +kernel)
theorem kw_3_175 : Cond.instanceMethod yX3_breakMarked ∈ gw := gw_t3 (List.mem_of_getElem? (i := 175) (by decide +kernel)) (by decide +kernel)
theorem ks_1_13 : Cond.selects RX3 yX3_breakMarked yX3_breakMarked ∈ gw := gw_s (y := yX3_breakMarked) (n := 6) (List.mem_append_left _ (List.mem_of_getElem? (i := 13) (by decide +kernel)))
theorem kw_3_176 : Cond.code yX3_breakMarked cX3_breakMarked 4 (some .int) ∈ gw := gw_t3 (List.mem_of_getElem? (i := 176) (by decide +kernel)) (by decide +kernel)
theorem gk_X3_157 : GoodIn gw (wsV RX3 157 RX3 yX3_breakMarked (.code yX3_breakMarked cX3_breakMarked 4 (some .int) :: gw)) ∧ (yX3_breakMarked.cls = RX3 ∧ yX3_breakMarked.cls ≠ "java/lang/invoke/MethodHandle" ∧ yX3_breakMarked.cls ≠ "java/lang/invoke/VarHandle" ∧ (parseMethodDescriptor yX3_breakMarked.desc).map (fun d => d.parameters.length) = some 0) := ⟨gi_V kw_3_173 kw_3_175 ks_1_13 kw_1_6 kw_3_176, by decide +kernel⟩
theorem dX3_passHour_108 : decode cX3_passHour 108 = .ok (.invokevirtual 157, 3) := by decide +kernel
theorem dX3_passHour_111 : decode cX3_passHour 111 = .ok (.iadd, 1) := by decide +kernel
theorem dX3_passHour_112 : decode cX3_passHour 112 = .ok (.istore_n 2, 1) := by decide +kernel
theorem dX3_passHour_113 : decode cX3_passHour 113 = .ok (.iinc 3 1, 3) := by decide +kernel
theorem dX3_passHour_116 : decode cX3_passHour 116 = .ok (.goto (-33), 3) := by decide +kernel
theorem dX3_passHour_0 : decode cX3_passHour 0 = .ok (.aload_n 0, 1) := by decide +kernel
theorem dX3_passHour_1 : decode cX3_passHour 1 = .ok (.dup, 1) := by decide +kernel
theorem kw_1_230 : Cond.fieldLink RX3 40 "IceFair$Fair" "hours" "I" ∈ gw := gw_t1 (List.mem_of_getElem? (i := 230) (by decide +kernel)) (by decide +kernel)
theorem dX3_passHour_2 : decode cX3_passHour 2 = .ok (.getfield 40, 3) := by decide +kernel
theorem dX3_passHour_5 : decode cX3_passHour 5 = .ok (.iconst 1, 1) := by decide +kernel
theorem dX3_passHour_6 : decode cX3_passHour 6 = .ok (.iadd, 1) := by decide +kernel
theorem dX3_passHour_7 : decode cX3_passHour 7 = .ok (.putfield 40, 3) := by decide +kernel
theorem dX3_passHour_10 : decode cX3_passHour 10 = .ok (.aload_n 0, 1) := by decide +kernel
theorem dX3_passHour_11 : decode cX3_passHour 11 = .ok (.getfield 21, 3) := by decide +kernel
theorem dX3_passHour_14 : decode cX3_passHour 14 = .ok (.aload_n 0, 1) := by decide +kernel
theorem dX3_passHour_15 : decode cX3_passHour 15 = .ok (.getfield 12, 3) := by decide +kernel
theorem kw_3_130 : Cond.methodLink RX3 135 yX1_heal ∈ gw := gw_t3 (List.mem_of_getElem? (i := 130) (by decide +kernel)) (by decide +kernel)
theorem kw_3_131 : Cond.instanceMethod yX1_heal ∈ gw := gw_t3 (List.mem_of_getElem? (i := 131) (by decide +kernel)) (by decide +kernel)
theorem kw_3_132 : Cond.selects RX1 yX1_heal yX1_heal ∈ gw := gw_t3 (List.mem_of_getElem? (i := 132) (by decide +kernel)) (by decide +kernel)
theorem kw_3_133 : Cond.code yX1_heal cX1_heal 1 (some .int) ∈ gw := gw_t3 (List.mem_of_getElem? (i := 133) (by decide +kernel)) (by decide +kernel)
theorem gk_X3_135 : GoodIn gw (wsV RX3 135 RX1 yX1_heal (.code yX1_heal cX1_heal 1 (some .int) :: gw)) ∧ (yX1_heal.cls = RX1 ∧ yX1_heal.cls ≠ "java/lang/invoke/MethodHandle" ∧ yX1_heal.cls ≠ "java/lang/invoke/VarHandle" ∧ (parseMethodDescriptor yX1_heal.desc).map (fun d => d.parameters.length) = some 0) := ⟨gi_V kw_3_130 kw_3_131 kw_3_132 kw_1_4 kw_3_133, by decide +kernel⟩
theorem dX3_passHour_18 : decode cX3_passHour 18 = .ok (.invokevirtual 135, 3) := by decide +kernel
theorem kw_3_134 : Cond.methodLink RX3 138 yX6_healFrom ∈ gw := gw_t3 (List.mem_of_getElem? (i := 134) (by decide +kernel)) (by decide +kernel)
theorem kw_3_135 : Cond.instanceMethod yX6_healFrom ∈ gw := gw_t3 (List.mem_of_getElem? (i := 135) (by decide +kernel)) (by decide +kernel)
theorem kw_3_136 : Cond.selects RX6 yX6_healFrom yX6_healFrom ∈ gw := gw_t3 (List.mem_of_getElem? (i := 136) (by decide +kernel)) (by decide +kernel)
theorem kw_3_137 : Cond.code yX6_healFrom cX6_healFrom 3 none ∈ gw := gw_t3 (List.mem_of_getElem? (i := 137) (by decide +kernel)) (by decide +kernel)
theorem gk_X3_138 : GoodIn gw (wsV RX3 138 RX6 yX6_healFrom (.code yX6_healFrom cX6_healFrom 3 none :: gw)) ∧ (yX6_healFrom.cls = RX6 ∧ yX6_healFrom.cls ≠ "java/lang/invoke/MethodHandle" ∧ yX6_healFrom.cls ≠ "java/lang/invoke/VarHandle" ∧ (parseMethodDescriptor yX6_healFrom.desc).map (fun d => d.parameters.length) = some 1) := ⟨gi_V kw_3_134 kw_3_135 kw_3_136 kw_1_7 kw_3_137, by decide +kernel⟩
theorem dX3_passHour_21 : decode cX3_passHour 21 = .ok (.invokevirtual 138, 3) := by decide +kernel
theorem dX3_passHour_24 : decode cX3_passHour 24 = .ok (.iconst 0, 1) := by decide +kernel
theorem dX3_passHour_25 : decode cX3_passHour 25 = .ok (.istore_n 2, 1) := by decide +kernel
theorem dX3_passHour_79 : decode cX3_passHour 79 = .ok (.iconst 0, 1) := by decide +kernel
theorem dX3_passHour_80 : decode cX3_passHour 80 = .ok (.istore_n 2, 1) := by decide +kernel
theorem dX3_passHour_81 : decode cX3_passHour 81 = .ok (.iconst 0, 1) := by decide +kernel
theorem dX3_passHour_82 : decode cX3_passHour 82 = .ok (.istore_n 3, 1) := by decide +kernel
theorem dX3_passHour_119 : decode cX3_passHour 119 = .ok (.iload_n 2, 1) := by decide +kernel
theorem dX3_passHour_120 : decode cX3_passHour 120 = .ok (.ireturn, 1) := by decide +kernel