theorem dX8_measure_7 : decode cX8_measure 7 = .ok (.iload_n 2, 1) := by decide +kernel
theorem dX8_measure_8 : decode cX8_measure 8 = .ok (.aload_n 1, 1) := by decide +kernel
theorem kw_1_228 : Cond.fieldLink RX8 71 "IceFair$Fair" "boothCount" "I" ∈ gw := gw_t1 (List.mem_of_getElem? (i := 228) (by decide +kernel)) (by decide +kernel)
theorem dX8_measure_9 : decode cX8_measure 9 = .ok (.getfield 71, 3) := by decide +kernel
theorem dX8_measure_12 : decode cX8_measure 12 = .ok (.if_icmp .ge 52, 3) := by decide +kernel
theorem dX8_measure_15 : decode cX8_measure 15 = .ok (.iload_n 2, 1) := by decide +kernel
theorem dX8_measure_16 : decode cX8_measure 16 = .ok (.bipush 10, 2) := by decide +kernel
theorem dX8_measure_18 : decode cX8_measure 18 = .ok (.if_icmp .ge 46, 3) := by decide +kernel
theorem dX8_measure_21 : decode cX8_measure 21 = .ok (.aload_n 1, 1) := by decide +kernel
theorem kw_1_225 : Cond.fieldLink RX8 91 "IceFair$Fair" "booths" "[LIceFair$Booth;" ∈ gw := gw_t1 (List.mem_of_getElem? (i := 225) (by decide +kernel)) (by decide +kernel)
theorem dX8_measure_22 : decode cX8_measure 22 = .ok (.getfield 91, 3) := by decide +kernel
theorem dX8_measure_25 : decode cX8_measure 25 = .ok (.iload_n 2, 1) := by decide +kernel
theorem dX8_measure_26 : decode cX8_measure 26 = .ok (.aaload, 1) := by decide +kernel
theorem kw_1_190 : Cond.fieldLink RX8 24 "IceFair$Booth" "state" "I" ∈ gw := gw_t1 (List.mem_of_getElem? (i := 190) (by decide +kernel)) (by decide +kernel)
theorem dX8_measure_27 : decode cX8_measure 27 = .ok (.getfield 24, 3) := by decide +kernel
theorem dX8_measure_30 : decode cX8_measure 30 = .ok (.iconst 1, 1) := by decide +kernel
theorem dX8_measure_31 : decode cX8_measure 31 = .ok (.if_icmp .ne 27, 3) := by decide +kernel
theorem dX8_measure_58 : decode cX8_measure 58 = .ok (.iinc 2 1, 3) := by decide +kernel
theorem dX8_measure_61 : decode cX8_measure 61 = .ok (.goto (-54), 3) := by decide +kernel
theorem dX8_measure_34 : decode cX8_measure 34 = .ok (.aload_n 1, 1) := by decide +kernel
theorem dX8_measure_35 : decode cX8_measure 35 = .ok (.getfield 91, 3) := by decide +kernel
theorem dX8_measure_38 : decode cX8_measure 38 = .ok (.iload_n 2, 1) := by decide +kernel
theorem dX8_measure_39 : decode cX8_measure 39 = .ok (.aaload, 1) := by decide +kernel
theorem kw_1_189 : Cond.fieldLink RX8 95 "IceFair$Booth" "crowd" "I" ∈ gw := gw_t1 (List.mem_of_getElem? (i := 189) (by decide +kernel)) (by decide +kernel)
theorem dX8_measure_40 : decode cX8_measure 40 = .ok (.getfield 95, 3) := by decide +kernel
theorem dX8_measure_43 : decode cX8_measure 43 = .ok (.ifCond .le 15, 3) := by decide +kernel
theorem dX8_measure_46 : decode cX8_measure 46 = .ok (.aload_n 0, 1) := by decide +kernel
theorem dX8_measure_47 : decode cX8_measure 47 = .ok (.dup, 1) := by decide +kernel
theorem kw_2_53 : Cond.fieldLink RX8 74 "IceFair$WayOff" "crowded" "I" ∈ gw := gw_t2 (List.mem_of_getElem? (i := 53) (by decide +kernel)) (by decide +kernel)
theorem dX8_measure_48 : decode cX8_measure 48 = .ok (.getfield 74, 3) := by decide +kernel
theorem dX8_measure_51 : decode cX8_measure 51 = .ok (.iconst 1, 1) := by decide +kernel
theorem dX8_measure_52 : decode cX8_measure 52 = .ok (.iload_n 2, 1) := by decide +kernel
theorem dX8_measure_53 : decode cX8_measure 53 = .ok (.ishl, 1) := by decide +kernel
theorem dX8_measure_54 : decode cX8_measure 54 = .ok (.ior, 1) := by decide +kernel
theorem dX8_measure_55 : decode cX8_measure 55 = .ok (.putfield 74, 3) := by decide +kernel
theorem dX8_measure_90 : decode cX8_measure 90 = .ok (.iload_n 3, 1) := by decide +kernel
theorem dX8_measure_91 : decode cX8_measure 91 = .ok (.aload_n 1, 1) := by decide +kernel
theorem dX8_measure_92 : decode cX8_measure 92 = .ok (.getfield 71, 3) := by decide +kernel
theorem dX8_measure_95 : decode cX8_measure 95 = .ok (.if_icmp .ge 51, 3) := by decide +kernel
theorem dX8_measure_98 : decode cX8_measure 98 = .ok (.iload_n 3, 1) := by decide +kernel
theorem dX8_measure_99 : decode cX8_measure 99 = .ok (.bipush 10, 2) := by decide +kernel
theorem dX8_measure_101 : decode cX8_measure 101 = .ok (.if_icmp .ge 45, 3) := by decide +kernel
theorem dX8_measure_104 : decode cX8_measure 104 = .ok (.aload_n 1, 1) := by decide +kernel
theorem dX8_measure_105 : decode cX8_measure 105 = .ok (.getfield 91, 3) := by decide +kernel
theorem dX8_measure_108 : decode cX8_measure 108 = .ok (.iload_n 3, 1) := by decide +kernel
theorem dX8_measure_109 : decode cX8_measure 109 = .ok (.aaload, 1) := by decide +kernel
theorem dX8_measure_110 : decode cX8_measure 110 = .ok (.astore 4, 2) := by decide +kernel
theorem dX8_measure_112 : decode cX8_measure 112 = .ok (.aload_n 0, 1) := by decide +kernel
theorem dX8_measure_113 : decode cX8_measure 113 = .ok (.getfield 18, 3) := by decide +kernel
theorem dX8_measure_116 : decode cX8_measure 116 = .ok (.iload_n 3, 1) := by decide +kernel
theorem dX8_measure_117 : decode cX8_measure 117 = .ok (.iconst 4, 1) := by decide +kernel
theorem dX8_measure_118 : decode cX8_measure 118 = .ok (.imul, 1) := by decide +kernel
theorem dX8_measure_119 : decode cX8_measure 119 = .ok (.iload_n 2, 1) := by decide +kernel
theorem dX8_measure_120 : decode cX8_measure 120 = .ok (.iadd, 1) := by decide +kernel
theorem dX8_measure_121 : decode cX8_measure 121 = .ok (.aload_n 0, 1) := by decide +kernel
theorem dX8_measure_122 : decode cX8_measure 122 = .ok (.aload_n 1, 1) := by decide +kernel
theorem dX8_measure_123 : decode cX8_measure 123 = .ok (.getfield 45, 3) := by decide +kernel
theorem dX8_measure_126 : decode cX8_measure 126 = .ok (.aload 4, 2) := by decide +kernel
theorem kw_1_194 : Cond.fieldLink RX8 49 "IceFair$Booth" "x" "I" ∈ gw := gw_t1 (List.mem_of_getElem? (i := 194) (by decide +kernel)) (by decide +kernel)
theorem dX8_measure_128 : decode cX8_measure 128 = .ok (.getfield 49, 3) := by decide +kernel
theorem dX8_measure_131 : decode cX8_measure 131 = .ok (.aload 4, 2) := by decide +kernel
theorem kw_1_197 : Cond.fieldLink RX8 52 "IceFair$Booth" "y" "I" ∈ gw := gw_t1 (List.mem_of_getElem? (i := 197) (by decide +kernel)) (by decide +kernel)
theorem dX8_measure_133 : decode cX8_measure 133 = .ok (.getfield 52, 3) := by decide +kernel
theorem kw_4_16 : Cond.methodLink RX8 55 yX8_stepsFrom ∈ gw := gw_t4 (List.mem_of_getElem? (i := 16) (by decide +kernel)) (by decide +kernel)
theorem kw_4_18 : Cond.instanceMethod yX8_stepsFrom ∈ gw := gw_t4 (List.mem_of_getElem? (i := 18) (by decide +kernel)) (by decide +kernel)
theorem ks_2_9 : Cond.selects RX8 yX8_stepsFrom yX8_stepsFrom ∈ gw := gw_s (y := yX8_stepsFrom) (n := 6) (List.mem_append_right _ (List.mem_append_left _ (List.mem_of_getElem? (i := 9) (by decide +kernel))))
theorem kw_4_19 : Cond.code yX8_stepsFrom cX8_stepsFrom 5 (some .int) ∈ gw := gw_t4 (List.mem_of_getElem? (i := 19) (by decide +kernel)) (by decide +kernel)
theorem gk_X8_55 : GoodIn gw (wsV RX8 55 RX8 yX8_stepsFrom (.code yX8_stepsFrom cX8_stepsFrom 5 (some .int) :: gw)) ∧ (yX8_stepsFrom.cls = RX8 ∧ yX8_stepsFrom.cls ≠ "java/lang/invoke/MethodHandle" ∧ yX8_stepsFrom.cls ≠ "java/lang/invoke/VarHandle" ∧ (parseMethodDescriptor yX8_stepsFrom.desc).map (fun d => d.parameters.length) = some 3) := ⟨gi_V kw_4_16 kw_4_18 ks_2_9 kw_1_10 kw_4_19, by decide +kernel⟩
theorem dX8_measure_136 : decode cX8_measure 136 = .ok (.invokevirtual 55, 3) := by decide +kernel
theorem dX8_measure_139 : decode cX8_measure 139 = .ok (.iastore, 1) := by decide +kernel
theorem dX8_measure_140 : decode cX8_measure 140 = .ok (.iinc 3 1, 3) := by decide +kernel
theorem dX8_measure_143 : decode cX8_measure 143 = .ok (.goto (-53), 3) := by decide +kernel
theorem dX8_measure_66 : decode cX8_measure 66 = .ok (.iload_n 2, 1) := by decide +kernel
theorem dX8_measure_67 : decode cX8_measure 67 = .ok (.aload_n 1, 1) := by decide +kernel
theorem dX8_measure_68 : decode cX8_measure 68 = .ok (.getfield 30, 3) := by decide +kernel
theorem kw_1_107 : Cond.fieldLink RX8 36 "IceFair$Customs" "stairCount" "I" ∈ gw := gw_t1 (List.mem_of_getElem? (i := 107) (by decide +kernel)) (by decide +kernel)
theorem dX8_measure_71 : decode cX8_measure 71 = .ok (.getfield 36, 3) := by decide +kernel
theorem dX8_measure_74 : decode cX8_measure 74 = .ok (.if_icmp .ge 78, 3) := by decide +kernel
theorem dX8_measure_77 : decode cX8_measure 77 = .ok (.iload_n 2, 1) := by decide +kernel
theorem dX8_measure_78 : decode cX8_measure 78 = .ok (.iconst 4, 1) := by decide +kernel
theorem dX8_measure_79 : decode cX8_measure 79 = .ok (.if_icmp .ge 73, 3) := by decide +kernel
theorem dX8_measure_82 : decode cX8_measure 82 = .ok (.aload_n 0, 1) := by decide +kernel
theorem dX8_measure_83 : decode cX8_measure 83 = .ok (.aload_n 1, 1) := by decide +kernel
theorem dX8_measure_84 : decode cX8_measure 84 = .ok (.iload_n 2, 1) := by decide +kernel
theorem kw_4_6 : Cond.methodLink RX8 41 yX8_spreadFrom ∈ gw := gw_t4 (List.mem_of_getElem? (i := 6) (by decide +kernel)) (by decide +kernel)
theorem kw_4_8 : Cond.instanceMethod yX8_spreadFrom ∈ gw := gw_t4 (List.mem_of_getElem? (i := 8) (by decide +kernel)) (by decide +kernel)
theorem ks_2_7 : Cond.selects RX8 yX8_spreadFrom yX8_spreadFrom ∈ gw := gw_s (y := yX8_spreadFrom) (n := 6) (List.mem_append_right _ (List.mem_append_left _ (List.mem_of_getElem? (i := 7) (by decide +kernel))))
theorem kw_4_9 : Cond.code yX8_spreadFrom cX8_spreadFrom 7 none ∈ gw := gw_t4 (List.mem_of_getElem? (i := 9) (by decide +kernel)) (by decide +kernel)
theorem gk_X8_41 : GoodIn gw (wsV RX8 41 RX8 yX8_spreadFrom (.code yX8_spreadFrom cX8_spreadFrom 7 none :: gw)) ∧ (yX8_spreadFrom.cls = RX8 ∧ yX8_spreadFrom.cls ≠ "java/lang/invoke/MethodHandle" ∧ yX8_spreadFrom.cls ≠ "java/lang/invoke/VarHandle" ∧ (parseMethodDescriptor yX8_spreadFrom.desc).map (fun d => d.parameters.length) = some 2) := ⟨gi_V kw_4_6 kw_4_8 ks_2_7 kw_1_10 kw_4_9, by decide +kernel⟩
theorem dX8_measure_85 : decode cX8_measure 85 = .ok (.invokevirtual 41, 3) := by decide +kernel
theorem dX8_measure_88 : decode cX8_measure 88 = .ok (.iconst 0, 1) := by decide +kernel
theorem dX8_measure_89 : decode cX8_measure 89 = .ok (.istore_n 3, 1) := by decide +kernel
theorem dX8_measure_146 : decode cX8_measure 146 = .ok (.iinc 2 1, 3) := by decide +kernel
theorem dX8_measure_149 : decode cX8_measure 149 = .ok (.goto (-83), 3) := by decide +kernel
theorem dX8_measure_0 : decode cX8_measure 0 = .ok (.aload_n 0, 1) := by decide +kernel
theorem dX8_measure_1 : decode cX8_measure 1 = .ok (.iconst 0, 1) := by decide +kernel
theorem dX8_measure_2 : decode cX8_measure 2 = .ok (.putfield 74, 3) := by decide +kernel
theorem dX8_measure_5 : decode cX8_measure 5 = .ok (.iconst 0, 1) := by decide +kernel
theorem dX8_measure_6 : decode cX8_measure 6 = .ok (.istore_n 2, 1) := by decide +kernel
theorem dX8_measure_64 : decode cX8_measure 64 = .ok (.iconst 0, 1) := by decide +kernel
theorem dX8_measure_65 : decode cX8_measure 65 = .ok (.istore_n 2, 1) := by decide +kernel
theorem dX8_measure_152 : decode cX8_measure 152 = .ok (.return_, 1) := by decide +kernel
theorem dX8_reachesSomeStair_2 : decode cX8_reachesSomeStair 2 = .ok (.iload_n 3, 1) := by decide +kernel
theorem dX8_reachesSomeStair_3 : decode cX8_reachesSomeStair 3 = .ok (.aload_n 1, 1) := by decide +kernel
theorem dX8_reachesSomeStair_4 : decode cX8_reachesSomeStair 4 = .ok (.getfield 30, 3) := by decide +kernel
theorem dX8_reachesSomeStair_7 : decode cX8_reachesSomeStair 7 = .ok (.getfield 36, 3) := by decide +kernel
theorem dX8_reachesSomeStair_10 : decode cX8_reachesSomeStair 10 = .ok (.if_icmp .ge 30, 3) := by decide +kernel
theorem dX8_reachesSomeStair_13 : decode cX8_reachesSomeStair 13 = .ok (.iload_n 3, 1) := by decide +kernel
theorem dX8_reachesSomeStair_14 : decode cX8_reachesSomeStair 14 = .ok (.iconst 4, 1) := by decide +kernel
theorem dX8_reachesSomeStair_15 : decode cX8_reachesSomeStair 15 = .ok (.if_icmp .ge 25, 3) := by decide +kernel
theorem dX8_reachesSomeStair_18 : decode cX8_reachesSomeStair 18 = .ok (.aload_n 0, 1) := by decide +kernel
theorem dX8_reachesSomeStair_19 : decode cX8_reachesSomeStair 19 = .ok (.getfield 18, 3) := by decide +kernel
theorem dX8_reachesSomeStair_22 : decode cX8_reachesSomeStair 22 = .ok (.iload_n 2, 1) := by decide +kernel
theorem dX8_reachesSomeStair_23 : decode cX8_reachesSomeStair 23 = .ok (.iconst 4, 1) := by decide +kernel
theorem dX8_reachesSomeStair_24 : decode cX8_reachesSomeStair 24 = .ok (.imul, 1) := by decide +kernel
theorem dX8_reachesSomeStair_25 : decode cX8_reachesSomeStair 25 = .ok (.iload_n 3, 1) := by decide +kernel
theorem dX8_reachesSomeStair_26 : decode cX8_reachesSomeStair 26 = .ok (.iadd, 1) := by decide +kernel
theorem dX8_reachesSomeStair_27 : decode cX8_reachesSomeStair 27 = .ok (.iaload, 1) := by decide +kernel
theorem dX8_reachesSomeStair_28 : decode cX8_reachesSomeStair 28 = .ok (.iconst (-1), 1) := by decide +kernel
theorem dX8_reachesSomeStair_29 : decode cX8_reachesSomeStair 29 = .ok (.if_icmp .eq 5, 3) := by decide +kernel
theorem dX8_reachesSomeStair_34 : decode cX8_reachesSomeStair 34 = .ok (.iinc 3 1, 3) := by decide +kernel
theorem dX8_reachesSomeStair_37 : decode cX8_reachesSomeStair 37 = .ok (.goto (-35), 3) := by decide +kernel
theorem dX8_reachesSomeStair_0 : decode cX8_reachesSomeStair 0 = .ok (.iconst 0, 1) := by decide +kernel
theorem dX8_reachesSomeStair_1 : decode cX8_reachesSomeStair 1 = .ok (.istore_n 3, 1) := by decide +kernel
theorem dX8_reachesSomeStair_32 : decode cX8_reachesSomeStair 32 = .ok (.iconst 1, 1) := by decide +kernel
theorem dX8_reachesSomeStair_33 : decode cX8_reachesSomeStair 33 = .ok (.ireturn, 1) := by decide +kernel
theorem dX8_reachesSomeStair_40 : decode cX8_reachesSomeStair 40 = .ok (.iconst 0, 1) := by decide +kernel
theorem dX8_reachesSomeStair_41 : decode cX8_reachesSomeStair 41 = .ok (.ireturn, 1) := by decide +kernel
theorem dX8_hasSomebodyStuck_2 : decode cX8_hasSomebodyStuck 2 = .ok (.iload_n 2, 1) := by decide +kernel
theorem dX8_hasSomebodyStuck_3 : decode cX8_hasSomebodyStuck 3 = .ok (.aload_n 1, 1) := by decide +kernel
theorem dX8_hasSomebodyStuck_4 : decode cX8_hasSomebodyStuck 4 = .ok (.getfield 71, 3) := by decide +kernel
theorem dX8_hasSomebodyStuck_7 : decode cX8_hasSomebodyStuck 7 = .ok (.if_icmp .ge 38, 3) := by decide +kernel
theorem dX8_hasSomebodyStuck_10 : decode cX8_hasSomebodyStuck 10 = .ok (.iload_n 2, 1) := by decide +kernel
theorem dX8_hasSomebodyStuck_11 : decode cX8_hasSomebodyStuck 11 = .ok (.bipush 10, 2) := by decide +kernel
theorem dX8_hasSomebodyStuck_13 : decode cX8_hasSomebodyStuck 13 = .ok (.if_icmp .ge 32, 3) := by decide +kernel
theorem dX8_hasSomebodyStuck_16 : decode cX8_hasSomebodyStuck 16 = .ok (.aload_n 0, 1) := by decide +kernel
theorem dX8_hasSomebodyStuck_17 : decode cX8_hasSomebodyStuck 17 = .ok (.getfield 74, 3) := by decide +kernel
theorem dX8_hasSomebodyStuck_20 : decode cX8_hasSomebodyStuck 20 = .ok (.iload_n 2, 1) := by decide +kernel
theorem dX8_hasSomebodyStuck_21 : decode cX8_hasSomebodyStuck 21 = .ok (.ishr, 1) := by decide +kernel
theorem dX8_hasSomebodyStuck_22 : decode cX8_hasSomebodyStuck 22 = .ok (.iconst 1, 1) := by decide +kernel
theorem dX8_hasSomebodyStuck_23 : decode cX8_hasSomebodyStuck 23 = .ok (.iand, 1) := by decide +kernel
theorem dX8_hasSomebodyStuck_24 : decode cX8_hasSomebodyStuck 24 = .ok (.iconst 1, 1) := by decide +kernel
theorem dX8_hasSomebodyStuck_25 : decode cX8_hasSomebodyStuck 25 = .ok (.if_icmp .ne 14, 3) := by decide +kernel
theorem dX8_hasSomebodyStuck_39 : decode cX8_hasSomebodyStuck 39 = .ok (.iinc 2 1, 3) := by decide +kernel
theorem dX8_hasSomebodyStuck_42 : decode cX8_hasSomebodyStuck 42 = .ok (.goto (-40), 3) := by decide +kernel
theorem dX8_hasSomebodyStuck_28 : decode cX8_hasSomebodyStuck 28 = .ok (.aload_n 0, 1) := by decide +kernel
theorem dX8_hasSomebodyStuck_29 : decode cX8_hasSomebodyStuck 29 = .ok (.aload_n 1, 1) := by decide +kernel
theorem dX8_hasSomebodyStuck_30 : decode cX8_hasSomebodyStuck 30 = .ok (.iload_n 2, 1) := by decide +kernel
theorem kw_4_33 : Cond.methodLink RX8 98 yX8_reachesSomeStair ∈ gw := gw_t4 (List.mem_of_getElem? (i := 33) (by decide +kernel)) (by decide +kernel)
theorem kw_4_35 : Cond.instanceMethod yX8_reachesSomeStair ∈ gw := gw_t4 (List.mem_of_getElem? (i := 35) (by decide +kernel)) (by decide +kernel)
theorem ks_2_12 : Cond.selects RX8 yX8_reachesSomeStair yX8_reachesSomeStair ∈ gw := gw_s (y := yX8_reachesSomeStair) (n := 6) (List.mem_append_right _ (List.mem_append_left _ (List.mem_of_getElem? (i := 12) (by decide +kernel))))
theorem kw_4_36 : Cond.code yX8_reachesSomeStair cX8_reachesSomeStair 4 (some .boolean) ∈ gw := gw_t4 (List.mem_of_getElem? (i := 36) (by decide +kernel)) (by decide +kernel)
theorem gk_X8_98 : GoodIn gw (wsV RX8 98 RX8 yX8_reachesSomeStair (.code yX8_reachesSomeStair cX8_reachesSomeStair 4 (some .boolean) :: gw)) ∧ (yX8_reachesSomeStair.cls = RX8 ∧ yX8_reachesSomeStair.cls ≠ "java/lang/invoke/MethodHandle" ∧ yX8_reachesSomeStair.cls ≠ "java/lang/invoke/VarHandle" ∧ (parseMethodDescriptor yX8_reachesSomeStair.desc).map (fun d => d.parameters.length) = some 2) := ⟨gi_V kw_4_33 kw_4_35 ks_2_12 kw_1_10 kw_4_36, by decide +kernel⟩
theorem dX8_hasSomebodyStuck_31 : decode cX8_hasSomebodyStuck 31 = .ok (.invokevirtual 98, 3) := by decide +kernel
theorem dX8_hasSomebodyStuck_34 : decode cX8_hasSomebodyStuck 34 = .ok (.ifCond .ne 5, 3) := by decide +kernel
theorem dX8_hasSomebodyStuck_0 : decode cX8_hasSomebodyStuck 0 = .ok (.iconst 0, 1) := by decide +kernel
theorem dX8_hasSomebodyStuck_1 : decode cX8_hasSomebodyStuck 1 = .ok (.istore_n 2, 1) := by decide +kernel
theorem dX8_hasSomebodyStuck_37 : decode cX8_hasSomebodyStuck 37 = .ok (.iconst 1, 1) := by decide +kernel
theorem dX8_hasSomebodyStuck_38 : decode cX8_hasSomebodyStuck 38 = .ok (.ireturn, 1) := by decide +kernel
theorem dX8_hasSomebodyStuck_45 : decode cX8_hasSomebodyStuck 45 = .ok (.iconst 0, 1) := by decide +kernel
theorem dX8_hasSomebodyStuck_46 : decode cX8_hasSomebodyStuck 46 = .ok (.ireturn, 1) := by decide +kernel
theorem dX8_noteFirstSteps_24 : decode cX8_noteFirstSteps 24 = .ok (.iload 5, 2) := by decide +kernel
theorem dX8_noteFirstSteps_26 : decode cX8_noteFirstSteps 26 = .ok (.aload_n 1, 1) := by decide +kernel
theorem dX8_noteFirstSteps_27 : decode cX8_noteFirstSteps 27 = .ok (.getfield 71, 3) := by decide +kernel
theorem dX8_noteFirstSteps_30 : decode cX8_noteFirstSteps 30 = .ok (.if_icmp .ge 44, 3) := by decide +kernel
theorem dX8_noteFirstSteps_33 : decode cX8_noteFirstSteps 33 = .ok (.iload 5, 2) := by decide +kernel
theorem dX8_noteFirstSteps_35 : decode cX8_noteFirstSteps 35 = .ok (.bipush 10, 2) := by decide +kernel
theorem dX8_noteFirstSteps_37 : decode cX8_noteFirstSteps 37 = .ok (.if_icmp .ge 37, 3) := by decide +kernel
theorem dX8_noteFirstSteps_40 : decode cX8_noteFirstSteps 40 = .ok (.iload_n 2, 1) := by decide +kernel
theorem dX8_noteFirstSteps_41 : decode cX8_noteFirstSteps 41 = .ok (.iload 5, 2) := by decide +kernel
theorem dX8_noteFirstSteps_43 : decode cX8_noteFirstSteps 43 = .ok (.ishr, 1) := by decide +kernel
theorem dX8_noteFirstSteps_44 : decode cX8_noteFirstSteps 44 = .ok (.iconst 1, 1) := by decide +kernel
theorem dX8_noteFirstSteps_45 : decode cX8_noteFirstSteps 45 = .ok (.iand, 1) := by decide +kernel
theorem dX8_noteFirstSteps_46 : decode cX8_noteFirstSteps 46 = .ok (.iconst 1, 1) := by decide +kernel
theorem dX8_noteFirstSteps_47 : decode cX8_noteFirstSteps 47 = .ok (.if_icmp .ne 21, 3) := by decide +kernel
theorem dX8_noteFirstSteps_68 : decode cX8_noteFirstSteps 68 = .ok (.iinc 5 1, 3) := by decide +kernel
theorem dX8_noteFirstSteps_71 : decode cX8_noteFirstSteps 71 = .ok (.goto (-47), 3) := by decide +kernel
theorem dX8_noteFirstSteps_50 : decode cX8_noteFirstSteps 50 = .ok (.iload 4, 2) := by decide +kernel
theorem dX8_noteFirstSteps_52 : decode cX8_noteFirstSteps 52 = .ok (.aload_n 0, 1) := by decide +kernel
theorem dX8_noteFirstSteps_53 : decode cX8_noteFirstSteps 53 = .ok (.getfield 18, 3) := by decide +kernel
theorem dX8_noteFirstSteps_56 : decode cX8_noteFirstSteps 56 = .ok (.iload 5, 2) := by decide +kernel
theorem dX8_noteFirstSteps_58 : decode cX8_noteFirstSteps 58 = .ok (.iconst 4, 1) := by decide +kernel
theorem dX8_noteFirstSteps_59 : decode cX8_noteFirstSteps 59 = .ok (.imul, 1) := by decide +kernel
theorem dX8_noteFirstSteps_60 : decode cX8_noteFirstSteps 60 = .ok (.iload_n 3, 1) := by decide +kernel
theorem dX8_noteFirstSteps_61 : decode cX8_noteFirstSteps 61 = .ok (.iadd, 1) := by decide +kernel
theorem dX8_noteFirstSteps_62 : decode cX8_noteFirstSteps 62 = .ok (.iaload, 1) := by decide +kernel
theorem dX8_noteFirstSteps_63 : decode cX8_noteFirstSteps 63 = .ok (.invokestatic 59, 3) := by decide +kernel
theorem dX8_noteFirstSteps_66 : decode cX8_noteFirstSteps 66 = .ok (.istore 4, 2) := by decide +kernel
theorem dX8_noteFirstSteps_2 : decode cX8_noteFirstSteps 2 = .ok (.iload_n 3, 1) := by decide +kernel
theorem dX8_noteFirstSteps_3 : decode cX8_noteFirstSteps 3 = .ok (.aload_n 1, 1) := by decide +kernel
theorem dX8_noteFirstSteps_4 : decode cX8_noteFirstSteps 4 = .ok (.getfield 30, 3) := by decide +kernel
theorem dX8_noteFirstSteps_7 : decode cX8_noteFirstSteps 7 = .ok (.getfield 36, 3) := by decide +kernel
theorem dX8_noteFirstSteps_10 : decode cX8_noteFirstSteps 10 = .ok (.if_icmp .ge 78, 3) := by decide +kernel
theorem dX8_noteFirstSteps_13 : decode cX8_noteFirstSteps 13 = .ok (.iload_n 3, 1) := by decide +kernel
theorem dX8_noteFirstSteps_14 : decode cX8_noteFirstSteps 14 = .ok (.iconst 4, 1) := by decide +kernel
theorem dX8_noteFirstSteps_15 : decode cX8_noteFirstSteps 15 = .ok (.if_icmp .ge 73, 3) := by decide +kernel
theorem dX8_noteFirstSteps_18 : decode cX8_noteFirstSteps 18 = .ok (.iconst (-1), 1) := by decide +kernel
theorem dX8_noteFirstSteps_19 : decode cX8_noteFirstSteps 19 = .ok (.istore 4, 2) := by decide +kernel
theorem dX8_noteFirstSteps_21 : decode cX8_noteFirstSteps 21 = .ok (.iconst 0, 1) := by decide +kernel
theorem dX8_noteFirstSteps_22 : decode cX8_noteFirstSteps 22 = .ok (.istore 5, 2) := by decide +kernel
theorem dX8_noteFirstSteps_74 : decode cX8_noteFirstSteps 74 = .ok (.aload_n 0, 1) := by decide +kernel
theorem dX8_noteFirstSteps_75 : decode cX8_noteFirstSteps 75 = .ok (.getfield 21, 3) := by decide +kernel
theorem dX8_noteFirstSteps_78 : decode cX8_noteFirstSteps 78 = .ok (.iload_n 3, 1) := by decide +kernel
theorem dX8_noteFirstSteps_79 : decode cX8_noteFirstSteps 79 = .ok (.iload 4, 2) := by decide +kernel
theorem dX8_noteFirstSteps_81 : decode cX8_noteFirstSteps 81 = .ok (.iastore, 1) := by decide +kernel
theorem dX8_noteFirstSteps_82 : decode cX8_noteFirstSteps 82 = .ok (.iinc 3 1, 3) := by decide +kernel
theorem dX8_noteFirstSteps_85 : decode cX8_noteFirstSteps 85 = .ok (.goto (-83), 3) := by decide +kernel
theorem dX8_noteFirstSteps_0 : decode cX8_noteFirstSteps 0 = .ok (.iconst 0, 1) := by decide +kernel
theorem dX8_noteFirstSteps_1 : decode cX8_noteFirstSteps 1 = .ok (.istore_n 3, 1) := by decide +kernel
theorem dX8_noteFirstSteps_88 : decode cX8_noteFirstSteps 88 = .ok (.return_, 1) := by decide +kernel
theorem dX8_menOf_4 : decode cX8_menOf 4 = .ok (.iload_n 3, 1) := by decide +kernel
theorem dX8_menOf_5 : decode cX8_menOf 5 = .ok (.aload_n 0, 1) := by decide +kernel
theorem dX8_menOf_6 : decode cX8_menOf 6 = .ok (.getfield 71, 3) := by decide +kernel
theorem dX8_menOf_9 : decode cX8_menOf 9 = .ok (.if_icmp .ge 36, 3) := by decide +kernel
theorem dX8_menOf_12 : decode cX8_menOf 12 = .ok (.iload_n 3, 1) := by decide +kernel
theorem dX8_menOf_13 : decode cX8_menOf 13 = .ok (.bipush 10, 2) := by decide +kernel
theorem dX8_menOf_15 : decode cX8_menOf 15 = .ok (.if_icmp .ge 30, 3) := by decide +kernel
theorem dX8_menOf_18 : decode cX8_menOf 18 = .ok (.iload_n 1, 1) := by decide +kernel
theorem dX8_menOf_19 : decode cX8_menOf 19 = .ok (.iload_n 3, 1) := by decide +kernel
theorem dX8_menOf_20 : decode cX8_menOf 20 = .ok (.ishr, 1) := by decide +kernel
theorem dX8_menOf_21 : decode cX8_menOf 21 = .ok (.iconst 1, 1) := by decide +kernel
theorem dX8_menOf_22 : decode cX8_menOf 22 = .ok (.iand, 1) := by decide +kernel
theorem dX8_menOf_23 : decode cX8_menOf 23 = .ok (.iconst 1, 1) := by decide +kernel
theorem dX8_menOf_24 : decode cX8_menOf 24 = .ok (.if_icmp .ne 15, 3) := by decide +kernel
theorem dX8_menOf_39 : decode cX8_menOf 39 = .ok (.iinc 3 1, 3) := by decide +kernel
theorem dX8_menOf_42 : decode cX8_menOf 42 = .ok (.goto (-38), 3) := by decide +kernel
theorem dX8_menOf_27 : decode cX8_menOf 27 = .ok (.iload_n 2, 1) := by decide +kernel
theorem dX8_menOf_28 : decode cX8_menOf 28 = .ok (.aload_n 0, 1) := by decide +kernel
theorem dX8_menOf_29 : decode cX8_menOf 29 = .ok (.getfield 91, 3) := by decide +kernel
theorem dX8_menOf_32 : decode cX8_menOf 32 = .ok (.iload_n 3, 1) := by decide +kernel
theorem dX8_menOf_33 : decode cX8_menOf 33 = .ok (.aaload, 1) := by decide +kernel
theorem dX8_menOf_34 : decode cX8_menOf 34 = .ok (.getfield 95, 3) := by decide +kernel
theorem dX8_menOf_37 : decode cX8_menOf 37 = .ok (.iadd, 1) := by decide +kernel
theorem dX8_menOf_38 : decode cX8_menOf 38 = .ok (.istore_n 2, 1) := by decide +kernel
theorem dX8_menOf_0 : decode cX8_menOf 0 = .ok (.iconst 0, 1) := by decide +kernel
theorem dX8_menOf_1 : decode cX8_menOf 1 = .ok (.istore_n 2, 1) := by decide +kernel
theorem dX8_menOf_2 : decode cX8_menOf 2 = .ok (.iconst 0, 1) := by decide +kernel
theorem dX8_menOf_3 : decode cX8_menOf 3 = .ok (.istore_n 3, 1) := by decide +kernel
theorem dX8_menOf_45 : decode cX8_menOf 45 = .ok (.iload_n 2, 1) := by decide +kernel
theorem dX8_menOf_46 : decode cX8_menOf 46 = .ok (.ireturn, 1) := by decide +kernel
theorem dX8_menLetOff_5 : decode cX8_menLetOff 5 = .ok (.iload 4, 2) := by decide +kernel
theorem dX8_menLetOff_7 : decode cX8_menLetOff 7 = .ok (.aload_n 1, 1) := by decide +kernel
theorem dX8_menLetOff_8 : decode cX8_menLetOff 8 = .ok (.getfield 30, 3) := by decide +kernel
theorem dX8_menLetOff_11 : decode cX8_menLetOff 11 = .ok (.getfield 36, 3) := by decide +kernel
theorem dX8_menLetOff_14 : decode cX8_menLetOff 14 = .ok (.if_icmp .ge 60, 3) := by decide +kernel
theorem dX8_menLetOff_17 : decode cX8_menLetOff 17 = .ok (.iload 4, 2) := by decide +kernel
theorem dX8_menLetOff_19 : decode cX8_menLetOff 19 = .ok (.iconst 4, 1) := by decide +kernel
theorem dX8_menLetOff_20 : decode cX8_menLetOff 20 = .ok (.if_icmp .ge 54, 3) := by decide +kernel
theorem dX8_menLetOff_23 : decode cX8_menLetOff 23 = .ok (.aload_n 0, 1) := by decide +kernel
theorem dX8_menLetOff_24 : decode cX8_menLetOff 24 = .ok (.getfield 21, 3) := by decide +kernel
theorem dX8_menLetOff_27 : decode cX8_menLetOff 27 = .ok (.iload 4, 2) := by decide +kernel
theorem dX8_menLetOff_29 : decode cX8_menLetOff 29 = .ok (.iaload, 1) := by decide +kernel
theorem dX8_menLetOff_30 : decode cX8_menLetOff 30 = .ok (.iconst (-1), 1) := by decide +kernel
theorem dX8_menLetOff_31 : decode cX8_menLetOff 31 = .ok (.if_icmp .eq 37, 3) := by decide +kernel
theorem dX8_menLetOff_68 : decode cX8_menLetOff 68 = .ok (.iinc 4 1, 3) := by decide +kernel
theorem dX8_menLetOff_71 : decode cX8_menLetOff 71 = .ok (.goto (-66), 3) := by decide +kernel
theorem dX8_menLetOff_34 : decode cX8_menLetOff 34 = .ok (.aload_n 0, 1) := by decide +kernel
theorem dX8_menLetOff_35 : decode cX8_menLetOff 35 = .ok (.getfield 21, 3) := by decide +kernel
theorem dX8_menLetOff_38 : decode cX8_menLetOff 38 = .ok (.iload 4, 2) := by decide +kernel
theorem dX8_menLetOff_40 : decode cX8_menLetOff 40 = .ok (.iaload, 1) := by decide +kernel
theorem dX8_menLetOff_41 : decode cX8_menLetOff 41 = .ok (.iload_n 2, 1) := by decide +kernel
theorem dX8_menLetOff_42 : decode cX8_menLetOff 42 = .ok (.if_icmp .ge 26, 3) := by decide +kernel
theorem dX8_menLetOff_45 : decode cX8_menLetOff 45 = .ok (.iload_n 3, 1) := by decide +kernel
theorem dX8_menLetOff_46 : decode cX8_menLetOff 46 = .ok (.aload_n 1, 1) := by decide +kernel
theorem dX8_menLetOff_47 : decode cX8_menLetOff 47 = .ok (.getfield 30, 3) := by decide +kernel
theorem kw_1_105 : Cond.fieldLink RX8 135 "IceFair$Customs" "stairMen" "[I" ∈ gw := gw_t1 (List.mem_of_getElem? (i := 105) (by decide +kernel)) (by decide +kernel)
theorem dX8_menLetOff_50 : decode cX8_menLetOff 50 = .ok (.getfield 135, 3) := by decide +kernel
theorem dX8_menLetOff_53 : decode cX8_menLetOff 53 = .ok (.iload 4, 2) := by decide +kernel
theorem dX8_menLetOff_55 : decode cX8_menLetOff 55 = .ok (.iaload, 1) := by decide +kernel
theorem dX8_menLetOff_56 : decode cX8_menLetOff 56 = .ok (.iload_n 2, 1) := by decide +kernel
theorem dX8_menLetOff_57 : decode cX8_menLetOff 57 = .ok (.aload_n 0, 1) := by decide +kernel
theorem dX8_menLetOff_58 : decode cX8_menLetOff 58 = .ok (.getfield 21, 3) := by decide +kernel
theorem dX8_menLetOff_61 : decode cX8_menLetOff 61 = .ok (.iload 4, 2) := by decide +kernel
theorem dX8_menLetOff_63 : decode cX8_menLetOff 63 = .ok (.iaload, 1) := by decide +kernel
theorem dX8_menLetOff_64 : decode cX8_menLetOff 64 = .ok (.isub, 1) := by decide +kernel
theorem dX8_menLetOff_65 : decode cX8_menLetOff 65 = .ok (.imul, 1) := by decide +kernel
theorem dX8_menLetOff_66 : decode cX8_menLetOff 66 = .ok (.iadd, 1) := by decide +kernel
theorem dX8_menLetOff_67 : decode cX8_menLetOff 67 = .ok (.istore_n 3, 1) := by decide +kernel
theorem dX8_menLetOff_0 : decode cX8_menLetOff 0 = .ok (.iconst 0, 1) := by decide +kernel
theorem dX8_menLetOff_1 : decode cX8_menLetOff 1 = .ok (.istore_n 3, 1) := by decide +kernel
theorem dX8_menLetOff_2 : decode cX8_menLetOff 2 = .ok (.iconst 0, 1) := by decide +kernel
theorem dX8_menLetOff_3 : decode cX8_menLetOff 3 = .ok (.istore 4, 2) := by decide +kernel
theorem dX8_menLetOff_74 : decode cX8_menLetOff 74 = .ok (.iload_n 3, 1) := by decide +kernel
theorem dX8_menLetOff_75 : decode cX8_menLetOff 75 = .ok (.ireturn, 1) := by decide +kernel
theorem dX8_minutesFor_3 : decode cX8_minutesFor 3 = .ok (.iload 4, 2) := by decide +kernel
theorem dX8_minutesFor_5 : decode cX8_minutesFor 5 = .ok (.sipush 2000, 3) := by decide +kernel
theorem dX8_minutesFor_8 : decode cX8_minutesFor 8 = .ok (.if_icmp .ge 20, 3) := by decide +kernel
theorem dX8_minutesFor_11 : decode cX8_minutesFor 11 = .ok (.aload_n 0, 1) := by decide +kernel
theorem dX8_minutesFor_12 : decode cX8_minutesFor 12 = .ok (.aload_n 1, 1) := by decide +kernel
theorem dX8_minutesFor_13 : decode cX8_minutesFor 13 = .ok (.iload 4, 2) := by decide +kernel
theorem kw_4_48 : Cond.methodLink RX8 88 yX8_menLetOff ∈ gw := gw_t4 (List.mem_of_getElem? (i := 48) (by decide +kernel)) (by decide +kernel)
theorem kw_4_50 : Cond.instanceMethod yX8_menLetOff ∈ gw := gw_t4 (List.mem_of_getElem? (i := 50) (by decide +kernel)) (by decide +kernel)
theorem ks_2_15 : Cond.selects RX8 yX8_menLetOff yX8_menLetOff ∈ gw := gw_s (y := yX8_menLetOff) (n := 6) (List.mem_append_right _ (List.mem_append_left _ (List.mem_of_getElem? (i := 15) (by decide +kernel))))
theorem kw_4_51 : Cond.code yX8_menLetOff cX8_menLetOff 5 (some .int) ∈ gw := gw_t4 (List.mem_of_getElem? (i := 51) (by decide +kernel)) (by decide +kernel)
theorem gk_X8_88 : GoodIn gw (wsV RX8 88 RX8 yX8_menLetOff (.code yX8_menLetOff cX8_menLetOff 5 (some .int) :: gw)) ∧ (yX8_menLetOff.cls = RX8 ∧ yX8_menLetOff.cls ≠ "java/lang/invoke/MethodHandle" ∧ yX8_menLetOff.cls ≠ "java/lang/invoke/VarHandle" ∧ (parseMethodDescriptor yX8_menLetOff.desc).map (fun d => d.parameters.length) = some 2) := ⟨gi_V kw_4_48 kw_4_50 ks_2_15 kw_1_10 kw_4_51, by decide +kernel⟩
theorem dX8_minutesFor_15 : decode cX8_minutesFor 15 = .ok (.invokevirtual 88, 3) := by decide +kernel
theorem dX8_minutesFor_18 : decode cX8_minutesFor 18 = .ok (.iload_n 2, 1) := by decide +kernel
theorem dX8_minutesFor_19 : decode cX8_minutesFor 19 = .ok (.if_icmp .ge 9, 3) := by decide +kernel
theorem dX8_minutesFor_22 : decode cX8_minutesFor 22 = .ok (.iinc 4 1, 3) := by decide +kernel
theorem dX8_minutesFor_25 : decode cX8_minutesFor 25 = .ok (.goto (-22), 3) := by decide +kernel
theorem dX8_minutesFor_0 : decode cX8_minutesFor 0 = .ok (.iload_n 3, 1) := by decide +kernel
theorem dX8_minutesFor_1 : decode cX8_minutesFor 1 = .ok (.istore 4, 2) := by decide +kernel
theorem dX8_minutesFor_28 : decode cX8_minutesFor 28 = .ok (.iload 4, 2) := by decide +kernel
theorem dX8_minutesFor_30 : decode cX8_minutesFor 30 = .ok (.ireturn, 1) := by decide +kernel